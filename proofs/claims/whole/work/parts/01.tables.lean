-- ===== PART A: goes FIRST, ahead of the names: the tables' words, and 'selects' of the private methods out of them =====
/-- a private method of a class that the tables say can be made, by its rows of tables_1 -/
def lw_okq (q : MethodName × Nat) : Prop := (q.1.cls ≠ "java/lang/invoke/MethodHandle" ∧ q.1.cls ≠ "java/lang/invoke/VarHandle") ∧ Cond.instantiable q.1.cls q.2 ∈ tables_1 ∧ Cond.privateMethod q.1 ∈ tables_1 ∧ Cond.instanceMethod q.1 ∈ tables_1
theorem lw_p0 : lw_okq (⟨"ShuntYard$Text", "foundFault", "(II)Z"⟩, 6) := ⟨⟨by decide +kernel, by decide +kernel⟩, List.mem_of_getElem? (i := 127) (by decide +kernel), List.mem_of_getElem? (i := 296) (by decide +kernel), List.mem_of_getElem? (i := 297) (by decide +kernel)⟩
theorem lw_p1 : lw_okq (⟨"ShuntYard$Text", "fillLatest", "(II)V"⟩, 6) := ⟨⟨by decide +kernel, by decide +kernel⟩, List.mem_of_getElem? (i := 127) (by decide +kernel), List.mem_of_getElem? (i := 303) (by decide +kernel), List.mem_of_getElem? (i := 304) (by decide +kernel)⟩
theorem lw_p2 : lw_okq (⟨"ShuntYard$Yard", "passPart", "(III)V"⟩, 15) := ⟨⟨by decide +kernel, by decide +kernel⟩, List.mem_of_getElem? (i := 21) (by decide +kernel), List.mem_of_getElem? (i := 315) (by decide +kernel), List.mem_of_getElem? (i := 316) (by decide +kernel)⟩
theorem lw_p3 : lw_okq (⟨"ShuntYard$Yard", "isSafeBehindMove", "(III)Z"⟩, 15) := ⟨⟨by decide +kernel, by decide +kernel⟩, List.mem_of_getElem? (i := 21) (by decide +kernel), List.mem_of_getElem? (i := 360) (by decide +kernel), List.mem_of_getElem? (i := 361) (by decide +kernel)⟩
theorem lw_p4 : lw_okq (⟨"ShuntYard$Yard", "minutesOf", "(III)I"⟩, 15) := ⟨⟨by decide +kernel, by decide +kernel⟩, List.mem_of_getElem? (i := 21) (by decide +kernel), List.mem_of_getElem? (i := 364) (by decide +kernel), List.mem_of_getElem? (i := 365) (by decide +kernel)⟩
theorem lw_p5 : lw_okq (⟨"ShuntYard$Yard", "forFirstOn", "(I)I"⟩, 15) := ⟨⟨by decide +kernel, by decide +kernel⟩, List.mem_of_getElem? (i := 21) (by decide +kernel), List.mem_of_getElem? (i := 399) (by decide +kernel), List.mem_of_getElem? (i := 400) (by decide +kernel)⟩
theorem lw_p6 : lw_okq (⟨"ShuntYard$Search", "seek", "(I)V"⟩, 7) := ⟨⟨by decide +kernel, by decide +kernel⟩, List.mem_of_getElem? (i := 158) (by decide +kernel), List.mem_of_getElem? (i := 441) (by decide +kernel), List.mem_of_getElem? (i := 442) (by decide +kernel)⟩
theorem lw_p7 : lw_okq (⟨"ShuntYard$Search", "keepIfCheaper", "()V"⟩, 7) := ⟨⟨by decide +kernel, by decide +kernel⟩, List.mem_of_getElem? (i := 158) (by decide +kernel), List.mem_of_getElem? (i := 449) (by decide +kernel), List.mem_of_getElem? (i := 450) (by decide +kernel)⟩
theorem lw_p8 : lw_okq (⟨"ShuntYard$Search", "movesNeeded", "()I"⟩, 7) := ⟨⟨by decide +kernel, by decide +kernel⟩, List.mem_of_getElem? (i := 158) (by decide +kernel), List.mem_of_getElem? (i := 462) (by decide +kernel), List.mem_of_getElem? (i := 463) (by decide +kernel)⟩
theorem lw_p9 : lw_okq (⟨"ShuntYard$Search", "countWanted", "(I)V"⟩, 7) := ⟨⟨by decide +kernel, by decide +kernel⟩, List.mem_of_getElem? (i := 158) (by decide +kernel), List.mem_of_getElem? (i := 466) (by decide +kernel), List.mem_of_getElem? (i := 467) (by decide +kernel)⟩
theorem lw_p10 : lw_okq (⟨"ShuntYard$Search", "movesNeededFor", "(I)I"⟩, 7) := ⟨⟨by decide +kernel, by decide +kernel⟩, List.mem_of_getElem? (i := 158) (by decide +kernel), List.mem_of_getElem? (i := 471) (by decide +kernel), List.mem_of_getElem? (i := 472) (by decide +kernel)⟩
theorem lw_p11 : lw_okq (⟨"ShuntYard$Search", "isTooDear", "(I)Z"⟩, 7) := ⟨⟨by decide +kernel, by decide +kernel⟩, List.mem_of_getElem? (i := 158) (by decide +kernel), List.mem_of_getElem? (i := 475) (by decide +kernel), List.mem_of_getElem? (i := 476) (by decide +kernel)⟩
theorem lw_p12 : lw_okq (⟨"ShuntYard$Search", "seekBehindMove", "(IIIII)V"⟩, 7) := ⟨⟨by decide +kernel, by decide +kernel⟩, List.mem_of_getElem? (i := 158) (by decide +kernel), List.mem_of_getElem? (i := 480) (by decide +kernel), List.mem_of_getElem? (i := 481) (by decide +kernel)⟩
theorem lw_p13 : lw_okq (⟨"ShuntYardModel", "areTracks", "(III)Z"⟩, 24) := ⟨⟨by decide +kernel, by decide +kernel⟩, List.mem_of_getElem? (i := 584) (by decide +kernel), List.mem_of_getElem? (i := 667) (by decide +kernel), List.mem_of_getElem? (i := 668) (by decide +kernel)⟩
theorem lw_p14 : lw_okq (⟨"ShuntYardModel", "isTrack", "(I)Z"⟩, 24) := ⟨⟨by decide +kernel, by decide +kernel⟩, List.mem_of_getElem? (i := 584) (by decide +kernel), List.mem_of_getElem? (i := 671) (by decide +kernel), List.mem_of_getElem? (i := 672) (by decide +kernel)⟩
theorem lw_p15 : lw_okq (⟨"ShuntYardModel", "costOf", "(III)I"⟩, 24) := ⟨⟨by decide +kernel, by decide +kernel⟩, List.mem_of_getElem? (i := 584) (by decide +kernel), List.mem_of_getElem? (i := 678) (by decide +kernel), List.mem_of_getElem? (i := 679) (by decide +kernel)⟩
def lw_privs_1 : List (MethodName × Nat) := [(⟨"ShuntYard$Text", "foundFault", "(II)Z"⟩, 6), (⟨"ShuntYard$Text", "fillLatest", "(II)V"⟩, 6), (⟨"ShuntYard$Yard", "passPart", "(III)V"⟩, 15), (⟨"ShuntYard$Yard", "isSafeBehindMove", "(III)Z"⟩, 15), (⟨"ShuntYard$Yard", "minutesOf", "(III)I"⟩, 15), (⟨"ShuntYard$Yard", "forFirstOn", "(I)I"⟩, 15), (⟨"ShuntYard$Search", "seek", "(I)V"⟩, 7), (⟨"ShuntYard$Search", "keepIfCheaper", "()V"⟩, 7), (⟨"ShuntYard$Search", "movesNeeded", "()I"⟩, 7), (⟨"ShuntYard$Search", "countWanted", "(I)V"⟩, 7), (⟨"ShuntYard$Search", "movesNeededFor", "(I)I"⟩, 7), (⟨"ShuntYard$Search", "isTooDear", "(I)Z"⟩, 7), (⟨"ShuntYard$Search", "seekBehindMove", "(IIIII)V"⟩, 7), (⟨"ShuntYardModel", "areTracks", "(III)Z"⟩, 24), (⟨"ShuntYardModel", "isTrack", "(I)Z"⟩, 24), (⟨"ShuntYardModel", "costOf", "(III)I"⟩, 24)]
theorem lw_r1 : ∀ q ∈ lw_privs_1, lw_okq q := List.forall_mem_cons.mpr ⟨lw_p0, List.forall_mem_cons.mpr ⟨lw_p1, List.forall_mem_cons.mpr ⟨lw_p2, List.forall_mem_cons.mpr ⟨lw_p3, List.forall_mem_cons.mpr ⟨lw_p4, List.forall_mem_cons.mpr ⟨lw_p5, List.forall_mem_cons.mpr ⟨lw_p6, List.forall_mem_cons.mpr ⟨lw_p7, List.forall_mem_cons.mpr ⟨lw_p8, List.forall_mem_cons.mpr ⟨lw_p9, List.forall_mem_cons.mpr ⟨lw_p10, List.forall_mem_cons.mpr ⟨lw_p11, List.forall_mem_cons.mpr ⟨lw_p12, List.forall_mem_cons.mpr ⟨lw_p13, List.forall_mem_cons.mpr ⟨lw_p14, List.forall_mem_cons.mpr ⟨lw_p15, fun _ h => absurd h List.not_mem_nil⟩⟩⟩⟩⟩⟩⟩⟩⟩⟩⟩⟩⟩⟩⟩⟩
theorem lw_p16 : lw_okq (⟨"ShuntYardModel", "of", "(II)I"⟩, 24) := ⟨⟨by decide +kernel, by decide +kernel⟩, List.mem_of_getElem? (i := 584) (by decide +kernel), List.mem_of_getElem? (i := 682) (by decide +kernel), List.mem_of_getElem? (i := 683) (by decide +kernel)⟩
theorem lw_p17 : lw_okq (⟨"ShuntYardModel", "beginRow", "(II)V"⟩, 24) := ⟨⟨by decide +kernel, by decide +kernel⟩, List.mem_of_getElem? (i := 584) (by decide +kernel), List.mem_of_getElem? (i := 686) (by decide +kernel), List.mem_of_getElem? (i := 687) (by decide +kernel)⟩
theorem lw_p18 : lw_okq (⟨"ShuntYardModel", "kindAt", "(II)I"⟩, 24) := ⟨⟨by decide +kernel, by decide +kernel⟩, List.mem_of_getElem? (i := 584) (by decide +kernel), List.mem_of_getElem? (i := 690) (by decide +kernel), List.mem_of_getElem? (i := 691) (by decide +kernel)⟩
theorem lw_p19 : lw_okq (⟨"ShuntYardModel", "appendKind", "(I)V"⟩, 24) := ⟨⟨by decide +kernel, by decide +kernel⟩, List.mem_of_getElem? (i := 584) (by decide +kernel), List.mem_of_getElem? (i := 694) (by decide +kernel), List.mem_of_getElem? (i := 695) (by decide +kernel)⟩
theorem lw_p20 : lw_okq (⟨"ShuntYardModel", "isSafeRow", "()Z"⟩, 24) := ⟨⟨by decide +kernel, by decide +kernel⟩, List.mem_of_getElem? (i := 584) (by decide +kernel), List.mem_of_getElem? (i := 698) (by decide +kernel), List.mem_of_getElem? (i := 699) (by decide +kernel)⟩
theorem lw_p21 : lw_okq (⟨"ShuntYardModel", "leastGap", "()I"⟩, 24) := ⟨⟨by decide +kernel, by decide +kernel⟩, List.mem_of_getElem? (i := 584) (by decide +kernel), List.mem_of_getElem? (i := 702) (by decide +kernel), List.mem_of_getElem? (i := 703) (by decide +kernel)⟩
theorem lw_p22 : lw_okq (⟨"ShuntYardModel", "remember", "()V"⟩, 24) := ⟨⟨by decide +kernel, by decide +kernel⟩, List.mem_of_getElem? (i := 584) (by decide +kernel), List.mem_of_getElem? (i := 711) (by decide +kernel), List.mem_of_getElem? (i := 712) (by decide +kernel)⟩
theorem lw_p23 : lw_okq (⟨"ShuntYardModel", "carry", "(IIII)V"⟩, 24) := ⟨⟨by decide +kernel, by decide +kernel⟩, List.mem_of_getElem? (i := 584) (by decide +kernel), List.mem_of_getElem? (i := 715) (by decide +kernel), List.mem_of_getElem? (i := 716) (by decide +kernel)⟩
theorem lw_p24 : lw_okq (⟨"ShuntYardModel", "put", "(III)V"⟩, 24) := ⟨⟨by decide +kernel, by decide +kernel⟩, List.mem_of_getElem? (i := 584) (by decide +kernel), List.mem_of_getElem? (i := 719) (by decide +kernel), List.mem_of_getElem? (i := 720) (by decide +kernel)⟩
theorem lw_p25 : lw_okq (⟨"ShuntYardModel", "reasonAgainst", "(I)I"⟩, 24) := ⟨⟨by decide +kernel, by decide +kernel⟩, List.mem_of_getElem? (i := 584) (by decide +kernel), List.mem_of_getElem? (i := 735) (by decide +kernel), List.mem_of_getElem? (i := 736) (by decide +kernel)⟩
theorem lw_p26 : lw_okq (⟨"ShuntYardModel", "bound", "(II)I"⟩, 24) := ⟨⟨by decide +kernel, by decide +kernel⟩, List.mem_of_getElem? (i := 584) (by decide +kernel), List.mem_of_getElem? (i := 739) (by decide +kernel), List.mem_of_getElem? (i := 740) (by decide +kernel)⟩
theorem lw_p27 : lw_okq (⟨"ShuntYardModel", "destination", "(II)I"⟩, 24) := ⟨⟨by decide +kernel, by decide +kernel⟩, List.mem_of_getElem? (i := 584) (by decide +kernel), List.mem_of_getElem? (i := 743) (by decide +kernel), List.mem_of_getElem? (i := 744) (by decide +kernel)⟩
theorem lw_p28 : lw_okq (⟨"ShuntYardModel", "isSafe", "(I)Z"⟩, 24) := ⟨⟨by decide +kernel, by decide +kernel⟩, List.mem_of_getElem? (i := 584) (by decide +kernel), List.mem_of_getElem? (i := 747) (by decide +kernel), List.mem_of_getElem? (i := 748) (by decide +kernel)⟩
theorem lw_p29 : lw_okq (⟨"ShuntYardModel", "stillHolds", "(I)I"⟩, 24) := ⟨⟨by decide +kernel, by decide +kernel⟩, List.mem_of_getElem? (i := 584) (by decide +kernel), List.mem_of_getElem? (i := 751) (by decide +kernel), List.mem_of_getElem? (i := 752) (by decide +kernel)⟩
theorem lw_p30 : lw_okq (⟨"ShuntYardModel", "readWagons", "()V"⟩, 24) := ⟨⟨by decide +kernel, by decide +kernel⟩, List.mem_of_getElem? (i := 584) (by decide +kernel), List.mem_of_getElem? (i := 759) (by decide +kernel), List.mem_of_getElem? (i := 760) (by decide +kernel)⟩
theorem lw_p31 : lw_okq (⟨"ShuntYardModel", "fails", "(II)V"⟩, 24) := ⟨⟨by decide +kernel, by decide +kernel⟩, List.mem_of_getElem? (i := 584) (by decide +kernel), List.mem_of_getElem? (i := 763) (by decide +kernel), List.mem_of_getElem? (i := 764) (by decide +kernel)⟩
def lw_privs_2 : List (MethodName × Nat) := [(⟨"ShuntYardModel", "of", "(II)I"⟩, 24), (⟨"ShuntYardModel", "beginRow", "(II)V"⟩, 24), (⟨"ShuntYardModel", "kindAt", "(II)I"⟩, 24), (⟨"ShuntYardModel", "appendKind", "(I)V"⟩, 24), (⟨"ShuntYardModel", "isSafeRow", "()Z"⟩, 24), (⟨"ShuntYardModel", "leastGap", "()I"⟩, 24), (⟨"ShuntYardModel", "remember", "()V"⟩, 24), (⟨"ShuntYardModel", "carry", "(IIII)V"⟩, 24), (⟨"ShuntYardModel", "put", "(III)V"⟩, 24), (⟨"ShuntYardModel", "reasonAgainst", "(I)I"⟩, 24), (⟨"ShuntYardModel", "bound", "(II)I"⟩, 24), (⟨"ShuntYardModel", "destination", "(II)I"⟩, 24), (⟨"ShuntYardModel", "isSafe", "(I)Z"⟩, 24), (⟨"ShuntYardModel", "stillHolds", "(I)I"⟩, 24), (⟨"ShuntYardModel", "readWagons", "()V"⟩, 24), (⟨"ShuntYardModel", "fails", "(II)V"⟩, 24)]
theorem lw_r2 : ∀ q ∈ lw_privs_2, lw_okq q := List.forall_mem_cons.mpr ⟨lw_p16, List.forall_mem_cons.mpr ⟨lw_p17, List.forall_mem_cons.mpr ⟨lw_p18, List.forall_mem_cons.mpr ⟨lw_p19, List.forall_mem_cons.mpr ⟨lw_p20, List.forall_mem_cons.mpr ⟨lw_p21, List.forall_mem_cons.mpr ⟨lw_p22, List.forall_mem_cons.mpr ⟨lw_p23, List.forall_mem_cons.mpr ⟨lw_p24, List.forall_mem_cons.mpr ⟨lw_p25, List.forall_mem_cons.mpr ⟨lw_p26, List.forall_mem_cons.mpr ⟨lw_p27, List.forall_mem_cons.mpr ⟨lw_p28, List.forall_mem_cons.mpr ⟨lw_p29, List.forall_mem_cons.mpr ⟨lw_p30, List.forall_mem_cons.mpr ⟨lw_p31, fun _ h => absurd h List.not_mem_nil⟩⟩⟩⟩⟩⟩⟩⟩⟩⟩⟩⟩⟩⟩⟩⟩
theorem lw_p32 : lw_okq (⟨"ShuntYardModel", "hasFault", "()Z"⟩, 24) := ⟨⟨by decide +kernel, by decide +kernel⟩, List.mem_of_getElem? (i := 584) (by decide +kernel), List.mem_of_getElem? (i := 770) (by decide +kernel), List.mem_of_getElem? (i := 771) (by decide +kernel)⟩
theorem lw_p33 : lw_okq (⟨"ShuntYardModel", "readList", "()V"⟩, 24) := ⟨⟨by decide +kernel, by decide +kernel⟩, List.mem_of_getElem? (i := 584) (by decide +kernel), List.mem_of_getElem? (i := 778) (by decide +kernel), List.mem_of_getElem? (i := 779) (by decide +kernel)⟩
theorem lw_p34 : lw_okq (⟨"ShuntYardModel", "search", "(I)V"⟩, 24) := ⟨⟨by decide +kernel, by decide +kernel⟩, List.mem_of_getElem? (i := 584) (by decide +kernel), List.mem_of_getElem? (i := 798) (by decide +kernel), List.mem_of_getElem? (i := 799) (by decide +kernel)⟩
theorem lw_p35 : lw_okq (⟨"ShuntYardModel", "note", "(II)V"⟩, 24) := ⟨⟨by decide +kernel, by decide +kernel⟩, List.mem_of_getElem? (i := 584) (by decide +kernel), List.mem_of_getElem? (i := 802) (by decide +kernel), List.mem_of_getElem? (i := 803) (by decide +kernel)⟩
theorem lw_p36 : lw_okq (⟨"ShuntYardModel", "madeUp", "()I"⟩, 24) := ⟨⟨by decide +kernel, by decide +kernel⟩, List.mem_of_getElem? (i := 584) (by decide +kernel), List.mem_of_getElem? (i := 806) (by decide +kernel), List.mem_of_getElem? (i := 807) (by decide +kernel)⟩
theorem lw_p37 : lw_okq (⟨"ShuntYardModel", "spread", "()I"⟩, 24) := ⟨⟨by decide +kernel, by decide +kernel⟩, List.mem_of_getElem? (i := 584) (by decide +kernel), List.mem_of_getElem? (i := 810) (by decide +kernel), List.mem_of_getElem? (i := 811) (by decide +kernel)⟩
theorem lw_p38 : lw_okq (⟨"ShuntYardModel", "isWorthIt", "(I)Z"⟩, 24) := ⟨⟨by decide +kernel, by decide +kernel⟩, List.mem_of_getElem? (i := 584) (by decide +kernel), List.mem_of_getElem? (i := 814) (by decide +kernel), List.mem_of_getElem? (i := 815) (by decide +kernel)⟩
theorem lw_p39 : lw_okq (⟨"ShuntYardModel", "enter", "(I)V"⟩, 24) := ⟨⟨by decide +kernel, by decide +kernel⟩, List.mem_of_getElem? (i := 584) (by decide +kernel), List.mem_of_getElem? (i := 818) (by decide +kernel), List.mem_of_getElem? (i := 819) (by decide +kernel)⟩
theorem lw_p40 : lw_okq (⟨"ShuntYardModel", "hold", "(I)V"⟩, 24) := ⟨⟨by decide +kernel, by decide +kernel⟩, List.mem_of_getElem? (i := 584) (by decide +kernel), List.mem_of_getElem? (i := 822) (by decide +kernel), List.mem_of_getElem? (i := 823) (by decide +kernel)⟩
theorem lw_p41 : lw_okq (⟨"ShuntYardModel", "release", "(I)V"⟩, 24) := ⟨⟨by decide +kernel, by decide +kernel⟩, List.mem_of_getElem? (i := 584) (by decide +kernel), List.mem_of_getElem? (i := 826) (by decide +kernel), List.mem_of_getElem? (i := 827) (by decide +kernel)⟩
theorem lw_p42 : lw_okq (⟨"ShuntYardModel", "next", "(I)Z"⟩, 24) := ⟨⟨by decide +kernel, by decide +kernel⟩, List.mem_of_getElem? (i := 584) (by decide +kernel), List.mem_of_getElem? (i := 830) (by decide +kernel), List.mem_of_getElem? (i := 831) (by decide +kernel)⟩
theorem lw_p43 : lw_okq (⟨"ShuntYardModel", "tryMove", "(II)I"⟩, 24) := ⟨⟨by decide +kernel, by decide +kernel⟩, List.mem_of_getElem? (i := 584) (by decide +kernel), List.mem_of_getElem? (i := 834) (by decide +kernel), List.mem_of_getElem? (i := 835) (by decide +kernel)⟩
theorem lw_p44 : lw_okq (⟨"ShuntYardModel", "wagons", "()I"⟩, 24) := ⟨⟨by decide +kernel, by decide +kernel⟩, List.mem_of_getElem? (i := 584) (by decide +kernel), List.mem_of_getElem? (i := 846) (by decide +kernel), List.mem_of_getElem? (i := 847) (by decide +kernel)⟩
theorem lw_p45 : lw_okq (⟨"ShuntYardModel", "unsafeTracks", "()I"⟩, 24) := ⟨⟨by decide +kernel, by decide +kernel⟩, List.mem_of_getElem? (i := 584) (by decide +kernel), List.mem_of_getElem? (i := 865) (by decide +kernel), List.mem_of_getElem? (i := 866) (by decide +kernel)⟩
def lw_privs_3 : List (MethodName × Nat) := [(⟨"ShuntYardModel", "hasFault", "()Z"⟩, 24), (⟨"ShuntYardModel", "readList", "()V"⟩, 24), (⟨"ShuntYardModel", "search", "(I)V"⟩, 24), (⟨"ShuntYardModel", "note", "(II)V"⟩, 24), (⟨"ShuntYardModel", "madeUp", "()I"⟩, 24), (⟨"ShuntYardModel", "spread", "()I"⟩, 24), (⟨"ShuntYardModel", "isWorthIt", "(I)Z"⟩, 24), (⟨"ShuntYardModel", "enter", "(I)V"⟩, 24), (⟨"ShuntYardModel", "hold", "(I)V"⟩, 24), (⟨"ShuntYardModel", "release", "(I)V"⟩, 24), (⟨"ShuntYardModel", "next", "(I)Z"⟩, 24), (⟨"ShuntYardModel", "tryMove", "(II)I"⟩, 24), (⟨"ShuntYardModel", "wagons", "()I"⟩, 24), (⟨"ShuntYardModel", "unsafeTracks", "()I"⟩, 24)]
theorem lw_r3 : ∀ q ∈ lw_privs_3, lw_okq q := List.forall_mem_cons.mpr ⟨lw_p32, List.forall_mem_cons.mpr ⟨lw_p33, List.forall_mem_cons.mpr ⟨lw_p34, List.forall_mem_cons.mpr ⟨lw_p35, List.forall_mem_cons.mpr ⟨lw_p36, List.forall_mem_cons.mpr ⟨lw_p37, List.forall_mem_cons.mpr ⟨lw_p38, List.forall_mem_cons.mpr ⟨lw_p39, List.forall_mem_cons.mpr ⟨lw_p40, List.forall_mem_cons.mpr ⟨lw_p41, List.forall_mem_cons.mpr ⟨lw_p42, List.forall_mem_cons.mpr ⟨lw_p43, List.forall_mem_cons.mpr ⟨lw_p44, List.forall_mem_cons.mpr ⟨lw_p45, fun _ h => absurd h List.not_mem_nil⟩⟩⟩⟩⟩⟩⟩⟩⟩⟩⟩⟩⟩⟩
def lw_privs : List (MethodName × Nat) := lw_privs_1 ++ (lw_privs_2 ++ (lw_privs_3))
def lw_tbl : List Cond := k2_sels lw_privs ++ tables_1
theorem lw_privs_ok : ∀ q ∈ lw_privs, lw_okq q := by
  show ∀ q ∈ lw_privs_1 ++ (lw_privs_2 ++ (lw_privs_3)), lw_okq q
  exact List.forall_mem_append.mpr ⟨lw_r1, List.forall_mem_append.mpr ⟨lw_r2, lw_r3⟩⟩
/-- the streams that the claim lets the run draw from -/
abbrev lw_cs : List Choice := [Jvm.Choice.named "NaN.bits"]
theorem lw_bits : nanBits ∈ lw_cs := by first | decide | exact List.mem_cons_self | simp [lw_cs, nanBits]
/-! ===== BEGIN words of one list among another's, by their places ===== -/
theorem goodIn_r {big : List Cond} (ws : List Cond) (ps : List Nat) (hp : ws = ps.filterMap (fun i => big[i]?)) (h : ws.all goodWord = true) : GoodIn big ws := by
  intro w hw
  have h1 := List.all_eq_true.mp h w hw
  rw [hp] at hw
  obtain ⟨i, -, hi⟩ := List.mem_filterMap.mp hw
  have hm : w ∈ big := by first | exact List.mem_of_getElem? hi | exact List.getElem?_mem hi
  exact ⟨hm, good_of_word h1⟩
theorem goodIn_app {big a b : List Cond} (ha : GoodIn big a) (hb : GoodIn big b) : GoodIn big (a ++ b) := fun w h => (List.mem_append.mp h).elim (ha w) (hb w)
theorem goodIn_ca {big a b : List Cond} {c : Cond} (ha : GoodIn big (c :: a)) (hb : GoodIn big b) : GoodIn big (c :: (a ++ b)) := fun w h => (List.mem_cons.mp h).elim (fun e => ha w (List.mem_cons.mpr (Or.inl e))) (fun h => (List.mem_append.mp h).elim (fun h => ha w (List.mem_cons.mpr (Or.inr h))) (hb w))
theorem goodIn_sub {big ws : List Cond} (hm : ∀ w ∈ ws, w ∈ big) (h : ws.all goodWord = true) : GoodIn big ws := fun w hw => ⟨hm w hw, good_of_word (List.all_eq_true.mp h w hw)⟩
/-! ===== END ===== -/

/-! ===== BEGIN printed: names, fields, word lists, decode rows ===== -/
def RX0 : String := "ShuntYard$Gaps"
def TX0 : u_T := fun k => match k with
  | 0 => ("ShuntYard$Gaps", "least", "I", false)
  | 1 => ("ShuntYard$Gaps", "latestDanger", "I", false)
  | _ => ("ShuntYard$Gaps", "between", "I", false)
def tyX0 : Nat → FieldType := fun k => match k with
  | 0 => .int
  | 1 => .int
  | _ => .int
abbrev wsX00 : List Cond := u_ws RX0 TX0 3
theorem nmX0 : ∀ a, a < 3 → ∀ b, b < 3 → a ≠ b → (TX0 a).2.1 ≠ (TX0 b).2.1 := by decide +kernel
theorem tyX0_ok : ∀ k, k < 3 → parseFieldDescriptor (TX0 k).2.2.1 = some (tyX0 k) := by decide +kernel
abbrev cX0_init : ByteArray := prog_2_method_1_code
def yX0_init : MethodName := ⟨RX0, "<init>", "()V"⟩
abbrev cX0_start : ByteArray := prog_2_method_2_code
def yX0_start : MethodName := ⟨RX0, "start", "()V"⟩
abbrev cX0_pass : ByteArray := prog_2_method_3_code
def yX0_pass : MethodName := ⟨RX0, "pass", "(I)V"⟩
def RX1 : String := "ShuntYard$History"
def TX1 : u_T := fun k => match k with
  | 0 => ("ShuntYard$History", "states", "[LShuntYard$Yard;", true)
  | 1 => ("ShuntYard$History", "next", "I", false)
  | _ => ("ShuntYard$History", "count", "I", false)
def tyX1 : Nat → FieldType := fun k => match k with
  | 0 => .array (.object "ShuntYard$Yard")
  | 1 => .int
  | _ => .int
abbrev wsX10 : List Cond := u_ws RX1 TX1 3
theorem nmX1 : ∀ a, a < 3 → ∀ b, b < 3 → a ≠ b → (TX1 a).2.1 ≠ (TX1 b).2.1 := by decide +kernel
theorem tyX1_ok : ∀ k, k < 3 → parseFieldDescriptor (TX1 k).2.2.1 = some (tyX1 k) := by decide +kernel
abbrev cX1_init : ByteArray := prog_3_method_1_code
def yX1_init : MethodName := ⟨RX1, "<init>", "()V"⟩
abbrev cX1_add : ByteArray := prog_3_method_2_code
def yX1_add : MethodName := ⟨RX1, "add", "(LShuntYard$Yard;)V"⟩
abbrev cX1_restore : ByteArray := prog_3_method_3_code
def yX1_restore : MethodName := ⟨RX1, "restore", "(LShuntYard$Yard;)Z"⟩
def RX2 : String := "ShuntYard$Row"
def TX2 : u_T := fun k => match k with
  | 0 => ("ShuntYard$Row", "moves", "I", false)
  | 1 => ("ShuntYard$Row", "minutes", "I", false)
  | 2 => ("ShuntYard$Row", "from", "[I", true)
  | 3 => ("ShuntYard$Row", "to", "[I", true)
  | _ => ("ShuntYard$Row", "n", "[I", true)
def tyX2 : Nat → FieldType := fun k => match k with
  | 0 => .int
  | 1 => .int
  | 2 => .array .int
  | 3 => .array .int
  | _ => .array .int
abbrev wsX20 : List Cond := u_ws RX2 TX2 5
theorem nmX2 : ∀ a, a < 5 → ∀ b, b < 5 → a ≠ b → (TX2 a).2.1 ≠ (TX2 b).2.1 := by decide +kernel
theorem tyX2_ok : ∀ k, k < 5 → parseFieldDescriptor (TX2 k).2.2.1 = some (tyX2 k) := by decide +kernel
abbrev cX2_init : ByteArray := prog_4_method_1_code
def yX2_init : MethodName := ⟨RX2, "<init>", "()V"⟩
abbrev cX2_clear : ByteArray := prog_4_method_2_code
def yX2_clear : MethodName := ⟨RX2, "clear", "()V"⟩
abbrev cX2_addLast : ByteArray := prog_4_method_3_code
def yX2_addLast : MethodName := ⟨RX2, "addLast", "(IIII)V"⟩
abbrev cX2_dropLast : ByteArray := prog_4_method_4_code
def yX2_dropLast : MethodName := ⟨RX2, "dropLast", "(I)V"⟩
abbrev cX2_isCheaperThan : ByteArray := prog_4_method_5_code
def yX2_isCheaperThan : MethodName := ⟨RX2, "isCheaperThan", "(LShuntYard$Row;)Z"⟩
abbrev cX2_copyFrom : ByteArray := prog_4_method_6_code
def yX2_copyFrom : MethodName := ⟨RX2, "copyFrom", "(LShuntYard$Row;)V"⟩
def RX3 : String := "ShuntYard$Search"
def TX3 : u_T := fun k => match k with
  | 0 => ("ShuntYard$Search", "best", "LShuntYard$Row;", true)
  | 1 => ("ShuntYard$Search", "hasBest", "Z", false)
  | 2 => ("ShuntYard$Search", "trial", "LShuntYard$Yard;", true)
  | 3 => ("ShuntYard$Search", "row", "LShuntYard$Row;", true)
  | 4 => ("ShuntYard$Search", "wanted", "[I", true)
  | 5 => ("ShuntYard$Search", "wantedInnermost", "[I", true)
  | _ => ("ShuntYard$Search", "wantedOutermost", "[I", true)
def tyX3 : Nat → FieldType := fun k => match k with
  | 0 => .object "ShuntYard$Row"
  | 1 => .boolean
  | 2 => .object "ShuntYard$Yard"
  | 3 => .object "ShuntYard$Row"
  | 4 => .array .int
  | 5 => .array .int
  | _ => .array .int
abbrev wsX30 : List Cond := u_ws RX3 TX3 7
theorem nmX3 : ∀ a, a < 7 → ∀ b, b < 7 → a ≠ b → (TX3 a).2.1 ≠ (TX3 b).2.1 := by decide +kernel
theorem tyX3_ok : ∀ k, k < 7 → parseFieldDescriptor (TX3 k).2.2.1 = some (tyX3 k) := by decide +kernel
abbrev cX3_init : ByteArray := prog_5_method_1_code
def yX3_init : MethodName := ⟨RX3, "<init>", "()V"⟩
abbrev cX3_succeeds : ByteArray := prog_5_method_2_code
def yX3_succeeds : MethodName := ⟨RX3, "succeeds", "(LShuntYard$Yard;I)Z"⟩
abbrev cX3_seek : ByteArray := prog_5_method_3_code
def yX3_seek : MethodName := ⟨RX3, "seek", "(I)V"⟩
abbrev cX3_seekBehindMove : ByteArray := prog_5_method_4_code
def yX3_seekBehindMove : MethodName := ⟨RX3, "seekBehindMove", "(IIIII)V"⟩
abbrev cX3_keepIfCheaper : ByteArray := prog_5_method_5_code
def yX3_keepIfCheaper : MethodName := ⟨RX3, "keepIfCheaper", "()V"⟩
abbrev cX3_isTooDear : ByteArray := prog_5_method_6_code
def yX3_isTooDear : MethodName := ⟨RX3, "isTooDear", "(I)Z"⟩
abbrev cX3_movesNeeded : ByteArray := prog_5_method_7_code
def yX3_movesNeeded : MethodName := ⟨RX3, "movesNeeded", "()I"⟩
abbrev cX3_countWanted : ByteArray := prog_5_method_8_code
def yX3_countWanted : MethodName := ⟨RX3, "countWanted", "(I)V"⟩
abbrev cX3_movesNeededFor : ByteArray := prog_5_method_9_code
def yX3_movesNeededFor : MethodName := ⟨RX3, "movesNeededFor", "(I)I"⟩
def RX4 : String := "ShuntYard$Text"
def TX4 : u_T := fun k => match k with
  | 0 => ("ShuntYard$Text", "bytes", "[I", true)
  | 1 => ("ShuntYard$Text", "length", "I", false)
  | 2 => ("ShuntYard$Text", "read", "[I", true)
  | 3 => ("ShuntYard$Text", "found", "I", false)
  | 4 => ("ShuntYard$Text", "faultKind", "I", false)
  | _ => ("ShuntYard$Text", "faultPlace", "I", false)
def tyX4 : Nat → FieldType := fun k => match k with
  | 0 => .array .int
  | 1 => .int
  | 2 => .array .int
  | 3 => .int
  | 4 => .int
  | _ => .int
abbrev wsX40 : List Cond := u_ws RX4 TX4 6
theorem nmX4 : ∀ a, a < 6 → ∀ b, b < 6 → a ≠ b → (TX4 a).2.1 ≠ (TX4 b).2.1 := by decide +kernel
theorem tyX4_ok : ∀ k, k < 6 → parseFieldDescriptor (TX4 k).2.2.1 = some (tyX4 k) := by decide +kernel
abbrev cX4_init : ByteArray := prog_6_method_1_code
def yX4_init : MethodName := ⟨RX4, "<init>", "()V"⟩
abbrev cX4_append : ByteArray := prog_6_method_2_code
def yX4_append : MethodName := ⟨RX4, "append", "(I)V"⟩
abbrev cX4_readWagons : ByteArray := prog_6_method_3_code
def yX4_readWagons : MethodName := ⟨RX4, "readWagons", "()Z"⟩
abbrev cX4_fillLatest : ByteArray := prog_6_method_4_code
def yX4_fillLatest : MethodName := ⟨RX4, "fillLatest", "(II)V"⟩
abbrev cX4_readTrains : ByteArray := prog_6_method_5_code
def yX4_readTrains : MethodName := ⟨RX4, "readTrains", "()Z"⟩
abbrev cX4_foundFault : ByteArray := prog_6_method_6_code
def yX4_foundFault : MethodName := ⟨RX4, "foundFault", "(II)Z"⟩
def RX5 : String := "ShuntYard$Yard"
def TX5 : u_T := fun k => match k with
  | 0 => ("ShuntYard$Yard", "tracks", "I", false)
  | 1 => ("ShuntYard$Yard", "capacity", "I", false)
  | 2 => ("ShuntYard$Yard", "clock", "I", false)
  | 3 => ("ShuntYard$Yard", "moves", "I", false)
  | 4 => ("ShuntYard$Yard", "moveMinutes", "I", false)
  | 5 => ("ShuntYard$Yard", "trainsGone", "I", false)
  | 6 => ("ShuntYard$Yard", "wagonsGone", "I", false)
  | 7 => ("ShuntYard$Yard", "wagonsCome", "I", false)
  | 8 => ("ShuntYard$Yard", "trains", "I", false)
  | 9 => ("ShuntYard$Yard", "settings", "[I", true)
  | 10 => ("ShuntYard$Yard", "destinations", "[I", true)
  | 11 => ("ShuntYard$Yard", "length", "[I", true)
  | 12 => ("ShuntYard$Yard", "testEnd", "[I", true)
  | 13 => ("ShuntYard$Yard", "wagons", "[I", true)
  | _ => ("ShuntYard$Yard", "gaps", "LShuntYard$Gaps;", true)
def tyX5 : Nat → FieldType := fun k => match k with
  | 0 => .int
  | 1 => .int
  | 2 => .int
  | 3 => .int
  | 4 => .int
  | 5 => .int
  | 6 => .int
  | 7 => .int
  | 8 => .int
  | 9 => .array .int
  | 10 => .array .int
  | 11 => .array .int
  | 12 => .array .int
  | 13 => .array .int
  | _ => .object "ShuntYard$Gaps"
abbrev wsX50 : List Cond := u_ws RX5 TX5 15
theorem nmX5 : ∀ a, a < 15 → ∀ b, b < 15 → a ≠ b → (TX5 a).2.1 ≠ (TX5 b).2.1 := by decide +kernel
theorem tyX5_ok : ∀ k, k < 15 → parseFieldDescriptor (TX5 k).2.2.1 = some (tyX5 k) := by decide +kernel
abbrev cX5_init : ByteArray := prog_7_method_1_code
def yX5_init : MethodName := ⟨RX5, "<init>", "()V"⟩
abbrev cX5_copyFrom : ByteArray := prog_7_method_2_code
def yX5_copyFrom : MethodName := ⟨RX5, "copyFrom", "(LShuntYard$Yard;)V"⟩
abbrev cX5_restart : ByteArray := prog_7_method_3_code
def yX5_restart : MethodName := ⟨RX5, "restart", "(II)V"⟩
abbrev cX5_hasTrack : ByteArray := prog_7_method_4_code
def yX5_hasTrack : MethodName := ⟨RX5, "hasTrack", "(I)Z"⟩
abbrev cX5_wagonAt : ByteArray := prog_7_method_5_code
def yX5_wagonAt : MethodName := ⟨RX5, "wagonAt", "(II)I"⟩
abbrev cX5_wagonsInYard : ByteArray := prog_7_method_6_code
def yX5_wagonsInYard : MethodName := ⟨RX5, "wagonsInYard", "()I"⟩
abbrev cX5_spotOf : ByteArray := prog_7_method_7_code
def yX5_spotOf : MethodName := ⟨RX5, "spotOf", "(I)I"⟩
abbrev cX5_takeIn : ByteArray := prog_7_method_8_code
def yX5_takeIn : MethodName := ⟨RX5, "takeIn", "(ILShuntYard$Text;)V"⟩
abbrev cX5_takeTrains : ByteArray := prog_7_method_9_code
def yX5_takeTrains : MethodName := ⟨RX5, "takeTrains", "(LShuntYard$Text;)V"⟩
abbrev cX5_isSafe : ByteArray := prog_7_method_10_code
def yX5_isSafe : MethodName := ⟨RX5, "isSafe", "(I)Z"⟩
abbrev cX5_isSafeWith : ByteArray := prog_7_method_11_code
def yX5_isSafeWith : MethodName := ⟨RX5, "isSafeWith", "(ILShuntYard$Text;)Z"⟩
abbrev cX5_leastGap : ByteArray := prog_7_method_12_code
def yX5_leastGap : MethodName := ⟨RX5, "leastGap", "(I)I"⟩
abbrev cX5_unsafeTracks : ByteArray := prog_7_method_13_code
def yX5_unsafeTracks : MethodName := ⟨RX5, "unsafeTracks", "()I"⟩
abbrev cX5_passPart : ByteArray := prog_7_method_14_code
def yX5_passPart : MethodName := ⟨RX5, "passPart", "(III)V"⟩
abbrev cX5_costOrCode : ByteArray := prog_7_method_15_code
def yX5_costOrCode : MethodName := ⟨RX5, "costOrCode", "(III)I"⟩
abbrev cX5_isSafeBehindMove : ByteArray := prog_7_method_16_code
def yX5_isSafeBehindMove : MethodName := ⟨RX5, "isSafeBehindMove", "(III)Z"⟩
abbrev cX5_minutesOf : ByteArray := prog_7_method_17_code
def yX5_minutesOf : MethodName := ⟨RX5, "minutesOf", "(III)I"⟩
abbrev cX5_drive : ByteArray := prog_7_method_18_code
def yX5_drive : MethodName := ⟨RX5, "drive", "(III)I"⟩
abbrev cX5_shift : ByteArray := prog_7_method_19_code
def yX5_shift : MethodName := ⟨RX5, "shift", "(III)V"⟩
abbrev cX5_testBrakes : ByteArray := prog_7_method_20_code
def yX5_testBrakes : MethodName := ⟨RX5, "testBrakes", "(I)I"⟩
abbrev cX5_testHoldsFor : ByteArray := prog_7_method_21_code
def yX5_testHoldsFor : MethodName := ⟨RX5, "testHoldsFor", "(I)I"⟩
abbrev cX5_isForFirst : ByteArray := prog_7_method_22_code
def yX5_isForFirst : MethodName := ⟨RX5, "isForFirst", "(II)Z"⟩
abbrev cX5_forFirstOn : ByteArray := prog_7_method_23_code
def yX5_forFirstOn : MethodName := ⟨RX5, "forFirstOn", "(I)I"⟩
abbrev cX5_forFirstInYard : ByteArray := prog_7_method_24_code
def yX5_forFirstInYard : MethodName := ⟨RX5, "forFirstInYard", "()I"⟩
abbrev cX5_refusal : ByteArray := prog_7_method_25_code
def yX5_refusal : MethodName := ⟨RX5, "refusal", "(I)I"⟩
abbrev cX5_sendOff : ByteArray := prog_7_method_26_code
def yX5_sendOff : MethodName := ⟨RX5, "sendOff", "(I)I"⟩
abbrev cX5_madeUpTrack : ByteArray := prog_7_method_27_code
def yX5_madeUpTrack : MethodName := ⟨RX5, "madeUpTrack", "()I"⟩
def RX6 : String := "ShuntYard"
def TX6 : u_T := fun k => match k with
  | 0 => ("ShuntYard", "yard", "LShuntYard$Yard;", true)
  | 1 => ("ShuntYard", "history", "LShuntYard$History;", true)
  | 2 => ("ShuntYard", "images", "[LShuntYard$Yard;", true)
  | 3 => ("ShuntYard", "text", "LShuntYard$Text;", true)
  | 4 => ("ShuntYard", "search", "LShuntYard$Search;", true)
  | _ => ("ShuntYard", "reason", "I", false)
def tyX6 : Nat → FieldType := fun k => match k with
  | 0 => .object "ShuntYard$Yard"
  | 1 => .object "ShuntYard$History"
  | 2 => .array (.object "ShuntYard$Yard")
  | 3 => .object "ShuntYard$Text"
  | 4 => .object "ShuntYard$Search"
  | _ => .int
abbrev wsX60 : List Cond := u_ws RX6 TX6 6
theorem nmX6 : ∀ a, a < 6 → ∀ b, b < 6 → a ≠ b → (TX6 a).2.1 ≠ (TX6 b).2.1 := by decide +kernel
theorem tyX6_ok : ∀ k, k < 6 → parseFieldDescriptor (TX6 k).2.2.1 = some (tyX6 k) := by decide +kernel
abbrev cX6_init : ByteArray := prog_1_method_1_code
def yX6_init : MethodName := ⟨RX6, "<init>", "()V"⟩
abbrev cX6_begin : ByteArray := prog_1_method_2_code
def yX6_begin : MethodName := ⟨RX6, "begin", "(II)I"⟩
abbrev cX6_set : ByteArray := prog_1_method_3_code
def yX6_set : MethodName := ⟨RX6, "set", "(II)I"⟩
abbrev cX6_arrive : ByteArray := prog_1_method_4_code
def yX6_arrive : MethodName := ⟨RX6, "arrive", "(I)I"⟩
abbrev cX6_list : ByteArray := prog_1_method_5_code
def yX6_list : MethodName := ⟨RX6, "list", "()I"⟩
abbrev cX6_move : ByteArray := prog_1_method_6_code
def yX6_move : MethodName := ⟨RX6, "move", "(III)I"⟩
abbrev cX6_test : ByteArray := prog_1_method_7_code
def yX6_test : MethodName := ⟨RX6, "test", "(I)I"⟩
abbrev cX6_pause : ByteArray := prog_1_method_8_code
def yX6_pause : MethodName := ⟨RX6, "pause", "(I)I"⟩
abbrev cX6_depart : ByteArray := prog_1_method_9_code
def yX6_depart : MethodName := ⟨RX6, "depart", "(I)I"⟩
abbrev cX6_makeUp : ByteArray := prog_1_method_10_code
def yX6_makeUp : MethodName := ⟨RX6, "makeUp", "(I)I"⟩
abbrev cX6_undo : ByteArray := prog_1_method_11_code
def yX6_undo : MethodName := ⟨RX6, "undo", "()I"⟩
abbrev cX6_write : ByteArray := prog_1_method_12_code
def yX6_write : MethodName := ⟨RX6, "write", "(I)I"⟩
abbrev cX6_wipe : ByteArray := prog_1_method_13_code
def yX6_wipe : MethodName := ⟨RX6, "wipe", "()I"⟩
abbrev cX6_fault : ByteArray := prog_1_method_14_code
def yX6_fault : MethodName := ⟨RX6, "fault", "(I)I"⟩
abbrev cX6_told : ByteArray := prog_1_method_15_code
def yX6_told : MethodName := ⟨RX6, "told", "(I)I"⟩
abbrev cX6_setting : ByteArray := prog_1_method_16_code
def yX6_setting : MethodName := ⟨RX6, "setting", "(I)I"⟩
abbrev cX6_track : ByteArray := prog_1_method_17_code
def yX6_track : MethodName := ⟨RX6, "track", "(II)I"⟩
abbrev cX6_wagon : ByteArray := prog_1_method_18_code
def yX6_wagon : MethodName := ⟨RX6, "wagon", "(III)I"⟩
abbrev cX6_train : ByteArray := prog_1_method_19_code
def yX6_train : MethodName := ⟨RX6, "train", "(I)I"⟩
abbrev cX6_find : ByteArray := prog_1_method_20_code
def yX6_find : MethodName := ⟨RX6, "find", "(II)I"⟩
abbrev cX6_mean : ByteArray := prog_1_method_21_code
def yX6_mean : MethodName := ⟨RX6, "mean", "()F"⟩
abbrev cX6_cost : ByteArray := prog_1_method_22_code
def yX6_cost : MethodName := ⟨RX6, "cost", "(III)I"⟩
abbrev cX6_cheapest : ByteArray := prog_1_method_23_code
def yX6_cheapest : MethodName := ⟨RX6, "cheapest", "(II)I"⟩
abbrev cX6_keep : ByteArray := prog_1_method_24_code
def yX6_keep : MethodName := ⟨RX6, "keep", "(I)I"⟩
abbrev cX6_back : ByteArray := prog_1_method_25_code
def yX6_back : MethodName := ⟨RX6, "back", "(I)I"⟩
abbrev cX6_within : ByteArray := prog_1_method_26_code
def yX6_within : MethodName := ⟨RX6, "within", "(III)Z"⟩
abbrev cX6_isSetting : ByteArray := prog_1_method_27_code
def yX6_isSetting : MethodName := ⟨RX6, "isSetting", "(I)Z"⟩
abbrev cX6_leastOf : ByteArray := prog_1_method_28_code
def yX6_leastOf : MethodName := ⟨RX6, "leastOf", "(I)I"⟩
abbrev cX6_greatestOf : ByteArray := prog_1_method_29_code
def yX6_greatestOf : MethodName := ⟨RX6, "greatestOf", "(I)I"⟩
abbrev cX6_wagonOf : ByteArray := prog_1_method_30_code
def yX6_wagonOf : MethodName := ⟨RX6, "wagonOf", "(III)I"⟩
abbrev cX6_numberOf : ByteArray := prog_1_method_31_code
def yX6_numberOf : MethodName := ⟨RX6, "numberOf", "(I)I"⟩
abbrev cX6_destinationOf : ByteArray := prog_1_method_32_code
def yX6_destinationOf : MethodName := ⟨RX6, "destinationOf", "(I)I"⟩
abbrev cX6_kindOf : ByteArray := prog_1_method_33_code
def yX6_kindOf : MethodName := ⟨RX6, "kindOf", "(I)I"⟩
def RX7 : String := "ShuntYardModel"
def TX7 : u_T := fun k => match k with
  | 0 => ("ShuntYardModel", "w", "[I", true)
  | 1 => ("ShuntYardModel", "past", "[I", true)
  | 2 => ("ShuntYardModel", "pastMany", "I", false)
  | 3 => ("ShuntYardModel", "images", "[I", true)
  | 4 => ("ShuntYardModel", "filled", "I", false)
  | 5 => ("ShuntYardModel", "text", "[I", true)
  | 6 => ("ShuntYardModel", "length", "I", false)
  | 7 => ("ShuntYardModel", "faultKind", "I", false)
  | 8 => ("ShuntYardModel", "faultPlace", "I", false)
  | 9 => ("ShuntYardModel", "reason", "I", false)
  | 10 => ("ShuntYardModel", "row", "[I", true)
  | 11 => ("ShuntYardModel", "rowMany", "I", false)
  | 12 => ("ShuntYardModel", "readMany", "I", false)
  | 13 => ("ShuntYardModel", "readBound", "[I", true)
  | 14 => ("ShuntYardModel", "readKind", "[I", true)
  | 15 => ("ShuntYardModel", "readTrains", "[I", true)
  | 16 => ("ShuntYardModel", "wrongKind", "I", false)
  | 17 => ("ShuntYardModel", "wrongPlace", "I", false)
  | 18 => ("ShuntYardModel", "held", "[I", true)
  | 19 => ("ShuntYardModel", "tried", "[I", true)
  | 20 => ("ShuntYardModel", "best", "[I", true)
  | 21 => ("ShuntYardModel", "bestMoves", "I", false)
  | 22 => ("ShuntYardModel", "bestMinutes", "I", false)
  | _ => ("ShuntYardModel", "spent", "[I", true)
def tyX7 : Nat → FieldType := fun k => match k with
  | 0 => .array .int
  | 1 => .array .int
  | 2 => .int
  | 3 => .array .int
  | 4 => .int
  | 5 => .array .int
  | 6 => .int
  | 7 => .int
  | 8 => .int
  | 9 => .int
  | 10 => .array .int
  | 11 => .int
  | 12 => .int
  | 13 => .array .int
  | 14 => .array .int
  | 15 => .array .int
  | 16 => .int
  | 17 => .int
  | 18 => .array .int
  | 19 => .array .int
  | 20 => .array .int
  | 21 => .int
  | 22 => .int
  | _ => .array .int
abbrev wsX70 : List Cond := u_ws RX7 TX7 24
theorem nmX7 : ∀ a, a < 24 → ∀ b, b < 24 → a ≠ b → (TX7 a).2.1 ≠ (TX7 b).2.1 := by decide +kernel
theorem tyX7_ok : ∀ k, k < 24 → parseFieldDescriptor (TX7 k).2.2.1 = some (tyX7 k) := by decide +kernel
abbrev cX7_init : ByteArray := prog_9_method_1_code
def yX7_init : MethodName := ⟨RX7, "<init>", "()V"⟩
abbrev cX7_isIn : ByteArray := prog_9_method_3_code
def yX7_isIn : MethodName := ⟨RX7, "isIn", "(III)Z"⟩
abbrev cX7_remember : ByteArray := prog_9_method_4_code
def yX7_remember : MethodName := ⟨RX7, "remember", "()V"⟩
abbrev cX7_isTrack : ByteArray := prog_9_method_5_code
def yX7_isTrack : MethodName := ⟨RX7, "isTrack", "(I)Z"⟩
abbrev cX7_of : ByteArray := prog_9_method_6_code
def yX7_of : MethodName := ⟨RX7, "of", "(II)I"⟩
abbrev cX7_put : ByteArray := prog_9_method_7_code
def yX7_put : MethodName := ⟨RX7, "put", "(III)V"⟩
abbrev cX7_destination : ByteArray := prog_9_method_8_code
def yX7_destination : MethodName := ⟨RX7, "destination", "(II)I"⟩
abbrev cX7_kindAt : ByteArray := prog_9_method_9_code
def yX7_kindAt : MethodName := ⟨RX7, "kindAt", "(II)I"⟩
abbrev cX7_wagons : ByteArray := prog_9_method_10_code
def yX7_wagons : MethodName := ⟨RX7, "wagons", "()I"⟩
abbrev cX7_beginRow : ByteArray := prog_9_method_11_code
def yX7_beginRow : MethodName := ⟨RX7, "beginRow", "(II)V"⟩
abbrev cX7_appendKind : ByteArray := prog_9_method_12_code
def yX7_appendKind : MethodName := ⟨RX7, "appendKind", "(I)V"⟩
abbrev cX7_leastGap : ByteArray := prog_9_method_13_code
def yX7_leastGap : MethodName := ⟨RX7, "leastGap", "()I"⟩
abbrev cX7_isSafeRow : ByteArray := prog_9_method_14_code
def yX7_isSafeRow : MethodName := ⟨RX7, "isSafeRow", "()Z"⟩
abbrev cX7_isSafe : ByteArray := prog_9_method_15_code
def yX7_isSafe : MethodName := ⟨RX7, "isSafe", "(I)Z"⟩
abbrev cX7_costOf : ByteArray := prog_9_method_16_code
def yX7_costOf : MethodName := ⟨RX7, "costOf", "(III)I"⟩
abbrev cX7_areTracks : ByteArray := prog_9_method_17_code
def yX7_areTracks : MethodName := ⟨RX7, "areTracks", "(III)Z"⟩
abbrev cX7_carry : ByteArray := prog_9_method_18_code
def yX7_carry : MethodName := ⟨RX7, "carry", "(IIII)V"⟩
abbrev cX7_cost : ByteArray := prog_9_method_19_code
def yX7_cost : MethodName := ⟨RX7, "cost", "(III)I"⟩
abbrev cX7_move : ByteArray := prog_9_method_20_code
def yX7_move : MethodName := ⟨RX7, "move", "(III)I"⟩
abbrev cX7_stillHolds : ByteArray := prog_9_method_21_code
def yX7_stillHolds : MethodName := ⟨RX7, "stillHolds", "(I)I"⟩
abbrev cX7_bound : ByteArray := prog_9_method_22_code
def yX7_bound : MethodName := ⟨RX7, "bound", "(II)I"⟩
abbrev cX7_reasonAgainst : ByteArray := prog_9_method_23_code
def yX7_reasonAgainst : MethodName := ⟨RX7, "reasonAgainst", "(I)I"⟩
abbrev cX7_test : ByteArray := prog_9_method_24_code
def yX7_test : MethodName := ⟨RX7, "test", "(I)I"⟩
abbrev cX7_pause : ByteArray := prog_9_method_25_code
def yX7_pause : MethodName := ⟨RX7, "pause", "(I)I"⟩
abbrev cX7_depart : ByteArray := prog_9_method_26_code
def yX7_depart : MethodName := ⟨RX7, "depart", "(I)I"⟩
abbrev cX7_fails : ByteArray := prog_9_method_27_code
def yX7_fails : MethodName := ⟨RX7, "fails", "(II)V"⟩
abbrev cX7_isLetter : ByteArray := prog_9_method_28_code
def yX7_isLetter : MethodName := ⟨RX7, "isLetter", "(I)Z"⟩
abbrev cX7_readWagons : ByteArray := prog_9_method_29_code
def yX7_readWagons : MethodName := ⟨RX7, "readWagons", "()V"⟩
abbrev cX7_readList : ByteArray := prog_9_method_30_code
def yX7_readList : MethodName := ⟨RX7, "readList", "()V"⟩
abbrev cX7_hasFault : ByteArray := prog_9_method_31_code
def yX7_hasFault : MethodName := ⟨RX7, "hasFault", "()Z"⟩
abbrev cX7_arrive : ByteArray := prog_9_method_32_code
def yX7_arrive : MethodName := ⟨RX7, "arrive", "(I)I"⟩
abbrev cX7_list : ByteArray := prog_9_method_33_code
def yX7_list : MethodName := ⟨RX7, "list", "()I"⟩
abbrev cX7_write : ByteArray := prog_9_method_34_code
def yX7_write : MethodName := ⟨RX7, "write", "(I)I"⟩
abbrev cX7_wipe : ByteArray := prog_9_method_35_code
def yX7_wipe : MethodName := ⟨RX7, "wipe", "()I"⟩
abbrev cX7_fault : ByteArray := prog_9_method_36_code
def yX7_fault : MethodName := ⟨RX7, "fault", "(I)I"⟩
abbrev cX7_madeUp : ByteArray := prog_9_method_37_code
def yX7_madeUp : MethodName := ⟨RX7, "madeUp", "()I"⟩
abbrev cX7_spread : ByteArray := prog_9_method_38_code
def yX7_spread : MethodName := ⟨RX7, "spread", "()I"⟩
abbrev cX7_hold : ByteArray := prog_9_method_39_code
def yX7_hold : MethodName := ⟨RX7, "hold", "(I)V"⟩
abbrev cX7_release : ByteArray := prog_9_method_40_code
def yX7_release : MethodName := ⟨RX7, "release", "(I)V"⟩
abbrev cX7_note : ByteArray := prog_9_method_41_code
def yX7_note : MethodName := ⟨RX7, "note", "(II)V"⟩
abbrev cX7_tryMove : ByteArray := prog_9_method_42_code
def yX7_tryMove : MethodName := ⟨RX7, "tryMove", "(II)I"⟩
abbrev cX7_next : ByteArray := prog_9_method_43_code
def yX7_next : MethodName := ⟨RX7, "next", "(I)Z"⟩
abbrev cX7_enter : ByteArray := prog_9_method_44_code
def yX7_enter : MethodName := ⟨RX7, "enter", "(I)V"⟩
abbrev cX7_isWorthIt : ByteArray := prog_9_method_45_code
def yX7_isWorthIt : MethodName := ⟨RX7, "isWorthIt", "(I)Z"⟩
abbrev cX7_search : ByteArray := prog_9_method_46_code
def yX7_search : MethodName := ⟨RX7, "search", "(I)V"⟩
abbrev cX7_cheapest : ByteArray := prog_9_method_47_code
def yX7_cheapest : MethodName := ⟨RX7, "cheapest", "(II)I"⟩
abbrev cX7_makeUp : ByteArray := prog_9_method_48_code
def yX7_makeUp : MethodName := ⟨RX7, "makeUp", "(I)I"⟩
abbrev cX7_begin : ByteArray := prog_9_method_49_code
def yX7_begin : MethodName := ⟨RX7, "begin", "(II)I"⟩
abbrev cX7_isOf : ByteArray := prog_9_method_50_code
def yX7_isOf : MethodName := ⟨RX7, "isOf", "(II)Z"⟩
abbrev cX7_set : ByteArray := prog_9_method_51_code
def yX7_set : MethodName := ⟨RX7, "set", "(II)I"⟩
abbrev cX7_undo : ByteArray := prog_9_method_52_code
def yX7_undo : MethodName := ⟨RX7, "undo", "()I"⟩
abbrev cX7_unsafeTracks : ByteArray := prog_9_method_53_code
def yX7_unsafeTracks : MethodName := ⟨RX7, "unsafeTracks", "()I"⟩
abbrev cX7_told : ByteArray := prog_9_method_54_code
def yX7_told : MethodName := ⟨RX7, "told", "(I)I"⟩
abbrev cX7_setting : ByteArray := prog_9_method_55_code
def yX7_setting : MethodName := ⟨RX7, "setting", "(I)I"⟩
abbrev cX7_track : ByteArray := prog_9_method_56_code
def yX7_track : MethodName := ⟨RX7, "track", "(II)I"⟩
abbrev cX7_wagon : ByteArray := prog_9_method_57_code
def yX7_wagon : MethodName := ⟨RX7, "wagon", "(III)I"⟩
abbrev cX7_train : ByteArray := prog_9_method_58_code
def yX7_train : MethodName := ⟨RX7, "train", "(I)I"⟩
abbrev cX7_find : ByteArray := prog_9_method_59_code
def yX7_find : MethodName := ⟨RX7, "find", "(II)I"⟩
abbrev cX7_mean : ByteArray := prog_9_method_60_code
def yX7_mean : MethodName := ⟨RX7, "mean", "()F"⟩
abbrev cX7_isImage : ByteArray := prog_9_method_61_code
def yX7_isImage : MethodName := ⟨RX7, "isImage", "(I)Z"⟩
abbrev cX7_keep : ByteArray := prog_9_method_62_code
def yX7_keep : MethodName := ⟨RX7, "keep", "(I)I"⟩
abbrev cX7_back : ByteArray := prog_9_method_63_code
def yX7_back : MethodName := ⟨RX7, "back", "(I)I"⟩
def RJ9 : String := "java/lang/Math"
def TJ9 : u_T := fun k => match k with
  | _ => ("", "", "", false)
def tyJ9 : Nat → FieldType := fun k => match k with
  | _ => .int
abbrev wsJ90 : List Cond := u_ws RJ9 TJ9 0
theorem nmJ9 : ∀ a, a < 0 → ∀ b, b < 0 → a ≠ b → (TJ9 a).2.1 ≠ (TJ9 b).2.1 := by decide +kernel
theorem tyJ9_ok : ∀ k, k < 0 → parseFieldDescriptor (TJ9 k).2.2.1 = some (tyJ9 k) := by decide +kernel
abbrev cJ9_abs_0f7a4 : ByteArray := prog_10_method_59_code
def yJ9_abs_0f7a4 : MethodName := ⟨RJ9, "abs", "(I)I"⟩
abbrev cJ9_max_7cf53 : ByteArray := prog_10_method_65_code
def yJ9_max_7cf53 : MethodName := ⟨RJ9, "max", "(II)I"⟩
abbrev cJ9_min_7cf53 : ByteArray := prog_10_method_69_code
def yJ9_min_7cf53 : MethodName := ⟨RJ9, "min", "(II)I"⟩
def RJ10 : String := "java/lang/System"
def TJ10 : u_T := fun k => match k with
  | _ => ("", "", "", false)
def tyJ10 : Nat → FieldType := fun k => match k with
  | _ => .int
abbrev wsJ100 : List Cond := u_ws RJ10 TJ10 0
theorem nmJ10 : ∀ a, a < 0 → ∀ b, b < 0 → a ≠ b → (TJ10 a).2.1 ≠ (TJ10 b).2.1 := by decide +kernel
theorem tyJ10_ok : ∀ k, k < 0 → parseFieldDescriptor (TJ10 k).2.2.1 = some (tyJ10 k) := by decide +kernel
def RJ7 : String := "java/util/Arrays"
def TJ7 : u_T := fun k => match k with
  | _ => ("", "", "", false)
def tyJ7 : Nat → FieldType := fun k => match k with
  | _ => .int
abbrev wsJ70 : List Cond := u_ws RJ7 TJ7 0
theorem nmJ7 : ∀ a, a < 0 → ∀ b, b < 0 → a ≠ b → (TJ7 a).2.1 ≠ (TJ7 b).2.1 := by decide +kernel
theorem tyJ7_ok : ∀ k, k < 0 → parseFieldDescriptor (TJ7 k).2.2.1 = some (tyJ7 k) := by decide +kernel
abbrev cJ7_fill_53178 : ByteArray := prog_12_method_103_code
def yJ7_fill_53178 : MethodName := ⟨RJ7, "fill", "([II)V"⟩
def RL : String := "ShuntYardLaw"
abbrev cL_law : ByteArray := code
def yL_law : MethodName := ⟨RL, "law", "([I)Z"⟩
def wsL_law_r1 : List Cond := [Cond.classLink RL 7 RX6, Cond.instantiable RX6 6, Cond.initialized RX6, Cond.classLink RL 10 RX7, Cond.instantiable RX7 24, Cond.initialized RX7, Cond.methodLink RL 9 yX6_init, Cond.instanceMethod yX6_init, Cond.code yX6_init cX6_init 1 none, Cond.methodLink RX6 1 objectInit, Cond.instanceMethod objectInit, Cond.code objectInit ⟨#[0xb1]⟩ 1 none, Cond.classLink RX6 7 RX5, Cond.instantiable RX5 15, Cond.initialized RX5, Cond.fieldLink RX6 10 "ShuntYard" "yard" "LShuntYard$Yard;", Cond.classLink RX6 16 RX1, Cond.instantiable RX1 3, Cond.initialized RX1, Cond.fieldLink RX6 19 "ShuntYard" "history" "LShuntYard$History;", Cond.fieldLink RX6 23 "ShuntYard" "images" "[LShuntYard$Yard;", Cond.classLink RX6 27 RX4, Cond.instantiable RX4 6, Cond.initialized RX4]
def wsL_law_r2 : List Cond := [Cond.fieldLink RX6 30 "ShuntYard" "text" "LShuntYard$Text;", Cond.classLink RX6 34 RX3, Cond.instantiable RX3 7, Cond.initialized RX3, Cond.fieldLink RX6 37 "ShuntYard" "search" "LShuntYard$Search;", Cond.fieldLink RX6 41 "ShuntYard" "reason" "I", Cond.instanceMethod yX5_init, Cond.code yX5_init cX5_init 1 none, Cond.methodLink RX5 3 objectInit, Cond.fieldLink RX5 9 "ShuntYard$Yard" "tracks" "I", Cond.fieldLink RX5 15 "ShuntYard$Yard" "capacity" "I", Cond.arrayClass .int, Cond.fieldLink RX5 18 "ShuntYard$Yard" "settings" "[I", Cond.fieldLink RX5 22 "ShuntYard$Yard" "destinations" "[I", Cond.fieldLink RX5 25 "ShuntYard$Yard" "length" "[I", Cond.fieldLink RX5 28 "ShuntYard$Yard" "testEnd" "[I", Cond.fieldLink RX5 31 "ShuntYard$Yard" "wagons" "[I", Cond.classLink RX5 34 RX0, Cond.instantiable RX0 3, Cond.initialized RX0, Cond.fieldLink RX5 37 "ShuntYard$Yard" "gaps" "LShuntYard$Gaps;", Cond.instanceMethod yX0_init, Cond.code yX0_init cX0_init 1 none, Cond.methodLink RX0 3 objectInit]
def wsL_law_r3 : List Cond := [Cond.instanceMethod yX1_init, Cond.code yX1_init cX1_init 1 none, Cond.methodLink RX1 3 objectInit, Cond.classLink RX1 9 RX5, Cond.fieldLink RX1 11 "ShuntYard$History" "states" "[LShuntYard$Yard;", Cond.instanceMethod yX4_init, Cond.code yX4_init cX4_init 1 none, Cond.methodLink RX4 3 objectInit, Cond.fieldLink RX4 9 "ShuntYard$Text" "bytes" "[I", Cond.fieldLink RX4 15 "ShuntYard$Text" "read" "[I", Cond.fieldLink RX4 18 "ShuntYard$Text" "faultKind" "I", Cond.fieldLink RX4 22 "ShuntYard$Text" "faultPlace" "I", Cond.instanceMethod yX3_init, Cond.code yX3_init cX3_init 1 none, Cond.methodLink RX3 3 objectInit, Cond.classLink RX3 9 RX2, Cond.instantiable RX2 5, Cond.initialized RX2, Cond.fieldLink RX3 12 "ShuntYard$Search" "best" "LShuntYard$Row;", Cond.classLink RX3 18 RX5, Cond.fieldLink RX3 21 "ShuntYard$Search" "trial" "LShuntYard$Yard;", Cond.fieldLink RX3 25 "ShuntYard$Search" "row" "LShuntYard$Row;", Cond.fieldLink RX3 28 "ShuntYard$Search" "wanted" "[I", Cond.fieldLink RX3 32 "ShuntYard$Search" "wantedInnermost" "[I"]
def wsL_law_r4 : List Cond := [Cond.fieldLink RX3 35 "ShuntYard$Search" "wantedOutermost" "[I", Cond.instanceMethod yX2_init, Cond.code yX2_init cX2_init 1 none, Cond.methodLink RX2 3 objectInit, Cond.fieldLink RX2 9 "ShuntYard$Row" "from" "[I", Cond.fieldLink RX2 15 "ShuntYard$Row" "to" "[I", Cond.fieldLink RX2 18 "ShuntYard$Row" "n" "[I", Cond.methodLink RL 12 yX7_init, Cond.instanceMethod yX7_init, Cond.code yX7_init cX7_init 1 none, Cond.methodLink RX7 1 objectInit, Cond.fieldLink RX7 7 "ShuntYardModel" "w" "[I", Cond.fieldLink RX7 13 "ShuntYardModel" "past" "[I", Cond.fieldLink RX7 16 "ShuntYardModel" "images" "[I", Cond.fieldLink RX7 19 "ShuntYardModel" "text" "[I", Cond.fieldLink RX7 22 "ShuntYardModel" "faultKind" "I", Cond.fieldLink RX7 26 "ShuntYardModel" "faultPlace" "I", Cond.fieldLink RX7 29 "ShuntYardModel" "reason" "I", Cond.fieldLink RX7 32 "ShuntYardModel" "row" "[I", Cond.fieldLink RX7 35 "ShuntYardModel" "readBound" "[I", Cond.fieldLink RX7 38 "ShuntYardModel" "readKind" "[I", Cond.fieldLink RX7 41 "ShuntYardModel" "readTrains" "[I", Cond.fieldLink RX7 44 "ShuntYardModel" "held" "[I", Cond.fieldLink RX7 47 "ShuntYardModel" "tried" "[I"]
def wsL_law_r5 : List Cond := [Cond.fieldLink RX7 50 "ShuntYardModel" "best" "[I", Cond.fieldLink RX7 53 "ShuntYardModel" "spent" "[I", Cond.methodLink RL 13 yX6_begin, Cond.instanceMethod yX6_begin, Cond.selects RX6 yX6_begin yX6_begin, Cond.code yX6_begin cX6_begin 4 (some .int), Cond.methodLink RX6 45 yX6_within, Cond.static yX6_within, Cond.code yX6_within cX6_within 3 (some .boolean), Cond.methodLink RX6 49 yX5_wagonsInYard, Cond.instanceMethod yX5_wagonsInYard, Cond.selects RX5 yX5_wagonsInYard yX5_wagonsInYard, Cond.code yX5_wagonsInYard cX5_wagonsInYard 3 (some .int), Cond.methodLink RX6 53 yX1_add, Cond.instanceMethod yX1_add, Cond.selects RX1 yX1_add yX1_add, Cond.code yX1_add cX1_add 2 none, Cond.fieldLink RX1 17 "ShuntYard$History" "next" "I", Cond.fieldLink RX1 26 "ShuntYard$History" "count" "I", Cond.methodLink RX1 29 Lib.Math.min.name, Cond.static Lib.Math.min.name, Cond.initialized "java/lang/Math", Cond.code Lib.Math.min.name Lib.Math.min.code 2 (some .int), Cond.methodLink RX1 22 yX5_copyFrom]
def wsL_law_r6 : List Cond := [Cond.instanceMethod yX5_copyFrom, Cond.selects RX5 yX5_copyFrom yX5_copyFrom, Cond.code yX5_copyFrom cX5_copyFrom 2 none, Cond.fieldLink RX5 41 "ShuntYard$Yard" "clock" "I", Cond.fieldLink RX5 44 "ShuntYard$Yard" "moves" "I", Cond.fieldLink RX5 47 "ShuntYard$Yard" "moveMinutes" "I", Cond.fieldLink RX5 50 "ShuntYard$Yard" "trainsGone" "I", Cond.fieldLink RX5 53 "ShuntYard$Yard" "wagonsGone" "I", Cond.fieldLink RX5 56 "ShuntYard$Yard" "wagonsCome" "I", Cond.fieldLink RX5 59 "ShuntYard$Yard" "trains" "I", Cond.methodLink RX5 62 arraycopyName, Cond.native arraycopyName, Cond.static arraycopyName, Cond.initialized "java/lang/System", Cond.methodLink RX6 57 yX5_restart, Cond.instanceMethod yX5_restart, Cond.selects RX5 yX5_restart yX5_restart, Cond.code yX5_restart cX5_restart 3 none, Cond.methodLink RX5 68 yJ7_fill_53178, Cond.static yJ7_fill_53178, Cond.initialized RJ7, Cond.code yJ7_fill_53178 cJ7_fill_53178 4 none, Cond.methodLink RL 17 yX7_begin, Cond.instanceMethod yX7_begin]
def wsL_law_r7 : List Cond := [Cond.selects RX7 yX7_begin yX7_begin, Cond.code yX7_begin cX7_begin 5 (some .int), Cond.methodLink RX7 59 yX7_isIn, Cond.static yX7_isIn, Cond.code yX7_isIn cX7_isIn 3 (some .boolean), Cond.methodLink RX7 107 yX7_remember, Cond.instanceMethod yX7_remember, Cond.selects RX7 yX7_remember yX7_remember, Cond.code yX7_remember cX7_remember 2 none, Cond.fieldLink RX7 56 "ShuntYardModel" "pastMany" "I", Cond.methodLink RX7 193 yX7_wagons, Cond.instanceMethod yX7_wagons, Cond.selects RX7 yX7_wagons yX7_wagons, Cond.code yX7_wagons cX7_wagons 3 (some .int), Cond.methodLink RX7 63 yX7_of, Cond.instanceMethod yX7_of, Cond.selects RX7 yX7_of yX7_of, Cond.code yX7_of cX7_of 3 (some .int), Cond.methodLink RL 18 yX6_set, Cond.instanceMethod yX6_set, Cond.selects RX6 yX6_set yX6_set, Cond.code yX6_set cX6_set 4 (some .int), Cond.fieldLink RX6 72 "ShuntYard$Yard" "settings" "[I", Cond.methodLink RX6 61 yX6_isSetting]
def wsL_law_r8 : List Cond := [Cond.static yX6_isSetting, Cond.code yX6_isSetting cX6_isSetting 1 (some .boolean), Cond.methodLink RX6 65 yX6_leastOf, Cond.static yX6_leastOf, Cond.code yX6_leastOf cX6_leastOf 1 (some .int), Cond.methodLink RX6 69 yX6_greatestOf, Cond.static yX6_greatestOf, Cond.code yX6_greatestOf cX6_greatestOf 1 (some .int), Cond.methodLink RL 21 yX7_set, Cond.instanceMethod yX7_set, Cond.selects RX7 yX7_set yX7_set, Cond.code yX7_set cX7_set 4 (some .int), Cond.methodLink RX7 196 yX7_isOf, Cond.static yX7_isOf, Cond.code yX7_isOf cX7_isOf 2 (some .boolean), Cond.methodLink RL 22 yX6_arrive, Cond.instanceMethod yX6_arrive, Cond.selects RX6 yX6_arrive yX6_arrive, Cond.code yX6_arrive cX6_arrive 2 (some .int), Cond.fieldLink RX6 87 "ShuntYard$Yard" "length" "[I", Cond.fieldLink RX6 90 "ShuntYard$Text" "found" "I", Cond.fieldLink RX6 93 "ShuntYard$Yard" "capacity" "I", Cond.methodLink RX6 76 yX5_hasTrack, Cond.instanceMethod yX5_hasTrack]
def wsL_law_r9 : List Cond := [Cond.selects RX5 yX5_hasTrack yX5_hasTrack, Cond.code yX5_hasTrack cX5_hasTrack 2 (some .boolean), Cond.methodLink RX6 79 yX4_readWagons, Cond.instanceMethod yX4_readWagons, Cond.selects RX4 yX4_readWagons yX4_readWagons, Cond.code yX4_readWagons cX4_readWagons 6 (some .boolean), Cond.fieldLink RX4 28 "ShuntYard$Text" "found" "I", Cond.fieldLink RX4 25 "ShuntYard$Text" "length" "I", Cond.methodLink RX4 35 yX4_foundFault, Cond.instanceMethod yX4_foundFault, Cond.selects RX4 yX4_foundFault yX4_foundFault, Cond.code yX4_foundFault cX4_foundFault 3 (some .boolean), Cond.static yX6_wagonOf, Cond.code yX6_wagonOf cX6_wagonOf 3 (some .int), Cond.methodLink RX4 43 yX4_fillLatest, Cond.instanceMethod yX4_fillLatest, Cond.selects RX4 yX4_fillLatest yX4_fillLatest, Cond.code yX4_fillLatest cX4_fillLatest 4 none, Cond.methodLink RX6 83 yX5_isSafeWith, Cond.instanceMethod yX5_isSafeWith, Cond.selects RX5 yX5_isSafeWith yX5_isSafeWith, Cond.code yX5_isSafeWith cX5_isSafeWith 4 (some .boolean), Cond.fieldLink RX5 86 "ShuntYard$Text" "found" "I", Cond.fieldLink RX5 91 "ShuntYard$Text" "read" "[I"]
def wsL_law_r10 : List Cond := [Cond.fieldLink RX5 111 "ShuntYard$Gaps" "least" "I", Cond.methodLink RX5 104 yX0_start, Cond.instanceMethod yX0_start, Cond.selects RX0 yX0_start yX0_start, Cond.code yX0_start cX0_start 1 none, Cond.fieldLink RX0 11 "ShuntYard$Gaps" "least" "I", Cond.fieldLink RX0 15 "ShuntYard$Gaps" "latestDanger" "I", Cond.fieldLink RX0 18 "ShuntYard$Gaps" "between" "I", Cond.methodLink RX5 107 yX5_passPart, Cond.instanceMethod yX5_passPart, Cond.selects RX5 yX5_passPart yX5_passPart, Cond.code yX5_passPart cX5_passPart 5 none, Cond.methodLink RX5 78 yX5_wagonAt, Cond.instanceMethod yX5_wagonAt, Cond.selects RX5 yX5_wagonAt yX5_wagonAt, Cond.code yX5_wagonAt cX5_wagonAt 3 (some .int), Cond.static yX6_kindOf, Cond.code yX6_kindOf cX6_kindOf 1 (some .int), Cond.methodLink RX5 114 yX0_pass, Cond.instanceMethod yX0_pass, Cond.selects RX0 yX0_pass yX0_pass, Cond.code yX0_pass cX0_pass 2 none, Cond.methodLink RX0 21 Lib.Math.min.name, Cond.methodLink RX6 96 yX5_takeIn]
def wsL_law_r11 : List Cond := [Cond.instanceMethod yX5_takeIn, Cond.selects RX5 yX5_takeIn yX5_takeIn, Cond.code yX5_takeIn cX5_takeIn 5 none, Cond.static yX6_destinationOf, Cond.code yX6_destinationOf cX6_destinationOf 1 (some .int), Cond.methodLink RL 26 yX7_arrive, Cond.instanceMethod yX7_arrive, Cond.selects RX7 yX7_arrive yX7_arrive, Cond.code yX7_arrive cX7_arrive 4 (some .int), Cond.fieldLink RX7 139 "ShuntYardModel" "readMany" "I", Cond.methodLink RX7 89 yX7_isTrack, Cond.instanceMethod yX7_isTrack, Cond.selects RX7 yX7_isTrack yX7_isTrack, Cond.code yX7_isTrack cX7_isTrack 2 (some .boolean), Cond.methodLink RX7 148 yX7_readWagons, Cond.instanceMethod yX7_readWagons, Cond.selects RX7 yX7_readWagons yX7_readWagons, Cond.code yX7_readWagons cX7_readWagons 7 none, Cond.fieldLink RX7 142 "ShuntYardModel" "length" "I", Cond.fieldLink RX7 130 "ShuntYardModel" "wrongKind" "I", Cond.methodLink RX7 136 yX7_fails, Cond.instanceMethod yX7_fails, Cond.selects RX7 yX7_fails yX7_fails, Cond.code yX7_fails cX7_fails 3 none]
def wsL_law_r12 : List Cond := [Cond.fieldLink RX7 133 "ShuntYardModel" "wrongPlace" "I", Cond.methodLink RX7 145 yX7_isLetter, Cond.static yX7_isLetter, Cond.code yX7_isLetter cX7_isLetter 1 (some .boolean), Cond.methodLink RX7 151 yX7_hasFault, Cond.instanceMethod yX7_hasFault, Cond.selects RX7 yX7_hasFault yX7_hasFault, Cond.code yX7_hasFault cX7_hasFault 1 (some .boolean), Cond.methodLink RX7 81 yX7_beginRow, Cond.instanceMethod yX7_beginRow, Cond.selects RX7 yX7_beginRow yX7_beginRow, Cond.code yX7_beginRow cX7_beginRow 4 none, Cond.fieldLink RX7 67 "ShuntYardModel" "rowMany" "I", Cond.methodLink RX7 70 yX7_kindAt, Cond.instanceMethod yX7_kindAt, Cond.selects RX7 yX7_kindAt yX7_kindAt, Cond.code yX7_kindAt cX7_kindAt 3 (some .int), Cond.methodLink RX7 73 yX7_appendKind, Cond.instanceMethod yX7_appendKind, Cond.selects RX7 yX7_appendKind yX7_appendKind, Cond.code yX7_appendKind cX7_appendKind 2 none, Cond.methodLink RX7 85 yX7_isSafeRow, Cond.instanceMethod yX7_isSafeRow, Cond.selects RX7 yX7_isSafeRow yX7_isSafeRow]
def wsL_law_r13 : List Cond := [Cond.code yX7_isSafeRow cX7_isSafeRow 2 (some .boolean), Cond.methodLink RX7 77 yX7_leastGap, Cond.instanceMethod yX7_leastGap, Cond.selects RX7 yX7_leastGap yX7_leastGap, Cond.code yX7_leastGap cX7_leastGap 5 (some .int), Cond.methodLink RX7 93 yX7_put, Cond.instanceMethod yX7_put, Cond.selects RX7 yX7_put yX7_put, Cond.code yX7_put cX7_put 4 none, Cond.methodLink RL 27 yX6_list, Cond.instanceMethod yX6_list, Cond.selects RX6 yX6_list yX6_list, Cond.code yX6_list cX6_list 1 (some .int), Cond.fieldLink RX6 107 "ShuntYard$Yard" "trains" "I", Cond.methodLink RX6 100 yX4_readTrains, Cond.instanceMethod yX4_readTrains, Cond.selects RX4 yX4_readTrains yX4_readTrains, Cond.code yX4_readTrains cX4_readTrains 3 (some .boolean), Cond.methodLink RX6 103 yX5_takeTrains, Cond.instanceMethod yX5_takeTrains, Cond.selects RX5 yX5_takeTrains yX5_takeTrains, Cond.code yX5_takeTrains cX5_takeTrains 2 none, Cond.methodLink RL 31 yX7_list, Cond.instanceMethod yX7_list]
def wsL_law_r14 : List Cond := [Cond.selects RX7 yX7_list yX7_list, Cond.code yX7_list cX7_list 2 (some .int), Cond.methodLink RX7 154 yX7_readList, Cond.instanceMethod yX7_readList, Cond.selects RX7 yX7_readList yX7_readList, Cond.code yX7_readList cX7_readList 3 none, Cond.methodLink RL 32 yX6_move, Cond.instanceMethod yX6_move, Cond.selects RX6 yX6_move yX6_move, Cond.code yX6_move cX6_move 5 (some .int), Cond.methodLink RX6 110 yX5_costOrCode, Cond.instanceMethod yX5_costOrCode, Cond.selects RX5 yX5_costOrCode yX5_costOrCode, Cond.code yX5_costOrCode cX5_costOrCode 4 (some .int), Cond.methodLink RX5 122 yX5_hasTrack, Cond.methodLink RX5 125 yX5_isSafeBehindMove, Cond.instanceMethod yX5_isSafeBehindMove, Cond.selects RX5 yX5_isSafeBehindMove yX5_isSafeBehindMove, Cond.code yX5_isSafeBehindMove cX5_isSafeBehindMove 5 (some .boolean), Cond.methodLink RX5 128 yX5_minutesOf, Cond.instanceMethod yX5_minutesOf, Cond.selects RX5 yX5_minutesOf yX5_minutesOf, Cond.code yX5_minutesOf cX5_minutesOf 6 (some .int), Cond.methodLink RX5 131 Lib.Math.abs.name]
def wsL_law_r15 : List Cond := [Cond.static Lib.Math.abs.name, Cond.code Lib.Math.abs.name Lib.Math.abs.code 1 (some .int), Cond.methodLink RX6 114 yX5_drive, Cond.instanceMethod yX5_drive, Cond.selects RX5 yX5_drive yX5_drive, Cond.code yX5_drive cX5_drive 5 (some .int), Cond.methodLink RX5 136 yX5_shift, Cond.instanceMethod yX5_shift, Cond.selects RX5 yX5_shift yX5_shift, Cond.code yX5_shift cX5_shift 5 none, Cond.methodLink RL 36 yX7_move, Cond.instanceMethod yX7_move, Cond.selects RX7 yX7_move yX7_move, Cond.code yX7_move cX7_move 5 (some .int), Cond.methodLink RX7 104 yX7_cost, Cond.instanceMethod yX7_cost, Cond.selects RX7 yX7_cost yX7_cost, Cond.code yX7_cost cX7_cost 4 (some .int), Cond.methodLink RX7 97 yX7_areTracks, Cond.instanceMethod yX7_areTracks, Cond.selects RX7 yX7_areTracks yX7_areTracks, Cond.code yX7_areTracks cX7_areTracks 4 (some .boolean), Cond.methodLink RX7 100 yX7_costOf, Cond.instanceMethod yX7_costOf]
def wsL_law_r16 : List Cond := [Cond.selects RX7 yX7_costOf yX7_costOf, Cond.code yX7_costOf cX7_costOf 7 (some .int), Cond.methodLink RX7 110 yX7_carry, Cond.instanceMethod yX7_carry, Cond.selects RX7 yX7_carry yX7_carry, Cond.code yX7_carry cX7_carry 8 none, Cond.methodLink RL 37 yX6_test, Cond.instanceMethod yX6_test, Cond.selects RX6 yX6_test yX6_test, Cond.code yX6_test cX6_test 2 (some .int), Cond.methodLink RX6 117 yX5_testBrakes, Cond.instanceMethod yX5_testBrakes, Cond.selects RX5 yX5_testBrakes yX5_testBrakes, Cond.code yX5_testBrakes cX5_testBrakes 3 (some .int), Cond.methodLink RL 40 yX7_test, Cond.instanceMethod yX7_test, Cond.selects RX7 yX7_test yX7_test, Cond.code yX7_test cX7_test 3 (some .int), Cond.methodLink RL 41 yX6_pause, Cond.instanceMethod yX6_pause, Cond.selects RX6 yX6_pause yX6_pause, Cond.code yX6_pause cX6_pause 2 (some .int), Cond.fieldLink RX6 120 "ShuntYard$Yard" "clock" "I", Cond.methodLink RL 44 yX7_pause]
def wsL_law_r17 : List Cond := [Cond.instanceMethod yX7_pause, Cond.selects RX7 yX7_pause yX7_pause, Cond.code yX7_pause cX7_pause 2 (some .int), Cond.methodLink RL 45 yX6_depart, Cond.instanceMethod yX6_depart, Cond.selects RX6 yX6_depart yX6_depart, Cond.code yX6_depart cX6_depart 3 (some .int), Cond.methodLink RX6 123 yX5_refusal, Cond.instanceMethod yX5_refusal, Cond.selects RX5 yX5_refusal yX5_refusal, Cond.code yX5_refusal cX5_refusal 2 (some .int), Cond.methodLink RX5 146 yX5_forFirstOn, Cond.instanceMethod yX5_forFirstOn, Cond.selects RX5 yX5_forFirstOn yX5_forFirstOn, Cond.code yX5_forFirstOn cX5_forFirstOn 4 (some .int), Cond.methodLink RX5 142 yX5_isForFirst, Cond.instanceMethod yX5_isForFirst, Cond.selects RX5 yX5_isForFirst yX5_isForFirst, Cond.code yX5_isForFirst cX5_isForFirst 3 (some .boolean), Cond.methodLink RX5 149 yX5_forFirstInYard, Cond.instanceMethod yX5_forFirstInYard, Cond.selects RX5 yX5_forFirstInYard yX5_forFirstInYard, Cond.code yX5_forFirstInYard cX5_forFirstInYard 3 (some .int), Cond.methodLink RX5 118 yX5_isSafe]
def wsL_law_r18 : List Cond := [Cond.instanceMethod yX5_isSafe, Cond.selects RX5 yX5_isSafe yX5_isSafe, Cond.code yX5_isSafe cX5_isSafe 2 (some .boolean), Cond.methodLink RX5 153 yX5_testHoldsFor, Cond.instanceMethod yX5_testHoldsFor, Cond.selects RX5 yX5_testHoldsFor yX5_testHoldsFor, Cond.code yX5_testHoldsFor cX5_testHoldsFor 2 (some .int), Cond.methodLink RX5 139 Lib.Math.max.name, Cond.static Lib.Math.max.name, Cond.code Lib.Math.max.name Lib.Math.max.code 2 (some .int), Cond.methodLink RX6 126 yX5_sendOff, Cond.instanceMethod yX5_sendOff, Cond.selects RX5 yX5_sendOff yX5_sendOff, Cond.code yX5_sendOff cX5_sendOff 3 (some .int), Cond.methodLink RL 48 yX7_depart, Cond.instanceMethod yX7_depart, Cond.selects RX7 yX7_depart yX7_depart, Cond.code yX7_depart cX7_depart 5 (some .int), Cond.methodLink RX7 127 yX7_reasonAgainst, Cond.instanceMethod yX7_reasonAgainst, Cond.selects RX7 yX7_reasonAgainst yX7_reasonAgainst, Cond.code yX7_reasonAgainst cX7_reasonAgainst 3 (some .int), Cond.methodLink RX7 117 yX7_bound, Cond.instanceMethod yX7_bound]
def wsL_law_r19 : List Cond := [Cond.selects RX7 yX7_bound yX7_bound, Cond.code yX7_bound cX7_bound 5 (some .int), Cond.methodLink RX7 114 yX7_destination, Cond.instanceMethod yX7_destination, Cond.selects RX7 yX7_destination yX7_destination, Cond.code yX7_destination cX7_destination 3 (some .int), Cond.methodLink RX7 120 yX7_isSafe, Cond.instanceMethod yX7_isSafe, Cond.selects RX7 yX7_isSafe yX7_isSafe, Cond.code yX7_isSafe cX7_isSafe 2 (some .boolean), Cond.methodLink RX7 123 yX7_stillHolds, Cond.instanceMethod yX7_stillHolds, Cond.selects RX7 yX7_stillHolds yX7_stillHolds, Cond.code yX7_stillHolds cX7_stillHolds 3 (some .int), Cond.methodLink RL 49 yX6_makeUp, Cond.instanceMethod yX6_makeUp, Cond.selects RX6 yX6_makeUp yX6_makeUp, Cond.code yX6_makeUp cX6_makeUp 5 (some .int), Cond.fieldLink RX6 133 "ShuntYard$Search" "best" "LShuntYard$Row;", Cond.fieldLink RX6 137 "ShuntYard$Row" "moves" "I", Cond.fieldLink RX6 142 "ShuntYard$Row" "from" "[I", Cond.fieldLink RX6 145 "ShuntYard$Row" "to" "[I", Cond.fieldLink RX6 148 "ShuntYard$Row" "n" "[I", Cond.methodLink RX6 129 yX3_succeeds]
def wsL_law_r20 : List Cond := [Cond.instanceMethod yX3_succeeds, Cond.selects RX3 yX3_succeeds yX3_succeeds, Cond.code yX3_succeeds cX3_succeeds 4 (some .boolean), Cond.fieldLink RX3 38 "ShuntYard$Search" "hasBest" "Z", Cond.fieldLink RX3 45 "ShuntYard$Yard" "trains" "I", Cond.fieldLink RX3 53 "ShuntYard$Yard" "capacity" "I", Cond.methodLink RX3 60 Lib.Math.min.name, Cond.methodLink RX3 42 yX2_clear, Cond.instanceMethod yX2_clear, Cond.selects RX2 yX2_clear yX2_clear, Cond.code yX2_clear cX2_clear 1 none, Cond.fieldLink RX2 21 "ShuntYard$Row" "moves" "I", Cond.fieldLink RX2 25 "ShuntYard$Row" "minutes" "I", Cond.methodLink RX3 49 yX5_forFirstInYard, Cond.methodLink RX3 56 yX5_copyFrom, Cond.methodLink RX3 66 yX3_seek, Cond.instanceMethod yX3_seek, Cond.selects RX3 yX3_seek yX3_seek, Cond.code yX3_seek cX3_seek 8 none, Cond.fieldLink RX3 83 "ShuntYard$Yard" "tracks" "I", Cond.fieldLink RX3 86 "ShuntYard$Yard" "length" "[I", Cond.methodLink RX3 70 yX5_madeUpTrack, Cond.instanceMethod yX5_madeUpTrack, Cond.selects RX5 yX5_madeUpTrack yX5_madeUpTrack]
def wsL_law_r21 : List Cond := [Cond.code yX5_madeUpTrack cX5_madeUpTrack 2 (some .int), Cond.methodLink RX3 73 yX3_keepIfCheaper, Cond.instanceMethod yX3_keepIfCheaper, Cond.selects RX3 yX3_keepIfCheaper yX3_keepIfCheaper, Cond.code yX3_keepIfCheaper cX3_keepIfCheaper 1 none, Cond.methodLink RX3 108 yX2_isCheaperThan, Cond.instanceMethod yX2_isCheaperThan, Cond.selects RX2 yX2_isCheaperThan yX2_isCheaperThan, Cond.code yX2_isCheaperThan cX2_isCheaperThan 2 (some .boolean), Cond.methodLink RX3 112 yX2_copyFrom, Cond.instanceMethod yX2_copyFrom, Cond.selects RX2 yX2_copyFrom yX2_copyFrom, Cond.code yX2_copyFrom cX2_copyFrom 2 none, Cond.methodLink RX2 28 arraycopyName, Cond.methodLink RX3 76 yX3_movesNeeded, Cond.instanceMethod yX3_movesNeeded, Cond.selects RX3 yX3_movesNeeded yX3_movesNeeded, Cond.code yX3_movesNeeded cX3_movesNeeded 3 (some .int), Cond.methodLink RX3 121 yX3_countWanted, Cond.instanceMethod yX3_countWanted, Cond.selects RX3 yX3_countWanted yX3_countWanted, Cond.code yX3_countWanted cX3_countWanted 6 none, Cond.methodLink RX3 128 yX5_isForFirst, Cond.methodLink RX3 124 yX3_movesNeededFor]
def wsL_law_r22 : List Cond := [Cond.instanceMethod yX3_movesNeededFor, Cond.selects RX3 yX3_movesNeededFor yX3_movesNeededFor, Cond.code yX3_movesNeededFor cX3_movesNeededFor 5 (some .int), Cond.methodLink RX3 79 yX3_isTooDear, Cond.instanceMethod yX3_isTooDear, Cond.selects RX3 yX3_isTooDear yX3_isTooDear, Cond.code yX3_isTooDear cX3_isTooDear 3 (some .boolean), Cond.fieldLink RX3 115 "ShuntYard$Yard" "settings" "[I", Cond.fieldLink RX3 118 "ShuntYard$Row" "minutes" "I", Cond.methodLink RX3 89 yX5_costOrCode, Cond.methodLink RX3 93 yX3_seekBehindMove, Cond.instanceMethod yX3_seekBehindMove, Cond.selects RX3 yX3_seekBehindMove yX3_seekBehindMove, Cond.code yX3_seekBehindMove cX3_seekBehindMove 6 none, Cond.methodLink RX3 97 yX5_shift, Cond.methodLink RX3 101 yX2_addLast, Cond.instanceMethod yX2_addLast, Cond.selects RX2 yX2_addLast yX2_addLast, Cond.code yX2_addLast cX2_addLast 5 none, Cond.methodLink RX3 105 yX2_dropLast, Cond.instanceMethod yX2_dropLast, Cond.selects RX2 yX2_dropLast yX2_dropLast, Cond.code yX2_dropLast cX2_dropLast 2 none, Cond.methodLink RL 52 yX7_makeUp]
def wsL_law_r23 : List Cond := [Cond.instanceMethod yX7_makeUp, Cond.selects RX7 yX7_makeUp yX7_makeUp, Cond.code yX7_makeUp cX7_makeUp 4 (some .int), Cond.fieldLink RX7 157 "ShuntYardModel" "bestMoves" "I", Cond.fieldLink RX7 160 "ShuntYardModel" "bestMinutes" "I", Cond.methodLink RX7 190 yX7_search, Cond.instanceMethod yX7_search, Cond.selects RX7 yX7_search yX7_search, Cond.code yX7_search cX7_search 4 none, Cond.methodLink RX7 172 yX7_note, Cond.instanceMethod yX7_note, Cond.selects RX7 yX7_note yX7_note, Cond.code yX7_note cX7_note 5 none, Cond.methodLink RX7 163 yX7_madeUp, Cond.instanceMethod yX7_madeUp, Cond.selects RX7 yX7_madeUp yX7_madeUp, Cond.code yX7_madeUp cX7_madeUp 4 (some .int), Cond.methodLink RX7 169 yX7_spread, Cond.instanceMethod yX7_spread, Cond.selects RX7 yX7_spread yX7_spread, Cond.code yX7_spread cX7_spread 3 (some .int), Cond.methodLink RX7 175 yX7_isWorthIt, Cond.instanceMethod yX7_isWorthIt, Cond.selects RX7 yX7_isWorthIt yX7_isWorthIt]
def wsL_law_r24 : List Cond := [Cond.code yX7_isWorthIt cX7_isWorthIt 2 (some .boolean), Cond.methodLink RX7 178 yX7_enter, Cond.instanceMethod yX7_enter, Cond.selects RX7 yX7_enter yX7_enter, Cond.code yX7_enter cX7_enter 2 none, Cond.methodLink RX7 166 yX7_hold, Cond.instanceMethod yX7_hold, Cond.selects RX7 yX7_hold yX7_hold, Cond.code yX7_hold cX7_hold 3 none, Cond.methodLink RX7 181 yX7_release, Cond.instanceMethod yX7_release, Cond.selects RX7 yX7_release yX7_release, Cond.code yX7_release cX7_release 3 none, Cond.methodLink RX7 184 yX7_next, Cond.instanceMethod yX7_next, Cond.selects RX7 yX7_next yX7_next, Cond.code yX7_next cX7_next 3 (some .boolean), Cond.methodLink RX7 187 yX7_tryMove, Cond.instanceMethod yX7_tryMove, Cond.selects RX7 yX7_tryMove yX7_tryMove, Cond.code yX7_tryMove cX7_tryMove 4 (some .int), Cond.methodLink RL 53 yX6_undo, Cond.instanceMethod yX6_undo, Cond.selects RX6 yX6_undo yX6_undo]
def wsL_law_r25 : List Cond := [Cond.code yX6_undo cX6_undo 1 (some .int), Cond.fieldLink RX6 155 "ShuntYard$History" "count" "I", Cond.methodLink RX6 151 yX1_restore, Cond.instanceMethod yX1_restore, Cond.selects RX1 yX1_restore yX1_restore, Cond.code yX1_restore cX1_restore 3 (some .boolean), Cond.methodLink RL 56 yX7_undo, Cond.instanceMethod yX7_undo, Cond.selects RX7 yX7_undo yX7_undo, Cond.code yX7_undo cX7_undo 2 (some .int), Cond.methodLink RL 57 yX6_write, Cond.instanceMethod yX6_write, Cond.selects RX6 yX6_write yX6_write, Cond.code yX6_write cX6_write 2 (some .int), Cond.fieldLink RX6 158 "ShuntYard$Text" "length" "I", Cond.methodLink RX6 160 yX4_append, Cond.instanceMethod yX4_append, Cond.selects RX4 yX4_append yX4_append, Cond.code yX4_append cX4_append 2 none, Cond.methodLink RL 60 yX7_write, Cond.instanceMethod yX7_write, Cond.selects RX7 yX7_write yX7_write, Cond.code yX7_write cX7_write 2 (some .int), Cond.methodLink RL 61 yX6_wipe]
def wsL_law_r26 : List Cond := [Cond.instanceMethod yX6_wipe, Cond.selects RX6 yX6_wipe yX6_wipe, Cond.code yX6_wipe cX6_wipe 2 (some .int), Cond.methodLink RL 64 yX7_wipe, Cond.instanceMethod yX7_wipe, Cond.selects RX7 yX7_wipe yX7_wipe, Cond.code yX7_wipe cX7_wipe 2 (some .int), Cond.methodLink RL 65 yX6_fault, Cond.instanceMethod yX6_fault, Cond.selects RX6 yX6_fault yX6_fault, Cond.code yX6_fault cX6_fault 2 (some .int), Cond.fieldLink RX6 164 "ShuntYard$Text" "faultKind" "I", Cond.fieldLink RX6 167 "ShuntYard$Text" "faultPlace" "I", Cond.methodLink RL 68 yX7_fault, Cond.instanceMethod yX7_fault, Cond.selects RX7 yX7_fault yX7_fault, Cond.code yX7_fault cX7_fault 2 (some .int), Cond.methodLink RL 69 yX6_told, Cond.instanceMethod yX6_told, Cond.selects RX6 yX6_told yX6_told, Cond.code yX6_told cX6_told 2 (some .int), Cond.fieldLink RX6 170 "ShuntYard$Yard" "tracks" "I", Cond.fieldLink RX6 176 "ShuntYard$Yard" "moves" "I", Cond.fieldLink RX6 177 "ShuntYard$Yard" "moveMinutes" "I"]
def wsL_law_r27 : List Cond := [Cond.fieldLink RX6 180 "ShuntYard$Yard" "trainsGone" "I", Cond.fieldLink RX6 183 "ShuntYard$Yard" "wagonsGone" "I", Cond.fieldLink RX6 186 "ShuntYard$Yard" "wagonsCome" "I", Cond.methodLink RX6 173 yX5_unsafeTracks, Cond.instanceMethod yX5_unsafeTracks, Cond.selects RX5 yX5_unsafeTracks yX5_unsafeTracks, Cond.code yX5_unsafeTracks cX5_unsafeTracks 3 (some .int), Cond.methodLink RX6 189 yX5_madeUpTrack, Cond.methodLink RL 72 yX7_told, Cond.instanceMethod yX7_told, Cond.selects RX7 yX7_told yX7_told, Cond.code yX7_told cX7_told 2 (some .int), Cond.methodLink RX7 200 yX7_unsafeTracks, Cond.instanceMethod yX7_unsafeTracks, Cond.selects RX7 yX7_unsafeTracks yX7_unsafeTracks, Cond.code yX7_unsafeTracks cX7_unsafeTracks 3 (some .int), Cond.methodLink RL 73 yX6_setting, Cond.instanceMethod yX6_setting, Cond.selects RX6 yX6_setting yX6_setting, Cond.code yX6_setting cX6_setting 2 (some .int), Cond.methodLink RL 76 yX7_setting, Cond.instanceMethod yX7_setting, Cond.selects RX7 yX7_setting yX7_setting, Cond.code yX7_setting cX7_setting 2 (some .int)]
def wsL_law_r28 : List Cond := [Cond.methodLink RL 77 yX6_track, Cond.instanceMethod yX6_track, Cond.selects RX6 yX6_track yX6_track, Cond.code yX6_track cX6_track 3 (some .int), Cond.methodLink RX6 192 yX5_isSafe, Cond.methodLink RX6 195 yX5_testHoldsFor, Cond.methodLink RX6 198 yX5_leastGap, Cond.instanceMethod yX5_leastGap, Cond.selects RX5 yX5_leastGap yX5_leastGap, Cond.code yX5_leastGap cX5_leastGap 2 (some .int), Cond.methodLink RL 80 yX7_track, Cond.instanceMethod yX7_track, Cond.selects RX7 yX7_track yX7_track, Cond.code yX7_track cX7_track 3 (some .int), Cond.methodLink RL 81 yX6_wagon, Cond.instanceMethod yX6_wagon, Cond.selects RX6 yX6_wagon yX6_wagon, Cond.code yX6_wagon cX6_wagon 5 (some .int), Cond.methodLink RX6 201 yX5_wagonAt, Cond.methodLink RX6 205 yX6_numberOf, Cond.static yX6_numberOf, Cond.code yX6_numberOf cX6_numberOf 1 (some .int), Cond.methodLink RX6 208 yX6_destinationOf, Cond.methodLink RX6 211 yX6_kindOf]
def wsL_law_r29 : List Cond := [Cond.methodLink RL 84 yX7_wagon, Cond.instanceMethod yX7_wagon, Cond.selects RX7 yX7_wagon yX7_wagon, Cond.code yX7_wagon cX7_wagon 4 (some .int), Cond.methodLink RL 85 yX6_train, Cond.instanceMethod yX6_train, Cond.selects RX6 yX6_train yX6_train, Cond.code yX6_train cX6_train 2 (some .int), Cond.fieldLink RX6 214 "ShuntYard$Yard" "destinations" "[I", Cond.methodLink RL 88 yX7_train, Cond.instanceMethod yX7_train, Cond.selects RX7 yX7_train yX7_train, Cond.code yX7_train cX7_train 2 (some .int), Cond.methodLink RL 89 yX6_find, Cond.instanceMethod yX6_find, Cond.selects RX6 yX6_find yX6_find, Cond.code yX6_find cX6_find 4 (some .int), Cond.methodLink RX6 217 yX5_spotOf, Cond.instanceMethod yX5_spotOf, Cond.selects RX5 yX5_spotOf yX5_spotOf, Cond.code yX5_spotOf cX5_spotOf 4 (some .int), Cond.methodLink RL 92 yX7_find, Cond.instanceMethod yX7_find, Cond.selects RX7 yX7_find yX7_find]
def wsL_law_r30 : List Cond := [Cond.code yX7_find cX7_find 5 (some .int), Cond.methodLink RL 93 yX6_mean, Cond.instanceMethod yX6_mean, Cond.selects RX6 yX6_mean yX6_mean, Cond.code yX6_mean cX6_mean 1 (some .float), Cond.methodLink RL 97 yX7_mean, Cond.instanceMethod yX7_mean, Cond.selects RX7 yX7_mean yX7_mean, Cond.code yX7_mean cX7_mean 1 (some .float), Cond.methodLink RL 98 yX6_cost, Cond.instanceMethod yX6_cost, Cond.selects RX6 yX6_cost yX6_cost, Cond.code yX6_cost cX6_cost 4 (some .int), Cond.methodLink RL 101 yX7_cost, Cond.methodLink RL 102 yX6_cheapest, Cond.instanceMethod yX6_cheapest, Cond.selects RX6 yX6_cheapest yX6_cheapest, Cond.code yX6_cheapest cX6_cheapest 4 (some .int), Cond.fieldLink RX6 220 "ShuntYard$Row" "minutes" "I", Cond.methodLink RL 105 yX7_cheapest, Cond.instanceMethod yX7_cheapest, Cond.selects RX7 yX7_cheapest yX7_cheapest, Cond.code yX7_cheapest cX7_cheapest 3 (some .int), Cond.methodLink RL 106 yX6_keep]
def wsL_law_r31 : List Cond := [Cond.instanceMethod yX6_keep, Cond.selects RX6 yX6_keep yX6_keep, Cond.code yX6_keep cX6_keep 2 (some .int), Cond.methodLink RX6 223 yX5_copyFrom, Cond.methodLink RL 109 yX7_keep, Cond.instanceMethod yX7_keep, Cond.selects RX7 yX7_keep yX7_keep, Cond.code yX7_keep cX7_keep 3 (some .int), Cond.fieldLink RX7 206 "ShuntYardModel" "filled" "I", Cond.methodLink RX7 203 yX7_isImage, Cond.static yX7_isImage, Cond.code yX7_isImage cX7_isImage 1 (some .boolean), Cond.methodLink RL 110 yX6_back, Cond.instanceMethod yX6_back, Cond.selects RX6 yX6_back yX6_back, Cond.code yX6_back cX6_back 2 (some .int), Cond.methodLink RL 113 yX7_back, Cond.instanceMethod yX7_back, Cond.selects RX7 yX7_back yX7_back, Cond.code yX7_back cX7_back 3 (some .int)]
def wsL_law : List Cond := (wsL_law_r1 ++ (wsL_law_r2 ++ (wsL_law_r3 ++ (wsL_law_r4 ++ (wsL_law_r5 ++ (wsL_law_r6 ++ (wsL_law_r7 ++ (wsL_law_r8 ++ (wsL_law_r9 ++ (wsL_law_r10 ++ (wsL_law_r11 ++ (wsL_law_r12 ++ (wsL_law_r13 ++ (wsL_law_r14 ++ (wsL_law_r15 ++ (wsL_law_r16 ++ (wsL_law_r17 ++ (wsL_law_r18 ++ (wsL_law_r19 ++ (wsL_law_r20 ++ (wsL_law_r21 ++ (wsL_law_r22 ++ (wsL_law_r23 ++ (wsL_law_r24 ++ (wsL_law_r25 ++ (wsL_law_r26 ++ (wsL_law_r27 ++ (wsL_law_r28 ++ (wsL_law_r29 ++ (wsL_law_r30 ++ wsL_law_r31)))))))))))))))))))))))))))))) ++ wsX60 ++ wsX70 ++ wsX50 ++ wsX10 ++ wsX40 ++ wsX30 ++ wsX00 ++ wsX20 ++ ([] : List Cond)
theorem inlX0 : ∀ w ∈ wsX00, w ∈ wsL_law := fun _ h => List.mem_append_left _ (List.mem_append_left _ (List.mem_append_right _ h))
theorem inlX1 : ∀ w ∈ wsX10, w ∈ wsL_law := fun _ h => List.mem_append_left _ (List.mem_append_left _ (List.mem_append_left _ (List.mem_append_left _ (List.mem_append_left _ (List.mem_append_right _ h)))))
theorem inlX2 : ∀ w ∈ wsX20, w ∈ wsL_law := fun _ h => List.mem_append_left _ (List.mem_append_right _ h)
theorem inlX3 : ∀ w ∈ wsX30, w ∈ wsL_law := fun _ h => List.mem_append_left _ (List.mem_append_left _ (List.mem_append_left _ (List.mem_append_right _ h)))
theorem inlX4 : ∀ w ∈ wsX40, w ∈ wsL_law := fun _ h => List.mem_append_left _ (List.mem_append_left _ (List.mem_append_left _ (List.mem_append_left _ (List.mem_append_right _ h))))
theorem inlX5 : ∀ w ∈ wsX50, w ∈ wsL_law := fun _ h => List.mem_append_left _ (List.mem_append_left _ (List.mem_append_left _ (List.mem_append_left _ (List.mem_append_left _ (List.mem_append_left _ (List.mem_append_right _ h))))))
theorem inlX6 : ∀ w ∈ wsX60, w ∈ wsL_law := fun _ h => List.mem_append_left _ (List.mem_append_left _ (List.mem_append_left _ (List.mem_append_left _ (List.mem_append_left _ (List.mem_append_left _ (List.mem_append_left _ (List.mem_append_left _ (List.mem_append_right _ h))))))))
theorem inlX7 : ∀ w ∈ wsX70, w ∈ wsL_law := fun _ h => List.mem_append_left _ (List.mem_append_left _ (List.mem_append_left _ (List.mem_append_left _ (List.mem_append_left _ (List.mem_append_left _ (List.mem_append_left _ (List.mem_append_right _ h)))))))
abbrev vwCl : List vw_C := [(RX0, TX0, 3), (RX1, TX1, 3), (RX2, TX2, 5), (RX3, TX3, 7), (RX4, TX4, 6), (RX5, TX5, 15), (RX6, TX6, 6), (RX7, TX7, 24)]
