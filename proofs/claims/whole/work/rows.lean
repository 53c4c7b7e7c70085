section
-- ===== PART A: goes FIRST, ahead of the names: the tables' words, and 'selects' of the private methods out of them =====
/-- a private method of a class that the tables say can be made, by its rows of tables_1 -/
def lw_okq (q : MethodName × Nat) : Prop := (q.1.cls ≠ "java/lang/invoke/MethodHandle" ∧ q.1.cls ≠ "java/lang/invoke/VarHandle") ∧ Cond.instantiable q.1.cls q.2 ∈ tables_1 ∧ Cond.privateMethod q.1 ∈ tables_1 ∧ Cond.instanceMethod q.1 ∈ tables_1
theorem lw_p0 : lw_okq (⟨"ShuntYard$Text", "foundFault", "(II)Z"⟩, 6) := ⟨⟨by decide +kernel, by decide +kernel⟩, List.mem_of_getElem? (i := 126) (by decide +kernel), List.mem_of_getElem? (i := 295) (by decide +kernel), List.mem_of_getElem? (i := 296) (by decide +kernel)⟩
theorem lw_p1 : lw_okq (⟨"ShuntYard$Text", "fillLatest", "(II)V"⟩, 6) := ⟨⟨by decide +kernel, by decide +kernel⟩, List.mem_of_getElem? (i := 126) (by decide +kernel), List.mem_of_getElem? (i := 302) (by decide +kernel), List.mem_of_getElem? (i := 303) (by decide +kernel)⟩
theorem lw_p2 : lw_okq (⟨"ShuntYard$Yard", "passPart", "(III)V"⟩, 15) := ⟨⟨by decide +kernel, by decide +kernel⟩, List.mem_of_getElem? (i := 21) (by decide +kernel), List.mem_of_getElem? (i := 314) (by decide +kernel), List.mem_of_getElem? (i := 315) (by decide +kernel)⟩
theorem lw_p3 : lw_okq (⟨"ShuntYard$Yard", "isSafeBehindMove", "(III)Z"⟩, 15) := ⟨⟨by decide +kernel, by decide +kernel⟩, List.mem_of_getElem? (i := 21) (by decide +kernel), List.mem_of_getElem? (i := 359) (by decide +kernel), List.mem_of_getElem? (i := 360) (by decide +kernel)⟩
theorem lw_p4 : lw_okq (⟨"ShuntYard$Yard", "minutesOf", "(III)I"⟩, 15) := ⟨⟨by decide +kernel, by decide +kernel⟩, List.mem_of_getElem? (i := 21) (by decide +kernel), List.mem_of_getElem? (i := 363) (by decide +kernel), List.mem_of_getElem? (i := 364) (by decide +kernel)⟩
theorem lw_p5 : lw_okq (⟨"ShuntYard$Yard", "forFirstOn", "(I)I"⟩, 15) := ⟨⟨by decide +kernel, by decide +kernel⟩, List.mem_of_getElem? (i := 21) (by decide +kernel), List.mem_of_getElem? (i := 398) (by decide +kernel), List.mem_of_getElem? (i := 399) (by decide +kernel)⟩
theorem lw_p6 : lw_okq (⟨"ShuntYard$Search", "seek", "(I)V"⟩, 7) := ⟨⟨by decide +kernel, by decide +kernel⟩, List.mem_of_getElem? (i := 157) (by decide +kernel), List.mem_of_getElem? (i := 440) (by decide +kernel), List.mem_of_getElem? (i := 441) (by decide +kernel)⟩
theorem lw_p7 : lw_okq (⟨"ShuntYard$Search", "keepIfCheaper", "()V"⟩, 7) := ⟨⟨by decide +kernel, by decide +kernel⟩, List.mem_of_getElem? (i := 157) (by decide +kernel), List.mem_of_getElem? (i := 448) (by decide +kernel), List.mem_of_getElem? (i := 449) (by decide +kernel)⟩
theorem lw_p8 : lw_okq (⟨"ShuntYard$Search", "movesNeeded", "()I"⟩, 7) := ⟨⟨by decide +kernel, by decide +kernel⟩, List.mem_of_getElem? (i := 157) (by decide +kernel), List.mem_of_getElem? (i := 461) (by decide +kernel), List.mem_of_getElem? (i := 462) (by decide +kernel)⟩
theorem lw_p9 : lw_okq (⟨"ShuntYard$Search", "countWanted", "(I)V"⟩, 7) := ⟨⟨by decide +kernel, by decide +kernel⟩, List.mem_of_getElem? (i := 157) (by decide +kernel), List.mem_of_getElem? (i := 465) (by decide +kernel), List.mem_of_getElem? (i := 466) (by decide +kernel)⟩
theorem lw_p10 : lw_okq (⟨"ShuntYard$Search", "movesNeededFor", "(I)I"⟩, 7) := ⟨⟨by decide +kernel, by decide +kernel⟩, List.mem_of_getElem? (i := 157) (by decide +kernel), List.mem_of_getElem? (i := 470) (by decide +kernel), List.mem_of_getElem? (i := 471) (by decide +kernel)⟩
theorem lw_p11 : lw_okq (⟨"ShuntYard$Search", "isTooDear", "(I)Z"⟩, 7) := ⟨⟨by decide +kernel, by decide +kernel⟩, List.mem_of_getElem? (i := 157) (by decide +kernel), List.mem_of_getElem? (i := 474) (by decide +kernel), List.mem_of_getElem? (i := 475) (by decide +kernel)⟩
theorem lw_p12 : lw_okq (⟨"ShuntYard$Search", "seekBehindMove", "(IIIII)V"⟩, 7) := ⟨⟨by decide +kernel, by decide +kernel⟩, List.mem_of_getElem? (i := 157) (by decide +kernel), List.mem_of_getElem? (i := 479) (by decide +kernel), List.mem_of_getElem? (i := 480) (by decide +kernel)⟩
theorem lw_p13 : lw_okq (⟨"ShuntYardModel", "areTracks", "(III)Z"⟩, 24) := ⟨⟨by decide +kernel, by decide +kernel⟩, List.mem_of_getElem? (i := 583) (by decide +kernel), List.mem_of_getElem? (i := 666) (by decide +kernel), List.mem_of_getElem? (i := 667) (by decide +kernel)⟩
theorem lw_p14 : lw_okq (⟨"ShuntYardModel", "isTrack", "(I)Z"⟩, 24) := ⟨⟨by decide +kernel, by decide +kernel⟩, List.mem_of_getElem? (i := 583) (by decide +kernel), List.mem_of_getElem? (i := 670) (by decide +kernel), List.mem_of_getElem? (i := 671) (by decide +kernel)⟩
theorem lw_p15 : lw_okq (⟨"ShuntYardModel", "costOf", "(III)I"⟩, 24) := ⟨⟨by decide +kernel, by decide +kernel⟩, List.mem_of_getElem? (i := 583) (by decide +kernel), List.mem_of_getElem? (i := 677) (by decide +kernel), List.mem_of_getElem? (i := 678) (by decide +kernel)⟩
def lw_privs_1 : List (MethodName × Nat) := [(⟨"ShuntYard$Text", "foundFault", "(II)Z"⟩, 6), (⟨"ShuntYard$Text", "fillLatest", "(II)V"⟩, 6), (⟨"ShuntYard$Yard", "passPart", "(III)V"⟩, 15), (⟨"ShuntYard$Yard", "isSafeBehindMove", "(III)Z"⟩, 15), (⟨"ShuntYard$Yard", "minutesOf", "(III)I"⟩, 15), (⟨"ShuntYard$Yard", "forFirstOn", "(I)I"⟩, 15), (⟨"ShuntYard$Search", "seek", "(I)V"⟩, 7), (⟨"ShuntYard$Search", "keepIfCheaper", "()V"⟩, 7), (⟨"ShuntYard$Search", "movesNeeded", "()I"⟩, 7), (⟨"ShuntYard$Search", "countWanted", "(I)V"⟩, 7), (⟨"ShuntYard$Search", "movesNeededFor", "(I)I"⟩, 7), (⟨"ShuntYard$Search", "isTooDear", "(I)Z"⟩, 7), (⟨"ShuntYard$Search", "seekBehindMove", "(IIIII)V"⟩, 7), (⟨"ShuntYardModel", "areTracks", "(III)Z"⟩, 24), (⟨"ShuntYardModel", "isTrack", "(I)Z"⟩, 24), (⟨"ShuntYardModel", "costOf", "(III)I"⟩, 24)]
theorem lw_r1 : ∀ q ∈ lw_privs_1, lw_okq q := List.forall_mem_cons.mpr ⟨lw_p0, List.forall_mem_cons.mpr ⟨lw_p1, List.forall_mem_cons.mpr ⟨lw_p2, List.forall_mem_cons.mpr ⟨lw_p3, List.forall_mem_cons.mpr ⟨lw_p4, List.forall_mem_cons.mpr ⟨lw_p5, List.forall_mem_cons.mpr ⟨lw_p6, List.forall_mem_cons.mpr ⟨lw_p7, List.forall_mem_cons.mpr ⟨lw_p8, List.forall_mem_cons.mpr ⟨lw_p9, List.forall_mem_cons.mpr ⟨lw_p10, List.forall_mem_cons.mpr ⟨lw_p11, List.forall_mem_cons.mpr ⟨lw_p12, List.forall_mem_cons.mpr ⟨lw_p13, List.forall_mem_cons.mpr ⟨lw_p14, List.forall_mem_cons.mpr ⟨lw_p15, fun _ h => absurd h List.not_mem_nil⟩⟩⟩⟩⟩⟩⟩⟩⟩⟩⟩⟩⟩⟩⟩⟩
theorem lw_p16 : lw_okq (⟨"ShuntYardModel", "of", "(II)I"⟩, 24) := ⟨⟨by decide +kernel, by decide +kernel⟩, List.mem_of_getElem? (i := 583) (by decide +kernel), List.mem_of_getElem? (i := 681) (by decide +kernel), List.mem_of_getElem? (i := 682) (by decide +kernel)⟩
theorem lw_p17 : lw_okq (⟨"ShuntYardModel", "beginRow", "(II)V"⟩, 24) := ⟨⟨by decide +kernel, by decide +kernel⟩, List.mem_of_getElem? (i := 583) (by decide +kernel), List.mem_of_getElem? (i := 685) (by decide +kernel), List.mem_of_getElem? (i := 686) (by decide +kernel)⟩
theorem lw_p18 : lw_okq (⟨"ShuntYardModel", "kindAt", "(II)I"⟩, 24) := ⟨⟨by decide +kernel, by decide +kernel⟩, List.mem_of_getElem? (i := 583) (by decide +kernel), List.mem_of_getElem? (i := 689) (by decide +kernel), List.mem_of_getElem? (i := 690) (by decide +kernel)⟩
theorem lw_p19 : lw_okq (⟨"ShuntYardModel", "appendKind", "(I)V"⟩, 24) := ⟨⟨by decide +kernel, by decide +kernel⟩, List.mem_of_getElem? (i := 583) (by decide +kernel), List.mem_of_getElem? (i := 693) (by decide +kernel), List.mem_of_getElem? (i := 694) (by decide +kernel)⟩
theorem lw_p20 : lw_okq (⟨"ShuntYardModel", "isSafeRow", "()Z"⟩, 24) := ⟨⟨by decide +kernel, by decide +kernel⟩, List.mem_of_getElem? (i := 583) (by decide +kernel), List.mem_of_getElem? (i := 697) (by decide +kernel), List.mem_of_getElem? (i := 698) (by decide +kernel)⟩
theorem lw_p21 : lw_okq (⟨"ShuntYardModel", "leastGap", "()I"⟩, 24) := ⟨⟨by decide +kernel, by decide +kernel⟩, List.mem_of_getElem? (i := 583) (by decide +kernel), List.mem_of_getElem? (i := 701) (by decide +kernel), List.mem_of_getElem? (i := 702) (by decide +kernel)⟩
theorem lw_p22 : lw_okq (⟨"ShuntYardModel", "remember", "()V"⟩, 24) := ⟨⟨by decide +kernel, by decide +kernel⟩, List.mem_of_getElem? (i := 583) (by decide +kernel), List.mem_of_getElem? (i := 710) (by decide +kernel), List.mem_of_getElem? (i := 711) (by decide +kernel)⟩
theorem lw_p23 : lw_okq (⟨"ShuntYardModel", "carry", "(IIII)V"⟩, 24) := ⟨⟨by decide +kernel, by decide +kernel⟩, List.mem_of_getElem? (i := 583) (by decide +kernel), List.mem_of_getElem? (i := 714) (by decide +kernel), List.mem_of_getElem? (i := 715) (by decide +kernel)⟩
theorem lw_p24 : lw_okq (⟨"ShuntYardModel", "put", "(III)V"⟩, 24) := ⟨⟨by decide +kernel, by decide +kernel⟩, List.mem_of_getElem? (i := 583) (by decide +kernel), List.mem_of_getElem? (i := 718) (by decide +kernel), List.mem_of_getElem? (i := 719) (by decide +kernel)⟩
theorem lw_p25 : lw_okq (⟨"ShuntYardModel", "reasonAgainst", "(I)I"⟩, 24) := ⟨⟨by decide +kernel, by decide +kernel⟩, List.mem_of_getElem? (i := 583) (by decide +kernel), List.mem_of_getElem? (i := 734) (by decide +kernel), List.mem_of_getElem? (i := 735) (by decide +kernel)⟩
theorem lw_p26 : lw_okq (⟨"ShuntYardModel", "bound", "(II)I"⟩, 24) := ⟨⟨by decide +kernel, by decide +kernel⟩, List.mem_of_getElem? (i := 583) (by decide +kernel), List.mem_of_getElem? (i := 738) (by decide +kernel), List.mem_of_getElem? (i := 739) (by decide +kernel)⟩
theorem lw_p27 : lw_okq (⟨"ShuntYardModel", "destination", "(II)I"⟩, 24) := ⟨⟨by decide +kernel, by decide +kernel⟩, List.mem_of_getElem? (i := 583) (by decide +kernel), List.mem_of_getElem? (i := 742) (by decide +kernel), List.mem_of_getElem? (i := 743) (by decide +kernel)⟩
theorem lw_p28 : lw_okq (⟨"ShuntYardModel", "isSafe", "(I)Z"⟩, 24) := ⟨⟨by decide +kernel, by decide +kernel⟩, List.mem_of_getElem? (i := 583) (by decide +kernel), List.mem_of_getElem? (i := 746) (by decide +kernel), List.mem_of_getElem? (i := 747) (by decide +kernel)⟩
theorem lw_p29 : lw_okq (⟨"ShuntYardModel", "stillHolds", "(I)I"⟩, 24) := ⟨⟨by decide +kernel, by decide +kernel⟩, List.mem_of_getElem? (i := 583) (by decide +kernel), List.mem_of_getElem? (i := 750) (by decide +kernel), List.mem_of_getElem? (i := 751) (by decide +kernel)⟩
theorem lw_p30 : lw_okq (⟨"ShuntYardModel", "readWagons", "()V"⟩, 24) := ⟨⟨by decide +kernel, by decide +kernel⟩, List.mem_of_getElem? (i := 583) (by decide +kernel), List.mem_of_getElem? (i := 758) (by decide +kernel), List.mem_of_getElem? (i := 759) (by decide +kernel)⟩
theorem lw_p31 : lw_okq (⟨"ShuntYardModel", "fails", "(II)V"⟩, 24) := ⟨⟨by decide +kernel, by decide +kernel⟩, List.mem_of_getElem? (i := 583) (by decide +kernel), List.mem_of_getElem? (i := 762) (by decide +kernel), List.mem_of_getElem? (i := 763) (by decide +kernel)⟩
def lw_privs_2 : List (MethodName × Nat) := [(⟨"ShuntYardModel", "of", "(II)I"⟩, 24), (⟨"ShuntYardModel", "beginRow", "(II)V"⟩, 24), (⟨"ShuntYardModel", "kindAt", "(II)I"⟩, 24), (⟨"ShuntYardModel", "appendKind", "(I)V"⟩, 24), (⟨"ShuntYardModel", "isSafeRow", "()Z"⟩, 24), (⟨"ShuntYardModel", "leastGap", "()I"⟩, 24), (⟨"ShuntYardModel", "remember", "()V"⟩, 24), (⟨"ShuntYardModel", "carry", "(IIII)V"⟩, 24), (⟨"ShuntYardModel", "put", "(III)V"⟩, 24), (⟨"ShuntYardModel", "reasonAgainst", "(I)I"⟩, 24), (⟨"ShuntYardModel", "bound", "(II)I"⟩, 24), (⟨"ShuntYardModel", "destination", "(II)I"⟩, 24), (⟨"ShuntYardModel", "isSafe", "(I)Z"⟩, 24), (⟨"ShuntYardModel", "stillHolds", "(I)I"⟩, 24), (⟨"ShuntYardModel", "readWagons", "()V"⟩, 24), (⟨"ShuntYardModel", "fails", "(II)V"⟩, 24)]
theorem lw_r2 : ∀ q ∈ lw_privs_2, lw_okq q := List.forall_mem_cons.mpr ⟨lw_p16, List.forall_mem_cons.mpr ⟨lw_p17, List.forall_mem_cons.mpr ⟨lw_p18, List.forall_mem_cons.mpr ⟨lw_p19, List.forall_mem_cons.mpr ⟨lw_p20, List.forall_mem_cons.mpr ⟨lw_p21, List.forall_mem_cons.mpr ⟨lw_p22, List.forall_mem_cons.mpr ⟨lw_p23, List.forall_mem_cons.mpr ⟨lw_p24, List.forall_mem_cons.mpr ⟨lw_p25, List.forall_mem_cons.mpr ⟨lw_p26, List.forall_mem_cons.mpr ⟨lw_p27, List.forall_mem_cons.mpr ⟨lw_p28, List.forall_mem_cons.mpr ⟨lw_p29, List.forall_mem_cons.mpr ⟨lw_p30, List.forall_mem_cons.mpr ⟨lw_p31, fun _ h => absurd h List.not_mem_nil⟩⟩⟩⟩⟩⟩⟩⟩⟩⟩⟩⟩⟩⟩⟩⟩
theorem lw_p32 : lw_okq (⟨"ShuntYardModel", "hasFault", "()Z"⟩, 24) := ⟨⟨by decide +kernel, by decide +kernel⟩, List.mem_of_getElem? (i := 583) (by decide +kernel), List.mem_of_getElem? (i := 769) (by decide +kernel), List.mem_of_getElem? (i := 770) (by decide +kernel)⟩
theorem lw_p33 : lw_okq (⟨"ShuntYardModel", "readList", "()V"⟩, 24) := ⟨⟨by decide +kernel, by decide +kernel⟩, List.mem_of_getElem? (i := 583) (by decide +kernel), List.mem_of_getElem? (i := 777) (by decide +kernel), List.mem_of_getElem? (i := 778) (by decide +kernel)⟩
theorem lw_p34 : lw_okq (⟨"ShuntYardModel", "search", "(I)V"⟩, 24) := ⟨⟨by decide +kernel, by decide +kernel⟩, List.mem_of_getElem? (i := 583) (by decide +kernel), List.mem_of_getElem? (i := 797) (by decide +kernel), List.mem_of_getElem? (i := 798) (by decide +kernel)⟩
theorem lw_p35 : lw_okq (⟨"ShuntYardModel", "note", "(II)V"⟩, 24) := ⟨⟨by decide +kernel, by decide +kernel⟩, List.mem_of_getElem? (i := 583) (by decide +kernel), List.mem_of_getElem? (i := 801) (by decide +kernel), List.mem_of_getElem? (i := 802) (by decide +kernel)⟩
theorem lw_p36 : lw_okq (⟨"ShuntYardModel", "madeUp", "()I"⟩, 24) := ⟨⟨by decide +kernel, by decide +kernel⟩, List.mem_of_getElem? (i := 583) (by decide +kernel), List.mem_of_getElem? (i := 805) (by decide +kernel), List.mem_of_getElem? (i := 806) (by decide +kernel)⟩
theorem lw_p37 : lw_okq (⟨"ShuntYardModel", "spread", "()I"⟩, 24) := ⟨⟨by decide +kernel, by decide +kernel⟩, List.mem_of_getElem? (i := 583) (by decide +kernel), List.mem_of_getElem? (i := 809) (by decide +kernel), List.mem_of_getElem? (i := 810) (by decide +kernel)⟩
theorem lw_p38 : lw_okq (⟨"ShuntYardModel", "isWorthIt", "(I)Z"⟩, 24) := ⟨⟨by decide +kernel, by decide +kernel⟩, List.mem_of_getElem? (i := 583) (by decide +kernel), List.mem_of_getElem? (i := 813) (by decide +kernel), List.mem_of_getElem? (i := 814) (by decide +kernel)⟩
theorem lw_p39 : lw_okq (⟨"ShuntYardModel", "enter", "(I)V"⟩, 24) := ⟨⟨by decide +kernel, by decide +kernel⟩, List.mem_of_getElem? (i := 583) (by decide +kernel), List.mem_of_getElem? (i := 817) (by decide +kernel), List.mem_of_getElem? (i := 818) (by decide +kernel)⟩
theorem lw_p40 : lw_okq (⟨"ShuntYardModel", "hold", "(I)V"⟩, 24) := ⟨⟨by decide +kernel, by decide +kernel⟩, List.mem_of_getElem? (i := 583) (by decide +kernel), List.mem_of_getElem? (i := 821) (by decide +kernel), List.mem_of_getElem? (i := 822) (by decide +kernel)⟩
theorem lw_p41 : lw_okq (⟨"ShuntYardModel", "release", "(I)V"⟩, 24) := ⟨⟨by decide +kernel, by decide +kernel⟩, List.mem_of_getElem? (i := 583) (by decide +kernel), List.mem_of_getElem? (i := 825) (by decide +kernel), List.mem_of_getElem? (i := 826) (by decide +kernel)⟩
theorem lw_p42 : lw_okq (⟨"ShuntYardModel", "next", "(I)Z"⟩, 24) := ⟨⟨by decide +kernel, by decide +kernel⟩, List.mem_of_getElem? (i := 583) (by decide +kernel), List.mem_of_getElem? (i := 829) (by decide +kernel), List.mem_of_getElem? (i := 830) (by decide +kernel)⟩
theorem lw_p43 : lw_okq (⟨"ShuntYardModel", "tryMove", "(II)I"⟩, 24) := ⟨⟨by decide +kernel, by decide +kernel⟩, List.mem_of_getElem? (i := 583) (by decide +kernel), List.mem_of_getElem? (i := 833) (by decide +kernel), List.mem_of_getElem? (i := 834) (by decide +kernel)⟩
theorem lw_p44 : lw_okq (⟨"ShuntYardModel", "wagons", "()I"⟩, 24) := ⟨⟨by decide +kernel, by decide +kernel⟩, List.mem_of_getElem? (i := 583) (by decide +kernel), List.mem_of_getElem? (i := 845) (by decide +kernel), List.mem_of_getElem? (i := 846) (by decide +kernel)⟩
theorem lw_p45 : lw_okq (⟨"ShuntYardModel", "unsafeTracks", "()I"⟩, 24) := ⟨⟨by decide +kernel, by decide +kernel⟩, List.mem_of_getElem? (i := 583) (by decide +kernel), List.mem_of_getElem? (i := 864) (by decide +kernel), List.mem_of_getElem? (i := 865) (by decide +kernel)⟩
def lw_privs_3 : List (MethodName × Nat) := [(⟨"ShuntYardModel", "hasFault", "()Z"⟩, 24), (⟨"ShuntYardModel", "readList", "()V"⟩, 24), (⟨"ShuntYardModel", "search", "(I)V"⟩, 24), (⟨"ShuntYardModel", "note", "(II)V"⟩, 24), (⟨"ShuntYardModel", "madeUp", "()I"⟩, 24), (⟨"ShuntYardModel", "spread", "()I"⟩, 24), (⟨"ShuntYardModel", "isWorthIt", "(I)Z"⟩, 24), (⟨"ShuntYardModel", "enter", "(I)V"⟩, 24), (⟨"ShuntYardModel", "hold", "(I)V"⟩, 24), (⟨"ShuntYardModel", "release", "(I)V"⟩, 24), (⟨"ShuntYardModel", "next", "(I)Z"⟩, 24), (⟨"ShuntYardModel", "tryMove", "(II)I"⟩, 24), (⟨"ShuntYardModel", "wagons", "()I"⟩, 24), (⟨"ShuntYardModel", "unsafeTracks", "()I"⟩, 24)]
theorem lw_r3 : ∀ q ∈ lw_privs_3, lw_okq q := List.forall_mem_cons.mpr ⟨lw_p32, List.forall_mem_cons.mpr ⟨lw_p33, List.forall_mem_cons.mpr ⟨lw_p34, List.forall_mem_cons.mpr ⟨lw_p35, List.forall_mem_cons.mpr ⟨lw_p36, List.forall_mem_cons.mpr ⟨lw_p37, List.forall_mem_cons.mpr ⟨lw_p38, List.forall_mem_cons.mpr ⟨lw_p39, List.forall_mem_cons.mpr ⟨lw_p40, List.forall_mem_cons.mpr ⟨lw_p41, List.forall_mem_cons.mpr ⟨lw_p42, List.forall_mem_cons.mpr ⟨lw_p43, List.forall_mem_cons.mpr ⟨lw_p44, List.forall_mem_cons.mpr ⟨lw_p45, fun _ h => absurd h List.not_mem_nil⟩⟩⟩⟩⟩⟩⟩⟩⟩⟩⟩⟩⟩⟩
def lw_privs : List (MethodName × Nat) := lw_privs_1 ++ (lw_privs_2 ++ (lw_privs_3))
def lw_tbl : List Cond := k2_sels lw_privs ++ tables_1
theorem lw_privs_ok : ∀ q ∈ lw_privs, lw_okq q := by
  show ∀ q ∈ lw_privs_1 ++ (lw_privs_2 ++ (lw_privs_3)), lw_okq q
  exact List.forall_mem_append.mpr ⟨lw_r1, List.forall_mem_append.mpr ⟨lw_r2, lw_r3⟩⟩
/-- the streams that the claim lets the run draw from -/
abbrev lw_cs : List Choice := [Jvm.Choice.named "NaN.bits"]
theorem lw_bits : nanBits ∈ lw_cs := by first | decide | exact List.mem_cons_self | simp [lw_cs, nanBits]
/-! ===== BEGIN words of one list among another's, by their places ===== -/
theorem goodIn_r {big : List Cond} (ws : List Cond) (ps : List Nat) (hp : ws = ps.filterMap (fun i => big[i]?)) (h : ws.all goodWord = true) : GoodIn big ws := by
  intro w hw
  have h1 := List.all_eq_true.mp h w hw
  rw [hp] at hw
  obtain ⟨i, -, hi⟩ := List.mem_filterMap.mp hw
  have hm : w ∈ big := by first | exact List.mem_of_getElem? hi | exact List.getElem?_mem hi
  exact ⟨hm, good_of_word h1⟩
theorem goodIn_app {big a b : List Cond} (ha : GoodIn big a) (hb : GoodIn big b) : GoodIn big (a ++ b) := fun w h => (List.mem_append.mp h).elim (ha w) (hb w)
theorem goodIn_ca {big a b : List Cond} {c : Cond} (ha : GoodIn big (c :: a)) (hb : GoodIn big b) : GoodIn big (c :: (a ++ b)) := fun w h => (List.mem_cons.mp h).elim (fun e => ha w (List.mem_cons.mpr (Or.inl e))) (fun h => (List.mem_append.mp h).elim (fun h => ha w (List.mem_cons.mpr (Or.inr h))) (hb w))
theorem goodIn_sub {big ws : List Cond} (hm : ∀ w ∈ ws, w ∈ big) (h : ws.all goodWord = true) : GoodIn big ws := fun w hw => ⟨hm w hw, good_of_word (List.all_eq_true.mp h w hw)⟩
/-! ===== END ===== -/

/-! ===== BEGIN printed: names, fields, word lists, decode rows ===== -/
def RX0 : String := "ShuntYard$Gaps"
def TX0 : u_T := fun k => match k with
  | 0 => ("ShuntYard$Gaps", "least", "I", false)
  | 1 => ("ShuntYard$Gaps", "latestDanger", "I", false)
  | _ => ("ShuntYard$Gaps", "between", "I", false)
def tyX0 : Nat → FieldType := fun k => match k with
  | 0 => .int
  | 1 => .int
  | _ => .int
abbrev wsX00 : List Cond := u_ws RX0 TX0 3
theorem nmX0 : ∀ a, a < 3 → ∀ b, b < 3 → a ≠ b → (TX0 a).2.1 ≠ (TX0 b).2.1 := by decide +kernel
theorem tyX0_ok : ∀ k, k < 3 → parseFieldDescriptor (TX0 k).2.2.1 = some (tyX0 k) := by decide +kernel
abbrev cX0_init : ByteArray := prog_2_method_1_code
def yX0_init : MethodName := ⟨RX0, "<init>", "()V"⟩
abbrev cX0_start : ByteArray := prog_2_method_2_code
def yX0_start : MethodName := ⟨RX0, "start", "()V"⟩
abbrev cX0_pass : ByteArray := prog_2_method_3_code
def yX0_pass : MethodName := ⟨RX0, "pass", "(I)V"⟩
def RX1 : String := "ShuntYard$History"
def TX1 : u_T := fun k => match k with
  | 0 => ("ShuntYard$History", "states", "[LShuntYard$Yard;", true)
  | 1 => ("ShuntYard$History", "next", "I", false)
  | _ => ("ShuntYard$History", "count", "I", false)
def tyX1 : Nat → FieldType := fun k => match k with
  | 0 => .array (.object "ShuntYard$Yard")
  | 1 => .int
  | _ => .int
abbrev wsX10 : List Cond := u_ws RX1 TX1 3
theorem nmX1 : ∀ a, a < 3 → ∀ b, b < 3 → a ≠ b → (TX1 a).2.1 ≠ (TX1 b).2.1 := by decide +kernel
theorem tyX1_ok : ∀ k, k < 3 → parseFieldDescriptor (TX1 k).2.2.1 = some (tyX1 k) := by decide +kernel
abbrev cX1_init : ByteArray := prog_3_method_1_code
def yX1_init : MethodName := ⟨RX1, "<init>", "()V"⟩
abbrev cX1_add : ByteArray := prog_3_method_2_code
def yX1_add : MethodName := ⟨RX1, "add", "(LShuntYard$Yard;)V"⟩
abbrev cX1_restore : ByteArray := prog_3_method_3_code
def yX1_restore : MethodName := ⟨RX1, "restore", "(LShuntYard$Yard;)Z"⟩
def RX2 : String := "ShuntYard$Row"
def TX2 : u_T := fun k => match k with
  | 0 => ("ShuntYard$Row", "moves", "I", false)
  | 1 => ("ShuntYard$Row", "minutes", "I", false)
  | 2 => ("ShuntYard$Row", "from", "[I", true)
  | 3 => ("ShuntYard$Row", "to", "[I", true)
  | _ => ("ShuntYard$Row", "n", "[I", true)
def tyX2 : Nat → FieldType := fun k => match k with
  | 0 => .int
  | 1 => .int
  | 2 => .array .int
  | 3 => .array .int
  | _ => .array .int
abbrev wsX20 : List Cond := u_ws RX2 TX2 5
theorem nmX2 : ∀ a, a < 5 → ∀ b, b < 5 → a ≠ b → (TX2 a).2.1 ≠ (TX2 b).2.1 := by decide +kernel
theorem tyX2_ok : ∀ k, k < 5 → parseFieldDescriptor (TX2 k).2.2.1 = some (tyX2 k) := by decide +kernel
abbrev cX2_init : ByteArray := prog_4_method_1_code
def yX2_init : MethodName := ⟨RX2, "<init>", "()V"⟩
abbrev cX2_clear : ByteArray := prog_4_method_2_code
def yX2_clear : MethodName := ⟨RX2, "clear", "()V"⟩
abbrev cX2_addLast : ByteArray := prog_4_method_3_code
def yX2_addLast : MethodName := ⟨RX2, "addLast", "(IIII)V"⟩
abbrev cX2_dropLast : ByteArray := prog_4_method_4_code
def yX2_dropLast : MethodName := ⟨RX2, "dropLast", "(I)V"⟩
abbrev cX2_isCheaperThan : ByteArray := prog_4_method_5_code
def yX2_isCheaperThan : MethodName := ⟨RX2, "isCheaperThan", "(LShuntYard$Row;)Z"⟩
abbrev cX2_copyFrom : ByteArray := prog_4_method_6_code
def yX2_copyFrom : MethodName := ⟨RX2, "copyFrom", "(LShuntYard$Row;)V"⟩
def RX3 : String := "ShuntYard$Search"
def TX3 : u_T := fun k => match k with
  | 0 => ("ShuntYard$Search", "best", "LShuntYard$Row;", true)
  | 1 => ("ShuntYard$Search", "hasBest", "Z", false)
  | 2 => ("ShuntYard$Search", "trial", "LShuntYard$Yard;", true)
  | 3 => ("ShuntYard$Search", "row", "LShuntYard$Row;", true)
  | 4 => ("ShuntYard$Search", "wanted", "[I", true)
  | 5 => ("ShuntYard$Search", "wantedInnermost", "[I", true)
  | _ => ("ShuntYard$Search", "wantedOutermost", "[I", true)
def tyX3 : Nat → FieldType := fun k => match k with
  | 0 => .object "ShuntYard$Row"
  | 1 => .boolean
  | 2 => .object "ShuntYard$Yard"
  | 3 => .object "ShuntYard$Row"
  | 4 => .array .int
  | 5 => .array .int
  | _ => .array .int
abbrev wsX30 : List Cond := u_ws RX3 TX3 7
theorem nmX3 : ∀ a, a < 7 → ∀ b, b < 7 → a ≠ b → (TX3 a).2.1 ≠ (TX3 b).2.1 := by decide +kernel
theorem tyX3_ok : ∀ k, k < 7 → parseFieldDescriptor (TX3 k).2.2.1 = some (tyX3 k) := by decide +kernel
abbrev cX3_init : ByteArray := prog_5_method_1_code
def yX3_init : MethodName := ⟨RX3, "<init>", "()V"⟩
abbrev cX3_succeeds : ByteArray := prog_5_method_2_code
def yX3_succeeds : MethodName := ⟨RX3, "succeeds", "(LShuntYard$Yard;I)Z"⟩
abbrev cX3_seek : ByteArray := prog_5_method_3_code
def yX3_seek : MethodName := ⟨RX3, "seek", "(I)V"⟩
abbrev cX3_seekBehindMove : ByteArray := prog_5_method_4_code
def yX3_seekBehindMove : MethodName := ⟨RX3, "seekBehindMove", "(IIIII)V"⟩
abbrev cX3_keepIfCheaper : ByteArray := prog_5_method_5_code
def yX3_keepIfCheaper : MethodName := ⟨RX3, "keepIfCheaper", "()V"⟩
abbrev cX3_isTooDear : ByteArray := prog_5_method_6_code
def yX3_isTooDear : MethodName := ⟨RX3, "isTooDear", "(I)Z"⟩
abbrev cX3_movesNeeded : ByteArray := prog_5_method_7_code
def yX3_movesNeeded : MethodName := ⟨RX3, "movesNeeded", "()I"⟩
abbrev cX3_countWanted : ByteArray := prog_5_method_8_code
def yX3_countWanted : MethodName := ⟨RX3, "countWanted", "(I)V"⟩
abbrev cX3_movesNeededFor : ByteArray := prog_5_method_9_code
def yX3_movesNeededFor : MethodName := ⟨RX3, "movesNeededFor", "(I)I"⟩
def RX4 : String := "ShuntYard$Text"
def TX4 : u_T := fun k => match k with
  | 0 => ("ShuntYard$Text", "bytes", "[I", true)
  | 1 => ("ShuntYard$Text", "length", "I", false)
  | 2 => ("ShuntYard$Text", "read", "[I", true)
  | 3 => ("ShuntYard$Text", "found", "I", false)
  | 4 => ("ShuntYard$Text", "faultKind", "I", false)
  | _ => ("ShuntYard$Text", "faultPlace", "I", false)
def tyX4 : Nat → FieldType := fun k => match k with
  | 0 => .array .int
  | 1 => .int
  | 2 => .array .int
  | 3 => .int
  | 4 => .int
  | _ => .int
abbrev wsX40 : List Cond := u_ws RX4 TX4 6
theorem nmX4 : ∀ a, a < 6 → ∀ b, b < 6 → a ≠ b → (TX4 a).2.1 ≠ (TX4 b).2.1 := by decide +kernel
theorem tyX4_ok : ∀ k, k < 6 → parseFieldDescriptor (TX4 k).2.2.1 = some (tyX4 k) := by decide +kernel
abbrev cX4_init : ByteArray := prog_6_method_1_code
def yX4_init : MethodName := ⟨RX4, "<init>", "()V"⟩
abbrev cX4_append : ByteArray := prog_6_method_2_code
def yX4_append : MethodName := ⟨RX4, "append", "(I)V"⟩
abbrev cX4_readWagons : ByteArray := prog_6_method_3_code
def yX4_readWagons : MethodName := ⟨RX4, "readWagons", "()Z"⟩
abbrev cX4_fillLatest : ByteArray := prog_6_method_4_code
def yX4_fillLatest : MethodName := ⟨RX4, "fillLatest", "(II)V"⟩
abbrev cX4_readTrains : ByteArray := prog_6_method_5_code
def yX4_readTrains : MethodName := ⟨RX4, "readTrains", "()Z"⟩
abbrev cX4_foundFault : ByteArray := prog_6_method_6_code
def yX4_foundFault : MethodName := ⟨RX4, "foundFault", "(II)Z"⟩
def RX5 : String := "ShuntYard$Yard"
def TX5 : u_T := fun k => match k with
  | 0 => ("ShuntYard$Yard", "tracks", "I", false)
  | 1 => ("ShuntYard$Yard", "capacity", "I", false)
  | 2 => ("ShuntYard$Yard", "clock", "I", false)
  | 3 => ("ShuntYard$Yard", "moves", "I", false)
  | 4 => ("ShuntYard$Yard", "moveMinutes", "I", false)
  | 5 => ("ShuntYard$Yard", "trainsGone", "I", false)
  | 6 => ("ShuntYard$Yard", "wagonsGone", "I", false)
  | 7 => ("ShuntYard$Yard", "wagonsCome", "I", false)
  | 8 => ("ShuntYard$Yard", "trains", "I", false)
  | 9 => ("ShuntYard$Yard", "settings", "[I", true)
  | 10 => ("ShuntYard$Yard", "destinations", "[I", true)
  | 11 => ("ShuntYard$Yard", "length", "[I", true)
  | 12 => ("ShuntYard$Yard", "testEnd", "[I", true)
  | 13 => ("ShuntYard$Yard", "wagons", "[I", true)
  | _ => ("ShuntYard$Yard", "gaps", "LShuntYard$Gaps;", true)
def tyX5 : Nat → FieldType := fun k => match k with
  | 0 => .int
  | 1 => .int
  | 2 => .int
  | 3 => .int
  | 4 => .int
  | 5 => .int
  | 6 => .int
  | 7 => .int
  | 8 => .int
  | 9 => .array .int
  | 10 => .array .int
  | 11 => .array .int
  | 12 => .array .int
  | 13 => .array .int
  | _ => .object "ShuntYard$Gaps"
abbrev wsX50 : List Cond := u_ws RX5 TX5 15
theorem nmX5 : ∀ a, a < 15 → ∀ b, b < 15 → a ≠ b → (TX5 a).2.1 ≠ (TX5 b).2.1 := by decide +kernel
theorem tyX5_ok : ∀ k, k < 15 → parseFieldDescriptor (TX5 k).2.2.1 = some (tyX5 k) := by decide +kernel
abbrev cX5_init : ByteArray := prog_7_method_1_code
def yX5_init : MethodName := ⟨RX5, "<init>", "()V"⟩
abbrev cX5_copyFrom : ByteArray := prog_7_method_2_code
def yX5_copyFrom : MethodName := ⟨RX5, "copyFrom", "(LShuntYard$Yard;)V"⟩
abbrev cX5_restart : ByteArray := prog_7_method_3_code
def yX5_restart : MethodName := ⟨RX5, "restart", "(II)V"⟩
abbrev cX5_hasTrack : ByteArray := prog_7_method_4_code
def yX5_hasTrack : MethodName := ⟨RX5, "hasTrack", "(I)Z"⟩
abbrev cX5_wagonAt : ByteArray := prog_7_method_5_code
def yX5_wagonAt : MethodName := ⟨RX5, "wagonAt", "(II)I"⟩
abbrev cX5_wagonsInYard : ByteArray := prog_7_method_6_code
def yX5_wagonsInYard : MethodName := ⟨RX5, "wagonsInYard", "()I"⟩
abbrev cX5_spotOf : ByteArray := prog_7_method_7_code
def yX5_spotOf : MethodName := ⟨RX5, "spotOf", "(I)I"⟩
abbrev cX5_takeIn : ByteArray := prog_7_method_8_code
def yX5_takeIn : MethodName := ⟨RX5, "takeIn", "(ILShuntYard$Text;)V"⟩
abbrev cX5_takeTrains : ByteArray := prog_7_method_9_code
def yX5_takeTrains : MethodName := ⟨RX5, "takeTrains", "(LShuntYard$Text;)V"⟩
abbrev cX5_isSafe : ByteArray := prog_7_method_10_code
def yX5_isSafe : MethodName := ⟨RX5, "isSafe", "(I)Z"⟩
abbrev cX5_isSafeWith : ByteArray := prog_7_method_11_code
def yX5_isSafeWith : MethodName := ⟨RX5, "isSafeWith", "(ILShuntYard$Text;)Z"⟩
abbrev cX5_leastGap : ByteArray := prog_7_method_12_code
def yX5_leastGap : MethodName := ⟨RX5, "leastGap", "(I)I"⟩
abbrev cX5_unsafeTracks : ByteArray := prog_7_method_13_code
def yX5_unsafeTracks : MethodName := ⟨RX5, "unsafeTracks", "()I"⟩
abbrev cX5_passPart : ByteArray := prog_7_method_14_code
def yX5_passPart : MethodName := ⟨RX5, "passPart", "(III)V"⟩
abbrev cX5_costOrCode : ByteArray := prog_7_method_15_code
def yX5_costOrCode : MethodName := ⟨RX5, "costOrCode", "(III)I"⟩
abbrev cX5_isSafeBehindMove : ByteArray := prog_7_method_16_code
def yX5_isSafeBehindMove : MethodName := ⟨RX5, "isSafeBehindMove", "(III)Z"⟩
abbrev cX5_minutesOf : ByteArray := prog_7_method_17_code
def yX5_minutesOf : MethodName := ⟨RX5, "minutesOf", "(III)I"⟩
abbrev cX5_drive : ByteArray := prog_7_method_18_code
def yX5_drive : MethodName := ⟨RX5, "drive", "(III)I"⟩
abbrev cX5_shift : ByteArray := prog_7_method_19_code
def yX5_shift : MethodName := ⟨RX5, "shift", "(III)V"⟩
abbrev cX5_testBrakes : ByteArray := prog_7_method_20_code
def yX5_testBrakes : MethodName := ⟨RX5, "testBrakes", "(I)I"⟩
abbrev cX5_testHoldsFor : ByteArray := prog_7_method_21_code
def yX5_testHoldsFor : MethodName := ⟨RX5, "testHoldsFor", "(I)I"⟩
abbrev cX5_isForFirst : ByteArray := prog_7_method_22_code
def yX5_isForFirst : MethodName := ⟨RX5, "isForFirst", "(II)Z"⟩
abbrev cX5_forFirstOn : ByteArray := prog_7_method_23_code
def yX5_forFirstOn : MethodName := ⟨RX5, "forFirstOn", "(I)I"⟩
abbrev cX5_forFirstInYard : ByteArray := prog_7_method_24_code
def yX5_forFirstInYard : MethodName := ⟨RX5, "forFirstInYard", "()I"⟩
abbrev cX5_refusal : ByteArray := prog_7_method_25_code
def yX5_refusal : MethodName := ⟨RX5, "refusal", "(I)I"⟩
abbrev cX5_sendOff : ByteArray := prog_7_method_26_code
def yX5_sendOff : MethodName := ⟨RX5, "sendOff", "(I)I"⟩
abbrev cX5_madeUpTrack : ByteArray := prog_7_method_27_code
def yX5_madeUpTrack : MethodName := ⟨RX5, "madeUpTrack", "()I"⟩
def RX6 : String := "ShuntYard"
def TX6 : u_T := fun k => match k with
  | 0 => ("ShuntYard", "yard", "LShuntYard$Yard;", true)
  | 1 => ("ShuntYard", "history", "LShuntYard$History;", true)
  | 2 => ("ShuntYard", "images", "[LShuntYard$Yard;", true)
  | 3 => ("ShuntYard", "text", "LShuntYard$Text;", true)
  | 4 => ("ShuntYard", "search", "LShuntYard$Search;", true)
  | _ => ("ShuntYard", "reason", "I", false)
def tyX6 : Nat → FieldType := fun k => match k with
  | 0 => .object "ShuntYard$Yard"
  | 1 => .object "ShuntYard$History"
  | 2 => .array (.object "ShuntYard$Yard")
  | 3 => .object "ShuntYard$Text"
  | 4 => .object "ShuntYard$Search"
  | _ => .int
abbrev wsX60 : List Cond := u_ws RX6 TX6 6
theorem nmX6 : ∀ a, a < 6 → ∀ b, b < 6 → a ≠ b → (TX6 a).2.1 ≠ (TX6 b).2.1 := by decide +kernel
theorem tyX6_ok : ∀ k, k < 6 → parseFieldDescriptor (TX6 k).2.2.1 = some (tyX6 k) := by decide +kernel
abbrev cX6_init : ByteArray := prog_1_method_1_code
def yX6_init : MethodName := ⟨RX6, "<init>", "()V"⟩
abbrev cX6_begin : ByteArray := prog_1_method_2_code
def yX6_begin : MethodName := ⟨RX6, "begin", "(II)I"⟩
abbrev cX6_set : ByteArray := prog_1_method_3_code
def yX6_set : MethodName := ⟨RX6, "set", "(II)I"⟩
abbrev cX6_arrive : ByteArray := prog_1_method_4_code
def yX6_arrive : MethodName := ⟨RX6, "arrive", "(I)I"⟩
abbrev cX6_list : ByteArray := prog_1_method_5_code
def yX6_list : MethodName := ⟨RX6, "list", "()I"⟩
abbrev cX6_move : ByteArray := prog_1_method_6_code
def yX6_move : MethodName := ⟨RX6, "move", "(III)I"⟩
abbrev cX6_test : ByteArray := prog_1_method_7_code
def yX6_test : MethodName := ⟨RX6, "test", "(I)I"⟩
abbrev cX6_pause : ByteArray := prog_1_method_8_code
def yX6_pause : MethodName := ⟨RX6, "pause", "(I)I"⟩
abbrev cX6_depart : ByteArray := prog_1_method_9_code
def yX6_depart : MethodName := ⟨RX6, "depart", "(I)I"⟩
abbrev cX6_makeUp : ByteArray := prog_1_method_10_code
def yX6_makeUp : MethodName := ⟨RX6, "makeUp", "(I)I"⟩
abbrev cX6_undo : ByteArray := prog_1_method_11_code
def yX6_undo : MethodName := ⟨RX6, "undo", "()I"⟩
abbrev cX6_write : ByteArray := prog_1_method_12_code
def yX6_write : MethodName := ⟨RX6, "write", "(I)I"⟩
abbrev cX6_wipe : ByteArray := prog_1_method_13_code
def yX6_wipe : MethodName := ⟨RX6, "wipe", "()I"⟩
abbrev cX6_fault : ByteArray := prog_1_method_14_code
def yX6_fault : MethodName := ⟨RX6, "fault", "(I)I"⟩
abbrev cX6_told : ByteArray := prog_1_method_15_code
def yX6_told : MethodName := ⟨RX6, "told", "(I)I"⟩
abbrev cX6_setting : ByteArray := prog_1_method_16_code
def yX6_setting : MethodName := ⟨RX6, "setting", "(I)I"⟩
abbrev cX6_track : ByteArray := prog_1_method_17_code
def yX6_track : MethodName := ⟨RX6, "track", "(II)I"⟩
abbrev cX6_wagon : ByteArray := prog_1_method_18_code
def yX6_wagon : MethodName := ⟨RX6, "wagon", "(III)I"⟩
abbrev cX6_train : ByteArray := prog_1_method_19_code
def yX6_train : MethodName := ⟨RX6, "train", "(I)I"⟩
abbrev cX6_find : ByteArray := prog_1_method_20_code
def yX6_find : MethodName := ⟨RX6, "find", "(II)I"⟩
abbrev cX6_mean : ByteArray := prog_1_method_21_code
def yX6_mean : MethodName := ⟨RX6, "mean", "()F"⟩
abbrev cX6_cost : ByteArray := prog_1_method_22_code
def yX6_cost : MethodName := ⟨RX6, "cost", "(III)I"⟩
abbrev cX6_cheapest : ByteArray := prog_1_method_23_code
def yX6_cheapest : MethodName := ⟨RX6, "cheapest", "(II)I"⟩
abbrev cX6_keep : ByteArray := prog_1_method_24_code
def yX6_keep : MethodName := ⟨RX6, "keep", "(I)I"⟩
abbrev cX6_back : ByteArray := prog_1_method_25_code
def yX6_back : MethodName := ⟨RX6, "back", "(I)I"⟩
abbrev cX6_within : ByteArray := prog_1_method_26_code
def yX6_within : MethodName := ⟨RX6, "within", "(III)Z"⟩
abbrev cX6_isSetting : ByteArray := prog_1_method_27_code
def yX6_isSetting : MethodName := ⟨RX6, "isSetting", "(I)Z"⟩
abbrev cX6_leastOf : ByteArray := prog_1_method_28_code
def yX6_leastOf : MethodName := ⟨RX6, "leastOf", "(I)I"⟩
abbrev cX6_greatestOf : ByteArray := prog_1_method_29_code
def yX6_greatestOf : MethodName := ⟨RX6, "greatestOf", "(I)I"⟩
abbrev cX6_wagonOf : ByteArray := prog_1_method_30_code
def yX6_wagonOf : MethodName := ⟨RX6, "wagonOf", "(III)I"⟩
abbrev cX6_numberOf : ByteArray := prog_1_method_31_code
def yX6_numberOf : MethodName := ⟨RX6, "numberOf", "(I)I"⟩
abbrev cX6_destinationOf : ByteArray := prog_1_method_32_code
def yX6_destinationOf : MethodName := ⟨RX6, "destinationOf", "(I)I"⟩
abbrev cX6_kindOf : ByteArray := prog_1_method_33_code
def yX6_kindOf : MethodName := ⟨RX6, "kindOf", "(I)I"⟩
def RX7 : String := "ShuntYardModel"
def TX7 : u_T := fun k => match k with
  | 0 => ("ShuntYardModel", "w", "[I", true)
  | 1 => ("ShuntYardModel", "past", "[I", true)
  | 2 => ("ShuntYardModel", "pastMany", "I", false)
  | 3 => ("ShuntYardModel", "images", "[I", true)
  | 4 => ("ShuntYardModel", "filled", "I", false)
  | 5 => ("ShuntYardModel", "text", "[I", true)
  | 6 => ("ShuntYardModel", "length", "I", false)
  | 7 => ("ShuntYardModel", "faultKind", "I", false)
  | 8 => ("ShuntYardModel", "faultPlace", "I", false)
  | 9 => ("ShuntYardModel", "reason", "I", false)
  | 10 => ("ShuntYardModel", "row", "[I", true)
  | 11 => ("ShuntYardModel", "rowMany", "I", false)
  | 12 => ("ShuntYardModel", "readMany", "I", false)
  | 13 => ("ShuntYardModel", "readBound", "[I", true)
  | 14 => ("ShuntYardModel", "readKind", "[I", true)
  | 15 => ("ShuntYardModel", "readTrains", "[I", true)
  | 16 => ("ShuntYardModel", "wrongKind", "I", false)
  | 17 => ("ShuntYardModel", "wrongPlace", "I", false)
  | 18 => ("ShuntYardModel", "held", "[I", true)
  | 19 => ("ShuntYardModel", "tried", "[I", true)
  | 20 => ("ShuntYardModel", "best", "[I", true)
  | 21 => ("ShuntYardModel", "bestMoves", "I", false)
  | 22 => ("ShuntYardModel", "bestMinutes", "I", false)
  | _ => ("ShuntYardModel", "spent", "[I", true)
def tyX7 : Nat → FieldType := fun k => match k with
  | 0 => .array .int
  | 1 => .array .int
  | 2 => .int
  | 3 => .array .int
  | 4 => .int
  | 5 => .array .int
  | 6 => .int
  | 7 => .int
  | 8 => .int
  | 9 => .int
  | 10 => .array .int
  | 11 => .int
  | 12 => .int
  | 13 => .array .int
  | 14 => .array .int
  | 15 => .array .int
  | 16 => .int
  | 17 => .int
  | 18 => .array .int
  | 19 => .array .int
  | 20 => .array .int
  | 21 => .int
  | 22 => .int
  | _ => .array .int
abbrev wsX70 : List Cond := u_ws RX7 TX7 24
theorem nmX7 : ∀ a, a < 24 → ∀ b, b < 24 → a ≠ b → (TX7 a).2.1 ≠ (TX7 b).2.1 := by decide +kernel
theorem tyX7_ok : ∀ k, k < 24 → parseFieldDescriptor (TX7 k).2.2.1 = some (tyX7 k) := by decide +kernel
abbrev cX7_init : ByteArray := prog_9_method_1_code
def yX7_init : MethodName := ⟨RX7, "<init>", "()V"⟩
abbrev cX7_isIn : ByteArray := prog_9_method_3_code
def yX7_isIn : MethodName := ⟨RX7, "isIn", "(III)Z"⟩
abbrev cX7_remember : ByteArray := prog_9_method_4_code
def yX7_remember : MethodName := ⟨RX7, "remember", "()V"⟩
abbrev cX7_isTrack : ByteArray := prog_9_method_5_code
def yX7_isTrack : MethodName := ⟨RX7, "isTrack", "(I)Z"⟩
abbrev cX7_of : ByteArray := prog_9_method_6_code
def yX7_of : MethodName := ⟨RX7, "of", "(II)I"⟩
abbrev cX7_put : ByteArray := prog_9_method_7_code
def yX7_put : MethodName := ⟨RX7, "put", "(III)V"⟩
abbrev cX7_destination : ByteArray := prog_9_method_8_code
def yX7_destination : MethodName := ⟨RX7, "destination", "(II)I"⟩
abbrev cX7_kindAt : ByteArray := prog_9_method_9_code
def yX7_kindAt : MethodName := ⟨RX7, "kindAt", "(II)I"⟩
abbrev cX7_wagons : ByteArray := prog_9_method_10_code
def yX7_wagons : MethodName := ⟨RX7, "wagons", "()I"⟩
abbrev cX7_beginRow : ByteArray := prog_9_method_11_code
def yX7_beginRow : MethodName := ⟨RX7, "beginRow", "(II)V"⟩
abbrev cX7_appendKind : ByteArray := prog_9_method_12_code
def yX7_appendKind : MethodName := ⟨RX7, "appendKind", "(I)V"⟩
abbrev cX7_leastGap : ByteArray := prog_9_method_13_code
def yX7_leastGap : MethodName := ⟨RX7, "leastGap", "()I"⟩
abbrev cX7_isSafeRow : ByteArray := prog_9_method_14_code
def yX7_isSafeRow : MethodName := ⟨RX7, "isSafeRow", "()Z"⟩
abbrev cX7_isSafe : ByteArray := prog_9_method_15_code
def yX7_isSafe : MethodName := ⟨RX7, "isSafe", "(I)Z"⟩
abbrev cX7_costOf : ByteArray := prog_9_method_16_code
def yX7_costOf : MethodName := ⟨RX7, "costOf", "(III)I"⟩
abbrev cX7_areTracks : ByteArray := prog_9_method_17_code
def yX7_areTracks : MethodName := ⟨RX7, "areTracks", "(III)Z"⟩
abbrev cX7_carry : ByteArray := prog_9_method_18_code
def yX7_carry : MethodName := ⟨RX7, "carry", "(IIII)V"⟩
abbrev cX7_cost : ByteArray := prog_9_method_19_code
def yX7_cost : MethodName := ⟨RX7, "cost", "(III)I"⟩
abbrev cX7_move : ByteArray := prog_9_method_20_code
def yX7_move : MethodName := ⟨RX7, "move", "(III)I"⟩
abbrev cX7_stillHolds : ByteArray := prog_9_method_21_code
def yX7_stillHolds : MethodName := ⟨RX7, "stillHolds", "(I)I"⟩
abbrev cX7_bound : ByteArray := prog_9_method_22_code
def yX7_bound : MethodName := ⟨RX7, "bound", "(II)I"⟩
abbrev cX7_reasonAgainst : ByteArray := prog_9_method_23_code
def yX7_reasonAgainst : MethodName := ⟨RX7, "reasonAgainst", "(I)I"⟩
abbrev cX7_test : ByteArray := prog_9_method_24_code
def yX7_test : MethodName := ⟨RX7, "test", "(I)I"⟩
abbrev cX7_pause : ByteArray := prog_9_method_25_code
def yX7_pause : MethodName := ⟨RX7, "pause", "(I)I"⟩
abbrev cX7_depart : ByteArray := prog_9_method_26_code
def yX7_depart : MethodName := ⟨RX7, "depart", "(I)I"⟩
abbrev cX7_fails : ByteArray := prog_9_method_27_code
def yX7_fails : MethodName := ⟨RX7, "fails", "(II)V"⟩
abbrev cX7_isLetter : ByteArray := prog_9_method_28_code
def yX7_isLetter : MethodName := ⟨RX7, "isLetter", "(I)Z"⟩
abbrev cX7_readWagons : ByteArray := prog_9_method_29_code
def yX7_readWagons : MethodName := ⟨RX7, "readWagons", "()V"⟩
abbrev cX7_readList : ByteArray := prog_9_method_30_code
def yX7_readList : MethodName := ⟨RX7, "readList", "()V"⟩
abbrev cX7_hasFault : ByteArray := prog_9_method_31_code
def yX7_hasFault : MethodName := ⟨RX7, "hasFault", "()Z"⟩
abbrev cX7_arrive : ByteArray := prog_9_method_32_code
def yX7_arrive : MethodName := ⟨RX7, "arrive", "(I)I"⟩
abbrev cX7_list : ByteArray := prog_9_method_33_code
def yX7_list : MethodName := ⟨RX7, "list", "()I"⟩
abbrev cX7_write : ByteArray := prog_9_method_34_code
def yX7_write : MethodName := ⟨RX7, "write", "(I)I"⟩
abbrev cX7_wipe : ByteArray := prog_9_method_35_code
def yX7_wipe : MethodName := ⟨RX7, "wipe", "()I"⟩
abbrev cX7_fault : ByteArray := prog_9_method_36_code
def yX7_fault : MethodName := ⟨RX7, "fault", "(I)I"⟩
abbrev cX7_madeUp : ByteArray := prog_9_method_37_code
def yX7_madeUp : MethodName := ⟨RX7, "madeUp", "()I"⟩
abbrev cX7_spread : ByteArray := prog_9_method_38_code
def yX7_spread : MethodName := ⟨RX7, "spread", "()I"⟩
abbrev cX7_hold : ByteArray := prog_9_method_39_code
def yX7_hold : MethodName := ⟨RX7, "hold", "(I)V"⟩
abbrev cX7_release : ByteArray := prog_9_method_40_code
def yX7_release : MethodName := ⟨RX7, "release", "(I)V"⟩
abbrev cX7_note : ByteArray := prog_9_method_41_code
def yX7_note : MethodName := ⟨RX7, "note", "(II)V"⟩
abbrev cX7_tryMove : ByteArray := prog_9_method_42_code
def yX7_tryMove : MethodName := ⟨RX7, "tryMove", "(II)I"⟩
abbrev cX7_next : ByteArray := prog_9_method_43_code
def yX7_next : MethodName := ⟨RX7, "next", "(I)Z"⟩
abbrev cX7_enter : ByteArray := prog_9_method_44_code
def yX7_enter : MethodName := ⟨RX7, "enter", "(I)V"⟩
abbrev cX7_isWorthIt : ByteArray := prog_9_method_45_code
def yX7_isWorthIt : MethodName := ⟨RX7, "isWorthIt", "(I)Z"⟩
abbrev cX7_search : ByteArray := prog_9_method_46_code
def yX7_search : MethodName := ⟨RX7, "search", "(I)V"⟩
abbrev cX7_cheapest : ByteArray := prog_9_method_47_code
def yX7_cheapest : MethodName := ⟨RX7, "cheapest", "(II)I"⟩
abbrev cX7_makeUp : ByteArray := prog_9_method_48_code
def yX7_makeUp : MethodName := ⟨RX7, "makeUp", "(I)I"⟩
abbrev cX7_begin : ByteArray := prog_9_method_49_code
def yX7_begin : MethodName := ⟨RX7, "begin", "(II)I"⟩
abbrev cX7_isOf : ByteArray := prog_9_method_50_code
def yX7_isOf : MethodName := ⟨RX7, "isOf", "(II)Z"⟩
abbrev cX7_set : ByteArray := prog_9_method_51_code
def yX7_set : MethodName := ⟨RX7, "set", "(II)I"⟩
abbrev cX7_undo : ByteArray := prog_9_method_52_code
def yX7_undo : MethodName := ⟨RX7, "undo", "()I"⟩
abbrev cX7_unsafeTracks : ByteArray := prog_9_method_53_code
def yX7_unsafeTracks : MethodName := ⟨RX7, "unsafeTracks", "()I"⟩
abbrev cX7_told : ByteArray := prog_9_method_54_code
def yX7_told : MethodName := ⟨RX7, "told", "(I)I"⟩
abbrev cX7_setting : ByteArray := prog_9_method_55_code
def yX7_setting : MethodName := ⟨RX7, "setting", "(I)I"⟩
abbrev cX7_track : ByteArray := prog_9_method_56_code
def yX7_track : MethodName := ⟨RX7, "track", "(II)I"⟩
abbrev cX7_wagon : ByteArray := prog_9_method_57_code
def yX7_wagon : MethodName := ⟨RX7, "wagon", "(III)I"⟩
abbrev cX7_train : ByteArray := prog_9_method_58_code
def yX7_train : MethodName := ⟨RX7, "train", "(I)I"⟩
abbrev cX7_find : ByteArray := prog_9_method_59_code
def yX7_find : MethodName := ⟨RX7, "find", "(II)I"⟩
abbrev cX7_mean : ByteArray := prog_9_method_60_code
def yX7_mean : MethodName := ⟨RX7, "mean", "()F"⟩
abbrev cX7_isImage : ByteArray := prog_9_method_61_code
def yX7_isImage : MethodName := ⟨RX7, "isImage", "(I)Z"⟩
abbrev cX7_keep : ByteArray := prog_9_method_62_code
def yX7_keep : MethodName := ⟨RX7, "keep", "(I)I"⟩
abbrev cX7_back : ByteArray := prog_9_method_63_code
def yX7_back : MethodName := ⟨RX7, "back", "(I)I"⟩
def RJ9 : String := "java/lang/Math"
def TJ9 : u_T := fun k => match k with
  | _ => ("", "", "", false)
def tyJ9 : Nat → FieldType := fun k => match k with
  | _ => .int
abbrev wsJ90 : List Cond := u_ws RJ9 TJ9 0
theorem nmJ9 : ∀ a, a < 0 → ∀ b, b < 0 → a ≠ b → (TJ9 a).2.1 ≠ (TJ9 b).2.1 := by decide +kernel
theorem tyJ9_ok : ∀ k, k < 0 → parseFieldDescriptor (TJ9 k).2.2.1 = some (tyJ9 k) := by decide +kernel
abbrev cJ9_abs_0f7a4 : ByteArray := prog_10_method_59_code
def yJ9_abs_0f7a4 : MethodName := ⟨RJ9, "abs", "(I)I"⟩
abbrev cJ9_max_7cf53 : ByteArray := prog_10_method_65_code
def yJ9_max_7cf53 : MethodName := ⟨RJ9, "max", "(II)I"⟩
abbrev cJ9_min_7cf53 : ByteArray := prog_10_method_69_code
def yJ9_min_7cf53 : MethodName := ⟨RJ9, "min", "(II)I"⟩
def RJ10 : String := "java/lang/System"
def TJ10 : u_T := fun k => match k with
  | _ => ("", "", "", false)
def tyJ10 : Nat → FieldType := fun k => match k with
  | _ => .int
abbrev wsJ100 : List Cond := u_ws RJ10 TJ10 0
theorem nmJ10 : ∀ a, a < 0 → ∀ b, b < 0 → a ≠ b → (TJ10 a).2.1 ≠ (TJ10 b).2.1 := by decide +kernel
theorem tyJ10_ok : ∀ k, k < 0 → parseFieldDescriptor (TJ10 k).2.2.1 = some (tyJ10 k) := by decide +kernel
def RJ7 : String := "java/util/Arrays"
def TJ7 : u_T := fun k => match k with
  | _ => ("", "", "", false)
def tyJ7 : Nat → FieldType := fun k => match k with
  | _ => .int
abbrev wsJ70 : List Cond := u_ws RJ7 TJ7 0
theorem nmJ7 : ∀ a, a < 0 → ∀ b, b < 0 → a ≠ b → (TJ7 a).2.1 ≠ (TJ7 b).2.1 := by decide +kernel
theorem tyJ7_ok : ∀ k, k < 0 → parseFieldDescriptor (TJ7 k).2.2.1 = some (tyJ7 k) := by decide +kernel
abbrev cJ7_fill_53178 : ByteArray := prog_12_method_103_code
def yJ7_fill_53178 : MethodName := ⟨RJ7, "fill", "([II)V"⟩
def RL : String := "ShuntYardLaw"
abbrev cL_law : ByteArray := code
def yL_law : MethodName := ⟨RL, "law", "([I)Z"⟩
def wsL_law_r1 : List Cond := [Cond.classLink RL 7 RX6, Cond.instantiable RX6 6, Cond.initialized RX6, Cond.classLink RL 10 RX7, Cond.instantiable RX7 24, Cond.initialized RX7, Cond.methodLink RL 9 yX6_init, Cond.instanceMethod yX6_init, Cond.code yX6_init cX6_init 1 none, Cond.methodLink RX6 1 objectInit, Cond.instanceMethod objectInit, Cond.code objectInit ⟨#[0xb1]⟩ 1 none, Cond.classLink RX6 7 RX5, Cond.instantiable RX5 15, Cond.initialized RX5, Cond.fieldLink RX6 10 "ShuntYard" "yard" "LShuntYard$Yard;", Cond.classLink RX6 16 RX1, Cond.instantiable RX1 3, Cond.initialized RX1, Cond.fieldLink RX6 19 "ShuntYard" "history" "LShuntYard$History;", Cond.fieldLink RX6 23 "ShuntYard" "images" "[LShuntYard$Yard;", Cond.classLink RX6 27 RX4, Cond.instantiable RX4 6, Cond.initialized RX4]
def wsL_law_r2 : List Cond := [Cond.fieldLink RX6 30 "ShuntYard" "text" "LShuntYard$Text;", Cond.classLink RX6 34 RX3, Cond.instantiable RX3 7, Cond.initialized RX3, Cond.fieldLink RX6 37 "ShuntYard" "search" "LShuntYard$Search;", Cond.fieldLink RX6 41 "ShuntYard" "reason" "I", Cond.instanceMethod yX5_init, Cond.code yX5_init cX5_init 1 none, Cond.methodLink RX5 3 objectInit, Cond.fieldLink RX5 9 "ShuntYard$Yard" "tracks" "I", Cond.fieldLink RX5 15 "ShuntYard$Yard" "capacity" "I", Cond.arrayClass .int, Cond.fieldLink RX5 18 "ShuntYard$Yard" "settings" "[I", Cond.fieldLink RX5 22 "ShuntYard$Yard" "destinations" "[I", Cond.fieldLink RX5 25 "ShuntYard$Yard" "length" "[I", Cond.fieldLink RX5 28 "ShuntYard$Yard" "testEnd" "[I", Cond.fieldLink RX5 31 "ShuntYard$Yard" "wagons" "[I", Cond.classLink RX5 34 RX0, Cond.instantiable RX0 3, Cond.initialized RX0, Cond.fieldLink RX5 37 "ShuntYard$Yard" "gaps" "LShuntYard$Gaps;", Cond.instanceMethod yX0_init, Cond.code yX0_init cX0_init 1 none, Cond.methodLink RX0 3 objectInit]
def wsL_law_r3 : List Cond := [Cond.instanceMethod yX1_init, Cond.code yX1_init cX1_init 1 none, Cond.methodLink RX1 3 objectInit, Cond.classLink RX1 9 RX5, Cond.fieldLink RX1 11 "ShuntYard$History" "states" "[LShuntYard$Yard;", Cond.instanceMethod yX4_init, Cond.code yX4_init cX4_init 1 none, Cond.methodLink RX4 3 objectInit, Cond.fieldLink RX4 9 "ShuntYard$Text" "bytes" "[I", Cond.fieldLink RX4 15 "ShuntYard$Text" "read" "[I", Cond.fieldLink RX4 18 "ShuntYard$Text" "faultKind" "I", Cond.fieldLink RX4 22 "ShuntYard$Text" "faultPlace" "I", Cond.instanceMethod yX3_init, Cond.code yX3_init cX3_init 1 none, Cond.methodLink RX3 3 objectInit, Cond.classLink RX3 9 RX2, Cond.instantiable RX2 5, Cond.initialized RX2, Cond.fieldLink RX3 12 "ShuntYard$Search" "best" "LShuntYard$Row;", Cond.classLink RX3 18 RX5, Cond.fieldLink RX3 21 "ShuntYard$Search" "trial" "LShuntYard$Yard;", Cond.fieldLink RX3 25 "ShuntYard$Search" "row" "LShuntYard$Row;", Cond.fieldLink RX3 28 "ShuntYard$Search" "wanted" "[I", Cond.fieldLink RX3 32 "ShuntYard$Search" "wantedInnermost" "[I"]
def wsL_law_r4 : List Cond := [Cond.fieldLink RX3 35 "ShuntYard$Search" "wantedOutermost" "[I", Cond.instanceMethod yX2_init, Cond.code yX2_init cX2_init 1 none, Cond.methodLink RX2 3 objectInit, Cond.fieldLink RX2 9 "ShuntYard$Row" "from" "[I", Cond.fieldLink RX2 15 "ShuntYard$Row" "to" "[I", Cond.fieldLink RX2 18 "ShuntYard$Row" "n" "[I", Cond.methodLink RL 12 yX7_init, Cond.instanceMethod yX7_init, Cond.code yX7_init cX7_init 1 none, Cond.methodLink RX7 1 objectInit, Cond.fieldLink RX7 7 "ShuntYardModel" "w" "[I", Cond.fieldLink RX7 13 "ShuntYardModel" "past" "[I", Cond.fieldLink RX7 16 "ShuntYardModel" "images" "[I", Cond.fieldLink RX7 19 "ShuntYardModel" "text" "[I", Cond.fieldLink RX7 22 "ShuntYardModel" "faultKind" "I", Cond.fieldLink RX7 26 "ShuntYardModel" "faultPlace" "I", Cond.fieldLink RX7 29 "ShuntYardModel" "reason" "I", Cond.fieldLink RX7 32 "ShuntYardModel" "row" "[I", Cond.fieldLink RX7 35 "ShuntYardModel" "readBound" "[I", Cond.fieldLink RX7 38 "ShuntYardModel" "readKind" "[I", Cond.fieldLink RX7 41 "ShuntYardModel" "readTrains" "[I", Cond.fieldLink RX7 44 "ShuntYardModel" "held" "[I", Cond.fieldLink RX7 47 "ShuntYardModel" "tried" "[I"]
def wsL_law_r5 : List Cond := [Cond.fieldLink RX7 50 "ShuntYardModel" "best" "[I", Cond.fieldLink RX7 53 "ShuntYardModel" "spent" "[I", Cond.methodLink RL 13 yX6_begin, Cond.instanceMethod yX6_begin, Cond.selects RX6 yX6_begin yX6_begin, Cond.code yX6_begin cX6_begin 4 (some .int), Cond.methodLink RX6 45 yX6_within, Cond.static yX6_within, Cond.code yX6_within cX6_within 3 (some .boolean), Cond.methodLink RX6 49 yX5_wagonsInYard, Cond.instanceMethod yX5_wagonsInYard, Cond.selects RX5 yX5_wagonsInYard yX5_wagonsInYard, Cond.code yX5_wagonsInYard cX5_wagonsInYard 3 (some .int), Cond.methodLink RX6 53 yX1_add, Cond.instanceMethod yX1_add, Cond.selects RX1 yX1_add yX1_add, Cond.code yX1_add cX1_add 2 none, Cond.fieldLink RX1 17 "ShuntYard$History" "next" "I", Cond.fieldLink RX1 26 "ShuntYard$History" "count" "I", Cond.methodLink RX1 29 Lib.Math.min.name, Cond.static Lib.Math.min.name, Cond.initialized "java/lang/Math", Cond.code Lib.Math.min.name Lib.Math.min.code 2 (some .int), Cond.methodLink RX1 22 yX5_copyFrom]
def wsL_law_r6 : List Cond := [Cond.instanceMethod yX5_copyFrom, Cond.selects RX5 yX5_copyFrom yX5_copyFrom, Cond.code yX5_copyFrom cX5_copyFrom 2 none, Cond.fieldLink RX5 41 "ShuntYard$Yard" "clock" "I", Cond.fieldLink RX5 44 "ShuntYard$Yard" "moves" "I", Cond.fieldLink RX5 47 "ShuntYard$Yard" "moveMinutes" "I", Cond.fieldLink RX5 50 "ShuntYard$Yard" "trainsGone" "I", Cond.fieldLink RX5 53 "ShuntYard$Yard" "wagonsGone" "I", Cond.fieldLink RX5 56 "ShuntYard$Yard" "wagonsCome" "I", Cond.fieldLink RX5 59 "ShuntYard$Yard" "trains" "I", Cond.methodLink RX5 62 arraycopyName, Cond.native arraycopyName, Cond.static arraycopyName, Cond.initialized "java/lang/System", Cond.methodLink RX6 57 yX5_restart, Cond.instanceMethod yX5_restart, Cond.selects RX5 yX5_restart yX5_restart, Cond.code yX5_restart cX5_restart 3 none, Cond.methodLink RX5 68 yJ7_fill_53178, Cond.static yJ7_fill_53178, Cond.initialized RJ7, Cond.code yJ7_fill_53178 cJ7_fill_53178 4 none, Cond.methodLink RL 17 yX7_begin, Cond.instanceMethod yX7_begin]
def wsL_law_r7 : List Cond := [Cond.selects RX7 yX7_begin yX7_begin, Cond.code yX7_begin cX7_begin 5 (some .int), Cond.methodLink RX7 59 yX7_isIn, Cond.static yX7_isIn, Cond.code yX7_isIn cX7_isIn 3 (some .boolean), Cond.methodLink RX7 107 yX7_remember, Cond.instanceMethod yX7_remember, Cond.selects RX7 yX7_remember yX7_remember, Cond.code yX7_remember cX7_remember 2 none, Cond.fieldLink RX7 56 "ShuntYardModel" "pastMany" "I", Cond.methodLink RX7 193 yX7_wagons, Cond.instanceMethod yX7_wagons, Cond.selects RX7 yX7_wagons yX7_wagons, Cond.code yX7_wagons cX7_wagons 3 (some .int), Cond.methodLink RX7 63 yX7_of, Cond.instanceMethod yX7_of, Cond.selects RX7 yX7_of yX7_of, Cond.code yX7_of cX7_of 3 (some .int), Cond.methodLink RL 18 yX6_set, Cond.instanceMethod yX6_set, Cond.selects RX6 yX6_set yX6_set, Cond.code yX6_set cX6_set 4 (some .int), Cond.fieldLink RX6 72 "ShuntYard$Yard" "settings" "[I", Cond.methodLink RX6 61 yX6_isSetting]
def wsL_law_r8 : List Cond := [Cond.static yX6_isSetting, Cond.code yX6_isSetting cX6_isSetting 1 (some .boolean), Cond.methodLink RX6 65 yX6_leastOf, Cond.static yX6_leastOf, Cond.code yX6_leastOf cX6_leastOf 1 (some .int), Cond.methodLink RX6 69 yX6_greatestOf, Cond.static yX6_greatestOf, Cond.code yX6_greatestOf cX6_greatestOf 1 (some .int), Cond.methodLink RL 21 yX7_set, Cond.instanceMethod yX7_set, Cond.selects RX7 yX7_set yX7_set, Cond.code yX7_set cX7_set 4 (some .int), Cond.methodLink RX7 196 yX7_isOf, Cond.static yX7_isOf, Cond.code yX7_isOf cX7_isOf 2 (some .boolean), Cond.methodLink RL 22 yX6_arrive, Cond.instanceMethod yX6_arrive, Cond.selects RX6 yX6_arrive yX6_arrive, Cond.code yX6_arrive cX6_arrive 2 (some .int), Cond.fieldLink RX6 87 "ShuntYard$Yard" "length" "[I", Cond.fieldLink RX6 90 "ShuntYard$Text" "found" "I", Cond.fieldLink RX6 93 "ShuntYard$Yard" "capacity" "I", Cond.methodLink RX6 76 yX5_hasTrack, Cond.instanceMethod yX5_hasTrack]
def wsL_law_r9 : List Cond := [Cond.selects RX5 yX5_hasTrack yX5_hasTrack, Cond.code yX5_hasTrack cX5_hasTrack 2 (some .boolean), Cond.methodLink RX6 79 yX4_readWagons, Cond.instanceMethod yX4_readWagons, Cond.selects RX4 yX4_readWagons yX4_readWagons, Cond.code yX4_readWagons cX4_readWagons 6 (some .boolean), Cond.fieldLink RX4 28 "ShuntYard$Text" "found" "I", Cond.fieldLink RX4 25 "ShuntYard$Text" "length" "I", Cond.methodLink RX4 35 yX4_foundFault, Cond.instanceMethod yX4_foundFault, Cond.selects RX4 yX4_foundFault yX4_foundFault, Cond.code yX4_foundFault cX4_foundFault 3 (some .boolean), Cond.static yX6_wagonOf, Cond.code yX6_wagonOf cX6_wagonOf 3 (some .int), Cond.methodLink RX4 43 yX4_fillLatest, Cond.instanceMethod yX4_fillLatest, Cond.selects RX4 yX4_fillLatest yX4_fillLatest, Cond.code yX4_fillLatest cX4_fillLatest 4 none, Cond.methodLink RX6 83 yX5_isSafeWith, Cond.instanceMethod yX5_isSafeWith, Cond.selects RX5 yX5_isSafeWith yX5_isSafeWith, Cond.code yX5_isSafeWith cX5_isSafeWith 4 (some .boolean), Cond.fieldLink RX5 86 "ShuntYard$Text" "found" "I", Cond.fieldLink RX5 91 "ShuntYard$Text" "read" "[I"]
def wsL_law_r10 : List Cond := [Cond.fieldLink RX5 111 "ShuntYard$Gaps" "least" "I", Cond.methodLink RX5 104 yX0_start, Cond.instanceMethod yX0_start, Cond.selects RX0 yX0_start yX0_start, Cond.code yX0_start cX0_start 1 none, Cond.fieldLink RX0 11 "ShuntYard$Gaps" "least" "I", Cond.fieldLink RX0 15 "ShuntYard$Gaps" "latestDanger" "I", Cond.fieldLink RX0 18 "ShuntYard$Gaps" "between" "I", Cond.methodLink RX5 107 yX5_passPart, Cond.instanceMethod yX5_passPart, Cond.selects RX5 yX5_passPart yX5_passPart, Cond.code yX5_passPart cX5_passPart 5 none, Cond.methodLink RX5 78 yX5_wagonAt, Cond.instanceMethod yX5_wagonAt, Cond.selects RX5 yX5_wagonAt yX5_wagonAt, Cond.code yX5_wagonAt cX5_wagonAt 3 (some .int), Cond.static yX6_kindOf, Cond.code yX6_kindOf cX6_kindOf 1 (some .int), Cond.methodLink RX5 114 yX0_pass, Cond.instanceMethod yX0_pass, Cond.selects RX0 yX0_pass yX0_pass, Cond.code yX0_pass cX0_pass 2 none, Cond.methodLink RX0 21 Lib.Math.min.name, Cond.methodLink RX6 96 yX5_takeIn]
def wsL_law_r11 : List Cond := [Cond.instanceMethod yX5_takeIn, Cond.selects RX5 yX5_takeIn yX5_takeIn, Cond.code yX5_takeIn cX5_takeIn 5 none, Cond.static yX6_destinationOf, Cond.code yX6_destinationOf cX6_destinationOf 1 (some .int), Cond.methodLink RL 26 yX7_arrive, Cond.instanceMethod yX7_arrive, Cond.selects RX7 yX7_arrive yX7_arrive, Cond.code yX7_arrive cX7_arrive 4 (some .int), Cond.fieldLink RX7 139 "ShuntYardModel" "readMany" "I", Cond.methodLink RX7 89 yX7_isTrack, Cond.instanceMethod yX7_isTrack, Cond.selects RX7 yX7_isTrack yX7_isTrack, Cond.code yX7_isTrack cX7_isTrack 2 (some .boolean), Cond.methodLink RX7 148 yX7_readWagons, Cond.instanceMethod yX7_readWagons, Cond.selects RX7 yX7_readWagons yX7_readWagons, Cond.code yX7_readWagons cX7_readWagons 7 none, Cond.fieldLink RX7 142 "ShuntYardModel" "length" "I", Cond.fieldLink RX7 130 "ShuntYardModel" "wrongKind" "I", Cond.methodLink RX7 136 yX7_fails, Cond.instanceMethod yX7_fails, Cond.selects RX7 yX7_fails yX7_fails, Cond.code yX7_fails cX7_fails 3 none]
def wsL_law_r12 : List Cond := [Cond.fieldLink RX7 133 "ShuntYardModel" "wrongPlace" "I", Cond.methodLink RX7 145 yX7_isLetter, Cond.static yX7_isLetter, Cond.code yX7_isLetter cX7_isLetter 1 (some .boolean), Cond.methodLink RX7 151 yX7_hasFault, Cond.instanceMethod yX7_hasFault, Cond.selects RX7 yX7_hasFault yX7_hasFault, Cond.code yX7_hasFault cX7_hasFault 1 (some .boolean), Cond.methodLink RX7 81 yX7_beginRow, Cond.instanceMethod yX7_beginRow, Cond.selects RX7 yX7_beginRow yX7_beginRow, Cond.code yX7_beginRow cX7_beginRow 4 none, Cond.fieldLink RX7 67 "ShuntYardModel" "rowMany" "I", Cond.methodLink RX7 70 yX7_kindAt, Cond.instanceMethod yX7_kindAt, Cond.selects RX7 yX7_kindAt yX7_kindAt, Cond.code yX7_kindAt cX7_kindAt 3 (some .int), Cond.methodLink RX7 73 yX7_appendKind, Cond.instanceMethod yX7_appendKind, Cond.selects RX7 yX7_appendKind yX7_appendKind, Cond.code yX7_appendKind cX7_appendKind 2 none, Cond.methodLink RX7 85 yX7_isSafeRow, Cond.instanceMethod yX7_isSafeRow, Cond.selects RX7 yX7_isSafeRow yX7_isSafeRow]
def wsL_law_r13 : List Cond := [Cond.code yX7_isSafeRow cX7_isSafeRow 2 (some .boolean), Cond.methodLink RX7 77 yX7_leastGap, Cond.instanceMethod yX7_leastGap, Cond.selects RX7 yX7_leastGap yX7_leastGap, Cond.code yX7_leastGap cX7_leastGap 5 (some .int), Cond.methodLink RX7 93 yX7_put, Cond.instanceMethod yX7_put, Cond.selects RX7 yX7_put yX7_put, Cond.code yX7_put cX7_put 4 none, Cond.methodLink RL 27 yX6_list, Cond.instanceMethod yX6_list, Cond.selects RX6 yX6_list yX6_list, Cond.code yX6_list cX6_list 1 (some .int), Cond.fieldLink RX6 107 "ShuntYard$Yard" "trains" "I", Cond.methodLink RX6 100 yX4_readTrains, Cond.instanceMethod yX4_readTrains, Cond.selects RX4 yX4_readTrains yX4_readTrains, Cond.code yX4_readTrains cX4_readTrains 3 (some .boolean), Cond.methodLink RX6 103 yX5_takeTrains, Cond.instanceMethod yX5_takeTrains, Cond.selects RX5 yX5_takeTrains yX5_takeTrains, Cond.code yX5_takeTrains cX5_takeTrains 2 none, Cond.methodLink RL 31 yX7_list, Cond.instanceMethod yX7_list]
def wsL_law_r14 : List Cond := [Cond.selects RX7 yX7_list yX7_list, Cond.code yX7_list cX7_list 2 (some .int), Cond.methodLink RX7 154 yX7_readList, Cond.instanceMethod yX7_readList, Cond.selects RX7 yX7_readList yX7_readList, Cond.code yX7_readList cX7_readList 3 none, Cond.methodLink RL 32 yX6_move, Cond.instanceMethod yX6_move, Cond.selects RX6 yX6_move yX6_move, Cond.code yX6_move cX6_move 5 (some .int), Cond.methodLink RX6 110 yX5_costOrCode, Cond.instanceMethod yX5_costOrCode, Cond.selects RX5 yX5_costOrCode yX5_costOrCode, Cond.code yX5_costOrCode cX5_costOrCode 4 (some .int), Cond.methodLink RX5 122 yX5_hasTrack, Cond.methodLink RX5 125 yX5_isSafeBehindMove, Cond.instanceMethod yX5_isSafeBehindMove, Cond.selects RX5 yX5_isSafeBehindMove yX5_isSafeBehindMove, Cond.code yX5_isSafeBehindMove cX5_isSafeBehindMove 5 (some .boolean), Cond.methodLink RX5 128 yX5_minutesOf, Cond.instanceMethod yX5_minutesOf, Cond.selects RX5 yX5_minutesOf yX5_minutesOf, Cond.code yX5_minutesOf cX5_minutesOf 6 (some .int), Cond.methodLink RX5 131 Lib.Math.abs.name]
def wsL_law_r15 : List Cond := [Cond.static Lib.Math.abs.name, Cond.code Lib.Math.abs.name Lib.Math.abs.code 1 (some .int), Cond.methodLink RX6 114 yX5_drive, Cond.instanceMethod yX5_drive, Cond.selects RX5 yX5_drive yX5_drive, Cond.code yX5_drive cX5_drive 5 (some .int), Cond.methodLink RX5 136 yX5_shift, Cond.instanceMethod yX5_shift, Cond.selects RX5 yX5_shift yX5_shift, Cond.code yX5_shift cX5_shift 5 none, Cond.methodLink RL 36 yX7_move, Cond.instanceMethod yX7_move, Cond.selects RX7 yX7_move yX7_move, Cond.code yX7_move cX7_move 5 (some .int), Cond.methodLink RX7 104 yX7_cost, Cond.instanceMethod yX7_cost, Cond.selects RX7 yX7_cost yX7_cost, Cond.code yX7_cost cX7_cost 4 (some .int), Cond.methodLink RX7 97 yX7_areTracks, Cond.instanceMethod yX7_areTracks, Cond.selects RX7 yX7_areTracks yX7_areTracks, Cond.code yX7_areTracks cX7_areTracks 4 (some .boolean), Cond.methodLink RX7 100 yX7_costOf, Cond.instanceMethod yX7_costOf]
def wsL_law_r16 : List Cond := [Cond.selects RX7 yX7_costOf yX7_costOf, Cond.code yX7_costOf cX7_costOf 7 (some .int), Cond.methodLink RX7 110 yX7_carry, Cond.instanceMethod yX7_carry, Cond.selects RX7 yX7_carry yX7_carry, Cond.code yX7_carry cX7_carry 8 none, Cond.methodLink RL 37 yX6_test, Cond.instanceMethod yX6_test, Cond.selects RX6 yX6_test yX6_test, Cond.code yX6_test cX6_test 2 (some .int), Cond.methodLink RX6 117 yX5_testBrakes, Cond.instanceMethod yX5_testBrakes, Cond.selects RX5 yX5_testBrakes yX5_testBrakes, Cond.code yX5_testBrakes cX5_testBrakes 3 (some .int), Cond.methodLink RL 40 yX7_test, Cond.instanceMethod yX7_test, Cond.selects RX7 yX7_test yX7_test, Cond.code yX7_test cX7_test 3 (some .int), Cond.methodLink RL 41 yX6_pause, Cond.instanceMethod yX6_pause, Cond.selects RX6 yX6_pause yX6_pause, Cond.code yX6_pause cX6_pause 2 (some .int), Cond.fieldLink RX6 120 "ShuntYard$Yard" "clock" "I", Cond.methodLink RL 44 yX7_pause]
def wsL_law_r17 : List Cond := [Cond.instanceMethod yX7_pause, Cond.selects RX7 yX7_pause yX7_pause, Cond.code yX7_pause cX7_pause 2 (some .int), Cond.methodLink RL 45 yX6_depart, Cond.instanceMethod yX6_depart, Cond.selects RX6 yX6_depart yX6_depart, Cond.code yX6_depart cX6_depart 3 (some .int), Cond.methodLink RX6 123 yX5_refusal, Cond.instanceMethod yX5_refusal, Cond.selects RX5 yX5_refusal yX5_refusal, Cond.code yX5_refusal cX5_refusal 2 (some .int), Cond.methodLink RX5 146 yX5_forFirstOn, Cond.instanceMethod yX5_forFirstOn, Cond.selects RX5 yX5_forFirstOn yX5_forFirstOn, Cond.code yX5_forFirstOn cX5_forFirstOn 4 (some .int), Cond.methodLink RX5 142 yX5_isForFirst, Cond.instanceMethod yX5_isForFirst, Cond.selects RX5 yX5_isForFirst yX5_isForFirst, Cond.code yX5_isForFirst cX5_isForFirst 3 (some .boolean), Cond.methodLink RX5 149 yX5_forFirstInYard, Cond.instanceMethod yX5_forFirstInYard, Cond.selects RX5 yX5_forFirstInYard yX5_forFirstInYard, Cond.code yX5_forFirstInYard cX5_forFirstInYard 3 (some .int), Cond.methodLink RX5 118 yX5_isSafe]
def wsL_law_r18 : List Cond := [Cond.instanceMethod yX5_isSafe, Cond.selects RX5 yX5_isSafe yX5_isSafe, Cond.code yX5_isSafe cX5_isSafe 2 (some .boolean), Cond.methodLink RX5 153 yX5_testHoldsFor, Cond.instanceMethod yX5_testHoldsFor, Cond.selects RX5 yX5_testHoldsFor yX5_testHoldsFor, Cond.code yX5_testHoldsFor cX5_testHoldsFor 2 (some .int), Cond.methodLink RX5 139 Lib.Math.max.name, Cond.static Lib.Math.max.name, Cond.code Lib.Math.max.name Lib.Math.max.code 2 (some .int), Cond.methodLink RX6 126 yX5_sendOff, Cond.instanceMethod yX5_sendOff, Cond.selects RX5 yX5_sendOff yX5_sendOff, Cond.code yX5_sendOff cX5_sendOff 3 (some .int), Cond.methodLink RL 48 yX7_depart, Cond.instanceMethod yX7_depart, Cond.selects RX7 yX7_depart yX7_depart, Cond.code yX7_depart cX7_depart 5 (some .int), Cond.methodLink RX7 127 yX7_reasonAgainst, Cond.instanceMethod yX7_reasonAgainst, Cond.selects RX7 yX7_reasonAgainst yX7_reasonAgainst, Cond.code yX7_reasonAgainst cX7_reasonAgainst 3 (some .int), Cond.methodLink RX7 117 yX7_bound, Cond.instanceMethod yX7_bound]
def wsL_law_r19 : List Cond := [Cond.selects RX7 yX7_bound yX7_bound, Cond.code yX7_bound cX7_bound 5 (some .int), Cond.methodLink RX7 114 yX7_destination, Cond.instanceMethod yX7_destination, Cond.selects RX7 yX7_destination yX7_destination, Cond.code yX7_destination cX7_destination 3 (some .int), Cond.methodLink RX7 120 yX7_isSafe, Cond.instanceMethod yX7_isSafe, Cond.selects RX7 yX7_isSafe yX7_isSafe, Cond.code yX7_isSafe cX7_isSafe 2 (some .boolean), Cond.methodLink RX7 123 yX7_stillHolds, Cond.instanceMethod yX7_stillHolds, Cond.selects RX7 yX7_stillHolds yX7_stillHolds, Cond.code yX7_stillHolds cX7_stillHolds 3 (some .int), Cond.methodLink RL 49 yX6_makeUp, Cond.instanceMethod yX6_makeUp, Cond.selects RX6 yX6_makeUp yX6_makeUp, Cond.code yX6_makeUp cX6_makeUp 5 (some .int), Cond.fieldLink RX6 133 "ShuntYard$Search" "best" "LShuntYard$Row;", Cond.fieldLink RX6 137 "ShuntYard$Row" "moves" "I", Cond.fieldLink RX6 142 "ShuntYard$Row" "from" "[I", Cond.fieldLink RX6 145 "ShuntYard$Row" "to" "[I", Cond.fieldLink RX6 148 "ShuntYard$Row" "n" "[I", Cond.methodLink RX6 129 yX3_succeeds]
def wsL_law_r20 : List Cond := [Cond.instanceMethod yX3_succeeds, Cond.selects RX3 yX3_succeeds yX3_succeeds, Cond.code yX3_succeeds cX3_succeeds 3 (some .boolean), Cond.fieldLink RX3 38 "ShuntYard$Search" "hasBest" "Z", Cond.fieldLink RX3 45 "ShuntYard$Yard" "trains" "I", Cond.methodLink RX3 57 Lib.Math.min.name, Cond.methodLink RX3 42 yX2_clear, Cond.instanceMethod yX2_clear, Cond.selects RX2 yX2_clear yX2_clear, Cond.code yX2_clear cX2_clear 1 none, Cond.fieldLink RX2 21 "ShuntYard$Row" "moves" "I", Cond.fieldLink RX2 25 "ShuntYard$Row" "minutes" "I", Cond.methodLink RX3 49 yX5_forFirstInYard, Cond.methodLink RX3 53 yX5_copyFrom, Cond.methodLink RX3 63 yX3_seek, Cond.instanceMethod yX3_seek, Cond.selects RX3 yX3_seek yX3_seek, Cond.code yX3_seek cX3_seek 8 none, Cond.fieldLink RX3 80 "ShuntYard$Yard" "tracks" "I", Cond.fieldLink RX3 83 "ShuntYard$Yard" "length" "[I", Cond.methodLink RX3 67 yX5_madeUpTrack, Cond.instanceMethod yX5_madeUpTrack, Cond.selects RX5 yX5_madeUpTrack yX5_madeUpTrack, Cond.code yX5_madeUpTrack cX5_madeUpTrack 2 (some .int)]
def wsL_law_r21 : List Cond := [Cond.methodLink RX3 70 yX3_keepIfCheaper, Cond.instanceMethod yX3_keepIfCheaper, Cond.selects RX3 yX3_keepIfCheaper yX3_keepIfCheaper, Cond.code yX3_keepIfCheaper cX3_keepIfCheaper 1 none, Cond.methodLink RX3 105 yX2_isCheaperThan, Cond.instanceMethod yX2_isCheaperThan, Cond.selects RX2 yX2_isCheaperThan yX2_isCheaperThan, Cond.code yX2_isCheaperThan cX2_isCheaperThan 2 (some .boolean), Cond.methodLink RX3 109 yX2_copyFrom, Cond.instanceMethod yX2_copyFrom, Cond.selects RX2 yX2_copyFrom yX2_copyFrom, Cond.code yX2_copyFrom cX2_copyFrom 2 none, Cond.methodLink RX2 28 arraycopyName, Cond.methodLink RX3 73 yX3_movesNeeded, Cond.instanceMethod yX3_movesNeeded, Cond.selects RX3 yX3_movesNeeded yX3_movesNeeded, Cond.code yX3_movesNeeded cX3_movesNeeded 3 (some .int), Cond.methodLink RX3 118 yX3_countWanted, Cond.instanceMethod yX3_countWanted, Cond.selects RX3 yX3_countWanted yX3_countWanted, Cond.code yX3_countWanted cX3_countWanted 6 none, Cond.methodLink RX3 125 yX5_isForFirst, Cond.methodLink RX3 121 yX3_movesNeededFor, Cond.instanceMethod yX3_movesNeededFor]
def wsL_law_r22 : List Cond := [Cond.selects RX3 yX3_movesNeededFor yX3_movesNeededFor, Cond.code yX3_movesNeededFor cX3_movesNeededFor 5 (some .int), Cond.methodLink RX3 76 yX3_isTooDear, Cond.instanceMethod yX3_isTooDear, Cond.selects RX3 yX3_isTooDear yX3_isTooDear, Cond.code yX3_isTooDear cX3_isTooDear 3 (some .boolean), Cond.fieldLink RX3 112 "ShuntYard$Yard" "settings" "[I", Cond.fieldLink RX3 115 "ShuntYard$Row" "minutes" "I", Cond.methodLink RX3 86 yX5_costOrCode, Cond.methodLink RX3 90 yX3_seekBehindMove, Cond.instanceMethod yX3_seekBehindMove, Cond.selects RX3 yX3_seekBehindMove yX3_seekBehindMove, Cond.code yX3_seekBehindMove cX3_seekBehindMove 6 none, Cond.methodLink RX3 94 yX5_shift, Cond.methodLink RX3 98 yX2_addLast, Cond.instanceMethod yX2_addLast, Cond.selects RX2 yX2_addLast yX2_addLast, Cond.code yX2_addLast cX2_addLast 5 none, Cond.methodLink RX3 102 yX2_dropLast, Cond.instanceMethod yX2_dropLast, Cond.selects RX2 yX2_dropLast yX2_dropLast, Cond.code yX2_dropLast cX2_dropLast 2 none, Cond.methodLink RL 52 yX7_makeUp, Cond.instanceMethod yX7_makeUp]
def wsL_law_r23 : List Cond := [Cond.selects RX7 yX7_makeUp yX7_makeUp, Cond.code yX7_makeUp cX7_makeUp 4 (some .int), Cond.fieldLink RX7 157 "ShuntYardModel" "bestMoves" "I", Cond.fieldLink RX7 160 "ShuntYardModel" "bestMinutes" "I", Cond.methodLink RX7 190 yX7_search, Cond.instanceMethod yX7_search, Cond.selects RX7 yX7_search yX7_search, Cond.code yX7_search cX7_search 4 none, Cond.methodLink RX7 172 yX7_note, Cond.instanceMethod yX7_note, Cond.selects RX7 yX7_note yX7_note, Cond.code yX7_note cX7_note 5 none, Cond.methodLink RX7 163 yX7_madeUp, Cond.instanceMethod yX7_madeUp, Cond.selects RX7 yX7_madeUp yX7_madeUp, Cond.code yX7_madeUp cX7_madeUp 4 (some .int), Cond.methodLink RX7 169 yX7_spread, Cond.instanceMethod yX7_spread, Cond.selects RX7 yX7_spread yX7_spread, Cond.code yX7_spread cX7_spread 3 (some .int), Cond.methodLink RX7 175 yX7_isWorthIt, Cond.instanceMethod yX7_isWorthIt, Cond.selects RX7 yX7_isWorthIt yX7_isWorthIt, Cond.code yX7_isWorthIt cX7_isWorthIt 2 (some .boolean)]
def wsL_law_r24 : List Cond := [Cond.methodLink RX7 178 yX7_enter, Cond.instanceMethod yX7_enter, Cond.selects RX7 yX7_enter yX7_enter, Cond.code yX7_enter cX7_enter 2 none, Cond.methodLink RX7 166 yX7_hold, Cond.instanceMethod yX7_hold, Cond.selects RX7 yX7_hold yX7_hold, Cond.code yX7_hold cX7_hold 3 none, Cond.methodLink RX7 181 yX7_release, Cond.instanceMethod yX7_release, Cond.selects RX7 yX7_release yX7_release, Cond.code yX7_release cX7_release 3 none, Cond.methodLink RX7 184 yX7_next, Cond.instanceMethod yX7_next, Cond.selects RX7 yX7_next yX7_next, Cond.code yX7_next cX7_next 3 (some .boolean), Cond.methodLink RX7 187 yX7_tryMove, Cond.instanceMethod yX7_tryMove, Cond.selects RX7 yX7_tryMove yX7_tryMove, Cond.code yX7_tryMove cX7_tryMove 4 (some .int), Cond.methodLink RL 53 yX6_undo, Cond.instanceMethod yX6_undo, Cond.selects RX6 yX6_undo yX6_undo, Cond.code yX6_undo cX6_undo 1 (some .int)]
def wsL_law_r25 : List Cond := [Cond.fieldLink RX6 155 "ShuntYard$History" "count" "I", Cond.methodLink RX6 151 yX1_restore, Cond.instanceMethod yX1_restore, Cond.selects RX1 yX1_restore yX1_restore, Cond.code yX1_restore cX1_restore 3 (some .boolean), Cond.methodLink RL 56 yX7_undo, Cond.instanceMethod yX7_undo, Cond.selects RX7 yX7_undo yX7_undo, Cond.code yX7_undo cX7_undo 2 (some .int), Cond.methodLink RL 57 yX6_write, Cond.instanceMethod yX6_write, Cond.selects RX6 yX6_write yX6_write, Cond.code yX6_write cX6_write 2 (some .int), Cond.fieldLink RX6 158 "ShuntYard$Text" "length" "I", Cond.methodLink RX6 160 yX4_append, Cond.instanceMethod yX4_append, Cond.selects RX4 yX4_append yX4_append, Cond.code yX4_append cX4_append 2 none, Cond.methodLink RL 60 yX7_write, Cond.instanceMethod yX7_write, Cond.selects RX7 yX7_write yX7_write, Cond.code yX7_write cX7_write 2 (some .int), Cond.methodLink RL 61 yX6_wipe, Cond.instanceMethod yX6_wipe]
def wsL_law_r26 : List Cond := [Cond.selects RX6 yX6_wipe yX6_wipe, Cond.code yX6_wipe cX6_wipe 2 (some .int), Cond.methodLink RL 64 yX7_wipe, Cond.instanceMethod yX7_wipe, Cond.selects RX7 yX7_wipe yX7_wipe, Cond.code yX7_wipe cX7_wipe 2 (some .int), Cond.methodLink RL 65 yX6_fault, Cond.instanceMethod yX6_fault, Cond.selects RX6 yX6_fault yX6_fault, Cond.code yX6_fault cX6_fault 2 (some .int), Cond.fieldLink RX6 164 "ShuntYard$Text" "faultKind" "I", Cond.fieldLink RX6 167 "ShuntYard$Text" "faultPlace" "I", Cond.methodLink RL 68 yX7_fault, Cond.instanceMethod yX7_fault, Cond.selects RX7 yX7_fault yX7_fault, Cond.code yX7_fault cX7_fault 2 (some .int), Cond.methodLink RL 69 yX6_told, Cond.instanceMethod yX6_told, Cond.selects RX6 yX6_told yX6_told, Cond.code yX6_told cX6_told 2 (some .int), Cond.fieldLink RX6 170 "ShuntYard$Yard" "tracks" "I", Cond.fieldLink RX6 176 "ShuntYard$Yard" "moves" "I", Cond.fieldLink RX6 177 "ShuntYard$Yard" "moveMinutes" "I", Cond.fieldLink RX6 180 "ShuntYard$Yard" "trainsGone" "I"]
def wsL_law_r27 : List Cond := [Cond.fieldLink RX6 183 "ShuntYard$Yard" "wagonsGone" "I", Cond.fieldLink RX6 186 "ShuntYard$Yard" "wagonsCome" "I", Cond.methodLink RX6 173 yX5_unsafeTracks, Cond.instanceMethod yX5_unsafeTracks, Cond.selects RX5 yX5_unsafeTracks yX5_unsafeTracks, Cond.code yX5_unsafeTracks cX5_unsafeTracks 3 (some .int), Cond.methodLink RX6 189 yX5_madeUpTrack, Cond.methodLink RL 72 yX7_told, Cond.instanceMethod yX7_told, Cond.selects RX7 yX7_told yX7_told, Cond.code yX7_told cX7_told 2 (some .int), Cond.methodLink RX7 200 yX7_unsafeTracks, Cond.instanceMethod yX7_unsafeTracks, Cond.selects RX7 yX7_unsafeTracks yX7_unsafeTracks, Cond.code yX7_unsafeTracks cX7_unsafeTracks 3 (some .int), Cond.methodLink RL 73 yX6_setting, Cond.instanceMethod yX6_setting, Cond.selects RX6 yX6_setting yX6_setting, Cond.code yX6_setting cX6_setting 2 (some .int), Cond.methodLink RL 76 yX7_setting, Cond.instanceMethod yX7_setting, Cond.selects RX7 yX7_setting yX7_setting, Cond.code yX7_setting cX7_setting 2 (some .int), Cond.methodLink RL 77 yX6_track]
def wsL_law_r28 : List Cond := [Cond.instanceMethod yX6_track, Cond.selects RX6 yX6_track yX6_track, Cond.code yX6_track cX6_track 3 (some .int), Cond.methodLink RX6 192 yX5_isSafe, Cond.methodLink RX6 195 yX5_testHoldsFor, Cond.methodLink RX6 198 yX5_leastGap, Cond.instanceMethod yX5_leastGap, Cond.selects RX5 yX5_leastGap yX5_leastGap, Cond.code yX5_leastGap cX5_leastGap 2 (some .int), Cond.methodLink RL 80 yX7_track, Cond.instanceMethod yX7_track, Cond.selects RX7 yX7_track yX7_track, Cond.code yX7_track cX7_track 3 (some .int), Cond.methodLink RL 81 yX6_wagon, Cond.instanceMethod yX6_wagon, Cond.selects RX6 yX6_wagon yX6_wagon, Cond.code yX6_wagon cX6_wagon 5 (some .int), Cond.methodLink RX6 201 yX5_wagonAt, Cond.methodLink RX6 205 yX6_numberOf, Cond.static yX6_numberOf, Cond.code yX6_numberOf cX6_numberOf 1 (some .int), Cond.methodLink RX6 208 yX6_destinationOf, Cond.methodLink RX6 211 yX6_kindOf, Cond.methodLink RL 84 yX7_wagon]
def wsL_law_r29 : List Cond := [Cond.instanceMethod yX7_wagon, Cond.selects RX7 yX7_wagon yX7_wagon, Cond.code yX7_wagon cX7_wagon 4 (some .int), Cond.methodLink RL 85 yX6_train, Cond.instanceMethod yX6_train, Cond.selects RX6 yX6_train yX6_train, Cond.code yX6_train cX6_train 2 (some .int), Cond.fieldLink RX6 214 "ShuntYard$Yard" "destinations" "[I", Cond.methodLink RL 88 yX7_train, Cond.instanceMethod yX7_train, Cond.selects RX7 yX7_train yX7_train, Cond.code yX7_train cX7_train 2 (some .int), Cond.methodLink RL 89 yX6_find, Cond.instanceMethod yX6_find, Cond.selects RX6 yX6_find yX6_find, Cond.code yX6_find cX6_find 4 (some .int), Cond.methodLink RX6 217 yX5_spotOf, Cond.instanceMethod yX5_spotOf, Cond.selects RX5 yX5_spotOf yX5_spotOf, Cond.code yX5_spotOf cX5_spotOf 4 (some .int), Cond.methodLink RL 92 yX7_find, Cond.instanceMethod yX7_find, Cond.selects RX7 yX7_find yX7_find, Cond.code yX7_find cX7_find 5 (some .int)]
def wsL_law_r30 : List Cond := [Cond.methodLink RL 93 yX6_mean, Cond.instanceMethod yX6_mean, Cond.selects RX6 yX6_mean yX6_mean, Cond.code yX6_mean cX6_mean 1 (some .float), Cond.methodLink RL 97 yX7_mean, Cond.instanceMethod yX7_mean, Cond.selects RX7 yX7_mean yX7_mean, Cond.code yX7_mean cX7_mean 1 (some .float), Cond.methodLink RL 98 yX6_cost, Cond.instanceMethod yX6_cost, Cond.selects RX6 yX6_cost yX6_cost, Cond.code yX6_cost cX6_cost 4 (some .int), Cond.methodLink RL 101 yX7_cost, Cond.methodLink RL 102 yX6_cheapest, Cond.instanceMethod yX6_cheapest, Cond.selects RX6 yX6_cheapest yX6_cheapest, Cond.code yX6_cheapest cX6_cheapest 4 (some .int), Cond.fieldLink RX6 220 "ShuntYard$Row" "minutes" "I", Cond.methodLink RL 105 yX7_cheapest, Cond.instanceMethod yX7_cheapest, Cond.selects RX7 yX7_cheapest yX7_cheapest, Cond.code yX7_cheapest cX7_cheapest 3 (some .int), Cond.methodLink RL 106 yX6_keep, Cond.instanceMethod yX6_keep]
def wsL_law_r31 : List Cond := [Cond.selects RX6 yX6_keep yX6_keep, Cond.code yX6_keep cX6_keep 2 (some .int), Cond.methodLink RX6 223 yX5_copyFrom, Cond.methodLink RL 109 yX7_keep, Cond.instanceMethod yX7_keep, Cond.selects RX7 yX7_keep yX7_keep, Cond.code yX7_keep cX7_keep 3 (some .int), Cond.fieldLink RX7 206 "ShuntYardModel" "filled" "I", Cond.methodLink RX7 203 yX7_isImage, Cond.static yX7_isImage, Cond.code yX7_isImage cX7_isImage 1 (some .boolean), Cond.methodLink RL 110 yX6_back, Cond.instanceMethod yX6_back, Cond.selects RX6 yX6_back yX6_back, Cond.code yX6_back cX6_back 2 (some .int), Cond.methodLink RL 113 yX7_back, Cond.instanceMethod yX7_back, Cond.selects RX7 yX7_back yX7_back, Cond.code yX7_back cX7_back 3 (some .int)]
def wsL_law : List Cond := (wsL_law_r1 ++ (wsL_law_r2 ++ (wsL_law_r3 ++ (wsL_law_r4 ++ (wsL_law_r5 ++ (wsL_law_r6 ++ (wsL_law_r7 ++ (wsL_law_r8 ++ (wsL_law_r9 ++ (wsL_law_r10 ++ (wsL_law_r11 ++ (wsL_law_r12 ++ (wsL_law_r13 ++ (wsL_law_r14 ++ (wsL_law_r15 ++ (wsL_law_r16 ++ (wsL_law_r17 ++ (wsL_law_r18 ++ (wsL_law_r19 ++ (wsL_law_r20 ++ (wsL_law_r21 ++ (wsL_law_r22 ++ (wsL_law_r23 ++ (wsL_law_r24 ++ (wsL_law_r25 ++ (wsL_law_r26 ++ (wsL_law_r27 ++ (wsL_law_r28 ++ (wsL_law_r29 ++ (wsL_law_r30 ++ wsL_law_r31)))))))))))))))))))))))))))))) ++ wsX60 ++ wsX70 ++ wsX50 ++ wsX10 ++ wsX40 ++ wsX30 ++ wsX00 ++ wsX20 ++ ([] : List Cond)
theorem inlX0 : ∀ w ∈ wsX00, w ∈ wsL_law := fun _ h => List.mem_append_left _ (List.mem_append_left _ (List.mem_append_right _ h))
theorem inlX1 : ∀ w ∈ wsX10, w ∈ wsL_law := fun _ h => List.mem_append_left _ (List.mem_append_left _ (List.mem_append_left _ (List.mem_append_left _ (List.mem_append_left _ (List.mem_append_right _ h)))))
theorem inlX2 : ∀ w ∈ wsX20, w ∈ wsL_law := fun _ h => List.mem_append_left _ (List.mem_append_right _ h)
theorem inlX3 : ∀ w ∈ wsX30, w ∈ wsL_law := fun _ h => List.mem_append_left _ (List.mem_append_left _ (List.mem_append_left _ (List.mem_append_right _ h)))
theorem inlX4 : ∀ w ∈ wsX40, w ∈ wsL_law := fun _ h => List.mem_append_left _ (List.mem_append_left _ (List.mem_append_left _ (List.mem_append_left _ (List.mem_append_right _ h))))
theorem inlX5 : ∀ w ∈ wsX50, w ∈ wsL_law := fun _ h => List.mem_append_left _ (List.mem_append_left _ (List.mem_append_left _ (List.mem_append_left _ (List.mem_append_left _ (List.mem_append_left _ (List.mem_append_right _ h))))))
theorem inlX6 : ∀ w ∈ wsX60, w ∈ wsL_law := fun _ h => List.mem_append_left _ (List.mem_append_left _ (List.mem_append_left _ (List.mem_append_left _ (List.mem_append_left _ (List.mem_append_left _ (List.mem_append_left _ (List.mem_append_left _ (List.mem_append_right _ h))))))))
theorem inlX7 : ∀ w ∈ wsX70, w ∈ wsL_law := fun _ h => List.mem_append_left _ (List.mem_append_left _ (List.mem_append_left _ (List.mem_append_left _ (List.mem_append_left _ (List.mem_append_left _ (List.mem_append_left _ (List.mem_append_right _ h)))))))
abbrev vwCl : List vw_C := [(RX0, TX0, 3), (RX1, TX1, 3), (RX2, TX2, 5), (RX3, TX3, 7), (RX4, TX4, 6), (RX5, TX5, 15), (RX6, TX6, 6), (RX7, TX7, 24)]
end
section
theorem lw_t1 {w : Cond} (h : w ∈ tables_1_1) : w ∈ lw_tbl := List.mem_append_right _ (List.mem_append_left _ h)
theorem lw_t2 {w : Cond} (h : w ∈ tables_1_2) : w ∈ lw_tbl := List.mem_append_right _ (List.mem_append_right _ (List.mem_append_left _ h))
theorem lw_t3 {w : Cond} (h : w ∈ tables_1_3) : w ∈ lw_tbl := List.mem_append_right _ (List.mem_append_right _ (List.mem_append_right _ (List.mem_append_left _ h)))
theorem lw_t4 {w : Cond} (h : w ∈ tables_1_4) : w ∈ lw_tbl := List.mem_append_right _ (List.mem_append_right _ (List.mem_append_right _ (List.mem_append_right _ h)))
theorem wl_1 : ∀ w ∈ wsL_law_r1, w ∈ lw_tbl := List.forall_mem_cons.mpr ⟨lw_t1 (List.mem_of_getElem? (i := 12) rfl), List.forall_mem_cons.mpr ⟨lw_t1 (List.mem_of_getElem? (i := 13) rfl), List.forall_mem_cons.mpr ⟨lw_t1 (List.mem_of_getElem? (i := 1) rfl), List.forall_mem_cons.mpr ⟨lw_t3 (List.mem_of_getElem? (i := 102) rfl), List.forall_mem_cons.mpr ⟨lw_t3 (List.mem_of_getElem? (i := 103) rfl), List.forall_mem_cons.mpr ⟨lw_t1 (List.mem_of_getElem? (i := 8) rfl), List.forall_mem_cons.mpr ⟨lw_t1 (List.mem_of_getElem? (i := 14) rfl), List.forall_mem_cons.mpr ⟨lw_t1 (List.mem_of_getElem? (i := 15) rfl), List.forall_mem_cons.mpr ⟨lw_t1 (List.mem_of_getElem? (i := 16) rfl), List.forall_mem_cons.mpr ⟨lw_t1 (List.mem_of_getElem? (i := 17) rfl), List.forall_mem_cons.mpr ⟨lw_t1 (List.mem_of_getElem? (i := 18) rfl), List.forall_mem_cons.mpr ⟨lw_t1 (List.mem_of_getElem? (i := 19) rfl), List.forall_mem_cons.mpr ⟨lw_t1 (List.mem_of_getElem? (i := 20) rfl), List.forall_mem_cons.mpr ⟨lw_t1 (List.mem_of_getElem? (i := 21) rfl), List.forall_mem_cons.mpr ⟨lw_t1 (List.mem_of_getElem? (i := 2) rfl), List.forall_mem_cons.mpr ⟨lw_t1 (List.mem_of_getElem? (i := 215) rfl), List.forall_mem_cons.mpr ⟨lw_t1 (List.mem_of_getElem? (i := 106) rfl), List.forall_mem_cons.mpr ⟨lw_t1 (List.mem_of_getElem? (i := 107) rfl), List.forall_mem_cons.mpr ⟨lw_t1 (List.mem_of_getElem? (i := 4) rfl), List.forall_mem_cons.mpr ⟨lw_t1 (List.mem_of_getElem? (i := 216) rfl), List.forall_mem_cons.mpr ⟨lw_t1 (List.mem_of_getElem? (i := 217) rfl), List.forall_mem_cons.mpr ⟨lw_t1 (List.mem_of_getElem? (i := 125) rfl), List.forall_mem_cons.mpr ⟨lw_t1 (List.mem_of_getElem? (i := 126) rfl), List.forall_mem_cons.mpr ⟨lw_t1 (List.mem_of_getElem? (i := 5) rfl), fun _ h => absurd h List.not_mem_nil⟩⟩⟩⟩⟩⟩⟩⟩⟩⟩⟩⟩⟩⟩⟩⟩⟩⟩⟩⟩⟩⟩⟩⟩
theorem wl_2 : ∀ w ∈ wsL_law_r2, w ∈ lw_tbl := List.forall_mem_cons.mpr ⟨lw_t1 (List.mem_of_getElem? (i := 218) rfl), List.forall_mem_cons.mpr ⟨lw_t1 (List.mem_of_getElem? (i := 156) rfl), List.forall_mem_cons.mpr ⟨lw_t1 (List.mem_of_getElem? (i := 157) rfl), List.forall_mem_cons.mpr ⟨lw_t1 (List.mem_of_getElem? (i := 6) rfl), List.forall_mem_cons.mpr ⟨lw_t1 (List.mem_of_getElem? (i := 219) rfl), List.forall_mem_cons.mpr ⟨lw_t1 (List.mem_of_getElem? (i := 220) rfl), List.forall_mem_cons.mpr ⟨lw_t1 (List.mem_of_getElem? (i := 23) rfl), List.forall_mem_cons.mpr ⟨lw_t1 (List.mem_of_getElem? (i := 24) rfl), List.forall_mem_cons.mpr ⟨lw_t1 (List.mem_of_getElem? (i := 25) rfl), List.forall_mem_cons.mpr ⟨lw_t1 (List.mem_of_getElem? (i := 44) rfl), List.forall_mem_cons.mpr ⟨lw_t1 (List.mem_of_getElem? (i := 47) rfl), List.forall_mem_cons.mpr ⟨lw_t1 (List.mem_of_getElem? (i := 43) rfl), List.forall_mem_cons.mpr ⟨lw_t1 (List.mem_of_getElem? (i := 64) rfl), List.forall_mem_cons.mpr ⟨lw_t1 (List.mem_of_getElem? (i := 67) rfl), List.forall_mem_cons.mpr ⟨lw_t1 (List.mem_of_getElem? (i := 69) rfl), List.forall_mem_cons.mpr ⟨lw_t1 (List.mem_of_getElem? (i := 72) rfl), List.forall_mem_cons.mpr ⟨lw_t1 (List.mem_of_getElem? (i := 73) rfl), List.forall_mem_cons.mpr ⟨lw_t1 (List.mem_of_getElem? (i := 26) rfl), List.forall_mem_cons.mpr ⟨lw_t1 (List.mem_of_getElem? (i := 27) rfl), List.forall_mem_cons.mpr ⟨lw_t1 (List.mem_of_getElem? (i := 3) rfl), List.forall_mem_cons.mpr ⟨lw_t1 (List.mem_of_getElem? (i := 74) rfl), List.forall_mem_cons.mpr ⟨lw_t1 (List.mem_of_getElem? (i := 29) rfl), List.forall_mem_cons.mpr ⟨lw_t1 (List.mem_of_getElem? (i := 30) rfl), List.forall_mem_cons.mpr ⟨lw_t1 (List.mem_of_getElem? (i := 31) rfl), fun _ h => absurd h List.not_mem_nil⟩⟩⟩⟩⟩⟩⟩⟩⟩⟩⟩⟩⟩⟩⟩⟩⟩⟩⟩⟩⟩⟩⟩⟩
theorem wl_3 : ∀ w ∈ wsL_law_r3, w ∈ lw_tbl := List.forall_mem_cons.mpr ⟨lw_t1 (List.mem_of_getElem? (i := 109) rfl), List.forall_mem_cons.mpr ⟨lw_t1 (List.mem_of_getElem? (i := 110) rfl), List.forall_mem_cons.mpr ⟨lw_t1 (List.mem_of_getElem? (i := 111) rfl), List.forall_mem_cons.mpr ⟨lw_t1 (List.mem_of_getElem? (i := 112) rfl), List.forall_mem_cons.mpr ⟨lw_t1 (List.mem_of_getElem? (i := 114) rfl), List.forall_mem_cons.mpr ⟨lw_t1 (List.mem_of_getElem? (i := 128) rfl), List.forall_mem_cons.mpr ⟨lw_t1 (List.mem_of_getElem? (i := 129) rfl), List.forall_mem_cons.mpr ⟨lw_t1 (List.mem_of_getElem? (i := 130) rfl), List.forall_mem_cons.mpr ⟨lw_t1 (List.mem_of_getElem? (i := 131) rfl), List.forall_mem_cons.mpr ⟨lw_t1 (List.mem_of_getElem? (i := 134) rfl), List.forall_mem_cons.mpr ⟨lw_t1 (List.mem_of_getElem? (i := 139) rfl), List.forall_mem_cons.mpr ⟨lw_t1 (List.mem_of_getElem? (i := 141) rfl), List.forall_mem_cons.mpr ⟨lw_t1 (List.mem_of_getElem? (i := 159) rfl), List.forall_mem_cons.mpr ⟨lw_t1 (List.mem_of_getElem? (i := 160) rfl), List.forall_mem_cons.mpr ⟨lw_t1 (List.mem_of_getElem? (i := 161) rfl), List.forall_mem_cons.mpr ⟨lw_t1 (List.mem_of_getElem? (i := 162) rfl), List.forall_mem_cons.mpr ⟨lw_t1 (List.mem_of_getElem? (i := 163) rfl), List.forall_mem_cons.mpr ⟨lw_t1 (List.mem_of_getElem? (i := 7) rfl), List.forall_mem_cons.mpr ⟨lw_t1 (List.mem_of_getElem? (i := 192) rfl), List.forall_mem_cons.mpr ⟨lw_t1 (List.mem_of_getElem? (i := 190) rfl), List.forall_mem_cons.mpr ⟨lw_t1 (List.mem_of_getElem? (i := 195) rfl), List.forall_mem_cons.mpr ⟨lw_t1 (List.mem_of_getElem? (i := 196) rfl), List.forall_mem_cons.mpr ⟨lw_t1 (List.mem_of_getElem? (i := 197) rfl), List.forall_mem_cons.mpr ⟨lw_t1 (List.mem_of_getElem? (i := 198) rfl), fun _ h => absurd h List.not_mem_nil⟩⟩⟩⟩⟩⟩⟩⟩⟩⟩⟩⟩⟩⟩⟩⟩⟩⟩⟩⟩⟩⟩⟩⟩
theorem wl_4 : ∀ w ∈ wsL_law_r4, w ∈ lw_tbl := List.forall_mem_cons.mpr ⟨lw_t1 (List.mem_of_getElem? (i := 199) rfl), List.forall_mem_cons.mpr ⟨lw_t1 (List.mem_of_getElem? (i := 165) rfl), List.forall_mem_cons.mpr ⟨lw_t1 (List.mem_of_getElem? (i := 166) rfl), List.forall_mem_cons.mpr ⟨lw_t1 (List.mem_of_getElem? (i := 167) rfl), List.forall_mem_cons.mpr ⟨lw_t1 (List.mem_of_getElem? (i := 173) rfl), List.forall_mem_cons.mpr ⟨lw_t1 (List.mem_of_getElem? (i := 175) rfl), List.forall_mem_cons.mpr ⟨lw_t1 (List.mem_of_getElem? (i := 177) rfl), List.forall_mem_cons.mpr ⟨lw_t3 (List.mem_of_getElem? (i := 104) rfl), List.forall_mem_cons.mpr ⟨lw_t3 (List.mem_of_getElem? (i := 105) rfl), List.forall_mem_cons.mpr ⟨lw_t3 (List.mem_of_getElem? (i := 106) rfl), List.forall_mem_cons.mpr ⟨lw_t3 (List.mem_of_getElem? (i := 107) rfl), List.forall_mem_cons.mpr ⟨lw_t3 (List.mem_of_getElem? (i := 108) rfl), List.forall_mem_cons.mpr ⟨lw_t3 (List.mem_of_getElem? (i := 109) rfl), List.forall_mem_cons.mpr ⟨lw_t3 (List.mem_of_getElem? (i := 111) rfl), List.forall_mem_cons.mpr ⟨lw_t3 (List.mem_of_getElem? (i := 113) rfl), List.forall_mem_cons.mpr ⟨lw_t3 (List.mem_of_getElem? (i := 115) rfl), List.forall_mem_cons.mpr ⟨lw_t3 (List.mem_of_getElem? (i := 116) rfl), List.forall_mem_cons.mpr ⟨lw_t3 (List.mem_of_getElem? (i := 117) rfl), List.forall_mem_cons.mpr ⟨lw_t3 (List.mem_of_getElem? (i := 118) rfl), List.forall_mem_cons.mpr ⟨lw_t3 (List.mem_of_getElem? (i := 121) rfl), List.forall_mem_cons.mpr ⟨lw_t3 (List.mem_of_getElem? (i := 122) rfl), List.forall_mem_cons.mpr ⟨lw_t3 (List.mem_of_getElem? (i := 123) rfl), List.forall_mem_cons.mpr ⟨lw_t3 (List.mem_of_getElem? (i := 126) rfl), List.forall_mem_cons.mpr ⟨lw_t3 (List.mem_of_getElem? (i := 127) rfl), fun _ h => absurd h List.not_mem_nil⟩⟩⟩⟩⟩⟩⟩⟩⟩⟩⟩⟩⟩⟩⟩⟩⟩⟩⟩⟩⟩⟩⟩⟩
theorem wl_5 : ∀ w ∈ wsL_law_r5, w ∈ lw_tbl := List.forall_mem_cons.mpr ⟨lw_t3 (List.mem_of_getElem? (i := 128) rfl), List.forall_mem_cons.mpr ⟨lw_t3 (List.mem_of_getElem? (i := 131) rfl), List.forall_mem_cons.mpr ⟨lw_t1 (List.mem_of_getElem? (i := 234) rfl), List.forall_mem_cons.mpr ⟨lw_t1 (List.mem_of_getElem? (i := 235) rfl), List.forall_mem_cons.mpr ⟨lw_t1 (List.mem_of_getElem? (i := 236) rfl), List.forall_mem_cons.mpr ⟨lw_t1 (List.mem_of_getElem? (i := 237) rfl), List.forall_mem_cons.mpr ⟨lw_t1 (List.mem_of_getElem? (i := 238) rfl), List.forall_mem_cons.mpr ⟨lw_t1 (List.mem_of_getElem? (i := 239) rfl), List.forall_mem_cons.mpr ⟨lw_t2 (List.mem_of_getElem? (i := 0) rfl), List.forall_mem_cons.mpr ⟨lw_t2 (List.mem_of_getElem? (i := 1) rfl), List.forall_mem_cons.mpr ⟨lw_t2 (List.mem_of_getElem? (i := 2) rfl), List.forall_mem_cons.mpr ⟨lw_t2 (List.mem_of_getElem? (i := 3) rfl), List.forall_mem_cons.mpr ⟨lw_t2 (List.mem_of_getElem? (i := 4) rfl), List.forall_mem_cons.mpr ⟨lw_t2 (List.mem_of_getElem? (i := 5) rfl), List.forall_mem_cons.mpr ⟨lw_t2 (List.mem_of_getElem? (i := 6) rfl), List.forall_mem_cons.mpr ⟨lw_t2 (List.mem_of_getElem? (i := 7) rfl), List.forall_mem_cons.mpr ⟨lw_t2 (List.mem_of_getElem? (i := 8) rfl), List.forall_mem_cons.mpr ⟨lw_t1 (List.mem_of_getElem? (i := 115) rfl), List.forall_mem_cons.mpr ⟨lw_t1 (List.mem_of_getElem? (i := 116) rfl), List.forall_mem_cons.mpr ⟨lw_t2 (List.mem_of_getElem? (i := 17) rfl), List.forall_mem_cons.mpr ⟨lw_t2 (List.mem_of_getElem? (i := 18) rfl), List.forall_mem_cons.mpr ⟨lw_t1 (List.mem_of_getElem? (i := 10) rfl), List.forall_mem_cons.mpr ⟨lw_t2 (List.mem_of_getElem? (i := 19) rfl), List.forall_mem_cons.mpr ⟨lw_t2 (List.mem_of_getElem? (i := 10) rfl), fun _ h => absurd h List.not_mem_nil⟩⟩⟩⟩⟩⟩⟩⟩⟩⟩⟩⟩⟩⟩⟩⟩⟩⟩⟩⟩⟩⟩⟩⟩
theorem wl_6 : ∀ w ∈ wsL_law_r6, w ∈ lw_tbl := List.forall_mem_cons.mpr ⟨lw_t2 (List.mem_of_getElem? (i := 11) rfl), List.forall_mem_cons.mpr ⟨lw_t2 (List.mem_of_getElem? (i := 12) rfl), List.forall_mem_cons.mpr ⟨lw_t2 (List.mem_of_getElem? (i := 13) rfl), List.forall_mem_cons.mpr ⟨lw_t1 (List.mem_of_getElem? (i := 49) rfl), List.forall_mem_cons.mpr ⟨lw_t1 (List.mem_of_getElem? (i := 51) rfl), List.forall_mem_cons.mpr ⟨lw_t1 (List.mem_of_getElem? (i := 53) rfl), List.forall_mem_cons.mpr ⟨lw_t1 (List.mem_of_getElem? (i := 55) rfl), List.forall_mem_cons.mpr ⟨lw_t1 (List.mem_of_getElem? (i := 57) rfl), List.forall_mem_cons.mpr ⟨lw_t1 (List.mem_of_getElem? (i := 59) rfl), List.forall_mem_cons.mpr ⟨lw_t1 (List.mem_of_getElem? (i := 62) rfl), List.forall_mem_cons.mpr ⟨lw_t2 (List.mem_of_getElem? (i := 14) rfl), List.forall_mem_cons.mpr ⟨lw_t2 (List.mem_of_getElem? (i := 16) rfl), List.forall_mem_cons.mpr ⟨lw_t2 (List.mem_of_getElem? (i := 15) rfl), List.forall_mem_cons.mpr ⟨lw_t1 (List.mem_of_getElem? (i := 9) rfl), List.forall_mem_cons.mpr ⟨lw_t2 (List.mem_of_getElem? (i := 20) rfl), List.forall_mem_cons.mpr ⟨lw_t2 (List.mem_of_getElem? (i := 21) rfl), List.forall_mem_cons.mpr ⟨lw_t2 (List.mem_of_getElem? (i := 22) rfl), List.forall_mem_cons.mpr ⟨lw_t2 (List.mem_of_getElem? (i := 23) rfl), List.forall_mem_cons.mpr ⟨lw_t2 (List.mem_of_getElem? (i := 24) rfl), List.forall_mem_cons.mpr ⟨lw_t2 (List.mem_of_getElem? (i := 25) rfl), List.forall_mem_cons.mpr ⟨lw_t1 (List.mem_of_getElem? (i := 11) rfl), List.forall_mem_cons.mpr ⟨lw_t2 (List.mem_of_getElem? (i := 26) rfl), List.forall_mem_cons.mpr ⟨lw_t4 (List.mem_of_getElem? (i := 120) rfl), List.forall_mem_cons.mpr ⟨lw_t4 (List.mem_of_getElem? (i := 121) rfl), fun _ h => absurd h List.not_mem_nil⟩⟩⟩⟩⟩⟩⟩⟩⟩⟩⟩⟩⟩⟩⟩⟩⟩⟩⟩⟩⟩⟩⟩⟩
theorem wl_7 : ∀ w ∈ wsL_law_r7, w ∈ lw_tbl := List.forall_mem_cons.mpr ⟨lw_t4 (List.mem_of_getElem? (i := 122) rfl), List.forall_mem_cons.mpr ⟨lw_t4 (List.mem_of_getElem? (i := 123) rfl), List.forall_mem_cons.mpr ⟨lw_t3 (List.mem_of_getElem? (i := 193) rfl), List.forall_mem_cons.mpr ⟨lw_t3 (List.mem_of_getElem? (i := 194) rfl), List.forall_mem_cons.mpr ⟨lw_t3 (List.mem_of_getElem? (i := 195) rfl), List.forall_mem_cons.mpr ⟨lw_t3 (List.mem_of_getElem? (i := 229) rfl), List.forall_mem_cons.mpr ⟨lw_t3 (List.mem_of_getElem? (i := 231) rfl), List.forall_mem_cons.mpr ⟨List.mem_append_left _ (List.mem_of_getElem? (i := 22) rfl), List.forall_mem_cons.mpr ⟨lw_t3 (List.mem_of_getElem? (i := 232) rfl), List.forall_mem_cons.mpr ⟨lw_t3 (List.mem_of_getElem? (i := 110) rfl), List.forall_mem_cons.mpr ⟨lw_t4 (List.mem_of_getElem? (i := 124) rfl), List.forall_mem_cons.mpr ⟨lw_t4 (List.mem_of_getElem? (i := 126) rfl), List.forall_mem_cons.mpr ⟨List.mem_append_left _ (List.mem_of_getElem? (i := 44) rfl), List.forall_mem_cons.mpr ⟨lw_t4 (List.mem_of_getElem? (i := 127) rfl), List.forall_mem_cons.mpr ⟨lw_t3 (List.mem_of_getElem? (i := 200) rfl), List.forall_mem_cons.mpr ⟨lw_t3 (List.mem_of_getElem? (i := 202) rfl), List.forall_mem_cons.mpr ⟨List.mem_append_left _ (List.mem_of_getElem? (i := 16) rfl), List.forall_mem_cons.mpr ⟨lw_t3 (List.mem_of_getElem? (i := 203) rfl), List.forall_mem_cons.mpr ⟨lw_t2 (List.mem_of_getElem? (i := 27) rfl), List.forall_mem_cons.mpr ⟨lw_t2 (List.mem_of_getElem? (i := 28) rfl), List.forall_mem_cons.mpr ⟨lw_t2 (List.mem_of_getElem? (i := 29) rfl), List.forall_mem_cons.mpr ⟨lw_t2 (List.mem_of_getElem? (i := 30) rfl), List.forall_mem_cons.mpr ⟨lw_t1 (List.mem_of_getElem? (i := 65) rfl), List.forall_mem_cons.mpr ⟨lw_t2 (List.mem_of_getElem? (i := 31) rfl), fun _ h => absurd h List.not_mem_nil⟩⟩⟩⟩⟩⟩⟩⟩⟩⟩⟩⟩⟩⟩⟩⟩⟩⟩⟩⟩⟩⟩⟩⟩
theorem wl_8 : ∀ w ∈ wsL_law_r8, w ∈ lw_tbl := List.forall_mem_cons.mpr ⟨lw_t2 (List.mem_of_getElem? (i := 32) rfl), List.forall_mem_cons.mpr ⟨lw_t2 (List.mem_of_getElem? (i := 33) rfl), List.forall_mem_cons.mpr ⟨lw_t2 (List.mem_of_getElem? (i := 34) rfl), List.forall_mem_cons.mpr ⟨lw_t2 (List.mem_of_getElem? (i := 35) rfl), List.forall_mem_cons.mpr ⟨lw_t2 (List.mem_of_getElem? (i := 36) rfl), List.forall_mem_cons.mpr ⟨lw_t2 (List.mem_of_getElem? (i := 37) rfl), List.forall_mem_cons.mpr ⟨lw_t2 (List.mem_of_getElem? (i := 38) rfl), List.forall_mem_cons.mpr ⟨lw_t2 (List.mem_of_getElem? (i := 39) rfl), List.forall_mem_cons.mpr ⟨lw_t4 (List.mem_of_getElem? (i := 128) rfl), List.forall_mem_cons.mpr ⟨lw_t4 (List.mem_of_getElem? (i := 129) rfl), List.forall_mem_cons.mpr ⟨lw_t4 (List.mem_of_getElem? (i := 130) rfl), List.forall_mem_cons.mpr ⟨lw_t4 (List.mem_of_getElem? (i := 131) rfl), List.forall_mem_cons.mpr ⟨lw_t4 (List.mem_of_getElem? (i := 132) rfl), List.forall_mem_cons.mpr ⟨lw_t4 (List.mem_of_getElem? (i := 133) rfl), List.forall_mem_cons.mpr ⟨lw_t4 (List.mem_of_getElem? (i := 134) rfl), List.forall_mem_cons.mpr ⟨lw_t2 (List.mem_of_getElem? (i := 40) rfl), List.forall_mem_cons.mpr ⟨lw_t2 (List.mem_of_getElem? (i := 41) rfl), List.forall_mem_cons.mpr ⟨lw_t2 (List.mem_of_getElem? (i := 42) rfl), List.forall_mem_cons.mpr ⟨lw_t2 (List.mem_of_getElem? (i := 43) rfl), List.forall_mem_cons.mpr ⟨lw_t1 (List.mem_of_getElem? (i := 71) rfl), List.forall_mem_cons.mpr ⟨lw_t1 (List.mem_of_getElem? (i := 137) rfl), List.forall_mem_cons.mpr ⟨lw_t1 (List.mem_of_getElem? (i := 48) rfl), List.forall_mem_cons.mpr ⟨lw_t2 (List.mem_of_getElem? (i := 44) rfl), List.forall_mem_cons.mpr ⟨lw_t2 (List.mem_of_getElem? (i := 45) rfl), fun _ h => absurd h List.not_mem_nil⟩⟩⟩⟩⟩⟩⟩⟩⟩⟩⟩⟩⟩⟩⟩⟩⟩⟩⟩⟩⟩⟩⟩⟩
theorem wl_9 : ∀ w ∈ wsL_law_r9, w ∈ lw_tbl := List.forall_mem_cons.mpr ⟨lw_t2 (List.mem_of_getElem? (i := 46) rfl), List.forall_mem_cons.mpr ⟨lw_t2 (List.mem_of_getElem? (i := 47) rfl), List.forall_mem_cons.mpr ⟨lw_t2 (List.mem_of_getElem? (i := 49) rfl), List.forall_mem_cons.mpr ⟨lw_t2 (List.mem_of_getElem? (i := 50) rfl), List.forall_mem_cons.mpr ⟨lw_t2 (List.mem_of_getElem? (i := 51) rfl), List.forall_mem_cons.mpr ⟨lw_t2 (List.mem_of_getElem? (i := 52) rfl), List.forall_mem_cons.mpr ⟨lw_t1 (List.mem_of_getElem? (i := 136) rfl), List.forall_mem_cons.mpr ⟨lw_t1 (List.mem_of_getElem? (i := 132) rfl), List.forall_mem_cons.mpr ⟨lw_t2 (List.mem_of_getElem? (i := 54) rfl), List.forall_mem_cons.mpr ⟨lw_t2 (List.mem_of_getElem? (i := 56) rfl), List.forall_mem_cons.mpr ⟨List.mem_append_left _ (List.mem_of_getElem? (i := 0) rfl), List.forall_mem_cons.mpr ⟨lw_t2 (List.mem_of_getElem? (i := 57) rfl), List.forall_mem_cons.mpr ⟨lw_t2 (List.mem_of_getElem? (i := 59) rfl), List.forall_mem_cons.mpr ⟨lw_t2 (List.mem_of_getElem? (i := 60) rfl), List.forall_mem_cons.mpr ⟨lw_t2 (List.mem_of_getElem? (i := 61) rfl), List.forall_mem_cons.mpr ⟨lw_t2 (List.mem_of_getElem? (i := 63) rfl), List.forall_mem_cons.mpr ⟨List.mem_append_left _ (List.mem_of_getElem? (i := 1) rfl), List.forall_mem_cons.mpr ⟨lw_t2 (List.mem_of_getElem? (i := 64) rfl), List.forall_mem_cons.mpr ⟨lw_t2 (List.mem_of_getElem? (i := 65) rfl), List.forall_mem_cons.mpr ⟨lw_t2 (List.mem_of_getElem? (i := 66) rfl), List.forall_mem_cons.mpr ⟨lw_t2 (List.mem_of_getElem? (i := 67) rfl), List.forall_mem_cons.mpr ⟨lw_t2 (List.mem_of_getElem? (i := 68) rfl), List.forall_mem_cons.mpr ⟨lw_t1 (List.mem_of_getElem? (i := 138) rfl), List.forall_mem_cons.mpr ⟨lw_t1 (List.mem_of_getElem? (i := 135) rfl), fun _ h => absurd h List.not_mem_nil⟩⟩⟩⟩⟩⟩⟩⟩⟩⟩⟩⟩⟩⟩⟩⟩⟩⟩⟩⟩⟩⟩⟩⟩
theorem wl_10 : ∀ w ∈ wsL_law_r10, w ∈ lw_tbl := List.forall_mem_cons.mpr ⟨lw_t1 (List.mem_of_getElem? (i := 33) rfl), List.forall_mem_cons.mpr ⟨lw_t2 (List.mem_of_getElem? (i := 69) rfl), List.forall_mem_cons.mpr ⟨lw_t2 (List.mem_of_getElem? (i := 70) rfl), List.forall_mem_cons.mpr ⟨lw_t2 (List.mem_of_getElem? (i := 71) rfl), List.forall_mem_cons.mpr ⟨lw_t2 (List.mem_of_getElem? (i := 72) rfl), List.forall_mem_cons.mpr ⟨lw_t1 (List.mem_of_getElem? (i := 32) rfl), List.forall_mem_cons.mpr ⟨lw_t1 (List.mem_of_getElem? (i := 34) rfl), List.forall_mem_cons.mpr ⟨lw_t1 (List.mem_of_getElem? (i := 35) rfl), List.forall_mem_cons.mpr ⟨lw_t2 (List.mem_of_getElem? (i := 73) rfl), List.forall_mem_cons.mpr ⟨lw_t2 (List.mem_of_getElem? (i := 75) rfl), List.forall_mem_cons.mpr ⟨List.mem_append_left _ (List.mem_of_getElem? (i := 2) rfl), List.forall_mem_cons.mpr ⟨lw_t2 (List.mem_of_getElem? (i := 76) rfl), List.forall_mem_cons.mpr ⟨lw_t2 (List.mem_of_getElem? (i := 77) rfl), List.forall_mem_cons.mpr ⟨lw_t2 (List.mem_of_getElem? (i := 78) rfl), List.forall_mem_cons.mpr ⟨lw_t2 (List.mem_of_getElem? (i := 79) rfl), List.forall_mem_cons.mpr ⟨lw_t2 (List.mem_of_getElem? (i := 80) rfl), List.forall_mem_cons.mpr ⟨lw_t2 (List.mem_of_getElem? (i := 82) rfl), List.forall_mem_cons.mpr ⟨lw_t2 (List.mem_of_getElem? (i := 83) rfl), List.forall_mem_cons.mpr ⟨lw_t2 (List.mem_of_getElem? (i := 84) rfl), List.forall_mem_cons.mpr ⟨lw_t2 (List.mem_of_getElem? (i := 85) rfl), List.forall_mem_cons.mpr ⟨lw_t2 (List.mem_of_getElem? (i := 86) rfl), List.forall_mem_cons.mpr ⟨lw_t2 (List.mem_of_getElem? (i := 87) rfl), List.forall_mem_cons.mpr ⟨lw_t2 (List.mem_of_getElem? (i := 88) rfl), List.forall_mem_cons.mpr ⟨lw_t2 (List.mem_of_getElem? (i := 89) rfl), fun _ h => absurd h List.not_mem_nil⟩⟩⟩⟩⟩⟩⟩⟩⟩⟩⟩⟩⟩⟩⟩⟩⟩⟩⟩⟩⟩⟩⟩⟩
theorem wl_11 : ∀ w ∈ wsL_law_r11, w ∈ lw_tbl := List.forall_mem_cons.mpr ⟨lw_t2 (List.mem_of_getElem? (i := 90) rfl), List.forall_mem_cons.mpr ⟨lw_t2 (List.mem_of_getElem? (i := 91) rfl), List.forall_mem_cons.mpr ⟨lw_t2 (List.mem_of_getElem? (i := 92) rfl), List.forall_mem_cons.mpr ⟨lw_t2 (List.mem_of_getElem? (i := 94) rfl), List.forall_mem_cons.mpr ⟨lw_t2 (List.mem_of_getElem? (i := 95) rfl), List.forall_mem_cons.mpr ⟨lw_t4 (List.mem_of_getElem? (i := 33) rfl), List.forall_mem_cons.mpr ⟨lw_t4 (List.mem_of_getElem? (i := 34) rfl), List.forall_mem_cons.mpr ⟨lw_t4 (List.mem_of_getElem? (i := 35) rfl), List.forall_mem_cons.mpr ⟨lw_t4 (List.mem_of_getElem? (i := 36) rfl), List.forall_mem_cons.mpr ⟨lw_t3 (List.mem_of_getElem? (i := 120) rfl), List.forall_mem_cons.mpr ⟨lw_t3 (List.mem_of_getElem? (i := 189) rfl), List.forall_mem_cons.mpr ⟨lw_t3 (List.mem_of_getElem? (i := 191) rfl), List.forall_mem_cons.mpr ⟨List.mem_append_left _ (List.mem_of_getElem? (i := 14) rfl), List.forall_mem_cons.mpr ⟨lw_t3 (List.mem_of_getElem? (i := 192) rfl), List.forall_mem_cons.mpr ⟨lw_t4 (List.mem_of_getElem? (i := 37) rfl), List.forall_mem_cons.mpr ⟨lw_t4 (List.mem_of_getElem? (i := 39) rfl), List.forall_mem_cons.mpr ⟨List.mem_append_left _ (List.mem_of_getElem? (i := 30) rfl), List.forall_mem_cons.mpr ⟨lw_t4 (List.mem_of_getElem? (i := 40) rfl), List.forall_mem_cons.mpr ⟨lw_t3 (List.mem_of_getElem? (i := 114) rfl), List.forall_mem_cons.mpr ⟨lw_t3 (List.mem_of_getElem? (i := 124) rfl), List.forall_mem_cons.mpr ⟨lw_t4 (List.mem_of_getElem? (i := 41) rfl), List.forall_mem_cons.mpr ⟨lw_t4 (List.mem_of_getElem? (i := 43) rfl), List.forall_mem_cons.mpr ⟨List.mem_append_left _ (List.mem_of_getElem? (i := 31) rfl), List.forall_mem_cons.mpr ⟨lw_t4 (List.mem_of_getElem? (i := 44) rfl), fun _ h => absurd h List.not_mem_nil⟩⟩⟩⟩⟩⟩⟩⟩⟩⟩⟩⟩⟩⟩⟩⟩⟩⟩⟩⟩⟩⟩⟩⟩
theorem wl_12 : ∀ w ∈ wsL_law_r12, w ∈ lw_tbl := List.forall_mem_cons.mpr ⟨lw_t3 (List.mem_of_getElem? (i := 125) rfl), List.forall_mem_cons.mpr ⟨lw_t4 (List.mem_of_getElem? (i := 45) rfl), List.forall_mem_cons.mpr ⟨lw_t4 (List.mem_of_getElem? (i := 46) rfl), List.forall_mem_cons.mpr ⟨lw_t4 (List.mem_of_getElem? (i := 47) rfl), List.forall_mem_cons.mpr ⟨lw_t4 (List.mem_of_getElem? (i := 48) rfl), List.forall_mem_cons.mpr ⟨lw_t4 (List.mem_of_getElem? (i := 50) rfl), List.forall_mem_cons.mpr ⟨List.mem_append_left _ (List.mem_of_getElem? (i := 32) rfl), List.forall_mem_cons.mpr ⟨lw_t4 (List.mem_of_getElem? (i := 51) rfl), List.forall_mem_cons.mpr ⟨lw_t3 (List.mem_of_getElem? (i := 204) rfl), List.forall_mem_cons.mpr ⟨lw_t3 (List.mem_of_getElem? (i := 206) rfl), List.forall_mem_cons.mpr ⟨List.mem_append_left _ (List.mem_of_getElem? (i := 17) rfl), List.forall_mem_cons.mpr ⟨lw_t3 (List.mem_of_getElem? (i := 207) rfl), List.forall_mem_cons.mpr ⟨lw_t3 (List.mem_of_getElem? (i := 119) rfl), List.forall_mem_cons.mpr ⟨lw_t3 (List.mem_of_getElem? (i := 208) rfl), List.forall_mem_cons.mpr ⟨lw_t3 (List.mem_of_getElem? (i := 210) rfl), List.forall_mem_cons.mpr ⟨List.mem_append_left _ (List.mem_of_getElem? (i := 18) rfl), List.forall_mem_cons.mpr ⟨lw_t3 (List.mem_of_getElem? (i := 211) rfl), List.forall_mem_cons.mpr ⟨lw_t3 (List.mem_of_getElem? (i := 212) rfl), List.forall_mem_cons.mpr ⟨lw_t3 (List.mem_of_getElem? (i := 214) rfl), List.forall_mem_cons.mpr ⟨List.mem_append_left _ (List.mem_of_getElem? (i := 19) rfl), List.forall_mem_cons.mpr ⟨lw_t3 (List.mem_of_getElem? (i := 215) rfl), List.forall_mem_cons.mpr ⟨lw_t3 (List.mem_of_getElem? (i := 216) rfl), List.forall_mem_cons.mpr ⟨lw_t3 (List.mem_of_getElem? (i := 218) rfl), List.forall_mem_cons.mpr ⟨List.mem_append_left _ (List.mem_of_getElem? (i := 20) rfl), fun _ h => absurd h List.not_mem_nil⟩⟩⟩⟩⟩⟩⟩⟩⟩⟩⟩⟩⟩⟩⟩⟩⟩⟩⟩⟩⟩⟩⟩⟩
theorem wl_13 : ∀ w ∈ wsL_law_r13, w ∈ lw_tbl := List.forall_mem_cons.mpr ⟨lw_t3 (List.mem_of_getElem? (i := 219) rfl), List.forall_mem_cons.mpr ⟨lw_t3 (List.mem_of_getElem? (i := 220) rfl), List.forall_mem_cons.mpr ⟨lw_t3 (List.mem_of_getElem? (i := 222) rfl), List.forall_mem_cons.mpr ⟨List.mem_append_left _ (List.mem_of_getElem? (i := 21) rfl), List.forall_mem_cons.mpr ⟨lw_t3 (List.mem_of_getElem? (i := 223) rfl), List.forall_mem_cons.mpr ⟨lw_t3 (List.mem_of_getElem? (i := 237) rfl), List.forall_mem_cons.mpr ⟨lw_t3 (List.mem_of_getElem? (i := 239) rfl), List.forall_mem_cons.mpr ⟨List.mem_append_left _ (List.mem_of_getElem? (i := 24) rfl), List.forall_mem_cons.mpr ⟨lw_t4 (List.mem_of_getElem? (i := 0) rfl), List.forall_mem_cons.mpr ⟨lw_t2 (List.mem_of_getElem? (i := 97) rfl), List.forall_mem_cons.mpr ⟨lw_t2 (List.mem_of_getElem? (i := 98) rfl), List.forall_mem_cons.mpr ⟨lw_t2 (List.mem_of_getElem? (i := 99) rfl), List.forall_mem_cons.mpr ⟨lw_t2 (List.mem_of_getElem? (i := 100) rfl), List.forall_mem_cons.mpr ⟨lw_t1 (List.mem_of_getElem? (i := 63) rfl), List.forall_mem_cons.mpr ⟨lw_t2 (List.mem_of_getElem? (i := 101) rfl), List.forall_mem_cons.mpr ⟨lw_t2 (List.mem_of_getElem? (i := 102) rfl), List.forall_mem_cons.mpr ⟨lw_t2 (List.mem_of_getElem? (i := 103) rfl), List.forall_mem_cons.mpr ⟨lw_t2 (List.mem_of_getElem? (i := 104) rfl), List.forall_mem_cons.mpr ⟨lw_t2 (List.mem_of_getElem? (i := 105) rfl), List.forall_mem_cons.mpr ⟨lw_t2 (List.mem_of_getElem? (i := 106) rfl), List.forall_mem_cons.mpr ⟨lw_t2 (List.mem_of_getElem? (i := 107) rfl), List.forall_mem_cons.mpr ⟨lw_t2 (List.mem_of_getElem? (i := 108) rfl), List.forall_mem_cons.mpr ⟨lw_t4 (List.mem_of_getElem? (i := 52) rfl), List.forall_mem_cons.mpr ⟨lw_t4 (List.mem_of_getElem? (i := 53) rfl), fun _ h => absurd h List.not_mem_nil⟩⟩⟩⟩⟩⟩⟩⟩⟩⟩⟩⟩⟩⟩⟩⟩⟩⟩⟩⟩⟩⟩⟩⟩
theorem wl_14 : ∀ w ∈ wsL_law_r14, w ∈ lw_tbl := List.forall_mem_cons.mpr ⟨lw_t4 (List.mem_of_getElem? (i := 54) rfl), List.forall_mem_cons.mpr ⟨lw_t4 (List.mem_of_getElem? (i := 55) rfl), List.forall_mem_cons.mpr ⟨lw_t4 (List.mem_of_getElem? (i := 56) rfl), List.forall_mem_cons.mpr ⟨lw_t4 (List.mem_of_getElem? (i := 58) rfl), List.forall_mem_cons.mpr ⟨List.mem_append_left _ (List.mem_of_getElem? (i := 33) rfl), List.forall_mem_cons.mpr ⟨lw_t4 (List.mem_of_getElem? (i := 59) rfl), List.forall_mem_cons.mpr ⟨lw_t2 (List.mem_of_getElem? (i := 109) rfl), List.forall_mem_cons.mpr ⟨lw_t2 (List.mem_of_getElem? (i := 110) rfl), List.forall_mem_cons.mpr ⟨lw_t2 (List.mem_of_getElem? (i := 111) rfl), List.forall_mem_cons.mpr ⟨lw_t2 (List.mem_of_getElem? (i := 112) rfl), List.forall_mem_cons.mpr ⟨lw_t2 (List.mem_of_getElem? (i := 113) rfl), List.forall_mem_cons.mpr ⟨lw_t2 (List.mem_of_getElem? (i := 114) rfl), List.forall_mem_cons.mpr ⟨lw_t2 (List.mem_of_getElem? (i := 115) rfl), List.forall_mem_cons.mpr ⟨lw_t2 (List.mem_of_getElem? (i := 116) rfl), List.forall_mem_cons.mpr ⟨lw_t2 (List.mem_of_getElem? (i := 117) rfl), List.forall_mem_cons.mpr ⟨lw_t2 (List.mem_of_getElem? (i := 118) rfl), List.forall_mem_cons.mpr ⟨lw_t2 (List.mem_of_getElem? (i := 120) rfl), List.forall_mem_cons.mpr ⟨List.mem_append_left _ (List.mem_of_getElem? (i := 3) rfl), List.forall_mem_cons.mpr ⟨lw_t2 (List.mem_of_getElem? (i := 121) rfl), List.forall_mem_cons.mpr ⟨lw_t2 (List.mem_of_getElem? (i := 122) rfl), List.forall_mem_cons.mpr ⟨lw_t2 (List.mem_of_getElem? (i := 124) rfl), List.forall_mem_cons.mpr ⟨List.mem_append_left _ (List.mem_of_getElem? (i := 4) rfl), List.forall_mem_cons.mpr ⟨lw_t2 (List.mem_of_getElem? (i := 125) rfl), List.forall_mem_cons.mpr ⟨lw_t2 (List.mem_of_getElem? (i := 126) rfl), fun _ h => absurd h List.not_mem_nil⟩⟩⟩⟩⟩⟩⟩⟩⟩⟩⟩⟩⟩⟩⟩⟩⟩⟩⟩⟩⟩⟩⟩⟩
theorem wl_15 : ∀ w ∈ wsL_law_r15, w ∈ lw_tbl := List.forall_mem_cons.mpr ⟨lw_t2 (List.mem_of_getElem? (i := 127) rfl), List.forall_mem_cons.mpr ⟨lw_t2 (List.mem_of_getElem? (i := 128) rfl), List.forall_mem_cons.mpr ⟨lw_t2 (List.mem_of_getElem? (i := 129) rfl), List.forall_mem_cons.mpr ⟨lw_t2 (List.mem_of_getElem? (i := 130) rfl), List.forall_mem_cons.mpr ⟨lw_t2 (List.mem_of_getElem? (i := 131) rfl), List.forall_mem_cons.mpr ⟨lw_t2 (List.mem_of_getElem? (i := 132) rfl), List.forall_mem_cons.mpr ⟨lw_t2 (List.mem_of_getElem? (i := 133) rfl), List.forall_mem_cons.mpr ⟨lw_t2 (List.mem_of_getElem? (i := 134) rfl), List.forall_mem_cons.mpr ⟨lw_t2 (List.mem_of_getElem? (i := 135) rfl), List.forall_mem_cons.mpr ⟨lw_t2 (List.mem_of_getElem? (i := 136) rfl), List.forall_mem_cons.mpr ⟨lw_t3 (List.mem_of_getElem? (i := 224) rfl), List.forall_mem_cons.mpr ⟨lw_t3 (List.mem_of_getElem? (i := 225) rfl), List.forall_mem_cons.mpr ⟨lw_t3 (List.mem_of_getElem? (i := 226) rfl), List.forall_mem_cons.mpr ⟨lw_t3 (List.mem_of_getElem? (i := 227) rfl), List.forall_mem_cons.mpr ⟨lw_t3 (List.mem_of_getElem? (i := 228) rfl), List.forall_mem_cons.mpr ⟨lw_t3 (List.mem_of_getElem? (i := 182) rfl), List.forall_mem_cons.mpr ⟨lw_t3 (List.mem_of_getElem? (i := 183) rfl), List.forall_mem_cons.mpr ⟨lw_t3 (List.mem_of_getElem? (i := 184) rfl), List.forall_mem_cons.mpr ⟨lw_t3 (List.mem_of_getElem? (i := 185) rfl), List.forall_mem_cons.mpr ⟨lw_t3 (List.mem_of_getElem? (i := 187) rfl), List.forall_mem_cons.mpr ⟨List.mem_append_left _ (List.mem_of_getElem? (i := 13) rfl), List.forall_mem_cons.mpr ⟨lw_t3 (List.mem_of_getElem? (i := 188) rfl), List.forall_mem_cons.mpr ⟨lw_t3 (List.mem_of_getElem? (i := 196) rfl), List.forall_mem_cons.mpr ⟨lw_t3 (List.mem_of_getElem? (i := 198) rfl), fun _ h => absurd h List.not_mem_nil⟩⟩⟩⟩⟩⟩⟩⟩⟩⟩⟩⟩⟩⟩⟩⟩⟩⟩⟩⟩⟩⟩⟩⟩
theorem wl_16 : ∀ w ∈ wsL_law_r16, w ∈ lw_tbl := List.forall_mem_cons.mpr ⟨List.mem_append_left _ (List.mem_of_getElem? (i := 15) rfl), List.forall_mem_cons.mpr ⟨lw_t3 (List.mem_of_getElem? (i := 199) rfl), List.forall_mem_cons.mpr ⟨lw_t3 (List.mem_of_getElem? (i := 233) rfl), List.forall_mem_cons.mpr ⟨lw_t3 (List.mem_of_getElem? (i := 235) rfl), List.forall_mem_cons.mpr ⟨List.mem_append_left _ (List.mem_of_getElem? (i := 23) rfl), List.forall_mem_cons.mpr ⟨lw_t3 (List.mem_of_getElem? (i := 236) rfl), List.forall_mem_cons.mpr ⟨lw_t2 (List.mem_of_getElem? (i := 137) rfl), List.forall_mem_cons.mpr ⟨lw_t2 (List.mem_of_getElem? (i := 138) rfl), List.forall_mem_cons.mpr ⟨lw_t2 (List.mem_of_getElem? (i := 139) rfl), List.forall_mem_cons.mpr ⟨lw_t2 (List.mem_of_getElem? (i := 140) rfl), List.forall_mem_cons.mpr ⟨lw_t2 (List.mem_of_getElem? (i := 141) rfl), List.forall_mem_cons.mpr ⟨lw_t2 (List.mem_of_getElem? (i := 142) rfl), List.forall_mem_cons.mpr ⟨lw_t2 (List.mem_of_getElem? (i := 143) rfl), List.forall_mem_cons.mpr ⟨lw_t2 (List.mem_of_getElem? (i := 144) rfl), List.forall_mem_cons.mpr ⟨lw_t4 (List.mem_of_getElem? (i := 1) rfl), List.forall_mem_cons.mpr ⟨lw_t4 (List.mem_of_getElem? (i := 2) rfl), List.forall_mem_cons.mpr ⟨lw_t4 (List.mem_of_getElem? (i := 3) rfl), List.forall_mem_cons.mpr ⟨lw_t4 (List.mem_of_getElem? (i := 4) rfl), List.forall_mem_cons.mpr ⟨lw_t2 (List.mem_of_getElem? (i := 145) rfl), List.forall_mem_cons.mpr ⟨lw_t2 (List.mem_of_getElem? (i := 146) rfl), List.forall_mem_cons.mpr ⟨lw_t2 (List.mem_of_getElem? (i := 147) rfl), List.forall_mem_cons.mpr ⟨lw_t2 (List.mem_of_getElem? (i := 148) rfl), List.forall_mem_cons.mpr ⟨lw_t1 (List.mem_of_getElem? (i := 50) rfl), List.forall_mem_cons.mpr ⟨lw_t4 (List.mem_of_getElem? (i := 5) rfl), fun _ h => absurd h List.not_mem_nil⟩⟩⟩⟩⟩⟩⟩⟩⟩⟩⟩⟩⟩⟩⟩⟩⟩⟩⟩⟩⟩⟩⟩⟩
theorem wl_17 : ∀ w ∈ wsL_law_r17, w ∈ lw_tbl := List.forall_mem_cons.mpr ⟨lw_t4 (List.mem_of_getElem? (i := 6) rfl), List.forall_mem_cons.mpr ⟨lw_t4 (List.mem_of_getElem? (i := 7) rfl), List.forall_mem_cons.mpr ⟨lw_t4 (List.mem_of_getElem? (i := 8) rfl), List.forall_mem_cons.mpr ⟨lw_t2 (List.mem_of_getElem? (i := 149) rfl), List.forall_mem_cons.mpr ⟨lw_t2 (List.mem_of_getElem? (i := 150) rfl), List.forall_mem_cons.mpr ⟨lw_t2 (List.mem_of_getElem? (i := 151) rfl), List.forall_mem_cons.mpr ⟨lw_t2 (List.mem_of_getElem? (i := 152) rfl), List.forall_mem_cons.mpr ⟨lw_t2 (List.mem_of_getElem? (i := 153) rfl), List.forall_mem_cons.mpr ⟨lw_t2 (List.mem_of_getElem? (i := 154) rfl), List.forall_mem_cons.mpr ⟨lw_t2 (List.mem_of_getElem? (i := 155) rfl), List.forall_mem_cons.mpr ⟨lw_t2 (List.mem_of_getElem? (i := 156) rfl), List.forall_mem_cons.mpr ⟨lw_t2 (List.mem_of_getElem? (i := 157) rfl), List.forall_mem_cons.mpr ⟨lw_t2 (List.mem_of_getElem? (i := 159) rfl), List.forall_mem_cons.mpr ⟨List.mem_append_left _ (List.mem_of_getElem? (i := 5) rfl), List.forall_mem_cons.mpr ⟨lw_t2 (List.mem_of_getElem? (i := 160) rfl), List.forall_mem_cons.mpr ⟨lw_t2 (List.mem_of_getElem? (i := 161) rfl), List.forall_mem_cons.mpr ⟨lw_t2 (List.mem_of_getElem? (i := 162) rfl), List.forall_mem_cons.mpr ⟨lw_t2 (List.mem_of_getElem? (i := 163) rfl), List.forall_mem_cons.mpr ⟨lw_t2 (List.mem_of_getElem? (i := 164) rfl), List.forall_mem_cons.mpr ⟨lw_t2 (List.mem_of_getElem? (i := 165) rfl), List.forall_mem_cons.mpr ⟨lw_t2 (List.mem_of_getElem? (i := 166) rfl), List.forall_mem_cons.mpr ⟨lw_t2 (List.mem_of_getElem? (i := 167) rfl), List.forall_mem_cons.mpr ⟨lw_t2 (List.mem_of_getElem? (i := 168) rfl), List.forall_mem_cons.mpr ⟨lw_t2 (List.mem_of_getElem? (i := 169) rfl), fun _ h => absurd h List.not_mem_nil⟩⟩⟩⟩⟩⟩⟩⟩⟩⟩⟩⟩⟩⟩⟩⟩⟩⟩⟩⟩⟩⟩⟩⟩
theorem wl_18 : ∀ w ∈ wsL_law_r18, w ∈ lw_tbl := List.forall_mem_cons.mpr ⟨lw_t2 (List.mem_of_getElem? (i := 170) rfl), List.forall_mem_cons.mpr ⟨lw_t2 (List.mem_of_getElem? (i := 171) rfl), List.forall_mem_cons.mpr ⟨lw_t2 (List.mem_of_getElem? (i := 172) rfl), List.forall_mem_cons.mpr ⟨lw_t2 (List.mem_of_getElem? (i := 173) rfl), List.forall_mem_cons.mpr ⟨lw_t2 (List.mem_of_getElem? (i := 174) rfl), List.forall_mem_cons.mpr ⟨lw_t2 (List.mem_of_getElem? (i := 175) rfl), List.forall_mem_cons.mpr ⟨lw_t2 (List.mem_of_getElem? (i := 176) rfl), List.forall_mem_cons.mpr ⟨lw_t2 (List.mem_of_getElem? (i := 177) rfl), List.forall_mem_cons.mpr ⟨lw_t2 (List.mem_of_getElem? (i := 178) rfl), List.forall_mem_cons.mpr ⟨lw_t2 (List.mem_of_getElem? (i := 179) rfl), List.forall_mem_cons.mpr ⟨lw_t2 (List.mem_of_getElem? (i := 180) rfl), List.forall_mem_cons.mpr ⟨lw_t2 (List.mem_of_getElem? (i := 181) rfl), List.forall_mem_cons.mpr ⟨lw_t2 (List.mem_of_getElem? (i := 182) rfl), List.forall_mem_cons.mpr ⟨lw_t2 (List.mem_of_getElem? (i := 183) rfl), List.forall_mem_cons.mpr ⟨lw_t4 (List.mem_of_getElem? (i := 9) rfl), List.forall_mem_cons.mpr ⟨lw_t4 (List.mem_of_getElem? (i := 10) rfl), List.forall_mem_cons.mpr ⟨lw_t4 (List.mem_of_getElem? (i := 11) rfl), List.forall_mem_cons.mpr ⟨lw_t4 (List.mem_of_getElem? (i := 12) rfl), List.forall_mem_cons.mpr ⟨lw_t4 (List.mem_of_getElem? (i := 13) rfl), List.forall_mem_cons.mpr ⟨lw_t4 (List.mem_of_getElem? (i := 15) rfl), List.forall_mem_cons.mpr ⟨List.mem_append_left _ (List.mem_of_getElem? (i := 25) rfl), List.forall_mem_cons.mpr ⟨lw_t4 (List.mem_of_getElem? (i := 16) rfl), List.forall_mem_cons.mpr ⟨lw_t4 (List.mem_of_getElem? (i := 17) rfl), List.forall_mem_cons.mpr ⟨lw_t4 (List.mem_of_getElem? (i := 19) rfl), fun _ h => absurd h List.not_mem_nil⟩⟩⟩⟩⟩⟩⟩⟩⟩⟩⟩⟩⟩⟩⟩⟩⟩⟩⟩⟩⟩⟩⟩⟩
theorem wl_19 : ∀ w ∈ wsL_law_r19, w ∈ lw_tbl := List.forall_mem_cons.mpr ⟨List.mem_append_left _ (List.mem_of_getElem? (i := 26) rfl), List.forall_mem_cons.mpr ⟨lw_t4 (List.mem_of_getElem? (i := 20) rfl), List.forall_mem_cons.mpr ⟨lw_t4 (List.mem_of_getElem? (i := 21) rfl), List.forall_mem_cons.mpr ⟨lw_t4 (List.mem_of_getElem? (i := 23) rfl), List.forall_mem_cons.mpr ⟨List.mem_append_left _ (List.mem_of_getElem? (i := 27) rfl), List.forall_mem_cons.mpr ⟨lw_t4 (List.mem_of_getElem? (i := 24) rfl), List.forall_mem_cons.mpr ⟨lw_t4 (List.mem_of_getElem? (i := 25) rfl), List.forall_mem_cons.mpr ⟨lw_t4 (List.mem_of_getElem? (i := 27) rfl), List.forall_mem_cons.mpr ⟨List.mem_append_left _ (List.mem_of_getElem? (i := 28) rfl), List.forall_mem_cons.mpr ⟨lw_t4 (List.mem_of_getElem? (i := 28) rfl), List.forall_mem_cons.mpr ⟨lw_t4 (List.mem_of_getElem? (i := 29) rfl), List.forall_mem_cons.mpr ⟨lw_t4 (List.mem_of_getElem? (i := 31) rfl), List.forall_mem_cons.mpr ⟨List.mem_append_left _ (List.mem_of_getElem? (i := 29) rfl), List.forall_mem_cons.mpr ⟨lw_t4 (List.mem_of_getElem? (i := 32) rfl), List.forall_mem_cons.mpr ⟨lw_t2 (List.mem_of_getElem? (i := 184) rfl), List.forall_mem_cons.mpr ⟨lw_t2 (List.mem_of_getElem? (i := 185) rfl), List.forall_mem_cons.mpr ⟨lw_t2 (List.mem_of_getElem? (i := 186) rfl), List.forall_mem_cons.mpr ⟨lw_t2 (List.mem_of_getElem? (i := 187) rfl), List.forall_mem_cons.mpr ⟨lw_t1 (List.mem_of_getElem? (i := 193) rfl), List.forall_mem_cons.mpr ⟨lw_t1 (List.mem_of_getElem? (i := 169) rfl), List.forall_mem_cons.mpr ⟨lw_t1 (List.mem_of_getElem? (i := 174) rfl), List.forall_mem_cons.mpr ⟨lw_t1 (List.mem_of_getElem? (i := 176) rfl), List.forall_mem_cons.mpr ⟨lw_t1 (List.mem_of_getElem? (i := 178) rfl), List.forall_mem_cons.mpr ⟨lw_t2 (List.mem_of_getElem? (i := 188) rfl), fun _ h => absurd h List.not_mem_nil⟩⟩⟩⟩⟩⟩⟩⟩⟩⟩⟩⟩⟩⟩⟩⟩⟩⟩⟩⟩⟩⟩⟩⟩
theorem wl_20 : ∀ w ∈ wsL_law_r20, w ∈ lw_tbl := List.forall_mem_cons.mpr ⟨lw_t2 (List.mem_of_getElem? (i := 189) rfl), List.forall_mem_cons.mpr ⟨lw_t2 (List.mem_of_getElem? (i := 190) rfl), List.forall_mem_cons.mpr ⟨lw_t2 (List.mem_of_getElem? (i := 191) rfl), List.forall_mem_cons.mpr ⟨lw_t1 (List.mem_of_getElem? (i := 194) rfl), List.forall_mem_cons.mpr ⟨lw_t1 (List.mem_of_getElem? (i := 61) rfl), List.forall_mem_cons.mpr ⟨lw_t2 (List.mem_of_getElem? (i := 198) rfl), List.forall_mem_cons.mpr ⟨lw_t2 (List.mem_of_getElem? (i := 192) rfl), List.forall_mem_cons.mpr ⟨lw_t2 (List.mem_of_getElem? (i := 193) rfl), List.forall_mem_cons.mpr ⟨lw_t2 (List.mem_of_getElem? (i := 194) rfl), List.forall_mem_cons.mpr ⟨lw_t2 (List.mem_of_getElem? (i := 195) rfl), List.forall_mem_cons.mpr ⟨lw_t1 (List.mem_of_getElem? (i := 168) rfl), List.forall_mem_cons.mpr ⟨lw_t1 (List.mem_of_getElem? (i := 170) rfl), List.forall_mem_cons.mpr ⟨lw_t2 (List.mem_of_getElem? (i := 196) rfl), List.forall_mem_cons.mpr ⟨lw_t2 (List.mem_of_getElem? (i := 197) rfl), List.forall_mem_cons.mpr ⟨lw_t2 (List.mem_of_getElem? (i := 199) rfl), List.forall_mem_cons.mpr ⟨lw_t2 (List.mem_of_getElem? (i := 201) rfl), List.forall_mem_cons.mpr ⟨List.mem_append_left _ (List.mem_of_getElem? (i := 6) rfl), List.forall_mem_cons.mpr ⟨lw_t2 (List.mem_of_getElem? (i := 202) rfl), List.forall_mem_cons.mpr ⟨lw_t1 (List.mem_of_getElem? (i := 45) rfl), List.forall_mem_cons.mpr ⟨lw_t1 (List.mem_of_getElem? (i := 70) rfl), List.forall_mem_cons.mpr ⟨lw_t2 (List.mem_of_getElem? (i := 203) rfl), List.forall_mem_cons.mpr ⟨lw_t2 (List.mem_of_getElem? (i := 204) rfl), List.forall_mem_cons.mpr ⟨lw_t2 (List.mem_of_getElem? (i := 205) rfl), List.forall_mem_cons.mpr ⟨lw_t2 (List.mem_of_getElem? (i := 206) rfl), fun _ h => absurd h List.not_mem_nil⟩⟩⟩⟩⟩⟩⟩⟩⟩⟩⟩⟩⟩⟩⟩⟩⟩⟩⟩⟩⟩⟩⟩⟩
theorem wl_21 : ∀ w ∈ wsL_law_r21, w ∈ lw_tbl := List.forall_mem_cons.mpr ⟨lw_t2 (List.mem_of_getElem? (i := 207) rfl), List.forall_mem_cons.mpr ⟨lw_t2 (List.mem_of_getElem? (i := 209) rfl), List.forall_mem_cons.mpr ⟨List.mem_append_left _ (List.mem_of_getElem? (i := 7) rfl), List.forall_mem_cons.mpr ⟨lw_t2 (List.mem_of_getElem? (i := 210) rfl), List.forall_mem_cons.mpr ⟨lw_t2 (List.mem_of_getElem? (i := 211) rfl), List.forall_mem_cons.mpr ⟨lw_t2 (List.mem_of_getElem? (i := 212) rfl), List.forall_mem_cons.mpr ⟨lw_t2 (List.mem_of_getElem? (i := 213) rfl), List.forall_mem_cons.mpr ⟨lw_t2 (List.mem_of_getElem? (i := 214) rfl), List.forall_mem_cons.mpr ⟨lw_t2 (List.mem_of_getElem? (i := 215) rfl), List.forall_mem_cons.mpr ⟨lw_t2 (List.mem_of_getElem? (i := 216) rfl), List.forall_mem_cons.mpr ⟨lw_t2 (List.mem_of_getElem? (i := 217) rfl), List.forall_mem_cons.mpr ⟨lw_t2 (List.mem_of_getElem? (i := 218) rfl), List.forall_mem_cons.mpr ⟨lw_t2 (List.mem_of_getElem? (i := 219) rfl), List.forall_mem_cons.mpr ⟨lw_t2 (List.mem_of_getElem? (i := 220) rfl), List.forall_mem_cons.mpr ⟨lw_t2 (List.mem_of_getElem? (i := 222) rfl), List.forall_mem_cons.mpr ⟨List.mem_append_left _ (List.mem_of_getElem? (i := 8) rfl), List.forall_mem_cons.mpr ⟨lw_t2 (List.mem_of_getElem? (i := 223) rfl), List.forall_mem_cons.mpr ⟨lw_t2 (List.mem_of_getElem? (i := 224) rfl), List.forall_mem_cons.mpr ⟨lw_t2 (List.mem_of_getElem? (i := 226) rfl), List.forall_mem_cons.mpr ⟨List.mem_append_left _ (List.mem_of_getElem? (i := 9) rfl), List.forall_mem_cons.mpr ⟨lw_t2 (List.mem_of_getElem? (i := 227) rfl), List.forall_mem_cons.mpr ⟨lw_t2 (List.mem_of_getElem? (i := 228) rfl), List.forall_mem_cons.mpr ⟨lw_t2 (List.mem_of_getElem? (i := 229) rfl), List.forall_mem_cons.mpr ⟨lw_t2 (List.mem_of_getElem? (i := 231) rfl), fun _ h => absurd h List.not_mem_nil⟩⟩⟩⟩⟩⟩⟩⟩⟩⟩⟩⟩⟩⟩⟩⟩⟩⟩⟩⟩⟩⟩⟩⟩
theorem wl_22 : ∀ w ∈ wsL_law_r22, w ∈ lw_tbl := List.forall_mem_cons.mpr ⟨List.mem_append_left _ (List.mem_of_getElem? (i := 10) rfl), List.forall_mem_cons.mpr ⟨lw_t2 (List.mem_of_getElem? (i := 232) rfl), List.forall_mem_cons.mpr ⟨lw_t2 (List.mem_of_getElem? (i := 233) rfl), List.forall_mem_cons.mpr ⟨lw_t2 (List.mem_of_getElem? (i := 235) rfl), List.forall_mem_cons.mpr ⟨List.mem_append_left _ (List.mem_of_getElem? (i := 11) rfl), List.forall_mem_cons.mpr ⟨lw_t2 (List.mem_of_getElem? (i := 236) rfl), List.forall_mem_cons.mpr ⟨lw_t1 (List.mem_of_getElem? (i := 66) rfl), List.forall_mem_cons.mpr ⟨lw_t1 (List.mem_of_getElem? (i := 171) rfl), List.forall_mem_cons.mpr ⟨lw_t2 (List.mem_of_getElem? (i := 237) rfl), List.forall_mem_cons.mpr ⟨lw_t2 (List.mem_of_getElem? (i := 238) rfl), List.forall_mem_cons.mpr ⟨lw_t3 (List.mem_of_getElem? (i := 0) rfl), List.forall_mem_cons.mpr ⟨List.mem_append_left _ (List.mem_of_getElem? (i := 12) rfl), List.forall_mem_cons.mpr ⟨lw_t3 (List.mem_of_getElem? (i := 1) rfl), List.forall_mem_cons.mpr ⟨lw_t3 (List.mem_of_getElem? (i := 2) rfl), List.forall_mem_cons.mpr ⟨lw_t3 (List.mem_of_getElem? (i := 3) rfl), List.forall_mem_cons.mpr ⟨lw_t3 (List.mem_of_getElem? (i := 4) rfl), List.forall_mem_cons.mpr ⟨lw_t3 (List.mem_of_getElem? (i := 5) rfl), List.forall_mem_cons.mpr ⟨lw_t3 (List.mem_of_getElem? (i := 6) rfl), List.forall_mem_cons.mpr ⟨lw_t3 (List.mem_of_getElem? (i := 7) rfl), List.forall_mem_cons.mpr ⟨lw_t3 (List.mem_of_getElem? (i := 8) rfl), List.forall_mem_cons.mpr ⟨lw_t3 (List.mem_of_getElem? (i := 9) rfl), List.forall_mem_cons.mpr ⟨lw_t3 (List.mem_of_getElem? (i := 10) rfl), List.forall_mem_cons.mpr ⟨lw_t4 (List.mem_of_getElem? (i := 116) rfl), List.forall_mem_cons.mpr ⟨lw_t4 (List.mem_of_getElem? (i := 117) rfl), fun _ h => absurd h List.not_mem_nil⟩⟩⟩⟩⟩⟩⟩⟩⟩⟩⟩⟩⟩⟩⟩⟩⟩⟩⟩⟩⟩⟩⟩⟩
theorem wl_23 : ∀ w ∈ wsL_law_r23, w ∈ lw_tbl := List.forall_mem_cons.mpr ⟨lw_t4 (List.mem_of_getElem? (i := 118) rfl), List.forall_mem_cons.mpr ⟨lw_t4 (List.mem_of_getElem? (i := 119) rfl), List.forall_mem_cons.mpr ⟨lw_t3 (List.mem_of_getElem? (i := 129) rfl), List.forall_mem_cons.mpr ⟨lw_t3 (List.mem_of_getElem? (i := 130) rfl), List.forall_mem_cons.mpr ⟨lw_t4 (List.mem_of_getElem? (i := 76) rfl), List.forall_mem_cons.mpr ⟨lw_t4 (List.mem_of_getElem? (i := 78) rfl), List.forall_mem_cons.mpr ⟨List.mem_append_left _ (List.mem_of_getElem? (i := 34) rfl), List.forall_mem_cons.mpr ⟨lw_t4 (List.mem_of_getElem? (i := 79) rfl), List.forall_mem_cons.mpr ⟨lw_t4 (List.mem_of_getElem? (i := 80) rfl), List.forall_mem_cons.mpr ⟨lw_t4 (List.mem_of_getElem? (i := 82) rfl), List.forall_mem_cons.mpr ⟨List.mem_append_left _ (List.mem_of_getElem? (i := 35) rfl), List.forall_mem_cons.mpr ⟨lw_t4 (List.mem_of_getElem? (i := 83) rfl), List.forall_mem_cons.mpr ⟨lw_t4 (List.mem_of_getElem? (i := 84) rfl), List.forall_mem_cons.mpr ⟨lw_t4 (List.mem_of_getElem? (i := 86) rfl), List.forall_mem_cons.mpr ⟨List.mem_append_left _ (List.mem_of_getElem? (i := 36) rfl), List.forall_mem_cons.mpr ⟨lw_t4 (List.mem_of_getElem? (i := 87) rfl), List.forall_mem_cons.mpr ⟨lw_t4 (List.mem_of_getElem? (i := 88) rfl), List.forall_mem_cons.mpr ⟨lw_t4 (List.mem_of_getElem? (i := 90) rfl), List.forall_mem_cons.mpr ⟨List.mem_append_left _ (List.mem_of_getElem? (i := 37) rfl), List.forall_mem_cons.mpr ⟨lw_t4 (List.mem_of_getElem? (i := 91) rfl), List.forall_mem_cons.mpr ⟨lw_t4 (List.mem_of_getElem? (i := 92) rfl), List.forall_mem_cons.mpr ⟨lw_t4 (List.mem_of_getElem? (i := 94) rfl), List.forall_mem_cons.mpr ⟨List.mem_append_left _ (List.mem_of_getElem? (i := 38) rfl), List.forall_mem_cons.mpr ⟨lw_t4 (List.mem_of_getElem? (i := 95) rfl), fun _ h => absurd h List.not_mem_nil⟩⟩⟩⟩⟩⟩⟩⟩⟩⟩⟩⟩⟩⟩⟩⟩⟩⟩⟩⟩⟩⟩⟩⟩
theorem wl_24 : ∀ w ∈ wsL_law_r24, w ∈ lw_tbl := List.forall_mem_cons.mpr ⟨lw_t4 (List.mem_of_getElem? (i := 96) rfl), List.forall_mem_cons.mpr ⟨lw_t4 (List.mem_of_getElem? (i := 98) rfl), List.forall_mem_cons.mpr ⟨List.mem_append_left _ (List.mem_of_getElem? (i := 39) rfl), List.forall_mem_cons.mpr ⟨lw_t4 (List.mem_of_getElem? (i := 99) rfl), List.forall_mem_cons.mpr ⟨lw_t4 (List.mem_of_getElem? (i := 100) rfl), List.forall_mem_cons.mpr ⟨lw_t4 (List.mem_of_getElem? (i := 102) rfl), List.forall_mem_cons.mpr ⟨List.mem_append_left _ (List.mem_of_getElem? (i := 40) rfl), List.forall_mem_cons.mpr ⟨lw_t4 (List.mem_of_getElem? (i := 103) rfl), List.forall_mem_cons.mpr ⟨lw_t4 (List.mem_of_getElem? (i := 104) rfl), List.forall_mem_cons.mpr ⟨lw_t4 (List.mem_of_getElem? (i := 106) rfl), List.forall_mem_cons.mpr ⟨List.mem_append_left _ (List.mem_of_getElem? (i := 41) rfl), List.forall_mem_cons.mpr ⟨lw_t4 (List.mem_of_getElem? (i := 107) rfl), List.forall_mem_cons.mpr ⟨lw_t4 (List.mem_of_getElem? (i := 108) rfl), List.forall_mem_cons.mpr ⟨lw_t4 (List.mem_of_getElem? (i := 110) rfl), List.forall_mem_cons.mpr ⟨List.mem_append_left _ (List.mem_of_getElem? (i := 42) rfl), List.forall_mem_cons.mpr ⟨lw_t4 (List.mem_of_getElem? (i := 111) rfl), List.forall_mem_cons.mpr ⟨lw_t4 (List.mem_of_getElem? (i := 112) rfl), List.forall_mem_cons.mpr ⟨lw_t4 (List.mem_of_getElem? (i := 114) rfl), List.forall_mem_cons.mpr ⟨List.mem_append_left _ (List.mem_of_getElem? (i := 43) rfl), List.forall_mem_cons.mpr ⟨lw_t4 (List.mem_of_getElem? (i := 115) rfl), List.forall_mem_cons.mpr ⟨lw_t3 (List.mem_of_getElem? (i := 11) rfl), List.forall_mem_cons.mpr ⟨lw_t3 (List.mem_of_getElem? (i := 12) rfl), List.forall_mem_cons.mpr ⟨lw_t3 (List.mem_of_getElem? (i := 13) rfl), List.forall_mem_cons.mpr ⟨lw_t3 (List.mem_of_getElem? (i := 14) rfl), fun _ h => absurd h List.not_mem_nil⟩⟩⟩⟩⟩⟩⟩⟩⟩⟩⟩⟩⟩⟩⟩⟩⟩⟩⟩⟩⟩⟩⟩⟩
theorem wl_25 : ∀ w ∈ wsL_law_r25, w ∈ lw_tbl := List.forall_mem_cons.mpr ⟨lw_t1 (List.mem_of_getElem? (i := 117) rfl), List.forall_mem_cons.mpr ⟨lw_t3 (List.mem_of_getElem? (i := 15) rfl), List.forall_mem_cons.mpr ⟨lw_t3 (List.mem_of_getElem? (i := 16) rfl), List.forall_mem_cons.mpr ⟨lw_t3 (List.mem_of_getElem? (i := 17) rfl), List.forall_mem_cons.mpr ⟨lw_t3 (List.mem_of_getElem? (i := 18) rfl), List.forall_mem_cons.mpr ⟨lw_t4 (List.mem_of_getElem? (i := 135) rfl), List.forall_mem_cons.mpr ⟨lw_t4 (List.mem_of_getElem? (i := 136) rfl), List.forall_mem_cons.mpr ⟨lw_t4 (List.mem_of_getElem? (i := 137) rfl), List.forall_mem_cons.mpr ⟨lw_t4 (List.mem_of_getElem? (i := 138) rfl), List.forall_mem_cons.mpr ⟨lw_t3 (List.mem_of_getElem? (i := 19) rfl), List.forall_mem_cons.mpr ⟨lw_t3 (List.mem_of_getElem? (i := 20) rfl), List.forall_mem_cons.mpr ⟨lw_t3 (List.mem_of_getElem? (i := 21) rfl), List.forall_mem_cons.mpr ⟨lw_t3 (List.mem_of_getElem? (i := 22) rfl), List.forall_mem_cons.mpr ⟨lw_t1 (List.mem_of_getElem? (i := 133) rfl), List.forall_mem_cons.mpr ⟨lw_t3 (List.mem_of_getElem? (i := 23) rfl), List.forall_mem_cons.mpr ⟨lw_t3 (List.mem_of_getElem? (i := 24) rfl), List.forall_mem_cons.mpr ⟨lw_t3 (List.mem_of_getElem? (i := 25) rfl), List.forall_mem_cons.mpr ⟨lw_t3 (List.mem_of_getElem? (i := 26) rfl), List.forall_mem_cons.mpr ⟨lw_t4 (List.mem_of_getElem? (i := 60) rfl), List.forall_mem_cons.mpr ⟨lw_t4 (List.mem_of_getElem? (i := 61) rfl), List.forall_mem_cons.mpr ⟨lw_t4 (List.mem_of_getElem? (i := 62) rfl), List.forall_mem_cons.mpr ⟨lw_t4 (List.mem_of_getElem? (i := 63) rfl), List.forall_mem_cons.mpr ⟨lw_t3 (List.mem_of_getElem? (i := 27) rfl), List.forall_mem_cons.mpr ⟨lw_t3 (List.mem_of_getElem? (i := 28) rfl), fun _ h => absurd h List.not_mem_nil⟩⟩⟩⟩⟩⟩⟩⟩⟩⟩⟩⟩⟩⟩⟩⟩⟩⟩⟩⟩⟩⟩⟩⟩
theorem wl_26 : ∀ w ∈ wsL_law_r26, w ∈ lw_tbl := List.forall_mem_cons.mpr ⟨lw_t3 (List.mem_of_getElem? (i := 29) rfl), List.forall_mem_cons.mpr ⟨lw_t3 (List.mem_of_getElem? (i := 30) rfl), List.forall_mem_cons.mpr ⟨lw_t4 (List.mem_of_getElem? (i := 64) rfl), List.forall_mem_cons.mpr ⟨lw_t4 (List.mem_of_getElem? (i := 65) rfl), List.forall_mem_cons.mpr ⟨lw_t4 (List.mem_of_getElem? (i := 66) rfl), List.forall_mem_cons.mpr ⟨lw_t4 (List.mem_of_getElem? (i := 67) rfl), List.forall_mem_cons.mpr ⟨lw_t3 (List.mem_of_getElem? (i := 31) rfl), List.forall_mem_cons.mpr ⟨lw_t3 (List.mem_of_getElem? (i := 32) rfl), List.forall_mem_cons.mpr ⟨lw_t3 (List.mem_of_getElem? (i := 33) rfl), List.forall_mem_cons.mpr ⟨lw_t3 (List.mem_of_getElem? (i := 34) rfl), List.forall_mem_cons.mpr ⟨lw_t1 (List.mem_of_getElem? (i := 140) rfl), List.forall_mem_cons.mpr ⟨lw_t1 (List.mem_of_getElem? (i := 142) rfl), List.forall_mem_cons.mpr ⟨lw_t4 (List.mem_of_getElem? (i := 68) rfl), List.forall_mem_cons.mpr ⟨lw_t4 (List.mem_of_getElem? (i := 69) rfl), List.forall_mem_cons.mpr ⟨lw_t4 (List.mem_of_getElem? (i := 70) rfl), List.forall_mem_cons.mpr ⟨lw_t4 (List.mem_of_getElem? (i := 71) rfl), List.forall_mem_cons.mpr ⟨lw_t3 (List.mem_of_getElem? (i := 35) rfl), List.forall_mem_cons.mpr ⟨lw_t3 (List.mem_of_getElem? (i := 36) rfl), List.forall_mem_cons.mpr ⟨lw_t3 (List.mem_of_getElem? (i := 37) rfl), List.forall_mem_cons.mpr ⟨lw_t3 (List.mem_of_getElem? (i := 38) rfl), List.forall_mem_cons.mpr ⟨lw_t1 (List.mem_of_getElem? (i := 46) rfl), List.forall_mem_cons.mpr ⟨lw_t1 (List.mem_of_getElem? (i := 52) rfl), List.forall_mem_cons.mpr ⟨lw_t1 (List.mem_of_getElem? (i := 54) rfl), List.forall_mem_cons.mpr ⟨lw_t1 (List.mem_of_getElem? (i := 56) rfl), fun _ h => absurd h List.not_mem_nil⟩⟩⟩⟩⟩⟩⟩⟩⟩⟩⟩⟩⟩⟩⟩⟩⟩⟩⟩⟩⟩⟩⟩⟩
theorem wl_27 : ∀ w ∈ wsL_law_r27, w ∈ lw_tbl := List.forall_mem_cons.mpr ⟨lw_t1 (List.mem_of_getElem? (i := 58) rfl), List.forall_mem_cons.mpr ⟨lw_t1 (List.mem_of_getElem? (i := 60) rfl), List.forall_mem_cons.mpr ⟨lw_t3 (List.mem_of_getElem? (i := 39) rfl), List.forall_mem_cons.mpr ⟨lw_t3 (List.mem_of_getElem? (i := 40) rfl), List.forall_mem_cons.mpr ⟨lw_t3 (List.mem_of_getElem? (i := 41) rfl), List.forall_mem_cons.mpr ⟨lw_t3 (List.mem_of_getElem? (i := 42) rfl), List.forall_mem_cons.mpr ⟨lw_t3 (List.mem_of_getElem? (i := 43) rfl), List.forall_mem_cons.mpr ⟨lw_t4 (List.mem_of_getElem? (i := 139) rfl), List.forall_mem_cons.mpr ⟨lw_t4 (List.mem_of_getElem? (i := 140) rfl), List.forall_mem_cons.mpr ⟨lw_t4 (List.mem_of_getElem? (i := 141) rfl), List.forall_mem_cons.mpr ⟨lw_t4 (List.mem_of_getElem? (i := 142) rfl), List.forall_mem_cons.mpr ⟨lw_t4 (List.mem_of_getElem? (i := 143) rfl), List.forall_mem_cons.mpr ⟨lw_t4 (List.mem_of_getElem? (i := 145) rfl), List.forall_mem_cons.mpr ⟨List.mem_append_left _ (List.mem_of_getElem? (i := 45) rfl), List.forall_mem_cons.mpr ⟨lw_t4 (List.mem_of_getElem? (i := 146) rfl), List.forall_mem_cons.mpr ⟨lw_t3 (List.mem_of_getElem? (i := 44) rfl), List.forall_mem_cons.mpr ⟨lw_t3 (List.mem_of_getElem? (i := 45) rfl), List.forall_mem_cons.mpr ⟨lw_t3 (List.mem_of_getElem? (i := 46) rfl), List.forall_mem_cons.mpr ⟨lw_t3 (List.mem_of_getElem? (i := 47) rfl), List.forall_mem_cons.mpr ⟨lw_t4 (List.mem_of_getElem? (i := 147) rfl), List.forall_mem_cons.mpr ⟨lw_t4 (List.mem_of_getElem? (i := 148) rfl), List.forall_mem_cons.mpr ⟨lw_t4 (List.mem_of_getElem? (i := 149) rfl), List.forall_mem_cons.mpr ⟨lw_t4 (List.mem_of_getElem? (i := 150) rfl), List.forall_mem_cons.mpr ⟨lw_t3 (List.mem_of_getElem? (i := 48) rfl), fun _ h => absurd h List.not_mem_nil⟩⟩⟩⟩⟩⟩⟩⟩⟩⟩⟩⟩⟩⟩⟩⟩⟩⟩⟩⟩⟩⟩⟩⟩
theorem wl_28 : ∀ w ∈ wsL_law_r28, w ∈ lw_tbl := List.forall_mem_cons.mpr ⟨lw_t3 (List.mem_of_getElem? (i := 49) rfl), List.forall_mem_cons.mpr ⟨lw_t3 (List.mem_of_getElem? (i := 50) rfl), List.forall_mem_cons.mpr ⟨lw_t3 (List.mem_of_getElem? (i := 51) rfl), List.forall_mem_cons.mpr ⟨lw_t3 (List.mem_of_getElem? (i := 52) rfl), List.forall_mem_cons.mpr ⟨lw_t3 (List.mem_of_getElem? (i := 53) rfl), List.forall_mem_cons.mpr ⟨lw_t3 (List.mem_of_getElem? (i := 54) rfl), List.forall_mem_cons.mpr ⟨lw_t3 (List.mem_of_getElem? (i := 55) rfl), List.forall_mem_cons.mpr ⟨lw_t3 (List.mem_of_getElem? (i := 56) rfl), List.forall_mem_cons.mpr ⟨lw_t3 (List.mem_of_getElem? (i := 57) rfl), List.forall_mem_cons.mpr ⟨lw_t4 (List.mem_of_getElem? (i := 151) rfl), List.forall_mem_cons.mpr ⟨lw_t4 (List.mem_of_getElem? (i := 152) rfl), List.forall_mem_cons.mpr ⟨lw_t4 (List.mem_of_getElem? (i := 153) rfl), List.forall_mem_cons.mpr ⟨lw_t4 (List.mem_of_getElem? (i := 154) rfl), List.forall_mem_cons.mpr ⟨lw_t3 (List.mem_of_getElem? (i := 58) rfl), List.forall_mem_cons.mpr ⟨lw_t3 (List.mem_of_getElem? (i := 59) rfl), List.forall_mem_cons.mpr ⟨lw_t3 (List.mem_of_getElem? (i := 60) rfl), List.forall_mem_cons.mpr ⟨lw_t3 (List.mem_of_getElem? (i := 61) rfl), List.forall_mem_cons.mpr ⟨lw_t3 (List.mem_of_getElem? (i := 62) rfl), List.forall_mem_cons.mpr ⟨lw_t3 (List.mem_of_getElem? (i := 63) rfl), List.forall_mem_cons.mpr ⟨lw_t3 (List.mem_of_getElem? (i := 64) rfl), List.forall_mem_cons.mpr ⟨lw_t3 (List.mem_of_getElem? (i := 65) rfl), List.forall_mem_cons.mpr ⟨lw_t3 (List.mem_of_getElem? (i := 66) rfl), List.forall_mem_cons.mpr ⟨lw_t3 (List.mem_of_getElem? (i := 67) rfl), List.forall_mem_cons.mpr ⟨lw_t4 (List.mem_of_getElem? (i := 155) rfl), fun _ h => absurd h List.not_mem_nil⟩⟩⟩⟩⟩⟩⟩⟩⟩⟩⟩⟩⟩⟩⟩⟩⟩⟩⟩⟩⟩⟩⟩⟩
theorem wl_29 : ∀ w ∈ wsL_law_r29, w ∈ lw_tbl := List.forall_mem_cons.mpr ⟨lw_t4 (List.mem_of_getElem? (i := 156) rfl), List.forall_mem_cons.mpr ⟨lw_t4 (List.mem_of_getElem? (i := 157) rfl), List.forall_mem_cons.mpr ⟨lw_t4 (List.mem_of_getElem? (i := 158) rfl), List.forall_mem_cons.mpr ⟨lw_t3 (List.mem_of_getElem? (i := 68) rfl), List.forall_mem_cons.mpr ⟨lw_t3 (List.mem_of_getElem? (i := 69) rfl), List.forall_mem_cons.mpr ⟨lw_t3 (List.mem_of_getElem? (i := 70) rfl), List.forall_mem_cons.mpr ⟨lw_t3 (List.mem_of_getElem? (i := 71) rfl), List.forall_mem_cons.mpr ⟨lw_t1 (List.mem_of_getElem? (i := 68) rfl), List.forall_mem_cons.mpr ⟨lw_t4 (List.mem_of_getElem? (i := 159) rfl), List.forall_mem_cons.mpr ⟨lw_t4 (List.mem_of_getElem? (i := 160) rfl), List.forall_mem_cons.mpr ⟨lw_t4 (List.mem_of_getElem? (i := 161) rfl), List.forall_mem_cons.mpr ⟨lw_t4 (List.mem_of_getElem? (i := 162) rfl), List.forall_mem_cons.mpr ⟨lw_t3 (List.mem_of_getElem? (i := 72) rfl), List.forall_mem_cons.mpr ⟨lw_t3 (List.mem_of_getElem? (i := 73) rfl), List.forall_mem_cons.mpr ⟨lw_t3 (List.mem_of_getElem? (i := 74) rfl), List.forall_mem_cons.mpr ⟨lw_t3 (List.mem_of_getElem? (i := 75) rfl), List.forall_mem_cons.mpr ⟨lw_t3 (List.mem_of_getElem? (i := 76) rfl), List.forall_mem_cons.mpr ⟨lw_t3 (List.mem_of_getElem? (i := 77) rfl), List.forall_mem_cons.mpr ⟨lw_t3 (List.mem_of_getElem? (i := 78) rfl), List.forall_mem_cons.mpr ⟨lw_t3 (List.mem_of_getElem? (i := 79) rfl), List.forall_mem_cons.mpr ⟨lw_t4 (List.mem_of_getElem? (i := 163) rfl), List.forall_mem_cons.mpr ⟨lw_t4 (List.mem_of_getElem? (i := 164) rfl), List.forall_mem_cons.mpr ⟨lw_t4 (List.mem_of_getElem? (i := 165) rfl), List.forall_mem_cons.mpr ⟨lw_t4 (List.mem_of_getElem? (i := 166) rfl), fun _ h => absurd h List.not_mem_nil⟩⟩⟩⟩⟩⟩⟩⟩⟩⟩⟩⟩⟩⟩⟩⟩⟩⟩⟩⟩⟩⟩⟩⟩
theorem wl_30 : ∀ w ∈ wsL_law_r30, w ∈ lw_tbl := List.forall_mem_cons.mpr ⟨lw_t3 (List.mem_of_getElem? (i := 81) rfl), List.forall_mem_cons.mpr ⟨lw_t3 (List.mem_of_getElem? (i := 82) rfl), List.forall_mem_cons.mpr ⟨lw_t3 (List.mem_of_getElem? (i := 83) rfl), List.forall_mem_cons.mpr ⟨lw_t3 (List.mem_of_getElem? (i := 84) rfl), List.forall_mem_cons.mpr ⟨lw_t4 (List.mem_of_getElem? (i := 167) rfl), List.forall_mem_cons.mpr ⟨lw_t4 (List.mem_of_getElem? (i := 168) rfl), List.forall_mem_cons.mpr ⟨lw_t4 (List.mem_of_getElem? (i := 169) rfl), List.forall_mem_cons.mpr ⟨lw_t4 (List.mem_of_getElem? (i := 170) rfl), List.forall_mem_cons.mpr ⟨lw_t3 (List.mem_of_getElem? (i := 85) rfl), List.forall_mem_cons.mpr ⟨lw_t3 (List.mem_of_getElem? (i := 86) rfl), List.forall_mem_cons.mpr ⟨lw_t3 (List.mem_of_getElem? (i := 87) rfl), List.forall_mem_cons.mpr ⟨lw_t3 (List.mem_of_getElem? (i := 88) rfl), List.forall_mem_cons.mpr ⟨lw_t3 (List.mem_of_getElem? (i := 181) rfl), List.forall_mem_cons.mpr ⟨lw_t3 (List.mem_of_getElem? (i := 89) rfl), List.forall_mem_cons.mpr ⟨lw_t3 (List.mem_of_getElem? (i := 90) rfl), List.forall_mem_cons.mpr ⟨lw_t3 (List.mem_of_getElem? (i := 91) rfl), List.forall_mem_cons.mpr ⟨lw_t3 (List.mem_of_getElem? (i := 92) rfl), List.forall_mem_cons.mpr ⟨lw_t1 (List.mem_of_getElem? (i := 172) rfl), List.forall_mem_cons.mpr ⟨lw_t4 (List.mem_of_getElem? (i := 72) rfl), List.forall_mem_cons.mpr ⟨lw_t4 (List.mem_of_getElem? (i := 73) rfl), List.forall_mem_cons.mpr ⟨lw_t4 (List.mem_of_getElem? (i := 74) rfl), List.forall_mem_cons.mpr ⟨lw_t4 (List.mem_of_getElem? (i := 75) rfl), List.forall_mem_cons.mpr ⟨lw_t3 (List.mem_of_getElem? (i := 93) rfl), List.forall_mem_cons.mpr ⟨lw_t3 (List.mem_of_getElem? (i := 94) rfl), fun _ h => absurd h List.not_mem_nil⟩⟩⟩⟩⟩⟩⟩⟩⟩⟩⟩⟩⟩⟩⟩⟩⟩⟩⟩⟩⟩⟩⟩⟩
theorem wl_31 : ∀ w ∈ wsL_law_r31, w ∈ lw_tbl := List.forall_mem_cons.mpr ⟨lw_t3 (List.mem_of_getElem? (i := 95) rfl), List.forall_mem_cons.mpr ⟨lw_t3 (List.mem_of_getElem? (i := 96) rfl), List.forall_mem_cons.mpr ⟨lw_t3 (List.mem_of_getElem? (i := 97) rfl), List.forall_mem_cons.mpr ⟨lw_t4 (List.mem_of_getElem? (i := 171) rfl), List.forall_mem_cons.mpr ⟨lw_t4 (List.mem_of_getElem? (i := 172) rfl), List.forall_mem_cons.mpr ⟨lw_t4 (List.mem_of_getElem? (i := 173) rfl), List.forall_mem_cons.mpr ⟨lw_t4 (List.mem_of_getElem? (i := 174) rfl), List.forall_mem_cons.mpr ⟨lw_t3 (List.mem_of_getElem? (i := 112) rfl), List.forall_mem_cons.mpr ⟨lw_t4 (List.mem_of_getElem? (i := 175) rfl), List.forall_mem_cons.mpr ⟨lw_t4 (List.mem_of_getElem? (i := 176) rfl), List.forall_mem_cons.mpr ⟨lw_t4 (List.mem_of_getElem? (i := 177) rfl), List.forall_mem_cons.mpr ⟨lw_t3 (List.mem_of_getElem? (i := 98) rfl), List.forall_mem_cons.mpr ⟨lw_t3 (List.mem_of_getElem? (i := 99) rfl), List.forall_mem_cons.mpr ⟨lw_t3 (List.mem_of_getElem? (i := 100) rfl), List.forall_mem_cons.mpr ⟨lw_t3 (List.mem_of_getElem? (i := 101) rfl), List.forall_mem_cons.mpr ⟨lw_t4 (List.mem_of_getElem? (i := 178) rfl), List.forall_mem_cons.mpr ⟨lw_t4 (List.mem_of_getElem? (i := 179) rfl), List.forall_mem_cons.mpr ⟨lw_t4 (List.mem_of_getElem? (i := 180) rfl), List.forall_mem_cons.mpr ⟨lw_t4 (List.mem_of_getElem? (i := 181) rfl), fun _ h => absurd h List.not_mem_nil⟩⟩⟩⟩⟩⟩⟩⟩⟩⟩⟩⟩⟩⟩⟩⟩⟩⟩⟩
theorem wlX0 : ∀ w ∈ wsX00, w ∈ lw_tbl := by
  show ∀ w ∈ ([u_lay RX0 TX0 0, u_lay RX0 TX0 1, u_lay RX0 TX0 2] : List Cond), w ∈ lw_tbl
  exact List.forall_mem_cons.mpr ⟨lw_t1 (List.mem_of_getElem? (i := 36) rfl), List.forall_mem_cons.mpr ⟨lw_t1 (List.mem_of_getElem? (i := 38) rfl), List.forall_mem_cons.mpr ⟨lw_t1 (List.mem_of_getElem? (i := 40) rfl), fun _ h => absurd h List.not_mem_nil⟩⟩⟩
theorem wlX1 : ∀ w ∈ wsX10, w ∈ lw_tbl := by
  show ∀ w ∈ ([u_lay RX1 TX1 0, u_lay RX1 TX1 1, u_lay RX1 TX1 2] : List Cond), w ∈ lw_tbl
  exact List.forall_mem_cons.mpr ⟨lw_t1 (List.mem_of_getElem? (i := 118) rfl), List.forall_mem_cons.mpr ⟨lw_t1 (List.mem_of_getElem? (i := 120) rfl), List.forall_mem_cons.mpr ⟨lw_t1 (List.mem_of_getElem? (i := 122) rfl), fun _ h => absurd h List.not_mem_nil⟩⟩⟩
theorem wlX2 : ∀ w ∈ wsX20, w ∈ lw_tbl := by
  show ∀ w ∈ ([u_lay RX2 TX2 0, u_lay RX2 TX2 1, u_lay RX2 TX2 2, u_lay RX2 TX2 3, u_lay RX2 TX2 4] : List Cond), w ∈ lw_tbl
  exact List.forall_mem_cons.mpr ⟨lw_t1 (List.mem_of_getElem? (i := 179) rfl), List.forall_mem_cons.mpr ⟨lw_t1 (List.mem_of_getElem? (i := 181) rfl), List.forall_mem_cons.mpr ⟨lw_t1 (List.mem_of_getElem? (i := 183) rfl), List.forall_mem_cons.mpr ⟨lw_t1 (List.mem_of_getElem? (i := 185) rfl), List.forall_mem_cons.mpr ⟨lw_t1 (List.mem_of_getElem? (i := 187) rfl), fun _ h => absurd h List.not_mem_nil⟩⟩⟩⟩⟩
theorem wlX3 : ∀ w ∈ wsX30, w ∈ lw_tbl := by
  show ∀ w ∈ ([u_lay RX3 TX3 0, u_lay RX3 TX3 1, u_lay RX3 TX3 2, u_lay RX3 TX3 3, u_lay RX3 TX3 4, u_lay RX3 TX3 5, u_lay RX3 TX3 6] : List Cond), w ∈ lw_tbl
  exact List.forall_mem_cons.mpr ⟨lw_t1 (List.mem_of_getElem? (i := 200) rfl), List.forall_mem_cons.mpr ⟨lw_t1 (List.mem_of_getElem? (i := 202) rfl), List.forall_mem_cons.mpr ⟨lw_t1 (List.mem_of_getElem? (i := 204) rfl), List.forall_mem_cons.mpr ⟨lw_t1 (List.mem_of_getElem? (i := 206) rfl), List.forall_mem_cons.mpr ⟨lw_t1 (List.mem_of_getElem? (i := 208) rfl), List.forall_mem_cons.mpr ⟨lw_t1 (List.mem_of_getElem? (i := 210) rfl), List.forall_mem_cons.mpr ⟨lw_t1 (List.mem_of_getElem? (i := 212) rfl), fun _ h => absurd h List.not_mem_nil⟩⟩⟩⟩⟩⟩⟩
theorem wlX4 : ∀ w ∈ wsX40, w ∈ lw_tbl := by
  show ∀ w ∈ ([u_lay RX4 TX4 0, u_lay RX4 TX4 1, u_lay RX4 TX4 2, u_lay RX4 TX4 3, u_lay RX4 TX4 4, u_lay RX4 TX4 5] : List Cond), w ∈ lw_tbl
  exact List.forall_mem_cons.mpr ⟨lw_t1 (List.mem_of_getElem? (i := 143) rfl), List.forall_mem_cons.mpr ⟨lw_t1 (List.mem_of_getElem? (i := 145) rfl), List.forall_mem_cons.mpr ⟨lw_t1 (List.mem_of_getElem? (i := 147) rfl), List.forall_mem_cons.mpr ⟨lw_t1 (List.mem_of_getElem? (i := 149) rfl), List.forall_mem_cons.mpr ⟨lw_t1 (List.mem_of_getElem? (i := 151) rfl), List.forall_mem_cons.mpr ⟨lw_t1 (List.mem_of_getElem? (i := 153) rfl), fun _ h => absurd h List.not_mem_nil⟩⟩⟩⟩⟩⟩
theorem wlX5 : ∀ w ∈ wsX50, w ∈ lw_tbl := by
  show ∀ w ∈ ([u_lay RX5 TX5 0, u_lay RX5 TX5 1, u_lay RX5 TX5 2, u_lay RX5 TX5 3, u_lay RX5 TX5 4, u_lay RX5 TX5 5, u_lay RX5 TX5 6, u_lay RX5 TX5 7, u_lay RX5 TX5 8, u_lay RX5 TX5 9, u_lay RX5 TX5 10, u_lay RX5 TX5 11, u_lay RX5 TX5 12, u_lay RX5 TX5 13, u_lay RX5 TX5 14] : List Cond), w ∈ lw_tbl
  exact List.forall_mem_cons.mpr ⟨lw_t1 (List.mem_of_getElem? (i := 75) rfl), List.forall_mem_cons.mpr ⟨lw_t1 (List.mem_of_getElem? (i := 77) rfl), List.forall_mem_cons.mpr ⟨lw_t1 (List.mem_of_getElem? (i := 79) rfl), List.forall_mem_cons.mpr ⟨lw_t1 (List.mem_of_getElem? (i := 81) rfl), List.forall_mem_cons.mpr ⟨lw_t1 (List.mem_of_getElem? (i := 83) rfl), List.forall_mem_cons.mpr ⟨lw_t1 (List.mem_of_getElem? (i := 85) rfl), List.forall_mem_cons.mpr ⟨lw_t1 (List.mem_of_getElem? (i := 87) rfl), List.forall_mem_cons.mpr ⟨lw_t1 (List.mem_of_getElem? (i := 89) rfl), List.forall_mem_cons.mpr ⟨lw_t1 (List.mem_of_getElem? (i := 91) rfl), List.forall_mem_cons.mpr ⟨lw_t1 (List.mem_of_getElem? (i := 93) rfl), List.forall_mem_cons.mpr ⟨lw_t1 (List.mem_of_getElem? (i := 95) rfl), List.forall_mem_cons.mpr ⟨lw_t1 (List.mem_of_getElem? (i := 97) rfl), List.forall_mem_cons.mpr ⟨lw_t1 (List.mem_of_getElem? (i := 99) rfl), List.forall_mem_cons.mpr ⟨lw_t1 (List.mem_of_getElem? (i := 101) rfl), List.forall_mem_cons.mpr ⟨lw_t1 (List.mem_of_getElem? (i := 103) rfl), fun _ h => absurd h List.not_mem_nil⟩⟩⟩⟩⟩⟩⟩⟩⟩⟩⟩⟩⟩⟩⟩
theorem wlX6 : ∀ w ∈ wsX60, w ∈ lw_tbl := by
  show ∀ w ∈ ([u_lay RX6 TX6 0, u_lay RX6 TX6 1, u_lay RX6 TX6 2, u_lay RX6 TX6 3, u_lay RX6 TX6 4, u_lay RX6 TX6 5] : List Cond), w ∈ lw_tbl
  exact List.forall_mem_cons.mpr ⟨lw_t1 (List.mem_of_getElem? (i := 221) rfl), List.forall_mem_cons.mpr ⟨lw_t1 (List.mem_of_getElem? (i := 223) rfl), List.forall_mem_cons.mpr ⟨lw_t1 (List.mem_of_getElem? (i := 225) rfl), List.forall_mem_cons.mpr ⟨lw_t1 (List.mem_of_getElem? (i := 227) rfl), List.forall_mem_cons.mpr ⟨lw_t1 (List.mem_of_getElem? (i := 229) rfl), List.forall_mem_cons.mpr ⟨lw_t1 (List.mem_of_getElem? (i := 231) rfl), fun _ h => absurd h List.not_mem_nil⟩⟩⟩⟩⟩⟩
theorem wlX7 : ∀ w ∈ wsX70, w ∈ lw_tbl := by
  show ∀ w ∈ ([u_lay RX7 TX7 0, u_lay RX7 TX7 1, u_lay RX7 TX7 2, u_lay RX7 TX7 3, u_lay RX7 TX7 4, u_lay RX7 TX7 5, u_lay RX7 TX7 6, u_lay RX7 TX7 7, u_lay RX7 TX7 8, u_lay RX7 TX7 9, u_lay RX7 TX7 10, u_lay RX7 TX7 11, u_lay RX7 TX7 12, u_lay RX7 TX7 13, u_lay RX7 TX7 14, u_lay RX7 TX7 15, u_lay RX7 TX7 16, u_lay RX7 TX7 17, u_lay RX7 TX7 18, u_lay RX7 TX7 19, u_lay RX7 TX7 20, u_lay RX7 TX7 21, u_lay RX7 TX7 22, u_lay RX7 TX7 23] : List Cond), w ∈ lw_tbl
  exact List.forall_mem_cons.mpr ⟨lw_t3 (List.mem_of_getElem? (i := 132) rfl), List.forall_mem_cons.mpr ⟨lw_t3 (List.mem_of_getElem? (i := 134) rfl), List.forall_mem_cons.mpr ⟨lw_t3 (List.mem_of_getElem? (i := 136) rfl), List.forall_mem_cons.mpr ⟨lw_t3 (List.mem_of_getElem? (i := 138) rfl), List.forall_mem_cons.mpr ⟨lw_t3 (List.mem_of_getElem? (i := 140) rfl), List.forall_mem_cons.mpr ⟨lw_t3 (List.mem_of_getElem? (i := 142) rfl), List.forall_mem_cons.mpr ⟨lw_t3 (List.mem_of_getElem? (i := 144) rfl), List.forall_mem_cons.mpr ⟨lw_t3 (List.mem_of_getElem? (i := 146) rfl), List.forall_mem_cons.mpr ⟨lw_t3 (List.mem_of_getElem? (i := 148) rfl), List.forall_mem_cons.mpr ⟨lw_t3 (List.mem_of_getElem? (i := 150) rfl), List.forall_mem_cons.mpr ⟨lw_t3 (List.mem_of_getElem? (i := 152) rfl), List.forall_mem_cons.mpr ⟨lw_t3 (List.mem_of_getElem? (i := 154) rfl), List.forall_mem_cons.mpr ⟨lw_t3 (List.mem_of_getElem? (i := 156) rfl), List.forall_mem_cons.mpr ⟨lw_t3 (List.mem_of_getElem? (i := 158) rfl), List.forall_mem_cons.mpr ⟨lw_t3 (List.mem_of_getElem? (i := 160) rfl), List.forall_mem_cons.mpr ⟨lw_t3 (List.mem_of_getElem? (i := 162) rfl), List.forall_mem_cons.mpr ⟨lw_t3 (List.mem_of_getElem? (i := 164) rfl), List.forall_mem_cons.mpr ⟨lw_t3 (List.mem_of_getElem? (i := 166) rfl), List.forall_mem_cons.mpr ⟨lw_t3 (List.mem_of_getElem? (i := 168) rfl), List.forall_mem_cons.mpr ⟨lw_t3 (List.mem_of_getElem? (i := 170) rfl), List.forall_mem_cons.mpr ⟨lw_t3 (List.mem_of_getElem? (i := 172) rfl), List.forall_mem_cons.mpr ⟨lw_t3 (List.mem_of_getElem? (i := 174) rfl), List.forall_mem_cons.mpr ⟨lw_t3 (List.mem_of_getElem? (i := 176) rfl), List.forall_mem_cons.mpr ⟨lw_t3 (List.mem_of_getElem? (i := 178) rfl), fun _ h => absurd h List.not_mem_nil⟩⟩⟩⟩⟩⟩⟩⟩⟩⟩⟩⟩⟩⟩⟩⟩⟩⟩⟩⟩⟩⟩⟩⟩
theorem wsL_law_in : ∀ w ∈ wsL_law, w ∈ lw_tbl := by
  have nil : ∀ w ∈ ([] : List Cond), w ∈ lw_tbl := fun _ h => absurd h List.not_mem_nil
  unfold wsL_law
  simp only [List.forall_mem_append]
  exact ⟨⟨⟨⟨⟨⟨⟨⟨⟨⟨wl_1, ⟨wl_2, ⟨wl_3, ⟨wl_4, ⟨wl_5, ⟨wl_6, ⟨wl_7, ⟨wl_8, ⟨wl_9, ⟨wl_10, ⟨wl_11, ⟨wl_12, ⟨wl_13, ⟨wl_14, ⟨wl_15, ⟨wl_16, ⟨wl_17, ⟨wl_18, ⟨wl_19, ⟨wl_20, ⟨wl_21, ⟨wl_22, ⟨wl_23, ⟨wl_24, ⟨wl_25, ⟨wl_26, ⟨wl_27, ⟨wl_28, ⟨wl_29, ⟨wl_30, wl_31⟩⟩⟩⟩⟩⟩⟩⟩⟩⟩⟩⟩⟩⟩⟩⟩⟩⟩⟩⟩⟩⟩⟩⟩⟩⟩⟩⟩⟩⟩, wlX6⟩, wlX7⟩, wlX5⟩, wlX1⟩, wlX4⟩, wlX3⟩, wlX0⟩, wlX2⟩, nil⟩
theorem mw_in1 {w : Cond} (h : w ∈ wsL_law_r1) : w ∈ wsL_law := List.mem_append_left _ (List.mem_append_left _ (List.mem_append_left _ (List.mem_append_left _ (List.mem_append_left _ (List.mem_append_left _ (List.mem_append_left _ (List.mem_append_left _ (List.mem_append_left _ (List.mem_append_left _ h)))))))))
theorem mw_in2 {w : Cond} (h : w ∈ wsL_law_r2) : w ∈ wsL_law := List.mem_append_left _ (List.mem_append_left _ (List.mem_append_left _ (List.mem_append_left _ (List.mem_append_left _ (List.mem_append_left _ (List.mem_append_left _ (List.mem_append_left _ (List.mem_append_left _ (List.mem_append_right _ (List.mem_append_left _ h))))))))))
theorem mw_in3 {w : Cond} (h : w ∈ wsL_law_r3) : w ∈ wsL_law := List.mem_append_left _ (List.mem_append_left _ (List.mem_append_left _ (List.mem_append_left _ (List.mem_append_left _ (List.mem_append_left _ (List.mem_append_left _ (List.mem_append_left _ (List.mem_append_left _ (List.mem_append_right _ (List.mem_append_right _ (List.mem_append_left _ h)))))))))))
theorem mw_in4 {w : Cond} (h : w ∈ wsL_law_r4) : w ∈ wsL_law := List.mem_append_left _ (List.mem_append_left _ (List.mem_append_left _ (List.mem_append_left _ (List.mem_append_left _ (List.mem_append_left _ (List.mem_append_left _ (List.mem_append_left _ (List.mem_append_left _ (List.mem_append_right _ (List.mem_append_right _ (List.mem_append_right _ (List.mem_append_left _ h))))))))))))
theorem mw_in5 {w : Cond} (h : w ∈ wsL_law_r5) : w ∈ wsL_law := List.mem_append_left _ (List.mem_append_left _ (List.mem_append_left _ (List.mem_append_left _ (List.mem_append_left _ (List.mem_append_left _ (List.mem_append_left _ (List.mem_append_left _ (List.mem_append_left _ (List.mem_append_right _ (List.mem_append_right _ (List.mem_append_right _ (List.mem_append_right _ (List.mem_append_left _ h)))))))))))))
theorem mw_in6 {w : Cond} (h : w ∈ wsL_law_r6) : w ∈ wsL_law := List.mem_append_left _ (List.mem_append_left _ (List.mem_append_left _ (List.mem_append_left _ (List.mem_append_left _ (List.mem_append_left _ (List.mem_append_left _ (List.mem_append_left _ (List.mem_append_left _ (List.mem_append_right _ (List.mem_append_right _ (List.mem_append_right _ (List.mem_append_right _ (List.mem_append_right _ (List.mem_append_left _ h))))))))))))))
theorem mw_in7 {w : Cond} (h : w ∈ wsL_law_r7) : w ∈ wsL_law := List.mem_append_left _ (List.mem_append_left _ (List.mem_append_left _ (List.mem_append_left _ (List.mem_append_left _ (List.mem_append_left _ (List.mem_append_left _ (List.mem_append_left _ (List.mem_append_left _ (List.mem_append_right _ (List.mem_append_right _ (List.mem_append_right _ (List.mem_append_right _ (List.mem_append_right _ (List.mem_append_right _ (List.mem_append_left _ h)))))))))))))))
theorem mw_in8 {w : Cond} (h : w ∈ wsL_law_r8) : w ∈ wsL_law := List.mem_append_left _ (List.mem_append_left _ (List.mem_append_left _ (List.mem_append_left _ (List.mem_append_left _ (List.mem_append_left _ (List.mem_append_left _ (List.mem_append_left _ (List.mem_append_left _ (List.mem_append_right _ (List.mem_append_right _ (List.mem_append_right _ (List.mem_append_right _ (List.mem_append_right _ (List.mem_append_right _ (List.mem_append_right _ (List.mem_append_left _ h))))))))))))))))
theorem mw_in9 {w : Cond} (h : w ∈ wsL_law_r9) : w ∈ wsL_law := List.mem_append_left _ (List.mem_append_left _ (List.mem_append_left _ (List.mem_append_left _ (List.mem_append_left _ (List.mem_append_left _ (List.mem_append_left _ (List.mem_append_left _ (List.mem_append_left _ (List.mem_append_right _ (List.mem_append_right _ (List.mem_append_right _ (List.mem_append_right _ (List.mem_append_right _ (List.mem_append_right _ (List.mem_append_right _ (List.mem_append_right _ (List.mem_append_left _ h)))))))))))))))))
theorem mw_in10 {w : Cond} (h : w ∈ wsL_law_r10) : w ∈ wsL_law := List.mem_append_left _ (List.mem_append_left _ (List.mem_append_left _ (List.mem_append_left _ (List.mem_append_left _ (List.mem_append_left _ (List.mem_append_left _ (List.mem_append_left _ (List.mem_append_left _ (List.mem_append_right _ (List.mem_append_right _ (List.mem_append_right _ (List.mem_append_right _ (List.mem_append_right _ (List.mem_append_right _ (List.mem_append_right _ (List.mem_append_right _ (List.mem_append_right _ (List.mem_append_left _ h))))))))))))))))))
theorem mw_in11 {w : Cond} (h : w ∈ wsL_law_r11) : w ∈ wsL_law := List.mem_append_left _ (List.mem_append_left _ (List.mem_append_left _ (List.mem_append_left _ (List.mem_append_left _ (List.mem_append_left _ (List.mem_append_left _ (List.mem_append_left _ (List.mem_append_left _ (List.mem_append_right _ (List.mem_append_right _ (List.mem_append_right _ (List.mem_append_right _ (List.mem_append_right _ (List.mem_append_right _ (List.mem_append_right _ (List.mem_append_right _ (List.mem_append_right _ (List.mem_append_right _ (List.mem_append_left _ h)))))))))))))))))))
theorem mw_in12 {w : Cond} (h : w ∈ wsL_law_r12) : w ∈ wsL_law := List.mem_append_left _ (List.mem_append_left _ (List.mem_append_left _ (List.mem_append_left _ (List.mem_append_left _ (List.mem_append_left _ (List.mem_append_left _ (List.mem_append_left _ (List.mem_append_left _ (List.mem_append_right _ (List.mem_append_right _ (List.mem_append_right _ (List.mem_append_right _ (List.mem_append_right _ (List.mem_append_right _ (List.mem_append_right _ (List.mem_append_right _ (List.mem_append_right _ (List.mem_append_right _ (List.mem_append_right _ (List.mem_append_left _ h))))))))))))))))))))
theorem mw_in13 {w : Cond} (h : w ∈ wsL_law_r13) : w ∈ wsL_law := List.mem_append_left _ (List.mem_append_left _ (List.mem_append_left _ (List.mem_append_left _ (List.mem_append_left _ (List.mem_append_left _ (List.mem_append_left _ (List.mem_append_left _ (List.mem_append_left _ (List.mem_append_right _ (List.mem_append_right _ (List.mem_append_right _ (List.mem_append_right _ (List.mem_append_right _ (List.mem_append_right _ (List.mem_append_right _ (List.mem_append_right _ (List.mem_append_right _ (List.mem_append_right _ (List.mem_append_right _ (List.mem_append_right _ (List.mem_append_left _ h)))))))))))))))))))))
theorem mw_in14 {w : Cond} (h : w ∈ wsL_law_r14) : w ∈ wsL_law := List.mem_append_left _ (List.mem_append_left _ (List.mem_append_left _ (List.mem_append_left _ (List.mem_append_left _ (List.mem_append_left _ (List.mem_append_left _ (List.mem_append_left _ (List.mem_append_left _ (List.mem_append_right _ (List.mem_append_right _ (List.mem_append_right _ (List.mem_append_right _ (List.mem_append_right _ (List.mem_append_right _ (List.mem_append_right _ (List.mem_append_right _ (List.mem_append_right _ (List.mem_append_right _ (List.mem_append_right _ (List.mem_append_right _ (List.mem_append_right _ (List.mem_append_left _ h))))))))))))))))))))))
theorem mw_in15 {w : Cond} (h : w ∈ wsL_law_r15) : w ∈ wsL_law := List.mem_append_left _ (List.mem_append_left _ (List.mem_append_left _ (List.mem_append_left _ (List.mem_append_left _ (List.mem_append_left _ (List.mem_append_left _ (List.mem_append_left _ (List.mem_append_left _ (List.mem_append_right _ (List.mem_append_right _ (List.mem_append_right _ (List.mem_append_right _ (List.mem_append_right _ (List.mem_append_right _ (List.mem_append_right _ (List.mem_append_right _ (List.mem_append_right _ (List.mem_append_right _ (List.mem_append_right _ (List.mem_append_right _ (List.mem_append_right _ (List.mem_append_right _ (List.mem_append_left _ h)))))))))))))))))))))))
theorem mw_in16 {w : Cond} (h : w ∈ wsL_law_r16) : w ∈ wsL_law := List.mem_append_left _ (List.mem_append_left _ (List.mem_append_left _ (List.mem_append_left _ (List.mem_append_left _ (List.mem_append_left _ (List.mem_append_left _ (List.mem_append_left _ (List.mem_append_left _ (List.mem_append_right _ (List.mem_append_right _ (List.mem_append_right _ (List.mem_append_right _ (List.mem_append_right _ (List.mem_append_right _ (List.mem_append_right _ (List.mem_append_right _ (List.mem_append_right _ (List.mem_append_right _ (List.mem_append_right _ (List.mem_append_right _ (List.mem_append_right _ (List.mem_append_right _ (List.mem_append_right _ (List.mem_append_left _ h))))))))))))))))))))))))
theorem mw_in17 {w : Cond} (h : w ∈ wsL_law_r17) : w ∈ wsL_law := List.mem_append_left _ (List.mem_append_left _ (List.mem_append_left _ (List.mem_append_left _ (List.mem_append_left _ (List.mem_append_left _ (List.mem_append_left _ (List.mem_append_left _ (List.mem_append_left _ (List.mem_append_right _ (List.mem_append_right _ (List.mem_append_right _ (List.mem_append_right _ (List.mem_append_right _ (List.mem_append_right _ (List.mem_append_right _ (List.mem_append_right _ (List.mem_append_right _ (List.mem_append_right _ (List.mem_append_right _ (List.mem_append_right _ (List.mem_append_right _ (List.mem_append_right _ (List.mem_append_right _ (List.mem_append_right _ (List.mem_append_left _ h)))))))))))))))))))))))))
theorem mw_in18 {w : Cond} (h : w ∈ wsL_law_r18) : w ∈ wsL_law := List.mem_append_left _ (List.mem_append_left _ (List.mem_append_left _ (List.mem_append_left _ (List.mem_append_left _ (List.mem_append_left _ (List.mem_append_left _ (List.mem_append_left _ (List.mem_append_left _ (List.mem_append_right _ (List.mem_append_right _ (List.mem_append_right _ (List.mem_append_right _ (List.mem_append_right _ (List.mem_append_right _ (List.mem_append_right _ (List.mem_append_right _ (List.mem_append_right _ (List.mem_append_right _ (List.mem_append_right _ (List.mem_append_right _ (List.mem_append_right _ (List.mem_append_right _ (List.mem_append_right _ (List.mem_append_right _ (List.mem_append_right _ (List.mem_append_left _ h))))))))))))))))))))))))))
theorem mw_in19 {w : Cond} (h : w ∈ wsL_law_r19) : w ∈ wsL_law := List.mem_append_left _ (List.mem_append_left _ (List.mem_append_left _ (List.mem_append_left _ (List.mem_append_left _ (List.mem_append_left _ (List.mem_append_left _ (List.mem_append_left _ (List.mem_append_left _ (List.mem_append_right _ (List.mem_append_right _ (List.mem_append_right _ (List.mem_append_right _ (List.mem_append_right _ (List.mem_append_right _ (List.mem_append_right _ (List.mem_append_right _ (List.mem_append_right _ (List.mem_append_right _ (List.mem_append_right _ (List.mem_append_right _ (List.mem_append_right _ (List.mem_append_right _ (List.mem_append_right _ (List.mem_append_right _ (List.mem_append_right _ (List.mem_append_right _ (List.mem_append_left _ h)))))))))))))))))))))))))))
theorem mw_in20 {w : Cond} (h : w ∈ wsL_law_r20) : w ∈ wsL_law := List.mem_append_left _ (List.mem_append_left _ (List.mem_append_left _ (List.mem_append_left _ (List.mem_append_left _ (List.mem_append_left _ (List.mem_append_left _ (List.mem_append_left _ (List.mem_append_left _ (List.mem_append_right _ (List.mem_append_right _ (List.mem_append_right _ (List.mem_append_right _ (List.mem_append_right _ (List.mem_append_right _ (List.mem_append_right _ (List.mem_append_right _ (List.mem_append_right _ (List.mem_append_right _ (List.mem_append_right _ (List.mem_append_right _ (List.mem_append_right _ (List.mem_append_right _ (List.mem_append_right _ (List.mem_append_right _ (List.mem_append_right _ (List.mem_append_right _ (List.mem_append_right _ (List.mem_append_left _ h))))))))))))))))))))))))))))
theorem mw_in21 {w : Cond} (h : w ∈ wsL_law_r21) : w ∈ wsL_law := List.mem_append_left _ (List.mem_append_left _ (List.mem_append_left _ (List.mem_append_left _ (List.mem_append_left _ (List.mem_append_left _ (List.mem_append_left _ (List.mem_append_left _ (List.mem_append_left _ (List.mem_append_right _ (List.mem_append_right _ (List.mem_append_right _ (List.mem_append_right _ (List.mem_append_right _ (List.mem_append_right _ (List.mem_append_right _ (List.mem_append_right _ (List.mem_append_right _ (List.mem_append_right _ (List.mem_append_right _ (List.mem_append_right _ (List.mem_append_right _ (List.mem_append_right _ (List.mem_append_right _ (List.mem_append_right _ (List.mem_append_right _ (List.mem_append_right _ (List.mem_append_right _ (List.mem_append_right _ (List.mem_append_left _ h)))))))))))))))))))))))))))))
theorem mw_in22 {w : Cond} (h : w ∈ wsL_law_r22) : w ∈ wsL_law := List.mem_append_left _ (List.mem_append_left _ (List.mem_append_left _ (List.mem_append_left _ (List.mem_append_left _ (List.mem_append_left _ (List.mem_append_left _ (List.mem_append_left _ (List.mem_append_left _ (List.mem_append_right _ (List.mem_append_right _ (List.mem_append_right _ (List.mem_append_right _ (List.mem_append_right _ (List.mem_append_right _ (List.mem_append_right _ (List.mem_append_right _ (List.mem_append_right _ (List.mem_append_right _ (List.mem_append_right _ (List.mem_append_right _ (List.mem_append_right _ (List.mem_append_right _ (List.mem_append_right _ (List.mem_append_right _ (List.mem_append_right _ (List.mem_append_right _ (List.mem_append_right _ (List.mem_append_right _ (List.mem_append_right _ (List.mem_append_left _ h))))))))))))))))))))))))))))))
theorem mw_in23 {w : Cond} (h : w ∈ wsL_law_r23) : w ∈ wsL_law := List.mem_append_left _ (List.mem_append_left _ (List.mem_append_left _ (List.mem_append_left _ (List.mem_append_left _ (List.mem_append_left _ (List.mem_append_left _ (List.mem_append_left _ (List.mem_append_left _ (List.mem_append_right _ (List.mem_append_right _ (List.mem_append_right _ (List.mem_append_right _ (List.mem_append_right _ (List.mem_append_right _ (List.mem_append_right _ (List.mem_append_right _ (List.mem_append_right _ (List.mem_append_right _ (List.mem_append_right _ (List.mem_append_right _ (List.mem_append_right _ (List.mem_append_right _ (List.mem_append_right _ (List.mem_append_right _ (List.mem_append_right _ (List.mem_append_right _ (List.mem_append_right _ (List.mem_append_right _ (List.mem_append_right _ (List.mem_append_right _ (List.mem_append_left _ h)))))))))))))))))))))))))))))))
theorem mw_in24 {w : Cond} (h : w ∈ wsL_law_r24) : w ∈ wsL_law := List.mem_append_left _ (List.mem_append_left _ (List.mem_append_left _ (List.mem_append_left _ (List.mem_append_left _ (List.mem_append_left _ (List.mem_append_left _ (List.mem_append_left _ (List.mem_append_left _ (List.mem_append_right _ (List.mem_append_right _ (List.mem_append_right _ (List.mem_append_right _ (List.mem_append_right _ (List.mem_append_right _ (List.mem_append_right _ (List.mem_append_right _ (List.mem_append_right _ (List.mem_append_right _ (List.mem_append_right _ (List.mem_append_right _ (List.mem_append_right _ (List.mem_append_right _ (List.mem_append_right _ (List.mem_append_right _ (List.mem_append_right _ (List.mem_append_right _ (List.mem_append_right _ (List.mem_append_right _ (List.mem_append_right _ (List.mem_append_right _ (List.mem_append_right _ (List.mem_append_left _ h))))))))))))))))))))))))))))))))
theorem mw_in25 {w : Cond} (h : w ∈ wsL_law_r25) : w ∈ wsL_law := List.mem_append_left _ (List.mem_append_left _ (List.mem_append_left _ (List.mem_append_left _ (List.mem_append_left _ (List.mem_append_left _ (List.mem_append_left _ (List.mem_append_left _ (List.mem_append_left _ (List.mem_append_right _ (List.mem_append_right _ (List.mem_append_right _ (List.mem_append_right _ (List.mem_append_right _ (List.mem_append_right _ (List.mem_append_right _ (List.mem_append_right _ (List.mem_append_right _ (List.mem_append_right _ (List.mem_append_right _ (List.mem_append_right _ (List.mem_append_right _ (List.mem_append_right _ (List.mem_append_right _ (List.mem_append_right _ (List.mem_append_right _ (List.mem_append_right _ (List.mem_append_right _ (List.mem_append_right _ (List.mem_append_right _ (List.mem_append_right _ (List.mem_append_right _ (List.mem_append_right _ (List.mem_append_left _ h)))))))))))))))))))))))))))))))))
theorem mw_in26 {w : Cond} (h : w ∈ wsL_law_r26) : w ∈ wsL_law := List.mem_append_left _ (List.mem_append_left _ (List.mem_append_left _ (List.mem_append_left _ (List.mem_append_left _ (List.mem_append_left _ (List.mem_append_left _ (List.mem_append_left _ (List.mem_append_left _ (List.mem_append_right _ (List.mem_append_right _ (List.mem_append_right _ (List.mem_append_right _ (List.mem_append_right _ (List.mem_append_right _ (List.mem_append_right _ (List.mem_append_right _ (List.mem_append_right _ (List.mem_append_right _ (List.mem_append_right _ (List.mem_append_right _ (List.mem_append_right _ (List.mem_append_right _ (List.mem_append_right _ (List.mem_append_right _ (List.mem_append_right _ (List.mem_append_right _ (List.mem_append_right _ (List.mem_append_right _ (List.mem_append_right _ (List.mem_append_right _ (List.mem_append_right _ (List.mem_append_right _ (List.mem_append_right _ (List.mem_append_left _ h))))))))))))))))))))))))))))))))))
theorem mw_in27 {w : Cond} (h : w ∈ wsL_law_r27) : w ∈ wsL_law := List.mem_append_left _ (List.mem_append_left _ (List.mem_append_left _ (List.mem_append_left _ (List.mem_append_left _ (List.mem_append_left _ (List.mem_append_left _ (List.mem_append_left _ (List.mem_append_left _ (List.mem_append_right _ (List.mem_append_right _ (List.mem_append_right _ (List.mem_append_right _ (List.mem_append_right _ (List.mem_append_right _ (List.mem_append_right _ (List.mem_append_right _ (List.mem_append_right _ (List.mem_append_right _ (List.mem_append_right _ (List.mem_append_right _ (List.mem_append_right _ (List.mem_append_right _ (List.mem_append_right _ (List.mem_append_right _ (List.mem_append_right _ (List.mem_append_right _ (List.mem_append_right _ (List.mem_append_right _ (List.mem_append_right _ (List.mem_append_right _ (List.mem_append_right _ (List.mem_append_right _ (List.mem_append_right _ (List.mem_append_right _ (List.mem_append_left _ h)))))))))))))))))))))))))))))))))))
theorem mw_in28 {w : Cond} (h : w ∈ wsL_law_r28) : w ∈ wsL_law := List.mem_append_left _ (List.mem_append_left _ (List.mem_append_left _ (List.mem_append_left _ (List.mem_append_left _ (List.mem_append_left _ (List.mem_append_left _ (List.mem_append_left _ (List.mem_append_left _ (List.mem_append_right _ (List.mem_append_right _ (List.mem_append_right _ (List.mem_append_right _ (List.mem_append_right _ (List.mem_append_right _ (List.mem_append_right _ (List.mem_append_right _ (List.mem_append_right _ (List.mem_append_right _ (List.mem_append_right _ (List.mem_append_right _ (List.mem_append_right _ (List.mem_append_right _ (List.mem_append_right _ (List.mem_append_right _ (List.mem_append_right _ (List.mem_append_right _ (List.mem_append_right _ (List.mem_append_right _ (List.mem_append_right _ (List.mem_append_right _ (List.mem_append_right _ (List.mem_append_right _ (List.mem_append_right _ (List.mem_append_right _ (List.mem_append_right _ (List.mem_append_left _ h))))))))))))))))))))))))))))))))))))
theorem mw_in29 {w : Cond} (h : w ∈ wsL_law_r29) : w ∈ wsL_law := List.mem_append_left _ (List.mem_append_left _ (List.mem_append_left _ (List.mem_append_left _ (List.mem_append_left _ (List.mem_append_left _ (List.mem_append_left _ (List.mem_append_left _ (List.mem_append_left _ (List.mem_append_right _ (List.mem_append_right _ (List.mem_append_right _ (List.mem_append_right _ (List.mem_append_right _ (List.mem_append_right _ (List.mem_append_right _ (List.mem_append_right _ (List.mem_append_right _ (List.mem_append_right _ (List.mem_append_right _ (List.mem_append_right _ (List.mem_append_right _ (List.mem_append_right _ (List.mem_append_right _ (List.mem_append_right _ (List.mem_append_right _ (List.mem_append_right _ (List.mem_append_right _ (List.mem_append_right _ (List.mem_append_right _ (List.mem_append_right _ (List.mem_append_right _ (List.mem_append_right _ (List.mem_append_right _ (List.mem_append_right _ (List.mem_append_right _ (List.mem_append_right _ (List.mem_append_left _ h)))))))))))))))))))))))))))))))))))))
theorem mw_in30 {w : Cond} (h : w ∈ wsL_law_r30) : w ∈ wsL_law := List.mem_append_left _ (List.mem_append_left _ (List.mem_append_left _ (List.mem_append_left _ (List.mem_append_left _ (List.mem_append_left _ (List.mem_append_left _ (List.mem_append_left _ (List.mem_append_left _ (List.mem_append_right _ (List.mem_append_right _ (List.mem_append_right _ (List.mem_append_right _ (List.mem_append_right _ (List.mem_append_right _ (List.mem_append_right _ (List.mem_append_right _ (List.mem_append_right _ (List.mem_append_right _ (List.mem_append_right _ (List.mem_append_right _ (List.mem_append_right _ (List.mem_append_right _ (List.mem_append_right _ (List.mem_append_right _ (List.mem_append_right _ (List.mem_append_right _ (List.mem_append_right _ (List.mem_append_right _ (List.mem_append_right _ (List.mem_append_right _ (List.mem_append_right _ (List.mem_append_right _ (List.mem_append_right _ (List.mem_append_right _ (List.mem_append_right _ (List.mem_append_right _ (List.mem_append_right _ (List.mem_append_left _ h))))))))))))))))))))))))))))))))))))))
theorem mw_in31 {w : Cond} (h : w ∈ wsL_law_r31) : w ∈ wsL_law := List.mem_append_left _ (List.mem_append_left _ (List.mem_append_left _ (List.mem_append_left _ (List.mem_append_left _ (List.mem_append_left _ (List.mem_append_left _ (List.mem_append_left _ (List.mem_append_left _ (List.mem_append_right _ (List.mem_append_right _ (List.mem_append_right _ (List.mem_append_right _ (List.mem_append_right _ (List.mem_append_right _ (List.mem_append_right _ (List.mem_append_right _ (List.mem_append_right _ (List.mem_append_right _ (List.mem_append_right _ (List.mem_append_right _ (List.mem_append_right _ (List.mem_append_right _ (List.mem_append_right _ (List.mem_append_right _ (List.mem_append_right _ (List.mem_append_right _ (List.mem_append_right _ (List.mem_append_right _ (List.mem_append_right _ (List.mem_append_right _ (List.mem_append_right _ (List.mem_append_right _ (List.mem_append_right _ (List.mem_append_right _ (List.mem_append_right _ (List.mem_append_right _ (List.mem_append_right _ (List.mem_append_right _ (h)))))))))))))))))))))))))))))))))))))))
end
section
theorem dX0_init_0 : decode cX0_init 0 = .ok (.aload_n 0, 1) := by decide +kernel
theorem dX0_init_1 : decode cX0_init 1 = .ok (.invokespecial 3, 3) := by decide +kernel
theorem dX0_init_4 : decode cX0_init 4 = .ok (.return_, 1) := by decide +kernel
theorem dX0_start_0 : decode cX0_start 0 = .ok (.aload_n 0, 1) := by decide +kernel
theorem dX0_start_1 : decode cX0_start 1 = .ok (.bipush 99, 2) := by decide +kernel
theorem dX0_start_3 : decode cX0_start 3 = .ok (.putfield 11, 3) := by decide +kernel
theorem dX0_start_6 : decode cX0_start 6 = .ok (.aload_n 0, 1) := by decide +kernel
theorem dX0_start_7 : decode cX0_start 7 = .ok (.iconst 0, 1) := by decide +kernel
theorem dX0_start_8 : decode cX0_start 8 = .ok (.putfield 15, 3) := by decide +kernel
theorem dX0_start_11 : decode cX0_start 11 = .ok (.aload_n 0, 1) := by decide +kernel
theorem dX0_start_12 : decode cX0_start 12 = .ok (.iconst 0, 1) := by decide +kernel
theorem dX0_start_13 : decode cX0_start 13 = .ok (.putfield 18, 3) := by decide +kernel
theorem dX0_start_16 : decode cX0_start 16 = .ok (.return_, 1) := by decide +kernel
theorem dX0_pass_0 : decode cX0_pass 0 = .ok (.iload_n 1, 1) := by decide +kernel
theorem dX0_pass_1 : decode cX0_pass 1 = .ok (.ifCond .ne 14, 3) := by decide +kernel
theorem dX0_pass_4 : decode cX0_pass 4 = .ok (.aload_n 0, 1) := by decide +kernel
theorem dX0_pass_5 : decode cX0_pass 5 = .ok (.dup, 1) := by decide +kernel
theorem dX0_pass_6 : decode cX0_pass 6 = .ok (.getfield 18, 3) := by decide +kernel
theorem dX0_pass_9 : decode cX0_pass 9 = .ok (.iconst 1, 1) := by decide +kernel
theorem dX0_pass_10 : decode cX0_pass 10 = .ok (.iadd, 1) := by decide +kernel
theorem dX0_pass_11 : decode cX0_pass 11 = .ok (.putfield 18, 3) := by decide +kernel
theorem dX0_pass_14 : decode cX0_pass 14 = .ok (.return_, 1) := by decide +kernel
theorem dX0_pass_15 : decode cX0_pass 15 = .ok (.aload_n 0, 1) := by decide +kernel
theorem dX0_pass_16 : decode cX0_pass 16 = .ok (.getfield 15, 3) := by decide +kernel
theorem dX0_pass_19 : decode cX0_pass 19 = .ok (.ifCond .eq 26, 3) := by decide +kernel
theorem dX0_pass_22 : decode cX0_pass 22 = .ok (.aload_n 0, 1) := by decide +kernel
theorem dX0_pass_23 : decode cX0_pass 23 = .ok (.getfield 15, 3) := by decide +kernel
theorem dX0_pass_26 : decode cX0_pass 26 = .ok (.iload_n 1, 1) := by decide +kernel
theorem dX0_pass_27 : decode cX0_pass 27 = .ok (.if_icmp .eq 18, 3) := by decide +kernel
theorem dX0_pass_30 : decode cX0_pass 30 = .ok (.aload_n 0, 1) := by decide +kernel
theorem dX0_pass_31 : decode cX0_pass 31 = .ok (.aload_n 0, 1) := by decide +kernel
theorem dX0_pass_32 : decode cX0_pass 32 = .ok (.getfield 11, 3) := by decide +kernel
theorem dX0_pass_35 : decode cX0_pass 35 = .ok (.aload_n 0, 1) := by decide +kernel
theorem dX0_pass_36 : decode cX0_pass 36 = .ok (.getfield 18, 3) := by decide +kernel
theorem dX0_pass_39 : decode cX0_pass 39 = .ok (.invokestatic 21, 3) := by decide +kernel
theorem dX0_pass_42 : decode cX0_pass 42 = .ok (.putfield 11, 3) := by decide +kernel
theorem dX0_pass_45 : decode cX0_pass 45 = .ok (.aload_n 0, 1) := by decide +kernel
theorem dX0_pass_46 : decode cX0_pass 46 = .ok (.iload_n 1, 1) := by decide +kernel
theorem dX0_pass_47 : decode cX0_pass 47 = .ok (.putfield 15, 3) := by decide +kernel
theorem dX0_pass_50 : decode cX0_pass 50 = .ok (.aload_n 0, 1) := by decide +kernel
theorem dX0_pass_51 : decode cX0_pass 51 = .ok (.iconst 0, 1) := by decide +kernel
theorem dX0_pass_52 : decode cX0_pass 52 = .ok (.putfield 18, 3) := by decide +kernel
theorem dX0_pass_55 : decode cX0_pass 55 = .ok (.return_, 1) := by decide +kernel
theorem dX1_init_0 : decode cX1_init 0 = .ok (.aload_n 0, 1) := by decide +kernel
theorem dX1_init_1 : decode cX1_init 1 = .ok (.invokespecial 3, 3) := by decide +kernel
theorem dX1_init_4 : decode cX1_init 4 = .ok (.aload_n 0, 1) := by decide +kernel
theorem dX1_init_5 : decode cX1_init 5 = .ok (.bipush 8, 2) := by decide +kernel
theorem dX1_init_7 : decode cX1_init 7 = .ok (.anewarray 9, 3) := by decide +kernel
theorem dX1_init_10 : decode cX1_init 10 = .ok (.putfield 11, 3) := by decide +kernel
theorem dX1_init_13 : decode cX1_init 13 = .ok (.return_, 1) := by decide +kernel
theorem dX1_add_0 : decode cX1_add 0 = .ok (.aload_n 0, 1) := by decide +kernel
theorem dX1_add_1 : decode cX1_add 1 = .ok (.getfield 11, 3) := by decide +kernel
theorem dX1_add_4 : decode cX1_add 4 = .ok (.aload_n 0, 1) := by decide +kernel
theorem dX1_add_5 : decode cX1_add 5 = .ok (.getfield 17, 3) := by decide +kernel
theorem dX1_add_8 : decode cX1_add 8 = .ok (.aaload, 1) := by decide +kernel
theorem dX1_add_9 : decode cX1_add 9 = .ok (.ifnonnull 19, 3) := by decide +kernel
theorem dX1_add_12 : decode cX1_add 12 = .ok (.aload_n 0, 1) := by decide +kernel
theorem dX1_add_13 : decode cX1_add 13 = .ok (.getfield 11, 3) := by decide +kernel
theorem dX1_add_16 : decode cX1_add 16 = .ok (.aload_n 0, 1) := by decide +kernel
theorem dX1_add_17 : decode cX1_add 17 = .ok (.getfield 17, 3) := by decide +kernel
theorem dX1_add_20 : decode cX1_add 20 = .ok (.new 9, 3) := by decide +kernel
theorem dX1_add_23 : decode cX1_add 23 = .ok (.dup, 1) := by decide +kernel
theorem dX1_add_24 : decode cX1_add 24 = .ok (.invokespecial 21, 3) := by decide +kernel
theorem dX1_add_27 : decode cX1_add 27 = .ok (.aastore, 1) := by decide +kernel
theorem dX1_add_28 : decode cX1_add 28 = .ok (.aload_n 0, 1) := by decide +kernel
theorem dX1_add_29 : decode cX1_add 29 = .ok (.getfield 11, 3) := by decide +kernel
theorem dX1_add_32 : decode cX1_add 32 = .ok (.aload_n 0, 1) := by decide +kernel
theorem dX1_add_33 : decode cX1_add 33 = .ok (.getfield 17, 3) := by decide +kernel
theorem dX1_add_36 : decode cX1_add 36 = .ok (.aaload, 1) := by decide +kernel
theorem dX1_add_37 : decode cX1_add 37 = .ok (.aload_n 1, 1) := by decide +kernel
theorem dX1_add_38 : decode cX1_add 38 = .ok (.invokevirtual 22, 3) := by decide +kernel
theorem dX1_add_41 : decode cX1_add 41 = .ok (.aload_n 0, 1) := by decide +kernel
theorem dX1_add_42 : decode cX1_add 42 = .ok (.aload_n 0, 1) := by decide +kernel
theorem dX1_add_43 : decode cX1_add 43 = .ok (.getfield 17, 3) := by decide +kernel
theorem dX1_add_46 : decode cX1_add 46 = .ok (.iconst 1, 1) := by decide +kernel
theorem dX1_add_47 : decode cX1_add 47 = .ok (.iadd, 1) := by decide +kernel
theorem dX1_add_48 : decode cX1_add 48 = .ok (.bipush 8, 2) := by decide +kernel
theorem dX1_add_50 : decode cX1_add 50 = .ok (.irem, 1) := by decide +kernel
theorem dX1_add_51 : decode cX1_add 51 = .ok (.putfield 17, 3) := by decide +kernel
theorem dX1_add_54 : decode cX1_add 54 = .ok (.aload_n 0, 1) := by decide +kernel
theorem dX1_add_55 : decode cX1_add 55 = .ok (.aload_n 0, 1) := by decide +kernel
theorem dX1_add_56 : decode cX1_add 56 = .ok (.getfield 26, 3) := by decide +kernel
theorem dX1_add_59 : decode cX1_add 59 = .ok (.iconst 1, 1) := by decide +kernel
theorem dX1_add_60 : decode cX1_add 60 = .ok (.iadd, 1) := by decide +kernel
theorem dX1_add_61 : decode cX1_add 61 = .ok (.bipush 8, 2) := by decide +kernel
theorem dX1_add_63 : decode cX1_add 63 = .ok (.invokestatic 29, 3) := by decide +kernel
theorem dX1_add_66 : decode cX1_add 66 = .ok (.putfield 26, 3) := by decide +kernel
theorem dX1_add_69 : decode cX1_add 69 = .ok (.return_, 1) := by decide +kernel
theorem dX1_restore_0 : decode cX1_restore 0 = .ok (.aload_n 0, 1) := by decide +kernel
theorem dX1_restore_1 : decode cX1_restore 1 = .ok (.getfield 17, 3) := by decide +kernel
theorem dX1_restore_4 : decode cX1_restore 4 = .ok (.bipush 8, 2) := by decide +kernel
theorem dX1_restore_6 : decode cX1_restore 6 = .ok (.iadd, 1) := by decide +kernel
theorem dX1_restore_7 : decode cX1_restore 7 = .ok (.iconst 1, 1) := by decide +kernel
theorem dX1_restore_8 : decode cX1_restore 8 = .ok (.isub, 1) := by decide +kernel
theorem dX1_restore_9 : decode cX1_restore 9 = .ok (.bipush 8, 2) := by decide +kernel
theorem dX1_restore_11 : decode cX1_restore 11 = .ok (.irem, 1) := by decide +kernel
theorem dX1_restore_12 : decode cX1_restore 12 = .ok (.istore_n 2, 1) := by decide +kernel
theorem dX1_restore_13 : decode cX1_restore 13 = .ok (.aload_n 0, 1) := by decide +kernel
theorem dX1_restore_14 : decode cX1_restore 14 = .ok (.getfield 26, 3) := by decide +kernel
theorem dX1_restore_17 : decode cX1_restore 17 = .ok (.ifCond .eq 12, 3) := by decide +kernel
theorem dX1_restore_20 : decode cX1_restore 20 = .ok (.aload_n 0, 1) := by decide +kernel
theorem dX1_restore_21 : decode cX1_restore 21 = .ok (.getfield 11, 3) := by decide +kernel
theorem dX1_restore_24 : decode cX1_restore 24 = .ok (.iload_n 2, 1) := by decide +kernel
theorem dX1_restore_25 : decode cX1_restore 25 = .ok (.aaload, 1) := by decide +kernel
theorem dX1_restore_26 : decode cX1_restore 26 = .ok (.ifnonnull 5, 3) := by decide +kernel
theorem dX1_restore_29 : decode cX1_restore 29 = .ok (.iconst 0, 1) := by decide +kernel
theorem dX1_restore_30 : decode cX1_restore 30 = .ok (.ireturn, 1) := by decide +kernel
theorem dX1_restore_31 : decode cX1_restore 31 = .ok (.aload_n 1, 1) := by decide +kernel
theorem dX1_restore_32 : decode cX1_restore 32 = .ok (.aload_n 0, 1) := by decide +kernel
theorem dX1_restore_33 : decode cX1_restore 33 = .ok (.getfield 11, 3) := by decide +kernel
theorem dX1_restore_36 : decode cX1_restore 36 = .ok (.iload_n 2, 1) := by decide +kernel
theorem dX1_restore_37 : decode cX1_restore 37 = .ok (.aaload, 1) := by decide +kernel
theorem dX1_restore_38 : decode cX1_restore 38 = .ok (.invokevirtual 22, 3) := by decide +kernel
theorem dX1_restore_41 : decode cX1_restore 41 = .ok (.aload_n 0, 1) := by decide +kernel
theorem dX1_restore_42 : decode cX1_restore 42 = .ok (.iload_n 2, 1) := by decide +kernel
theorem dX1_restore_43 : decode cX1_restore 43 = .ok (.putfield 17, 3) := by decide +kernel
theorem dX1_restore_46 : decode cX1_restore 46 = .ok (.aload_n 0, 1) := by decide +kernel
theorem dX1_restore_47 : decode cX1_restore 47 = .ok (.dup, 1) := by decide +kernel
theorem dX1_restore_48 : decode cX1_restore 48 = .ok (.getfield 26, 3) := by decide +kernel
theorem dX1_restore_51 : decode cX1_restore 51 = .ok (.iconst 1, 1) := by decide +kernel
theorem dX1_restore_52 : decode cX1_restore 52 = .ok (.isub, 1) := by decide +kernel
theorem dX1_restore_53 : decode cX1_restore 53 = .ok (.putfield 26, 3) := by decide +kernel
theorem dX1_restore_56 : decode cX1_restore 56 = .ok (.iconst 1, 1) := by decide +kernel
theorem dX1_restore_57 : decode cX1_restore 57 = .ok (.ireturn, 1) := by decide +kernel
theorem dX2_init_0 : decode cX2_init 0 = .ok (.aload_n 0, 1) := by decide +kernel
theorem dX2_init_1 : decode cX2_init 1 = .ok (.invokespecial 3, 3) := by decide +kernel
theorem dX2_init_4 : decode cX2_init 4 = .ok (.aload_n 0, 1) := by decide +kernel
theorem dX2_init_5 : decode cX2_init 5 = .ok (.iconst 3, 1) := by decide +kernel
theorem dX2_init_6 : decode cX2_init 6 = .ok (.newarray .int, 2) := by decide +kernel
theorem dX2_init_8 : decode cX2_init 8 = .ok (.putfield 9, 3) := by decide +kernel
theorem dX2_init_11 : decode cX2_init 11 = .ok (.aload_n 0, 1) := by decide +kernel
theorem dX2_init_12 : decode cX2_init 12 = .ok (.iconst 3, 1) := by decide +kernel
theorem dX2_init_13 : decode cX2_init 13 = .ok (.newarray .int, 2) := by decide +kernel
theorem dX2_init_15 : decode cX2_init 15 = .ok (.putfield 15, 3) := by decide +kernel
theorem dX2_init_18 : decode cX2_init 18 = .ok (.aload_n 0, 1) := by decide +kernel
theorem dX2_init_19 : decode cX2_init 19 = .ok (.iconst 3, 1) := by decide +kernel
theorem dX2_init_20 : decode cX2_init 20 = .ok (.newarray .int, 2) := by decide +kernel
theorem dX2_init_22 : decode cX2_init 22 = .ok (.putfield 18, 3) := by decide +kernel
theorem dX2_init_25 : decode cX2_init 25 = .ok (.return_, 1) := by decide +kernel
theorem dX2_clear_0 : decode cX2_clear 0 = .ok (.aload_n 0, 1) := by decide +kernel
theorem dX2_clear_1 : decode cX2_clear 1 = .ok (.iconst 0, 1) := by decide +kernel
theorem dX2_clear_2 : decode cX2_clear 2 = .ok (.putfield 21, 3) := by decide +kernel
theorem dX2_clear_5 : decode cX2_clear 5 = .ok (.aload_n 0, 1) := by decide +kernel
theorem dX2_clear_6 : decode cX2_clear 6 = .ok (.iconst 0, 1) := by decide +kernel
theorem dX2_clear_7 : decode cX2_clear 7 = .ok (.putfield 25, 3) := by decide +kernel
theorem dX2_clear_10 : decode cX2_clear 10 = .ok (.return_, 1) := by decide +kernel
theorem dX2_addLast_0 : decode cX2_addLast 0 = .ok (.aload_n 0, 1) := by decide +kernel
theorem dX2_addLast_1 : decode cX2_addLast 1 = .ok (.getfield 9, 3) := by decide +kernel
theorem dX2_addLast_4 : decode cX2_addLast 4 = .ok (.aload_n 0, 1) := by decide +kernel
theorem dX2_addLast_5 : decode cX2_addLast 5 = .ok (.getfield 21, 3) := by decide +kernel
theorem dX2_addLast_8 : decode cX2_addLast 8 = .ok (.iload_n 1, 1) := by decide +kernel
theorem dX2_addLast_9 : decode cX2_addLast 9 = .ok (.iastore, 1) := by decide +kernel
theorem dX2_addLast_10 : decode cX2_addLast 10 = .ok (.aload_n 0, 1) := by decide +kernel
theorem dX2_addLast_11 : decode cX2_addLast 11 = .ok (.getfield 15, 3) := by decide +kernel
theorem dX2_addLast_14 : decode cX2_addLast 14 = .ok (.aload_n 0, 1) := by decide +kernel
theorem dX2_addLast_15 : decode cX2_addLast 15 = .ok (.getfield 21, 3) := by decide +kernel
theorem dX2_addLast_18 : decode cX2_addLast 18 = .ok (.iload_n 2, 1) := by decide +kernel
theorem dX2_addLast_19 : decode cX2_addLast 19 = .ok (.iastore, 1) := by decide +kernel
theorem dX2_addLast_20 : decode cX2_addLast 20 = .ok (.aload_n 0, 1) := by decide +kernel
theorem dX2_addLast_21 : decode cX2_addLast 21 = .ok (.getfield 18, 3) := by decide +kernel
theorem dX2_addLast_24 : decode cX2_addLast 24 = .ok (.aload_n 0, 1) := by decide +kernel
theorem dX2_addLast_25 : decode cX2_addLast 25 = .ok (.getfield 21, 3) := by decide +kernel
theorem dX2_addLast_28 : decode cX2_addLast 28 = .ok (.iload_n 3, 1) := by decide +kernel
theorem dX2_addLast_29 : decode cX2_addLast 29 = .ok (.iastore, 1) := by decide +kernel
theorem dX2_addLast_30 : decode cX2_addLast 30 = .ok (.aload_n 0, 1) := by decide +kernel
theorem dX2_addLast_31 : decode cX2_addLast 31 = .ok (.dup, 1) := by decide +kernel
theorem dX2_addLast_32 : decode cX2_addLast 32 = .ok (.getfield 21, 3) := by decide +kernel
theorem dX2_addLast_35 : decode cX2_addLast 35 = .ok (.iconst 1, 1) := by decide +kernel
theorem dX2_addLast_36 : decode cX2_addLast 36 = .ok (.iadd, 1) := by decide +kernel
theorem dX2_addLast_37 : decode cX2_addLast 37 = .ok (.putfield 21, 3) := by decide +kernel
theorem dX2_addLast_40 : decode cX2_addLast 40 = .ok (.aload_n 0, 1) := by decide +kernel
theorem dX2_addLast_41 : decode cX2_addLast 41 = .ok (.dup, 1) := by decide +kernel
theorem dX2_addLast_42 : decode cX2_addLast 42 = .ok (.getfield 25, 3) := by decide +kernel
theorem dX2_addLast_45 : decode cX2_addLast 45 = .ok (.iload 4, 2) := by decide +kernel
theorem dX2_addLast_47 : decode cX2_addLast 47 = .ok (.iadd, 1) := by decide +kernel
theorem dX2_addLast_48 : decode cX2_addLast 48 = .ok (.putfield 25, 3) := by decide +kernel
theorem dX2_addLast_51 : decode cX2_addLast 51 = .ok (.return_, 1) := by decide +kernel
theorem dX2_dropLast_0 : decode cX2_dropLast 0 = .ok (.aload_n 0, 1) := by decide +kernel
theorem dX2_dropLast_1 : decode cX2_dropLast 1 = .ok (.dup, 1) := by decide +kernel
theorem dX2_dropLast_2 : decode cX2_dropLast 2 = .ok (.getfield 21, 3) := by decide +kernel
theorem dX2_dropLast_5 : decode cX2_dropLast 5 = .ok (.iconst 1, 1) := by decide +kernel
theorem dX2_dropLast_6 : decode cX2_dropLast 6 = .ok (.isub, 1) := by decide +kernel
theorem dX2_dropLast_7 : decode cX2_dropLast 7 = .ok (.putfield 21, 3) := by decide +kernel
theorem dX2_dropLast_10 : decode cX2_dropLast 10 = .ok (.aload_n 0, 1) := by decide +kernel
theorem dX2_dropLast_11 : decode cX2_dropLast 11 = .ok (.dup, 1) := by decide +kernel
theorem dX2_dropLast_12 : decode cX2_dropLast 12 = .ok (.getfield 25, 3) := by decide +kernel
theorem dX2_dropLast_15 : decode cX2_dropLast 15 = .ok (.iload_n 1, 1) := by decide +kernel
theorem dX2_dropLast_16 : decode cX2_dropLast 16 = .ok (.isub, 1) := by decide +kernel
theorem dX2_dropLast_17 : decode cX2_dropLast 17 = .ok (.putfield 25, 3) := by decide +kernel
theorem dX2_dropLast_20 : decode cX2_dropLast 20 = .ok (.return_, 1) := by decide +kernel
theorem dX2_isCheaperThan_0 : decode cX2_isCheaperThan 0 = .ok (.aload_n 0, 1) := by decide +kernel
theorem dX2_isCheaperThan_1 : decode cX2_isCheaperThan 1 = .ok (.getfield 25, 3) := by decide +kernel
theorem dX2_isCheaperThan_4 : decode cX2_isCheaperThan 4 = .ok (.aload_n 1, 1) := by decide +kernel
theorem dX2_isCheaperThan_5 : decode cX2_isCheaperThan 5 = .ok (.getfield 25, 3) := by decide +kernel
theorem dX2_isCheaperThan_8 : decode cX2_isCheaperThan 8 = .ok (.if_icmp .lt 25, 3) := by decide +kernel
theorem dX2_isCheaperThan_11 : decode cX2_isCheaperThan 11 = .ok (.aload_n 0, 1) := by decide +kernel
theorem dX2_isCheaperThan_12 : decode cX2_isCheaperThan 12 = .ok (.getfield 25, 3) := by decide +kernel
theorem dX2_isCheaperThan_15 : decode cX2_isCheaperThan 15 = .ok (.aload_n 1, 1) := by decide +kernel
theorem dX2_isCheaperThan_16 : decode cX2_isCheaperThan 16 = .ok (.getfield 25, 3) := by decide +kernel
theorem dX2_isCheaperThan_19 : decode cX2_isCheaperThan 19 = .ok (.if_icmp .ne 18, 3) := by decide +kernel
theorem dX2_isCheaperThan_22 : decode cX2_isCheaperThan 22 = .ok (.aload_n 0, 1) := by decide +kernel
theorem dX2_isCheaperThan_23 : decode cX2_isCheaperThan 23 = .ok (.getfield 21, 3) := by decide +kernel
theorem dX2_isCheaperThan_26 : decode cX2_isCheaperThan 26 = .ok (.aload_n 1, 1) := by decide +kernel
theorem dX2_isCheaperThan_27 : decode cX2_isCheaperThan 27 = .ok (.getfield 21, 3) := by decide +kernel
theorem dX2_isCheaperThan_30 : decode cX2_isCheaperThan 30 = .ok (.if_icmp .ge 7, 3) := by decide +kernel
theorem dX2_isCheaperThan_33 : decode cX2_isCheaperThan 33 = .ok (.iconst 1, 1) := by decide +kernel
theorem dX2_isCheaperThan_34 : decode cX2_isCheaperThan 34 = .ok (.goto 4, 3) := by decide +kernel
theorem dX2_isCheaperThan_37 : decode cX2_isCheaperThan 37 = .ok (.iconst 0, 1) := by decide +kernel
theorem dX2_isCheaperThan_38 : decode cX2_isCheaperThan 38 = .ok (.ireturn, 1) := by decide +kernel
theorem dX2_copyFrom_0 : decode cX2_copyFrom 0 = .ok (.aload_n 0, 1) := by decide +kernel
theorem dX2_copyFrom_1 : decode cX2_copyFrom 1 = .ok (.aload_n 1, 1) := by decide +kernel
theorem dX2_copyFrom_2 : decode cX2_copyFrom 2 = .ok (.getfield 21, 3) := by decide +kernel
theorem dX2_copyFrom_5 : decode cX2_copyFrom 5 = .ok (.putfield 21, 3) := by decide +kernel
theorem dX2_copyFrom_8 : decode cX2_copyFrom 8 = .ok (.aload_n 0, 1) := by decide +kernel
theorem dX2_copyFrom_9 : decode cX2_copyFrom 9 = .ok (.aload_n 1, 1) := by decide +kernel
theorem dX2_copyFrom_10 : decode cX2_copyFrom 10 = .ok (.getfield 25, 3) := by decide +kernel
theorem dX2_copyFrom_13 : decode cX2_copyFrom 13 = .ok (.putfield 25, 3) := by decide +kernel
theorem dX2_copyFrom_16 : decode cX2_copyFrom 16 = .ok (.aload_n 1, 1) := by decide +kernel
theorem dX2_copyFrom_17 : decode cX2_copyFrom 17 = .ok (.getfield 9, 3) := by decide +kernel
theorem dX2_copyFrom_20 : decode cX2_copyFrom 20 = .ok (.iconst 0, 1) := by decide +kernel
theorem dX2_copyFrom_21 : decode cX2_copyFrom 21 = .ok (.aload_n 0, 1) := by decide +kernel
theorem dX2_copyFrom_22 : decode cX2_copyFrom 22 = .ok (.getfield 9, 3) := by decide +kernel
theorem dX2_copyFrom_25 : decode cX2_copyFrom 25 = .ok (.iconst 0, 1) := by decide +kernel
theorem dX2_copyFrom_26 : decode cX2_copyFrom 26 = .ok (.iconst 3, 1) := by decide +kernel
theorem dX2_copyFrom_27 : decode cX2_copyFrom 27 = .ok (.invokestatic 28, 3) := by decide +kernel
theorem dX2_copyFrom_30 : decode cX2_copyFrom 30 = .ok (.aload_n 1, 1) := by decide +kernel
theorem dX2_copyFrom_31 : decode cX2_copyFrom 31 = .ok (.getfield 15, 3) := by decide +kernel
theorem dX2_copyFrom_34 : decode cX2_copyFrom 34 = .ok (.iconst 0, 1) := by decide +kernel
theorem dX2_copyFrom_35 : decode cX2_copyFrom 35 = .ok (.aload_n 0, 1) := by decide +kernel
theorem dX2_copyFrom_36 : decode cX2_copyFrom 36 = .ok (.getfield 15, 3) := by decide +kernel
theorem dX2_copyFrom_39 : decode cX2_copyFrom 39 = .ok (.iconst 0, 1) := by decide +kernel
theorem dX2_copyFrom_40 : decode cX2_copyFrom 40 = .ok (.iconst 3, 1) := by decide +kernel
theorem dX2_copyFrom_41 : decode cX2_copyFrom 41 = .ok (.invokestatic 28, 3) := by decide +kernel
theorem dX2_copyFrom_44 : decode cX2_copyFrom 44 = .ok (.aload_n 1, 1) := by decide +kernel
theorem dX2_copyFrom_45 : decode cX2_copyFrom 45 = .ok (.getfield 18, 3) := by decide +kernel
theorem dX2_copyFrom_48 : decode cX2_copyFrom 48 = .ok (.iconst 0, 1) := by decide +kernel
theorem dX2_copyFrom_49 : decode cX2_copyFrom 49 = .ok (.aload_n 0, 1) := by decide +kernel
theorem dX2_copyFrom_50 : decode cX2_copyFrom 50 = .ok (.getfield 18, 3) := by decide +kernel
theorem dX2_copyFrom_53 : decode cX2_copyFrom 53 = .ok (.iconst 0, 1) := by decide +kernel
theorem dX2_copyFrom_54 : decode cX2_copyFrom 54 = .ok (.iconst 3, 1) := by decide +kernel
theorem dX2_copyFrom_55 : decode cX2_copyFrom 55 = .ok (.invokestatic 28, 3) := by decide +kernel
theorem dX2_copyFrom_58 : decode cX2_copyFrom 58 = .ok (.return_, 1) := by decide +kernel
theorem dX3_init_0 : decode cX3_init 0 = .ok (.aload_n 0, 1) := by decide +kernel
theorem dX3_init_1 : decode cX3_init 1 = .ok (.invokespecial 3, 3) := by decide +kernel
theorem dX3_init_4 : decode cX3_init 4 = .ok (.aload_n 0, 1) := by decide +kernel
theorem dX3_init_5 : decode cX3_init 5 = .ok (.new 9, 3) := by decide +kernel
theorem dX3_init_8 : decode cX3_init 8 = .ok (.dup, 1) := by decide +kernel
theorem dX3_init_9 : decode cX3_init 9 = .ok (.invokespecial 11, 3) := by decide +kernel
theorem dX3_init_12 : decode cX3_init 12 = .ok (.putfield 12, 3) := by decide +kernel
theorem dX3_init_15 : decode cX3_init 15 = .ok (.aload_n 0, 1) := by decide +kernel
theorem dX3_init_16 : decode cX3_init 16 = .ok (.new 18, 3) := by decide +kernel
theorem dX3_init_19 : decode cX3_init 19 = .ok (.dup, 1) := by decide +kernel
theorem dX3_init_20 : decode cX3_init 20 = .ok (.invokespecial 20, 3) := by decide +kernel
theorem dX3_init_23 : decode cX3_init 23 = .ok (.putfield 21, 3) := by decide +kernel
theorem dX3_init_26 : decode cX3_init 26 = .ok (.aload_n 0, 1) := by decide +kernel
theorem dX3_init_27 : decode cX3_init 27 = .ok (.new 9, 3) := by decide +kernel
theorem dX3_init_30 : decode cX3_init 30 = .ok (.dup, 1) := by decide +kernel
theorem dX3_init_31 : decode cX3_init 31 = .ok (.invokespecial 11, 3) := by decide +kernel
theorem dX3_init_34 : decode cX3_init 34 = .ok (.putfield 25, 3) := by decide +kernel
theorem dX3_init_37 : decode cX3_init 37 = .ok (.aload_n 0, 1) := by decide +kernel
theorem dX3_init_38 : decode cX3_init 38 = .ok (.iconst 4, 1) := by decide +kernel
theorem dX3_init_39 : decode cX3_init 39 = .ok (.newarray .int, 2) := by decide +kernel
theorem dX3_init_41 : decode cX3_init 41 = .ok (.putfield 28, 3) := by decide +kernel
theorem dX3_init_44 : decode cX3_init 44 = .ok (.aload_n 0, 1) := by decide +kernel
theorem dX3_init_45 : decode cX3_init 45 = .ok (.iconst 4, 1) := by decide +kernel
theorem dX3_init_46 : decode cX3_init 46 = .ok (.newarray .int, 2) := by decide +kernel
theorem dX3_init_48 : decode cX3_init 48 = .ok (.putfield 32, 3) := by decide +kernel
theorem dX3_init_51 : decode cX3_init 51 = .ok (.aload_n 0, 1) := by decide +kernel
theorem dX3_init_52 : decode cX3_init 52 = .ok (.iconst 4, 1) := by decide +kernel
theorem dX3_init_53 : decode cX3_init 53 = .ok (.newarray .int, 2) := by decide +kernel
theorem dX3_init_55 : decode cX3_init 55 = .ok (.putfield 35, 3) := by decide +kernel
theorem dX3_init_58 : decode cX3_init 58 = .ok (.return_, 1) := by decide +kernel
theorem dX3_succeeds_0 : decode cX3_succeeds 0 = .ok (.aload_n 0, 1) := by decide +kernel
theorem dX3_succeeds_1 : decode cX3_succeeds 1 = .ok (.iconst 0, 1) := by decide +kernel
theorem dX3_succeeds_2 : decode cX3_succeeds 2 = .ok (.putfield 38, 3) := by decide +kernel
theorem dX3_succeeds_5 : decode cX3_succeeds 5 = .ok (.aload_n 0, 1) := by decide +kernel
theorem dX3_succeeds_6 : decode cX3_succeeds 6 = .ok (.getfield 12, 3) := by decide +kernel
theorem dX3_succeeds_9 : decode cX3_succeeds 9 = .ok (.invokevirtual 42, 3) := by decide +kernel
theorem dX3_succeeds_12 : decode cX3_succeeds 12 = .ok (.aload_n 0, 1) := by decide +kernel
theorem dX3_succeeds_13 : decode cX3_succeeds 13 = .ok (.getfield 25, 3) := by decide +kernel
theorem dX3_succeeds_16 : decode cX3_succeeds 16 = .ok (.invokevirtual 42, 3) := by decide +kernel
theorem dX3_succeeds_19 : decode cX3_succeeds 19 = .ok (.aload_n 1, 1) := by decide +kernel
theorem dX3_succeeds_20 : decode cX3_succeeds 20 = .ok (.getfield 45, 3) := by decide +kernel
theorem dX3_succeeds_23 : decode cX3_succeeds 23 = .ok (.ifCond .eq 10, 3) := by decide +kernel
theorem dX3_succeeds_26 : decode cX3_succeeds 26 = .ok (.aload_n 1, 1) := by decide +kernel
theorem dX3_succeeds_27 : decode cX3_succeeds 27 = .ok (.invokevirtual 49, 3) := by decide +kernel
theorem dX3_succeeds_30 : decode cX3_succeeds 30 = .ok (.ifCond .ne 5, 3) := by decide +kernel
theorem dX3_succeeds_33 : decode cX3_succeeds 33 = .ok (.iconst 0, 1) := by decide +kernel
theorem dX3_succeeds_34 : decode cX3_succeeds 34 = .ok (.ireturn, 1) := by decide +kernel
theorem dX3_succeeds_35 : decode cX3_succeeds 35 = .ok (.aload_n 0, 1) := by decide +kernel
theorem dX3_succeeds_36 : decode cX3_succeeds 36 = .ok (.getfield 21, 3) := by decide +kernel
theorem dX3_succeeds_39 : decode cX3_succeeds 39 = .ok (.aload_n 1, 1) := by decide +kernel
theorem dX3_succeeds_40 : decode cX3_succeeds 40 = .ok (.invokevirtual 53, 3) := by decide +kernel
theorem dX3_succeeds_43 : decode cX3_succeeds 43 = .ok (.aload_n 0, 1) := by decide +kernel
theorem dX3_succeeds_44 : decode cX3_succeeds 44 = .ok (.iload_n 2, 1) := by decide +kernel
theorem dX3_succeeds_45 : decode cX3_succeeds 45 = .ok (.iconst 3, 1) := by decide +kernel
theorem dX3_succeeds_46 : decode cX3_succeeds 46 = .ok (.invokestatic 57, 3) := by decide +kernel
theorem dX3_succeeds_49 : decode cX3_succeeds 49 = .ok (.invokevirtual 63, 3) := by decide +kernel
theorem dX3_succeeds_52 : decode cX3_succeeds 52 = .ok (.aload_n 0, 1) := by decide +kernel
theorem dX3_succeeds_53 : decode cX3_succeeds 53 = .ok (.getfield 38, 3) := by decide +kernel
theorem dX3_succeeds_56 : decode cX3_succeeds 56 = .ok (.ireturn, 1) := by decide +kernel
theorem dX3_seek_0 : decode cX3_seek 0 = .ok (.aload_n 0, 1) := by decide +kernel
theorem dX3_seek_1 : decode cX3_seek 1 = .ok (.getfield 21, 3) := by decide +kernel
theorem dX3_seek_4 : decode cX3_seek 4 = .ok (.invokevirtual 67, 3) := by decide +kernel
theorem dX3_seek_7 : decode cX3_seek 7 = .ok (.bipush (-9), 2) := by decide +kernel
theorem dX3_seek_9 : decode cX3_seek 9 = .ok (.if_icmp .eq 8, 3) := by decide +kernel
theorem dX3_seek_12 : decode cX3_seek 12 = .ok (.aload_n 0, 1) := by decide +kernel
theorem dX3_seek_13 : decode cX3_seek 13 = .ok (.invokevirtual 70, 3) := by decide +kernel
theorem dX3_seek_16 : decode cX3_seek 16 = .ok (.return_, 1) := by decide +kernel
theorem dX3_seek_17 : decode cX3_seek 17 = .ok (.aload_n 0, 1) := by decide +kernel
theorem dX3_seek_18 : decode cX3_seek 18 = .ok (.invokevirtual 73, 3) := by decide +kernel
theorem dX3_seek_21 : decode cX3_seek 21 = .ok (.istore_n 2, 1) := by decide +kernel
theorem dX3_seek_22 : decode cX3_seek 22 = .ok (.iload_n 1, 1) := by decide +kernel
theorem dX3_seek_23 : decode cX3_seek 23 = .ok (.ifCond .le 16, 3) := by decide +kernel
theorem dX3_seek_26 : decode cX3_seek 26 = .ok (.iload_n 2, 1) := by decide +kernel
theorem dX3_seek_27 : decode cX3_seek 27 = .ok (.iload_n 1, 1) := by decide +kernel
theorem dX3_seek_28 : decode cX3_seek 28 = .ok (.if_icmp .gt 11, 3) := by decide +kernel
theorem dX3_seek_31 : decode cX3_seek 31 = .ok (.aload_n 0, 1) := by decide +kernel
theorem dX3_seek_32 : decode cX3_seek 32 = .ok (.iload_n 2, 1) := by decide +kernel
theorem dX3_seek_33 : decode cX3_seek 33 = .ok (.invokevirtual 76, 3) := by decide +kernel
theorem dX3_seek_36 : decode cX3_seek 36 = .ok (.ifCond .eq 4, 3) := by decide +kernel
theorem dX3_seek_39 : decode cX3_seek 39 = .ok (.return_, 1) := by decide +kernel
theorem dX3_seek_40 : decode cX3_seek 40 = .ok (.iconst 0, 1) := by decide +kernel
theorem dX3_seek_41 : decode cX3_seek 41 = .ok (.istore_n 3, 1) := by decide +kernel
theorem dX3_seek_42 : decode cX3_seek 42 = .ok (.iload_n 3, 1) := by decide +kernel
theorem dX3_seek_43 : decode cX3_seek 43 = .ok (.aload_n 0, 1) := by decide +kernel
theorem dX3_seek_44 : decode cX3_seek 44 = .ok (.getfield 21, 3) := by decide +kernel
theorem dX3_seek_47 : decode cX3_seek 47 = .ok (.getfield 80, 3) := by decide +kernel
theorem dX3_seek_50 : decode cX3_seek 50 = .ok (.if_icmp .ge 88, 3) := by decide +kernel
theorem dX3_seek_53 : decode cX3_seek 53 = .ok (.aload_n 0, 1) := by decide +kernel
theorem dX3_seek_54 : decode cX3_seek 54 = .ok (.getfield 21, 3) := by decide +kernel
theorem dX3_seek_57 : decode cX3_seek 57 = .ok (.getfield 83, 3) := by decide +kernel
theorem dX3_seek_60 : decode cX3_seek 60 = .ok (.iload_n 3, 1) := by decide +kernel
theorem dX3_seek_61 : decode cX3_seek 61 = .ok (.iaload, 1) := by decide +kernel
theorem dX3_seek_62 : decode cX3_seek 62 = .ok (.istore 4, 2) := by decide +kernel
theorem dX3_seek_64 : decode cX3_seek 64 = .ok (.iconst 0, 1) := by decide +kernel
theorem dX3_seek_65 : decode cX3_seek 65 = .ok (.istore 5, 2) := by decide +kernel
theorem dX3_seek_67 : decode cX3_seek 67 = .ok (.iload 5, 2) := by decide +kernel
theorem dX3_seek_69 : decode cX3_seek 69 = .ok (.aload_n 0, 1) := by decide +kernel
theorem dX3_seek_70 : decode cX3_seek 70 = .ok (.getfield 21, 3) := by decide +kernel
theorem dX3_seek_73 : decode cX3_seek 73 = .ok (.getfield 80, 3) := by decide +kernel
theorem dX3_seek_76 : decode cX3_seek 76 = .ok (.if_icmp .ge 56, 3) := by decide +kernel
theorem dX3_seek_79 : decode cX3_seek 79 = .ok (.iconst 1, 1) := by decide +kernel
theorem dX3_seek_80 : decode cX3_seek 80 = .ok (.istore 6, 2) := by decide +kernel
theorem dX3_seek_82 : decode cX3_seek 82 = .ok (.iload 6, 2) := by decide +kernel
theorem dX3_seek_84 : decode cX3_seek 84 = .ok (.iload 4, 2) := by decide +kernel
theorem dX3_seek_86 : decode cX3_seek 86 = .ok (.if_icmp .gt 40, 3) := by decide +kernel
theorem dX3_seek_89 : decode cX3_seek 89 = .ok (.aload_n 0, 1) := by decide +kernel
theorem dX3_seek_90 : decode cX3_seek 90 = .ok (.getfield 21, 3) := by decide +kernel
theorem dX3_seek_93 : decode cX3_seek 93 = .ok (.iload_n 3, 1) := by decide +kernel
theorem dX3_seek_94 : decode cX3_seek 94 = .ok (.iload 5, 2) := by decide +kernel
theorem dX3_seek_96 : decode cX3_seek 96 = .ok (.iload 6, 2) := by decide +kernel
theorem dX3_seek_98 : decode cX3_seek 98 = .ok (.invokevirtual 86, 3) := by decide +kernel
theorem dX3_seek_101 : decode cX3_seek 101 = .ok (.istore 7, 2) := by decide +kernel
theorem dX3_seek_103 : decode cX3_seek 103 = .ok (.iload 7, 2) := by decide +kernel
theorem dX3_seek_105 : decode cX3_seek 105 = .ok (.ifCond .lt 15, 3) := by decide +kernel
theorem dX3_seek_108 : decode cX3_seek 108 = .ok (.aload_n 0, 1) := by decide +kernel
theorem dX3_seek_109 : decode cX3_seek 109 = .ok (.iload_n 3, 1) := by decide +kernel
theorem dX3_seek_110 : decode cX3_seek 110 = .ok (.iload 5, 2) := by decide +kernel
theorem dX3_seek_112 : decode cX3_seek 112 = .ok (.iload 6, 2) := by decide +kernel
theorem dX3_seek_114 : decode cX3_seek 114 = .ok (.iload 7, 2) := by decide +kernel
theorem dX3_seek_116 : decode cX3_seek 116 = .ok (.iload_n 1, 1) := by decide +kernel
theorem dX3_seek_117 : decode cX3_seek 117 = .ok (.invokevirtual 90, 3) := by decide +kernel
theorem dX3_seek_120 : decode cX3_seek 120 = .ok (.iinc 6 1, 3) := by decide +kernel
theorem dX3_seek_123 : decode cX3_seek 123 = .ok (.goto (-41), 3) := by decide +kernel
theorem dX3_seek_126 : decode cX3_seek 126 = .ok (.iinc 5 1, 3) := by decide +kernel
theorem dX3_seek_129 : decode cX3_seek 129 = .ok (.goto (-62), 3) := by decide +kernel
theorem dX3_seek_132 : decode cX3_seek 132 = .ok (.iinc 3 1, 3) := by decide +kernel
theorem dX3_seek_135 : decode cX3_seek 135 = .ok (.goto (-93), 3) := by decide +kernel
theorem dX3_seek_138 : decode cX3_seek 138 = .ok (.return_, 1) := by decide +kernel
theorem dX3_seekBehindMove_0 : decode cX3_seekBehindMove 0 = .ok (.aload_n 0, 1) := by decide +kernel
theorem dX3_seekBehindMove_1 : decode cX3_seekBehindMove 1 = .ok (.getfield 21, 3) := by decide +kernel
theorem dX3_seekBehindMove_4 : decode cX3_seekBehindMove 4 = .ok (.iload_n 1, 1) := by decide +kernel
theorem dX3_seekBehindMove_5 : decode cX3_seekBehindMove 5 = .ok (.iload_n 2, 1) := by decide +kernel
theorem dX3_seekBehindMove_6 : decode cX3_seekBehindMove 6 = .ok (.iload_n 3, 1) := by decide +kernel
theorem dX3_seekBehindMove_7 : decode cX3_seekBehindMove 7 = .ok (.invokevirtual 94, 3) := by decide +kernel
theorem dX3_seekBehindMove_10 : decode cX3_seekBehindMove 10 = .ok (.aload_n 0, 1) := by decide +kernel
theorem dX3_seekBehindMove_11 : decode cX3_seekBehindMove 11 = .ok (.getfield 25, 3) := by decide +kernel
theorem dX3_seekBehindMove_14 : decode cX3_seekBehindMove 14 = .ok (.iload_n 1, 1) := by decide +kernel
theorem dX3_seekBehindMove_15 : decode cX3_seekBehindMove 15 = .ok (.iload_n 2, 1) := by decide +kernel
theorem dX3_seekBehindMove_16 : decode cX3_seekBehindMove 16 = .ok (.iload_n 3, 1) := by decide +kernel
theorem dX3_seekBehindMove_17 : decode cX3_seekBehindMove 17 = .ok (.iload 4, 2) := by decide +kernel
theorem dX3_seekBehindMove_19 : decode cX3_seekBehindMove 19 = .ok (.invokevirtual 98, 3) := by decide +kernel
theorem dX3_seekBehindMove_22 : decode cX3_seekBehindMove 22 = .ok (.aload_n 0, 1) := by decide +kernel
theorem dX3_seekBehindMove_23 : decode cX3_seekBehindMove 23 = .ok (.iload 5, 2) := by decide +kernel
theorem dX3_seekBehindMove_25 : decode cX3_seekBehindMove 25 = .ok (.iconst 1, 1) := by decide +kernel
theorem dX3_seekBehindMove_26 : decode cX3_seekBehindMove 26 = .ok (.isub, 1) := by decide +kernel
theorem dX3_seekBehindMove_27 : decode cX3_seekBehindMove 27 = .ok (.invokevirtual 63, 3) := by decide +kernel
theorem dX3_seekBehindMove_30 : decode cX3_seekBehindMove 30 = .ok (.aload_n 0, 1) := by decide +kernel
theorem dX3_seekBehindMove_31 : decode cX3_seekBehindMove 31 = .ok (.getfield 25, 3) := by decide +kernel
theorem dX3_seekBehindMove_34 : decode cX3_seekBehindMove 34 = .ok (.iload 4, 2) := by decide +kernel
theorem dX3_seekBehindMove_36 : decode cX3_seekBehindMove 36 = .ok (.invokevirtual 102, 3) := by decide +kernel
theorem dX3_seekBehindMove_39 : decode cX3_seekBehindMove 39 = .ok (.aload_n 0, 1) := by decide +kernel
theorem dX3_seekBehindMove_40 : decode cX3_seekBehindMove 40 = .ok (.getfield 21, 3) := by decide +kernel
theorem dX3_seekBehindMove_43 : decode cX3_seekBehindMove 43 = .ok (.iload_n 2, 1) := by decide +kernel
theorem dX3_seekBehindMove_44 : decode cX3_seekBehindMove 44 = .ok (.iload_n 1, 1) := by decide +kernel
theorem dX3_seekBehindMove_45 : decode cX3_seekBehindMove 45 = .ok (.iload_n 3, 1) := by decide +kernel
theorem dX3_seekBehindMove_46 : decode cX3_seekBehindMove 46 = .ok (.invokevirtual 94, 3) := by decide +kernel
theorem dX3_seekBehindMove_49 : decode cX3_seekBehindMove 49 = .ok (.return_, 1) := by decide +kernel
theorem dX3_keepIfCheaper_0 : decode cX3_keepIfCheaper 0 = .ok (.aload_n 0, 1) := by decide +kernel
theorem dX3_keepIfCheaper_1 : decode cX3_keepIfCheaper 1 = .ok (.getfield 38, 3) := by decide +kernel
theorem dX3_keepIfCheaper_4 : decode cX3_keepIfCheaper 4 = .ok (.ifCond .eq 17, 3) := by decide +kernel
theorem dX3_keepIfCheaper_7 : decode cX3_keepIfCheaper 7 = .ok (.aload_n 0, 1) := by decide +kernel
theorem dX3_keepIfCheaper_8 : decode cX3_keepIfCheaper 8 = .ok (.getfield 25, 3) := by decide +kernel
theorem dX3_keepIfCheaper_11 : decode cX3_keepIfCheaper 11 = .ok (.aload_n 0, 1) := by decide +kernel
theorem dX3_keepIfCheaper_12 : decode cX3_keepIfCheaper 12 = .ok (.getfield 12, 3) := by decide +kernel
theorem dX3_keepIfCheaper_15 : decode cX3_keepIfCheaper 15 = .ok (.invokevirtual 105, 3) := by decide +kernel
theorem dX3_keepIfCheaper_18 : decode cX3_keepIfCheaper 18 = .ok (.ifCond .eq 19, 3) := by decide +kernel
theorem dX3_keepIfCheaper_21 : decode cX3_keepIfCheaper 21 = .ok (.aload_n 0, 1) := by decide +kernel
theorem dX3_keepIfCheaper_22 : decode cX3_keepIfCheaper 22 = .ok (.getfield 12, 3) := by decide +kernel
theorem dX3_keepIfCheaper_25 : decode cX3_keepIfCheaper 25 = .ok (.aload_n 0, 1) := by decide +kernel
theorem dX3_keepIfCheaper_26 : decode cX3_keepIfCheaper 26 = .ok (.getfield 25, 3) := by decide +kernel
theorem dX3_keepIfCheaper_29 : decode cX3_keepIfCheaper 29 = .ok (.invokevirtual 109, 3) := by decide +kernel
theorem dX3_keepIfCheaper_32 : decode cX3_keepIfCheaper 32 = .ok (.aload_n 0, 1) := by decide +kernel
theorem dX3_keepIfCheaper_33 : decode cX3_keepIfCheaper 33 = .ok (.iconst 1, 1) := by decide +kernel
theorem dX3_keepIfCheaper_34 : decode cX3_keepIfCheaper 34 = .ok (.putfield 38, 3) := by decide +kernel
theorem dX3_keepIfCheaper_37 : decode cX3_keepIfCheaper 37 = .ok (.return_, 1) := by decide +kernel
theorem dX3_isTooDear_0 : decode cX3_isTooDear 0 = .ok (.aload_n 0, 1) := by decide +kernel
theorem dX3_isTooDear_1 : decode cX3_isTooDear 1 = .ok (.getfield 21, 3) := by decide +kernel
theorem dX3_isTooDear_4 : decode cX3_isTooDear 4 = .ok (.getfield 112, 3) := by decide +kernel
theorem dX3_isTooDear_7 : decode cX3_isTooDear 7 = .ok (.iconst 2, 1) := by decide +kernel
theorem dX3_isTooDear_8 : decode cX3_isTooDear 8 = .ok (.iaload, 1) := by decide +kernel
theorem dX3_isTooDear_9 : decode cX3_isTooDear 9 = .ok (.iconst 1, 1) := by decide +kernel
theorem dX3_isTooDear_10 : decode cX3_isTooDear 10 = .ok (.iadd, 1) := by decide +kernel
theorem dX3_isTooDear_11 : decode cX3_isTooDear 11 = .ok (.iconst 2, 1) := by decide +kernel
theorem dX3_isTooDear_12 : decode cX3_isTooDear 12 = .ok (.iadd, 1) := by decide +kernel
theorem dX3_isTooDear_13 : decode cX3_isTooDear 13 = .ok (.istore_n 2, 1) := by decide +kernel
theorem dX3_isTooDear_14 : decode cX3_isTooDear 14 = .ok (.aload_n 0, 1) := by decide +kernel
theorem dX3_isTooDear_15 : decode cX3_isTooDear 15 = .ok (.getfield 38, 3) := by decide +kernel
theorem dX3_isTooDear_18 : decode cX3_isTooDear 18 = .ok (.ifCond .eq 28, 3) := by decide +kernel
theorem dX3_isTooDear_21 : decode cX3_isTooDear 21 = .ok (.aload_n 0, 1) := by decide +kernel
theorem dX3_isTooDear_22 : decode cX3_isTooDear 22 = .ok (.getfield 25, 3) := by decide +kernel
theorem dX3_isTooDear_25 : decode cX3_isTooDear 25 = .ok (.getfield 115, 3) := by decide +kernel
theorem dX3_isTooDear_28 : decode cX3_isTooDear 28 = .ok (.iload_n 1, 1) := by decide +kernel
theorem dX3_isTooDear_29 : decode cX3_isTooDear 29 = .ok (.iload_n 2, 1) := by decide +kernel
theorem dX3_isTooDear_30 : decode cX3_isTooDear 30 = .ok (.imul, 1) := by decide +kernel
theorem dX3_isTooDear_31 : decode cX3_isTooDear 31 = .ok (.iadd, 1) := by decide +kernel
theorem dX3_isTooDear_32 : decode cX3_isTooDear 32 = .ok (.aload_n 0, 1) := by decide +kernel
theorem dX3_isTooDear_33 : decode cX3_isTooDear 33 = .ok (.getfield 12, 3) := by decide +kernel
theorem dX3_isTooDear_36 : decode cX3_isTooDear 36 = .ok (.getfield 115, 3) := by decide +kernel
theorem dX3_isTooDear_39 : decode cX3_isTooDear 39 = .ok (.if_icmp .le 7, 3) := by decide +kernel
theorem dX3_isTooDear_42 : decode cX3_isTooDear 42 = .ok (.iconst 1, 1) := by decide +kernel
theorem dX3_isTooDear_43 : decode cX3_isTooDear 43 = .ok (.goto 4, 3) := by decide +kernel
theorem dX3_isTooDear_46 : decode cX3_isTooDear 46 = .ok (.iconst 0, 1) := by decide +kernel
theorem dX3_isTooDear_47 : decode cX3_isTooDear 47 = .ok (.ireturn, 1) := by decide +kernel
theorem dX3_movesNeeded_0 : decode cX3_movesNeeded 0 = .ok (.iconst 0, 1) := by decide +kernel
theorem dX3_movesNeeded_1 : decode cX3_movesNeeded 1 = .ok (.istore_n 1, 1) := by decide +kernel
theorem dX3_movesNeeded_2 : decode cX3_movesNeeded 2 = .ok (.iload_n 1, 1) := by decide +kernel
theorem dX3_movesNeeded_3 : decode cX3_movesNeeded 3 = .ok (.aload_n 0, 1) := by decide +kernel
theorem dX3_movesNeeded_4 : decode cX3_movesNeeded 4 = .ok (.getfield 21, 3) := by decide +kernel
theorem dX3_movesNeeded_7 : decode cX3_movesNeeded 7 = .ok (.getfield 80, 3) := by decide +kernel
theorem dX3_movesNeeded_10 : decode cX3_movesNeeded 10 = .ok (.if_icmp .ge 14, 3) := by decide +kernel
theorem dX3_movesNeeded_13 : decode cX3_movesNeeded 13 = .ok (.aload_n 0, 1) := by decide +kernel
theorem dX3_movesNeeded_14 : decode cX3_movesNeeded 14 = .ok (.iload_n 1, 1) := by decide +kernel
theorem dX3_movesNeeded_15 : decode cX3_movesNeeded 15 = .ok (.invokevirtual 118, 3) := by decide +kernel
theorem dX3_movesNeeded_18 : decode cX3_movesNeeded 18 = .ok (.iinc 1 1, 3) := by decide +kernel
theorem dX3_movesNeeded_21 : decode cX3_movesNeeded 21 = .ok (.goto (-19), 3) := by decide +kernel
theorem dX3_movesNeeded_24 : decode cX3_movesNeeded 24 = .ok (.aload_n 0, 1) := by decide +kernel
theorem dX3_movesNeeded_25 : decode cX3_movesNeeded 25 = .ok (.iconst 0, 1) := by decide +kernel
theorem dX3_movesNeeded_26 : decode cX3_movesNeeded 26 = .ok (.invokevirtual 121, 3) := by decide +kernel
theorem dX3_movesNeeded_29 : decode cX3_movesNeeded 29 = .ok (.istore_n 1, 1) := by decide +kernel
theorem dX3_movesNeeded_30 : decode cX3_movesNeeded 30 = .ok (.iconst 1, 1) := by decide +kernel
theorem dX3_movesNeeded_31 : decode cX3_movesNeeded 31 = .ok (.istore_n 2, 1) := by decide +kernel
theorem dX3_movesNeeded_32 : decode cX3_movesNeeded 32 = .ok (.iload_n 2, 1) := by decide +kernel
theorem dX3_movesNeeded_33 : decode cX3_movesNeeded 33 = .ok (.aload_n 0, 1) := by decide +kernel
theorem dX3_movesNeeded_34 : decode cX3_movesNeeded 34 = .ok (.getfield 21, 3) := by decide +kernel
theorem dX3_movesNeeded_37 : decode cX3_movesNeeded 37 = .ok (.getfield 80, 3) := by decide +kernel
theorem dX3_movesNeeded_40 : decode cX3_movesNeeded 40 = .ok (.if_icmp .ge 19, 3) := by decide +kernel
theorem dX3_movesNeeded_43 : decode cX3_movesNeeded 43 = .ok (.iload_n 1, 1) := by decide +kernel
theorem dX3_movesNeeded_44 : decode cX3_movesNeeded 44 = .ok (.aload_n 0, 1) := by decide +kernel
theorem dX3_movesNeeded_45 : decode cX3_movesNeeded 45 = .ok (.iload_n 2, 1) := by decide +kernel
theorem dX3_movesNeeded_46 : decode cX3_movesNeeded 46 = .ok (.invokevirtual 121, 3) := by decide +kernel
theorem dX3_movesNeeded_49 : decode cX3_movesNeeded 49 = .ok (.invokestatic 57, 3) := by decide +kernel
theorem dX3_movesNeeded_52 : decode cX3_movesNeeded 52 = .ok (.istore_n 1, 1) := by decide +kernel
theorem dX3_movesNeeded_53 : decode cX3_movesNeeded 53 = .ok (.iinc 2 1, 3) := by decide +kernel
theorem dX3_movesNeeded_56 : decode cX3_movesNeeded 56 = .ok (.goto (-24), 3) := by decide +kernel
theorem dX3_movesNeeded_59 : decode cX3_movesNeeded 59 = .ok (.iload_n 1, 1) := by decide +kernel
theorem dX3_movesNeeded_60 : decode cX3_movesNeeded 60 = .ok (.ireturn, 1) := by decide +kernel
theorem dX3_countWanted_0 : decode cX3_countWanted 0 = .ok (.iconst 0, 1) := by decide +kernel
theorem dX3_countWanted_1 : decode cX3_countWanted 1 = .ok (.istore_n 2, 1) := by decide +kernel
theorem dX3_countWanted_2 : decode cX3_countWanted 2 = .ok (.iconst 0, 1) := by decide +kernel
theorem dX3_countWanted_3 : decode cX3_countWanted 3 = .ok (.istore_n 3, 1) := by decide +kernel
theorem dX3_countWanted_4 : decode cX3_countWanted 4 = .ok (.iconst 0, 1) := by decide +kernel
theorem dX3_countWanted_5 : decode cX3_countWanted 5 = .ok (.istore 4, 2) := by decide +kernel
theorem dX3_countWanted_7 : decode cX3_countWanted 7 = .ok (.iconst 0, 1) := by decide +kernel
theorem dX3_countWanted_8 : decode cX3_countWanted 8 = .ok (.istore 5, 2) := by decide +kernel
theorem dX3_countWanted_10 : decode cX3_countWanted 10 = .ok (.iload 5, 2) := by decide +kernel
theorem dX3_countWanted_12 : decode cX3_countWanted 12 = .ok (.aload_n 0, 1) := by decide +kernel
theorem dX3_countWanted_13 : decode cX3_countWanted 13 = .ok (.getfield 21, 3) := by decide +kernel
theorem dX3_countWanted_16 : decode cX3_countWanted 16 = .ok (.getfield 83, 3) := by decide +kernel
theorem dX3_countWanted_19 : decode cX3_countWanted 19 = .ok (.iload_n 1, 1) := by decide +kernel
theorem dX3_countWanted_20 : decode cX3_countWanted 20 = .ok (.iaload, 1) := by decide +kernel
theorem dX3_countWanted_21 : decode cX3_countWanted 21 = .ok (.if_icmp .ge 43, 3) := by decide +kernel
theorem dX3_countWanted_24 : decode cX3_countWanted 24 = .ok (.aload_n 0, 1) := by decide +kernel
theorem dX3_countWanted_25 : decode cX3_countWanted 25 = .ok (.getfield 21, 3) := by decide +kernel
theorem dX3_countWanted_28 : decode cX3_countWanted 28 = .ok (.iload_n 1, 1) := by decide +kernel
theorem dX3_countWanted_29 : decode cX3_countWanted 29 = .ok (.iload 5, 2) := by decide +kernel
theorem dX3_countWanted_31 : decode cX3_countWanted 31 = .ok (.invokevirtual 125, 3) := by decide +kernel
theorem dX3_countWanted_34 : decode cX3_countWanted 34 = .ok (.ifCond .eq 21, 3) := by decide +kernel
theorem dX3_countWanted_37 : decode cX3_countWanted 37 = .ok (.iinc 2 1, 3) := by decide +kernel
theorem dX3_countWanted_40 : decode cX3_countWanted 40 = .ok (.iinc 4 1, 3) := by decide +kernel
theorem dX3_countWanted_43 : decode cX3_countWanted 43 = .ok (.iload_n 3, 1) := by decide +kernel
theorem dX3_countWanted_44 : decode cX3_countWanted 44 = .ok (.iload 5, 2) := by decide +kernel
theorem dX3_countWanted_46 : decode cX3_countWanted 46 = .ok (.if_icmp .ne 12, 3) := by decide +kernel
theorem dX3_countWanted_49 : decode cX3_countWanted 49 = .ok (.iinc 3 1, 3) := by decide +kernel
theorem dX3_countWanted_52 : decode cX3_countWanted 52 = .ok (.goto 6, 3) := by decide +kernel
theorem dX3_countWanted_55 : decode cX3_countWanted 55 = .ok (.iconst 0, 1) := by decide +kernel
theorem dX3_countWanted_56 : decode cX3_countWanted 56 = .ok (.istore 4, 2) := by decide +kernel
theorem dX3_countWanted_58 : decode cX3_countWanted 58 = .ok (.iinc 5 1, 3) := by decide +kernel
theorem dX3_countWanted_61 : decode cX3_countWanted 61 = .ok (.goto (-51), 3) := by decide +kernel
theorem dX3_countWanted_64 : decode cX3_countWanted 64 = .ok (.aload_n 0, 1) := by decide +kernel
theorem dX3_countWanted_65 : decode cX3_countWanted 65 = .ok (.getfield 28, 3) := by decide +kernel
theorem dX3_countWanted_68 : decode cX3_countWanted 68 = .ok (.iload_n 1, 1) := by decide +kernel
theorem dX3_countWanted_69 : decode cX3_countWanted 69 = .ok (.iload_n 2, 1) := by decide +kernel
theorem dX3_countWanted_70 : decode cX3_countWanted 70 = .ok (.iastore, 1) := by decide +kernel
theorem dX3_countWanted_71 : decode cX3_countWanted 71 = .ok (.aload_n 0, 1) := by decide +kernel
theorem dX3_countWanted_72 : decode cX3_countWanted 72 = .ok (.getfield 32, 3) := by decide +kernel
theorem dX3_countWanted_75 : decode cX3_countWanted 75 = .ok (.iload_n 1, 1) := by decide +kernel
theorem dX3_countWanted_76 : decode cX3_countWanted 76 = .ok (.iload_n 3, 1) := by decide +kernel
theorem dX3_countWanted_77 : decode cX3_countWanted 77 = .ok (.iastore, 1) := by decide +kernel
theorem dX3_countWanted_78 : decode cX3_countWanted 78 = .ok (.aload_n 0, 1) := by decide +kernel
theorem dX3_countWanted_79 : decode cX3_countWanted 79 = .ok (.getfield 35, 3) := by decide +kernel
theorem dX3_countWanted_82 : decode cX3_countWanted 82 = .ok (.iload_n 1, 1) := by decide +kernel
theorem dX3_countWanted_83 : decode cX3_countWanted 83 = .ok (.iload 4, 2) := by decide +kernel
theorem dX3_countWanted_85 : decode cX3_countWanted 85 = .ok (.iastore, 1) := by decide +kernel
theorem dX3_countWanted_86 : decode cX3_countWanted 86 = .ok (.return_, 1) := by decide +kernel
theorem dX3_movesNeededFor_0 : decode cX3_movesNeededFor 0 = .ok (.aload_n 0, 1) := by decide +kernel
theorem dX3_movesNeededFor_1 : decode cX3_movesNeededFor 1 = .ok (.getfield 32, 3) := by decide +kernel
theorem dX3_movesNeededFor_4 : decode cX3_movesNeededFor 4 = .ok (.iload_n 1, 1) := by decide +kernel
theorem dX3_movesNeededFor_5 : decode cX3_movesNeededFor 5 = .ok (.iaload, 1) := by decide +kernel
theorem dX3_movesNeededFor_6 : decode cX3_movesNeededFor 6 = .ok (.aload_n 0, 1) := by decide +kernel
theorem dX3_movesNeededFor_7 : decode cX3_movesNeededFor 7 = .ok (.getfield 21, 3) := by decide +kernel
theorem dX3_movesNeededFor_10 : decode cX3_movesNeededFor 10 = .ok (.getfield 83, 3) := by decide +kernel
theorem dX3_movesNeededFor_13 : decode cX3_movesNeededFor 13 = .ok (.iload_n 1, 1) := by decide +kernel
theorem dX3_movesNeededFor_14 : decode cX3_movesNeededFor 14 = .ok (.iaload, 1) := by decide +kernel
theorem dX3_movesNeededFor_15 : decode cX3_movesNeededFor 15 = .ok (.if_icmp .ge 7, 3) := by decide +kernel
theorem dX3_movesNeededFor_18 : decode cX3_movesNeededFor 18 = .ok (.iconst 1, 1) := by decide +kernel
theorem dX3_movesNeededFor_19 : decode cX3_movesNeededFor 19 = .ok (.goto 4, 3) := by decide +kernel
theorem dX3_movesNeededFor_22 : decode cX3_movesNeededFor 22 = .ok (.iconst 0, 1) := by decide +kernel
theorem dX3_movesNeededFor_23 : decode cX3_movesNeededFor 23 = .ok (.istore_n 2, 1) := by decide +kernel
theorem dX3_movesNeededFor_24 : decode cX3_movesNeededFor 24 = .ok (.aload_n 0, 1) := by decide +kernel
theorem dX3_movesNeededFor_25 : decode cX3_movesNeededFor 25 = .ok (.getfield 32, 3) := by decide +kernel
theorem dX3_movesNeededFor_28 : decode cX3_movesNeededFor 28 = .ok (.iload_n 1, 1) := by decide +kernel
theorem dX3_movesNeededFor_29 : decode cX3_movesNeededFor 29 = .ok (.iaload, 1) := by decide +kernel
theorem dX3_movesNeededFor_30 : decode cX3_movesNeededFor 30 = .ok (.aload_n 0, 1) := by decide +kernel
theorem dX3_movesNeededFor_31 : decode cX3_movesNeededFor 31 = .ok (.getfield 28, 3) := by decide +kernel
theorem dX3_movesNeededFor_34 : decode cX3_movesNeededFor 34 = .ok (.iload_n 1, 1) := by decide +kernel
theorem dX3_movesNeededFor_35 : decode cX3_movesNeededFor 35 = .ok (.iaload, 1) := by decide +kernel
theorem dX3_movesNeededFor_36 : decode cX3_movesNeededFor 36 = .ok (.if_icmp .ge 7, 3) := by decide +kernel
theorem dX3_movesNeededFor_39 : decode cX3_movesNeededFor 39 = .ok (.iconst 1, 1) := by decide +kernel
theorem dX3_movesNeededFor_40 : decode cX3_movesNeededFor 40 = .ok (.goto 4, 3) := by decide +kernel
theorem dX3_movesNeededFor_43 : decode cX3_movesNeededFor 43 = .ok (.iconst 0, 1) := by decide +kernel
theorem dX3_movesNeededFor_44 : decode cX3_movesNeededFor 44 = .ok (.istore_n 3, 1) := by decide +kernel
theorem dX3_movesNeededFor_45 : decode cX3_movesNeededFor 45 = .ok (.iconst 0, 1) := by decide +kernel
theorem dX3_movesNeededFor_46 : decode cX3_movesNeededFor 46 = .ok (.istore 4, 2) := by decide +kernel
theorem dX3_movesNeededFor_48 : decode cX3_movesNeededFor 48 = .ok (.iload 4, 2) := by decide +kernel
theorem dX3_movesNeededFor_50 : decode cX3_movesNeededFor 50 = .ok (.aload_n 0, 1) := by decide +kernel
theorem dX3_movesNeededFor_51 : decode cX3_movesNeededFor 51 = .ok (.getfield 21, 3) := by decide +kernel
theorem dX3_movesNeededFor_54 : decode cX3_movesNeededFor 54 = .ok (.getfield 80, 3) := by decide +kernel
theorem dX3_movesNeededFor_57 : decode cX3_movesNeededFor 57 = .ok (.if_icmp .ge 55, 3) := by decide +kernel
theorem dX3_movesNeededFor_60 : decode cX3_movesNeededFor 60 = .ok (.iload 4, 2) := by decide +kernel
theorem dX3_movesNeededFor_62 : decode cX3_movesNeededFor 62 = .ok (.iload_n 1, 1) := by decide +kernel
theorem dX3_movesNeededFor_63 : decode cX3_movesNeededFor 63 = .ok (.if_icmp .eq 43, 3) := by decide +kernel
theorem dX3_movesNeededFor_66 : decode cX3_movesNeededFor 66 = .ok (.aload_n 0, 1) := by decide +kernel
theorem dX3_movesNeededFor_67 : decode cX3_movesNeededFor 67 = .ok (.getfield 28, 3) := by decide +kernel
theorem dX3_movesNeededFor_70 : decode cX3_movesNeededFor 70 = .ok (.iload 4, 2) := by decide +kernel
theorem dX3_movesNeededFor_72 : decode cX3_movesNeededFor 72 = .ok (.iaload, 1) := by decide +kernel
theorem dX3_movesNeededFor_73 : decode cX3_movesNeededFor 73 = .ok (.ifCond .le 33, 3) := by decide +kernel
theorem dX3_movesNeededFor_76 : decode cX3_movesNeededFor 76 = .ok (.iinc 2 1, 3) := by decide +kernel
theorem dX3_movesNeededFor_79 : decode cX3_movesNeededFor 79 = .ok (.iload_n 3, 1) := by decide +kernel
theorem dX3_movesNeededFor_80 : decode cX3_movesNeededFor 80 = .ok (.ifCond .ne 20, 3) := by decide +kernel
theorem dX3_movesNeededFor_83 : decode cX3_movesNeededFor 83 = .ok (.aload_n 0, 1) := by decide +kernel
theorem dX3_movesNeededFor_84 : decode cX3_movesNeededFor 84 = .ok (.getfield 35, 3) := by decide +kernel
theorem dX3_movesNeededFor_87 : decode cX3_movesNeededFor 87 = .ok (.iload 4, 2) := by decide +kernel
theorem dX3_movesNeededFor_89 : decode cX3_movesNeededFor 89 = .ok (.iaload, 1) := by decide +kernel
theorem dX3_movesNeededFor_90 : decode cX3_movesNeededFor 90 = .ok (.aload_n 0, 1) := by decide +kernel
theorem dX3_movesNeededFor_91 : decode cX3_movesNeededFor 91 = .ok (.getfield 28, 3) := by decide +kernel
theorem dX3_movesNeededFor_94 : decode cX3_movesNeededFor 94 = .ok (.iload 4, 2) := by decide +kernel
theorem dX3_movesNeededFor_96 : decode cX3_movesNeededFor 96 = .ok (.iaload, 1) := by decide +kernel
theorem dX3_movesNeededFor_97 : decode cX3_movesNeededFor 97 = .ok (.if_icmp .ge 7, 3) := by decide +kernel
theorem dX3_movesNeededFor_100 : decode cX3_movesNeededFor 100 = .ok (.iconst 1, 1) := by decide +kernel
theorem dX3_movesNeededFor_101 : decode cX3_movesNeededFor 101 = .ok (.goto 4, 3) := by decide +kernel
theorem dX3_movesNeededFor_104 : decode cX3_movesNeededFor 104 = .ok (.iconst 0, 1) := by decide +kernel
theorem dX3_movesNeededFor_105 : decode cX3_movesNeededFor 105 = .ok (.istore_n 3, 1) := by decide +kernel
theorem dX3_movesNeededFor_106 : decode cX3_movesNeededFor 106 = .ok (.iinc 4 1, 3) := by decide +kernel
theorem dX3_movesNeededFor_109 : decode cX3_movesNeededFor 109 = .ok (.goto (-61), 3) := by decide +kernel
theorem dX3_movesNeededFor_112 : decode cX3_movesNeededFor 112 = .ok (.iload_n 3, 1) := by decide +kernel
theorem dX3_movesNeededFor_113 : decode cX3_movesNeededFor 113 = .ok (.ifCond .eq 9, 3) := by decide +kernel
theorem dX3_movesNeededFor_116 : decode cX3_movesNeededFor 116 = .ok (.iload_n 2, 1) := by decide +kernel
theorem dX3_movesNeededFor_117 : decode cX3_movesNeededFor 117 = .ok (.iconst 1, 1) := by decide +kernel
theorem dX3_movesNeededFor_118 : decode cX3_movesNeededFor 118 = .ok (.iadd, 1) := by decide +kernel
theorem dX3_movesNeededFor_119 : decode cX3_movesNeededFor 119 = .ok (.goto 4, 3) := by decide +kernel
theorem dX3_movesNeededFor_122 : decode cX3_movesNeededFor 122 = .ok (.iload_n 2, 1) := by decide +kernel
theorem dX3_movesNeededFor_123 : decode cX3_movesNeededFor 123 = .ok (.ireturn, 1) := by decide +kernel
theorem dX4_init_0 : decode cX4_init 0 = .ok (.aload_n 0, 1) := by decide +kernel
theorem dX4_init_1 : decode cX4_init 1 = .ok (.invokespecial 3, 3) := by decide +kernel
theorem dX4_init_4 : decode cX4_init 4 = .ok (.aload_n 0, 1) := by decide +kernel
theorem dX4_init_5 : decode cX4_init 5 = .ok (.bipush 60, 2) := by decide +kernel
theorem dX4_init_7 : decode cX4_init 7 = .ok (.newarray .int, 2) := by decide +kernel
theorem dX4_init_9 : decode cX4_init 9 = .ok (.putfield 9, 3) := by decide +kernel
theorem dX4_init_12 : decode cX4_init 12 = .ok (.aload_n 0, 1) := by decide +kernel
theorem dX4_init_13 : decode cX4_init 13 = .ok (.bipush 10, 2) := by decide +kernel
theorem dX4_init_15 : decode cX4_init 15 = .ok (.newarray .int, 2) := by decide +kernel
theorem dX4_init_17 : decode cX4_init 17 = .ok (.putfield 15, 3) := by decide +kernel
theorem dX4_init_20 : decode cX4_init 20 = .ok (.aload_n 0, 1) := by decide +kernel
theorem dX4_init_21 : decode cX4_init 21 = .ok (.bipush (-9), 2) := by decide +kernel
theorem dX4_init_23 : decode cX4_init 23 = .ok (.putfield 18, 3) := by decide +kernel
theorem dX4_init_26 : decode cX4_init 26 = .ok (.aload_n 0, 1) := by decide +kernel
theorem dX4_init_27 : decode cX4_init 27 = .ok (.bipush (-9), 2) := by decide +kernel
theorem dX4_init_29 : decode cX4_init 29 = .ok (.putfield 22, 3) := by decide +kernel
theorem dX4_init_32 : decode cX4_init 32 = .ok (.return_, 1) := by decide +kernel
theorem dX4_append_0 : decode cX4_append 0 = .ok (.aload_n 0, 1) := by decide +kernel
theorem dX4_append_1 : decode cX4_append 1 = .ok (.getfield 9, 3) := by decide +kernel
theorem dX4_append_4 : decode cX4_append 4 = .ok (.aload_n 0, 1) := by decide +kernel
theorem dX4_append_5 : decode cX4_append 5 = .ok (.getfield 25, 3) := by decide +kernel
theorem dX4_append_8 : decode cX4_append 8 = .ok (.iload_n 1, 1) := by decide +kernel
theorem dX4_append_9 : decode cX4_append 9 = .ok (.iastore, 1) := by decide +kernel
theorem dX4_append_10 : decode cX4_append 10 = .ok (.aload_n 0, 1) := by decide +kernel
theorem dX4_append_11 : decode cX4_append 11 = .ok (.dup, 1) := by decide +kernel
theorem dX4_append_12 : decode cX4_append 12 = .ok (.getfield 25, 3) := by decide +kernel
theorem dX4_append_15 : decode cX4_append 15 = .ok (.iconst 1, 1) := by decide +kernel
theorem dX4_append_16 : decode cX4_append 16 = .ok (.iadd, 1) := by decide +kernel
theorem dX4_append_17 : decode cX4_append 17 = .ok (.putfield 25, 3) := by decide +kernel
theorem dX4_append_20 : decode cX4_append 20 = .ok (.return_, 1) := by decide +kernel
theorem dX4_readWagons_0 : decode cX4_readWagons 0 = .ok (.aload_n 0, 1) := by decide +kernel
theorem dX4_readWagons_1 : decode cX4_readWagons 1 = .ok (.iconst 0, 1) := by decide +kernel
theorem dX4_readWagons_2 : decode cX4_readWagons 2 = .ok (.putfield 28, 3) := by decide +kernel
theorem dX4_readWagons_5 : decode cX4_readWagons 5 = .ok (.iconst 0, 1) := by decide +kernel
theorem dX4_readWagons_6 : decode cX4_readWagons 6 = .ok (.istore_n 1, 1) := by decide +kernel
theorem dX4_readWagons_7 : decode cX4_readWagons 7 = .ok (.iconst 1, 1) := by decide +kernel
theorem dX4_readWagons_8 : decode cX4_readWagons 8 = .ok (.istore_n 2, 1) := by decide +kernel
theorem dX4_readWagons_9 : decode cX4_readWagons 9 = .ok (.iconst 0, 1) := by decide +kernel
theorem dX4_readWagons_10 : decode cX4_readWagons 10 = .ok (.istore_n 3, 1) := by decide +kernel
theorem dX4_readWagons_11 : decode cX4_readWagons 11 = .ok (.iconst 0, 1) := by decide +kernel
theorem dX4_readWagons_12 : decode cX4_readWagons 12 = .ok (.istore 4, 2) := by decide +kernel
theorem dX4_readWagons_14 : decode cX4_readWagons 14 = .ok (.iload 4, 2) := by decide +kernel
theorem dX4_readWagons_16 : decode cX4_readWagons 16 = .ok (.aload_n 0, 1) := by decide +kernel
theorem dX4_readWagons_17 : decode cX4_readWagons 17 = .ok (.getfield 25, 3) := by decide +kernel
theorem dX4_readWagons_20 : decode cX4_readWagons 20 = .ok (.if_icmp .ge 190, 3) := by decide +kernel
theorem dX4_readWagons_23 : decode cX4_readWagons 23 = .ok (.aload_n 0, 1) := by decide +kernel
theorem dX4_readWagons_24 : decode cX4_readWagons 24 = .ok (.getfield 9, 3) := by decide +kernel
theorem dX4_readWagons_27 : decode cX4_readWagons 27 = .ok (.iload 4, 2) := by decide +kernel
theorem dX4_readWagons_29 : decode cX4_readWagons 29 = .ok (.iaload, 1) := by decide +kernel
theorem dX4_readWagons_30 : decode cX4_readWagons 30 = .ok (.istore 5, 2) := by decide +kernel
theorem dX4_readWagons_32 : decode cX4_readWagons 32 = .ok (.iload 5, 2) := by decide +kernel
theorem dX4_readWagons_34 : decode cX4_readWagons 34 = .ok (.bipush 32, 2) := by decide +kernel
theorem dX4_readWagons_36 : decode cX4_readWagons 36 = .ok (.if_icmp .ne 15, 3) := by decide +kernel
theorem dX4_readWagons_39 : decode cX4_readWagons 39 = .ok (.iload_n 1, 1) := by decide +kernel
theorem dX4_readWagons_40 : decode cX4_readWagons 40 = .ok (.iconst 1, 1) := by decide +kernel
theorem dX4_readWagons_41 : decode cX4_readWagons 41 = .ok (.if_icmp .eq 10, 3) := by decide +kernel
theorem dX4_readWagons_44 : decode cX4_readWagons 44 = .ok (.iconst 0, 1) := by decide +kernel
theorem dX4_readWagons_45 : decode cX4_readWagons 45 = .ok (.istore_n 1, 1) := by decide +kernel
theorem dX4_readWagons_46 : decode cX4_readWagons 46 = .ok (.iconst 1, 1) := by decide +kernel
theorem dX4_readWagons_47 : decode cX4_readWagons 47 = .ok (.istore_n 2, 1) := by decide +kernel
theorem dX4_readWagons_48 : decode cX4_readWagons 48 = .ok (.goto 156, 3) := by decide +kernel
theorem dX4_readWagons_51 : decode cX4_readWagons 51 = .ok (.iload 5, 2) := by decide +kernel
theorem dX4_readWagons_53 : decode cX4_readWagons 53 = .ok (.bipush 49, 2) := by decide +kernel
theorem dX4_readWagons_55 : decode cX4_readWagons 55 = .ok (.bipush 56, 2) := by decide +kernel
theorem dX4_readWagons_57 : decode cX4_readWagons 57 = .ok (.invokestatic 31, 3) := by decide +kernel
theorem dX4_readWagons_60 : decode cX4_readWagons 60 = .ok (.ifCond .eq 18, 3) := by decide +kernel
theorem dX4_readWagons_63 : decode cX4_readWagons 63 = .ok (.iload_n 1, 1) := by decide +kernel
theorem dX4_readWagons_64 : decode cX4_readWagons 64 = .ok (.ifCond .ne 14, 3) := by decide +kernel
theorem dX4_readWagons_67 : decode cX4_readWagons 67 = .ok (.iconst 1, 1) := by decide +kernel
theorem dX4_readWagons_68 : decode cX4_readWagons 68 = .ok (.istore_n 1, 1) := by decide +kernel
theorem dX4_readWagons_69 : decode cX4_readWagons 69 = .ok (.iload 5, 2) := by decide +kernel
theorem dX4_readWagons_71 : decode cX4_readWagons 71 = .ok (.bipush 48, 2) := by decide +kernel
theorem dX4_readWagons_73 : decode cX4_readWagons 73 = .ok (.isub, 1) := by decide +kernel
theorem dX4_readWagons_74 : decode cX4_readWagons 74 = .ok (.istore_n 2, 1) := by decide +kernel
theorem dX4_readWagons_75 : decode cX4_readWagons 75 = .ok (.goto 129, 3) := by decide +kernel
theorem dX4_readWagons_78 : decode cX4_readWagons 78 = .ok (.iload 5, 2) := by decide +kernel
theorem dX4_readWagons_80 : decode cX4_readWagons 80 = .ok (.bipush 65, 2) := by decide +kernel
theorem dX4_readWagons_82 : decode cX4_readWagons 82 = .ok (.bipush 70, 2) := by decide +kernel
theorem dX4_readWagons_84 : decode cX4_readWagons 84 = .ok (.invokestatic 31, 3) := by decide +kernel
theorem dX4_readWagons_87 : decode cX4_readWagons 87 = .ok (.ifCond .eq 63, 3) := by decide +kernel
theorem dX4_readWagons_90 : decode cX4_readWagons 90 = .ok (.iload_n 1, 1) := by decide +kernel
theorem dX4_readWagons_91 : decode cX4_readWagons 91 = .ok (.ifCond .eq 8, 3) := by decide +kernel
theorem dX4_readWagons_94 : decode cX4_readWagons 94 = .ok (.iload_n 1, 1) := by decide +kernel
theorem dX4_readWagons_95 : decode cX4_readWagons 95 = .ok (.iconst 1, 1) := by decide +kernel
theorem dX4_readWagons_96 : decode cX4_readWagons 96 = .ok (.if_icmp .ne 54, 3) := by decide +kernel
theorem dX4_readWagons_99 : decode cX4_readWagons 99 = .ok (.aload_n 0, 1) := by decide +kernel
theorem dX4_readWagons_100 : decode cX4_readWagons 100 = .ok (.getfield 28, 3) := by decide +kernel
theorem dX4_readWagons_103 : decode cX4_readWagons 103 = .ok (.iload_n 2, 1) := by decide +kernel
theorem dX4_readWagons_104 : decode cX4_readWagons 104 = .ok (.iadd, 1) := by decide +kernel
theorem dX4_readWagons_105 : decode cX4_readWagons 105 = .ok (.bipush 8, 2) := by decide +kernel
theorem dX4_readWagons_107 : decode cX4_readWagons 107 = .ok (.if_icmp .le 11, 3) := by decide +kernel
theorem dX4_readWagons_110 : decode cX4_readWagons 110 = .ok (.aload_n 0, 1) := by decide +kernel
theorem dX4_readWagons_111 : decode cX4_readWagons 111 = .ok (.iconst 3, 1) := by decide +kernel
theorem dX4_readWagons_112 : decode cX4_readWagons 112 = .ok (.iload 4, 2) := by decide +kernel
theorem dX4_readWagons_114 : decode cX4_readWagons 114 = .ok (.invokevirtual 35, 3) := by decide +kernel
theorem dX4_readWagons_117 : decode cX4_readWagons 117 = .ok (.ireturn, 1) := by decide +kernel
theorem dX4_readWagons_118 : decode cX4_readWagons 118 = .ok (.iconst 2, 1) := by decide +kernel
theorem dX4_readWagons_119 : decode cX4_readWagons 119 = .ok (.istore_n 1, 1) := by decide +kernel
theorem dX4_readWagons_120 : decode cX4_readWagons 120 = .ok (.iload 5, 2) := by decide +kernel
theorem dX4_readWagons_122 : decode cX4_readWagons 122 = .ok (.bipush 65, 2) := by decide +kernel
theorem dX4_readWagons_124 : decode cX4_readWagons 124 = .ok (.isub, 1) := by decide +kernel
theorem dX4_readWagons_125 : decode cX4_readWagons 125 = .ok (.istore_n 3, 1) := by decide +kernel
theorem dX4_readWagons_126 : decode cX4_readWagons 126 = .ok (.aload_n 0, 1) := by decide +kernel
theorem dX4_readWagons_127 : decode cX4_readWagons 127 = .ok (.dup, 1) := by decide +kernel
theorem dX4_readWagons_128 : decode cX4_readWagons 128 = .ok (.getfield 28, 3) := by decide +kernel
theorem dX4_readWagons_131 : decode cX4_readWagons 131 = .ok (.iload_n 2, 1) := by decide +kernel
theorem dX4_readWagons_132 : decode cX4_readWagons 132 = .ok (.iadd, 1) := by decide +kernel
theorem dX4_readWagons_133 : decode cX4_readWagons 133 = .ok (.putfield 28, 3) := by decide +kernel
theorem dX4_readWagons_136 : decode cX4_readWagons 136 = .ok (.aload_n 0, 1) := by decide +kernel
theorem dX4_readWagons_137 : decode cX4_readWagons 137 = .ok (.iload_n 2, 1) := by decide +kernel
theorem dX4_readWagons_138 : decode cX4_readWagons 138 = .ok (.iconst 0, 1) := by decide +kernel
theorem dX4_readWagons_139 : decode cX4_readWagons 139 = .ok (.iload_n 3, 1) := by decide +kernel
theorem dX4_readWagons_140 : decode cX4_readWagons 140 = .ok (.iconst 0, 1) := by decide +kernel
theorem dX4_readWagons_141 : decode cX4_readWagons 141 = .ok (.invokestatic 39, 3) := by decide +kernel
theorem dX4_readWagons_144 : decode cX4_readWagons 144 = .ok (.invokevirtual 43, 3) := by decide +kernel
theorem dX4_readWagons_147 : decode cX4_readWagons 147 = .ok (.goto 57, 3) := by decide +kernel
theorem dX4_readWagons_150 : decode cX4_readWagons 150 = .ok (.iload 5, 2) := by decide +kernel
theorem dX4_readWagons_152 : decode cX4_readWagons 152 = .ok (.bipush 102, 2) := by decide +kernel
theorem dX4_readWagons_154 : decode cX4_readWagons 154 = .ok (.if_icmp .eq 10, 3) := by decide +kernel
theorem dX4_readWagons_157 : decode cX4_readWagons 157 = .ok (.iload 5, 2) := by decide +kernel
theorem dX4_readWagons_159 : decode cX4_readWagons 159 = .ok (.bipush 120, 2) := by decide +kernel
theorem dX4_readWagons_161 : decode cX4_readWagons 161 = .ok (.if_icmp .ne 35, 3) := by decide +kernel
theorem dX4_readWagons_164 : decode cX4_readWagons 164 = .ok (.iload_n 1, 1) := by decide +kernel
theorem dX4_readWagons_165 : decode cX4_readWagons 165 = .ok (.iconst 2, 1) := by decide +kernel
theorem dX4_readWagons_166 : decode cX4_readWagons 166 = .ok (.if_icmp .ne 30, 3) := by decide +kernel
theorem dX4_readWagons_169 : decode cX4_readWagons 169 = .ok (.iconst 3, 1) := by decide +kernel
theorem dX4_readWagons_170 : decode cX4_readWagons 170 = .ok (.istore_n 1, 1) := by decide +kernel
theorem dX4_readWagons_171 : decode cX4_readWagons 171 = .ok (.aload_n 0, 1) := by decide +kernel
theorem dX4_readWagons_172 : decode cX4_readWagons 172 = .ok (.iload_n 2, 1) := by decide +kernel
theorem dX4_readWagons_173 : decode cX4_readWagons 173 = .ok (.iconst 0, 1) := by decide +kernel
theorem dX4_readWagons_174 : decode cX4_readWagons 174 = .ok (.iload_n 3, 1) := by decide +kernel
theorem dX4_readWagons_175 : decode cX4_readWagons 175 = .ok (.iload 5, 2) := by decide +kernel
theorem dX4_readWagons_177 : decode cX4_readWagons 177 = .ok (.bipush 102, 2) := by decide +kernel
theorem dX4_readWagons_179 : decode cX4_readWagons 179 = .ok (.if_icmp .ne 7, 3) := by decide +kernel
theorem dX4_readWagons_182 : decode cX4_readWagons 182 = .ok (.iconst 1, 1) := by decide +kernel
theorem dX4_readWagons_183 : decode cX4_readWagons 183 = .ok (.goto 4, 3) := by decide +kernel
theorem dX4_readWagons_186 : decode cX4_readWagons 186 = .ok (.iconst 2, 1) := by decide +kernel
theorem dX4_readWagons_187 : decode cX4_readWagons 187 = .ok (.invokestatic 39, 3) := by decide +kernel
theorem dX4_readWagons_190 : decode cX4_readWagons 190 = .ok (.invokevirtual 43, 3) := by decide +kernel
theorem dX4_readWagons_193 : decode cX4_readWagons 193 = .ok (.goto 11, 3) := by decide +kernel
theorem dX4_readWagons_196 : decode cX4_readWagons 196 = .ok (.aload_n 0, 1) := by decide +kernel
theorem dX4_readWagons_197 : decode cX4_readWagons 197 = .ok (.iconst 1, 1) := by decide +kernel
theorem dX4_readWagons_198 : decode cX4_readWagons 198 = .ok (.iload 4, 2) := by decide +kernel
theorem dX4_readWagons_200 : decode cX4_readWagons 200 = .ok (.invokevirtual 35, 3) := by decide +kernel
theorem dX4_readWagons_203 : decode cX4_readWagons 203 = .ok (.ireturn, 1) := by decide +kernel
theorem dX4_readWagons_204 : decode cX4_readWagons 204 = .ok (.iinc 4 1, 3) := by decide +kernel
theorem dX4_readWagons_207 : decode cX4_readWagons 207 = .ok (.goto (-193), 3) := by decide +kernel
theorem dX4_readWagons_210 : decode cX4_readWagons 210 = .ok (.iload_n 1, 1) := by decide +kernel
theorem dX4_readWagons_211 : decode cX4_readWagons 211 = .ok (.iconst 1, 1) := by decide +kernel
theorem dX4_readWagons_212 : decode cX4_readWagons 212 = .ok (.if_icmp .ne 15, 3) := by decide +kernel
theorem dX4_readWagons_215 : decode cX4_readWagons 215 = .ok (.aload_n 0, 1) := by decide +kernel
theorem dX4_readWagons_216 : decode cX4_readWagons 216 = .ok (.iconst 2, 1) := by decide +kernel
theorem dX4_readWagons_217 : decode cX4_readWagons 217 = .ok (.aload_n 0, 1) := by decide +kernel
theorem dX4_readWagons_218 : decode cX4_readWagons 218 = .ok (.getfield 25, 3) := by decide +kernel
theorem dX4_readWagons_221 : decode cX4_readWagons 221 = .ok (.invokevirtual 35, 3) := by decide +kernel
theorem dX4_readWagons_224 : decode cX4_readWagons 224 = .ok (.ifCond .eq 7, 3) := by decide +kernel
theorem dX4_readWagons_227 : decode cX4_readWagons 227 = .ok (.iconst 1, 1) := by decide +kernel
theorem dX4_readWagons_228 : decode cX4_readWagons 228 = .ok (.goto 4, 3) := by decide +kernel
theorem dX4_readWagons_231 : decode cX4_readWagons 231 = .ok (.iconst 0, 1) := by decide +kernel
theorem dX4_readWagons_232 : decode cX4_readWagons 232 = .ok (.ireturn, 1) := by decide +kernel
theorem dX4_fillLatest_0 : decode cX4_fillLatest 0 = .ok (.aload_n 0, 1) := by decide +kernel
theorem dX4_fillLatest_1 : decode cX4_fillLatest 1 = .ok (.getfield 28, 3) := by decide +kernel
theorem dX4_fillLatest_4 : decode cX4_fillLatest 4 = .ok (.iload_n 1, 1) := by decide +kernel
theorem dX4_fillLatest_5 : decode cX4_fillLatest 5 = .ok (.isub, 1) := by decide +kernel
theorem dX4_fillLatest_6 : decode cX4_fillLatest 6 = .ok (.istore_n 3, 1) := by decide +kernel
theorem dX4_fillLatest_7 : decode cX4_fillLatest 7 = .ok (.iload_n 3, 1) := by decide +kernel
theorem dX4_fillLatest_8 : decode cX4_fillLatest 8 = .ok (.aload_n 0, 1) := by decide +kernel
theorem dX4_fillLatest_9 : decode cX4_fillLatest 9 = .ok (.getfield 28, 3) := by decide +kernel
theorem dX4_fillLatest_12 : decode cX4_fillLatest 12 = .ok (.if_icmp .ge 16, 3) := by decide +kernel
theorem dX4_fillLatest_15 : decode cX4_fillLatest 15 = .ok (.aload_n 0, 1) := by decide +kernel
theorem dX4_fillLatest_16 : decode cX4_fillLatest 16 = .ok (.getfield 15, 3) := by decide +kernel
theorem dX4_fillLatest_19 : decode cX4_fillLatest 19 = .ok (.iload_n 3, 1) := by decide +kernel
theorem dX4_fillLatest_20 : decode cX4_fillLatest 20 = .ok (.iload_n 2, 1) := by decide +kernel
theorem dX4_fillLatest_21 : decode cX4_fillLatest 21 = .ok (.iastore, 1) := by decide +kernel
theorem dX4_fillLatest_22 : decode cX4_fillLatest 22 = .ok (.iinc 3 1, 3) := by decide +kernel
theorem dX4_fillLatest_25 : decode cX4_fillLatest 25 = .ok (.goto (-18), 3) := by decide +kernel
theorem dX4_fillLatest_28 : decode cX4_fillLatest 28 = .ok (.return_, 1) := by decide +kernel
theorem dX4_readTrains_0 : decode cX4_readTrains 0 = .ok (.aload_n 0, 1) := by decide +kernel
theorem dX4_readTrains_1 : decode cX4_readTrains 1 = .ok (.iconst 0, 1) := by decide +kernel
theorem dX4_readTrains_2 : decode cX4_readTrains 2 = .ok (.putfield 28, 3) := by decide +kernel
theorem dX4_readTrains_5 : decode cX4_readTrains 5 = .ok (.iconst 0, 1) := by decide +kernel
theorem dX4_readTrains_6 : decode cX4_readTrains 6 = .ok (.istore_n 1, 1) := by decide +kernel
theorem dX4_readTrains_7 : decode cX4_readTrains 7 = .ok (.iload_n 1, 1) := by decide +kernel
theorem dX4_readTrains_8 : decode cX4_readTrains 8 = .ok (.aload_n 0, 1) := by decide +kernel
theorem dX4_readTrains_9 : decode cX4_readTrains 9 = .ok (.getfield 25, 3) := by decide +kernel
theorem dX4_readTrains_12 : decode cX4_readTrains 12 = .ok (.if_icmp .ge 82, 3) := by decide +kernel
theorem dX4_readTrains_15 : decode cX4_readTrains 15 = .ok (.aload_n 0, 1) := by decide +kernel
theorem dX4_readTrains_16 : decode cX4_readTrains 16 = .ok (.getfield 9, 3) := by decide +kernel
theorem dX4_readTrains_19 : decode cX4_readTrains 19 = .ok (.iload_n 1, 1) := by decide +kernel
theorem dX4_readTrains_20 : decode cX4_readTrains 20 = .ok (.iaload, 1) := by decide +kernel
theorem dX4_readTrains_21 : decode cX4_readTrains 21 = .ok (.istore_n 2, 1) := by decide +kernel
theorem dX4_readTrains_22 : decode cX4_readTrains 22 = .ok (.iload_n 2, 1) := by decide +kernel
theorem dX4_readTrains_23 : decode cX4_readTrains 23 = .ok (.bipush 32, 2) := by decide +kernel
theorem dX4_readTrains_25 : decode cX4_readTrains 25 = .ok (.if_icmp .ne 6, 3) := by decide +kernel
theorem dX4_readTrains_28 : decode cX4_readTrains 28 = .ok (.goto 60, 3) := by decide +kernel
theorem dX4_readTrains_31 : decode cX4_readTrains 31 = .ok (.iload_n 2, 1) := by decide +kernel
theorem dX4_readTrains_32 : decode cX4_readTrains 32 = .ok (.bipush 65, 2) := by decide +kernel
theorem dX4_readTrains_34 : decode cX4_readTrains 34 = .ok (.bipush 70, 2) := by decide +kernel
theorem dX4_readTrains_36 : decode cX4_readTrains 36 = .ok (.invokestatic 31, 3) := by decide +kernel
theorem dX4_readTrains_39 : decode cX4_readTrains 39 = .ok (.ifCond .ne 10, 3) := by decide +kernel
theorem dX4_readTrains_42 : decode cX4_readTrains 42 = .ok (.aload_n 0, 1) := by decide +kernel
theorem dX4_readTrains_43 : decode cX4_readTrains 43 = .ok (.iconst 1, 1) := by decide +kernel
theorem dX4_readTrains_44 : decode cX4_readTrains 44 = .ok (.iload_n 1, 1) := by decide +kernel
theorem dX4_readTrains_45 : decode cX4_readTrains 45 = .ok (.invokevirtual 35, 3) := by decide +kernel
theorem dX4_readTrains_48 : decode cX4_readTrains 48 = .ok (.ireturn, 1) := by decide +kernel
theorem dX4_readTrains_49 : decode cX4_readTrains 49 = .ok (.aload_n 0, 1) := by decide +kernel
theorem dX4_readTrains_50 : decode cX4_readTrains 50 = .ok (.getfield 28, 3) := by decide +kernel
theorem dX4_readTrains_53 : decode cX4_readTrains 53 = .ok (.bipush 10, 2) := by decide +kernel
theorem dX4_readTrains_55 : decode cX4_readTrains 55 = .ok (.if_icmp .lt 10, 3) := by decide +kernel
theorem dX4_readTrains_58 : decode cX4_readTrains 58 = .ok (.aload_n 0, 1) := by decide +kernel
theorem dX4_readTrains_59 : decode cX4_readTrains 59 = .ok (.iconst 4, 1) := by decide +kernel
theorem dX4_readTrains_60 : decode cX4_readTrains 60 = .ok (.iload_n 1, 1) := by decide +kernel
theorem dX4_readTrains_61 : decode cX4_readTrains 61 = .ok (.invokevirtual 35, 3) := by decide +kernel
theorem dX4_readTrains_64 : decode cX4_readTrains 64 = .ok (.ireturn, 1) := by decide +kernel
theorem dX4_readTrains_65 : decode cX4_readTrains 65 = .ok (.aload_n 0, 1) := by decide +kernel
theorem dX4_readTrains_66 : decode cX4_readTrains 66 = .ok (.getfield 15, 3) := by decide +kernel
theorem dX4_readTrains_69 : decode cX4_readTrains 69 = .ok (.aload_n 0, 1) := by decide +kernel
theorem dX4_readTrains_70 : decode cX4_readTrains 70 = .ok (.getfield 28, 3) := by decide +kernel
theorem dX4_readTrains_73 : decode cX4_readTrains 73 = .ok (.iload_n 2, 1) := by decide +kernel
theorem dX4_readTrains_74 : decode cX4_readTrains 74 = .ok (.bipush 65, 2) := by decide +kernel
theorem dX4_readTrains_76 : decode cX4_readTrains 76 = .ok (.isub, 1) := by decide +kernel
theorem dX4_readTrains_77 : decode cX4_readTrains 77 = .ok (.iastore, 1) := by decide +kernel
theorem dX4_readTrains_78 : decode cX4_readTrains 78 = .ok (.aload_n 0, 1) := by decide +kernel
theorem dX4_readTrains_79 : decode cX4_readTrains 79 = .ok (.dup, 1) := by decide +kernel
theorem dX4_readTrains_80 : decode cX4_readTrains 80 = .ok (.getfield 28, 3) := by decide +kernel
theorem dX4_readTrains_83 : decode cX4_readTrains 83 = .ok (.iconst 1, 1) := by decide +kernel
theorem dX4_readTrains_84 : decode cX4_readTrains 84 = .ok (.iadd, 1) := by decide +kernel
theorem dX4_readTrains_85 : decode cX4_readTrains 85 = .ok (.putfield 28, 3) := by decide +kernel
theorem dX4_readTrains_88 : decode cX4_readTrains 88 = .ok (.iinc 1 1, 3) := by decide +kernel
theorem dX4_readTrains_91 : decode cX4_readTrains 91 = .ok (.goto (-84), 3) := by decide +kernel
theorem dX4_readTrains_94 : decode cX4_readTrains 94 = .ok (.iconst 1, 1) := by decide +kernel
theorem dX4_readTrains_95 : decode cX4_readTrains 95 = .ok (.ireturn, 1) := by decide +kernel
theorem dX4_foundFault_0 : decode cX4_foundFault 0 = .ok (.aload_n 0, 1) := by decide +kernel
theorem dX4_foundFault_1 : decode cX4_foundFault 1 = .ok (.iload_n 1, 1) := by decide +kernel
theorem dX4_foundFault_2 : decode cX4_foundFault 2 = .ok (.putfield 18, 3) := by decide +kernel
theorem dX4_foundFault_5 : decode cX4_foundFault 5 = .ok (.aload_n 0, 1) := by decide +kernel
theorem dX4_foundFault_6 : decode cX4_foundFault 6 = .ok (.iload_n 2, 1) := by decide +kernel
theorem dX4_foundFault_7 : decode cX4_foundFault 7 = .ok (.putfield 22, 3) := by decide +kernel
theorem dX4_foundFault_10 : decode cX4_foundFault 10 = .ok (.iconst 0, 1) := by decide +kernel
theorem dX4_foundFault_11 : decode cX4_foundFault 11 = .ok (.ireturn, 1) := by decide +kernel
theorem dX5_init_0 : decode cX5_init 0 = .ok (.aload_n 0, 1) := by decide +kernel
theorem dX5_init_1 : decode cX5_init 1 = .ok (.invokespecial 3, 3) := by decide +kernel
theorem dX5_init_4 : decode cX5_init 4 = .ok (.aload_n 0, 1) := by decide +kernel
theorem dX5_init_5 : decode cX5_init 5 = .ok (.iconst 3, 1) := by decide +kernel
theorem dX5_init_6 : decode cX5_init 6 = .ok (.putfield 9, 3) := by decide +kernel
theorem dX5_init_9 : decode cX5_init 9 = .ok (.aload_n 0, 1) := by decide +kernel
theorem dX5_init_10 : decode cX5_init 10 = .ok (.bipush 6, 2) := by decide +kernel
theorem dX5_init_12 : decode cX5_init 12 = .ok (.putfield 15, 3) := by decide +kernel
theorem dX5_init_15 : decode cX5_init 15 = .ok (.aload_n 0, 1) := by decide +kernel
theorem dX5_init_16 : decode cX5_init 16 = .ok (.iconst 4, 1) := by decide +kernel
theorem dX5_init_17 : decode cX5_init 17 = .ok (.newarray .int, 2) := by decide +kernel
theorem dX5_init_19 : decode cX5_init 19 = .ok (.dup, 1) := by decide +kernel
theorem dX5_init_20 : decode cX5_init 20 = .ok (.iconst 0, 1) := by decide +kernel
theorem dX5_init_21 : decode cX5_init 21 = .ok (.iconst 1, 1) := by decide +kernel
theorem dX5_init_22 : decode cX5_init 22 = .ok (.iastore, 1) := by decide +kernel
theorem dX5_init_23 : decode cX5_init 23 = .ok (.dup, 1) := by decide +kernel
theorem dX5_init_24 : decode cX5_init 24 = .ok (.iconst 1, 1) := by decide +kernel
theorem dX5_init_25 : decode cX5_init 25 = .ok (.bipush 120, 2) := by decide +kernel
theorem dX5_init_27 : decode cX5_init 27 = .ok (.iastore, 1) := by decide +kernel
theorem dX5_init_28 : decode cX5_init 28 = .ok (.dup, 1) := by decide +kernel
theorem dX5_init_29 : decode cX5_init 29 = .ok (.iconst 2, 1) := by decide +kernel
theorem dX5_init_30 : decode cX5_init 30 = .ok (.iconst 4, 1) := by decide +kernel
theorem dX5_init_31 : decode cX5_init 31 = .ok (.iastore, 1) := by decide +kernel
theorem dX5_init_32 : decode cX5_init 32 = .ok (.dup, 1) := by decide +kernel
theorem dX5_init_33 : decode cX5_init 33 = .ok (.iconst 3, 1) := by decide +kernel
theorem dX5_init_34 : decode cX5_init 34 = .ok (.iconst 5, 1) := by decide +kernel
theorem dX5_init_35 : decode cX5_init 35 = .ok (.iastore, 1) := by decide +kernel
theorem dX5_init_36 : decode cX5_init 36 = .ok (.putfield 18, 3) := by decide +kernel
theorem dX5_init_39 : decode cX5_init 39 = .ok (.aload_n 0, 1) := by decide +kernel
theorem dX5_init_40 : decode cX5_init 40 = .ok (.bipush 10, 2) := by decide +kernel
theorem dX5_init_42 : decode cX5_init 42 = .ok (.newarray .int, 2) := by decide +kernel
theorem dX5_init_44 : decode cX5_init 44 = .ok (.putfield 22, 3) := by decide +kernel
theorem dX5_init_47 : decode cX5_init 47 = .ok (.aload_n 0, 1) := by decide +kernel
theorem dX5_init_48 : decode cX5_init 48 = .ok (.iconst 4, 1) := by decide +kernel
theorem dX5_init_49 : decode cX5_init 49 = .ok (.newarray .int, 2) := by decide +kernel
theorem dX5_init_51 : decode cX5_init 51 = .ok (.putfield 25, 3) := by decide +kernel
theorem dX5_init_54 : decode cX5_init 54 = .ok (.aload_n 0, 1) := by decide +kernel
theorem dX5_init_55 : decode cX5_init 55 = .ok (.iconst 4, 1) := by decide +kernel
theorem dX5_init_56 : decode cX5_init 56 = .ok (.newarray .int, 2) := by decide +kernel
theorem dX5_init_58 : decode cX5_init 58 = .ok (.dup, 1) := by decide +kernel
theorem dX5_init_59 : decode cX5_init 59 = .ok (.iconst 0, 1) := by decide +kernel
theorem dX5_init_60 : decode cX5_init 60 = .ok (.iconst (-1), 1) := by decide +kernel
theorem dX5_init_61 : decode cX5_init 61 = .ok (.iastore, 1) := by decide +kernel
theorem dX5_init_62 : decode cX5_init 62 = .ok (.dup, 1) := by decide +kernel
theorem dX5_init_63 : decode cX5_init 63 = .ok (.iconst 1, 1) := by decide +kernel
theorem dX5_init_64 : decode cX5_init 64 = .ok (.iconst (-1), 1) := by decide +kernel
theorem dX5_init_65 : decode cX5_init 65 = .ok (.iastore, 1) := by decide +kernel
theorem dX5_init_66 : decode cX5_init 66 = .ok (.dup, 1) := by decide +kernel
theorem dX5_init_67 : decode cX5_init 67 = .ok (.iconst 2, 1) := by decide +kernel
theorem dX5_init_68 : decode cX5_init 68 = .ok (.iconst (-1), 1) := by decide +kernel
theorem dX5_init_69 : decode cX5_init 69 = .ok (.iastore, 1) := by decide +kernel
theorem dX5_init_70 : decode cX5_init 70 = .ok (.dup, 1) := by decide +kernel
theorem dX5_init_71 : decode cX5_init 71 = .ok (.iconst 3, 1) := by decide +kernel
theorem dX5_init_72 : decode cX5_init 72 = .ok (.iconst (-1), 1) := by decide +kernel
theorem dX5_init_73 : decode cX5_init 73 = .ok (.iastore, 1) := by decide +kernel
theorem dX5_init_74 : decode cX5_init 74 = .ok (.putfield 28, 3) := by decide +kernel
theorem dX5_init_77 : decode cX5_init 77 = .ok (.aload_n 0, 1) := by decide +kernel
theorem dX5_init_78 : decode cX5_init 78 = .ok (.bipush 32, 2) := by decide +kernel
theorem dX5_init_80 : decode cX5_init 80 = .ok (.newarray .int, 2) := by decide +kernel
theorem dX5_init_82 : decode cX5_init 82 = .ok (.putfield 31, 3) := by decide +kernel
theorem dX5_init_85 : decode cX5_init 85 = .ok (.aload_n 0, 1) := by decide +kernel
theorem dX5_init_86 : decode cX5_init 86 = .ok (.new 34, 3) := by decide +kernel
theorem dX5_init_89 : decode cX5_init 89 = .ok (.dup, 1) := by decide +kernel
theorem dX5_init_90 : decode cX5_init 90 = .ok (.invokespecial 36, 3) := by decide +kernel
theorem dX5_init_93 : decode cX5_init 93 = .ok (.putfield 37, 3) := by decide +kernel
theorem dX5_init_96 : decode cX5_init 96 = .ok (.return_, 1) := by decide +kernel
theorem dX5_copyFrom_0 : decode cX5_copyFrom 0 = .ok (.aload_n 0, 1) := by decide +kernel
theorem dX5_copyFrom_1 : decode cX5_copyFrom 1 = .ok (.aload_n 1, 1) := by decide +kernel
theorem dX5_copyFrom_2 : decode cX5_copyFrom 2 = .ok (.getfield 9, 3) := by decide +kernel
theorem dX5_copyFrom_5 : decode cX5_copyFrom 5 = .ok (.putfield 9, 3) := by decide +kernel
theorem dX5_copyFrom_8 : decode cX5_copyFrom 8 = .ok (.aload_n 0, 1) := by decide +kernel
theorem dX5_copyFrom_9 : decode cX5_copyFrom 9 = .ok (.aload_n 1, 1) := by decide +kernel
theorem dX5_copyFrom_10 : decode cX5_copyFrom 10 = .ok (.getfield 15, 3) := by decide +kernel
theorem dX5_copyFrom_13 : decode cX5_copyFrom 13 = .ok (.putfield 15, 3) := by decide +kernel
theorem dX5_copyFrom_16 : decode cX5_copyFrom 16 = .ok (.aload_n 0, 1) := by decide +kernel
theorem dX5_copyFrom_17 : decode cX5_copyFrom 17 = .ok (.aload_n 1, 1) := by decide +kernel
theorem dX5_copyFrom_18 : decode cX5_copyFrom 18 = .ok (.getfield 41, 3) := by decide +kernel
theorem dX5_copyFrom_21 : decode cX5_copyFrom 21 = .ok (.putfield 41, 3) := by decide +kernel
theorem dX5_copyFrom_24 : decode cX5_copyFrom 24 = .ok (.aload_n 0, 1) := by decide +kernel
theorem dX5_copyFrom_25 : decode cX5_copyFrom 25 = .ok (.aload_n 1, 1) := by decide +kernel
theorem dX5_copyFrom_26 : decode cX5_copyFrom 26 = .ok (.getfield 44, 3) := by decide +kernel
theorem dX5_copyFrom_29 : decode cX5_copyFrom 29 = .ok (.putfield 44, 3) := by decide +kernel
theorem dX5_copyFrom_32 : decode cX5_copyFrom 32 = .ok (.aload_n 0, 1) := by decide +kernel
theorem dX5_copyFrom_33 : decode cX5_copyFrom 33 = .ok (.aload_n 1, 1) := by decide +kernel
theorem dX5_copyFrom_34 : decode cX5_copyFrom 34 = .ok (.getfield 47, 3) := by decide +kernel
theorem dX5_copyFrom_37 : decode cX5_copyFrom 37 = .ok (.putfield 47, 3) := by decide +kernel
theorem dX5_copyFrom_40 : decode cX5_copyFrom 40 = .ok (.aload_n 0, 1) := by decide +kernel
theorem dX5_copyFrom_41 : decode cX5_copyFrom 41 = .ok (.aload_n 1, 1) := by decide +kernel
theorem dX5_copyFrom_42 : decode cX5_copyFrom 42 = .ok (.getfield 50, 3) := by decide +kernel
theorem dX5_copyFrom_45 : decode cX5_copyFrom 45 = .ok (.putfield 50, 3) := by decide +kernel
theorem dX5_copyFrom_48 : decode cX5_copyFrom 48 = .ok (.aload_n 0, 1) := by decide +kernel
theorem dX5_copyFrom_49 : decode cX5_copyFrom 49 = .ok (.aload_n 1, 1) := by decide +kernel
theorem dX5_copyFrom_50 : decode cX5_copyFrom 50 = .ok (.getfield 53, 3) := by decide +kernel
theorem dX5_copyFrom_53 : decode cX5_copyFrom 53 = .ok (.putfield 53, 3) := by decide +kernel
theorem dX5_copyFrom_56 : decode cX5_copyFrom 56 = .ok (.aload_n 0, 1) := by decide +kernel
theorem dX5_copyFrom_57 : decode cX5_copyFrom 57 = .ok (.aload_n 1, 1) := by decide +kernel
theorem dX5_copyFrom_58 : decode cX5_copyFrom 58 = .ok (.getfield 56, 3) := by decide +kernel
theorem dX5_copyFrom_61 : decode cX5_copyFrom 61 = .ok (.putfield 56, 3) := by decide +kernel
theorem dX5_copyFrom_64 : decode cX5_copyFrom 64 = .ok (.aload_n 0, 1) := by decide +kernel
theorem dX5_copyFrom_65 : decode cX5_copyFrom 65 = .ok (.aload_n 1, 1) := by decide +kernel
theorem dX5_copyFrom_66 : decode cX5_copyFrom 66 = .ok (.getfield 59, 3) := by decide +kernel
theorem dX5_copyFrom_69 : decode cX5_copyFrom 69 = .ok (.putfield 59, 3) := by decide +kernel
theorem dX5_copyFrom_72 : decode cX5_copyFrom 72 = .ok (.aload_n 1, 1) := by decide +kernel
theorem dX5_copyFrom_73 : decode cX5_copyFrom 73 = .ok (.getfield 18, 3) := by decide +kernel
theorem dX5_copyFrom_76 : decode cX5_copyFrom 76 = .ok (.iconst 0, 1) := by decide +kernel
theorem dX5_copyFrom_77 : decode cX5_copyFrom 77 = .ok (.aload_n 0, 1) := by decide +kernel
theorem dX5_copyFrom_78 : decode cX5_copyFrom 78 = .ok (.getfield 18, 3) := by decide +kernel
theorem dX5_copyFrom_81 : decode cX5_copyFrom 81 = .ok (.iconst 0, 1) := by decide +kernel
theorem dX5_copyFrom_82 : decode cX5_copyFrom 82 = .ok (.aload_n 0, 1) := by decide +kernel
theorem dX5_copyFrom_83 : decode cX5_copyFrom 83 = .ok (.getfield 18, 3) := by decide +kernel
theorem dX5_copyFrom_86 : decode cX5_copyFrom 86 = .ok (.arraylength, 1) := by decide +kernel
theorem dX5_copyFrom_87 : decode cX5_copyFrom 87 = .ok (.invokestatic 62, 3) := by decide +kernel
theorem dX5_copyFrom_90 : decode cX5_copyFrom 90 = .ok (.aload_n 1, 1) := by decide +kernel
theorem dX5_copyFrom_91 : decode cX5_copyFrom 91 = .ok (.getfield 22, 3) := by decide +kernel
theorem dX5_copyFrom_94 : decode cX5_copyFrom 94 = .ok (.iconst 0, 1) := by decide +kernel
theorem dX5_copyFrom_95 : decode cX5_copyFrom 95 = .ok (.aload_n 0, 1) := by decide +kernel
theorem dX5_copyFrom_96 : decode cX5_copyFrom 96 = .ok (.getfield 22, 3) := by decide +kernel
theorem dX5_copyFrom_99 : decode cX5_copyFrom 99 = .ok (.iconst 0, 1) := by decide +kernel
theorem dX5_copyFrom_100 : decode cX5_copyFrom 100 = .ok (.aload_n 0, 1) := by decide +kernel
theorem dX5_copyFrom_101 : decode cX5_copyFrom 101 = .ok (.getfield 22, 3) := by decide +kernel
theorem dX5_copyFrom_104 : decode cX5_copyFrom 104 = .ok (.arraylength, 1) := by decide +kernel
theorem dX5_copyFrom_105 : decode cX5_copyFrom 105 = .ok (.invokestatic 62, 3) := by decide +kernel
theorem dX5_copyFrom_108 : decode cX5_copyFrom 108 = .ok (.aload_n 1, 1) := by decide +kernel
theorem dX5_copyFrom_109 : decode cX5_copyFrom 109 = .ok (.getfield 25, 3) := by decide +kernel
theorem dX5_copyFrom_112 : decode cX5_copyFrom 112 = .ok (.iconst 0, 1) := by decide +kernel
theorem dX5_copyFrom_113 : decode cX5_copyFrom 113 = .ok (.aload_n 0, 1) := by decide +kernel
theorem dX5_copyFrom_114 : decode cX5_copyFrom 114 = .ok (.getfield 25, 3) := by decide +kernel
theorem dX5_copyFrom_117 : decode cX5_copyFrom 117 = .ok (.iconst 0, 1) := by decide +kernel
theorem dX5_copyFrom_118 : decode cX5_copyFrom 118 = .ok (.aload_n 0, 1) := by decide +kernel
theorem dX5_copyFrom_119 : decode cX5_copyFrom 119 = .ok (.getfield 25, 3) := by decide +kernel
theorem dX5_copyFrom_122 : decode cX5_copyFrom 122 = .ok (.arraylength, 1) := by decide +kernel
theorem dX5_copyFrom_123 : decode cX5_copyFrom 123 = .ok (.invokestatic 62, 3) := by decide +kernel
theorem dX5_copyFrom_126 : decode cX5_copyFrom 126 = .ok (.aload_n 1, 1) := by decide +kernel
theorem dX5_copyFrom_127 : decode cX5_copyFrom 127 = .ok (.getfield 28, 3) := by decide +kernel
theorem dX5_copyFrom_130 : decode cX5_copyFrom 130 = .ok (.iconst 0, 1) := by decide +kernel
theorem dX5_copyFrom_131 : decode cX5_copyFrom 131 = .ok (.aload_n 0, 1) := by decide +kernel
theorem dX5_copyFrom_132 : decode cX5_copyFrom 132 = .ok (.getfield 28, 3) := by decide +kernel
theorem dX5_copyFrom_135 : decode cX5_copyFrom 135 = .ok (.iconst 0, 1) := by decide +kernel
theorem dX5_copyFrom_136 : decode cX5_copyFrom 136 = .ok (.aload_n 0, 1) := by decide +kernel
theorem dX5_copyFrom_137 : decode cX5_copyFrom 137 = .ok (.getfield 28, 3) := by decide +kernel
theorem dX5_copyFrom_140 : decode cX5_copyFrom 140 = .ok (.arraylength, 1) := by decide +kernel
theorem dX5_copyFrom_141 : decode cX5_copyFrom 141 = .ok (.invokestatic 62, 3) := by decide +kernel
theorem dX5_copyFrom_144 : decode cX5_copyFrom 144 = .ok (.aload_n 1, 1) := by decide +kernel
theorem dX5_copyFrom_145 : decode cX5_copyFrom 145 = .ok (.getfield 31, 3) := by decide +kernel
theorem dX5_copyFrom_148 : decode cX5_copyFrom 148 = .ok (.iconst 0, 1) := by decide +kernel
theorem dX5_copyFrom_149 : decode cX5_copyFrom 149 = .ok (.aload_n 0, 1) := by decide +kernel
theorem dX5_copyFrom_150 : decode cX5_copyFrom 150 = .ok (.getfield 31, 3) := by decide +kernel
theorem dX5_copyFrom_153 : decode cX5_copyFrom 153 = .ok (.iconst 0, 1) := by decide +kernel
theorem dX5_copyFrom_154 : decode cX5_copyFrom 154 = .ok (.aload_n 0, 1) := by decide +kernel
theorem dX5_copyFrom_155 : decode cX5_copyFrom 155 = .ok (.getfield 31, 3) := by decide +kernel
theorem dX5_copyFrom_158 : decode cX5_copyFrom 158 = .ok (.arraylength, 1) := by decide +kernel
theorem dX5_copyFrom_159 : decode cX5_copyFrom 159 = .ok (.invokestatic 62, 3) := by decide +kernel
theorem dX5_copyFrom_162 : decode cX5_copyFrom 162 = .ok (.return_, 1) := by decide +kernel
theorem dX5_restart_0 : decode cX5_restart 0 = .ok (.aload_n 0, 1) := by decide +kernel
theorem dX5_restart_1 : decode cX5_restart 1 = .ok (.iload_n 1, 1) := by decide +kernel
theorem dX5_restart_2 : decode cX5_restart 2 = .ok (.putfield 9, 3) := by decide +kernel
theorem dX5_restart_5 : decode cX5_restart 5 = .ok (.aload_n 0, 1) := by decide +kernel
theorem dX5_restart_6 : decode cX5_restart 6 = .ok (.iload_n 2, 1) := by decide +kernel
theorem dX5_restart_7 : decode cX5_restart 7 = .ok (.putfield 15, 3) := by decide +kernel
theorem dX5_restart_10 : decode cX5_restart 10 = .ok (.aload_n 0, 1) := by decide +kernel
theorem dX5_restart_11 : decode cX5_restart 11 = .ok (.iconst 0, 1) := by decide +kernel
theorem dX5_restart_12 : decode cX5_restart 12 = .ok (.putfield 41, 3) := by decide +kernel
theorem dX5_restart_15 : decode cX5_restart 15 = .ok (.aload_n 0, 1) := by decide +kernel
theorem dX5_restart_16 : decode cX5_restart 16 = .ok (.iconst 0, 1) := by decide +kernel
theorem dX5_restart_17 : decode cX5_restart 17 = .ok (.putfield 44, 3) := by decide +kernel
theorem dX5_restart_20 : decode cX5_restart 20 = .ok (.aload_n 0, 1) := by decide +kernel
theorem dX5_restart_21 : decode cX5_restart 21 = .ok (.iconst 0, 1) := by decide +kernel
theorem dX5_restart_22 : decode cX5_restart 22 = .ok (.putfield 47, 3) := by decide +kernel
theorem dX5_restart_25 : decode cX5_restart 25 = .ok (.aload_n 0, 1) := by decide +kernel
theorem dX5_restart_26 : decode cX5_restart 26 = .ok (.iconst 0, 1) := by decide +kernel
theorem dX5_restart_27 : decode cX5_restart 27 = .ok (.putfield 50, 3) := by decide +kernel
theorem dX5_restart_30 : decode cX5_restart 30 = .ok (.aload_n 0, 1) := by decide +kernel
theorem dX5_restart_31 : decode cX5_restart 31 = .ok (.iconst 0, 1) := by decide +kernel
theorem dX5_restart_32 : decode cX5_restart 32 = .ok (.putfield 53, 3) := by decide +kernel
theorem dX5_restart_35 : decode cX5_restart 35 = .ok (.aload_n 0, 1) := by decide +kernel
theorem dX5_restart_36 : decode cX5_restart 36 = .ok (.iconst 0, 1) := by decide +kernel
theorem dX5_restart_37 : decode cX5_restart 37 = .ok (.putfield 56, 3) := by decide +kernel
theorem dX5_restart_40 : decode cX5_restart 40 = .ok (.aload_n 0, 1) := by decide +kernel
theorem dX5_restart_41 : decode cX5_restart 41 = .ok (.iconst 0, 1) := by decide +kernel
theorem dX5_restart_42 : decode cX5_restart 42 = .ok (.putfield 59, 3) := by decide +kernel
theorem dX5_restart_45 : decode cX5_restart 45 = .ok (.aload_n 0, 1) := by decide +kernel
theorem dX5_restart_46 : decode cX5_restart 46 = .ok (.getfield 25, 3) := by decide +kernel
theorem dX5_restart_49 : decode cX5_restart 49 = .ok (.iconst 0, 1) := by decide +kernel
theorem dX5_restart_50 : decode cX5_restart 50 = .ok (.invokestatic 68, 3) := by decide +kernel
theorem dX5_restart_53 : decode cX5_restart 53 = .ok (.aload_n 0, 1) := by decide +kernel
theorem dX5_restart_54 : decode cX5_restart 54 = .ok (.getfield 28, 3) := by decide +kernel
theorem dX5_restart_57 : decode cX5_restart 57 = .ok (.iconst (-1), 1) := by decide +kernel
theorem dX5_restart_58 : decode cX5_restart 58 = .ok (.invokestatic 68, 3) := by decide +kernel
theorem dX5_restart_61 : decode cX5_restart 61 = .ok (.return_, 1) := by decide +kernel
theorem dX5_hasTrack_0 : decode cX5_hasTrack 0 = .ok (.iload_n 1, 1) := by decide +kernel
theorem dX5_hasTrack_1 : decode cX5_hasTrack 1 = .ok (.iconst 0, 1) := by decide +kernel
theorem dX5_hasTrack_2 : decode cX5_hasTrack 2 = .ok (.aload_n 0, 1) := by decide +kernel
theorem dX5_hasTrack_3 : decode cX5_hasTrack 3 = .ok (.getfield 9, 3) := by decide +kernel
theorem dX5_hasTrack_6 : decode cX5_hasTrack 6 = .ok (.iconst 1, 1) := by decide +kernel
theorem dX5_hasTrack_7 : decode cX5_hasTrack 7 = .ok (.isub, 1) := by decide +kernel
theorem dX5_hasTrack_8 : decode cX5_hasTrack 8 = .ok (.invokestatic 74, 3) := by decide +kernel
theorem dX5_hasTrack_11 : decode cX5_hasTrack 11 = .ok (.ireturn, 1) := by decide +kernel
theorem dX5_wagonAt_0 : decode cX5_wagonAt 0 = .ok (.aload_n 0, 1) := by decide +kernel
theorem dX5_wagonAt_1 : decode cX5_wagonAt 1 = .ok (.getfield 31, 3) := by decide +kernel
theorem dX5_wagonAt_4 : decode cX5_wagonAt 4 = .ok (.iload_n 1, 1) := by decide +kernel
theorem dX5_wagonAt_5 : decode cX5_wagonAt 5 = .ok (.bipush 8, 2) := by decide +kernel
theorem dX5_wagonAt_7 : decode cX5_wagonAt 7 = .ok (.imul, 1) := by decide +kernel
theorem dX5_wagonAt_8 : decode cX5_wagonAt 8 = .ok (.iload_n 2, 1) := by decide +kernel
theorem dX5_wagonAt_9 : decode cX5_wagonAt 9 = .ok (.iadd, 1) := by decide +kernel
theorem dX5_wagonAt_10 : decode cX5_wagonAt 10 = .ok (.iaload, 1) := by decide +kernel
theorem dX5_wagonAt_11 : decode cX5_wagonAt 11 = .ok (.ireturn, 1) := by decide +kernel
theorem dX5_wagonsInYard_0 : decode cX5_wagonsInYard 0 = .ok (.iconst 0, 1) := by decide +kernel
theorem dX5_wagonsInYard_1 : decode cX5_wagonsInYard 1 = .ok (.istore_n 1, 1) := by decide +kernel
theorem dX5_wagonsInYard_2 : decode cX5_wagonsInYard 2 = .ok (.iconst 0, 1) := by decide +kernel
theorem dX5_wagonsInYard_3 : decode cX5_wagonsInYard 3 = .ok (.istore_n 2, 1) := by decide +kernel
theorem dX5_wagonsInYard_4 : decode cX5_wagonsInYard 4 = .ok (.iload_n 2, 1) := by decide +kernel
theorem dX5_wagonsInYard_5 : decode cX5_wagonsInYard 5 = .ok (.aload_n 0, 1) := by decide +kernel
theorem dX5_wagonsInYard_6 : decode cX5_wagonsInYard 6 = .ok (.getfield 9, 3) := by decide +kernel
theorem dX5_wagonsInYard_9 : decode cX5_wagonsInYard 9 = .ok (.if_icmp .ge 18, 3) := by decide +kernel
theorem dX5_wagonsInYard_12 : decode cX5_wagonsInYard 12 = .ok (.iload_n 1, 1) := by decide +kernel
theorem dX5_wagonsInYard_13 : decode cX5_wagonsInYard 13 = .ok (.aload_n 0, 1) := by decide +kernel
theorem dX5_wagonsInYard_14 : decode cX5_wagonsInYard 14 = .ok (.getfield 25, 3) := by decide +kernel
theorem dX5_wagonsInYard_17 : decode cX5_wagonsInYard 17 = .ok (.iload_n 2, 1) := by decide +kernel
theorem dX5_wagonsInYard_18 : decode cX5_wagonsInYard 18 = .ok (.iaload, 1) := by decide +kernel
theorem dX5_wagonsInYard_19 : decode cX5_wagonsInYard 19 = .ok (.iadd, 1) := by decide +kernel
theorem dX5_wagonsInYard_20 : decode cX5_wagonsInYard 20 = .ok (.istore_n 1, 1) := by decide +kernel
theorem dX5_wagonsInYard_21 : decode cX5_wagonsInYard 21 = .ok (.iinc 2 1, 3) := by decide +kernel
theorem dX5_wagonsInYard_24 : decode cX5_wagonsInYard 24 = .ok (.goto (-20), 3) := by decide +kernel
theorem dX5_wagonsInYard_27 : decode cX5_wagonsInYard 27 = .ok (.iload_n 1, 1) := by decide +kernel
theorem dX5_wagonsInYard_28 : decode cX5_wagonsInYard 28 = .ok (.ireturn, 1) := by decide +kernel
theorem dX5_spotOf_0 : decode cX5_spotOf 0 = .ok (.iconst 0, 1) := by decide +kernel
theorem dX5_spotOf_1 : decode cX5_spotOf 1 = .ok (.istore_n 2, 1) := by decide +kernel
theorem dX5_spotOf_2 : decode cX5_spotOf 2 = .ok (.iload_n 2, 1) := by decide +kernel
theorem dX5_spotOf_3 : decode cX5_spotOf 3 = .ok (.aload_n 0, 1) := by decide +kernel
theorem dX5_spotOf_4 : decode cX5_spotOf 4 = .ok (.getfield 9, 3) := by decide +kernel
theorem dX5_spotOf_7 : decode cX5_spotOf 7 = .ok (.if_icmp .ge 47, 3) := by decide +kernel
theorem dX5_spotOf_10 : decode cX5_spotOf 10 = .ok (.iconst 0, 1) := by decide +kernel
theorem dX5_spotOf_11 : decode cX5_spotOf 11 = .ok (.istore_n 3, 1) := by decide +kernel
theorem dX5_spotOf_12 : decode cX5_spotOf 12 = .ok (.iload_n 3, 1) := by decide +kernel
theorem dX5_spotOf_13 : decode cX5_spotOf 13 = .ok (.aload_n 0, 1) := by decide +kernel
theorem dX5_spotOf_14 : decode cX5_spotOf 14 = .ok (.getfield 25, 3) := by decide +kernel
theorem dX5_spotOf_17 : decode cX5_spotOf 17 = .ok (.iload_n 2, 1) := by decide +kernel
theorem dX5_spotOf_18 : decode cX5_spotOf 18 = .ok (.iaload, 1) := by decide +kernel
theorem dX5_spotOf_19 : decode cX5_spotOf 19 = .ok (.if_icmp .ge 29, 3) := by decide +kernel
theorem dX5_spotOf_22 : decode cX5_spotOf 22 = .ok (.aload_n 0, 1) := by decide +kernel
theorem dX5_spotOf_23 : decode cX5_spotOf 23 = .ok (.iload_n 2, 1) := by decide +kernel
theorem dX5_spotOf_24 : decode cX5_spotOf 24 = .ok (.iload_n 3, 1) := by decide +kernel
theorem dX5_spotOf_25 : decode cX5_spotOf 25 = .ok (.invokevirtual 78, 3) := by decide +kernel
theorem dX5_spotOf_28 : decode cX5_spotOf 28 = .ok (.invokestatic 82, 3) := by decide +kernel
theorem dX5_spotOf_31 : decode cX5_spotOf 31 = .ok (.iload_n 1, 1) := by decide +kernel
theorem dX5_spotOf_32 : decode cX5_spotOf 32 = .ok (.if_icmp .ne 10, 3) := by decide +kernel
theorem dX5_spotOf_35 : decode cX5_spotOf 35 = .ok (.iload_n 2, 1) := by decide +kernel
theorem dX5_spotOf_36 : decode cX5_spotOf 36 = .ok (.bipush 8, 2) := by decide +kernel
theorem dX5_spotOf_38 : decode cX5_spotOf 38 = .ok (.imul, 1) := by decide +kernel
theorem dX5_spotOf_39 : decode cX5_spotOf 39 = .ok (.iload_n 3, 1) := by decide +kernel
theorem dX5_spotOf_40 : decode cX5_spotOf 40 = .ok (.iadd, 1) := by decide +kernel
theorem dX5_spotOf_41 : decode cX5_spotOf 41 = .ok (.ireturn, 1) := by decide +kernel
theorem dX5_spotOf_42 : decode cX5_spotOf 42 = .ok (.iinc 3 1, 3) := by decide +kernel
theorem dX5_spotOf_45 : decode cX5_spotOf 45 = .ok (.goto (-33), 3) := by decide +kernel
theorem dX5_spotOf_48 : decode cX5_spotOf 48 = .ok (.iinc 2 1, 3) := by decide +kernel
theorem dX5_spotOf_51 : decode cX5_spotOf 51 = .ok (.goto (-49), 3) := by decide +kernel
theorem dX5_spotOf_54 : decode cX5_spotOf 54 = .ok (.bipush (-9), 2) := by decide +kernel
theorem dX5_spotOf_56 : decode cX5_spotOf 56 = .ok (.ireturn, 1) := by decide +kernel
theorem dX5_takeIn_0 : decode cX5_takeIn 0 = .ok (.iconst 0, 1) := by decide +kernel
theorem dX5_takeIn_1 : decode cX5_takeIn 1 = .ok (.istore_n 3, 1) := by decide +kernel
theorem dX5_takeIn_2 : decode cX5_takeIn 2 = .ok (.iload_n 3, 1) := by decide +kernel
theorem dX5_takeIn_3 : decode cX5_takeIn 3 = .ok (.aload_n 2, 1) := by decide +kernel
theorem dX5_takeIn_4 : decode cX5_takeIn 4 = .ok (.getfield 86, 3) := by decide +kernel
theorem dX5_takeIn_7 : decode cX5_takeIn 7 = .ok (.if_icmp .ge 77, 3) := by decide +kernel
theorem dX5_takeIn_10 : decode cX5_takeIn 10 = .ok (.aload_n 2, 1) := by decide +kernel
theorem dX5_takeIn_11 : decode cX5_takeIn 11 = .ok (.getfield 91, 3) := by decide +kernel
theorem dX5_takeIn_14 : decode cX5_takeIn 14 = .ok (.iload_n 3, 1) := by decide +kernel
theorem dX5_takeIn_15 : decode cX5_takeIn 15 = .ok (.iaload, 1) := by decide +kernel
theorem dX5_takeIn_16 : decode cX5_takeIn 16 = .ok (.istore 4, 2) := by decide +kernel
theorem dX5_takeIn_18 : decode cX5_takeIn 18 = .ok (.aload_n 0, 1) := by decide +kernel
theorem dX5_takeIn_19 : decode cX5_takeIn 19 = .ok (.getfield 31, 3) := by decide +kernel
theorem dX5_takeIn_22 : decode cX5_takeIn 22 = .ok (.iload_n 1, 1) := by decide +kernel
theorem dX5_takeIn_23 : decode cX5_takeIn 23 = .ok (.bipush 8, 2) := by decide +kernel
theorem dX5_takeIn_25 : decode cX5_takeIn 25 = .ok (.imul, 1) := by decide +kernel
theorem dX5_takeIn_26 : decode cX5_takeIn 26 = .ok (.aload_n 0, 1) := by decide +kernel
theorem dX5_takeIn_27 : decode cX5_takeIn 27 = .ok (.getfield 25, 3) := by decide +kernel
theorem dX5_takeIn_30 : decode cX5_takeIn 30 = .ok (.iload_n 1, 1) := by decide +kernel
theorem dX5_takeIn_31 : decode cX5_takeIn 31 = .ok (.iaload, 1) := by decide +kernel
theorem dX5_takeIn_32 : decode cX5_takeIn 32 = .ok (.iadd, 1) := by decide +kernel
theorem dX5_takeIn_33 : decode cX5_takeIn 33 = .ok (.aload_n 0, 1) := by decide +kernel
theorem dX5_takeIn_34 : decode cX5_takeIn 34 = .ok (.getfield 56, 3) := by decide +kernel
theorem dX5_takeIn_37 : decode cX5_takeIn 37 = .ok (.iload 4, 2) := by decide +kernel
theorem dX5_takeIn_39 : decode cX5_takeIn 39 = .ok (.invokestatic 94, 3) := by decide +kernel
theorem dX5_takeIn_42 : decode cX5_takeIn 42 = .ok (.iload 4, 2) := by decide +kernel
theorem dX5_takeIn_44 : decode cX5_takeIn 44 = .ok (.invokestatic 97, 3) := by decide +kernel
theorem dX5_takeIn_47 : decode cX5_takeIn 47 = .ok (.invokestatic 100, 3) := by decide +kernel
theorem dX5_takeIn_50 : decode cX5_takeIn 50 = .ok (.iastore, 1) := by decide +kernel
theorem dX5_takeIn_51 : decode cX5_takeIn 51 = .ok (.aload_n 0, 1) := by decide +kernel
theorem dX5_takeIn_52 : decode cX5_takeIn 52 = .ok (.dup, 1) := by decide +kernel
theorem dX5_takeIn_53 : decode cX5_takeIn 53 = .ok (.getfield 56, 3) := by decide +kernel
theorem dX5_takeIn_56 : decode cX5_takeIn 56 = .ok (.iconst 1, 1) := by decide +kernel
theorem dX5_takeIn_57 : decode cX5_takeIn 57 = .ok (.iadd, 1) := by decide +kernel
theorem dX5_takeIn_58 : decode cX5_takeIn 58 = .ok (.putfield 56, 3) := by decide +kernel
theorem dX5_takeIn_61 : decode cX5_takeIn 61 = .ok (.aload_n 0, 1) := by decide +kernel
theorem dX5_takeIn_62 : decode cX5_takeIn 62 = .ok (.getfield 25, 3) := by decide +kernel
theorem dX5_takeIn_65 : decode cX5_takeIn 65 = .ok (.iload_n 1, 1) := by decide +kernel
theorem dX5_takeIn_66 : decode cX5_takeIn 66 = .ok (.dup2, 1) := by decide +kernel
theorem dX5_takeIn_67 : decode cX5_takeIn 67 = .ok (.iaload, 1) := by decide +kernel
theorem dX5_takeIn_68 : decode cX5_takeIn 68 = .ok (.iconst 1, 1) := by decide +kernel
theorem dX5_takeIn_69 : decode cX5_takeIn 69 = .ok (.iadd, 1) := by decide +kernel
theorem dX5_takeIn_70 : decode cX5_takeIn 70 = .ok (.iastore, 1) := by decide +kernel
theorem dX5_takeIn_71 : decode cX5_takeIn 71 = .ok (.aload_n 0, 1) := by decide +kernel
theorem dX5_takeIn_72 : decode cX5_takeIn 72 = .ok (.getfield 28, 3) := by decide +kernel
theorem dX5_takeIn_75 : decode cX5_takeIn 75 = .ok (.iload_n 1, 1) := by decide +kernel
theorem dX5_takeIn_76 : decode cX5_takeIn 76 = .ok (.iconst (-1), 1) := by decide +kernel
theorem dX5_takeIn_77 : decode cX5_takeIn 77 = .ok (.iastore, 1) := by decide +kernel
theorem dX5_takeIn_78 : decode cX5_takeIn 78 = .ok (.iinc 3 1, 3) := by decide +kernel
theorem dX5_takeIn_81 : decode cX5_takeIn 81 = .ok (.goto (-79), 3) := by decide +kernel
theorem dX5_takeIn_84 : decode cX5_takeIn 84 = .ok (.return_, 1) := by decide +kernel
theorem dX5_takeTrains_0 : decode cX5_takeTrains 0 = .ok (.aload_n 0, 1) := by decide +kernel
theorem dX5_takeTrains_1 : decode cX5_takeTrains 1 = .ok (.aload_n 1, 1) := by decide +kernel
theorem dX5_takeTrains_2 : decode cX5_takeTrains 2 = .ok (.getfield 86, 3) := by decide +kernel
theorem dX5_takeTrains_5 : decode cX5_takeTrains 5 = .ok (.putfield 59, 3) := by decide +kernel
theorem dX5_takeTrains_8 : decode cX5_takeTrains 8 = .ok (.aload_n 1, 1) := by decide +kernel
theorem dX5_takeTrains_9 : decode cX5_takeTrains 9 = .ok (.getfield 91, 3) := by decide +kernel
theorem dX5_takeTrains_12 : decode cX5_takeTrains 12 = .ok (.iconst 0, 1) := by decide +kernel
theorem dX5_takeTrains_13 : decode cX5_takeTrains 13 = .ok (.aload_n 0, 1) := by decide +kernel
theorem dX5_takeTrains_14 : decode cX5_takeTrains 14 = .ok (.getfield 22, 3) := by decide +kernel
theorem dX5_takeTrains_17 : decode cX5_takeTrains 17 = .ok (.iconst 0, 1) := by decide +kernel
theorem dX5_takeTrains_18 : decode cX5_takeTrains 18 = .ok (.aload_n 0, 1) := by decide +kernel
theorem dX5_takeTrains_19 : decode cX5_takeTrains 19 = .ok (.getfield 59, 3) := by decide +kernel
theorem dX5_takeTrains_22 : decode cX5_takeTrains 22 = .ok (.invokestatic 62, 3) := by decide +kernel
theorem dX5_takeTrains_25 : decode cX5_takeTrains 25 = .ok (.return_, 1) := by decide +kernel
theorem dX5_isSafe_0 : decode cX5_isSafe 0 = .ok (.aload_n 0, 1) := by decide +kernel
theorem dX5_isSafe_1 : decode cX5_isSafe 1 = .ok (.getfield 37, 3) := by decide +kernel
theorem dX5_isSafe_4 : decode cX5_isSafe 4 = .ok (.invokevirtual 104, 3) := by decide +kernel
theorem dX5_isSafe_7 : decode cX5_isSafe 7 = .ok (.aload_n 0, 1) := by decide +kernel
theorem dX5_isSafe_8 : decode cX5_isSafe 8 = .ok (.iload_n 1, 1) := by decide +kernel
theorem dX5_isSafe_9 : decode cX5_isSafe 9 = .ok (.iconst 0, 1) := by decide +kernel
theorem dX5_isSafe_10 : decode cX5_isSafe 10 = .ok (.aload_n 0, 1) := by decide +kernel
theorem dX5_isSafe_11 : decode cX5_isSafe 11 = .ok (.getfield 25, 3) := by decide +kernel
theorem dX5_isSafe_14 : decode cX5_isSafe 14 = .ok (.iload_n 1, 1) := by decide +kernel
theorem dX5_isSafe_15 : decode cX5_isSafe 15 = .ok (.iaload, 1) := by decide +kernel
theorem dX5_isSafe_16 : decode cX5_isSafe 16 = .ok (.invokevirtual 107, 3) := by decide +kernel
theorem dX5_isSafe_19 : decode cX5_isSafe 19 = .ok (.aload_n 0, 1) := by decide +kernel
theorem dX5_isSafe_20 : decode cX5_isSafe 20 = .ok (.getfield 37, 3) := by decide +kernel
theorem dX5_isSafe_23 : decode cX5_isSafe 23 = .ok (.getfield 111, 3) := by decide +kernel
theorem dX5_isSafe_26 : decode cX5_isSafe 26 = .ok (.aload_n 0, 1) := by decide +kernel
theorem dX5_isSafe_27 : decode cX5_isSafe 27 = .ok (.getfield 18, 3) := by decide +kernel
theorem dX5_isSafe_30 : decode cX5_isSafe 30 = .ok (.iconst 0, 1) := by decide +kernel
theorem dX5_isSafe_31 : decode cX5_isSafe 31 = .ok (.iaload, 1) := by decide +kernel
theorem dX5_isSafe_32 : decode cX5_isSafe 32 = .ok (.if_icmp .lt 7, 3) := by decide +kernel
theorem dX5_isSafe_35 : decode cX5_isSafe 35 = .ok (.iconst 1, 1) := by decide +kernel
theorem dX5_isSafe_36 : decode cX5_isSafe 36 = .ok (.goto 4, 3) := by decide +kernel
theorem dX5_isSafe_39 : decode cX5_isSafe 39 = .ok (.iconst 0, 1) := by decide +kernel
theorem dX5_isSafe_40 : decode cX5_isSafe 40 = .ok (.ireturn, 1) := by decide +kernel
theorem dX5_isSafeWith_0 : decode cX5_isSafeWith 0 = .ok (.aload_n 0, 1) := by decide +kernel
theorem dX5_isSafeWith_1 : decode cX5_isSafeWith 1 = .ok (.getfield 37, 3) := by decide +kernel
theorem dX5_isSafeWith_4 : decode cX5_isSafeWith 4 = .ok (.invokevirtual 104, 3) := by decide +kernel
theorem dX5_isSafeWith_7 : decode cX5_isSafeWith 7 = .ok (.aload_n 0, 1) := by decide +kernel
theorem dX5_isSafeWith_8 : decode cX5_isSafeWith 8 = .ok (.iload_n 1, 1) := by decide +kernel
theorem dX5_isSafeWith_9 : decode cX5_isSafeWith 9 = .ok (.iconst 0, 1) := by decide +kernel
theorem dX5_isSafeWith_10 : decode cX5_isSafeWith 10 = .ok (.aload_n 0, 1) := by decide +kernel
theorem dX5_isSafeWith_11 : decode cX5_isSafeWith 11 = .ok (.getfield 25, 3) := by decide +kernel
theorem dX5_isSafeWith_14 : decode cX5_isSafeWith 14 = .ok (.iload_n 1, 1) := by decide +kernel
theorem dX5_isSafeWith_15 : decode cX5_isSafeWith 15 = .ok (.iaload, 1) := by decide +kernel
theorem dX5_isSafeWith_16 : decode cX5_isSafeWith 16 = .ok (.invokevirtual 107, 3) := by decide +kernel
theorem dX5_isSafeWith_19 : decode cX5_isSafeWith 19 = .ok (.iconst 0, 1) := by decide +kernel
theorem dX5_isSafeWith_20 : decode cX5_isSafeWith 20 = .ok (.istore_n 3, 1) := by decide +kernel
theorem dX5_isSafeWith_21 : decode cX5_isSafeWith 21 = .ok (.iload_n 3, 1) := by decide +kernel
theorem dX5_isSafeWith_22 : decode cX5_isSafeWith 22 = .ok (.aload_n 2, 1) := by decide +kernel
theorem dX5_isSafeWith_23 : decode cX5_isSafeWith 23 = .ok (.getfield 86, 3) := by decide +kernel
theorem dX5_isSafeWith_26 : decode cX5_isSafeWith 26 = .ok (.if_icmp .ge 25, 3) := by decide +kernel
theorem dX5_isSafeWith_29 : decode cX5_isSafeWith 29 = .ok (.aload_n 0, 1) := by decide +kernel
theorem dX5_isSafeWith_30 : decode cX5_isSafeWith 30 = .ok (.getfield 37, 3) := by decide +kernel
theorem dX5_isSafeWith_33 : decode cX5_isSafeWith 33 = .ok (.aload_n 2, 1) := by decide +kernel
theorem dX5_isSafeWith_34 : decode cX5_isSafeWith 34 = .ok (.getfield 91, 3) := by decide +kernel
theorem dX5_isSafeWith_37 : decode cX5_isSafeWith 37 = .ok (.iload_n 3, 1) := by decide +kernel
theorem dX5_isSafeWith_38 : decode cX5_isSafeWith 38 = .ok (.iaload, 1) := by decide +kernel
theorem dX5_isSafeWith_39 : decode cX5_isSafeWith 39 = .ok (.invokestatic 97, 3) := by decide +kernel
theorem dX5_isSafeWith_42 : decode cX5_isSafeWith 42 = .ok (.invokevirtual 114, 3) := by decide +kernel
theorem dX5_isSafeWith_45 : decode cX5_isSafeWith 45 = .ok (.iinc 3 1, 3) := by decide +kernel
theorem dX5_isSafeWith_48 : decode cX5_isSafeWith 48 = .ok (.goto (-27), 3) := by decide +kernel
theorem dX5_isSafeWith_51 : decode cX5_isSafeWith 51 = .ok (.aload_n 0, 1) := by decide +kernel
theorem dX5_isSafeWith_52 : decode cX5_isSafeWith 52 = .ok (.getfield 37, 3) := by decide +kernel
theorem dX5_isSafeWith_55 : decode cX5_isSafeWith 55 = .ok (.getfield 111, 3) := by decide +kernel
theorem dX5_isSafeWith_58 : decode cX5_isSafeWith 58 = .ok (.aload_n 0, 1) := by decide +kernel
theorem dX5_isSafeWith_59 : decode cX5_isSafeWith 59 = .ok (.getfield 18, 3) := by decide +kernel
theorem dX5_isSafeWith_62 : decode cX5_isSafeWith 62 = .ok (.iconst 0, 1) := by decide +kernel
theorem dX5_isSafeWith_63 : decode cX5_isSafeWith 63 = .ok (.iaload, 1) := by decide +kernel
theorem dX5_isSafeWith_64 : decode cX5_isSafeWith 64 = .ok (.if_icmp .lt 7, 3) := by decide +kernel
theorem dX5_isSafeWith_67 : decode cX5_isSafeWith 67 = .ok (.iconst 1, 1) := by decide +kernel
theorem dX5_isSafeWith_68 : decode cX5_isSafeWith 68 = .ok (.goto 4, 3) := by decide +kernel
theorem dX5_isSafeWith_71 : decode cX5_isSafeWith 71 = .ok (.iconst 0, 1) := by decide +kernel
theorem dX5_isSafeWith_72 : decode cX5_isSafeWith 72 = .ok (.ireturn, 1) := by decide +kernel
theorem dX5_leastGap_0 : decode cX5_leastGap 0 = .ok (.aload_n 0, 1) := by decide +kernel
theorem dX5_leastGap_1 : decode cX5_leastGap 1 = .ok (.getfield 37, 3) := by decide +kernel
theorem dX5_leastGap_4 : decode cX5_leastGap 4 = .ok (.invokevirtual 104, 3) := by decide +kernel
theorem dX5_leastGap_7 : decode cX5_leastGap 7 = .ok (.aload_n 0, 1) := by decide +kernel
theorem dX5_leastGap_8 : decode cX5_leastGap 8 = .ok (.iload_n 1, 1) := by decide +kernel
theorem dX5_leastGap_9 : decode cX5_leastGap 9 = .ok (.iconst 0, 1) := by decide +kernel
theorem dX5_leastGap_10 : decode cX5_leastGap 10 = .ok (.aload_n 0, 1) := by decide +kernel
theorem dX5_leastGap_11 : decode cX5_leastGap 11 = .ok (.getfield 25, 3) := by decide +kernel
theorem dX5_leastGap_14 : decode cX5_leastGap 14 = .ok (.iload_n 1, 1) := by decide +kernel
theorem dX5_leastGap_15 : decode cX5_leastGap 15 = .ok (.iaload, 1) := by decide +kernel
theorem dX5_leastGap_16 : decode cX5_leastGap 16 = .ok (.invokevirtual 107, 3) := by decide +kernel
theorem dX5_leastGap_19 : decode cX5_leastGap 19 = .ok (.aload_n 0, 1) := by decide +kernel
theorem dX5_leastGap_20 : decode cX5_leastGap 20 = .ok (.getfield 37, 3) := by decide +kernel
theorem dX5_leastGap_23 : decode cX5_leastGap 23 = .ok (.getfield 111, 3) := by decide +kernel
theorem dX5_leastGap_26 : decode cX5_leastGap 26 = .ok (.bipush 99, 2) := by decide +kernel
theorem dX5_leastGap_28 : decode cX5_leastGap 28 = .ok (.if_icmp .ne 8, 3) := by decide +kernel
theorem dX5_leastGap_31 : decode cX5_leastGap 31 = .ok (.bipush (-9), 2) := by decide +kernel
theorem dX5_leastGap_33 : decode cX5_leastGap 33 = .ok (.goto 10, 3) := by decide +kernel
theorem dX5_leastGap_36 : decode cX5_leastGap 36 = .ok (.aload_n 0, 1) := by decide +kernel
theorem dX5_leastGap_37 : decode cX5_leastGap 37 = .ok (.getfield 37, 3) := by decide +kernel
theorem dX5_leastGap_40 : decode cX5_leastGap 40 = .ok (.getfield 111, 3) := by decide +kernel
theorem dX5_leastGap_43 : decode cX5_leastGap 43 = .ok (.ireturn, 1) := by decide +kernel
theorem dX5_unsafeTracks_0 : decode cX5_unsafeTracks 0 = .ok (.iconst 0, 1) := by decide +kernel
theorem dX5_unsafeTracks_1 : decode cX5_unsafeTracks 1 = .ok (.istore_n 1, 1) := by decide +kernel
theorem dX5_unsafeTracks_2 : decode cX5_unsafeTracks 2 = .ok (.iconst 0, 1) := by decide +kernel
theorem dX5_unsafeTracks_3 : decode cX5_unsafeTracks 3 = .ok (.istore_n 2, 1) := by decide +kernel
theorem dX5_unsafeTracks_4 : decode cX5_unsafeTracks 4 = .ok (.iload_n 2, 1) := by decide +kernel
theorem dX5_unsafeTracks_5 : decode cX5_unsafeTracks 5 = .ok (.aload_n 0, 1) := by decide +kernel
theorem dX5_unsafeTracks_6 : decode cX5_unsafeTracks 6 = .ok (.getfield 9, 3) := by decide +kernel
theorem dX5_unsafeTracks_9 : decode cX5_unsafeTracks 9 = .ok (.if_icmp .ge 20, 3) := by decide +kernel
theorem dX5_unsafeTracks_12 : decode cX5_unsafeTracks 12 = .ok (.aload_n 0, 1) := by decide +kernel
theorem dX5_unsafeTracks_13 : decode cX5_unsafeTracks 13 = .ok (.iload_n 2, 1) := by decide +kernel
theorem dX5_unsafeTracks_14 : decode cX5_unsafeTracks 14 = .ok (.invokevirtual 118, 3) := by decide +kernel
theorem dX5_unsafeTracks_17 : decode cX5_unsafeTracks 17 = .ok (.ifCond .ne 6, 3) := by decide +kernel
theorem dX5_unsafeTracks_20 : decode cX5_unsafeTracks 20 = .ok (.iinc 1 1, 3) := by decide +kernel
theorem dX5_unsafeTracks_23 : decode cX5_unsafeTracks 23 = .ok (.iinc 2 1, 3) := by decide +kernel
theorem dX5_unsafeTracks_26 : decode cX5_unsafeTracks 26 = .ok (.goto (-22), 3) := by decide +kernel
theorem dX5_unsafeTracks_29 : decode cX5_unsafeTracks 29 = .ok (.iload_n 1, 1) := by decide +kernel
theorem dX5_unsafeTracks_30 : decode cX5_unsafeTracks 30 = .ok (.ireturn, 1) := by decide +kernel
theorem dX5_passPart_0 : decode cX5_passPart 0 = .ok (.iload_n 2, 1) := by decide +kernel
theorem dX5_passPart_1 : decode cX5_passPart 1 = .ok (.istore 4, 2) := by decide +kernel
theorem dX5_passPart_3 : decode cX5_passPart 3 = .ok (.iload 4, 2) := by decide +kernel
theorem dX5_passPart_5 : decode cX5_passPart 5 = .ok (.iload_n 3, 1) := by decide +kernel
theorem dX5_passPart_6 : decode cX5_passPart 6 = .ok (.if_icmp .ge 26, 3) := by decide +kernel
theorem dX5_passPart_9 : decode cX5_passPart 9 = .ok (.aload_n 0, 1) := by decide +kernel
theorem dX5_passPart_10 : decode cX5_passPart 10 = .ok (.getfield 37, 3) := by decide +kernel
theorem dX5_passPart_13 : decode cX5_passPart 13 = .ok (.aload_n 0, 1) := by decide +kernel
theorem dX5_passPart_14 : decode cX5_passPart 14 = .ok (.iload_n 1, 1) := by decide +kernel
theorem dX5_passPart_15 : decode cX5_passPart 15 = .ok (.iload 4, 2) := by decide +kernel
theorem dX5_passPart_17 : decode cX5_passPart 17 = .ok (.invokevirtual 78, 3) := by decide +kernel
theorem dX5_passPart_20 : decode cX5_passPart 20 = .ok (.invokestatic 97, 3) := by decide +kernel
theorem dX5_passPart_23 : decode cX5_passPart 23 = .ok (.invokevirtual 114, 3) := by decide +kernel
theorem dX5_passPart_26 : decode cX5_passPart 26 = .ok (.iinc 4 1, 3) := by decide +kernel
theorem dX5_passPart_29 : decode cX5_passPart 29 = .ok (.goto (-26), 3) := by decide +kernel
theorem dX5_passPart_32 : decode cX5_passPart 32 = .ok (.return_, 1) := by decide +kernel
theorem dX5_costOrCode_0 : decode cX5_costOrCode 0 = .ok (.aload_n 0, 1) := by decide +kernel
theorem dX5_costOrCode_1 : decode cX5_costOrCode 1 = .ok (.iload_n 1, 1) := by decide +kernel
theorem dX5_costOrCode_2 : decode cX5_costOrCode 2 = .ok (.invokevirtual 122, 3) := by decide +kernel
theorem dX5_costOrCode_5 : decode cX5_costOrCode 5 = .ok (.ifCond .eq 26, 3) := by decide +kernel
theorem dX5_costOrCode_8 : decode cX5_costOrCode 8 = .ok (.aload_n 0, 1) := by decide +kernel
theorem dX5_costOrCode_9 : decode cX5_costOrCode 9 = .ok (.iload_n 2, 1) := by decide +kernel
theorem dX5_costOrCode_10 : decode cX5_costOrCode 10 = .ok (.invokevirtual 122, 3) := by decide +kernel
theorem dX5_costOrCode_13 : decode cX5_costOrCode 13 = .ok (.ifCond .eq 18, 3) := by decide +kernel
theorem dX5_costOrCode_16 : decode cX5_costOrCode 16 = .ok (.iload_n 1, 1) := by decide +kernel
theorem dX5_costOrCode_17 : decode cX5_costOrCode 17 = .ok (.iload_n 2, 1) := by decide +kernel
theorem dX5_costOrCode_18 : decode cX5_costOrCode 18 = .ok (.if_icmp .eq 13, 3) := by decide +kernel
theorem dX5_costOrCode_21 : decode cX5_costOrCode 21 = .ok (.iload_n 3, 1) := by decide +kernel
theorem dX5_costOrCode_22 : decode cX5_costOrCode 22 = .ok (.iconst 1, 1) := by decide +kernel
theorem dX5_costOrCode_23 : decode cX5_costOrCode 23 = .ok (.bipush 8, 2) := by decide +kernel
theorem dX5_costOrCode_25 : decode cX5_costOrCode 25 = .ok (.invokestatic 74, 3) := by decide +kernel
theorem dX5_costOrCode_28 : decode cX5_costOrCode 28 = .ok (.ifCond .ne 5, 3) := by decide +kernel
theorem dX5_costOrCode_31 : decode cX5_costOrCode 31 = .ok (.iconst (-1), 1) := by decide +kernel
theorem dX5_costOrCode_32 : decode cX5_costOrCode 32 = .ok (.ireturn, 1) := by decide +kernel
theorem dX5_costOrCode_33 : decode cX5_costOrCode 33 = .ok (.iload_n 3, 1) := by decide +kernel
theorem dX5_costOrCode_34 : decode cX5_costOrCode 34 = .ok (.aload_n 0, 1) := by decide +kernel
theorem dX5_costOrCode_35 : decode cX5_costOrCode 35 = .ok (.getfield 25, 3) := by decide +kernel
theorem dX5_costOrCode_38 : decode cX5_costOrCode 38 = .ok (.iload_n 1, 1) := by decide +kernel
theorem dX5_costOrCode_39 : decode cX5_costOrCode 39 = .ok (.iaload, 1) := by decide +kernel
theorem dX5_costOrCode_40 : decode cX5_costOrCode 40 = .ok (.if_icmp .gt 13, 3) := by decide +kernel
theorem dX5_costOrCode_43 : decode cX5_costOrCode 43 = .ok (.aload_n 0, 1) := by decide +kernel
theorem dX5_costOrCode_44 : decode cX5_costOrCode 44 = .ok (.iload_n 1, 1) := by decide +kernel
theorem dX5_costOrCode_45 : decode cX5_costOrCode 45 = .ok (.iload_n 2, 1) := by decide +kernel
theorem dX5_costOrCode_46 : decode cX5_costOrCode 46 = .ok (.iload_n 3, 1) := by decide +kernel
theorem dX5_costOrCode_47 : decode cX5_costOrCode 47 = .ok (.invokevirtual 125, 3) := by decide +kernel
theorem dX5_costOrCode_50 : decode cX5_costOrCode 50 = .ok (.ifCond .ne 6, 3) := by decide +kernel
theorem dX5_costOrCode_53 : decode cX5_costOrCode 53 = .ok (.bipush (-2), 2) := by decide +kernel
theorem dX5_costOrCode_55 : decode cX5_costOrCode 55 = .ok (.ireturn, 1) := by decide +kernel
theorem dX5_costOrCode_56 : decode cX5_costOrCode 56 = .ok (.aload_n 0, 1) := by decide +kernel
theorem dX5_costOrCode_57 : decode cX5_costOrCode 57 = .ok (.getfield 25, 3) := by decide +kernel
theorem dX5_costOrCode_60 : decode cX5_costOrCode 60 = .ok (.iload_n 2, 1) := by decide +kernel
theorem dX5_costOrCode_61 : decode cX5_costOrCode 61 = .ok (.iaload, 1) := by decide +kernel
theorem dX5_costOrCode_62 : decode cX5_costOrCode 62 = .ok (.iload_n 3, 1) := by decide +kernel
theorem dX5_costOrCode_63 : decode cX5_costOrCode 63 = .ok (.iadd, 1) := by decide +kernel
theorem dX5_costOrCode_64 : decode cX5_costOrCode 64 = .ok (.aload_n 0, 1) := by decide +kernel
theorem dX5_costOrCode_65 : decode cX5_costOrCode 65 = .ok (.getfield 15, 3) := by decide +kernel
theorem dX5_costOrCode_68 : decode cX5_costOrCode 68 = .ok (.if_icmp .le 6, 3) := by decide +kernel
theorem dX5_costOrCode_71 : decode cX5_costOrCode 71 = .ok (.bipush (-3), 2) := by decide +kernel
theorem dX5_costOrCode_73 : decode cX5_costOrCode 73 = .ok (.ireturn, 1) := by decide +kernel
theorem dX5_costOrCode_74 : decode cX5_costOrCode 74 = .ok (.aload_n 0, 1) := by decide +kernel
theorem dX5_costOrCode_75 : decode cX5_costOrCode 75 = .ok (.iload_n 1, 1) := by decide +kernel
theorem dX5_costOrCode_76 : decode cX5_costOrCode 76 = .ok (.iload_n 2, 1) := by decide +kernel
theorem dX5_costOrCode_77 : decode cX5_costOrCode 77 = .ok (.iload_n 3, 1) := by decide +kernel
theorem dX5_costOrCode_78 : decode cX5_costOrCode 78 = .ok (.invokevirtual 128, 3) := by decide +kernel
theorem dX5_costOrCode_81 : decode cX5_costOrCode 81 = .ok (.ireturn, 1) := by decide +kernel
theorem dX5_isSafeBehindMove_0 : decode cX5_isSafeBehindMove 0 = .ok (.aload_n 0, 1) := by decide +kernel
theorem dX5_isSafeBehindMove_1 : decode cX5_isSafeBehindMove 1 = .ok (.getfield 25, 3) := by decide +kernel
theorem dX5_isSafeBehindMove_4 : decode cX5_isSafeBehindMove 4 = .ok (.iload_n 1, 1) := by decide +kernel
theorem dX5_isSafeBehindMove_5 : decode cX5_isSafeBehindMove 5 = .ok (.iaload, 1) := by decide +kernel
theorem dX5_isSafeBehindMove_6 : decode cX5_isSafeBehindMove 6 = .ok (.iload_n 3, 1) := by decide +kernel
theorem dX5_isSafeBehindMove_7 : decode cX5_isSafeBehindMove 7 = .ok (.isub, 1) := by decide +kernel
theorem dX5_isSafeBehindMove_8 : decode cX5_isSafeBehindMove 8 = .ok (.istore 4, 2) := by decide +kernel
theorem dX5_isSafeBehindMove_10 : decode cX5_isSafeBehindMove 10 = .ok (.aload_n 0, 1) := by decide +kernel
theorem dX5_isSafeBehindMove_11 : decode cX5_isSafeBehindMove 11 = .ok (.getfield 37, 3) := by decide +kernel
theorem dX5_isSafeBehindMove_14 : decode cX5_isSafeBehindMove 14 = .ok (.invokevirtual 104, 3) := by decide +kernel
theorem dX5_isSafeBehindMove_17 : decode cX5_isSafeBehindMove 17 = .ok (.aload_n 0, 1) := by decide +kernel
theorem dX5_isSafeBehindMove_18 : decode cX5_isSafeBehindMove 18 = .ok (.iload_n 1, 1) := by decide +kernel
theorem dX5_isSafeBehindMove_19 : decode cX5_isSafeBehindMove 19 = .ok (.iconst 0, 1) := by decide +kernel
theorem dX5_isSafeBehindMove_20 : decode cX5_isSafeBehindMove 20 = .ok (.iload 4, 2) := by decide +kernel
theorem dX5_isSafeBehindMove_22 : decode cX5_isSafeBehindMove 22 = .ok (.invokevirtual 107, 3) := by decide +kernel
theorem dX5_isSafeBehindMove_25 : decode cX5_isSafeBehindMove 25 = .ok (.aload_n 0, 1) := by decide +kernel
theorem dX5_isSafeBehindMove_26 : decode cX5_isSafeBehindMove 26 = .ok (.getfield 37, 3) := by decide +kernel
theorem dX5_isSafeBehindMove_29 : decode cX5_isSafeBehindMove 29 = .ok (.getfield 111, 3) := by decide +kernel
theorem dX5_isSafeBehindMove_32 : decode cX5_isSafeBehindMove 32 = .ok (.aload_n 0, 1) := by decide +kernel
theorem dX5_isSafeBehindMove_33 : decode cX5_isSafeBehindMove 33 = .ok (.getfield 18, 3) := by decide +kernel
theorem dX5_isSafeBehindMove_36 : decode cX5_isSafeBehindMove 36 = .ok (.iconst 0, 1) := by decide +kernel
theorem dX5_isSafeBehindMove_37 : decode cX5_isSafeBehindMove 37 = .ok (.iaload, 1) := by decide +kernel
theorem dX5_isSafeBehindMove_38 : decode cX5_isSafeBehindMove 38 = .ok (.if_icmp .ge 5, 3) := by decide +kernel
theorem dX5_isSafeBehindMove_41 : decode cX5_isSafeBehindMove 41 = .ok (.iconst 0, 1) := by decide +kernel
theorem dX5_isSafeBehindMove_42 : decode cX5_isSafeBehindMove 42 = .ok (.ireturn, 1) := by decide +kernel
theorem dX5_isSafeBehindMove_43 : decode cX5_isSafeBehindMove 43 = .ok (.aload_n 0, 1) := by decide +kernel
theorem dX5_isSafeBehindMove_44 : decode cX5_isSafeBehindMove 44 = .ok (.getfield 37, 3) := by decide +kernel
theorem dX5_isSafeBehindMove_47 : decode cX5_isSafeBehindMove 47 = .ok (.invokevirtual 104, 3) := by decide +kernel
theorem dX5_isSafeBehindMove_50 : decode cX5_isSafeBehindMove 50 = .ok (.aload_n 0, 1) := by decide +kernel
theorem dX5_isSafeBehindMove_51 : decode cX5_isSafeBehindMove 51 = .ok (.iload_n 2, 1) := by decide +kernel
theorem dX5_isSafeBehindMove_52 : decode cX5_isSafeBehindMove 52 = .ok (.iconst 0, 1) := by decide +kernel
theorem dX5_isSafeBehindMove_53 : decode cX5_isSafeBehindMove 53 = .ok (.aload_n 0, 1) := by decide +kernel
theorem dX5_isSafeBehindMove_54 : decode cX5_isSafeBehindMove 54 = .ok (.getfield 25, 3) := by decide +kernel
theorem dX5_isSafeBehindMove_57 : decode cX5_isSafeBehindMove 57 = .ok (.iload_n 2, 1) := by decide +kernel
theorem dX5_isSafeBehindMove_58 : decode cX5_isSafeBehindMove 58 = .ok (.iaload, 1) := by decide +kernel
end
section
theorem dX5_isSafeBehindMove_59 : decode cX5_isSafeBehindMove 59 = .ok (.invokevirtual 107, 3) := by decide +kernel
theorem dX5_isSafeBehindMove_62 : decode cX5_isSafeBehindMove 62 = .ok (.aload_n 0, 1) := by decide +kernel
theorem dX5_isSafeBehindMove_63 : decode cX5_isSafeBehindMove 63 = .ok (.iload_n 1, 1) := by decide +kernel
theorem dX5_isSafeBehindMove_64 : decode cX5_isSafeBehindMove 64 = .ok (.iload 4, 2) := by decide +kernel
theorem dX5_isSafeBehindMove_66 : decode cX5_isSafeBehindMove 66 = .ok (.aload_n 0, 1) := by decide +kernel
theorem dX5_isSafeBehindMove_67 : decode cX5_isSafeBehindMove 67 = .ok (.getfield 25, 3) := by decide +kernel
theorem dX5_isSafeBehindMove_70 : decode cX5_isSafeBehindMove 70 = .ok (.iload_n 1, 1) := by decide +kernel
theorem dX5_isSafeBehindMove_71 : decode cX5_isSafeBehindMove 71 = .ok (.iaload, 1) := by decide +kernel
theorem dX5_isSafeBehindMove_72 : decode cX5_isSafeBehindMove 72 = .ok (.invokevirtual 107, 3) := by decide +kernel
theorem dX5_isSafeBehindMove_75 : decode cX5_isSafeBehindMove 75 = .ok (.aload_n 0, 1) := by decide +kernel
theorem dX5_isSafeBehindMove_76 : decode cX5_isSafeBehindMove 76 = .ok (.getfield 37, 3) := by decide +kernel
theorem dX5_isSafeBehindMove_79 : decode cX5_isSafeBehindMove 79 = .ok (.getfield 111, 3) := by decide +kernel
theorem dX5_isSafeBehindMove_82 : decode cX5_isSafeBehindMove 82 = .ok (.aload_n 0, 1) := by decide +kernel
theorem dX5_isSafeBehindMove_83 : decode cX5_isSafeBehindMove 83 = .ok (.getfield 18, 3) := by decide +kernel
theorem dX5_isSafeBehindMove_86 : decode cX5_isSafeBehindMove 86 = .ok (.iconst 0, 1) := by decide +kernel
theorem dX5_isSafeBehindMove_87 : decode cX5_isSafeBehindMove 87 = .ok (.iaload, 1) := by decide +kernel
theorem dX5_isSafeBehindMove_88 : decode cX5_isSafeBehindMove 88 = .ok (.if_icmp .lt 7, 3) := by decide +kernel
theorem dX5_isSafeBehindMove_91 : decode cX5_isSafeBehindMove 91 = .ok (.iconst 1, 1) := by decide +kernel
theorem dX5_isSafeBehindMove_92 : decode cX5_isSafeBehindMove 92 = .ok (.goto 4, 3) := by decide +kernel
theorem dX5_isSafeBehindMove_95 : decode cX5_isSafeBehindMove 95 = .ok (.iconst 0, 1) := by decide +kernel
theorem dX5_isSafeBehindMove_96 : decode cX5_isSafeBehindMove 96 = .ok (.ireturn, 1) := by decide +kernel
theorem dX5_minutesOf_0 : decode cX5_minutesOf 0 = .ok (.aload_n 0, 1) := by decide +kernel
theorem dX5_minutesOf_1 : decode cX5_minutesOf 1 = .ok (.getfield 18, 3) := by decide +kernel
theorem dX5_minutesOf_4 : decode cX5_minutesOf 4 = .ok (.iconst 2, 1) := by decide +kernel
theorem dX5_minutesOf_5 : decode cX5_minutesOf 5 = .ok (.iaload, 1) := by decide +kernel
theorem dX5_minutesOf_6 : decode cX5_minutesOf 6 = .ok (.iload_n 3, 1) := by decide +kernel
theorem dX5_minutesOf_7 : decode cX5_minutesOf 7 = .ok (.iadd, 1) := by decide +kernel
theorem dX5_minutesOf_8 : decode cX5_minutesOf 8 = .ok (.iconst 2, 1) := by decide +kernel
theorem dX5_minutesOf_9 : decode cX5_minutesOf 9 = .ok (.iload_n 1, 1) := by decide +kernel
theorem dX5_minutesOf_10 : decode cX5_minutesOf 10 = .ok (.iload_n 2, 1) := by decide +kernel
theorem dX5_minutesOf_11 : decode cX5_minutesOf 11 = .ok (.isub, 1) := by decide +kernel
theorem dX5_minutesOf_12 : decode cX5_minutesOf 12 = .ok (.invokestatic 131, 3) := by decide +kernel
theorem dX5_minutesOf_15 : decode cX5_minutesOf 15 = .ok (.imul, 1) := by decide +kernel
theorem dX5_minutesOf_16 : decode cX5_minutesOf 16 = .ok (.iadd, 1) := by decide +kernel
theorem dX5_minutesOf_17 : decode cX5_minutesOf 17 = .ok (.istore 4, 2) := by decide +kernel
theorem dX5_minutesOf_19 : decode cX5_minutesOf 19 = .ok (.aload_n 0, 1) := by decide +kernel
theorem dX5_minutesOf_20 : decode cX5_minutesOf 20 = .ok (.getfield 25, 3) := by decide +kernel
theorem dX5_minutesOf_23 : decode cX5_minutesOf 23 = .ok (.iload_n 1, 1) := by decide +kernel
theorem dX5_minutesOf_24 : decode cX5_minutesOf 24 = .ok (.iaload, 1) := by decide +kernel
theorem dX5_minutesOf_25 : decode cX5_minutesOf 25 = .ok (.iload_n 3, 1) := by decide +kernel
theorem dX5_minutesOf_26 : decode cX5_minutesOf 26 = .ok (.isub, 1) := by decide +kernel
theorem dX5_minutesOf_27 : decode cX5_minutesOf 27 = .ok (.istore 5, 2) := by decide +kernel
theorem dX5_minutesOf_29 : decode cX5_minutesOf 29 = .ok (.iload 5, 2) := by decide +kernel
theorem dX5_minutesOf_31 : decode cX5_minutesOf 31 = .ok (.aload_n 0, 1) := by decide +kernel
theorem dX5_minutesOf_32 : decode cX5_minutesOf 32 = .ok (.getfield 25, 3) := by decide +kernel
theorem dX5_minutesOf_35 : decode cX5_minutesOf 35 = .ok (.iload_n 1, 1) := by decide +kernel
theorem dX5_minutesOf_36 : decode cX5_minutesOf 36 = .ok (.iaload, 1) := by decide +kernel
theorem dX5_minutesOf_37 : decode cX5_minutesOf 37 = .ok (.if_icmp .ge 28, 3) := by decide +kernel
theorem dX5_minutesOf_40 : decode cX5_minutesOf 40 = .ok (.aload_n 0, 1) := by decide +kernel
theorem dX5_minutesOf_41 : decode cX5_minutesOf 41 = .ok (.iload_n 1, 1) := by decide +kernel
theorem dX5_minutesOf_42 : decode cX5_minutesOf 42 = .ok (.iload 5, 2) := by decide +kernel
theorem dX5_minutesOf_44 : decode cX5_minutesOf 44 = .ok (.invokevirtual 78, 3) := by decide +kernel
theorem dX5_minutesOf_47 : decode cX5_minutesOf 47 = .ok (.invokestatic 97, 3) := by decide +kernel
theorem dX5_minutesOf_50 : decode cX5_minutesOf 50 = .ok (.iconst 2, 1) := by decide +kernel
theorem dX5_minutesOf_51 : decode cX5_minutesOf 51 = .ok (.if_icmp .ne 8, 3) := by decide +kernel
theorem dX5_minutesOf_54 : decode cX5_minutesOf 54 = .ok (.iload 4, 2) := by decide +kernel
theorem dX5_minutesOf_56 : decode cX5_minutesOf 56 = .ok (.iconst 5, 1) := by decide +kernel
theorem dX5_minutesOf_57 : decode cX5_minutesOf 57 = .ok (.iadd, 1) := by decide +kernel
theorem dX5_minutesOf_58 : decode cX5_minutesOf 58 = .ok (.ireturn, 1) := by decide +kernel
theorem dX5_minutesOf_59 : decode cX5_minutesOf 59 = .ok (.iinc 5 1, 3) := by decide +kernel
theorem dX5_minutesOf_62 : decode cX5_minutesOf 62 = .ok (.goto (-33), 3) := by decide +kernel
theorem dX5_minutesOf_65 : decode cX5_minutesOf 65 = .ok (.iload 4, 2) := by decide +kernel
theorem dX5_minutesOf_67 : decode cX5_minutesOf 67 = .ok (.ireturn, 1) := by decide +kernel
theorem dX5_drive_0 : decode cX5_drive 0 = .ok (.aload_n 0, 1) := by decide +kernel
theorem dX5_drive_1 : decode cX5_drive 1 = .ok (.iload_n 1, 1) := by decide +kernel
theorem dX5_drive_2 : decode cX5_drive 2 = .ok (.iload_n 2, 1) := by decide +kernel
theorem dX5_drive_3 : decode cX5_drive 3 = .ok (.iload_n 3, 1) := by decide +kernel
theorem dX5_drive_4 : decode cX5_drive 4 = .ok (.invokevirtual 128, 3) := by decide +kernel
theorem dX5_drive_7 : decode cX5_drive 7 = .ok (.istore 4, 2) := by decide +kernel
theorem dX5_drive_9 : decode cX5_drive 9 = .ok (.aload_n 0, 1) := by decide +kernel
theorem dX5_drive_10 : decode cX5_drive 10 = .ok (.iload_n 1, 1) := by decide +kernel
theorem dX5_drive_11 : decode cX5_drive 11 = .ok (.iload_n 2, 1) := by decide +kernel
theorem dX5_drive_12 : decode cX5_drive 12 = .ok (.iload_n 3, 1) := by decide +kernel
theorem dX5_drive_13 : decode cX5_drive 13 = .ok (.invokevirtual 136, 3) := by decide +kernel
theorem dX5_drive_16 : decode cX5_drive 16 = .ok (.aload_n 0, 1) := by decide +kernel
theorem dX5_drive_17 : decode cX5_drive 17 = .ok (.getfield 28, 3) := by decide +kernel
theorem dX5_drive_20 : decode cX5_drive 20 = .ok (.iload_n 1, 1) := by decide +kernel
theorem dX5_drive_21 : decode cX5_drive 21 = .ok (.iconst (-1), 1) := by decide +kernel
theorem dX5_drive_22 : decode cX5_drive 22 = .ok (.iastore, 1) := by decide +kernel
theorem dX5_drive_23 : decode cX5_drive 23 = .ok (.aload_n 0, 1) := by decide +kernel
theorem dX5_drive_24 : decode cX5_drive 24 = .ok (.getfield 28, 3) := by decide +kernel
theorem dX5_drive_27 : decode cX5_drive 27 = .ok (.iload_n 2, 1) := by decide +kernel
theorem dX5_drive_28 : decode cX5_drive 28 = .ok (.iconst (-1), 1) := by decide +kernel
theorem dX5_drive_29 : decode cX5_drive 29 = .ok (.iastore, 1) := by decide +kernel
theorem dX5_drive_30 : decode cX5_drive 30 = .ok (.aload_n 0, 1) := by decide +kernel
theorem dX5_drive_31 : decode cX5_drive 31 = .ok (.dup, 1) := by decide +kernel
theorem dX5_drive_32 : decode cX5_drive 32 = .ok (.getfield 41, 3) := by decide +kernel
theorem dX5_drive_35 : decode cX5_drive 35 = .ok (.iload 4, 2) := by decide +kernel
theorem dX5_drive_37 : decode cX5_drive 37 = .ok (.iadd, 1) := by decide +kernel
theorem dX5_drive_38 : decode cX5_drive 38 = .ok (.putfield 41, 3) := by decide +kernel
theorem dX5_drive_41 : decode cX5_drive 41 = .ok (.aload_n 0, 1) := by decide +kernel
theorem dX5_drive_42 : decode cX5_drive 42 = .ok (.dup, 1) := by decide +kernel
theorem dX5_drive_43 : decode cX5_drive 43 = .ok (.getfield 44, 3) := by decide +kernel
theorem dX5_drive_46 : decode cX5_drive 46 = .ok (.iconst 1, 1) := by decide +kernel
theorem dX5_drive_47 : decode cX5_drive 47 = .ok (.iadd, 1) := by decide +kernel
theorem dX5_drive_48 : decode cX5_drive 48 = .ok (.putfield 44, 3) := by decide +kernel
theorem dX5_drive_51 : decode cX5_drive 51 = .ok (.aload_n 0, 1) := by decide +kernel
theorem dX5_drive_52 : decode cX5_drive 52 = .ok (.dup, 1) := by decide +kernel
theorem dX5_drive_53 : decode cX5_drive 53 = .ok (.getfield 47, 3) := by decide +kernel
theorem dX5_drive_56 : decode cX5_drive 56 = .ok (.iload 4, 2) := by decide +kernel
theorem dX5_drive_58 : decode cX5_drive 58 = .ok (.iadd, 1) := by decide +kernel
theorem dX5_drive_59 : decode cX5_drive 59 = .ok (.putfield 47, 3) := by decide +kernel
theorem dX5_drive_62 : decode cX5_drive 62 = .ok (.iload 4, 2) := by decide +kernel
theorem dX5_drive_64 : decode cX5_drive 64 = .ok (.ireturn, 1) := by decide +kernel
theorem dX5_shift_0 : decode cX5_shift 0 = .ok (.iload_n 1, 1) := by decide +kernel
theorem dX5_shift_1 : decode cX5_shift 1 = .ok (.bipush 8, 2) := by decide +kernel
theorem dX5_shift_3 : decode cX5_shift 3 = .ok (.imul, 1) := by decide +kernel
theorem dX5_shift_4 : decode cX5_shift 4 = .ok (.aload_n 0, 1) := by decide +kernel
theorem dX5_shift_5 : decode cX5_shift 5 = .ok (.getfield 25, 3) := by decide +kernel
theorem dX5_shift_8 : decode cX5_shift 8 = .ok (.iload_n 1, 1) := by decide +kernel
theorem dX5_shift_9 : decode cX5_shift 9 = .ok (.iaload, 1) := by decide +kernel
theorem dX5_shift_10 : decode cX5_shift 10 = .ok (.iadd, 1) := by decide +kernel
theorem dX5_shift_11 : decode cX5_shift 11 = .ok (.iload_n 3, 1) := by decide +kernel
theorem dX5_shift_12 : decode cX5_shift 12 = .ok (.isub, 1) := by decide +kernel
theorem dX5_shift_13 : decode cX5_shift 13 = .ok (.istore 4, 2) := by decide +kernel
theorem dX5_shift_15 : decode cX5_shift 15 = .ok (.aload_n 0, 1) := by decide +kernel
theorem dX5_shift_16 : decode cX5_shift 16 = .ok (.getfield 31, 3) := by decide +kernel
theorem dX5_shift_19 : decode cX5_shift 19 = .ok (.iload 4, 2) := by decide +kernel
theorem dX5_shift_21 : decode cX5_shift 21 = .ok (.aload_n 0, 1) := by decide +kernel
theorem dX5_shift_22 : decode cX5_shift 22 = .ok (.getfield 31, 3) := by decide +kernel
theorem dX5_shift_25 : decode cX5_shift 25 = .ok (.iload_n 2, 1) := by decide +kernel
theorem dX5_shift_26 : decode cX5_shift 26 = .ok (.bipush 8, 2) := by decide +kernel
theorem dX5_shift_28 : decode cX5_shift 28 = .ok (.imul, 1) := by decide +kernel
theorem dX5_shift_29 : decode cX5_shift 29 = .ok (.aload_n 0, 1) := by decide +kernel
theorem dX5_shift_30 : decode cX5_shift 30 = .ok (.getfield 25, 3) := by decide +kernel
theorem dX5_shift_33 : decode cX5_shift 33 = .ok (.iload_n 2, 1) := by decide +kernel
theorem dX5_shift_34 : decode cX5_shift 34 = .ok (.iaload, 1) := by decide +kernel
theorem dX5_shift_35 : decode cX5_shift 35 = .ok (.iadd, 1) := by decide +kernel
theorem dX5_shift_36 : decode cX5_shift 36 = .ok (.iload_n 3, 1) := by decide +kernel
theorem dX5_shift_37 : decode cX5_shift 37 = .ok (.invokestatic 62, 3) := by decide +kernel
theorem dX5_shift_40 : decode cX5_shift 40 = .ok (.aload_n 0, 1) := by decide +kernel
theorem dX5_shift_41 : decode cX5_shift 41 = .ok (.getfield 25, 3) := by decide +kernel
theorem dX5_shift_44 : decode cX5_shift 44 = .ok (.iload_n 1, 1) := by decide +kernel
theorem dX5_shift_45 : decode cX5_shift 45 = .ok (.dup2, 1) := by decide +kernel
theorem dX5_shift_46 : decode cX5_shift 46 = .ok (.iaload, 1) := by decide +kernel
theorem dX5_shift_47 : decode cX5_shift 47 = .ok (.iload_n 3, 1) := by decide +kernel
theorem dX5_shift_48 : decode cX5_shift 48 = .ok (.isub, 1) := by decide +kernel
theorem dX5_shift_49 : decode cX5_shift 49 = .ok (.iastore, 1) := by decide +kernel
theorem dX5_shift_50 : decode cX5_shift 50 = .ok (.aload_n 0, 1) := by decide +kernel
theorem dX5_shift_51 : decode cX5_shift 51 = .ok (.getfield 25, 3) := by decide +kernel
theorem dX5_shift_54 : decode cX5_shift 54 = .ok (.iload_n 2, 1) := by decide +kernel
theorem dX5_shift_55 : decode cX5_shift 55 = .ok (.dup2, 1) := by decide +kernel
theorem dX5_shift_56 : decode cX5_shift 56 = .ok (.iaload, 1) := by decide +kernel
theorem dX5_shift_57 : decode cX5_shift 57 = .ok (.iload_n 3, 1) := by decide +kernel
theorem dX5_shift_58 : decode cX5_shift 58 = .ok (.iadd, 1) := by decide +kernel
theorem dX5_shift_59 : decode cX5_shift 59 = .ok (.iastore, 1) := by decide +kernel
theorem dX5_shift_60 : decode cX5_shift 60 = .ok (.return_, 1) := by decide +kernel
theorem dX5_testBrakes_0 : decode cX5_testBrakes 0 = .ok (.aload_n 0, 1) := by decide +kernel
theorem dX5_testBrakes_1 : decode cX5_testBrakes 1 = .ok (.getfield 18, 3) := by decide +kernel
theorem dX5_testBrakes_4 : decode cX5_testBrakes 4 = .ok (.iconst 3, 1) := by decide +kernel
theorem dX5_testBrakes_5 : decode cX5_testBrakes 5 = .ok (.iaload, 1) := by decide +kernel
theorem dX5_testBrakes_6 : decode cX5_testBrakes 6 = .ok (.iconst 2, 1) := by decide +kernel
theorem dX5_testBrakes_7 : decode cX5_testBrakes 7 = .ok (.aload_n 0, 1) := by decide +kernel
theorem dX5_testBrakes_8 : decode cX5_testBrakes 8 = .ok (.getfield 25, 3) := by decide +kernel
theorem dX5_testBrakes_11 : decode cX5_testBrakes 11 = .ok (.iload_n 1, 1) := by decide +kernel
theorem dX5_testBrakes_12 : decode cX5_testBrakes 12 = .ok (.iaload, 1) := by decide +kernel
theorem dX5_testBrakes_13 : decode cX5_testBrakes 13 = .ok (.imul, 1) := by decide +kernel
theorem dX5_testBrakes_14 : decode cX5_testBrakes 14 = .ok (.iadd, 1) := by decide +kernel
theorem dX5_testBrakes_15 : decode cX5_testBrakes 15 = .ok (.istore_n 2, 1) := by decide +kernel
theorem dX5_testBrakes_16 : decode cX5_testBrakes 16 = .ok (.aload_n 0, 1) := by decide +kernel
theorem dX5_testBrakes_17 : decode cX5_testBrakes 17 = .ok (.dup, 1) := by decide +kernel
theorem dX5_testBrakes_18 : decode cX5_testBrakes 18 = .ok (.getfield 41, 3) := by decide +kernel
theorem dX5_testBrakes_21 : decode cX5_testBrakes 21 = .ok (.iload_n 2, 1) := by decide +kernel
theorem dX5_testBrakes_22 : decode cX5_testBrakes 22 = .ok (.iadd, 1) := by decide +kernel
theorem dX5_testBrakes_23 : decode cX5_testBrakes 23 = .ok (.putfield 41, 3) := by decide +kernel
theorem dX5_testBrakes_26 : decode cX5_testBrakes 26 = .ok (.aload_n 0, 1) := by decide +kernel
theorem dX5_testBrakes_27 : decode cX5_testBrakes 27 = .ok (.getfield 28, 3) := by decide +kernel
theorem dX5_testBrakes_30 : decode cX5_testBrakes 30 = .ok (.iload_n 1, 1) := by decide +kernel
theorem dX5_testBrakes_31 : decode cX5_testBrakes 31 = .ok (.aload_n 0, 1) := by decide +kernel
theorem dX5_testBrakes_32 : decode cX5_testBrakes 32 = .ok (.getfield 41, 3) := by decide +kernel
theorem dX5_testBrakes_35 : decode cX5_testBrakes 35 = .ok (.iastore, 1) := by decide +kernel
theorem dX5_testBrakes_36 : decode cX5_testBrakes 36 = .ok (.iload_n 2, 1) := by decide +kernel
theorem dX5_testBrakes_37 : decode cX5_testBrakes 37 = .ok (.ireturn, 1) := by decide +kernel
theorem dX5_testHoldsFor_0 : decode cX5_testHoldsFor 0 = .ok (.aload_n 0, 1) := by decide +kernel
theorem dX5_testHoldsFor_1 : decode cX5_testHoldsFor 1 = .ok (.getfield 28, 3) := by decide +kernel
theorem dX5_testHoldsFor_4 : decode cX5_testHoldsFor 4 = .ok (.iload_n 1, 1) := by decide +kernel
theorem dX5_testHoldsFor_5 : decode cX5_testHoldsFor 5 = .ok (.iaload, 1) := by decide +kernel
theorem dX5_testHoldsFor_6 : decode cX5_testHoldsFor 6 = .ok (.iconst (-1), 1) := by decide +kernel
theorem dX5_testHoldsFor_7 : decode cX5_testHoldsFor 7 = .ok (.if_icmp .ne 5, 3) := by decide +kernel
theorem dX5_testHoldsFor_10 : decode cX5_testHoldsFor 10 = .ok (.iconst 0, 1) := by decide +kernel
theorem dX5_testHoldsFor_11 : decode cX5_testHoldsFor 11 = .ok (.ireturn, 1) := by decide +kernel
theorem dX5_testHoldsFor_12 : decode cX5_testHoldsFor 12 = .ok (.iconst 0, 1) := by decide +kernel
theorem dX5_testHoldsFor_13 : decode cX5_testHoldsFor 13 = .ok (.aload_n 0, 1) := by decide +kernel
theorem dX5_testHoldsFor_14 : decode cX5_testHoldsFor 14 = .ok (.getfield 18, 3) := by decide +kernel
theorem dX5_testHoldsFor_17 : decode cX5_testHoldsFor 17 = .ok (.iconst 1, 1) := by decide +kernel
theorem dX5_testHoldsFor_18 : decode cX5_testHoldsFor 18 = .ok (.iaload, 1) := by decide +kernel
theorem dX5_testHoldsFor_19 : decode cX5_testHoldsFor 19 = .ok (.aload_n 0, 1) := by decide +kernel
theorem dX5_testHoldsFor_20 : decode cX5_testHoldsFor 20 = .ok (.getfield 41, 3) := by decide +kernel
theorem dX5_testHoldsFor_23 : decode cX5_testHoldsFor 23 = .ok (.aload_n 0, 1) := by decide +kernel
theorem dX5_testHoldsFor_24 : decode cX5_testHoldsFor 24 = .ok (.getfield 28, 3) := by decide +kernel
theorem dX5_testHoldsFor_27 : decode cX5_testHoldsFor 27 = .ok (.iload_n 1, 1) := by decide +kernel
theorem dX5_testHoldsFor_28 : decode cX5_testHoldsFor 28 = .ok (.iaload, 1) := by decide +kernel
theorem dX5_testHoldsFor_29 : decode cX5_testHoldsFor 29 = .ok (.isub, 1) := by decide +kernel
theorem dX5_testHoldsFor_30 : decode cX5_testHoldsFor 30 = .ok (.isub, 1) := by decide +kernel
theorem dX5_testHoldsFor_31 : decode cX5_testHoldsFor 31 = .ok (.invokestatic 139, 3) := by decide +kernel
theorem dX5_testHoldsFor_34 : decode cX5_testHoldsFor 34 = .ok (.ireturn, 1) := by decide +kernel
theorem dX5_isForFirst_0 : decode cX5_isForFirst 0 = .ok (.aload_n 0, 1) := by decide +kernel
theorem dX5_isForFirst_1 : decode cX5_isForFirst 1 = .ok (.iload_n 1, 1) := by decide +kernel
theorem dX5_isForFirst_2 : decode cX5_isForFirst 2 = .ok (.iload_n 2, 1) := by decide +kernel
theorem dX5_isForFirst_3 : decode cX5_isForFirst 3 = .ok (.invokevirtual 78, 3) := by decide +kernel
theorem dX5_isForFirst_6 : decode cX5_isForFirst 6 = .ok (.invokestatic 94, 3) := by decide +kernel
theorem dX5_isForFirst_9 : decode cX5_isForFirst 9 = .ok (.aload_n 0, 1) := by decide +kernel
theorem dX5_isForFirst_10 : decode cX5_isForFirst 10 = .ok (.getfield 22, 3) := by decide +kernel
theorem dX5_isForFirst_13 : decode cX5_isForFirst 13 = .ok (.iconst 0, 1) := by decide +kernel
theorem dX5_isForFirst_14 : decode cX5_isForFirst 14 = .ok (.iaload, 1) := by decide +kernel
theorem dX5_isForFirst_15 : decode cX5_isForFirst 15 = .ok (.if_icmp .ne 7, 3) := by decide +kernel
theorem dX5_isForFirst_18 : decode cX5_isForFirst 18 = .ok (.iconst 1, 1) := by decide +kernel
theorem dX5_isForFirst_19 : decode cX5_isForFirst 19 = .ok (.goto 4, 3) := by decide +kernel
theorem dX5_isForFirst_22 : decode cX5_isForFirst 22 = .ok (.iconst 0, 1) := by decide +kernel
theorem dX5_isForFirst_23 : decode cX5_isForFirst 23 = .ok (.ireturn, 1) := by decide +kernel
theorem dX5_forFirstOn_0 : decode cX5_forFirstOn 0 = .ok (.iconst 0, 1) := by decide +kernel
theorem dX5_forFirstOn_1 : decode cX5_forFirstOn 1 = .ok (.istore_n 2, 1) := by decide +kernel
theorem dX5_forFirstOn_2 : decode cX5_forFirstOn 2 = .ok (.iconst 0, 1) := by decide +kernel
theorem dX5_forFirstOn_3 : decode cX5_forFirstOn 3 = .ok (.istore_n 3, 1) := by decide +kernel
theorem dX5_forFirstOn_4 : decode cX5_forFirstOn 4 = .ok (.iload_n 3, 1) := by decide +kernel
theorem dX5_forFirstOn_5 : decode cX5_forFirstOn 5 = .ok (.aload_n 0, 1) := by decide +kernel
theorem dX5_forFirstOn_6 : decode cX5_forFirstOn 6 = .ok (.getfield 25, 3) := by decide +kernel
theorem dX5_forFirstOn_9 : decode cX5_forFirstOn 9 = .ok (.iload_n 1, 1) := by decide +kernel
theorem dX5_forFirstOn_10 : decode cX5_forFirstOn 10 = .ok (.iaload, 1) := by decide +kernel
theorem dX5_forFirstOn_11 : decode cX5_forFirstOn 11 = .ok (.if_icmp .ge 21, 3) := by decide +kernel
theorem dX5_forFirstOn_14 : decode cX5_forFirstOn 14 = .ok (.aload_n 0, 1) := by decide +kernel
theorem dX5_forFirstOn_15 : decode cX5_forFirstOn 15 = .ok (.iload_n 1, 1) := by decide +kernel
theorem dX5_forFirstOn_16 : decode cX5_forFirstOn 16 = .ok (.iload_n 3, 1) := by decide +kernel
theorem dX5_forFirstOn_17 : decode cX5_forFirstOn 17 = .ok (.invokevirtual 142, 3) := by decide +kernel
theorem dX5_forFirstOn_20 : decode cX5_forFirstOn 20 = .ok (.ifCond .eq 6, 3) := by decide +kernel
theorem dX5_forFirstOn_23 : decode cX5_forFirstOn 23 = .ok (.iinc 2 1, 3) := by decide +kernel
theorem dX5_forFirstOn_26 : decode cX5_forFirstOn 26 = .ok (.iinc 3 1, 3) := by decide +kernel
theorem dX5_forFirstOn_29 : decode cX5_forFirstOn 29 = .ok (.goto (-25), 3) := by decide +kernel
theorem dX5_forFirstOn_32 : decode cX5_forFirstOn 32 = .ok (.iload_n 2, 1) := by decide +kernel
theorem dX5_forFirstOn_33 : decode cX5_forFirstOn 33 = .ok (.ireturn, 1) := by decide +kernel
theorem dX5_forFirstInYard_0 : decode cX5_forFirstInYard 0 = .ok (.iconst 0, 1) := by decide +kernel
theorem dX5_forFirstInYard_1 : decode cX5_forFirstInYard 1 = .ok (.istore_n 1, 1) := by decide +kernel
theorem dX5_forFirstInYard_2 : decode cX5_forFirstInYard 2 = .ok (.iconst 0, 1) := by decide +kernel
theorem dX5_forFirstInYard_3 : decode cX5_forFirstInYard 3 = .ok (.istore_n 2, 1) := by decide +kernel
theorem dX5_forFirstInYard_4 : decode cX5_forFirstInYard 4 = .ok (.iload_n 2, 1) := by decide +kernel
theorem dX5_forFirstInYard_5 : decode cX5_forFirstInYard 5 = .ok (.aload_n 0, 1) := by decide +kernel
theorem dX5_forFirstInYard_6 : decode cX5_forFirstInYard 6 = .ok (.getfield 9, 3) := by decide +kernel
theorem dX5_forFirstInYard_9 : decode cX5_forFirstInYard 9 = .ok (.if_icmp .ge 17, 3) := by decide +kernel
theorem dX5_forFirstInYard_12 : decode cX5_forFirstInYard 12 = .ok (.iload_n 1, 1) := by decide +kernel
theorem dX5_forFirstInYard_13 : decode cX5_forFirstInYard 13 = .ok (.aload_n 0, 1) := by decide +kernel
theorem dX5_forFirstInYard_14 : decode cX5_forFirstInYard 14 = .ok (.iload_n 2, 1) := by decide +kernel
theorem dX5_forFirstInYard_15 : decode cX5_forFirstInYard 15 = .ok (.invokevirtual 146, 3) := by decide +kernel
theorem dX5_forFirstInYard_18 : decode cX5_forFirstInYard 18 = .ok (.iadd, 1) := by decide +kernel
theorem dX5_forFirstInYard_19 : decode cX5_forFirstInYard 19 = .ok (.istore_n 1, 1) := by decide +kernel
theorem dX5_forFirstInYard_20 : decode cX5_forFirstInYard 20 = .ok (.iinc 2 1, 3) := by decide +kernel
theorem dX5_forFirstInYard_23 : decode cX5_forFirstInYard 23 = .ok (.goto (-19), 3) := by decide +kernel
theorem dX5_forFirstInYard_26 : decode cX5_forFirstInYard 26 = .ok (.iload_n 1, 1) := by decide +kernel
theorem dX5_forFirstInYard_27 : decode cX5_forFirstInYard 27 = .ok (.ireturn, 1) := by decide +kernel
theorem dX5_refusal_0 : decode cX5_refusal 0 = .ok (.aload_n 0, 1) := by decide +kernel
theorem dX5_refusal_1 : decode cX5_refusal 1 = .ok (.getfield 59, 3) := by decide +kernel
theorem dX5_refusal_4 : decode cX5_refusal 4 = .ok (.ifCond .ne 5, 3) := by decide +kernel
theorem dX5_refusal_7 : decode cX5_refusal 7 = .ok (.iconst 1, 1) := by decide +kernel
theorem dX5_refusal_8 : decode cX5_refusal 8 = .ok (.ireturn, 1) := by decide +kernel
theorem dX5_refusal_9 : decode cX5_refusal 9 = .ok (.aload_n 0, 1) := by decide +kernel
theorem dX5_refusal_10 : decode cX5_refusal 10 = .ok (.getfield 25, 3) := by decide +kernel
theorem dX5_refusal_13 : decode cX5_refusal 13 = .ok (.iload_n 1, 1) := by decide +kernel
theorem dX5_refusal_14 : decode cX5_refusal 14 = .ok (.iaload, 1) := by decide +kernel
theorem dX5_refusal_15 : decode cX5_refusal 15 = .ok (.ifCond .ne 5, 3) := by decide +kernel
theorem dX5_refusal_18 : decode cX5_refusal 18 = .ok (.iconst 2, 1) := by decide +kernel
theorem dX5_refusal_19 : decode cX5_refusal 19 = .ok (.ireturn, 1) := by decide +kernel
theorem dX5_refusal_20 : decode cX5_refusal 20 = .ok (.aload_n 0, 1) := by decide +kernel
theorem dX5_refusal_21 : decode cX5_refusal 21 = .ok (.iload_n 1, 1) := by decide +kernel
theorem dX5_refusal_22 : decode cX5_refusal 22 = .ok (.invokevirtual 146, 3) := by decide +kernel
theorem dX5_refusal_25 : decode cX5_refusal 25 = .ok (.aload_n 0, 1) := by decide +kernel
theorem dX5_refusal_26 : decode cX5_refusal 26 = .ok (.getfield 25, 3) := by decide +kernel
theorem dX5_refusal_29 : decode cX5_refusal 29 = .ok (.iload_n 1, 1) := by decide +kernel
theorem dX5_refusal_30 : decode cX5_refusal 30 = .ok (.iaload, 1) := by decide +kernel
theorem dX5_refusal_31 : decode cX5_refusal 31 = .ok (.if_icmp .ge 5, 3) := by decide +kernel
theorem dX5_refusal_34 : decode cX5_refusal 34 = .ok (.iconst 3, 1) := by decide +kernel
theorem dX5_refusal_35 : decode cX5_refusal 35 = .ok (.ireturn, 1) := by decide +kernel
theorem dX5_refusal_36 : decode cX5_refusal 36 = .ok (.aload_n 0, 1) := by decide +kernel
theorem dX5_refusal_37 : decode cX5_refusal 37 = .ok (.invokevirtual 149, 3) := by decide +kernel
theorem dX5_refusal_40 : decode cX5_refusal 40 = .ok (.aload_n 0, 1) := by decide +kernel
theorem dX5_refusal_41 : decode cX5_refusal 41 = .ok (.getfield 25, 3) := by decide +kernel
theorem dX5_refusal_44 : decode cX5_refusal 44 = .ok (.iload_n 1, 1) := by decide +kernel
theorem dX5_refusal_45 : decode cX5_refusal 45 = .ok (.iaload, 1) := by decide +kernel
theorem dX5_refusal_46 : decode cX5_refusal 46 = .ok (.if_icmp .le 5, 3) := by decide +kernel
theorem dX5_refusal_49 : decode cX5_refusal 49 = .ok (.iconst 4, 1) := by decide +kernel
theorem dX5_refusal_50 : decode cX5_refusal 50 = .ok (.ireturn, 1) := by decide +kernel
theorem dX5_refusal_51 : decode cX5_refusal 51 = .ok (.aload_n 0, 1) := by decide +kernel
theorem dX5_refusal_52 : decode cX5_refusal 52 = .ok (.iload_n 1, 1) := by decide +kernel
theorem dX5_refusal_53 : decode cX5_refusal 53 = .ok (.invokevirtual 118, 3) := by decide +kernel
theorem dX5_refusal_56 : decode cX5_refusal 56 = .ok (.ifCond .ne 5, 3) := by decide +kernel
theorem dX5_refusal_59 : decode cX5_refusal 59 = .ok (.iconst 5, 1) := by decide +kernel
theorem dX5_refusal_60 : decode cX5_refusal 60 = .ok (.ireturn, 1) := by decide +kernel
theorem dX5_refusal_61 : decode cX5_refusal 61 = .ok (.aload_n 0, 1) := by decide +kernel
theorem dX5_refusal_62 : decode cX5_refusal 62 = .ok (.iload_n 1, 1) := by decide +kernel
theorem dX5_refusal_63 : decode cX5_refusal 63 = .ok (.invokevirtual 153, 3) := by decide +kernel
theorem dX5_refusal_66 : decode cX5_refusal 66 = .ok (.ifCond .ne 8, 3) := by decide +kernel
theorem dX5_refusal_69 : decode cX5_refusal 69 = .ok (.bipush 6, 2) := by decide +kernel
theorem dX5_refusal_71 : decode cX5_refusal 71 = .ok (.goto 4, 3) := by decide +kernel
theorem dX5_refusal_74 : decode cX5_refusal 74 = .ok (.iconst 0, 1) := by decide +kernel
theorem dX5_refusal_75 : decode cX5_refusal 75 = .ok (.ireturn, 1) := by decide +kernel
theorem dX5_sendOff_0 : decode cX5_sendOff 0 = .ok (.aload_n 0, 1) := by decide +kernel
theorem dX5_sendOff_1 : decode cX5_sendOff 1 = .ok (.getfield 25, 3) := by decide +kernel
theorem dX5_sendOff_4 : decode cX5_sendOff 4 = .ok (.iload_n 1, 1) := by decide +kernel
theorem dX5_sendOff_5 : decode cX5_sendOff 5 = .ok (.iaload, 1) := by decide +kernel
theorem dX5_sendOff_6 : decode cX5_sendOff 6 = .ok (.istore_n 2, 1) := by decide +kernel
theorem dX5_sendOff_7 : decode cX5_sendOff 7 = .ok (.aload_n 0, 1) := by decide +kernel
theorem dX5_sendOff_8 : decode cX5_sendOff 8 = .ok (.getfield 25, 3) := by decide +kernel
theorem dX5_sendOff_11 : decode cX5_sendOff 11 = .ok (.iload_n 1, 1) := by decide +kernel
theorem dX5_sendOff_12 : decode cX5_sendOff 12 = .ok (.iconst 0, 1) := by decide +kernel
theorem dX5_sendOff_13 : decode cX5_sendOff 13 = .ok (.iastore, 1) := by decide +kernel
theorem dX5_sendOff_14 : decode cX5_sendOff 14 = .ok (.aload_n 0, 1) := by decide +kernel
theorem dX5_sendOff_15 : decode cX5_sendOff 15 = .ok (.getfield 28, 3) := by decide +kernel
theorem dX5_sendOff_18 : decode cX5_sendOff 18 = .ok (.iload_n 1, 1) := by decide +kernel
theorem dX5_sendOff_19 : decode cX5_sendOff 19 = .ok (.iconst (-1), 1) := by decide +kernel
theorem dX5_sendOff_20 : decode cX5_sendOff 20 = .ok (.iastore, 1) := by decide +kernel
theorem dX5_sendOff_21 : decode cX5_sendOff 21 = .ok (.aload_n 0, 1) := by decide +kernel
theorem dX5_sendOff_22 : decode cX5_sendOff 22 = .ok (.dup, 1) := by decide +kernel
theorem dX5_sendOff_23 : decode cX5_sendOff 23 = .ok (.getfield 50, 3) := by decide +kernel
theorem dX5_sendOff_26 : decode cX5_sendOff 26 = .ok (.iconst 1, 1) := by decide +kernel
theorem dX5_sendOff_27 : decode cX5_sendOff 27 = .ok (.iadd, 1) := by decide +kernel
theorem dX5_sendOff_28 : decode cX5_sendOff 28 = .ok (.putfield 50, 3) := by decide +kernel
theorem dX5_sendOff_31 : decode cX5_sendOff 31 = .ok (.aload_n 0, 1) := by decide +kernel
theorem dX5_sendOff_32 : decode cX5_sendOff 32 = .ok (.dup, 1) := by decide +kernel
theorem dX5_sendOff_33 : decode cX5_sendOff 33 = .ok (.getfield 53, 3) := by decide +kernel
theorem dX5_sendOff_36 : decode cX5_sendOff 36 = .ok (.iload_n 2, 1) := by decide +kernel
theorem dX5_sendOff_37 : decode cX5_sendOff 37 = .ok (.iadd, 1) := by decide +kernel
theorem dX5_sendOff_38 : decode cX5_sendOff 38 = .ok (.putfield 53, 3) := by decide +kernel
theorem dX5_sendOff_41 : decode cX5_sendOff 41 = .ok (.aload_n 0, 1) := by decide +kernel
theorem dX5_sendOff_42 : decode cX5_sendOff 42 = .ok (.dup, 1) := by decide +kernel
theorem dX5_sendOff_43 : decode cX5_sendOff 43 = .ok (.getfield 59, 3) := by decide +kernel
theorem dX5_sendOff_46 : decode cX5_sendOff 46 = .ok (.iconst 1, 1) := by decide +kernel
theorem dX5_sendOff_47 : decode cX5_sendOff 47 = .ok (.isub, 1) := by decide +kernel
theorem dX5_sendOff_48 : decode cX5_sendOff 48 = .ok (.putfield 59, 3) := by decide +kernel
theorem dX5_sendOff_51 : decode cX5_sendOff 51 = .ok (.aload_n 0, 1) := by decide +kernel
theorem dX5_sendOff_52 : decode cX5_sendOff 52 = .ok (.getfield 22, 3) := by decide +kernel
theorem dX5_sendOff_55 : decode cX5_sendOff 55 = .ok (.iconst 1, 1) := by decide +kernel
theorem dX5_sendOff_56 : decode cX5_sendOff 56 = .ok (.aload_n 0, 1) := by decide +kernel
theorem dX5_sendOff_57 : decode cX5_sendOff 57 = .ok (.getfield 22, 3) := by decide +kernel
theorem dX5_sendOff_60 : decode cX5_sendOff 60 = .ok (.iconst 0, 1) := by decide +kernel
theorem dX5_sendOff_61 : decode cX5_sendOff 61 = .ok (.aload_n 0, 1) := by decide +kernel
theorem dX5_sendOff_62 : decode cX5_sendOff 62 = .ok (.getfield 59, 3) := by decide +kernel
theorem dX5_sendOff_65 : decode cX5_sendOff 65 = .ok (.invokestatic 62, 3) := by decide +kernel
theorem dX5_sendOff_68 : decode cX5_sendOff 68 = .ok (.iload_n 2, 1) := by decide +kernel
theorem dX5_sendOff_69 : decode cX5_sendOff 69 = .ok (.ireturn, 1) := by decide +kernel
theorem dX5_madeUpTrack_0 : decode cX5_madeUpTrack 0 = .ok (.aload_n 0, 1) := by decide +kernel
theorem dX5_madeUpTrack_1 : decode cX5_madeUpTrack 1 = .ok (.getfield 59, 3) := by decide +kernel
theorem dX5_madeUpTrack_4 : decode cX5_madeUpTrack 4 = .ok (.ifCond .ne 6, 3) := by decide +kernel
theorem dX5_madeUpTrack_7 : decode cX5_madeUpTrack 7 = .ok (.bipush (-9), 2) := by decide +kernel
theorem dX5_madeUpTrack_9 : decode cX5_madeUpTrack 9 = .ok (.ireturn, 1) := by decide +kernel
theorem dX5_madeUpTrack_10 : decode cX5_madeUpTrack 10 = .ok (.iconst 0, 1) := by decide +kernel
theorem dX5_madeUpTrack_11 : decode cX5_madeUpTrack 11 = .ok (.istore_n 1, 1) := by decide +kernel
theorem dX5_madeUpTrack_12 : decode cX5_madeUpTrack 12 = .ok (.iload_n 1, 1) := by decide +kernel
theorem dX5_madeUpTrack_13 : decode cX5_madeUpTrack 13 = .ok (.aload_n 0, 1) := by decide +kernel
theorem dX5_madeUpTrack_14 : decode cX5_madeUpTrack 14 = .ok (.getfield 9, 3) := by decide +kernel
theorem dX5_madeUpTrack_17 : decode cX5_madeUpTrack 17 = .ok (.if_icmp .ge 52, 3) := by decide +kernel
theorem dX5_madeUpTrack_20 : decode cX5_madeUpTrack 20 = .ok (.aload_n 0, 1) := by decide +kernel
theorem dX5_madeUpTrack_21 : decode cX5_madeUpTrack 21 = .ok (.getfield 25, 3) := by decide +kernel
theorem dX5_madeUpTrack_24 : decode cX5_madeUpTrack 24 = .ok (.iload_n 1, 1) := by decide +kernel
theorem dX5_madeUpTrack_25 : decode cX5_madeUpTrack 25 = .ok (.iaload, 1) := by decide +kernel
theorem dX5_madeUpTrack_26 : decode cX5_madeUpTrack 26 = .ok (.ifCond .le 37, 3) := by decide +kernel
theorem dX5_madeUpTrack_29 : decode cX5_madeUpTrack 29 = .ok (.aload_n 0, 1) := by decide +kernel
theorem dX5_madeUpTrack_30 : decode cX5_madeUpTrack 30 = .ok (.iload_n 1, 1) := by decide +kernel
theorem dX5_madeUpTrack_31 : decode cX5_madeUpTrack 31 = .ok (.invokevirtual 146, 3) := by decide +kernel
theorem dX5_madeUpTrack_34 : decode cX5_madeUpTrack 34 = .ok (.aload_n 0, 1) := by decide +kernel
theorem dX5_madeUpTrack_35 : decode cX5_madeUpTrack 35 = .ok (.getfield 25, 3) := by decide +kernel
theorem dX5_madeUpTrack_38 : decode cX5_madeUpTrack 38 = .ok (.iload_n 1, 1) := by decide +kernel
theorem dX5_madeUpTrack_39 : decode cX5_madeUpTrack 39 = .ok (.iaload, 1) := by decide +kernel
theorem dX5_madeUpTrack_40 : decode cX5_madeUpTrack 40 = .ok (.if_icmp .ne 23, 3) := by decide +kernel
theorem dX5_madeUpTrack_43 : decode cX5_madeUpTrack 43 = .ok (.aload_n 0, 1) := by decide +kernel
theorem dX5_madeUpTrack_44 : decode cX5_madeUpTrack 44 = .ok (.invokevirtual 149, 3) := by decide +kernel
theorem dX5_madeUpTrack_47 : decode cX5_madeUpTrack 47 = .ok (.aload_n 0, 1) := by decide +kernel
theorem dX5_madeUpTrack_48 : decode cX5_madeUpTrack 48 = .ok (.getfield 25, 3) := by decide +kernel
theorem dX5_madeUpTrack_51 : decode cX5_madeUpTrack 51 = .ok (.iload_n 1, 1) := by decide +kernel
theorem dX5_madeUpTrack_52 : decode cX5_madeUpTrack 52 = .ok (.iaload, 1) := by decide +kernel
theorem dX5_madeUpTrack_53 : decode cX5_madeUpTrack 53 = .ok (.if_icmp .ne 7, 3) := by decide +kernel
theorem dX5_madeUpTrack_56 : decode cX5_madeUpTrack 56 = .ok (.iload_n 1, 1) := by decide +kernel
theorem dX5_madeUpTrack_57 : decode cX5_madeUpTrack 57 = .ok (.goto 5, 3) := by decide +kernel
theorem dX5_madeUpTrack_60 : decode cX5_madeUpTrack 60 = .ok (.bipush (-9), 2) := by decide +kernel
theorem dX5_madeUpTrack_62 : decode cX5_madeUpTrack 62 = .ok (.ireturn, 1) := by decide +kernel
theorem dX5_madeUpTrack_63 : decode cX5_madeUpTrack 63 = .ok (.iinc 1 1, 3) := by decide +kernel
theorem dX5_madeUpTrack_66 : decode cX5_madeUpTrack 66 = .ok (.goto (-54), 3) := by decide +kernel
theorem dX5_madeUpTrack_69 : decode cX5_madeUpTrack 69 = .ok (.bipush (-9), 2) := by decide +kernel
theorem dX5_madeUpTrack_71 : decode cX5_madeUpTrack 71 = .ok (.ireturn, 1) := by decide +kernel
theorem dX6_init_0 : decode cX6_init 0 = .ok (.aload_n 0, 1) := by decide +kernel
theorem dX6_init_1 : decode cX6_init 1 = .ok (.invokespecial 1, 3) := by decide +kernel
theorem dX6_init_4 : decode cX6_init 4 = .ok (.aload_n 0, 1) := by decide +kernel
theorem dX6_init_5 : decode cX6_init 5 = .ok (.new 7, 3) := by decide +kernel
theorem dX6_init_8 : decode cX6_init 8 = .ok (.dup, 1) := by decide +kernel
theorem dX6_init_9 : decode cX6_init 9 = .ok (.invokespecial 9, 3) := by decide +kernel
theorem dX6_init_12 : decode cX6_init 12 = .ok (.putfield 10, 3) := by decide +kernel
theorem dX6_init_15 : decode cX6_init 15 = .ok (.aload_n 0, 1) := by decide +kernel
theorem dX6_init_16 : decode cX6_init 16 = .ok (.new 16, 3) := by decide +kernel
theorem dX6_init_19 : decode cX6_init 19 = .ok (.dup, 1) := by decide +kernel
theorem dX6_init_20 : decode cX6_init 20 = .ok (.invokespecial 18, 3) := by decide +kernel
theorem dX6_init_23 : decode cX6_init 23 = .ok (.putfield 19, 3) := by decide +kernel
theorem dX6_init_26 : decode cX6_init 26 = .ok (.aload_n 0, 1) := by decide +kernel
theorem dX6_init_27 : decode cX6_init 27 = .ok (.iconst 2, 1) := by decide +kernel
theorem dX6_init_28 : decode cX6_init 28 = .ok (.anewarray 7, 3) := by decide +kernel
theorem dX6_init_31 : decode cX6_init 31 = .ok (.putfield 23, 3) := by decide +kernel
theorem dX6_init_34 : decode cX6_init 34 = .ok (.aload_n 0, 1) := by decide +kernel
theorem dX6_init_35 : decode cX6_init 35 = .ok (.new 27, 3) := by decide +kernel
theorem dX6_init_38 : decode cX6_init 38 = .ok (.dup, 1) := by decide +kernel
theorem dX6_init_39 : decode cX6_init 39 = .ok (.invokespecial 29, 3) := by decide +kernel
theorem dX6_init_42 : decode cX6_init 42 = .ok (.putfield 30, 3) := by decide +kernel
theorem dX6_init_45 : decode cX6_init 45 = .ok (.aload_n 0, 1) := by decide +kernel
theorem dX6_init_46 : decode cX6_init 46 = .ok (.new 34, 3) := by decide +kernel
theorem dX6_init_49 : decode cX6_init 49 = .ok (.dup, 1) := by decide +kernel
theorem dX6_init_50 : decode cX6_init 50 = .ok (.invokespecial 36, 3) := by decide +kernel
theorem dX6_init_53 : decode cX6_init 53 = .ok (.putfield 37, 3) := by decide +kernel
theorem dX6_init_56 : decode cX6_init 56 = .ok (.aload_n 0, 1) := by decide +kernel
theorem dX6_init_57 : decode cX6_init 57 = .ok (.bipush (-9), 2) := by decide +kernel
theorem dX6_init_59 : decode cX6_init 59 = .ok (.putfield 41, 3) := by decide +kernel
theorem dX6_init_62 : decode cX6_init 62 = .ok (.return_, 1) := by decide +kernel
theorem dX6_begin_0 : decode cX6_begin 0 = .ok (.iload_n 1, 1) := by decide +kernel
theorem dX6_begin_1 : decode cX6_begin 1 = .ok (.iconst 2, 1) := by decide +kernel
theorem dX6_begin_2 : decode cX6_begin 2 = .ok (.iconst 4, 1) := by decide +kernel
theorem dX6_begin_3 : decode cX6_begin 3 = .ok (.invokestatic 45, 3) := by decide +kernel
theorem dX6_begin_6 : decode cX6_begin 6 = .ok (.ifCond .eq 13, 3) := by decide +kernel
theorem dX6_begin_9 : decode cX6_begin 9 = .ok (.iload_n 2, 1) := by decide +kernel
theorem dX6_begin_10 : decode cX6_begin 10 = .ok (.iconst 1, 1) := by decide +kernel
theorem dX6_begin_11 : decode cX6_begin 11 = .ok (.bipush 8, 2) := by decide +kernel
theorem dX6_begin_13 : decode cX6_begin 13 = .ok (.invokestatic 45, 3) := by decide +kernel
theorem dX6_begin_16 : decode cX6_begin 16 = .ok (.ifCond .ne 5, 3) := by decide +kernel
theorem dX6_begin_19 : decode cX6_begin 19 = .ok (.iconst (-1), 1) := by decide +kernel
theorem dX6_begin_20 : decode cX6_begin 20 = .ok (.ireturn, 1) := by decide +kernel
theorem dX6_begin_21 : decode cX6_begin 21 = .ok (.aload_n 0, 1) := by decide +kernel
theorem dX6_begin_22 : decode cX6_begin 22 = .ok (.getfield 10, 3) := by decide +kernel
theorem dX6_begin_25 : decode cX6_begin 25 = .ok (.invokevirtual 49, 3) := by decide +kernel
theorem dX6_begin_28 : decode cX6_begin 28 = .ok (.istore_n 3, 1) := by decide +kernel
theorem dX6_begin_29 : decode cX6_begin 29 = .ok (.aload_n 0, 1) := by decide +kernel
theorem dX6_begin_30 : decode cX6_begin 30 = .ok (.getfield 19, 3) := by decide +kernel
theorem dX6_begin_33 : decode cX6_begin 33 = .ok (.aload_n 0, 1) := by decide +kernel
theorem dX6_begin_34 : decode cX6_begin 34 = .ok (.getfield 10, 3) := by decide +kernel
theorem dX6_begin_37 : decode cX6_begin 37 = .ok (.invokevirtual 53, 3) := by decide +kernel
theorem dX6_begin_40 : decode cX6_begin 40 = .ok (.aload_n 0, 1) := by decide +kernel
theorem dX6_begin_41 : decode cX6_begin 41 = .ok (.getfield 10, 3) := by decide +kernel
theorem dX6_begin_44 : decode cX6_begin 44 = .ok (.iload_n 1, 1) := by decide +kernel
theorem dX6_begin_45 : decode cX6_begin 45 = .ok (.iload_n 2, 1) := by decide +kernel
theorem dX6_begin_46 : decode cX6_begin 46 = .ok (.invokevirtual 57, 3) := by decide +kernel
theorem dX6_begin_49 : decode cX6_begin 49 = .ok (.iload_n 3, 1) := by decide +kernel
theorem dX6_begin_50 : decode cX6_begin 50 = .ok (.ireturn, 1) := by decide +kernel
theorem dX6_set_0 : decode cX6_set 0 = .ok (.iload_n 1, 1) := by decide +kernel
theorem dX6_set_1 : decode cX6_set 1 = .ok (.invokestatic 61, 3) := by decide +kernel
theorem dX6_set_4 : decode cX6_set 4 = .ok (.ifCond .eq 18, 3) := by decide +kernel
theorem dX6_set_7 : decode cX6_set 7 = .ok (.iload_n 2, 1) := by decide +kernel
theorem dX6_set_8 : decode cX6_set 8 = .ok (.iload_n 1, 1) := by decide +kernel
theorem dX6_set_9 : decode cX6_set 9 = .ok (.invokestatic 65, 3) := by decide +kernel
theorem dX6_set_12 : decode cX6_set 12 = .ok (.iload_n 1, 1) := by decide +kernel
theorem dX6_set_13 : decode cX6_set 13 = .ok (.invokestatic 69, 3) := by decide +kernel
theorem dX6_set_16 : decode cX6_set 16 = .ok (.invokestatic 45, 3) := by decide +kernel
theorem dX6_set_19 : decode cX6_set 19 = .ok (.ifCond .ne 5, 3) := by decide +kernel
theorem dX6_set_22 : decode cX6_set 22 = .ok (.iconst (-1), 1) := by decide +kernel
theorem dX6_set_23 : decode cX6_set 23 = .ok (.ireturn, 1) := by decide +kernel
theorem dX6_set_24 : decode cX6_set 24 = .ok (.aload_n 0, 1) := by decide +kernel
theorem dX6_set_25 : decode cX6_set 25 = .ok (.getfield 10, 3) := by decide +kernel
theorem dX6_set_28 : decode cX6_set 28 = .ok (.getfield 72, 3) := by decide +kernel
theorem dX6_set_31 : decode cX6_set 31 = .ok (.iload_n 1, 1) := by decide +kernel
theorem dX6_set_32 : decode cX6_set 32 = .ok (.iaload, 1) := by decide +kernel
theorem dX6_set_33 : decode cX6_set 33 = .ok (.istore_n 3, 1) := by decide +kernel
theorem dX6_set_34 : decode cX6_set 34 = .ok (.aload_n 0, 1) := by decide +kernel
theorem dX6_set_35 : decode cX6_set 35 = .ok (.getfield 19, 3) := by decide +kernel
theorem dX6_set_38 : decode cX6_set 38 = .ok (.aload_n 0, 1) := by decide +kernel
theorem dX6_set_39 : decode cX6_set 39 = .ok (.getfield 10, 3) := by decide +kernel
theorem dX6_set_42 : decode cX6_set 42 = .ok (.invokevirtual 53, 3) := by decide +kernel
theorem dX6_set_45 : decode cX6_set 45 = .ok (.aload_n 0, 1) := by decide +kernel
theorem dX6_set_46 : decode cX6_set 46 = .ok (.getfield 10, 3) := by decide +kernel
theorem dX6_set_49 : decode cX6_set 49 = .ok (.getfield 72, 3) := by decide +kernel
theorem dX6_set_52 : decode cX6_set 52 = .ok (.iload_n 1, 1) := by decide +kernel
theorem dX6_set_53 : decode cX6_set 53 = .ok (.iload_n 2, 1) := by decide +kernel
theorem dX6_set_54 : decode cX6_set 54 = .ok (.iastore, 1) := by decide +kernel
theorem dX6_set_55 : decode cX6_set 55 = .ok (.iload_n 3, 1) := by decide +kernel
theorem dX6_set_56 : decode cX6_set 56 = .ok (.ireturn, 1) := by decide +kernel
theorem dX6_arrive_0 : decode cX6_arrive 0 = .ok (.aload_n 0, 1) := by decide +kernel
theorem dX6_arrive_1 : decode cX6_arrive 1 = .ok (.getfield 10, 3) := by decide +kernel
theorem dX6_arrive_4 : decode cX6_arrive 4 = .ok (.iload_n 1, 1) := by decide +kernel
theorem dX6_arrive_5 : decode cX6_arrive 5 = .ok (.invokevirtual 76, 3) := by decide +kernel
theorem dX6_arrive_8 : decode cX6_arrive 8 = .ok (.ifCond .ne 5, 3) := by decide +kernel
theorem dX6_arrive_11 : decode cX6_arrive 11 = .ok (.iconst (-1), 1) := by decide +kernel
theorem dX6_arrive_12 : decode cX6_arrive 12 = .ok (.ireturn, 1) := by decide +kernel
theorem dX6_arrive_13 : decode cX6_arrive 13 = .ok (.aload_n 0, 1) := by decide +kernel
theorem dX6_arrive_14 : decode cX6_arrive 14 = .ok (.getfield 30, 3) := by decide +kernel
theorem dX6_arrive_17 : decode cX6_arrive 17 = .ok (.invokevirtual 79, 3) := by decide +kernel
theorem dX6_arrive_20 : decode cX6_arrive 20 = .ok (.ifCond .eq 18, 3) := by decide +kernel
theorem dX6_arrive_23 : decode cX6_arrive 23 = .ok (.aload_n 0, 1) := by decide +kernel
theorem dX6_arrive_24 : decode cX6_arrive 24 = .ok (.getfield 10, 3) := by decide +kernel
theorem dX6_arrive_27 : decode cX6_arrive 27 = .ok (.iload_n 1, 1) := by decide +kernel
theorem dX6_arrive_28 : decode cX6_arrive 28 = .ok (.aload_n 0, 1) := by decide +kernel
theorem dX6_arrive_29 : decode cX6_arrive 29 = .ok (.getfield 30, 3) := by decide +kernel
theorem dX6_arrive_32 : decode cX6_arrive 32 = .ok (.invokevirtual 83, 3) := by decide +kernel
theorem dX6_arrive_35 : decode cX6_arrive 35 = .ok (.ifCond .ne 6, 3) := by decide +kernel
theorem dX6_arrive_38 : decode cX6_arrive 38 = .ok (.bipush (-2), 2) := by decide +kernel
theorem dX6_arrive_40 : decode cX6_arrive 40 = .ok (.ireturn, 1) := by decide +kernel
theorem dX6_arrive_41 : decode cX6_arrive 41 = .ok (.aload_n 0, 1) := by decide +kernel
theorem dX6_arrive_42 : decode cX6_arrive 42 = .ok (.getfield 10, 3) := by decide +kernel
theorem dX6_arrive_45 : decode cX6_arrive 45 = .ok (.getfield 87, 3) := by decide +kernel
theorem dX6_arrive_48 : decode cX6_arrive 48 = .ok (.iload_n 1, 1) := by decide +kernel
theorem dX6_arrive_49 : decode cX6_arrive 49 = .ok (.iaload, 1) := by decide +kernel
theorem dX6_arrive_50 : decode cX6_arrive 50 = .ok (.aload_n 0, 1) := by decide +kernel
theorem dX6_arrive_51 : decode cX6_arrive 51 = .ok (.getfield 30, 3) := by decide +kernel
theorem dX6_arrive_54 : decode cX6_arrive 54 = .ok (.getfield 90, 3) := by decide +kernel
theorem dX6_arrive_57 : decode cX6_arrive 57 = .ok (.iadd, 1) := by decide +kernel
theorem dX6_arrive_58 : decode cX6_arrive 58 = .ok (.aload_n 0, 1) := by decide +kernel
theorem dX6_arrive_59 : decode cX6_arrive 59 = .ok (.getfield 10, 3) := by decide +kernel
theorem dX6_arrive_62 : decode cX6_arrive 62 = .ok (.getfield 93, 3) := by decide +kernel
theorem dX6_arrive_65 : decode cX6_arrive 65 = .ok (.if_icmp .le 6, 3) := by decide +kernel
theorem dX6_arrive_68 : decode cX6_arrive 68 = .ok (.bipush (-3), 2) := by decide +kernel
theorem dX6_arrive_70 : decode cX6_arrive 70 = .ok (.ireturn, 1) := by decide +kernel
theorem dX6_arrive_71 : decode cX6_arrive 71 = .ok (.aload_n 0, 1) := by decide +kernel
theorem dX6_arrive_72 : decode cX6_arrive 72 = .ok (.getfield 19, 3) := by decide +kernel
theorem dX6_arrive_75 : decode cX6_arrive 75 = .ok (.aload_n 0, 1) := by decide +kernel
theorem dX6_arrive_76 : decode cX6_arrive 76 = .ok (.getfield 10, 3) := by decide +kernel
theorem dX6_arrive_79 : decode cX6_arrive 79 = .ok (.invokevirtual 53, 3) := by decide +kernel
theorem dX6_arrive_82 : decode cX6_arrive 82 = .ok (.aload_n 0, 1) := by decide +kernel
theorem dX6_arrive_83 : decode cX6_arrive 83 = .ok (.getfield 10, 3) := by decide +kernel
theorem dX6_arrive_86 : decode cX6_arrive 86 = .ok (.iload_n 1, 1) := by decide +kernel
theorem dX6_arrive_87 : decode cX6_arrive 87 = .ok (.aload_n 0, 1) := by decide +kernel
theorem dX6_arrive_88 : decode cX6_arrive 88 = .ok (.getfield 30, 3) := by decide +kernel
theorem dX6_arrive_91 : decode cX6_arrive 91 = .ok (.invokevirtual 96, 3) := by decide +kernel
theorem dX6_arrive_94 : decode cX6_arrive 94 = .ok (.aload_n 0, 1) := by decide +kernel
theorem dX6_arrive_95 : decode cX6_arrive 95 = .ok (.getfield 10, 3) := by decide +kernel
theorem dX6_arrive_98 : decode cX6_arrive 98 = .ok (.getfield 87, 3) := by decide +kernel
theorem dX6_arrive_101 : decode cX6_arrive 101 = .ok (.iload_n 1, 1) := by decide +kernel
theorem dX6_arrive_102 : decode cX6_arrive 102 = .ok (.iaload, 1) := by decide +kernel
theorem dX6_arrive_103 : decode cX6_arrive 103 = .ok (.ireturn, 1) := by decide +kernel
theorem dX6_list_0 : decode cX6_list 0 = .ok (.aload_n 0, 1) := by decide +kernel
theorem dX6_list_1 : decode cX6_list 1 = .ok (.getfield 30, 3) := by decide +kernel
theorem dX6_list_4 : decode cX6_list 4 = .ok (.invokevirtual 100, 3) := by decide +kernel
theorem dX6_list_7 : decode cX6_list 7 = .ok (.ifCond .ne 6, 3) := by decide +kernel
theorem dX6_list_10 : decode cX6_list 10 = .ok (.bipush (-2), 2) := by decide +kernel
theorem dX6_list_12 : decode cX6_list 12 = .ok (.ireturn, 1) := by decide +kernel
theorem dX6_list_13 : decode cX6_list 13 = .ok (.aload_n 0, 1) := by decide +kernel
theorem dX6_list_14 : decode cX6_list 14 = .ok (.getfield 19, 3) := by decide +kernel
theorem dX6_list_17 : decode cX6_list 17 = .ok (.aload_n 0, 1) := by decide +kernel
theorem dX6_list_18 : decode cX6_list 18 = .ok (.getfield 10, 3) := by decide +kernel
theorem dX6_list_21 : decode cX6_list 21 = .ok (.invokevirtual 53, 3) := by decide +kernel
theorem dX6_list_24 : decode cX6_list 24 = .ok (.aload_n 0, 1) := by decide +kernel
theorem dX6_list_25 : decode cX6_list 25 = .ok (.getfield 10, 3) := by decide +kernel
theorem dX6_list_28 : decode cX6_list 28 = .ok (.aload_n 0, 1) := by decide +kernel
theorem dX6_list_29 : decode cX6_list 29 = .ok (.getfield 30, 3) := by decide +kernel
theorem dX6_list_32 : decode cX6_list 32 = .ok (.invokevirtual 103, 3) := by decide +kernel
theorem dX6_list_35 : decode cX6_list 35 = .ok (.aload_n 0, 1) := by decide +kernel
theorem dX6_list_36 : decode cX6_list 36 = .ok (.getfield 10, 3) := by decide +kernel
theorem dX6_list_39 : decode cX6_list 39 = .ok (.getfield 107, 3) := by decide +kernel
theorem dX6_list_42 : decode cX6_list 42 = .ok (.ireturn, 1) := by decide +kernel
theorem dX6_move_0 : decode cX6_move 0 = .ok (.aload_n 0, 1) := by decide +kernel
theorem dX6_move_1 : decode cX6_move 1 = .ok (.getfield 10, 3) := by decide +kernel
theorem dX6_move_4 : decode cX6_move 4 = .ok (.iload_n 1, 1) := by decide +kernel
theorem dX6_move_5 : decode cX6_move 5 = .ok (.iload_n 2, 1) := by decide +kernel
theorem dX6_move_6 : decode cX6_move 6 = .ok (.iload_n 3, 1) := by decide +kernel
theorem dX6_move_7 : decode cX6_move 7 = .ok (.invokevirtual 110, 3) := by decide +kernel
theorem dX6_move_10 : decode cX6_move 10 = .ok (.istore 4, 2) := by decide +kernel
theorem dX6_move_12 : decode cX6_move 12 = .ok (.iload 4, 2) := by decide +kernel
theorem dX6_move_14 : decode cX6_move 14 = .ok (.ifCond .ge 6, 3) := by decide +kernel
theorem dX6_move_17 : decode cX6_move 17 = .ok (.iload 4, 2) := by decide +kernel
theorem dX6_move_19 : decode cX6_move 19 = .ok (.ireturn, 1) := by decide +kernel
theorem dX6_move_20 : decode cX6_move 20 = .ok (.aload_n 0, 1) := by decide +kernel
theorem dX6_move_21 : decode cX6_move 21 = .ok (.getfield 19, 3) := by decide +kernel
theorem dX6_move_24 : decode cX6_move 24 = .ok (.aload_n 0, 1) := by decide +kernel
theorem dX6_move_25 : decode cX6_move 25 = .ok (.getfield 10, 3) := by decide +kernel
theorem dX6_move_28 : decode cX6_move 28 = .ok (.invokevirtual 53, 3) := by decide +kernel
theorem dX6_move_31 : decode cX6_move 31 = .ok (.aload_n 0, 1) := by decide +kernel
theorem dX6_move_32 : decode cX6_move 32 = .ok (.getfield 10, 3) := by decide +kernel
theorem dX6_move_35 : decode cX6_move 35 = .ok (.iload_n 1, 1) := by decide +kernel
theorem dX6_move_36 : decode cX6_move 36 = .ok (.iload_n 2, 1) := by decide +kernel
theorem dX6_move_37 : decode cX6_move 37 = .ok (.iload_n 3, 1) := by decide +kernel
theorem dX6_move_38 : decode cX6_move 38 = .ok (.invokevirtual 114, 3) := by decide +kernel
theorem dX6_move_41 : decode cX6_move 41 = .ok (.ireturn, 1) := by decide +kernel
theorem dX6_test_0 : decode cX6_test 0 = .ok (.aload_n 0, 1) := by decide +kernel
theorem dX6_test_1 : decode cX6_test 1 = .ok (.getfield 10, 3) := by decide +kernel
theorem dX6_test_4 : decode cX6_test 4 = .ok (.iload_n 1, 1) := by decide +kernel
theorem dX6_test_5 : decode cX6_test 5 = .ok (.invokevirtual 76, 3) := by decide +kernel
theorem dX6_test_8 : decode cX6_test 8 = .ok (.ifCond .ne 5, 3) := by decide +kernel
theorem dX6_test_11 : decode cX6_test 11 = .ok (.iconst (-1), 1) := by decide +kernel
theorem dX6_test_12 : decode cX6_test 12 = .ok (.ireturn, 1) := by decide +kernel
theorem dX6_test_13 : decode cX6_test 13 = .ok (.aload_n 0, 1) := by decide +kernel
theorem dX6_test_14 : decode cX6_test 14 = .ok (.getfield 10, 3) := by decide +kernel
theorem dX6_test_17 : decode cX6_test 17 = .ok (.getfield 87, 3) := by decide +kernel
theorem dX6_test_20 : decode cX6_test 20 = .ok (.iload_n 1, 1) := by decide +kernel
theorem dX6_test_21 : decode cX6_test 21 = .ok (.iaload, 1) := by decide +kernel
theorem dX6_test_22 : decode cX6_test 22 = .ok (.ifCond .ne 6, 3) := by decide +kernel
theorem dX6_test_25 : decode cX6_test 25 = .ok (.bipush (-2), 2) := by decide +kernel
theorem dX6_test_27 : decode cX6_test 27 = .ok (.ireturn, 1) := by decide +kernel
theorem dX6_test_28 : decode cX6_test 28 = .ok (.aload_n 0, 1) := by decide +kernel
theorem dX6_test_29 : decode cX6_test 29 = .ok (.getfield 19, 3) := by decide +kernel
theorem dX6_test_32 : decode cX6_test 32 = .ok (.aload_n 0, 1) := by decide +kernel
theorem dX6_test_33 : decode cX6_test 33 = .ok (.getfield 10, 3) := by decide +kernel
theorem dX6_test_36 : decode cX6_test 36 = .ok (.invokevirtual 53, 3) := by decide +kernel
theorem dX6_test_39 : decode cX6_test 39 = .ok (.aload_n 0, 1) := by decide +kernel
theorem dX6_test_40 : decode cX6_test 40 = .ok (.getfield 10, 3) := by decide +kernel
theorem dX6_test_43 : decode cX6_test 43 = .ok (.iload_n 1, 1) := by decide +kernel
theorem dX6_test_44 : decode cX6_test 44 = .ok (.invokevirtual 117, 3) := by decide +kernel
theorem dX6_test_47 : decode cX6_test 47 = .ok (.ireturn, 1) := by decide +kernel
theorem dX6_pause_0 : decode cX6_pause 0 = .ok (.iload_n 1, 1) := by decide +kernel
theorem dX6_pause_1 : decode cX6_pause 1 = .ok (.iconst 1, 1) := by decide +kernel
theorem dX6_pause_2 : decode cX6_pause 2 = .ok (.sipush 1000, 3) := by decide +kernel
theorem dX6_pause_5 : decode cX6_pause 5 = .ok (.invokestatic 45, 3) := by decide +kernel
theorem dX6_pause_8 : decode cX6_pause 8 = .ok (.ifCond .ne 5, 3) := by decide +kernel
theorem dX6_pause_11 : decode cX6_pause 11 = .ok (.iconst (-1), 1) := by decide +kernel
theorem dX6_pause_12 : decode cX6_pause 12 = .ok (.ireturn, 1) := by decide +kernel
theorem dX6_pause_13 : decode cX6_pause 13 = .ok (.aload_n 0, 1) := by decide +kernel
theorem dX6_pause_14 : decode cX6_pause 14 = .ok (.getfield 19, 3) := by decide +kernel
theorem dX6_pause_17 : decode cX6_pause 17 = .ok (.aload_n 0, 1) := by decide +kernel
theorem dX6_pause_18 : decode cX6_pause 18 = .ok (.getfield 10, 3) := by decide +kernel
theorem dX6_pause_21 : decode cX6_pause 21 = .ok (.invokevirtual 53, 3) := by decide +kernel
theorem dX6_pause_24 : decode cX6_pause 24 = .ok (.aload_n 0, 1) := by decide +kernel
theorem dX6_pause_25 : decode cX6_pause 25 = .ok (.getfield 10, 3) := by decide +kernel
theorem dX6_pause_28 : decode cX6_pause 28 = .ok (.dup, 1) := by decide +kernel
theorem dX6_pause_29 : decode cX6_pause 29 = .ok (.getfield 120, 3) := by decide +kernel
theorem dX6_pause_32 : decode cX6_pause 32 = .ok (.iload_n 1, 1) := by decide +kernel
theorem dX6_pause_33 : decode cX6_pause 33 = .ok (.iadd, 1) := by decide +kernel
theorem dX6_pause_34 : decode cX6_pause 34 = .ok (.putfield 120, 3) := by decide +kernel
theorem dX6_pause_37 : decode cX6_pause 37 = .ok (.aload_n 0, 1) := by decide +kernel
theorem dX6_pause_38 : decode cX6_pause 38 = .ok (.getfield 10, 3) := by decide +kernel
theorem dX6_pause_41 : decode cX6_pause 41 = .ok (.getfield 120, 3) := by decide +kernel
theorem dX6_pause_44 : decode cX6_pause 44 = .ok (.ireturn, 1) := by decide +kernel
theorem dX6_depart_0 : decode cX6_depart 0 = .ok (.aload_n 0, 1) := by decide +kernel
theorem dX6_depart_1 : decode cX6_depart 1 = .ok (.getfield 10, 3) := by decide +kernel
theorem dX6_depart_4 : decode cX6_depart 4 = .ok (.iload_n 1, 1) := by decide +kernel
theorem dX6_depart_5 : decode cX6_depart 5 = .ok (.invokevirtual 76, 3) := by decide +kernel
theorem dX6_depart_8 : decode cX6_depart 8 = .ok (.ifCond .ne 5, 3) := by decide +kernel
theorem dX6_depart_11 : decode cX6_depart 11 = .ok (.iconst (-1), 1) := by decide +kernel
theorem dX6_depart_12 : decode cX6_depart 12 = .ok (.ireturn, 1) := by decide +kernel
theorem dX6_depart_13 : decode cX6_depart 13 = .ok (.aload_n 0, 1) := by decide +kernel
theorem dX6_depart_14 : decode cX6_depart 14 = .ok (.getfield 10, 3) := by decide +kernel
theorem dX6_depart_17 : decode cX6_depart 17 = .ok (.iload_n 1, 1) := by decide +kernel
theorem dX6_depart_18 : decode cX6_depart 18 = .ok (.invokevirtual 123, 3) := by decide +kernel
theorem dX6_depart_21 : decode cX6_depart 21 = .ok (.istore_n 2, 1) := by decide +kernel
theorem dX6_depart_22 : decode cX6_depart 22 = .ok (.iload_n 2, 1) := by decide +kernel
theorem dX6_depart_23 : decode cX6_depart 23 = .ok (.ifCond .eq 11, 3) := by decide +kernel
theorem dX6_depart_26 : decode cX6_depart 26 = .ok (.aload_n 0, 1) := by decide +kernel
theorem dX6_depart_27 : decode cX6_depart 27 = .ok (.iload_n 2, 1) := by decide +kernel
theorem dX6_depart_28 : decode cX6_depart 28 = .ok (.putfield 41, 3) := by decide +kernel
theorem dX6_depart_31 : decode cX6_depart 31 = .ok (.bipush (-2), 2) := by decide +kernel
theorem dX6_depart_33 : decode cX6_depart 33 = .ok (.ireturn, 1) := by decide +kernel
theorem dX6_depart_34 : decode cX6_depart 34 = .ok (.aload_n 0, 1) := by decide +kernel
theorem dX6_depart_35 : decode cX6_depart 35 = .ok (.getfield 19, 3) := by decide +kernel
theorem dX6_depart_38 : decode cX6_depart 38 = .ok (.aload_n 0, 1) := by decide +kernel
theorem dX6_depart_39 : decode cX6_depart 39 = .ok (.getfield 10, 3) := by decide +kernel
theorem dX6_depart_42 : decode cX6_depart 42 = .ok (.invokevirtual 53, 3) := by decide +kernel
theorem dX6_depart_45 : decode cX6_depart 45 = .ok (.aload_n 0, 1) := by decide +kernel
theorem dX6_depart_46 : decode cX6_depart 46 = .ok (.getfield 10, 3) := by decide +kernel
theorem dX6_depart_49 : decode cX6_depart 49 = .ok (.iload_n 1, 1) := by decide +kernel
theorem dX6_depart_50 : decode cX6_depart 50 = .ok (.invokevirtual 126, 3) := by decide +kernel
theorem dX6_depart_53 : decode cX6_depart 53 = .ok (.ireturn, 1) := by decide +kernel
theorem dX6_makeUp_0 : decode cX6_makeUp 0 = .ok (.iload_n 1, 1) := by decide +kernel
theorem dX6_makeUp_1 : decode cX6_makeUp 1 = .ok (.iconst 0, 1) := by decide +kernel
theorem dX6_makeUp_2 : decode cX6_makeUp 2 = .ok (.iconst 3, 1) := by decide +kernel
theorem dX6_makeUp_3 : decode cX6_makeUp 3 = .ok (.invokestatic 45, 3) := by decide +kernel
theorem dX6_makeUp_6 : decode cX6_makeUp 6 = .ok (.ifCond .ne 5, 3) := by decide +kernel
theorem dX6_makeUp_9 : decode cX6_makeUp 9 = .ok (.iconst (-1), 1) := by decide +kernel
theorem dX6_makeUp_10 : decode cX6_makeUp 10 = .ok (.ireturn, 1) := by decide +kernel
theorem dX6_makeUp_11 : decode cX6_makeUp 11 = .ok (.aload_n 0, 1) := by decide +kernel
theorem dX6_makeUp_12 : decode cX6_makeUp 12 = .ok (.getfield 37, 3) := by decide +kernel
theorem dX6_makeUp_15 : decode cX6_makeUp 15 = .ok (.aload_n 0, 1) := by decide +kernel
theorem dX6_makeUp_16 : decode cX6_makeUp 16 = .ok (.getfield 10, 3) := by decide +kernel
theorem dX6_makeUp_19 : decode cX6_makeUp 19 = .ok (.iload_n 1, 1) := by decide +kernel
theorem dX6_makeUp_20 : decode cX6_makeUp 20 = .ok (.invokevirtual 129, 3) := by decide +kernel
theorem dX6_makeUp_23 : decode cX6_makeUp 23 = .ok (.ifCond .ne 6, 3) := by decide +kernel
theorem dX6_makeUp_26 : decode cX6_makeUp 26 = .ok (.bipush (-2), 2) := by decide +kernel
theorem dX6_makeUp_28 : decode cX6_makeUp 28 = .ok (.ireturn, 1) := by decide +kernel
theorem dX6_makeUp_29 : decode cX6_makeUp 29 = .ok (.aload_n 0, 1) := by decide +kernel
theorem dX6_makeUp_30 : decode cX6_makeUp 30 = .ok (.getfield 19, 3) := by decide +kernel
theorem dX6_makeUp_33 : decode cX6_makeUp 33 = .ok (.aload_n 0, 1) := by decide +kernel
theorem dX6_makeUp_34 : decode cX6_makeUp 34 = .ok (.getfield 10, 3) := by decide +kernel
theorem dX6_makeUp_37 : decode cX6_makeUp 37 = .ok (.invokevirtual 53, 3) := by decide +kernel
theorem dX6_makeUp_40 : decode cX6_makeUp 40 = .ok (.aload_n 0, 1) := by decide +kernel
theorem dX6_makeUp_41 : decode cX6_makeUp 41 = .ok (.getfield 37, 3) := by decide +kernel
theorem dX6_makeUp_44 : decode cX6_makeUp 44 = .ok (.getfield 133, 3) := by decide +kernel
theorem dX6_makeUp_47 : decode cX6_makeUp 47 = .ok (.astore_n 2, 1) := by decide +kernel
theorem dX6_makeUp_48 : decode cX6_makeUp 48 = .ok (.iconst 0, 1) := by decide +kernel
theorem dX6_makeUp_49 : decode cX6_makeUp 49 = .ok (.istore_n 3, 1) := by decide +kernel
theorem dX6_makeUp_50 : decode cX6_makeUp 50 = .ok (.iconst 0, 1) := by decide +kernel
theorem dX6_makeUp_51 : decode cX6_makeUp 51 = .ok (.istore 4, 2) := by decide +kernel
theorem dX6_makeUp_53 : decode cX6_makeUp 53 = .ok (.iload 4, 2) := by decide +kernel
theorem dX6_makeUp_55 : decode cX6_makeUp 55 = .ok (.aload_n 2, 1) := by decide +kernel
theorem dX6_makeUp_56 : decode cX6_makeUp 56 = .ok (.getfield 137, 3) := by decide +kernel
theorem dX6_makeUp_59 : decode cX6_makeUp 59 = .ok (.if_icmp .ge 40, 3) := by decide +kernel
theorem dX6_makeUp_62 : decode cX6_makeUp 62 = .ok (.iload_n 3, 1) := by decide +kernel
theorem dX6_makeUp_63 : decode cX6_makeUp 63 = .ok (.aload_n 0, 1) := by decide +kernel
theorem dX6_makeUp_64 : decode cX6_makeUp 64 = .ok (.getfield 10, 3) := by decide +kernel
theorem dX6_makeUp_67 : decode cX6_makeUp 67 = .ok (.aload_n 2, 1) := by decide +kernel
theorem dX6_makeUp_68 : decode cX6_makeUp 68 = .ok (.getfield 142, 3) := by decide +kernel
theorem dX6_makeUp_71 : decode cX6_makeUp 71 = .ok (.iload 4, 2) := by decide +kernel
theorem dX6_makeUp_73 : decode cX6_makeUp 73 = .ok (.iaload, 1) := by decide +kernel
theorem dX6_makeUp_74 : decode cX6_makeUp 74 = .ok (.aload_n 2, 1) := by decide +kernel
theorem dX6_makeUp_75 : decode cX6_makeUp 75 = .ok (.getfield 145, 3) := by decide +kernel
theorem dX6_makeUp_78 : decode cX6_makeUp 78 = .ok (.iload 4, 2) := by decide +kernel
theorem dX6_makeUp_80 : decode cX6_makeUp 80 = .ok (.iaload, 1) := by decide +kernel
theorem dX6_makeUp_81 : decode cX6_makeUp 81 = .ok (.aload_n 2, 1) := by decide +kernel
theorem dX6_makeUp_82 : decode cX6_makeUp 82 = .ok (.getfield 148, 3) := by decide +kernel
theorem dX6_makeUp_85 : decode cX6_makeUp 85 = .ok (.iload 4, 2) := by decide +kernel
theorem dX6_makeUp_87 : decode cX6_makeUp 87 = .ok (.iaload, 1) := by decide +kernel
theorem dX6_makeUp_88 : decode cX6_makeUp 88 = .ok (.invokevirtual 114, 3) := by decide +kernel
theorem dX6_makeUp_91 : decode cX6_makeUp 91 = .ok (.iadd, 1) := by decide +kernel
theorem dX6_makeUp_92 : decode cX6_makeUp 92 = .ok (.istore_n 3, 1) := by decide +kernel
theorem dX6_makeUp_93 : decode cX6_makeUp 93 = .ok (.iinc 4 1, 3) := by decide +kernel
theorem dX6_makeUp_96 : decode cX6_makeUp 96 = .ok (.goto (-43), 3) := by decide +kernel
theorem dX6_makeUp_99 : decode cX6_makeUp 99 = .ok (.iload_n 3, 1) := by decide +kernel
theorem dX6_makeUp_100 : decode cX6_makeUp 100 = .ok (.ireturn, 1) := by decide +kernel
theorem dX6_undo_0 : decode cX6_undo 0 = .ok (.aload_n 0, 1) := by decide +kernel
theorem dX6_undo_1 : decode cX6_undo 1 = .ok (.getfield 19, 3) := by decide +kernel
theorem dX6_undo_4 : decode cX6_undo 4 = .ok (.aload_n 0, 1) := by decide +kernel
theorem dX6_undo_5 : decode cX6_undo 5 = .ok (.getfield 10, 3) := by decide +kernel
theorem dX6_undo_8 : decode cX6_undo 8 = .ok (.invokevirtual 151, 3) := by decide +kernel
theorem dX6_undo_11 : decode cX6_undo 11 = .ok (.ifCond .eq 13, 3) := by decide +kernel
theorem dX6_undo_14 : decode cX6_undo 14 = .ok (.aload_n 0, 1) := by decide +kernel
theorem dX6_undo_15 : decode cX6_undo 15 = .ok (.getfield 19, 3) := by decide +kernel
theorem dX6_undo_18 : decode cX6_undo 18 = .ok (.getfield 155, 3) := by decide +kernel
theorem dX6_undo_21 : decode cX6_undo 21 = .ok (.goto 5, 3) := by decide +kernel
theorem dX6_undo_24 : decode cX6_undo 24 = .ok (.bipush (-2), 2) := by decide +kernel
theorem dX6_undo_26 : decode cX6_undo 26 = .ok (.ireturn, 1) := by decide +kernel
theorem dX6_write_0 : decode cX6_write 0 = .ok (.iload_n 1, 1) := by decide +kernel
theorem dX6_write_1 : decode cX6_write 1 = .ok (.bipush 32, 2) := by decide +kernel
theorem dX6_write_3 : decode cX6_write 3 = .ok (.bipush 126, 2) := by decide +kernel
theorem dX6_write_5 : decode cX6_write 5 = .ok (.invokestatic 45, 3) := by decide +kernel
theorem dX6_write_8 : decode cX6_write 8 = .ok (.ifCond .ne 5, 3) := by decide +kernel
theorem dX6_write_11 : decode cX6_write 11 = .ok (.iconst (-1), 1) := by decide +kernel
theorem dX6_write_12 : decode cX6_write 12 = .ok (.ireturn, 1) := by decide +kernel
theorem dX6_write_13 : decode cX6_write 13 = .ok (.aload_n 0, 1) := by decide +kernel
theorem dX6_write_14 : decode cX6_write 14 = .ok (.getfield 30, 3) := by decide +kernel
theorem dX6_write_17 : decode cX6_write 17 = .ok (.getfield 158, 3) := by decide +kernel
theorem dX6_write_20 : decode cX6_write 20 = .ok (.bipush 60, 2) := by decide +kernel
theorem dX6_write_22 : decode cX6_write 22 = .ok (.if_icmp .lt 6, 3) := by decide +kernel
theorem dX6_write_25 : decode cX6_write 25 = .ok (.bipush (-3), 2) := by decide +kernel
theorem dX6_write_27 : decode cX6_write 27 = .ok (.ireturn, 1) := by decide +kernel
theorem dX6_write_28 : decode cX6_write 28 = .ok (.aload_n 0, 1) := by decide +kernel
theorem dX6_write_29 : decode cX6_write 29 = .ok (.getfield 30, 3) := by decide +kernel
theorem dX6_write_32 : decode cX6_write 32 = .ok (.iload_n 1, 1) := by decide +kernel
theorem dX6_write_33 : decode cX6_write 33 = .ok (.invokevirtual 160, 3) := by decide +kernel
theorem dX6_write_36 : decode cX6_write 36 = .ok (.aload_n 0, 1) := by decide +kernel
theorem dX6_write_37 : decode cX6_write 37 = .ok (.getfield 30, 3) := by decide +kernel
theorem dX6_write_40 : decode cX6_write 40 = .ok (.getfield 158, 3) := by decide +kernel
theorem dX6_write_43 : decode cX6_write 43 = .ok (.ireturn, 1) := by decide +kernel
theorem dX6_wipe_0 : decode cX6_wipe 0 = .ok (.aload_n 0, 1) := by decide +kernel
theorem dX6_wipe_1 : decode cX6_wipe 1 = .ok (.getfield 30, 3) := by decide +kernel
theorem dX6_wipe_4 : decode cX6_wipe 4 = .ok (.getfield 158, 3) := by decide +kernel
theorem dX6_wipe_7 : decode cX6_wipe 7 = .ok (.istore_n 1, 1) := by decide +kernel
theorem dX6_wipe_8 : decode cX6_wipe 8 = .ok (.aload_n 0, 1) := by decide +kernel
theorem dX6_wipe_9 : decode cX6_wipe 9 = .ok (.getfield 30, 3) := by decide +kernel
theorem dX6_wipe_12 : decode cX6_wipe 12 = .ok (.iconst 0, 1) := by decide +kernel
theorem dX6_wipe_13 : decode cX6_wipe 13 = .ok (.putfield 158, 3) := by decide +kernel
theorem dX6_wipe_16 : decode cX6_wipe 16 = .ok (.iload_n 1, 1) := by decide +kernel
theorem dX6_wipe_17 : decode cX6_wipe 17 = .ok (.ireturn, 1) := by decide +kernel
theorem dX6_fault_0 : decode cX6_fault 0 = .ok (.iload_n 1, 1) := by decide +kernel
theorem dX6_fault_1 : decode cX6_fault 1 = .ok (.lookupswitch 43 #[(0, 27), (1, 35)], 27) := by decide +kernel
theorem dX6_fault_28 : decode cX6_fault 28 = .ok (.aload_n 0, 1) := by decide +kernel
theorem dX6_fault_29 : decode cX6_fault 29 = .ok (.getfield 30, 3) := by decide +kernel
theorem dX6_fault_32 : decode cX6_fault 32 = .ok (.getfield 164, 3) := by decide +kernel
theorem dX6_fault_35 : decode cX6_fault 35 = .ok (.ireturn, 1) := by decide +kernel
theorem dX6_fault_36 : decode cX6_fault 36 = .ok (.aload_n 0, 1) := by decide +kernel
theorem dX6_fault_37 : decode cX6_fault 37 = .ok (.getfield 30, 3) := by decide +kernel
theorem dX6_fault_40 : decode cX6_fault 40 = .ok (.getfield 167, 3) := by decide +kernel
theorem dX6_fault_43 : decode cX6_fault 43 = .ok (.ireturn, 1) := by decide +kernel
theorem dX6_fault_44 : decode cX6_fault 44 = .ok (.iconst (-1), 1) := by decide +kernel
theorem dX6_fault_45 : decode cX6_fault 45 = .ok (.ireturn, 1) := by decide +kernel
theorem dX6_told_0 : decode cX6_told 0 = .ok (.iload_n 1, 1) := by decide +kernel
theorem dX6_told_1 : decode cX6_told 1 = .ok (.tableswitch 192 0 14 #[75, 83, 91, 99, 107, 115, 123, 131, 139, 147, 155, 163, 168, 176, 184], 75) := by decide +kernel
theorem dX6_told_76 : decode cX6_told 76 = .ok (.aload_n 0, 1) := by decide +kernel
theorem dX6_told_77 : decode cX6_told 77 = .ok (.getfield 10, 3) := by decide +kernel
theorem dX6_told_80 : decode cX6_told 80 = .ok (.getfield 170, 3) := by decide +kernel
theorem dX6_told_83 : decode cX6_told 83 = .ok (.ireturn, 1) := by decide +kernel
theorem dX6_told_84 : decode cX6_told 84 = .ok (.aload_n 0, 1) := by decide +kernel
theorem dX6_told_85 : decode cX6_told 85 = .ok (.getfield 10, 3) := by decide +kernel
theorem dX6_told_88 : decode cX6_told 88 = .ok (.getfield 93, 3) := by decide +kernel
theorem dX6_told_91 : decode cX6_told 91 = .ok (.ireturn, 1) := by decide +kernel
theorem dX6_told_92 : decode cX6_told 92 = .ok (.aload_n 0, 1) := by decide +kernel
theorem dX6_told_93 : decode cX6_told 93 = .ok (.getfield 10, 3) := by decide +kernel
theorem dX6_told_96 : decode cX6_told 96 = .ok (.getfield 120, 3) := by decide +kernel
theorem dX6_told_99 : decode cX6_told 99 = .ok (.ireturn, 1) := by decide +kernel
theorem dX6_told_100 : decode cX6_told 100 = .ok (.aload_n 0, 1) := by decide +kernel
theorem dX6_told_101 : decode cX6_told 101 = .ok (.getfield 10, 3) := by decide +kernel
theorem dX6_told_104 : decode cX6_told 104 = .ok (.invokevirtual 49, 3) := by decide +kernel
theorem dX6_told_107 : decode cX6_told 107 = .ok (.ireturn, 1) := by decide +kernel
theorem dX6_told_108 : decode cX6_told 108 = .ok (.aload_n 0, 1) := by decide +kernel
theorem dX6_told_109 : decode cX6_told 109 = .ok (.getfield 10, 3) := by decide +kernel
theorem dX6_told_112 : decode cX6_told 112 = .ok (.getfield 107, 3) := by decide +kernel
theorem dX6_told_115 : decode cX6_told 115 = .ok (.ireturn, 1) := by decide +kernel
theorem dX6_told_116 : decode cX6_told 116 = .ok (.aload_n 0, 1) := by decide +kernel
theorem dX6_told_117 : decode cX6_told 117 = .ok (.getfield 10, 3) := by decide +kernel
theorem dX6_told_120 : decode cX6_told 120 = .ok (.invokevirtual 173, 3) := by decide +kernel
theorem dX6_told_123 : decode cX6_told 123 = .ok (.ireturn, 1) := by decide +kernel
theorem dX6_told_124 : decode cX6_told 124 = .ok (.aload_n 0, 1) := by decide +kernel
theorem dX6_told_125 : decode cX6_told 125 = .ok (.getfield 10, 3) := by decide +kernel
theorem dX6_told_128 : decode cX6_told 128 = .ok (.getfield 176, 3) := by decide +kernel
theorem dX6_told_131 : decode cX6_told 131 = .ok (.ireturn, 1) := by decide +kernel
theorem dX6_told_132 : decode cX6_told 132 = .ok (.aload_n 0, 1) := by decide +kernel
theorem dX6_told_133 : decode cX6_told 133 = .ok (.getfield 10, 3) := by decide +kernel
theorem dX6_told_136 : decode cX6_told 136 = .ok (.getfield 177, 3) := by decide +kernel
theorem dX6_told_139 : decode cX6_told 139 = .ok (.ireturn, 1) := by decide +kernel
theorem dX6_told_140 : decode cX6_told 140 = .ok (.aload_n 0, 1) := by decide +kernel
theorem dX6_told_141 : decode cX6_told 141 = .ok (.getfield 10, 3) := by decide +kernel
theorem dX6_told_144 : decode cX6_told 144 = .ok (.getfield 180, 3) := by decide +kernel
theorem dX6_told_147 : decode cX6_told 147 = .ok (.ireturn, 1) := by decide +kernel
theorem dX6_told_148 : decode cX6_told 148 = .ok (.aload_n 0, 1) := by decide +kernel
theorem dX6_told_149 : decode cX6_told 149 = .ok (.getfield 10, 3) := by decide +kernel
theorem dX6_told_152 : decode cX6_told 152 = .ok (.getfield 183, 3) := by decide +kernel
theorem dX6_told_155 : decode cX6_told 155 = .ok (.ireturn, 1) := by decide +kernel
theorem dX6_told_156 : decode cX6_told 156 = .ok (.aload_n 0, 1) := by decide +kernel
theorem dX6_told_157 : decode cX6_told 157 = .ok (.getfield 10, 3) := by decide +kernel
theorem dX6_told_160 : decode cX6_told 160 = .ok (.getfield 186, 3) := by decide +kernel
theorem dX6_told_163 : decode cX6_told 163 = .ok (.ireturn, 1) := by decide +kernel
theorem dX6_told_164 : decode cX6_told 164 = .ok (.aload_n 0, 1) := by decide +kernel
theorem dX6_told_165 : decode cX6_told 165 = .ok (.getfield 41, 3) := by decide +kernel
theorem dX6_told_168 : decode cX6_told 168 = .ok (.ireturn, 1) := by decide +kernel
theorem dX6_told_169 : decode cX6_told 169 = .ok (.aload_n 0, 1) := by decide +kernel
theorem dX6_told_170 : decode cX6_told 170 = .ok (.getfield 10, 3) := by decide +kernel
theorem dX6_told_173 : decode cX6_told 173 = .ok (.invokevirtual 189, 3) := by decide +kernel
theorem dX6_told_176 : decode cX6_told 176 = .ok (.ireturn, 1) := by decide +kernel
theorem dX6_told_177 : decode cX6_told 177 = .ok (.aload_n 0, 1) := by decide +kernel
theorem dX6_told_178 : decode cX6_told 178 = .ok (.getfield 30, 3) := by decide +kernel
theorem dX6_told_181 : decode cX6_told 181 = .ok (.getfield 158, 3) := by decide +kernel
theorem dX6_told_184 : decode cX6_told 184 = .ok (.ireturn, 1) := by decide +kernel
theorem dX6_told_185 : decode cX6_told 185 = .ok (.aload_n 0, 1) := by decide +kernel
theorem dX6_told_186 : decode cX6_told 186 = .ok (.getfield 19, 3) := by decide +kernel
theorem dX6_told_189 : decode cX6_told 189 = .ok (.getfield 155, 3) := by decide +kernel
theorem dX6_told_192 : decode cX6_told 192 = .ok (.ireturn, 1) := by decide +kernel
theorem dX6_told_193 : decode cX6_told 193 = .ok (.iconst (-1), 1) := by decide +kernel
theorem dX6_told_194 : decode cX6_told 194 = .ok (.ireturn, 1) := by decide +kernel
theorem dX6_setting_0 : decode cX6_setting 0 = .ok (.iload_n 1, 1) := by decide +kernel
theorem dX6_setting_1 : decode cX6_setting 1 = .ok (.invokestatic 61, 3) := by decide +kernel
theorem dX6_setting_4 : decode cX6_setting 4 = .ok (.ifCond .eq 15, 3) := by decide +kernel
theorem dX6_setting_7 : decode cX6_setting 7 = .ok (.aload_n 0, 1) := by decide +kernel
theorem dX6_setting_8 : decode cX6_setting 8 = .ok (.getfield 10, 3) := by decide +kernel
theorem dX6_setting_11 : decode cX6_setting 11 = .ok (.getfield 72, 3) := by decide +kernel
theorem dX6_setting_14 : decode cX6_setting 14 = .ok (.iload_n 1, 1) := by decide +kernel
theorem dX6_setting_15 : decode cX6_setting 15 = .ok (.iaload, 1) := by decide +kernel
theorem dX6_setting_16 : decode cX6_setting 16 = .ok (.goto 4, 3) := by decide +kernel
theorem dX6_setting_19 : decode cX6_setting 19 = .ok (.iconst (-1), 1) := by decide +kernel
theorem dX6_setting_20 : decode cX6_setting 20 = .ok (.ireturn, 1) := by decide +kernel
theorem dX6_track_0 : decode cX6_track 0 = .ok (.aload_n 0, 1) := by decide +kernel
theorem dX6_track_1 : decode cX6_track 1 = .ok (.getfield 10, 3) := by decide +kernel
theorem dX6_track_4 : decode cX6_track 4 = .ok (.iload_n 1, 1) := by decide +kernel
theorem dX6_track_5 : decode cX6_track 5 = .ok (.invokevirtual 76, 3) := by decide +kernel
theorem dX6_track_8 : decode cX6_track 8 = .ok (.ifCond .ne 5, 3) := by decide +kernel
theorem dX6_track_11 : decode cX6_track 11 = .ok (.iconst (-1), 1) := by decide +kernel
theorem dX6_track_12 : decode cX6_track 12 = .ok (.ireturn, 1) := by decide +kernel
theorem dX6_track_13 : decode cX6_track 13 = .ok (.iload_n 2, 1) := by decide +kernel
theorem dX6_track_14 : decode cX6_track 14 = .ok (.tableswitch 88 0 4 #[34, 44, 61, 70, 79], 34) := by decide +kernel
theorem dX6_track_48 : decode cX6_track 48 = .ok (.aload_n 0, 1) := by decide +kernel
theorem dX6_track_49 : decode cX6_track 49 = .ok (.getfield 10, 3) := by decide +kernel
theorem dX6_track_52 : decode cX6_track 52 = .ok (.getfield 87, 3) := by decide +kernel
theorem dX6_track_55 : decode cX6_track 55 = .ok (.iload_n 1, 1) := by decide +kernel
theorem dX6_track_56 : decode cX6_track 56 = .ok (.iaload, 1) := by decide +kernel
theorem dX6_track_57 : decode cX6_track 57 = .ok (.ireturn, 1) := by decide +kernel
theorem dX6_track_58 : decode cX6_track 58 = .ok (.aload_n 0, 1) := by decide +kernel
theorem dX6_track_59 : decode cX6_track 59 = .ok (.getfield 10, 3) := by decide +kernel
theorem dX6_track_62 : decode cX6_track 62 = .ok (.iload_n 1, 1) := by decide +kernel
theorem dX6_track_63 : decode cX6_track 63 = .ok (.invokevirtual 192, 3) := by decide +kernel
theorem dX6_track_66 : decode cX6_track 66 = .ok (.ifCond .eq 7, 3) := by decide +kernel
theorem dX6_track_69 : decode cX6_track 69 = .ok (.iconst 1, 1) := by decide +kernel
theorem dX6_track_70 : decode cX6_track 70 = .ok (.goto 4, 3) := by decide +kernel
theorem dX6_track_73 : decode cX6_track 73 = .ok (.iconst 0, 1) := by decide +kernel
theorem dX6_track_74 : decode cX6_track 74 = .ok (.ireturn, 1) := by decide +kernel
theorem dX6_track_75 : decode cX6_track 75 = .ok (.aload_n 0, 1) := by decide +kernel
theorem dX6_track_76 : decode cX6_track 76 = .ok (.getfield 10, 3) := by decide +kernel
theorem dX6_track_79 : decode cX6_track 79 = .ok (.iload_n 1, 1) := by decide +kernel
theorem dX6_track_80 : decode cX6_track 80 = .ok (.invokevirtual 195, 3) := by decide +kernel
theorem dX6_track_83 : decode cX6_track 83 = .ok (.ireturn, 1) := by decide +kernel
theorem dX6_track_84 : decode cX6_track 84 = .ok (.aload_n 0, 1) := by decide +kernel
theorem dX6_track_85 : decode cX6_track 85 = .ok (.getfield 10, 3) := by decide +kernel
theorem dX6_track_88 : decode cX6_track 88 = .ok (.iload_n 1, 1) := by decide +kernel
theorem dX6_track_89 : decode cX6_track 89 = .ok (.invokevirtual 198, 3) := by decide +kernel
theorem dX6_track_92 : decode cX6_track 92 = .ok (.ireturn, 1) := by decide +kernel
theorem dX6_track_93 : decode cX6_track 93 = .ok (.aload_n 0, 1) := by decide +kernel
theorem dX6_track_94 : decode cX6_track 94 = .ok (.getfield 10, 3) := by decide +kernel
theorem dX6_track_97 : decode cX6_track 97 = .ok (.iload_n 1, 1) := by decide +kernel
theorem dX6_track_98 : decode cX6_track 98 = .ok (.invokevirtual 123, 3) := by decide +kernel
theorem dX6_track_101 : decode cX6_track 101 = .ok (.ireturn, 1) := by decide +kernel
theorem dX6_track_102 : decode cX6_track 102 = .ok (.iconst (-1), 1) := by decide +kernel
theorem dX6_track_103 : decode cX6_track 103 = .ok (.ireturn, 1) := by decide +kernel
theorem dX6_wagon_0 : decode cX6_wagon 0 = .ok (.aload_n 0, 1) := by decide +kernel
theorem dX6_wagon_1 : decode cX6_wagon 1 = .ok (.getfield 10, 3) := by decide +kernel
theorem dX6_wagon_4 : decode cX6_wagon 4 = .ok (.iload_n 1, 1) := by decide +kernel
theorem dX6_wagon_5 : decode cX6_wagon 5 = .ok (.invokevirtual 76, 3) := by decide +kernel
theorem dX6_wagon_8 : decode cX6_wagon 8 = .ok (.ifCond .eq 16, 3) := by decide +kernel
theorem dX6_wagon_11 : decode cX6_wagon 11 = .ok (.iload_n 2, 1) := by decide +kernel
theorem dX6_wagon_12 : decode cX6_wagon 12 = .ok (.ifCond .lt 12, 3) := by decide +kernel
theorem dX6_wagon_15 : decode cX6_wagon 15 = .ok (.iload_n 3, 1) := by decide +kernel
theorem dX6_wagon_16 : decode cX6_wagon 16 = .ok (.iconst 0, 1) := by decide +kernel
theorem dX6_wagon_17 : decode cX6_wagon 17 = .ok (.iconst 2, 1) := by decide +kernel
theorem dX6_wagon_18 : decode cX6_wagon 18 = .ok (.invokestatic 45, 3) := by decide +kernel
theorem dX6_wagon_21 : decode cX6_wagon 21 = .ok (.ifCond .ne 5, 3) := by decide +kernel
theorem dX6_wagon_24 : decode cX6_wagon 24 = .ok (.iconst (-1), 1) := by decide +kernel
theorem dX6_wagon_25 : decode cX6_wagon 25 = .ok (.ireturn, 1) := by decide +kernel
theorem dX6_wagon_26 : decode cX6_wagon 26 = .ok (.iload_n 2, 1) := by decide +kernel
theorem dX6_wagon_27 : decode cX6_wagon 27 = .ok (.aload_n 0, 1) := by decide +kernel
theorem dX6_wagon_28 : decode cX6_wagon 28 = .ok (.getfield 10, 3) := by decide +kernel
theorem dX6_wagon_31 : decode cX6_wagon 31 = .ok (.getfield 87, 3) := by decide +kernel
theorem dX6_wagon_34 : decode cX6_wagon 34 = .ok (.iload_n 1, 1) := by decide +kernel
theorem dX6_wagon_35 : decode cX6_wagon 35 = .ok (.iaload, 1) := by decide +kernel
theorem dX6_wagon_36 : decode cX6_wagon 36 = .ok (.if_icmp .lt 6, 3) := by decide +kernel
theorem dX6_wagon_39 : decode cX6_wagon 39 = .ok (.bipush (-9), 2) := by decide +kernel
theorem dX6_wagon_41 : decode cX6_wagon 41 = .ok (.ireturn, 1) := by decide +kernel
theorem dX6_wagon_42 : decode cX6_wagon 42 = .ok (.aload_n 0, 1) := by decide +kernel
theorem dX6_wagon_43 : decode cX6_wagon 43 = .ok (.getfield 10, 3) := by decide +kernel
theorem dX6_wagon_46 : decode cX6_wagon 46 = .ok (.iload_n 1, 1) := by decide +kernel
theorem dX6_wagon_47 : decode cX6_wagon 47 = .ok (.iload_n 2, 1) := by decide +kernel
theorem dX6_wagon_48 : decode cX6_wagon 48 = .ok (.invokevirtual 201, 3) := by decide +kernel
theorem dX6_wagon_51 : decode cX6_wagon 51 = .ok (.istore 4, 2) := by decide +kernel
theorem dX6_wagon_53 : decode cX6_wagon 53 = .ok (.iload_n 3, 1) := by decide +kernel
theorem dX6_wagon_54 : decode cX6_wagon 54 = .ok (.lookupswitch 38 #[(0, 26), (1, 32)], 26) := by decide +kernel
theorem dX6_wagon_80 : decode cX6_wagon 80 = .ok (.iload 4, 2) := by decide +kernel
theorem dX6_wagon_82 : decode cX6_wagon 82 = .ok (.invokestatic 205, 3) := by decide +kernel
theorem dX6_wagon_85 : decode cX6_wagon 85 = .ok (.ireturn, 1) := by decide +kernel
theorem dX6_wagon_86 : decode cX6_wagon 86 = .ok (.iload 4, 2) := by decide +kernel
theorem dX6_wagon_88 : decode cX6_wagon 88 = .ok (.invokestatic 208, 3) := by decide +kernel
theorem dX6_wagon_91 : decode cX6_wagon 91 = .ok (.ireturn, 1) := by decide +kernel
theorem dX6_wagon_92 : decode cX6_wagon 92 = .ok (.iload 4, 2) := by decide +kernel
theorem dX6_wagon_94 : decode cX6_wagon 94 = .ok (.invokestatic 211, 3) := by decide +kernel
theorem dX6_wagon_97 : decode cX6_wagon 97 = .ok (.ireturn, 1) := by decide +kernel
theorem dX6_train_0 : decode cX6_train 0 = .ok (.iload_n 1, 1) := by decide +kernel
theorem dX6_train_1 : decode cX6_train 1 = .ok (.ifCond .ge 5, 3) := by decide +kernel
theorem dX6_train_4 : decode cX6_train 4 = .ok (.iconst (-1), 1) := by decide +kernel
theorem dX6_train_5 : decode cX6_train 5 = .ok (.ireturn, 1) := by decide +kernel
theorem dX6_train_6 : decode cX6_train 6 = .ok (.iload_n 1, 1) := by decide +kernel
theorem dX6_train_7 : decode cX6_train 7 = .ok (.aload_n 0, 1) := by decide +kernel
theorem dX6_train_8 : decode cX6_train 8 = .ok (.getfield 10, 3) := by decide +kernel
theorem dX6_train_11 : decode cX6_train 11 = .ok (.getfield 107, 3) := by decide +kernel
theorem dX6_train_14 : decode cX6_train 14 = .ok (.if_icmp .ge 15, 3) := by decide +kernel
theorem dX6_train_17 : decode cX6_train 17 = .ok (.aload_n 0, 1) := by decide +kernel
theorem dX6_train_18 : decode cX6_train 18 = .ok (.getfield 10, 3) := by decide +kernel
theorem dX6_train_21 : decode cX6_train 21 = .ok (.getfield 214, 3) := by decide +kernel
theorem dX6_train_24 : decode cX6_train 24 = .ok (.iload_n 1, 1) := by decide +kernel
theorem dX6_train_25 : decode cX6_train 25 = .ok (.iaload, 1) := by decide +kernel
theorem dX6_train_26 : decode cX6_train 26 = .ok (.goto 5, 3) := by decide +kernel
theorem dX6_train_29 : decode cX6_train 29 = .ok (.bipush (-9), 2) := by decide +kernel
theorem dX6_train_31 : decode cX6_train 31 = .ok (.ireturn, 1) := by decide +kernel
theorem dX6_find_0 : decode cX6_find 0 = .ok (.iload_n 1, 1) := by decide +kernel
theorem dX6_find_1 : decode cX6_find 1 = .ok (.ifCond .lt 12, 3) := by decide +kernel
theorem dX6_find_4 : decode cX6_find 4 = .ok (.iload_n 2, 1) := by decide +kernel
theorem dX6_find_5 : decode cX6_find 5 = .ok (.iconst 0, 1) := by decide +kernel
theorem dX6_find_6 : decode cX6_find 6 = .ok (.iconst 1, 1) := by decide +kernel
theorem dX6_find_7 : decode cX6_find 7 = .ok (.invokestatic 45, 3) := by decide +kernel
theorem dX6_find_10 : decode cX6_find 10 = .ok (.ifCond .ne 5, 3) := by decide +kernel
theorem dX6_find_13 : decode cX6_find 13 = .ok (.iconst (-1), 1) := by decide +kernel
theorem dX6_find_14 : decode cX6_find 14 = .ok (.ireturn, 1) := by decide +kernel
theorem dX6_find_15 : decode cX6_find 15 = .ok (.aload_n 0, 1) := by decide +kernel
theorem dX6_find_16 : decode cX6_find 16 = .ok (.getfield 10, 3) := by decide +kernel
theorem dX6_find_19 : decode cX6_find 19 = .ok (.iload_n 1, 1) := by decide +kernel
theorem dX6_find_20 : decode cX6_find 20 = .ok (.invokevirtual 217, 3) := by decide +kernel
theorem dX6_find_23 : decode cX6_find 23 = .ok (.istore_n 3, 1) := by decide +kernel
theorem dX6_find_24 : decode cX6_find 24 = .ok (.iload_n 3, 1) := by decide +kernel
theorem dX6_find_25 : decode cX6_find 25 = .ok (.bipush (-9), 2) := by decide +kernel
theorem dX6_find_27 : decode cX6_find 27 = .ok (.if_icmp .ne 6, 3) := by decide +kernel
theorem dX6_find_30 : decode cX6_find 30 = .ok (.bipush (-9), 2) := by decide +kernel
theorem dX6_find_32 : decode cX6_find 32 = .ok (.ireturn, 1) := by decide +kernel
theorem dX6_find_33 : decode cX6_find 33 = .ok (.iload_n 2, 1) := by decide +kernel
theorem dX6_find_34 : decode cX6_find 34 = .ok (.ifCond .ne 10, 3) := by decide +kernel
theorem dX6_find_37 : decode cX6_find 37 = .ok (.iload_n 3, 1) := by decide +kernel
theorem dX6_find_38 : decode cX6_find 38 = .ok (.bipush 8, 2) := by decide +kernel
theorem dX6_find_40 : decode cX6_find 40 = .ok (.idiv, 1) := by decide +kernel
theorem dX6_find_41 : decode cX6_find 41 = .ok (.goto 7, 3) := by decide +kernel
theorem dX6_find_44 : decode cX6_find 44 = .ok (.iload_n 3, 1) := by decide +kernel
theorem dX6_find_45 : decode cX6_find 45 = .ok (.bipush 8, 2) := by decide +kernel
theorem dX6_find_47 : decode cX6_find 47 = .ok (.irem, 1) := by decide +kernel
theorem dX6_find_48 : decode cX6_find 48 = .ok (.ireturn, 1) := by decide +kernel
theorem dX6_mean_0 : decode cX6_mean 0 = .ok (.aload_n 0, 1) := by decide +kernel
theorem dX6_mean_1 : decode cX6_mean 1 = .ok (.getfield 10, 3) := by decide +kernel
theorem dX6_mean_4 : decode cX6_mean 4 = .ok (.getfield 176, 3) := by decide +kernel
theorem dX6_mean_7 : decode cX6_mean 7 = .ok (.ifCond .ne 7, 3) := by decide +kernel
theorem dX6_mean_10 : decode cX6_mean 10 = .ok (.fconst 0, 1) := by decide +kernel
theorem dX6_mean_11 : decode cX6_mean 11 = .ok (.goto 20, 3) := by decide +kernel
theorem dX6_mean_14 : decode cX6_mean 14 = .ok (.aload_n 0, 1) := by decide +kernel
theorem dX6_mean_15 : decode cX6_mean 15 = .ok (.getfield 10, 3) := by decide +kernel
theorem dX6_mean_18 : decode cX6_mean 18 = .ok (.getfield 177, 3) := by decide +kernel
theorem dX6_mean_21 : decode cX6_mean 21 = .ok (.i2f, 1) := by decide +kernel
theorem dX6_mean_22 : decode cX6_mean 22 = .ok (.aload_n 0, 1) := by decide +kernel
theorem dX6_mean_23 : decode cX6_mean 23 = .ok (.getfield 10, 3) := by decide +kernel
theorem dX6_mean_26 : decode cX6_mean 26 = .ok (.getfield 176, 3) := by decide +kernel
theorem dX6_mean_29 : decode cX6_mean 29 = .ok (.i2f, 1) := by decide +kernel
theorem dX6_mean_30 : decode cX6_mean 30 = .ok (.fdiv, 1) := by decide +kernel
theorem dX6_mean_31 : decode cX6_mean 31 = .ok (.freturn, 1) := by decide +kernel
theorem dX6_cost_0 : decode cX6_cost 0 = .ok (.aload_n 0, 1) := by decide +kernel
theorem dX6_cost_1 : decode cX6_cost 1 = .ok (.getfield 10, 3) := by decide +kernel
theorem dX6_cost_4 : decode cX6_cost 4 = .ok (.iload_n 1, 1) := by decide +kernel
theorem dX6_cost_5 : decode cX6_cost 5 = .ok (.iload_n 2, 1) := by decide +kernel
theorem dX6_cost_6 : decode cX6_cost 6 = .ok (.iload_n 3, 1) := by decide +kernel
theorem dX6_cost_7 : decode cX6_cost 7 = .ok (.invokevirtual 110, 3) := by decide +kernel
theorem dX6_cost_10 : decode cX6_cost 10 = .ok (.ireturn, 1) := by decide +kernel
theorem dX6_cheapest_0 : decode cX6_cheapest 0 = .ok (.iload_n 1, 1) := by decide +kernel
theorem dX6_cheapest_1 : decode cX6_cheapest 1 = .ok (.iconst 0, 1) := by decide +kernel
theorem dX6_cheapest_2 : decode cX6_cheapest 2 = .ok (.iconst 3, 1) := by decide +kernel
theorem dX6_cheapest_3 : decode cX6_cheapest 3 = .ok (.invokestatic 45, 3) := by decide +kernel
theorem dX6_cheapest_6 : decode cX6_cheapest 6 = .ok (.ifCond .eq 12, 3) := by decide +kernel
theorem dX6_cheapest_9 : decode cX6_cheapest 9 = .ok (.iload_n 2, 1) := by decide +kernel
theorem dX6_cheapest_10 : decode cX6_cheapest 10 = .ok (.iconst 0, 1) := by decide +kernel
theorem dX6_cheapest_11 : decode cX6_cheapest 11 = .ok (.iconst 4, 1) := by decide +kernel
theorem dX6_cheapest_12 : decode cX6_cheapest 12 = .ok (.invokestatic 45, 3) := by decide +kernel
theorem dX6_cheapest_15 : decode cX6_cheapest 15 = .ok (.ifCond .ne 5, 3) := by decide +kernel
theorem dX6_cheapest_18 : decode cX6_cheapest 18 = .ok (.iconst (-1), 1) := by decide +kernel
theorem dX6_cheapest_19 : decode cX6_cheapest 19 = .ok (.ireturn, 1) := by decide +kernel
theorem dX6_cheapest_20 : decode cX6_cheapest 20 = .ok (.aload_n 0, 1) := by decide +kernel
theorem dX6_cheapest_21 : decode cX6_cheapest 21 = .ok (.getfield 37, 3) := by decide +kernel
theorem dX6_cheapest_24 : decode cX6_cheapest 24 = .ok (.aload_n 0, 1) := by decide +kernel
theorem dX6_cheapest_25 : decode cX6_cheapest 25 = .ok (.getfield 10, 3) := by decide +kernel
theorem dX6_cheapest_28 : decode cX6_cheapest 28 = .ok (.iload_n 1, 1) := by decide +kernel
theorem dX6_cheapest_29 : decode cX6_cheapest 29 = .ok (.invokevirtual 129, 3) := by decide +kernel
theorem dX6_cheapest_32 : decode cX6_cheapest 32 = .ok (.ifCond .ne 6, 3) := by decide +kernel
theorem dX6_cheapest_35 : decode cX6_cheapest 35 = .ok (.bipush (-9), 2) := by decide +kernel
theorem dX6_cheapest_37 : decode cX6_cheapest 37 = .ok (.ireturn, 1) := by decide +kernel
theorem dX6_cheapest_38 : decode cX6_cheapest 38 = .ok (.aload_n 0, 1) := by decide +kernel
theorem dX6_cheapest_39 : decode cX6_cheapest 39 = .ok (.getfield 37, 3) := by decide +kernel
theorem dX6_cheapest_42 : decode cX6_cheapest 42 = .ok (.getfield 133, 3) := by decide +kernel
theorem dX6_cheapest_45 : decode cX6_cheapest 45 = .ok (.astore_n 3, 1) := by decide +kernel
theorem dX6_cheapest_46 : decode cX6_cheapest 46 = .ok (.iload_n 2, 1) := by decide +kernel
theorem dX6_cheapest_47 : decode cX6_cheapest 47 = .ok (.iconst 2, 1) := by decide +kernel
theorem dX6_cheapest_48 : decode cX6_cheapest 48 = .ok (.if_icmp .lt 13, 3) := by decide +kernel
theorem dX6_cheapest_51 : decode cX6_cheapest 51 = .ok (.aload_n 3, 1) := by decide +kernel
theorem dX6_cheapest_52 : decode cX6_cheapest 52 = .ok (.getfield 137, 3) := by decide +kernel
theorem dX6_cheapest_55 : decode cX6_cheapest 55 = .ok (.ifCond .ne 6, 3) := by decide +kernel
theorem dX6_cheapest_58 : decode cX6_cheapest 58 = .ok (.bipush (-9), 2) := by decide +kernel
theorem dX6_cheapest_60 : decode cX6_cheapest 60 = .ok (.ireturn, 1) := by decide +kernel
theorem dX6_cheapest_61 : decode cX6_cheapest 61 = .ok (.iload_n 2, 1) := by decide +kernel
theorem dX6_cheapest_62 : decode cX6_cheapest 62 = .ok (.tableswitch 54 0 3 #[30, 35, 40, 47], 30) := by decide +kernel
theorem dX6_cheapest_92 : decode cX6_cheapest 92 = .ok (.aload_n 3, 1) := by decide +kernel
theorem dX6_cheapest_93 : decode cX6_cheapest 93 = .ok (.getfield 220, 3) := by decide +kernel
theorem dX6_cheapest_96 : decode cX6_cheapest 96 = .ok (.ireturn, 1) := by decide +kernel
theorem dX6_cheapest_97 : decode cX6_cheapest 97 = .ok (.aload_n 3, 1) := by decide +kernel
theorem dX6_cheapest_98 : decode cX6_cheapest 98 = .ok (.getfield 137, 3) := by decide +kernel
theorem dX6_cheapest_101 : decode cX6_cheapest 101 = .ok (.ireturn, 1) := by decide +kernel
theorem dX6_cheapest_102 : decode cX6_cheapest 102 = .ok (.aload_n 3, 1) := by decide +kernel
theorem dX6_cheapest_103 : decode cX6_cheapest 103 = .ok (.getfield 142, 3) := by decide +kernel
theorem dX6_cheapest_106 : decode cX6_cheapest 106 = .ok (.iconst 0, 1) := by decide +kernel
theorem dX6_cheapest_107 : decode cX6_cheapest 107 = .ok (.iaload, 1) := by decide +kernel
theorem dX6_cheapest_108 : decode cX6_cheapest 108 = .ok (.ireturn, 1) := by decide +kernel
theorem dX6_cheapest_109 : decode cX6_cheapest 109 = .ok (.aload_n 3, 1) := by decide +kernel
theorem dX6_cheapest_110 : decode cX6_cheapest 110 = .ok (.getfield 145, 3) := by decide +kernel
theorem dX6_cheapest_113 : decode cX6_cheapest 113 = .ok (.iconst 0, 1) := by decide +kernel
theorem dX6_cheapest_114 : decode cX6_cheapest 114 = .ok (.iaload, 1) := by decide +kernel
theorem dX6_cheapest_115 : decode cX6_cheapest 115 = .ok (.ireturn, 1) := by decide +kernel
theorem dX6_cheapest_116 : decode cX6_cheapest 116 = .ok (.aload_n 3, 1) := by decide +kernel
theorem dX6_cheapest_117 : decode cX6_cheapest 117 = .ok (.getfield 148, 3) := by decide +kernel
theorem dX6_cheapest_120 : decode cX6_cheapest 120 = .ok (.iconst 0, 1) := by decide +kernel
theorem dX6_cheapest_121 : decode cX6_cheapest 121 = .ok (.iaload, 1) := by decide +kernel
theorem dX6_cheapest_122 : decode cX6_cheapest 122 = .ok (.ireturn, 1) := by decide +kernel
theorem dX6_keep_0 : decode cX6_keep 0 = .ok (.iload_n 1, 1) := by decide +kernel
theorem dX6_keep_1 : decode cX6_keep 1 = .ok (.iconst 0, 1) := by decide +kernel
theorem dX6_keep_2 : decode cX6_keep 2 = .ok (.iconst 1, 1) := by decide +kernel
theorem dX6_keep_3 : decode cX6_keep 3 = .ok (.invokestatic 45, 3) := by decide +kernel
theorem dX6_keep_6 : decode cX6_keep 6 = .ok (.ifCond .ne 5, 3) := by decide +kernel
theorem dX6_keep_9 : decode cX6_keep 9 = .ok (.iconst (-1), 1) := by decide +kernel
theorem dX6_keep_10 : decode cX6_keep 10 = .ok (.ireturn, 1) := by decide +kernel
theorem dX6_keep_11 : decode cX6_keep 11 = .ok (.aload_n 0, 1) := by decide +kernel
theorem dX6_keep_12 : decode cX6_keep 12 = .ok (.getfield 23, 3) := by decide +kernel
theorem dX6_keep_15 : decode cX6_keep 15 = .ok (.iload_n 1, 1) := by decide +kernel
theorem dX6_keep_16 : decode cX6_keep 16 = .ok (.aaload, 1) := by decide +kernel
theorem dX6_keep_17 : decode cX6_keep 17 = .ok (.ifnonnull 16, 3) := by decide +kernel
theorem dX6_keep_20 : decode cX6_keep 20 = .ok (.aload_n 0, 1) := by decide +kernel
theorem dX6_keep_21 : decode cX6_keep 21 = .ok (.getfield 23, 3) := by decide +kernel
theorem dX6_keep_24 : decode cX6_keep 24 = .ok (.iload_n 1, 1) := by decide +kernel
theorem dX6_keep_25 : decode cX6_keep 25 = .ok (.new 7, 3) := by decide +kernel
theorem dX6_keep_28 : decode cX6_keep 28 = .ok (.dup, 1) := by decide +kernel
theorem dX6_keep_29 : decode cX6_keep 29 = .ok (.invokespecial 9, 3) := by decide +kernel
theorem dX6_keep_32 : decode cX6_keep 32 = .ok (.aastore, 1) := by decide +kernel
theorem dX6_keep_33 : decode cX6_keep 33 = .ok (.aload_n 0, 1) := by decide +kernel
theorem dX6_keep_34 : decode cX6_keep 34 = .ok (.getfield 23, 3) := by decide +kernel
theorem dX6_keep_37 : decode cX6_keep 37 = .ok (.iload_n 1, 1) := by decide +kernel
theorem dX6_keep_38 : decode cX6_keep 38 = .ok (.aaload, 1) := by decide +kernel
theorem dX6_keep_39 : decode cX6_keep 39 = .ok (.aload_n 0, 1) := by decide +kernel
theorem dX6_keep_40 : decode cX6_keep 40 = .ok (.getfield 10, 3) := by decide +kernel
theorem dX6_keep_43 : decode cX6_keep 43 = .ok (.invokevirtual 223, 3) := by decide +kernel
theorem dX6_keep_46 : decode cX6_keep 46 = .ok (.aload_n 0, 1) := by decide +kernel
theorem dX6_keep_47 : decode cX6_keep 47 = .ok (.getfield 10, 3) := by decide +kernel
theorem dX6_keep_50 : decode cX6_keep 50 = .ok (.invokevirtual 49, 3) := by decide +kernel
theorem dX6_keep_53 : decode cX6_keep 53 = .ok (.ireturn, 1) := by decide +kernel
theorem dX6_back_0 : decode cX6_back 0 = .ok (.iload_n 1, 1) := by decide +kernel
theorem dX6_back_1 : decode cX6_back 1 = .ok (.iconst 0, 1) := by decide +kernel
theorem dX6_back_2 : decode cX6_back 2 = .ok (.iconst 1, 1) := by decide +kernel
theorem dX6_back_3 : decode cX6_back 3 = .ok (.invokestatic 45, 3) := by decide +kernel
theorem dX6_back_6 : decode cX6_back 6 = .ok (.ifCond .ne 5, 3) := by decide +kernel
theorem dX6_back_9 : decode cX6_back 9 = .ok (.iconst (-1), 1) := by decide +kernel
theorem dX6_back_10 : decode cX6_back 10 = .ok (.ireturn, 1) := by decide +kernel
theorem dX6_back_11 : decode cX6_back 11 = .ok (.aload_n 0, 1) := by decide +kernel
theorem dX6_back_12 : decode cX6_back 12 = .ok (.getfield 23, 3) := by decide +kernel
theorem dX6_back_15 : decode cX6_back 15 = .ok (.iload_n 1, 1) := by decide +kernel
theorem dX6_back_16 : decode cX6_back 16 = .ok (.aaload, 1) := by decide +kernel
theorem dX6_back_17 : decode cX6_back 17 = .ok (.ifnonnull 6, 3) := by decide +kernel
theorem dX6_back_20 : decode cX6_back 20 = .ok (.bipush (-2), 2) := by decide +kernel
theorem dX6_back_22 : decode cX6_back 22 = .ok (.ireturn, 1) := by decide +kernel
theorem dX6_back_23 : decode cX6_back 23 = .ok (.aload_n 0, 1) := by decide +kernel
theorem dX6_back_24 : decode cX6_back 24 = .ok (.getfield 19, 3) := by decide +kernel
theorem dX6_back_27 : decode cX6_back 27 = .ok (.aload_n 0, 1) := by decide +kernel
theorem dX6_back_28 : decode cX6_back 28 = .ok (.getfield 10, 3) := by decide +kernel
theorem dX6_back_31 : decode cX6_back 31 = .ok (.invokevirtual 53, 3) := by decide +kernel
theorem dX6_back_34 : decode cX6_back 34 = .ok (.aload_n 0, 1) := by decide +kernel
theorem dX6_back_35 : decode cX6_back 35 = .ok (.getfield 10, 3) := by decide +kernel
theorem dX6_back_38 : decode cX6_back 38 = .ok (.aload_n 0, 1) := by decide +kernel
theorem dX6_back_39 : decode cX6_back 39 = .ok (.getfield 23, 3) := by decide +kernel
theorem dX6_back_42 : decode cX6_back 42 = .ok (.iload_n 1, 1) := by decide +kernel
theorem dX6_back_43 : decode cX6_back 43 = .ok (.aaload, 1) := by decide +kernel
theorem dX6_back_44 : decode cX6_back 44 = .ok (.invokevirtual 223, 3) := by decide +kernel
theorem dX6_back_47 : decode cX6_back 47 = .ok (.aload_n 0, 1) := by decide +kernel
theorem dX6_back_48 : decode cX6_back 48 = .ok (.getfield 10, 3) := by decide +kernel
theorem dX6_back_51 : decode cX6_back 51 = .ok (.invokevirtual 49, 3) := by decide +kernel
theorem dX6_back_54 : decode cX6_back 54 = .ok (.ireturn, 1) := by decide +kernel
theorem dX6_within_0 : decode cX6_within 0 = .ok (.iload_n 0, 1) := by decide +kernel
theorem dX6_within_1 : decode cX6_within 1 = .ok (.iload_n 1, 1) := by decide +kernel
theorem dX6_within_2 : decode cX6_within 2 = .ok (.if_icmp .lt 12, 3) := by decide +kernel
theorem dX6_within_5 : decode cX6_within 5 = .ok (.iload_n 0, 1) := by decide +kernel
theorem dX6_within_6 : decode cX6_within 6 = .ok (.iload_n 2, 1) := by decide +kernel
theorem dX6_within_7 : decode cX6_within 7 = .ok (.if_icmp .gt 7, 3) := by decide +kernel
theorem dX6_within_10 : decode cX6_within 10 = .ok (.iconst 1, 1) := by decide +kernel
theorem dX6_within_11 : decode cX6_within 11 = .ok (.goto 4, 3) := by decide +kernel
theorem dX6_within_14 : decode cX6_within 14 = .ok (.iconst 0, 1) := by decide +kernel
theorem dX6_within_15 : decode cX6_within 15 = .ok (.ireturn, 1) := by decide +kernel
theorem dX6_isSetting_0 : decode cX6_isSetting 0 = .ok (.iload_n 0, 1) := by decide +kernel
theorem dX6_isSetting_1 : decode cX6_isSetting 1 = .ok (.iconst 0, 1) := by decide +kernel
theorem dX6_isSetting_2 : decode cX6_isSetting 2 = .ok (.iconst 3, 1) := by decide +kernel
theorem dX6_isSetting_3 : decode cX6_isSetting 3 = .ok (.invokestatic 45, 3) := by decide +kernel
theorem dX6_isSetting_6 : decode cX6_isSetting 6 = .ok (.ireturn, 1) := by decide +kernel
theorem dX6_leastOf_0 : decode cX6_leastOf 0 = .ok (.iload_n 0, 1) := by decide +kernel
theorem dX6_leastOf_1 : decode cX6_leastOf 1 = .ok (.lookupswitch 32 #[(1, 27), (2, 30)], 27) := by decide +kernel
theorem dX6_leastOf_28 : decode cX6_leastOf 28 = .ok (.bipush 10, 2) := by decide +kernel
theorem dX6_leastOf_30 : decode cX6_leastOf 30 = .ok (.ireturn, 1) := by decide +kernel
theorem dX6_leastOf_31 : decode cX6_leastOf 31 = .ok (.iconst 1, 1) := by decide +kernel
theorem dX6_leastOf_32 : decode cX6_leastOf 32 = .ok (.ireturn, 1) := by decide +kernel
theorem dX6_leastOf_33 : decode cX6_leastOf 33 = .ok (.iconst 0, 1) := by decide +kernel
theorem dX6_leastOf_34 : decode cX6_leastOf 34 = .ok (.ireturn, 1) := by decide +kernel
theorem dX6_greatestOf_0 : decode cX6_greatestOf 0 = .ok (.iload_n 0, 1) := by decide +kernel
theorem dX6_greatestOf_1 : decode cX6_greatestOf 1 = .ok (.tableswitch 36 0 2 #[27, 29, 33], 27) := by decide +kernel
theorem dX6_greatestOf_28 : decode cX6_greatestOf 28 = .ok (.iconst 3, 1) := by decide +kernel
theorem dX6_greatestOf_29 : decode cX6_greatestOf 29 = .ok (.ireturn, 1) := by decide +kernel
theorem dX6_greatestOf_30 : decode cX6_greatestOf 30 = .ok (.sipush 600, 3) := by decide +kernel
theorem dX6_greatestOf_33 : decode cX6_greatestOf 33 = .ok (.ireturn, 1) := by decide +kernel
theorem dX6_greatestOf_34 : decode cX6_greatestOf 34 = .ok (.bipush 20, 2) := by decide +kernel
theorem dX6_greatestOf_36 : decode cX6_greatestOf 36 = .ok (.ireturn, 1) := by decide +kernel
theorem dX6_greatestOf_37 : decode cX6_greatestOf 37 = .ok (.bipush 30, 2) := by decide +kernel
theorem dX6_greatestOf_39 : decode cX6_greatestOf 39 = .ok (.ireturn, 1) := by decide +kernel
theorem dX6_wagonOf_0 : decode cX6_wagonOf 0 = .ok (.iload_n 0, 1) := by decide +kernel
theorem dX6_wagonOf_1 : decode cX6_wagonOf 1 = .ok (.bipush 6, 2) := by decide +kernel
theorem dX6_wagonOf_3 : decode cX6_wagonOf 3 = .ok (.imul, 1) := by decide +kernel
theorem dX6_wagonOf_4 : decode cX6_wagonOf 4 = .ok (.iload_n 1, 1) := by decide +kernel
theorem dX6_wagonOf_5 : decode cX6_wagonOf 5 = .ok (.iadd, 1) := by decide +kernel
theorem dX6_wagonOf_6 : decode cX6_wagonOf 6 = .ok (.iconst 3, 1) := by decide +kernel
theorem dX6_wagonOf_7 : decode cX6_wagonOf 7 = .ok (.imul, 1) := by decide +kernel
theorem dX6_wagonOf_8 : decode cX6_wagonOf 8 = .ok (.iload_n 2, 1) := by decide +kernel
theorem dX6_wagonOf_9 : decode cX6_wagonOf 9 = .ok (.iadd, 1) := by decide +kernel
theorem dX6_wagonOf_10 : decode cX6_wagonOf 10 = .ok (.ireturn, 1) := by decide +kernel
theorem dX6_numberOf_0 : decode cX6_numberOf 0 = .ok (.iload_n 0, 1) := by decide +kernel
theorem dX6_numberOf_1 : decode cX6_numberOf 1 = .ok (.bipush 18, 2) := by decide +kernel
theorem dX6_numberOf_3 : decode cX6_numberOf 3 = .ok (.idiv, 1) := by decide +kernel
theorem dX6_numberOf_4 : decode cX6_numberOf 4 = .ok (.ireturn, 1) := by decide +kernel
theorem dX6_destinationOf_0 : decode cX6_destinationOf 0 = .ok (.iload_n 0, 1) := by decide +kernel
theorem dX6_destinationOf_1 : decode cX6_destinationOf 1 = .ok (.iconst 3, 1) := by decide +kernel
theorem dX6_destinationOf_2 : decode cX6_destinationOf 2 = .ok (.idiv, 1) := by decide +kernel
theorem dX6_destinationOf_3 : decode cX6_destinationOf 3 = .ok (.bipush 6, 2) := by decide +kernel
theorem dX6_destinationOf_5 : decode cX6_destinationOf 5 = .ok (.irem, 1) := by decide +kernel
theorem dX6_destinationOf_6 : decode cX6_destinationOf 6 = .ok (.ireturn, 1) := by decide +kernel
theorem dX6_kindOf_0 : decode cX6_kindOf 0 = .ok (.iload_n 0, 1) := by decide +kernel
theorem dX6_kindOf_1 : decode cX6_kindOf 1 = .ok (.iconst 3, 1) := by decide +kernel
theorem dX6_kindOf_2 : decode cX6_kindOf 2 = .ok (.irem, 1) := by decide +kernel
theorem dX6_kindOf_3 : decode cX6_kindOf 3 = .ok (.ireturn, 1) := by decide +kernel
theorem dX7_init_0 : decode cX7_init 0 = .ok (.aload_n 0, 1) := by decide +kernel
theorem dX7_init_1 : decode cX7_init 1 = .ok (.invokespecial 1, 3) := by decide +kernel
theorem dX7_init_4 : decode cX7_init 4 = .ok (.aload_n 0, 1) := by decide +kernel
theorem dX7_init_5 : decode cX7_init 5 = .ok (.sipush 131, 3) := by decide +kernel
theorem dX7_init_8 : decode cX7_init 8 = .ok (.newarray .int, 2) := by decide +kernel
theorem dX7_init_10 : decode cX7_init 10 = .ok (.putfield 7, 3) := by decide +kernel
theorem dX7_init_13 : decode cX7_init 13 = .ok (.aload_n 0, 1) := by decide +kernel
theorem dX7_init_14 : decode cX7_init 14 = .ok (.sipush 1048, 3) := by decide +kernel
theorem dX7_init_17 : decode cX7_init 17 = .ok (.newarray .int, 2) := by decide +kernel
theorem dX7_init_19 : decode cX7_init 19 = .ok (.putfield 13, 3) := by decide +kernel
theorem dX7_init_22 : decode cX7_init 22 = .ok (.aload_n 0, 1) := by decide +kernel
theorem dX7_init_23 : decode cX7_init 23 = .ok (.sipush 262, 3) := by decide +kernel
theorem dX7_init_26 : decode cX7_init 26 = .ok (.newarray .int, 2) := by decide +kernel
theorem dX7_init_28 : decode cX7_init 28 = .ok (.putfield 16, 3) := by decide +kernel
theorem dX7_init_31 : decode cX7_init 31 = .ok (.aload_n 0, 1) := by decide +kernel
theorem dX7_init_32 : decode cX7_init 32 = .ok (.bipush 60, 2) := by decide +kernel
theorem dX7_init_34 : decode cX7_init 34 = .ok (.newarray .int, 2) := by decide +kernel
theorem dX7_init_36 : decode cX7_init 36 = .ok (.putfield 19, 3) := by decide +kernel
theorem dX7_init_39 : decode cX7_init 39 = .ok (.aload_n 0, 1) := by decide +kernel
theorem dX7_init_40 : decode cX7_init 40 = .ok (.bipush (-9), 2) := by decide +kernel
theorem dX7_init_42 : decode cX7_init 42 = .ok (.putfield 22, 3) := by decide +kernel
theorem dX7_init_45 : decode cX7_init 45 = .ok (.aload_n 0, 1) := by decide +kernel
theorem dX7_init_46 : decode cX7_init 46 = .ok (.bipush (-9), 2) := by decide +kernel
theorem dX7_init_48 : decode cX7_init 48 = .ok (.putfield 26, 3) := by decide +kernel
theorem dX7_init_51 : decode cX7_init 51 = .ok (.aload_n 0, 1) := by decide +kernel
theorem dX7_init_52 : decode cX7_init 52 = .ok (.bipush (-9), 2) := by decide +kernel
theorem dX7_init_54 : decode cX7_init 54 = .ok (.putfield 29, 3) := by decide +kernel
theorem dX7_init_57 : decode cX7_init 57 = .ok (.aload_n 0, 1) := by decide +kernel
theorem dX7_init_58 : decode cX7_init 58 = .ok (.bipush 24, 2) := by decide +kernel
theorem dX7_init_60 : decode cX7_init 60 = .ok (.newarray .int, 2) := by decide +kernel
theorem dX7_init_62 : decode cX7_init 62 = .ok (.putfield 32, 3) := by decide +kernel
theorem dX7_init_65 : decode cX7_init 65 = .ok (.aload_n 0, 1) := by decide +kernel
theorem dX7_init_66 : decode cX7_init 66 = .ok (.bipush 8, 2) := by decide +kernel
theorem dX7_init_68 : decode cX7_init 68 = .ok (.newarray .int, 2) := by decide +kernel
theorem dX7_init_70 : decode cX7_init 70 = .ok (.putfield 35, 3) := by decide +kernel
theorem dX7_init_73 : decode cX7_init 73 = .ok (.aload_n 0, 1) := by decide +kernel
theorem dX7_init_74 : decode cX7_init 74 = .ok (.bipush 8, 2) := by decide +kernel
theorem dX7_init_76 : decode cX7_init 76 = .ok (.newarray .int, 2) := by decide +kernel
theorem dX7_init_78 : decode cX7_init 78 = .ok (.putfield 38, 3) := by decide +kernel
theorem dX7_init_81 : decode cX7_init 81 = .ok (.aload_n 0, 1) := by decide +kernel
theorem dX7_init_82 : decode cX7_init 82 = .ok (.bipush 10, 2) := by decide +kernel
theorem dX7_init_84 : decode cX7_init 84 = .ok (.newarray .int, 2) := by decide +kernel
theorem dX7_init_86 : decode cX7_init 86 = .ok (.putfield 41, 3) := by decide +kernel
theorem dX7_init_89 : decode cX7_init 89 = .ok (.aload_n 0, 1) := by decide +kernel
theorem dX7_init_90 : decode cX7_init 90 = .ok (.sipush 524, 3) := by decide +kernel
theorem dX7_init_93 : decode cX7_init 93 = .ok (.newarray .int, 2) := by decide +kernel
theorem dX7_init_95 : decode cX7_init 95 = .ok (.putfield 44, 3) := by decide +kernel
theorem dX7_init_98 : decode cX7_init 98 = .ok (.aload_n 0, 1) := by decide +kernel
theorem dX7_init_99 : decode cX7_init 99 = .ok (.bipush 9, 2) := by decide +kernel
theorem dX7_init_101 : decode cX7_init 101 = .ok (.newarray .int, 2) := by decide +kernel
theorem dX7_init_103 : decode cX7_init 103 = .ok (.putfield 47, 3) := by decide +kernel
theorem dX7_init_106 : decode cX7_init 106 = .ok (.aload_n 0, 1) := by decide +kernel
theorem dX7_init_107 : decode cX7_init 107 = .ok (.bipush 9, 2) := by decide +kernel
theorem dX7_init_109 : decode cX7_init 109 = .ok (.newarray .int, 2) := by decide +kernel
theorem dX7_init_111 : decode cX7_init 111 = .ok (.putfield 50, 3) := by decide +kernel
theorem dX7_init_114 : decode cX7_init 114 = .ok (.aload_n 0, 1) := by decide +kernel
theorem dX7_init_115 : decode cX7_init 115 = .ok (.iconst 4, 1) := by decide +kernel
theorem dX7_init_116 : decode cX7_init 116 = .ok (.newarray .int, 2) := by decide +kernel
theorem dX7_init_118 : decode cX7_init 118 = .ok (.putfield 53, 3) := by decide +kernel
theorem dX7_init_121 : decode cX7_init 121 = .ok (.aload_n 0, 1) := by decide +kernel
theorem dX7_init_122 : decode cX7_init 122 = .ok (.getfield 7, 3) := by decide +kernel
theorem dX7_init_125 : decode cX7_init 125 = .ok (.iconst 0, 1) := by decide +kernel
theorem dX7_init_126 : decode cX7_init 126 = .ok (.iconst 1, 1) := by decide +kernel
theorem dX7_init_127 : decode cX7_init 127 = .ok (.iastore, 1) := by decide +kernel
theorem dX7_init_128 : decode cX7_init 128 = .ok (.aload_n 0, 1) := by decide +kernel
theorem dX7_init_129 : decode cX7_init 129 = .ok (.getfield 7, 3) := by decide +kernel
theorem dX7_init_132 : decode cX7_init 132 = .ok (.iconst 1, 1) := by decide +kernel
theorem dX7_init_133 : decode cX7_init 133 = .ok (.bipush 120, 2) := by decide +kernel
theorem dX7_init_135 : decode cX7_init 135 = .ok (.iastore, 1) := by decide +kernel
theorem dX7_init_136 : decode cX7_init 136 = .ok (.aload_n 0, 1) := by decide +kernel
theorem dX7_init_137 : decode cX7_init 137 = .ok (.getfield 7, 3) := by decide +kernel
theorem dX7_init_140 : decode cX7_init 140 = .ok (.iconst 2, 1) := by decide +kernel
theorem dX7_init_141 : decode cX7_init 141 = .ok (.iconst 4, 1) := by decide +kernel
theorem dX7_init_142 : decode cX7_init 142 = .ok (.iastore, 1) := by decide +kernel
theorem dX7_init_143 : decode cX7_init 143 = .ok (.aload_n 0, 1) := by decide +kernel
theorem dX7_init_144 : decode cX7_init 144 = .ok (.getfield 7, 3) := by decide +kernel
theorem dX7_init_147 : decode cX7_init 147 = .ok (.iconst 3, 1) := by decide +kernel
theorem dX7_init_148 : decode cX7_init 148 = .ok (.iconst 5, 1) := by decide +kernel
theorem dX7_init_149 : decode cX7_init 149 = .ok (.iastore, 1) := by decide +kernel
theorem dX7_init_150 : decode cX7_init 150 = .ok (.aload_n 0, 1) := by decide +kernel
theorem dX7_init_151 : decode cX7_init 151 = .ok (.getfield 7, 3) := by decide +kernel
theorem dX7_init_154 : decode cX7_init 154 = .ok (.iconst 4, 1) := by decide +kernel
theorem dX7_init_155 : decode cX7_init 155 = .ok (.iconst 3, 1) := by decide +kernel
theorem dX7_init_156 : decode cX7_init 156 = .ok (.iastore, 1) := by decide +kernel
theorem dX7_init_157 : decode cX7_init 157 = .ok (.aload_n 0, 1) := by decide +kernel
theorem dX7_init_158 : decode cX7_init 158 = .ok (.getfield 7, 3) := by decide +kernel
theorem dX7_init_161 : decode cX7_init 161 = .ok (.iconst 5, 1) := by decide +kernel
theorem dX7_init_162 : decode cX7_init 162 = .ok (.bipush 6, 2) := by decide +kernel
theorem dX7_init_164 : decode cX7_init 164 = .ok (.iastore, 1) := by decide +kernel
theorem dX7_init_165 : decode cX7_init 165 = .ok (.return_, 1) := by decide +kernel
theorem dX7_isIn_0 : decode cX7_isIn 0 = .ok (.iload_n 0, 1) := by decide +kernel
theorem dX7_isIn_1 : decode cX7_isIn 1 = .ok (.iload_n 1, 1) := by decide +kernel
theorem dX7_isIn_2 : decode cX7_isIn 2 = .ok (.if_icmp .lt 12, 3) := by decide +kernel
theorem dX7_isIn_5 : decode cX7_isIn 5 = .ok (.iload_n 0, 1) := by decide +kernel
theorem dX7_isIn_6 : decode cX7_isIn 6 = .ok (.iload_n 2, 1) := by decide +kernel
theorem dX7_isIn_7 : decode cX7_isIn 7 = .ok (.if_icmp .gt 7, 3) := by decide +kernel
theorem dX7_isIn_10 : decode cX7_isIn 10 = .ok (.iconst 1, 1) := by decide +kernel
theorem dX7_isIn_11 : decode cX7_isIn 11 = .ok (.goto 4, 3) := by decide +kernel
theorem dX7_isIn_14 : decode cX7_isIn 14 = .ok (.iconst 0, 1) := by decide +kernel
theorem dX7_isIn_15 : decode cX7_isIn 15 = .ok (.ireturn, 1) := by decide +kernel
theorem dX7_remember_0 : decode cX7_remember 0 = .ok (.aload_n 0, 1) := by decide +kernel
theorem dX7_remember_1 : decode cX7_remember 1 = .ok (.getfield 56, 3) := by decide +kernel
theorem dX7_remember_4 : decode cX7_remember 4 = .ok (.bipush 8, 2) := by decide +kernel
theorem dX7_remember_6 : decode cX7_remember 6 = .ok (.if_icmp .ne 44, 3) := by decide +kernel
theorem dX7_remember_9 : decode cX7_remember 9 = .ok (.iconst 0, 1) := by decide +kernel
theorem dX7_remember_10 : decode cX7_remember 10 = .ok (.istore_n 1, 1) := by decide +kernel
theorem dX7_remember_11 : decode cX7_remember 11 = .ok (.iload_n 1, 1) := by decide +kernel
theorem dX7_remember_12 : decode cX7_remember 12 = .ok (.sipush 917, 3) := by decide +kernel
theorem dX7_remember_15 : decode cX7_remember 15 = .ok (.if_icmp .ge 25, 3) := by decide +kernel
theorem dX7_remember_18 : decode cX7_remember 18 = .ok (.aload_n 0, 1) := by decide +kernel
theorem dX7_remember_19 : decode cX7_remember 19 = .ok (.getfield 13, 3) := by decide +kernel
theorem dX7_remember_22 : decode cX7_remember 22 = .ok (.iload_n 1, 1) := by decide +kernel
theorem dX7_remember_23 : decode cX7_remember 23 = .ok (.aload_n 0, 1) := by decide +kernel
theorem dX7_remember_24 : decode cX7_remember 24 = .ok (.getfield 13, 3) := by decide +kernel
theorem dX7_remember_27 : decode cX7_remember 27 = .ok (.iload_n 1, 1) := by decide +kernel
theorem dX7_remember_28 : decode cX7_remember 28 = .ok (.sipush 131, 3) := by decide +kernel
theorem dX7_remember_31 : decode cX7_remember 31 = .ok (.iadd, 1) := by decide +kernel
theorem dX7_remember_32 : decode cX7_remember 32 = .ok (.iaload, 1) := by decide +kernel
theorem dX7_remember_33 : decode cX7_remember 33 = .ok (.iastore, 1) := by decide +kernel
theorem dX7_remember_34 : decode cX7_remember 34 = .ok (.iinc 1 1, 3) := by decide +kernel
theorem dX7_remember_37 : decode cX7_remember 37 = .ok (.goto (-26), 3) := by decide +kernel
theorem dX7_remember_40 : decode cX7_remember 40 = .ok (.aload_n 0, 1) := by decide +kernel
theorem dX7_remember_41 : decode cX7_remember 41 = .ok (.dup, 1) := by decide +kernel
theorem dX7_remember_42 : decode cX7_remember 42 = .ok (.getfield 56, 3) := by decide +kernel
theorem dX7_remember_45 : decode cX7_remember 45 = .ok (.iconst 1, 1) := by decide +kernel
theorem dX7_remember_46 : decode cX7_remember 46 = .ok (.isub, 1) := by decide +kernel
theorem dX7_remember_47 : decode cX7_remember 47 = .ok (.putfield 56, 3) := by decide +kernel
theorem dX7_remember_50 : decode cX7_remember 50 = .ok (.iconst 0, 1) := by decide +kernel
theorem dX7_remember_51 : decode cX7_remember 51 = .ok (.istore_n 1, 1) := by decide +kernel
theorem dX7_remember_52 : decode cX7_remember 52 = .ok (.iload_n 1, 1) := by decide +kernel
theorem dX7_remember_53 : decode cX7_remember 53 = .ok (.sipush 131, 3) := by decide +kernel
theorem dX7_remember_56 : decode cX7_remember 56 = .ok (.if_icmp .ge 30, 3) := by decide +kernel
theorem dX7_remember_59 : decode cX7_remember 59 = .ok (.aload_n 0, 1) := by decide +kernel
theorem dX7_remember_60 : decode cX7_remember 60 = .ok (.getfield 13, 3) := by decide +kernel
theorem dX7_remember_63 : decode cX7_remember 63 = .ok (.sipush 131, 3) := by decide +kernel
theorem dX7_remember_66 : decode cX7_remember 66 = .ok (.aload_n 0, 1) := by decide +kernel
theorem dX7_remember_67 : decode cX7_remember 67 = .ok (.getfield 56, 3) := by decide +kernel
theorem dX7_remember_70 : decode cX7_remember 70 = .ok (.imul, 1) := by decide +kernel
theorem dX7_remember_71 : decode cX7_remember 71 = .ok (.iload_n 1, 1) := by decide +kernel
theorem dX7_remember_72 : decode cX7_remember 72 = .ok (.iadd, 1) := by decide +kernel
theorem dX7_remember_73 : decode cX7_remember 73 = .ok (.aload_n 0, 1) := by decide +kernel
theorem dX7_remember_74 : decode cX7_remember 74 = .ok (.getfield 7, 3) := by decide +kernel
theorem dX7_remember_77 : decode cX7_remember 77 = .ok (.iload_n 1, 1) := by decide +kernel
theorem dX7_remember_78 : decode cX7_remember 78 = .ok (.iaload, 1) := by decide +kernel
theorem dX7_remember_79 : decode cX7_remember 79 = .ok (.iastore, 1) := by decide +kernel
theorem dX7_remember_80 : decode cX7_remember 80 = .ok (.iinc 1 1, 3) := by decide +kernel
theorem dX7_remember_83 : decode cX7_remember 83 = .ok (.goto (-31), 3) := by decide +kernel
theorem dX7_remember_86 : decode cX7_remember 86 = .ok (.aload_n 0, 1) := by decide +kernel
theorem dX7_remember_87 : decode cX7_remember 87 = .ok (.dup, 1) := by decide +kernel
theorem dX7_remember_88 : decode cX7_remember 88 = .ok (.getfield 56, 3) := by decide +kernel
theorem dX7_remember_91 : decode cX7_remember 91 = .ok (.iconst 1, 1) := by decide +kernel
theorem dX7_remember_92 : decode cX7_remember 92 = .ok (.iadd, 1) := by decide +kernel
theorem dX7_remember_93 : decode cX7_remember 93 = .ok (.putfield 56, 3) := by decide +kernel
theorem dX7_remember_96 : decode cX7_remember 96 = .ok (.return_, 1) := by decide +kernel
theorem dX7_isTrack_0 : decode cX7_isTrack 0 = .ok (.iload_n 1, 1) := by decide +kernel
theorem dX7_isTrack_1 : decode cX7_isTrack 1 = .ok (.iconst 0, 1) := by decide +kernel
theorem dX7_isTrack_2 : decode cX7_isTrack 2 = .ok (.aload_n 0, 1) := by decide +kernel
theorem dX7_isTrack_3 : decode cX7_isTrack 3 = .ok (.getfield 7, 3) := by decide +kernel
theorem dX7_isTrack_6 : decode cX7_isTrack 6 = .ok (.iconst 4, 1) := by decide +kernel
theorem dX7_isTrack_7 : decode cX7_isTrack 7 = .ok (.iaload, 1) := by decide +kernel
theorem dX7_isTrack_8 : decode cX7_isTrack 8 = .ok (.iconst 1, 1) := by decide +kernel
theorem dX7_isTrack_9 : decode cX7_isTrack 9 = .ok (.isub, 1) := by decide +kernel
theorem dX7_isTrack_10 : decode cX7_isTrack 10 = .ok (.invokestatic 59, 3) := by decide +kernel
theorem dX7_isTrack_13 : decode cX7_isTrack 13 = .ok (.ireturn, 1) := by decide +kernel
theorem dX7_of_0 : decode cX7_of 0 = .ok (.aload_n 0, 1) := by decide +kernel
theorem dX7_of_1 : decode cX7_of 1 = .ok (.getfield 7, 3) := by decide +kernel
theorem dX7_of_4 : decode cX7_of 4 = .ok (.bipush 23, 2) := by decide +kernel
theorem dX7_of_6 : decode cX7_of 6 = .ok (.bipush 27, 2) := by decide +kernel
theorem dX7_of_8 : decode cX7_of 8 = .ok (.iload_n 1, 1) := by decide +kernel
theorem dX7_of_9 : decode cX7_of 9 = .ok (.imul, 1) := by decide +kernel
theorem dX7_of_10 : decode cX7_of 10 = .ok (.iadd, 1) := by decide +kernel
theorem dX7_of_11 : decode cX7_of 11 = .ok (.iload_n 2, 1) := by decide +kernel
theorem dX7_of_12 : decode cX7_of 12 = .ok (.iadd, 1) := by decide +kernel
theorem dX7_of_13 : decode cX7_of 13 = .ok (.iaload, 1) := by decide +kernel
theorem dX7_of_14 : decode cX7_of 14 = .ok (.ireturn, 1) := by decide +kernel
theorem dX7_put_0 : decode cX7_put 0 = .ok (.aload_n 0, 1) := by decide +kernel
theorem dX7_put_1 : decode cX7_put 1 = .ok (.getfield 7, 3) := by decide +kernel
theorem dX7_put_4 : decode cX7_put 4 = .ok (.bipush 23, 2) := by decide +kernel
theorem dX7_put_6 : decode cX7_put 6 = .ok (.bipush 27, 2) := by decide +kernel
theorem dX7_put_8 : decode cX7_put 8 = .ok (.iload_n 1, 1) := by decide +kernel
theorem dX7_put_9 : decode cX7_put 9 = .ok (.imul, 1) := by decide +kernel
theorem dX7_put_10 : decode cX7_put 10 = .ok (.iadd, 1) := by decide +kernel
theorem dX7_put_11 : decode cX7_put 11 = .ok (.iload_n 2, 1) := by decide +kernel
theorem dX7_put_12 : decode cX7_put 12 = .ok (.iadd, 1) := by decide +kernel
theorem dX7_put_13 : decode cX7_put 13 = .ok (.iload_n 3, 1) := by decide +kernel
theorem dX7_put_14 : decode cX7_put 14 = .ok (.iastore, 1) := by decide +kernel
theorem dX7_put_15 : decode cX7_put 15 = .ok (.return_, 1) := by decide +kernel
theorem dX7_destination_0 : decode cX7_destination 0 = .ok (.aload_n 0, 1) := by decide +kernel
theorem dX7_destination_1 : decode cX7_destination 1 = .ok (.iload_n 1, 1) := by decide +kernel
theorem dX7_destination_2 : decode cX7_destination 2 = .ok (.iconst 3, 1) := by decide +kernel
theorem dX7_destination_3 : decode cX7_destination 3 = .ok (.iconst 3, 1) := by decide +kernel
theorem dX7_destination_4 : decode cX7_destination 4 = .ok (.iload_n 2, 1) := by decide +kernel
theorem dX7_destination_5 : decode cX7_destination 5 = .ok (.imul, 1) := by decide +kernel
theorem dX7_destination_6 : decode cX7_destination 6 = .ok (.iadd, 1) := by decide +kernel
theorem dX7_destination_7 : decode cX7_destination 7 = .ok (.iconst 1, 1) := by decide +kernel
theorem dX7_destination_8 : decode cX7_destination 8 = .ok (.iadd, 1) := by decide +kernel
theorem dX7_destination_9 : decode cX7_destination 9 = .ok (.invokevirtual 63, 3) := by decide +kernel
theorem dX7_destination_12 : decode cX7_destination 12 = .ok (.ireturn, 1) := by decide +kernel
theorem dX7_kindAt_0 : decode cX7_kindAt 0 = .ok (.aload_n 0, 1) := by decide +kernel
theorem dX7_kindAt_1 : decode cX7_kindAt 1 = .ok (.iload_n 1, 1) := by decide +kernel
theorem dX7_kindAt_2 : decode cX7_kindAt 2 = .ok (.iconst 3, 1) := by decide +kernel
theorem dX7_kindAt_3 : decode cX7_kindAt 3 = .ok (.iconst 3, 1) := by decide +kernel
theorem dX7_kindAt_4 : decode cX7_kindAt 4 = .ok (.iload_n 2, 1) := by decide +kernel
theorem dX7_kindAt_5 : decode cX7_kindAt 5 = .ok (.imul, 1) := by decide +kernel
theorem dX7_kindAt_6 : decode cX7_kindAt 6 = .ok (.iadd, 1) := by decide +kernel
theorem dX7_kindAt_7 : decode cX7_kindAt 7 = .ok (.iconst 2, 1) := by decide +kernel
theorem dX7_kindAt_8 : decode cX7_kindAt 8 = .ok (.iadd, 1) := by decide +kernel
theorem dX7_kindAt_9 : decode cX7_kindAt 9 = .ok (.invokevirtual 63, 3) := by decide +kernel
theorem dX7_kindAt_12 : decode cX7_kindAt 12 = .ok (.ireturn, 1) := by decide +kernel
theorem dX7_wagons_0 : decode cX7_wagons 0 = .ok (.iconst 0, 1) := by decide +kernel
theorem dX7_wagons_1 : decode cX7_wagons 1 = .ok (.istore_n 1, 1) := by decide +kernel
theorem dX7_wagons_2 : decode cX7_wagons 2 = .ok (.iconst 0, 1) := by decide +kernel
theorem dX7_wagons_3 : decode cX7_wagons 3 = .ok (.istore_n 2, 1) := by decide +kernel
end
section
theorem dX7_wagons_4 : decode cX7_wagons 4 = .ok (.iload_n 2, 1) := by decide +kernel
theorem dX7_wagons_5 : decode cX7_wagons 5 = .ok (.aload_n 0, 1) := by decide +kernel
theorem dX7_wagons_6 : decode cX7_wagons 6 = .ok (.getfield 7, 3) := by decide +kernel
theorem dX7_wagons_9 : decode cX7_wagons 9 = .ok (.iconst 4, 1) := by decide +kernel
theorem dX7_wagons_10 : decode cX7_wagons 10 = .ok (.iaload, 1) := by decide +kernel
theorem dX7_wagons_11 : decode cX7_wagons 11 = .ok (.if_icmp .ge 18, 3) := by decide +kernel
theorem dX7_wagons_14 : decode cX7_wagons 14 = .ok (.iload_n 1, 1) := by decide +kernel
theorem dX7_wagons_15 : decode cX7_wagons 15 = .ok (.aload_n 0, 1) := by decide +kernel
theorem dX7_wagons_16 : decode cX7_wagons 16 = .ok (.iload_n 2, 1) := by decide +kernel
theorem dX7_wagons_17 : decode cX7_wagons 17 = .ok (.iconst 0, 1) := by decide +kernel
theorem dX7_wagons_18 : decode cX7_wagons 18 = .ok (.invokevirtual 63, 3) := by decide +kernel
theorem dX7_wagons_21 : decode cX7_wagons 21 = .ok (.iadd, 1) := by decide +kernel
theorem dX7_wagons_22 : decode cX7_wagons 22 = .ok (.istore_n 1, 1) := by decide +kernel
theorem dX7_wagons_23 : decode cX7_wagons 23 = .ok (.iinc 2 1, 3) := by decide +kernel
theorem dX7_wagons_26 : decode cX7_wagons 26 = .ok (.goto (-22), 3) := by decide +kernel
theorem dX7_wagons_29 : decode cX7_wagons 29 = .ok (.iload_n 1, 1) := by decide +kernel
theorem dX7_wagons_30 : decode cX7_wagons 30 = .ok (.ireturn, 1) := by decide +kernel
theorem dX7_beginRow_0 : decode cX7_beginRow 0 = .ok (.aload_n 0, 1) := by decide +kernel
theorem dX7_beginRow_1 : decode cX7_beginRow 1 = .ok (.iconst 0, 1) := by decide +kernel
theorem dX7_beginRow_2 : decode cX7_beginRow 2 = .ok (.putfield 67, 3) := by decide +kernel
theorem dX7_beginRow_5 : decode cX7_beginRow 5 = .ok (.iconst 0, 1) := by decide +kernel
theorem dX7_beginRow_6 : decode cX7_beginRow 6 = .ok (.istore_n 3, 1) := by decide +kernel
theorem dX7_beginRow_7 : decode cX7_beginRow 7 = .ok (.iload_n 3, 1) := by decide +kernel
theorem dX7_beginRow_8 : decode cX7_beginRow 8 = .ok (.iload_n 2, 1) := by decide +kernel
theorem dX7_beginRow_9 : decode cX7_beginRow 9 = .ok (.if_icmp .ge 19, 3) := by decide +kernel
theorem dX7_beginRow_12 : decode cX7_beginRow 12 = .ok (.aload_n 0, 1) := by decide +kernel
theorem dX7_beginRow_13 : decode cX7_beginRow 13 = .ok (.aload_n 0, 1) := by decide +kernel
theorem dX7_beginRow_14 : decode cX7_beginRow 14 = .ok (.iload_n 1, 1) := by decide +kernel
theorem dX7_beginRow_15 : decode cX7_beginRow 15 = .ok (.iload_n 3, 1) := by decide +kernel
theorem dX7_beginRow_16 : decode cX7_beginRow 16 = .ok (.invokevirtual 70, 3) := by decide +kernel
theorem dX7_beginRow_19 : decode cX7_beginRow 19 = .ok (.invokevirtual 73, 3) := by decide +kernel
theorem dX7_beginRow_22 : decode cX7_beginRow 22 = .ok (.iinc 3 1, 3) := by decide +kernel
theorem dX7_beginRow_25 : decode cX7_beginRow 25 = .ok (.goto (-18), 3) := by decide +kernel
theorem dX7_beginRow_28 : decode cX7_beginRow 28 = .ok (.return_, 1) := by decide +kernel
theorem dX7_appendKind_0 : decode cX7_appendKind 0 = .ok (.aload_n 0, 1) := by decide +kernel
theorem dX7_appendKind_1 : decode cX7_appendKind 1 = .ok (.getfield 32, 3) := by decide +kernel
theorem dX7_appendKind_4 : decode cX7_appendKind 4 = .ok (.aload_n 0, 1) := by decide +kernel
theorem dX7_appendKind_5 : decode cX7_appendKind 5 = .ok (.getfield 67, 3) := by decide +kernel
theorem dX7_appendKind_8 : decode cX7_appendKind 8 = .ok (.iload_n 1, 1) := by decide +kernel
theorem dX7_appendKind_9 : decode cX7_appendKind 9 = .ok (.iastore, 1) := by decide +kernel
theorem dX7_appendKind_10 : decode cX7_appendKind 10 = .ok (.aload_n 0, 1) := by decide +kernel
theorem dX7_appendKind_11 : decode cX7_appendKind 11 = .ok (.dup, 1) := by decide +kernel
theorem dX7_appendKind_12 : decode cX7_appendKind 12 = .ok (.getfield 67, 3) := by decide +kernel
theorem dX7_appendKind_15 : decode cX7_appendKind 15 = .ok (.iconst 1, 1) := by decide +kernel
theorem dX7_appendKind_16 : decode cX7_appendKind 16 = .ok (.iadd, 1) := by decide +kernel
theorem dX7_appendKind_17 : decode cX7_appendKind 17 = .ok (.putfield 67, 3) := by decide +kernel
theorem dX7_appendKind_20 : decode cX7_appendKind 20 = .ok (.return_, 1) := by decide +kernel
theorem dX7_leastGap_0 : decode cX7_leastGap 0 = .ok (.bipush (-9), 2) := by decide +kernel
theorem dX7_leastGap_2 : decode cX7_leastGap 2 = .ok (.istore_n 1, 1) := by decide +kernel
theorem dX7_leastGap_3 : decode cX7_leastGap 3 = .ok (.bipush (-9), 2) := by decide +kernel
theorem dX7_leastGap_5 : decode cX7_leastGap 5 = .ok (.istore_n 2, 1) := by decide +kernel
theorem dX7_leastGap_6 : decode cX7_leastGap 6 = .ok (.iconst 0, 1) := by decide +kernel
theorem dX7_leastGap_7 : decode cX7_leastGap 7 = .ok (.istore_n 3, 1) := by decide +kernel
theorem dX7_leastGap_8 : decode cX7_leastGap 8 = .ok (.iload_n 3, 1) := by decide +kernel
theorem dX7_leastGap_9 : decode cX7_leastGap 9 = .ok (.aload_n 0, 1) := by decide +kernel
theorem dX7_leastGap_10 : decode cX7_leastGap 10 = .ok (.getfield 67, 3) := by decide +kernel
theorem dX7_leastGap_13 : decode cX7_leastGap 13 = .ok (.if_icmp .ge 67, 3) := by decide +kernel
theorem dX7_leastGap_16 : decode cX7_leastGap 16 = .ok (.aload_n 0, 1) := by decide +kernel
theorem dX7_leastGap_17 : decode cX7_leastGap 17 = .ok (.getfield 32, 3) := by decide +kernel
theorem dX7_leastGap_20 : decode cX7_leastGap 20 = .ok (.iload_n 3, 1) := by decide +kernel
theorem dX7_leastGap_21 : decode cX7_leastGap 21 = .ok (.iaload, 1) := by decide +kernel
theorem dX7_leastGap_22 : decode cX7_leastGap 22 = .ok (.ifCond .eq 52, 3) := by decide +kernel
theorem dX7_leastGap_25 : decode cX7_leastGap 25 = .ok (.iload_n 2, 1) := by decide +kernel
theorem dX7_leastGap_26 : decode cX7_leastGap 26 = .ok (.bipush (-9), 2) := by decide +kernel
theorem dX7_leastGap_28 : decode cX7_leastGap 28 = .ok (.if_icmp .eq 44, 3) := by decide +kernel
theorem dX7_leastGap_31 : decode cX7_leastGap 31 = .ok (.aload_n 0, 1) := by decide +kernel
theorem dX7_leastGap_32 : decode cX7_leastGap 32 = .ok (.getfield 32, 3) := by decide +kernel
theorem dX7_leastGap_35 : decode cX7_leastGap 35 = .ok (.iload_n 2, 1) := by decide +kernel
theorem dX7_leastGap_36 : decode cX7_leastGap 36 = .ok (.iaload, 1) := by decide +kernel
theorem dX7_leastGap_37 : decode cX7_leastGap 37 = .ok (.aload_n 0, 1) := by decide +kernel
theorem dX7_leastGap_38 : decode cX7_leastGap 38 = .ok (.getfield 32, 3) := by decide +kernel
theorem dX7_leastGap_41 : decode cX7_leastGap 41 = .ok (.iload_n 3, 1) := by decide +kernel
theorem dX7_leastGap_42 : decode cX7_leastGap 42 = .ok (.iaload, 1) := by decide +kernel
theorem dX7_leastGap_43 : decode cX7_leastGap 43 = .ok (.if_icmp .eq 29, 3) := by decide +kernel
theorem dX7_leastGap_46 : decode cX7_leastGap 46 = .ok (.iload_n 3, 1) := by decide +kernel
theorem dX7_leastGap_47 : decode cX7_leastGap 47 = .ok (.iload_n 2, 1) := by decide +kernel
theorem dX7_leastGap_48 : decode cX7_leastGap 48 = .ok (.isub, 1) := by decide +kernel
theorem dX7_leastGap_49 : decode cX7_leastGap 49 = .ok (.iconst 1, 1) := by decide +kernel
theorem dX7_leastGap_50 : decode cX7_leastGap 50 = .ok (.isub, 1) := by decide +kernel
theorem dX7_leastGap_51 : decode cX7_leastGap 51 = .ok (.istore 4, 2) := by decide +kernel
theorem dX7_leastGap_53 : decode cX7_leastGap 53 = .ok (.iload_n 1, 1) := by decide +kernel
theorem dX7_leastGap_54 : decode cX7_leastGap 54 = .ok (.bipush (-9), 2) := by decide +kernel
theorem dX7_leastGap_56 : decode cX7_leastGap 56 = .ok (.if_icmp .eq 9, 3) := by decide +kernel
theorem dX7_leastGap_59 : decode cX7_leastGap 59 = .ok (.iload 4, 2) := by decide +kernel
theorem dX7_leastGap_61 : decode cX7_leastGap 61 = .ok (.iload_n 1, 1) := by decide +kernel
theorem dX7_leastGap_62 : decode cX7_leastGap 62 = .ok (.if_icmp .ge 8, 3) := by decide +kernel
theorem dX7_leastGap_65 : decode cX7_leastGap 65 = .ok (.iload 4, 2) := by decide +kernel
theorem dX7_leastGap_67 : decode cX7_leastGap 67 = .ok (.goto 4, 3) := by decide +kernel
theorem dX7_leastGap_70 : decode cX7_leastGap 70 = .ok (.iload_n 1, 1) := by decide +kernel
theorem dX7_leastGap_71 : decode cX7_leastGap 71 = .ok (.istore_n 1, 1) := by decide +kernel
theorem dX7_leastGap_72 : decode cX7_leastGap 72 = .ok (.iload_n 3, 1) := by decide +kernel
theorem dX7_leastGap_73 : decode cX7_leastGap 73 = .ok (.istore_n 2, 1) := by decide +kernel
theorem dX7_leastGap_74 : decode cX7_leastGap 74 = .ok (.iinc 3 1, 3) := by decide +kernel
theorem dX7_leastGap_77 : decode cX7_leastGap 77 = .ok (.goto (-69), 3) := by decide +kernel
theorem dX7_leastGap_80 : decode cX7_leastGap 80 = .ok (.iload_n 1, 1) := by decide +kernel
theorem dX7_leastGap_81 : decode cX7_leastGap 81 = .ok (.ireturn, 1) := by decide +kernel
theorem dX7_isSafeRow_0 : decode cX7_isSafeRow 0 = .ok (.aload_n 0, 1) := by decide +kernel
theorem dX7_isSafeRow_1 : decode cX7_isSafeRow 1 = .ok (.invokevirtual 77, 3) := by decide +kernel
theorem dX7_isSafeRow_4 : decode cX7_isSafeRow 4 = .ok (.istore_n 1, 1) := by decide +kernel
theorem dX7_isSafeRow_5 : decode cX7_isSafeRow 5 = .ok (.iload_n 1, 1) := by decide +kernel
theorem dX7_isSafeRow_6 : decode cX7_isSafeRow 6 = .ok (.bipush (-9), 2) := by decide +kernel
theorem dX7_isSafeRow_8 : decode cX7_isSafeRow 8 = .ok (.if_icmp .eq 13, 3) := by decide +kernel
theorem dX7_isSafeRow_11 : decode cX7_isSafeRow 11 = .ok (.iload_n 1, 1) := by decide +kernel
theorem dX7_isSafeRow_12 : decode cX7_isSafeRow 12 = .ok (.aload_n 0, 1) := by decide +kernel
theorem dX7_isSafeRow_13 : decode cX7_isSafeRow 13 = .ok (.getfield 7, 3) := by decide +kernel
theorem dX7_isSafeRow_16 : decode cX7_isSafeRow 16 = .ok (.iconst 0, 1) := by decide +kernel
theorem dX7_isSafeRow_17 : decode cX7_isSafeRow 17 = .ok (.iaload, 1) := by decide +kernel
theorem dX7_isSafeRow_18 : decode cX7_isSafeRow 18 = .ok (.if_icmp .lt 7, 3) := by decide +kernel
theorem dX7_isSafeRow_21 : decode cX7_isSafeRow 21 = .ok (.iconst 1, 1) := by decide +kernel
theorem dX7_isSafeRow_22 : decode cX7_isSafeRow 22 = .ok (.goto 4, 3) := by decide +kernel
theorem dX7_isSafeRow_25 : decode cX7_isSafeRow 25 = .ok (.iconst 0, 1) := by decide +kernel
theorem dX7_isSafeRow_26 : decode cX7_isSafeRow 26 = .ok (.ireturn, 1) := by decide +kernel
theorem dX7_isSafe_0 : decode cX7_isSafe 0 = .ok (.aload_n 0, 1) := by decide +kernel
theorem dX7_isSafe_1 : decode cX7_isSafe 1 = .ok (.iload_n 1, 1) := by decide +kernel
theorem dX7_isSafe_2 : decode cX7_isSafe 2 = .ok (.aload_n 0, 1) := by decide +kernel
theorem dX7_isSafe_3 : decode cX7_isSafe 3 = .ok (.iload_n 1, 1) := by decide +kernel
theorem dX7_isSafe_4 : decode cX7_isSafe 4 = .ok (.iconst 0, 1) := by decide +kernel
theorem dX7_isSafe_5 : decode cX7_isSafe 5 = .ok (.invokevirtual 63, 3) := by decide +kernel
theorem dX7_isSafe_8 : decode cX7_isSafe 8 = .ok (.invokevirtual 81, 3) := by decide +kernel
theorem dX7_isSafe_11 : decode cX7_isSafe 11 = .ok (.aload_n 0, 1) := by decide +kernel
theorem dX7_isSafe_12 : decode cX7_isSafe 12 = .ok (.invokevirtual 85, 3) := by decide +kernel
theorem dX7_isSafe_15 : decode cX7_isSafe 15 = .ok (.ireturn, 1) := by decide +kernel
theorem dX7_costOf_0 : decode cX7_costOf 0 = .ok (.aload_n 0, 1) := by decide +kernel
theorem dX7_costOf_1 : decode cX7_costOf 1 = .ok (.iload_n 1, 1) := by decide +kernel
theorem dX7_costOf_2 : decode cX7_costOf 2 = .ok (.iconst 0, 1) := by decide +kernel
theorem dX7_costOf_3 : decode cX7_costOf 3 = .ok (.invokevirtual 63, 3) := by decide +kernel
theorem dX7_costOf_6 : decode cX7_costOf 6 = .ok (.istore 4, 2) := by decide +kernel
theorem dX7_costOf_8 : decode cX7_costOf 8 = .ok (.iload_n 3, 1) := by decide +kernel
theorem dX7_costOf_9 : decode cX7_costOf 9 = .ok (.iload 4, 2) := by decide +kernel
theorem dX7_costOf_11 : decode cX7_costOf 11 = .ok (.if_icmp .le 6, 3) := by decide +kernel
theorem dX7_costOf_14 : decode cX7_costOf 14 = .ok (.bipush (-2), 2) := by decide +kernel
theorem dX7_costOf_16 : decode cX7_costOf 16 = .ok (.ireturn, 1) := by decide +kernel
theorem dX7_costOf_17 : decode cX7_costOf 17 = .ok (.aload_n 0, 1) := by decide +kernel
theorem dX7_costOf_18 : decode cX7_costOf 18 = .ok (.iload_n 1, 1) := by decide +kernel
theorem dX7_costOf_19 : decode cX7_costOf 19 = .ok (.iload 4, 2) := by decide +kernel
theorem dX7_costOf_21 : decode cX7_costOf 21 = .ok (.iload_n 3, 1) := by decide +kernel
theorem dX7_costOf_22 : decode cX7_costOf 22 = .ok (.isub, 1) := by decide +kernel
theorem dX7_costOf_23 : decode cX7_costOf 23 = .ok (.invokevirtual 81, 3) := by decide +kernel
theorem dX7_costOf_26 : decode cX7_costOf 26 = .ok (.aload_n 0, 1) := by decide +kernel
theorem dX7_costOf_27 : decode cX7_costOf 27 = .ok (.invokevirtual 85, 3) := by decide +kernel
theorem dX7_costOf_30 : decode cX7_costOf 30 = .ok (.ifCond .ne 6, 3) := by decide +kernel
theorem dX7_costOf_33 : decode cX7_costOf 33 = .ok (.bipush (-2), 2) := by decide +kernel
theorem dX7_costOf_35 : decode cX7_costOf 35 = .ok (.ireturn, 1) := by decide +kernel
theorem dX7_costOf_36 : decode cX7_costOf 36 = .ok (.aload_n 0, 1) := by decide +kernel
theorem dX7_costOf_37 : decode cX7_costOf 37 = .ok (.iload_n 2, 1) := by decide +kernel
theorem dX7_costOf_38 : decode cX7_costOf 38 = .ok (.aload_n 0, 1) := by decide +kernel
theorem dX7_costOf_39 : decode cX7_costOf 39 = .ok (.iload_n 2, 1) := by decide +kernel
theorem dX7_costOf_40 : decode cX7_costOf 40 = .ok (.iconst 0, 1) := by decide +kernel
theorem dX7_costOf_41 : decode cX7_costOf 41 = .ok (.invokevirtual 63, 3) := by decide +kernel
theorem dX7_costOf_44 : decode cX7_costOf 44 = .ok (.invokevirtual 81, 3) := by decide +kernel
theorem dX7_costOf_47 : decode cX7_costOf 47 = .ok (.iconst 0, 1) := by decide +kernel
theorem dX7_costOf_48 : decode cX7_costOf 48 = .ok (.istore 5, 2) := by decide +kernel
theorem dX7_costOf_50 : decode cX7_costOf 50 = .ok (.iload 4, 2) := by decide +kernel
theorem dX7_costOf_52 : decode cX7_costOf 52 = .ok (.iload_n 3, 1) := by decide +kernel
theorem dX7_costOf_53 : decode cX7_costOf 53 = .ok (.isub, 1) := by decide +kernel
theorem dX7_costOf_54 : decode cX7_costOf 54 = .ok (.istore 6, 2) := by decide +kernel
theorem dX7_costOf_56 : decode cX7_costOf 56 = .ok (.iload 6, 2) := by decide +kernel
theorem dX7_costOf_58 : decode cX7_costOf 58 = .ok (.iload 4, 2) := by decide +kernel
theorem dX7_costOf_60 : decode cX7_costOf 60 = .ok (.if_icmp .ge 41, 3) := by decide +kernel
theorem dX7_costOf_63 : decode cX7_costOf 63 = .ok (.aload_n 0, 1) := by decide +kernel
theorem dX7_costOf_64 : decode cX7_costOf 64 = .ok (.aload_n 0, 1) := by decide +kernel
theorem dX7_costOf_65 : decode cX7_costOf 65 = .ok (.iload_n 1, 1) := by decide +kernel
theorem dX7_costOf_66 : decode cX7_costOf 66 = .ok (.iload 6, 2) := by decide +kernel
theorem dX7_costOf_68 : decode cX7_costOf 68 = .ok (.invokevirtual 70, 3) := by decide +kernel
theorem dX7_costOf_71 : decode cX7_costOf 71 = .ok (.invokevirtual 73, 3) := by decide +kernel
theorem dX7_costOf_74 : decode cX7_costOf 74 = .ok (.iload 5, 2) := by decide +kernel
theorem dX7_costOf_76 : decode cX7_costOf 76 = .ok (.aload_n 0, 1) := by decide +kernel
theorem dX7_costOf_77 : decode cX7_costOf 77 = .ok (.iload_n 1, 1) := by decide +kernel
theorem dX7_costOf_78 : decode cX7_costOf 78 = .ok (.iload 6, 2) := by decide +kernel
theorem dX7_costOf_80 : decode cX7_costOf 80 = .ok (.invokevirtual 70, 3) := by decide +kernel
theorem dX7_costOf_83 : decode cX7_costOf 83 = .ok (.iconst 2, 1) := by decide +kernel
theorem dX7_costOf_84 : decode cX7_costOf 84 = .ok (.if_icmp .ne 7, 3) := by decide +kernel
theorem dX7_costOf_87 : decode cX7_costOf 87 = .ok (.iconst 1, 1) := by decide +kernel
theorem dX7_costOf_88 : decode cX7_costOf 88 = .ok (.goto 4, 3) := by decide +kernel
theorem dX7_costOf_91 : decode cX7_costOf 91 = .ok (.iconst 0, 1) := by decide +kernel
theorem dX7_costOf_92 : decode cX7_costOf 92 = .ok (.ior, 1) := by decide +kernel
theorem dX7_costOf_93 : decode cX7_costOf 93 = .ok (.istore 5, 2) := by decide +kernel
theorem dX7_costOf_95 : decode cX7_costOf 95 = .ok (.iinc 6 1, 3) := by decide +kernel
theorem dX7_costOf_98 : decode cX7_costOf 98 = .ok (.goto (-42), 3) := by decide +kernel
theorem dX7_costOf_101 : decode cX7_costOf 101 = .ok (.aload_n 0, 1) := by decide +kernel
theorem dX7_costOf_102 : decode cX7_costOf 102 = .ok (.invokevirtual 85, 3) := by decide +kernel
theorem dX7_costOf_105 : decode cX7_costOf 105 = .ok (.ifCond .ne 6, 3) := by decide +kernel
theorem dX7_costOf_108 : decode cX7_costOf 108 = .ok (.bipush (-2), 2) := by decide +kernel
theorem dX7_costOf_110 : decode cX7_costOf 110 = .ok (.ireturn, 1) := by decide +kernel
theorem dX7_costOf_111 : decode cX7_costOf 111 = .ok (.aload_n 0, 1) := by decide +kernel
theorem dX7_costOf_112 : decode cX7_costOf 112 = .ok (.iload_n 2, 1) := by decide +kernel
theorem dX7_costOf_113 : decode cX7_costOf 113 = .ok (.iconst 0, 1) := by decide +kernel
theorem dX7_costOf_114 : decode cX7_costOf 114 = .ok (.invokevirtual 63, 3) := by decide +kernel
theorem dX7_costOf_117 : decode cX7_costOf 117 = .ok (.iload_n 3, 1) := by decide +kernel
theorem dX7_costOf_118 : decode cX7_costOf 118 = .ok (.iadd, 1) := by decide +kernel
theorem dX7_costOf_119 : decode cX7_costOf 119 = .ok (.aload_n 0, 1) := by decide +kernel
theorem dX7_costOf_120 : decode cX7_costOf 120 = .ok (.getfield 7, 3) := by decide +kernel
theorem dX7_costOf_123 : decode cX7_costOf 123 = .ok (.iconst 5, 1) := by decide +kernel
theorem dX7_costOf_124 : decode cX7_costOf 124 = .ok (.iaload, 1) := by decide +kernel
theorem dX7_costOf_125 : decode cX7_costOf 125 = .ok (.if_icmp .le 6, 3) := by decide +kernel
theorem dX7_costOf_128 : decode cX7_costOf 128 = .ok (.bipush (-3), 2) := by decide +kernel
theorem dX7_costOf_130 : decode cX7_costOf 130 = .ok (.ireturn, 1) := by decide +kernel
theorem dX7_costOf_131 : decode cX7_costOf 131 = .ok (.aload_n 0, 1) := by decide +kernel
theorem dX7_costOf_132 : decode cX7_costOf 132 = .ok (.getfield 7, 3) := by decide +kernel
theorem dX7_costOf_135 : decode cX7_costOf 135 = .ok (.iconst 2, 1) := by decide +kernel
theorem dX7_costOf_136 : decode cX7_costOf 136 = .ok (.iaload, 1) := by decide +kernel
theorem dX7_costOf_137 : decode cX7_costOf 137 = .ok (.iload_n 3, 1) := by decide +kernel
theorem dX7_costOf_138 : decode cX7_costOf 138 = .ok (.iadd, 1) := by decide +kernel
theorem dX7_costOf_139 : decode cX7_costOf 139 = .ok (.iconst 2, 1) := by decide +kernel
theorem dX7_costOf_140 : decode cX7_costOf 140 = .ok (.iload_n 1, 1) := by decide +kernel
theorem dX7_costOf_141 : decode cX7_costOf 141 = .ok (.iload_n 2, 1) := by decide +kernel
theorem dX7_costOf_142 : decode cX7_costOf 142 = .ok (.if_icmp .le 9, 3) := by decide +kernel
theorem dX7_costOf_145 : decode cX7_costOf 145 = .ok (.iload_n 1, 1) := by decide +kernel
theorem dX7_costOf_146 : decode cX7_costOf 146 = .ok (.iload_n 2, 1) := by decide +kernel
theorem dX7_costOf_147 : decode cX7_costOf 147 = .ok (.isub, 1) := by decide +kernel
theorem dX7_costOf_148 : decode cX7_costOf 148 = .ok (.goto 6, 3) := by decide +kernel
theorem dX7_costOf_151 : decode cX7_costOf 151 = .ok (.iload_n 2, 1) := by decide +kernel
theorem dX7_costOf_152 : decode cX7_costOf 152 = .ok (.iload_n 1, 1) := by decide +kernel
theorem dX7_costOf_153 : decode cX7_costOf 153 = .ok (.isub, 1) := by decide +kernel
theorem dX7_costOf_154 : decode cX7_costOf 154 = .ok (.imul, 1) := by decide +kernel
theorem dX7_costOf_155 : decode cX7_costOf 155 = .ok (.iadd, 1) := by decide +kernel
theorem dX7_costOf_156 : decode cX7_costOf 156 = .ok (.iload 5, 2) := by decide +kernel
theorem dX7_costOf_158 : decode cX7_costOf 158 = .ok (.ifCond .eq 7, 3) := by decide +kernel
theorem dX7_costOf_161 : decode cX7_costOf 161 = .ok (.iconst 5, 1) := by decide +kernel
theorem dX7_costOf_162 : decode cX7_costOf 162 = .ok (.goto 4, 3) := by decide +kernel
theorem dX7_costOf_165 : decode cX7_costOf 165 = .ok (.iconst 0, 1) := by decide +kernel
theorem dX7_costOf_166 : decode cX7_costOf 166 = .ok (.iadd, 1) := by decide +kernel
theorem dX7_costOf_167 : decode cX7_costOf 167 = .ok (.ireturn, 1) := by decide +kernel
theorem dX7_areTracks_0 : decode cX7_areTracks 0 = .ok (.aload_n 0, 1) := by decide +kernel
theorem dX7_areTracks_1 : decode cX7_areTracks 1 = .ok (.iload_n 1, 1) := by decide +kernel
theorem dX7_areTracks_2 : decode cX7_areTracks 2 = .ok (.invokevirtual 89, 3) := by decide +kernel
theorem dX7_areTracks_5 : decode cX7_areTracks 5 = .ok (.ifCond .eq 30, 3) := by decide +kernel
theorem dX7_areTracks_8 : decode cX7_areTracks 8 = .ok (.aload_n 0, 1) := by decide +kernel
theorem dX7_areTracks_9 : decode cX7_areTracks 9 = .ok (.iload_n 2, 1) := by decide +kernel
theorem dX7_areTracks_10 : decode cX7_areTracks 10 = .ok (.invokevirtual 89, 3) := by decide +kernel
theorem dX7_areTracks_13 : decode cX7_areTracks 13 = .ok (.ifCond .eq 22, 3) := by decide +kernel
theorem dX7_areTracks_16 : decode cX7_areTracks 16 = .ok (.iload_n 1, 1) := by decide +kernel
theorem dX7_areTracks_17 : decode cX7_areTracks 17 = .ok (.iload_n 2, 1) := by decide +kernel
theorem dX7_areTracks_18 : decode cX7_areTracks 18 = .ok (.if_icmp .eq 17, 3) := by decide +kernel
theorem dX7_areTracks_21 : decode cX7_areTracks 21 = .ok (.iload_n 3, 1) := by decide +kernel
theorem dX7_areTracks_22 : decode cX7_areTracks 22 = .ok (.iconst 1, 1) := by decide +kernel
theorem dX7_areTracks_23 : decode cX7_areTracks 23 = .ok (.bipush 8, 2) := by decide +kernel
theorem dX7_areTracks_25 : decode cX7_areTracks 25 = .ok (.invokestatic 59, 3) := by decide +kernel
theorem dX7_areTracks_28 : decode cX7_areTracks 28 = .ok (.ifCond .eq 7, 3) := by decide +kernel
theorem dX7_areTracks_31 : decode cX7_areTracks 31 = .ok (.iconst 1, 1) := by decide +kernel
theorem dX7_areTracks_32 : decode cX7_areTracks 32 = .ok (.goto 4, 3) := by decide +kernel
theorem dX7_areTracks_35 : decode cX7_areTracks 35 = .ok (.iconst 0, 1) := by decide +kernel
theorem dX7_areTracks_36 : decode cX7_areTracks 36 = .ok (.ireturn, 1) := by decide +kernel
theorem dX7_carry_0 : decode cX7_carry 0 = .ok (.aload_n 0, 1) := by decide +kernel
theorem dX7_carry_1 : decode cX7_carry 1 = .ok (.iload_n 1, 1) := by decide +kernel
theorem dX7_carry_2 : decode cX7_carry 2 = .ok (.iconst 0, 1) := by decide +kernel
theorem dX7_carry_3 : decode cX7_carry 3 = .ok (.invokevirtual 63, 3) := by decide +kernel
theorem dX7_carry_6 : decode cX7_carry 6 = .ok (.iload_n 3, 1) := by decide +kernel
theorem dX7_carry_7 : decode cX7_carry 7 = .ok (.isub, 1) := by decide +kernel
theorem dX7_carry_8 : decode cX7_carry 8 = .ok (.istore 5, 2) := by decide +kernel
theorem dX7_carry_10 : decode cX7_carry 10 = .ok (.iconst 0, 1) := by decide +kernel
theorem dX7_carry_11 : decode cX7_carry 11 = .ok (.istore 6, 2) := by decide +kernel
theorem dX7_carry_13 : decode cX7_carry 13 = .ok (.iload 6, 2) := by decide +kernel
theorem dX7_carry_15 : decode cX7_carry 15 = .ok (.iload_n 3, 1) := by decide +kernel
theorem dX7_carry_16 : decode cX7_carry 16 = .ok (.if_icmp .ge 62, 3) := by decide +kernel
theorem dX7_carry_19 : decode cX7_carry 19 = .ok (.iconst 0, 1) := by decide +kernel
theorem dX7_carry_20 : decode cX7_carry 20 = .ok (.istore 7, 2) := by decide +kernel
theorem dX7_carry_22 : decode cX7_carry 22 = .ok (.iload 7, 2) := by decide +kernel
theorem dX7_carry_24 : decode cX7_carry 24 = .ok (.iconst 3, 1) := by decide +kernel
theorem dX7_carry_25 : decode cX7_carry 25 = .ok (.if_icmp .ge 47, 3) := by decide +kernel
theorem dX7_carry_28 : decode cX7_carry 28 = .ok (.aload_n 0, 1) := by decide +kernel
theorem dX7_carry_29 : decode cX7_carry 29 = .ok (.iload_n 2, 1) := by decide +kernel
theorem dX7_carry_30 : decode cX7_carry 30 = .ok (.iconst 3, 1) := by decide +kernel
theorem dX7_carry_31 : decode cX7_carry 31 = .ok (.iconst 3, 1) := by decide +kernel
theorem dX7_carry_32 : decode cX7_carry 32 = .ok (.aload_n 0, 1) := by decide +kernel
theorem dX7_carry_33 : decode cX7_carry 33 = .ok (.iload_n 2, 1) := by decide +kernel
theorem dX7_carry_34 : decode cX7_carry 34 = .ok (.iconst 0, 1) := by decide +kernel
theorem dX7_carry_35 : decode cX7_carry 35 = .ok (.invokevirtual 63, 3) := by decide +kernel
theorem dX7_carry_38 : decode cX7_carry 38 = .ok (.iload 6, 2) := by decide +kernel
theorem dX7_carry_40 : decode cX7_carry 40 = .ok (.iadd, 1) := by decide +kernel
theorem dX7_carry_41 : decode cX7_carry 41 = .ok (.imul, 1) := by decide +kernel
theorem dX7_carry_42 : decode cX7_carry 42 = .ok (.iadd, 1) := by decide +kernel
theorem dX7_carry_43 : decode cX7_carry 43 = .ok (.iload 7, 2) := by decide +kernel
theorem dX7_carry_45 : decode cX7_carry 45 = .ok (.iadd, 1) := by decide +kernel
theorem dX7_carry_46 : decode cX7_carry 46 = .ok (.aload_n 0, 1) := by decide +kernel
theorem dX7_carry_47 : decode cX7_carry 47 = .ok (.iload_n 1, 1) := by decide +kernel
theorem dX7_carry_48 : decode cX7_carry 48 = .ok (.iconst 3, 1) := by decide +kernel
theorem dX7_carry_49 : decode cX7_carry 49 = .ok (.iconst 3, 1) := by decide +kernel
theorem dX7_carry_50 : decode cX7_carry 50 = .ok (.iload 5, 2) := by decide +kernel
theorem dX7_carry_52 : decode cX7_carry 52 = .ok (.iload 6, 2) := by decide +kernel
theorem dX7_carry_54 : decode cX7_carry 54 = .ok (.iadd, 1) := by decide +kernel
theorem dX7_carry_55 : decode cX7_carry 55 = .ok (.imul, 1) := by decide +kernel
theorem dX7_carry_56 : decode cX7_carry 56 = .ok (.iadd, 1) := by decide +kernel
theorem dX7_carry_57 : decode cX7_carry 57 = .ok (.iload 7, 2) := by decide +kernel
theorem dX7_carry_59 : decode cX7_carry 59 = .ok (.iadd, 1) := by decide +kernel
theorem dX7_carry_60 : decode cX7_carry 60 = .ok (.invokevirtual 63, 3) := by decide +kernel
theorem dX7_carry_63 : decode cX7_carry 63 = .ok (.invokevirtual 93, 3) := by decide +kernel
theorem dX7_carry_66 : decode cX7_carry 66 = .ok (.iinc 7 1, 3) := by decide +kernel
theorem dX7_carry_69 : decode cX7_carry 69 = .ok (.goto (-47), 3) := by decide +kernel
theorem dX7_carry_72 : decode cX7_carry 72 = .ok (.iinc 6 1, 3) := by decide +kernel
theorem dX7_carry_75 : decode cX7_carry 75 = .ok (.goto (-62), 3) := by decide +kernel
theorem dX7_carry_78 : decode cX7_carry 78 = .ok (.aload_n 0, 1) := by decide +kernel
theorem dX7_carry_79 : decode cX7_carry 79 = .ok (.iload_n 1, 1) := by decide +kernel
theorem dX7_carry_80 : decode cX7_carry 80 = .ok (.iconst 0, 1) := by decide +kernel
theorem dX7_carry_81 : decode cX7_carry 81 = .ok (.iload 5, 2) := by decide +kernel
theorem dX7_carry_83 : decode cX7_carry 83 = .ok (.invokevirtual 93, 3) := by decide +kernel
theorem dX7_carry_86 : decode cX7_carry 86 = .ok (.aload_n 0, 1) := by decide +kernel
theorem dX7_carry_87 : decode cX7_carry 87 = .ok (.iload_n 2, 1) := by decide +kernel
theorem dX7_carry_88 : decode cX7_carry 88 = .ok (.iconst 0, 1) := by decide +kernel
theorem dX7_carry_89 : decode cX7_carry 89 = .ok (.aload_n 0, 1) := by decide +kernel
theorem dX7_carry_90 : decode cX7_carry 90 = .ok (.iload_n 2, 1) := by decide +kernel
theorem dX7_carry_91 : decode cX7_carry 91 = .ok (.iconst 0, 1) := by decide +kernel
theorem dX7_carry_92 : decode cX7_carry 92 = .ok (.invokevirtual 63, 3) := by decide +kernel
theorem dX7_carry_95 : decode cX7_carry 95 = .ok (.iload_n 3, 1) := by decide +kernel
theorem dX7_carry_96 : decode cX7_carry 96 = .ok (.iadd, 1) := by decide +kernel
theorem dX7_carry_97 : decode cX7_carry 97 = .ok (.invokevirtual 93, 3) := by decide +kernel
theorem dX7_carry_100 : decode cX7_carry 100 = .ok (.aload_n 0, 1) := by decide +kernel
theorem dX7_carry_101 : decode cX7_carry 101 = .ok (.iload_n 1, 1) := by decide +kernel
theorem dX7_carry_102 : decode cX7_carry 102 = .ok (.iconst 1, 1) := by decide +kernel
theorem dX7_carry_103 : decode cX7_carry 103 = .ok (.iconst 0, 1) := by decide +kernel
theorem dX7_carry_104 : decode cX7_carry 104 = .ok (.invokevirtual 93, 3) := by decide +kernel
theorem dX7_carry_107 : decode cX7_carry 107 = .ok (.aload_n 0, 1) := by decide +kernel
theorem dX7_carry_108 : decode cX7_carry 108 = .ok (.iload_n 2, 1) := by decide +kernel
theorem dX7_carry_109 : decode cX7_carry 109 = .ok (.iconst 1, 1) := by decide +kernel
theorem dX7_carry_110 : decode cX7_carry 110 = .ok (.iconst 0, 1) := by decide +kernel
theorem dX7_carry_111 : decode cX7_carry 111 = .ok (.invokevirtual 93, 3) := by decide +kernel
theorem dX7_carry_114 : decode cX7_carry 114 = .ok (.aload_n 0, 1) := by decide +kernel
theorem dX7_carry_115 : decode cX7_carry 115 = .ok (.getfield 7, 3) := by decide +kernel
theorem dX7_carry_118 : decode cX7_carry 118 = .ok (.bipush 6, 2) := by decide +kernel
theorem dX7_carry_120 : decode cX7_carry 120 = .ok (.dup2, 1) := by decide +kernel
theorem dX7_carry_121 : decode cX7_carry 121 = .ok (.iaload, 1) := by decide +kernel
theorem dX7_carry_122 : decode cX7_carry 122 = .ok (.iload 4, 2) := by decide +kernel
theorem dX7_carry_124 : decode cX7_carry 124 = .ok (.iadd, 1) := by decide +kernel
theorem dX7_carry_125 : decode cX7_carry 125 = .ok (.iastore, 1) := by decide +kernel
theorem dX7_carry_126 : decode cX7_carry 126 = .ok (.aload_n 0, 1) := by decide +kernel
theorem dX7_carry_127 : decode cX7_carry 127 = .ok (.getfield 7, 3) := by decide +kernel
theorem dX7_carry_130 : decode cX7_carry 130 = .ok (.bipush 8, 2) := by decide +kernel
theorem dX7_carry_132 : decode cX7_carry 132 = .ok (.dup2, 1) := by decide +kernel
theorem dX7_carry_133 : decode cX7_carry 133 = .ok (.iaload, 1) := by decide +kernel
theorem dX7_carry_134 : decode cX7_carry 134 = .ok (.iconst 1, 1) := by decide +kernel
theorem dX7_carry_135 : decode cX7_carry 135 = .ok (.iadd, 1) := by decide +kernel
theorem dX7_carry_136 : decode cX7_carry 136 = .ok (.iastore, 1) := by decide +kernel
theorem dX7_carry_137 : decode cX7_carry 137 = .ok (.aload_n 0, 1) := by decide +kernel
theorem dX7_carry_138 : decode cX7_carry 138 = .ok (.getfield 7, 3) := by decide +kernel
theorem dX7_carry_141 : decode cX7_carry 141 = .ok (.bipush 9, 2) := by decide +kernel
theorem dX7_carry_143 : decode cX7_carry 143 = .ok (.dup2, 1) := by decide +kernel
theorem dX7_carry_144 : decode cX7_carry 144 = .ok (.iaload, 1) := by decide +kernel
theorem dX7_carry_145 : decode cX7_carry 145 = .ok (.iload 4, 2) := by decide +kernel
theorem dX7_carry_147 : decode cX7_carry 147 = .ok (.iadd, 1) := by decide +kernel
theorem dX7_carry_148 : decode cX7_carry 148 = .ok (.iastore, 1) := by decide +kernel
theorem dX7_carry_149 : decode cX7_carry 149 = .ok (.return_, 1) := by decide +kernel
theorem dX7_cost_0 : decode cX7_cost 0 = .ok (.aload_n 0, 1) := by decide +kernel
theorem dX7_cost_1 : decode cX7_cost 1 = .ok (.iload_n 1, 1) := by decide +kernel
theorem dX7_cost_2 : decode cX7_cost 2 = .ok (.iload_n 2, 1) := by decide +kernel
theorem dX7_cost_3 : decode cX7_cost 3 = .ok (.iload_n 3, 1) := by decide +kernel
theorem dX7_cost_4 : decode cX7_cost 4 = .ok (.invokevirtual 97, 3) := by decide +kernel
theorem dX7_cost_7 : decode cX7_cost 7 = .ok (.ifCond .eq 13, 3) := by decide +kernel
theorem dX7_cost_10 : decode cX7_cost 10 = .ok (.aload_n 0, 1) := by decide +kernel
theorem dX7_cost_11 : decode cX7_cost 11 = .ok (.iload_n 1, 1) := by decide +kernel
theorem dX7_cost_12 : decode cX7_cost 12 = .ok (.iload_n 2, 1) := by decide +kernel
theorem dX7_cost_13 : decode cX7_cost 13 = .ok (.iload_n 3, 1) := by decide +kernel
theorem dX7_cost_14 : decode cX7_cost 14 = .ok (.invokevirtual 100, 3) := by decide +kernel
theorem dX7_cost_17 : decode cX7_cost 17 = .ok (.goto 4, 3) := by decide +kernel
theorem dX7_cost_20 : decode cX7_cost 20 = .ok (.iconst (-1), 1) := by decide +kernel
theorem dX7_cost_21 : decode cX7_cost 21 = .ok (.ireturn, 1) := by decide +kernel
theorem dX7_move_0 : decode cX7_move 0 = .ok (.aload_n 0, 1) := by decide +kernel
theorem dX7_move_1 : decode cX7_move 1 = .ok (.iload_n 1, 1) := by decide +kernel
theorem dX7_move_2 : decode cX7_move 2 = .ok (.iload_n 2, 1) := by decide +kernel
theorem dX7_move_3 : decode cX7_move 3 = .ok (.iload_n 3, 1) := by decide +kernel
theorem dX7_move_4 : decode cX7_move 4 = .ok (.invokevirtual 104, 3) := by decide +kernel
theorem dX7_move_7 : decode cX7_move 7 = .ok (.istore 4, 2) := by decide +kernel
theorem dX7_move_9 : decode cX7_move 9 = .ok (.iload 4, 2) := by decide +kernel
theorem dX7_move_11 : decode cX7_move 11 = .ok (.ifCond .lt 16, 3) := by decide +kernel
theorem dX7_move_14 : decode cX7_move 14 = .ok (.aload_n 0, 1) := by decide +kernel
theorem dX7_move_15 : decode cX7_move 15 = .ok (.invokevirtual 107, 3) := by decide +kernel
theorem dX7_move_18 : decode cX7_move 18 = .ok (.aload_n 0, 1) := by decide +kernel
theorem dX7_move_19 : decode cX7_move 19 = .ok (.iload_n 1, 1) := by decide +kernel
theorem dX7_move_20 : decode cX7_move 20 = .ok (.iload_n 2, 1) := by decide +kernel
theorem dX7_move_21 : decode cX7_move 21 = .ok (.iload_n 3, 1) := by decide +kernel
theorem dX7_move_22 : decode cX7_move 22 = .ok (.iload 4, 2) := by decide +kernel
theorem dX7_move_24 : decode cX7_move 24 = .ok (.invokevirtual 110, 3) := by decide +kernel
theorem dX7_move_27 : decode cX7_move 27 = .ok (.iload 4, 2) := by decide +kernel
theorem dX7_move_29 : decode cX7_move 29 = .ok (.ireturn, 1) := by decide +kernel
theorem dX7_stillHolds_0 : decode cX7_stillHolds 0 = .ok (.aload_n 0, 1) := by decide +kernel
theorem dX7_stillHolds_1 : decode cX7_stillHolds 1 = .ok (.iload_n 1, 1) := by decide +kernel
theorem dX7_stillHolds_2 : decode cX7_stillHolds 2 = .ok (.iconst 1, 1) := by decide +kernel
theorem dX7_stillHolds_3 : decode cX7_stillHolds 3 = .ok (.invokevirtual 63, 3) := by decide +kernel
theorem dX7_stillHolds_6 : decode cX7_stillHolds 6 = .ok (.ifCond .ne 7, 3) := by decide +kernel
theorem dX7_stillHolds_9 : decode cX7_stillHolds 9 = .ok (.iconst 0, 1) := by decide +kernel
theorem dX7_stillHolds_10 : decode cX7_stillHolds 10 = .ok (.goto 24, 3) := by decide +kernel
theorem dX7_stillHolds_13 : decode cX7_stillHolds 13 = .ok (.aload_n 0, 1) := by decide +kernel
theorem dX7_stillHolds_14 : decode cX7_stillHolds 14 = .ok (.getfield 7, 3) := by decide +kernel
theorem dX7_stillHolds_17 : decode cX7_stillHolds 17 = .ok (.iconst 1, 1) := by decide +kernel
theorem dX7_stillHolds_18 : decode cX7_stillHolds 18 = .ok (.iaload, 1) := by decide +kernel
theorem dX7_stillHolds_19 : decode cX7_stillHolds 19 = .ok (.aload_n 0, 1) := by decide +kernel
theorem dX7_stillHolds_20 : decode cX7_stillHolds 20 = .ok (.getfield 7, 3) := by decide +kernel
theorem dX7_stillHolds_23 : decode cX7_stillHolds 23 = .ok (.bipush 6, 2) := by decide +kernel
theorem dX7_stillHolds_25 : decode cX7_stillHolds 25 = .ok (.iaload, 1) := by decide +kernel
theorem dX7_stillHolds_26 : decode cX7_stillHolds 26 = .ok (.aload_n 0, 1) := by decide +kernel
theorem dX7_stillHolds_27 : decode cX7_stillHolds 27 = .ok (.iload_n 1, 1) := by decide +kernel
theorem dX7_stillHolds_28 : decode cX7_stillHolds 28 = .ok (.iconst 2, 1) := by decide +kernel
theorem dX7_stillHolds_29 : decode cX7_stillHolds 29 = .ok (.invokevirtual 63, 3) := by decide +kernel
theorem dX7_stillHolds_32 : decode cX7_stillHolds 32 = .ok (.isub, 1) := by decide +kernel
theorem dX7_stillHolds_33 : decode cX7_stillHolds 33 = .ok (.isub, 1) := by decide +kernel
theorem dX7_stillHolds_34 : decode cX7_stillHolds 34 = .ok (.istore_n 2, 1) := by decide +kernel
theorem dX7_stillHolds_35 : decode cX7_stillHolds 35 = .ok (.iload_n 2, 1) := by decide +kernel
theorem dX7_stillHolds_36 : decode cX7_stillHolds 36 = .ok (.ifCond .ge 7, 3) := by decide +kernel
theorem dX7_stillHolds_39 : decode cX7_stillHolds 39 = .ok (.iconst 0, 1) := by decide +kernel
theorem dX7_stillHolds_40 : decode cX7_stillHolds 40 = .ok (.goto 4, 3) := by decide +kernel
theorem dX7_stillHolds_43 : decode cX7_stillHolds 43 = .ok (.iload_n 2, 1) := by decide +kernel
theorem dX7_stillHolds_44 : decode cX7_stillHolds 44 = .ok (.ireturn, 1) := by decide +kernel
theorem dX7_bound_0 : decode cX7_bound 0 = .ok (.iconst 0, 1) := by decide +kernel
theorem dX7_bound_1 : decode cX7_bound 1 = .ok (.istore_n 3, 1) := by decide +kernel
theorem dX7_bound_2 : decode cX7_bound 2 = .ok (.iconst 0, 1) := by decide +kernel
theorem dX7_bound_3 : decode cX7_bound 3 = .ok (.istore 4, 2) := by decide +kernel
theorem dX7_bound_5 : decode cX7_bound 5 = .ok (.iload 4, 2) := by decide +kernel
theorem dX7_bound_7 : decode cX7_bound 7 = .ok (.aload_n 0, 1) := by decide +kernel
theorem dX7_bound_8 : decode cX7_bound 8 = .ok (.iload_n 1, 1) := by decide +kernel
theorem dX7_bound_9 : decode cX7_bound 9 = .ok (.iconst 0, 1) := by decide +kernel
theorem dX7_bound_10 : decode cX7_bound 10 = .ok (.invokevirtual 63, 3) := by decide +kernel
theorem dX7_bound_13 : decode cX7_bound 13 = .ok (.if_icmp .ge 28, 3) := by decide +kernel
theorem dX7_bound_16 : decode cX7_bound 16 = .ok (.iload_n 3, 1) := by decide +kernel
theorem dX7_bound_17 : decode cX7_bound 17 = .ok (.aload_n 0, 1) := by decide +kernel
theorem dX7_bound_18 : decode cX7_bound 18 = .ok (.iload_n 1, 1) := by decide +kernel
theorem dX7_bound_19 : decode cX7_bound 19 = .ok (.iload 4, 2) := by decide +kernel
theorem dX7_bound_21 : decode cX7_bound 21 = .ok (.invokevirtual 114, 3) := by decide +kernel
theorem dX7_bound_24 : decode cX7_bound 24 = .ok (.iload_n 2, 1) := by decide +kernel
theorem dX7_bound_25 : decode cX7_bound 25 = .ok (.if_icmp .ne 7, 3) := by decide +kernel
theorem dX7_bound_28 : decode cX7_bound 28 = .ok (.iconst 1, 1) := by decide +kernel
theorem dX7_bound_29 : decode cX7_bound 29 = .ok (.goto 4, 3) := by decide +kernel
theorem dX7_bound_32 : decode cX7_bound 32 = .ok (.iconst 0, 1) := by decide +kernel
theorem dX7_bound_33 : decode cX7_bound 33 = .ok (.iadd, 1) := by decide +kernel
theorem dX7_bound_34 : decode cX7_bound 34 = .ok (.istore_n 3, 1) := by decide +kernel
theorem dX7_bound_35 : decode cX7_bound 35 = .ok (.iinc 4 1, 3) := by decide +kernel
theorem dX7_bound_38 : decode cX7_bound 38 = .ok (.goto (-33), 3) := by decide +kernel
theorem dX7_bound_41 : decode cX7_bound 41 = .ok (.iload_n 3, 1) := by decide +kernel
theorem dX7_bound_42 : decode cX7_bound 42 = .ok (.ireturn, 1) := by decide +kernel
theorem dX7_reasonAgainst_0 : decode cX7_reasonAgainst 0 = .ok (.aload_n 0, 1) := by decide +kernel
theorem dX7_reasonAgainst_1 : decode cX7_reasonAgainst 1 = .ok (.getfield 7, 3) := by decide +kernel
theorem dX7_reasonAgainst_4 : decode cX7_reasonAgainst 4 = .ok (.bipush 12, 2) := by decide +kernel
theorem dX7_reasonAgainst_6 : decode cX7_reasonAgainst 6 = .ok (.iaload, 1) := by decide +kernel
theorem dX7_reasonAgainst_7 : decode cX7_reasonAgainst 7 = .ok (.ifCond .ne 5, 3) := by decide +kernel
theorem dX7_reasonAgainst_10 : decode cX7_reasonAgainst 10 = .ok (.iconst 1, 1) := by decide +kernel
theorem dX7_reasonAgainst_11 : decode cX7_reasonAgainst 11 = .ok (.ireturn, 1) := by decide +kernel
theorem dX7_reasonAgainst_12 : decode cX7_reasonAgainst 12 = .ok (.aload_n 0, 1) := by decide +kernel
theorem dX7_reasonAgainst_13 : decode cX7_reasonAgainst 13 = .ok (.iload_n 1, 1) := by decide +kernel
theorem dX7_reasonAgainst_14 : decode cX7_reasonAgainst 14 = .ok (.iconst 0, 1) := by decide +kernel
theorem dX7_reasonAgainst_15 : decode cX7_reasonAgainst 15 = .ok (.invokevirtual 63, 3) := by decide +kernel
theorem dX7_reasonAgainst_18 : decode cX7_reasonAgainst 18 = .ok (.ifCond .ne 5, 3) := by decide +kernel
theorem dX7_reasonAgainst_21 : decode cX7_reasonAgainst 21 = .ok (.iconst 2, 1) := by decide +kernel
theorem dX7_reasonAgainst_22 : decode cX7_reasonAgainst 22 = .ok (.ireturn, 1) := by decide +kernel
theorem dX7_reasonAgainst_23 : decode cX7_reasonAgainst 23 = .ok (.aload_n 0, 1) := by decide +kernel
theorem dX7_reasonAgainst_24 : decode cX7_reasonAgainst 24 = .ok (.iload_n 1, 1) := by decide +kernel
theorem dX7_reasonAgainst_25 : decode cX7_reasonAgainst 25 = .ok (.aload_n 0, 1) := by decide +kernel
theorem dX7_reasonAgainst_26 : decode cX7_reasonAgainst 26 = .ok (.getfield 7, 3) := by decide +kernel
theorem dX7_reasonAgainst_29 : decode cX7_reasonAgainst 29 = .ok (.bipush 13, 2) := by decide +kernel
theorem dX7_reasonAgainst_31 : decode cX7_reasonAgainst 31 = .ok (.iaload, 1) := by decide +kernel
theorem dX7_reasonAgainst_32 : decode cX7_reasonAgainst 32 = .ok (.invokevirtual 117, 3) := by decide +kernel
theorem dX7_reasonAgainst_35 : decode cX7_reasonAgainst 35 = .ok (.aload_n 0, 1) := by decide +kernel
theorem dX7_reasonAgainst_36 : decode cX7_reasonAgainst 36 = .ok (.iload_n 1, 1) := by decide +kernel
theorem dX7_reasonAgainst_37 : decode cX7_reasonAgainst 37 = .ok (.iconst 0, 1) := by decide +kernel
theorem dX7_reasonAgainst_38 : decode cX7_reasonAgainst 38 = .ok (.invokevirtual 63, 3) := by decide +kernel
theorem dX7_reasonAgainst_41 : decode cX7_reasonAgainst 41 = .ok (.if_icmp .ge 5, 3) := by decide +kernel
theorem dX7_reasonAgainst_44 : decode cX7_reasonAgainst 44 = .ok (.iconst 3, 1) := by decide +kernel
theorem dX7_reasonAgainst_45 : decode cX7_reasonAgainst 45 = .ok (.ireturn, 1) := by decide +kernel
theorem dX7_reasonAgainst_46 : decode cX7_reasonAgainst 46 = .ok (.iconst 0, 1) := by decide +kernel
theorem dX7_reasonAgainst_47 : decode cX7_reasonAgainst 47 = .ok (.istore_n 2, 1) := by decide +kernel
theorem dX7_reasonAgainst_48 : decode cX7_reasonAgainst 48 = .ok (.iload_n 2, 1) := by decide +kernel
theorem dX7_reasonAgainst_49 : decode cX7_reasonAgainst 49 = .ok (.aload_n 0, 1) := by decide +kernel
theorem dX7_reasonAgainst_50 : decode cX7_reasonAgainst 50 = .ok (.getfield 7, 3) := by decide +kernel
theorem dX7_reasonAgainst_53 : decode cX7_reasonAgainst 53 = .ok (.iconst 4, 1) := by decide +kernel
theorem dX7_reasonAgainst_54 : decode cX7_reasonAgainst 54 = .ok (.iaload, 1) := by decide +kernel
theorem dX7_reasonAgainst_55 : decode cX7_reasonAgainst 55 = .ok (.if_icmp .ge 31, 3) := by decide +kernel
theorem dX7_reasonAgainst_58 : decode cX7_reasonAgainst 58 = .ok (.iload_n 2, 1) := by decide +kernel
theorem dX7_reasonAgainst_59 : decode cX7_reasonAgainst 59 = .ok (.iload_n 1, 1) := by decide +kernel
theorem dX7_reasonAgainst_60 : decode cX7_reasonAgainst 60 = .ok (.if_icmp .eq 20, 3) := by decide +kernel
theorem dX7_reasonAgainst_63 : decode cX7_reasonAgainst 63 = .ok (.aload_n 0, 1) := by decide +kernel
theorem dX7_reasonAgainst_64 : decode cX7_reasonAgainst 64 = .ok (.iload_n 2, 1) := by decide +kernel
theorem dX7_reasonAgainst_65 : decode cX7_reasonAgainst 65 = .ok (.aload_n 0, 1) := by decide +kernel
theorem dX7_reasonAgainst_66 : decode cX7_reasonAgainst 66 = .ok (.getfield 7, 3) := by decide +kernel
theorem dX7_reasonAgainst_69 : decode cX7_reasonAgainst 69 = .ok (.bipush 13, 2) := by decide +kernel
theorem dX7_reasonAgainst_71 : decode cX7_reasonAgainst 71 = .ok (.iaload, 1) := by decide +kernel
theorem dX7_reasonAgainst_72 : decode cX7_reasonAgainst 72 = .ok (.invokevirtual 117, 3) := by decide +kernel
theorem dX7_reasonAgainst_75 : decode cX7_reasonAgainst 75 = .ok (.ifCond .le 5, 3) := by decide +kernel
theorem dX7_reasonAgainst_78 : decode cX7_reasonAgainst 78 = .ok (.iconst 4, 1) := by decide +kernel
theorem dX7_reasonAgainst_79 : decode cX7_reasonAgainst 79 = .ok (.ireturn, 1) := by decide +kernel
theorem dX7_reasonAgainst_80 : decode cX7_reasonAgainst 80 = .ok (.iinc 2 1, 3) := by decide +kernel
theorem dX7_reasonAgainst_83 : decode cX7_reasonAgainst 83 = .ok (.goto (-35), 3) := by decide +kernel
theorem dX7_reasonAgainst_86 : decode cX7_reasonAgainst 86 = .ok (.aload_n 0, 1) := by decide +kernel
theorem dX7_reasonAgainst_87 : decode cX7_reasonAgainst 87 = .ok (.iload_n 1, 1) := by decide +kernel
theorem dX7_reasonAgainst_88 : decode cX7_reasonAgainst 88 = .ok (.invokevirtual 120, 3) := by decide +kernel
theorem dX7_reasonAgainst_91 : decode cX7_reasonAgainst 91 = .ok (.ifCond .ne 7, 3) := by decide +kernel
theorem dX7_reasonAgainst_94 : decode cX7_reasonAgainst 94 = .ok (.iconst 5, 1) := by decide +kernel
theorem dX7_reasonAgainst_95 : decode cX7_reasonAgainst 95 = .ok (.goto 17, 3) := by decide +kernel
theorem dX7_reasonAgainst_98 : decode cX7_reasonAgainst 98 = .ok (.aload_n 0, 1) := by decide +kernel
theorem dX7_reasonAgainst_99 : decode cX7_reasonAgainst 99 = .ok (.iload_n 1, 1) := by decide +kernel
theorem dX7_reasonAgainst_100 : decode cX7_reasonAgainst 100 = .ok (.invokevirtual 123, 3) := by decide +kernel
theorem dX7_reasonAgainst_103 : decode cX7_reasonAgainst 103 = .ok (.ifCond .ne 8, 3) := by decide +kernel
theorem dX7_reasonAgainst_106 : decode cX7_reasonAgainst 106 = .ok (.bipush 6, 2) := by decide +kernel
theorem dX7_reasonAgainst_108 : decode cX7_reasonAgainst 108 = .ok (.goto 4, 3) := by decide +kernel
theorem dX7_reasonAgainst_111 : decode cX7_reasonAgainst 111 = .ok (.iconst 0, 1) := by decide +kernel
theorem dX7_reasonAgainst_112 : decode cX7_reasonAgainst 112 = .ok (.ireturn, 1) := by decide +kernel
theorem dX7_test_0 : decode cX7_test 0 = .ok (.aload_n 0, 1) := by decide +kernel
theorem dX7_test_1 : decode cX7_test 1 = .ok (.iload_n 1, 1) := by decide +kernel
theorem dX7_test_2 : decode cX7_test 2 = .ok (.invokevirtual 89, 3) := by decide +kernel
theorem dX7_test_5 : decode cX7_test 5 = .ok (.ifCond .ne 5, 3) := by decide +kernel
theorem dX7_test_8 : decode cX7_test 8 = .ok (.iconst (-1), 1) := by decide +kernel
theorem dX7_test_9 : decode cX7_test 9 = .ok (.ireturn, 1) := by decide +kernel
theorem dX7_test_10 : decode cX7_test 10 = .ok (.aload_n 0, 1) := by decide +kernel
theorem dX7_test_11 : decode cX7_test 11 = .ok (.iload_n 1, 1) := by decide +kernel
theorem dX7_test_12 : decode cX7_test 12 = .ok (.iconst 0, 1) := by decide +kernel
theorem dX7_test_13 : decode cX7_test 13 = .ok (.invokevirtual 63, 3) := by decide +kernel
theorem dX7_test_16 : decode cX7_test 16 = .ok (.ifCond .ne 6, 3) := by decide +kernel
theorem dX7_test_19 : decode cX7_test 19 = .ok (.bipush (-2), 2) := by decide +kernel
theorem dX7_test_21 : decode cX7_test 21 = .ok (.ireturn, 1) := by decide +kernel
theorem dX7_test_22 : decode cX7_test 22 = .ok (.aload_n 0, 1) := by decide +kernel
theorem dX7_test_23 : decode cX7_test 23 = .ok (.invokevirtual 107, 3) := by decide +kernel
theorem dX7_test_26 : decode cX7_test 26 = .ok (.aload_n 0, 1) := by decide +kernel
theorem dX7_test_27 : decode cX7_test 27 = .ok (.getfield 7, 3) := by decide +kernel
theorem dX7_test_30 : decode cX7_test 30 = .ok (.iconst 3, 1) := by decide +kernel
theorem dX7_test_31 : decode cX7_test 31 = .ok (.iaload, 1) := by decide +kernel
theorem dX7_test_32 : decode cX7_test 32 = .ok (.iconst 2, 1) := by decide +kernel
theorem dX7_test_33 : decode cX7_test 33 = .ok (.aload_n 0, 1) := by decide +kernel
theorem dX7_test_34 : decode cX7_test 34 = .ok (.iload_n 1, 1) := by decide +kernel
theorem dX7_test_35 : decode cX7_test 35 = .ok (.iconst 0, 1) := by decide +kernel
theorem dX7_test_36 : decode cX7_test 36 = .ok (.invokevirtual 63, 3) := by decide +kernel
theorem dX7_test_39 : decode cX7_test 39 = .ok (.imul, 1) := by decide +kernel
theorem dX7_test_40 : decode cX7_test 40 = .ok (.iadd, 1) := by decide +kernel
theorem dX7_test_41 : decode cX7_test 41 = .ok (.istore_n 2, 1) := by decide +kernel
theorem dX7_test_42 : decode cX7_test 42 = .ok (.aload_n 0, 1) := by decide +kernel
theorem dX7_test_43 : decode cX7_test 43 = .ok (.getfield 7, 3) := by decide +kernel
theorem dX7_test_46 : decode cX7_test 46 = .ok (.bipush 6, 2) := by decide +kernel
theorem dX7_test_48 : decode cX7_test 48 = .ok (.dup2, 1) := by decide +kernel
theorem dX7_test_49 : decode cX7_test 49 = .ok (.iaload, 1) := by decide +kernel
theorem dX7_test_50 : decode cX7_test 50 = .ok (.iload_n 2, 1) := by decide +kernel
theorem dX7_test_51 : decode cX7_test 51 = .ok (.iadd, 1) := by decide +kernel
theorem dX7_test_52 : decode cX7_test 52 = .ok (.iastore, 1) := by decide +kernel
theorem dX7_test_53 : decode cX7_test 53 = .ok (.aload_n 0, 1) := by decide +kernel
theorem dX7_test_54 : decode cX7_test 54 = .ok (.iload_n 1, 1) := by decide +kernel
theorem dX7_test_55 : decode cX7_test 55 = .ok (.iconst 1, 1) := by decide +kernel
theorem dX7_test_56 : decode cX7_test 56 = .ok (.iconst 1, 1) := by decide +kernel
theorem dX7_test_57 : decode cX7_test 57 = .ok (.invokevirtual 93, 3) := by decide +kernel
theorem dX7_test_60 : decode cX7_test 60 = .ok (.aload_n 0, 1) := by decide +kernel
theorem dX7_test_61 : decode cX7_test 61 = .ok (.iload_n 1, 1) := by decide +kernel
theorem dX7_test_62 : decode cX7_test 62 = .ok (.iconst 2, 1) := by decide +kernel
theorem dX7_test_63 : decode cX7_test 63 = .ok (.aload_n 0, 1) := by decide +kernel
theorem dX7_test_64 : decode cX7_test 64 = .ok (.getfield 7, 3) := by decide +kernel
theorem dX7_test_67 : decode cX7_test 67 = .ok (.bipush 6, 2) := by decide +kernel
theorem dX7_test_69 : decode cX7_test 69 = .ok (.iaload, 1) := by decide +kernel
theorem dX7_test_70 : decode cX7_test 70 = .ok (.invokevirtual 93, 3) := by decide +kernel
theorem dX7_test_73 : decode cX7_test 73 = .ok (.iload_n 2, 1) := by decide +kernel
theorem dX7_test_74 : decode cX7_test 74 = .ok (.ireturn, 1) := by decide +kernel
theorem dX7_pause_0 : decode cX7_pause 0 = .ok (.iload_n 1, 1) := by decide +kernel
theorem dX7_pause_1 : decode cX7_pause 1 = .ok (.iconst 1, 1) := by decide +kernel
theorem dX7_pause_2 : decode cX7_pause 2 = .ok (.sipush 1000, 3) := by decide +kernel
theorem dX7_pause_5 : decode cX7_pause 5 = .ok (.invokestatic 59, 3) := by decide +kernel
theorem dX7_pause_8 : decode cX7_pause 8 = .ok (.ifCond .ne 5, 3) := by decide +kernel
theorem dX7_pause_11 : decode cX7_pause 11 = .ok (.iconst (-1), 1) := by decide +kernel
theorem dX7_pause_12 : decode cX7_pause 12 = .ok (.ireturn, 1) := by decide +kernel
theorem dX7_pause_13 : decode cX7_pause 13 = .ok (.aload_n 0, 1) := by decide +kernel
theorem dX7_pause_14 : decode cX7_pause 14 = .ok (.invokevirtual 107, 3) := by decide +kernel
theorem dX7_pause_17 : decode cX7_pause 17 = .ok (.aload_n 0, 1) := by decide +kernel
theorem dX7_pause_18 : decode cX7_pause 18 = .ok (.getfield 7, 3) := by decide +kernel
theorem dX7_pause_21 : decode cX7_pause 21 = .ok (.bipush 6, 2) := by decide +kernel
theorem dX7_pause_23 : decode cX7_pause 23 = .ok (.dup2, 1) := by decide +kernel
theorem dX7_pause_24 : decode cX7_pause 24 = .ok (.iaload, 1) := by decide +kernel
theorem dX7_pause_25 : decode cX7_pause 25 = .ok (.iload_n 1, 1) := by decide +kernel
theorem dX7_pause_26 : decode cX7_pause 26 = .ok (.iadd, 1) := by decide +kernel
theorem dX7_pause_27 : decode cX7_pause 27 = .ok (.iastore, 1) := by decide +kernel
theorem dX7_pause_28 : decode cX7_pause 28 = .ok (.aload_n 0, 1) := by decide +kernel
theorem dX7_pause_29 : decode cX7_pause 29 = .ok (.getfield 7, 3) := by decide +kernel
theorem dX7_pause_32 : decode cX7_pause 32 = .ok (.bipush 6, 2) := by decide +kernel
theorem dX7_pause_34 : decode cX7_pause 34 = .ok (.iaload, 1) := by decide +kernel
theorem dX7_pause_35 : decode cX7_pause 35 = .ok (.ireturn, 1) := by decide +kernel
theorem dX7_depart_0 : decode cX7_depart 0 = .ok (.aload_n 0, 1) := by decide +kernel
theorem dX7_depart_1 : decode cX7_depart 1 = .ok (.iload_n 1, 1) := by decide +kernel
theorem dX7_depart_2 : decode cX7_depart 2 = .ok (.invokevirtual 89, 3) := by decide +kernel
theorem dX7_depart_5 : decode cX7_depart 5 = .ok (.ifCond .ne 5, 3) := by decide +kernel
theorem dX7_depart_8 : decode cX7_depart 8 = .ok (.iconst (-1), 1) := by decide +kernel
theorem dX7_depart_9 : decode cX7_depart 9 = .ok (.ireturn, 1) := by decide +kernel
theorem dX7_depart_10 : decode cX7_depart 10 = .ok (.aload_n 0, 1) := by decide +kernel
theorem dX7_depart_11 : decode cX7_depart 11 = .ok (.iload_n 1, 1) := by decide +kernel
theorem dX7_depart_12 : decode cX7_depart 12 = .ok (.invokevirtual 127, 3) := by decide +kernel
theorem dX7_depart_15 : decode cX7_depart 15 = .ok (.istore_n 2, 1) := by decide +kernel
theorem dX7_depart_16 : decode cX7_depart 16 = .ok (.iload_n 2, 1) := by decide +kernel
theorem dX7_depart_17 : decode cX7_depart 17 = .ok (.ifCond .eq 11, 3) := by decide +kernel
theorem dX7_depart_20 : decode cX7_depart 20 = .ok (.aload_n 0, 1) := by decide +kernel
theorem dX7_depart_21 : decode cX7_depart 21 = .ok (.iload_n 2, 1) := by decide +kernel
theorem dX7_depart_22 : decode cX7_depart 22 = .ok (.putfield 29, 3) := by decide +kernel
theorem dX7_depart_25 : decode cX7_depart 25 = .ok (.bipush (-2), 2) := by decide +kernel
theorem dX7_depart_27 : decode cX7_depart 27 = .ok (.ireturn, 1) := by decide +kernel
theorem dX7_depart_28 : decode cX7_depart 28 = .ok (.aload_n 0, 1) := by decide +kernel
theorem dX7_depart_29 : decode cX7_depart 29 = .ok (.invokevirtual 107, 3) := by decide +kernel
theorem dX7_depart_32 : decode cX7_depart 32 = .ok (.aload_n 0, 1) := by decide +kernel
theorem dX7_depart_33 : decode cX7_depart 33 = .ok (.iload_n 1, 1) := by decide +kernel
theorem dX7_depart_34 : decode cX7_depart 34 = .ok (.iconst 0, 1) := by decide +kernel
theorem dX7_depart_35 : decode cX7_depart 35 = .ok (.invokevirtual 63, 3) := by decide +kernel
theorem dX7_depart_38 : decode cX7_depart 38 = .ok (.istore_n 3, 1) := by decide +kernel
theorem dX7_depart_39 : decode cX7_depart 39 = .ok (.aload_n 0, 1) := by decide +kernel
theorem dX7_depart_40 : decode cX7_depart 40 = .ok (.iload_n 1, 1) := by decide +kernel
theorem dX7_depart_41 : decode cX7_depart 41 = .ok (.iconst 0, 1) := by decide +kernel
theorem dX7_depart_42 : decode cX7_depart 42 = .ok (.iconst 0, 1) := by decide +kernel
theorem dX7_depart_43 : decode cX7_depart 43 = .ok (.invokevirtual 93, 3) := by decide +kernel
theorem dX7_depart_46 : decode cX7_depart 46 = .ok (.aload_n 0, 1) := by decide +kernel
theorem dX7_depart_47 : decode cX7_depart 47 = .ok (.iload_n 1, 1) := by decide +kernel
theorem dX7_depart_48 : decode cX7_depart 48 = .ok (.iconst 1, 1) := by decide +kernel
theorem dX7_depart_49 : decode cX7_depart 49 = .ok (.iconst 0, 1) := by decide +kernel
theorem dX7_depart_50 : decode cX7_depart 50 = .ok (.invokevirtual 93, 3) := by decide +kernel
theorem dX7_depart_53 : decode cX7_depart 53 = .ok (.aload_n 0, 1) := by decide +kernel
theorem dX7_depart_54 : decode cX7_depart 54 = .ok (.getfield 7, 3) := by decide +kernel
theorem dX7_depart_57 : decode cX7_depart 57 = .ok (.bipush 10, 2) := by decide +kernel
theorem dX7_depart_59 : decode cX7_depart 59 = .ok (.dup2, 1) := by decide +kernel
theorem dX7_depart_60 : decode cX7_depart 60 = .ok (.iaload, 1) := by decide +kernel
theorem dX7_depart_61 : decode cX7_depart 61 = .ok (.iconst 1, 1) := by decide +kernel
theorem dX7_depart_62 : decode cX7_depart 62 = .ok (.iadd, 1) := by decide +kernel
theorem dX7_depart_63 : decode cX7_depart 63 = .ok (.iastore, 1) := by decide +kernel
theorem dX7_depart_64 : decode cX7_depart 64 = .ok (.aload_n 0, 1) := by decide +kernel
theorem dX7_depart_65 : decode cX7_depart 65 = .ok (.getfield 7, 3) := by decide +kernel
theorem dX7_depart_68 : decode cX7_depart 68 = .ok (.bipush 11, 2) := by decide +kernel
theorem dX7_depart_70 : decode cX7_depart 70 = .ok (.dup2, 1) := by decide +kernel
theorem dX7_depart_71 : decode cX7_depart 71 = .ok (.iaload, 1) := by decide +kernel
theorem dX7_depart_72 : decode cX7_depart 72 = .ok (.iload_n 3, 1) := by decide +kernel
theorem dX7_depart_73 : decode cX7_depart 73 = .ok (.iadd, 1) := by decide +kernel
theorem dX7_depart_74 : decode cX7_depart 74 = .ok (.iastore, 1) := by decide +kernel
theorem dX7_depart_75 : decode cX7_depart 75 = .ok (.bipush 13, 2) := by decide +kernel
theorem dX7_depart_77 : decode cX7_depart 77 = .ok (.istore 4, 2) := by decide +kernel
theorem dX7_depart_79 : decode cX7_depart 79 = .ok (.iload 4, 2) := by decide +kernel
theorem dX7_depart_81 : decode cX7_depart 81 = .ok (.bipush 13, 2) := by decide +kernel
theorem dX7_depart_83 : decode cX7_depart 83 = .ok (.aload_n 0, 1) := by decide +kernel
theorem dX7_depart_84 : decode cX7_depart 84 = .ok (.getfield 7, 3) := by decide +kernel
theorem dX7_depart_87 : decode cX7_depart 87 = .ok (.bipush 12, 2) := by decide +kernel
theorem dX7_depart_89 : decode cX7_depart 89 = .ok (.iaload, 1) := by decide +kernel
theorem dX7_depart_90 : decode cX7_depart 90 = .ok (.iadd, 1) := by decide +kernel
theorem dX7_depart_91 : decode cX7_depart 91 = .ok (.iconst 1, 1) := by decide +kernel
theorem dX7_depart_92 : decode cX7_depart 92 = .ok (.isub, 1) := by decide +kernel
theorem dX7_depart_93 : decode cX7_depart 93 = .ok (.if_icmp .ge 25, 3) := by decide +kernel
theorem dX7_depart_96 : decode cX7_depart 96 = .ok (.aload_n 0, 1) := by decide +kernel
theorem dX7_depart_97 : decode cX7_depart 97 = .ok (.getfield 7, 3) := by decide +kernel
theorem dX7_depart_100 : decode cX7_depart 100 = .ok (.iload 4, 2) := by decide +kernel
theorem dX7_depart_102 : decode cX7_depart 102 = .ok (.aload_n 0, 1) := by decide +kernel
theorem dX7_depart_103 : decode cX7_depart 103 = .ok (.getfield 7, 3) := by decide +kernel
theorem dX7_depart_106 : decode cX7_depart 106 = .ok (.iload 4, 2) := by decide +kernel
theorem dX7_depart_108 : decode cX7_depart 108 = .ok (.iconst 1, 1) := by decide +kernel
theorem dX7_depart_109 : decode cX7_depart 109 = .ok (.iadd, 1) := by decide +kernel
theorem dX7_depart_110 : decode cX7_depart 110 = .ok (.iaload, 1) := by decide +kernel
theorem dX7_depart_111 : decode cX7_depart 111 = .ok (.iastore, 1) := by decide +kernel
theorem dX7_depart_112 : decode cX7_depart 112 = .ok (.iinc 4 1, 3) := by decide +kernel
theorem dX7_depart_115 : decode cX7_depart 115 = .ok (.goto (-36), 3) := by decide +kernel
theorem dX7_depart_118 : decode cX7_depart 118 = .ok (.aload_n 0, 1) := by decide +kernel
theorem dX7_depart_119 : decode cX7_depart 119 = .ok (.getfield 7, 3) := by decide +kernel
theorem dX7_depart_122 : decode cX7_depart 122 = .ok (.bipush 12, 2) := by decide +kernel
theorem dX7_depart_124 : decode cX7_depart 124 = .ok (.dup2, 1) := by decide +kernel
theorem dX7_depart_125 : decode cX7_depart 125 = .ok (.iaload, 1) := by decide +kernel
theorem dX7_depart_126 : decode cX7_depart 126 = .ok (.iconst 1, 1) := by decide +kernel
theorem dX7_depart_127 : decode cX7_depart 127 = .ok (.isub, 1) := by decide +kernel
theorem dX7_depart_128 : decode cX7_depart 128 = .ok (.iastore, 1) := by decide +kernel
theorem dX7_depart_129 : decode cX7_depart 129 = .ok (.iload_n 3, 1) := by decide +kernel
theorem dX7_depart_130 : decode cX7_depart 130 = .ok (.ireturn, 1) := by decide +kernel
theorem dX7_fails_0 : decode cX7_fails 0 = .ok (.aload_n 0, 1) := by decide +kernel
theorem dX7_fails_1 : decode cX7_fails 1 = .ok (.iload_n 1, 1) := by decide +kernel
theorem dX7_fails_2 : decode cX7_fails 2 = .ok (.putfield 130, 3) := by decide +kernel
theorem dX7_fails_5 : decode cX7_fails 5 = .ok (.aload_n 0, 1) := by decide +kernel
theorem dX7_fails_6 : decode cX7_fails 6 = .ok (.iload_n 2, 1) := by decide +kernel
theorem dX7_fails_7 : decode cX7_fails 7 = .ok (.putfield 133, 3) := by decide +kernel
theorem dX7_fails_10 : decode cX7_fails 10 = .ok (.return_, 1) := by decide +kernel
theorem dX7_isLetter_0 : decode cX7_isLetter 0 = .ok (.iload_n 0, 1) := by decide +kernel
theorem dX7_isLetter_1 : decode cX7_isLetter 1 = .ok (.bipush 65, 2) := by decide +kernel
theorem dX7_isLetter_3 : decode cX7_isLetter 3 = .ok (.bipush 70, 2) := by decide +kernel
theorem dX7_isLetter_5 : decode cX7_isLetter 5 = .ok (.invokestatic 59, 3) := by decide +kernel
theorem dX7_isLetter_8 : decode cX7_isLetter 8 = .ok (.ireturn, 1) := by decide +kernel
theorem dX7_readWagons_0 : decode cX7_readWagons 0 = .ok (.aload_n 0, 1) := by decide +kernel
theorem dX7_readWagons_1 : decode cX7_readWagons 1 = .ok (.bipush (-9), 2) := by decide +kernel
theorem dX7_readWagons_3 : decode cX7_readWagons 3 = .ok (.bipush (-9), 2) := by decide +kernel
theorem dX7_readWagons_5 : decode cX7_readWagons 5 = .ok (.invokevirtual 136, 3) := by decide +kernel
theorem dX7_readWagons_8 : decode cX7_readWagons 8 = .ok (.aload_n 0, 1) := by decide +kernel
theorem dX7_readWagons_9 : decode cX7_readWagons 9 = .ok (.iconst 0, 1) := by decide +kernel
theorem dX7_readWagons_10 : decode cX7_readWagons 10 = .ok (.putfield 139, 3) := by decide +kernel
theorem dX7_readWagons_13 : decode cX7_readWagons 13 = .ok (.iconst 0, 1) := by decide +kernel
theorem dX7_readWagons_14 : decode cX7_readWagons 14 = .ok (.istore_n 1, 1) := by decide +kernel
theorem dX7_readWagons_15 : decode cX7_readWagons 15 = .ok (.iconst 1, 1) := by decide +kernel
theorem dX7_readWagons_16 : decode cX7_readWagons 16 = .ok (.istore_n 2, 1) := by decide +kernel
theorem dX7_readWagons_17 : decode cX7_readWagons 17 = .ok (.iconst 0, 1) := by decide +kernel
theorem dX7_readWagons_18 : decode cX7_readWagons 18 = .ok (.istore_n 3, 1) := by decide +kernel
theorem dX7_readWagons_19 : decode cX7_readWagons 19 = .ok (.iconst 0, 1) := by decide +kernel
theorem dX7_readWagons_20 : decode cX7_readWagons 20 = .ok (.istore 4, 2) := by decide +kernel
theorem dX7_readWagons_22 : decode cX7_readWagons 22 = .ok (.iload 4, 2) := by decide +kernel
theorem dX7_readWagons_24 : decode cX7_readWagons 24 = .ok (.aload_n 0, 1) := by decide +kernel
theorem dX7_readWagons_25 : decode cX7_readWagons 25 = .ok (.getfield 142, 3) := by decide +kernel
theorem dX7_readWagons_28 : decode cX7_readWagons 28 = .ok (.if_icmp .ge 234, 3) := by decide +kernel
theorem dX7_readWagons_31 : decode cX7_readWagons 31 = .ok (.aload_n 0, 1) := by decide +kernel
theorem dX7_readWagons_32 : decode cX7_readWagons 32 = .ok (.getfield 130, 3) := by decide +kernel
theorem dX7_readWagons_35 : decode cX7_readWagons 35 = .ok (.bipush (-9), 2) := by decide +kernel
theorem dX7_readWagons_37 : decode cX7_readWagons 37 = .ok (.if_icmp .ne 225, 3) := by decide +kernel
theorem dX7_readWagons_40 : decode cX7_readWagons 40 = .ok (.aload_n 0, 1) := by decide +kernel
theorem dX7_readWagons_41 : decode cX7_readWagons 41 = .ok (.getfield 19, 3) := by decide +kernel
theorem dX7_readWagons_44 : decode cX7_readWagons 44 = .ok (.iload 4, 2) := by decide +kernel
theorem dX7_readWagons_46 : decode cX7_readWagons 46 = .ok (.iaload, 1) := by decide +kernel
theorem dX7_readWagons_47 : decode cX7_readWagons 47 = .ok (.istore 5, 2) := by decide +kernel
theorem dX7_readWagons_49 : decode cX7_readWagons 49 = .ok (.iload_n 1, 1) := by decide +kernel
theorem dX7_readWagons_50 : decode cX7_readWagons 50 = .ok (.iconst 2, 1) := by decide +kernel
theorem dX7_readWagons_51 : decode cX7_readWagons 51 = .ok (.if_icmp .ge 93, 3) := by decide +kernel
theorem dX7_readWagons_54 : decode cX7_readWagons 54 = .ok (.iload 5, 2) := by decide +kernel
theorem dX7_readWagons_56 : decode cX7_readWagons 56 = .ok (.invokestatic 145, 3) := by decide +kernel
theorem dX7_readWagons_59 : decode cX7_readWagons 59 = .ok (.ifCond .eq 85, 3) := by decide +kernel
theorem dX7_readWagons_62 : decode cX7_readWagons 62 = .ok (.aload_n 0, 1) := by decide +kernel
theorem dX7_readWagons_63 : decode cX7_readWagons 63 = .ok (.getfield 139, 3) := by decide +kernel
theorem dX7_readWagons_66 : decode cX7_readWagons 66 = .ok (.iload_n 2, 1) := by decide +kernel
theorem dX7_readWagons_67 : decode cX7_readWagons 67 = .ok (.iadd, 1) := by decide +kernel
theorem dX7_readWagons_68 : decode cX7_readWagons 68 = .ok (.bipush 8, 2) := by decide +kernel
theorem dX7_readWagons_70 : decode cX7_readWagons 70 = .ok (.if_icmp .le 13, 3) := by decide +kernel
theorem dX7_readWagons_73 : decode cX7_readWagons 73 = .ok (.aload_n 0, 1) := by decide +kernel
theorem dX7_readWagons_74 : decode cX7_readWagons 74 = .ok (.iconst 3, 1) := by decide +kernel
theorem dX7_readWagons_75 : decode cX7_readWagons 75 = .ok (.iload 4, 2) := by decide +kernel
theorem dX7_readWagons_77 : decode cX7_readWagons 77 = .ok (.invokevirtual 136, 3) := by decide +kernel
theorem dX7_readWagons_80 : decode cX7_readWagons 80 = .ok (.goto 176, 3) := by decide +kernel
theorem dX7_readWagons_83 : decode cX7_readWagons 83 = .ok (.aload_n 0, 1) := by decide +kernel
theorem dX7_readWagons_84 : decode cX7_readWagons 84 = .ok (.getfield 139, 3) := by decide +kernel
theorem dX7_readWagons_87 : decode cX7_readWagons 87 = .ok (.istore_n 3, 1) := by decide +kernel
theorem dX7_readWagons_88 : decode cX7_readWagons 88 = .ok (.iconst 0, 1) := by decide +kernel
theorem dX7_readWagons_89 : decode cX7_readWagons 89 = .ok (.istore 6, 2) := by decide +kernel
theorem dX7_readWagons_91 : decode cX7_readWagons 91 = .ok (.iload 6, 2) := by decide +kernel
theorem dX7_readWagons_93 : decode cX7_readWagons 93 = .ok (.iload_n 2, 1) := by decide +kernel
theorem dX7_readWagons_94 : decode cX7_readWagons 94 = .ok (.if_icmp .ge 43, 3) := by decide +kernel
theorem dX7_readWagons_97 : decode cX7_readWagons 97 = .ok (.aload_n 0, 1) := by decide +kernel
theorem dX7_readWagons_98 : decode cX7_readWagons 98 = .ok (.getfield 35, 3) := by decide +kernel
theorem dX7_readWagons_101 : decode cX7_readWagons 101 = .ok (.aload_n 0, 1) := by decide +kernel
theorem dX7_readWagons_102 : decode cX7_readWagons 102 = .ok (.getfield 139, 3) := by decide +kernel
theorem dX7_readWagons_105 : decode cX7_readWagons 105 = .ok (.iload 5, 2) := by decide +kernel
theorem dX7_readWagons_107 : decode cX7_readWagons 107 = .ok (.bipush 65, 2) := by decide +kernel
theorem dX7_readWagons_109 : decode cX7_readWagons 109 = .ok (.isub, 1) := by decide +kernel
theorem dX7_readWagons_110 : decode cX7_readWagons 110 = .ok (.iastore, 1) := by decide +kernel
theorem dX7_readWagons_111 : decode cX7_readWagons 111 = .ok (.aload_n 0, 1) := by decide +kernel
theorem dX7_readWagons_112 : decode cX7_readWagons 112 = .ok (.getfield 38, 3) := by decide +kernel
theorem dX7_readWagons_115 : decode cX7_readWagons 115 = .ok (.aload_n 0, 1) := by decide +kernel
theorem dX7_readWagons_116 : decode cX7_readWagons 116 = .ok (.getfield 139, 3) := by decide +kernel
theorem dX7_readWagons_119 : decode cX7_readWagons 119 = .ok (.iconst 0, 1) := by decide +kernel
theorem dX7_readWagons_120 : decode cX7_readWagons 120 = .ok (.iastore, 1) := by decide +kernel
theorem dX7_readWagons_121 : decode cX7_readWagons 121 = .ok (.aload_n 0, 1) := by decide +kernel
theorem dX7_readWagons_122 : decode cX7_readWagons 122 = .ok (.dup, 1) := by decide +kernel
theorem dX7_readWagons_123 : decode cX7_readWagons 123 = .ok (.getfield 139, 3) := by decide +kernel
theorem dX7_readWagons_126 : decode cX7_readWagons 126 = .ok (.iconst 1, 1) := by decide +kernel
theorem dX7_readWagons_127 : decode cX7_readWagons 127 = .ok (.iadd, 1) := by decide +kernel
theorem dX7_readWagons_128 : decode cX7_readWagons 128 = .ok (.putfield 139, 3) := by decide +kernel
theorem dX7_readWagons_131 : decode cX7_readWagons 131 = .ok (.iinc 6 1, 3) := by decide +kernel
theorem dX7_readWagons_134 : decode cX7_readWagons 134 = .ok (.goto (-43), 3) := by decide +kernel
theorem dX7_readWagons_137 : decode cX7_readWagons 137 = .ok (.iconst 1, 1) := by decide +kernel
theorem dX7_readWagons_138 : decode cX7_readWagons 138 = .ok (.istore_n 2, 1) := by decide +kernel
theorem dX7_readWagons_139 : decode cX7_readWagons 139 = .ok (.iconst 2, 1) := by decide +kernel
theorem dX7_readWagons_140 : decode cX7_readWagons 140 = .ok (.istore_n 1, 1) := by decide +kernel
theorem dX7_readWagons_141 : decode cX7_readWagons 141 = .ok (.goto 115, 3) := by decide +kernel
theorem dX7_readWagons_144 : decode cX7_readWagons 144 = .ok (.iload_n 1, 1) := by decide +kernel
theorem dX7_readWagons_145 : decode cX7_readWagons 145 = .ok (.ifCond .ne 26, 3) := by decide +kernel
theorem dX7_readWagons_148 : decode cX7_readWagons 148 = .ok (.iload 5, 2) := by decide +kernel
theorem dX7_readWagons_150 : decode cX7_readWagons 150 = .ok (.bipush 49, 2) := by decide +kernel
theorem dX7_readWagons_152 : decode cX7_readWagons 152 = .ok (.bipush 56, 2) := by decide +kernel
theorem dX7_readWagons_154 : decode cX7_readWagons 154 = .ok (.invokestatic 59, 3) := by decide +kernel
theorem dX7_readWagons_157 : decode cX7_readWagons 157 = .ok (.ifCond .eq 14, 3) := by decide +kernel
theorem dX7_readWagons_160 : decode cX7_readWagons 160 = .ok (.iload 5, 2) := by decide +kernel
theorem dX7_readWagons_162 : decode cX7_readWagons 162 = .ok (.bipush 48, 2) := by decide +kernel
theorem dX7_readWagons_164 : decode cX7_readWagons 164 = .ok (.isub, 1) := by decide +kernel
theorem dX7_readWagons_165 : decode cX7_readWagons 165 = .ok (.istore_n 2, 1) := by decide +kernel
theorem dX7_readWagons_166 : decode cX7_readWagons 166 = .ok (.iconst 1, 1) := by decide +kernel
theorem dX7_readWagons_167 : decode cX7_readWagons 167 = .ok (.istore_n 1, 1) := by decide +kernel
theorem dX7_readWagons_168 : decode cX7_readWagons 168 = .ok (.goto 88, 3) := by decide +kernel
theorem dX7_readWagons_171 : decode cX7_readWagons 171 = .ok (.iload_n 1, 1) := by decide +kernel
theorem dX7_readWagons_172 : decode cX7_readWagons 172 = .ok (.iconst 2, 1) := by decide +kernel
theorem dX7_readWagons_173 : decode cX7_readWagons 173 = .ok (.if_icmp .ne 59, 3) := by decide +kernel
theorem dX7_readWagons_176 : decode cX7_readWagons 176 = .ok (.iload 5, 2) := by decide +kernel
theorem dX7_readWagons_178 : decode cX7_readWagons 178 = .ok (.bipush 102, 2) := by decide +kernel
theorem dX7_readWagons_180 : decode cX7_readWagons 180 = .ok (.if_icmp .eq 10, 3) := by decide +kernel
theorem dX7_readWagons_183 : decode cX7_readWagons 183 = .ok (.iload 5, 2) := by decide +kernel
theorem dX7_readWagons_185 : decode cX7_readWagons 185 = .ok (.bipush 120, 2) := by decide +kernel
theorem dX7_readWagons_187 : decode cX7_readWagons 187 = .ok (.if_icmp .ne 45, 3) := by decide +kernel
theorem dX7_readWagons_190 : decode cX7_readWagons 190 = .ok (.iload_n 3, 1) := by decide +kernel
theorem dX7_readWagons_191 : decode cX7_readWagons 191 = .ok (.istore 6, 2) := by decide +kernel
theorem dX7_readWagons_193 : decode cX7_readWagons 193 = .ok (.iload 6, 2) := by decide +kernel
theorem dX7_readWagons_195 : decode cX7_readWagons 195 = .ok (.aload_n 0, 1) := by decide +kernel
theorem dX7_readWagons_196 : decode cX7_readWagons 196 = .ok (.getfield 139, 3) := by decide +kernel
theorem dX7_readWagons_199 : decode cX7_readWagons 199 = .ok (.if_icmp .ge 28, 3) := by decide +kernel
theorem dX7_readWagons_202 : decode cX7_readWagons 202 = .ok (.aload_n 0, 1) := by decide +kernel
theorem dX7_readWagons_203 : decode cX7_readWagons 203 = .ok (.getfield 38, 3) := by decide +kernel
theorem dX7_readWagons_206 : decode cX7_readWagons 206 = .ok (.iload 6, 2) := by decide +kernel
theorem dX7_readWagons_208 : decode cX7_readWagons 208 = .ok (.iload 5, 2) := by decide +kernel
theorem dX7_readWagons_210 : decode cX7_readWagons 210 = .ok (.bipush 102, 2) := by decide +kernel
theorem dX7_readWagons_212 : decode cX7_readWagons 212 = .ok (.if_icmp .ne 7, 3) := by decide +kernel
theorem dX7_readWagons_215 : decode cX7_readWagons 215 = .ok (.iconst 1, 1) := by decide +kernel
theorem dX7_readWagons_216 : decode cX7_readWagons 216 = .ok (.goto 4, 3) := by decide +kernel
theorem dX7_readWagons_219 : decode cX7_readWagons 219 = .ok (.iconst 2, 1) := by decide +kernel
theorem dX7_readWagons_220 : decode cX7_readWagons 220 = .ok (.iastore, 1) := by decide +kernel
theorem dX7_readWagons_221 : decode cX7_readWagons 221 = .ok (.iinc 6 1, 3) := by decide +kernel
theorem dX7_readWagons_224 : decode cX7_readWagons 224 = .ok (.goto (-31), 3) := by decide +kernel
theorem dX7_readWagons_227 : decode cX7_readWagons 227 = .ok (.iconst 3, 1) := by decide +kernel
theorem dX7_readWagons_228 : decode cX7_readWagons 228 = .ok (.istore_n 1, 1) := by decide +kernel
theorem dX7_readWagons_229 : decode cX7_readWagons 229 = .ok (.goto 27, 3) := by decide +kernel
theorem dX7_readWagons_232 : decode cX7_readWagons 232 = .ok (.iload 5, 2) := by decide +kernel
theorem dX7_readWagons_234 : decode cX7_readWagons 234 = .ok (.bipush 32, 2) := by decide +kernel
theorem dX7_readWagons_236 : decode cX7_readWagons 236 = .ok (.if_icmp .ne 13, 3) := by decide +kernel
theorem dX7_readWagons_239 : decode cX7_readWagons 239 = .ok (.iload_n 1, 1) := by decide +kernel
theorem dX7_readWagons_240 : decode cX7_readWagons 240 = .ok (.iconst 1, 1) := by decide +kernel
theorem dX7_readWagons_241 : decode cX7_readWagons 241 = .ok (.if_icmp .eq 8, 3) := by decide +kernel
theorem dX7_readWagons_244 : decode cX7_readWagons 244 = .ok (.iconst 0, 1) := by decide +kernel
theorem dX7_readWagons_245 : decode cX7_readWagons 245 = .ok (.istore_n 1, 1) := by decide +kernel
theorem dX7_readWagons_246 : decode cX7_readWagons 246 = .ok (.goto 10, 3) := by decide +kernel
theorem dX7_readWagons_249 : decode cX7_readWagons 249 = .ok (.aload_n 0, 1) := by decide +kernel
theorem dX7_readWagons_250 : decode cX7_readWagons 250 = .ok (.iconst 1, 1) := by decide +kernel
theorem dX7_readWagons_251 : decode cX7_readWagons 251 = .ok (.iload 4, 2) := by decide +kernel
theorem dX7_readWagons_253 : decode cX7_readWagons 253 = .ok (.invokevirtual 136, 3) := by decide +kernel
theorem dX7_readWagons_256 : decode cX7_readWagons 256 = .ok (.iinc 4 1, 3) := by decide +kernel
theorem dX7_readWagons_259 : decode cX7_readWagons 259 = .ok (.goto (-237), 3) := by decide +kernel
theorem dX7_readWagons_262 : decode cX7_readWagons 262 = .ok (.aload_n 0, 1) := by decide +kernel
theorem dX7_readWagons_263 : decode cX7_readWagons 263 = .ok (.getfield 130, 3) := by decide +kernel
theorem dX7_readWagons_266 : decode cX7_readWagons 266 = .ok (.bipush (-9), 2) := by decide +kernel
theorem dX7_readWagons_268 : decode cX7_readWagons 268 = .ok (.if_icmp .ne 17, 3) := by decide +kernel
theorem dX7_readWagons_271 : decode cX7_readWagons 271 = .ok (.iload_n 1, 1) := by decide +kernel
theorem dX7_readWagons_272 : decode cX7_readWagons 272 = .ok (.iconst 1, 1) := by decide +kernel
theorem dX7_readWagons_273 : decode cX7_readWagons 273 = .ok (.if_icmp .ne 12, 3) := by decide +kernel
theorem dX7_readWagons_276 : decode cX7_readWagons 276 = .ok (.aload_n 0, 1) := by decide +kernel
theorem dX7_readWagons_277 : decode cX7_readWagons 277 = .ok (.iconst 2, 1) := by decide +kernel
theorem dX7_readWagons_278 : decode cX7_readWagons 278 = .ok (.aload_n 0, 1) := by decide +kernel
theorem dX7_readWagons_279 : decode cX7_readWagons 279 = .ok (.getfield 142, 3) := by decide +kernel
theorem dX7_readWagons_282 : decode cX7_readWagons 282 = .ok (.invokevirtual 136, 3) := by decide +kernel
theorem dX7_readWagons_285 : decode cX7_readWagons 285 = .ok (.return_, 1) := by decide +kernel
theorem dX7_readList_0 : decode cX7_readList 0 = .ok (.aload_n 0, 1) := by decide +kernel
theorem dX7_readList_1 : decode cX7_readList 1 = .ok (.bipush (-9), 2) := by decide +kernel
theorem dX7_readList_3 : decode cX7_readList 3 = .ok (.bipush (-9), 2) := by decide +kernel
theorem dX7_readList_5 : decode cX7_readList 5 = .ok (.invokevirtual 136, 3) := by decide +kernel
theorem dX7_readList_8 : decode cX7_readList 8 = .ok (.aload_n 0, 1) := by decide +kernel
theorem dX7_readList_9 : decode cX7_readList 9 = .ok (.iconst 0, 1) := by decide +kernel
theorem dX7_readList_10 : decode cX7_readList 10 = .ok (.putfield 139, 3) := by decide +kernel
theorem dX7_readList_13 : decode cX7_readList 13 = .ok (.iconst 0, 1) := by decide +kernel
theorem dX7_readList_14 : decode cX7_readList 14 = .ok (.istore_n 1, 1) := by decide +kernel
theorem dX7_readList_15 : decode cX7_readList 15 = .ok (.iload_n 1, 1) := by decide +kernel
theorem dX7_readList_16 : decode cX7_readList 16 = .ok (.aload_n 0, 1) := by decide +kernel
theorem dX7_readList_17 : decode cX7_readList 17 = .ok (.getfield 142, 3) := by decide +kernel
theorem dX7_readList_20 : decode cX7_readList 20 = .ok (.if_icmp .ge 88, 3) := by decide +kernel
theorem dX7_readList_23 : decode cX7_readList 23 = .ok (.aload_n 0, 1) := by decide +kernel
theorem dX7_readList_24 : decode cX7_readList 24 = .ok (.getfield 130, 3) := by decide +kernel
theorem dX7_readList_27 : decode cX7_readList 27 = .ok (.bipush (-9), 2) := by decide +kernel
theorem dX7_readList_29 : decode cX7_readList 29 = .ok (.if_icmp .ne 79, 3) := by decide +kernel
theorem dX7_readList_32 : decode cX7_readList 32 = .ok (.aload_n 0, 1) := by decide +kernel
theorem dX7_readList_33 : decode cX7_readList 33 = .ok (.getfield 19, 3) := by decide +kernel
theorem dX7_readList_36 : decode cX7_readList 36 = .ok (.iload_n 1, 1) := by decide +kernel
theorem dX7_readList_37 : decode cX7_readList 37 = .ok (.iaload, 1) := by decide +kernel
theorem dX7_readList_38 : decode cX7_readList 38 = .ok (.istore_n 2, 1) := by decide +kernel
theorem dX7_readList_39 : decode cX7_readList 39 = .ok (.iload_n 2, 1) := by decide +kernel
theorem dX7_readList_40 : decode cX7_readList 40 = .ok (.invokestatic 145, 3) := by decide +kernel
theorem dX7_readList_43 : decode cX7_readList 43 = .ok (.ifCond .eq 47, 3) := by decide +kernel
theorem dX7_readList_46 : decode cX7_readList 46 = .ok (.aload_n 0, 1) := by decide +kernel
theorem dX7_readList_47 : decode cX7_readList 47 = .ok (.getfield 139, 3) := by decide +kernel
theorem dX7_readList_50 : decode cX7_readList 50 = .ok (.bipush 10, 2) := by decide +kernel
theorem dX7_readList_52 : decode cX7_readList 52 = .ok (.if_icmp .ne 12, 3) := by decide +kernel
theorem dX7_readList_55 : decode cX7_readList 55 = .ok (.aload_n 0, 1) := by decide +kernel
theorem dX7_readList_56 : decode cX7_readList 56 = .ok (.iconst 4, 1) := by decide +kernel
theorem dX7_readList_57 : decode cX7_readList 57 = .ok (.iload_n 1, 1) := by decide +kernel
theorem dX7_readList_58 : decode cX7_readList 58 = .ok (.invokevirtual 136, 3) := by decide +kernel
theorem dX7_readList_61 : decode cX7_readList 61 = .ok (.goto 41, 3) := by decide +kernel
theorem dX7_readList_64 : decode cX7_readList 64 = .ok (.aload_n 0, 1) := by decide +kernel
theorem dX7_readList_65 : decode cX7_readList 65 = .ok (.getfield 41, 3) := by decide +kernel
theorem dX7_readList_68 : decode cX7_readList 68 = .ok (.aload_n 0, 1) := by decide +kernel
theorem dX7_readList_69 : decode cX7_readList 69 = .ok (.getfield 139, 3) := by decide +kernel
theorem dX7_readList_72 : decode cX7_readList 72 = .ok (.iload_n 2, 1) := by decide +kernel
theorem dX7_readList_73 : decode cX7_readList 73 = .ok (.bipush 65, 2) := by decide +kernel
theorem dX7_readList_75 : decode cX7_readList 75 = .ok (.isub, 1) := by decide +kernel
theorem dX7_readList_76 : decode cX7_readList 76 = .ok (.iastore, 1) := by decide +kernel
theorem dX7_readList_77 : decode cX7_readList 77 = .ok (.aload_n 0, 1) := by decide +kernel
theorem dX7_readList_78 : decode cX7_readList 78 = .ok (.dup, 1) := by decide +kernel
theorem dX7_readList_79 : decode cX7_readList 79 = .ok (.getfield 139, 3) := by decide +kernel
theorem dX7_readList_82 : decode cX7_readList 82 = .ok (.iconst 1, 1) := by decide +kernel
theorem dX7_readList_83 : decode cX7_readList 83 = .ok (.iadd, 1) := by decide +kernel
theorem dX7_readList_84 : decode cX7_readList 84 = .ok (.putfield 139, 3) := by decide +kernel
theorem dX7_readList_87 : decode cX7_readList 87 = .ok (.goto 15, 3) := by decide +kernel
theorem dX7_readList_90 : decode cX7_readList 90 = .ok (.iload_n 2, 1) := by decide +kernel
theorem dX7_readList_91 : decode cX7_readList 91 = .ok (.bipush 32, 2) := by decide +kernel
theorem dX7_readList_93 : decode cX7_readList 93 = .ok (.if_icmp .eq 9, 3) := by decide +kernel
theorem dX7_readList_96 : decode cX7_readList 96 = .ok (.aload_n 0, 1) := by decide +kernel
theorem dX7_readList_97 : decode cX7_readList 97 = .ok (.iconst 1, 1) := by decide +kernel
theorem dX7_readList_98 : decode cX7_readList 98 = .ok (.iload_n 1, 1) := by decide +kernel
theorem dX7_readList_99 : decode cX7_readList 99 = .ok (.invokevirtual 136, 3) := by decide +kernel
theorem dX7_readList_102 : decode cX7_readList 102 = .ok (.iinc 1 1, 3) := by decide +kernel
theorem dX7_readList_105 : decode cX7_readList 105 = .ok (.goto (-90), 3) := by decide +kernel
theorem dX7_readList_108 : decode cX7_readList 108 = .ok (.return_, 1) := by decide +kernel
theorem dX7_hasFault_0 : decode cX7_hasFault 0 = .ok (.aload_n 0, 1) := by decide +kernel
theorem dX7_hasFault_1 : decode cX7_hasFault 1 = .ok (.getfield 130, 3) := by decide +kernel
theorem dX7_hasFault_4 : decode cX7_hasFault 4 = .ok (.bipush (-9), 2) := by decide +kernel
theorem dX7_hasFault_6 : decode cX7_hasFault 6 = .ok (.if_icmp .eq 19, 3) := by decide +kernel
theorem dX7_hasFault_9 : decode cX7_hasFault 9 = .ok (.aload_n 0, 1) := by decide +kernel
theorem dX7_hasFault_10 : decode cX7_hasFault 10 = .ok (.aload_n 0, 1) := by decide +kernel
theorem dX7_hasFault_11 : decode cX7_hasFault 11 = .ok (.getfield 130, 3) := by decide +kernel
theorem dX7_hasFault_14 : decode cX7_hasFault 14 = .ok (.putfield 22, 3) := by decide +kernel
theorem dX7_hasFault_17 : decode cX7_hasFault 17 = .ok (.aload_n 0, 1) := by decide +kernel
theorem dX7_hasFault_18 : decode cX7_hasFault 18 = .ok (.aload_n 0, 1) := by decide +kernel
theorem dX7_hasFault_19 : decode cX7_hasFault 19 = .ok (.getfield 133, 3) := by decide +kernel
theorem dX7_hasFault_22 : decode cX7_hasFault 22 = .ok (.putfield 26, 3) := by decide +kernel
theorem dX7_hasFault_25 : decode cX7_hasFault 25 = .ok (.aload_n 0, 1) := by decide +kernel
theorem dX7_hasFault_26 : decode cX7_hasFault 26 = .ok (.getfield 130, 3) := by decide +kernel
theorem dX7_hasFault_29 : decode cX7_hasFault 29 = .ok (.bipush (-9), 2) := by decide +kernel
theorem dX7_hasFault_31 : decode cX7_hasFault 31 = .ok (.if_icmp .eq 7, 3) := by decide +kernel
theorem dX7_hasFault_34 : decode cX7_hasFault 34 = .ok (.iconst 1, 1) := by decide +kernel
theorem dX7_hasFault_35 : decode cX7_hasFault 35 = .ok (.goto 4, 3) := by decide +kernel
theorem dX7_hasFault_38 : decode cX7_hasFault 38 = .ok (.iconst 0, 1) := by decide +kernel
theorem dX7_hasFault_39 : decode cX7_hasFault 39 = .ok (.ireturn, 1) := by decide +kernel
theorem dX7_arrive_0 : decode cX7_arrive 0 = .ok (.aload_n 0, 1) := by decide +kernel
theorem dX7_arrive_1 : decode cX7_arrive 1 = .ok (.iload_n 1, 1) := by decide +kernel
theorem dX7_arrive_2 : decode cX7_arrive 2 = .ok (.invokevirtual 89, 3) := by decide +kernel
theorem dX7_arrive_5 : decode cX7_arrive 5 = .ok (.ifCond .ne 5, 3) := by decide +kernel
theorem dX7_arrive_8 : decode cX7_arrive 8 = .ok (.iconst (-1), 1) := by decide +kernel
theorem dX7_arrive_9 : decode cX7_arrive 9 = .ok (.ireturn, 1) := by decide +kernel
theorem dX7_arrive_10 : decode cX7_arrive 10 = .ok (.aload_n 0, 1) := by decide +kernel
theorem dX7_arrive_11 : decode cX7_arrive 11 = .ok (.invokevirtual 148, 3) := by decide +kernel
theorem dX7_arrive_14 : decode cX7_arrive 14 = .ok (.aload_n 0, 1) := by decide +kernel
theorem dX7_arrive_15 : decode cX7_arrive 15 = .ok (.invokevirtual 151, 3) := by decide +kernel
theorem dX7_arrive_18 : decode cX7_arrive 18 = .ok (.ifCond .eq 6, 3) := by decide +kernel
theorem dX7_arrive_21 : decode cX7_arrive 21 = .ok (.bipush (-2), 2) := by decide +kernel
theorem dX7_arrive_23 : decode cX7_arrive 23 = .ok (.ireturn, 1) := by decide +kernel
theorem dX7_arrive_24 : decode cX7_arrive 24 = .ok (.aload_n 0, 1) := by decide +kernel
theorem dX7_arrive_25 : decode cX7_arrive 25 = .ok (.iload_n 1, 1) := by decide +kernel
theorem dX7_arrive_26 : decode cX7_arrive 26 = .ok (.aload_n 0, 1) := by decide +kernel
theorem dX7_arrive_27 : decode cX7_arrive 27 = .ok (.iload_n 1, 1) := by decide +kernel
theorem dX7_arrive_28 : decode cX7_arrive 28 = .ok (.iconst 0, 1) := by decide +kernel
theorem dX7_arrive_29 : decode cX7_arrive 29 = .ok (.invokevirtual 63, 3) := by decide +kernel
theorem dX7_arrive_32 : decode cX7_arrive 32 = .ok (.invokevirtual 81, 3) := by decide +kernel
theorem dX7_arrive_35 : decode cX7_arrive 35 = .ok (.iconst 0, 1) := by decide +kernel
theorem dX7_arrive_36 : decode cX7_arrive 36 = .ok (.istore_n 2, 1) := by decide +kernel
theorem dX7_arrive_37 : decode cX7_arrive 37 = .ok (.iload_n 2, 1) := by decide +kernel
theorem dX7_arrive_38 : decode cX7_arrive 38 = .ok (.aload_n 0, 1) := by decide +kernel
theorem dX7_arrive_39 : decode cX7_arrive 39 = .ok (.getfield 139, 3) := by decide +kernel
theorem dX7_arrive_42 : decode cX7_arrive 42 = .ok (.if_icmp .ge 19, 3) := by decide +kernel
theorem dX7_arrive_45 : decode cX7_arrive 45 = .ok (.aload_n 0, 1) := by decide +kernel
theorem dX7_arrive_46 : decode cX7_arrive 46 = .ok (.aload_n 0, 1) := by decide +kernel
theorem dX7_arrive_47 : decode cX7_arrive 47 = .ok (.getfield 38, 3) := by decide +kernel
theorem dX7_arrive_50 : decode cX7_arrive 50 = .ok (.iload_n 2, 1) := by decide +kernel
theorem dX7_arrive_51 : decode cX7_arrive 51 = .ok (.iaload, 1) := by decide +kernel
theorem dX7_arrive_52 : decode cX7_arrive 52 = .ok (.invokevirtual 73, 3) := by decide +kernel
theorem dX7_arrive_55 : decode cX7_arrive 55 = .ok (.iinc 2 1, 3) := by decide +kernel
theorem dX7_arrive_58 : decode cX7_arrive 58 = .ok (.goto (-21), 3) := by decide +kernel
theorem dX7_arrive_61 : decode cX7_arrive 61 = .ok (.aload_n 0, 1) := by decide +kernel
theorem dX7_arrive_62 : decode cX7_arrive 62 = .ok (.invokevirtual 85, 3) := by decide +kernel
theorem dX7_arrive_65 : decode cX7_arrive 65 = .ok (.ifCond .ne 6, 3) := by decide +kernel
theorem dX7_arrive_68 : decode cX7_arrive 68 = .ok (.bipush (-2), 2) := by decide +kernel
theorem dX7_arrive_70 : decode cX7_arrive 70 = .ok (.ireturn, 1) := by decide +kernel
theorem dX7_arrive_71 : decode cX7_arrive 71 = .ok (.aload_n 0, 1) := by decide +kernel
theorem dX7_arrive_72 : decode cX7_arrive 72 = .ok (.iload_n 1, 1) := by decide +kernel
theorem dX7_arrive_73 : decode cX7_arrive 73 = .ok (.iconst 0, 1) := by decide +kernel
theorem dX7_arrive_74 : decode cX7_arrive 74 = .ok (.invokevirtual 63, 3) := by decide +kernel
theorem dX7_arrive_77 : decode cX7_arrive 77 = .ok (.aload_n 0, 1) := by decide +kernel
theorem dX7_arrive_78 : decode cX7_arrive 78 = .ok (.getfield 139, 3) := by decide +kernel
theorem dX7_arrive_81 : decode cX7_arrive 81 = .ok (.iadd, 1) := by decide +kernel
theorem dX7_arrive_82 : decode cX7_arrive 82 = .ok (.aload_n 0, 1) := by decide +kernel
theorem dX7_arrive_83 : decode cX7_arrive 83 = .ok (.getfield 7, 3) := by decide +kernel
theorem dX7_arrive_86 : decode cX7_arrive 86 = .ok (.iconst 5, 1) := by decide +kernel
theorem dX7_arrive_87 : decode cX7_arrive 87 = .ok (.iaload, 1) := by decide +kernel
theorem dX7_arrive_88 : decode cX7_arrive 88 = .ok (.if_icmp .le 6, 3) := by decide +kernel
theorem dX7_arrive_91 : decode cX7_arrive 91 = .ok (.bipush (-3), 2) := by decide +kernel
theorem dX7_arrive_93 : decode cX7_arrive 93 = .ok (.ireturn, 1) := by decide +kernel
theorem dX7_arrive_94 : decode cX7_arrive 94 = .ok (.aload_n 0, 1) := by decide +kernel
theorem dX7_arrive_95 : decode cX7_arrive 95 = .ok (.invokevirtual 107, 3) := by decide +kernel
theorem dX7_arrive_98 : decode cX7_arrive 98 = .ok (.iconst 0, 1) := by decide +kernel
theorem dX7_arrive_99 : decode cX7_arrive 99 = .ok (.istore_n 2, 1) := by decide +kernel
theorem dX7_arrive_100 : decode cX7_arrive 100 = .ok (.iload_n 2, 1) := by decide +kernel
theorem dX7_arrive_101 : decode cX7_arrive 101 = .ok (.aload_n 0, 1) := by decide +kernel
theorem dX7_arrive_102 : decode cX7_arrive 102 = .ok (.getfield 139, 3) := by decide +kernel
theorem dX7_arrive_105 : decode cX7_arrive 105 = .ok (.if_icmp .ge 93, 3) := by decide +kernel
theorem dX7_arrive_108 : decode cX7_arrive 108 = .ok (.iconst 3, 1) := by decide +kernel
theorem dX7_arrive_109 : decode cX7_arrive 109 = .ok (.iconst 3, 1) := by decide +kernel
theorem dX7_arrive_110 : decode cX7_arrive 110 = .ok (.aload_n 0, 1) := by decide +kernel
theorem dX7_arrive_111 : decode cX7_arrive 111 = .ok (.iload_n 1, 1) := by decide +kernel
theorem dX7_arrive_112 : decode cX7_arrive 112 = .ok (.iconst 0, 1) := by decide +kernel
theorem dX7_arrive_113 : decode cX7_arrive 113 = .ok (.invokevirtual 63, 3) := by decide +kernel
theorem dX7_arrive_116 : decode cX7_arrive 116 = .ok (.imul, 1) := by decide +kernel
theorem dX7_arrive_117 : decode cX7_arrive 117 = .ok (.iadd, 1) := by decide +kernel
theorem dX7_arrive_118 : decode cX7_arrive 118 = .ok (.istore_n 3, 1) := by decide +kernel
theorem dX7_arrive_119 : decode cX7_arrive 119 = .ok (.aload_n 0, 1) := by decide +kernel
theorem dX7_arrive_120 : decode cX7_arrive 120 = .ok (.iload_n 1, 1) := by decide +kernel
theorem dX7_arrive_121 : decode cX7_arrive 121 = .ok (.iload_n 3, 1) := by decide +kernel
theorem dX7_arrive_122 : decode cX7_arrive 122 = .ok (.aload_n 0, 1) := by decide +kernel
theorem dX7_arrive_123 : decode cX7_arrive 123 = .ok (.getfield 7, 3) := by decide +kernel
theorem dX7_arrive_126 : decode cX7_arrive 126 = .ok (.bipush 7, 2) := by decide +kernel
theorem dX7_arrive_128 : decode cX7_arrive 128 = .ok (.iaload, 1) := by decide +kernel
theorem dX7_arrive_129 : decode cX7_arrive 129 = .ok (.invokevirtual 93, 3) := by decide +kernel
theorem dX7_arrive_132 : decode cX7_arrive 132 = .ok (.aload_n 0, 1) := by decide +kernel
theorem dX7_arrive_133 : decode cX7_arrive 133 = .ok (.iload_n 1, 1) := by decide +kernel
theorem dX7_arrive_134 : decode cX7_arrive 134 = .ok (.iload_n 3, 1) := by decide +kernel
theorem dX7_arrive_135 : decode cX7_arrive 135 = .ok (.iconst 1, 1) := by decide +kernel
theorem dX7_arrive_136 : decode cX7_arrive 136 = .ok (.iadd, 1) := by decide +kernel
theorem dX7_arrive_137 : decode cX7_arrive 137 = .ok (.aload_n 0, 1) := by decide +kernel
theorem dX7_arrive_138 : decode cX7_arrive 138 = .ok (.getfield 35, 3) := by decide +kernel
theorem dX7_arrive_141 : decode cX7_arrive 141 = .ok (.iload_n 2, 1) := by decide +kernel
theorem dX7_arrive_142 : decode cX7_arrive 142 = .ok (.iaload, 1) := by decide +kernel
theorem dX7_arrive_143 : decode cX7_arrive 143 = .ok (.invokevirtual 93, 3) := by decide +kernel
theorem dX7_arrive_146 : decode cX7_arrive 146 = .ok (.aload_n 0, 1) := by decide +kernel
theorem dX7_arrive_147 : decode cX7_arrive 147 = .ok (.iload_n 1, 1) := by decide +kernel
theorem dX7_arrive_148 : decode cX7_arrive 148 = .ok (.iload_n 3, 1) := by decide +kernel
theorem dX7_arrive_149 : decode cX7_arrive 149 = .ok (.iconst 2, 1) := by decide +kernel
theorem dX7_arrive_150 : decode cX7_arrive 150 = .ok (.iadd, 1) := by decide +kernel
theorem dX7_arrive_151 : decode cX7_arrive 151 = .ok (.aload_n 0, 1) := by decide +kernel
theorem dX7_arrive_152 : decode cX7_arrive 152 = .ok (.getfield 38, 3) := by decide +kernel
theorem dX7_arrive_155 : decode cX7_arrive 155 = .ok (.iload_n 2, 1) := by decide +kernel
theorem dX7_arrive_156 : decode cX7_arrive 156 = .ok (.iaload, 1) := by decide +kernel
theorem dX7_arrive_157 : decode cX7_arrive 157 = .ok (.invokevirtual 93, 3) := by decide +kernel
theorem dX7_arrive_160 : decode cX7_arrive 160 = .ok (.aload_n 0, 1) := by decide +kernel
theorem dX7_arrive_161 : decode cX7_arrive 161 = .ok (.iload_n 1, 1) := by decide +kernel
theorem dX7_arrive_162 : decode cX7_arrive 162 = .ok (.iconst 0, 1) := by decide +kernel
theorem dX7_arrive_163 : decode cX7_arrive 163 = .ok (.aload_n 0, 1) := by decide +kernel
theorem dX7_arrive_164 : decode cX7_arrive 164 = .ok (.iload_n 1, 1) := by decide +kernel
theorem dX7_arrive_165 : decode cX7_arrive 165 = .ok (.iconst 0, 1) := by decide +kernel
theorem dX7_arrive_166 : decode cX7_arrive 166 = .ok (.invokevirtual 63, 3) := by decide +kernel
theorem dX7_arrive_169 : decode cX7_arrive 169 = .ok (.iconst 1, 1) := by decide +kernel
theorem dX7_arrive_170 : decode cX7_arrive 170 = .ok (.iadd, 1) := by decide +kernel
theorem dX7_arrive_171 : decode cX7_arrive 171 = .ok (.invokevirtual 93, 3) := by decide +kernel
theorem dX7_arrive_174 : decode cX7_arrive 174 = .ok (.aload_n 0, 1) := by decide +kernel
theorem dX7_arrive_175 : decode cX7_arrive 175 = .ok (.iload_n 1, 1) := by decide +kernel
theorem dX7_arrive_176 : decode cX7_arrive 176 = .ok (.iconst 1, 1) := by decide +kernel
theorem dX7_arrive_177 : decode cX7_arrive 177 = .ok (.iconst 0, 1) := by decide +kernel
theorem dX7_arrive_178 : decode cX7_arrive 178 = .ok (.invokevirtual 93, 3) := by decide +kernel
theorem dX7_arrive_181 : decode cX7_arrive 181 = .ok (.aload_n 0, 1) := by decide +kernel
theorem dX7_arrive_182 : decode cX7_arrive 182 = .ok (.getfield 7, 3) := by decide +kernel
theorem dX7_arrive_185 : decode cX7_arrive 185 = .ok (.bipush 7, 2) := by decide +kernel
theorem dX7_arrive_187 : decode cX7_arrive 187 = .ok (.dup2, 1) := by decide +kernel
theorem dX7_arrive_188 : decode cX7_arrive 188 = .ok (.iaload, 1) := by decide +kernel
theorem dX7_arrive_189 : decode cX7_arrive 189 = .ok (.iconst 1, 1) := by decide +kernel
theorem dX7_arrive_190 : decode cX7_arrive 190 = .ok (.iadd, 1) := by decide +kernel
theorem dX7_arrive_191 : decode cX7_arrive 191 = .ok (.iastore, 1) := by decide +kernel
theorem dX7_arrive_192 : decode cX7_arrive 192 = .ok (.iinc 2 1, 3) := by decide +kernel
theorem dX7_arrive_195 : decode cX7_arrive 195 = .ok (.goto (-95), 3) := by decide +kernel
theorem dX7_arrive_198 : decode cX7_arrive 198 = .ok (.aload_n 0, 1) := by decide +kernel
theorem dX7_arrive_199 : decode cX7_arrive 199 = .ok (.iload_n 1, 1) := by decide +kernel
theorem dX7_arrive_200 : decode cX7_arrive 200 = .ok (.iconst 0, 1) := by decide +kernel
theorem dX7_arrive_201 : decode cX7_arrive 201 = .ok (.invokevirtual 63, 3) := by decide +kernel
theorem dX7_arrive_204 : decode cX7_arrive 204 = .ok (.ireturn, 1) := by decide +kernel
theorem dX7_list_0 : decode cX7_list 0 = .ok (.aload_n 0, 1) := by decide +kernel
theorem dX7_list_1 : decode cX7_list 1 = .ok (.invokevirtual 154, 3) := by decide +kernel
theorem dX7_list_4 : decode cX7_list 4 = .ok (.aload_n 0, 1) := by decide +kernel
theorem dX7_list_5 : decode cX7_list 5 = .ok (.invokevirtual 151, 3) := by decide +kernel
theorem dX7_list_8 : decode cX7_list 8 = .ok (.ifCond .eq 6, 3) := by decide +kernel
theorem dX7_list_11 : decode cX7_list 11 = .ok (.bipush (-2), 2) := by decide +kernel
theorem dX7_list_13 : decode cX7_list 13 = .ok (.ireturn, 1) := by decide +kernel
theorem dX7_list_14 : decode cX7_list 14 = .ok (.aload_n 0, 1) := by decide +kernel
theorem dX7_list_15 : decode cX7_list 15 = .ok (.invokevirtual 107, 3) := by decide +kernel
theorem dX7_list_18 : decode cX7_list 18 = .ok (.aload_n 0, 1) := by decide +kernel
theorem dX7_list_19 : decode cX7_list 19 = .ok (.getfield 7, 3) := by decide +kernel
theorem dX7_list_22 : decode cX7_list 22 = .ok (.bipush 12, 2) := by decide +kernel
theorem dX7_list_24 : decode cX7_list 24 = .ok (.aload_n 0, 1) := by decide +kernel
theorem dX7_list_25 : decode cX7_list 25 = .ok (.getfield 139, 3) := by decide +kernel
theorem dX7_list_28 : decode cX7_list 28 = .ok (.iastore, 1) := by decide +kernel
theorem dX7_list_29 : decode cX7_list 29 = .ok (.iconst 0, 1) := by decide +kernel
theorem dX7_list_30 : decode cX7_list 30 = .ok (.istore_n 1, 1) := by decide +kernel
theorem dX7_list_31 : decode cX7_list 31 = .ok (.iload_n 1, 1) := by decide +kernel
theorem dX7_list_32 : decode cX7_list 32 = .ok (.aload_n 0, 1) := by decide +kernel
theorem dX7_list_33 : decode cX7_list 33 = .ok (.getfield 139, 3) := by decide +kernel
theorem dX7_list_36 : decode cX7_list 36 = .ok (.if_icmp .ge 24, 3) := by decide +kernel
theorem dX7_list_39 : decode cX7_list 39 = .ok (.aload_n 0, 1) := by decide +kernel
theorem dX7_list_40 : decode cX7_list 40 = .ok (.getfield 7, 3) := by decide +kernel
theorem dX7_list_43 : decode cX7_list 43 = .ok (.bipush 13, 2) := by decide +kernel
theorem dX7_list_45 : decode cX7_list 45 = .ok (.iload_n 1, 1) := by decide +kernel
theorem dX7_list_46 : decode cX7_list 46 = .ok (.iadd, 1) := by decide +kernel
theorem dX7_list_47 : decode cX7_list 47 = .ok (.aload_n 0, 1) := by decide +kernel
theorem dX7_list_48 : decode cX7_list 48 = .ok (.getfield 41, 3) := by decide +kernel
theorem dX7_list_51 : decode cX7_list 51 = .ok (.iload_n 1, 1) := by decide +kernel
theorem dX7_list_52 : decode cX7_list 52 = .ok (.iaload, 1) := by decide +kernel
theorem dX7_list_53 : decode cX7_list 53 = .ok (.iastore, 1) := by decide +kernel
theorem dX7_list_54 : decode cX7_list 54 = .ok (.iinc 1 1, 3) := by decide +kernel
theorem dX7_list_57 : decode cX7_list 57 = .ok (.goto (-26), 3) := by decide +kernel
theorem dX7_list_60 : decode cX7_list 60 = .ok (.aload_n 0, 1) := by decide +kernel
theorem dX7_list_61 : decode cX7_list 61 = .ok (.getfield 139, 3) := by decide +kernel
theorem dX7_list_64 : decode cX7_list 64 = .ok (.ireturn, 1) := by decide +kernel
theorem dX7_write_0 : decode cX7_write 0 = .ok (.iload_n 1, 1) := by decide +kernel
theorem dX7_write_1 : decode cX7_write 1 = .ok (.bipush 32, 2) := by decide +kernel
theorem dX7_write_3 : decode cX7_write 3 = .ok (.bipush 126, 2) := by decide +kernel
theorem dX7_write_5 : decode cX7_write 5 = .ok (.invokestatic 59, 3) := by decide +kernel
theorem dX7_write_8 : decode cX7_write 8 = .ok (.ifCond .ne 5, 3) := by decide +kernel
theorem dX7_write_11 : decode cX7_write 11 = .ok (.iconst (-1), 1) := by decide +kernel
theorem dX7_write_12 : decode cX7_write 12 = .ok (.ireturn, 1) := by decide +kernel
theorem dX7_write_13 : decode cX7_write 13 = .ok (.aload_n 0, 1) := by decide +kernel
theorem dX7_write_14 : decode cX7_write 14 = .ok (.getfield 142, 3) := by decide +kernel
theorem dX7_write_17 : decode cX7_write 17 = .ok (.bipush 60, 2) := by decide +kernel
theorem dX7_write_19 : decode cX7_write 19 = .ok (.if_icmp .ne 6, 3) := by decide +kernel
theorem dX7_write_22 : decode cX7_write 22 = .ok (.bipush (-3), 2) := by decide +kernel
theorem dX7_write_24 : decode cX7_write 24 = .ok (.ireturn, 1) := by decide +kernel
theorem dX7_write_25 : decode cX7_write 25 = .ok (.aload_n 0, 1) := by decide +kernel
theorem dX7_write_26 : decode cX7_write 26 = .ok (.getfield 19, 3) := by decide +kernel
theorem dX7_write_29 : decode cX7_write 29 = .ok (.aload_n 0, 1) := by decide +kernel
theorem dX7_write_30 : decode cX7_write 30 = .ok (.getfield 142, 3) := by decide +kernel
theorem dX7_write_33 : decode cX7_write 33 = .ok (.iload_n 1, 1) := by decide +kernel
theorem dX7_write_34 : decode cX7_write 34 = .ok (.iastore, 1) := by decide +kernel
theorem dX7_write_35 : decode cX7_write 35 = .ok (.aload_n 0, 1) := by decide +kernel
theorem dX7_write_36 : decode cX7_write 36 = .ok (.dup, 1) := by decide +kernel
theorem dX7_write_37 : decode cX7_write 37 = .ok (.getfield 142, 3) := by decide +kernel
theorem dX7_write_40 : decode cX7_write 40 = .ok (.iconst 1, 1) := by decide +kernel
theorem dX7_write_41 : decode cX7_write 41 = .ok (.iadd, 1) := by decide +kernel
theorem dX7_write_42 : decode cX7_write 42 = .ok (.putfield 142, 3) := by decide +kernel
theorem dX7_write_45 : decode cX7_write 45 = .ok (.aload_n 0, 1) := by decide +kernel
theorem dX7_write_46 : decode cX7_write 46 = .ok (.getfield 142, 3) := by decide +kernel
theorem dX7_write_49 : decode cX7_write 49 = .ok (.ireturn, 1) := by decide +kernel
theorem dX7_wipe_0 : decode cX7_wipe 0 = .ok (.aload_n 0, 1) := by decide +kernel
theorem dX7_wipe_1 : decode cX7_wipe 1 = .ok (.getfield 142, 3) := by decide +kernel
theorem dX7_wipe_4 : decode cX7_wipe 4 = .ok (.istore_n 1, 1) := by decide +kernel
theorem dX7_wipe_5 : decode cX7_wipe 5 = .ok (.aload_n 0, 1) := by decide +kernel
theorem dX7_wipe_6 : decode cX7_wipe 6 = .ok (.iconst 0, 1) := by decide +kernel
theorem dX7_wipe_7 : decode cX7_wipe 7 = .ok (.putfield 142, 3) := by decide +kernel
theorem dX7_wipe_10 : decode cX7_wipe 10 = .ok (.iload_n 1, 1) := by decide +kernel
theorem dX7_wipe_11 : decode cX7_wipe 11 = .ok (.ireturn, 1) := by decide +kernel
theorem dX7_fault_0 : decode cX7_fault 0 = .ok (.iload_n 1, 1) := by decide +kernel
theorem dX7_fault_1 : decode cX7_fault 1 = .ok (.ifCond .ne 10, 3) := by decide +kernel
theorem dX7_fault_4 : decode cX7_fault 4 = .ok (.aload_n 0, 1) := by decide +kernel
theorem dX7_fault_5 : decode cX7_fault 5 = .ok (.getfield 22, 3) := by decide +kernel
theorem dX7_fault_8 : decode cX7_fault 8 = .ok (.goto 16, 3) := by decide +kernel
theorem dX7_fault_11 : decode cX7_fault 11 = .ok (.iload_n 1, 1) := by decide +kernel
theorem dX7_fault_12 : decode cX7_fault 12 = .ok (.iconst 1, 1) := by decide +kernel
theorem dX7_fault_13 : decode cX7_fault 13 = .ok (.if_icmp .ne 10, 3) := by decide +kernel
theorem dX7_fault_16 : decode cX7_fault 16 = .ok (.aload_n 0, 1) := by decide +kernel
theorem dX7_fault_17 : decode cX7_fault 17 = .ok (.getfield 26, 3) := by decide +kernel
theorem dX7_fault_20 : decode cX7_fault 20 = .ok (.goto 4, 3) := by decide +kernel
theorem dX7_fault_23 : decode cX7_fault 23 = .ok (.iconst (-1), 1) := by decide +kernel
theorem dX7_fault_24 : decode cX7_fault 24 = .ok (.ireturn, 1) := by decide +kernel
theorem dX7_madeUp_0 : decode cX7_madeUp 0 = .ok (.aload_n 0, 1) := by decide +kernel
theorem dX7_madeUp_1 : decode cX7_madeUp 1 = .ok (.getfield 7, 3) := by decide +kernel
theorem dX7_madeUp_4 : decode cX7_madeUp 4 = .ok (.bipush 12, 2) := by decide +kernel
theorem dX7_madeUp_6 : decode cX7_madeUp 6 = .ok (.iaload, 1) := by decide +kernel
theorem dX7_madeUp_7 : decode cX7_madeUp 7 = .ok (.ifCond .ne 6, 3) := by decide +kernel
theorem dX7_madeUp_10 : decode cX7_madeUp 10 = .ok (.bipush (-9), 2) := by decide +kernel
theorem dX7_madeUp_12 : decode cX7_madeUp 12 = .ok (.ireturn, 1) := by decide +kernel
theorem dX7_madeUp_13 : decode cX7_madeUp 13 = .ok (.bipush (-9), 2) := by decide +kernel
theorem dX7_madeUp_15 : decode cX7_madeUp 15 = .ok (.istore_n 1, 1) := by decide +kernel
theorem dX7_madeUp_16 : decode cX7_madeUp 16 = .ok (.iconst 0, 1) := by decide +kernel
theorem dX7_madeUp_17 : decode cX7_madeUp 17 = .ok (.istore_n 2, 1) := by decide +kernel
theorem dX7_madeUp_18 : decode cX7_madeUp 18 = .ok (.iload_n 2, 1) := by decide +kernel
theorem dX7_madeUp_19 : decode cX7_madeUp 19 = .ok (.aload_n 0, 1) := by decide +kernel
theorem dX7_madeUp_20 : decode cX7_madeUp 20 = .ok (.getfield 7, 3) := by decide +kernel
theorem dX7_madeUp_23 : decode cX7_madeUp 23 = .ok (.iconst 4, 1) := by decide +kernel
theorem dX7_madeUp_24 : decode cX7_madeUp 24 = .ok (.iaload, 1) := by decide +kernel
theorem dX7_madeUp_25 : decode cX7_madeUp 25 = .ok (.if_icmp .ge 47, 3) := by decide +kernel
theorem dX7_madeUp_28 : decode cX7_madeUp 28 = .ok (.aload_n 0, 1) := by decide +kernel
theorem dX7_madeUp_29 : decode cX7_madeUp 29 = .ok (.iload_n 2, 1) := by decide +kernel
theorem dX7_madeUp_30 : decode cX7_madeUp 30 = .ok (.aload_n 0, 1) := by decide +kernel
theorem dX7_madeUp_31 : decode cX7_madeUp 31 = .ok (.getfield 7, 3) := by decide +kernel
theorem dX7_madeUp_34 : decode cX7_madeUp 34 = .ok (.bipush 13, 2) := by decide +kernel
theorem dX7_madeUp_36 : decode cX7_madeUp 36 = .ok (.iaload, 1) := by decide +kernel
theorem dX7_madeUp_37 : decode cX7_madeUp 37 = .ok (.invokevirtual 117, 3) := by decide +kernel
theorem dX7_madeUp_40 : decode cX7_madeUp 40 = .ok (.istore_n 3, 1) := by decide +kernel
theorem dX7_madeUp_41 : decode cX7_madeUp 41 = .ok (.iload_n 3, 1) := by decide +kernel
theorem dX7_madeUp_42 : decode cX7_madeUp 42 = .ok (.ifCond .le 24, 3) := by decide +kernel
theorem dX7_madeUp_45 : decode cX7_madeUp 45 = .ok (.iload_n 1, 1) := by decide +kernel
theorem dX7_madeUp_46 : decode cX7_madeUp 46 = .ok (.bipush (-9), 2) := by decide +kernel
theorem dX7_madeUp_48 : decode cX7_madeUp 48 = .ok (.if_icmp .ne 13, 3) := by decide +kernel
theorem dX7_madeUp_51 : decode cX7_madeUp 51 = .ok (.iload_n 3, 1) := by decide +kernel
theorem dX7_madeUp_52 : decode cX7_madeUp 52 = .ok (.aload_n 0, 1) := by decide +kernel
theorem dX7_madeUp_53 : decode cX7_madeUp 53 = .ok (.iload_n 2, 1) := by decide +kernel
theorem dX7_madeUp_54 : decode cX7_madeUp 54 = .ok (.iconst 0, 1) := by decide +kernel
theorem dX7_madeUp_55 : decode cX7_madeUp 55 = .ok (.invokevirtual 63, 3) := by decide +kernel
theorem dX7_madeUp_58 : decode cX7_madeUp 58 = .ok (.if_icmp .ge 6, 3) := by decide +kernel
theorem dX7_madeUp_61 : decode cX7_madeUp 61 = .ok (.bipush (-9), 2) := by decide +kernel
theorem dX7_madeUp_63 : decode cX7_madeUp 63 = .ok (.ireturn, 1) := by decide +kernel
theorem dX7_madeUp_64 : decode cX7_madeUp 64 = .ok (.iload_n 2, 1) := by decide +kernel
theorem dX7_madeUp_65 : decode cX7_madeUp 65 = .ok (.istore_n 1, 1) := by decide +kernel
theorem dX7_madeUp_66 : decode cX7_madeUp 66 = .ok (.iinc 2 1, 3) := by decide +kernel
theorem dX7_madeUp_69 : decode cX7_madeUp 69 = .ok (.goto (-51), 3) := by decide +kernel
theorem dX7_madeUp_72 : decode cX7_madeUp 72 = .ok (.iload_n 1, 1) := by decide +kernel
theorem dX7_madeUp_73 : decode cX7_madeUp 73 = .ok (.ireturn, 1) := by decide +kernel
theorem dX7_spread_0 : decode cX7_spread 0 = .ok (.iconst 0, 1) := by decide +kernel
theorem dX7_spread_1 : decode cX7_spread 1 = .ok (.istore_n 1, 1) := by decide +kernel
theorem dX7_spread_2 : decode cX7_spread 2 = .ok (.iconst 0, 1) := by decide +kernel
theorem dX7_spread_3 : decode cX7_spread 3 = .ok (.istore_n 2, 1) := by decide +kernel
theorem dX7_spread_4 : decode cX7_spread 4 = .ok (.iload_n 2, 1) := by decide +kernel
theorem dX7_spread_5 : decode cX7_spread 5 = .ok (.aload_n 0, 1) := by decide +kernel
theorem dX7_spread_6 : decode cX7_spread 6 = .ok (.getfield 7, 3) := by decide +kernel
theorem dX7_spread_9 : decode cX7_spread 9 = .ok (.iconst 4, 1) := by decide +kernel
theorem dX7_spread_10 : decode cX7_spread 10 = .ok (.iaload, 1) := by decide +kernel
theorem dX7_spread_11 : decode cX7_spread 11 = .ok (.if_icmp .ge 32, 3) := by decide +kernel
theorem dX7_spread_14 : decode cX7_spread 14 = .ok (.iload_n 1, 1) := by decide +kernel
theorem dX7_spread_15 : decode cX7_spread 15 = .ok (.aload_n 0, 1) := by decide +kernel
theorem dX7_spread_16 : decode cX7_spread 16 = .ok (.iload_n 2, 1) := by decide +kernel
theorem dX7_spread_17 : decode cX7_spread 17 = .ok (.aload_n 0, 1) := by decide +kernel
theorem dX7_spread_18 : decode cX7_spread 18 = .ok (.getfield 7, 3) := by decide +kernel
theorem dX7_spread_21 : decode cX7_spread 21 = .ok (.bipush 13, 2) := by decide +kernel
theorem dX7_spread_23 : decode cX7_spread 23 = .ok (.iaload, 1) := by decide +kernel
theorem dX7_spread_24 : decode cX7_spread 24 = .ok (.invokevirtual 117, 3) := by decide +kernel
theorem dX7_spread_27 : decode cX7_spread 27 = .ok (.ifCond .le 7, 3) := by decide +kernel
theorem dX7_spread_30 : decode cX7_spread 30 = .ok (.iconst 1, 1) := by decide +kernel
theorem dX7_spread_31 : decode cX7_spread 31 = .ok (.goto 4, 3) := by decide +kernel
theorem dX7_spread_34 : decode cX7_spread 34 = .ok (.iconst 0, 1) := by decide +kernel
theorem dX7_spread_35 : decode cX7_spread 35 = .ok (.iadd, 1) := by decide +kernel
theorem dX7_spread_36 : decode cX7_spread 36 = .ok (.istore_n 1, 1) := by decide +kernel
theorem dX7_spread_37 : decode cX7_spread 37 = .ok (.iinc 2 1, 3) := by decide +kernel
theorem dX7_spread_40 : decode cX7_spread 40 = .ok (.goto (-36), 3) := by decide +kernel
theorem dX7_spread_43 : decode cX7_spread 43 = .ok (.iload_n 1, 1) := by decide +kernel
theorem dX7_spread_44 : decode cX7_spread 44 = .ok (.ireturn, 1) := by decide +kernel
theorem dX7_hold_0 : decode cX7_hold 0 = .ok (.iconst 0, 1) := by decide +kernel
theorem dX7_hold_1 : decode cX7_hold 1 = .ok (.istore_n 2, 1) := by decide +kernel
theorem dX7_hold_2 : decode cX7_hold 2 = .ok (.iload_n 2, 1) := by decide +kernel
theorem dX7_hold_3 : decode cX7_hold 3 = .ok (.sipush 131, 3) := by decide +kernel
theorem dX7_hold_6 : decode cX7_hold 6 = .ok (.if_icmp .ge 27, 3) := by decide +kernel
theorem dX7_hold_9 : decode cX7_hold 9 = .ok (.aload_n 0, 1) := by decide +kernel
theorem dX7_hold_10 : decode cX7_hold 10 = .ok (.getfield 44, 3) := by decide +kernel
theorem dX7_hold_13 : decode cX7_hold 13 = .ok (.sipush 131, 3) := by decide +kernel
theorem dX7_hold_16 : decode cX7_hold 16 = .ok (.iload_n 1, 1) := by decide +kernel
theorem dX7_hold_17 : decode cX7_hold 17 = .ok (.imul, 1) := by decide +kernel
theorem dX7_hold_18 : decode cX7_hold 18 = .ok (.iload_n 2, 1) := by decide +kernel
theorem dX7_hold_19 : decode cX7_hold 19 = .ok (.iadd, 1) := by decide +kernel
theorem dX7_hold_20 : decode cX7_hold 20 = .ok (.aload_n 0, 1) := by decide +kernel
theorem dX7_hold_21 : decode cX7_hold 21 = .ok (.getfield 7, 3) := by decide +kernel
theorem dX7_hold_24 : decode cX7_hold 24 = .ok (.iload_n 2, 1) := by decide +kernel
theorem dX7_hold_25 : decode cX7_hold 25 = .ok (.iaload, 1) := by decide +kernel
theorem dX7_hold_26 : decode cX7_hold 26 = .ok (.iastore, 1) := by decide +kernel
theorem dX7_hold_27 : decode cX7_hold 27 = .ok (.iinc 2 1, 3) := by decide +kernel
theorem dX7_hold_30 : decode cX7_hold 30 = .ok (.goto (-28), 3) := by decide +kernel
theorem dX7_hold_33 : decode cX7_hold 33 = .ok (.return_, 1) := by decide +kernel
theorem dX7_release_0 : decode cX7_release 0 = .ok (.iconst 0, 1) := by decide +kernel
theorem dX7_release_1 : decode cX7_release 1 = .ok (.istore_n 2, 1) := by decide +kernel
theorem dX7_release_2 : decode cX7_release 2 = .ok (.iload_n 2, 1) := by decide +kernel
theorem dX7_release_3 : decode cX7_release 3 = .ok (.sipush 131, 3) := by decide +kernel
theorem dX7_release_6 : decode cX7_release 6 = .ok (.if_icmp .ge 27, 3) := by decide +kernel
theorem dX7_release_9 : decode cX7_release 9 = .ok (.aload_n 0, 1) := by decide +kernel
theorem dX7_release_10 : decode cX7_release 10 = .ok (.getfield 7, 3) := by decide +kernel
theorem dX7_release_13 : decode cX7_release 13 = .ok (.iload_n 2, 1) := by decide +kernel
theorem dX7_release_14 : decode cX7_release 14 = .ok (.aload_n 0, 1) := by decide +kernel
theorem dX7_release_15 : decode cX7_release 15 = .ok (.getfield 44, 3) := by decide +kernel
theorem dX7_release_18 : decode cX7_release 18 = .ok (.sipush 131, 3) := by decide +kernel
theorem dX7_release_21 : decode cX7_release 21 = .ok (.iload_n 1, 1) := by decide +kernel
theorem dX7_release_22 : decode cX7_release 22 = .ok (.imul, 1) := by decide +kernel
theorem dX7_release_23 : decode cX7_release 23 = .ok (.iload_n 2, 1) := by decide +kernel
theorem dX7_release_24 : decode cX7_release 24 = .ok (.iadd, 1) := by decide +kernel
theorem dX7_release_25 : decode cX7_release 25 = .ok (.iaload, 1) := by decide +kernel
theorem dX7_release_26 : decode cX7_release 26 = .ok (.iastore, 1) := by decide +kernel
theorem dX7_release_27 : decode cX7_release 27 = .ok (.iinc 2 1, 3) := by decide +kernel
theorem dX7_release_30 : decode cX7_release 30 = .ok (.goto (-28), 3) := by decide +kernel
theorem dX7_release_33 : decode cX7_release 33 = .ok (.return_, 1) := by decide +kernel
theorem dX7_note_0 : decode cX7_note 0 = .ok (.aload_n 0, 1) := by decide +kernel
theorem dX7_note_1 : decode cX7_note 1 = .ok (.getfield 157, 3) := by decide +kernel
theorem dX7_note_4 : decode cX7_note 4 = .ok (.bipush (-9), 2) := by decide +kernel
theorem dX7_note_6 : decode cX7_note 6 = .ok (.if_icmp .eq 27, 3) := by decide +kernel
theorem dX7_note_9 : decode cX7_note 9 = .ok (.iload_n 2, 1) := by decide +kernel
theorem dX7_note_10 : decode cX7_note 10 = .ok (.aload_n 0, 1) := by decide +kernel
theorem dX7_note_11 : decode cX7_note 11 = .ok (.getfield 160, 3) := by decide +kernel
theorem dX7_note_14 : decode cX7_note 14 = .ok (.if_icmp .lt 19, 3) := by decide +kernel
theorem dX7_note_17 : decode cX7_note 17 = .ok (.iload_n 2, 1) := by decide +kernel
theorem dX7_note_18 : decode cX7_note 18 = .ok (.aload_n 0, 1) := by decide +kernel
theorem dX7_note_19 : decode cX7_note 19 = .ok (.getfield 160, 3) := by decide +kernel
theorem dX7_note_22 : decode cX7_note 22 = .ok (.if_icmp .ne 15, 3) := by decide +kernel
theorem dX7_note_25 : decode cX7_note 25 = .ok (.iload_n 1, 1) := by decide +kernel
theorem dX7_note_26 : decode cX7_note 26 = .ok (.aload_n 0, 1) := by decide +kernel
theorem dX7_note_27 : decode cX7_note 27 = .ok (.getfield 157, 3) := by decide +kernel
theorem dX7_note_30 : decode cX7_note 30 = .ok (.if_icmp .ge 7, 3) := by decide +kernel
theorem dX7_note_33 : decode cX7_note 33 = .ok (.iconst 1, 1) := by decide +kernel
theorem dX7_note_34 : decode cX7_note 34 = .ok (.goto 4, 3) := by decide +kernel
theorem dX7_note_37 : decode cX7_note 37 = .ok (.iconst 0, 1) := by decide +kernel
theorem dX7_note_38 : decode cX7_note 38 = .ok (.istore_n 3, 1) := by decide +kernel
theorem dX7_note_39 : decode cX7_note 39 = .ok (.iload_n 3, 1) := by decide +kernel
theorem dX7_note_40 : decode cX7_note 40 = .ok (.ifCond .eq 52, 3) := by decide +kernel
theorem dX7_note_43 : decode cX7_note 43 = .ok (.aload_n 0, 1) := by decide +kernel
theorem dX7_note_44 : decode cX7_note 44 = .ok (.invokevirtual 163, 3) := by decide +kernel
theorem dX7_note_47 : decode cX7_note 47 = .ok (.bipush (-9), 2) := by decide +kernel
theorem dX7_note_49 : decode cX7_note 49 = .ok (.if_icmp .eq 43, 3) := by decide +kernel
theorem dX7_note_52 : decode cX7_note 52 = .ok (.aload_n 0, 1) := by decide +kernel
theorem dX7_note_53 : decode cX7_note 53 = .ok (.iload_n 1, 1) := by decide +kernel
theorem dX7_note_54 : decode cX7_note 54 = .ok (.putfield 157, 3) := by decide +kernel
theorem dX7_note_57 : decode cX7_note 57 = .ok (.aload_n 0, 1) := by decide +kernel
theorem dX7_note_58 : decode cX7_note 58 = .ok (.iload_n 2, 1) := by decide +kernel
theorem dX7_note_59 : decode cX7_note 59 = .ok (.putfield 160, 3) := by decide +kernel
theorem dX7_note_62 : decode cX7_note 62 = .ok (.iconst 0, 1) := by decide +kernel
theorem dX7_note_63 : decode cX7_note 63 = .ok (.istore 4, 2) := by decide +kernel
theorem dX7_note_65 : decode cX7_note 65 = .ok (.iload 4, 2) := by decide +kernel
theorem dX7_note_67 : decode cX7_note 67 = .ok (.bipush 9, 2) := by decide +kernel
theorem dX7_note_69 : decode cX7_note 69 = .ok (.if_icmp .ge 23, 3) := by decide +kernel
theorem dX7_note_72 : decode cX7_note 72 = .ok (.aload_n 0, 1) := by decide +kernel
theorem dX7_note_73 : decode cX7_note 73 = .ok (.getfield 50, 3) := by decide +kernel
theorem dX7_note_76 : decode cX7_note 76 = .ok (.iload 4, 2) := by decide +kernel
theorem dX7_note_78 : decode cX7_note 78 = .ok (.aload_n 0, 1) := by decide +kernel
theorem dX7_note_79 : decode cX7_note 79 = .ok (.getfield 47, 3) := by decide +kernel
theorem dX7_note_82 : decode cX7_note 82 = .ok (.iload 4, 2) := by decide +kernel
theorem dX7_note_84 : decode cX7_note 84 = .ok (.iaload, 1) := by decide +kernel
theorem dX7_note_85 : decode cX7_note 85 = .ok (.iastore, 1) := by decide +kernel
theorem dX7_note_86 : decode cX7_note 86 = .ok (.iinc 4 1, 3) := by decide +kernel
theorem dX7_note_89 : decode cX7_note 89 = .ok (.goto (-24), 3) := by decide +kernel
theorem dX7_note_92 : decode cX7_note 92 = .ok (.return_, 1) := by decide +kernel
theorem dX7_tryMove_0 : decode cX7_tryMove 0 = .ok (.aload_n 0, 1) := by decide +kernel
theorem dX7_tryMove_1 : decode cX7_tryMove 1 = .ok (.aload_n 0, 1) := by decide +kernel
theorem dX7_tryMove_2 : decode cX7_tryMove 2 = .ok (.getfield 47, 3) := by decide +kernel
theorem dX7_tryMove_5 : decode cX7_tryMove 5 = .ok (.iconst 3, 1) := by decide +kernel
theorem dX7_tryMove_6 : decode cX7_tryMove 6 = .ok (.iload_n 1, 1) := by decide +kernel
theorem dX7_tryMove_7 : decode cX7_tryMove 7 = .ok (.imul, 1) := by decide +kernel
theorem dX7_tryMove_8 : decode cX7_tryMove 8 = .ok (.iaload, 1) := by decide +kernel
theorem dX7_tryMove_9 : decode cX7_tryMove 9 = .ok (.aload_n 0, 1) := by decide +kernel
theorem dX7_tryMove_10 : decode cX7_tryMove 10 = .ok (.getfield 47, 3) := by decide +kernel
theorem dX7_tryMove_13 : decode cX7_tryMove 13 = .ok (.iconst 3, 1) := by decide +kernel
theorem dX7_tryMove_14 : decode cX7_tryMove 14 = .ok (.iload_n 1, 1) := by decide +kernel
theorem dX7_tryMove_15 : decode cX7_tryMove 15 = .ok (.imul, 1) := by decide +kernel
theorem dX7_tryMove_16 : decode cX7_tryMove 16 = .ok (.iconst 1, 1) := by decide +kernel
theorem dX7_tryMove_17 : decode cX7_tryMove 17 = .ok (.iadd, 1) := by decide +kernel
theorem dX7_tryMove_18 : decode cX7_tryMove 18 = .ok (.iaload, 1) := by decide +kernel
theorem dX7_tryMove_19 : decode cX7_tryMove 19 = .ok (.aload_n 0, 1) := by decide +kernel
theorem dX7_tryMove_20 : decode cX7_tryMove 20 = .ok (.getfield 47, 3) := by decide +kernel
theorem dX7_tryMove_23 : decode cX7_tryMove 23 = .ok (.iconst 3, 1) := by decide +kernel
theorem dX7_tryMove_24 : decode cX7_tryMove 24 = .ok (.iload_n 1, 1) := by decide +kernel
theorem dX7_tryMove_25 : decode cX7_tryMove 25 = .ok (.imul, 1) := by decide +kernel
theorem dX7_tryMove_26 : decode cX7_tryMove 26 = .ok (.iconst 2, 1) := by decide +kernel
theorem dX7_tryMove_27 : decode cX7_tryMove 27 = .ok (.iadd, 1) := by decide +kernel
theorem dX7_tryMove_28 : decode cX7_tryMove 28 = .ok (.iaload, 1) := by decide +kernel
theorem dX7_tryMove_29 : decode cX7_tryMove 29 = .ok (.invokevirtual 100, 3) := by decide +kernel
theorem dX7_tryMove_32 : decode cX7_tryMove 32 = .ok (.istore_n 3, 1) := by decide +kernel
theorem dX7_tryMove_33 : decode cX7_tryMove 33 = .ok (.iload_n 3, 1) := by decide +kernel
theorem dX7_tryMove_34 : decode cX7_tryMove 34 = .ok (.ifCond .lt 22, 3) := by decide +kernel
theorem dX7_tryMove_37 : decode cX7_tryMove 37 = .ok (.aload_n 0, 1) := by decide +kernel
theorem dX7_tryMove_38 : decode cX7_tryMove 38 = .ok (.getfield 157, 3) := by decide +kernel
theorem dX7_tryMove_41 : decode cX7_tryMove 41 = .ok (.bipush (-9), 2) := by decide +kernel
theorem dX7_tryMove_43 : decode cX7_tryMove 43 = .ok (.if_icmp .eq 16, 3) := by decide +kernel
theorem dX7_tryMove_46 : decode cX7_tryMove 46 = .ok (.iload_n 2, 1) := by decide +kernel
theorem dX7_tryMove_47 : decode cX7_tryMove 47 = .ok (.iload_n 3, 1) := by decide +kernel
theorem dX7_tryMove_48 : decode cX7_tryMove 48 = .ok (.iadd, 1) := by decide +kernel
theorem dX7_tryMove_49 : decode cX7_tryMove 49 = .ok (.aload_n 0, 1) := by decide +kernel
theorem dX7_tryMove_50 : decode cX7_tryMove 50 = .ok (.getfield 160, 3) := by decide +kernel
theorem dX7_tryMove_53 : decode cX7_tryMove 53 = .ok (.if_icmp .le 6, 3) := by decide +kernel
theorem dX7_tryMove_56 : decode cX7_tryMove 56 = .ok (.bipush (-9), 2) := by decide +kernel
theorem dX7_tryMove_58 : decode cX7_tryMove 58 = .ok (.ireturn, 1) := by decide +kernel
theorem dX7_tryMove_59 : decode cX7_tryMove 59 = .ok (.aload_n 0, 1) := by decide +kernel
theorem dX7_tryMove_60 : decode cX7_tryMove 60 = .ok (.aload_n 0, 1) := by decide +kernel
theorem dX7_tryMove_61 : decode cX7_tryMove 61 = .ok (.getfield 47, 3) := by decide +kernel
theorem dX7_tryMove_64 : decode cX7_tryMove 64 = .ok (.iconst 3, 1) := by decide +kernel
theorem dX7_tryMove_65 : decode cX7_tryMove 65 = .ok (.iload_n 1, 1) := by decide +kernel
theorem dX7_tryMove_66 : decode cX7_tryMove 66 = .ok (.imul, 1) := by decide +kernel
theorem dX7_tryMove_67 : decode cX7_tryMove 67 = .ok (.iaload, 1) := by decide +kernel
theorem dX7_tryMove_68 : decode cX7_tryMove 68 = .ok (.aload_n 0, 1) := by decide +kernel
theorem dX7_tryMove_69 : decode cX7_tryMove 69 = .ok (.getfield 47, 3) := by decide +kernel
theorem dX7_tryMove_72 : decode cX7_tryMove 72 = .ok (.iconst 3, 1) := by decide +kernel
theorem dX7_tryMove_73 : decode cX7_tryMove 73 = .ok (.iload_n 1, 1) := by decide +kernel
theorem dX7_tryMove_74 : decode cX7_tryMove 74 = .ok (.imul, 1) := by decide +kernel
theorem dX7_tryMove_75 : decode cX7_tryMove 75 = .ok (.iconst 1, 1) := by decide +kernel
theorem dX7_tryMove_76 : decode cX7_tryMove 76 = .ok (.iadd, 1) := by decide +kernel
theorem dX7_tryMove_77 : decode cX7_tryMove 77 = .ok (.iaload, 1) := by decide +kernel
theorem dX7_tryMove_78 : decode cX7_tryMove 78 = .ok (.aload_n 0, 1) := by decide +kernel
theorem dX7_tryMove_79 : decode cX7_tryMove 79 = .ok (.getfield 47, 3) := by decide +kernel
theorem dX7_tryMove_82 : decode cX7_tryMove 82 = .ok (.iconst 3, 1) := by decide +kernel
theorem dX7_tryMove_83 : decode cX7_tryMove 83 = .ok (.iload_n 1, 1) := by decide +kernel
theorem dX7_tryMove_84 : decode cX7_tryMove 84 = .ok (.imul, 1) := by decide +kernel
theorem dX7_tryMove_85 : decode cX7_tryMove 85 = .ok (.iconst 2, 1) := by decide +kernel
theorem dX7_tryMove_86 : decode cX7_tryMove 86 = .ok (.iadd, 1) := by decide +kernel
theorem dX7_tryMove_87 : decode cX7_tryMove 87 = .ok (.iaload, 1) := by decide +kernel
theorem dX7_tryMove_88 : decode cX7_tryMove 88 = .ok (.iload_n 3, 1) := by decide +kernel
theorem dX7_tryMove_89 : decode cX7_tryMove 89 = .ok (.invokevirtual 110, 3) := by decide +kernel
theorem dX7_tryMove_92 : decode cX7_tryMove 92 = .ok (.iload_n 3, 1) := by decide +kernel
theorem dX7_tryMove_93 : decode cX7_tryMove 93 = .ok (.ireturn, 1) := by decide +kernel
theorem dX7_next_0 : decode cX7_next 0 = .ok (.iconst 3, 1) := by decide +kernel
theorem dX7_next_1 : decode cX7_next 1 = .ok (.iload_n 1, 1) := by decide +kernel
theorem dX7_next_2 : decode cX7_next 2 = .ok (.imul, 1) := by decide +kernel
theorem dX7_next_3 : decode cX7_next 3 = .ok (.istore_n 2, 1) := by decide +kernel
theorem dX7_next_4 : decode cX7_next 4 = .ok (.aload_n 0, 1) := by decide +kernel
theorem dX7_next_5 : decode cX7_next 5 = .ok (.getfield 47, 3) := by decide +kernel
theorem dX7_next_8 : decode cX7_next 8 = .ok (.iload_n 2, 1) := by decide +kernel
theorem dX7_next_9 : decode cX7_next 9 = .ok (.iconst 2, 1) := by decide +kernel
theorem dX7_next_10 : decode cX7_next 10 = .ok (.iadd, 1) := by decide +kernel
theorem dX7_next_11 : decode cX7_next 11 = .ok (.dup2, 1) := by decide +kernel
theorem dX7_next_12 : decode cX7_next 12 = .ok (.iaload, 1) := by decide +kernel
theorem dX7_next_13 : decode cX7_next 13 = .ok (.iconst 1, 1) := by decide +kernel
theorem dX7_next_14 : decode cX7_next 14 = .ok (.iadd, 1) := by decide +kernel
theorem dX7_next_15 : decode cX7_next 15 = .ok (.iastore, 1) := by decide +kernel
theorem dX7_next_16 : decode cX7_next 16 = .ok (.aload_n 0, 1) := by decide +kernel
theorem dX7_next_17 : decode cX7_next 17 = .ok (.getfield 47, 3) := by decide +kernel
theorem dX7_next_20 : decode cX7_next 20 = .ok (.iload_n 2, 1) := by decide +kernel
theorem dX7_next_21 : decode cX7_next 21 = .ok (.iconst 2, 1) := by decide +kernel
theorem dX7_next_22 : decode cX7_next 22 = .ok (.iadd, 1) := by decide +kernel
theorem dX7_next_23 : decode cX7_next 23 = .ok (.iaload, 1) := by decide +kernel
theorem dX7_next_24 : decode cX7_next 24 = .ok (.aload_n 0, 1) := by decide +kernel
theorem dX7_next_25 : decode cX7_next 25 = .ok (.aload_n 0, 1) := by decide +kernel
theorem dX7_next_26 : decode cX7_next 26 = .ok (.getfield 47, 3) := by decide +kernel
theorem dX7_next_29 : decode cX7_next 29 = .ok (.iload_n 2, 1) := by decide +kernel
theorem dX7_next_30 : decode cX7_next 30 = .ok (.iaload, 1) := by decide +kernel
theorem dX7_next_31 : decode cX7_next 31 = .ok (.iconst 0, 1) := by decide +kernel
theorem dX7_next_32 : decode cX7_next 32 = .ok (.invokevirtual 63, 3) := by decide +kernel
theorem dX7_next_35 : decode cX7_next 35 = .ok (.if_icmp .le 24, 3) := by decide +kernel
end
section
theorem dX7_next_38 : decode cX7_next 38 = .ok (.aload_n 0, 1) := by decide +kernel
theorem dX7_next_39 : decode cX7_next 39 = .ok (.getfield 47, 3) := by decide +kernel
theorem dX7_next_42 : decode cX7_next 42 = .ok (.iload_n 2, 1) := by decide +kernel
theorem dX7_next_43 : decode cX7_next 43 = .ok (.iconst 2, 1) := by decide +kernel
theorem dX7_next_44 : decode cX7_next 44 = .ok (.iadd, 1) := by decide +kernel
theorem dX7_next_45 : decode cX7_next 45 = .ok (.iconst 1, 1) := by decide +kernel
theorem dX7_next_46 : decode cX7_next 46 = .ok (.iastore, 1) := by decide +kernel
theorem dX7_next_47 : decode cX7_next 47 = .ok (.aload_n 0, 1) := by decide +kernel
theorem dX7_next_48 : decode cX7_next 48 = .ok (.getfield 47, 3) := by decide +kernel
theorem dX7_next_51 : decode cX7_next 51 = .ok (.iload_n 2, 1) := by decide +kernel
theorem dX7_next_52 : decode cX7_next 52 = .ok (.iconst 1, 1) := by decide +kernel
theorem dX7_next_53 : decode cX7_next 53 = .ok (.iadd, 1) := by decide +kernel
theorem dX7_next_54 : decode cX7_next 54 = .ok (.dup2, 1) := by decide +kernel
theorem dX7_next_55 : decode cX7_next 55 = .ok (.iaload, 1) := by decide +kernel
theorem dX7_next_56 : decode cX7_next 56 = .ok (.iconst 1, 1) := by decide +kernel
theorem dX7_next_57 : decode cX7_next 57 = .ok (.iadd, 1) := by decide +kernel
theorem dX7_next_58 : decode cX7_next 58 = .ok (.iastore, 1) := by decide +kernel
theorem dX7_next_59 : decode cX7_next 59 = .ok (.aload_n 0, 1) := by decide +kernel
theorem dX7_next_60 : decode cX7_next 60 = .ok (.getfield 47, 3) := by decide +kernel
theorem dX7_next_63 : decode cX7_next 63 = .ok (.iload_n 2, 1) := by decide +kernel
theorem dX7_next_64 : decode cX7_next 64 = .ok (.iconst 1, 1) := by decide +kernel
theorem dX7_next_65 : decode cX7_next 65 = .ok (.iadd, 1) := by decide +kernel
theorem dX7_next_66 : decode cX7_next 66 = .ok (.iaload, 1) := by decide +kernel
theorem dX7_next_67 : decode cX7_next 67 = .ok (.aload_n 0, 1) := by decide +kernel
theorem dX7_next_68 : decode cX7_next 68 = .ok (.getfield 7, 3) := by decide +kernel
theorem dX7_next_71 : decode cX7_next 71 = .ok (.iconst 4, 1) := by decide +kernel
theorem dX7_next_72 : decode cX7_next 72 = .ok (.iaload, 1) := by decide +kernel
theorem dX7_next_73 : decode cX7_next 73 = .ok (.if_icmp .ne 22, 3) := by decide +kernel
theorem dX7_next_76 : decode cX7_next 76 = .ok (.aload_n 0, 1) := by decide +kernel
theorem dX7_next_77 : decode cX7_next 77 = .ok (.getfield 47, 3) := by decide +kernel
theorem dX7_next_80 : decode cX7_next 80 = .ok (.iload_n 2, 1) := by decide +kernel
theorem dX7_next_81 : decode cX7_next 81 = .ok (.iconst 1, 1) := by decide +kernel
theorem dX7_next_82 : decode cX7_next 82 = .ok (.iadd, 1) := by decide +kernel
theorem dX7_next_83 : decode cX7_next 83 = .ok (.iconst 0, 1) := by decide +kernel
theorem dX7_next_84 : decode cX7_next 84 = .ok (.iastore, 1) := by decide +kernel
theorem dX7_next_85 : decode cX7_next 85 = .ok (.aload_n 0, 1) := by decide +kernel
theorem dX7_next_86 : decode cX7_next 86 = .ok (.getfield 47, 3) := by decide +kernel
theorem dX7_next_89 : decode cX7_next 89 = .ok (.iload_n 2, 1) := by decide +kernel
theorem dX7_next_90 : decode cX7_next 90 = .ok (.dup2, 1) := by decide +kernel
theorem dX7_next_91 : decode cX7_next 91 = .ok (.iaload, 1) := by decide +kernel
theorem dX7_next_92 : decode cX7_next 92 = .ok (.iconst 1, 1) := by decide +kernel
theorem dX7_next_93 : decode cX7_next 93 = .ok (.iadd, 1) := by decide +kernel
theorem dX7_next_94 : decode cX7_next 94 = .ok (.iastore, 1) := by decide +kernel
theorem dX7_next_95 : decode cX7_next 95 = .ok (.aload_n 0, 1) := by decide +kernel
theorem dX7_next_96 : decode cX7_next 96 = .ok (.getfield 47, 3) := by decide +kernel
theorem dX7_next_99 : decode cX7_next 99 = .ok (.iload_n 2, 1) := by decide +kernel
theorem dX7_next_100 : decode cX7_next 100 = .ok (.iaload, 1) := by decide +kernel
theorem dX7_next_101 : decode cX7_next 101 = .ok (.aload_n 0, 1) := by decide +kernel
theorem dX7_next_102 : decode cX7_next 102 = .ok (.getfield 7, 3) := by decide +kernel
theorem dX7_next_105 : decode cX7_next 105 = .ok (.iconst 4, 1) := by decide +kernel
theorem dX7_next_106 : decode cX7_next 106 = .ok (.iaload, 1) := by decide +kernel
theorem dX7_next_107 : decode cX7_next 107 = .ok (.if_icmp .ge 7, 3) := by decide +kernel
theorem dX7_next_110 : decode cX7_next 110 = .ok (.iconst 1, 1) := by decide +kernel
theorem dX7_next_111 : decode cX7_next 111 = .ok (.goto 4, 3) := by decide +kernel
theorem dX7_next_114 : decode cX7_next 114 = .ok (.iconst 0, 1) := by decide +kernel
theorem dX7_next_115 : decode cX7_next 115 = .ok (.ireturn, 1) := by decide +kernel
theorem dX7_enter_0 : decode cX7_enter 0 = .ok (.aload_n 0, 1) := by decide +kernel
theorem dX7_enter_1 : decode cX7_enter 1 = .ok (.getfield 47, 3) := by decide +kernel
theorem dX7_enter_4 : decode cX7_enter 4 = .ok (.iconst 3, 1) := by decide +kernel
theorem dX7_enter_5 : decode cX7_enter 5 = .ok (.iload_n 1, 1) := by decide +kernel
theorem dX7_enter_6 : decode cX7_enter 6 = .ok (.imul, 1) := by decide +kernel
theorem dX7_enter_7 : decode cX7_enter 7 = .ok (.iconst 0, 1) := by decide +kernel
theorem dX7_enter_8 : decode cX7_enter 8 = .ok (.iastore, 1) := by decide +kernel
theorem dX7_enter_9 : decode cX7_enter 9 = .ok (.aload_n 0, 1) := by decide +kernel
theorem dX7_enter_10 : decode cX7_enter 10 = .ok (.getfield 47, 3) := by decide +kernel
theorem dX7_enter_13 : decode cX7_enter 13 = .ok (.iconst 3, 1) := by decide +kernel
theorem dX7_enter_14 : decode cX7_enter 14 = .ok (.iload_n 1, 1) := by decide +kernel
theorem dX7_enter_15 : decode cX7_enter 15 = .ok (.imul, 1) := by decide +kernel
theorem dX7_enter_16 : decode cX7_enter 16 = .ok (.iconst 1, 1) := by decide +kernel
theorem dX7_enter_17 : decode cX7_enter 17 = .ok (.iadd, 1) := by decide +kernel
theorem dX7_enter_18 : decode cX7_enter 18 = .ok (.iconst 0, 1) := by decide +kernel
theorem dX7_enter_19 : decode cX7_enter 19 = .ok (.iastore, 1) := by decide +kernel
theorem dX7_enter_20 : decode cX7_enter 20 = .ok (.aload_n 0, 1) := by decide +kernel
theorem dX7_enter_21 : decode cX7_enter 21 = .ok (.getfield 47, 3) := by decide +kernel
theorem dX7_enter_24 : decode cX7_enter 24 = .ok (.iconst 3, 1) := by decide +kernel
theorem dX7_enter_25 : decode cX7_enter 25 = .ok (.iload_n 1, 1) := by decide +kernel
theorem dX7_enter_26 : decode cX7_enter 26 = .ok (.imul, 1) := by decide +kernel
theorem dX7_enter_27 : decode cX7_enter 27 = .ok (.iconst 2, 1) := by decide +kernel
theorem dX7_enter_28 : decode cX7_enter 28 = .ok (.iadd, 1) := by decide +kernel
theorem dX7_enter_29 : decode cX7_enter 29 = .ok (.iconst 0, 1) := by decide +kernel
theorem dX7_enter_30 : decode cX7_enter 30 = .ok (.iastore, 1) := by decide +kernel
theorem dX7_enter_31 : decode cX7_enter 31 = .ok (.aload_n 0, 1) := by decide +kernel
theorem dX7_enter_32 : decode cX7_enter 32 = .ok (.iload_n 1, 1) := by decide +kernel
theorem dX7_enter_33 : decode cX7_enter 33 = .ok (.invokevirtual 166, 3) := by decide +kernel
theorem dX7_enter_36 : decode cX7_enter 36 = .ok (.return_, 1) := by decide +kernel
theorem dX7_isWorthIt_0 : decode cX7_isWorthIt 0 = .ok (.iload_n 1, 1) := by decide +kernel
theorem dX7_isWorthIt_1 : decode cX7_isWorthIt 1 = .ok (.ifCond .le 26, 3) := by decide +kernel
theorem dX7_isWorthIt_4 : decode cX7_isWorthIt 4 = .ok (.aload_n 0, 1) := by decide +kernel
theorem dX7_isWorthIt_5 : decode cX7_isWorthIt 5 = .ok (.invokevirtual 169, 3) := by decide +kernel
theorem dX7_isWorthIt_8 : decode cX7_isWorthIt 8 = .ok (.iconst 1, 1) := by decide +kernel
theorem dX7_isWorthIt_9 : decode cX7_isWorthIt 9 = .ok (.isub, 1) := by decide +kernel
theorem dX7_isWorthIt_10 : decode cX7_isWorthIt 10 = .ok (.iload_n 1, 1) := by decide +kernel
theorem dX7_isWorthIt_11 : decode cX7_isWorthIt 11 = .ok (.if_icmp .gt 16, 3) := by decide +kernel
theorem dX7_isWorthIt_14 : decode cX7_isWorthIt 14 = .ok (.aload_n 0, 1) := by decide +kernel
theorem dX7_isWorthIt_15 : decode cX7_isWorthIt 15 = .ok (.invokevirtual 163, 3) := by decide +kernel
theorem dX7_isWorthIt_18 : decode cX7_isWorthIt 18 = .ok (.bipush (-9), 2) := by decide +kernel
theorem dX7_isWorthIt_20 : decode cX7_isWorthIt 20 = .ok (.if_icmp .ne 7, 3) := by decide +kernel
theorem dX7_isWorthIt_23 : decode cX7_isWorthIt 23 = .ok (.iconst 1, 1) := by decide +kernel
theorem dX7_isWorthIt_24 : decode cX7_isWorthIt 24 = .ok (.goto 4, 3) := by decide +kernel
theorem dX7_isWorthIt_27 : decode cX7_isWorthIt 27 = .ok (.iconst 0, 1) := by decide +kernel
theorem dX7_isWorthIt_28 : decode cX7_isWorthIt 28 = .ok (.ireturn, 1) := by decide +kernel
theorem dX7_search_0 : decode cX7_search 0 = .ok (.aload_n 0, 1) := by decide +kernel
theorem dX7_search_1 : decode cX7_search 1 = .ok (.bipush (-9), 2) := by decide +kernel
theorem dX7_search_3 : decode cX7_search 3 = .ok (.putfield 157, 3) := by decide +kernel
theorem dX7_search_6 : decode cX7_search 6 = .ok (.aload_n 0, 1) := by decide +kernel
theorem dX7_search_7 : decode cX7_search 7 = .ok (.iconst 0, 1) := by decide +kernel
theorem dX7_search_8 : decode cX7_search 8 = .ok (.putfield 160, 3) := by decide +kernel
theorem dX7_search_11 : decode cX7_search 11 = .ok (.aload_n 0, 1) := by decide +kernel
theorem dX7_search_12 : decode cX7_search 12 = .ok (.iconst 0, 1) := by decide +kernel
theorem dX7_search_13 : decode cX7_search 13 = .ok (.iconst 0, 1) := by decide +kernel
theorem dX7_search_14 : decode cX7_search 14 = .ok (.invokevirtual 172, 3) := by decide +kernel
theorem dX7_search_17 : decode cX7_search 17 = .ok (.aload_n 0, 1) := by decide +kernel
theorem dX7_search_18 : decode cX7_search 18 = .ok (.getfield 7, 3) := by decide +kernel
theorem dX7_search_21 : decode cX7_search 21 = .ok (.bipush 12, 2) := by decide +kernel
theorem dX7_search_23 : decode cX7_search 23 = .ok (.iaload, 1) := by decide +kernel
theorem dX7_search_24 : decode cX7_search 24 = .ok (.ifCond .eq 25, 3) := by decide +kernel
theorem dX7_search_27 : decode cX7_search 27 = .ok (.aload_n 0, 1) := by decide +kernel
theorem dX7_search_28 : decode cX7_search 28 = .ok (.getfield 157, 3) := by decide +kernel
theorem dX7_search_31 : decode cX7_search 31 = .ok (.ifCond .eq 18, 3) := by decide +kernel
theorem dX7_search_34 : decode cX7_search 34 = .ok (.aload_n 0, 1) := by decide +kernel
theorem dX7_search_35 : decode cX7_search 35 = .ok (.invokevirtual 169, 3) := by decide +kernel
theorem dX7_search_38 : decode cX7_search 38 = .ok (.ifCond .eq 11, 3) := by decide +kernel
theorem dX7_search_41 : decode cX7_search 41 = .ok (.aload_n 0, 1) := by decide +kernel
theorem dX7_search_42 : decode cX7_search 42 = .ok (.iload_n 1, 1) := by decide +kernel
theorem dX7_search_43 : decode cX7_search 43 = .ok (.invokevirtual 175, 3) := by decide +kernel
theorem dX7_search_46 : decode cX7_search 46 = .ok (.ifCond .ne 4, 3) := by decide +kernel
theorem dX7_search_49 : decode cX7_search 49 = .ok (.return_, 1) := by decide +kernel
theorem dX7_search_50 : decode cX7_search 50 = .ok (.iconst 0, 1) := by decide +kernel
theorem dX7_search_51 : decode cX7_search 51 = .ok (.istore_n 2, 1) := by decide +kernel
theorem dX7_search_52 : decode cX7_search 52 = .ok (.aload_n 0, 1) := by decide +kernel
theorem dX7_search_53 : decode cX7_search 53 = .ok (.getfield 53, 3) := by decide +kernel
theorem dX7_search_56 : decode cX7_search 56 = .ok (.iconst 0, 1) := by decide +kernel
theorem dX7_search_57 : decode cX7_search 57 = .ok (.iconst 0, 1) := by decide +kernel
theorem dX7_search_58 : decode cX7_search 58 = .ok (.iastore, 1) := by decide +kernel
theorem dX7_search_59 : decode cX7_search 59 = .ok (.aload_n 0, 1) := by decide +kernel
theorem dX7_search_60 : decode cX7_search 60 = .ok (.iconst 0, 1) := by decide +kernel
theorem dX7_search_61 : decode cX7_search 61 = .ok (.invokevirtual 178, 3) := by decide +kernel
theorem dX7_search_64 : decode cX7_search 64 = .ok (.iload_n 2, 1) := by decide +kernel
theorem dX7_search_65 : decode cX7_search 65 = .ok (.ifCond .lt 113, 3) := by decide +kernel
theorem dX7_search_68 : decode cX7_search 68 = .ok (.aload_n 0, 1) := by decide +kernel
theorem dX7_search_69 : decode cX7_search 69 = .ok (.iload_n 2, 1) := by decide +kernel
theorem dX7_search_70 : decode cX7_search 70 = .ok (.invokevirtual 181, 3) := by decide +kernel
theorem dX7_search_73 : decode cX7_search 73 = .ok (.aload_n 0, 1) := by decide +kernel
theorem dX7_search_74 : decode cX7_search 74 = .ok (.iload_n 2, 1) := by decide +kernel
theorem dX7_search_75 : decode cX7_search 75 = .ok (.invokevirtual 184, 3) := by decide +kernel
theorem dX7_search_78 : decode cX7_search 78 = .ok (.ifCond .ne 9, 3) := by decide +kernel
theorem dX7_search_81 : decode cX7_search 81 = .ok (.iinc 2 (-1), 3) := by decide +kernel
theorem dX7_search_84 : decode cX7_search 84 = .ok (.goto (-20), 3) := by decide +kernel
theorem dX7_search_87 : decode cX7_search 87 = .ok (.aload_n 0, 1) := by decide +kernel
theorem dX7_search_88 : decode cX7_search 88 = .ok (.getfield 47, 3) := by decide +kernel
theorem dX7_search_91 : decode cX7_search 91 = .ok (.iconst 3, 1) := by decide +kernel
theorem dX7_search_92 : decode cX7_search 92 = .ok (.iload_n 2, 1) := by decide +kernel
theorem dX7_search_93 : decode cX7_search 93 = .ok (.imul, 1) := by decide +kernel
theorem dX7_search_94 : decode cX7_search 94 = .ok (.iaload, 1) := by decide +kernel
theorem dX7_search_95 : decode cX7_search 95 = .ok (.aload_n 0, 1) := by decide +kernel
theorem dX7_search_96 : decode cX7_search 96 = .ok (.getfield 47, 3) := by decide +kernel
theorem dX7_search_99 : decode cX7_search 99 = .ok (.iconst 3, 1) := by decide +kernel
theorem dX7_search_100 : decode cX7_search 100 = .ok (.iload_n 2, 1) := by decide +kernel
theorem dX7_search_101 : decode cX7_search 101 = .ok (.imul, 1) := by decide +kernel
theorem dX7_search_102 : decode cX7_search 102 = .ok (.iconst 1, 1) := by decide +kernel
theorem dX7_search_103 : decode cX7_search 103 = .ok (.iadd, 1) := by decide +kernel
theorem dX7_search_104 : decode cX7_search 104 = .ok (.iaload, 1) := by decide +kernel
theorem dX7_search_105 : decode cX7_search 105 = .ok (.if_icmp .eq (-41), 3) := by decide +kernel
theorem dX7_search_108 : decode cX7_search 108 = .ok (.aload_n 0, 1) := by decide +kernel
theorem dX7_search_109 : decode cX7_search 109 = .ok (.iload_n 2, 1) := by decide +kernel
theorem dX7_search_110 : decode cX7_search 110 = .ok (.aload_n 0, 1) := by decide +kernel
theorem dX7_search_111 : decode cX7_search 111 = .ok (.getfield 53, 3) := by decide +kernel
theorem dX7_search_114 : decode cX7_search 114 = .ok (.iload_n 2, 1) := by decide +kernel
theorem dX7_search_115 : decode cX7_search 115 = .ok (.iaload, 1) := by decide +kernel
theorem dX7_search_116 : decode cX7_search 116 = .ok (.invokevirtual 187, 3) := by decide +kernel
theorem dX7_search_119 : decode cX7_search 119 = .ok (.istore_n 3, 1) := by decide +kernel
theorem dX7_search_120 : decode cX7_search 120 = .ok (.iload_n 3, 1) := by decide +kernel
theorem dX7_search_121 : decode cX7_search 121 = .ok (.ifCond .lt 54, 3) := by decide +kernel
theorem dX7_search_124 : decode cX7_search 124 = .ok (.aload_n 0, 1) := by decide +kernel
theorem dX7_search_125 : decode cX7_search 125 = .ok (.iload_n 2, 1) := by decide +kernel
theorem dX7_search_126 : decode cX7_search 126 = .ok (.iconst 1, 1) := by decide +kernel
theorem dX7_search_127 : decode cX7_search 127 = .ok (.iadd, 1) := by decide +kernel
theorem dX7_search_128 : decode cX7_search 128 = .ok (.aload_n 0, 1) := by decide +kernel
theorem dX7_search_129 : decode cX7_search 129 = .ok (.getfield 53, 3) := by decide +kernel
theorem dX7_search_132 : decode cX7_search 132 = .ok (.iload_n 2, 1) := by decide +kernel
theorem dX7_search_133 : decode cX7_search 133 = .ok (.iaload, 1) := by decide +kernel
theorem dX7_search_134 : decode cX7_search 134 = .ok (.iload_n 3, 1) := by decide +kernel
theorem dX7_search_135 : decode cX7_search 135 = .ok (.iadd, 1) := by decide +kernel
theorem dX7_search_136 : decode cX7_search 136 = .ok (.invokevirtual 172, 3) := by decide +kernel
theorem dX7_search_139 : decode cX7_search 139 = .ok (.aload_n 0, 1) := by decide +kernel
theorem dX7_search_140 : decode cX7_search 140 = .ok (.iload_n 1, 1) := by decide +kernel
theorem dX7_search_141 : decode cX7_search 141 = .ok (.iload_n 2, 1) := by decide +kernel
theorem dX7_search_142 : decode cX7_search 142 = .ok (.isub, 1) := by decide +kernel
theorem dX7_search_143 : decode cX7_search 143 = .ok (.iconst 1, 1) := by decide +kernel
theorem dX7_search_144 : decode cX7_search 144 = .ok (.isub, 1) := by decide +kernel
theorem dX7_search_145 : decode cX7_search 145 = .ok (.invokevirtual 175, 3) := by decide +kernel
theorem dX7_search_148 : decode cX7_search 148 = .ok (.ifCond .eq 27, 3) := by decide +kernel
theorem dX7_search_151 : decode cX7_search 151 = .ok (.iinc 2 1, 3) := by decide +kernel
theorem dX7_search_154 : decode cX7_search 154 = .ok (.aload_n 0, 1) := by decide +kernel
theorem dX7_search_155 : decode cX7_search 155 = .ok (.getfield 53, 3) := by decide +kernel
theorem dX7_search_158 : decode cX7_search 158 = .ok (.iload_n 2, 1) := by decide +kernel
theorem dX7_search_159 : decode cX7_search 159 = .ok (.aload_n 0, 1) := by decide +kernel
theorem dX7_search_160 : decode cX7_search 160 = .ok (.getfield 53, 3) := by decide +kernel
theorem dX7_search_163 : decode cX7_search 163 = .ok (.iload_n 2, 1) := by decide +kernel
theorem dX7_search_164 : decode cX7_search 164 = .ok (.iconst 1, 1) := by decide +kernel
theorem dX7_search_165 : decode cX7_search 165 = .ok (.isub, 1) := by decide +kernel
theorem dX7_search_166 : decode cX7_search 166 = .ok (.iaload, 1) := by decide +kernel
theorem dX7_search_167 : decode cX7_search 167 = .ok (.iload_n 3, 1) := by decide +kernel
theorem dX7_search_168 : decode cX7_search 168 = .ok (.iadd, 1) := by decide +kernel
theorem dX7_search_169 : decode cX7_search 169 = .ok (.iastore, 1) := by decide +kernel
theorem dX7_search_170 : decode cX7_search 170 = .ok (.aload_n 0, 1) := by decide +kernel
theorem dX7_search_171 : decode cX7_search 171 = .ok (.iload_n 2, 1) := by decide +kernel
theorem dX7_search_172 : decode cX7_search 172 = .ok (.invokevirtual 178, 3) := by decide +kernel
theorem dX7_search_175 : decode cX7_search 175 = .ok (.goto (-111), 3) := by decide +kernel
theorem dX7_search_178 : decode cX7_search 178 = .ok (.aload_n 0, 1) := by decide +kernel
theorem dX7_search_179 : decode cX7_search 179 = .ok (.iconst 0, 1) := by decide +kernel
theorem dX7_search_180 : decode cX7_search 180 = .ok (.invokevirtual 181, 3) := by decide +kernel
theorem dX7_search_183 : decode cX7_search 183 = .ok (.return_, 1) := by decide +kernel
theorem dX7_cheapest_0 : decode cX7_cheapest 0 = .ok (.iload_n 1, 1) := by decide +kernel
theorem dX7_cheapest_1 : decode cX7_cheapest 1 = .ok (.iconst 0, 1) := by decide +kernel
theorem dX7_cheapest_2 : decode cX7_cheapest 2 = .ok (.iconst 3, 1) := by decide +kernel
theorem dX7_cheapest_3 : decode cX7_cheapest 3 = .ok (.invokestatic 59, 3) := by decide +kernel
theorem dX7_cheapest_6 : decode cX7_cheapest 6 = .ok (.ifCond .eq 12, 3) := by decide +kernel
theorem dX7_cheapest_9 : decode cX7_cheapest 9 = .ok (.iload_n 2, 1) := by decide +kernel
theorem dX7_cheapest_10 : decode cX7_cheapest 10 = .ok (.iconst 0, 1) := by decide +kernel
theorem dX7_cheapest_11 : decode cX7_cheapest 11 = .ok (.iconst 4, 1) := by decide +kernel
theorem dX7_cheapest_12 : decode cX7_cheapest 12 = .ok (.invokestatic 59, 3) := by decide +kernel
theorem dX7_cheapest_15 : decode cX7_cheapest 15 = .ok (.ifCond .ne 5, 3) := by decide +kernel
theorem dX7_cheapest_18 : decode cX7_cheapest 18 = .ok (.iconst (-1), 1) := by decide +kernel
theorem dX7_cheapest_19 : decode cX7_cheapest 19 = .ok (.ireturn, 1) := by decide +kernel
theorem dX7_cheapest_20 : decode cX7_cheapest 20 = .ok (.aload_n 0, 1) := by decide +kernel
theorem dX7_cheapest_21 : decode cX7_cheapest 21 = .ok (.iload_n 1, 1) := by decide +kernel
theorem dX7_cheapest_22 : decode cX7_cheapest 22 = .ok (.invokevirtual 190, 3) := by decide +kernel
theorem dX7_cheapest_25 : decode cX7_cheapest 25 = .ok (.aload_n 0, 1) := by decide +kernel
theorem dX7_cheapest_26 : decode cX7_cheapest 26 = .ok (.getfield 157, 3) := by decide +kernel
theorem dX7_cheapest_29 : decode cX7_cheapest 29 = .ok (.bipush (-9), 2) := by decide +kernel
theorem dX7_cheapest_31 : decode cX7_cheapest 31 = .ok (.if_icmp .ne 6, 3) := by decide +kernel
theorem dX7_cheapest_34 : decode cX7_cheapest 34 = .ok (.bipush (-9), 2) := by decide +kernel
theorem dX7_cheapest_36 : decode cX7_cheapest 36 = .ok (.ireturn, 1) := by decide +kernel
theorem dX7_cheapest_37 : decode cX7_cheapest 37 = .ok (.iload_n 2, 1) := by decide +kernel
theorem dX7_cheapest_38 : decode cX7_cheapest 38 = .ok (.ifCond .ne 10, 3) := by decide +kernel
theorem dX7_cheapest_41 : decode cX7_cheapest 41 = .ok (.aload_n 0, 1) := by decide +kernel
theorem dX7_cheapest_42 : decode cX7_cheapest 42 = .ok (.getfield 160, 3) := by decide +kernel
theorem dX7_cheapest_45 : decode cX7_cheapest 45 = .ok (.goto 35, 3) := by decide +kernel
theorem dX7_cheapest_48 : decode cX7_cheapest 48 = .ok (.iload_n 2, 1) := by decide +kernel
theorem dX7_cheapest_49 : decode cX7_cheapest 49 = .ok (.iconst 1, 1) := by decide +kernel
theorem dX7_cheapest_50 : decode cX7_cheapest 50 = .ok (.if_icmp .ne 10, 3) := by decide +kernel
theorem dX7_cheapest_53 : decode cX7_cheapest 53 = .ok (.aload_n 0, 1) := by decide +kernel
theorem dX7_cheapest_54 : decode cX7_cheapest 54 = .ok (.getfield 157, 3) := by decide +kernel
theorem dX7_cheapest_57 : decode cX7_cheapest 57 = .ok (.goto 23, 3) := by decide +kernel
theorem dX7_cheapest_60 : decode cX7_cheapest 60 = .ok (.aload_n 0, 1) := by decide +kernel
theorem dX7_cheapest_61 : decode cX7_cheapest 61 = .ok (.getfield 157, 3) := by decide +kernel
theorem dX7_cheapest_64 : decode cX7_cheapest 64 = .ok (.ifCond .ne 8, 3) := by decide +kernel
theorem dX7_cheapest_67 : decode cX7_cheapest 67 = .ok (.bipush (-9), 2) := by decide +kernel
theorem dX7_cheapest_69 : decode cX7_cheapest 69 = .ok (.goto 11, 3) := by decide +kernel
theorem dX7_cheapest_72 : decode cX7_cheapest 72 = .ok (.aload_n 0, 1) := by decide +kernel
theorem dX7_cheapest_73 : decode cX7_cheapest 73 = .ok (.getfield 50, 3) := by decide +kernel
theorem dX7_cheapest_76 : decode cX7_cheapest 76 = .ok (.iload_n 2, 1) := by decide +kernel
theorem dX7_cheapest_77 : decode cX7_cheapest 77 = .ok (.iconst 2, 1) := by decide +kernel
theorem dX7_cheapest_78 : decode cX7_cheapest 78 = .ok (.isub, 1) := by decide +kernel
theorem dX7_cheapest_79 : decode cX7_cheapest 79 = .ok (.iaload, 1) := by decide +kernel
theorem dX7_cheapest_80 : decode cX7_cheapest 80 = .ok (.ireturn, 1) := by decide +kernel
theorem dX7_makeUp_0 : decode cX7_makeUp 0 = .ok (.iload_n 1, 1) := by decide +kernel
theorem dX7_makeUp_1 : decode cX7_makeUp 1 = .ok (.iconst 0, 1) := by decide +kernel
theorem dX7_makeUp_2 : decode cX7_makeUp 2 = .ok (.iconst 3, 1) := by decide +kernel
theorem dX7_makeUp_3 : decode cX7_makeUp 3 = .ok (.invokestatic 59, 3) := by decide +kernel
theorem dX7_makeUp_6 : decode cX7_makeUp 6 = .ok (.ifCond .ne 5, 3) := by decide +kernel
theorem dX7_makeUp_9 : decode cX7_makeUp 9 = .ok (.iconst (-1), 1) := by decide +kernel
theorem dX7_makeUp_10 : decode cX7_makeUp 10 = .ok (.ireturn, 1) := by decide +kernel
theorem dX7_makeUp_11 : decode cX7_makeUp 11 = .ok (.aload_n 0, 1) := by decide +kernel
theorem dX7_makeUp_12 : decode cX7_makeUp 12 = .ok (.iload_n 1, 1) := by decide +kernel
theorem dX7_makeUp_13 : decode cX7_makeUp 13 = .ok (.invokevirtual 190, 3) := by decide +kernel
theorem dX7_makeUp_16 : decode cX7_makeUp 16 = .ok (.aload_n 0, 1) := by decide +kernel
theorem dX7_makeUp_17 : decode cX7_makeUp 17 = .ok (.getfield 157, 3) := by decide +kernel
theorem dX7_makeUp_20 : decode cX7_makeUp 20 = .ok (.bipush (-9), 2) := by decide +kernel
theorem dX7_makeUp_22 : decode cX7_makeUp 22 = .ok (.if_icmp .ne 6, 3) := by decide +kernel
theorem dX7_makeUp_25 : decode cX7_makeUp 25 = .ok (.bipush (-2), 2) := by decide +kernel
theorem dX7_makeUp_27 : decode cX7_makeUp 27 = .ok (.ireturn, 1) := by decide +kernel
theorem dX7_makeUp_28 : decode cX7_makeUp 28 = .ok (.aload_n 0, 1) := by decide +kernel
theorem dX7_makeUp_29 : decode cX7_makeUp 29 = .ok (.invokevirtual 107, 3) := by decide +kernel
theorem dX7_makeUp_32 : decode cX7_makeUp 32 = .ok (.iconst 0, 1) := by decide +kernel
theorem dX7_makeUp_33 : decode cX7_makeUp 33 = .ok (.istore_n 2, 1) := by decide +kernel
theorem dX7_makeUp_34 : decode cX7_makeUp 34 = .ok (.iload_n 2, 1) := by decide +kernel
theorem dX7_makeUp_35 : decode cX7_makeUp 35 = .ok (.aload_n 0, 1) := by decide +kernel
theorem dX7_makeUp_36 : decode cX7_makeUp 36 = .ok (.getfield 157, 3) := by decide +kernel
theorem dX7_makeUp_39 : decode cX7_makeUp 39 = .ok (.if_icmp .ge 75, 3) := by decide +kernel
theorem dX7_makeUp_42 : decode cX7_makeUp 42 = .ok (.aload_n 0, 1) := by decide +kernel
theorem dX7_makeUp_43 : decode cX7_makeUp 43 = .ok (.aload_n 0, 1) := by decide +kernel
theorem dX7_makeUp_44 : decode cX7_makeUp 44 = .ok (.getfield 50, 3) := by decide +kernel
theorem dX7_makeUp_47 : decode cX7_makeUp 47 = .ok (.iconst 3, 1) := by decide +kernel
theorem dX7_makeUp_48 : decode cX7_makeUp 48 = .ok (.iload_n 2, 1) := by decide +kernel
theorem dX7_makeUp_49 : decode cX7_makeUp 49 = .ok (.imul, 1) := by decide +kernel
theorem dX7_makeUp_50 : decode cX7_makeUp 50 = .ok (.iaload, 1) := by decide +kernel
theorem dX7_makeUp_51 : decode cX7_makeUp 51 = .ok (.aload_n 0, 1) := by decide +kernel
theorem dX7_makeUp_52 : decode cX7_makeUp 52 = .ok (.getfield 50, 3) := by decide +kernel
theorem dX7_makeUp_55 : decode cX7_makeUp 55 = .ok (.iconst 3, 1) := by decide +kernel
theorem dX7_makeUp_56 : decode cX7_makeUp 56 = .ok (.iload_n 2, 1) := by decide +kernel
theorem dX7_makeUp_57 : decode cX7_makeUp 57 = .ok (.imul, 1) := by decide +kernel
theorem dX7_makeUp_58 : decode cX7_makeUp 58 = .ok (.iconst 1, 1) := by decide +kernel
theorem dX7_makeUp_59 : decode cX7_makeUp 59 = .ok (.iadd, 1) := by decide +kernel
theorem dX7_makeUp_60 : decode cX7_makeUp 60 = .ok (.iaload, 1) := by decide +kernel
theorem dX7_makeUp_61 : decode cX7_makeUp 61 = .ok (.aload_n 0, 1) := by decide +kernel
theorem dX7_makeUp_62 : decode cX7_makeUp 62 = .ok (.getfield 50, 3) := by decide +kernel
theorem dX7_makeUp_65 : decode cX7_makeUp 65 = .ok (.iconst 3, 1) := by decide +kernel
theorem dX7_makeUp_66 : decode cX7_makeUp 66 = .ok (.iload_n 2, 1) := by decide +kernel
theorem dX7_makeUp_67 : decode cX7_makeUp 67 = .ok (.imul, 1) := by decide +kernel
theorem dX7_makeUp_68 : decode cX7_makeUp 68 = .ok (.iconst 2, 1) := by decide +kernel
theorem dX7_makeUp_69 : decode cX7_makeUp 69 = .ok (.iadd, 1) := by decide +kernel
theorem dX7_makeUp_70 : decode cX7_makeUp 70 = .ok (.iaload, 1) := by decide +kernel
theorem dX7_makeUp_71 : decode cX7_makeUp 71 = .ok (.invokevirtual 100, 3) := by decide +kernel
theorem dX7_makeUp_74 : decode cX7_makeUp 74 = .ok (.istore_n 3, 1) := by decide +kernel
theorem dX7_makeUp_75 : decode cX7_makeUp 75 = .ok (.aload_n 0, 1) := by decide +kernel
theorem dX7_makeUp_76 : decode cX7_makeUp 76 = .ok (.aload_n 0, 1) := by decide +kernel
theorem dX7_makeUp_77 : decode cX7_makeUp 77 = .ok (.getfield 50, 3) := by decide +kernel
theorem dX7_makeUp_80 : decode cX7_makeUp 80 = .ok (.iconst 3, 1) := by decide +kernel
theorem dX7_makeUp_81 : decode cX7_makeUp 81 = .ok (.iload_n 2, 1) := by decide +kernel
theorem dX7_makeUp_82 : decode cX7_makeUp 82 = .ok (.imul, 1) := by decide +kernel
theorem dX7_makeUp_83 : decode cX7_makeUp 83 = .ok (.iaload, 1) := by decide +kernel
theorem dX7_makeUp_84 : decode cX7_makeUp 84 = .ok (.aload_n 0, 1) := by decide +kernel
theorem dX7_makeUp_85 : decode cX7_makeUp 85 = .ok (.getfield 50, 3) := by decide +kernel
theorem dX7_makeUp_88 : decode cX7_makeUp 88 = .ok (.iconst 3, 1) := by decide +kernel
theorem dX7_makeUp_89 : decode cX7_makeUp 89 = .ok (.iload_n 2, 1) := by decide +kernel
theorem dX7_makeUp_90 : decode cX7_makeUp 90 = .ok (.imul, 1) := by decide +kernel
theorem dX7_makeUp_91 : decode cX7_makeUp 91 = .ok (.iconst 1, 1) := by decide +kernel
theorem dX7_makeUp_92 : decode cX7_makeUp 92 = .ok (.iadd, 1) := by decide +kernel
theorem dX7_makeUp_93 : decode cX7_makeUp 93 = .ok (.iaload, 1) := by decide +kernel
theorem dX7_makeUp_94 : decode cX7_makeUp 94 = .ok (.aload_n 0, 1) := by decide +kernel
theorem dX7_makeUp_95 : decode cX7_makeUp 95 = .ok (.getfield 50, 3) := by decide +kernel
theorem dX7_makeUp_98 : decode cX7_makeUp 98 = .ok (.iconst 3, 1) := by decide +kernel
theorem dX7_makeUp_99 : decode cX7_makeUp 99 = .ok (.iload_n 2, 1) := by decide +kernel
theorem dX7_makeUp_100 : decode cX7_makeUp 100 = .ok (.imul, 1) := by decide +kernel
theorem dX7_makeUp_101 : decode cX7_makeUp 101 = .ok (.iconst 2, 1) := by decide +kernel
theorem dX7_makeUp_102 : decode cX7_makeUp 102 = .ok (.iadd, 1) := by decide +kernel
theorem dX7_makeUp_103 : decode cX7_makeUp 103 = .ok (.iaload, 1) := by decide +kernel
theorem dX7_makeUp_104 : decode cX7_makeUp 104 = .ok (.iload_n 3, 1) := by decide +kernel
theorem dX7_makeUp_105 : decode cX7_makeUp 105 = .ok (.invokevirtual 110, 3) := by decide +kernel
theorem dX7_makeUp_108 : decode cX7_makeUp 108 = .ok (.iinc 2 1, 3) := by decide +kernel
theorem dX7_makeUp_111 : decode cX7_makeUp 111 = .ok (.goto (-77), 3) := by decide +kernel
theorem dX7_makeUp_114 : decode cX7_makeUp 114 = .ok (.aload_n 0, 1) := by decide +kernel
theorem dX7_makeUp_115 : decode cX7_makeUp 115 = .ok (.getfield 160, 3) := by decide +kernel
theorem dX7_makeUp_118 : decode cX7_makeUp 118 = .ok (.ireturn, 1) := by decide +kernel
theorem dX7_begin_0 : decode cX7_begin 0 = .ok (.iload_n 1, 1) := by decide +kernel
theorem dX7_begin_1 : decode cX7_begin 1 = .ok (.iconst 2, 1) := by decide +kernel
theorem dX7_begin_2 : decode cX7_begin 2 = .ok (.iconst 4, 1) := by decide +kernel
theorem dX7_begin_3 : decode cX7_begin 3 = .ok (.invokestatic 59, 3) := by decide +kernel
theorem dX7_begin_6 : decode cX7_begin 6 = .ok (.ifCond .eq 13, 3) := by decide +kernel
theorem dX7_begin_9 : decode cX7_begin 9 = .ok (.iload_n 2, 1) := by decide +kernel
theorem dX7_begin_10 : decode cX7_begin 10 = .ok (.iconst 1, 1) := by decide +kernel
theorem dX7_begin_11 : decode cX7_begin 11 = .ok (.bipush 8, 2) := by decide +kernel
theorem dX7_begin_13 : decode cX7_begin 13 = .ok (.invokestatic 59, 3) := by decide +kernel
theorem dX7_begin_16 : decode cX7_begin 16 = .ok (.ifCond .ne 5, 3) := by decide +kernel
theorem dX7_begin_19 : decode cX7_begin 19 = .ok (.iconst (-1), 1) := by decide +kernel
theorem dX7_begin_20 : decode cX7_begin 20 = .ok (.ireturn, 1) := by decide +kernel
theorem dX7_begin_21 : decode cX7_begin 21 = .ok (.aload_n 0, 1) := by decide +kernel
theorem dX7_begin_22 : decode cX7_begin 22 = .ok (.invokevirtual 107, 3) := by decide +kernel
theorem dX7_begin_25 : decode cX7_begin 25 = .ok (.aload_n 0, 1) := by decide +kernel
theorem dX7_begin_26 : decode cX7_begin 26 = .ok (.invokevirtual 193, 3) := by decide +kernel
theorem dX7_begin_29 : decode cX7_begin 29 = .ok (.istore_n 3, 1) := by decide +kernel
theorem dX7_begin_30 : decode cX7_begin 30 = .ok (.bipush 6, 2) := by decide +kernel
theorem dX7_begin_32 : decode cX7_begin 32 = .ok (.istore 4, 2) := by decide +kernel
theorem dX7_begin_34 : decode cX7_begin 34 = .ok (.iload 4, 2) := by decide +kernel
theorem dX7_begin_36 : decode cX7_begin 36 = .ok (.sipush 131, 3) := by decide +kernel
theorem dX7_begin_39 : decode cX7_begin 39 = .ok (.if_icmp .ge 17, 3) := by decide +kernel
theorem dX7_begin_42 : decode cX7_begin 42 = .ok (.aload_n 0, 1) := by decide +kernel
theorem dX7_begin_43 : decode cX7_begin 43 = .ok (.getfield 7, 3) := by decide +kernel
theorem dX7_begin_46 : decode cX7_begin 46 = .ok (.iload 4, 2) := by decide +kernel
theorem dX7_begin_48 : decode cX7_begin 48 = .ok (.iconst 0, 1) := by decide +kernel
theorem dX7_begin_49 : decode cX7_begin 49 = .ok (.iastore, 1) := by decide +kernel
theorem dX7_begin_50 : decode cX7_begin 50 = .ok (.iinc 4 1, 3) := by decide +kernel
theorem dX7_begin_53 : decode cX7_begin 53 = .ok (.goto (-19), 3) := by decide +kernel
theorem dX7_begin_56 : decode cX7_begin 56 = .ok (.aload_n 0, 1) := by decide +kernel
theorem dX7_begin_57 : decode cX7_begin 57 = .ok (.getfield 7, 3) := by decide +kernel
theorem dX7_begin_60 : decode cX7_begin 60 = .ok (.iconst 4, 1) := by decide +kernel
theorem dX7_begin_61 : decode cX7_begin 61 = .ok (.iload_n 1, 1) := by decide +kernel
theorem dX7_begin_62 : decode cX7_begin 62 = .ok (.iastore, 1) := by decide +kernel
theorem dX7_begin_63 : decode cX7_begin 63 = .ok (.aload_n 0, 1) := by decide +kernel
theorem dX7_begin_64 : decode cX7_begin 64 = .ok (.getfield 7, 3) := by decide +kernel
theorem dX7_begin_67 : decode cX7_begin 67 = .ok (.iconst 5, 1) := by decide +kernel
theorem dX7_begin_68 : decode cX7_begin 68 = .ok (.iload_n 2, 1) := by decide +kernel
theorem dX7_begin_69 : decode cX7_begin 69 = .ok (.iastore, 1) := by decide +kernel
theorem dX7_begin_70 : decode cX7_begin 70 = .ok (.iload_n 3, 1) := by decide +kernel
theorem dX7_begin_71 : decode cX7_begin 71 = .ok (.ireturn, 1) := by decide +kernel
theorem dX7_isOf_0 : decode cX7_isOf 0 = .ok (.iload_n 0, 1) := by decide +kernel
theorem dX7_isOf_1 : decode cX7_isOf 1 = .ok (.tableswitch 52 0 2 #[27, 34, 44], 27) := by decide +kernel
theorem dX7_isOf_28 : decode cX7_isOf 28 = .ok (.iload_n 1, 1) := by decide +kernel
theorem dX7_isOf_29 : decode cX7_isOf 29 = .ok (.iconst 0, 1) := by decide +kernel
theorem dX7_isOf_30 : decode cX7_isOf 30 = .ok (.iconst 3, 1) := by decide +kernel
theorem dX7_isOf_31 : decode cX7_isOf 31 = .ok (.invokestatic 59, 3) := by decide +kernel
theorem dX7_isOf_34 : decode cX7_isOf 34 = .ok (.ireturn, 1) := by decide +kernel
theorem dX7_isOf_35 : decode cX7_isOf 35 = .ok (.iload_n 1, 1) := by decide +kernel
theorem dX7_isOf_36 : decode cX7_isOf 36 = .ok (.bipush 10, 2) := by decide +kernel
theorem dX7_isOf_38 : decode cX7_isOf 38 = .ok (.sipush 600, 3) := by decide +kernel
theorem dX7_isOf_41 : decode cX7_isOf 41 = .ok (.invokestatic 59, 3) := by decide +kernel
theorem dX7_isOf_44 : decode cX7_isOf 44 = .ok (.ireturn, 1) := by decide +kernel
theorem dX7_isOf_45 : decode cX7_isOf 45 = .ok (.iload_n 1, 1) := by decide +kernel
theorem dX7_isOf_46 : decode cX7_isOf 46 = .ok (.iconst 1, 1) := by decide +kernel
theorem dX7_isOf_47 : decode cX7_isOf 47 = .ok (.bipush 20, 2) := by decide +kernel
theorem dX7_isOf_49 : decode cX7_isOf 49 = .ok (.invokestatic 59, 3) := by decide +kernel
theorem dX7_isOf_52 : decode cX7_isOf 52 = .ok (.ireturn, 1) := by decide +kernel
theorem dX7_isOf_53 : decode cX7_isOf 53 = .ok (.iload_n 0, 1) := by decide +kernel
theorem dX7_isOf_54 : decode cX7_isOf 54 = .ok (.iconst 3, 1) := by decide +kernel
theorem dX7_isOf_55 : decode cX7_isOf 55 = .ok (.if_icmp .ne 17, 3) := by decide +kernel
theorem dX7_isOf_58 : decode cX7_isOf 58 = .ok (.iload_n 1, 1) := by decide +kernel
theorem dX7_isOf_59 : decode cX7_isOf 59 = .ok (.iconst 0, 1) := by decide +kernel
theorem dX7_isOf_60 : decode cX7_isOf 60 = .ok (.bipush 30, 2) := by decide +kernel
theorem dX7_isOf_62 : decode cX7_isOf 62 = .ok (.invokestatic 59, 3) := by decide +kernel
theorem dX7_isOf_65 : decode cX7_isOf 65 = .ok (.ifCond .eq 7, 3) := by decide +kernel
theorem dX7_isOf_68 : decode cX7_isOf 68 = .ok (.iconst 1, 1) := by decide +kernel
theorem dX7_isOf_69 : decode cX7_isOf 69 = .ok (.goto 4, 3) := by decide +kernel
theorem dX7_isOf_72 : decode cX7_isOf 72 = .ok (.iconst 0, 1) := by decide +kernel
theorem dX7_isOf_73 : decode cX7_isOf 73 = .ok (.ireturn, 1) := by decide +kernel
theorem dX7_set_0 : decode cX7_set 0 = .ok (.iload_n 1, 1) := by decide +kernel
theorem dX7_set_1 : decode cX7_set 1 = .ok (.iload_n 2, 1) := by decide +kernel
theorem dX7_set_2 : decode cX7_set 2 = .ok (.invokestatic 196, 3) := by decide +kernel
theorem dX7_set_5 : decode cX7_set 5 = .ok (.ifCond .ne 5, 3) := by decide +kernel
theorem dX7_set_8 : decode cX7_set 8 = .ok (.iconst (-1), 1) := by decide +kernel
theorem dX7_set_9 : decode cX7_set 9 = .ok (.ireturn, 1) := by decide +kernel
theorem dX7_set_10 : decode cX7_set 10 = .ok (.aload_n 0, 1) := by decide +kernel
theorem dX7_set_11 : decode cX7_set 11 = .ok (.invokevirtual 107, 3) := by decide +kernel
theorem dX7_set_14 : decode cX7_set 14 = .ok (.aload_n 0, 1) := by decide +kernel
theorem dX7_set_15 : decode cX7_set 15 = .ok (.getfield 7, 3) := by decide +kernel
theorem dX7_set_18 : decode cX7_set 18 = .ok (.iload_n 1, 1) := by decide +kernel
theorem dX7_set_19 : decode cX7_set 19 = .ok (.iaload, 1) := by decide +kernel
theorem dX7_set_20 : decode cX7_set 20 = .ok (.istore_n 3, 1) := by decide +kernel
theorem dX7_set_21 : decode cX7_set 21 = .ok (.aload_n 0, 1) := by decide +kernel
theorem dX7_set_22 : decode cX7_set 22 = .ok (.getfield 7, 3) := by decide +kernel
theorem dX7_set_25 : decode cX7_set 25 = .ok (.iload_n 1, 1) := by decide +kernel
theorem dX7_set_26 : decode cX7_set 26 = .ok (.iload_n 2, 1) := by decide +kernel
theorem dX7_set_27 : decode cX7_set 27 = .ok (.iastore, 1) := by decide +kernel
theorem dX7_set_28 : decode cX7_set 28 = .ok (.iload_n 3, 1) := by decide +kernel
theorem dX7_set_29 : decode cX7_set 29 = .ok (.ireturn, 1) := by decide +kernel
theorem dX7_undo_0 : decode cX7_undo 0 = .ok (.aload_n 0, 1) := by decide +kernel
theorem dX7_undo_1 : decode cX7_undo 1 = .ok (.getfield 56, 3) := by decide +kernel
theorem dX7_undo_4 : decode cX7_undo 4 = .ok (.ifCond .ne 6, 3) := by decide +kernel
theorem dX7_undo_7 : decode cX7_undo 7 = .ok (.bipush (-2), 2) := by decide +kernel
theorem dX7_undo_9 : decode cX7_undo 9 = .ok (.ireturn, 1) := by decide +kernel
theorem dX7_undo_10 : decode cX7_undo 10 = .ok (.aload_n 0, 1) := by decide +kernel
theorem dX7_undo_11 : decode cX7_undo 11 = .ok (.dup, 1) := by decide +kernel
theorem dX7_undo_12 : decode cX7_undo 12 = .ok (.getfield 56, 3) := by decide +kernel
theorem dX7_undo_15 : decode cX7_undo 15 = .ok (.iconst 1, 1) := by decide +kernel
theorem dX7_undo_16 : decode cX7_undo 16 = .ok (.isub, 1) := by decide +kernel
theorem dX7_undo_17 : decode cX7_undo 17 = .ok (.putfield 56, 3) := by decide +kernel
theorem dX7_undo_20 : decode cX7_undo 20 = .ok (.iconst 0, 1) := by decide +kernel
theorem dX7_undo_21 : decode cX7_undo 21 = .ok (.istore_n 1, 1) := by decide +kernel
theorem dX7_undo_22 : decode cX7_undo 22 = .ok (.iload_n 1, 1) := by decide +kernel
theorem dX7_undo_23 : decode cX7_undo 23 = .ok (.sipush 131, 3) := by decide +kernel
theorem dX7_undo_26 : decode cX7_undo 26 = .ok (.if_icmp .ge 30, 3) := by decide +kernel
theorem dX7_undo_29 : decode cX7_undo 29 = .ok (.aload_n 0, 1) := by decide +kernel
theorem dX7_undo_30 : decode cX7_undo 30 = .ok (.getfield 7, 3) := by decide +kernel
theorem dX7_undo_33 : decode cX7_undo 33 = .ok (.iload_n 1, 1) := by decide +kernel
theorem dX7_undo_34 : decode cX7_undo 34 = .ok (.aload_n 0, 1) := by decide +kernel
theorem dX7_undo_35 : decode cX7_undo 35 = .ok (.getfield 13, 3) := by decide +kernel
theorem dX7_undo_38 : decode cX7_undo 38 = .ok (.sipush 131, 3) := by decide +kernel
theorem dX7_undo_41 : decode cX7_undo 41 = .ok (.aload_n 0, 1) := by decide +kernel
theorem dX7_undo_42 : decode cX7_undo 42 = .ok (.getfield 56, 3) := by decide +kernel
theorem dX7_undo_45 : decode cX7_undo 45 = .ok (.imul, 1) := by decide +kernel
theorem dX7_undo_46 : decode cX7_undo 46 = .ok (.iload_n 1, 1) := by decide +kernel
theorem dX7_undo_47 : decode cX7_undo 47 = .ok (.iadd, 1) := by decide +kernel
theorem dX7_undo_48 : decode cX7_undo 48 = .ok (.iaload, 1) := by decide +kernel
theorem dX7_undo_49 : decode cX7_undo 49 = .ok (.iastore, 1) := by decide +kernel
theorem dX7_undo_50 : decode cX7_undo 50 = .ok (.iinc 1 1, 3) := by decide +kernel
theorem dX7_undo_53 : decode cX7_undo 53 = .ok (.goto (-31), 3) := by decide +kernel
theorem dX7_undo_56 : decode cX7_undo 56 = .ok (.aload_n 0, 1) := by decide +kernel
theorem dX7_undo_57 : decode cX7_undo 57 = .ok (.getfield 56, 3) := by decide +kernel
theorem dX7_undo_60 : decode cX7_undo 60 = .ok (.ireturn, 1) := by decide +kernel
theorem dX7_unsafeTracks_0 : decode cX7_unsafeTracks 0 = .ok (.iconst 0, 1) := by decide +kernel
theorem dX7_unsafeTracks_1 : decode cX7_unsafeTracks 1 = .ok (.istore_n 1, 1) := by decide +kernel
theorem dX7_unsafeTracks_2 : decode cX7_unsafeTracks 2 = .ok (.iconst 0, 1) := by decide +kernel
theorem dX7_unsafeTracks_3 : decode cX7_unsafeTracks 3 = .ok (.istore_n 2, 1) := by decide +kernel
theorem dX7_unsafeTracks_4 : decode cX7_unsafeTracks 4 = .ok (.iload_n 2, 1) := by decide +kernel
theorem dX7_unsafeTracks_5 : decode cX7_unsafeTracks 5 = .ok (.aload_n 0, 1) := by decide +kernel
theorem dX7_unsafeTracks_6 : decode cX7_unsafeTracks 6 = .ok (.getfield 7, 3) := by decide +kernel
theorem dX7_unsafeTracks_9 : decode cX7_unsafeTracks 9 = .ok (.iconst 4, 1) := by decide +kernel
theorem dX7_unsafeTracks_10 : decode cX7_unsafeTracks 10 = .ok (.iaload, 1) := by decide +kernel
theorem dX7_unsafeTracks_11 : decode cX7_unsafeTracks 11 = .ok (.if_icmp .ge 25, 3) := by decide +kernel
theorem dX7_unsafeTracks_14 : decode cX7_unsafeTracks 14 = .ok (.iload_n 1, 1) := by decide +kernel
theorem dX7_unsafeTracks_15 : decode cX7_unsafeTracks 15 = .ok (.aload_n 0, 1) := by decide +kernel
theorem dX7_unsafeTracks_16 : decode cX7_unsafeTracks 16 = .ok (.iload_n 2, 1) := by decide +kernel
theorem dX7_unsafeTracks_17 : decode cX7_unsafeTracks 17 = .ok (.invokevirtual 120, 3) := by decide +kernel
theorem dX7_unsafeTracks_20 : decode cX7_unsafeTracks 20 = .ok (.ifCond .eq 7, 3) := by decide +kernel
theorem dX7_unsafeTracks_23 : decode cX7_unsafeTracks 23 = .ok (.iconst 0, 1) := by decide +kernel
theorem dX7_unsafeTracks_24 : decode cX7_unsafeTracks 24 = .ok (.goto 4, 3) := by decide +kernel
theorem dX7_unsafeTracks_27 : decode cX7_unsafeTracks 27 = .ok (.iconst 1, 1) := by decide +kernel
theorem dX7_unsafeTracks_28 : decode cX7_unsafeTracks 28 = .ok (.iadd, 1) := by decide +kernel
theorem dX7_unsafeTracks_29 : decode cX7_unsafeTracks 29 = .ok (.istore_n 1, 1) := by decide +kernel
theorem dX7_unsafeTracks_30 : decode cX7_unsafeTracks 30 = .ok (.iinc 2 1, 3) := by decide +kernel
theorem dX7_unsafeTracks_33 : decode cX7_unsafeTracks 33 = .ok (.goto (-29), 3) := by decide +kernel
theorem dX7_unsafeTracks_36 : decode cX7_unsafeTracks 36 = .ok (.iload_n 1, 1) := by decide +kernel
theorem dX7_unsafeTracks_37 : decode cX7_unsafeTracks 37 = .ok (.ireturn, 1) := by decide +kernel
theorem dX7_told_0 : decode cX7_told 0 = .ok (.iload_n 1, 1) := by decide +kernel
theorem dX7_told_1 : decode cX7_told 1 = .ok (.tableswitch 175 0 14 #[75, 82, 89, 97, 102, 110, 115, 123, 131, 139, 147, 155, 160, 165, 170], 75) := by decide +kernel
theorem dX7_told_76 : decode cX7_told 76 = .ok (.aload_n 0, 1) := by decide +kernel
theorem dX7_told_77 : decode cX7_told 77 = .ok (.getfield 7, 3) := by decide +kernel
theorem dX7_told_80 : decode cX7_told 80 = .ok (.iconst 4, 1) := by decide +kernel
theorem dX7_told_81 : decode cX7_told 81 = .ok (.iaload, 1) := by decide +kernel
theorem dX7_told_82 : decode cX7_told 82 = .ok (.ireturn, 1) := by decide +kernel
theorem dX7_told_83 : decode cX7_told 83 = .ok (.aload_n 0, 1) := by decide +kernel
theorem dX7_told_84 : decode cX7_told 84 = .ok (.getfield 7, 3) := by decide +kernel
theorem dX7_told_87 : decode cX7_told 87 = .ok (.iconst 5, 1) := by decide +kernel
theorem dX7_told_88 : decode cX7_told 88 = .ok (.iaload, 1) := by decide +kernel
theorem dX7_told_89 : decode cX7_told 89 = .ok (.ireturn, 1) := by decide +kernel
theorem dX7_told_90 : decode cX7_told 90 = .ok (.aload_n 0, 1) := by decide +kernel
theorem dX7_told_91 : decode cX7_told 91 = .ok (.getfield 7, 3) := by decide +kernel
theorem dX7_told_94 : decode cX7_told 94 = .ok (.bipush 6, 2) := by decide +kernel
theorem dX7_told_96 : decode cX7_told 96 = .ok (.iaload, 1) := by decide +kernel
theorem dX7_told_97 : decode cX7_told 97 = .ok (.ireturn, 1) := by decide +kernel
theorem dX7_told_98 : decode cX7_told 98 = .ok (.aload_n 0, 1) := by decide +kernel
theorem dX7_told_99 : decode cX7_told 99 = .ok (.invokevirtual 193, 3) := by decide +kernel
theorem dX7_told_102 : decode cX7_told 102 = .ok (.ireturn, 1) := by decide +kernel
theorem dX7_told_103 : decode cX7_told 103 = .ok (.aload_n 0, 1) := by decide +kernel
theorem dX7_told_104 : decode cX7_told 104 = .ok (.getfield 7, 3) := by decide +kernel
theorem dX7_told_107 : decode cX7_told 107 = .ok (.bipush 12, 2) := by decide +kernel
theorem dX7_told_109 : decode cX7_told 109 = .ok (.iaload, 1) := by decide +kernel
theorem dX7_told_110 : decode cX7_told 110 = .ok (.ireturn, 1) := by decide +kernel
theorem dX7_told_111 : decode cX7_told 111 = .ok (.aload_n 0, 1) := by decide +kernel
theorem dX7_told_112 : decode cX7_told 112 = .ok (.invokevirtual 200, 3) := by decide +kernel
theorem dX7_told_115 : decode cX7_told 115 = .ok (.ireturn, 1) := by decide +kernel
theorem dX7_told_116 : decode cX7_told 116 = .ok (.aload_n 0, 1) := by decide +kernel
theorem dX7_told_117 : decode cX7_told 117 = .ok (.getfield 7, 3) := by decide +kernel
theorem dX7_told_120 : decode cX7_told 120 = .ok (.bipush 8, 2) := by decide +kernel
theorem dX7_told_122 : decode cX7_told 122 = .ok (.iaload, 1) := by decide +kernel
theorem dX7_told_123 : decode cX7_told 123 = .ok (.ireturn, 1) := by decide +kernel
theorem dX7_told_124 : decode cX7_told 124 = .ok (.aload_n 0, 1) := by decide +kernel
theorem dX7_told_125 : decode cX7_told 125 = .ok (.getfield 7, 3) := by decide +kernel
theorem dX7_told_128 : decode cX7_told 128 = .ok (.bipush 9, 2) := by decide +kernel
theorem dX7_told_130 : decode cX7_told 130 = .ok (.iaload, 1) := by decide +kernel
theorem dX7_told_131 : decode cX7_told 131 = .ok (.ireturn, 1) := by decide +kernel
theorem dX7_told_132 : decode cX7_told 132 = .ok (.aload_n 0, 1) := by decide +kernel
theorem dX7_told_133 : decode cX7_told 133 = .ok (.getfield 7, 3) := by decide +kernel
theorem dX7_told_136 : decode cX7_told 136 = .ok (.bipush 10, 2) := by decide +kernel
theorem dX7_told_138 : decode cX7_told 138 = .ok (.iaload, 1) := by decide +kernel
theorem dX7_told_139 : decode cX7_told 139 = .ok (.ireturn, 1) := by decide +kernel
theorem dX7_told_140 : decode cX7_told 140 = .ok (.aload_n 0, 1) := by decide +kernel
theorem dX7_told_141 : decode cX7_told 141 = .ok (.getfield 7, 3) := by decide +kernel
theorem dX7_told_144 : decode cX7_told 144 = .ok (.bipush 11, 2) := by decide +kernel
theorem dX7_told_146 : decode cX7_told 146 = .ok (.iaload, 1) := by decide +kernel
theorem dX7_told_147 : decode cX7_told 147 = .ok (.ireturn, 1) := by decide +kernel
theorem dX7_told_148 : decode cX7_told 148 = .ok (.aload_n 0, 1) := by decide +kernel
theorem dX7_told_149 : decode cX7_told 149 = .ok (.getfield 7, 3) := by decide +kernel
theorem dX7_told_152 : decode cX7_told 152 = .ok (.bipush 7, 2) := by decide +kernel
theorem dX7_told_154 : decode cX7_told 154 = .ok (.iaload, 1) := by decide +kernel
theorem dX7_told_155 : decode cX7_told 155 = .ok (.ireturn, 1) := by decide +kernel
theorem dX7_told_156 : decode cX7_told 156 = .ok (.aload_n 0, 1) := by decide +kernel
theorem dX7_told_157 : decode cX7_told 157 = .ok (.getfield 29, 3) := by decide +kernel
theorem dX7_told_160 : decode cX7_told 160 = .ok (.ireturn, 1) := by decide +kernel
theorem dX7_told_161 : decode cX7_told 161 = .ok (.aload_n 0, 1) := by decide +kernel
theorem dX7_told_162 : decode cX7_told 162 = .ok (.invokevirtual 163, 3) := by decide +kernel
theorem dX7_told_165 : decode cX7_told 165 = .ok (.ireturn, 1) := by decide +kernel
theorem dX7_told_166 : decode cX7_told 166 = .ok (.aload_n 0, 1) := by decide +kernel
theorem dX7_told_167 : decode cX7_told 167 = .ok (.getfield 142, 3) := by decide +kernel
theorem dX7_told_170 : decode cX7_told 170 = .ok (.ireturn, 1) := by decide +kernel
theorem dX7_told_171 : decode cX7_told 171 = .ok (.aload_n 0, 1) := by decide +kernel
theorem dX7_told_172 : decode cX7_told 172 = .ok (.getfield 56, 3) := by decide +kernel
theorem dX7_told_175 : decode cX7_told 175 = .ok (.ireturn, 1) := by decide +kernel
theorem dX7_told_176 : decode cX7_told 176 = .ok (.iconst (-1), 1) := by decide +kernel
theorem dX7_told_177 : decode cX7_told 177 = .ok (.ireturn, 1) := by decide +kernel
theorem dX7_setting_0 : decode cX7_setting 0 = .ok (.iload_n 1, 1) := by decide +kernel
theorem dX7_setting_1 : decode cX7_setting 1 = .ok (.iconst 0, 1) := by decide +kernel
theorem dX7_setting_2 : decode cX7_setting 2 = .ok (.iconst 3, 1) := by decide +kernel
theorem dX7_setting_3 : decode cX7_setting 3 = .ok (.invokestatic 59, 3) := by decide +kernel
theorem dX7_setting_6 : decode cX7_setting 6 = .ok (.ifCond .eq 12, 3) := by decide +kernel
theorem dX7_setting_9 : decode cX7_setting 9 = .ok (.aload_n 0, 1) := by decide +kernel
theorem dX7_setting_10 : decode cX7_setting 10 = .ok (.getfield 7, 3) := by decide +kernel
theorem dX7_setting_13 : decode cX7_setting 13 = .ok (.iload_n 1, 1) := by decide +kernel
theorem dX7_setting_14 : decode cX7_setting 14 = .ok (.iaload, 1) := by decide +kernel
theorem dX7_setting_15 : decode cX7_setting 15 = .ok (.goto 4, 3) := by decide +kernel
theorem dX7_setting_18 : decode cX7_setting 18 = .ok (.iconst (-1), 1) := by decide +kernel
theorem dX7_setting_19 : decode cX7_setting 19 = .ok (.ireturn, 1) := by decide +kernel
theorem dX7_track_0 : decode cX7_track 0 = .ok (.aload_n 0, 1) := by decide +kernel
theorem dX7_track_1 : decode cX7_track 1 = .ok (.iload_n 1, 1) := by decide +kernel
theorem dX7_track_2 : decode cX7_track 2 = .ok (.invokevirtual 89, 3) := by decide +kernel
theorem dX7_track_5 : decode cX7_track 5 = .ok (.ifCond .ne 5, 3) := by decide +kernel
theorem dX7_track_8 : decode cX7_track 8 = .ok (.iconst (-1), 1) := by decide +kernel
theorem dX7_track_9 : decode cX7_track 9 = .ok (.ireturn, 1) := by decide +kernel
theorem dX7_track_10 : decode cX7_track 10 = .ok (.iload_n 2, 1) := by decide +kernel
theorem dX7_track_11 : decode cX7_track 11 = .ok (.tableswitch 82 0 4 #[33, 40, 54, 60, 76], 33) := by decide +kernel
theorem dX7_track_44 : decode cX7_track 44 = .ok (.aload_n 0, 1) := by decide +kernel
theorem dX7_track_45 : decode cX7_track 45 = .ok (.iload_n 1, 1) := by decide +kernel
theorem dX7_track_46 : decode cX7_track 46 = .ok (.iconst 0, 1) := by decide +kernel
theorem dX7_track_47 : decode cX7_track 47 = .ok (.invokevirtual 63, 3) := by decide +kernel
theorem dX7_track_50 : decode cX7_track 50 = .ok (.ireturn, 1) := by decide +kernel
theorem dX7_track_51 : decode cX7_track 51 = .ok (.aload_n 0, 1) := by decide +kernel
theorem dX7_track_52 : decode cX7_track 52 = .ok (.iload_n 1, 1) := by decide +kernel
theorem dX7_track_53 : decode cX7_track 53 = .ok (.invokevirtual 120, 3) := by decide +kernel
theorem dX7_track_56 : decode cX7_track 56 = .ok (.ifCond .eq 7, 3) := by decide +kernel
theorem dX7_track_59 : decode cX7_track 59 = .ok (.iconst 1, 1) := by decide +kernel
theorem dX7_track_60 : decode cX7_track 60 = .ok (.goto 4, 3) := by decide +kernel
theorem dX7_track_63 : decode cX7_track 63 = .ok (.iconst 0, 1) := by decide +kernel
theorem dX7_track_64 : decode cX7_track 64 = .ok (.ireturn, 1) := by decide +kernel
theorem dX7_track_65 : decode cX7_track 65 = .ok (.aload_n 0, 1) := by decide +kernel
theorem dX7_track_66 : decode cX7_track 66 = .ok (.iload_n 1, 1) := by decide +kernel
theorem dX7_track_67 : decode cX7_track 67 = .ok (.invokevirtual 123, 3) := by decide +kernel
theorem dX7_track_70 : decode cX7_track 70 = .ok (.ireturn, 1) := by decide +kernel
theorem dX7_track_71 : decode cX7_track 71 = .ok (.aload_n 0, 1) := by decide +kernel
theorem dX7_track_72 : decode cX7_track 72 = .ok (.iload_n 1, 1) := by decide +kernel
theorem dX7_track_73 : decode cX7_track 73 = .ok (.aload_n 0, 1) := by decide +kernel
theorem dX7_track_74 : decode cX7_track 74 = .ok (.iload_n 1, 1) := by decide +kernel
theorem dX7_track_75 : decode cX7_track 75 = .ok (.iconst 0, 1) := by decide +kernel
theorem dX7_track_76 : decode cX7_track 76 = .ok (.invokevirtual 63, 3) := by decide +kernel
theorem dX7_track_79 : decode cX7_track 79 = .ok (.invokevirtual 81, 3) := by decide +kernel
theorem dX7_track_82 : decode cX7_track 82 = .ok (.aload_n 0, 1) := by decide +kernel
theorem dX7_track_83 : decode cX7_track 83 = .ok (.invokevirtual 77, 3) := by decide +kernel
theorem dX7_track_86 : decode cX7_track 86 = .ok (.ireturn, 1) := by decide +kernel
theorem dX7_track_87 : decode cX7_track 87 = .ok (.aload_n 0, 1) := by decide +kernel
theorem dX7_track_88 : decode cX7_track 88 = .ok (.iload_n 1, 1) := by decide +kernel
theorem dX7_track_89 : decode cX7_track 89 = .ok (.invokevirtual 127, 3) := by decide +kernel
theorem dX7_track_92 : decode cX7_track 92 = .ok (.ireturn, 1) := by decide +kernel
theorem dX7_track_93 : decode cX7_track 93 = .ok (.iconst (-1), 1) := by decide +kernel
theorem dX7_track_94 : decode cX7_track 94 = .ok (.ireturn, 1) := by decide +kernel
theorem dX7_wagon_0 : decode cX7_wagon 0 = .ok (.aload_n 0, 1) := by decide +kernel
theorem dX7_wagon_1 : decode cX7_wagon 1 = .ok (.iload_n 1, 1) := by decide +kernel
theorem dX7_wagon_2 : decode cX7_wagon 2 = .ok (.invokevirtual 89, 3) := by decide +kernel
theorem dX7_wagon_5 : decode cX7_wagon 5 = .ok (.ifCond .eq 16, 3) := by decide +kernel
theorem dX7_wagon_8 : decode cX7_wagon 8 = .ok (.iload_n 2, 1) := by decide +kernel
theorem dX7_wagon_9 : decode cX7_wagon 9 = .ok (.ifCond .lt 12, 3) := by decide +kernel
theorem dX7_wagon_12 : decode cX7_wagon 12 = .ok (.iload_n 3, 1) := by decide +kernel
theorem dX7_wagon_13 : decode cX7_wagon 13 = .ok (.iconst 0, 1) := by decide +kernel
theorem dX7_wagon_14 : decode cX7_wagon 14 = .ok (.iconst 2, 1) := by decide +kernel
theorem dX7_wagon_15 : decode cX7_wagon 15 = .ok (.invokestatic 59, 3) := by decide +kernel
theorem dX7_wagon_18 : decode cX7_wagon 18 = .ok (.ifCond .ne 5, 3) := by decide +kernel
theorem dX7_wagon_21 : decode cX7_wagon 21 = .ok (.iconst (-1), 1) := by decide +kernel
theorem dX7_wagon_22 : decode cX7_wagon 22 = .ok (.ireturn, 1) := by decide +kernel
theorem dX7_wagon_23 : decode cX7_wagon 23 = .ok (.iload_n 2, 1) := by decide +kernel
theorem dX7_wagon_24 : decode cX7_wagon 24 = .ok (.aload_n 0, 1) := by decide +kernel
theorem dX7_wagon_25 : decode cX7_wagon 25 = .ok (.iload_n 1, 1) := by decide +kernel
theorem dX7_wagon_26 : decode cX7_wagon 26 = .ok (.iconst 0, 1) := by decide +kernel
theorem dX7_wagon_27 : decode cX7_wagon 27 = .ok (.invokevirtual 63, 3) := by decide +kernel
theorem dX7_wagon_30 : decode cX7_wagon 30 = .ok (.if_icmp .ge 18, 3) := by decide +kernel
theorem dX7_wagon_33 : decode cX7_wagon 33 = .ok (.aload_n 0, 1) := by decide +kernel
theorem dX7_wagon_34 : decode cX7_wagon 34 = .ok (.iload_n 1, 1) := by decide +kernel
theorem dX7_wagon_35 : decode cX7_wagon 35 = .ok (.iconst 3, 1) := by decide +kernel
theorem dX7_wagon_36 : decode cX7_wagon 36 = .ok (.iconst 3, 1) := by decide +kernel
theorem dX7_wagon_37 : decode cX7_wagon 37 = .ok (.iload_n 2, 1) := by decide +kernel
theorem dX7_wagon_38 : decode cX7_wagon 38 = .ok (.imul, 1) := by decide +kernel
theorem dX7_wagon_39 : decode cX7_wagon 39 = .ok (.iadd, 1) := by decide +kernel
theorem dX7_wagon_40 : decode cX7_wagon 40 = .ok (.iload_n 3, 1) := by decide +kernel
theorem dX7_wagon_41 : decode cX7_wagon 41 = .ok (.iadd, 1) := by decide +kernel
theorem dX7_wagon_42 : decode cX7_wagon 42 = .ok (.invokevirtual 63, 3) := by decide +kernel
theorem dX7_wagon_45 : decode cX7_wagon 45 = .ok (.goto 5, 3) := by decide +kernel
theorem dX7_wagon_48 : decode cX7_wagon 48 = .ok (.bipush (-9), 2) := by decide +kernel
theorem dX7_wagon_50 : decode cX7_wagon 50 = .ok (.ireturn, 1) := by decide +kernel
theorem dX7_train_0 : decode cX7_train 0 = .ok (.iload_n 1, 1) := by decide +kernel
theorem dX7_train_1 : decode cX7_train 1 = .ok (.ifCond .ge 7, 3) := by decide +kernel
theorem dX7_train_4 : decode cX7_train 4 = .ok (.iconst (-1), 1) := by decide +kernel
theorem dX7_train_5 : decode cX7_train 5 = .ok (.goto 28, 3) := by decide +kernel
theorem dX7_train_8 : decode cX7_train 8 = .ok (.iload_n 1, 1) := by decide +kernel
theorem dX7_train_9 : decode cX7_train 9 = .ok (.aload_n 0, 1) := by decide +kernel
theorem dX7_train_10 : decode cX7_train 10 = .ok (.getfield 7, 3) := by decide +kernel
theorem dX7_train_13 : decode cX7_train 13 = .ok (.bipush 12, 2) := by decide +kernel
theorem dX7_train_15 : decode cX7_train 15 = .ok (.iaload, 1) := by decide +kernel
theorem dX7_train_16 : decode cX7_train 16 = .ok (.if_icmp .ge 15, 3) := by decide +kernel
theorem dX7_train_19 : decode cX7_train 19 = .ok (.aload_n 0, 1) := by decide +kernel
theorem dX7_train_20 : decode cX7_train 20 = .ok (.getfield 7, 3) := by decide +kernel
theorem dX7_train_23 : decode cX7_train 23 = .ok (.bipush 13, 2) := by decide +kernel
theorem dX7_train_25 : decode cX7_train 25 = .ok (.iload_n 1, 1) := by decide +kernel
theorem dX7_train_26 : decode cX7_train 26 = .ok (.iadd, 1) := by decide +kernel
theorem dX7_train_27 : decode cX7_train 27 = .ok (.iaload, 1) := by decide +kernel
theorem dX7_train_28 : decode cX7_train 28 = .ok (.goto 5, 3) := by decide +kernel
theorem dX7_train_31 : decode cX7_train 31 = .ok (.bipush (-9), 2) := by decide +kernel
theorem dX7_train_33 : decode cX7_train 33 = .ok (.ireturn, 1) := by decide +kernel
theorem dX7_find_0 : decode cX7_find 0 = .ok (.iload_n 1, 1) := by decide +kernel
theorem dX7_find_1 : decode cX7_find 1 = .ok (.ifCond .lt 12, 3) := by decide +kernel
theorem dX7_find_4 : decode cX7_find 4 = .ok (.iload_n 2, 1) := by decide +kernel
theorem dX7_find_5 : decode cX7_find 5 = .ok (.iconst 0, 1) := by decide +kernel
theorem dX7_find_6 : decode cX7_find 6 = .ok (.iconst 1, 1) := by decide +kernel
theorem dX7_find_7 : decode cX7_find 7 = .ok (.invokestatic 59, 3) := by decide +kernel
theorem dX7_find_10 : decode cX7_find 10 = .ok (.ifCond .ne 5, 3) := by decide +kernel
theorem dX7_find_13 : decode cX7_find 13 = .ok (.iconst (-1), 1) := by decide +kernel
theorem dX7_find_14 : decode cX7_find 14 = .ok (.ireturn, 1) := by decide +kernel
theorem dX7_find_15 : decode cX7_find 15 = .ok (.iconst 0, 1) := by decide +kernel
theorem dX7_find_16 : decode cX7_find 16 = .ok (.istore_n 3, 1) := by decide +kernel
theorem dX7_find_17 : decode cX7_find 17 = .ok (.iload_n 3, 1) := by decide +kernel
theorem dX7_find_18 : decode cX7_find 18 = .ok (.aload_n 0, 1) := by decide +kernel
theorem dX7_find_19 : decode cX7_find 19 = .ok (.getfield 7, 3) := by decide +kernel
theorem dX7_find_22 : decode cX7_find 22 = .ok (.iconst 4, 1) := by decide +kernel
theorem dX7_find_23 : decode cX7_find 23 = .ok (.iaload, 1) := by decide +kernel
theorem dX7_find_24 : decode cX7_find 24 = .ok (.if_icmp .ge 55, 3) := by decide +kernel
theorem dX7_find_27 : decode cX7_find 27 = .ok (.iconst 0, 1) := by decide +kernel
theorem dX7_find_28 : decode cX7_find 28 = .ok (.istore 4, 2) := by decide +kernel
theorem dX7_find_30 : decode cX7_find 30 = .ok (.iload 4, 2) := by decide +kernel
theorem dX7_find_32 : decode cX7_find 32 = .ok (.aload_n 0, 1) := by decide +kernel
theorem dX7_find_33 : decode cX7_find 33 = .ok (.iload_n 3, 1) := by decide +kernel
theorem dX7_find_34 : decode cX7_find 34 = .ok (.iconst 0, 1) := by decide +kernel
theorem dX7_find_35 : decode cX7_find 35 = .ok (.invokevirtual 63, 3) := by decide +kernel
theorem dX7_find_38 : decode cX7_find 38 = .ok (.if_icmp .ge 35, 3) := by decide +kernel
theorem dX7_find_41 : decode cX7_find 41 = .ok (.aload_n 0, 1) := by decide +kernel
theorem dX7_find_42 : decode cX7_find 42 = .ok (.iload_n 3, 1) := by decide +kernel
theorem dX7_find_43 : decode cX7_find 43 = .ok (.iconst 3, 1) := by decide +kernel
theorem dX7_find_44 : decode cX7_find 44 = .ok (.iconst 3, 1) := by decide +kernel
theorem dX7_find_45 : decode cX7_find 45 = .ok (.iload 4, 2) := by decide +kernel
theorem dX7_find_47 : decode cX7_find 47 = .ok (.imul, 1) := by decide +kernel
theorem dX7_find_48 : decode cX7_find 48 = .ok (.iadd, 1) := by decide +kernel
theorem dX7_find_49 : decode cX7_find 49 = .ok (.invokevirtual 63, 3) := by decide +kernel
theorem dX7_find_52 : decode cX7_find 52 = .ok (.iload_n 1, 1) := by decide +kernel
theorem dX7_find_53 : decode cX7_find 53 = .ok (.if_icmp .ne 14, 3) := by decide +kernel
theorem dX7_find_56 : decode cX7_find 56 = .ok (.iload_n 2, 1) := by decide +kernel
theorem dX7_find_57 : decode cX7_find 57 = .ok (.ifCond .ne 7, 3) := by decide +kernel
theorem dX7_find_60 : decode cX7_find 60 = .ok (.iload_n 3, 1) := by decide +kernel
theorem dX7_find_61 : decode cX7_find 61 = .ok (.goto 5, 3) := by decide +kernel
theorem dX7_find_64 : decode cX7_find 64 = .ok (.iload 4, 2) := by decide +kernel
theorem dX7_find_66 : decode cX7_find 66 = .ok (.ireturn, 1) := by decide +kernel
theorem dX7_find_67 : decode cX7_find 67 = .ok (.iinc 4 1, 3) := by decide +kernel
theorem dX7_find_70 : decode cX7_find 70 = .ok (.goto (-40), 3) := by decide +kernel
theorem dX7_find_73 : decode cX7_find 73 = .ok (.iinc 3 1, 3) := by decide +kernel
theorem dX7_find_76 : decode cX7_find 76 = .ok (.goto (-59), 3) := by decide +kernel
theorem dX7_find_79 : decode cX7_find 79 = .ok (.bipush (-9), 2) := by decide +kernel
theorem dX7_find_81 : decode cX7_find 81 = .ok (.ireturn, 1) := by decide +kernel
theorem dX7_mean_0 : decode cX7_mean 0 = .ok (.aload_n 0, 1) := by decide +kernel
theorem dX7_mean_1 : decode cX7_mean 1 = .ok (.getfield 7, 3) := by decide +kernel
theorem dX7_mean_4 : decode cX7_mean 4 = .ok (.bipush 8, 2) := by decide +kernel
theorem dX7_mean_6 : decode cX7_mean 6 = .ok (.iaload, 1) := by decide +kernel
theorem dX7_mean_7 : decode cX7_mean 7 = .ok (.ifCond .ne 7, 3) := by decide +kernel
theorem dX7_mean_10 : decode cX7_mean 10 = .ok (.fconst 0, 1) := by decide +kernel
theorem dX7_mean_11 : decode cX7_mean 11 = .ok (.goto 20, 3) := by decide +kernel
theorem dX7_mean_14 : decode cX7_mean 14 = .ok (.aload_n 0, 1) := by decide +kernel
theorem dX7_mean_15 : decode cX7_mean 15 = .ok (.getfield 7, 3) := by decide +kernel
theorem dX7_mean_18 : decode cX7_mean 18 = .ok (.bipush 9, 2) := by decide +kernel
theorem dX7_mean_20 : decode cX7_mean 20 = .ok (.iaload, 1) := by decide +kernel
theorem dX7_mean_21 : decode cX7_mean 21 = .ok (.i2f, 1) := by decide +kernel
theorem dX7_mean_22 : decode cX7_mean 22 = .ok (.aload_n 0, 1) := by decide +kernel
theorem dX7_mean_23 : decode cX7_mean 23 = .ok (.getfield 7, 3) := by decide +kernel
theorem dX7_mean_26 : decode cX7_mean 26 = .ok (.bipush 8, 2) := by decide +kernel
theorem dX7_mean_28 : decode cX7_mean 28 = .ok (.iaload, 1) := by decide +kernel
theorem dX7_mean_29 : decode cX7_mean 29 = .ok (.i2f, 1) := by decide +kernel
theorem dX7_mean_30 : decode cX7_mean 30 = .ok (.fdiv, 1) := by decide +kernel
theorem dX7_mean_31 : decode cX7_mean 31 = .ok (.freturn, 1) := by decide +kernel
theorem dX7_isImage_0 : decode cX7_isImage 0 = .ok (.iload_n 0, 1) := by decide +kernel
theorem dX7_isImage_1 : decode cX7_isImage 1 = .ok (.iconst 0, 1) := by decide +kernel
theorem dX7_isImage_2 : decode cX7_isImage 2 = .ok (.iconst 1, 1) := by decide +kernel
theorem dX7_isImage_3 : decode cX7_isImage 3 = .ok (.invokestatic 59, 3) := by decide +kernel
theorem dX7_isImage_6 : decode cX7_isImage 6 = .ok (.ireturn, 1) := by decide +kernel
theorem dX7_keep_0 : decode cX7_keep 0 = .ok (.iload_n 1, 1) := by decide +kernel
theorem dX7_keep_1 : decode cX7_keep 1 = .ok (.invokestatic 203, 3) := by decide +kernel
theorem dX7_keep_4 : decode cX7_keep 4 = .ok (.ifCond .ne 5, 3) := by decide +kernel
theorem dX7_keep_7 : decode cX7_keep 7 = .ok (.iconst (-1), 1) := by decide +kernel
theorem dX7_keep_8 : decode cX7_keep 8 = .ok (.ireturn, 1) := by decide +kernel
theorem dX7_keep_9 : decode cX7_keep 9 = .ok (.iconst 0, 1) := by decide +kernel
theorem dX7_keep_10 : decode cX7_keep 10 = .ok (.istore_n 2, 1) := by decide +kernel
theorem dX7_keep_11 : decode cX7_keep 11 = .ok (.iload_n 2, 1) := by decide +kernel
theorem dX7_keep_12 : decode cX7_keep 12 = .ok (.sipush 131, 3) := by decide +kernel
theorem dX7_keep_15 : decode cX7_keep 15 = .ok (.if_icmp .ge 27, 3) := by decide +kernel
theorem dX7_keep_18 : decode cX7_keep 18 = .ok (.aload_n 0, 1) := by decide +kernel
theorem dX7_keep_19 : decode cX7_keep 19 = .ok (.getfield 16, 3) := by decide +kernel
theorem dX7_keep_22 : decode cX7_keep 22 = .ok (.sipush 131, 3) := by decide +kernel
theorem dX7_keep_25 : decode cX7_keep 25 = .ok (.iload_n 1, 1) := by decide +kernel
theorem dX7_keep_26 : decode cX7_keep 26 = .ok (.imul, 1) := by decide +kernel
theorem dX7_keep_27 : decode cX7_keep 27 = .ok (.iload_n 2, 1) := by decide +kernel
theorem dX7_keep_28 : decode cX7_keep 28 = .ok (.iadd, 1) := by decide +kernel
theorem dX7_keep_29 : decode cX7_keep 29 = .ok (.aload_n 0, 1) := by decide +kernel
theorem dX7_keep_30 : decode cX7_keep 30 = .ok (.getfield 7, 3) := by decide +kernel
theorem dX7_keep_33 : decode cX7_keep 33 = .ok (.iload_n 2, 1) := by decide +kernel
theorem dX7_keep_34 : decode cX7_keep 34 = .ok (.iaload, 1) := by decide +kernel
theorem dX7_keep_35 : decode cX7_keep 35 = .ok (.iastore, 1) := by decide +kernel
theorem dX7_keep_36 : decode cX7_keep 36 = .ok (.iinc 2 1, 3) := by decide +kernel
theorem dX7_keep_39 : decode cX7_keep 39 = .ok (.goto (-28), 3) := by decide +kernel
theorem dX7_keep_42 : decode cX7_keep 42 = .ok (.aload_n 0, 1) := by decide +kernel
theorem dX7_keep_43 : decode cX7_keep 43 = .ok (.dup, 1) := by decide +kernel
theorem dX7_keep_44 : decode cX7_keep 44 = .ok (.getfield 206, 3) := by decide +kernel
theorem dX7_keep_47 : decode cX7_keep 47 = .ok (.iconst 1, 1) := by decide +kernel
theorem dX7_keep_48 : decode cX7_keep 48 = .ok (.iload_n 1, 1) := by decide +kernel
theorem dX7_keep_49 : decode cX7_keep 49 = .ok (.ishl, 1) := by decide +kernel
theorem dX7_keep_50 : decode cX7_keep 50 = .ok (.ior, 1) := by decide +kernel
theorem dX7_keep_51 : decode cX7_keep 51 = .ok (.putfield 206, 3) := by decide +kernel
theorem dX7_keep_54 : decode cX7_keep 54 = .ok (.aload_n 0, 1) := by decide +kernel
theorem dX7_keep_55 : decode cX7_keep 55 = .ok (.invokevirtual 193, 3) := by decide +kernel
theorem dX7_keep_58 : decode cX7_keep 58 = .ok (.ireturn, 1) := by decide +kernel
theorem dX7_back_0 : decode cX7_back 0 = .ok (.iload_n 1, 1) := by decide +kernel
theorem dX7_back_1 : decode cX7_back 1 = .ok (.invokestatic 203, 3) := by decide +kernel
theorem dX7_back_4 : decode cX7_back 4 = .ok (.ifCond .ne 5, 3) := by decide +kernel
theorem dX7_back_7 : decode cX7_back 7 = .ok (.iconst (-1), 1) := by decide +kernel
theorem dX7_back_8 : decode cX7_back 8 = .ok (.ireturn, 1) := by decide +kernel
theorem dX7_back_9 : decode cX7_back 9 = .ok (.aload_n 0, 1) := by decide +kernel
theorem dX7_back_10 : decode cX7_back 10 = .ok (.getfield 206, 3) := by decide +kernel
theorem dX7_back_13 : decode cX7_back 13 = .ok (.iload_n 1, 1) := by decide +kernel
theorem dX7_back_14 : decode cX7_back 14 = .ok (.ishr, 1) := by decide +kernel
theorem dX7_back_15 : decode cX7_back 15 = .ok (.iconst 1, 1) := by decide +kernel
theorem dX7_back_16 : decode cX7_back 16 = .ok (.iand, 1) := by decide +kernel
theorem dX7_back_17 : decode cX7_back 17 = .ok (.ifCond .ne 6, 3) := by decide +kernel
theorem dX7_back_20 : decode cX7_back 20 = .ok (.bipush (-2), 2) := by decide +kernel
theorem dX7_back_22 : decode cX7_back 22 = .ok (.ireturn, 1) := by decide +kernel
theorem dX7_back_23 : decode cX7_back 23 = .ok (.aload_n 0, 1) := by decide +kernel
theorem dX7_back_24 : decode cX7_back 24 = .ok (.invokevirtual 107, 3) := by decide +kernel
theorem dX7_back_27 : decode cX7_back 27 = .ok (.iconst 0, 1) := by decide +kernel
theorem dX7_back_28 : decode cX7_back 28 = .ok (.istore_n 2, 1) := by decide +kernel
theorem dX7_back_29 : decode cX7_back 29 = .ok (.iload_n 2, 1) := by decide +kernel
theorem dX7_back_30 : decode cX7_back 30 = .ok (.sipush 131, 3) := by decide +kernel
theorem dX7_back_33 : decode cX7_back 33 = .ok (.if_icmp .ge 27, 3) := by decide +kernel
theorem dX7_back_36 : decode cX7_back 36 = .ok (.aload_n 0, 1) := by decide +kernel
theorem dX7_back_37 : decode cX7_back 37 = .ok (.getfield 7, 3) := by decide +kernel
theorem dX7_back_40 : decode cX7_back 40 = .ok (.iload_n 2, 1) := by decide +kernel
theorem dX7_back_41 : decode cX7_back 41 = .ok (.aload_n 0, 1) := by decide +kernel
theorem dX7_back_42 : decode cX7_back 42 = .ok (.getfield 16, 3) := by decide +kernel
theorem dX7_back_45 : decode cX7_back 45 = .ok (.sipush 131, 3) := by decide +kernel
theorem dX7_back_48 : decode cX7_back 48 = .ok (.iload_n 1, 1) := by decide +kernel
theorem dX7_back_49 : decode cX7_back 49 = .ok (.imul, 1) := by decide +kernel
theorem dX7_back_50 : decode cX7_back 50 = .ok (.iload_n 2, 1) := by decide +kernel
theorem dX7_back_51 : decode cX7_back 51 = .ok (.iadd, 1) := by decide +kernel
theorem dX7_back_52 : decode cX7_back 52 = .ok (.iaload, 1) := by decide +kernel
theorem dX7_back_53 : decode cX7_back 53 = .ok (.iastore, 1) := by decide +kernel
theorem dX7_back_54 : decode cX7_back 54 = .ok (.iinc 2 1, 3) := by decide +kernel
theorem dX7_back_57 : decode cX7_back 57 = .ok (.goto (-28), 3) := by decide +kernel
theorem dX7_back_60 : decode cX7_back 60 = .ok (.aload_n 0, 1) := by decide +kernel
theorem dX7_back_61 : decode cX7_back 61 = .ok (.invokevirtual 193, 3) := by decide +kernel
theorem dX7_back_64 : decode cX7_back 64 = .ok (.ireturn, 1) := by decide +kernel
theorem dJ9_abs_0f7a4_0 : decode cJ9_abs_0f7a4 0 = .ok (.iload_n 0, 1) := by decide +kernel
theorem dJ9_abs_0f7a4_1 : decode cJ9_abs_0f7a4 1 = .ok (.ifCond .ge 8, 3) := by decide +kernel
theorem dJ9_abs_0f7a4_4 : decode cJ9_abs_0f7a4 4 = .ok (.iload_n 0, 1) := by decide +kernel
theorem dJ9_abs_0f7a4_5 : decode cJ9_abs_0f7a4 5 = .ok (.ineg, 1) := by decide +kernel
theorem dJ9_abs_0f7a4_6 : decode cJ9_abs_0f7a4 6 = .ok (.goto 4, 3) := by decide +kernel
theorem dJ9_abs_0f7a4_9 : decode cJ9_abs_0f7a4 9 = .ok (.iload_n 0, 1) := by decide +kernel
theorem dJ9_abs_0f7a4_10 : decode cJ9_abs_0f7a4 10 = .ok (.ireturn, 1) := by decide +kernel
theorem dJ9_max_7cf53_0 : decode cJ9_max_7cf53 0 = .ok (.iload_n 0, 1) := by decide +kernel
theorem dJ9_max_7cf53_1 : decode cJ9_max_7cf53 1 = .ok (.iload_n 1, 1) := by decide +kernel
theorem dJ9_max_7cf53_2 : decode cJ9_max_7cf53 2 = .ok (.if_icmp .lt 7, 3) := by decide +kernel
theorem dJ9_max_7cf53_5 : decode cJ9_max_7cf53 5 = .ok (.iload_n 0, 1) := by decide +kernel
theorem dJ9_max_7cf53_6 : decode cJ9_max_7cf53 6 = .ok (.goto 4, 3) := by decide +kernel
theorem dJ9_max_7cf53_9 : decode cJ9_max_7cf53 9 = .ok (.iload_n 1, 1) := by decide +kernel
theorem dJ9_max_7cf53_10 : decode cJ9_max_7cf53 10 = .ok (.ireturn, 1) := by decide +kernel
theorem dJ9_min_7cf53_0 : decode cJ9_min_7cf53 0 = .ok (.iload_n 0, 1) := by decide +kernel
theorem dJ9_min_7cf53_1 : decode cJ9_min_7cf53 1 = .ok (.iload_n 1, 1) := by decide +kernel
theorem dJ9_min_7cf53_2 : decode cJ9_min_7cf53 2 = .ok (.if_icmp .gt 7, 3) := by decide +kernel
theorem dJ9_min_7cf53_5 : decode cJ9_min_7cf53 5 = .ok (.iload_n 0, 1) := by decide +kernel
theorem dJ9_min_7cf53_6 : decode cJ9_min_7cf53 6 = .ok (.goto 4, 3) := by decide +kernel
theorem dJ9_min_7cf53_9 : decode cJ9_min_7cf53 9 = .ok (.iload_n 1, 1) := by decide +kernel
theorem dJ9_min_7cf53_10 : decode cJ9_min_7cf53 10 = .ok (.ireturn, 1) := by decide +kernel
theorem dJ7_fill_53178_0 : decode cJ7_fill_53178 0 = .ok (.iconst 0, 1) := by decide +kernel
theorem dJ7_fill_53178_1 : decode cJ7_fill_53178 1 = .ok (.istore_n 2, 1) := by decide +kernel
theorem dJ7_fill_53178_2 : decode cJ7_fill_53178 2 = .ok (.aload_n 0, 1) := by decide +kernel
theorem dJ7_fill_53178_3 : decode cJ7_fill_53178 3 = .ok (.arraylength, 1) := by decide +kernel
theorem dJ7_fill_53178_4 : decode cJ7_fill_53178 4 = .ok (.istore_n 3, 1) := by decide +kernel
theorem dJ7_fill_53178_5 : decode cJ7_fill_53178 5 = .ok (.iload_n 2, 1) := by decide +kernel
theorem dJ7_fill_53178_6 : decode cJ7_fill_53178 6 = .ok (.iload_n 3, 1) := by decide +kernel
theorem dJ7_fill_53178_7 : decode cJ7_fill_53178 7 = .ok (.if_icmp .ge 13, 3) := by decide +kernel
theorem dJ7_fill_53178_10 : decode cJ7_fill_53178 10 = .ok (.aload_n 0, 1) := by decide +kernel
theorem dJ7_fill_53178_11 : decode cJ7_fill_53178 11 = .ok (.iload_n 2, 1) := by decide +kernel
theorem dJ7_fill_53178_12 : decode cJ7_fill_53178 12 = .ok (.iload_n 1, 1) := by decide +kernel
theorem dJ7_fill_53178_13 : decode cJ7_fill_53178 13 = .ok (.iastore, 1) := by decide +kernel
theorem dJ7_fill_53178_14 : decode cJ7_fill_53178 14 = .ok (.iinc 2 1, 3) := by decide +kernel
theorem dJ7_fill_53178_17 : decode cJ7_fill_53178 17 = .ok (.goto (-12), 3) := by decide +kernel
theorem dJ7_fill_53178_20 : decode cJ7_fill_53178 20 = .ok (.return_, 1) := by decide +kernel
theorem dL_law_0 : decode cL_law 0 = .ok (.new 7, 3) := by decide +kernel
theorem dL_law_3 : decode cL_law 3 = .ok (.dup, 1) := by decide +kernel
theorem dL_law_4 : decode cL_law 4 = .ok (.invokespecial 9, 3) := by decide +kernel
theorem dL_law_7 : decode cL_law 7 = .ok (.astore_n 1, 1) := by decide +kernel
theorem dL_law_8 : decode cL_law 8 = .ok (.new 10, 3) := by decide +kernel
theorem dL_law_11 : decode cL_law 11 = .ok (.dup, 1) := by decide +kernel
theorem dL_law_12 : decode cL_law 12 = .ok (.invokespecial 12, 3) := by decide +kernel
theorem dL_law_15 : decode cL_law 15 = .ok (.astore_n 2, 1) := by decide +kernel
theorem dL_law_16 : decode cL_law 16 = .ok (.iconst 0, 1) := by decide +kernel
theorem dL_law_17 : decode cL_law 17 = .ok (.istore_n 3, 1) := by decide +kernel
theorem dL_law_18 : decode cL_law 18 = .ok (.iload_n 3, 1) := by decide +kernel
theorem dL_law_19 : decode cL_law 19 = .ok (.aload_n 0, 1) := by decide +kernel
theorem dL_law_20 : decode cL_law 20 = .ok (.arraylength, 1) := by decide +kernel
theorem dL_law_21 : decode cL_law 21 = .ok (.iconst 4, 1) := by decide +kernel
theorem dL_law_22 : decode cL_law 22 = .ok (.isub, 1) := by decide +kernel
theorem dL_law_23 : decode cL_law 23 = .ok (.if_icmp .gt 779, 3) := by decide +kernel
theorem dL_law_26 : decode cL_law 26 = .ok (.aload_n 0, 1) := by decide +kernel
theorem dL_law_27 : decode cL_law 27 = .ok (.iload_n 3, 1) := by decide +kernel
theorem dL_law_28 : decode cL_law 28 = .ok (.iaload, 1) := by decide +kernel
theorem dL_law_29 : decode cL_law 29 = .ok (.bipush 31, 2) := by decide +kernel
theorem dL_law_31 : decode cL_law 31 = .ok (.iand, 1) := by decide +kernel
theorem dL_law_32 : decode cL_law 32 = .ok (.tableswitch 764 0 23 #[112, 145, 178, 201, 214, 257, 280, 303, 326, 349, 362, 385, 398, 421, 444, 467, 500, 543, 566, 599, 642, 685, 718, 741], 112) := by decide +kernel
theorem dL_law_144 : decode cL_law 144 = .ok (.aload_n 1, 1) := by decide +kernel
theorem dL_law_145 : decode cL_law 145 = .ok (.aload_n 0, 1) := by decide +kernel
theorem dL_law_146 : decode cL_law 146 = .ok (.iload_n 3, 1) := by decide +kernel
theorem dL_law_147 : decode cL_law 147 = .ok (.iconst 1, 1) := by decide +kernel
theorem dL_law_148 : decode cL_law 148 = .ok (.iadd, 1) := by decide +kernel
theorem dL_law_149 : decode cL_law 149 = .ok (.iaload, 1) := by decide +kernel
theorem dL_law_150 : decode cL_law 150 = .ok (.aload_n 0, 1) := by decide +kernel
theorem dL_law_151 : decode cL_law 151 = .ok (.iload_n 3, 1) := by decide +kernel
theorem dL_law_152 : decode cL_law 152 = .ok (.iconst 2, 1) := by decide +kernel
theorem dL_law_153 : decode cL_law 153 = .ok (.iadd, 1) := by decide +kernel
theorem dL_law_154 : decode cL_law 154 = .ok (.iaload, 1) := by decide +kernel
theorem dL_law_155 : decode cL_law 155 = .ok (.invokevirtual 13, 3) := by decide +kernel
theorem dL_law_158 : decode cL_law 158 = .ok (.aload_n 2, 1) := by decide +kernel
theorem dL_law_159 : decode cL_law 159 = .ok (.aload_n 0, 1) := by decide +kernel
theorem dL_law_160 : decode cL_law 160 = .ok (.iload_n 3, 1) := by decide +kernel
theorem dL_law_161 : decode cL_law 161 = .ok (.iconst 1, 1) := by decide +kernel
theorem dL_law_162 : decode cL_law 162 = .ok (.iadd, 1) := by decide +kernel
theorem dL_law_163 : decode cL_law 163 = .ok (.iaload, 1) := by decide +kernel
theorem dL_law_164 : decode cL_law 164 = .ok (.aload_n 0, 1) := by decide +kernel
theorem dL_law_165 : decode cL_law 165 = .ok (.iload_n 3, 1) := by decide +kernel
theorem dL_law_166 : decode cL_law 166 = .ok (.iconst 2, 1) := by decide +kernel
theorem dL_law_167 : decode cL_law 167 = .ok (.iadd, 1) := by decide +kernel
theorem dL_law_168 : decode cL_law 168 = .ok (.iaload, 1) := by decide +kernel
theorem dL_law_169 : decode cL_law 169 = .ok (.invokevirtual 17, 3) := by decide +kernel
theorem dL_law_172 : decode cL_law 172 = .ok (.if_icmp .eq 624, 3) := by decide +kernel
theorem dL_law_175 : decode cL_law 175 = .ok (.iconst 0, 1) := by decide +kernel
theorem dL_law_176 : decode cL_law 176 = .ok (.ireturn, 1) := by decide +kernel
theorem dL_law_177 : decode cL_law 177 = .ok (.aload_n 1, 1) := by decide +kernel
theorem dL_law_178 : decode cL_law 178 = .ok (.aload_n 0, 1) := by decide +kernel
theorem dL_law_179 : decode cL_law 179 = .ok (.iload_n 3, 1) := by decide +kernel
theorem dL_law_180 : decode cL_law 180 = .ok (.iconst 1, 1) := by decide +kernel
theorem dL_law_181 : decode cL_law 181 = .ok (.iadd, 1) := by decide +kernel
theorem dL_law_182 : decode cL_law 182 = .ok (.iaload, 1) := by decide +kernel
theorem dL_law_183 : decode cL_law 183 = .ok (.aload_n 0, 1) := by decide +kernel
theorem dL_law_184 : decode cL_law 184 = .ok (.iload_n 3, 1) := by decide +kernel
theorem dL_law_185 : decode cL_law 185 = .ok (.iconst 2, 1) := by decide +kernel
theorem dL_law_186 : decode cL_law 186 = .ok (.iadd, 1) := by decide +kernel
theorem dL_law_187 : decode cL_law 187 = .ok (.iaload, 1) := by decide +kernel
theorem dL_law_188 : decode cL_law 188 = .ok (.invokevirtual 18, 3) := by decide +kernel
theorem dL_law_191 : decode cL_law 191 = .ok (.aload_n 2, 1) := by decide +kernel
theorem dL_law_192 : decode cL_law 192 = .ok (.aload_n 0, 1) := by decide +kernel
theorem dL_law_193 : decode cL_law 193 = .ok (.iload_n 3, 1) := by decide +kernel
theorem dL_law_194 : decode cL_law 194 = .ok (.iconst 1, 1) := by decide +kernel
theorem dL_law_195 : decode cL_law 195 = .ok (.iadd, 1) := by decide +kernel
theorem dL_law_196 : decode cL_law 196 = .ok (.iaload, 1) := by decide +kernel
theorem dL_law_197 : decode cL_law 197 = .ok (.aload_n 0, 1) := by decide +kernel
theorem dL_law_198 : decode cL_law 198 = .ok (.iload_n 3, 1) := by decide +kernel
theorem dL_law_199 : decode cL_law 199 = .ok (.iconst 2, 1) := by decide +kernel
theorem dL_law_200 : decode cL_law 200 = .ok (.iadd, 1) := by decide +kernel
theorem dL_law_201 : decode cL_law 201 = .ok (.iaload, 1) := by decide +kernel
theorem dL_law_202 : decode cL_law 202 = .ok (.invokevirtual 21, 3) := by decide +kernel
theorem dL_law_205 : decode cL_law 205 = .ok (.if_icmp .eq 591, 3) := by decide +kernel
theorem dL_law_208 : decode cL_law 208 = .ok (.iconst 0, 1) := by decide +kernel
theorem dL_law_209 : decode cL_law 209 = .ok (.ireturn, 1) := by decide +kernel
theorem dL_law_210 : decode cL_law 210 = .ok (.aload_n 1, 1) := by decide +kernel
theorem dL_law_211 : decode cL_law 211 = .ok (.aload_n 0, 1) := by decide +kernel
theorem dL_law_212 : decode cL_law 212 = .ok (.iload_n 3, 1) := by decide +kernel
theorem dL_law_213 : decode cL_law 213 = .ok (.iconst 1, 1) := by decide +kernel
theorem dL_law_214 : decode cL_law 214 = .ok (.iadd, 1) := by decide +kernel
theorem dL_law_215 : decode cL_law 215 = .ok (.iaload, 1) := by decide +kernel
theorem dL_law_216 : decode cL_law 216 = .ok (.invokevirtual 22, 3) := by decide +kernel
theorem dL_law_219 : decode cL_law 219 = .ok (.aload_n 2, 1) := by decide +kernel
theorem dL_law_220 : decode cL_law 220 = .ok (.aload_n 0, 1) := by decide +kernel
theorem dL_law_221 : decode cL_law 221 = .ok (.iload_n 3, 1) := by decide +kernel
theorem dL_law_222 : decode cL_law 222 = .ok (.iconst 1, 1) := by decide +kernel
theorem dL_law_223 : decode cL_law 223 = .ok (.iadd, 1) := by decide +kernel
theorem dL_law_224 : decode cL_law 224 = .ok (.iaload, 1) := by decide +kernel
theorem dL_law_225 : decode cL_law 225 = .ok (.invokevirtual 26, 3) := by decide +kernel
theorem dL_law_228 : decode cL_law 228 = .ok (.if_icmp .eq 568, 3) := by decide +kernel
theorem dL_law_231 : decode cL_law 231 = .ok (.iconst 0, 1) := by decide +kernel
theorem dL_law_232 : decode cL_law 232 = .ok (.ireturn, 1) := by decide +kernel
theorem dL_law_233 : decode cL_law 233 = .ok (.aload_n 1, 1) := by decide +kernel
theorem dL_law_234 : decode cL_law 234 = .ok (.invokevirtual 27, 3) := by decide +kernel
theorem dL_law_237 : decode cL_law 237 = .ok (.aload_n 2, 1) := by decide +kernel
theorem dL_law_238 : decode cL_law 238 = .ok (.invokevirtual 31, 3) := by decide +kernel
theorem dL_law_241 : decode cL_law 241 = .ok (.if_icmp .eq 555, 3) := by decide +kernel
theorem dL_law_244 : decode cL_law 244 = .ok (.iconst 0, 1) := by decide +kernel
theorem dL_law_245 : decode cL_law 245 = .ok (.ireturn, 1) := by decide +kernel
theorem dL_law_246 : decode cL_law 246 = .ok (.aload_n 1, 1) := by decide +kernel
theorem dL_law_247 : decode cL_law 247 = .ok (.aload_n 0, 1) := by decide +kernel
theorem dL_law_248 : decode cL_law 248 = .ok (.iload_n 3, 1) := by decide +kernel
theorem dL_law_249 : decode cL_law 249 = .ok (.iconst 1, 1) := by decide +kernel
theorem dL_law_250 : decode cL_law 250 = .ok (.iadd, 1) := by decide +kernel
theorem dL_law_251 : decode cL_law 251 = .ok (.iaload, 1) := by decide +kernel
theorem dL_law_252 : decode cL_law 252 = .ok (.aload_n 0, 1) := by decide +kernel
theorem dL_law_253 : decode cL_law 253 = .ok (.iload_n 3, 1) := by decide +kernel
theorem dL_law_254 : decode cL_law 254 = .ok (.iconst 2, 1) := by decide +kernel
theorem dL_law_255 : decode cL_law 255 = .ok (.iadd, 1) := by decide +kernel
theorem dL_law_256 : decode cL_law 256 = .ok (.iaload, 1) := by decide +kernel
theorem dL_law_257 : decode cL_law 257 = .ok (.aload_n 0, 1) := by decide +kernel
theorem dL_law_258 : decode cL_law 258 = .ok (.iload_n 3, 1) := by decide +kernel
theorem dL_law_259 : decode cL_law 259 = .ok (.iconst 3, 1) := by decide +kernel
theorem dL_law_260 : decode cL_law 260 = .ok (.iadd, 1) := by decide +kernel
theorem dL_law_261 : decode cL_law 261 = .ok (.iaload, 1) := by decide +kernel
theorem dL_law_262 : decode cL_law 262 = .ok (.invokevirtual 32, 3) := by decide +kernel
theorem dL_law_265 : decode cL_law 265 = .ok (.aload_n 2, 1) := by decide +kernel
theorem dL_law_266 : decode cL_law 266 = .ok (.aload_n 0, 1) := by decide +kernel
theorem dL_law_267 : decode cL_law 267 = .ok (.iload_n 3, 1) := by decide +kernel
theorem dL_law_268 : decode cL_law 268 = .ok (.iconst 1, 1) := by decide +kernel
theorem dL_law_269 : decode cL_law 269 = .ok (.iadd, 1) := by decide +kernel
theorem dL_law_270 : decode cL_law 270 = .ok (.iaload, 1) := by decide +kernel
theorem dL_law_271 : decode cL_law 271 = .ok (.aload_n 0, 1) := by decide +kernel
theorem dL_law_272 : decode cL_law 272 = .ok (.iload_n 3, 1) := by decide +kernel
theorem dL_law_273 : decode cL_law 273 = .ok (.iconst 2, 1) := by decide +kernel
theorem dL_law_274 : decode cL_law 274 = .ok (.iadd, 1) := by decide +kernel
theorem dL_law_275 : decode cL_law 275 = .ok (.iaload, 1) := by decide +kernel
theorem dL_law_276 : decode cL_law 276 = .ok (.aload_n 0, 1) := by decide +kernel
theorem dL_law_277 : decode cL_law 277 = .ok (.iload_n 3, 1) := by decide +kernel
theorem dL_law_278 : decode cL_law 278 = .ok (.iconst 3, 1) := by decide +kernel
theorem dL_law_279 : decode cL_law 279 = .ok (.iadd, 1) := by decide +kernel
theorem dL_law_280 : decode cL_law 280 = .ok (.iaload, 1) := by decide +kernel
theorem dL_law_281 : decode cL_law 281 = .ok (.invokevirtual 36, 3) := by decide +kernel
theorem dL_law_284 : decode cL_law 284 = .ok (.if_icmp .eq 512, 3) := by decide +kernel
theorem dL_law_287 : decode cL_law 287 = .ok (.iconst 0, 1) := by decide +kernel
theorem dL_law_288 : decode cL_law 288 = .ok (.ireturn, 1) := by decide +kernel
theorem dL_law_289 : decode cL_law 289 = .ok (.aload_n 1, 1) := by decide +kernel
theorem dL_law_290 : decode cL_law 290 = .ok (.aload_n 0, 1) := by decide +kernel
theorem dL_law_291 : decode cL_law 291 = .ok (.iload_n 3, 1) := by decide +kernel
theorem dL_law_292 : decode cL_law 292 = .ok (.iconst 1, 1) := by decide +kernel
theorem dL_law_293 : decode cL_law 293 = .ok (.iadd, 1) := by decide +kernel
theorem dL_law_294 : decode cL_law 294 = .ok (.iaload, 1) := by decide +kernel
theorem dL_law_295 : decode cL_law 295 = .ok (.invokevirtual 37, 3) := by decide +kernel
theorem dL_law_298 : decode cL_law 298 = .ok (.aload_n 2, 1) := by decide +kernel
theorem dL_law_299 : decode cL_law 299 = .ok (.aload_n 0, 1) := by decide +kernel
theorem dL_law_300 : decode cL_law 300 = .ok (.iload_n 3, 1) := by decide +kernel
theorem dL_law_301 : decode cL_law 301 = .ok (.iconst 1, 1) := by decide +kernel
theorem dL_law_302 : decode cL_law 302 = .ok (.iadd, 1) := by decide +kernel
theorem dL_law_303 : decode cL_law 303 = .ok (.iaload, 1) := by decide +kernel
theorem dL_law_304 : decode cL_law 304 = .ok (.invokevirtual 40, 3) := by decide +kernel
theorem dL_law_307 : decode cL_law 307 = .ok (.if_icmp .eq 489, 3) := by decide +kernel
theorem dL_law_310 : decode cL_law 310 = .ok (.iconst 0, 1) := by decide +kernel
theorem dL_law_311 : decode cL_law 311 = .ok (.ireturn, 1) := by decide +kernel
theorem dL_law_312 : decode cL_law 312 = .ok (.aload_n 1, 1) := by decide +kernel
theorem dL_law_313 : decode cL_law 313 = .ok (.aload_n 0, 1) := by decide +kernel
theorem dL_law_314 : decode cL_law 314 = .ok (.iload_n 3, 1) := by decide +kernel
theorem dL_law_315 : decode cL_law 315 = .ok (.iconst 1, 1) := by decide +kernel
theorem dL_law_316 : decode cL_law 316 = .ok (.iadd, 1) := by decide +kernel
theorem dL_law_317 : decode cL_law 317 = .ok (.iaload, 1) := by decide +kernel
theorem dL_law_318 : decode cL_law 318 = .ok (.invokevirtual 41, 3) := by decide +kernel
theorem dL_law_321 : decode cL_law 321 = .ok (.aload_n 2, 1) := by decide +kernel
theorem dL_law_322 : decode cL_law 322 = .ok (.aload_n 0, 1) := by decide +kernel
theorem dL_law_323 : decode cL_law 323 = .ok (.iload_n 3, 1) := by decide +kernel
theorem dL_law_324 : decode cL_law 324 = .ok (.iconst 1, 1) := by decide +kernel
theorem dL_law_325 : decode cL_law 325 = .ok (.iadd, 1) := by decide +kernel
theorem dL_law_326 : decode cL_law 326 = .ok (.iaload, 1) := by decide +kernel
theorem dL_law_327 : decode cL_law 327 = .ok (.invokevirtual 44, 3) := by decide +kernel
theorem dL_law_330 : decode cL_law 330 = .ok (.if_icmp .eq 466, 3) := by decide +kernel
theorem dL_law_333 : decode cL_law 333 = .ok (.iconst 0, 1) := by decide +kernel
theorem dL_law_334 : decode cL_law 334 = .ok (.ireturn, 1) := by decide +kernel
theorem dL_law_335 : decode cL_law 335 = .ok (.aload_n 1, 1) := by decide +kernel
theorem dL_law_336 : decode cL_law 336 = .ok (.aload_n 0, 1) := by decide +kernel
theorem dL_law_337 : decode cL_law 337 = .ok (.iload_n 3, 1) := by decide +kernel
theorem dL_law_338 : decode cL_law 338 = .ok (.iconst 1, 1) := by decide +kernel
theorem dL_law_339 : decode cL_law 339 = .ok (.iadd, 1) := by decide +kernel
theorem dL_law_340 : decode cL_law 340 = .ok (.iaload, 1) := by decide +kernel
theorem dL_law_341 : decode cL_law 341 = .ok (.invokevirtual 45, 3) := by decide +kernel
theorem dL_law_344 : decode cL_law 344 = .ok (.aload_n 2, 1) := by decide +kernel
theorem dL_law_345 : decode cL_law 345 = .ok (.aload_n 0, 1) := by decide +kernel
theorem dL_law_346 : decode cL_law 346 = .ok (.iload_n 3, 1) := by decide +kernel
theorem dL_law_347 : decode cL_law 347 = .ok (.iconst 1, 1) := by decide +kernel
theorem dL_law_348 : decode cL_law 348 = .ok (.iadd, 1) := by decide +kernel
theorem dL_law_349 : decode cL_law 349 = .ok (.iaload, 1) := by decide +kernel
theorem dL_law_350 : decode cL_law 350 = .ok (.invokevirtual 48, 3) := by decide +kernel
theorem dL_law_353 : decode cL_law 353 = .ok (.if_icmp .eq 443, 3) := by decide +kernel
theorem dL_law_356 : decode cL_law 356 = .ok (.iconst 0, 1) := by decide +kernel
theorem dL_law_357 : decode cL_law 357 = .ok (.ireturn, 1) := by decide +kernel
theorem dL_law_358 : decode cL_law 358 = .ok (.aload_n 1, 1) := by decide +kernel
theorem dL_law_359 : decode cL_law 359 = .ok (.aload_n 0, 1) := by decide +kernel
theorem dL_law_360 : decode cL_law 360 = .ok (.iload_n 3, 1) := by decide +kernel
theorem dL_law_361 : decode cL_law 361 = .ok (.iconst 1, 1) := by decide +kernel
theorem dL_law_362 : decode cL_law 362 = .ok (.iadd, 1) := by decide +kernel
theorem dL_law_363 : decode cL_law 363 = .ok (.iaload, 1) := by decide +kernel
theorem dL_law_364 : decode cL_law 364 = .ok (.invokevirtual 49, 3) := by decide +kernel
theorem dL_law_367 : decode cL_law 367 = .ok (.aload_n 2, 1) := by decide +kernel
theorem dL_law_368 : decode cL_law 368 = .ok (.aload_n 0, 1) := by decide +kernel
theorem dL_law_369 : decode cL_law 369 = .ok (.iload_n 3, 1) := by decide +kernel
theorem dL_law_370 : decode cL_law 370 = .ok (.iconst 1, 1) := by decide +kernel
theorem dL_law_371 : decode cL_law 371 = .ok (.iadd, 1) := by decide +kernel
theorem dL_law_372 : decode cL_law 372 = .ok (.iaload, 1) := by decide +kernel
theorem dL_law_373 : decode cL_law 373 = .ok (.invokevirtual 52, 3) := by decide +kernel
theorem dL_law_376 : decode cL_law 376 = .ok (.if_icmp .eq 420, 3) := by decide +kernel
theorem dL_law_379 : decode cL_law 379 = .ok (.iconst 0, 1) := by decide +kernel
theorem dL_law_380 : decode cL_law 380 = .ok (.ireturn, 1) := by decide +kernel
theorem dL_law_381 : decode cL_law 381 = .ok (.aload_n 1, 1) := by decide +kernel
theorem dL_law_382 : decode cL_law 382 = .ok (.invokevirtual 53, 3) := by decide +kernel
theorem dL_law_385 : decode cL_law 385 = .ok (.aload_n 2, 1) := by decide +kernel
theorem dL_law_386 : decode cL_law 386 = .ok (.invokevirtual 56, 3) := by decide +kernel
theorem dL_law_389 : decode cL_law 389 = .ok (.if_icmp .eq 407, 3) := by decide +kernel
theorem dL_law_392 : decode cL_law 392 = .ok (.iconst 0, 1) := by decide +kernel
theorem dL_law_393 : decode cL_law 393 = .ok (.ireturn, 1) := by decide +kernel
theorem dL_law_394 : decode cL_law 394 = .ok (.aload_n 1, 1) := by decide +kernel
theorem dL_law_395 : decode cL_law 395 = .ok (.aload_n 0, 1) := by decide +kernel
theorem dL_law_396 : decode cL_law 396 = .ok (.iload_n 3, 1) := by decide +kernel
theorem dL_law_397 : decode cL_law 397 = .ok (.iconst 1, 1) := by decide +kernel
theorem dL_law_398 : decode cL_law 398 = .ok (.iadd, 1) := by decide +kernel
theorem dL_law_399 : decode cL_law 399 = .ok (.iaload, 1) := by decide +kernel
theorem dL_law_400 : decode cL_law 400 = .ok (.invokevirtual 57, 3) := by decide +kernel
theorem dL_law_403 : decode cL_law 403 = .ok (.aload_n 2, 1) := by decide +kernel
theorem dL_law_404 : decode cL_law 404 = .ok (.aload_n 0, 1) := by decide +kernel
theorem dL_law_405 : decode cL_law 405 = .ok (.iload_n 3, 1) := by decide +kernel
theorem dL_law_406 : decode cL_law 406 = .ok (.iconst 1, 1) := by decide +kernel
theorem dL_law_407 : decode cL_law 407 = .ok (.iadd, 1) := by decide +kernel
theorem dL_law_408 : decode cL_law 408 = .ok (.iaload, 1) := by decide +kernel
theorem dL_law_409 : decode cL_law 409 = .ok (.invokevirtual 60, 3) := by decide +kernel
theorem dL_law_412 : decode cL_law 412 = .ok (.if_icmp .eq 384, 3) := by decide +kernel
theorem dL_law_415 : decode cL_law 415 = .ok (.iconst 0, 1) := by decide +kernel
theorem dL_law_416 : decode cL_law 416 = .ok (.ireturn, 1) := by decide +kernel
theorem dL_law_417 : decode cL_law 417 = .ok (.aload_n 1, 1) := by decide +kernel
theorem dL_law_418 : decode cL_law 418 = .ok (.invokevirtual 61, 3) := by decide +kernel
theorem dL_law_421 : decode cL_law 421 = .ok (.aload_n 2, 1) := by decide +kernel
theorem dL_law_422 : decode cL_law 422 = .ok (.invokevirtual 64, 3) := by decide +kernel
theorem dL_law_425 : decode cL_law 425 = .ok (.if_icmp .eq 371, 3) := by decide +kernel
theorem dL_law_428 : decode cL_law 428 = .ok (.iconst 0, 1) := by decide +kernel
theorem dL_law_429 : decode cL_law 429 = .ok (.ireturn, 1) := by decide +kernel
theorem dL_law_430 : decode cL_law 430 = .ok (.aload_n 1, 1) := by decide +kernel
theorem dL_law_431 : decode cL_law 431 = .ok (.aload_n 0, 1) := by decide +kernel
theorem dL_law_432 : decode cL_law 432 = .ok (.iload_n 3, 1) := by decide +kernel
theorem dL_law_433 : decode cL_law 433 = .ok (.iconst 1, 1) := by decide +kernel
theorem dL_law_434 : decode cL_law 434 = .ok (.iadd, 1) := by decide +kernel
theorem dL_law_435 : decode cL_law 435 = .ok (.iaload, 1) := by decide +kernel
theorem dL_law_436 : decode cL_law 436 = .ok (.invokevirtual 65, 3) := by decide +kernel
theorem dL_law_439 : decode cL_law 439 = .ok (.aload_n 2, 1) := by decide +kernel
theorem dL_law_440 : decode cL_law 440 = .ok (.aload_n 0, 1) := by decide +kernel
theorem dL_law_441 : decode cL_law 441 = .ok (.iload_n 3, 1) := by decide +kernel
theorem dL_law_442 : decode cL_law 442 = .ok (.iconst 1, 1) := by decide +kernel
theorem dL_law_443 : decode cL_law 443 = .ok (.iadd, 1) := by decide +kernel
theorem dL_law_444 : decode cL_law 444 = .ok (.iaload, 1) := by decide +kernel
theorem dL_law_445 : decode cL_law 445 = .ok (.invokevirtual 68, 3) := by decide +kernel
theorem dL_law_448 : decode cL_law 448 = .ok (.if_icmp .eq 348, 3) := by decide +kernel
theorem dL_law_451 : decode cL_law 451 = .ok (.iconst 0, 1) := by decide +kernel
theorem dL_law_452 : decode cL_law 452 = .ok (.ireturn, 1) := by decide +kernel
theorem dL_law_453 : decode cL_law 453 = .ok (.aload_n 1, 1) := by decide +kernel
theorem dL_law_454 : decode cL_law 454 = .ok (.aload_n 0, 1) := by decide +kernel
theorem dL_law_455 : decode cL_law 455 = .ok (.iload_n 3, 1) := by decide +kernel
theorem dL_law_456 : decode cL_law 456 = .ok (.iconst 1, 1) := by decide +kernel
theorem dL_law_457 : decode cL_law 457 = .ok (.iadd, 1) := by decide +kernel
theorem dL_law_458 : decode cL_law 458 = .ok (.iaload, 1) := by decide +kernel
theorem dL_law_459 : decode cL_law 459 = .ok (.invokevirtual 69, 3) := by decide +kernel
theorem dL_law_462 : decode cL_law 462 = .ok (.aload_n 2, 1) := by decide +kernel
theorem dL_law_463 : decode cL_law 463 = .ok (.aload_n 0, 1) := by decide +kernel
theorem dL_law_464 : decode cL_law 464 = .ok (.iload_n 3, 1) := by decide +kernel
theorem dL_law_465 : decode cL_law 465 = .ok (.iconst 1, 1) := by decide +kernel
theorem dL_law_466 : decode cL_law 466 = .ok (.iadd, 1) := by decide +kernel
theorem dL_law_467 : decode cL_law 467 = .ok (.iaload, 1) := by decide +kernel
theorem dL_law_468 : decode cL_law 468 = .ok (.invokevirtual 72, 3) := by decide +kernel
theorem dL_law_471 : decode cL_law 471 = .ok (.if_icmp .eq 325, 3) := by decide +kernel
theorem dL_law_474 : decode cL_law 474 = .ok (.iconst 0, 1) := by decide +kernel
theorem dL_law_475 : decode cL_law 475 = .ok (.ireturn, 1) := by decide +kernel
theorem dL_law_476 : decode cL_law 476 = .ok (.aload_n 1, 1) := by decide +kernel
theorem dL_law_477 : decode cL_law 477 = .ok (.aload_n 0, 1) := by decide +kernel
theorem dL_law_478 : decode cL_law 478 = .ok (.iload_n 3, 1) := by decide +kernel
theorem dL_law_479 : decode cL_law 479 = .ok (.iconst 1, 1) := by decide +kernel
theorem dL_law_480 : decode cL_law 480 = .ok (.iadd, 1) := by decide +kernel
theorem dL_law_481 : decode cL_law 481 = .ok (.iaload, 1) := by decide +kernel
theorem dL_law_482 : decode cL_law 482 = .ok (.invokevirtual 73, 3) := by decide +kernel
theorem dL_law_485 : decode cL_law 485 = .ok (.aload_n 2, 1) := by decide +kernel
theorem dL_law_486 : decode cL_law 486 = .ok (.aload_n 0, 1) := by decide +kernel
theorem dL_law_487 : decode cL_law 487 = .ok (.iload_n 3, 1) := by decide +kernel
theorem dL_law_488 : decode cL_law 488 = .ok (.iconst 1, 1) := by decide +kernel
theorem dL_law_489 : decode cL_law 489 = .ok (.iadd, 1) := by decide +kernel
theorem dL_law_490 : decode cL_law 490 = .ok (.iaload, 1) := by decide +kernel
theorem dL_law_491 : decode cL_law 491 = .ok (.invokevirtual 76, 3) := by decide +kernel
theorem dL_law_494 : decode cL_law 494 = .ok (.if_icmp .eq 302, 3) := by decide +kernel
theorem dL_law_497 : decode cL_law 497 = .ok (.iconst 0, 1) := by decide +kernel
theorem dL_law_498 : decode cL_law 498 = .ok (.ireturn, 1) := by decide +kernel
theorem dL_law_499 : decode cL_law 499 = .ok (.aload_n 1, 1) := by decide +kernel
theorem dL_law_500 : decode cL_law 500 = .ok (.aload_n 0, 1) := by decide +kernel
theorem dL_law_501 : decode cL_law 501 = .ok (.iload_n 3, 1) := by decide +kernel
theorem dL_law_502 : decode cL_law 502 = .ok (.iconst 1, 1) := by decide +kernel
theorem dL_law_503 : decode cL_law 503 = .ok (.iadd, 1) := by decide +kernel
theorem dL_law_504 : decode cL_law 504 = .ok (.iaload, 1) := by decide +kernel
theorem dL_law_505 : decode cL_law 505 = .ok (.aload_n 0, 1) := by decide +kernel
theorem dL_law_506 : decode cL_law 506 = .ok (.iload_n 3, 1) := by decide +kernel
theorem dL_law_507 : decode cL_law 507 = .ok (.iconst 2, 1) := by decide +kernel
theorem dL_law_508 : decode cL_law 508 = .ok (.iadd, 1) := by decide +kernel
theorem dL_law_509 : decode cL_law 509 = .ok (.iaload, 1) := by decide +kernel
theorem dL_law_510 : decode cL_law 510 = .ok (.invokevirtual 77, 3) := by decide +kernel
theorem dL_law_513 : decode cL_law 513 = .ok (.aload_n 2, 1) := by decide +kernel
theorem dL_law_514 : decode cL_law 514 = .ok (.aload_n 0, 1) := by decide +kernel
theorem dL_law_515 : decode cL_law 515 = .ok (.iload_n 3, 1) := by decide +kernel
theorem dL_law_516 : decode cL_law 516 = .ok (.iconst 1, 1) := by decide +kernel
theorem dL_law_517 : decode cL_law 517 = .ok (.iadd, 1) := by decide +kernel
theorem dL_law_518 : decode cL_law 518 = .ok (.iaload, 1) := by decide +kernel
theorem dL_law_519 : decode cL_law 519 = .ok (.aload_n 0, 1) := by decide +kernel
theorem dL_law_520 : decode cL_law 520 = .ok (.iload_n 3, 1) := by decide +kernel
theorem dL_law_521 : decode cL_law 521 = .ok (.iconst 2, 1) := by decide +kernel
theorem dL_law_522 : decode cL_law 522 = .ok (.iadd, 1) := by decide +kernel
theorem dL_law_523 : decode cL_law 523 = .ok (.iaload, 1) := by decide +kernel
theorem dL_law_524 : decode cL_law 524 = .ok (.invokevirtual 80, 3) := by decide +kernel
theorem dL_law_527 : decode cL_law 527 = .ok (.if_icmp .eq 269, 3) := by decide +kernel
theorem dL_law_530 : decode cL_law 530 = .ok (.iconst 0, 1) := by decide +kernel
theorem dL_law_531 : decode cL_law 531 = .ok (.ireturn, 1) := by decide +kernel
theorem dL_law_532 : decode cL_law 532 = .ok (.aload_n 1, 1) := by decide +kernel
theorem dL_law_533 : decode cL_law 533 = .ok (.aload_n 0, 1) := by decide +kernel
theorem dL_law_534 : decode cL_law 534 = .ok (.iload_n 3, 1) := by decide +kernel
theorem dL_law_535 : decode cL_law 535 = .ok (.iconst 1, 1) := by decide +kernel
theorem dL_law_536 : decode cL_law 536 = .ok (.iadd, 1) := by decide +kernel
theorem dL_law_537 : decode cL_law 537 = .ok (.iaload, 1) := by decide +kernel
theorem dL_law_538 : decode cL_law 538 = .ok (.aload_n 0, 1) := by decide +kernel
theorem dL_law_539 : decode cL_law 539 = .ok (.iload_n 3, 1) := by decide +kernel
theorem dL_law_540 : decode cL_law 540 = .ok (.iconst 2, 1) := by decide +kernel
theorem dL_law_541 : decode cL_law 541 = .ok (.iadd, 1) := by decide +kernel
theorem dL_law_542 : decode cL_law 542 = .ok (.iaload, 1) := by decide +kernel
theorem dL_law_543 : decode cL_law 543 = .ok (.aload_n 0, 1) := by decide +kernel
theorem dL_law_544 : decode cL_law 544 = .ok (.iload_n 3, 1) := by decide +kernel
theorem dL_law_545 : decode cL_law 545 = .ok (.iconst 3, 1) := by decide +kernel
theorem dL_law_546 : decode cL_law 546 = .ok (.iadd, 1) := by decide +kernel
theorem dL_law_547 : decode cL_law 547 = .ok (.iaload, 1) := by decide +kernel
theorem dL_law_548 : decode cL_law 548 = .ok (.invokevirtual 81, 3) := by decide +kernel
theorem dL_law_551 : decode cL_law 551 = .ok (.aload_n 2, 1) := by decide +kernel
theorem dL_law_552 : decode cL_law 552 = .ok (.aload_n 0, 1) := by decide +kernel
theorem dL_law_553 : decode cL_law 553 = .ok (.iload_n 3, 1) := by decide +kernel
theorem dL_law_554 : decode cL_law 554 = .ok (.iconst 1, 1) := by decide +kernel
theorem dL_law_555 : decode cL_law 555 = .ok (.iadd, 1) := by decide +kernel
theorem dL_law_556 : decode cL_law 556 = .ok (.iaload, 1) := by decide +kernel
theorem dL_law_557 : decode cL_law 557 = .ok (.aload_n 0, 1) := by decide +kernel
theorem dL_law_558 : decode cL_law 558 = .ok (.iload_n 3, 1) := by decide +kernel
theorem dL_law_559 : decode cL_law 559 = .ok (.iconst 2, 1) := by decide +kernel
theorem dL_law_560 : decode cL_law 560 = .ok (.iadd, 1) := by decide +kernel
theorem dL_law_561 : decode cL_law 561 = .ok (.iaload, 1) := by decide +kernel
theorem dL_law_562 : decode cL_law 562 = .ok (.aload_n 0, 1) := by decide +kernel
theorem dL_law_563 : decode cL_law 563 = .ok (.iload_n 3, 1) := by decide +kernel
theorem dL_law_564 : decode cL_law 564 = .ok (.iconst 3, 1) := by decide +kernel
theorem dL_law_565 : decode cL_law 565 = .ok (.iadd, 1) := by decide +kernel
theorem dL_law_566 : decode cL_law 566 = .ok (.iaload, 1) := by decide +kernel
theorem dL_law_567 : decode cL_law 567 = .ok (.invokevirtual 84, 3) := by decide +kernel
theorem dL_law_570 : decode cL_law 570 = .ok (.if_icmp .eq 226, 3) := by decide +kernel
theorem dL_law_573 : decode cL_law 573 = .ok (.iconst 0, 1) := by decide +kernel
theorem dL_law_574 : decode cL_law 574 = .ok (.ireturn, 1) := by decide +kernel
theorem dL_law_575 : decode cL_law 575 = .ok (.aload_n 1, 1) := by decide +kernel
theorem dL_law_576 : decode cL_law 576 = .ok (.aload_n 0, 1) := by decide +kernel
theorem dL_law_577 : decode cL_law 577 = .ok (.iload_n 3, 1) := by decide +kernel
theorem dL_law_578 : decode cL_law 578 = .ok (.iconst 1, 1) := by decide +kernel
theorem dL_law_579 : decode cL_law 579 = .ok (.iadd, 1) := by decide +kernel
theorem dL_law_580 : decode cL_law 580 = .ok (.iaload, 1) := by decide +kernel
theorem dL_law_581 : decode cL_law 581 = .ok (.invokevirtual 85, 3) := by decide +kernel
theorem dL_law_584 : decode cL_law 584 = .ok (.aload_n 2, 1) := by decide +kernel
theorem dL_law_585 : decode cL_law 585 = .ok (.aload_n 0, 1) := by decide +kernel
theorem dL_law_586 : decode cL_law 586 = .ok (.iload_n 3, 1) := by decide +kernel
theorem dL_law_587 : decode cL_law 587 = .ok (.iconst 1, 1) := by decide +kernel
theorem dL_law_588 : decode cL_law 588 = .ok (.iadd, 1) := by decide +kernel
theorem dL_law_589 : decode cL_law 589 = .ok (.iaload, 1) := by decide +kernel
theorem dL_law_590 : decode cL_law 590 = .ok (.invokevirtual 88, 3) := by decide +kernel
theorem dL_law_593 : decode cL_law 593 = .ok (.if_icmp .eq 203, 3) := by decide +kernel
theorem dL_law_596 : decode cL_law 596 = .ok (.iconst 0, 1) := by decide +kernel
theorem dL_law_597 : decode cL_law 597 = .ok (.ireturn, 1) := by decide +kernel
theorem dL_law_598 : decode cL_law 598 = .ok (.aload_n 1, 1) := by decide +kernel
theorem dL_law_599 : decode cL_law 599 = .ok (.aload_n 0, 1) := by decide +kernel
theorem dL_law_600 : decode cL_law 600 = .ok (.iload_n 3, 1) := by decide +kernel
theorem dL_law_601 : decode cL_law 601 = .ok (.iconst 1, 1) := by decide +kernel
theorem dL_law_602 : decode cL_law 602 = .ok (.iadd, 1) := by decide +kernel
theorem dL_law_603 : decode cL_law 603 = .ok (.iaload, 1) := by decide +kernel
theorem dL_law_604 : decode cL_law 604 = .ok (.aload_n 0, 1) := by decide +kernel
theorem dL_law_605 : decode cL_law 605 = .ok (.iload_n 3, 1) := by decide +kernel
theorem dL_law_606 : decode cL_law 606 = .ok (.iconst 2, 1) := by decide +kernel
theorem dL_law_607 : decode cL_law 607 = .ok (.iadd, 1) := by decide +kernel
theorem dL_law_608 : decode cL_law 608 = .ok (.iaload, 1) := by decide +kernel
theorem dL_law_609 : decode cL_law 609 = .ok (.invokevirtual 89, 3) := by decide +kernel
theorem dL_law_612 : decode cL_law 612 = .ok (.aload_n 2, 1) := by decide +kernel
theorem dL_law_613 : decode cL_law 613 = .ok (.aload_n 0, 1) := by decide +kernel
theorem dL_law_614 : decode cL_law 614 = .ok (.iload_n 3, 1) := by decide +kernel
theorem dL_law_615 : decode cL_law 615 = .ok (.iconst 1, 1) := by decide +kernel
theorem dL_law_616 : decode cL_law 616 = .ok (.iadd, 1) := by decide +kernel
theorem dL_law_617 : decode cL_law 617 = .ok (.iaload, 1) := by decide +kernel
theorem dL_law_618 : decode cL_law 618 = .ok (.aload_n 0, 1) := by decide +kernel
theorem dL_law_619 : decode cL_law 619 = .ok (.iload_n 3, 1) := by decide +kernel
theorem dL_law_620 : decode cL_law 620 = .ok (.iconst 2, 1) := by decide +kernel
theorem dL_law_621 : decode cL_law 621 = .ok (.iadd, 1) := by decide +kernel
theorem dL_law_622 : decode cL_law 622 = .ok (.iaload, 1) := by decide +kernel
theorem dL_law_623 : decode cL_law 623 = .ok (.invokevirtual 92, 3) := by decide +kernel
theorem dL_law_626 : decode cL_law 626 = .ok (.if_icmp .eq 170, 3) := by decide +kernel
theorem dL_law_629 : decode cL_law 629 = .ok (.iconst 0, 1) := by decide +kernel
theorem dL_law_630 : decode cL_law 630 = .ok (.ireturn, 1) := by decide +kernel
theorem dL_law_631 : decode cL_law 631 = .ok (.aload_n 1, 1) := by decide +kernel
theorem dL_law_632 : decode cL_law 632 = .ok (.invokevirtual 93, 3) := by decide +kernel
theorem dL_law_635 : decode cL_law 635 = .ok (.f2d, 1) := by decide +kernel
theorem dL_law_636 : decode cL_law 636 = .ok (.dstore 4, 2) := by decide +kernel
theorem dL_law_638 : decode cL_law 638 = .ok (.aload_n 2, 1) := by decide +kernel
theorem dL_law_639 : decode cL_law 639 = .ok (.invokevirtual 97, 3) := by decide +kernel
theorem dL_law_642 : decode cL_law 642 = .ok (.f2d, 1) := by decide +kernel
theorem dL_law_643 : decode cL_law 643 = .ok (.dstore 6, 2) := by decide +kernel
theorem dL_law_645 : decode cL_law 645 = .ok (.dload 4, 2) := by decide +kernel
theorem dL_law_647 : decode cL_law 647 = .ok (.dload 6, 2) := by decide +kernel
theorem dL_law_649 : decode cL_law 649 = .ok (.dcmp .l, 1) := by decide +kernel
theorem dL_law_650 : decode cL_law 650 = .ok (.ifCond .eq 21, 3) := by decide +kernel
theorem dL_law_653 : decode cL_law 653 = .ok (.dload 4, 2) := by decide +kernel
theorem dL_law_655 : decode cL_law 655 = .ok (.dload 4, 2) := by decide +kernel
theorem dL_law_657 : decode cL_law 657 = .ok (.dcmp .l, 1) := by decide +kernel
theorem dL_law_658 : decode cL_law 658 = .ok (.ifCond .eq 11, 3) := by decide +kernel
theorem dL_law_661 : decode cL_law 661 = .ok (.dload 6, 2) := by decide +kernel
theorem dL_law_663 : decode cL_law 663 = .ok (.dload 6, 2) := by decide +kernel
theorem dL_law_665 : decode cL_law 665 = .ok (.dcmp .l, 1) := by decide +kernel
theorem dL_law_666 : decode cL_law 666 = .ok (.ifCond .ne 5, 3) := by decide +kernel
theorem dL_law_669 : decode cL_law 669 = .ok (.iconst 0, 1) := by decide +kernel
theorem dL_law_670 : decode cL_law 670 = .ok (.ireturn, 1) := by decide +kernel
theorem dL_law_671 : decode cL_law 671 = .ok (.goto 125, 3) := by decide +kernel
theorem dL_law_674 : decode cL_law 674 = .ok (.aload_n 1, 1) := by decide +kernel
theorem dL_law_675 : decode cL_law 675 = .ok (.aload_n 0, 1) := by decide +kernel
theorem dL_law_676 : decode cL_law 676 = .ok (.iload_n 3, 1) := by decide +kernel
theorem dL_law_677 : decode cL_law 677 = .ok (.iconst 1, 1) := by decide +kernel
theorem dL_law_678 : decode cL_law 678 = .ok (.iadd, 1) := by decide +kernel
theorem dL_law_679 : decode cL_law 679 = .ok (.iaload, 1) := by decide +kernel
theorem dL_law_680 : decode cL_law 680 = .ok (.aload_n 0, 1) := by decide +kernel
theorem dL_law_681 : decode cL_law 681 = .ok (.iload_n 3, 1) := by decide +kernel
theorem dL_law_682 : decode cL_law 682 = .ok (.iconst 2, 1) := by decide +kernel
theorem dL_law_683 : decode cL_law 683 = .ok (.iadd, 1) := by decide +kernel
theorem dL_law_684 : decode cL_law 684 = .ok (.iaload, 1) := by decide +kernel
theorem dL_law_685 : decode cL_law 685 = .ok (.aload_n 0, 1) := by decide +kernel
theorem dL_law_686 : decode cL_law 686 = .ok (.iload_n 3, 1) := by decide +kernel
theorem dL_law_687 : decode cL_law 687 = .ok (.iconst 3, 1) := by decide +kernel
theorem dL_law_688 : decode cL_law 688 = .ok (.iadd, 1) := by decide +kernel
theorem dL_law_689 : decode cL_law 689 = .ok (.iaload, 1) := by decide +kernel
theorem dL_law_690 : decode cL_law 690 = .ok (.invokevirtual 98, 3) := by decide +kernel
theorem dL_law_693 : decode cL_law 693 = .ok (.aload_n 2, 1) := by decide +kernel
theorem dL_law_694 : decode cL_law 694 = .ok (.aload_n 0, 1) := by decide +kernel
theorem dL_law_695 : decode cL_law 695 = .ok (.iload_n 3, 1) := by decide +kernel
theorem dL_law_696 : decode cL_law 696 = .ok (.iconst 1, 1) := by decide +kernel
theorem dL_law_697 : decode cL_law 697 = .ok (.iadd, 1) := by decide +kernel
theorem dL_law_698 : decode cL_law 698 = .ok (.iaload, 1) := by decide +kernel
theorem dL_law_699 : decode cL_law 699 = .ok (.aload_n 0, 1) := by decide +kernel
theorem dL_law_700 : decode cL_law 700 = .ok (.iload_n 3, 1) := by decide +kernel
theorem dL_law_701 : decode cL_law 701 = .ok (.iconst 2, 1) := by decide +kernel
theorem dL_law_702 : decode cL_law 702 = .ok (.iadd, 1) := by decide +kernel
theorem dL_law_703 : decode cL_law 703 = .ok (.iaload, 1) := by decide +kernel
theorem dL_law_704 : decode cL_law 704 = .ok (.aload_n 0, 1) := by decide +kernel
theorem dL_law_705 : decode cL_law 705 = .ok (.iload_n 3, 1) := by decide +kernel
theorem dL_law_706 : decode cL_law 706 = .ok (.iconst 3, 1) := by decide +kernel
theorem dL_law_707 : decode cL_law 707 = .ok (.iadd, 1) := by decide +kernel
theorem dL_law_708 : decode cL_law 708 = .ok (.iaload, 1) := by decide +kernel
theorem dL_law_709 : decode cL_law 709 = .ok (.invokevirtual 101, 3) := by decide +kernel
theorem dL_law_712 : decode cL_law 712 = .ok (.if_icmp .eq 84, 3) := by decide +kernel
theorem dL_law_715 : decode cL_law 715 = .ok (.iconst 0, 1) := by decide +kernel
theorem dL_law_716 : decode cL_law 716 = .ok (.ireturn, 1) := by decide +kernel
theorem dL_law_717 : decode cL_law 717 = .ok (.aload_n 1, 1) := by decide +kernel
theorem dL_law_718 : decode cL_law 718 = .ok (.aload_n 0, 1) := by decide +kernel
theorem dL_law_719 : decode cL_law 719 = .ok (.iload_n 3, 1) := by decide +kernel
theorem dL_law_720 : decode cL_law 720 = .ok (.iconst 1, 1) := by decide +kernel
theorem dL_law_721 : decode cL_law 721 = .ok (.iadd, 1) := by decide +kernel
theorem dL_law_722 : decode cL_law 722 = .ok (.iaload, 1) := by decide +kernel
theorem dL_law_723 : decode cL_law 723 = .ok (.aload_n 0, 1) := by decide +kernel
theorem dL_law_724 : decode cL_law 724 = .ok (.iload_n 3, 1) := by decide +kernel
theorem dL_law_725 : decode cL_law 725 = .ok (.iconst 2, 1) := by decide +kernel
theorem dL_law_726 : decode cL_law 726 = .ok (.iadd, 1) := by decide +kernel
theorem dL_law_727 : decode cL_law 727 = .ok (.iaload, 1) := by decide +kernel
theorem dL_law_728 : decode cL_law 728 = .ok (.invokevirtual 102, 3) := by decide +kernel
theorem dL_law_731 : decode cL_law 731 = .ok (.aload_n 2, 1) := by decide +kernel
theorem dL_law_732 : decode cL_law 732 = .ok (.aload_n 0, 1) := by decide +kernel
theorem dL_law_733 : decode cL_law 733 = .ok (.iload_n 3, 1) := by decide +kernel
theorem dL_law_734 : decode cL_law 734 = .ok (.iconst 1, 1) := by decide +kernel
theorem dL_law_735 : decode cL_law 735 = .ok (.iadd, 1) := by decide +kernel
theorem dL_law_736 : decode cL_law 736 = .ok (.iaload, 1) := by decide +kernel
theorem dL_law_737 : decode cL_law 737 = .ok (.aload_n 0, 1) := by decide +kernel
theorem dL_law_738 : decode cL_law 738 = .ok (.iload_n 3, 1) := by decide +kernel
theorem dL_law_739 : decode cL_law 739 = .ok (.iconst 2, 1) := by decide +kernel
theorem dL_law_740 : decode cL_law 740 = .ok (.iadd, 1) := by decide +kernel
theorem dL_law_741 : decode cL_law 741 = .ok (.iaload, 1) := by decide +kernel
theorem dL_law_742 : decode cL_law 742 = .ok (.invokevirtual 105, 3) := by decide +kernel
theorem dL_law_745 : decode cL_law 745 = .ok (.if_icmp .eq 51, 3) := by decide +kernel
theorem dL_law_748 : decode cL_law 748 = .ok (.iconst 0, 1) := by decide +kernel
theorem dL_law_749 : decode cL_law 749 = .ok (.ireturn, 1) := by decide +kernel
theorem dL_law_750 : decode cL_law 750 = .ok (.aload_n 1, 1) := by decide +kernel
theorem dL_law_751 : decode cL_law 751 = .ok (.aload_n 0, 1) := by decide +kernel
theorem dL_law_752 : decode cL_law 752 = .ok (.iload_n 3, 1) := by decide +kernel
theorem dL_law_753 : decode cL_law 753 = .ok (.iconst 1, 1) := by decide +kernel
theorem dL_law_754 : decode cL_law 754 = .ok (.iadd, 1) := by decide +kernel
theorem dL_law_755 : decode cL_law 755 = .ok (.iaload, 1) := by decide +kernel
theorem dL_law_756 : decode cL_law 756 = .ok (.invokevirtual 106, 3) := by decide +kernel
theorem dL_law_759 : decode cL_law 759 = .ok (.aload_n 2, 1) := by decide +kernel
theorem dL_law_760 : decode cL_law 760 = .ok (.aload_n 0, 1) := by decide +kernel
theorem dL_law_761 : decode cL_law 761 = .ok (.iload_n 3, 1) := by decide +kernel
theorem dL_law_762 : decode cL_law 762 = .ok (.iconst 1, 1) := by decide +kernel
theorem dL_law_763 : decode cL_law 763 = .ok (.iadd, 1) := by decide +kernel
theorem dL_law_764 : decode cL_law 764 = .ok (.iaload, 1) := by decide +kernel
theorem dL_law_765 : decode cL_law 765 = .ok (.invokevirtual 109, 3) := by decide +kernel
theorem dL_law_768 : decode cL_law 768 = .ok (.if_icmp .eq 28, 3) := by decide +kernel
theorem dL_law_771 : decode cL_law 771 = .ok (.iconst 0, 1) := by decide +kernel
theorem dL_law_772 : decode cL_law 772 = .ok (.ireturn, 1) := by decide +kernel
theorem dL_law_773 : decode cL_law 773 = .ok (.aload_n 1, 1) := by decide +kernel
theorem dL_law_774 : decode cL_law 774 = .ok (.aload_n 0, 1) := by decide +kernel
theorem dL_law_775 : decode cL_law 775 = .ok (.iload_n 3, 1) := by decide +kernel
theorem dL_law_776 : decode cL_law 776 = .ok (.iconst 1, 1) := by decide +kernel
theorem dL_law_777 : decode cL_law 777 = .ok (.iadd, 1) := by decide +kernel
theorem dL_law_778 : decode cL_law 778 = .ok (.iaload, 1) := by decide +kernel
theorem dL_law_779 : decode cL_law 779 = .ok (.invokevirtual 110, 3) := by decide +kernel
theorem dL_law_782 : decode cL_law 782 = .ok (.aload_n 2, 1) := by decide +kernel
theorem dL_law_783 : decode cL_law 783 = .ok (.aload_n 0, 1) := by decide +kernel
theorem dL_law_784 : decode cL_law 784 = .ok (.iload_n 3, 1) := by decide +kernel
theorem dL_law_785 : decode cL_law 785 = .ok (.iconst 1, 1) := by decide +kernel
theorem dL_law_786 : decode cL_law 786 = .ok (.iadd, 1) := by decide +kernel
theorem dL_law_787 : decode cL_law 787 = .ok (.iaload, 1) := by decide +kernel
theorem dL_law_788 : decode cL_law 788 = .ok (.invokevirtual 113, 3) := by decide +kernel
theorem dL_law_791 : decode cL_law 791 = .ok (.if_icmp .eq 5, 3) := by decide +kernel
theorem dL_law_794 : decode cL_law 794 = .ok (.iconst 0, 1) := by decide +kernel
theorem dL_law_795 : decode cL_law 795 = .ok (.ireturn, 1) := by decide +kernel
theorem dL_law_796 : decode cL_law 796 = .ok (.iinc 3 4, 3) := by decide +kernel
theorem dL_law_799 : decode cL_law 799 = .ok (.goto (-781), 3) := by decide +kernel
theorem dL_law_802 : decode cL_law 802 = .ok (.iconst 1, 1) := by decide +kernel
theorem dL_law_803 : decode cL_law 803 = .ok (.ireturn, 1) := by decide +kernel
end
section
/-! THE K LAYER: the kit's rows over one bundled world, so that a walk names only what changes -/
abbrev GG : Type := va_G × ClassId × ClassId
abbrev TY (g : GG) : List (ClassId × FieldType) := [(g.2.1, .int), (g.2.2, .object "ShuntYard$Yard")]
/-- the nest links, which don't ride among the words -/
def NLs : List (String × Nat × MethodName × String) := [("ShuntYard", 18, yX1_init, "ShuntYard"), ("ShuntYard", 29, yX4_init, "ShuntYard"), ("ShuntYard", 36, yX3_init, "ShuntYard"), ("ShuntYard", 9, yX5_init, "ShuntYard"), ("ShuntYard$History", 21, yX5_init, "ShuntYard"), ("ShuntYard$Search", 11, yX2_init, "ShuntYard"), ("ShuntYard$Search", 20, yX5_init, "ShuntYard"), ("ShuntYard$Text", 31, yX6_within, "ShuntYard"), ("ShuntYard$Text", 39, yX6_wagonOf, "ShuntYard"), ("ShuntYard$Yard", 100, yX6_wagonOf, "ShuntYard"), ("ShuntYard$Yard", 36, yX0_init, "ShuntYard"), ("ShuntYard$Yard", 74, yX6_within, "ShuntYard"), ("ShuntYard$Yard", 82, yX6_numberOf, "ShuntYard"), ("ShuntYard$Yard", 94, yX6_destinationOf, "ShuntYard"), ("ShuntYard$Yard", 97, yX6_kindOf, "ShuntYard")]
def NN (s : State) : Prop := ∀ q ∈ NLs, va_Nw (.methodLinkNest q.1 q.2.1 q.2.2.1 q.2.2.2) s
def VK (g : GG) (s : State) : Prop := va_K g.1 vwCl (TY g) s ∧ NN s
theorem VK.warm {g : GG} {s U : State} (h : VK g s) (hW : s.WarmedH U.vm) : VK g U := ⟨va_K.moved hW.alike h.1, fun q hq => va_Nw.warmM hW (h.2 q hq)⟩
theorem VK.same {g : GG} {u U : State} (h : VK g u) (e : u.vm = U.vm) : VK g U := ⟨va_K.moved (by rw [e]; exact Vm.Alike.refl _) h.1, fun q hq => va_Nw.same rfl e (h.2 q hq)⟩
def PreW (g : GG) (Wd : va_W) (sz : Nat) (U : State) : Prop := U.heap.size = sz ∧ va_P g.1 vwCl Wd U.heap ∧ VK g U ∧ va_D (fun _ => True) Wd
def PostW (g : GG) (Wd : va_W) (sz : Nat) (W1 : va_W) (t : State) : Prop := va_P g.1 vwCl W1 t.heap ∧ va_D (va_A Wd sz) W1
theorem blindW {g : GG} {As : List Value} {Wd : va_W} {sz : Nat} : FrameBlind (va_Pc As (PreW g Wd sz)) := fun a U f mk q => by
  obtain ⟨q0, q1, qP, qK, qD⟩ := q
  exact ⟨q0, q1, qP, VK.same (u := U) (U := U.calling f mk a) qK rfl, qD⟩
/-- a method's contract: over any heap that holds Wd it comes back, its answer and the new world are as post says -/
def CtI (g : GG) (l : Launch) (y : MethodName) (bytes : ByteArray) (maxL : Nat) (ret : Option FieldType) (rm : Room) (Wd : va_W) (As : List Value) (post : Int32 → va_W → Prop) : Prop :=
  ∀ sz : Nat, Met l y (.code y bytes maxL ret :: wsL_law) rm (va_Pc As (PreW g Wd sz)) (va_Qi post (PostW g Wd sz) (va_A Wd sz)) rm.cells rm.slots (va_A Wd sz)
def CtV (g : GG) (l : Launch) (y : MethodName) (bytes : ByteArray) (maxL : Nat) (rm : Room) (Wd : va_W) (As : List Value) (post : va_W → Prop) : Prop :=
  ∀ sz : Nat, Met l y (.code y bytes maxL none :: wsL_law) rm (va_Pc As (PreW g Wd sz)) (va_Qv post (PostW g Wd sz) (va_A Wd sz)) rm.cells rm.slots (va_A Wd sz)
/-- what holds all along a walk -/
def KC (g : GG) (p : Program) (s : State) (m : MethodId) (args : Array Value) (c : Code) (cc : ByteArray) (n : Nat) (own : String) (A : Nat → Prop) (H0 : Heap) (meth : Method) : Prop :=
  p.tables.exec = Jvm.exec ∧ c.code = cc ∧ c.maxLocals = n ∧ s.vm.findClass own = some m.cls ∧ (∀ w ∈ wsL_law, w.before args s = true) ∧ VK g s ∧ (∀ q, H0.size ≤ q → A q) ∧ meth.locks = false
def KW (g : GG) (p : Program) (l : Launch) (e : Env) (R : Room) (s : State) (m : MethodId) (args : Array Value) (below : List Frame) (meth : Method) (c : Code) (n : Nat) (A : Nat → Prop) (H0 : Heap) (cells slots : Nat) (Q : State → Prop) (ws : va_W) (lv : List (Nat × Value)) (pc : Nat) (st : List Value) : Prop :=
  ∀ (H : Heap) (locs : List Loc) (ls : Array Slot), va_P g.1 vwCl ws H → va_D A ws → va_S A H0 H locs → lv_has ls n lv → W p l e R s m args below meth c H locs cells slots Q (F0 m pc ls st)
def aN (v : Nat → Nat) : Nat → Int32 := fun k => nI (v k)
theorem aN_up (v : Nat → Nat) (k x : Nat) : upd (aN v) k (nI x) = aN (va_up v k x) := by
  funext j
  by_cases h : j = k
  · simp [upd, aN, va_up, h]
  · simp [upd, aN, va_up, h]
theorem aN_cpy (f h : Nat → Nat) (sp dp k : Nat) : va_cpy (aN f) (aN h) sp dp k = aN (va_cpy f h sp dp k) := by
  funext j
  by_cases h1 : dp ≤ j ∧ j < dp + k
  · simp only [va_cpy, aN, if_pos h1]
  · simp only [va_cpy, aN, if_neg h1]
theorem mem_P {D : va_G} {cl : List vw_C} {ws : va_W} {H : Heap} : va_P D cl ws H ↔ ∀ q ∈ ws, va_at D cl q H := by
  constructor
  · intro h q hq
    obtain ⟨k, hk⟩ := List.mem_iff_getElem?.mp hq
    exact h k q hk
  · intro h k q hk
    exact h q (List.mem_iff_getElem?.mpr ⟨k, hk⟩)
theorem mem_D {A : Nat → Prop} {ws : va_W} : va_D A ws ↔ (ws.map Prod.fst).Nodup ∧ ∀ q ∈ ws, A q.1 := by
  constructor
  · intro h
    refine ⟨?_, ?_⟩
    · rw [List.nodup_iff_pairwise_ne, List.pairwise_iff_getElem]
      intro i j hi hj hij heq
      rw [List.length_map] at hi hj
      rw [List.getElem_map, List.getElem_map] at heq
      have := h.1 i j ws[i] ws[j] (List.getElem?_eq_getElem hi) (List.getElem?_eq_getElem hj) heq
      omega
    · intro q hq
      obtain ⟨k, hk⟩ := List.mem_iff_getElem?.mp hq
      exact h.2 k q hk
  · intro h
    refine ⟨?_, ?_⟩
    · intro i j p q hi hj heq
      have hn := h.1
      rw [List.nodup_iff_pairwise_ne, List.pairwise_iff_getElem] at hn
      obtain ⟨hi', ei⟩ := List.getElem?_eq_some_iff.mp hi
      obtain ⟨hj', ej⟩ := List.getElem?_eq_some_iff.mp hj
      have hi2 : i < (ws.map Prod.fst).length := by rw [List.length_map]; exact hi'
      have hj2 : j < (ws.map Prod.fst).length := by rw [List.length_map]; exact hj'
      have e1 : (ws.map Prod.fst)[i] = (ws.map Prod.fst)[j] := by
        rw [List.getElem_map, List.getElem_map, ei, ej]; exact heq
      rcases Nat.lt_trichotomy i j with z | z | z
      · exact absurd e1 (hn i j hi2 hj2 z)
      · exact z
      · exact absurd e1.symm (hn j i hj2 hi2 z)
    · intro k q hk
      exact h.2 q (List.mem_iff_getElem?.mpr ⟨k, hk⟩)
theorem zk_join {A0 : Nat → Prop} {D : va_G} {cl : List vw_C} {pre suf wc w1 : va_W} {H H1 : Heap} (hP : va_P D cl (pre ++ (wc ++ suf)) H) (hD : va_D A0 (pre ++ (wc ++ suf)))
    (hk : ∀ q : Nat, q < H.size → ¬ va_A wc H.size q → H1[q]? = H[q]?) (hF : ∀ q, va_A wc H.size q → A0 q) (hP1 : va_P D cl w1 H1) (hD1 : va_D (va_A wc H.size) w1) : va_P D cl (pre ++ (w1 ++ suf)) H1 ∧ va_D A0 (pre ++ (w1 ++ suf)) := by
  have hPm := mem_P.mp hP
  have hDm := mem_D.mp hD
  have hP1m := mem_P.mp hP1
  have hD1m := mem_D.mp hD1
  have hnd := hDm.1
  rw [List.map_append, List.map_append, List.nodup_append, List.nodup_append] at hnd
  obtain ⟨n1, ⟨n2, n3, n23⟩, n1x⟩ := hnd
  have notA : ∀ q : Nat × va_E, va_at D cl q H → q.1 ∉ wc.map Prod.fst → ¬ va_A wc H.size q.1 := by
    intro q hq hn h
    rcases h with ⟨k, e, h⟩ | h
    · exact hn (List.mem_map.mpr ⟨(q.1, e), List.mem_iff_getElem?.mpr ⟨k, h⟩, rfl⟩)
    · have := hq.lt
      omega
  have memA : ∀ q : Nat, va_A wc H.size q → q ∈ wc.map Prod.fst ∨ H.size ≤ q := by
    intro q h
    rcases h with ⟨k, e, h⟩ | h
    · exact Or.inl (List.mem_map.mpr ⟨(q, e), List.mem_iff_getElem?.mpr ⟨k, h⟩, rfl⟩)
    · exact Or.inr h
  have hpre : ∀ q ∈ pre, va_at D cl q H ∧ q.1 ∉ wc.map Prod.fst := fun q hq => ⟨hPm q (List.mem_append_left _ hq), fun h => n1x q.1 (List.mem_map.mpr ⟨q, hq, rfl⟩) q.1 (List.mem_append_left _ h) rfl⟩
  have hsuf : ∀ q ∈ suf, va_at D cl q H ∧ q.1 ∉ wc.map Prod.fst := fun q hq => ⟨hPm q (List.mem_append_right _ (List.mem_append_right _ hq)), fun h => n23 q.1 h q.1 (List.mem_map.mpr ⟨q, hq, rfl⟩) rfl⟩
  have off : ∀ q : Nat × va_E, va_at D cl q H → q.1 ∉ wc.map Prod.fst → ∀ r ∈ w1.map Prod.fst, q.1 ≠ r := by
    intro q hq hn r hr e
    obtain ⟨z, hz, rfl⟩ := List.mem_map.mp hr
    rcases memA z.1 (hD1m.2 z hz) with h | h
    · exact hn (e ▸ h)
    · have := hq.lt
      omega
  refine ⟨mem_P.mpr ?_, mem_D.mpr ⟨?_, ?_⟩⟩
  · intro q hq
    rcases List.mem_append.mp hq with h | h
    · obtain ⟨g1, g2⟩ := hpre q h
      exact g1.kept (hk q.1 g1.lt (notA q g1 g2))
    · rcases List.mem_append.mp h with h | h
      · exact hP1m q h
      · obtain ⟨g1, g2⟩ := hsuf q h
        exact g1.kept (hk q.1 g1.lt (notA q g1 g2))
  · rw [List.map_append, List.map_append, List.nodup_append, List.nodup_append]
    refine ⟨n1, ⟨hD1m.1, n3, ?_⟩, ?_⟩
    · intro a ha b hb e
      obtain ⟨z, hz, rfl⟩ := List.mem_map.mp hb
      obtain ⟨g1, g2⟩ := hsuf z hz
      exact off z g1 g2 a ha e.symm
    · intro a ha b hb e
      obtain ⟨z, hz, rfl⟩ := List.mem_map.mp ha
      obtain ⟨g1, g2⟩ := hpre z hz
      rcases List.mem_append.mp hb with h | h
      · exact off z g1 g2 b h e
      · exact n1x z.1 (List.mem_map.mpr ⟨z, hz, rfl⟩) b (List.mem_append_right _ h) e
  · intro q hq
    rcases List.mem_append.mp hq with h | h
    · exact hDm.2 q (List.mem_append_left _ h)
    · rcases List.mem_append.mp h with h | h
      · exact hF q.1 (hD1m.2 q h)
      · exact hDm.2 q (List.mem_append_right _ (List.mem_append_right _ h))
theorem zk_freeA {A0 : Nat → Prop} {pre suf wc : va_W} {H0 H : Heap} {locs : List Loc} (hD : va_D A0 (pre ++ (wc ++ suf))) (hS : va_S A0 H0 H locs) (hA : ∀ q, H0.size ≤ q → A0 q) : ∀ q, va_A wc H.size q → A0 q := by
  intro q h
  rcases h with ⟨k, e, h⟩ | h
  · exact (mem_D.mp hD).2 (q, e) (List.mem_append_right _ (List.mem_append_left _ (List.mem_iff_getElem?.mpr ⟨k, h⟩)))
  · exact hA q (Nat.le_trans hS.1 h)
theorem zk_subP {D : va_G} {cl : List vw_C} {pre suf wc : va_W} {H : Heap} (hP : va_P D cl (pre ++ (wc ++ suf)) H) : va_P D cl wc H := mem_P.mpr fun q hq => mem_P.mp hP q (List.mem_append_right _ (List.mem_append_left _ hq))
theorem zk_subD {A : Nat → Prop} {pre suf wc : va_W} (hD : va_D A (pre ++ (wc ++ suf))) : va_D (fun _ => True) wc := by
  have h := (mem_D.mp hD).1
  rw [List.map_append, List.map_append, List.nodup_append, List.nodup_append] at h
  exact mem_D.mpr ⟨h.2.1.1, fun _ _ => trivial⟩

section KL
variable {g : GG} {p : Program} {l : Launch} {e : Env} {R : Room} {s : State} {m : MethodId} {args : Array Value} {below : List Frame} {meth : Method} {c : Code} {n : Nat} {own : String} {A : Nat → Prop} {H0 : Heap} {cells slots : Nat} {Q : State → Prop} {cc : ByteArray} {ws : va_W} {lv : List (Nat × Value)} {pc : Nat} {st : List Value}
theorem zk_iload_n (hc : KC g p s m args c cc n own A H0 meth) {k : Fin 4} {x : Int32} (d : decode cc pc = .ok (.iload_n k, 1)) (j : Nat) (h : lv[j]? = some (k.val, .int x)) (kk : KW g p l e R s m args below meth c n A H0 cells slots Q ws lv (pc + 1) (.int x :: st)) : KW g p l e R s m args below meth c n A H0 cells slots Q ws lv pc st := fun H locs ls hP hD hS hl => lv_iload_n hc.1 hc.2.1 d rfl (lv_at hl j h) (kk H locs ls hP hD hS hl)
theorem zk_iload (hc : KC g p s m args c cc n own A H0 meth) {i : Nat} {x : Int32} (d : decode cc pc = .ok (.iload i, 2)) (j : Nat) (h : lv[j]? = some (i, .int x)) (kk : KW g p l e R s m args below meth c n A H0 cells slots Q ws lv (pc + 2) (.int x :: st)) : KW g p l e R s m args below meth c n A H0 cells slots Q ws lv pc st := fun H locs ls hP hD hS hl => lv_iload hc.1 hc.2.1 d (lv_at hl j h) (kk H locs ls hP hD hS hl)
theorem zk_aload_n (hc : KC g p s m args c cc n own A H0 meth) {k : Fin 4} {x : Nat} (d : decode cc pc = .ok (.aload_n k, 1)) (j : Nat) (h : lv[j]? = some (k.val, .ref x)) (kk : KW g p l e R s m args below meth c n A H0 cells slots Q ws lv (pc + 1) (.ref x :: st)) : KW g p l e R s m args below meth c n A H0 cells slots Q ws lv pc st := fun H locs ls hP hD hS hl => lv_aload_n hc.1 hc.2.1 d rfl (lv_at hl j h) (kk H locs ls hP hD hS hl)
theorem zk_aload (hc : KC g p s m args c cc n own A H0 meth) {i : Nat} {x : Nat} (d : decode cc pc = .ok (.aload i, 2)) (j : Nat) (h : lv[j]? = some (i, .ref x)) (kk : KW g p l e R s m args below meth c n A H0 cells slots Q ws lv (pc + 2) (.ref x :: st)) : KW g p l e R s m args below meth c n A H0 cells slots Q ws lv pc st := fun H locs ls hP hD hS hl => lv_aload hc.1 hc.2.1 d (lv_at hl j h) (kk H locs ls hP hD hS hl)
theorem zk_istore_n (hc : KC g p s m args c cc n own A H0 meth) {k : Fin 4} {x : Int32} {lv2 : List (Nat × Value)} (d : decode cc pc = .ok (.istore_n k, 1)) (hn : k.val < n) (h : (k.val, Value.int x) :: lv.filter (fun q => !(q.1 == k.val) && !(q.1 + 1 == k.val && q.2.category == 2)) = lv2) (kk : KW g p l e R s m args below meth c n A H0 cells slots Q ws lv2 (pc + 1) st) : KW g p l e R s m args below meth c n A H0 cells slots Q ws lv pc (.int x :: st) := fun H locs ls hP hD hS hl => lv_istore_n hc.1 hc.2.1 d rfl hl hn h (fun ls2 hl2 => kk H locs ls2 hP hD hS hl2)
theorem zk_istore (hc : KC g p s m args c cc n own A H0 meth) {i : Nat} {x : Int32} {lv2 : List (Nat × Value)} (d : decode cc pc = .ok (.istore i, 2)) (hn : i < n) (h : (i, Value.int x) :: lv.filter (fun q => !(q.1 == i) && !(q.1 + 1 == i && q.2.category == 2)) = lv2) (kk : KW g p l e R s m args below meth c n A H0 cells slots Q ws lv2 (pc + 2) st) : KW g p l e R s m args below meth c n A H0 cells slots Q ws lv pc (.int x :: st) := fun H locs ls hP hD hS hl => lv_istore hc.1 hc.2.1 d hl hn h (fun ls2 hl2 => kk H locs ls2 hP hD hS hl2)
theorem zk_astore_n (hc : KC g p s m args c cc n own A H0 meth) {k : Fin 4} {x : Nat} {lv2 : List (Nat × Value)} (d : decode cc pc = .ok (.astore_n k, 1)) (hn : k.val < n) (h : (k.val, Value.ref x) :: lv.filter (fun q => !(q.1 == k.val) && !(q.1 + 1 == k.val && q.2.category == 2)) = lv2) (kk : KW g p l e R s m args below meth c n A H0 cells slots Q ws lv2 (pc + 1) st) : KW g p l e R s m args below meth c n A H0 cells slots Q ws lv pc (.ref x :: st) := fun H locs ls hP hD hS hl => lv_astore_n hc.1 hc.2.1 d rfl hl hn h (fun ls2 hl2 => kk H locs ls2 hP hD hS hl2)
theorem zk_astore (hc : KC g p s m args c cc n own A H0 meth) {i : Nat} {x : Nat} {lv2 : List (Nat × Value)} (d : decode cc pc = .ok (.astore i, 2)) (hn : i < n) (h : (i, Value.ref x) :: lv.filter (fun q => !(q.1 == i) && !(q.1 + 1 == i && q.2.category == 2)) = lv2) (kk : KW g p l e R s m args below meth c n A H0 cells slots Q ws lv2 (pc + 2) st) : KW g p l e R s m args below meth c n A H0 cells slots Q ws lv pc (.ref x :: st) := fun H locs ls hP hD hS hl => lv_astore hc.1 hc.2.1 d hl hn h (fun ls2 hl2 => kk H locs ls2 hP hD hS hl2)
theorem zk_iinc (hc : KC g p s m args c cc n own A H0 meth) {i : Nat} {dd : Int} {x v : Int32} {lv2 : List (Nat × Value)} (d : decode cc pc = .ok (.iinc i dd, 3)) (j : Nat) (hk : lv[j]? = some (i, .int x)) (hv : x + Int32.ofInt dd = v) (hn : i < n) (h : (i, Value.int v) :: lv.filter (fun q => !(q.1 == i) && !(q.1 + 1 == i && q.2.category == 2)) = lv2) (kk : KW g p l e R s m args below meth c n A H0 cells slots Q ws lv2 (pc + 3) st) : KW g p l e R s m args below meth c n A H0 cells slots Q ws lv pc st := fun H locs ls hP hD hS hl => lv_iinc hc.1 hc.2.1 d hl hk hv hn h (fun ls2 hl2 => kk H locs ls2 hP hD hS hl2)
theorem zk_iconst (hc : KC g p s m args c cc n own A H0 meth) {k : Int} (v : Int32) (d : decode cc pc = .ok (.iconst k, 1)) (hv : Int32.ofInt k = v) (kk : KW g p l e R s m args below meth c n A H0 cells slots Q ws lv (pc + 1) (.int v :: st)) : KW g p l e R s m args below meth c n A H0 cells slots Q ws lv pc st := fun H locs ls hP hD hS hl => lv_iconst hc.1 hc.2.1 d hv (kk H locs ls hP hD hS hl)
theorem zk_bipush (hc : KC g p s m args c cc n own A H0 meth) {k : Int} (v : Int32) (d : decode cc pc = .ok (.bipush k, 2)) (hv : (Int8.ofInt k).toInt32 = v) (kk : KW g p l e R s m args below meth c n A H0 cells slots Q ws lv (pc + 2) (.int v :: st)) : KW g p l e R s m args below meth c n A H0 cells slots Q ws lv pc st := fun H locs ls hP hD hS hl => lv_bipush hc.1 hc.2.1 d hv (kk H locs ls hP hD hS hl)
theorem zk_sipush (hc : KC g p s m args c cc n own A H0 meth) {k : Int} (v : Int32) (d : decode cc pc = .ok (.sipush k, 3)) (hv : (Int16.ofInt k).toInt32 = v) (kk : KW g p l e R s m args below meth c n A H0 cells slots Q ws lv (pc + 3) (.int v :: st)) : KW g p l e R s m args below meth c n A H0 cells slots Q ws lv pc st := fun H locs ls hP hD hS hl => lv_sipush hc.1 hc.2.1 d hv (kk H locs ls hP hD hS hl)
theorem zk_iadd (hc : KC g p s m args c cc n own A H0 meth) {x y : Int32} (d : decode cc pc = .ok (.iadd, 1)) (kk : KW g p l e R s m args below meth c n A H0 cells slots Q ws lv (pc + 1) (.int (x + y) :: st)) : KW g p l e R s m args below meth c n A H0 cells slots Q ws lv pc (.int y :: .int x :: st) := fun H locs ls hP hD hS hl => lv_iadd hc.1 hc.2.1 d (kk H locs ls hP hD hS hl)
theorem zk_isub (hc : KC g p s m args c cc n own A H0 meth) {x y : Int32} (d : decode cc pc = .ok (.isub, 1)) (kk : KW g p l e R s m args below meth c n A H0 cells slots Q ws lv (pc + 1) (.int (x - y) :: st)) : KW g p l e R s m args below meth c n A H0 cells slots Q ws lv pc (.int y :: .int x :: st) := fun H locs ls hP hD hS hl => lv_isub hc.1 hc.2.1 d (kk H locs ls hP hD hS hl)
theorem zk_imul (hc : KC g p s m args c cc n own A H0 meth) {x y : Int32} (d : decode cc pc = .ok (.imul, 1)) (kk : KW g p l e R s m args below meth c n A H0 cells slots Q ws lv (pc + 1) (.int (x * y) :: st)) : KW g p l e R s m args below meth c n A H0 cells slots Q ws lv pc (.int y :: .int x :: st) := fun H locs ls hP hD hS hl => lv_imul hc.1 hc.2.1 d (kk H locs ls hP hD hS hl)
theorem zk_iand (hc : KC g p s m args c cc n own A H0 meth) {x y : Int32} (d : decode cc pc = .ok (.iand, 1)) (kk : KW g p l e R s m args below meth c n A H0 cells slots Q ws lv (pc + 1) (.int (x &&& y) :: st)) : KW g p l e R s m args below meth c n A H0 cells slots Q ws lv pc (.int y :: .int x :: st) := fun H locs ls hP hD hS hl => lv_iand hc.1 hc.2.1 d (kk H locs ls hP hD hS hl)
theorem zk_ior (hc : KC g p s m args c cc n own A H0 meth) {x y : Int32} (d : decode cc pc = .ok (.ior, 1)) (kk : KW g p l e R s m args below meth c n A H0 cells slots Q ws lv (pc + 1) (.int (x ||| y) :: st)) : KW g p l e R s m args below meth c n A H0 cells slots Q ws lv pc (.int y :: .int x :: st) := fun H locs ls hP hD hS hl => lv_ior hc.1 hc.2.1 d (kk H locs ls hP hD hS hl)
theorem zk_ishl (hc : KC g p s m args c cc n own A H0 meth) {x y : Int32} (d : decode cc pc = .ok (.ishl, 1)) (kk : KW g p l e R s m args below meth c n A H0 cells slots Q ws lv (pc + 1) (.int (x <<< (y &&& 31)) :: st)) : KW g p l e R s m args below meth c n A H0 cells slots Q ws lv pc (.int y :: .int x :: st) := fun H locs ls hP hD hS hl => lv_ishl hc.1 hc.2.1 d (kk H locs ls hP hD hS hl)
theorem zk_ishr (hc : KC g p s m args c cc n own A H0 meth) {x y : Int32} (d : decode cc pc = .ok (.ishr, 1)) (kk : KW g p l e R s m args below meth c n A H0 cells slots Q ws lv (pc + 1) (.int (x >>> (y &&& 31)) :: st)) : KW g p l e R s m args below meth c n A H0 cells slots Q ws lv pc (.int y :: .int x :: st) := fun H locs ls hP hD hS hl => lv_ishr hc.1 hc.2.1 d (kk H locs ls hP hD hS hl)
theorem zk_iaddN (hc : KC g p s m args c cc n own A H0 meth) {x y : Nat} (d : decode cc pc = .ok (.iadd, 1)) (kk : KW g p l e R s m args below meth c n A H0 cells slots Q ws lv (pc + 1) (.int (nI (x + y)) :: st)) : KW g p l e R s m args below meth c n A H0 cells slots Q ws lv pc (.int (nI y) :: .int (nI x) :: st) := zk_iadd hc d (by rw [nI_add]; exact kk)
theorem zk_isubN (hc : KC g p s m args c cc n own A H0 meth) {x y : Nat} (d : decode cc pc = .ok (.isub, 1)) (h : y ≤ x) (kk : KW g p l e R s m args below meth c n A H0 cells slots Q ws lv (pc + 1) (.int (nI (x - y)) :: st)) : KW g p l e R s m args below meth c n A H0 cells slots Q ws lv pc (.int (nI y) :: .int (nI x) :: st) := zk_isub hc d (by rw [pk_sub h]; exact kk)
theorem zk_imulN (hc : KC g p s m args c cc n own A H0 meth) {x y : Nat} (d : decode cc pc = .ok (.imul, 1)) (kk : KW g p l e R s m args below meth c n A H0 cells slots Q ws lv (pc + 1) (.int (nI (x * y)) :: st)) : KW g p l e R s m args below meth c n A H0 cells slots Q ws lv pc (.int (nI y) :: .int (nI x) :: st) := zk_imul hc d (by rw [pk_mul]; exact kk)
theorem zk_idivN (hc : KC g p s m args c cc n own A H0 meth) {x y : Nat} (d : decode cc pc = .ok (.idiv, 1)) (hx : x < 2147483648) (hy0 : 0 < y) (hy : y < 2147483648) (kk : KW g p l e R s m args below meth c n A H0 cells slots Q ws lv (pc + 1) (.int (nI (x / y)) :: st)) : KW g p l e R s m args below meth c n A H0 cells slots Q ws lv pc (.int (nI y) :: .int (nI x) :: st) := fun H locs ls hP hD hS hl => lv_idiv hc.1 hc.2.1 d (nI_ne0 hy0 hy) (by rw [pk_div hx hy0 hy]; exact kk H locs ls hP hD hS hl)
theorem zk_iremN (hc : KC g p s m args c cc n own A H0 meth) {x y : Nat} (d : decode cc pc = .ok (.irem, 1)) (hx : x < 2147483648) (hy0 : 0 < y) (hy : y < 2147483648) (kk : KW g p l e R s m args below meth c n A H0 cells slots Q ws lv (pc + 1) (.int (nI (x % y)) :: st)) : KW g p l e R s m args below meth c n A H0 cells slots Q ws lv pc (.int (nI y) :: .int (nI x) :: st) := fun H locs ls hP hD hS hl => lv_irem hc.1 hc.2.1 d (nI_ne0 hy0 hy) (by rw [pk_rem hx hy0 hy]; exact kk H locs ls hP hD hS hl)
theorem zk_top {x y : Int32} (h : x = y) (kk : KW g p l e R s m args below meth c n A H0 cells slots Q ws lv pc (.int y :: st)) : KW g p l e R s m args below meth c n A H0 cells slots Q ws lv pc (.int x :: st) := h ▸ kk
theorem zk_ws {ws2 : va_W} (h : ws = ws2) (kk : KW g p l e R s m args below meth c n A H0 cells slots Q ws2 lv pc st) : KW g p l e R s m args below meth c n A H0 cells slots Q ws lv pc st := h ▸ kk
theorem zk_perm {ws2 : va_W} (h : ws2.Perm ws) (kk : KW g p l e R s m args below meth c n A H0 cells slots Q ws2 lv pc st) : KW g p l e R s m args below meth c n A H0 cells slots Q ws lv pc st := fun H locs ls hP hD hS hl => kk H locs ls (mem_P.mpr fun q hq => mem_P.mp hP q (h.mem_iff.mp hq)) (mem_D.mpr ⟨(h.map Prod.fst).nodup_iff.mpr (mem_D.mp hD).1, fun q hq => (mem_D.mp hD).2 q (h.mem_iff.mp hq)⟩) hS hl
theorem zk_lv {lv2 : List (Nat × Value)} (ks : List Nat) (h : lv_pick lv ks = lv2) (kk : KW g p l e R s m args below meth c n A H0 cells slots Q ws lv2 pc st) : KW g p l e R s m args below meth c n A H0 cells slots Q ws lv pc st := fun H locs ls hP hD hS hl => kk H locs ls hP hD hS (lv_sub hl ks h)
theorem zk_widen {k2 n2 : Nat} (h1 : cells ≤ k2) (h2 : slots ≤ n2) (kk : KW g p l e R s m args below meth c n A H0 k2 n2 Q ws lv pc st) : KW g p l e R s m args below meth c n A H0 cells slots Q ws lv pc st := fun H locs ls hP hD hS hl => W.widen h1 h2 (kk H locs ls hP hD hS hl)
theorem zk_dup (hc : KC g p s m args c cc n own A H0 meth) {va : Value} (d : decode cc pc = .ok (.dup, 1)) (hva : va.category = 1) (kk : KW g p l e R s m args below meth c n A H0 cells slots Q ws lv (pc + 1) (va :: va :: st)) : KW g p l e R s m args below meth c n A H0 cells slots Q ws lv pc (va :: st) := fun H locs ls hP hD hS hl => lv_dup hc.1 hc.2.1 d hva (kk H locs ls hP hD hS hl)
theorem zk_dup2 (hc : KC g p s m args c cc n own A H0 meth) {va vb : Value} (d : decode cc pc = .ok (.dup2, 1)) (hva : va.category = 1) (hvb : vb.category = 1) (kk : KW g p l e R s m args below meth c n A H0 cells slots Q ws lv (pc + 1) (va :: vb :: va :: vb :: st)) : KW g p l e R s m args below meth c n A H0 cells slots Q ws lv pc (va :: vb :: st) := fun H locs ls hP hD hS hl => lv_dup2_11 hc.1 hc.2.1 d hva hvb (kk H locs ls hP hD hS hl)
theorem zk_pop (hc : KC g p s m args c cc n own A H0 meth) {va : Value} (d : decode cc pc = .ok (.pop, 1)) (hva : va.category = 1) (kk : KW g p l e R s m args below meth c n A H0 cells slots Q ws lv (pc + 1) st) : KW g p l e R s m args below meth c n A H0 cells slots Q ws lv pc (va :: st) := fun H locs ls hP hD hS hl => lv_pop hc.1 hc.2.1 d hva (kk H locs ls hP hD hS hl)
theorem zk_goto (hc : KC g p s m args c cc n own A H0 meth) {off : Int} (tgt : Nat) (d : decode cc pc = .ok (.goto off, 3)) (ht : (pc : Int) + off = (tgt : Int)) (kk : KW g p l e R s m args below meth c n A H0 cells slots Q ws lv tgt st) : KW g p l e R s m args below meth c n A H0 cells slots Q ws lv pc st := fun H locs ls hP hD hS hl => lv_goto hc.1 hc.2.1 d ht (kk H locs ls hP hD hS hl)
theorem zk_if_eq (hc : KC g p s m args c cc n own A H0 meth) {x : Int32} {off : Int} (tgt : Nat) (d : decode cc pc = .ok (.ifCond .eq off, 3)) (ht : (pc : Int) + off = (tgt : Int)) (kt : x = 0 → KW g p l e R s m args below meth c n A H0 cells slots Q ws lv tgt st) (kf : ¬ x = 0 → KW g p l e R s m args below meth c n A H0 cells slots Q ws lv (pc + 3) st) : KW g p l e R s m args below meth c n A H0 cells slots Q ws lv pc (.int x :: st) := fun H locs ls hP hD hS hl => lv_if_eq hc.1 hc.2.1 d ht (fun h => kt h H locs ls hP hD hS hl) (fun h => kf h H locs ls hP hD hS hl)
theorem zk_if_ne (hc : KC g p s m args c cc n own A H0 meth) {x : Int32} {off : Int} (tgt : Nat) (d : decode cc pc = .ok (.ifCond .ne off, 3)) (ht : (pc : Int) + off = (tgt : Int)) (kt : ¬ x = 0 → KW g p l e R s m args below meth c n A H0 cells slots Q ws lv tgt st) (kf : x = 0 → KW g p l e R s m args below meth c n A H0 cells slots Q ws lv (pc + 3) st) : KW g p l e R s m args below meth c n A H0 cells slots Q ws lv pc (.int x :: st) := fun H locs ls hP hD hS hl => lv_if_ne hc.1 hc.2.1 d ht (fun h => kt h H locs ls hP hD hS hl) (fun h => kf h H locs ls hP hD hS hl)
theorem zk_if_lt (hc : KC g p s m args c cc n own A H0 meth) {x : Int32} {off : Int} (tgt : Nat) (d : decode cc pc = .ok (.ifCond .lt off, 3)) (ht : (pc : Int) + off = (tgt : Int)) (kt : x < 0 → KW g p l e R s m args below meth c n A H0 cells slots Q ws lv tgt st) (kf : ¬ x < 0 → KW g p l e R s m args below meth c n A H0 cells slots Q ws lv (pc + 3) st) : KW g p l e R s m args below meth c n A H0 cells slots Q ws lv pc (.int x :: st) := fun H locs ls hP hD hS hl => lv_if_lt hc.1 hc.2.1 d ht (fun h => kt h H locs ls hP hD hS hl) (fun h => kf h H locs ls hP hD hS hl)
theorem zk_if_ge (hc : KC g p s m args c cc n own A H0 meth) {x : Int32} {off : Int} (tgt : Nat) (d : decode cc pc = .ok (.ifCond .ge off, 3)) (ht : (pc : Int) + off = (tgt : Int)) (kt : 0 ≤ x → KW g p l e R s m args below meth c n A H0 cells slots Q ws lv tgt st) (kf : ¬ 0 ≤ x → KW g p l e R s m args below meth c n A H0 cells slots Q ws lv (pc + 3) st) : KW g p l e R s m args below meth c n A H0 cells slots Q ws lv pc (.int x :: st) := fun H locs ls hP hD hS hl => lv_if_ge hc.1 hc.2.1 d ht (fun h => kt h H locs ls hP hD hS hl) (fun h => kf h H locs ls hP hD hS hl)
theorem zk_if_gt (hc : KC g p s m args c cc n own A H0 meth) {x : Int32} {off : Int} (tgt : Nat) (d : decode cc pc = .ok (.ifCond .gt off, 3)) (ht : (pc : Int) + off = (tgt : Int)) (kt : 0 < x → KW g p l e R s m args below meth c n A H0 cells slots Q ws lv tgt st) (kf : ¬ 0 < x → KW g p l e R s m args below meth c n A H0 cells slots Q ws lv (pc + 3) st) : KW g p l e R s m args below meth c n A H0 cells slots Q ws lv pc (.int x :: st) := fun H locs ls hP hD hS hl => lv_if_gt hc.1 hc.2.1 d ht (fun h => kt h H locs ls hP hD hS hl) (fun h => kf h H locs ls hP hD hS hl)
theorem zk_if_le (hc : KC g p s m args c cc n own A H0 meth) {x : Int32} {off : Int} (tgt : Nat) (d : decode cc pc = .ok (.ifCond .le off, 3)) (ht : (pc : Int) + off = (tgt : Int)) (kt : x ≤ 0 → KW g p l e R s m args below meth c n A H0 cells slots Q ws lv tgt st) (kf : ¬ x ≤ 0 → KW g p l e R s m args below meth c n A H0 cells slots Q ws lv (pc + 3) st) : KW g p l e R s m args below meth c n A H0 cells slots Q ws lv pc (.int x :: st) := fun H locs ls hP hD hS hl => lv_if_le hc.1 hc.2.1 d ht (fun h => kt h H locs ls hP hD hS hl) (fun h => kf h H locs ls hP hD hS hl)
theorem zk_icmp_eq (hc : KC g p s m args c cc n own A H0 meth) {x y : Int32} {off : Int} (tgt : Nat) (d : decode cc pc = .ok (.if_icmp .eq off, 3)) (ht : (pc : Int) + off = (tgt : Int)) (kt : x = y → KW g p l e R s m args below meth c n A H0 cells slots Q ws lv tgt st) (kf : ¬ x = y → KW g p l e R s m args below meth c n A H0 cells slots Q ws lv (pc + 3) st) : KW g p l e R s m args below meth c n A H0 cells slots Q ws lv pc (.int y :: .int x :: st) := fun H locs ls hP hD hS hl => lv_icmp_eq hc.1 hc.2.1 d ht (fun h => kt h H locs ls hP hD hS hl) (fun h => kf h H locs ls hP hD hS hl)
theorem zk_icmp_ne (hc : KC g p s m args c cc n own A H0 meth) {x y : Int32} {off : Int} (tgt : Nat) (d : decode cc pc = .ok (.if_icmp .ne off, 3)) (ht : (pc : Int) + off = (tgt : Int)) (kt : ¬ x = y → KW g p l e R s m args below meth c n A H0 cells slots Q ws lv tgt st) (kf : x = y → KW g p l e R s m args below meth c n A H0 cells slots Q ws lv (pc + 3) st) : KW g p l e R s m args below meth c n A H0 cells slots Q ws lv pc (.int y :: .int x :: st) := fun H locs ls hP hD hS hl => lv_icmp_ne hc.1 hc.2.1 d ht (fun h => kt h H locs ls hP hD hS hl) (fun h => kf h H locs ls hP hD hS hl)
theorem zk_icmp_lt (hc : KC g p s m args c cc n own A H0 meth) {x y : Int32} {off : Int} (tgt : Nat) (d : decode cc pc = .ok (.if_icmp .lt off, 3)) (ht : (pc : Int) + off = (tgt : Int)) (kt : x < y → KW g p l e R s m args below meth c n A H0 cells slots Q ws lv tgt st) (kf : ¬ x < y → KW g p l e R s m args below meth c n A H0 cells slots Q ws lv (pc + 3) st) : KW g p l e R s m args below meth c n A H0 cells slots Q ws lv pc (.int y :: .int x :: st) := fun H locs ls hP hD hS hl => lv_icmp_lt hc.1 hc.2.1 d ht (fun h => kt h H locs ls hP hD hS hl) (fun h => kf h H locs ls hP hD hS hl)
theorem zk_icmp_ge (hc : KC g p s m args c cc n own A H0 meth) {x y : Int32} {off : Int} (tgt : Nat) (d : decode cc pc = .ok (.if_icmp .ge off, 3)) (ht : (pc : Int) + off = (tgt : Int)) (kt : y ≤ x → KW g p l e R s m args below meth c n A H0 cells slots Q ws lv tgt st) (kf : ¬ y ≤ x → KW g p l e R s m args below meth c n A H0 cells slots Q ws lv (pc + 3) st) : KW g p l e R s m args below meth c n A H0 cells slots Q ws lv pc (.int y :: .int x :: st) := fun H locs ls hP hD hS hl => lv_icmp_ge hc.1 hc.2.1 d ht (fun h => kt h H locs ls hP hD hS hl) (fun h => kf h H locs ls hP hD hS hl)
theorem zk_icmp_gt (hc : KC g p s m args c cc n own A H0 meth) {x y : Int32} {off : Int} (tgt : Nat) (d : decode cc pc = .ok (.if_icmp .gt off, 3)) (ht : (pc : Int) + off = (tgt : Int)) (kt : y < x → KW g p l e R s m args below meth c n A H0 cells slots Q ws lv tgt st) (kf : ¬ y < x → KW g p l e R s m args below meth c n A H0 cells slots Q ws lv (pc + 3) st) : KW g p l e R s m args below meth c n A H0 cells slots Q ws lv pc (.int y :: .int x :: st) := fun H locs ls hP hD hS hl => lv_icmp_gt hc.1 hc.2.1 d ht (fun h => kt h H locs ls hP hD hS hl) (fun h => kf h H locs ls hP hD hS hl)
theorem zk_icmp_le (hc : KC g p s m args c cc n own A H0 meth) {x y : Int32} {off : Int} (tgt : Nat) (d : decode cc pc = .ok (.if_icmp .le off, 3)) (ht : (pc : Int) + off = (tgt : Int)) (kt : x ≤ y → KW g p l e R s m args below meth c n A H0 cells slots Q ws lv tgt st) (kf : ¬ x ≤ y → KW g p l e R s m args below meth c n A H0 cells slots Q ws lv (pc + 3) st) : KW g p l e R s m args below meth c n A H0 cells slots Q ws lv pc (.int y :: .int x :: st) := fun H locs ls hP hD hS hl => lv_icmp_le hc.1 hc.2.1 d ht (fun h => kt h H locs ls hP hD hS hl) (fun h => kf h H locs ls hP hD hS hl)
theorem nq_eq0 {x : Nat} (hx : x < 2147483648) : nI x = 0 ↔ x = 0 := by rw [← nI_0]; exact nI_eq hx (by decide)
theorem nq_gt0 {x : Nat} (hx : x < 2147483648) : 0 < nI x ↔ 0 < x := by rw [← nI_0]; exact nI_ltI (by decide) hx
theorem nq_le0 {x : Nat} (hx : x < 2147483648) : nI x ≤ 0 ↔ x ≤ 0 := by rw [← nI_0]; exact nI_leI hx (by decide)
theorem zk_if_eqN (hc : KC g p s m args c cc n own A H0 meth) {x : Nat} {off : Int} (tgt : Nat) (d : decode cc pc = .ok (.ifCond .eq off, 3)) (ht : (pc : Int) + off = (tgt : Int)) (hx : x < 2147483648) (kt : x = 0 → KW g p l e R s m args below meth c n A H0 cells slots Q ws lv tgt st) (kf : x ≠ 0 → KW g p l e R s m args below meth c n A H0 cells slots Q ws lv (pc + 3) st) : KW g p l e R s m args below meth c n A H0 cells slots Q ws lv pc (.int (nI x) :: st) := zk_if_eq hc tgt d ht (fun h => kt ((nq_eq0 hx).mp h)) (fun h => kf (fun z => h ((nq_eq0 hx).mpr z)))
theorem zk_if_neN (hc : KC g p s m args c cc n own A H0 meth) {x : Nat} {off : Int} (tgt : Nat) (d : decode cc pc = .ok (.ifCond .ne off, 3)) (ht : (pc : Int) + off = (tgt : Int)) (hx : x < 2147483648) (kt : x ≠ 0 → KW g p l e R s m args below meth c n A H0 cells slots Q ws lv tgt st) (kf : x = 0 → KW g p l e R s m args below meth c n A H0 cells slots Q ws lv (pc + 3) st) : KW g p l e R s m args below meth c n A H0 cells slots Q ws lv pc (.int (nI x) :: st) := zk_if_ne hc tgt d ht (fun h => kt (fun z => h ((nq_eq0 hx).mpr z))) (fun h => kf ((nq_eq0 hx).mp h))
theorem zk_if_gtN (hc : KC g p s m args c cc n own A H0 meth) {x : Nat} {off : Int} (tgt : Nat) (d : decode cc pc = .ok (.ifCond .gt off, 3)) (ht : (pc : Int) + off = (tgt : Int)) (hx : x < 2147483648) (kt : 0 < x → KW g p l e R s m args below meth c n A H0 cells slots Q ws lv tgt st) (kf : x = 0 → KW g p l e R s m args below meth c n A H0 cells slots Q ws lv (pc + 3) st) : KW g p l e R s m args below meth c n A H0 cells slots Q ws lv pc (.int (nI x) :: st) := zk_if_gt hc tgt d ht (fun h => kt ((nq_gt0 hx).mp h)) (fun h => kf (Nat.le_zero.mp (Nat.not_lt.mp (fun z => h ((nq_gt0 hx).mpr z)))))
theorem zk_if_leN (hc : KC g p s m args c cc n own A H0 meth) {x : Nat} {off : Int} (tgt : Nat) (d : decode cc pc = .ok (.ifCond .le off, 3)) (ht : (pc : Int) + off = (tgt : Int)) (hx : x < 2147483648) (kt : x = 0 → KW g p l e R s m args below meth c n A H0 cells slots Q ws lv tgt st) (kf : 0 < x → KW g p l e R s m args below meth c n A H0 cells slots Q ws lv (pc + 3) st) : KW g p l e R s m args below meth c n A H0 cells slots Q ws lv pc (.int (nI x) :: st) := zk_if_le hc tgt d ht (fun h => kt (Nat.le_zero.mp ((nq_le0 hx).mp h))) (fun h => kf (Nat.not_le.mp (fun z => h ((nq_le0 hx).mpr z))))
theorem zk_icmp_eqN (hc : KC g p s m args c cc n own A H0 meth) {x y : Nat} {off : Int} (tgt : Nat) (d : decode cc pc = .ok (.if_icmp .eq off, 3)) (ht : (pc : Int) + off = (tgt : Int)) (hx : x < 2147483648) (hy : y < 2147483648) (kt : x = y → KW g p l e R s m args below meth c n A H0 cells slots Q ws lv tgt st) (kf : x ≠ y → KW g p l e R s m args below meth c n A H0 cells slots Q ws lv (pc + 3) st) : KW g p l e R s m args below meth c n A H0 cells slots Q ws lv pc (.int (nI y) :: .int (nI x) :: st) := zk_icmp_eq hc tgt d ht (fun h => kt ((nI_eq hx hy).mp h)) (fun h => kf (fun z => h ((nI_eq hx hy).mpr z)))
theorem zk_icmp_neN (hc : KC g p s m args c cc n own A H0 meth) {x y : Nat} {off : Int} (tgt : Nat) (d : decode cc pc = .ok (.if_icmp .ne off, 3)) (ht : (pc : Int) + off = (tgt : Int)) (hx : x < 2147483648) (hy : y < 2147483648) (kt : x ≠ y → KW g p l e R s m args below meth c n A H0 cells slots Q ws lv tgt st) (kf : x = y → KW g p l e R s m args below meth c n A H0 cells slots Q ws lv (pc + 3) st) : KW g p l e R s m args below meth c n A H0 cells slots Q ws lv pc (.int (nI y) :: .int (nI x) :: st) := zk_icmp_ne hc tgt d ht (fun h => kt (fun z => h ((nI_eq hx hy).mpr z))) (fun h => kf ((nI_eq hx hy).mp h))
theorem zk_icmp_ltN (hc : KC g p s m args c cc n own A H0 meth) {x y : Nat} {off : Int} (tgt : Nat) (d : decode cc pc = .ok (.if_icmp .lt off, 3)) (ht : (pc : Int) + off = (tgt : Int)) (hx : x < 2147483648) (hy : y < 2147483648) (kt : x < y → KW g p l e R s m args below meth c n A H0 cells slots Q ws lv tgt st) (kf : y ≤ x → KW g p l e R s m args below meth c n A H0 cells slots Q ws lv (pc + 3) st) : KW g p l e R s m args below meth c n A H0 cells slots Q ws lv pc (.int (nI y) :: .int (nI x) :: st) := zk_icmp_lt hc tgt d ht (fun h => kt ((nI_ltI hx hy).mp h)) (fun h => kf (Nat.not_lt.mp (fun z => h ((nI_ltI hx hy).mpr z))))
theorem zk_icmp_geN (hc : KC g p s m args c cc n own A H0 meth) {x y : Nat} {off : Int} (tgt : Nat) (d : decode cc pc = .ok (.if_icmp .ge off, 3)) (ht : (pc : Int) + off = (tgt : Int)) (hx : x < 2147483648) (hy : y < 2147483648) (kt : y ≤ x → KW g p l e R s m args below meth c n A H0 cells slots Q ws lv tgt st) (kf : x < y → KW g p l e R s m args below meth c n A H0 cells slots Q ws lv (pc + 3) st) : KW g p l e R s m args below meth c n A H0 cells slots Q ws lv pc (.int (nI y) :: .int (nI x) :: st) := zk_icmp_ge hc tgt d ht (fun h => kt ((nI_leI hy hx).mp h)) (fun h => kf (Nat.not_le.mp (fun z => h ((nI_leI hy hx).mpr z))))
theorem zk_icmp_gtN (hc : KC g p s m args c cc n own A H0 meth) {x y : Nat} {off : Int} (tgt : Nat) (d : decode cc pc = .ok (.if_icmp .gt off, 3)) (ht : (pc : Int) + off = (tgt : Int)) (hx : x < 2147483648) (hy : y < 2147483648) (kt : y < x → KW g p l e R s m args below meth c n A H0 cells slots Q ws lv tgt st) (kf : x ≤ y → KW g p l e R s m args below meth c n A H0 cells slots Q ws lv (pc + 3) st) : KW g p l e R s m args below meth c n A H0 cells slots Q ws lv pc (.int (nI y) :: .int (nI x) :: st) := zk_icmp_gt hc tgt d ht (fun h => kt ((nI_ltI hy hx).mp h)) (fun h => kf (Nat.not_lt.mp (fun z => h ((nI_ltI hy hx).mpr z))))
theorem zk_icmp_leN (hc : KC g p s m args c cc n own A H0 meth) {x y : Nat} {off : Int} (tgt : Nat) (d : decode cc pc = .ok (.if_icmp .le off, 3)) (ht : (pc : Int) + off = (tgt : Int)) (hx : x < 2147483648) (hy : y < 2147483648) (kt : x ≤ y → KW g p l e R s m args below meth c n A H0 cells slots Q ws lv tgt st) (kf : y < x → KW g p l e R s m args below meth c n A H0 cells slots Q ws lv (pc + 3) st) : KW g p l e R s m args below meth c n A H0 cells slots Q ws lv pc (.int (nI y) :: .int (nI x) :: st) := zk_icmp_le hc tgt d ht (fun h => kt ((nI_leI hx hy).mp h)) (fun h => kf (Nat.not_le.mp (fun z => h ((nI_leI hx hy).mpr z))))
theorem zk_nonnull (hc : KC g p s m args c cc n own A H0 meth) {x : Nat} {off : Int} (tgt : Nat) (d : decode cc pc = .ok (.ifnonnull off, 3)) (ht : (pc : Int) + off = (tgt : Int)) (kk : KW g p l e R s m args below meth c n A H0 cells slots Q ws lv tgt st) : KW g p l e R s m args below meth c n A H0 cells slots Q ws lv pc (.ref x :: st) := fun H locs ls hP hD hS hl => lv_ifnonnull hc.1 hc.2.1 d ht (kk H locs ls hP hD hS hl)
theorem zk_null (hc : KC g p s m args c cc n own A H0 meth) {off : Int} (d : decode cc pc = .ok (.ifnonnull off, 3)) (kk : KW g p l e R s m args below meth c n A H0 cells slots Q ws lv (pc + 3) st) : KW g p l e R s m args below meth c n A H0 cells slots Q ws lv pc (.null :: st) := fun H locs ls hP hD hS hl => lv_ifnonnullN hc.1 hc.2.1 d (kk H locs ls hP hD hS hl)
theorem zk_tableIn (hc : KC g p s m args c cc n own A H0 meth) {dflt lo hi : Int} {offs : Array Int} {len : Nat} {x : Int32} {off : Int} (tgt : Nat) (d : decode cc pc = .ok (.tableswitch dflt lo hi offs, len)) (h1 : ¬ x.toInt < lo) (h2 : ¬ hi < x.toInt) (ho : offs[(x.toInt - lo).toNat]? = some off) (ht : (pc : Int) + off = (tgt : Int)) (kk : KW g p l e R s m args below meth c n A H0 cells slots Q ws lv tgt st) : KW g p l e R s m args below meth c n A H0 cells slots Q ws lv pc (.int x :: st) := fun H locs ls hP hD hS hl => lv_tableIn hc.1 hc.2.1 d h1 h2 ho ht (kk H locs ls hP hD hS hl)
theorem zk_tableOut (hc : KC g p s m args c cc n own A H0 meth) {dflt lo hi : Int} {offs : Array Int} {len : Nat} {x : Int32} (tgt : Nat) (d : decode cc pc = .ok (.tableswitch dflt lo hi offs, len)) (h : x.toInt < lo ∨ hi < x.toInt) (ht : (pc : Int) + dflt = (tgt : Int)) (kk : KW g p l e R s m args below meth c n A H0 cells slots Q ws lv tgt st) : KW g p l e R s m args below meth c n A H0 cells slots Q ws lv pc (.int x :: st) := fun H locs ls hP hD hS hl => lv_tableOut hc.1 hc.2.1 d h ht (kk H locs ls hP hD hS hl)
theorem zk_lookup (hc : KC g p s m args c cc n own A H0 meth) {dflt : Int} {ps : Array (Int × Int)} {len : Nat} {x : Int32} {off : Int} (tgt : Nat) (d : decode cc pc = .ok (.lookupswitch dflt ps, len)) (hp : (ps.toList.zip (ps.toList.drop 1)).all (fun (a, next) => a.1 < next.1) = true) (ho : Op.lookupswitch.offset ps.toList dflt x.toInt = off) (ht : (pc : Int) + off = (tgt : Int)) (kk : KW g p l e R s m args below meth c n A H0 cells slots Q ws lv tgt st) : KW g p l e R s m args below meth c n A H0 cells slots Q ws lv pc (.int x :: st) := fun H locs ls hP hD hS hl => lv_lookup hc.1 hc.2.1 d hp ho ht (kk H locs ls hP hD hS hl)
theorem zk_get (hc : KC g p s m args c cc n own A H0 meth) {ref C : String} {T : u_T} {N ci idx : Nat} (hin : ∀ w ∈ u_ws C T N, w ∈ wsL_law) (hcl : vwCl[ci]? = some (C, T, N)) (q0 k : Nat) (hk : k < N) (hl0 : Cond.fieldLink own idx ref (T k).2.1 (T k).2.2.1 ∈ wsL_law) (hre : (T k).1 = ref) {a : Nat} {fs : List Value} {v : Value} (he : ws[q0]? = some (a, .inr (ci, fs))) (hv : fs[k]? = some v) (d : decode cc pc = .ok (.getfield idx, 3)) (kk : KW g p l e R s m args below meth c n A H0 cells slots Q ws lv (pc + 3) (v :: st)) : KW g p l e R s m args below meth c n A H0 cells slots Q ws lv pc (.ref a :: st) := fun H locs ls hP hD hS hl => va_get (T := T) hc.1 hc.2.1 hc.2.2.2.2.1 hin hc.2.2.2.1 hc.2.2.2.2.2.1.1 hP q0 he hcl k hk (hc.2.2.2.2.1 _ hl0) (fun _ h9 => hre ▸ h9) hv d (kk H locs ls hP hD hS hl)
theorem zk_put (hc : KC g p s m args c cc n own A H0 meth) {ref C : String} {T : u_T} {N ci idx : Nat} (hin : ∀ w ∈ u_ws C T N, w ∈ wsL_law) (hcl : vwCl[ci]? = some (C, T, N)) (ty0 : Nat → FieldType) (hty : ∀ k, k < N → parseFieldDescriptor (T k).2.2.1 = some (ty0 k)) (hnm : ∀ a, a < N → ∀ b, b < N → a ≠ b → (T a).2.1 ≠ (T b).2.1) (q0 k : Nat) (hk : k < N) (hl0 : Cond.fieldLink own idx ref (T k).2.1 (T k).2.2.1 ∈ wsL_law) (hre : (T k).1 = ref) (hfin : (T k).2.2.2 = false) {a : Nat} {fs : List Value} {v : Value} {ws2 : va_W} (he : ws[q0]? = some (a, .inr (ci, fs))) (hn : narrow (ty0 k) v = v) (hfit : fits (ty0 k) v = true) (hl1 : k < fs.length) (hw : ws.set q0 (a, .inr (ci, fs.set k v)) = ws2) (d : decode cc pc = .ok (.putfield idx, 3)) (kk : KW g p l e R s m args below meth c n A H0 cells slots Q ws2 lv (pc + 3) st) : KW g p l e R s m args below meth c n A H0 cells slots Q ws lv pc (v :: .ref a :: st) := by
  subst hw
  exact fun H locs ls hP hD hS hl => va_put (T := T) hc.1 hc.2.1 hc.2.2.2.2.1 hin ty0 hty hnm hc.2.2.2.1 hc.2.2.2.2.2.1.1 hP hD hS q0 he hcl k hk (hc.2.2.2.2.1 _ hl0) (fun _ h9 => hre ▸ h9) hfin (hty k hk) hn hfit hl1 d (fun H1 locs1 hP1 hD1 hS1 => kk H1 locs1 ls hP1 hD1 hS1 hl)
theorem zk_putF (hc : KC g p s m args c cc n own A H0 meth) {ref C : String} {T : u_T} {N ci idx : Nat} (hin : ∀ w ∈ u_ws C T N, w ∈ wsL_law) (hcl : vwCl[ci]? = some (C, T, N)) (ty0 : Nat → FieldType) (hty : ∀ k, k < N → parseFieldDescriptor (T k).2.2.1 = some (ty0 k)) (hnm : ∀ a, a < N → ∀ b, b < N → a ≠ b → (T a).2.1 ≠ (T b).2.1) (q0 k : Nat) (hk : k < N) (hl0 : Cond.fieldLink own idx ref (T k).2.1 (T k).2.2.1 ∈ wsL_law) (hre : (T k).1 = ref) (hfin : (T k).2.2.2 = true) (hin2 : meth.name = "<init>") (hdecl : (T k).1 = own) {a : Nat} {fs : List Value} {v : Value} {ws2 : va_W} (he : ws[q0]? = some (a, .inr (ci, fs))) (hn : narrow (ty0 k) v = v) (hfit : fits (ty0 k) v = true) (hl1 : k < fs.length) (hw : ws.set q0 (a, .inr (ci, fs.set k v)) = ws2) (d : decode cc pc = .ok (.putfield idx, 3)) (kk : KW g p l e R s m args below meth c n A H0 cells slots Q ws2 lv (pc + 3) st) : KW g p l e R s m args below meth c n A H0 cells slots Q ws lv pc (v :: .ref a :: st) := by
  subst hw
  exact fun H locs ls hP hD hS hl => va_putF (T := T) hc.1 hc.2.1 hc.2.2.2.2.1 hin ty0 hty hnm hc.2.2.2.1 hc.2.2.2.2.2.1.1 hP hD hS q0 he hcl k hk (hc.2.2.2.2.1 _ hl0) (fun _ h9 => hre ▸ h9) hfin hin2 hdecl (hty k hk) hn hfit hl1 d (fun H1 locs1 hP1 hD1 hS1 => kk H1 locs1 ls hP1 hD1 hS1 hl)
theorem zk_ialdR (hc : KC g p s m args c cc n own A H0 meth) (q0 : Nat) {a N i : Nat} {f : Nat → Int32} (he : ws[q0]? = some (a, .inl (g.2.1, N, .inl f))) (hi : i < N) (hN : N < 2147483648) (d : decode cc pc = .ok (.iaload, 1)) (kk : KW g p l e R s m args below meth c n A H0 cells slots Q ws lv (pc + 1) (.int (f i) :: st)) : KW g p l e R s m args below meth c n A H0 cells slots Q ws lv pc (.int (nI i) :: .ref a :: st) := fun H locs ls hP hD hS hl => va_iald hc.1 hc.2.1 hc.2.2.2.2.2.1.1 hP q0 0 he rfl (vp_in_nI hi hN) d (by rw [nI_clamp (Nat.lt_trans hi hN)]; exact kk H locs ls hP hD hS hl)
theorem zk_ialdN (hc : KC g p s m args c cc n own A H0 meth) (q0 : Nat) {a N i : Nat} {v : Nat → Nat} (he : ws[q0]? = some (a, .inl (g.2.1, N, .inl (aN v)))) (hi : i < N) (hN : N < 2147483648) (d : decode cc pc = .ok (.iaload, 1)) (kk : KW g p l e R s m args below meth c n A H0 cells slots Q ws lv (pc + 1) (.int (nI (v i)) :: st)) : KW g p l e R s m args below meth c n A H0 cells slots Q ws lv pc (.int (nI i) :: .ref a :: st) := zk_ialdR hc q0 he hi hN d kk
theorem zk_iastR (hc : KC g p s m args c cc n own A H0 meth) (q0 : Nat) {a N i : Nat} {x : Int32} {f : Nat → Int32} {ws2 : va_W} (he : ws[q0]? = some (a, .inl (g.2.1, N, .inl f))) (hi : i < N) (hN : N < 2147483648) (hw : ws.set q0 (a, .inl (g.2.1, N, .inl (upd f i x))) = ws2) (d : decode cc pc = .ok (.iastore, 1)) (kk : KW g p l e R s m args below meth c n A H0 cells slots Q ws2 lv (pc + 1) st) : KW g p l e R s m args below meth c n A H0 cells slots Q ws lv pc (.int x :: .int (nI i) :: .ref a :: st) := by
  subst hw
  have e : (nI i).toNatClampNeg = i := nI_clamp (Nat.lt_trans hi hN)
  exact fun H locs ls hP hD hS hl => va_iast hc.1 hc.2.1 hc.2.2.2.2.2.1.1 hP hD hS q0 0 he rfl (vp_in_nI hi hN) d (fun H1 locs1 hP1 hD1 hS1 => kk H1 locs1 ls (by rw [e] at hP1; exact hP1) (by rw [e] at hD1; exact hD1) hS1 hl)
theorem zk_iastN (hc : KC g p s m args c cc n own A H0 meth) (q0 : Nat) {a N i x : Nat} {v : Nat → Nat} {ws2 : va_W} (he : ws[q0]? = some (a, .inl (g.2.1, N, .inl (aN v)))) (hi : i < N) (hN : N < 2147483648) (hw : ws.set q0 (a, .inl (g.2.1, N, .inl (aN (va_up v i x)))) = ws2) (d : decode cc pc = .ok (.iastore, 1)) (kk : KW g p l e R s m args below meth c n A H0 cells slots Q ws2 lv (pc + 1) st) : KW g p l e R s m args below meth c n A H0 cells slots Q ws lv pc (.int (nI x) :: .int (nI i) :: .ref a :: st) := zk_iastR hc q0 he hi hN (by rw [aN_up]; exact hw) d kk
theorem zk_alenI (hc : KC g p s m args c cc n own A H0 meth) (q0 : Nat) {a N : Nat} {f : Nat → Int32} (he : ws[q0]? = some (a, .inl (g.2.1, N, .inl f))) (d : decode cc pc = .ok (.arraylength, 1)) (kk : KW g p l e R s m args below meth c n A H0 cells slots Q ws lv (pc + 1) (.int (nI N) :: st)) : KW g p l e R s m args below meth c n A H0 cells slots Q ws lv pc (.ref a :: st) := fun H locs ls hP hD hS hl => va_alen hc.1 hc.2.1 hc.2.2.2.2.2.1.1 hP q0 0 he rfl rfl d (kk H locs ls hP hD hS hl)
theorem zk_aald (hc : KC g p s m args c cc n own A H0 meth) (q0 : Nat) {a N i : Nat} {f : Nat → Option Nat} (he : ws[q0]? = some (a, .inl (g.2.2, N, .inr (.inr (.inr (.inr f)))))) (hi : i < N) (hN : N < 2147483648) (d : decode cc pc = .ok (.aaload, 1)) (kk : KW g p l e R s m args below meth c n A H0 cells slots Q ws lv (pc + 1) (va_rf (f i) :: st)) : KW g p l e R s m args below meth c n A H0 cells slots Q ws lv pc (.int (nI i) :: .ref a :: st) := fun H locs ls hP hD hS hl => va_aldq hc.1 hc.2.1 hc.2.2.2.2.2.1.1 hP q0 1 he rfl (vp_in_nI hi hN) d (by rw [nI_clamp (Nat.lt_trans hi hN)]; exact kk H locs ls hP hD hS hl)
theorem zk_aast (hc : KC g p s m args c cc n own A H0 meth) (q0 qk : Nat) {a N i y : Nat} {vs : List Value} {f : Nat → Option Nat} {ws2 : va_W} (he : ws[q0]? = some (a, .inl (g.2.2, N, .inr (.inr (.inr (.inr f)))))) (hv : ws[qk]? = some (y, .inr (5, vs))) (hi : i < N) (hN : N < 2147483648) (hw : ws.set q0 (a, .inl (g.2.2, N, .inr (.inr (.inr (.inr (va_up f i (some y))))))) = ws2) (d : decode cc pc = .ok (.aastore, 1)) (kk : KW g p l e R s m args below meth c n A H0 cells slots Q ws2 lv (pc + 1) st) : KW g p l e R s m args below meth c n A H0 cells slots Q ws lv pc (.ref y :: .int (nI i) :: .ref a :: st) := by
  subst hw
  have e : (nI i).toNatClampNeg = i := nI_clamp (Nat.lt_trans hi hN)
  exact fun H locs ls hP hD hS hl => va_astq hc.1 hc.2.1 hc.2.2.2.2.2.1.1 hP hD hS q0 1 qk 5 he rfl hv rfl (vp_in_nI hi hN) d (fun H1 locs1 hP1 hD1 hS1 => kk H1 locs1 ls (by rw [e] at hP1; exact hP1) (by rw [e] at hD1; exact hD1) hS1 hl)
theorem zk_ialdX {i i2 a : Nat} (h : i = i2) (kk : KW g p l e R s m args below meth c n A H0 cells slots Q ws lv pc (.int (nI i2) :: .ref a :: st)) : KW g p l e R s m args below meth c n A H0 cells slots Q ws lv pc (.int (nI i) :: .ref a :: st) := h ▸ kk
theorem zk_copy (hc : KC g p s m args c cc n own A H0 meth) {idx : Nat} (hl0 : Cond.methodLink own idx arraycopyName ∈ wsL_law) (h1 : Cond.native arraycopyName ∈ wsL_law) (h2 : Cond.static arraycopyName ∈ wsL_law) (h3 : Cond.initialized "java/lang/System" ∈ wsL_law) (q0 q1 : Nat) {a0 a N0 N1 sp dp k : Nat} {f h : Nat → Int32} {ws2 : va_W} (he0 : ws[q0]? = some (a0, .inl (g.2.1, N0, .inl f))) (he1 : ws[q1]? = some (a, .inl (g.2.1, N1, .inl h))) (hN0 : N0 < 2147483648) (hN1 : N1 < 2147483648) (hs : sp + k ≤ N0) (hd : dp + k ≤ N1) (hR : 1 ≤ R.frames ∧ 60 ≤ R.locals) (hst : (st.map fun v => v.category).sum ≤ 8) (hw : ws.set q1 (a, .inl (g.2.1, N1, .inl (va_cpy f h sp dp k))) = ws2) (d : decode cc pc = .ok (.invokestatic idx, 3)) (kk : KW g p l e R s m args below meth c n A H0 cells slots Q ws2 lv (pc + 3) st) : KW g p l e R s m args below meth c n A H0 cells slots Q ws lv pc (.int (nI k) :: .int (nI dp) :: .ref a :: .int (nI sp) :: .ref a0 :: st) := by
  subst hw
  have e1 : (nI sp).toNatClampNeg = sp := nI_clamp (by omega)
  have e2 : (nI dp).toNatClampNeg = dp := nI_clamp (by omega)
  have e3 : (nI k).toNatClampNeg = k := nI_clamp (by omega)
  have hnw : nativeFrameWords "java/lang/System" "arraycopy" 5 ≤ 40 := by decide +kernel
  exact fun H locs ls hP hD hS hl => va_copyi hc.1 hc.2.1 (by rw [hc.2.2.1]; exact hl.1.symm) hc.2.2.2.1 (hc.2.2.2.2.1 _ hl0) (hc.2.2.2.2.1 _ h1) (hc.2.2.2.2.1 _ h2) (hc.2.2.2.2.1 _ h3) hc.2.2.2.2.2.1.1 hP hD hS q0 q1 0 0 he0 he1 rfl rfl rfl (nI_pos (by omega)) (nI_pos (by omega)) (nI_pos (by omega)) (by rw [e1, e3]; exact hs) (by rw [e2, e3]; exact hd) (fun _ _ => rfl) hR.1 (by omega) d (fun H1 locs1 hP1 hD1 hS1 => kk H1 locs1 ls (by rw [e1, e2, e3] at hP1; exact hP1) (by rw [e1, e2, e3] at hD1; exact hD1) hS1 hl)
theorem zk_copyN (hc : KC g p s m args c cc n own A H0 meth) {idx : Nat} (hl0 : Cond.methodLink own idx arraycopyName ∈ wsL_law) (h1 : Cond.native arraycopyName ∈ wsL_law) (h2 : Cond.static arraycopyName ∈ wsL_law) (h3 : Cond.initialized "java/lang/System" ∈ wsL_law) (q0 q1 : Nat) {a0 a N0 N1 sp dp k : Nat} {f h : Nat → Nat} {ws2 : va_W} (he0 : ws[q0]? = some (a0, .inl (g.2.1, N0, .inl (aN f)))) (he1 : ws[q1]? = some (a, .inl (g.2.1, N1, .inl (aN h)))) (hN0 : N0 < 2147483648) (hN1 : N1 < 2147483648) (hs : sp + k ≤ N0) (hd : dp + k ≤ N1) (hR : 1 ≤ R.frames ∧ 60 ≤ R.locals) (hst : (st.map fun v => v.category).sum ≤ 8) (hw : ws.set q1 (a, .inl (g.2.1, N1, .inl (aN (va_cpy f h sp dp k)))) = ws2) (d : decode cc pc = .ok (.invokestatic idx, 3)) (kk : KW g p l e R s m args below meth c n A H0 cells slots Q ws2 lv (pc + 3) st) : KW g p l e R s m args below meth c n A H0 cells slots Q ws lv pc (.int (nI k) :: .int (nI dp) :: .ref a :: .int (nI sp) :: .ref a0 :: st) := zk_copy hc hl0 h1 h2 h3 q0 q1 he0 he1 hN0 hN1 hs hd hR hst (by rw [aN_cpy]; exact hw) d kk
theorem zk_min (hc : KC g p s m args c cc n own A H0 meth) {idx : Nat} (hl0 : Cond.methodLink own idx Lib.Math.min.name ∈ wsL_law) (h1 : Cond.static Lib.Math.min.name ∈ wsL_law) (h2 : Cond.initialized "java/lang/Math" ∈ wsL_law) (h3 : Cond.code Lib.Math.min.name Lib.Math.min.code 2 (some .int) ∈ wsL_law) (hR : 1 ≤ R.frames ∧ 60 ≤ R.locals ∧ cells ≤ R.cells ∧ slots ≤ R.slots) (hst : (st.map fun v => v.category).sum ≤ 8) {x y : Int32} (d : decode cc pc = .ok (.invokestatic idx, 3)) (kk : KW g p l e R s m args below meth c n A H0 cells slots Q ws lv (pc + 3) (.int (if y < x then y else x) :: st)) : KW g p l e R s m args below meth c n A H0 cells slots Q ws lv pc (.int y :: .int x :: st) := fun H locs ls hP hD hS hl => va_mmin hc.1 hc.2.1 (by rw [hc.2.2.1]; exact hl.1.symm) hc.2.2.2.1 (hc.2.2.2.2.1 _ hl0) (hc.2.2.2.2.1 _ h1) (hc.2.2.2.2.1 _ h2) (hc.2.2.2.2.1 _ h3) hR.1 (by omega) hR.2.2.1 hR.2.2.2 d (kk H locs ls hP hD hS hl)
theorem zk_max (hc : KC g p s m args c cc n own A H0 meth) {idx : Nat} (hl0 : Cond.methodLink own idx Lib.Math.max.name ∈ wsL_law) (h1 : Cond.static Lib.Math.max.name ∈ wsL_law) (h2 : Cond.initialized "java/lang/Math" ∈ wsL_law) (h3 : Cond.code Lib.Math.max.name Lib.Math.max.code 2 (some .int) ∈ wsL_law) (hR : 1 ≤ R.frames ∧ 60 ≤ R.locals ∧ cells ≤ R.cells ∧ slots ≤ R.slots) (hst : (st.map fun v => v.category).sum ≤ 8) {x y : Int32} (d : decode cc pc = .ok (.invokestatic idx, 3)) (kk : KW g p l e R s m args below meth c n A H0 cells slots Q ws lv (pc + 3) (.int (if x < y then y else x) :: st)) : KW g p l e R s m args below meth c n A H0 cells slots Q ws lv pc (.int y :: .int x :: st) := fun H locs ls hP hD hS hl => va_mmax hc.1 hc.2.1 (by rw [hc.2.2.1]; exact hl.1.symm) hc.2.2.2.1 (hc.2.2.2.2.1 _ hl0) (hc.2.2.2.2.1 _ h1) (hc.2.2.2.2.1 _ h2) (hc.2.2.2.2.1 _ h3) hR.1 (by omega) hR.2.2.1 hR.2.2.2 d (kk H locs ls hP hD hS hl)
theorem zk_abs (hc : KC g p s m args c cc n own A H0 meth) {idx : Nat} (hl0 : Cond.methodLink own idx Lib.Math.abs.name ∈ wsL_law) (h1 : Cond.static Lib.Math.abs.name ∈ wsL_law) (h2 : Cond.initialized "java/lang/Math" ∈ wsL_law) (h3 : Cond.code Lib.Math.abs.name Lib.Math.abs.code 1 (some .int) ∈ wsL_law) (hR : 1 ≤ R.frames ∧ 60 ≤ R.locals ∧ cells ≤ R.cells ∧ slots ≤ R.slots) (hst : (st.map fun v => v.category).sum ≤ 8) {x : Int32} (d : decode cc pc = .ok (.invokestatic idx, 3)) (kk : KW g p l e R s m args below meth c n A H0 cells slots Q ws lv (pc + 3) (.int (if 0 ≤ x then x else 0 - x) :: st)) : KW g p l e R s m args below meth c n A H0 cells slots Q ws lv pc (.int x :: st) := fun H locs ls hP hD hS hl => va_mabs hc.1 hc.2.1 (by rw [hc.2.2.1]; exact hl.1.symm) hc.2.2.2.1 (hc.2.2.2.2.1 _ hl0) (hc.2.2.2.2.1 _ h1) (hc.2.2.2.2.1 _ h2) (hc.2.2.2.2.1 _ h3) hR.1 (by omega) hR.2.2.1 hR.2.2.2 d (kk H locs ls hP hD hS hl)
theorem nq_min {x y : Nat} (hx : x < 2147483648) (hy : y < 2147483648) : (if nI y < nI x then nI y else nI x) = nI (Nat.min x y) := by
  by_cases h : y < x
  · rw [if_pos ((nI_ltI hy hx).mpr h), show Nat.min x y = y from Nat.min_eq_right (Nat.le_of_lt h)]
  · rw [if_neg (fun z => h ((nI_ltI hy hx).mp z)), show Nat.min x y = x from Nat.min_eq_left (Nat.not_lt.mp h)]
theorem zk_objInit (hc : KC g p s m args c cc n own A H0 meth) {idx a : Nat} (hl0 : Cond.methodLink own idx objectInit ∈ wsL_law) (h1 : Cond.instanceMethod objectInit ∈ wsL_law) (h2 : Cond.code objectInit ⟨#[0xb1]⟩ 1 none ∈ wsL_law) (hR : 1 ≤ R.frames ∧ 60 ≤ R.locals) (hst : (st.map fun v => v.category).sum ≤ 8) (d : decode cc pc = .ok (.invokespecial idx, 3)) (kk : KW g p l e R s m args below meth c n A H0 cells slots Q ws lv (pc + 3) st) : KW g p l e R s m args below meth c n A H0 cells slots Q ws lv pc (.ref a :: st) := fun H locs ls hP hD hS hl => W.objInit hc.1 hc.2.1 hc.2.2.2.1 (hc.2.2.2.2.1 _ hl0) (hc.2.2.2.2.1 _ h1) (hc.2.2.2.2.1 _ h2) rfl (by rw [hc.2.2.1]; exact hl.1) rfl d hR.1 (by have := lv_room (m := m) (pc := pc) (ls := ls) (rest := Value.ref a :: st) hst; omega) (W.eq (g2 := F0 m (pc + 3) ls st) rfl (kk H locs ls hP hD hS hl))
theorem zk_new (hc : KC g p s m args c cc n own A H0 meth) {C : String} {T : u_T} {N ci idx : Nat} (hin : ∀ w ∈ u_ws C T N, w ∈ wsL_law) (hcl : vwCl[ci]? = some (C, T, N)) (ty : Nat → FieldType) (hty : ∀ k, k < N → parseFieldDescriptor (T k).2.2.1 = some (ty k)) (h1 : Cond.classLink own idx C ∈ wsL_law) (h2 : Cond.instantiable C N ∈ wsL_law) (h3 : Cond.initialized C ∈ wsL_law) {fs : List Value} (hfs : ∀ j, j < N → defaultValue (ty j) = vp_V fs j) (hR : cells + 1 ≤ R.cells ∧ slots + N ≤ R.slots) (d : decode cc pc = .ok (.new idx, 3)) (kk : ∀ q : Nat, KW g p l e R s m args below meth c n A H0 (cells + 1) (slots + N) Q (ws ++ [(q, .inr (ci, fs))]) lv (pc + 3) (.ref q :: st)) : KW g p l e R s m args below meth c n A H0 cells slots Q ws lv pc st := fun H locs ls hP hD hS hl => va_new (ci := ci) (fs := fs) (T := T) hc.1 hc.2.1 hc.2.2.2.2.1 hin ty hty hc.2.2.2.1 (hc.2.2.2.2.1 _ h1) (hc.2.2.2.2.1 _ h2) (hc.2.2.2.2.1 _ h3) hc.2.2.2.2.2.1.1 hP hD hS hc.2.2.2.2.2.2.1 hcl hfs hR.1 hR.2 d (fun q H1 hP1 hD1 hS1 => kk q H1 locs ls hP1 hD1 hS1 hl)
theorem zk_newI (hc : KC g p s m args c cc n own A H0 meth) (h1 : Cond.arrayClass .int ∈ wsL_law) {k : Nat} (hk : k < 100000) (hR : cells + 1 ≤ R.cells ∧ slots + k ≤ R.slots) (d : decode cc pc = .ok (.newarray .int, 2)) (kk : ∀ q : Nat, KW g p l e R s m args below meth c n A H0 (cells + 1) (slots + k) Q (ws ++ [(q, .inl (g.2.1, k, .inl (aN (fun _ => 0))))]) lv (pc + 2) (.ref q :: st)) : KW g p l e R s m args below meth c n A H0 cells slots Q ws lv pc (.int (nI k) :: st) := fun H locs ls hP hD hS hl => va_newa (atype := .int) (ty := .int) (a0 := (k, .inl (aN (fun _ => 0)))) hc.1 hc.2.1 (hc.2.2.2.2.1 _ h1) rfl hc.2.2.2.2.2.1.1 hP hD hS hc.2.2.2.2.2.2.1 (fun cA => rfl) (nI_pos (by omega)) (nI_clamp (by omega)) (by show k * 4 ≤ _; omega) hR.1 hR.2 d (fun q cA H1 hK1 hP1 hD1 hS1 => by
  have e : cA = g.2.1 := by
    have a1 : s.vm.findClass ("[" ++ FieldType.int.toString) = some cA := (hK1.2 2 (cA, .int) rfl).2
    have a2 : s.vm.findClass ("[" ++ FieldType.int.toString) = some g.2.1 := (hK1.2 0 (g.2.1, .int) rfl).2
    exact Option.some.inj (a1.symm.trans a2)
  subst e
  exact kk q H1 locs ls hP1 hD1 hS1 hl)
theorem zk_newY (hc : KC g p s m args c cc n own A H0 meth) {idx : Nat} (h0 : Cond.classLink own idx "ShuntYard$Yard" ∈ wsL_law) (h1 : Cond.arrayOver (.object "ShuntYard$Yard") ∈ wsL_law) {k : Nat} (hk : k < 100000) (hR : cells + 1 ≤ R.cells ∧ slots + k ≤ R.slots) (d : decode cc pc = .ok (.anewarray idx, 3)) (kk : ∀ q : Nat, KW g p l e R s m args below meth c n A H0 (cells + 1) (slots + k) Q (ws ++ [(q, .inl (g.2.2, k, .inr (.inr (.inr (.inr (fun _ => none))))))]) lv (pc + 3) (.ref q :: st)) : KW g p l e R s m args below meth c n A H0 cells slots Q ws lv pc (.int (nI k) :: st) := fun H locs ls hP hD hS hl => va_newq (C := "ShuntYard$Yard") hc.1 hc.2.1 hc.2.2.2.1 (hc.2.2.2.2.1 _ h0) (va_AO.of (hc.2.2.2.2.1 _ h1)) hc.2.2.2.2.2.1.1 hP hD hS hc.2.2.2.2.2.2.1 (nI_pos (by omega)) (nI_clamp (by omega)) (by omega) hR.1 hR.2 d (fun q cA H1 hK1 hP1 hD1 hS1 => by
  have e : cA = g.2.2 := by
    obtain ⟨_, _, _, _, _, a1⟩ := (hK1.2 2 (cA, .object "ShuntYard$Yard") rfl).2
    obtain ⟨_, _, _, _, _, a2⟩ := (hK1.2 1 (g.2.2, .object "ShuntYard$Yard") rfl).2
    exact Option.some.inj (a1.symm.trans a2)
  subst e
  exact kk q H1 locs ls hP1 hD1 hS1 hl)
theorem zk_good : ∀ w ∈ wsL_law, ((w.onTables && w.keeps) = true ∨ ∃ ty, w = .arrayClass ty) := fun w hw => good_of_word (List.all_eq_true.mp (show wsL_law.all goodWord = true by decide +kernel) w hw)
theorem zk_gC {x : MethodName} {b : ByteArray} {k : Nat} {r : Option FieldType} (h : Cond.code x b k r ∈ wsL_law) : GoodIn wsL_law (.code x b k r :: wsL_law) := fun w hw => by
  rcases List.mem_cons.mp hw with rfl | h2
  · exact ⟨h, zk_good _ h⟩
  · exact ⟨h2, zk_good _ h2⟩
theorem zk_gV {own C : String} {idx : Nat} {x : MethodName} {b : ByteArray} {k : Nat} {r : Option FieldType} (h1 : Cond.methodLink own idx x ∈ wsL_law) (h2 : Cond.instanceMethod x ∈ wsL_law) (h3 : Cond.selects C x x ∈ wsL_law) (h4 : Cond.initialized C ∈ wsL_law) (h5 : Cond.code x b k r ∈ wsL_law) : GoodIn wsL_law (wsV own idx C x (.code x b k r :: wsL_law)) := by
  refine goodIn_app ?_ (zk_gC h5)
  intro w hw
  rcases List.mem_cons.mp hw with rfl | hw
  · exact ⟨h1, zk_good _ h1⟩
  rcases List.mem_cons.mp hw with rfl | hw
  · exact ⟨h2, zk_good _ h2⟩
  rcases List.mem_cons.mp hw with rfl | hw
  · exact ⟨h3, zk_good _ h3⟩
  rcases List.mem_cons.mp hw with rfl | hw
  · exact ⟨h4, zk_good _ h4⟩
  exact absurd hw List.not_mem_nil
theorem zk_gS {own : String} {idx : Nat} {x : MethodName} {b : ByteArray} {k : Nat} {r : Option FieldType} (h1 : Cond.methodLink own idx x ∈ wsL_law) (h2 : Cond.static x ∈ wsL_law) (h3 : Cond.initialized x.cls ∈ wsL_law) (h5 : Cond.code x b k r ∈ wsL_law) : GoodIn wsL_law (va_wsS own idx x (.code x b k r :: wsL_law)) := by
  refine goodIn_app ?_ (zk_gC h5)
  intro w hw
  rcases List.mem_cons.mp hw with rfl | hw
  · exact ⟨h1, zk_good _ h1⟩
  rcases List.mem_cons.mp hw with rfl | hw
  · exact ⟨h2, zk_good _ h2⟩
  rcases List.mem_cons.mp hw with rfl | hw
  · exact ⟨h3, zk_good _ h3⟩
  exact absurd hw List.not_mem_nil
theorem zk_callVi (hc : KC g p s m args c cc n own A H0 meth) {y : MethodName} {bytes : ByteArray} {maxL : Nat} {ret : Option FieldType} {rm : Room} {Wd : va_W} {As rest : List Value} {b : Nat} {post : Int32 → va_W → Prop} {idx : Nat} (hM : CtI g l y bytes maxL ret rm Wd (Value.ref b :: As) post) {C : String} (hG : GoodIn wsL_law (wsV own idx C y (.code y bytes maxL ret :: wsL_law))) (hd : y.cls = C ∧ y.cls ≠ "java/lang/invoke/MethodHandle" ∧ y.cls ≠ "java/lang/invoke/VarHandle" ∧ (parseMethodDescriptor y.desc).map (fun d => d.parameters.length) = some As.length) (hR : rm.frames + 1 ≤ R.frames ∧ 8 + (maxL + 11) + rm.locals ≤ R.locals) (hf : cells + rm.cells ≤ R.cells ∧ slots + rm.slots ≤ R.slots) (pre suf : va_W) (hw : ws = pre ++ (Wd ++ suf)) (q0 : Nat) {ci : Nat} {fs : List Value} {T : u_T} {N : Nat} (he : ws[q0]? = some (b, .inr (ci, fs))) (hcl : vwCl[ci]? = some (C, T, N)) (hstk : st = As.reverse ++ .ref b :: rest) (hroom : (rest.map fun v => v.category).sum ≤ 8) (d : decode cc pc = .ok (.invokevirtual idx, 3)) (kk : ∀ (r : Int32) (W1 : va_W), post r W1 → KW g p l e R s m args below meth c n A H0 (cells + rm.cells) (slots + rm.slots) Q (pre ++ (W1 ++ suf)) lv (pc + 3) (.int r :: rest)) : KW g p l e R s m args below meth c n A H0 cells slots Q ws lv pc st := by
  subst hw
  subst hstk
  intro H locs ls hP hD hS hl
  refine va_calli (va_runV (As := As) (rest := rest) ⟨hc.1, hc.2.1, hc.2.2.1, hc.2.2.2.1, hc.2.2.2.2.1⟩ (hM H.size) (cwV As.length hc.2.2.2.2.1 hG rfl rfl rfl hd hR) ⟨blindW, va_recv hc.2.2.2.2.2.1.1 hP hcl he, fun U hU hW => ⟨rfl, by rw [hU], by rw [hU]; exact zk_subP hP, VK.warm hc.2.2.2.2.2.1 hW, zk_subD hD⟩⟩ rfl rfl hl.1 rfl (lv_room hroom) d hf) hS (fun q _ h => zk_freeA hD hS hc.2.2.2.2.2.2.1 q h) (zk_freeA hD hS hc.2.2.2.2.2.2.1) (fun r u t H1 locs1 ht hvm hw1 hB hz1 hk1 hS1 => ?_)
  obtain ⟨hP1, hD1⟩ := hB
  rw [ht] at hP1
  obtain ⟨hP2, hD2⟩ := zk_join hP hD hk1 (zk_freeA hD hS hc.2.2.2.2.2.2.1) hP1 hD1
  exact kk r u hw1 H1 locs1 ls hP2 hD2 hS1 hl
theorem zk_callVv (hc : KC g p s m args c cc n own A H0 meth) {y : MethodName} {bytes : ByteArray} {maxL : Nat} {rm : Room} {Wd : va_W} {As rest : List Value} {b : Nat} {post : va_W → Prop} {idx : Nat} (hM : CtV g l y bytes maxL rm Wd (Value.ref b :: As) post) {C : String} (hG : GoodIn wsL_law (wsV own idx C y (.code y bytes maxL none :: wsL_law))) (hd : y.cls = C ∧ y.cls ≠ "java/lang/invoke/MethodHandle" ∧ y.cls ≠ "java/lang/invoke/VarHandle" ∧ (parseMethodDescriptor y.desc).map (fun d => d.parameters.length) = some As.length) (hR : rm.frames + 1 ≤ R.frames ∧ 8 + (maxL + 11) + rm.locals ≤ R.locals) (hf : cells + rm.cells ≤ R.cells ∧ slots + rm.slots ≤ R.slots) (pre suf : va_W) (hw : ws = pre ++ (Wd ++ suf)) (q0 : Nat) {ci : Nat} {fs : List Value} {T : u_T} {N : Nat} (he : ws[q0]? = some (b, .inr (ci, fs))) (hcl : vwCl[ci]? = some (C, T, N)) (hstk : st = As.reverse ++ .ref b :: rest) (hroom : (rest.map fun v => v.category).sum ≤ 8) (d : decode cc pc = .ok (.invokevirtual idx, 3)) (kk : ∀ (W1 : va_W), post W1 → KW g p l e R s m args below meth c n A H0 (cells + rm.cells) (slots + rm.slots) Q (pre ++ (W1 ++ suf)) lv (pc + 3) rest) : KW g p l e R s m args below meth c n A H0 cells slots Q ws lv pc st := by
  subst hw
  subst hstk
  intro H locs ls hP hD hS hl
  refine va_callv (va_runV (As := As) (rest := rest) ⟨hc.1, hc.2.1, hc.2.2.1, hc.2.2.2.1, hc.2.2.2.2.1⟩ (hM H.size) (cwV As.length hc.2.2.2.2.1 hG rfl rfl rfl hd hR) ⟨blindW, va_recv hc.2.2.2.2.2.1.1 hP hcl he, fun U hU hW => ⟨rfl, by rw [hU], by rw [hU]; exact zk_subP hP, VK.warm hc.2.2.2.2.2.1 hW, zk_subD hD⟩⟩ rfl rfl hl.1 rfl (lv_room hroom) d hf) hS (fun q _ h => zk_freeA hD hS hc.2.2.2.2.2.2.1 q h) (zk_freeA hD hS hc.2.2.2.2.2.2.1) (fun u t H1 locs1 ht hvm hw1 hB hz1 hk1 hS1 => ?_)
  obtain ⟨hP1, hD1⟩ := hB
  rw [ht] at hP1
  obtain ⟨hP2, hD2⟩ := zk_join hP hD hk1 (zk_freeA hD hS hc.2.2.2.2.2.2.1) hP1 hD1
  exact kk u hw1 H1 locs1 ls hP2 hD2 hS1 hl
theorem zk_callSi (hc : KC g p s m args c cc n own A H0 meth) {y : MethodName} {bytes : ByteArray} {maxL : Nat} {ret : Option FieldType} {rm : Room} {Wd : va_W} {As rest : List Value} {post : Int32 → va_W → Prop} {idx : Nat} (hM : CtI g l y bytes maxL ret rm Wd As post) (hG : GoodIn wsL_law (va_wsS own idx y (.code y bytes maxL ret :: wsL_law))) (hd : y.cls ≠ "java/lang/invoke/MethodHandle" ∧ y.cls ≠ "java/lang/invoke/VarHandle" ∧ (parseMethodDescriptor y.desc).map (fun d => d.parameters.length) = some As.length) (hR : rm.frames + 1 ≤ R.frames ∧ 8 + (maxL + 11) + rm.locals ≤ R.locals) (hf : cells + rm.cells ≤ R.cells ∧ slots + rm.slots ≤ R.slots) (pre suf : va_W) (hw : ws = pre ++ (Wd ++ suf)) (hstk : st = As.reverse ++ rest) (hroom : (rest.map fun v => v.category).sum ≤ 8) (d : decode cc pc = .ok (.invokestatic idx, 3)) (kk : ∀ (r : Int32) (W1 : va_W), post r W1 → KW g p l e R s m args below meth c n A H0 (cells + rm.cells) (slots + rm.slots) Q (pre ++ (W1 ++ suf)) lv (pc + 3) (.int r :: rest)) : KW g p l e R s m args below meth c n A H0 cells slots Q ws lv pc st := by
  subst hw
  subst hstk
  intro H locs ls hP hD hS hl
  refine va_calli (va_runS (As := As) (rest := rest) ⟨hc.1, hc.2.1, hc.2.2.1, hc.2.2.2.1, hc.2.2.2.2.1⟩ (hM H.size) (va_cwS As.length hc.2.2.2.2.1 hG rfl rfl rfl hd hR) ⟨blindW, fun U hU hW => ⟨rfl, by rw [hU], by rw [hU]; exact zk_subP hP, VK.warm hc.2.2.2.2.2.1 hW, zk_subD hD⟩⟩ rfl rfl hl.1 rfl (lv_room hroom) d hf) hS (fun q _ h => zk_freeA hD hS hc.2.2.2.2.2.2.1 q h) (zk_freeA hD hS hc.2.2.2.2.2.2.1) (fun r u t H1 locs1 ht hvm hw1 hB hz1 hk1 hS1 => ?_)
  obtain ⟨hP1, hD1⟩ := hB
  rw [ht] at hP1
  obtain ⟨hP2, hD2⟩ := zk_join hP hD hk1 (zk_freeA hD hS hc.2.2.2.2.2.2.1) hP1 hD1
  exact kk r u hw1 H1 locs1 ls hP2 hD2 hS1 hl
theorem zk_callSv (hc : KC g p s m args c cc n own A H0 meth) {y : MethodName} {bytes : ByteArray} {maxL : Nat} {rm : Room} {Wd : va_W} {As rest : List Value} {post : va_W → Prop} {idx : Nat} (hM : CtV g l y bytes maxL rm Wd As post) (hG : GoodIn wsL_law (va_wsS own idx y (.code y bytes maxL none :: wsL_law))) (hd : y.cls ≠ "java/lang/invoke/MethodHandle" ∧ y.cls ≠ "java/lang/invoke/VarHandle" ∧ (parseMethodDescriptor y.desc).map (fun d => d.parameters.length) = some As.length) (hR : rm.frames + 1 ≤ R.frames ∧ 8 + (maxL + 11) + rm.locals ≤ R.locals) (hf : cells + rm.cells ≤ R.cells ∧ slots + rm.slots ≤ R.slots) (pre suf : va_W) (hw : ws = pre ++ (Wd ++ suf)) (hstk : st = As.reverse ++ rest) (hroom : (rest.map fun v => v.category).sum ≤ 8) (d : decode cc pc = .ok (.invokestatic idx, 3)) (kk : ∀ (W1 : va_W), post W1 → KW g p l e R s m args below meth c n A H0 (cells + rm.cells) (slots + rm.slots) Q (pre ++ (W1 ++ suf)) lv (pc + 3) rest) : KW g p l e R s m args below meth c n A H0 cells slots Q ws lv pc st := by
  subst hw
  subst hstk
  intro H locs ls hP hD hS hl
  refine va_callv (va_runS (As := As) (rest := rest) ⟨hc.1, hc.2.1, hc.2.2.1, hc.2.2.2.1, hc.2.2.2.2.1⟩ (hM H.size) (va_cwS As.length hc.2.2.2.2.1 hG rfl rfl rfl hd hR) ⟨blindW, fun U hU hW => ⟨rfl, by rw [hU], by rw [hU]; exact zk_subP hP, VK.warm hc.2.2.2.2.2.1 hW, zk_subD hD⟩⟩ rfl rfl hl.1 rfl (lv_room hroom) d hf) hS (fun q _ h => zk_freeA hD hS hc.2.2.2.2.2.2.1 q h) (zk_freeA hD hS hc.2.2.2.2.2.2.1) (fun u t H1 locs1 ht hvm hw1 hB hz1 hk1 hS1 => ?_)
  obtain ⟨hP1, hD1⟩ := hB
  rw [ht] at hP1
  obtain ⟨hP2, hD2⟩ := zk_join hP hD hk1 (zk_freeA hD hS hc.2.2.2.2.2.2.1) hP1 hD1
  exact kk u hw1 H1 locs1 ls hP2 hD2 hS1 hl
theorem zk_callNi (hc : KC g p s m args c cc n own A H0 meth) {y : MethodName} {bytes : ByteArray} {maxL : Nat} {ret : Option FieldType} {rm : Room} {Wd : va_W} {As rest : List Value} {post : Int32 → va_W → Prop} {idx : Nat} (hM : CtI g l y bytes maxL ret rm Wd As post) {host : String} (hnl : (own, idx, y, host) ∈ NLs) (hcd : Cond.code y bytes maxL ret ∈ wsL_law) (hst0 : Cond.static y ∈ wsL_law) (hini : Cond.initialized y.cls ∈ wsL_law) (hd : y.cls ≠ "java/lang/invoke/MethodHandle" ∧ y.cls ≠ "java/lang/invoke/VarHandle" ∧ (parseMethodDescriptor y.desc).map (fun d => d.parameters.length) = some As.length) (hR : rm.frames + 1 ≤ R.frames ∧ 8 + (maxL + 11) + rm.locals ≤ R.locals) (hf : cells + rm.cells ≤ R.cells ∧ slots + rm.slots ≤ R.slots) (pre suf : va_W) (hw : ws = pre ++ (Wd ++ suf)) (hstk : st = As.reverse ++ rest) (hroom : (rest.map fun v => v.category).sum ≤ 8) (d : decode cc pc = .ok (.invokestatic idx, 3)) (kk : ∀ (r : Int32) (W1 : va_W), post r W1 → KW g p l e R s m args below meth c n A H0 (cells + rm.cells) (slots + rm.slots) Q (pre ++ (W1 ++ suf)) lv (pc + 3) (.int r :: rest)) : KW g p l e R s m args below meth c n A H0 cells slots Q ws lv pc st := by
  subst hw
  subst hstk
  intro H locs ls hP hD hS hl
  refine va_calli (va_runSN (As := As) (rest := rest) ⟨hc.1, hc.2.1, hc.2.2.1, hc.2.2.2.1, hc.2.2.2.2.1⟩ (hM H.size) ⟨va_cnB (host := host) As.length hc.2.2.2.2.1 (zk_gC hcd) rfl rfl rfl (hc.2.2.2.2.2.1.2 (own, idx, y, host) hnl) (hc.2.2.2.2.1 _ hini) hd hR, hc.2.2.2.2.1 _ hst0, trivial⟩ ⟨blindW, fun U hU hW => ⟨rfl, by rw [hU], by rw [hU]; exact zk_subP hP, VK.warm hc.2.2.2.2.2.1 hW, zk_subD hD⟩⟩ rfl rfl hl.1 rfl (lv_room hroom) d hf) hS (fun q _ h => zk_freeA hD hS hc.2.2.2.2.2.2.1 q h) (zk_freeA hD hS hc.2.2.2.2.2.2.1) (fun r u t H1 locs1 ht hvm hw1 hB hz1 hk1 hS1 => ?_)
  obtain ⟨hP1, hD1⟩ := hB
  rw [ht] at hP1
  obtain ⟨hP2, hD2⟩ := zk_join hP hD hk1 (zk_freeA hD hS hc.2.2.2.2.2.2.1) hP1 hD1
  exact kk r u hw1 H1 locs1 ls hP2 hD2 hS1 hl
theorem zk_callIv (hc : KC g p s m args c cc n own A H0 meth) {y : MethodName} {bytes : ByteArray} {maxL : Nat} {rm : Room} {Wd : va_W} {As rest : List Value} {b : Nat} {post : va_W → Prop} {idx : Nat} (hM : CtV g l y bytes maxL rm Wd (Value.ref b :: As) post) (hml0 : Cond.methodLink own idx y ∈ wsL_law) (hcd : Cond.code y bytes maxL none ∈ wsL_law) (hst0 : Cond.instanceMethod y ∈ wsL_law) (hini : Cond.initialized y.cls ∈ wsL_law) (hnm : y.name = "<init>") (hd : y.cls ≠ "java/lang/invoke/MethodHandle" ∧ y.cls ≠ "java/lang/invoke/VarHandle" ∧ (parseMethodDescriptor y.desc).map (fun d => d.parameters.length) = some As.length) (hR : rm.frames + 1 ≤ R.frames ∧ 8 + (maxL + 11) + rm.locals ≤ R.locals) (hf : cells + rm.cells ≤ R.cells ∧ slots + rm.slots ≤ R.slots) (pre suf : va_W) (hw : ws = pre ++ (Wd ++ suf)) (hstk : st = As.reverse ++ .ref b :: rest) (hroom : (rest.map fun v => v.category).sum ≤ 8) (d : decode cc pc = .ok (.invokespecial idx, 3)) (kk : ∀ (W1 : va_W), post W1 → KW g p l e R s m args below meth c n A H0 (cells + rm.cells) (slots + rm.slots) Q (pre ++ (W1 ++ suf)) lv (pc + 3) rest) : KW g p l e R s m args below meth c n A H0 cells slots Q ws lv pc st := by
  subst hw
  subst hstk
  intro H locs ls hP hD hS hl
  refine va_callv (va_runI (As := As) (rest := rest) ⟨hc.1, hc.2.1, hc.2.2.1, hc.2.2.2.1, hc.2.2.2.2.1⟩ (hM H.size) (cwI As.length hc.2.2.2.2.1 (zk_gC hcd) rfl rfl rfl (hc.2.2.2.2.1 _ hini) (hc.2.2.2.2.1 _ hml0) (hc.2.2.2.2.1 _ hst0) hnm hd hR) ⟨blindW, fun U hU hW => ⟨rfl, by rw [hU], by rw [hU]; exact zk_subP hP, VK.warm hc.2.2.2.2.2.1 hW, zk_subD hD⟩⟩ rfl rfl hl.1 rfl (lv_room hroom) d hf) hS (fun q _ h => zk_freeA hD hS hc.2.2.2.2.2.2.1 q h) (zk_freeA hD hS hc.2.2.2.2.2.2.1) (fun u t H1 locs1 ht hvm hw1 hB hz1 hk1 hS1 => ?_)
  obtain ⟨hP1, hD1⟩ := hB
  rw [ht] at hP1
  obtain ⟨hP2, hD2⟩ := zk_join hP hD hk1 (zk_freeA hD hS hc.2.2.2.2.2.2.1) hP1 hD1
  exact kk u hw1 H1 locs1 ls hP2 hD2 hS1 hl
theorem zk_callJv (hc : KC g p s m args c cc n own A H0 meth) {y : MethodName} {bytes : ByteArray} {maxL : Nat} {rm : Room} {Wd : va_W} {As rest : List Value} {b : Nat} {post : va_W → Prop} {idx : Nat} (hM : CtV g l y bytes maxL rm Wd (Value.ref b :: As) post) {host : String} (hnl : (own, idx, y, host) ∈ NLs) (hcd : Cond.code y bytes maxL none ∈ wsL_law) (hst0 : Cond.instanceMethod y ∈ wsL_law) (hini : Cond.initialized y.cls ∈ wsL_law) (hnm : y.name = "<init>") (hd : y.cls ≠ "java/lang/invoke/MethodHandle" ∧ y.cls ≠ "java/lang/invoke/VarHandle" ∧ (parseMethodDescriptor y.desc).map (fun d => d.parameters.length) = some As.length) (hR : rm.frames + 1 ≤ R.frames ∧ 8 + (maxL + 11) + rm.locals ≤ R.locals) (hf : cells + rm.cells ≤ R.cells ∧ slots + rm.slots ≤ R.slots) (pre suf : va_W) (hw : ws = pre ++ (Wd ++ suf)) (hstk : st = As.reverse ++ .ref b :: rest) (hroom : (rest.map fun v => v.category).sum ≤ 8) (d : decode cc pc = .ok (.invokespecial idx, 3)) (kk : ∀ (W1 : va_W), post W1 → KW g p l e R s m args below meth c n A H0 (cells + rm.cells) (slots + rm.slots) Q (pre ++ (W1 ++ suf)) lv (pc + 3) rest) : KW g p l e R s m args below meth c n A H0 cells slots Q ws lv pc st := by
  subst hw
  subst hstk
  intro H locs ls hP hD hS hl
  refine va_callv (va_runIN (As := As) (rest := rest) ⟨hc.1, hc.2.1, hc.2.2.1, hc.2.2.2.1, hc.2.2.2.2.1⟩ (hM H.size) ⟨va_cnB (host := host) As.length hc.2.2.2.2.1 (zk_gC hcd) rfl rfl rfl (hc.2.2.2.2.2.1.2 (own, idx, y, host) hnl) (hc.2.2.2.2.1 _ hini) hd hR, hnm, hc.2.2.2.2.1 _ hst0⟩ ⟨blindW, fun U hU hW => ⟨rfl, by rw [hU], by rw [hU]; exact zk_subP hP, VK.warm hc.2.2.2.2.2.1 hW, zk_subD hD⟩⟩ rfl rfl hl.1 rfl (lv_room hroom) d hf) hS (fun q _ h => zk_freeA hD hS hc.2.2.2.2.2.2.1 q h) (zk_freeA hD hS hc.2.2.2.2.2.2.1) (fun u t H1 locs1 ht hvm hw1 hB hz1 hk1 hS1 => ?_)
  obtain ⟨hP1, hD1⟩ := hB
  rw [ht] at hP1
  obtain ⟨hP2, hD2⟩ := zk_join hP hD hk1 (zk_freeA hD hS hc.2.2.2.2.2.2.1) hP1 hD1
  exact kk u hw1 H1 locs1 ls hP2 hD2 hS1 hl
theorem zk_iret {Wd : va_W} {rm : Room} {post : Int32 → va_W → Prop} {v : Int32} (hc : KC g p s m args c cc n own (va_A Wd s.heap.size) s.heap meth) (hr : meth.sig.returnType = some .int) (h1 : cells ≤ rm.cells ∧ slots ≤ rm.slots) (d : decode cc pc = .ok (.ireturn, 1)) (hp : post v ws) : KW g p l e R s m args below meth c n (va_A Wd s.heap.size) s.heap cells slots (MQ below (va_Qi post (PostW g Wd s.heap.size) (va_A Wd s.heap.size)) args s rm.cells rm.slots (va_A Wd s.heap.size)) ws lv pc [.int v] := fun H locs ls hP hD hS hl => W.widen h1.1 h1.2 (W.iret hc.1 hc.2.1 hr (fun t ht hW => ⟨⟨v, ws, rfl, hp, by rw [ht]; exact hP, hD⟩, hS.F ht⟩) hS.2.2 d hc.2.2.2.2.2.2.2)
theorem zk_zret {Wd : va_W} {rm : Room} {post : Int32 → va_W → Prop} {v : Int32} (hc : KC g p s m args c cc n own (va_A Wd s.heap.size) s.heap meth) (hr : meth.sig.returnType = some .boolean) (h1 : cells ≤ rm.cells ∧ slots ≤ rm.slots) (d : decode cc pc = .ok (.ireturn, 1)) (hv : narrow .boolean (.int v) = .int v) (hp : post v ws) : KW g p l e R s m args below meth c n (va_A Wd s.heap.size) s.heap cells slots (MQ below (va_Qi post (PostW g Wd s.heap.size) (va_A Wd s.heap.size)) args s rm.cells rm.slots (va_A Wd s.heap.size)) ws lv pc [.int v] := fun H locs ls hP hD hS hl => W.widen h1.1 h1.2 (W.zret hc.1 hc.2.1 hr hv (fun t ht hW => ⟨⟨v, ws, rfl, hp, by rw [ht]; exact hP, hD⟩, hS.F ht⟩) hS.2.2 d hc.2.2.2.2.2.2.2)
theorem zk_vret {Wd : va_W} {rm : Room} {post : va_W → Prop} (hc : KC g p s m args c cc n own (va_A Wd s.heap.size) s.heap meth) (hr : meth.sig.returnType = none) (h1 : cells ≤ rm.cells ∧ slots ≤ rm.slots) (d : decode cc pc = .ok (.return_, 1)) (hp : post ws) : KW g p l e R s m args below meth c n (va_A Wd s.heap.size) s.heap cells slots (MQ below (va_Qv post (PostW g Wd s.heap.size) (va_A Wd s.heap.size)) args s rm.cells rm.slots (va_A Wd s.heap.size)) ws lv pc [] := fun H locs ls hP hD hS hl => W.widen h1.1 h1.2 (W.vret hc.1 hc.2.1 hr (fun t ht hW => ⟨⟨ws, rfl, hp, by rw [ht]; exact hP, hD⟩, hS.F ht⟩) hS.2.2 d hc.2.2.2.2.2.2.2)
end KL
theorem CtI.of {g : GG} {l : Launch} {y : MethodName} {bytes : ByteArray} {maxL : Nat} {ret : Option FieldType} {rm : Room} {Wd : va_W} {As : List Value} {post : Int32 → va_W → Prop} (hy : plainName y.cls = true) (hn : (lg_sl As).length ≤ maxL) (body : ∀ (p : Program) (e : Env) (s : State) (m : MethodId) (args : Array Value) (below : List Frame) (meth : Method) (c : Code), KC g p s m args c bytes maxL y.cls (va_A Wd s.heap.size) s.heap meth → meth.sig.returnType = ret → meth.name = y.name → KW g p l e rm s m args below meth c maxL (va_A Wd s.heap.size) s.heap 0 0 (MQ below (va_Qi post (PostW g Wd s.heap.size) (va_A Wd s.heap.size)) args s rm.cells rm.slots (va_A Wd s.heap.size)) Wd (lv_args 0 As) 0 []) : CtI g l y bytes maxL ret rm Wd As post := by
  intro sz
  refine Met.ofW (cc := bytes) (maxL := maxL) (ret := ret) hy rfl ?_
  intro p e s m args below meth c s₁ B hml hv
  obtain ⟨rfl, hsz, hP, hK, hD0⟩ := hv
  subst hsz
  have hts := atoms_spec (ws := Cond.code y bytes maxL ret :: wsL_law) B.pre
  have hl := lv_entry As hn
  rw [lg_entry_eq]
  exact body p e s m _ below meth c ⟨B.exec, B.bytes, hml, findClass_of_methodNamed B.named, fun w hw => hts w (List.mem_cons_of_mem _ hw), hK, fun q h => Or.inr h, B.notSynchronized⟩ B.returns (name_of_methodNamed B.named B.method).1 s.heap [] _ hP hD0.self va_S.rf hl
theorem CtV.of {g : GG} {l : Launch} {y : MethodName} {bytes : ByteArray} {maxL : Nat} {rm : Room} {Wd : va_W} {As : List Value} {post : va_W → Prop} (hy : plainName y.cls = true) (hn : (lg_sl As).length ≤ maxL) (body : ∀ (p : Program) (e : Env) (s : State) (m : MethodId) (args : Array Value) (below : List Frame) (meth : Method) (c : Code), KC g p s m args c bytes maxL y.cls (va_A Wd s.heap.size) s.heap meth → meth.sig.returnType = none → meth.name = y.name → KW g p l e rm s m args below meth c maxL (va_A Wd s.heap.size) s.heap 0 0 (MQ below (va_Qv post (PostW g Wd s.heap.size) (va_A Wd s.heap.size)) args s rm.cells rm.slots (va_A Wd s.heap.size)) Wd (lv_args 0 As) 0 []) : CtV g l y bytes maxL rm Wd As post := by
  intro sz
  refine Met.ofW (cc := bytes) (maxL := maxL) (ret := none) hy rfl ?_
  intro p e s m args below meth c s₁ B hml hv
  obtain ⟨rfl, hsz, hP, hK, hD0⟩ := hv
  subst hsz
  have hts := atoms_spec (ws := Cond.code y bytes maxL none :: wsL_law) B.pre
  have hl := lv_entry As hn
  rw [lg_entry_eq]
  exact body p e s m _ below meth c ⟨B.exec, B.bytes, hml, findClass_of_methodNamed B.named, fun w hw => hts w (List.mem_cons_of_mem _ hw), hK, fun q h => Or.inr h, B.notSynchronized⟩ B.returns (name_of_methodNamed B.named B.method).1 s.heap [] _ hP hD0.self va_S.rf hl
abbrev rmK (k mc ms : Nat) : Room := { frames := k, cells := mc, slots := ms, locals := 60 * k }
theorem nq_inc {x k : Nat} {dd : Int} (h : Int32.ofInt dd = nI k) : nI x + Int32.ofInt dd = nI (x + k) := by rw [h, nI_add]
theorem nq_dec {x : Nat} {dd : Int} (h : Int32.ofInt dd = -1) (h1 : 1 ≤ x) : nI x + Int32.ofInt dd = nI (x - 1) := by
  obtain ⟨z, rfl⟩ : ∃ z, x = z + 1 := ⟨x - 1, by omega⟩
  rw [h, pk_m1, Nat.add_sub_cancel]
theorem CtI.go {g : GG} {l : Launch} {y : MethodName} {bytes : ByteArray} {maxL : Nat} {rm : Room} {Wd : va_W} {As : List Value} {post : Int32 → va_W → Prop} (own : String) (ho : y.cls = own) (hy : plainName y.cls = true) (hn : (lg_sl As).length ≤ maxL) (body : ∀ (p : Program) (e : Env) (s : State) (m : MethodId) (args : Array Value) (below : List Frame) (meth : Method) (c : Code) (A : Nat → Prop) (H0 : Heap) (Q : State → Prop), KC g p s m args c bytes maxL own A H0 meth → meth.name = y.name → (∀ (cells slots : Nat) (ws : va_W) (lv : List (Nat × Value)) (pc : Nat) (v : Int32), cells ≤ rm.cells → slots ≤ rm.slots → decode bytes pc = .ok (.ireturn, 1) → post v ws → KW g p l e rm s m args below meth c maxL A H0 cells slots Q ws lv pc [.int v]) → KW g p l e rm s m args below meth c maxL A H0 0 0 Q Wd (lv_args 0 As) 0 []) : CtI g l y bytes maxL (some .int) rm Wd As post := by
  subst ho
  refine CtI.of hy hn ?_
  intro p e s m args below meth c hc hr hnm
  exact body p e s m args below meth c _ _ _ hc hnm (fun cells slots ws lv pc v h1 h2 d hp => zk_iret hc hr ⟨h1, h2⟩ d hp)
theorem CtZ.go {g : GG} {l : Launch} {y : MethodName} {bytes : ByteArray} {maxL : Nat} {rm : Room} {Wd : va_W} {As : List Value} {post : Int32 → va_W → Prop} (own : String) (ho : y.cls = own) (hy : plainName y.cls = true) (hn : (lg_sl As).length ≤ maxL) (body : ∀ (p : Program) (e : Env) (s : State) (m : MethodId) (args : Array Value) (below : List Frame) (meth : Method) (c : Code) (A : Nat → Prop) (H0 : Heap) (Q : State → Prop), KC g p s m args c bytes maxL own A H0 meth → meth.name = y.name → (∀ (cells slots : Nat) (ws : va_W) (lv : List (Nat × Value)) (pc : Nat) (v : Int32), cells ≤ rm.cells → slots ≤ rm.slots → decode bytes pc = .ok (.ireturn, 1) → narrow .boolean (.int v) = .int v → post v ws → KW g p l e rm s m args below meth c maxL A H0 cells slots Q ws lv pc [.int v]) → KW g p l e rm s m args below meth c maxL A H0 0 0 Q Wd (lv_args 0 As) 0 []) : CtI g l y bytes maxL (some .boolean) rm Wd As post := by
  subst ho
  refine CtI.of hy hn ?_
  intro p e s m args below meth c hc hr hnm
  exact body p e s m args below meth c _ _ _ hc hnm (fun cells slots ws lv pc v h1 h2 d hv hp => zk_zret hc hr ⟨h1, h2⟩ d hv hp)
theorem CtV.go {g : GG} {l : Launch} {y : MethodName} {bytes : ByteArray} {maxL : Nat} {rm : Room} {Wd : va_W} {As : List Value} {post : va_W → Prop} (own : String) (ho : y.cls = own) (hy : plainName y.cls = true) (hn : (lg_sl As).length ≤ maxL) (body : ∀ (p : Program) (e : Env) (s : State) (m : MethodId) (args : Array Value) (below : List Frame) (meth : Method) (c : Code) (A : Nat → Prop) (H0 : Heap) (Q : State → Prop), KC g p s m args c bytes maxL own A H0 meth → meth.name = y.name → (∀ (cells slots : Nat) (ws : va_W) (lv : List (Nat × Value)) (pc : Nat), cells ≤ rm.cells → slots ≤ rm.slots → decode bytes pc = .ok (.return_, 1) → post ws → KW g p l e rm s m args below meth c maxL A H0 cells slots Q ws lv pc []) → KW g p l e rm s m args below meth c maxL A H0 0 0 Q Wd (lv_args 0 As) 0 []) : CtV g l y bytes maxL rm Wd As post := by
  subst ho
  refine CtV.of hy hn ?_
  intro p e s m args below meth c hc hr hnm
  exact body p e s m args below meth c _ _ _ hc hnm (fun cells slots ws lv pc h1 h2 d hp => zk_vret hc hr ⟨h1, h2⟩ d hp)
end
section
theorem mw_10_0 : Cond.fieldLink RX5 111 "ShuntYard$Gaps" "least" "I" ∈ wsL_law := mw_in10 (List.mem_of_getElem? (i := 0) rfl)
theorem mw_10_1 : Cond.methodLink RX5 104 yX0_start ∈ wsL_law := mw_in10 (List.mem_of_getElem? (i := 1) rfl)
theorem mw_10_10 : Cond.selects RX5 yX5_passPart yX5_passPart ∈ wsL_law := mw_in10 (List.mem_of_getElem? (i := 10) rfl)
theorem mw_10_11 : Cond.code yX5_passPart cX5_passPart 5 none ∈ wsL_law := mw_in10 (List.mem_of_getElem? (i := 11) rfl)
theorem mw_10_12 : Cond.methodLink RX5 78 yX5_wagonAt ∈ wsL_law := mw_in10 (List.mem_of_getElem? (i := 12) rfl)
theorem mw_10_13 : Cond.instanceMethod yX5_wagonAt ∈ wsL_law := mw_in10 (List.mem_of_getElem? (i := 13) rfl)
theorem mw_10_14 : Cond.selects RX5 yX5_wagonAt yX5_wagonAt ∈ wsL_law := mw_in10 (List.mem_of_getElem? (i := 14) rfl)
theorem mw_10_15 : Cond.code yX5_wagonAt cX5_wagonAt 3 (some .int) ∈ wsL_law := mw_in10 (List.mem_of_getElem? (i := 15) rfl)
theorem mw_10_16 : Cond.static yX6_kindOf ∈ wsL_law := mw_in10 (List.mem_of_getElem? (i := 16) rfl)
theorem mw_10_17 : Cond.code yX6_kindOf cX6_kindOf 1 (some .int) ∈ wsL_law := mw_in10 (List.mem_of_getElem? (i := 17) rfl)
theorem mw_10_18 : Cond.methodLink RX5 114 yX0_pass ∈ wsL_law := mw_in10 (List.mem_of_getElem? (i := 18) rfl)
theorem mw_10_19 : Cond.instanceMethod yX0_pass ∈ wsL_law := mw_in10 (List.mem_of_getElem? (i := 19) rfl)
theorem mw_10_2 : Cond.instanceMethod yX0_start ∈ wsL_law := mw_in10 (List.mem_of_getElem? (i := 2) rfl)
theorem mw_10_20 : Cond.selects RX0 yX0_pass yX0_pass ∈ wsL_law := mw_in10 (List.mem_of_getElem? (i := 20) rfl)
theorem mw_10_21 : Cond.code yX0_pass cX0_pass 2 none ∈ wsL_law := mw_in10 (List.mem_of_getElem? (i := 21) rfl)
theorem mw_10_22 : Cond.methodLink RX0 21 Lib.Math.min.name ∈ wsL_law := mw_in10 (List.mem_of_getElem? (i := 22) rfl)
theorem mw_10_23 : Cond.methodLink RX6 96 yX5_takeIn ∈ wsL_law := mw_in10 (List.mem_of_getElem? (i := 23) rfl)
theorem mw_10_3 : Cond.selects RX0 yX0_start yX0_start ∈ wsL_law := mw_in10 (List.mem_of_getElem? (i := 3) rfl)
theorem mw_10_4 : Cond.code yX0_start cX0_start 1 none ∈ wsL_law := mw_in10 (List.mem_of_getElem? (i := 4) rfl)
theorem mw_10_5 : Cond.fieldLink RX0 11 "ShuntYard$Gaps" "least" "I" ∈ wsL_law := mw_in10 (List.mem_of_getElem? (i := 5) rfl)
theorem mw_10_6 : Cond.fieldLink RX0 15 "ShuntYard$Gaps" "latestDanger" "I" ∈ wsL_law := mw_in10 (List.mem_of_getElem? (i := 6) rfl)
theorem mw_10_7 : Cond.fieldLink RX0 18 "ShuntYard$Gaps" "between" "I" ∈ wsL_law := mw_in10 (List.mem_of_getElem? (i := 7) rfl)
theorem mw_10_8 : Cond.methodLink RX5 107 yX5_passPart ∈ wsL_law := mw_in10 (List.mem_of_getElem? (i := 8) rfl)
theorem mw_10_9 : Cond.instanceMethod yX5_passPart ∈ wsL_law := mw_in10 (List.mem_of_getElem? (i := 9) rfl)
theorem mw_11_0 : Cond.instanceMethod yX5_takeIn ∈ wsL_law := mw_in11 (List.mem_of_getElem? (i := 0) rfl)
theorem mw_11_1 : Cond.selects RX5 yX5_takeIn yX5_takeIn ∈ wsL_law := mw_in11 (List.mem_of_getElem? (i := 1) rfl)
theorem mw_11_10 : Cond.methodLink RX7 89 yX7_isTrack ∈ wsL_law := mw_in11 (List.mem_of_getElem? (i := 10) rfl)
theorem mw_11_11 : Cond.instanceMethod yX7_isTrack ∈ wsL_law := mw_in11 (List.mem_of_getElem? (i := 11) rfl)
theorem mw_11_12 : Cond.selects RX7 yX7_isTrack yX7_isTrack ∈ wsL_law := mw_in11 (List.mem_of_getElem? (i := 12) rfl)
theorem mw_11_13 : Cond.code yX7_isTrack cX7_isTrack 2 (some .boolean) ∈ wsL_law := mw_in11 (List.mem_of_getElem? (i := 13) rfl)
theorem mw_11_14 : Cond.methodLink RX7 148 yX7_readWagons ∈ wsL_law := mw_in11 (List.mem_of_getElem? (i := 14) rfl)
theorem mw_11_15 : Cond.instanceMethod yX7_readWagons ∈ wsL_law := mw_in11 (List.mem_of_getElem? (i := 15) rfl)
theorem mw_11_16 : Cond.selects RX7 yX7_readWagons yX7_readWagons ∈ wsL_law := mw_in11 (List.mem_of_getElem? (i := 16) rfl)
theorem mw_11_17 : Cond.code yX7_readWagons cX7_readWagons 7 none ∈ wsL_law := mw_in11 (List.mem_of_getElem? (i := 17) rfl)
theorem mw_11_18 : Cond.fieldLink RX7 142 "ShuntYardModel" "length" "I" ∈ wsL_law := mw_in11 (List.mem_of_getElem? (i := 18) rfl)
theorem mw_11_19 : Cond.fieldLink RX7 130 "ShuntYardModel" "wrongKind" "I" ∈ wsL_law := mw_in11 (List.mem_of_getElem? (i := 19) rfl)
theorem mw_11_2 : Cond.code yX5_takeIn cX5_takeIn 5 none ∈ wsL_law := mw_in11 (List.mem_of_getElem? (i := 2) rfl)
theorem mw_11_20 : Cond.methodLink RX7 136 yX7_fails ∈ wsL_law := mw_in11 (List.mem_of_getElem? (i := 20) rfl)
theorem mw_11_21 : Cond.instanceMethod yX7_fails ∈ wsL_law := mw_in11 (List.mem_of_getElem? (i := 21) rfl)
theorem mw_11_22 : Cond.selects RX7 yX7_fails yX7_fails ∈ wsL_law := mw_in11 (List.mem_of_getElem? (i := 22) rfl)
theorem mw_11_23 : Cond.code yX7_fails cX7_fails 3 none ∈ wsL_law := mw_in11 (List.mem_of_getElem? (i := 23) rfl)
theorem mw_11_3 : Cond.static yX6_destinationOf ∈ wsL_law := mw_in11 (List.mem_of_getElem? (i := 3) rfl)
theorem mw_11_4 : Cond.code yX6_destinationOf cX6_destinationOf 1 (some .int) ∈ wsL_law := mw_in11 (List.mem_of_getElem? (i := 4) rfl)
theorem mw_11_5 : Cond.methodLink RL 26 yX7_arrive ∈ wsL_law := mw_in11 (List.mem_of_getElem? (i := 5) rfl)
theorem mw_11_6 : Cond.instanceMethod yX7_arrive ∈ wsL_law := mw_in11 (List.mem_of_getElem? (i := 6) rfl)
theorem mw_11_7 : Cond.selects RX7 yX7_arrive yX7_arrive ∈ wsL_law := mw_in11 (List.mem_of_getElem? (i := 7) rfl)
theorem mw_11_8 : Cond.code yX7_arrive cX7_arrive 4 (some .int) ∈ wsL_law := mw_in11 (List.mem_of_getElem? (i := 8) rfl)
theorem mw_11_9 : Cond.fieldLink RX7 139 "ShuntYardModel" "readMany" "I" ∈ wsL_law := mw_in11 (List.mem_of_getElem? (i := 9) rfl)
theorem mw_12_0 : Cond.fieldLink RX7 133 "ShuntYardModel" "wrongPlace" "I" ∈ wsL_law := mw_in12 (List.mem_of_getElem? (i := 0) rfl)
theorem mw_12_1 : Cond.methodLink RX7 145 yX7_isLetter ∈ wsL_law := mw_in12 (List.mem_of_getElem? (i := 1) rfl)
theorem mw_12_10 : Cond.selects RX7 yX7_beginRow yX7_beginRow ∈ wsL_law := mw_in12 (List.mem_of_getElem? (i := 10) rfl)
theorem mw_12_11 : Cond.code yX7_beginRow cX7_beginRow 4 none ∈ wsL_law := mw_in12 (List.mem_of_getElem? (i := 11) rfl)
theorem mw_12_12 : Cond.fieldLink RX7 67 "ShuntYardModel" "rowMany" "I" ∈ wsL_law := mw_in12 (List.mem_of_getElem? (i := 12) rfl)
theorem mw_12_13 : Cond.methodLink RX7 70 yX7_kindAt ∈ wsL_law := mw_in12 (List.mem_of_getElem? (i := 13) rfl)
theorem mw_12_14 : Cond.instanceMethod yX7_kindAt ∈ wsL_law := mw_in12 (List.mem_of_getElem? (i := 14) rfl)
theorem mw_12_15 : Cond.selects RX7 yX7_kindAt yX7_kindAt ∈ wsL_law := mw_in12 (List.mem_of_getElem? (i := 15) rfl)
theorem mw_12_16 : Cond.code yX7_kindAt cX7_kindAt 3 (some .int) ∈ wsL_law := mw_in12 (List.mem_of_getElem? (i := 16) rfl)
theorem mw_12_17 : Cond.methodLink RX7 73 yX7_appendKind ∈ wsL_law := mw_in12 (List.mem_of_getElem? (i := 17) rfl)
theorem mw_12_18 : Cond.instanceMethod yX7_appendKind ∈ wsL_law := mw_in12 (List.mem_of_getElem? (i := 18) rfl)
theorem mw_12_19 : Cond.selects RX7 yX7_appendKind yX7_appendKind ∈ wsL_law := mw_in12 (List.mem_of_getElem? (i := 19) rfl)
theorem mw_12_2 : Cond.static yX7_isLetter ∈ wsL_law := mw_in12 (List.mem_of_getElem? (i := 2) rfl)
theorem mw_12_20 : Cond.code yX7_appendKind cX7_appendKind 2 none ∈ wsL_law := mw_in12 (List.mem_of_getElem? (i := 20) rfl)
theorem mw_12_21 : Cond.methodLink RX7 85 yX7_isSafeRow ∈ wsL_law := mw_in12 (List.mem_of_getElem? (i := 21) rfl)
theorem mw_12_22 : Cond.instanceMethod yX7_isSafeRow ∈ wsL_law := mw_in12 (List.mem_of_getElem? (i := 22) rfl)
theorem mw_12_23 : Cond.selects RX7 yX7_isSafeRow yX7_isSafeRow ∈ wsL_law := mw_in12 (List.mem_of_getElem? (i := 23) rfl)
theorem mw_12_3 : Cond.code yX7_isLetter cX7_isLetter 1 (some .boolean) ∈ wsL_law := mw_in12 (List.mem_of_getElem? (i := 3) rfl)
theorem mw_12_4 : Cond.methodLink RX7 151 yX7_hasFault ∈ wsL_law := mw_in12 (List.mem_of_getElem? (i := 4) rfl)
theorem mw_12_5 : Cond.instanceMethod yX7_hasFault ∈ wsL_law := mw_in12 (List.mem_of_getElem? (i := 5) rfl)
theorem mw_12_6 : Cond.selects RX7 yX7_hasFault yX7_hasFault ∈ wsL_law := mw_in12 (List.mem_of_getElem? (i := 6) rfl)
theorem mw_12_7 : Cond.code yX7_hasFault cX7_hasFault 1 (some .boolean) ∈ wsL_law := mw_in12 (List.mem_of_getElem? (i := 7) rfl)
theorem mw_12_8 : Cond.methodLink RX7 81 yX7_beginRow ∈ wsL_law := mw_in12 (List.mem_of_getElem? (i := 8) rfl)
theorem mw_12_9 : Cond.instanceMethod yX7_beginRow ∈ wsL_law := mw_in12 (List.mem_of_getElem? (i := 9) rfl)
theorem mw_13_0 : Cond.code yX7_isSafeRow cX7_isSafeRow 2 (some .boolean) ∈ wsL_law := mw_in13 (List.mem_of_getElem? (i := 0) rfl)
theorem mw_13_1 : Cond.methodLink RX7 77 yX7_leastGap ∈ wsL_law := mw_in13 (List.mem_of_getElem? (i := 1) rfl)
theorem mw_13_10 : Cond.instanceMethod yX6_list ∈ wsL_law := mw_in13 (List.mem_of_getElem? (i := 10) rfl)
theorem mw_13_11 : Cond.selects RX6 yX6_list yX6_list ∈ wsL_law := mw_in13 (List.mem_of_getElem? (i := 11) rfl)
theorem mw_13_12 : Cond.code yX6_list cX6_list 1 (some .int) ∈ wsL_law := mw_in13 (List.mem_of_getElem? (i := 12) rfl)
theorem mw_13_13 : Cond.fieldLink RX6 107 "ShuntYard$Yard" "trains" "I" ∈ wsL_law := mw_in13 (List.mem_of_getElem? (i := 13) rfl)
theorem mw_13_14 : Cond.methodLink RX6 100 yX4_readTrains ∈ wsL_law := mw_in13 (List.mem_of_getElem? (i := 14) rfl)
theorem mw_13_15 : Cond.instanceMethod yX4_readTrains ∈ wsL_law := mw_in13 (List.mem_of_getElem? (i := 15) rfl)
theorem mw_13_16 : Cond.selects RX4 yX4_readTrains yX4_readTrains ∈ wsL_law := mw_in13 (List.mem_of_getElem? (i := 16) rfl)
theorem mw_13_17 : Cond.code yX4_readTrains cX4_readTrains 3 (some .boolean) ∈ wsL_law := mw_in13 (List.mem_of_getElem? (i := 17) rfl)
theorem mw_13_18 : Cond.methodLink RX6 103 yX5_takeTrains ∈ wsL_law := mw_in13 (List.mem_of_getElem? (i := 18) rfl)
theorem mw_13_19 : Cond.instanceMethod yX5_takeTrains ∈ wsL_law := mw_in13 (List.mem_of_getElem? (i := 19) rfl)
theorem mw_13_2 : Cond.instanceMethod yX7_leastGap ∈ wsL_law := mw_in13 (List.mem_of_getElem? (i := 2) rfl)
theorem mw_13_20 : Cond.selects RX5 yX5_takeTrains yX5_takeTrains ∈ wsL_law := mw_in13 (List.mem_of_getElem? (i := 20) rfl)
theorem mw_13_21 : Cond.code yX5_takeTrains cX5_takeTrains 2 none ∈ wsL_law := mw_in13 (List.mem_of_getElem? (i := 21) rfl)
theorem mw_13_22 : Cond.methodLink RL 31 yX7_list ∈ wsL_law := mw_in13 (List.mem_of_getElem? (i := 22) rfl)
theorem mw_13_23 : Cond.instanceMethod yX7_list ∈ wsL_law := mw_in13 (List.mem_of_getElem? (i := 23) rfl)
theorem mw_13_3 : Cond.selects RX7 yX7_leastGap yX7_leastGap ∈ wsL_law := mw_in13 (List.mem_of_getElem? (i := 3) rfl)
theorem mw_13_4 : Cond.code yX7_leastGap cX7_leastGap 5 (some .int) ∈ wsL_law := mw_in13 (List.mem_of_getElem? (i := 4) rfl)
theorem mw_13_5 : Cond.methodLink RX7 93 yX7_put ∈ wsL_law := mw_in13 (List.mem_of_getElem? (i := 5) rfl)
theorem mw_13_6 : Cond.instanceMethod yX7_put ∈ wsL_law := mw_in13 (List.mem_of_getElem? (i := 6) rfl)
theorem mw_13_7 : Cond.selects RX7 yX7_put yX7_put ∈ wsL_law := mw_in13 (List.mem_of_getElem? (i := 7) rfl)
theorem mw_13_8 : Cond.code yX7_put cX7_put 4 none ∈ wsL_law := mw_in13 (List.mem_of_getElem? (i := 8) rfl)
theorem mw_13_9 : Cond.methodLink RL 27 yX6_list ∈ wsL_law := mw_in13 (List.mem_of_getElem? (i := 9) rfl)
theorem mw_14_0 : Cond.selects RX7 yX7_list yX7_list ∈ wsL_law := mw_in14 (List.mem_of_getElem? (i := 0) rfl)
theorem mw_14_1 : Cond.code yX7_list cX7_list 2 (some .int) ∈ wsL_law := mw_in14 (List.mem_of_getElem? (i := 1) rfl)
theorem mw_14_10 : Cond.methodLink RX6 110 yX5_costOrCode ∈ wsL_law := mw_in14 (List.mem_of_getElem? (i := 10) rfl)
theorem mw_14_11 : Cond.instanceMethod yX5_costOrCode ∈ wsL_law := mw_in14 (List.mem_of_getElem? (i := 11) rfl)
theorem mw_14_12 : Cond.selects RX5 yX5_costOrCode yX5_costOrCode ∈ wsL_law := mw_in14 (List.mem_of_getElem? (i := 12) rfl)
theorem mw_14_13 : Cond.code yX5_costOrCode cX5_costOrCode 4 (some .int) ∈ wsL_law := mw_in14 (List.mem_of_getElem? (i := 13) rfl)
theorem mw_14_14 : Cond.methodLink RX5 122 yX5_hasTrack ∈ wsL_law := mw_in14 (List.mem_of_getElem? (i := 14) rfl)
theorem mw_14_15 : Cond.methodLink RX5 125 yX5_isSafeBehindMove ∈ wsL_law := mw_in14 (List.mem_of_getElem? (i := 15) rfl)
theorem mw_14_16 : Cond.instanceMethod yX5_isSafeBehindMove ∈ wsL_law := mw_in14 (List.mem_of_getElem? (i := 16) rfl)
theorem mw_14_17 : Cond.selects RX5 yX5_isSafeBehindMove yX5_isSafeBehindMove ∈ wsL_law := mw_in14 (List.mem_of_getElem? (i := 17) rfl)
theorem mw_14_18 : Cond.code yX5_isSafeBehindMove cX5_isSafeBehindMove 5 (some .boolean) ∈ wsL_law := mw_in14 (List.mem_of_getElem? (i := 18) rfl)
theorem mw_14_19 : Cond.methodLink RX5 128 yX5_minutesOf ∈ wsL_law := mw_in14 (List.mem_of_getElem? (i := 19) rfl)
theorem mw_14_2 : Cond.methodLink RX7 154 yX7_readList ∈ wsL_law := mw_in14 (List.mem_of_getElem? (i := 2) rfl)
theorem mw_14_20 : Cond.instanceMethod yX5_minutesOf ∈ wsL_law := mw_in14 (List.mem_of_getElem? (i := 20) rfl)
theorem mw_14_21 : Cond.selects RX5 yX5_minutesOf yX5_minutesOf ∈ wsL_law := mw_in14 (List.mem_of_getElem? (i := 21) rfl)
theorem mw_14_22 : Cond.code yX5_minutesOf cX5_minutesOf 6 (some .int) ∈ wsL_law := mw_in14 (List.mem_of_getElem? (i := 22) rfl)
theorem mw_14_23 : Cond.methodLink RX5 131 Lib.Math.abs.name ∈ wsL_law := mw_in14 (List.mem_of_getElem? (i := 23) rfl)
theorem mw_14_3 : Cond.instanceMethod yX7_readList ∈ wsL_law := mw_in14 (List.mem_of_getElem? (i := 3) rfl)
theorem mw_14_4 : Cond.selects RX7 yX7_readList yX7_readList ∈ wsL_law := mw_in14 (List.mem_of_getElem? (i := 4) rfl)
theorem mw_14_5 : Cond.code yX7_readList cX7_readList 3 none ∈ wsL_law := mw_in14 (List.mem_of_getElem? (i := 5) rfl)
theorem mw_14_6 : Cond.methodLink RL 32 yX6_move ∈ wsL_law := mw_in14 (List.mem_of_getElem? (i := 6) rfl)
theorem mw_14_7 : Cond.instanceMethod yX6_move ∈ wsL_law := mw_in14 (List.mem_of_getElem? (i := 7) rfl)
theorem mw_14_8 : Cond.selects RX6 yX6_move yX6_move ∈ wsL_law := mw_in14 (List.mem_of_getElem? (i := 8) rfl)
theorem mw_14_9 : Cond.code yX6_move cX6_move 5 (some .int) ∈ wsL_law := mw_in14 (List.mem_of_getElem? (i := 9) rfl)
theorem mw_15_0 : Cond.static Lib.Math.abs.name ∈ wsL_law := mw_in15 (List.mem_of_getElem? (i := 0) rfl)
theorem mw_15_1 : Cond.code Lib.Math.abs.name Lib.Math.abs.code 1 (some .int) ∈ wsL_law := mw_in15 (List.mem_of_getElem? (i := 1) rfl)
theorem mw_15_10 : Cond.methodLink RL 36 yX7_move ∈ wsL_law := mw_in15 (List.mem_of_getElem? (i := 10) rfl)
theorem mw_15_11 : Cond.instanceMethod yX7_move ∈ wsL_law := mw_in15 (List.mem_of_getElem? (i := 11) rfl)
theorem mw_15_12 : Cond.selects RX7 yX7_move yX7_move ∈ wsL_law := mw_in15 (List.mem_of_getElem? (i := 12) rfl)
theorem mw_15_13 : Cond.code yX7_move cX7_move 5 (some .int) ∈ wsL_law := mw_in15 (List.mem_of_getElem? (i := 13) rfl)
theorem mw_15_14 : Cond.methodLink RX7 104 yX7_cost ∈ wsL_law := mw_in15 (List.mem_of_getElem? (i := 14) rfl)
theorem mw_15_15 : Cond.instanceMethod yX7_cost ∈ wsL_law := mw_in15 (List.mem_of_getElem? (i := 15) rfl)
theorem mw_15_16 : Cond.selects RX7 yX7_cost yX7_cost ∈ wsL_law := mw_in15 (List.mem_of_getElem? (i := 16) rfl)
theorem mw_15_17 : Cond.code yX7_cost cX7_cost 4 (some .int) ∈ wsL_law := mw_in15 (List.mem_of_getElem? (i := 17) rfl)
theorem mw_15_18 : Cond.methodLink RX7 97 yX7_areTracks ∈ wsL_law := mw_in15 (List.mem_of_getElem? (i := 18) rfl)
theorem mw_15_19 : Cond.instanceMethod yX7_areTracks ∈ wsL_law := mw_in15 (List.mem_of_getElem? (i := 19) rfl)
theorem mw_15_2 : Cond.methodLink RX6 114 yX5_drive ∈ wsL_law := mw_in15 (List.mem_of_getElem? (i := 2) rfl)
theorem mw_15_20 : Cond.selects RX7 yX7_areTracks yX7_areTracks ∈ wsL_law := mw_in15 (List.mem_of_getElem? (i := 20) rfl)
theorem mw_15_21 : Cond.code yX7_areTracks cX7_areTracks 4 (some .boolean) ∈ wsL_law := mw_in15 (List.mem_of_getElem? (i := 21) rfl)
theorem mw_15_22 : Cond.methodLink RX7 100 yX7_costOf ∈ wsL_law := mw_in15 (List.mem_of_getElem? (i := 22) rfl)
theorem mw_15_23 : Cond.instanceMethod yX7_costOf ∈ wsL_law := mw_in15 (List.mem_of_getElem? (i := 23) rfl)
theorem mw_15_3 : Cond.instanceMethod yX5_drive ∈ wsL_law := mw_in15 (List.mem_of_getElem? (i := 3) rfl)
theorem mw_15_4 : Cond.selects RX5 yX5_drive yX5_drive ∈ wsL_law := mw_in15 (List.mem_of_getElem? (i := 4) rfl)
theorem mw_15_5 : Cond.code yX5_drive cX5_drive 5 (some .int) ∈ wsL_law := mw_in15 (List.mem_of_getElem? (i := 5) rfl)
theorem mw_15_6 : Cond.methodLink RX5 136 yX5_shift ∈ wsL_law := mw_in15 (List.mem_of_getElem? (i := 6) rfl)
theorem mw_15_7 : Cond.instanceMethod yX5_shift ∈ wsL_law := mw_in15 (List.mem_of_getElem? (i := 7) rfl)
theorem mw_15_8 : Cond.selects RX5 yX5_shift yX5_shift ∈ wsL_law := mw_in15 (List.mem_of_getElem? (i := 8) rfl)
theorem mw_15_9 : Cond.code yX5_shift cX5_shift 5 none ∈ wsL_law := mw_in15 (List.mem_of_getElem? (i := 9) rfl)
theorem mw_16_0 : Cond.selects RX7 yX7_costOf yX7_costOf ∈ wsL_law := mw_in16 (List.mem_of_getElem? (i := 0) rfl)
theorem mw_16_1 : Cond.code yX7_costOf cX7_costOf 7 (some .int) ∈ wsL_law := mw_in16 (List.mem_of_getElem? (i := 1) rfl)
theorem mw_16_10 : Cond.methodLink RX6 117 yX5_testBrakes ∈ wsL_law := mw_in16 (List.mem_of_getElem? (i := 10) rfl)
theorem mw_16_11 : Cond.instanceMethod yX5_testBrakes ∈ wsL_law := mw_in16 (List.mem_of_getElem? (i := 11) rfl)
theorem mw_16_12 : Cond.selects RX5 yX5_testBrakes yX5_testBrakes ∈ wsL_law := mw_in16 (List.mem_of_getElem? (i := 12) rfl)
theorem mw_16_13 : Cond.code yX5_testBrakes cX5_testBrakes 3 (some .int) ∈ wsL_law := mw_in16 (List.mem_of_getElem? (i := 13) rfl)
theorem mw_16_14 : Cond.methodLink RL 40 yX7_test ∈ wsL_law := mw_in16 (List.mem_of_getElem? (i := 14) rfl)
theorem mw_16_15 : Cond.instanceMethod yX7_test ∈ wsL_law := mw_in16 (List.mem_of_getElem? (i := 15) rfl)
theorem mw_16_16 : Cond.selects RX7 yX7_test yX7_test ∈ wsL_law := mw_in16 (List.mem_of_getElem? (i := 16) rfl)
theorem mw_16_17 : Cond.code yX7_test cX7_test 3 (some .int) ∈ wsL_law := mw_in16 (List.mem_of_getElem? (i := 17) rfl)
theorem mw_16_18 : Cond.methodLink RL 41 yX6_pause ∈ wsL_law := mw_in16 (List.mem_of_getElem? (i := 18) rfl)
theorem mw_16_19 : Cond.instanceMethod yX6_pause ∈ wsL_law := mw_in16 (List.mem_of_getElem? (i := 19) rfl)
theorem mw_16_2 : Cond.methodLink RX7 110 yX7_carry ∈ wsL_law := mw_in16 (List.mem_of_getElem? (i := 2) rfl)
theorem mw_16_20 : Cond.selects RX6 yX6_pause yX6_pause ∈ wsL_law := mw_in16 (List.mem_of_getElem? (i := 20) rfl)
theorem mw_16_21 : Cond.code yX6_pause cX6_pause 2 (some .int) ∈ wsL_law := mw_in16 (List.mem_of_getElem? (i := 21) rfl)
theorem mw_16_22 : Cond.fieldLink RX6 120 "ShuntYard$Yard" "clock" "I" ∈ wsL_law := mw_in16 (List.mem_of_getElem? (i := 22) rfl)
theorem mw_16_23 : Cond.methodLink RL 44 yX7_pause ∈ wsL_law := mw_in16 (List.mem_of_getElem? (i := 23) rfl)
theorem mw_16_3 : Cond.instanceMethod yX7_carry ∈ wsL_law := mw_in16 (List.mem_of_getElem? (i := 3) rfl)
theorem mw_16_4 : Cond.selects RX7 yX7_carry yX7_carry ∈ wsL_law := mw_in16 (List.mem_of_getElem? (i := 4) rfl)
theorem mw_16_5 : Cond.code yX7_carry cX7_carry 8 none ∈ wsL_law := mw_in16 (List.mem_of_getElem? (i := 5) rfl)
theorem mw_16_6 : Cond.methodLink RL 37 yX6_test ∈ wsL_law := mw_in16 (List.mem_of_getElem? (i := 6) rfl)
theorem mw_16_7 : Cond.instanceMethod yX6_test ∈ wsL_law := mw_in16 (List.mem_of_getElem? (i := 7) rfl)
theorem mw_16_8 : Cond.selects RX6 yX6_test yX6_test ∈ wsL_law := mw_in16 (List.mem_of_getElem? (i := 8) rfl)
theorem mw_16_9 : Cond.code yX6_test cX6_test 2 (some .int) ∈ wsL_law := mw_in16 (List.mem_of_getElem? (i := 9) rfl)
theorem mw_17_0 : Cond.instanceMethod yX7_pause ∈ wsL_law := mw_in17 (List.mem_of_getElem? (i := 0) rfl)
theorem mw_17_1 : Cond.selects RX7 yX7_pause yX7_pause ∈ wsL_law := mw_in17 (List.mem_of_getElem? (i := 1) rfl)
theorem mw_17_10 : Cond.code yX5_refusal cX5_refusal 2 (some .int) ∈ wsL_law := mw_in17 (List.mem_of_getElem? (i := 10) rfl)
theorem mw_17_11 : Cond.methodLink RX5 146 yX5_forFirstOn ∈ wsL_law := mw_in17 (List.mem_of_getElem? (i := 11) rfl)
theorem mw_17_12 : Cond.instanceMethod yX5_forFirstOn ∈ wsL_law := mw_in17 (List.mem_of_getElem? (i := 12) rfl)
theorem mw_17_13 : Cond.selects RX5 yX5_forFirstOn yX5_forFirstOn ∈ wsL_law := mw_in17 (List.mem_of_getElem? (i := 13) rfl)
theorem mw_17_14 : Cond.code yX5_forFirstOn cX5_forFirstOn 4 (some .int) ∈ wsL_law := mw_in17 (List.mem_of_getElem? (i := 14) rfl)
theorem mw_17_15 : Cond.methodLink RX5 142 yX5_isForFirst ∈ wsL_law := mw_in17 (List.mem_of_getElem? (i := 15) rfl)
theorem mw_17_16 : Cond.instanceMethod yX5_isForFirst ∈ wsL_law := mw_in17 (List.mem_of_getElem? (i := 16) rfl)
theorem mw_17_17 : Cond.selects RX5 yX5_isForFirst yX5_isForFirst ∈ wsL_law := mw_in17 (List.mem_of_getElem? (i := 17) rfl)
theorem mw_17_18 : Cond.code yX5_isForFirst cX5_isForFirst 3 (some .boolean) ∈ wsL_law := mw_in17 (List.mem_of_getElem? (i := 18) rfl)
theorem mw_17_19 : Cond.methodLink RX5 149 yX5_forFirstInYard ∈ wsL_law := mw_in17 (List.mem_of_getElem? (i := 19) rfl)
theorem mw_17_2 : Cond.code yX7_pause cX7_pause 2 (some .int) ∈ wsL_law := mw_in17 (List.mem_of_getElem? (i := 2) rfl)
theorem mw_17_20 : Cond.instanceMethod yX5_forFirstInYard ∈ wsL_law := mw_in17 (List.mem_of_getElem? (i := 20) rfl)
theorem mw_17_21 : Cond.selects RX5 yX5_forFirstInYard yX5_forFirstInYard ∈ wsL_law := mw_in17 (List.mem_of_getElem? (i := 21) rfl)
theorem mw_17_22 : Cond.code yX5_forFirstInYard cX5_forFirstInYard 3 (some .int) ∈ wsL_law := mw_in17 (List.mem_of_getElem? (i := 22) rfl)
theorem mw_17_23 : Cond.methodLink RX5 118 yX5_isSafe ∈ wsL_law := mw_in17 (List.mem_of_getElem? (i := 23) rfl)
theorem mw_17_3 : Cond.methodLink RL 45 yX6_depart ∈ wsL_law := mw_in17 (List.mem_of_getElem? (i := 3) rfl)
theorem mw_17_4 : Cond.instanceMethod yX6_depart ∈ wsL_law := mw_in17 (List.mem_of_getElem? (i := 4) rfl)
theorem mw_17_5 : Cond.selects RX6 yX6_depart yX6_depart ∈ wsL_law := mw_in17 (List.mem_of_getElem? (i := 5) rfl)
theorem mw_17_6 : Cond.code yX6_depart cX6_depart 3 (some .int) ∈ wsL_law := mw_in17 (List.mem_of_getElem? (i := 6) rfl)
theorem mw_17_7 : Cond.methodLink RX6 123 yX5_refusal ∈ wsL_law := mw_in17 (List.mem_of_getElem? (i := 7) rfl)
theorem mw_17_8 : Cond.instanceMethod yX5_refusal ∈ wsL_law := mw_in17 (List.mem_of_getElem? (i := 8) rfl)
theorem mw_17_9 : Cond.selects RX5 yX5_refusal yX5_refusal ∈ wsL_law := mw_in17 (List.mem_of_getElem? (i := 9) rfl)
theorem mw_18_0 : Cond.instanceMethod yX5_isSafe ∈ wsL_law := mw_in18 (List.mem_of_getElem? (i := 0) rfl)
theorem mw_18_1 : Cond.selects RX5 yX5_isSafe yX5_isSafe ∈ wsL_law := mw_in18 (List.mem_of_getElem? (i := 1) rfl)
theorem mw_18_10 : Cond.methodLink RX6 126 yX5_sendOff ∈ wsL_law := mw_in18 (List.mem_of_getElem? (i := 10) rfl)
theorem mw_18_11 : Cond.instanceMethod yX5_sendOff ∈ wsL_law := mw_in18 (List.mem_of_getElem? (i := 11) rfl)
theorem mw_18_12 : Cond.selects RX5 yX5_sendOff yX5_sendOff ∈ wsL_law := mw_in18 (List.mem_of_getElem? (i := 12) rfl)
theorem mw_18_13 : Cond.code yX5_sendOff cX5_sendOff 3 (some .int) ∈ wsL_law := mw_in18 (List.mem_of_getElem? (i := 13) rfl)
theorem mw_18_14 : Cond.methodLink RL 48 yX7_depart ∈ wsL_law := mw_in18 (List.mem_of_getElem? (i := 14) rfl)
theorem mw_18_15 : Cond.instanceMethod yX7_depart ∈ wsL_law := mw_in18 (List.mem_of_getElem? (i := 15) rfl)
theorem mw_18_16 : Cond.selects RX7 yX7_depart yX7_depart ∈ wsL_law := mw_in18 (List.mem_of_getElem? (i := 16) rfl)
theorem mw_18_17 : Cond.code yX7_depart cX7_depart 5 (some .int) ∈ wsL_law := mw_in18 (List.mem_of_getElem? (i := 17) rfl)
theorem mw_18_18 : Cond.methodLink RX7 127 yX7_reasonAgainst ∈ wsL_law := mw_in18 (List.mem_of_getElem? (i := 18) rfl)
theorem mw_18_19 : Cond.instanceMethod yX7_reasonAgainst ∈ wsL_law := mw_in18 (List.mem_of_getElem? (i := 19) rfl)
theorem mw_18_2 : Cond.code yX5_isSafe cX5_isSafe 2 (some .boolean) ∈ wsL_law := mw_in18 (List.mem_of_getElem? (i := 2) rfl)
theorem mw_18_20 : Cond.selects RX7 yX7_reasonAgainst yX7_reasonAgainst ∈ wsL_law := mw_in18 (List.mem_of_getElem? (i := 20) rfl)
theorem mw_18_21 : Cond.code yX7_reasonAgainst cX7_reasonAgainst 3 (some .int) ∈ wsL_law := mw_in18 (List.mem_of_getElem? (i := 21) rfl)
theorem mw_18_22 : Cond.methodLink RX7 117 yX7_bound ∈ wsL_law := mw_in18 (List.mem_of_getElem? (i := 22) rfl)
theorem mw_18_23 : Cond.instanceMethod yX7_bound ∈ wsL_law := mw_in18 (List.mem_of_getElem? (i := 23) rfl)
theorem mw_18_3 : Cond.methodLink RX5 153 yX5_testHoldsFor ∈ wsL_law := mw_in18 (List.mem_of_getElem? (i := 3) rfl)
theorem mw_18_4 : Cond.instanceMethod yX5_testHoldsFor ∈ wsL_law := mw_in18 (List.mem_of_getElem? (i := 4) rfl)
theorem mw_18_5 : Cond.selects RX5 yX5_testHoldsFor yX5_testHoldsFor ∈ wsL_law := mw_in18 (List.mem_of_getElem? (i := 5) rfl)
theorem mw_18_6 : Cond.code yX5_testHoldsFor cX5_testHoldsFor 2 (some .int) ∈ wsL_law := mw_in18 (List.mem_of_getElem? (i := 6) rfl)
theorem mw_18_7 : Cond.methodLink RX5 139 Lib.Math.max.name ∈ wsL_law := mw_in18 (List.mem_of_getElem? (i := 7) rfl)
theorem mw_18_8 : Cond.static Lib.Math.max.name ∈ wsL_law := mw_in18 (List.mem_of_getElem? (i := 8) rfl)
theorem mw_18_9 : Cond.code Lib.Math.max.name Lib.Math.max.code 2 (some .int) ∈ wsL_law := mw_in18 (List.mem_of_getElem? (i := 9) rfl)
theorem mw_19_0 : Cond.selects RX7 yX7_bound yX7_bound ∈ wsL_law := mw_in19 (List.mem_of_getElem? (i := 0) rfl)
theorem mw_19_1 : Cond.code yX7_bound cX7_bound 5 (some .int) ∈ wsL_law := mw_in19 (List.mem_of_getElem? (i := 1) rfl)
theorem mw_19_10 : Cond.methodLink RX7 123 yX7_stillHolds ∈ wsL_law := mw_in19 (List.mem_of_getElem? (i := 10) rfl)
theorem mw_19_11 : Cond.instanceMethod yX7_stillHolds ∈ wsL_law := mw_in19 (List.mem_of_getElem? (i := 11) rfl)
theorem mw_19_12 : Cond.selects RX7 yX7_stillHolds yX7_stillHolds ∈ wsL_law := mw_in19 (List.mem_of_getElem? (i := 12) rfl)
theorem mw_19_13 : Cond.code yX7_stillHolds cX7_stillHolds 3 (some .int) ∈ wsL_law := mw_in19 (List.mem_of_getElem? (i := 13) rfl)
theorem mw_19_14 : Cond.methodLink RL 49 yX6_makeUp ∈ wsL_law := mw_in19 (List.mem_of_getElem? (i := 14) rfl)
theorem mw_19_15 : Cond.instanceMethod yX6_makeUp ∈ wsL_law := mw_in19 (List.mem_of_getElem? (i := 15) rfl)
theorem mw_19_16 : Cond.selects RX6 yX6_makeUp yX6_makeUp ∈ wsL_law := mw_in19 (List.mem_of_getElem? (i := 16) rfl)
theorem mw_19_17 : Cond.code yX6_makeUp cX6_makeUp 5 (some .int) ∈ wsL_law := mw_in19 (List.mem_of_getElem? (i := 17) rfl)
theorem mw_19_18 : Cond.fieldLink RX6 133 "ShuntYard$Search" "best" "LShuntYard$Row;" ∈ wsL_law := mw_in19 (List.mem_of_getElem? (i := 18) rfl)
theorem mw_19_19 : Cond.fieldLink RX6 137 "ShuntYard$Row" "moves" "I" ∈ wsL_law := mw_in19 (List.mem_of_getElem? (i := 19) rfl)
theorem mw_19_2 : Cond.methodLink RX7 114 yX7_destination ∈ wsL_law := mw_in19 (List.mem_of_getElem? (i := 2) rfl)
theorem mw_19_20 : Cond.fieldLink RX6 142 "ShuntYard$Row" "from" "[I" ∈ wsL_law := mw_in19 (List.mem_of_getElem? (i := 20) rfl)
theorem mw_19_21 : Cond.fieldLink RX6 145 "ShuntYard$Row" "to" "[I" ∈ wsL_law := mw_in19 (List.mem_of_getElem? (i := 21) rfl)
theorem mw_19_22 : Cond.fieldLink RX6 148 "ShuntYard$Row" "n" "[I" ∈ wsL_law := mw_in19 (List.mem_of_getElem? (i := 22) rfl)
theorem mw_19_23 : Cond.methodLink RX6 129 yX3_succeeds ∈ wsL_law := mw_in19 (List.mem_of_getElem? (i := 23) rfl)
theorem mw_19_3 : Cond.instanceMethod yX7_destination ∈ wsL_law := mw_in19 (List.mem_of_getElem? (i := 3) rfl)
theorem mw_19_4 : Cond.selects RX7 yX7_destination yX7_destination ∈ wsL_law := mw_in19 (List.mem_of_getElem? (i := 4) rfl)
theorem mw_19_5 : Cond.code yX7_destination cX7_destination 3 (some .int) ∈ wsL_law := mw_in19 (List.mem_of_getElem? (i := 5) rfl)
theorem mw_19_6 : Cond.methodLink RX7 120 yX7_isSafe ∈ wsL_law := mw_in19 (List.mem_of_getElem? (i := 6) rfl)
theorem mw_19_7 : Cond.instanceMethod yX7_isSafe ∈ wsL_law := mw_in19 (List.mem_of_getElem? (i := 7) rfl)
theorem mw_19_8 : Cond.selects RX7 yX7_isSafe yX7_isSafe ∈ wsL_law := mw_in19 (List.mem_of_getElem? (i := 8) rfl)
theorem mw_19_9 : Cond.code yX7_isSafe cX7_isSafe 2 (some .boolean) ∈ wsL_law := mw_in19 (List.mem_of_getElem? (i := 9) rfl)
theorem mw_1_0 : Cond.classLink RL 7 RX6 ∈ wsL_law := mw_in1 (List.mem_of_getElem? (i := 0) rfl)
theorem mw_1_1 : Cond.instantiable RX6 6 ∈ wsL_law := mw_in1 (List.mem_of_getElem? (i := 1) rfl)
theorem mw_1_10 : Cond.instanceMethod objectInit ∈ wsL_law := mw_in1 (List.mem_of_getElem? (i := 10) rfl)
theorem mw_1_11 : Cond.code objectInit ⟨#[0xb1]⟩ 1 none ∈ wsL_law := mw_in1 (List.mem_of_getElem? (i := 11) rfl)
theorem mw_1_12 : Cond.classLink RX6 7 RX5 ∈ wsL_law := mw_in1 (List.mem_of_getElem? (i := 12) rfl)
theorem mw_1_13 : Cond.instantiable RX5 15 ∈ wsL_law := mw_in1 (List.mem_of_getElem? (i := 13) rfl)
theorem mw_1_14 : Cond.initialized RX5 ∈ wsL_law := mw_in1 (List.mem_of_getElem? (i := 14) rfl)
theorem mw_1_15 : Cond.fieldLink RX6 10 "ShuntYard" "yard" "LShuntYard$Yard;" ∈ wsL_law := mw_in1 (List.mem_of_getElem? (i := 15) rfl)
theorem mw_1_16 : Cond.classLink RX6 16 RX1 ∈ wsL_law := mw_in1 (List.mem_of_getElem? (i := 16) rfl)
theorem mw_1_17 : Cond.instantiable RX1 3 ∈ wsL_law := mw_in1 (List.mem_of_getElem? (i := 17) rfl)
theorem mw_1_18 : Cond.initialized RX1 ∈ wsL_law := mw_in1 (List.mem_of_getElem? (i := 18) rfl)
theorem mw_1_19 : Cond.fieldLink RX6 19 "ShuntYard" "history" "LShuntYard$History;" ∈ wsL_law := mw_in1 (List.mem_of_getElem? (i := 19) rfl)
theorem mw_1_2 : Cond.initialized RX6 ∈ wsL_law := mw_in1 (List.mem_of_getElem? (i := 2) rfl)
theorem mw_1_20 : Cond.fieldLink RX6 23 "ShuntYard" "images" "[LShuntYard$Yard;" ∈ wsL_law := mw_in1 (List.mem_of_getElem? (i := 20) rfl)
theorem mw_1_21 : Cond.classLink RX6 27 RX4 ∈ wsL_law := mw_in1 (List.mem_of_getElem? (i := 21) rfl)
theorem mw_1_22 : Cond.instantiable RX4 6 ∈ wsL_law := mw_in1 (List.mem_of_getElem? (i := 22) rfl)
theorem mw_1_23 : Cond.initialized RX4 ∈ wsL_law := mw_in1 (List.mem_of_getElem? (i := 23) rfl)
theorem mw_1_3 : Cond.classLink RL 10 RX7 ∈ wsL_law := mw_in1 (List.mem_of_getElem? (i := 3) rfl)
theorem mw_1_4 : Cond.instantiable RX7 24 ∈ wsL_law := mw_in1 (List.mem_of_getElem? (i := 4) rfl)
theorem mw_1_5 : Cond.initialized RX7 ∈ wsL_law := mw_in1 (List.mem_of_getElem? (i := 5) rfl)
theorem mw_1_6 : Cond.methodLink RL 9 yX6_init ∈ wsL_law := mw_in1 (List.mem_of_getElem? (i := 6) rfl)
theorem mw_1_7 : Cond.instanceMethod yX6_init ∈ wsL_law := mw_in1 (List.mem_of_getElem? (i := 7) rfl)
theorem mw_1_8 : Cond.code yX6_init cX6_init 1 none ∈ wsL_law := mw_in1 (List.mem_of_getElem? (i := 8) rfl)
theorem mw_1_9 : Cond.methodLink RX6 1 objectInit ∈ wsL_law := mw_in1 (List.mem_of_getElem? (i := 9) rfl)
theorem mw_20_0 : Cond.instanceMethod yX3_succeeds ∈ wsL_law := mw_in20 (List.mem_of_getElem? (i := 0) rfl)
theorem mw_20_1 : Cond.selects RX3 yX3_succeeds yX3_succeeds ∈ wsL_law := mw_in20 (List.mem_of_getElem? (i := 1) rfl)
theorem mw_20_10 : Cond.fieldLink RX2 21 "ShuntYard$Row" "moves" "I" ∈ wsL_law := mw_in20 (List.mem_of_getElem? (i := 10) rfl)
theorem mw_20_11 : Cond.fieldLink RX2 25 "ShuntYard$Row" "minutes" "I" ∈ wsL_law := mw_in20 (List.mem_of_getElem? (i := 11) rfl)
theorem mw_20_12 : Cond.methodLink RX3 49 yX5_forFirstInYard ∈ wsL_law := mw_in20 (List.mem_of_getElem? (i := 12) rfl)
theorem mw_20_13 : Cond.methodLink RX3 53 yX5_copyFrom ∈ wsL_law := mw_in20 (List.mem_of_getElem? (i := 13) rfl)
theorem mw_20_14 : Cond.methodLink RX3 63 yX3_seek ∈ wsL_law := mw_in20 (List.mem_of_getElem? (i := 14) rfl)
theorem mw_20_15 : Cond.instanceMethod yX3_seek ∈ wsL_law := mw_in20 (List.mem_of_getElem? (i := 15) rfl)
theorem mw_20_16 : Cond.selects RX3 yX3_seek yX3_seek ∈ wsL_law := mw_in20 (List.mem_of_getElem? (i := 16) rfl)
theorem mw_20_17 : Cond.code yX3_seek cX3_seek 8 none ∈ wsL_law := mw_in20 (List.mem_of_getElem? (i := 17) rfl)
theorem mw_20_18 : Cond.fieldLink RX3 80 "ShuntYard$Yard" "tracks" "I" ∈ wsL_law := mw_in20 (List.mem_of_getElem? (i := 18) rfl)
theorem mw_20_19 : Cond.fieldLink RX3 83 "ShuntYard$Yard" "length" "[I" ∈ wsL_law := mw_in20 (List.mem_of_getElem? (i := 19) rfl)
theorem mw_20_2 : Cond.code yX3_succeeds cX3_succeeds 3 (some .boolean) ∈ wsL_law := mw_in20 (List.mem_of_getElem? (i := 2) rfl)
theorem mw_20_20 : Cond.methodLink RX3 67 yX5_madeUpTrack ∈ wsL_law := mw_in20 (List.mem_of_getElem? (i := 20) rfl)
theorem mw_20_21 : Cond.instanceMethod yX5_madeUpTrack ∈ wsL_law := mw_in20 (List.mem_of_getElem? (i := 21) rfl)
theorem mw_20_22 : Cond.selects RX5 yX5_madeUpTrack yX5_madeUpTrack ∈ wsL_law := mw_in20 (List.mem_of_getElem? (i := 22) rfl)
theorem mw_20_23 : Cond.code yX5_madeUpTrack cX5_madeUpTrack 2 (some .int) ∈ wsL_law := mw_in20 (List.mem_of_getElem? (i := 23) rfl)
theorem mw_20_3 : Cond.fieldLink RX3 38 "ShuntYard$Search" "hasBest" "Z" ∈ wsL_law := mw_in20 (List.mem_of_getElem? (i := 3) rfl)
theorem mw_20_4 : Cond.fieldLink RX3 45 "ShuntYard$Yard" "trains" "I" ∈ wsL_law := mw_in20 (List.mem_of_getElem? (i := 4) rfl)
theorem mw_20_5 : Cond.methodLink RX3 57 Lib.Math.min.name ∈ wsL_law := mw_in20 (List.mem_of_getElem? (i := 5) rfl)
theorem mw_20_6 : Cond.methodLink RX3 42 yX2_clear ∈ wsL_law := mw_in20 (List.mem_of_getElem? (i := 6) rfl)
theorem mw_20_7 : Cond.instanceMethod yX2_clear ∈ wsL_law := mw_in20 (List.mem_of_getElem? (i := 7) rfl)
theorem mw_20_8 : Cond.selects RX2 yX2_clear yX2_clear ∈ wsL_law := mw_in20 (List.mem_of_getElem? (i := 8) rfl)
theorem mw_20_9 : Cond.code yX2_clear cX2_clear 1 none ∈ wsL_law := mw_in20 (List.mem_of_getElem? (i := 9) rfl)
theorem mw_21_0 : Cond.methodLink RX3 70 yX3_keepIfCheaper ∈ wsL_law := mw_in21 (List.mem_of_getElem? (i := 0) rfl)
theorem mw_21_1 : Cond.instanceMethod yX3_keepIfCheaper ∈ wsL_law := mw_in21 (List.mem_of_getElem? (i := 1) rfl)
theorem mw_21_10 : Cond.selects RX2 yX2_copyFrom yX2_copyFrom ∈ wsL_law := mw_in21 (List.mem_of_getElem? (i := 10) rfl)
theorem mw_21_11 : Cond.code yX2_copyFrom cX2_copyFrom 2 none ∈ wsL_law := mw_in21 (List.mem_of_getElem? (i := 11) rfl)
theorem mw_21_12 : Cond.methodLink RX2 28 arraycopyName ∈ wsL_law := mw_in21 (List.mem_of_getElem? (i := 12) rfl)
theorem mw_21_13 : Cond.methodLink RX3 73 yX3_movesNeeded ∈ wsL_law := mw_in21 (List.mem_of_getElem? (i := 13) rfl)
theorem mw_21_14 : Cond.instanceMethod yX3_movesNeeded ∈ wsL_law := mw_in21 (List.mem_of_getElem? (i := 14) rfl)
theorem mw_21_15 : Cond.selects RX3 yX3_movesNeeded yX3_movesNeeded ∈ wsL_law := mw_in21 (List.mem_of_getElem? (i := 15) rfl)
theorem mw_21_16 : Cond.code yX3_movesNeeded cX3_movesNeeded 3 (some .int) ∈ wsL_law := mw_in21 (List.mem_of_getElem? (i := 16) rfl)
theorem mw_21_17 : Cond.methodLink RX3 118 yX3_countWanted ∈ wsL_law := mw_in21 (List.mem_of_getElem? (i := 17) rfl)
theorem mw_21_18 : Cond.instanceMethod yX3_countWanted ∈ wsL_law := mw_in21 (List.mem_of_getElem? (i := 18) rfl)
theorem mw_21_19 : Cond.selects RX3 yX3_countWanted yX3_countWanted ∈ wsL_law := mw_in21 (List.mem_of_getElem? (i := 19) rfl)
theorem mw_21_2 : Cond.selects RX3 yX3_keepIfCheaper yX3_keepIfCheaper ∈ wsL_law := mw_in21 (List.mem_of_getElem? (i := 2) rfl)
theorem mw_21_20 : Cond.code yX3_countWanted cX3_countWanted 6 none ∈ wsL_law := mw_in21 (List.mem_of_getElem? (i := 20) rfl)
theorem mw_21_21 : Cond.methodLink RX3 125 yX5_isForFirst ∈ wsL_law := mw_in21 (List.mem_of_getElem? (i := 21) rfl)
theorem mw_21_22 : Cond.methodLink RX3 121 yX3_movesNeededFor ∈ wsL_law := mw_in21 (List.mem_of_getElem? (i := 22) rfl)
theorem mw_21_23 : Cond.instanceMethod yX3_movesNeededFor ∈ wsL_law := mw_in21 (List.mem_of_getElem? (i := 23) rfl)
theorem mw_21_3 : Cond.code yX3_keepIfCheaper cX3_keepIfCheaper 1 none ∈ wsL_law := mw_in21 (List.mem_of_getElem? (i := 3) rfl)
theorem mw_21_4 : Cond.methodLink RX3 105 yX2_isCheaperThan ∈ wsL_law := mw_in21 (List.mem_of_getElem? (i := 4) rfl)
theorem mw_21_5 : Cond.instanceMethod yX2_isCheaperThan ∈ wsL_law := mw_in21 (List.mem_of_getElem? (i := 5) rfl)
theorem mw_21_6 : Cond.selects RX2 yX2_isCheaperThan yX2_isCheaperThan ∈ wsL_law := mw_in21 (List.mem_of_getElem? (i := 6) rfl)
theorem mw_21_7 : Cond.code yX2_isCheaperThan cX2_isCheaperThan 2 (some .boolean) ∈ wsL_law := mw_in21 (List.mem_of_getElem? (i := 7) rfl)
theorem mw_21_8 : Cond.methodLink RX3 109 yX2_copyFrom ∈ wsL_law := mw_in21 (List.mem_of_getElem? (i := 8) rfl)
theorem mw_21_9 : Cond.instanceMethod yX2_copyFrom ∈ wsL_law := mw_in21 (List.mem_of_getElem? (i := 9) rfl)
theorem mw_22_0 : Cond.selects RX3 yX3_movesNeededFor yX3_movesNeededFor ∈ wsL_law := mw_in22 (List.mem_of_getElem? (i := 0) rfl)
theorem mw_22_1 : Cond.code yX3_movesNeededFor cX3_movesNeededFor 5 (some .int) ∈ wsL_law := mw_in22 (List.mem_of_getElem? (i := 1) rfl)
theorem mw_22_10 : Cond.instanceMethod yX3_seekBehindMove ∈ wsL_law := mw_in22 (List.mem_of_getElem? (i := 10) rfl)
theorem mw_22_11 : Cond.selects RX3 yX3_seekBehindMove yX3_seekBehindMove ∈ wsL_law := mw_in22 (List.mem_of_getElem? (i := 11) rfl)
theorem mw_22_12 : Cond.code yX3_seekBehindMove cX3_seekBehindMove 6 none ∈ wsL_law := mw_in22 (List.mem_of_getElem? (i := 12) rfl)
theorem mw_22_13 : Cond.methodLink RX3 94 yX5_shift ∈ wsL_law := mw_in22 (List.mem_of_getElem? (i := 13) rfl)
theorem mw_22_14 : Cond.methodLink RX3 98 yX2_addLast ∈ wsL_law := mw_in22 (List.mem_of_getElem? (i := 14) rfl)
theorem mw_22_15 : Cond.instanceMethod yX2_addLast ∈ wsL_law := mw_in22 (List.mem_of_getElem? (i := 15) rfl)
theorem mw_22_16 : Cond.selects RX2 yX2_addLast yX2_addLast ∈ wsL_law := mw_in22 (List.mem_of_getElem? (i := 16) rfl)
theorem mw_22_17 : Cond.code yX2_addLast cX2_addLast 5 none ∈ wsL_law := mw_in22 (List.mem_of_getElem? (i := 17) rfl)
theorem mw_22_18 : Cond.methodLink RX3 102 yX2_dropLast ∈ wsL_law := mw_in22 (List.mem_of_getElem? (i := 18) rfl)
theorem mw_22_19 : Cond.instanceMethod yX2_dropLast ∈ wsL_law := mw_in22 (List.mem_of_getElem? (i := 19) rfl)
theorem mw_22_2 : Cond.methodLink RX3 76 yX3_isTooDear ∈ wsL_law := mw_in22 (List.mem_of_getElem? (i := 2) rfl)
theorem mw_22_20 : Cond.selects RX2 yX2_dropLast yX2_dropLast ∈ wsL_law := mw_in22 (List.mem_of_getElem? (i := 20) rfl)
theorem mw_22_21 : Cond.code yX2_dropLast cX2_dropLast 2 none ∈ wsL_law := mw_in22 (List.mem_of_getElem? (i := 21) rfl)
theorem mw_22_22 : Cond.methodLink RL 52 yX7_makeUp ∈ wsL_law := mw_in22 (List.mem_of_getElem? (i := 22) rfl)
theorem mw_22_23 : Cond.instanceMethod yX7_makeUp ∈ wsL_law := mw_in22 (List.mem_of_getElem? (i := 23) rfl)
theorem mw_22_3 : Cond.instanceMethod yX3_isTooDear ∈ wsL_law := mw_in22 (List.mem_of_getElem? (i := 3) rfl)
theorem mw_22_4 : Cond.selects RX3 yX3_isTooDear yX3_isTooDear ∈ wsL_law := mw_in22 (List.mem_of_getElem? (i := 4) rfl)
theorem mw_22_5 : Cond.code yX3_isTooDear cX3_isTooDear 3 (some .boolean) ∈ wsL_law := mw_in22 (List.mem_of_getElem? (i := 5) rfl)
theorem mw_22_6 : Cond.fieldLink RX3 112 "ShuntYard$Yard" "settings" "[I" ∈ wsL_law := mw_in22 (List.mem_of_getElem? (i := 6) rfl)
theorem mw_22_7 : Cond.fieldLink RX3 115 "ShuntYard$Row" "minutes" "I" ∈ wsL_law := mw_in22 (List.mem_of_getElem? (i := 7) rfl)
theorem mw_22_8 : Cond.methodLink RX3 86 yX5_costOrCode ∈ wsL_law := mw_in22 (List.mem_of_getElem? (i := 8) rfl)
theorem mw_22_9 : Cond.methodLink RX3 90 yX3_seekBehindMove ∈ wsL_law := mw_in22 (List.mem_of_getElem? (i := 9) rfl)
theorem mw_23_0 : Cond.selects RX7 yX7_makeUp yX7_makeUp ∈ wsL_law := mw_in23 (List.mem_of_getElem? (i := 0) rfl)
theorem mw_23_1 : Cond.code yX7_makeUp cX7_makeUp 4 (some .int) ∈ wsL_law := mw_in23 (List.mem_of_getElem? (i := 1) rfl)
theorem mw_23_10 : Cond.selects RX7 yX7_note yX7_note ∈ wsL_law := mw_in23 (List.mem_of_getElem? (i := 10) rfl)
theorem mw_23_11 : Cond.code yX7_note cX7_note 5 none ∈ wsL_law := mw_in23 (List.mem_of_getElem? (i := 11) rfl)
theorem mw_23_12 : Cond.methodLink RX7 163 yX7_madeUp ∈ wsL_law := mw_in23 (List.mem_of_getElem? (i := 12) rfl)
theorem mw_23_13 : Cond.instanceMethod yX7_madeUp ∈ wsL_law := mw_in23 (List.mem_of_getElem? (i := 13) rfl)
theorem mw_23_14 : Cond.selects RX7 yX7_madeUp yX7_madeUp ∈ wsL_law := mw_in23 (List.mem_of_getElem? (i := 14) rfl)
theorem mw_23_15 : Cond.code yX7_madeUp cX7_madeUp 4 (some .int) ∈ wsL_law := mw_in23 (List.mem_of_getElem? (i := 15) rfl)
theorem mw_23_16 : Cond.methodLink RX7 169 yX7_spread ∈ wsL_law := mw_in23 (List.mem_of_getElem? (i := 16) rfl)
theorem mw_23_17 : Cond.instanceMethod yX7_spread ∈ wsL_law := mw_in23 (List.mem_of_getElem? (i := 17) rfl)
theorem mw_23_18 : Cond.selects RX7 yX7_spread yX7_spread ∈ wsL_law := mw_in23 (List.mem_of_getElem? (i := 18) rfl)
theorem mw_23_19 : Cond.code yX7_spread cX7_spread 3 (some .int) ∈ wsL_law := mw_in23 (List.mem_of_getElem? (i := 19) rfl)
theorem mw_23_2 : Cond.fieldLink RX7 157 "ShuntYardModel" "bestMoves" "I" ∈ wsL_law := mw_in23 (List.mem_of_getElem? (i := 2) rfl)
theorem mw_23_20 : Cond.methodLink RX7 175 yX7_isWorthIt ∈ wsL_law := mw_in23 (List.mem_of_getElem? (i := 20) rfl)
theorem mw_23_21 : Cond.instanceMethod yX7_isWorthIt ∈ wsL_law := mw_in23 (List.mem_of_getElem? (i := 21) rfl)
theorem mw_23_22 : Cond.selects RX7 yX7_isWorthIt yX7_isWorthIt ∈ wsL_law := mw_in23 (List.mem_of_getElem? (i := 22) rfl)
theorem mw_23_23 : Cond.code yX7_isWorthIt cX7_isWorthIt 2 (some .boolean) ∈ wsL_law := mw_in23 (List.mem_of_getElem? (i := 23) rfl)
theorem mw_23_3 : Cond.fieldLink RX7 160 "ShuntYardModel" "bestMinutes" "I" ∈ wsL_law := mw_in23 (List.mem_of_getElem? (i := 3) rfl)
theorem mw_23_4 : Cond.methodLink RX7 190 yX7_search ∈ wsL_law := mw_in23 (List.mem_of_getElem? (i := 4) rfl)
theorem mw_23_5 : Cond.instanceMethod yX7_search ∈ wsL_law := mw_in23 (List.mem_of_getElem? (i := 5) rfl)
theorem mw_23_6 : Cond.selects RX7 yX7_search yX7_search ∈ wsL_law := mw_in23 (List.mem_of_getElem? (i := 6) rfl)
theorem mw_23_7 : Cond.code yX7_search cX7_search 4 none ∈ wsL_law := mw_in23 (List.mem_of_getElem? (i := 7) rfl)
theorem mw_23_8 : Cond.methodLink RX7 172 yX7_note ∈ wsL_law := mw_in23 (List.mem_of_getElem? (i := 8) rfl)
theorem mw_23_9 : Cond.instanceMethod yX7_note ∈ wsL_law := mw_in23 (List.mem_of_getElem? (i := 9) rfl)
theorem mw_24_0 : Cond.methodLink RX7 178 yX7_enter ∈ wsL_law := mw_in24 (List.mem_of_getElem? (i := 0) rfl)
theorem mw_24_1 : Cond.instanceMethod yX7_enter ∈ wsL_law := mw_in24 (List.mem_of_getElem? (i := 1) rfl)
theorem mw_24_10 : Cond.selects RX7 yX7_release yX7_release ∈ wsL_law := mw_in24 (List.mem_of_getElem? (i := 10) rfl)
theorem mw_24_11 : Cond.code yX7_release cX7_release 3 none ∈ wsL_law := mw_in24 (List.mem_of_getElem? (i := 11) rfl)
theorem mw_24_12 : Cond.methodLink RX7 184 yX7_next ∈ wsL_law := mw_in24 (List.mem_of_getElem? (i := 12) rfl)
theorem mw_24_13 : Cond.instanceMethod yX7_next ∈ wsL_law := mw_in24 (List.mem_of_getElem? (i := 13) rfl)
theorem mw_24_14 : Cond.selects RX7 yX7_next yX7_next ∈ wsL_law := mw_in24 (List.mem_of_getElem? (i := 14) rfl)
theorem mw_24_15 : Cond.code yX7_next cX7_next 3 (some .boolean) ∈ wsL_law := mw_in24 (List.mem_of_getElem? (i := 15) rfl)
theorem mw_24_16 : Cond.methodLink RX7 187 yX7_tryMove ∈ wsL_law := mw_in24 (List.mem_of_getElem? (i := 16) rfl)
theorem mw_24_17 : Cond.instanceMethod yX7_tryMove ∈ wsL_law := mw_in24 (List.mem_of_getElem? (i := 17) rfl)
theorem mw_24_18 : Cond.selects RX7 yX7_tryMove yX7_tryMove ∈ wsL_law := mw_in24 (List.mem_of_getElem? (i := 18) rfl)
theorem mw_24_19 : Cond.code yX7_tryMove cX7_tryMove 4 (some .int) ∈ wsL_law := mw_in24 (List.mem_of_getElem? (i := 19) rfl)
theorem mw_24_2 : Cond.selects RX7 yX7_enter yX7_enter ∈ wsL_law := mw_in24 (List.mem_of_getElem? (i := 2) rfl)
theorem mw_24_20 : Cond.methodLink RL 53 yX6_undo ∈ wsL_law := mw_in24 (List.mem_of_getElem? (i := 20) rfl)
theorem mw_24_21 : Cond.instanceMethod yX6_undo ∈ wsL_law := mw_in24 (List.mem_of_getElem? (i := 21) rfl)
theorem mw_24_22 : Cond.selects RX6 yX6_undo yX6_undo ∈ wsL_law := mw_in24 (List.mem_of_getElem? (i := 22) rfl)
theorem mw_24_23 : Cond.code yX6_undo cX6_undo 1 (some .int) ∈ wsL_law := mw_in24 (List.mem_of_getElem? (i := 23) rfl)
theorem mw_24_3 : Cond.code yX7_enter cX7_enter 2 none ∈ wsL_law := mw_in24 (List.mem_of_getElem? (i := 3) rfl)
theorem mw_24_4 : Cond.methodLink RX7 166 yX7_hold ∈ wsL_law := mw_in24 (List.mem_of_getElem? (i := 4) rfl)
theorem mw_24_5 : Cond.instanceMethod yX7_hold ∈ wsL_law := mw_in24 (List.mem_of_getElem? (i := 5) rfl)
theorem mw_24_6 : Cond.selects RX7 yX7_hold yX7_hold ∈ wsL_law := mw_in24 (List.mem_of_getElem? (i := 6) rfl)
theorem mw_24_7 : Cond.code yX7_hold cX7_hold 3 none ∈ wsL_law := mw_in24 (List.mem_of_getElem? (i := 7) rfl)
theorem mw_24_8 : Cond.methodLink RX7 181 yX7_release ∈ wsL_law := mw_in24 (List.mem_of_getElem? (i := 8) rfl)
theorem mw_24_9 : Cond.instanceMethod yX7_release ∈ wsL_law := mw_in24 (List.mem_of_getElem? (i := 9) rfl)
theorem mw_25_0 : Cond.fieldLink RX6 155 "ShuntYard$History" "count" "I" ∈ wsL_law := mw_in25 (List.mem_of_getElem? (i := 0) rfl)
theorem mw_25_1 : Cond.methodLink RX6 151 yX1_restore ∈ wsL_law := mw_in25 (List.mem_of_getElem? (i := 1) rfl)
theorem mw_25_10 : Cond.instanceMethod yX6_write ∈ wsL_law := mw_in25 (List.mem_of_getElem? (i := 10) rfl)
theorem mw_25_11 : Cond.selects RX6 yX6_write yX6_write ∈ wsL_law := mw_in25 (List.mem_of_getElem? (i := 11) rfl)
theorem mw_25_12 : Cond.code yX6_write cX6_write 2 (some .int) ∈ wsL_law := mw_in25 (List.mem_of_getElem? (i := 12) rfl)
theorem mw_25_13 : Cond.fieldLink RX6 158 "ShuntYard$Text" "length" "I" ∈ wsL_law := mw_in25 (List.mem_of_getElem? (i := 13) rfl)
theorem mw_25_14 : Cond.methodLink RX6 160 yX4_append ∈ wsL_law := mw_in25 (List.mem_of_getElem? (i := 14) rfl)
theorem mw_25_15 : Cond.instanceMethod yX4_append ∈ wsL_law := mw_in25 (List.mem_of_getElem? (i := 15) rfl)
theorem mw_25_16 : Cond.selects RX4 yX4_append yX4_append ∈ wsL_law := mw_in25 (List.mem_of_getElem? (i := 16) rfl)
theorem mw_25_17 : Cond.code yX4_append cX4_append 2 none ∈ wsL_law := mw_in25 (List.mem_of_getElem? (i := 17) rfl)
theorem mw_25_18 : Cond.methodLink RL 60 yX7_write ∈ wsL_law := mw_in25 (List.mem_of_getElem? (i := 18) rfl)
theorem mw_25_19 : Cond.instanceMethod yX7_write ∈ wsL_law := mw_in25 (List.mem_of_getElem? (i := 19) rfl)
theorem mw_25_2 : Cond.instanceMethod yX1_restore ∈ wsL_law := mw_in25 (List.mem_of_getElem? (i := 2) rfl)
theorem mw_25_20 : Cond.selects RX7 yX7_write yX7_write ∈ wsL_law := mw_in25 (List.mem_of_getElem? (i := 20) rfl)
theorem mw_25_21 : Cond.code yX7_write cX7_write 2 (some .int) ∈ wsL_law := mw_in25 (List.mem_of_getElem? (i := 21) rfl)
theorem mw_25_22 : Cond.methodLink RL 61 yX6_wipe ∈ wsL_law := mw_in25 (List.mem_of_getElem? (i := 22) rfl)
theorem mw_25_23 : Cond.instanceMethod yX6_wipe ∈ wsL_law := mw_in25 (List.mem_of_getElem? (i := 23) rfl)
theorem mw_25_3 : Cond.selects RX1 yX1_restore yX1_restore ∈ wsL_law := mw_in25 (List.mem_of_getElem? (i := 3) rfl)
theorem mw_25_4 : Cond.code yX1_restore cX1_restore 3 (some .boolean) ∈ wsL_law := mw_in25 (List.mem_of_getElem? (i := 4) rfl)
theorem mw_25_5 : Cond.methodLink RL 56 yX7_undo ∈ wsL_law := mw_in25 (List.mem_of_getElem? (i := 5) rfl)
theorem mw_25_6 : Cond.instanceMethod yX7_undo ∈ wsL_law := mw_in25 (List.mem_of_getElem? (i := 6) rfl)
theorem mw_25_7 : Cond.selects RX7 yX7_undo yX7_undo ∈ wsL_law := mw_in25 (List.mem_of_getElem? (i := 7) rfl)
theorem mw_25_8 : Cond.code yX7_undo cX7_undo 2 (some .int) ∈ wsL_law := mw_in25 (List.mem_of_getElem? (i := 8) rfl)
theorem mw_25_9 : Cond.methodLink RL 57 yX6_write ∈ wsL_law := mw_in25 (List.mem_of_getElem? (i := 9) rfl)
theorem mw_26_0 : Cond.selects RX6 yX6_wipe yX6_wipe ∈ wsL_law := mw_in26 (List.mem_of_getElem? (i := 0) rfl)
theorem mw_26_1 : Cond.code yX6_wipe cX6_wipe 2 (some .int) ∈ wsL_law := mw_in26 (List.mem_of_getElem? (i := 1) rfl)
theorem mw_26_10 : Cond.fieldLink RX6 164 "ShuntYard$Text" "faultKind" "I" ∈ wsL_law := mw_in26 (List.mem_of_getElem? (i := 10) rfl)
theorem mw_26_11 : Cond.fieldLink RX6 167 "ShuntYard$Text" "faultPlace" "I" ∈ wsL_law := mw_in26 (List.mem_of_getElem? (i := 11) rfl)
theorem mw_26_12 : Cond.methodLink RL 68 yX7_fault ∈ wsL_law := mw_in26 (List.mem_of_getElem? (i := 12) rfl)
theorem mw_26_13 : Cond.instanceMethod yX7_fault ∈ wsL_law := mw_in26 (List.mem_of_getElem? (i := 13) rfl)
theorem mw_26_14 : Cond.selects RX7 yX7_fault yX7_fault ∈ wsL_law := mw_in26 (List.mem_of_getElem? (i := 14) rfl)
theorem mw_26_15 : Cond.code yX7_fault cX7_fault 2 (some .int) ∈ wsL_law := mw_in26 (List.mem_of_getElem? (i := 15) rfl)
theorem mw_26_16 : Cond.methodLink RL 69 yX6_told ∈ wsL_law := mw_in26 (List.mem_of_getElem? (i := 16) rfl)
theorem mw_26_17 : Cond.instanceMethod yX6_told ∈ wsL_law := mw_in26 (List.mem_of_getElem? (i := 17) rfl)
theorem mw_26_18 : Cond.selects RX6 yX6_told yX6_told ∈ wsL_law := mw_in26 (List.mem_of_getElem? (i := 18) rfl)
theorem mw_26_19 : Cond.code yX6_told cX6_told 2 (some .int) ∈ wsL_law := mw_in26 (List.mem_of_getElem? (i := 19) rfl)
theorem mw_26_2 : Cond.methodLink RL 64 yX7_wipe ∈ wsL_law := mw_in26 (List.mem_of_getElem? (i := 2) rfl)
theorem mw_26_20 : Cond.fieldLink RX6 170 "ShuntYard$Yard" "tracks" "I" ∈ wsL_law := mw_in26 (List.mem_of_getElem? (i := 20) rfl)
theorem mw_26_21 : Cond.fieldLink RX6 176 "ShuntYard$Yard" "moves" "I" ∈ wsL_law := mw_in26 (List.mem_of_getElem? (i := 21) rfl)
theorem mw_26_22 : Cond.fieldLink RX6 177 "ShuntYard$Yard" "moveMinutes" "I" ∈ wsL_law := mw_in26 (List.mem_of_getElem? (i := 22) rfl)
theorem mw_26_23 : Cond.fieldLink RX6 180 "ShuntYard$Yard" "trainsGone" "I" ∈ wsL_law := mw_in26 (List.mem_of_getElem? (i := 23) rfl)
theorem mw_26_3 : Cond.instanceMethod yX7_wipe ∈ wsL_law := mw_in26 (List.mem_of_getElem? (i := 3) rfl)
theorem mw_26_4 : Cond.selects RX7 yX7_wipe yX7_wipe ∈ wsL_law := mw_in26 (List.mem_of_getElem? (i := 4) rfl)
theorem mw_26_5 : Cond.code yX7_wipe cX7_wipe 2 (some .int) ∈ wsL_law := mw_in26 (List.mem_of_getElem? (i := 5) rfl)
theorem mw_26_6 : Cond.methodLink RL 65 yX6_fault ∈ wsL_law := mw_in26 (List.mem_of_getElem? (i := 6) rfl)
theorem mw_26_7 : Cond.instanceMethod yX6_fault ∈ wsL_law := mw_in26 (List.mem_of_getElem? (i := 7) rfl)
theorem mw_26_8 : Cond.selects RX6 yX6_fault yX6_fault ∈ wsL_law := mw_in26 (List.mem_of_getElem? (i := 8) rfl)
theorem mw_26_9 : Cond.code yX6_fault cX6_fault 2 (some .int) ∈ wsL_law := mw_in26 (List.mem_of_getElem? (i := 9) rfl)
theorem mw_27_0 : Cond.fieldLink RX6 183 "ShuntYard$Yard" "wagonsGone" "I" ∈ wsL_law := mw_in27 (List.mem_of_getElem? (i := 0) rfl)
theorem mw_27_1 : Cond.fieldLink RX6 186 "ShuntYard$Yard" "wagonsCome" "I" ∈ wsL_law := mw_in27 (List.mem_of_getElem? (i := 1) rfl)
theorem mw_27_10 : Cond.code yX7_told cX7_told 2 (some .int) ∈ wsL_law := mw_in27 (List.mem_of_getElem? (i := 10) rfl)
theorem mw_27_11 : Cond.methodLink RX7 200 yX7_unsafeTracks ∈ wsL_law := mw_in27 (List.mem_of_getElem? (i := 11) rfl)
theorem mw_27_12 : Cond.instanceMethod yX7_unsafeTracks ∈ wsL_law := mw_in27 (List.mem_of_getElem? (i := 12) rfl)
theorem mw_27_13 : Cond.selects RX7 yX7_unsafeTracks yX7_unsafeTracks ∈ wsL_law := mw_in27 (List.mem_of_getElem? (i := 13) rfl)
theorem mw_27_14 : Cond.code yX7_unsafeTracks cX7_unsafeTracks 3 (some .int) ∈ wsL_law := mw_in27 (List.mem_of_getElem? (i := 14) rfl)
theorem mw_27_15 : Cond.methodLink RL 73 yX6_setting ∈ wsL_law := mw_in27 (List.mem_of_getElem? (i := 15) rfl)
theorem mw_27_16 : Cond.instanceMethod yX6_setting ∈ wsL_law := mw_in27 (List.mem_of_getElem? (i := 16) rfl)
theorem mw_27_17 : Cond.selects RX6 yX6_setting yX6_setting ∈ wsL_law := mw_in27 (List.mem_of_getElem? (i := 17) rfl)
theorem mw_27_18 : Cond.code yX6_setting cX6_setting 2 (some .int) ∈ wsL_law := mw_in27 (List.mem_of_getElem? (i := 18) rfl)
theorem mw_27_19 : Cond.methodLink RL 76 yX7_setting ∈ wsL_law := mw_in27 (List.mem_of_getElem? (i := 19) rfl)
theorem mw_27_2 : Cond.methodLink RX6 173 yX5_unsafeTracks ∈ wsL_law := mw_in27 (List.mem_of_getElem? (i := 2) rfl)
theorem mw_27_20 : Cond.instanceMethod yX7_setting ∈ wsL_law := mw_in27 (List.mem_of_getElem? (i := 20) rfl)
theorem mw_27_21 : Cond.selects RX7 yX7_setting yX7_setting ∈ wsL_law := mw_in27 (List.mem_of_getElem? (i := 21) rfl)
theorem mw_27_22 : Cond.code yX7_setting cX7_setting 2 (some .int) ∈ wsL_law := mw_in27 (List.mem_of_getElem? (i := 22) rfl)
theorem mw_27_23 : Cond.methodLink RL 77 yX6_track ∈ wsL_law := mw_in27 (List.mem_of_getElem? (i := 23) rfl)
theorem mw_27_3 : Cond.instanceMethod yX5_unsafeTracks ∈ wsL_law := mw_in27 (List.mem_of_getElem? (i := 3) rfl)
theorem mw_27_4 : Cond.selects RX5 yX5_unsafeTracks yX5_unsafeTracks ∈ wsL_law := mw_in27 (List.mem_of_getElem? (i := 4) rfl)
theorem mw_27_5 : Cond.code yX5_unsafeTracks cX5_unsafeTracks 3 (some .int) ∈ wsL_law := mw_in27 (List.mem_of_getElem? (i := 5) rfl)
theorem mw_27_6 : Cond.methodLink RX6 189 yX5_madeUpTrack ∈ wsL_law := mw_in27 (List.mem_of_getElem? (i := 6) rfl)
theorem mw_27_7 : Cond.methodLink RL 72 yX7_told ∈ wsL_law := mw_in27 (List.mem_of_getElem? (i := 7) rfl)
theorem mw_27_8 : Cond.instanceMethod yX7_told ∈ wsL_law := mw_in27 (List.mem_of_getElem? (i := 8) rfl)
theorem mw_27_9 : Cond.selects RX7 yX7_told yX7_told ∈ wsL_law := mw_in27 (List.mem_of_getElem? (i := 9) rfl)
theorem mw_28_0 : Cond.instanceMethod yX6_track ∈ wsL_law := mw_in28 (List.mem_of_getElem? (i := 0) rfl)
theorem mw_28_1 : Cond.selects RX6 yX6_track yX6_track ∈ wsL_law := mw_in28 (List.mem_of_getElem? (i := 1) rfl)
theorem mw_28_10 : Cond.instanceMethod yX7_track ∈ wsL_law := mw_in28 (List.mem_of_getElem? (i := 10) rfl)
theorem mw_28_11 : Cond.selects RX7 yX7_track yX7_track ∈ wsL_law := mw_in28 (List.mem_of_getElem? (i := 11) rfl)
theorem mw_28_12 : Cond.code yX7_track cX7_track 3 (some .int) ∈ wsL_law := mw_in28 (List.mem_of_getElem? (i := 12) rfl)
theorem mw_28_13 : Cond.methodLink RL 81 yX6_wagon ∈ wsL_law := mw_in28 (List.mem_of_getElem? (i := 13) rfl)
theorem mw_28_14 : Cond.instanceMethod yX6_wagon ∈ wsL_law := mw_in28 (List.mem_of_getElem? (i := 14) rfl)
theorem mw_28_15 : Cond.selects RX6 yX6_wagon yX6_wagon ∈ wsL_law := mw_in28 (List.mem_of_getElem? (i := 15) rfl)
theorem mw_28_16 : Cond.code yX6_wagon cX6_wagon 5 (some .int) ∈ wsL_law := mw_in28 (List.mem_of_getElem? (i := 16) rfl)
theorem mw_28_17 : Cond.methodLink RX6 201 yX5_wagonAt ∈ wsL_law := mw_in28 (List.mem_of_getElem? (i := 17) rfl)
theorem mw_28_18 : Cond.methodLink RX6 205 yX6_numberOf ∈ wsL_law := mw_in28 (List.mem_of_getElem? (i := 18) rfl)
theorem mw_28_19 : Cond.static yX6_numberOf ∈ wsL_law := mw_in28 (List.mem_of_getElem? (i := 19) rfl)
theorem mw_28_2 : Cond.code yX6_track cX6_track 3 (some .int) ∈ wsL_law := mw_in28 (List.mem_of_getElem? (i := 2) rfl)
theorem mw_28_20 : Cond.code yX6_numberOf cX6_numberOf 1 (some .int) ∈ wsL_law := mw_in28 (List.mem_of_getElem? (i := 20) rfl)
theorem mw_28_21 : Cond.methodLink RX6 208 yX6_destinationOf ∈ wsL_law := mw_in28 (List.mem_of_getElem? (i := 21) rfl)
theorem mw_28_22 : Cond.methodLink RX6 211 yX6_kindOf ∈ wsL_law := mw_in28 (List.mem_of_getElem? (i := 22) rfl)
theorem mw_28_23 : Cond.methodLink RL 84 yX7_wagon ∈ wsL_law := mw_in28 (List.mem_of_getElem? (i := 23) rfl)
theorem mw_28_3 : Cond.methodLink RX6 192 yX5_isSafe ∈ wsL_law := mw_in28 (List.mem_of_getElem? (i := 3) rfl)
theorem mw_28_4 : Cond.methodLink RX6 195 yX5_testHoldsFor ∈ wsL_law := mw_in28 (List.mem_of_getElem? (i := 4) rfl)
theorem mw_28_5 : Cond.methodLink RX6 198 yX5_leastGap ∈ wsL_law := mw_in28 (List.mem_of_getElem? (i := 5) rfl)
theorem mw_28_6 : Cond.instanceMethod yX5_leastGap ∈ wsL_law := mw_in28 (List.mem_of_getElem? (i := 6) rfl)
theorem mw_28_7 : Cond.selects RX5 yX5_leastGap yX5_leastGap ∈ wsL_law := mw_in28 (List.mem_of_getElem? (i := 7) rfl)
theorem mw_28_8 : Cond.code yX5_leastGap cX5_leastGap 2 (some .int) ∈ wsL_law := mw_in28 (List.mem_of_getElem? (i := 8) rfl)
theorem mw_28_9 : Cond.methodLink RL 80 yX7_track ∈ wsL_law := mw_in28 (List.mem_of_getElem? (i := 9) rfl)
theorem mw_29_0 : Cond.instanceMethod yX7_wagon ∈ wsL_law := mw_in29 (List.mem_of_getElem? (i := 0) rfl)
theorem mw_29_1 : Cond.selects RX7 yX7_wagon yX7_wagon ∈ wsL_law := mw_in29 (List.mem_of_getElem? (i := 1) rfl)
theorem mw_29_10 : Cond.selects RX7 yX7_train yX7_train ∈ wsL_law := mw_in29 (List.mem_of_getElem? (i := 10) rfl)
theorem mw_29_11 : Cond.code yX7_train cX7_train 2 (some .int) ∈ wsL_law := mw_in29 (List.mem_of_getElem? (i := 11) rfl)
theorem mw_29_12 : Cond.methodLink RL 89 yX6_find ∈ wsL_law := mw_in29 (List.mem_of_getElem? (i := 12) rfl)
theorem mw_29_13 : Cond.instanceMethod yX6_find ∈ wsL_law := mw_in29 (List.mem_of_getElem? (i := 13) rfl)
theorem mw_29_14 : Cond.selects RX6 yX6_find yX6_find ∈ wsL_law := mw_in29 (List.mem_of_getElem? (i := 14) rfl)
theorem mw_29_15 : Cond.code yX6_find cX6_find 4 (some .int) ∈ wsL_law := mw_in29 (List.mem_of_getElem? (i := 15) rfl)
theorem mw_29_16 : Cond.methodLink RX6 217 yX5_spotOf ∈ wsL_law := mw_in29 (List.mem_of_getElem? (i := 16) rfl)
theorem mw_29_17 : Cond.instanceMethod yX5_spotOf ∈ wsL_law := mw_in29 (List.mem_of_getElem? (i := 17) rfl)
theorem mw_29_18 : Cond.selects RX5 yX5_spotOf yX5_spotOf ∈ wsL_law := mw_in29 (List.mem_of_getElem? (i := 18) rfl)
theorem mw_29_19 : Cond.code yX5_spotOf cX5_spotOf 4 (some .int) ∈ wsL_law := mw_in29 (List.mem_of_getElem? (i := 19) rfl)
theorem mw_29_2 : Cond.code yX7_wagon cX7_wagon 4 (some .int) ∈ wsL_law := mw_in29 (List.mem_of_getElem? (i := 2) rfl)
theorem mw_29_20 : Cond.methodLink RL 92 yX7_find ∈ wsL_law := mw_in29 (List.mem_of_getElem? (i := 20) rfl)
theorem mw_29_21 : Cond.instanceMethod yX7_find ∈ wsL_law := mw_in29 (List.mem_of_getElem? (i := 21) rfl)
theorem mw_29_22 : Cond.selects RX7 yX7_find yX7_find ∈ wsL_law := mw_in29 (List.mem_of_getElem? (i := 22) rfl)
theorem mw_29_23 : Cond.code yX7_find cX7_find 5 (some .int) ∈ wsL_law := mw_in29 (List.mem_of_getElem? (i := 23) rfl)
theorem mw_29_3 : Cond.methodLink RL 85 yX6_train ∈ wsL_law := mw_in29 (List.mem_of_getElem? (i := 3) rfl)
theorem mw_29_4 : Cond.instanceMethod yX6_train ∈ wsL_law := mw_in29 (List.mem_of_getElem? (i := 4) rfl)
theorem mw_29_5 : Cond.selects RX6 yX6_train yX6_train ∈ wsL_law := mw_in29 (List.mem_of_getElem? (i := 5) rfl)
theorem mw_29_6 : Cond.code yX6_train cX6_train 2 (some .int) ∈ wsL_law := mw_in29 (List.mem_of_getElem? (i := 6) rfl)
theorem mw_29_7 : Cond.fieldLink RX6 214 "ShuntYard$Yard" "destinations" "[I" ∈ wsL_law := mw_in29 (List.mem_of_getElem? (i := 7) rfl)
theorem mw_29_8 : Cond.methodLink RL 88 yX7_train ∈ wsL_law := mw_in29 (List.mem_of_getElem? (i := 8) rfl)
theorem mw_29_9 : Cond.instanceMethod yX7_train ∈ wsL_law := mw_in29 (List.mem_of_getElem? (i := 9) rfl)
theorem mw_2_0 : Cond.fieldLink RX6 30 "ShuntYard" "text" "LShuntYard$Text;" ∈ wsL_law := mw_in2 (List.mem_of_getElem? (i := 0) rfl)
theorem mw_2_1 : Cond.classLink RX6 34 RX3 ∈ wsL_law := mw_in2 (List.mem_of_getElem? (i := 1) rfl)
theorem mw_2_10 : Cond.fieldLink RX5 15 "ShuntYard$Yard" "capacity" "I" ∈ wsL_law := mw_in2 (List.mem_of_getElem? (i := 10) rfl)
theorem mw_2_11 : Cond.arrayClass .int ∈ wsL_law := mw_in2 (List.mem_of_getElem? (i := 11) rfl)
theorem mw_2_12 : Cond.fieldLink RX5 18 "ShuntYard$Yard" "settings" "[I" ∈ wsL_law := mw_in2 (List.mem_of_getElem? (i := 12) rfl)
theorem mw_2_13 : Cond.fieldLink RX5 22 "ShuntYard$Yard" "destinations" "[I" ∈ wsL_law := mw_in2 (List.mem_of_getElem? (i := 13) rfl)
theorem mw_2_14 : Cond.fieldLink RX5 25 "ShuntYard$Yard" "length" "[I" ∈ wsL_law := mw_in2 (List.mem_of_getElem? (i := 14) rfl)
theorem mw_2_15 : Cond.fieldLink RX5 28 "ShuntYard$Yard" "testEnd" "[I" ∈ wsL_law := mw_in2 (List.mem_of_getElem? (i := 15) rfl)
theorem mw_2_16 : Cond.fieldLink RX5 31 "ShuntYard$Yard" "wagons" "[I" ∈ wsL_law := mw_in2 (List.mem_of_getElem? (i := 16) rfl)
theorem mw_2_17 : Cond.classLink RX5 34 RX0 ∈ wsL_law := mw_in2 (List.mem_of_getElem? (i := 17) rfl)
theorem mw_2_18 : Cond.instantiable RX0 3 ∈ wsL_law := mw_in2 (List.mem_of_getElem? (i := 18) rfl)
theorem mw_2_19 : Cond.initialized RX0 ∈ wsL_law := mw_in2 (List.mem_of_getElem? (i := 19) rfl)
theorem mw_2_2 : Cond.instantiable RX3 7 ∈ wsL_law := mw_in2 (List.mem_of_getElem? (i := 2) rfl)
theorem mw_2_20 : Cond.fieldLink RX5 37 "ShuntYard$Yard" "gaps" "LShuntYard$Gaps;" ∈ wsL_law := mw_in2 (List.mem_of_getElem? (i := 20) rfl)
theorem mw_2_21 : Cond.instanceMethod yX0_init ∈ wsL_law := mw_in2 (List.mem_of_getElem? (i := 21) rfl)
theorem mw_2_22 : Cond.code yX0_init cX0_init 1 none ∈ wsL_law := mw_in2 (List.mem_of_getElem? (i := 22) rfl)
theorem mw_2_23 : Cond.methodLink RX0 3 objectInit ∈ wsL_law := mw_in2 (List.mem_of_getElem? (i := 23) rfl)
theorem mw_2_3 : Cond.initialized RX3 ∈ wsL_law := mw_in2 (List.mem_of_getElem? (i := 3) rfl)
theorem mw_2_4 : Cond.fieldLink RX6 37 "ShuntYard" "search" "LShuntYard$Search;" ∈ wsL_law := mw_in2 (List.mem_of_getElem? (i := 4) rfl)
theorem mw_2_5 : Cond.fieldLink RX6 41 "ShuntYard" "reason" "I" ∈ wsL_law := mw_in2 (List.mem_of_getElem? (i := 5) rfl)
theorem mw_2_6 : Cond.instanceMethod yX5_init ∈ wsL_law := mw_in2 (List.mem_of_getElem? (i := 6) rfl)
theorem mw_2_7 : Cond.code yX5_init cX5_init 1 none ∈ wsL_law := mw_in2 (List.mem_of_getElem? (i := 7) rfl)
theorem mw_2_8 : Cond.methodLink RX5 3 objectInit ∈ wsL_law := mw_in2 (List.mem_of_getElem? (i := 8) rfl)
theorem mw_2_9 : Cond.fieldLink RX5 9 "ShuntYard$Yard" "tracks" "I" ∈ wsL_law := mw_in2 (List.mem_of_getElem? (i := 9) rfl)
theorem mw_30_0 : Cond.methodLink RL 93 yX6_mean ∈ wsL_law := mw_in30 (List.mem_of_getElem? (i := 0) rfl)
theorem mw_30_1 : Cond.instanceMethod yX6_mean ∈ wsL_law := mw_in30 (List.mem_of_getElem? (i := 1) rfl)
theorem mw_30_10 : Cond.selects RX6 yX6_cost yX6_cost ∈ wsL_law := mw_in30 (List.mem_of_getElem? (i := 10) rfl)
theorem mw_30_11 : Cond.code yX6_cost cX6_cost 4 (some .int) ∈ wsL_law := mw_in30 (List.mem_of_getElem? (i := 11) rfl)
theorem mw_30_12 : Cond.methodLink RL 101 yX7_cost ∈ wsL_law := mw_in30 (List.mem_of_getElem? (i := 12) rfl)
theorem mw_30_13 : Cond.methodLink RL 102 yX6_cheapest ∈ wsL_law := mw_in30 (List.mem_of_getElem? (i := 13) rfl)
theorem mw_30_14 : Cond.instanceMethod yX6_cheapest ∈ wsL_law := mw_in30 (List.mem_of_getElem? (i := 14) rfl)
theorem mw_30_15 : Cond.selects RX6 yX6_cheapest yX6_cheapest ∈ wsL_law := mw_in30 (List.mem_of_getElem? (i := 15) rfl)
theorem mw_30_16 : Cond.code yX6_cheapest cX6_cheapest 4 (some .int) ∈ wsL_law := mw_in30 (List.mem_of_getElem? (i := 16) rfl)
theorem mw_30_17 : Cond.fieldLink RX6 220 "ShuntYard$Row" "minutes" "I" ∈ wsL_law := mw_in30 (List.mem_of_getElem? (i := 17) rfl)
theorem mw_30_18 : Cond.methodLink RL 105 yX7_cheapest ∈ wsL_law := mw_in30 (List.mem_of_getElem? (i := 18) rfl)
theorem mw_30_19 : Cond.instanceMethod yX7_cheapest ∈ wsL_law := mw_in30 (List.mem_of_getElem? (i := 19) rfl)
theorem mw_30_2 : Cond.selects RX6 yX6_mean yX6_mean ∈ wsL_law := mw_in30 (List.mem_of_getElem? (i := 2) rfl)
theorem mw_30_20 : Cond.selects RX7 yX7_cheapest yX7_cheapest ∈ wsL_law := mw_in30 (List.mem_of_getElem? (i := 20) rfl)
theorem mw_30_21 : Cond.code yX7_cheapest cX7_cheapest 3 (some .int) ∈ wsL_law := mw_in30 (List.mem_of_getElem? (i := 21) rfl)
theorem mw_30_22 : Cond.methodLink RL 106 yX6_keep ∈ wsL_law := mw_in30 (List.mem_of_getElem? (i := 22) rfl)
theorem mw_30_23 : Cond.instanceMethod yX6_keep ∈ wsL_law := mw_in30 (List.mem_of_getElem? (i := 23) rfl)
theorem mw_30_3 : Cond.code yX6_mean cX6_mean 1 (some .float) ∈ wsL_law := mw_in30 (List.mem_of_getElem? (i := 3) rfl)
theorem mw_30_4 : Cond.methodLink RL 97 yX7_mean ∈ wsL_law := mw_in30 (List.mem_of_getElem? (i := 4) rfl)
theorem mw_30_5 : Cond.instanceMethod yX7_mean ∈ wsL_law := mw_in30 (List.mem_of_getElem? (i := 5) rfl)
theorem mw_30_6 : Cond.selects RX7 yX7_mean yX7_mean ∈ wsL_law := mw_in30 (List.mem_of_getElem? (i := 6) rfl)
theorem mw_30_7 : Cond.code yX7_mean cX7_mean 1 (some .float) ∈ wsL_law := mw_in30 (List.mem_of_getElem? (i := 7) rfl)
theorem mw_30_8 : Cond.methodLink RL 98 yX6_cost ∈ wsL_law := mw_in30 (List.mem_of_getElem? (i := 8) rfl)
theorem mw_30_9 : Cond.instanceMethod yX6_cost ∈ wsL_law := mw_in30 (List.mem_of_getElem? (i := 9) rfl)
theorem mw_31_0 : Cond.selects RX6 yX6_keep yX6_keep ∈ wsL_law := mw_in31 (List.mem_of_getElem? (i := 0) rfl)
theorem mw_31_1 : Cond.code yX6_keep cX6_keep 2 (some .int) ∈ wsL_law := mw_in31 (List.mem_of_getElem? (i := 1) rfl)
theorem mw_31_10 : Cond.code yX7_isImage cX7_isImage 1 (some .boolean) ∈ wsL_law := mw_in31 (List.mem_of_getElem? (i := 10) rfl)
theorem mw_31_11 : Cond.methodLink RL 110 yX6_back ∈ wsL_law := mw_in31 (List.mem_of_getElem? (i := 11) rfl)
theorem mw_31_12 : Cond.instanceMethod yX6_back ∈ wsL_law := mw_in31 (List.mem_of_getElem? (i := 12) rfl)
theorem mw_31_13 : Cond.selects RX6 yX6_back yX6_back ∈ wsL_law := mw_in31 (List.mem_of_getElem? (i := 13) rfl)
theorem mw_31_14 : Cond.code yX6_back cX6_back 2 (some .int) ∈ wsL_law := mw_in31 (List.mem_of_getElem? (i := 14) rfl)
theorem mw_31_15 : Cond.methodLink RL 113 yX7_back ∈ wsL_law := mw_in31 (List.mem_of_getElem? (i := 15) rfl)
theorem mw_31_16 : Cond.instanceMethod yX7_back ∈ wsL_law := mw_in31 (List.mem_of_getElem? (i := 16) rfl)
theorem mw_31_17 : Cond.selects RX7 yX7_back yX7_back ∈ wsL_law := mw_in31 (List.mem_of_getElem? (i := 17) rfl)
theorem mw_31_18 : Cond.code yX7_back cX7_back 3 (some .int) ∈ wsL_law := mw_in31 (List.mem_of_getElem? (i := 18) rfl)
theorem mw_31_2 : Cond.methodLink RX6 223 yX5_copyFrom ∈ wsL_law := mw_in31 (List.mem_of_getElem? (i := 2) rfl)
theorem mw_31_3 : Cond.methodLink RL 109 yX7_keep ∈ wsL_law := mw_in31 (List.mem_of_getElem? (i := 3) rfl)
theorem mw_31_4 : Cond.instanceMethod yX7_keep ∈ wsL_law := mw_in31 (List.mem_of_getElem? (i := 4) rfl)
theorem mw_31_5 : Cond.selects RX7 yX7_keep yX7_keep ∈ wsL_law := mw_in31 (List.mem_of_getElem? (i := 5) rfl)
theorem mw_31_6 : Cond.code yX7_keep cX7_keep 3 (some .int) ∈ wsL_law := mw_in31 (List.mem_of_getElem? (i := 6) rfl)
theorem mw_31_7 : Cond.fieldLink RX7 206 "ShuntYardModel" "filled" "I" ∈ wsL_law := mw_in31 (List.mem_of_getElem? (i := 7) rfl)
theorem mw_31_8 : Cond.methodLink RX7 203 yX7_isImage ∈ wsL_law := mw_in31 (List.mem_of_getElem? (i := 8) rfl)
theorem mw_31_9 : Cond.static yX7_isImage ∈ wsL_law := mw_in31 (List.mem_of_getElem? (i := 9) rfl)
theorem mw_3_0 : Cond.instanceMethod yX1_init ∈ wsL_law := mw_in3 (List.mem_of_getElem? (i := 0) rfl)
theorem mw_3_1 : Cond.code yX1_init cX1_init 1 none ∈ wsL_law := mw_in3 (List.mem_of_getElem? (i := 1) rfl)
theorem mw_3_10 : Cond.fieldLink RX4 18 "ShuntYard$Text" "faultKind" "I" ∈ wsL_law := mw_in3 (List.mem_of_getElem? (i := 10) rfl)
theorem mw_3_11 : Cond.fieldLink RX4 22 "ShuntYard$Text" "faultPlace" "I" ∈ wsL_law := mw_in3 (List.mem_of_getElem? (i := 11) rfl)
theorem mw_3_12 : Cond.instanceMethod yX3_init ∈ wsL_law := mw_in3 (List.mem_of_getElem? (i := 12) rfl)
theorem mw_3_13 : Cond.code yX3_init cX3_init 1 none ∈ wsL_law := mw_in3 (List.mem_of_getElem? (i := 13) rfl)
theorem mw_3_14 : Cond.methodLink RX3 3 objectInit ∈ wsL_law := mw_in3 (List.mem_of_getElem? (i := 14) rfl)
theorem mw_3_15 : Cond.classLink RX3 9 RX2 ∈ wsL_law := mw_in3 (List.mem_of_getElem? (i := 15) rfl)
theorem mw_3_16 : Cond.instantiable RX2 5 ∈ wsL_law := mw_in3 (List.mem_of_getElem? (i := 16) rfl)
theorem mw_3_17 : Cond.initialized RX2 ∈ wsL_law := mw_in3 (List.mem_of_getElem? (i := 17) rfl)
theorem mw_3_18 : Cond.fieldLink RX3 12 "ShuntYard$Search" "best" "LShuntYard$Row;" ∈ wsL_law := mw_in3 (List.mem_of_getElem? (i := 18) rfl)
theorem mw_3_19 : Cond.classLink RX3 18 RX5 ∈ wsL_law := mw_in3 (List.mem_of_getElem? (i := 19) rfl)
theorem mw_3_2 : Cond.methodLink RX1 3 objectInit ∈ wsL_law := mw_in3 (List.mem_of_getElem? (i := 2) rfl)
theorem mw_3_20 : Cond.fieldLink RX3 21 "ShuntYard$Search" "trial" "LShuntYard$Yard;" ∈ wsL_law := mw_in3 (List.mem_of_getElem? (i := 20) rfl)
theorem mw_3_21 : Cond.fieldLink RX3 25 "ShuntYard$Search" "row" "LShuntYard$Row;" ∈ wsL_law := mw_in3 (List.mem_of_getElem? (i := 21) rfl)
theorem mw_3_22 : Cond.fieldLink RX3 28 "ShuntYard$Search" "wanted" "[I" ∈ wsL_law := mw_in3 (List.mem_of_getElem? (i := 22) rfl)
theorem mw_3_23 : Cond.fieldLink RX3 32 "ShuntYard$Search" "wantedInnermost" "[I" ∈ wsL_law := mw_in3 (List.mem_of_getElem? (i := 23) rfl)
theorem mw_3_3 : Cond.classLink RX1 9 RX5 ∈ wsL_law := mw_in3 (List.mem_of_getElem? (i := 3) rfl)
theorem mw_3_4 : Cond.fieldLink RX1 11 "ShuntYard$History" "states" "[LShuntYard$Yard;" ∈ wsL_law := mw_in3 (List.mem_of_getElem? (i := 4) rfl)
theorem mw_3_5 : Cond.instanceMethod yX4_init ∈ wsL_law := mw_in3 (List.mem_of_getElem? (i := 5) rfl)
theorem mw_3_6 : Cond.code yX4_init cX4_init 1 none ∈ wsL_law := mw_in3 (List.mem_of_getElem? (i := 6) rfl)
theorem mw_3_7 : Cond.methodLink RX4 3 objectInit ∈ wsL_law := mw_in3 (List.mem_of_getElem? (i := 7) rfl)
theorem mw_3_8 : Cond.fieldLink RX4 9 "ShuntYard$Text" "bytes" "[I" ∈ wsL_law := mw_in3 (List.mem_of_getElem? (i := 8) rfl)
theorem mw_3_9 : Cond.fieldLink RX4 15 "ShuntYard$Text" "read" "[I" ∈ wsL_law := mw_in3 (List.mem_of_getElem? (i := 9) rfl)
theorem mw_4_0 : Cond.fieldLink RX3 35 "ShuntYard$Search" "wantedOutermost" "[I" ∈ wsL_law := mw_in4 (List.mem_of_getElem? (i := 0) rfl)
theorem mw_4_1 : Cond.instanceMethod yX2_init ∈ wsL_law := mw_in4 (List.mem_of_getElem? (i := 1) rfl)
theorem mw_4_10 : Cond.methodLink RX7 1 objectInit ∈ wsL_law := mw_in4 (List.mem_of_getElem? (i := 10) rfl)
theorem mw_4_11 : Cond.fieldLink RX7 7 "ShuntYardModel" "w" "[I" ∈ wsL_law := mw_in4 (List.mem_of_getElem? (i := 11) rfl)
theorem mw_4_12 : Cond.fieldLink RX7 13 "ShuntYardModel" "past" "[I" ∈ wsL_law := mw_in4 (List.mem_of_getElem? (i := 12) rfl)
theorem mw_4_13 : Cond.fieldLink RX7 16 "ShuntYardModel" "images" "[I" ∈ wsL_law := mw_in4 (List.mem_of_getElem? (i := 13) rfl)
theorem mw_4_14 : Cond.fieldLink RX7 19 "ShuntYardModel" "text" "[I" ∈ wsL_law := mw_in4 (List.mem_of_getElem? (i := 14) rfl)
theorem mw_4_15 : Cond.fieldLink RX7 22 "ShuntYardModel" "faultKind" "I" ∈ wsL_law := mw_in4 (List.mem_of_getElem? (i := 15) rfl)
theorem mw_4_16 : Cond.fieldLink RX7 26 "ShuntYardModel" "faultPlace" "I" ∈ wsL_law := mw_in4 (List.mem_of_getElem? (i := 16) rfl)
theorem mw_4_17 : Cond.fieldLink RX7 29 "ShuntYardModel" "reason" "I" ∈ wsL_law := mw_in4 (List.mem_of_getElem? (i := 17) rfl)
theorem mw_4_18 : Cond.fieldLink RX7 32 "ShuntYardModel" "row" "[I" ∈ wsL_law := mw_in4 (List.mem_of_getElem? (i := 18) rfl)
theorem mw_4_19 : Cond.fieldLink RX7 35 "ShuntYardModel" "readBound" "[I" ∈ wsL_law := mw_in4 (List.mem_of_getElem? (i := 19) rfl)
theorem mw_4_2 : Cond.code yX2_init cX2_init 1 none ∈ wsL_law := mw_in4 (List.mem_of_getElem? (i := 2) rfl)
theorem mw_4_20 : Cond.fieldLink RX7 38 "ShuntYardModel" "readKind" "[I" ∈ wsL_law := mw_in4 (List.mem_of_getElem? (i := 20) rfl)
theorem mw_4_21 : Cond.fieldLink RX7 41 "ShuntYardModel" "readTrains" "[I" ∈ wsL_law := mw_in4 (List.mem_of_getElem? (i := 21) rfl)
theorem mw_4_22 : Cond.fieldLink RX7 44 "ShuntYardModel" "held" "[I" ∈ wsL_law := mw_in4 (List.mem_of_getElem? (i := 22) rfl)
theorem mw_4_23 : Cond.fieldLink RX7 47 "ShuntYardModel" "tried" "[I" ∈ wsL_law := mw_in4 (List.mem_of_getElem? (i := 23) rfl)
theorem mw_4_3 : Cond.methodLink RX2 3 objectInit ∈ wsL_law := mw_in4 (List.mem_of_getElem? (i := 3) rfl)
theorem mw_4_4 : Cond.fieldLink RX2 9 "ShuntYard$Row" "from" "[I" ∈ wsL_law := mw_in4 (List.mem_of_getElem? (i := 4) rfl)
theorem mw_4_5 : Cond.fieldLink RX2 15 "ShuntYard$Row" "to" "[I" ∈ wsL_law := mw_in4 (List.mem_of_getElem? (i := 5) rfl)
theorem mw_4_6 : Cond.fieldLink RX2 18 "ShuntYard$Row" "n" "[I" ∈ wsL_law := mw_in4 (List.mem_of_getElem? (i := 6) rfl)
theorem mw_4_7 : Cond.methodLink RL 12 yX7_init ∈ wsL_law := mw_in4 (List.mem_of_getElem? (i := 7) rfl)
theorem mw_4_8 : Cond.instanceMethod yX7_init ∈ wsL_law := mw_in4 (List.mem_of_getElem? (i := 8) rfl)
theorem mw_4_9 : Cond.code yX7_init cX7_init 1 none ∈ wsL_law := mw_in4 (List.mem_of_getElem? (i := 9) rfl)
theorem mw_5_0 : Cond.fieldLink RX7 50 "ShuntYardModel" "best" "[I" ∈ wsL_law := mw_in5 (List.mem_of_getElem? (i := 0) rfl)
theorem mw_5_1 : Cond.fieldLink RX7 53 "ShuntYardModel" "spent" "[I" ∈ wsL_law := mw_in5 (List.mem_of_getElem? (i := 1) rfl)
theorem mw_5_10 : Cond.instanceMethod yX5_wagonsInYard ∈ wsL_law := mw_in5 (List.mem_of_getElem? (i := 10) rfl)
theorem mw_5_11 : Cond.selects RX5 yX5_wagonsInYard yX5_wagonsInYard ∈ wsL_law := mw_in5 (List.mem_of_getElem? (i := 11) rfl)
theorem mw_5_12 : Cond.code yX5_wagonsInYard cX5_wagonsInYard 3 (some .int) ∈ wsL_law := mw_in5 (List.mem_of_getElem? (i := 12) rfl)
theorem mw_5_13 : Cond.methodLink RX6 53 yX1_add ∈ wsL_law := mw_in5 (List.mem_of_getElem? (i := 13) rfl)
theorem mw_5_14 : Cond.instanceMethod yX1_add ∈ wsL_law := mw_in5 (List.mem_of_getElem? (i := 14) rfl)
theorem mw_5_15 : Cond.selects RX1 yX1_add yX1_add ∈ wsL_law := mw_in5 (List.mem_of_getElem? (i := 15) rfl)
theorem mw_5_16 : Cond.code yX1_add cX1_add 2 none ∈ wsL_law := mw_in5 (List.mem_of_getElem? (i := 16) rfl)
theorem mw_5_17 : Cond.fieldLink RX1 17 "ShuntYard$History" "next" "I" ∈ wsL_law := mw_in5 (List.mem_of_getElem? (i := 17) rfl)
theorem mw_5_18 : Cond.fieldLink RX1 26 "ShuntYard$History" "count" "I" ∈ wsL_law := mw_in5 (List.mem_of_getElem? (i := 18) rfl)
theorem mw_5_19 : Cond.methodLink RX1 29 Lib.Math.min.name ∈ wsL_law := mw_in5 (List.mem_of_getElem? (i := 19) rfl)
theorem mw_5_2 : Cond.methodLink RL 13 yX6_begin ∈ wsL_law := mw_in5 (List.mem_of_getElem? (i := 2) rfl)
theorem mw_5_20 : Cond.static Lib.Math.min.name ∈ wsL_law := mw_in5 (List.mem_of_getElem? (i := 20) rfl)
theorem mw_5_21 : Cond.initialized "java/lang/Math" ∈ wsL_law := mw_in5 (List.mem_of_getElem? (i := 21) rfl)
theorem mw_5_22 : Cond.code Lib.Math.min.name Lib.Math.min.code 2 (some .int) ∈ wsL_law := mw_in5 (List.mem_of_getElem? (i := 22) rfl)
theorem mw_5_23 : Cond.methodLink RX1 22 yX5_copyFrom ∈ wsL_law := mw_in5 (List.mem_of_getElem? (i := 23) rfl)
theorem mw_5_3 : Cond.instanceMethod yX6_begin ∈ wsL_law := mw_in5 (List.mem_of_getElem? (i := 3) rfl)
theorem mw_5_4 : Cond.selects RX6 yX6_begin yX6_begin ∈ wsL_law := mw_in5 (List.mem_of_getElem? (i := 4) rfl)
theorem mw_5_5 : Cond.code yX6_begin cX6_begin 4 (some .int) ∈ wsL_law := mw_in5 (List.mem_of_getElem? (i := 5) rfl)
theorem mw_5_6 : Cond.methodLink RX6 45 yX6_within ∈ wsL_law := mw_in5 (List.mem_of_getElem? (i := 6) rfl)
theorem mw_5_7 : Cond.static yX6_within ∈ wsL_law := mw_in5 (List.mem_of_getElem? (i := 7) rfl)
theorem mw_5_8 : Cond.code yX6_within cX6_within 3 (some .boolean) ∈ wsL_law := mw_in5 (List.mem_of_getElem? (i := 8) rfl)
theorem mw_5_9 : Cond.methodLink RX6 49 yX5_wagonsInYard ∈ wsL_law := mw_in5 (List.mem_of_getElem? (i := 9) rfl)
theorem mw_6_0 : Cond.instanceMethod yX5_copyFrom ∈ wsL_law := mw_in6 (List.mem_of_getElem? (i := 0) rfl)
theorem mw_6_1 : Cond.selects RX5 yX5_copyFrom yX5_copyFrom ∈ wsL_law := mw_in6 (List.mem_of_getElem? (i := 1) rfl)
theorem mw_6_10 : Cond.methodLink RX5 62 arraycopyName ∈ wsL_law := mw_in6 (List.mem_of_getElem? (i := 10) rfl)
theorem mw_6_11 : Cond.native arraycopyName ∈ wsL_law := mw_in6 (List.mem_of_getElem? (i := 11) rfl)
theorem mw_6_12 : Cond.static arraycopyName ∈ wsL_law := mw_in6 (List.mem_of_getElem? (i := 12) rfl)
theorem mw_6_13 : Cond.initialized "java/lang/System" ∈ wsL_law := mw_in6 (List.mem_of_getElem? (i := 13) rfl)
theorem mw_6_14 : Cond.methodLink RX6 57 yX5_restart ∈ wsL_law := mw_in6 (List.mem_of_getElem? (i := 14) rfl)
theorem mw_6_15 : Cond.instanceMethod yX5_restart ∈ wsL_law := mw_in6 (List.mem_of_getElem? (i := 15) rfl)
theorem mw_6_16 : Cond.selects RX5 yX5_restart yX5_restart ∈ wsL_law := mw_in6 (List.mem_of_getElem? (i := 16) rfl)
theorem mw_6_17 : Cond.code yX5_restart cX5_restart 3 none ∈ wsL_law := mw_in6 (List.mem_of_getElem? (i := 17) rfl)
theorem mw_6_18 : Cond.methodLink RX5 68 yJ7_fill_53178 ∈ wsL_law := mw_in6 (List.mem_of_getElem? (i := 18) rfl)
theorem mw_6_19 : Cond.static yJ7_fill_53178 ∈ wsL_law := mw_in6 (List.mem_of_getElem? (i := 19) rfl)
theorem mw_6_2 : Cond.code yX5_copyFrom cX5_copyFrom 2 none ∈ wsL_law := mw_in6 (List.mem_of_getElem? (i := 2) rfl)
theorem mw_6_20 : Cond.initialized RJ7 ∈ wsL_law := mw_in6 (List.mem_of_getElem? (i := 20) rfl)
theorem mw_6_21 : Cond.code yJ7_fill_53178 cJ7_fill_53178 4 none ∈ wsL_law := mw_in6 (List.mem_of_getElem? (i := 21) rfl)
theorem mw_6_22 : Cond.methodLink RL 17 yX7_begin ∈ wsL_law := mw_in6 (List.mem_of_getElem? (i := 22) rfl)
theorem mw_6_23 : Cond.instanceMethod yX7_begin ∈ wsL_law := mw_in6 (List.mem_of_getElem? (i := 23) rfl)
theorem mw_6_3 : Cond.fieldLink RX5 41 "ShuntYard$Yard" "clock" "I" ∈ wsL_law := mw_in6 (List.mem_of_getElem? (i := 3) rfl)
theorem mw_6_4 : Cond.fieldLink RX5 44 "ShuntYard$Yard" "moves" "I" ∈ wsL_law := mw_in6 (List.mem_of_getElem? (i := 4) rfl)
theorem mw_6_5 : Cond.fieldLink RX5 47 "ShuntYard$Yard" "moveMinutes" "I" ∈ wsL_law := mw_in6 (List.mem_of_getElem? (i := 5) rfl)
theorem mw_6_6 : Cond.fieldLink RX5 50 "ShuntYard$Yard" "trainsGone" "I" ∈ wsL_law := mw_in6 (List.mem_of_getElem? (i := 6) rfl)
theorem mw_6_7 : Cond.fieldLink RX5 53 "ShuntYard$Yard" "wagonsGone" "I" ∈ wsL_law := mw_in6 (List.mem_of_getElem? (i := 7) rfl)
theorem mw_6_8 : Cond.fieldLink RX5 56 "ShuntYard$Yard" "wagonsCome" "I" ∈ wsL_law := mw_in6 (List.mem_of_getElem? (i := 8) rfl)
theorem mw_6_9 : Cond.fieldLink RX5 59 "ShuntYard$Yard" "trains" "I" ∈ wsL_law := mw_in6 (List.mem_of_getElem? (i := 9) rfl)
theorem mw_7_0 : Cond.selects RX7 yX7_begin yX7_begin ∈ wsL_law := mw_in7 (List.mem_of_getElem? (i := 0) rfl)
theorem mw_7_1 : Cond.code yX7_begin cX7_begin 5 (some .int) ∈ wsL_law := mw_in7 (List.mem_of_getElem? (i := 1) rfl)
theorem mw_7_10 : Cond.methodLink RX7 193 yX7_wagons ∈ wsL_law := mw_in7 (List.mem_of_getElem? (i := 10) rfl)
theorem mw_7_11 : Cond.instanceMethod yX7_wagons ∈ wsL_law := mw_in7 (List.mem_of_getElem? (i := 11) rfl)
theorem mw_7_12 : Cond.selects RX7 yX7_wagons yX7_wagons ∈ wsL_law := mw_in7 (List.mem_of_getElem? (i := 12) rfl)
theorem mw_7_13 : Cond.code yX7_wagons cX7_wagons 3 (some .int) ∈ wsL_law := mw_in7 (List.mem_of_getElem? (i := 13) rfl)
theorem mw_7_14 : Cond.methodLink RX7 63 yX7_of ∈ wsL_law := mw_in7 (List.mem_of_getElem? (i := 14) rfl)
theorem mw_7_15 : Cond.instanceMethod yX7_of ∈ wsL_law := mw_in7 (List.mem_of_getElem? (i := 15) rfl)
theorem mw_7_16 : Cond.selects RX7 yX7_of yX7_of ∈ wsL_law := mw_in7 (List.mem_of_getElem? (i := 16) rfl)
theorem mw_7_17 : Cond.code yX7_of cX7_of 3 (some .int) ∈ wsL_law := mw_in7 (List.mem_of_getElem? (i := 17) rfl)
theorem mw_7_18 : Cond.methodLink RL 18 yX6_set ∈ wsL_law := mw_in7 (List.mem_of_getElem? (i := 18) rfl)
theorem mw_7_19 : Cond.instanceMethod yX6_set ∈ wsL_law := mw_in7 (List.mem_of_getElem? (i := 19) rfl)
theorem mw_7_2 : Cond.methodLink RX7 59 yX7_isIn ∈ wsL_law := mw_in7 (List.mem_of_getElem? (i := 2) rfl)
theorem mw_7_20 : Cond.selects RX6 yX6_set yX6_set ∈ wsL_law := mw_in7 (List.mem_of_getElem? (i := 20) rfl)
theorem mw_7_21 : Cond.code yX6_set cX6_set 4 (some .int) ∈ wsL_law := mw_in7 (List.mem_of_getElem? (i := 21) rfl)
theorem mw_7_22 : Cond.fieldLink RX6 72 "ShuntYard$Yard" "settings" "[I" ∈ wsL_law := mw_in7 (List.mem_of_getElem? (i := 22) rfl)
theorem mw_7_23 : Cond.methodLink RX6 61 yX6_isSetting ∈ wsL_law := mw_in7 (List.mem_of_getElem? (i := 23) rfl)
theorem mw_7_3 : Cond.static yX7_isIn ∈ wsL_law := mw_in7 (List.mem_of_getElem? (i := 3) rfl)
theorem mw_7_4 : Cond.code yX7_isIn cX7_isIn 3 (some .boolean) ∈ wsL_law := mw_in7 (List.mem_of_getElem? (i := 4) rfl)
theorem mw_7_5 : Cond.methodLink RX7 107 yX7_remember ∈ wsL_law := mw_in7 (List.mem_of_getElem? (i := 5) rfl)
theorem mw_7_6 : Cond.instanceMethod yX7_remember ∈ wsL_law := mw_in7 (List.mem_of_getElem? (i := 6) rfl)
theorem mw_7_7 : Cond.selects RX7 yX7_remember yX7_remember ∈ wsL_law := mw_in7 (List.mem_of_getElem? (i := 7) rfl)
theorem mw_7_8 : Cond.code yX7_remember cX7_remember 2 none ∈ wsL_law := mw_in7 (List.mem_of_getElem? (i := 8) rfl)
theorem mw_7_9 : Cond.fieldLink RX7 56 "ShuntYardModel" "pastMany" "I" ∈ wsL_law := mw_in7 (List.mem_of_getElem? (i := 9) rfl)
theorem mw_8_0 : Cond.static yX6_isSetting ∈ wsL_law := mw_in8 (List.mem_of_getElem? (i := 0) rfl)
theorem mw_8_1 : Cond.code yX6_isSetting cX6_isSetting 1 (some .boolean) ∈ wsL_law := mw_in8 (List.mem_of_getElem? (i := 1) rfl)
theorem mw_8_10 : Cond.selects RX7 yX7_set yX7_set ∈ wsL_law := mw_in8 (List.mem_of_getElem? (i := 10) rfl)
theorem mw_8_11 : Cond.code yX7_set cX7_set 4 (some .int) ∈ wsL_law := mw_in8 (List.mem_of_getElem? (i := 11) rfl)
theorem mw_8_12 : Cond.methodLink RX7 196 yX7_isOf ∈ wsL_law := mw_in8 (List.mem_of_getElem? (i := 12) rfl)
theorem mw_8_13 : Cond.static yX7_isOf ∈ wsL_law := mw_in8 (List.mem_of_getElem? (i := 13) rfl)
theorem mw_8_14 : Cond.code yX7_isOf cX7_isOf 2 (some .boolean) ∈ wsL_law := mw_in8 (List.mem_of_getElem? (i := 14) rfl)
theorem mw_8_15 : Cond.methodLink RL 22 yX6_arrive ∈ wsL_law := mw_in8 (List.mem_of_getElem? (i := 15) rfl)
theorem mw_8_16 : Cond.instanceMethod yX6_arrive ∈ wsL_law := mw_in8 (List.mem_of_getElem? (i := 16) rfl)
theorem mw_8_17 : Cond.selects RX6 yX6_arrive yX6_arrive ∈ wsL_law := mw_in8 (List.mem_of_getElem? (i := 17) rfl)
theorem mw_8_18 : Cond.code yX6_arrive cX6_arrive 2 (some .int) ∈ wsL_law := mw_in8 (List.mem_of_getElem? (i := 18) rfl)
theorem mw_8_19 : Cond.fieldLink RX6 87 "ShuntYard$Yard" "length" "[I" ∈ wsL_law := mw_in8 (List.mem_of_getElem? (i := 19) rfl)
theorem mw_8_2 : Cond.methodLink RX6 65 yX6_leastOf ∈ wsL_law := mw_in8 (List.mem_of_getElem? (i := 2) rfl)
theorem mw_8_20 : Cond.fieldLink RX6 90 "ShuntYard$Text" "found" "I" ∈ wsL_law := mw_in8 (List.mem_of_getElem? (i := 20) rfl)
theorem mw_8_21 : Cond.fieldLink RX6 93 "ShuntYard$Yard" "capacity" "I" ∈ wsL_law := mw_in8 (List.mem_of_getElem? (i := 21) rfl)
theorem mw_8_22 : Cond.methodLink RX6 76 yX5_hasTrack ∈ wsL_law := mw_in8 (List.mem_of_getElem? (i := 22) rfl)
theorem mw_8_23 : Cond.instanceMethod yX5_hasTrack ∈ wsL_law := mw_in8 (List.mem_of_getElem? (i := 23) rfl)
theorem mw_8_3 : Cond.static yX6_leastOf ∈ wsL_law := mw_in8 (List.mem_of_getElem? (i := 3) rfl)
theorem mw_8_4 : Cond.code yX6_leastOf cX6_leastOf 1 (some .int) ∈ wsL_law := mw_in8 (List.mem_of_getElem? (i := 4) rfl)
theorem mw_8_5 : Cond.methodLink RX6 69 yX6_greatestOf ∈ wsL_law := mw_in8 (List.mem_of_getElem? (i := 5) rfl)
theorem mw_8_6 : Cond.static yX6_greatestOf ∈ wsL_law := mw_in8 (List.mem_of_getElem? (i := 6) rfl)
theorem mw_8_7 : Cond.code yX6_greatestOf cX6_greatestOf 1 (some .int) ∈ wsL_law := mw_in8 (List.mem_of_getElem? (i := 7) rfl)
theorem mw_8_8 : Cond.methodLink RL 21 yX7_set ∈ wsL_law := mw_in8 (List.mem_of_getElem? (i := 8) rfl)
theorem mw_8_9 : Cond.instanceMethod yX7_set ∈ wsL_law := mw_in8 (List.mem_of_getElem? (i := 9) rfl)
theorem mw_9_0 : Cond.selects RX5 yX5_hasTrack yX5_hasTrack ∈ wsL_law := mw_in9 (List.mem_of_getElem? (i := 0) rfl)
theorem mw_9_1 : Cond.code yX5_hasTrack cX5_hasTrack 2 (some .boolean) ∈ wsL_law := mw_in9 (List.mem_of_getElem? (i := 1) rfl)
theorem mw_9_10 : Cond.selects RX4 yX4_foundFault yX4_foundFault ∈ wsL_law := mw_in9 (List.mem_of_getElem? (i := 10) rfl)
theorem mw_9_11 : Cond.code yX4_foundFault cX4_foundFault 3 (some .boolean) ∈ wsL_law := mw_in9 (List.mem_of_getElem? (i := 11) rfl)
theorem mw_9_12 : Cond.static yX6_wagonOf ∈ wsL_law := mw_in9 (List.mem_of_getElem? (i := 12) rfl)
theorem mw_9_13 : Cond.code yX6_wagonOf cX6_wagonOf 3 (some .int) ∈ wsL_law := mw_in9 (List.mem_of_getElem? (i := 13) rfl)
theorem mw_9_14 : Cond.methodLink RX4 43 yX4_fillLatest ∈ wsL_law := mw_in9 (List.mem_of_getElem? (i := 14) rfl)
theorem mw_9_15 : Cond.instanceMethod yX4_fillLatest ∈ wsL_law := mw_in9 (List.mem_of_getElem? (i := 15) rfl)
theorem mw_9_16 : Cond.selects RX4 yX4_fillLatest yX4_fillLatest ∈ wsL_law := mw_in9 (List.mem_of_getElem? (i := 16) rfl)
theorem mw_9_17 : Cond.code yX4_fillLatest cX4_fillLatest 4 none ∈ wsL_law := mw_in9 (List.mem_of_getElem? (i := 17) rfl)
theorem mw_9_18 : Cond.methodLink RX6 83 yX5_isSafeWith ∈ wsL_law := mw_in9 (List.mem_of_getElem? (i := 18) rfl)
theorem mw_9_19 : Cond.instanceMethod yX5_isSafeWith ∈ wsL_law := mw_in9 (List.mem_of_getElem? (i := 19) rfl)
theorem mw_9_2 : Cond.methodLink RX6 79 yX4_readWagons ∈ wsL_law := mw_in9 (List.mem_of_getElem? (i := 2) rfl)
theorem mw_9_20 : Cond.selects RX5 yX5_isSafeWith yX5_isSafeWith ∈ wsL_law := mw_in9 (List.mem_of_getElem? (i := 20) rfl)
theorem mw_9_21 : Cond.code yX5_isSafeWith cX5_isSafeWith 4 (some .boolean) ∈ wsL_law := mw_in9 (List.mem_of_getElem? (i := 21) rfl)
theorem mw_9_22 : Cond.fieldLink RX5 86 "ShuntYard$Text" "found" "I" ∈ wsL_law := mw_in9 (List.mem_of_getElem? (i := 22) rfl)
theorem mw_9_23 : Cond.fieldLink RX5 91 "ShuntYard$Text" "read" "[I" ∈ wsL_law := mw_in9 (List.mem_of_getElem? (i := 23) rfl)
theorem mw_9_3 : Cond.instanceMethod yX4_readWagons ∈ wsL_law := mw_in9 (List.mem_of_getElem? (i := 3) rfl)
theorem mw_9_4 : Cond.selects RX4 yX4_readWagons yX4_readWagons ∈ wsL_law := mw_in9 (List.mem_of_getElem? (i := 4) rfl)
theorem mw_9_5 : Cond.code yX4_readWagons cX4_readWagons 6 (some .boolean) ∈ wsL_law := mw_in9 (List.mem_of_getElem? (i := 5) rfl)
theorem mw_9_6 : Cond.fieldLink RX4 28 "ShuntYard$Text" "found" "I" ∈ wsL_law := mw_in9 (List.mem_of_getElem? (i := 6) rfl)
theorem mw_9_7 : Cond.fieldLink RX4 25 "ShuntYard$Text" "length" "I" ∈ wsL_law := mw_in9 (List.mem_of_getElem? (i := 7) rfl)
theorem mw_9_8 : Cond.methodLink RX4 35 yX4_foundFault ∈ wsL_law := mw_in9 (List.mem_of_getElem? (i := 8) rfl)
theorem mw_9_9 : Cond.instanceMethod yX4_foundFault ∈ wsL_law := mw_in9 (List.mem_of_getElem? (i := 9) rfl)
theorem cd_J7_fill_53178 : yJ7_fill_53178.cls ≠ "java/lang/invoke/MethodHandle" ∧ yJ7_fill_53178.cls ≠ "java/lang/invoke/VarHandle" ∧ (parseMethodDescriptor yJ7_fill_53178.desc).map (fun d => d.parameters.length) = some 2 := by decide +kernel
theorem cd_X0_init : yX0_init.cls ≠ "java/lang/invoke/MethodHandle" ∧ yX0_init.cls ≠ "java/lang/invoke/VarHandle" ∧ (parseMethodDescriptor yX0_init.desc).map (fun d => d.parameters.length) = some 0 := by decide +kernel
theorem cd_X0_pass : yX0_pass.cls = RX0 ∧ yX0_pass.cls ≠ "java/lang/invoke/MethodHandle" ∧ yX0_pass.cls ≠ "java/lang/invoke/VarHandle" ∧ (parseMethodDescriptor yX0_pass.desc).map (fun d => d.parameters.length) = some 1 := by decide +kernel
theorem cd_X0_start : yX0_start.cls = RX0 ∧ yX0_start.cls ≠ "java/lang/invoke/MethodHandle" ∧ yX0_start.cls ≠ "java/lang/invoke/VarHandle" ∧ (parseMethodDescriptor yX0_start.desc).map (fun d => d.parameters.length) = some 0 := by decide +kernel
theorem cd_X1_add : yX1_add.cls = RX1 ∧ yX1_add.cls ≠ "java/lang/invoke/MethodHandle" ∧ yX1_add.cls ≠ "java/lang/invoke/VarHandle" ∧ (parseMethodDescriptor yX1_add.desc).map (fun d => d.parameters.length) = some 1 := by decide +kernel
theorem cd_X1_init : yX1_init.cls ≠ "java/lang/invoke/MethodHandle" ∧ yX1_init.cls ≠ "java/lang/invoke/VarHandle" ∧ (parseMethodDescriptor yX1_init.desc).map (fun d => d.parameters.length) = some 0 := by decide +kernel
theorem cd_X1_restore : yX1_restore.cls = RX1 ∧ yX1_restore.cls ≠ "java/lang/invoke/MethodHandle" ∧ yX1_restore.cls ≠ "java/lang/invoke/VarHandle" ∧ (parseMethodDescriptor yX1_restore.desc).map (fun d => d.parameters.length) = some 1 := by decide +kernel
theorem cd_X2_addLast : yX2_addLast.cls = RX2 ∧ yX2_addLast.cls ≠ "java/lang/invoke/MethodHandle" ∧ yX2_addLast.cls ≠ "java/lang/invoke/VarHandle" ∧ (parseMethodDescriptor yX2_addLast.desc).map (fun d => d.parameters.length) = some 4 := by decide +kernel
theorem cd_X2_clear : yX2_clear.cls = RX2 ∧ yX2_clear.cls ≠ "java/lang/invoke/MethodHandle" ∧ yX2_clear.cls ≠ "java/lang/invoke/VarHandle" ∧ (parseMethodDescriptor yX2_clear.desc).map (fun d => d.parameters.length) = some 0 := by decide +kernel
theorem cd_X2_copyFrom : yX2_copyFrom.cls = RX2 ∧ yX2_copyFrom.cls ≠ "java/lang/invoke/MethodHandle" ∧ yX2_copyFrom.cls ≠ "java/lang/invoke/VarHandle" ∧ (parseMethodDescriptor yX2_copyFrom.desc).map (fun d => d.parameters.length) = some 1 := by decide +kernel
theorem cd_X2_dropLast : yX2_dropLast.cls = RX2 ∧ yX2_dropLast.cls ≠ "java/lang/invoke/MethodHandle" ∧ yX2_dropLast.cls ≠ "java/lang/invoke/VarHandle" ∧ (parseMethodDescriptor yX2_dropLast.desc).map (fun d => d.parameters.length) = some 1 := by decide +kernel
theorem cd_X2_init : yX2_init.cls ≠ "java/lang/invoke/MethodHandle" ∧ yX2_init.cls ≠ "java/lang/invoke/VarHandle" ∧ (parseMethodDescriptor yX2_init.desc).map (fun d => d.parameters.length) = some 0 := by decide +kernel
theorem cd_X2_isCheaperThan : yX2_isCheaperThan.cls = RX2 ∧ yX2_isCheaperThan.cls ≠ "java/lang/invoke/MethodHandle" ∧ yX2_isCheaperThan.cls ≠ "java/lang/invoke/VarHandle" ∧ (parseMethodDescriptor yX2_isCheaperThan.desc).map (fun d => d.parameters.length) = some 1 := by decide +kernel
theorem cd_X3_countWanted : yX3_countWanted.cls = RX3 ∧ yX3_countWanted.cls ≠ "java/lang/invoke/MethodHandle" ∧ yX3_countWanted.cls ≠ "java/lang/invoke/VarHandle" ∧ (parseMethodDescriptor yX3_countWanted.desc).map (fun d => d.parameters.length) = some 1 := by decide +kernel
theorem cd_X3_init : yX3_init.cls ≠ "java/lang/invoke/MethodHandle" ∧ yX3_init.cls ≠ "java/lang/invoke/VarHandle" ∧ (parseMethodDescriptor yX3_init.desc).map (fun d => d.parameters.length) = some 0 := by decide +kernel
theorem cd_X3_isTooDear : yX3_isTooDear.cls = RX3 ∧ yX3_isTooDear.cls ≠ "java/lang/invoke/MethodHandle" ∧ yX3_isTooDear.cls ≠ "java/lang/invoke/VarHandle" ∧ (parseMethodDescriptor yX3_isTooDear.desc).map (fun d => d.parameters.length) = some 1 := by decide +kernel
theorem cd_X3_keepIfCheaper : yX3_keepIfCheaper.cls = RX3 ∧ yX3_keepIfCheaper.cls ≠ "java/lang/invoke/MethodHandle" ∧ yX3_keepIfCheaper.cls ≠ "java/lang/invoke/VarHandle" ∧ (parseMethodDescriptor yX3_keepIfCheaper.desc).map (fun d => d.parameters.length) = some 0 := by decide +kernel
theorem cd_X3_movesNeeded : yX3_movesNeeded.cls = RX3 ∧ yX3_movesNeeded.cls ≠ "java/lang/invoke/MethodHandle" ∧ yX3_movesNeeded.cls ≠ "java/lang/invoke/VarHandle" ∧ (parseMethodDescriptor yX3_movesNeeded.desc).map (fun d => d.parameters.length) = some 0 := by decide +kernel
theorem cd_X3_movesNeededFor : yX3_movesNeededFor.cls = RX3 ∧ yX3_movesNeededFor.cls ≠ "java/lang/invoke/MethodHandle" ∧ yX3_movesNeededFor.cls ≠ "java/lang/invoke/VarHandle" ∧ (parseMethodDescriptor yX3_movesNeededFor.desc).map (fun d => d.parameters.length) = some 1 := by decide +kernel
theorem cd_X3_seek : yX3_seek.cls = RX3 ∧ yX3_seek.cls ≠ "java/lang/invoke/MethodHandle" ∧ yX3_seek.cls ≠ "java/lang/invoke/VarHandle" ∧ (parseMethodDescriptor yX3_seek.desc).map (fun d => d.parameters.length) = some 1 := by decide +kernel
theorem cd_X3_seekBehindMove : yX3_seekBehindMove.cls = RX3 ∧ yX3_seekBehindMove.cls ≠ "java/lang/invoke/MethodHandle" ∧ yX3_seekBehindMove.cls ≠ "java/lang/invoke/VarHandle" ∧ (parseMethodDescriptor yX3_seekBehindMove.desc).map (fun d => d.parameters.length) = some 5 := by decide +kernel
theorem cd_X3_succeeds : yX3_succeeds.cls = RX3 ∧ yX3_succeeds.cls ≠ "java/lang/invoke/MethodHandle" ∧ yX3_succeeds.cls ≠ "java/lang/invoke/VarHandle" ∧ (parseMethodDescriptor yX3_succeeds.desc).map (fun d => d.parameters.length) = some 2 := by decide +kernel
theorem cd_X4_append : yX4_append.cls = RX4 ∧ yX4_append.cls ≠ "java/lang/invoke/MethodHandle" ∧ yX4_append.cls ≠ "java/lang/invoke/VarHandle" ∧ (parseMethodDescriptor yX4_append.desc).map (fun d => d.parameters.length) = some 1 := by decide +kernel
theorem cd_X4_fillLatest : yX4_fillLatest.cls = RX4 ∧ yX4_fillLatest.cls ≠ "java/lang/invoke/MethodHandle" ∧ yX4_fillLatest.cls ≠ "java/lang/invoke/VarHandle" ∧ (parseMethodDescriptor yX4_fillLatest.desc).map (fun d => d.parameters.length) = some 2 := by decide +kernel
theorem cd_X4_foundFault : yX4_foundFault.cls = RX4 ∧ yX4_foundFault.cls ≠ "java/lang/invoke/MethodHandle" ∧ yX4_foundFault.cls ≠ "java/lang/invoke/VarHandle" ∧ (parseMethodDescriptor yX4_foundFault.desc).map (fun d => d.parameters.length) = some 2 := by decide +kernel
theorem cd_X4_init : yX4_init.cls ≠ "java/lang/invoke/MethodHandle" ∧ yX4_init.cls ≠ "java/lang/invoke/VarHandle" ∧ (parseMethodDescriptor yX4_init.desc).map (fun d => d.parameters.length) = some 0 := by decide +kernel
theorem cd_X4_readTrains : yX4_readTrains.cls = RX4 ∧ yX4_readTrains.cls ≠ "java/lang/invoke/MethodHandle" ∧ yX4_readTrains.cls ≠ "java/lang/invoke/VarHandle" ∧ (parseMethodDescriptor yX4_readTrains.desc).map (fun d => d.parameters.length) = some 0 := by decide +kernel
theorem cd_X4_readWagons : yX4_readWagons.cls = RX4 ∧ yX4_readWagons.cls ≠ "java/lang/invoke/MethodHandle" ∧ yX4_readWagons.cls ≠ "java/lang/invoke/VarHandle" ∧ (parseMethodDescriptor yX4_readWagons.desc).map (fun d => d.parameters.length) = some 0 := by decide +kernel
theorem cd_X5_copyFrom : yX5_copyFrom.cls = RX5 ∧ yX5_copyFrom.cls ≠ "java/lang/invoke/MethodHandle" ∧ yX5_copyFrom.cls ≠ "java/lang/invoke/VarHandle" ∧ (parseMethodDescriptor yX5_copyFrom.desc).map (fun d => d.parameters.length) = some 1 := by decide +kernel
theorem cd_X5_costOrCode : yX5_costOrCode.cls = RX5 ∧ yX5_costOrCode.cls ≠ "java/lang/invoke/MethodHandle" ∧ yX5_costOrCode.cls ≠ "java/lang/invoke/VarHandle" ∧ (parseMethodDescriptor yX5_costOrCode.desc).map (fun d => d.parameters.length) = some 3 := by decide +kernel
theorem cd_X5_drive : yX5_drive.cls = RX5 ∧ yX5_drive.cls ≠ "java/lang/invoke/MethodHandle" ∧ yX5_drive.cls ≠ "java/lang/invoke/VarHandle" ∧ (parseMethodDescriptor yX5_drive.desc).map (fun d => d.parameters.length) = some 3 := by decide +kernel
theorem cd_X5_forFirstInYard : yX5_forFirstInYard.cls = RX5 ∧ yX5_forFirstInYard.cls ≠ "java/lang/invoke/MethodHandle" ∧ yX5_forFirstInYard.cls ≠ "java/lang/invoke/VarHandle" ∧ (parseMethodDescriptor yX5_forFirstInYard.desc).map (fun d => d.parameters.length) = some 0 := by decide +kernel
theorem cd_X5_forFirstOn : yX5_forFirstOn.cls = RX5 ∧ yX5_forFirstOn.cls ≠ "java/lang/invoke/MethodHandle" ∧ yX5_forFirstOn.cls ≠ "java/lang/invoke/VarHandle" ∧ (parseMethodDescriptor yX5_forFirstOn.desc).map (fun d => d.parameters.length) = some 1 := by decide +kernel
theorem cd_X5_hasTrack : yX5_hasTrack.cls = RX5 ∧ yX5_hasTrack.cls ≠ "java/lang/invoke/MethodHandle" ∧ yX5_hasTrack.cls ≠ "java/lang/invoke/VarHandle" ∧ (parseMethodDescriptor yX5_hasTrack.desc).map (fun d => d.parameters.length) = some 1 := by decide +kernel
theorem cd_X5_init : yX5_init.cls ≠ "java/lang/invoke/MethodHandle" ∧ yX5_init.cls ≠ "java/lang/invoke/VarHandle" ∧ (parseMethodDescriptor yX5_init.desc).map (fun d => d.parameters.length) = some 0 := by decide +kernel
theorem cd_X5_isForFirst : yX5_isForFirst.cls = RX5 ∧ yX5_isForFirst.cls ≠ "java/lang/invoke/MethodHandle" ∧ yX5_isForFirst.cls ≠ "java/lang/invoke/VarHandle" ∧ (parseMethodDescriptor yX5_isForFirst.desc).map (fun d => d.parameters.length) = some 2 := by decide +kernel
theorem cd_X5_isSafe : yX5_isSafe.cls = RX5 ∧ yX5_isSafe.cls ≠ "java/lang/invoke/MethodHandle" ∧ yX5_isSafe.cls ≠ "java/lang/invoke/VarHandle" ∧ (parseMethodDescriptor yX5_isSafe.desc).map (fun d => d.parameters.length) = some 1 := by decide +kernel
theorem cd_X5_isSafeBehindMove : yX5_isSafeBehindMove.cls = RX5 ∧ yX5_isSafeBehindMove.cls ≠ "java/lang/invoke/MethodHandle" ∧ yX5_isSafeBehindMove.cls ≠ "java/lang/invoke/VarHandle" ∧ (parseMethodDescriptor yX5_isSafeBehindMove.desc).map (fun d => d.parameters.length) = some 3 := by decide +kernel
theorem cd_X5_isSafeWith : yX5_isSafeWith.cls = RX5 ∧ yX5_isSafeWith.cls ≠ "java/lang/invoke/MethodHandle" ∧ yX5_isSafeWith.cls ≠ "java/lang/invoke/VarHandle" ∧ (parseMethodDescriptor yX5_isSafeWith.desc).map (fun d => d.parameters.length) = some 2 := by decide +kernel
theorem cd_X5_leastGap : yX5_leastGap.cls = RX5 ∧ yX5_leastGap.cls ≠ "java/lang/invoke/MethodHandle" ∧ yX5_leastGap.cls ≠ "java/lang/invoke/VarHandle" ∧ (parseMethodDescriptor yX5_leastGap.desc).map (fun d => d.parameters.length) = some 1 := by decide +kernel
theorem cd_X5_madeUpTrack : yX5_madeUpTrack.cls = RX5 ∧ yX5_madeUpTrack.cls ≠ "java/lang/invoke/MethodHandle" ∧ yX5_madeUpTrack.cls ≠ "java/lang/invoke/VarHandle" ∧ (parseMethodDescriptor yX5_madeUpTrack.desc).map (fun d => d.parameters.length) = some 0 := by decide +kernel
theorem cd_X5_minutesOf : yX5_minutesOf.cls = RX5 ∧ yX5_minutesOf.cls ≠ "java/lang/invoke/MethodHandle" ∧ yX5_minutesOf.cls ≠ "java/lang/invoke/VarHandle" ∧ (parseMethodDescriptor yX5_minutesOf.desc).map (fun d => d.parameters.length) = some 3 := by decide +kernel
theorem cd_X5_passPart : yX5_passPart.cls = RX5 ∧ yX5_passPart.cls ≠ "java/lang/invoke/MethodHandle" ∧ yX5_passPart.cls ≠ "java/lang/invoke/VarHandle" ∧ (parseMethodDescriptor yX5_passPart.desc).map (fun d => d.parameters.length) = some 3 := by decide +kernel
theorem cd_X5_refusal : yX5_refusal.cls = RX5 ∧ yX5_refusal.cls ≠ "java/lang/invoke/MethodHandle" ∧ yX5_refusal.cls ≠ "java/lang/invoke/VarHandle" ∧ (parseMethodDescriptor yX5_refusal.desc).map (fun d => d.parameters.length) = some 1 := by decide +kernel
theorem cd_X5_restart : yX5_restart.cls = RX5 ∧ yX5_restart.cls ≠ "java/lang/invoke/MethodHandle" ∧ yX5_restart.cls ≠ "java/lang/invoke/VarHandle" ∧ (parseMethodDescriptor yX5_restart.desc).map (fun d => d.parameters.length) = some 2 := by decide +kernel
theorem cd_X5_sendOff : yX5_sendOff.cls = RX5 ∧ yX5_sendOff.cls ≠ "java/lang/invoke/MethodHandle" ∧ yX5_sendOff.cls ≠ "java/lang/invoke/VarHandle" ∧ (parseMethodDescriptor yX5_sendOff.desc).map (fun d => d.parameters.length) = some 1 := by decide +kernel
theorem cd_X5_shift : yX5_shift.cls = RX5 ∧ yX5_shift.cls ≠ "java/lang/invoke/MethodHandle" ∧ yX5_shift.cls ≠ "java/lang/invoke/VarHandle" ∧ (parseMethodDescriptor yX5_shift.desc).map (fun d => d.parameters.length) = some 3 := by decide +kernel
theorem cd_X5_spotOf : yX5_spotOf.cls = RX5 ∧ yX5_spotOf.cls ≠ "java/lang/invoke/MethodHandle" ∧ yX5_spotOf.cls ≠ "java/lang/invoke/VarHandle" ∧ (parseMethodDescriptor yX5_spotOf.desc).map (fun d => d.parameters.length) = some 1 := by decide +kernel
theorem cd_X5_takeIn : yX5_takeIn.cls = RX5 ∧ yX5_takeIn.cls ≠ "java/lang/invoke/MethodHandle" ∧ yX5_takeIn.cls ≠ "java/lang/invoke/VarHandle" ∧ (parseMethodDescriptor yX5_takeIn.desc).map (fun d => d.parameters.length) = some 2 := by decide +kernel
theorem cd_X5_takeTrains : yX5_takeTrains.cls = RX5 ∧ yX5_takeTrains.cls ≠ "java/lang/invoke/MethodHandle" ∧ yX5_takeTrains.cls ≠ "java/lang/invoke/VarHandle" ∧ (parseMethodDescriptor yX5_takeTrains.desc).map (fun d => d.parameters.length) = some 1 := by decide +kernel
theorem cd_X5_testBrakes : yX5_testBrakes.cls = RX5 ∧ yX5_testBrakes.cls ≠ "java/lang/invoke/MethodHandle" ∧ yX5_testBrakes.cls ≠ "java/lang/invoke/VarHandle" ∧ (parseMethodDescriptor yX5_testBrakes.desc).map (fun d => d.parameters.length) = some 1 := by decide +kernel
theorem cd_X5_testHoldsFor : yX5_testHoldsFor.cls = RX5 ∧ yX5_testHoldsFor.cls ≠ "java/lang/invoke/MethodHandle" ∧ yX5_testHoldsFor.cls ≠ "java/lang/invoke/VarHandle" ∧ (parseMethodDescriptor yX5_testHoldsFor.desc).map (fun d => d.parameters.length) = some 1 := by decide +kernel
theorem cd_X5_unsafeTracks : yX5_unsafeTracks.cls = RX5 ∧ yX5_unsafeTracks.cls ≠ "java/lang/invoke/MethodHandle" ∧ yX5_unsafeTracks.cls ≠ "java/lang/invoke/VarHandle" ∧ (parseMethodDescriptor yX5_unsafeTracks.desc).map (fun d => d.parameters.length) = some 0 := by decide +kernel
theorem cd_X5_wagonAt : yX5_wagonAt.cls = RX5 ∧ yX5_wagonAt.cls ≠ "java/lang/invoke/MethodHandle" ∧ yX5_wagonAt.cls ≠ "java/lang/invoke/VarHandle" ∧ (parseMethodDescriptor yX5_wagonAt.desc).map (fun d => d.parameters.length) = some 2 := by decide +kernel
theorem cd_X5_wagonsInYard : yX5_wagonsInYard.cls = RX5 ∧ yX5_wagonsInYard.cls ≠ "java/lang/invoke/MethodHandle" ∧ yX5_wagonsInYard.cls ≠ "java/lang/invoke/VarHandle" ∧ (parseMethodDescriptor yX5_wagonsInYard.desc).map (fun d => d.parameters.length) = some 0 := by decide +kernel
theorem cd_X6_arrive : yX6_arrive.cls = RX6 ∧ yX6_arrive.cls ≠ "java/lang/invoke/MethodHandle" ∧ yX6_arrive.cls ≠ "java/lang/invoke/VarHandle" ∧ (parseMethodDescriptor yX6_arrive.desc).map (fun d => d.parameters.length) = some 1 := by decide +kernel
theorem cd_X6_back : yX6_back.cls = RX6 ∧ yX6_back.cls ≠ "java/lang/invoke/MethodHandle" ∧ yX6_back.cls ≠ "java/lang/invoke/VarHandle" ∧ (parseMethodDescriptor yX6_back.desc).map (fun d => d.parameters.length) = some 1 := by decide +kernel
theorem cd_X6_begin : yX6_begin.cls = RX6 ∧ yX6_begin.cls ≠ "java/lang/invoke/MethodHandle" ∧ yX6_begin.cls ≠ "java/lang/invoke/VarHandle" ∧ (parseMethodDescriptor yX6_begin.desc).map (fun d => d.parameters.length) = some 2 := by decide +kernel
theorem cd_X6_cheapest : yX6_cheapest.cls = RX6 ∧ yX6_cheapest.cls ≠ "java/lang/invoke/MethodHandle" ∧ yX6_cheapest.cls ≠ "java/lang/invoke/VarHandle" ∧ (parseMethodDescriptor yX6_cheapest.desc).map (fun d => d.parameters.length) = some 2 := by decide +kernel
theorem cd_X6_cost : yX6_cost.cls = RX6 ∧ yX6_cost.cls ≠ "java/lang/invoke/MethodHandle" ∧ yX6_cost.cls ≠ "java/lang/invoke/VarHandle" ∧ (parseMethodDescriptor yX6_cost.desc).map (fun d => d.parameters.length) = some 3 := by decide +kernel
theorem cd_X6_depart : yX6_depart.cls = RX6 ∧ yX6_depart.cls ≠ "java/lang/invoke/MethodHandle" ∧ yX6_depart.cls ≠ "java/lang/invoke/VarHandle" ∧ (parseMethodDescriptor yX6_depart.desc).map (fun d => d.parameters.length) = some 1 := by decide +kernel
theorem cd_X6_destinationOf : yX6_destinationOf.cls ≠ "java/lang/invoke/MethodHandle" ∧ yX6_destinationOf.cls ≠ "java/lang/invoke/VarHandle" ∧ (parseMethodDescriptor yX6_destinationOf.desc).map (fun d => d.parameters.length) = some 1 := by decide +kernel
theorem cd_X6_fault : yX6_fault.cls = RX6 ∧ yX6_fault.cls ≠ "java/lang/invoke/MethodHandle" ∧ yX6_fault.cls ≠ "java/lang/invoke/VarHandle" ∧ (parseMethodDescriptor yX6_fault.desc).map (fun d => d.parameters.length) = some 1 := by decide +kernel
theorem cd_X6_find : yX6_find.cls = RX6 ∧ yX6_find.cls ≠ "java/lang/invoke/MethodHandle" ∧ yX6_find.cls ≠ "java/lang/invoke/VarHandle" ∧ (parseMethodDescriptor yX6_find.desc).map (fun d => d.parameters.length) = some 2 := by decide +kernel
theorem cd_X6_greatestOf : yX6_greatestOf.cls ≠ "java/lang/invoke/MethodHandle" ∧ yX6_greatestOf.cls ≠ "java/lang/invoke/VarHandle" ∧ (parseMethodDescriptor yX6_greatestOf.desc).map (fun d => d.parameters.length) = some 1 := by decide +kernel
theorem cd_X6_init : yX6_init.cls ≠ "java/lang/invoke/MethodHandle" ∧ yX6_init.cls ≠ "java/lang/invoke/VarHandle" ∧ (parseMethodDescriptor yX6_init.desc).map (fun d => d.parameters.length) = some 0 := by decide +kernel
theorem cd_X6_isSetting : yX6_isSetting.cls ≠ "java/lang/invoke/MethodHandle" ∧ yX6_isSetting.cls ≠ "java/lang/invoke/VarHandle" ∧ (parseMethodDescriptor yX6_isSetting.desc).map (fun d => d.parameters.length) = some 1 := by decide +kernel
theorem cd_X6_keep : yX6_keep.cls = RX6 ∧ yX6_keep.cls ≠ "java/lang/invoke/MethodHandle" ∧ yX6_keep.cls ≠ "java/lang/invoke/VarHandle" ∧ (parseMethodDescriptor yX6_keep.desc).map (fun d => d.parameters.length) = some 1 := by decide +kernel
theorem cd_X6_kindOf : yX6_kindOf.cls ≠ "java/lang/invoke/MethodHandle" ∧ yX6_kindOf.cls ≠ "java/lang/invoke/VarHandle" ∧ (parseMethodDescriptor yX6_kindOf.desc).map (fun d => d.parameters.length) = some 1 := by decide +kernel
theorem cd_X6_leastOf : yX6_leastOf.cls ≠ "java/lang/invoke/MethodHandle" ∧ yX6_leastOf.cls ≠ "java/lang/invoke/VarHandle" ∧ (parseMethodDescriptor yX6_leastOf.desc).map (fun d => d.parameters.length) = some 1 := by decide +kernel
theorem cd_X6_list : yX6_list.cls = RX6 ∧ yX6_list.cls ≠ "java/lang/invoke/MethodHandle" ∧ yX6_list.cls ≠ "java/lang/invoke/VarHandle" ∧ (parseMethodDescriptor yX6_list.desc).map (fun d => d.parameters.length) = some 0 := by decide +kernel
theorem cd_X6_makeUp : yX6_makeUp.cls = RX6 ∧ yX6_makeUp.cls ≠ "java/lang/invoke/MethodHandle" ∧ yX6_makeUp.cls ≠ "java/lang/invoke/VarHandle" ∧ (parseMethodDescriptor yX6_makeUp.desc).map (fun d => d.parameters.length) = some 1 := by decide +kernel
theorem cd_X6_mean : yX6_mean.cls = RX6 ∧ yX6_mean.cls ≠ "java/lang/invoke/MethodHandle" ∧ yX6_mean.cls ≠ "java/lang/invoke/VarHandle" ∧ (parseMethodDescriptor yX6_mean.desc).map (fun d => d.parameters.length) = some 0 := by decide +kernel
theorem cd_X6_move : yX6_move.cls = RX6 ∧ yX6_move.cls ≠ "java/lang/invoke/MethodHandle" ∧ yX6_move.cls ≠ "java/lang/invoke/VarHandle" ∧ (parseMethodDescriptor yX6_move.desc).map (fun d => d.parameters.length) = some 3 := by decide +kernel
theorem cd_X6_numberOf : yX6_numberOf.cls ≠ "java/lang/invoke/MethodHandle" ∧ yX6_numberOf.cls ≠ "java/lang/invoke/VarHandle" ∧ (parseMethodDescriptor yX6_numberOf.desc).map (fun d => d.parameters.length) = some 1 := by decide +kernel
theorem cd_X6_pause : yX6_pause.cls = RX6 ∧ yX6_pause.cls ≠ "java/lang/invoke/MethodHandle" ∧ yX6_pause.cls ≠ "java/lang/invoke/VarHandle" ∧ (parseMethodDescriptor yX6_pause.desc).map (fun d => d.parameters.length) = some 1 := by decide +kernel
theorem cd_X6_set : yX6_set.cls = RX6 ∧ yX6_set.cls ≠ "java/lang/invoke/MethodHandle" ∧ yX6_set.cls ≠ "java/lang/invoke/VarHandle" ∧ (parseMethodDescriptor yX6_set.desc).map (fun d => d.parameters.length) = some 2 := by decide +kernel
theorem cd_X6_setting : yX6_setting.cls = RX6 ∧ yX6_setting.cls ≠ "java/lang/invoke/MethodHandle" ∧ yX6_setting.cls ≠ "java/lang/invoke/VarHandle" ∧ (parseMethodDescriptor yX6_setting.desc).map (fun d => d.parameters.length) = some 1 := by decide +kernel
theorem cd_X6_test : yX6_test.cls = RX6 ∧ yX6_test.cls ≠ "java/lang/invoke/MethodHandle" ∧ yX6_test.cls ≠ "java/lang/invoke/VarHandle" ∧ (parseMethodDescriptor yX6_test.desc).map (fun d => d.parameters.length) = some 1 := by decide +kernel
theorem cd_X6_told : yX6_told.cls = RX6 ∧ yX6_told.cls ≠ "java/lang/invoke/MethodHandle" ∧ yX6_told.cls ≠ "java/lang/invoke/VarHandle" ∧ (parseMethodDescriptor yX6_told.desc).map (fun d => d.parameters.length) = some 1 := by decide +kernel
theorem cd_X6_track : yX6_track.cls = RX6 ∧ yX6_track.cls ≠ "java/lang/invoke/MethodHandle" ∧ yX6_track.cls ≠ "java/lang/invoke/VarHandle" ∧ (parseMethodDescriptor yX6_track.desc).map (fun d => d.parameters.length) = some 2 := by decide +kernel
theorem cd_X6_train : yX6_train.cls = RX6 ∧ yX6_train.cls ≠ "java/lang/invoke/MethodHandle" ∧ yX6_train.cls ≠ "java/lang/invoke/VarHandle" ∧ (parseMethodDescriptor yX6_train.desc).map (fun d => d.parameters.length) = some 1 := by decide +kernel
theorem cd_X6_undo : yX6_undo.cls = RX6 ∧ yX6_undo.cls ≠ "java/lang/invoke/MethodHandle" ∧ yX6_undo.cls ≠ "java/lang/invoke/VarHandle" ∧ (parseMethodDescriptor yX6_undo.desc).map (fun d => d.parameters.length) = some 0 := by decide +kernel
theorem cd_X6_wagon : yX6_wagon.cls = RX6 ∧ yX6_wagon.cls ≠ "java/lang/invoke/MethodHandle" ∧ yX6_wagon.cls ≠ "java/lang/invoke/VarHandle" ∧ (parseMethodDescriptor yX6_wagon.desc).map (fun d => d.parameters.length) = some 3 := by decide +kernel
theorem cd_X6_wagonOf : yX6_wagonOf.cls ≠ "java/lang/invoke/MethodHandle" ∧ yX6_wagonOf.cls ≠ "java/lang/invoke/VarHandle" ∧ (parseMethodDescriptor yX6_wagonOf.desc).map (fun d => d.parameters.length) = some 3 := by decide +kernel
theorem cd_X6_wipe : yX6_wipe.cls = RX6 ∧ yX6_wipe.cls ≠ "java/lang/invoke/MethodHandle" ∧ yX6_wipe.cls ≠ "java/lang/invoke/VarHandle" ∧ (parseMethodDescriptor yX6_wipe.desc).map (fun d => d.parameters.length) = some 0 := by decide +kernel
theorem cd_X6_within : yX6_within.cls ≠ "java/lang/invoke/MethodHandle" ∧ yX6_within.cls ≠ "java/lang/invoke/VarHandle" ∧ (parseMethodDescriptor yX6_within.desc).map (fun d => d.parameters.length) = some 3 := by decide +kernel
theorem cd_X6_write : yX6_write.cls = RX6 ∧ yX6_write.cls ≠ "java/lang/invoke/MethodHandle" ∧ yX6_write.cls ≠ "java/lang/invoke/VarHandle" ∧ (parseMethodDescriptor yX6_write.desc).map (fun d => d.parameters.length) = some 1 := by decide +kernel
theorem cd_X7_appendKind : yX7_appendKind.cls = RX7 ∧ yX7_appendKind.cls ≠ "java/lang/invoke/MethodHandle" ∧ yX7_appendKind.cls ≠ "java/lang/invoke/VarHandle" ∧ (parseMethodDescriptor yX7_appendKind.desc).map (fun d => d.parameters.length) = some 1 := by decide +kernel
theorem cd_X7_areTracks : yX7_areTracks.cls = RX7 ∧ yX7_areTracks.cls ≠ "java/lang/invoke/MethodHandle" ∧ yX7_areTracks.cls ≠ "java/lang/invoke/VarHandle" ∧ (parseMethodDescriptor yX7_areTracks.desc).map (fun d => d.parameters.length) = some 3 := by decide +kernel
theorem cd_X7_arrive : yX7_arrive.cls = RX7 ∧ yX7_arrive.cls ≠ "java/lang/invoke/MethodHandle" ∧ yX7_arrive.cls ≠ "java/lang/invoke/VarHandle" ∧ (parseMethodDescriptor yX7_arrive.desc).map (fun d => d.parameters.length) = some 1 := by decide +kernel
theorem cd_X7_back : yX7_back.cls = RX7 ∧ yX7_back.cls ≠ "java/lang/invoke/MethodHandle" ∧ yX7_back.cls ≠ "java/lang/invoke/VarHandle" ∧ (parseMethodDescriptor yX7_back.desc).map (fun d => d.parameters.length) = some 1 := by decide +kernel
theorem cd_X7_begin : yX7_begin.cls = RX7 ∧ yX7_begin.cls ≠ "java/lang/invoke/MethodHandle" ∧ yX7_begin.cls ≠ "java/lang/invoke/VarHandle" ∧ (parseMethodDescriptor yX7_begin.desc).map (fun d => d.parameters.length) = some 2 := by decide +kernel
theorem cd_X7_beginRow : yX7_beginRow.cls = RX7 ∧ yX7_beginRow.cls ≠ "java/lang/invoke/MethodHandle" ∧ yX7_beginRow.cls ≠ "java/lang/invoke/VarHandle" ∧ (parseMethodDescriptor yX7_beginRow.desc).map (fun d => d.parameters.length) = some 2 := by decide +kernel
theorem cd_X7_bound : yX7_bound.cls = RX7 ∧ yX7_bound.cls ≠ "java/lang/invoke/MethodHandle" ∧ yX7_bound.cls ≠ "java/lang/invoke/VarHandle" ∧ (parseMethodDescriptor yX7_bound.desc).map (fun d => d.parameters.length) = some 2 := by decide +kernel
theorem cd_X7_carry : yX7_carry.cls = RX7 ∧ yX7_carry.cls ≠ "java/lang/invoke/MethodHandle" ∧ yX7_carry.cls ≠ "java/lang/invoke/VarHandle" ∧ (parseMethodDescriptor yX7_carry.desc).map (fun d => d.parameters.length) = some 4 := by decide +kernel
theorem cd_X7_cheapest : yX7_cheapest.cls = RX7 ∧ yX7_cheapest.cls ≠ "java/lang/invoke/MethodHandle" ∧ yX7_cheapest.cls ≠ "java/lang/invoke/VarHandle" ∧ (parseMethodDescriptor yX7_cheapest.desc).map (fun d => d.parameters.length) = some 2 := by decide +kernel
theorem cd_X7_cost : yX7_cost.cls = RX7 ∧ yX7_cost.cls ≠ "java/lang/invoke/MethodHandle" ∧ yX7_cost.cls ≠ "java/lang/invoke/VarHandle" ∧ (parseMethodDescriptor yX7_cost.desc).map (fun d => d.parameters.length) = some 3 := by decide +kernel
theorem cd_X7_costOf : yX7_costOf.cls = RX7 ∧ yX7_costOf.cls ≠ "java/lang/invoke/MethodHandle" ∧ yX7_costOf.cls ≠ "java/lang/invoke/VarHandle" ∧ (parseMethodDescriptor yX7_costOf.desc).map (fun d => d.parameters.length) = some 3 := by decide +kernel
theorem cd_X7_depart : yX7_depart.cls = RX7 ∧ yX7_depart.cls ≠ "java/lang/invoke/MethodHandle" ∧ yX7_depart.cls ≠ "java/lang/invoke/VarHandle" ∧ (parseMethodDescriptor yX7_depart.desc).map (fun d => d.parameters.length) = some 1 := by decide +kernel
theorem cd_X7_destination : yX7_destination.cls = RX7 ∧ yX7_destination.cls ≠ "java/lang/invoke/MethodHandle" ∧ yX7_destination.cls ≠ "java/lang/invoke/VarHandle" ∧ (parseMethodDescriptor yX7_destination.desc).map (fun d => d.parameters.length) = some 2 := by decide +kernel
theorem cd_X7_enter : yX7_enter.cls = RX7 ∧ yX7_enter.cls ≠ "java/lang/invoke/MethodHandle" ∧ yX7_enter.cls ≠ "java/lang/invoke/VarHandle" ∧ (parseMethodDescriptor yX7_enter.desc).map (fun d => d.parameters.length) = some 1 := by decide +kernel
theorem cd_X7_fails : yX7_fails.cls = RX7 ∧ yX7_fails.cls ≠ "java/lang/invoke/MethodHandle" ∧ yX7_fails.cls ≠ "java/lang/invoke/VarHandle" ∧ (parseMethodDescriptor yX7_fails.desc).map (fun d => d.parameters.length) = some 2 := by decide +kernel
theorem cd_X7_fault : yX7_fault.cls = RX7 ∧ yX7_fault.cls ≠ "java/lang/invoke/MethodHandle" ∧ yX7_fault.cls ≠ "java/lang/invoke/VarHandle" ∧ (parseMethodDescriptor yX7_fault.desc).map (fun d => d.parameters.length) = some 1 := by decide +kernel
theorem cd_X7_find : yX7_find.cls = RX7 ∧ yX7_find.cls ≠ "java/lang/invoke/MethodHandle" ∧ yX7_find.cls ≠ "java/lang/invoke/VarHandle" ∧ (parseMethodDescriptor yX7_find.desc).map (fun d => d.parameters.length) = some 2 := by decide +kernel
theorem cd_X7_hasFault : yX7_hasFault.cls = RX7 ∧ yX7_hasFault.cls ≠ "java/lang/invoke/MethodHandle" ∧ yX7_hasFault.cls ≠ "java/lang/invoke/VarHandle" ∧ (parseMethodDescriptor yX7_hasFault.desc).map (fun d => d.parameters.length) = some 0 := by decide +kernel
theorem cd_X7_hold : yX7_hold.cls = RX7 ∧ yX7_hold.cls ≠ "java/lang/invoke/MethodHandle" ∧ yX7_hold.cls ≠ "java/lang/invoke/VarHandle" ∧ (parseMethodDescriptor yX7_hold.desc).map (fun d => d.parameters.length) = some 1 := by decide +kernel
theorem cd_X7_init : yX7_init.cls ≠ "java/lang/invoke/MethodHandle" ∧ yX7_init.cls ≠ "java/lang/invoke/VarHandle" ∧ (parseMethodDescriptor yX7_init.desc).map (fun d => d.parameters.length) = some 0 := by decide +kernel
theorem cd_X7_isImage : yX7_isImage.cls ≠ "java/lang/invoke/MethodHandle" ∧ yX7_isImage.cls ≠ "java/lang/invoke/VarHandle" ∧ (parseMethodDescriptor yX7_isImage.desc).map (fun d => d.parameters.length) = some 1 := by decide +kernel
theorem cd_X7_isIn : yX7_isIn.cls ≠ "java/lang/invoke/MethodHandle" ∧ yX7_isIn.cls ≠ "java/lang/invoke/VarHandle" ∧ (parseMethodDescriptor yX7_isIn.desc).map (fun d => d.parameters.length) = some 3 := by decide +kernel
theorem cd_X7_isLetter : yX7_isLetter.cls ≠ "java/lang/invoke/MethodHandle" ∧ yX7_isLetter.cls ≠ "java/lang/invoke/VarHandle" ∧ (parseMethodDescriptor yX7_isLetter.desc).map (fun d => d.parameters.length) = some 1 := by decide +kernel
theorem cd_X7_isOf : yX7_isOf.cls ≠ "java/lang/invoke/MethodHandle" ∧ yX7_isOf.cls ≠ "java/lang/invoke/VarHandle" ∧ (parseMethodDescriptor yX7_isOf.desc).map (fun d => d.parameters.length) = some 2 := by decide +kernel
theorem cd_X7_isSafe : yX7_isSafe.cls = RX7 ∧ yX7_isSafe.cls ≠ "java/lang/invoke/MethodHandle" ∧ yX7_isSafe.cls ≠ "java/lang/invoke/VarHandle" ∧ (parseMethodDescriptor yX7_isSafe.desc).map (fun d => d.parameters.length) = some 1 := by decide +kernel
theorem cd_X7_isSafeRow : yX7_isSafeRow.cls = RX7 ∧ yX7_isSafeRow.cls ≠ "java/lang/invoke/MethodHandle" ∧ yX7_isSafeRow.cls ≠ "java/lang/invoke/VarHandle" ∧ (parseMethodDescriptor yX7_isSafeRow.desc).map (fun d => d.parameters.length) = some 0 := by decide +kernel
theorem cd_X7_isTrack : yX7_isTrack.cls = RX7 ∧ yX7_isTrack.cls ≠ "java/lang/invoke/MethodHandle" ∧ yX7_isTrack.cls ≠ "java/lang/invoke/VarHandle" ∧ (parseMethodDescriptor yX7_isTrack.desc).map (fun d => d.parameters.length) = some 1 := by decide +kernel
theorem cd_X7_isWorthIt : yX7_isWorthIt.cls = RX7 ∧ yX7_isWorthIt.cls ≠ "java/lang/invoke/MethodHandle" ∧ yX7_isWorthIt.cls ≠ "java/lang/invoke/VarHandle" ∧ (parseMethodDescriptor yX7_isWorthIt.desc).map (fun d => d.parameters.length) = some 1 := by decide +kernel
theorem cd_X7_keep : yX7_keep.cls = RX7 ∧ yX7_keep.cls ≠ "java/lang/invoke/MethodHandle" ∧ yX7_keep.cls ≠ "java/lang/invoke/VarHandle" ∧ (parseMethodDescriptor yX7_keep.desc).map (fun d => d.parameters.length) = some 1 := by decide +kernel
theorem cd_X7_kindAt : yX7_kindAt.cls = RX7 ∧ yX7_kindAt.cls ≠ "java/lang/invoke/MethodHandle" ∧ yX7_kindAt.cls ≠ "java/lang/invoke/VarHandle" ∧ (parseMethodDescriptor yX7_kindAt.desc).map (fun d => d.parameters.length) = some 2 := by decide +kernel
theorem cd_X7_leastGap : yX7_leastGap.cls = RX7 ∧ yX7_leastGap.cls ≠ "java/lang/invoke/MethodHandle" ∧ yX7_leastGap.cls ≠ "java/lang/invoke/VarHandle" ∧ (parseMethodDescriptor yX7_leastGap.desc).map (fun d => d.parameters.length) = some 0 := by decide +kernel
theorem cd_X7_list : yX7_list.cls = RX7 ∧ yX7_list.cls ≠ "java/lang/invoke/MethodHandle" ∧ yX7_list.cls ≠ "java/lang/invoke/VarHandle" ∧ (parseMethodDescriptor yX7_list.desc).map (fun d => d.parameters.length) = some 0 := by decide +kernel
theorem cd_X7_madeUp : yX7_madeUp.cls = RX7 ∧ yX7_madeUp.cls ≠ "java/lang/invoke/MethodHandle" ∧ yX7_madeUp.cls ≠ "java/lang/invoke/VarHandle" ∧ (parseMethodDescriptor yX7_madeUp.desc).map (fun d => d.parameters.length) = some 0 := by decide +kernel
theorem cd_X7_makeUp : yX7_makeUp.cls = RX7 ∧ yX7_makeUp.cls ≠ "java/lang/invoke/MethodHandle" ∧ yX7_makeUp.cls ≠ "java/lang/invoke/VarHandle" ∧ (parseMethodDescriptor yX7_makeUp.desc).map (fun d => d.parameters.length) = some 1 := by decide +kernel
theorem cd_X7_mean : yX7_mean.cls = RX7 ∧ yX7_mean.cls ≠ "java/lang/invoke/MethodHandle" ∧ yX7_mean.cls ≠ "java/lang/invoke/VarHandle" ∧ (parseMethodDescriptor yX7_mean.desc).map (fun d => d.parameters.length) = some 0 := by decide +kernel
theorem cd_X7_move : yX7_move.cls = RX7 ∧ yX7_move.cls ≠ "java/lang/invoke/MethodHandle" ∧ yX7_move.cls ≠ "java/lang/invoke/VarHandle" ∧ (parseMethodDescriptor yX7_move.desc).map (fun d => d.parameters.length) = some 3 := by decide +kernel
theorem cd_X7_next : yX7_next.cls = RX7 ∧ yX7_next.cls ≠ "java/lang/invoke/MethodHandle" ∧ yX7_next.cls ≠ "java/lang/invoke/VarHandle" ∧ (parseMethodDescriptor yX7_next.desc).map (fun d => d.parameters.length) = some 1 := by decide +kernel
theorem cd_X7_note : yX7_note.cls = RX7 ∧ yX7_note.cls ≠ "java/lang/invoke/MethodHandle" ∧ yX7_note.cls ≠ "java/lang/invoke/VarHandle" ∧ (parseMethodDescriptor yX7_note.desc).map (fun d => d.parameters.length) = some 2 := by decide +kernel
theorem cd_X7_of : yX7_of.cls = RX7 ∧ yX7_of.cls ≠ "java/lang/invoke/MethodHandle" ∧ yX7_of.cls ≠ "java/lang/invoke/VarHandle" ∧ (parseMethodDescriptor yX7_of.desc).map (fun d => d.parameters.length) = some 2 := by decide +kernel
theorem cd_X7_pause : yX7_pause.cls = RX7 ∧ yX7_pause.cls ≠ "java/lang/invoke/MethodHandle" ∧ yX7_pause.cls ≠ "java/lang/invoke/VarHandle" ∧ (parseMethodDescriptor yX7_pause.desc).map (fun d => d.parameters.length) = some 1 := by decide +kernel
theorem cd_X7_put : yX7_put.cls = RX7 ∧ yX7_put.cls ≠ "java/lang/invoke/MethodHandle" ∧ yX7_put.cls ≠ "java/lang/invoke/VarHandle" ∧ (parseMethodDescriptor yX7_put.desc).map (fun d => d.parameters.length) = some 3 := by decide +kernel
theorem cd_X7_readList : yX7_readList.cls = RX7 ∧ yX7_readList.cls ≠ "java/lang/invoke/MethodHandle" ∧ yX7_readList.cls ≠ "java/lang/invoke/VarHandle" ∧ (parseMethodDescriptor yX7_readList.desc).map (fun d => d.parameters.length) = some 0 := by decide +kernel
theorem cd_X7_readWagons : yX7_readWagons.cls = RX7 ∧ yX7_readWagons.cls ≠ "java/lang/invoke/MethodHandle" ∧ yX7_readWagons.cls ≠ "java/lang/invoke/VarHandle" ∧ (parseMethodDescriptor yX7_readWagons.desc).map (fun d => d.parameters.length) = some 0 := by decide +kernel
theorem cd_X7_reasonAgainst : yX7_reasonAgainst.cls = RX7 ∧ yX7_reasonAgainst.cls ≠ "java/lang/invoke/MethodHandle" ∧ yX7_reasonAgainst.cls ≠ "java/lang/invoke/VarHandle" ∧ (parseMethodDescriptor yX7_reasonAgainst.desc).map (fun d => d.parameters.length) = some 1 := by decide +kernel
theorem cd_X7_release : yX7_release.cls = RX7 ∧ yX7_release.cls ≠ "java/lang/invoke/MethodHandle" ∧ yX7_release.cls ≠ "java/lang/invoke/VarHandle" ∧ (parseMethodDescriptor yX7_release.desc).map (fun d => d.parameters.length) = some 1 := by decide +kernel
theorem cd_X7_remember : yX7_remember.cls = RX7 ∧ yX7_remember.cls ≠ "java/lang/invoke/MethodHandle" ∧ yX7_remember.cls ≠ "java/lang/invoke/VarHandle" ∧ (parseMethodDescriptor yX7_remember.desc).map (fun d => d.parameters.length) = some 0 := by decide +kernel
theorem cd_X7_search : yX7_search.cls = RX7 ∧ yX7_search.cls ≠ "java/lang/invoke/MethodHandle" ∧ yX7_search.cls ≠ "java/lang/invoke/VarHandle" ∧ (parseMethodDescriptor yX7_search.desc).map (fun d => d.parameters.length) = some 1 := by decide +kernel
theorem cd_X7_set : yX7_set.cls = RX7 ∧ yX7_set.cls ≠ "java/lang/invoke/MethodHandle" ∧ yX7_set.cls ≠ "java/lang/invoke/VarHandle" ∧ (parseMethodDescriptor yX7_set.desc).map (fun d => d.parameters.length) = some 2 := by decide +kernel
theorem cd_X7_setting : yX7_setting.cls = RX7 ∧ yX7_setting.cls ≠ "java/lang/invoke/MethodHandle" ∧ yX7_setting.cls ≠ "java/lang/invoke/VarHandle" ∧ (parseMethodDescriptor yX7_setting.desc).map (fun d => d.parameters.length) = some 1 := by decide +kernel
theorem cd_X7_spread : yX7_spread.cls = RX7 ∧ yX7_spread.cls ≠ "java/lang/invoke/MethodHandle" ∧ yX7_spread.cls ≠ "java/lang/invoke/VarHandle" ∧ (parseMethodDescriptor yX7_spread.desc).map (fun d => d.parameters.length) = some 0 := by decide +kernel
theorem cd_X7_stillHolds : yX7_stillHolds.cls = RX7 ∧ yX7_stillHolds.cls ≠ "java/lang/invoke/MethodHandle" ∧ yX7_stillHolds.cls ≠ "java/lang/invoke/VarHandle" ∧ (parseMethodDescriptor yX7_stillHolds.desc).map (fun d => d.parameters.length) = some 1 := by decide +kernel
theorem cd_X7_test : yX7_test.cls = RX7 ∧ yX7_test.cls ≠ "java/lang/invoke/MethodHandle" ∧ yX7_test.cls ≠ "java/lang/invoke/VarHandle" ∧ (parseMethodDescriptor yX7_test.desc).map (fun d => d.parameters.length) = some 1 := by decide +kernel
theorem cd_X7_told : yX7_told.cls = RX7 ∧ yX7_told.cls ≠ "java/lang/invoke/MethodHandle" ∧ yX7_told.cls ≠ "java/lang/invoke/VarHandle" ∧ (parseMethodDescriptor yX7_told.desc).map (fun d => d.parameters.length) = some 1 := by decide +kernel
theorem cd_X7_track : yX7_track.cls = RX7 ∧ yX7_track.cls ≠ "java/lang/invoke/MethodHandle" ∧ yX7_track.cls ≠ "java/lang/invoke/VarHandle" ∧ (parseMethodDescriptor yX7_track.desc).map (fun d => d.parameters.length) = some 2 := by decide +kernel
theorem cd_X7_train : yX7_train.cls = RX7 ∧ yX7_train.cls ≠ "java/lang/invoke/MethodHandle" ∧ yX7_train.cls ≠ "java/lang/invoke/VarHandle" ∧ (parseMethodDescriptor yX7_train.desc).map (fun d => d.parameters.length) = some 1 := by decide +kernel
theorem cd_X7_tryMove : yX7_tryMove.cls = RX7 ∧ yX7_tryMove.cls ≠ "java/lang/invoke/MethodHandle" ∧ yX7_tryMove.cls ≠ "java/lang/invoke/VarHandle" ∧ (parseMethodDescriptor yX7_tryMove.desc).map (fun d => d.parameters.length) = some 2 := by decide +kernel
theorem cd_X7_undo : yX7_undo.cls = RX7 ∧ yX7_undo.cls ≠ "java/lang/invoke/MethodHandle" ∧ yX7_undo.cls ≠ "java/lang/invoke/VarHandle" ∧ (parseMethodDescriptor yX7_undo.desc).map (fun d => d.parameters.length) = some 0 := by decide +kernel
theorem cd_X7_unsafeTracks : yX7_unsafeTracks.cls = RX7 ∧ yX7_unsafeTracks.cls ≠ "java/lang/invoke/MethodHandle" ∧ yX7_unsafeTracks.cls ≠ "java/lang/invoke/VarHandle" ∧ (parseMethodDescriptor yX7_unsafeTracks.desc).map (fun d => d.parameters.length) = some 0 := by decide +kernel
theorem cd_X7_wagon : yX7_wagon.cls = RX7 ∧ yX7_wagon.cls ≠ "java/lang/invoke/MethodHandle" ∧ yX7_wagon.cls ≠ "java/lang/invoke/VarHandle" ∧ (parseMethodDescriptor yX7_wagon.desc).map (fun d => d.parameters.length) = some 3 := by decide +kernel
theorem cd_X7_wagons : yX7_wagons.cls = RX7 ∧ yX7_wagons.cls ≠ "java/lang/invoke/MethodHandle" ∧ yX7_wagons.cls ≠ "java/lang/invoke/VarHandle" ∧ (parseMethodDescriptor yX7_wagons.desc).map (fun d => d.parameters.length) = some 0 := by decide +kernel
theorem cd_X7_wipe : yX7_wipe.cls = RX7 ∧ yX7_wipe.cls ≠ "java/lang/invoke/MethodHandle" ∧ yX7_wipe.cls ≠ "java/lang/invoke/VarHandle" ∧ (parseMethodDescriptor yX7_wipe.desc).map (fun d => d.parameters.length) = some 0 := by decide +kernel
theorem cd_X7_write : yX7_write.cls = RX7 ∧ yX7_write.cls ≠ "java/lang/invoke/MethodHandle" ∧ yX7_write.cls ≠ "java/lang/invoke/VarHandle" ∧ (parseMethodDescriptor yX7_write.desc).map (fun d => d.parameters.length) = some 1 := by decide +kernel
theorem gg_L_101 : GoodIn wsL_law (wsV RL 101 RX7 yX7_cost (.code yX7_cost cX7_cost 4 (some .int) :: wsL_law)) := zk_gV mw_30_12 mw_15_15 mw_15_16 mw_1_5 mw_15_17
theorem gg_L_102 : GoodIn wsL_law (wsV RL 102 RX6 yX6_cheapest (.code yX6_cheapest cX6_cheapest 4 (some .int) :: wsL_law)) := zk_gV mw_30_13 mw_30_14 mw_30_15 mw_1_2 mw_30_16
theorem gg_L_105 : GoodIn wsL_law (wsV RL 105 RX7 yX7_cheapest (.code yX7_cheapest cX7_cheapest 3 (some .int) :: wsL_law)) := zk_gV mw_30_18 mw_30_19 mw_30_20 mw_1_5 mw_30_21
theorem gg_L_106 : GoodIn wsL_law (wsV RL 106 RX6 yX6_keep (.code yX6_keep cX6_keep 2 (some .int) :: wsL_law)) := zk_gV mw_30_22 mw_30_23 mw_31_0 mw_1_2 mw_31_1
theorem gg_L_109 : GoodIn wsL_law (wsV RL 109 RX7 yX7_keep (.code yX7_keep cX7_keep 3 (some .int) :: wsL_law)) := zk_gV mw_31_3 mw_31_4 mw_31_5 mw_1_5 mw_31_6
theorem gg_L_110 : GoodIn wsL_law (wsV RL 110 RX6 yX6_back (.code yX6_back cX6_back 2 (some .int) :: wsL_law)) := zk_gV mw_31_11 mw_31_12 mw_31_13 mw_1_2 mw_31_14
theorem gg_L_113 : GoodIn wsL_law (wsV RL 113 RX7 yX7_back (.code yX7_back cX7_back 3 (some .int) :: wsL_law)) := zk_gV mw_31_15 mw_31_16 mw_31_17 mw_1_5 mw_31_18
theorem gg_L_13 : GoodIn wsL_law (wsV RL 13 RX6 yX6_begin (.code yX6_begin cX6_begin 4 (some .int) :: wsL_law)) := zk_gV mw_5_2 mw_5_3 mw_5_4 mw_1_2 mw_5_5
theorem gg_L_17 : GoodIn wsL_law (wsV RL 17 RX7 yX7_begin (.code yX7_begin cX7_begin 5 (some .int) :: wsL_law)) := zk_gV mw_6_22 mw_6_23 mw_7_0 mw_1_5 mw_7_1
theorem gg_L_18 : GoodIn wsL_law (wsV RL 18 RX6 yX6_set (.code yX6_set cX6_set 4 (some .int) :: wsL_law)) := zk_gV mw_7_18 mw_7_19 mw_7_20 mw_1_2 mw_7_21
theorem gg_L_21 : GoodIn wsL_law (wsV RL 21 RX7 yX7_set (.code yX7_set cX7_set 4 (some .int) :: wsL_law)) := zk_gV mw_8_8 mw_8_9 mw_8_10 mw_1_5 mw_8_11
theorem gg_L_22 : GoodIn wsL_law (wsV RL 22 RX6 yX6_arrive (.code yX6_arrive cX6_arrive 2 (some .int) :: wsL_law)) := zk_gV mw_8_15 mw_8_16 mw_8_17 mw_1_2 mw_8_18
theorem gg_L_26 : GoodIn wsL_law (wsV RL 26 RX7 yX7_arrive (.code yX7_arrive cX7_arrive 4 (some .int) :: wsL_law)) := zk_gV mw_11_5 mw_11_6 mw_11_7 mw_1_5 mw_11_8
theorem gg_L_27 : GoodIn wsL_law (wsV RL 27 RX6 yX6_list (.code yX6_list cX6_list 1 (some .int) :: wsL_law)) := zk_gV mw_13_9 mw_13_10 mw_13_11 mw_1_2 mw_13_12
theorem gg_L_31 : GoodIn wsL_law (wsV RL 31 RX7 yX7_list (.code yX7_list cX7_list 2 (some .int) :: wsL_law)) := zk_gV mw_13_22 mw_13_23 mw_14_0 mw_1_5 mw_14_1
theorem gg_L_32 : GoodIn wsL_law (wsV RL 32 RX6 yX6_move (.code yX6_move cX6_move 5 (some .int) :: wsL_law)) := zk_gV mw_14_6 mw_14_7 mw_14_8 mw_1_2 mw_14_9
theorem gg_L_36 : GoodIn wsL_law (wsV RL 36 RX7 yX7_move (.code yX7_move cX7_move 5 (some .int) :: wsL_law)) := zk_gV mw_15_10 mw_15_11 mw_15_12 mw_1_5 mw_15_13
theorem gg_L_37 : GoodIn wsL_law (wsV RL 37 RX6 yX6_test (.code yX6_test cX6_test 2 (some .int) :: wsL_law)) := zk_gV mw_16_6 mw_16_7 mw_16_8 mw_1_2 mw_16_9
theorem gg_L_40 : GoodIn wsL_law (wsV RL 40 RX7 yX7_test (.code yX7_test cX7_test 3 (some .int) :: wsL_law)) := zk_gV mw_16_14 mw_16_15 mw_16_16 mw_1_5 mw_16_17
theorem gg_L_41 : GoodIn wsL_law (wsV RL 41 RX6 yX6_pause (.code yX6_pause cX6_pause 2 (some .int) :: wsL_law)) := zk_gV mw_16_18 mw_16_19 mw_16_20 mw_1_2 mw_16_21
theorem gg_L_44 : GoodIn wsL_law (wsV RL 44 RX7 yX7_pause (.code yX7_pause cX7_pause 2 (some .int) :: wsL_law)) := zk_gV mw_16_23 mw_17_0 mw_17_1 mw_1_5 mw_17_2
theorem gg_L_45 : GoodIn wsL_law (wsV RL 45 RX6 yX6_depart (.code yX6_depart cX6_depart 3 (some .int) :: wsL_law)) := zk_gV mw_17_3 mw_17_4 mw_17_5 mw_1_2 mw_17_6
theorem gg_L_48 : GoodIn wsL_law (wsV RL 48 RX7 yX7_depart (.code yX7_depart cX7_depart 5 (some .int) :: wsL_law)) := zk_gV mw_18_14 mw_18_15 mw_18_16 mw_1_5 mw_18_17
theorem gg_L_49 : GoodIn wsL_law (wsV RL 49 RX6 yX6_makeUp (.code yX6_makeUp cX6_makeUp 5 (some .int) :: wsL_law)) := zk_gV mw_19_14 mw_19_15 mw_19_16 mw_1_2 mw_19_17
theorem gg_L_52 : GoodIn wsL_law (wsV RL 52 RX7 yX7_makeUp (.code yX7_makeUp cX7_makeUp 4 (some .int) :: wsL_law)) := zk_gV mw_22_22 mw_22_23 mw_23_0 mw_1_5 mw_23_1
theorem gg_L_53 : GoodIn wsL_law (wsV RL 53 RX6 yX6_undo (.code yX6_undo cX6_undo 1 (some .int) :: wsL_law)) := zk_gV mw_24_20 mw_24_21 mw_24_22 mw_1_2 mw_24_23
theorem gg_L_56 : GoodIn wsL_law (wsV RL 56 RX7 yX7_undo (.code yX7_undo cX7_undo 2 (some .int) :: wsL_law)) := zk_gV mw_25_5 mw_25_6 mw_25_7 mw_1_5 mw_25_8
theorem gg_L_57 : GoodIn wsL_law (wsV RL 57 RX6 yX6_write (.code yX6_write cX6_write 2 (some .int) :: wsL_law)) := zk_gV mw_25_9 mw_25_10 mw_25_11 mw_1_2 mw_25_12
theorem gg_L_60 : GoodIn wsL_law (wsV RL 60 RX7 yX7_write (.code yX7_write cX7_write 2 (some .int) :: wsL_law)) := zk_gV mw_25_18 mw_25_19 mw_25_20 mw_1_5 mw_25_21
theorem gg_L_61 : GoodIn wsL_law (wsV RL 61 RX6 yX6_wipe (.code yX6_wipe cX6_wipe 2 (some .int) :: wsL_law)) := zk_gV mw_25_22 mw_25_23 mw_26_0 mw_1_2 mw_26_1
theorem gg_L_64 : GoodIn wsL_law (wsV RL 64 RX7 yX7_wipe (.code yX7_wipe cX7_wipe 2 (some .int) :: wsL_law)) := zk_gV mw_26_2 mw_26_3 mw_26_4 mw_1_5 mw_26_5
theorem gg_L_65 : GoodIn wsL_law (wsV RL 65 RX6 yX6_fault (.code yX6_fault cX6_fault 2 (some .int) :: wsL_law)) := zk_gV mw_26_6 mw_26_7 mw_26_8 mw_1_2 mw_26_9
theorem gg_L_68 : GoodIn wsL_law (wsV RL 68 RX7 yX7_fault (.code yX7_fault cX7_fault 2 (some .int) :: wsL_law)) := zk_gV mw_26_12 mw_26_13 mw_26_14 mw_1_5 mw_26_15
theorem gg_L_69 : GoodIn wsL_law (wsV RL 69 RX6 yX6_told (.code yX6_told cX6_told 2 (some .int) :: wsL_law)) := zk_gV mw_26_16 mw_26_17 mw_26_18 mw_1_2 mw_26_19
theorem gg_L_72 : GoodIn wsL_law (wsV RL 72 RX7 yX7_told (.code yX7_told cX7_told 2 (some .int) :: wsL_law)) := zk_gV mw_27_7 mw_27_8 mw_27_9 mw_1_5 mw_27_10
theorem gg_L_73 : GoodIn wsL_law (wsV RL 73 RX6 yX6_setting (.code yX6_setting cX6_setting 2 (some .int) :: wsL_law)) := zk_gV mw_27_15 mw_27_16 mw_27_17 mw_1_2 mw_27_18
theorem gg_L_76 : GoodIn wsL_law (wsV RL 76 RX7 yX7_setting (.code yX7_setting cX7_setting 2 (some .int) :: wsL_law)) := zk_gV mw_27_19 mw_27_20 mw_27_21 mw_1_5 mw_27_22
theorem gg_L_77 : GoodIn wsL_law (wsV RL 77 RX6 yX6_track (.code yX6_track cX6_track 3 (some .int) :: wsL_law)) := zk_gV mw_27_23 mw_28_0 mw_28_1 mw_1_2 mw_28_2
theorem gg_L_80 : GoodIn wsL_law (wsV RL 80 RX7 yX7_track (.code yX7_track cX7_track 3 (some .int) :: wsL_law)) := zk_gV mw_28_9 mw_28_10 mw_28_11 mw_1_5 mw_28_12
theorem gg_L_81 : GoodIn wsL_law (wsV RL 81 RX6 yX6_wagon (.code yX6_wagon cX6_wagon 5 (some .int) :: wsL_law)) := zk_gV mw_28_13 mw_28_14 mw_28_15 mw_1_2 mw_28_16
theorem gg_L_84 : GoodIn wsL_law (wsV RL 84 RX7 yX7_wagon (.code yX7_wagon cX7_wagon 4 (some .int) :: wsL_law)) := zk_gV mw_28_23 mw_29_0 mw_29_1 mw_1_5 mw_29_2
theorem gg_L_85 : GoodIn wsL_law (wsV RL 85 RX6 yX6_train (.code yX6_train cX6_train 2 (some .int) :: wsL_law)) := zk_gV mw_29_3 mw_29_4 mw_29_5 mw_1_2 mw_29_6
theorem gg_L_88 : GoodIn wsL_law (wsV RL 88 RX7 yX7_train (.code yX7_train cX7_train 2 (some .int) :: wsL_law)) := zk_gV mw_29_8 mw_29_9 mw_29_10 mw_1_5 mw_29_11
theorem gg_L_89 : GoodIn wsL_law (wsV RL 89 RX6 yX6_find (.code yX6_find cX6_find 4 (some .int) :: wsL_law)) := zk_gV mw_29_12 mw_29_13 mw_29_14 mw_1_2 mw_29_15
theorem gg_L_92 : GoodIn wsL_law (wsV RL 92 RX7 yX7_find (.code yX7_find cX7_find 5 (some .int) :: wsL_law)) := zk_gV mw_29_20 mw_29_21 mw_29_22 mw_1_5 mw_29_23
theorem gg_L_93 : GoodIn wsL_law (wsV RL 93 RX6 yX6_mean (.code yX6_mean cX6_mean 1 (some .float) :: wsL_law)) := zk_gV mw_30_0 mw_30_1 mw_30_2 mw_1_2 mw_30_3
theorem gg_L_97 : GoodIn wsL_law (wsV RL 97 RX7 yX7_mean (.code yX7_mean cX7_mean 1 (some .float) :: wsL_law)) := zk_gV mw_30_4 mw_30_5 mw_30_6 mw_1_5 mw_30_7
theorem gg_L_98 : GoodIn wsL_law (wsV RL 98 RX6 yX6_cost (.code yX6_cost cX6_cost 4 (some .int) :: wsL_law)) := zk_gV mw_30_8 mw_30_9 mw_30_10 mw_1_2 mw_30_11
theorem gg_X1_22 : GoodIn wsL_law (wsV RX1 22 RX5 yX5_copyFrom (.code yX5_copyFrom cX5_copyFrom 2 none :: wsL_law)) := zk_gV mw_5_23 mw_6_0 mw_6_1 mw_1_14 mw_6_2
theorem gg_X3_102 : GoodIn wsL_law (wsV RX3 102 RX2 yX2_dropLast (.code yX2_dropLast cX2_dropLast 2 none :: wsL_law)) := zk_gV mw_22_18 mw_22_19 mw_22_20 mw_3_17 mw_22_21
theorem gg_X3_105 : GoodIn wsL_law (wsV RX3 105 RX2 yX2_isCheaperThan (.code yX2_isCheaperThan cX2_isCheaperThan 2 (some .boolean) :: wsL_law)) := zk_gV mw_21_4 mw_21_5 mw_21_6 mw_3_17 mw_21_7
theorem gg_X3_109 : GoodIn wsL_law (wsV RX3 109 RX2 yX2_copyFrom (.code yX2_copyFrom cX2_copyFrom 2 none :: wsL_law)) := zk_gV mw_21_8 mw_21_9 mw_21_10 mw_3_17 mw_21_11
theorem gg_X3_118 : GoodIn wsL_law (wsV RX3 118 RX3 yX3_countWanted (.code yX3_countWanted cX3_countWanted 6 none :: wsL_law)) := zk_gV mw_21_17 mw_21_18 mw_21_19 mw_2_3 mw_21_20
theorem gg_X3_121 : GoodIn wsL_law (wsV RX3 121 RX3 yX3_movesNeededFor (.code yX3_movesNeededFor cX3_movesNeededFor 5 (some .int) :: wsL_law)) := zk_gV mw_21_22 mw_21_23 mw_22_0 mw_2_3 mw_22_1
theorem gg_X3_125 : GoodIn wsL_law (wsV RX3 125 RX5 yX5_isForFirst (.code yX5_isForFirst cX5_isForFirst 3 (some .boolean) :: wsL_law)) := zk_gV mw_21_21 mw_17_16 mw_17_17 mw_1_14 mw_17_18
theorem gg_X3_42 : GoodIn wsL_law (wsV RX3 42 RX2 yX2_clear (.code yX2_clear cX2_clear 1 none :: wsL_law)) := zk_gV mw_20_6 mw_20_7 mw_20_8 mw_3_17 mw_20_9
theorem gg_X3_49 : GoodIn wsL_law (wsV RX3 49 RX5 yX5_forFirstInYard (.code yX5_forFirstInYard cX5_forFirstInYard 3 (some .int) :: wsL_law)) := zk_gV mw_20_12 mw_17_20 mw_17_21 mw_1_14 mw_17_22
theorem gg_X3_53 : GoodIn wsL_law (wsV RX3 53 RX5 yX5_copyFrom (.code yX5_copyFrom cX5_copyFrom 2 none :: wsL_law)) := zk_gV mw_20_13 mw_6_0 mw_6_1 mw_1_14 mw_6_2
theorem gg_X3_63 : GoodIn wsL_law (wsV RX3 63 RX3 yX3_seek (.code yX3_seek cX3_seek 8 none :: wsL_law)) := zk_gV mw_20_14 mw_20_15 mw_20_16 mw_2_3 mw_20_17
theorem gg_X3_67 : GoodIn wsL_law (wsV RX3 67 RX5 yX5_madeUpTrack (.code yX5_madeUpTrack cX5_madeUpTrack 2 (some .int) :: wsL_law)) := zk_gV mw_20_20 mw_20_21 mw_20_22 mw_1_14 mw_20_23
theorem gg_X3_70 : GoodIn wsL_law (wsV RX3 70 RX3 yX3_keepIfCheaper (.code yX3_keepIfCheaper cX3_keepIfCheaper 1 none :: wsL_law)) := zk_gV mw_21_0 mw_21_1 mw_21_2 mw_2_3 mw_21_3
theorem gg_X3_73 : GoodIn wsL_law (wsV RX3 73 RX3 yX3_movesNeeded (.code yX3_movesNeeded cX3_movesNeeded 3 (some .int) :: wsL_law)) := zk_gV mw_21_13 mw_21_14 mw_21_15 mw_2_3 mw_21_16
theorem gg_X3_76 : GoodIn wsL_law (wsV RX3 76 RX3 yX3_isTooDear (.code yX3_isTooDear cX3_isTooDear 3 (some .boolean) :: wsL_law)) := zk_gV mw_22_2 mw_22_3 mw_22_4 mw_2_3 mw_22_5
theorem gg_X3_86 : GoodIn wsL_law (wsV RX3 86 RX5 yX5_costOrCode (.code yX5_costOrCode cX5_costOrCode 4 (some .int) :: wsL_law)) := zk_gV mw_22_8 mw_14_11 mw_14_12 mw_1_14 mw_14_13
theorem gg_X3_90 : GoodIn wsL_law (wsV RX3 90 RX3 yX3_seekBehindMove (.code yX3_seekBehindMove cX3_seekBehindMove 6 none :: wsL_law)) := zk_gV mw_22_9 mw_22_10 mw_22_11 mw_2_3 mw_22_12
theorem gg_X3_94 : GoodIn wsL_law (wsV RX3 94 RX5 yX5_shift (.code yX5_shift cX5_shift 5 none :: wsL_law)) := zk_gV mw_22_13 mw_15_7 mw_15_8 mw_1_14 mw_15_9
theorem gg_X3_98 : GoodIn wsL_law (wsV RX3 98 RX2 yX2_addLast (.code yX2_addLast cX2_addLast 5 none :: wsL_law)) := zk_gV mw_22_14 mw_22_15 mw_22_16 mw_3_17 mw_22_17
theorem gg_X4_35 : GoodIn wsL_law (wsV RX4 35 RX4 yX4_foundFault (.code yX4_foundFault cX4_foundFault 3 (some .boolean) :: wsL_law)) := zk_gV mw_9_8 mw_9_9 mw_9_10 mw_1_23 mw_9_11
theorem gg_X4_43 : GoodIn wsL_law (wsV RX4 43 RX4 yX4_fillLatest (.code yX4_fillLatest cX4_fillLatest 4 none :: wsL_law)) := zk_gV mw_9_14 mw_9_15 mw_9_16 mw_1_23 mw_9_17
theorem gg_X5_104 : GoodIn wsL_law (wsV RX5 104 RX0 yX0_start (.code yX0_start cX0_start 1 none :: wsL_law)) := zk_gV mw_10_1 mw_10_2 mw_10_3 mw_2_19 mw_10_4
theorem gg_X5_107 : GoodIn wsL_law (wsV RX5 107 RX5 yX5_passPart (.code yX5_passPart cX5_passPart 5 none :: wsL_law)) := zk_gV mw_10_8 mw_10_9 mw_10_10 mw_1_14 mw_10_11
theorem gg_X5_114 : GoodIn wsL_law (wsV RX5 114 RX0 yX0_pass (.code yX0_pass cX0_pass 2 none :: wsL_law)) := zk_gV mw_10_18 mw_10_19 mw_10_20 mw_2_19 mw_10_21
theorem gg_X5_118 : GoodIn wsL_law (wsV RX5 118 RX5 yX5_isSafe (.code yX5_isSafe cX5_isSafe 2 (some .boolean) :: wsL_law)) := zk_gV mw_17_23 mw_18_0 mw_18_1 mw_1_14 mw_18_2
theorem gg_X5_122 : GoodIn wsL_law (wsV RX5 122 RX5 yX5_hasTrack (.code yX5_hasTrack cX5_hasTrack 2 (some .boolean) :: wsL_law)) := zk_gV mw_14_14 mw_8_23 mw_9_0 mw_1_14 mw_9_1
theorem gg_X5_125 : GoodIn wsL_law (wsV RX5 125 RX5 yX5_isSafeBehindMove (.code yX5_isSafeBehindMove cX5_isSafeBehindMove 5 (some .boolean) :: wsL_law)) := zk_gV mw_14_15 mw_14_16 mw_14_17 mw_1_14 mw_14_18
theorem gg_X5_128 : GoodIn wsL_law (wsV RX5 128 RX5 yX5_minutesOf (.code yX5_minutesOf cX5_minutesOf 6 (some .int) :: wsL_law)) := zk_gV mw_14_19 mw_14_20 mw_14_21 mw_1_14 mw_14_22
theorem gg_X5_136 : GoodIn wsL_law (wsV RX5 136 RX5 yX5_shift (.code yX5_shift cX5_shift 5 none :: wsL_law)) := zk_gV mw_15_6 mw_15_7 mw_15_8 mw_1_14 mw_15_9
theorem gg_X5_142 : GoodIn wsL_law (wsV RX5 142 RX5 yX5_isForFirst (.code yX5_isForFirst cX5_isForFirst 3 (some .boolean) :: wsL_law)) := zk_gV mw_17_15 mw_17_16 mw_17_17 mw_1_14 mw_17_18
theorem gg_X5_146 : GoodIn wsL_law (wsV RX5 146 RX5 yX5_forFirstOn (.code yX5_forFirstOn cX5_forFirstOn 4 (some .int) :: wsL_law)) := zk_gV mw_17_11 mw_17_12 mw_17_13 mw_1_14 mw_17_14
theorem gg_X5_149 : GoodIn wsL_law (wsV RX5 149 RX5 yX5_forFirstInYard (.code yX5_forFirstInYard cX5_forFirstInYard 3 (some .int) :: wsL_law)) := zk_gV mw_17_19 mw_17_20 mw_17_21 mw_1_14 mw_17_22
theorem gg_X5_153 : GoodIn wsL_law (wsV RX5 153 RX5 yX5_testHoldsFor (.code yX5_testHoldsFor cX5_testHoldsFor 2 (some .int) :: wsL_law)) := zk_gV mw_18_3 mw_18_4 mw_18_5 mw_1_14 mw_18_6
theorem gg_X5_68 : GoodIn wsL_law (va_wsS RX5 68 yJ7_fill_53178 (.code yJ7_fill_53178 cJ7_fill_53178 4 none :: wsL_law)) := zk_gS mw_6_18 mw_6_19 mw_6_20 mw_6_21
theorem gg_X5_78 : GoodIn wsL_law (wsV RX5 78 RX5 yX5_wagonAt (.code yX5_wagonAt cX5_wagonAt 3 (some .int) :: wsL_law)) := zk_gV mw_10_12 mw_10_13 mw_10_14 mw_1_14 mw_10_15
theorem gg_X6_100 : GoodIn wsL_law (wsV RX6 100 RX4 yX4_readTrains (.code yX4_readTrains cX4_readTrains 3 (some .boolean) :: wsL_law)) := zk_gV mw_13_14 mw_13_15 mw_13_16 mw_1_23 mw_13_17
theorem gg_X6_103 : GoodIn wsL_law (wsV RX6 103 RX5 yX5_takeTrains (.code yX5_takeTrains cX5_takeTrains 2 none :: wsL_law)) := zk_gV mw_13_18 mw_13_19 mw_13_20 mw_1_14 mw_13_21
theorem gg_X6_110 : GoodIn wsL_law (wsV RX6 110 RX5 yX5_costOrCode (.code yX5_costOrCode cX5_costOrCode 4 (some .int) :: wsL_law)) := zk_gV mw_14_10 mw_14_11 mw_14_12 mw_1_14 mw_14_13
theorem gg_X6_114 : GoodIn wsL_law (wsV RX6 114 RX5 yX5_drive (.code yX5_drive cX5_drive 5 (some .int) :: wsL_law)) := zk_gV mw_15_2 mw_15_3 mw_15_4 mw_1_14 mw_15_5
theorem gg_X6_117 : GoodIn wsL_law (wsV RX6 117 RX5 yX5_testBrakes (.code yX5_testBrakes cX5_testBrakes 3 (some .int) :: wsL_law)) := zk_gV mw_16_10 mw_16_11 mw_16_12 mw_1_14 mw_16_13
theorem gg_X6_123 : GoodIn wsL_law (wsV RX6 123 RX5 yX5_refusal (.code yX5_refusal cX5_refusal 2 (some .int) :: wsL_law)) := zk_gV mw_17_7 mw_17_8 mw_17_9 mw_1_14 mw_17_10
theorem gg_X6_126 : GoodIn wsL_law (wsV RX6 126 RX5 yX5_sendOff (.code yX5_sendOff cX5_sendOff 3 (some .int) :: wsL_law)) := zk_gV mw_18_10 mw_18_11 mw_18_12 mw_1_14 mw_18_13
theorem gg_X6_129 : GoodIn wsL_law (wsV RX6 129 RX3 yX3_succeeds (.code yX3_succeeds cX3_succeeds 3 (some .boolean) :: wsL_law)) := zk_gV mw_19_23 mw_20_0 mw_20_1 mw_2_3 mw_20_2
theorem gg_X6_151 : GoodIn wsL_law (wsV RX6 151 RX1 yX1_restore (.code yX1_restore cX1_restore 3 (some .boolean) :: wsL_law)) := zk_gV mw_25_1 mw_25_2 mw_25_3 mw_1_18 mw_25_4
theorem gg_X6_160 : GoodIn wsL_law (wsV RX6 160 RX4 yX4_append (.code yX4_append cX4_append 2 none :: wsL_law)) := zk_gV mw_25_14 mw_25_15 mw_25_16 mw_1_23 mw_25_17
theorem gg_X6_173 : GoodIn wsL_law (wsV RX6 173 RX5 yX5_unsafeTracks (.code yX5_unsafeTracks cX5_unsafeTracks 3 (some .int) :: wsL_law)) := zk_gV mw_27_2 mw_27_3 mw_27_4 mw_1_14 mw_27_5
theorem gg_X6_189 : GoodIn wsL_law (wsV RX6 189 RX5 yX5_madeUpTrack (.code yX5_madeUpTrack cX5_madeUpTrack 2 (some .int) :: wsL_law)) := zk_gV mw_27_6 mw_20_21 mw_20_22 mw_1_14 mw_20_23
theorem gg_X6_192 : GoodIn wsL_law (wsV RX6 192 RX5 yX5_isSafe (.code yX5_isSafe cX5_isSafe 2 (some .boolean) :: wsL_law)) := zk_gV mw_28_3 mw_18_0 mw_18_1 mw_1_14 mw_18_2
theorem gg_X6_195 : GoodIn wsL_law (wsV RX6 195 RX5 yX5_testHoldsFor (.code yX5_testHoldsFor cX5_testHoldsFor 2 (some .int) :: wsL_law)) := zk_gV mw_28_4 mw_18_4 mw_18_5 mw_1_14 mw_18_6
theorem gg_X6_198 : GoodIn wsL_law (wsV RX6 198 RX5 yX5_leastGap (.code yX5_leastGap cX5_leastGap 2 (some .int) :: wsL_law)) := zk_gV mw_28_5 mw_28_6 mw_28_7 mw_1_14 mw_28_8
theorem gg_X6_201 : GoodIn wsL_law (wsV RX6 201 RX5 yX5_wagonAt (.code yX5_wagonAt cX5_wagonAt 3 (some .int) :: wsL_law)) := zk_gV mw_28_17 mw_10_13 mw_10_14 mw_1_14 mw_10_15
theorem gg_X6_205 : GoodIn wsL_law (va_wsS RX6 205 yX6_numberOf (.code yX6_numberOf cX6_numberOf 1 (some .int) :: wsL_law)) := zk_gS mw_28_18 mw_28_19 mw_1_2 mw_28_20
theorem gg_X6_208 : GoodIn wsL_law (va_wsS RX6 208 yX6_destinationOf (.code yX6_destinationOf cX6_destinationOf 1 (some .int) :: wsL_law)) := zk_gS mw_28_21 mw_11_3 mw_1_2 mw_11_4
theorem gg_X6_211 : GoodIn wsL_law (va_wsS RX6 211 yX6_kindOf (.code yX6_kindOf cX6_kindOf 1 (some .int) :: wsL_law)) := zk_gS mw_28_22 mw_10_16 mw_1_2 mw_10_17
theorem gg_X6_217 : GoodIn wsL_law (wsV RX6 217 RX5 yX5_spotOf (.code yX5_spotOf cX5_spotOf 4 (some .int) :: wsL_law)) := zk_gV mw_29_16 mw_29_17 mw_29_18 mw_1_14 mw_29_19
theorem gg_X6_223 : GoodIn wsL_law (wsV RX6 223 RX5 yX5_copyFrom (.code yX5_copyFrom cX5_copyFrom 2 none :: wsL_law)) := zk_gV mw_31_2 mw_6_0 mw_6_1 mw_1_14 mw_6_2
theorem gg_X6_45 : GoodIn wsL_law (va_wsS RX6 45 yX6_within (.code yX6_within cX6_within 3 (some .boolean) :: wsL_law)) := zk_gS mw_5_6 mw_5_7 mw_1_2 mw_5_8
theorem gg_X6_49 : GoodIn wsL_law (wsV RX6 49 RX5 yX5_wagonsInYard (.code yX5_wagonsInYard cX5_wagonsInYard 3 (some .int) :: wsL_law)) := zk_gV mw_5_9 mw_5_10 mw_5_11 mw_1_14 mw_5_12
theorem gg_X6_53 : GoodIn wsL_law (wsV RX6 53 RX1 yX1_add (.code yX1_add cX1_add 2 none :: wsL_law)) := zk_gV mw_5_13 mw_5_14 mw_5_15 mw_1_18 mw_5_16
theorem gg_X6_57 : GoodIn wsL_law (wsV RX6 57 RX5 yX5_restart (.code yX5_restart cX5_restart 3 none :: wsL_law)) := zk_gV mw_6_14 mw_6_15 mw_6_16 mw_1_14 mw_6_17
theorem gg_X6_61 : GoodIn wsL_law (va_wsS RX6 61 yX6_isSetting (.code yX6_isSetting cX6_isSetting 1 (some .boolean) :: wsL_law)) := zk_gS mw_7_23 mw_8_0 mw_1_2 mw_8_1
theorem gg_X6_65 : GoodIn wsL_law (va_wsS RX6 65 yX6_leastOf (.code yX6_leastOf cX6_leastOf 1 (some .int) :: wsL_law)) := zk_gS mw_8_2 mw_8_3 mw_1_2 mw_8_4
theorem gg_X6_69 : GoodIn wsL_law (va_wsS RX6 69 yX6_greatestOf (.code yX6_greatestOf cX6_greatestOf 1 (some .int) :: wsL_law)) := zk_gS mw_8_5 mw_8_6 mw_1_2 mw_8_7
theorem gg_X6_76 : GoodIn wsL_law (wsV RX6 76 RX5 yX5_hasTrack (.code yX5_hasTrack cX5_hasTrack 2 (some .boolean) :: wsL_law)) := zk_gV mw_8_22 mw_8_23 mw_9_0 mw_1_14 mw_9_1
theorem gg_X6_79 : GoodIn wsL_law (wsV RX6 79 RX4 yX4_readWagons (.code yX4_readWagons cX4_readWagons 6 (some .boolean) :: wsL_law)) := zk_gV mw_9_2 mw_9_3 mw_9_4 mw_1_23 mw_9_5
theorem gg_X6_83 : GoodIn wsL_law (wsV RX6 83 RX5 yX5_isSafeWith (.code yX5_isSafeWith cX5_isSafeWith 4 (some .boolean) :: wsL_law)) := zk_gV mw_9_18 mw_9_19 mw_9_20 mw_1_14 mw_9_21
theorem gg_X6_96 : GoodIn wsL_law (wsV RX6 96 RX5 yX5_takeIn (.code yX5_takeIn cX5_takeIn 5 none :: wsL_law)) := zk_gV mw_10_23 mw_11_0 mw_11_1 mw_1_14 mw_11_2
theorem gg_X7_100 : GoodIn wsL_law (wsV RX7 100 RX7 yX7_costOf (.code yX7_costOf cX7_costOf 7 (some .int) :: wsL_law)) := zk_gV mw_15_22 mw_15_23 mw_16_0 mw_1_5 mw_16_1
theorem gg_X7_104 : GoodIn wsL_law (wsV RX7 104 RX7 yX7_cost (.code yX7_cost cX7_cost 4 (some .int) :: wsL_law)) := zk_gV mw_15_14 mw_15_15 mw_15_16 mw_1_5 mw_15_17
theorem gg_X7_107 : GoodIn wsL_law (wsV RX7 107 RX7 yX7_remember (.code yX7_remember cX7_remember 2 none :: wsL_law)) := zk_gV mw_7_5 mw_7_6 mw_7_7 mw_1_5 mw_7_8
theorem gg_X7_110 : GoodIn wsL_law (wsV RX7 110 RX7 yX7_carry (.code yX7_carry cX7_carry 8 none :: wsL_law)) := zk_gV mw_16_2 mw_16_3 mw_16_4 mw_1_5 mw_16_5
theorem gg_X7_114 : GoodIn wsL_law (wsV RX7 114 RX7 yX7_destination (.code yX7_destination cX7_destination 3 (some .int) :: wsL_law)) := zk_gV mw_19_2 mw_19_3 mw_19_4 mw_1_5 mw_19_5
theorem gg_X7_117 : GoodIn wsL_law (wsV RX7 117 RX7 yX7_bound (.code yX7_bound cX7_bound 5 (some .int) :: wsL_law)) := zk_gV mw_18_22 mw_18_23 mw_19_0 mw_1_5 mw_19_1
theorem gg_X7_120 : GoodIn wsL_law (wsV RX7 120 RX7 yX7_isSafe (.code yX7_isSafe cX7_isSafe 2 (some .boolean) :: wsL_law)) := zk_gV mw_19_6 mw_19_7 mw_19_8 mw_1_5 mw_19_9
theorem gg_X7_123 : GoodIn wsL_law (wsV RX7 123 RX7 yX7_stillHolds (.code yX7_stillHolds cX7_stillHolds 3 (some .int) :: wsL_law)) := zk_gV mw_19_10 mw_19_11 mw_19_12 mw_1_5 mw_19_13
theorem gg_X7_127 : GoodIn wsL_law (wsV RX7 127 RX7 yX7_reasonAgainst (.code yX7_reasonAgainst cX7_reasonAgainst 3 (some .int) :: wsL_law)) := zk_gV mw_18_18 mw_18_19 mw_18_20 mw_1_5 mw_18_21
theorem gg_X7_136 : GoodIn wsL_law (wsV RX7 136 RX7 yX7_fails (.code yX7_fails cX7_fails 3 none :: wsL_law)) := zk_gV mw_11_20 mw_11_21 mw_11_22 mw_1_5 mw_11_23
theorem gg_X7_145 : GoodIn wsL_law (va_wsS RX7 145 yX7_isLetter (.code yX7_isLetter cX7_isLetter 1 (some .boolean) :: wsL_law)) := zk_gS mw_12_1 mw_12_2 mw_1_5 mw_12_3
theorem gg_X7_148 : GoodIn wsL_law (wsV RX7 148 RX7 yX7_readWagons (.code yX7_readWagons cX7_readWagons 7 none :: wsL_law)) := zk_gV mw_11_14 mw_11_15 mw_11_16 mw_1_5 mw_11_17
theorem gg_X7_151 : GoodIn wsL_law (wsV RX7 151 RX7 yX7_hasFault (.code yX7_hasFault cX7_hasFault 1 (some .boolean) :: wsL_law)) := zk_gV mw_12_4 mw_12_5 mw_12_6 mw_1_5 mw_12_7
theorem gg_X7_154 : GoodIn wsL_law (wsV RX7 154 RX7 yX7_readList (.code yX7_readList cX7_readList 3 none :: wsL_law)) := zk_gV mw_14_2 mw_14_3 mw_14_4 mw_1_5 mw_14_5
theorem gg_X7_163 : GoodIn wsL_law (wsV RX7 163 RX7 yX7_madeUp (.code yX7_madeUp cX7_madeUp 4 (some .int) :: wsL_law)) := zk_gV mw_23_12 mw_23_13 mw_23_14 mw_1_5 mw_23_15
theorem gg_X7_166 : GoodIn wsL_law (wsV RX7 166 RX7 yX7_hold (.code yX7_hold cX7_hold 3 none :: wsL_law)) := zk_gV mw_24_4 mw_24_5 mw_24_6 mw_1_5 mw_24_7
theorem gg_X7_169 : GoodIn wsL_law (wsV RX7 169 RX7 yX7_spread (.code yX7_spread cX7_spread 3 (some .int) :: wsL_law)) := zk_gV mw_23_16 mw_23_17 mw_23_18 mw_1_5 mw_23_19
theorem gg_X7_172 : GoodIn wsL_law (wsV RX7 172 RX7 yX7_note (.code yX7_note cX7_note 5 none :: wsL_law)) := zk_gV mw_23_8 mw_23_9 mw_23_10 mw_1_5 mw_23_11
theorem gg_X7_175 : GoodIn wsL_law (wsV RX7 175 RX7 yX7_isWorthIt (.code yX7_isWorthIt cX7_isWorthIt 2 (some .boolean) :: wsL_law)) := zk_gV mw_23_20 mw_23_21 mw_23_22 mw_1_5 mw_23_23
theorem gg_X7_178 : GoodIn wsL_law (wsV RX7 178 RX7 yX7_enter (.code yX7_enter cX7_enter 2 none :: wsL_law)) := zk_gV mw_24_0 mw_24_1 mw_24_2 mw_1_5 mw_24_3
theorem gg_X7_181 : GoodIn wsL_law (wsV RX7 181 RX7 yX7_release (.code yX7_release cX7_release 3 none :: wsL_law)) := zk_gV mw_24_8 mw_24_9 mw_24_10 mw_1_5 mw_24_11
theorem gg_X7_184 : GoodIn wsL_law (wsV RX7 184 RX7 yX7_next (.code yX7_next cX7_next 3 (some .boolean) :: wsL_law)) := zk_gV mw_24_12 mw_24_13 mw_24_14 mw_1_5 mw_24_15
theorem gg_X7_187 : GoodIn wsL_law (wsV RX7 187 RX7 yX7_tryMove (.code yX7_tryMove cX7_tryMove 4 (some .int) :: wsL_law)) := zk_gV mw_24_16 mw_24_17 mw_24_18 mw_1_5 mw_24_19
theorem gg_X7_190 : GoodIn wsL_law (wsV RX7 190 RX7 yX7_search (.code yX7_search cX7_search 4 none :: wsL_law)) := zk_gV mw_23_4 mw_23_5 mw_23_6 mw_1_5 mw_23_7
theorem gg_X7_193 : GoodIn wsL_law (wsV RX7 193 RX7 yX7_wagons (.code yX7_wagons cX7_wagons 3 (some .int) :: wsL_law)) := zk_gV mw_7_10 mw_7_11 mw_7_12 mw_1_5 mw_7_13
theorem gg_X7_196 : GoodIn wsL_law (va_wsS RX7 196 yX7_isOf (.code yX7_isOf cX7_isOf 2 (some .boolean) :: wsL_law)) := zk_gS mw_8_12 mw_8_13 mw_1_5 mw_8_14
theorem gg_X7_200 : GoodIn wsL_law (wsV RX7 200 RX7 yX7_unsafeTracks (.code yX7_unsafeTracks cX7_unsafeTracks 3 (some .int) :: wsL_law)) := zk_gV mw_27_11 mw_27_12 mw_27_13 mw_1_5 mw_27_14
theorem gg_X7_203 : GoodIn wsL_law (va_wsS RX7 203 yX7_isImage (.code yX7_isImage cX7_isImage 1 (some .boolean) :: wsL_law)) := zk_gS mw_31_8 mw_31_9 mw_1_5 mw_31_10
theorem gg_X7_59 : GoodIn wsL_law (va_wsS RX7 59 yX7_isIn (.code yX7_isIn cX7_isIn 3 (some .boolean) :: wsL_law)) := zk_gS mw_7_2 mw_7_3 mw_1_5 mw_7_4
theorem gg_X7_63 : GoodIn wsL_law (wsV RX7 63 RX7 yX7_of (.code yX7_of cX7_of 3 (some .int) :: wsL_law)) := zk_gV mw_7_14 mw_7_15 mw_7_16 mw_1_5 mw_7_17
theorem gg_X7_70 : GoodIn wsL_law (wsV RX7 70 RX7 yX7_kindAt (.code yX7_kindAt cX7_kindAt 3 (some .int) :: wsL_law)) := zk_gV mw_12_13 mw_12_14 mw_12_15 mw_1_5 mw_12_16
theorem gg_X7_73 : GoodIn wsL_law (wsV RX7 73 RX7 yX7_appendKind (.code yX7_appendKind cX7_appendKind 2 none :: wsL_law)) := zk_gV mw_12_17 mw_12_18 mw_12_19 mw_1_5 mw_12_20
theorem gg_X7_77 : GoodIn wsL_law (wsV RX7 77 RX7 yX7_leastGap (.code yX7_leastGap cX7_leastGap 5 (some .int) :: wsL_law)) := zk_gV mw_13_1 mw_13_2 mw_13_3 mw_1_5 mw_13_4
theorem gg_X7_81 : GoodIn wsL_law (wsV RX7 81 RX7 yX7_beginRow (.code yX7_beginRow cX7_beginRow 4 none :: wsL_law)) := zk_gV mw_12_8 mw_12_9 mw_12_10 mw_1_5 mw_12_11
theorem gg_X7_85 : GoodIn wsL_law (wsV RX7 85 RX7 yX7_isSafeRow (.code yX7_isSafeRow cX7_isSafeRow 2 (some .boolean) :: wsL_law)) := zk_gV mw_12_21 mw_12_22 mw_12_23 mw_1_5 mw_13_0
theorem gg_X7_89 : GoodIn wsL_law (wsV RX7 89 RX7 yX7_isTrack (.code yX7_isTrack cX7_isTrack 2 (some .boolean) :: wsL_law)) := zk_gV mw_11_10 mw_11_11 mw_11_12 mw_1_5 mw_11_13
theorem gg_X7_93 : GoodIn wsL_law (wsV RX7 93 RX7 yX7_put (.code yX7_put cX7_put 4 none :: wsL_law)) := zk_gV mw_13_5 mw_13_6 mw_13_7 mw_1_5 mw_13_8
theorem gg_X7_97 : GoodIn wsL_law (wsV RX7 97 RX7 yX7_areTracks (.code yX7_areTracks cX7_areTracks 4 (some .boolean) :: wsL_law)) := zk_gV mw_15_18 mw_15_19 mw_15_20 mw_1_5 mw_15_21
theorem nl_X1_21 : ("ShuntYard$History", 21, yX5_init, "ShuntYard") ∈ NLs := List.mem_of_getElem? (i := 4) rfl
theorem nl_X3_11 : ("ShuntYard$Search", 11, yX2_init, "ShuntYard") ∈ NLs := List.mem_of_getElem? (i := 5) rfl
theorem nl_X3_20 : ("ShuntYard$Search", 20, yX5_init, "ShuntYard") ∈ NLs := List.mem_of_getElem? (i := 6) rfl
theorem nl_X4_31 : ("ShuntYard$Text", 31, yX6_within, "ShuntYard") ∈ NLs := List.mem_of_getElem? (i := 7) rfl
theorem nl_X4_39 : ("ShuntYard$Text", 39, yX6_wagonOf, "ShuntYard") ∈ NLs := List.mem_of_getElem? (i := 8) rfl
theorem nl_X5_100 : ("ShuntYard$Yard", 100, yX6_wagonOf, "ShuntYard") ∈ NLs := List.mem_of_getElem? (i := 9) rfl
theorem nl_X5_36 : ("ShuntYard$Yard", 36, yX0_init, "ShuntYard") ∈ NLs := List.mem_of_getElem? (i := 10) rfl
theorem nl_X5_74 : ("ShuntYard$Yard", 74, yX6_within, "ShuntYard") ∈ NLs := List.mem_of_getElem? (i := 11) rfl
theorem nl_X5_82 : ("ShuntYard$Yard", 82, yX6_numberOf, "ShuntYard") ∈ NLs := List.mem_of_getElem? (i := 12) rfl
theorem nl_X5_94 : ("ShuntYard$Yard", 94, yX6_destinationOf, "ShuntYard") ∈ NLs := List.mem_of_getElem? (i := 13) rfl
theorem nl_X5_97 : ("ShuntYard$Yard", 97, yX6_kindOf, "ShuntYard") ∈ NLs := List.mem_of_getElem? (i := 14) rfl
theorem nl_X6_18 : ("ShuntYard", 18, yX1_init, "ShuntYard") ∈ NLs := List.mem_of_getElem? (i := 0) rfl
theorem nl_X6_29 : ("ShuntYard", 29, yX4_init, "ShuntYard") ∈ NLs := List.mem_of_getElem? (i := 1) rfl
theorem nl_X6_36 : ("ShuntYard", 36, yX3_init, "ShuntYard") ∈ NLs := List.mem_of_getElem? (i := 2) rfl
theorem nl_X6_9 : ("ShuntYard", 9, yX5_init, "ShuntYard") ∈ NLs := List.mem_of_getElem? (i := 3) rfl
end
section
/-! the worlds, and the words for a yard: u is the reference's own row of 131 ints, as naturals -/
def mny (u : Nat → Nat) (t : Nat) : Nat := u (23 + 27 * t + 0)
def tst (u : Nat → Nat) (t : Nat) : Nat := u (23 + 27 * t + 1)
def tat (u : Nat → Nat) (t : Nat) : Nat := u (23 + 27 * t + 2)
def num (u : Nat → Nat) (t k : Nat) : Nat := u (23 + 27 * t + (3 + 3 * k))
def dst (u : Nat → Nat) (t k : Nat) : Nat := u (23 + 27 * t + (3 + 3 * k + 1))
def knd (u : Nat → Nat) (t k : Nat) : Nat := u (23 + 27 * t + (3 + 3 * k + 2))
/-- the wagons of the first tracks -/
def wgs (u : Nat → Nat) : Nat → Nat
  | 0 => 0
  | n + 1 => wgs u n + mny u n
/-- gaps: (least so far, 99 where none; the latest dangerous kind, 0 where none; the common ones since) -/
def gstep (s : Nat × Nat × Nat) (k : Nat) : Nat × Nat × Nat := if k = 0 then (s.1, s.2.1, s.2.2 + 1) else (if s.2.1 ≠ 0 ∧ s.2.1 ≠ k then Nat.min s.1 s.2.2 else s.1, k, 0)
def gfold (l : List Nat) : Nat × Nat × Nat := l.foldl gstep (99, 0, 0)
def gap (l : List Nat) : Nat := (gfold l).1
/-- the kinds of the first n wagons of a track; of those from i on, n of them -/
def kds (u : Nat → Nat) (t n : Nat) : List Nat := (List.range n).map (knd u t)
def kdf (u : Nat → Nat) (t i n : Nat) : List Nat := (List.range n).map (fun j => knd u t (i + j))
def MW (cI : ClassId) (a : Nat → Nat) (u pa im tx rw rb rk rt he tr be sp : Nat → Nat) (pm fl ln rm rd bn : Nat) (fk fp rs wk wp bm : Int32) : va_W :=
  [(a 0, .inr (7, [.ref (a 1), .ref (a 2), .int (nI pm), .ref (a 3), .int (nI fl), .ref (a 4), .int (nI ln), .int fk, .int fp, .int rs, .ref (a 5), .int (nI rm), .int (nI rd), .ref (a 6), .ref (a 7), .ref (a 8), .int wk, .int wp, .ref (a 9), .ref (a 10), .ref (a 11), .int bm, .int (nI bn), .ref (a 12)])),
   (a 1, .inl (cI, 131, .inl (aN u))), (a 2, .inl (cI, 1048, .inl (aN pa))), (a 3, .inl (cI, 262, .inl (aN im))), (a 4, .inl (cI, 60, .inl (aN tx))), (a 5, .inl (cI, 24, .inl (aN rw))), (a 6, .inl (cI, 8, .inl (aN rb))), (a 7, .inl (cI, 8, .inl (aN rk))), (a 8, .inl (cI, 10, .inl (aN rt))), (a 9, .inl (cI, 524, .inl (aN he))), (a 10, .inl (cI, 9, .inl (aN tr))), (a 11, .inl (cI, 9, .inl (aN be))), (a 12, .inl (cI, 4, .inl (aN sp)))]
def GW (a : Nat) (g1 g2 g3 : Nat) : va_W := [(a, .inr (0, [.int (nI g1), .int (nI g2), .int (nI g3)]))]
def YW (cI : ClassId) (a : Nat → Nat) (st ds le wg : Nat → Nat) (te : Nat → Int32) (K C ck mv mm tg gn wc tn : Nat) (g1 g2 g3 : Nat) : va_W :=
  [(a 0, .inr (5, [.int (nI K), .int (nI C), .int (nI ck), .int (nI mv), .int (nI mm), .int (nI tg), .int (nI gn), .int (nI wc), .int (nI tn), .ref (a 1), .ref (a 2), .ref (a 3), .ref (a 4), .ref (a 5), .ref (a 6)])),
   (a 1, .inl (cI, 4, .inl (aN st))), (a 2, .inl (cI, 10, .inl (aN ds))), (a 3, .inl (cI, 4, .inl (aN le))), (a 4, .inl (cI, 4, .inl te)), (a 5, .inl (cI, 32, .inl (aN wg))), (a 6, .inr (0, [.int (nI g1), .int (nI g2), .int (nI g3)]))]
theorem nq_in1 {v lo hi : Int32} (h1 : ¬ v < lo) (h2 : ¬ hi < v) : nI 1 = if lo ≤ v ∧ v ≤ hi then nI 1 else nI 0 := by rw [if_pos ⟨Int32.not_lt.mp h1, Int32.not_lt.mp h2⟩]
theorem nq_in2 {v lo hi : Int32} (h1 : v < lo) : nI 0 = if lo ≤ v ∧ v ≤ hi then nI 1 else nI 0 := by rw [if_neg (fun h => Int32.not_le.mpr h1 h.1)]
theorem nq_in3 {v lo hi : Int32} (h2 : hi < v) : nI 0 = if lo ≤ v ∧ v ≤ hi then nI 1 else nI 0 := by rw [if_neg (fun h => Int32.not_le.mpr h2 h.2)]
/-! rows of kinds, gaps, copies -/
def rowL (r : Nat → Nat) (n : Nat) : List Nat := (List.range n).map r
theorem rowL_succ (r : Nat → Nat) (n : Nat) : rowL r (n + 1) = rowL r n ++ [r n] := by simp [rowL, List.range_succ]
theorem rowL_congr {r r2 : Nat → Nat} {n : Nat} (h : ∀ j, j < n → r j = r2 j) : rowL r n = rowL r2 n := by
  unfold rowL
  exact List.map_congr_left fun j hj => h j (List.mem_range.mp hj)
theorem rowL_up (r : Nat → Nat) (n k : Nat) : rowL (va_up r n k) (n + 1) = rowL r n ++ [k] := by
  rw [rowL_succ, show va_up r n k n = k from by simp [va_up], rowL_congr (r2 := r) fun j hj => by simp [va_up, Nat.ne_of_lt hj]]
theorem kds_succ (u : Nat → Nat) (t n : Nat) : kds u t (n + 1) = kds u t n ++ [knd u t n] := by simp [kds, List.range_succ]
theorem kdf_succ (u : Nat → Nat) (t i n : Nat) : kdf u t i (n + 1) = kdf u t i n ++ [knd u t (i + n)] := by simp [kdf, List.range_succ]
theorem gfold_app (l : List Nat) (k : Nat) : gfold (l ++ [k]) = gstep (gfold l) k := by simp [gfold]
theorem gstep_le {s : Nat × Nat × Nat} {k : Nat} (h : s.1 ≤ 99) : (gstep s k).1 ≤ 99 := by
  unfold gstep
  split
  · exact h
  · show (if _ then Nat.min s.1 s.2.2 else s.1) ≤ 99
    split
    · exact Nat.le_trans (Nat.min_le_left _ _) h
    · exact h
theorem foldl_le (l : List Nat) : ∀ s : Nat × Nat × Nat, s.1 ≤ 99 → (l.foldl gstep s).1 ≤ 99 := by
  induction l with
  | nil => exact fun _ h => h
  | cons k l ih => exact fun s h => ih _ (gstep_le h)
theorem gap_le (l : List Nat) : gap l ≤ 99 := foldl_le l _ (Nat.le_refl _)
def encG (n : Nat) : Int32 := if n = 99 then -9 else nI n
theorem encG_99 : encG 99 = -9 := rfl
theorem encG_ne {n : Nat} (h : ¬ encG n = -9) : encG n = nI n := by
  unfold encG at h ⊢
  by_cases e : n = 99
  · exact absurd (by rw [if_pos e]) h
  · rw [if_neg e]
theorem nI_m9 {n : Nat} (h : n < 2147483648) : ¬ nI n = -9 := by
  intro e
  have := congrArg Int32.toInt e
  rw [nI_toInt h] at this
  have h9 : (-9 : Int32).toInt = -9 := by decide
  omega
theorem encG_eq {n : Nat} (hn : n ≤ 99) (h : encG n = -9) : n = 99 := by
  unfold encG at h
  by_cases e : n = 99
  · exact e
  · rw [if_neg e] at h
    exact absurd h (nI_m9 (by omega))
theorem cpy_zero (f g : Nat → Nat) (sp dp : Nat) : g = va_cpy f g sp dp 0 := by
  funext j
  unfold va_cpy
  rw [if_neg (by omega)]
theorem cpy_step {f g : Nat → Nat} {sp dp k i v : Nat} (hi : i = dp + k) (hv : v = f (sp + k)) : va_up (va_cpy f g sp dp k) i v = va_cpy f g sp dp (k + 1) := by
  subst hi; subst hv
  funext j
  by_cases h : j = dp + k
  · subst h
    simp only [va_up, if_true]
    rw [pk_cpy_in (by omega) (by omega), show dp + k - dp = k by omega]
  · simp only [va_up, if_neg h]
    by_cases h2 : dp ≤ j ∧ j < dp + k
    · rw [pk_cpy_in h2.1 h2.2, pk_cpy_in h2.1 (by omega)]
    · rw [pk_cpy_out (by omega), pk_cpy_out (by omega)]
/-- wagons of a track that go to a destination, among its first n -/
def bnd (u : Nat → Nat) (t d : Nat) : Nat → Nat
  | 0 => 0
  | n + 1 => bnd u t d n + (if dst u t n = d then 1 else 0)
theorem bnd_le (u : Nat → Nat) (t d n : Nat) : bnd u t d n ≤ n := by
  induction n with
  | zero => exact Nat.le_refl _
  | succ n ih => unfold bnd; split <;> omega
def hold (u : Nat → Nat) (t : Nat) : Nat := if tst u t = 0 then 0 else u 1 - (u 6 - tat u t)
def safe (u : Nat → Nat) (t : Nat) : Prop := u 0 ≤ gap (kds u t (mny u t))
def bnt (u : Nat → Nat) (t : Nat) : Nat := bnd u t (u 13) (mny u t)
/-- the first of the tracks before n, other than t, on which a wagon of the next train stands: whether there is one -/
def oth (u : Nat → Nat) (t : Nat) : Nat → Bool
  | 0 => false
  | n + 1 => oth u t n || (decide (n ≠ t) && decide (0 < bnt u n))
def rea (u : Nat → Nat) (t : Nat) : Nat := if u 12 = 0 then 1 else if mny u t = 0 then 2 else if bnt u t < mny u t then 3 else if oth u t (u 4) = true then 4 else if ¬ u 0 ≤ gap (kds u t (mny u t)) then 5 else if hold u t = 0 then 6 else 0
def mins (u : Nat → Nat) (f t n : Nat) : Nat := u 2 + n + 2 * (if t < f then f - t else t - f) + (if 2 ∈ kdf u f (mny u f - n) n then 5 else 0)
def costI (u : Nat → Nat) (f t n : Nat) : Int32 := if mny u f < n then -2 else if ¬ u 0 ≤ gap (kds u f (mny u f - n)) then -2 else if ¬ u 0 ≤ gap (kds u t (mny u t) ++ kdf u f (mny u f - n) n) then -2 else if u 5 < mny u t + n then -3 else nI (mins u f t n)
def carB (u : Nat → Nat) (f t n k : Nat) : Nat → Nat := va_cpy u u (23 + 27 * f + (3 + 3 * (mny u f - n))) (23 + 27 * t + (3 + 3 * mny u t)) k
def car4 (u : Nat → Nat) (f t n : Nat) : Nat → Nat := va_up (va_up (va_up (va_up (carB u f t n (3 * n)) (23 + 27 * f + 0) (mny u f - n)) (23 + 27 * t + 0) (mny u t + n)) (23 + 27 * f + 1) 0) (23 + 27 * t + 1) 0
def carU (u : Nat → Nat) (f t n m : Nat) : Nat → Nat := va_up (va_up (va_up (car4 u f t n) 6 (u 6 + m)) 8 (u 8 + 1)) 9 (u 9 + m)
def remP (u pa : Nat → Nat) (pm : Nat) : Nat → Nat := if pm = 8 then va_cpy u (va_cpy pa pa 131 0 917) 0 917 131 else va_cpy u pa 0 (131 * pm) 131
def remN (pm : Nat) : Nat := if pm = 8 then 8 else pm + 1
theorem ior_1 {n : Nat} (h : n < 2) : nI n ||| nI 1 = nI 1 := by
  rcases (show n = 0 ∨ n = 1 by omega) with rfl | rfl <;> decide
theorem ior_0 {n : Nat} (h : n < 2) : nI n ||| nI 0 = nI n := by
  rcases (show n = 0 ∨ n = 1 by omega) with rfl | rfl <;> decide
theorem sub_le {a b : Nat} (ha : a < 1073741824) (hb : b < 1073741824) (h : 0 ≤ nI a - nI b) : b ≤ a := by
  rcases Nat.lt_or_ge a b with z | z
  · exact absurd h (Int32.not_le.mpr (pk_sneg (by omega) z))
  · exact z
theorem sub_lt {a b : Nat} (ha : a < 1073741824) (hb : b < 1073741824) (h : ¬ 0 ≤ nI a - nI b) : a ≤ b := by
  rcases Nat.lt_or_ge b a with z | z
  · rw [pk_sub (Nat.le_of_lt z)] at h
    exact absurd (nI_pos' (by omega)) h
  · exact z
/-- a raw int in a range of naturals -/
theorem rngN {v : Int32} {lo hi : Nat} (hh : hi < 2147483648) (h : nI lo ≤ v ∧ v ≤ nI hi) (hl : lo ≤ hi := by omega) : ∃ k, lo ≤ k ∧ k ≤ hi ∧ v = nI k := by
  have h0 : ¬ v < 0 := by
    intro z
    have h1 := Int32.le_iff_toInt_le.mp h.1
    have h2 := Int32.lt_iff_toInt_lt.mp z
    rw [nI_toInt (by omega)] at h1
    have h3 : (0 : Int32).toInt = 0 := by decide
    omega
  obtain ⟨k, hk, rfl⟩ := nI_of h0
  exact ⟨k, (nI_leI (by omega) hk).mp h.1, (nI_leI hk hh).mp h.2, rfl⟩
/-! the reference's search for the least gap, step by step -/
theorem gs0 {G : Nat × Nat × Nat} {k : Nat} (h : k = 0) : gstep G k = (G.1, G.2.1, G.2.2 + 1) := by simp [gstep, h]
theorem gsA {G : Nat × Nat × Nat} {k : Nat} (h : k ≠ 0) (h2 : G.2.1 = 0 ∨ G.2.1 = k) : gstep G k = (G.1, k, 0) := by
  unfold gstep
  rw [if_neg h, if_neg (by rintro ⟨a, b⟩; rcases h2 with z | z; exact a z; exact b z)]
theorem gsB {G : Nat × Nat × Nat} {k : Nat} (h : k ≠ 0) (h2 : G.2.1 ≠ 0) (h3 : G.2.1 ≠ k) : gstep G k = (Nat.min G.1 G.2.2, k, 0) := by
  unfold gstep
  rw [if_neg h, if_pos ⟨h2, h3⟩]
def lgE (n : Nat) (le : Int32) : Prop := (n = 99 ∧ le = -9) ∨ (n < 99 ∧ le = nI n)
def lgA (rw : Nat → Nat) (q : Nat) (G : Nat × Nat × Nat) (la : Int32) : Prop := (G.2.1 = 0 ∧ la = -9 ∧ G.2.2 ≤ q) ∨ (∃ j, j < q ∧ la = nI j ∧ rw j = G.2.1 ∧ G.2.1 ≠ 0 ∧ G.2.2 = q - 1 - j)
theorem lg_some {rw : Nat → Nat} {q : Nat} {G : Nat × Nat × Nat} {la : Int32} (h : lgA rw q G la) (hn : ¬ la = -9) : ∃ j, j < q ∧ la = nI j ∧ rw j = G.2.1 ∧ G.2.1 ≠ 0 ∧ G.2.2 = q - 1 - j := by
  rcases h with ⟨-, h, -⟩ | h
  · exact absurd h hn
  · exact h
theorem lg_lt {n : Nat} {le : Int32} (h : lgE n le) (hn : ¬ le = -9) : n < 99 ∧ le = nI n := by
  rcases h with ⟨-, h⟩ | h
  · exact absurd h hn
  · exact h
theorem lg_99 {n : Nat} {le : Int32} (h : lgE n le) (hn : le = -9) : n = 99 := by
  rcases h with ⟨h, -⟩ | ⟨h1, h2⟩
  · exact h
  · exact absurd (h2.symm.trans hn) (nI_m9 (by omega))
theorem lg_b0 {G : Nat × Nat × Nat} {k : Nat} {le : Int32} (hz : k = 0) (h : lgE G.1 le) : lgE (gstep G k).1 le := by rw [gs0 hz]; exact h
theorem lg_bA {G : Nat × Nat × Nat} {k : Nat} {le : Int32} (hz : k ≠ 0) (h2 : G.2.1 = 0 ∨ G.2.1 = k) (h : lgE G.1 le) : lgE (gstep G k).1 le := by rw [gsA hz h2]; exact h
theorem lg_z {rw : Nat → Nat} {q : Nat} {G : Nat × Nat × Nat} {la : Int32} (h : lgA rw q G la) (hn : la = -9) (hq : q ≤ 24) : G.2.1 = 0 := by
  rcases h with ⟨h, -, -⟩ | ⟨j, h1, h2, -⟩
  · exact h
  · exact absurd (h2.symm.trans hn) (nI_m9 (by omega))
theorem lg_bB {G : Nat × Nat × Nat} {k n : Nat} (hz : k ≠ 0) (h2 : G.2.1 ≠ 0) (h3 : G.2.1 ≠ k) (hn : Nat.min G.1 G.2.2 = n) (h : n < 99) : lgE (gstep G k).1 (nI n) := by rw [gsB hz h2 h3]; exact Or.inr ⟨hn ▸ h, by rw [hn]⟩
theorem lg_c0 {rw : Nat → Nat} {q : Nat} {G : Nat × Nat × Nat} {la : Int32} (hz : rw q = 0) (h : lgA rw q G la) : lgA rw (q + 1) (gstep G (rw q)) la := by
  rw [gs0 hz]
  rcases h with ⟨h1, h2, h3⟩ | ⟨j, h1, h2, h3, h4, h5⟩
  · exact Or.inl ⟨h1, h2, Nat.succ_le_succ h3⟩
  · exact Or.inr ⟨j, by omega, h2, h3, h4, by show G.2.2 + 1 = _; omega⟩
theorem gs21 {G : Nat × Nat × Nat} {k : Nat} (h : k ≠ 0) : (gstep G k).2.1 = k ∧ (gstep G k).2.2 = 0 := by
  unfold gstep
  rw [if_neg h]
  exact ⟨rfl, rfl⟩
theorem lg_c1 {rw : Nat → Nat} {q : Nat} {G : Nat × Nat × Nat} (hz : rw q ≠ 0) : lgA rw (q + 1) (gstep G (rw q)) (nI q) := Or.inr ⟨q, by omega, rfl, (gs21 hz).1.symm, by rw [(gs21 hz).1]; exact hz, by rw [(gs21 hz).2]; omega⟩
theorem lg_end {L : List Nat} {le : Int32} (h : lgE (gfold L).1 le) : le = encG (gap L) := by
  rcases h with ⟨h1, h2⟩ | ⟨h1, h2⟩
  · rw [h2, show gap L = 99 from h1]; rfl
  · rw [h2, show encG (gap L) = nI (gap L) from if_neg (Nat.ne_of_lt h1)]; rfl
theorem rowL_lt {r : Nat → Nat} {n : Nat} {u : Nat → Nat} {t : Nat} (h : rowL r n = kds u t n) (hk : ∀ z, z < n → knd u t z < 3) {j : Nat} (hj : j < n) : r j < 3 := by
  have h1 : (rowL r n)[j]? = some (r j) := by simp [rowL, hj]
  rw [h] at h1
  have h2 : (kds u t n)[j]? = some (knd u t j) := by simp [kds, hj]
  rw [h2] at h1
  have := hk j hj
  have e := Option.some.inj h1
  omega
theorem rowL_lt2 {r : Nat → Nat} {a b i : Nat} {u : Nat → Nat} {t f : Nat} (h : rowL r (a + b) = kds u t a ++ kdf u f i b) (hk : ∀ z, z < a → knd u t z < 3) (hk2 : ∀ z, z < b → knd u f (i + z) < 3) {j : Nat} (hj : j < a + b) : r j < 3 := by
  have h1 : (rowL r (a + b))[j]? = some (r j) := by simp [rowL, hj]
  rw [h] at h1
  by_cases hz : j < a
  · have h2 : (kds u t a ++ kdf u f i b)[j]? = some (knd u t j) := by
      rw [List.getElem?_append_left (by simp [kds, hz])]
      simp [kds, hz]
    rw [h2] at h1
    have := hk j hz
    have e := Option.some.inj h1
    omega
  · have h2 : (kds u t a ++ kdf u f i b)[j]? = some (knd u f (i + (j - a))) := by
      rw [List.getElem?_append_right (by simp [kds]; omega)]
      simp [kds, kdf, show j - a < b by omega]
    rw [h2] at h1
    have := hk2 (j - a) (by omega)
    have e := Option.some.inj h1
    omega
end
section
set_option maxHeartbeats 4000000 in
set_option maxRecDepth 100000 in
theorem ct_X7_isIn (g : GG) (l : Launch) (v lo hi : Int32) : CtI g l yX7_isIn cX7_isIn 3 (some .boolean) (rmK 1 0 0) (([] : va_W)) [.int v, .int lo, .int hi] (fun r W1 => r = (if lo ≤ v ∧ v ≤ hi then nI 1 else nI 0) ∧ W1 = []) := by
  refine CtZ.go RX7 rfl (by decide +kernel) (Nat.le_of_ble_eq_true rfl) ?_
  intro p e s m args below meth c A H0 Q hc hnm fin
  show KW g p l e (rmK 1 0 0) s m args below meth c 3 A H0 0 0 Q (([] : va_W)) [(0, .int v), (1, .int lo), (2, .int hi)] 0 []
  refine zk_iload_n hc dX7_isIn_0 0 rfl ?_
  refine zk_iload_n hc dX7_isIn_1 1 rfl ?_
  refine zk_icmp_lt hc 14 dX7_isIn_2 (by decide) (fun ha => ?_) (fun ha => ?_)
  · refine zk_iconst hc (nI 0) dX7_isIn_14 rfl ?_
    exact fin 0 0 _ _ _ _ (by decide) (by decide) dX7_isIn_15 rfl (⟨nq_in2 ha, rfl⟩)
  · refine zk_iload_n hc dX7_isIn_5 0 rfl ?_
    refine zk_iload_n hc dX7_isIn_6 2 rfl ?_
    refine zk_icmp_gt hc 14 dX7_isIn_7 (by decide) (fun hb => ?_) (fun hb => ?_)
    · refine zk_iconst hc (nI 0) dX7_isIn_14 rfl ?_
      exact fin 0 0 _ _ _ _ (by decide) (by decide) dX7_isIn_15 rfl (⟨nq_in3 hb, rfl⟩)
    · refine zk_iconst hc (nI 1) dX7_isIn_10 rfl ?_
      refine zk_goto hc 15 dX7_isIn_11 (by decide) ?_
      exact fin 0 0 _ _ _ _ (by decide) (by decide) dX7_isIn_15 rfl (⟨nq_in1 ha hb, rfl⟩)

set_option maxHeartbeats 4000000 in
set_option maxRecDepth 100000 in
theorem ct_X7_of (g : GG) (l : Launch) (a : Nat → Nat) (u pa im tx rw rb rk rt he tr be sp : Nat → Nat) (pm fl ln rm rd bn : Nat) (fk fp rs wk wp bm : Int32) (t q : Nat) (hq : 23 + 27 * t + q < 131) : CtI g l yX7_of cX7_of 3 (some .int) (rmK 1 0 0) (MW g.2.1 a u pa im tx rw rb rk rt he tr be sp pm fl ln rm rd bn fk fp rs wk wp bm) [.ref (a 0), .int (nI t), .int (nI q)] (fun r W1 => r = nI (u (23 + 27 * t + q)) ∧ W1 = MW g.2.1 a u pa im tx rw rb rk rt he tr be sp pm fl ln rm rd bn fk fp rs wk wp bm) := by
  refine CtI.go RX7 rfl (by decide +kernel) (Nat.le_of_ble_eq_true rfl) ?_
  intro p e s m args below meth c A H0 Q hc hnm fin
  show KW g p l e (rmK 1 0 0) s m args below meth c 3 A H0 0 0 Q (MW g.2.1 a u pa im tx rw rb rk rt he tr be sp pm fl ln rm rd bn fk fp rs wk wp bm) [(0, .ref (a 0)), (1, .int (nI t)), (2, .int (nI q))] 0 []
  refine zk_aload_n hc dX7_of_0 0 rfl ?_
  refine zk_get hc inlX7 (ci := 7) rfl 0 0 (by decide) mw_4_11 rfl rfl rfl dX7_of_1 ?_
  refine zk_bipush hc (nI 23) dX7_of_4 rfl ?_
  refine zk_bipush hc (nI 27) dX7_of_6 rfl ?_
  refine zk_iload_n hc dX7_of_8 1 rfl ?_
  refine zk_imulN hc dX7_of_9 ?_
  refine zk_iaddN hc dX7_of_10 ?_
  refine zk_iload_n hc dX7_of_11 2 rfl ?_
  refine zk_iaddN hc dX7_of_12 ?_
  refine zk_ialdN hc 1 rfl (by omega) (by decide) dX7_of_13 ?_
  exact fin 0 0 _ _ _ _ (by decide) (by decide) dX7_of_14 (⟨rfl, rfl⟩)

set_option maxHeartbeats 4000000 in
set_option maxRecDepth 100000 in
theorem ct_X7_put (g : GG) (l : Launch) (a : Nat → Nat) (u pa im tx rw rb rk rt he tr be sp : Nat → Nat) (pm fl ln rm rd bn : Nat) (fk fp rs wk wp bm : Int32) (t q v : Nat) (hq : 23 + 27 * t + q < 131) : CtV g l yX7_put cX7_put 4 (rmK 1 0 0) (MW g.2.1 a u pa im tx rw rb rk rt he tr be sp pm fl ln rm rd bn fk fp rs wk wp bm) [.ref (a 0), .int (nI t), .int (nI q), .int (nI v)] (fun W1 => W1 = MW g.2.1 a (va_up u (23 + 27 * t + q) v) pa im tx rw rb rk rt he tr be sp pm fl ln rm rd bn fk fp rs wk wp bm) := by
  refine CtV.go RX7 rfl (by decide +kernel) (Nat.le_of_ble_eq_true rfl) ?_
  intro p e s m args below meth c A H0 Q hc hnm fin
  show KW g p l e (rmK 1 0 0) s m args below meth c 4 A H0 0 0 Q (MW g.2.1 a u pa im tx rw rb rk rt he tr be sp pm fl ln rm rd bn fk fp rs wk wp bm) [(0, .ref (a 0)), (1, .int (nI t)), (2, .int (nI q)), (3, .int (nI v))] 0 []
  refine zk_aload_n hc dX7_put_0 0 rfl ?_
  refine zk_get hc inlX7 (ci := 7) rfl 0 0 (by decide) mw_4_11 rfl rfl rfl dX7_put_1 ?_
  refine zk_bipush hc (nI 23) dX7_put_4 rfl ?_
  refine zk_bipush hc (nI 27) dX7_put_6 rfl ?_
  refine zk_iload_n hc dX7_put_8 1 rfl ?_
  refine zk_imulN hc dX7_put_9 ?_
  refine zk_iaddN hc dX7_put_10 ?_
  refine zk_iload_n hc dX7_put_11 2 rfl ?_
  refine zk_iaddN hc dX7_put_12 ?_
  refine zk_iload_n hc dX7_put_13 3 rfl ?_
  refine zk_iastN hc 1 rfl (by omega) (by decide) (ws2 := MW g.2.1 a (va_up u ((23 + (27 * t)) + q) v) pa im tx rw rb rk rt he tr be sp pm fl ln rm rd bn fk fp rs wk wp bm) rfl dX7_put_14 ?_
  exact fin 0 0 _ _ _ (by decide) (by decide) dX7_put_15 (rfl)

set_option maxHeartbeats 4000000 in
set_option maxRecDepth 100000 in
theorem ct_X7_destination (g : GG) (l : Launch) (a : Nat → Nat) (u pa im tx rw rb rk rt he tr be sp : Nat → Nat) (pm fl ln rm rd bn : Nat) (fk fp rs wk wp bm : Int32) (t k : Nat) (hq : 23 + 27 * t + (3 + 3 * k + 1) < 131) : CtI g l yX7_destination cX7_destination 3 (some .int) (rmK 2 0 0) (MW g.2.1 a u pa im tx rw rb rk rt he tr be sp pm fl ln rm rd bn fk fp rs wk wp bm) [.ref (a 0), .int (nI t), .int (nI k)] (fun r W1 => r = nI (dst u t k) ∧ W1 = MW g.2.1 a u pa im tx rw rb rk rt he tr be sp pm fl ln rm rd bn fk fp rs wk wp bm) := by
  refine CtI.go RX7 rfl (by decide +kernel) (Nat.le_of_ble_eq_true rfl) ?_
  intro p e s m args below meth c A H0 Q hc hnm fin
  show KW g p l e (rmK 2 0 0) s m args below meth c 3 A H0 0 0 Q (MW g.2.1 a u pa im tx rw rb rk rt he tr be sp pm fl ln rm rd bn fk fp rs wk wp bm) [(0, .ref (a 0)), (1, .int (nI t)), (2, .int (nI k))] 0 []
  refine zk_aload_n hc dX7_destination_0 0 rfl ?_
  refine zk_iload_n hc dX7_destination_1 1 rfl ?_
  refine zk_iconst hc (nI 3) dX7_destination_2 rfl ?_
  refine zk_iconst hc (nI 3) dX7_destination_3 rfl ?_
  refine zk_iload_n hc dX7_destination_4 2 rfl ?_
  refine zk_imulN hc dX7_destination_5 ?_
  refine zk_iaddN hc dX7_destination_6 ?_
  refine zk_iconst hc (nI 1) dX7_destination_7 rfl ?_
  refine zk_iaddN hc dX7_destination_8 ?_
  refine zk_callVi hc (rest := []) (ct_X7_of g l a u pa im tx rw rb rk rt he tr be sp pm fl ln rm rd bn fk fp rs wk wp bm t ((3 + (3 * k)) + 1) (by omega)) gg_X7_63 cd_X7_of ⟨Nat.le_of_ble_eq_true rfl, Nat.le_of_ble_eq_true rfl⟩ ⟨Nat.le_of_ble_eq_true rfl, Nat.le_of_ble_eq_true rfl⟩ ([]) ([]) rfl 0 rfl rfl rfl (Nat.le_of_ble_eq_true rfl) dX7_destination_9 (fun r W1 hp => ?_)
  obtain ⟨rfl, rfl⟩ := hp
  refine zk_ws (ws2 := MW g.2.1 a u pa im tx rw rb rk rt he tr be sp pm fl ln rm rd bn fk fp rs wk wp bm) rfl ?_
  exact fin 0 0 _ _ _ _ (by decide) (by decide) dX7_destination_12 (⟨rfl, rfl⟩)

set_option maxHeartbeats 4000000 in
set_option maxRecDepth 100000 in
theorem ct_X7_kindAt (g : GG) (l : Launch) (a : Nat → Nat) (u pa im tx rw rb rk rt he tr be sp : Nat → Nat) (pm fl ln rm rd bn : Nat) (fk fp rs wk wp bm : Int32) (t k : Nat) (hq : 23 + 27 * t + (3 + 3 * k + 2) < 131) : CtI g l yX7_kindAt cX7_kindAt 3 (some .int) (rmK 2 0 0) (MW g.2.1 a u pa im tx rw rb rk rt he tr be sp pm fl ln rm rd bn fk fp rs wk wp bm) [.ref (a 0), .int (nI t), .int (nI k)] (fun r W1 => r = nI (knd u t k) ∧ W1 = MW g.2.1 a u pa im tx rw rb rk rt he tr be sp pm fl ln rm rd bn fk fp rs wk wp bm) := by
  refine CtI.go RX7 rfl (by decide +kernel) (Nat.le_of_ble_eq_true rfl) ?_
  intro p e s m args below meth c A H0 Q hc hnm fin
  show KW g p l e (rmK 2 0 0) s m args below meth c 3 A H0 0 0 Q (MW g.2.1 a u pa im tx rw rb rk rt he tr be sp pm fl ln rm rd bn fk fp rs wk wp bm) [(0, .ref (a 0)), (1, .int (nI t)), (2, .int (nI k))] 0 []
  refine zk_aload_n hc dX7_kindAt_0 0 rfl ?_
  refine zk_iload_n hc dX7_kindAt_1 1 rfl ?_
  refine zk_iconst hc (nI 3) dX7_kindAt_2 rfl ?_
  refine zk_iconst hc (nI 3) dX7_kindAt_3 rfl ?_
  refine zk_iload_n hc dX7_kindAt_4 2 rfl ?_
  refine zk_imulN hc dX7_kindAt_5 ?_
  refine zk_iaddN hc dX7_kindAt_6 ?_
  refine zk_iconst hc (nI 2) dX7_kindAt_7 rfl ?_
  refine zk_iaddN hc dX7_kindAt_8 ?_
  refine zk_callVi hc (rest := []) (ct_X7_of g l a u pa im tx rw rb rk rt he tr be sp pm fl ln rm rd bn fk fp rs wk wp bm t ((3 + (3 * k)) + 2) (by omega)) gg_X7_63 cd_X7_of ⟨Nat.le_of_ble_eq_true rfl, Nat.le_of_ble_eq_true rfl⟩ ⟨Nat.le_of_ble_eq_true rfl, Nat.le_of_ble_eq_true rfl⟩ ([]) ([]) rfl 0 rfl rfl rfl (Nat.le_of_ble_eq_true rfl) dX7_kindAt_9 (fun r W1 hp => ?_)
  obtain ⟨rfl, rfl⟩ := hp
  refine zk_ws (ws2 := MW g.2.1 a u pa im tx rw rb rk rt he tr be sp pm fl ln rm rd bn fk fp rs wk wp bm) rfl ?_
  exact fin 0 0 _ _ _ _ (by decide) (by decide) dX7_kindAt_12 (⟨rfl, rfl⟩)

set_option maxHeartbeats 4000000 in
set_option maxRecDepth 100000 in
theorem ct_X7_wagons (g : GG) (l : Launch) (a : Nat → Nat) (u pa im tx rw rb rk rt he tr be sp : Nat → Nat) (pm fl ln rm rd bn : Nat) (fk fp rs wk wp bm : Int32) (hK : u 4 ≤ 4) (hm : ∀ t, t < u 4 → mny u t ≤ 8) : CtI g l yX7_wagons cX7_wagons 3 (some .int) (rmK 2 0 0) (MW g.2.1 a u pa im tx rw rb rk rt he tr be sp pm fl ln rm rd bn fk fp rs wk wp bm) [.ref (a 0)] (fun r W1 => r = nI (wgs u (u 4)) ∧ W1 = MW g.2.1 a u pa im tx rw rb rk rt he tr be sp pm fl ln rm rd bn fk fp rs wk wp bm) := by
  refine CtI.go RX7 rfl (by decide +kernel) (Nat.le_of_ble_eq_true rfl) ?_
  intro p e s m args below meth c A H0 Q hc hnm fin
  show KW g p l e (rmK 2 0 0) s m args below meth c 3 A H0 0 0 Q (MW g.2.1 a u pa im tx rw rb rk rt he tr be sp pm fl ln rm rd bn fk fp rs wk wp bm) [(0, .ref (a 0))] 0 []
  refine zk_iconst hc (nI 0) dX7_wagons_0 rfl ?_
  refine zk_istore_n hc (lv2 := [(1, .int (nI 0)), (0, .ref (a 0))]) dX7_wagons_1 (by decide) rfl ?_
  refine zk_iconst hc (nI 0) dX7_wagons_2 rfl ?_
  refine zk_istore_n hc (lv2 := [(2, .int (nI 0)), (1, .int (nI 0)), (0, .ref (a 0))]) dX7_wagons_3 (by decide) rfl ?_
  have loop4 : ∀ (N : Nat) (q : Nat), u 4 - q < N → (q ≤ u 4) → KW g p l e (rmK 2 0 0) s m args below meth c 3 A H0 0 0 Q (MW g.2.1 a u pa im tx rw rb rk rt he tr be sp pm fl ln rm rd bn fk fp rs wk wp bm) [(0, .ref (a 0)), (1, .int (nI (wgs u q))), (2, .int (nI q))] 4 [] := by
    intro N
    induction N with
    | zero => intro q hm; exact absurd hm (Nat.not_lt_zero _)
    | succ N ih4 =>
      intro q hm4 hq
      refine zk_iload_n hc dX7_wagons_4 2 rfl ?_
      refine zk_aload_n hc dX7_wagons_5 0 rfl ?_
      refine zk_get hc inlX7 (ci := 7) rfl 0 0 (by decide) mw_4_11 rfl rfl rfl dX7_wagons_6 ?_
      refine zk_iconst hc (nI 4) dX7_wagons_9 rfl ?_
      refine zk_ialdN hc 1 rfl (by omega) (by decide) dX7_wagons_10 ?_
      refine zk_icmp_geN hc 29 dX7_wagons_11 (by decide) (by omega) (by omega) (fun h_1 => ?_) (fun h_1 => ?_)
      · refine zk_iload_n hc dX7_wagons_29 1 rfl ?_
        exact fin 0 0 _ _ _ _ (by decide) (by decide) dX7_wagons_30 (⟨by rw [show q = u 4 by omega], rfl⟩)
      · refine zk_iload_n hc dX7_wagons_14 1 rfl ?_
        refine zk_aload_n hc dX7_wagons_15 0 rfl ?_
        refine zk_iload_n hc dX7_wagons_16 2 rfl ?_
        refine zk_iconst hc (nI 0) dX7_wagons_17 rfl ?_
        refine zk_callVi hc (rest := [.int (nI (wgs u q))]) (ct_X7_of g l a u pa im tx rw rb rk rt he tr be sp pm fl ln rm rd bn fk fp rs wk wp bm q 0 (by omega)) gg_X7_63 cd_X7_of ⟨Nat.le_of_ble_eq_true rfl, Nat.le_of_ble_eq_true rfl⟩ ⟨Nat.le_of_ble_eq_true rfl, Nat.le_of_ble_eq_true rfl⟩ ([]) ([]) rfl 0 rfl rfl rfl (Nat.le_of_ble_eq_true rfl) dX7_wagons_18 (fun r W1 hp => ?_)
        obtain ⟨rfl, rfl⟩ := hp
        refine zk_ws (ws2 := MW g.2.1 a u pa im tx rw rb rk rt he tr be sp pm fl ln rm rd bn fk fp rs wk wp bm) rfl ?_
        refine zk_top (y := nI (mny u q)) rfl ?_
        refine zk_iaddN hc dX7_wagons_21 ?_
        refine zk_istore_n hc (lv2 := [(1, .int (nI ((wgs u q) + (mny u q)))), (0, .ref (a 0)), (2, .int (nI q))]) dX7_wagons_22 (by decide) rfl ?_
        refine zk_iinc hc (v := nI (q + 1)) (lv2 := [(2, .int (nI (q + 1))), (1, .int (nI ((wgs u q) + (mny u q)))), (0, .ref (a 0))]) dX7_wagons_23 2 rfl (nq_inc rfl) (by decide) rfl ?_
        refine zk_goto hc 4 dX7_wagons_26 (by decide) ?_
        refine zk_lv [2, 1, 0] (lv2 := [(0, .ref (a 0)), (1, .int (nI ((wgs u q) + (mny u q)))), (2, .int (nI (q + 1)))]) rfl ?_
        exact ih4 (q + 1) (by omega) (by omega)
  refine zk_lv [2, 1, 0] (lv2 := [(0, .ref (a 0)), (1, .int (nI 0)), (2, .int (nI 0))]) rfl ?_
  exact loop4 ((u 4 - 0) + 1) 0 (Nat.lt_succ_self _) (Nat.zero_le _)

set_option maxHeartbeats 4000000 in
set_option maxRecDepth 100000 in
theorem ct_X7_appendKind (g : GG) (l : Launch) (a : Nat → Nat) (u pa im tx rw rb rk rt he tr be sp : Nat → Nat) (pm fl ln rm rd bn : Nat) (fk fp rs wk wp bm : Int32) (k : Nat) (hr : rm < 24) : CtV g l yX7_appendKind cX7_appendKind 2 (rmK 1 0 0) (MW g.2.1 a u pa im tx rw rb rk rt he tr be sp pm fl ln rm rd bn fk fp rs wk wp bm) [.ref (a 0), .int (nI k)] (fun W1 => W1 = MW g.2.1 a u pa im tx (va_up rw rm k) rb rk rt he tr be sp pm fl ln (rm + 1) rd bn fk fp rs wk wp bm) := by
  refine CtV.go RX7 rfl (by decide +kernel) (Nat.le_of_ble_eq_true rfl) ?_
  intro p e s m args below meth c A H0 Q hc hnm fin
  show KW g p l e (rmK 1 0 0) s m args below meth c 2 A H0 0 0 Q (MW g.2.1 a u pa im tx rw rb rk rt he tr be sp pm fl ln rm rd bn fk fp rs wk wp bm) [(0, .ref (a 0)), (1, .int (nI k))] 0 []
  refine zk_aload_n hc dX7_appendKind_0 0 rfl ?_
  refine zk_get hc inlX7 (ci := 7) rfl 0 10 (by decide) mw_4_18 rfl rfl rfl dX7_appendKind_1 ?_
  refine zk_aload_n hc dX7_appendKind_4 0 rfl ?_
  refine zk_get hc inlX7 (ci := 7) rfl 0 11 (by decide) mw_12_12 rfl rfl rfl dX7_appendKind_5 ?_
  refine zk_iload_n hc dX7_appendKind_8 1 rfl ?_
  refine zk_iastN hc 5 rfl (by omega) (by decide) (ws2 := MW g.2.1 a u pa im tx (va_up rw rm k) rb rk rt he tr be sp pm fl ln rm rd bn fk fp rs wk wp bm) rfl dX7_appendKind_9 ?_
  refine zk_aload_n hc dX7_appendKind_10 0 rfl ?_
  refine zk_dup hc dX7_appendKind_11 rfl ?_
  refine zk_get hc inlX7 (ci := 7) rfl 0 11 (by decide) mw_12_12 rfl rfl rfl dX7_appendKind_12 ?_
  refine zk_iconst hc (nI 1) dX7_appendKind_15 rfl ?_
  refine zk_iaddN hc dX7_appendKind_16 ?_
  refine zk_put hc inlX7 (ci := 7) rfl tyX7 tyX7_ok nmX7 0 11 (by decide) mw_12_12 rfl rfl rfl rfl rfl (Nat.le_of_ble_eq_true rfl) (ws2 := MW g.2.1 a u pa im tx (va_up rw rm k) rb rk rt he tr be sp pm fl ln (rm + 1) rd bn fk fp rs wk wp bm) rfl dX7_appendKind_17 ?_
  exact fin 0 0 _ _ _ (by decide) (by decide) dX7_appendKind_20 (rfl)

set_option maxHeartbeats 4000000 in
set_option maxRecDepth 100000 in
theorem ct_X0_start (g : GG) (l : Launch) (a g1 g2 g3 : Nat) : CtV g l yX0_start cX0_start 1 (rmK 1 0 0) (GW a g1 g2 g3) [.ref a] (fun W1 => W1 = GW a 99 0 0) := by
  refine CtV.go RX0 rfl (by decide +kernel) (Nat.le_of_ble_eq_true rfl) ?_
  intro p e s m args below meth c A H0 Q hc hnm fin
  show KW g p l e (rmK 1 0 0) s m args below meth c 1 A H0 0 0 Q (GW a g1 g2 g3) [(0, .ref a)] 0 []
  refine zk_aload_n hc dX0_start_0 0 rfl ?_
  refine zk_bipush hc (nI 99) dX0_start_1 rfl ?_
  refine zk_put hc inlX0 (ci := 0) rfl tyX0 tyX0_ok nmX0 0 0 (by decide) mw_10_5 rfl rfl rfl rfl rfl (Nat.le_of_ble_eq_true rfl) (ws2 := GW a 99 g2 g3) rfl dX0_start_3 ?_
  refine zk_aload_n hc dX0_start_6 0 rfl ?_
  refine zk_iconst hc (nI 0) dX0_start_7 rfl ?_
  refine zk_put hc inlX0 (ci := 0) rfl tyX0 tyX0_ok nmX0 0 1 (by decide) mw_10_6 rfl rfl rfl rfl rfl (Nat.le_of_ble_eq_true rfl) (ws2 := GW a 99 0 g3) rfl dX0_start_8 ?_
  refine zk_aload_n hc dX0_start_11 0 rfl ?_
  refine zk_iconst hc (nI 0) dX0_start_12 rfl ?_
  refine zk_put hc inlX0 (ci := 0) rfl tyX0 tyX0_ok nmX0 0 2 (by decide) mw_10_7 rfl rfl rfl rfl rfl (Nat.le_of_ble_eq_true rfl) (ws2 := GW a 99 0 0) rfl dX0_start_13 ?_
  exact fin 0 0 _ _ _ (by decide) (by decide) dX0_start_16 (rfl)

set_option maxHeartbeats 4000000 in
set_option maxRecDepth 100000 in
theorem ct_X0_pass (g : GG) (l : Launch) (a g1 g2 g3 : Nat) (k : Nat) (hk : k < 3) (h2 : g2 < 3) (h1 : g1 < 2147483648) (h3 : g3 < 2147483648) : CtV g l yX0_pass cX0_pass 2 (rmK 1 0 0) (GW a g1 g2 g3) [.ref a, .int (nI k)] (fun W1 => W1 = GW a (gstep (g1, g2, g3) k).1 (gstep (g1, g2, g3) k).2.1 (gstep (g1, g2, g3) k).2.2) := by
  refine CtV.go RX0 rfl (by decide +kernel) (Nat.le_of_ble_eq_true rfl) ?_
  intro p e s m args below meth c A H0 Q hc hnm fin
  show KW g p l e (rmK 1 0 0) s m args below meth c 2 A H0 0 0 Q (GW a g1 g2 g3) [(0, .ref a), (1, .int (nI k))] 0 []
  refine zk_iload_n hc dX0_pass_0 1 rfl ?_
  refine zk_if_neN hc 15 dX0_pass_1 (by decide) (by omega) (fun h_1 => ?_) (fun h_1 => ?_)
  · refine zk_aload_n hc dX0_pass_15 0 rfl ?_
    refine zk_get hc inlX0 (ci := 0) rfl 0 1 (by decide) mw_10_6 rfl rfl rfl dX0_pass_16 ?_
    refine zk_if_eqN hc 45 dX0_pass_19 (by decide) (by omega) (fun h_2 => ?_) (fun h_2 => ?_)
    · refine zk_aload_n hc dX0_pass_45 0 rfl ?_
      refine zk_iload_n hc dX0_pass_46 1 rfl ?_
      refine zk_put hc inlX0 (ci := 0) rfl tyX0 tyX0_ok nmX0 0 1 (by decide) mw_10_6 rfl rfl rfl rfl rfl (Nat.le_of_ble_eq_true rfl) (ws2 := GW a g1 k g3) rfl dX0_pass_47 ?_
      refine zk_aload_n hc dX0_pass_50 0 rfl ?_
      refine zk_iconst hc (nI 0) dX0_pass_51 rfl ?_
      refine zk_put hc inlX0 (ci := 0) rfl tyX0 tyX0_ok nmX0 0 2 (by decide) mw_10_7 rfl rfl rfl rfl rfl (Nat.le_of_ble_eq_true rfl) (ws2 := GW a g1 k 0) rfl dX0_pass_52 ?_
      exact fin 0 0 _ _ _ (by decide) (by decide) dX0_pass_55 (by simp only [gstep]; simp [*])
    · refine zk_aload_n hc dX0_pass_22 0 rfl ?_
      refine zk_get hc inlX0 (ci := 0) rfl 0 1 (by decide) mw_10_6 rfl rfl rfl dX0_pass_23 ?_
      refine zk_iload_n hc dX0_pass_26 1 rfl ?_
      refine zk_icmp_eqN hc 45 dX0_pass_27 (by decide) (by omega) (by omega) (fun h_3 => ?_) (fun h_3 => ?_)
      · refine zk_aload_n hc dX0_pass_45 0 rfl ?_
        refine zk_iload_n hc dX0_pass_46 1 rfl ?_
        refine zk_put hc inlX0 (ci := 0) rfl tyX0 tyX0_ok nmX0 0 1 (by decide) mw_10_6 rfl rfl rfl rfl rfl (Nat.le_of_ble_eq_true rfl) (ws2 := GW a g1 k g3) rfl dX0_pass_47 ?_
        refine zk_aload_n hc dX0_pass_50 0 rfl ?_
        refine zk_iconst hc (nI 0) dX0_pass_51 rfl ?_
        refine zk_put hc inlX0 (ci := 0) rfl tyX0 tyX0_ok nmX0 0 2 (by decide) mw_10_7 rfl rfl rfl rfl rfl (Nat.le_of_ble_eq_true rfl) (ws2 := GW a g1 k 0) rfl dX0_pass_52 ?_
        exact fin 0 0 _ _ _ (by decide) (by decide) dX0_pass_55 (by simp only [gstep]; simp [*])
      · refine zk_aload_n hc dX0_pass_30 0 rfl ?_
        refine zk_aload_n hc dX0_pass_31 0 rfl ?_
        refine zk_get hc inlX0 (ci := 0) rfl 0 0 (by decide) mw_10_5 rfl rfl rfl dX0_pass_32 ?_
        refine zk_aload_n hc dX0_pass_35 0 rfl ?_
        refine zk_get hc inlX0 (ci := 0) rfl 0 2 (by decide) mw_10_7 rfl rfl rfl dX0_pass_36 ?_
        refine zk_min hc mw_10_22 mw_5_20 mw_5_21 mw_5_22 ⟨by decide, by decide, by decide, by decide⟩ (Nat.le_of_ble_eq_true rfl) dX0_pass_39 ?_
        refine zk_top (y := nI (Nat.min g1 g3)) (nq_min (by omega) (by omega)) ?_
        refine zk_put hc inlX0 (ci := 0) rfl tyX0 tyX0_ok nmX0 0 0 (by decide) mw_10_5 rfl rfl rfl rfl rfl (Nat.le_of_ble_eq_true rfl) (ws2 := GW a (Nat.min g1 g3) g2 g3) rfl dX0_pass_42 ?_
        refine zk_aload_n hc dX0_pass_45 0 rfl ?_
        refine zk_iload_n hc dX0_pass_46 1 rfl ?_
        refine zk_put hc inlX0 (ci := 0) rfl tyX0 tyX0_ok nmX0 0 1 (by decide) mw_10_6 rfl rfl rfl rfl rfl (Nat.le_of_ble_eq_true rfl) (ws2 := GW a (Nat.min g1 g3) k g3) rfl dX0_pass_47 ?_
        refine zk_aload_n hc dX0_pass_50 0 rfl ?_
        refine zk_iconst hc (nI 0) dX0_pass_51 rfl ?_
        refine zk_put hc inlX0 (ci := 0) rfl tyX0 tyX0_ok nmX0 0 2 (by decide) mw_10_7 rfl rfl rfl rfl rfl (Nat.le_of_ble_eq_true rfl) (ws2 := GW a (Nat.min g1 g3) k 0) rfl dX0_pass_52 ?_
        exact fin 0 0 _ _ _ (by decide) (by decide) dX0_pass_55 (by simp only [gstep]; simp [*])
  · refine zk_aload_n hc dX0_pass_4 0 rfl ?_
    refine zk_dup hc dX0_pass_5 rfl ?_
    refine zk_get hc inlX0 (ci := 0) rfl 0 2 (by decide) mw_10_7 rfl rfl rfl dX0_pass_6 ?_
    refine zk_iconst hc (nI 1) dX0_pass_9 rfl ?_
    refine zk_iaddN hc dX0_pass_10 ?_
    refine zk_put hc inlX0 (ci := 0) rfl tyX0 tyX0_ok nmX0 0 2 (by decide) mw_10_7 rfl rfl rfl rfl rfl (Nat.le_of_ble_eq_true rfl) (ws2 := GW a g1 g2 (g3 + 1)) rfl dX0_pass_11 ?_
    exact fin 0 0 _ _ _ (by decide) (by decide) dX0_pass_14 (by simp only [gstep]; simp [*])
end
section
set_option maxHeartbeats 4000000 in
set_option maxRecDepth 100000 in
theorem ct_X7_beginRow (g : GG) (l : Launch) (a : Nat → Nat) (u pa im tx rw rb rk rt he tr be sp : Nat → Nat) (pm fl ln rm rd bn : Nat) (fk fp rs wk wp bm : Int32) (t n : Nat) (ht : t < 4) (hn : n ≤ 8) : CtV g l yX7_beginRow cX7_beginRow 4 (rmK 3 0 0) (MW g.2.1 a u pa im tx rw rb rk rt he tr be sp pm fl ln rm rd bn fk fp rs wk wp bm) [.ref (a 0), .int (nI t), .int (nI n)] (fun W1 => ∃ r, W1 = MW g.2.1 a u pa im tx r rb rk rt he tr be sp pm fl ln n rd bn fk fp rs wk wp bm ∧ rowL r n = kds u t n) := by
  refine CtV.go RX7 rfl (by decide +kernel) (Nat.le_of_ble_eq_true rfl) ?_
  intro p e s m args below meth c A H0 Q hc hnm fin
  show KW g p l e (rmK 3 0 0) s m args below meth c 4 A H0 0 0 Q (MW g.2.1 a u pa im tx rw rb rk rt he tr be sp pm fl ln rm rd bn fk fp rs wk wp bm) [(0, .ref (a 0)), (1, .int (nI t)), (2, .int (nI n))] 0 []
  refine zk_aload_n hc dX7_beginRow_0 0 rfl ?_
  refine zk_iconst hc (nI 0) dX7_beginRow_1 rfl ?_
  refine zk_put hc inlX7 (ci := 7) rfl tyX7 tyX7_ok nmX7 0 11 (by decide) mw_12_12 rfl rfl rfl rfl rfl (Nat.le_of_ble_eq_true rfl) (ws2 := MW g.2.1 a u pa im tx rw rb rk rt he tr be sp pm fl ln 0 rd bn fk fp rs wk wp bm) rfl dX7_beginRow_2 ?_
  refine zk_iconst hc (nI 0) dX7_beginRow_5 rfl ?_
  refine zk_istore_n hc (lv2 := [(3, .int (nI 0)), (0, .ref (a 0)), (1, .int (nI t)), (2, .int (nI n))]) dX7_beginRow_6 (by decide) rfl ?_
  have loop7 : ∀ (N : Nat) (q : Nat) (r : Nat → Nat), n - q < N → (q ≤ n) → (rowL r q = kds u t q) → KW g p l e (rmK 3 0 0) s m args below meth c 4 A H0 0 0 Q (MW g.2.1 a u pa im tx r rb rk rt he tr be sp pm fl ln q rd bn fk fp rs wk wp bm) [(0, .ref (a 0)), (1, .int (nI t)), (2, .int (nI n)), (3, .int (nI q))] 7 [] := by
    intro N
    induction N with
    | zero => intro q r hm; exact absurd hm (Nat.not_lt_zero _)
    | succ N ih7 =>
      intro q r hm7 hq hr
      refine zk_iload_n hc dX7_beginRow_7 3 rfl ?_
      refine zk_iload_n hc dX7_beginRow_8 2 rfl ?_
      refine zk_icmp_geN hc 28 dX7_beginRow_9 (by decide) (by omega) (by omega) (fun h_1 => ?_) (fun h_1 => ?_)
      · refine fin 0 0 _ _ _ (by decide) (by decide) dX7_beginRow_28 (?_)
        have eq : q = n := by omega
        subst eq
        exact ⟨r, rfl, hr⟩
      · refine zk_aload_n hc dX7_beginRow_12 0 rfl ?_
        refine zk_aload_n hc dX7_beginRow_13 0 rfl ?_
        refine zk_iload_n hc dX7_beginRow_14 1 rfl ?_
        refine zk_iload_n hc dX7_beginRow_15 3 rfl ?_
        refine zk_callVi hc (rest := [.ref (a 0)]) (ct_X7_kindAt g l a u pa im tx r rb rk rt he tr be sp pm fl ln q rd bn fk fp rs wk wp bm t q (by omega)) gg_X7_70 cd_X7_kindAt ⟨Nat.le_of_ble_eq_true rfl, Nat.le_of_ble_eq_true rfl⟩ ⟨Nat.le_of_ble_eq_true rfl, Nat.le_of_ble_eq_true rfl⟩ ([]) ([]) rfl 0 rfl rfl rfl (Nat.le_of_ble_eq_true rfl) dX7_beginRow_16 (fun r W1 hp => ?_)
        obtain ⟨rfl, rfl⟩ := hp
        refine zk_ws (ws2 := MW g.2.1 a u pa im tx r rb rk rt he tr be sp pm fl ln q rd bn fk fp rs wk wp bm) rfl ?_
        refine zk_callVv hc (rest := []) (ct_X7_appendKind g l a u pa im tx r rb rk rt he tr be sp pm fl ln q rd bn fk fp rs wk wp bm (knd u t q) (by omega)) gg_X7_73 cd_X7_appendKind ⟨Nat.le_of_ble_eq_true rfl, Nat.le_of_ble_eq_true rfl⟩ ⟨Nat.le_of_ble_eq_true rfl, Nat.le_of_ble_eq_true rfl⟩ ([]) ([]) rfl 0 rfl rfl rfl (Nat.le_of_ble_eq_true rfl) dX7_beginRow_19 (fun W1 hp => ?_)
        obtain rfl := hp
        refine zk_ws (ws2 := MW g.2.1 a u pa im tx (va_up r q (knd u t q)) rb rk rt he tr be sp pm fl ln (q + 1) rd bn fk fp rs wk wp bm) rfl ?_
        refine zk_iinc hc (v := nI (q + 1)) (lv2 := [(3, .int (nI (q + 1))), (0, .ref (a 0)), (1, .int (nI t)), (2, .int (nI n))]) dX7_beginRow_22 3 rfl (nq_inc rfl) (by decide) rfl ?_
        refine zk_goto hc 7 dX7_beginRow_25 (by decide) ?_
        refine zk_lv [1, 2, 3, 0] (lv2 := [(0, .ref (a 0)), (1, .int (nI t)), (2, .int (nI n)), (3, .int (nI (q + 1)))]) rfl ?_
        exact ih7 (q + 1) (va_up r q (knd u t q)) (by omega) (by omega) (by rw [rowL_up, kds_succ, hr])
  refine zk_lv [1, 2, 3, 0] (lv2 := [(0, .ref (a 0)), (1, .int (nI t)), (2, .int (nI n)), (3, .int (nI 0))]) rfl ?_
  exact loop7 ((n - 0) + 1) 0 rw (Nat.lt_succ_self _) (Nat.zero_le _) rfl

set_option maxHeartbeats 4000000 in
set_option maxRecDepth 100000 in
theorem ct_X7_leastGap (g : GG) (l : Launch) (a : Nat → Nat) (u pa im tx rw rb rk rt he tr be sp : Nat → Nat) (pm fl ln rm rd bn : Nat) (fk fp rs wk wp bm : Int32) (hm : rm ≤ 24) (hk : ∀ j, j < rm → rw j < 3) : CtI g l yX7_leastGap cX7_leastGap 5 (some .int) (rmK 2 0 0) (MW g.2.1 a u pa im tx rw rb rk rt he tr be sp pm fl ln rm rd bn fk fp rs wk wp bm) [.ref (a 0)] (fun r W1 => r = encG (gap (rowL rw rm)) ∧ W1 = MW g.2.1 a u pa im tx rw rb rk rt he tr be sp pm fl ln rm rd bn fk fp rs wk wp bm) := by
  refine CtI.go RX7 rfl (by decide +kernel) (Nat.le_of_ble_eq_true rfl) ?_
  intro p e s m args below meth c A H0 Q hc hnm fin
  show KW g p l e (rmK 2 0 0) s m args below meth c 5 A H0 0 0 Q (MW g.2.1 a u pa im tx rw rb rk rt he tr be sp pm fl ln rm rd bn fk fp rs wk wp bm) [(0, .ref (a 0))] 0 []
  refine zk_bipush hc ((-9)) dX7_leastGap_0 rfl ?_
  refine zk_istore_n hc (lv2 := [(1, .int (-9)), (0, .ref (a 0))]) dX7_leastGap_2 (by decide) rfl ?_
  refine zk_bipush hc ((-9)) dX7_leastGap_3 rfl ?_
  refine zk_istore_n hc (lv2 := [(2, .int (-9)), (1, .int (-9)), (0, .ref (a 0))]) dX7_leastGap_5 (by decide) rfl ?_
  refine zk_iconst hc (nI 0) dX7_leastGap_6 rfl ?_
  refine zk_istore_n hc (lv2 := [(3, .int (nI 0)), (2, .int (-9)), (1, .int (-9)), (0, .ref (a 0))]) dX7_leastGap_7 (by decide) rfl ?_
  have loop8 : ∀ (N : Nat) (q : Nat) (le : Int32) (la : Int32), rm - q < N → (q ≤ rm) → (lgE (gfold (rowL rw q)).1 le) → (lgA rw q (gfold (rowL rw q)) la) → KW g p l e (rmK 2 0 0) s m args below meth c 5 A H0 0 0 Q (MW g.2.1 a u pa im tx rw rb rk rt he tr be sp pm fl ln rm rd bn fk fp rs wk wp bm) [(0, .ref (a 0)), (1, .int le), (2, .int la), (3, .int (nI q))] 8 [] := by
    intro N
    induction N with
    | zero => intro q le la hm; exact absurd hm (Nat.not_lt_zero _)
    | succ N ih8 =>
      intro q le la hm8 hq hle hla
      refine zk_iload_n hc dX7_leastGap_8 3 rfl ?_
      refine zk_aload_n hc dX7_leastGap_9 0 rfl ?_
      refine zk_get hc inlX7 (ci := 7) rfl 0 11 (by decide) mw_12_12 rfl rfl rfl dX7_leastGap_10 ?_
      refine zk_icmp_geN hc 80 dX7_leastGap_13 (by decide) (by omega) (by omega) (fun h_1 => ?_) (fun h_1 => ?_)
      · refine zk_iload_n hc dX7_leastGap_80 1 rfl ?_
        refine fin 0 0 _ _ _ _ (by decide) (by decide) dX7_leastGap_81 (?_)
        have eq : q = rm := by omega
        subst eq
        exact ⟨lg_end hle, rfl⟩
      · refine zk_aload_n hc dX7_leastGap_16 0 rfl ?_
        refine zk_get hc inlX7 (ci := 7) rfl 0 10 (by decide) mw_4_18 rfl rfl rfl dX7_leastGap_17 ?_
        refine zk_iload_n hc dX7_leastGap_20 3 rfl ?_
        refine zk_ialdN hc 5 rfl (by omega) (by decide) dX7_leastGap_21 ?_
        refine zk_if_eqN hc 74 dX7_leastGap_22 (by decide) (by have := hk q (by omega); omega) (fun hz => ?_) (fun hz => ?_)
        · refine zk_iinc hc (v := nI (q + 1)) (lv2 := [(3, .int (nI (q + 1))), (0, .ref (a 0)), (1, .int le), (2, .int la)]) dX7_leastGap_74 3 rfl (nq_inc rfl) (by decide) rfl ?_
          refine zk_goto hc 8 dX7_leastGap_77 (by decide) ?_
          refine zk_lv [1, 2, 3, 0] (lv2 := [(0, .ref (a 0)), (1, .int le), (2, .int la), (3, .int (nI (q + 1)))]) rfl ?_
          exact ih8 (q + 1) le la (by omega) (by omega) (by rw [rowL_succ, gfold_app]; exact lg_b0 hz hle) (by rw [rowL_succ, gfold_app]; exact lg_c0 hz hla)
        · refine zk_iload_n hc dX7_leastGap_25 2 rfl ?_
          refine zk_bipush hc ((-9)) dX7_leastGap_26 rfl ?_
          refine zk_icmp_eq hc 72 dX7_leastGap_28 (by decide) (fun hl0 => ?_) (fun hl0 => ?_)
          · refine zk_iload_n hc dX7_leastGap_72 3 rfl ?_
            refine zk_istore_n hc (lv2 := [(2, .int (nI q)), (0, .ref (a 0)), (1, .int le), (3, .int (nI q))]) dX7_leastGap_73 (by decide) rfl ?_
            refine zk_iinc hc (v := nI (q + 1)) (lv2 := [(3, .int (nI (q + 1))), (2, .int (nI q)), (0, .ref (a 0)), (1, .int le)]) dX7_leastGap_74 3 rfl (nq_inc rfl) (by decide) rfl ?_
            refine zk_goto hc 8 dX7_leastGap_77 (by decide) ?_
            refine zk_lv [2, 3, 1, 0] (lv2 := [(0, .ref (a 0)), (1, .int le), (2, .int (nI q)), (3, .int (nI (q + 1)))]) rfl ?_
            exact ih8 (q + 1) le (nI q) (by omega) (by omega) (by rw [rowL_succ, gfold_app]; exact lg_bA hz (Or.inl (lg_z hla hl0 (by omega))) hle) (by rw [rowL_succ, gfold_app]; exact lg_c1 hz)
          · obtain ⟨j, hj, rfl, hj1, hj2, hj3⟩ := lg_some hla hl0
            refine zk_aload_n hc dX7_leastGap_31 0 rfl ?_
            refine zk_get hc inlX7 (ci := 7) rfl 0 10 (by decide) mw_4_18 rfl rfl rfl dX7_leastGap_32 ?_
            refine zk_iload_n hc dX7_leastGap_35 2 rfl ?_
            refine zk_ialdN hc 5 rfl (by omega) (by decide) dX7_leastGap_36 ?_
            refine zk_aload_n hc dX7_leastGap_37 0 rfl ?_
            refine zk_get hc inlX7 (ci := 7) rfl 0 10 (by decide) mw_4_18 rfl rfl rfl dX7_leastGap_38 ?_
            refine zk_iload_n hc dX7_leastGap_41 3 rfl ?_
            refine zk_ialdN hc 5 rfl (by omega) (by decide) dX7_leastGap_42 ?_
            refine zk_icmp_eqN hc 72 dX7_leastGap_43 (by decide) (by have := hk q (by omega); have := hk j (by omega); omega) (by have := hk q (by omega); have := hk j (by omega); omega) (fun hne => ?_) (fun hne => ?_)
            · refine zk_iload_n hc dX7_leastGap_72 3 rfl ?_
              refine zk_istore_n hc (lv2 := [(2, .int (nI q)), (0, .ref (a 0)), (1, .int le), (3, .int (nI q))]) dX7_leastGap_73 (by decide) rfl ?_
              refine zk_iinc hc (v := nI (q + 1)) (lv2 := [(3, .int (nI (q + 1))), (2, .int (nI q)), (0, .ref (a 0)), (1, .int le)]) dX7_leastGap_74 3 rfl (nq_inc rfl) (by decide) rfl ?_
              refine zk_goto hc 8 dX7_leastGap_77 (by decide) ?_
              refine zk_lv [2, 3, 1, 0] (lv2 := [(0, .ref (a 0)), (1, .int le), (2, .int (nI q)), (3, .int (nI (q + 1)))]) rfl ?_
              exact ih8 (q + 1) le (nI q) (by omega) (by omega) (by rw [rowL_succ, gfold_app]; exact lg_bA hz (Or.inr (hj1.symm.trans hne)) hle) (by rw [rowL_succ, gfold_app]; exact lg_c1 hz)
            · refine zk_iload_n hc dX7_leastGap_46 3 rfl ?_
              refine zk_iload_n hc dX7_leastGap_47 2 rfl ?_
              refine zk_isubN hc dX7_leastGap_48 (by omega) ?_
              refine zk_iconst hc (nI 1) dX7_leastGap_49 rfl ?_
              refine zk_isubN hc dX7_leastGap_50 (by omega) ?_
              refine zk_istore hc (lv2 := [(4, .int (nI ((q - j) - 1))), (0, .ref (a 0)), (1, .int le), (2, .int (nI j)), (3, .int (nI q))]) dX7_leastGap_51 (by decide) rfl ?_
              refine zk_iload_n hc dX7_leastGap_53 2 rfl ?_
              refine zk_bipush hc ((-9)) dX7_leastGap_54 rfl ?_
              refine zk_icmp_eq hc 65 dX7_leastGap_56 (by decide) (fun hl9 => ?_) (fun hl9 => ?_)
              · refine zk_iload hc dX7_leastGap_65 0 rfl ?_
                refine zk_goto hc 71 dX7_leastGap_67 (by decide) ?_
                refine zk_istore_n hc (lv2 := [(1, .int (nI ((q - j) - 1))), (4, .int (nI ((q - j) - 1))), (0, .ref (a 0)), (2, .int (nI j)), (3, .int (nI q))]) dX7_leastGap_71 (by decide) rfl ?_
                refine zk_iload_n hc dX7_leastGap_72 4 rfl ?_
                refine zk_istore_n hc (lv2 := [(2, .int (nI q)), (1, .int (nI ((q - j) - 1))), (4, .int (nI ((q - j) - 1))), (0, .ref (a 0)), (3, .int (nI q))]) dX7_leastGap_73 (by decide) rfl ?_
                refine zk_iinc hc (v := nI (q + 1)) (lv2 := [(3, .int (nI (q + 1))), (2, .int (nI q)), (1, .int (nI ((q - j) - 1))), (4, .int (nI ((q - j) - 1))), (0, .ref (a 0))]) dX7_leastGap_74 4 rfl (nq_inc rfl) (by decide) rfl ?_
                refine zk_goto hc 8 dX7_leastGap_77 (by decide) ?_
                refine zk_lv [4, 2, 1, 0] (lv2 := [(0, .ref (a 0)), (1, .int (nI ((q - j) - 1))), (2, .int (nI q)), (3, .int (nI (q + 1)))]) rfl ?_
                exact ih8 (q + 1) (nI ((q - j) - 1)) (nI q) (by omega) (by omega) (by rw [rowL_succ, gfold_app]; exact lg_bB hz hj2 (by omega) (by have := lg_99 hle hl9; have e : Nat.min (gfold (rowL rw q)).1 (gfold (rowL rw q)).2.2 = min (gfold (rowL rw q)).1 (gfold (rowL rw q)).2.2 := rfl; omega) (by omega)) (by rw [rowL_succ, gfold_app]; exact lg_c1 hz)
              · obtain ⟨h99, rfl⟩ := lg_lt hle hl9
                refine zk_iload hc dX7_leastGap_59 0 rfl ?_
                refine zk_iload_n hc dX7_leastGap_61 2 rfl ?_
                refine zk_icmp_geN hc 70 dX7_leastGap_62 (by decide) (by omega) (by omega) (fun hlt => ?_) (fun hlt => ?_)
                · refine zk_iload_n hc dX7_leastGap_70 2 rfl ?_
                  refine zk_istore_n hc (lv2 := [(1, .int (nI ((gfold (rowL rw q)).1))), (4, .int (nI ((q - j) - 1))), (0, .ref (a 0)), (2, .int (nI j)), (3, .int (nI q))]) dX7_leastGap_71 (by decide) rfl ?_
                  refine zk_iload_n hc dX7_leastGap_72 4 rfl ?_
                  refine zk_istore_n hc (lv2 := [(2, .int (nI q)), (1, .int (nI ((gfold (rowL rw q)).1))), (4, .int (nI ((q - j) - 1))), (0, .ref (a 0)), (3, .int (nI q))]) dX7_leastGap_73 (by decide) rfl ?_
                  refine zk_iinc hc (v := nI (q + 1)) (lv2 := [(3, .int (nI (q + 1))), (2, .int (nI q)), (1, .int (nI ((gfold (rowL rw q)).1))), (4, .int (nI ((q - j) - 1))), (0, .ref (a 0))]) dX7_leastGap_74 4 rfl (nq_inc rfl) (by decide) rfl ?_
                  refine zk_goto hc 8 dX7_leastGap_77 (by decide) ?_
                  refine zk_lv [4, 2, 1, 0] (lv2 := [(0, .ref (a 0)), (1, .int (nI ((gfold (rowL rw q)).1))), (2, .int (nI q)), (3, .int (nI (q + 1)))]) rfl ?_
                  exact ih8 (q + 1) (nI ((gfold (rowL rw q)).1)) (nI q) (by omega) (by omega) (by rw [rowL_succ, gfold_app]; exact lg_bB hz hj2 (by omega) (by have e : Nat.min (gfold (rowL rw q)).1 (gfold (rowL rw q)).2.2 = min (gfold (rowL rw q)).1 (gfold (rowL rw q)).2.2 := rfl; omega) h99) (by rw [rowL_succ, gfold_app]; exact lg_c1 hz)
                · refine zk_iload hc dX7_leastGap_65 0 rfl ?_
                  refine zk_goto hc 71 dX7_leastGap_67 (by decide) ?_
                  refine zk_istore_n hc (lv2 := [(1, .int (nI ((q - j) - 1))), (4, .int (nI ((q - j) - 1))), (0, .ref (a 0)), (2, .int (nI j)), (3, .int (nI q))]) dX7_leastGap_71 (by decide) rfl ?_
                  refine zk_iload_n hc dX7_leastGap_72 4 rfl ?_
                  refine zk_istore_n hc (lv2 := [(2, .int (nI q)), (1, .int (nI ((q - j) - 1))), (4, .int (nI ((q - j) - 1))), (0, .ref (a 0)), (3, .int (nI q))]) dX7_leastGap_73 (by decide) rfl ?_
                  refine zk_iinc hc (v := nI (q + 1)) (lv2 := [(3, .int (nI (q + 1))), (2, .int (nI q)), (1, .int (nI ((q - j) - 1))), (4, .int (nI ((q - j) - 1))), (0, .ref (a 0))]) dX7_leastGap_74 4 rfl (nq_inc rfl) (by decide) rfl ?_
                  refine zk_goto hc 8 dX7_leastGap_77 (by decide) ?_
                  refine zk_lv [4, 2, 1, 0] (lv2 := [(0, .ref (a 0)), (1, .int (nI ((q - j) - 1))), (2, .int (nI q)), (3, .int (nI (q + 1)))]) rfl ?_
                  exact ih8 (q + 1) (nI ((q - j) - 1)) (nI q) (by omega) (by omega) (by rw [rowL_succ, gfold_app]; exact lg_bB hz hj2 (by omega) (by have e : Nat.min (gfold (rowL rw q)).1 (gfold (rowL rw q)).2.2 = min (gfold (rowL rw q)).1 (gfold (rowL rw q)).2.2 := rfl; omega) (by omega)) (by rw [rowL_succ, gfold_app]; exact lg_c1 hz)
  refine zk_lv [3, 2, 1, 0] (lv2 := [(0, .ref (a 0)), (1, .int (-9)), (2, .int (-9)), (3, .int (nI 0))]) rfl ?_
  exact loop8 ((rm - 0) + 1) 0 (-9) (-9) (Nat.lt_succ_self _) (Nat.zero_le _) (Or.inl ⟨rfl, rfl⟩) (Or.inl ⟨rfl, rfl, Nat.zero_le _⟩)
end
section
set_option maxHeartbeats 4000000 in
set_option maxRecDepth 100000 in
theorem ct_X7_isSafeRow (g : GG) (l : Launch) (a : Nat → Nat) (u pa im tx rw rb rk rt he tr be sp : Nat → Nat) (pm fl ln rm rd bn : Nat) (fk fp rs wk wp bm : Int32) (hm : rm ≤ 24) (hk : ∀ j, j < rm → rw j < 3) (hg : u 0 ≤ 3) : CtI g l yX7_isSafeRow cX7_isSafeRow 2 (some .boolean) (rmK 3 0 0) (MW g.2.1 a u pa im tx rw rb rk rt he tr be sp pm fl ln rm rd bn fk fp rs wk wp bm) [.ref (a 0)] (fun r W1 => r = (if u 0 ≤ gap (rowL rw rm) then nI 1 else nI 0) ∧ W1 = MW g.2.1 a u pa im tx rw rb rk rt he tr be sp pm fl ln rm rd bn fk fp rs wk wp bm) := by
  refine CtZ.go RX7 rfl (by decide +kernel) (Nat.le_of_ble_eq_true rfl) ?_
  intro p e s m args below meth c A H0 Q hc hnm fin
  show KW g p l e (rmK 3 0 0) s m args below meth c 2 A H0 0 0 Q (MW g.2.1 a u pa im tx rw rb rk rt he tr be sp pm fl ln rm rd bn fk fp rs wk wp bm) [(0, .ref (a 0))] 0 []
  refine zk_aload_n hc dX7_isSafeRow_0 0 rfl ?_
  refine zk_callVi hc (rest := []) (ct_X7_leastGap g l a u pa im tx rw rb rk rt he tr be sp pm fl ln rm rd bn fk fp rs wk wp bm (by omega) hk) gg_X7_77 cd_X7_leastGap ⟨Nat.le_of_ble_eq_true rfl, Nat.le_of_ble_eq_true rfl⟩ ⟨Nat.le_of_ble_eq_true rfl, Nat.le_of_ble_eq_true rfl⟩ ([]) ([]) rfl 0 rfl rfl rfl (Nat.le_of_ble_eq_true rfl) dX7_isSafeRow_1 (fun r W1 hp => ?_)
  obtain ⟨rfl, rfl⟩ := hp
  refine zk_ws (ws2 := MW g.2.1 a u pa im tx rw rb rk rt he tr be sp pm fl ln rm rd bn fk fp rs wk wp bm) rfl ?_
  refine zk_istore_n hc (lv2 := [(1, .int (encG (gap (rowL rw rm)))), (0, .ref (a 0))]) dX7_isSafeRow_4 (by decide) rfl ?_
  refine zk_iload_n hc dX7_isSafeRow_5 0 rfl ?_
  refine zk_bipush hc ((-9)) dX7_isSafeRow_6 rfl ?_
  refine zk_icmp_eq hc 21 dX7_isSafeRow_8 (by decide) (fun he => ?_) (fun he => ?_)
  · refine zk_iconst hc (nI 1) dX7_isSafeRow_21 rfl ?_
    refine zk_goto hc 26 dX7_isSafeRow_22 (by decide) ?_
    refine fin 0 0 _ _ _ _ (by decide) (by decide) dX7_isSafeRow_26 rfl (?_)
    have h99 := encG_eq (gap_le _) he
    exact ⟨by rw [if_pos (by omega)], rfl⟩
  · rw [encG_ne he]
    have hgl := gap_le (rowL rw rm)
    refine zk_iload_n hc dX7_isSafeRow_11 0 rfl ?_
    refine zk_aload_n hc dX7_isSafeRow_12 1 rfl ?_
    refine zk_get hc inlX7 (ci := 7) rfl 0 0 (by decide) mw_4_11 rfl rfl rfl dX7_isSafeRow_13 ?_
    refine zk_iconst hc (nI 0) dX7_isSafeRow_16 rfl ?_
    refine zk_ialdN hc 1 rfl (by omega) (by decide) dX7_isSafeRow_17 ?_
    refine zk_icmp_ltN hc 25 dX7_isSafeRow_18 (by decide) (by omega) (by omega) (fun hb => ?_) (fun hb => ?_)
    · refine zk_iconst hc (nI 0) dX7_isSafeRow_25 rfl ?_
      refine fin 0 0 _ _ _ _ (by decide) (by decide) dX7_isSafeRow_26 rfl (?_)
      exact ⟨by rw [if_neg (by omega)], rfl⟩
    · refine zk_iconst hc (nI 1) dX7_isSafeRow_21 rfl ?_
      refine zk_goto hc 26 dX7_isSafeRow_22 (by decide) ?_
      refine fin 0 0 _ _ _ _ (by decide) (by decide) dX7_isSafeRow_26 rfl (?_)
      exact ⟨by rw [if_pos (by omega)], rfl⟩

set_option maxHeartbeats 4000000 in
set_option maxRecDepth 100000 in
theorem ct_X7_isSafe (g : GG) (l : Launch) (a : Nat → Nat) (u pa im tx rw rb rk rt he tr be sp : Nat → Nat) (pm fl ln rm rd bn : Nat) (fk fp rs wk wp bm : Int32) (t : Nat) (ht : t < 4) (hm : mny u t ≤ 8) (hk : ∀ t j, t < 4 → j < 8 → knd u t j < 3) (hg : u 0 ≤ 3) : CtI g l yX7_isSafe cX7_isSafe 2 (some .boolean) (rmK 4 0 0) (MW g.2.1 a u pa im tx rw rb rk rt he tr be sp pm fl ln rm rd bn fk fp rs wk wp bm) [.ref (a 0), .int (nI t)] (fun r W1 => r = (if u 0 ≤ gap (kds u t (mny u t)) then nI 1 else nI 0) ∧ ∃ r2 n2, W1 = MW g.2.1 a u pa im tx r2 rb rk rt he tr be sp pm fl ln n2 rd bn fk fp rs wk wp bm) := by
  refine CtZ.go RX7 rfl (by decide +kernel) (Nat.le_of_ble_eq_true rfl) ?_
  intro p e s m args below meth c A H0 Q hc hnm fin
  show KW g p l e (rmK 4 0 0) s m args below meth c 2 A H0 0 0 Q (MW g.2.1 a u pa im tx rw rb rk rt he tr be sp pm fl ln rm rd bn fk fp rs wk wp bm) [(0, .ref (a 0)), (1, .int (nI t))] 0 []
  refine zk_aload_n hc dX7_isSafe_0 0 rfl ?_
  refine zk_iload_n hc dX7_isSafe_1 1 rfl ?_
  refine zk_aload_n hc dX7_isSafe_2 0 rfl ?_
  refine zk_iload_n hc dX7_isSafe_3 1 rfl ?_
  refine zk_iconst hc (nI 0) dX7_isSafe_4 rfl ?_
  refine zk_callVi hc (rest := [.int (nI t), .ref (a 0)]) (ct_X7_of g l a u pa im tx rw rb rk rt he tr be sp pm fl ln rm rd bn fk fp rs wk wp bm t 0 (by omega)) gg_X7_63 cd_X7_of ⟨Nat.le_of_ble_eq_true rfl, Nat.le_of_ble_eq_true rfl⟩ ⟨Nat.le_of_ble_eq_true rfl, Nat.le_of_ble_eq_true rfl⟩ ([]) ([]) rfl 0 rfl rfl rfl (Nat.le_of_ble_eq_true rfl) dX7_isSafe_5 (fun r W1 hp => ?_)
  obtain ⟨rfl, rfl⟩ := hp
  refine zk_ws (ws2 := MW g.2.1 a u pa im tx rw rb rk rt he tr be sp pm fl ln rm rd bn fk fp rs wk wp bm) rfl ?_
  refine zk_top (y := nI (mny u t)) rfl ?_
  refine zk_callVv hc (rest := []) (ct_X7_beginRow g l a u pa im tx rw rb rk rt he tr be sp pm fl ln rm rd bn fk fp rs wk wp bm t (mny u t) (by omega) (by omega)) gg_X7_81 cd_X7_beginRow ⟨Nat.le_of_ble_eq_true rfl, Nat.le_of_ble_eq_true rfl⟩ ⟨Nat.le_of_ble_eq_true rfl, Nat.le_of_ble_eq_true rfl⟩ ([]) ([]) rfl 0 rfl rfl rfl (Nat.le_of_ble_eq_true rfl) dX7_isSafe_8 (fun W1 hp => ?_)
  obtain ⟨r_1, rfl, hr_2⟩ := hp
  refine zk_ws (ws2 := MW g.2.1 a u pa im tx r_1 rb rk rt he tr be sp pm fl ln (mny u t) rd bn fk fp rs wk wp bm) rfl ?_
  refine zk_aload_n hc dX7_isSafe_11 0 rfl ?_
  refine zk_callVi hc (rest := []) (ct_X7_isSafeRow g l a u pa im tx r_1 rb rk rt he tr be sp pm fl ln (mny u t) rd bn fk fp rs wk wp bm (by omega) (fun j hj => rowL_lt hr_2 (fun z hz => hk t z ht (by omega)) hj) hg) gg_X7_85 cd_X7_isSafeRow ⟨Nat.le_of_ble_eq_true rfl, Nat.le_of_ble_eq_true rfl⟩ ⟨Nat.le_of_ble_eq_true rfl, Nat.le_of_ble_eq_true rfl⟩ ([]) ([]) rfl 0 rfl rfl rfl (Nat.le_of_ble_eq_true rfl) dX7_isSafe_12 (fun r W1 hp => ?_)
  obtain ⟨rfl, rfl⟩ := hp
  refine zk_ws (ws2 := MW g.2.1 a u pa im tx r_1 rb rk rt he tr be sp pm fl ln (mny u t) rd bn fk fp rs wk wp bm) rfl ?_
  by_cases hs : u 0 ≤ gap (rowL r_1 (mny u t))
  · refine zk_top (y := nI 1) (if_pos hs) ?_
    refine fin 0 0 _ _ _ _ (by decide) (by decide) dX7_isSafe_15 rfl (?_)
    exact ⟨by rw [if_pos (hr_2 ▸ hs)], _, _, rfl⟩
  · refine zk_top (y := nI 0) (if_neg hs) ?_
    refine fin 0 0 _ _ _ _ (by decide) (by decide) dX7_isSafe_15 rfl (?_)
    exact ⟨by rw [if_neg (hr_2 ▸ hs)], _, _, rfl⟩

set_option maxHeartbeats 4000000 in
set_option maxRecDepth 100000 in
theorem ct_X7_isTrack (g : GG) (l : Launch) (a : Nat → Nat) (u pa im tx rw rb rk rt he tr be sp : Nat → Nat) (pm fl ln rm rd bn : Nat) (fk fp rs wk wp bm : Int32) (v : Int32) (h4 : 1 ≤ u 4) : CtI g l yX7_isTrack cX7_isTrack 2 (some .boolean) (rmK 2 0 0) (MW g.2.1 a u pa im tx rw rb rk rt he tr be sp pm fl ln rm rd bn fk fp rs wk wp bm) [.ref (a 0), .int v] (fun r W1 => r = (if nI 0 ≤ v ∧ v ≤ nI (u 4 - 1) then nI 1 else nI 0) ∧ W1 = MW g.2.1 a u pa im tx rw rb rk rt he tr be sp pm fl ln rm rd bn fk fp rs wk wp bm) := by
  refine CtZ.go RX7 rfl (by decide +kernel) (Nat.le_of_ble_eq_true rfl) ?_
  intro p e s m args below meth c A H0 Q hc hnm fin
  show KW g p l e (rmK 2 0 0) s m args below meth c 2 A H0 0 0 Q (MW g.2.1 a u pa im tx rw rb rk rt he tr be sp pm fl ln rm rd bn fk fp rs wk wp bm) [(0, .ref (a 0)), (1, .int v)] 0 []
  refine zk_iload_n hc dX7_isTrack_0 1 rfl ?_
  refine zk_iconst hc (nI 0) dX7_isTrack_1 rfl ?_
  refine zk_aload_n hc dX7_isTrack_2 0 rfl ?_
  refine zk_get hc inlX7 (ci := 7) rfl 0 0 (by decide) mw_4_11 rfl rfl rfl dX7_isTrack_3 ?_
  refine zk_iconst hc (nI 4) dX7_isTrack_6 rfl ?_
  refine zk_ialdN hc 1 rfl (by omega) (by decide) dX7_isTrack_7 ?_
  refine zk_iconst hc (nI 1) dX7_isTrack_8 rfl ?_
  refine zk_isubN hc dX7_isTrack_9 (by omega) ?_
  refine zk_callSi hc (rest := []) (ct_X7_isIn g l v (nI 0) (nI ((u 4) - 1))) gg_X7_59 cd_X7_isIn ⟨Nat.le_of_ble_eq_true rfl, Nat.le_of_ble_eq_true rfl⟩ ⟨Nat.le_of_ble_eq_true rfl, Nat.le_of_ble_eq_true rfl⟩ ([]) (MW g.2.1 a u pa im tx rw rb rk rt he tr be sp pm fl ln rm rd bn fk fp rs wk wp bm) rfl rfl (Nat.le_of_ble_eq_true rfl) dX7_isTrack_10 (fun r W1 hp => ?_)
  obtain ⟨rfl, rfl⟩ := hp
  refine zk_ws (ws2 := MW g.2.1 a u pa im tx rw rb rk rt he tr be sp pm fl ln rm rd bn fk fp rs wk wp bm) rfl ?_
  by_cases hi : nI 0 ≤ v ∧ v ≤ nI ((u 4) - 1)
  · refine zk_top (y := nI 1) (if_pos hi) ?_
    exact fin 0 0 _ _ _ _ (by decide) (by decide) dX7_isTrack_13 rfl (⟨by rw [if_pos hi], rfl⟩)
  · refine zk_top (y := nI 0) (if_neg hi) ?_
    exact fin 0 0 _ _ _ _ (by decide) (by decide) dX7_isTrack_13 rfl (⟨by rw [if_neg hi], rfl⟩)

set_option maxHeartbeats 4000000 in
set_option maxRecDepth 100000 in
theorem ct_X7_areTracks (g : GG) (l : Launch) (a : Nat → Nat) (u pa im tx rw rb rk rt he tr be sp : Nat → Nat) (pm fl ln rm rd bn : Nat) (fk fp rs wk wp bm : Int32) (f t n : Int32) (hK : 1 ≤ u 4) : CtI g l yX7_areTracks cX7_areTracks 4 (some .boolean) (rmK 3 0 0) (MW g.2.1 a u pa im tx rw rb rk rt he tr be sp pm fl ln rm rd bn fk fp rs wk wp bm) [.ref (a 0), .int f, .int t, .int n] (fun r W1 => r = (if ((nI 0 ≤ f ∧ f ≤ nI (u 4 - 1)) ∧ (nI 0 ≤ t ∧ t ≤ nI (u 4 - 1)) ∧ f ≠ t ∧ nI 1 ≤ n ∧ n ≤ nI 8) then nI 1 else nI 0) ∧ W1 = MW g.2.1 a u pa im tx rw rb rk rt he tr be sp pm fl ln rm rd bn fk fp rs wk wp bm) := by
  refine CtZ.go RX7 rfl (by decide +kernel) (Nat.le_of_ble_eq_true rfl) ?_
  intro p e s m args below meth c A H0 Q hc hnm fin
  show KW g p l e (rmK 3 0 0) s m args below meth c 4 A H0 0 0 Q (MW g.2.1 a u pa im tx rw rb rk rt he tr be sp pm fl ln rm rd bn fk fp rs wk wp bm) [(0, .ref (a 0)), (1, .int f), (2, .int t), (3, .int n)] 0 []
  refine zk_aload_n hc dX7_areTracks_0 0 rfl ?_
  refine zk_iload_n hc dX7_areTracks_1 1 rfl ?_
  refine zk_callVi hc (rest := []) (ct_X7_isTrack g l a u pa im tx rw rb rk rt he tr be sp pm fl ln rm rd bn fk fp rs wk wp bm f (by omega)) gg_X7_89 cd_X7_isTrack ⟨Nat.le_of_ble_eq_true rfl, Nat.le_of_ble_eq_true rfl⟩ ⟨Nat.le_of_ble_eq_true rfl, Nat.le_of_ble_eq_true rfl⟩ ([]) ([]) rfl 0 rfl rfl rfl (Nat.le_of_ble_eq_true rfl) dX7_areTracks_2 (fun r W1 hp => ?_)
  obtain ⟨rfl, rfl⟩ := hp
  refine zk_ws (ws2 := MW g.2.1 a u pa im tx rw rb rk rt he tr be sp pm fl ln rm rd bn fk fp rs wk wp bm) rfl ?_
  by_cases h1 : nI 0 ≤ f ∧ f ≤ nI (u 4 - 1)
  · refine zk_top (y := nI 1) (if_pos h1) ?_
    refine zk_if_eqN hc 35 dX7_areTracks_5 (by decide) (by omega) (fun h_1 => ?_) (fun h_1 => ?_)
    · exact absurd h_1 (by decide)
    · refine zk_aload_n hc dX7_areTracks_8 0 rfl ?_
      refine zk_iload_n hc dX7_areTracks_9 2 rfl ?_
      refine zk_callVi hc (rest := []) (ct_X7_isTrack g l a u pa im tx rw rb rk rt he tr be sp pm fl ln rm rd bn fk fp rs wk wp bm t (by omega)) gg_X7_89 cd_X7_isTrack ⟨Nat.le_of_ble_eq_true rfl, Nat.le_of_ble_eq_true rfl⟩ ⟨Nat.le_of_ble_eq_true rfl, Nat.le_of_ble_eq_true rfl⟩ ([]) ([]) rfl 0 rfl rfl rfl (Nat.le_of_ble_eq_true rfl) dX7_areTracks_10 (fun r W1 hp => ?_)
      obtain ⟨rfl, rfl⟩ := hp
      refine zk_ws (ws2 := MW g.2.1 a u pa im tx rw rb rk rt he tr be sp pm fl ln rm rd bn fk fp rs wk wp bm) rfl ?_
      by_cases h2 : nI 0 ≤ t ∧ t ≤ nI (u 4 - 1)
      · refine zk_top (y := nI 1) (if_pos h2) ?_
        refine zk_if_eqN hc 35 dX7_areTracks_13 (by decide) (by omega) (fun h_2 => ?_) (fun h_2 => ?_)
        · exact absurd h_2 (by decide)
        · refine zk_iload_n hc dX7_areTracks_16 1 rfl ?_
          refine zk_iload_n hc dX7_areTracks_17 2 rfl ?_
          refine zk_icmp_eq hc 35 dX7_areTracks_18 (by decide) (fun h3 => ?_) (fun h3 => ?_)
          · refine zk_iconst hc (nI 0) dX7_areTracks_35 rfl ?_
            exact fin 0 0 _ _ _ _ (by decide) (by decide) dX7_areTracks_36 rfl (⟨by rw [if_neg (fun z => z.2.2.1 h3)], rfl⟩)
          · refine zk_iload_n hc dX7_areTracks_21 3 rfl ?_
            refine zk_iconst hc (nI 1) dX7_areTracks_22 rfl ?_
            refine zk_bipush hc (nI 8) dX7_areTracks_23 rfl ?_
            refine zk_callSi hc (rest := []) (ct_X7_isIn g l n (nI 1) (nI 8)) gg_X7_59 cd_X7_isIn ⟨Nat.le_of_ble_eq_true rfl, Nat.le_of_ble_eq_true rfl⟩ ⟨Nat.le_of_ble_eq_true rfl, Nat.le_of_ble_eq_true rfl⟩ ([]) (MW g.2.1 a u pa im tx rw rb rk rt he tr be sp pm fl ln rm rd bn fk fp rs wk wp bm) rfl rfl (Nat.le_of_ble_eq_true rfl) dX7_areTracks_25 (fun r W1 hp => ?_)
            obtain ⟨rfl, rfl⟩ := hp
            refine zk_ws (ws2 := MW g.2.1 a u pa im tx rw rb rk rt he tr be sp pm fl ln rm rd bn fk fp rs wk wp bm) rfl ?_
            by_cases h4 : nI 1 ≤ n ∧ n ≤ nI 8
            · refine zk_top (y := nI 1) (if_pos h4) ?_
              refine zk_if_eqN hc 35 dX7_areTracks_28 (by decide) (by omega) (fun h_3 => ?_) (fun h_3 => ?_)
              · exact absurd h_3 (by decide)
              · refine zk_iconst hc (nI 1) dX7_areTracks_31 rfl ?_
                refine zk_goto hc 36 dX7_areTracks_32 (by decide) ?_
                exact fin 0 0 _ _ _ _ (by decide) (by decide) dX7_areTracks_36 rfl (⟨by rw [if_pos ⟨h1, h2, h3, h4.1, h4.2⟩], rfl⟩)
            · refine zk_top (y := nI 0) (if_neg h4) ?_
              refine zk_if_eqN hc 35 dX7_areTracks_28 (by decide) (by omega) (fun h_4 => ?_) (fun h_4 => ?_)
              · refine zk_iconst hc (nI 0) dX7_areTracks_35 rfl ?_
                exact fin 0 0 _ _ _ _ (by decide) (by decide) dX7_areTracks_36 rfl (⟨by rw [if_neg (fun z => h4 ⟨z.2.2.2.1, z.2.2.2.2⟩)], rfl⟩)
              · exact absurd h_4 (by decide)
      · refine zk_top (y := nI 0) (if_neg h2) ?_
        refine zk_if_eqN hc 35 dX7_areTracks_13 (by decide) (by omega) (fun h_5 => ?_) (fun h_5 => ?_)
        · refine zk_iconst hc (nI 0) dX7_areTracks_35 rfl ?_
          exact fin 0 0 _ _ _ _ (by decide) (by decide) dX7_areTracks_36 rfl (⟨by rw [if_neg (fun z => h2 z.2.1)], rfl⟩)
        · exact absurd h_5 (by decide)
  · refine zk_top (y := nI 0) (if_neg h1) ?_
    refine zk_if_eqN hc 35 dX7_areTracks_5 (by decide) (by omega) (fun h_6 => ?_) (fun h_6 => ?_)
    · refine zk_iconst hc (nI 0) dX7_areTracks_35 rfl ?_
      exact fin 0 0 _ _ _ _ (by decide) (by decide) dX7_areTracks_36 rfl (⟨by rw [if_neg (fun z => h1 z.1)], rfl⟩)
    · exact absurd h_6 (by decide)

set_option maxHeartbeats 4000000 in
set_option maxRecDepth 100000 in
theorem ct_X7_costOf (g : GG) (l : Launch) (a : Nat → Nat) (u pa im tx rw rb rk rt he tr be sp : Nat → Nat) (pm fl ln rm rd bn : Nat) (fk fp rs wk wp bm : Int32) (f t n : Nat) (hf : f < 4) (ht : t < 4) (hn : n ≤ 8) (hmf : mny u f ≤ 8) (hmt : mny u t ≤ 8) (hb : ∀ k, u k < 1073741824) (hb2 : u 2 ≤ 20) (hk : ∀ t j, t < 4 → j < 8 → knd u t j < 3) (hg : u 0 ≤ 3) : CtI g l yX7_costOf cX7_costOf 7 (some .int) (rmK 4 0 0) (MW g.2.1 a u pa im tx rw rb rk rt he tr be sp pm fl ln rm rd bn fk fp rs wk wp bm) [.ref (a 0), .int (nI f), .int (nI t), .int (nI n)] (fun r W1 => r = costI u f t n ∧ ∃ r2 n2, W1 = MW g.2.1 a u pa im tx r2 rb rk rt he tr be sp pm fl ln n2 rd bn fk fp rs wk wp bm) := by
  refine CtI.go RX7 rfl (by decide +kernel) (Nat.le_of_ble_eq_true rfl) ?_
  intro p e s m args below meth c A H0 Q hc hnm fin
  show KW g p l e (rmK 4 0 0) s m args below meth c 7 A H0 0 0 Q (MW g.2.1 a u pa im tx rw rb rk rt he tr be sp pm fl ln rm rd bn fk fp rs wk wp bm) [(0, .ref (a 0)), (1, .int (nI f)), (2, .int (nI t)), (3, .int (nI n))] 0 []
  refine zk_aload_n hc dX7_costOf_0 0 rfl ?_
  refine zk_iload_n hc dX7_costOf_1 1 rfl ?_
  refine zk_iconst hc (nI 0) dX7_costOf_2 rfl ?_
  refine zk_callVi hc (rest := []) (ct_X7_of g l a u pa im tx rw rb rk rt he tr be sp pm fl ln rm rd bn fk fp rs wk wp bm f 0 (by omega)) gg_X7_63 cd_X7_of ⟨Nat.le_of_ble_eq_true rfl, Nat.le_of_ble_eq_true rfl⟩ ⟨Nat.le_of_ble_eq_true rfl, Nat.le_of_ble_eq_true rfl⟩ ([]) ([]) rfl 0 rfl rfl rfl (Nat.le_of_ble_eq_true rfl) dX7_costOf_3 (fun r W1 hp => ?_)
  obtain ⟨rfl, rfl⟩ := hp
  refine zk_ws (ws2 := MW g.2.1 a u pa im tx rw rb rk rt he tr be sp pm fl ln rm rd bn fk fp rs wk wp bm) rfl ?_
  refine zk_top (y := nI (mny u f)) rfl ?_
  refine zk_istore hc (lv2 := [(4, .int (nI (mny u f))), (0, .ref (a 0)), (1, .int (nI f)), (2, .int (nI t)), (3, .int (nI n))]) dX7_costOf_6 (by decide) rfl ?_
  refine zk_iload_n hc dX7_costOf_8 4 rfl ?_
  refine zk_iload hc dX7_costOf_9 0 rfl ?_
  refine zk_icmp_leN hc 17 dX7_costOf_11 (by decide) (by omega) (by omega) (fun hle => ?_) (fun hle => ?_)
  · refine zk_aload_n hc dX7_costOf_17 1 rfl ?_
    refine zk_iload_n hc dX7_costOf_18 2 rfl ?_
    refine zk_iload hc dX7_costOf_19 0 rfl ?_
    refine zk_iload_n hc dX7_costOf_21 4 rfl ?_
    refine zk_isubN hc dX7_costOf_22 (by omega) ?_
    refine zk_callVv hc (rest := []) (ct_X7_beginRow g l a u pa im tx rw rb rk rt he tr be sp pm fl ln rm rd bn fk fp rs wk wp bm f ((mny u f) - n) (by omega) (by omega)) gg_X7_81 cd_X7_beginRow ⟨Nat.le_of_ble_eq_true rfl, Nat.le_of_ble_eq_true rfl⟩ ⟨Nat.le_of_ble_eq_true rfl, Nat.le_of_ble_eq_true rfl⟩ ([]) ([]) rfl 0 rfl rfl rfl (Nat.le_of_ble_eq_true rfl) dX7_costOf_23 (fun W1 hp => ?_)
    obtain ⟨r_1, rfl, hr_2⟩ := hp
    refine zk_ws (ws2 := MW g.2.1 a u pa im tx r_1 rb rk rt he tr be sp pm fl ln ((mny u f) - n) rd bn fk fp rs wk wp bm) rfl ?_
    refine zk_aload_n hc dX7_costOf_26 1 rfl ?_
    refine zk_callVi hc (rest := []) (ct_X7_isSafeRow g l a u pa im tx r_1 rb rk rt he tr be sp pm fl ln ((mny u f) - n) rd bn fk fp rs wk wp bm (by omega) (fun j hj => rowL_lt hr_2 (fun z hz => hk f z hf (by omega)) hj) hg) gg_X7_85 cd_X7_isSafeRow ⟨Nat.le_of_ble_eq_true rfl, Nat.le_of_ble_eq_true rfl⟩ ⟨Nat.le_of_ble_eq_true rfl, Nat.le_of_ble_eq_true rfl⟩ ([]) ([]) rfl 0 rfl rfl rfl (Nat.le_of_ble_eq_true rfl) dX7_costOf_27 (fun r W1 hp => ?_)
    obtain ⟨rfl, rfl⟩ := hp
    refine zk_ws (ws2 := MW g.2.1 a u pa im tx r_1 rb rk rt he tr be sp pm fl ln ((mny u f) - n) rd bn fk fp rs wk wp bm) rfl ?_
    by_cases hs1 : u 0 ≤ gap (rowL r_1 ((mny u f) - n))
    · refine zk_top (y := nI 1) (if_pos hs1) ?_
      refine zk_if_neN hc 36 dX7_costOf_30 (by decide) (by omega) (fun h_3 => ?_) (fun h_3 => ?_)
      · refine zk_aload_n hc dX7_costOf_36 1 rfl ?_
        refine zk_iload_n hc dX7_costOf_37 3 rfl ?_
        refine zk_aload_n hc dX7_costOf_38 1 rfl ?_
        refine zk_iload_n hc dX7_costOf_39 3 rfl ?_
        refine zk_iconst hc (nI 0) dX7_costOf_40 rfl ?_
        refine zk_callVi hc (rest := [.int (nI t), .ref (a 0)]) (ct_X7_of g l a u pa im tx r_1 rb rk rt he tr be sp pm fl ln ((mny u f) - n) rd bn fk fp rs wk wp bm t 0 (by omega)) gg_X7_63 cd_X7_of ⟨Nat.le_of_ble_eq_true rfl, Nat.le_of_ble_eq_true rfl⟩ ⟨Nat.le_of_ble_eq_true rfl, Nat.le_of_ble_eq_true rfl⟩ ([]) ([]) rfl 0 rfl rfl rfl (Nat.le_of_ble_eq_true rfl) dX7_costOf_41 (fun r W1 hp => ?_)
        obtain ⟨rfl, rfl⟩ := hp
        refine zk_ws (ws2 := MW g.2.1 a u pa im tx r_1 rb rk rt he tr be sp pm fl ln ((mny u f) - n) rd bn fk fp rs wk wp bm) rfl ?_
        refine zk_top (y := nI (mny u t)) rfl ?_
        refine zk_callVv hc (rest := []) (ct_X7_beginRow g l a u pa im tx r_1 rb rk rt he tr be sp pm fl ln ((mny u f) - n) rd bn fk fp rs wk wp bm t (mny u t) (by omega) (by omega)) gg_X7_81 cd_X7_beginRow ⟨Nat.le_of_ble_eq_true rfl, Nat.le_of_ble_eq_true rfl⟩ ⟨Nat.le_of_ble_eq_true rfl, Nat.le_of_ble_eq_true rfl⟩ ([]) ([]) rfl 0 rfl rfl rfl (Nat.le_of_ble_eq_true rfl) dX7_costOf_44 (fun W1 hp => ?_)
        obtain ⟨r_4, rfl, hr_5⟩ := hp
        refine zk_ws (ws2 := MW g.2.1 a u pa im tx r_4 rb rk rt he tr be sp pm fl ln (mny u t) rd bn fk fp rs wk wp bm) rfl ?_
        refine zk_iconst hc (nI 0) dX7_costOf_47 rfl ?_
        refine zk_istore hc (lv2 := [(5, .int (nI 0)), (4, .int (nI (mny u f))), (0, .ref (a 0)), (1, .int (nI f)), (2, .int (nI t)), (3, .int (nI n))]) dX7_costOf_48 (by decide) rfl ?_
        refine zk_iload hc dX7_costOf_50 1 rfl ?_
        refine zk_iload_n hc dX7_costOf_52 5 rfl ?_
        refine zk_isubN hc dX7_costOf_53 (by omega) ?_
        refine zk_istore hc (lv2 := [(6, .int (nI ((mny u f) - n))), (5, .int (nI 0)), (4, .int (nI (mny u f))), (0, .ref (a 0)), (1, .int (nI f)), (2, .int (nI t)), (3, .int (nI n))]) dX7_costOf_54 (by decide) rfl ?_
        have loop56 : ∀ (N : Nat) (q : Nat) (r : Nat → Nat) (x : Nat), n - q < N → (q ≤ n) → (rowL r (mny u t + q) = kds u t (mny u t) ++ kdf u f (mny u f - n) q) → (x = if 2 ∈ kdf u f (mny u f - n) q then 1 else 0) → (x < 2) → KW g p l e (rmK 4 0 0) s m args below meth c 7 A H0 0 0 Q (MW g.2.1 a u pa im tx r rb rk rt he tr be sp pm fl ln (mny u t + q) rd bn fk fp rs wk wp bm) [(0, .ref (a 0)), (1, .int (nI f)), (2, .int (nI t)), (3, .int (nI n)), (4, .int (nI (mny u f))), (5, .int (nI x)), (6, .int (nI (mny u f - n + q)))] 56 [] := by
          intro N
          induction N with
          | zero => intro q r x hm; exact absurd hm (Nat.not_lt_zero _)
          | succ N ih56 =>
            intro q r x hm56 hq hrr hx hx1
            refine zk_iload hc dX7_costOf_56 6 rfl ?_
            refine zk_iload hc dX7_costOf_58 4 rfl ?_
            refine zk_icmp_geN hc 101 dX7_costOf_60 (by decide) (by omega) (by omega) (fun h_6 => ?_) (fun h_6 => ?_)
            · refine zk_aload_n hc dX7_costOf_101 0 rfl ?_
              have eq : q = n := by omega
              subst eq
              refine zk_callVi hc (rest := []) (ct_X7_isSafeRow g l a u pa im tx r rb rk rt he tr be sp pm fl ln (mny u t + q) rd bn fk fp rs wk wp bm (by omega) (fun j hj => rowL_lt2 hrr (fun z hz => hk t z ht (by omega)) (fun z hz => hk f _ hf (by omega)) hj) hg) gg_X7_85 cd_X7_isSafeRow ⟨Nat.le_of_ble_eq_true rfl, Nat.le_of_ble_eq_true rfl⟩ ⟨Nat.le_of_ble_eq_true rfl, Nat.le_of_ble_eq_true rfl⟩ ([]) ([]) rfl 0 rfl rfl rfl (Nat.le_of_ble_eq_true rfl) dX7_costOf_102 (fun r W1 hp => ?_)
              obtain ⟨rfl, rfl⟩ := hp
              refine zk_ws (ws2 := MW g.2.1 a u pa im tx r rb rk rt he tr be sp pm fl ln (mny u t + q) rd bn fk fp rs wk wp bm) rfl ?_
              by_cases hs2 : u 0 ≤ gap (rowL r (mny u t + q))
              · refine zk_top (y := nI 1) (if_pos hs2) ?_
                refine zk_if_neN hc 111 dX7_costOf_105 (by decide) (by omega) (fun h_7 => ?_) (fun h_7 => ?_)
                · refine zk_aload_n hc dX7_costOf_111 0 rfl ?_
                  refine zk_iload_n hc dX7_costOf_112 2 rfl ?_
                  refine zk_iconst hc (nI 0) dX7_costOf_113 rfl ?_
                  refine zk_callVi hc (rest := []) (ct_X7_of g l a u pa im tx r rb rk rt he tr be sp pm fl ln (mny u t + q) rd bn fk fp rs wk wp bm t 0 (by omega)) gg_X7_63 cd_X7_of ⟨Nat.le_of_ble_eq_true rfl, Nat.le_of_ble_eq_true rfl⟩ ⟨Nat.le_of_ble_eq_true rfl, Nat.le_of_ble_eq_true rfl⟩ ([]) ([]) rfl 0 rfl rfl rfl (Nat.le_of_ble_eq_true rfl) dX7_costOf_114 (fun r W1 hp => ?_)
                  obtain ⟨rfl, rfl⟩ := hp
                  refine zk_ws (ws2 := MW g.2.1 a u pa im tx r rb rk rt he tr be sp pm fl ln (mny u t + q) rd bn fk fp rs wk wp bm) rfl ?_
                  refine zk_top (y := nI (mny u t)) rfl ?_
                  refine zk_iload_n hc dX7_costOf_117 3 rfl ?_
                  refine zk_iaddN hc dX7_costOf_118 ?_
                  refine zk_aload_n hc dX7_costOf_119 0 rfl ?_
                  refine zk_get hc inlX7 (ci := 7) rfl 0 0 (by decide) mw_4_11 rfl rfl rfl dX7_costOf_120 ?_
                  refine zk_iconst hc (nI 5) dX7_costOf_123 rfl ?_
                  refine zk_ialdN hc 1 rfl (by omega) (by decide) dX7_costOf_124 ?_
                  refine zk_icmp_leN hc 131 dX7_costOf_125 (by decide) (by have := hb 5; omega) (by have := hb 5; omega) (fun hful => ?_) (fun hful => ?_)
                  · refine zk_aload_n hc dX7_costOf_131 0 rfl ?_
                    refine zk_get hc inlX7 (ci := 7) rfl 0 0 (by decide) mw_4_11 rfl rfl rfl dX7_costOf_132 ?_
                    refine zk_iconst hc (nI 2) dX7_costOf_135 rfl ?_
                    refine zk_ialdN hc 1 rfl (by omega) (by decide) dX7_costOf_136 ?_
                    refine zk_iload_n hc dX7_costOf_137 3 rfl ?_
                    refine zk_iaddN hc dX7_costOf_138 ?_
                    refine zk_iconst hc (nI 2) dX7_costOf_139 rfl ?_
                    refine zk_iload_n hc dX7_costOf_140 1 rfl ?_
                    refine zk_iload_n hc dX7_costOf_141 2 rfl ?_
                    refine zk_icmp_leN hc 151 dX7_costOf_142 (by decide) (by omega) (by omega) (fun hgt => ?_) (fun hgt => ?_)
                    · refine zk_iload_n hc dX7_costOf_151 2 rfl ?_
                      refine zk_iload_n hc dX7_costOf_152 1 rfl ?_
                      refine zk_isubN hc dX7_costOf_153 (by omega) ?_
                      refine zk_imulN hc dX7_costOf_154 ?_
                      refine zk_iaddN hc dX7_costOf_155 ?_
                      refine zk_iload hc dX7_costOf_156 5 rfl ?_
                      refine zk_if_eqN hc 165 dX7_costOf_158 (by decide) (by omega) (fun hxx => ?_) (fun hxx => ?_)
                      · have hex : ¬ 2 ∈ kdf u f (mny u f - q) q := fun z => by rw [if_pos z] at hx; omega
                        refine zk_iconst hc (nI 0) dX7_costOf_165 rfl ?_
                        refine zk_iaddN hc dX7_costOf_166 ?_
                        refine fin 0 0 _ _ _ _ (by decide) (by decide) dX7_costOf_167 (?_)
                        exact ⟨by unfold costI; rw [if_neg (by omega), if_neg (not_not_intro (hr_2 ▸ hs1)), if_neg (not_not_intro (by rw [← hrr]; exact hs2)), if_neg (by omega)]; unfold mins; rw [if_neg (by omega), if_neg hex], _, _, rfl⟩
                      · have hex : 2 ∈ kdf u f (mny u f - q) q := by rcases Classical.em (2 ∈ kdf u f (mny u f - q) q) with z | z; exact z; rw [if_neg z] at hx; omega
                        refine zk_iconst hc (nI 5) dX7_costOf_161 rfl ?_
                        refine zk_goto hc 166 dX7_costOf_162 (by decide) ?_
                        refine zk_iaddN hc dX7_costOf_166 ?_
                        refine fin 0 0 _ _ _ _ (by decide) (by decide) dX7_costOf_167 (?_)
                        exact ⟨by unfold costI; rw [if_neg (by omega), if_neg (not_not_intro (hr_2 ▸ hs1)), if_neg (not_not_intro (by rw [← hrr]; exact hs2)), if_neg (by omega)]; unfold mins; rw [if_neg (by omega), if_pos hex], _, _, rfl⟩
                    · refine zk_iload_n hc dX7_costOf_145 1 rfl ?_
                      refine zk_iload_n hc dX7_costOf_146 2 rfl ?_
                      refine zk_isubN hc dX7_costOf_147 (by omega) ?_
                      refine zk_goto hc 154 dX7_costOf_148 (by decide) ?_
                      refine zk_imulN hc dX7_costOf_154 ?_
                      refine zk_iaddN hc dX7_costOf_155 ?_
                      refine zk_iload hc dX7_costOf_156 5 rfl ?_
                      refine zk_if_eqN hc 165 dX7_costOf_158 (by decide) (by omega) (fun hxx => ?_) (fun hxx => ?_)
                      · have hex : ¬ 2 ∈ kdf u f (mny u f - q) q := fun z => by rw [if_pos z] at hx; omega
                        refine zk_iconst hc (nI 0) dX7_costOf_165 rfl ?_
                        refine zk_iaddN hc dX7_costOf_166 ?_
                        refine fin 0 0 _ _ _ _ (by decide) (by decide) dX7_costOf_167 (?_)
                        exact ⟨by unfold costI; rw [if_neg (by omega), if_neg (not_not_intro (hr_2 ▸ hs1)), if_neg (not_not_intro (by rw [← hrr]; exact hs2)), if_neg (by omega)]; unfold mins; rw [if_pos (by omega), if_neg hex], _, _, rfl⟩
                      · have hex : 2 ∈ kdf u f (mny u f - q) q := by rcases Classical.em (2 ∈ kdf u f (mny u f - q) q) with z | z; exact z; rw [if_neg z] at hx; omega
                        refine zk_iconst hc (nI 5) dX7_costOf_161 rfl ?_
                        refine zk_goto hc 166 dX7_costOf_162 (by decide) ?_
                        refine zk_iaddN hc dX7_costOf_166 ?_
                        refine fin 0 0 _ _ _ _ (by decide) (by decide) dX7_costOf_167 (?_)
                        exact ⟨by unfold costI; rw [if_neg (by omega), if_neg (not_not_intro (hr_2 ▸ hs1)), if_neg (not_not_intro (by rw [← hrr]; exact hs2)), if_neg (by omega)]; unfold mins; rw [if_pos (by omega), if_pos hex], _, _, rfl⟩
                  · refine zk_bipush hc ((-3)) dX7_costOf_128 rfl ?_
                    refine fin 0 0 _ _ _ _ (by decide) (by decide) dX7_costOf_130 (?_)
                    exact ⟨by unfold costI; rw [if_neg (by omega), if_neg (not_not_intro (hr_2 ▸ hs1)), if_neg (not_not_intro (by rw [← hrr]; exact hs2)), if_pos (by omega)], _, _, rfl⟩
                · exact absurd h_7 (by decide)
              · refine zk_top (y := nI 0) (if_neg hs2) ?_
                refine zk_if_neN hc 111 dX7_costOf_105 (by decide) (by omega) (fun h_8 => ?_) (fun h_8 => ?_)
                · exact absurd h_8 (by decide)
                · refine zk_bipush hc ((-2)) dX7_costOf_108 rfl ?_
                  refine fin 0 0 _ _ _ _ (by decide) (by decide) dX7_costOf_110 (?_)
                  exact ⟨by unfold costI; rw [if_neg (by omega), if_neg (not_not_intro (hr_2 ▸ hs1)), if_pos (by rw [← hrr]; exact hs2)], _, _, rfl⟩
            · refine zk_aload_n hc dX7_costOf_63 0 rfl ?_
              refine zk_aload_n hc dX7_costOf_64 0 rfl ?_
              refine zk_iload_n hc dX7_costOf_65 1 rfl ?_
              refine zk_iload hc dX7_costOf_66 6 rfl ?_
              refine zk_callVi hc (rest := [.ref (a 0)]) (ct_X7_kindAt g l a u pa im tx r rb rk rt he tr be sp pm fl ln (mny u t + q) rd bn fk fp rs wk wp bm f (mny u f - n + q) (by omega)) gg_X7_70 cd_X7_kindAt ⟨Nat.le_of_ble_eq_true rfl, Nat.le_of_ble_eq_true rfl⟩ ⟨Nat.le_of_ble_eq_true rfl, Nat.le_of_ble_eq_true rfl⟩ ([]) ([]) rfl 0 rfl rfl rfl (Nat.le_of_ble_eq_true rfl) dX7_costOf_68 (fun r W1 hp => ?_)
              obtain ⟨rfl, rfl⟩ := hp
              refine zk_ws (ws2 := MW g.2.1 a u pa im tx r rb rk rt he tr be sp pm fl ln (mny u t + q) rd bn fk fp rs wk wp bm) rfl ?_
              refine zk_callVv hc (rest := []) (ct_X7_appendKind g l a u pa im tx r rb rk rt he tr be sp pm fl ln (mny u t + q) rd bn fk fp rs wk wp bm (knd u f (mny u f - n + q)) (by omega)) gg_X7_73 cd_X7_appendKind ⟨Nat.le_of_ble_eq_true rfl, Nat.le_of_ble_eq_true rfl⟩ ⟨Nat.le_of_ble_eq_true rfl, Nat.le_of_ble_eq_true rfl⟩ ([]) ([]) rfl 0 rfl rfl rfl (Nat.le_of_ble_eq_true rfl) dX7_costOf_71 (fun W1 hp => ?_)
              obtain rfl := hp
              refine zk_ws (ws2 := MW g.2.1 a u pa im tx (va_up r (mny u t + q) (knd u f (mny u f - n + q))) rb rk rt he tr be sp pm fl ln (mny u t + q + 1) rd bn fk fp rs wk wp bm) rfl ?_
              refine zk_iload hc dX7_costOf_74 5 rfl ?_
              refine zk_aload_n hc dX7_costOf_76 0 rfl ?_
              refine zk_iload_n hc dX7_costOf_77 1 rfl ?_
              refine zk_iload hc dX7_costOf_78 6 rfl ?_
              refine zk_callVi hc (rest := [.int (nI x)]) (ct_X7_kindAt g l a u pa im tx (va_up r (mny u t + q) (knd u f (mny u f - n + q))) rb rk rt he tr be sp pm fl ln (mny u t + q + 1) rd bn fk fp rs wk wp bm f (mny u f - n + q) (by omega)) gg_X7_70 cd_X7_kindAt ⟨Nat.le_of_ble_eq_true rfl, Nat.le_of_ble_eq_true rfl⟩ ⟨Nat.le_of_ble_eq_true rfl, Nat.le_of_ble_eq_true rfl⟩ ([]) ([]) rfl 0 rfl rfl rfl (Nat.le_of_ble_eq_true rfl) dX7_costOf_80 (fun r W1 hp => ?_)
              obtain ⟨rfl, rfl⟩ := hp
              refine zk_ws (ws2 := MW g.2.1 a u pa im tx (va_up r (mny u t + q) (knd u f (mny u f - n + q))) rb rk rt he tr be sp pm fl ln (mny u t + q + 1) rd bn fk fp rs wk wp bm) rfl ?_
              refine zk_iconst hc (nI 2) dX7_costOf_83 rfl ?_
              refine zk_icmp_neN hc 91 dX7_costOf_84 (by decide) (by have := hk f (mny u f - n + q) hf (by omega); omega) (by have := hk f (mny u f - n + q) hf (by omega); omega) (fun h2 => ?_) (fun h2 => ?_)
              · refine zk_iconst hc (nI 0) dX7_costOf_91 rfl ?_
                refine zk_ior hc dX7_costOf_92 ?_
                refine zk_top (y := nI x) (ior_0 (by omega)) ?_
                refine zk_istore hc (lv2 := [(5, .int (nI x)), (0, .ref (a 0)), (1, .int (nI f)), (2, .int (nI t)), (3, .int (nI n)), (4, .int (nI (mny u f))), (6, .int (nI (mny u f - n + q)))]) dX7_costOf_93 (by decide) rfl ?_
                refine zk_iinc hc (v := nI (mny u f - n + q + 1)) (lv2 := [(6, .int (nI (mny u f - n + q + 1))), (5, .int (nI x)), (0, .ref (a 0)), (1, .int (nI f)), (2, .int (nI t)), (3, .int (nI n)), (4, .int (nI (mny u f)))]) dX7_costOf_95 6 rfl (nq_inc rfl) (by decide) rfl ?_
                refine zk_goto hc 56 dX7_costOf_98 (by decide) ?_
                refine zk_lv [2, 3, 4, 5, 6, 1, 0] (lv2 := [(0, .ref (a 0)), (1, .int (nI f)), (2, .int (nI t)), (3, .int (nI n)), (4, .int (nI (mny u f))), (5, .int (nI x)), (6, .int (nI (mny u f - n + q + 1)))]) rfl ?_
                exact ih56 (q + 1) (va_up r (mny u t + q) (knd u f (mny u f - n + q))) x (by omega) (by omega) (by rw [show mny u t + (q + 1) = mny u t + q + 1 by omega, rowL_up, kdf_succ, hrr, List.append_assoc]) (by rw [kdf_succ]; rw [hx]; simp [Ne.symm h2]) (by omega)
              · refine zk_iconst hc (nI 1) dX7_costOf_87 rfl ?_
                refine zk_goto hc 92 dX7_costOf_88 (by decide) ?_
                refine zk_ior hc dX7_costOf_92 ?_
                refine zk_top (y := nI 1) (ior_1 (by omega)) ?_
                refine zk_istore hc (lv2 := [(5, .int (nI 1)), (0, .ref (a 0)), (1, .int (nI f)), (2, .int (nI t)), (3, .int (nI n)), (4, .int (nI (mny u f))), (6, .int (nI (mny u f - n + q)))]) dX7_costOf_93 (by decide) rfl ?_
                refine zk_iinc hc (v := nI (mny u f - n + q + 1)) (lv2 := [(6, .int (nI (mny u f - n + q + 1))), (5, .int (nI 1)), (0, .ref (a 0)), (1, .int (nI f)), (2, .int (nI t)), (3, .int (nI n)), (4, .int (nI (mny u f)))]) dX7_costOf_95 6 rfl (nq_inc rfl) (by decide) rfl ?_
                refine zk_goto hc 56 dX7_costOf_98 (by decide) ?_
                refine zk_lv [2, 3, 4, 5, 6, 1, 0] (lv2 := [(0, .ref (a 0)), (1, .int (nI f)), (2, .int (nI t)), (3, .int (nI n)), (4, .int (nI (mny u f))), (5, .int (nI 1)), (6, .int (nI (mny u f - n + q + 1)))]) rfl ?_
                exact ih56 (q + 1) (va_up r (mny u t + q) (knd u f (mny u f - n + q))) 1 (by omega) (by omega) (by rw [show mny u t + (q + 1) = mny u t + q + 1 by omega, rowL_up, kdf_succ, hrr, List.append_assoc]) (by rw [kdf_succ]; rw [if_pos (List.mem_append_right _ (by rw [h2]; exact List.mem_cons_self))]) (by omega)
        refine zk_lv [3, 4, 5, 6, 2, 1, 0] (lv2 := [(0, .ref (a 0)), (1, .int (nI f)), (2, .int (nI t)), (3, .int (nI n)), (4, .int (nI (mny u f))), (5, .int (nI 0)), (6, .int (nI ((mny u f) - n)))]) rfl ?_
        exact loop56 ((n - 0) + 1) 0 r_4 0 (Nat.lt_succ_self _) (Nat.zero_le _) (by simpa [kdf] using hr_5) (by simp [kdf]) (by decide)
      · exact absurd h_3 (by decide)
    · refine zk_top (y := nI 0) (if_neg hs1) ?_
      refine zk_if_neN hc 36 dX7_costOf_30 (by decide) (by omega) (fun h_9 => ?_) (fun h_9 => ?_)
      · exact absurd h_9 (by decide)
      · refine zk_bipush hc ((-2)) dX7_costOf_33 rfl ?_
        refine fin 0 0 _ _ _ _ (by decide) (by decide) dX7_costOf_35 (?_)
        exact ⟨by unfold costI; rw [if_neg (by omega), if_pos (hr_2 ▸ hs1)], _, _, rfl⟩
  · refine zk_bipush hc ((-2)) dX7_costOf_14 rfl ?_
    refine fin 0 0 _ _ _ _ (by decide) (by decide) dX7_costOf_16 (?_)
    exact ⟨by unfold costI; rw [if_pos (by omega)], _, _, rfl⟩
end
section
theorem i_vc : Claimed_1_1 ∧ Claimed_1_2 := sorry
end
