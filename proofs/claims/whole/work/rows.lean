section
-- ===== PART A: goes FIRST, ahead of the names: the tables' words, and 'selects' of the private methods out of them =====
/-- a private method of a class that the tables say can be made, by its rows of tables_1 -/
def lw_okq (q : MethodName × Nat) : Prop := (q.1.cls ≠ "java/lang/invoke/MethodHandle" ∧ q.1.cls ≠ "java/lang/invoke/VarHandle") ∧ Cond.instantiable q.1.cls q.2 ∈ tables_1 ∧ Cond.privateMethod q.1 ∈ tables_1 ∧ Cond.instanceMethod q.1 ∈ tables_1
theorem lw_p0 : lw_okq (⟨"SwapSteps$Lines", "readLine", "(LSwapSteps$Line;)Z"⟩, 4) := ⟨⟨by decide +kernel, by decide +kernel⟩, List.mem_of_getElem? (i := 77) (by decide +kernel), List.mem_of_getElem? (i := 369) (by decide +kernel), List.mem_of_getElem? (i := 370) (by decide +kernel)⟩
theorem lw_p1 : lw_okq (⟨"SwapSteps$Text", "byteAt", "(I)I"⟩, 4) := ⟨⟨by decide +kernel, by decide +kernel⟩, List.mem_of_getElem? (i := 58) (by decide +kernel), List.mem_of_getElem? (i := 377) (by decide +kernel), List.mem_of_getElem? (i := 378) (by decide +kernel)⟩
theorem lw_p2 : lw_okq (⟨"SwapSteps$Text", "isSmall", "(I)Z"⟩, 4) := ⟨⟨by decide +kernel, by decide +kernel⟩, List.mem_of_getElem? (i := 58) (by decide +kernel), List.mem_of_getElem? (i := 381) (by decide +kernel), List.mem_of_getElem? (i := 382) (by decide +kernel)⟩
theorem lw_p3 : lw_okq (⟨"SwapSteps$Text", "isDigit", "(I)Z"⟩, 4) := ⟨⟨by decide +kernel, by decide +kernel⟩, List.mem_of_getElem? (i := 58) (by decide +kernel), List.mem_of_getElem? (i := 385) (by decide +kernel), List.mem_of_getElem? (i := 386) (by decide +kernel)⟩
theorem lw_p4 : lw_okq (⟨"SwapSteps$Lines", "readPair", "(LSwapSteps$Line;I)Z"⟩, 4) := ⟨⟨by decide +kernel, by decide +kernel⟩, List.mem_of_getElem? (i := 77) (by decide +kernel), List.mem_of_getElem? (i := 446) (by decide +kernel), List.mem_of_getElem? (i := 447) (by decide +kernel)⟩
theorem lw_p5 : lw_okq (⟨"SwapSteps$Lines", "isOfLetters", "()Z"⟩, 4) := ⟨⟨by decide +kernel, by decide +kernel⟩, List.mem_of_getElem? (i := 77) (by decide +kernel), List.mem_of_getElem? (i := 451) (by decide +kernel), List.mem_of_getElem? (i := 452) (by decide +kernel)⟩
theorem lw_p6 : lw_okq (⟨"SwapSteps$Lines", "readLetters", "(LSwapSteps$Line;)Z"⟩, 4) := ⟨⟨by decide +kernel, by decide +kernel⟩, List.mem_of_getElem? (i := 77) (by decide +kernel), List.mem_of_getElem? (i := 469) (by decide +kernel), List.mem_of_getElem? (i := 470) (by decide +kernel)⟩
theorem lw_p7 : lw_okq (⟨"SwapSteps$Lines", "readHeap", "(LSwapSteps$Line;)Z"⟩, 4) := ⟨⟨by decide +kernel, by decide +kernel⟩, List.mem_of_getElem? (i := 77) (by decide +kernel), List.mem_of_getElem? (i := 478) (by decide +kernel), List.mem_of_getElem? (i := 479) (by decide +kernel)⟩
theorem lw_p8 : lw_okq (⟨"SwapSteps", "doLine", "(LSwapSteps$Line;)V"⟩, 11) := ⟨⟨by decide +kernel, by decide +kernel⟩, List.mem_of_getElem? (i := 22) (by decide +kernel), List.mem_of_getElem? (i := 500) (by decide +kernel), List.mem_of_getElem? (i := 501) (by decide +kernel)⟩
theorem lw_p9 : lw_okq (⟨"SwapSteps$Letters", "setBit", "(IIZ)V"⟩, 2) := ⟨⟨by decide +kernel, by decide +kernel⟩, List.mem_of_getElem? (i := 30) (by decide +kernel), List.mem_of_getElem? (i := 508) (by decide +kernel), List.mem_of_getElem? (i := 509) (by decide +kernel)⟩
theorem lw_p10 : lw_okq (⟨"SwapSteps", "startAnew", "(I)V"⟩, 11) := ⟨⟨by decide +kernel, by decide +kernel⟩, List.mem_of_getElem? (i := 22) (by decide +kernel), List.mem_of_getElem? (i := 516) (by decide +kernel), List.mem_of_getElem? (i := 517) (by decide +kernel)⟩
theorem lw_p11 : lw_okq (⟨"SwapSteps", "tellHeap", "(LSwapSteps$Line;)V"⟩, 11) := ⟨⟨by decide +kernel, by decide +kernel⟩, List.mem_of_getElem? (i := 22) (by decide +kernel), List.mem_of_getElem? (i := 531) (by decide +kernel), List.mem_of_getElem? (i := 532) (by decide +kernel)⟩
theorem lw_p12 : lw_okq (⟨"SwapSteps", "heapAt", "(I)LSwapSteps$Row;"⟩, 11) := ⟨⟨by decide +kernel, by decide +kernel⟩, List.mem_of_getElem? (i := 22) (by decide +kernel), List.mem_of_getElem? (i := 535) (by decide +kernel), List.mem_of_getElem? (i := 536) (by decide +kernel)⟩
theorem lw_p13 : lw_okq (⟨"SwapSteps$Heaps", "leastFrontPlace", "(LSwapSteps$Row;)I"⟩, 4) := ⟨⟨by decide +kernel, by decide +kernel⟩, List.mem_of_getElem? (i := 129) (by decide +kernel), List.mem_of_getElem? (i := 590) (by decide +kernel), List.mem_of_getElem? (i := 591) (by decide +kernel)⟩
theorem lw_p14 : lw_okq (⟨"SwapSteps$Heaps", "frontBits", "(LSwapSteps$Row;)I"⟩, 4) := ⟨⟨by decide +kernel, by decide +kernel⟩, List.mem_of_getElem? (i := 129) (by decide +kernel), List.mem_of_getElem? (i := 641) (by decide +kernel), List.mem_of_getElem? (i := 642) (by decide +kernel)⟩
theorem lw_p15 : lw_okq (⟨"SwapSteps$Heaps", "frontPlace", "(LSwapSteps$Row;I)I"⟩, 4) := ⟨⟨by decide +kernel, by decide +kernel⟩, List.mem_of_getElem? (i := 129) (by decide +kernel), List.mem_of_getElem? (i := 649) (by decide +kernel), List.mem_of_getElem? (i := 650) (by decide +kernel)⟩
def lw_privs_1 : List (MethodName × Nat) := [(⟨"SwapSteps$Lines", "readLine", "(LSwapSteps$Line;)Z"⟩, 4), (⟨"SwapSteps$Text", "byteAt", "(I)I"⟩, 4), (⟨"SwapSteps$Text", "isSmall", "(I)Z"⟩, 4), (⟨"SwapSteps$Text", "isDigit", "(I)Z"⟩, 4), (⟨"SwapSteps$Lines", "readPair", "(LSwapSteps$Line;I)Z"⟩, 4), (⟨"SwapSteps$Lines", "isOfLetters", "()Z"⟩, 4), (⟨"SwapSteps$Lines", "readLetters", "(LSwapSteps$Line;)Z"⟩, 4), (⟨"SwapSteps$Lines", "readHeap", "(LSwapSteps$Line;)Z"⟩, 4), (⟨"SwapSteps", "doLine", "(LSwapSteps$Line;)V"⟩, 11), (⟨"SwapSteps$Letters", "setBit", "(IIZ)V"⟩, 2), (⟨"SwapSteps", "startAnew", "(I)V"⟩, 11), (⟨"SwapSteps", "tellHeap", "(LSwapSteps$Line;)V"⟩, 11), (⟨"SwapSteps", "heapAt", "(I)LSwapSteps$Row;"⟩, 11), (⟨"SwapSteps$Heaps", "leastFrontPlace", "(LSwapSteps$Row;)I"⟩, 4), (⟨"SwapSteps$Heaps", "frontBits", "(LSwapSteps$Row;)I"⟩, 4), (⟨"SwapSteps$Heaps", "frontPlace", "(LSwapSteps$Row;I)I"⟩, 4)]
theorem lw_r1 : ∀ q ∈ lw_privs_1, lw_okq q := List.forall_mem_cons.mpr ⟨lw_p0, List.forall_mem_cons.mpr ⟨lw_p1, List.forall_mem_cons.mpr ⟨lw_p2, List.forall_mem_cons.mpr ⟨lw_p3, List.forall_mem_cons.mpr ⟨lw_p4, List.forall_mem_cons.mpr ⟨lw_p5, List.forall_mem_cons.mpr ⟨lw_p6, List.forall_mem_cons.mpr ⟨lw_p7, List.forall_mem_cons.mpr ⟨lw_p8, List.forall_mem_cons.mpr ⟨lw_p9, List.forall_mem_cons.mpr ⟨lw_p10, List.forall_mem_cons.mpr ⟨lw_p11, List.forall_mem_cons.mpr ⟨lw_p12, List.forall_mem_cons.mpr ⟨lw_p13, List.forall_mem_cons.mpr ⟨lw_p14, List.forall_mem_cons.mpr ⟨lw_p15, fun _ h => absurd h List.not_mem_nil⟩⟩⟩⟩⟩⟩⟩⟩⟩⟩⟩⟩⟩⟩⟩⟩
theorem lw_p16 : lw_okq (⟨"SwapSteps$Heaps", "takeOffAll", "(LSwapSteps$Row;I)V"⟩, 4) := ⟨⟨by decide +kernel, by decide +kernel⟩, List.mem_of_getElem? (i := 129) (by decide +kernel), List.mem_of_getElem? (i := 653) (by decide +kernel), List.mem_of_getElem? (i := 654) (by decide +kernel)⟩
theorem lw_p17 : lw_okq (⟨"SwapSteps$Beginnings", "measure", "(LSwapSteps$Row;)V"⟩, 10) := ⟨⟨by decide +kernel, by decide +kernel⟩, List.mem_of_getElem? (i := 171) (by decide +kernel), List.mem_of_getElem? (i := 678) (by decide +kernel), List.mem_of_getElem? (i := 679) (by decide +kernel)⟩
theorem lw_p18 : lw_okq (⟨"SwapSteps$Beginnings", "noteNeeds", "(LSwapSteps$Row;)V"⟩, 10) := ⟨⟨by decide +kernel, by decide +kernel⟩, List.mem_of_getElem? (i := 171) (by decide +kernel), List.mem_of_getElem? (i := 687) (by decide +kernel), List.mem_of_getElem? (i := 688) (by decide +kernel)⟩
theorem lw_p19 : lw_okq (⟨"SwapSteps$Beginnings", "noteNeed", "(II)V"⟩, 10) := ⟨⟨by decide +kernel, by decide +kernel⟩, List.mem_of_getElem? (i := 171) (by decide +kernel), List.mem_of_getElem? (i := 695) (by decide +kernel), List.mem_of_getElem? (i := 696) (by decide +kernel)⟩
theorem lw_p20 : lw_okq (⟨"SwapSteps$Beginnings", "startAtNone", "()V"⟩, 10) := ⟨⟨by decide +kernel, by decide +kernel⟩, List.mem_of_getElem? (i := 171) (by decide +kernel), List.mem_of_getElem? (i := 699) (by decide +kernel), List.mem_of_getElem? (i := 700) (by decide +kernel)⟩
theorem lw_p21 : lw_okq (⟨"SwapSteps$Beginnings", "reach", "(II)V"⟩, 10) := ⟨⟨by decide +kernel, by decide +kernel⟩, List.mem_of_getElem? (i := 171) (by decide +kernel), List.mem_of_getElem? (i := 703) (by decide +kernel), List.mem_of_getElem? (i := 704) (by decide +kernel)⟩
theorem lw_p22 : lw_okq (⟨"SwapSteps$Beginnings", "goOnFrom", "(I)I"⟩, 10) := ⟨⟨by decide +kernel, by decide +kernel⟩, List.mem_of_getElem? (i := 171) (by decide +kernel), List.mem_of_getElem? (i := 708) (by decide +kernel), List.mem_of_getElem? (i := 709) (by decide +kernel)⟩
theorem lw_p23 : lw_okq (⟨"SwapSteps$Beginnings", "isOpen", "(I)Z"⟩, 10) := ⟨⟨by decide +kernel, by decide +kernel⟩, List.mem_of_getElem? (i := 171) (by decide +kernel), List.mem_of_getElem? (i := 712) (by decide +kernel), List.mem_of_getElem? (i := 713) (by decide +kernel)⟩
theorem lw_p24 : lw_okq (⟨"SwapSteps$Beginnings", "stepCounts", "()V"⟩, 10) := ⟨⟨by decide +kernel, by decide +kernel⟩, List.mem_of_getElem? (i := 171) (by decide +kernel), List.mem_of_getElem? (i := 719) (by decide +kernel), List.mem_of_getElem? (i := 720) (by decide +kernel)⟩
theorem lw_p25 : lw_okq (⟨"SwapSteps$Pairs", "makeHeap", "(LSwapSteps$Row;LSwapSteps$Row;)I"⟩, 4) := ⟨⟨by decide +kernel, by decide +kernel⟩, List.mem_of_getElem? (i := 150) (by decide +kernel), List.mem_of_getElem? (i := 749) (by decide +kernel), List.mem_of_getElem? (i := 750) (by decide +kernel)⟩
theorem lw_p26 : lw_okq (⟨"SwapSteps$Pairs", "splitCommon", "(LSwapSteps$Row;LSwapSteps$Row;)V"⟩, 4) := ⟨⟨by decide +kernel, by decide +kernel⟩, List.mem_of_getElem? (i := 150) (by decide +kernel), List.mem_of_getElem? (i := 773) (by decide +kernel), List.mem_of_getElem? (i := 774) (by decide +kernel)⟩
theorem lw_p27 : lw_okq (⟨"SwapSteps$Pairs", "commonFront", "()I"⟩, 4) := ⟨⟨by decide +kernel, by decide +kernel⟩, List.mem_of_getElem? (i := 150) (by decide +kernel), List.mem_of_getElem? (i := 778) (by decide +kernel), List.mem_of_getElem? (i := 779) (by decide +kernel)⟩
theorem lw_p28 : lw_okq (⟨"SwapSteps$Pairs", "isAllFree", "(LSwapSteps$Row;LSwapSteps$Row;)Z"⟩, 4) := ⟨⟨by decide +kernel, by decide +kernel⟩, List.mem_of_getElem? (i := 150) (by decide +kernel), List.mem_of_getElem? (i := 797) (by decide +kernel), List.mem_of_getElem? (i := 798) (by decide +kernel)⟩
theorem lw_p29 : lw_okq (⟨"SwapSteps$Heaps", "hangTogether", "(II)I"⟩, 4) := ⟨⟨by decide +kernel, by decide +kernel⟩, List.mem_of_getElem? (i := 129) (by decide +kernel), List.mem_of_getElem? (i := 823) (by decide +kernel), List.mem_of_getElem? (i := 824) (by decide +kernel)⟩
theorem lw_p30 : lw_okq (⟨"SwapSteps$Heaps", "isPower", "(LSwapSteps$Row;I)Z"⟩, 4) := ⟨⟨by decide +kernel, by decide +kernel⟩, List.mem_of_getElem? (i := 129) (by decide +kernel), List.mem_of_getElem? (i := 835) (by decide +kernel), List.mem_of_getElem? (i := 836) (by decide +kernel)⟩
theorem lw_p31 : lw_okq (⟨"SwapSteps$Circle", "leastNumber", "(LSwapSteps$Row;)J"⟩, 7) := ⟨⟨by decide +kernel, by decide +kernel⟩, List.mem_of_getElem? (i := 211) (by decide +kernel), List.mem_of_getElem? (i := 852) (by decide +kernel), List.mem_of_getElem? (i := 853) (by decide +kernel)⟩
def lw_privs_2 : List (MethodName × Nat) := [(⟨"SwapSteps$Heaps", "takeOffAll", "(LSwapSteps$Row;I)V"⟩, 4), (⟨"SwapSteps$Beginnings", "measure", "(LSwapSteps$Row;)V"⟩, 10), (⟨"SwapSteps$Beginnings", "noteNeeds", "(LSwapSteps$Row;)V"⟩, 10), (⟨"SwapSteps$Beginnings", "noteNeed", "(II)V"⟩, 10), (⟨"SwapSteps$Beginnings", "startAtNone", "()V"⟩, 10), (⟨"SwapSteps$Beginnings", "reach", "(II)V"⟩, 10), (⟨"SwapSteps$Beginnings", "goOnFrom", "(I)I"⟩, 10), (⟨"SwapSteps$Beginnings", "isOpen", "(I)Z"⟩, 10), (⟨"SwapSteps$Beginnings", "stepCounts", "()V"⟩, 10), (⟨"SwapSteps$Pairs", "makeHeap", "(LSwapSteps$Row;LSwapSteps$Row;)I"⟩, 4), (⟨"SwapSteps$Pairs", "splitCommon", "(LSwapSteps$Row;LSwapSteps$Row;)V"⟩, 4), (⟨"SwapSteps$Pairs", "commonFront", "()I"⟩, 4), (⟨"SwapSteps$Pairs", "isAllFree", "(LSwapSteps$Row;LSwapSteps$Row;)Z"⟩, 4), (⟨"SwapSteps$Heaps", "hangTogether", "(II)I"⟩, 4), (⟨"SwapSteps$Heaps", "isPower", "(LSwapSteps$Row;I)Z"⟩, 4), (⟨"SwapSteps$Circle", "leastNumber", "(LSwapSteps$Row;)J"⟩, 7)]
theorem lw_r2 : ∀ q ∈ lw_privs_2, lw_okq q := List.forall_mem_cons.mpr ⟨lw_p16, List.forall_mem_cons.mpr ⟨lw_p17, List.forall_mem_cons.mpr ⟨lw_p18, List.forall_mem_cons.mpr ⟨lw_p19, List.forall_mem_cons.mpr ⟨lw_p20, List.forall_mem_cons.mpr ⟨lw_p21, List.forall_mem_cons.mpr ⟨lw_p22, List.forall_mem_cons.mpr ⟨lw_p23, List.forall_mem_cons.mpr ⟨lw_p24, List.forall_mem_cons.mpr ⟨lw_p25, List.forall_mem_cons.mpr ⟨lw_p26, List.forall_mem_cons.mpr ⟨lw_p27, List.forall_mem_cons.mpr ⟨lw_p28, List.forall_mem_cons.mpr ⟨lw_p29, List.forall_mem_cons.mpr ⟨lw_p30, List.forall_mem_cons.mpr ⟨lw_p31, fun _ h => absurd h List.not_mem_nil⟩⟩⟩⟩⟩⟩⟩⟩⟩⟩⟩⟩⟩⟩⟩⟩
theorem lw_p32 : lw_okq (⟨"SwapSteps$Circle", "keep", "(J)Z"⟩, 7) := ⟨⟨by decide +kernel, by decide +kernel⟩, List.mem_of_getElem? (i := 211) (by decide +kernel), List.mem_of_getElem? (i := 859) (by decide +kernel), List.mem_of_getElem? (i := 860) (by decide +kernel)⟩
theorem lw_p33 : lw_okq (⟨"SwapSteps$Circle", "slotOf", "(J)I"⟩, 7) := ⟨⟨by decide +kernel, by decide +kernel⟩, List.mem_of_getElem? (i := 211) (by decide +kernel), List.mem_of_getElem? (i := 863) (by decide +kernel), List.mem_of_getElem? (i := 864) (by decide +kernel)⟩
theorem lw_p34 : lw_okq (⟨"SwapSteps$Circle", "keepTurned", "(J)Z"⟩, 7) := ⟨⟨by decide +kernel, by decide +kernel⟩, List.mem_of_getElem? (i := 211) (by decide +kernel), List.mem_of_getElem? (i := 868) (by decide +kernel), List.mem_of_getElem? (i := 869) (by decide +kernel)⟩
theorem lw_p35 : lw_okq (⟨"SwapSteps$Letters", "goTogether", "(I)Z"⟩, 2) := ⟨⟨by decide +kernel, by decide +kernel⟩, List.mem_of_getElem? (i := 30) (by decide +kernel), List.mem_of_getElem? (i := 910) (by decide +kernel), List.mem_of_getElem? (i := 911) (by decide +kernel)⟩
theorem lw_p36 : lw_okq (⟨"SwapSteps$Order", "sumOverSets", "(I)J"⟩, 6) := ⟨⟨by decide +kernel, by decide +kernel⟩, List.mem_of_getElem? (i := 242) (by decide +kernel), List.mem_of_getElem? (i := 924) (by decide +kernel), List.mem_of_getElem? (i := 925) (by decide +kernel)⟩
theorem lw_p37 : lw_okq (⟨"SwapSteps$Order", "countFollowing", "(I)V"⟩, 6) := ⟨⟨by decide +kernel, by decide +kernel⟩, List.mem_of_getElem? (i := 242) (by decide +kernel), List.mem_of_getElem? (i := 940) (by decide +kernel), List.mem_of_getElem? (i := 941) (by decide +kernel)⟩
theorem lw_p38 : lw_okq (⟨"SwapSteps$Order", "sumFollowing", "(I)J"⟩, 6) := ⟨⟨by decide +kernel, by decide +kernel⟩, List.mem_of_getElem? (i := 242) (by decide +kernel), List.mem_of_getElem? (i := 946) (by decide +kernel), List.mem_of_getElem? (i := 947) (by decide +kernel)⟩
theorem lw_p39 : lw_okq (⟨"SwapSteps$Order", "howManyFollowLetter", "(II)J"⟩, 6) := ⟨⟨by decide +kernel, by decide +kernel⟩, List.mem_of_getElem? (i := 242) (by decide +kernel), List.mem_of_getElem? (i := 951) (by decide +kernel), List.mem_of_getElem? (i := 952) (by decide +kernel)⟩
theorem lw_p40 : lw_okq (⟨"SwapSteps$Order", "howManyFollow", "(II)J"⟩, 6) := ⟨⟨by decide +kernel, by decide +kernel⟩, List.mem_of_getElem? (i := 242) (by decide +kernel), List.mem_of_getElem? (i := 960) (by decide +kernel), List.mem_of_getElem? (i := 961) (by decide +kernel)⟩
theorem lw_p41 : lw_okq (⟨"SwapSteps$Order", "pickLetter", "(I)I"⟩, 6) := ⟨⟨by decide +kernel, by decide +kernel⟩, List.mem_of_getElem? (i := 242) (by decide +kernel), List.mem_of_getElem? (i := 964) (by decide +kernel), List.mem_of_getElem? (i := 965) (by decide +kernel)⟩
theorem lw_p42 : lw_okq (⟨"SwapSteps$Reader", "mindsPair", "(III)Z"⟩, 7) := ⟨⟨by decide +kernel, by decide +kernel⟩, List.mem_of_getElem? (i := 269) (by decide +kernel), List.mem_of_getElem? (i := 1013) (by decide +kernel), List.mem_of_getElem? (i := 1014) (by decide +kernel)⟩
theorem lw_p43 : lw_okq (⟨"SwapSteps$Reader", "goOnFrom", "(II)V"⟩, 7) := ⟨⟨by decide +kernel, by decide +kernel⟩, List.mem_of_getElem? (i := 269) (by decide +kernel), List.mem_of_getElem? (i := 1042) (by decide +kernel), List.mem_of_getElem? (i := 1043) (by decide +kernel)⟩
theorem lw_p44 : lw_okq (⟨"SwapSteps$Reader", "sumTaken", "()I"⟩, 7) := ⟨⟨by decide +kernel, by decide +kernel⟩, List.mem_of_getElem? (i := 269) (by decide +kernel), List.mem_of_getElem? (i := 1048) (by decide +kernel), List.mem_of_getElem? (i := 1049) (by decide +kernel)⟩
theorem lw_p45 : lw_okq (⟨"SwapStepsModel", "isRead", "()Z"⟩, 35) := ⟨⟨by decide +kernel, by decide +kernel⟩, List.mem_of_getElem? (i := 1062) (by decide +kernel), List.mem_of_getElem? (i := 1192) (by decide +kernel), List.mem_of_getElem? (i := 1193) (by decide +kernel)⟩
theorem lw_p46 : lw_okq (⟨"SwapStepsModel", "isLine", "(I)Z"⟩, 35) := ⟨⟨by decide +kernel, by decide +kernel⟩, List.mem_of_getElem? (i := 1062) (by decide +kernel), List.mem_of_getElem? (i := 1196) (by decide +kernel), List.mem_of_getElem? (i := 1197) (by decide +kernel)⟩
theorem lw_p47 : lw_okq (⟨"SwapStepsModel", "nextToken", "()V"⟩, 35) := ⟨⟨by decide +kernel, by decide +kernel⟩, List.mem_of_getElem? (i := 1062) (by decide +kernel), List.mem_of_getElem? (i := 1200) (by decide +kernel), List.mem_of_getElem? (i := 1201) (by decide +kernel)⟩
def lw_privs_3 : List (MethodName × Nat) := [(⟨"SwapSteps$Circle", "keep", "(J)Z"⟩, 7), (⟨"SwapSteps$Circle", "slotOf", "(J)I"⟩, 7), (⟨"SwapSteps$Circle", "keepTurned", "(J)Z"⟩, 7), (⟨"SwapSteps$Letters", "goTogether", "(I)Z"⟩, 2), (⟨"SwapSteps$Order", "sumOverSets", "(I)J"⟩, 6), (⟨"SwapSteps$Order", "countFollowing", "(I)V"⟩, 6), (⟨"SwapSteps$Order", "sumFollowing", "(I)J"⟩, 6), (⟨"SwapSteps$Order", "howManyFollowLetter", "(II)J"⟩, 6), (⟨"SwapSteps$Order", "howManyFollow", "(II)J"⟩, 6), (⟨"SwapSteps$Order", "pickLetter", "(I)I"⟩, 6), (⟨"SwapSteps$Reader", "mindsPair", "(III)Z"⟩, 7), (⟨"SwapSteps$Reader", "goOnFrom", "(II)V"⟩, 7), (⟨"SwapSteps$Reader", "sumTaken", "()I"⟩, 7), (⟨"SwapStepsModel", "isRead", "()Z"⟩, 35), (⟨"SwapStepsModel", "isLine", "(I)Z"⟩, 35), (⟨"SwapStepsModel", "nextToken", "()V"⟩, 35)]
theorem lw_r3 : ∀ q ∈ lw_privs_3, lw_okq q := List.forall_mem_cons.mpr ⟨lw_p32, List.forall_mem_cons.mpr ⟨lw_p33, List.forall_mem_cons.mpr ⟨lw_p34, List.forall_mem_cons.mpr ⟨lw_p35, List.forall_mem_cons.mpr ⟨lw_p36, List.forall_mem_cons.mpr ⟨lw_p37, List.forall_mem_cons.mpr ⟨lw_p38, List.forall_mem_cons.mpr ⟨lw_p39, List.forall_mem_cons.mpr ⟨lw_p40, List.forall_mem_cons.mpr ⟨lw_p41, List.forall_mem_cons.mpr ⟨lw_p42, List.forall_mem_cons.mpr ⟨lw_p43, List.forall_mem_cons.mpr ⟨lw_p44, List.forall_mem_cons.mpr ⟨lw_p45, List.forall_mem_cons.mpr ⟨lw_p46, List.forall_mem_cons.mpr ⟨lw_p47, fun _ h => absurd h List.not_mem_nil⟩⟩⟩⟩⟩⟩⟩⟩⟩⟩⟩⟩⟩⟩⟩⟩
theorem lw_p48 : lw_okq (⟨"SwapStepsModel", "word", "()J"⟩, 35) := ⟨⟨by decide +kernel, by decide +kernel⟩, List.mem_of_getElem? (i := 1062) (by decide +kernel), List.mem_of_getElem? (i := 1207) (by decide +kernel), List.mem_of_getElem? (i := 1208) (by decide +kernel)⟩
theorem lw_p49 : lw_okq (⟨"SwapStepsModel", "fails", "()Z"⟩, 35) := ⟨⟨by decide +kernel, by decide +kernel⟩, List.mem_of_getElem? (i := 1062) (by decide +kernel), List.mem_of_getElem? (i := 1217) (by decide +kernel), List.mem_of_getElem? (i := 1218) (by decide +kernel)⟩
theorem lw_p50 : lw_okq (⟨"SwapStepsModel", "isOfLetters", "()Z"⟩, 35) := ⟨⟨by decide +kernel, by decide +kernel⟩, List.mem_of_getElem? (i := 1062) (by decide +kernel), List.mem_of_getElem? (i := 1221) (by decide +kernel), List.mem_of_getElem? (i := 1222) (by decide +kernel)⟩
theorem lw_p51 : lw_okq (⟨"SwapStepsModel", "isNumber", "(III)Z"⟩, 35) := ⟨⟨by decide +kernel, by decide +kernel⟩, List.mem_of_getElem? (i := 1062) (by decide +kernel), List.mem_of_getElem? (i := 1225) (by decide +kernel), List.mem_of_getElem? (i := 1226) (by decide +kernel)⟩
theorem lw_p52 : lw_okq (⟨"SwapStepsModel", "doLine", "(I)V"⟩, 35) := ⟨⟨by decide +kernel, by decide +kernel⟩, List.mem_of_getElem? (i := 1062) (by decide +kernel), List.mem_of_getElem? (i := 1235) (by decide +kernel), List.mem_of_getElem? (i := 1236) (by decide +kernel)⟩
theorem lw_p53 : lw_okq (⟨"SwapStepsModel", "tell", "(IIZ)V"⟩, 35) := ⟨⟨by decide +kernel, by decide +kernel⟩, List.mem_of_getElem? (i := 1062) (by decide +kernel), List.mem_of_getElem? (i := 1239) (by decide +kernel), List.mem_of_getElem? (i := 1240) (by decide +kernel)⟩
theorem lw_p54 : lw_okq (⟨"SwapStepsModel", "isLetter", "(I)Z"⟩, 35) := ⟨⟨by decide +kernel, by decide +kernel⟩, List.mem_of_getElem? (i := 1062) (by decide +kernel), List.mem_of_getElem? (i := 1247) (by decide +kernel), List.mem_of_getElem? (i := 1248) (by decide +kernel)⟩
theorem lw_p55 : lw_okq (⟨"SwapStepsModel", "areFree", "(II)Z"⟩, 35) := ⟨⟨by decide +kernel, by decide +kernel⟩, List.mem_of_getElem? (i := 1062) (by decide +kernel), List.mem_of_getElem? (i := 1251) (by decide +kernel), List.mem_of_getElem? (i := 1252) (by decide +kernel)⟩
theorem lw_p56 : lw_okq (⟨"SwapStepsModel", "take", "(I[I)V"⟩, 35) := ⟨⟨by decide +kernel, by decide +kernel⟩, List.mem_of_getElem? (i := 1062) (by decide +kernel), List.mem_of_getElem? (i := 1270) (by decide +kernel), List.mem_of_getElem? (i := 1271) (by decide +kernel)⟩
theorem lw_p57 : lw_okq (⟨"SwapStepsModel", "makeLeastOf", "([II)I"⟩, 35) := ⟨⟨by decide +kernel, by decide +kernel⟩, List.mem_of_getElem? (i := 1062) (by decide +kernel), List.mem_of_getElem? (i := 1274) (by decide +kernel), List.mem_of_getElem? (i := 1275) (by decide +kernel)⟩
theorem lw_p58 : lw_okq (⟨"SwapStepsModel", "putAllOn", "(I)V"⟩, 35) := ⟨⟨by decide +kernel, by decide +kernel⟩, List.mem_of_getElem? (i := 1062) (by decide +kernel), List.mem_of_getElem? (i := 1278) (by decide +kernel), List.mem_of_getElem? (i := 1279) (by decide +kernel)⟩
theorem lw_p59 : lw_okq (⟨"SwapStepsModel", "makeLeast", "([II)I"⟩, 35) := ⟨⟨by decide +kernel, by decide +kernel⟩, List.mem_of_getElem? (i := 1062) (by decide +kernel), List.mem_of_getElem? (i := 1282) (by decide +kernel), List.mem_of_getElem? (i := 1283) (by decide +kernel)⟩
theorem lw_p60 : lw_okq (⟨"SwapStepsModel", "firstOf", "([III)I"⟩, 35) := ⟨⟨by decide +kernel, by decide +kernel⟩, List.mem_of_getElem? (i := 1062) (by decide +kernel), List.mem_of_getElem? (i := 1286) (by decide +kernel), List.mem_of_getElem? (i := 1287) (by decide +kernel)⟩
theorem lw_p61 : lw_okq (⟨"SwapStepsModel", "apartOf", "(II)I"⟩, 35) := ⟨⟨by decide +kernel, by decide +kernel⟩, List.mem_of_getElem? (i := 1062) (by decide +kernel), List.mem_of_getElem? (i := 1294) (by decide +kernel), List.mem_of_getElem? (i := 1295) (by decide +kernel)⟩
theorem lw_p62 : lw_okq (⟨"SwapStepsModel", "areLooksAlike", "(IIII)Z"⟩, 35) := ⟨⟨by decide +kernel, by decide +kernel⟩, List.mem_of_getElem? (i := 1062) (by decide +kernel), List.mem_of_getElem? (i := 1298) (by decide +kernel), List.mem_of_getElem? (i := 1299) (by decide +kernel)⟩
theorem lw_p63 : lw_okq (⟨"SwapStepsModel", "findBeginnings", "(I)V"⟩, 35) := ⟨⟨by decide +kernel, by decide +kernel⟩, List.mem_of_getElem? (i := 1062) (by decide +kernel), List.mem_of_getElem? (i := 1318) (by decide +kernel), List.mem_of_getElem? (i := 1319) (by decide +kernel)⟩
def lw_privs_4 : List (MethodName × Nat) := [(⟨"SwapStepsModel", "word", "()J"⟩, 35), (⟨"SwapStepsModel", "fails", "()Z"⟩, 35), (⟨"SwapStepsModel", "isOfLetters", "()Z"⟩, 35), (⟨"SwapStepsModel", "isNumber", "(III)Z"⟩, 35), (⟨"SwapStepsModel", "doLine", "(I)V"⟩, 35), (⟨"SwapStepsModel", "tell", "(IIZ)V"⟩, 35), (⟨"SwapStepsModel", "isLetter", "(I)Z"⟩, 35), (⟨"SwapStepsModel", "areFree", "(II)Z"⟩, 35), (⟨"SwapStepsModel", "take", "(I[I)V"⟩, 35), (⟨"SwapStepsModel", "makeLeastOf", "([II)I"⟩, 35), (⟨"SwapStepsModel", "putAllOn", "(I)V"⟩, 35), (⟨"SwapStepsModel", "makeLeast", "([II)I"⟩, 35), (⟨"SwapStepsModel", "firstOf", "([III)I"⟩, 35), (⟨"SwapStepsModel", "apartOf", "(II)I"⟩, 35), (⟨"SwapStepsModel", "areLooksAlike", "(IIII)Z"⟩, 35), (⟨"SwapStepsModel", "findBeginnings", "(I)V"⟩, 35)]
theorem lw_r4 : ∀ q ∈ lw_privs_4, lw_okq q := List.forall_mem_cons.mpr ⟨lw_p48, List.forall_mem_cons.mpr ⟨lw_p49, List.forall_mem_cons.mpr ⟨lw_p50, List.forall_mem_cons.mpr ⟨lw_p51, List.forall_mem_cons.mpr ⟨lw_p52, List.forall_mem_cons.mpr ⟨lw_p53, List.forall_mem_cons.mpr ⟨lw_p54, List.forall_mem_cons.mpr ⟨lw_p55, List.forall_mem_cons.mpr ⟨lw_p56, List.forall_mem_cons.mpr ⟨lw_p57, List.forall_mem_cons.mpr ⟨lw_p58, List.forall_mem_cons.mpr ⟨lw_p59, List.forall_mem_cons.mpr ⟨lw_p60, List.forall_mem_cons.mpr ⟨lw_p61, List.forall_mem_cons.mpr ⟨lw_p62, List.forall_mem_cons.mpr ⟨lw_p63, fun _ h => absurd h List.not_mem_nil⟩⟩⟩⟩⟩⟩⟩⟩⟩⟩⟩⟩⟩⟩⟩⟩
theorem lw_p64 : lw_okq (⟨"SwapStepsModel", "placeOf", "(I)I"⟩, 35) := ⟨⟨by decide +kernel, by decide +kernel⟩, List.mem_of_getElem? (i := 1062) (by decide +kernel), List.mem_of_getElem? (i := 1322) (by decide +kernel), List.mem_of_getElem? (i := 1323) (by decide +kernel)⟩
theorem lw_p65 : lw_okq (⟨"SwapStepsModel", "mayCome", "(II)Z"⟩, 35) := ⟨⟨by decide +kernel, by decide +kernel⟩, List.mem_of_getElem? (i := 1062) (by decide +kernel), List.mem_of_getElem? (i := 1328) (by decide +kernel), List.mem_of_getElem? (i := 1329) (by decide +kernel)⟩
theorem lw_p66 : lw_okq (⟨"SwapStepsModel", "keep", "(II)I"⟩, 35) := ⟨⟨by decide +kernel, by decide +kernel⟩, List.mem_of_getElem? (i := 1062) (by decide +kernel), List.mem_of_getElem? (i := 1343) (by decide +kernel), List.mem_of_getElem? (i := 1344) (by decide +kernel)⟩
theorem lw_p67 : lw_okq (⟨"SwapStepsModel", "share", "(II)I"⟩, 35) := ⟨⟨by decide +kernel, by decide +kernel⟩, List.mem_of_getElem? (i := 1062) (by decide +kernel), List.mem_of_getElem? (i := 1355) (by decide +kernel), List.mem_of_getElem? (i := 1356) (by decide +kernel)⟩
theorem lw_p68 : lw_okq (⟨"SwapStepsModel", "isTimes", "(II)Z"⟩, 35) := ⟨⟨by decide +kernel, by decide +kernel⟩, List.mem_of_getElem? (i := 1062) (by decide +kernel), List.mem_of_getElem? (i := 1375) (by decide +kernel), List.mem_of_getElem? (i := 1376) (by decide +kernel)⟩
theorem lw_p69 : lw_okq (⟨"SwapStepsModel", "findCircle", "(I)V"⟩, 35) := ⟨⟨by decide +kernel, by decide +kernel⟩, List.mem_of_getElem? (i := 1062) (by decide +kernel), List.mem_of_getElem? (i := 1383) (by decide +kernel), List.mem_of_getElem? (i := 1384) (by decide +kernel)⟩
theorem lw_p70 : lw_okq (⟨"SwapStepsModel", "keyOf", "([II)J"⟩, 35) := ⟨⟨by decide +kernel, by decide +kernel⟩, List.mem_of_getElem? (i := 1062) (by decide +kernel), List.mem_of_getElem? (i := 1387) (by decide +kernel), List.mem_of_getElem? (i := 1388) (by decide +kernel)⟩
theorem lw_p71 : lw_okq (⟨"SwapStepsModel", "isMetIn", "(J)Z"⟩, 35) := ⟨⟨by decide +kernel, by decide +kernel⟩, List.mem_of_getElem? (i := 1062) (by decide +kernel), List.mem_of_getElem? (i := 1392) (by decide +kernel), List.mem_of_getElem? (i := 1393) (by decide +kernel)⟩
theorem lw_p72 : lw_okq (⟨"SwapStepsModel", "togetherOf", "(I)I"⟩, 35) := ⟨⟨by decide +kernel, by decide +kernel⟩, List.mem_of_getElem? (i := 1062) (by decide +kernel), List.mem_of_getElem? (i := 1404) (by decide +kernel), List.mem_of_getElem? (i := 1405) (by decide +kernel)⟩
theorem lw_p73 : lw_okq (⟨"SwapStepsModel", "findExact", "(I)V"⟩, 35) := ⟨⟨by decide +kernel, by decide +kernel⟩, List.mem_of_getElem? (i := 1062) (by decide +kernel), List.mem_of_getElem? (i := 1416) (by decide +kernel), List.mem_of_getElem? (i := 1417) (by decide +kernel)⟩
theorem lw_p74 : lw_okq (⟨"SwapStepsModel", "barred", "(II)I"⟩, 35) := ⟨⟨by decide +kernel, by decide +kernel⟩, List.mem_of_getElem? (i := 1062) (by decide +kernel), List.mem_of_getElem? (i := 1420) (by decide +kernel), List.mem_of_getElem? (i := 1421) (by decide +kernel)⟩
def lw_privs_5 : List (MethodName × Nat) := [(⟨"SwapStepsModel", "placeOf", "(I)I"⟩, 35), (⟨"SwapStepsModel", "mayCome", "(II)Z"⟩, 35), (⟨"SwapStepsModel", "keep", "(II)I"⟩, 35), (⟨"SwapStepsModel", "share", "(II)I"⟩, 35), (⟨"SwapStepsModel", "isTimes", "(II)Z"⟩, 35), (⟨"SwapStepsModel", "findCircle", "(I)V"⟩, 35), (⟨"SwapStepsModel", "keyOf", "([II)J"⟩, 35), (⟨"SwapStepsModel", "isMetIn", "(J)Z"⟩, 35), (⟨"SwapStepsModel", "togetherOf", "(I)I"⟩, 35), (⟨"SwapStepsModel", "findExact", "(I)V"⟩, 35), (⟨"SwapStepsModel", "barred", "(II)I"⟩, 35)]
theorem lw_r5 : ∀ q ∈ lw_privs_5, lw_okq q := List.forall_mem_cons.mpr ⟨lw_p64, List.forall_mem_cons.mpr ⟨lw_p65, List.forall_mem_cons.mpr ⟨lw_p66, List.forall_mem_cons.mpr ⟨lw_p67, List.forall_mem_cons.mpr ⟨lw_p68, List.forall_mem_cons.mpr ⟨lw_p69, List.forall_mem_cons.mpr ⟨lw_p70, List.forall_mem_cons.mpr ⟨lw_p71, List.forall_mem_cons.mpr ⟨lw_p72, List.forall_mem_cons.mpr ⟨lw_p73, List.forall_mem_cons.mpr ⟨lw_p74, fun _ h => absurd h List.not_mem_nil⟩⟩⟩⟩⟩⟩⟩⟩⟩⟩⟩
def lw_privs : List (MethodName × Nat) := lw_privs_1 ++ (lw_privs_2 ++ (lw_privs_3 ++ (lw_privs_4 ++ (lw_privs_5))))
def lw_tbl : List Cond := k2_sels lw_privs ++ tables_1
theorem lw_privs_ok : ∀ q ∈ lw_privs, lw_okq q := by
  show ∀ q ∈ lw_privs_1 ++ (lw_privs_2 ++ (lw_privs_3 ++ (lw_privs_4 ++ (lw_privs_5)))), lw_okq q
  exact List.forall_mem_append.mpr ⟨lw_r1, List.forall_mem_append.mpr ⟨lw_r2, List.forall_mem_append.mpr ⟨lw_r3, List.forall_mem_append.mpr ⟨lw_r4, lw_r5⟩⟩⟩⟩
-- ===== end of PART A; then your names; then what follows =====
end
section
theorem goodIn_r {big : List Cond} (ws : List Cond) (ps : List Nat) (hp : ws = ps.filterMap (fun i => big[i]?)) (h : ws.all goodWord = true) : GoodIn big ws := by
  intro w hw
  have h1 := List.all_eq_true.mp h w hw
  rw [hp] at hw
  obtain ⟨i, -, hi⟩ := List.mem_filterMap.mp hw
  have hm : w ∈ big := by first | exact List.mem_of_getElem? hi | exact List.getElem?_mem hi
  exact ⟨hm, good_of_word h1⟩
theorem goodIn_app {big a b : List Cond} (ha : GoodIn big a) (hb : GoodIn big b) : GoodIn big (a ++ b) := fun w h => (List.mem_append.mp h).elim (ha w) (hb w)
theorem goodIn_ca {big a b : List Cond} {c : Cond} (ha : GoodIn big (c :: a)) (hb : GoodIn big b) : GoodIn big (c :: (a ++ b)) := fun w h => (List.mem_cons.mp h).elim (fun e => ha w (List.mem_cons.mpr (Or.inl e))) (fun h => (List.mem_append.mp h).elim (fun h => ha w (List.mem_cons.mpr (Or.inr h))) (hb w))
theorem goodIn_sub {big ws : List Cond} (hm : ∀ w ∈ ws, w ∈ big) (h : ws.all goodWord = true) : GoodIn big ws := fun w hw => ⟨hm w hw, good_of_word (List.all_eq_true.mp h w hw)⟩
def RX0 : String := "SwapSteps$Beginnings"
def TX0 : u_T := fun k => match k with
  | 0 => ("SwapSteps$Beginnings", "letters", "LSwapSteps$Letters;", true)
  | 1 => ("SwapSteps$Beginnings", "reached", "[B", true)
  | 2 => ("SwapSteps$Beginnings", "waysTo", "[I", true)
  | 3 => ("SwapSteps$Beginnings", "most", "[I", true)
  | 4 => ("SwapSteps$Beginnings", "stride", "[I", true)
  | 5 => ("SwapSteps$Beginnings", "counts", "[I", true)
  | 6 => ("SwapSteps$Beginnings", "needs", "[[I", true)
  | 7 => ("SwapSteps$Beginnings", "size", "I", false)
  | 8 => ("SwapSteps$Beginnings", "found", "I", false)
  | _ => ("SwapSteps$Beginnings", "wide", "I", false)
def tyX0 : Nat → FieldType := fun k => match k with
  | 0 => .object "SwapSteps$Letters"
  | 1 => .array .byte
  | 2 => .array .int
  | 3 => .array .int
  | 4 => .array .int
  | 5 => .array .int
  | 6 => .array (.array .int)
  | 7 => .int
  | 8 => .int
  | _ => .int
abbrev wsX00 : List Cond := u_ws RX0 TX0 10
theorem nmX0 : ∀ a, a < 10 → ∀ b, b < 10 → a ≠ b → (TX0 a).2.1 ≠ (TX0 b).2.1 := by decide +kernel
theorem tyX0_ok : ∀ k, k < 10 → parseFieldDescriptor (TX0 k).2.2.1 = some (tyX0 k) := by decide +kernel
abbrev cX0_init : ByteArray := prog_2_method_1_code
def yX0_init : MethodName := ⟨RX0, "<init>", "(LSwapSteps$Letters;)V"⟩
abbrev cX0_found : ByteArray := prog_2_method_2_code
def yX0_found : MethodName := ⟨RX0, "found", "()I"⟩
abbrev cX0_ways : ByteArray := prog_2_method_3_code
def yX0_ways : MethodName := ⟨RX0, "ways", "()I"⟩
abbrev cX0_wide : ByteArray := prog_2_method_4_code
def yX0_wide : MethodName := ⟨RX0, "wide", "()I"⟩
abbrev cX0_find : ByteArray := prog_2_method_5_code
def yX0_find : MethodName := ⟨RX0, "find", "(LSwapSteps$Row;)Z"⟩
abbrev cX0_startAtNone : ByteArray := prog_2_method_6_code
def yX0_startAtNone : MethodName := ⟨RX0, "startAtNone", "()V"⟩
abbrev cX0_measure : ByteArray := prog_2_method_7_code
def yX0_measure : MethodName := ⟨RX0, "measure", "(LSwapSteps$Row;)V"⟩
abbrev cX0_noteNeeds : ByteArray := prog_2_method_8_code
def yX0_noteNeeds : MethodName := ⟨RX0, "noteNeeds", "(LSwapSteps$Row;)V"⟩
abbrev cX0_noteNeed : ByteArray := prog_2_method_9_code
def yX0_noteNeed : MethodName := ⟨RX0, "noteNeed", "(II)V"⟩
abbrev cX0_goOnFrom : ByteArray := prog_2_method_10_code
def yX0_goOnFrom : MethodName := ⟨RX0, "goOnFrom", "(I)I"⟩
abbrev cX0_isOpen : ByteArray := prog_2_method_11_code
def yX0_isOpen : MethodName := ⟨RX0, "isOpen", "(I)Z"⟩
abbrev cX0_reach : ByteArray := prog_2_method_12_code
def yX0_reach : MethodName := ⟨RX0, "reach", "(II)V"⟩
abbrev cX0_stepCounts : ByteArray := prog_2_method_13_code
def yX0_stepCounts : MethodName := ⟨RX0, "stepCounts", "()V"⟩
def RX1 : String := "SwapSteps$Circle"
def TX1 : u_T := fun k => match k with
  | 0 => ("SwapSteps$Circle", "letters", "LSwapSteps$Letters;", true)
  | 1 => ("SwapSteps$Circle", "heaps", "LSwapSteps$Heaps;", true)
  | 2 => ("SwapSteps$Circle", "numbers", "[J", true)
  | 3 => ("SwapSteps$Circle", "slots", "[J", true)
  | 4 => ("SwapSteps$Circle", "start", "LSwapSteps$Row;", true)
  | 5 => ("SwapSteps$Circle", "next", "LSwapSteps$Row;", true)
  | _ => ("SwapSteps$Circle", "found", "I", false)
def tyX1 : Nat → FieldType := fun k => match k with
  | 0 => .object "SwapSteps$Letters"
  | 1 => .object "SwapSteps$Heaps"
  | 2 => .array .long
  | 3 => .array .long
  | 4 => .object "SwapSteps$Row"
  | 5 => .object "SwapSteps$Row"
  | _ => .int
abbrev wsX10 : List Cond := u_ws RX1 TX1 7
theorem nmX1 : ∀ a, a < 7 → ∀ b, b < 7 → a ≠ b → (TX1 a).2.1 ≠ (TX1 b).2.1 := by decide +kernel
theorem tyX1_ok : ∀ k, k < 7 → parseFieldDescriptor (TX1 k).2.2.1 = some (tyX1 k) := by decide +kernel
abbrev cX1_init : ByteArray := prog_3_method_1_code
def yX1_init : MethodName := ⟨RX1, "<init>", "(LSwapSteps$Letters;LSwapSteps$Heaps;)V"⟩
abbrev cX1_found : ByteArray := prog_3_method_2_code
def yX1_found : MethodName := ⟨RX1, "found", "()I"⟩
abbrev cX1_find : ByteArray := prog_3_method_3_code
def yX1_find : MethodName := ⟨RX1, "find", "(LSwapSteps$Row;)Z"⟩
abbrev cX1_holds : ByteArray := prog_3_method_4_code
def yX1_holds : MethodName := ⟨RX1, "holds", "(LSwapSteps$Row;)Z"⟩
abbrev cX1_keepTurned : ByteArray := prog_3_method_5_code
def yX1_keepTurned : MethodName := ⟨RX1, "keepTurned", "(J)Z"⟩
abbrev cX1_keep : ByteArray := prog_3_method_6_code
def yX1_keep : MethodName := ⟨RX1, "keep", "(J)Z"⟩
abbrev cX1_slotOf : ByteArray := prog_3_method_7_code
def yX1_slotOf : MethodName := ⟨RX1, "slotOf", "(J)I"⟩
abbrev cX1_leastNumber : ByteArray := prog_3_method_8_code
def yX1_leastNumber : MethodName := ⟨RX1, "leastNumber", "(LSwapSteps$Row;)J"⟩
abbrev cX1_setRow : ByteArray := prog_3_method_9_code
def yX1_setRow : MethodName := ⟨RX1, "setRow", "(LSwapSteps$Row;J)V"⟩
def RX2 : String := "SwapSteps$Heaps"
def TX2 : u_T := fun k => match k with
  | 0 => ("SwapSteps$Heaps", "letters", "LSwapSteps$Letters;", true)
  | 1 => ("SwapSteps$Heaps", "rest", "LSwapSteps$Row;", true)
  | 2 => ("SwapSteps$Heaps", "piece", "LSwapSteps$Row;", true)
  | _ => ("SwapSteps$Heaps", "power", "LSwapSteps$Row;", true)
def tyX2 : Nat → FieldType := fun k => match k with
  | 0 => .object "SwapSteps$Letters"
  | 1 => .object "SwapSteps$Row"
  | 2 => .object "SwapSteps$Row"
  | _ => .object "SwapSteps$Row"
abbrev wsX20 : List Cond := u_ws RX2 TX2 4
theorem nmX2 : ∀ a, a < 4 → ∀ b, b < 4 → a ≠ b → (TX2 a).2.1 ≠ (TX2 b).2.1 := by decide +kernel
theorem tyX2_ok : ∀ k, k < 4 → parseFieldDescriptor (TX2 k).2.2.1 = some (tyX2 k) := by decide +kernel
abbrev cX2_init : ByteArray := prog_4_method_1_code
def yX2_init : MethodName := ⟨RX2, "<init>", "(LSwapSteps$Letters;)V"⟩
abbrev cX2_letters : ByteArray := prog_4_method_2_code
def yX2_letters : MethodName := ⟨RX2, "letters", "()LSwapSteps$Letters;"⟩
abbrev cX2_frontPlace : ByteArray := prog_4_method_3_code
def yX2_frontPlace : MethodName := ⟨RX2, "frontPlace", "(LSwapSteps$Row;I)I"⟩
abbrev cX2_canTakeOff : ByteArray := prog_4_method_4_code
def yX2_canTakeOff : MethodName := ⟨RX2, "canTakeOff", "(LSwapSteps$Row;I)Z"⟩
abbrev cX2_takeOff : ByteArray := prog_4_method_5_code
def yX2_takeOff : MethodName := ⟨RX2, "takeOff", "(LSwapSteps$Row;I)Z"⟩
abbrev cX2_makeLeast : ByteArray := prog_4_method_6_code
def yX2_makeLeast : MethodName := ⟨RX2, "makeLeast", "(LSwapSteps$Row;LSwapSteps$Row;)V"⟩
abbrev cX2_leastFrontPlace : ByteArray := prog_4_method_7_code
def yX2_leastFrontPlace : MethodName := ⟨RX2, "leastFrontPlace", "(LSwapSteps$Row;)I"⟩
abbrev cX2_areOne : ByteArray := prog_4_method_8_code
def yX2_areOne : MethodName := ⟨RX2, "areOne", "(LSwapSteps$Row;LSwapSteps$Row;)Z"⟩
abbrev cX2_firstUnlikeLook : ByteArray := prog_4_method_9_code
def yX2_firstUnlikeLook : MethodName := ⟨RX2, "firstUnlikeLook", "(LSwapSteps$Row;LSwapSteps$Row;)I"⟩
abbrev cX2_lookAlike : ByteArray := prog_4_method_10_code
def yX2_lookAlike : MethodName := ⟨RX2, "lookAlike", "(LSwapSteps$Row;LSwapSteps$Row;I)Z"⟩
abbrev cX2_nextSeen : ByteArray := prog_4_method_11_code
def yX2_nextSeen : MethodName := ⟨RX2, "nextSeen", "(LSwapSteps$Row;II)I"⟩
abbrev cX2_layerBits : ByteArray := prog_4_method_12_code
def yX2_layerBits : MethodName := ⟨RX2, "layerBits", "(LSwapSteps$Row;I)I"⟩
abbrev cX2_frontBits : ByteArray := prog_4_method_13_code
def yX2_frontBits : MethodName := ⟨RX2, "frontBits", "(LSwapSteps$Row;)I"⟩
abbrev cX2_takeOffAll : ByteArray := prog_4_method_14_code
def yX2_takeOffAll : MethodName := ⟨RX2, "takeOffAll", "(LSwapSteps$Row;I)V"⟩
abbrev cX2_mustComeAhead : ByteArray := prog_4_method_15_code
def yX2_mustComeAhead : MethodName := ⟨RX2, "mustComeAhead", "(LSwapSteps$Row;II)Z"⟩
abbrev cX2_partBits : ByteArray := prog_4_method_16_code
def yX2_partBits : MethodName := ⟨RX2, "partBits", "(LSwapSteps$Row;I)I"⟩
abbrev cX2_hangTogether : ByteArray := prog_4_method_17_code
def yX2_hangTogether : MethodName := ⟨RX2, "hangTogether", "(II)I"⟩
abbrev cX2_greatestRoot : ByteArray := prog_4_method_18_code
def yX2_greatestRoot : MethodName := ⟨RX2, "greatestRoot", "(LSwapSteps$Row;)I"⟩
abbrev cX2_isPower : ByteArray := prog_4_method_19_code
def yX2_isPower : MethodName := ⟨RX2, "isPower", "(LSwapSteps$Row;I)Z"⟩
def RX3 : String := "SwapSteps$Letters"
def TX3 : u_T := fun k => match k with
  | 0 => ("SwapSteps$Letters", "freeBits", "[I", true)
  | _ => ("SwapSteps$Letters", "size", "I", false)
def tyX3 : Nat → FieldType := fun k => match k with
  | 0 => .array .int
  | _ => .int
abbrev wsX30 : List Cond := u_ws RX3 TX3 2
theorem nmX3 : ∀ a, a < 2 → ∀ b, b < 2 → a ≠ b → (TX3 a).2.1 ≠ (TX3 b).2.1 := by decide +kernel
theorem tyX3_ok : ∀ k, k < 2 → parseFieldDescriptor (TX3 k).2.2.1 = some (tyX3 k) := by decide +kernel
abbrev cX3_init : ByteArray := prog_5_method_1_code
def yX3_init : MethodName := ⟨RX3, "<init>", "()V"⟩
abbrev cX3_size : ByteArray := prog_5_method_2_code
def yX3_size : MethodName := ⟨RX3, "size", "()I"⟩
abbrev cX3_restart : ByteArray := prog_5_method_3_code
def yX3_restart : MethodName := ⟨RX3, "restart", "(I)V"⟩
abbrev cX3_has : ByteArray := prog_5_method_4_code
def yX3_has : MethodName := ⟨RX3, "has", "(I)Z"⟩
abbrev cX3_freeWith : ByteArray := prog_5_method_5_code
def yX3_freeWith : MethodName := ⟨RX3, "freeWith", "(I)I"⟩
abbrev cX3_boundWith : ByteArray := prog_5_method_6_code
def yX3_boundWith : MethodName := ⟨RX3, "boundWith", "(I)I"⟩
abbrev cX3_allBits : ByteArray := prog_5_method_7_code
def yX3_allBits : MethodName := ⟨RX3, "allBits", "()I"⟩
abbrev cX3_areFree : ByteArray := prog_5_method_8_code
def yX3_areFree : MethodName := ⟨RX3, "areFree", "(II)Z"⟩
abbrev cX3_setFree : ByteArray := prog_5_method_9_code
def yX3_setFree : MethodName := ⟨RX3, "setFree", "(IIZ)V"⟩
abbrev cX3_setBit : ByteArray := prog_5_method_10_code
def yX3_setBit : MethodName := ⟨RX3, "setBit", "(IIZ)V"⟩
abbrev cX3_freePairs : ByteArray := prog_5_method_11_code
def yX3_freePairs : MethodName := ⟨RX3, "freePairs", "()I"⟩
abbrev cX3_setsTogether : ByteArray := prog_5_method_12_code
def yX3_setsTogether : MethodName := ⟨RX3, "setsTogether", "(I)I"⟩
abbrev cX3_goTogether : ByteArray := prog_5_method_13_code
def yX3_goTogether : MethodName := ⟨RX3, "goTogether", "(I)Z"⟩
def RX4 : String := "SwapSteps$Line"
def TX4 : u_T := fun k => match k with
  | 0 => ("SwapSteps$Line", "kind", "I", false)
  | 1 => ("SwapSteps$Line", "first", "I", false)
  | 2 => ("SwapSteps$Line", "second", "I", false)
  | 3 => ("SwapSteps$Line", "wordStart", "I", false)
  | _ => ("SwapSteps$Line", "wordEnd", "I", false)
def tyX4 : Nat → FieldType := fun k => match k with
  | 0 => .int
  | 1 => .int
  | 2 => .int
  | 3 => .int
  | _ => .int
abbrev wsX40 : List Cond := u_ws RX4 TX4 5
theorem nmX4 : ∀ a, a < 5 → ∀ b, b < 5 → a ≠ b → (TX4 a).2.1 ≠ (TX4 b).2.1 := by decide +kernel
theorem tyX4_ok : ∀ k, k < 5 → parseFieldDescriptor (TX4 k).2.2.1 = some (tyX4 k) := by decide +kernel
abbrev cX4_init : ByteArray := prog_6_method_1_code
def yX4_init : MethodName := ⟨RX4, "<init>", "()V"⟩
def RX5 : String := "SwapSteps$Lines"
def TX5 : u_T := fun k => match k with
  | 0 => ("SwapSteps$Lines", "text", "LSwapSteps$Text;", true)
  | 1 => ("SwapSteps$Lines", "lines", "[LSwapSteps$Line;", true)
  | 2 => ("SwapSteps$Lines", "size", "I", false)
  | _ => ("SwapSteps$Lines", "known", "I", false)
def tyX5 : Nat → FieldType := fun k => match k with
  | 0 => .object "SwapSteps$Text"
  | 1 => .array (.object "SwapSteps$Line")
  | 2 => .int
  | _ => .int
abbrev wsX50 : List Cond := u_ws RX5 TX5 4
theorem nmX5 : ∀ a, a < 4 → ∀ b, b < 4 → a ≠ b → (TX5 a).2.1 ≠ (TX5 b).2.1 := by decide +kernel
theorem tyX5_ok : ∀ k, k < 4 → parseFieldDescriptor (TX5 k).2.2.1 = some (tyX5 k) := by decide +kernel
abbrev cX5_init : ByteArray := prog_7_method_1_code
def yX5_init : MethodName := ⟨RX5, "<init>", "(LSwapSteps$Text;)V"⟩
abbrev cX5_size : ByteArray := prog_7_method_2_code
def yX5_size : MethodName := ⟨RX5, "size", "()I"⟩
abbrev cX5_at : ByteArray := prog_7_method_3_code
def yX5_at : MethodName := ⟨RX5, "at", "(I)LSwapSteps$Line;"⟩
abbrev cX5_read : ByteArray := prog_7_method_4_code
def yX5_read : MethodName := ⟨RX5, "read", "(I)I"⟩
abbrev cX5_readLine : ByteArray := prog_7_method_5_code
def yX5_readLine : MethodName := ⟨RX5, "readLine", "(LSwapSteps$Line;)Z"⟩
abbrev cX5_readPair : ByteArray := prog_7_method_6_code
def yX5_readPair : MethodName := ⟨RX5, "readPair", "(LSwapSteps$Line;I)Z"⟩
abbrev cX5_readLetters : ByteArray := prog_7_method_7_code
def yX5_readLetters : MethodName := ⟨RX5, "readLetters", "(LSwapSteps$Line;)Z"⟩
abbrev cX5_readHeap : ByteArray := prog_7_method_8_code
def yX5_readHeap : MethodName := ⟨RX5, "readHeap", "(LSwapSteps$Line;)Z"⟩
abbrev cX5_isOfLetters : ByteArray := prog_7_method_9_code
def yX5_isOfLetters : MethodName := ⟨RX5, "isOfLetters", "()Z"⟩
def RX6 : String := "SwapSteps$Order"
def TX6 : u_T := fun k => match k with
  | 0 => ("SwapSteps$Order", "letters", "LSwapSteps$Letters;", true)
  | 1 => ("SwapSteps$Order", "following", "[[J", true)
  | 2 => ("SwapSteps$Order", "many", "[J", true)
  | 3 => ("SwapSteps$Order", "sets", "[I", true)
  | 4 => ("SwapSteps$Order", "barred", "I", false)
  | _ => ("SwapSteps$Order", "ahead", "J", false)
def tyX6 : Nat → FieldType := fun k => match k with
  | 0 => .object "SwapSteps$Letters"
  | 1 => .array (.array .long)
  | 2 => .array .long
  | 3 => .array .int
  | 4 => .int
  | _ => .long
abbrev wsX60 : List Cond := u_ws RX6 TX6 6
theorem nmX6 : ∀ a, a < 6 → ∀ b, b < 6 → a ≠ b → (TX6 a).2.1 ≠ (TX6 b).2.1 := by decide +kernel
theorem tyX6_ok : ∀ k, k < 6 → parseFieldDescriptor (TX6 k).2.2.1 = some (tyX6 k) := by decide +kernel
abbrev cX6_init : ByteArray := prog_8_method_1_code
def yX6_init : MethodName := ⟨RX6, "<init>", "(LSwapSteps$Letters;)V"⟩
abbrev cX6_barredBehind : ByteArray := prog_8_method_2_code
def yX6_barredBehind : MethodName := ⟨RX6, "barredBehind", "(II)I"⟩
abbrev cX6_heapsOfLength : ByteArray := prog_8_method_3_code
def yX6_heapsOfLength : MethodName := ⟨RX6, "heapsOfLength", "(I)I"⟩
abbrev cX6_sumOverSets : ByteArray := prog_8_method_4_code
def yX6_sumOverSets : MethodName := ⟨RX6, "sumOverSets", "(I)J"⟩
abbrev cX6_letterOf : ByteArray := prog_8_method_5_code
def yX6_letterOf : MethodName := ⟨RX6, "letterOf", "(III)I"⟩
abbrev cX6_pickLetter : ByteArray := prog_8_method_6_code
def yX6_pickLetter : MethodName := ⟨RX6, "pickLetter", "(I)I"⟩
abbrev cX6_placeOfLeast : ByteArray := prog_8_method_7_code
def yX6_placeOfLeast : MethodName := ⟨RX6, "placeOfLeast", "(LSwapSteps$Row;)I"⟩
abbrev cX6_howManyFollowLetter : ByteArray := prog_8_method_8_code
def yX6_howManyFollowLetter : MethodName := ⟨RX6, "howManyFollowLetter", "(II)J"⟩
abbrev cX6_howManyFollow : ByteArray := prog_8_method_9_code
def yX6_howManyFollow : MethodName := ⟨RX6, "howManyFollow", "(II)J"⟩
abbrev cX6_countFollowing : ByteArray := prog_8_method_10_code
def yX6_countFollowing : MethodName := ⟨RX6, "countFollowing", "(I)V"⟩
abbrev cX6_sumFollowing : ByteArray := prog_8_method_11_code
def yX6_sumFollowing : MethodName := ⟨RX6, "sumFollowing", "(I)J"⟩
def RX7 : String := "SwapSteps$Pairs"
def TX7 : u_T := fun k => match k with
  | 0 => ("SwapSteps$Pairs", "heaps", "LSwapSteps$Heaps;", true)
  | 1 => ("SwapSteps$Pairs", "common", "LSwapSteps$Row;", true)
  | 2 => ("SwapSteps$Pairs", "ofFirst", "LSwapSteps$Row;", true)
  | _ => ("SwapSteps$Pairs", "ofSecond", "LSwapSteps$Row;", true)
def tyX7 : Nat → FieldType := fun k => match k with
  | 0 => .object "SwapSteps$Heaps"
  | 1 => .object "SwapSteps$Row"
  | 2 => .object "SwapSteps$Row"
  | _ => .object "SwapSteps$Row"
abbrev wsX70 : List Cond := u_ws RX7 TX7 4
theorem nmX7 : ∀ a, a < 4 → ∀ b, b < 4 → a ≠ b → (TX7 a).2.1 ≠ (TX7 b).2.1 := by decide +kernel
theorem tyX7_ok : ∀ k, k < 4 → parseFieldDescriptor (TX7 k).2.2.1 = some (tyX7 k) := by decide +kernel
abbrev cX7_init : ByteArray := prog_9_method_1_code
def yX7_init : MethodName := ⟨RX7, "<init>", "(LSwapSteps$Heaps;)V"⟩
abbrev cX7_makeJoined : ByteArray := prog_9_method_2_code
def yX7_makeJoined : MethodName := ⟨RX7, "makeJoined", "(LSwapSteps$Row;LSwapSteps$Row;LSwapSteps$Row;)I"⟩
abbrev cX7_makeLeft : ByteArray := prog_9_method_3_code
def yX7_makeLeft : MethodName := ⟨RX7, "makeLeft", "(LSwapSteps$Row;LSwapSteps$Row;LSwapSteps$Row;)I"⟩
abbrev cX7_makeShared : ByteArray := prog_9_method_4_code
def yX7_makeShared : MethodName := ⟨RX7, "makeShared", "(LSwapSteps$Row;LSwapSteps$Row;LSwapSteps$Row;)I"⟩
abbrev cX7_makeBoth : ByteArray := prog_9_method_5_code
def yX7_makeBoth : MethodName := ⟨RX7, "makeBoth", "(LSwapSteps$Row;LSwapSteps$Row;LSwapSteps$Row;)I"⟩
abbrev cX7_makeHeap : ByteArray := prog_9_method_6_code
def yX7_makeHeap : MethodName := ⟨RX7, "makeHeap", "(LSwapSteps$Row;LSwapSteps$Row;)I"⟩
abbrev cX7_splitCommon : ByteArray := prog_9_method_7_code
def yX7_splitCommon : MethodName := ⟨RX7, "splitCommon", "(LSwapSteps$Row;LSwapSteps$Row;)V"⟩
abbrev cX7_commonFront : ByteArray := prog_9_method_8_code
def yX7_commonFront : MethodName := ⟨RX7, "commonFront", "()I"⟩
abbrev cX7_isAllFree : ByteArray := prog_9_method_9_code
def yX7_isAllFree : MethodName := ⟨RX7, "isAllFree", "(LSwapSteps$Row;LSwapSteps$Row;)Z"⟩
def RX8 : String := "SwapSteps$Reader"
def TX8 : u_T := fun k => match k with
  | 0 => ("SwapSteps$Reader", "letters", "LSwapSteps$Letters;", true)
  | 1 => ("SwapSteps$Reader", "order", "LSwapSteps$Order;", true)
  | 2 => ("SwapSteps$Reader", "moves", "[[I", true)
  | 3 => ("SwapSteps$Reader", "now", "[I", false)
  | 4 => ("SwapSteps$Reader", "then", "[I", false)
  | 5 => ("SwapSteps$Reader", "states", "I", false)
  | _ => ("SwapSteps$Reader", "takeBits", "I", false)
def tyX8 : Nat → FieldType := fun k => match k with
  | 0 => .object "SwapSteps$Letters"
  | 1 => .object "SwapSteps$Order"
  | 2 => .array (.array .int)
  | 3 => .array .int
  | 4 => .array .int
  | 5 => .int
  | _ => .int
abbrev wsX80 : List Cond := u_ws RX8 TX8 7
theorem nmX8 : ∀ a, a < 7 → ∀ b, b < 7 → a ≠ b → (TX8 a).2.1 ≠ (TX8 b).2.1 := by decide +kernel
theorem tyX8_ok : ∀ k, k < 7 → parseFieldDescriptor (TX8 k).2.2.1 = some (tyX8 k) := by decide +kernel
abbrev cX8_init : ByteArray := prog_10_method_1_code
def yX8_init : MethodName := ⟨RX8, "<init>", "(LSwapSteps$Letters;LSwapSteps$Order;)V"⟩
abbrev cX8_restart : ByteArray := prog_10_method_2_code
def yX8_restart : MethodName := ⟨RX8, "restart", "(II)V"⟩
abbrev cX8_has : ByteArray := prog_10_method_3_code
def yX8_has : MethodName := ⟨RX8, "has", "(I)Z"⟩
abbrev cX8_takes : ByteArray := prog_10_method_4_code
def yX8_takes : MethodName := ⟨RX8, "takes", "(I)Z"⟩
abbrev cX8_next : ByteArray := prog_10_method_5_code
def yX8_next : MethodName := ⟨RX8, "next", "(II)I"⟩
abbrev cX8_setMove : ByteArray := prog_10_method_6_code
def yX8_setMove : MethodName := ⟨RX8, "setMove", "(III)V"⟩
abbrev cX8_firstMinded : ByteArray := prog_10_method_7_code
def yX8_firstMinded : MethodName := ⟨RX8, "firstMinded", "()I"⟩
abbrev cX8_mindsPair : ByteArray := prog_10_method_8_code
def yX8_mindsPair : MethodName := ⟨RX8, "mindsPair", "(III)Z"⟩
abbrev cX8_stateBehind : ByteArray := prog_10_method_9_code
def yX8_stateBehind : MethodName := ⟨RX8, "stateBehind", "(LSwapSteps$Row;)I"⟩
abbrev cX8_heapsTaken : ByteArray := prog_10_method_10_code
def yX8_heapsTaken : MethodName := ⟨RX8, "heapsTaken", "(I)I"⟩
abbrev cX8_goOnFrom : ByteArray := prog_10_method_11_code
def yX8_goOnFrom : MethodName := ⟨RX8, "goOnFrom", "(II)V"⟩
abbrev cX8_sumTaken : ByteArray := prog_10_method_12_code
def yX8_sumTaken : MethodName := ⟨RX8, "sumTaken", "()I"⟩
def RX9 : String := "SwapSteps$Row"
def TX9 : u_T := fun k => match k with
  | 0 => ("SwapSteps$Row", "row", "[I", true)
  | _ => ("SwapSteps$Row", "length", "I", false)
def tyX9 : Nat → FieldType := fun k => match k with
  | 0 => .array .int
  | _ => .int
abbrev wsX90 : List Cond := u_ws RX9 TX9 2
theorem nmX9 : ∀ a, a < 2 → ∀ b, b < 2 → a ≠ b → (TX9 a).2.1 ≠ (TX9 b).2.1 := by decide +kernel
theorem tyX9_ok : ∀ k, k < 2 → parseFieldDescriptor (TX9 k).2.2.1 = some (tyX9 k) := by decide +kernel
abbrev cX9_init : ByteArray := prog_11_method_1_code
def yX9_init : MethodName := ⟨RX9, "<init>", "()V"⟩
abbrev cX9_length : ByteArray := prog_11_method_2_code
def yX9_length : MethodName := ⟨RX9, "length", "()I"⟩
abbrev cX9_hasPlace : ByteArray := prog_11_method_3_code
def yX9_hasPlace : MethodName := ⟨RX9, "hasPlace", "(I)Z"⟩
abbrev cX9_at : ByteArray := prog_11_method_4_code
def yX9_at : MethodName := ⟨RX9, "at", "(I)I"⟩
abbrev cX9_wipe : ByteArray := prog_11_method_5_code
def yX9_wipe : MethodName := ⟨RX9, "wipe", "()V"⟩
abbrev cX9_push : ByteArray := prog_11_method_6_code
def yX9_push : MethodName := ⟨RX9, "push", "(I)Z"⟩
abbrev cX9_append : ByteArray := prog_11_method_7_code
def yX9_append : MethodName := ⟨RX9, "append", "(LSwapSteps$Row;)Z"⟩
abbrev cX9_become : ByteArray := prog_11_method_8_code
def yX9_become : MethodName := ⟨RX9, "become", "(LSwapSteps$Row;)V"⟩
abbrev cX9_removeAt : ByteArray := prog_11_method_9_code
def yX9_removeAt : MethodName := ⟨RX9, "removeAt", "(I)V"⟩
abbrev cX9_turnAbout : ByteArray := prog_11_method_10_code
def yX9_turnAbout : MethodName := ⟨RX9, "turnAbout", "()V"⟩
abbrev cX9_howMany : ByteArray := prog_11_method_11_code
def yX9_howMany : MethodName := ⟨RX9, "howMany", "(I)I"⟩
abbrev cX9_bits : ByteArray := prog_11_method_12_code
def yX9_bits : MethodName := ⟨RX9, "bits", "()I"⟩
def RX10 : String := "SwapSteps$Text"
def TX10 : u_T := fun k => match k with
  | 0 => ("SwapSteps$Text", "bytes", "[I", true)
  | 1 => ("SwapSteps$Text", "size", "I", false)
  | 2 => ("SwapSteps$Text", "start", "I", false)
  | _ => ("SwapSteps$Text", "end", "I", false)
def tyX10 : Nat → FieldType := fun k => match k with
  | 0 => .array .int
  | 1 => .int
  | 2 => .int
  | _ => .int
abbrev wsX100 : List Cond := u_ws RX10 TX10 4
theorem nmX10 : ∀ a, a < 4 → ∀ b, b < 4 → a ≠ b → (TX10 a).2.1 ≠ (TX10 b).2.1 := by decide +kernel
theorem tyX10_ok : ∀ k, k < 4 → parseFieldDescriptor (TX10 k).2.2.1 = some (tyX10 k) := by decide +kernel
abbrev cX10_init : ByteArray := prog_12_method_1_code
def yX10_init : MethodName := ⟨RX10, "<init>", "()V"⟩
abbrev cX10_size : ByteArray := prog_12_method_2_code
def yX10_size : MethodName := ⟨RX10, "size", "()I"⟩
abbrev cX10_wipe : ByteArray := prog_12_method_3_code
def yX10_wipe : MethodName := ⟨RX10, "wipe", "()V"⟩
abbrev cX10_push : ByteArray := prog_12_method_4_code
def yX10_push : MethodName := ⟨RX10, "push", "(I)V"⟩
abbrev cX10_byteAt : ByteArray := prog_12_method_5_code
def yX10_byteAt : MethodName := ⟨RX10, "byteAt", "(I)I"⟩
abbrev cX10_letterAt : ByteArray := prog_12_method_6_code
def yX10_letterAt : MethodName := ⟨RX10, "letterAt", "(I)I"⟩
abbrev cX10_isSmall : ByteArray := prog_12_method_7_code
def yX10_isSmall : MethodName := ⟨RX10, "isSmall", "(I)Z"⟩
abbrev cX10_isDigit : ByteArray := prog_12_method_8_code
def yX10_isDigit : MethodName := ⟨RX10, "isDigit", "(I)Z"⟩
abbrev cX10_rewind : ByteArray := prog_12_method_9_code
def yX10_rewind : MethodName := ⟨RX10, "rewind", "()V"⟩
abbrev cX10_step : ByteArray := prog_12_method_10_code
def yX10_step : MethodName := ⟨RX10, "step", "()V"⟩
abbrev cX10_start : ByteArray := prog_12_method_11_code
def yX10_start : MethodName := ⟨RX10, "start", "()I"⟩
abbrev cX10_end : ByteArray := prog_12_method_12_code
def yX10_end : MethodName := ⟨RX10, "end", "()I"⟩
abbrev cX10_tokenLength : ByteArray := prog_12_method_13_code
def yX10_tokenLength : MethodName := ⟨RX10, "tokenLength", "()I"⟩
abbrev cX10_isSign : ByteArray := prog_12_method_14_code
def yX10_isSign : MethodName := ⟨RX10, "isSign", "(I)Z"⟩
abbrev cX10_isWord : ByteArray := prog_12_method_15_code
def yX10_isWord : MethodName := ⟨RX10, "isWord", "(Ljava/lang/String;)Z"⟩
abbrev cX10_number : ByteArray := prog_12_method_16_code
def yX10_number : MethodName := ⟨RX10, "number", "()I"⟩
def RX11 : String := "SwapSteps"
def TX11 : u_T := fun k => match k with
  | 0 => ("SwapSteps", "letters", "LSwapSteps$Letters;", true)
  | 1 => ("SwapSteps", "heaps", "[LSwapSteps$Row;", true)
  | 2 => ("SwapSteps", "leastRow", "LSwapSteps$Row;", true)
  | 3 => ("SwapSteps", "text", "LSwapSteps$Text;", true)
  | 4 => ("SwapSteps", "lines", "LSwapSteps$Lines;", true)
  | 5 => ("SwapSteps", "looks", "LSwapSteps$Heaps;", true)
  | 6 => ("SwapSteps", "pairs", "LSwapSteps$Pairs;", true)
  | 7 => ("SwapSteps", "beginnings", "LSwapSteps$Beginnings;", true)
  | 8 => ("SwapSteps", "circle", "LSwapSteps$Circle;", true)
  | 9 => ("SwapSteps", "order", "LSwapSteps$Order;", true)
  | _ => ("SwapSteps", "reader", "LSwapSteps$Reader;", true)
def tyX11 : Nat → FieldType := fun k => match k with
  | 0 => .object "SwapSteps$Letters"
  | 1 => .array (.object "SwapSteps$Row")
  | 2 => .object "SwapSteps$Row"
  | 3 => .object "SwapSteps$Text"
  | 4 => .object "SwapSteps$Lines"
  | 5 => .object "SwapSteps$Heaps"
  | 6 => .object "SwapSteps$Pairs"
  | 7 => .object "SwapSteps$Beginnings"
  | 8 => .object "SwapSteps$Circle"
  | 9 => .object "SwapSteps$Order"
  | _ => .object "SwapSteps$Reader"
abbrev wsX110 : List Cond := u_ws RX11 TX11 11
theorem nmX11 : ∀ a, a < 11 → ∀ b, b < 11 → a ≠ b → (TX11 a).2.1 ≠ (TX11 b).2.1 := by decide +kernel
theorem tyX11_ok : ∀ k, k < 11 → parseFieldDescriptor (TX11 k).2.2.1 = some (tyX11 k) := by decide +kernel
abbrev cX11_init : ByteArray := prog_1_method_1_code
def yX11_init : MethodName := ⟨RX11, "<init>", "()V"⟩
abbrev cX11_write : ByteArray := prog_1_method_2_code
def yX11_write : MethodName := ⟨RX11, "write", "(JI)I"⟩
abbrev cX11_erase : ByteArray := prog_1_method_3_code
def yX11_erase : MethodName := ⟨RX11, "erase", "()I"⟩
abbrev cX11_fault : ByteArray := prog_1_method_4_code
def yX11_fault : MethodName := ⟨RX11, "fault", "()I"⟩
abbrev cX11_told : ByteArray := prog_1_method_5_code
def yX11_told : MethodName := ⟨RX11, "told", "()I"⟩
abbrev cX11_free : ByteArray := prog_1_method_6_code
def yX11_free : MethodName := ⟨RX11, "free", "(IIZ)I"⟩
abbrev cX11_add : ByteArray := prog_1_method_7_code
def yX11_add : MethodName := ⟨RX11, "add", "(II)I"⟩
abbrev cX11_clear : ByteArray := prog_1_method_8_code
def yX11_clear : MethodName := ⟨RX11, "clear", "(I)I"⟩
abbrev cX11_letter : ByteArray := prog_1_method_9_code
def yX11_letter : MethodName := ⟨RX11, "letter", "(III)I"⟩
abbrev cX11_same : ByteArray := prog_1_method_10_code
def yX11_same : MethodName := ⟨RX11, "same", "(II)I"⟩
abbrev cX11_apart : ByteArray := prog_1_method_11_code
def yX11_apart : MethodName := ⟨RX11, "apart", "(II)I"⟩
abbrev cX11_layer : ByteArray := prog_1_method_12_code
def yX11_layer : MethodName := ⟨RX11, "layer", "(II)I"⟩
abbrev cX11_ahead : ByteArray := prog_1_method_13_code
def yX11_ahead : MethodName := ⟨RX11, "ahead", "(III)I"⟩
abbrev cX11_begins : ByteArray := prog_1_method_14_code
def yX11_begins : MethodName := ⟨RX11, "begins", "(II)I"⟩
abbrev cX11_join : ByteArray := prog_1_method_15_code
def yX11_join : MethodName := ⟨RX11, "join", "(III)I"⟩
abbrev cX11_left : ByteArray := prog_1_method_16_code
def yX11_left : MethodName := ⟨RX11, "left", "(III)I"⟩
abbrev cX11_shared : ByteArray := prog_1_method_17_code
def yX11_shared : MethodName := ⟨RX11, "shared", "(III)I"⟩
abbrev cX11_both : ByteArray := prog_1_method_18_code
def yX11_both : MethodName := ⟨RX11, "both", "(III)I"⟩
abbrev cX11_mirror : ByteArray := prog_1_method_19_code
def yX11_mirror : MethodName := ⟨RX11, "mirror", "(I)I"⟩
abbrev cX11_part : ByteArray := prog_1_method_20_code
def yX11_part : MethodName := ⟨RX11, "part", "(II)I"⟩
abbrev cX11_root : ByteArray := prog_1_method_21_code
def yX11_root : MethodName := ⟨RX11, "root", "(I)I"⟩
abbrev cX11_circle : ByteArray := prog_1_method_22_code
def yX11_circle : MethodName := ⟨RX11, "circle", "(I)I"⟩
abbrev cX11_turned : ByteArray := prog_1_method_23_code
def yX11_turned : MethodName := ⟨RX11, "turned", "(II)I"⟩
abbrev cX11_together : ByteArray := prog_1_method_24_code
def yX11_together : MethodName := ⟨RX11, "together", "(I)I"⟩
abbrev cX11_many : ByteArray := prog_1_method_25_code
def yX11_many : MethodName := ⟨RX11, "many", "(I)I"⟩
abbrev cX11_of : ByteArray := prog_1_method_26_code
def yX11_of : MethodName := ⟨RX11, "of", "(III)I"⟩
abbrev cX11_place : ByteArray := prog_1_method_27_code
def yX11_place : MethodName := ⟨RX11, "place", "(I)I"⟩
abbrev cX11_reader : ByteArray := prog_1_method_28_code
def yX11_reader : MethodName := ⟨RX11, "reader", "(II)I"⟩
abbrev cX11_move : ByteArray := prog_1_method_29_code
def yX11_move : MethodName := ⟨RX11, "move", "(III)I"⟩
abbrev cX11_minds : ByteArray := prog_1_method_30_code
def yX11_minds : MethodName := ⟨RX11, "minds", "()I"⟩
abbrev cX11_run : ByteArray := prog_1_method_31_code
def yX11_run : MethodName := ⟨RX11, "run", "(II)I"⟩
abbrev cX11_taken : ByteArray := prog_1_method_32_code
def yX11_taken : MethodName := ⟨RX11, "taken", "(I)I"⟩
abbrev cX11_count : ByteArray := prog_1_method_33_code
def yX11_count : MethodName := ⟨RX11, "count", "(I)I"⟩
abbrev cX11_yes : ByteArray := prog_1_method_34_code
def yX11_yes : MethodName := ⟨RX11, "yes", "(Z)I"⟩
abbrev cX11_heapAt : ByteArray := prog_1_method_35_code
def yX11_heapAt : MethodName := ⟨RX11, "heapAt", "(I)LSwapSteps$Row;"⟩
abbrev cX11_doLine : ByteArray := prog_1_method_36_code
def yX11_doLine : MethodName := ⟨RX11, "doLine", "(LSwapSteps$Line;)V"⟩
abbrev cX11_startAnew : ByteArray := prog_1_method_37_code
def yX11_startAnew : MethodName := ⟨RX11, "startAnew", "(I)V"⟩
abbrev cX11_tellHeap : ByteArray := prog_1_method_38_code
def yX11_tellHeap : MethodName := ⟨RX11, "tellHeap", "(LSwapSteps$Line;)V"⟩
def RX12 : String := "SwapStepsModel"
def TX12 : u_T := fun k => match k with
  | 0 => ("SwapStepsModel", "letters", "I", false)
  | 1 => ("SwapStepsModel", "free", "[I", true)
  | 2 => ("SwapStepsModel", "size", "[I", true)
  | 3 => ("SwapStepsModel", "held", "[I", true)
  | 4 => ("SwapStepsModel", "bytes", "I", false)
  | 5 => ("SwapStepsModel", "text", "[I", true)
  | 6 => ("SwapStepsModel", "position", "I", false)
  | 7 => ("SwapStepsModel", "tokenAt", "I", false)
  | 8 => ("SwapStepsModel", "kind", "I", false)
  | 9 => ("SwapStepsModel", "length", "I", false)
  | 10 => ("SwapStepsModel", "faultAt", "I", false)
  | 11 => ("SwapStepsModel", "many0", "I", false)
  | 12 => ("SwapStepsModel", "readMany", "I", false)
  | 13 => ("SwapStepsModel", "read", "[I", true)
  | 14 => ("SwapStepsModel", "one", "[I", true)
  | 15 => ("SwapStepsModel", "two", "[I", true)
  | 16 => ("SwapStepsModel", "made", "[I", true)
  | 17 => ("SwapStepsModel", "isOff", "[Z", true)
  | 18 => ("SwapStepsModel", "mustBe", "[Z", true)
  | 19 => ("SwapStepsModel", "met", "[I", true)
  | 20 => ("SwapStepsModel", "ways", "[J", true)
  | 21 => ("SwapStepsModel", "table", "[I", true)
  | 22 => ("SwapStepsModel", "taken", "[I", true)
  | 23 => ("SwapStepsModel", "rest", "[I", true)
  | 24 => ("SwapStepsModel", "meets", "I", false)
  | 25 => ("SwapStepsModel", "widest", "I", false)
  | 26 => ("SwapStepsModel", "circle", "[J", true)
  | 27 => ("SwapStepsModel", "circles", "I", false)
  | 28 => ("SwapStepsModel", "exact", "[J", true)
  | 29 => ("SwapStepsModel", "now", "[J", true)
  | 30 => ("SwapStepsModel", "then", "[J", true)
  | 31 => ("SwapStepsModel", "manies", "[J", true)
  | 32 => ("SwapStepsModel", "states", "I", false)
  | 33 => ("SwapStepsModel", "takes", "I", false)
  | _ => ("SwapStepsModel", "moves", "[I", true)
def tyX12 : Nat → FieldType := fun k => match k with
  | 0 => .int
  | 1 => .array .int
  | 2 => .array .int
  | 3 => .array .int
  | 4 => .int
  | 5 => .array .int
  | 6 => .int
  | 7 => .int
  | 8 => .int
  | 9 => .int
  | 10 => .int
  | 11 => .int
  | 12 => .int
  | 13 => .array .int
  | 14 => .array .int
  | 15 => .array .int
  | 16 => .array .int
  | 17 => .array .boolean
  | 18 => .array .boolean
  | 19 => .array .int
  | 20 => .array .long
  | 21 => .array .int
  | 22 => .array .int
  | 23 => .array .int
  | 24 => .int
  | 25 => .int
  | 26 => .array .long
  | 27 => .int
  | 28 => .array .long
  | 29 => .array .long
  | 30 => .array .long
  | 31 => .array .long
  | 32 => .int
  | 33 => .int
  | _ => .array .int
abbrev wsX120 : List Cond := u_ws RX12 TX12 35
theorem nmX12 : ∀ a, a < 35 → ∀ b, b < 35 → a ≠ b → (TX12 a).2.1 ≠ (TX12 b).2.1 := by decide +kernel
theorem tyX12_ok : ∀ k, k < 35 → parseFieldDescriptor (TX12 k).2.2.1 = some (tyX12 k) := by decide +kernel
abbrev cX12_init : ByteArray := prog_14_method_1_code
def yX12_init : MethodName := ⟨RX12, "<init>", "()V"⟩
abbrev cX12_in : ByteArray := prog_14_method_2_code
def yX12_in : MethodName := ⟨RX12, "in", "(III)Z"⟩
abbrev cX12_isLetter : ByteArray := prog_14_method_3_code
def yX12_isLetter : MethodName := ⟨RX12, "isLetter", "(I)Z"⟩
abbrev cX12_isHeap : ByteArray := prog_14_method_4_code
def yX12_isHeap : MethodName := ⟨RX12, "isHeap", "(I)Z"⟩
abbrev cX12_areFree : ByteArray := prog_14_method_5_code
def yX12_areFree : MethodName := ⟨RX12, "areFree", "(II)Z"⟩
abbrev cX12_write : ByteArray := prog_14_method_6_code
def yX12_write : MethodName := ⟨RX12, "write", "(JI)I"⟩
abbrev cX12_erase : ByteArray := prog_14_method_7_code
def yX12_erase : MethodName := ⟨RX12, "erase", "()I"⟩
abbrev cX12_nextToken : ByteArray := prog_14_method_8_code
def yX12_nextToken : MethodName := ⟨RX12, "nextToken", "()V"⟩
abbrev cX12_kindOf : ByteArray := prog_14_method_9_code
def yX12_kindOf : MethodName := ⟨RX12, "kindOf", "(I)I"⟩
abbrev cX12_fails : ByteArray := prog_14_method_10_code
def yX12_fails : MethodName := ⟨RX12, "fails", "()Z"⟩
abbrev cX12_word : ByteArray := prog_14_method_11_code
def yX12_word : MethodName := ⟨RX12, "word", "()J"⟩
abbrev cX12_isNumber : ByteArray := prog_14_method_12_code
def yX12_isNumber : MethodName := ⟨RX12, "isNumber", "(III)Z"⟩
abbrev cX12_isOfLetters : ByteArray := prog_14_method_13_code
def yX12_isOfLetters : MethodName := ⟨RX12, "isOfLetters", "()Z"⟩
abbrev cX12_isLine : ByteArray := prog_14_method_14_code
def yX12_isLine : MethodName := ⟨RX12, "isLine", "(I)Z"⟩
abbrev cX12_isRead : ByteArray := prog_14_method_15_code
def yX12_isRead : MethodName := ⟨RX12, "isRead", "()Z"⟩
abbrev cX12_fault : ByteArray := prog_14_method_16_code
def yX12_fault : MethodName := ⟨RX12, "fault", "()I"⟩
abbrev cX12_tell : ByteArray := prog_14_method_17_code
def yX12_tell : MethodName := ⟨RX12, "tell", "(IIZ)V"⟩
abbrev cX12_doLine : ByteArray := prog_14_method_18_code
def yX12_doLine : MethodName := ⟨RX12, "doLine", "(I)V"⟩
abbrev cX12_told : ByteArray := prog_14_method_19_code
def yX12_told : MethodName := ⟨RX12, "told", "()I"⟩
abbrev cX12_free : ByteArray := prog_14_method_20_code
def yX12_free : MethodName := ⟨RX12, "free", "(IIZ)I"⟩
abbrev cX12_add : ByteArray := prog_14_method_21_code
def yX12_add : MethodName := ⟨RX12, "add", "(II)I"⟩
abbrev cX12_clear : ByteArray := prog_14_method_22_code
def yX12_clear : MethodName := ⟨RX12, "clear", "(I)I"⟩
abbrev cX12_take : ByteArray := prog_14_method_23_code
def yX12_take : MethodName := ⟨RX12, "take", "(I[I)V"⟩
abbrev cX12_firstOf : ByteArray := prog_14_method_24_code
def yX12_firstOf : MethodName := ⟨RX12, "firstOf", "([III)I"⟩
abbrev cX12_putAllOn : ByteArray := prog_14_method_25_code
def yX12_putAllOn : MethodName := ⟨RX12, "putAllOn", "(I)V"⟩
abbrev cX12_makeLeast : ByteArray := prog_14_method_26_code
def yX12_makeLeast : MethodName := ⟨RX12, "makeLeast", "([II)I"⟩
abbrev cX12_makeLeastOf : ByteArray := prog_14_method_27_code
def yX12_makeLeastOf : MethodName := ⟨RX12, "makeLeastOf", "([II)I"⟩
abbrev cX12_keep : ByteArray := prog_14_method_28_code
def yX12_keep : MethodName := ⟨RX12, "keep", "(II)I"⟩
abbrev cX12_letter : ByteArray := prog_14_method_29_code
def yX12_letter : MethodName := ⟨RX12, "letter", "(III)I"⟩
abbrev cX12_areLooksAlike : ByteArray := prog_14_method_30_code
def yX12_areLooksAlike : MethodName := ⟨RX12, "areLooksAlike", "(IIII)Z"⟩
abbrev cX12_apartOf : ByteArray := prog_14_method_31_code
def yX12_apartOf : MethodName := ⟨RX12, "apartOf", "(II)I"⟩
abbrev cX12_same : ByteArray := prog_14_method_32_code
def yX12_same : MethodName := ⟨RX12, "same", "(II)I"⟩
abbrev cX12_apart : ByteArray := prog_14_method_33_code
def yX12_apart : MethodName := ⟨RX12, "apart", "(II)I"⟩
abbrev cX12_layer : ByteArray := prog_14_method_34_code
def yX12_layer : MethodName := ⟨RX12, "layer", "(II)I"⟩
abbrev cX12_ahead : ByteArray := prog_14_method_35_code
def yX12_ahead : MethodName := ⟨RX12, "ahead", "(III)I"⟩
abbrev cX12_power25 : ByteArray := prog_14_method_36_code
def yX12_power25 : MethodName := ⟨RX12, "power25", "(I)I"⟩
abbrev cX12_placeOf : ByteArray := prog_14_method_37_code
def yX12_placeOf : MethodName := ⟨RX12, "placeOf", "(I)I"⟩
abbrev cX12_mayCome : ByteArray := prog_14_method_38_code
def yX12_mayCome : MethodName := ⟨RX12, "mayCome", "(II)Z"⟩
abbrev cX12_findBeginnings : ByteArray := prog_14_method_39_code
def yX12_findBeginnings : MethodName := ⟨RX12, "findBeginnings", "(I)V"⟩
abbrev cX12_begins : ByteArray := prog_14_method_40_code
def yX12_begins : MethodName := ⟨RX12, "begins", "(II)I"⟩
abbrev cX12_areThree : ByteArray := prog_14_method_41_code
def yX12_areThree : MethodName := ⟨RX12, "areThree", "(III)Z"⟩
abbrev cX12_join : ByteArray := prog_14_method_42_code
def yX12_join : MethodName := ⟨RX12, "join", "(III)I"⟩
abbrev cX12_left : ByteArray := prog_14_method_43_code
def yX12_left : MethodName := ⟨RX12, "left", "(III)I"⟩
abbrev cX12_share : ByteArray := prog_14_method_44_code
def yX12_share : MethodName := ⟨RX12, "share", "(II)I"⟩
abbrev cX12_shared : ByteArray := prog_14_method_45_code
def yX12_shared : MethodName := ⟨RX12, "shared", "(III)I"⟩
abbrev cX12_both : ByteArray := prog_14_method_46_code
def yX12_both : MethodName := ⟨RX12, "both", "(III)I"⟩
abbrev cX12_mirror : ByteArray := prog_14_method_47_code
def yX12_mirror : MethodName := ⟨RX12, "mirror", "(I)I"⟩
abbrev cX12_part : ByteArray := prog_14_method_48_code
def yX12_part : MethodName := ⟨RX12, "part", "(II)I"⟩
abbrev cX12_isTimes : ByteArray := prog_14_method_49_code
def yX12_isTimes : MethodName := ⟨RX12, "isTimes", "(II)Z"⟩
abbrev cX12_root : ByteArray := prog_14_method_50_code
def yX12_root : MethodName := ⟨RX12, "root", "(I)I"⟩
abbrev cX12_keyOf : ByteArray := prog_14_method_51_code
def yX12_keyOf : MethodName := ⟨RX12, "keyOf", "([II)J"⟩
abbrev cX12_isMetIn : ByteArray := prog_14_method_52_code
def yX12_isMetIn : MethodName := ⟨RX12, "isMetIn", "(J)Z"⟩
abbrev cX12_findCircle : ByteArray := prog_14_method_53_code
def yX12_findCircle : MethodName := ⟨RX12, "findCircle", "(I)V"⟩
abbrev cX12_circle : ByteArray := prog_14_method_54_code
def yX12_circle : MethodName := ⟨RX12, "circle", "(I)I"⟩
abbrev cX12_turned : ByteArray := prog_14_method_55_code
def yX12_turned : MethodName := ⟨RX12, "turned", "(II)I"⟩
abbrev cX12_togetherOf : ByteArray := prog_14_method_56_code
def yX12_togetherOf : MethodName := ⟨RX12, "togetherOf", "(I)I"⟩
abbrev cX12_together : ByteArray := prog_14_method_57_code
def yX12_together : MethodName := ⟨RX12, "together", "(I)I"⟩
abbrev cX12_many : ByteArray := prog_14_method_58_code
def yX12_many : MethodName := ⟨RX12, "many", "(I)I"⟩
abbrev cX12_barred : ByteArray := prog_14_method_59_code
def yX12_barred : MethodName := ⟨RX12, "barred", "(II)I"⟩
abbrev cX12_findExact : ByteArray := prog_14_method_60_code
def yX12_findExact : MethodName := ⟨RX12, "findExact", "(I)V"⟩
abbrev cX12_of : ByteArray := prog_14_method_61_code
def yX12_of : MethodName := ⟨RX12, "of", "(III)I"⟩
abbrev cX12_place : ByteArray := prog_14_method_62_code
def yX12_place : MethodName := ⟨RX12, "place", "(I)I"⟩
abbrev cX12_reader : ByteArray := prog_14_method_63_code
def yX12_reader : MethodName := ⟨RX12, "reader", "(II)I"⟩
abbrev cX12_move : ByteArray := prog_14_method_64_code
def yX12_move : MethodName := ⟨RX12, "move", "(III)I"⟩
abbrev cX12_minds : ByteArray := prog_14_method_65_code
def yX12_minds : MethodName := ⟨RX12, "minds", "()I"⟩
abbrev cX12_run : ByteArray := prog_14_method_66_code
def yX12_run : MethodName := ⟨RX12, "run", "(II)I"⟩
abbrev cX12_taken : ByteArray := prog_14_method_67_code
def yX12_taken : MethodName := ⟨RX12, "taken", "(I)I"⟩
abbrev cX12_count : ByteArray := prog_14_method_68_code
def yX12_count : MethodName := ⟨RX12, "count", "(I)I"⟩
def RJ6 : String := "java/lang/Integer"
def TJ6 : u_T := fun k => match k with
  | _ => ("", "", "", false)
def tyJ6 : Nat → FieldType := fun k => match k with
  | _ => .int
abbrev wsJ60 : List Cond := u_ws RJ6 TJ6 0
theorem nmJ6 : ∀ a, a < 0 → ∀ b, b < 0 → a ≠ b → (TJ6 a).2.1 ≠ (TJ6 b).2.1 := by decide +kernel
theorem tyJ6_ok : ∀ k, k < 0 → parseFieldDescriptor (TJ6 k).2.2.1 = some (tyJ6 k) := by decide +kernel
abbrev cJ6_bitCount_0f7a4 : ByteArray := prog_15_method_49_code
def yJ6_bitCount_0f7a4 : MethodName := ⟨RJ6, "bitCount", "(I)I"⟩
def RJ9 : String := "java/lang/Math"
def TJ9 : u_T := fun k => match k with
  | _ => ("", "", "", false)
def tyJ9 : Nat → FieldType := fun k => match k with
  | _ => .int
abbrev wsJ90 : List Cond := u_ws RJ9 TJ9 0
theorem nmJ9 : ∀ a, a < 0 → ∀ b, b < 0 → a ≠ b → (TJ9 a).2.1 ≠ (TJ9 b).2.1 := by decide +kernel
theorem tyJ9_ok : ∀ k, k < 0 → parseFieldDescriptor (TJ9 k).2.2.1 = some (tyJ9 k) := by decide +kernel
abbrev cJ9_floorMod_f86c9 : ByteArray := prog_16_method_52_code
def yJ9_floorMod_f86c9 : MethodName := ⟨RJ9, "floorMod", "(JJ)J"⟩
abbrev cJ9_max_7cf53 : ByteArray := prog_16_method_65_code
def yJ9_max_7cf53 : MethodName := ⟨RJ9, "max", "(II)I"⟩
def RJ0 : String := "java/lang/String"
def TJ0 : u_T := fun k => match k with
  | _ => ("", "", "", false)
def tyJ0 : Nat → FieldType := fun k => match k with
  | _ => .int
abbrev wsJ00 : List Cond := u_ws RJ0 TJ0 0
theorem nmJ0 : ∀ a, a < 0 → ∀ b, b < 0 → a ≠ b → (TJ0 a).2.1 ≠ (TJ0 b).2.1 := by decide +kernel
theorem tyJ0_ok : ∀ k, k < 0 → parseFieldDescriptor (TJ0 k).2.2.1 = some (tyJ0 k) := by decide +kernel
abbrev cJ0_length_8abf5 : ByteArray := prog_17_method_54_code
def yJ0_length_8abf5 : MethodName := ⟨RJ0, "length", "()I"⟩
abbrev cJ0_charAt_5068e : ByteArray := prog_17_method_56_code
def yJ0_charAt_5068e : MethodName := ⟨RJ0, "charAt", "(I)C"⟩
abbrev cJ0_coder_7d493 : ByteArray := prog_17_method_152_code
def yJ0_coder_7d493 : MethodName := ⟨RJ0, "coder", "()B"⟩
abbrev cJ0_isLatin1_aae02 : ByteArray := prog_17_method_154_code
def yJ0_isLatin1_aae02 : MethodName := ⟨RJ0, "isLatin1", "()Z"⟩
abbrev cJ0_checkIndex_df160 : ByteArray := prog_17_method_155_code
def yJ0_checkIndex_df160 : MethodName := ⟨RJ0, "checkIndex", "(II)V"⟩
def RJ1 : String := "java/lang/StringLatin1"
def TJ1 : u_T := fun k => match k with
  | _ => ("", "", "", false)
def tyJ1 : Nat → FieldType := fun k => match k with
  | _ => .int
abbrev wsJ10 : List Cond := u_ws RJ1 TJ1 0
theorem nmJ1 : ∀ a, a < 0 → ∀ b, b < 0 → a ≠ b → (TJ1 a).2.1 ≠ (TJ1 b).2.1 := by decide +kernel
theorem tyJ1_ok : ∀ k, k < 0 → parseFieldDescriptor (TJ1 k).2.2.1 = some (tyJ1 k) := by decide +kernel
abbrev cJ1_charAt_3b067 : ByteArray := prog_18_method_2_code
def yJ1_charAt_3b067 : MethodName := ⟨RJ1, "charAt", "([BI)C"⟩
def RJ2 : String := "java/lang/StringUTF16"
def TJ2 : u_T := fun k => match k with
  | _ => ("", "", "", false)
def tyJ2 : Nat → FieldType := fun k => match k with
  | _ => .int
abbrev wsJ20 : List Cond := u_ws RJ2 TJ2 0
theorem nmJ2 : ∀ a, a < 0 → ∀ b, b < 0 → a ≠ b → (TJ2 a).2.1 ≠ (TJ2 b).2.1 := by decide +kernel
theorem tyJ2_ok : ∀ k, k < 0 → parseFieldDescriptor (TJ2 k).2.2.1 = some (tyJ2 k) := by decide +kernel
abbrev cJ2_getChar_3b067 : ByteArray := prog_19_method_5_code
def yJ2_getChar_3b067 : MethodName := ⟨RJ2, "getChar", "([BI)C"⟩
abbrev cJ2_length_9d52b : ByteArray := prog_19_method_6_code
def yJ2_length_9d52b : MethodName := ⟨RJ2, "length", "([B)I"⟩
abbrev cJ2_charAt_3b067 : ByteArray := prog_19_method_83_code
def yJ2_charAt_3b067 : MethodName := ⟨RJ2, "charAt", "([BI)C"⟩
abbrev cJ2_checkIndex_2214a : ByteArray := prog_19_method_91_code
def yJ2_checkIndex_2214a : MethodName := ⟨RJ2, "checkIndex", "(I[B)V"⟩
def RJ7 : String := "java/util/Arrays"
def TJ7 : u_T := fun k => match k with
  | _ => ("", "", "", false)
def tyJ7 : Nat → FieldType := fun k => match k with
  | _ => .int
abbrev wsJ70 : List Cond := u_ws RJ7 TJ7 0
theorem nmJ7 : ∀ a, a < 0 → ∀ b, b < 0 → a ≠ b → (TJ7 a).2.1 ≠ (TJ7 b).2.1 := by decide +kernel
theorem tyJ7_ok : ∀ k, k < 0 → parseFieldDescriptor (TJ7 k).2.2.1 = some (tyJ7 k) := by decide +kernel
abbrev cJ7_fill_d0a16 : ByteArray := prog_20_method_101_code
def yJ7_fill_d0a16 : MethodName := ⟨RJ7, "fill", "([JJ)V"⟩
abbrev cJ7_fill_53178 : ByteArray := prog_20_method_103_code
def yJ7_fill_53178 : MethodName := ⟨RJ7, "fill", "([II)V"⟩
def RJ3 : String := "jdk/internal/util/Preconditions"
def TJ3 : u_T := fun k => match k with
  | _ => ("", "", "", false)
def tyJ3 : Nat → FieldType := fun k => match k with
  | _ => .int
abbrev wsJ30 : List Cond := u_ws RJ3 TJ3 0
theorem nmJ3 : ∀ a, a < 0 → ∀ b, b < 0 → a ≠ b → (TJ3 a).2.1 ≠ (TJ3 b).2.1 := by decide +kernel
theorem tyJ3_ok : ∀ k, k < 0 → parseFieldDescriptor (TJ3 k).2.2.1 = some (tyJ3 k) := by decide +kernel
abbrev cJ3_checkIndex_8e157 : ByteArray := prog_21_method_11_code
def yJ3_checkIndex_8e157 : MethodName := ⟨RJ3, "checkIndex", "(IILjava/util/function/BiFunction;)I"⟩
def RL : String := "SwapStepsLaw"
abbrev cL_law : ByteArray := code
def yL_law : MethodName := ⟨RL, "law", "([I)Z"⟩
abbrev vwCl : List vw_C := [(RX0, TX0, 10), (RX1, TX1, 7), (RX2, TX2, 4), (RX3, TX3, 2), (RX4, TX4, 5), (RX5, TX5, 4), (RX6, TX6, 6), (RX7, TX7, 4), (RX8, TX8, 7), (RX9, TX9, 2), (RX10, TX10, 4), (RX11, TX11, 11), (RX12, TX12, 35)]
end
section
theorem dX0_init_0 : decode cX0_init 0 = .ok (.aload_n 0, 1) := by decide +kernel
theorem dX0_init_1 : decode cX0_init 1 = .ok (.invokespecial 3, 3) := by decide +kernel
theorem dX0_init_4 : decode cX0_init 4 = .ok (.aload_n 0, 1) := by decide +kernel
theorem dX0_init_5 : decode cX0_init 5 = .ok (.sipush 15625, 3) := by decide +kernel
theorem dX0_init_8 : decode cX0_init 8 = .ok (.newarray .byte, 2) := by decide +kernel
theorem dX0_init_10 : decode cX0_init 10 = .ok (.putfield 11, 3) := by decide +kernel
theorem dX0_init_13 : decode cX0_init 13 = .ok (.aload_n 0, 1) := by decide +kernel
theorem dX0_init_14 : decode cX0_init 14 = .ok (.sipush 15625, 3) := by decide +kernel
theorem dX0_init_17 : decode cX0_init 17 = .ok (.newarray .int, 2) := by decide +kernel
theorem dX0_init_19 : decode cX0_init 19 = .ok (.putfield 15, 3) := by decide +kernel
theorem dX0_init_22 : decode cX0_init 22 = .ok (.aload_n 0, 1) := by decide +kernel
theorem dX0_init_23 : decode cX0_init 23 = .ok (.bipush 6, 2) := by decide +kernel
theorem dX0_init_25 : decode cX0_init 25 = .ok (.newarray .int, 2) := by decide +kernel
theorem dX0_init_27 : decode cX0_init 27 = .ok (.putfield 19, 3) := by decide +kernel
theorem dX0_init_30 : decode cX0_init 30 = .ok (.aload_n 0, 1) := by decide +kernel
theorem dX0_init_31 : decode cX0_init 31 = .ok (.bipush 6, 2) := by decide +kernel
theorem dX0_init_33 : decode cX0_init 33 = .ok (.newarray .int, 2) := by decide +kernel
theorem dX0_init_35 : decode cX0_init 35 = .ok (.putfield 22, 3) := by decide +kernel
theorem dX0_init_38 : decode cX0_init 38 = .ok (.aload_n 0, 1) := by decide +kernel
theorem dX0_init_39 : decode cX0_init 39 = .ok (.bipush 6, 2) := by decide +kernel
theorem dX0_init_41 : decode cX0_init 41 = .ok (.newarray .int, 2) := by decide +kernel
theorem dX0_init_43 : decode cX0_init 43 = .ok (.putfield 25, 3) := by decide +kernel
theorem dX0_init_46 : decode cX0_init 46 = .ok (.aload_n 0, 1) := by decide +kernel
theorem dX0_init_47 : decode cX0_init 47 = .ok (.sipush 144, 3) := by decide +kernel
theorem dX0_init_50 : decode cX0_init 50 = .ok (.bipush 6, 2) := by decide +kernel
theorem dX0_init_52 : decode cX0_init 52 = .ok (.multianewarray 28 2, 4) := by decide +kernel
theorem dX0_init_56 : decode cX0_init 56 = .ok (.putfield 30, 3) := by decide +kernel
theorem dX0_init_59 : decode cX0_init 59 = .ok (.aload_n 0, 1) := by decide +kernel
theorem dX0_init_60 : decode cX0_init 60 = .ok (.iconst 0, 1) := by decide +kernel
theorem dX0_init_61 : decode cX0_init 61 = .ok (.putfield 33, 3) := by decide +kernel
theorem dX0_init_64 : decode cX0_init 64 = .ok (.aload_n 0, 1) := by decide +kernel
theorem dX0_init_65 : decode cX0_init 65 = .ok (.iconst 0, 1) := by decide +kernel
theorem dX0_init_66 : decode cX0_init 66 = .ok (.putfield 37, 3) := by decide +kernel
theorem dX0_init_69 : decode cX0_init 69 = .ok (.aload_n 0, 1) := by decide +kernel
theorem dX0_init_70 : decode cX0_init 70 = .ok (.iconst 0, 1) := by decide +kernel
theorem dX0_init_71 : decode cX0_init 71 = .ok (.putfield 40, 3) := by decide +kernel
theorem dX0_init_74 : decode cX0_init 74 = .ok (.aload_n 0, 1) := by decide +kernel
theorem dX0_init_75 : decode cX0_init 75 = .ok (.aload_n 1, 1) := by decide +kernel
theorem dX0_init_76 : decode cX0_init 76 = .ok (.putfield 43, 3) := by decide +kernel
theorem dX0_init_79 : decode cX0_init 79 = .ok (.return_, 1) := by decide +kernel
theorem dX0_found_0 : decode cX0_found 0 = .ok (.aload_n 0, 1) := by decide +kernel
theorem dX0_found_1 : decode cX0_found 1 = .ok (.getfield 37, 3) := by decide +kernel
theorem dX0_found_4 : decode cX0_found 4 = .ok (.ireturn, 1) := by decide +kernel
theorem dX0_ways_0 : decode cX0_ways 0 = .ok (.aload_n 0, 1) := by decide +kernel
theorem dX0_ways_1 : decode cX0_ways 1 = .ok (.getfield 33, 3) := by decide +kernel
theorem dX0_ways_4 : decode cX0_ways 4 = .ok (.iconst 1, 1) := by decide +kernel
theorem dX0_ways_5 : decode cX0_ways 5 = .ok (.if_icmp .lt 29, 3) := by decide +kernel
theorem dX0_ways_8 : decode cX0_ways 8 = .ok (.aload_n 0, 1) := by decide +kernel
theorem dX0_ways_9 : decode cX0_ways 9 = .ok (.getfield 33, 3) := by decide +kernel
theorem dX0_ways_12 : decode cX0_ways 12 = .ok (.aload_n 0, 1) := by decide +kernel
theorem dX0_ways_13 : decode cX0_ways 13 = .ok (.getfield 15, 3) := by decide +kernel
theorem dX0_ways_16 : decode cX0_ways 16 = .ok (.arraylength, 1) := by decide +kernel
theorem dX0_ways_17 : decode cX0_ways 17 = .ok (.if_icmp .gt 17, 3) := by decide +kernel
theorem dX0_ways_20 : decode cX0_ways 20 = .ok (.aload_n 0, 1) := by decide +kernel
theorem dX0_ways_21 : decode cX0_ways 21 = .ok (.getfield 15, 3) := by decide +kernel
theorem dX0_ways_24 : decode cX0_ways 24 = .ok (.aload_n 0, 1) := by decide +kernel
theorem dX0_ways_25 : decode cX0_ways 25 = .ok (.getfield 33, 3) := by decide +kernel
theorem dX0_ways_28 : decode cX0_ways 28 = .ok (.iconst 1, 1) := by decide +kernel
theorem dX0_ways_29 : decode cX0_ways 29 = .ok (.isub, 1) := by decide +kernel
theorem dX0_ways_30 : decode cX0_ways 30 = .ok (.iaload, 1) := by decide +kernel
theorem dX0_ways_31 : decode cX0_ways 31 = .ok (.goto 4, 3) := by decide +kernel
theorem dX0_ways_34 : decode cX0_ways 34 = .ok (.iconst 0, 1) := by decide +kernel
theorem dX0_ways_35 : decode cX0_ways 35 = .ok (.ireturn, 1) := by decide +kernel
theorem dX0_wide_0 : decode cX0_wide 0 = .ok (.aload_n 0, 1) := by decide +kernel
theorem dX0_wide_1 : decode cX0_wide 1 = .ok (.getfield 40, 3) := by decide +kernel
theorem dX0_wide_4 : decode cX0_wide 4 = .ok (.ireturn, 1) := by decide +kernel
theorem dX0_find_0 : decode cX0_find 0 = .ok (.aload_n 0, 1) := by decide +kernel
theorem dX0_find_1 : decode cX0_find 1 = .ok (.iconst 0, 1) := by decide +kernel
theorem dX0_find_2 : decode cX0_find 2 = .ok (.putfield 37, 3) := by decide +kernel
theorem dX0_find_5 : decode cX0_find 5 = .ok (.aload_n 0, 1) := by decide +kernel
theorem dX0_find_6 : decode cX0_find 6 = .ok (.iconst 0, 1) := by decide +kernel
theorem dX0_find_7 : decode cX0_find 7 = .ok (.putfield 40, 3) := by decide +kernel
theorem dX0_find_10 : decode cX0_find 10 = .ok (.aload_n 0, 1) := by decide +kernel
theorem dX0_find_11 : decode cX0_find 11 = .ok (.aload_n 1, 1) := by decide +kernel
theorem dX0_find_12 : decode cX0_find 12 = .ok (.invokevirtual 47, 3) := by decide +kernel
theorem dX0_find_15 : decode cX0_find 15 = .ok (.aload_n 0, 1) := by decide +kernel
theorem dX0_find_16 : decode cX0_find 16 = .ok (.getfield 33, 3) := by decide +kernel
theorem dX0_find_19 : decode cX0_find 19 = .ok (.sipush 15625, 3) := by decide +kernel
theorem dX0_find_22 : decode cX0_find 22 = .ok (.if_icmp .le 5, 3) := by decide +kernel
theorem dX0_find_25 : decode cX0_find 25 = .ok (.iconst 0, 1) := by decide +kernel
theorem dX0_find_26 : decode cX0_find 26 = .ok (.ireturn, 1) := by decide +kernel
theorem dX0_find_27 : decode cX0_find 27 = .ok (.aload_n 0, 1) := by decide +kernel
theorem dX0_find_28 : decode cX0_find 28 = .ok (.aload_n 1, 1) := by decide +kernel
theorem dX0_find_29 : decode cX0_find 29 = .ok (.invokevirtual 51, 3) := by decide +kernel
theorem dX0_find_32 : decode cX0_find 32 = .ok (.aload_n 0, 1) := by decide +kernel
theorem dX0_find_33 : decode cX0_find 33 = .ok (.invokevirtual 54, 3) := by decide +kernel
theorem dX0_find_36 : decode cX0_find 36 = .ok (.iconst 0, 1) := by decide +kernel
theorem dX0_find_37 : decode cX0_find 37 = .ok (.istore_n 2, 1) := by decide +kernel
theorem dX0_find_38 : decode cX0_find 38 = .ok (.iload_n 2, 1) := by decide +kernel
theorem dX0_find_39 : decode cX0_find 39 = .ok (.aload_n 0, 1) := by decide +kernel
theorem dX0_find_40 : decode cX0_find 40 = .ok (.getfield 33, 3) := by decide +kernel
theorem dX0_find_43 : decode cX0_find 43 = .ok (.if_icmp .ge 58, 3) := by decide +kernel
theorem dX0_find_46 : decode cX0_find 46 = .ok (.iload_n 2, 1) := by decide +kernel
theorem dX0_find_47 : decode cX0_find 47 = .ok (.aload_n 0, 1) := by decide +kernel
theorem dX0_find_48 : decode cX0_find 48 = .ok (.getfield 11, 3) := by decide +kernel
theorem dX0_find_51 : decode cX0_find 51 = .ok (.arraylength, 1) := by decide +kernel
theorem dX0_find_52 : decode cX0_find 52 = .ok (.if_icmp .ge 49, 3) := by decide +kernel
theorem dX0_find_55 : decode cX0_find 55 = .ok (.aload_n 0, 1) := by decide +kernel
theorem dX0_find_56 : decode cX0_find 56 = .ok (.getfield 11, 3) := by decide +kernel
theorem dX0_find_59 : decode cX0_find 59 = .ok (.iload_n 2, 1) := by decide +kernel
theorem dX0_find_60 : decode cX0_find 60 = .ok (.baload, 1) := by decide +kernel
theorem dX0_find_61 : decode cX0_find 61 = .ok (.iconst 1, 1) := by decide +kernel
theorem dX0_find_62 : decode cX0_find 62 = .ok (.if_icmp .ne 29, 3) := by decide +kernel
theorem dX0_find_65 : decode cX0_find 65 = .ok (.aload_n 0, 1) := by decide +kernel
theorem dX0_find_66 : decode cX0_find 66 = .ok (.dup, 1) := by decide +kernel
theorem dX0_find_67 : decode cX0_find 67 = .ok (.getfield 37, 3) := by decide +kernel
theorem dX0_find_70 : decode cX0_find 70 = .ok (.iconst 1, 1) := by decide +kernel
theorem dX0_find_71 : decode cX0_find 71 = .ok (.iadd, 1) := by decide +kernel
theorem dX0_find_72 : decode cX0_find 72 = .ok (.putfield 37, 3) := by decide +kernel
theorem dX0_find_75 : decode cX0_find 75 = .ok (.aload_n 0, 1) := by decide +kernel
theorem dX0_find_76 : decode cX0_find 76 = .ok (.aload_n 0, 1) := by decide +kernel
theorem dX0_find_77 : decode cX0_find 77 = .ok (.getfield 40, 3) := by decide +kernel
theorem dX0_find_80 : decode cX0_find 80 = .ok (.aload_n 0, 1) := by decide +kernel
theorem dX0_find_81 : decode cX0_find 81 = .ok (.iload_n 2, 1) := by decide +kernel
theorem dX0_find_82 : decode cX0_find 82 = .ok (.invokevirtual 57, 3) := by decide +kernel
theorem dX0_find_85 : decode cX0_find 85 = .ok (.invokestatic 61, 3) := by decide +kernel
theorem dX0_find_88 : decode cX0_find 88 = .ok (.putfield 40, 3) := by decide +kernel
theorem dX0_find_91 : decode cX0_find 91 = .ok (.aload_n 0, 1) := by decide +kernel
theorem dX0_find_92 : decode cX0_find 92 = .ok (.invokevirtual 67, 3) := by decide +kernel
theorem dX0_find_95 : decode cX0_find 95 = .ok (.iinc 2 1, 3) := by decide +kernel
theorem dX0_find_98 : decode cX0_find 98 = .ok (.goto (-60), 3) := by decide +kernel
theorem dX0_find_101 : decode cX0_find 101 = .ok (.iconst 1, 1) := by decide +kernel
theorem dX0_find_102 : decode cX0_find 102 = .ok (.ireturn, 1) := by decide +kernel
theorem dX0_startAtNone_0 : decode cX0_startAtNone 0 = .ok (.aload_n 0, 1) := by decide +kernel
theorem dX0_startAtNone_1 : decode cX0_startAtNone 1 = .ok (.getfield 25, 3) := by decide +kernel
theorem dX0_startAtNone_4 : decode cX0_startAtNone 4 = .ok (.iconst 0, 1) := by decide +kernel
theorem dX0_startAtNone_5 : decode cX0_startAtNone 5 = .ok (.invokestatic 70, 3) := by decide +kernel
theorem dX0_startAtNone_8 : decode cX0_startAtNone 8 = .ok (.iconst 0, 1) := by decide +kernel
theorem dX0_startAtNone_9 : decode cX0_startAtNone 9 = .ok (.istore_n 1, 1) := by decide +kernel
theorem dX0_startAtNone_10 : decode cX0_startAtNone 10 = .ok (.iload_n 1, 1) := by decide +kernel
theorem dX0_startAtNone_11 : decode cX0_startAtNone 11 = .ok (.aload_n 0, 1) := by decide +kernel
theorem dX0_startAtNone_12 : decode cX0_startAtNone 12 = .ok (.getfield 33, 3) := by decide +kernel
theorem dX0_startAtNone_15 : decode cX0_startAtNone 15 = .ok (.if_icmp .ge 41, 3) := by decide +kernel
theorem dX0_startAtNone_18 : decode cX0_startAtNone 18 = .ok (.iload_n 1, 1) := by decide +kernel
theorem dX0_startAtNone_19 : decode cX0_startAtNone 19 = .ok (.aload_n 0, 1) := by decide +kernel
theorem dX0_startAtNone_20 : decode cX0_startAtNone 20 = .ok (.getfield 11, 3) := by decide +kernel
theorem dX0_startAtNone_23 : decode cX0_startAtNone 23 = .ok (.arraylength, 1) := by decide +kernel
theorem dX0_startAtNone_24 : decode cX0_startAtNone 24 = .ok (.if_icmp .ge 32, 3) := by decide +kernel
theorem dX0_startAtNone_27 : decode cX0_startAtNone 27 = .ok (.iload_n 1, 1) := by decide +kernel
theorem dX0_startAtNone_28 : decode cX0_startAtNone 28 = .ok (.aload_n 0, 1) := by decide +kernel
theorem dX0_startAtNone_29 : decode cX0_startAtNone 29 = .ok (.getfield 15, 3) := by decide +kernel
theorem dX0_startAtNone_32 : decode cX0_startAtNone 32 = .ok (.arraylength, 1) := by decide +kernel
theorem dX0_startAtNone_33 : decode cX0_startAtNone 33 = .ok (.if_icmp .ge 23, 3) := by decide +kernel
theorem dX0_startAtNone_36 : decode cX0_startAtNone 36 = .ok (.aload_n 0, 1) := by decide +kernel
theorem dX0_startAtNone_37 : decode cX0_startAtNone 37 = .ok (.getfield 11, 3) := by decide +kernel
theorem dX0_startAtNone_40 : decode cX0_startAtNone 40 = .ok (.iload_n 1, 1) := by decide +kernel
theorem dX0_startAtNone_41 : decode cX0_startAtNone 41 = .ok (.iconst 0, 1) := by decide +kernel
theorem dX0_startAtNone_42 : decode cX0_startAtNone 42 = .ok (.bastore, 1) := by decide +kernel
theorem dX0_startAtNone_43 : decode cX0_startAtNone 43 = .ok (.aload_n 0, 1) := by decide +kernel
theorem dX0_startAtNone_44 : decode cX0_startAtNone 44 = .ok (.getfield 15, 3) := by decide +kernel
theorem dX0_startAtNone_47 : decode cX0_startAtNone 47 = .ok (.iload_n 1, 1) := by decide +kernel
theorem dX0_startAtNone_48 : decode cX0_startAtNone 48 = .ok (.iconst 0, 1) := by decide +kernel
theorem dX0_startAtNone_49 : decode cX0_startAtNone 49 = .ok (.iastore, 1) := by decide +kernel
theorem dX0_startAtNone_50 : decode cX0_startAtNone 50 = .ok (.iinc 1 1, 3) := by decide +kernel
theorem dX0_startAtNone_53 : decode cX0_startAtNone 53 = .ok (.goto (-43), 3) := by decide +kernel
theorem dX0_startAtNone_56 : decode cX0_startAtNone 56 = .ok (.aload_n 0, 1) := by decide +kernel
theorem dX0_startAtNone_57 : decode cX0_startAtNone 57 = .ok (.iconst 0, 1) := by decide +kernel
theorem dX0_startAtNone_58 : decode cX0_startAtNone 58 = .ok (.iconst 1, 1) := by decide +kernel
theorem dX0_startAtNone_59 : decode cX0_startAtNone 59 = .ok (.invokevirtual 76, 3) := by decide +kernel
theorem dX0_startAtNone_62 : decode cX0_startAtNone 62 = .ok (.return_, 1) := by decide +kernel
theorem dX0_measure_0 : decode cX0_measure 0 = .ok (.aload_n 0, 1) := by decide +kernel
theorem dX0_measure_1 : decode cX0_measure 1 = .ok (.iconst 1, 1) := by decide +kernel
theorem dX0_measure_2 : decode cX0_measure 2 = .ok (.putfield 33, 3) := by decide +kernel
theorem dX0_measure_5 : decode cX0_measure 5 = .ok (.iconst 0, 1) := by decide +kernel
theorem dX0_measure_6 : decode cX0_measure 6 = .ok (.istore_n 2, 1) := by decide +kernel
theorem dX0_measure_7 : decode cX0_measure 7 = .ok (.iload_n 2, 1) := by decide +kernel
theorem dX0_measure_8 : decode cX0_measure 8 = .ok (.aload_n 0, 1) := by decide +kernel
theorem dX0_measure_9 : decode cX0_measure 9 = .ok (.getfield 19, 3) := by decide +kernel
theorem dX0_measure_12 : decode cX0_measure 12 = .ok (.arraylength, 1) := by decide +kernel
theorem dX0_measure_13 : decode cX0_measure 13 = .ok (.if_icmp .ge 56, 3) := by decide +kernel
theorem dX0_measure_16 : decode cX0_measure 16 = .ok (.iload_n 2, 1) := by decide +kernel
theorem dX0_measure_17 : decode cX0_measure 17 = .ok (.aload_n 0, 1) := by decide +kernel
theorem dX0_measure_18 : decode cX0_measure 18 = .ok (.getfield 22, 3) := by decide +kernel
theorem dX0_measure_21 : decode cX0_measure 21 = .ok (.arraylength, 1) := by decide +kernel
theorem dX0_measure_22 : decode cX0_measure 22 = .ok (.if_icmp .ge 47, 3) := by decide +kernel
theorem dX0_measure_25 : decode cX0_measure 25 = .ok (.aload_n 0, 1) := by decide +kernel
theorem dX0_measure_26 : decode cX0_measure 26 = .ok (.getfield 19, 3) := by decide +kernel
theorem dX0_measure_29 : decode cX0_measure 29 = .ok (.iload_n 2, 1) := by decide +kernel
theorem dX0_measure_30 : decode cX0_measure 30 = .ok (.aload_n 1, 1) := by decide +kernel
theorem dX0_measure_31 : decode cX0_measure 31 = .ok (.iload_n 2, 1) := by decide +kernel
theorem dX0_measure_32 : decode cX0_measure 32 = .ok (.invokevirtual 80, 3) := by decide +kernel
theorem dX0_measure_35 : decode cX0_measure 35 = .ok (.iastore, 1) := by decide +kernel
theorem dX0_measure_36 : decode cX0_measure 36 = .ok (.aload_n 0, 1) := by decide +kernel
theorem dX0_measure_37 : decode cX0_measure 37 = .ok (.getfield 22, 3) := by decide +kernel
theorem dX0_measure_40 : decode cX0_measure 40 = .ok (.iload_n 2, 1) := by decide +kernel
theorem dX0_measure_41 : decode cX0_measure 41 = .ok (.aload_n 0, 1) := by decide +kernel
theorem dX0_measure_42 : decode cX0_measure 42 = .ok (.getfield 33, 3) := by decide +kernel
theorem dX0_measure_45 : decode cX0_measure 45 = .ok (.iastore, 1) := by decide +kernel
theorem dX0_measure_46 : decode cX0_measure 46 = .ok (.aload_n 0, 1) := by decide +kernel
theorem dX0_measure_47 : decode cX0_measure 47 = .ok (.dup, 1) := by decide +kernel
theorem dX0_measure_48 : decode cX0_measure 48 = .ok (.getfield 33, 3) := by decide +kernel
theorem dX0_measure_51 : decode cX0_measure 51 = .ok (.aload_n 0, 1) := by decide +kernel
theorem dX0_measure_52 : decode cX0_measure 52 = .ok (.getfield 19, 3) := by decide +kernel
theorem dX0_measure_55 : decode cX0_measure 55 = .ok (.iload_n 2, 1) := by decide +kernel
theorem dX0_measure_56 : decode cX0_measure 56 = .ok (.iaload, 1) := by decide +kernel
theorem dX0_measure_57 : decode cX0_measure 57 = .ok (.iconst 1, 1) := by decide +kernel
theorem dX0_measure_58 : decode cX0_measure 58 = .ok (.iadd, 1) := by decide +kernel
theorem dX0_measure_59 : decode cX0_measure 59 = .ok (.imul, 1) := by decide +kernel
theorem dX0_measure_60 : decode cX0_measure 60 = .ok (.putfield 33, 3) := by decide +kernel
theorem dX0_measure_63 : decode cX0_measure 63 = .ok (.iinc 2 1, 3) := by decide +kernel
theorem dX0_measure_66 : decode cX0_measure 66 = .ok (.goto (-59), 3) := by decide +kernel
theorem dX0_measure_69 : decode cX0_measure 69 = .ok (.return_, 1) := by decide +kernel
theorem dX0_noteNeeds_0 : decode cX0_noteNeeds 0 = .ok (.aload_n 0, 1) := by decide +kernel
theorem dX0_noteNeeds_1 : decode cX0_noteNeeds 1 = .ok (.getfield 25, 3) := by decide +kernel
theorem dX0_noteNeeds_4 : decode cX0_noteNeeds 4 = .ok (.iconst 0, 1) := by decide +kernel
theorem dX0_noteNeeds_5 : decode cX0_noteNeeds 5 = .ok (.invokestatic 70, 3) := by decide +kernel
theorem dX0_noteNeeds_8 : decode cX0_noteNeeds 8 = .ok (.iconst 0, 1) := by decide +kernel
theorem dX0_noteNeeds_9 : decode cX0_noteNeeds 9 = .ok (.istore_n 2, 1) := by decide +kernel
theorem dX0_noteNeeds_10 : decode cX0_noteNeeds 10 = .ok (.iload_n 2, 1) := by decide +kernel
theorem dX0_noteNeeds_11 : decode cX0_noteNeeds 11 = .ok (.aload_n 1, 1) := by decide +kernel
theorem dX0_noteNeeds_12 : decode cX0_noteNeeds 12 = .ok (.invokevirtual 85, 3) := by decide +kernel
theorem dX0_noteNeeds_15 : decode cX0_noteNeeds 15 = .ok (.if_icmp .ge 62, 3) := by decide +kernel
theorem dX0_noteNeeds_18 : decode cX0_noteNeeds 18 = .ok (.aload_n 1, 1) := by decide +kernel
theorem dX0_noteNeeds_19 : decode cX0_noteNeeds 19 = .ok (.iload_n 2, 1) := by decide +kernel
theorem dX0_noteNeeds_20 : decode cX0_noteNeeds 20 = .ok (.invokevirtual 89, 3) := by decide +kernel
theorem dX0_noteNeeds_23 : decode cX0_noteNeeds 23 = .ok (.istore_n 3, 1) := by decide +kernel
theorem dX0_noteNeeds_24 : decode cX0_noteNeeds 24 = .ok (.iload_n 3, 1) := by decide +kernel
theorem dX0_noteNeeds_25 : decode cX0_noteNeeds 25 = .ok (.ifCond .lt 12, 3) := by decide +kernel
theorem dX0_noteNeeds_28 : decode cX0_noteNeeds 28 = .ok (.iload_n 3, 1) := by decide +kernel
theorem dX0_noteNeeds_29 : decode cX0_noteNeeds 29 = .ok (.aload_n 0, 1) := by decide +kernel
theorem dX0_noteNeeds_30 : decode cX0_noteNeeds 30 = .ok (.getfield 25, 3) := by decide +kernel
theorem dX0_noteNeeds_33 : decode cX0_noteNeeds 33 = .ok (.arraylength, 1) := by decide +kernel
theorem dX0_noteNeeds_34 : decode cX0_noteNeeds 34 = .ok (.if_icmp .lt 4, 3) := by decide +kernel
theorem dX0_noteNeeds_37 : decode cX0_noteNeeds 37 = .ok (.return_, 1) := by decide +kernel
theorem dX0_noteNeeds_38 : decode cX0_noteNeeds 38 = .ok (.aload_n 0, 1) := by decide +kernel
theorem dX0_noteNeeds_39 : decode cX0_noteNeeds 39 = .ok (.iload_n 3, 1) := by decide +kernel
theorem dX0_noteNeeds_40 : decode cX0_noteNeeds 40 = .ok (.bipush 24, 2) := by decide +kernel
theorem dX0_noteNeeds_42 : decode cX0_noteNeeds 42 = .ok (.imul, 1) := by decide +kernel
theorem dX0_noteNeeds_43 : decode cX0_noteNeeds 43 = .ok (.aload_n 0, 1) := by decide +kernel
theorem dX0_noteNeeds_44 : decode cX0_noteNeeds 44 = .ok (.getfield 25, 3) := by decide +kernel
theorem dX0_noteNeeds_47 : decode cX0_noteNeeds 47 = .ok (.iload_n 3, 1) := by decide +kernel
theorem dX0_noteNeeds_48 : decode cX0_noteNeeds 48 = .ok (.iaload, 1) := by decide +kernel
theorem dX0_noteNeeds_49 : decode cX0_noteNeeds 49 = .ok (.iadd, 1) := by decide +kernel
theorem dX0_noteNeeds_50 : decode cX0_noteNeeds 50 = .ok (.aload_n 0, 1) := by decide +kernel
theorem dX0_noteNeeds_51 : decode cX0_noteNeeds 51 = .ok (.getfield 43, 3) := by decide +kernel
theorem dX0_noteNeeds_54 : decode cX0_noteNeeds 54 = .ok (.iload_n 3, 1) := by decide +kernel
theorem dX0_noteNeeds_55 : decode cX0_noteNeeds 55 = .ok (.invokevirtual 92, 3) := by decide +kernel
theorem dX0_noteNeeds_58 : decode cX0_noteNeeds 58 = .ok (.invokevirtual 97, 3) := by decide +kernel
theorem dX0_noteNeeds_61 : decode cX0_noteNeeds 61 = .ok (.aload_n 0, 1) := by decide +kernel
theorem dX0_noteNeeds_62 : decode cX0_noteNeeds 62 = .ok (.getfield 25, 3) := by decide +kernel
theorem dX0_noteNeeds_65 : decode cX0_noteNeeds 65 = .ok (.iload_n 3, 1) := by decide +kernel
theorem dX0_noteNeeds_66 : decode cX0_noteNeeds 66 = .ok (.dup2, 1) := by decide +kernel
theorem dX0_noteNeeds_67 : decode cX0_noteNeeds 67 = .ok (.iaload, 1) := by decide +kernel
theorem dX0_noteNeeds_68 : decode cX0_noteNeeds 68 = .ok (.iconst 1, 1) := by decide +kernel
theorem dX0_noteNeeds_69 : decode cX0_noteNeeds 69 = .ok (.iadd, 1) := by decide +kernel
theorem dX0_noteNeeds_70 : decode cX0_noteNeeds 70 = .ok (.iastore, 1) := by decide +kernel
theorem dX0_noteNeeds_71 : decode cX0_noteNeeds 71 = .ok (.iinc 2 1, 3) := by decide +kernel
theorem dX0_noteNeeds_74 : decode cX0_noteNeeds 74 = .ok (.goto (-64), 3) := by decide +kernel
theorem dX0_noteNeeds_77 : decode cX0_noteNeeds 77 = .ok (.return_, 1) := by decide +kernel
theorem dX0_noteNeed_0 : decode cX0_noteNeed 0 = .ok (.iload_n 1, 1) := by decide +kernel
theorem dX0_noteNeed_1 : decode cX0_noteNeed 1 = .ok (.ifCond .lt 12, 3) := by decide +kernel
theorem dX0_noteNeed_4 : decode cX0_noteNeed 4 = .ok (.iload_n 1, 1) := by decide +kernel
theorem dX0_noteNeed_5 : decode cX0_noteNeed 5 = .ok (.aload_n 0, 1) := by decide +kernel
theorem dX0_noteNeed_6 : decode cX0_noteNeed 6 = .ok (.getfield 30, 3) := by decide +kernel
theorem dX0_noteNeed_9 : decode cX0_noteNeed 9 = .ok (.arraylength, 1) := by decide +kernel
theorem dX0_noteNeed_10 : decode cX0_noteNeed 10 = .ok (.if_icmp .lt 4, 3) := by decide +kernel
theorem dX0_noteNeed_13 : decode cX0_noteNeed 13 = .ok (.return_, 1) := by decide +kernel
theorem dX0_noteNeed_14 : decode cX0_noteNeed 14 = .ok (.aload_n 0, 1) := by decide +kernel
theorem dX0_noteNeed_15 : decode cX0_noteNeed 15 = .ok (.getfield 30, 3) := by decide +kernel
theorem dX0_noteNeed_18 : decode cX0_noteNeed 18 = .ok (.iload_n 1, 1) := by decide +kernel
theorem dX0_noteNeed_19 : decode cX0_noteNeed 19 = .ok (.aaload, 1) := by decide +kernel
theorem dX0_noteNeed_20 : decode cX0_noteNeed 20 = .ok (.astore_n 3, 1) := by decide +kernel
theorem dX0_noteNeed_21 : decode cX0_noteNeed 21 = .ok (.iconst 0, 1) := by decide +kernel
theorem dX0_noteNeed_22 : decode cX0_noteNeed 22 = .ok (.istore 4, 2) := by decide +kernel
theorem dX0_noteNeed_24 : decode cX0_noteNeed 24 = .ok (.iload 4, 2) := by decide +kernel
theorem dX0_noteNeed_26 : decode cX0_noteNeed 26 = .ok (.aload_n 3, 1) := by decide +kernel
theorem dX0_noteNeed_27 : decode cX0_noteNeed 27 = .ok (.arraylength, 1) := by decide +kernel
theorem dX0_noteNeed_28 : decode cX0_noteNeed 28 = .ok (.if_icmp .ge 44, 3) := by decide +kernel
theorem dX0_noteNeed_31 : decode cX0_noteNeed 31 = .ok (.iload 4, 2) := by decide +kernel
theorem dX0_noteNeed_33 : decode cX0_noteNeed 33 = .ok (.aload_n 0, 1) := by decide +kernel
theorem dX0_noteNeed_34 : decode cX0_noteNeed 34 = .ok (.getfield 25, 3) := by decide +kernel
theorem dX0_noteNeed_37 : decode cX0_noteNeed 37 = .ok (.arraylength, 1) := by decide +kernel
theorem dX0_noteNeed_38 : decode cX0_noteNeed 38 = .ok (.if_icmp .ge 34, 3) := by decide +kernel
theorem dX0_noteNeed_41 : decode cX0_noteNeed 41 = .ok (.aload_n 3, 1) := by decide +kernel
theorem dX0_noteNeed_42 : decode cX0_noteNeed 42 = .ok (.iload 4, 2) := by decide +kernel
theorem dX0_noteNeed_44 : decode cX0_noteNeed 44 = .ok (.iload_n 2, 1) := by decide +kernel
theorem dX0_noteNeed_45 : decode cX0_noteNeed 45 = .ok (.iload 4, 2) := by decide +kernel
theorem dX0_noteNeed_47 : decode cX0_noteNeed 47 = .ok (.ishr, 1) := by decide +kernel
theorem dX0_noteNeed_48 : decode cX0_noteNeed 48 = .ok (.iconst 1, 1) := by decide +kernel
theorem dX0_noteNeed_49 : decode cX0_noteNeed 49 = .ok (.iand, 1) := by decide +kernel
theorem dX0_noteNeed_50 : decode cX0_noteNeed 50 = .ok (.iconst 1, 1) := by decide +kernel
theorem dX0_noteNeed_51 : decode cX0_noteNeed 51 = .ok (.if_icmp .ne 13, 3) := by decide +kernel
theorem dX0_noteNeed_54 : decode cX0_noteNeed 54 = .ok (.aload_n 0, 1) := by decide +kernel
theorem dX0_noteNeed_55 : decode cX0_noteNeed 55 = .ok (.getfield 25, 3) := by decide +kernel
theorem dX0_noteNeed_58 : decode cX0_noteNeed 58 = .ok (.iload 4, 2) := by decide +kernel
theorem dX0_noteNeed_60 : decode cX0_noteNeed 60 = .ok (.iaload, 1) := by decide +kernel
theorem dX0_noteNeed_61 : decode cX0_noteNeed 61 = .ok (.goto 4, 3) := by decide +kernel
theorem dX0_noteNeed_64 : decode cX0_noteNeed 64 = .ok (.iconst 0, 1) := by decide +kernel
theorem dX0_noteNeed_65 : decode cX0_noteNeed 65 = .ok (.iastore, 1) := by decide +kernel
theorem dX0_noteNeed_66 : decode cX0_noteNeed 66 = .ok (.iinc 4 1, 3) := by decide +kernel
theorem dX0_noteNeed_69 : decode cX0_noteNeed 69 = .ok (.goto (-45), 3) := by decide +kernel
theorem dX0_noteNeed_72 : decode cX0_noteNeed 72 = .ok (.return_, 1) := by decide +kernel
theorem dX0_goOnFrom_0 : decode cX0_goOnFrom 0 = .ok (.iconst 0, 1) := by decide +kernel
theorem dX0_goOnFrom_1 : decode cX0_goOnFrom 1 = .ok (.istore_n 2, 1) := by decide +kernel
theorem dX0_goOnFrom_2 : decode cX0_goOnFrom 2 = .ok (.iload_n 1, 1) := by decide +kernel
theorem dX0_goOnFrom_3 : decode cX0_goOnFrom 3 = .ok (.ifCond .lt 21, 3) := by decide +kernel
theorem dX0_goOnFrom_6 : decode cX0_goOnFrom 6 = .ok (.iload_n 1, 1) := by decide +kernel
theorem dX0_goOnFrom_7 : decode cX0_goOnFrom 7 = .ok (.aload_n 0, 1) := by decide +kernel
theorem dX0_goOnFrom_8 : decode cX0_goOnFrom 8 = .ok (.getfield 15, 3) := by decide +kernel
theorem dX0_goOnFrom_11 : decode cX0_goOnFrom 11 = .ok (.arraylength, 1) := by decide +kernel
theorem dX0_goOnFrom_12 : decode cX0_goOnFrom 12 = .ok (.if_icmp .ge 12, 3) := by decide +kernel
theorem dX0_goOnFrom_15 : decode cX0_goOnFrom 15 = .ok (.aload_n 0, 1) := by decide +kernel
theorem dX0_goOnFrom_16 : decode cX0_goOnFrom 16 = .ok (.getfield 15, 3) := by decide +kernel
theorem dX0_goOnFrom_19 : decode cX0_goOnFrom 19 = .ok (.iload_n 1, 1) := by decide +kernel
theorem dX0_goOnFrom_20 : decode cX0_goOnFrom 20 = .ok (.iaload, 1) := by decide +kernel
theorem dX0_goOnFrom_21 : decode cX0_goOnFrom 21 = .ok (.goto 4, 3) := by decide +kernel
theorem dX0_goOnFrom_24 : decode cX0_goOnFrom 24 = .ok (.iconst 0, 1) := by decide +kernel
theorem dX0_goOnFrom_25 : decode cX0_goOnFrom 25 = .ok (.istore_n 3, 1) := by decide +kernel
theorem dX0_goOnFrom_26 : decode cX0_goOnFrom 26 = .ok (.iconst 0, 1) := by decide +kernel
theorem dX0_goOnFrom_27 : decode cX0_goOnFrom 27 = .ok (.istore 4, 2) := by decide +kernel
theorem dX0_goOnFrom_29 : decode cX0_goOnFrom 29 = .ok (.iload 4, 2) := by decide +kernel
theorem dX0_goOnFrom_31 : decode cX0_goOnFrom 31 = .ok (.aload_n 0, 1) := by decide +kernel
theorem dX0_goOnFrom_32 : decode cX0_goOnFrom 32 = .ok (.getfield 25, 3) := by decide +kernel
theorem dX0_goOnFrom_35 : decode cX0_goOnFrom 35 = .ok (.arraylength, 1) := by decide +kernel
theorem dX0_goOnFrom_36 : decode cX0_goOnFrom 36 = .ok (.if_icmp .ge 83, 3) := by decide +kernel
theorem dX0_goOnFrom_39 : decode cX0_goOnFrom 39 = .ok (.iload 4, 2) := by decide +kernel
theorem dX0_goOnFrom_41 : decode cX0_goOnFrom 41 = .ok (.aload_n 0, 1) := by decide +kernel
theorem dX0_goOnFrom_42 : decode cX0_goOnFrom 42 = .ok (.getfield 19, 3) := by decide +kernel
theorem dX0_goOnFrom_45 : decode cX0_goOnFrom 45 = .ok (.arraylength, 1) := by decide +kernel
theorem dX0_goOnFrom_46 : decode cX0_goOnFrom 46 = .ok (.if_icmp .ge 73, 3) := by decide +kernel
theorem dX0_goOnFrom_49 : decode cX0_goOnFrom 49 = .ok (.iload 4, 2) := by decide +kernel
theorem dX0_goOnFrom_51 : decode cX0_goOnFrom 51 = .ok (.aload_n 0, 1) := by decide +kernel
theorem dX0_goOnFrom_52 : decode cX0_goOnFrom 52 = .ok (.getfield 22, 3) := by decide +kernel
theorem dX0_goOnFrom_55 : decode cX0_goOnFrom 55 = .ok (.arraylength, 1) := by decide +kernel
theorem dX0_goOnFrom_56 : decode cX0_goOnFrom 56 = .ok (.if_icmp .ge 63, 3) := by decide +kernel
theorem dX0_goOnFrom_59 : decode cX0_goOnFrom 59 = .ok (.aload_n 0, 1) := by decide +kernel
theorem dX0_goOnFrom_60 : decode cX0_goOnFrom 60 = .ok (.getfield 25, 3) := by decide +kernel
theorem dX0_goOnFrom_63 : decode cX0_goOnFrom 63 = .ok (.iload 4, 2) := by decide +kernel
theorem dX0_goOnFrom_65 : decode cX0_goOnFrom 65 = .ok (.iaload, 1) := by decide +kernel
theorem dX0_goOnFrom_66 : decode cX0_goOnFrom 66 = .ok (.aload_n 0, 1) := by decide +kernel
theorem dX0_goOnFrom_67 : decode cX0_goOnFrom 67 = .ok (.getfield 19, 3) := by decide +kernel
theorem dX0_goOnFrom_70 : decode cX0_goOnFrom 70 = .ok (.iload 4, 2) := by decide +kernel
theorem dX0_goOnFrom_72 : decode cX0_goOnFrom 72 = .ok (.iaload, 1) := by decide +kernel
theorem dX0_goOnFrom_73 : decode cX0_goOnFrom 73 = .ok (.if_icmp .ge 40, 3) := by decide +kernel
theorem dX0_goOnFrom_76 : decode cX0_goOnFrom 76 = .ok (.aload_n 0, 1) := by decide +kernel
theorem dX0_goOnFrom_77 : decode cX0_goOnFrom 77 = .ok (.iload 4, 2) := by decide +kernel
theorem dX0_goOnFrom_79 : decode cX0_goOnFrom 79 = .ok (.bipush 24, 2) := by decide +kernel
theorem dX0_goOnFrom_81 : decode cX0_goOnFrom 81 = .ok (.imul, 1) := by decide +kernel
theorem dX0_goOnFrom_82 : decode cX0_goOnFrom 82 = .ok (.aload_n 0, 1) := by decide +kernel
theorem dX0_goOnFrom_83 : decode cX0_goOnFrom 83 = .ok (.getfield 25, 3) := by decide +kernel
theorem dX0_goOnFrom_86 : decode cX0_goOnFrom 86 = .ok (.iload 4, 2) := by decide +kernel
theorem dX0_goOnFrom_88 : decode cX0_goOnFrom 88 = .ok (.iaload, 1) := by decide +kernel
theorem dX0_goOnFrom_89 : decode cX0_goOnFrom 89 = .ok (.iadd, 1) := by decide +kernel
theorem dX0_goOnFrom_90 : decode cX0_goOnFrom 90 = .ok (.invokevirtual 100, 3) := by decide +kernel
theorem dX0_goOnFrom_93 : decode cX0_goOnFrom 93 = .ok (.ifCond .eq 20, 3) := by decide +kernel
theorem dX0_goOnFrom_96 : decode cX0_goOnFrom 96 = .ok (.iinc 2 1, 3) := by decide +kernel
theorem dX0_goOnFrom_99 : decode cX0_goOnFrom 99 = .ok (.aload_n 0, 1) := by decide +kernel
theorem dX0_goOnFrom_100 : decode cX0_goOnFrom 100 = .ok (.iload_n 1, 1) := by decide +kernel
theorem dX0_goOnFrom_101 : decode cX0_goOnFrom 101 = .ok (.aload_n 0, 1) := by decide +kernel
theorem dX0_goOnFrom_102 : decode cX0_goOnFrom 102 = .ok (.getfield 22, 3) := by decide +kernel
theorem dX0_goOnFrom_105 : decode cX0_goOnFrom 105 = .ok (.iload 4, 2) := by decide +kernel
theorem dX0_goOnFrom_107 : decode cX0_goOnFrom 107 = .ok (.iaload, 1) := by decide +kernel
theorem dX0_goOnFrom_108 : decode cX0_goOnFrom 108 = .ok (.iadd, 1) := by decide +kernel
theorem dX0_goOnFrom_109 : decode cX0_goOnFrom 109 = .ok (.iload_n 3, 1) := by decide +kernel
theorem dX0_goOnFrom_110 : decode cX0_goOnFrom 110 = .ok (.invokevirtual 76, 3) := by decide +kernel
theorem dX0_goOnFrom_113 : decode cX0_goOnFrom 113 = .ok (.iinc 4 1, 3) := by decide +kernel
theorem dX0_goOnFrom_116 : decode cX0_goOnFrom 116 = .ok (.goto (-87), 3) := by decide +kernel
theorem dX0_goOnFrom_119 : decode cX0_goOnFrom 119 = .ok (.iload_n 2, 1) := by decide +kernel
theorem dX0_goOnFrom_120 : decode cX0_goOnFrom 120 = .ok (.ireturn, 1) := by decide +kernel
theorem dX0_isOpen_0 : decode cX0_isOpen 0 = .ok (.iload_n 1, 1) := by decide +kernel
theorem dX0_isOpen_1 : decode cX0_isOpen 1 = .ok (.ifCond .lt 12, 3) := by decide +kernel
theorem dX0_isOpen_4 : decode cX0_isOpen 4 = .ok (.iload_n 1, 1) := by decide +kernel
theorem dX0_isOpen_5 : decode cX0_isOpen 5 = .ok (.aload_n 0, 1) := by decide +kernel
theorem dX0_isOpen_6 : decode cX0_isOpen 6 = .ok (.getfield 30, 3) := by decide +kernel
theorem dX0_isOpen_9 : decode cX0_isOpen 9 = .ok (.arraylength, 1) := by decide +kernel
theorem dX0_isOpen_10 : decode cX0_isOpen 10 = .ok (.if_icmp .lt 5, 3) := by decide +kernel
theorem dX0_isOpen_13 : decode cX0_isOpen 13 = .ok (.iconst 0, 1) := by decide +kernel
theorem dX0_isOpen_14 : decode cX0_isOpen 14 = .ok (.ireturn, 1) := by decide +kernel
theorem dX0_isOpen_15 : decode cX0_isOpen 15 = .ok (.aload_n 0, 1) := by decide +kernel
theorem dX0_isOpen_16 : decode cX0_isOpen 16 = .ok (.getfield 30, 3) := by decide +kernel
theorem dX0_isOpen_19 : decode cX0_isOpen 19 = .ok (.iload_n 1, 1) := by decide +kernel
theorem dX0_isOpen_20 : decode cX0_isOpen 20 = .ok (.aaload, 1) := by decide +kernel
theorem dX0_isOpen_21 : decode cX0_isOpen 21 = .ok (.astore_n 2, 1) := by decide +kernel
theorem dX0_isOpen_22 : decode cX0_isOpen 22 = .ok (.iconst 0, 1) := by decide +kernel
theorem dX0_isOpen_23 : decode cX0_isOpen 23 = .ok (.istore_n 3, 1) := by decide +kernel
theorem dX0_isOpen_24 : decode cX0_isOpen 24 = .ok (.iload_n 3, 1) := by decide +kernel
theorem dX0_isOpen_25 : decode cX0_isOpen 25 = .ok (.aload_n 2, 1) := by decide +kernel
theorem dX0_isOpen_26 : decode cX0_isOpen 26 = .ok (.arraylength, 1) := by decide +kernel
theorem dX0_isOpen_27 : decode cX0_isOpen 27 = .ok (.if_icmp .ge 32, 3) := by decide +kernel
theorem dX0_isOpen_30 : decode cX0_isOpen 30 = .ok (.iload_n 3, 1) := by decide +kernel
theorem dX0_isOpen_31 : decode cX0_isOpen 31 = .ok (.aload_n 0, 1) := by decide +kernel
theorem dX0_isOpen_32 : decode cX0_isOpen 32 = .ok (.getfield 25, 3) := by decide +kernel
theorem dX0_isOpen_35 : decode cX0_isOpen 35 = .ok (.arraylength, 1) := by decide +kernel
theorem dX0_isOpen_36 : decode cX0_isOpen 36 = .ok (.if_icmp .ge 23, 3) := by decide +kernel
theorem dX0_isOpen_39 : decode cX0_isOpen 39 = .ok (.aload_n 2, 1) := by decide +kernel
theorem dX0_isOpen_40 : decode cX0_isOpen 40 = .ok (.iload_n 3, 1) := by decide +kernel
theorem dX0_isOpen_41 : decode cX0_isOpen 41 = .ok (.iaload, 1) := by decide +kernel
theorem dX0_isOpen_42 : decode cX0_isOpen 42 = .ok (.aload_n 0, 1) := by decide +kernel
theorem dX0_isOpen_43 : decode cX0_isOpen 43 = .ok (.getfield 25, 3) := by decide +kernel
theorem dX0_isOpen_46 : decode cX0_isOpen 46 = .ok (.iload_n 3, 1) := by decide +kernel
theorem dX0_isOpen_47 : decode cX0_isOpen 47 = .ok (.iaload, 1) := by decide +kernel
theorem dX0_isOpen_48 : decode cX0_isOpen 48 = .ok (.if_icmp .le 5, 3) := by decide +kernel
theorem dX0_isOpen_51 : decode cX0_isOpen 51 = .ok (.iconst 0, 1) := by decide +kernel
theorem dX0_isOpen_52 : decode cX0_isOpen 52 = .ok (.ireturn, 1) := by decide +kernel
theorem dX0_isOpen_53 : decode cX0_isOpen 53 = .ok (.iinc 3 1, 3) := by decide +kernel
theorem dX0_isOpen_56 : decode cX0_isOpen 56 = .ok (.goto (-32), 3) := by decide +kernel
theorem dX0_isOpen_59 : decode cX0_isOpen 59 = .ok (.iconst 1, 1) := by decide +kernel
theorem dX0_isOpen_60 : decode cX0_isOpen 60 = .ok (.ireturn, 1) := by decide +kernel
theorem dX0_reach_0 : decode cX0_reach 0 = .ok (.iload_n 1, 1) := by decide +kernel
theorem dX0_reach_1 : decode cX0_reach 1 = .ok (.ifCond .lt 45, 3) := by decide +kernel
theorem dX0_reach_4 : decode cX0_reach 4 = .ok (.iload_n 1, 1) := by decide +kernel
theorem dX0_reach_5 : decode cX0_reach 5 = .ok (.aload_n 0, 1) := by decide +kernel
theorem dX0_reach_6 : decode cX0_reach 6 = .ok (.getfield 11, 3) := by decide +kernel
theorem dX0_reach_9 : decode cX0_reach 9 = .ok (.arraylength, 1) := by decide +kernel
theorem dX0_reach_10 : decode cX0_reach 10 = .ok (.if_icmp .ge 36, 3) := by decide +kernel
theorem dX0_reach_13 : decode cX0_reach 13 = .ok (.iload_n 1, 1) := by decide +kernel
theorem dX0_reach_14 : decode cX0_reach 14 = .ok (.aload_n 0, 1) := by decide +kernel
theorem dX0_reach_15 : decode cX0_reach 15 = .ok (.getfield 15, 3) := by decide +kernel
theorem dX0_reach_18 : decode cX0_reach 18 = .ok (.arraylength, 1) := by decide +kernel
theorem dX0_reach_19 : decode cX0_reach 19 = .ok (.if_icmp .ge 27, 3) := by decide +kernel
theorem dX0_reach_22 : decode cX0_reach 22 = .ok (.aload_n 0, 1) := by decide +kernel
theorem dX0_reach_23 : decode cX0_reach 23 = .ok (.getfield 11, 3) := by decide +kernel
theorem dX0_reach_26 : decode cX0_reach 26 = .ok (.iload_n 1, 1) := by decide +kernel
theorem dX0_reach_27 : decode cX0_reach 27 = .ok (.iconst 1, 1) := by decide +kernel
theorem dX0_reach_28 : decode cX0_reach 28 = .ok (.bastore, 1) := by decide +kernel
theorem dX0_reach_29 : decode cX0_reach 29 = .ok (.aload_n 0, 1) := by decide +kernel
theorem dX0_reach_30 : decode cX0_reach 30 = .ok (.getfield 15, 3) := by decide +kernel
theorem dX0_reach_33 : decode cX0_reach 33 = .ok (.iload_n 1, 1) := by decide +kernel
theorem dX0_reach_34 : decode cX0_reach 34 = .ok (.aload_n 0, 1) := by decide +kernel
theorem dX0_reach_35 : decode cX0_reach 35 = .ok (.getfield 15, 3) := by decide +kernel
theorem dX0_reach_38 : decode cX0_reach 38 = .ok (.iload_n 1, 1) := by decide +kernel
theorem dX0_reach_39 : decode cX0_reach 39 = .ok (.iaload, 1) := by decide +kernel
theorem dX0_reach_40 : decode cX0_reach 40 = .ok (.iload_n 2, 1) := by decide +kernel
theorem dX0_reach_41 : decode cX0_reach 41 = .ok (.iadd, 1) := by decide +kernel
theorem dX0_reach_42 : decode cX0_reach 42 = .ok (.ldc 104, 2) := by decide +kernel
theorem dX0_reach_44 : decode cX0_reach 44 = .ok (.irem, 1) := by decide +kernel
theorem dX0_reach_45 : decode cX0_reach 45 = .ok (.iastore, 1) := by decide +kernel
theorem dX0_reach_46 : decode cX0_reach 46 = .ok (.return_, 1) := by decide +kernel
theorem dX0_stepCounts_0 : decode cX0_stepCounts 0 = .ok (.iconst 0, 1) := by decide +kernel
theorem dX0_stepCounts_1 : decode cX0_stepCounts 1 = .ok (.istore_n 1, 1) := by decide +kernel
theorem dX0_stepCounts_2 : decode cX0_stepCounts 2 = .ok (.iload_n 1, 1) := by decide +kernel
theorem dX0_stepCounts_3 : decode cX0_stepCounts 3 = .ok (.aload_n 0, 1) := by decide +kernel
theorem dX0_stepCounts_4 : decode cX0_stepCounts 4 = .ok (.getfield 25, 3) := by decide +kernel
theorem dX0_stepCounts_7 : decode cX0_stepCounts 7 = .ok (.arraylength, 1) := by decide +kernel
theorem dX0_stepCounts_8 : decode cX0_stepCounts 8 = .ok (.if_icmp .ge 51, 3) := by decide +kernel
theorem dX0_stepCounts_11 : decode cX0_stepCounts 11 = .ok (.iload_n 1, 1) := by decide +kernel
theorem dX0_stepCounts_12 : decode cX0_stepCounts 12 = .ok (.aload_n 0, 1) := by decide +kernel
theorem dX0_stepCounts_13 : decode cX0_stepCounts 13 = .ok (.getfield 19, 3) := by decide +kernel
theorem dX0_stepCounts_16 : decode cX0_stepCounts 16 = .ok (.arraylength, 1) := by decide +kernel
theorem dX0_stepCounts_17 : decode cX0_stepCounts 17 = .ok (.if_icmp .ge 42, 3) := by decide +kernel
theorem dX0_stepCounts_20 : decode cX0_stepCounts 20 = .ok (.aload_n 0, 1) := by decide +kernel
theorem dX0_stepCounts_21 : decode cX0_stepCounts 21 = .ok (.getfield 25, 3) := by decide +kernel
theorem dX0_stepCounts_24 : decode cX0_stepCounts 24 = .ok (.iload_n 1, 1) := by decide +kernel
theorem dX0_stepCounts_25 : decode cX0_stepCounts 25 = .ok (.iaload, 1) := by decide +kernel
theorem dX0_stepCounts_26 : decode cX0_stepCounts 26 = .ok (.aload_n 0, 1) := by decide +kernel
theorem dX0_stepCounts_27 : decode cX0_stepCounts 27 = .ok (.getfield 19, 3) := by decide +kernel
theorem dX0_stepCounts_30 : decode cX0_stepCounts 30 = .ok (.iload_n 1, 1) := by decide +kernel
theorem dX0_stepCounts_31 : decode cX0_stepCounts 31 = .ok (.iaload, 1) := by decide +kernel
theorem dX0_stepCounts_32 : decode cX0_stepCounts 32 = .ok (.if_icmp .ge 14, 3) := by decide +kernel
theorem dX0_stepCounts_35 : decode cX0_stepCounts 35 = .ok (.aload_n 0, 1) := by decide +kernel
theorem dX0_stepCounts_36 : decode cX0_stepCounts 36 = .ok (.getfield 25, 3) := by decide +kernel
theorem dX0_stepCounts_39 : decode cX0_stepCounts 39 = .ok (.iload_n 1, 1) := by decide +kernel
theorem dX0_stepCounts_40 : decode cX0_stepCounts 40 = .ok (.dup2, 1) := by decide +kernel
theorem dX0_stepCounts_41 : decode cX0_stepCounts 41 = .ok (.iaload, 1) := by decide +kernel
theorem dX0_stepCounts_42 : decode cX0_stepCounts 42 = .ok (.iconst 1, 1) := by decide +kernel
theorem dX0_stepCounts_43 : decode cX0_stepCounts 43 = .ok (.iadd, 1) := by decide +kernel
theorem dX0_stepCounts_44 : decode cX0_stepCounts 44 = .ok (.iastore, 1) := by decide +kernel
theorem dX0_stepCounts_45 : decode cX0_stepCounts 45 = .ok (.return_, 1) := by decide +kernel
theorem dX0_stepCounts_46 : decode cX0_stepCounts 46 = .ok (.aload_n 0, 1) := by decide +kernel
theorem dX0_stepCounts_47 : decode cX0_stepCounts 47 = .ok (.getfield 25, 3) := by decide +kernel
theorem dX0_stepCounts_50 : decode cX0_stepCounts 50 = .ok (.iload_n 1, 1) := by decide +kernel
theorem dX0_stepCounts_51 : decode cX0_stepCounts 51 = .ok (.iconst 0, 1) := by decide +kernel
theorem dX0_stepCounts_52 : decode cX0_stepCounts 52 = .ok (.iastore, 1) := by decide +kernel
theorem dX0_stepCounts_53 : decode cX0_stepCounts 53 = .ok (.iinc 1 1, 3) := by decide +kernel
theorem dX0_stepCounts_56 : decode cX0_stepCounts 56 = .ok (.goto (-54), 3) := by decide +kernel
theorem dX0_stepCounts_59 : decode cX0_stepCounts 59 = .ok (.return_, 1) := by decide +kernel
theorem dX1_init_0 : decode cX1_init 0 = .ok (.aload_n 0, 1) := by decide +kernel
theorem dX1_init_1 : decode cX1_init 1 = .ok (.invokespecial 3, 3) := by decide +kernel
theorem dX1_init_4 : decode cX1_init 4 = .ok (.aload_n 0, 1) := by decide +kernel
theorem dX1_init_5 : decode cX1_init 5 = .ok (.sipush 2000, 3) := by decide +kernel
theorem dX1_init_8 : decode cX1_init 8 = .ok (.newarray .long, 2) := by decide +kernel
theorem dX1_init_10 : decode cX1_init 10 = .ok (.putfield 11, 3) := by decide +kernel
theorem dX1_init_13 : decode cX1_init 13 = .ok (.aload_n 0, 1) := by decide +kernel
theorem dX1_init_14 : decode cX1_init 14 = .ok (.sipush 4096, 3) := by decide +kernel
theorem dX1_init_17 : decode cX1_init 17 = .ok (.newarray .long, 2) := by decide +kernel
theorem dX1_init_19 : decode cX1_init 19 = .ok (.putfield 15, 3) := by decide +kernel
theorem dX1_init_22 : decode cX1_init 22 = .ok (.aload_n 0, 1) := by decide +kernel
theorem dX1_init_23 : decode cX1_init 23 = .ok (.new 18, 3) := by decide +kernel
theorem dX1_init_26 : decode cX1_init 26 = .ok (.dup, 1) := by decide +kernel
theorem dX1_init_27 : decode cX1_init 27 = .ok (.invokespecial 20, 3) := by decide +kernel
theorem dX1_init_30 : decode cX1_init 30 = .ok (.putfield 21, 3) := by decide +kernel
theorem dX1_init_33 : decode cX1_init 33 = .ok (.aload_n 0, 1) := by decide +kernel
theorem dX1_init_34 : decode cX1_init 34 = .ok (.new 18, 3) := by decide +kernel
theorem dX1_init_37 : decode cX1_init 37 = .ok (.dup, 1) := by decide +kernel
theorem dX1_init_38 : decode cX1_init 38 = .ok (.invokespecial 20, 3) := by decide +kernel
theorem dX1_init_41 : decode cX1_init 41 = .ok (.putfield 25, 3) := by decide +kernel
theorem dX1_init_44 : decode cX1_init 44 = .ok (.aload_n 0, 1) := by decide +kernel
theorem dX1_init_45 : decode cX1_init 45 = .ok (.iconst 0, 1) := by decide +kernel
theorem dX1_init_46 : decode cX1_init 46 = .ok (.putfield 28, 3) := by decide +kernel
theorem dX1_init_49 : decode cX1_init 49 = .ok (.aload_n 0, 1) := by decide +kernel
theorem dX1_init_50 : decode cX1_init 50 = .ok (.aload_n 1, 1) := by decide +kernel
theorem dX1_init_51 : decode cX1_init 51 = .ok (.putfield 32, 3) := by decide +kernel
theorem dX1_init_54 : decode cX1_init 54 = .ok (.aload_n 0, 1) := by decide +kernel
theorem dX1_init_55 : decode cX1_init 55 = .ok (.aload_n 2, 1) := by decide +kernel
theorem dX1_init_56 : decode cX1_init 56 = .ok (.putfield 36, 3) := by decide +kernel
theorem dX1_init_59 : decode cX1_init 59 = .ok (.return_, 1) := by decide +kernel
theorem dX1_found_0 : decode cX1_found 0 = .ok (.aload_n 0, 1) := by decide +kernel
theorem dX1_found_1 : decode cX1_found 1 = .ok (.getfield 28, 3) := by decide +kernel
theorem dX1_found_4 : decode cX1_found 4 = .ok (.ireturn, 1) := by decide +kernel
theorem dX1_find_0 : decode cX1_find 0 = .ok (.aload_n 0, 1) := by decide +kernel
theorem dX1_find_1 : decode cX1_find 1 = .ok (.iconst 0, 1) := by decide +kernel
theorem dX1_find_2 : decode cX1_find 2 = .ok (.putfield 28, 3) := by decide +kernel
theorem dX1_find_5 : decode cX1_find 5 = .ok (.aload_n 0, 1) := by decide +kernel
theorem dX1_find_6 : decode cX1_find 6 = .ok (.getfield 15, 3) := by decide +kernel
theorem dX1_find_9 : decode cX1_find 9 = .ok (.lconst 0, 1) := by decide +kernel
theorem dX1_find_10 : decode cX1_find 10 = .ok (.invokestatic 40, 3) := by decide +kernel
theorem dX1_find_13 : decode cX1_find 13 = .ok (.aload_n 0, 1) := by decide +kernel
theorem dX1_find_14 : decode cX1_find 14 = .ok (.aload_n 0, 1) := by decide +kernel
theorem dX1_find_15 : decode cX1_find 15 = .ok (.aload_n 1, 1) := by decide +kernel
theorem dX1_find_16 : decode cX1_find 16 = .ok (.invokevirtual 46, 3) := by decide +kernel
theorem dX1_find_19 : decode cX1_find 19 = .ok (.invokevirtual 50, 3) := by decide +kernel
theorem dX1_find_22 : decode cX1_find 22 = .ok (.ifCond .ne 5, 3) := by decide +kernel
theorem dX1_find_25 : decode cX1_find 25 = .ok (.iconst 0, 1) := by decide +kernel
theorem dX1_find_26 : decode cX1_find 26 = .ok (.ireturn, 1) := by decide +kernel
theorem dX1_find_27 : decode cX1_find 27 = .ok (.iconst 0, 1) := by decide +kernel
theorem dX1_find_28 : decode cX1_find 28 = .ok (.istore_n 2, 1) := by decide +kernel
theorem dX1_find_29 : decode cX1_find 29 = .ok (.iload_n 2, 1) := by decide +kernel
theorem dX1_find_30 : decode cX1_find 30 = .ok (.aload_n 0, 1) := by decide +kernel
theorem dX1_find_31 : decode cX1_find 31 = .ok (.getfield 28, 3) := by decide +kernel
theorem dX1_find_34 : decode cX1_find 34 = .ok (.if_icmp .ge 33, 3) := by decide +kernel
theorem dX1_find_37 : decode cX1_find 37 = .ok (.iload_n 2, 1) := by decide +kernel
theorem dX1_find_38 : decode cX1_find 38 = .ok (.aload_n 0, 1) := by decide +kernel
theorem dX1_find_39 : decode cX1_find 39 = .ok (.getfield 11, 3) := by decide +kernel
theorem dX1_find_42 : decode cX1_find 42 = .ok (.arraylength, 1) := by decide +kernel
theorem dX1_find_43 : decode cX1_find 43 = .ok (.if_icmp .ge 24, 3) := by decide +kernel
theorem dX1_find_46 : decode cX1_find 46 = .ok (.aload_n 0, 1) := by decide +kernel
theorem dX1_find_47 : decode cX1_find 47 = .ok (.aload_n 0, 1) := by decide +kernel
theorem dX1_find_48 : decode cX1_find 48 = .ok (.getfield 11, 3) := by decide +kernel
theorem dX1_find_51 : decode cX1_find 51 = .ok (.iload_n 2, 1) := by decide +kernel
theorem dX1_find_52 : decode cX1_find 52 = .ok (.laload, 1) := by decide +kernel
theorem dX1_find_53 : decode cX1_find 53 = .ok (.invokevirtual 54, 3) := by decide +kernel
theorem dX1_find_56 : decode cX1_find 56 = .ok (.ifCond .ne 5, 3) := by decide +kernel
theorem dX1_find_59 : decode cX1_find 59 = .ok (.iconst 0, 1) := by decide +kernel
theorem dX1_find_60 : decode cX1_find 60 = .ok (.ireturn, 1) := by decide +kernel
theorem dX1_find_61 : decode cX1_find 61 = .ok (.iinc 2 1, 3) := by decide +kernel
theorem dX1_find_64 : decode cX1_find 64 = .ok (.goto (-35), 3) := by decide +kernel
theorem dX1_find_67 : decode cX1_find 67 = .ok (.iconst 1, 1) := by decide +kernel
theorem dX1_find_68 : decode cX1_find 68 = .ok (.ireturn, 1) := by decide +kernel
theorem dX1_holds_0 : decode cX1_holds 0 = .ok (.aload_n 1, 1) := by decide +kernel
theorem dX1_holds_1 : decode cX1_holds 1 = .ok (.invokevirtual 57, 3) := by decide +kernel
theorem dX1_holds_4 : decode cX1_holds 4 = .ok (.bipush 12, 2) := by decide +kernel
theorem dX1_holds_6 : decode cX1_holds 6 = .ok (.if_icmp .le 5, 3) := by decide +kernel
theorem dX1_holds_9 : decode cX1_holds 9 = .ok (.iconst 0, 1) := by decide +kernel
theorem dX1_holds_10 : decode cX1_holds 10 = .ok (.ireturn, 1) := by decide +kernel
theorem dX1_holds_11 : decode cX1_holds 11 = .ok (.aload_n 0, 1) := by decide +kernel
theorem dX1_holds_12 : decode cX1_holds 12 = .ok (.aload_n 1, 1) := by decide +kernel
theorem dX1_holds_13 : decode cX1_holds 13 = .ok (.invokevirtual 46, 3) := by decide +kernel
theorem dX1_holds_16 : decode cX1_holds 16 = .ok (.lstore_n 2, 1) := by decide +kernel
theorem dX1_holds_17 : decode cX1_holds 17 = .ok (.aload_n 0, 1) := by decide +kernel
theorem dX1_holds_18 : decode cX1_holds 18 = .ok (.lload_n 2, 1) := by decide +kernel
theorem dX1_holds_19 : decode cX1_holds 19 = .ok (.invokevirtual 61, 3) := by decide +kernel
theorem dX1_holds_22 : decode cX1_holds 22 = .ok (.istore 4, 2) := by decide +kernel
theorem dX1_holds_24 : decode cX1_holds 24 = .ok (.iload 4, 2) := by decide +kernel
theorem dX1_holds_26 : decode cX1_holds 26 = .ok (.ifCond .lt 29, 3) := by decide +kernel
theorem dX1_holds_29 : decode cX1_holds 29 = .ok (.iload 4, 2) := by decide +kernel
theorem dX1_holds_31 : decode cX1_holds 31 = .ok (.aload_n 0, 1) := by decide +kernel
theorem dX1_holds_32 : decode cX1_holds 32 = .ok (.getfield 15, 3) := by decide +kernel
theorem dX1_holds_35 : decode cX1_holds 35 = .ok (.arraylength, 1) := by decide +kernel
theorem dX1_holds_36 : decode cX1_holds 36 = .ok (.if_icmp .ge 19, 3) := by decide +kernel
theorem dX1_holds_39 : decode cX1_holds 39 = .ok (.aload_n 0, 1) := by decide +kernel
theorem dX1_holds_40 : decode cX1_holds 40 = .ok (.getfield 15, 3) := by decide +kernel
theorem dX1_holds_43 : decode cX1_holds 43 = .ok (.iload 4, 2) := by decide +kernel
theorem dX1_holds_45 : decode cX1_holds 45 = .ok (.laload, 1) := by decide +kernel
theorem dX1_holds_46 : decode cX1_holds 46 = .ok (.lload_n 2, 1) := by decide +kernel
theorem dX1_holds_47 : decode cX1_holds 47 = .ok (.lcmp, 1) := by decide +kernel
theorem dX1_holds_48 : decode cX1_holds 48 = .ok (.ifCond .ne 7, 3) := by decide +kernel
theorem dX1_holds_51 : decode cX1_holds 51 = .ok (.iconst 1, 1) := by decide +kernel
theorem dX1_holds_52 : decode cX1_holds 52 = .ok (.goto 4, 3) := by decide +kernel
theorem dX1_holds_55 : decode cX1_holds 55 = .ok (.iconst 0, 1) := by decide +kernel
theorem dX1_holds_56 : decode cX1_holds 56 = .ok (.ireturn, 1) := by decide +kernel
theorem dX1_keepTurned_0 : decode cX1_keepTurned 0 = .ok (.iconst 0, 1) := by decide +kernel
theorem dX1_keepTurned_1 : decode cX1_keepTurned 1 = .ok (.istore_n 3, 1) := by decide +kernel
theorem dX1_keepTurned_2 : decode cX1_keepTurned 2 = .ok (.iload_n 3, 1) := by decide +kernel
theorem dX1_keepTurned_3 : decode cX1_keepTurned 3 = .ok (.aload_n 0, 1) := by decide +kernel
theorem dX1_keepTurned_4 : decode cX1_keepTurned 4 = .ok (.getfield 32, 3) := by decide +kernel
theorem dX1_keepTurned_7 : decode cX1_keepTurned 7 = .ok (.invokevirtual 65, 3) := by decide +kernel
theorem dX1_keepTurned_10 : decode cX1_keepTurned 10 = .ok (.if_icmp .ge 58, 3) := by decide +kernel
theorem dX1_keepTurned_13 : decode cX1_keepTurned 13 = .ok (.aload_n 0, 1) := by decide +kernel
theorem dX1_keepTurned_14 : decode cX1_keepTurned 14 = .ok (.getfield 21, 3) := by decide +kernel
theorem dX1_keepTurned_17 : decode cX1_keepTurned 17 = .ok (.lload_n 1, 1) := by decide +kernel
theorem dX1_keepTurned_18 : decode cX1_keepTurned 18 = .ok (.invokestatic 70, 3) := by decide +kernel
theorem dX1_keepTurned_21 : decode cX1_keepTurned 21 = .ok (.aload_n 0, 1) := by decide +kernel
theorem dX1_keepTurned_22 : decode cX1_keepTurned 22 = .ok (.getfield 36, 3) := by decide +kernel
theorem dX1_keepTurned_25 : decode cX1_keepTurned 25 = .ok (.aload_n 0, 1) := by decide +kernel
theorem dX1_keepTurned_26 : decode cX1_keepTurned 26 = .ok (.getfield 21, 3) := by decide +kernel
theorem dX1_keepTurned_29 : decode cX1_keepTurned 29 = .ok (.iload_n 3, 1) := by decide +kernel
theorem dX1_keepTurned_30 : decode cX1_keepTurned 30 = .ok (.invokevirtual 74, 3) := by decide +kernel
theorem dX1_keepTurned_33 : decode cX1_keepTurned 33 = .ok (.ifCond .eq 29, 3) := by decide +kernel
theorem dX1_keepTurned_36 : decode cX1_keepTurned 36 = .ok (.aload_n 0, 1) := by decide +kernel
theorem dX1_keepTurned_37 : decode cX1_keepTurned 37 = .ok (.getfield 21, 3) := by decide +kernel
theorem dX1_keepTurned_40 : decode cX1_keepTurned 40 = .ok (.iload_n 3, 1) := by decide +kernel
theorem dX1_keepTurned_41 : decode cX1_keepTurned 41 = .ok (.invokevirtual 80, 3) := by decide +kernel
theorem dX1_keepTurned_44 : decode cX1_keepTurned 44 = .ok (.pop, 1) := by decide +kernel
theorem dX1_keepTurned_45 : decode cX1_keepTurned 45 = .ok (.aload_n 0, 1) := by decide +kernel
theorem dX1_keepTurned_46 : decode cX1_keepTurned 46 = .ok (.aload_n 0, 1) := by decide +kernel
theorem dX1_keepTurned_47 : decode cX1_keepTurned 47 = .ok (.aload_n 0, 1) := by decide +kernel
theorem dX1_keepTurned_48 : decode cX1_keepTurned 48 = .ok (.getfield 21, 3) := by decide +kernel
theorem dX1_keepTurned_51 : decode cX1_keepTurned 51 = .ok (.invokevirtual 46, 3) := by decide +kernel
theorem dX1_keepTurned_54 : decode cX1_keepTurned 54 = .ok (.invokevirtual 50, 3) := by decide +kernel
theorem dX1_keepTurned_57 : decode cX1_keepTurned 57 = .ok (.ifCond .ne 5, 3) := by decide +kernel
theorem dX1_keepTurned_60 : decode cX1_keepTurned 60 = .ok (.iconst 0, 1) := by decide +kernel
theorem dX1_keepTurned_61 : decode cX1_keepTurned 61 = .ok (.ireturn, 1) := by decide +kernel
theorem dX1_keepTurned_62 : decode cX1_keepTurned 62 = .ok (.iinc 3 1, 3) := by decide +kernel
theorem dX1_keepTurned_65 : decode cX1_keepTurned 65 = .ok (.goto (-63), 3) := by decide +kernel
theorem dX1_keepTurned_68 : decode cX1_keepTurned 68 = .ok (.iconst 1, 1) := by decide +kernel
theorem dX1_keepTurned_69 : decode cX1_keepTurned 69 = .ok (.ireturn, 1) := by decide +kernel
theorem dX1_keep_0 : decode cX1_keep 0 = .ok (.aload_n 0, 1) := by decide +kernel
theorem dX1_keep_1 : decode cX1_keep 1 = .ok (.lload_n 1, 1) := by decide +kernel
theorem dX1_keep_2 : decode cX1_keep 2 = .ok (.invokevirtual 61, 3) := by decide +kernel
theorem dX1_keep_5 : decode cX1_keep 5 = .ok (.istore_n 3, 1) := by decide +kernel
theorem dX1_keep_6 : decode cX1_keep 6 = .ok (.iload_n 3, 1) := by decide +kernel
theorem dX1_keep_7 : decode cX1_keep 7 = .ok (.ifCond .lt 12, 3) := by decide +kernel
theorem dX1_keep_10 : decode cX1_keep 10 = .ok (.iload_n 3, 1) := by decide +kernel
theorem dX1_keep_11 : decode cX1_keep 11 = .ok (.aload_n 0, 1) := by decide +kernel
theorem dX1_keep_12 : decode cX1_keep 12 = .ok (.getfield 15, 3) := by decide +kernel
theorem dX1_keep_15 : decode cX1_keep 15 = .ok (.arraylength, 1) := by decide +kernel
theorem dX1_keep_16 : decode cX1_keep 16 = .ok (.if_icmp .lt 5, 3) := by decide +kernel
theorem dX1_keep_19 : decode cX1_keep 19 = .ok (.iconst 0, 1) := by decide +kernel
theorem dX1_keep_20 : decode cX1_keep 20 = .ok (.ireturn, 1) := by decide +kernel
theorem dX1_keep_21 : decode cX1_keep 21 = .ok (.aload_n 0, 1) := by decide +kernel
theorem dX1_keep_22 : decode cX1_keep 22 = .ok (.getfield 15, 3) := by decide +kernel
theorem dX1_keep_25 : decode cX1_keep 25 = .ok (.iload_n 3, 1) := by decide +kernel
theorem dX1_keep_26 : decode cX1_keep 26 = .ok (.laload, 1) := by decide +kernel
theorem dX1_keep_27 : decode cX1_keep 27 = .ok (.lload_n 1, 1) := by decide +kernel
theorem dX1_keep_28 : decode cX1_keep 28 = .ok (.lcmp, 1) := by decide +kernel
theorem dX1_keep_29 : decode cX1_keep 29 = .ok (.ifCond .ne 5, 3) := by decide +kernel
theorem dX1_keep_32 : decode cX1_keep 32 = .ok (.iconst 1, 1) := by decide +kernel
theorem dX1_keep_33 : decode cX1_keep 33 = .ok (.ireturn, 1) := by decide +kernel
theorem dX1_keep_34 : decode cX1_keep 34 = .ok (.aload_n 0, 1) := by decide +kernel
theorem dX1_keep_35 : decode cX1_keep 35 = .ok (.getfield 28, 3) := by decide +kernel
theorem dX1_keep_38 : decode cX1_keep 38 = .ok (.ifCond .lt 15, 3) := by decide +kernel
theorem dX1_keep_41 : decode cX1_keep 41 = .ok (.aload_n 0, 1) := by decide +kernel
theorem dX1_keep_42 : decode cX1_keep 42 = .ok (.getfield 28, 3) := by decide +kernel
theorem dX1_keep_45 : decode cX1_keep 45 = .ok (.aload_n 0, 1) := by decide +kernel
theorem dX1_keep_46 : decode cX1_keep 46 = .ok (.getfield 11, 3) := by decide +kernel
theorem dX1_keep_49 : decode cX1_keep 49 = .ok (.arraylength, 1) := by decide +kernel
theorem dX1_keep_50 : decode cX1_keep 50 = .ok (.if_icmp .lt 5, 3) := by decide +kernel
theorem dX1_keep_53 : decode cX1_keep 53 = .ok (.iconst 0, 1) := by decide +kernel
theorem dX1_keep_54 : decode cX1_keep 54 = .ok (.ireturn, 1) := by decide +kernel
theorem dX1_keep_55 : decode cX1_keep 55 = .ok (.aload_n 0, 1) := by decide +kernel
theorem dX1_keep_56 : decode cX1_keep 56 = .ok (.getfield 15, 3) := by decide +kernel
theorem dX1_keep_59 : decode cX1_keep 59 = .ok (.iload_n 3, 1) := by decide +kernel
theorem dX1_keep_60 : decode cX1_keep 60 = .ok (.lload_n 1, 1) := by decide +kernel
theorem dX1_keep_61 : decode cX1_keep 61 = .ok (.lastore, 1) := by decide +kernel
theorem dX1_keep_62 : decode cX1_keep 62 = .ok (.aload_n 0, 1) := by decide +kernel
theorem dX1_keep_63 : decode cX1_keep 63 = .ok (.getfield 11, 3) := by decide +kernel
theorem dX1_keep_66 : decode cX1_keep 66 = .ok (.aload_n 0, 1) := by decide +kernel
theorem dX1_keep_67 : decode cX1_keep 67 = .ok (.getfield 28, 3) := by decide +kernel
theorem dX1_keep_70 : decode cX1_keep 70 = .ok (.lload_n 1, 1) := by decide +kernel
theorem dX1_keep_71 : decode cX1_keep 71 = .ok (.lastore, 1) := by decide +kernel
theorem dX1_keep_72 : decode cX1_keep 72 = .ok (.aload_n 0, 1) := by decide +kernel
theorem dX1_keep_73 : decode cX1_keep 73 = .ok (.dup, 1) := by decide +kernel
theorem dX1_keep_74 : decode cX1_keep 74 = .ok (.getfield 28, 3) := by decide +kernel
theorem dX1_keep_77 : decode cX1_keep 77 = .ok (.iconst 1, 1) := by decide +kernel
theorem dX1_keep_78 : decode cX1_keep 78 = .ok (.iadd, 1) := by decide +kernel
theorem dX1_keep_79 : decode cX1_keep 79 = .ok (.putfield 28, 3) := by decide +kernel
theorem dX1_keep_82 : decode cX1_keep 82 = .ok (.iconst 1, 1) := by decide +kernel
theorem dX1_keep_83 : decode cX1_keep 83 = .ok (.ireturn, 1) := by decide +kernel
theorem dX1_slotOf_0 : decode cX1_slotOf 0 = .ok (.lload_n 1, 1) := by decide +kernel
theorem dX1_slotOf_1 : decode cX1_slotOf 1 = .ok (.ldc2_w 84, 3) := by decide +kernel
theorem dX1_slotOf_4 : decode cX1_slotOf 4 = .ok (.lmul, 1) := by decide +kernel
theorem dX1_slotOf_5 : decode cX1_slotOf 5 = .ok (.bipush 52, 2) := by decide +kernel
theorem dX1_slotOf_7 : decode cX1_slotOf 7 = .ok (.lushr, 1) := by decide +kernel
theorem dX1_slotOf_8 : decode cX1_slotOf 8 = .ok (.l2i, 1) := by decide +kernel
theorem dX1_slotOf_9 : decode cX1_slotOf 9 = .ok (.istore_n 3, 1) := by decide +kernel
theorem dX1_slotOf_10 : decode cX1_slotOf 10 = .ok (.iconst 0, 1) := by decide +kernel
theorem dX1_slotOf_11 : decode cX1_slotOf 11 = .ok (.istore 4, 2) := by decide +kernel
theorem dX1_slotOf_13 : decode cX1_slotOf 13 = .ok (.iload 4, 2) := by decide +kernel
theorem dX1_slotOf_15 : decode cX1_slotOf 15 = .ok (.aload_n 0, 1) := by decide +kernel
theorem dX1_slotOf_16 : decode cX1_slotOf 16 = .ok (.getfield 15, 3) := by decide +kernel
theorem dX1_slotOf_19 : decode cX1_slotOf 19 = .ok (.arraylength, 1) := by decide +kernel
theorem dX1_slotOf_20 : decode cX1_slotOf 20 = .ok (.if_icmp .ge 61, 3) := by decide +kernel
theorem dX1_slotOf_23 : decode cX1_slotOf 23 = .ok (.iload_n 3, 1) := by decide +kernel
theorem dX1_slotOf_24 : decode cX1_slotOf 24 = .ok (.iload 4, 2) := by decide +kernel
theorem dX1_slotOf_26 : decode cX1_slotOf 26 = .ok (.iadd, 1) := by decide +kernel
theorem dX1_slotOf_27 : decode cX1_slotOf 27 = .ok (.sipush 4095, 3) := by decide +kernel
theorem dX1_slotOf_30 : decode cX1_slotOf 30 = .ok (.iand, 1) := by decide +kernel
theorem dX1_slotOf_31 : decode cX1_slotOf 31 = .ok (.istore 5, 2) := by decide +kernel
theorem dX1_slotOf_33 : decode cX1_slotOf 33 = .ok (.iload 5, 2) := by decide +kernel
theorem dX1_slotOf_35 : decode cX1_slotOf 35 = .ok (.ifCond .lt 40, 3) := by decide +kernel
theorem dX1_slotOf_38 : decode cX1_slotOf 38 = .ok (.iload 5, 2) := by decide +kernel
theorem dX1_slotOf_40 : decode cX1_slotOf 40 = .ok (.aload_n 0, 1) := by decide +kernel
theorem dX1_slotOf_41 : decode cX1_slotOf 41 = .ok (.getfield 15, 3) := by decide +kernel
theorem dX1_slotOf_44 : decode cX1_slotOf 44 = .ok (.arraylength, 1) := by decide +kernel
theorem dX1_slotOf_45 : decode cX1_slotOf 45 = .ok (.if_icmp .ge 30, 3) := by decide +kernel
theorem dX1_slotOf_48 : decode cX1_slotOf 48 = .ok (.aload_n 0, 1) := by decide +kernel
theorem dX1_slotOf_49 : decode cX1_slotOf 49 = .ok (.getfield 15, 3) := by decide +kernel
theorem dX1_slotOf_52 : decode cX1_slotOf 52 = .ok (.iload 5, 2) := by decide +kernel
theorem dX1_slotOf_54 : decode cX1_slotOf 54 = .ok (.laload, 1) := by decide +kernel
theorem dX1_slotOf_55 : decode cX1_slotOf 55 = .ok (.lconst 0, 1) := by decide +kernel
theorem dX1_slotOf_56 : decode cX1_slotOf 56 = .ok (.lcmp, 1) := by decide +kernel
theorem dX1_slotOf_57 : decode cX1_slotOf 57 = .ok (.ifCond .eq 15, 3) := by decide +kernel
theorem dX1_slotOf_60 : decode cX1_slotOf 60 = .ok (.aload_n 0, 1) := by decide +kernel
theorem dX1_slotOf_61 : decode cX1_slotOf 61 = .ok (.getfield 15, 3) := by decide +kernel
theorem dX1_slotOf_64 : decode cX1_slotOf 64 = .ok (.iload 5, 2) := by decide +kernel
theorem dX1_slotOf_66 : decode cX1_slotOf 66 = .ok (.laload, 1) := by decide +kernel
theorem dX1_slotOf_67 : decode cX1_slotOf 67 = .ok (.lload_n 1, 1) := by decide +kernel
theorem dX1_slotOf_68 : decode cX1_slotOf 68 = .ok (.lcmp, 1) := by decide +kernel
theorem dX1_slotOf_69 : decode cX1_slotOf 69 = .ok (.ifCond .ne 6, 3) := by decide +kernel
theorem dX1_slotOf_72 : decode cX1_slotOf 72 = .ok (.iload 5, 2) := by decide +kernel
theorem dX1_slotOf_74 : decode cX1_slotOf 74 = .ok (.ireturn, 1) := by decide +kernel
theorem dX1_slotOf_75 : decode cX1_slotOf 75 = .ok (.iinc 4 1, 3) := by decide +kernel
theorem dX1_slotOf_78 : decode cX1_slotOf 78 = .ok (.goto (-65), 3) := by decide +kernel
theorem dX1_slotOf_81 : decode cX1_slotOf 81 = .ok (.iconst (-1), 1) := by decide +kernel
theorem dX1_slotOf_82 : decode cX1_slotOf 82 = .ok (.ireturn, 1) := by decide +kernel
theorem dX1_leastNumber_0 : decode cX1_leastNumber 0 = .ok (.aload_n 0, 1) := by decide +kernel
theorem dX1_leastNumber_1 : decode cX1_leastNumber 1 = .ok (.getfield 36, 3) := by decide +kernel
theorem dX1_leastNumber_4 : decode cX1_leastNumber 4 = .ok (.aload_n 1, 1) := by decide +kernel
theorem dX1_leastNumber_5 : decode cX1_leastNumber 5 = .ok (.aload_n 0, 1) := by decide +kernel
theorem dX1_leastNumber_6 : decode cX1_leastNumber 6 = .ok (.getfield 25, 3) := by decide +kernel
theorem dX1_leastNumber_9 : decode cX1_leastNumber 9 = .ok (.invokevirtual 86, 3) := by decide +kernel
theorem dX1_leastNumber_12 : decode cX1_leastNumber 12 = .ok (.lconst 1, 1) := by decide +kernel
theorem dX1_leastNumber_13 : decode cX1_leastNumber 13 = .ok (.lstore_n 2, 1) := by decide +kernel
theorem dX1_leastNumber_14 : decode cX1_leastNumber 14 = .ok (.iconst 0, 1) := by decide +kernel
theorem dX1_leastNumber_15 : decode cX1_leastNumber 15 = .ok (.istore 4, 2) := by decide +kernel
theorem dX1_leastNumber_17 : decode cX1_leastNumber 17 = .ok (.iload 4, 2) := by decide +kernel
theorem dX1_leastNumber_19 : decode cX1_leastNumber 19 = .ok (.aload_n 0, 1) := by decide +kernel
theorem dX1_leastNumber_20 : decode cX1_leastNumber 20 = .ok (.getfield 25, 3) := by decide +kernel
theorem dX1_leastNumber_23 : decode cX1_leastNumber 23 = .ok (.invokevirtual 57, 3) := by decide +kernel
theorem dX1_leastNumber_26 : decode cX1_leastNumber 26 = .ok (.if_icmp .ge 24, 3) := by decide +kernel
theorem dX1_leastNumber_29 : decode cX1_leastNumber 29 = .ok (.lload_n 2, 1) := by decide +kernel
theorem dX1_leastNumber_30 : decode cX1_leastNumber 30 = .ok (.iconst 3, 1) := by decide +kernel
theorem dX1_leastNumber_31 : decode cX1_leastNumber 31 = .ok (.lshl, 1) := by decide +kernel
theorem dX1_leastNumber_32 : decode cX1_leastNumber 32 = .ok (.aload_n 0, 1) := by decide +kernel
theorem dX1_leastNumber_33 : decode cX1_leastNumber 33 = .ok (.getfield 25, 3) := by decide +kernel
theorem dX1_leastNumber_36 : decode cX1_leastNumber 36 = .ok (.iload 4, 2) := by decide +kernel
theorem dX1_leastNumber_38 : decode cX1_leastNumber 38 = .ok (.invokevirtual 90, 3) := by decide +kernel
theorem dX1_leastNumber_41 : decode cX1_leastNumber 41 = .ok (.i2l, 1) := by decide +kernel
theorem dX1_leastNumber_42 : decode cX1_leastNumber 42 = .ok (.lor, 1) := by decide +kernel
theorem dX1_leastNumber_43 : decode cX1_leastNumber 43 = .ok (.lstore_n 2, 1) := by decide +kernel
theorem dX1_leastNumber_44 : decode cX1_leastNumber 44 = .ok (.iinc 4 1, 3) := by decide +kernel
theorem dX1_leastNumber_47 : decode cX1_leastNumber 47 = .ok (.goto (-30), 3) := by decide +kernel
theorem dX1_leastNumber_50 : decode cX1_leastNumber 50 = .ok (.lload_n 2, 1) := by decide +kernel
theorem dX1_leastNumber_51 : decode cX1_leastNumber 51 = .ok (.lreturn, 1) := by decide +kernel
theorem dX1_setRow_0 : decode cX1_setRow 0 = .ok (.aload_n 0, 1) := by decide +kernel
theorem dX1_setRow_1 : decode cX1_setRow 1 = .ok (.invokevirtual 94, 3) := by decide +kernel
theorem dX1_setRow_4 : decode cX1_setRow 4 = .ok (.bipush 33, 2) := by decide +kernel
theorem dX1_setRow_6 : decode cX1_setRow 6 = .ok (.istore_n 3, 1) := by decide +kernel
theorem dX1_setRow_7 : decode cX1_setRow 7 = .ok (.iload_n 3, 1) := by decide +kernel
theorem dX1_setRow_8 : decode cX1_setRow 8 = .ok (.ifCond .lt 32, 3) := by decide +kernel
theorem dX1_setRow_11 : decode cX1_setRow 11 = .ok (.lload_n 1, 1) := by decide +kernel
theorem dX1_setRow_12 : decode cX1_setRow 12 = .ok (.iload_n 3, 1) := by decide +kernel
theorem dX1_setRow_13 : decode cX1_setRow 13 = .ok (.iconst 3, 1) := by decide +kernel
theorem dX1_setRow_14 : decode cX1_setRow 14 = .ok (.iadd, 1) := by decide +kernel
theorem dX1_setRow_15 : decode cX1_setRow 15 = .ok (.lshr, 1) := by decide +kernel
theorem dX1_setRow_16 : decode cX1_setRow 16 = .ok (.lconst 0, 1) := by decide +kernel
theorem dX1_setRow_17 : decode cX1_setRow 17 = .ok (.lcmp, 1) := by decide +kernel
theorem dX1_setRow_18 : decode cX1_setRow 18 = .ok (.ifCond .eq 16, 3) := by decide +kernel
theorem dX1_setRow_21 : decode cX1_setRow 21 = .ok (.aload_n 0, 1) := by decide +kernel
theorem dX1_setRow_22 : decode cX1_setRow 22 = .ok (.lload_n 1, 1) := by decide +kernel
theorem dX1_setRow_23 : decode cX1_setRow 23 = .ok (.iload_n 3, 1) := by decide +kernel
theorem dX1_setRow_24 : decode cX1_setRow 24 = .ok (.lshr, 1) := by decide +kernel
theorem dX1_setRow_25 : decode cX1_setRow 25 = .ok (.ldc2_w 97, 3) := by decide +kernel
theorem dX1_setRow_28 : decode cX1_setRow 28 = .ok (.land, 1) := by decide +kernel
theorem dX1_setRow_29 : decode cX1_setRow 29 = .ok (.l2i, 1) := by decide +kernel
theorem dX1_setRow_30 : decode cX1_setRow 30 = .ok (.invokevirtual 80, 3) := by decide +kernel
theorem dX1_setRow_33 : decode cX1_setRow 33 = .ok (.pop, 1) := by decide +kernel
theorem dX1_setRow_34 : decode cX1_setRow 34 = .ok (.iinc 3 (-3), 3) := by decide +kernel
theorem dX1_setRow_37 : decode cX1_setRow 37 = .ok (.goto (-30), 3) := by decide +kernel
theorem dX1_setRow_40 : decode cX1_setRow 40 = .ok (.return_, 1) := by decide +kernel
theorem dX2_init_0 : decode cX2_init 0 = .ok (.aload_n 0, 1) := by decide +kernel
theorem dX2_init_1 : decode cX2_init 1 = .ok (.invokespecial 3, 3) := by decide +kernel
theorem dX2_init_4 : decode cX2_init 4 = .ok (.aload_n 0, 1) := by decide +kernel
theorem dX2_init_5 : decode cX2_init 5 = .ok (.new 9, 3) := by decide +kernel
theorem dX2_init_8 : decode cX2_init 8 = .ok (.dup, 1) := by decide +kernel
theorem dX2_init_9 : decode cX2_init 9 = .ok (.invokespecial 11, 3) := by decide +kernel
theorem dX2_init_12 : decode cX2_init 12 = .ok (.putfield 12, 3) := by decide +kernel
theorem dX2_init_15 : decode cX2_init 15 = .ok (.aload_n 0, 1) := by decide +kernel
theorem dX2_init_16 : decode cX2_init 16 = .ok (.new 9, 3) := by decide +kernel
theorem dX2_init_19 : decode cX2_init 19 = .ok (.dup, 1) := by decide +kernel
theorem dX2_init_20 : decode cX2_init 20 = .ok (.invokespecial 11, 3) := by decide +kernel
theorem dX2_init_23 : decode cX2_init 23 = .ok (.putfield 18, 3) := by decide +kernel
theorem dX2_init_26 : decode cX2_init 26 = .ok (.aload_n 0, 1) := by decide +kernel
theorem dX2_init_27 : decode cX2_init 27 = .ok (.new 9, 3) := by decide +kernel
theorem dX2_init_30 : decode cX2_init 30 = .ok (.dup, 1) := by decide +kernel
theorem dX2_init_31 : decode cX2_init 31 = .ok (.invokespecial 11, 3) := by decide +kernel
theorem dX2_init_34 : decode cX2_init 34 = .ok (.putfield 21, 3) := by decide +kernel
theorem dX2_init_37 : decode cX2_init 37 = .ok (.aload_n 0, 1) := by decide +kernel
theorem dX2_init_38 : decode cX2_init 38 = .ok (.aload_n 1, 1) := by decide +kernel
theorem dX2_init_39 : decode cX2_init 39 = .ok (.putfield 24, 3) := by decide +kernel
theorem dX2_init_42 : decode cX2_init 42 = .ok (.return_, 1) := by decide +kernel
theorem dX2_letters_0 : decode cX2_letters 0 = .ok (.aload_n 0, 1) := by decide +kernel
theorem dX2_letters_1 : decode cX2_letters 1 = .ok (.getfield 24, 3) := by decide +kernel
theorem dX2_letters_4 : decode cX2_letters 4 = .ok (.areturn, 1) := by decide +kernel
theorem dX2_frontPlace_0 : decode cX2_frontPlace 0 = .ok (.aload_n 0, 1) := by decide +kernel
theorem dX2_frontPlace_1 : decode cX2_frontPlace 1 = .ok (.getfield 24, 3) := by decide +kernel
theorem dX2_frontPlace_4 : decode cX2_frontPlace 4 = .ok (.iload_n 2, 1) := by decide +kernel
theorem dX2_frontPlace_5 : decode cX2_frontPlace 5 = .ok (.invokevirtual 28, 3) := by decide +kernel
theorem dX2_frontPlace_8 : decode cX2_frontPlace 8 = .ok (.istore_n 3, 1) := by decide +kernel
theorem dX2_frontPlace_9 : decode cX2_frontPlace 9 = .ok (.iconst 0, 1) := by decide +kernel
theorem dX2_frontPlace_10 : decode cX2_frontPlace 10 = .ok (.istore 4, 2) := by decide +kernel
theorem dX2_frontPlace_12 : decode cX2_frontPlace 12 = .ok (.iload 4, 2) := by decide +kernel
theorem dX2_frontPlace_14 : decode cX2_frontPlace 14 = .ok (.aload_n 1, 1) := by decide +kernel
theorem dX2_frontPlace_15 : decode cX2_frontPlace 15 = .ok (.invokevirtual 34, 3) := by decide +kernel
theorem dX2_frontPlace_18 : decode cX2_frontPlace 18 = .ok (.if_icmp .ge 40, 3) := by decide +kernel
theorem dX2_frontPlace_21 : decode cX2_frontPlace 21 = .ok (.iload_n 3, 1) := by decide +kernel
theorem dX2_frontPlace_22 : decode cX2_frontPlace 22 = .ok (.aload_n 1, 1) := by decide +kernel
theorem dX2_frontPlace_23 : decode cX2_frontPlace 23 = .ok (.iload 4, 2) := by decide +kernel
theorem dX2_frontPlace_25 : decode cX2_frontPlace 25 = .ok (.invokevirtual 38, 3) := by decide +kernel
theorem dX2_frontPlace_28 : decode cX2_frontPlace 28 = .ok (.ishr, 1) := by decide +kernel
theorem dX2_frontPlace_29 : decode cX2_frontPlace 29 = .ok (.iconst 1, 1) := by decide +kernel
theorem dX2_frontPlace_30 : decode cX2_frontPlace 30 = .ok (.iand, 1) := by decide +kernel
theorem dX2_frontPlace_31 : decode cX2_frontPlace 31 = .ok (.iconst 1, 1) := by decide +kernel
theorem dX2_frontPlace_32 : decode cX2_frontPlace 32 = .ok (.if_icmp .ne 20, 3) := by decide +kernel
theorem dX2_frontPlace_35 : decode cX2_frontPlace 35 = .ok (.aload_n 1, 1) := by decide +kernel
theorem dX2_frontPlace_36 : decode cX2_frontPlace 36 = .ok (.iload 4, 2) := by decide +kernel
theorem dX2_frontPlace_38 : decode cX2_frontPlace 38 = .ok (.invokevirtual 38, 3) := by decide +kernel
theorem dX2_frontPlace_41 : decode cX2_frontPlace 41 = .ok (.iload_n 2, 1) := by decide +kernel
theorem dX2_frontPlace_42 : decode cX2_frontPlace 42 = .ok (.if_icmp .ne 8, 3) := by decide +kernel
theorem dX2_frontPlace_45 : decode cX2_frontPlace 45 = .ok (.iload 4, 2) := by decide +kernel
theorem dX2_frontPlace_47 : decode cX2_frontPlace 47 = .ok (.goto 4, 3) := by decide +kernel
theorem dX2_frontPlace_50 : decode cX2_frontPlace 50 = .ok (.iconst (-1), 1) := by decide +kernel
theorem dX2_frontPlace_51 : decode cX2_frontPlace 51 = .ok (.ireturn, 1) := by decide +kernel
theorem dX2_frontPlace_52 : decode cX2_frontPlace 52 = .ok (.iinc 4 1, 3) := by decide +kernel
theorem dX2_frontPlace_55 : decode cX2_frontPlace 55 = .ok (.goto (-43), 3) := by decide +kernel
theorem dX2_frontPlace_58 : decode cX2_frontPlace 58 = .ok (.iconst (-1), 1) := by decide +kernel
theorem dX2_frontPlace_59 : decode cX2_frontPlace 59 = .ok (.ireturn, 1) := by decide +kernel
theorem dX2_canTakeOff_0 : decode cX2_canTakeOff 0 = .ok (.aload_n 0, 1) := by decide +kernel
theorem dX2_canTakeOff_1 : decode cX2_canTakeOff 1 = .ok (.aload_n 1, 1) := by decide +kernel
theorem dX2_canTakeOff_2 : decode cX2_canTakeOff 2 = .ok (.iload_n 2, 1) := by decide +kernel
theorem dX2_canTakeOff_3 : decode cX2_canTakeOff 3 = .ok (.invokevirtual 41, 3) := by decide +kernel
theorem dX2_canTakeOff_6 : decode cX2_canTakeOff 6 = .ok (.iconst (-1), 1) := by decide +kernel
theorem dX2_canTakeOff_7 : decode cX2_canTakeOff 7 = .ok (.if_icmp .eq 7, 3) := by decide +kernel
theorem dX2_canTakeOff_10 : decode cX2_canTakeOff 10 = .ok (.iconst 1, 1) := by decide +kernel
theorem dX2_canTakeOff_11 : decode cX2_canTakeOff 11 = .ok (.goto 4, 3) := by decide +kernel
theorem dX2_canTakeOff_14 : decode cX2_canTakeOff 14 = .ok (.iconst 0, 1) := by decide +kernel
theorem dX2_canTakeOff_15 : decode cX2_canTakeOff 15 = .ok (.ireturn, 1) := by decide +kernel
theorem dX2_takeOff_0 : decode cX2_takeOff 0 = .ok (.aload_n 0, 1) := by decide +kernel
theorem dX2_takeOff_1 : decode cX2_takeOff 1 = .ok (.aload_n 1, 1) := by decide +kernel
theorem dX2_takeOff_2 : decode cX2_takeOff 2 = .ok (.iload_n 2, 1) := by decide +kernel
theorem dX2_takeOff_3 : decode cX2_takeOff 3 = .ok (.invokevirtual 41, 3) := by decide +kernel
theorem dX2_takeOff_6 : decode cX2_takeOff 6 = .ok (.istore_n 3, 1) := by decide +kernel
theorem dX2_takeOff_7 : decode cX2_takeOff 7 = .ok (.aload_n 1, 1) := by decide +kernel
theorem dX2_takeOff_8 : decode cX2_takeOff 8 = .ok (.iload_n 3, 1) := by decide +kernel
theorem dX2_takeOff_9 : decode cX2_takeOff 9 = .ok (.invokevirtual 45, 3) := by decide +kernel
theorem dX2_takeOff_12 : decode cX2_takeOff 12 = .ok (.iload_n 3, 1) := by decide +kernel
theorem dX2_takeOff_13 : decode cX2_takeOff 13 = .ok (.iconst (-1), 1) := by decide +kernel
theorem dX2_takeOff_14 : decode cX2_takeOff 14 = .ok (.if_icmp .eq 7, 3) := by decide +kernel
theorem dX2_takeOff_17 : decode cX2_takeOff 17 = .ok (.iconst 1, 1) := by decide +kernel
theorem dX2_takeOff_18 : decode cX2_takeOff 18 = .ok (.goto 4, 3) := by decide +kernel
theorem dX2_takeOff_21 : decode cX2_takeOff 21 = .ok (.iconst 0, 1) := by decide +kernel
theorem dX2_takeOff_22 : decode cX2_takeOff 22 = .ok (.ireturn, 1) := by decide +kernel
theorem dX2_makeLeast_0 : decode cX2_makeLeast 0 = .ok (.aload_n 0, 1) := by decide +kernel
theorem dX2_makeLeast_1 : decode cX2_makeLeast 1 = .ok (.getfield 12, 3) := by decide +kernel
theorem dX2_makeLeast_4 : decode cX2_makeLeast 4 = .ok (.aload_n 1, 1) := by decide +kernel
theorem dX2_makeLeast_5 : decode cX2_makeLeast 5 = .ok (.invokevirtual 49, 3) := by decide +kernel
theorem dX2_makeLeast_8 : decode cX2_makeLeast 8 = .ok (.aload_n 2, 1) := by decide +kernel
theorem dX2_makeLeast_9 : decode cX2_makeLeast 9 = .ok (.invokevirtual 53, 3) := by decide +kernel
theorem dX2_makeLeast_12 : decode cX2_makeLeast 12 = .ok (.aload_n 0, 1) := by decide +kernel
theorem dX2_makeLeast_13 : decode cX2_makeLeast 13 = .ok (.getfield 12, 3) := by decide +kernel
theorem dX2_makeLeast_16 : decode cX2_makeLeast 16 = .ok (.invokevirtual 34, 3) := by decide +kernel
theorem dX2_makeLeast_19 : decode cX2_makeLeast 19 = .ok (.istore_n 3, 1) := by decide +kernel
theorem dX2_makeLeast_20 : decode cX2_makeLeast 20 = .ok (.iload_n 3, 1) := by decide +kernel
theorem dX2_makeLeast_21 : decode cX2_makeLeast 21 = .ok (.ifCond .le 42, 3) := by decide +kernel
theorem dX2_makeLeast_24 : decode cX2_makeLeast 24 = .ok (.aload_n 0, 1) := by decide +kernel
theorem dX2_makeLeast_25 : decode cX2_makeLeast 25 = .ok (.aload_n 0, 1) := by decide +kernel
theorem dX2_makeLeast_26 : decode cX2_makeLeast 26 = .ok (.getfield 12, 3) := by decide +kernel
theorem dX2_makeLeast_29 : decode cX2_makeLeast 29 = .ok (.invokevirtual 56, 3) := by decide +kernel
theorem dX2_makeLeast_32 : decode cX2_makeLeast 32 = .ok (.istore 4, 2) := by decide +kernel
theorem dX2_makeLeast_34 : decode cX2_makeLeast 34 = .ok (.aload_n 2, 1) := by decide +kernel
theorem dX2_makeLeast_35 : decode cX2_makeLeast 35 = .ok (.aload_n 0, 1) := by decide +kernel
theorem dX2_makeLeast_36 : decode cX2_makeLeast 36 = .ok (.getfield 12, 3) := by decide +kernel
theorem dX2_makeLeast_39 : decode cX2_makeLeast 39 = .ok (.iload 4, 2) := by decide +kernel
theorem dX2_makeLeast_41 : decode cX2_makeLeast 41 = .ok (.invokevirtual 38, 3) := by decide +kernel
theorem dX2_makeLeast_44 : decode cX2_makeLeast 44 = .ok (.invokevirtual 60, 3) := by decide +kernel
theorem dX2_makeLeast_47 : decode cX2_makeLeast 47 = .ok (.pop, 1) := by decide +kernel
theorem dX2_makeLeast_48 : decode cX2_makeLeast 48 = .ok (.aload_n 0, 1) := by decide +kernel
theorem dX2_makeLeast_49 : decode cX2_makeLeast 49 = .ok (.getfield 12, 3) := by decide +kernel
theorem dX2_makeLeast_52 : decode cX2_makeLeast 52 = .ok (.iload 4, 2) := by decide +kernel
theorem dX2_makeLeast_54 : decode cX2_makeLeast 54 = .ok (.invokevirtual 45, 3) := by decide +kernel
theorem dX2_makeLeast_57 : decode cX2_makeLeast 57 = .ok (.iinc 3 (-1), 3) := by decide +kernel
theorem dX2_makeLeast_60 : decode cX2_makeLeast 60 = .ok (.goto (-40), 3) := by decide +kernel
theorem dX2_makeLeast_63 : decode cX2_makeLeast 63 = .ok (.return_, 1) := by decide +kernel
theorem dX2_leastFrontPlace_0 : decode cX2_leastFrontPlace 0 = .ok (.iconst 0, 1) := by decide +kernel
theorem dX2_leastFrontPlace_1 : decode cX2_leastFrontPlace 1 = .ok (.istore_n 2, 1) := by decide +kernel
theorem dX2_leastFrontPlace_2 : decode cX2_leastFrontPlace 2 = .ok (.iconst 0, 1) := by decide +kernel
theorem dX2_leastFrontPlace_3 : decode cX2_leastFrontPlace 3 = .ok (.istore_n 3, 1) := by decide +kernel
theorem dX2_leastFrontPlace_4 : decode cX2_leastFrontPlace 4 = .ok (.iconst 0, 1) := by decide +kernel
theorem dX2_leastFrontPlace_5 : decode cX2_leastFrontPlace 5 = .ok (.istore 4, 2) := by decide +kernel
theorem dX2_leastFrontPlace_7 : decode cX2_leastFrontPlace 7 = .ok (.iload 4, 2) := by decide +kernel
theorem dX2_leastFrontPlace_9 : decode cX2_leastFrontPlace 9 = .ok (.aload_n 1, 1) := by decide +kernel
theorem dX2_leastFrontPlace_10 : decode cX2_leastFrontPlace 10 = .ok (.invokevirtual 34, 3) := by decide +kernel
theorem dX2_leastFrontPlace_13 : decode cX2_leastFrontPlace 13 = .ok (.if_icmp .ge 51, 3) := by decide +kernel
theorem dX2_leastFrontPlace_16 : decode cX2_leastFrontPlace 16 = .ok (.aload_n 1, 1) := by decide +kernel
theorem dX2_leastFrontPlace_17 : decode cX2_leastFrontPlace 17 = .ok (.iload 4, 2) := by decide +kernel
theorem dX2_leastFrontPlace_19 : decode cX2_leastFrontPlace 19 = .ok (.invokevirtual 38, 3) := by decide +kernel
theorem dX2_leastFrontPlace_22 : decode cX2_leastFrontPlace 22 = .ok (.istore 5, 2) := by decide +kernel
theorem dX2_leastFrontPlace_24 : decode cX2_leastFrontPlace 24 = .ok (.iload_n 2, 1) := by decide +kernel
theorem dX2_leastFrontPlace_25 : decode cX2_leastFrontPlace 25 = .ok (.iload 5, 2) := by decide +kernel
theorem dX2_leastFrontPlace_27 : decode cX2_leastFrontPlace 27 = .ok (.ishr, 1) := by decide +kernel
theorem dX2_leastFrontPlace_28 : decode cX2_leastFrontPlace 28 = .ok (.iconst 1, 1) := by decide +kernel
theorem dX2_leastFrontPlace_29 : decode cX2_leastFrontPlace 29 = .ok (.iand, 1) := by decide +kernel
theorem dX2_leastFrontPlace_30 : decode cX2_leastFrontPlace 30 = .ok (.ifCond .ne 16, 3) := by decide +kernel
theorem dX2_leastFrontPlace_33 : decode cX2_leastFrontPlace 33 = .ok (.iload 5, 2) := by decide +kernel
theorem dX2_leastFrontPlace_35 : decode cX2_leastFrontPlace 35 = .ok (.aload_n 1, 1) := by decide +kernel
theorem dX2_leastFrontPlace_36 : decode cX2_leastFrontPlace 36 = .ok (.iload_n 3, 1) := by decide +kernel
theorem dX2_leastFrontPlace_37 : decode cX2_leastFrontPlace 37 = .ok (.invokevirtual 38, 3) := by decide +kernel
theorem dX2_leastFrontPlace_40 : decode cX2_leastFrontPlace 40 = .ok (.if_icmp .ge 6, 3) := by decide +kernel
theorem dX2_leastFrontPlace_43 : decode cX2_leastFrontPlace 43 = .ok (.iload 4, 2) := by decide +kernel
theorem dX2_leastFrontPlace_45 : decode cX2_leastFrontPlace 45 = .ok (.istore_n 3, 1) := by decide +kernel
theorem dX2_leastFrontPlace_46 : decode cX2_leastFrontPlace 46 = .ok (.iload_n 2, 1) := by decide +kernel
theorem dX2_leastFrontPlace_47 : decode cX2_leastFrontPlace 47 = .ok (.aload_n 0, 1) := by decide +kernel
theorem dX2_leastFrontPlace_48 : decode cX2_leastFrontPlace 48 = .ok (.getfield 24, 3) := by decide +kernel
theorem dX2_leastFrontPlace_51 : decode cX2_leastFrontPlace 51 = .ok (.iload 5, 2) := by decide +kernel
theorem dX2_leastFrontPlace_53 : decode cX2_leastFrontPlace 53 = .ok (.invokevirtual 28, 3) := by decide +kernel
theorem dX2_leastFrontPlace_56 : decode cX2_leastFrontPlace 56 = .ok (.ior, 1) := by decide +kernel
theorem dX2_leastFrontPlace_57 : decode cX2_leastFrontPlace 57 = .ok (.istore_n 2, 1) := by decide +kernel
theorem dX2_leastFrontPlace_58 : decode cX2_leastFrontPlace 58 = .ok (.iinc 4 1, 3) := by decide +kernel
theorem dX2_leastFrontPlace_61 : decode cX2_leastFrontPlace 61 = .ok (.goto (-54), 3) := by decide +kernel
theorem dX2_leastFrontPlace_64 : decode cX2_leastFrontPlace 64 = .ok (.iload_n 3, 1) := by decide +kernel
theorem dX2_leastFrontPlace_65 : decode cX2_leastFrontPlace 65 = .ok (.ireturn, 1) := by decide +kernel
theorem dX2_areOne_0 : decode cX2_areOne 0 = .ok (.aload_n 0, 1) := by decide +kernel
theorem dX2_areOne_1 : decode cX2_areOne 1 = .ok (.aload_n 1, 1) := by decide +kernel
theorem dX2_areOne_2 : decode cX2_areOne 2 = .ok (.aload_n 2, 1) := by decide +kernel
theorem dX2_areOne_3 : decode cX2_areOne 3 = .ok (.invokevirtual 64, 3) := by decide +kernel
theorem dX2_areOne_6 : decode cX2_areOne 6 = .ok (.iconst (-1), 1) := by decide +kernel
theorem dX2_areOne_7 : decode cX2_areOne 7 = .ok (.if_icmp .ne 7, 3) := by decide +kernel
theorem dX2_areOne_10 : decode cX2_areOne 10 = .ok (.iconst 1, 1) := by decide +kernel
theorem dX2_areOne_11 : decode cX2_areOne 11 = .ok (.goto 4, 3) := by decide +kernel
theorem dX2_areOne_14 : decode cX2_areOne 14 = .ok (.iconst 0, 1) := by decide +kernel
theorem dX2_areOne_15 : decode cX2_areOne 15 = .ok (.ireturn, 1) := by decide +kernel
theorem dX2_firstUnlikeLook_0 : decode cX2_firstUnlikeLook 0 = .ok (.iconst 0, 1) := by decide +kernel
theorem dX2_firstUnlikeLook_1 : decode cX2_firstUnlikeLook 1 = .ok (.istore_n 3, 1) := by decide +kernel
theorem dX2_firstUnlikeLook_2 : decode cX2_firstUnlikeLook 2 = .ok (.iload_n 3, 1) := by decide +kernel
theorem dX2_firstUnlikeLook_3 : decode cX2_firstUnlikeLook 3 = .ok (.aload_n 0, 1) := by decide +kernel
theorem dX2_firstUnlikeLook_4 : decode cX2_firstUnlikeLook 4 = .ok (.getfield 24, 3) := by decide +kernel
theorem dX2_firstUnlikeLook_7 : decode cX2_firstUnlikeLook 7 = .ok (.invokevirtual 68, 3) := by decide +kernel
theorem dX2_firstUnlikeLook_10 : decode cX2_firstUnlikeLook 10 = .ok (.if_icmp .ge 67, 3) := by decide +kernel
theorem dX2_firstUnlikeLook_13 : decode cX2_firstUnlikeLook 13 = .ok (.iload_n 3, 1) := by decide +kernel
theorem dX2_firstUnlikeLook_14 : decode cX2_firstUnlikeLook 14 = .ok (.istore 4, 2) := by decide +kernel
theorem dX2_firstUnlikeLook_16 : decode cX2_firstUnlikeLook 16 = .ok (.iload 4, 2) := by decide +kernel
theorem dX2_firstUnlikeLook_18 : decode cX2_firstUnlikeLook 18 = .ok (.aload_n 0, 1) := by decide +kernel
theorem dX2_firstUnlikeLook_19 : decode cX2_firstUnlikeLook 19 = .ok (.getfield 24, 3) := by decide +kernel
theorem dX2_firstUnlikeLook_22 : decode cX2_firstUnlikeLook 22 = .ok (.invokevirtual 68, 3) := by decide +kernel
theorem dX2_firstUnlikeLook_25 : decode cX2_firstUnlikeLook 25 = .ok (.if_icmp .ge 46, 3) := by decide +kernel
theorem dX2_firstUnlikeLook_28 : decode cX2_firstUnlikeLook 28 = .ok (.aload_n 0, 1) := by decide +kernel
theorem dX2_firstUnlikeLook_29 : decode cX2_firstUnlikeLook 29 = .ok (.getfield 24, 3) := by decide +kernel
theorem dX2_firstUnlikeLook_32 : decode cX2_firstUnlikeLook 32 = .ok (.iload_n 3, 1) := by decide +kernel
theorem dX2_firstUnlikeLook_33 : decode cX2_firstUnlikeLook 33 = .ok (.iload 4, 2) := by decide +kernel
theorem dX2_firstUnlikeLook_35 : decode cX2_firstUnlikeLook 35 = .ok (.invokevirtual 71, 3) := by decide +kernel
theorem dX2_firstUnlikeLook_38 : decode cX2_firstUnlikeLook 38 = .ok (.ifCond .ne 27, 3) := by decide +kernel
theorem dX2_firstUnlikeLook_41 : decode cX2_firstUnlikeLook 41 = .ok (.aload_n 1, 1) := by decide +kernel
theorem dX2_firstUnlikeLook_42 : decode cX2_firstUnlikeLook 42 = .ok (.aload_n 2, 1) := by decide +kernel
theorem dX2_firstUnlikeLook_43 : decode cX2_firstUnlikeLook 43 = .ok (.iconst 1, 1) := by decide +kernel
theorem dX2_firstUnlikeLook_44 : decode cX2_firstUnlikeLook 44 = .ok (.iload_n 3, 1) := by decide +kernel
theorem dX2_firstUnlikeLook_45 : decode cX2_firstUnlikeLook 45 = .ok (.ishl, 1) := by decide +kernel
theorem dX2_firstUnlikeLook_46 : decode cX2_firstUnlikeLook 46 = .ok (.iconst 1, 1) := by decide +kernel
theorem dX2_firstUnlikeLook_47 : decode cX2_firstUnlikeLook 47 = .ok (.iload 4, 2) := by decide +kernel
theorem dX2_firstUnlikeLook_49 : decode cX2_firstUnlikeLook 49 = .ok (.ishl, 1) := by decide +kernel
theorem dX2_firstUnlikeLook_50 : decode cX2_firstUnlikeLook 50 = .ok (.ior, 1) := by decide +kernel
theorem dX2_firstUnlikeLook_51 : decode cX2_firstUnlikeLook 51 = .ok (.invokestatic 75, 3) := by decide +kernel
theorem dX2_firstUnlikeLook_54 : decode cX2_firstUnlikeLook 54 = .ok (.ifCond .ne 11, 3) := by decide +kernel
theorem dX2_firstUnlikeLook_57 : decode cX2_firstUnlikeLook 57 = .ok (.bipush 8, 2) := by decide +kernel
theorem dX2_firstUnlikeLook_59 : decode cX2_firstUnlikeLook 59 = .ok (.iload_n 3, 1) := by decide +kernel
theorem dX2_firstUnlikeLook_60 : decode cX2_firstUnlikeLook 60 = .ok (.imul, 1) := by decide +kernel
theorem dX2_firstUnlikeLook_61 : decode cX2_firstUnlikeLook 61 = .ok (.iload 4, 2) := by decide +kernel
theorem dX2_firstUnlikeLook_63 : decode cX2_firstUnlikeLook 63 = .ok (.iadd, 1) := by decide +kernel
theorem dX2_firstUnlikeLook_64 : decode cX2_firstUnlikeLook 64 = .ok (.ireturn, 1) := by decide +kernel
theorem dX2_firstUnlikeLook_65 : decode cX2_firstUnlikeLook 65 = .ok (.iinc 4 1, 3) := by decide +kernel
theorem dX2_firstUnlikeLook_68 : decode cX2_firstUnlikeLook 68 = .ok (.goto (-52), 3) := by decide +kernel
theorem dX2_firstUnlikeLook_71 : decode cX2_firstUnlikeLook 71 = .ok (.iinc 3 1, 3) := by decide +kernel
theorem dX2_firstUnlikeLook_74 : decode cX2_firstUnlikeLook 74 = .ok (.goto (-72), 3) := by decide +kernel
theorem dX2_firstUnlikeLook_77 : decode cX2_firstUnlikeLook 77 = .ok (.iconst (-1), 1) := by decide +kernel
theorem dX2_firstUnlikeLook_78 : decode cX2_firstUnlikeLook 78 = .ok (.ireturn, 1) := by decide +kernel
theorem dX2_lookAlike_0 : decode cX2_lookAlike 0 = .ok (.aload_n 1, 1) := by decide +kernel
theorem dX2_lookAlike_1 : decode cX2_lookAlike 1 = .ok (.iconst 0, 1) := by decide +kernel
theorem dX2_lookAlike_2 : decode cX2_lookAlike 2 = .ok (.iload_n 2, 1) := by decide +kernel
theorem dX2_lookAlike_3 : decode cX2_lookAlike 3 = .ok (.invokestatic 79, 3) := by decide +kernel
theorem dX2_lookAlike_6 : decode cX2_lookAlike 6 = .ok (.istore_n 3, 1) := by decide +kernel
theorem dX2_lookAlike_7 : decode cX2_lookAlike 7 = .ok (.iconst 0, 1) := by decide +kernel
theorem dX2_lookAlike_8 : decode cX2_lookAlike 8 = .ok (.istore 4, 2) := by decide +kernel
theorem dX2_lookAlike_10 : decode cX2_lookAlike 10 = .ok (.iload 4, 2) := by decide +kernel
theorem dX2_lookAlike_12 : decode cX2_lookAlike 12 = .ok (.aload_n 0, 1) := by decide +kernel
theorem dX2_lookAlike_13 : decode cX2_lookAlike 13 = .ok (.invokevirtual 34, 3) := by decide +kernel
theorem dX2_lookAlike_16 : decode cX2_lookAlike 16 = .ok (.if_icmp .ge 48, 3) := by decide +kernel
theorem dX2_lookAlike_19 : decode cX2_lookAlike 19 = .ok (.iload_n 2, 1) := by decide +kernel
theorem dX2_lookAlike_20 : decode cX2_lookAlike 20 = .ok (.aload_n 0, 1) := by decide +kernel
theorem dX2_lookAlike_21 : decode cX2_lookAlike 21 = .ok (.iload 4, 2) := by decide +kernel
theorem dX2_lookAlike_23 : decode cX2_lookAlike 23 = .ok (.invokevirtual 38, 3) := by decide +kernel
theorem dX2_lookAlike_26 : decode cX2_lookAlike 26 = .ok (.ishr, 1) := by decide +kernel
theorem dX2_lookAlike_27 : decode cX2_lookAlike 27 = .ok (.iconst 1, 1) := by decide +kernel
theorem dX2_lookAlike_28 : decode cX2_lookAlike 28 = .ok (.iand, 1) := by decide +kernel
theorem dX2_lookAlike_29 : decode cX2_lookAlike 29 = .ok (.iconst 1, 1) := by decide +kernel
theorem dX2_lookAlike_30 : decode cX2_lookAlike 30 = .ok (.if_icmp .ne 28, 3) := by decide +kernel
theorem dX2_lookAlike_33 : decode cX2_lookAlike 33 = .ok (.aload_n 0, 1) := by decide +kernel
theorem dX2_lookAlike_34 : decode cX2_lookAlike 34 = .ok (.iload 4, 2) := by decide +kernel
theorem dX2_lookAlike_36 : decode cX2_lookAlike 36 = .ok (.invokevirtual 38, 3) := by decide +kernel
theorem dX2_lookAlike_39 : decode cX2_lookAlike 39 = .ok (.aload_n 1, 1) := by decide +kernel
theorem dX2_lookAlike_40 : decode cX2_lookAlike 40 = .ok (.iload_n 3, 1) := by decide +kernel
theorem dX2_lookAlike_41 : decode cX2_lookAlike 41 = .ok (.invokevirtual 38, 3) := by decide +kernel
theorem dX2_lookAlike_44 : decode cX2_lookAlike 44 = .ok (.if_icmp .eq 5, 3) := by decide +kernel
theorem dX2_lookAlike_47 : decode cX2_lookAlike 47 = .ok (.iconst 0, 1) := by decide +kernel
theorem dX2_lookAlike_48 : decode cX2_lookAlike 48 = .ok (.ireturn, 1) := by decide +kernel
theorem dX2_lookAlike_49 : decode cX2_lookAlike 49 = .ok (.aload_n 1, 1) := by decide +kernel
theorem dX2_lookAlike_50 : decode cX2_lookAlike 50 = .ok (.iload_n 3, 1) := by decide +kernel
theorem dX2_lookAlike_51 : decode cX2_lookAlike 51 = .ok (.iconst 1, 1) := by decide +kernel
theorem dX2_lookAlike_52 : decode cX2_lookAlike 52 = .ok (.iadd, 1) := by decide +kernel
theorem dX2_lookAlike_53 : decode cX2_lookAlike 53 = .ok (.iload_n 2, 1) := by decide +kernel
theorem dX2_lookAlike_54 : decode cX2_lookAlike 54 = .ok (.invokestatic 79, 3) := by decide +kernel
theorem dX2_lookAlike_57 : decode cX2_lookAlike 57 = .ok (.istore_n 3, 1) := by decide +kernel
theorem dX2_lookAlike_58 : decode cX2_lookAlike 58 = .ok (.iinc 4 1, 3) := by decide +kernel
theorem dX2_lookAlike_61 : decode cX2_lookAlike 61 = .ok (.goto (-51), 3) := by decide +kernel
theorem dX2_lookAlike_64 : decode cX2_lookAlike 64 = .ok (.iload_n 3, 1) := by decide +kernel
theorem dX2_lookAlike_65 : decode cX2_lookAlike 65 = .ok (.aload_n 1, 1) := by decide +kernel
theorem dX2_lookAlike_66 : decode cX2_lookAlike 66 = .ok (.invokevirtual 34, 3) := by decide +kernel
theorem dX2_lookAlike_69 : decode cX2_lookAlike 69 = .ok (.if_icmp .lt 7, 3) := by decide +kernel
theorem dX2_lookAlike_72 : decode cX2_lookAlike 72 = .ok (.iconst 1, 1) := by decide +kernel
theorem dX2_lookAlike_73 : decode cX2_lookAlike 73 = .ok (.goto 4, 3) := by decide +kernel
theorem dX2_lookAlike_76 : decode cX2_lookAlike 76 = .ok (.iconst 0, 1) := by decide +kernel
theorem dX2_lookAlike_77 : decode cX2_lookAlike 77 = .ok (.ireturn, 1) := by decide +kernel
theorem dX2_nextSeen_0 : decode cX2_nextSeen 0 = .ok (.iload_n 1, 1) := by decide +kernel
theorem dX2_nextSeen_1 : decode cX2_nextSeen 1 = .ok (.istore_n 3, 1) := by decide +kernel
theorem dX2_nextSeen_2 : decode cX2_nextSeen 2 = .ok (.iload_n 3, 1) := by decide +kernel
theorem dX2_nextSeen_3 : decode cX2_nextSeen 3 = .ok (.aload_n 0, 1) := by decide +kernel
theorem dX2_nextSeen_4 : decode cX2_nextSeen 4 = .ok (.invokevirtual 34, 3) := by decide +kernel
theorem dX2_nextSeen_7 : decode cX2_nextSeen 7 = .ok (.if_icmp .ge 24, 3) := by decide +kernel
theorem dX2_nextSeen_10 : decode cX2_nextSeen 10 = .ok (.iload_n 2, 1) := by decide +kernel
theorem dX2_nextSeen_11 : decode cX2_nextSeen 11 = .ok (.aload_n 0, 1) := by decide +kernel
theorem dX2_nextSeen_12 : decode cX2_nextSeen 12 = .ok (.iload_n 3, 1) := by decide +kernel
theorem dX2_nextSeen_13 : decode cX2_nextSeen 13 = .ok (.invokevirtual 38, 3) := by decide +kernel
theorem dX2_nextSeen_16 : decode cX2_nextSeen 16 = .ok (.ishr, 1) := by decide +kernel
theorem dX2_nextSeen_17 : decode cX2_nextSeen 17 = .ok (.iconst 1, 1) := by decide +kernel
theorem dX2_nextSeen_18 : decode cX2_nextSeen 18 = .ok (.iand, 1) := by decide +kernel
theorem dX2_nextSeen_19 : decode cX2_nextSeen 19 = .ok (.iconst 1, 1) := by decide +kernel
theorem dX2_nextSeen_20 : decode cX2_nextSeen 20 = .ok (.if_icmp .ne 5, 3) := by decide +kernel
theorem dX2_nextSeen_23 : decode cX2_nextSeen 23 = .ok (.iload_n 3, 1) := by decide +kernel
theorem dX2_nextSeen_24 : decode cX2_nextSeen 24 = .ok (.ireturn, 1) := by decide +kernel
theorem dX2_nextSeen_25 : decode cX2_nextSeen 25 = .ok (.iinc 3 1, 3) := by decide +kernel
theorem dX2_nextSeen_28 : decode cX2_nextSeen 28 = .ok (.goto (-26), 3) := by decide +kernel
theorem dX2_nextSeen_31 : decode cX2_nextSeen 31 = .ok (.aload_n 0, 1) := by decide +kernel
theorem dX2_nextSeen_32 : decode cX2_nextSeen 32 = .ok (.invokevirtual 34, 3) := by decide +kernel
theorem dX2_nextSeen_35 : decode cX2_nextSeen 35 = .ok (.ireturn, 1) := by decide +kernel
theorem dX2_layerBits_0 : decode cX2_layerBits 0 = .ok (.aload_n 0, 1) := by decide +kernel
theorem dX2_layerBits_1 : decode cX2_layerBits 1 = .ok (.getfield 12, 3) := by decide +kernel
theorem dX2_layerBits_4 : decode cX2_layerBits 4 = .ok (.aload_n 1, 1) := by decide +kernel
theorem dX2_layerBits_5 : decode cX2_layerBits 5 = .ok (.invokevirtual 49, 3) := by decide +kernel
theorem dX2_layerBits_8 : decode cX2_layerBits 8 = .ok (.iconst 0, 1) := by decide +kernel
theorem dX2_layerBits_9 : decode cX2_layerBits 9 = .ok (.istore_n 3, 1) := by decide +kernel
theorem dX2_layerBits_10 : decode cX2_layerBits 10 = .ok (.aload_n 0, 1) := by decide +kernel
theorem dX2_layerBits_11 : decode cX2_layerBits 11 = .ok (.getfield 12, 3) := by decide +kernel
theorem dX2_layerBits_14 : decode cX2_layerBits 14 = .ok (.invokevirtual 34, 3) := by decide +kernel
theorem dX2_layerBits_17 : decode cX2_layerBits 17 = .ok (.ifCond .le 43, 3) := by decide +kernel
theorem dX2_layerBits_20 : decode cX2_layerBits 20 = .ok (.iload_n 3, 1) := by decide +kernel
theorem dX2_layerBits_21 : decode cX2_layerBits 21 = .ok (.bipush 24, 2) := by decide +kernel
theorem dX2_layerBits_23 : decode cX2_layerBits 23 = .ok (.if_icmp .ge 37, 3) := by decide +kernel
theorem dX2_layerBits_26 : decode cX2_layerBits 26 = .ok (.aload_n 0, 1) := by decide +kernel
theorem dX2_layerBits_27 : decode cX2_layerBits 27 = .ok (.aload_n 0, 1) := by decide +kernel
theorem dX2_layerBits_28 : decode cX2_layerBits 28 = .ok (.getfield 12, 3) := by decide +kernel
theorem dX2_layerBits_31 : decode cX2_layerBits 31 = .ok (.invokevirtual 83, 3) := by decide +kernel
theorem dX2_layerBits_34 : decode cX2_layerBits 34 = .ok (.istore 4, 2) := by decide +kernel
theorem dX2_layerBits_36 : decode cX2_layerBits 36 = .ok (.iload_n 3, 1) := by decide +kernel
theorem dX2_layerBits_37 : decode cX2_layerBits 37 = .ok (.iload_n 2, 1) := by decide +kernel
theorem dX2_layerBits_38 : decode cX2_layerBits 38 = .ok (.if_icmp .ne 6, 3) := by decide +kernel
theorem dX2_layerBits_41 : decode cX2_layerBits 41 = .ok (.iload 4, 2) := by decide +kernel
theorem dX2_layerBits_43 : decode cX2_layerBits 43 = .ok (.ireturn, 1) := by decide +kernel
theorem dX2_layerBits_44 : decode cX2_layerBits 44 = .ok (.aload_n 0, 1) := by decide +kernel
theorem dX2_layerBits_45 : decode cX2_layerBits 45 = .ok (.aload_n 0, 1) := by decide +kernel
theorem dX2_layerBits_46 : decode cX2_layerBits 46 = .ok (.getfield 12, 3) := by decide +kernel
theorem dX2_layerBits_49 : decode cX2_layerBits 49 = .ok (.iload 4, 2) := by decide +kernel
theorem dX2_layerBits_51 : decode cX2_layerBits 51 = .ok (.invokevirtual 86, 3) := by decide +kernel
theorem dX2_layerBits_54 : decode cX2_layerBits 54 = .ok (.iinc 3 1, 3) := by decide +kernel
theorem dX2_layerBits_57 : decode cX2_layerBits 57 = .ok (.goto (-47), 3) := by decide +kernel
theorem dX2_layerBits_60 : decode cX2_layerBits 60 = .ok (.iload_n 2, 1) := by decide +kernel
theorem dX2_layerBits_61 : decode cX2_layerBits 61 = .ok (.iconst (-1), 1) := by decide +kernel
theorem dX2_layerBits_62 : decode cX2_layerBits 62 = .ok (.if_icmp .ne 7, 3) := by decide +kernel
theorem dX2_layerBits_65 : decode cX2_layerBits 65 = .ok (.iload_n 3, 1) := by decide +kernel
theorem dX2_layerBits_66 : decode cX2_layerBits 66 = .ok (.goto 4, 3) := by decide +kernel
theorem dX2_layerBits_69 : decode cX2_layerBits 69 = .ok (.iconst (-1), 1) := by decide +kernel
theorem dX2_layerBits_70 : decode cX2_layerBits 70 = .ok (.ireturn, 1) := by decide +kernel
theorem dX2_frontBits_0 : decode cX2_frontBits 0 = .ok (.iconst 0, 1) := by decide +kernel
theorem dX2_frontBits_1 : decode cX2_frontBits 1 = .ok (.istore_n 2, 1) := by decide +kernel
theorem dX2_frontBits_2 : decode cX2_frontBits 2 = .ok (.iconst 0, 1) := by decide +kernel
theorem dX2_frontBits_3 : decode cX2_frontBits 3 = .ok (.istore_n 3, 1) := by decide +kernel
theorem dX2_frontBits_4 : decode cX2_frontBits 4 = .ok (.iload_n 3, 1) := by decide +kernel
theorem dX2_frontBits_5 : decode cX2_frontBits 5 = .ok (.aload_n 0, 1) := by decide +kernel
theorem dX2_frontBits_6 : decode cX2_frontBits 6 = .ok (.getfield 24, 3) := by decide +kernel
theorem dX2_frontBits_9 : decode cX2_frontBits 9 = .ok (.invokevirtual 68, 3) := by decide +kernel
theorem dX2_frontBits_12 : decode cX2_frontBits 12 = .ok (.if_icmp .ge 24, 3) := by decide +kernel
theorem dX2_frontBits_15 : decode cX2_frontBits 15 = .ok (.aload_n 0, 1) := by decide +kernel
theorem dX2_frontBits_16 : decode cX2_frontBits 16 = .ok (.aload_n 1, 1) := by decide +kernel
theorem dX2_frontBits_17 : decode cX2_frontBits 17 = .ok (.iload_n 3, 1) := by decide +kernel
theorem dX2_frontBits_18 : decode cX2_frontBits 18 = .ok (.invokevirtual 90, 3) := by decide +kernel
theorem dX2_frontBits_21 : decode cX2_frontBits 21 = .ok (.ifCond .eq 9, 3) := by decide +kernel
theorem dX2_frontBits_24 : decode cX2_frontBits 24 = .ok (.iload_n 2, 1) := by decide +kernel
theorem dX2_frontBits_25 : decode cX2_frontBits 25 = .ok (.iconst 1, 1) := by decide +kernel
theorem dX2_frontBits_26 : decode cX2_frontBits 26 = .ok (.iload_n 3, 1) := by decide +kernel
theorem dX2_frontBits_27 : decode cX2_frontBits 27 = .ok (.ishl, 1) := by decide +kernel
theorem dX2_frontBits_28 : decode cX2_frontBits 28 = .ok (.ior, 1) := by decide +kernel
theorem dX2_frontBits_29 : decode cX2_frontBits 29 = .ok (.istore_n 2, 1) := by decide +kernel
theorem dX2_frontBits_30 : decode cX2_frontBits 30 = .ok (.iinc 3 1, 3) := by decide +kernel
theorem dX2_frontBits_33 : decode cX2_frontBits 33 = .ok (.goto (-29), 3) := by decide +kernel
theorem dX2_frontBits_36 : decode cX2_frontBits 36 = .ok (.iload_n 2, 1) := by decide +kernel
theorem dX2_frontBits_37 : decode cX2_frontBits 37 = .ok (.ireturn, 1) := by decide +kernel
theorem dX2_takeOffAll_0 : decode cX2_takeOffAll 0 = .ok (.iconst 0, 1) := by decide +kernel
theorem dX2_takeOffAll_1 : decode cX2_takeOffAll 1 = .ok (.istore_n 3, 1) := by decide +kernel
theorem dX2_takeOffAll_2 : decode cX2_takeOffAll 2 = .ok (.iload_n 3, 1) := by decide +kernel
theorem dX2_takeOffAll_3 : decode cX2_takeOffAll 3 = .ok (.aload_n 0, 1) := by decide +kernel
theorem dX2_takeOffAll_4 : decode cX2_takeOffAll 4 = .ok (.getfield 24, 3) := by decide +kernel
theorem dX2_takeOffAll_7 : decode cX2_takeOffAll 7 = .ok (.invokevirtual 68, 3) := by decide +kernel
theorem dX2_takeOffAll_10 : decode cX2_takeOffAll 10 = .ok (.if_icmp .ge 25, 3) := by decide +kernel
theorem dX2_takeOffAll_13 : decode cX2_takeOffAll 13 = .ok (.iload_n 2, 1) := by decide +kernel
theorem dX2_takeOffAll_14 : decode cX2_takeOffAll 14 = .ok (.iload_n 3, 1) := by decide +kernel
theorem dX2_takeOffAll_15 : decode cX2_takeOffAll 15 = .ok (.ishr, 1) := by decide +kernel
theorem dX2_takeOffAll_16 : decode cX2_takeOffAll 16 = .ok (.iconst 1, 1) := by decide +kernel
theorem dX2_takeOffAll_17 : decode cX2_takeOffAll 17 = .ok (.iand, 1) := by decide +kernel
theorem dX2_takeOffAll_18 : decode cX2_takeOffAll 18 = .ok (.iconst 1, 1) := by decide +kernel
theorem dX2_takeOffAll_19 : decode cX2_takeOffAll 19 = .ok (.if_icmp .ne 10, 3) := by decide +kernel
theorem dX2_takeOffAll_22 : decode cX2_takeOffAll 22 = .ok (.aload_n 0, 1) := by decide +kernel
theorem dX2_takeOffAll_23 : decode cX2_takeOffAll 23 = .ok (.aload_n 1, 1) := by decide +kernel
theorem dX2_takeOffAll_24 : decode cX2_takeOffAll 24 = .ok (.iload_n 3, 1) := by decide +kernel
theorem dX2_takeOffAll_25 : decode cX2_takeOffAll 25 = .ok (.invokevirtual 94, 3) := by decide +kernel
theorem dX2_takeOffAll_28 : decode cX2_takeOffAll 28 = .ok (.pop, 1) := by decide +kernel
theorem dX2_takeOffAll_29 : decode cX2_takeOffAll 29 = .ok (.iinc 3 1, 3) := by decide +kernel
theorem dX2_takeOffAll_32 : decode cX2_takeOffAll 32 = .ok (.goto (-30), 3) := by decide +kernel
theorem dX2_takeOffAll_35 : decode cX2_takeOffAll 35 = .ok (.return_, 1) := by decide +kernel
theorem dX2_mustComeAhead_0 : decode cX2_mustComeAhead 0 = .ok (.iload_n 2, 1) := by decide +kernel
theorem dX2_mustComeAhead_1 : decode cX2_mustComeAhead 1 = .ok (.iload_n 3, 1) := by decide +kernel
theorem dX2_mustComeAhead_2 : decode cX2_mustComeAhead 2 = .ok (.if_icmp .lt 5, 3) := by decide +kernel
theorem dX2_mustComeAhead_5 : decode cX2_mustComeAhead 5 = .ok (.iconst 0, 1) := by decide +kernel
theorem dX2_mustComeAhead_6 : decode cX2_mustComeAhead 6 = .ok (.ireturn, 1) := by decide +kernel
theorem dX2_mustComeAhead_7 : decode cX2_mustComeAhead 7 = .ok (.aload_n 0, 1) := by decide +kernel
theorem dX2_mustComeAhead_8 : decode cX2_mustComeAhead 8 = .ok (.getfield 24, 3) := by decide +kernel
theorem dX2_mustComeAhead_11 : decode cX2_mustComeAhead 11 = .ok (.aload_n 1, 1) := by decide +kernel
theorem dX2_mustComeAhead_12 : decode cX2_mustComeAhead 12 = .ok (.iload_n 2, 1) := by decide +kernel
theorem dX2_mustComeAhead_13 : decode cX2_mustComeAhead 13 = .ok (.invokevirtual 38, 3) := by decide +kernel
theorem dX2_mustComeAhead_16 : decode cX2_mustComeAhead 16 = .ok (.invokevirtual 28, 3) := by decide +kernel
theorem dX2_mustComeAhead_19 : decode cX2_mustComeAhead 19 = .ok (.istore 4, 2) := by decide +kernel
theorem dX2_mustComeAhead_21 : decode cX2_mustComeAhead 21 = .ok (.iload_n 2, 1) := by decide +kernel
theorem dX2_mustComeAhead_22 : decode cX2_mustComeAhead 22 = .ok (.iconst 1, 1) := by decide +kernel
theorem dX2_mustComeAhead_23 : decode cX2_mustComeAhead 23 = .ok (.iadd, 1) := by decide +kernel
theorem dX2_mustComeAhead_24 : decode cX2_mustComeAhead 24 = .ok (.istore 5, 2) := by decide +kernel
theorem dX2_mustComeAhead_26 : decode cX2_mustComeAhead 26 = .ok (.iload 5, 2) := by decide +kernel
theorem dX2_mustComeAhead_28 : decode cX2_mustComeAhead 28 = .ok (.iload_n 3, 1) := by decide +kernel
theorem dX2_mustComeAhead_29 : decode cX2_mustComeAhead 29 = .ok (.if_icmp .ge 42, 3) := by decide +kernel
theorem dX2_mustComeAhead_32 : decode cX2_mustComeAhead 32 = .ok (.iload 4, 2) := by decide +kernel
theorem dX2_mustComeAhead_34 : decode cX2_mustComeAhead 34 = .ok (.aload_n 1, 1) := by decide +kernel
theorem dX2_mustComeAhead_35 : decode cX2_mustComeAhead 35 = .ok (.iload 5, 2) := by decide +kernel
theorem dX2_mustComeAhead_37 : decode cX2_mustComeAhead 37 = .ok (.invokevirtual 38, 3) := by decide +kernel
theorem dX2_mustComeAhead_40 : decode cX2_mustComeAhead 40 = .ok (.ishr, 1) := by decide +kernel
theorem dX2_mustComeAhead_41 : decode cX2_mustComeAhead 41 = .ok (.iconst 1, 1) := by decide +kernel
theorem dX2_mustComeAhead_42 : decode cX2_mustComeAhead 42 = .ok (.iand, 1) := by decide +kernel
theorem dX2_mustComeAhead_43 : decode cX2_mustComeAhead 43 = .ok (.iconst 1, 1) := by decide +kernel
theorem dX2_mustComeAhead_44 : decode cX2_mustComeAhead 44 = .ok (.if_icmp .ne 21, 3) := by decide +kernel
theorem dX2_mustComeAhead_47 : decode cX2_mustComeAhead 47 = .ok (.iload 4, 2) := by decide +kernel
theorem dX2_mustComeAhead_49 : decode cX2_mustComeAhead 49 = .ok (.aload_n 0, 1) := by decide +kernel
theorem dX2_mustComeAhead_50 : decode cX2_mustComeAhead 50 = .ok (.getfield 24, 3) := by decide +kernel
theorem dX2_mustComeAhead_53 : decode cX2_mustComeAhead 53 = .ok (.aload_n 1, 1) := by decide +kernel
theorem dX2_mustComeAhead_54 : decode cX2_mustComeAhead 54 = .ok (.iload 5, 2) := by decide +kernel
theorem dX2_mustComeAhead_56 : decode cX2_mustComeAhead 56 = .ok (.invokevirtual 38, 3) := by decide +kernel
theorem dX2_mustComeAhead_59 : decode cX2_mustComeAhead 59 = .ok (.invokevirtual 28, 3) := by decide +kernel
theorem dX2_mustComeAhead_62 : decode cX2_mustComeAhead 62 = .ok (.ior, 1) := by decide +kernel
theorem dX2_mustComeAhead_63 : decode cX2_mustComeAhead 63 = .ok (.istore 4, 2) := by decide +kernel
theorem dX2_mustComeAhead_65 : decode cX2_mustComeAhead 65 = .ok (.iinc 5 1, 3) := by decide +kernel
theorem dX2_mustComeAhead_68 : decode cX2_mustComeAhead 68 = .ok (.goto (-42), 3) := by decide +kernel
theorem dX2_mustComeAhead_71 : decode cX2_mustComeAhead 71 = .ok (.iload 4, 2) := by decide +kernel
theorem dX2_mustComeAhead_73 : decode cX2_mustComeAhead 73 = .ok (.aload_n 1, 1) := by decide +kernel
theorem dX2_mustComeAhead_74 : decode cX2_mustComeAhead 74 = .ok (.iload_n 3, 1) := by decide +kernel
theorem dX2_mustComeAhead_75 : decode cX2_mustComeAhead 75 = .ok (.invokevirtual 38, 3) := by decide +kernel
theorem dX2_mustComeAhead_78 : decode cX2_mustComeAhead 78 = .ok (.ishr, 1) := by decide +kernel
theorem dX2_mustComeAhead_79 : decode cX2_mustComeAhead 79 = .ok (.iconst 1, 1) := by decide +kernel
theorem dX2_mustComeAhead_80 : decode cX2_mustComeAhead 80 = .ok (.iand, 1) := by decide +kernel
theorem dX2_mustComeAhead_81 : decode cX2_mustComeAhead 81 = .ok (.iconst 1, 1) := by decide +kernel
theorem dX2_mustComeAhead_82 : decode cX2_mustComeAhead 82 = .ok (.if_icmp .ne 7, 3) := by decide +kernel
theorem dX2_mustComeAhead_85 : decode cX2_mustComeAhead 85 = .ok (.iconst 1, 1) := by decide +kernel
theorem dX2_mustComeAhead_86 : decode cX2_mustComeAhead 86 = .ok (.goto 4, 3) := by decide +kernel
theorem dX2_mustComeAhead_89 : decode cX2_mustComeAhead 89 = .ok (.iconst 0, 1) := by decide +kernel
theorem dX2_mustComeAhead_90 : decode cX2_mustComeAhead 90 = .ok (.ireturn, 1) := by decide +kernel
theorem dX2_partBits_0 : decode cX2_partBits 0 = .ok (.aload_n 1, 1) := by decide +kernel
theorem dX2_partBits_1 : decode cX2_partBits 1 = .ok (.invokevirtual 97, 3) := by decide +kernel
theorem dX2_partBits_4 : decode cX2_partBits 4 = .ok (.istore_n 3, 1) := by decide +kernel
theorem dX2_partBits_5 : decode cX2_partBits 5 = .ok (.iconst 0, 1) := by decide +kernel
theorem dX2_partBits_6 : decode cX2_partBits 6 = .ok (.istore 4, 2) := by decide +kernel
theorem dX2_partBits_8 : decode cX2_partBits 8 = .ok (.iconst 0, 1) := by decide +kernel
theorem dX2_partBits_9 : decode cX2_partBits 9 = .ok (.istore 5, 2) := by decide +kernel
theorem dX2_partBits_11 : decode cX2_partBits 11 = .ok (.iconst 0, 1) := by decide +kernel
theorem dX2_partBits_12 : decode cX2_partBits 12 = .ok (.istore 6, 2) := by decide +kernel
theorem dX2_partBits_14 : decode cX2_partBits 14 = .ok (.iload 6, 2) := by decide +kernel
theorem dX2_partBits_16 : decode cX2_partBits 16 = .ok (.aload_n 0, 1) := by decide +kernel
theorem dX2_partBits_17 : decode cX2_partBits 17 = .ok (.getfield 24, 3) := by decide +kernel
theorem dX2_partBits_20 : decode cX2_partBits 20 = .ok (.invokevirtual 68, 3) := by decide +kernel
theorem dX2_partBits_23 : decode cX2_partBits 23 = .ok (.if_icmp .ge 57, 3) := by decide +kernel
theorem dX2_partBits_26 : decode cX2_partBits 26 = .ok (.iload_n 3, 1) := by decide +kernel
theorem dX2_partBits_27 : decode cX2_partBits 27 = .ok (.iload 6, 2) := by decide +kernel
theorem dX2_partBits_29 : decode cX2_partBits 29 = .ok (.ishr, 1) := by decide +kernel
theorem dX2_partBits_30 : decode cX2_partBits 30 = .ok (.iconst 1, 1) := by decide +kernel
theorem dX2_partBits_31 : decode cX2_partBits 31 = .ok (.iand, 1) := by decide +kernel
theorem dX2_partBits_32 : decode cX2_partBits 32 = .ok (.iconst 1, 1) := by decide +kernel
theorem dX2_partBits_33 : decode cX2_partBits 33 = .ok (.if_icmp .ne 41, 3) := by decide +kernel
theorem dX2_partBits_36 : decode cX2_partBits 36 = .ok (.iload 4, 2) := by decide +kernel
theorem dX2_partBits_38 : decode cX2_partBits 38 = .ok (.iload 6, 2) := by decide +kernel
theorem dX2_partBits_40 : decode cX2_partBits 40 = .ok (.ishr, 1) := by decide +kernel
theorem dX2_partBits_41 : decode cX2_partBits 41 = .ok (.iconst 1, 1) := by decide +kernel
theorem dX2_partBits_42 : decode cX2_partBits 42 = .ok (.iand, 1) := by decide +kernel
theorem dX2_partBits_43 : decode cX2_partBits 43 = .ok (.ifCond .ne 31, 3) := by decide +kernel
theorem dX2_partBits_46 : decode cX2_partBits 46 = .ok (.aload_n 0, 1) := by decide +kernel
theorem dX2_partBits_47 : decode cX2_partBits 47 = .ok (.iload 6, 2) := by decide +kernel
theorem dX2_partBits_49 : decode cX2_partBits 49 = .ok (.iload_n 3, 1) := by decide +kernel
theorem dX2_partBits_50 : decode cX2_partBits 50 = .ok (.invokevirtual 100, 3) := by decide +kernel
theorem dX2_partBits_53 : decode cX2_partBits 53 = .ok (.istore 7, 2) := by decide +kernel
theorem dX2_partBits_55 : decode cX2_partBits 55 = .ok (.iload 5, 2) := by decide +kernel
theorem dX2_partBits_57 : decode cX2_partBits 57 = .ok (.iload_n 2, 1) := by decide +kernel
theorem dX2_partBits_58 : decode cX2_partBits 58 = .ok (.if_icmp .ne 6, 3) := by decide +kernel
theorem dX2_partBits_61 : decode cX2_partBits 61 = .ok (.iload 7, 2) := by decide +kernel
theorem dX2_partBits_63 : decode cX2_partBits 63 = .ok (.ireturn, 1) := by decide +kernel
theorem dX2_partBits_64 : decode cX2_partBits 64 = .ok (.iload 4, 2) := by decide +kernel
theorem dX2_partBits_66 : decode cX2_partBits 66 = .ok (.iload 7, 2) := by decide +kernel
theorem dX2_partBits_68 : decode cX2_partBits 68 = .ok (.ior, 1) := by decide +kernel
theorem dX2_partBits_69 : decode cX2_partBits 69 = .ok (.istore 4, 2) := by decide +kernel
theorem dX2_partBits_71 : decode cX2_partBits 71 = .ok (.iinc 5 1, 3) := by decide +kernel
theorem dX2_partBits_74 : decode cX2_partBits 74 = .ok (.iinc 6 1, 3) := by decide +kernel
theorem dX2_partBits_77 : decode cX2_partBits 77 = .ok (.goto (-63), 3) := by decide +kernel
theorem dX2_partBits_80 : decode cX2_partBits 80 = .ok (.iload_n 2, 1) := by decide +kernel
theorem dX2_partBits_81 : decode cX2_partBits 81 = .ok (.iconst (-1), 1) := by decide +kernel
theorem dX2_partBits_82 : decode cX2_partBits 82 = .ok (.if_icmp .ne 8, 3) := by decide +kernel
theorem dX2_partBits_85 : decode cX2_partBits 85 = .ok (.iload 5, 2) := by decide +kernel
theorem dX2_partBits_87 : decode cX2_partBits 87 = .ok (.goto 4, 3) := by decide +kernel
theorem dX2_partBits_90 : decode cX2_partBits 90 = .ok (.iconst (-1), 1) := by decide +kernel
theorem dX2_partBits_91 : decode cX2_partBits 91 = .ok (.ireturn, 1) := by decide +kernel
theorem dX2_hangTogether_0 : decode cX2_hangTogether 0 = .ok (.iconst 1, 1) := by decide +kernel
theorem dX2_hangTogether_1 : decode cX2_hangTogether 1 = .ok (.iload_n 1, 1) := by decide +kernel
theorem dX2_hangTogether_2 : decode cX2_hangTogether 2 = .ok (.ishl, 1) := by decide +kernel
theorem dX2_hangTogether_3 : decode cX2_hangTogether 3 = .ok (.istore_n 3, 1) := by decide +kernel
theorem dX2_hangTogether_4 : decode cX2_hangTogether 4 = .ok (.iconst 0, 1) := by decide +kernel
theorem dX2_hangTogether_5 : decode cX2_hangTogether 5 = .ok (.istore 4, 2) := by decide +kernel
theorem dX2_hangTogether_7 : decode cX2_hangTogether 7 = .ok (.iload 4, 2) := by decide +kernel
theorem dX2_hangTogether_9 : decode cX2_hangTogether 9 = .ok (.aload_n 0, 1) := by decide +kernel
theorem dX2_hangTogether_10 : decode cX2_hangTogether 10 = .ok (.getfield 24, 3) := by decide +kernel
theorem dX2_hangTogether_13 : decode cX2_hangTogether 13 = .ok (.invokevirtual 68, 3) := by decide +kernel
theorem dX2_hangTogether_16 : decode cX2_hangTogether 16 = .ok (.if_icmp .ge 61, 3) := by decide +kernel
theorem dX2_hangTogether_19 : decode cX2_hangTogether 19 = .ok (.iconst 0, 1) := by decide +kernel
theorem dX2_hangTogether_20 : decode cX2_hangTogether 20 = .ok (.istore 5, 2) := by decide +kernel
theorem dX2_hangTogether_22 : decode cX2_hangTogether 22 = .ok (.iload 5, 2) := by decide +kernel
theorem dX2_hangTogether_24 : decode cX2_hangTogether 24 = .ok (.aload_n 0, 1) := by decide +kernel
theorem dX2_hangTogether_25 : decode cX2_hangTogether 25 = .ok (.getfield 24, 3) := by decide +kernel
theorem dX2_hangTogether_28 : decode cX2_hangTogether 28 = .ok (.invokevirtual 68, 3) := by decide +kernel
theorem dX2_hangTogether_31 : decode cX2_hangTogether 31 = .ok (.if_icmp .ge 40, 3) := by decide +kernel
theorem dX2_hangTogether_34 : decode cX2_hangTogether 34 = .ok (.iload_n 2, 1) := by decide +kernel
theorem dX2_hangTogether_35 : decode cX2_hangTogether 35 = .ok (.iload 5, 2) := by decide +kernel
theorem dX2_hangTogether_37 : decode cX2_hangTogether 37 = .ok (.ishr, 1) := by decide +kernel
theorem dX2_hangTogether_38 : decode cX2_hangTogether 38 = .ok (.iconst 1, 1) := by decide +kernel
theorem dX2_hangTogether_39 : decode cX2_hangTogether 39 = .ok (.iand, 1) := by decide +kernel
theorem dX2_hangTogether_40 : decode cX2_hangTogether 40 = .ok (.iconst 1, 1) := by decide +kernel
theorem dX2_hangTogether_41 : decode cX2_hangTogether 41 = .ok (.if_icmp .ne 24, 3) := by decide +kernel
theorem dX2_hangTogether_44 : decode cX2_hangTogether 44 = .ok (.aload_n 0, 1) := by decide +kernel
theorem dX2_hangTogether_45 : decode cX2_hangTogether 45 = .ok (.getfield 24, 3) := by decide +kernel
theorem dX2_hangTogether_48 : decode cX2_hangTogether 48 = .ok (.iload 5, 2) := by decide +kernel
theorem dX2_hangTogether_50 : decode cX2_hangTogether 50 = .ok (.invokevirtual 28, 3) := by decide +kernel
theorem dX2_hangTogether_53 : decode cX2_hangTogether 53 = .ok (.iload_n 3, 1) := by decide +kernel
theorem dX2_hangTogether_54 : decode cX2_hangTogether 54 = .ok (.iand, 1) := by decide +kernel
theorem dX2_hangTogether_55 : decode cX2_hangTogether 55 = .ok (.ifCond .eq 10, 3) := by decide +kernel
theorem dX2_hangTogether_58 : decode cX2_hangTogether 58 = .ok (.iload_n 3, 1) := by decide +kernel
theorem dX2_hangTogether_59 : decode cX2_hangTogether 59 = .ok (.iconst 1, 1) := by decide +kernel
theorem dX2_hangTogether_60 : decode cX2_hangTogether 60 = .ok (.iload 5, 2) := by decide +kernel
theorem dX2_hangTogether_62 : decode cX2_hangTogether 62 = .ok (.ishl, 1) := by decide +kernel
theorem dX2_hangTogether_63 : decode cX2_hangTogether 63 = .ok (.ior, 1) := by decide +kernel
theorem dX2_hangTogether_64 : decode cX2_hangTogether 64 = .ok (.istore_n 3, 1) := by decide +kernel
theorem dX2_hangTogether_65 : decode cX2_hangTogether 65 = .ok (.iinc 5 1, 3) := by decide +kernel
theorem dX2_hangTogether_68 : decode cX2_hangTogether 68 = .ok (.goto (-46), 3) := by decide +kernel
theorem dX2_hangTogether_71 : decode cX2_hangTogether 71 = .ok (.iinc 4 1, 3) := by decide +kernel
theorem dX2_hangTogether_74 : decode cX2_hangTogether 74 = .ok (.goto (-67), 3) := by decide +kernel
theorem dX2_hangTogether_77 : decode cX2_hangTogether 77 = .ok (.iload_n 3, 1) := by decide +kernel
theorem dX2_hangTogether_78 : decode cX2_hangTogether 78 = .ok (.ireturn, 1) := by decide +kernel
theorem dX2_greatestRoot_0 : decode cX2_greatestRoot 0 = .ok (.aload_n 1, 1) := by decide +kernel
theorem dX2_greatestRoot_1 : decode cX2_greatestRoot 1 = .ok (.invokevirtual 34, 3) := by decide +kernel
theorem dX2_greatestRoot_4 : decode cX2_greatestRoot 4 = .ok (.istore_n 2, 1) := by decide +kernel
theorem dX2_greatestRoot_5 : decode cX2_greatestRoot 5 = .ok (.iload_n 2, 1) := by decide +kernel
theorem dX2_greatestRoot_6 : decode cX2_greatestRoot 6 = .ok (.ifCond .le 20, 3) := by decide +kernel
theorem dX2_greatestRoot_9 : decode cX2_greatestRoot 9 = .ok (.aload_n 0, 1) := by decide +kernel
theorem dX2_greatestRoot_10 : decode cX2_greatestRoot 10 = .ok (.aload_n 1, 1) := by decide +kernel
theorem dX2_greatestRoot_11 : decode cX2_greatestRoot 11 = .ok (.iload_n 2, 1) := by decide +kernel
theorem dX2_greatestRoot_12 : decode cX2_greatestRoot 12 = .ok (.invokevirtual 104, 3) := by decide +kernel
theorem dX2_greatestRoot_15 : decode cX2_greatestRoot 15 = .ok (.ifCond .eq 5, 3) := by decide +kernel
theorem dX2_greatestRoot_18 : decode cX2_greatestRoot 18 = .ok (.iload_n 2, 1) := by decide +kernel
theorem dX2_greatestRoot_19 : decode cX2_greatestRoot 19 = .ok (.ireturn, 1) := by decide +kernel
theorem dX2_greatestRoot_20 : decode cX2_greatestRoot 20 = .ok (.iinc 2 (-1), 3) := by decide +kernel
theorem dX2_greatestRoot_23 : decode cX2_greatestRoot 23 = .ok (.goto (-18), 3) := by decide +kernel
theorem dX2_greatestRoot_26 : decode cX2_greatestRoot 26 = .ok (.iconst 0, 1) := by decide +kernel
theorem dX2_greatestRoot_27 : decode cX2_greatestRoot 27 = .ok (.ireturn, 1) := by decide +kernel
theorem dX2_isPower_0 : decode cX2_isPower 0 = .ok (.iload_n 2, 1) := by decide +kernel
theorem dX2_isPower_1 : decode cX2_isPower 1 = .ok (.iconst 1, 1) := by decide +kernel
theorem dX2_isPower_2 : decode cX2_isPower 2 = .ok (.if_icmp .ge 5, 3) := by decide +kernel
theorem dX2_isPower_5 : decode cX2_isPower 5 = .ok (.iconst 0, 1) := by decide +kernel
theorem dX2_isPower_6 : decode cX2_isPower 6 = .ok (.ireturn, 1) := by decide +kernel
theorem dX2_isPower_7 : decode cX2_isPower 7 = .ok (.aload_n 0, 1) := by decide +kernel
theorem dX2_isPower_8 : decode cX2_isPower 8 = .ok (.getfield 18, 3) := by decide +kernel
theorem dX2_isPower_11 : decode cX2_isPower 11 = .ok (.invokevirtual 53, 3) := by decide +kernel
theorem dX2_isPower_14 : decode cX2_isPower 14 = .ok (.iconst 0, 1) := by decide +kernel
theorem dX2_isPower_15 : decode cX2_isPower 15 = .ok (.istore_n 3, 1) := by decide +kernel
theorem dX2_isPower_16 : decode cX2_isPower 16 = .ok (.iload_n 3, 1) := by decide +kernel
theorem dX2_isPower_17 : decode cX2_isPower 17 = .ok (.aload_n 0, 1) := by decide +kernel
theorem dX2_isPower_18 : decode cX2_isPower 18 = .ok (.getfield 24, 3) := by decide +kernel
theorem dX2_isPower_21 : decode cX2_isPower 21 = .ok (.invokevirtual 68, 3) := by decide +kernel
theorem dX2_isPower_24 : decode cX2_isPower 24 = .ok (.if_icmp .ge 21, 3) := by decide +kernel
theorem dX2_isPower_27 : decode cX2_isPower 27 = .ok (.aload_n 1, 1) := by decide +kernel
theorem dX2_isPower_28 : decode cX2_isPower 28 = .ok (.iload_n 3, 1) := by decide +kernel
theorem dX2_isPower_29 : decode cX2_isPower 29 = .ok (.invokevirtual 107, 3) := by decide +kernel
theorem dX2_isPower_32 : decode cX2_isPower 32 = .ok (.iload_n 2, 1) := by decide +kernel
theorem dX2_isPower_33 : decode cX2_isPower 33 = .ok (.irem, 1) := by decide +kernel
theorem dX2_isPower_34 : decode cX2_isPower 34 = .ok (.ifCond .eq 5, 3) := by decide +kernel
theorem dX2_isPower_37 : decode cX2_isPower 37 = .ok (.iconst 0, 1) := by decide +kernel
theorem dX2_isPower_38 : decode cX2_isPower 38 = .ok (.ireturn, 1) := by decide +kernel
theorem dX2_isPower_39 : decode cX2_isPower 39 = .ok (.iinc 3 1, 3) := by decide +kernel
theorem dX2_isPower_42 : decode cX2_isPower 42 = .ok (.goto (-26), 3) := by decide +kernel
theorem dX2_isPower_45 : decode cX2_isPower 45 = .ok (.iconst 0, 1) := by decide +kernel
theorem dX2_isPower_46 : decode cX2_isPower 46 = .ok (.istore_n 3, 1) := by decide +kernel
theorem dX2_isPower_47 : decode cX2_isPower 47 = .ok (.iload_n 3, 1) := by decide +kernel
theorem dX2_isPower_48 : decode cX2_isPower 48 = .ok (.aload_n 1, 1) := by decide +kernel
theorem dX2_isPower_49 : decode cX2_isPower 49 = .ok (.invokevirtual 34, 3) := by decide +kernel
theorem dX2_isPower_52 : decode cX2_isPower 52 = .ok (.if_icmp .ge 46, 3) := by decide +kernel
theorem dX2_isPower_55 : decode cX2_isPower 55 = .ok (.aload_n 1, 1) := by decide +kernel
theorem dX2_isPower_56 : decode cX2_isPower 56 = .ok (.iload_n 3, 1) := by decide +kernel
theorem dX2_isPower_57 : decode cX2_isPower 57 = .ok (.invokevirtual 38, 3) := by decide +kernel
theorem dX2_isPower_60 : decode cX2_isPower 60 = .ok (.istore 4, 2) := by decide +kernel
theorem dX2_isPower_62 : decode cX2_isPower 62 = .ok (.aload_n 0, 1) := by decide +kernel
theorem dX2_isPower_63 : decode cX2_isPower 63 = .ok (.getfield 18, 3) := by decide +kernel
theorem dX2_isPower_66 : decode cX2_isPower 66 = .ok (.iload 4, 2) := by decide +kernel
theorem dX2_isPower_68 : decode cX2_isPower 68 = .ok (.invokevirtual 107, 3) := by decide +kernel
theorem dX2_isPower_71 : decode cX2_isPower 71 = .ok (.aload_n 1, 1) := by decide +kernel
theorem dX2_isPower_72 : decode cX2_isPower 72 = .ok (.iload 4, 2) := by decide +kernel
theorem dX2_isPower_74 : decode cX2_isPower 74 = .ok (.invokevirtual 107, 3) := by decide +kernel
theorem dX2_isPower_77 : decode cX2_isPower 77 = .ok (.iload_n 2, 1) := by decide +kernel
theorem dX2_isPower_78 : decode cX2_isPower 78 = .ok (.idiv, 1) := by decide +kernel
theorem dX2_isPower_79 : decode cX2_isPower 79 = .ok (.if_icmp .ge 13, 3) := by decide +kernel
theorem dX2_isPower_82 : decode cX2_isPower 82 = .ok (.aload_n 0, 1) := by decide +kernel
theorem dX2_isPower_83 : decode cX2_isPower 83 = .ok (.getfield 18, 3) := by decide +kernel
theorem dX2_isPower_86 : decode cX2_isPower 86 = .ok (.iload 4, 2) := by decide +kernel
theorem dX2_isPower_88 : decode cX2_isPower 88 = .ok (.invokevirtual 60, 3) := by decide +kernel
theorem dX2_isPower_91 : decode cX2_isPower 91 = .ok (.pop, 1) := by decide +kernel
theorem dX2_isPower_92 : decode cX2_isPower 92 = .ok (.iinc 3 1, 3) := by decide +kernel
theorem dX2_isPower_95 : decode cX2_isPower 95 = .ok (.goto (-48), 3) := by decide +kernel
theorem dX2_isPower_98 : decode cX2_isPower 98 = .ok (.aload_n 0, 1) := by decide +kernel
theorem dX2_isPower_99 : decode cX2_isPower 99 = .ok (.getfield 21, 3) := by decide +kernel
theorem dX2_isPower_102 : decode cX2_isPower 102 = .ok (.invokevirtual 53, 3) := by decide +kernel
theorem dX2_isPower_105 : decode cX2_isPower 105 = .ok (.iconst 0, 1) := by decide +kernel
theorem dX2_isPower_106 : decode cX2_isPower 106 = .ok (.istore_n 3, 1) := by decide +kernel
theorem dX2_isPower_107 : decode cX2_isPower 107 = .ok (.iload_n 3, 1) := by decide +kernel
theorem dX2_isPower_108 : decode cX2_isPower 108 = .ok (.iload_n 2, 1) := by decide +kernel
theorem dX2_isPower_109 : decode cX2_isPower 109 = .ok (.if_icmp .ge 21, 3) := by decide +kernel
theorem dX2_isPower_112 : decode cX2_isPower 112 = .ok (.aload_n 0, 1) := by decide +kernel
theorem dX2_isPower_113 : decode cX2_isPower 113 = .ok (.getfield 21, 3) := by decide +kernel
theorem dX2_isPower_116 : decode cX2_isPower 116 = .ok (.aload_n 0, 1) := by decide +kernel
theorem dX2_isPower_117 : decode cX2_isPower 117 = .ok (.getfield 18, 3) := by decide +kernel
theorem dX2_isPower_120 : decode cX2_isPower 120 = .ok (.invokevirtual 110, 3) := by decide +kernel
theorem dX2_isPower_123 : decode cX2_isPower 123 = .ok (.pop, 1) := by decide +kernel
theorem dX2_isPower_124 : decode cX2_isPower 124 = .ok (.iinc 3 1, 3) := by decide +kernel
theorem dX2_isPower_127 : decode cX2_isPower 127 = .ok (.goto (-20), 3) := by decide +kernel
theorem dX2_isPower_130 : decode cX2_isPower 130 = .ok (.aload_n 0, 1) := by decide +kernel
theorem dX2_isPower_131 : decode cX2_isPower 131 = .ok (.aload_n 1, 1) := by decide +kernel
theorem dX2_isPower_132 : decode cX2_isPower 132 = .ok (.aload_n 0, 1) := by decide +kernel
theorem dX2_isPower_133 : decode cX2_isPower 133 = .ok (.getfield 21, 3) := by decide +kernel
theorem dX2_isPower_136 : decode cX2_isPower 136 = .ok (.invokevirtual 64, 3) := by decide +kernel
theorem dX2_isPower_139 : decode cX2_isPower 139 = .ok (.iconst (-1), 1) := by decide +kernel
theorem dX2_isPower_140 : decode cX2_isPower 140 = .ok (.if_icmp .ne 7, 3) := by decide +kernel
theorem dX2_isPower_143 : decode cX2_isPower 143 = .ok (.iconst 1, 1) := by decide +kernel
theorem dX2_isPower_144 : decode cX2_isPower 144 = .ok (.goto 4, 3) := by decide +kernel
theorem dX2_isPower_147 : decode cX2_isPower 147 = .ok (.iconst 0, 1) := by decide +kernel
theorem dX2_isPower_148 : decode cX2_isPower 148 = .ok (.ireturn, 1) := by decide +kernel
theorem dX3_init_0 : decode cX3_init 0 = .ok (.aload_n 0, 1) := by decide +kernel
theorem dX3_init_1 : decode cX3_init 1 = .ok (.invokespecial 3, 3) := by decide +kernel
theorem dX3_init_4 : decode cX3_init 4 = .ok (.aload_n 0, 1) := by decide +kernel
theorem dX3_init_5 : decode cX3_init 5 = .ok (.bipush 6, 2) := by decide +kernel
theorem dX3_init_7 : decode cX3_init 7 = .ok (.newarray .int, 2) := by decide +kernel
theorem dX3_init_9 : decode cX3_init 9 = .ok (.putfield 9, 3) := by decide +kernel
theorem dX3_init_12 : decode cX3_init 12 = .ok (.aload_n 0, 1) := by decide +kernel
theorem dX3_init_13 : decode cX3_init 13 = .ok (.iconst 3, 1) := by decide +kernel
theorem dX3_init_14 : decode cX3_init 14 = .ok (.putfield 15, 3) := by decide +kernel
theorem dX3_init_17 : decode cX3_init 17 = .ok (.return_, 1) := by decide +kernel
theorem dX3_size_0 : decode cX3_size 0 = .ok (.aload_n 0, 1) := by decide +kernel
theorem dX3_size_1 : decode cX3_size 1 = .ok (.getfield 15, 3) := by decide +kernel
theorem dX3_size_4 : decode cX3_size 4 = .ok (.ireturn, 1) := by decide +kernel
theorem dX3_restart_0 : decode cX3_restart 0 = .ok (.aload_n 0, 1) := by decide +kernel
theorem dX3_restart_1 : decode cX3_restart 1 = .ok (.iload_n 1, 1) := by decide +kernel
theorem dX3_restart_2 : decode cX3_restart 2 = .ok (.putfield 15, 3) := by decide +kernel
theorem dX3_restart_5 : decode cX3_restart 5 = .ok (.aload_n 0, 1) := by decide +kernel
theorem dX3_restart_6 : decode cX3_restart 6 = .ok (.getfield 9, 3) := by decide +kernel
theorem dX3_restart_9 : decode cX3_restart 9 = .ok (.iconst 0, 1) := by decide +kernel
theorem dX3_restart_10 : decode cX3_restart 10 = .ok (.invokestatic 19, 3) := by decide +kernel
theorem dX3_restart_13 : decode cX3_restart 13 = .ok (.return_, 1) := by decide +kernel
theorem dX3_has_0 : decode cX3_has 0 = .ok (.iload_n 1, 1) := by decide +kernel
theorem dX3_has_1 : decode cX3_has 1 = .ok (.ifCond .lt 15, 3) := by decide +kernel
theorem dX3_has_4 : decode cX3_has 4 = .ok (.iload_n 1, 1) := by decide +kernel
theorem dX3_has_5 : decode cX3_has 5 = .ok (.aload_n 0, 1) := by decide +kernel
theorem dX3_has_6 : decode cX3_has 6 = .ok (.getfield 15, 3) := by decide +kernel
theorem dX3_has_9 : decode cX3_has 9 = .ok (.if_icmp .ge 7, 3) := by decide +kernel
theorem dX3_has_12 : decode cX3_has 12 = .ok (.iconst 1, 1) := by decide +kernel
theorem dX3_has_13 : decode cX3_has 13 = .ok (.goto 4, 3) := by decide +kernel
theorem dX3_has_16 : decode cX3_has 16 = .ok (.iconst 0, 1) := by decide +kernel
theorem dX3_has_17 : decode cX3_has 17 = .ok (.ireturn, 1) := by decide +kernel
theorem dX3_freeWith_0 : decode cX3_freeWith 0 = .ok (.iload_n 1, 1) := by decide +kernel
theorem dX3_freeWith_1 : decode cX3_freeWith 1 = .ok (.ifCond .lt 21, 3) := by decide +kernel
theorem dX3_freeWith_4 : decode cX3_freeWith 4 = .ok (.iload_n 1, 1) := by decide +kernel
theorem dX3_freeWith_5 : decode cX3_freeWith 5 = .ok (.aload_n 0, 1) := by decide +kernel
theorem dX3_freeWith_6 : decode cX3_freeWith 6 = .ok (.getfield 9, 3) := by decide +kernel
theorem dX3_freeWith_9 : decode cX3_freeWith 9 = .ok (.arraylength, 1) := by decide +kernel
theorem dX3_freeWith_10 : decode cX3_freeWith 10 = .ok (.if_icmp .ge 12, 3) := by decide +kernel
theorem dX3_freeWith_13 : decode cX3_freeWith 13 = .ok (.aload_n 0, 1) := by decide +kernel
theorem dX3_freeWith_14 : decode cX3_freeWith 14 = .ok (.getfield 9, 3) := by decide +kernel
theorem dX3_freeWith_17 : decode cX3_freeWith 17 = .ok (.iload_n 1, 1) := by decide +kernel
theorem dX3_freeWith_18 : decode cX3_freeWith 18 = .ok (.iaload, 1) := by decide +kernel
theorem dX3_freeWith_19 : decode cX3_freeWith 19 = .ok (.goto 4, 3) := by decide +kernel
theorem dX3_freeWith_22 : decode cX3_freeWith 22 = .ok (.iconst 0, 1) := by decide +kernel
theorem dX3_freeWith_23 : decode cX3_freeWith 23 = .ok (.ireturn, 1) := by decide +kernel
theorem dX3_boundWith_0 : decode cX3_boundWith 0 = .ok (.iconst 1, 1) := by decide +kernel
theorem dX3_boundWith_1 : decode cX3_boundWith 1 = .ok (.aload_n 0, 1) := by decide +kernel
theorem dX3_boundWith_2 : decode cX3_boundWith 2 = .ok (.getfield 15, 3) := by decide +kernel
theorem dX3_boundWith_5 : decode cX3_boundWith 5 = .ok (.ishl, 1) := by decide +kernel
theorem dX3_boundWith_6 : decode cX3_boundWith 6 = .ok (.iconst 1, 1) := by decide +kernel
theorem dX3_boundWith_7 : decode cX3_boundWith 7 = .ok (.isub, 1) := by decide +kernel
theorem dX3_boundWith_8 : decode cX3_boundWith 8 = .ok (.istore_n 2, 1) := by decide +kernel
theorem dX3_boundWith_9 : decode cX3_boundWith 9 = .ok (.iload_n 1, 1) := by decide +kernel
theorem dX3_boundWith_10 : decode cX3_boundWith 10 = .ok (.ifCond .lt 25, 3) := by decide +kernel
theorem dX3_boundWith_13 : decode cX3_boundWith 13 = .ok (.iload_n 1, 1) := by decide +kernel
theorem dX3_boundWith_14 : decode cX3_boundWith 14 = .ok (.aload_n 0, 1) := by decide +kernel
theorem dX3_boundWith_15 : decode cX3_boundWith 15 = .ok (.getfield 9, 3) := by decide +kernel
theorem dX3_boundWith_18 : decode cX3_boundWith 18 = .ok (.arraylength, 1) := by decide +kernel
theorem dX3_boundWith_19 : decode cX3_boundWith 19 = .ok (.if_icmp .ge 16, 3) := by decide +kernel
theorem dX3_boundWith_22 : decode cX3_boundWith 22 = .ok (.iload_n 2, 1) := by decide +kernel
theorem dX3_boundWith_23 : decode cX3_boundWith 23 = .ok (.aload_n 0, 1) := by decide +kernel
theorem dX3_boundWith_24 : decode cX3_boundWith 24 = .ok (.getfield 9, 3) := by decide +kernel
theorem dX3_boundWith_27 : decode cX3_boundWith 27 = .ok (.iload_n 1, 1) := by decide +kernel
theorem dX3_boundWith_28 : decode cX3_boundWith 28 = .ok (.iaload, 1) := by decide +kernel
theorem dX3_boundWith_29 : decode cX3_boundWith 29 = .ok (.iconst (-1), 1) := by decide +kernel
theorem dX3_boundWith_30 : decode cX3_boundWith 30 = .ok (.ixor, 1) := by decide +kernel
theorem dX3_boundWith_31 : decode cX3_boundWith 31 = .ok (.iand, 1) := by decide +kernel
theorem dX3_boundWith_32 : decode cX3_boundWith 32 = .ok (.goto 4, 3) := by decide +kernel
theorem dX3_boundWith_35 : decode cX3_boundWith 35 = .ok (.iload_n 2, 1) := by decide +kernel
theorem dX3_boundWith_36 : decode cX3_boundWith 36 = .ok (.ireturn, 1) := by decide +kernel
theorem dX3_allBits_0 : decode cX3_allBits 0 = .ok (.iconst 1, 1) := by decide +kernel
theorem dX3_allBits_1 : decode cX3_allBits 1 = .ok (.aload_n 0, 1) := by decide +kernel
theorem dX3_allBits_2 : decode cX3_allBits 2 = .ok (.getfield 15, 3) := by decide +kernel
theorem dX3_allBits_5 : decode cX3_allBits 5 = .ok (.ishl, 1) := by decide +kernel
theorem dX3_allBits_6 : decode cX3_allBits 6 = .ok (.iconst 1, 1) := by decide +kernel
theorem dX3_allBits_7 : decode cX3_allBits 7 = .ok (.isub, 1) := by decide +kernel
theorem dX3_allBits_8 : decode cX3_allBits 8 = .ok (.ireturn, 1) := by decide +kernel
theorem dX3_areFree_0 : decode cX3_areFree 0 = .ok (.aload_n 0, 1) := by decide +kernel
theorem dX3_areFree_1 : decode cX3_areFree 1 = .ok (.iload_n 2, 1) := by decide +kernel
theorem dX3_areFree_2 : decode cX3_areFree 2 = .ok (.invokevirtual 25, 3) := by decide +kernel
theorem dX3_areFree_5 : decode cX3_areFree 5 = .ok (.ifCond .eq 20, 3) := by decide +kernel
theorem dX3_areFree_8 : decode cX3_areFree 8 = .ok (.aload_n 0, 1) := by decide +kernel
theorem dX3_areFree_9 : decode cX3_areFree 9 = .ok (.iload_n 1, 1) := by decide +kernel
theorem dX3_areFree_10 : decode cX3_areFree 10 = .ok (.invokevirtual 29, 3) := by decide +kernel
theorem dX3_areFree_13 : decode cX3_areFree 13 = .ok (.iload_n 2, 1) := by decide +kernel
theorem dX3_areFree_14 : decode cX3_areFree 14 = .ok (.ishr, 1) := by decide +kernel
theorem dX3_areFree_15 : decode cX3_areFree 15 = .ok (.iconst 1, 1) := by decide +kernel
theorem dX3_areFree_16 : decode cX3_areFree 16 = .ok (.iand, 1) := by decide +kernel
theorem dX3_areFree_17 : decode cX3_areFree 17 = .ok (.iconst 1, 1) := by decide +kernel
theorem dX3_areFree_18 : decode cX3_areFree 18 = .ok (.if_icmp .ne 7, 3) := by decide +kernel
theorem dX3_areFree_21 : decode cX3_areFree 21 = .ok (.iconst 1, 1) := by decide +kernel
theorem dX3_areFree_22 : decode cX3_areFree 22 = .ok (.goto 4, 3) := by decide +kernel
theorem dX3_areFree_25 : decode cX3_areFree 25 = .ok (.iconst 0, 1) := by decide +kernel
theorem dX3_areFree_26 : decode cX3_areFree 26 = .ok (.ireturn, 1) := by decide +kernel
theorem dX3_setFree_0 : decode cX3_setFree 0 = .ok (.iload_n 1, 1) := by decide +kernel
theorem dX3_setFree_1 : decode cX3_setFree 1 = .ok (.iload_n 2, 1) := by decide +kernel
theorem dX3_setFree_2 : decode cX3_setFree 2 = .ok (.if_icmp .ne 4, 3) := by decide +kernel
theorem dX3_setFree_5 : decode cX3_setFree 5 = .ok (.return_, 1) := by decide +kernel
theorem dX3_setFree_6 : decode cX3_setFree 6 = .ok (.aload_n 0, 1) := by decide +kernel
theorem dX3_setFree_7 : decode cX3_setFree 7 = .ok (.iload_n 1, 1) := by decide +kernel
theorem dX3_setFree_8 : decode cX3_setFree 8 = .ok (.iload_n 2, 1) := by decide +kernel
theorem dX3_setFree_9 : decode cX3_setFree 9 = .ok (.iload_n 3, 1) := by decide +kernel
theorem dX3_setFree_10 : decode cX3_setFree 10 = .ok (.invokevirtual 33, 3) := by decide +kernel
theorem dX3_setFree_13 : decode cX3_setFree 13 = .ok (.aload_n 0, 1) := by decide +kernel
theorem dX3_setFree_14 : decode cX3_setFree 14 = .ok (.iload_n 2, 1) := by decide +kernel
theorem dX3_setFree_15 : decode cX3_setFree 15 = .ok (.iload_n 1, 1) := by decide +kernel
theorem dX3_setFree_16 : decode cX3_setFree 16 = .ok (.iload_n 3, 1) := by decide +kernel
theorem dX3_setFree_17 : decode cX3_setFree 17 = .ok (.invokevirtual 33, 3) := by decide +kernel
theorem dX3_setFree_20 : decode cX3_setFree 20 = .ok (.return_, 1) := by decide +kernel
theorem dX3_setBit_0 : decode cX3_setBit 0 = .ok (.aload_n 0, 1) := by decide +kernel
theorem dX3_setBit_1 : decode cX3_setBit 1 = .ok (.iload_n 2, 1) := by decide +kernel
theorem dX3_setBit_2 : decode cX3_setBit 2 = .ok (.invokevirtual 25, 3) := by decide +kernel
theorem dX3_setBit_5 : decode cX3_setBit 5 = .ok (.ifCond .eq 16, 3) := by decide +kernel
theorem dX3_setBit_8 : decode cX3_setBit 8 = .ok (.iload_n 1, 1) := by decide +kernel
theorem dX3_setBit_9 : decode cX3_setBit 9 = .ok (.ifCond .lt 12, 3) := by decide +kernel
theorem dX3_setBit_12 : decode cX3_setBit 12 = .ok (.iload_n 1, 1) := by decide +kernel
theorem dX3_setBit_13 : decode cX3_setBit 13 = .ok (.aload_n 0, 1) := by decide +kernel
theorem dX3_setBit_14 : decode cX3_setBit 14 = .ok (.getfield 9, 3) := by decide +kernel
theorem dX3_setBit_17 : decode cX3_setBit 17 = .ok (.arraylength, 1) := by decide +kernel
theorem dX3_setBit_18 : decode cX3_setBit 18 = .ok (.if_icmp .lt 4, 3) := by decide +kernel
theorem dX3_setBit_21 : decode cX3_setBit 21 = .ok (.return_, 1) := by decide +kernel
theorem dX3_setBit_22 : decode cX3_setBit 22 = .ok (.aload_n 0, 1) := by decide +kernel
theorem dX3_setBit_23 : decode cX3_setBit 23 = .ok (.getfield 9, 3) := by decide +kernel
theorem dX3_setBit_26 : decode cX3_setBit 26 = .ok (.iload_n 1, 1) := by decide +kernel
theorem dX3_setBit_27 : decode cX3_setBit 27 = .ok (.iload_n 3, 1) := by decide +kernel
theorem dX3_setBit_28 : decode cX3_setBit 28 = .ok (.ifCond .eq 16, 3) := by decide +kernel
theorem dX3_setBit_31 : decode cX3_setBit 31 = .ok (.aload_n 0, 1) := by decide +kernel
theorem dX3_setBit_32 : decode cX3_setBit 32 = .ok (.getfield 9, 3) := by decide +kernel
theorem dX3_setBit_35 : decode cX3_setBit 35 = .ok (.iload_n 1, 1) := by decide +kernel
theorem dX3_setBit_36 : decode cX3_setBit 36 = .ok (.iaload, 1) := by decide +kernel
theorem dX3_setBit_37 : decode cX3_setBit 37 = .ok (.iconst 1, 1) := by decide +kernel
theorem dX3_setBit_38 : decode cX3_setBit 38 = .ok (.iload_n 2, 1) := by decide +kernel
theorem dX3_setBit_39 : decode cX3_setBit 39 = .ok (.ishl, 1) := by decide +kernel
theorem dX3_setBit_40 : decode cX3_setBit 40 = .ok (.ior, 1) := by decide +kernel
theorem dX3_setBit_41 : decode cX3_setBit 41 = .ok (.goto 15, 3) := by decide +kernel
theorem dX3_setBit_44 : decode cX3_setBit 44 = .ok (.aload_n 0, 1) := by decide +kernel
theorem dX3_setBit_45 : decode cX3_setBit 45 = .ok (.getfield 9, 3) := by decide +kernel
theorem dX3_setBit_48 : decode cX3_setBit 48 = .ok (.iload_n 1, 1) := by decide +kernel
theorem dX3_setBit_49 : decode cX3_setBit 49 = .ok (.iaload, 1) := by decide +kernel
theorem dX3_setBit_50 : decode cX3_setBit 50 = .ok (.iconst 1, 1) := by decide +kernel
theorem dX3_setBit_51 : decode cX3_setBit 51 = .ok (.iload_n 2, 1) := by decide +kernel
theorem dX3_setBit_52 : decode cX3_setBit 52 = .ok (.ishl, 1) := by decide +kernel
theorem dX3_setBit_53 : decode cX3_setBit 53 = .ok (.iconst (-1), 1) := by decide +kernel
theorem dX3_setBit_54 : decode cX3_setBit 54 = .ok (.ixor, 1) := by decide +kernel
theorem dX3_setBit_55 : decode cX3_setBit 55 = .ok (.iand, 1) := by decide +kernel
theorem dX3_setBit_56 : decode cX3_setBit 56 = .ok (.iastore, 1) := by decide +kernel
theorem dX3_setBit_57 : decode cX3_setBit 57 = .ok (.return_, 1) := by decide +kernel
theorem dX3_freePairs_0 : decode cX3_freePairs 0 = .ok (.iconst 0, 1) := by decide +kernel
theorem dX3_freePairs_1 : decode cX3_freePairs 1 = .ok (.istore_n 1, 1) := by decide +kernel
theorem dX3_freePairs_2 : decode cX3_freePairs 2 = .ok (.iconst 0, 1) := by decide +kernel
theorem dX3_freePairs_3 : decode cX3_freePairs 3 = .ok (.istore_n 2, 1) := by decide +kernel
theorem dX3_freePairs_4 : decode cX3_freePairs 4 = .ok (.iload_n 2, 1) := by decide +kernel
theorem dX3_freePairs_5 : decode cX3_freePairs 5 = .ok (.aload_n 0, 1) := by decide +kernel
theorem dX3_freePairs_6 : decode cX3_freePairs 6 = .ok (.getfield 9, 3) := by decide +kernel
theorem dX3_freePairs_9 : decode cX3_freePairs 9 = .ok (.arraylength, 1) := by decide +kernel
theorem dX3_freePairs_10 : decode cX3_freePairs 10 = .ok (.if_icmp .ge 21, 3) := by decide +kernel
theorem dX3_freePairs_13 : decode cX3_freePairs 13 = .ok (.iload_n 1, 1) := by decide +kernel
theorem dX3_freePairs_14 : decode cX3_freePairs 14 = .ok (.aload_n 0, 1) := by decide +kernel
theorem dX3_freePairs_15 : decode cX3_freePairs 15 = .ok (.getfield 9, 3) := by decide +kernel
theorem dX3_freePairs_18 : decode cX3_freePairs 18 = .ok (.iload_n 2, 1) := by decide +kernel
theorem dX3_freePairs_19 : decode cX3_freePairs 19 = .ok (.iaload, 1) := by decide +kernel
theorem dX3_freePairs_20 : decode cX3_freePairs 20 = .ok (.invokestatic 37, 3) := by decide +kernel
theorem dX3_freePairs_23 : decode cX3_freePairs 23 = .ok (.iadd, 1) := by decide +kernel
theorem dX3_freePairs_24 : decode cX3_freePairs 24 = .ok (.istore_n 1, 1) := by decide +kernel
theorem dX3_freePairs_25 : decode cX3_freePairs 25 = .ok (.iinc 2 1, 3) := by decide +kernel
theorem dX3_freePairs_28 : decode cX3_freePairs 28 = .ok (.goto (-24), 3) := by decide +kernel
theorem dX3_freePairs_31 : decode cX3_freePairs 31 = .ok (.iload_n 1, 1) := by decide +kernel
theorem dX3_freePairs_32 : decode cX3_freePairs 32 = .ok (.iconst 2, 1) := by decide +kernel
theorem dX3_freePairs_33 : decode cX3_freePairs 33 = .ok (.idiv, 1) := by decide +kernel
theorem dX3_freePairs_34 : decode cX3_freePairs 34 = .ok (.ireturn, 1) := by decide +kernel
theorem dX3_setsTogether_0 : decode cX3_setsTogether 0 = .ok (.iconst 0, 1) := by decide +kernel
theorem dX3_setsTogether_1 : decode cX3_setsTogether 1 = .ok (.istore_n 2, 1) := by decide +kernel
theorem dX3_setsTogether_2 : decode cX3_setsTogether 2 = .ok (.aload_n 0, 1) := by decide +kernel
theorem dX3_setsTogether_3 : decode cX3_setsTogether 3 = .ok (.invokevirtual 42, 3) := by decide +kernel
theorem dX3_setsTogether_6 : decode cX3_setsTogether 6 = .ok (.istore_n 3, 1) := by decide +kernel
theorem dX3_setsTogether_7 : decode cX3_setsTogether 7 = .ok (.iconst 0, 1) := by decide +kernel
theorem dX3_setsTogether_8 : decode cX3_setsTogether 8 = .ok (.istore 4, 2) := by decide +kernel
theorem dX3_setsTogether_10 : decode cX3_setsTogether 10 = .ok (.iload 4, 2) := by decide +kernel
theorem dX3_setsTogether_12 : decode cX3_setsTogether 12 = .ok (.iload_n 3, 1) := by decide +kernel
theorem dX3_setsTogether_13 : decode cX3_setsTogether 13 = .ok (.if_icmp .gt 30, 3) := by decide +kernel
theorem dX3_setsTogether_16 : decode cX3_setsTogether 16 = .ok (.iload 4, 2) := by decide +kernel
theorem dX3_setsTogether_18 : decode cX3_setsTogether 18 = .ok (.invokestatic 37, 3) := by decide +kernel
theorem dX3_setsTogether_21 : decode cX3_setsTogether 21 = .ok (.iload_n 1, 1) := by decide +kernel
theorem dX3_setsTogether_22 : decode cX3_setsTogether 22 = .ok (.if_icmp .ne 15, 3) := by decide +kernel
theorem dX3_setsTogether_25 : decode cX3_setsTogether 25 = .ok (.aload_n 0, 1) := by decide +kernel
theorem dX3_setsTogether_26 : decode cX3_setsTogether 26 = .ok (.iload 4, 2) := by decide +kernel
theorem dX3_setsTogether_28 : decode cX3_setsTogether 28 = .ok (.invokevirtual 46, 3) := by decide +kernel
theorem dX3_setsTogether_31 : decode cX3_setsTogether 31 = .ok (.ifCond .eq 6, 3) := by decide +kernel
theorem dX3_setsTogether_34 : decode cX3_setsTogether 34 = .ok (.iinc 2 1, 3) := by decide +kernel
theorem dX3_setsTogether_37 : decode cX3_setsTogether 37 = .ok (.iinc 4 1, 3) := by decide +kernel
theorem dX3_setsTogether_40 : decode cX3_setsTogether 40 = .ok (.goto (-30), 3) := by decide +kernel
theorem dX3_setsTogether_43 : decode cX3_setsTogether 43 = .ok (.iload_n 2, 1) := by decide +kernel
theorem dX3_setsTogether_44 : decode cX3_setsTogether 44 = .ok (.ireturn, 1) := by decide +kernel
theorem dX3_goTogether_0 : decode cX3_goTogether 0 = .ok (.iconst 0, 1) := by decide +kernel
theorem dX3_goTogether_1 : decode cX3_goTogether 1 = .ok (.istore_n 2, 1) := by decide +kernel
theorem dX3_goTogether_2 : decode cX3_goTogether 2 = .ok (.iload_n 2, 1) := by decide +kernel
theorem dX3_goTogether_3 : decode cX3_goTogether 3 = .ok (.aload_n 0, 1) := by decide +kernel
theorem dX3_goTogether_4 : decode cX3_goTogether 4 = .ok (.getfield 15, 3) := by decide +kernel
theorem dX3_goTogether_7 : decode cX3_goTogether 7 = .ok (.if_icmp .ge 33, 3) := by decide +kernel
theorem dX3_goTogether_10 : decode cX3_goTogether 10 = .ok (.iload_n 1, 1) := by decide +kernel
theorem dX3_goTogether_11 : decode cX3_goTogether 11 = .ok (.iload_n 2, 1) := by decide +kernel
theorem dX3_goTogether_12 : decode cX3_goTogether 12 = .ok (.ishr, 1) := by decide +kernel
theorem dX3_goTogether_13 : decode cX3_goTogether 13 = .ok (.iconst 1, 1) := by decide +kernel
theorem dX3_goTogether_14 : decode cX3_goTogether 14 = .ok (.iand, 1) := by decide +kernel
theorem dX3_goTogether_15 : decode cX3_goTogether 15 = .ok (.iconst 1, 1) := by decide +kernel
theorem dX3_goTogether_16 : decode cX3_goTogether 16 = .ok (.if_icmp .ne 18, 3) := by decide +kernel
theorem dX3_goTogether_19 : decode cX3_goTogether 19 = .ok (.iload_n 1, 1) := by decide +kernel
theorem dX3_goTogether_20 : decode cX3_goTogether 20 = .ok (.aload_n 0, 1) := by decide +kernel
theorem dX3_goTogether_21 : decode cX3_goTogether 21 = .ok (.iload_n 2, 1) := by decide +kernel
theorem dX3_goTogether_22 : decode cX3_goTogether 22 = .ok (.invokevirtual 49, 3) := by decide +kernel
theorem dX3_goTogether_25 : decode cX3_goTogether 25 = .ok (.iand, 1) := by decide +kernel
theorem dX3_goTogether_26 : decode cX3_goTogether 26 = .ok (.iconst 1, 1) := by decide +kernel
theorem dX3_goTogether_27 : decode cX3_goTogether 27 = .ok (.iload_n 2, 1) := by decide +kernel
theorem dX3_goTogether_28 : decode cX3_goTogether 28 = .ok (.ishl, 1) := by decide +kernel
theorem dX3_goTogether_29 : decode cX3_goTogether 29 = .ok (.if_icmp .eq 5, 3) := by decide +kernel
theorem dX3_goTogether_32 : decode cX3_goTogether 32 = .ok (.iconst 0, 1) := by decide +kernel
theorem dX3_goTogether_33 : decode cX3_goTogether 33 = .ok (.ireturn, 1) := by decide +kernel
theorem dX3_goTogether_34 : decode cX3_goTogether 34 = .ok (.iinc 2 1, 3) := by decide +kernel
theorem dX3_goTogether_37 : decode cX3_goTogether 37 = .ok (.goto (-35), 3) := by decide +kernel
theorem dX3_goTogether_40 : decode cX3_goTogether 40 = .ok (.iconst 1, 1) := by decide +kernel
theorem dX3_goTogether_41 : decode cX3_goTogether 41 = .ok (.ireturn, 1) := by decide +kernel
theorem dX4_init_0 : decode cX4_init 0 = .ok (.aload_n 0, 1) := by decide +kernel
theorem dX4_init_1 : decode cX4_init 1 = .ok (.invokespecial 1, 3) := by decide +kernel
theorem dX4_init_4 : decode cX4_init 4 = .ok (.aload_n 0, 1) := by decide +kernel
theorem dX4_init_5 : decode cX4_init 5 = .ok (.iconst 0, 1) := by decide +kernel
theorem dX4_init_6 : decode cX4_init 6 = .ok (.putfield 9, 3) := by decide +kernel
theorem dX4_init_9 : decode cX4_init 9 = .ok (.aload_n 0, 1) := by decide +kernel
theorem dX4_init_10 : decode cX4_init 10 = .ok (.iconst 0, 1) := by decide +kernel
theorem dX4_init_11 : decode cX4_init 11 = .ok (.putfield 13, 3) := by decide +kernel
theorem dX4_init_14 : decode cX4_init 14 = .ok (.aload_n 0, 1) := by decide +kernel
theorem dX4_init_15 : decode cX4_init 15 = .ok (.iconst 0, 1) := by decide +kernel
theorem dX4_init_16 : decode cX4_init 16 = .ok (.putfield 16, 3) := by decide +kernel
theorem dX4_init_19 : decode cX4_init 19 = .ok (.aload_n 0, 1) := by decide +kernel
theorem dX4_init_20 : decode cX4_init 20 = .ok (.iconst 0, 1) := by decide +kernel
theorem dX4_init_21 : decode cX4_init 21 = .ok (.putfield 19, 3) := by decide +kernel
theorem dX4_init_24 : decode cX4_init 24 = .ok (.aload_n 0, 1) := by decide +kernel
theorem dX4_init_25 : decode cX4_init 25 = .ok (.iconst 0, 1) := by decide +kernel
theorem dX4_init_26 : decode cX4_init 26 = .ok (.putfield 22, 3) := by decide +kernel
theorem dX4_init_29 : decode cX4_init 29 = .ok (.return_, 1) := by decide +kernel
theorem dX5_init_0 : decode cX5_init 0 = .ok (.aload_n 0, 1) := by decide +kernel
theorem dX5_init_1 : decode cX5_init 1 = .ok (.invokespecial 3, 3) := by decide +kernel
theorem dX5_init_4 : decode cX5_init 4 = .ok (.aload_n 0, 1) := by decide +kernel
theorem dX5_init_5 : decode cX5_init 5 = .ok (.bipush 16, 2) := by decide +kernel
theorem dX5_init_7 : decode cX5_init 7 = .ok (.anewarray 11, 3) := by decide +kernel
theorem dX5_init_10 : decode cX5_init 10 = .ok (.putfield 13, 3) := by decide +kernel
theorem dX5_init_13 : decode cX5_init 13 = .ok (.aload_n 0, 1) := by decide +kernel
theorem dX5_init_14 : decode cX5_init 14 = .ok (.iconst 0, 1) := by decide +kernel
theorem dX5_init_15 : decode cX5_init 15 = .ok (.putfield 17, 3) := by decide +kernel
theorem dX5_init_18 : decode cX5_init 18 = .ok (.aload_n 0, 1) := by decide +kernel
theorem dX5_init_19 : decode cX5_init 19 = .ok (.iconst 0, 1) := by decide +kernel
theorem dX5_init_20 : decode cX5_init 20 = .ok (.putfield 21, 3) := by decide +kernel
theorem dX5_init_23 : decode cX5_init 23 = .ok (.aload_n 0, 1) := by decide +kernel
theorem dX5_init_24 : decode cX5_init 24 = .ok (.aload_n 1, 1) := by decide +kernel
theorem dX5_init_25 : decode cX5_init 25 = .ok (.putfield 24, 3) := by decide +kernel
theorem dX5_init_28 : decode cX5_init 28 = .ok (.iconst 0, 1) := by decide +kernel
theorem dX5_init_29 : decode cX5_init 29 = .ok (.istore_n 2, 1) := by decide +kernel
theorem dX5_init_30 : decode cX5_init 30 = .ok (.iload_n 2, 1) := by decide +kernel
theorem dX5_init_31 : decode cX5_init 31 = .ok (.aload_n 0, 1) := by decide +kernel
theorem dX5_init_32 : decode cX5_init 32 = .ok (.getfield 13, 3) := by decide +kernel
theorem dX5_init_35 : decode cX5_init 35 = .ok (.arraylength, 1) := by decide +kernel
theorem dX5_init_36 : decode cX5_init 36 = .ok (.if_icmp .ge 22, 3) := by decide +kernel
theorem dX5_init_39 : decode cX5_init 39 = .ok (.aload_n 0, 1) := by decide +kernel
theorem dX5_init_40 : decode cX5_init 40 = .ok (.getfield 13, 3) := by decide +kernel
theorem dX5_init_43 : decode cX5_init 43 = .ok (.iload_n 2, 1) := by decide +kernel
theorem dX5_init_44 : decode cX5_init 44 = .ok (.new 11, 3) := by decide +kernel
theorem dX5_init_47 : decode cX5_init 47 = .ok (.dup, 1) := by decide +kernel
theorem dX5_init_48 : decode cX5_init 48 = .ok (.invokespecial 28, 3) := by decide +kernel
theorem dX5_init_51 : decode cX5_init 51 = .ok (.aastore, 1) := by decide +kernel
theorem dX5_init_52 : decode cX5_init 52 = .ok (.iinc 2 1, 3) := by decide +kernel
theorem dX5_init_55 : decode cX5_init 55 = .ok (.goto (-25), 3) := by decide +kernel
theorem dX5_init_58 : decode cX5_init 58 = .ok (.return_, 1) := by decide +kernel
theorem dX5_size_0 : decode cX5_size 0 = .ok (.aload_n 0, 1) := by decide +kernel
theorem dX5_size_1 : decode cX5_size 1 = .ok (.getfield 17, 3) := by decide +kernel
theorem dX5_size_4 : decode cX5_size 4 = .ok (.ireturn, 1) := by decide +kernel
theorem dX5_at_0 : decode cX5_at 0 = .ok (.iload_n 1, 1) := by decide +kernel
theorem dX5_at_1 : decode cX5_at 1 = .ok (.ifCond .lt 21, 3) := by decide +kernel
theorem dX5_at_4 : decode cX5_at 4 = .ok (.iload_n 1, 1) := by decide +kernel
theorem dX5_at_5 : decode cX5_at 5 = .ok (.aload_n 0, 1) := by decide +kernel
theorem dX5_at_6 : decode cX5_at 6 = .ok (.getfield 13, 3) := by decide +kernel
theorem dX5_at_9 : decode cX5_at 9 = .ok (.arraylength, 1) := by decide +kernel
theorem dX5_at_10 : decode cX5_at 10 = .ok (.if_icmp .ge 12, 3) := by decide +kernel
theorem dX5_at_13 : decode cX5_at 13 = .ok (.aload_n 0, 1) := by decide +kernel
theorem dX5_at_14 : decode cX5_at 14 = .ok (.getfield 13, 3) := by decide +kernel
theorem dX5_at_17 : decode cX5_at 17 = .ok (.iload_n 1, 1) := by decide +kernel
theorem dX5_at_18 : decode cX5_at 18 = .ok (.aaload, 1) := by decide +kernel
theorem dX5_at_19 : decode cX5_at 19 = .ok (.goto 4, 3) := by decide +kernel
theorem dX5_at_22 : decode cX5_at 22 = .ok (.aconst_null, 1) := by decide +kernel
theorem dX5_at_23 : decode cX5_at 23 = .ok (.areturn, 1) := by decide +kernel
theorem dX5_read_0 : decode cX5_read 0 = .ok (.aload_n 0, 1) := by decide +kernel
theorem dX5_read_1 : decode cX5_read 1 = .ok (.iload_n 1, 1) := by decide +kernel
theorem dX5_read_2 : decode cX5_read 2 = .ok (.putfield 21, 3) := by decide +kernel
theorem dX5_read_5 : decode cX5_read 5 = .ok (.aload_n 0, 1) := by decide +kernel
theorem dX5_read_6 : decode cX5_read 6 = .ok (.iconst 0, 1) := by decide +kernel
theorem dX5_read_7 : decode cX5_read 7 = .ok (.putfield 17, 3) := by decide +kernel
theorem dX5_read_10 : decode cX5_read 10 = .ok (.aload_n 0, 1) := by decide +kernel
theorem dX5_read_11 : decode cX5_read 11 = .ok (.getfield 24, 3) := by decide +kernel
theorem dX5_read_14 : decode cX5_read 14 = .ok (.invokevirtual 29, 3) := by decide +kernel
theorem dX5_read_17 : decode cX5_read 17 = .ok (.iconst 0, 1) := by decide +kernel
theorem dX5_read_18 : decode cX5_read 18 = .ok (.istore_n 2, 1) := by decide +kernel
theorem dX5_read_19 : decode cX5_read 19 = .ok (.iload_n 2, 1) := by decide +kernel
theorem dX5_read_20 : decode cX5_read 20 = .ok (.aload_n 0, 1) := by decide +kernel
theorem dX5_read_21 : decode cX5_read 21 = .ok (.getfield 13, 3) := by decide +kernel
theorem dX5_read_24 : decode cX5_read 24 = .ok (.arraylength, 1) := by decide +kernel
theorem dX5_read_25 : decode cX5_read 25 = .ok (.if_icmp .ge 79, 3) := by decide +kernel
theorem dX5_read_28 : decode cX5_read 28 = .ok (.aload_n 0, 1) := by decide +kernel
theorem dX5_read_29 : decode cX5_read 29 = .ok (.aload_n 0, 1) := by decide +kernel
theorem dX5_read_30 : decode cX5_read 30 = .ok (.getfield 13, 3) := by decide +kernel
theorem dX5_read_33 : decode cX5_read 33 = .ok (.iload_n 2, 1) := by decide +kernel
theorem dX5_read_34 : decode cX5_read 34 = .ok (.aaload, 1) := by decide +kernel
theorem dX5_read_35 : decode cX5_read 35 = .ok (.invokevirtual 34, 3) := by decide +kernel
theorem dX5_read_38 : decode cX5_read 38 = .ok (.ifCond .ne 11, 3) := by decide +kernel
theorem dX5_read_41 : decode cX5_read 41 = .ok (.aload_n 0, 1) := by decide +kernel
theorem dX5_read_42 : decode cX5_read 42 = .ok (.getfield 24, 3) := by decide +kernel
theorem dX5_read_45 : decode cX5_read 45 = .ok (.invokevirtual 38, 3) := by decide +kernel
theorem dX5_read_48 : decode cX5_read 48 = .ok (.ireturn, 1) := by decide +kernel
theorem dX5_read_49 : decode cX5_read 49 = .ok (.aload_n 0, 1) := by decide +kernel
theorem dX5_read_50 : decode cX5_read 50 = .ok (.dup, 1) := by decide +kernel
theorem dX5_read_51 : decode cX5_read 51 = .ok (.getfield 17, 3) := by decide +kernel
theorem dX5_read_54 : decode cX5_read 54 = .ok (.iconst 1, 1) := by decide +kernel
theorem dX5_read_55 : decode cX5_read 55 = .ok (.iadd, 1) := by decide +kernel
theorem dX5_read_56 : decode cX5_read 56 = .ok (.putfield 17, 3) := by decide +kernel
theorem dX5_read_59 : decode cX5_read 59 = .ok (.aload_n 0, 1) := by decide +kernel
theorem dX5_read_60 : decode cX5_read 60 = .ok (.getfield 24, 3) := by decide +kernel
theorem dX5_read_63 : decode cX5_read 63 = .ok (.invokevirtual 42, 3) := by decide +kernel
theorem dX5_read_66 : decode cX5_read 66 = .ok (.aload_n 0, 1) := by decide +kernel
theorem dX5_read_67 : decode cX5_read 67 = .ok (.getfield 24, 3) := by decide +kernel
theorem dX5_read_70 : decode cX5_read 70 = .ok (.invokevirtual 45, 3) := by decide +kernel
theorem dX5_read_73 : decode cX5_read 73 = .ok (.ifCond .ne 5, 3) := by decide +kernel
theorem dX5_read_76 : decode cX5_read 76 = .ok (.iconst (-1), 1) := by decide +kernel
theorem dX5_read_77 : decode cX5_read 77 = .ok (.ireturn, 1) := by decide +kernel
theorem dX5_read_78 : decode cX5_read 78 = .ok (.aload_n 0, 1) := by decide +kernel
theorem dX5_read_79 : decode cX5_read 79 = .ok (.getfield 24, 3) := by decide +kernel
theorem dX5_read_82 : decode cX5_read 82 = .ok (.bipush 59, 2) := by decide +kernel
theorem dX5_read_84 : decode cX5_read 84 = .ok (.invokevirtual 48, 3) := by decide +kernel
theorem dX5_read_87 : decode cX5_read 87 = .ok (.ifCond .ne 11, 3) := by decide +kernel
theorem dX5_read_90 : decode cX5_read 90 = .ok (.aload_n 0, 1) := by decide +kernel
theorem dX5_read_91 : decode cX5_read 91 = .ok (.getfield 24, 3) := by decide +kernel
theorem dX5_read_94 : decode cX5_read 94 = .ok (.invokevirtual 38, 3) := by decide +kernel
theorem dX5_read_97 : decode cX5_read 97 = .ok (.ireturn, 1) := by decide +kernel
theorem dX5_read_98 : decode cX5_read 98 = .ok (.iinc 2 1, 3) := by decide +kernel
theorem dX5_read_101 : decode cX5_read 101 = .ok (.goto (-82), 3) := by decide +kernel
theorem dX5_read_104 : decode cX5_read 104 = .ok (.aload_n 0, 1) := by decide +kernel
theorem dX5_read_105 : decode cX5_read 105 = .ok (.getfield 24, 3) := by decide +kernel
theorem dX5_read_108 : decode cX5_read 108 = .ok (.invokevirtual 38, 3) := by decide +kernel
theorem dX5_read_111 : decode cX5_read 111 = .ok (.ireturn, 1) := by decide +kernel
theorem dX5_readLine_0 : decode cX5_readLine 0 = .ok (.aload_n 0, 1) := by decide +kernel
theorem dX5_readLine_1 : decode cX5_readLine 1 = .ok (.getfield 24, 3) := by decide +kernel
theorem dX5_readLine_4 : decode cX5_readLine 4 = .ok (.invokevirtual 42, 3) := by decide +kernel
theorem dX5_readLine_7 : decode cX5_readLine 7 = .ok (.aload_n 0, 1) := by decide +kernel
theorem dX5_readLine_8 : decode cX5_readLine 8 = .ok (.getfield 24, 3) := by decide +kernel
theorem dX5_readLine_11 : decode cX5_readLine 11 = .ok (.ldc 52, 2) := by decide +kernel
theorem dX5_readLine_13 : decode cX5_readLine 13 = .ok (.invokevirtual 54, 3) := by decide +kernel
theorem dX5_readLine_16 : decode cX5_readLine 16 = .ok (.ifCond .eq 10, 3) := by decide +kernel
theorem dX5_readLine_19 : decode cX5_readLine 19 = .ok (.aload_n 0, 1) := by decide +kernel
theorem dX5_readLine_20 : decode cX5_readLine 20 = .ok (.aload_n 1, 1) := by decide +kernel
theorem dX5_readLine_21 : decode cX5_readLine 21 = .ok (.iconst 0, 1) := by decide +kernel
theorem dX5_readLine_22 : decode cX5_readLine 22 = .ok (.invokevirtual 58, 3) := by decide +kernel
theorem dX5_readLine_25 : decode cX5_readLine 25 = .ok (.ireturn, 1) := by decide +kernel
theorem dX5_readLine_26 : decode cX5_readLine 26 = .ok (.aload_n 0, 1) := by decide +kernel
theorem dX5_readLine_27 : decode cX5_readLine 27 = .ok (.getfield 24, 3) := by decide +kernel
theorem dX5_readLine_30 : decode cX5_readLine 30 = .ok (.ldc 62, 2) := by decide +kernel
theorem dX5_readLine_32 : decode cX5_readLine 32 = .ok (.invokevirtual 54, 3) := by decide +kernel
theorem dX5_readLine_35 : decode cX5_readLine 35 = .ok (.ifCond .eq 10, 3) := by decide +kernel
theorem dX5_readLine_38 : decode cX5_readLine 38 = .ok (.aload_n 0, 1) := by decide +kernel
theorem dX5_readLine_39 : decode cX5_readLine 39 = .ok (.aload_n 1, 1) := by decide +kernel
theorem dX5_readLine_40 : decode cX5_readLine 40 = .ok (.iconst 1, 1) := by decide +kernel
theorem dX5_readLine_41 : decode cX5_readLine 41 = .ok (.invokevirtual 58, 3) := by decide +kernel
theorem dX5_readLine_44 : decode cX5_readLine 44 = .ok (.ireturn, 1) := by decide +kernel
theorem dX5_readLine_45 : decode cX5_readLine 45 = .ok (.aload_n 0, 1) := by decide +kernel
theorem dX5_readLine_46 : decode cX5_readLine 46 = .ok (.getfield 24, 3) := by decide +kernel
theorem dX5_readLine_49 : decode cX5_readLine 49 = .ok (.ldc 64, 2) := by decide +kernel
theorem dX5_readLine_51 : decode cX5_readLine 51 = .ok (.invokevirtual 54, 3) := by decide +kernel
theorem dX5_readLine_54 : decode cX5_readLine 54 = .ok (.ifCond .eq 9, 3) := by decide +kernel
theorem dX5_readLine_57 : decode cX5_readLine 57 = .ok (.aload_n 0, 1) := by decide +kernel
theorem dX5_readLine_58 : decode cX5_readLine 58 = .ok (.aload_n 1, 1) := by decide +kernel
theorem dX5_readLine_59 : decode cX5_readLine 59 = .ok (.invokevirtual 66, 3) := by decide +kernel
theorem dX5_readLine_62 : decode cX5_readLine 62 = .ok (.ireturn, 1) := by decide +kernel
theorem dX5_readLine_63 : decode cX5_readLine 63 = .ok (.aload_n 0, 1) := by decide +kernel
theorem dX5_readLine_64 : decode cX5_readLine 64 = .ok (.getfield 24, 3) := by decide +kernel
theorem dX5_readLine_67 : decode cX5_readLine 67 = .ok (.ldc 69, 2) := by decide +kernel
theorem dX5_readLine_69 : decode cX5_readLine 69 = .ok (.invokevirtual 54, 3) := by decide +kernel
theorem dX5_readLine_72 : decode cX5_readLine 72 = .ok (.ifCond .eq 15, 3) := by decide +kernel
theorem dX5_readLine_75 : decode cX5_readLine 75 = .ok (.aload_n 0, 1) := by decide +kernel
theorem dX5_readLine_76 : decode cX5_readLine 76 = .ok (.aload_n 1, 1) := by decide +kernel
theorem dX5_readLine_77 : decode cX5_readLine 77 = .ok (.invokevirtual 71, 3) := by decide +kernel
theorem dX5_readLine_80 : decode cX5_readLine 80 = .ok (.ifCond .eq 7, 3) := by decide +kernel
theorem dX5_readLine_83 : decode cX5_readLine 83 = .ok (.iconst 1, 1) := by decide +kernel
theorem dX5_readLine_84 : decode cX5_readLine 84 = .ok (.goto 4, 3) := by decide +kernel
theorem dX5_readLine_87 : decode cX5_readLine 87 = .ok (.iconst 0, 1) := by decide +kernel
theorem dX5_readLine_88 : decode cX5_readLine 88 = .ok (.ireturn, 1) := by decide +kernel
theorem dX5_readPair_0 : decode cX5_readPair 0 = .ok (.aload_n 0, 1) := by decide +kernel
theorem dX5_readPair_1 : decode cX5_readPair 1 = .ok (.getfield 24, 3) := by decide +kernel
theorem dX5_readPair_4 : decode cX5_readPair 4 = .ok (.invokevirtual 42, 3) := by decide +kernel
theorem dX5_readPair_7 : decode cX5_readPair 7 = .ok (.aload_n 0, 1) := by decide +kernel
theorem dX5_readPair_8 : decode cX5_readPair 8 = .ok (.getfield 24, 3) := by decide +kernel
theorem dX5_readPair_11 : decode cX5_readPair 11 = .ok (.invokevirtual 45, 3) := by decide +kernel
theorem dX5_readPair_14 : decode cX5_readPair 14 = .ok (.iconst 2, 1) := by decide +kernel
theorem dX5_readPair_15 : decode cX5_readPair 15 = .ok (.if_icmp .ne 10, 3) := by decide +kernel
theorem dX5_readPair_18 : decode cX5_readPair 18 = .ok (.aload_n 0, 1) := by decide +kernel
theorem dX5_readPair_19 : decode cX5_readPair 19 = .ok (.invokevirtual 74, 3) := by decide +kernel
theorem dX5_readPair_22 : decode cX5_readPair 22 = .ok (.ifCond .ne 5, 3) := by decide +kernel
theorem dX5_readPair_25 : decode cX5_readPair 25 = .ok (.iconst 0, 1) := by decide +kernel
theorem dX5_readPair_26 : decode cX5_readPair 26 = .ok (.ireturn, 1) := by decide +kernel
theorem dX5_readPair_27 : decode cX5_readPair 27 = .ok (.aload_n 1, 1) := by decide +kernel
theorem dX5_readPair_28 : decode cX5_readPair 28 = .ok (.iload_n 2, 1) := by decide +kernel
theorem dX5_readPair_29 : decode cX5_readPair 29 = .ok (.putfield 78, 3) := by decide +kernel
theorem dX5_readPair_32 : decode cX5_readPair 32 = .ok (.aload_n 1, 1) := by decide +kernel
theorem dX5_readPair_33 : decode cX5_readPair 33 = .ok (.aload_n 0, 1) := by decide +kernel
theorem dX5_readPair_34 : decode cX5_readPair 34 = .ok (.getfield 24, 3) := by decide +kernel
theorem dX5_readPair_37 : decode cX5_readPair 37 = .ok (.aload_n 0, 1) := by decide +kernel
theorem dX5_readPair_38 : decode cX5_readPair 38 = .ok (.getfield 24, 3) := by decide +kernel
theorem dX5_readPair_41 : decode cX5_readPair 41 = .ok (.invokevirtual 38, 3) := by decide +kernel
theorem dX5_readPair_44 : decode cX5_readPair 44 = .ok (.invokevirtual 81, 3) := by decide +kernel
theorem dX5_readPair_47 : decode cX5_readPair 47 = .ok (.putfield 85, 3) := by decide +kernel
theorem dX5_readPair_50 : decode cX5_readPair 50 = .ok (.aload_n 1, 1) := by decide +kernel
theorem dX5_readPair_51 : decode cX5_readPair 51 = .ok (.aload_n 0, 1) := by decide +kernel
theorem dX5_readPair_52 : decode cX5_readPair 52 = .ok (.getfield 24, 3) := by decide +kernel
theorem dX5_readPair_55 : decode cX5_readPair 55 = .ok (.aload_n 0, 1) := by decide +kernel
theorem dX5_readPair_56 : decode cX5_readPair 56 = .ok (.getfield 24, 3) := by decide +kernel
theorem dX5_readPair_59 : decode cX5_readPair 59 = .ok (.invokevirtual 38, 3) := by decide +kernel
theorem dX5_readPair_62 : decode cX5_readPair 62 = .ok (.iconst 1, 1) := by decide +kernel
theorem dX5_readPair_63 : decode cX5_readPair 63 = .ok (.iadd, 1) := by decide +kernel
theorem dX5_readPair_64 : decode cX5_readPair 64 = .ok (.invokevirtual 81, 3) := by decide +kernel
theorem dX5_readPair_67 : decode cX5_readPair 67 = .ok (.putfield 88, 3) := by decide +kernel
theorem dX5_readPair_70 : decode cX5_readPair 70 = .ok (.aload_n 1, 1) := by decide +kernel
theorem dX5_readPair_71 : decode cX5_readPair 71 = .ok (.getfield 85, 3) := by decide +kernel
theorem dX5_readPair_74 : decode cX5_readPair 74 = .ok (.aload_n 1, 1) := by decide +kernel
theorem dX5_readPair_75 : decode cX5_readPair 75 = .ok (.getfield 88, 3) := by decide +kernel
theorem dX5_readPair_78 : decode cX5_readPair 78 = .ok (.if_icmp .eq 7, 3) := by decide +kernel
theorem dX5_readPair_81 : decode cX5_readPair 81 = .ok (.iconst 1, 1) := by decide +kernel
theorem dX5_readPair_82 : decode cX5_readPair 82 = .ok (.goto 4, 3) := by decide +kernel
theorem dX5_readPair_85 : decode cX5_readPair 85 = .ok (.iconst 0, 1) := by decide +kernel
theorem dX5_readPair_86 : decode cX5_readPair 86 = .ok (.ireturn, 1) := by decide +kernel
theorem dX5_readLetters_0 : decode cX5_readLetters 0 = .ok (.aload_n 0, 1) := by decide +kernel
theorem dX5_readLetters_1 : decode cX5_readLetters 1 = .ok (.getfield 24, 3) := by decide +kernel
theorem dX5_readLetters_4 : decode cX5_readLetters 4 = .ok (.invokevirtual 42, 3) := by decide +kernel
theorem dX5_readLetters_7 : decode cX5_readLetters 7 = .ok (.aload_n 0, 1) := by decide +kernel
theorem dX5_readLetters_8 : decode cX5_readLetters 8 = .ok (.getfield 24, 3) := by decide +kernel
theorem dX5_readLetters_11 : decode cX5_readLetters 11 = .ok (.invokevirtual 91, 3) := by decide +kernel
theorem dX5_readLetters_14 : decode cX5_readLetters 14 = .ok (.istore_n 2, 1) := by decide +kernel
theorem dX5_readLetters_15 : decode cX5_readLetters 15 = .ok (.iload_n 2, 1) := by decide +kernel
theorem dX5_readLetters_16 : decode cX5_readLetters 16 = .ok (.iconst 1, 1) := by decide +kernel
theorem dX5_readLetters_17 : decode cX5_readLetters 17 = .ok (.if_icmp .lt 9, 3) := by decide +kernel
theorem dX5_readLetters_20 : decode cX5_readLetters 20 = .ok (.iload_n 2, 1) := by decide +kernel
theorem dX5_readLetters_21 : decode cX5_readLetters 21 = .ok (.bipush 6, 2) := by decide +kernel
theorem dX5_readLetters_23 : decode cX5_readLetters 23 = .ok (.if_icmp .le 5, 3) := by decide +kernel
theorem dX5_readLetters_26 : decode cX5_readLetters 26 = .ok (.iconst 0, 1) := by decide +kernel
theorem dX5_readLetters_27 : decode cX5_readLetters 27 = .ok (.ireturn, 1) := by decide +kernel
theorem dX5_readLetters_28 : decode cX5_readLetters 28 = .ok (.aload_n 1, 1) := by decide +kernel
theorem dX5_readLetters_29 : decode cX5_readLetters 29 = .ok (.iconst 2, 1) := by decide +kernel
theorem dX5_readLetters_30 : decode cX5_readLetters 30 = .ok (.putfield 78, 3) := by decide +kernel
theorem dX5_readLetters_33 : decode cX5_readLetters 33 = .ok (.aload_n 1, 1) := by decide +kernel
theorem dX5_readLetters_34 : decode cX5_readLetters 34 = .ok (.iload_n 2, 1) := by decide +kernel
theorem dX5_readLetters_35 : decode cX5_readLetters 35 = .ok (.putfield 85, 3) := by decide +kernel
theorem dX5_readLetters_38 : decode cX5_readLetters 38 = .ok (.aload_n 0, 1) := by decide +kernel
theorem dX5_readLetters_39 : decode cX5_readLetters 39 = .ok (.iload_n 2, 1) := by decide +kernel
theorem dX5_readLetters_40 : decode cX5_readLetters 40 = .ok (.putfield 21, 3) := by decide +kernel
theorem dX5_readLetters_43 : decode cX5_readLetters 43 = .ok (.iconst 1, 1) := by decide +kernel
theorem dX5_readLetters_44 : decode cX5_readLetters 44 = .ok (.ireturn, 1) := by decide +kernel
theorem dX5_readHeap_0 : decode cX5_readHeap 0 = .ok (.aload_n 0, 1) := by decide +kernel
theorem dX5_readHeap_1 : decode cX5_readHeap 1 = .ok (.getfield 24, 3) := by decide +kernel
theorem dX5_readHeap_4 : decode cX5_readHeap 4 = .ok (.invokevirtual 42, 3) := by decide +kernel
theorem dX5_readHeap_7 : decode cX5_readHeap 7 = .ok (.aload_n 0, 1) := by decide +kernel
theorem dX5_readHeap_8 : decode cX5_readHeap 8 = .ok (.getfield 24, 3) := by decide +kernel
theorem dX5_readHeap_11 : decode cX5_readHeap 11 = .ok (.invokevirtual 91, 3) := by decide +kernel
theorem dX5_readHeap_14 : decode cX5_readHeap 14 = .ok (.istore_n 2, 1) := by decide +kernel
theorem dX5_readHeap_15 : decode cX5_readHeap 15 = .ok (.iload_n 2, 1) := by decide +kernel
theorem dX5_readHeap_16 : decode cX5_readHeap 16 = .ok (.ifCond .lt 8, 3) := by decide +kernel
theorem dX5_readHeap_19 : decode cX5_readHeap 19 = .ok (.iload_n 2, 1) := by decide +kernel
theorem dX5_readHeap_20 : decode cX5_readHeap 20 = .ok (.iconst 4, 1) := by decide +kernel
theorem dX5_readHeap_21 : decode cX5_readHeap 21 = .ok (.if_icmp .lt 5, 3) := by decide +kernel
theorem dX5_readHeap_24 : decode cX5_readHeap 24 = .ok (.iconst 0, 1) := by decide +kernel
theorem dX5_readHeap_25 : decode cX5_readHeap 25 = .ok (.ireturn, 1) := by decide +kernel
theorem dX5_readHeap_26 : decode cX5_readHeap 26 = .ok (.aload_n 1, 1) := by decide +kernel
theorem dX5_readHeap_27 : decode cX5_readHeap 27 = .ok (.iconst 3, 1) := by decide +kernel
theorem dX5_readHeap_28 : decode cX5_readHeap 28 = .ok (.putfield 78, 3) := by decide +kernel
theorem dX5_readHeap_31 : decode cX5_readHeap 31 = .ok (.aload_n 1, 1) := by decide +kernel
theorem dX5_readHeap_32 : decode cX5_readHeap 32 = .ok (.iload_n 2, 1) := by decide +kernel
theorem dX5_readHeap_33 : decode cX5_readHeap 33 = .ok (.putfield 85, 3) := by decide +kernel
theorem dX5_readHeap_36 : decode cX5_readHeap 36 = .ok (.aload_n 0, 1) := by decide +kernel
theorem dX5_readHeap_37 : decode cX5_readHeap 37 = .ok (.getfield 24, 3) := by decide +kernel
theorem dX5_readHeap_40 : decode cX5_readHeap 40 = .ok (.invokevirtual 42, 3) := by decide +kernel
theorem dX5_readHeap_43 : decode cX5_readHeap 43 = .ok (.aload_n 0, 1) := by decide +kernel
theorem dX5_readHeap_44 : decode cX5_readHeap 44 = .ok (.getfield 24, 3) := by decide +kernel
theorem dX5_readHeap_47 : decode cX5_readHeap 47 = .ok (.ldc 94, 2) := by decide +kernel
theorem dX5_readHeap_49 : decode cX5_readHeap 49 = .ok (.invokevirtual 54, 3) := by decide +kernel
theorem dX5_readHeap_52 : decode cX5_readHeap 52 = .ok (.ifCond .ne 5, 3) := by decide +kernel
theorem dX5_readHeap_55 : decode cX5_readHeap 55 = .ok (.iconst 0, 1) := by decide +kernel
theorem dX5_readHeap_56 : decode cX5_readHeap 56 = .ok (.ireturn, 1) := by decide +kernel
theorem dX5_readHeap_57 : decode cX5_readHeap 57 = .ok (.aload_n 0, 1) := by decide +kernel
theorem dX5_readHeap_58 : decode cX5_readHeap 58 = .ok (.getfield 24, 3) := by decide +kernel
theorem dX5_readHeap_61 : decode cX5_readHeap 61 = .ok (.invokevirtual 42, 3) := by decide +kernel
theorem dX5_readHeap_64 : decode cX5_readHeap 64 = .ok (.aload_n 0, 1) := by decide +kernel
theorem dX5_readHeap_65 : decode cX5_readHeap 65 = .ok (.getfield 24, 3) := by decide +kernel
theorem dX5_readHeap_68 : decode cX5_readHeap 68 = .ok (.ldc 96, 2) := by decide +kernel
theorem dX5_readHeap_70 : decode cX5_readHeap 70 = .ok (.invokevirtual 54, 3) := by decide +kernel
theorem dX5_readHeap_73 : decode cX5_readHeap 73 = .ok (.istore_n 3, 1) := by decide +kernel
theorem dX5_readHeap_74 : decode cX5_readHeap 74 = .ok (.aload_n 1, 1) := by decide +kernel
theorem dX5_readHeap_75 : decode cX5_readHeap 75 = .ok (.aload_n 0, 1) := by decide +kernel
theorem dX5_readHeap_76 : decode cX5_readHeap 76 = .ok (.getfield 24, 3) := by decide +kernel
theorem dX5_readHeap_79 : decode cX5_readHeap 79 = .ok (.invokevirtual 38, 3) := by decide +kernel
theorem dX5_readHeap_82 : decode cX5_readHeap 82 = .ok (.putfield 98, 3) := by decide +kernel
theorem dX5_readHeap_85 : decode cX5_readHeap 85 = .ok (.aload_n 1, 1) := by decide +kernel
theorem dX5_readHeap_86 : decode cX5_readHeap 86 = .ok (.iload_n 3, 1) := by decide +kernel
theorem dX5_readHeap_87 : decode cX5_readHeap 87 = .ok (.ifCond .eq 13, 3) := by decide +kernel
theorem dX5_readHeap_90 : decode cX5_readHeap 90 = .ok (.aload_n 0, 1) := by decide +kernel
theorem dX5_readHeap_91 : decode cX5_readHeap 91 = .ok (.getfield 24, 3) := by decide +kernel
theorem dX5_readHeap_94 : decode cX5_readHeap 94 = .ok (.invokevirtual 38, 3) := by decide +kernel
theorem dX5_readHeap_97 : decode cX5_readHeap 97 = .ok (.goto 10, 3) := by decide +kernel
theorem dX5_readHeap_100 : decode cX5_readHeap 100 = .ok (.aload_n 0, 1) := by decide +kernel
theorem dX5_readHeap_101 : decode cX5_readHeap 101 = .ok (.getfield 24, 3) := by decide +kernel
theorem dX5_readHeap_104 : decode cX5_readHeap 104 = .ok (.invokevirtual 101, 3) := by decide +kernel
theorem dX5_readHeap_107 : decode cX5_readHeap 107 = .ok (.putfield 104, 3) := by decide +kernel
theorem dX5_readHeap_110 : decode cX5_readHeap 110 = .ok (.iload_n 3, 1) := by decide +kernel
theorem dX5_readHeap_111 : decode cX5_readHeap 111 = .ok (.ifCond .ne 33, 3) := by decide +kernel
theorem dX5_readHeap_114 : decode cX5_readHeap 114 = .ok (.aload_n 0, 1) := by decide +kernel
theorem dX5_readHeap_115 : decode cX5_readHeap 115 = .ok (.getfield 24, 3) := by decide +kernel
theorem dX5_readHeap_118 : decode cX5_readHeap 118 = .ok (.invokevirtual 45, 3) := by decide +kernel
theorem dX5_readHeap_121 : decode cX5_readHeap 121 = .ok (.iconst 1, 1) := by decide +kernel
theorem dX5_readHeap_122 : decode cX5_readHeap 122 = .ok (.if_icmp .lt 26, 3) := by decide +kernel
theorem dX5_readHeap_125 : decode cX5_readHeap 125 = .ok (.aload_n 0, 1) := by decide +kernel
theorem dX5_readHeap_126 : decode cX5_readHeap 126 = .ok (.getfield 24, 3) := by decide +kernel
theorem dX5_readHeap_129 : decode cX5_readHeap 129 = .ok (.invokevirtual 45, 3) := by decide +kernel
theorem dX5_readHeap_132 : decode cX5_readHeap 132 = .ok (.bipush 24, 2) := by decide +kernel
theorem dX5_readHeap_134 : decode cX5_readHeap 134 = .ok (.if_icmp .gt 14, 3) := by decide +kernel
theorem dX5_readHeap_137 : decode cX5_readHeap 137 = .ok (.aload_n 0, 1) := by decide +kernel
theorem dX5_readHeap_138 : decode cX5_readHeap 138 = .ok (.invokevirtual 74, 3) := by decide +kernel
theorem dX5_readHeap_141 : decode cX5_readHeap 141 = .ok (.ifCond .eq 7, 3) := by decide +kernel
theorem dX5_readHeap_144 : decode cX5_readHeap 144 = .ok (.iconst 1, 1) := by decide +kernel
theorem dX5_readHeap_145 : decode cX5_readHeap 145 = .ok (.goto 4, 3) := by decide +kernel
theorem dX5_readHeap_148 : decode cX5_readHeap 148 = .ok (.iconst 0, 1) := by decide +kernel
theorem dX5_readHeap_149 : decode cX5_readHeap 149 = .ok (.ireturn, 1) := by decide +kernel
theorem dX5_isOfLetters_0 : decode cX5_isOfLetters 0 = .ok (.aload_n 0, 1) := by decide +kernel
theorem dX5_isOfLetters_1 : decode cX5_isOfLetters 1 = .ok (.getfield 24, 3) := by decide +kernel
theorem dX5_isOfLetters_4 : decode cX5_isOfLetters 4 = .ok (.invokevirtual 38, 3) := by decide +kernel
theorem dX5_isOfLetters_7 : decode cX5_isOfLetters 7 = .ok (.istore_n 1, 1) := by decide +kernel
theorem dX5_isOfLetters_8 : decode cX5_isOfLetters 8 = .ok (.iload_n 1, 1) := by decide +kernel
theorem dX5_isOfLetters_9 : decode cX5_isOfLetters 9 = .ok (.aload_n 0, 1) := by decide +kernel
theorem dX5_isOfLetters_10 : decode cX5_isOfLetters 10 = .ok (.getfield 24, 3) := by decide +kernel
theorem dX5_isOfLetters_13 : decode cX5_isOfLetters 13 = .ok (.invokevirtual 101, 3) := by decide +kernel
theorem dX5_isOfLetters_16 : decode cX5_isOfLetters 16 = .ok (.if_icmp .ge 32, 3) := by decide +kernel
theorem dX5_isOfLetters_19 : decode cX5_isOfLetters 19 = .ok (.aload_n 0, 1) := by decide +kernel
theorem dX5_isOfLetters_20 : decode cX5_isOfLetters 20 = .ok (.getfield 24, 3) := by decide +kernel
theorem dX5_isOfLetters_23 : decode cX5_isOfLetters 23 = .ok (.iload_n 1, 1) := by decide +kernel
theorem dX5_isOfLetters_24 : decode cX5_isOfLetters 24 = .ok (.invokevirtual 81, 3) := by decide +kernel
theorem dX5_isOfLetters_27 : decode cX5_isOfLetters 27 = .ok (.istore_n 2, 1) := by decide +kernel
theorem dX5_isOfLetters_28 : decode cX5_isOfLetters 28 = .ok (.iload_n 2, 1) := by decide +kernel
theorem dX5_isOfLetters_29 : decode cX5_isOfLetters 29 = .ok (.ifCond .lt 11, 3) := by decide +kernel
theorem dX5_isOfLetters_32 : decode cX5_isOfLetters 32 = .ok (.iload_n 2, 1) := by decide +kernel
theorem dX5_isOfLetters_33 : decode cX5_isOfLetters 33 = .ok (.aload_n 0, 1) := by decide +kernel
theorem dX5_isOfLetters_34 : decode cX5_isOfLetters 34 = .ok (.getfield 21, 3) := by decide +kernel
theorem dX5_isOfLetters_37 : decode cX5_isOfLetters 37 = .ok (.if_icmp .lt 5, 3) := by decide +kernel
theorem dX5_isOfLetters_40 : decode cX5_isOfLetters 40 = .ok (.iconst 0, 1) := by decide +kernel
theorem dX5_isOfLetters_41 : decode cX5_isOfLetters 41 = .ok (.ireturn, 1) := by decide +kernel
theorem dX5_isOfLetters_42 : decode cX5_isOfLetters 42 = .ok (.iinc 1 1, 3) := by decide +kernel
theorem dX5_isOfLetters_45 : decode cX5_isOfLetters 45 = .ok (.goto (-37), 3) := by decide +kernel
theorem dX5_isOfLetters_48 : decode cX5_isOfLetters 48 = .ok (.iconst 1, 1) := by decide +kernel
theorem dX5_isOfLetters_49 : decode cX5_isOfLetters 49 = .ok (.ireturn, 1) := by decide +kernel
theorem dX6_init_0 : decode cX6_init 0 = .ok (.aload_n 0, 1) := by decide +kernel
theorem dX6_init_1 : decode cX6_init 1 = .ok (.invokespecial 3, 3) := by decide +kernel
theorem dX6_init_4 : decode cX6_init 4 = .ok (.aload_n 0, 1) := by decide +kernel
theorem dX6_init_5 : decode cX6_init 5 = .ok (.bipush 21, 2) := by decide +kernel
theorem dX6_init_7 : decode cX6_init 7 = .ok (.bipush 64, 2) := by decide +kernel
theorem dX6_init_9 : decode cX6_init 9 = .ok (.multianewarray 9 2, 4) := by decide +kernel
theorem dX6_init_13 : decode cX6_init 13 = .ok (.putfield 11, 3) := by decide +kernel
theorem dX6_init_16 : decode cX6_init 16 = .ok (.aload_n 0, 1) := by decide +kernel
theorem dX6_init_17 : decode cX6_init 17 = .ok (.bipush 61, 2) := by decide +kernel
theorem dX6_init_19 : decode cX6_init 19 = .ok (.newarray .long, 2) := by decide +kernel
theorem dX6_init_21 : decode cX6_init 21 = .ok (.putfield 16, 3) := by decide +kernel
theorem dX6_init_24 : decode cX6_init 24 = .ok (.aload_n 0, 1) := by decide +kernel
theorem dX6_init_25 : decode cX6_init 25 = .ok (.bipush 7, 2) := by decide +kernel
theorem dX6_init_27 : decode cX6_init 27 = .ok (.newarray .int, 2) := by decide +kernel
theorem dX6_init_29 : decode cX6_init 29 = .ok (.putfield 20, 3) := by decide +kernel
theorem dX6_init_32 : decode cX6_init 32 = .ok (.aload_n 0, 1) := by decide +kernel
theorem dX6_init_33 : decode cX6_init 33 = .ok (.iconst 0, 1) := by decide +kernel
theorem dX6_init_34 : decode cX6_init 34 = .ok (.putfield 24, 3) := by decide +kernel
theorem dX6_init_37 : decode cX6_init 37 = .ok (.aload_n 0, 1) := by decide +kernel
theorem dX6_init_38 : decode cX6_init 38 = .ok (.lconst 0, 1) := by decide +kernel
theorem dX6_init_39 : decode cX6_init 39 = .ok (.putfield 28, 3) := by decide +kernel
theorem dX6_init_42 : decode cX6_init 42 = .ok (.aload_n 0, 1) := by decide +kernel
theorem dX6_init_43 : decode cX6_init 43 = .ok (.aload_n 1, 1) := by decide +kernel
theorem dX6_init_44 : decode cX6_init 44 = .ok (.putfield 32, 3) := by decide +kernel
theorem dX6_init_47 : decode cX6_init 47 = .ok (.return_, 1) := by decide +kernel
theorem dX6_barredBehind_0 : decode cX6_barredBehind 0 = .ok (.aload_n 0, 1) := by decide +kernel
theorem dX6_barredBehind_1 : decode cX6_barredBehind 1 = .ok (.getfield 32, 3) := by decide +kernel
theorem dX6_barredBehind_4 : decode cX6_barredBehind 4 = .ok (.iload_n 2, 1) := by decide +kernel
theorem dX6_barredBehind_5 : decode cX6_barredBehind 5 = .ok (.invokevirtual 36, 3) := by decide +kernel
theorem dX6_barredBehind_8 : decode cX6_barredBehind 8 = .ok (.iload_n 1, 1) := by decide +kernel
theorem dX6_barredBehind_9 : decode cX6_barredBehind 9 = .ok (.iconst 1, 1) := by decide +kernel
theorem dX6_barredBehind_10 : decode cX6_barredBehind 10 = .ok (.iload_n 2, 1) := by decide +kernel
theorem dX6_barredBehind_11 : decode cX6_barredBehind 11 = .ok (.ishl, 1) := by decide +kernel
theorem dX6_barredBehind_12 : decode cX6_barredBehind 12 = .ok (.iconst 1, 1) := by decide +kernel
theorem dX6_barredBehind_13 : decode cX6_barredBehind 13 = .ok (.isub, 1) := by decide +kernel
theorem dX6_barredBehind_14 : decode cX6_barredBehind 14 = .ok (.ior, 1) := by decide +kernel
theorem dX6_barredBehind_15 : decode cX6_barredBehind 15 = .ok (.iand, 1) := by decide +kernel
theorem dX6_barredBehind_16 : decode cX6_barredBehind 16 = .ok (.ireturn, 1) := by decide +kernel
theorem dX6_heapsOfLength_0 : decode cX6_heapsOfLength 0 = .ok (.iconst 0, 1) := by decide +kernel
theorem dX6_heapsOfLength_1 : decode cX6_heapsOfLength 1 = .ok (.istore_n 2, 1) := by decide +kernel
theorem dX6_heapsOfLength_2 : decode cX6_heapsOfLength 2 = .ok (.iload_n 2, 1) := by decide +kernel
theorem dX6_heapsOfLength_3 : decode cX6_heapsOfLength 3 = .ok (.aload_n 0, 1) := by decide +kernel
theorem dX6_heapsOfLength_4 : decode cX6_heapsOfLength 4 = .ok (.getfield 20, 3) := by decide +kernel
theorem dX6_heapsOfLength_7 : decode cX6_heapsOfLength 7 = .ok (.arraylength, 1) := by decide +kernel
theorem dX6_heapsOfLength_8 : decode cX6_heapsOfLength 8 = .ok (.if_icmp .ge 23, 3) := by decide +kernel
theorem dX6_heapsOfLength_11 : decode cX6_heapsOfLength 11 = .ok (.aload_n 0, 1) := by decide +kernel
theorem dX6_heapsOfLength_12 : decode cX6_heapsOfLength 12 = .ok (.getfield 20, 3) := by decide +kernel
theorem dX6_heapsOfLength_15 : decode cX6_heapsOfLength 15 = .ok (.iload_n 2, 1) := by decide +kernel
theorem dX6_heapsOfLength_16 : decode cX6_heapsOfLength 16 = .ok (.aload_n 0, 1) := by decide +kernel
theorem dX6_heapsOfLength_17 : decode cX6_heapsOfLength 17 = .ok (.getfield 32, 3) := by decide +kernel
theorem dX6_heapsOfLength_20 : decode cX6_heapsOfLength 20 = .ok (.iload_n 2, 1) := by decide +kernel
theorem dX6_heapsOfLength_21 : decode cX6_heapsOfLength 21 = .ok (.invokevirtual 42, 3) := by decide +kernel
theorem dX6_heapsOfLength_24 : decode cX6_heapsOfLength 24 = .ok (.iastore, 1) := by decide +kernel
theorem dX6_heapsOfLength_25 : decode cX6_heapsOfLength 25 = .ok (.iinc 2 1, 3) := by decide +kernel
theorem dX6_heapsOfLength_28 : decode cX6_heapsOfLength 28 = .ok (.goto (-26), 3) := by decide +kernel
theorem dX6_heapsOfLength_31 : decode cX6_heapsOfLength 31 = .ok (.aload_n 0, 1) := by decide +kernel
theorem dX6_heapsOfLength_32 : decode cX6_heapsOfLength 32 = .ok (.getfield 16, 3) := by decide +kernel
theorem dX6_heapsOfLength_35 : decode cX6_heapsOfLength 35 = .ok (.iconst 0, 1) := by decide +kernel
theorem dX6_heapsOfLength_36 : decode cX6_heapsOfLength 36 = .ok (.lconst 1, 1) := by decide +kernel
theorem dX6_heapsOfLength_37 : decode cX6_heapsOfLength 37 = .ok (.lastore, 1) := by decide +kernel
theorem dX6_heapsOfLength_38 : decode cX6_heapsOfLength 38 = .ok (.iconst 1, 1) := by decide +kernel
theorem dX6_heapsOfLength_39 : decode cX6_heapsOfLength 39 = .ok (.istore_n 2, 1) := by decide +kernel
theorem dX6_heapsOfLength_40 : decode cX6_heapsOfLength 40 = .ok (.iload_n 2, 1) := by decide +kernel
theorem dX6_heapsOfLength_41 : decode cX6_heapsOfLength 41 = .ok (.iload_n 1, 1) := by decide +kernel
theorem dX6_heapsOfLength_42 : decode cX6_heapsOfLength 42 = .ok (.if_icmp .gt 29, 3) := by decide +kernel
theorem dX6_heapsOfLength_45 : decode cX6_heapsOfLength 45 = .ok (.iload_n 2, 1) := by decide +kernel
theorem dX6_heapsOfLength_46 : decode cX6_heapsOfLength 46 = .ok (.aload_n 0, 1) := by decide +kernel
theorem dX6_heapsOfLength_47 : decode cX6_heapsOfLength 47 = .ok (.getfield 16, 3) := by decide +kernel
theorem dX6_heapsOfLength_50 : decode cX6_heapsOfLength 50 = .ok (.arraylength, 1) := by decide +kernel
theorem dX6_heapsOfLength_51 : decode cX6_heapsOfLength 51 = .ok (.if_icmp .ge 20, 3) := by decide +kernel
theorem dX6_heapsOfLength_54 : decode cX6_heapsOfLength 54 = .ok (.aload_n 0, 1) := by decide +kernel
theorem dX6_heapsOfLength_55 : decode cX6_heapsOfLength 55 = .ok (.getfield 16, 3) := by decide +kernel
theorem dX6_heapsOfLength_58 : decode cX6_heapsOfLength 58 = .ok (.iload_n 2, 1) := by decide +kernel
theorem dX6_heapsOfLength_59 : decode cX6_heapsOfLength 59 = .ok (.aload_n 0, 1) := by decide +kernel
theorem dX6_heapsOfLength_60 : decode cX6_heapsOfLength 60 = .ok (.iload_n 2, 1) := by decide +kernel
theorem dX6_heapsOfLength_61 : decode cX6_heapsOfLength 61 = .ok (.invokevirtual 45, 3) := by decide +kernel
theorem dX6_heapsOfLength_64 : decode cX6_heapsOfLength 64 = .ok (.lastore, 1) := by decide +kernel
theorem dX6_heapsOfLength_65 : decode cX6_heapsOfLength 65 = .ok (.iinc 2 1, 3) := by decide +kernel
theorem dX6_heapsOfLength_68 : decode cX6_heapsOfLength 68 = .ok (.goto (-28), 3) := by decide +kernel
theorem dX6_heapsOfLength_71 : decode cX6_heapsOfLength 71 = .ok (.iload_n 1, 1) := by decide +kernel
theorem dX6_heapsOfLength_72 : decode cX6_heapsOfLength 72 = .ok (.ifCond .lt 22, 3) := by decide +kernel
theorem dX6_heapsOfLength_75 : decode cX6_heapsOfLength 75 = .ok (.iload_n 1, 1) := by decide +kernel
theorem dX6_heapsOfLength_76 : decode cX6_heapsOfLength 76 = .ok (.aload_n 0, 1) := by decide +kernel
theorem dX6_heapsOfLength_77 : decode cX6_heapsOfLength 77 = .ok (.getfield 16, 3) := by decide +kernel
theorem dX6_heapsOfLength_80 : decode cX6_heapsOfLength 80 = .ok (.arraylength, 1) := by decide +kernel
theorem dX6_heapsOfLength_81 : decode cX6_heapsOfLength 81 = .ok (.if_icmp .ge 13, 3) := by decide +kernel
theorem dX6_heapsOfLength_84 : decode cX6_heapsOfLength 84 = .ok (.aload_n 0, 1) := by decide +kernel
theorem dX6_heapsOfLength_85 : decode cX6_heapsOfLength 85 = .ok (.getfield 16, 3) := by decide +kernel
theorem dX6_heapsOfLength_88 : decode cX6_heapsOfLength 88 = .ok (.iload_n 1, 1) := by decide +kernel
theorem dX6_heapsOfLength_89 : decode cX6_heapsOfLength 89 = .ok (.laload, 1) := by decide +kernel
theorem dX6_heapsOfLength_90 : decode cX6_heapsOfLength 90 = .ok (.l2i, 1) := by decide +kernel
theorem dX6_heapsOfLength_91 : decode cX6_heapsOfLength 91 = .ok (.goto 4, 3) := by decide +kernel
theorem dX6_heapsOfLength_94 : decode cX6_heapsOfLength 94 = .ok (.iconst 0, 1) := by decide +kernel
theorem dX6_heapsOfLength_95 : decode cX6_heapsOfLength 95 = .ok (.ireturn, 1) := by decide +kernel
theorem dX6_sumOverSets_0 : decode cX6_sumOverSets 0 = .ok (.lconst 0, 1) := by decide +kernel
theorem dX6_sumOverSets_1 : decode cX6_sumOverSets 1 = .ok (.lstore_n 2, 1) := by decide +kernel
theorem dX6_sumOverSets_2 : decode cX6_sumOverSets 2 = .ok (.iconst 1, 1) := by decide +kernel
theorem dX6_sumOverSets_3 : decode cX6_sumOverSets 3 = .ok (.istore 4, 2) := by decide +kernel
theorem dX6_sumOverSets_5 : decode cX6_sumOverSets 5 = .ok (.iload 4, 2) := by decide +kernel
theorem dX6_sumOverSets_7 : decode cX6_sumOverSets 7 = .ok (.iload_n 1, 1) := by decide +kernel
theorem dX6_sumOverSets_8 : decode cX6_sumOverSets 8 = .ok (.if_icmp .gt 80, 3) := by decide +kernel
theorem dX6_sumOverSets_11 : decode cX6_sumOverSets 11 = .ok (.iload 4, 2) := by decide +kernel
theorem dX6_sumOverSets_13 : decode cX6_sumOverSets 13 = .ok (.aload_n 0, 1) := by decide +kernel
theorem dX6_sumOverSets_14 : decode cX6_sumOverSets 14 = .ok (.getfield 20, 3) := by decide +kernel
theorem dX6_sumOverSets_17 : decode cX6_sumOverSets 17 = .ok (.arraylength, 1) := by decide +kernel
theorem dX6_sumOverSets_18 : decode cX6_sumOverSets 18 = .ok (.if_icmp .ge 70, 3) := by decide +kernel
theorem dX6_sumOverSets_21 : decode cX6_sumOverSets 21 = .ok (.iload_n 1, 1) := by decide +kernel
theorem dX6_sumOverSets_22 : decode cX6_sumOverSets 22 = .ok (.iload 4, 2) := by decide +kernel
theorem dX6_sumOverSets_24 : decode cX6_sumOverSets 24 = .ok (.isub, 1) := by decide +kernel
theorem dX6_sumOverSets_25 : decode cX6_sumOverSets 25 = .ok (.istore 5, 2) := by decide +kernel
theorem dX6_sumOverSets_27 : decode cX6_sumOverSets 27 = .ok (.iload 5, 2) := by decide +kernel
theorem dX6_sumOverSets_29 : decode cX6_sumOverSets 29 = .ok (.aload_n 0, 1) := by decide +kernel
theorem dX6_sumOverSets_30 : decode cX6_sumOverSets 30 = .ok (.getfield 16, 3) := by decide +kernel
theorem dX6_sumOverSets_33 : decode cX6_sumOverSets 33 = .ok (.arraylength, 1) := by decide +kernel
theorem dX6_sumOverSets_34 : decode cX6_sumOverSets 34 = .ok (.if_icmp .ge 26, 3) := by decide +kernel
theorem dX6_sumOverSets_37 : decode cX6_sumOverSets 37 = .ok (.aload_n 0, 1) := by decide +kernel
theorem dX6_sumOverSets_38 : decode cX6_sumOverSets 38 = .ok (.getfield 20, 3) := by decide +kernel
theorem dX6_sumOverSets_41 : decode cX6_sumOverSets 41 = .ok (.iload 4, 2) := by decide +kernel
theorem dX6_sumOverSets_43 : decode cX6_sumOverSets 43 = .ok (.iaload, 1) := by decide +kernel
theorem dX6_sumOverSets_44 : decode cX6_sumOverSets 44 = .ok (.i2l, 1) := by decide +kernel
theorem dX6_sumOverSets_45 : decode cX6_sumOverSets 45 = .ok (.aload_n 0, 1) := by decide +kernel
theorem dX6_sumOverSets_46 : decode cX6_sumOverSets 46 = .ok (.getfield 16, 3) := by decide +kernel
theorem dX6_sumOverSets_49 : decode cX6_sumOverSets 49 = .ok (.iload 5, 2) := by decide +kernel
theorem dX6_sumOverSets_51 : decode cX6_sumOverSets 51 = .ok (.laload, 1) := by decide +kernel
theorem dX6_sumOverSets_52 : decode cX6_sumOverSets 52 = .ok (.lmul, 1) := by decide +kernel
theorem dX6_sumOverSets_53 : decode cX6_sumOverSets 53 = .ok (.ldc2_w 49, 3) := by decide +kernel
theorem dX6_sumOverSets_56 : decode cX6_sumOverSets 56 = .ok (.lrem, 1) := by decide +kernel
theorem dX6_sumOverSets_57 : decode cX6_sumOverSets 57 = .ok (.goto 4, 3) := by decide +kernel
theorem dX6_sumOverSets_60 : decode cX6_sumOverSets 60 = .ok (.lconst 0, 1) := by decide +kernel
theorem dX6_sumOverSets_61 : decode cX6_sumOverSets 61 = .ok (.lstore 6, 2) := by decide +kernel
theorem dX6_sumOverSets_63 : decode cX6_sumOverSets 63 = .ok (.lload_n 2, 1) := by decide +kernel
theorem dX6_sumOverSets_64 : decode cX6_sumOverSets 64 = .ok (.iload 4, 2) := by decide +kernel
theorem dX6_sumOverSets_66 : decode cX6_sumOverSets 66 = .ok (.iconst 2, 1) := by decide +kernel
theorem dX6_sumOverSets_67 : decode cX6_sumOverSets 67 = .ok (.irem, 1) := by decide +kernel
theorem dX6_sumOverSets_68 : decode cX6_sumOverSets 68 = .ok (.iconst 1, 1) := by decide +kernel
theorem dX6_sumOverSets_69 : decode cX6_sumOverSets 69 = .ok (.if_icmp .ne 8, 3) := by decide +kernel
theorem dX6_sumOverSets_72 : decode cX6_sumOverSets 72 = .ok (.lload 6, 2) := by decide +kernel
theorem dX6_sumOverSets_74 : decode cX6_sumOverSets 74 = .ok (.goto 6, 3) := by decide +kernel
theorem dX6_sumOverSets_77 : decode cX6_sumOverSets 77 = .ok (.lload 6, 2) := by decide +kernel
theorem dX6_sumOverSets_79 : decode cX6_sumOverSets 79 = .ok (.lneg, 1) := by decide +kernel
theorem dX6_sumOverSets_80 : decode cX6_sumOverSets 80 = .ok (.ladd, 1) := by decide +kernel
theorem dX6_sumOverSets_81 : decode cX6_sumOverSets 81 = .ok (.lstore_n 2, 1) := by decide +kernel
theorem dX6_sumOverSets_82 : decode cX6_sumOverSets 82 = .ok (.iinc 4 1, 3) := by decide +kernel
theorem dX6_sumOverSets_85 : decode cX6_sumOverSets 85 = .ok (.goto (-80), 3) := by decide +kernel
theorem dX6_sumOverSets_88 : decode cX6_sumOverSets 88 = .ok (.lload_n 2, 1) := by decide +kernel
theorem dX6_sumOverSets_89 : decode cX6_sumOverSets 89 = .ok (.ldc2_w 49, 3) := by decide +kernel
theorem dX6_sumOverSets_92 : decode cX6_sumOverSets 92 = .ok (.invokestatic 51, 3) := by decide +kernel
theorem dX6_sumOverSets_95 : decode cX6_sumOverSets 95 = .ok (.lreturn, 1) := by decide +kernel
theorem dX6_letterOf_0 : decode cX6_letterOf 0 = .ok (.aload_n 0, 1) := by decide +kernel
theorem dX6_letterOf_1 : decode cX6_letterOf 1 = .ok (.iload_n 1, 1) := by decide +kernel
theorem dX6_letterOf_2 : decode cX6_letterOf 2 = .ok (.invokevirtual 57, 3) := by decide +kernel
theorem dX6_letterOf_5 : decode cX6_letterOf 5 = .ok (.iload_n 3, 1) := by decide +kernel
theorem dX6_letterOf_6 : decode cX6_letterOf 6 = .ok (.iload_n 1, 1) := by decide +kernel
theorem dX6_letterOf_7 : decode cX6_letterOf 7 = .ok (.if_icmp .ge 15, 3) := by decide +kernel
theorem dX6_letterOf_10 : decode cX6_letterOf 10 = .ok (.iload_n 2, 1) := by decide +kernel
theorem dX6_letterOf_11 : decode cX6_letterOf 11 = .ok (.i2l, 1) := by decide +kernel
theorem dX6_letterOf_12 : decode cX6_letterOf 12 = .ok (.aload_n 0, 1) := by decide +kernel
theorem dX6_letterOf_13 : decode cX6_letterOf 13 = .ok (.iload_n 1, 1) := by decide +kernel
theorem dX6_letterOf_14 : decode cX6_letterOf 14 = .ok (.iconst 0, 1) := by decide +kernel
theorem dX6_letterOf_15 : decode cX6_letterOf 15 = .ok (.invokevirtual 61, 3) := by decide +kernel
theorem dX6_letterOf_18 : decode cX6_letterOf 18 = .ok (.lcmp, 1) := by decide +kernel
theorem dX6_letterOf_19 : decode cX6_letterOf 19 = .ok (.ifCond .lt 5, 3) := by decide +kernel
theorem dX6_letterOf_22 : decode cX6_letterOf 22 = .ok (.iconst (-1), 1) := by decide +kernel
theorem dX6_letterOf_23 : decode cX6_letterOf 23 = .ok (.ireturn, 1) := by decide +kernel
theorem dX6_letterOf_24 : decode cX6_letterOf 24 = .ok (.aload_n 0, 1) := by decide +kernel
theorem dX6_letterOf_25 : decode cX6_letterOf 25 = .ok (.iconst 0, 1) := by decide +kernel
theorem dX6_letterOf_26 : decode cX6_letterOf 26 = .ok (.putfield 24, 3) := by decide +kernel
theorem dX6_letterOf_29 : decode cX6_letterOf 29 = .ok (.aload_n 0, 1) := by decide +kernel
theorem dX6_letterOf_30 : decode cX6_letterOf 30 = .ok (.iload_n 2, 1) := by decide +kernel
theorem dX6_letterOf_31 : decode cX6_letterOf 31 = .ok (.i2l, 1) := by decide +kernel
theorem dX6_letterOf_32 : decode cX6_letterOf 32 = .ok (.putfield 28, 3) := by decide +kernel
theorem dX6_letterOf_35 : decode cX6_letterOf 35 = .ok (.iconst (-1), 1) := by decide +kernel
theorem dX6_letterOf_36 : decode cX6_letterOf 36 = .ok (.istore 4, 2) := by decide +kernel
theorem dX6_letterOf_38 : decode cX6_letterOf 38 = .ok (.iconst 0, 1) := by decide +kernel
theorem dX6_letterOf_39 : decode cX6_letterOf 39 = .ok (.istore 5, 2) := by decide +kernel
theorem dX6_letterOf_41 : decode cX6_letterOf 41 = .ok (.iload 5, 2) := by decide +kernel
theorem dX6_letterOf_43 : decode cX6_letterOf 43 = .ok (.iload_n 3, 1) := by decide +kernel
theorem dX6_letterOf_44 : decode cX6_letterOf 44 = .ok (.if_icmp .gt 35, 3) := by decide +kernel
theorem dX6_letterOf_47 : decode cX6_letterOf 47 = .ok (.aload_n 0, 1) := by decide +kernel
theorem dX6_letterOf_48 : decode cX6_letterOf 48 = .ok (.iload_n 1, 1) := by decide +kernel
theorem dX6_letterOf_49 : decode cX6_letterOf 49 = .ok (.iload 5, 2) := by decide +kernel
theorem dX6_letterOf_51 : decode cX6_letterOf 51 = .ok (.isub, 1) := by decide +kernel
theorem dX6_letterOf_52 : decode cX6_letterOf 52 = .ok (.iconst 1, 1) := by decide +kernel
theorem dX6_letterOf_53 : decode cX6_letterOf 53 = .ok (.isub, 1) := by decide +kernel
theorem dX6_letterOf_54 : decode cX6_letterOf 54 = .ok (.invokevirtual 65, 3) := by decide +kernel
theorem dX6_letterOf_57 : decode cX6_letterOf 57 = .ok (.istore 4, 2) := by decide +kernel
theorem dX6_letterOf_59 : decode cX6_letterOf 59 = .ok (.aload_n 0, 1) := by decide +kernel
theorem dX6_letterOf_60 : decode cX6_letterOf 60 = .ok (.aload_n 0, 1) := by decide +kernel
theorem dX6_letterOf_61 : decode cX6_letterOf 61 = .ok (.aload_n 0, 1) := by decide +kernel
theorem dX6_letterOf_62 : decode cX6_letterOf 62 = .ok (.getfield 24, 3) := by decide +kernel
theorem dX6_letterOf_65 : decode cX6_letterOf 65 = .ok (.iload 4, 2) := by decide +kernel
theorem dX6_letterOf_67 : decode cX6_letterOf 67 = .ok (.invokevirtual 68, 3) := by decide +kernel
theorem dX6_letterOf_70 : decode cX6_letterOf 70 = .ok (.putfield 24, 3) := by decide +kernel
theorem dX6_letterOf_73 : decode cX6_letterOf 73 = .ok (.iinc 5 1, 3) := by decide +kernel
theorem dX6_letterOf_76 : decode cX6_letterOf 76 = .ok (.goto (-35), 3) := by decide +kernel
theorem dX6_letterOf_79 : decode cX6_letterOf 79 = .ok (.iload 4, 2) := by decide +kernel
theorem dX6_letterOf_81 : decode cX6_letterOf 81 = .ok (.ireturn, 1) := by decide +kernel
theorem dX6_pickLetter_0 : decode cX6_pickLetter 0 = .ok (.iconst 0, 1) := by decide +kernel
theorem dX6_pickLetter_1 : decode cX6_pickLetter 1 = .ok (.istore_n 2, 1) := by decide +kernel
theorem dX6_pickLetter_2 : decode cX6_pickLetter 2 = .ok (.iload_n 2, 1) := by decide +kernel
theorem dX6_pickLetter_3 : decode cX6_pickLetter 3 = .ok (.aload_n 0, 1) := by decide +kernel
theorem dX6_pickLetter_4 : decode cX6_pickLetter 4 = .ok (.getfield 32, 3) := by decide +kernel
theorem dX6_pickLetter_7 : decode cX6_pickLetter 7 = .ok (.invokevirtual 72, 3) := by decide +kernel
theorem dX6_pickLetter_10 : decode cX6_pickLetter 10 = .ok (.if_icmp .ge 37, 3) := by decide +kernel
theorem dX6_pickLetter_13 : decode cX6_pickLetter 13 = .ok (.aload_n 0, 1) := by decide +kernel
theorem dX6_pickLetter_14 : decode cX6_pickLetter 14 = .ok (.iload_n 1, 1) := by decide +kernel
theorem dX6_pickLetter_15 : decode cX6_pickLetter 15 = .ok (.iload_n 2, 1) := by decide +kernel
theorem dX6_pickLetter_16 : decode cX6_pickLetter 16 = .ok (.invokevirtual 76, 3) := by decide +kernel
theorem dX6_pickLetter_19 : decode cX6_pickLetter 19 = .ok (.lstore_n 3, 1) := by decide +kernel
theorem dX6_pickLetter_20 : decode cX6_pickLetter 20 = .ok (.aload_n 0, 1) := by decide +kernel
theorem dX6_pickLetter_21 : decode cX6_pickLetter 21 = .ok (.getfield 28, 3) := by decide +kernel
theorem dX6_pickLetter_24 : decode cX6_pickLetter 24 = .ok (.lload_n 3, 1) := by decide +kernel
theorem dX6_pickLetter_25 : decode cX6_pickLetter 25 = .ok (.lcmp, 1) := by decide +kernel
theorem dX6_pickLetter_26 : decode cX6_pickLetter 26 = .ok (.ifCond .ge 5, 3) := by decide +kernel
theorem dX6_pickLetter_29 : decode cX6_pickLetter 29 = .ok (.iload_n 2, 1) := by decide +kernel
theorem dX6_pickLetter_30 : decode cX6_pickLetter 30 = .ok (.ireturn, 1) := by decide +kernel
theorem dX6_pickLetter_31 : decode cX6_pickLetter 31 = .ok (.aload_n 0, 1) := by decide +kernel
theorem dX6_pickLetter_32 : decode cX6_pickLetter 32 = .ok (.dup, 1) := by decide +kernel
theorem dX6_pickLetter_33 : decode cX6_pickLetter 33 = .ok (.getfield 28, 3) := by decide +kernel
theorem dX6_pickLetter_36 : decode cX6_pickLetter 36 = .ok (.lload_n 3, 1) := by decide +kernel
theorem dX6_pickLetter_37 : decode cX6_pickLetter 37 = .ok (.lsub, 1) := by decide +kernel
theorem dX6_pickLetter_38 : decode cX6_pickLetter 38 = .ok (.putfield 28, 3) := by decide +kernel
theorem dX6_pickLetter_41 : decode cX6_pickLetter 41 = .ok (.iinc 2 1, 3) := by decide +kernel
theorem dX6_pickLetter_44 : decode cX6_pickLetter 44 = .ok (.goto (-42), 3) := by decide +kernel
theorem dX6_pickLetter_47 : decode cX6_pickLetter 47 = .ok (.iconst (-1), 1) := by decide +kernel
theorem dX6_pickLetter_48 : decode cX6_pickLetter 48 = .ok (.ireturn, 1) := by decide +kernel
theorem dX6_placeOfLeast_0 : decode cX6_placeOfLeast 0 = .ok (.aload_n 0, 1) := by decide +kernel
theorem dX6_placeOfLeast_1 : decode cX6_placeOfLeast 1 = .ok (.aload_n 1, 1) := by decide +kernel
theorem dX6_placeOfLeast_2 : decode cX6_placeOfLeast 2 = .ok (.invokevirtual 79, 3) := by decide +kernel
theorem dX6_placeOfLeast_5 : decode cX6_placeOfLeast 5 = .ok (.invokevirtual 57, 3) := by decide +kernel
theorem dX6_placeOfLeast_8 : decode cX6_placeOfLeast 8 = .ok (.aload_n 0, 1) := by decide +kernel
theorem dX6_placeOfLeast_9 : decode cX6_placeOfLeast 9 = .ok (.iconst 0, 1) := by decide +kernel
theorem dX6_placeOfLeast_10 : decode cX6_placeOfLeast 10 = .ok (.putfield 24, 3) := by decide +kernel
theorem dX6_placeOfLeast_13 : decode cX6_placeOfLeast 13 = .ok (.lconst 0, 1) := by decide +kernel
theorem dX6_placeOfLeast_14 : decode cX6_placeOfLeast 14 = .ok (.lstore_n 2, 1) := by decide +kernel
theorem dX6_placeOfLeast_15 : decode cX6_placeOfLeast 15 = .ok (.iconst 0, 1) := by decide +kernel
theorem dX6_placeOfLeast_16 : decode cX6_placeOfLeast 16 = .ok (.istore 4, 2) := by decide +kernel
theorem dX6_placeOfLeast_18 : decode cX6_placeOfLeast 18 = .ok (.iload 4, 2) := by decide +kernel
theorem dX6_placeOfLeast_20 : decode cX6_placeOfLeast 20 = .ok (.aload_n 1, 1) := by decide +kernel
theorem dX6_placeOfLeast_21 : decode cX6_placeOfLeast 21 = .ok (.invokevirtual 79, 3) := by decide +kernel
theorem dX6_placeOfLeast_24 : decode cX6_placeOfLeast 24 = .ok (.if_icmp .ge 65, 3) := by decide +kernel
theorem dX6_placeOfLeast_27 : decode cX6_placeOfLeast 27 = .ok (.iconst 0, 1) := by decide +kernel
theorem dX6_placeOfLeast_28 : decode cX6_placeOfLeast 28 = .ok (.istore 5, 2) := by decide +kernel
theorem dX6_placeOfLeast_30 : decode cX6_placeOfLeast 30 = .ok (.iload 5, 2) := by decide +kernel
theorem dX6_placeOfLeast_32 : decode cX6_placeOfLeast 32 = .ok (.aload_n 1, 1) := by decide +kernel
theorem dX6_placeOfLeast_33 : decode cX6_placeOfLeast 33 = .ok (.iload 4, 2) := by decide +kernel
theorem dX6_placeOfLeast_35 : decode cX6_placeOfLeast 35 = .ok (.invokevirtual 84, 3) := by decide +kernel
theorem dX6_placeOfLeast_38 : decode cX6_placeOfLeast 38 = .ok (.if_icmp .ge 27, 3) := by decide +kernel
theorem dX6_placeOfLeast_41 : decode cX6_placeOfLeast 41 = .ok (.lload_n 2, 1) := by decide +kernel
theorem dX6_placeOfLeast_42 : decode cX6_placeOfLeast 42 = .ok (.aload_n 0, 1) := by decide +kernel
theorem dX6_placeOfLeast_43 : decode cX6_placeOfLeast 43 = .ok (.aload_n 1, 1) := by decide +kernel
theorem dX6_placeOfLeast_44 : decode cX6_placeOfLeast 44 = .ok (.invokevirtual 79, 3) := by decide +kernel
theorem dX6_placeOfLeast_47 : decode cX6_placeOfLeast 47 = .ok (.iload 4, 2) := by decide +kernel
theorem dX6_placeOfLeast_49 : decode cX6_placeOfLeast 49 = .ok (.isub, 1) := by decide +kernel
theorem dX6_placeOfLeast_50 : decode cX6_placeOfLeast 50 = .ok (.iconst 1, 1) := by decide +kernel
theorem dX6_placeOfLeast_51 : decode cX6_placeOfLeast 51 = .ok (.isub, 1) := by decide +kernel
theorem dX6_placeOfLeast_52 : decode cX6_placeOfLeast 52 = .ok (.iload 5, 2) := by decide +kernel
theorem dX6_placeOfLeast_54 : decode cX6_placeOfLeast 54 = .ok (.invokevirtual 76, 3) := by decide +kernel
theorem dX6_placeOfLeast_57 : decode cX6_placeOfLeast 57 = .ok (.ladd, 1) := by decide +kernel
theorem dX6_placeOfLeast_58 : decode cX6_placeOfLeast 58 = .ok (.lstore_n 2, 1) := by decide +kernel
theorem dX6_placeOfLeast_59 : decode cX6_placeOfLeast 59 = .ok (.iinc 5 1, 3) := by decide +kernel
theorem dX6_placeOfLeast_62 : decode cX6_placeOfLeast 62 = .ok (.goto (-32), 3) := by decide +kernel
theorem dX6_placeOfLeast_65 : decode cX6_placeOfLeast 65 = .ok (.aload_n 0, 1) := by decide +kernel
theorem dX6_placeOfLeast_66 : decode cX6_placeOfLeast 66 = .ok (.aload_n 0, 1) := by decide +kernel
theorem dX6_placeOfLeast_67 : decode cX6_placeOfLeast 67 = .ok (.aload_n 0, 1) := by decide +kernel
theorem dX6_placeOfLeast_68 : decode cX6_placeOfLeast 68 = .ok (.getfield 24, 3) := by decide +kernel
theorem dX6_placeOfLeast_71 : decode cX6_placeOfLeast 71 = .ok (.aload_n 1, 1) := by decide +kernel
theorem dX6_placeOfLeast_72 : decode cX6_placeOfLeast 72 = .ok (.iload 4, 2) := by decide +kernel
theorem dX6_placeOfLeast_74 : decode cX6_placeOfLeast 74 = .ok (.invokevirtual 84, 3) := by decide +kernel
theorem dX6_placeOfLeast_77 : decode cX6_placeOfLeast 77 = .ok (.invokevirtual 68, 3) := by decide +kernel
theorem dX6_placeOfLeast_80 : decode cX6_placeOfLeast 80 = .ok (.putfield 24, 3) := by decide +kernel
theorem dX6_placeOfLeast_83 : decode cX6_placeOfLeast 83 = .ok (.iinc 4 1, 3) := by decide +kernel
theorem dX6_placeOfLeast_86 : decode cX6_placeOfLeast 86 = .ok (.goto (-68), 3) := by decide +kernel
theorem dX6_placeOfLeast_89 : decode cX6_placeOfLeast 89 = .ok (.lload_n 2, 1) := by decide +kernel
theorem dX6_placeOfLeast_90 : decode cX6_placeOfLeast 90 = .ok (.ldc2_w 49, 3) := by decide +kernel
theorem dX6_placeOfLeast_93 : decode cX6_placeOfLeast 93 = .ok (.lrem, 1) := by decide +kernel
theorem dX6_placeOfLeast_94 : decode cX6_placeOfLeast 94 = .ok (.l2i, 1) := by decide +kernel
theorem dX6_placeOfLeast_95 : decode cX6_placeOfLeast 95 = .ok (.ireturn, 1) := by decide +kernel
theorem dX6_howManyFollowLetter_0 : decode cX6_howManyFollowLetter 0 = .ok (.aload_n 0, 1) := by decide +kernel
theorem dX6_howManyFollowLetter_1 : decode cX6_howManyFollowLetter 1 = .ok (.getfield 24, 3) := by decide +kernel
theorem dX6_howManyFollowLetter_4 : decode cX6_howManyFollowLetter 4 = .ok (.iload_n 2, 1) := by decide +kernel
theorem dX6_howManyFollowLetter_5 : decode cX6_howManyFollowLetter 5 = .ok (.ishr, 1) := by decide +kernel
theorem dX6_howManyFollowLetter_6 : decode cX6_howManyFollowLetter 6 = .ok (.iconst 1, 1) := by decide +kernel
theorem dX6_howManyFollowLetter_7 : decode cX6_howManyFollowLetter 7 = .ok (.iand, 1) := by decide +kernel
theorem dX6_howManyFollowLetter_8 : decode cX6_howManyFollowLetter 8 = .ok (.iconst 1, 1) := by decide +kernel
theorem dX6_howManyFollowLetter_9 : decode cX6_howManyFollowLetter 9 = .ok (.if_icmp .ne 7, 3) := by decide +kernel
theorem dX6_howManyFollowLetter_12 : decode cX6_howManyFollowLetter 12 = .ok (.lconst 0, 1) := by decide +kernel
theorem dX6_howManyFollowLetter_13 : decode cX6_howManyFollowLetter 13 = .ok (.goto 17, 3) := by decide +kernel
theorem dX6_howManyFollowLetter_16 : decode cX6_howManyFollowLetter 16 = .ok (.aload_n 0, 1) := by decide +kernel
theorem dX6_howManyFollowLetter_17 : decode cX6_howManyFollowLetter 17 = .ok (.iload_n 1, 1) := by decide +kernel
theorem dX6_howManyFollowLetter_18 : decode cX6_howManyFollowLetter 18 = .ok (.aload_n 0, 1) := by decide +kernel
theorem dX6_howManyFollowLetter_19 : decode cX6_howManyFollowLetter 19 = .ok (.aload_n 0, 1) := by decide +kernel
theorem dX6_howManyFollowLetter_20 : decode cX6_howManyFollowLetter 20 = .ok (.getfield 24, 3) := by decide +kernel
theorem dX6_howManyFollowLetter_23 : decode cX6_howManyFollowLetter 23 = .ok (.iload_n 2, 1) := by decide +kernel
theorem dX6_howManyFollowLetter_24 : decode cX6_howManyFollowLetter 24 = .ok (.invokevirtual 68, 3) := by decide +kernel
theorem dX6_howManyFollowLetter_27 : decode cX6_howManyFollowLetter 27 = .ok (.invokevirtual 61, 3) := by decide +kernel
theorem dX6_howManyFollowLetter_30 : decode cX6_howManyFollowLetter 30 = .ok (.lreturn, 1) := by decide +kernel
theorem dX6_howManyFollow_0 : decode cX6_howManyFollow 0 = .ok (.iload_n 1, 1) := by decide +kernel
theorem dX6_howManyFollow_1 : decode cX6_howManyFollow 1 = .ok (.ifCond .lt 12, 3) := by decide +kernel
theorem dX6_howManyFollow_4 : decode cX6_howManyFollow 4 = .ok (.iload_n 1, 1) := by decide +kernel
theorem dX6_howManyFollow_5 : decode cX6_howManyFollow 5 = .ok (.aload_n 0, 1) := by decide +kernel
theorem dX6_howManyFollow_6 : decode cX6_howManyFollow 6 = .ok (.getfield 11, 3) := by decide +kernel
theorem dX6_howManyFollow_9 : decode cX6_howManyFollow 9 = .ok (.arraylength, 1) := by decide +kernel
theorem dX6_howManyFollow_10 : decode cX6_howManyFollow 10 = .ok (.if_icmp .lt 5, 3) := by decide +kernel
theorem dX6_howManyFollow_13 : decode cX6_howManyFollow 13 = .ok (.lconst 0, 1) := by decide +kernel
theorem dX6_howManyFollow_14 : decode cX6_howManyFollow 14 = .ok (.lreturn, 1) := by decide +kernel
theorem dX6_howManyFollow_15 : decode cX6_howManyFollow 15 = .ok (.aload_n 0, 1) := by decide +kernel
theorem dX6_howManyFollow_16 : decode cX6_howManyFollow 16 = .ok (.getfield 11, 3) := by decide +kernel
theorem dX6_howManyFollow_19 : decode cX6_howManyFollow 19 = .ok (.iload_n 1, 1) := by decide +kernel
theorem dX6_howManyFollow_20 : decode cX6_howManyFollow 20 = .ok (.aaload, 1) := by decide +kernel
theorem dX6_howManyFollow_21 : decode cX6_howManyFollow 21 = .ok (.astore_n 3, 1) := by decide +kernel
theorem dX6_howManyFollow_22 : decode cX6_howManyFollow 22 = .ok (.iload_n 2, 1) := by decide +kernel
theorem dX6_howManyFollow_23 : decode cX6_howManyFollow 23 = .ok (.ifCond .lt 15, 3) := by decide +kernel
theorem dX6_howManyFollow_26 : decode cX6_howManyFollow 26 = .ok (.iload_n 2, 1) := by decide +kernel
theorem dX6_howManyFollow_27 : decode cX6_howManyFollow 27 = .ok (.aload_n 3, 1) := by decide +kernel
theorem dX6_howManyFollow_28 : decode cX6_howManyFollow 28 = .ok (.arraylength, 1) := by decide +kernel
theorem dX6_howManyFollow_29 : decode cX6_howManyFollow 29 = .ok (.if_icmp .ge 9, 3) := by decide +kernel
theorem dX6_howManyFollow_32 : decode cX6_howManyFollow 32 = .ok (.aload_n 3, 1) := by decide +kernel
theorem dX6_howManyFollow_33 : decode cX6_howManyFollow 33 = .ok (.iload_n 2, 1) := by decide +kernel
theorem dX6_howManyFollow_34 : decode cX6_howManyFollow 34 = .ok (.laload, 1) := by decide +kernel
theorem dX6_howManyFollow_35 : decode cX6_howManyFollow 35 = .ok (.goto 4, 3) := by decide +kernel
theorem dX6_howManyFollow_38 : decode cX6_howManyFollow 38 = .ok (.lconst 0, 1) := by decide +kernel
theorem dX6_howManyFollow_39 : decode cX6_howManyFollow 39 = .ok (.lreturn, 1) := by decide +kernel
theorem dX6_countFollowing_0 : decode cX6_countFollowing 0 = .ok (.aload_n 0, 1) := by decide +kernel
theorem dX6_countFollowing_1 : decode cX6_countFollowing 1 = .ok (.getfield 32, 3) := by decide +kernel
theorem dX6_countFollowing_4 : decode cX6_countFollowing 4 = .ok (.invokevirtual 87, 3) := by decide +kernel
theorem dX6_countFollowing_7 : decode cX6_countFollowing 7 = .ok (.istore_n 2, 1) := by decide +kernel
theorem dX6_countFollowing_8 : decode cX6_countFollowing 8 = .ok (.aload_n 0, 1) := by decide +kernel
theorem dX6_countFollowing_9 : decode cX6_countFollowing 9 = .ok (.getfield 11, 3) := by decide +kernel
theorem dX6_countFollowing_12 : decode cX6_countFollowing 12 = .ok (.iconst 0, 1) := by decide +kernel
theorem dX6_countFollowing_13 : decode cX6_countFollowing 13 = .ok (.aaload, 1) := by decide +kernel
theorem dX6_countFollowing_14 : decode cX6_countFollowing 14 = .ok (.lconst 1, 1) := by decide +kernel
theorem dX6_countFollowing_15 : decode cX6_countFollowing 15 = .ok (.invokestatic 90, 3) := by decide +kernel
theorem dX6_countFollowing_18 : decode cX6_countFollowing 18 = .ok (.iconst 1, 1) := by decide +kernel
theorem dX6_countFollowing_19 : decode cX6_countFollowing 19 = .ok (.istore_n 3, 1) := by decide +kernel
theorem dX6_countFollowing_20 : decode cX6_countFollowing 20 = .ok (.iload_n 3, 1) := by decide +kernel
theorem dX6_countFollowing_21 : decode cX6_countFollowing 21 = .ok (.iload_n 1, 1) := by decide +kernel
theorem dX6_countFollowing_22 : decode cX6_countFollowing 22 = .ok (.if_icmp .gt 67, 3) := by decide +kernel
theorem dX6_countFollowing_25 : decode cX6_countFollowing 25 = .ok (.iload_n 3, 1) := by decide +kernel
theorem dX6_countFollowing_26 : decode cX6_countFollowing 26 = .ok (.aload_n 0, 1) := by decide +kernel
theorem dX6_countFollowing_27 : decode cX6_countFollowing 27 = .ok (.getfield 11, 3) := by decide +kernel
theorem dX6_countFollowing_30 : decode cX6_countFollowing 30 = .ok (.arraylength, 1) := by decide +kernel
theorem dX6_countFollowing_31 : decode cX6_countFollowing 31 = .ok (.if_icmp .ge 58, 3) := by decide +kernel
theorem dX6_countFollowing_34 : decode cX6_countFollowing 34 = .ok (.aload_n 0, 1) := by decide +kernel
theorem dX6_countFollowing_35 : decode cX6_countFollowing 35 = .ok (.getfield 11, 3) := by decide +kernel
theorem dX6_countFollowing_38 : decode cX6_countFollowing 38 = .ok (.iload_n 3, 1) := by decide +kernel
theorem dX6_countFollowing_39 : decode cX6_countFollowing 39 = .ok (.aaload, 1) := by decide +kernel
theorem dX6_countFollowing_40 : decode cX6_countFollowing 40 = .ok (.astore 4, 2) := by decide +kernel
theorem dX6_countFollowing_42 : decode cX6_countFollowing 42 = .ok (.iconst 0, 1) := by decide +kernel
theorem dX6_countFollowing_43 : decode cX6_countFollowing 43 = .ok (.istore 5, 2) := by decide +kernel
theorem dX6_countFollowing_45 : decode cX6_countFollowing 45 = .ok (.iload 5, 2) := by decide +kernel
theorem dX6_countFollowing_47 : decode cX6_countFollowing 47 = .ok (.iload_n 2, 1) := by decide +kernel
theorem dX6_countFollowing_48 : decode cX6_countFollowing 48 = .ok (.if_icmp .gt 35, 3) := by decide +kernel
theorem dX6_countFollowing_51 : decode cX6_countFollowing 51 = .ok (.iload 5, 2) := by decide +kernel
theorem dX6_countFollowing_53 : decode cX6_countFollowing 53 = .ok (.aload 4, 2) := by decide +kernel
theorem dX6_countFollowing_55 : decode cX6_countFollowing 55 = .ok (.arraylength, 1) := by decide +kernel
theorem dX6_countFollowing_56 : decode cX6_countFollowing 56 = .ok (.if_icmp .ge 27, 3) := by decide +kernel
theorem dX6_countFollowing_59 : decode cX6_countFollowing 59 = .ok (.aload_n 0, 1) := by decide +kernel
theorem dX6_countFollowing_60 : decode cX6_countFollowing 60 = .ok (.iload 5, 2) := by decide +kernel
theorem dX6_countFollowing_62 : decode cX6_countFollowing 62 = .ok (.putfield 24, 3) := by decide +kernel
theorem dX6_countFollowing_65 : decode cX6_countFollowing 65 = .ok (.aload 4, 2) := by decide +kernel
theorem dX6_countFollowing_67 : decode cX6_countFollowing 67 = .ok (.iload 5, 2) := by decide +kernel
theorem dX6_countFollowing_69 : decode cX6_countFollowing 69 = .ok (.aload_n 0, 1) := by decide +kernel
theorem dX6_countFollowing_70 : decode cX6_countFollowing 70 = .ok (.iload_n 3, 1) := by decide +kernel
theorem dX6_countFollowing_71 : decode cX6_countFollowing 71 = .ok (.iconst 1, 1) := by decide +kernel
theorem dX6_countFollowing_72 : decode cX6_countFollowing 72 = .ok (.isub, 1) := by decide +kernel
theorem dX6_countFollowing_73 : decode cX6_countFollowing 73 = .ok (.invokevirtual 96, 3) := by decide +kernel
theorem dX6_countFollowing_76 : decode cX6_countFollowing 76 = .ok (.lastore, 1) := by decide +kernel
theorem dX6_countFollowing_77 : decode cX6_countFollowing 77 = .ok (.iinc 5 1, 3) := by decide +kernel
theorem dX6_countFollowing_80 : decode cX6_countFollowing 80 = .ok (.goto (-35), 3) := by decide +kernel
theorem dX6_countFollowing_83 : decode cX6_countFollowing 83 = .ok (.iinc 3 1, 3) := by decide +kernel
theorem dX6_countFollowing_86 : decode cX6_countFollowing 86 = .ok (.goto (-66), 3) := by decide +kernel
theorem dX6_countFollowing_89 : decode cX6_countFollowing 89 = .ok (.return_, 1) := by decide +kernel
theorem dX6_sumFollowing_0 : decode cX6_sumFollowing 0 = .ok (.lconst 0, 1) := by decide +kernel
theorem dX6_sumFollowing_1 : decode cX6_sumFollowing 1 = .ok (.lstore_n 2, 1) := by decide +kernel
theorem dX6_sumFollowing_2 : decode cX6_sumFollowing 2 = .ok (.iconst 0, 1) := by decide +kernel
theorem dX6_sumFollowing_3 : decode cX6_sumFollowing 3 = .ok (.istore 4, 2) := by decide +kernel
theorem dX6_sumFollowing_5 : decode cX6_sumFollowing 5 = .ok (.iload 4, 2) := by decide +kernel
theorem dX6_sumFollowing_7 : decode cX6_sumFollowing 7 = .ok (.aload_n 0, 1) := by decide +kernel
theorem dX6_sumFollowing_8 : decode cX6_sumFollowing 8 = .ok (.getfield 32, 3) := by decide +kernel
theorem dX6_sumFollowing_11 : decode cX6_sumFollowing 11 = .ok (.invokevirtual 72, 3) := by decide +kernel
theorem dX6_sumFollowing_14 : decode cX6_sumFollowing 14 = .ok (.if_icmp .ge 19, 3) := by decide +kernel
theorem dX6_sumFollowing_17 : decode cX6_sumFollowing 17 = .ok (.lload_n 2, 1) := by decide +kernel
theorem dX6_sumFollowing_18 : decode cX6_sumFollowing 18 = .ok (.aload_n 0, 1) := by decide +kernel
theorem dX6_sumFollowing_19 : decode cX6_sumFollowing 19 = .ok (.iload_n 1, 1) := by decide +kernel
theorem dX6_sumFollowing_20 : decode cX6_sumFollowing 20 = .ok (.iload 4, 2) := by decide +kernel
end
section
theorem dX6_sumFollowing_22 : decode cX6_sumFollowing 22 = .ok (.invokevirtual 76, 3) := by decide +kernel
theorem dX6_sumFollowing_25 : decode cX6_sumFollowing 25 = .ok (.ladd, 1) := by decide +kernel
theorem dX6_sumFollowing_26 : decode cX6_sumFollowing 26 = .ok (.lstore_n 2, 1) := by decide +kernel
theorem dX6_sumFollowing_27 : decode cX6_sumFollowing 27 = .ok (.iinc 4 1, 3) := by decide +kernel
theorem dX6_sumFollowing_30 : decode cX6_sumFollowing 30 = .ok (.goto (-25), 3) := by decide +kernel
theorem dX6_sumFollowing_33 : decode cX6_sumFollowing 33 = .ok (.lload_n 2, 1) := by decide +kernel
theorem dX6_sumFollowing_34 : decode cX6_sumFollowing 34 = .ok (.lreturn, 1) := by decide +kernel
theorem dX7_init_0 : decode cX7_init 0 = .ok (.aload_n 0, 1) := by decide +kernel
theorem dX7_init_1 : decode cX7_init 1 = .ok (.invokespecial 3, 3) := by decide +kernel
theorem dX7_init_4 : decode cX7_init 4 = .ok (.aload_n 0, 1) := by decide +kernel
theorem dX7_init_5 : decode cX7_init 5 = .ok (.new 9, 3) := by decide +kernel
theorem dX7_init_8 : decode cX7_init 8 = .ok (.dup, 1) := by decide +kernel
theorem dX7_init_9 : decode cX7_init 9 = .ok (.invokespecial 11, 3) := by decide +kernel
theorem dX7_init_12 : decode cX7_init 12 = .ok (.putfield 12, 3) := by decide +kernel
theorem dX7_init_15 : decode cX7_init 15 = .ok (.aload_n 0, 1) := by decide +kernel
theorem dX7_init_16 : decode cX7_init 16 = .ok (.new 9, 3) := by decide +kernel
theorem dX7_init_19 : decode cX7_init 19 = .ok (.dup, 1) := by decide +kernel
theorem dX7_init_20 : decode cX7_init 20 = .ok (.invokespecial 11, 3) := by decide +kernel
theorem dX7_init_23 : decode cX7_init 23 = .ok (.putfield 18, 3) := by decide +kernel
theorem dX7_init_26 : decode cX7_init 26 = .ok (.aload_n 0, 1) := by decide +kernel
theorem dX7_init_27 : decode cX7_init 27 = .ok (.new 9, 3) := by decide +kernel
theorem dX7_init_30 : decode cX7_init 30 = .ok (.dup, 1) := by decide +kernel
theorem dX7_init_31 : decode cX7_init 31 = .ok (.invokespecial 11, 3) := by decide +kernel
theorem dX7_init_34 : decode cX7_init 34 = .ok (.putfield 21, 3) := by decide +kernel
theorem dX7_init_37 : decode cX7_init 37 = .ok (.aload_n 0, 1) := by decide +kernel
theorem dX7_init_38 : decode cX7_init 38 = .ok (.aload_n 1, 1) := by decide +kernel
theorem dX7_init_39 : decode cX7_init 39 = .ok (.putfield 24, 3) := by decide +kernel
theorem dX7_init_42 : decode cX7_init 42 = .ok (.return_, 1) := by decide +kernel
theorem dX7_makeJoined_0 : decode cX7_makeJoined 0 = .ok (.aload_n 0, 1) := by decide +kernel
theorem dX7_makeJoined_1 : decode cX7_makeJoined 1 = .ok (.getfield 12, 3) := by decide +kernel
theorem dX7_makeJoined_4 : decode cX7_makeJoined 4 = .ok (.aload_n 1, 1) := by decide +kernel
theorem dX7_makeJoined_5 : decode cX7_makeJoined 5 = .ok (.invokevirtual 28, 3) := by decide +kernel
theorem dX7_makeJoined_8 : decode cX7_makeJoined 8 = .ok (.aload_n 0, 1) := by decide +kernel
theorem dX7_makeJoined_9 : decode cX7_makeJoined 9 = .ok (.getfield 12, 3) := by decide +kernel
theorem dX7_makeJoined_12 : decode cX7_makeJoined 12 = .ok (.aload_n 2, 1) := by decide +kernel
theorem dX7_makeJoined_13 : decode cX7_makeJoined 13 = .ok (.invokevirtual 32, 3) := by decide +kernel
theorem dX7_makeJoined_16 : decode cX7_makeJoined 16 = .ok (.ifCond .eq 15, 3) := by decide +kernel
theorem dX7_makeJoined_19 : decode cX7_makeJoined 19 = .ok (.aload_n 0, 1) := by decide +kernel
theorem dX7_makeJoined_20 : decode cX7_makeJoined 20 = .ok (.aload_n 0, 1) := by decide +kernel
theorem dX7_makeJoined_21 : decode cX7_makeJoined 21 = .ok (.getfield 12, 3) := by decide +kernel
theorem dX7_makeJoined_24 : decode cX7_makeJoined 24 = .ok (.aload_n 3, 1) := by decide +kernel
theorem dX7_makeJoined_25 : decode cX7_makeJoined 25 = .ok (.invokevirtual 36, 3) := by decide +kernel
theorem dX7_makeJoined_28 : decode cX7_makeJoined 28 = .ok (.goto 5, 3) := by decide +kernel
theorem dX7_makeJoined_31 : decode cX7_makeJoined 31 = .ok (.bipush (-5), 2) := by decide +kernel
theorem dX7_makeJoined_33 : decode cX7_makeJoined 33 = .ok (.ireturn, 1) := by decide +kernel
theorem dX7_makeLeft_0 : decode cX7_makeLeft 0 = .ok (.aload_n 0, 1) := by decide +kernel
theorem dX7_makeLeft_1 : decode cX7_makeLeft 1 = .ok (.getfield 21, 3) := by decide +kernel
theorem dX7_makeLeft_4 : decode cX7_makeLeft 4 = .ok (.aload_n 2, 1) := by decide +kernel
theorem dX7_makeLeft_5 : decode cX7_makeLeft 5 = .ok (.invokevirtual 28, 3) := by decide +kernel
theorem dX7_makeLeft_8 : decode cX7_makeLeft 8 = .ok (.iconst 0, 1) := by decide +kernel
theorem dX7_makeLeft_9 : decode cX7_makeLeft 9 = .ok (.istore 4, 2) := by decide +kernel
theorem dX7_makeLeft_11 : decode cX7_makeLeft 11 = .ok (.iload 4, 2) := by decide +kernel
theorem dX7_makeLeft_13 : decode cX7_makeLeft 13 = .ok (.aload_n 1, 1) := by decide +kernel
theorem dX7_makeLeft_14 : decode cX7_makeLeft 14 = .ok (.invokevirtual 40, 3) := by decide +kernel
theorem dX7_makeLeft_17 : decode cX7_makeLeft 17 = .ok (.if_icmp .ge 32, 3) := by decide +kernel
theorem dX7_makeLeft_20 : decode cX7_makeLeft 20 = .ok (.aload_n 0, 1) := by decide +kernel
theorem dX7_makeLeft_21 : decode cX7_makeLeft 21 = .ok (.getfield 24, 3) := by decide +kernel
theorem dX7_makeLeft_24 : decode cX7_makeLeft 24 = .ok (.aload_n 0, 1) := by decide +kernel
theorem dX7_makeLeft_25 : decode cX7_makeLeft 25 = .ok (.getfield 21, 3) := by decide +kernel
theorem dX7_makeLeft_28 : decode cX7_makeLeft 28 = .ok (.aload_n 1, 1) := by decide +kernel
theorem dX7_makeLeft_29 : decode cX7_makeLeft 29 = .ok (.iload 4, 2) := by decide +kernel
theorem dX7_makeLeft_31 : decode cX7_makeLeft 31 = .ok (.invokevirtual 44, 3) := by decide +kernel
theorem dX7_makeLeft_34 : decode cX7_makeLeft 34 = .ok (.invokevirtual 48, 3) := by decide +kernel
theorem dX7_makeLeft_37 : decode cX7_makeLeft 37 = .ok (.ifCond .ne 6, 3) := by decide +kernel
theorem dX7_makeLeft_40 : decode cX7_makeLeft 40 = .ok (.bipush (-4), 2) := by decide +kernel
theorem dX7_makeLeft_42 : decode cX7_makeLeft 42 = .ok (.ireturn, 1) := by decide +kernel
theorem dX7_makeLeft_43 : decode cX7_makeLeft 43 = .ok (.iinc 4 1, 3) := by decide +kernel
theorem dX7_makeLeft_46 : decode cX7_makeLeft 46 = .ok (.goto (-35), 3) := by decide +kernel
theorem dX7_makeLeft_49 : decode cX7_makeLeft 49 = .ok (.aload_n 0, 1) := by decide +kernel
theorem dX7_makeLeft_50 : decode cX7_makeLeft 50 = .ok (.aload_n 0, 1) := by decide +kernel
theorem dX7_makeLeft_51 : decode cX7_makeLeft 51 = .ok (.getfield 21, 3) := by decide +kernel
theorem dX7_makeLeft_54 : decode cX7_makeLeft 54 = .ok (.aload_n 3, 1) := by decide +kernel
theorem dX7_makeLeft_55 : decode cX7_makeLeft 55 = .ok (.invokevirtual 36, 3) := by decide +kernel
theorem dX7_makeLeft_58 : decode cX7_makeLeft 58 = .ok (.ireturn, 1) := by decide +kernel
theorem dX7_makeShared_0 : decode cX7_makeShared 0 = .ok (.aload_n 0, 1) := by decide +kernel
theorem dX7_makeShared_1 : decode cX7_makeShared 1 = .ok (.aload_n 1, 1) := by decide +kernel
theorem dX7_makeShared_2 : decode cX7_makeShared 2 = .ok (.aload_n 2, 1) := by decide +kernel
theorem dX7_makeShared_3 : decode cX7_makeShared 3 = .ok (.invokevirtual 54, 3) := by decide +kernel
theorem dX7_makeShared_6 : decode cX7_makeShared 6 = .ok (.aload_n 0, 1) := by decide +kernel
theorem dX7_makeShared_7 : decode cX7_makeShared 7 = .ok (.aload_n 0, 1) := by decide +kernel
theorem dX7_makeShared_8 : decode cX7_makeShared 8 = .ok (.getfield 12, 3) := by decide +kernel
theorem dX7_makeShared_11 : decode cX7_makeShared 11 = .ok (.aload_n 3, 1) := by decide +kernel
theorem dX7_makeShared_12 : decode cX7_makeShared 12 = .ok (.invokevirtual 36, 3) := by decide +kernel
theorem dX7_makeShared_15 : decode cX7_makeShared 15 = .ok (.ireturn, 1) := by decide +kernel
theorem dX7_makeBoth_0 : decode cX7_makeBoth 0 = .ok (.aload_n 0, 1) := by decide +kernel
theorem dX7_makeBoth_1 : decode cX7_makeBoth 1 = .ok (.aload_n 1, 1) := by decide +kernel
theorem dX7_makeBoth_2 : decode cX7_makeBoth 2 = .ok (.aload_n 2, 1) := by decide +kernel
theorem dX7_makeBoth_3 : decode cX7_makeBoth 3 = .ok (.invokevirtual 54, 3) := by decide +kernel
theorem dX7_makeBoth_6 : decode cX7_makeBoth 6 = .ok (.aload_n 0, 1) := by decide +kernel
theorem dX7_makeBoth_7 : decode cX7_makeBoth 7 = .ok (.aload_n 0, 1) := by decide +kernel
theorem dX7_makeBoth_8 : decode cX7_makeBoth 8 = .ok (.getfield 18, 3) := by decide +kernel
theorem dX7_makeBoth_11 : decode cX7_makeBoth 11 = .ok (.aload_n 0, 1) := by decide +kernel
theorem dX7_makeBoth_12 : decode cX7_makeBoth 12 = .ok (.getfield 21, 3) := by decide +kernel
theorem dX7_makeBoth_15 : decode cX7_makeBoth 15 = .ok (.invokevirtual 58, 3) := by decide +kernel
theorem dX7_makeBoth_18 : decode cX7_makeBoth 18 = .ok (.ifCond .ne 6, 3) := by decide +kernel
theorem dX7_makeBoth_21 : decode cX7_makeBoth 21 = .ok (.bipush (-4), 2) := by decide +kernel
theorem dX7_makeBoth_23 : decode cX7_makeBoth 23 = .ok (.ireturn, 1) := by decide +kernel
theorem dX7_makeBoth_24 : decode cX7_makeBoth 24 = .ok (.aload_n 0, 1) := by decide +kernel
theorem dX7_makeBoth_25 : decode cX7_makeBoth 25 = .ok (.getfield 12, 3) := by decide +kernel
theorem dX7_makeBoth_28 : decode cX7_makeBoth 28 = .ok (.aload_n 0, 1) := by decide +kernel
theorem dX7_makeBoth_29 : decode cX7_makeBoth 29 = .ok (.getfield 18, 3) := by decide +kernel
theorem dX7_makeBoth_32 : decode cX7_makeBoth 32 = .ok (.invokevirtual 32, 3) := by decide +kernel
theorem dX7_makeBoth_35 : decode cX7_makeBoth 35 = .ok (.ifCond .eq 29, 3) := by decide +kernel
theorem dX7_makeBoth_38 : decode cX7_makeBoth 38 = .ok (.aload_n 0, 1) := by decide +kernel
theorem dX7_makeBoth_39 : decode cX7_makeBoth 39 = .ok (.getfield 12, 3) := by decide +kernel
theorem dX7_makeBoth_42 : decode cX7_makeBoth 42 = .ok (.aload_n 0, 1) := by decide +kernel
theorem dX7_makeBoth_43 : decode cX7_makeBoth 43 = .ok (.getfield 21, 3) := by decide +kernel
theorem dX7_makeBoth_46 : decode cX7_makeBoth 46 = .ok (.invokevirtual 32, 3) := by decide +kernel
theorem dX7_makeBoth_49 : decode cX7_makeBoth 49 = .ok (.ifCond .eq 15, 3) := by decide +kernel
theorem dX7_makeBoth_52 : decode cX7_makeBoth 52 = .ok (.aload_n 0, 1) := by decide +kernel
theorem dX7_makeBoth_53 : decode cX7_makeBoth 53 = .ok (.aload_n 0, 1) := by decide +kernel
theorem dX7_makeBoth_54 : decode cX7_makeBoth 54 = .ok (.getfield 12, 3) := by decide +kernel
theorem dX7_makeBoth_57 : decode cX7_makeBoth 57 = .ok (.aload_n 3, 1) := by decide +kernel
theorem dX7_makeBoth_58 : decode cX7_makeBoth 58 = .ok (.invokevirtual 36, 3) := by decide +kernel
theorem dX7_makeBoth_61 : decode cX7_makeBoth 61 = .ok (.goto 5, 3) := by decide +kernel
theorem dX7_makeBoth_64 : decode cX7_makeBoth 64 = .ok (.bipush (-5), 2) := by decide +kernel
theorem dX7_makeBoth_66 : decode cX7_makeBoth 66 = .ok (.ireturn, 1) := by decide +kernel
theorem dX7_makeHeap_0 : decode cX7_makeHeap 0 = .ok (.aload_n 0, 1) := by decide +kernel
theorem dX7_makeHeap_1 : decode cX7_makeHeap 1 = .ok (.getfield 24, 3) := by decide +kernel
theorem dX7_makeHeap_4 : decode cX7_makeHeap 4 = .ok (.aload_n 1, 1) := by decide +kernel
theorem dX7_makeHeap_5 : decode cX7_makeHeap 5 = .ok (.aload_n 2, 1) := by decide +kernel
theorem dX7_makeHeap_6 : decode cX7_makeHeap 6 = .ok (.invokevirtual 62, 3) := by decide +kernel
theorem dX7_makeHeap_9 : decode cX7_makeHeap 9 = .ok (.aload_n 2, 1) := by decide +kernel
theorem dX7_makeHeap_10 : decode cX7_makeHeap 10 = .ok (.invokevirtual 40, 3) := by decide +kernel
theorem dX7_makeHeap_13 : decode cX7_makeHeap 13 = .ok (.ireturn, 1) := by decide +kernel
theorem dX7_splitCommon_0 : decode cX7_splitCommon 0 = .ok (.aload_n 0, 1) := by decide +kernel
theorem dX7_splitCommon_1 : decode cX7_splitCommon 1 = .ok (.getfield 12, 3) := by decide +kernel
theorem dX7_splitCommon_4 : decode cX7_splitCommon 4 = .ok (.invokevirtual 65, 3) := by decide +kernel
theorem dX7_splitCommon_7 : decode cX7_splitCommon 7 = .ok (.aload_n 0, 1) := by decide +kernel
theorem dX7_splitCommon_8 : decode cX7_splitCommon 8 = .ok (.getfield 18, 3) := by decide +kernel
theorem dX7_splitCommon_11 : decode cX7_splitCommon 11 = .ok (.aload_n 1, 1) := by decide +kernel
theorem dX7_splitCommon_12 : decode cX7_splitCommon 12 = .ok (.invokevirtual 28, 3) := by decide +kernel
theorem dX7_splitCommon_15 : decode cX7_splitCommon 15 = .ok (.aload_n 0, 1) := by decide +kernel
theorem dX7_splitCommon_16 : decode cX7_splitCommon 16 = .ok (.getfield 21, 3) := by decide +kernel
theorem dX7_splitCommon_19 : decode cX7_splitCommon 19 = .ok (.aload_n 2, 1) := by decide +kernel
theorem dX7_splitCommon_20 : decode cX7_splitCommon 20 = .ok (.invokevirtual 28, 3) := by decide +kernel
theorem dX7_splitCommon_23 : decode cX7_splitCommon 23 = .ok (.iconst 0, 1) := by decide +kernel
theorem dX7_splitCommon_24 : decode cX7_splitCommon 24 = .ok (.istore_n 3, 1) := by decide +kernel
theorem dX7_splitCommon_25 : decode cX7_splitCommon 25 = .ok (.iload_n 3, 1) := by decide +kernel
theorem dX7_splitCommon_26 : decode cX7_splitCommon 26 = .ok (.bipush 24, 2) := by decide +kernel
theorem dX7_splitCommon_28 : decode cX7_splitCommon 28 = .ok (.if_icmp .ge 60, 3) := by decide +kernel
theorem dX7_splitCommon_31 : decode cX7_splitCommon 31 = .ok (.aload_n 0, 1) := by decide +kernel
theorem dX7_splitCommon_32 : decode cX7_splitCommon 32 = .ok (.invokevirtual 68, 3) := by decide +kernel
theorem dX7_splitCommon_35 : decode cX7_splitCommon 35 = .ok (.istore 4, 2) := by decide +kernel
theorem dX7_splitCommon_37 : decode cX7_splitCommon 37 = .ok (.iload 4, 2) := by decide +kernel
theorem dX7_splitCommon_39 : decode cX7_splitCommon 39 = .ok (.iconst (-1), 1) := by decide +kernel
theorem dX7_splitCommon_40 : decode cX7_splitCommon 40 = .ok (.if_icmp .ne 4, 3) := by decide +kernel
theorem dX7_splitCommon_43 : decode cX7_splitCommon 43 = .ok (.return_, 1) := by decide +kernel
theorem dX7_splitCommon_44 : decode cX7_splitCommon 44 = .ok (.aload_n 0, 1) := by decide +kernel
theorem dX7_splitCommon_45 : decode cX7_splitCommon 45 = .ok (.getfield 24, 3) := by decide +kernel
theorem dX7_splitCommon_48 : decode cX7_splitCommon 48 = .ok (.aload_n 0, 1) := by decide +kernel
theorem dX7_splitCommon_49 : decode cX7_splitCommon 49 = .ok (.getfield 18, 3) := by decide +kernel
theorem dX7_splitCommon_52 : decode cX7_splitCommon 52 = .ok (.iload 4, 2) := by decide +kernel
theorem dX7_splitCommon_54 : decode cX7_splitCommon 54 = .ok (.invokevirtual 48, 3) := by decide +kernel
theorem dX7_splitCommon_57 : decode cX7_splitCommon 57 = .ok (.pop, 1) := by decide +kernel
theorem dX7_splitCommon_58 : decode cX7_splitCommon 58 = .ok (.aload_n 0, 1) := by decide +kernel
theorem dX7_splitCommon_59 : decode cX7_splitCommon 59 = .ok (.getfield 24, 3) := by decide +kernel
theorem dX7_splitCommon_62 : decode cX7_splitCommon 62 = .ok (.aload_n 0, 1) := by decide +kernel
theorem dX7_splitCommon_63 : decode cX7_splitCommon 63 = .ok (.getfield 21, 3) := by decide +kernel
theorem dX7_splitCommon_66 : decode cX7_splitCommon 66 = .ok (.iload 4, 2) := by decide +kernel
theorem dX7_splitCommon_68 : decode cX7_splitCommon 68 = .ok (.invokevirtual 48, 3) := by decide +kernel
theorem dX7_splitCommon_71 : decode cX7_splitCommon 71 = .ok (.pop, 1) := by decide +kernel
theorem dX7_splitCommon_72 : decode cX7_splitCommon 72 = .ok (.aload_n 0, 1) := by decide +kernel
theorem dX7_splitCommon_73 : decode cX7_splitCommon 73 = .ok (.getfield 12, 3) := by decide +kernel
theorem dX7_splitCommon_76 : decode cX7_splitCommon 76 = .ok (.iload 4, 2) := by decide +kernel
theorem dX7_splitCommon_78 : decode cX7_splitCommon 78 = .ok (.invokevirtual 71, 3) := by decide +kernel
theorem dX7_splitCommon_81 : decode cX7_splitCommon 81 = .ok (.pop, 1) := by decide +kernel
theorem dX7_splitCommon_82 : decode cX7_splitCommon 82 = .ok (.iinc 3 1, 3) := by decide +kernel
theorem dX7_splitCommon_85 : decode cX7_splitCommon 85 = .ok (.goto (-60), 3) := by decide +kernel
theorem dX7_splitCommon_88 : decode cX7_splitCommon 88 = .ok (.return_, 1) := by decide +kernel
theorem dX7_commonFront_0 : decode cX7_commonFront 0 = .ok (.iconst 0, 1) := by decide +kernel
theorem dX7_commonFront_1 : decode cX7_commonFront 1 = .ok (.istore_n 1, 1) := by decide +kernel
theorem dX7_commonFront_2 : decode cX7_commonFront 2 = .ok (.iload_n 1, 1) := by decide +kernel
theorem dX7_commonFront_3 : decode cX7_commonFront 3 = .ok (.aload_n 0, 1) := by decide +kernel
theorem dX7_commonFront_4 : decode cX7_commonFront 4 = .ok (.getfield 24, 3) := by decide +kernel
theorem dX7_commonFront_7 : decode cX7_commonFront 7 = .ok (.invokevirtual 75, 3) := by decide +kernel
theorem dX7_commonFront_10 : decode cX7_commonFront 10 = .ok (.invokevirtual 79, 3) := by decide +kernel
theorem dX7_commonFront_13 : decode cX7_commonFront 13 = .ok (.if_icmp .ge 41, 3) := by decide +kernel
theorem dX7_commonFront_16 : decode cX7_commonFront 16 = .ok (.aload_n 0, 1) := by decide +kernel
theorem dX7_commonFront_17 : decode cX7_commonFront 17 = .ok (.getfield 24, 3) := by decide +kernel
theorem dX7_commonFront_20 : decode cX7_commonFront 20 = .ok (.aload_n 0, 1) := by decide +kernel
theorem dX7_commonFront_21 : decode cX7_commonFront 21 = .ok (.getfield 18, 3) := by decide +kernel
theorem dX7_commonFront_24 : decode cX7_commonFront 24 = .ok (.iload_n 1, 1) := by decide +kernel
theorem dX7_commonFront_25 : decode cX7_commonFront 25 = .ok (.invokevirtual 84, 3) := by decide +kernel
theorem dX7_commonFront_28 : decode cX7_commonFront 28 = .ok (.ifCond .eq 20, 3) := by decide +kernel
theorem dX7_commonFront_31 : decode cX7_commonFront 31 = .ok (.aload_n 0, 1) := by decide +kernel
theorem dX7_commonFront_32 : decode cX7_commonFront 32 = .ok (.getfield 24, 3) := by decide +kernel
theorem dX7_commonFront_35 : decode cX7_commonFront 35 = .ok (.aload_n 0, 1) := by decide +kernel
theorem dX7_commonFront_36 : decode cX7_commonFront 36 = .ok (.getfield 21, 3) := by decide +kernel
theorem dX7_commonFront_39 : decode cX7_commonFront 39 = .ok (.iload_n 1, 1) := by decide +kernel
theorem dX7_commonFront_40 : decode cX7_commonFront 40 = .ok (.invokevirtual 84, 3) := by decide +kernel
theorem dX7_commonFront_43 : decode cX7_commonFront 43 = .ok (.ifCond .eq 5, 3) := by decide +kernel
theorem dX7_commonFront_46 : decode cX7_commonFront 46 = .ok (.iload_n 1, 1) := by decide +kernel
theorem dX7_commonFront_47 : decode cX7_commonFront 47 = .ok (.ireturn, 1) := by decide +kernel
theorem dX7_commonFront_48 : decode cX7_commonFront 48 = .ok (.iinc 1 1, 3) := by decide +kernel
theorem dX7_commonFront_51 : decode cX7_commonFront 51 = .ok (.goto (-49), 3) := by decide +kernel
theorem dX7_commonFront_54 : decode cX7_commonFront 54 = .ok (.iconst (-1), 1) := by decide +kernel
theorem dX7_commonFront_55 : decode cX7_commonFront 55 = .ok (.ireturn, 1) := by decide +kernel
theorem dX7_isAllFree_0 : decode cX7_isAllFree 0 = .ok (.aload_n 2, 1) := by decide +kernel
theorem dX7_isAllFree_1 : decode cX7_isAllFree 1 = .ok (.invokevirtual 87, 3) := by decide +kernel
theorem dX7_isAllFree_4 : decode cX7_isAllFree 4 = .ok (.istore_n 3, 1) := by decide +kernel
theorem dX7_isAllFree_5 : decode cX7_isAllFree 5 = .ok (.iconst 0, 1) := by decide +kernel
theorem dX7_isAllFree_6 : decode cX7_isAllFree 6 = .ok (.istore 4, 2) := by decide +kernel
theorem dX7_isAllFree_8 : decode cX7_isAllFree 8 = .ok (.iload 4, 2) := by decide +kernel
theorem dX7_isAllFree_10 : decode cX7_isAllFree 10 = .ok (.aload_n 1, 1) := by decide +kernel
theorem dX7_isAllFree_11 : decode cX7_isAllFree 11 = .ok (.invokevirtual 40, 3) := by decide +kernel
theorem dX7_isAllFree_14 : decode cX7_isAllFree 14 = .ok (.if_icmp .ge 32, 3) := by decide +kernel
theorem dX7_isAllFree_17 : decode cX7_isAllFree 17 = .ok (.aload_n 0, 1) := by decide +kernel
theorem dX7_isAllFree_18 : decode cX7_isAllFree 18 = .ok (.getfield 24, 3) := by decide +kernel
theorem dX7_isAllFree_21 : decode cX7_isAllFree 21 = .ok (.invokevirtual 75, 3) := by decide +kernel
theorem dX7_isAllFree_24 : decode cX7_isAllFree 24 = .ok (.aload_n 1, 1) := by decide +kernel
theorem dX7_isAllFree_25 : decode cX7_isAllFree 25 = .ok (.iload 4, 2) := by decide +kernel
theorem dX7_isAllFree_27 : decode cX7_isAllFree 27 = .ok (.invokevirtual 44, 3) := by decide +kernel
theorem dX7_isAllFree_30 : decode cX7_isAllFree 30 = .ok (.invokevirtual 90, 3) := by decide +kernel
theorem dX7_isAllFree_33 : decode cX7_isAllFree 33 = .ok (.iload_n 3, 1) := by decide +kernel
theorem dX7_isAllFree_34 : decode cX7_isAllFree 34 = .ok (.iand, 1) := by decide +kernel
theorem dX7_isAllFree_35 : decode cX7_isAllFree 35 = .ok (.ifCond .eq 5, 3) := by decide +kernel
theorem dX7_isAllFree_38 : decode cX7_isAllFree 38 = .ok (.iconst 0, 1) := by decide +kernel
theorem dX7_isAllFree_39 : decode cX7_isAllFree 39 = .ok (.ireturn, 1) := by decide +kernel
theorem dX7_isAllFree_40 : decode cX7_isAllFree 40 = .ok (.iinc 4 1, 3) := by decide +kernel
theorem dX7_isAllFree_43 : decode cX7_isAllFree 43 = .ok (.goto (-35), 3) := by decide +kernel
theorem dX7_isAllFree_46 : decode cX7_isAllFree 46 = .ok (.iconst 1, 1) := by decide +kernel
theorem dX7_isAllFree_47 : decode cX7_isAllFree 47 = .ok (.ireturn, 1) := by decide +kernel
theorem dX8_init_0 : decode cX8_init 0 = .ok (.aload_n 0, 1) := by decide +kernel
theorem dX8_init_1 : decode cX8_init 1 = .ok (.invokespecial 3, 3) := by decide +kernel
theorem dX8_init_4 : decode cX8_init 4 = .ok (.aload_n 0, 1) := by decide +kernel
theorem dX8_init_5 : decode cX8_init 5 = .ok (.iconst 5, 1) := by decide +kernel
theorem dX8_init_6 : decode cX8_init 6 = .ok (.bipush 6, 2) := by decide +kernel
theorem dX8_init_8 : decode cX8_init 8 = .ok (.multianewarray 9 2, 4) := by decide +kernel
theorem dX8_init_12 : decode cX8_init 12 = .ok (.putfield 11, 3) := by decide +kernel
theorem dX8_init_15 : decode cX8_init 15 = .ok (.aload_n 0, 1) := by decide +kernel
theorem dX8_init_16 : decode cX8_init 16 = .ok (.sipush 320, 3) := by decide +kernel
theorem dX8_init_19 : decode cX8_init 19 = .ok (.newarray .int, 2) := by decide +kernel
theorem dX8_init_21 : decode cX8_init 21 = .ok (.putfield 16, 3) := by decide +kernel
theorem dX8_init_24 : decode cX8_init 24 = .ok (.aload_n 0, 1) := by decide +kernel
theorem dX8_init_25 : decode cX8_init 25 = .ok (.sipush 320, 3) := by decide +kernel
theorem dX8_init_28 : decode cX8_init 28 = .ok (.newarray .int, 2) := by decide +kernel
theorem dX8_init_30 : decode cX8_init 30 = .ok (.putfield 20, 3) := by decide +kernel
theorem dX8_init_33 : decode cX8_init 33 = .ok (.aload_n 0, 1) := by decide +kernel
theorem dX8_init_34 : decode cX8_init 34 = .ok (.iconst 1, 1) := by decide +kernel
theorem dX8_init_35 : decode cX8_init 35 = .ok (.putfield 23, 3) := by decide +kernel
theorem dX8_init_38 : decode cX8_init 38 = .ok (.aload_n 0, 1) := by decide +kernel
theorem dX8_init_39 : decode cX8_init 39 = .ok (.iconst 0, 1) := by decide +kernel
theorem dX8_init_40 : decode cX8_init 40 = .ok (.putfield 27, 3) := by decide +kernel
theorem dX8_init_43 : decode cX8_init 43 = .ok (.aload_n 0, 1) := by decide +kernel
theorem dX8_init_44 : decode cX8_init 44 = .ok (.aload_n 1, 1) := by decide +kernel
theorem dX8_init_45 : decode cX8_init 45 = .ok (.putfield 30, 3) := by decide +kernel
theorem dX8_init_48 : decode cX8_init 48 = .ok (.aload_n 0, 1) := by decide +kernel
theorem dX8_init_49 : decode cX8_init 49 = .ok (.aload_n 2, 1) := by decide +kernel
theorem dX8_init_50 : decode cX8_init 50 = .ok (.putfield 34, 3) := by decide +kernel
theorem dX8_init_53 : decode cX8_init 53 = .ok (.return_, 1) := by decide +kernel
theorem dX8_restart_0 : decode cX8_restart 0 = .ok (.aload_n 0, 1) := by decide +kernel
theorem dX8_restart_1 : decode cX8_restart 1 = .ok (.iload_n 1, 1) := by decide +kernel
theorem dX8_restart_2 : decode cX8_restart 2 = .ok (.putfield 23, 3) := by decide +kernel
theorem dX8_restart_5 : decode cX8_restart 5 = .ok (.aload_n 0, 1) := by decide +kernel
theorem dX8_restart_6 : decode cX8_restart 6 = .ok (.iload_n 2, 1) := by decide +kernel
theorem dX8_restart_7 : decode cX8_restart 7 = .ok (.putfield 27, 3) := by decide +kernel
theorem dX8_restart_10 : decode cX8_restart 10 = .ok (.iconst 0, 1) := by decide +kernel
theorem dX8_restart_11 : decode cX8_restart 11 = .ok (.istore_n 3, 1) := by decide +kernel
theorem dX8_restart_12 : decode cX8_restart 12 = .ok (.iload_n 3, 1) := by decide +kernel
theorem dX8_restart_13 : decode cX8_restart 13 = .ok (.aload_n 0, 1) := by decide +kernel
theorem dX8_restart_14 : decode cX8_restart 14 = .ok (.getfield 11, 3) := by decide +kernel
theorem dX8_restart_17 : decode cX8_restart 17 = .ok (.arraylength, 1) := by decide +kernel
theorem dX8_restart_18 : decode cX8_restart 18 = .ok (.if_icmp .ge 19, 3) := by decide +kernel
theorem dX8_restart_21 : decode cX8_restart 21 = .ok (.aload_n 0, 1) := by decide +kernel
theorem dX8_restart_22 : decode cX8_restart 22 = .ok (.getfield 11, 3) := by decide +kernel
theorem dX8_restart_25 : decode cX8_restart 25 = .ok (.iload_n 3, 1) := by decide +kernel
theorem dX8_restart_26 : decode cX8_restart 26 = .ok (.aaload, 1) := by decide +kernel
theorem dX8_restart_27 : decode cX8_restart 27 = .ok (.iload_n 3, 1) := by decide +kernel
theorem dX8_restart_28 : decode cX8_restart 28 = .ok (.invokestatic 38, 3) := by decide +kernel
theorem dX8_restart_31 : decode cX8_restart 31 = .ok (.iinc 3 1, 3) := by decide +kernel
theorem dX8_restart_34 : decode cX8_restart 34 = .ok (.goto (-22), 3) := by decide +kernel
theorem dX8_restart_37 : decode cX8_restart 37 = .ok (.return_, 1) := by decide +kernel
theorem dX8_has_0 : decode cX8_has 0 = .ok (.iload_n 1, 1) := by decide +kernel
theorem dX8_has_1 : decode cX8_has 1 = .ok (.ifCond .lt 15, 3) := by decide +kernel
theorem dX8_has_4 : decode cX8_has 4 = .ok (.iload_n 1, 1) := by decide +kernel
theorem dX8_has_5 : decode cX8_has 5 = .ok (.aload_n 0, 1) := by decide +kernel
theorem dX8_has_6 : decode cX8_has 6 = .ok (.getfield 23, 3) := by decide +kernel
theorem dX8_has_9 : decode cX8_has 9 = .ok (.if_icmp .ge 7, 3) := by decide +kernel
theorem dX8_has_12 : decode cX8_has 12 = .ok (.iconst 1, 1) := by decide +kernel
theorem dX8_has_13 : decode cX8_has 13 = .ok (.goto 4, 3) := by decide +kernel
theorem dX8_has_16 : decode cX8_has 16 = .ok (.iconst 0, 1) := by decide +kernel
theorem dX8_has_17 : decode cX8_has 17 = .ok (.ireturn, 1) := by decide +kernel
theorem dX8_takes_0 : decode cX8_takes 0 = .ok (.aload_n 0, 1) := by decide +kernel
theorem dX8_takes_1 : decode cX8_takes 1 = .ok (.iload_n 1, 1) := by decide +kernel
theorem dX8_takes_2 : decode cX8_takes 2 = .ok (.invokevirtual 44, 3) := by decide +kernel
theorem dX8_takes_5 : decode cX8_takes 5 = .ok (.ifCond .eq 19, 3) := by decide +kernel
theorem dX8_takes_8 : decode cX8_takes 8 = .ok (.aload_n 0, 1) := by decide +kernel
theorem dX8_takes_9 : decode cX8_takes 9 = .ok (.getfield 27, 3) := by decide +kernel
theorem dX8_takes_12 : decode cX8_takes 12 = .ok (.iload_n 1, 1) := by decide +kernel
theorem dX8_takes_13 : decode cX8_takes 13 = .ok (.ishr, 1) := by decide +kernel
theorem dX8_takes_14 : decode cX8_takes 14 = .ok (.iconst 1, 1) := by decide +kernel
theorem dX8_takes_15 : decode cX8_takes 15 = .ok (.iand, 1) := by decide +kernel
theorem dX8_takes_16 : decode cX8_takes 16 = .ok (.iconst 1, 1) := by decide +kernel
theorem dX8_takes_17 : decode cX8_takes 17 = .ok (.if_icmp .ne 7, 3) := by decide +kernel
theorem dX8_takes_20 : decode cX8_takes 20 = .ok (.iconst 1, 1) := by decide +kernel
theorem dX8_takes_21 : decode cX8_takes 21 = .ok (.goto 4, 3) := by decide +kernel
theorem dX8_takes_24 : decode cX8_takes 24 = .ok (.iconst 0, 1) := by decide +kernel
theorem dX8_takes_25 : decode cX8_takes 25 = .ok (.ireturn, 1) := by decide +kernel
theorem dX8_next_0 : decode cX8_next 0 = .ok (.iload_n 1, 1) := by decide +kernel
theorem dX8_next_1 : decode cX8_next 1 = .ok (.ifCond .lt 12, 3) := by decide +kernel
theorem dX8_next_4 : decode cX8_next 4 = .ok (.iload_n 1, 1) := by decide +kernel
theorem dX8_next_5 : decode cX8_next 5 = .ok (.aload_n 0, 1) := by decide +kernel
theorem dX8_next_6 : decode cX8_next 6 = .ok (.getfield 11, 3) := by decide +kernel
theorem dX8_next_9 : decode cX8_next 9 = .ok (.arraylength, 1) := by decide +kernel
theorem dX8_next_10 : decode cX8_next 10 = .ok (.if_icmp .lt 5, 3) := by decide +kernel
theorem dX8_next_13 : decode cX8_next 13 = .ok (.iconst 0, 1) := by decide +kernel
theorem dX8_next_14 : decode cX8_next 14 = .ok (.ireturn, 1) := by decide +kernel
theorem dX8_next_15 : decode cX8_next 15 = .ok (.aload_n 0, 1) := by decide +kernel
theorem dX8_next_16 : decode cX8_next 16 = .ok (.getfield 11, 3) := by decide +kernel
theorem dX8_next_19 : decode cX8_next 19 = .ok (.iload_n 1, 1) := by decide +kernel
theorem dX8_next_20 : decode cX8_next 20 = .ok (.aaload, 1) := by decide +kernel
theorem dX8_next_21 : decode cX8_next 21 = .ok (.astore_n 3, 1) := by decide +kernel
theorem dX8_next_22 : decode cX8_next 22 = .ok (.iload_n 2, 1) := by decide +kernel
theorem dX8_next_23 : decode cX8_next 23 = .ok (.ifCond .lt 15, 3) := by decide +kernel
theorem dX8_next_26 : decode cX8_next 26 = .ok (.iload_n 2, 1) := by decide +kernel
theorem dX8_next_27 : decode cX8_next 27 = .ok (.aload_n 3, 1) := by decide +kernel
theorem dX8_next_28 : decode cX8_next 28 = .ok (.arraylength, 1) := by decide +kernel
theorem dX8_next_29 : decode cX8_next 29 = .ok (.if_icmp .ge 9, 3) := by decide +kernel
theorem dX8_next_32 : decode cX8_next 32 = .ok (.aload_n 3, 1) := by decide +kernel
theorem dX8_next_33 : decode cX8_next 33 = .ok (.iload_n 2, 1) := by decide +kernel
theorem dX8_next_34 : decode cX8_next 34 = .ok (.iaload, 1) := by decide +kernel
theorem dX8_next_35 : decode cX8_next 35 = .ok (.goto 4, 3) := by decide +kernel
theorem dX8_next_38 : decode cX8_next 38 = .ok (.iconst 0, 1) := by decide +kernel
theorem dX8_next_39 : decode cX8_next 39 = .ok (.ireturn, 1) := by decide +kernel
theorem dX8_setMove_0 : decode cX8_setMove 0 = .ok (.iload_n 1, 1) := by decide +kernel
theorem dX8_setMove_1 : decode cX8_setMove 1 = .ok (.ifCond .lt 12, 3) := by decide +kernel
theorem dX8_setMove_4 : decode cX8_setMove 4 = .ok (.iload_n 1, 1) := by decide +kernel
theorem dX8_setMove_5 : decode cX8_setMove 5 = .ok (.aload_n 0, 1) := by decide +kernel
theorem dX8_setMove_6 : decode cX8_setMove 6 = .ok (.getfield 11, 3) := by decide +kernel
theorem dX8_setMove_9 : decode cX8_setMove 9 = .ok (.arraylength, 1) := by decide +kernel
theorem dX8_setMove_10 : decode cX8_setMove 10 = .ok (.if_icmp .lt 4, 3) := by decide +kernel
theorem dX8_setMove_13 : decode cX8_setMove 13 = .ok (.return_, 1) := by decide +kernel
theorem dX8_setMove_14 : decode cX8_setMove 14 = .ok (.aload_n 0, 1) := by decide +kernel
theorem dX8_setMove_15 : decode cX8_setMove 15 = .ok (.getfield 11, 3) := by decide +kernel
theorem dX8_setMove_18 : decode cX8_setMove 18 = .ok (.iload_n 1, 1) := by decide +kernel
theorem dX8_setMove_19 : decode cX8_setMove 19 = .ok (.aaload, 1) := by decide +kernel
theorem dX8_setMove_20 : decode cX8_setMove 20 = .ok (.astore 4, 2) := by decide +kernel
theorem dX8_setMove_22 : decode cX8_setMove 22 = .ok (.iload_n 2, 1) := by decide +kernel
theorem dX8_setMove_23 : decode cX8_setMove 23 = .ok (.ifCond .lt 15, 3) := by decide +kernel
theorem dX8_setMove_26 : decode cX8_setMove 26 = .ok (.iload_n 2, 1) := by decide +kernel
theorem dX8_setMove_27 : decode cX8_setMove 27 = .ok (.aload 4, 2) := by decide +kernel
theorem dX8_setMove_29 : decode cX8_setMove 29 = .ok (.arraylength, 1) := by decide +kernel
theorem dX8_setMove_30 : decode cX8_setMove 30 = .ok (.if_icmp .ge 8, 3) := by decide +kernel
theorem dX8_setMove_33 : decode cX8_setMove 33 = .ok (.aload 4, 2) := by decide +kernel
theorem dX8_setMove_35 : decode cX8_setMove 35 = .ok (.iload_n 2, 1) := by decide +kernel
theorem dX8_setMove_36 : decode cX8_setMove 36 = .ok (.iload_n 3, 1) := by decide +kernel
theorem dX8_setMove_37 : decode cX8_setMove 37 = .ok (.iastore, 1) := by decide +kernel
theorem dX8_setMove_38 : decode cX8_setMove 38 = .ok (.return_, 1) := by decide +kernel
theorem dX8_firstMinded_0 : decode cX8_firstMinded 0 = .ok (.iconst 0, 1) := by decide +kernel
theorem dX8_firstMinded_1 : decode cX8_firstMinded 1 = .ok (.istore_n 1, 1) := by decide +kernel
theorem dX8_firstMinded_2 : decode cX8_firstMinded 2 = .ok (.iload_n 1, 1) := by decide +kernel
theorem dX8_firstMinded_3 : decode cX8_firstMinded 3 = .ok (.aload_n 0, 1) := by decide +kernel
theorem dX8_firstMinded_4 : decode cX8_firstMinded 4 = .ok (.getfield 23, 3) := by decide +kernel
theorem dX8_firstMinded_7 : decode cX8_firstMinded 7 = .ok (.if_icmp .ge 83, 3) := by decide +kernel
theorem dX8_firstMinded_10 : decode cX8_firstMinded 10 = .ok (.iconst 0, 1) := by decide +kernel
theorem dX8_firstMinded_11 : decode cX8_firstMinded 11 = .ok (.istore_n 2, 1) := by decide +kernel
theorem dX8_firstMinded_12 : decode cX8_firstMinded 12 = .ok (.iload_n 2, 1) := by decide +kernel
theorem dX8_firstMinded_13 : decode cX8_firstMinded 13 = .ok (.aload_n 0, 1) := by decide +kernel
theorem dX8_firstMinded_14 : decode cX8_firstMinded 14 = .ok (.getfield 30, 3) := by decide +kernel
theorem dX8_firstMinded_17 : decode cX8_firstMinded 17 = .ok (.invokevirtual 48, 3) := by decide +kernel
theorem dX8_firstMinded_20 : decode cX8_firstMinded 20 = .ok (.if_icmp .ge 64, 3) := by decide +kernel
theorem dX8_firstMinded_23 : decode cX8_firstMinded 23 = .ok (.iload_n 2, 1) := by decide +kernel
theorem dX8_firstMinded_24 : decode cX8_firstMinded 24 = .ok (.iconst 1, 1) := by decide +kernel
theorem dX8_firstMinded_25 : decode cX8_firstMinded 25 = .ok (.iadd, 1) := by decide +kernel
theorem dX8_firstMinded_26 : decode cX8_firstMinded 26 = .ok (.istore_n 3, 1) := by decide +kernel
theorem dX8_firstMinded_27 : decode cX8_firstMinded 27 = .ok (.iload_n 3, 1) := by decide +kernel
theorem dX8_firstMinded_28 : decode cX8_firstMinded 28 = .ok (.aload_n 0, 1) := by decide +kernel
theorem dX8_firstMinded_29 : decode cX8_firstMinded 29 = .ok (.getfield 30, 3) := by decide +kernel
theorem dX8_firstMinded_32 : decode cX8_firstMinded 32 = .ok (.invokevirtual 48, 3) := by decide +kernel
theorem dX8_firstMinded_35 : decode cX8_firstMinded 35 = .ok (.if_icmp .ge 43, 3) := by decide +kernel
theorem dX8_firstMinded_38 : decode cX8_firstMinded 38 = .ok (.aload_n 0, 1) := by decide +kernel
theorem dX8_firstMinded_39 : decode cX8_firstMinded 39 = .ok (.getfield 30, 3) := by decide +kernel
theorem dX8_firstMinded_42 : decode cX8_firstMinded 42 = .ok (.iload_n 2, 1) := by decide +kernel
theorem dX8_firstMinded_43 : decode cX8_firstMinded 43 = .ok (.iload_n 3, 1) := by decide +kernel
theorem dX8_firstMinded_44 : decode cX8_firstMinded 44 = .ok (.invokevirtual 54, 3) := by decide +kernel
theorem dX8_firstMinded_47 : decode cX8_firstMinded 47 = .ok (.ifCond .eq 25, 3) := by decide +kernel
theorem dX8_firstMinded_50 : decode cX8_firstMinded 50 = .ok (.aload_n 0, 1) := by decide +kernel
theorem dX8_firstMinded_51 : decode cX8_firstMinded 51 = .ok (.iload_n 1, 1) := by decide +kernel
theorem dX8_firstMinded_52 : decode cX8_firstMinded 52 = .ok (.iload_n 2, 1) := by decide +kernel
theorem dX8_firstMinded_53 : decode cX8_firstMinded 53 = .ok (.iload_n 3, 1) := by decide +kernel
theorem dX8_firstMinded_54 : decode cX8_firstMinded 54 = .ok (.invokevirtual 58, 3) := by decide +kernel
theorem dX8_firstMinded_57 : decode cX8_firstMinded 57 = .ok (.ifCond .eq 15, 3) := by decide +kernel
theorem dX8_firstMinded_60 : decode cX8_firstMinded 60 = .ok (.bipush 64, 2) := by decide +kernel
theorem dX8_firstMinded_62 : decode cX8_firstMinded 62 = .ok (.iload_n 1, 1) := by decide +kernel
theorem dX8_firstMinded_63 : decode cX8_firstMinded 63 = .ok (.imul, 1) := by decide +kernel
theorem dX8_firstMinded_64 : decode cX8_firstMinded 64 = .ok (.bipush 8, 2) := by decide +kernel
theorem dX8_firstMinded_66 : decode cX8_firstMinded 66 = .ok (.iload_n 2, 1) := by decide +kernel
theorem dX8_firstMinded_67 : decode cX8_firstMinded 67 = .ok (.imul, 1) := by decide +kernel
theorem dX8_firstMinded_68 : decode cX8_firstMinded 68 = .ok (.iadd, 1) := by decide +kernel
theorem dX8_firstMinded_69 : decode cX8_firstMinded 69 = .ok (.iload_n 3, 1) := by decide +kernel
theorem dX8_firstMinded_70 : decode cX8_firstMinded 70 = .ok (.iadd, 1) := by decide +kernel
theorem dX8_firstMinded_71 : decode cX8_firstMinded 71 = .ok (.ireturn, 1) := by decide +kernel
theorem dX8_firstMinded_72 : decode cX8_firstMinded 72 = .ok (.iinc 3 1, 3) := by decide +kernel
theorem dX8_firstMinded_75 : decode cX8_firstMinded 75 = .ok (.goto (-48), 3) := by decide +kernel
theorem dX8_firstMinded_78 : decode cX8_firstMinded 78 = .ok (.iinc 2 1, 3) := by decide +kernel
theorem dX8_firstMinded_81 : decode cX8_firstMinded 81 = .ok (.goto (-69), 3) := by decide +kernel
theorem dX8_firstMinded_84 : decode cX8_firstMinded 84 = .ok (.iinc 1 1, 3) := by decide +kernel
theorem dX8_firstMinded_87 : decode cX8_firstMinded 87 = .ok (.goto (-85), 3) := by decide +kernel
theorem dX8_firstMinded_90 : decode cX8_firstMinded 90 = .ok (.iconst (-1), 1) := by decide +kernel
theorem dX8_firstMinded_91 : decode cX8_firstMinded 91 = .ok (.ireturn, 1) := by decide +kernel
theorem dX8_mindsPair_0 : decode cX8_mindsPair 0 = .ok (.aload_n 0, 1) := by decide +kernel
theorem dX8_mindsPair_1 : decode cX8_mindsPair 1 = .ok (.aload_n 0, 1) := by decide +kernel
theorem dX8_mindsPair_2 : decode cX8_mindsPair 2 = .ok (.iload_n 1, 1) := by decide +kernel
theorem dX8_mindsPair_3 : decode cX8_mindsPair 3 = .ok (.iload_n 2, 1) := by decide +kernel
theorem dX8_mindsPair_4 : decode cX8_mindsPair 4 = .ok (.invokevirtual 62, 3) := by decide +kernel
theorem dX8_mindsPair_7 : decode cX8_mindsPair 7 = .ok (.iload_n 3, 1) := by decide +kernel
theorem dX8_mindsPair_8 : decode cX8_mindsPair 8 = .ok (.invokevirtual 62, 3) := by decide +kernel
theorem dX8_mindsPair_11 : decode cX8_mindsPair 11 = .ok (.aload_n 0, 1) := by decide +kernel
theorem dX8_mindsPair_12 : decode cX8_mindsPair 12 = .ok (.aload_n 0, 1) := by decide +kernel
theorem dX8_mindsPair_13 : decode cX8_mindsPair 13 = .ok (.iload_n 1, 1) := by decide +kernel
theorem dX8_mindsPair_14 : decode cX8_mindsPair 14 = .ok (.iload_n 3, 1) := by decide +kernel
theorem dX8_mindsPair_15 : decode cX8_mindsPair 15 = .ok (.invokevirtual 62, 3) := by decide +kernel
theorem dX8_mindsPair_18 : decode cX8_mindsPair 18 = .ok (.iload_n 2, 1) := by decide +kernel
theorem dX8_mindsPair_19 : decode cX8_mindsPair 19 = .ok (.invokevirtual 62, 3) := by decide +kernel
theorem dX8_mindsPair_22 : decode cX8_mindsPair 22 = .ok (.if_icmp .eq 7, 3) := by decide +kernel
theorem dX8_mindsPair_25 : decode cX8_mindsPair 25 = .ok (.iconst 1, 1) := by decide +kernel
theorem dX8_mindsPair_26 : decode cX8_mindsPair 26 = .ok (.goto 4, 3) := by decide +kernel
theorem dX8_mindsPair_29 : decode cX8_mindsPair 29 = .ok (.iconst 0, 1) := by decide +kernel
theorem dX8_mindsPair_30 : decode cX8_mindsPair 30 = .ok (.ireturn, 1) := by decide +kernel
theorem dX8_stateBehind_0 : decode cX8_stateBehind 0 = .ok (.iconst 0, 1) := by decide +kernel
theorem dX8_stateBehind_1 : decode cX8_stateBehind 1 = .ok (.istore_n 2, 1) := by decide +kernel
theorem dX8_stateBehind_2 : decode cX8_stateBehind 2 = .ok (.iconst 0, 1) := by decide +kernel
theorem dX8_stateBehind_3 : decode cX8_stateBehind 3 = .ok (.istore_n 3, 1) := by decide +kernel
theorem dX8_stateBehind_4 : decode cX8_stateBehind 4 = .ok (.iload_n 3, 1) := by decide +kernel
theorem dX8_stateBehind_5 : decode cX8_stateBehind 5 = .ok (.aload_n 1, 1) := by decide +kernel
theorem dX8_stateBehind_6 : decode cX8_stateBehind 6 = .ok (.invokevirtual 66, 3) := by decide +kernel
theorem dX8_stateBehind_9 : decode cX8_stateBehind 9 = .ok (.if_icmp .ge 20, 3) := by decide +kernel
theorem dX8_stateBehind_12 : decode cX8_stateBehind 12 = .ok (.aload_n 0, 1) := by decide +kernel
theorem dX8_stateBehind_13 : decode cX8_stateBehind 13 = .ok (.iload_n 2, 1) := by decide +kernel
theorem dX8_stateBehind_14 : decode cX8_stateBehind 14 = .ok (.aload_n 1, 1) := by decide +kernel
theorem dX8_stateBehind_15 : decode cX8_stateBehind 15 = .ok (.iload_n 3, 1) := by decide +kernel
theorem dX8_stateBehind_16 : decode cX8_stateBehind 16 = .ok (.invokevirtual 71, 3) := by decide +kernel
theorem dX8_stateBehind_19 : decode cX8_stateBehind 19 = .ok (.invokevirtual 62, 3) := by decide +kernel
theorem dX8_stateBehind_22 : decode cX8_stateBehind 22 = .ok (.istore_n 2, 1) := by decide +kernel
theorem dX8_stateBehind_23 : decode cX8_stateBehind 23 = .ok (.iinc 3 1, 3) := by decide +kernel
theorem dX8_stateBehind_26 : decode cX8_stateBehind 26 = .ok (.goto (-22), 3) := by decide +kernel
theorem dX8_stateBehind_29 : decode cX8_stateBehind 29 = .ok (.iload_n 2, 1) := by decide +kernel
theorem dX8_stateBehind_30 : decode cX8_stateBehind 30 = .ok (.ireturn, 1) := by decide +kernel
theorem dX8_heapsTaken_0 : decode cX8_heapsTaken 0 = .ok (.aload_n 0, 1) := by decide +kernel
theorem dX8_heapsTaken_1 : decode cX8_heapsTaken 1 = .ok (.getfield 30, 3) := by decide +kernel
theorem dX8_heapsTaken_4 : decode cX8_heapsTaken 4 = .ok (.invokevirtual 75, 3) := by decide +kernel
theorem dX8_heapsTaken_7 : decode cX8_heapsTaken 7 = .ok (.istore_n 2, 1) := by decide +kernel
theorem dX8_heapsTaken_8 : decode cX8_heapsTaken 8 = .ok (.aload_n 0, 1) := by decide +kernel
theorem dX8_heapsTaken_9 : decode cX8_heapsTaken 9 = .ok (.getfield 16, 3) := by decide +kernel
theorem dX8_heapsTaken_12 : decode cX8_heapsTaken 12 = .ok (.iconst 0, 1) := by decide +kernel
theorem dX8_heapsTaken_13 : decode cX8_heapsTaken 13 = .ok (.invokestatic 38, 3) := by decide +kernel
theorem dX8_heapsTaken_16 : decode cX8_heapsTaken 16 = .ok (.aload_n 0, 1) := by decide +kernel
theorem dX8_heapsTaken_17 : decode cX8_heapsTaken 17 = .ok (.getfield 16, 3) := by decide +kernel
theorem dX8_heapsTaken_20 : decode cX8_heapsTaken 20 = .ok (.iconst 0, 1) := by decide +kernel
theorem dX8_heapsTaken_21 : decode cX8_heapsTaken 21 = .ok (.iconst 1, 1) := by decide +kernel
theorem dX8_heapsTaken_22 : decode cX8_heapsTaken 22 = .ok (.iastore, 1) := by decide +kernel
theorem dX8_heapsTaken_23 : decode cX8_heapsTaken 23 = .ok (.iconst 0, 1) := by decide +kernel
theorem dX8_heapsTaken_24 : decode cX8_heapsTaken 24 = .ok (.istore_n 3, 1) := by decide +kernel
theorem dX8_heapsTaken_25 : decode cX8_heapsTaken 25 = .ok (.iload_n 3, 1) := by decide +kernel
theorem dX8_heapsTaken_26 : decode cX8_heapsTaken 26 = .ok (.iload_n 1, 1) := by decide +kernel
theorem dX8_heapsTaken_27 : decode cX8_heapsTaken 27 = .ok (.if_icmp .ge 78, 3) := by decide +kernel
theorem dX8_heapsTaken_30 : decode cX8_heapsTaken 30 = .ok (.aload_n 0, 1) := by decide +kernel
theorem dX8_heapsTaken_31 : decode cX8_heapsTaken 31 = .ok (.getfield 20, 3) := by decide +kernel
theorem dX8_heapsTaken_34 : decode cX8_heapsTaken 34 = .ok (.iconst 0, 1) := by decide +kernel
theorem dX8_heapsTaken_35 : decode cX8_heapsTaken 35 = .ok (.invokestatic 38, 3) := by decide +kernel
theorem dX8_heapsTaken_38 : decode cX8_heapsTaken 38 = .ok (.iconst 0, 1) := by decide +kernel
theorem dX8_heapsTaken_39 : decode cX8_heapsTaken 39 = .ok (.istore 4, 2) := by decide +kernel
theorem dX8_heapsTaken_41 : decode cX8_heapsTaken 41 = .ok (.iload 4, 2) := by decide +kernel
theorem dX8_heapsTaken_43 : decode cX8_heapsTaken 43 = .ok (.iload_n 2, 1) := by decide +kernel
theorem dX8_heapsTaken_44 : decode cX8_heapsTaken 44 = .ok (.if_icmp .gt 35, 3) := by decide +kernel
theorem dX8_heapsTaken_47 : decode cX8_heapsTaken 47 = .ok (.iconst 0, 1) := by decide +kernel
theorem dX8_heapsTaken_48 : decode cX8_heapsTaken 48 = .ok (.istore 5, 2) := by decide +kernel
theorem dX8_heapsTaken_50 : decode cX8_heapsTaken 50 = .ok (.iload 5, 2) := by decide +kernel
theorem dX8_heapsTaken_52 : decode cX8_heapsTaken 52 = .ok (.aload_n 0, 1) := by decide +kernel
theorem dX8_heapsTaken_53 : decode cX8_heapsTaken 53 = .ok (.getfield 23, 3) := by decide +kernel
theorem dX8_heapsTaken_56 : decode cX8_heapsTaken 56 = .ok (.if_icmp .ge 17, 3) := by decide +kernel
theorem dX8_heapsTaken_59 : decode cX8_heapsTaken 59 = .ok (.aload_n 0, 1) := by decide +kernel
theorem dX8_heapsTaken_60 : decode cX8_heapsTaken 60 = .ok (.iload 4, 2) := by decide +kernel
theorem dX8_heapsTaken_62 : decode cX8_heapsTaken 62 = .ok (.iload 5, 2) := by decide +kernel
theorem dX8_heapsTaken_64 : decode cX8_heapsTaken 64 = .ok (.invokevirtual 78, 3) := by decide +kernel
theorem dX8_heapsTaken_67 : decode cX8_heapsTaken 67 = .ok (.iinc 5 1, 3) := by decide +kernel
theorem dX8_heapsTaken_70 : decode cX8_heapsTaken 70 = .ok (.goto (-20), 3) := by decide +kernel
theorem dX8_heapsTaken_73 : decode cX8_heapsTaken 73 = .ok (.iinc 4 1, 3) := by decide +kernel
theorem dX8_heapsTaken_76 : decode cX8_heapsTaken 76 = .ok (.goto (-35), 3) := by decide +kernel
theorem dX8_heapsTaken_79 : decode cX8_heapsTaken 79 = .ok (.aload_n 0, 1) := by decide +kernel
theorem dX8_heapsTaken_80 : decode cX8_heapsTaken 80 = .ok (.getfield 16, 3) := by decide +kernel
theorem dX8_heapsTaken_83 : decode cX8_heapsTaken 83 = .ok (.astore 4, 2) := by decide +kernel
theorem dX8_heapsTaken_85 : decode cX8_heapsTaken 85 = .ok (.aload_n 0, 1) := by decide +kernel
theorem dX8_heapsTaken_86 : decode cX8_heapsTaken 86 = .ok (.aload_n 0, 1) := by decide +kernel
theorem dX8_heapsTaken_87 : decode cX8_heapsTaken 87 = .ok (.getfield 20, 3) := by decide +kernel
theorem dX8_heapsTaken_90 : decode cX8_heapsTaken 90 = .ok (.putfield 16, 3) := by decide +kernel
theorem dX8_heapsTaken_93 : decode cX8_heapsTaken 93 = .ok (.aload_n 0, 1) := by decide +kernel
theorem dX8_heapsTaken_94 : decode cX8_heapsTaken 94 = .ok (.aload 4, 2) := by decide +kernel
theorem dX8_heapsTaken_96 : decode cX8_heapsTaken 96 = .ok (.putfield 20, 3) := by decide +kernel
theorem dX8_heapsTaken_99 : decode cX8_heapsTaken 99 = .ok (.iinc 3 1, 3) := by decide +kernel
theorem dX8_heapsTaken_102 : decode cX8_heapsTaken 102 = .ok (.goto (-77), 3) := by decide +kernel
theorem dX8_heapsTaken_105 : decode cX8_heapsTaken 105 = .ok (.aload_n 0, 1) := by decide +kernel
theorem dX8_heapsTaken_106 : decode cX8_heapsTaken 106 = .ok (.invokevirtual 82, 3) := by decide +kernel
theorem dX8_heapsTaken_109 : decode cX8_heapsTaken 109 = .ok (.ireturn, 1) := by decide +kernel
theorem dX8_goOnFrom_0 : decode cX8_goOnFrom 0 = .ok (.iload_n 1, 1) := by decide +kernel
theorem dX8_goOnFrom_1 : decode cX8_goOnFrom 1 = .ok (.iconst 5, 1) := by decide +kernel
theorem dX8_goOnFrom_2 : decode cX8_goOnFrom 2 = .ok (.imul, 1) := by decide +kernel
theorem dX8_goOnFrom_3 : decode cX8_goOnFrom 3 = .ok (.iload_n 2, 1) := by decide +kernel
theorem dX8_goOnFrom_4 : decode cX8_goOnFrom 4 = .ok (.iadd, 1) := by decide +kernel
theorem dX8_goOnFrom_5 : decode cX8_goOnFrom 5 = .ok (.istore_n 3, 1) := by decide +kernel
theorem dX8_goOnFrom_6 : decode cX8_goOnFrom 6 = .ok (.iload_n 3, 1) := by decide +kernel
theorem dX8_goOnFrom_7 : decode cX8_goOnFrom 7 = .ok (.ifCond .lt 21, 3) := by decide +kernel
theorem dX8_goOnFrom_10 : decode cX8_goOnFrom 10 = .ok (.iload_n 3, 1) := by decide +kernel
theorem dX8_goOnFrom_11 : decode cX8_goOnFrom 11 = .ok (.aload_n 0, 1) := by decide +kernel
theorem dX8_goOnFrom_12 : decode cX8_goOnFrom 12 = .ok (.getfield 16, 3) := by decide +kernel
theorem dX8_goOnFrom_15 : decode cX8_goOnFrom 15 = .ok (.arraylength, 1) := by decide +kernel
theorem dX8_goOnFrom_16 : decode cX8_goOnFrom 16 = .ok (.if_icmp .ge 12, 3) := by decide +kernel
theorem dX8_goOnFrom_19 : decode cX8_goOnFrom 19 = .ok (.aload_n 0, 1) := by decide +kernel
theorem dX8_goOnFrom_20 : decode cX8_goOnFrom 20 = .ok (.getfield 16, 3) := by decide +kernel
theorem dX8_goOnFrom_23 : decode cX8_goOnFrom 23 = .ok (.iload_n 3, 1) := by decide +kernel
theorem dX8_goOnFrom_24 : decode cX8_goOnFrom 24 = .ok (.iaload, 1) := by decide +kernel
theorem dX8_goOnFrom_25 : decode cX8_goOnFrom 25 = .ok (.ifCond .ne 4, 3) := by decide +kernel
theorem dX8_goOnFrom_28 : decode cX8_goOnFrom 28 = .ok (.return_, 1) := by decide +kernel
theorem dX8_goOnFrom_29 : decode cX8_goOnFrom 29 = .ok (.iconst 0, 1) := by decide +kernel
theorem dX8_goOnFrom_30 : decode cX8_goOnFrom 30 = .ok (.istore 4, 2) := by decide +kernel
theorem dX8_goOnFrom_32 : decode cX8_goOnFrom 32 = .ok (.iload 4, 2) := by decide +kernel
theorem dX8_goOnFrom_34 : decode cX8_goOnFrom 34 = .ok (.aload_n 0, 1) := by decide +kernel
theorem dX8_goOnFrom_35 : decode cX8_goOnFrom 35 = .ok (.getfield 30, 3) := by decide +kernel
theorem dX8_goOnFrom_38 : decode cX8_goOnFrom 38 = .ok (.invokevirtual 48, 3) := by decide +kernel
theorem dX8_goOnFrom_41 : decode cX8_goOnFrom 41 = .ok (.if_icmp .ge 79, 3) := by decide +kernel
theorem dX8_goOnFrom_44 : decode cX8_goOnFrom 44 = .ok (.iload_n 1, 1) := by decide +kernel
theorem dX8_goOnFrom_45 : decode cX8_goOnFrom 45 = .ok (.iload 4, 2) := by decide +kernel
theorem dX8_goOnFrom_47 : decode cX8_goOnFrom 47 = .ok (.ishr, 1) := by decide +kernel
theorem dX8_goOnFrom_48 : decode cX8_goOnFrom 48 = .ok (.iconst 1, 1) := by decide +kernel
theorem dX8_goOnFrom_49 : decode cX8_goOnFrom 49 = .ok (.iand, 1) := by decide +kernel
theorem dX8_goOnFrom_50 : decode cX8_goOnFrom 50 = .ok (.ifCond .ne 64, 3) := by decide +kernel
theorem dX8_goOnFrom_53 : decode cX8_goOnFrom 53 = .ok (.aload_n 0, 1) := by decide +kernel
theorem dX8_goOnFrom_54 : decode cX8_goOnFrom 54 = .ok (.getfield 34, 3) := by decide +kernel
theorem dX8_goOnFrom_57 : decode cX8_goOnFrom 57 = .ok (.iload_n 1, 1) := by decide +kernel
theorem dX8_goOnFrom_58 : decode cX8_goOnFrom 58 = .ok (.iload 4, 2) := by decide +kernel
theorem dX8_goOnFrom_60 : decode cX8_goOnFrom 60 = .ok (.invokevirtual 85, 3) := by decide +kernel
theorem dX8_goOnFrom_63 : decode cX8_goOnFrom 63 = .ok (.iconst 5, 1) := by decide +kernel
theorem dX8_goOnFrom_64 : decode cX8_goOnFrom 64 = .ok (.imul, 1) := by decide +kernel
theorem dX8_goOnFrom_65 : decode cX8_goOnFrom 65 = .ok (.aload_n 0, 1) := by decide +kernel
theorem dX8_goOnFrom_66 : decode cX8_goOnFrom 66 = .ok (.iload_n 2, 1) := by decide +kernel
theorem dX8_goOnFrom_67 : decode cX8_goOnFrom 67 = .ok (.iload 4, 2) := by decide +kernel
theorem dX8_goOnFrom_69 : decode cX8_goOnFrom 69 = .ok (.invokevirtual 62, 3) := by decide +kernel
theorem dX8_goOnFrom_72 : decode cX8_goOnFrom 72 = .ok (.iadd, 1) := by decide +kernel
theorem dX8_goOnFrom_73 : decode cX8_goOnFrom 73 = .ok (.istore 5, 2) := by decide +kernel
theorem dX8_goOnFrom_75 : decode cX8_goOnFrom 75 = .ok (.iload 5, 2) := by decide +kernel
theorem dX8_goOnFrom_77 : decode cX8_goOnFrom 77 = .ok (.ifCond .lt 37, 3) := by decide +kernel
theorem dX8_goOnFrom_80 : decode cX8_goOnFrom 80 = .ok (.iload 5, 2) := by decide +kernel
theorem dX8_goOnFrom_82 : decode cX8_goOnFrom 82 = .ok (.aload_n 0, 1) := by decide +kernel
theorem dX8_goOnFrom_83 : decode cX8_goOnFrom 83 = .ok (.getfield 20, 3) := by decide +kernel
theorem dX8_goOnFrom_86 : decode cX8_goOnFrom 86 = .ok (.arraylength, 1) := by decide +kernel
theorem dX8_goOnFrom_87 : decode cX8_goOnFrom 87 = .ok (.if_icmp .ge 27, 3) := by decide +kernel
theorem dX8_goOnFrom_90 : decode cX8_goOnFrom 90 = .ok (.aload_n 0, 1) := by decide +kernel
theorem dX8_goOnFrom_91 : decode cX8_goOnFrom 91 = .ok (.getfield 20, 3) := by decide +kernel
theorem dX8_goOnFrom_94 : decode cX8_goOnFrom 94 = .ok (.iload 5, 2) := by decide +kernel
theorem dX8_goOnFrom_96 : decode cX8_goOnFrom 96 = .ok (.aload_n 0, 1) := by decide +kernel
theorem dX8_goOnFrom_97 : decode cX8_goOnFrom 97 = .ok (.getfield 20, 3) := by decide +kernel
theorem dX8_goOnFrom_100 : decode cX8_goOnFrom 100 = .ok (.iload 5, 2) := by decide +kernel
theorem dX8_goOnFrom_102 : decode cX8_goOnFrom 102 = .ok (.iaload, 1) := by decide +kernel
theorem dX8_goOnFrom_103 : decode cX8_goOnFrom 103 = .ok (.aload_n 0, 1) := by decide +kernel
theorem dX8_goOnFrom_104 : decode cX8_goOnFrom 104 = .ok (.getfield 16, 3) := by decide +kernel
theorem dX8_goOnFrom_107 : decode cX8_goOnFrom 107 = .ok (.iload_n 3, 1) := by decide +kernel
theorem dX8_goOnFrom_108 : decode cX8_goOnFrom 108 = .ok (.iaload, 1) := by decide +kernel
theorem dX8_goOnFrom_109 : decode cX8_goOnFrom 109 = .ok (.iadd, 1) := by decide +kernel
theorem dX8_goOnFrom_110 : decode cX8_goOnFrom 110 = .ok (.ldc 90, 2) := by decide +kernel
theorem dX8_goOnFrom_112 : decode cX8_goOnFrom 112 = .ok (.irem, 1) := by decide +kernel
theorem dX8_goOnFrom_113 : decode cX8_goOnFrom 113 = .ok (.iastore, 1) := by decide +kernel
theorem dX8_goOnFrom_114 : decode cX8_goOnFrom 114 = .ok (.iinc 4 1, 3) := by decide +kernel
theorem dX8_goOnFrom_117 : decode cX8_goOnFrom 117 = .ok (.goto (-85), 3) := by decide +kernel
theorem dX8_goOnFrom_120 : decode cX8_goOnFrom 120 = .ok (.return_, 1) := by decide +kernel
theorem dX8_sumTaken_0 : decode cX8_sumTaken 0 = .ok (.lconst 0, 1) := by decide +kernel
theorem dX8_sumTaken_1 : decode cX8_sumTaken 1 = .ok (.lstore_n 1, 1) := by decide +kernel
theorem dX8_sumTaken_2 : decode cX8_sumTaken 2 = .ok (.iconst 0, 1) := by decide +kernel
theorem dX8_sumTaken_3 : decode cX8_sumTaken 3 = .ok (.istore_n 3, 1) := by decide +kernel
theorem dX8_sumTaken_4 : decode cX8_sumTaken 4 = .ok (.iload_n 3, 1) := by decide +kernel
theorem dX8_sumTaken_5 : decode cX8_sumTaken 5 = .ok (.aload_n 0, 1) := by decide +kernel
theorem dX8_sumTaken_6 : decode cX8_sumTaken 6 = .ok (.getfield 16, 3) := by decide +kernel
theorem dX8_sumTaken_9 : decode cX8_sumTaken 9 = .ok (.arraylength, 1) := by decide +kernel
theorem dX8_sumTaken_10 : decode cX8_sumTaken 10 = .ok (.if_icmp .ge 29, 3) := by decide +kernel
theorem dX8_sumTaken_13 : decode cX8_sumTaken 13 = .ok (.aload_n 0, 1) := by decide +kernel
theorem dX8_sumTaken_14 : decode cX8_sumTaken 14 = .ok (.iload_n 3, 1) := by decide +kernel
theorem dX8_sumTaken_15 : decode cX8_sumTaken 15 = .ok (.iconst 5, 1) := by decide +kernel
theorem dX8_sumTaken_16 : decode cX8_sumTaken 16 = .ok (.irem, 1) := by decide +kernel
theorem dX8_sumTaken_17 : decode cX8_sumTaken 17 = .ok (.invokevirtual 91, 3) := by decide +kernel
theorem dX8_sumTaken_20 : decode cX8_sumTaken 20 = .ok (.ifCond .eq 13, 3) := by decide +kernel
theorem dX8_sumTaken_23 : decode cX8_sumTaken 23 = .ok (.lload_n 1, 1) := by decide +kernel
theorem dX8_sumTaken_24 : decode cX8_sumTaken 24 = .ok (.aload_n 0, 1) := by decide +kernel
theorem dX8_sumTaken_25 : decode cX8_sumTaken 25 = .ok (.getfield 16, 3) := by decide +kernel
theorem dX8_sumTaken_28 : decode cX8_sumTaken 28 = .ok (.iload_n 3, 1) := by decide +kernel
theorem dX8_sumTaken_29 : decode cX8_sumTaken 29 = .ok (.iaload, 1) := by decide +kernel
theorem dX8_sumTaken_30 : decode cX8_sumTaken 30 = .ok (.i2l, 1) := by decide +kernel
theorem dX8_sumTaken_31 : decode cX8_sumTaken 31 = .ok (.ladd, 1) := by decide +kernel
theorem dX8_sumTaken_32 : decode cX8_sumTaken 32 = .ok (.lstore_n 1, 1) := by decide +kernel
theorem dX8_sumTaken_33 : decode cX8_sumTaken 33 = .ok (.iinc 3 1, 3) := by decide +kernel
theorem dX8_sumTaken_36 : decode cX8_sumTaken 36 = .ok (.goto (-32), 3) := by decide +kernel
theorem dX8_sumTaken_39 : decode cX8_sumTaken 39 = .ok (.lload_n 1, 1) := by decide +kernel
theorem dX8_sumTaken_40 : decode cX8_sumTaken 40 = .ok (.ldc2_w 94, 3) := by decide +kernel
theorem dX8_sumTaken_43 : decode cX8_sumTaken 43 = .ok (.lrem, 1) := by decide +kernel
theorem dX8_sumTaken_44 : decode cX8_sumTaken 44 = .ok (.l2i, 1) := by decide +kernel
theorem dX8_sumTaken_45 : decode cX8_sumTaken 45 = .ok (.ireturn, 1) := by decide +kernel
theorem dX9_init_0 : decode cX9_init 0 = .ok (.aload_n 0, 1) := by decide +kernel
theorem dX9_init_1 : decode cX9_init 1 = .ok (.invokespecial 3, 3) := by decide +kernel
theorem dX9_init_4 : decode cX9_init 4 = .ok (.aload_n 0, 1) := by decide +kernel
theorem dX9_init_5 : decode cX9_init 5 = .ok (.bipush 24, 2) := by decide +kernel
theorem dX9_init_7 : decode cX9_init 7 = .ok (.newarray .int, 2) := by decide +kernel
theorem dX9_init_9 : decode cX9_init 9 = .ok (.putfield 9, 3) := by decide +kernel
theorem dX9_init_12 : decode cX9_init 12 = .ok (.aload_n 0, 1) := by decide +kernel
theorem dX9_init_13 : decode cX9_init 13 = .ok (.iconst 0, 1) := by decide +kernel
theorem dX9_init_14 : decode cX9_init 14 = .ok (.putfield 15, 3) := by decide +kernel
theorem dX9_init_17 : decode cX9_init 17 = .ok (.return_, 1) := by decide +kernel
theorem dX9_length_0 : decode cX9_length 0 = .ok (.aload_n 0, 1) := by decide +kernel
theorem dX9_length_1 : decode cX9_length 1 = .ok (.getfield 15, 3) := by decide +kernel
theorem dX9_length_4 : decode cX9_length 4 = .ok (.ireturn, 1) := by decide +kernel
theorem dX9_hasPlace_0 : decode cX9_hasPlace 0 = .ok (.iload_n 1, 1) := by decide +kernel
theorem dX9_hasPlace_1 : decode cX9_hasPlace 1 = .ok (.ifCond .lt 24, 3) := by decide +kernel
theorem dX9_hasPlace_4 : decode cX9_hasPlace 4 = .ok (.iload_n 1, 1) := by decide +kernel
theorem dX9_hasPlace_5 : decode cX9_hasPlace 5 = .ok (.aload_n 0, 1) := by decide +kernel
theorem dX9_hasPlace_6 : decode cX9_hasPlace 6 = .ok (.getfield 15, 3) := by decide +kernel
theorem dX9_hasPlace_9 : decode cX9_hasPlace 9 = .ok (.if_icmp .ge 16, 3) := by decide +kernel
theorem dX9_hasPlace_12 : decode cX9_hasPlace 12 = .ok (.iload_n 1, 1) := by decide +kernel
theorem dX9_hasPlace_13 : decode cX9_hasPlace 13 = .ok (.aload_n 0, 1) := by decide +kernel
theorem dX9_hasPlace_14 : decode cX9_hasPlace 14 = .ok (.getfield 9, 3) := by decide +kernel
theorem dX9_hasPlace_17 : decode cX9_hasPlace 17 = .ok (.arraylength, 1) := by decide +kernel
theorem dX9_hasPlace_18 : decode cX9_hasPlace 18 = .ok (.if_icmp .ge 7, 3) := by decide +kernel
theorem dX9_hasPlace_21 : decode cX9_hasPlace 21 = .ok (.iconst 1, 1) := by decide +kernel
theorem dX9_hasPlace_22 : decode cX9_hasPlace 22 = .ok (.goto 4, 3) := by decide +kernel
theorem dX9_hasPlace_25 : decode cX9_hasPlace 25 = .ok (.iconst 0, 1) := by decide +kernel
theorem dX9_hasPlace_26 : decode cX9_hasPlace 26 = .ok (.ireturn, 1) := by decide +kernel
theorem dX9_at_0 : decode cX9_at 0 = .ok (.iload_n 1, 1) := by decide +kernel
theorem dX9_at_1 : decode cX9_at 1 = .ok (.ifCond .lt 29, 3) := by decide +kernel
theorem dX9_at_4 : decode cX9_at 4 = .ok (.iload_n 1, 1) := by decide +kernel
theorem dX9_at_5 : decode cX9_at 5 = .ok (.aload_n 0, 1) := by decide +kernel
theorem dX9_at_6 : decode cX9_at 6 = .ok (.getfield 15, 3) := by decide +kernel
theorem dX9_at_9 : decode cX9_at 9 = .ok (.if_icmp .ge 21, 3) := by decide +kernel
theorem dX9_at_12 : decode cX9_at 12 = .ok (.iload_n 1, 1) := by decide +kernel
theorem dX9_at_13 : decode cX9_at 13 = .ok (.aload_n 0, 1) := by decide +kernel
theorem dX9_at_14 : decode cX9_at 14 = .ok (.getfield 9, 3) := by decide +kernel
theorem dX9_at_17 : decode cX9_at 17 = .ok (.arraylength, 1) := by decide +kernel
theorem dX9_at_18 : decode cX9_at 18 = .ok (.if_icmp .ge 12, 3) := by decide +kernel
theorem dX9_at_21 : decode cX9_at 21 = .ok (.aload_n 0, 1) := by decide +kernel
theorem dX9_at_22 : decode cX9_at 22 = .ok (.getfield 9, 3) := by decide +kernel
theorem dX9_at_25 : decode cX9_at 25 = .ok (.iload_n 1, 1) := by decide +kernel
theorem dX9_at_26 : decode cX9_at 26 = .ok (.iaload, 1) := by decide +kernel
theorem dX9_at_27 : decode cX9_at 27 = .ok (.goto 4, 3) := by decide +kernel
theorem dX9_at_30 : decode cX9_at 30 = .ok (.iconst (-1), 1) := by decide +kernel
theorem dX9_at_31 : decode cX9_at 31 = .ok (.ireturn, 1) := by decide +kernel
theorem dX9_wipe_0 : decode cX9_wipe 0 = .ok (.aload_n 0, 1) := by decide +kernel
theorem dX9_wipe_1 : decode cX9_wipe 1 = .ok (.iconst 0, 1) := by decide +kernel
theorem dX9_wipe_2 : decode cX9_wipe 2 = .ok (.putfield 15, 3) := by decide +kernel
theorem dX9_wipe_5 : decode cX9_wipe 5 = .ok (.return_, 1) := by decide +kernel
theorem dX9_push_0 : decode cX9_push 0 = .ok (.aload_n 0, 1) := by decide +kernel
theorem dX9_push_1 : decode cX9_push 1 = .ok (.getfield 15, 3) := by decide +kernel
theorem dX9_push_4 : decode cX9_push 4 = .ok (.ifCond .lt 15, 3) := by decide +kernel
theorem dX9_push_7 : decode cX9_push 7 = .ok (.aload_n 0, 1) := by decide +kernel
theorem dX9_push_8 : decode cX9_push 8 = .ok (.getfield 15, 3) := by decide +kernel
theorem dX9_push_11 : decode cX9_push 11 = .ok (.aload_n 0, 1) := by decide +kernel
theorem dX9_push_12 : decode cX9_push 12 = .ok (.getfield 9, 3) := by decide +kernel
theorem dX9_push_15 : decode cX9_push 15 = .ok (.arraylength, 1) := by decide +kernel
theorem dX9_push_16 : decode cX9_push 16 = .ok (.if_icmp .lt 5, 3) := by decide +kernel
theorem dX9_push_19 : decode cX9_push 19 = .ok (.iconst 0, 1) := by decide +kernel
theorem dX9_push_20 : decode cX9_push 20 = .ok (.ireturn, 1) := by decide +kernel
theorem dX9_push_21 : decode cX9_push 21 = .ok (.aload_n 0, 1) := by decide +kernel
theorem dX9_push_22 : decode cX9_push 22 = .ok (.getfield 9, 3) := by decide +kernel
theorem dX9_push_25 : decode cX9_push 25 = .ok (.aload_n 0, 1) := by decide +kernel
theorem dX9_push_26 : decode cX9_push 26 = .ok (.getfield 15, 3) := by decide +kernel
theorem dX9_push_29 : decode cX9_push 29 = .ok (.iload_n 1, 1) := by decide +kernel
theorem dX9_push_30 : decode cX9_push 30 = .ok (.iastore, 1) := by decide +kernel
theorem dX9_push_31 : decode cX9_push 31 = .ok (.aload_n 0, 1) := by decide +kernel
theorem dX9_push_32 : decode cX9_push 32 = .ok (.dup, 1) := by decide +kernel
theorem dX9_push_33 : decode cX9_push 33 = .ok (.getfield 15, 3) := by decide +kernel
theorem dX9_push_36 : decode cX9_push 36 = .ok (.iconst 1, 1) := by decide +kernel
theorem dX9_push_37 : decode cX9_push 37 = .ok (.iadd, 1) := by decide +kernel
theorem dX9_push_38 : decode cX9_push 38 = .ok (.putfield 15, 3) := by decide +kernel
theorem dX9_push_41 : decode cX9_push 41 = .ok (.iconst 1, 1) := by decide +kernel
theorem dX9_push_42 : decode cX9_push 42 = .ok (.ireturn, 1) := by decide +kernel
theorem dX9_append_0 : decode cX9_append 0 = .ok (.aload_n 1, 1) := by decide +kernel
theorem dX9_append_1 : decode cX9_append 1 = .ok (.getfield 15, 3) := by decide +kernel
theorem dX9_append_4 : decode cX9_append 4 = .ok (.istore_n 2, 1) := by decide +kernel
theorem dX9_append_5 : decode cX9_append 5 = .ok (.aload_n 0, 1) := by decide +kernel
theorem dX9_append_6 : decode cX9_append 6 = .ok (.getfield 15, 3) := by decide +kernel
theorem dX9_append_9 : decode cX9_append 9 = .ok (.iload_n 2, 1) := by decide +kernel
theorem dX9_append_10 : decode cX9_append 10 = .ok (.iadd, 1) := by decide +kernel
theorem dX9_append_11 : decode cX9_append 11 = .ok (.aload_n 0, 1) := by decide +kernel
theorem dX9_append_12 : decode cX9_append 12 = .ok (.getfield 9, 3) := by decide +kernel
theorem dX9_append_15 : decode cX9_append 15 = .ok (.arraylength, 1) := by decide +kernel
theorem dX9_append_16 : decode cX9_append 16 = .ok (.if_icmp .le 5, 3) := by decide +kernel
theorem dX9_append_19 : decode cX9_append 19 = .ok (.iconst 0, 1) := by decide +kernel
theorem dX9_append_20 : decode cX9_append 20 = .ok (.ireturn, 1) := by decide +kernel
theorem dX9_append_21 : decode cX9_append 21 = .ok (.iconst 0, 1) := by decide +kernel
theorem dX9_append_22 : decode cX9_append 22 = .ok (.istore_n 3, 1) := by decide +kernel
theorem dX9_append_23 : decode cX9_append 23 = .ok (.iload_n 3, 1) := by decide +kernel
theorem dX9_append_24 : decode cX9_append 24 = .ok (.iload_n 2, 1) := by decide +kernel
theorem dX9_append_25 : decode cX9_append 25 = .ok (.if_icmp .ge 19, 3) := by decide +kernel
theorem dX9_append_28 : decode cX9_append 28 = .ok (.aload_n 0, 1) := by decide +kernel
theorem dX9_append_29 : decode cX9_append 29 = .ok (.aload_n 1, 1) := by decide +kernel
theorem dX9_append_30 : decode cX9_append 30 = .ok (.iload_n 3, 1) := by decide +kernel
theorem dX9_append_31 : decode cX9_append 31 = .ok (.invokevirtual 19, 3) := by decide +kernel
theorem dX9_append_34 : decode cX9_append 34 = .ok (.invokevirtual 23, 3) := by decide +kernel
theorem dX9_append_37 : decode cX9_append 37 = .ok (.pop, 1) := by decide +kernel
theorem dX9_append_38 : decode cX9_append 38 = .ok (.iinc 3 1, 3) := by decide +kernel
theorem dX9_append_41 : decode cX9_append 41 = .ok (.goto (-18), 3) := by decide +kernel
theorem dX9_append_44 : decode cX9_append 44 = .ok (.iconst 1, 1) := by decide +kernel
theorem dX9_append_45 : decode cX9_append 45 = .ok (.ireturn, 1) := by decide +kernel
theorem dX9_become_0 : decode cX9_become 0 = .ok (.aload_n 0, 1) := by decide +kernel
theorem dX9_become_1 : decode cX9_become 1 = .ok (.iconst 0, 1) := by decide +kernel
theorem dX9_become_2 : decode cX9_become 2 = .ok (.putfield 15, 3) := by decide +kernel
theorem dX9_become_5 : decode cX9_become 5 = .ok (.iconst 0, 1) := by decide +kernel
theorem dX9_become_6 : decode cX9_become 6 = .ok (.istore_n 2, 1) := by decide +kernel
theorem dX9_become_7 : decode cX9_become 7 = .ok (.iload_n 2, 1) := by decide +kernel
theorem dX9_become_8 : decode cX9_become 8 = .ok (.aload_n 1, 1) := by decide +kernel
theorem dX9_become_9 : decode cX9_become 9 = .ok (.getfield 15, 3) := by decide +kernel
theorem dX9_become_12 : decode cX9_become 12 = .ok (.if_icmp .ge 49, 3) := by decide +kernel
theorem dX9_become_15 : decode cX9_become 15 = .ok (.iload_n 2, 1) := by decide +kernel
theorem dX9_become_16 : decode cX9_become 16 = .ok (.aload_n 1, 1) := by decide +kernel
theorem dX9_become_17 : decode cX9_become 17 = .ok (.getfield 9, 3) := by decide +kernel
theorem dX9_become_20 : decode cX9_become 20 = .ok (.arraylength, 1) := by decide +kernel
theorem dX9_become_21 : decode cX9_become 21 = .ok (.if_icmp .ge 40, 3) := by decide +kernel
theorem dX9_become_24 : decode cX9_become 24 = .ok (.iload_n 2, 1) := by decide +kernel
theorem dX9_become_25 : decode cX9_become 25 = .ok (.aload_n 0, 1) := by decide +kernel
theorem dX9_become_26 : decode cX9_become 26 = .ok (.getfield 9, 3) := by decide +kernel
theorem dX9_become_29 : decode cX9_become 29 = .ok (.arraylength, 1) := by decide +kernel
theorem dX9_become_30 : decode cX9_become 30 = .ok (.if_icmp .ge 31, 3) := by decide +kernel
theorem dX9_become_33 : decode cX9_become 33 = .ok (.aload_n 0, 1) := by decide +kernel
theorem dX9_become_34 : decode cX9_become 34 = .ok (.getfield 9, 3) := by decide +kernel
theorem dX9_become_37 : decode cX9_become 37 = .ok (.iload_n 2, 1) := by decide +kernel
theorem dX9_become_38 : decode cX9_become 38 = .ok (.aload_n 1, 1) := by decide +kernel
theorem dX9_become_39 : decode cX9_become 39 = .ok (.getfield 9, 3) := by decide +kernel
theorem dX9_become_42 : decode cX9_become 42 = .ok (.iload_n 2, 1) := by decide +kernel
theorem dX9_become_43 : decode cX9_become 43 = .ok (.iaload, 1) := by decide +kernel
theorem dX9_become_44 : decode cX9_become 44 = .ok (.iastore, 1) := by decide +kernel
theorem dX9_become_45 : decode cX9_become 45 = .ok (.aload_n 0, 1) := by decide +kernel
theorem dX9_become_46 : decode cX9_become 46 = .ok (.dup, 1) := by decide +kernel
theorem dX9_become_47 : decode cX9_become 47 = .ok (.getfield 15, 3) := by decide +kernel
theorem dX9_become_50 : decode cX9_become 50 = .ok (.iconst 1, 1) := by decide +kernel
theorem dX9_become_51 : decode cX9_become 51 = .ok (.iadd, 1) := by decide +kernel
theorem dX9_become_52 : decode cX9_become 52 = .ok (.putfield 15, 3) := by decide +kernel
theorem dX9_become_55 : decode cX9_become 55 = .ok (.iinc 2 1, 3) := by decide +kernel
theorem dX9_become_58 : decode cX9_become 58 = .ok (.goto (-51), 3) := by decide +kernel
theorem dX9_become_61 : decode cX9_become 61 = .ok (.return_, 1) := by decide +kernel
theorem dX9_removeAt_0 : decode cX9_removeAt 0 = .ok (.aload_n 0, 1) := by decide +kernel
theorem dX9_removeAt_1 : decode cX9_removeAt 1 = .ok (.iload_n 1, 1) := by decide +kernel
theorem dX9_removeAt_2 : decode cX9_removeAt 2 = .ok (.invokevirtual 27, 3) := by decide +kernel
theorem dX9_removeAt_5 : decode cX9_removeAt 5 = .ok (.ifCond .ne 4, 3) := by decide +kernel
theorem dX9_removeAt_8 : decode cX9_removeAt 8 = .ok (.return_, 1) := by decide +kernel
theorem dX9_removeAt_9 : decode cX9_removeAt 9 = .ok (.iload_n 1, 1) := by decide +kernel
theorem dX9_removeAt_10 : decode cX9_removeAt 10 = .ok (.iconst 1, 1) := by decide +kernel
theorem dX9_removeAt_11 : decode cX9_removeAt 11 = .ok (.iadd, 1) := by decide +kernel
theorem dX9_removeAt_12 : decode cX9_removeAt 12 = .ok (.istore_n 2, 1) := by decide +kernel
theorem dX9_removeAt_13 : decode cX9_removeAt 13 = .ok (.iload_n 2, 1) := by decide +kernel
theorem dX9_removeAt_14 : decode cX9_removeAt 14 = .ok (.aload_n 0, 1) := by decide +kernel
theorem dX9_removeAt_15 : decode cX9_removeAt 15 = .ok (.getfield 15, 3) := by decide +kernel
theorem dX9_removeAt_18 : decode cX9_removeAt 18 = .ok (.if_icmp .ge 32, 3) := by decide +kernel
theorem dX9_removeAt_21 : decode cX9_removeAt 21 = .ok (.iload_n 2, 1) := by decide +kernel
theorem dX9_removeAt_22 : decode cX9_removeAt 22 = .ok (.aload_n 0, 1) := by decide +kernel
theorem dX9_removeAt_23 : decode cX9_removeAt 23 = .ok (.getfield 9, 3) := by decide +kernel
theorem dX9_removeAt_26 : decode cX9_removeAt 26 = .ok (.arraylength, 1) := by decide +kernel
theorem dX9_removeAt_27 : decode cX9_removeAt 27 = .ok (.if_icmp .ge 23, 3) := by decide +kernel
theorem dX9_removeAt_30 : decode cX9_removeAt 30 = .ok (.aload_n 0, 1) := by decide +kernel
theorem dX9_removeAt_31 : decode cX9_removeAt 31 = .ok (.getfield 9, 3) := by decide +kernel
theorem dX9_removeAt_34 : decode cX9_removeAt 34 = .ok (.iload_n 2, 1) := by decide +kernel
theorem dX9_removeAt_35 : decode cX9_removeAt 35 = .ok (.iconst 1, 1) := by decide +kernel
theorem dX9_removeAt_36 : decode cX9_removeAt 36 = .ok (.isub, 1) := by decide +kernel
theorem dX9_removeAt_37 : decode cX9_removeAt 37 = .ok (.aload_n 0, 1) := by decide +kernel
theorem dX9_removeAt_38 : decode cX9_removeAt 38 = .ok (.getfield 9, 3) := by decide +kernel
theorem dX9_removeAt_41 : decode cX9_removeAt 41 = .ok (.iload_n 2, 1) := by decide +kernel
theorem dX9_removeAt_42 : decode cX9_removeAt 42 = .ok (.iaload, 1) := by decide +kernel
theorem dX9_removeAt_43 : decode cX9_removeAt 43 = .ok (.iastore, 1) := by decide +kernel
theorem dX9_removeAt_44 : decode cX9_removeAt 44 = .ok (.iinc 2 1, 3) := by decide +kernel
theorem dX9_removeAt_47 : decode cX9_removeAt 47 = .ok (.goto (-34), 3) := by decide +kernel
theorem dX9_removeAt_50 : decode cX9_removeAt 50 = .ok (.aload_n 0, 1) := by decide +kernel
theorem dX9_removeAt_51 : decode cX9_removeAt 51 = .ok (.dup, 1) := by decide +kernel
theorem dX9_removeAt_52 : decode cX9_removeAt 52 = .ok (.getfield 15, 3) := by decide +kernel
theorem dX9_removeAt_55 : decode cX9_removeAt 55 = .ok (.iconst 1, 1) := by decide +kernel
theorem dX9_removeAt_56 : decode cX9_removeAt 56 = .ok (.isub, 1) := by decide +kernel
theorem dX9_removeAt_57 : decode cX9_removeAt 57 = .ok (.putfield 15, 3) := by decide +kernel
theorem dX9_removeAt_60 : decode cX9_removeAt 60 = .ok (.return_, 1) := by decide +kernel
theorem dX9_turnAbout_0 : decode cX9_turnAbout 0 = .ok (.iconst 0, 1) := by decide +kernel
theorem dX9_turnAbout_1 : decode cX9_turnAbout 1 = .ok (.istore_n 1, 1) := by decide +kernel
theorem dX9_turnAbout_2 : decode cX9_turnAbout 2 = .ok (.iload_n 1, 1) := by decide +kernel
theorem dX9_turnAbout_3 : decode cX9_turnAbout 3 = .ok (.aload_n 0, 1) := by decide +kernel
theorem dX9_turnAbout_4 : decode cX9_turnAbout 4 = .ok (.getfield 15, 3) := by decide +kernel
theorem dX9_turnAbout_7 : decode cX9_turnAbout 7 = .ok (.iconst 2, 1) := by decide +kernel
theorem dX9_turnAbout_8 : decode cX9_turnAbout 8 = .ok (.idiv, 1) := by decide +kernel
theorem dX9_turnAbout_9 : decode cX9_turnAbout 9 = .ok (.if_icmp .ge 60, 3) := by decide +kernel
theorem dX9_turnAbout_12 : decode cX9_turnAbout 12 = .ok (.aload_n 0, 1) := by decide +kernel
theorem dX9_turnAbout_13 : decode cX9_turnAbout 13 = .ok (.getfield 15, 3) := by decide +kernel
theorem dX9_turnAbout_16 : decode cX9_turnAbout 16 = .ok (.iconst 1, 1) := by decide +kernel
theorem dX9_turnAbout_17 : decode cX9_turnAbout 17 = .ok (.isub, 1) := by decide +kernel
theorem dX9_turnAbout_18 : decode cX9_turnAbout 18 = .ok (.iload_n 1, 1) := by decide +kernel
theorem dX9_turnAbout_19 : decode cX9_turnAbout 19 = .ok (.isub, 1) := by decide +kernel
theorem dX9_turnAbout_20 : decode cX9_turnAbout 20 = .ok (.istore_n 2, 1) := by decide +kernel
theorem dX9_turnAbout_21 : decode cX9_turnAbout 21 = .ok (.aload_n 0, 1) := by decide +kernel
theorem dX9_turnAbout_22 : decode cX9_turnAbout 22 = .ok (.iload_n 1, 1) := by decide +kernel
theorem dX9_turnAbout_23 : decode cX9_turnAbout 23 = .ok (.invokevirtual 27, 3) := by decide +kernel
theorem dX9_turnAbout_26 : decode cX9_turnAbout 26 = .ok (.ifCond .eq 37, 3) := by decide +kernel
theorem dX9_turnAbout_29 : decode cX9_turnAbout 29 = .ok (.aload_n 0, 1) := by decide +kernel
theorem dX9_turnAbout_30 : decode cX9_turnAbout 30 = .ok (.iload_n 2, 1) := by decide +kernel
theorem dX9_turnAbout_31 : decode cX9_turnAbout 31 = .ok (.invokevirtual 27, 3) := by decide +kernel
theorem dX9_turnAbout_34 : decode cX9_turnAbout 34 = .ok (.ifCond .eq 29, 3) := by decide +kernel
theorem dX9_turnAbout_37 : decode cX9_turnAbout 37 = .ok (.aload_n 0, 1) := by decide +kernel
theorem dX9_turnAbout_38 : decode cX9_turnAbout 38 = .ok (.getfield 9, 3) := by decide +kernel
theorem dX9_turnAbout_41 : decode cX9_turnAbout 41 = .ok (.iload_n 1, 1) := by decide +kernel
theorem dX9_turnAbout_42 : decode cX9_turnAbout 42 = .ok (.iaload, 1) := by decide +kernel
theorem dX9_turnAbout_43 : decode cX9_turnAbout 43 = .ok (.istore_n 3, 1) := by decide +kernel
theorem dX9_turnAbout_44 : decode cX9_turnAbout 44 = .ok (.aload_n 0, 1) := by decide +kernel
theorem dX9_turnAbout_45 : decode cX9_turnAbout 45 = .ok (.getfield 9, 3) := by decide +kernel
theorem dX9_turnAbout_48 : decode cX9_turnAbout 48 = .ok (.iload_n 1, 1) := by decide +kernel
theorem dX9_turnAbout_49 : decode cX9_turnAbout 49 = .ok (.aload_n 0, 1) := by decide +kernel
theorem dX9_turnAbout_50 : decode cX9_turnAbout 50 = .ok (.getfield 9, 3) := by decide +kernel
theorem dX9_turnAbout_53 : decode cX9_turnAbout 53 = .ok (.iload_n 2, 1) := by decide +kernel
theorem dX9_turnAbout_54 : decode cX9_turnAbout 54 = .ok (.iaload, 1) := by decide +kernel
theorem dX9_turnAbout_55 : decode cX9_turnAbout 55 = .ok (.iastore, 1) := by decide +kernel
theorem dX9_turnAbout_56 : decode cX9_turnAbout 56 = .ok (.aload_n 0, 1) := by decide +kernel
theorem dX9_turnAbout_57 : decode cX9_turnAbout 57 = .ok (.getfield 9, 3) := by decide +kernel
theorem dX9_turnAbout_60 : decode cX9_turnAbout 60 = .ok (.iload_n 2, 1) := by decide +kernel
theorem dX9_turnAbout_61 : decode cX9_turnAbout 61 = .ok (.iload_n 3, 1) := by decide +kernel
theorem dX9_turnAbout_62 : decode cX9_turnAbout 62 = .ok (.iastore, 1) := by decide +kernel
theorem dX9_turnAbout_63 : decode cX9_turnAbout 63 = .ok (.iinc 1 1, 3) := by decide +kernel
theorem dX9_turnAbout_66 : decode cX9_turnAbout 66 = .ok (.goto (-64), 3) := by decide +kernel
theorem dX9_turnAbout_69 : decode cX9_turnAbout 69 = .ok (.return_, 1) := by decide +kernel
theorem dX9_howMany_0 : decode cX9_howMany 0 = .ok (.iconst 0, 1) := by decide +kernel
theorem dX9_howMany_1 : decode cX9_howMany 1 = .ok (.istore_n 2, 1) := by decide +kernel
theorem dX9_howMany_2 : decode cX9_howMany 2 = .ok (.iconst 0, 1) := by decide +kernel
theorem dX9_howMany_3 : decode cX9_howMany 3 = .ok (.istore_n 3, 1) := by decide +kernel
theorem dX9_howMany_4 : decode cX9_howMany 4 = .ok (.iload_n 3, 1) := by decide +kernel
theorem dX9_howMany_5 : decode cX9_howMany 5 = .ok (.aload_n 0, 1) := by decide +kernel
theorem dX9_howMany_6 : decode cX9_howMany 6 = .ok (.getfield 15, 3) := by decide +kernel
theorem dX9_howMany_9 : decode cX9_howMany 9 = .ok (.if_icmp .ge 21, 3) := by decide +kernel
theorem dX9_howMany_12 : decode cX9_howMany 12 = .ok (.aload_n 0, 1) := by decide +kernel
theorem dX9_howMany_13 : decode cX9_howMany 13 = .ok (.iload_n 3, 1) := by decide +kernel
theorem dX9_howMany_14 : decode cX9_howMany 14 = .ok (.invokevirtual 19, 3) := by decide +kernel
theorem dX9_howMany_17 : decode cX9_howMany 17 = .ok (.iload_n 1, 1) := by decide +kernel
theorem dX9_howMany_18 : decode cX9_howMany 18 = .ok (.if_icmp .ne 6, 3) := by decide +kernel
theorem dX9_howMany_21 : decode cX9_howMany 21 = .ok (.iinc 2 1, 3) := by decide +kernel
theorem dX9_howMany_24 : decode cX9_howMany 24 = .ok (.iinc 3 1, 3) := by decide +kernel
theorem dX9_howMany_27 : decode cX9_howMany 27 = .ok (.goto (-23), 3) := by decide +kernel
theorem dX9_howMany_30 : decode cX9_howMany 30 = .ok (.iload_n 2, 1) := by decide +kernel
theorem dX9_howMany_31 : decode cX9_howMany 31 = .ok (.ireturn, 1) := by decide +kernel
theorem dX9_bits_0 : decode cX9_bits 0 = .ok (.iconst 0, 1) := by decide +kernel
theorem dX9_bits_1 : decode cX9_bits 1 = .ok (.istore_n 1, 1) := by decide +kernel
theorem dX9_bits_2 : decode cX9_bits 2 = .ok (.iconst 0, 1) := by decide +kernel
theorem dX9_bits_3 : decode cX9_bits 3 = .ok (.istore_n 2, 1) := by decide +kernel
theorem dX9_bits_4 : decode cX9_bits 4 = .ok (.iload_n 2, 1) := by decide +kernel
theorem dX9_bits_5 : decode cX9_bits 5 = .ok (.aload_n 0, 1) := by decide +kernel
theorem dX9_bits_6 : decode cX9_bits 6 = .ok (.getfield 15, 3) := by decide +kernel
theorem dX9_bits_9 : decode cX9_bits 9 = .ok (.if_icmp .ge 19, 3) := by decide +kernel
theorem dX9_bits_12 : decode cX9_bits 12 = .ok (.iload_n 1, 1) := by decide +kernel
theorem dX9_bits_13 : decode cX9_bits 13 = .ok (.iconst 1, 1) := by decide +kernel
theorem dX9_bits_14 : decode cX9_bits 14 = .ok (.aload_n 0, 1) := by decide +kernel
theorem dX9_bits_15 : decode cX9_bits 15 = .ok (.iload_n 2, 1) := by decide +kernel
theorem dX9_bits_16 : decode cX9_bits 16 = .ok (.invokevirtual 19, 3) := by decide +kernel
theorem dX9_bits_19 : decode cX9_bits 19 = .ok (.ishl, 1) := by decide +kernel
theorem dX9_bits_20 : decode cX9_bits 20 = .ok (.ior, 1) := by decide +kernel
theorem dX9_bits_21 : decode cX9_bits 21 = .ok (.istore_n 1, 1) := by decide +kernel
theorem dX9_bits_22 : decode cX9_bits 22 = .ok (.iinc 2 1, 3) := by decide +kernel
theorem dX9_bits_25 : decode cX9_bits 25 = .ok (.goto (-21), 3) := by decide +kernel
theorem dX9_bits_28 : decode cX9_bits 28 = .ok (.iload_n 1, 1) := by decide +kernel
theorem dX9_bits_29 : decode cX9_bits 29 = .ok (.ireturn, 1) := by decide +kernel
theorem dX10_init_0 : decode cX10_init 0 = .ok (.aload_n 0, 1) := by decide +kernel
theorem dX10_init_1 : decode cX10_init 1 = .ok (.invokespecial 3, 3) := by decide +kernel
theorem dX10_init_4 : decode cX10_init 4 = .ok (.aload_n 0, 1) := by decide +kernel
theorem dX10_init_5 : decode cX10_init 5 = .ok (.sipush 160, 3) := by decide +kernel
theorem dX10_init_8 : decode cX10_init 8 = .ok (.newarray .int, 2) := by decide +kernel
theorem dX10_init_10 : decode cX10_init 10 = .ok (.putfield 9, 3) := by decide +kernel
theorem dX10_init_13 : decode cX10_init 13 = .ok (.aload_n 0, 1) := by decide +kernel
theorem dX10_init_14 : decode cX10_init 14 = .ok (.iconst 0, 1) := by decide +kernel
theorem dX10_init_15 : decode cX10_init 15 = .ok (.putfield 15, 3) := by decide +kernel
theorem dX10_init_18 : decode cX10_init 18 = .ok (.aload_n 0, 1) := by decide +kernel
theorem dX10_init_19 : decode cX10_init 19 = .ok (.iconst 0, 1) := by decide +kernel
theorem dX10_init_20 : decode cX10_init 20 = .ok (.putfield 19, 3) := by decide +kernel
theorem dX10_init_23 : decode cX10_init 23 = .ok (.aload_n 0, 1) := by decide +kernel
theorem dX10_init_24 : decode cX10_init 24 = .ok (.iconst 0, 1) := by decide +kernel
theorem dX10_init_25 : decode cX10_init 25 = .ok (.putfield 22, 3) := by decide +kernel
theorem dX10_init_28 : decode cX10_init 28 = .ok (.return_, 1) := by decide +kernel
theorem dX10_size_0 : decode cX10_size 0 = .ok (.aload_n 0, 1) := by decide +kernel
theorem dX10_size_1 : decode cX10_size 1 = .ok (.getfield 15, 3) := by decide +kernel
theorem dX10_size_4 : decode cX10_size 4 = .ok (.ireturn, 1) := by decide +kernel
theorem dX10_wipe_0 : decode cX10_wipe 0 = .ok (.aload_n 0, 1) := by decide +kernel
theorem dX10_wipe_1 : decode cX10_wipe 1 = .ok (.iconst 0, 1) := by decide +kernel
theorem dX10_wipe_2 : decode cX10_wipe 2 = .ok (.putfield 15, 3) := by decide +kernel
theorem dX10_wipe_5 : decode cX10_wipe 5 = .ok (.return_, 1) := by decide +kernel
theorem dX10_push_0 : decode cX10_push 0 = .ok (.aload_n 0, 1) := by decide +kernel
theorem dX10_push_1 : decode cX10_push 1 = .ok (.getfield 15, 3) := by decide +kernel
theorem dX10_push_4 : decode cX10_push 4 = .ok (.ifCond .lt 35, 3) := by decide +kernel
theorem dX10_push_7 : decode cX10_push 7 = .ok (.aload_n 0, 1) := by decide +kernel
theorem dX10_push_8 : decode cX10_push 8 = .ok (.getfield 15, 3) := by decide +kernel
theorem dX10_push_11 : decode cX10_push 11 = .ok (.aload_n 0, 1) := by decide +kernel
theorem dX10_push_12 : decode cX10_push 12 = .ok (.getfield 9, 3) := by decide +kernel
theorem dX10_push_15 : decode cX10_push 15 = .ok (.arraylength, 1) := by decide +kernel
theorem dX10_push_16 : decode cX10_push 16 = .ok (.if_icmp .ge 23, 3) := by decide +kernel
theorem dX10_push_19 : decode cX10_push 19 = .ok (.aload_n 0, 1) := by decide +kernel
theorem dX10_push_20 : decode cX10_push 20 = .ok (.getfield 9, 3) := by decide +kernel
theorem dX10_push_23 : decode cX10_push 23 = .ok (.aload_n 0, 1) := by decide +kernel
theorem dX10_push_24 : decode cX10_push 24 = .ok (.getfield 15, 3) := by decide +kernel
theorem dX10_push_27 : decode cX10_push 27 = .ok (.iload_n 1, 1) := by decide +kernel
theorem dX10_push_28 : decode cX10_push 28 = .ok (.iastore, 1) := by decide +kernel
theorem dX10_push_29 : decode cX10_push 29 = .ok (.aload_n 0, 1) := by decide +kernel
theorem dX10_push_30 : decode cX10_push 30 = .ok (.dup, 1) := by decide +kernel
theorem dX10_push_31 : decode cX10_push 31 = .ok (.getfield 15, 3) := by decide +kernel
theorem dX10_push_34 : decode cX10_push 34 = .ok (.iconst 1, 1) := by decide +kernel
theorem dX10_push_35 : decode cX10_push 35 = .ok (.iadd, 1) := by decide +kernel
theorem dX10_push_36 : decode cX10_push 36 = .ok (.putfield 15, 3) := by decide +kernel
theorem dX10_push_39 : decode cX10_push 39 = .ok (.return_, 1) := by decide +kernel
theorem dX10_byteAt_0 : decode cX10_byteAt 0 = .ok (.iload_n 1, 1) := by decide +kernel
theorem dX10_byteAt_1 : decode cX10_byteAt 1 = .ok (.ifCond .lt 29, 3) := by decide +kernel
theorem dX10_byteAt_4 : decode cX10_byteAt 4 = .ok (.iload_n 1, 1) := by decide +kernel
theorem dX10_byteAt_5 : decode cX10_byteAt 5 = .ok (.aload_n 0, 1) := by decide +kernel
theorem dX10_byteAt_6 : decode cX10_byteAt 6 = .ok (.getfield 15, 3) := by decide +kernel
theorem dX10_byteAt_9 : decode cX10_byteAt 9 = .ok (.if_icmp .ge 21, 3) := by decide +kernel
theorem dX10_byteAt_12 : decode cX10_byteAt 12 = .ok (.iload_n 1, 1) := by decide +kernel
theorem dX10_byteAt_13 : decode cX10_byteAt 13 = .ok (.aload_n 0, 1) := by decide +kernel
theorem dX10_byteAt_14 : decode cX10_byteAt 14 = .ok (.getfield 9, 3) := by decide +kernel
theorem dX10_byteAt_17 : decode cX10_byteAt 17 = .ok (.arraylength, 1) := by decide +kernel
theorem dX10_byteAt_18 : decode cX10_byteAt 18 = .ok (.if_icmp .ge 12, 3) := by decide +kernel
theorem dX10_byteAt_21 : decode cX10_byteAt 21 = .ok (.aload_n 0, 1) := by decide +kernel
theorem dX10_byteAt_22 : decode cX10_byteAt 22 = .ok (.getfield 9, 3) := by decide +kernel
theorem dX10_byteAt_25 : decode cX10_byteAt 25 = .ok (.iload_n 1, 1) := by decide +kernel
theorem dX10_byteAt_26 : decode cX10_byteAt 26 = .ok (.iaload, 1) := by decide +kernel
theorem dX10_byteAt_27 : decode cX10_byteAt 27 = .ok (.goto 4, 3) := by decide +kernel
theorem dX10_byteAt_30 : decode cX10_byteAt 30 = .ok (.iconst (-1), 1) := by decide +kernel
theorem dX10_byteAt_31 : decode cX10_byteAt 31 = .ok (.ireturn, 1) := by decide +kernel
theorem dX10_letterAt_0 : decode cX10_letterAt 0 = .ok (.aload_n 0, 1) := by decide +kernel
theorem dX10_letterAt_1 : decode cX10_letterAt 1 = .ok (.iload_n 1, 1) := by decide +kernel
theorem dX10_letterAt_2 : decode cX10_letterAt 2 = .ok (.invokevirtual 25, 3) := by decide +kernel
theorem dX10_letterAt_5 : decode cX10_letterAt 5 = .ok (.bipush 97, 2) := by decide +kernel
theorem dX10_letterAt_7 : decode cX10_letterAt 7 = .ok (.isub, 1) := by decide +kernel
theorem dX10_letterAt_8 : decode cX10_letterAt 8 = .ok (.ireturn, 1) := by decide +kernel
theorem dX10_isSmall_0 : decode cX10_isSmall 0 = .ok (.aload_n 0, 1) := by decide +kernel
theorem dX10_isSmall_1 : decode cX10_isSmall 1 = .ok (.iload_n 1, 1) := by decide +kernel
theorem dX10_isSmall_2 : decode cX10_isSmall 2 = .ok (.invokevirtual 25, 3) := by decide +kernel
theorem dX10_isSmall_5 : decode cX10_isSmall 5 = .ok (.bipush 97, 2) := by decide +kernel
theorem dX10_isSmall_7 : decode cX10_isSmall 7 = .ok (.if_icmp .lt 17, 3) := by decide +kernel
theorem dX10_isSmall_10 : decode cX10_isSmall 10 = .ok (.aload_n 0, 1) := by decide +kernel
theorem dX10_isSmall_11 : decode cX10_isSmall 11 = .ok (.iload_n 1, 1) := by decide +kernel
theorem dX10_isSmall_12 : decode cX10_isSmall 12 = .ok (.invokevirtual 25, 3) := by decide +kernel
theorem dX10_isSmall_15 : decode cX10_isSmall 15 = .ok (.bipush 122, 2) := by decide +kernel
theorem dX10_isSmall_17 : decode cX10_isSmall 17 = .ok (.if_icmp .gt 7, 3) := by decide +kernel
theorem dX10_isSmall_20 : decode cX10_isSmall 20 = .ok (.iconst 1, 1) := by decide +kernel
theorem dX10_isSmall_21 : decode cX10_isSmall 21 = .ok (.goto 4, 3) := by decide +kernel
theorem dX10_isSmall_24 : decode cX10_isSmall 24 = .ok (.iconst 0, 1) := by decide +kernel
theorem dX10_isSmall_25 : decode cX10_isSmall 25 = .ok (.ireturn, 1) := by decide +kernel
theorem dX10_isDigit_0 : decode cX10_isDigit 0 = .ok (.aload_n 0, 1) := by decide +kernel
theorem dX10_isDigit_1 : decode cX10_isDigit 1 = .ok (.iload_n 1, 1) := by decide +kernel
theorem dX10_isDigit_2 : decode cX10_isDigit 2 = .ok (.invokevirtual 25, 3) := by decide +kernel
theorem dX10_isDigit_5 : decode cX10_isDigit 5 = .ok (.bipush 48, 2) := by decide +kernel
theorem dX10_isDigit_7 : decode cX10_isDigit 7 = .ok (.if_icmp .lt 17, 3) := by decide +kernel
theorem dX10_isDigit_10 : decode cX10_isDigit 10 = .ok (.aload_n 0, 1) := by decide +kernel
theorem dX10_isDigit_11 : decode cX10_isDigit 11 = .ok (.iload_n 1, 1) := by decide +kernel
theorem dX10_isDigit_12 : decode cX10_isDigit 12 = .ok (.invokevirtual 25, 3) := by decide +kernel
theorem dX10_isDigit_15 : decode cX10_isDigit 15 = .ok (.bipush 57, 2) := by decide +kernel
theorem dX10_isDigit_17 : decode cX10_isDigit 17 = .ok (.if_icmp .gt 7, 3) := by decide +kernel
theorem dX10_isDigit_20 : decode cX10_isDigit 20 = .ok (.iconst 1, 1) := by decide +kernel
theorem dX10_isDigit_21 : decode cX10_isDigit 21 = .ok (.goto 4, 3) := by decide +kernel
theorem dX10_isDigit_24 : decode cX10_isDigit 24 = .ok (.iconst 0, 1) := by decide +kernel
theorem dX10_isDigit_25 : decode cX10_isDigit 25 = .ok (.ireturn, 1) := by decide +kernel
theorem dX10_rewind_0 : decode cX10_rewind 0 = .ok (.aload_n 0, 1) := by decide +kernel
theorem dX10_rewind_1 : decode cX10_rewind 1 = .ok (.iconst 0, 1) := by decide +kernel
theorem dX10_rewind_2 : decode cX10_rewind 2 = .ok (.putfield 19, 3) := by decide +kernel
theorem dX10_rewind_5 : decode cX10_rewind 5 = .ok (.aload_n 0, 1) := by decide +kernel
theorem dX10_rewind_6 : decode cX10_rewind 6 = .ok (.iconst 0, 1) := by decide +kernel
theorem dX10_rewind_7 : decode cX10_rewind 7 = .ok (.putfield 22, 3) := by decide +kernel
theorem dX10_rewind_10 : decode cX10_rewind 10 = .ok (.return_, 1) := by decide +kernel
theorem dX10_step_0 : decode cX10_step 0 = .ok (.aload_n 0, 1) := by decide +kernel
theorem dX10_step_1 : decode cX10_step 1 = .ok (.aload_n 0, 1) := by decide +kernel
theorem dX10_step_2 : decode cX10_step 2 = .ok (.getfield 22, 3) := by decide +kernel
theorem dX10_step_5 : decode cX10_step 5 = .ok (.putfield 19, 3) := by decide +kernel
theorem dX10_step_8 : decode cX10_step 8 = .ok (.aload_n 0, 1) := by decide +kernel
theorem dX10_step_9 : decode cX10_step 9 = .ok (.getfield 19, 3) := by decide +kernel
theorem dX10_step_12 : decode cX10_step 12 = .ok (.aload_n 0, 1) := by decide +kernel
theorem dX10_step_13 : decode cX10_step 13 = .ok (.getfield 15, 3) := by decide +kernel
theorem dX10_step_16 : decode cX10_step 16 = .ok (.if_icmp .ge 29, 3) := by decide +kernel
theorem dX10_step_19 : decode cX10_step 19 = .ok (.aload_n 0, 1) := by decide +kernel
theorem dX10_step_20 : decode cX10_step 20 = .ok (.aload_n 0, 1) := by decide +kernel
theorem dX10_step_21 : decode cX10_step 21 = .ok (.getfield 19, 3) := by decide +kernel
theorem dX10_step_24 : decode cX10_step 24 = .ok (.invokevirtual 25, 3) := by decide +kernel
theorem dX10_step_27 : decode cX10_step 27 = .ok (.bipush 32, 2) := by decide +kernel
theorem dX10_step_29 : decode cX10_step 29 = .ok (.if_icmp .ne 16, 3) := by decide +kernel
theorem dX10_step_32 : decode cX10_step 32 = .ok (.aload_n 0, 1) := by decide +kernel
theorem dX10_step_33 : decode cX10_step 33 = .ok (.dup, 1) := by decide +kernel
theorem dX10_step_34 : decode cX10_step 34 = .ok (.getfield 19, 3) := by decide +kernel
theorem dX10_step_37 : decode cX10_step 37 = .ok (.iconst 1, 1) := by decide +kernel
theorem dX10_step_38 : decode cX10_step 38 = .ok (.iadd, 1) := by decide +kernel
theorem dX10_step_39 : decode cX10_step 39 = .ok (.putfield 19, 3) := by decide +kernel
theorem dX10_step_42 : decode cX10_step 42 = .ok (.goto (-34), 3) := by decide +kernel
theorem dX10_step_45 : decode cX10_step 45 = .ok (.aload_n 0, 1) := by decide +kernel
theorem dX10_step_46 : decode cX10_step 46 = .ok (.aload_n 0, 1) := by decide +kernel
theorem dX10_step_47 : decode cX10_step 47 = .ok (.getfield 19, 3) := by decide +kernel
theorem dX10_step_50 : decode cX10_step 50 = .ok (.putfield 22, 3) := by decide +kernel
theorem dX10_step_53 : decode cX10_step 53 = .ok (.aload_n 0, 1) := by decide +kernel
theorem dX10_step_54 : decode cX10_step 54 = .ok (.aload_n 0, 1) := by decide +kernel
theorem dX10_step_55 : decode cX10_step 55 = .ok (.getfield 19, 3) := by decide +kernel
theorem dX10_step_58 : decode cX10_step 58 = .ok (.invokevirtual 29, 3) := by decide +kernel
theorem dX10_step_61 : decode cX10_step 61 = .ok (.ifCond .eq 38, 3) := by decide +kernel
theorem dX10_step_64 : decode cX10_step 64 = .ok (.aload_n 0, 1) := by decide +kernel
theorem dX10_step_65 : decode cX10_step 65 = .ok (.getfield 22, 3) := by decide +kernel
theorem dX10_step_68 : decode cX10_step 68 = .ok (.aload_n 0, 1) := by decide +kernel
theorem dX10_step_69 : decode cX10_step 69 = .ok (.getfield 15, 3) := by decide +kernel
theorem dX10_step_72 : decode cX10_step 72 = .ok (.if_icmp .ge 94, 3) := by decide +kernel
theorem dX10_step_75 : decode cX10_step 75 = .ok (.aload_n 0, 1) := by decide +kernel
theorem dX10_step_76 : decode cX10_step 76 = .ok (.aload_n 0, 1) := by decide +kernel
theorem dX10_step_77 : decode cX10_step 77 = .ok (.getfield 22, 3) := by decide +kernel
theorem dX10_step_80 : decode cX10_step 80 = .ok (.invokevirtual 29, 3) := by decide +kernel
theorem dX10_step_83 : decode cX10_step 83 = .ok (.ifCond .eq 83, 3) := by decide +kernel
theorem dX10_step_86 : decode cX10_step 86 = .ok (.aload_n 0, 1) := by decide +kernel
theorem dX10_step_87 : decode cX10_step 87 = .ok (.dup, 1) := by decide +kernel
theorem dX10_step_88 : decode cX10_step 88 = .ok (.getfield 22, 3) := by decide +kernel
theorem dX10_step_91 : decode cX10_step 91 = .ok (.iconst 1, 1) := by decide +kernel
theorem dX10_step_92 : decode cX10_step 92 = .ok (.iadd, 1) := by decide +kernel
theorem dX10_step_93 : decode cX10_step 93 = .ok (.putfield 22, 3) := by decide +kernel
theorem dX10_step_96 : decode cX10_step 96 = .ok (.goto (-32), 3) := by decide +kernel
theorem dX10_step_99 : decode cX10_step 99 = .ok (.aload_n 0, 1) := by decide +kernel
theorem dX10_step_100 : decode cX10_step 100 = .ok (.aload_n 0, 1) := by decide +kernel
theorem dX10_step_101 : decode cX10_step 101 = .ok (.getfield 19, 3) := by decide +kernel
theorem dX10_step_104 : decode cX10_step 104 = .ok (.invokevirtual 33, 3) := by decide +kernel
theorem dX10_step_107 : decode cX10_step 107 = .ok (.ifCond .eq 38, 3) := by decide +kernel
theorem dX10_step_110 : decode cX10_step 110 = .ok (.aload_n 0, 1) := by decide +kernel
theorem dX10_step_111 : decode cX10_step 111 = .ok (.getfield 22, 3) := by decide +kernel
theorem dX10_step_114 : decode cX10_step 114 = .ok (.aload_n 0, 1) := by decide +kernel
theorem dX10_step_115 : decode cX10_step 115 = .ok (.getfield 15, 3) := by decide +kernel
theorem dX10_step_118 : decode cX10_step 118 = .ok (.if_icmp .ge 48, 3) := by decide +kernel
theorem dX10_step_121 : decode cX10_step 121 = .ok (.aload_n 0, 1) := by decide +kernel
theorem dX10_step_122 : decode cX10_step 122 = .ok (.aload_n 0, 1) := by decide +kernel
theorem dX10_step_123 : decode cX10_step 123 = .ok (.getfield 22, 3) := by decide +kernel
theorem dX10_step_126 : decode cX10_step 126 = .ok (.invokevirtual 33, 3) := by decide +kernel
theorem dX10_step_129 : decode cX10_step 129 = .ok (.ifCond .eq 37, 3) := by decide +kernel
theorem dX10_step_132 : decode cX10_step 132 = .ok (.aload_n 0, 1) := by decide +kernel
theorem dX10_step_133 : decode cX10_step 133 = .ok (.dup, 1) := by decide +kernel
theorem dX10_step_134 : decode cX10_step 134 = .ok (.getfield 22, 3) := by decide +kernel
theorem dX10_step_137 : decode cX10_step 137 = .ok (.iconst 1, 1) := by decide +kernel
theorem dX10_step_138 : decode cX10_step 138 = .ok (.iadd, 1) := by decide +kernel
theorem dX10_step_139 : decode cX10_step 139 = .ok (.putfield 22, 3) := by decide +kernel
theorem dX10_step_142 : decode cX10_step 142 = .ok (.goto (-32), 3) := by decide +kernel
theorem dX10_step_145 : decode cX10_step 145 = .ok (.aload_n 0, 1) := by decide +kernel
theorem dX10_step_146 : decode cX10_step 146 = .ok (.getfield 19, 3) := by decide +kernel
theorem dX10_step_149 : decode cX10_step 149 = .ok (.aload_n 0, 1) := by decide +kernel
theorem dX10_step_150 : decode cX10_step 150 = .ok (.getfield 15, 3) := by decide +kernel
theorem dX10_step_153 : decode cX10_step 153 = .ok (.if_icmp .ge 13, 3) := by decide +kernel
theorem dX10_step_156 : decode cX10_step 156 = .ok (.aload_n 0, 1) := by decide +kernel
theorem dX10_step_157 : decode cX10_step 157 = .ok (.dup, 1) := by decide +kernel
theorem dX10_step_158 : decode cX10_step 158 = .ok (.getfield 22, 3) := by decide +kernel
theorem dX10_step_161 : decode cX10_step 161 = .ok (.iconst 1, 1) := by decide +kernel
theorem dX10_step_162 : decode cX10_step 162 = .ok (.iadd, 1) := by decide +kernel
theorem dX10_step_163 : decode cX10_step 163 = .ok (.putfield 22, 3) := by decide +kernel
theorem dX10_step_166 : decode cX10_step 166 = .ok (.return_, 1) := by decide +kernel
theorem dX10_start_0 : decode cX10_start 0 = .ok (.aload_n 0, 1) := by decide +kernel
theorem dX10_start_1 : decode cX10_start 1 = .ok (.getfield 19, 3) := by decide +kernel
theorem dX10_start_4 : decode cX10_start 4 = .ok (.ireturn, 1) := by decide +kernel
theorem dX10_end_0 : decode cX10_end 0 = .ok (.aload_n 0, 1) := by decide +kernel
theorem dX10_end_1 : decode cX10_end 1 = .ok (.getfield 22, 3) := by decide +kernel
theorem dX10_end_4 : decode cX10_end 4 = .ok (.ireturn, 1) := by decide +kernel
theorem dX10_tokenLength_0 : decode cX10_tokenLength 0 = .ok (.aload_n 0, 1) := by decide +kernel
theorem dX10_tokenLength_1 : decode cX10_tokenLength 1 = .ok (.getfield 22, 3) := by decide +kernel
theorem dX10_tokenLength_4 : decode cX10_tokenLength 4 = .ok (.aload_n 0, 1) := by decide +kernel
theorem dX10_tokenLength_5 : decode cX10_tokenLength 5 = .ok (.getfield 19, 3) := by decide +kernel
theorem dX10_tokenLength_8 : decode cX10_tokenLength 8 = .ok (.isub, 1) := by decide +kernel
theorem dX10_tokenLength_9 : decode cX10_tokenLength 9 = .ok (.ireturn, 1) := by decide +kernel
theorem dX10_isSign_0 : decode cX10_isSign 0 = .ok (.aload_n 0, 1) := by decide +kernel
theorem dX10_isSign_1 : decode cX10_isSign 1 = .ok (.invokevirtual 36, 3) := by decide +kernel
theorem dX10_isSign_4 : decode cX10_isSign 4 = .ok (.iconst 1, 1) := by decide +kernel
theorem dX10_isSign_5 : decode cX10_isSign 5 = .ok (.if_icmp .ne 19, 3) := by decide +kernel
theorem dX10_isSign_8 : decode cX10_isSign 8 = .ok (.aload_n 0, 1) := by decide +kernel
theorem dX10_isSign_9 : decode cX10_isSign 9 = .ok (.aload_n 0, 1) := by decide +kernel
theorem dX10_isSign_10 : decode cX10_isSign 10 = .ok (.getfield 19, 3) := by decide +kernel
theorem dX10_isSign_13 : decode cX10_isSign 13 = .ok (.invokevirtual 25, 3) := by decide +kernel
theorem dX10_isSign_16 : decode cX10_isSign 16 = .ok (.iload_n 1, 1) := by decide +kernel
theorem dX10_isSign_17 : decode cX10_isSign 17 = .ok (.if_icmp .ne 7, 3) := by decide +kernel
theorem dX10_isSign_20 : decode cX10_isSign 20 = .ok (.iconst 1, 1) := by decide +kernel
theorem dX10_isSign_21 : decode cX10_isSign 21 = .ok (.goto 4, 3) := by decide +kernel
theorem dX10_isSign_24 : decode cX10_isSign 24 = .ok (.iconst 0, 1) := by decide +kernel
theorem dX10_isSign_25 : decode cX10_isSign 25 = .ok (.ireturn, 1) := by decide +kernel
theorem dX10_isWord_0 : decode cX10_isWord 0 = .ok (.aload_n 0, 1) := by decide +kernel
theorem dX10_isWord_1 : decode cX10_isWord 1 = .ok (.invokevirtual 36, 3) := by decide +kernel
theorem dX10_isWord_4 : decode cX10_isWord 4 = .ok (.aload_n 1, 1) := by decide +kernel
theorem dX10_isWord_5 : decode cX10_isWord 5 = .ok (.invokevirtual 40, 3) := by decide +kernel
theorem dX10_isWord_8 : decode cX10_isWord 8 = .ok (.if_icmp .eq 5, 3) := by decide +kernel
theorem dX10_isWord_11 : decode cX10_isWord 11 = .ok (.iconst 0, 1) := by decide +kernel
theorem dX10_isWord_12 : decode cX10_isWord 12 = .ok (.ireturn, 1) := by decide +kernel
theorem dX10_isWord_13 : decode cX10_isWord 13 = .ok (.iconst 0, 1) := by decide +kernel
theorem dX10_isWord_14 : decode cX10_isWord 14 = .ok (.istore_n 2, 1) := by decide +kernel
theorem dX10_isWord_15 : decode cX10_isWord 15 = .ok (.iload_n 2, 1) := by decide +kernel
theorem dX10_isWord_16 : decode cX10_isWord 16 = .ok (.aload_n 1, 1) := by decide +kernel
theorem dX10_isWord_17 : decode cX10_isWord 17 = .ok (.invokevirtual 40, 3) := by decide +kernel
theorem dX10_isWord_20 : decode cX10_isWord 20 = .ok (.if_icmp .ge 29, 3) := by decide +kernel
theorem dX10_isWord_23 : decode cX10_isWord 23 = .ok (.aload_n 0, 1) := by decide +kernel
theorem dX10_isWord_24 : decode cX10_isWord 24 = .ok (.aload_n 0, 1) := by decide +kernel
theorem dX10_isWord_25 : decode cX10_isWord 25 = .ok (.getfield 19, 3) := by decide +kernel
theorem dX10_isWord_28 : decode cX10_isWord 28 = .ok (.iload_n 2, 1) := by decide +kernel
theorem dX10_isWord_29 : decode cX10_isWord 29 = .ok (.iadd, 1) := by decide +kernel
theorem dX10_isWord_30 : decode cX10_isWord 30 = .ok (.invokevirtual 25, 3) := by decide +kernel
theorem dX10_isWord_33 : decode cX10_isWord 33 = .ok (.aload_n 1, 1) := by decide +kernel
theorem dX10_isWord_34 : decode cX10_isWord 34 = .ok (.iload_n 2, 1) := by decide +kernel
theorem dX10_isWord_35 : decode cX10_isWord 35 = .ok (.invokevirtual 45, 3) := by decide +kernel
theorem dX10_isWord_38 : decode cX10_isWord 38 = .ok (.if_icmp .eq 5, 3) := by decide +kernel
theorem dX10_isWord_41 : decode cX10_isWord 41 = .ok (.iconst 0, 1) := by decide +kernel
theorem dX10_isWord_42 : decode cX10_isWord 42 = .ok (.ireturn, 1) := by decide +kernel
theorem dX10_isWord_43 : decode cX10_isWord 43 = .ok (.iinc 2 1, 3) := by decide +kernel
theorem dX10_isWord_46 : decode cX10_isWord 46 = .ok (.goto (-31), 3) := by decide +kernel
theorem dX10_isWord_49 : decode cX10_isWord 49 = .ok (.iconst 1, 1) := by decide +kernel
theorem dX10_isWord_50 : decode cX10_isWord 50 = .ok (.ireturn, 1) := by decide +kernel
theorem dX10_number_0 : decode cX10_number 0 = .ok (.aload_n 0, 1) := by decide +kernel
theorem dX10_number_1 : decode cX10_number 1 = .ok (.invokevirtual 36, 3) := by decide +kernel
theorem dX10_number_4 : decode cX10_number 4 = .ok (.iconst 1, 1) := by decide +kernel
theorem dX10_number_5 : decode cX10_number 5 = .ok (.if_icmp .ne 28, 3) := by decide +kernel
theorem dX10_number_8 : decode cX10_number 8 = .ok (.aload_n 0, 1) := by decide +kernel
theorem dX10_number_9 : decode cX10_number 9 = .ok (.aload_n 0, 1) := by decide +kernel
theorem dX10_number_10 : decode cX10_number 10 = .ok (.getfield 19, 3) := by decide +kernel
theorem dX10_number_13 : decode cX10_number 13 = .ok (.invokevirtual 33, 3) := by decide +kernel
theorem dX10_number_16 : decode cX10_number 16 = .ok (.ifCond .eq 17, 3) := by decide +kernel
theorem dX10_number_19 : decode cX10_number 19 = .ok (.aload_n 0, 1) := by decide +kernel
theorem dX10_number_20 : decode cX10_number 20 = .ok (.aload_n 0, 1) := by decide +kernel
theorem dX10_number_21 : decode cX10_number 21 = .ok (.getfield 19, 3) := by decide +kernel
theorem dX10_number_24 : decode cX10_number 24 = .ok (.invokevirtual 25, 3) := by decide +kernel
theorem dX10_number_27 : decode cX10_number 27 = .ok (.bipush 48, 2) := by decide +kernel
theorem dX10_number_29 : decode cX10_number 29 = .ok (.isub, 1) := by decide +kernel
theorem dX10_number_30 : decode cX10_number 30 = .ok (.goto 4, 3) := by decide +kernel
theorem dX10_number_33 : decode cX10_number 33 = .ok (.iconst (-1), 1) := by decide +kernel
theorem dX10_number_34 : decode cX10_number 34 = .ok (.ireturn, 1) := by decide +kernel
theorem dX11_init_0 : decode cX11_init 0 = .ok (.aload_n 0, 1) := by decide +kernel
theorem dX11_init_1 : decode cX11_init 1 = .ok (.invokespecial 3, 3) := by decide +kernel
theorem dX11_init_4 : decode cX11_init 4 = .ok (.aload_n 0, 1) := by decide +kernel
theorem dX11_init_5 : decode cX11_init 5 = .ok (.new 9, 3) := by decide +kernel
theorem dX11_init_8 : decode cX11_init 8 = .ok (.dup, 1) := by decide +kernel
theorem dX11_init_9 : decode cX11_init 9 = .ok (.invokespecial 11, 3) := by decide +kernel
theorem dX11_init_12 : decode cX11_init 12 = .ok (.putfield 12, 3) := by decide +kernel
theorem dX11_init_15 : decode cX11_init 15 = .ok (.aload_n 0, 1) := by decide +kernel
theorem dX11_init_16 : decode cX11_init 16 = .ok (.iconst 4, 1) := by decide +kernel
theorem dX11_init_17 : decode cX11_init 17 = .ok (.anewarray 16, 3) := by decide +kernel
theorem dX11_init_20 : decode cX11_init 20 = .ok (.putfield 18, 3) := by decide +kernel
theorem dX11_init_23 : decode cX11_init 23 = .ok (.iconst 0, 1) := by decide +kernel
theorem dX11_init_24 : decode cX11_init 24 = .ok (.istore_n 1, 1) := by decide +kernel
theorem dX11_init_25 : decode cX11_init 25 = .ok (.iload_n 1, 1) := by decide +kernel
theorem dX11_init_26 : decode cX11_init 26 = .ok (.aload_n 0, 1) := by decide +kernel
theorem dX11_init_27 : decode cX11_init 27 = .ok (.getfield 18, 3) := by decide +kernel
theorem dX11_init_30 : decode cX11_init 30 = .ok (.arraylength, 1) := by decide +kernel
theorem dX11_init_31 : decode cX11_init 31 = .ok (.if_icmp .ge 22, 3) := by decide +kernel
theorem dX11_init_34 : decode cX11_init 34 = .ok (.aload_n 0, 1) := by decide +kernel
theorem dX11_init_35 : decode cX11_init 35 = .ok (.getfield 18, 3) := by decide +kernel
theorem dX11_init_38 : decode cX11_init 38 = .ok (.iload_n 1, 1) := by decide +kernel
theorem dX11_init_39 : decode cX11_init 39 = .ok (.new 16, 3) := by decide +kernel
theorem dX11_init_42 : decode cX11_init 42 = .ok (.dup, 1) := by decide +kernel
theorem dX11_init_43 : decode cX11_init 43 = .ok (.invokespecial 22, 3) := by decide +kernel
theorem dX11_init_46 : decode cX11_init 46 = .ok (.aastore, 1) := by decide +kernel
theorem dX11_init_47 : decode cX11_init 47 = .ok (.iinc 1 1, 3) := by decide +kernel
theorem dX11_init_50 : decode cX11_init 50 = .ok (.goto (-25), 3) := by decide +kernel
theorem dX11_init_53 : decode cX11_init 53 = .ok (.aload_n 0, 1) := by decide +kernel
theorem dX11_init_54 : decode cX11_init 54 = .ok (.new 16, 3) := by decide +kernel
theorem dX11_init_57 : decode cX11_init 57 = .ok (.dup, 1) := by decide +kernel
theorem dX11_init_58 : decode cX11_init 58 = .ok (.invokespecial 22, 3) := by decide +kernel
theorem dX11_init_61 : decode cX11_init 61 = .ok (.putfield 23, 3) := by decide +kernel
theorem dX11_init_64 : decode cX11_init 64 = .ok (.aload_n 0, 1) := by decide +kernel
theorem dX11_init_65 : decode cX11_init 65 = .ok (.new 27, 3) := by decide +kernel
theorem dX11_init_68 : decode cX11_init 68 = .ok (.dup, 1) := by decide +kernel
theorem dX11_init_69 : decode cX11_init 69 = .ok (.invokespecial 29, 3) := by decide +kernel
theorem dX11_init_72 : decode cX11_init 72 = .ok (.putfield 30, 3) := by decide +kernel
theorem dX11_init_75 : decode cX11_init 75 = .ok (.aload_n 0, 1) := by decide +kernel
theorem dX11_init_76 : decode cX11_init 76 = .ok (.new 34, 3) := by decide +kernel
theorem dX11_init_79 : decode cX11_init 79 = .ok (.dup, 1) := by decide +kernel
theorem dX11_init_80 : decode cX11_init 80 = .ok (.aload_n 0, 1) := by decide +kernel
theorem dX11_init_81 : decode cX11_init 81 = .ok (.getfield 30, 3) := by decide +kernel
theorem dX11_init_84 : decode cX11_init 84 = .ok (.invokespecial 36, 3) := by decide +kernel
theorem dX11_init_87 : decode cX11_init 87 = .ok (.putfield 39, 3) := by decide +kernel
theorem dX11_init_90 : decode cX11_init 90 = .ok (.aload_n 0, 1) := by decide +kernel
theorem dX11_init_91 : decode cX11_init 91 = .ok (.new 43, 3) := by decide +kernel
theorem dX11_init_94 : decode cX11_init 94 = .ok (.dup, 1) := by decide +kernel
theorem dX11_init_95 : decode cX11_init 95 = .ok (.aload_n 0, 1) := by decide +kernel
theorem dX11_init_96 : decode cX11_init 96 = .ok (.getfield 12, 3) := by decide +kernel
theorem dX11_init_99 : decode cX11_init 99 = .ok (.invokespecial 45, 3) := by decide +kernel
theorem dX11_init_102 : decode cX11_init 102 = .ok (.putfield 48, 3) := by decide +kernel
theorem dX11_init_105 : decode cX11_init 105 = .ok (.aload_n 0, 1) := by decide +kernel
theorem dX11_init_106 : decode cX11_init 106 = .ok (.new 52, 3) := by decide +kernel
theorem dX11_init_109 : decode cX11_init 109 = .ok (.dup, 1) := by decide +kernel
theorem dX11_init_110 : decode cX11_init 110 = .ok (.aload_n 0, 1) := by decide +kernel
theorem dX11_init_111 : decode cX11_init 111 = .ok (.getfield 48, 3) := by decide +kernel
theorem dX11_init_114 : decode cX11_init 114 = .ok (.invokespecial 54, 3) := by decide +kernel
theorem dX11_init_117 : decode cX11_init 117 = .ok (.putfield 57, 3) := by decide +kernel
theorem dX11_init_120 : decode cX11_init 120 = .ok (.aload_n 0, 1) := by decide +kernel
theorem dX11_init_121 : decode cX11_init 121 = .ok (.new 61, 3) := by decide +kernel
theorem dX11_init_124 : decode cX11_init 124 = .ok (.dup, 1) := by decide +kernel
theorem dX11_init_125 : decode cX11_init 125 = .ok (.aload_n 0, 1) := by decide +kernel
theorem dX11_init_126 : decode cX11_init 126 = .ok (.getfield 12, 3) := by decide +kernel
theorem dX11_init_129 : decode cX11_init 129 = .ok (.invokespecial 63, 3) := by decide +kernel
theorem dX11_init_132 : decode cX11_init 132 = .ok (.putfield 64, 3) := by decide +kernel
theorem dX11_init_135 : decode cX11_init 135 = .ok (.aload_n 0, 1) := by decide +kernel
theorem dX11_init_136 : decode cX11_init 136 = .ok (.new 68, 3) := by decide +kernel
theorem dX11_init_139 : decode cX11_init 139 = .ok (.dup, 1) := by decide +kernel
theorem dX11_init_140 : decode cX11_init 140 = .ok (.aload_n 0, 1) := by decide +kernel
theorem dX11_init_141 : decode cX11_init 141 = .ok (.getfield 12, 3) := by decide +kernel
theorem dX11_init_144 : decode cX11_init 144 = .ok (.aload_n 0, 1) := by decide +kernel
theorem dX11_init_145 : decode cX11_init 145 = .ok (.getfield 48, 3) := by decide +kernel
theorem dX11_init_148 : decode cX11_init 148 = .ok (.invokespecial 70, 3) := by decide +kernel
theorem dX11_init_151 : decode cX11_init 151 = .ok (.putfield 73, 3) := by decide +kernel
theorem dX11_init_154 : decode cX11_init 154 = .ok (.aload_n 0, 1) := by decide +kernel
theorem dX11_init_155 : decode cX11_init 155 = .ok (.new 77, 3) := by decide +kernel
theorem dX11_init_158 : decode cX11_init 158 = .ok (.dup, 1) := by decide +kernel
theorem dX11_init_159 : decode cX11_init 159 = .ok (.aload_n 0, 1) := by decide +kernel
theorem dX11_init_160 : decode cX11_init 160 = .ok (.getfield 12, 3) := by decide +kernel
theorem dX11_init_163 : decode cX11_init 163 = .ok (.invokespecial 79, 3) := by decide +kernel
theorem dX11_init_166 : decode cX11_init 166 = .ok (.putfield 80, 3) := by decide +kernel
theorem dX11_init_169 : decode cX11_init 169 = .ok (.aload_n 0, 1) := by decide +kernel
theorem dX11_init_170 : decode cX11_init 170 = .ok (.new 84, 3) := by decide +kernel
theorem dX11_init_173 : decode cX11_init 173 = .ok (.dup, 1) := by decide +kernel
theorem dX11_init_174 : decode cX11_init 174 = .ok (.aload_n 0, 1) := by decide +kernel
theorem dX11_init_175 : decode cX11_init 175 = .ok (.getfield 12, 3) := by decide +kernel
theorem dX11_init_178 : decode cX11_init 178 = .ok (.aload_n 0, 1) := by decide +kernel
theorem dX11_init_179 : decode cX11_init 179 = .ok (.getfield 80, 3) := by decide +kernel
theorem dX11_init_182 : decode cX11_init 182 = .ok (.invokespecial 86, 3) := by decide +kernel
theorem dX11_init_185 : decode cX11_init 185 = .ok (.putfield 89, 3) := by decide +kernel
theorem dX11_init_188 : decode cX11_init 188 = .ok (.return_, 1) := by decide +kernel
theorem dX11_write_0 : decode cX11_write 0 = .ok (.iload_n 3, 1) := by decide +kernel
theorem dX11_write_1 : decode cX11_write 1 = .ok (.iconst 1, 1) := by decide +kernel
theorem dX11_write_2 : decode cX11_write 2 = .ok (.if_icmp .lt 9, 3) := by decide +kernel
theorem dX11_write_5 : decode cX11_write 5 = .ok (.iload_n 3, 1) := by decide +kernel
theorem dX11_write_6 : decode cX11_write 6 = .ok (.bipush 8, 2) := by decide +kernel
theorem dX11_write_8 : decode cX11_write 8 = .ok (.if_icmp .le 6, 3) := by decide +kernel
theorem dX11_write_11 : decode cX11_write 11 = .ok (.bipush (-3), 2) := by decide +kernel
theorem dX11_write_13 : decode cX11_write 13 = .ok (.ireturn, 1) := by decide +kernel
theorem dX11_write_14 : decode cX11_write 14 = .ok (.aload_n 0, 1) := by decide +kernel
theorem dX11_write_15 : decode cX11_write 15 = .ok (.getfield 30, 3) := by decide +kernel
theorem dX11_write_18 : decode cX11_write 18 = .ok (.invokevirtual 93, 3) := by decide +kernel
theorem dX11_write_21 : decode cX11_write 21 = .ok (.iload_n 3, 1) := by decide +kernel
theorem dX11_write_22 : decode cX11_write 22 = .ok (.iadd, 1) := by decide +kernel
theorem dX11_write_23 : decode cX11_write 23 = .ok (.sipush 160, 3) := by decide +kernel
theorem dX11_write_26 : decode cX11_write 26 = .ok (.if_icmp .le 6, 3) := by decide +kernel
theorem dX11_write_29 : decode cX11_write 29 = .ok (.bipush (-5), 2) := by decide +kernel
theorem dX11_write_31 : decode cX11_write 31 = .ok (.ireturn, 1) := by decide +kernel
theorem dX11_write_32 : decode cX11_write 32 = .ok (.iconst 0, 1) := by decide +kernel
theorem dX11_write_33 : decode cX11_write 33 = .ok (.istore 4, 2) := by decide +kernel
theorem dX11_write_35 : decode cX11_write 35 = .ok (.iload 4, 2) := by decide +kernel
theorem dX11_write_37 : decode cX11_write 37 = .ok (.iload_n 3, 1) := by decide +kernel
theorem dX11_write_38 : decode cX11_write 38 = .ok (.if_icmp .ge 28, 3) := by decide +kernel
theorem dX11_write_41 : decode cX11_write 41 = .ok (.aload_n 0, 1) := by decide +kernel
theorem dX11_write_42 : decode cX11_write 42 = .ok (.getfield 30, 3) := by decide +kernel
theorem dX11_write_45 : decode cX11_write 45 = .ok (.lload_n 1, 1) := by decide +kernel
theorem dX11_write_46 : decode cX11_write 46 = .ok (.bipush 8, 2) := by decide +kernel
theorem dX11_write_48 : decode cX11_write 48 = .ok (.iload 4, 2) := by decide +kernel
theorem dX11_write_50 : decode cX11_write 50 = .ok (.imul, 1) := by decide +kernel
theorem dX11_write_51 : decode cX11_write 51 = .ok (.lshr, 1) := by decide +kernel
theorem dX11_write_52 : decode cX11_write 52 = .ok (.ldc2_w 97, 3) := by decide +kernel
theorem dX11_write_55 : decode cX11_write 55 = .ok (.land, 1) := by decide +kernel
theorem dX11_write_56 : decode cX11_write 56 = .ok (.l2i, 1) := by decide +kernel
theorem dX11_write_57 : decode cX11_write 57 = .ok (.invokevirtual 99, 3) := by decide +kernel
theorem dX11_write_60 : decode cX11_write 60 = .ok (.iinc 4 1, 3) := by decide +kernel
theorem dX11_write_63 : decode cX11_write 63 = .ok (.goto (-28), 3) := by decide +kernel
theorem dX11_write_66 : decode cX11_write 66 = .ok (.aload_n 0, 1) := by decide +kernel
theorem dX11_write_67 : decode cX11_write 67 = .ok (.getfield 30, 3) := by decide +kernel
theorem dX11_write_70 : decode cX11_write 70 = .ok (.invokevirtual 93, 3) := by decide +kernel
theorem dX11_write_73 : decode cX11_write 73 = .ok (.ireturn, 1) := by decide +kernel
theorem dX11_erase_0 : decode cX11_erase 0 = .ok (.aload_n 0, 1) := by decide +kernel
theorem dX11_erase_1 : decode cX11_erase 1 = .ok (.getfield 30, 3) := by decide +kernel
theorem dX11_erase_4 : decode cX11_erase 4 = .ok (.invokevirtual 93, 3) := by decide +kernel
theorem dX11_erase_7 : decode cX11_erase 7 = .ok (.istore_n 1, 1) := by decide +kernel
theorem dX11_erase_8 : decode cX11_erase 8 = .ok (.aload_n 0, 1) := by decide +kernel
theorem dX11_erase_9 : decode cX11_erase 9 = .ok (.getfield 30, 3) := by decide +kernel
theorem dX11_erase_12 : decode cX11_erase 12 = .ok (.invokevirtual 103, 3) := by decide +kernel
theorem dX11_erase_15 : decode cX11_erase 15 = .ok (.iload_n 1, 1) := by decide +kernel
theorem dX11_erase_16 : decode cX11_erase 16 = .ok (.ireturn, 1) := by decide +kernel
theorem dX11_fault_0 : decode cX11_fault 0 = .ok (.aload_n 0, 1) := by decide +kernel
theorem dX11_fault_1 : decode cX11_fault 1 = .ok (.getfield 39, 3) := by decide +kernel
theorem dX11_fault_4 : decode cX11_fault 4 = .ok (.aload_n 0, 1) := by decide +kernel
theorem dX11_fault_5 : decode cX11_fault 5 = .ok (.getfield 12, 3) := by decide +kernel
theorem dX11_fault_8 : decode cX11_fault 8 = .ok (.invokevirtual 106, 3) := by decide +kernel
theorem dX11_fault_11 : decode cX11_fault 11 = .ok (.invokevirtual 107, 3) := by decide +kernel
theorem dX11_fault_14 : decode cX11_fault 14 = .ok (.ireturn, 1) := by decide +kernel
theorem dX11_told_0 : decode cX11_told 0 = .ok (.aload_n 0, 1) := by decide +kernel
theorem dX11_told_1 : decode cX11_told 1 = .ok (.getfield 39, 3) := by decide +kernel
theorem dX11_told_4 : decode cX11_told 4 = .ok (.aload_n 0, 1) := by decide +kernel
theorem dX11_told_5 : decode cX11_told 5 = .ok (.getfield 12, 3) := by decide +kernel
theorem dX11_told_8 : decode cX11_told 8 = .ok (.invokevirtual 106, 3) := by decide +kernel
theorem dX11_told_11 : decode cX11_told 11 = .ok (.invokevirtual 107, 3) := by decide +kernel
theorem dX11_told_14 : decode cX11_told 14 = .ok (.iconst (-1), 1) := by decide +kernel
theorem dX11_told_15 : decode cX11_told 15 = .ok (.if_icmp .eq 6, 3) := by decide +kernel
theorem dX11_told_18 : decode cX11_told 18 = .ok (.bipush (-4), 2) := by decide +kernel
theorem dX11_told_20 : decode cX11_told 20 = .ok (.ireturn, 1) := by decide +kernel
theorem dX11_told_21 : decode cX11_told 21 = .ok (.aload_n 0, 1) := by decide +kernel
theorem dX11_told_22 : decode cX11_told 22 = .ok (.getfield 39, 3) := by decide +kernel
theorem dX11_told_25 : decode cX11_told 25 = .ok (.invokevirtual 111, 3) := by decide +kernel
theorem dX11_told_28 : decode cX11_told 28 = .ok (.istore_n 1, 1) := by decide +kernel
theorem dX11_told_29 : decode cX11_told 29 = .ok (.iconst 0, 1) := by decide +kernel
theorem dX11_told_30 : decode cX11_told 30 = .ok (.istore_n 2, 1) := by decide +kernel
theorem dX11_told_31 : decode cX11_told 31 = .ok (.iload_n 2, 1) := by decide +kernel
theorem dX11_told_32 : decode cX11_told 32 = .ok (.iload_n 1, 1) := by decide +kernel
theorem dX11_told_33 : decode cX11_told 33 = .ok (.if_icmp .ge 21, 3) := by decide +kernel
theorem dX11_told_36 : decode cX11_told 36 = .ok (.aload_n 0, 1) := by decide +kernel
theorem dX11_told_37 : decode cX11_told 37 = .ok (.aload_n 0, 1) := by decide +kernel
theorem dX11_told_38 : decode cX11_told 38 = .ok (.getfield 39, 3) := by decide +kernel
theorem dX11_told_41 : decode cX11_told 41 = .ok (.iload_n 2, 1) := by decide +kernel
theorem dX11_told_42 : decode cX11_told 42 = .ok (.invokevirtual 112, 3) := by decide +kernel
theorem dX11_told_45 : decode cX11_told 45 = .ok (.invokevirtual 116, 3) := by decide +kernel
theorem dX11_told_48 : decode cX11_told 48 = .ok (.iinc 2 1, 3) := by decide +kernel
theorem dX11_told_51 : decode cX11_told 51 = .ok (.goto (-20), 3) := by decide +kernel
theorem dX11_told_54 : decode cX11_told 54 = .ok (.aload_n 0, 1) := by decide +kernel
theorem dX11_told_55 : decode cX11_told 55 = .ok (.getfield 30, 3) := by decide +kernel
theorem dX11_told_58 : decode cX11_told 58 = .ok (.invokevirtual 103, 3) := by decide +kernel
theorem dX11_told_61 : decode cX11_told 61 = .ok (.iload_n 1, 1) := by decide +kernel
theorem dX11_told_62 : decode cX11_told 62 = .ok (.ireturn, 1) := by decide +kernel
theorem dX11_free_0 : decode cX11_free 0 = .ok (.aload_n 0, 1) := by decide +kernel
theorem dX11_free_1 : decode cX11_free 1 = .ok (.getfield 12, 3) := by decide +kernel
theorem dX11_free_4 : decode cX11_free 4 = .ok (.iload_n 1, 1) := by decide +kernel
theorem dX11_free_5 : decode cX11_free 5 = .ok (.invokevirtual 120, 3) := by decide +kernel
theorem dX11_free_8 : decode cX11_free 8 = .ok (.ifCond .eq 19, 3) := by decide +kernel
theorem dX11_free_11 : decode cX11_free 11 = .ok (.aload_n 0, 1) := by decide +kernel
theorem dX11_free_12 : decode cX11_free 12 = .ok (.getfield 12, 3) := by decide +kernel
theorem dX11_free_15 : decode cX11_free 15 = .ok (.iload_n 2, 1) := by decide +kernel
theorem dX11_free_16 : decode cX11_free 16 = .ok (.invokevirtual 120, 3) := by decide +kernel
theorem dX11_free_19 : decode cX11_free 19 = .ok (.ifCond .eq 8, 3) := by decide +kernel
theorem dX11_free_22 : decode cX11_free 22 = .ok (.iload_n 1, 1) := by decide +kernel
theorem dX11_free_23 : decode cX11_free 23 = .ok (.iload_n 2, 1) := by decide +kernel
theorem dX11_free_24 : decode cX11_free 24 = .ok (.if_icmp .ne 6, 3) := by decide +kernel
theorem dX11_free_27 : decode cX11_free 27 = .ok (.bipush (-2), 2) := by decide +kernel
theorem dX11_free_29 : decode cX11_free 29 = .ok (.ireturn, 1) := by decide +kernel
theorem dX11_free_30 : decode cX11_free 30 = .ok (.aload_n 0, 1) := by decide +kernel
theorem dX11_free_31 : decode cX11_free 31 = .ok (.getfield 12, 3) := by decide +kernel
theorem dX11_free_34 : decode cX11_free 34 = .ok (.iload_n 1, 1) := by decide +kernel
theorem dX11_free_35 : decode cX11_free 35 = .ok (.iload_n 2, 1) := by decide +kernel
theorem dX11_free_36 : decode cX11_free 36 = .ok (.invokevirtual 124, 3) := by decide +kernel
theorem dX11_free_39 : decode cX11_free 39 = .ok (.invokestatic 128, 3) := by decide +kernel
theorem dX11_free_42 : decode cX11_free 42 = .ok (.istore 4, 2) := by decide +kernel
theorem dX11_free_44 : decode cX11_free 44 = .ok (.aload_n 0, 1) := by decide +kernel
theorem dX11_free_45 : decode cX11_free 45 = .ok (.getfield 12, 3) := by decide +kernel
theorem dX11_free_48 : decode cX11_free 48 = .ok (.iload_n 1, 1) := by decide +kernel
theorem dX11_free_49 : decode cX11_free 49 = .ok (.iload_n 2, 1) := by decide +kernel
theorem dX11_free_50 : decode cX11_free 50 = .ok (.iload_n 3, 1) := by decide +kernel
theorem dX11_free_51 : decode cX11_free 51 = .ok (.invokevirtual 132, 3) := by decide +kernel
theorem dX11_free_54 : decode cX11_free 54 = .ok (.iload 4, 2) := by decide +kernel
theorem dX11_free_56 : decode cX11_free 56 = .ok (.ireturn, 1) := by decide +kernel
theorem dX11_add_0 : decode cX11_add 0 = .ok (.aload_n 0, 1) := by decide +kernel
theorem dX11_add_1 : decode cX11_add 1 = .ok (.iload_n 1, 1) := by decide +kernel
theorem dX11_add_2 : decode cX11_add 2 = .ok (.invokevirtual 136, 3) := by decide +kernel
theorem dX11_add_5 : decode cX11_add 5 = .ok (.astore_n 3, 1) := by decide +kernel
theorem dX11_add_6 : decode cX11_add 6 = .ok (.aload_n 3, 1) := by decide +kernel
theorem dX11_add_7 : decode cX11_add 7 = .ok (.ifnull 14, 3) := by decide +kernel
theorem dX11_add_10 : decode cX11_add 10 = .ok (.aload_n 0, 1) := by decide +kernel
theorem dX11_add_11 : decode cX11_add 11 = .ok (.getfield 12, 3) := by decide +kernel
theorem dX11_add_14 : decode cX11_add 14 = .ok (.iload_n 2, 1) := by decide +kernel
theorem dX11_add_15 : decode cX11_add 15 = .ok (.invokevirtual 120, 3) := by decide +kernel
theorem dX11_add_18 : decode cX11_add 18 = .ok (.ifCond .ne 6, 3) := by decide +kernel
theorem dX11_add_21 : decode cX11_add 21 = .ok (.bipush (-2), 2) := by decide +kernel
theorem dX11_add_23 : decode cX11_add 23 = .ok (.ireturn, 1) := by decide +kernel
theorem dX11_add_24 : decode cX11_add 24 = .ok (.aload_n 3, 1) := by decide +kernel
theorem dX11_add_25 : decode cX11_add 25 = .ok (.iload_n 2, 1) := by decide +kernel
theorem dX11_add_26 : decode cX11_add 26 = .ok (.invokevirtual 140, 3) := by decide +kernel
theorem dX11_add_29 : decode cX11_add 29 = .ok (.ifCond .eq 10, 3) := by decide +kernel
theorem dX11_add_32 : decode cX11_add 32 = .ok (.aload_n 3, 1) := by decide +kernel
theorem dX11_add_33 : decode cX11_add 33 = .ok (.invokevirtual 142, 3) := by decide +kernel
theorem dX11_add_36 : decode cX11_add 36 = .ok (.goto 5, 3) := by decide +kernel
theorem dX11_add_39 : decode cX11_add 39 = .ok (.bipush (-5), 2) := by decide +kernel
theorem dX11_add_41 : decode cX11_add 41 = .ok (.ireturn, 1) := by decide +kernel
theorem dX11_clear_0 : decode cX11_clear 0 = .ok (.aload_n 0, 1) := by decide +kernel
theorem dX11_clear_1 : decode cX11_clear 1 = .ok (.iload_n 1, 1) := by decide +kernel
theorem dX11_clear_2 : decode cX11_clear 2 = .ok (.invokevirtual 136, 3) := by decide +kernel
theorem dX11_clear_5 : decode cX11_clear 5 = .ok (.astore_n 2, 1) := by decide +kernel
theorem dX11_clear_6 : decode cX11_clear 6 = .ok (.aload_n 2, 1) := by decide +kernel
theorem dX11_clear_7 : decode cX11_clear 7 = .ok (.ifnonnull 6, 3) := by decide +kernel
theorem dX11_clear_10 : decode cX11_clear 10 = .ok (.bipush (-2), 2) := by decide +kernel
theorem dX11_clear_12 : decode cX11_clear 12 = .ok (.ireturn, 1) := by decide +kernel
theorem dX11_clear_13 : decode cX11_clear 13 = .ok (.aload_n 2, 1) := by decide +kernel
theorem dX11_clear_14 : decode cX11_clear 14 = .ok (.invokevirtual 142, 3) := by decide +kernel
theorem dX11_clear_17 : decode cX11_clear 17 = .ok (.istore_n 3, 1) := by decide +kernel
theorem dX11_clear_18 : decode cX11_clear 18 = .ok (.aload_n 2, 1) := by decide +kernel
theorem dX11_clear_19 : decode cX11_clear 19 = .ok (.invokevirtual 145, 3) := by decide +kernel
theorem dX11_clear_22 : decode cX11_clear 22 = .ok (.iload_n 3, 1) := by decide +kernel
theorem dX11_clear_23 : decode cX11_clear 23 = .ok (.ireturn, 1) := by decide +kernel
theorem dX11_letter_0 : decode cX11_letter 0 = .ok (.aload_n 0, 1) := by decide +kernel
theorem dX11_letter_1 : decode cX11_letter 1 = .ok (.iload_n 1, 1) := by decide +kernel
theorem dX11_letter_2 : decode cX11_letter 2 = .ok (.invokevirtual 136, 3) := by decide +kernel
theorem dX11_letter_5 : decode cX11_letter 5 = .ok (.astore 4, 2) := by decide +kernel
theorem dX11_letter_7 : decode cX11_letter 7 = .ok (.aload 4, 2) := by decide +kernel
theorem dX11_letter_9 : decode cX11_letter 9 = .ok (.ifnonnull 6, 3) := by decide +kernel
theorem dX11_letter_12 : decode cX11_letter 12 = .ok (.bipush (-2), 2) := by decide +kernel
theorem dX11_letter_14 : decode cX11_letter 14 = .ok (.ireturn, 1) := by decide +kernel
theorem dX11_letter_15 : decode cX11_letter 15 = .ok (.iload_n 2, 1) := by decide +kernel
theorem dX11_letter_16 : decode cX11_letter 16 = .ok (.ifCond .lt 12, 3) := by decide +kernel
theorem dX11_letter_19 : decode cX11_letter 19 = .ok (.iload_n 3, 1) := by decide +kernel
theorem dX11_letter_20 : decode cX11_letter 20 = .ok (.ifCond .lt 8, 3) := by decide +kernel
theorem dX11_letter_23 : decode cX11_letter 23 = .ok (.iload_n 3, 1) := by decide +kernel
theorem dX11_letter_24 : decode cX11_letter 24 = .ok (.iconst 1, 1) := by decide +kernel
theorem dX11_letter_25 : decode cX11_letter 25 = .ok (.if_icmp .le 6, 3) := by decide +kernel
theorem dX11_letter_28 : decode cX11_letter 28 = .ok (.bipush (-3), 2) := by decide +kernel
theorem dX11_letter_30 : decode cX11_letter 30 = .ok (.ireturn, 1) := by decide +kernel
theorem dX11_letter_31 : decode cX11_letter 31 = .ok (.iload_n 3, 1) := by decide +kernel
theorem dX11_letter_32 : decode cX11_letter 32 = .ok (.ifCond .ne 10, 3) := by decide +kernel
theorem dX11_letter_35 : decode cX11_letter 35 = .ok (.aload 4, 2) := by decide +kernel
theorem dX11_letter_37 : decode cX11_letter 37 = .ok (.iload_n 2, 1) := by decide +kernel
theorem dX11_letter_38 : decode cX11_letter 38 = .ok (.invokevirtual 146, 3) := by decide +kernel
theorem dX11_letter_41 : decode cX11_letter 41 = .ok (.ireturn, 1) := by decide +kernel
theorem dX11_letter_42 : decode cX11_letter 42 = .ok (.aload_n 0, 1) := by decide +kernel
theorem dX11_letter_43 : decode cX11_letter 43 = .ok (.getfield 48, 3) := by decide +kernel
theorem dX11_letter_46 : decode cX11_letter 46 = .ok (.aload 4, 2) := by decide +kernel
theorem dX11_letter_48 : decode cX11_letter 48 = .ok (.aload_n 0, 1) := by decide +kernel
theorem dX11_letter_49 : decode cX11_letter 49 = .ok (.getfield 23, 3) := by decide +kernel
theorem dX11_letter_52 : decode cX11_letter 52 = .ok (.invokevirtual 148, 3) := by decide +kernel
theorem dX11_letter_55 : decode cX11_letter 55 = .ok (.aload_n 0, 1) := by decide +kernel
theorem dX11_letter_56 : decode cX11_letter 56 = .ok (.getfield 23, 3) := by decide +kernel
theorem dX11_letter_59 : decode cX11_letter 59 = .ok (.iload_n 2, 1) := by decide +kernel
theorem dX11_letter_60 : decode cX11_letter 60 = .ok (.invokevirtual 146, 3) := by decide +kernel
theorem dX11_letter_63 : decode cX11_letter 63 = .ok (.ireturn, 1) := by decide +kernel
theorem dX11_same_0 : decode cX11_same 0 = .ok (.aload_n 0, 1) := by decide +kernel
theorem dX11_same_1 : decode cX11_same 1 = .ok (.iload_n 1, 1) := by decide +kernel
theorem dX11_same_2 : decode cX11_same 2 = .ok (.invokevirtual 136, 3) := by decide +kernel
theorem dX11_same_5 : decode cX11_same 5 = .ok (.astore_n 3, 1) := by decide +kernel
theorem dX11_same_6 : decode cX11_same 6 = .ok (.aload_n 0, 1) := by decide +kernel
theorem dX11_same_7 : decode cX11_same 7 = .ok (.iload_n 2, 1) := by decide +kernel
theorem dX11_same_8 : decode cX11_same 8 = .ok (.invokevirtual 136, 3) := by decide +kernel
theorem dX11_same_11 : decode cX11_same 11 = .ok (.astore 4, 2) := by decide +kernel
theorem dX11_same_13 : decode cX11_same 13 = .ok (.aload_n 3, 1) := by decide +kernel
theorem dX11_same_14 : decode cX11_same 14 = .ok (.ifnull 8, 3) := by decide +kernel
theorem dX11_same_17 : decode cX11_same 17 = .ok (.aload 4, 2) := by decide +kernel
theorem dX11_same_19 : decode cX11_same 19 = .ok (.ifnonnull 6, 3) := by decide +kernel
theorem dX11_same_22 : decode cX11_same 22 = .ok (.bipush (-2), 2) := by decide +kernel
theorem dX11_same_24 : decode cX11_same 24 = .ok (.ireturn, 1) := by decide +kernel
theorem dX11_same_25 : decode cX11_same 25 = .ok (.aload_n 0, 1) := by decide +kernel
theorem dX11_same_26 : decode cX11_same 26 = .ok (.getfield 48, 3) := by decide +kernel
theorem dX11_same_29 : decode cX11_same 29 = .ok (.aload_n 3, 1) := by decide +kernel
theorem dX11_same_30 : decode cX11_same 30 = .ok (.aload 4, 2) := by decide +kernel
theorem dX11_same_32 : decode cX11_same 32 = .ok (.invokevirtual 152, 3) := by decide +kernel
theorem dX11_same_35 : decode cX11_same 35 = .ok (.invokestatic 128, 3) := by decide +kernel
theorem dX11_same_38 : decode cX11_same 38 = .ok (.ireturn, 1) := by decide +kernel
theorem dX11_apart_0 : decode cX11_apart 0 = .ok (.aload_n 0, 1) := by decide +kernel
theorem dX11_apart_1 : decode cX11_apart 1 = .ok (.iload_n 1, 1) := by decide +kernel
theorem dX11_apart_2 : decode cX11_apart 2 = .ok (.invokevirtual 136, 3) := by decide +kernel
theorem dX11_apart_5 : decode cX11_apart 5 = .ok (.astore_n 3, 1) := by decide +kernel
theorem dX11_apart_6 : decode cX11_apart 6 = .ok (.aload_n 0, 1) := by decide +kernel
theorem dX11_apart_7 : decode cX11_apart 7 = .ok (.iload_n 2, 1) := by decide +kernel
theorem dX11_apart_8 : decode cX11_apart 8 = .ok (.invokevirtual 136, 3) := by decide +kernel
theorem dX11_apart_11 : decode cX11_apart 11 = .ok (.astore 4, 2) := by decide +kernel
theorem dX11_apart_13 : decode cX11_apart 13 = .ok (.aload_n 3, 1) := by decide +kernel
theorem dX11_apart_14 : decode cX11_apart 14 = .ok (.ifnull 8, 3) := by decide +kernel
theorem dX11_apart_17 : decode cX11_apart 17 = .ok (.aload 4, 2) := by decide +kernel
theorem dX11_apart_19 : decode cX11_apart 19 = .ok (.ifnonnull 6, 3) := by decide +kernel
theorem dX11_apart_22 : decode cX11_apart 22 = .ok (.bipush (-2), 2) := by decide +kernel
theorem dX11_apart_24 : decode cX11_apart 24 = .ok (.ireturn, 1) := by decide +kernel
theorem dX11_apart_25 : decode cX11_apart 25 = .ok (.aload_n 0, 1) := by decide +kernel
theorem dX11_apart_26 : decode cX11_apart 26 = .ok (.getfield 48, 3) := by decide +kernel
theorem dX11_apart_29 : decode cX11_apart 29 = .ok (.aload_n 3, 1) := by decide +kernel
theorem dX11_apart_30 : decode cX11_apart 30 = .ok (.aload 4, 2) := by decide +kernel
theorem dX11_apart_32 : decode cX11_apart 32 = .ok (.invokevirtual 156, 3) := by decide +kernel
theorem dX11_apart_35 : decode cX11_apart 35 = .ok (.ireturn, 1) := by decide +kernel
theorem dX11_layer_0 : decode cX11_layer 0 = .ok (.aload_n 0, 1) := by decide +kernel
theorem dX11_layer_1 : decode cX11_layer 1 = .ok (.iload_n 1, 1) := by decide +kernel
theorem dX11_layer_2 : decode cX11_layer 2 = .ok (.invokevirtual 136, 3) := by decide +kernel
theorem dX11_layer_5 : decode cX11_layer 5 = .ok (.astore_n 3, 1) := by decide +kernel
theorem dX11_layer_6 : decode cX11_layer 6 = .ok (.aload_n 3, 1) := by decide +kernel
theorem dX11_layer_7 : decode cX11_layer 7 = .ok (.ifnonnull 6, 3) := by decide +kernel
theorem dX11_layer_10 : decode cX11_layer 10 = .ok (.bipush (-2), 2) := by decide +kernel
theorem dX11_layer_12 : decode cX11_layer 12 = .ok (.ireturn, 1) := by decide +kernel
theorem dX11_layer_13 : decode cX11_layer 13 = .ok (.iload_n 2, 1) := by decide +kernel
theorem dX11_layer_14 : decode cX11_layer 14 = .ok (.iconst (-1), 1) := by decide +kernel
theorem dX11_layer_15 : decode cX11_layer 15 = .ok (.if_icmp .ge 8, 3) := by decide +kernel
theorem dX11_layer_18 : decode cX11_layer 18 = .ok (.bipush (-3), 2) := by decide +kernel
theorem dX11_layer_20 : decode cX11_layer 20 = .ok (.goto 12, 3) := by decide +kernel
theorem dX11_layer_23 : decode cX11_layer 23 = .ok (.aload_n 0, 1) := by decide +kernel
theorem dX11_layer_24 : decode cX11_layer 24 = .ok (.getfield 48, 3) := by decide +kernel
theorem dX11_layer_27 : decode cX11_layer 27 = .ok (.aload_n 3, 1) := by decide +kernel
theorem dX11_layer_28 : decode cX11_layer 28 = .ok (.iload_n 2, 1) := by decide +kernel
theorem dX11_layer_29 : decode cX11_layer 29 = .ok (.invokevirtual 160, 3) := by decide +kernel
theorem dX11_layer_32 : decode cX11_layer 32 = .ok (.ireturn, 1) := by decide +kernel
theorem dX11_ahead_0 : decode cX11_ahead 0 = .ok (.aload_n 0, 1) := by decide +kernel
theorem dX11_ahead_1 : decode cX11_ahead 1 = .ok (.iload_n 1, 1) := by decide +kernel
theorem dX11_ahead_2 : decode cX11_ahead 2 = .ok (.invokevirtual 136, 3) := by decide +kernel
theorem dX11_ahead_5 : decode cX11_ahead 5 = .ok (.astore 4, 2) := by decide +kernel
theorem dX11_ahead_7 : decode cX11_ahead 7 = .ok (.aload 4, 2) := by decide +kernel
theorem dX11_ahead_9 : decode cX11_ahead 9 = .ok (.ifnonnull 6, 3) := by decide +kernel
theorem dX11_ahead_12 : decode cX11_ahead 12 = .ok (.bipush (-2), 2) := by decide +kernel
theorem dX11_ahead_14 : decode cX11_ahead 14 = .ok (.ireturn, 1) := by decide +kernel
theorem dX11_ahead_15 : decode cX11_ahead 15 = .ok (.aload 4, 2) := by decide +kernel
theorem dX11_ahead_17 : decode cX11_ahead 17 = .ok (.iload_n 2, 1) := by decide +kernel
theorem dX11_ahead_18 : decode cX11_ahead 18 = .ok (.invokevirtual 164, 3) := by decide +kernel
theorem dX11_ahead_21 : decode cX11_ahead 21 = .ok (.ifCond .eq 12, 3) := by decide +kernel
theorem dX11_ahead_24 : decode cX11_ahead 24 = .ok (.aload 4, 2) := by decide +kernel
theorem dX11_ahead_26 : decode cX11_ahead 26 = .ok (.iload_n 3, 1) := by decide +kernel
theorem dX11_ahead_27 : decode cX11_ahead 27 = .ok (.invokevirtual 164, 3) := by decide +kernel
theorem dX11_ahead_30 : decode cX11_ahead 30 = .ok (.ifCond .ne 6, 3) := by decide +kernel
theorem dX11_ahead_33 : decode cX11_ahead 33 = .ok (.bipush (-3), 2) := by decide +kernel
theorem dX11_ahead_35 : decode cX11_ahead 35 = .ok (.ireturn, 1) := by decide +kernel
theorem dX11_ahead_36 : decode cX11_ahead 36 = .ok (.aload_n 0, 1) := by decide +kernel
theorem dX11_ahead_37 : decode cX11_ahead 37 = .ok (.getfield 48, 3) := by decide +kernel
theorem dX11_ahead_40 : decode cX11_ahead 40 = .ok (.aload 4, 2) := by decide +kernel
theorem dX11_ahead_42 : decode cX11_ahead 42 = .ok (.iload_n 2, 1) := by decide +kernel
theorem dX11_ahead_43 : decode cX11_ahead 43 = .ok (.iload_n 3, 1) := by decide +kernel
theorem dX11_ahead_44 : decode cX11_ahead 44 = .ok (.invokevirtual 167, 3) := by decide +kernel
theorem dX11_ahead_47 : decode cX11_ahead 47 = .ok (.invokestatic 128, 3) := by decide +kernel
theorem dX11_ahead_50 : decode cX11_ahead 50 = .ok (.ireturn, 1) := by decide +kernel
theorem dX11_begins_0 : decode cX11_begins 0 = .ok (.aload_n 0, 1) := by decide +kernel
theorem dX11_begins_1 : decode cX11_begins 1 = .ok (.iload_n 1, 1) := by decide +kernel
theorem dX11_begins_2 : decode cX11_begins 2 = .ok (.invokevirtual 136, 3) := by decide +kernel
theorem dX11_begins_5 : decode cX11_begins 5 = .ok (.astore_n 3, 1) := by decide +kernel
theorem dX11_begins_6 : decode cX11_begins 6 = .ok (.aload_n 3, 1) := by decide +kernel
theorem dX11_begins_7 : decode cX11_begins 7 = .ok (.ifnonnull 6, 3) := by decide +kernel
theorem dX11_begins_10 : decode cX11_begins 10 = .ok (.bipush (-2), 2) := by decide +kernel
theorem dX11_begins_12 : decode cX11_begins 12 = .ok (.ireturn, 1) := by decide +kernel
theorem dX11_begins_13 : decode cX11_begins 13 = .ok (.iload_n 2, 1) := by decide +kernel
theorem dX11_begins_14 : decode cX11_begins 14 = .ok (.ifCond .lt 8, 3) := by decide +kernel
theorem dX11_begins_17 : decode cX11_begins 17 = .ok (.iload_n 2, 1) := by decide +kernel
theorem dX11_begins_18 : decode cX11_begins 18 = .ok (.iconst 2, 1) := by decide +kernel
theorem dX11_begins_19 : decode cX11_begins 19 = .ok (.if_icmp .le 6, 3) := by decide +kernel
theorem dX11_begins_22 : decode cX11_begins 22 = .ok (.bipush (-3), 2) := by decide +kernel
theorem dX11_begins_24 : decode cX11_begins 24 = .ok (.ireturn, 1) := by decide +kernel
theorem dX11_begins_25 : decode cX11_begins 25 = .ok (.aload_n 0, 1) := by decide +kernel
theorem dX11_begins_26 : decode cX11_begins 26 = .ok (.getfield 64, 3) := by decide +kernel
theorem dX11_begins_29 : decode cX11_begins 29 = .ok (.aload_n 3, 1) := by decide +kernel
theorem dX11_begins_30 : decode cX11_begins 30 = .ok (.invokevirtual 171, 3) := by decide +kernel
theorem dX11_begins_33 : decode cX11_begins 33 = .ok (.ifCond .ne 6, 3) := by decide +kernel
theorem dX11_begins_36 : decode cX11_begins 36 = .ok (.bipush (-6), 2) := by decide +kernel
theorem dX11_begins_38 : decode cX11_begins 38 = .ok (.ireturn, 1) := by decide +kernel
theorem dX11_begins_39 : decode cX11_begins 39 = .ok (.iload_n 2, 1) := by decide +kernel
theorem dX11_begins_40 : decode cX11_begins 40 = .ok (.ifCond .ne 11, 3) := by decide +kernel
theorem dX11_begins_43 : decode cX11_begins 43 = .ok (.aload_n 0, 1) := by decide +kernel
theorem dX11_begins_44 : decode cX11_begins 44 = .ok (.getfield 64, 3) := by decide +kernel
theorem dX11_begins_47 : decode cX11_begins 47 = .ok (.invokevirtual 175, 3) := by decide +kernel
theorem dX11_begins_50 : decode cX11_begins 50 = .ok (.ireturn, 1) := by decide +kernel
theorem dX11_begins_51 : decode cX11_begins 51 = .ok (.iload_n 2, 1) := by decide +kernel
theorem dX11_begins_52 : decode cX11_begins 52 = .ok (.iconst 1, 1) := by decide +kernel
theorem dX11_begins_53 : decode cX11_begins 53 = .ok (.if_icmp .ne 13, 3) := by decide +kernel
theorem dX11_begins_56 : decode cX11_begins 56 = .ok (.aload_n 0, 1) := by decide +kernel
theorem dX11_begins_57 : decode cX11_begins 57 = .ok (.getfield 64, 3) := by decide +kernel
theorem dX11_begins_60 : decode cX11_begins 60 = .ok (.invokevirtual 178, 3) := by decide +kernel
theorem dX11_begins_63 : decode cX11_begins 63 = .ok (.goto 10, 3) := by decide +kernel
theorem dX11_begins_66 : decode cX11_begins 66 = .ok (.aload_n 0, 1) := by decide +kernel
theorem dX11_begins_67 : decode cX11_begins 67 = .ok (.getfield 64, 3) := by decide +kernel
theorem dX11_begins_70 : decode cX11_begins 70 = .ok (.invokevirtual 181, 3) := by decide +kernel
theorem dX11_begins_73 : decode cX11_begins 73 = .ok (.ireturn, 1) := by decide +kernel
theorem dX11_join_0 : decode cX11_join 0 = .ok (.aload_n 0, 1) := by decide +kernel
theorem dX11_join_1 : decode cX11_join 1 = .ok (.iload_n 1, 1) := by decide +kernel
theorem dX11_join_2 : decode cX11_join 2 = .ok (.invokevirtual 136, 3) := by decide +kernel
theorem dX11_join_5 : decode cX11_join 5 = .ok (.astore 4, 2) := by decide +kernel
theorem dX11_join_7 : decode cX11_join 7 = .ok (.aload_n 0, 1) := by decide +kernel
theorem dX11_join_8 : decode cX11_join 8 = .ok (.iload_n 2, 1) := by decide +kernel
theorem dX11_join_9 : decode cX11_join 9 = .ok (.invokevirtual 136, 3) := by decide +kernel
theorem dX11_join_12 : decode cX11_join 12 = .ok (.astore 5, 2) := by decide +kernel
theorem dX11_join_14 : decode cX11_join 14 = .ok (.aload_n 0, 1) := by decide +kernel
theorem dX11_join_15 : decode cX11_join 15 = .ok (.iload_n 3, 1) := by decide +kernel
theorem dX11_join_16 : decode cX11_join 16 = .ok (.invokevirtual 136, 3) := by decide +kernel
theorem dX11_join_19 : decode cX11_join 19 = .ok (.astore 6, 2) := by decide +kernel
theorem dX11_join_21 : decode cX11_join 21 = .ok (.aload 4, 2) := by decide +kernel
theorem dX11_join_23 : decode cX11_join 23 = .ok (.ifnull 13, 3) := by decide +kernel
theorem dX11_join_26 : decode cX11_join 26 = .ok (.aload 5, 2) := by decide +kernel
theorem dX11_join_28 : decode cX11_join 28 = .ok (.ifnull 8, 3) := by decide +kernel
theorem dX11_join_31 : decode cX11_join 31 = .ok (.aload 6, 2) := by decide +kernel
theorem dX11_join_33 : decode cX11_join 33 = .ok (.ifnonnull 6, 3) := by decide +kernel
theorem dX11_join_36 : decode cX11_join 36 = .ok (.bipush (-2), 2) := by decide +kernel
theorem dX11_join_38 : decode cX11_join 38 = .ok (.ireturn, 1) := by decide +kernel
theorem dX11_join_39 : decode cX11_join 39 = .ok (.aload_n 0, 1) := by decide +kernel
theorem dX11_join_40 : decode cX11_join 40 = .ok (.getfield 57, 3) := by decide +kernel
theorem dX11_join_43 : decode cX11_join 43 = .ok (.aload 4, 2) := by decide +kernel
theorem dX11_join_45 : decode cX11_join 45 = .ok (.aload 5, 2) := by decide +kernel
theorem dX11_join_47 : decode cX11_join 47 = .ok (.aload 6, 2) := by decide +kernel
theorem dX11_join_49 : decode cX11_join 49 = .ok (.invokevirtual 184, 3) := by decide +kernel
theorem dX11_join_52 : decode cX11_join 52 = .ok (.ireturn, 1) := by decide +kernel
theorem dX11_left_0 : decode cX11_left 0 = .ok (.aload_n 0, 1) := by decide +kernel
theorem dX11_left_1 : decode cX11_left 1 = .ok (.iload_n 1, 1) := by decide +kernel
theorem dX11_left_2 : decode cX11_left 2 = .ok (.invokevirtual 136, 3) := by decide +kernel
theorem dX11_left_5 : decode cX11_left 5 = .ok (.astore 4, 2) := by decide +kernel
theorem dX11_left_7 : decode cX11_left 7 = .ok (.aload_n 0, 1) := by decide +kernel
theorem dX11_left_8 : decode cX11_left 8 = .ok (.iload_n 2, 1) := by decide +kernel
theorem dX11_left_9 : decode cX11_left 9 = .ok (.invokevirtual 136, 3) := by decide +kernel
theorem dX11_left_12 : decode cX11_left 12 = .ok (.astore 5, 2) := by decide +kernel
theorem dX11_left_14 : decode cX11_left 14 = .ok (.aload_n 0, 1) := by decide +kernel
theorem dX11_left_15 : decode cX11_left 15 = .ok (.iload_n 3, 1) := by decide +kernel
theorem dX11_left_16 : decode cX11_left 16 = .ok (.invokevirtual 136, 3) := by decide +kernel
theorem dX11_left_19 : decode cX11_left 19 = .ok (.astore 6, 2) := by decide +kernel
theorem dX11_left_21 : decode cX11_left 21 = .ok (.aload 4, 2) := by decide +kernel
theorem dX11_left_23 : decode cX11_left 23 = .ok (.ifnull 13, 3) := by decide +kernel
theorem dX11_left_26 : decode cX11_left 26 = .ok (.aload 5, 2) := by decide +kernel
theorem dX11_left_28 : decode cX11_left 28 = .ok (.ifnull 8, 3) := by decide +kernel
theorem dX11_left_31 : decode cX11_left 31 = .ok (.aload 6, 2) := by decide +kernel
theorem dX11_left_33 : decode cX11_left 33 = .ok (.ifnonnull 6, 3) := by decide +kernel
theorem dX11_left_36 : decode cX11_left 36 = .ok (.bipush (-2), 2) := by decide +kernel
theorem dX11_left_38 : decode cX11_left 38 = .ok (.ireturn, 1) := by decide +kernel
theorem dX11_left_39 : decode cX11_left 39 = .ok (.aload_n 0, 1) := by decide +kernel
theorem dX11_left_40 : decode cX11_left 40 = .ok (.getfield 57, 3) := by decide +kernel
theorem dX11_left_43 : decode cX11_left 43 = .ok (.aload 4, 2) := by decide +kernel
theorem dX11_left_45 : decode cX11_left 45 = .ok (.aload 5, 2) := by decide +kernel
theorem dX11_left_47 : decode cX11_left 47 = .ok (.aload 6, 2) := by decide +kernel
theorem dX11_left_49 : decode cX11_left 49 = .ok (.invokevirtual 188, 3) := by decide +kernel
theorem dX11_left_52 : decode cX11_left 52 = .ok (.ireturn, 1) := by decide +kernel
theorem dX11_shared_0 : decode cX11_shared 0 = .ok (.aload_n 0, 1) := by decide +kernel
theorem dX11_shared_1 : decode cX11_shared 1 = .ok (.iload_n 1, 1) := by decide +kernel
theorem dX11_shared_2 : decode cX11_shared 2 = .ok (.invokevirtual 136, 3) := by decide +kernel
theorem dX11_shared_5 : decode cX11_shared 5 = .ok (.astore 4, 2) := by decide +kernel
theorem dX11_shared_7 : decode cX11_shared 7 = .ok (.aload_n 0, 1) := by decide +kernel
theorem dX11_shared_8 : decode cX11_shared 8 = .ok (.iload_n 2, 1) := by decide +kernel
theorem dX11_shared_9 : decode cX11_shared 9 = .ok (.invokevirtual 136, 3) := by decide +kernel
theorem dX11_shared_12 : decode cX11_shared 12 = .ok (.astore 5, 2) := by decide +kernel
theorem dX11_shared_14 : decode cX11_shared 14 = .ok (.aload_n 0, 1) := by decide +kernel
theorem dX11_shared_15 : decode cX11_shared 15 = .ok (.iload_n 3, 1) := by decide +kernel
theorem dX11_shared_16 : decode cX11_shared 16 = .ok (.invokevirtual 136, 3) := by decide +kernel
theorem dX11_shared_19 : decode cX11_shared 19 = .ok (.astore 6, 2) := by decide +kernel
theorem dX11_shared_21 : decode cX11_shared 21 = .ok (.aload 4, 2) := by decide +kernel
theorem dX11_shared_23 : decode cX11_shared 23 = .ok (.ifnull 13, 3) := by decide +kernel
theorem dX11_shared_26 : decode cX11_shared 26 = .ok (.aload 5, 2) := by decide +kernel
theorem dX11_shared_28 : decode cX11_shared 28 = .ok (.ifnull 8, 3) := by decide +kernel
theorem dX11_shared_31 : decode cX11_shared 31 = .ok (.aload 6, 2) := by decide +kernel
theorem dX11_shared_33 : decode cX11_shared 33 = .ok (.ifnonnull 6, 3) := by decide +kernel
theorem dX11_shared_36 : decode cX11_shared 36 = .ok (.bipush (-2), 2) := by decide +kernel
theorem dX11_shared_38 : decode cX11_shared 38 = .ok (.ireturn, 1) := by decide +kernel
theorem dX11_shared_39 : decode cX11_shared 39 = .ok (.aload_n 0, 1) := by decide +kernel
theorem dX11_shared_40 : decode cX11_shared 40 = .ok (.getfield 57, 3) := by decide +kernel
theorem dX11_shared_43 : decode cX11_shared 43 = .ok (.aload 4, 2) := by decide +kernel
theorem dX11_shared_45 : decode cX11_shared 45 = .ok (.aload 5, 2) := by decide +kernel
theorem dX11_shared_47 : decode cX11_shared 47 = .ok (.aload 6, 2) := by decide +kernel
theorem dX11_shared_49 : decode cX11_shared 49 = .ok (.invokevirtual 191, 3) := by decide +kernel
theorem dX11_shared_52 : decode cX11_shared 52 = .ok (.ireturn, 1) := by decide +kernel
theorem dX11_both_0 : decode cX11_both 0 = .ok (.aload_n 0, 1) := by decide +kernel
theorem dX11_both_1 : decode cX11_both 1 = .ok (.iload_n 1, 1) := by decide +kernel
theorem dX11_both_2 : decode cX11_both 2 = .ok (.invokevirtual 136, 3) := by decide +kernel
theorem dX11_both_5 : decode cX11_both 5 = .ok (.astore 4, 2) := by decide +kernel
theorem dX11_both_7 : decode cX11_both 7 = .ok (.aload_n 0, 1) := by decide +kernel
theorem dX11_both_8 : decode cX11_both 8 = .ok (.iload_n 2, 1) := by decide +kernel
theorem dX11_both_9 : decode cX11_both 9 = .ok (.invokevirtual 136, 3) := by decide +kernel
theorem dX11_both_12 : decode cX11_both 12 = .ok (.astore 5, 2) := by decide +kernel
theorem dX11_both_14 : decode cX11_both 14 = .ok (.aload_n 0, 1) := by decide +kernel
theorem dX11_both_15 : decode cX11_both 15 = .ok (.iload_n 3, 1) := by decide +kernel
theorem dX11_both_16 : decode cX11_both 16 = .ok (.invokevirtual 136, 3) := by decide +kernel
theorem dX11_both_19 : decode cX11_both 19 = .ok (.astore 6, 2) := by decide +kernel
theorem dX11_both_21 : decode cX11_both 21 = .ok (.aload 4, 2) := by decide +kernel
theorem dX11_both_23 : decode cX11_both 23 = .ok (.ifnull 13, 3) := by decide +kernel
theorem dX11_both_26 : decode cX11_both 26 = .ok (.aload 5, 2) := by decide +kernel
theorem dX11_both_28 : decode cX11_both 28 = .ok (.ifnull 8, 3) := by decide +kernel
theorem dX11_both_31 : decode cX11_both 31 = .ok (.aload 6, 2) := by decide +kernel
theorem dX11_both_33 : decode cX11_both 33 = .ok (.ifnonnull 6, 3) := by decide +kernel
theorem dX11_both_36 : decode cX11_both 36 = .ok (.bipush (-2), 2) := by decide +kernel
theorem dX11_both_38 : decode cX11_both 38 = .ok (.ireturn, 1) := by decide +kernel
theorem dX11_both_39 : decode cX11_both 39 = .ok (.aload_n 0, 1) := by decide +kernel
theorem dX11_both_40 : decode cX11_both 40 = .ok (.getfield 57, 3) := by decide +kernel
theorem dX11_both_43 : decode cX11_both 43 = .ok (.aload 4, 2) := by decide +kernel
theorem dX11_both_45 : decode cX11_both 45 = .ok (.aload 5, 2) := by decide +kernel
theorem dX11_both_47 : decode cX11_both 47 = .ok (.aload 6, 2) := by decide +kernel
theorem dX11_both_49 : decode cX11_both 49 = .ok (.invokevirtual 194, 3) := by decide +kernel
theorem dX11_both_52 : decode cX11_both 52 = .ok (.ireturn, 1) := by decide +kernel
theorem dX11_mirror_0 : decode cX11_mirror 0 = .ok (.aload_n 0, 1) := by decide +kernel
theorem dX11_mirror_1 : decode cX11_mirror 1 = .ok (.iload_n 1, 1) := by decide +kernel
theorem dX11_mirror_2 : decode cX11_mirror 2 = .ok (.invokevirtual 136, 3) := by decide +kernel
theorem dX11_mirror_5 : decode cX11_mirror 5 = .ok (.astore_n 2, 1) := by decide +kernel
theorem dX11_mirror_6 : decode cX11_mirror 6 = .ok (.aload_n 2, 1) := by decide +kernel
theorem dX11_mirror_7 : decode cX11_mirror 7 = .ok (.ifnonnull 6, 3) := by decide +kernel
theorem dX11_mirror_10 : decode cX11_mirror 10 = .ok (.bipush (-2), 2) := by decide +kernel
theorem dX11_mirror_12 : decode cX11_mirror 12 = .ok (.ireturn, 1) := by decide +kernel
theorem dX11_mirror_13 : decode cX11_mirror 13 = .ok (.aload_n 2, 1) := by decide +kernel
theorem dX11_mirror_14 : decode cX11_mirror 14 = .ok (.invokevirtual 197, 3) := by decide +kernel
theorem dX11_mirror_17 : decode cX11_mirror 17 = .ok (.aload_n 2, 1) := by decide +kernel
theorem dX11_mirror_18 : decode cX11_mirror 18 = .ok (.invokevirtual 142, 3) := by decide +kernel
theorem dX11_mirror_21 : decode cX11_mirror 21 = .ok (.ireturn, 1) := by decide +kernel
theorem dX11_part_0 : decode cX11_part 0 = .ok (.aload_n 0, 1) := by decide +kernel
theorem dX11_part_1 : decode cX11_part 1 = .ok (.iload_n 1, 1) := by decide +kernel
theorem dX11_part_2 : decode cX11_part 2 = .ok (.invokevirtual 136, 3) := by decide +kernel
theorem dX11_part_5 : decode cX11_part 5 = .ok (.astore_n 3, 1) := by decide +kernel
theorem dX11_part_6 : decode cX11_part 6 = .ok (.aload_n 3, 1) := by decide +kernel
theorem dX11_part_7 : decode cX11_part 7 = .ok (.ifnonnull 6, 3) := by decide +kernel
theorem dX11_part_10 : decode cX11_part 10 = .ok (.bipush (-2), 2) := by decide +kernel
theorem dX11_part_12 : decode cX11_part 12 = .ok (.ireturn, 1) := by decide +kernel
theorem dX11_part_13 : decode cX11_part 13 = .ok (.iload_n 2, 1) := by decide +kernel
theorem dX11_part_14 : decode cX11_part 14 = .ok (.iconst (-1), 1) := by decide +kernel
theorem dX11_part_15 : decode cX11_part 15 = .ok (.if_icmp .ge 8, 3) := by decide +kernel
theorem dX11_part_18 : decode cX11_part 18 = .ok (.bipush (-3), 2) := by decide +kernel
theorem dX11_part_20 : decode cX11_part 20 = .ok (.goto 12, 3) := by decide +kernel
theorem dX11_part_23 : decode cX11_part 23 = .ok (.aload_n 0, 1) := by decide +kernel
theorem dX11_part_24 : decode cX11_part 24 = .ok (.getfield 48, 3) := by decide +kernel
theorem dX11_part_27 : decode cX11_part 27 = .ok (.aload_n 3, 1) := by decide +kernel
theorem dX11_part_28 : decode cX11_part 28 = .ok (.iload_n 2, 1) := by decide +kernel
theorem dX11_part_29 : decode cX11_part 29 = .ok (.invokevirtual 200, 3) := by decide +kernel
theorem dX11_part_32 : decode cX11_part 32 = .ok (.ireturn, 1) := by decide +kernel
theorem dX11_root_0 : decode cX11_root 0 = .ok (.aload_n 0, 1) := by decide +kernel
theorem dX11_root_1 : decode cX11_root 1 = .ok (.iload_n 1, 1) := by decide +kernel
theorem dX11_root_2 : decode cX11_root 2 = .ok (.invokevirtual 136, 3) := by decide +kernel
theorem dX11_root_5 : decode cX11_root 5 = .ok (.astore_n 2, 1) := by decide +kernel
theorem dX11_root_6 : decode cX11_root 6 = .ok (.aload_n 2, 1) := by decide +kernel
theorem dX11_root_7 : decode cX11_root 7 = .ok (.ifnonnull 6, 3) := by decide +kernel
theorem dX11_root_10 : decode cX11_root 10 = .ok (.bipush (-2), 2) := by decide +kernel
theorem dX11_root_12 : decode cX11_root 12 = .ok (.ireturn, 1) := by decide +kernel
theorem dX11_root_13 : decode cX11_root 13 = .ok (.aload_n 0, 1) := by decide +kernel
theorem dX11_root_14 : decode cX11_root 14 = .ok (.getfield 48, 3) := by decide +kernel
theorem dX11_root_17 : decode cX11_root 17 = .ok (.aload_n 2, 1) := by decide +kernel
theorem dX11_root_18 : decode cX11_root 18 = .ok (.invokevirtual 203, 3) := by decide +kernel
theorem dX11_root_21 : decode cX11_root 21 = .ok (.ireturn, 1) := by decide +kernel
theorem dX11_circle_0 : decode cX11_circle 0 = .ok (.aload_n 0, 1) := by decide +kernel
theorem dX11_circle_1 : decode cX11_circle 1 = .ok (.iload_n 1, 1) := by decide +kernel
theorem dX11_circle_2 : decode cX11_circle 2 = .ok (.invokevirtual 136, 3) := by decide +kernel
theorem dX11_circle_5 : decode cX11_circle 5 = .ok (.astore_n 2, 1) := by decide +kernel
theorem dX11_circle_6 : decode cX11_circle 6 = .ok (.aload_n 2, 1) := by decide +kernel
theorem dX11_circle_7 : decode cX11_circle 7 = .ok (.ifnonnull 6, 3) := by decide +kernel
theorem dX11_circle_10 : decode cX11_circle 10 = .ok (.bipush (-2), 2) := by decide +kernel
theorem dX11_circle_12 : decode cX11_circle 12 = .ok (.ireturn, 1) := by decide +kernel
theorem dX11_circle_13 : decode cX11_circle 13 = .ok (.aload_n 2, 1) := by decide +kernel
theorem dX11_circle_14 : decode cX11_circle 14 = .ok (.invokevirtual 142, 3) := by decide +kernel
theorem dX11_circle_17 : decode cX11_circle 17 = .ok (.bipush 12, 2) := by decide +kernel
theorem dX11_circle_19 : decode cX11_circle 19 = .ok (.if_icmp .le 6, 3) := by decide +kernel
theorem dX11_circle_22 : decode cX11_circle 22 = .ok (.bipush (-3), 2) := by decide +kernel
theorem dX11_circle_24 : decode cX11_circle 24 = .ok (.ireturn, 1) := by decide +kernel
theorem dX11_circle_25 : decode cX11_circle 25 = .ok (.aload_n 0, 1) := by decide +kernel
theorem dX11_circle_26 : decode cX11_circle 26 = .ok (.getfield 73, 3) := by decide +kernel
theorem dX11_circle_29 : decode cX11_circle 29 = .ok (.aload_n 2, 1) := by decide +kernel
theorem dX11_circle_30 : decode cX11_circle 30 = .ok (.invokevirtual 207, 3) := by decide +kernel
theorem dX11_circle_33 : decode cX11_circle 33 = .ok (.ifCond .eq 13, 3) := by decide +kernel
theorem dX11_circle_36 : decode cX11_circle 36 = .ok (.aload_n 0, 1) := by decide +kernel
theorem dX11_circle_37 : decode cX11_circle 37 = .ok (.getfield 73, 3) := by decide +kernel
theorem dX11_circle_40 : decode cX11_circle 40 = .ok (.invokevirtual 208, 3) := by decide +kernel
theorem dX11_circle_43 : decode cX11_circle 43 = .ok (.goto 5, 3) := by decide +kernel
theorem dX11_circle_46 : decode cX11_circle 46 = .ok (.bipush (-6), 2) := by decide +kernel
theorem dX11_circle_48 : decode cX11_circle 48 = .ok (.ireturn, 1) := by decide +kernel
theorem dX11_turned_0 : decode cX11_turned 0 = .ok (.aload_n 0, 1) := by decide +kernel
theorem dX11_turned_1 : decode cX11_turned 1 = .ok (.iload_n 1, 1) := by decide +kernel
theorem dX11_turned_2 : decode cX11_turned 2 = .ok (.invokevirtual 136, 3) := by decide +kernel
theorem dX11_turned_5 : decode cX11_turned 5 = .ok (.astore_n 3, 1) := by decide +kernel
theorem dX11_turned_6 : decode cX11_turned 6 = .ok (.aload_n 0, 1) := by decide +kernel
theorem dX11_turned_7 : decode cX11_turned 7 = .ok (.iload_n 2, 1) := by decide +kernel
theorem dX11_turned_8 : decode cX11_turned 8 = .ok (.invokevirtual 136, 3) := by decide +kernel
theorem dX11_turned_11 : decode cX11_turned 11 = .ok (.astore 4, 2) := by decide +kernel
theorem dX11_turned_13 : decode cX11_turned 13 = .ok (.aload_n 3, 1) := by decide +kernel
theorem dX11_turned_14 : decode cX11_turned 14 = .ok (.ifnull 8, 3) := by decide +kernel
theorem dX11_turned_17 : decode cX11_turned 17 = .ok (.aload 4, 2) := by decide +kernel
theorem dX11_turned_19 : decode cX11_turned 19 = .ok (.ifnonnull 6, 3) := by decide +kernel
theorem dX11_turned_22 : decode cX11_turned 22 = .ok (.bipush (-2), 2) := by decide +kernel
theorem dX11_turned_24 : decode cX11_turned 24 = .ok (.ireturn, 1) := by decide +kernel
theorem dX11_turned_25 : decode cX11_turned 25 = .ok (.aload_n 3, 1) := by decide +kernel
theorem dX11_turned_26 : decode cX11_turned 26 = .ok (.invokevirtual 142, 3) := by decide +kernel
theorem dX11_turned_29 : decode cX11_turned 29 = .ok (.bipush 12, 2) := by decide +kernel
theorem dX11_turned_31 : decode cX11_turned 31 = .ok (.if_icmp .le 6, 3) := by decide +kernel
theorem dX11_turned_34 : decode cX11_turned 34 = .ok (.bipush (-3), 2) := by decide +kernel
theorem dX11_turned_36 : decode cX11_turned 36 = .ok (.ireturn, 1) := by decide +kernel
theorem dX11_turned_37 : decode cX11_turned 37 = .ok (.aload_n 0, 1) := by decide +kernel
theorem dX11_turned_38 : decode cX11_turned 38 = .ok (.getfield 73, 3) := by decide +kernel
theorem dX11_turned_41 : decode cX11_turned 41 = .ok (.aload_n 3, 1) := by decide +kernel
theorem dX11_turned_42 : decode cX11_turned 42 = .ok (.invokevirtual 207, 3) := by decide +kernel
theorem dX11_turned_45 : decode cX11_turned 45 = .ok (.ifCond .eq 18, 3) := by decide +kernel
theorem dX11_turned_48 : decode cX11_turned 48 = .ok (.aload_n 0, 1) := by decide +kernel
theorem dX11_turned_49 : decode cX11_turned 49 = .ok (.getfield 73, 3) := by decide +kernel
theorem dX11_turned_52 : decode cX11_turned 52 = .ok (.aload 4, 2) := by decide +kernel
theorem dX11_turned_54 : decode cX11_turned 54 = .ok (.invokevirtual 209, 3) := by decide +kernel
theorem dX11_turned_57 : decode cX11_turned 57 = .ok (.invokestatic 128, 3) := by decide +kernel
theorem dX11_turned_60 : decode cX11_turned 60 = .ok (.goto 5, 3) := by decide +kernel
theorem dX11_turned_63 : decode cX11_turned 63 = .ok (.bipush (-6), 2) := by decide +kernel
theorem dX11_turned_65 : decode cX11_turned 65 = .ok (.ireturn, 1) := by decide +kernel
theorem dX11_together_0 : decode cX11_together 0 = .ok (.iload_n 1, 1) := by decide +kernel
theorem dX11_together_1 : decode cX11_together 1 = .ok (.ifCond .lt 9, 3) := by decide +kernel
theorem dX11_together_4 : decode cX11_together 4 = .ok (.iload_n 1, 1) := by decide +kernel
theorem dX11_together_5 : decode cX11_together 5 = .ok (.bipush 6, 2) := by decide +kernel
theorem dX11_together_7 : decode cX11_together 7 = .ok (.if_icmp .le 8, 3) := by decide +kernel
theorem dX11_together_10 : decode cX11_together 10 = .ok (.bipush (-3), 2) := by decide +kernel
theorem dX11_together_12 : decode cX11_together 12 = .ok (.goto 11, 3) := by decide +kernel
theorem dX11_together_15 : decode cX11_together 15 = .ok (.aload_n 0, 1) := by decide +kernel
theorem dX11_together_16 : decode cX11_together 16 = .ok (.getfield 12, 3) := by decide +kernel
theorem dX11_together_19 : decode cX11_together 19 = .ok (.iload_n 1, 1) := by decide +kernel
theorem dX11_together_20 : decode cX11_together 20 = .ok (.invokevirtual 212, 3) := by decide +kernel
theorem dX11_together_23 : decode cX11_together 23 = .ok (.ireturn, 1) := by decide +kernel
theorem dX11_many_0 : decode cX11_many 0 = .ok (.iload_n 1, 1) := by decide +kernel
theorem dX11_many_1 : decode cX11_many 1 = .ok (.ifCond .lt 9, 3) := by decide +kernel
theorem dX11_many_4 : decode cX11_many 4 = .ok (.iload_n 1, 1) := by decide +kernel
theorem dX11_many_5 : decode cX11_many 5 = .ok (.bipush 60, 2) := by decide +kernel
theorem dX11_many_7 : decode cX11_many 7 = .ok (.if_icmp .le 8, 3) := by decide +kernel
theorem dX11_many_10 : decode cX11_many 10 = .ok (.bipush (-3), 2) := by decide +kernel
theorem dX11_many_12 : decode cX11_many 12 = .ok (.goto 11, 3) := by decide +kernel
theorem dX11_many_15 : decode cX11_many 15 = .ok (.aload_n 0, 1) := by decide +kernel
theorem dX11_many_16 : decode cX11_many 16 = .ok (.getfield 80, 3) := by decide +kernel
theorem dX11_many_19 : decode cX11_many 19 = .ok (.iload_n 1, 1) := by decide +kernel
theorem dX11_many_20 : decode cX11_many 20 = .ok (.invokevirtual 215, 3) := by decide +kernel
theorem dX11_many_23 : decode cX11_many 23 = .ok (.ireturn, 1) := by decide +kernel
theorem dX11_of_0 : decode cX11_of 0 = .ok (.iload_n 1, 1) := by decide +kernel
theorem dX11_of_1 : decode cX11_of 1 = .ok (.ifCond .lt 17, 3) := by decide +kernel
theorem dX11_of_4 : decode cX11_of 4 = .ok (.iload_n 1, 1) := by decide +kernel
theorem dX11_of_5 : decode cX11_of 5 = .ok (.bipush 20, 2) := by decide +kernel
theorem dX11_of_7 : decode cX11_of 7 = .ok (.if_icmp .gt 11, 3) := by decide +kernel
theorem dX11_of_10 : decode cX11_of 10 = .ok (.iload_n 2, 1) := by decide +kernel
theorem dX11_of_11 : decode cX11_of 11 = .ok (.ifCond .lt 7, 3) := by decide +kernel
theorem dX11_of_14 : decode cX11_of 14 = .ok (.iload_n 3, 1) := by decide +kernel
theorem dX11_of_15 : decode cX11_of 15 = .ok (.ifCond .ge 6, 3) := by decide +kernel
theorem dX11_of_18 : decode cX11_of 18 = .ok (.bipush (-3), 2) := by decide +kernel
theorem dX11_of_20 : decode cX11_of 20 = .ok (.ireturn, 1) := by decide +kernel
theorem dX11_of_21 : decode cX11_of 21 = .ok (.aload_n 0, 1) := by decide +kernel
theorem dX11_of_22 : decode cX11_of 22 = .ok (.getfield 80, 3) := by decide +kernel
theorem dX11_of_25 : decode cX11_of 25 = .ok (.iload_n 1, 1) := by decide +kernel
theorem dX11_of_26 : decode cX11_of 26 = .ok (.iload_n 2, 1) := by decide +kernel
theorem dX11_of_27 : decode cX11_of 27 = .ok (.iload_n 3, 1) := by decide +kernel
theorem dX11_of_28 : decode cX11_of 28 = .ok (.invokevirtual 218, 3) := by decide +kernel
theorem dX11_of_31 : decode cX11_of 31 = .ok (.ireturn, 1) := by decide +kernel
theorem dX11_place_0 : decode cX11_place 0 = .ok (.aload_n 0, 1) := by decide +kernel
theorem dX11_place_1 : decode cX11_place 1 = .ok (.iload_n 1, 1) := by decide +kernel
theorem dX11_place_2 : decode cX11_place 2 = .ok (.invokevirtual 136, 3) := by decide +kernel
theorem dX11_place_5 : decode cX11_place 5 = .ok (.astore_n 2, 1) := by decide +kernel
theorem dX11_place_6 : decode cX11_place 6 = .ok (.aload_n 2, 1) := by decide +kernel
theorem dX11_place_7 : decode cX11_place 7 = .ok (.ifnonnull 6, 3) := by decide +kernel
theorem dX11_place_10 : decode cX11_place 10 = .ok (.bipush (-2), 2) := by decide +kernel
theorem dX11_place_12 : decode cX11_place 12 = .ok (.ireturn, 1) := by decide +kernel
theorem dX11_place_13 : decode cX11_place 13 = .ok (.aload_n 2, 1) := by decide +kernel
theorem dX11_place_14 : decode cX11_place 14 = .ok (.invokevirtual 142, 3) := by decide +kernel
theorem dX11_place_17 : decode cX11_place 17 = .ok (.bipush 20, 2) := by decide +kernel
theorem dX11_place_19 : decode cX11_place 19 = .ok (.if_icmp .le 6, 3) := by decide +kernel
theorem dX11_place_22 : decode cX11_place 22 = .ok (.bipush (-3), 2) := by decide +kernel
theorem dX11_place_24 : decode cX11_place 24 = .ok (.ireturn, 1) := by decide +kernel
theorem dX11_place_25 : decode cX11_place 25 = .ok (.aload_n 0, 1) := by decide +kernel
theorem dX11_place_26 : decode cX11_place 26 = .ok (.getfield 48, 3) := by decide +kernel
theorem dX11_place_29 : decode cX11_place 29 = .ok (.aload_n 2, 1) := by decide +kernel
theorem dX11_place_30 : decode cX11_place 30 = .ok (.aload_n 0, 1) := by decide +kernel
theorem dX11_place_31 : decode cX11_place 31 = .ok (.getfield 23, 3) := by decide +kernel
theorem dX11_place_34 : decode cX11_place 34 = .ok (.invokevirtual 148, 3) := by decide +kernel
theorem dX11_place_37 : decode cX11_place 37 = .ok (.aload_n 0, 1) := by decide +kernel
theorem dX11_place_38 : decode cX11_place 38 = .ok (.getfield 80, 3) := by decide +kernel
theorem dX11_place_41 : decode cX11_place 41 = .ok (.aload_n 0, 1) := by decide +kernel
theorem dX11_place_42 : decode cX11_place 42 = .ok (.getfield 23, 3) := by decide +kernel
theorem dX11_place_45 : decode cX11_place 45 = .ok (.invokevirtual 222, 3) := by decide +kernel
theorem dX11_place_48 : decode cX11_place 48 = .ok (.ireturn, 1) := by decide +kernel
theorem dX11_reader_0 : decode cX11_reader 0 = .ok (.iload_n 1, 1) := by decide +kernel
theorem dX11_reader_1 : decode cX11_reader 1 = .ok (.iconst 1, 1) := by decide +kernel
theorem dX11_reader_2 : decode cX11_reader 2 = .ok (.if_icmp .lt 19, 3) := by decide +kernel
theorem dX11_reader_5 : decode cX11_reader 5 = .ok (.iload_n 1, 1) := by decide +kernel
theorem dX11_reader_6 : decode cX11_reader 6 = .ok (.iconst 5, 1) := by decide +kernel
theorem dX11_reader_7 : decode cX11_reader 7 = .ok (.if_icmp .gt 14, 3) := by decide +kernel
theorem dX11_reader_10 : decode cX11_reader 10 = .ok (.iload_n 2, 1) := by decide +kernel
theorem dX11_reader_11 : decode cX11_reader 11 = .ok (.ifCond .lt 10, 3) := by decide +kernel
theorem dX11_reader_14 : decode cX11_reader 14 = .ok (.iload_n 2, 1) := by decide +kernel
theorem dX11_reader_15 : decode cX11_reader 15 = .ok (.iconst 1, 1) := by decide +kernel
theorem dX11_reader_16 : decode cX11_reader 16 = .ok (.iload_n 1, 1) := by decide +kernel
theorem dX11_reader_17 : decode cX11_reader 17 = .ok (.ishl, 1) := by decide +kernel
theorem dX11_reader_18 : decode cX11_reader 18 = .ok (.if_icmp .lt 6, 3) := by decide +kernel
theorem dX11_reader_21 : decode cX11_reader 21 = .ok (.bipush (-3), 2) := by decide +kernel
theorem dX11_reader_23 : decode cX11_reader 23 = .ok (.ireturn, 1) := by decide +kernel
theorem dX11_reader_24 : decode cX11_reader 24 = .ok (.aload_n 0, 1) := by decide +kernel
theorem dX11_reader_25 : decode cX11_reader 25 = .ok (.getfield 89, 3) := by decide +kernel
theorem dX11_reader_28 : decode cX11_reader 28 = .ok (.iload_n 1, 1) := by decide +kernel
theorem dX11_reader_29 : decode cX11_reader 29 = .ok (.iload_n 2, 1) := by decide +kernel
theorem dX11_reader_30 : decode cX11_reader 30 = .ok (.invokevirtual 225, 3) := by decide +kernel
theorem dX11_reader_33 : decode cX11_reader 33 = .ok (.iconst 1, 1) := by decide +kernel
theorem dX11_reader_34 : decode cX11_reader 34 = .ok (.ireturn, 1) := by decide +kernel
theorem dX11_move_0 : decode cX11_move 0 = .ok (.aload_n 0, 1) := by decide +kernel
theorem dX11_move_1 : decode cX11_move 1 = .ok (.getfield 89, 3) := by decide +kernel
theorem dX11_move_4 : decode cX11_move 4 = .ok (.iload_n 1, 1) := by decide +kernel
theorem dX11_move_5 : decode cX11_move 5 = .ok (.invokevirtual 229, 3) := by decide +kernel
theorem dX11_move_8 : decode cX11_move 8 = .ok (.ifCond .eq 14, 3) := by decide +kernel
theorem dX11_move_11 : decode cX11_move 11 = .ok (.aload_n 0, 1) := by decide +kernel
theorem dX11_move_12 : decode cX11_move 12 = .ok (.getfield 89, 3) := by decide +kernel
theorem dX11_move_15 : decode cX11_move 15 = .ok (.iload_n 3, 1) := by decide +kernel
theorem dX11_move_16 : decode cX11_move 16 = .ok (.invokevirtual 229, 3) := by decide +kernel
theorem dX11_move_19 : decode cX11_move 19 = .ok (.ifCond .ne 6, 3) := by decide +kernel
theorem dX11_move_22 : decode cX11_move 22 = .ok (.bipush (-2), 2) := by decide +kernel
theorem dX11_move_24 : decode cX11_move 24 = .ok (.ireturn, 1) := by decide +kernel
theorem dX11_move_25 : decode cX11_move 25 = .ok (.iload_n 2, 1) := by decide +kernel
theorem dX11_move_26 : decode cX11_move 26 = .ok (.ifCond .lt 9, 3) := by decide +kernel
theorem dX11_move_29 : decode cX11_move 29 = .ok (.iload_n 2, 1) := by decide +kernel
theorem dX11_move_30 : decode cX11_move 30 = .ok (.bipush 6, 2) := by decide +kernel
theorem dX11_move_32 : decode cX11_move 32 = .ok (.if_icmp .lt 6, 3) := by decide +kernel
theorem dX11_move_35 : decode cX11_move 35 = .ok (.bipush (-3), 2) := by decide +kernel
theorem dX11_move_37 : decode cX11_move 37 = .ok (.ireturn, 1) := by decide +kernel
theorem dX11_move_38 : decode cX11_move 38 = .ok (.aload_n 0, 1) := by decide +kernel
theorem dX11_move_39 : decode cX11_move 39 = .ok (.getfield 89, 3) := by decide +kernel
theorem dX11_move_42 : decode cX11_move 42 = .ok (.iload_n 1, 1) := by decide +kernel
theorem dX11_move_43 : decode cX11_move 43 = .ok (.iload_n 2, 1) := by decide +kernel
theorem dX11_move_44 : decode cX11_move 44 = .ok (.invokevirtual 230, 3) := by decide +kernel
theorem dX11_move_47 : decode cX11_move 47 = .ok (.istore 4, 2) := by decide +kernel
theorem dX11_move_49 : decode cX11_move 49 = .ok (.aload_n 0, 1) := by decide +kernel
theorem dX11_move_50 : decode cX11_move 50 = .ok (.getfield 89, 3) := by decide +kernel
theorem dX11_move_53 : decode cX11_move 53 = .ok (.iload_n 1, 1) := by decide +kernel
theorem dX11_move_54 : decode cX11_move 54 = .ok (.iload_n 2, 1) := by decide +kernel
theorem dX11_move_55 : decode cX11_move 55 = .ok (.iload_n 3, 1) := by decide +kernel
theorem dX11_move_56 : decode cX11_move 56 = .ok (.invokevirtual 234, 3) := by decide +kernel
theorem dX11_move_59 : decode cX11_move 59 = .ok (.iload 4, 2) := by decide +kernel
theorem dX11_move_61 : decode cX11_move 61 = .ok (.ireturn, 1) := by decide +kernel
theorem dX11_minds_0 : decode cX11_minds 0 = .ok (.aload_n 0, 1) := by decide +kernel
theorem dX11_minds_1 : decode cX11_minds 1 = .ok (.getfield 89, 3) := by decide +kernel
theorem dX11_minds_4 : decode cX11_minds 4 = .ok (.invokevirtual 238, 3) := by decide +kernel
theorem dX11_minds_7 : decode cX11_minds 7 = .ok (.ireturn, 1) := by decide +kernel
theorem dX11_run_0 : decode cX11_run 0 = .ok (.aload_n 0, 1) := by decide +kernel
theorem dX11_run_1 : decode cX11_run 1 = .ok (.iload_n 1, 1) := by decide +kernel
theorem dX11_run_2 : decode cX11_run 2 = .ok (.invokevirtual 136, 3) := by decide +kernel
theorem dX11_run_5 : decode cX11_run 5 = .ok (.astore_n 3, 1) := by decide +kernel
theorem dX11_run_6 : decode cX11_run 6 = .ok (.aload_n 3, 1) := by decide +kernel
theorem dX11_run_7 : decode cX11_run 7 = .ok (.ifnonnull 6, 3) := by decide +kernel
theorem dX11_run_10 : decode cX11_run 10 = .ok (.bipush (-2), 2) := by decide +kernel
theorem dX11_run_12 : decode cX11_run 12 = .ok (.ireturn, 1) := by decide +kernel
theorem dX11_run_13 : decode cX11_run 13 = .ok (.iload_n 2, 1) := by decide +kernel
theorem dX11_run_14 : decode cX11_run 14 = .ok (.ifCond .lt 8, 3) := by decide +kernel
theorem dX11_run_17 : decode cX11_run 17 = .ok (.iload_n 2, 1) := by decide +kernel
theorem dX11_run_18 : decode cX11_run 18 = .ok (.iconst 1, 1) := by decide +kernel
theorem dX11_run_19 : decode cX11_run 19 = .ok (.if_icmp .le 6, 3) := by decide +kernel
theorem dX11_run_22 : decode cX11_run 22 = .ok (.bipush (-3), 2) := by decide +kernel
theorem dX11_run_24 : decode cX11_run 24 = .ok (.ireturn, 1) := by decide +kernel
theorem dX11_run_25 : decode cX11_run 25 = .ok (.aload_n 0, 1) := by decide +kernel
theorem dX11_run_26 : decode cX11_run 26 = .ok (.getfield 48, 3) := by decide +kernel
theorem dX11_run_29 : decode cX11_run 29 = .ok (.aload_n 3, 1) := by decide +kernel
theorem dX11_run_30 : decode cX11_run 30 = .ok (.aload_n 0, 1) := by decide +kernel
theorem dX11_run_31 : decode cX11_run 31 = .ok (.getfield 23, 3) := by decide +kernel
theorem dX11_run_34 : decode cX11_run 34 = .ok (.invokevirtual 148, 3) := by decide +kernel
theorem dX11_run_37 : decode cX11_run 37 = .ok (.aload_n 0, 1) := by decide +kernel
theorem dX11_run_38 : decode cX11_run 38 = .ok (.getfield 89, 3) := by decide +kernel
theorem dX11_run_41 : decode cX11_run 41 = .ok (.aload_n 0, 1) := by decide +kernel
theorem dX11_run_42 : decode cX11_run 42 = .ok (.getfield 23, 3) := by decide +kernel
theorem dX11_run_45 : decode cX11_run 45 = .ok (.invokevirtual 241, 3) := by decide +kernel
theorem dX11_run_48 : decode cX11_run 48 = .ok (.istore 4, 2) := by decide +kernel
theorem dX11_run_50 : decode cX11_run 50 = .ok (.iload_n 2, 1) := by decide +kernel
theorem dX11_run_51 : decode cX11_run 51 = .ok (.ifCond .ne 8, 3) := by decide +kernel
theorem dX11_run_54 : decode cX11_run 54 = .ok (.iload 4, 2) := by decide +kernel
theorem dX11_run_56 : decode cX11_run 56 = .ok (.goto 15, 3) := by decide +kernel
theorem dX11_run_59 : decode cX11_run 59 = .ok (.aload_n 0, 1) := by decide +kernel
theorem dX11_run_60 : decode cX11_run 60 = .ok (.getfield 89, 3) := by decide +kernel
theorem dX11_run_63 : decode cX11_run 63 = .ok (.iload 4, 2) := by decide +kernel
theorem dX11_run_65 : decode cX11_run 65 = .ok (.invokevirtual 244, 3) := by decide +kernel
theorem dX11_run_68 : decode cX11_run 68 = .ok (.invokestatic 128, 3) := by decide +kernel
theorem dX11_run_71 : decode cX11_run 71 = .ok (.ireturn, 1) := by decide +kernel
theorem dX11_taken_0 : decode cX11_taken 0 = .ok (.iload_n 1, 1) := by decide +kernel
theorem dX11_taken_1 : decode cX11_taken 1 = .ok (.ifCond .lt 9, 3) := by decide +kernel
theorem dX11_taken_4 : decode cX11_taken 4 = .ok (.iload_n 1, 1) := by decide +kernel
theorem dX11_taken_5 : decode cX11_taken 5 = .ok (.bipush 60, 2) := by decide +kernel
theorem dX11_taken_7 : decode cX11_taken 7 = .ok (.if_icmp .le 8, 3) := by decide +kernel
theorem dX11_taken_10 : decode cX11_taken 10 = .ok (.bipush (-3), 2) := by decide +kernel
theorem dX11_taken_12 : decode cX11_taken 12 = .ok (.goto 11, 3) := by decide +kernel
theorem dX11_taken_15 : decode cX11_taken 15 = .ok (.aload_n 0, 1) := by decide +kernel
theorem dX11_taken_16 : decode cX11_taken 16 = .ok (.getfield 89, 3) := by decide +kernel
theorem dX11_taken_19 : decode cX11_taken 19 = .ok (.iload_n 1, 1) := by decide +kernel
theorem dX11_taken_20 : decode cX11_taken 20 = .ok (.invokevirtual 247, 3) := by decide +kernel
theorem dX11_taken_23 : decode cX11_taken 23 = .ok (.ireturn, 1) := by decide +kernel
theorem dX11_count_0 : decode cX11_count 0 = .ok (.iload_n 1, 1) := by decide +kernel
theorem dX11_count_1 : decode cX11_count 1 = .ok (.tableswitch 51 0 2 #[27, 35, 43], 27) := by decide +kernel
theorem dX11_count_28 : decode cX11_count 28 = .ok (.aload_n 0, 1) := by decide +kernel
theorem dX11_count_29 : decode cX11_count 29 = .ok (.getfield 12, 3) := by decide +kernel
theorem dX11_count_32 : decode cX11_count 32 = .ok (.invokevirtual 106, 3) := by decide +kernel
theorem dX11_count_35 : decode cX11_count 35 = .ok (.ireturn, 1) := by decide +kernel
theorem dX11_count_36 : decode cX11_count 36 = .ok (.aload_n 0, 1) := by decide +kernel
theorem dX11_count_37 : decode cX11_count 37 = .ok (.getfield 12, 3) := by decide +kernel
theorem dX11_count_40 : decode cX11_count 40 = .ok (.invokevirtual 250, 3) := by decide +kernel
theorem dX11_count_43 : decode cX11_count 43 = .ok (.ireturn, 1) := by decide +kernel
theorem dX11_count_44 : decode cX11_count 44 = .ok (.aload_n 0, 1) := by decide +kernel
theorem dX11_count_45 : decode cX11_count 45 = .ok (.getfield 30, 3) := by decide +kernel
theorem dX11_count_48 : decode cX11_count 48 = .ok (.invokevirtual 93, 3) := by decide +kernel
theorem dX11_count_51 : decode cX11_count 51 = .ok (.ireturn, 1) := by decide +kernel
theorem dX11_count_52 : decode cX11_count 52 = .ok (.aload_n 0, 1) := by decide +kernel
theorem dX11_count_53 : decode cX11_count 53 = .ok (.iload_n 1, 1) := by decide +kernel
theorem dX11_count_54 : decode cX11_count 54 = .ok (.ifCond .ge 7, 3) := by decide +kernel
theorem dX11_count_57 : decode cX11_count 57 = .ok (.iconst (-1), 1) := by decide +kernel
theorem dX11_count_58 : decode cX11_count 58 = .ok (.goto 6, 3) := by decide +kernel
theorem dX11_count_61 : decode cX11_count 61 = .ok (.iload_n 1, 1) := by decide +kernel
theorem dX11_count_62 : decode cX11_count 62 = .ok (.iconst 3, 1) := by decide +kernel
theorem dX11_count_63 : decode cX11_count 63 = .ok (.isub, 1) := by decide +kernel
theorem dX11_count_64 : decode cX11_count 64 = .ok (.invokevirtual 136, 3) := by decide +kernel
theorem dX11_count_67 : decode cX11_count 67 = .ok (.astore_n 2, 1) := by decide +kernel
theorem dX11_count_68 : decode cX11_count 68 = .ok (.aload_n 2, 1) := by decide +kernel
theorem dX11_count_69 : decode cX11_count 69 = .ok (.ifnonnull 8, 3) := by decide +kernel
theorem dX11_count_72 : decode cX11_count 72 = .ok (.bipush (-3), 2) := by decide +kernel
theorem dX11_count_74 : decode cX11_count 74 = .ok (.goto 7, 3) := by decide +kernel
theorem dX11_count_77 : decode cX11_count 77 = .ok (.aload_n 2, 1) := by decide +kernel
theorem dX11_count_78 : decode cX11_count 78 = .ok (.invokevirtual 142, 3) := by decide +kernel
theorem dX11_count_81 : decode cX11_count 81 = .ok (.ireturn, 1) := by decide +kernel
theorem dX11_yes_0 : decode cX11_yes 0 = .ok (.iload_n 0, 1) := by decide +kernel
theorem dX11_yes_1 : decode cX11_yes 1 = .ok (.ifCond .eq 7, 3) := by decide +kernel
theorem dX11_yes_4 : decode cX11_yes 4 = .ok (.iconst 1, 1) := by decide +kernel
theorem dX11_yes_5 : decode cX11_yes 5 = .ok (.goto 4, 3) := by decide +kernel
theorem dX11_yes_8 : decode cX11_yes 8 = .ok (.iconst 0, 1) := by decide +kernel
theorem dX11_yes_9 : decode cX11_yes 9 = .ok (.ireturn, 1) := by decide +kernel
theorem dX11_heapAt_0 : decode cX11_heapAt 0 = .ok (.iload_n 1, 1) := by decide +kernel
theorem dX11_heapAt_1 : decode cX11_heapAt 1 = .ok (.ifCond .lt 21, 3) := by decide +kernel
theorem dX11_heapAt_4 : decode cX11_heapAt 4 = .ok (.iload_n 1, 1) := by decide +kernel
theorem dX11_heapAt_5 : decode cX11_heapAt 5 = .ok (.aload_n 0, 1) := by decide +kernel
theorem dX11_heapAt_6 : decode cX11_heapAt 6 = .ok (.getfield 18, 3) := by decide +kernel
theorem dX11_heapAt_9 : decode cX11_heapAt 9 = .ok (.arraylength, 1) := by decide +kernel
theorem dX11_heapAt_10 : decode cX11_heapAt 10 = .ok (.if_icmp .ge 12, 3) := by decide +kernel
theorem dX11_heapAt_13 : decode cX11_heapAt 13 = .ok (.aload_n 0, 1) := by decide +kernel
theorem dX11_heapAt_14 : decode cX11_heapAt 14 = .ok (.getfield 18, 3) := by decide +kernel
theorem dX11_heapAt_17 : decode cX11_heapAt 17 = .ok (.iload_n 1, 1) := by decide +kernel
theorem dX11_heapAt_18 : decode cX11_heapAt 18 = .ok (.aaload, 1) := by decide +kernel
theorem dX11_heapAt_19 : decode cX11_heapAt 19 = .ok (.goto 4, 3) := by decide +kernel
theorem dX11_heapAt_22 : decode cX11_heapAt 22 = .ok (.aconst_null, 1) := by decide +kernel
theorem dX11_heapAt_23 : decode cX11_heapAt 23 = .ok (.areturn, 1) := by decide +kernel
theorem dX11_doLine_0 : decode cX11_doLine 0 = .ok (.aload_n 1, 1) := by decide +kernel
theorem dX11_doLine_1 : decode cX11_doLine 1 = .ok (.ifnonnull 4, 3) := by decide +kernel
theorem dX11_doLine_4 : decode cX11_doLine 4 = .ok (.return_, 1) := by decide +kernel
theorem dX11_doLine_5 : decode cX11_doLine 5 = .ok (.aload_n 1, 1) := by decide +kernel
theorem dX11_doLine_6 : decode cX11_doLine 6 = .ok (.getfield 253, 3) := by decide +kernel
theorem dX11_doLine_9 : decode cX11_doLine 9 = .ok (.tableswitch 76 0 2 #[27, 46, 65], 27) := by decide +kernel
theorem dX11_doLine_36 : decode cX11_doLine 36 = .ok (.aload_n 0, 1) := by decide +kernel
theorem dX11_doLine_37 : decode cX11_doLine 37 = .ok (.getfield 12, 3) := by decide +kernel
theorem dX11_doLine_40 : decode cX11_doLine 40 = .ok (.aload_n 1, 1) := by decide +kernel
theorem dX11_doLine_41 : decode cX11_doLine 41 = .ok (.getfield 259, 3) := by decide +kernel
theorem dX11_doLine_44 : decode cX11_doLine 44 = .ok (.aload_n 1, 1) := by decide +kernel
theorem dX11_doLine_45 : decode cX11_doLine 45 = .ok (.getfield 262, 3) := by decide +kernel
theorem dX11_doLine_48 : decode cX11_doLine 48 = .ok (.iconst 1, 1) := by decide +kernel
theorem dX11_doLine_49 : decode cX11_doLine 49 = .ok (.invokevirtual 132, 3) := by decide +kernel
theorem dX11_doLine_52 : decode cX11_doLine 52 = .ok (.goto 38, 3) := by decide +kernel
theorem dX11_doLine_55 : decode cX11_doLine 55 = .ok (.aload_n 0, 1) := by decide +kernel
theorem dX11_doLine_56 : decode cX11_doLine 56 = .ok (.getfield 12, 3) := by decide +kernel
theorem dX11_doLine_59 : decode cX11_doLine 59 = .ok (.aload_n 1, 1) := by decide +kernel
theorem dX11_doLine_60 : decode cX11_doLine 60 = .ok (.getfield 259, 3) := by decide +kernel
theorem dX11_doLine_63 : decode cX11_doLine 63 = .ok (.aload_n 1, 1) := by decide +kernel
theorem dX11_doLine_64 : decode cX11_doLine 64 = .ok (.getfield 262, 3) := by decide +kernel
theorem dX11_doLine_67 : decode cX11_doLine 67 = .ok (.iconst 0, 1) := by decide +kernel
theorem dX11_doLine_68 : decode cX11_doLine 68 = .ok (.invokevirtual 132, 3) := by decide +kernel
theorem dX11_doLine_71 : decode cX11_doLine 71 = .ok (.goto 19, 3) := by decide +kernel
theorem dX11_doLine_74 : decode cX11_doLine 74 = .ok (.aload_n 0, 1) := by decide +kernel
theorem dX11_doLine_75 : decode cX11_doLine 75 = .ok (.aload_n 1, 1) := by decide +kernel
theorem dX11_doLine_76 : decode cX11_doLine 76 = .ok (.getfield 259, 3) := by decide +kernel
theorem dX11_doLine_79 : decode cX11_doLine 79 = .ok (.invokevirtual 265, 3) := by decide +kernel
theorem dX11_doLine_82 : decode cX11_doLine 82 = .ok (.goto 8, 3) := by decide +kernel
theorem dX11_doLine_85 : decode cX11_doLine 85 = .ok (.aload_n 0, 1) := by decide +kernel
theorem dX11_doLine_86 : decode cX11_doLine 86 = .ok (.aload_n 1, 1) := by decide +kernel
theorem dX11_doLine_87 : decode cX11_doLine 87 = .ok (.invokevirtual 268, 3) := by decide +kernel
theorem dX11_doLine_90 : decode cX11_doLine 90 = .ok (.return_, 1) := by decide +kernel
theorem dX11_startAnew_0 : decode cX11_startAnew 0 = .ok (.aload_n 0, 1) := by decide +kernel
theorem dX11_startAnew_1 : decode cX11_startAnew 1 = .ok (.getfield 12, 3) := by decide +kernel
theorem dX11_startAnew_4 : decode cX11_startAnew 4 = .ok (.iload_n 1, 1) := by decide +kernel
theorem dX11_startAnew_5 : decode cX11_startAnew 5 = .ok (.invokevirtual 271, 3) := by decide +kernel
theorem dX11_startAnew_8 : decode cX11_startAnew 8 = .ok (.iconst 0, 1) := by decide +kernel
theorem dX11_startAnew_9 : decode cX11_startAnew 9 = .ok (.istore_n 2, 1) := by decide +kernel
theorem dX11_startAnew_10 : decode cX11_startAnew 10 = .ok (.iload_n 2, 1) := by decide +kernel
theorem dX11_startAnew_11 : decode cX11_startAnew 11 = .ok (.aload_n 0, 1) := by decide +kernel
theorem dX11_startAnew_12 : decode cX11_startAnew 12 = .ok (.getfield 18, 3) := by decide +kernel
theorem dX11_startAnew_15 : decode cX11_startAnew 15 = .ok (.arraylength, 1) := by decide +kernel
theorem dX11_startAnew_16 : decode cX11_startAnew 16 = .ok (.if_icmp .ge 18, 3) := by decide +kernel
theorem dX11_startAnew_19 : decode cX11_startAnew 19 = .ok (.aload_n 0, 1) := by decide +kernel
theorem dX11_startAnew_20 : decode cX11_startAnew 20 = .ok (.getfield 18, 3) := by decide +kernel
theorem dX11_startAnew_23 : decode cX11_startAnew 23 = .ok (.iload_n 2, 1) := by decide +kernel
theorem dX11_startAnew_24 : decode cX11_startAnew 24 = .ok (.aaload, 1) := by decide +kernel
theorem dX11_startAnew_25 : decode cX11_startAnew 25 = .ok (.invokevirtual 145, 3) := by decide +kernel
theorem dX11_startAnew_28 : decode cX11_startAnew 28 = .ok (.iinc 2 1, 3) := by decide +kernel
theorem dX11_startAnew_31 : decode cX11_startAnew 31 = .ok (.goto (-21), 3) := by decide +kernel
theorem dX11_startAnew_34 : decode cX11_startAnew 34 = .ok (.return_, 1) := by decide +kernel
theorem dX11_tellHeap_0 : decode cX11_tellHeap 0 = .ok (.aload_n 0, 1) := by decide +kernel
theorem dX11_tellHeap_1 : decode cX11_tellHeap 1 = .ok (.aload_n 1, 1) := by decide +kernel
theorem dX11_tellHeap_2 : decode cX11_tellHeap 2 = .ok (.getfield 259, 3) := by decide +kernel
theorem dX11_tellHeap_5 : decode cX11_tellHeap 5 = .ok (.invokevirtual 136, 3) := by decide +kernel
theorem dX11_tellHeap_8 : decode cX11_tellHeap 8 = .ok (.astore_n 2, 1) := by decide +kernel
theorem dX11_tellHeap_9 : decode cX11_tellHeap 9 = .ok (.aload_n 2, 1) := by decide +kernel
theorem dX11_tellHeap_10 : decode cX11_tellHeap 10 = .ok (.ifnonnull 4, 3) := by decide +kernel
theorem dX11_tellHeap_13 : decode cX11_tellHeap 13 = .ok (.return_, 1) := by decide +kernel
theorem dX11_tellHeap_14 : decode cX11_tellHeap 14 = .ok (.aload_n 2, 1) := by decide +kernel
theorem dX11_tellHeap_15 : decode cX11_tellHeap 15 = .ok (.invokevirtual 145, 3) := by decide +kernel
theorem dX11_tellHeap_18 : decode cX11_tellHeap 18 = .ok (.aload_n 1, 1) := by decide +kernel
theorem dX11_tellHeap_19 : decode cX11_tellHeap 19 = .ok (.getfield 273, 3) := by decide +kernel
theorem dX11_tellHeap_22 : decode cX11_tellHeap 22 = .ok (.istore_n 3, 1) := by decide +kernel
theorem dX11_tellHeap_23 : decode cX11_tellHeap 23 = .ok (.iload_n 3, 1) := by decide +kernel
theorem dX11_tellHeap_24 : decode cX11_tellHeap 24 = .ok (.aload_n 1, 1) := by decide +kernel
theorem dX11_tellHeap_25 : decode cX11_tellHeap 25 = .ok (.getfield 276, 3) := by decide +kernel
theorem dX11_tellHeap_28 : decode cX11_tellHeap 28 = .ok (.if_icmp .ge 22, 3) := by decide +kernel
theorem dX11_tellHeap_31 : decode cX11_tellHeap 31 = .ok (.aload_n 2, 1) := by decide +kernel
theorem dX11_tellHeap_32 : decode cX11_tellHeap 32 = .ok (.aload_n 0, 1) := by decide +kernel
theorem dX11_tellHeap_33 : decode cX11_tellHeap 33 = .ok (.getfield 30, 3) := by decide +kernel
theorem dX11_tellHeap_36 : decode cX11_tellHeap 36 = .ok (.iload_n 3, 1) := by decide +kernel
theorem dX11_tellHeap_37 : decode cX11_tellHeap 37 = .ok (.invokevirtual 279, 3) := by decide +kernel
theorem dX11_tellHeap_40 : decode cX11_tellHeap 40 = .ok (.invokevirtual 140, 3) := by decide +kernel
theorem dX11_tellHeap_43 : decode cX11_tellHeap 43 = .ok (.pop, 1) := by decide +kernel
theorem dX11_tellHeap_44 : decode cX11_tellHeap 44 = .ok (.iinc 3 1, 3) := by decide +kernel
theorem dX11_tellHeap_47 : decode cX11_tellHeap 47 = .ok (.goto (-24), 3) := by decide +kernel
theorem dX11_tellHeap_50 : decode cX11_tellHeap 50 = .ok (.return_, 1) := by decide +kernel
theorem dX12_init_0 : decode cX12_init 0 = .ok (.aload_n 0, 1) := by decide +kernel
theorem dX12_init_1 : decode cX12_init 1 = .ok (.invokespecial 1, 3) := by decide +kernel
theorem dX12_init_4 : decode cX12_init 4 = .ok (.aload_n 0, 1) := by decide +kernel
theorem dX12_init_5 : decode cX12_init 5 = .ok (.iconst 3, 1) := by decide +kernel
theorem dX12_init_6 : decode cX12_init 6 = .ok (.putfield 7, 3) := by decide +kernel
theorem dX12_init_9 : decode cX12_init 9 = .ok (.aload_n 0, 1) := by decide +kernel
theorem dX12_init_10 : decode cX12_init 10 = .ok (.bipush 6, 2) := by decide +kernel
theorem dX12_init_12 : decode cX12_init 12 = .ok (.newarray .int, 2) := by decide +kernel
theorem dX12_init_14 : decode cX12_init 14 = .ok (.putfield 13, 3) := by decide +kernel
theorem dX12_init_17 : decode cX12_init 17 = .ok (.aload_n 0, 1) := by decide +kernel
theorem dX12_init_18 : decode cX12_init 18 = .ok (.iconst 4, 1) := by decide +kernel
theorem dX12_init_19 : decode cX12_init 19 = .ok (.newarray .int, 2) := by decide +kernel
theorem dX12_init_21 : decode cX12_init 21 = .ok (.putfield 17, 3) := by decide +kernel
theorem dX12_init_24 : decode cX12_init 24 = .ok (.aload_n 0, 1) := by decide +kernel
theorem dX12_init_25 : decode cX12_init 25 = .ok (.bipush 96, 2) := by decide +kernel
theorem dX12_init_27 : decode cX12_init 27 = .ok (.newarray .int, 2) := by decide +kernel
theorem dX12_init_29 : decode cX12_init 29 = .ok (.putfield 20, 3) := by decide +kernel
theorem dX12_init_32 : decode cX12_init 32 = .ok (.aload_n 0, 1) := by decide +kernel
theorem dX12_init_33 : decode cX12_init 33 = .ok (.sipush 160, 3) := by decide +kernel
theorem dX12_init_36 : decode cX12_init 36 = .ok (.newarray .int, 2) := by decide +kernel
theorem dX12_init_38 : decode cX12_init 38 = .ok (.putfield 23, 3) := by decide +kernel
theorem dX12_init_41 : decode cX12_init 41 = .ok (.aload_n 0, 1) := by decide +kernel
theorem dX12_init_42 : decode cX12_init 42 = .ok (.bipush 64, 2) := by decide +kernel
theorem dX12_init_44 : decode cX12_init 44 = .ok (.newarray .int, 2) := by decide +kernel
theorem dX12_init_46 : decode cX12_init 46 = .ok (.putfield 26, 3) := by decide +kernel
theorem dX12_init_49 : decode cX12_init 49 = .ok (.aload_n 0, 1) := by decide +kernel
theorem dX12_init_50 : decode cX12_init 50 = .ok (.bipush 48, 2) := by decide +kernel
theorem dX12_init_52 : decode cX12_init 52 = .ok (.newarray .int, 2) := by decide +kernel
theorem dX12_init_54 : decode cX12_init 54 = .ok (.putfield 29, 3) := by decide +kernel
theorem dX12_init_57 : decode cX12_init 57 = .ok (.aload_n 0, 1) := by decide +kernel
theorem dX12_init_58 : decode cX12_init 58 = .ok (.bipush 48, 2) := by decide +kernel
theorem dX12_init_60 : decode cX12_init 60 = .ok (.newarray .int, 2) := by decide +kernel
theorem dX12_init_62 : decode cX12_init 62 = .ok (.putfield 32, 3) := by decide +kernel
theorem dX12_init_65 : decode cX12_init 65 = .ok (.aload_n 0, 1) := by decide +kernel
theorem dX12_init_66 : decode cX12_init 66 = .ok (.bipush 48, 2) := by decide +kernel
theorem dX12_init_68 : decode cX12_init 68 = .ok (.newarray .int, 2) := by decide +kernel
theorem dX12_init_70 : decode cX12_init 70 = .ok (.putfield 35, 3) := by decide +kernel
theorem dX12_init_73 : decode cX12_init 73 = .ok (.aload_n 0, 1) := by decide +kernel
theorem dX12_init_74 : decode cX12_init 74 = .ok (.bipush 48, 2) := by decide +kernel
theorem dX12_init_76 : decode cX12_init 76 = .ok (.newarray .boolean, 2) := by decide +kernel
theorem dX12_init_78 : decode cX12_init 78 = .ok (.putfield 38, 3) := by decide +kernel
theorem dX12_init_81 : decode cX12_init 81 = .ok (.aload_n 0, 1) := by decide +kernel
theorem dX12_init_82 : decode cX12_init 82 = .ok (.sipush 576, 3) := by decide +kernel
theorem dX12_init_85 : decode cX12_init 85 = .ok (.newarray .boolean, 2) := by decide +kernel
theorem dX12_init_87 : decode cX12_init 87 = .ok (.putfield 42, 3) := by decide +kernel
theorem dX12_init_90 : decode cX12_init 90 = .ok (.aload_n 0, 1) := by decide +kernel
theorem dX12_init_91 : decode cX12_init 91 = .ok (.sipush 20001, 3) := by decide +kernel
theorem dX12_init_94 : decode cX12_init 94 = .ok (.newarray .int, 2) := by decide +kernel
theorem dX12_init_96 : decode cX12_init 96 = .ok (.putfield 45, 3) := by decide +kernel
theorem dX12_init_99 : decode cX12_init 99 = .ok (.aload_n 0, 1) := by decide +kernel
theorem dX12_init_100 : decode cX12_init 100 = .ok (.sipush 20001, 3) := by decide +kernel
theorem dX12_init_103 : decode cX12_init 103 = .ok (.newarray .long, 2) := by decide +kernel
theorem dX12_init_105 : decode cX12_init 105 = .ok (.putfield 48, 3) := by decide +kernel
theorem dX12_init_108 : decode cX12_init 108 = .ok (.aload_n 0, 1) := by decide +kernel
theorem dX12_init_109 : decode cX12_init 109 = .ok (.ldc 52, 2) := by decide +kernel
theorem dX12_init_111 : decode cX12_init 111 = .ok (.newarray .int, 2) := by decide +kernel
theorem dX12_init_113 : decode cX12_init 113 = .ok (.putfield 53, 3) := by decide +kernel
theorem dX12_init_116 : decode cX12_init 116 = .ok (.aload_n 0, 1) := by decide +kernel
theorem dX12_init_117 : decode cX12_init 117 = .ok (.bipush 6, 2) := by decide +kernel
theorem dX12_init_119 : decode cX12_init 119 = .ok (.newarray .int, 2) := by decide +kernel
theorem dX12_init_121 : decode cX12_init 121 = .ok (.putfield 56, 3) := by decide +kernel
theorem dX12_init_124 : decode cX12_init 124 = .ok (.aload_n 0, 1) := by decide +kernel
theorem dX12_init_125 : decode cX12_init 125 = .ok (.bipush 6, 2) := by decide +kernel
theorem dX12_init_127 : decode cX12_init 127 = .ok (.newarray .int, 2) := by decide +kernel
theorem dX12_init_129 : decode cX12_init 129 = .ok (.putfield 59, 3) := by decide +kernel
theorem dX12_init_132 : decode cX12_init 132 = .ok (.aload_n 0, 1) := by decide +kernel
theorem dX12_init_133 : decode cX12_init 133 = .ok (.sipush 2001, 3) := by decide +kernel
theorem dX12_init_136 : decode cX12_init 136 = .ok (.newarray .long, 2) := by decide +kernel
theorem dX12_init_138 : decode cX12_init 138 = .ok (.putfield 62, 3) := by decide +kernel
theorem dX12_init_141 : decode cX12_init 141 = .ok (.aload_n 0, 1) := by decide +kernel
theorem dX12_init_142 : decode cX12_init 142 = .ok (.sipush 1344, 3) := by decide +kernel
theorem dX12_init_145 : decode cX12_init 145 = .ok (.newarray .long, 2) := by decide +kernel
theorem dX12_init_147 : decode cX12_init 147 = .ok (.putfield 65, 3) := by decide +kernel
theorem dX12_init_150 : decode cX12_init 150 = .ok (.aload_n 0, 1) := by decide +kernel
theorem dX12_init_151 : decode cX12_init 151 = .ok (.sipush 320, 3) := by decide +kernel
theorem dX12_init_154 : decode cX12_init 154 = .ok (.newarray .long, 2) := by decide +kernel
theorem dX12_init_156 : decode cX12_init 156 = .ok (.putfield 68, 3) := by decide +kernel
theorem dX12_init_159 : decode cX12_init 159 = .ok (.aload_n 0, 1) := by decide +kernel
theorem dX12_init_160 : decode cX12_init 160 = .ok (.sipush 320, 3) := by decide +kernel
theorem dX12_init_163 : decode cX12_init 163 = .ok (.newarray .long, 2) := by decide +kernel
theorem dX12_init_165 : decode cX12_init 165 = .ok (.putfield 71, 3) := by decide +kernel
theorem dX12_init_168 : decode cX12_init 168 = .ok (.aload_n 0, 1) := by decide +kernel
theorem dX12_init_169 : decode cX12_init 169 = .ok (.bipush 61, 2) := by decide +kernel
theorem dX12_init_171 : decode cX12_init 171 = .ok (.newarray .long, 2) := by decide +kernel
theorem dX12_init_173 : decode cX12_init 173 = .ok (.putfield 74, 3) := by decide +kernel
theorem dX12_init_176 : decode cX12_init 176 = .ok (.aload_n 0, 1) := by decide +kernel
theorem dX12_init_177 : decode cX12_init 177 = .ok (.iconst 1, 1) := by decide +kernel
theorem dX12_init_178 : decode cX12_init 178 = .ok (.putfield 77, 3) := by decide +kernel
theorem dX12_init_181 : decode cX12_init 181 = .ok (.aload_n 0, 1) := by decide +kernel
theorem dX12_init_182 : decode cX12_init 182 = .ok (.bipush 30, 2) := by decide +kernel
theorem dX12_init_184 : decode cX12_init 184 = .ok (.newarray .int, 2) := by decide +kernel
theorem dX12_init_186 : decode cX12_init 186 = .ok (.putfield 80, 3) := by decide +kernel
theorem dX12_init_189 : decode cX12_init 189 = .ok (.return_, 1) := by decide +kernel
theorem dX12_in_0 : decode cX12_in 0 = .ok (.iload_n 0, 1) := by decide +kernel
theorem dX12_in_1 : decode cX12_in 1 = .ok (.iload_n 1, 1) := by decide +kernel
theorem dX12_in_2 : decode cX12_in 2 = .ok (.if_icmp .lt 12, 3) := by decide +kernel
theorem dX12_in_5 : decode cX12_in 5 = .ok (.iload_n 0, 1) := by decide +kernel
theorem dX12_in_6 : decode cX12_in 6 = .ok (.iload_n 2, 1) := by decide +kernel
theorem dX12_in_7 : decode cX12_in 7 = .ok (.if_icmp .gt 7, 3) := by decide +kernel
theorem dX12_in_10 : decode cX12_in 10 = .ok (.iconst 1, 1) := by decide +kernel
theorem dX12_in_11 : decode cX12_in 11 = .ok (.goto 4, 3) := by decide +kernel
theorem dX12_in_14 : decode cX12_in 14 = .ok (.iconst 0, 1) := by decide +kernel
theorem dX12_in_15 : decode cX12_in 15 = .ok (.ireturn, 1) := by decide +kernel
theorem dX12_isLetter_0 : decode cX12_isLetter 0 = .ok (.iload_n 1, 1) := by decide +kernel
theorem dX12_isLetter_1 : decode cX12_isLetter 1 = .ok (.iconst 0, 1) := by decide +kernel
theorem dX12_isLetter_2 : decode cX12_isLetter 2 = .ok (.aload_n 0, 1) := by decide +kernel
theorem dX12_isLetter_3 : decode cX12_isLetter 3 = .ok (.getfield 7, 3) := by decide +kernel
theorem dX12_isLetter_6 : decode cX12_isLetter 6 = .ok (.iconst 1, 1) := by decide +kernel
theorem dX12_isLetter_7 : decode cX12_isLetter 7 = .ok (.isub, 1) := by decide +kernel
theorem dX12_isLetter_8 : decode cX12_isLetter 8 = .ok (.invokestatic 83, 3) := by decide +kernel
theorem dX12_isLetter_11 : decode cX12_isLetter 11 = .ok (.ireturn, 1) := by decide +kernel
theorem dX12_isHeap_0 : decode cX12_isHeap 0 = .ok (.iload_n 0, 1) := by decide +kernel
theorem dX12_isHeap_1 : decode cX12_isHeap 1 = .ok (.iconst 0, 1) := by decide +kernel
theorem dX12_isHeap_2 : decode cX12_isHeap 2 = .ok (.iconst 3, 1) := by decide +kernel
theorem dX12_isHeap_3 : decode cX12_isHeap 3 = .ok (.invokestatic 83, 3) := by decide +kernel
theorem dX12_isHeap_6 : decode cX12_isHeap 6 = .ok (.ireturn, 1) := by decide +kernel
theorem dX12_areFree_0 : decode cX12_areFree 0 = .ok (.aload_n 0, 1) := by decide +kernel
theorem dX12_areFree_1 : decode cX12_areFree 1 = .ok (.getfield 13, 3) := by decide +kernel
theorem dX12_areFree_4 : decode cX12_areFree 4 = .ok (.iload_n 1, 1) := by decide +kernel
theorem dX12_areFree_5 : decode cX12_areFree 5 = .ok (.iaload, 1) := by decide +kernel
theorem dX12_areFree_6 : decode cX12_areFree 6 = .ok (.iload_n 2, 1) := by decide +kernel
theorem dX12_areFree_7 : decode cX12_areFree 7 = .ok (.ishr, 1) := by decide +kernel
theorem dX12_areFree_8 : decode cX12_areFree 8 = .ok (.iconst 1, 1) := by decide +kernel
theorem dX12_areFree_9 : decode cX12_areFree 9 = .ok (.iand, 1) := by decide +kernel
theorem dX12_areFree_10 : decode cX12_areFree 10 = .ok (.iconst 1, 1) := by decide +kernel
theorem dX12_areFree_11 : decode cX12_areFree 11 = .ok (.if_icmp .ne 7, 3) := by decide +kernel
theorem dX12_areFree_14 : decode cX12_areFree 14 = .ok (.iconst 1, 1) := by decide +kernel
theorem dX12_areFree_15 : decode cX12_areFree 15 = .ok (.goto 4, 3) := by decide +kernel
theorem dX12_areFree_18 : decode cX12_areFree 18 = .ok (.iconst 0, 1) := by decide +kernel
theorem dX12_areFree_19 : decode cX12_areFree 19 = .ok (.ireturn, 1) := by decide +kernel
theorem dX12_write_0 : decode cX12_write 0 = .ok (.iload_n 3, 1) := by decide +kernel
theorem dX12_write_1 : decode cX12_write 1 = .ok (.iconst 1, 1) := by decide +kernel
theorem dX12_write_2 : decode cX12_write 2 = .ok (.bipush 8, 2) := by decide +kernel
theorem dX12_write_4 : decode cX12_write 4 = .ok (.invokestatic 83, 3) := by decide +kernel
theorem dX12_write_7 : decode cX12_write 7 = .ok (.ifCond .ne 6, 3) := by decide +kernel
theorem dX12_write_10 : decode cX12_write 10 = .ok (.bipush (-3), 2) := by decide +kernel
theorem dX12_write_12 : decode cX12_write 12 = .ok (.ireturn, 1) := by decide +kernel
theorem dX12_write_13 : decode cX12_write 13 = .ok (.aload_n 0, 1) := by decide +kernel
theorem dX12_write_14 : decode cX12_write 14 = .ok (.getfield 87, 3) := by decide +kernel
theorem dX12_write_17 : decode cX12_write 17 = .ok (.iload_n 3, 1) := by decide +kernel
theorem dX12_write_18 : decode cX12_write 18 = .ok (.iadd, 1) := by decide +kernel
theorem dX12_write_19 : decode cX12_write 19 = .ok (.sipush 160, 3) := by decide +kernel
theorem dX12_write_22 : decode cX12_write 22 = .ok (.if_icmp .le 6, 3) := by decide +kernel
theorem dX12_write_25 : decode cX12_write 25 = .ok (.bipush (-5), 2) := by decide +kernel
theorem dX12_write_27 : decode cX12_write 27 = .ok (.ireturn, 1) := by decide +kernel
theorem dX12_write_28 : decode cX12_write 28 = .ok (.iconst 0, 1) := by decide +kernel
theorem dX12_write_29 : decode cX12_write 29 = .ok (.istore 4, 2) := by decide +kernel
theorem dX12_write_31 : decode cX12_write 31 = .ok (.iload 4, 2) := by decide +kernel
theorem dX12_write_33 : decode cX12_write 33 = .ok (.iload_n 3, 1) := by decide +kernel
theorem dX12_write_34 : decode cX12_write 34 = .ok (.if_icmp .ge 33, 3) := by decide +kernel
theorem dX12_write_37 : decode cX12_write 37 = .ok (.aload_n 0, 1) := by decide +kernel
theorem dX12_write_38 : decode cX12_write 38 = .ok (.getfield 23, 3) := by decide +kernel
theorem dX12_write_41 : decode cX12_write 41 = .ok (.aload_n 0, 1) := by decide +kernel
theorem dX12_write_42 : decode cX12_write 42 = .ok (.getfield 87, 3) := by decide +kernel
theorem dX12_write_45 : decode cX12_write 45 = .ok (.iload 4, 2) := by decide +kernel
theorem dX12_write_47 : decode cX12_write 47 = .ok (.iadd, 1) := by decide +kernel
theorem dX12_write_48 : decode cX12_write 48 = .ok (.lload_n 1, 1) := by decide +kernel
theorem dX12_write_49 : decode cX12_write 49 = .ok (.bipush 8, 2) := by decide +kernel
theorem dX12_write_51 : decode cX12_write 51 = .ok (.iload 4, 2) := by decide +kernel
theorem dX12_write_53 : decode cX12_write 53 = .ok (.imul, 1) := by decide +kernel
theorem dX12_write_54 : decode cX12_write 54 = .ok (.lshr, 1) := by decide +kernel
theorem dX12_write_55 : decode cX12_write 55 = .ok (.ldc2_w 90, 3) := by decide +kernel
theorem dX12_write_58 : decode cX12_write 58 = .ok (.land, 1) := by decide +kernel
theorem dX12_write_59 : decode cX12_write 59 = .ok (.l2i, 1) := by decide +kernel
theorem dX12_write_60 : decode cX12_write 60 = .ok (.iastore, 1) := by decide +kernel
theorem dX12_write_61 : decode cX12_write 61 = .ok (.iinc 4 1, 3) := by decide +kernel
theorem dX12_write_64 : decode cX12_write 64 = .ok (.goto (-33), 3) := by decide +kernel
theorem dX12_write_67 : decode cX12_write 67 = .ok (.aload_n 0, 1) := by decide +kernel
theorem dX12_write_68 : decode cX12_write 68 = .ok (.dup, 1) := by decide +kernel
theorem dX12_write_69 : decode cX12_write 69 = .ok (.getfield 87, 3) := by decide +kernel
theorem dX12_write_72 : decode cX12_write 72 = .ok (.iload_n 3, 1) := by decide +kernel
theorem dX12_write_73 : decode cX12_write 73 = .ok (.iadd, 1) := by decide +kernel
theorem dX12_write_74 : decode cX12_write 74 = .ok (.putfield 87, 3) := by decide +kernel
theorem dX12_write_77 : decode cX12_write 77 = .ok (.aload_n 0, 1) := by decide +kernel
theorem dX12_write_78 : decode cX12_write 78 = .ok (.getfield 87, 3) := by decide +kernel
theorem dX12_write_81 : decode cX12_write 81 = .ok (.ireturn, 1) := by decide +kernel
theorem dX12_erase_0 : decode cX12_erase 0 = .ok (.aload_n 0, 1) := by decide +kernel
theorem dX12_erase_1 : decode cX12_erase 1 = .ok (.getfield 87, 3) := by decide +kernel
theorem dX12_erase_4 : decode cX12_erase 4 = .ok (.istore_n 1, 1) := by decide +kernel
theorem dX12_erase_5 : decode cX12_erase 5 = .ok (.aload_n 0, 1) := by decide +kernel
theorem dX12_erase_6 : decode cX12_erase 6 = .ok (.iconst 0, 1) := by decide +kernel
theorem dX12_erase_7 : decode cX12_erase 7 = .ok (.putfield 87, 3) := by decide +kernel
theorem dX12_erase_10 : decode cX12_erase 10 = .ok (.iload_n 1, 1) := by decide +kernel
theorem dX12_erase_11 : decode cX12_erase 11 = .ok (.ireturn, 1) := by decide +kernel
theorem dX12_nextToken_0 : decode cX12_nextToken 0 = .ok (.aload_n 0, 1) := by decide +kernel
theorem dX12_nextToken_1 : decode cX12_nextToken 1 = .ok (.getfield 92, 3) := by decide +kernel
theorem dX12_nextToken_4 : decode cX12_nextToken 4 = .ok (.aload_n 0, 1) := by decide +kernel
theorem dX12_nextToken_5 : decode cX12_nextToken 5 = .ok (.getfield 87, 3) := by decide +kernel
theorem dX12_nextToken_8 : decode cX12_nextToken 8 = .ok (.if_icmp .ge 30, 3) := by decide +kernel
theorem dX12_nextToken_11 : decode cX12_nextToken 11 = .ok (.aload_n 0, 1) := by decide +kernel
theorem dX12_nextToken_12 : decode cX12_nextToken 12 = .ok (.getfield 23, 3) := by decide +kernel
theorem dX12_nextToken_15 : decode cX12_nextToken 15 = .ok (.aload_n 0, 1) := by decide +kernel
theorem dX12_nextToken_16 : decode cX12_nextToken 16 = .ok (.getfield 92, 3) := by decide +kernel
theorem dX12_nextToken_19 : decode cX12_nextToken 19 = .ok (.iaload, 1) := by decide +kernel
theorem dX12_nextToken_20 : decode cX12_nextToken 20 = .ok (.bipush 32, 2) := by decide +kernel
theorem dX12_nextToken_22 : decode cX12_nextToken 22 = .ok (.if_icmp .ne 16, 3) := by decide +kernel
theorem dX12_nextToken_25 : decode cX12_nextToken 25 = .ok (.aload_n 0, 1) := by decide +kernel
theorem dX12_nextToken_26 : decode cX12_nextToken 26 = .ok (.dup, 1) := by decide +kernel
theorem dX12_nextToken_27 : decode cX12_nextToken 27 = .ok (.getfield 92, 3) := by decide +kernel
theorem dX12_nextToken_30 : decode cX12_nextToken 30 = .ok (.iconst 1, 1) := by decide +kernel
theorem dX12_nextToken_31 : decode cX12_nextToken 31 = .ok (.iadd, 1) := by decide +kernel
theorem dX12_nextToken_32 : decode cX12_nextToken 32 = .ok (.putfield 92, 3) := by decide +kernel
theorem dX12_nextToken_35 : decode cX12_nextToken 35 = .ok (.goto (-35), 3) := by decide +kernel
theorem dX12_nextToken_38 : decode cX12_nextToken 38 = .ok (.aload_n 0, 1) := by decide +kernel
theorem dX12_nextToken_39 : decode cX12_nextToken 39 = .ok (.aload_n 0, 1) := by decide +kernel
theorem dX12_nextToken_40 : decode cX12_nextToken 40 = .ok (.getfield 92, 3) := by decide +kernel
theorem dX12_nextToken_43 : decode cX12_nextToken 43 = .ok (.putfield 95, 3) := by decide +kernel
theorem dX12_nextToken_46 : decode cX12_nextToken 46 = .ok (.aload_n 0, 1) := by decide +kernel
theorem dX12_nextToken_47 : decode cX12_nextToken 47 = .ok (.aload_n 0, 1) := by decide +kernel
theorem dX12_nextToken_48 : decode cX12_nextToken 48 = .ok (.getfield 92, 3) := by decide +kernel
theorem dX12_nextToken_51 : decode cX12_nextToken 51 = .ok (.aload_n 0, 1) := by decide +kernel
theorem dX12_nextToken_52 : decode cX12_nextToken 52 = .ok (.getfield 87, 3) := by decide +kernel
theorem dX12_nextToken_55 : decode cX12_nextToken 55 = .ok (.if_icmp .ne 7, 3) := by decide +kernel
theorem dX12_nextToken_58 : decode cX12_nextToken 58 = .ok (.iconst 0, 1) := by decide +kernel
theorem dX12_nextToken_59 : decode cX12_nextToken 59 = .ok (.goto 15, 3) := by decide +kernel
theorem dX12_nextToken_62 : decode cX12_nextToken 62 = .ok (.aload_n 0, 1) := by decide +kernel
theorem dX12_nextToken_63 : decode cX12_nextToken 63 = .ok (.getfield 23, 3) := by decide +kernel
theorem dX12_nextToken_66 : decode cX12_nextToken 66 = .ok (.aload_n 0, 1) := by decide +kernel
theorem dX12_nextToken_67 : decode cX12_nextToken 67 = .ok (.getfield 92, 3) := by decide +kernel
theorem dX12_nextToken_70 : decode cX12_nextToken 70 = .ok (.iaload, 1) := by decide +kernel
theorem dX12_nextToken_71 : decode cX12_nextToken 71 = .ok (.invokestatic 98, 3) := by decide +kernel
theorem dX12_nextToken_74 : decode cX12_nextToken 74 = .ok (.putfield 102, 3) := by decide +kernel
theorem dX12_nextToken_77 : decode cX12_nextToken 77 = .ok (.aload_n 0, 1) := by decide +kernel
theorem dX12_nextToken_78 : decode cX12_nextToken 78 = .ok (.dup, 1) := by decide +kernel
theorem dX12_nextToken_79 : decode cX12_nextToken 79 = .ok (.getfield 92, 3) := by decide +kernel
theorem dX12_nextToken_82 : decode cX12_nextToken 82 = .ok (.aload_n 0, 1) := by decide +kernel
theorem dX12_nextToken_83 : decode cX12_nextToken 83 = .ok (.getfield 102, 3) := by decide +kernel
theorem dX12_nextToken_86 : decode cX12_nextToken 86 = .ok (.ifCond .ne 7, 3) := by decide +kernel
theorem dX12_nextToken_89 : decode cX12_nextToken 89 = .ok (.iconst 0, 1) := by decide +kernel
theorem dX12_nextToken_90 : decode cX12_nextToken 90 = .ok (.goto 4, 3) := by decide +kernel
theorem dX12_nextToken_93 : decode cX12_nextToken 93 = .ok (.iconst 1, 1) := by decide +kernel
theorem dX12_nextToken_94 : decode cX12_nextToken 94 = .ok (.iadd, 1) := by decide +kernel
theorem dX12_nextToken_95 : decode cX12_nextToken 95 = .ok (.putfield 92, 3) := by decide +kernel
theorem dX12_nextToken_98 : decode cX12_nextToken 98 = .ok (.aload_n 0, 1) := by decide +kernel
theorem dX12_nextToken_99 : decode cX12_nextToken 99 = .ok (.getfield 92, 3) := by decide +kernel
theorem dX12_nextToken_102 : decode cX12_nextToken 102 = .ok (.aload_n 0, 1) := by decide +kernel
theorem dX12_nextToken_103 : decode cX12_nextToken 103 = .ok (.getfield 87, 3) := by decide +kernel
theorem dX12_nextToken_106 : decode cX12_nextToken 106 = .ok (.if_icmp .ge 50, 3) := by decide +kernel
theorem dX12_nextToken_109 : decode cX12_nextToken 109 = .ok (.aload_n 0, 1) := by decide +kernel
theorem dX12_nextToken_110 : decode cX12_nextToken 110 = .ok (.getfield 102, 3) := by decide +kernel
theorem dX12_nextToken_113 : decode cX12_nextToken 113 = .ok (.iconst 3, 1) := by decide +kernel
theorem dX12_nextToken_114 : decode cX12_nextToken 114 = .ok (.if_icmp .ge 42, 3) := by decide +kernel
theorem dX12_nextToken_117 : decode cX12_nextToken 117 = .ok (.aload_n 0, 1) := by decide +kernel
theorem dX12_nextToken_118 : decode cX12_nextToken 118 = .ok (.getfield 102, 3) := by decide +kernel
theorem dX12_nextToken_121 : decode cX12_nextToken 121 = .ok (.ifCond .le 35, 3) := by decide +kernel
theorem dX12_nextToken_124 : decode cX12_nextToken 124 = .ok (.aload_n 0, 1) := by decide +kernel
theorem dX12_nextToken_125 : decode cX12_nextToken 125 = .ok (.getfield 23, 3) := by decide +kernel
theorem dX12_nextToken_128 : decode cX12_nextToken 128 = .ok (.aload_n 0, 1) := by decide +kernel
theorem dX12_nextToken_129 : decode cX12_nextToken 129 = .ok (.getfield 92, 3) := by decide +kernel
theorem dX12_nextToken_132 : decode cX12_nextToken 132 = .ok (.iaload, 1) := by decide +kernel
theorem dX12_nextToken_133 : decode cX12_nextToken 133 = .ok (.invokestatic 98, 3) := by decide +kernel
theorem dX12_nextToken_136 : decode cX12_nextToken 136 = .ok (.aload_n 0, 1) := by decide +kernel
theorem dX12_nextToken_137 : decode cX12_nextToken 137 = .ok (.getfield 102, 3) := by decide +kernel
theorem dX12_nextToken_140 : decode cX12_nextToken 140 = .ok (.if_icmp .ne 16, 3) := by decide +kernel
theorem dX12_nextToken_143 : decode cX12_nextToken 143 = .ok (.aload_n 0, 1) := by decide +kernel
theorem dX12_nextToken_144 : decode cX12_nextToken 144 = .ok (.dup, 1) := by decide +kernel
theorem dX12_nextToken_145 : decode cX12_nextToken 145 = .ok (.getfield 92, 3) := by decide +kernel
theorem dX12_nextToken_148 : decode cX12_nextToken 148 = .ok (.iconst 1, 1) := by decide +kernel
theorem dX12_nextToken_149 : decode cX12_nextToken 149 = .ok (.iadd, 1) := by decide +kernel
theorem dX12_nextToken_150 : decode cX12_nextToken 150 = .ok (.putfield 92, 3) := by decide +kernel
theorem dX12_nextToken_153 : decode cX12_nextToken 153 = .ok (.goto (-55), 3) := by decide +kernel
theorem dX12_nextToken_156 : decode cX12_nextToken 156 = .ok (.aload_n 0, 1) := by decide +kernel
theorem dX12_nextToken_157 : decode cX12_nextToken 157 = .ok (.aload_n 0, 1) := by decide +kernel
theorem dX12_nextToken_158 : decode cX12_nextToken 158 = .ok (.getfield 92, 3) := by decide +kernel
theorem dX12_nextToken_161 : decode cX12_nextToken 161 = .ok (.aload_n 0, 1) := by decide +kernel
theorem dX12_nextToken_162 : decode cX12_nextToken 162 = .ok (.getfield 95, 3) := by decide +kernel
theorem dX12_nextToken_165 : decode cX12_nextToken 165 = .ok (.isub, 1) := by decide +kernel
theorem dX12_nextToken_166 : decode cX12_nextToken 166 = .ok (.putfield 105, 3) := by decide +kernel
end
section
theorem dX12_nextToken_169 : decode cX12_nextToken 169 = .ok (.return_, 1) := by decide +kernel
theorem dX12_kindOf_0 : decode cX12_kindOf 0 = .ok (.iload_n 0, 1) := by decide +kernel
theorem dX12_kindOf_1 : decode cX12_kindOf 1 = .ok (.bipush 97, 2) := by decide +kernel
theorem dX12_kindOf_3 : decode cX12_kindOf 3 = .ok (.bipush 122, 2) := by decide +kernel
theorem dX12_kindOf_5 : decode cX12_kindOf 5 = .ok (.invokestatic 83, 3) := by decide +kernel
theorem dX12_kindOf_8 : decode cX12_kindOf 8 = .ok (.ifCond .eq 7, 3) := by decide +kernel
theorem dX12_kindOf_11 : decode cX12_kindOf 11 = .ok (.iconst 1, 1) := by decide +kernel
theorem dX12_kindOf_12 : decode cX12_kindOf 12 = .ok (.goto 29, 3) := by decide +kernel
theorem dX12_kindOf_15 : decode cX12_kindOf 15 = .ok (.iload_n 0, 1) := by decide +kernel
theorem dX12_kindOf_16 : decode cX12_kindOf 16 = .ok (.bipush 48, 2) := by decide +kernel
theorem dX12_kindOf_18 : decode cX12_kindOf 18 = .ok (.bipush 57, 2) := by decide +kernel
theorem dX12_kindOf_20 : decode cX12_kindOf 20 = .ok (.invokestatic 83, 3) := by decide +kernel
theorem dX12_kindOf_23 : decode cX12_kindOf 23 = .ok (.ifCond .eq 7, 3) := by decide +kernel
theorem dX12_kindOf_26 : decode cX12_kindOf 26 = .ok (.iconst 2, 1) := by decide +kernel
theorem dX12_kindOf_27 : decode cX12_kindOf 27 = .ok (.goto 14, 3) := by decide +kernel
theorem dX12_kindOf_30 : decode cX12_kindOf 30 = .ok (.iload_n 0, 1) := by decide +kernel
theorem dX12_kindOf_31 : decode cX12_kindOf 31 = .ok (.bipush 59, 2) := by decide +kernel
theorem dX12_kindOf_33 : decode cX12_kindOf 33 = .ok (.if_icmp .ne 7, 3) := by decide +kernel
theorem dX12_kindOf_36 : decode cX12_kindOf 36 = .ok (.iconst 3, 1) := by decide +kernel
theorem dX12_kindOf_37 : decode cX12_kindOf 37 = .ok (.goto 4, 3) := by decide +kernel
theorem dX12_kindOf_40 : decode cX12_kindOf 40 = .ok (.iconst 4, 1) := by decide +kernel
theorem dX12_kindOf_41 : decode cX12_kindOf 41 = .ok (.ireturn, 1) := by decide +kernel
theorem dX12_fails_0 : decode cX12_fails 0 = .ok (.aload_n 0, 1) := by decide +kernel
theorem dX12_fails_1 : decode cX12_fails 1 = .ok (.aload_n 0, 1) := by decide +kernel
theorem dX12_fails_2 : decode cX12_fails 2 = .ok (.getfield 95, 3) := by decide +kernel
theorem dX12_fails_5 : decode cX12_fails 5 = .ok (.putfield 108, 3) := by decide +kernel
theorem dX12_fails_8 : decode cX12_fails 8 = .ok (.iconst 0, 1) := by decide +kernel
theorem dX12_fails_9 : decode cX12_fails 9 = .ok (.ireturn, 1) := by decide +kernel
theorem dX12_word_0 : decode cX12_word 0 = .ok (.lconst 0, 1) := by decide +kernel
theorem dX12_word_1 : decode cX12_word 1 = .ok (.lstore_n 1, 1) := by decide +kernel
theorem dX12_word_2 : decode cX12_word 2 = .ok (.iconst 0, 1) := by decide +kernel
theorem dX12_word_3 : decode cX12_word 3 = .ok (.istore_n 3, 1) := by decide +kernel
theorem dX12_word_4 : decode cX12_word 4 = .ok (.iload_n 3, 1) := by decide +kernel
theorem dX12_word_5 : decode cX12_word 5 = .ok (.aload_n 0, 1) := by decide +kernel
theorem dX12_word_6 : decode cX12_word 6 = .ok (.getfield 105, 3) := by decide +kernel
theorem dX12_word_9 : decode cX12_word 9 = .ok (.if_icmp .ge 53, 3) := by decide +kernel
theorem dX12_word_12 : decode cX12_word 12 = .ok (.aload_n 0, 1) := by decide +kernel
theorem dX12_word_13 : decode cX12_word 13 = .ok (.getfield 102, 3) := by decide +kernel
theorem dX12_word_16 : decode cX12_word 16 = .ok (.iconst 1, 1) := by decide +kernel
theorem dX12_word_17 : decode cX12_word 17 = .ok (.if_icmp .ne 45, 3) := by decide +kernel
theorem dX12_word_20 : decode cX12_word 20 = .ok (.aload_n 0, 1) := by decide +kernel
theorem dX12_word_21 : decode cX12_word 21 = .ok (.getfield 105, 3) := by decide +kernel
theorem dX12_word_24 : decode cX12_word 24 = .ok (.bipush 9, 2) := by decide +kernel
theorem dX12_word_26 : decode cX12_word 26 = .ok (.if_icmp .le 7, 3) := by decide +kernel
theorem dX12_word_29 : decode cX12_word 29 = .ok (.lconst 0, 1) := by decide +kernel
theorem dX12_word_30 : decode cX12_word 30 = .ok (.goto 25, 3) := by decide +kernel
theorem dX12_word_33 : decode cX12_word 33 = .ok (.ldc2_w 111, 3) := by decide +kernel
theorem dX12_word_36 : decode cX12_word 36 = .ok (.lload_n 1, 1) := by decide +kernel
theorem dX12_word_37 : decode cX12_word 37 = .ok (.lmul, 1) := by decide +kernel
theorem dX12_word_38 : decode cX12_word 38 = .ok (.aload_n 0, 1) := by decide +kernel
theorem dX12_word_39 : decode cX12_word 39 = .ok (.getfield 23, 3) := by decide +kernel
theorem dX12_word_42 : decode cX12_word 42 = .ok (.aload_n 0, 1) := by decide +kernel
theorem dX12_word_43 : decode cX12_word 43 = .ok (.getfield 95, 3) := by decide +kernel
theorem dX12_word_46 : decode cX12_word 46 = .ok (.iload_n 3, 1) := by decide +kernel
theorem dX12_word_47 : decode cX12_word 47 = .ok (.iadd, 1) := by decide +kernel
theorem dX12_word_48 : decode cX12_word 48 = .ok (.iaload, 1) := by decide +kernel
theorem dX12_word_49 : decode cX12_word 49 = .ok (.i2l, 1) := by decide +kernel
theorem dX12_word_50 : decode cX12_word 50 = .ok (.ladd, 1) := by decide +kernel
theorem dX12_word_51 : decode cX12_word 51 = .ok (.ldc2_w 113, 3) := by decide +kernel
theorem dX12_word_54 : decode cX12_word 54 = .ok (.lsub, 1) := by decide +kernel
theorem dX12_word_55 : decode cX12_word 55 = .ok (.lstore_n 1, 1) := by decide +kernel
theorem dX12_word_56 : decode cX12_word 56 = .ok (.iinc 3 1, 3) := by decide +kernel
theorem dX12_word_59 : decode cX12_word 59 = .ok (.goto (-55), 3) := by decide +kernel
theorem dX12_word_62 : decode cX12_word 62 = .ok (.lload_n 1, 1) := by decide +kernel
theorem dX12_word_63 : decode cX12_word 63 = .ok (.lreturn, 1) := by decide +kernel
theorem dX12_isNumber_0 : decode cX12_isNumber 0 = .ok (.aload_n 0, 1) := by decide +kernel
theorem dX12_isNumber_1 : decode cX12_isNumber 1 = .ok (.invokevirtual 115, 3) := by decide +kernel
theorem dX12_isNumber_4 : decode cX12_isNumber 4 = .ok (.aload_n 0, 1) := by decide +kernel
theorem dX12_isNumber_5 : decode cX12_isNumber 5 = .ok (.getfield 102, 3) := by decide +kernel
theorem dX12_isNumber_8 : decode cX12_isNumber 8 = .ok (.iconst 2, 1) := by decide +kernel
theorem dX12_isNumber_9 : decode cX12_isNumber 9 = .ok (.if_icmp .ne 26, 3) := by decide +kernel
theorem dX12_isNumber_12 : decode cX12_isNumber 12 = .ok (.aload_n 0, 1) := by decide +kernel
theorem dX12_isNumber_13 : decode cX12_isNumber 13 = .ok (.getfield 105, 3) := by decide +kernel
theorem dX12_isNumber_16 : decode cX12_isNumber 16 = .ok (.iconst 1, 1) := by decide +kernel
theorem dX12_isNumber_17 : decode cX12_isNumber 17 = .ok (.if_icmp .ne 18, 3) := by decide +kernel
theorem dX12_isNumber_20 : decode cX12_isNumber 20 = .ok (.aload_n 0, 1) := by decide +kernel
theorem dX12_isNumber_21 : decode cX12_isNumber 21 = .ok (.getfield 23, 3) := by decide +kernel
theorem dX12_isNumber_24 : decode cX12_isNumber 24 = .ok (.aload_n 0, 1) := by decide +kernel
theorem dX12_isNumber_25 : decode cX12_isNumber 25 = .ok (.getfield 95, 3) := by decide +kernel
theorem dX12_isNumber_28 : decode cX12_isNumber 28 = .ok (.iaload, 1) := by decide +kernel
theorem dX12_isNumber_29 : decode cX12_isNumber 29 = .ok (.bipush 48, 2) := by decide +kernel
theorem dX12_isNumber_31 : decode cX12_isNumber 31 = .ok (.isub, 1) := by decide +kernel
theorem dX12_isNumber_32 : decode cX12_isNumber 32 = .ok (.goto 4, 3) := by decide +kernel
theorem dX12_isNumber_35 : decode cX12_isNumber 35 = .ok (.iconst (-1), 1) := by decide +kernel
theorem dX12_isNumber_36 : decode cX12_isNumber 36 = .ok (.istore 4, 2) := by decide +kernel
theorem dX12_isNumber_38 : decode cX12_isNumber 38 = .ok (.iload 4, 2) := by decide +kernel
theorem dX12_isNumber_40 : decode cX12_isNumber 40 = .ok (.iload_n 2, 1) := by decide +kernel
theorem dX12_isNumber_41 : decode cX12_isNumber 41 = .ok (.iload_n 3, 1) := by decide +kernel
theorem dX12_isNumber_42 : decode cX12_isNumber 42 = .ok (.invokestatic 83, 3) := by decide +kernel
theorem dX12_isNumber_45 : decode cX12_isNumber 45 = .ok (.ifCond .ne 8, 3) := by decide +kernel
theorem dX12_isNumber_48 : decode cX12_isNumber 48 = .ok (.aload_n 0, 1) := by decide +kernel
theorem dX12_isNumber_49 : decode cX12_isNumber 49 = .ok (.invokevirtual 118, 3) := by decide +kernel
theorem dX12_isNumber_52 : decode cX12_isNumber 52 = .ok (.ireturn, 1) := by decide +kernel
theorem dX12_isNumber_53 : decode cX12_isNumber 53 = .ok (.aload_n 0, 1) := by decide +kernel
theorem dX12_isNumber_54 : decode cX12_isNumber 54 = .ok (.getfield 26, 3) := by decide +kernel
theorem dX12_isNumber_57 : decode cX12_isNumber 57 = .ok (.iload_n 1, 1) := by decide +kernel
theorem dX12_isNumber_58 : decode cX12_isNumber 58 = .ok (.iload 4, 2) := by decide +kernel
theorem dX12_isNumber_60 : decode cX12_isNumber 60 = .ok (.iastore, 1) := by decide +kernel
theorem dX12_isNumber_61 : decode cX12_isNumber 61 = .ok (.iconst 1, 1) := by decide +kernel
theorem dX12_isNumber_62 : decode cX12_isNumber 62 = .ok (.ireturn, 1) := by decide +kernel
theorem dX12_isOfLetters_0 : decode cX12_isOfLetters 0 = .ok (.aload_n 0, 1) := by decide +kernel
theorem dX12_isOfLetters_1 : decode cX12_isOfLetters 1 = .ok (.getfield 102, 3) := by decide +kernel
theorem dX12_isOfLetters_4 : decode cX12_isOfLetters 4 = .ok (.iconst 1, 1) := by decide +kernel
theorem dX12_isOfLetters_5 : decode cX12_isOfLetters 5 = .ok (.if_icmp .ne 7, 3) := by decide +kernel
theorem dX12_isOfLetters_8 : decode cX12_isOfLetters 8 = .ok (.iconst 1, 1) := by decide +kernel
theorem dX12_isOfLetters_9 : decode cX12_isOfLetters 9 = .ok (.goto 4, 3) := by decide +kernel
theorem dX12_isOfLetters_12 : decode cX12_isOfLetters 12 = .ok (.iconst 0, 1) := by decide +kernel
theorem dX12_isOfLetters_13 : decode cX12_isOfLetters 13 = .ok (.istore_n 1, 1) := by decide +kernel
theorem dX12_isOfLetters_14 : decode cX12_isOfLetters 14 = .ok (.iconst 0, 1) := by decide +kernel
theorem dX12_isOfLetters_15 : decode cX12_isOfLetters 15 = .ok (.istore_n 2, 1) := by decide +kernel
theorem dX12_isOfLetters_16 : decode cX12_isOfLetters 16 = .ok (.iload_n 2, 1) := by decide +kernel
theorem dX12_isOfLetters_17 : decode cX12_isOfLetters 17 = .ok (.aload_n 0, 1) := by decide +kernel
theorem dX12_isOfLetters_18 : decode cX12_isOfLetters 18 = .ok (.getfield 105, 3) := by decide +kernel
theorem dX12_isOfLetters_21 : decode cX12_isOfLetters 21 = .ok (.if_icmp .ge 40, 3) := by decide +kernel
theorem dX12_isOfLetters_24 : decode cX12_isOfLetters 24 = .ok (.iload_n 1, 1) := by decide +kernel
theorem dX12_isOfLetters_25 : decode cX12_isOfLetters 25 = .ok (.ifCond .eq 36, 3) := by decide +kernel
theorem dX12_isOfLetters_28 : decode cX12_isOfLetters 28 = .ok (.aload_n 0, 1) := by decide +kernel
theorem dX12_isOfLetters_29 : decode cX12_isOfLetters 29 = .ok (.getfield 23, 3) := by decide +kernel
theorem dX12_isOfLetters_32 : decode cX12_isOfLetters 32 = .ok (.aload_n 0, 1) := by decide +kernel
theorem dX12_isOfLetters_33 : decode cX12_isOfLetters 33 = .ok (.getfield 95, 3) := by decide +kernel
theorem dX12_isOfLetters_36 : decode cX12_isOfLetters 36 = .ok (.iload_n 2, 1) := by decide +kernel
theorem dX12_isOfLetters_37 : decode cX12_isOfLetters 37 = .ok (.iadd, 1) := by decide +kernel
theorem dX12_isOfLetters_38 : decode cX12_isOfLetters 38 = .ok (.iaload, 1) := by decide +kernel
theorem dX12_isOfLetters_39 : decode cX12_isOfLetters 39 = .ok (.bipush 97, 2) := by decide +kernel
theorem dX12_isOfLetters_41 : decode cX12_isOfLetters 41 = .ok (.isub, 1) := by decide +kernel
theorem dX12_isOfLetters_42 : decode cX12_isOfLetters 42 = .ok (.aload_n 0, 1) := by decide +kernel
theorem dX12_isOfLetters_43 : decode cX12_isOfLetters 43 = .ok (.getfield 122, 3) := by decide +kernel
theorem dX12_isOfLetters_46 : decode cX12_isOfLetters 46 = .ok (.if_icmp .ge 7, 3) := by decide +kernel
theorem dX12_isOfLetters_49 : decode cX12_isOfLetters 49 = .ok (.iconst 1, 1) := by decide +kernel
theorem dX12_isOfLetters_50 : decode cX12_isOfLetters 50 = .ok (.goto 4, 3) := by decide +kernel
theorem dX12_isOfLetters_53 : decode cX12_isOfLetters 53 = .ok (.iconst 0, 1) := by decide +kernel
theorem dX12_isOfLetters_54 : decode cX12_isOfLetters 54 = .ok (.istore_n 1, 1) := by decide +kernel
theorem dX12_isOfLetters_55 : decode cX12_isOfLetters 55 = .ok (.iinc 2 1, 3) := by decide +kernel
theorem dX12_isOfLetters_58 : decode cX12_isOfLetters 58 = .ok (.goto (-42), 3) := by decide +kernel
theorem dX12_isOfLetters_61 : decode cX12_isOfLetters 61 = .ok (.iload_n 1, 1) := by decide +kernel
theorem dX12_isOfLetters_62 : decode cX12_isOfLetters 62 = .ok (.ireturn, 1) := by decide +kernel
theorem dX12_isLine_0 : decode cX12_isLine 0 = .ok (.aload_n 0, 1) := by decide +kernel
theorem dX12_isLine_1 : decode cX12_isLine 1 = .ok (.invokevirtual 115, 3) := by decide +kernel
theorem dX12_isLine_4 : decode cX12_isLine 4 = .ok (.aload_n 0, 1) := by decide +kernel
theorem dX12_isLine_5 : decode cX12_isLine 5 = .ok (.invokevirtual 125, 3) := by decide +kernel
theorem dX12_isLine_8 : decode cX12_isLine 8 = .ok (.lstore_n 2, 1) := by decide +kernel
theorem dX12_isLine_9 : decode cX12_isLine 9 = .ok (.aload_n 0, 1) := by decide +kernel
theorem dX12_isLine_10 : decode cX12_isLine 10 = .ok (.getfield 26, 3) := by decide +kernel
theorem dX12_isLine_13 : decode cX12_isLine 13 = .ok (.iload_n 1, 1) := by decide +kernel
theorem dX12_isLine_14 : decode cX12_isLine 14 = .ok (.lload_n 2, 1) := by decide +kernel
theorem dX12_isLine_15 : decode cX12_isLine 15 = .ok (.ldc2_w 129, 3) := by decide +kernel
theorem dX12_isLine_18 : decode cX12_isLine 18 = .ok (.lcmp, 1) := by decide +kernel
theorem dX12_isLine_19 : decode cX12_isLine 19 = .ok (.ifCond .ne 7, 3) := by decide +kernel
theorem dX12_isLine_22 : decode cX12_isLine 22 = .ok (.iconst 0, 1) := by decide +kernel
theorem dX12_isLine_23 : decode cX12_isLine 23 = .ok (.goto 40, 3) := by decide +kernel
theorem dX12_isLine_26 : decode cX12_isLine 26 = .ok (.lload_n 2, 1) := by decide +kernel
theorem dX12_isLine_27 : decode cX12_isLine 27 = .ok (.ldc2_w 131, 3) := by decide +kernel
theorem dX12_isLine_30 : decode cX12_isLine 30 = .ok (.lcmp, 1) := by decide +kernel
theorem dX12_isLine_31 : decode cX12_isLine 31 = .ok (.ifCond .ne 7, 3) := by decide +kernel
theorem dX12_isLine_34 : decode cX12_isLine 34 = .ok (.iconst 1, 1) := by decide +kernel
theorem dX12_isLine_35 : decode cX12_isLine 35 = .ok (.goto 28, 3) := by decide +kernel
theorem dX12_isLine_38 : decode cX12_isLine 38 = .ok (.lload_n 2, 1) := by decide +kernel
theorem dX12_isLine_39 : decode cX12_isLine 39 = .ok (.ldc2_w 133, 3) := by decide +kernel
theorem dX12_isLine_42 : decode cX12_isLine 42 = .ok (.lcmp, 1) := by decide +kernel
theorem dX12_isLine_43 : decode cX12_isLine 43 = .ok (.ifCond .ne 7, 3) := by decide +kernel
theorem dX12_isLine_46 : decode cX12_isLine 46 = .ok (.iconst 2, 1) := by decide +kernel
theorem dX12_isLine_47 : decode cX12_isLine 47 = .ok (.goto 16, 3) := by decide +kernel
theorem dX12_isLine_50 : decode cX12_isLine 50 = .ok (.lload_n 2, 1) := by decide +kernel
theorem dX12_isLine_51 : decode cX12_isLine 51 = .ok (.ldc2_w 135, 3) := by decide +kernel
theorem dX12_isLine_54 : decode cX12_isLine 54 = .ok (.lcmp, 1) := by decide +kernel
theorem dX12_isLine_55 : decode cX12_isLine 55 = .ok (.ifCond .ne 7, 3) := by decide +kernel
theorem dX12_isLine_58 : decode cX12_isLine 58 = .ok (.iconst 3, 1) := by decide +kernel
theorem dX12_isLine_59 : decode cX12_isLine 59 = .ok (.goto 4, 3) := by decide +kernel
theorem dX12_isLine_62 : decode cX12_isLine 62 = .ok (.iconst (-1), 1) := by decide +kernel
theorem dX12_isLine_63 : decode cX12_isLine 63 = .ok (.iastore, 1) := by decide +kernel
theorem dX12_isLine_64 : decode cX12_isLine 64 = .ok (.aload_n 0, 1) := by decide +kernel
theorem dX12_isLine_65 : decode cX12_isLine 65 = .ok (.getfield 26, 3) := by decide +kernel
theorem dX12_isLine_68 : decode cX12_isLine 68 = .ok (.iload_n 1, 1) := by decide +kernel
theorem dX12_isLine_69 : decode cX12_isLine 69 = .ok (.iaload, 1) := by decide +kernel
theorem dX12_isLine_70 : decode cX12_isLine 70 = .ok (.iconst (-1), 1) := by decide +kernel
theorem dX12_isLine_71 : decode cX12_isLine 71 = .ok (.if_icmp .ne 8, 3) := by decide +kernel
theorem dX12_isLine_74 : decode cX12_isLine 74 = .ok (.aload_n 0, 1) := by decide +kernel
theorem dX12_isLine_75 : decode cX12_isLine 75 = .ok (.invokevirtual 118, 3) := by decide +kernel
theorem dX12_isLine_78 : decode cX12_isLine 78 = .ok (.ireturn, 1) := by decide +kernel
theorem dX12_isLine_79 : decode cX12_isLine 79 = .ok (.aload_n 0, 1) := by decide +kernel
theorem dX12_isLine_80 : decode cX12_isLine 80 = .ok (.getfield 26, 3) := by decide +kernel
theorem dX12_isLine_83 : decode cX12_isLine 83 = .ok (.iload_n 1, 1) := by decide +kernel
theorem dX12_isLine_84 : decode cX12_isLine 84 = .ok (.iaload, 1) := by decide +kernel
theorem dX12_isLine_85 : decode cX12_isLine 85 = .ok (.iconst 2, 1) := by decide +kernel
theorem dX12_isLine_86 : decode cX12_isLine 86 = .ok (.if_icmp .ge 70, 3) := by decide +kernel
theorem dX12_isLine_89 : decode cX12_isLine 89 = .ok (.aload_n 0, 1) := by decide +kernel
theorem dX12_isLine_90 : decode cX12_isLine 90 = .ok (.invokevirtual 115, 3) := by decide +kernel
theorem dX12_isLine_93 : decode cX12_isLine 93 = .ok (.aload_n 0, 1) := by decide +kernel
theorem dX12_isLine_94 : decode cX12_isLine 94 = .ok (.getfield 26, 3) := by decide +kernel
theorem dX12_isLine_97 : decode cX12_isLine 97 = .ok (.iload_n 1, 1) := by decide +kernel
theorem dX12_isLine_98 : decode cX12_isLine 98 = .ok (.iconst 1, 1) := by decide +kernel
theorem dX12_isLine_99 : decode cX12_isLine 99 = .ok (.iadd, 1) := by decide +kernel
theorem dX12_isLine_100 : decode cX12_isLine 100 = .ok (.aload_n 0, 1) := by decide +kernel
theorem dX12_isLine_101 : decode cX12_isLine 101 = .ok (.getfield 95, 3) := by decide +kernel
theorem dX12_isLine_104 : decode cX12_isLine 104 = .ok (.iastore, 1) := by decide +kernel
theorem dX12_isLine_105 : decode cX12_isLine 105 = .ok (.aload_n 0, 1) := by decide +kernel
theorem dX12_isLine_106 : decode cX12_isLine 106 = .ok (.invokevirtual 137, 3) := by decide +kernel
theorem dX12_isLine_109 : decode cX12_isLine 109 = .ok (.ifCond .eq 34, 3) := by decide +kernel
theorem dX12_isLine_112 : decode cX12_isLine 112 = .ok (.aload_n 0, 1) := by decide +kernel
theorem dX12_isLine_113 : decode cX12_isLine 113 = .ok (.getfield 105, 3) := by decide +kernel
theorem dX12_isLine_116 : decode cX12_isLine 116 = .ok (.iconst 2, 1) := by decide +kernel
theorem dX12_isLine_117 : decode cX12_isLine 117 = .ok (.if_icmp .ne 26, 3) := by decide +kernel
theorem dX12_isLine_120 : decode cX12_isLine 120 = .ok (.aload_n 0, 1) := by decide +kernel
theorem dX12_isLine_121 : decode cX12_isLine 121 = .ok (.getfield 23, 3) := by decide +kernel
theorem dX12_isLine_124 : decode cX12_isLine 124 = .ok (.aload_n 0, 1) := by decide +kernel
theorem dX12_isLine_125 : decode cX12_isLine 125 = .ok (.getfield 95, 3) := by decide +kernel
theorem dX12_isLine_128 : decode cX12_isLine 128 = .ok (.iaload, 1) := by decide +kernel
theorem dX12_isLine_129 : decode cX12_isLine 129 = .ok (.aload_n 0, 1) := by decide +kernel
theorem dX12_isLine_130 : decode cX12_isLine 130 = .ok (.getfield 23, 3) := by decide +kernel
theorem dX12_isLine_133 : decode cX12_isLine 133 = .ok (.aload_n 0, 1) := by decide +kernel
theorem dX12_isLine_134 : decode cX12_isLine 134 = .ok (.getfield 95, 3) := by decide +kernel
theorem dX12_isLine_137 : decode cX12_isLine 137 = .ok (.iconst 1, 1) := by decide +kernel
theorem dX12_isLine_138 : decode cX12_isLine 138 = .ok (.iadd, 1) := by decide +kernel
theorem dX12_isLine_139 : decode cX12_isLine 139 = .ok (.iaload, 1) := by decide +kernel
theorem dX12_isLine_140 : decode cX12_isLine 140 = .ok (.if_icmp .ne 10, 3) := by decide +kernel
theorem dX12_isLine_143 : decode cX12_isLine 143 = .ok (.aload_n 0, 1) := by decide +kernel
theorem dX12_isLine_144 : decode cX12_isLine 144 = .ok (.invokevirtual 118, 3) := by decide +kernel
theorem dX12_isLine_147 : decode cX12_isLine 147 = .ok (.ifCond .eq 7, 3) := by decide +kernel
theorem dX12_isLine_150 : decode cX12_isLine 150 = .ok (.iconst 1, 1) := by decide +kernel
theorem dX12_isLine_151 : decode cX12_isLine 151 = .ok (.goto 4, 3) := by decide +kernel
theorem dX12_isLine_154 : decode cX12_isLine 154 = .ok (.iconst 0, 1) := by decide +kernel
theorem dX12_isLine_155 : decode cX12_isLine 155 = .ok (.ireturn, 1) := by decide +kernel
theorem dX12_isLine_156 : decode cX12_isLine 156 = .ok (.aload_n 0, 1) := by decide +kernel
theorem dX12_isLine_157 : decode cX12_isLine 157 = .ok (.getfield 26, 3) := by decide +kernel
theorem dX12_isLine_160 : decode cX12_isLine 160 = .ok (.iload_n 1, 1) := by decide +kernel
theorem dX12_isLine_161 : decode cX12_isLine 161 = .ok (.iaload, 1) := by decide +kernel
theorem dX12_isLine_162 : decode cX12_isLine 162 = .ok (.iconst 2, 1) := by decide +kernel
theorem dX12_isLine_163 : decode cX12_isLine 163 = .ok (.if_icmp .ne 32, 3) := by decide +kernel
theorem dX12_isLine_166 : decode cX12_isLine 166 = .ok (.aload_n 0, 1) := by decide +kernel
theorem dX12_isLine_167 : decode cX12_isLine 167 = .ok (.iload_n 1, 1) := by decide +kernel
theorem dX12_isLine_168 : decode cX12_isLine 168 = .ok (.iconst 1, 1) := by decide +kernel
theorem dX12_isLine_169 : decode cX12_isLine 169 = .ok (.iadd, 1) := by decide +kernel
theorem dX12_isLine_170 : decode cX12_isLine 170 = .ok (.iconst 1, 1) := by decide +kernel
theorem dX12_isLine_171 : decode cX12_isLine 171 = .ok (.bipush 6, 2) := by decide +kernel
theorem dX12_isLine_173 : decode cX12_isLine 173 = .ok (.invokevirtual 140, 3) := by decide +kernel
theorem dX12_isLine_176 : decode cX12_isLine 176 = .ok (.ifCond .ne 5, 3) := by decide +kernel
theorem dX12_isLine_179 : decode cX12_isLine 179 = .ok (.iconst 0, 1) := by decide +kernel
theorem dX12_isLine_180 : decode cX12_isLine 180 = .ok (.ireturn, 1) := by decide +kernel
theorem dX12_isLine_181 : decode cX12_isLine 181 = .ok (.aload_n 0, 1) := by decide +kernel
theorem dX12_isLine_182 : decode cX12_isLine 182 = .ok (.aload_n 0, 1) := by decide +kernel
theorem dX12_isLine_183 : decode cX12_isLine 183 = .ok (.getfield 26, 3) := by decide +kernel
theorem dX12_isLine_186 : decode cX12_isLine 186 = .ok (.iload_n 1, 1) := by decide +kernel
theorem dX12_isLine_187 : decode cX12_isLine 187 = .ok (.iconst 1, 1) := by decide +kernel
theorem dX12_isLine_188 : decode cX12_isLine 188 = .ok (.iadd, 1) := by decide +kernel
theorem dX12_isLine_189 : decode cX12_isLine 189 = .ok (.iaload, 1) := by decide +kernel
theorem dX12_isLine_190 : decode cX12_isLine 190 = .ok (.putfield 122, 3) := by decide +kernel
theorem dX12_isLine_193 : decode cX12_isLine 193 = .ok (.iconst 1, 1) := by decide +kernel
theorem dX12_isLine_194 : decode cX12_isLine 194 = .ok (.ireturn, 1) := by decide +kernel
theorem dX12_isLine_195 : decode cX12_isLine 195 = .ok (.aload_n 0, 1) := by decide +kernel
theorem dX12_isLine_196 : decode cX12_isLine 196 = .ok (.iload_n 1, 1) := by decide +kernel
theorem dX12_isLine_197 : decode cX12_isLine 197 = .ok (.iconst 1, 1) := by decide +kernel
theorem dX12_isLine_198 : decode cX12_isLine 198 = .ok (.iadd, 1) := by decide +kernel
theorem dX12_isLine_199 : decode cX12_isLine 199 = .ok (.iconst 0, 1) := by decide +kernel
theorem dX12_isLine_200 : decode cX12_isLine 200 = .ok (.iconst 3, 1) := by decide +kernel
theorem dX12_isLine_201 : decode cX12_isLine 201 = .ok (.invokevirtual 140, 3) := by decide +kernel
theorem dX12_isLine_204 : decode cX12_isLine 204 = .ok (.ifCond .ne 5, 3) := by decide +kernel
theorem dX12_isLine_207 : decode cX12_isLine 207 = .ok (.iconst 0, 1) := by decide +kernel
theorem dX12_isLine_208 : decode cX12_isLine 208 = .ok (.ireturn, 1) := by decide +kernel
theorem dX12_isLine_209 : decode cX12_isLine 209 = .ok (.aload_n 0, 1) := by decide +kernel
theorem dX12_isLine_210 : decode cX12_isLine 210 = .ok (.invokevirtual 115, 3) := by decide +kernel
theorem dX12_isLine_213 : decode cX12_isLine 213 = .ok (.aload_n 0, 1) := by decide +kernel
theorem dX12_isLine_214 : decode cX12_isLine 214 = .ok (.invokevirtual 125, 3) := by decide +kernel
theorem dX12_isLine_217 : decode cX12_isLine 217 = .ok (.ldc2_w 143, 3) := by decide +kernel
theorem dX12_isLine_220 : decode cX12_isLine 220 = .ok (.lcmp, 1) := by decide +kernel
theorem dX12_isLine_221 : decode cX12_isLine 221 = .ok (.ifCond .eq 8, 3) := by decide +kernel
theorem dX12_isLine_224 : decode cX12_isLine 224 = .ok (.aload_n 0, 1) := by decide +kernel
theorem dX12_isLine_225 : decode cX12_isLine 225 = .ok (.invokevirtual 118, 3) := by decide +kernel
theorem dX12_isLine_228 : decode cX12_isLine 228 = .ok (.ireturn, 1) := by decide +kernel
theorem dX12_isLine_229 : decode cX12_isLine 229 = .ok (.aload_n 0, 1) := by decide +kernel
theorem dX12_isLine_230 : decode cX12_isLine 230 = .ok (.invokevirtual 115, 3) := by decide +kernel
theorem dX12_isLine_233 : decode cX12_isLine 233 = .ok (.aload_n 0, 1) := by decide +kernel
theorem dX12_isLine_234 : decode cX12_isLine 234 = .ok (.getfield 26, 3) := by decide +kernel
theorem dX12_isLine_237 : decode cX12_isLine 237 = .ok (.iload_n 1, 1) := by decide +kernel
theorem dX12_isLine_238 : decode cX12_isLine 238 = .ok (.iconst 2, 1) := by decide +kernel
theorem dX12_isLine_239 : decode cX12_isLine 239 = .ok (.iadd, 1) := by decide +kernel
theorem dX12_isLine_240 : decode cX12_isLine 240 = .ok (.aload_n 0, 1) := by decide +kernel
theorem dX12_isLine_241 : decode cX12_isLine 241 = .ok (.getfield 95, 3) := by decide +kernel
theorem dX12_isLine_244 : decode cX12_isLine 244 = .ok (.iastore, 1) := by decide +kernel
theorem dX12_isLine_245 : decode cX12_isLine 245 = .ok (.aload_n 0, 1) := by decide +kernel
theorem dX12_isLine_246 : decode cX12_isLine 246 = .ok (.getfield 26, 3) := by decide +kernel
theorem dX12_isLine_249 : decode cX12_isLine 249 = .ok (.iload_n 1, 1) := by decide +kernel
theorem dX12_isLine_250 : decode cX12_isLine 250 = .ok (.iconst 3, 1) := by decide +kernel
theorem dX12_isLine_251 : decode cX12_isLine 251 = .ok (.iadd, 1) := by decide +kernel
theorem dX12_isLine_252 : decode cX12_isLine 252 = .ok (.aload_n 0, 1) := by decide +kernel
theorem dX12_isLine_253 : decode cX12_isLine 253 = .ok (.invokevirtual 125, 3) := by decide +kernel
theorem dX12_isLine_256 : decode cX12_isLine 256 = .ok (.ldc2_w 145, 3) := by decide +kernel
theorem dX12_isLine_259 : decode cX12_isLine 259 = .ok (.lcmp, 1) := by decide +kernel
theorem dX12_isLine_260 : decode cX12_isLine 260 = .ok (.ifCond .ne 7, 3) := by decide +kernel
theorem dX12_isLine_263 : decode cX12_isLine 263 = .ok (.iconst 0, 1) := by decide +kernel
theorem dX12_isLine_264 : decode cX12_isLine 264 = .ok (.goto 7, 3) := by decide +kernel
theorem dX12_isLine_267 : decode cX12_isLine 267 = .ok (.aload_n 0, 1) := by decide +kernel
theorem dX12_isLine_268 : decode cX12_isLine 268 = .ok (.getfield 105, 3) := by decide +kernel
theorem dX12_isLine_271 : decode cX12_isLine 271 = .ok (.iastore, 1) := by decide +kernel
theorem dX12_isLine_272 : decode cX12_isLine 272 = .ok (.aload_n 0, 1) := by decide +kernel
theorem dX12_isLine_273 : decode cX12_isLine 273 = .ok (.invokevirtual 125, 3) := by decide +kernel
theorem dX12_isLine_276 : decode cX12_isLine 276 = .ok (.ldc2_w 145, 3) := by decide +kernel
theorem dX12_isLine_279 : decode cX12_isLine 279 = .ok (.lcmp, 1) := by decide +kernel
theorem dX12_isLine_280 : decode cX12_isLine 280 = .ok (.ifCond .eq 26, 3) := by decide +kernel
theorem dX12_isLine_283 : decode cX12_isLine 283 = .ok (.aload_n 0, 1) := by decide +kernel
theorem dX12_isLine_284 : decode cX12_isLine 284 = .ok (.invokevirtual 137, 3) := by decide +kernel
theorem dX12_isLine_287 : decode cX12_isLine 287 = .ok (.ifCond .eq 12, 3) := by decide +kernel
theorem dX12_isLine_290 : decode cX12_isLine 290 = .ok (.aload_n 0, 1) := by decide +kernel
theorem dX12_isLine_291 : decode cX12_isLine 291 = .ok (.getfield 105, 3) := by decide +kernel
theorem dX12_isLine_294 : decode cX12_isLine 294 = .ok (.bipush 25, 2) := by decide +kernel
theorem dX12_isLine_296 : decode cX12_isLine 296 = .ok (.if_icmp .lt 10, 3) := by decide +kernel
theorem dX12_isLine_299 : decode cX12_isLine 299 = .ok (.aload_n 0, 1) := by decide +kernel
theorem dX12_isLine_300 : decode cX12_isLine 300 = .ok (.invokevirtual 118, 3) := by decide +kernel
theorem dX12_isLine_303 : decode cX12_isLine 303 = .ok (.ifCond .eq 7, 3) := by decide +kernel
theorem dX12_isLine_306 : decode cX12_isLine 306 = .ok (.iconst 1, 1) := by decide +kernel
theorem dX12_isLine_307 : decode cX12_isLine 307 = .ok (.goto 4, 3) := by decide +kernel
theorem dX12_isLine_310 : decode cX12_isLine 310 = .ok (.iconst 0, 1) := by decide +kernel
theorem dX12_isLine_311 : decode cX12_isLine 311 = .ok (.ireturn, 1) := by decide +kernel
theorem dX12_isRead_0 : decode cX12_isRead 0 = .ok (.aload_n 0, 1) := by decide +kernel
theorem dX12_isRead_1 : decode cX12_isRead 1 = .ok (.iconst 0, 1) := by decide +kernel
theorem dX12_isRead_2 : decode cX12_isRead 2 = .ok (.putfield 92, 3) := by decide +kernel
theorem dX12_isRead_5 : decode cX12_isRead 5 = .ok (.aload_n 0, 1) := by decide +kernel
theorem dX12_isRead_6 : decode cX12_isRead 6 = .ok (.iconst 0, 1) := by decide +kernel
theorem dX12_isRead_7 : decode cX12_isRead 7 = .ok (.putfield 147, 3) := by decide +kernel
theorem dX12_isRead_10 : decode cX12_isRead 10 = .ok (.aload_n 0, 1) := by decide +kernel
theorem dX12_isRead_11 : decode cX12_isRead 11 = .ok (.aload_n 0, 1) := by decide +kernel
theorem dX12_isRead_12 : decode cX12_isRead 12 = .ok (.getfield 7, 3) := by decide +kernel
theorem dX12_isRead_15 : decode cX12_isRead 15 = .ok (.putfield 122, 3) := by decide +kernel
theorem dX12_isRead_18 : decode cX12_isRead 18 = .ok (.iconst 1, 1) := by decide +kernel
theorem dX12_isRead_19 : decode cX12_isRead 19 = .ok (.istore_n 1, 1) := by decide +kernel
theorem dX12_isRead_20 : decode cX12_isRead 20 = .ok (.iload_n 1, 1) := by decide +kernel
theorem dX12_isRead_21 : decode cX12_isRead 21 = .ok (.ifCond .eq 58, 3) := by decide +kernel
theorem dX12_isRead_24 : decode cX12_isRead 24 = .ok (.aload_n 0, 1) := by decide +kernel
theorem dX12_isRead_25 : decode cX12_isRead 25 = .ok (.iconst 4, 1) := by decide +kernel
theorem dX12_isRead_26 : decode cX12_isRead 26 = .ok (.aload_n 0, 1) := by decide +kernel
theorem dX12_isRead_27 : decode cX12_isRead 27 = .ok (.getfield 147, 3) := by decide +kernel
theorem dX12_isRead_30 : decode cX12_isRead 30 = .ok (.imul, 1) := by decide +kernel
theorem dX12_isRead_31 : decode cX12_isRead 31 = .ok (.invokevirtual 150, 3) := by decide +kernel
theorem dX12_isRead_34 : decode cX12_isRead 34 = .ok (.ifCond .ne 5, 3) := by decide +kernel
theorem dX12_isRead_37 : decode cX12_isRead 37 = .ok (.iconst 0, 1) := by decide +kernel
theorem dX12_isRead_38 : decode cX12_isRead 38 = .ok (.ireturn, 1) := by decide +kernel
theorem dX12_isRead_39 : decode cX12_isRead 39 = .ok (.aload_n 0, 1) := by decide +kernel
theorem dX12_isRead_40 : decode cX12_isRead 40 = .ok (.dup, 1) := by decide +kernel
theorem dX12_isRead_41 : decode cX12_isRead 41 = .ok (.getfield 147, 3) := by decide +kernel
theorem dX12_isRead_44 : decode cX12_isRead 44 = .ok (.iconst 1, 1) := by decide +kernel
theorem dX12_isRead_45 : decode cX12_isRead 45 = .ok (.iadd, 1) := by decide +kernel
theorem dX12_isRead_46 : decode cX12_isRead 46 = .ok (.putfield 147, 3) := by decide +kernel
theorem dX12_isRead_49 : decode cX12_isRead 49 = .ok (.aload_n 0, 1) := by decide +kernel
theorem dX12_isRead_50 : decode cX12_isRead 50 = .ok (.invokevirtual 115, 3) := by decide +kernel
theorem dX12_isRead_53 : decode cX12_isRead 53 = .ok (.aload_n 0, 1) := by decide +kernel
theorem dX12_isRead_54 : decode cX12_isRead 54 = .ok (.getfield 102, 3) := by decide +kernel
theorem dX12_isRead_57 : decode cX12_isRead 57 = .ok (.iconst 3, 1) := by decide +kernel
theorem dX12_isRead_58 : decode cX12_isRead 58 = .ok (.if_icmp .ne 16, 3) := by decide +kernel
theorem dX12_isRead_61 : decode cX12_isRead 61 = .ok (.aload_n 0, 1) := by decide +kernel
theorem dX12_isRead_62 : decode cX12_isRead 62 = .ok (.getfield 147, 3) := by decide +kernel
theorem dX12_isRead_65 : decode cX12_isRead 65 = .ok (.bipush 16, 2) := by decide +kernel
theorem dX12_isRead_67 : decode cX12_isRead 67 = .ok (.if_icmp .ge 7, 3) := by decide +kernel
theorem dX12_isRead_70 : decode cX12_isRead 70 = .ok (.iconst 1, 1) := by decide +kernel
theorem dX12_isRead_71 : decode cX12_isRead 71 = .ok (.goto 4, 3) := by decide +kernel
theorem dX12_isRead_74 : decode cX12_isRead 74 = .ok (.iconst 0, 1) := by decide +kernel
theorem dX12_isRead_75 : decode cX12_isRead 75 = .ok (.istore_n 1, 1) := by decide +kernel
theorem dX12_isRead_76 : decode cX12_isRead 76 = .ok (.goto (-56), 3) := by decide +kernel
theorem dX12_isRead_79 : decode cX12_isRead 79 = .ok (.aload_n 0, 1) := by decide +kernel
theorem dX12_isRead_80 : decode cX12_isRead 80 = .ok (.getfield 102, 3) := by decide +kernel
theorem dX12_isRead_83 : decode cX12_isRead 83 = .ok (.ifCond .eq 10, 3) := by decide +kernel
theorem dX12_isRead_86 : decode cX12_isRead 86 = .ok (.aload_n 0, 1) := by decide +kernel
theorem dX12_isRead_87 : decode cX12_isRead 87 = .ok (.invokevirtual 118, 3) := by decide +kernel
theorem dX12_isRead_90 : decode cX12_isRead 90 = .ok (.ifCond .eq 7, 3) := by decide +kernel
theorem dX12_isRead_93 : decode cX12_isRead 93 = .ok (.iconst 1, 1) := by decide +kernel
theorem dX12_isRead_94 : decode cX12_isRead 94 = .ok (.goto 4, 3) := by decide +kernel
theorem dX12_isRead_97 : decode cX12_isRead 97 = .ok (.iconst 0, 1) := by decide +kernel
theorem dX12_isRead_98 : decode cX12_isRead 98 = .ok (.ireturn, 1) := by decide +kernel
theorem dX12_fault_0 : decode cX12_fault 0 = .ok (.aload_n 0, 1) := by decide +kernel
theorem dX12_fault_1 : decode cX12_fault 1 = .ok (.invokevirtual 154, 3) := by decide +kernel
theorem dX12_fault_4 : decode cX12_fault 4 = .ok (.ifCond .eq 7, 3) := by decide +kernel
theorem dX12_fault_7 : decode cX12_fault 7 = .ok (.iconst (-1), 1) := by decide +kernel
theorem dX12_fault_8 : decode cX12_fault 8 = .ok (.goto 7, 3) := by decide +kernel
theorem dX12_fault_11 : decode cX12_fault 11 = .ok (.aload_n 0, 1) := by decide +kernel
theorem dX12_fault_12 : decode cX12_fault 12 = .ok (.getfield 108, 3) := by decide +kernel
theorem dX12_fault_15 : decode cX12_fault 15 = .ok (.ireturn, 1) := by decide +kernel
theorem dX12_tell_0 : decode cX12_tell 0 = .ok (.aload_n 0, 1) := by decide +kernel
theorem dX12_tell_1 : decode cX12_tell 1 = .ok (.getfield 13, 3) := by decide +kernel
theorem dX12_tell_4 : decode cX12_tell 4 = .ok (.iload_n 1, 1) := by decide +kernel
theorem dX12_tell_5 : decode cX12_tell 5 = .ok (.iload_n 3, 1) := by decide +kernel
theorem dX12_tell_6 : decode cX12_tell 6 = .ok (.ifCond .eq 16, 3) := by decide +kernel
theorem dX12_tell_9 : decode cX12_tell 9 = .ok (.aload_n 0, 1) := by decide +kernel
theorem dX12_tell_10 : decode cX12_tell 10 = .ok (.getfield 13, 3) := by decide +kernel
theorem dX12_tell_13 : decode cX12_tell 13 = .ok (.iload_n 1, 1) := by decide +kernel
theorem dX12_tell_14 : decode cX12_tell 14 = .ok (.iaload, 1) := by decide +kernel
theorem dX12_tell_15 : decode cX12_tell 15 = .ok (.iconst 1, 1) := by decide +kernel
theorem dX12_tell_16 : decode cX12_tell 16 = .ok (.iload_n 2, 1) := by decide +kernel
theorem dX12_tell_17 : decode cX12_tell 17 = .ok (.ishl, 1) := by decide +kernel
theorem dX12_tell_18 : decode cX12_tell 18 = .ok (.ior, 1) := by decide +kernel
theorem dX12_tell_19 : decode cX12_tell 19 = .ok (.goto 15, 3) := by decide +kernel
theorem dX12_tell_22 : decode cX12_tell 22 = .ok (.aload_n 0, 1) := by decide +kernel
theorem dX12_tell_23 : decode cX12_tell 23 = .ok (.getfield 13, 3) := by decide +kernel
theorem dX12_tell_26 : decode cX12_tell 26 = .ok (.iload_n 1, 1) := by decide +kernel
theorem dX12_tell_27 : decode cX12_tell 27 = .ok (.iaload, 1) := by decide +kernel
theorem dX12_tell_28 : decode cX12_tell 28 = .ok (.iconst 1, 1) := by decide +kernel
theorem dX12_tell_29 : decode cX12_tell 29 = .ok (.iload_n 2, 1) := by decide +kernel
theorem dX12_tell_30 : decode cX12_tell 30 = .ok (.ishl, 1) := by decide +kernel
theorem dX12_tell_31 : decode cX12_tell 31 = .ok (.iconst (-1), 1) := by decide +kernel
theorem dX12_tell_32 : decode cX12_tell 32 = .ok (.ixor, 1) := by decide +kernel
theorem dX12_tell_33 : decode cX12_tell 33 = .ok (.iand, 1) := by decide +kernel
theorem dX12_tell_34 : decode cX12_tell 34 = .ok (.iastore, 1) := by decide +kernel
theorem dX12_tell_35 : decode cX12_tell 35 = .ok (.aload_n 0, 1) := by decide +kernel
theorem dX12_tell_36 : decode cX12_tell 36 = .ok (.getfield 13, 3) := by decide +kernel
theorem dX12_tell_39 : decode cX12_tell 39 = .ok (.iload_n 2, 1) := by decide +kernel
theorem dX12_tell_40 : decode cX12_tell 40 = .ok (.iload_n 3, 1) := by decide +kernel
theorem dX12_tell_41 : decode cX12_tell 41 = .ok (.ifCond .eq 16, 3) := by decide +kernel
theorem dX12_tell_44 : decode cX12_tell 44 = .ok (.aload_n 0, 1) := by decide +kernel
theorem dX12_tell_45 : decode cX12_tell 45 = .ok (.getfield 13, 3) := by decide +kernel
theorem dX12_tell_48 : decode cX12_tell 48 = .ok (.iload_n 2, 1) := by decide +kernel
theorem dX12_tell_49 : decode cX12_tell 49 = .ok (.iaload, 1) := by decide +kernel
theorem dX12_tell_50 : decode cX12_tell 50 = .ok (.iconst 1, 1) := by decide +kernel
theorem dX12_tell_51 : decode cX12_tell 51 = .ok (.iload_n 1, 1) := by decide +kernel
theorem dX12_tell_52 : decode cX12_tell 52 = .ok (.ishl, 1) := by decide +kernel
theorem dX12_tell_53 : decode cX12_tell 53 = .ok (.ior, 1) := by decide +kernel
theorem dX12_tell_54 : decode cX12_tell 54 = .ok (.goto 15, 3) := by decide +kernel
theorem dX12_tell_57 : decode cX12_tell 57 = .ok (.aload_n 0, 1) := by decide +kernel
theorem dX12_tell_58 : decode cX12_tell 58 = .ok (.getfield 13, 3) := by decide +kernel
theorem dX12_tell_61 : decode cX12_tell 61 = .ok (.iload_n 2, 1) := by decide +kernel
theorem dX12_tell_62 : decode cX12_tell 62 = .ok (.iaload, 1) := by decide +kernel
theorem dX12_tell_63 : decode cX12_tell 63 = .ok (.iconst 1, 1) := by decide +kernel
theorem dX12_tell_64 : decode cX12_tell 64 = .ok (.iload_n 1, 1) := by decide +kernel
theorem dX12_tell_65 : decode cX12_tell 65 = .ok (.ishl, 1) := by decide +kernel
theorem dX12_tell_66 : decode cX12_tell 66 = .ok (.iconst (-1), 1) := by decide +kernel
theorem dX12_tell_67 : decode cX12_tell 67 = .ok (.ixor, 1) := by decide +kernel
theorem dX12_tell_68 : decode cX12_tell 68 = .ok (.iand, 1) := by decide +kernel
theorem dX12_tell_69 : decode cX12_tell 69 = .ok (.iastore, 1) := by decide +kernel
theorem dX12_tell_70 : decode cX12_tell 70 = .ok (.return_, 1) := by decide +kernel
theorem dX12_doLine_0 : decode cX12_doLine 0 = .ok (.aload_n 0, 1) := by decide +kernel
theorem dX12_doLine_1 : decode cX12_doLine 1 = .ok (.getfield 26, 3) := by decide +kernel
theorem dX12_doLine_4 : decode cX12_doLine 4 = .ok (.iload_n 1, 1) := by decide +kernel
theorem dX12_doLine_5 : decode cX12_doLine 5 = .ok (.iconst 1, 1) := by decide +kernel
theorem dX12_doLine_6 : decode cX12_doLine 6 = .ok (.iadd, 1) := by decide +kernel
theorem dX12_doLine_7 : decode cX12_doLine 7 = .ok (.iaload, 1) := by decide +kernel
theorem dX12_doLine_8 : decode cX12_doLine 8 = .ok (.istore_n 2, 1) := by decide +kernel
theorem dX12_doLine_9 : decode cX12_doLine 9 = .ok (.aload_n 0, 1) := by decide +kernel
theorem dX12_doLine_10 : decode cX12_doLine 10 = .ok (.getfield 26, 3) := by decide +kernel
theorem dX12_doLine_13 : decode cX12_doLine 13 = .ok (.iload_n 1, 1) := by decide +kernel
theorem dX12_doLine_14 : decode cX12_doLine 14 = .ok (.iaload, 1) := by decide +kernel
theorem dX12_doLine_15 : decode cX12_doLine 15 = .ok (.iconst 2, 1) := by decide +kernel
theorem dX12_doLine_16 : decode cX12_doLine 16 = .ok (.if_icmp .ge 44, 3) := by decide +kernel
theorem dX12_doLine_19 : decode cX12_doLine 19 = .ok (.aload_n 0, 1) := by decide +kernel
theorem dX12_doLine_20 : decode cX12_doLine 20 = .ok (.aload_n 0, 1) := by decide +kernel
theorem dX12_doLine_21 : decode cX12_doLine 21 = .ok (.getfield 23, 3) := by decide +kernel
theorem dX12_doLine_24 : decode cX12_doLine 24 = .ok (.iload_n 2, 1) := by decide +kernel
theorem dX12_doLine_25 : decode cX12_doLine 25 = .ok (.iaload, 1) := by decide +kernel
theorem dX12_doLine_26 : decode cX12_doLine 26 = .ok (.bipush 97, 2) := by decide +kernel
theorem dX12_doLine_28 : decode cX12_doLine 28 = .ok (.isub, 1) := by decide +kernel
theorem dX12_doLine_29 : decode cX12_doLine 29 = .ok (.aload_n 0, 1) := by decide +kernel
theorem dX12_doLine_30 : decode cX12_doLine 30 = .ok (.getfield 23, 3) := by decide +kernel
theorem dX12_doLine_33 : decode cX12_doLine 33 = .ok (.iload_n 2, 1) := by decide +kernel
theorem dX12_doLine_34 : decode cX12_doLine 34 = .ok (.iconst 1, 1) := by decide +kernel
theorem dX12_doLine_35 : decode cX12_doLine 35 = .ok (.iadd, 1) := by decide +kernel
theorem dX12_doLine_36 : decode cX12_doLine 36 = .ok (.iaload, 1) := by decide +kernel
theorem dX12_doLine_37 : decode cX12_doLine 37 = .ok (.bipush 97, 2) := by decide +kernel
theorem dX12_doLine_39 : decode cX12_doLine 39 = .ok (.isub, 1) := by decide +kernel
theorem dX12_doLine_40 : decode cX12_doLine 40 = .ok (.aload_n 0, 1) := by decide +kernel
theorem dX12_doLine_41 : decode cX12_doLine 41 = .ok (.getfield 26, 3) := by decide +kernel
theorem dX12_doLine_44 : decode cX12_doLine 44 = .ok (.iload_n 1, 1) := by decide +kernel
theorem dX12_doLine_45 : decode cX12_doLine 45 = .ok (.iaload, 1) := by decide +kernel
theorem dX12_doLine_46 : decode cX12_doLine 46 = .ok (.ifCond .ne 7, 3) := by decide +kernel
theorem dX12_doLine_49 : decode cX12_doLine 49 = .ok (.iconst 1, 1) := by decide +kernel
theorem dX12_doLine_50 : decode cX12_doLine 50 = .ok (.goto 4, 3) := by decide +kernel
theorem dX12_doLine_53 : decode cX12_doLine 53 = .ok (.iconst 0, 1) := by decide +kernel
theorem dX12_doLine_54 : decode cX12_doLine 54 = .ok (.invokevirtual 157, 3) := by decide +kernel
theorem dX12_doLine_57 : decode cX12_doLine 57 = .ok (.goto 123, 3) := by decide +kernel
theorem dX12_doLine_60 : decode cX12_doLine 60 = .ok (.aload_n 0, 1) := by decide +kernel
theorem dX12_doLine_61 : decode cX12_doLine 61 = .ok (.getfield 26, 3) := by decide +kernel
theorem dX12_doLine_64 : decode cX12_doLine 64 = .ok (.iload_n 1, 1) := by decide +kernel
theorem dX12_doLine_65 : decode cX12_doLine 65 = .ok (.iaload, 1) := by decide +kernel
theorem dX12_doLine_66 : decode cX12_doLine 66 = .ok (.iconst 2, 1) := by decide +kernel
theorem dX12_doLine_67 : decode cX12_doLine 67 = .ok (.if_icmp .ne 52, 3) := by decide +kernel
theorem dX12_doLine_70 : decode cX12_doLine 70 = .ok (.aload_n 0, 1) := by decide +kernel
theorem dX12_doLine_71 : decode cX12_doLine 71 = .ok (.iload_n 2, 1) := by decide +kernel
theorem dX12_doLine_72 : decode cX12_doLine 72 = .ok (.putfield 7, 3) := by decide +kernel
theorem dX12_doLine_75 : decode cX12_doLine 75 = .ok (.iconst 0, 1) := by decide +kernel
theorem dX12_doLine_76 : decode cX12_doLine 76 = .ok (.istore_n 3, 1) := by decide +kernel
theorem dX12_doLine_77 : decode cX12_doLine 77 = .ok (.iload_n 3, 1) := by decide +kernel
theorem dX12_doLine_78 : decode cX12_doLine 78 = .ok (.bipush 6, 2) := by decide +kernel
theorem dX12_doLine_80 : decode cX12_doLine 80 = .ok (.if_icmp .ge 16, 3) := by decide +kernel
theorem dX12_doLine_83 : decode cX12_doLine 83 = .ok (.aload_n 0, 1) := by decide +kernel
theorem dX12_doLine_84 : decode cX12_doLine 84 = .ok (.getfield 13, 3) := by decide +kernel
theorem dX12_doLine_87 : decode cX12_doLine 87 = .ok (.iload_n 3, 1) := by decide +kernel
theorem dX12_doLine_88 : decode cX12_doLine 88 = .ok (.iconst 0, 1) := by decide +kernel
theorem dX12_doLine_89 : decode cX12_doLine 89 = .ok (.iastore, 1) := by decide +kernel
theorem dX12_doLine_90 : decode cX12_doLine 90 = .ok (.iinc 3 1, 3) := by decide +kernel
theorem dX12_doLine_93 : decode cX12_doLine 93 = .ok (.goto (-16), 3) := by decide +kernel
theorem dX12_doLine_96 : decode cX12_doLine 96 = .ok (.iconst 0, 1) := by decide +kernel
theorem dX12_doLine_97 : decode cX12_doLine 97 = .ok (.istore_n 3, 1) := by decide +kernel
theorem dX12_doLine_98 : decode cX12_doLine 98 = .ok (.iload_n 3, 1) := by decide +kernel
theorem dX12_doLine_99 : decode cX12_doLine 99 = .ok (.iconst 4, 1) := by decide +kernel
theorem dX12_doLine_100 : decode cX12_doLine 100 = .ok (.if_icmp .ge 16, 3) := by decide +kernel
theorem dX12_doLine_103 : decode cX12_doLine 103 = .ok (.aload_n 0, 1) := by decide +kernel
theorem dX12_doLine_104 : decode cX12_doLine 104 = .ok (.getfield 17, 3) := by decide +kernel
theorem dX12_doLine_107 : decode cX12_doLine 107 = .ok (.iload_n 3, 1) := by decide +kernel
theorem dX12_doLine_108 : decode cX12_doLine 108 = .ok (.iconst 0, 1) := by decide +kernel
theorem dX12_doLine_109 : decode cX12_doLine 109 = .ok (.iastore, 1) := by decide +kernel
theorem dX12_doLine_110 : decode cX12_doLine 110 = .ok (.iinc 3 1, 3) := by decide +kernel
theorem dX12_doLine_113 : decode cX12_doLine 113 = .ok (.goto (-15), 3) := by decide +kernel
theorem dX12_doLine_116 : decode cX12_doLine 116 = .ok (.goto 64, 3) := by decide +kernel
theorem dX12_doLine_119 : decode cX12_doLine 119 = .ok (.aload_n 0, 1) := by decide +kernel
theorem dX12_doLine_120 : decode cX12_doLine 120 = .ok (.getfield 17, 3) := by decide +kernel
theorem dX12_doLine_123 : decode cX12_doLine 123 = .ok (.iload_n 2, 1) := by decide +kernel
theorem dX12_doLine_124 : decode cX12_doLine 124 = .ok (.aload_n 0, 1) := by decide +kernel
theorem dX12_doLine_125 : decode cX12_doLine 125 = .ok (.getfield 26, 3) := by decide +kernel
theorem dX12_doLine_128 : decode cX12_doLine 128 = .ok (.iload_n 1, 1) := by decide +kernel
theorem dX12_doLine_129 : decode cX12_doLine 129 = .ok (.iconst 3, 1) := by decide +kernel
theorem dX12_doLine_130 : decode cX12_doLine 130 = .ok (.iadd, 1) := by decide +kernel
theorem dX12_doLine_131 : decode cX12_doLine 131 = .ok (.iaload, 1) := by decide +kernel
theorem dX12_doLine_132 : decode cX12_doLine 132 = .ok (.iastore, 1) := by decide +kernel
theorem dX12_doLine_133 : decode cX12_doLine 133 = .ok (.iconst 0, 1) := by decide +kernel
theorem dX12_doLine_134 : decode cX12_doLine 134 = .ok (.istore_n 3, 1) := by decide +kernel
theorem dX12_doLine_135 : decode cX12_doLine 135 = .ok (.iload_n 3, 1) := by decide +kernel
theorem dX12_doLine_136 : decode cX12_doLine 136 = .ok (.aload_n 0, 1) := by decide +kernel
theorem dX12_doLine_137 : decode cX12_doLine 137 = .ok (.getfield 17, 3) := by decide +kernel
theorem dX12_doLine_140 : decode cX12_doLine 140 = .ok (.iload_n 2, 1) := by decide +kernel
theorem dX12_doLine_141 : decode cX12_doLine 141 = .ok (.iaload, 1) := by decide +kernel
theorem dX12_doLine_142 : decode cX12_doLine 142 = .ok (.if_icmp .ge 38, 3) := by decide +kernel
theorem dX12_doLine_145 : decode cX12_doLine 145 = .ok (.aload_n 0, 1) := by decide +kernel
theorem dX12_doLine_146 : decode cX12_doLine 146 = .ok (.getfield 20, 3) := by decide +kernel
theorem dX12_doLine_149 : decode cX12_doLine 149 = .ok (.bipush 24, 2) := by decide +kernel
theorem dX12_doLine_151 : decode cX12_doLine 151 = .ok (.iload_n 2, 1) := by decide +kernel
theorem dX12_doLine_152 : decode cX12_doLine 152 = .ok (.imul, 1) := by decide +kernel
theorem dX12_doLine_153 : decode cX12_doLine 153 = .ok (.iload_n 3, 1) := by decide +kernel
theorem dX12_doLine_154 : decode cX12_doLine 154 = .ok (.iadd, 1) := by decide +kernel
theorem dX12_doLine_155 : decode cX12_doLine 155 = .ok (.aload_n 0, 1) := by decide +kernel
theorem dX12_doLine_156 : decode cX12_doLine 156 = .ok (.getfield 23, 3) := by decide +kernel
theorem dX12_doLine_159 : decode cX12_doLine 159 = .ok (.aload_n 0, 1) := by decide +kernel
theorem dX12_doLine_160 : decode cX12_doLine 160 = .ok (.getfield 26, 3) := by decide +kernel
theorem dX12_doLine_163 : decode cX12_doLine 163 = .ok (.iload_n 1, 1) := by decide +kernel
theorem dX12_doLine_164 : decode cX12_doLine 164 = .ok (.iconst 2, 1) := by decide +kernel
theorem dX12_doLine_165 : decode cX12_doLine 165 = .ok (.iadd, 1) := by decide +kernel
theorem dX12_doLine_166 : decode cX12_doLine 166 = .ok (.iaload, 1) := by decide +kernel
theorem dX12_doLine_167 : decode cX12_doLine 167 = .ok (.iload_n 3, 1) := by decide +kernel
theorem dX12_doLine_168 : decode cX12_doLine 168 = .ok (.iadd, 1) := by decide +kernel
theorem dX12_doLine_169 : decode cX12_doLine 169 = .ok (.iaload, 1) := by decide +kernel
theorem dX12_doLine_170 : decode cX12_doLine 170 = .ok (.bipush 97, 2) := by decide +kernel
theorem dX12_doLine_172 : decode cX12_doLine 172 = .ok (.isub, 1) := by decide +kernel
theorem dX12_doLine_173 : decode cX12_doLine 173 = .ok (.iastore, 1) := by decide +kernel
theorem dX12_doLine_174 : decode cX12_doLine 174 = .ok (.iinc 3 1, 3) := by decide +kernel
theorem dX12_doLine_177 : decode cX12_doLine 177 = .ok (.goto (-42), 3) := by decide +kernel
theorem dX12_doLine_180 : decode cX12_doLine 180 = .ok (.return_, 1) := by decide +kernel
theorem dX12_told_0 : decode cX12_told 0 = .ok (.aload_n 0, 1) := by decide +kernel
theorem dX12_told_1 : decode cX12_told 1 = .ok (.invokevirtual 154, 3) := by decide +kernel
theorem dX12_told_4 : decode cX12_told 4 = .ok (.ifCond .ne 6, 3) := by decide +kernel
theorem dX12_told_7 : decode cX12_told 7 = .ok (.bipush (-4), 2) := by decide +kernel
theorem dX12_told_9 : decode cX12_told 9 = .ok (.ireturn, 1) := by decide +kernel
theorem dX12_told_10 : decode cX12_told 10 = .ok (.iconst 0, 1) := by decide +kernel
theorem dX12_told_11 : decode cX12_told 11 = .ok (.istore_n 1, 1) := by decide +kernel
theorem dX12_told_12 : decode cX12_told 12 = .ok (.iload_n 1, 1) := by decide +kernel
theorem dX12_told_13 : decode cX12_told 13 = .ok (.aload_n 0, 1) := by decide +kernel
theorem dX12_told_14 : decode cX12_told 14 = .ok (.getfield 147, 3) := by decide +kernel
theorem dX12_told_17 : decode cX12_told 17 = .ok (.if_icmp .ge 16, 3) := by decide +kernel
theorem dX12_told_20 : decode cX12_told 20 = .ok (.aload_n 0, 1) := by decide +kernel
theorem dX12_told_21 : decode cX12_told 21 = .ok (.iconst 4, 1) := by decide +kernel
theorem dX12_told_22 : decode cX12_told 22 = .ok (.iload_n 1, 1) := by decide +kernel
theorem dX12_told_23 : decode cX12_told 23 = .ok (.imul, 1) := by decide +kernel
theorem dX12_told_24 : decode cX12_told 24 = .ok (.invokevirtual 161, 3) := by decide +kernel
theorem dX12_told_27 : decode cX12_told 27 = .ok (.iinc 1 1, 3) := by decide +kernel
theorem dX12_told_30 : decode cX12_told 30 = .ok (.goto (-18), 3) := by decide +kernel
theorem dX12_told_33 : decode cX12_told 33 = .ok (.aload_n 0, 1) := by decide +kernel
theorem dX12_told_34 : decode cX12_told 34 = .ok (.iconst 0, 1) := by decide +kernel
theorem dX12_told_35 : decode cX12_told 35 = .ok (.putfield 87, 3) := by decide +kernel
theorem dX12_told_38 : decode cX12_told 38 = .ok (.aload_n 0, 1) := by decide +kernel
theorem dX12_told_39 : decode cX12_told 39 = .ok (.getfield 147, 3) := by decide +kernel
theorem dX12_told_42 : decode cX12_told 42 = .ok (.ireturn, 1) := by decide +kernel
theorem dX12_free_0 : decode cX12_free 0 = .ok (.aload_n 0, 1) := by decide +kernel
theorem dX12_free_1 : decode cX12_free 1 = .ok (.iload_n 1, 1) := by decide +kernel
theorem dX12_free_2 : decode cX12_free 2 = .ok (.invokevirtual 165, 3) := by decide +kernel
theorem dX12_free_5 : decode cX12_free 5 = .ok (.ifCond .eq 16, 3) := by decide +kernel
theorem dX12_free_8 : decode cX12_free 8 = .ok (.aload_n 0, 1) := by decide +kernel
theorem dX12_free_9 : decode cX12_free 9 = .ok (.iload_n 2, 1) := by decide +kernel
theorem dX12_free_10 : decode cX12_free 10 = .ok (.invokevirtual 165, 3) := by decide +kernel
theorem dX12_free_13 : decode cX12_free 13 = .ok (.ifCond .eq 8, 3) := by decide +kernel
theorem dX12_free_16 : decode cX12_free 16 = .ok (.iload_n 1, 1) := by decide +kernel
theorem dX12_free_17 : decode cX12_free 17 = .ok (.iload_n 2, 1) := by decide +kernel
theorem dX12_free_18 : decode cX12_free 18 = .ok (.if_icmp .ne 6, 3) := by decide +kernel
theorem dX12_free_21 : decode cX12_free 21 = .ok (.bipush (-2), 2) := by decide +kernel
theorem dX12_free_23 : decode cX12_free 23 = .ok (.ireturn, 1) := by decide +kernel
theorem dX12_free_24 : decode cX12_free 24 = .ok (.aload_n 0, 1) := by decide +kernel
theorem dX12_free_25 : decode cX12_free 25 = .ok (.iload_n 1, 1) := by decide +kernel
theorem dX12_free_26 : decode cX12_free 26 = .ok (.iload_n 2, 1) := by decide +kernel
theorem dX12_free_27 : decode cX12_free 27 = .ok (.invokevirtual 168, 3) := by decide +kernel
theorem dX12_free_30 : decode cX12_free 30 = .ok (.ifCond .eq 7, 3) := by decide +kernel
theorem dX12_free_33 : decode cX12_free 33 = .ok (.iconst 1, 1) := by decide +kernel
theorem dX12_free_34 : decode cX12_free 34 = .ok (.goto 4, 3) := by decide +kernel
theorem dX12_free_37 : decode cX12_free 37 = .ok (.iconst 0, 1) := by decide +kernel
theorem dX12_free_38 : decode cX12_free 38 = .ok (.istore 4, 2) := by decide +kernel
theorem dX12_free_40 : decode cX12_free 40 = .ok (.aload_n 0, 1) := by decide +kernel
theorem dX12_free_41 : decode cX12_free 41 = .ok (.iload_n 1, 1) := by decide +kernel
theorem dX12_free_42 : decode cX12_free 42 = .ok (.iload_n 2, 1) := by decide +kernel
theorem dX12_free_43 : decode cX12_free 43 = .ok (.iload_n 3, 1) := by decide +kernel
theorem dX12_free_44 : decode cX12_free 44 = .ok (.invokevirtual 157, 3) := by decide +kernel
theorem dX12_free_47 : decode cX12_free 47 = .ok (.iload 4, 2) := by decide +kernel
theorem dX12_free_49 : decode cX12_free 49 = .ok (.ireturn, 1) := by decide +kernel
theorem dX12_add_0 : decode cX12_add 0 = .ok (.iload_n 1, 1) := by decide +kernel
theorem dX12_add_1 : decode cX12_add 1 = .ok (.invokestatic 172, 3) := by decide +kernel
theorem dX12_add_4 : decode cX12_add 4 = .ok (.ifCond .eq 11, 3) := by decide +kernel
theorem dX12_add_7 : decode cX12_add 7 = .ok (.aload_n 0, 1) := by decide +kernel
theorem dX12_add_8 : decode cX12_add 8 = .ok (.iload_n 2, 1) := by decide +kernel
theorem dX12_add_9 : decode cX12_add 9 = .ok (.invokevirtual 165, 3) := by decide +kernel
theorem dX12_add_12 : decode cX12_add 12 = .ok (.ifCond .ne 6, 3) := by decide +kernel
theorem dX12_add_15 : decode cX12_add 15 = .ok (.bipush (-2), 2) := by decide +kernel
theorem dX12_add_17 : decode cX12_add 17 = .ok (.ireturn, 1) := by decide +kernel
theorem dX12_add_18 : decode cX12_add 18 = .ok (.aload_n 0, 1) := by decide +kernel
theorem dX12_add_19 : decode cX12_add 19 = .ok (.getfield 17, 3) := by decide +kernel
theorem dX12_add_22 : decode cX12_add 22 = .ok (.iload_n 1, 1) := by decide +kernel
theorem dX12_add_23 : decode cX12_add 23 = .ok (.iaload, 1) := by decide +kernel
theorem dX12_add_24 : decode cX12_add 24 = .ok (.bipush 24, 2) := by decide +kernel
theorem dX12_add_26 : decode cX12_add 26 = .ok (.if_icmp .ne 6, 3) := by decide +kernel
theorem dX12_add_29 : decode cX12_add 29 = .ok (.bipush (-5), 2) := by decide +kernel
theorem dX12_add_31 : decode cX12_add 31 = .ok (.ireturn, 1) := by decide +kernel
theorem dX12_add_32 : decode cX12_add 32 = .ok (.aload_n 0, 1) := by decide +kernel
theorem dX12_add_33 : decode cX12_add 33 = .ok (.getfield 20, 3) := by decide +kernel
theorem dX12_add_36 : decode cX12_add 36 = .ok (.bipush 24, 2) := by decide +kernel
theorem dX12_add_38 : decode cX12_add 38 = .ok (.iload_n 1, 1) := by decide +kernel
theorem dX12_add_39 : decode cX12_add 39 = .ok (.imul, 1) := by decide +kernel
theorem dX12_add_40 : decode cX12_add 40 = .ok (.aload_n 0, 1) := by decide +kernel
theorem dX12_add_41 : decode cX12_add 41 = .ok (.getfield 17, 3) := by decide +kernel
theorem dX12_add_44 : decode cX12_add 44 = .ok (.iload_n 1, 1) := by decide +kernel
theorem dX12_add_45 : decode cX12_add 45 = .ok (.iaload, 1) := by decide +kernel
theorem dX12_add_46 : decode cX12_add 46 = .ok (.iadd, 1) := by decide +kernel
theorem dX12_add_47 : decode cX12_add 47 = .ok (.iload_n 2, 1) := by decide +kernel
theorem dX12_add_48 : decode cX12_add 48 = .ok (.iastore, 1) := by decide +kernel
theorem dX12_add_49 : decode cX12_add 49 = .ok (.aload_n 0, 1) := by decide +kernel
theorem dX12_add_50 : decode cX12_add 50 = .ok (.getfield 17, 3) := by decide +kernel
theorem dX12_add_53 : decode cX12_add 53 = .ok (.iload_n 1, 1) := by decide +kernel
theorem dX12_add_54 : decode cX12_add 54 = .ok (.dup2, 1) := by decide +kernel
theorem dX12_add_55 : decode cX12_add 55 = .ok (.iaload, 1) := by decide +kernel
theorem dX12_add_56 : decode cX12_add 56 = .ok (.iconst 1, 1) := by decide +kernel
theorem dX12_add_57 : decode cX12_add 57 = .ok (.iadd, 1) := by decide +kernel
theorem dX12_add_58 : decode cX12_add 58 = .ok (.iastore, 1) := by decide +kernel
theorem dX12_add_59 : decode cX12_add 59 = .ok (.aload_n 0, 1) := by decide +kernel
theorem dX12_add_60 : decode cX12_add 60 = .ok (.getfield 17, 3) := by decide +kernel
theorem dX12_add_63 : decode cX12_add 63 = .ok (.iload_n 1, 1) := by decide +kernel
theorem dX12_add_64 : decode cX12_add 64 = .ok (.iaload, 1) := by decide +kernel
theorem dX12_add_65 : decode cX12_add 65 = .ok (.ireturn, 1) := by decide +kernel
theorem dX12_clear_0 : decode cX12_clear 0 = .ok (.iload_n 1, 1) := by decide +kernel
theorem dX12_clear_1 : decode cX12_clear 1 = .ok (.invokestatic 172, 3) := by decide +kernel
theorem dX12_clear_4 : decode cX12_clear 4 = .ok (.ifCond .ne 6, 3) := by decide +kernel
theorem dX12_clear_7 : decode cX12_clear 7 = .ok (.bipush (-2), 2) := by decide +kernel
theorem dX12_clear_9 : decode cX12_clear 9 = .ok (.ireturn, 1) := by decide +kernel
theorem dX12_clear_10 : decode cX12_clear 10 = .ok (.aload_n 0, 1) := by decide +kernel
theorem dX12_clear_11 : decode cX12_clear 11 = .ok (.getfield 17, 3) := by decide +kernel
theorem dX12_clear_14 : decode cX12_clear 14 = .ok (.iload_n 1, 1) := by decide +kernel
theorem dX12_clear_15 : decode cX12_clear 15 = .ok (.iaload, 1) := by decide +kernel
theorem dX12_clear_16 : decode cX12_clear 16 = .ok (.istore_n 2, 1) := by decide +kernel
theorem dX12_clear_17 : decode cX12_clear 17 = .ok (.aload_n 0, 1) := by decide +kernel
theorem dX12_clear_18 : decode cX12_clear 18 = .ok (.getfield 17, 3) := by decide +kernel
theorem dX12_clear_21 : decode cX12_clear 21 = .ok (.iload_n 1, 1) := by decide +kernel
theorem dX12_clear_22 : decode cX12_clear 22 = .ok (.iconst 0, 1) := by decide +kernel
theorem dX12_clear_23 : decode cX12_clear 23 = .ok (.iastore, 1) := by decide +kernel
theorem dX12_clear_24 : decode cX12_clear 24 = .ok (.iload_n 2, 1) := by decide +kernel
theorem dX12_clear_25 : decode cX12_clear 25 = .ok (.ireturn, 1) := by decide +kernel
theorem dX12_take_0 : decode cX12_take 0 = .ok (.iconst 0, 1) := by decide +kernel
theorem dX12_take_1 : decode cX12_take 1 = .ok (.istore_n 3, 1) := by decide +kernel
theorem dX12_take_2 : decode cX12_take 2 = .ok (.iload_n 3, 1) := by decide +kernel
theorem dX12_take_3 : decode cX12_take 3 = .ok (.aload_n 0, 1) := by decide +kernel
theorem dX12_take_4 : decode cX12_take 4 = .ok (.getfield 17, 3) := by decide +kernel
theorem dX12_take_7 : decode cX12_take 7 = .ok (.iload_n 1, 1) := by decide +kernel
theorem dX12_take_8 : decode cX12_take 8 = .ok (.iaload, 1) := by decide +kernel
theorem dX12_take_9 : decode cX12_take 9 = .ok (.if_icmp .ge 23, 3) := by decide +kernel
theorem dX12_take_12 : decode cX12_take 12 = .ok (.aload_n 2, 1) := by decide +kernel
theorem dX12_take_13 : decode cX12_take 13 = .ok (.iload_n 3, 1) := by decide +kernel
theorem dX12_take_14 : decode cX12_take 14 = .ok (.aload_n 0, 1) := by decide +kernel
theorem dX12_take_15 : decode cX12_take 15 = .ok (.getfield 20, 3) := by decide +kernel
theorem dX12_take_18 : decode cX12_take 18 = .ok (.bipush 24, 2) := by decide +kernel
theorem dX12_take_20 : decode cX12_take 20 = .ok (.iload_n 1, 1) := by decide +kernel
theorem dX12_take_21 : decode cX12_take 21 = .ok (.imul, 1) := by decide +kernel
theorem dX12_take_22 : decode cX12_take 22 = .ok (.iload_n 3, 1) := by decide +kernel
theorem dX12_take_23 : decode cX12_take 23 = .ok (.iadd, 1) := by decide +kernel
theorem dX12_take_24 : decode cX12_take 24 = .ok (.iaload, 1) := by decide +kernel
theorem dX12_take_25 : decode cX12_take 25 = .ok (.iastore, 1) := by decide +kernel
theorem dX12_take_26 : decode cX12_take 26 = .ok (.iinc 3 1, 3) := by decide +kernel
theorem dX12_take_29 : decode cX12_take 29 = .ok (.goto (-27), 3) := by decide +kernel
theorem dX12_take_32 : decode cX12_take 32 = .ok (.return_, 1) := by decide +kernel
theorem dX12_firstOf_0 : decode cX12_firstOf 0 = .ok (.iconst 0, 1) := by decide +kernel
theorem dX12_firstOf_1 : decode cX12_firstOf 1 = .ok (.istore 4, 2) := by decide +kernel
theorem dX12_firstOf_3 : decode cX12_firstOf 3 = .ok (.iload 4, 2) := by decide +kernel
theorem dX12_firstOf_5 : decode cX12_firstOf 5 = .ok (.iload_n 2, 1) := by decide +kernel
theorem dX12_firstOf_6 : decode cX12_firstOf 6 = .ok (.if_icmp .ge 44, 3) := by decide +kernel
theorem dX12_firstOf_9 : decode cX12_firstOf 9 = .ok (.aload_n 0, 1) := by decide +kernel
theorem dX12_firstOf_10 : decode cX12_firstOf 10 = .ok (.getfield 38, 3) := by decide +kernel
theorem dX12_firstOf_13 : decode cX12_firstOf 13 = .ok (.iload 4, 2) := by decide +kernel
theorem dX12_firstOf_15 : decode cX12_firstOf 15 = .ok (.baload, 1) := by decide +kernel
theorem dX12_firstOf_16 : decode cX12_firstOf 16 = .ok (.ifCond .ne 28, 3) := by decide +kernel
theorem dX12_firstOf_19 : decode cX12_firstOf 19 = .ok (.aload_n 1, 1) := by decide +kernel
theorem dX12_firstOf_20 : decode cX12_firstOf 20 = .ok (.iload 4, 2) := by decide +kernel
theorem dX12_firstOf_22 : decode cX12_firstOf 22 = .ok (.iaload, 1) := by decide +kernel
theorem dX12_firstOf_23 : decode cX12_firstOf 23 = .ok (.iload_n 3, 1) := by decide +kernel
theorem dX12_firstOf_24 : decode cX12_firstOf 24 = .ok (.if_icmp .ne 6, 3) := by decide +kernel
theorem dX12_firstOf_27 : decode cX12_firstOf 27 = .ok (.iload 4, 2) := by decide +kernel
theorem dX12_firstOf_29 : decode cX12_firstOf 29 = .ok (.ireturn, 1) := by decide +kernel
theorem dX12_firstOf_30 : decode cX12_firstOf 30 = .ok (.aload_n 0, 1) := by decide +kernel
theorem dX12_firstOf_31 : decode cX12_firstOf 31 = .ok (.aload_n 1, 1) := by decide +kernel
theorem dX12_firstOf_32 : decode cX12_firstOf 32 = .ok (.iload 4, 2) := by decide +kernel
theorem dX12_firstOf_34 : decode cX12_firstOf 34 = .ok (.iaload, 1) := by decide +kernel
theorem dX12_firstOf_35 : decode cX12_firstOf 35 = .ok (.iload_n 3, 1) := by decide +kernel
theorem dX12_firstOf_36 : decode cX12_firstOf 36 = .ok (.invokevirtual 168, 3) := by decide +kernel
theorem dX12_firstOf_39 : decode cX12_firstOf 39 = .ok (.ifCond .ne 5, 3) := by decide +kernel
theorem dX12_firstOf_42 : decode cX12_firstOf 42 = .ok (.iconst (-1), 1) := by decide +kernel
theorem dX12_firstOf_43 : decode cX12_firstOf 43 = .ok (.ireturn, 1) := by decide +kernel
theorem dX12_firstOf_44 : decode cX12_firstOf 44 = .ok (.iinc 4 1, 3) := by decide +kernel
theorem dX12_firstOf_47 : decode cX12_firstOf 47 = .ok (.goto (-44), 3) := by decide +kernel
theorem dX12_firstOf_50 : decode cX12_firstOf 50 = .ok (.iconst (-1), 1) := by decide +kernel
theorem dX12_firstOf_51 : decode cX12_firstOf 51 = .ok (.ireturn, 1) := by decide +kernel
theorem dX12_putAllOn_0 : decode cX12_putAllOn 0 = .ok (.iconst 0, 1) := by decide +kernel
theorem dX12_putAllOn_1 : decode cX12_putAllOn 1 = .ok (.istore_n 2, 1) := by decide +kernel
theorem dX12_putAllOn_2 : decode cX12_putAllOn 2 = .ok (.iload_n 2, 1) := by decide +kernel
theorem dX12_putAllOn_3 : decode cX12_putAllOn 3 = .ok (.iload_n 1, 1) := by decide +kernel
theorem dX12_putAllOn_4 : decode cX12_putAllOn 4 = .ok (.if_icmp .ge 16, 3) := by decide +kernel
theorem dX12_putAllOn_7 : decode cX12_putAllOn 7 = .ok (.aload_n 0, 1) := by decide +kernel
theorem dX12_putAllOn_8 : decode cX12_putAllOn 8 = .ok (.getfield 38, 3) := by decide +kernel
theorem dX12_putAllOn_11 : decode cX12_putAllOn 11 = .ok (.iload_n 2, 1) := by decide +kernel
theorem dX12_putAllOn_12 : decode cX12_putAllOn 12 = .ok (.iconst 0, 1) := by decide +kernel
theorem dX12_putAllOn_13 : decode cX12_putAllOn 13 = .ok (.bastore, 1) := by decide +kernel
theorem dX12_putAllOn_14 : decode cX12_putAllOn 14 = .ok (.iinc 2 1, 3) := by decide +kernel
theorem dX12_putAllOn_17 : decode cX12_putAllOn 17 = .ok (.goto (-15), 3) := by decide +kernel
theorem dX12_putAllOn_20 : decode cX12_putAllOn 20 = .ok (.return_, 1) := by decide +kernel
theorem dX12_makeLeast_0 : decode cX12_makeLeast 0 = .ok (.iconst 0, 1) := by decide +kernel
theorem dX12_makeLeast_1 : decode cX12_makeLeast 1 = .ok (.istore_n 3, 1) := by decide +kernel
theorem dX12_makeLeast_2 : decode cX12_makeLeast 2 = .ok (.iconst 1, 1) := by decide +kernel
theorem dX12_makeLeast_3 : decode cX12_makeLeast 3 = .ok (.istore 4, 2) := by decide +kernel
theorem dX12_makeLeast_5 : decode cX12_makeLeast 5 = .ok (.iload 4, 2) := by decide +kernel
theorem dX12_makeLeast_7 : decode cX12_makeLeast 7 = .ok (.ifCond .eq 68, 3) := by decide +kernel
theorem dX12_makeLeast_10 : decode cX12_makeLeast 10 = .ok (.iconst 0, 1) := by decide +kernel
theorem dX12_makeLeast_11 : decode cX12_makeLeast 11 = .ok (.istore 4, 2) := by decide +kernel
theorem dX12_makeLeast_13 : decode cX12_makeLeast 13 = .ok (.iconst 0, 1) := by decide +kernel
theorem dX12_makeLeast_14 : decode cX12_makeLeast 14 = .ok (.istore 5, 2) := by decide +kernel
theorem dX12_makeLeast_16 : decode cX12_makeLeast 16 = .ok (.iload 5, 2) := by decide +kernel
theorem dX12_makeLeast_18 : decode cX12_makeLeast 18 = .ok (.bipush 6, 2) := by decide +kernel
theorem dX12_makeLeast_20 : decode cX12_makeLeast 20 = .ok (.if_icmp .ge 52, 3) := by decide +kernel
theorem dX12_makeLeast_23 : decode cX12_makeLeast 23 = .ok (.iload 4, 2) := by decide +kernel
theorem dX12_makeLeast_25 : decode cX12_makeLeast 25 = .ok (.ifCond .ne 47, 3) := by decide +kernel
theorem dX12_makeLeast_28 : decode cX12_makeLeast 28 = .ok (.aload_n 0, 1) := by decide +kernel
theorem dX12_makeLeast_29 : decode cX12_makeLeast 29 = .ok (.aload_n 1, 1) := by decide +kernel
theorem dX12_makeLeast_30 : decode cX12_makeLeast 30 = .ok (.iload_n 2, 1) := by decide +kernel
theorem dX12_makeLeast_31 : decode cX12_makeLeast 31 = .ok (.iload 5, 2) := by decide +kernel
theorem dX12_makeLeast_33 : decode cX12_makeLeast 33 = .ok (.invokevirtual 175, 3) := by decide +kernel
theorem dX12_makeLeast_36 : decode cX12_makeLeast 36 = .ok (.istore 6, 2) := by decide +kernel
theorem dX12_makeLeast_38 : decode cX12_makeLeast 38 = .ok (.iload 6, 2) := by decide +kernel
theorem dX12_makeLeast_40 : decode cX12_makeLeast 40 = .ok (.iconst (-1), 1) := by decide +kernel
theorem dX12_makeLeast_41 : decode cX12_makeLeast 41 = .ok (.if_icmp .eq 25, 3) := by decide +kernel
theorem dX12_makeLeast_44 : decode cX12_makeLeast 44 = .ok (.aload_n 0, 1) := by decide +kernel
theorem dX12_makeLeast_45 : decode cX12_makeLeast 45 = .ok (.getfield 38, 3) := by decide +kernel
theorem dX12_makeLeast_48 : decode cX12_makeLeast 48 = .ok (.iload 6, 2) := by decide +kernel
theorem dX12_makeLeast_50 : decode cX12_makeLeast 50 = .ok (.iconst 1, 1) := by decide +kernel
theorem dX12_makeLeast_51 : decode cX12_makeLeast 51 = .ok (.bastore, 1) := by decide +kernel
theorem dX12_makeLeast_52 : decode cX12_makeLeast 52 = .ok (.aload_n 0, 1) := by decide +kernel
theorem dX12_makeLeast_53 : decode cX12_makeLeast 53 = .ok (.getfield 35, 3) := by decide +kernel
theorem dX12_makeLeast_56 : decode cX12_makeLeast 56 = .ok (.iload_n 3, 1) := by decide +kernel
theorem dX12_makeLeast_57 : decode cX12_makeLeast 57 = .ok (.iload 5, 2) := by decide +kernel
theorem dX12_makeLeast_59 : decode cX12_makeLeast 59 = .ok (.iastore, 1) := by decide +kernel
theorem dX12_makeLeast_60 : decode cX12_makeLeast 60 = .ok (.iinc 3 1, 3) := by decide +kernel
theorem dX12_makeLeast_63 : decode cX12_makeLeast 63 = .ok (.iconst 1, 1) := by decide +kernel
theorem dX12_makeLeast_64 : decode cX12_makeLeast 64 = .ok (.istore 4, 2) := by decide +kernel
theorem dX12_makeLeast_66 : decode cX12_makeLeast 66 = .ok (.iinc 5 1, 3) := by decide +kernel
theorem dX12_makeLeast_69 : decode cX12_makeLeast 69 = .ok (.goto (-53), 3) := by decide +kernel
theorem dX12_makeLeast_72 : decode cX12_makeLeast 72 = .ok (.goto (-67), 3) := by decide +kernel
theorem dX12_makeLeast_75 : decode cX12_makeLeast 75 = .ok (.iload_n 3, 1) := by decide +kernel
theorem dX12_makeLeast_76 : decode cX12_makeLeast 76 = .ok (.ireturn, 1) := by decide +kernel
theorem dX12_makeLeastOf_0 : decode cX12_makeLeastOf 0 = .ok (.aload_n 0, 1) := by decide +kernel
theorem dX12_makeLeastOf_1 : decode cX12_makeLeastOf 1 = .ok (.iload_n 2, 1) := by decide +kernel
theorem dX12_makeLeastOf_2 : decode cX12_makeLeastOf 2 = .ok (.invokevirtual 179, 3) := by decide +kernel
theorem dX12_makeLeastOf_5 : decode cX12_makeLeastOf 5 = .ok (.aload_n 0, 1) := by decide +kernel
theorem dX12_makeLeastOf_6 : decode cX12_makeLeastOf 6 = .ok (.aload_n 1, 1) := by decide +kernel
theorem dX12_makeLeastOf_7 : decode cX12_makeLeastOf 7 = .ok (.iload_n 2, 1) := by decide +kernel
theorem dX12_makeLeastOf_8 : decode cX12_makeLeastOf 8 = .ok (.invokevirtual 182, 3) := by decide +kernel
theorem dX12_makeLeastOf_11 : decode cX12_makeLeastOf 11 = .ok (.ireturn, 1) := by decide +kernel
theorem dX12_keep_0 : decode cX12_keep 0 = .ok (.aload_n 0, 1) := by decide +kernel
theorem dX12_keep_1 : decode cX12_keep 1 = .ok (.getfield 17, 3) := by decide +kernel
theorem dX12_keep_4 : decode cX12_keep 4 = .ok (.iload_n 1, 1) := by decide +kernel
theorem dX12_keep_5 : decode cX12_keep 5 = .ok (.iload_n 2, 1) := by decide +kernel
theorem dX12_keep_6 : decode cX12_keep 6 = .ok (.iastore, 1) := by decide +kernel
theorem dX12_keep_7 : decode cX12_keep 7 = .ok (.iconst 0, 1) := by decide +kernel
theorem dX12_keep_8 : decode cX12_keep 8 = .ok (.istore_n 3, 1) := by decide +kernel
theorem dX12_keep_9 : decode cX12_keep 9 = .ok (.iload_n 3, 1) := by decide +kernel
theorem dX12_keep_10 : decode cX12_keep 10 = .ok (.iload_n 2, 1) := by decide +kernel
theorem dX12_keep_11 : decode cX12_keep 11 = .ok (.if_icmp .ge 26, 3) := by decide +kernel
theorem dX12_keep_14 : decode cX12_keep 14 = .ok (.aload_n 0, 1) := by decide +kernel
theorem dX12_keep_15 : decode cX12_keep 15 = .ok (.getfield 20, 3) := by decide +kernel
theorem dX12_keep_18 : decode cX12_keep 18 = .ok (.bipush 24, 2) := by decide +kernel
theorem dX12_keep_20 : decode cX12_keep 20 = .ok (.iload_n 1, 1) := by decide +kernel
theorem dX12_keep_21 : decode cX12_keep 21 = .ok (.imul, 1) := by decide +kernel
theorem dX12_keep_22 : decode cX12_keep 22 = .ok (.iload_n 3, 1) := by decide +kernel
theorem dX12_keep_23 : decode cX12_keep 23 = .ok (.iadd, 1) := by decide +kernel
theorem dX12_keep_24 : decode cX12_keep 24 = .ok (.aload_n 0, 1) := by decide +kernel
theorem dX12_keep_25 : decode cX12_keep 25 = .ok (.getfield 35, 3) := by decide +kernel
theorem dX12_keep_28 : decode cX12_keep 28 = .ok (.iload_n 3, 1) := by decide +kernel
theorem dX12_keep_29 : decode cX12_keep 29 = .ok (.iaload, 1) := by decide +kernel
theorem dX12_keep_30 : decode cX12_keep 30 = .ok (.iastore, 1) := by decide +kernel
theorem dX12_keep_31 : decode cX12_keep 31 = .ok (.iinc 3 1, 3) := by decide +kernel
theorem dX12_keep_34 : decode cX12_keep 34 = .ok (.goto (-25), 3) := by decide +kernel
theorem dX12_keep_37 : decode cX12_keep 37 = .ok (.iload_n 2, 1) := by decide +kernel
theorem dX12_keep_38 : decode cX12_keep 38 = .ok (.ireturn, 1) := by decide +kernel
theorem dX12_letter_0 : decode cX12_letter 0 = .ok (.iload_n 1, 1) := by decide +kernel
theorem dX12_letter_1 : decode cX12_letter 1 = .ok (.invokestatic 172, 3) := by decide +kernel
theorem dX12_letter_4 : decode cX12_letter 4 = .ok (.ifCond .ne 6, 3) := by decide +kernel
theorem dX12_letter_7 : decode cX12_letter 7 = .ok (.bipush (-2), 2) := by decide +kernel
theorem dX12_letter_9 : decode cX12_letter 9 = .ok (.ireturn, 1) := by decide +kernel
theorem dX12_letter_10 : decode cX12_letter 10 = .ok (.iload_n 2, 1) := by decide +kernel
theorem dX12_letter_11 : decode cX12_letter 11 = .ok (.ifCond .lt 12, 3) := by decide +kernel
theorem dX12_letter_14 : decode cX12_letter 14 = .ok (.iload_n 3, 1) := by decide +kernel
theorem dX12_letter_15 : decode cX12_letter 15 = .ok (.iconst 0, 1) := by decide +kernel
theorem dX12_letter_16 : decode cX12_letter 16 = .ok (.iconst 1, 1) := by decide +kernel
theorem dX12_letter_17 : decode cX12_letter 17 = .ok (.invokestatic 83, 3) := by decide +kernel
theorem dX12_letter_20 : decode cX12_letter 20 = .ok (.ifCond .ne 6, 3) := by decide +kernel
theorem dX12_letter_23 : decode cX12_letter 23 = .ok (.bipush (-3), 2) := by decide +kernel
theorem dX12_letter_25 : decode cX12_letter 25 = .ok (.ireturn, 1) := by decide +kernel
theorem dX12_letter_26 : decode cX12_letter 26 = .ok (.iload_n 2, 1) := by decide +kernel
theorem dX12_letter_27 : decode cX12_letter 27 = .ok (.aload_n 0, 1) := by decide +kernel
theorem dX12_letter_28 : decode cX12_letter 28 = .ok (.getfield 17, 3) := by decide +kernel
theorem dX12_letter_31 : decode cX12_letter 31 = .ok (.iload_n 1, 1) := by decide +kernel
theorem dX12_letter_32 : decode cX12_letter 32 = .ok (.iaload, 1) := by decide +kernel
theorem dX12_letter_33 : decode cX12_letter 33 = .ok (.if_icmp .lt 5, 3) := by decide +kernel
theorem dX12_letter_36 : decode cX12_letter 36 = .ok (.iconst (-1), 1) := by decide +kernel
theorem dX12_letter_37 : decode cX12_letter 37 = .ok (.ireturn, 1) := by decide +kernel
theorem dX12_letter_38 : decode cX12_letter 38 = .ok (.iload_n 3, 1) := by decide +kernel
theorem dX12_letter_39 : decode cX12_letter 39 = .ok (.ifCond .ne 15, 3) := by decide +kernel
theorem dX12_letter_42 : decode cX12_letter 42 = .ok (.aload_n 0, 1) := by decide +kernel
theorem dX12_letter_43 : decode cX12_letter 43 = .ok (.getfield 20, 3) := by decide +kernel
theorem dX12_letter_46 : decode cX12_letter 46 = .ok (.bipush 24, 2) := by decide +kernel
theorem dX12_letter_48 : decode cX12_letter 48 = .ok (.iload_n 1, 1) := by decide +kernel
theorem dX12_letter_49 : decode cX12_letter 49 = .ok (.imul, 1) := by decide +kernel
theorem dX12_letter_50 : decode cX12_letter 50 = .ok (.iload_n 2, 1) := by decide +kernel
theorem dX12_letter_51 : decode cX12_letter 51 = .ok (.iadd, 1) := by decide +kernel
theorem dX12_letter_52 : decode cX12_letter 52 = .ok (.iaload, 1) := by decide +kernel
theorem dX12_letter_53 : decode cX12_letter 53 = .ok (.ireturn, 1) := by decide +kernel
theorem dX12_letter_54 : decode cX12_letter 54 = .ok (.aload_n 0, 1) := by decide +kernel
theorem dX12_letter_55 : decode cX12_letter 55 = .ok (.iload_n 1, 1) := by decide +kernel
theorem dX12_letter_56 : decode cX12_letter 56 = .ok (.aload_n 0, 1) := by decide +kernel
theorem dX12_letter_57 : decode cX12_letter 57 = .ok (.getfield 29, 3) := by decide +kernel
theorem dX12_letter_60 : decode cX12_letter 60 = .ok (.invokevirtual 186, 3) := by decide +kernel
theorem dX12_letter_63 : decode cX12_letter 63 = .ok (.aload_n 0, 1) := by decide +kernel
theorem dX12_letter_64 : decode cX12_letter 64 = .ok (.aload_n 0, 1) := by decide +kernel
theorem dX12_letter_65 : decode cX12_letter 65 = .ok (.getfield 29, 3) := by decide +kernel
theorem dX12_letter_68 : decode cX12_letter 68 = .ok (.aload_n 0, 1) := by decide +kernel
theorem dX12_letter_69 : decode cX12_letter 69 = .ok (.getfield 17, 3) := by decide +kernel
theorem dX12_letter_72 : decode cX12_letter 72 = .ok (.iload_n 1, 1) := by decide +kernel
theorem dX12_letter_73 : decode cX12_letter 73 = .ok (.iaload, 1) := by decide +kernel
theorem dX12_letter_74 : decode cX12_letter 74 = .ok (.invokevirtual 190, 3) := by decide +kernel
theorem dX12_letter_77 : decode cX12_letter 77 = .ok (.pop, 1) := by decide +kernel
theorem dX12_letter_78 : decode cX12_letter 78 = .ok (.aload_n 0, 1) := by decide +kernel
theorem dX12_letter_79 : decode cX12_letter 79 = .ok (.getfield 35, 3) := by decide +kernel
theorem dX12_letter_82 : decode cX12_letter 82 = .ok (.iload_n 2, 1) := by decide +kernel
theorem dX12_letter_83 : decode cX12_letter 83 = .ok (.iaload, 1) := by decide +kernel
theorem dX12_letter_84 : decode cX12_letter 84 = .ok (.ireturn, 1) := by decide +kernel
theorem dX12_areLooksAlike_0 : decode cX12_areLooksAlike 0 = .ok (.iconst 0, 1) := by decide +kernel
theorem dX12_areLooksAlike_1 : decode cX12_areLooksAlike 1 = .ok (.istore 5, 2) := by decide +kernel
theorem dX12_areLooksAlike_3 : decode cX12_areLooksAlike 3 = .ok (.iconst 0, 1) := by decide +kernel
theorem dX12_areLooksAlike_4 : decode cX12_areLooksAlike 4 = .ok (.istore 6, 2) := by decide +kernel
theorem dX12_areLooksAlike_6 : decode cX12_areLooksAlike 6 = .ok (.iload 5, 2) := by decide +kernel
theorem dX12_areLooksAlike_8 : decode cX12_areLooksAlike 8 = .ok (.aload_n 0, 1) := by decide +kernel
theorem dX12_areLooksAlike_9 : decode cX12_areLooksAlike 9 = .ok (.getfield 17, 3) := by decide +kernel
theorem dX12_areLooksAlike_12 : decode cX12_areLooksAlike 12 = .ok (.iload_n 1, 1) := by decide +kernel
theorem dX12_areLooksAlike_13 : decode cX12_areLooksAlike 13 = .ok (.iaload, 1) := by decide +kernel
theorem dX12_areLooksAlike_14 : decode cX12_areLooksAlike 14 = .ok (.if_icmp .lt 14, 3) := by decide +kernel
theorem dX12_areLooksAlike_17 : decode cX12_areLooksAlike 17 = .ok (.iload 6, 2) := by decide +kernel
theorem dX12_areLooksAlike_19 : decode cX12_areLooksAlike 19 = .ok (.aload_n 0, 1) := by decide +kernel
theorem dX12_areLooksAlike_20 : decode cX12_areLooksAlike 20 = .ok (.getfield 17, 3) := by decide +kernel
theorem dX12_areLooksAlike_23 : decode cX12_areLooksAlike 23 = .ok (.iload_n 2, 1) := by decide +kernel
theorem dX12_areLooksAlike_24 : decode cX12_areLooksAlike 24 = .ok (.iaload, 1) := by decide +kernel
theorem dX12_areLooksAlike_25 : decode cX12_areLooksAlike 25 = .ok (.if_icmp .ge 179, 3) := by decide +kernel
theorem dX12_areLooksAlike_28 : decode cX12_areLooksAlike 28 = .ok (.iload 5, 2) := by decide +kernel
theorem dX12_areLooksAlike_30 : decode cX12_areLooksAlike 30 = .ok (.aload_n 0, 1) := by decide +kernel
theorem dX12_areLooksAlike_31 : decode cX12_areLooksAlike 31 = .ok (.getfield 17, 3) := by decide +kernel
theorem dX12_areLooksAlike_34 : decode cX12_areLooksAlike 34 = .ok (.iload_n 1, 1) := by decide +kernel
theorem dX12_areLooksAlike_35 : decode cX12_areLooksAlike 35 = .ok (.iaload, 1) := by decide +kernel
theorem dX12_areLooksAlike_36 : decode cX12_areLooksAlike 36 = .ok (.if_icmp .ge 42, 3) := by decide +kernel
theorem dX12_areLooksAlike_39 : decode cX12_areLooksAlike 39 = .ok (.aload_n 0, 1) := by decide +kernel
theorem dX12_areLooksAlike_40 : decode cX12_areLooksAlike 40 = .ok (.getfield 20, 3) := by decide +kernel
theorem dX12_areLooksAlike_43 : decode cX12_areLooksAlike 43 = .ok (.bipush 24, 2) := by decide +kernel
theorem dX12_areLooksAlike_45 : decode cX12_areLooksAlike 45 = .ok (.iload_n 1, 1) := by decide +kernel
theorem dX12_areLooksAlike_46 : decode cX12_areLooksAlike 46 = .ok (.imul, 1) := by decide +kernel
theorem dX12_areLooksAlike_47 : decode cX12_areLooksAlike 47 = .ok (.iload 5, 2) := by decide +kernel
theorem dX12_areLooksAlike_49 : decode cX12_areLooksAlike 49 = .ok (.iadd, 1) := by decide +kernel
theorem dX12_areLooksAlike_50 : decode cX12_areLooksAlike 50 = .ok (.iaload, 1) := by decide +kernel
theorem dX12_areLooksAlike_51 : decode cX12_areLooksAlike 51 = .ok (.iload_n 3, 1) := by decide +kernel
theorem dX12_areLooksAlike_52 : decode cX12_areLooksAlike 52 = .ok (.if_icmp .eq 26, 3) := by decide +kernel
theorem dX12_areLooksAlike_55 : decode cX12_areLooksAlike 55 = .ok (.aload_n 0, 1) := by decide +kernel
theorem dX12_areLooksAlike_56 : decode cX12_areLooksAlike 56 = .ok (.getfield 20, 3) := by decide +kernel
theorem dX12_areLooksAlike_59 : decode cX12_areLooksAlike 59 = .ok (.bipush 24, 2) := by decide +kernel
theorem dX12_areLooksAlike_61 : decode cX12_areLooksAlike 61 = .ok (.iload_n 1, 1) := by decide +kernel
theorem dX12_areLooksAlike_62 : decode cX12_areLooksAlike 62 = .ok (.imul, 1) := by decide +kernel
theorem dX12_areLooksAlike_63 : decode cX12_areLooksAlike 63 = .ok (.iload 5, 2) := by decide +kernel
theorem dX12_areLooksAlike_65 : decode cX12_areLooksAlike 65 = .ok (.iadd, 1) := by decide +kernel
theorem dX12_areLooksAlike_66 : decode cX12_areLooksAlike 66 = .ok (.iaload, 1) := by decide +kernel
theorem dX12_areLooksAlike_67 : decode cX12_areLooksAlike 67 = .ok (.iload 4, 2) := by decide +kernel
theorem dX12_areLooksAlike_69 : decode cX12_areLooksAlike 69 = .ok (.if_icmp .eq 9, 3) := by decide +kernel
theorem dX12_areLooksAlike_72 : decode cX12_areLooksAlike 72 = .ok (.iinc 5 1, 3) := by decide +kernel
theorem dX12_areLooksAlike_75 : decode cX12_areLooksAlike 75 = .ok (.goto (-47), 3) := by decide +kernel
theorem dX12_areLooksAlike_78 : decode cX12_areLooksAlike 78 = .ok (.iload 6, 2) := by decide +kernel
theorem dX12_areLooksAlike_80 : decode cX12_areLooksAlike 80 = .ok (.aload_n 0, 1) := by decide +kernel
theorem dX12_areLooksAlike_81 : decode cX12_areLooksAlike 81 = .ok (.getfield 17, 3) := by decide +kernel
theorem dX12_areLooksAlike_84 : decode cX12_areLooksAlike 84 = .ok (.iload_n 2, 1) := by decide +kernel
theorem dX12_areLooksAlike_85 : decode cX12_areLooksAlike 85 = .ok (.iaload, 1) := by decide +kernel
theorem dX12_areLooksAlike_86 : decode cX12_areLooksAlike 86 = .ok (.if_icmp .ge 42, 3) := by decide +kernel
theorem dX12_areLooksAlike_89 : decode cX12_areLooksAlike 89 = .ok (.aload_n 0, 1) := by decide +kernel
theorem dX12_areLooksAlike_90 : decode cX12_areLooksAlike 90 = .ok (.getfield 20, 3) := by decide +kernel
theorem dX12_areLooksAlike_93 : decode cX12_areLooksAlike 93 = .ok (.bipush 24, 2) := by decide +kernel
theorem dX12_areLooksAlike_95 : decode cX12_areLooksAlike 95 = .ok (.iload_n 2, 1) := by decide +kernel
theorem dX12_areLooksAlike_96 : decode cX12_areLooksAlike 96 = .ok (.imul, 1) := by decide +kernel
theorem dX12_areLooksAlike_97 : decode cX12_areLooksAlike 97 = .ok (.iload 6, 2) := by decide +kernel
theorem dX12_areLooksAlike_99 : decode cX12_areLooksAlike 99 = .ok (.iadd, 1) := by decide +kernel
theorem dX12_areLooksAlike_100 : decode cX12_areLooksAlike 100 = .ok (.iaload, 1) := by decide +kernel
theorem dX12_areLooksAlike_101 : decode cX12_areLooksAlike 101 = .ok (.iload_n 3, 1) := by decide +kernel
theorem dX12_areLooksAlike_102 : decode cX12_areLooksAlike 102 = .ok (.if_icmp .eq 26, 3) := by decide +kernel
theorem dX12_areLooksAlike_105 : decode cX12_areLooksAlike 105 = .ok (.aload_n 0, 1) := by decide +kernel
theorem dX12_areLooksAlike_106 : decode cX12_areLooksAlike 106 = .ok (.getfield 20, 3) := by decide +kernel
theorem dX12_areLooksAlike_109 : decode cX12_areLooksAlike 109 = .ok (.bipush 24, 2) := by decide +kernel
theorem dX12_areLooksAlike_111 : decode cX12_areLooksAlike 111 = .ok (.iload_n 2, 1) := by decide +kernel
theorem dX12_areLooksAlike_112 : decode cX12_areLooksAlike 112 = .ok (.imul, 1) := by decide +kernel
theorem dX12_areLooksAlike_113 : decode cX12_areLooksAlike 113 = .ok (.iload 6, 2) := by decide +kernel
theorem dX12_areLooksAlike_115 : decode cX12_areLooksAlike 115 = .ok (.iadd, 1) := by decide +kernel
theorem dX12_areLooksAlike_116 : decode cX12_areLooksAlike 116 = .ok (.iaload, 1) := by decide +kernel
theorem dX12_areLooksAlike_117 : decode cX12_areLooksAlike 117 = .ok (.iload 4, 2) := by decide +kernel
theorem dX12_areLooksAlike_119 : decode cX12_areLooksAlike 119 = .ok (.if_icmp .eq 9, 3) := by decide +kernel
theorem dX12_areLooksAlike_122 : decode cX12_areLooksAlike 122 = .ok (.iinc 6 1, 3) := by decide +kernel
theorem dX12_areLooksAlike_125 : decode cX12_areLooksAlike 125 = .ok (.goto (-47), 3) := by decide +kernel
theorem dX12_areLooksAlike_128 : decode cX12_areLooksAlike 128 = .ok (.iload 5, 2) := by decide +kernel
theorem dX12_areLooksAlike_130 : decode cX12_areLooksAlike 130 = .ok (.aload_n 0, 1) := by decide +kernel
theorem dX12_areLooksAlike_131 : decode cX12_areLooksAlike 131 = .ok (.getfield 17, 3) := by decide +kernel
theorem dX12_areLooksAlike_134 : decode cX12_areLooksAlike 134 = .ok (.iload_n 1, 1) := by decide +kernel
theorem dX12_areLooksAlike_135 : decode cX12_areLooksAlike 135 = .ok (.iaload, 1) := by decide +kernel
theorem dX12_areLooksAlike_136 : decode cX12_areLooksAlike 136 = .ok (.if_icmp .ge 18, 3) := by decide +kernel
theorem dX12_areLooksAlike_139 : decode cX12_areLooksAlike 139 = .ok (.aload_n 0, 1) := by decide +kernel
theorem dX12_areLooksAlike_140 : decode cX12_areLooksAlike 140 = .ok (.getfield 20, 3) := by decide +kernel
theorem dX12_areLooksAlike_143 : decode cX12_areLooksAlike 143 = .ok (.bipush 24, 2) := by decide +kernel
theorem dX12_areLooksAlike_145 : decode cX12_areLooksAlike 145 = .ok (.iload_n 1, 1) := by decide +kernel
theorem dX12_areLooksAlike_146 : decode cX12_areLooksAlike 146 = .ok (.imul, 1) := by decide +kernel
theorem dX12_areLooksAlike_147 : decode cX12_areLooksAlike 147 = .ok (.iload 5, 2) := by decide +kernel
theorem dX12_areLooksAlike_149 : decode cX12_areLooksAlike 149 = .ok (.iadd, 1) := by decide +kernel
theorem dX12_areLooksAlike_150 : decode cX12_areLooksAlike 150 = .ok (.iaload, 1) := by decide +kernel
theorem dX12_areLooksAlike_151 : decode cX12_areLooksAlike 151 = .ok (.goto 4, 3) := by decide +kernel
theorem dX12_areLooksAlike_154 : decode cX12_areLooksAlike 154 = .ok (.iconst (-1), 1) := by decide +kernel
theorem dX12_areLooksAlike_155 : decode cX12_areLooksAlike 155 = .ok (.istore 7, 2) := by decide +kernel
theorem dX12_areLooksAlike_157 : decode cX12_areLooksAlike 157 = .ok (.iload 6, 2) := by decide +kernel
theorem dX12_areLooksAlike_159 : decode cX12_areLooksAlike 159 = .ok (.aload_n 0, 1) := by decide +kernel
theorem dX12_areLooksAlike_160 : decode cX12_areLooksAlike 160 = .ok (.getfield 17, 3) := by decide +kernel
theorem dX12_areLooksAlike_163 : decode cX12_areLooksAlike 163 = .ok (.iload_n 2, 1) := by decide +kernel
theorem dX12_areLooksAlike_164 : decode cX12_areLooksAlike 164 = .ok (.iaload, 1) := by decide +kernel
theorem dX12_areLooksAlike_165 : decode cX12_areLooksAlike 165 = .ok (.if_icmp .ge 18, 3) := by decide +kernel
theorem dX12_areLooksAlike_168 : decode cX12_areLooksAlike 168 = .ok (.aload_n 0, 1) := by decide +kernel
theorem dX12_areLooksAlike_169 : decode cX12_areLooksAlike 169 = .ok (.getfield 20, 3) := by decide +kernel
theorem dX12_areLooksAlike_172 : decode cX12_areLooksAlike 172 = .ok (.bipush 24, 2) := by decide +kernel
theorem dX12_areLooksAlike_174 : decode cX12_areLooksAlike 174 = .ok (.iload_n 2, 1) := by decide +kernel
theorem dX12_areLooksAlike_175 : decode cX12_areLooksAlike 175 = .ok (.imul, 1) := by decide +kernel
theorem dX12_areLooksAlike_176 : decode cX12_areLooksAlike 176 = .ok (.iload 6, 2) := by decide +kernel
theorem dX12_areLooksAlike_178 : decode cX12_areLooksAlike 178 = .ok (.iadd, 1) := by decide +kernel
theorem dX12_areLooksAlike_179 : decode cX12_areLooksAlike 179 = .ok (.iaload, 1) := by decide +kernel
theorem dX12_areLooksAlike_180 : decode cX12_areLooksAlike 180 = .ok (.goto 4, 3) := by decide +kernel
theorem dX12_areLooksAlike_183 : decode cX12_areLooksAlike 183 = .ok (.iconst (-1), 1) := by decide +kernel
theorem dX12_areLooksAlike_184 : decode cX12_areLooksAlike 184 = .ok (.istore 8, 2) := by decide +kernel
theorem dX12_areLooksAlike_186 : decode cX12_areLooksAlike 186 = .ok (.iload 7, 2) := by decide +kernel
theorem dX12_areLooksAlike_188 : decode cX12_areLooksAlike 188 = .ok (.iload 8, 2) := by decide +kernel
theorem dX12_areLooksAlike_190 : decode cX12_areLooksAlike 190 = .ok (.if_icmp .eq 5, 3) := by decide +kernel
theorem dX12_areLooksAlike_193 : decode cX12_areLooksAlike 193 = .ok (.iconst 0, 1) := by decide +kernel
theorem dX12_areLooksAlike_194 : decode cX12_areLooksAlike 194 = .ok (.ireturn, 1) := by decide +kernel
theorem dX12_areLooksAlike_195 : decode cX12_areLooksAlike 195 = .ok (.iinc 5 1, 3) := by decide +kernel
theorem dX12_areLooksAlike_198 : decode cX12_areLooksAlike 198 = .ok (.iinc 6 1, 3) := by decide +kernel
theorem dX12_areLooksAlike_201 : decode cX12_areLooksAlike 201 = .ok (.goto (-195), 3) := by decide +kernel
theorem dX12_areLooksAlike_204 : decode cX12_areLooksAlike 204 = .ok (.iconst 1, 1) := by decide +kernel
theorem dX12_areLooksAlike_205 : decode cX12_areLooksAlike 205 = .ok (.ireturn, 1) := by decide +kernel
theorem dX12_apartOf_0 : decode cX12_apartOf 0 = .ok (.iconst 0, 1) := by decide +kernel
theorem dX12_apartOf_1 : decode cX12_apartOf 1 = .ok (.istore_n 3, 1) := by decide +kernel
theorem dX12_apartOf_2 : decode cX12_apartOf 2 = .ok (.iload_n 3, 1) := by decide +kernel
theorem dX12_apartOf_3 : decode cX12_apartOf 3 = .ok (.aload_n 0, 1) := by decide +kernel
theorem dX12_apartOf_4 : decode cX12_apartOf 4 = .ok (.getfield 7, 3) := by decide +kernel
theorem dX12_apartOf_7 : decode cX12_apartOf 7 = .ok (.if_icmp .ge 57, 3) := by decide +kernel
theorem dX12_apartOf_10 : decode cX12_apartOf 10 = .ok (.iload_n 3, 1) := by decide +kernel
theorem dX12_apartOf_11 : decode cX12_apartOf 11 = .ok (.istore 4, 2) := by decide +kernel
theorem dX12_apartOf_13 : decode cX12_apartOf 13 = .ok (.iload 4, 2) := by decide +kernel
theorem dX12_apartOf_15 : decode cX12_apartOf 15 = .ok (.aload_n 0, 1) := by decide +kernel
theorem dX12_apartOf_16 : decode cX12_apartOf 16 = .ok (.getfield 7, 3) := by decide +kernel
theorem dX12_apartOf_19 : decode cX12_apartOf 19 = .ok (.if_icmp .ge 39, 3) := by decide +kernel
theorem dX12_apartOf_22 : decode cX12_apartOf 22 = .ok (.aload_n 0, 1) := by decide +kernel
theorem dX12_apartOf_23 : decode cX12_apartOf 23 = .ok (.iload_n 3, 1) := by decide +kernel
theorem dX12_apartOf_24 : decode cX12_apartOf 24 = .ok (.iload 4, 2) := by decide +kernel
theorem dX12_apartOf_26 : decode cX12_apartOf 26 = .ok (.invokevirtual 168, 3) := by decide +kernel
theorem dX12_apartOf_29 : decode cX12_apartOf 29 = .ok (.ifCond .ne 23, 3) := by decide +kernel
theorem dX12_apartOf_32 : decode cX12_apartOf 32 = .ok (.aload_n 0, 1) := by decide +kernel
theorem dX12_apartOf_33 : decode cX12_apartOf 33 = .ok (.iload_n 1, 1) := by decide +kernel
theorem dX12_apartOf_34 : decode cX12_apartOf 34 = .ok (.iload_n 2, 1) := by decide +kernel
theorem dX12_apartOf_35 : decode cX12_apartOf 35 = .ok (.iload_n 3, 1) := by decide +kernel
theorem dX12_apartOf_36 : decode cX12_apartOf 36 = .ok (.iload 4, 2) := by decide +kernel
theorem dX12_apartOf_38 : decode cX12_apartOf 38 = .ok (.invokevirtual 193, 3) := by decide +kernel
theorem dX12_apartOf_41 : decode cX12_apartOf 41 = .ok (.ifCond .ne 11, 3) := by decide +kernel
theorem dX12_apartOf_44 : decode cX12_apartOf 44 = .ok (.bipush 8, 2) := by decide +kernel
theorem dX12_apartOf_46 : decode cX12_apartOf 46 = .ok (.iload_n 3, 1) := by decide +kernel
theorem dX12_apartOf_47 : decode cX12_apartOf 47 = .ok (.imul, 1) := by decide +kernel
theorem dX12_apartOf_48 : decode cX12_apartOf 48 = .ok (.iload 4, 2) := by decide +kernel
theorem dX12_apartOf_50 : decode cX12_apartOf 50 = .ok (.iadd, 1) := by decide +kernel
theorem dX12_apartOf_51 : decode cX12_apartOf 51 = .ok (.ireturn, 1) := by decide +kernel
theorem dX12_apartOf_52 : decode cX12_apartOf 52 = .ok (.iinc 4 1, 3) := by decide +kernel
theorem dX12_apartOf_55 : decode cX12_apartOf 55 = .ok (.goto (-42), 3) := by decide +kernel
theorem dX12_apartOf_58 : decode cX12_apartOf 58 = .ok (.iinc 3 1, 3) := by decide +kernel
theorem dX12_apartOf_61 : decode cX12_apartOf 61 = .ok (.goto (-59), 3) := by decide +kernel
theorem dX12_apartOf_64 : decode cX12_apartOf 64 = .ok (.iconst (-1), 1) := by decide +kernel
theorem dX12_apartOf_65 : decode cX12_apartOf 65 = .ok (.ireturn, 1) := by decide +kernel
theorem dX12_same_0 : decode cX12_same 0 = .ok (.iload_n 1, 1) := by decide +kernel
theorem dX12_same_1 : decode cX12_same 1 = .ok (.invokestatic 172, 3) := by decide +kernel
theorem dX12_same_4 : decode cX12_same 4 = .ok (.ifCond .eq 10, 3) := by decide +kernel
theorem dX12_same_7 : decode cX12_same 7 = .ok (.iload_n 2, 1) := by decide +kernel
theorem dX12_same_8 : decode cX12_same 8 = .ok (.invokestatic 172, 3) := by decide +kernel
theorem dX12_same_11 : decode cX12_same 11 = .ok (.ifCond .ne 6, 3) := by decide +kernel
theorem dX12_same_14 : decode cX12_same 14 = .ok (.bipush (-2), 2) := by decide +kernel
theorem dX12_same_16 : decode cX12_same 16 = .ok (.ireturn, 1) := by decide +kernel
theorem dX12_same_17 : decode cX12_same 17 = .ok (.aload_n 0, 1) := by decide +kernel
theorem dX12_same_18 : decode cX12_same 18 = .ok (.iload_n 1, 1) := by decide +kernel
theorem dX12_same_19 : decode cX12_same 19 = .ok (.iload_n 2, 1) := by decide +kernel
theorem dX12_same_20 : decode cX12_same 20 = .ok (.invokevirtual 197, 3) := by decide +kernel
theorem dX12_same_23 : decode cX12_same 23 = .ok (.iconst (-1), 1) := by decide +kernel
theorem dX12_same_24 : decode cX12_same 24 = .ok (.if_icmp .ne 7, 3) := by decide +kernel
theorem dX12_same_27 : decode cX12_same 27 = .ok (.iconst 1, 1) := by decide +kernel
theorem dX12_same_28 : decode cX12_same 28 = .ok (.goto 4, 3) := by decide +kernel
theorem dX12_same_31 : decode cX12_same 31 = .ok (.iconst 0, 1) := by decide +kernel
theorem dX12_same_32 : decode cX12_same 32 = .ok (.ireturn, 1) := by decide +kernel
theorem dX12_apart_0 : decode cX12_apart 0 = .ok (.iload_n 1, 1) := by decide +kernel
theorem dX12_apart_1 : decode cX12_apart 1 = .ok (.invokestatic 172, 3) := by decide +kernel
theorem dX12_apart_4 : decode cX12_apart 4 = .ok (.ifCond .eq 19, 3) := by decide +kernel
theorem dX12_apart_7 : decode cX12_apart 7 = .ok (.iload_n 2, 1) := by decide +kernel
theorem dX12_apart_8 : decode cX12_apart 8 = .ok (.invokestatic 172, 3) := by decide +kernel
theorem dX12_apart_11 : decode cX12_apart 11 = .ok (.ifCond .eq 12, 3) := by decide +kernel
theorem dX12_apart_14 : decode cX12_apart 14 = .ok (.aload_n 0, 1) := by decide +kernel
theorem dX12_apart_15 : decode cX12_apart 15 = .ok (.iload_n 1, 1) := by decide +kernel
theorem dX12_apart_16 : decode cX12_apart 16 = .ok (.iload_n 2, 1) := by decide +kernel
theorem dX12_apart_17 : decode cX12_apart 17 = .ok (.invokevirtual 197, 3) := by decide +kernel
theorem dX12_apart_20 : decode cX12_apart 20 = .ok (.goto 5, 3) := by decide +kernel
theorem dX12_apart_23 : decode cX12_apart 23 = .ok (.bipush (-2), 2) := by decide +kernel
theorem dX12_apart_25 : decode cX12_apart 25 = .ok (.ireturn, 1) := by decide +kernel
theorem dX12_layer_0 : decode cX12_layer 0 = .ok (.iload_n 1, 1) := by decide +kernel
theorem dX12_layer_1 : decode cX12_layer 1 = .ok (.invokestatic 172, 3) := by decide +kernel
theorem dX12_layer_4 : decode cX12_layer 4 = .ok (.ifCond .ne 6, 3) := by decide +kernel
theorem dX12_layer_7 : decode cX12_layer 7 = .ok (.bipush (-2), 2) := by decide +kernel
theorem dX12_layer_9 : decode cX12_layer 9 = .ok (.ireturn, 1) := by decide +kernel
theorem dX12_layer_10 : decode cX12_layer 10 = .ok (.iload_n 2, 1) := by decide +kernel
theorem dX12_layer_11 : decode cX12_layer 11 = .ok (.iconst (-1), 1) := by decide +kernel
theorem dX12_layer_12 : decode cX12_layer 12 = .ok (.if_icmp .ge 6, 3) := by decide +kernel
theorem dX12_layer_15 : decode cX12_layer 15 = .ok (.bipush (-3), 2) := by decide +kernel
theorem dX12_layer_17 : decode cX12_layer 17 = .ok (.ireturn, 1) := by decide +kernel
theorem dX12_layer_18 : decode cX12_layer 18 = .ok (.aload_n 0, 1) := by decide +kernel
theorem dX12_layer_19 : decode cX12_layer 19 = .ok (.iload_n 1, 1) := by decide +kernel
theorem dX12_layer_20 : decode cX12_layer 20 = .ok (.aload_n 0, 1) := by decide +kernel
theorem dX12_layer_21 : decode cX12_layer 21 = .ok (.getfield 29, 3) := by decide +kernel
theorem dX12_layer_24 : decode cX12_layer 24 = .ok (.invokevirtual 186, 3) := by decide +kernel
theorem dX12_layer_27 : decode cX12_layer 27 = .ok (.aload_n 0, 1) := by decide +kernel
theorem dX12_layer_28 : decode cX12_layer 28 = .ok (.aload_n 0, 1) := by decide +kernel
theorem dX12_layer_29 : decode cX12_layer 29 = .ok (.getfield 17, 3) := by decide +kernel
theorem dX12_layer_32 : decode cX12_layer 32 = .ok (.iload_n 1, 1) := by decide +kernel
theorem dX12_layer_33 : decode cX12_layer 33 = .ok (.iaload, 1) := by decide +kernel
theorem dX12_layer_34 : decode cX12_layer 34 = .ok (.invokevirtual 179, 3) := by decide +kernel
theorem dX12_layer_37 : decode cX12_layer 37 = .ok (.aload_n 0, 1) := by decide +kernel
theorem dX12_layer_38 : decode cX12_layer 38 = .ok (.getfield 17, 3) := by decide +kernel
theorem dX12_layer_41 : decode cX12_layer 41 = .ok (.iload_n 1, 1) := by decide +kernel
theorem dX12_layer_42 : decode cX12_layer 42 = .ok (.iaload, 1) := by decide +kernel
theorem dX12_layer_43 : decode cX12_layer 43 = .ok (.istore_n 3, 1) := by decide +kernel
theorem dX12_layer_44 : decode cX12_layer 44 = .ok (.iconst 0, 1) := by decide +kernel
theorem dX12_layer_45 : decode cX12_layer 45 = .ok (.istore 4, 2) := by decide +kernel
theorem dX12_layer_47 : decode cX12_layer 47 = .ok (.iload_n 3, 1) := by decide +kernel
theorem dX12_layer_48 : decode cX12_layer 48 = .ok (.ifCond .le 122, 3) := by decide +kernel
theorem dX12_layer_51 : decode cX12_layer 51 = .ok (.iconst 0, 1) := by decide +kernel
theorem dX12_layer_52 : decode cX12_layer 52 = .ok (.istore 5, 2) := by decide +kernel
theorem dX12_layer_54 : decode cX12_layer 54 = .ok (.iconst 0, 1) := by decide +kernel
theorem dX12_layer_55 : decode cX12_layer 55 = .ok (.istore 6, 2) := by decide +kernel
theorem dX12_layer_57 : decode cX12_layer 57 = .ok (.iload 6, 2) := by decide +kernel
theorem dX12_layer_59 : decode cX12_layer 59 = .ok (.bipush 6, 2) := by decide +kernel
theorem dX12_layer_61 : decode cX12_layer 61 = .ok (.if_icmp .ge 42, 3) := by decide +kernel
theorem dX12_layer_64 : decode cX12_layer 64 = .ok (.iload 5, 2) := by decide +kernel
theorem dX12_layer_66 : decode cX12_layer 66 = .ok (.aload_n 0, 1) := by decide +kernel
theorem dX12_layer_67 : decode cX12_layer 67 = .ok (.aload_n 0, 1) := by decide +kernel
theorem dX12_layer_68 : decode cX12_layer 68 = .ok (.getfield 29, 3) := by decide +kernel
theorem dX12_layer_71 : decode cX12_layer 71 = .ok (.aload_n 0, 1) := by decide +kernel
theorem dX12_layer_72 : decode cX12_layer 72 = .ok (.getfield 17, 3) := by decide +kernel
theorem dX12_layer_75 : decode cX12_layer 75 = .ok (.iload_n 1, 1) := by decide +kernel
theorem dX12_layer_76 : decode cX12_layer 76 = .ok (.iaload, 1) := by decide +kernel
theorem dX12_layer_77 : decode cX12_layer 77 = .ok (.iload 6, 2) := by decide +kernel
theorem dX12_layer_79 : decode cX12_layer 79 = .ok (.invokevirtual 175, 3) := by decide +kernel
theorem dX12_layer_82 : decode cX12_layer 82 = .ok (.iconst (-1), 1) := by decide +kernel
theorem dX12_layer_83 : decode cX12_layer 83 = .ok (.if_icmp .eq 10, 3) := by decide +kernel
theorem dX12_layer_86 : decode cX12_layer 86 = .ok (.iconst 1, 1) := by decide +kernel
theorem dX12_layer_87 : decode cX12_layer 87 = .ok (.iload 6, 2) := by decide +kernel
theorem dX12_layer_89 : decode cX12_layer 89 = .ok (.ishl, 1) := by decide +kernel
theorem dX12_layer_90 : decode cX12_layer 90 = .ok (.goto 4, 3) := by decide +kernel
theorem dX12_layer_93 : decode cX12_layer 93 = .ok (.iconst 0, 1) := by decide +kernel
theorem dX12_layer_94 : decode cX12_layer 94 = .ok (.ior, 1) := by decide +kernel
theorem dX12_layer_95 : decode cX12_layer 95 = .ok (.istore 5, 2) := by decide +kernel
theorem dX12_layer_97 : decode cX12_layer 97 = .ok (.iinc 6 1, 3) := by decide +kernel
theorem dX12_layer_100 : decode cX12_layer 100 = .ok (.goto (-43), 3) := by decide +kernel
theorem dX12_layer_103 : decode cX12_layer 103 = .ok (.iconst 0, 1) := by decide +kernel
theorem dX12_layer_104 : decode cX12_layer 104 = .ok (.istore 6, 2) := by decide +kernel
theorem dX12_layer_106 : decode cX12_layer 106 = .ok (.iload 6, 2) := by decide +kernel
theorem dX12_layer_108 : decode cX12_layer 108 = .ok (.bipush 6, 2) := by decide +kernel
theorem dX12_layer_110 : decode cX12_layer 110 = .ok (.if_icmp .ge 45, 3) := by decide +kernel
theorem dX12_layer_113 : decode cX12_layer 113 = .ok (.iload 5, 2) := by decide +kernel
theorem dX12_layer_115 : decode cX12_layer 115 = .ok (.iload 6, 2) := by decide +kernel
theorem dX12_layer_117 : decode cX12_layer 117 = .ok (.ishr, 1) := by decide +kernel
theorem dX12_layer_118 : decode cX12_layer 118 = .ok (.iconst 1, 1) := by decide +kernel
theorem dX12_layer_119 : decode cX12_layer 119 = .ok (.iand, 1) := by decide +kernel
theorem dX12_layer_120 : decode cX12_layer 120 = .ok (.iconst 1, 1) := by decide +kernel
theorem dX12_layer_121 : decode cX12_layer 121 = .ok (.if_icmp .ne 28, 3) := by decide +kernel
theorem dX12_layer_124 : decode cX12_layer 124 = .ok (.aload_n 0, 1) := by decide +kernel
theorem dX12_layer_125 : decode cX12_layer 125 = .ok (.getfield 38, 3) := by decide +kernel
theorem dX12_layer_128 : decode cX12_layer 128 = .ok (.aload_n 0, 1) := by decide +kernel
theorem dX12_layer_129 : decode cX12_layer 129 = .ok (.aload_n 0, 1) := by decide +kernel
theorem dX12_layer_130 : decode cX12_layer 130 = .ok (.getfield 29, 3) := by decide +kernel
theorem dX12_layer_133 : decode cX12_layer 133 = .ok (.aload_n 0, 1) := by decide +kernel
theorem dX12_layer_134 : decode cX12_layer 134 = .ok (.getfield 17, 3) := by decide +kernel
theorem dX12_layer_137 : decode cX12_layer 137 = .ok (.iload_n 1, 1) := by decide +kernel
theorem dX12_layer_138 : decode cX12_layer 138 = .ok (.iaload, 1) := by decide +kernel
theorem dX12_layer_139 : decode cX12_layer 139 = .ok (.iload 6, 2) := by decide +kernel
theorem dX12_layer_141 : decode cX12_layer 141 = .ok (.invokevirtual 175, 3) := by decide +kernel
theorem dX12_layer_144 : decode cX12_layer 144 = .ok (.iconst 1, 1) := by decide +kernel
theorem dX12_layer_145 : decode cX12_layer 145 = .ok (.bastore, 1) := by decide +kernel
theorem dX12_layer_146 : decode cX12_layer 146 = .ok (.iinc 3 (-1), 3) := by decide +kernel
theorem dX12_layer_149 : decode cX12_layer 149 = .ok (.iinc 6 1, 3) := by decide +kernel
theorem dX12_layer_152 : decode cX12_layer 152 = .ok (.goto (-46), 3) := by decide +kernel
theorem dX12_layer_155 : decode cX12_layer 155 = .ok (.iload 4, 2) := by decide +kernel
theorem dX12_layer_157 : decode cX12_layer 157 = .ok (.iload_n 2, 1) := by decide +kernel
theorem dX12_layer_158 : decode cX12_layer 158 = .ok (.if_icmp .ne 6, 3) := by decide +kernel
theorem dX12_layer_161 : decode cX12_layer 161 = .ok (.iload 5, 2) := by decide +kernel
theorem dX12_layer_163 : decode cX12_layer 163 = .ok (.ireturn, 1) := by decide +kernel
theorem dX12_layer_164 : decode cX12_layer 164 = .ok (.iinc 4 1, 3) := by decide +kernel
theorem dX12_layer_167 : decode cX12_layer 167 = .ok (.goto (-120), 3) := by decide +kernel
theorem dX12_layer_170 : decode cX12_layer 170 = .ok (.iload_n 2, 1) := by decide +kernel
theorem dX12_layer_171 : decode cX12_layer 171 = .ok (.iconst (-1), 1) := by decide +kernel
theorem dX12_layer_172 : decode cX12_layer 172 = .ok (.if_icmp .ne 8, 3) := by decide +kernel
theorem dX12_layer_175 : decode cX12_layer 175 = .ok (.iload 4, 2) := by decide +kernel
theorem dX12_layer_177 : decode cX12_layer 177 = .ok (.goto 4, 3) := by decide +kernel
theorem dX12_layer_180 : decode cX12_layer 180 = .ok (.iconst (-1), 1) := by decide +kernel
theorem dX12_layer_181 : decode cX12_layer 181 = .ok (.ireturn, 1) := by decide +kernel
theorem dX12_ahead_0 : decode cX12_ahead 0 = .ok (.iload_n 1, 1) := by decide +kernel
theorem dX12_ahead_1 : decode cX12_ahead 1 = .ok (.invokestatic 172, 3) := by decide +kernel
theorem dX12_ahead_4 : decode cX12_ahead 4 = .ok (.ifCond .ne 6, 3) := by decide +kernel
theorem dX12_ahead_7 : decode cX12_ahead 7 = .ok (.bipush (-2), 2) := by decide +kernel
theorem dX12_ahead_9 : decode cX12_ahead 9 = .ok (.ireturn, 1) := by decide +kernel
theorem dX12_ahead_10 : decode cX12_ahead 10 = .ok (.aload_n 0, 1) := by decide +kernel
theorem dX12_ahead_11 : decode cX12_ahead 11 = .ok (.getfield 17, 3) := by decide +kernel
theorem dX12_ahead_14 : decode cX12_ahead 14 = .ok (.iload_n 1, 1) := by decide +kernel
theorem dX12_ahead_15 : decode cX12_ahead 15 = .ok (.iaload, 1) := by decide +kernel
theorem dX12_ahead_16 : decode cX12_ahead 16 = .ok (.istore 4, 2) := by decide +kernel
theorem dX12_ahead_18 : decode cX12_ahead 18 = .ok (.iload_n 2, 1) := by decide +kernel
theorem dX12_ahead_19 : decode cX12_ahead 19 = .ok (.iconst 0, 1) := by decide +kernel
theorem dX12_ahead_20 : decode cX12_ahead 20 = .ok (.iload 4, 2) := by decide +kernel
theorem dX12_ahead_22 : decode cX12_ahead 22 = .ok (.iconst 1, 1) := by decide +kernel
theorem dX12_ahead_23 : decode cX12_ahead 23 = .ok (.isub, 1) := by decide +kernel
theorem dX12_ahead_24 : decode cX12_ahead 24 = .ok (.invokestatic 83, 3) := by decide +kernel
theorem dX12_ahead_27 : decode cX12_ahead 27 = .ok (.ifCond .eq 15, 3) := by decide +kernel
theorem dX12_ahead_30 : decode cX12_ahead 30 = .ok (.iload_n 3, 1) := by decide +kernel
theorem dX12_ahead_31 : decode cX12_ahead 31 = .ok (.iconst 0, 1) := by decide +kernel
theorem dX12_ahead_32 : decode cX12_ahead 32 = .ok (.iload 4, 2) := by decide +kernel
theorem dX12_ahead_34 : decode cX12_ahead 34 = .ok (.iconst 1, 1) := by decide +kernel
theorem dX12_ahead_35 : decode cX12_ahead 35 = .ok (.isub, 1) := by decide +kernel
theorem dX12_ahead_36 : decode cX12_ahead 36 = .ok (.invokestatic 83, 3) := by decide +kernel
theorem dX12_ahead_39 : decode cX12_ahead 39 = .ok (.ifCond .ne 6, 3) := by decide +kernel
theorem dX12_ahead_42 : decode cX12_ahead 42 = .ok (.bipush (-3), 2) := by decide +kernel
theorem dX12_ahead_44 : decode cX12_ahead 44 = .ok (.ireturn, 1) := by decide +kernel
theorem dX12_ahead_45 : decode cX12_ahead 45 = .ok (.iload 4, 2) := by decide +kernel
theorem dX12_ahead_47 : decode cX12_ahead 47 = .ok (.iconst 1, 1) := by decide +kernel
theorem dX12_ahead_48 : decode cX12_ahead 48 = .ok (.isub, 1) := by decide +kernel
theorem dX12_ahead_49 : decode cX12_ahead 49 = .ok (.istore 5, 2) := by decide +kernel
theorem dX12_ahead_51 : decode cX12_ahead 51 = .ok (.iload 5, 2) := by decide +kernel
theorem dX12_ahead_53 : decode cX12_ahead 53 = .ok (.ifCond .lt 148, 3) := by decide +kernel
theorem dX12_ahead_56 : decode cX12_ahead 56 = .ok (.iconst 0, 1) := by decide +kernel
theorem dX12_ahead_57 : decode cX12_ahead 57 = .ok (.istore 6, 2) := by decide +kernel
theorem dX12_ahead_59 : decode cX12_ahead 59 = .ok (.iload 6, 2) := by decide +kernel
theorem dX12_ahead_61 : decode cX12_ahead 61 = .ok (.iload 4, 2) := by decide +kernel
theorem dX12_ahead_63 : decode cX12_ahead 63 = .ok (.if_icmp .ge 132, 3) := by decide +kernel
theorem dX12_ahead_66 : decode cX12_ahead 66 = .ok (.iload 5, 2) := by decide +kernel
theorem dX12_ahead_68 : decode cX12_ahead 68 = .ok (.iload 6, 2) := by decide +kernel
theorem dX12_ahead_70 : decode cX12_ahead 70 = .ok (.if_icmp .ge 38, 3) := by decide +kernel
theorem dX12_ahead_73 : decode cX12_ahead 73 = .ok (.aload_n 0, 1) := by decide +kernel
theorem dX12_ahead_74 : decode cX12_ahead 74 = .ok (.aload_n 0, 1) := by decide +kernel
theorem dX12_ahead_75 : decode cX12_ahead 75 = .ok (.getfield 20, 3) := by decide +kernel
theorem dX12_ahead_78 : decode cX12_ahead 78 = .ok (.bipush 24, 2) := by decide +kernel
theorem dX12_ahead_80 : decode cX12_ahead 80 = .ok (.iload_n 1, 1) := by decide +kernel
theorem dX12_ahead_81 : decode cX12_ahead 81 = .ok (.imul, 1) := by decide +kernel
theorem dX12_ahead_82 : decode cX12_ahead 82 = .ok (.iload 5, 2) := by decide +kernel
theorem dX12_ahead_84 : decode cX12_ahead 84 = .ok (.iadd, 1) := by decide +kernel
theorem dX12_ahead_85 : decode cX12_ahead 85 = .ok (.iaload, 1) := by decide +kernel
theorem dX12_ahead_86 : decode cX12_ahead 86 = .ok (.aload_n 0, 1) := by decide +kernel
theorem dX12_ahead_87 : decode cX12_ahead 87 = .ok (.getfield 20, 3) := by decide +kernel
theorem dX12_ahead_90 : decode cX12_ahead 90 = .ok (.bipush 24, 2) := by decide +kernel
theorem dX12_ahead_92 : decode cX12_ahead 92 = .ok (.iload_n 1, 1) := by decide +kernel
theorem dX12_ahead_93 : decode cX12_ahead 93 = .ok (.imul, 1) := by decide +kernel
theorem dX12_ahead_94 : decode cX12_ahead 94 = .ok (.iload 6, 2) := by decide +kernel
theorem dX12_ahead_96 : decode cX12_ahead 96 = .ok (.iadd, 1) := by decide +kernel
theorem dX12_ahead_97 : decode cX12_ahead 97 = .ok (.iaload, 1) := by decide +kernel
theorem dX12_ahead_98 : decode cX12_ahead 98 = .ok (.invokevirtual 168, 3) := by decide +kernel
theorem dX12_ahead_101 : decode cX12_ahead 101 = .ok (.ifCond .ne 7, 3) := by decide +kernel
theorem dX12_ahead_104 : decode cX12_ahead 104 = .ok (.iconst 1, 1) := by decide +kernel
theorem dX12_ahead_105 : decode cX12_ahead 105 = .ok (.goto 4, 3) := by decide +kernel
theorem dX12_ahead_108 : decode cX12_ahead 108 = .ok (.iconst 0, 1) := by decide +kernel
theorem dX12_ahead_109 : decode cX12_ahead 109 = .ok (.istore 7, 2) := by decide +kernel
theorem dX12_ahead_111 : decode cX12_ahead 111 = .ok (.iload 5, 2) := by decide +kernel
theorem dX12_ahead_113 : decode cX12_ahead 113 = .ok (.iconst 1, 1) := by decide +kernel
theorem dX12_ahead_114 : decode cX12_ahead 114 = .ok (.iadd, 1) := by decide +kernel
theorem dX12_ahead_115 : decode cX12_ahead 115 = .ok (.istore 8, 2) := by decide +kernel
theorem dX12_ahead_117 : decode cX12_ahead 117 = .ok (.iload 8, 2) := by decide +kernel
theorem dX12_ahead_119 : decode cX12_ahead 119 = .ok (.iload 6, 2) := by decide +kernel
theorem dX12_ahead_121 : decode cX12_ahead 121 = .ok (.if_icmp .ge 53, 3) := by decide +kernel
theorem dX12_ahead_124 : decode cX12_ahead 124 = .ok (.iload 7, 2) := by decide +kernel
theorem dX12_ahead_126 : decode cX12_ahead 126 = .ok (.ifCond .ne 35, 3) := by decide +kernel
theorem dX12_ahead_129 : decode cX12_ahead 129 = .ok (.aload_n 0, 1) := by decide +kernel
theorem dX12_ahead_130 : decode cX12_ahead 130 = .ok (.getfield 42, 3) := by decide +kernel
theorem dX12_ahead_133 : decode cX12_ahead 133 = .ok (.bipush 24, 2) := by decide +kernel
theorem dX12_ahead_135 : decode cX12_ahead 135 = .ok (.iload 5, 2) := by decide +kernel
theorem dX12_ahead_137 : decode cX12_ahead 137 = .ok (.imul, 1) := by decide +kernel
theorem dX12_ahead_138 : decode cX12_ahead 138 = .ok (.iload 8, 2) := by decide +kernel
theorem dX12_ahead_140 : decode cX12_ahead 140 = .ok (.iadd, 1) := by decide +kernel
theorem dX12_ahead_141 : decode cX12_ahead 141 = .ok (.baload, 1) := by decide +kernel
theorem dX12_ahead_142 : decode cX12_ahead 142 = .ok (.ifCond .eq 23, 3) := by decide +kernel
theorem dX12_ahead_145 : decode cX12_ahead 145 = .ok (.aload_n 0, 1) := by decide +kernel
theorem dX12_ahead_146 : decode cX12_ahead 146 = .ok (.getfield 42, 3) := by decide +kernel
theorem dX12_ahead_149 : decode cX12_ahead 149 = .ok (.bipush 24, 2) := by decide +kernel
theorem dX12_ahead_151 : decode cX12_ahead 151 = .ok (.iload 8, 2) := by decide +kernel
theorem dX12_ahead_153 : decode cX12_ahead 153 = .ok (.imul, 1) := by decide +kernel
theorem dX12_ahead_154 : decode cX12_ahead 154 = .ok (.iload 6, 2) := by decide +kernel
theorem dX12_ahead_156 : decode cX12_ahead 156 = .ok (.iadd, 1) := by decide +kernel
theorem dX12_ahead_157 : decode cX12_ahead 157 = .ok (.baload, 1) := by decide +kernel
theorem dX12_ahead_158 : decode cX12_ahead 158 = .ok (.ifCond .eq 7, 3) := by decide +kernel
theorem dX12_ahead_161 : decode cX12_ahead 161 = .ok (.iconst 1, 1) := by decide +kernel
theorem dX12_ahead_162 : decode cX12_ahead 162 = .ok (.goto 4, 3) := by decide +kernel
theorem dX12_ahead_165 : decode cX12_ahead 165 = .ok (.iconst 0, 1) := by decide +kernel
theorem dX12_ahead_166 : decode cX12_ahead 166 = .ok (.istore 7, 2) := by decide +kernel
theorem dX12_ahead_168 : decode cX12_ahead 168 = .ok (.iinc 8 1, 3) := by decide +kernel
theorem dX12_ahead_171 : decode cX12_ahead 171 = .ok (.goto (-54), 3) := by decide +kernel
theorem dX12_ahead_174 : decode cX12_ahead 174 = .ok (.aload_n 0, 1) := by decide +kernel
theorem dX12_ahead_175 : decode cX12_ahead 175 = .ok (.getfield 42, 3) := by decide +kernel
theorem dX12_ahead_178 : decode cX12_ahead 178 = .ok (.bipush 24, 2) := by decide +kernel
theorem dX12_ahead_180 : decode cX12_ahead 180 = .ok (.iload 5, 2) := by decide +kernel
theorem dX12_ahead_182 : decode cX12_ahead 182 = .ok (.imul, 1) := by decide +kernel
theorem dX12_ahead_183 : decode cX12_ahead 183 = .ok (.iload 6, 2) := by decide +kernel
theorem dX12_ahead_185 : decode cX12_ahead 185 = .ok (.iadd, 1) := by decide +kernel
theorem dX12_ahead_186 : decode cX12_ahead 186 = .ok (.iload 7, 2) := by decide +kernel
theorem dX12_ahead_188 : decode cX12_ahead 188 = .ok (.bastore, 1) := by decide +kernel
theorem dX12_ahead_189 : decode cX12_ahead 189 = .ok (.iinc 6 1, 3) := by decide +kernel
theorem dX12_ahead_192 : decode cX12_ahead 192 = .ok (.goto (-133), 3) := by decide +kernel
theorem dX12_ahead_195 : decode cX12_ahead 195 = .ok (.iinc 5 (-1), 3) := by decide +kernel
theorem dX12_ahead_198 : decode cX12_ahead 198 = .ok (.goto (-147), 3) := by decide +kernel
theorem dX12_ahead_201 : decode cX12_ahead 201 = .ok (.aload_n 0, 1) := by decide +kernel
theorem dX12_ahead_202 : decode cX12_ahead 202 = .ok (.getfield 42, 3) := by decide +kernel
theorem dX12_ahead_205 : decode cX12_ahead 205 = .ok (.bipush 24, 2) := by decide +kernel
theorem dX12_ahead_207 : decode cX12_ahead 207 = .ok (.iload_n 2, 1) := by decide +kernel
theorem dX12_ahead_208 : decode cX12_ahead 208 = .ok (.imul, 1) := by decide +kernel
theorem dX12_ahead_209 : decode cX12_ahead 209 = .ok (.iload_n 3, 1) := by decide +kernel
theorem dX12_ahead_210 : decode cX12_ahead 210 = .ok (.iadd, 1) := by decide +kernel
theorem dX12_ahead_211 : decode cX12_ahead 211 = .ok (.baload, 1) := by decide +kernel
theorem dX12_ahead_212 : decode cX12_ahead 212 = .ok (.ifCond .eq 7, 3) := by decide +kernel
theorem dX12_ahead_215 : decode cX12_ahead 215 = .ok (.iconst 1, 1) := by decide +kernel
theorem dX12_ahead_216 : decode cX12_ahead 216 = .ok (.goto 4, 3) := by decide +kernel
theorem dX12_ahead_219 : decode cX12_ahead 219 = .ok (.iconst 0, 1) := by decide +kernel
theorem dX12_ahead_220 : decode cX12_ahead 220 = .ok (.ireturn, 1) := by decide +kernel
theorem dX12_power25_0 : decode cX12_power25 0 = .ok (.iconst 1, 1) := by decide +kernel
theorem dX12_power25_1 : decode cX12_power25 1 = .ok (.istore_n 1, 1) := by decide +kernel
theorem dX12_power25_2 : decode cX12_power25 2 = .ok (.iconst 0, 1) := by decide +kernel
theorem dX12_power25_3 : decode cX12_power25 3 = .ok (.istore_n 2, 1) := by decide +kernel
theorem dX12_power25_4 : decode cX12_power25 4 = .ok (.iload_n 2, 1) := by decide +kernel
theorem dX12_power25_5 : decode cX12_power25 5 = .ok (.iload_n 0, 1) := by decide +kernel
theorem dX12_power25_6 : decode cX12_power25 6 = .ok (.if_icmp .ge 14, 3) := by decide +kernel
theorem dX12_power25_9 : decode cX12_power25 9 = .ok (.bipush 25, 2) := by decide +kernel
theorem dX12_power25_11 : decode cX12_power25 11 = .ok (.iload_n 1, 1) := by decide +kernel
theorem dX12_power25_12 : decode cX12_power25 12 = .ok (.imul, 1) := by decide +kernel
theorem dX12_power25_13 : decode cX12_power25 13 = .ok (.istore_n 1, 1) := by decide +kernel
theorem dX12_power25_14 : decode cX12_power25 14 = .ok (.iinc 2 1, 3) := by decide +kernel
theorem dX12_power25_17 : decode cX12_power25 17 = .ok (.goto (-13), 3) := by decide +kernel
theorem dX12_power25_20 : decode cX12_power25 20 = .ok (.iload_n 1, 1) := by decide +kernel
theorem dX12_power25_21 : decode cX12_power25 21 = .ok (.ireturn, 1) := by decide +kernel
theorem dX12_placeOf_0 : decode cX12_placeOf 0 = .ok (.iload_n 1, 1) := by decide +kernel
theorem dX12_placeOf_1 : decode cX12_placeOf 1 = .ok (.ldc 201, 2) := by decide +kernel
theorem dX12_placeOf_3 : decode cX12_placeOf 3 = .ok (.imul, 1) := by decide +kernel
theorem dX12_placeOf_4 : decode cX12_placeOf 4 = .ok (.iconst 5, 1) := by decide +kernel
theorem dX12_placeOf_5 : decode cX12_placeOf 5 = .ok (.ishr, 1) := by decide +kernel
theorem dX12_placeOf_6 : decode cX12_placeOf 6 = .ok (.iload_n 1, 1) := by decide +kernel
theorem dX12_placeOf_7 : decode cX12_placeOf 7 = .ok (.ixor, 1) := by decide +kernel
theorem dX12_placeOf_8 : decode cX12_placeOf 8 = .ok (.ldc 202, 2) := by decide +kernel
theorem dX12_placeOf_10 : decode cX12_placeOf 10 = .ok (.iand, 1) := by decide +kernel
theorem dX12_placeOf_11 : decode cX12_placeOf 11 = .ok (.istore_n 2, 1) := by decide +kernel
theorem dX12_placeOf_12 : decode cX12_placeOf 12 = .ok (.aload_n 0, 1) := by decide +kernel
theorem dX12_placeOf_13 : decode cX12_placeOf 13 = .ok (.getfield 53, 3) := by decide +kernel
theorem dX12_placeOf_16 : decode cX12_placeOf 16 = .ok (.iload_n 2, 1) := by decide +kernel
theorem dX12_placeOf_17 : decode cX12_placeOf 17 = .ok (.iaload, 1) := by decide +kernel
theorem dX12_placeOf_18 : decode cX12_placeOf 18 = .ok (.ifCond .eq 30, 3) := by decide +kernel
theorem dX12_placeOf_21 : decode cX12_placeOf 21 = .ok (.aload_n 0, 1) := by decide +kernel
theorem dX12_placeOf_22 : decode cX12_placeOf 22 = .ok (.getfield 45, 3) := by decide +kernel
theorem dX12_placeOf_25 : decode cX12_placeOf 25 = .ok (.aload_n 0, 1) := by decide +kernel
theorem dX12_placeOf_26 : decode cX12_placeOf 26 = .ok (.getfield 53, 3) := by decide +kernel
theorem dX12_placeOf_29 : decode cX12_placeOf 29 = .ok (.iload_n 2, 1) := by decide +kernel
theorem dX12_placeOf_30 : decode cX12_placeOf 30 = .ok (.iaload, 1) := by decide +kernel
theorem dX12_placeOf_31 : decode cX12_placeOf 31 = .ok (.iconst 1, 1) := by decide +kernel
theorem dX12_placeOf_32 : decode cX12_placeOf 32 = .ok (.isub, 1) := by decide +kernel
theorem dX12_placeOf_33 : decode cX12_placeOf 33 = .ok (.iaload, 1) := by decide +kernel
theorem dX12_placeOf_34 : decode cX12_placeOf 34 = .ok (.iload_n 1, 1) := by decide +kernel
theorem dX12_placeOf_35 : decode cX12_placeOf 35 = .ok (.if_icmp .eq 13, 3) := by decide +kernel
theorem dX12_placeOf_38 : decode cX12_placeOf 38 = .ok (.iload_n 2, 1) := by decide +kernel
theorem dX12_placeOf_39 : decode cX12_placeOf 39 = .ok (.iconst 1, 1) := by decide +kernel
theorem dX12_placeOf_40 : decode cX12_placeOf 40 = .ok (.iadd, 1) := by decide +kernel
theorem dX12_placeOf_41 : decode cX12_placeOf 41 = .ok (.ldc 202, 2) := by decide +kernel
theorem dX12_placeOf_43 : decode cX12_placeOf 43 = .ok (.iand, 1) := by decide +kernel
theorem dX12_placeOf_44 : decode cX12_placeOf 44 = .ok (.istore_n 2, 1) := by decide +kernel
theorem dX12_placeOf_45 : decode cX12_placeOf 45 = .ok (.goto (-33), 3) := by decide +kernel
theorem dX12_placeOf_48 : decode cX12_placeOf 48 = .ok (.iload_n 2, 1) := by decide +kernel
theorem dX12_placeOf_49 : decode cX12_placeOf 49 = .ok (.ireturn, 1) := by decide +kernel
theorem dX12_mayCome_0 : decode cX12_mayCome 0 = .ok (.iconst 0, 1) := by decide +kernel
theorem dX12_mayCome_1 : decode cX12_mayCome 1 = .ok (.istore_n 3, 1) := by decide +kernel
theorem dX12_mayCome_2 : decode cX12_mayCome 2 = .ok (.iconst 0, 1) := by decide +kernel
theorem dX12_mayCome_3 : decode cX12_mayCome 3 = .ok (.istore 4, 2) := by decide +kernel
theorem dX12_mayCome_5 : decode cX12_mayCome 5 = .ok (.iload 4, 2) := by decide +kernel
theorem dX12_mayCome_7 : decode cX12_mayCome 7 = .ok (.iload_n 1, 1) := by decide +kernel
theorem dX12_mayCome_8 : decode cX12_mayCome 8 = .ok (.if_icmp .ge 95, 3) := by decide +kernel
theorem dX12_mayCome_11 : decode cX12_mayCome 11 = .ok (.aload_n 0, 1) := by decide +kernel
theorem dX12_mayCome_12 : decode cX12_mayCome 12 = .ok (.getfield 29, 3) := by decide +kernel
theorem dX12_mayCome_15 : decode cX12_mayCome 15 = .ok (.iload 4, 2) := by decide +kernel
theorem dX12_mayCome_17 : decode cX12_mayCome 17 = .ok (.iaload, 1) := by decide +kernel
theorem dX12_mayCome_18 : decode cX12_mayCome 18 = .ok (.iload_n 2, 1) := by decide +kernel
theorem dX12_mayCome_19 : decode cX12_mayCome 19 = .ok (.if_icmp .ne 18, 3) := by decide +kernel
theorem dX12_mayCome_22 : decode cX12_mayCome 22 = .ok (.iinc 3 1, 3) := by decide +kernel
theorem dX12_mayCome_25 : decode cX12_mayCome 25 = .ok (.iload_n 3, 1) := by decide +kernel
theorem dX12_mayCome_26 : decode cX12_mayCome 26 = .ok (.aload_n 0, 1) := by decide +kernel
theorem dX12_mayCome_27 : decode cX12_mayCome 27 = .ok (.getfield 56, 3) := by decide +kernel
theorem dX12_mayCome_30 : decode cX12_mayCome 30 = .ok (.iload_n 2, 1) := by decide +kernel
theorem dX12_mayCome_31 : decode cX12_mayCome 31 = .ok (.iaload, 1) := by decide +kernel
theorem dX12_mayCome_32 : decode cX12_mayCome 32 = .ok (.if_icmp .le 65, 3) := by decide +kernel
theorem dX12_mayCome_35 : decode cX12_mayCome 35 = .ok (.iconst 1, 1) := by decide +kernel
theorem dX12_mayCome_36 : decode cX12_mayCome 36 = .ok (.ireturn, 1) := by decide +kernel
theorem dX12_mayCome_37 : decode cX12_mayCome 37 = .ok (.aload_n 0, 1) := by decide +kernel
theorem dX12_mayCome_38 : decode cX12_mayCome 38 = .ok (.aload_n 0, 1) := by decide +kernel
theorem dX12_mayCome_39 : decode cX12_mayCome 39 = .ok (.getfield 29, 3) := by decide +kernel
theorem dX12_mayCome_42 : decode cX12_mayCome 42 = .ok (.iload 4, 2) := by decide +kernel
theorem dX12_mayCome_44 : decode cX12_mayCome 44 = .ok (.iaload, 1) := by decide +kernel
theorem dX12_mayCome_45 : decode cX12_mayCome 45 = .ok (.iload_n 2, 1) := by decide +kernel
theorem dX12_mayCome_46 : decode cX12_mayCome 46 = .ok (.invokevirtual 168, 3) := by decide +kernel
theorem dX12_mayCome_49 : decode cX12_mayCome 49 = .ok (.ifCond .ne 48, 3) := by decide +kernel
theorem dX12_mayCome_52 : decode cX12_mayCome 52 = .ok (.aload_n 0, 1) := by decide +kernel
theorem dX12_mayCome_53 : decode cX12_mayCome 53 = .ok (.getfield 59, 3) := by decide +kernel
theorem dX12_mayCome_56 : decode cX12_mayCome 56 = .ok (.aload_n 0, 1) := by decide +kernel
theorem dX12_mayCome_57 : decode cX12_mayCome 57 = .ok (.getfield 29, 3) := by decide +kernel
theorem dX12_mayCome_60 : decode cX12_mayCome 60 = .ok (.iload 4, 2) := by decide +kernel
theorem dX12_mayCome_62 : decode cX12_mayCome 62 = .ok (.iaload, 1) := by decide +kernel
theorem dX12_mayCome_63 : decode cX12_mayCome 63 = .ok (.dup2, 1) := by decide +kernel
theorem dX12_mayCome_64 : decode cX12_mayCome 64 = .ok (.iaload, 1) := by decide +kernel
theorem dX12_mayCome_65 : decode cX12_mayCome 65 = .ok (.iconst 1, 1) := by decide +kernel
theorem dX12_mayCome_66 : decode cX12_mayCome 66 = .ok (.iadd, 1) := by decide +kernel
theorem dX12_mayCome_67 : decode cX12_mayCome 67 = .ok (.iastore, 1) := by decide +kernel
theorem dX12_mayCome_68 : decode cX12_mayCome 68 = .ok (.aload_n 0, 1) := by decide +kernel
theorem dX12_mayCome_69 : decode cX12_mayCome 69 = .ok (.getfield 59, 3) := by decide +kernel
theorem dX12_mayCome_72 : decode cX12_mayCome 72 = .ok (.aload_n 0, 1) := by decide +kernel
theorem dX12_mayCome_73 : decode cX12_mayCome 73 = .ok (.getfield 29, 3) := by decide +kernel
theorem dX12_mayCome_76 : decode cX12_mayCome 76 = .ok (.iload 4, 2) := by decide +kernel
theorem dX12_mayCome_78 : decode cX12_mayCome 78 = .ok (.iaload, 1) := by decide +kernel
theorem dX12_mayCome_79 : decode cX12_mayCome 79 = .ok (.iaload, 1) := by decide +kernel
theorem dX12_mayCome_80 : decode cX12_mayCome 80 = .ok (.aload_n 0, 1) := by decide +kernel
theorem dX12_mayCome_81 : decode cX12_mayCome 81 = .ok (.getfield 56, 3) := by decide +kernel
theorem dX12_mayCome_84 : decode cX12_mayCome 84 = .ok (.aload_n 0, 1) := by decide +kernel
theorem dX12_mayCome_85 : decode cX12_mayCome 85 = .ok (.getfield 29, 3) := by decide +kernel
theorem dX12_mayCome_88 : decode cX12_mayCome 88 = .ok (.iload 4, 2) := by decide +kernel
theorem dX12_mayCome_90 : decode cX12_mayCome 90 = .ok (.iaload, 1) := by decide +kernel
theorem dX12_mayCome_91 : decode cX12_mayCome 91 = .ok (.iaload, 1) := by decide +kernel
theorem dX12_mayCome_92 : decode cX12_mayCome 92 = .ok (.if_icmp .le 5, 3) := by decide +kernel
theorem dX12_mayCome_95 : decode cX12_mayCome 95 = .ok (.iconst 0, 1) := by decide +kernel
theorem dX12_mayCome_96 : decode cX12_mayCome 96 = .ok (.ireturn, 1) := by decide +kernel
theorem dX12_mayCome_97 : decode cX12_mayCome 97 = .ok (.iinc 4 1, 3) := by decide +kernel
theorem dX12_mayCome_100 : decode cX12_mayCome 100 = .ok (.goto (-95), 3) := by decide +kernel
theorem dX12_mayCome_103 : decode cX12_mayCome 103 = .ok (.iconst 0, 1) := by decide +kernel
theorem dX12_mayCome_104 : decode cX12_mayCome 104 = .ok (.ireturn, 1) := by decide +kernel
theorem dX12_findBeginnings_0 : decode cX12_findBeginnings 0 = .ok (.aload_n 0, 1) := by decide +kernel
theorem dX12_findBeginnings_1 : decode cX12_findBeginnings 1 = .ok (.iload_n 1, 1) := by decide +kernel
theorem dX12_findBeginnings_2 : decode cX12_findBeginnings 2 = .ok (.aload_n 0, 1) := by decide +kernel
theorem dX12_findBeginnings_3 : decode cX12_findBeginnings 3 = .ok (.getfield 29, 3) := by decide +kernel
theorem dX12_findBeginnings_6 : decode cX12_findBeginnings 6 = .ok (.invokevirtual 186, 3) := by decide +kernel
theorem dX12_findBeginnings_9 : decode cX12_findBeginnings 9 = .ok (.iconst 0, 1) := by decide +kernel
theorem dX12_findBeginnings_10 : decode cX12_findBeginnings 10 = .ok (.istore_n 2, 1) := by decide +kernel
theorem dX12_findBeginnings_11 : decode cX12_findBeginnings 11 = .ok (.iload_n 2, 1) := by decide +kernel
theorem dX12_findBeginnings_12 : decode cX12_findBeginnings 12 = .ok (.ldc 52, 2) := by decide +kernel
theorem dX12_findBeginnings_14 : decode cX12_findBeginnings 14 = .ok (.if_icmp .ge 16, 3) := by decide +kernel
theorem dX12_findBeginnings_17 : decode cX12_findBeginnings 17 = .ok (.aload_n 0, 1) := by decide +kernel
theorem dX12_findBeginnings_18 : decode cX12_findBeginnings 18 = .ok (.getfield 53, 3) := by decide +kernel
theorem dX12_findBeginnings_21 : decode cX12_findBeginnings 21 = .ok (.iload_n 2, 1) := by decide +kernel
theorem dX12_findBeginnings_22 : decode cX12_findBeginnings 22 = .ok (.iconst 0, 1) := by decide +kernel
theorem dX12_findBeginnings_23 : decode cX12_findBeginnings 23 = .ok (.iastore, 1) := by decide +kernel
theorem dX12_findBeginnings_24 : decode cX12_findBeginnings 24 = .ok (.iinc 2 1, 3) := by decide +kernel
theorem dX12_findBeginnings_27 : decode cX12_findBeginnings 27 = .ok (.goto (-16), 3) := by decide +kernel
theorem dX12_findBeginnings_30 : decode cX12_findBeginnings 30 = .ok (.aload_n 0, 1) := by decide +kernel
theorem dX12_findBeginnings_31 : decode cX12_findBeginnings 31 = .ok (.getfield 45, 3) := by decide +kernel
theorem dX12_findBeginnings_34 : decode cX12_findBeginnings 34 = .ok (.iconst 0, 1) := by decide +kernel
theorem dX12_findBeginnings_35 : decode cX12_findBeginnings 35 = .ok (.iconst 0, 1) := by decide +kernel
theorem dX12_findBeginnings_36 : decode cX12_findBeginnings 36 = .ok (.iastore, 1) := by decide +kernel
theorem dX12_findBeginnings_37 : decode cX12_findBeginnings 37 = .ok (.aload_n 0, 1) := by decide +kernel
theorem dX12_findBeginnings_38 : decode cX12_findBeginnings 38 = .ok (.getfield 48, 3) := by decide +kernel
theorem dX12_findBeginnings_41 : decode cX12_findBeginnings 41 = .ok (.iconst 0, 1) := by decide +kernel
theorem dX12_findBeginnings_42 : decode cX12_findBeginnings 42 = .ok (.lconst 1, 1) := by decide +kernel
theorem dX12_findBeginnings_43 : decode cX12_findBeginnings 43 = .ok (.lastore, 1) := by decide +kernel
theorem dX12_findBeginnings_44 : decode cX12_findBeginnings 44 = .ok (.aload_n 0, 1) := by decide +kernel
theorem dX12_findBeginnings_45 : decode cX12_findBeginnings 45 = .ok (.iconst 1, 1) := by decide +kernel
theorem dX12_findBeginnings_46 : decode cX12_findBeginnings 46 = .ok (.putfield 203, 3) := by decide +kernel
theorem dX12_findBeginnings_49 : decode cX12_findBeginnings 49 = .ok (.aload_n 0, 1) := by decide +kernel
theorem dX12_findBeginnings_50 : decode cX12_findBeginnings 50 = .ok (.getfield 53, 3) := by decide +kernel
theorem dX12_findBeginnings_53 : decode cX12_findBeginnings 53 = .ok (.aload_n 0, 1) := by decide +kernel
theorem dX12_findBeginnings_54 : decode cX12_findBeginnings 54 = .ok (.iconst 0, 1) := by decide +kernel
theorem dX12_findBeginnings_55 : decode cX12_findBeginnings 55 = .ok (.invokevirtual 206, 3) := by decide +kernel
theorem dX12_findBeginnings_58 : decode cX12_findBeginnings 58 = .ok (.iconst 1, 1) := by decide +kernel
theorem dX12_findBeginnings_59 : decode cX12_findBeginnings 59 = .ok (.iastore, 1) := by decide +kernel
theorem dX12_findBeginnings_60 : decode cX12_findBeginnings 60 = .ok (.aload_n 0, 1) := by decide +kernel
theorem dX12_findBeginnings_61 : decode cX12_findBeginnings 61 = .ok (.iconst 0, 1) := by decide +kernel
theorem dX12_findBeginnings_62 : decode cX12_findBeginnings 62 = .ok (.putfield 209, 3) := by decide +kernel
theorem dX12_findBeginnings_65 : decode cX12_findBeginnings 65 = .ok (.iconst 0, 1) := by decide +kernel
theorem dX12_findBeginnings_66 : decode cX12_findBeginnings 66 = .ok (.istore_n 2, 1) := by decide +kernel
theorem dX12_findBeginnings_67 : decode cX12_findBeginnings 67 = .ok (.iload_n 2, 1) := by decide +kernel
theorem dX12_findBeginnings_68 : decode cX12_findBeginnings 68 = .ok (.aload_n 0, 1) := by decide +kernel
theorem dX12_findBeginnings_69 : decode cX12_findBeginnings 69 = .ok (.getfield 203, 3) := by decide +kernel
theorem dX12_findBeginnings_72 : decode cX12_findBeginnings 72 = .ok (.if_icmp .ge 271, 3) := by decide +kernel
theorem dX12_findBeginnings_75 : decode cX12_findBeginnings 75 = .ok (.aload_n 0, 1) := by decide +kernel
theorem dX12_findBeginnings_76 : decode cX12_findBeginnings 76 = .ok (.getfield 203, 3) := by decide +kernel
theorem dX12_findBeginnings_79 : decode cX12_findBeginnings 79 = .ok (.sipush 20000, 3) := by decide +kernel
theorem dX12_findBeginnings_82 : decode cX12_findBeginnings 82 = .ok (.if_icmp .gt 261, 3) := by decide +kernel
theorem dX12_findBeginnings_85 : decode cX12_findBeginnings 85 = .ok (.aload_n 0, 1) := by decide +kernel
theorem dX12_findBeginnings_86 : decode cX12_findBeginnings 86 = .ok (.getfield 45, 3) := by decide +kernel
theorem dX12_findBeginnings_89 : decode cX12_findBeginnings 89 = .ok (.iload_n 2, 1) := by decide +kernel
theorem dX12_findBeginnings_90 : decode cX12_findBeginnings 90 = .ok (.iaload, 1) := by decide +kernel
theorem dX12_findBeginnings_91 : decode cX12_findBeginnings 91 = .ok (.istore_n 3, 1) := by decide +kernel
theorem dX12_findBeginnings_92 : decode cX12_findBeginnings 92 = .ok (.iconst 0, 1) := by decide +kernel
theorem dX12_findBeginnings_93 : decode cX12_findBeginnings 93 = .ok (.istore 4, 2) := by decide +kernel
theorem dX12_findBeginnings_95 : decode cX12_findBeginnings 95 = .ok (.iload 4, 2) := by decide +kernel
theorem dX12_findBeginnings_97 : decode cX12_findBeginnings 97 = .ok (.bipush 6, 2) := by decide +kernel
theorem dX12_findBeginnings_99 : decode cX12_findBeginnings 99 = .ok (.if_icmp .ge 25, 3) := by decide +kernel
theorem dX12_findBeginnings_102 : decode cX12_findBeginnings 102 = .ok (.aload_n 0, 1) := by decide +kernel
theorem dX12_findBeginnings_103 : decode cX12_findBeginnings 103 = .ok (.getfield 56, 3) := by decide +kernel
theorem dX12_findBeginnings_106 : decode cX12_findBeginnings 106 = .ok (.iload 4, 2) := by decide +kernel
theorem dX12_findBeginnings_108 : decode cX12_findBeginnings 108 = .ok (.iload_n 3, 1) := by decide +kernel
theorem dX12_findBeginnings_109 : decode cX12_findBeginnings 109 = .ok (.bipush 25, 2) := by decide +kernel
theorem dX12_findBeginnings_111 : decode cX12_findBeginnings 111 = .ok (.irem, 1) := by decide +kernel
theorem dX12_findBeginnings_112 : decode cX12_findBeginnings 112 = .ok (.iastore, 1) := by decide +kernel
theorem dX12_findBeginnings_113 : decode cX12_findBeginnings 113 = .ok (.iload_n 3, 1) := by decide +kernel
theorem dX12_findBeginnings_114 : decode cX12_findBeginnings 114 = .ok (.bipush 25, 2) := by decide +kernel
theorem dX12_findBeginnings_116 : decode cX12_findBeginnings 116 = .ok (.idiv, 1) := by decide +kernel
theorem dX12_findBeginnings_117 : decode cX12_findBeginnings 117 = .ok (.istore_n 3, 1) := by decide +kernel
theorem dX12_findBeginnings_118 : decode cX12_findBeginnings 118 = .ok (.iinc 4 1, 3) := by decide +kernel
theorem dX12_findBeginnings_121 : decode cX12_findBeginnings 121 = .ok (.goto (-26), 3) := by decide +kernel
theorem dX12_findBeginnings_124 : decode cX12_findBeginnings 124 = .ok (.iconst 0, 1) := by decide +kernel
theorem dX12_findBeginnings_125 : decode cX12_findBeginnings 125 = .ok (.istore 4, 2) := by decide +kernel
theorem dX12_findBeginnings_127 : decode cX12_findBeginnings 127 = .ok (.iconst 0, 1) := by decide +kernel
theorem dX12_findBeginnings_128 : decode cX12_findBeginnings 128 = .ok (.istore 5, 2) := by decide +kernel
theorem dX12_findBeginnings_130 : decode cX12_findBeginnings 130 = .ok (.iload 5, 2) := by decide +kernel
theorem dX12_findBeginnings_132 : decode cX12_findBeginnings 132 = .ok (.bipush 6, 2) := by decide +kernel
theorem dX12_findBeginnings_134 : decode cX12_findBeginnings 134 = .ok (.if_icmp .ge 181, 3) := by decide +kernel
theorem dX12_findBeginnings_137 : decode cX12_findBeginnings 137 = .ok (.iconst 0, 1) := by decide +kernel
theorem dX12_findBeginnings_138 : decode cX12_findBeginnings 138 = .ok (.istore 6, 2) := by decide +kernel
theorem dX12_findBeginnings_140 : decode cX12_findBeginnings 140 = .ok (.iload 6, 2) := by decide +kernel
theorem dX12_findBeginnings_142 : decode cX12_findBeginnings 142 = .ok (.bipush 6, 2) := by decide +kernel
theorem dX12_findBeginnings_144 : decode cX12_findBeginnings 144 = .ok (.if_icmp .ge 17, 3) := by decide +kernel
theorem dX12_findBeginnings_147 : decode cX12_findBeginnings 147 = .ok (.aload_n 0, 1) := by decide +kernel
theorem dX12_findBeginnings_148 : decode cX12_findBeginnings 148 = .ok (.getfield 59, 3) := by decide +kernel
theorem dX12_findBeginnings_151 : decode cX12_findBeginnings 151 = .ok (.iload 6, 2) := by decide +kernel
theorem dX12_findBeginnings_153 : decode cX12_findBeginnings 153 = .ok (.iconst 0, 1) := by decide +kernel
theorem dX12_findBeginnings_154 : decode cX12_findBeginnings 154 = .ok (.iastore, 1) := by decide +kernel
theorem dX12_findBeginnings_155 : decode cX12_findBeginnings 155 = .ok (.iinc 6 1, 3) := by decide +kernel
theorem dX12_findBeginnings_158 : decode cX12_findBeginnings 158 = .ok (.goto (-18), 3) := by decide +kernel
theorem dX12_findBeginnings_161 : decode cX12_findBeginnings 161 = .ok (.aload_n 0, 1) := by decide +kernel
theorem dX12_findBeginnings_162 : decode cX12_findBeginnings 162 = .ok (.aload_n 0, 1) := by decide +kernel
theorem dX12_findBeginnings_163 : decode cX12_findBeginnings 163 = .ok (.getfield 17, 3) := by decide +kernel
theorem dX12_findBeginnings_166 : decode cX12_findBeginnings 166 = .ok (.iload_n 1, 1) := by decide +kernel
theorem dX12_findBeginnings_167 : decode cX12_findBeginnings 167 = .ok (.iaload, 1) := by decide +kernel
theorem dX12_findBeginnings_168 : decode cX12_findBeginnings 168 = .ok (.iload 5, 2) := by decide +kernel
theorem dX12_findBeginnings_170 : decode cX12_findBeginnings 170 = .ok (.invokevirtual 212, 3) := by decide +kernel
theorem dX12_findBeginnings_173 : decode cX12_findBeginnings 173 = .ok (.ifCond .eq 136, 3) := by decide +kernel
theorem dX12_findBeginnings_176 : decode cX12_findBeginnings 176 = .ok (.iinc 4 1, 3) := by decide +kernel
theorem dX12_findBeginnings_179 : decode cX12_findBeginnings 179 = .ok (.aload_n 0, 1) := by decide +kernel
theorem dX12_findBeginnings_180 : decode cX12_findBeginnings 180 = .ok (.getfield 45, 3) := by decide +kernel
theorem dX12_findBeginnings_183 : decode cX12_findBeginnings 183 = .ok (.iload_n 2, 1) := by decide +kernel
theorem dX12_findBeginnings_184 : decode cX12_findBeginnings 184 = .ok (.iaload, 1) := by decide +kernel
theorem dX12_findBeginnings_185 : decode cX12_findBeginnings 185 = .ok (.iload 5, 2) := by decide +kernel
theorem dX12_findBeginnings_187 : decode cX12_findBeginnings 187 = .ok (.invokestatic 215, 3) := by decide +kernel
theorem dX12_findBeginnings_190 : decode cX12_findBeginnings 190 = .ok (.iadd, 1) := by decide +kernel
theorem dX12_findBeginnings_191 : decode cX12_findBeginnings 191 = .ok (.istore 6, 2) := by decide +kernel
theorem dX12_findBeginnings_193 : decode cX12_findBeginnings 193 = .ok (.aload_n 0, 1) := by decide +kernel
theorem dX12_findBeginnings_194 : decode cX12_findBeginnings 194 = .ok (.iload 6, 2) := by decide +kernel
theorem dX12_findBeginnings_196 : decode cX12_findBeginnings 196 = .ok (.invokevirtual 206, 3) := by decide +kernel
theorem dX12_findBeginnings_199 : decode cX12_findBeginnings 199 = .ok (.istore 7, 2) := by decide +kernel
theorem dX12_findBeginnings_201 : decode cX12_findBeginnings 201 = .ok (.aload_n 0, 1) := by decide +kernel
theorem dX12_findBeginnings_202 : decode cX12_findBeginnings 202 = .ok (.getfield 53, 3) := by decide +kernel
theorem dX12_findBeginnings_205 : decode cX12_findBeginnings 205 = .ok (.iload 7, 2) := by decide +kernel
theorem dX12_findBeginnings_207 : decode cX12_findBeginnings 207 = .ok (.iaload, 1) := by decide +kernel
theorem dX12_findBeginnings_208 : decode cX12_findBeginnings 208 = .ok (.ifCond .ne 55, 3) := by decide +kernel
theorem dX12_findBeginnings_211 : decode cX12_findBeginnings 211 = .ok (.aload_n 0, 1) := by decide +kernel
theorem dX12_findBeginnings_212 : decode cX12_findBeginnings 212 = .ok (.getfield 203, 3) := by decide +kernel
theorem dX12_findBeginnings_215 : decode cX12_findBeginnings 215 = .ok (.sipush 20000, 3) := by decide +kernel
theorem dX12_findBeginnings_218 : decode cX12_findBeginnings 218 = .ok (.if_icmp .gt 45, 3) := by decide +kernel
theorem dX12_findBeginnings_221 : decode cX12_findBeginnings 221 = .ok (.aload_n 0, 1) := by decide +kernel
theorem dX12_findBeginnings_222 : decode cX12_findBeginnings 222 = .ok (.getfield 45, 3) := by decide +kernel
theorem dX12_findBeginnings_225 : decode cX12_findBeginnings 225 = .ok (.aload_n 0, 1) := by decide +kernel
theorem dX12_findBeginnings_226 : decode cX12_findBeginnings 226 = .ok (.getfield 203, 3) := by decide +kernel
theorem dX12_findBeginnings_229 : decode cX12_findBeginnings 229 = .ok (.iload 6, 2) := by decide +kernel
theorem dX12_findBeginnings_231 : decode cX12_findBeginnings 231 = .ok (.iastore, 1) := by decide +kernel
theorem dX12_findBeginnings_232 : decode cX12_findBeginnings 232 = .ok (.aload_n 0, 1) := by decide +kernel
theorem dX12_findBeginnings_233 : decode cX12_findBeginnings 233 = .ok (.getfield 48, 3) := by decide +kernel
theorem dX12_findBeginnings_236 : decode cX12_findBeginnings 236 = .ok (.aload_n 0, 1) := by decide +kernel
theorem dX12_findBeginnings_237 : decode cX12_findBeginnings 237 = .ok (.getfield 203, 3) := by decide +kernel
theorem dX12_findBeginnings_240 : decode cX12_findBeginnings 240 = .ok (.lconst 0, 1) := by decide +kernel
theorem dX12_findBeginnings_241 : decode cX12_findBeginnings 241 = .ok (.lastore, 1) := by decide +kernel
theorem dX12_findBeginnings_242 : decode cX12_findBeginnings 242 = .ok (.aload_n 0, 1) := by decide +kernel
theorem dX12_findBeginnings_243 : decode cX12_findBeginnings 243 = .ok (.dup, 1) := by decide +kernel
theorem dX12_findBeginnings_244 : decode cX12_findBeginnings 244 = .ok (.getfield 203, 3) := by decide +kernel
theorem dX12_findBeginnings_247 : decode cX12_findBeginnings 247 = .ok (.iconst 1, 1) := by decide +kernel
theorem dX12_findBeginnings_248 : decode cX12_findBeginnings 248 = .ok (.iadd, 1) := by decide +kernel
theorem dX12_findBeginnings_249 : decode cX12_findBeginnings 249 = .ok (.putfield 203, 3) := by decide +kernel
theorem dX12_findBeginnings_252 : decode cX12_findBeginnings 252 = .ok (.aload_n 0, 1) := by decide +kernel
theorem dX12_findBeginnings_253 : decode cX12_findBeginnings 253 = .ok (.getfield 53, 3) := by decide +kernel
theorem dX12_findBeginnings_256 : decode cX12_findBeginnings 256 = .ok (.iload 7, 2) := by decide +kernel
theorem dX12_findBeginnings_258 : decode cX12_findBeginnings 258 = .ok (.aload_n 0, 1) := by decide +kernel
theorem dX12_findBeginnings_259 : decode cX12_findBeginnings 259 = .ok (.getfield 203, 3) := by decide +kernel
theorem dX12_findBeginnings_262 : decode cX12_findBeginnings 262 = .ok (.iastore, 1) := by decide +kernel
theorem dX12_findBeginnings_263 : decode cX12_findBeginnings 263 = .ok (.aload_n 0, 1) := by decide +kernel
theorem dX12_findBeginnings_264 : decode cX12_findBeginnings 264 = .ok (.getfield 53, 3) := by decide +kernel
theorem dX12_findBeginnings_267 : decode cX12_findBeginnings 267 = .ok (.iload 7, 2) := by decide +kernel
theorem dX12_findBeginnings_269 : decode cX12_findBeginnings 269 = .ok (.iaload, 1) := by decide +kernel
theorem dX12_findBeginnings_270 : decode cX12_findBeginnings 270 = .ok (.ifCond .eq 39, 3) := by decide +kernel
theorem dX12_findBeginnings_273 : decode cX12_findBeginnings 273 = .ok (.aload_n 0, 1) := by decide +kernel
theorem dX12_findBeginnings_274 : decode cX12_findBeginnings 274 = .ok (.getfield 53, 3) := by decide +kernel
theorem dX12_findBeginnings_277 : decode cX12_findBeginnings 277 = .ok (.iload 7, 2) := by decide +kernel
theorem dX12_findBeginnings_279 : decode cX12_findBeginnings 279 = .ok (.iaload, 1) := by decide +kernel
theorem dX12_findBeginnings_280 : decode cX12_findBeginnings 280 = .ok (.iconst 1, 1) := by decide +kernel
theorem dX12_findBeginnings_281 : decode cX12_findBeginnings 281 = .ok (.isub, 1) := by decide +kernel
theorem dX12_findBeginnings_282 : decode cX12_findBeginnings 282 = .ok (.istore 8, 2) := by decide +kernel
theorem dX12_findBeginnings_284 : decode cX12_findBeginnings 284 = .ok (.aload_n 0, 1) := by decide +kernel
theorem dX12_findBeginnings_285 : decode cX12_findBeginnings 285 = .ok (.getfield 48, 3) := by decide +kernel
theorem dX12_findBeginnings_288 : decode cX12_findBeginnings 288 = .ok (.iload 8, 2) := by decide +kernel
theorem dX12_findBeginnings_290 : decode cX12_findBeginnings 290 = .ok (.aload_n 0, 1) := by decide +kernel
theorem dX12_findBeginnings_291 : decode cX12_findBeginnings 291 = .ok (.getfield 48, 3) := by decide +kernel
theorem dX12_findBeginnings_294 : decode cX12_findBeginnings 294 = .ok (.iload 8, 2) := by decide +kernel
theorem dX12_findBeginnings_296 : decode cX12_findBeginnings 296 = .ok (.laload, 1) := by decide +kernel
theorem dX12_findBeginnings_297 : decode cX12_findBeginnings 297 = .ok (.aload_n 0, 1) := by decide +kernel
theorem dX12_findBeginnings_298 : decode cX12_findBeginnings 298 = .ok (.getfield 48, 3) := by decide +kernel
theorem dX12_findBeginnings_301 : decode cX12_findBeginnings 301 = .ok (.iload_n 2, 1) := by decide +kernel
theorem dX12_findBeginnings_302 : decode cX12_findBeginnings 302 = .ok (.laload, 1) := by decide +kernel
theorem dX12_findBeginnings_303 : decode cX12_findBeginnings 303 = .ok (.ladd, 1) := by decide +kernel
theorem dX12_findBeginnings_304 : decode cX12_findBeginnings 304 = .ok (.ldc2_w 218, 3) := by decide +kernel
theorem dX12_findBeginnings_307 : decode cX12_findBeginnings 307 = .ok (.lrem, 1) := by decide +kernel
theorem dX12_findBeginnings_308 : decode cX12_findBeginnings 308 = .ok (.lastore, 1) := by decide +kernel
theorem dX12_findBeginnings_309 : decode cX12_findBeginnings 309 = .ok (.iinc 5 1, 3) := by decide +kernel
theorem dX12_findBeginnings_312 : decode cX12_findBeginnings 312 = .ok (.goto (-182), 3) := by decide +kernel
theorem dX12_findBeginnings_315 : decode cX12_findBeginnings 315 = .ok (.aload_n 0, 1) := by decide +kernel
theorem dX12_findBeginnings_316 : decode cX12_findBeginnings 316 = .ok (.iload 4, 2) := by decide +kernel
theorem dX12_findBeginnings_318 : decode cX12_findBeginnings 318 = .ok (.aload_n 0, 1) := by decide +kernel
theorem dX12_findBeginnings_319 : decode cX12_findBeginnings 319 = .ok (.getfield 209, 3) := by decide +kernel
theorem dX12_findBeginnings_322 : decode cX12_findBeginnings 322 = .ok (.if_icmp .le 8, 3) := by decide +kernel
theorem dX12_findBeginnings_325 : decode cX12_findBeginnings 325 = .ok (.iload 4, 2) := by decide +kernel
theorem dX12_findBeginnings_327 : decode cX12_findBeginnings 327 = .ok (.goto 7, 3) := by decide +kernel
theorem dX12_findBeginnings_330 : decode cX12_findBeginnings 330 = .ok (.aload_n 0, 1) := by decide +kernel
theorem dX12_findBeginnings_331 : decode cX12_findBeginnings 331 = .ok (.getfield 209, 3) := by decide +kernel
theorem dX12_findBeginnings_334 : decode cX12_findBeginnings 334 = .ok (.putfield 209, 3) := by decide +kernel
theorem dX12_findBeginnings_337 : decode cX12_findBeginnings 337 = .ok (.iinc 2 1, 3) := by decide +kernel
theorem dX12_findBeginnings_340 : decode cX12_findBeginnings 340 = .ok (.goto (-273), 3) := by decide +kernel
theorem dX12_findBeginnings_343 : decode cX12_findBeginnings 343 = .ok (.return_, 1) := by decide +kernel
theorem dX12_begins_0 : decode cX12_begins 0 = .ok (.iload_n 1, 1) := by decide +kernel
theorem dX12_begins_1 : decode cX12_begins 1 = .ok (.invokestatic 172, 3) := by decide +kernel
theorem dX12_begins_4 : decode cX12_begins 4 = .ok (.ifCond .ne 6, 3) := by decide +kernel
theorem dX12_begins_7 : decode cX12_begins 7 = .ok (.bipush (-2), 2) := by decide +kernel
theorem dX12_begins_9 : decode cX12_begins 9 = .ok (.ireturn, 1) := by decide +kernel
theorem dX12_begins_10 : decode cX12_begins 10 = .ok (.iload_n 2, 1) := by decide +kernel
theorem dX12_begins_11 : decode cX12_begins 11 = .ok (.iconst 0, 1) := by decide +kernel
theorem dX12_begins_12 : decode cX12_begins 12 = .ok (.iconst 2, 1) := by decide +kernel
theorem dX12_begins_13 : decode cX12_begins 13 = .ok (.invokestatic 83, 3) := by decide +kernel
theorem dX12_begins_16 : decode cX12_begins 16 = .ok (.ifCond .ne 6, 3) := by decide +kernel
theorem dX12_begins_19 : decode cX12_begins 19 = .ok (.bipush (-3), 2) := by decide +kernel
theorem dX12_begins_21 : decode cX12_begins 21 = .ok (.ireturn, 1) := by decide +kernel
theorem dX12_begins_22 : decode cX12_begins 22 = .ok (.aload_n 0, 1) := by decide +kernel
theorem dX12_begins_23 : decode cX12_begins 23 = .ok (.iload_n 1, 1) := by decide +kernel
theorem dX12_begins_24 : decode cX12_begins 24 = .ok (.invokevirtual 220, 3) := by decide +kernel
theorem dX12_begins_27 : decode cX12_begins 27 = .ok (.aload_n 0, 1) := by decide +kernel
theorem dX12_begins_28 : decode cX12_begins 28 = .ok (.getfield 203, 3) := by decide +kernel
theorem dX12_begins_31 : decode cX12_begins 31 = .ok (.sipush 20000, 3) := by decide +kernel
theorem dX12_begins_34 : decode cX12_begins 34 = .ok (.if_icmp .le 6, 3) := by decide +kernel
theorem dX12_begins_37 : decode cX12_begins 37 = .ok (.bipush (-6), 2) := by decide +kernel
theorem dX12_begins_39 : decode cX12_begins 39 = .ok (.ireturn, 1) := by decide +kernel
theorem dX12_begins_40 : decode cX12_begins 40 = .ok (.iload_n 2, 1) := by decide +kernel
theorem dX12_begins_41 : decode cX12_begins 41 = .ok (.ifCond .ne 10, 3) := by decide +kernel
theorem dX12_begins_44 : decode cX12_begins 44 = .ok (.aload_n 0, 1) := by decide +kernel
theorem dX12_begins_45 : decode cX12_begins 45 = .ok (.getfield 203, 3) := by decide +kernel
theorem dX12_begins_48 : decode cX12_begins 48 = .ok (.goto 27, 3) := by decide +kernel
theorem dX12_begins_51 : decode cX12_begins 51 = .ok (.iload_n 2, 1) := by decide +kernel
theorem dX12_begins_52 : decode cX12_begins 52 = .ok (.iconst 1, 1) := by decide +kernel
theorem dX12_begins_53 : decode cX12_begins 53 = .ok (.if_icmp .ne 18, 3) := by decide +kernel
theorem dX12_begins_56 : decode cX12_begins 56 = .ok (.aload_n 0, 1) := by decide +kernel
theorem dX12_begins_57 : decode cX12_begins 57 = .ok (.getfield 48, 3) := by decide +kernel
theorem dX12_begins_60 : decode cX12_begins 60 = .ok (.aload_n 0, 1) := by decide +kernel
theorem dX12_begins_61 : decode cX12_begins 61 = .ok (.getfield 203, 3) := by decide +kernel
theorem dX12_begins_64 : decode cX12_begins 64 = .ok (.iconst 1, 1) := by decide +kernel
theorem dX12_begins_65 : decode cX12_begins 65 = .ok (.isub, 1) := by decide +kernel
theorem dX12_begins_66 : decode cX12_begins 66 = .ok (.laload, 1) := by decide +kernel
theorem dX12_begins_67 : decode cX12_begins 67 = .ok (.l2i, 1) := by decide +kernel
theorem dX12_begins_68 : decode cX12_begins 68 = .ok (.goto 7, 3) := by decide +kernel
theorem dX12_begins_71 : decode cX12_begins 71 = .ok (.aload_n 0, 1) := by decide +kernel
theorem dX12_begins_72 : decode cX12_begins 72 = .ok (.getfield 209, 3) := by decide +kernel
theorem dX12_begins_75 : decode cX12_begins 75 = .ok (.ireturn, 1) := by decide +kernel
theorem dX12_areThree_0 : decode cX12_areThree 0 = .ok (.iload_n 0, 1) := by decide +kernel
theorem dX12_areThree_1 : decode cX12_areThree 1 = .ok (.invokestatic 172, 3) := by decide +kernel
theorem dX12_areThree_4 : decode cX12_areThree 4 = .ok (.ifCond .eq 21, 3) := by decide +kernel
theorem dX12_areThree_7 : decode cX12_areThree 7 = .ok (.iload_n 1, 1) := by decide +kernel
theorem dX12_areThree_8 : decode cX12_areThree 8 = .ok (.invokestatic 172, 3) := by decide +kernel
theorem dX12_areThree_11 : decode cX12_areThree 11 = .ok (.ifCond .eq 14, 3) := by decide +kernel
theorem dX12_areThree_14 : decode cX12_areThree 14 = .ok (.iload_n 2, 1) := by decide +kernel
theorem dX12_areThree_15 : decode cX12_areThree 15 = .ok (.invokestatic 172, 3) := by decide +kernel
theorem dX12_areThree_18 : decode cX12_areThree 18 = .ok (.ifCond .eq 7, 3) := by decide +kernel
theorem dX12_areThree_21 : decode cX12_areThree 21 = .ok (.iconst 1, 1) := by decide +kernel
theorem dX12_areThree_22 : decode cX12_areThree 22 = .ok (.goto 4, 3) := by decide +kernel
theorem dX12_areThree_25 : decode cX12_areThree 25 = .ok (.iconst 0, 1) := by decide +kernel
theorem dX12_areThree_26 : decode cX12_areThree 26 = .ok (.ireturn, 1) := by decide +kernel
theorem dX12_join_0 : decode cX12_join 0 = .ok (.iload_n 1, 1) := by decide +kernel
theorem dX12_join_1 : decode cX12_join 1 = .ok (.iload_n 2, 1) := by decide +kernel
theorem dX12_join_2 : decode cX12_join 2 = .ok (.iload_n 3, 1) := by decide +kernel
theorem dX12_join_3 : decode cX12_join 3 = .ok (.invokestatic 223, 3) := by decide +kernel
theorem dX12_join_6 : decode cX12_join 6 = .ok (.ifCond .ne 6, 3) := by decide +kernel
theorem dX12_join_9 : decode cX12_join 9 = .ok (.bipush (-2), 2) := by decide +kernel
theorem dX12_join_11 : decode cX12_join 11 = .ok (.ireturn, 1) := by decide +kernel
theorem dX12_join_12 : decode cX12_join 12 = .ok (.aload_n 0, 1) := by decide +kernel
theorem dX12_join_13 : decode cX12_join 13 = .ok (.getfield 17, 3) := by decide +kernel
theorem dX12_join_16 : decode cX12_join 16 = .ok (.iload_n 1, 1) := by decide +kernel
theorem dX12_join_17 : decode cX12_join 17 = .ok (.iaload, 1) := by decide +kernel
theorem dX12_join_18 : decode cX12_join 18 = .ok (.aload_n 0, 1) := by decide +kernel
theorem dX12_join_19 : decode cX12_join 19 = .ok (.getfield 17, 3) := by decide +kernel
theorem dX12_join_22 : decode cX12_join 22 = .ok (.iload_n 2, 1) := by decide +kernel
theorem dX12_join_23 : decode cX12_join 23 = .ok (.iaload, 1) := by decide +kernel
theorem dX12_join_24 : decode cX12_join 24 = .ok (.iadd, 1) := by decide +kernel
theorem dX12_join_25 : decode cX12_join 25 = .ok (.istore 4, 2) := by decide +kernel
theorem dX12_join_27 : decode cX12_join 27 = .ok (.iload 4, 2) := by decide +kernel
theorem dX12_join_29 : decode cX12_join 29 = .ok (.bipush 24, 2) := by decide +kernel
theorem dX12_join_31 : decode cX12_join 31 = .ok (.if_icmp .le 6, 3) := by decide +kernel
theorem dX12_join_34 : decode cX12_join 34 = .ok (.bipush (-5), 2) := by decide +kernel
theorem dX12_join_36 : decode cX12_join 36 = .ok (.ireturn, 1) := by decide +kernel
theorem dX12_join_37 : decode cX12_join 37 = .ok (.aload_n 0, 1) := by decide +kernel
theorem dX12_join_38 : decode cX12_join 38 = .ok (.iload_n 1, 1) := by decide +kernel
theorem dX12_join_39 : decode cX12_join 39 = .ok (.aload_n 0, 1) := by decide +kernel
theorem dX12_join_40 : decode cX12_join 40 = .ok (.getfield 29, 3) := by decide +kernel
theorem dX12_join_43 : decode cX12_join 43 = .ok (.invokevirtual 186, 3) := by decide +kernel
theorem dX12_join_46 : decode cX12_join 46 = .ok (.iconst 0, 1) := by decide +kernel
theorem dX12_join_47 : decode cX12_join 47 = .ok (.istore 5, 2) := by decide +kernel
theorem dX12_join_49 : decode cX12_join 49 = .ok (.iload 5, 2) := by decide +kernel
theorem dX12_join_51 : decode cX12_join 51 = .ok (.aload_n 0, 1) := by decide +kernel
theorem dX12_join_52 : decode cX12_join 52 = .ok (.getfield 17, 3) := by decide +kernel
theorem dX12_join_55 : decode cX12_join 55 = .ok (.iload_n 2, 1) := by decide +kernel
theorem dX12_join_56 : decode cX12_join 56 = .ok (.iaload, 1) := by decide +kernel
theorem dX12_join_57 : decode cX12_join 57 = .ok (.if_icmp .ge 35, 3) := by decide +kernel
theorem dX12_join_60 : decode cX12_join 60 = .ok (.aload_n 0, 1) := by decide +kernel
theorem dX12_join_61 : decode cX12_join 61 = .ok (.getfield 29, 3) := by decide +kernel
theorem dX12_join_64 : decode cX12_join 64 = .ok (.aload_n 0, 1) := by decide +kernel
theorem dX12_join_65 : decode cX12_join 65 = .ok (.getfield 17, 3) := by decide +kernel
theorem dX12_join_68 : decode cX12_join 68 = .ok (.iload_n 1, 1) := by decide +kernel
theorem dX12_join_69 : decode cX12_join 69 = .ok (.iaload, 1) := by decide +kernel
theorem dX12_join_70 : decode cX12_join 70 = .ok (.iload 5, 2) := by decide +kernel
theorem dX12_join_72 : decode cX12_join 72 = .ok (.iadd, 1) := by decide +kernel
theorem dX12_join_73 : decode cX12_join 73 = .ok (.aload_n 0, 1) := by decide +kernel
theorem dX12_join_74 : decode cX12_join 74 = .ok (.getfield 20, 3) := by decide +kernel
theorem dX12_join_77 : decode cX12_join 77 = .ok (.bipush 24, 2) := by decide +kernel
theorem dX12_join_79 : decode cX12_join 79 = .ok (.iload_n 2, 1) := by decide +kernel
theorem dX12_join_80 : decode cX12_join 80 = .ok (.imul, 1) := by decide +kernel
theorem dX12_join_81 : decode cX12_join 81 = .ok (.iload 5, 2) := by decide +kernel
theorem dX12_join_83 : decode cX12_join 83 = .ok (.iadd, 1) := by decide +kernel
theorem dX12_join_84 : decode cX12_join 84 = .ok (.iaload, 1) := by decide +kernel
theorem dX12_join_85 : decode cX12_join 85 = .ok (.iastore, 1) := by decide +kernel
theorem dX12_join_86 : decode cX12_join 86 = .ok (.iinc 5 1, 3) := by decide +kernel
theorem dX12_join_89 : decode cX12_join 89 = .ok (.goto (-40), 3) := by decide +kernel
theorem dX12_join_92 : decode cX12_join 92 = .ok (.aload_n 0, 1) := by decide +kernel
theorem dX12_join_93 : decode cX12_join 93 = .ok (.iload_n 3, 1) := by decide +kernel
theorem dX12_join_94 : decode cX12_join 94 = .ok (.aload_n 0, 1) := by decide +kernel
theorem dX12_join_95 : decode cX12_join 95 = .ok (.aload_n 0, 1) := by decide +kernel
theorem dX12_join_96 : decode cX12_join 96 = .ok (.getfield 29, 3) := by decide +kernel
theorem dX12_join_99 : decode cX12_join 99 = .ok (.iload 4, 2) := by decide +kernel
theorem dX12_join_101 : decode cX12_join 101 = .ok (.invokevirtual 190, 3) := by decide +kernel
theorem dX12_join_104 : decode cX12_join 104 = .ok (.invokevirtual 226, 3) := by decide +kernel
theorem dX12_join_107 : decode cX12_join 107 = .ok (.ireturn, 1) := by decide +kernel
theorem dX12_left_0 : decode cX12_left 0 = .ok (.iload_n 1, 1) := by decide +kernel
theorem dX12_left_1 : decode cX12_left 1 = .ok (.iload_n 2, 1) := by decide +kernel
theorem dX12_left_2 : decode cX12_left 2 = .ok (.iload_n 3, 1) := by decide +kernel
theorem dX12_left_3 : decode cX12_left 3 = .ok (.invokestatic 223, 3) := by decide +kernel
theorem dX12_left_6 : decode cX12_left 6 = .ok (.ifCond .ne 6, 3) := by decide +kernel
theorem dX12_left_9 : decode cX12_left 9 = .ok (.bipush (-2), 2) := by decide +kernel
theorem dX12_left_11 : decode cX12_left 11 = .ok (.ireturn, 1) := by decide +kernel
theorem dX12_left_12 : decode cX12_left 12 = .ok (.aload_n 0, 1) := by decide +kernel
theorem dX12_left_13 : decode cX12_left 13 = .ok (.iload_n 2, 1) := by decide +kernel
theorem dX12_left_14 : decode cX12_left 14 = .ok (.aload_n 0, 1) := by decide +kernel
theorem dX12_left_15 : decode cX12_left 15 = .ok (.getfield 29, 3) := by decide +kernel
theorem dX12_left_18 : decode cX12_left 18 = .ok (.invokevirtual 186, 3) := by decide +kernel
theorem dX12_left_21 : decode cX12_left 21 = .ok (.aload_n 0, 1) := by decide +kernel
theorem dX12_left_22 : decode cX12_left 22 = .ok (.aload_n 0, 1) := by decide +kernel
theorem dX12_left_23 : decode cX12_left 23 = .ok (.getfield 17, 3) := by decide +kernel
theorem dX12_left_26 : decode cX12_left 26 = .ok (.iload_n 2, 1) := by decide +kernel
theorem dX12_left_27 : decode cX12_left 27 = .ok (.iaload, 1) := by decide +kernel
theorem dX12_left_28 : decode cX12_left 28 = .ok (.invokevirtual 179, 3) := by decide +kernel
theorem dX12_left_31 : decode cX12_left 31 = .ok (.iconst 0, 1) := by decide +kernel
theorem dX12_left_32 : decode cX12_left 32 = .ok (.istore 4, 2) := by decide +kernel
theorem dX12_left_34 : decode cX12_left 34 = .ok (.iload 4, 2) := by decide +kernel
theorem dX12_left_36 : decode cX12_left 36 = .ok (.aload_n 0, 1) := by decide +kernel
theorem dX12_left_37 : decode cX12_left 37 = .ok (.getfield 17, 3) := by decide +kernel
theorem dX12_left_40 : decode cX12_left 40 = .ok (.iload_n 1, 1) := by decide +kernel
theorem dX12_left_41 : decode cX12_left 41 = .ok (.iaload, 1) := by decide +kernel
theorem dX12_left_42 : decode cX12_left 42 = .ok (.if_icmp .ge 54, 3) := by decide +kernel
theorem dX12_left_45 : decode cX12_left 45 = .ok (.aload_n 0, 1) := by decide +kernel
theorem dX12_left_46 : decode cX12_left 46 = .ok (.aload_n 0, 1) := by decide +kernel
theorem dX12_left_47 : decode cX12_left 47 = .ok (.getfield 29, 3) := by decide +kernel
theorem dX12_left_50 : decode cX12_left 50 = .ok (.aload_n 0, 1) := by decide +kernel
theorem dX12_left_51 : decode cX12_left 51 = .ok (.getfield 17, 3) := by decide +kernel
theorem dX12_left_54 : decode cX12_left 54 = .ok (.iload_n 2, 1) := by decide +kernel
theorem dX12_left_55 : decode cX12_left 55 = .ok (.iaload, 1) := by decide +kernel
theorem dX12_left_56 : decode cX12_left 56 = .ok (.aload_n 0, 1) := by decide +kernel
theorem dX12_left_57 : decode cX12_left 57 = .ok (.getfield 20, 3) := by decide +kernel
theorem dX12_left_60 : decode cX12_left 60 = .ok (.bipush 24, 2) := by decide +kernel
theorem dX12_left_62 : decode cX12_left 62 = .ok (.iload_n 1, 1) := by decide +kernel
theorem dX12_left_63 : decode cX12_left 63 = .ok (.imul, 1) := by decide +kernel
theorem dX12_left_64 : decode cX12_left 64 = .ok (.iload 4, 2) := by decide +kernel
theorem dX12_left_66 : decode cX12_left 66 = .ok (.iadd, 1) := by decide +kernel
theorem dX12_left_67 : decode cX12_left 67 = .ok (.iaload, 1) := by decide +kernel
theorem dX12_left_68 : decode cX12_left 68 = .ok (.invokevirtual 175, 3) := by decide +kernel
theorem dX12_left_71 : decode cX12_left 71 = .ok (.istore 5, 2) := by decide +kernel
theorem dX12_left_73 : decode cX12_left 73 = .ok (.iload 5, 2) := by decide +kernel
theorem dX12_left_75 : decode cX12_left 75 = .ok (.iconst (-1), 1) := by decide +kernel
theorem dX12_left_76 : decode cX12_left 76 = .ok (.if_icmp .ne 6, 3) := by decide +kernel
theorem dX12_left_79 : decode cX12_left 79 = .ok (.bipush (-4), 2) := by decide +kernel
theorem dX12_left_81 : decode cX12_left 81 = .ok (.ireturn, 1) := by decide +kernel
theorem dX12_left_82 : decode cX12_left 82 = .ok (.aload_n 0, 1) := by decide +kernel
theorem dX12_left_83 : decode cX12_left 83 = .ok (.getfield 38, 3) := by decide +kernel
theorem dX12_left_86 : decode cX12_left 86 = .ok (.iload 5, 2) := by decide +kernel
theorem dX12_left_88 : decode cX12_left 88 = .ok (.iconst 1, 1) := by decide +kernel
theorem dX12_left_89 : decode cX12_left 89 = .ok (.bastore, 1) := by decide +kernel
theorem dX12_left_90 : decode cX12_left 90 = .ok (.iinc 4 1, 3) := by decide +kernel
theorem dX12_left_93 : decode cX12_left 93 = .ok (.goto (-59), 3) := by decide +kernel
theorem dX12_left_96 : decode cX12_left 96 = .ok (.aload_n 0, 1) := by decide +kernel
theorem dX12_left_97 : decode cX12_left 97 = .ok (.iload_n 3, 1) := by decide +kernel
theorem dX12_left_98 : decode cX12_left 98 = .ok (.aload_n 0, 1) := by decide +kernel
theorem dX12_left_99 : decode cX12_left 99 = .ok (.aload_n 0, 1) := by decide +kernel
theorem dX12_left_100 : decode cX12_left 100 = .ok (.getfield 29, 3) := by decide +kernel
theorem dX12_left_103 : decode cX12_left 103 = .ok (.aload_n 0, 1) := by decide +kernel
theorem dX12_left_104 : decode cX12_left 104 = .ok (.getfield 17, 3) := by decide +kernel
theorem dX12_left_107 : decode cX12_left 107 = .ok (.iload_n 2, 1) := by decide +kernel
theorem dX12_left_108 : decode cX12_left 108 = .ok (.iaload, 1) := by decide +kernel
theorem dX12_left_109 : decode cX12_left 109 = .ok (.invokevirtual 182, 3) := by decide +kernel
theorem dX12_left_112 : decode cX12_left 112 = .ok (.invokevirtual 226, 3) := by decide +kernel
theorem dX12_left_115 : decode cX12_left 115 = .ok (.ireturn, 1) := by decide +kernel
theorem dX12_share_0 : decode cX12_share 0 = .ok (.aload_n 0, 1) := by decide +kernel
theorem dX12_share_1 : decode cX12_share 1 = .ok (.getfield 17, 3) := by decide +kernel
theorem dX12_share_4 : decode cX12_share 4 = .ok (.iload_n 1, 1) := by decide +kernel
theorem dX12_share_5 : decode cX12_share 5 = .ok (.iaload, 1) := by decide +kernel
theorem dX12_share_6 : decode cX12_share 6 = .ok (.istore_n 3, 1) := by decide +kernel
theorem dX12_share_7 : decode cX12_share 7 = .ok (.aload_n 0, 1) := by decide +kernel
theorem dX12_share_8 : decode cX12_share 8 = .ok (.getfield 17, 3) := by decide +kernel
theorem dX12_share_11 : decode cX12_share 11 = .ok (.iload_n 2, 1) := by decide +kernel
theorem dX12_share_12 : decode cX12_share 12 = .ok (.iaload, 1) := by decide +kernel
theorem dX12_share_13 : decode cX12_share 13 = .ok (.istore 4, 2) := by decide +kernel
theorem dX12_share_15 : decode cX12_share 15 = .ok (.aload_n 0, 1) := by decide +kernel
theorem dX12_share_16 : decode cX12_share 16 = .ok (.iload_n 1, 1) := by decide +kernel
theorem dX12_share_17 : decode cX12_share 17 = .ok (.aload_n 0, 1) := by decide +kernel
theorem dX12_share_18 : decode cX12_share 18 = .ok (.getfield 29, 3) := by decide +kernel
theorem dX12_share_21 : decode cX12_share 21 = .ok (.invokevirtual 186, 3) := by decide +kernel
theorem dX12_share_24 : decode cX12_share 24 = .ok (.aload_n 0, 1) := by decide +kernel
theorem dX12_share_25 : decode cX12_share 25 = .ok (.iload_n 2, 1) := by decide +kernel
theorem dX12_share_26 : decode cX12_share 26 = .ok (.aload_n 0, 1) := by decide +kernel
theorem dX12_share_27 : decode cX12_share 27 = .ok (.getfield 32, 3) := by decide +kernel
theorem dX12_share_30 : decode cX12_share 30 = .ok (.invokevirtual 186, 3) := by decide +kernel
theorem dX12_share_33 : decode cX12_share 33 = .ok (.iconst 0, 1) := by decide +kernel
theorem dX12_share_34 : decode cX12_share 34 = .ok (.istore 5, 2) := by decide +kernel
theorem dX12_share_36 : decode cX12_share 36 = .ok (.iconst 1, 1) := by decide +kernel
theorem dX12_share_37 : decode cX12_share 37 = .ok (.istore 6, 2) := by decide +kernel
theorem dX12_share_39 : decode cX12_share 39 = .ok (.iload 6, 2) := by decide +kernel
theorem dX12_share_41 : decode cX12_share 41 = .ok (.ifCond .eq 168, 3) := by decide +kernel
theorem dX12_share_44 : decode cX12_share 44 = .ok (.iconst 0, 1) := by decide +kernel
theorem dX12_share_45 : decode cX12_share 45 = .ok (.istore 6, 2) := by decide +kernel
theorem dX12_share_47 : decode cX12_share 47 = .ok (.iconst 0, 1) := by decide +kernel
theorem dX12_share_48 : decode cX12_share 48 = .ok (.istore 7, 2) := by decide +kernel
theorem dX12_share_50 : decode cX12_share 50 = .ok (.iload 7, 2) := by decide +kernel
theorem dX12_share_52 : decode cX12_share 52 = .ok (.bipush 6, 2) := by decide +kernel
theorem dX12_share_54 : decode cX12_share 54 = .ok (.if_icmp .ge 152, 3) := by decide +kernel
theorem dX12_share_57 : decode cX12_share 57 = .ok (.iload 6, 2) := by decide +kernel
theorem dX12_share_59 : decode cX12_share 59 = .ok (.ifCond .ne 147, 3) := by decide +kernel
theorem dX12_share_62 : decode cX12_share 62 = .ok (.aload_n 0, 1) := by decide +kernel
theorem dX12_share_63 : decode cX12_share 63 = .ok (.bipush 24, 2) := by decide +kernel
theorem dX12_share_65 : decode cX12_share 65 = .ok (.invokevirtual 179, 3) := by decide +kernel
theorem dX12_share_68 : decode cX12_share 68 = .ok (.aload_n 0, 1) := by decide +kernel
theorem dX12_share_69 : decode cX12_share 69 = .ok (.aload_n 0, 1) := by decide +kernel
theorem dX12_share_70 : decode cX12_share 70 = .ok (.getfield 29, 3) := by decide +kernel
theorem dX12_share_73 : decode cX12_share 73 = .ok (.iload_n 3, 1) := by decide +kernel
theorem dX12_share_74 : decode cX12_share 74 = .ok (.iload 7, 2) := by decide +kernel
theorem dX12_share_76 : decode cX12_share 76 = .ok (.invokevirtual 175, 3) := by decide +kernel
theorem dX12_share_79 : decode cX12_share 79 = .ok (.istore 8, 2) := by decide +kernel
theorem dX12_share_81 : decode cX12_share 81 = .ok (.aload_n 0, 1) := by decide +kernel
theorem dX12_share_82 : decode cX12_share 82 = .ok (.aload_n 0, 1) := by decide +kernel
theorem dX12_share_83 : decode cX12_share 83 = .ok (.getfield 32, 3) := by decide +kernel
theorem dX12_share_86 : decode cX12_share 86 = .ok (.iload 4, 2) := by decide +kernel
theorem dX12_share_88 : decode cX12_share 88 = .ok (.iload 7, 2) := by decide +kernel
theorem dX12_share_90 : decode cX12_share 90 = .ok (.invokevirtual 175, 3) := by decide +kernel
theorem dX12_share_93 : decode cX12_share 93 = .ok (.istore 9, 2) := by decide +kernel
theorem dX12_share_95 : decode cX12_share 95 = .ok (.iload 8, 2) := by decide +kernel
theorem dX12_share_97 : decode cX12_share 97 = .ok (.iconst (-1), 1) := by decide +kernel
theorem dX12_share_98 : decode cX12_share 98 = .ok (.if_icmp .eq 102, 3) := by decide +kernel
theorem dX12_share_101 : decode cX12_share 101 = .ok (.iload 9, 2) := by decide +kernel
theorem dX12_share_103 : decode cX12_share 103 = .ok (.iconst (-1), 1) := by decide +kernel
theorem dX12_share_104 : decode cX12_share 104 = .ok (.if_icmp .eq 96, 3) := by decide +kernel
theorem dX12_share_107 : decode cX12_share 107 = .ok (.iconst 1, 1) := by decide +kernel
theorem dX12_share_108 : decode cX12_share 108 = .ok (.istore 6, 2) := by decide +kernel
theorem dX12_share_110 : decode cX12_share 110 = .ok (.iload 8, 2) := by decide +kernel
theorem dX12_share_112 : decode cX12_share 112 = .ok (.istore 10, 2) := by decide +kernel
theorem dX12_share_114 : decode cX12_share 114 = .ok (.iload 10, 2) := by decide +kernel
theorem dX12_share_116 : decode cX12_share 116 = .ok (.iconst 1, 1) := by decide +kernel
theorem dX12_share_117 : decode cX12_share 117 = .ok (.iadd, 1) := by decide +kernel
theorem dX12_share_118 : decode cX12_share 118 = .ok (.iload_n 3, 1) := by decide +kernel
theorem dX12_share_119 : decode cX12_share 119 = .ok (.if_icmp .ge 25, 3) := by decide +kernel
theorem dX12_share_122 : decode cX12_share 122 = .ok (.aload_n 0, 1) := by decide +kernel
theorem dX12_share_123 : decode cX12_share 123 = .ok (.getfield 29, 3) := by decide +kernel
theorem dX12_share_126 : decode cX12_share 126 = .ok (.iload 10, 2) := by decide +kernel
theorem dX12_share_128 : decode cX12_share 128 = .ok (.aload_n 0, 1) := by decide +kernel
theorem dX12_share_129 : decode cX12_share 129 = .ok (.getfield 29, 3) := by decide +kernel
theorem dX12_share_132 : decode cX12_share 132 = .ok (.iload 10, 2) := by decide +kernel
theorem dX12_share_134 : decode cX12_share 134 = .ok (.iconst 1, 1) := by decide +kernel
theorem dX12_share_135 : decode cX12_share 135 = .ok (.iadd, 1) := by decide +kernel
theorem dX12_share_136 : decode cX12_share 136 = .ok (.iaload, 1) := by decide +kernel
theorem dX12_share_137 : decode cX12_share 137 = .ok (.iastore, 1) := by decide +kernel
theorem dX12_share_138 : decode cX12_share 138 = .ok (.iinc 10 1, 3) := by decide +kernel
theorem dX12_share_141 : decode cX12_share 141 = .ok (.goto (-27), 3) := by decide +kernel
theorem dX12_share_144 : decode cX12_share 144 = .ok (.iload 9, 2) := by decide +kernel
theorem dX12_share_146 : decode cX12_share 146 = .ok (.istore 10, 2) := by decide +kernel
theorem dX12_share_148 : decode cX12_share 148 = .ok (.iload 10, 2) := by decide +kernel
theorem dX12_share_150 : decode cX12_share 150 = .ok (.iconst 1, 1) := by decide +kernel
theorem dX12_share_151 : decode cX12_share 151 = .ok (.iadd, 1) := by decide +kernel
theorem dX12_share_152 : decode cX12_share 152 = .ok (.iload 4, 2) := by decide +kernel
theorem dX12_share_154 : decode cX12_share 154 = .ok (.if_icmp .ge 25, 3) := by decide +kernel
theorem dX12_share_157 : decode cX12_share 157 = .ok (.aload_n 0, 1) := by decide +kernel
theorem dX12_share_158 : decode cX12_share 158 = .ok (.getfield 32, 3) := by decide +kernel
theorem dX12_share_161 : decode cX12_share 161 = .ok (.iload 10, 2) := by decide +kernel
theorem dX12_share_163 : decode cX12_share 163 = .ok (.aload_n 0, 1) := by decide +kernel
theorem dX12_share_164 : decode cX12_share 164 = .ok (.getfield 32, 3) := by decide +kernel
theorem dX12_share_167 : decode cX12_share 167 = .ok (.iload 10, 2) := by decide +kernel
theorem dX12_share_169 : decode cX12_share 169 = .ok (.iconst 1, 1) := by decide +kernel
theorem dX12_share_170 : decode cX12_share 170 = .ok (.iadd, 1) := by decide +kernel
theorem dX12_share_171 : decode cX12_share 171 = .ok (.iaload, 1) := by decide +kernel
theorem dX12_share_172 : decode cX12_share 172 = .ok (.iastore, 1) := by decide +kernel
theorem dX12_share_173 : decode cX12_share 173 = .ok (.iinc 10 1, 3) := by decide +kernel
theorem dX12_share_176 : decode cX12_share 176 = .ok (.goto (-28), 3) := by decide +kernel
theorem dX12_share_179 : decode cX12_share 179 = .ok (.iinc 3 (-1), 3) := by decide +kernel
theorem dX12_share_182 : decode cX12_share 182 = .ok (.iinc 4 (-1), 3) := by decide +kernel
theorem dX12_share_185 : decode cX12_share 185 = .ok (.aload_n 0, 1) := by decide +kernel
theorem dX12_share_186 : decode cX12_share 186 = .ok (.getfield 29, 3) := by decide +kernel
theorem dX12_share_189 : decode cX12_share 189 = .ok (.bipush 24, 2) := by decide +kernel
theorem dX12_share_191 : decode cX12_share 191 = .ok (.iload 5, 2) := by decide +kernel
theorem dX12_share_193 : decode cX12_share 193 = .ok (.iadd, 1) := by decide +kernel
theorem dX12_share_194 : decode cX12_share 194 = .ok (.iload 7, 2) := by decide +kernel
theorem dX12_share_196 : decode cX12_share 196 = .ok (.iastore, 1) := by decide +kernel
theorem dX12_share_197 : decode cX12_share 197 = .ok (.iinc 5 1, 3) := by decide +kernel
theorem dX12_share_200 : decode cX12_share 200 = .ok (.iinc 7 1, 3) := by decide +kernel
theorem dX12_share_203 : decode cX12_share 203 = .ok (.goto (-153), 3) := by decide +kernel
theorem dX12_share_206 : decode cX12_share 206 = .ok (.goto (-167), 3) := by decide +kernel
theorem dX12_share_209 : decode cX12_share 209 = .ok (.iload 5, 2) := by decide +kernel
theorem dX12_share_211 : decode cX12_share 211 = .ok (.ireturn, 1) := by decide +kernel
theorem dX12_shared_0 : decode cX12_shared 0 = .ok (.iload_n 1, 1) := by decide +kernel
theorem dX12_shared_1 : decode cX12_shared 1 = .ok (.iload_n 2, 1) := by decide +kernel
theorem dX12_shared_2 : decode cX12_shared 2 = .ok (.iload_n 3, 1) := by decide +kernel
theorem dX12_shared_3 : decode cX12_shared 3 = .ok (.invokestatic 223, 3) := by decide +kernel
theorem dX12_shared_6 : decode cX12_shared 6 = .ok (.ifCond .ne 6, 3) := by decide +kernel
theorem dX12_shared_9 : decode cX12_shared 9 = .ok (.bipush (-2), 2) := by decide +kernel
theorem dX12_shared_11 : decode cX12_shared 11 = .ok (.ireturn, 1) := by decide +kernel
theorem dX12_shared_12 : decode cX12_shared 12 = .ok (.aload_n 0, 1) := by decide +kernel
theorem dX12_shared_13 : decode cX12_shared 13 = .ok (.iload_n 1, 1) := by decide +kernel
theorem dX12_shared_14 : decode cX12_shared 14 = .ok (.iload_n 2, 1) := by decide +kernel
theorem dX12_shared_15 : decode cX12_shared 15 = .ok (.invokevirtual 229, 3) := by decide +kernel
theorem dX12_shared_18 : decode cX12_shared 18 = .ok (.istore 4, 2) := by decide +kernel
theorem dX12_shared_20 : decode cX12_shared 20 = .ok (.iconst 0, 1) := by decide +kernel
theorem dX12_shared_21 : decode cX12_shared 21 = .ok (.istore 5, 2) := by decide +kernel
theorem dX12_shared_23 : decode cX12_shared 23 = .ok (.iload 5, 2) := by decide +kernel
theorem dX12_shared_25 : decode cX12_shared 25 = .ok (.iload 4, 2) := by decide +kernel
theorem dX12_shared_27 : decode cX12_shared 27 = .ok (.if_icmp .ge 26, 3) := by decide +kernel
theorem dX12_shared_30 : decode cX12_shared 30 = .ok (.aload_n 0, 1) := by decide +kernel
theorem dX12_shared_31 : decode cX12_shared 31 = .ok (.getfield 32, 3) := by decide +kernel
theorem dX12_shared_34 : decode cX12_shared 34 = .ok (.iload 5, 2) := by decide +kernel
theorem dX12_shared_36 : decode cX12_shared 36 = .ok (.aload_n 0, 1) := by decide +kernel
theorem dX12_shared_37 : decode cX12_shared 37 = .ok (.getfield 29, 3) := by decide +kernel
theorem dX12_shared_40 : decode cX12_shared 40 = .ok (.bipush 24, 2) := by decide +kernel
theorem dX12_shared_42 : decode cX12_shared 42 = .ok (.iload 5, 2) := by decide +kernel
theorem dX12_shared_44 : decode cX12_shared 44 = .ok (.iadd, 1) := by decide +kernel
theorem dX12_shared_45 : decode cX12_shared 45 = .ok (.iaload, 1) := by decide +kernel
theorem dX12_shared_46 : decode cX12_shared 46 = .ok (.iastore, 1) := by decide +kernel
theorem dX12_shared_47 : decode cX12_shared 47 = .ok (.iinc 5 1, 3) := by decide +kernel
theorem dX12_shared_50 : decode cX12_shared 50 = .ok (.goto (-27), 3) := by decide +kernel
theorem dX12_shared_53 : decode cX12_shared 53 = .ok (.aload_n 0, 1) := by decide +kernel
theorem dX12_shared_54 : decode cX12_shared 54 = .ok (.iload_n 3, 1) := by decide +kernel
theorem dX12_shared_55 : decode cX12_shared 55 = .ok (.aload_n 0, 1) := by decide +kernel
theorem dX12_shared_56 : decode cX12_shared 56 = .ok (.aload_n 0, 1) := by decide +kernel
theorem dX12_shared_57 : decode cX12_shared 57 = .ok (.getfield 32, 3) := by decide +kernel
theorem dX12_shared_60 : decode cX12_shared 60 = .ok (.iload 4, 2) := by decide +kernel
theorem dX12_shared_62 : decode cX12_shared 62 = .ok (.invokevirtual 190, 3) := by decide +kernel
theorem dX12_shared_65 : decode cX12_shared 65 = .ok (.invokevirtual 226, 3) := by decide +kernel
theorem dX12_shared_68 : decode cX12_shared 68 = .ok (.ireturn, 1) := by decide +kernel
theorem dX12_both_0 : decode cX12_both 0 = .ok (.iload_n 1, 1) := by decide +kernel
theorem dX12_both_1 : decode cX12_both 1 = .ok (.iload_n 2, 1) := by decide +kernel
theorem dX12_both_2 : decode cX12_both 2 = .ok (.iload_n 3, 1) := by decide +kernel
theorem dX12_both_3 : decode cX12_both 3 = .ok (.invokestatic 223, 3) := by decide +kernel
theorem dX12_both_6 : decode cX12_both 6 = .ok (.ifCond .ne 6, 3) := by decide +kernel
theorem dX12_both_9 : decode cX12_both 9 = .ok (.bipush (-2), 2) := by decide +kernel
theorem dX12_both_11 : decode cX12_both 11 = .ok (.ireturn, 1) := by decide +kernel
theorem dX12_both_12 : decode cX12_both 12 = .ok (.aload_n 0, 1) := by decide +kernel
theorem dX12_both_13 : decode cX12_both 13 = .ok (.iload_n 1, 1) := by decide +kernel
theorem dX12_both_14 : decode cX12_both 14 = .ok (.iload_n 2, 1) := by decide +kernel
theorem dX12_both_15 : decode cX12_both 15 = .ok (.invokevirtual 229, 3) := by decide +kernel
theorem dX12_both_18 : decode cX12_both 18 = .ok (.istore 4, 2) := by decide +kernel
theorem dX12_both_20 : decode cX12_both 20 = .ok (.aload_n 0, 1) := by decide +kernel
theorem dX12_both_21 : decode cX12_both 21 = .ok (.getfield 17, 3) := by decide +kernel
theorem dX12_both_24 : decode cX12_both 24 = .ok (.iload_n 1, 1) := by decide +kernel
theorem dX12_both_25 : decode cX12_both 25 = .ok (.iaload, 1) := by decide +kernel
theorem dX12_both_26 : decode cX12_both 26 = .ok (.iload 4, 2) := by decide +kernel
theorem dX12_both_28 : decode cX12_both 28 = .ok (.isub, 1) := by decide +kernel
theorem dX12_both_29 : decode cX12_both 29 = .ok (.istore 5, 2) := by decide +kernel
theorem dX12_both_31 : decode cX12_both 31 = .ok (.aload_n 0, 1) := by decide +kernel
theorem dX12_both_32 : decode cX12_both 32 = .ok (.getfield 17, 3) := by decide +kernel
theorem dX12_both_35 : decode cX12_both 35 = .ok (.iload_n 2, 1) := by decide +kernel
theorem dX12_both_36 : decode cX12_both 36 = .ok (.iaload, 1) := by decide +kernel
theorem dX12_both_37 : decode cX12_both 37 = .ok (.iload 4, 2) := by decide +kernel
theorem dX12_both_39 : decode cX12_both 39 = .ok (.isub, 1) := by decide +kernel
theorem dX12_both_40 : decode cX12_both 40 = .ok (.istore 6, 2) := by decide +kernel
theorem dX12_both_42 : decode cX12_both 42 = .ok (.iconst 0, 1) := by decide +kernel
theorem dX12_both_43 : decode cX12_both 43 = .ok (.istore 7, 2) := by decide +kernel
theorem dX12_both_45 : decode cX12_both 45 = .ok (.iload 7, 2) := by decide +kernel
theorem dX12_both_47 : decode cX12_both 47 = .ok (.iload 5, 2) := by decide +kernel
theorem dX12_both_49 : decode cX12_both 49 = .ok (.if_icmp .ge 49, 3) := by decide +kernel
theorem dX12_both_52 : decode cX12_both 52 = .ok (.iconst 0, 1) := by decide +kernel
theorem dX12_both_53 : decode cX12_both 53 = .ok (.istore 8, 2) := by decide +kernel
theorem dX12_both_55 : decode cX12_both 55 = .ok (.iload 8, 2) := by decide +kernel
theorem dX12_both_57 : decode cX12_both 57 = .ok (.iload 6, 2) := by decide +kernel
theorem dX12_both_59 : decode cX12_both 59 = .ok (.if_icmp .ge 33, 3) := by decide +kernel
theorem dX12_both_62 : decode cX12_both 62 = .ok (.aload_n 0, 1) := by decide +kernel
theorem dX12_both_63 : decode cX12_both 63 = .ok (.aload_n 0, 1) := by decide +kernel
theorem dX12_both_64 : decode cX12_both 64 = .ok (.getfield 29, 3) := by decide +kernel
theorem dX12_both_67 : decode cX12_both 67 = .ok (.iload 7, 2) := by decide +kernel
theorem dX12_both_69 : decode cX12_both 69 = .ok (.iaload, 1) := by decide +kernel
theorem dX12_both_70 : decode cX12_both 70 = .ok (.aload_n 0, 1) := by decide +kernel
theorem dX12_both_71 : decode cX12_both 71 = .ok (.getfield 32, 3) := by decide +kernel
theorem dX12_both_74 : decode cX12_both 74 = .ok (.iload 8, 2) := by decide +kernel
theorem dX12_both_76 : decode cX12_both 76 = .ok (.iaload, 1) := by decide +kernel
theorem dX12_both_77 : decode cX12_both 77 = .ok (.invokevirtual 168, 3) := by decide +kernel
theorem dX12_both_80 : decode cX12_both 80 = .ok (.ifCond .ne 6, 3) := by decide +kernel
theorem dX12_both_83 : decode cX12_both 83 = .ok (.bipush (-4), 2) := by decide +kernel
theorem dX12_both_85 : decode cX12_both 85 = .ok (.ireturn, 1) := by decide +kernel
theorem dX12_both_86 : decode cX12_both 86 = .ok (.iinc 8 1, 3) := by decide +kernel
theorem dX12_both_89 : decode cX12_both 89 = .ok (.goto (-34), 3) := by decide +kernel
theorem dX12_both_92 : decode cX12_both 92 = .ok (.iinc 7 1, 3) := by decide +kernel
theorem dX12_both_95 : decode cX12_both 95 = .ok (.goto (-50), 3) := by decide +kernel
theorem dX12_both_98 : decode cX12_both 98 = .ok (.iload 4, 2) := by decide +kernel
theorem dX12_both_100 : decode cX12_both 100 = .ok (.iload 5, 2) := by decide +kernel
theorem dX12_both_102 : decode cX12_both 102 = .ok (.iadd, 1) := by decide +kernel
theorem dX12_both_103 : decode cX12_both 103 = .ok (.iload 6, 2) := by decide +kernel
theorem dX12_both_105 : decode cX12_both 105 = .ok (.iadd, 1) := by decide +kernel
theorem dX12_both_106 : decode cX12_both 106 = .ok (.bipush 24, 2) := by decide +kernel
theorem dX12_both_108 : decode cX12_both 108 = .ok (.if_icmp .le 6, 3) := by decide +kernel
theorem dX12_both_111 : decode cX12_both 111 = .ok (.bipush (-5), 2) := by decide +kernel
theorem dX12_both_113 : decode cX12_both 113 = .ok (.ireturn, 1) := by decide +kernel
theorem dX12_both_114 : decode cX12_both 114 = .ok (.iconst 0, 1) := by decide +kernel
theorem dX12_both_115 : decode cX12_both 115 = .ok (.istore 7, 2) := by decide +kernel
theorem dX12_both_117 : decode cX12_both 117 = .ok (.iload 7, 2) := by decide +kernel
theorem dX12_both_119 : decode cX12_both 119 = .ok (.iload 5, 2) := by decide +kernel
theorem dX12_both_121 : decode cX12_both 121 = .ok (.if_icmp .ge 29, 3) := by decide +kernel
theorem dX12_both_124 : decode cX12_both 124 = .ok (.aload_n 0, 1) := by decide +kernel
theorem dX12_both_125 : decode cX12_both 125 = .ok (.getfield 29, 3) := by decide +kernel
theorem dX12_both_128 : decode cX12_both 128 = .ok (.bipush 24, 2) := by decide +kernel
theorem dX12_both_130 : decode cX12_both 130 = .ok (.iload 4, 2) := by decide +kernel
theorem dX12_both_132 : decode cX12_both 132 = .ok (.iadd, 1) := by decide +kernel
theorem dX12_both_133 : decode cX12_both 133 = .ok (.iload 7, 2) := by decide +kernel
theorem dX12_both_135 : decode cX12_both 135 = .ok (.iadd, 1) := by decide +kernel
theorem dX12_both_136 : decode cX12_both 136 = .ok (.aload_n 0, 1) := by decide +kernel
theorem dX12_both_137 : decode cX12_both 137 = .ok (.getfield 29, 3) := by decide +kernel
theorem dX12_both_140 : decode cX12_both 140 = .ok (.iload 7, 2) := by decide +kernel
theorem dX12_both_142 : decode cX12_both 142 = .ok (.iaload, 1) := by decide +kernel
theorem dX12_both_143 : decode cX12_both 143 = .ok (.iastore, 1) := by decide +kernel
theorem dX12_both_144 : decode cX12_both 144 = .ok (.iinc 7 1, 3) := by decide +kernel
theorem dX12_both_147 : decode cX12_both 147 = .ok (.goto (-30), 3) := by decide +kernel
theorem dX12_both_150 : decode cX12_both 150 = .ok (.iconst 0, 1) := by decide +kernel
theorem dX12_both_151 : decode cX12_both 151 = .ok (.istore 7, 2) := by decide +kernel
theorem dX12_both_153 : decode cX12_both 153 = .ok (.iload 7, 2) := by decide +kernel
theorem dX12_both_155 : decode cX12_both 155 = .ok (.iload 4, 2) := by decide +kernel
theorem dX12_both_157 : decode cX12_both 157 = .ok (.iload 5, 2) := by decide +kernel
theorem dX12_both_159 : decode cX12_both 159 = .ok (.iadd, 1) := by decide +kernel
theorem dX12_both_160 : decode cX12_both 160 = .ok (.if_icmp .ge 26, 3) := by decide +kernel
theorem dX12_both_163 : decode cX12_both 163 = .ok (.aload_n 0, 1) := by decide +kernel
theorem dX12_both_164 : decode cX12_both 164 = .ok (.getfield 29, 3) := by decide +kernel
theorem dX12_both_167 : decode cX12_both 167 = .ok (.iload 7, 2) := by decide +kernel
theorem dX12_both_169 : decode cX12_both 169 = .ok (.aload_n 0, 1) := by decide +kernel
theorem dX12_both_170 : decode cX12_both 170 = .ok (.getfield 29, 3) := by decide +kernel
theorem dX12_both_173 : decode cX12_both 173 = .ok (.bipush 24, 2) := by decide +kernel
theorem dX12_both_175 : decode cX12_both 175 = .ok (.iload 7, 2) := by decide +kernel
theorem dX12_both_177 : decode cX12_both 177 = .ok (.iadd, 1) := by decide +kernel
theorem dX12_both_178 : decode cX12_both 178 = .ok (.iaload, 1) := by decide +kernel
theorem dX12_both_179 : decode cX12_both 179 = .ok (.iastore, 1) := by decide +kernel
theorem dX12_both_180 : decode cX12_both 180 = .ok (.iinc 7 1, 3) := by decide +kernel
theorem dX12_both_183 : decode cX12_both 183 = .ok (.goto (-30), 3) := by decide +kernel
theorem dX12_both_186 : decode cX12_both 186 = .ok (.iconst 0, 1) := by decide +kernel
theorem dX12_both_187 : decode cX12_both 187 = .ok (.istore 7, 2) := by decide +kernel
theorem dX12_both_189 : decode cX12_both 189 = .ok (.iload 7, 2) := by decide +kernel
theorem dX12_both_191 : decode cX12_both 191 = .ok (.iload 6, 2) := by decide +kernel
theorem dX12_both_193 : decode cX12_both 193 = .ok (.if_icmp .ge 29, 3) := by decide +kernel
theorem dX12_both_196 : decode cX12_both 196 = .ok (.aload_n 0, 1) := by decide +kernel
theorem dX12_both_197 : decode cX12_both 197 = .ok (.getfield 29, 3) := by decide +kernel
theorem dX12_both_200 : decode cX12_both 200 = .ok (.iload 4, 2) := by decide +kernel
theorem dX12_both_202 : decode cX12_both 202 = .ok (.iload 5, 2) := by decide +kernel
theorem dX12_both_204 : decode cX12_both 204 = .ok (.iadd, 1) := by decide +kernel
theorem dX12_both_205 : decode cX12_both 205 = .ok (.iload 7, 2) := by decide +kernel
theorem dX12_both_207 : decode cX12_both 207 = .ok (.iadd, 1) := by decide +kernel
theorem dX12_both_208 : decode cX12_both 208 = .ok (.aload_n 0, 1) := by decide +kernel
theorem dX12_both_209 : decode cX12_both 209 = .ok (.getfield 32, 3) := by decide +kernel
theorem dX12_both_212 : decode cX12_both 212 = .ok (.iload 7, 2) := by decide +kernel
theorem dX12_both_214 : decode cX12_both 214 = .ok (.iaload, 1) := by decide +kernel
theorem dX12_both_215 : decode cX12_both 215 = .ok (.iastore, 1) := by decide +kernel
theorem dX12_both_216 : decode cX12_both 216 = .ok (.iinc 7 1, 3) := by decide +kernel
theorem dX12_both_219 : decode cX12_both 219 = .ok (.goto (-30), 3) := by decide +kernel
theorem dX12_both_222 : decode cX12_both 222 = .ok (.aload_n 0, 1) := by decide +kernel
theorem dX12_both_223 : decode cX12_both 223 = .ok (.iload_n 3, 1) := by decide +kernel
theorem dX12_both_224 : decode cX12_both 224 = .ok (.aload_n 0, 1) := by decide +kernel
theorem dX12_both_225 : decode cX12_both 225 = .ok (.aload_n 0, 1) := by decide +kernel
theorem dX12_both_226 : decode cX12_both 226 = .ok (.getfield 29, 3) := by decide +kernel
theorem dX12_both_229 : decode cX12_both 229 = .ok (.iload 4, 2) := by decide +kernel
theorem dX12_both_231 : decode cX12_both 231 = .ok (.iload 5, 2) := by decide +kernel
theorem dX12_both_233 : decode cX12_both 233 = .ok (.iadd, 1) := by decide +kernel
theorem dX12_both_234 : decode cX12_both 234 = .ok (.iload 6, 2) := by decide +kernel
theorem dX12_both_236 : decode cX12_both 236 = .ok (.iadd, 1) := by decide +kernel
theorem dX12_both_237 : decode cX12_both 237 = .ok (.invokevirtual 190, 3) := by decide +kernel
theorem dX12_both_240 : decode cX12_both 240 = .ok (.invokevirtual 226, 3) := by decide +kernel
theorem dX12_both_243 : decode cX12_both 243 = .ok (.ireturn, 1) := by decide +kernel
theorem dX12_mirror_0 : decode cX12_mirror 0 = .ok (.iload_n 1, 1) := by decide +kernel
theorem dX12_mirror_1 : decode cX12_mirror 1 = .ok (.invokestatic 172, 3) := by decide +kernel
theorem dX12_mirror_4 : decode cX12_mirror 4 = .ok (.ifCond .ne 6, 3) := by decide +kernel
theorem dX12_mirror_7 : decode cX12_mirror 7 = .ok (.bipush (-2), 2) := by decide +kernel
theorem dX12_mirror_9 : decode cX12_mirror 9 = .ok (.ireturn, 1) := by decide +kernel
theorem dX12_mirror_10 : decode cX12_mirror 10 = .ok (.aload_n 0, 1) := by decide +kernel
theorem dX12_mirror_11 : decode cX12_mirror 11 = .ok (.iload_n 1, 1) := by decide +kernel
theorem dX12_mirror_12 : decode cX12_mirror 12 = .ok (.aload_n 0, 1) := by decide +kernel
theorem dX12_mirror_13 : decode cX12_mirror 13 = .ok (.getfield 29, 3) := by decide +kernel
theorem dX12_mirror_16 : decode cX12_mirror 16 = .ok (.invokevirtual 186, 3) := by decide +kernel
theorem dX12_mirror_19 : decode cX12_mirror 19 = .ok (.iconst 0, 1) := by decide +kernel
theorem dX12_mirror_20 : decode cX12_mirror 20 = .ok (.istore_n 2, 1) := by decide +kernel
theorem dX12_mirror_21 : decode cX12_mirror 21 = .ok (.iload_n 2, 1) := by decide +kernel
theorem dX12_mirror_22 : decode cX12_mirror 22 = .ok (.aload_n 0, 1) := by decide +kernel
theorem dX12_mirror_23 : decode cX12_mirror 23 = .ok (.getfield 17, 3) := by decide +kernel
theorem dX12_mirror_26 : decode cX12_mirror 26 = .ok (.iload_n 1, 1) := by decide +kernel
theorem dX12_mirror_27 : decode cX12_mirror 27 = .ok (.iaload, 1) := by decide +kernel
theorem dX12_mirror_28 : decode cX12_mirror 28 = .ok (.if_icmp .ge 35, 3) := by decide +kernel
theorem dX12_mirror_31 : decode cX12_mirror 31 = .ok (.aload_n 0, 1) := by decide +kernel
theorem dX12_mirror_32 : decode cX12_mirror 32 = .ok (.getfield 20, 3) := by decide +kernel
theorem dX12_mirror_35 : decode cX12_mirror 35 = .ok (.bipush 24, 2) := by decide +kernel
theorem dX12_mirror_37 : decode cX12_mirror 37 = .ok (.iload_n 1, 1) := by decide +kernel
theorem dX12_mirror_38 : decode cX12_mirror 38 = .ok (.imul, 1) := by decide +kernel
theorem dX12_mirror_39 : decode cX12_mirror 39 = .ok (.iload_n 2, 1) := by decide +kernel
theorem dX12_mirror_40 : decode cX12_mirror 40 = .ok (.iadd, 1) := by decide +kernel
theorem dX12_mirror_41 : decode cX12_mirror 41 = .ok (.aload_n 0, 1) := by decide +kernel
theorem dX12_mirror_42 : decode cX12_mirror 42 = .ok (.getfield 29, 3) := by decide +kernel
theorem dX12_mirror_45 : decode cX12_mirror 45 = .ok (.aload_n 0, 1) := by decide +kernel
theorem dX12_mirror_46 : decode cX12_mirror 46 = .ok (.getfield 17, 3) := by decide +kernel
theorem dX12_mirror_49 : decode cX12_mirror 49 = .ok (.iload_n 1, 1) := by decide +kernel
theorem dX12_mirror_50 : decode cX12_mirror 50 = .ok (.iaload, 1) := by decide +kernel
theorem dX12_mirror_51 : decode cX12_mirror 51 = .ok (.iconst 1, 1) := by decide +kernel
theorem dX12_mirror_52 : decode cX12_mirror 52 = .ok (.isub, 1) := by decide +kernel
theorem dX12_mirror_53 : decode cX12_mirror 53 = .ok (.iload_n 2, 1) := by decide +kernel
theorem dX12_mirror_54 : decode cX12_mirror 54 = .ok (.isub, 1) := by decide +kernel
theorem dX12_mirror_55 : decode cX12_mirror 55 = .ok (.iaload, 1) := by decide +kernel
theorem dX12_mirror_56 : decode cX12_mirror 56 = .ok (.iastore, 1) := by decide +kernel
theorem dX12_mirror_57 : decode cX12_mirror 57 = .ok (.iinc 2 1, 3) := by decide +kernel
theorem dX12_mirror_60 : decode cX12_mirror 60 = .ok (.goto (-39), 3) := by decide +kernel
theorem dX12_mirror_63 : decode cX12_mirror 63 = .ok (.aload_n 0, 1) := by decide +kernel
theorem dX12_mirror_64 : decode cX12_mirror 64 = .ok (.getfield 17, 3) := by decide +kernel
theorem dX12_mirror_67 : decode cX12_mirror 67 = .ok (.iload_n 1, 1) := by decide +kernel
theorem dX12_mirror_68 : decode cX12_mirror 68 = .ok (.iaload, 1) := by decide +kernel
theorem dX12_mirror_69 : decode cX12_mirror 69 = .ok (.ireturn, 1) := by decide +kernel
theorem dX12_part_0 : decode cX12_part 0 = .ok (.iload_n 1, 1) := by decide +kernel
theorem dX12_part_1 : decode cX12_part 1 = .ok (.invokestatic 172, 3) := by decide +kernel
theorem dX12_part_4 : decode cX12_part 4 = .ok (.ifCond .ne 6, 3) := by decide +kernel
theorem dX12_part_7 : decode cX12_part 7 = .ok (.bipush (-2), 2) := by decide +kernel
theorem dX12_part_9 : decode cX12_part 9 = .ok (.ireturn, 1) := by decide +kernel
theorem dX12_part_10 : decode cX12_part 10 = .ok (.iload_n 2, 1) := by decide +kernel
theorem dX12_part_11 : decode cX12_part 11 = .ok (.iconst (-1), 1) := by decide +kernel
theorem dX12_part_12 : decode cX12_part 12 = .ok (.if_icmp .ge 6, 3) := by decide +kernel
theorem dX12_part_15 : decode cX12_part 15 = .ok (.bipush (-3), 2) := by decide +kernel
theorem dX12_part_17 : decode cX12_part 17 = .ok (.ireturn, 1) := by decide +kernel
theorem dX12_part_18 : decode cX12_part 18 = .ok (.iconst 0, 1) := by decide +kernel
theorem dX12_part_19 : decode cX12_part 19 = .ok (.istore_n 3, 1) := by decide +kernel
theorem dX12_part_20 : decode cX12_part 20 = .ok (.iconst 0, 1) := by decide +kernel
theorem dX12_part_21 : decode cX12_part 21 = .ok (.istore 4, 2) := by decide +kernel
theorem dX12_part_23 : decode cX12_part 23 = .ok (.iload 4, 2) := by decide +kernel
theorem dX12_part_25 : decode cX12_part 25 = .ok (.aload_n 0, 1) := by decide +kernel
theorem dX12_part_26 : decode cX12_part 26 = .ok (.getfield 17, 3) := by decide +kernel
theorem dX12_part_29 : decode cX12_part 29 = .ok (.iload_n 1, 1) := by decide +kernel
theorem dX12_part_30 : decode cX12_part 30 = .ok (.iaload, 1) := by decide +kernel
theorem dX12_part_31 : decode cX12_part 31 = .ok (.if_icmp .ge 26, 3) := by decide +kernel
theorem dX12_part_34 : decode cX12_part 34 = .ok (.iload_n 3, 1) := by decide +kernel
theorem dX12_part_35 : decode cX12_part 35 = .ok (.iconst 1, 1) := by decide +kernel
theorem dX12_part_36 : decode cX12_part 36 = .ok (.aload_n 0, 1) := by decide +kernel
theorem dX12_part_37 : decode cX12_part 37 = .ok (.getfield 20, 3) := by decide +kernel
theorem dX12_part_40 : decode cX12_part 40 = .ok (.bipush 24, 2) := by decide +kernel
theorem dX12_part_42 : decode cX12_part 42 = .ok (.iload_n 1, 1) := by decide +kernel
theorem dX12_part_43 : decode cX12_part 43 = .ok (.imul, 1) := by decide +kernel
theorem dX12_part_44 : decode cX12_part 44 = .ok (.iload 4, 2) := by decide +kernel
theorem dX12_part_46 : decode cX12_part 46 = .ok (.iadd, 1) := by decide +kernel
theorem dX12_part_47 : decode cX12_part 47 = .ok (.iaload, 1) := by decide +kernel
theorem dX12_part_48 : decode cX12_part 48 = .ok (.ishl, 1) := by decide +kernel
theorem dX12_part_49 : decode cX12_part 49 = .ok (.ior, 1) := by decide +kernel
theorem dX12_part_50 : decode cX12_part 50 = .ok (.istore_n 3, 1) := by decide +kernel
theorem dX12_part_51 : decode cX12_part 51 = .ok (.iinc 4 1, 3) := by decide +kernel
theorem dX12_part_54 : decode cX12_part 54 = .ok (.goto (-31), 3) := by decide +kernel
theorem dX12_part_57 : decode cX12_part 57 = .ok (.iconst 0, 1) := by decide +kernel
theorem dX12_part_58 : decode cX12_part 58 = .ok (.istore 4, 2) := by decide +kernel
theorem dX12_part_60 : decode cX12_part 60 = .ok (.iconst 0, 1) := by decide +kernel
theorem dX12_part_61 : decode cX12_part 61 = .ok (.istore 5, 2) := by decide +kernel
theorem dX12_part_63 : decode cX12_part 63 = .ok (.iload 5, 2) := by decide +kernel
theorem dX12_part_65 : decode cX12_part 65 = .ok (.bipush 6, 2) := by decide +kernel
theorem dX12_part_67 : decode cX12_part 67 = .ok (.if_icmp .ge 149, 3) := by decide +kernel
theorem dX12_part_70 : decode cX12_part 70 = .ok (.iload_n 3, 1) := by decide +kernel
theorem dX12_part_71 : decode cX12_part 71 = .ok (.iload 5, 2) := by decide +kernel
theorem dX12_part_73 : decode cX12_part 73 = .ok (.ishr, 1) := by decide +kernel
theorem dX12_part_74 : decode cX12_part 74 = .ok (.iconst 1, 1) := by decide +kernel
theorem dX12_part_75 : decode cX12_part 75 = .ok (.iand, 1) := by decide +kernel
theorem dX12_part_76 : decode cX12_part 76 = .ok (.iconst 1, 1) := by decide +kernel
theorem dX12_part_77 : decode cX12_part 77 = .ok (.if_icmp .ne 133, 3) := by decide +kernel
theorem dX12_part_80 : decode cX12_part 80 = .ok (.iconst 1, 1) := by decide +kernel
theorem dX12_part_81 : decode cX12_part 81 = .ok (.iload 5, 2) := by decide +kernel
theorem dX12_part_83 : decode cX12_part 83 = .ok (.ishl, 1) := by decide +kernel
theorem dX12_part_84 : decode cX12_part 84 = .ok (.istore 6, 2) := by decide +kernel
theorem dX12_part_86 : decode cX12_part 86 = .ok (.iconst 0, 1) := by decide +kernel
theorem dX12_part_87 : decode cX12_part 87 = .ok (.istore 7, 2) := by decide +kernel
theorem dX12_part_89 : decode cX12_part 89 = .ok (.iload 7, 2) := by decide +kernel
theorem dX12_part_91 : decode cX12_part 91 = .ok (.bipush 6, 2) := by decide +kernel
theorem dX12_part_93 : decode cX12_part 93 = .ok (.if_icmp .ge 98, 3) := by decide +kernel
theorem dX12_part_96 : decode cX12_part 96 = .ok (.iconst 0, 1) := by decide +kernel
theorem dX12_part_97 : decode cX12_part 97 = .ok (.istore 8, 2) := by decide +kernel
theorem dX12_part_99 : decode cX12_part 99 = .ok (.iload 8, 2) := by decide +kernel
theorem dX12_part_101 : decode cX12_part 101 = .ok (.bipush 6, 2) := by decide +kernel
theorem dX12_part_103 : decode cX12_part 103 = .ok (.if_icmp .ge 82, 3) := by decide +kernel
theorem dX12_part_106 : decode cX12_part 106 = .ok (.iconst 0, 1) := by decide +kernel
theorem dX12_part_107 : decode cX12_part 107 = .ok (.istore 9, 2) := by decide +kernel
theorem dX12_part_109 : decode cX12_part 109 = .ok (.iload 9, 2) := by decide +kernel
theorem dX12_part_111 : decode cX12_part 111 = .ok (.bipush 6, 2) := by decide +kernel
theorem dX12_part_113 : decode cX12_part 113 = .ok (.if_icmp .ge 66, 3) := by decide +kernel
theorem dX12_part_116 : decode cX12_part 116 = .ok (.iload 6, 2) := by decide +kernel
theorem dX12_part_118 : decode cX12_part 118 = .ok (.iload 8, 2) := by decide +kernel
theorem dX12_part_120 : decode cX12_part 120 = .ok (.ishr, 1) := by decide +kernel
theorem dX12_part_121 : decode cX12_part 121 = .ok (.iconst 1, 1) := by decide +kernel
theorem dX12_part_122 : decode cX12_part 122 = .ok (.iand, 1) := by decide +kernel
theorem dX12_part_123 : decode cX12_part 123 = .ok (.iconst 1, 1) := by decide +kernel
theorem dX12_part_124 : decode cX12_part 124 = .ok (.if_icmp .ne 28, 3) := by decide +kernel
theorem dX12_part_127 : decode cX12_part 127 = .ok (.iload_n 3, 1) := by decide +kernel
theorem dX12_part_128 : decode cX12_part 128 = .ok (.iload 9, 2) := by decide +kernel
theorem dX12_part_130 : decode cX12_part 130 = .ok (.ishr, 1) := by decide +kernel
theorem dX12_part_131 : decode cX12_part 131 = .ok (.iconst 1, 1) := by decide +kernel
theorem dX12_part_132 : decode cX12_part 132 = .ok (.iand, 1) := by decide +kernel
theorem dX12_part_133 : decode cX12_part 133 = .ok (.iconst 1, 1) := by decide +kernel
theorem dX12_part_134 : decode cX12_part 134 = .ok (.if_icmp .ne 18, 3) := by decide +kernel
theorem dX12_part_137 : decode cX12_part 137 = .ok (.aload_n 0, 1) := by decide +kernel
theorem dX12_part_138 : decode cX12_part 138 = .ok (.iload 8, 2) := by decide +kernel
theorem dX12_part_140 : decode cX12_part 140 = .ok (.iload 9, 2) := by decide +kernel
theorem dX12_part_142 : decode cX12_part 142 = .ok (.invokevirtual 168, 3) := by decide +kernel
theorem dX12_part_145 : decode cX12_part 145 = .ok (.ifCond .ne 7, 3) := by decide +kernel
theorem dX12_part_148 : decode cX12_part 148 = .ok (.iconst 1, 1) := by decide +kernel
theorem dX12_part_149 : decode cX12_part 149 = .ok (.goto 4, 3) := by decide +kernel
theorem dX12_part_152 : decode cX12_part 152 = .ok (.iconst 0, 1) := by decide +kernel
theorem dX12_part_153 : decode cX12_part 153 = .ok (.istore 10, 2) := by decide +kernel
theorem dX12_part_155 : decode cX12_part 155 = .ok (.iload 6, 2) := by decide +kernel
theorem dX12_part_157 : decode cX12_part 157 = .ok (.iload 10, 2) := by decide +kernel
theorem dX12_part_159 : decode cX12_part 159 = .ok (.ifCond .eq 10, 3) := by decide +kernel
theorem dX12_part_162 : decode cX12_part 162 = .ok (.iconst 1, 1) := by decide +kernel
theorem dX12_part_163 : decode cX12_part 163 = .ok (.iload 9, 2) := by decide +kernel
theorem dX12_part_165 : decode cX12_part 165 = .ok (.ishl, 1) := by decide +kernel
theorem dX12_part_166 : decode cX12_part 166 = .ok (.goto 4, 3) := by decide +kernel
theorem dX12_part_169 : decode cX12_part 169 = .ok (.iconst 0, 1) := by decide +kernel
theorem dX12_part_170 : decode cX12_part 170 = .ok (.ior, 1) := by decide +kernel
theorem dX12_part_171 : decode cX12_part 171 = .ok (.istore 6, 2) := by decide +kernel
theorem dX12_part_173 : decode cX12_part 173 = .ok (.iinc 9 1, 3) := by decide +kernel
theorem dX12_part_176 : decode cX12_part 176 = .ok (.goto (-67), 3) := by decide +kernel
theorem dX12_part_179 : decode cX12_part 179 = .ok (.iinc 8 1, 3) := by decide +kernel
theorem dX12_part_182 : decode cX12_part 182 = .ok (.goto (-83), 3) := by decide +kernel
theorem dX12_part_185 : decode cX12_part 185 = .ok (.iinc 7 1, 3) := by decide +kernel
theorem dX12_part_188 : decode cX12_part 188 = .ok (.goto (-99), 3) := by decide +kernel
theorem dX12_part_191 : decode cX12_part 191 = .ok (.iload_n 3, 1) := by decide +kernel
theorem dX12_part_192 : decode cX12_part 192 = .ok (.iload 6, 2) := by decide +kernel
theorem dX12_part_194 : decode cX12_part 194 = .ok (.iconst (-1), 1) := by decide +kernel
theorem dX12_part_195 : decode cX12_part 195 = .ok (.ixor, 1) := by decide +kernel
theorem dX12_part_196 : decode cX12_part 196 = .ok (.iand, 1) := by decide +kernel
theorem dX12_part_197 : decode cX12_part 197 = .ok (.istore_n 3, 1) := by decide +kernel
theorem dX12_part_198 : decode cX12_part 198 = .ok (.iload 4, 2) := by decide +kernel
theorem dX12_part_200 : decode cX12_part 200 = .ok (.iload_n 2, 1) := by decide +kernel
theorem dX12_part_201 : decode cX12_part 201 = .ok (.if_icmp .ne 6, 3) := by decide +kernel
theorem dX12_part_204 : decode cX12_part 204 = .ok (.iload 6, 2) := by decide +kernel
theorem dX12_part_206 : decode cX12_part 206 = .ok (.ireturn, 1) := by decide +kernel
theorem dX12_part_207 : decode cX12_part 207 = .ok (.iinc 4 1, 3) := by decide +kernel
theorem dX12_part_210 : decode cX12_part 210 = .ok (.iinc 5 1, 3) := by decide +kernel
theorem dX12_part_213 : decode cX12_part 213 = .ok (.goto (-150), 3) := by decide +kernel
theorem dX12_part_216 : decode cX12_part 216 = .ok (.iload_n 2, 1) := by decide +kernel
theorem dX12_part_217 : decode cX12_part 217 = .ok (.iconst (-1), 1) := by decide +kernel
theorem dX12_part_218 : decode cX12_part 218 = .ok (.if_icmp .ne 8, 3) := by decide +kernel
theorem dX12_part_221 : decode cX12_part 221 = .ok (.iload 4, 2) := by decide +kernel
theorem dX12_part_223 : decode cX12_part 223 = .ok (.goto 4, 3) := by decide +kernel
theorem dX12_part_226 : decode cX12_part 226 = .ok (.iconst (-1), 1) := by decide +kernel
theorem dX12_part_227 : decode cX12_part 227 = .ok (.ireturn, 1) := by decide +kernel
theorem dX12_isTimes_0 : decode cX12_isTimes 0 = .ok (.aload_n 0, 1) := by decide +kernel
theorem dX12_isTimes_1 : decode cX12_isTimes 1 = .ok (.iload_n 1, 1) := by decide +kernel
theorem dX12_isTimes_2 : decode cX12_isTimes 2 = .ok (.aload_n 0, 1) := by decide +kernel
theorem dX12_isTimes_3 : decode cX12_isTimes 3 = .ok (.getfield 29, 3) := by decide +kernel
theorem dX12_isTimes_6 : decode cX12_isTimes 6 = .ok (.invokevirtual 186, 3) := by decide +kernel
theorem dX12_isTimes_9 : decode cX12_isTimes 9 = .ok (.iconst 0, 1) := by decide +kernel
theorem dX12_isTimes_10 : decode cX12_isTimes 10 = .ok (.istore_n 3, 1) := by decide +kernel
theorem dX12_isTimes_11 : decode cX12_isTimes 11 = .ok (.iconst 0, 1) := by decide +kernel
theorem dX12_isTimes_12 : decode cX12_isTimes 12 = .ok (.istore 4, 2) := by decide +kernel
theorem dX12_isTimes_14 : decode cX12_isTimes 14 = .ok (.iload 4, 2) := by decide +kernel
theorem dX12_isTimes_16 : decode cX12_isTimes 16 = .ok (.bipush 6, 2) := by decide +kernel
theorem dX12_isTimes_18 : decode cX12_isTimes 18 = .ok (.if_icmp .ge 25, 3) := by decide +kernel
theorem dX12_isTimes_21 : decode cX12_isTimes 21 = .ok (.aload_n 0, 1) := by decide +kernel
theorem dX12_isTimes_22 : decode cX12_isTimes 22 = .ok (.getfield 56, 3) := by decide +kernel
theorem dX12_isTimes_25 : decode cX12_isTimes 25 = .ok (.iload 4, 2) := by decide +kernel
theorem dX12_isTimes_27 : decode cX12_isTimes 27 = .ok (.iconst 0, 1) := by decide +kernel
theorem dX12_isTimes_28 : decode cX12_isTimes 28 = .ok (.iastore, 1) := by decide +kernel
theorem dX12_isTimes_29 : decode cX12_isTimes 29 = .ok (.aload_n 0, 1) := by decide +kernel
theorem dX12_isTimes_30 : decode cX12_isTimes 30 = .ok (.getfield 59, 3) := by decide +kernel
theorem dX12_isTimes_33 : decode cX12_isTimes 33 = .ok (.iload 4, 2) := by decide +kernel
theorem dX12_isTimes_35 : decode cX12_isTimes 35 = .ok (.iconst 0, 1) := by decide +kernel
theorem dX12_isTimes_36 : decode cX12_isTimes 36 = .ok (.iastore, 1) := by decide +kernel
theorem dX12_isTimes_37 : decode cX12_isTimes 37 = .ok (.iinc 4 1, 3) := by decide +kernel
theorem dX12_isTimes_40 : decode cX12_isTimes 40 = .ok (.goto (-26), 3) := by decide +kernel
theorem dX12_isTimes_43 : decode cX12_isTimes 43 = .ok (.iconst 0, 1) := by decide +kernel
theorem dX12_isTimes_44 : decode cX12_isTimes 44 = .ok (.istore 4, 2) := by decide +kernel
theorem dX12_isTimes_46 : decode cX12_isTimes 46 = .ok (.iload 4, 2) := by decide +kernel
theorem dX12_isTimes_48 : decode cX12_isTimes 48 = .ok (.aload_n 0, 1) := by decide +kernel
theorem dX12_isTimes_49 : decode cX12_isTimes 49 = .ok (.getfield 17, 3) := by decide +kernel
theorem dX12_isTimes_52 : decode cX12_isTimes 52 = .ok (.iload_n 1, 1) := by decide +kernel
theorem dX12_isTimes_53 : decode cX12_isTimes 53 = .ok (.iaload, 1) := by decide +kernel
theorem dX12_isTimes_54 : decode cX12_isTimes 54 = .ok (.if_icmp .ge 25, 3) := by decide +kernel
theorem dX12_isTimes_57 : decode cX12_isTimes 57 = .ok (.aload_n 0, 1) := by decide +kernel
theorem dX12_isTimes_58 : decode cX12_isTimes 58 = .ok (.getfield 56, 3) := by decide +kernel
theorem dX12_isTimes_61 : decode cX12_isTimes 61 = .ok (.aload_n 0, 1) := by decide +kernel
theorem dX12_isTimes_62 : decode cX12_isTimes 62 = .ok (.getfield 29, 3) := by decide +kernel
theorem dX12_isTimes_65 : decode cX12_isTimes 65 = .ok (.iload 4, 2) := by decide +kernel
theorem dX12_isTimes_67 : decode cX12_isTimes 67 = .ok (.iaload, 1) := by decide +kernel
theorem dX12_isTimes_68 : decode cX12_isTimes 68 = .ok (.dup2, 1) := by decide +kernel
theorem dX12_isTimes_69 : decode cX12_isTimes 69 = .ok (.iaload, 1) := by decide +kernel
theorem dX12_isTimes_70 : decode cX12_isTimes 70 = .ok (.iconst 1, 1) := by decide +kernel
theorem dX12_isTimes_71 : decode cX12_isTimes 71 = .ok (.iadd, 1) := by decide +kernel
theorem dX12_isTimes_72 : decode cX12_isTimes 72 = .ok (.iastore, 1) := by decide +kernel
theorem dX12_isTimes_73 : decode cX12_isTimes 73 = .ok (.iinc 4 1, 3) := by decide +kernel
theorem dX12_isTimes_76 : decode cX12_isTimes 76 = .ok (.goto (-30), 3) := by decide +kernel
theorem dX12_isTimes_79 : decode cX12_isTimes 79 = .ok (.iconst 0, 1) := by decide +kernel
theorem dX12_isTimes_80 : decode cX12_isTimes 80 = .ok (.istore 4, 2) := by decide +kernel
theorem dX12_isTimes_82 : decode cX12_isTimes 82 = .ok (.iload 4, 2) := by decide +kernel
theorem dX12_isTimes_84 : decode cX12_isTimes 84 = .ok (.bipush 6, 2) := by decide +kernel
theorem dX12_isTimes_86 : decode cX12_isTimes 86 = .ok (.if_icmp .ge 23, 3) := by decide +kernel
theorem dX12_isTimes_89 : decode cX12_isTimes 89 = .ok (.aload_n 0, 1) := by decide +kernel
theorem dX12_isTimes_90 : decode cX12_isTimes 90 = .ok (.getfield 56, 3) := by decide +kernel
theorem dX12_isTimes_93 : decode cX12_isTimes 93 = .ok (.iload 4, 2) := by decide +kernel
theorem dX12_isTimes_95 : decode cX12_isTimes 95 = .ok (.iaload, 1) := by decide +kernel
theorem dX12_isTimes_96 : decode cX12_isTimes 96 = .ok (.iload_n 2, 1) := by decide +kernel
theorem dX12_isTimes_97 : decode cX12_isTimes 97 = .ok (.irem, 1) := by decide +kernel
theorem dX12_isTimes_98 : decode cX12_isTimes 98 = .ok (.ifCond .eq 5, 3) := by decide +kernel
theorem dX12_isTimes_101 : decode cX12_isTimes 101 = .ok (.iconst 0, 1) := by decide +kernel
theorem dX12_isTimes_102 : decode cX12_isTimes 102 = .ok (.ireturn, 1) := by decide +kernel
theorem dX12_isTimes_103 : decode cX12_isTimes 103 = .ok (.iinc 4 1, 3) := by decide +kernel
theorem dX12_isTimes_106 : decode cX12_isTimes 106 = .ok (.goto (-24), 3) := by decide +kernel
theorem dX12_isTimes_109 : decode cX12_isTimes 109 = .ok (.iconst 0, 1) := by decide +kernel
theorem dX12_isTimes_110 : decode cX12_isTimes 110 = .ok (.istore 4, 2) := by decide +kernel
theorem dX12_isTimes_112 : decode cX12_isTimes 112 = .ok (.iload 4, 2) := by decide +kernel
theorem dX12_isTimes_114 : decode cX12_isTimes 114 = .ok (.aload_n 0, 1) := by decide +kernel
theorem dX12_isTimes_115 : decode cX12_isTimes 115 = .ok (.getfield 17, 3) := by decide +kernel
theorem dX12_isTimes_118 : decode cX12_isTimes 118 = .ok (.iload_n 1, 1) := by decide +kernel
theorem dX12_isTimes_119 : decode cX12_isTimes 119 = .ok (.iaload, 1) := by decide +kernel
theorem dX12_isTimes_120 : decode cX12_isTimes 120 = .ok (.if_icmp .ge 70, 3) := by decide +kernel
theorem dX12_isTimes_123 : decode cX12_isTimes 123 = .ok (.aload_n 0, 1) := by decide +kernel
theorem dX12_isTimes_124 : decode cX12_isTimes 124 = .ok (.getfield 59, 3) := by decide +kernel
theorem dX12_isTimes_127 : decode cX12_isTimes 127 = .ok (.aload_n 0, 1) := by decide +kernel
theorem dX12_isTimes_128 : decode cX12_isTimes 128 = .ok (.getfield 29, 3) := by decide +kernel
theorem dX12_isTimes_131 : decode cX12_isTimes 131 = .ok (.iload 4, 2) := by decide +kernel
theorem dX12_isTimes_133 : decode cX12_isTimes 133 = .ok (.iaload, 1) := by decide +kernel
theorem dX12_isTimes_134 : decode cX12_isTimes 134 = .ok (.iaload, 1) := by decide +kernel
theorem dX12_isTimes_135 : decode cX12_isTimes 135 = .ok (.aload_n 0, 1) := by decide +kernel
theorem dX12_isTimes_136 : decode cX12_isTimes 136 = .ok (.getfield 56, 3) := by decide +kernel
theorem dX12_isTimes_139 : decode cX12_isTimes 139 = .ok (.aload_n 0, 1) := by decide +kernel
theorem dX12_isTimes_140 : decode cX12_isTimes 140 = .ok (.getfield 29, 3) := by decide +kernel
theorem dX12_isTimes_143 : decode cX12_isTimes 143 = .ok (.iload 4, 2) := by decide +kernel
theorem dX12_isTimes_145 : decode cX12_isTimes 145 = .ok (.iaload, 1) := by decide +kernel
theorem dX12_isTimes_146 : decode cX12_isTimes 146 = .ok (.iaload, 1) := by decide +kernel
theorem dX12_isTimes_147 : decode cX12_isTimes 147 = .ok (.iload_n 2, 1) := by decide +kernel
theorem dX12_isTimes_148 : decode cX12_isTimes 148 = .ok (.idiv, 1) := by decide +kernel
theorem dX12_isTimes_149 : decode cX12_isTimes 149 = .ok (.if_icmp .ge 35, 3) := by decide +kernel
theorem dX12_isTimes_152 : decode cX12_isTimes 152 = .ok (.aload_n 0, 1) := by decide +kernel
theorem dX12_isTimes_153 : decode cX12_isTimes 153 = .ok (.getfield 32, 3) := by decide +kernel
theorem dX12_isTimes_156 : decode cX12_isTimes 156 = .ok (.iload_n 3, 1) := by decide +kernel
theorem dX12_isTimes_157 : decode cX12_isTimes 157 = .ok (.aload_n 0, 1) := by decide +kernel
theorem dX12_isTimes_158 : decode cX12_isTimes 158 = .ok (.getfield 29, 3) := by decide +kernel
theorem dX12_isTimes_161 : decode cX12_isTimes 161 = .ok (.iload 4, 2) := by decide +kernel
theorem dX12_isTimes_163 : decode cX12_isTimes 163 = .ok (.iaload, 1) := by decide +kernel
theorem dX12_isTimes_164 : decode cX12_isTimes 164 = .ok (.iastore, 1) := by decide +kernel
theorem dX12_isTimes_165 : decode cX12_isTimes 165 = .ok (.iinc 3 1, 3) := by decide +kernel
theorem dX12_isTimes_168 : decode cX12_isTimes 168 = .ok (.aload_n 0, 1) := by decide +kernel
theorem dX12_isTimes_169 : decode cX12_isTimes 169 = .ok (.getfield 59, 3) := by decide +kernel
theorem dX12_isTimes_172 : decode cX12_isTimes 172 = .ok (.aload_n 0, 1) := by decide +kernel
theorem dX12_isTimes_173 : decode cX12_isTimes 173 = .ok (.getfield 29, 3) := by decide +kernel
theorem dX12_isTimes_176 : decode cX12_isTimes 176 = .ok (.iload 4, 2) := by decide +kernel
theorem dX12_isTimes_178 : decode cX12_isTimes 178 = .ok (.iaload, 1) := by decide +kernel
theorem dX12_isTimes_179 : decode cX12_isTimes 179 = .ok (.dup2, 1) := by decide +kernel
theorem dX12_isTimes_180 : decode cX12_isTimes 180 = .ok (.iaload, 1) := by decide +kernel
theorem dX12_isTimes_181 : decode cX12_isTimes 181 = .ok (.iconst 1, 1) := by decide +kernel
theorem dX12_isTimes_182 : decode cX12_isTimes 182 = .ok (.iadd, 1) := by decide +kernel
theorem dX12_isTimes_183 : decode cX12_isTimes 183 = .ok (.iastore, 1) := by decide +kernel
theorem dX12_isTimes_184 : decode cX12_isTimes 184 = .ok (.iinc 4 1, 3) := by decide +kernel
theorem dX12_isTimes_187 : decode cX12_isTimes 187 = .ok (.goto (-75), 3) := by decide +kernel
theorem dX12_isTimes_190 : decode cX12_isTimes 190 = .ok (.iload_n 3, 1) := by decide +kernel
theorem dX12_isTimes_191 : decode cX12_isTimes 191 = .ok (.istore 4, 2) := by decide +kernel
theorem dX12_isTimes_193 : decode cX12_isTimes 193 = .ok (.iload 4, 2) := by decide +kernel
theorem dX12_isTimes_195 : decode cX12_isTimes 195 = .ok (.aload_n 0, 1) := by decide +kernel
theorem dX12_isTimes_196 : decode cX12_isTimes 196 = .ok (.getfield 17, 3) := by decide +kernel
end
section
theorem dX12_isTimes_199 : decode cX12_isTimes 199 = .ok (.iload_n 1, 1) := by decide +kernel
theorem dX12_isTimes_200 : decode cX12_isTimes 200 = .ok (.iaload, 1) := by decide +kernel
theorem dX12_isTimes_201 : decode cX12_isTimes 201 = .ok (.if_icmp .ge 25, 3) := by decide +kernel
theorem dX12_isTimes_204 : decode cX12_isTimes 204 = .ok (.aload_n 0, 1) := by decide +kernel
theorem dX12_isTimes_205 : decode cX12_isTimes 205 = .ok (.getfield 32, 3) := by decide +kernel
theorem dX12_isTimes_208 : decode cX12_isTimes 208 = .ok (.iload 4, 2) := by decide +kernel
theorem dX12_isTimes_210 : decode cX12_isTimes 210 = .ok (.aload_n 0, 1) := by decide +kernel
theorem dX12_isTimes_211 : decode cX12_isTimes 211 = .ok (.getfield 32, 3) := by decide +kernel
theorem dX12_isTimes_214 : decode cX12_isTimes 214 = .ok (.iload 4, 2) := by decide +kernel
theorem dX12_isTimes_216 : decode cX12_isTimes 216 = .ok (.iload_n 3, 1) := by decide +kernel
theorem dX12_isTimes_217 : decode cX12_isTimes 217 = .ok (.isub, 1) := by decide +kernel
theorem dX12_isTimes_218 : decode cX12_isTimes 218 = .ok (.iaload, 1) := by decide +kernel
theorem dX12_isTimes_219 : decode cX12_isTimes 219 = .ok (.iastore, 1) := by decide +kernel
theorem dX12_isTimes_220 : decode cX12_isTimes 220 = .ok (.iinc 4 1, 3) := by decide +kernel
theorem dX12_isTimes_223 : decode cX12_isTimes 223 = .ok (.goto (-30), 3) := by decide +kernel
theorem dX12_isTimes_226 : decode cX12_isTimes 226 = .ok (.aload_n 0, 1) := by decide +kernel
theorem dX12_isTimes_227 : decode cX12_isTimes 227 = .ok (.aload_n 0, 1) := by decide +kernel
theorem dX12_isTimes_228 : decode cX12_isTimes 228 = .ok (.getfield 17, 3) := by decide +kernel
theorem dX12_isTimes_231 : decode cX12_isTimes 231 = .ok (.iload_n 1, 1) := by decide +kernel
theorem dX12_isTimes_232 : decode cX12_isTimes 232 = .ok (.iaload, 1) := by decide +kernel
theorem dX12_isTimes_233 : decode cX12_isTimes 233 = .ok (.invokevirtual 179, 3) := by decide +kernel
theorem dX12_isTimes_236 : decode cX12_isTimes 236 = .ok (.iconst 0, 1) := by decide +kernel
theorem dX12_isTimes_237 : decode cX12_isTimes 237 = .ok (.istore 4, 2) := by decide +kernel
theorem dX12_isTimes_239 : decode cX12_isTimes 239 = .ok (.iload 4, 2) := by decide +kernel
theorem dX12_isTimes_241 : decode cX12_isTimes 241 = .ok (.aload_n 0, 1) := by decide +kernel
theorem dX12_isTimes_242 : decode cX12_isTimes 242 = .ok (.getfield 17, 3) := by decide +kernel
theorem dX12_isTimes_245 : decode cX12_isTimes 245 = .ok (.iload_n 1, 1) := by decide +kernel
theorem dX12_isTimes_246 : decode cX12_isTimes 246 = .ok (.iaload, 1) := by decide +kernel
theorem dX12_isTimes_247 : decode cX12_isTimes 247 = .ok (.if_icmp .ge 48, 3) := by decide +kernel
theorem dX12_isTimes_250 : decode cX12_isTimes 250 = .ok (.aload_n 0, 1) := by decide +kernel
theorem dX12_isTimes_251 : decode cX12_isTimes 251 = .ok (.aload_n 0, 1) := by decide +kernel
theorem dX12_isTimes_252 : decode cX12_isTimes 252 = .ok (.getfield 29, 3) := by decide +kernel
theorem dX12_isTimes_255 : decode cX12_isTimes 255 = .ok (.aload_n 0, 1) := by decide +kernel
theorem dX12_isTimes_256 : decode cX12_isTimes 256 = .ok (.getfield 17, 3) := by decide +kernel
theorem dX12_isTimes_259 : decode cX12_isTimes 259 = .ok (.iload_n 1, 1) := by decide +kernel
theorem dX12_isTimes_260 : decode cX12_isTimes 260 = .ok (.iaload, 1) := by decide +kernel
theorem dX12_isTimes_261 : decode cX12_isTimes 261 = .ok (.aload_n 0, 1) := by decide +kernel
theorem dX12_isTimes_262 : decode cX12_isTimes 262 = .ok (.getfield 32, 3) := by decide +kernel
theorem dX12_isTimes_265 : decode cX12_isTimes 265 = .ok (.iload 4, 2) := by decide +kernel
theorem dX12_isTimes_267 : decode cX12_isTimes 267 = .ok (.iaload, 1) := by decide +kernel
theorem dX12_isTimes_268 : decode cX12_isTimes 268 = .ok (.invokevirtual 175, 3) := by decide +kernel
theorem dX12_isTimes_271 : decode cX12_isTimes 271 = .ok (.istore 5, 2) := by decide +kernel
theorem dX12_isTimes_273 : decode cX12_isTimes 273 = .ok (.iload 5, 2) := by decide +kernel
theorem dX12_isTimes_275 : decode cX12_isTimes 275 = .ok (.iconst (-1), 1) := by decide +kernel
theorem dX12_isTimes_276 : decode cX12_isTimes 276 = .ok (.if_icmp .ne 5, 3) := by decide +kernel
theorem dX12_isTimes_279 : decode cX12_isTimes 279 = .ok (.iconst 0, 1) := by decide +kernel
theorem dX12_isTimes_280 : decode cX12_isTimes 280 = .ok (.ireturn, 1) := by decide +kernel
theorem dX12_isTimes_281 : decode cX12_isTimes 281 = .ok (.aload_n 0, 1) := by decide +kernel
theorem dX12_isTimes_282 : decode cX12_isTimes 282 = .ok (.getfield 38, 3) := by decide +kernel
theorem dX12_isTimes_285 : decode cX12_isTimes 285 = .ok (.iload 5, 2) := by decide +kernel
theorem dX12_isTimes_287 : decode cX12_isTimes 287 = .ok (.iconst 1, 1) := by decide +kernel
theorem dX12_isTimes_288 : decode cX12_isTimes 288 = .ok (.bastore, 1) := by decide +kernel
theorem dX12_isTimes_289 : decode cX12_isTimes 289 = .ok (.iinc 4 1, 3) := by decide +kernel
theorem dX12_isTimes_292 : decode cX12_isTimes 292 = .ok (.goto (-53), 3) := by decide +kernel
theorem dX12_isTimes_295 : decode cX12_isTimes 295 = .ok (.iconst 1, 1) := by decide +kernel
theorem dX12_isTimes_296 : decode cX12_isTimes 296 = .ok (.ireturn, 1) := by decide +kernel
theorem dX12_root_0 : decode cX12_root 0 = .ok (.iload_n 1, 1) := by decide +kernel
theorem dX12_root_1 : decode cX12_root 1 = .ok (.invokestatic 172, 3) := by decide +kernel
theorem dX12_root_4 : decode cX12_root 4 = .ok (.ifCond .ne 6, 3) := by decide +kernel
theorem dX12_root_7 : decode cX12_root 7 = .ok (.bipush (-2), 2) := by decide +kernel
theorem dX12_root_9 : decode cX12_root 9 = .ok (.ireturn, 1) := by decide +kernel
theorem dX12_root_10 : decode cX12_root 10 = .ok (.iconst 0, 1) := by decide +kernel
theorem dX12_root_11 : decode cX12_root 11 = .ok (.istore_n 2, 1) := by decide +kernel
theorem dX12_root_12 : decode cX12_root 12 = .ok (.iconst 1, 1) := by decide +kernel
theorem dX12_root_13 : decode cX12_root 13 = .ok (.istore_n 3, 1) := by decide +kernel
theorem dX12_root_14 : decode cX12_root 14 = .ok (.iload_n 3, 1) := by decide +kernel
theorem dX12_root_15 : decode cX12_root 15 = .ok (.aload_n 0, 1) := by decide +kernel
theorem dX12_root_16 : decode cX12_root 16 = .ok (.getfield 17, 3) := by decide +kernel
theorem dX12_root_19 : decode cX12_root 19 = .ok (.iload_n 1, 1) := by decide +kernel
theorem dX12_root_20 : decode cX12_root 20 = .ok (.iaload, 1) := by decide +kernel
theorem dX12_root_21 : decode cX12_root 21 = .ok (.if_icmp .gt 24, 3) := by decide +kernel
theorem dX12_root_24 : decode cX12_root 24 = .ok (.aload_n 0, 1) := by decide +kernel
theorem dX12_root_25 : decode cX12_root 25 = .ok (.iload_n 1, 1) := by decide +kernel
theorem dX12_root_26 : decode cX12_root 26 = .ok (.iload_n 3, 1) := by decide +kernel
theorem dX12_root_27 : decode cX12_root 27 = .ok (.invokevirtual 232, 3) := by decide +kernel
theorem dX12_root_30 : decode cX12_root 30 = .ok (.ifCond .eq 7, 3) := by decide +kernel
theorem dX12_root_33 : decode cX12_root 33 = .ok (.iload_n 3, 1) := by decide +kernel
theorem dX12_root_34 : decode cX12_root 34 = .ok (.goto 4, 3) := by decide +kernel
theorem dX12_root_37 : decode cX12_root 37 = .ok (.iload_n 2, 1) := by decide +kernel
theorem dX12_root_38 : decode cX12_root 38 = .ok (.istore_n 2, 1) := by decide +kernel
theorem dX12_root_39 : decode cX12_root 39 = .ok (.iinc 3 1, 3) := by decide +kernel
theorem dX12_root_42 : decode cX12_root 42 = .ok (.goto (-28), 3) := by decide +kernel
theorem dX12_root_45 : decode cX12_root 45 = .ok (.iload_n 2, 1) := by decide +kernel
theorem dX12_root_46 : decode cX12_root 46 = .ok (.ireturn, 1) := by decide +kernel
theorem dX12_keyOf_0 : decode cX12_keyOf 0 = .ok (.lconst 0, 1) := by decide +kernel
theorem dX12_keyOf_1 : decode cX12_keyOf 1 = .ok (.lstore_n 3, 1) := by decide +kernel
theorem dX12_keyOf_2 : decode cX12_keyOf 2 = .ok (.iconst 0, 1) := by decide +kernel
theorem dX12_keyOf_3 : decode cX12_keyOf 3 = .ok (.istore 5, 2) := by decide +kernel
theorem dX12_keyOf_5 : decode cX12_keyOf 5 = .ok (.iload 5, 2) := by decide +kernel
theorem dX12_keyOf_7 : decode cX12_keyOf 7 = .ok (.iload_n 2, 1) := by decide +kernel
theorem dX12_keyOf_8 : decode cX12_keyOf 8 = .ok (.if_icmp .ge 23, 3) := by decide +kernel
theorem dX12_keyOf_11 : decode cX12_keyOf 11 = .ok (.ldc2_w 235, 3) := by decide +kernel
theorem dX12_keyOf_14 : decode cX12_keyOf 14 = .ok (.lload_n 3, 1) := by decide +kernel
theorem dX12_keyOf_15 : decode cX12_keyOf 15 = .ok (.lmul, 1) := by decide +kernel
theorem dX12_keyOf_16 : decode cX12_keyOf 16 = .ok (.aload_n 1, 1) := by decide +kernel
theorem dX12_keyOf_17 : decode cX12_keyOf 17 = .ok (.iload 5, 2) := by decide +kernel
theorem dX12_keyOf_19 : decode cX12_keyOf 19 = .ok (.iaload, 1) := by decide +kernel
theorem dX12_keyOf_20 : decode cX12_keyOf 20 = .ok (.i2l, 1) := by decide +kernel
theorem dX12_keyOf_21 : decode cX12_keyOf 21 = .ok (.ladd, 1) := by decide +kernel
theorem dX12_keyOf_22 : decode cX12_keyOf 22 = .ok (.lconst 1, 1) := by decide +kernel
theorem dX12_keyOf_23 : decode cX12_keyOf 23 = .ok (.ladd, 1) := by decide +kernel
theorem dX12_keyOf_24 : decode cX12_keyOf 24 = .ok (.lstore_n 3, 1) := by decide +kernel
theorem dX12_keyOf_25 : decode cX12_keyOf 25 = .ok (.iinc 5 1, 3) := by decide +kernel
theorem dX12_keyOf_28 : decode cX12_keyOf 28 = .ok (.goto (-23), 3) := by decide +kernel
theorem dX12_keyOf_31 : decode cX12_keyOf 31 = .ok (.lload_n 3, 1) := by decide +kernel
theorem dX12_keyOf_32 : decode cX12_keyOf 32 = .ok (.lreturn, 1) := by decide +kernel
theorem dX12_isMetIn_0 : decode cX12_isMetIn 0 = .ok (.iconst 0, 1) := by decide +kernel
theorem dX12_isMetIn_1 : decode cX12_isMetIn 1 = .ok (.istore_n 3, 1) := by decide +kernel
theorem dX12_isMetIn_2 : decode cX12_isMetIn 2 = .ok (.iload_n 3, 1) := by decide +kernel
theorem dX12_isMetIn_3 : decode cX12_isMetIn 3 = .ok (.aload_n 0, 1) := by decide +kernel
theorem dX12_isMetIn_4 : decode cX12_isMetIn 4 = .ok (.getfield 237, 3) := by decide +kernel
theorem dX12_isMetIn_7 : decode cX12_isMetIn 7 = .ok (.if_icmp .ge 22, 3) := by decide +kernel
theorem dX12_isMetIn_10 : decode cX12_isMetIn 10 = .ok (.aload_n 0, 1) := by decide +kernel
theorem dX12_isMetIn_11 : decode cX12_isMetIn 11 = .ok (.getfield 62, 3) := by decide +kernel
theorem dX12_isMetIn_14 : decode cX12_isMetIn 14 = .ok (.iload_n 3, 1) := by decide +kernel
theorem dX12_isMetIn_15 : decode cX12_isMetIn 15 = .ok (.laload, 1) := by decide +kernel
theorem dX12_isMetIn_16 : decode cX12_isMetIn 16 = .ok (.lload_n 1, 1) := by decide +kernel
theorem dX12_isMetIn_17 : decode cX12_isMetIn 17 = .ok (.lcmp, 1) := by decide +kernel
theorem dX12_isMetIn_18 : decode cX12_isMetIn 18 = .ok (.ifCond .ne 5, 3) := by decide +kernel
theorem dX12_isMetIn_21 : decode cX12_isMetIn 21 = .ok (.iconst 1, 1) := by decide +kernel
theorem dX12_isMetIn_22 : decode cX12_isMetIn 22 = .ok (.ireturn, 1) := by decide +kernel
theorem dX12_isMetIn_23 : decode cX12_isMetIn 23 = .ok (.iinc 3 1, 3) := by decide +kernel
theorem dX12_isMetIn_26 : decode cX12_isMetIn 26 = .ok (.goto (-24), 3) := by decide +kernel
theorem dX12_isMetIn_29 : decode cX12_isMetIn 29 = .ok (.iconst 0, 1) := by decide +kernel
theorem dX12_isMetIn_30 : decode cX12_isMetIn 30 = .ok (.ireturn, 1) := by decide +kernel
theorem dX12_findCircle_0 : decode cX12_findCircle 0 = .ok (.aload_n 0, 1) := by decide +kernel
theorem dX12_findCircle_1 : decode cX12_findCircle 1 = .ok (.getfield 17, 3) := by decide +kernel
theorem dX12_findCircle_4 : decode cX12_findCircle 4 = .ok (.iload_n 1, 1) := by decide +kernel
theorem dX12_findCircle_5 : decode cX12_findCircle 5 = .ok (.iaload, 1) := by decide +kernel
theorem dX12_findCircle_6 : decode cX12_findCircle 6 = .ok (.istore_n 2, 1) := by decide +kernel
theorem dX12_findCircle_7 : decode cX12_findCircle 7 = .ok (.aload_n 0, 1) := by decide +kernel
theorem dX12_findCircle_8 : decode cX12_findCircle 8 = .ok (.iload_n 1, 1) := by decide +kernel
theorem dX12_findCircle_9 : decode cX12_findCircle 9 = .ok (.aload_n 0, 1) := by decide +kernel
theorem dX12_findCircle_10 : decode cX12_findCircle 10 = .ok (.getfield 29, 3) := by decide +kernel
theorem dX12_findCircle_13 : decode cX12_findCircle 13 = .ok (.invokevirtual 186, 3) := by decide +kernel
theorem dX12_findCircle_16 : decode cX12_findCircle 16 = .ok (.aload_n 0, 1) := by decide +kernel
theorem dX12_findCircle_17 : decode cX12_findCircle 17 = .ok (.aload_n 0, 1) := by decide +kernel
theorem dX12_findCircle_18 : decode cX12_findCircle 18 = .ok (.getfield 29, 3) := by decide +kernel
theorem dX12_findCircle_21 : decode cX12_findCircle 21 = .ok (.iload_n 2, 1) := by decide +kernel
theorem dX12_findCircle_22 : decode cX12_findCircle 22 = .ok (.invokevirtual 190, 3) := by decide +kernel
theorem dX12_findCircle_25 : decode cX12_findCircle 25 = .ok (.pop, 1) := by decide +kernel
theorem dX12_findCircle_26 : decode cX12_findCircle 26 = .ok (.aload_n 0, 1) := by decide +kernel
theorem dX12_findCircle_27 : decode cX12_findCircle 27 = .ok (.getfield 62, 3) := by decide +kernel
theorem dX12_findCircle_30 : decode cX12_findCircle 30 = .ok (.iconst 0, 1) := by decide +kernel
theorem dX12_findCircle_31 : decode cX12_findCircle 31 = .ok (.aload_n 0, 1) := by decide +kernel
theorem dX12_findCircle_32 : decode cX12_findCircle 32 = .ok (.aload_n 0, 1) := by decide +kernel
theorem dX12_findCircle_33 : decode cX12_findCircle 33 = .ok (.getfield 35, 3) := by decide +kernel
theorem dX12_findCircle_36 : decode cX12_findCircle 36 = .ok (.iload_n 2, 1) := by decide +kernel
theorem dX12_findCircle_37 : decode cX12_findCircle 37 = .ok (.invokevirtual 240, 3) := by decide +kernel
theorem dX12_findCircle_40 : decode cX12_findCircle 40 = .ok (.lastore, 1) := by decide +kernel
theorem dX12_findCircle_41 : decode cX12_findCircle 41 = .ok (.aload_n 0, 1) := by decide +kernel
theorem dX12_findCircle_42 : decode cX12_findCircle 42 = .ok (.iconst 1, 1) := by decide +kernel
theorem dX12_findCircle_43 : decode cX12_findCircle 43 = .ok (.putfield 237, 3) := by decide +kernel
theorem dX12_findCircle_46 : decode cX12_findCircle 46 = .ok (.iconst 0, 1) := by decide +kernel
theorem dX12_findCircle_47 : decode cX12_findCircle 47 = .ok (.istore_n 3, 1) := by decide +kernel
theorem dX12_findCircle_48 : decode cX12_findCircle 48 = .ok (.iload_n 3, 1) := by decide +kernel
theorem dX12_findCircle_49 : decode cX12_findCircle 49 = .ok (.aload_n 0, 1) := by decide +kernel
theorem dX12_findCircle_50 : decode cX12_findCircle 50 = .ok (.getfield 237, 3) := by decide +kernel
theorem dX12_findCircle_53 : decode cX12_findCircle 53 = .ok (.if_icmp .ge 212, 3) := by decide +kernel
theorem dX12_findCircle_56 : decode cX12_findCircle 56 = .ok (.aload_n 0, 1) := by decide +kernel
theorem dX12_findCircle_57 : decode cX12_findCircle 57 = .ok (.getfield 237, 3) := by decide +kernel
theorem dX12_findCircle_60 : decode cX12_findCircle 60 = .ok (.sipush 2000, 3) := by decide +kernel
theorem dX12_findCircle_63 : decode cX12_findCircle 63 = .ok (.if_icmp .gt 202, 3) := by decide +kernel
theorem dX12_findCircle_66 : decode cX12_findCircle 66 = .ok (.iconst 0, 1) := by decide +kernel
theorem dX12_findCircle_67 : decode cX12_findCircle 67 = .ok (.istore 4, 2) := by decide +kernel
theorem dX12_findCircle_69 : decode cX12_findCircle 69 = .ok (.iload 4, 2) := by decide +kernel
theorem dX12_findCircle_71 : decode cX12_findCircle 71 = .ok (.bipush 6, 2) := by decide +kernel
theorem dX12_findCircle_73 : decode cX12_findCircle 73 = .ok (.if_icmp .ge 186, 3) := by decide +kernel
theorem dX12_findCircle_76 : decode cX12_findCircle 76 = .ok (.aload_n 0, 1) := by decide +kernel
theorem dX12_findCircle_77 : decode cX12_findCircle 77 = .ok (.getfield 237, 3) := by decide +kernel
theorem dX12_findCircle_80 : decode cX12_findCircle 80 = .ok (.sipush 2000, 3) := by decide +kernel
theorem dX12_findCircle_83 : decode cX12_findCircle 83 = .ok (.if_icmp .gt 176, 3) := by decide +kernel
theorem dX12_findCircle_86 : decode cX12_findCircle 86 = .ok (.aload_n 0, 1) := by decide +kernel
theorem dX12_findCircle_87 : decode cX12_findCircle 87 = .ok (.getfield 62, 3) := by decide +kernel
theorem dX12_findCircle_90 : decode cX12_findCircle 90 = .ok (.iload_n 3, 1) := by decide +kernel
theorem dX12_findCircle_91 : decode cX12_findCircle 91 = .ok (.laload, 1) := by decide +kernel
theorem dX12_findCircle_92 : decode cX12_findCircle 92 = .ok (.lstore 5, 2) := by decide +kernel
theorem dX12_findCircle_94 : decode cX12_findCircle 94 = .ok (.iload_n 2, 1) := by decide +kernel
theorem dX12_findCircle_95 : decode cX12_findCircle 95 = .ok (.iconst 1, 1) := by decide +kernel
theorem dX12_findCircle_96 : decode cX12_findCircle 96 = .ok (.isub, 1) := by decide +kernel
theorem dX12_findCircle_97 : decode cX12_findCircle 97 = .ok (.istore 7, 2) := by decide +kernel
theorem dX12_findCircle_99 : decode cX12_findCircle 99 = .ok (.iload 7, 2) := by decide +kernel
theorem dX12_findCircle_101 : decode cX12_findCircle 101 = .ok (.ifCond .lt 33, 3) := by decide +kernel
theorem dX12_findCircle_104 : decode cX12_findCircle 104 = .ok (.aload_n 0, 1) := by decide +kernel
theorem dX12_findCircle_105 : decode cX12_findCircle 105 = .ok (.getfield 29, 3) := by decide +kernel
theorem dX12_findCircle_108 : decode cX12_findCircle 108 = .ok (.iload 7, 2) := by decide +kernel
theorem dX12_findCircle_110 : decode cX12_findCircle 110 = .ok (.lload 5, 2) := by decide +kernel
theorem dX12_findCircle_112 : decode cX12_findCircle 112 = .ok (.ldc2_w 235, 3) := by decide +kernel
theorem dX12_findCircle_115 : decode cX12_findCircle 115 = .ok (.lrem, 1) := by decide +kernel
theorem dX12_findCircle_116 : decode cX12_findCircle 116 = .ok (.l2i, 1) := by decide +kernel
theorem dX12_findCircle_117 : decode cX12_findCircle 117 = .ok (.iconst 1, 1) := by decide +kernel
theorem dX12_findCircle_118 : decode cX12_findCircle 118 = .ok (.isub, 1) := by decide +kernel
theorem dX12_findCircle_119 : decode cX12_findCircle 119 = .ok (.iastore, 1) := by decide +kernel
theorem dX12_findCircle_120 : decode cX12_findCircle 120 = .ok (.lload 5, 2) := by decide +kernel
theorem dX12_findCircle_122 : decode cX12_findCircle 122 = .ok (.ldc2_w 235, 3) := by decide +kernel
theorem dX12_findCircle_125 : decode cX12_findCircle 125 = .ok (.ldiv, 1) := by decide +kernel
theorem dX12_findCircle_126 : decode cX12_findCircle 126 = .ok (.lstore 5, 2) := by decide +kernel
theorem dX12_findCircle_128 : decode cX12_findCircle 128 = .ok (.iinc 7 (-1), 3) := by decide +kernel
theorem dX12_findCircle_131 : decode cX12_findCircle 131 = .ok (.goto (-32), 3) := by decide +kernel
theorem dX12_findCircle_134 : decode cX12_findCircle 134 = .ok (.aload_n 0, 1) := by decide +kernel
theorem dX12_findCircle_135 : decode cX12_findCircle 135 = .ok (.iload_n 2, 1) := by decide +kernel
theorem dX12_findCircle_136 : decode cX12_findCircle 136 = .ok (.invokevirtual 179, 3) := by decide +kernel
theorem dX12_findCircle_139 : decode cX12_findCircle 139 = .ok (.aload_n 0, 1) := by decide +kernel
theorem dX12_findCircle_140 : decode cX12_findCircle 140 = .ok (.aload_n 0, 1) := by decide +kernel
theorem dX12_findCircle_141 : decode cX12_findCircle 141 = .ok (.getfield 29, 3) := by decide +kernel
theorem dX12_findCircle_144 : decode cX12_findCircle 144 = .ok (.iload_n 2, 1) := by decide +kernel
theorem dX12_findCircle_145 : decode cX12_findCircle 145 = .ok (.iload 4, 2) := by decide +kernel
theorem dX12_findCircle_147 : decode cX12_findCircle 147 = .ok (.invokevirtual 175, 3) := by decide +kernel
theorem dX12_findCircle_150 : decode cX12_findCircle 150 = .ok (.istore 7, 2) := by decide +kernel
theorem dX12_findCircle_152 : decode cX12_findCircle 152 = .ok (.iload 7, 2) := by decide +kernel
theorem dX12_findCircle_154 : decode cX12_findCircle 154 = .ok (.iconst (-1), 1) := by decide +kernel
theorem dX12_findCircle_155 : decode cX12_findCircle 155 = .ok (.if_icmp .eq 98, 3) := by decide +kernel
theorem dX12_findCircle_158 : decode cX12_findCircle 158 = .ok (.iload 7, 2) := by decide +kernel
theorem dX12_findCircle_160 : decode cX12_findCircle 160 = .ok (.istore 8, 2) := by decide +kernel
theorem dX12_findCircle_162 : decode cX12_findCircle 162 = .ok (.iload 8, 2) := by decide +kernel
theorem dX12_findCircle_164 : decode cX12_findCircle 164 = .ok (.iconst 1, 1) := by decide +kernel
theorem dX12_findCircle_165 : decode cX12_findCircle 165 = .ok (.iadd, 1) := by decide +kernel
theorem dX12_findCircle_166 : decode cX12_findCircle 166 = .ok (.iload_n 2, 1) := by decide +kernel
theorem dX12_findCircle_167 : decode cX12_findCircle 167 = .ok (.if_icmp .ge 25, 3) := by decide +kernel
theorem dX12_findCircle_170 : decode cX12_findCircle 170 = .ok (.aload_n 0, 1) := by decide +kernel
theorem dX12_findCircle_171 : decode cX12_findCircle 171 = .ok (.getfield 29, 3) := by decide +kernel
theorem dX12_findCircle_174 : decode cX12_findCircle 174 = .ok (.iload 8, 2) := by decide +kernel
theorem dX12_findCircle_176 : decode cX12_findCircle 176 = .ok (.aload_n 0, 1) := by decide +kernel
theorem dX12_findCircle_177 : decode cX12_findCircle 177 = .ok (.getfield 29, 3) := by decide +kernel
theorem dX12_findCircle_180 : decode cX12_findCircle 180 = .ok (.iload 8, 2) := by decide +kernel
theorem dX12_findCircle_182 : decode cX12_findCircle 182 = .ok (.iconst 1, 1) := by decide +kernel
theorem dX12_findCircle_183 : decode cX12_findCircle 183 = .ok (.iadd, 1) := by decide +kernel
theorem dX12_findCircle_184 : decode cX12_findCircle 184 = .ok (.iaload, 1) := by decide +kernel
theorem dX12_findCircle_185 : decode cX12_findCircle 185 = .ok (.iastore, 1) := by decide +kernel
theorem dX12_findCircle_186 : decode cX12_findCircle 186 = .ok (.iinc 8 1, 3) := by decide +kernel
theorem dX12_findCircle_189 : decode cX12_findCircle 189 = .ok (.goto (-27), 3) := by decide +kernel
theorem dX12_findCircle_192 : decode cX12_findCircle 192 = .ok (.aload_n 0, 1) := by decide +kernel
theorem dX12_findCircle_193 : decode cX12_findCircle 193 = .ok (.getfield 29, 3) := by decide +kernel
theorem dX12_findCircle_196 : decode cX12_findCircle 196 = .ok (.iload_n 2, 1) := by decide +kernel
theorem dX12_findCircle_197 : decode cX12_findCircle 197 = .ok (.iconst 1, 1) := by decide +kernel
theorem dX12_findCircle_198 : decode cX12_findCircle 198 = .ok (.isub, 1) := by decide +kernel
theorem dX12_findCircle_199 : decode cX12_findCircle 199 = .ok (.iload 4, 2) := by decide +kernel
theorem dX12_findCircle_201 : decode cX12_findCircle 201 = .ok (.iastore, 1) := by decide +kernel
theorem dX12_findCircle_202 : decode cX12_findCircle 202 = .ok (.aload_n 0, 1) := by decide +kernel
theorem dX12_findCircle_203 : decode cX12_findCircle 203 = .ok (.aload_n 0, 1) := by decide +kernel
theorem dX12_findCircle_204 : decode cX12_findCircle 204 = .ok (.getfield 29, 3) := by decide +kernel
theorem dX12_findCircle_207 : decode cX12_findCircle 207 = .ok (.iload_n 2, 1) := by decide +kernel
theorem dX12_findCircle_208 : decode cX12_findCircle 208 = .ok (.invokevirtual 190, 3) := by decide +kernel
theorem dX12_findCircle_211 : decode cX12_findCircle 211 = .ok (.pop, 1) := by decide +kernel
theorem dX12_findCircle_212 : decode cX12_findCircle 212 = .ok (.aload_n 0, 1) := by decide +kernel
theorem dX12_findCircle_213 : decode cX12_findCircle 213 = .ok (.aload_n 0, 1) := by decide +kernel
theorem dX12_findCircle_214 : decode cX12_findCircle 214 = .ok (.getfield 35, 3) := by decide +kernel
theorem dX12_findCircle_217 : decode cX12_findCircle 217 = .ok (.iload_n 2, 1) := by decide +kernel
theorem dX12_findCircle_218 : decode cX12_findCircle 218 = .ok (.invokevirtual 240, 3) := by decide +kernel
theorem dX12_findCircle_221 : decode cX12_findCircle 221 = .ok (.lstore 8, 2) := by decide +kernel
theorem dX12_findCircle_223 : decode cX12_findCircle 223 = .ok (.aload_n 0, 1) := by decide +kernel
theorem dX12_findCircle_224 : decode cX12_findCircle 224 = .ok (.lload 8, 2) := by decide +kernel
theorem dX12_findCircle_226 : decode cX12_findCircle 226 = .ok (.invokevirtual 244, 3) := by decide +kernel
theorem dX12_findCircle_229 : decode cX12_findCircle 229 = .ok (.ifCond .ne 24, 3) := by decide +kernel
theorem dX12_findCircle_232 : decode cX12_findCircle 232 = .ok (.aload_n 0, 1) := by decide +kernel
theorem dX12_findCircle_233 : decode cX12_findCircle 233 = .ok (.getfield 62, 3) := by decide +kernel
theorem dX12_findCircle_236 : decode cX12_findCircle 236 = .ok (.aload_n 0, 1) := by decide +kernel
theorem dX12_findCircle_237 : decode cX12_findCircle 237 = .ok (.getfield 237, 3) := by decide +kernel
theorem dX12_findCircle_240 : decode cX12_findCircle 240 = .ok (.lload 8, 2) := by decide +kernel
theorem dX12_findCircle_242 : decode cX12_findCircle 242 = .ok (.lastore, 1) := by decide +kernel
theorem dX12_findCircle_243 : decode cX12_findCircle 243 = .ok (.aload_n 0, 1) := by decide +kernel
theorem dX12_findCircle_244 : decode cX12_findCircle 244 = .ok (.dup, 1) := by decide +kernel
theorem dX12_findCircle_245 : decode cX12_findCircle 245 = .ok (.getfield 237, 3) := by decide +kernel
theorem dX12_findCircle_248 : decode cX12_findCircle 248 = .ok (.iconst 1, 1) := by decide +kernel
theorem dX12_findCircle_249 : decode cX12_findCircle 249 = .ok (.iadd, 1) := by decide +kernel
theorem dX12_findCircle_250 : decode cX12_findCircle 250 = .ok (.putfield 237, 3) := by decide +kernel
theorem dX12_findCircle_253 : decode cX12_findCircle 253 = .ok (.iinc 4 1, 3) := by decide +kernel
theorem dX12_findCircle_256 : decode cX12_findCircle 256 = .ok (.goto (-187), 3) := by decide +kernel
theorem dX12_findCircle_259 : decode cX12_findCircle 259 = .ok (.iinc 3 1, 3) := by decide +kernel
theorem dX12_findCircle_262 : decode cX12_findCircle 262 = .ok (.goto (-214), 3) := by decide +kernel
theorem dX12_findCircle_265 : decode cX12_findCircle 265 = .ok (.return_, 1) := by decide +kernel
theorem dX12_circle_0 : decode cX12_circle 0 = .ok (.iload_n 1, 1) := by decide +kernel
theorem dX12_circle_1 : decode cX12_circle 1 = .ok (.invokestatic 172, 3) := by decide +kernel
theorem dX12_circle_4 : decode cX12_circle 4 = .ok (.ifCond .ne 6, 3) := by decide +kernel
theorem dX12_circle_7 : decode cX12_circle 7 = .ok (.bipush (-2), 2) := by decide +kernel
theorem dX12_circle_9 : decode cX12_circle 9 = .ok (.ireturn, 1) := by decide +kernel
theorem dX12_circle_10 : decode cX12_circle 10 = .ok (.aload_n 0, 1) := by decide +kernel
theorem dX12_circle_11 : decode cX12_circle 11 = .ok (.getfield 17, 3) := by decide +kernel
theorem dX12_circle_14 : decode cX12_circle 14 = .ok (.iload_n 1, 1) := by decide +kernel
theorem dX12_circle_15 : decode cX12_circle 15 = .ok (.iaload, 1) := by decide +kernel
theorem dX12_circle_16 : decode cX12_circle 16 = .ok (.bipush 12, 2) := by decide +kernel
theorem dX12_circle_18 : decode cX12_circle 18 = .ok (.if_icmp .le 6, 3) := by decide +kernel
theorem dX12_circle_21 : decode cX12_circle 21 = .ok (.bipush (-3), 2) := by decide +kernel
theorem dX12_circle_23 : decode cX12_circle 23 = .ok (.ireturn, 1) := by decide +kernel
theorem dX12_circle_24 : decode cX12_circle 24 = .ok (.aload_n 0, 1) := by decide +kernel
theorem dX12_circle_25 : decode cX12_circle 25 = .ok (.iload_n 1, 1) := by decide +kernel
theorem dX12_circle_26 : decode cX12_circle 26 = .ok (.invokevirtual 248, 3) := by decide +kernel
theorem dX12_circle_29 : decode cX12_circle 29 = .ok (.aload_n 0, 1) := by decide +kernel
theorem dX12_circle_30 : decode cX12_circle 30 = .ok (.getfield 237, 3) := by decide +kernel
theorem dX12_circle_33 : decode cX12_circle 33 = .ok (.sipush 2000, 3) := by decide +kernel
theorem dX12_circle_36 : decode cX12_circle 36 = .ok (.if_icmp .le 8, 3) := by decide +kernel
theorem dX12_circle_39 : decode cX12_circle 39 = .ok (.bipush (-6), 2) := by decide +kernel
theorem dX12_circle_41 : decode cX12_circle 41 = .ok (.goto 7, 3) := by decide +kernel
theorem dX12_circle_44 : decode cX12_circle 44 = .ok (.aload_n 0, 1) := by decide +kernel
theorem dX12_circle_45 : decode cX12_circle 45 = .ok (.getfield 237, 3) := by decide +kernel
theorem dX12_circle_48 : decode cX12_circle 48 = .ok (.ireturn, 1) := by decide +kernel
theorem dX12_turned_0 : decode cX12_turned 0 = .ok (.iload_n 1, 1) := by decide +kernel
theorem dX12_turned_1 : decode cX12_turned 1 = .ok (.invokestatic 172, 3) := by decide +kernel
theorem dX12_turned_4 : decode cX12_turned 4 = .ok (.ifCond .eq 10, 3) := by decide +kernel
theorem dX12_turned_7 : decode cX12_turned 7 = .ok (.iload_n 2, 1) := by decide +kernel
theorem dX12_turned_8 : decode cX12_turned 8 = .ok (.invokestatic 172, 3) := by decide +kernel
theorem dX12_turned_11 : decode cX12_turned 11 = .ok (.ifCond .ne 6, 3) := by decide +kernel
theorem dX12_turned_14 : decode cX12_turned 14 = .ok (.bipush (-2), 2) := by decide +kernel
theorem dX12_turned_16 : decode cX12_turned 16 = .ok (.ireturn, 1) := by decide +kernel
theorem dX12_turned_17 : decode cX12_turned 17 = .ok (.aload_n 0, 1) := by decide +kernel
theorem dX12_turned_18 : decode cX12_turned 18 = .ok (.getfield 17, 3) := by decide +kernel
theorem dX12_turned_21 : decode cX12_turned 21 = .ok (.iload_n 1, 1) := by decide +kernel
theorem dX12_turned_22 : decode cX12_turned 22 = .ok (.iaload, 1) := by decide +kernel
theorem dX12_turned_23 : decode cX12_turned 23 = .ok (.bipush 12, 2) := by decide +kernel
theorem dX12_turned_25 : decode cX12_turned 25 = .ok (.if_icmp .le 6, 3) := by decide +kernel
theorem dX12_turned_28 : decode cX12_turned 28 = .ok (.bipush (-3), 2) := by decide +kernel
theorem dX12_turned_30 : decode cX12_turned 30 = .ok (.ireturn, 1) := by decide +kernel
theorem dX12_turned_31 : decode cX12_turned 31 = .ok (.aload_n 0, 1) := by decide +kernel
theorem dX12_turned_32 : decode cX12_turned 32 = .ok (.iload_n 1, 1) := by decide +kernel
theorem dX12_turned_33 : decode cX12_turned 33 = .ok (.invokevirtual 248, 3) := by decide +kernel
theorem dX12_turned_36 : decode cX12_turned 36 = .ok (.aload_n 0, 1) := by decide +kernel
theorem dX12_turned_37 : decode cX12_turned 37 = .ok (.getfield 237, 3) := by decide +kernel
theorem dX12_turned_40 : decode cX12_turned 40 = .ok (.sipush 2000, 3) := by decide +kernel
theorem dX12_turned_43 : decode cX12_turned 43 = .ok (.if_icmp .le 6, 3) := by decide +kernel
theorem dX12_turned_46 : decode cX12_turned 46 = .ok (.bipush (-6), 2) := by decide +kernel
theorem dX12_turned_48 : decode cX12_turned 48 = .ok (.ireturn, 1) := by decide +kernel
theorem dX12_turned_49 : decode cX12_turned 49 = .ok (.aload_n 0, 1) := by decide +kernel
theorem dX12_turned_50 : decode cX12_turned 50 = .ok (.iload_n 2, 1) := by decide +kernel
theorem dX12_turned_51 : decode cX12_turned 51 = .ok (.aload_n 0, 1) := by decide +kernel
theorem dX12_turned_52 : decode cX12_turned 52 = .ok (.getfield 29, 3) := by decide +kernel
theorem dX12_turned_55 : decode cX12_turned 55 = .ok (.invokevirtual 186, 3) := by decide +kernel
theorem dX12_turned_58 : decode cX12_turned 58 = .ok (.aload_n 0, 1) := by decide +kernel
theorem dX12_turned_59 : decode cX12_turned 59 = .ok (.aload_n 0, 1) := by decide +kernel
theorem dX12_turned_60 : decode cX12_turned 60 = .ok (.getfield 29, 3) := by decide +kernel
theorem dX12_turned_63 : decode cX12_turned 63 = .ok (.aload_n 0, 1) := by decide +kernel
theorem dX12_turned_64 : decode cX12_turned 64 = .ok (.getfield 17, 3) := by decide +kernel
theorem dX12_turned_67 : decode cX12_turned 67 = .ok (.iload_n 2, 1) := by decide +kernel
theorem dX12_turned_68 : decode cX12_turned 68 = .ok (.iaload, 1) := by decide +kernel
theorem dX12_turned_69 : decode cX12_turned 69 = .ok (.invokevirtual 190, 3) := by decide +kernel
theorem dX12_turned_72 : decode cX12_turned 72 = .ok (.pop, 1) := by decide +kernel
theorem dX12_turned_73 : decode cX12_turned 73 = .ok (.aload_n 0, 1) := by decide +kernel
theorem dX12_turned_74 : decode cX12_turned 74 = .ok (.getfield 17, 3) := by decide +kernel
theorem dX12_turned_77 : decode cX12_turned 77 = .ok (.iload_n 1, 1) := by decide +kernel
theorem dX12_turned_78 : decode cX12_turned 78 = .ok (.iaload, 1) := by decide +kernel
theorem dX12_turned_79 : decode cX12_turned 79 = .ok (.aload_n 0, 1) := by decide +kernel
theorem dX12_turned_80 : decode cX12_turned 80 = .ok (.getfield 17, 3) := by decide +kernel
theorem dX12_turned_83 : decode cX12_turned 83 = .ok (.iload_n 2, 1) := by decide +kernel
theorem dX12_turned_84 : decode cX12_turned 84 = .ok (.iaload, 1) := by decide +kernel
theorem dX12_turned_85 : decode cX12_turned 85 = .ok (.if_icmp .ne 28, 3) := by decide +kernel
theorem dX12_turned_88 : decode cX12_turned 88 = .ok (.aload_n 0, 1) := by decide +kernel
theorem dX12_turned_89 : decode cX12_turned 89 = .ok (.aload_n 0, 1) := by decide +kernel
theorem dX12_turned_90 : decode cX12_turned 90 = .ok (.aload_n 0, 1) := by decide +kernel
theorem dX12_turned_91 : decode cX12_turned 91 = .ok (.getfield 35, 3) := by decide +kernel
theorem dX12_turned_94 : decode cX12_turned 94 = .ok (.aload_n 0, 1) := by decide +kernel
theorem dX12_turned_95 : decode cX12_turned 95 = .ok (.getfield 17, 3) := by decide +kernel
theorem dX12_turned_98 : decode cX12_turned 98 = .ok (.iload_n 2, 1) := by decide +kernel
theorem dX12_turned_99 : decode cX12_turned 99 = .ok (.iaload, 1) := by decide +kernel
theorem dX12_turned_100 : decode cX12_turned 100 = .ok (.invokevirtual 240, 3) := by decide +kernel
theorem dX12_turned_103 : decode cX12_turned 103 = .ok (.invokevirtual 244, 3) := by decide +kernel
theorem dX12_turned_106 : decode cX12_turned 106 = .ok (.ifCond .eq 7, 3) := by decide +kernel
theorem dX12_turned_109 : decode cX12_turned 109 = .ok (.iconst 1, 1) := by decide +kernel
theorem dX12_turned_110 : decode cX12_turned 110 = .ok (.goto 4, 3) := by decide +kernel
theorem dX12_turned_113 : decode cX12_turned 113 = .ok (.iconst 0, 1) := by decide +kernel
theorem dX12_turned_114 : decode cX12_turned 114 = .ok (.ireturn, 1) := by decide +kernel
theorem dX12_togetherOf_0 : decode cX12_togetherOf 0 = .ok (.iconst 0, 1) := by decide +kernel
theorem dX12_togetherOf_1 : decode cX12_togetherOf 1 = .ok (.istore_n 2, 1) := by decide +kernel
theorem dX12_togetherOf_2 : decode cX12_togetherOf 2 = .ok (.iconst 0, 1) := by decide +kernel
theorem dX12_togetherOf_3 : decode cX12_togetherOf 3 = .ok (.istore_n 3, 1) := by decide +kernel
theorem dX12_togetherOf_4 : decode cX12_togetherOf 4 = .ok (.iload_n 3, 1) := by decide +kernel
theorem dX12_togetherOf_5 : decode cX12_togetherOf 5 = .ok (.iconst 1, 1) := by decide +kernel
theorem dX12_togetherOf_6 : decode cX12_togetherOf 6 = .ok (.aload_n 0, 1) := by decide +kernel
theorem dX12_togetherOf_7 : decode cX12_togetherOf 7 = .ok (.getfield 7, 3) := by decide +kernel
theorem dX12_togetherOf_10 : decode cX12_togetherOf 10 = .ok (.ishl, 1) := by decide +kernel
theorem dX12_togetherOf_11 : decode cX12_togetherOf 11 = .ok (.if_icmp .ge 98, 3) := by decide +kernel
theorem dX12_togetherOf_14 : decode cX12_togetherOf 14 = .ok (.iconst 0, 1) := by decide +kernel
theorem dX12_togetherOf_15 : decode cX12_togetherOf 15 = .ok (.istore 4, 2) := by decide +kernel
theorem dX12_togetherOf_17 : decode cX12_togetherOf 17 = .ok (.iconst 1, 1) := by decide +kernel
theorem dX12_togetherOf_18 : decode cX12_togetherOf 18 = .ok (.istore 5, 2) := by decide +kernel
theorem dX12_togetherOf_20 : decode cX12_togetherOf 20 = .ok (.iconst 0, 1) := by decide +kernel
theorem dX12_togetherOf_21 : decode cX12_togetherOf 21 = .ok (.istore 6, 2) := by decide +kernel
theorem dX12_togetherOf_23 : decode cX12_togetherOf 23 = .ok (.iload 6, 2) := by decide +kernel
theorem dX12_togetherOf_25 : decode cX12_togetherOf 25 = .ok (.aload_n 0, 1) := by decide +kernel
theorem dX12_togetherOf_26 : decode cX12_togetherOf 26 = .ok (.getfield 7, 3) := by decide +kernel
theorem dX12_togetherOf_29 : decode cX12_togetherOf 29 = .ok (.if_icmp .ge 55, 3) := by decide +kernel
theorem dX12_togetherOf_32 : decode cX12_togetherOf 32 = .ok (.iload_n 3, 1) := by decide +kernel
theorem dX12_togetherOf_33 : decode cX12_togetherOf 33 = .ok (.iload 6, 2) := by decide +kernel
theorem dX12_togetherOf_35 : decode cX12_togetherOf 35 = .ok (.ishr, 1) := by decide +kernel
theorem dX12_togetherOf_36 : decode cX12_togetherOf 36 = .ok (.iconst 1, 1) := by decide +kernel
theorem dX12_togetherOf_37 : decode cX12_togetherOf 37 = .ok (.iand, 1) := by decide +kernel
theorem dX12_togetherOf_38 : decode cX12_togetherOf 38 = .ok (.iconst 1, 1) := by decide +kernel
theorem dX12_togetherOf_39 : decode cX12_togetherOf 39 = .ok (.if_icmp .ne 39, 3) := by decide +kernel
theorem dX12_togetherOf_42 : decode cX12_togetherOf 42 = .ok (.iinc 4 1, 3) := by decide +kernel
theorem dX12_togetherOf_45 : decode cX12_togetherOf 45 = .ok (.iload 5, 2) := by decide +kernel
theorem dX12_togetherOf_47 : decode cX12_togetherOf 47 = .ok (.ifCond .eq 28, 3) := by decide +kernel
theorem dX12_togetherOf_50 : decode cX12_togetherOf 50 = .ok (.iload_n 3, 1) := by decide +kernel
theorem dX12_togetherOf_51 : decode cX12_togetherOf 51 = .ok (.iconst 1, 1) := by decide +kernel
theorem dX12_togetherOf_52 : decode cX12_togetherOf 52 = .ok (.iload 6, 2) := by decide +kernel
theorem dX12_togetherOf_54 : decode cX12_togetherOf 54 = .ok (.ishl, 1) := by decide +kernel
theorem dX12_togetherOf_55 : decode cX12_togetherOf 55 = .ok (.iconst (-1), 1) := by decide +kernel
theorem dX12_togetherOf_56 : decode cX12_togetherOf 56 = .ok (.ixor, 1) := by decide +kernel
theorem dX12_togetherOf_57 : decode cX12_togetherOf 57 = .ok (.iand, 1) := by decide +kernel
theorem dX12_togetherOf_58 : decode cX12_togetherOf 58 = .ok (.aload_n 0, 1) := by decide +kernel
theorem dX12_togetherOf_59 : decode cX12_togetherOf 59 = .ok (.getfield 13, 3) := by decide +kernel
theorem dX12_togetherOf_62 : decode cX12_togetherOf 62 = .ok (.iload 6, 2) := by decide +kernel
theorem dX12_togetherOf_64 : decode cX12_togetherOf 64 = .ok (.iaload, 1) := by decide +kernel
theorem dX12_togetherOf_65 : decode cX12_togetherOf 65 = .ok (.iconst (-1), 1) := by decide +kernel
theorem dX12_togetherOf_66 : decode cX12_togetherOf 66 = .ok (.ixor, 1) := by decide +kernel
theorem dX12_togetherOf_67 : decode cX12_togetherOf 67 = .ok (.iand, 1) := by decide +kernel
theorem dX12_togetherOf_68 : decode cX12_togetherOf 68 = .ok (.ifCond .ne 7, 3) := by decide +kernel
theorem dX12_togetherOf_71 : decode cX12_togetherOf 71 = .ok (.iconst 1, 1) := by decide +kernel
theorem dX12_togetherOf_72 : decode cX12_togetherOf 72 = .ok (.goto 4, 3) := by decide +kernel
theorem dX12_togetherOf_75 : decode cX12_togetherOf 75 = .ok (.iconst 0, 1) := by decide +kernel
theorem dX12_togetherOf_76 : decode cX12_togetherOf 76 = .ok (.istore 5, 2) := by decide +kernel
theorem dX12_togetherOf_78 : decode cX12_togetherOf 78 = .ok (.iinc 6 1, 3) := by decide +kernel
theorem dX12_togetherOf_81 : decode cX12_togetherOf 81 = .ok (.goto (-58), 3) := by decide +kernel
theorem dX12_togetherOf_84 : decode cX12_togetherOf 84 = .ok (.iload_n 2, 1) := by decide +kernel
theorem dX12_togetherOf_85 : decode cX12_togetherOf 85 = .ok (.iload 5, 2) := by decide +kernel
theorem dX12_togetherOf_87 : decode cX12_togetherOf 87 = .ok (.ifCond .eq 13, 3) := by decide +kernel
theorem dX12_togetherOf_90 : decode cX12_togetherOf 90 = .ok (.iload 4, 2) := by decide +kernel
theorem dX12_togetherOf_92 : decode cX12_togetherOf 92 = .ok (.iload_n 1, 1) := by decide +kernel
theorem dX12_togetherOf_93 : decode cX12_togetherOf 93 = .ok (.if_icmp .ne 7, 3) := by decide +kernel
theorem dX12_togetherOf_96 : decode cX12_togetherOf 96 = .ok (.iconst 1, 1) := by decide +kernel
theorem dX12_togetherOf_97 : decode cX12_togetherOf 97 = .ok (.goto 4, 3) := by decide +kernel
theorem dX12_togetherOf_100 : decode cX12_togetherOf 100 = .ok (.iconst 0, 1) := by decide +kernel
theorem dX12_togetherOf_101 : decode cX12_togetherOf 101 = .ok (.iadd, 1) := by decide +kernel
theorem dX12_togetherOf_102 : decode cX12_togetherOf 102 = .ok (.istore_n 2, 1) := by decide +kernel
theorem dX12_togetherOf_103 : decode cX12_togetherOf 103 = .ok (.iinc 3 1, 3) := by decide +kernel
theorem dX12_togetherOf_106 : decode cX12_togetherOf 106 = .ok (.goto (-102), 3) := by decide +kernel
theorem dX12_togetherOf_109 : decode cX12_togetherOf 109 = .ok (.iload_n 2, 1) := by decide +kernel
theorem dX12_togetherOf_110 : decode cX12_togetherOf 110 = .ok (.ireturn, 1) := by decide +kernel
theorem dX12_together_0 : decode cX12_together 0 = .ok (.iload_n 1, 1) := by decide +kernel
theorem dX12_together_1 : decode cX12_together 1 = .ok (.iconst 0, 1) := by decide +kernel
theorem dX12_together_2 : decode cX12_together 2 = .ok (.bipush 6, 2) := by decide +kernel
theorem dX12_together_4 : decode cX12_together 4 = .ok (.invokestatic 83, 3) := by decide +kernel
theorem dX12_together_7 : decode cX12_together 7 = .ok (.ifCond .eq 11, 3) := by decide +kernel
theorem dX12_together_10 : decode cX12_together 10 = .ok (.aload_n 0, 1) := by decide +kernel
theorem dX12_together_11 : decode cX12_together 11 = .ok (.iload_n 1, 1) := by decide +kernel
theorem dX12_together_12 : decode cX12_together 12 = .ok (.invokevirtual 251, 3) := by decide +kernel
theorem dX12_together_15 : decode cX12_together 15 = .ok (.goto 5, 3) := by decide +kernel
theorem dX12_together_18 : decode cX12_together 18 = .ok (.bipush (-3), 2) := by decide +kernel
theorem dX12_together_20 : decode cX12_together 20 = .ok (.ireturn, 1) := by decide +kernel
theorem dX12_many_0 : decode cX12_many 0 = .ok (.iload_n 1, 1) := by decide +kernel
theorem dX12_many_1 : decode cX12_many 1 = .ok (.iconst 0, 1) := by decide +kernel
theorem dX12_many_2 : decode cX12_many 2 = .ok (.bipush 60, 2) := by decide +kernel
theorem dX12_many_4 : decode cX12_many 4 = .ok (.invokestatic 83, 3) := by decide +kernel
theorem dX12_many_7 : decode cX12_many 7 = .ok (.ifCond .ne 6, 3) := by decide +kernel
theorem dX12_many_10 : decode cX12_many 10 = .ok (.bipush (-3), 2) := by decide +kernel
theorem dX12_many_12 : decode cX12_many 12 = .ok (.ireturn, 1) := by decide +kernel
theorem dX12_many_13 : decode cX12_many 13 = .ok (.iconst 0, 1) := by decide +kernel
theorem dX12_many_14 : decode cX12_many 14 = .ok (.istore_n 2, 1) := by decide +kernel
theorem dX12_many_15 : decode cX12_many 15 = .ok (.iload_n 2, 1) := by decide +kernel
theorem dX12_many_16 : decode cX12_many 16 = .ok (.bipush 6, 2) := by decide +kernel
theorem dX12_many_18 : decode cX12_many 18 = .ok (.if_icmp .ge 22, 3) := by decide +kernel
theorem dX12_many_21 : decode cX12_many 21 = .ok (.aload_n 0, 1) := by decide +kernel
theorem dX12_many_22 : decode cX12_many 22 = .ok (.getfield 59, 3) := by decide +kernel
theorem dX12_many_25 : decode cX12_many 25 = .ok (.iload_n 2, 1) := by decide +kernel
theorem dX12_many_26 : decode cX12_many 26 = .ok (.aload_n 0, 1) := by decide +kernel
theorem dX12_many_27 : decode cX12_many 27 = .ok (.iload_n 2, 1) := by decide +kernel
theorem dX12_many_28 : decode cX12_many 28 = .ok (.iconst 1, 1) := by decide +kernel
theorem dX12_many_29 : decode cX12_many 29 = .ok (.iadd, 1) := by decide +kernel
theorem dX12_many_30 : decode cX12_many 30 = .ok (.invokevirtual 251, 3) := by decide +kernel
theorem dX12_many_33 : decode cX12_many 33 = .ok (.iastore, 1) := by decide +kernel
theorem dX12_many_34 : decode cX12_many 34 = .ok (.iinc 2 1, 3) := by decide +kernel
theorem dX12_many_37 : decode cX12_many 37 = .ok (.goto (-22), 3) := by decide +kernel
theorem dX12_many_40 : decode cX12_many 40 = .ok (.aload_n 0, 1) := by decide +kernel
theorem dX12_many_41 : decode cX12_many 41 = .ok (.getfield 74, 3) := by decide +kernel
theorem dX12_many_44 : decode cX12_many 44 = .ok (.iconst 0, 1) := by decide +kernel
theorem dX12_many_45 : decode cX12_many 45 = .ok (.lconst 1, 1) := by decide +kernel
theorem dX12_many_46 : decode cX12_many 46 = .ok (.lastore, 1) := by decide +kernel
theorem dX12_many_47 : decode cX12_many 47 = .ok (.iconst 1, 1) := by decide +kernel
theorem dX12_many_48 : decode cX12_many 48 = .ok (.istore_n 2, 1) := by decide +kernel
theorem dX12_many_49 : decode cX12_many 49 = .ok (.iload_n 2, 1) := by decide +kernel
theorem dX12_many_50 : decode cX12_many 50 = .ok (.iload_n 1, 1) := by decide +kernel
theorem dX12_many_51 : decode cX12_many 51 = .ok (.if_icmp .gt 94, 3) := by decide +kernel
theorem dX12_many_54 : decode cX12_many 54 = .ok (.lconst 0, 1) := by decide +kernel
theorem dX12_many_55 : decode cX12_many 55 = .ok (.lstore_n 3, 1) := by decide +kernel
theorem dX12_many_56 : decode cX12_many 56 = .ok (.iconst 1, 1) := by decide +kernel
theorem dX12_many_57 : decode cX12_many 57 = .ok (.istore 5, 2) := by decide +kernel
theorem dX12_many_59 : decode cX12_many 59 = .ok (.iload 5, 2) := by decide +kernel
theorem dX12_many_61 : decode cX12_many 61 = .ok (.bipush 6, 2) := by decide +kernel
theorem dX12_many_63 : decode cX12_many 63 = .ok (.if_icmp .gt 65, 3) := by decide +kernel
theorem dX12_many_66 : decode cX12_many 66 = .ok (.iload 5, 2) := by decide +kernel
theorem dX12_many_68 : decode cX12_many 68 = .ok (.iload_n 2, 1) := by decide +kernel
theorem dX12_many_69 : decode cX12_many 69 = .ok (.if_icmp .gt 59, 3) := by decide +kernel
theorem dX12_many_72 : decode cX12_many 72 = .ok (.aload_n 0, 1) := by decide +kernel
theorem dX12_many_73 : decode cX12_many 73 = .ok (.getfield 59, 3) := by decide +kernel
theorem dX12_many_76 : decode cX12_many 76 = .ok (.iload 5, 2) := by decide +kernel
theorem dX12_many_78 : decode cX12_many 78 = .ok (.iconst 1, 1) := by decide +kernel
theorem dX12_many_79 : decode cX12_many 79 = .ok (.isub, 1) := by decide +kernel
theorem dX12_many_80 : decode cX12_many 80 = .ok (.iaload, 1) := by decide +kernel
theorem dX12_many_81 : decode cX12_many 81 = .ok (.i2l, 1) := by decide +kernel
theorem dX12_many_82 : decode cX12_many 82 = .ok (.aload_n 0, 1) := by decide +kernel
theorem dX12_many_83 : decode cX12_many 83 = .ok (.getfield 74, 3) := by decide +kernel
theorem dX12_many_86 : decode cX12_many 86 = .ok (.iload_n 2, 1) := by decide +kernel
theorem dX12_many_87 : decode cX12_many 87 = .ok (.iload 5, 2) := by decide +kernel
theorem dX12_many_89 : decode cX12_many 89 = .ok (.isub, 1) := by decide +kernel
theorem dX12_many_90 : decode cX12_many 90 = .ok (.laload, 1) := by decide +kernel
theorem dX12_many_91 : decode cX12_many 91 = .ok (.lmul, 1) := by decide +kernel
theorem dX12_many_92 : decode cX12_many 92 = .ok (.ldc2_w 218, 3) := by decide +kernel
theorem dX12_many_95 : decode cX12_many 95 = .ok (.lrem, 1) := by decide +kernel
theorem dX12_many_96 : decode cX12_many 96 = .ok (.lstore 6, 2) := by decide +kernel
theorem dX12_many_98 : decode cX12_many 98 = .ok (.iload 5, 2) := by decide +kernel
theorem dX12_many_100 : decode cX12_many 100 = .ok (.iconst 2, 1) := by decide +kernel
theorem dX12_many_101 : decode cX12_many 101 = .ok (.irem, 1) := by decide +kernel
theorem dX12_many_102 : decode cX12_many 102 = .ok (.iconst 1, 1) := by decide +kernel
theorem dX12_many_103 : decode cX12_many 103 = .ok (.if_icmp .ne 10, 3) := by decide +kernel
theorem dX12_many_106 : decode cX12_many 106 = .ok (.lload_n 3, 1) := by decide +kernel
theorem dX12_many_107 : decode cX12_many 107 = .ok (.lload 6, 2) := by decide +kernel
theorem dX12_many_109 : decode cX12_many 109 = .ok (.ladd, 1) := by decide +kernel
theorem dX12_many_110 : decode cX12_many 110 = .ok (.goto 11, 3) := by decide +kernel
theorem dX12_many_113 : decode cX12_many 113 = .ok (.lload_n 3, 1) := by decide +kernel
theorem dX12_many_114 : decode cX12_many 114 = .ok (.ldc2_w 218, 3) := by decide +kernel
theorem dX12_many_117 : decode cX12_many 117 = .ok (.ladd, 1) := by decide +kernel
theorem dX12_many_118 : decode cX12_many 118 = .ok (.lload 6, 2) := by decide +kernel
theorem dX12_many_120 : decode cX12_many 120 = .ok (.lsub, 1) := by decide +kernel
theorem dX12_many_121 : decode cX12_many 121 = .ok (.lstore_n 3, 1) := by decide +kernel
theorem dX12_many_122 : decode cX12_many 122 = .ok (.iinc 5 1, 3) := by decide +kernel
theorem dX12_many_125 : decode cX12_many 125 = .ok (.goto (-66), 3) := by decide +kernel
theorem dX12_many_128 : decode cX12_many 128 = .ok (.aload_n 0, 1) := by decide +kernel
theorem dX12_many_129 : decode cX12_many 129 = .ok (.getfield 74, 3) := by decide +kernel
theorem dX12_many_132 : decode cX12_many 132 = .ok (.iload_n 2, 1) := by decide +kernel
theorem dX12_many_133 : decode cX12_many 133 = .ok (.lload_n 3, 1) := by decide +kernel
theorem dX12_many_134 : decode cX12_many 134 = .ok (.ldc2_w 218, 3) := by decide +kernel
theorem dX12_many_137 : decode cX12_many 137 = .ok (.lrem, 1) := by decide +kernel
theorem dX12_many_138 : decode cX12_many 138 = .ok (.lastore, 1) := by decide +kernel
theorem dX12_many_139 : decode cX12_many 139 = .ok (.iinc 2 1, 3) := by decide +kernel
theorem dX12_many_142 : decode cX12_many 142 = .ok (.goto (-93), 3) := by decide +kernel
theorem dX12_many_145 : decode cX12_many 145 = .ok (.aload_n 0, 1) := by decide +kernel
theorem dX12_many_146 : decode cX12_many 146 = .ok (.getfield 74, 3) := by decide +kernel
theorem dX12_many_149 : decode cX12_many 149 = .ok (.iload_n 1, 1) := by decide +kernel
theorem dX12_many_150 : decode cX12_many 150 = .ok (.laload, 1) := by decide +kernel
theorem dX12_many_151 : decode cX12_many 151 = .ok (.l2i, 1) := by decide +kernel
theorem dX12_many_152 : decode cX12_many 152 = .ok (.ireturn, 1) := by decide +kernel
theorem dX12_barred_0 : decode cX12_barred 0 = .ok (.aload_n 0, 1) := by decide +kernel
theorem dX12_barred_1 : decode cX12_barred 1 = .ok (.getfield 13, 3) := by decide +kernel
theorem dX12_barred_4 : decode cX12_barred 4 = .ok (.iload_n 2, 1) := by decide +kernel
theorem dX12_barred_5 : decode cX12_barred 5 = .ok (.iaload, 1) := by decide +kernel
theorem dX12_barred_6 : decode cX12_barred 6 = .ok (.iload_n 1, 1) := by decide +kernel
theorem dX12_barred_7 : decode cX12_barred 7 = .ok (.iconst 1, 1) := by decide +kernel
theorem dX12_barred_8 : decode cX12_barred 8 = .ok (.iload_n 2, 1) := by decide +kernel
theorem dX12_barred_9 : decode cX12_barred 9 = .ok (.ishl, 1) := by decide +kernel
theorem dX12_barred_10 : decode cX12_barred 10 = .ok (.iconst 1, 1) := by decide +kernel
theorem dX12_barred_11 : decode cX12_barred 11 = .ok (.isub, 1) := by decide +kernel
theorem dX12_barred_12 : decode cX12_barred 12 = .ok (.ior, 1) := by decide +kernel
theorem dX12_barred_13 : decode cX12_barred 13 = .ok (.iand, 1) := by decide +kernel
theorem dX12_barred_14 : decode cX12_barred 14 = .ok (.ireturn, 1) := by decide +kernel
theorem dX12_findExact_0 : decode cX12_findExact 0 = .ok (.iconst 0, 1) := by decide +kernel
theorem dX12_findExact_1 : decode cX12_findExact 1 = .ok (.istore_n 2, 1) := by decide +kernel
theorem dX12_findExact_2 : decode cX12_findExact 2 = .ok (.iload_n 2, 1) := by decide +kernel
theorem dX12_findExact_3 : decode cX12_findExact 3 = .ok (.iload_n 1, 1) := by decide +kernel
theorem dX12_findExact_4 : decode cX12_findExact 4 = .ok (.if_icmp .gt 107, 3) := by decide +kernel
theorem dX12_findExact_7 : decode cX12_findExact 7 = .ok (.iconst 0, 1) := by decide +kernel
theorem dX12_findExact_8 : decode cX12_findExact 8 = .ok (.istore_n 3, 1) := by decide +kernel
theorem dX12_findExact_9 : decode cX12_findExact 9 = .ok (.iload_n 3, 1) := by decide +kernel
theorem dX12_findExact_10 : decode cX12_findExact 10 = .ok (.bipush 64, 2) := by decide +kernel
theorem dX12_findExact_12 : decode cX12_findExact 12 = .ok (.if_icmp .ge 93, 3) := by decide +kernel
theorem dX12_findExact_15 : decode cX12_findExact 15 = .ok (.iload_n 2, 1) := by decide +kernel
theorem dX12_findExact_16 : decode cX12_findExact 16 = .ok (.ifCond .ne 7, 3) := by decide +kernel
theorem dX12_findExact_19 : decode cX12_findExact 19 = .ok (.lconst 1, 1) := by decide +kernel
theorem dX12_findExact_20 : decode cX12_findExact 20 = .ok (.goto 4, 3) := by decide +kernel
theorem dX12_findExact_23 : decode cX12_findExact 23 = .ok (.lconst 0, 1) := by decide +kernel
theorem dX12_findExact_24 : decode cX12_findExact 24 = .ok (.lstore 4, 2) := by decide +kernel
theorem dX12_findExact_26 : decode cX12_findExact 26 = .ok (.iconst 0, 1) := by decide +kernel
theorem dX12_findExact_27 : decode cX12_findExact 27 = .ok (.istore 6, 2) := by decide +kernel
theorem dX12_findExact_29 : decode cX12_findExact 29 = .ok (.iload 6, 2) := by decide +kernel
theorem dX12_findExact_31 : decode cX12_findExact 31 = .ok (.aload_n 0, 1) := by decide +kernel
theorem dX12_findExact_32 : decode cX12_findExact 32 = .ok (.getfield 7, 3) := by decide +kernel
theorem dX12_findExact_35 : decode cX12_findExact 35 = .ok (.if_icmp .ge 51, 3) := by decide +kernel
theorem dX12_findExact_38 : decode cX12_findExact 38 = .ok (.iload_n 2, 1) := by decide +kernel
theorem dX12_findExact_39 : decode cX12_findExact 39 = .ok (.ifCond .le 47, 3) := by decide +kernel
theorem dX12_findExact_42 : decode cX12_findExact 42 = .ok (.lload 4, 2) := by decide +kernel
theorem dX12_findExact_44 : decode cX12_findExact 44 = .ok (.iload_n 3, 1) := by decide +kernel
theorem dX12_findExact_45 : decode cX12_findExact 45 = .ok (.iload 6, 2) := by decide +kernel
theorem dX12_findExact_47 : decode cX12_findExact 47 = .ok (.ishr, 1) := by decide +kernel
theorem dX12_findExact_48 : decode cX12_findExact 48 = .ok (.iconst 1, 1) := by decide +kernel
theorem dX12_findExact_49 : decode cX12_findExact 49 = .ok (.iand, 1) := by decide +kernel
theorem dX12_findExact_50 : decode cX12_findExact 50 = .ok (.iconst 1, 1) := by decide +kernel
theorem dX12_findExact_51 : decode cX12_findExact 51 = .ok (.if_icmp .ne 7, 3) := by decide +kernel
theorem dX12_findExact_54 : decode cX12_findExact 54 = .ok (.lconst 0, 1) := by decide +kernel
theorem dX12_findExact_55 : decode cX12_findExact 55 = .ok (.goto 22, 3) := by decide +kernel
theorem dX12_findExact_58 : decode cX12_findExact 58 = .ok (.aload_n 0, 1) := by decide +kernel
theorem dX12_findExact_59 : decode cX12_findExact 59 = .ok (.getfield 65, 3) := by decide +kernel
theorem dX12_findExact_62 : decode cX12_findExact 62 = .ok (.bipush 64, 2) := by decide +kernel
theorem dX12_findExact_64 : decode cX12_findExact 64 = .ok (.iload_n 2, 1) := by decide +kernel
theorem dX12_findExact_65 : decode cX12_findExact 65 = .ok (.iconst 1, 1) := by decide +kernel
theorem dX12_findExact_66 : decode cX12_findExact 66 = .ok (.isub, 1) := by decide +kernel
theorem dX12_findExact_67 : decode cX12_findExact 67 = .ok (.imul, 1) := by decide +kernel
theorem dX12_findExact_68 : decode cX12_findExact 68 = .ok (.aload_n 0, 1) := by decide +kernel
theorem dX12_findExact_69 : decode cX12_findExact 69 = .ok (.iload_n 3, 1) := by decide +kernel
theorem dX12_findExact_70 : decode cX12_findExact 70 = .ok (.iload 6, 2) := by decide +kernel
theorem dX12_findExact_72 : decode cX12_findExact 72 = .ok (.invokevirtual 254, 3) := by decide +kernel
theorem dX12_findExact_75 : decode cX12_findExact 75 = .ok (.iadd, 1) := by decide +kernel
theorem dX12_findExact_76 : decode cX12_findExact 76 = .ok (.laload, 1) := by decide +kernel
theorem dX12_findExact_77 : decode cX12_findExact 77 = .ok (.ladd, 1) := by decide +kernel
theorem dX12_findExact_78 : decode cX12_findExact 78 = .ok (.lstore 4, 2) := by decide +kernel
theorem dX12_findExact_80 : decode cX12_findExact 80 = .ok (.iinc 6 1, 3) := by decide +kernel
theorem dX12_findExact_83 : decode cX12_findExact 83 = .ok (.goto (-54), 3) := by decide +kernel
theorem dX12_findExact_86 : decode cX12_findExact 86 = .ok (.aload_n 0, 1) := by decide +kernel
theorem dX12_findExact_87 : decode cX12_findExact 87 = .ok (.getfield 65, 3) := by decide +kernel
theorem dX12_findExact_90 : decode cX12_findExact 90 = .ok (.bipush 64, 2) := by decide +kernel
theorem dX12_findExact_92 : decode cX12_findExact 92 = .ok (.iload_n 2, 1) := by decide +kernel
theorem dX12_findExact_93 : decode cX12_findExact 93 = .ok (.imul, 1) := by decide +kernel
theorem dX12_findExact_94 : decode cX12_findExact 94 = .ok (.iload_n 3, 1) := by decide +kernel
theorem dX12_findExact_95 : decode cX12_findExact 95 = .ok (.iadd, 1) := by decide +kernel
theorem dX12_findExact_96 : decode cX12_findExact 96 = .ok (.lload 4, 2) := by decide +kernel
theorem dX12_findExact_98 : decode cX12_findExact 98 = .ok (.lastore, 1) := by decide +kernel
theorem dX12_findExact_99 : decode cX12_findExact 99 = .ok (.iinc 3 1, 3) := by decide +kernel
theorem dX12_findExact_102 : decode cX12_findExact 102 = .ok (.goto (-93), 3) := by decide +kernel
theorem dX12_findExact_105 : decode cX12_findExact 105 = .ok (.iinc 2 1, 3) := by decide +kernel
theorem dX12_findExact_108 : decode cX12_findExact 108 = .ok (.goto (-106), 3) := by decide +kernel
theorem dX12_findExact_111 : decode cX12_findExact 111 = .ok (.return_, 1) := by decide +kernel
theorem dX12_of_0 : decode cX12_of 0 = .ok (.iload_n 1, 1) := by decide +kernel
theorem dX12_of_1 : decode cX12_of 1 = .ok (.iconst 0, 1) := by decide +kernel
theorem dX12_of_2 : decode cX12_of 2 = .ok (.bipush 20, 2) := by decide +kernel
theorem dX12_of_4 : decode cX12_of 4 = .ok (.invokestatic 83, 3) := by decide +kernel
theorem dX12_of_7 : decode cX12_of 7 = .ok (.ifCond .eq 11, 3) := by decide +kernel
theorem dX12_of_10 : decode cX12_of 10 = .ok (.iload_n 2, 1) := by decide +kernel
theorem dX12_of_11 : decode cX12_of 11 = .ok (.ifCond .lt 7, 3) := by decide +kernel
theorem dX12_of_14 : decode cX12_of 14 = .ok (.iload_n 3, 1) := by decide +kernel
theorem dX12_of_15 : decode cX12_of 15 = .ok (.ifCond .ge 6, 3) := by decide +kernel
theorem dX12_of_18 : decode cX12_of 18 = .ok (.bipush (-3), 2) := by decide +kernel
theorem dX12_of_20 : decode cX12_of 20 = .ok (.ireturn, 1) := by decide +kernel
theorem dX12_of_21 : decode cX12_of 21 = .ok (.aload_n 0, 1) := by decide +kernel
theorem dX12_of_22 : decode cX12_of 22 = .ok (.iload_n 1, 1) := by decide +kernel
theorem dX12_of_23 : decode cX12_of 23 = .ok (.invokevirtual 257, 3) := by decide +kernel
theorem dX12_of_26 : decode cX12_of 26 = .ok (.iload_n 2, 1) := by decide +kernel
theorem dX12_of_27 : decode cX12_of 27 = .ok (.i2l, 1) := by decide +kernel
theorem dX12_of_28 : decode cX12_of 28 = .ok (.aload_n 0, 1) := by decide +kernel
theorem dX12_of_29 : decode cX12_of 29 = .ok (.getfield 65, 3) := by decide +kernel
theorem dX12_of_32 : decode cX12_of 32 = .ok (.bipush 64, 2) := by decide +kernel
theorem dX12_of_34 : decode cX12_of 34 = .ok (.iload_n 1, 1) := by decide +kernel
theorem dX12_of_35 : decode cX12_of 35 = .ok (.imul, 1) := by decide +kernel
theorem dX12_of_36 : decode cX12_of 36 = .ok (.laload, 1) := by decide +kernel
theorem dX12_of_37 : decode cX12_of 37 = .ok (.lcmp, 1) := by decide +kernel
theorem dX12_of_38 : decode cX12_of 38 = .ok (.ifCond .ge 8, 3) := by decide +kernel
theorem dX12_of_41 : decode cX12_of 41 = .ok (.iload_n 3, 1) := by decide +kernel
theorem dX12_of_42 : decode cX12_of 42 = .ok (.iload_n 1, 1) := by decide +kernel
theorem dX12_of_43 : decode cX12_of 43 = .ok (.if_icmp .lt 5, 3) := by decide +kernel
theorem dX12_of_46 : decode cX12_of 46 = .ok (.iconst (-1), 1) := by decide +kernel
theorem dX12_of_47 : decode cX12_of 47 = .ok (.ireturn, 1) := by decide +kernel
theorem dX12_of_48 : decode cX12_of 48 = .ok (.iload_n 2, 1) := by decide +kernel
theorem dX12_of_49 : decode cX12_of 49 = .ok (.i2l, 1) := by decide +kernel
theorem dX12_of_50 : decode cX12_of 50 = .ok (.lstore 4, 2) := by decide +kernel
theorem dX12_of_52 : decode cX12_of 52 = .ok (.iconst 0, 1) := by decide +kernel
theorem dX12_of_53 : decode cX12_of 53 = .ok (.istore 6, 2) := by decide +kernel
theorem dX12_of_55 : decode cX12_of 55 = .ok (.iconst 0, 1) := by decide +kernel
theorem dX12_of_56 : decode cX12_of 56 = .ok (.istore 7, 2) := by decide +kernel
theorem dX12_of_58 : decode cX12_of 58 = .ok (.iconst 0, 1) := by decide +kernel
theorem dX12_of_59 : decode cX12_of 59 = .ok (.istore 8, 2) := by decide +kernel
theorem dX12_of_61 : decode cX12_of 61 = .ok (.iload 8, 2) := by decide +kernel
theorem dX12_of_63 : decode cX12_of 63 = .ok (.iload_n 3, 1) := by decide +kernel
theorem dX12_of_64 : decode cX12_of 64 = .ok (.if_icmp .gt 123, 3) := by decide +kernel
theorem dX12_of_67 : decode cX12_of 67 = .ok (.iconst 0, 1) := by decide +kernel
theorem dX12_of_68 : decode cX12_of 68 = .ok (.istore 7, 2) := by decide +kernel
theorem dX12_of_70 : decode cX12_of 70 = .ok (.iload 6, 2) := by decide +kernel
theorem dX12_of_72 : decode cX12_of 72 = .ok (.iload 7, 2) := by decide +kernel
theorem dX12_of_74 : decode cX12_of 74 = .ok (.ishr, 1) := by decide +kernel
theorem dX12_of_75 : decode cX12_of 75 = .ok (.iconst 1, 1) := by decide +kernel
theorem dX12_of_76 : decode cX12_of 76 = .ok (.iand, 1) := by decide +kernel
theorem dX12_of_77 : decode cX12_of 77 = .ok (.iconst 1, 1) := by decide +kernel
theorem dX12_of_78 : decode cX12_of 78 = .ok (.if_icmp .ne 7, 3) := by decide +kernel
theorem dX12_of_81 : decode cX12_of 81 = .ok (.lconst 0, 1) := by decide +kernel
theorem dX12_of_82 : decode cX12_of 82 = .ok (.goto 26, 3) := by decide +kernel
theorem dX12_of_85 : decode cX12_of 85 = .ok (.aload_n 0, 1) := by decide +kernel
theorem dX12_of_86 : decode cX12_of 86 = .ok (.getfield 65, 3) := by decide +kernel
theorem dX12_of_89 : decode cX12_of 89 = .ok (.bipush 64, 2) := by decide +kernel
theorem dX12_of_91 : decode cX12_of 91 = .ok (.iload_n 1, 1) := by decide +kernel
theorem dX12_of_92 : decode cX12_of 92 = .ok (.iconst 1, 1) := by decide +kernel
theorem dX12_of_93 : decode cX12_of 93 = .ok (.isub, 1) := by decide +kernel
theorem dX12_of_94 : decode cX12_of 94 = .ok (.iload 8, 2) := by decide +kernel
theorem dX12_of_96 : decode cX12_of 96 = .ok (.isub, 1) := by decide +kernel
theorem dX12_of_97 : decode cX12_of 97 = .ok (.imul, 1) := by decide +kernel
theorem dX12_of_98 : decode cX12_of 98 = .ok (.aload_n 0, 1) := by decide +kernel
theorem dX12_of_99 : decode cX12_of 99 = .ok (.iload 6, 2) := by decide +kernel
theorem dX12_of_101 : decode cX12_of 101 = .ok (.iload 7, 2) := by decide +kernel
theorem dX12_of_103 : decode cX12_of 103 = .ok (.invokevirtual 254, 3) := by decide +kernel
theorem dX12_of_106 : decode cX12_of 106 = .ok (.iadd, 1) := by decide +kernel
theorem dX12_of_107 : decode cX12_of 107 = .ok (.laload, 1) := by decide +kernel
theorem dX12_of_108 : decode cX12_of 108 = .ok (.lstore 9, 2) := by decide +kernel
theorem dX12_of_110 : decode cX12_of 110 = .ok (.lload 4, 2) := by decide +kernel
theorem dX12_of_112 : decode cX12_of 112 = .ok (.lload 9, 2) := by decide +kernel
theorem dX12_of_114 : decode cX12_of 114 = .ok (.lcmp, 1) := by decide +kernel
theorem dX12_of_115 : decode cX12_of 115 = .ok (.ifCond .lt 56, 3) := by decide +kernel
theorem dX12_of_118 : decode cX12_of 118 = .ok (.lload 4, 2) := by decide +kernel
theorem dX12_of_120 : decode cX12_of 120 = .ok (.lload 9, 2) := by decide +kernel
theorem dX12_of_122 : decode cX12_of 122 = .ok (.lsub, 1) := by decide +kernel
theorem dX12_of_123 : decode cX12_of 123 = .ok (.lstore 4, 2) := by decide +kernel
theorem dX12_of_125 : decode cX12_of 125 = .ok (.iinc 7 1, 3) := by decide +kernel
theorem dX12_of_128 : decode cX12_of 128 = .ok (.iload 6, 2) := by decide +kernel
theorem dX12_of_130 : decode cX12_of 130 = .ok (.iload 7, 2) := by decide +kernel
theorem dX12_of_132 : decode cX12_of 132 = .ok (.ishr, 1) := by decide +kernel
theorem dX12_of_133 : decode cX12_of 133 = .ok (.iconst 1, 1) := by decide +kernel
theorem dX12_of_134 : decode cX12_of 134 = .ok (.iand, 1) := by decide +kernel
theorem dX12_of_135 : decode cX12_of 135 = .ok (.iconst 1, 1) := by decide +kernel
theorem dX12_of_136 : decode cX12_of 136 = .ok (.if_icmp .ne 7, 3) := by decide +kernel
theorem dX12_of_139 : decode cX12_of 139 = .ok (.lconst 0, 1) := by decide +kernel
theorem dX12_of_140 : decode cX12_of 140 = .ok (.goto 26, 3) := by decide +kernel
theorem dX12_of_143 : decode cX12_of 143 = .ok (.aload_n 0, 1) := by decide +kernel
theorem dX12_of_144 : decode cX12_of 144 = .ok (.getfield 65, 3) := by decide +kernel
theorem dX12_of_147 : decode cX12_of 147 = .ok (.bipush 64, 2) := by decide +kernel
theorem dX12_of_149 : decode cX12_of 149 = .ok (.iload_n 1, 1) := by decide +kernel
theorem dX12_of_150 : decode cX12_of 150 = .ok (.iconst 1, 1) := by decide +kernel
theorem dX12_of_151 : decode cX12_of 151 = .ok (.isub, 1) := by decide +kernel
theorem dX12_of_152 : decode cX12_of 152 = .ok (.iload 8, 2) := by decide +kernel
theorem dX12_of_154 : decode cX12_of 154 = .ok (.isub, 1) := by decide +kernel
theorem dX12_of_155 : decode cX12_of 155 = .ok (.imul, 1) := by decide +kernel
theorem dX12_of_156 : decode cX12_of 156 = .ok (.aload_n 0, 1) := by decide +kernel
theorem dX12_of_157 : decode cX12_of 157 = .ok (.iload 6, 2) := by decide +kernel
theorem dX12_of_159 : decode cX12_of 159 = .ok (.iload 7, 2) := by decide +kernel
theorem dX12_of_161 : decode cX12_of 161 = .ok (.invokevirtual 254, 3) := by decide +kernel
theorem dX12_of_164 : decode cX12_of 164 = .ok (.iadd, 1) := by decide +kernel
theorem dX12_of_165 : decode cX12_of 165 = .ok (.laload, 1) := by decide +kernel
theorem dX12_of_166 : decode cX12_of 166 = .ok (.lstore 9, 2) := by decide +kernel
theorem dX12_of_168 : decode cX12_of 168 = .ok (.goto (-58), 3) := by decide +kernel
theorem dX12_of_171 : decode cX12_of 171 = .ok (.aload_n 0, 1) := by decide +kernel
theorem dX12_of_172 : decode cX12_of 172 = .ok (.iload 6, 2) := by decide +kernel
theorem dX12_of_174 : decode cX12_of 174 = .ok (.iload 7, 2) := by decide +kernel
theorem dX12_of_176 : decode cX12_of 176 = .ok (.invokevirtual 254, 3) := by decide +kernel
theorem dX12_of_179 : decode cX12_of 179 = .ok (.istore 6, 2) := by decide +kernel
theorem dX12_of_181 : decode cX12_of 181 = .ok (.iinc 8 1, 3) := by decide +kernel
theorem dX12_of_184 : decode cX12_of 184 = .ok (.goto (-123), 3) := by decide +kernel
theorem dX12_of_187 : decode cX12_of 187 = .ok (.iload 7, 2) := by decide +kernel
theorem dX12_of_189 : decode cX12_of 189 = .ok (.ireturn, 1) := by decide +kernel
theorem dX12_place_0 : decode cX12_place 0 = .ok (.iload_n 1, 1) := by decide +kernel
theorem dX12_place_1 : decode cX12_place 1 = .ok (.invokestatic 172, 3) := by decide +kernel
theorem dX12_place_4 : decode cX12_place 4 = .ok (.ifCond .ne 6, 3) := by decide +kernel
theorem dX12_place_7 : decode cX12_place 7 = .ok (.bipush (-2), 2) := by decide +kernel
theorem dX12_place_9 : decode cX12_place 9 = .ok (.ireturn, 1) := by decide +kernel
theorem dX12_place_10 : decode cX12_place 10 = .ok (.aload_n 0, 1) := by decide +kernel
theorem dX12_place_11 : decode cX12_place 11 = .ok (.getfield 17, 3) := by decide +kernel
theorem dX12_place_14 : decode cX12_place 14 = .ok (.iload_n 1, 1) := by decide +kernel
theorem dX12_place_15 : decode cX12_place 15 = .ok (.iaload, 1) := by decide +kernel
theorem dX12_place_16 : decode cX12_place 16 = .ok (.bipush 20, 2) := by decide +kernel
theorem dX12_place_18 : decode cX12_place 18 = .ok (.if_icmp .le 6, 3) := by decide +kernel
theorem dX12_place_21 : decode cX12_place 21 = .ok (.bipush (-3), 2) := by decide +kernel
theorem dX12_place_23 : decode cX12_place 23 = .ok (.ireturn, 1) := by decide +kernel
theorem dX12_place_24 : decode cX12_place 24 = .ok (.aload_n 0, 1) := by decide +kernel
theorem dX12_place_25 : decode cX12_place 25 = .ok (.getfield 17, 3) := by decide +kernel
theorem dX12_place_28 : decode cX12_place 28 = .ok (.iload_n 1, 1) := by decide +kernel
theorem dX12_place_29 : decode cX12_place 29 = .ok (.iaload, 1) := by decide +kernel
theorem dX12_place_30 : decode cX12_place 30 = .ok (.istore_n 2, 1) := by decide +kernel
theorem dX12_place_31 : decode cX12_place 31 = .ok (.aload_n 0, 1) := by decide +kernel
theorem dX12_place_32 : decode cX12_place 32 = .ok (.iload_n 1, 1) := by decide +kernel
theorem dX12_place_33 : decode cX12_place 33 = .ok (.aload_n 0, 1) := by decide +kernel
theorem dX12_place_34 : decode cX12_place 34 = .ok (.getfield 29, 3) := by decide +kernel
theorem dX12_place_37 : decode cX12_place 37 = .ok (.invokevirtual 186, 3) := by decide +kernel
theorem dX12_place_40 : decode cX12_place 40 = .ok (.aload_n 0, 1) := by decide +kernel
theorem dX12_place_41 : decode cX12_place 41 = .ok (.aload_n 0, 1) := by decide +kernel
theorem dX12_place_42 : decode cX12_place 42 = .ok (.getfield 29, 3) := by decide +kernel
theorem dX12_place_45 : decode cX12_place 45 = .ok (.iload_n 2, 1) := by decide +kernel
theorem dX12_place_46 : decode cX12_place 46 = .ok (.invokevirtual 190, 3) := by decide +kernel
theorem dX12_place_49 : decode cX12_place 49 = .ok (.pop, 1) := by decide +kernel
theorem dX12_place_50 : decode cX12_place 50 = .ok (.aload_n 0, 1) := by decide +kernel
theorem dX12_place_51 : decode cX12_place 51 = .ok (.iload_n 2, 1) := by decide +kernel
theorem dX12_place_52 : decode cX12_place 52 = .ok (.invokevirtual 257, 3) := by decide +kernel
theorem dX12_place_55 : decode cX12_place 55 = .ok (.lconst 0, 1) := by decide +kernel
theorem dX12_place_56 : decode cX12_place 56 = .ok (.lstore_n 3, 1) := by decide +kernel
theorem dX12_place_57 : decode cX12_place 57 = .ok (.iconst 0, 1) := by decide +kernel
theorem dX12_place_58 : decode cX12_place 58 = .ok (.istore 5, 2) := by decide +kernel
theorem dX12_place_60 : decode cX12_place 60 = .ok (.iconst 0, 1) := by decide +kernel
theorem dX12_place_61 : decode cX12_place 61 = .ok (.istore 6, 2) := by decide +kernel
theorem dX12_place_63 : decode cX12_place 63 = .ok (.iload 6, 2) := by decide +kernel
theorem dX12_place_65 : decode cX12_place 65 = .ok (.iload_n 2, 1) := by decide +kernel
theorem dX12_place_66 : decode cX12_place 66 = .ok (.if_icmp .ge 86, 3) := by decide +kernel
theorem dX12_place_69 : decode cX12_place 69 = .ok (.iconst 0, 1) := by decide +kernel
theorem dX12_place_70 : decode cX12_place 70 = .ok (.istore 7, 2) := by decide +kernel
theorem dX12_place_72 : decode cX12_place 72 = .ok (.iload 7, 2) := by decide +kernel
theorem dX12_place_74 : decode cX12_place 74 = .ok (.aload_n 0, 1) := by decide +kernel
theorem dX12_place_75 : decode cX12_place 75 = .ok (.getfield 35, 3) := by decide +kernel
theorem dX12_place_78 : decode cX12_place 78 = .ok (.iload 6, 2) := by decide +kernel
theorem dX12_place_80 : decode cX12_place 80 = .ok (.iaload, 1) := by decide +kernel
theorem dX12_place_81 : decode cX12_place 81 = .ok (.if_icmp .ge 50, 3) := by decide +kernel
theorem dX12_place_84 : decode cX12_place 84 = .ok (.lload_n 3, 1) := by decide +kernel
theorem dX12_place_85 : decode cX12_place 85 = .ok (.iload 5, 2) := by decide +kernel
theorem dX12_place_87 : decode cX12_place 87 = .ok (.iload 7, 2) := by decide +kernel
theorem dX12_place_89 : decode cX12_place 89 = .ok (.ishr, 1) := by decide +kernel
theorem dX12_place_90 : decode cX12_place 90 = .ok (.iconst 1, 1) := by decide +kernel
theorem dX12_place_91 : decode cX12_place 91 = .ok (.iand, 1) := by decide +kernel
theorem dX12_place_92 : decode cX12_place 92 = .ok (.iconst 1, 1) := by decide +kernel
theorem dX12_place_93 : decode cX12_place 93 = .ok (.if_icmp .ne 7, 3) := by decide +kernel
theorem dX12_place_96 : decode cX12_place 96 = .ok (.lconst 0, 1) := by decide +kernel
theorem dX12_place_97 : decode cX12_place 97 = .ok (.goto 26, 3) := by decide +kernel
theorem dX12_place_100 : decode cX12_place 100 = .ok (.aload_n 0, 1) := by decide +kernel
theorem dX12_place_101 : decode cX12_place 101 = .ok (.getfield 65, 3) := by decide +kernel
theorem dX12_place_104 : decode cX12_place 104 = .ok (.bipush 64, 2) := by decide +kernel
theorem dX12_place_106 : decode cX12_place 106 = .ok (.iload_n 2, 1) := by decide +kernel
theorem dX12_place_107 : decode cX12_place 107 = .ok (.iconst 1, 1) := by decide +kernel
theorem dX12_place_108 : decode cX12_place 108 = .ok (.isub, 1) := by decide +kernel
theorem dX12_place_109 : decode cX12_place 109 = .ok (.iload 6, 2) := by decide +kernel
theorem dX12_place_111 : decode cX12_place 111 = .ok (.isub, 1) := by decide +kernel
theorem dX12_place_112 : decode cX12_place 112 = .ok (.imul, 1) := by decide +kernel
theorem dX12_place_113 : decode cX12_place 113 = .ok (.aload_n 0, 1) := by decide +kernel
theorem dX12_place_114 : decode cX12_place 114 = .ok (.iload 5, 2) := by decide +kernel
theorem dX12_place_116 : decode cX12_place 116 = .ok (.iload 7, 2) := by decide +kernel
theorem dX12_place_118 : decode cX12_place 118 = .ok (.invokevirtual 254, 3) := by decide +kernel
theorem dX12_place_121 : decode cX12_place 121 = .ok (.iadd, 1) := by decide +kernel
theorem dX12_place_122 : decode cX12_place 122 = .ok (.laload, 1) := by decide +kernel
theorem dX12_place_123 : decode cX12_place 123 = .ok (.ladd, 1) := by decide +kernel
theorem dX12_place_124 : decode cX12_place 124 = .ok (.lstore_n 3, 1) := by decide +kernel
theorem dX12_place_125 : decode cX12_place 125 = .ok (.iinc 7 1, 3) := by decide +kernel
theorem dX12_place_128 : decode cX12_place 128 = .ok (.goto (-56), 3) := by decide +kernel
theorem dX12_place_131 : decode cX12_place 131 = .ok (.aload_n 0, 1) := by decide +kernel
theorem dX12_place_132 : decode cX12_place 132 = .ok (.iload 5, 2) := by decide +kernel
theorem dX12_place_134 : decode cX12_place 134 = .ok (.aload_n 0, 1) := by decide +kernel
theorem dX12_place_135 : decode cX12_place 135 = .ok (.getfield 35, 3) := by decide +kernel
theorem dX12_place_138 : decode cX12_place 138 = .ok (.iload 6, 2) := by decide +kernel
theorem dX12_place_140 : decode cX12_place 140 = .ok (.iaload, 1) := by decide +kernel
theorem dX12_place_141 : decode cX12_place 141 = .ok (.invokevirtual 254, 3) := by decide +kernel
theorem dX12_place_144 : decode cX12_place 144 = .ok (.istore 5, 2) := by decide +kernel
theorem dX12_place_146 : decode cX12_place 146 = .ok (.iinc 6 1, 3) := by decide +kernel
theorem dX12_place_149 : decode cX12_place 149 = .ok (.goto (-86), 3) := by decide +kernel
theorem dX12_place_152 : decode cX12_place 152 = .ok (.lload_n 3, 1) := by decide +kernel
theorem dX12_place_153 : decode cX12_place 153 = .ok (.ldc2_w 218, 3) := by decide +kernel
theorem dX12_place_156 : decode cX12_place 156 = .ok (.lrem, 1) := by decide +kernel
theorem dX12_place_157 : decode cX12_place 157 = .ok (.l2i, 1) := by decide +kernel
theorem dX12_place_158 : decode cX12_place 158 = .ok (.ireturn, 1) := by decide +kernel
theorem dX12_reader_0 : decode cX12_reader 0 = .ok (.iload_n 1, 1) := by decide +kernel
theorem dX12_reader_1 : decode cX12_reader 1 = .ok (.iconst 1, 1) := by decide +kernel
theorem dX12_reader_2 : decode cX12_reader 2 = .ok (.iconst 5, 1) := by decide +kernel
theorem dX12_reader_3 : decode cX12_reader 3 = .ok (.invokestatic 83, 3) := by decide +kernel
theorem dX12_reader_6 : decode cX12_reader 6 = .ok (.ifCond .eq 16, 3) := by decide +kernel
theorem dX12_reader_9 : decode cX12_reader 9 = .ok (.iload_n 2, 1) := by decide +kernel
theorem dX12_reader_10 : decode cX12_reader 10 = .ok (.iconst 0, 1) := by decide +kernel
theorem dX12_reader_11 : decode cX12_reader 11 = .ok (.iconst 1, 1) := by decide +kernel
theorem dX12_reader_12 : decode cX12_reader 12 = .ok (.iload_n 1, 1) := by decide +kernel
theorem dX12_reader_13 : decode cX12_reader 13 = .ok (.ishl, 1) := by decide +kernel
theorem dX12_reader_14 : decode cX12_reader 14 = .ok (.iconst 1, 1) := by decide +kernel
theorem dX12_reader_15 : decode cX12_reader 15 = .ok (.isub, 1) := by decide +kernel
theorem dX12_reader_16 : decode cX12_reader 16 = .ok (.invokestatic 83, 3) := by decide +kernel
theorem dX12_reader_19 : decode cX12_reader 19 = .ok (.ifCond .ne 6, 3) := by decide +kernel
theorem dX12_reader_22 : decode cX12_reader 22 = .ok (.bipush (-3), 2) := by decide +kernel
theorem dX12_reader_24 : decode cX12_reader 24 = .ok (.ireturn, 1) := by decide +kernel
theorem dX12_reader_25 : decode cX12_reader 25 = .ok (.aload_n 0, 1) := by decide +kernel
theorem dX12_reader_26 : decode cX12_reader 26 = .ok (.iload_n 1, 1) := by decide +kernel
theorem dX12_reader_27 : decode cX12_reader 27 = .ok (.putfield 77, 3) := by decide +kernel
theorem dX12_reader_30 : decode cX12_reader 30 = .ok (.aload_n 0, 1) := by decide +kernel
theorem dX12_reader_31 : decode cX12_reader 31 = .ok (.iload_n 2, 1) := by decide +kernel
theorem dX12_reader_32 : decode cX12_reader 32 = .ok (.putfield 260, 3) := by decide +kernel
theorem dX12_reader_35 : decode cX12_reader 35 = .ok (.iconst 0, 1) := by decide +kernel
theorem dX12_reader_36 : decode cX12_reader 36 = .ok (.istore_n 3, 1) := by decide +kernel
theorem dX12_reader_37 : decode cX12_reader 37 = .ok (.iload_n 3, 1) := by decide +kernel
theorem dX12_reader_38 : decode cX12_reader 38 = .ok (.iconst 5, 1) := by decide +kernel
theorem dX12_reader_39 : decode cX12_reader 39 = .ok (.if_icmp .ge 38, 3) := by decide +kernel
theorem dX12_reader_42 : decode cX12_reader 42 = .ok (.iconst 0, 1) := by decide +kernel
theorem dX12_reader_43 : decode cX12_reader 43 = .ok (.istore 4, 2) := by decide +kernel
theorem dX12_reader_45 : decode cX12_reader 45 = .ok (.iload 4, 2) := by decide +kernel
theorem dX12_reader_47 : decode cX12_reader 47 = .ok (.bipush 6, 2) := by decide +kernel
theorem dX12_reader_49 : decode cX12_reader 49 = .ok (.if_icmp .ge 22, 3) := by decide +kernel
theorem dX12_reader_52 : decode cX12_reader 52 = .ok (.aload_n 0, 1) := by decide +kernel
theorem dX12_reader_53 : decode cX12_reader 53 = .ok (.getfield 80, 3) := by decide +kernel
theorem dX12_reader_56 : decode cX12_reader 56 = .ok (.bipush 6, 2) := by decide +kernel
theorem dX12_reader_58 : decode cX12_reader 58 = .ok (.iload_n 3, 1) := by decide +kernel
theorem dX12_reader_59 : decode cX12_reader 59 = .ok (.imul, 1) := by decide +kernel
theorem dX12_reader_60 : decode cX12_reader 60 = .ok (.iload 4, 2) := by decide +kernel
theorem dX12_reader_62 : decode cX12_reader 62 = .ok (.iadd, 1) := by decide +kernel
theorem dX12_reader_63 : decode cX12_reader 63 = .ok (.iload_n 3, 1) := by decide +kernel
theorem dX12_reader_64 : decode cX12_reader 64 = .ok (.iastore, 1) := by decide +kernel
theorem dX12_reader_65 : decode cX12_reader 65 = .ok (.iinc 4 1, 3) := by decide +kernel
theorem dX12_reader_68 : decode cX12_reader 68 = .ok (.goto (-23), 3) := by decide +kernel
theorem dX12_reader_71 : decode cX12_reader 71 = .ok (.iinc 3 1, 3) := by decide +kernel
theorem dX12_reader_74 : decode cX12_reader 74 = .ok (.goto (-37), 3) := by decide +kernel
theorem dX12_reader_77 : decode cX12_reader 77 = .ok (.iconst 1, 1) := by decide +kernel
theorem dX12_reader_78 : decode cX12_reader 78 = .ok (.ireturn, 1) := by decide +kernel
theorem dX12_move_0 : decode cX12_move 0 = .ok (.iload_n 1, 1) := by decide +kernel
theorem dX12_move_1 : decode cX12_move 1 = .ok (.iconst 0, 1) := by decide +kernel
theorem dX12_move_2 : decode cX12_move 2 = .ok (.aload_n 0, 1) := by decide +kernel
theorem dX12_move_3 : decode cX12_move 3 = .ok (.getfield 77, 3) := by decide +kernel
theorem dX12_move_6 : decode cX12_move 6 = .ok (.iconst 1, 1) := by decide +kernel
theorem dX12_move_7 : decode cX12_move 7 = .ok (.isub, 1) := by decide +kernel
theorem dX12_move_8 : decode cX12_move 8 = .ok (.invokestatic 83, 3) := by decide +kernel
theorem dX12_move_11 : decode cX12_move 11 = .ok (.ifCond .eq 17, 3) := by decide +kernel
theorem dX12_move_14 : decode cX12_move 14 = .ok (.iload_n 3, 1) := by decide +kernel
theorem dX12_move_15 : decode cX12_move 15 = .ok (.iconst 0, 1) := by decide +kernel
theorem dX12_move_16 : decode cX12_move 16 = .ok (.aload_n 0, 1) := by decide +kernel
theorem dX12_move_17 : decode cX12_move 17 = .ok (.getfield 77, 3) := by decide +kernel
theorem dX12_move_20 : decode cX12_move 20 = .ok (.iconst 1, 1) := by decide +kernel
theorem dX12_move_21 : decode cX12_move 21 = .ok (.isub, 1) := by decide +kernel
theorem dX12_move_22 : decode cX12_move 22 = .ok (.invokestatic 83, 3) := by decide +kernel
theorem dX12_move_25 : decode cX12_move 25 = .ok (.ifCond .ne 6, 3) := by decide +kernel
theorem dX12_move_28 : decode cX12_move 28 = .ok (.bipush (-2), 2) := by decide +kernel
theorem dX12_move_30 : decode cX12_move 30 = .ok (.ireturn, 1) := by decide +kernel
theorem dX12_move_31 : decode cX12_move 31 = .ok (.iload_n 2, 1) := by decide +kernel
theorem dX12_move_32 : decode cX12_move 32 = .ok (.iconst 0, 1) := by decide +kernel
theorem dX12_move_33 : decode cX12_move 33 = .ok (.iconst 5, 1) := by decide +kernel
theorem dX12_move_34 : decode cX12_move 34 = .ok (.invokestatic 83, 3) := by decide +kernel
theorem dX12_move_37 : decode cX12_move 37 = .ok (.ifCond .ne 6, 3) := by decide +kernel
theorem dX12_move_40 : decode cX12_move 40 = .ok (.bipush (-3), 2) := by decide +kernel
theorem dX12_move_42 : decode cX12_move 42 = .ok (.ireturn, 1) := by decide +kernel
theorem dX12_move_43 : decode cX12_move 43 = .ok (.aload_n 0, 1) := by decide +kernel
theorem dX12_move_44 : decode cX12_move 44 = .ok (.getfield 80, 3) := by decide +kernel
theorem dX12_move_47 : decode cX12_move 47 = .ok (.bipush 6, 2) := by decide +kernel
theorem dX12_move_49 : decode cX12_move 49 = .ok (.iload_n 1, 1) := by decide +kernel
theorem dX12_move_50 : decode cX12_move 50 = .ok (.imul, 1) := by decide +kernel
theorem dX12_move_51 : decode cX12_move 51 = .ok (.iload_n 2, 1) := by decide +kernel
theorem dX12_move_52 : decode cX12_move 52 = .ok (.iadd, 1) := by decide +kernel
theorem dX12_move_53 : decode cX12_move 53 = .ok (.iaload, 1) := by decide +kernel
theorem dX12_move_54 : decode cX12_move 54 = .ok (.istore 4, 2) := by decide +kernel
theorem dX12_move_56 : decode cX12_move 56 = .ok (.aload_n 0, 1) := by decide +kernel
theorem dX12_move_57 : decode cX12_move 57 = .ok (.getfield 80, 3) := by decide +kernel
theorem dX12_move_60 : decode cX12_move 60 = .ok (.bipush 6, 2) := by decide +kernel
theorem dX12_move_62 : decode cX12_move 62 = .ok (.iload_n 1, 1) := by decide +kernel
theorem dX12_move_63 : decode cX12_move 63 = .ok (.imul, 1) := by decide +kernel
theorem dX12_move_64 : decode cX12_move 64 = .ok (.iload_n 2, 1) := by decide +kernel
theorem dX12_move_65 : decode cX12_move 65 = .ok (.iadd, 1) := by decide +kernel
theorem dX12_move_66 : decode cX12_move 66 = .ok (.iload_n 3, 1) := by decide +kernel
theorem dX12_move_67 : decode cX12_move 67 = .ok (.iastore, 1) := by decide +kernel
theorem dX12_move_68 : decode cX12_move 68 = .ok (.iload 4, 2) := by decide +kernel
theorem dX12_move_70 : decode cX12_move 70 = .ok (.ireturn, 1) := by decide +kernel
theorem dX12_minds_0 : decode cX12_minds 0 = .ok (.iconst 0, 1) := by decide +kernel
theorem dX12_minds_1 : decode cX12_minds 1 = .ok (.istore_n 1, 1) := by decide +kernel
theorem dX12_minds_2 : decode cX12_minds 2 = .ok (.iload_n 1, 1) := by decide +kernel
theorem dX12_minds_3 : decode cX12_minds 3 = .ok (.aload_n 0, 1) := by decide +kernel
theorem dX12_minds_4 : decode cX12_minds 4 = .ok (.getfield 77, 3) := by decide +kernel
theorem dX12_minds_7 : decode cX12_minds 7 = .ok (.if_icmp .ge 109, 3) := by decide +kernel
theorem dX12_minds_10 : decode cX12_minds 10 = .ok (.iconst 0, 1) := by decide +kernel
theorem dX12_minds_11 : decode cX12_minds 11 = .ok (.istore_n 2, 1) := by decide +kernel
theorem dX12_minds_12 : decode cX12_minds 12 = .ok (.iload_n 2, 1) := by decide +kernel
theorem dX12_minds_13 : decode cX12_minds 13 = .ok (.aload_n 0, 1) := by decide +kernel
theorem dX12_minds_14 : decode cX12_minds 14 = .ok (.getfield 7, 3) := by decide +kernel
theorem dX12_minds_17 : decode cX12_minds 17 = .ok (.if_icmp .ge 93, 3) := by decide +kernel
theorem dX12_minds_20 : decode cX12_minds 20 = .ok (.iload_n 2, 1) := by decide +kernel
theorem dX12_minds_21 : decode cX12_minds 21 = .ok (.iconst 1, 1) := by decide +kernel
theorem dX12_minds_22 : decode cX12_minds 22 = .ok (.iadd, 1) := by decide +kernel
theorem dX12_minds_23 : decode cX12_minds 23 = .ok (.istore_n 3, 1) := by decide +kernel
theorem dX12_minds_24 : decode cX12_minds 24 = .ok (.iload_n 3, 1) := by decide +kernel
theorem dX12_minds_25 : decode cX12_minds 25 = .ok (.aload_n 0, 1) := by decide +kernel
theorem dX12_minds_26 : decode cX12_minds 26 = .ok (.getfield 7, 3) := by decide +kernel
theorem dX12_minds_29 : decode cX12_minds 29 = .ok (.if_icmp .ge 75, 3) := by decide +kernel
theorem dX12_minds_32 : decode cX12_minds 32 = .ok (.aload_n 0, 1) := by decide +kernel
theorem dX12_minds_33 : decode cX12_minds 33 = .ok (.iload_n 2, 1) := by decide +kernel
theorem dX12_minds_34 : decode cX12_minds 34 = .ok (.iload_n 3, 1) := by decide +kernel
theorem dX12_minds_35 : decode cX12_minds 35 = .ok (.invokevirtual 168, 3) := by decide +kernel
theorem dX12_minds_38 : decode cX12_minds 38 = .ok (.ifCond .eq 60, 3) := by decide +kernel
theorem dX12_minds_41 : decode cX12_minds 41 = .ok (.aload_n 0, 1) := by decide +kernel
theorem dX12_minds_42 : decode cX12_minds 42 = .ok (.getfield 80, 3) := by decide +kernel
theorem dX12_minds_45 : decode cX12_minds 45 = .ok (.bipush 6, 2) := by decide +kernel
theorem dX12_minds_47 : decode cX12_minds 47 = .ok (.aload_n 0, 1) := by decide +kernel
theorem dX12_minds_48 : decode cX12_minds 48 = .ok (.getfield 80, 3) := by decide +kernel
theorem dX12_minds_51 : decode cX12_minds 51 = .ok (.bipush 6, 2) := by decide +kernel
theorem dX12_minds_53 : decode cX12_minds 53 = .ok (.iload_n 1, 1) := by decide +kernel
theorem dX12_minds_54 : decode cX12_minds 54 = .ok (.imul, 1) := by decide +kernel
theorem dX12_minds_55 : decode cX12_minds 55 = .ok (.iload_n 2, 1) := by decide +kernel
theorem dX12_minds_56 : decode cX12_minds 56 = .ok (.iadd, 1) := by decide +kernel
theorem dX12_minds_57 : decode cX12_minds 57 = .ok (.iaload, 1) := by decide +kernel
theorem dX12_minds_58 : decode cX12_minds 58 = .ok (.imul, 1) := by decide +kernel
theorem dX12_minds_59 : decode cX12_minds 59 = .ok (.iload_n 3, 1) := by decide +kernel
theorem dX12_minds_60 : decode cX12_minds 60 = .ok (.iadd, 1) := by decide +kernel
theorem dX12_minds_61 : decode cX12_minds 61 = .ok (.iaload, 1) := by decide +kernel
theorem dX12_minds_62 : decode cX12_minds 62 = .ok (.aload_n 0, 1) := by decide +kernel
theorem dX12_minds_63 : decode cX12_minds 63 = .ok (.getfield 80, 3) := by decide +kernel
theorem dX12_minds_66 : decode cX12_minds 66 = .ok (.bipush 6, 2) := by decide +kernel
theorem dX12_minds_68 : decode cX12_minds 68 = .ok (.aload_n 0, 1) := by decide +kernel
theorem dX12_minds_69 : decode cX12_minds 69 = .ok (.getfield 80, 3) := by decide +kernel
theorem dX12_minds_72 : decode cX12_minds 72 = .ok (.bipush 6, 2) := by decide +kernel
theorem dX12_minds_74 : decode cX12_minds 74 = .ok (.iload_n 1, 1) := by decide +kernel
theorem dX12_minds_75 : decode cX12_minds 75 = .ok (.imul, 1) := by decide +kernel
theorem dX12_minds_76 : decode cX12_minds 76 = .ok (.iload_n 3, 1) := by decide +kernel
theorem dX12_minds_77 : decode cX12_minds 77 = .ok (.iadd, 1) := by decide +kernel
theorem dX12_minds_78 : decode cX12_minds 78 = .ok (.iaload, 1) := by decide +kernel
theorem dX12_minds_79 : decode cX12_minds 79 = .ok (.imul, 1) := by decide +kernel
theorem dX12_minds_80 : decode cX12_minds 80 = .ok (.iload_n 2, 1) := by decide +kernel
theorem dX12_minds_81 : decode cX12_minds 81 = .ok (.iadd, 1) := by decide +kernel
theorem dX12_minds_82 : decode cX12_minds 82 = .ok (.iaload, 1) := by decide +kernel
theorem dX12_minds_83 : decode cX12_minds 83 = .ok (.if_icmp .eq 15, 3) := by decide +kernel
theorem dX12_minds_86 : decode cX12_minds 86 = .ok (.bipush 64, 2) := by decide +kernel
theorem dX12_minds_88 : decode cX12_minds 88 = .ok (.iload_n 1, 1) := by decide +kernel
theorem dX12_minds_89 : decode cX12_minds 89 = .ok (.imul, 1) := by decide +kernel
theorem dX12_minds_90 : decode cX12_minds 90 = .ok (.bipush 8, 2) := by decide +kernel
theorem dX12_minds_92 : decode cX12_minds 92 = .ok (.iload_n 2, 1) := by decide +kernel
theorem dX12_minds_93 : decode cX12_minds 93 = .ok (.imul, 1) := by decide +kernel
theorem dX12_minds_94 : decode cX12_minds 94 = .ok (.iadd, 1) := by decide +kernel
theorem dX12_minds_95 : decode cX12_minds 95 = .ok (.iload_n 3, 1) := by decide +kernel
theorem dX12_minds_96 : decode cX12_minds 96 = .ok (.iadd, 1) := by decide +kernel
theorem dX12_minds_97 : decode cX12_minds 97 = .ok (.ireturn, 1) := by decide +kernel
theorem dX12_minds_98 : decode cX12_minds 98 = .ok (.iinc 3 1, 3) := by decide +kernel
theorem dX12_minds_101 : decode cX12_minds 101 = .ok (.goto (-77), 3) := by decide +kernel
theorem dX12_minds_104 : decode cX12_minds 104 = .ok (.iinc 2 1, 3) := by decide +kernel
theorem dX12_minds_107 : decode cX12_minds 107 = .ok (.goto (-95), 3) := by decide +kernel
theorem dX12_minds_110 : decode cX12_minds 110 = .ok (.iinc 1 1, 3) := by decide +kernel
theorem dX12_minds_113 : decode cX12_minds 113 = .ok (.goto (-111), 3) := by decide +kernel
theorem dX12_minds_116 : decode cX12_minds 116 = .ok (.iconst (-1), 1) := by decide +kernel
theorem dX12_minds_117 : decode cX12_minds 117 = .ok (.ireturn, 1) := by decide +kernel
theorem dX12_run_0 : decode cX12_run 0 = .ok (.iload_n 1, 1) := by decide +kernel
theorem dX12_run_1 : decode cX12_run 1 = .ok (.invokestatic 172, 3) := by decide +kernel
theorem dX12_run_4 : decode cX12_run 4 = .ok (.ifCond .ne 6, 3) := by decide +kernel
theorem dX12_run_7 : decode cX12_run 7 = .ok (.bipush (-2), 2) := by decide +kernel
theorem dX12_run_9 : decode cX12_run 9 = .ok (.ireturn, 1) := by decide +kernel
theorem dX12_run_10 : decode cX12_run 10 = .ok (.iload_n 2, 1) := by decide +kernel
theorem dX12_run_11 : decode cX12_run 11 = .ok (.iconst 0, 1) := by decide +kernel
theorem dX12_run_12 : decode cX12_run 12 = .ok (.iconst 1, 1) := by decide +kernel
theorem dX12_run_13 : decode cX12_run 13 = .ok (.invokestatic 83, 3) := by decide +kernel
theorem dX12_run_16 : decode cX12_run 16 = .ok (.ifCond .ne 6, 3) := by decide +kernel
theorem dX12_run_19 : decode cX12_run 19 = .ok (.bipush (-3), 2) := by decide +kernel
theorem dX12_run_21 : decode cX12_run 21 = .ok (.ireturn, 1) := by decide +kernel
theorem dX12_run_22 : decode cX12_run 22 = .ok (.aload_n 0, 1) := by decide +kernel
theorem dX12_run_23 : decode cX12_run 23 = .ok (.iload_n 1, 1) := by decide +kernel
theorem dX12_run_24 : decode cX12_run 24 = .ok (.aload_n 0, 1) := by decide +kernel
theorem dX12_run_25 : decode cX12_run 25 = .ok (.getfield 29, 3) := by decide +kernel
theorem dX12_run_28 : decode cX12_run 28 = .ok (.invokevirtual 186, 3) := by decide +kernel
theorem dX12_run_31 : decode cX12_run 31 = .ok (.aload_n 0, 1) := by decide +kernel
theorem dX12_run_32 : decode cX12_run 32 = .ok (.aload_n 0, 1) := by decide +kernel
theorem dX12_run_33 : decode cX12_run 33 = .ok (.getfield 29, 3) := by decide +kernel
theorem dX12_run_36 : decode cX12_run 36 = .ok (.aload_n 0, 1) := by decide +kernel
theorem dX12_run_37 : decode cX12_run 37 = .ok (.getfield 17, 3) := by decide +kernel
theorem dX12_run_40 : decode cX12_run 40 = .ok (.iload_n 1, 1) := by decide +kernel
theorem dX12_run_41 : decode cX12_run 41 = .ok (.iaload, 1) := by decide +kernel
theorem dX12_run_42 : decode cX12_run 42 = .ok (.invokevirtual 190, 3) := by decide +kernel
theorem dX12_run_45 : decode cX12_run 45 = .ok (.istore_n 3, 1) := by decide +kernel
theorem dX12_run_46 : decode cX12_run 46 = .ok (.iconst 0, 1) := by decide +kernel
theorem dX12_run_47 : decode cX12_run 47 = .ok (.istore 4, 2) := by decide +kernel
theorem dX12_run_49 : decode cX12_run 49 = .ok (.iconst 0, 1) := by decide +kernel
theorem dX12_run_50 : decode cX12_run 50 = .ok (.istore 5, 2) := by decide +kernel
theorem dX12_run_52 : decode cX12_run 52 = .ok (.iload 5, 2) := by decide +kernel
theorem dX12_run_54 : decode cX12_run 54 = .ok (.iload_n 3, 1) := by decide +kernel
theorem dX12_run_55 : decode cX12_run 55 = .ok (.if_icmp .ge 29, 3) := by decide +kernel
theorem dX12_run_58 : decode cX12_run 58 = .ok (.aload_n 0, 1) := by decide +kernel
theorem dX12_run_59 : decode cX12_run 59 = .ok (.getfield 80, 3) := by decide +kernel
theorem dX12_run_62 : decode cX12_run 62 = .ok (.bipush 6, 2) := by decide +kernel
theorem dX12_run_64 : decode cX12_run 64 = .ok (.iload 4, 2) := by decide +kernel
theorem dX12_run_66 : decode cX12_run 66 = .ok (.imul, 1) := by decide +kernel
theorem dX12_run_67 : decode cX12_run 67 = .ok (.aload_n 0, 1) := by decide +kernel
theorem dX12_run_68 : decode cX12_run 68 = .ok (.getfield 35, 3) := by decide +kernel
theorem dX12_run_71 : decode cX12_run 71 = .ok (.iload 5, 2) := by decide +kernel
theorem dX12_run_73 : decode cX12_run 73 = .ok (.iaload, 1) := by decide +kernel
theorem dX12_run_74 : decode cX12_run 74 = .ok (.iadd, 1) := by decide +kernel
theorem dX12_run_75 : decode cX12_run 75 = .ok (.iaload, 1) := by decide +kernel
theorem dX12_run_76 : decode cX12_run 76 = .ok (.istore 4, 2) := by decide +kernel
theorem dX12_run_78 : decode cX12_run 78 = .ok (.iinc 5 1, 3) := by decide +kernel
theorem dX12_run_81 : decode cX12_run 81 = .ok (.goto (-29), 3) := by decide +kernel
theorem dX12_run_84 : decode cX12_run 84 = .ok (.iload_n 2, 1) := by decide +kernel
theorem dX12_run_85 : decode cX12_run 85 = .ok (.ifCond .ne 8, 3) := by decide +kernel
theorem dX12_run_88 : decode cX12_run 88 = .ok (.iload 4, 2) := by decide +kernel
theorem dX12_run_90 : decode cX12_run 90 = .ok (.goto 12, 3) := by decide +kernel
theorem dX12_run_93 : decode cX12_run 93 = .ok (.aload_n 0, 1) := by decide +kernel
theorem dX12_run_94 : decode cX12_run 94 = .ok (.getfield 260, 3) := by decide +kernel
theorem dX12_run_97 : decode cX12_run 97 = .ok (.iload 4, 2) := by decide +kernel
theorem dX12_run_99 : decode cX12_run 99 = .ok (.ishr, 1) := by decide +kernel
theorem dX12_run_100 : decode cX12_run 100 = .ok (.iconst 1, 1) := by decide +kernel
theorem dX12_run_101 : decode cX12_run 101 = .ok (.iand, 1) := by decide +kernel
theorem dX12_run_102 : decode cX12_run 102 = .ok (.ireturn, 1) := by decide +kernel
theorem dX12_taken_0 : decode cX12_taken 0 = .ok (.iload_n 1, 1) := by decide +kernel
theorem dX12_taken_1 : decode cX12_taken 1 = .ok (.iconst 0, 1) := by decide +kernel
theorem dX12_taken_2 : decode cX12_taken 2 = .ok (.bipush 60, 2) := by decide +kernel
theorem dX12_taken_4 : decode cX12_taken 4 = .ok (.invokestatic 83, 3) := by decide +kernel
theorem dX12_taken_7 : decode cX12_taken 7 = .ok (.ifCond .ne 6, 3) := by decide +kernel
theorem dX12_taken_10 : decode cX12_taken 10 = .ok (.bipush (-3), 2) := by decide +kernel
theorem dX12_taken_12 : decode cX12_taken 12 = .ok (.ireturn, 1) := by decide +kernel
theorem dX12_taken_13 : decode cX12_taken 13 = .ok (.iconst 0, 1) := by decide +kernel
theorem dX12_taken_14 : decode cX12_taken 14 = .ok (.istore_n 2, 1) := by decide +kernel
theorem dX12_taken_15 : decode cX12_taken 15 = .ok (.iload_n 2, 1) := by decide +kernel
theorem dX12_taken_16 : decode cX12_taken 16 = .ok (.sipush 320, 3) := by decide +kernel
theorem dX12_taken_19 : decode cX12_taken 19 = .ok (.if_icmp .ge 24, 3) := by decide +kernel
theorem dX12_taken_22 : decode cX12_taken 22 = .ok (.aload_n 0, 1) := by decide +kernel
theorem dX12_taken_23 : decode cX12_taken 23 = .ok (.getfield 68, 3) := by decide +kernel
theorem dX12_taken_26 : decode cX12_taken 26 = .ok (.iload_n 2, 1) := by decide +kernel
theorem dX12_taken_27 : decode cX12_taken 27 = .ok (.iload_n 2, 1) := by decide +kernel
theorem dX12_taken_28 : decode cX12_taken 28 = .ok (.ifCond .ne 7, 3) := by decide +kernel
theorem dX12_taken_31 : decode cX12_taken 31 = .ok (.lconst 1, 1) := by decide +kernel
theorem dX12_taken_32 : decode cX12_taken 32 = .ok (.goto 4, 3) := by decide +kernel
theorem dX12_taken_35 : decode cX12_taken 35 = .ok (.lconst 0, 1) := by decide +kernel
theorem dX12_taken_36 : decode cX12_taken 36 = .ok (.lastore, 1) := by decide +kernel
theorem dX12_taken_37 : decode cX12_taken 37 = .ok (.iinc 2 1, 3) := by decide +kernel
theorem dX12_taken_40 : decode cX12_taken 40 = .ok (.goto (-25), 3) := by decide +kernel
theorem dX12_taken_43 : decode cX12_taken 43 = .ok (.iconst 0, 1) := by decide +kernel
theorem dX12_taken_44 : decode cX12_taken 44 = .ok (.istore_n 2, 1) := by decide +kernel
theorem dX12_taken_45 : decode cX12_taken 45 = .ok (.iload_n 2, 1) := by decide +kernel
theorem dX12_taken_46 : decode cX12_taken 46 = .ok (.iload_n 1, 1) := by decide +kernel
theorem dX12_taken_47 : decode cX12_taken 47 = .ok (.if_icmp .ge 170, 3) := by decide +kernel
theorem dX12_taken_50 : decode cX12_taken 50 = .ok (.iconst 0, 1) := by decide +kernel
theorem dX12_taken_51 : decode cX12_taken 51 = .ok (.istore_n 3, 1) := by decide +kernel
theorem dX12_taken_52 : decode cX12_taken 52 = .ok (.iload_n 3, 1) := by decide +kernel
theorem dX12_taken_53 : decode cX12_taken 53 = .ok (.sipush 320, 3) := by decide +kernel
theorem dX12_taken_56 : decode cX12_taken 56 = .ok (.if_icmp .ge 16, 3) := by decide +kernel
theorem dX12_taken_59 : decode cX12_taken 59 = .ok (.aload_n 0, 1) := by decide +kernel
theorem dX12_taken_60 : decode cX12_taken 60 = .ok (.getfield 71, 3) := by decide +kernel
theorem dX12_taken_63 : decode cX12_taken 63 = .ok (.iload_n 3, 1) := by decide +kernel
theorem dX12_taken_64 : decode cX12_taken 64 = .ok (.lconst 0, 1) := by decide +kernel
theorem dX12_taken_65 : decode cX12_taken 65 = .ok (.lastore, 1) := by decide +kernel
theorem dX12_taken_66 : decode cX12_taken 66 = .ok (.iinc 3 1, 3) := by decide +kernel
theorem dX12_taken_69 : decode cX12_taken 69 = .ok (.goto (-17), 3) := by decide +kernel
theorem dX12_taken_72 : decode cX12_taken 72 = .ok (.iconst 0, 1) := by decide +kernel
theorem dX12_taken_73 : decode cX12_taken 73 = .ok (.istore_n 3, 1) := by decide +kernel
theorem dX12_taken_74 : decode cX12_taken 74 = .ok (.iload_n 3, 1) := by decide +kernel
theorem dX12_taken_75 : decode cX12_taken 75 = .ok (.sipush 320, 3) := by decide +kernel
theorem dX12_taken_78 : decode cX12_taken 78 = .ok (.if_icmp .ge 106, 3) := by decide +kernel
theorem dX12_taken_81 : decode cX12_taken 81 = .ok (.iconst 0, 1) := by decide +kernel
theorem dX12_taken_82 : decode cX12_taken 82 = .ok (.istore 4, 2) := by decide +kernel
theorem dX12_taken_84 : decode cX12_taken 84 = .ok (.iload 4, 2) := by decide +kernel
theorem dX12_taken_86 : decode cX12_taken 86 = .ok (.aload_n 0, 1) := by decide +kernel
theorem dX12_taken_87 : decode cX12_taken 87 = .ok (.getfield 7, 3) := by decide +kernel
theorem dX12_taken_90 : decode cX12_taken 90 = .ok (.if_icmp .ge 88, 3) := by decide +kernel
theorem dX12_taken_93 : decode cX12_taken 93 = .ok (.aload_n 0, 1) := by decide +kernel
theorem dX12_taken_94 : decode cX12_taken 94 = .ok (.getfield 68, 3) := by decide +kernel
theorem dX12_taken_97 : decode cX12_taken 97 = .ok (.iload_n 3, 1) := by decide +kernel
theorem dX12_taken_98 : decode cX12_taken 98 = .ok (.laload, 1) := by decide +kernel
theorem dX12_taken_99 : decode cX12_taken 99 = .ok (.lconst 0, 1) := by decide +kernel
theorem dX12_taken_100 : decode cX12_taken 100 = .ok (.lcmp, 1) := by decide +kernel
theorem dX12_taken_101 : decode cX12_taken 101 = .ok (.ifCond .eq 77, 3) := by decide +kernel
theorem dX12_taken_104 : decode cX12_taken 104 = .ok (.iload_n 3, 1) := by decide +kernel
theorem dX12_taken_105 : decode cX12_taken 105 = .ok (.bipush 64, 2) := by decide +kernel
theorem dX12_taken_107 : decode cX12_taken 107 = .ok (.irem, 1) := by decide +kernel
theorem dX12_taken_108 : decode cX12_taken 108 = .ok (.iload 4, 2) := by decide +kernel
theorem dX12_taken_110 : decode cX12_taken 110 = .ok (.ishr, 1) := by decide +kernel
theorem dX12_taken_111 : decode cX12_taken 111 = .ok (.iconst 1, 1) := by decide +kernel
theorem dX12_taken_112 : decode cX12_taken 112 = .ok (.iand, 1) := by decide +kernel
theorem dX12_taken_113 : decode cX12_taken 113 = .ok (.ifCond .ne 59, 3) := by decide +kernel
theorem dX12_taken_116 : decode cX12_taken 116 = .ok (.bipush 64, 2) := by decide +kernel
theorem dX12_taken_118 : decode cX12_taken 118 = .ok (.aload_n 0, 1) := by decide +kernel
theorem dX12_taken_119 : decode cX12_taken 119 = .ok (.getfield 80, 3) := by decide +kernel
theorem dX12_taken_122 : decode cX12_taken 122 = .ok (.bipush 6, 2) := by decide +kernel
theorem dX12_taken_124 : decode cX12_taken 124 = .ok (.iload_n 3, 1) := by decide +kernel
theorem dX12_taken_125 : decode cX12_taken 125 = .ok (.bipush 64, 2) := by decide +kernel
theorem dX12_taken_127 : decode cX12_taken 127 = .ok (.idiv, 1) := by decide +kernel
theorem dX12_taken_128 : decode cX12_taken 128 = .ok (.imul, 1) := by decide +kernel
theorem dX12_taken_129 : decode cX12_taken 129 = .ok (.iload 4, 2) := by decide +kernel
theorem dX12_taken_131 : decode cX12_taken 131 = .ok (.iadd, 1) := by decide +kernel
theorem dX12_taken_132 : decode cX12_taken 132 = .ok (.iaload, 1) := by decide +kernel
theorem dX12_taken_133 : decode cX12_taken 133 = .ok (.imul, 1) := by decide +kernel
theorem dX12_taken_134 : decode cX12_taken 134 = .ok (.aload_n 0, 1) := by decide +kernel
theorem dX12_taken_135 : decode cX12_taken 135 = .ok (.iload_n 3, 1) := by decide +kernel
theorem dX12_taken_136 : decode cX12_taken 136 = .ok (.bipush 64, 2) := by decide +kernel
theorem dX12_taken_138 : decode cX12_taken 138 = .ok (.irem, 1) := by decide +kernel
theorem dX12_taken_139 : decode cX12_taken 139 = .ok (.iload 4, 2) := by decide +kernel
theorem dX12_taken_141 : decode cX12_taken 141 = .ok (.invokevirtual 254, 3) := by decide +kernel
theorem dX12_taken_144 : decode cX12_taken 144 = .ok (.iadd, 1) := by decide +kernel
theorem dX12_taken_145 : decode cX12_taken 145 = .ok (.istore 5, 2) := by decide +kernel
theorem dX12_taken_147 : decode cX12_taken 147 = .ok (.aload_n 0, 1) := by decide +kernel
theorem dX12_taken_148 : decode cX12_taken 148 = .ok (.getfield 71, 3) := by decide +kernel
theorem dX12_taken_151 : decode cX12_taken 151 = .ok (.iload 5, 2) := by decide +kernel
theorem dX12_taken_153 : decode cX12_taken 153 = .ok (.aload_n 0, 1) := by decide +kernel
theorem dX12_taken_154 : decode cX12_taken 154 = .ok (.getfield 71, 3) := by decide +kernel
theorem dX12_taken_157 : decode cX12_taken 157 = .ok (.iload 5, 2) := by decide +kernel
theorem dX12_taken_159 : decode cX12_taken 159 = .ok (.laload, 1) := by decide +kernel
theorem dX12_taken_160 : decode cX12_taken 160 = .ok (.aload_n 0, 1) := by decide +kernel
theorem dX12_taken_161 : decode cX12_taken 161 = .ok (.getfield 68, 3) := by decide +kernel
theorem dX12_taken_164 : decode cX12_taken 164 = .ok (.iload_n 3, 1) := by decide +kernel
theorem dX12_taken_165 : decode cX12_taken 165 = .ok (.laload, 1) := by decide +kernel
theorem dX12_taken_166 : decode cX12_taken 166 = .ok (.ladd, 1) := by decide +kernel
theorem dX12_taken_167 : decode cX12_taken 167 = .ok (.ldc2_w 218, 3) := by decide +kernel
theorem dX12_taken_170 : decode cX12_taken 170 = .ok (.lrem, 1) := by decide +kernel
theorem dX12_taken_171 : decode cX12_taken 171 = .ok (.lastore, 1) := by decide +kernel
theorem dX12_taken_172 : decode cX12_taken 172 = .ok (.iinc 4 1, 3) := by decide +kernel
theorem dX12_taken_175 : decode cX12_taken 175 = .ok (.goto (-91), 3) := by decide +kernel
theorem dX12_taken_178 : decode cX12_taken 178 = .ok (.iinc 3 1, 3) := by decide +kernel
theorem dX12_taken_181 : decode cX12_taken 181 = .ok (.goto (-107), 3) := by decide +kernel
theorem dX12_taken_184 : decode cX12_taken 184 = .ok (.iconst 0, 1) := by decide +kernel
theorem dX12_taken_185 : decode cX12_taken 185 = .ok (.istore_n 3, 1) := by decide +kernel
theorem dX12_taken_186 : decode cX12_taken 186 = .ok (.iload_n 3, 1) := by decide +kernel
theorem dX12_taken_187 : decode cX12_taken 187 = .ok (.sipush 320, 3) := by decide +kernel
theorem dX12_taken_190 : decode cX12_taken 190 = .ok (.if_icmp .ge 21, 3) := by decide +kernel
theorem dX12_taken_193 : decode cX12_taken 193 = .ok (.aload_n 0, 1) := by decide +kernel
theorem dX12_taken_194 : decode cX12_taken 194 = .ok (.getfield 68, 3) := by decide +kernel
theorem dX12_taken_197 : decode cX12_taken 197 = .ok (.iload_n 3, 1) := by decide +kernel
theorem dX12_taken_198 : decode cX12_taken 198 = .ok (.aload_n 0, 1) := by decide +kernel
theorem dX12_taken_199 : decode cX12_taken 199 = .ok (.getfield 71, 3) := by decide +kernel
theorem dX12_taken_202 : decode cX12_taken 202 = .ok (.iload_n 3, 1) := by decide +kernel
theorem dX12_taken_203 : decode cX12_taken 203 = .ok (.laload, 1) := by decide +kernel
theorem dX12_taken_204 : decode cX12_taken 204 = .ok (.lastore, 1) := by decide +kernel
theorem dX12_taken_205 : decode cX12_taken 205 = .ok (.iinc 3 1, 3) := by decide +kernel
theorem dX12_taken_208 : decode cX12_taken 208 = .ok (.goto (-22), 3) := by decide +kernel
theorem dX12_taken_211 : decode cX12_taken 211 = .ok (.iinc 2 1, 3) := by decide +kernel
theorem dX12_taken_214 : decode cX12_taken 214 = .ok (.goto (-169), 3) := by decide +kernel
theorem dX12_taken_217 : decode cX12_taken 217 = .ok (.lconst 0, 1) := by decide +kernel
theorem dX12_taken_218 : decode cX12_taken 218 = .ok (.lstore_n 2, 1) := by decide +kernel
theorem dX12_taken_219 : decode cX12_taken 219 = .ok (.iconst 0, 1) := by decide +kernel
theorem dX12_taken_220 : decode cX12_taken 220 = .ok (.istore 4, 2) := by decide +kernel
theorem dX12_taken_222 : decode cX12_taken 222 = .ok (.iload 4, 2) := by decide +kernel
theorem dX12_taken_224 : decode cX12_taken 224 = .ok (.sipush 320, 3) := by decide +kernel
theorem dX12_taken_227 : decode cX12_taken 227 = .ok (.if_icmp .ge 39, 3) := by decide +kernel
theorem dX12_taken_230 : decode cX12_taken 230 = .ok (.lload_n 2, 1) := by decide +kernel
theorem dX12_taken_231 : decode cX12_taken 231 = .ok (.aload_n 0, 1) := by decide +kernel
theorem dX12_taken_232 : decode cX12_taken 232 = .ok (.getfield 260, 3) := by decide +kernel
theorem dX12_taken_235 : decode cX12_taken 235 = .ok (.iload 4, 2) := by decide +kernel
theorem dX12_taken_237 : decode cX12_taken 237 = .ok (.bipush 64, 2) := by decide +kernel
theorem dX12_taken_239 : decode cX12_taken 239 = .ok (.idiv, 1) := by decide +kernel
theorem dX12_taken_240 : decode cX12_taken 240 = .ok (.ishr, 1) := by decide +kernel
theorem dX12_taken_241 : decode cX12_taken 241 = .ok (.iconst 1, 1) := by decide +kernel
theorem dX12_taken_242 : decode cX12_taken 242 = .ok (.iand, 1) := by decide +kernel
theorem dX12_taken_243 : decode cX12_taken 243 = .ok (.iconst 1, 1) := by decide +kernel
theorem dX12_taken_244 : decode cX12_taken 244 = .ok (.if_icmp .ne 13, 3) := by decide +kernel
theorem dX12_taken_247 : decode cX12_taken 247 = .ok (.aload_n 0, 1) := by decide +kernel
theorem dX12_taken_248 : decode cX12_taken 248 = .ok (.getfield 68, 3) := by decide +kernel
theorem dX12_taken_251 : decode cX12_taken 251 = .ok (.iload 4, 2) := by decide +kernel
theorem dX12_taken_253 : decode cX12_taken 253 = .ok (.laload, 1) := by decide +kernel
theorem dX12_taken_254 : decode cX12_taken 254 = .ok (.goto 4, 3) := by decide +kernel
theorem dX12_taken_257 : decode cX12_taken 257 = .ok (.lconst 0, 1) := by decide +kernel
theorem dX12_taken_258 : decode cX12_taken 258 = .ok (.ladd, 1) := by decide +kernel
theorem dX12_taken_259 : decode cX12_taken 259 = .ok (.lstore_n 2, 1) := by decide +kernel
theorem dX12_taken_260 : decode cX12_taken 260 = .ok (.iinc 4 1, 3) := by decide +kernel
theorem dX12_taken_263 : decode cX12_taken 263 = .ok (.goto (-41), 3) := by decide +kernel
theorem dX12_taken_266 : decode cX12_taken 266 = .ok (.lload_n 2, 1) := by decide +kernel
theorem dX12_taken_267 : decode cX12_taken 267 = .ok (.ldc2_w 218, 3) := by decide +kernel
theorem dX12_taken_270 : decode cX12_taken 270 = .ok (.lrem, 1) := by decide +kernel
theorem dX12_taken_271 : decode cX12_taken 271 = .ok (.l2i, 1) := by decide +kernel
theorem dX12_taken_272 : decode cX12_taken 272 = .ok (.ireturn, 1) := by decide +kernel
theorem dX12_count_0 : decode cX12_count 0 = .ok (.iconst 0, 1) := by decide +kernel
theorem dX12_count_1 : decode cX12_count 1 = .ok (.istore_n 2, 1) := by decide +kernel
theorem dX12_count_2 : decode cX12_count 2 = .ok (.iload_n 1, 1) := by decide +kernel
theorem dX12_count_3 : decode cX12_count 3 = .ok (.tableswitch 84 0 2 #[25, 30, 79], 25) := by decide +kernel
theorem dX12_count_28 : decode cX12_count 28 = .ok (.aload_n 0, 1) := by decide +kernel
theorem dX12_count_29 : decode cX12_count 29 = .ok (.getfield 7, 3) := by decide +kernel
theorem dX12_count_32 : decode cX12_count 32 = .ok (.ireturn, 1) := by decide +kernel
theorem dX12_count_33 : decode cX12_count 33 = .ok (.iconst 0, 1) := by decide +kernel
theorem dX12_count_34 : decode cX12_count 34 = .ok (.istore_n 3, 1) := by decide +kernel
theorem dX12_count_35 : decode cX12_count 35 = .ok (.iload_n 3, 1) := by decide +kernel
theorem dX12_count_36 : decode cX12_count 36 = .ok (.bipush 6, 2) := by decide +kernel
theorem dX12_count_38 : decode cX12_count 38 = .ok (.if_icmp .ge 42, 3) := by decide +kernel
theorem dX12_count_41 : decode cX12_count 41 = .ok (.iconst 0, 1) := by decide +kernel
theorem dX12_count_42 : decode cX12_count 42 = .ok (.istore 4, 2) := by decide +kernel
theorem dX12_count_44 : decode cX12_count 44 = .ok (.iload 4, 2) := by decide +kernel
theorem dX12_count_46 : decode cX12_count 46 = .ok (.iload_n 3, 1) := by decide +kernel
theorem dX12_count_47 : decode cX12_count 47 = .ok (.if_icmp .ge 27, 3) := by decide +kernel
theorem dX12_count_50 : decode cX12_count 50 = .ok (.iload_n 2, 1) := by decide +kernel
theorem dX12_count_51 : decode cX12_count 51 = .ok (.aload_n 0, 1) := by decide +kernel
theorem dX12_count_52 : decode cX12_count 52 = .ok (.iload_n 3, 1) := by decide +kernel
theorem dX12_count_53 : decode cX12_count 53 = .ok (.iload 4, 2) := by decide +kernel
theorem dX12_count_55 : decode cX12_count 55 = .ok (.invokevirtual 168, 3) := by decide +kernel
theorem dX12_count_58 : decode cX12_count 58 = .ok (.ifCond .eq 7, 3) := by decide +kernel
theorem dX12_count_61 : decode cX12_count 61 = .ok (.iconst 1, 1) := by decide +kernel
theorem dX12_count_62 : decode cX12_count 62 = .ok (.goto 4, 3) := by decide +kernel
theorem dX12_count_65 : decode cX12_count 65 = .ok (.iconst 0, 1) := by decide +kernel
theorem dX12_count_66 : decode cX12_count 66 = .ok (.iadd, 1) := by decide +kernel
theorem dX12_count_67 : decode cX12_count 67 = .ok (.istore_n 2, 1) := by decide +kernel
theorem dX12_count_68 : decode cX12_count 68 = .ok (.iinc 4 1, 3) := by decide +kernel
theorem dX12_count_71 : decode cX12_count 71 = .ok (.goto (-27), 3) := by decide +kernel
theorem dX12_count_74 : decode cX12_count 74 = .ok (.iinc 3 1, 3) := by decide +kernel
theorem dX12_count_77 : decode cX12_count 77 = .ok (.goto (-42), 3) := by decide +kernel
theorem dX12_count_80 : decode cX12_count 80 = .ok (.iload_n 2, 1) := by decide +kernel
theorem dX12_count_81 : decode cX12_count 81 = .ok (.ireturn, 1) := by decide +kernel
theorem dX12_count_82 : decode cX12_count 82 = .ok (.aload_n 0, 1) := by decide +kernel
theorem dX12_count_83 : decode cX12_count 83 = .ok (.getfield 87, 3) := by decide +kernel
theorem dX12_count_86 : decode cX12_count 86 = .ok (.ireturn, 1) := by decide +kernel
theorem dX12_count_87 : decode cX12_count 87 = .ok (.iload_n 1, 1) := by decide +kernel
theorem dX12_count_88 : decode cX12_count 88 = .ok (.iconst 3, 1) := by decide +kernel
theorem dX12_count_89 : decode cX12_count 89 = .ok (.bipush 6, 2) := by decide +kernel
theorem dX12_count_91 : decode cX12_count 91 = .ok (.invokestatic 83, 3) := by decide +kernel
theorem dX12_count_94 : decode cX12_count 94 = .ok (.ifCond .eq 14, 3) := by decide +kernel
theorem dX12_count_97 : decode cX12_count 97 = .ok (.aload_n 0, 1) := by decide +kernel
theorem dX12_count_98 : decode cX12_count 98 = .ok (.getfield 17, 3) := by decide +kernel
theorem dX12_count_101 : decode cX12_count 101 = .ok (.iload_n 1, 1) := by decide +kernel
theorem dX12_count_102 : decode cX12_count 102 = .ok (.iconst 3, 1) := by decide +kernel
theorem dX12_count_103 : decode cX12_count 103 = .ok (.isub, 1) := by decide +kernel
theorem dX12_count_104 : decode cX12_count 104 = .ok (.iaload, 1) := by decide +kernel
theorem dX12_count_105 : decode cX12_count 105 = .ok (.goto 5, 3) := by decide +kernel
theorem dX12_count_108 : decode cX12_count 108 = .ok (.bipush (-3), 2) := by decide +kernel
theorem dX12_count_110 : decode cX12_count 110 = .ok (.ireturn, 1) := by decide +kernel
theorem dJ6_bitCount_0f7a4_0 : decode cJ6_bitCount_0f7a4 0 = .ok (.iload_n 0, 1) := by decide +kernel
theorem dJ6_bitCount_0f7a4_1 : decode cJ6_bitCount_0f7a4 1 = .ok (.iload_n 0, 1) := by decide +kernel
theorem dJ6_bitCount_0f7a4_2 : decode cJ6_bitCount_0f7a4 2 = .ok (.iconst 1, 1) := by decide +kernel
theorem dJ6_bitCount_0f7a4_3 : decode cJ6_bitCount_0f7a4 3 = .ok (.iushr, 1) := by decide +kernel
theorem dJ6_bitCount_0f7a4_4 : decode cJ6_bitCount_0f7a4 4 = .ok (.ldc_w 265, 3) := by decide +kernel
theorem dJ6_bitCount_0f7a4_7 : decode cJ6_bitCount_0f7a4 7 = .ok (.iand, 1) := by decide +kernel
theorem dJ6_bitCount_0f7a4_8 : decode cJ6_bitCount_0f7a4 8 = .ok (.isub, 1) := by decide +kernel
theorem dJ6_bitCount_0f7a4_9 : decode cJ6_bitCount_0f7a4 9 = .ok (.istore_n 0, 1) := by decide +kernel
theorem dJ6_bitCount_0f7a4_10 : decode cJ6_bitCount_0f7a4 10 = .ok (.iload_n 0, 1) := by decide +kernel
theorem dJ6_bitCount_0f7a4_11 : decode cJ6_bitCount_0f7a4 11 = .ok (.ldc_w 266, 3) := by decide +kernel
theorem dJ6_bitCount_0f7a4_14 : decode cJ6_bitCount_0f7a4 14 = .ok (.iand, 1) := by decide +kernel
theorem dJ6_bitCount_0f7a4_15 : decode cJ6_bitCount_0f7a4 15 = .ok (.iload_n 0, 1) := by decide +kernel
theorem dJ6_bitCount_0f7a4_16 : decode cJ6_bitCount_0f7a4 16 = .ok (.iconst 2, 1) := by decide +kernel
theorem dJ6_bitCount_0f7a4_17 : decode cJ6_bitCount_0f7a4 17 = .ok (.iushr, 1) := by decide +kernel
theorem dJ6_bitCount_0f7a4_18 : decode cJ6_bitCount_0f7a4 18 = .ok (.ldc_w 266, 3) := by decide +kernel
theorem dJ6_bitCount_0f7a4_21 : decode cJ6_bitCount_0f7a4 21 = .ok (.iand, 1) := by decide +kernel
theorem dJ6_bitCount_0f7a4_22 : decode cJ6_bitCount_0f7a4 22 = .ok (.iadd, 1) := by decide +kernel
theorem dJ6_bitCount_0f7a4_23 : decode cJ6_bitCount_0f7a4 23 = .ok (.istore_n 0, 1) := by decide +kernel
theorem dJ6_bitCount_0f7a4_24 : decode cJ6_bitCount_0f7a4 24 = .ok (.iload_n 0, 1) := by decide +kernel
theorem dJ6_bitCount_0f7a4_25 : decode cJ6_bitCount_0f7a4 25 = .ok (.iload_n 0, 1) := by decide +kernel
theorem dJ6_bitCount_0f7a4_26 : decode cJ6_bitCount_0f7a4 26 = .ok (.iconst 4, 1) := by decide +kernel
theorem dJ6_bitCount_0f7a4_27 : decode cJ6_bitCount_0f7a4 27 = .ok (.iushr, 1) := by decide +kernel
theorem dJ6_bitCount_0f7a4_28 : decode cJ6_bitCount_0f7a4 28 = .ok (.iadd, 1) := by decide +kernel
theorem dJ6_bitCount_0f7a4_29 : decode cJ6_bitCount_0f7a4 29 = .ok (.ldc_w 267, 3) := by decide +kernel
theorem dJ6_bitCount_0f7a4_32 : decode cJ6_bitCount_0f7a4 32 = .ok (.iand, 1) := by decide +kernel
theorem dJ6_bitCount_0f7a4_33 : decode cJ6_bitCount_0f7a4 33 = .ok (.istore_n 0, 1) := by decide +kernel
theorem dJ6_bitCount_0f7a4_34 : decode cJ6_bitCount_0f7a4 34 = .ok (.iload_n 0, 1) := by decide +kernel
theorem dJ6_bitCount_0f7a4_35 : decode cJ6_bitCount_0f7a4 35 = .ok (.iload_n 0, 1) := by decide +kernel
theorem dJ6_bitCount_0f7a4_36 : decode cJ6_bitCount_0f7a4 36 = .ok (.bipush 8, 2) := by decide +kernel
theorem dJ6_bitCount_0f7a4_38 : decode cJ6_bitCount_0f7a4 38 = .ok (.iushr, 1) := by decide +kernel
theorem dJ6_bitCount_0f7a4_39 : decode cJ6_bitCount_0f7a4 39 = .ok (.iadd, 1) := by decide +kernel
theorem dJ6_bitCount_0f7a4_40 : decode cJ6_bitCount_0f7a4 40 = .ok (.istore_n 0, 1) := by decide +kernel
theorem dJ6_bitCount_0f7a4_41 : decode cJ6_bitCount_0f7a4 41 = .ok (.iload_n 0, 1) := by decide +kernel
theorem dJ6_bitCount_0f7a4_42 : decode cJ6_bitCount_0f7a4 42 = .ok (.iload_n 0, 1) := by decide +kernel
theorem dJ6_bitCount_0f7a4_43 : decode cJ6_bitCount_0f7a4 43 = .ok (.bipush 16, 2) := by decide +kernel
theorem dJ6_bitCount_0f7a4_45 : decode cJ6_bitCount_0f7a4 45 = .ok (.iushr, 1) := by decide +kernel
theorem dJ6_bitCount_0f7a4_46 : decode cJ6_bitCount_0f7a4 46 = .ok (.iadd, 1) := by decide +kernel
theorem dJ6_bitCount_0f7a4_47 : decode cJ6_bitCount_0f7a4 47 = .ok (.istore_n 0, 1) := by decide +kernel
theorem dJ6_bitCount_0f7a4_48 : decode cJ6_bitCount_0f7a4 48 = .ok (.iload_n 0, 1) := by decide +kernel
theorem dJ6_bitCount_0f7a4_49 : decode cJ6_bitCount_0f7a4 49 = .ok (.bipush 63, 2) := by decide +kernel
theorem dJ6_bitCount_0f7a4_51 : decode cJ6_bitCount_0f7a4 51 = .ok (.iand, 1) := by decide +kernel
theorem dJ6_bitCount_0f7a4_52 : decode cJ6_bitCount_0f7a4 52 = .ok (.ireturn, 1) := by decide +kernel
theorem dJ9_floorMod_f86c9_0 : decode cJ9_floorMod_f86c9 0 = .ok (.lload_n 0, 1) := by decide +kernel
theorem dJ9_floorMod_f86c9_1 : decode cJ9_floorMod_f86c9 1 = .ok (.lload_n 2, 1) := by decide +kernel
theorem dJ9_floorMod_f86c9_2 : decode cJ9_floorMod_f86c9 2 = .ok (.lrem, 1) := by decide +kernel
theorem dJ9_floorMod_f86c9_3 : decode cJ9_floorMod_f86c9 3 = .ok (.lstore 4, 2) := by decide +kernel
theorem dJ9_floorMod_f86c9_5 : decode cJ9_floorMod_f86c9 5 = .ok (.lload_n 0, 1) := by decide +kernel
theorem dJ9_floorMod_f86c9_6 : decode cJ9_floorMod_f86c9 6 = .ok (.lload_n 2, 1) := by decide +kernel
theorem dJ9_floorMod_f86c9_7 : decode cJ9_floorMod_f86c9 7 = .ok (.lxor, 1) := by decide +kernel
theorem dJ9_floorMod_f86c9_8 : decode cJ9_floorMod_f86c9 8 = .ok (.lconst 0, 1) := by decide +kernel
theorem dJ9_floorMod_f86c9_9 : decode cJ9_floorMod_f86c9 9 = .ok (.lcmp, 1) := by decide +kernel
theorem dJ9_floorMod_f86c9_10 : decode cJ9_floorMod_f86c9 10 = .ok (.ifCond .ge 15, 3) := by decide +kernel
theorem dJ9_floorMod_f86c9_13 : decode cJ9_floorMod_f86c9 13 = .ok (.lload 4, 2) := by decide +kernel
theorem dJ9_floorMod_f86c9_15 : decode cJ9_floorMod_f86c9 15 = .ok (.lconst 0, 1) := by decide +kernel
theorem dJ9_floorMod_f86c9_16 : decode cJ9_floorMod_f86c9 16 = .ok (.lcmp, 1) := by decide +kernel
theorem dJ9_floorMod_f86c9_17 : decode cJ9_floorMod_f86c9 17 = .ok (.ifCond .eq 8, 3) := by decide +kernel
theorem dJ9_floorMod_f86c9_20 : decode cJ9_floorMod_f86c9 20 = .ok (.lload 4, 2) := by decide +kernel
theorem dJ9_floorMod_f86c9_22 : decode cJ9_floorMod_f86c9 22 = .ok (.lload_n 2, 1) := by decide +kernel
theorem dJ9_floorMod_f86c9_23 : decode cJ9_floorMod_f86c9 23 = .ok (.ladd, 1) := by decide +kernel
theorem dJ9_floorMod_f86c9_24 : decode cJ9_floorMod_f86c9 24 = .ok (.lreturn, 1) := by decide +kernel
theorem dJ9_floorMod_f86c9_25 : decode cJ9_floorMod_f86c9 25 = .ok (.lload 4, 2) := by decide +kernel
theorem dJ9_floorMod_f86c9_27 : decode cJ9_floorMod_f86c9 27 = .ok (.lreturn, 1) := by decide +kernel
theorem dJ9_max_7cf53_0 : decode cJ9_max_7cf53 0 = .ok (.iload_n 0, 1) := by decide +kernel
theorem dJ9_max_7cf53_1 : decode cJ9_max_7cf53 1 = .ok (.iload_n 1, 1) := by decide +kernel
theorem dJ9_max_7cf53_2 : decode cJ9_max_7cf53 2 = .ok (.if_icmp .lt 7, 3) := by decide +kernel
theorem dJ9_max_7cf53_5 : decode cJ9_max_7cf53 5 = .ok (.iload_n 0, 1) := by decide +kernel
theorem dJ9_max_7cf53_6 : decode cJ9_max_7cf53 6 = .ok (.goto 4, 3) := by decide +kernel
theorem dJ9_max_7cf53_9 : decode cJ9_max_7cf53 9 = .ok (.iload_n 1, 1) := by decide +kernel
theorem dJ9_max_7cf53_10 : decode cJ9_max_7cf53 10 = .ok (.ireturn, 1) := by decide +kernel
theorem dJ0_length_8abf5_0 : decode cJ0_length_8abf5 0 = .ok (.aload_n 0, 1) := by decide +kernel
theorem dJ0_length_8abf5_1 : decode cJ0_length_8abf5 1 = .ok (.getfield 9, 3) := by decide +kernel
theorem dJ0_length_8abf5_4 : decode cJ0_length_8abf5 4 = .ok (.arraylength, 1) := by decide +kernel
theorem dJ0_length_8abf5_5 : decode cJ0_length_8abf5 5 = .ok (.aload_n 0, 1) := by decide +kernel
theorem dJ0_length_8abf5_6 : decode cJ0_length_8abf5 6 = .ok (.invokevirtual 335, 3) := by decide +kernel
theorem dJ0_length_8abf5_9 : decode cJ0_length_8abf5 9 = .ok (.ishr, 1) := by decide +kernel
theorem dJ0_length_8abf5_10 : decode cJ0_length_8abf5 10 = .ok (.ireturn, 1) := by decide +kernel
theorem dJ0_charAt_5068e_0 : decode cJ0_charAt_5068e 0 = .ok (.aload_n 0, 1) := by decide +kernel
theorem dJ0_charAt_5068e_1 : decode cJ0_charAt_5068e 1 = .ok (.invokevirtual 492, 3) := by decide +kernel
theorem dJ0_charAt_5068e_4 : decode cJ0_charAt_5068e 4 = .ok (.ifCond .eq 12, 3) := by decide +kernel
theorem dJ0_charAt_5068e_7 : decode cJ0_charAt_5068e 7 = .ok (.aload_n 0, 1) := by decide +kernel
theorem dJ0_charAt_5068e_8 : decode cJ0_charAt_5068e 8 = .ok (.getfield 9, 3) := by decide +kernel
theorem dJ0_charAt_5068e_11 : decode cJ0_charAt_5068e 11 = .ok (.iload_n 1, 1) := by decide +kernel
theorem dJ0_charAt_5068e_12 : decode cJ0_charAt_5068e 12 = .ok (.invokestatic 495, 3) := by decide +kernel
theorem dJ0_charAt_5068e_15 : decode cJ0_charAt_5068e 15 = .ok (.ireturn, 1) := by decide +kernel
theorem dJ0_charAt_5068e_16 : decode cJ0_charAt_5068e 16 = .ok (.aload_n 0, 1) := by decide +kernel
theorem dJ0_charAt_5068e_17 : decode cJ0_charAt_5068e 17 = .ok (.getfield 9, 3) := by decide +kernel
theorem dJ0_charAt_5068e_20 : decode cJ0_charAt_5068e 20 = .ok (.iload_n 1, 1) := by decide +kernel
theorem dJ0_charAt_5068e_21 : decode cJ0_charAt_5068e 21 = .ok (.invokestatic 498, 3) := by decide +kernel
theorem dJ0_charAt_5068e_24 : decode cJ0_charAt_5068e 24 = .ok (.ireturn, 1) := by decide +kernel
theorem dJ0_coder_7d493_0 : decode cJ0_coder_7d493 0 = .ok (.getstatic 38, 3) := by decide +kernel
theorem dJ0_coder_7d493_3 : decode cJ0_coder_7d493 3 = .ok (.ifCond .eq 10, 3) := by decide +kernel
theorem dJ0_coder_7d493_6 : decode cJ0_coder_7d493 6 = .ok (.aload_n 0, 1) := by decide +kernel
theorem dJ0_coder_7d493_7 : decode cJ0_coder_7d493 7 = .ok (.getfield 15, 3) := by decide +kernel
theorem dJ0_coder_7d493_10 : decode cJ0_coder_7d493 10 = .ok (.goto 4, 3) := by decide +kernel
theorem dJ0_coder_7d493_13 : decode cJ0_coder_7d493 13 = .ok (.iconst 1, 1) := by decide +kernel
theorem dJ0_coder_7d493_14 : decode cJ0_coder_7d493 14 = .ok (.ireturn, 1) := by decide +kernel
theorem dJ0_isLatin1_aae02_0 : decode cJ0_isLatin1_aae02 0 = .ok (.getstatic 38, 3) := by decide +kernel
theorem dJ0_isLatin1_aae02_3 : decode cJ0_isLatin1_aae02 3 = .ok (.ifCond .eq 14, 3) := by decide +kernel
theorem dJ0_isLatin1_aae02_6 : decode cJ0_isLatin1_aae02 6 = .ok (.aload_n 0, 1) := by decide +kernel
theorem dJ0_isLatin1_aae02_7 : decode cJ0_isLatin1_aae02 7 = .ok (.getfield 15, 3) := by decide +kernel
theorem dJ0_isLatin1_aae02_10 : decode cJ0_isLatin1_aae02 10 = .ok (.ifCond .ne 7, 3) := by decide +kernel
theorem dJ0_isLatin1_aae02_13 : decode cJ0_isLatin1_aae02 13 = .ok (.iconst 1, 1) := by decide +kernel
theorem dJ0_isLatin1_aae02_14 : decode cJ0_isLatin1_aae02 14 = .ok (.goto 4, 3) := by decide +kernel
theorem dJ0_isLatin1_aae02_17 : decode cJ0_isLatin1_aae02 17 = .ok (.iconst 0, 1) := by decide +kernel
theorem dJ0_isLatin1_aae02_18 : decode cJ0_isLatin1_aae02 18 = .ok (.ireturn, 1) := by decide +kernel
theorem dJ0_checkIndex_df160_0 : decode cJ0_checkIndex_df160 0 = .ok (.iload_n 0, 1) := by decide +kernel
theorem dJ0_checkIndex_df160_1 : decode cJ0_checkIndex_df160 1 = .ok (.iload_n 1, 1) := by decide +kernel
theorem dJ0_checkIndex_df160_2 : decode cJ0_checkIndex_df160 2 = .ok (.getstatic 1053, 3) := by decide +kernel
theorem dJ0_checkIndex_df160_5 : decode cJ0_checkIndex_df160 5 = .ok (.invokestatic 1059, 3) := by decide +kernel
theorem dJ0_checkIndex_df160_8 : decode cJ0_checkIndex_df160 8 = .ok (.pop, 1) := by decide +kernel
theorem dJ0_checkIndex_df160_9 : decode cJ0_checkIndex_df160 9 = .ok (.return_, 1) := by decide +kernel
theorem dJ1_charAt_3b067_0 : decode cJ1_charAt_3b067 0 = .ok (.iload_n 1, 1) := by decide +kernel
theorem dJ1_charAt_3b067_1 : decode cJ1_charAt_3b067 1 = .ok (.aload_n 0, 1) := by decide +kernel
theorem dJ1_charAt_3b067_2 : decode cJ1_charAt_3b067 2 = .ok (.arraylength, 1) := by decide +kernel
theorem dJ1_charAt_3b067_3 : decode cJ1_charAt_3b067 3 = .ok (.invokestatic 9, 3) := by decide +kernel
theorem dJ1_charAt_3b067_6 : decode cJ1_charAt_3b067 6 = .ok (.aload_n 0, 1) := by decide +kernel
theorem dJ1_charAt_3b067_7 : decode cJ1_charAt_3b067 7 = .ok (.iload_n 1, 1) := by decide +kernel
theorem dJ1_charAt_3b067_8 : decode cJ1_charAt_3b067 8 = .ok (.baload, 1) := by decide +kernel
theorem dJ1_charAt_3b067_9 : decode cJ1_charAt_3b067 9 = .ok (.sipush 255, 3) := by decide +kernel
theorem dJ1_charAt_3b067_12 : decode cJ1_charAt_3b067 12 = .ok (.iand, 1) := by decide +kernel
theorem dJ1_charAt_3b067_13 : decode cJ1_charAt_3b067 13 = .ok (.i2c, 1) := by decide +kernel
theorem dJ1_charAt_3b067_14 : decode cJ1_charAt_3b067 14 = .ok (.ireturn, 1) := by decide +kernel
theorem dJ2_getChar_3b067_0 : decode cJ2_getChar_3b067 0 = .ok (.getstatic 44, 3) := by decide +kernel
theorem dJ2_getChar_3b067_3 : decode cJ2_getChar_3b067 3 = .ok (.ifCond .ne 25, 3) := by decide +kernel
theorem dJ2_getChar_3b067_6 : decode cJ2_getChar_3b067 6 = .ok (.iload_n 1, 1) := by decide +kernel
theorem dJ2_getChar_3b067_7 : decode cJ2_getChar_3b067 7 = .ok (.ifCond .lt 11, 3) := by decide +kernel
theorem dJ2_getChar_3b067_10 : decode cJ2_getChar_3b067 10 = .ok (.iload_n 1, 1) := by decide +kernel
theorem dJ2_getChar_3b067_11 : decode cJ2_getChar_3b067 11 = .ok (.aload_n 0, 1) := by decide +kernel
theorem dJ2_getChar_3b067_12 : decode cJ2_getChar_3b067 12 = .ok (.invokestatic 48, 3) := by decide +kernel
theorem dJ2_getChar_3b067_15 : decode cJ2_getChar_3b067 15 = .ok (.if_icmp .lt 13, 3) := by decide +kernel
theorem dJ2_getChar_3b067_18 : decode cJ2_getChar_3b067 18 = .ok (.new 52, 3) := by decide +kernel
theorem dJ2_getChar_3b067_21 : decode cJ2_getChar_3b067 21 = .ok (.dup, 1) := by decide +kernel
theorem dJ2_getChar_3b067_22 : decode cJ2_getChar_3b067 22 = .ok (.ldc 54, 2) := by decide +kernel
theorem dJ2_getChar_3b067_24 : decode cJ2_getChar_3b067 24 = .ok (.invokespecial 56, 3) := by decide +kernel
theorem dJ2_getChar_3b067_27 : decode cJ2_getChar_3b067 27 = .ok (.athrow, 1) := by decide +kernel
theorem dJ2_getChar_3b067_28 : decode cJ2_getChar_3b067 28 = .ok (.iload_n 1, 1) := by decide +kernel
theorem dJ2_getChar_3b067_29 : decode cJ2_getChar_3b067 29 = .ok (.iconst 1, 1) := by decide +kernel
theorem dJ2_getChar_3b067_30 : decode cJ2_getChar_3b067 30 = .ok (.ishl, 1) := by decide +kernel
theorem dJ2_getChar_3b067_31 : decode cJ2_getChar_3b067 31 = .ok (.istore_n 1, 1) := by decide +kernel
theorem dJ2_getChar_3b067_32 : decode cJ2_getChar_3b067 32 = .ok (.aload_n 0, 1) := by decide +kernel
theorem dJ2_getChar_3b067_33 : decode cJ2_getChar_3b067 33 = .ok (.iload_n 1, 1) := by decide +kernel
theorem dJ2_getChar_3b067_34 : decode cJ2_getChar_3b067 34 = .ok (.iinc 1 1, 3) := by decide +kernel
theorem dJ2_getChar_3b067_37 : decode cJ2_getChar_3b067 37 = .ok (.baload, 1) := by decide +kernel
theorem dJ2_getChar_3b067_38 : decode cJ2_getChar_3b067 38 = .ok (.sipush 255, 3) := by decide +kernel
theorem dJ2_getChar_3b067_41 : decode cJ2_getChar_3b067 41 = .ok (.iand, 1) := by decide +kernel
theorem dJ2_getChar_3b067_42 : decode cJ2_getChar_3b067 42 = .ok (.getstatic 59, 3) := by decide +kernel
theorem dJ2_getChar_3b067_45 : decode cJ2_getChar_3b067 45 = .ok (.ishl, 1) := by decide +kernel
theorem dJ2_getChar_3b067_46 : decode cJ2_getChar_3b067 46 = .ok (.aload_n 0, 1) := by decide +kernel
theorem dJ2_getChar_3b067_47 : decode cJ2_getChar_3b067 47 = .ok (.iload_n 1, 1) := by decide +kernel
theorem dJ2_getChar_3b067_48 : decode cJ2_getChar_3b067 48 = .ok (.baload, 1) := by decide +kernel
theorem dJ2_getChar_3b067_49 : decode cJ2_getChar_3b067 49 = .ok (.sipush 255, 3) := by decide +kernel
theorem dJ2_getChar_3b067_52 : decode cJ2_getChar_3b067 52 = .ok (.iand, 1) := by decide +kernel
theorem dJ2_getChar_3b067_53 : decode cJ2_getChar_3b067 53 = .ok (.getstatic 63, 3) := by decide +kernel
theorem dJ2_getChar_3b067_56 : decode cJ2_getChar_3b067 56 = .ok (.ishl, 1) := by decide +kernel
theorem dJ2_getChar_3b067_57 : decode cJ2_getChar_3b067 57 = .ok (.ior, 1) := by decide +kernel
theorem dJ2_getChar_3b067_58 : decode cJ2_getChar_3b067 58 = .ok (.i2c, 1) := by decide +kernel
theorem dJ2_getChar_3b067_59 : decode cJ2_getChar_3b067 59 = .ok (.ireturn, 1) := by decide +kernel
theorem dJ2_length_9d52b_0 : decode cJ2_length_9d52b 0 = .ok (.aload_n 0, 1) := by decide +kernel
theorem dJ2_length_9d52b_1 : decode cJ2_length_9d52b 1 = .ok (.arraylength, 1) := by decide +kernel
theorem dJ2_length_9d52b_2 : decode cJ2_length_9d52b 2 = .ok (.iconst 1, 1) := by decide +kernel
theorem dJ2_length_9d52b_3 : decode cJ2_length_9d52b 3 = .ok (.ishr, 1) := by decide +kernel
theorem dJ2_length_9d52b_4 : decode cJ2_length_9d52b 4 = .ok (.ireturn, 1) := by decide +kernel
theorem dJ2_charAt_3b067_0 : decode cJ2_charAt_3b067 0 = .ok (.iload_n 1, 1) := by decide +kernel
theorem dJ2_charAt_3b067_1 : decode cJ2_charAt_3b067 1 = .ok (.aload_n 0, 1) := by decide +kernel
theorem dJ2_charAt_3b067_2 : decode cJ2_charAt_3b067 2 = .ok (.invokestatic 67, 3) := by decide +kernel
theorem dJ2_charAt_3b067_5 : decode cJ2_charAt_3b067 5 = .ok (.aload_n 0, 1) := by decide +kernel
theorem dJ2_charAt_3b067_6 : decode cJ2_charAt_3b067 6 = .ok (.iload_n 1, 1) := by decide +kernel
theorem dJ2_charAt_3b067_7 : decode cJ2_charAt_3b067 7 = .ok (.invokestatic 71, 3) := by decide +kernel
theorem dJ2_charAt_3b067_10 : decode cJ2_charAt_3b067 10 = .ok (.ireturn, 1) := by decide +kernel
theorem dJ2_checkIndex_2214a_0 : decode cJ2_checkIndex_2214a 0 = .ok (.iload_n 0, 1) := by decide +kernel
theorem dJ2_checkIndex_2214a_1 : decode cJ2_checkIndex_2214a 1 = .ok (.aload_n 1, 1) := by decide +kernel
theorem dJ2_checkIndex_2214a_2 : decode cJ2_checkIndex_2214a 2 = .ok (.invokestatic 48, 3) := by decide +kernel
theorem dJ2_checkIndex_2214a_5 : decode cJ2_checkIndex_2214a 5 = .ok (.invokestatic 414, 3) := by decide +kernel
theorem dJ2_checkIndex_2214a_8 : decode cJ2_checkIndex_2214a 8 = .ok (.return_, 1) := by decide +kernel
theorem dJ7_fill_d0a16_0 : decode cJ7_fill_d0a16 0 = .ok (.iconst 0, 1) := by decide +kernel
theorem dJ7_fill_d0a16_1 : decode cJ7_fill_d0a16 1 = .ok (.istore_n 3, 1) := by decide +kernel
theorem dJ7_fill_d0a16_2 : decode cJ7_fill_d0a16 2 = .ok (.aload_n 0, 1) := by decide +kernel
theorem dJ7_fill_d0a16_3 : decode cJ7_fill_d0a16 3 = .ok (.arraylength, 1) := by decide +kernel
theorem dJ7_fill_d0a16_4 : decode cJ7_fill_d0a16 4 = .ok (.istore 4, 2) := by decide +kernel
theorem dJ7_fill_d0a16_6 : decode cJ7_fill_d0a16 6 = .ok (.iload_n 3, 1) := by decide +kernel
theorem dJ7_fill_d0a16_7 : decode cJ7_fill_d0a16 7 = .ok (.iload 4, 2) := by decide +kernel
theorem dJ7_fill_d0a16_9 : decode cJ7_fill_d0a16 9 = .ok (.if_icmp .ge 13, 3) := by decide +kernel
theorem dJ7_fill_d0a16_12 : decode cJ7_fill_d0a16 12 = .ok (.aload_n 0, 1) := by decide +kernel
theorem dJ7_fill_d0a16_13 : decode cJ7_fill_d0a16 13 = .ok (.iload_n 3, 1) := by decide +kernel
theorem dJ7_fill_d0a16_14 : decode cJ7_fill_d0a16 14 = .ok (.lload_n 1, 1) := by decide +kernel
theorem dJ7_fill_d0a16_15 : decode cJ7_fill_d0a16 15 = .ok (.lastore, 1) := by decide +kernel
theorem dJ7_fill_d0a16_16 : decode cJ7_fill_d0a16 16 = .ok (.iinc 3 1, 3) := by decide +kernel
theorem dJ7_fill_d0a16_19 : decode cJ7_fill_d0a16 19 = .ok (.goto (-13), 3) := by decide +kernel
theorem dJ7_fill_d0a16_22 : decode cJ7_fill_d0a16 22 = .ok (.return_, 1) := by decide +kernel
theorem dJ7_fill_53178_0 : decode cJ7_fill_53178 0 = .ok (.iconst 0, 1) := by decide +kernel
theorem dJ7_fill_53178_1 : decode cJ7_fill_53178 1 = .ok (.istore_n 2, 1) := by decide +kernel
theorem dJ7_fill_53178_2 : decode cJ7_fill_53178 2 = .ok (.aload_n 0, 1) := by decide +kernel
theorem dJ7_fill_53178_3 : decode cJ7_fill_53178 3 = .ok (.arraylength, 1) := by decide +kernel
theorem dJ7_fill_53178_4 : decode cJ7_fill_53178 4 = .ok (.istore_n 3, 1) := by decide +kernel
theorem dJ7_fill_53178_5 : decode cJ7_fill_53178 5 = .ok (.iload_n 2, 1) := by decide +kernel
theorem dJ7_fill_53178_6 : decode cJ7_fill_53178 6 = .ok (.iload_n 3, 1) := by decide +kernel
theorem dJ7_fill_53178_7 : decode cJ7_fill_53178 7 = .ok (.if_icmp .ge 13, 3) := by decide +kernel
theorem dJ7_fill_53178_10 : decode cJ7_fill_53178 10 = .ok (.aload_n 0, 1) := by decide +kernel
theorem dJ7_fill_53178_11 : decode cJ7_fill_53178 11 = .ok (.iload_n 2, 1) := by decide +kernel
theorem dJ7_fill_53178_12 : decode cJ7_fill_53178 12 = .ok (.iload_n 1, 1) := by decide +kernel
theorem dJ7_fill_53178_13 : decode cJ7_fill_53178 13 = .ok (.iastore, 1) := by decide +kernel
theorem dJ7_fill_53178_14 : decode cJ7_fill_53178 14 = .ok (.iinc 2 1, 3) := by decide +kernel
theorem dJ7_fill_53178_17 : decode cJ7_fill_53178 17 = .ok (.goto (-12), 3) := by decide +kernel
theorem dJ7_fill_53178_20 : decode cJ7_fill_53178 20 = .ok (.return_, 1) := by decide +kernel
theorem dJ3_checkIndex_8e157_0 : decode cJ3_checkIndex_8e157 0 = .ok (.iload_n 0, 1) := by decide +kernel
theorem dJ3_checkIndex_8e157_1 : decode cJ3_checkIndex_8e157 1 = .ok (.ifCond .lt 8, 3) := by decide +kernel
theorem dJ3_checkIndex_8e157_4 : decode cJ3_checkIndex_8e157 4 = .ok (.iload_n 0, 1) := by decide +kernel
theorem dJ3_checkIndex_8e157_5 : decode cJ3_checkIndex_8e157 5 = .ok (.iload_n 1, 1) := by decide +kernel
theorem dJ3_checkIndex_8e157_6 : decode cJ3_checkIndex_8e157 6 = .ok (.if_icmp .lt 10, 3) := by decide +kernel
theorem dJ3_checkIndex_8e157_9 : decode cJ3_checkIndex_8e157 9 = .ok (.aload_n 2, 1) := by decide +kernel
theorem dJ3_checkIndex_8e157_10 : decode cJ3_checkIndex_8e157 10 = .ok (.iload_n 0, 1) := by decide +kernel
theorem dJ3_checkIndex_8e157_11 : decode cJ3_checkIndex_8e157 11 = .ok (.iload_n 1, 1) := by decide +kernel
theorem dJ3_checkIndex_8e157_12 : decode cJ3_checkIndex_8e157 12 = .ok (.invokestatic 95, 3) := by decide +kernel
theorem dJ3_checkIndex_8e157_15 : decode cJ3_checkIndex_8e157 15 = .ok (.athrow, 1) := by decide +kernel
theorem dJ3_checkIndex_8e157_16 : decode cJ3_checkIndex_8e157 16 = .ok (.iload_n 0, 1) := by decide +kernel
theorem dJ3_checkIndex_8e157_17 : decode cJ3_checkIndex_8e157 17 = .ok (.ireturn, 1) := by decide +kernel
theorem dL_law_0 : decode cL_law 0 = .ok (.new 7, 3) := by decide +kernel
theorem dL_law_3 : decode cL_law 3 = .ok (.dup, 1) := by decide +kernel
theorem dL_law_4 : decode cL_law 4 = .ok (.invokespecial 9, 3) := by decide +kernel
theorem dL_law_7 : decode cL_law 7 = .ok (.astore_n 1, 1) := by decide +kernel
theorem dL_law_8 : decode cL_law 8 = .ok (.new 10, 3) := by decide +kernel
theorem dL_law_11 : decode cL_law 11 = .ok (.dup, 1) := by decide +kernel
theorem dL_law_12 : decode cL_law 12 = .ok (.invokespecial 12, 3) := by decide +kernel
theorem dL_law_15 : decode cL_law 15 = .ok (.astore_n 2, 1) := by decide +kernel
theorem dL_law_16 : decode cL_law 16 = .ok (.iconst 0, 1) := by decide +kernel
theorem dL_law_17 : decode cL_law 17 = .ok (.istore_n 3, 1) := by decide +kernel
theorem dL_law_18 : decode cL_law 18 = .ok (.iload_n 3, 1) := by decide +kernel
theorem dL_law_19 : decode cL_law 19 = .ok (.aload_n 0, 1) := by decide +kernel
theorem dL_law_20 : decode cL_law 20 = .ok (.arraylength, 1) := by decide +kernel
theorem dL_law_21 : decode cL_law 21 = .ok (.iconst 4, 1) := by decide +kernel
theorem dL_law_22 : decode cL_law 22 = .ok (.isub, 1) := by decide +kernel
theorem dL_law_23 : decode cL_law 23 = .ok (.if_icmp .gt 1181, 3) := by decide +kernel
theorem dL_law_26 : decode cL_law 26 = .ok (.aload_n 0, 1) := by decide +kernel
theorem dL_law_27 : decode cL_law 27 = .ok (.iload_n 3, 1) := by decide +kernel
theorem dL_law_28 : decode cL_law 28 = .ok (.iaload, 1) := by decide +kernel
theorem dL_law_29 : decode cL_law 29 = .ok (.bipush 31, 2) := by decide +kernel
theorem dL_law_31 : decode cL_law 31 = .ok (.iand, 1) := by decide +kernel
theorem dL_law_32 : decode cL_law 32 = .ok (.tableswitch 1166 0 31 #[144, 207, 220, 233, 246, 305, 338, 361, 404, 437, 470, 503, 546, 579, 622, 665, 708, 751, 774, 807, 830, 853, 886, 909, 932, 975, 998, 1031, 1074, 1087, 1120, 1143], 144) := by decide +kernel
theorem dL_law_176 : decode cL_law 176 = .ok (.aload_n 1, 1) := by decide +kernel
theorem dL_law_177 : decode cL_law 177 = .ok (.aload_n 0, 1) := by decide +kernel
theorem dL_law_178 : decode cL_law 178 = .ok (.iload_n 3, 1) := by decide +kernel
theorem dL_law_179 : decode cL_law 179 = .ok (.iconst 1, 1) := by decide +kernel
theorem dL_law_180 : decode cL_law 180 = .ok (.iadd, 1) := by decide +kernel
theorem dL_law_181 : decode cL_law 181 = .ok (.iaload, 1) := by decide +kernel
theorem dL_law_182 : decode cL_law 182 = .ok (.i2l, 1) := by decide +kernel
theorem dL_law_183 : decode cL_law 183 = .ok (.bipush 32, 2) := by decide +kernel
theorem dL_law_185 : decode cL_law 185 = .ok (.lshl, 1) := by decide +kernel
theorem dL_law_186 : decode cL_law 186 = .ok (.aload_n 0, 1) := by decide +kernel
theorem dL_law_187 : decode cL_law 187 = .ok (.iload_n 3, 1) := by decide +kernel
theorem dL_law_188 : decode cL_law 188 = .ok (.iconst 2, 1) := by decide +kernel
theorem dL_law_189 : decode cL_law 189 = .ok (.iadd, 1) := by decide +kernel
theorem dL_law_190 : decode cL_law 190 = .ok (.iaload, 1) := by decide +kernel
theorem dL_law_191 : decode cL_law 191 = .ok (.i2l, 1) := by decide +kernel
theorem dL_law_192 : decode cL_law 192 = .ok (.ldc2_w 13, 3) := by decide +kernel
theorem dL_law_195 : decode cL_law 195 = .ok (.land, 1) := by decide +kernel
theorem dL_law_196 : decode cL_law 196 = .ok (.lor, 1) := by decide +kernel
theorem dL_law_197 : decode cL_law 197 = .ok (.aload_n 0, 1) := by decide +kernel
theorem dL_law_198 : decode cL_law 198 = .ok (.iload_n 3, 1) := by decide +kernel
theorem dL_law_199 : decode cL_law 199 = .ok (.iconst 3, 1) := by decide +kernel
theorem dL_law_200 : decode cL_law 200 = .ok (.iadd, 1) := by decide +kernel
theorem dL_law_201 : decode cL_law 201 = .ok (.iaload, 1) := by decide +kernel
theorem dL_law_202 : decode cL_law 202 = .ok (.invokevirtual 15, 3) := by decide +kernel
theorem dL_law_205 : decode cL_law 205 = .ok (.aload_n 2, 1) := by decide +kernel
theorem dL_law_206 : decode cL_law 206 = .ok (.aload_n 0, 1) := by decide +kernel
theorem dL_law_207 : decode cL_law 207 = .ok (.iload_n 3, 1) := by decide +kernel
theorem dL_law_208 : decode cL_law 208 = .ok (.iconst 1, 1) := by decide +kernel
theorem dL_law_209 : decode cL_law 209 = .ok (.iadd, 1) := by decide +kernel
theorem dL_law_210 : decode cL_law 210 = .ok (.iaload, 1) := by decide +kernel
theorem dL_law_211 : decode cL_law 211 = .ok (.i2l, 1) := by decide +kernel
theorem dL_law_212 : decode cL_law 212 = .ok (.bipush 32, 2) := by decide +kernel
theorem dL_law_214 : decode cL_law 214 = .ok (.lshl, 1) := by decide +kernel
theorem dL_law_215 : decode cL_law 215 = .ok (.aload_n 0, 1) := by decide +kernel
theorem dL_law_216 : decode cL_law 216 = .ok (.iload_n 3, 1) := by decide +kernel
theorem dL_law_217 : decode cL_law 217 = .ok (.iconst 2, 1) := by decide +kernel
theorem dL_law_218 : decode cL_law 218 = .ok (.iadd, 1) := by decide +kernel
theorem dL_law_219 : decode cL_law 219 = .ok (.iaload, 1) := by decide +kernel
theorem dL_law_220 : decode cL_law 220 = .ok (.i2l, 1) := by decide +kernel
theorem dL_law_221 : decode cL_law 221 = .ok (.ldc2_w 13, 3) := by decide +kernel
theorem dL_law_224 : decode cL_law 224 = .ok (.land, 1) := by decide +kernel
theorem dL_law_225 : decode cL_law 225 = .ok (.lor, 1) := by decide +kernel
theorem dL_law_226 : decode cL_law 226 = .ok (.aload_n 0, 1) := by decide +kernel
theorem dL_law_227 : decode cL_law 227 = .ok (.iload_n 3, 1) := by decide +kernel
theorem dL_law_228 : decode cL_law 228 = .ok (.iconst 3, 1) := by decide +kernel
theorem dL_law_229 : decode cL_law 229 = .ok (.iadd, 1) := by decide +kernel
theorem dL_law_230 : decode cL_law 230 = .ok (.iaload, 1) := by decide +kernel
theorem dL_law_231 : decode cL_law 231 = .ok (.invokevirtual 19, 3) := by decide +kernel
theorem dL_law_234 : decode cL_law 234 = .ok (.if_icmp .eq 964, 3) := by decide +kernel
theorem dL_law_237 : decode cL_law 237 = .ok (.iconst 0, 1) := by decide +kernel
theorem dL_law_238 : decode cL_law 238 = .ok (.ireturn, 1) := by decide +kernel
theorem dL_law_239 : decode cL_law 239 = .ok (.aload_n 1, 1) := by decide +kernel
theorem dL_law_240 : decode cL_law 240 = .ok (.invokevirtual 20, 3) := by decide +kernel
theorem dL_law_243 : decode cL_law 243 = .ok (.aload_n 2, 1) := by decide +kernel
theorem dL_law_244 : decode cL_law 244 = .ok (.invokevirtual 24, 3) := by decide +kernel
theorem dL_law_247 : decode cL_law 247 = .ok (.if_icmp .eq 951, 3) := by decide +kernel
theorem dL_law_250 : decode cL_law 250 = .ok (.iconst 0, 1) := by decide +kernel
theorem dL_law_251 : decode cL_law 251 = .ok (.ireturn, 1) := by decide +kernel
theorem dL_law_252 : decode cL_law 252 = .ok (.aload_n 1, 1) := by decide +kernel
theorem dL_law_253 : decode cL_law 253 = .ok (.invokevirtual 25, 3) := by decide +kernel
theorem dL_law_256 : decode cL_law 256 = .ok (.aload_n 2, 1) := by decide +kernel
theorem dL_law_257 : decode cL_law 257 = .ok (.invokevirtual 28, 3) := by decide +kernel
theorem dL_law_260 : decode cL_law 260 = .ok (.if_icmp .eq 938, 3) := by decide +kernel
theorem dL_law_263 : decode cL_law 263 = .ok (.iconst 0, 1) := by decide +kernel
theorem dL_law_264 : decode cL_law 264 = .ok (.ireturn, 1) := by decide +kernel
theorem dL_law_265 : decode cL_law 265 = .ok (.aload_n 1, 1) := by decide +kernel
theorem dL_law_266 : decode cL_law 266 = .ok (.invokevirtual 29, 3) := by decide +kernel
theorem dL_law_269 : decode cL_law 269 = .ok (.aload_n 2, 1) := by decide +kernel
theorem dL_law_270 : decode cL_law 270 = .ok (.invokevirtual 32, 3) := by decide +kernel
theorem dL_law_273 : decode cL_law 273 = .ok (.if_icmp .eq 925, 3) := by decide +kernel
theorem dL_law_276 : decode cL_law 276 = .ok (.iconst 0, 1) := by decide +kernel
theorem dL_law_277 : decode cL_law 277 = .ok (.ireturn, 1) := by decide +kernel
theorem dL_law_278 : decode cL_law 278 = .ok (.aload_n 1, 1) := by decide +kernel
theorem dL_law_279 : decode cL_law 279 = .ok (.aload_n 0, 1) := by decide +kernel
theorem dL_law_280 : decode cL_law 280 = .ok (.iload_n 3, 1) := by decide +kernel
theorem dL_law_281 : decode cL_law 281 = .ok (.iconst 1, 1) := by decide +kernel
theorem dL_law_282 : decode cL_law 282 = .ok (.iadd, 1) := by decide +kernel
theorem dL_law_283 : decode cL_law 283 = .ok (.iaload, 1) := by decide +kernel
theorem dL_law_284 : decode cL_law 284 = .ok (.aload_n 0, 1) := by decide +kernel
theorem dL_law_285 : decode cL_law 285 = .ok (.iload_n 3, 1) := by decide +kernel
theorem dL_law_286 : decode cL_law 286 = .ok (.iconst 2, 1) := by decide +kernel
theorem dL_law_287 : decode cL_law 287 = .ok (.iadd, 1) := by decide +kernel
theorem dL_law_288 : decode cL_law 288 = .ok (.iaload, 1) := by decide +kernel
theorem dL_law_289 : decode cL_law 289 = .ok (.aload_n 0, 1) := by decide +kernel
theorem dL_law_290 : decode cL_law 290 = .ok (.iload_n 3, 1) := by decide +kernel
theorem dL_law_291 : decode cL_law 291 = .ok (.iconst 3, 1) := by decide +kernel
theorem dL_law_292 : decode cL_law 292 = .ok (.iadd, 1) := by decide +kernel
theorem dL_law_293 : decode cL_law 293 = .ok (.iaload, 1) := by decide +kernel
theorem dL_law_294 : decode cL_law 294 = .ok (.ifCond .eq 7, 3) := by decide +kernel
theorem dL_law_297 : decode cL_law 297 = .ok (.iconst 1, 1) := by decide +kernel
theorem dL_law_298 : decode cL_law 298 = .ok (.goto 4, 3) := by decide +kernel
theorem dL_law_301 : decode cL_law 301 = .ok (.iconst 0, 1) := by decide +kernel
theorem dL_law_302 : decode cL_law 302 = .ok (.invokevirtual 33, 3) := by decide +kernel
theorem dL_law_305 : decode cL_law 305 = .ok (.aload_n 2, 1) := by decide +kernel
theorem dL_law_306 : decode cL_law 306 = .ok (.aload_n 0, 1) := by decide +kernel
theorem dL_law_307 : decode cL_law 307 = .ok (.iload_n 3, 1) := by decide +kernel
theorem dL_law_308 : decode cL_law 308 = .ok (.iconst 1, 1) := by decide +kernel
theorem dL_law_309 : decode cL_law 309 = .ok (.iadd, 1) := by decide +kernel
theorem dL_law_310 : decode cL_law 310 = .ok (.iaload, 1) := by decide +kernel
theorem dL_law_311 : decode cL_law 311 = .ok (.aload_n 0, 1) := by decide +kernel
theorem dL_law_312 : decode cL_law 312 = .ok (.iload_n 3, 1) := by decide +kernel
theorem dL_law_313 : decode cL_law 313 = .ok (.iconst 2, 1) := by decide +kernel
theorem dL_law_314 : decode cL_law 314 = .ok (.iadd, 1) := by decide +kernel
theorem dL_law_315 : decode cL_law 315 = .ok (.iaload, 1) := by decide +kernel
theorem dL_law_316 : decode cL_law 316 = .ok (.aload_n 0, 1) := by decide +kernel
theorem dL_law_317 : decode cL_law 317 = .ok (.iload_n 3, 1) := by decide +kernel
theorem dL_law_318 : decode cL_law 318 = .ok (.iconst 3, 1) := by decide +kernel
theorem dL_law_319 : decode cL_law 319 = .ok (.iadd, 1) := by decide +kernel
theorem dL_law_320 : decode cL_law 320 = .ok (.iaload, 1) := by decide +kernel
theorem dL_law_321 : decode cL_law 321 = .ok (.ifCond .eq 7, 3) := by decide +kernel
theorem dL_law_324 : decode cL_law 324 = .ok (.iconst 1, 1) := by decide +kernel
theorem dL_law_325 : decode cL_law 325 = .ok (.goto 4, 3) := by decide +kernel
theorem dL_law_328 : decode cL_law 328 = .ok (.iconst 0, 1) := by decide +kernel
theorem dL_law_329 : decode cL_law 329 = .ok (.invokevirtual 37, 3) := by decide +kernel
theorem dL_law_332 : decode cL_law 332 = .ok (.if_icmp .eq 866, 3) := by decide +kernel
theorem dL_law_335 : decode cL_law 335 = .ok (.iconst 0, 1) := by decide +kernel
theorem dL_law_336 : decode cL_law 336 = .ok (.ireturn, 1) := by decide +kernel
theorem dL_law_337 : decode cL_law 337 = .ok (.aload_n 1, 1) := by decide +kernel
theorem dL_law_338 : decode cL_law 338 = .ok (.aload_n 0, 1) := by decide +kernel
theorem dL_law_339 : decode cL_law 339 = .ok (.iload_n 3, 1) := by decide +kernel
theorem dL_law_340 : decode cL_law 340 = .ok (.iconst 1, 1) := by decide +kernel
theorem dL_law_341 : decode cL_law 341 = .ok (.iadd, 1) := by decide +kernel
theorem dL_law_342 : decode cL_law 342 = .ok (.iaload, 1) := by decide +kernel
theorem dL_law_343 : decode cL_law 343 = .ok (.aload_n 0, 1) := by decide +kernel
theorem dL_law_344 : decode cL_law 344 = .ok (.iload_n 3, 1) := by decide +kernel
theorem dL_law_345 : decode cL_law 345 = .ok (.iconst 2, 1) := by decide +kernel
theorem dL_law_346 : decode cL_law 346 = .ok (.iadd, 1) := by decide +kernel
theorem dL_law_347 : decode cL_law 347 = .ok (.iaload, 1) := by decide +kernel
theorem dL_law_348 : decode cL_law 348 = .ok (.invokevirtual 38, 3) := by decide +kernel
theorem dL_law_351 : decode cL_law 351 = .ok (.aload_n 2, 1) := by decide +kernel
theorem dL_law_352 : decode cL_law 352 = .ok (.aload_n 0, 1) := by decide +kernel
theorem dL_law_353 : decode cL_law 353 = .ok (.iload_n 3, 1) := by decide +kernel
theorem dL_law_354 : decode cL_law 354 = .ok (.iconst 1, 1) := by decide +kernel
theorem dL_law_355 : decode cL_law 355 = .ok (.iadd, 1) := by decide +kernel
theorem dL_law_356 : decode cL_law 356 = .ok (.iaload, 1) := by decide +kernel
theorem dL_law_357 : decode cL_law 357 = .ok (.aload_n 0, 1) := by decide +kernel
theorem dL_law_358 : decode cL_law 358 = .ok (.iload_n 3, 1) := by decide +kernel
theorem dL_law_359 : decode cL_law 359 = .ok (.iconst 2, 1) := by decide +kernel
theorem dL_law_360 : decode cL_law 360 = .ok (.iadd, 1) := by decide +kernel
theorem dL_law_361 : decode cL_law 361 = .ok (.iaload, 1) := by decide +kernel
theorem dL_law_362 : decode cL_law 362 = .ok (.invokevirtual 42, 3) := by decide +kernel
theorem dL_law_365 : decode cL_law 365 = .ok (.if_icmp .eq 833, 3) := by decide +kernel
theorem dL_law_368 : decode cL_law 368 = .ok (.iconst 0, 1) := by decide +kernel
theorem dL_law_369 : decode cL_law 369 = .ok (.ireturn, 1) := by decide +kernel
theorem dL_law_370 : decode cL_law 370 = .ok (.aload_n 1, 1) := by decide +kernel
theorem dL_law_371 : decode cL_law 371 = .ok (.aload_n 0, 1) := by decide +kernel
theorem dL_law_372 : decode cL_law 372 = .ok (.iload_n 3, 1) := by decide +kernel
theorem dL_law_373 : decode cL_law 373 = .ok (.iconst 1, 1) := by decide +kernel
theorem dL_law_374 : decode cL_law 374 = .ok (.iadd, 1) := by decide +kernel
theorem dL_law_375 : decode cL_law 375 = .ok (.iaload, 1) := by decide +kernel
theorem dL_law_376 : decode cL_law 376 = .ok (.invokevirtual 43, 3) := by decide +kernel
theorem dL_law_379 : decode cL_law 379 = .ok (.aload_n 2, 1) := by decide +kernel
theorem dL_law_380 : decode cL_law 380 = .ok (.aload_n 0, 1) := by decide +kernel
theorem dL_law_381 : decode cL_law 381 = .ok (.iload_n 3, 1) := by decide +kernel
theorem dL_law_382 : decode cL_law 382 = .ok (.iconst 1, 1) := by decide +kernel
theorem dL_law_383 : decode cL_law 383 = .ok (.iadd, 1) := by decide +kernel
theorem dL_law_384 : decode cL_law 384 = .ok (.iaload, 1) := by decide +kernel
theorem dL_law_385 : decode cL_law 385 = .ok (.invokevirtual 47, 3) := by decide +kernel
theorem dL_law_388 : decode cL_law 388 = .ok (.if_icmp .eq 810, 3) := by decide +kernel
theorem dL_law_391 : decode cL_law 391 = .ok (.iconst 0, 1) := by decide +kernel
theorem dL_law_392 : decode cL_law 392 = .ok (.ireturn, 1) := by decide +kernel
theorem dL_law_393 : decode cL_law 393 = .ok (.aload_n 1, 1) := by decide +kernel
theorem dL_law_394 : decode cL_law 394 = .ok (.aload_n 0, 1) := by decide +kernel
theorem dL_law_395 : decode cL_law 395 = .ok (.iload_n 3, 1) := by decide +kernel
theorem dL_law_396 : decode cL_law 396 = .ok (.iconst 1, 1) := by decide +kernel
theorem dL_law_397 : decode cL_law 397 = .ok (.iadd, 1) := by decide +kernel
theorem dL_law_398 : decode cL_law 398 = .ok (.iaload, 1) := by decide +kernel
theorem dL_law_399 : decode cL_law 399 = .ok (.aload_n 0, 1) := by decide +kernel
theorem dL_law_400 : decode cL_law 400 = .ok (.iload_n 3, 1) := by decide +kernel
theorem dL_law_401 : decode cL_law 401 = .ok (.iconst 2, 1) := by decide +kernel
theorem dL_law_402 : decode cL_law 402 = .ok (.iadd, 1) := by decide +kernel
theorem dL_law_403 : decode cL_law 403 = .ok (.iaload, 1) := by decide +kernel
theorem dL_law_404 : decode cL_law 404 = .ok (.aload_n 0, 1) := by decide +kernel
theorem dL_law_405 : decode cL_law 405 = .ok (.iload_n 3, 1) := by decide +kernel
theorem dL_law_406 : decode cL_law 406 = .ok (.iconst 3, 1) := by decide +kernel
theorem dL_law_407 : decode cL_law 407 = .ok (.iadd, 1) := by decide +kernel
theorem dL_law_408 : decode cL_law 408 = .ok (.iaload, 1) := by decide +kernel
theorem dL_law_409 : decode cL_law 409 = .ok (.invokevirtual 48, 3) := by decide +kernel
theorem dL_law_412 : decode cL_law 412 = .ok (.aload_n 2, 1) := by decide +kernel
theorem dL_law_413 : decode cL_law 413 = .ok (.aload_n 0, 1) := by decide +kernel
theorem dL_law_414 : decode cL_law 414 = .ok (.iload_n 3, 1) := by decide +kernel
theorem dL_law_415 : decode cL_law 415 = .ok (.iconst 1, 1) := by decide +kernel
theorem dL_law_416 : decode cL_law 416 = .ok (.iadd, 1) := by decide +kernel
theorem dL_law_417 : decode cL_law 417 = .ok (.iaload, 1) := by decide +kernel
theorem dL_law_418 : decode cL_law 418 = .ok (.aload_n 0, 1) := by decide +kernel
theorem dL_law_419 : decode cL_law 419 = .ok (.iload_n 3, 1) := by decide +kernel
theorem dL_law_420 : decode cL_law 420 = .ok (.iconst 2, 1) := by decide +kernel
theorem dL_law_421 : decode cL_law 421 = .ok (.iadd, 1) := by decide +kernel
theorem dL_law_422 : decode cL_law 422 = .ok (.iaload, 1) := by decide +kernel
theorem dL_law_423 : decode cL_law 423 = .ok (.aload_n 0, 1) := by decide +kernel
theorem dL_law_424 : decode cL_law 424 = .ok (.iload_n 3, 1) := by decide +kernel
theorem dL_law_425 : decode cL_law 425 = .ok (.iconst 3, 1) := by decide +kernel
theorem dL_law_426 : decode cL_law 426 = .ok (.iadd, 1) := by decide +kernel
theorem dL_law_427 : decode cL_law 427 = .ok (.iaload, 1) := by decide +kernel
theorem dL_law_428 : decode cL_law 428 = .ok (.invokevirtual 52, 3) := by decide +kernel
theorem dL_law_431 : decode cL_law 431 = .ok (.if_icmp .eq 767, 3) := by decide +kernel
theorem dL_law_434 : decode cL_law 434 = .ok (.iconst 0, 1) := by decide +kernel
theorem dL_law_435 : decode cL_law 435 = .ok (.ireturn, 1) := by decide +kernel
theorem dL_law_436 : decode cL_law 436 = .ok (.aload_n 1, 1) := by decide +kernel
theorem dL_law_437 : decode cL_law 437 = .ok (.aload_n 0, 1) := by decide +kernel
theorem dL_law_438 : decode cL_law 438 = .ok (.iload_n 3, 1) := by decide +kernel
theorem dL_law_439 : decode cL_law 439 = .ok (.iconst 1, 1) := by decide +kernel
theorem dL_law_440 : decode cL_law 440 = .ok (.iadd, 1) := by decide +kernel
theorem dL_law_441 : decode cL_law 441 = .ok (.iaload, 1) := by decide +kernel
theorem dL_law_442 : decode cL_law 442 = .ok (.aload_n 0, 1) := by decide +kernel
theorem dL_law_443 : decode cL_law 443 = .ok (.iload_n 3, 1) := by decide +kernel
theorem dL_law_444 : decode cL_law 444 = .ok (.iconst 2, 1) := by decide +kernel
theorem dL_law_445 : decode cL_law 445 = .ok (.iadd, 1) := by decide +kernel
theorem dL_law_446 : decode cL_law 446 = .ok (.iaload, 1) := by decide +kernel
theorem dL_law_447 : decode cL_law 447 = .ok (.invokevirtual 53, 3) := by decide +kernel
theorem dL_law_450 : decode cL_law 450 = .ok (.aload_n 2, 1) := by decide +kernel
theorem dL_law_451 : decode cL_law 451 = .ok (.aload_n 0, 1) := by decide +kernel
theorem dL_law_452 : decode cL_law 452 = .ok (.iload_n 3, 1) := by decide +kernel
theorem dL_law_453 : decode cL_law 453 = .ok (.iconst 1, 1) := by decide +kernel
theorem dL_law_454 : decode cL_law 454 = .ok (.iadd, 1) := by decide +kernel
theorem dL_law_455 : decode cL_law 455 = .ok (.iaload, 1) := by decide +kernel
theorem dL_law_456 : decode cL_law 456 = .ok (.aload_n 0, 1) := by decide +kernel
theorem dL_law_457 : decode cL_law 457 = .ok (.iload_n 3, 1) := by decide +kernel
theorem dL_law_458 : decode cL_law 458 = .ok (.iconst 2, 1) := by decide +kernel
theorem dL_law_459 : decode cL_law 459 = .ok (.iadd, 1) := by decide +kernel
theorem dL_law_460 : decode cL_law 460 = .ok (.iaload, 1) := by decide +kernel
theorem dL_law_461 : decode cL_law 461 = .ok (.invokevirtual 56, 3) := by decide +kernel
theorem dL_law_464 : decode cL_law 464 = .ok (.if_icmp .eq 734, 3) := by decide +kernel
theorem dL_law_467 : decode cL_law 467 = .ok (.iconst 0, 1) := by decide +kernel
theorem dL_law_468 : decode cL_law 468 = .ok (.ireturn, 1) := by decide +kernel
theorem dL_law_469 : decode cL_law 469 = .ok (.aload_n 1, 1) := by decide +kernel
theorem dL_law_470 : decode cL_law 470 = .ok (.aload_n 0, 1) := by decide +kernel
theorem dL_law_471 : decode cL_law 471 = .ok (.iload_n 3, 1) := by decide +kernel
theorem dL_law_472 : decode cL_law 472 = .ok (.iconst 1, 1) := by decide +kernel
theorem dL_law_473 : decode cL_law 473 = .ok (.iadd, 1) := by decide +kernel
theorem dL_law_474 : decode cL_law 474 = .ok (.iaload, 1) := by decide +kernel
theorem dL_law_475 : decode cL_law 475 = .ok (.aload_n 0, 1) := by decide +kernel
theorem dL_law_476 : decode cL_law 476 = .ok (.iload_n 3, 1) := by decide +kernel
theorem dL_law_477 : decode cL_law 477 = .ok (.iconst 2, 1) := by decide +kernel
theorem dL_law_478 : decode cL_law 478 = .ok (.iadd, 1) := by decide +kernel
theorem dL_law_479 : decode cL_law 479 = .ok (.iaload, 1) := by decide +kernel
theorem dL_law_480 : decode cL_law 480 = .ok (.invokevirtual 57, 3) := by decide +kernel
theorem dL_law_483 : decode cL_law 483 = .ok (.aload_n 2, 1) := by decide +kernel
theorem dL_law_484 : decode cL_law 484 = .ok (.aload_n 0, 1) := by decide +kernel
theorem dL_law_485 : decode cL_law 485 = .ok (.iload_n 3, 1) := by decide +kernel
theorem dL_law_486 : decode cL_law 486 = .ok (.iconst 1, 1) := by decide +kernel
theorem dL_law_487 : decode cL_law 487 = .ok (.iadd, 1) := by decide +kernel
theorem dL_law_488 : decode cL_law 488 = .ok (.iaload, 1) := by decide +kernel
theorem dL_law_489 : decode cL_law 489 = .ok (.aload_n 0, 1) := by decide +kernel
theorem dL_law_490 : decode cL_law 490 = .ok (.iload_n 3, 1) := by decide +kernel
theorem dL_law_491 : decode cL_law 491 = .ok (.iconst 2, 1) := by decide +kernel
theorem dL_law_492 : decode cL_law 492 = .ok (.iadd, 1) := by decide +kernel
theorem dL_law_493 : decode cL_law 493 = .ok (.iaload, 1) := by decide +kernel
theorem dL_law_494 : decode cL_law 494 = .ok (.invokevirtual 60, 3) := by decide +kernel
theorem dL_law_497 : decode cL_law 497 = .ok (.if_icmp .eq 701, 3) := by decide +kernel
theorem dL_law_500 : decode cL_law 500 = .ok (.iconst 0, 1) := by decide +kernel
theorem dL_law_501 : decode cL_law 501 = .ok (.ireturn, 1) := by decide +kernel
theorem dL_law_502 : decode cL_law 502 = .ok (.aload_n 1, 1) := by decide +kernel
theorem dL_law_503 : decode cL_law 503 = .ok (.aload_n 0, 1) := by decide +kernel
theorem dL_law_504 : decode cL_law 504 = .ok (.iload_n 3, 1) := by decide +kernel
theorem dL_law_505 : decode cL_law 505 = .ok (.iconst 1, 1) := by decide +kernel
theorem dL_law_506 : decode cL_law 506 = .ok (.iadd, 1) := by decide +kernel
theorem dL_law_507 : decode cL_law 507 = .ok (.iaload, 1) := by decide +kernel
theorem dL_law_508 : decode cL_law 508 = .ok (.aload_n 0, 1) := by decide +kernel
theorem dL_law_509 : decode cL_law 509 = .ok (.iload_n 3, 1) := by decide +kernel
theorem dL_law_510 : decode cL_law 510 = .ok (.iconst 2, 1) := by decide +kernel
theorem dL_law_511 : decode cL_law 511 = .ok (.iadd, 1) := by decide +kernel
theorem dL_law_512 : decode cL_law 512 = .ok (.iaload, 1) := by decide +kernel
theorem dL_law_513 : decode cL_law 513 = .ok (.invokevirtual 61, 3) := by decide +kernel
theorem dL_law_516 : decode cL_law 516 = .ok (.aload_n 2, 1) := by decide +kernel
theorem dL_law_517 : decode cL_law 517 = .ok (.aload_n 0, 1) := by decide +kernel
theorem dL_law_518 : decode cL_law 518 = .ok (.iload_n 3, 1) := by decide +kernel
theorem dL_law_519 : decode cL_law 519 = .ok (.iconst 1, 1) := by decide +kernel
theorem dL_law_520 : decode cL_law 520 = .ok (.iadd, 1) := by decide +kernel
theorem dL_law_521 : decode cL_law 521 = .ok (.iaload, 1) := by decide +kernel
theorem dL_law_522 : decode cL_law 522 = .ok (.aload_n 0, 1) := by decide +kernel
theorem dL_law_523 : decode cL_law 523 = .ok (.iload_n 3, 1) := by decide +kernel
theorem dL_law_524 : decode cL_law 524 = .ok (.iconst 2, 1) := by decide +kernel
theorem dL_law_525 : decode cL_law 525 = .ok (.iadd, 1) := by decide +kernel
theorem dL_law_526 : decode cL_law 526 = .ok (.iaload, 1) := by decide +kernel
theorem dL_law_527 : decode cL_law 527 = .ok (.invokevirtual 64, 3) := by decide +kernel
theorem dL_law_530 : decode cL_law 530 = .ok (.if_icmp .eq 668, 3) := by decide +kernel
theorem dL_law_533 : decode cL_law 533 = .ok (.iconst 0, 1) := by decide +kernel
theorem dL_law_534 : decode cL_law 534 = .ok (.ireturn, 1) := by decide +kernel
theorem dL_law_535 : decode cL_law 535 = .ok (.aload_n 1, 1) := by decide +kernel
theorem dL_law_536 : decode cL_law 536 = .ok (.aload_n 0, 1) := by decide +kernel
theorem dL_law_537 : decode cL_law 537 = .ok (.iload_n 3, 1) := by decide +kernel
theorem dL_law_538 : decode cL_law 538 = .ok (.iconst 1, 1) := by decide +kernel
theorem dL_law_539 : decode cL_law 539 = .ok (.iadd, 1) := by decide +kernel
theorem dL_law_540 : decode cL_law 540 = .ok (.iaload, 1) := by decide +kernel
theorem dL_law_541 : decode cL_law 541 = .ok (.aload_n 0, 1) := by decide +kernel
theorem dL_law_542 : decode cL_law 542 = .ok (.iload_n 3, 1) := by decide +kernel
theorem dL_law_543 : decode cL_law 543 = .ok (.iconst 2, 1) := by decide +kernel
theorem dL_law_544 : decode cL_law 544 = .ok (.iadd, 1) := by decide +kernel
theorem dL_law_545 : decode cL_law 545 = .ok (.iaload, 1) := by decide +kernel
theorem dL_law_546 : decode cL_law 546 = .ok (.aload_n 0, 1) := by decide +kernel
theorem dL_law_547 : decode cL_law 547 = .ok (.iload_n 3, 1) := by decide +kernel
theorem dL_law_548 : decode cL_law 548 = .ok (.iconst 3, 1) := by decide +kernel
theorem dL_law_549 : decode cL_law 549 = .ok (.iadd, 1) := by decide +kernel
theorem dL_law_550 : decode cL_law 550 = .ok (.iaload, 1) := by decide +kernel
theorem dL_law_551 : decode cL_law 551 = .ok (.invokevirtual 65, 3) := by decide +kernel
theorem dL_law_554 : decode cL_law 554 = .ok (.aload_n 2, 1) := by decide +kernel
theorem dL_law_555 : decode cL_law 555 = .ok (.aload_n 0, 1) := by decide +kernel
theorem dL_law_556 : decode cL_law 556 = .ok (.iload_n 3, 1) := by decide +kernel
theorem dL_law_557 : decode cL_law 557 = .ok (.iconst 1, 1) := by decide +kernel
theorem dL_law_558 : decode cL_law 558 = .ok (.iadd, 1) := by decide +kernel
theorem dL_law_559 : decode cL_law 559 = .ok (.iaload, 1) := by decide +kernel
theorem dL_law_560 : decode cL_law 560 = .ok (.aload_n 0, 1) := by decide +kernel
theorem dL_law_561 : decode cL_law 561 = .ok (.iload_n 3, 1) := by decide +kernel
theorem dL_law_562 : decode cL_law 562 = .ok (.iconst 2, 1) := by decide +kernel
theorem dL_law_563 : decode cL_law 563 = .ok (.iadd, 1) := by decide +kernel
theorem dL_law_564 : decode cL_law 564 = .ok (.iaload, 1) := by decide +kernel
theorem dL_law_565 : decode cL_law 565 = .ok (.aload_n 0, 1) := by decide +kernel
theorem dL_law_566 : decode cL_law 566 = .ok (.iload_n 3, 1) := by decide +kernel
theorem dL_law_567 : decode cL_law 567 = .ok (.iconst 3, 1) := by decide +kernel
theorem dL_law_568 : decode cL_law 568 = .ok (.iadd, 1) := by decide +kernel
theorem dL_law_569 : decode cL_law 569 = .ok (.iaload, 1) := by decide +kernel
theorem dL_law_570 : decode cL_law 570 = .ok (.invokevirtual 68, 3) := by decide +kernel
theorem dL_law_573 : decode cL_law 573 = .ok (.if_icmp .eq 625, 3) := by decide +kernel
theorem dL_law_576 : decode cL_law 576 = .ok (.iconst 0, 1) := by decide +kernel
theorem dL_law_577 : decode cL_law 577 = .ok (.ireturn, 1) := by decide +kernel
theorem dL_law_578 : decode cL_law 578 = .ok (.aload_n 1, 1) := by decide +kernel
theorem dL_law_579 : decode cL_law 579 = .ok (.aload_n 0, 1) := by decide +kernel
theorem dL_law_580 : decode cL_law 580 = .ok (.iload_n 3, 1) := by decide +kernel
theorem dL_law_581 : decode cL_law 581 = .ok (.iconst 1, 1) := by decide +kernel
theorem dL_law_582 : decode cL_law 582 = .ok (.iadd, 1) := by decide +kernel
theorem dL_law_583 : decode cL_law 583 = .ok (.iaload, 1) := by decide +kernel
theorem dL_law_584 : decode cL_law 584 = .ok (.aload_n 0, 1) := by decide +kernel
theorem dL_law_585 : decode cL_law 585 = .ok (.iload_n 3, 1) := by decide +kernel
theorem dL_law_586 : decode cL_law 586 = .ok (.iconst 2, 1) := by decide +kernel
theorem dL_law_587 : decode cL_law 587 = .ok (.iadd, 1) := by decide +kernel
theorem dL_law_588 : decode cL_law 588 = .ok (.iaload, 1) := by decide +kernel
theorem dL_law_589 : decode cL_law 589 = .ok (.invokevirtual 69, 3) := by decide +kernel
theorem dL_law_592 : decode cL_law 592 = .ok (.aload_n 2, 1) := by decide +kernel
theorem dL_law_593 : decode cL_law 593 = .ok (.aload_n 0, 1) := by decide +kernel
theorem dL_law_594 : decode cL_law 594 = .ok (.iload_n 3, 1) := by decide +kernel
theorem dL_law_595 : decode cL_law 595 = .ok (.iconst 1, 1) := by decide +kernel
theorem dL_law_596 : decode cL_law 596 = .ok (.iadd, 1) := by decide +kernel
theorem dL_law_597 : decode cL_law 597 = .ok (.iaload, 1) := by decide +kernel
theorem dL_law_598 : decode cL_law 598 = .ok (.aload_n 0, 1) := by decide +kernel
theorem dL_law_599 : decode cL_law 599 = .ok (.iload_n 3, 1) := by decide +kernel
theorem dL_law_600 : decode cL_law 600 = .ok (.iconst 2, 1) := by decide +kernel
theorem dL_law_601 : decode cL_law 601 = .ok (.iadd, 1) := by decide +kernel
theorem dL_law_602 : decode cL_law 602 = .ok (.iaload, 1) := by decide +kernel
theorem dL_law_603 : decode cL_law 603 = .ok (.invokevirtual 72, 3) := by decide +kernel
theorem dL_law_606 : decode cL_law 606 = .ok (.if_icmp .eq 592, 3) := by decide +kernel
theorem dL_law_609 : decode cL_law 609 = .ok (.iconst 0, 1) := by decide +kernel
theorem dL_law_610 : decode cL_law 610 = .ok (.ireturn, 1) := by decide +kernel
theorem dL_law_611 : decode cL_law 611 = .ok (.aload_n 1, 1) := by decide +kernel
theorem dL_law_612 : decode cL_law 612 = .ok (.aload_n 0, 1) := by decide +kernel
theorem dL_law_613 : decode cL_law 613 = .ok (.iload_n 3, 1) := by decide +kernel
theorem dL_law_614 : decode cL_law 614 = .ok (.iconst 1, 1) := by decide +kernel
theorem dL_law_615 : decode cL_law 615 = .ok (.iadd, 1) := by decide +kernel
theorem dL_law_616 : decode cL_law 616 = .ok (.iaload, 1) := by decide +kernel
theorem dL_law_617 : decode cL_law 617 = .ok (.aload_n 0, 1) := by decide +kernel
theorem dL_law_618 : decode cL_law 618 = .ok (.iload_n 3, 1) := by decide +kernel
theorem dL_law_619 : decode cL_law 619 = .ok (.iconst 2, 1) := by decide +kernel
theorem dL_law_620 : decode cL_law 620 = .ok (.iadd, 1) := by decide +kernel
theorem dL_law_621 : decode cL_law 621 = .ok (.iaload, 1) := by decide +kernel
theorem dL_law_622 : decode cL_law 622 = .ok (.aload_n 0, 1) := by decide +kernel
theorem dL_law_623 : decode cL_law 623 = .ok (.iload_n 3, 1) := by decide +kernel
theorem dL_law_624 : decode cL_law 624 = .ok (.iconst 3, 1) := by decide +kernel
theorem dL_law_625 : decode cL_law 625 = .ok (.iadd, 1) := by decide +kernel
theorem dL_law_626 : decode cL_law 626 = .ok (.iaload, 1) := by decide +kernel
theorem dL_law_627 : decode cL_law 627 = .ok (.invokevirtual 73, 3) := by decide +kernel
theorem dL_law_630 : decode cL_law 630 = .ok (.aload_n 2, 1) := by decide +kernel
theorem dL_law_631 : decode cL_law 631 = .ok (.aload_n 0, 1) := by decide +kernel
theorem dL_law_632 : decode cL_law 632 = .ok (.iload_n 3, 1) := by decide +kernel
theorem dL_law_633 : decode cL_law 633 = .ok (.iconst 1, 1) := by decide +kernel
theorem dL_law_634 : decode cL_law 634 = .ok (.iadd, 1) := by decide +kernel
theorem dL_law_635 : decode cL_law 635 = .ok (.iaload, 1) := by decide +kernel
theorem dL_law_636 : decode cL_law 636 = .ok (.aload_n 0, 1) := by decide +kernel
theorem dL_law_637 : decode cL_law 637 = .ok (.iload_n 3, 1) := by decide +kernel
theorem dL_law_638 : decode cL_law 638 = .ok (.iconst 2, 1) := by decide +kernel
theorem dL_law_639 : decode cL_law 639 = .ok (.iadd, 1) := by decide +kernel
theorem dL_law_640 : decode cL_law 640 = .ok (.iaload, 1) := by decide +kernel
theorem dL_law_641 : decode cL_law 641 = .ok (.aload_n 0, 1) := by decide +kernel
theorem dL_law_642 : decode cL_law 642 = .ok (.iload_n 3, 1) := by decide +kernel
theorem dL_law_643 : decode cL_law 643 = .ok (.iconst 3, 1) := by decide +kernel
theorem dL_law_644 : decode cL_law 644 = .ok (.iadd, 1) := by decide +kernel
theorem dL_law_645 : decode cL_law 645 = .ok (.iaload, 1) := by decide +kernel
theorem dL_law_646 : decode cL_law 646 = .ok (.invokevirtual 76, 3) := by decide +kernel
theorem dL_law_649 : decode cL_law 649 = .ok (.if_icmp .eq 549, 3) := by decide +kernel
theorem dL_law_652 : decode cL_law 652 = .ok (.iconst 0, 1) := by decide +kernel
theorem dL_law_653 : decode cL_law 653 = .ok (.ireturn, 1) := by decide +kernel
theorem dL_law_654 : decode cL_law 654 = .ok (.aload_n 1, 1) := by decide +kernel
theorem dL_law_655 : decode cL_law 655 = .ok (.aload_n 0, 1) := by decide +kernel
theorem dL_law_656 : decode cL_law 656 = .ok (.iload_n 3, 1) := by decide +kernel
theorem dL_law_657 : decode cL_law 657 = .ok (.iconst 1, 1) := by decide +kernel
theorem dL_law_658 : decode cL_law 658 = .ok (.iadd, 1) := by decide +kernel
theorem dL_law_659 : decode cL_law 659 = .ok (.iaload, 1) := by decide +kernel
theorem dL_law_660 : decode cL_law 660 = .ok (.aload_n 0, 1) := by decide +kernel
theorem dL_law_661 : decode cL_law 661 = .ok (.iload_n 3, 1) := by decide +kernel
theorem dL_law_662 : decode cL_law 662 = .ok (.iconst 2, 1) := by decide +kernel
theorem dL_law_663 : decode cL_law 663 = .ok (.iadd, 1) := by decide +kernel
theorem dL_law_664 : decode cL_law 664 = .ok (.iaload, 1) := by decide +kernel
theorem dL_law_665 : decode cL_law 665 = .ok (.aload_n 0, 1) := by decide +kernel
theorem dL_law_666 : decode cL_law 666 = .ok (.iload_n 3, 1) := by decide +kernel
theorem dL_law_667 : decode cL_law 667 = .ok (.iconst 3, 1) := by decide +kernel
theorem dL_law_668 : decode cL_law 668 = .ok (.iadd, 1) := by decide +kernel
theorem dL_law_669 : decode cL_law 669 = .ok (.iaload, 1) := by decide +kernel
theorem dL_law_670 : decode cL_law 670 = .ok (.invokevirtual 77, 3) := by decide +kernel
theorem dL_law_673 : decode cL_law 673 = .ok (.aload_n 2, 1) := by decide +kernel
theorem dL_law_674 : decode cL_law 674 = .ok (.aload_n 0, 1) := by decide +kernel
theorem dL_law_675 : decode cL_law 675 = .ok (.iload_n 3, 1) := by decide +kernel
theorem dL_law_676 : decode cL_law 676 = .ok (.iconst 1, 1) := by decide +kernel
theorem dL_law_677 : decode cL_law 677 = .ok (.iadd, 1) := by decide +kernel
theorem dL_law_678 : decode cL_law 678 = .ok (.iaload, 1) := by decide +kernel
theorem dL_law_679 : decode cL_law 679 = .ok (.aload_n 0, 1) := by decide +kernel
theorem dL_law_680 : decode cL_law 680 = .ok (.iload_n 3, 1) := by decide +kernel
theorem dL_law_681 : decode cL_law 681 = .ok (.iconst 2, 1) := by decide +kernel
theorem dL_law_682 : decode cL_law 682 = .ok (.iadd, 1) := by decide +kernel
theorem dL_law_683 : decode cL_law 683 = .ok (.iaload, 1) := by decide +kernel
theorem dL_law_684 : decode cL_law 684 = .ok (.aload_n 0, 1) := by decide +kernel
theorem dL_law_685 : decode cL_law 685 = .ok (.iload_n 3, 1) := by decide +kernel
theorem dL_law_686 : decode cL_law 686 = .ok (.iconst 3, 1) := by decide +kernel
theorem dL_law_687 : decode cL_law 687 = .ok (.iadd, 1) := by decide +kernel
theorem dL_law_688 : decode cL_law 688 = .ok (.iaload, 1) := by decide +kernel
theorem dL_law_689 : decode cL_law 689 = .ok (.invokevirtual 80, 3) := by decide +kernel
theorem dL_law_692 : decode cL_law 692 = .ok (.if_icmp .eq 506, 3) := by decide +kernel
theorem dL_law_695 : decode cL_law 695 = .ok (.iconst 0, 1) := by decide +kernel
theorem dL_law_696 : decode cL_law 696 = .ok (.ireturn, 1) := by decide +kernel
theorem dL_law_697 : decode cL_law 697 = .ok (.aload_n 1, 1) := by decide +kernel
theorem dL_law_698 : decode cL_law 698 = .ok (.aload_n 0, 1) := by decide +kernel
theorem dL_law_699 : decode cL_law 699 = .ok (.iload_n 3, 1) := by decide +kernel
theorem dL_law_700 : decode cL_law 700 = .ok (.iconst 1, 1) := by decide +kernel
theorem dL_law_701 : decode cL_law 701 = .ok (.iadd, 1) := by decide +kernel
theorem dL_law_702 : decode cL_law 702 = .ok (.iaload, 1) := by decide +kernel
theorem dL_law_703 : decode cL_law 703 = .ok (.aload_n 0, 1) := by decide +kernel
theorem dL_law_704 : decode cL_law 704 = .ok (.iload_n 3, 1) := by decide +kernel
theorem dL_law_705 : decode cL_law 705 = .ok (.iconst 2, 1) := by decide +kernel
theorem dL_law_706 : decode cL_law 706 = .ok (.iadd, 1) := by decide +kernel
theorem dL_law_707 : decode cL_law 707 = .ok (.iaload, 1) := by decide +kernel
theorem dL_law_708 : decode cL_law 708 = .ok (.aload_n 0, 1) := by decide +kernel
theorem dL_law_709 : decode cL_law 709 = .ok (.iload_n 3, 1) := by decide +kernel
theorem dL_law_710 : decode cL_law 710 = .ok (.iconst 3, 1) := by decide +kernel
theorem dL_law_711 : decode cL_law 711 = .ok (.iadd, 1) := by decide +kernel
theorem dL_law_712 : decode cL_law 712 = .ok (.iaload, 1) := by decide +kernel
theorem dL_law_713 : decode cL_law 713 = .ok (.invokevirtual 81, 3) := by decide +kernel
theorem dL_law_716 : decode cL_law 716 = .ok (.aload_n 2, 1) := by decide +kernel
theorem dL_law_717 : decode cL_law 717 = .ok (.aload_n 0, 1) := by decide +kernel
theorem dL_law_718 : decode cL_law 718 = .ok (.iload_n 3, 1) := by decide +kernel
theorem dL_law_719 : decode cL_law 719 = .ok (.iconst 1, 1) := by decide +kernel
theorem dL_law_720 : decode cL_law 720 = .ok (.iadd, 1) := by decide +kernel
theorem dL_law_721 : decode cL_law 721 = .ok (.iaload, 1) := by decide +kernel
theorem dL_law_722 : decode cL_law 722 = .ok (.aload_n 0, 1) := by decide +kernel
theorem dL_law_723 : decode cL_law 723 = .ok (.iload_n 3, 1) := by decide +kernel
theorem dL_law_724 : decode cL_law 724 = .ok (.iconst 2, 1) := by decide +kernel
theorem dL_law_725 : decode cL_law 725 = .ok (.iadd, 1) := by decide +kernel
theorem dL_law_726 : decode cL_law 726 = .ok (.iaload, 1) := by decide +kernel
theorem dL_law_727 : decode cL_law 727 = .ok (.aload_n 0, 1) := by decide +kernel
theorem dL_law_728 : decode cL_law 728 = .ok (.iload_n 3, 1) := by decide +kernel
theorem dL_law_729 : decode cL_law 729 = .ok (.iconst 3, 1) := by decide +kernel
theorem dL_law_730 : decode cL_law 730 = .ok (.iadd, 1) := by decide +kernel
theorem dL_law_731 : decode cL_law 731 = .ok (.iaload, 1) := by decide +kernel
theorem dL_law_732 : decode cL_law 732 = .ok (.invokevirtual 84, 3) := by decide +kernel
theorem dL_law_735 : decode cL_law 735 = .ok (.if_icmp .eq 463, 3) := by decide +kernel
theorem dL_law_738 : decode cL_law 738 = .ok (.iconst 0, 1) := by decide +kernel
theorem dL_law_739 : decode cL_law 739 = .ok (.ireturn, 1) := by decide +kernel
theorem dL_law_740 : decode cL_law 740 = .ok (.aload_n 1, 1) := by decide +kernel
theorem dL_law_741 : decode cL_law 741 = .ok (.aload_n 0, 1) := by decide +kernel
theorem dL_law_742 : decode cL_law 742 = .ok (.iload_n 3, 1) := by decide +kernel
theorem dL_law_743 : decode cL_law 743 = .ok (.iconst 1, 1) := by decide +kernel
theorem dL_law_744 : decode cL_law 744 = .ok (.iadd, 1) := by decide +kernel
theorem dL_law_745 : decode cL_law 745 = .ok (.iaload, 1) := by decide +kernel
theorem dL_law_746 : decode cL_law 746 = .ok (.aload_n 0, 1) := by decide +kernel
theorem dL_law_747 : decode cL_law 747 = .ok (.iload_n 3, 1) := by decide +kernel
theorem dL_law_748 : decode cL_law 748 = .ok (.iconst 2, 1) := by decide +kernel
theorem dL_law_749 : decode cL_law 749 = .ok (.iadd, 1) := by decide +kernel
theorem dL_law_750 : decode cL_law 750 = .ok (.iaload, 1) := by decide +kernel
theorem dL_law_751 : decode cL_law 751 = .ok (.aload_n 0, 1) := by decide +kernel
theorem dL_law_752 : decode cL_law 752 = .ok (.iload_n 3, 1) := by decide +kernel
theorem dL_law_753 : decode cL_law 753 = .ok (.iconst 3, 1) := by decide +kernel
theorem dL_law_754 : decode cL_law 754 = .ok (.iadd, 1) := by decide +kernel
theorem dL_law_755 : decode cL_law 755 = .ok (.iaload, 1) := by decide +kernel
theorem dL_law_756 : decode cL_law 756 = .ok (.invokevirtual 85, 3) := by decide +kernel
theorem dL_law_759 : decode cL_law 759 = .ok (.aload_n 2, 1) := by decide +kernel
theorem dL_law_760 : decode cL_law 760 = .ok (.aload_n 0, 1) := by decide +kernel
theorem dL_law_761 : decode cL_law 761 = .ok (.iload_n 3, 1) := by decide +kernel
theorem dL_law_762 : decode cL_law 762 = .ok (.iconst 1, 1) := by decide +kernel
theorem dL_law_763 : decode cL_law 763 = .ok (.iadd, 1) := by decide +kernel
theorem dL_law_764 : decode cL_law 764 = .ok (.iaload, 1) := by decide +kernel
theorem dL_law_765 : decode cL_law 765 = .ok (.aload_n 0, 1) := by decide +kernel
theorem dL_law_766 : decode cL_law 766 = .ok (.iload_n 3, 1) := by decide +kernel
theorem dL_law_767 : decode cL_law 767 = .ok (.iconst 2, 1) := by decide +kernel
theorem dL_law_768 : decode cL_law 768 = .ok (.iadd, 1) := by decide +kernel
theorem dL_law_769 : decode cL_law 769 = .ok (.iaload, 1) := by decide +kernel
theorem dL_law_770 : decode cL_law 770 = .ok (.aload_n 0, 1) := by decide +kernel
theorem dL_law_771 : decode cL_law 771 = .ok (.iload_n 3, 1) := by decide +kernel
theorem dL_law_772 : decode cL_law 772 = .ok (.iconst 3, 1) := by decide +kernel
theorem dL_law_773 : decode cL_law 773 = .ok (.iadd, 1) := by decide +kernel
theorem dL_law_774 : decode cL_law 774 = .ok (.iaload, 1) := by decide +kernel
theorem dL_law_775 : decode cL_law 775 = .ok (.invokevirtual 88, 3) := by decide +kernel
theorem dL_law_778 : decode cL_law 778 = .ok (.if_icmp .eq 420, 3) := by decide +kernel
theorem dL_law_781 : decode cL_law 781 = .ok (.iconst 0, 1) := by decide +kernel
theorem dL_law_782 : decode cL_law 782 = .ok (.ireturn, 1) := by decide +kernel
theorem dL_law_783 : decode cL_law 783 = .ok (.aload_n 1, 1) := by decide +kernel
theorem dL_law_784 : decode cL_law 784 = .ok (.aload_n 0, 1) := by decide +kernel
theorem dL_law_785 : decode cL_law 785 = .ok (.iload_n 3, 1) := by decide +kernel
theorem dL_law_786 : decode cL_law 786 = .ok (.iconst 1, 1) := by decide +kernel
theorem dL_law_787 : decode cL_law 787 = .ok (.iadd, 1) := by decide +kernel
theorem dL_law_788 : decode cL_law 788 = .ok (.iaload, 1) := by decide +kernel
theorem dL_law_789 : decode cL_law 789 = .ok (.invokevirtual 89, 3) := by decide +kernel
theorem dL_law_792 : decode cL_law 792 = .ok (.aload_n 2, 1) := by decide +kernel
theorem dL_law_793 : decode cL_law 793 = .ok (.aload_n 0, 1) := by decide +kernel
theorem dL_law_794 : decode cL_law 794 = .ok (.iload_n 3, 1) := by decide +kernel
theorem dL_law_795 : decode cL_law 795 = .ok (.iconst 1, 1) := by decide +kernel
theorem dL_law_796 : decode cL_law 796 = .ok (.iadd, 1) := by decide +kernel
theorem dL_law_797 : decode cL_law 797 = .ok (.iaload, 1) := by decide +kernel
theorem dL_law_798 : decode cL_law 798 = .ok (.invokevirtual 92, 3) := by decide +kernel
theorem dL_law_801 : decode cL_law 801 = .ok (.if_icmp .eq 397, 3) := by decide +kernel
theorem dL_law_804 : decode cL_law 804 = .ok (.iconst 0, 1) := by decide +kernel
theorem dL_law_805 : decode cL_law 805 = .ok (.ireturn, 1) := by decide +kernel
theorem dL_law_806 : decode cL_law 806 = .ok (.aload_n 1, 1) := by decide +kernel
theorem dL_law_807 : decode cL_law 807 = .ok (.aload_n 0, 1) := by decide +kernel
theorem dL_law_808 : decode cL_law 808 = .ok (.iload_n 3, 1) := by decide +kernel
theorem dL_law_809 : decode cL_law 809 = .ok (.iconst 1, 1) := by decide +kernel
theorem dL_law_810 : decode cL_law 810 = .ok (.iadd, 1) := by decide +kernel
theorem dL_law_811 : decode cL_law 811 = .ok (.iaload, 1) := by decide +kernel
theorem dL_law_812 : decode cL_law 812 = .ok (.aload_n 0, 1) := by decide +kernel
theorem dL_law_813 : decode cL_law 813 = .ok (.iload_n 3, 1) := by decide +kernel
theorem dL_law_814 : decode cL_law 814 = .ok (.iconst 2, 1) := by decide +kernel
theorem dL_law_815 : decode cL_law 815 = .ok (.iadd, 1) := by decide +kernel
theorem dL_law_816 : decode cL_law 816 = .ok (.iaload, 1) := by decide +kernel
theorem dL_law_817 : decode cL_law 817 = .ok (.invokevirtual 93, 3) := by decide +kernel
theorem dL_law_820 : decode cL_law 820 = .ok (.aload_n 2, 1) := by decide +kernel
theorem dL_law_821 : decode cL_law 821 = .ok (.aload_n 0, 1) := by decide +kernel
theorem dL_law_822 : decode cL_law 822 = .ok (.iload_n 3, 1) := by decide +kernel
theorem dL_law_823 : decode cL_law 823 = .ok (.iconst 1, 1) := by decide +kernel
theorem dL_law_824 : decode cL_law 824 = .ok (.iadd, 1) := by decide +kernel
theorem dL_law_825 : decode cL_law 825 = .ok (.iaload, 1) := by decide +kernel
theorem dL_law_826 : decode cL_law 826 = .ok (.aload_n 0, 1) := by decide +kernel
theorem dL_law_827 : decode cL_law 827 = .ok (.iload_n 3, 1) := by decide +kernel
theorem dL_law_828 : decode cL_law 828 = .ok (.iconst 2, 1) := by decide +kernel
theorem dL_law_829 : decode cL_law 829 = .ok (.iadd, 1) := by decide +kernel
theorem dL_law_830 : decode cL_law 830 = .ok (.iaload, 1) := by decide +kernel
theorem dL_law_831 : decode cL_law 831 = .ok (.invokevirtual 96, 3) := by decide +kernel
theorem dL_law_834 : decode cL_law 834 = .ok (.if_icmp .eq 364, 3) := by decide +kernel
theorem dL_law_837 : decode cL_law 837 = .ok (.iconst 0, 1) := by decide +kernel
theorem dL_law_838 : decode cL_law 838 = .ok (.ireturn, 1) := by decide +kernel
theorem dL_law_839 : decode cL_law 839 = .ok (.aload_n 1, 1) := by decide +kernel
theorem dL_law_840 : decode cL_law 840 = .ok (.aload_n 0, 1) := by decide +kernel
theorem dL_law_841 : decode cL_law 841 = .ok (.iload_n 3, 1) := by decide +kernel
theorem dL_law_842 : decode cL_law 842 = .ok (.iconst 1, 1) := by decide +kernel
theorem dL_law_843 : decode cL_law 843 = .ok (.iadd, 1) := by decide +kernel
theorem dL_law_844 : decode cL_law 844 = .ok (.iaload, 1) := by decide +kernel
theorem dL_law_845 : decode cL_law 845 = .ok (.invokevirtual 97, 3) := by decide +kernel
theorem dL_law_848 : decode cL_law 848 = .ok (.aload_n 2, 1) := by decide +kernel
theorem dL_law_849 : decode cL_law 849 = .ok (.aload_n 0, 1) := by decide +kernel
theorem dL_law_850 : decode cL_law 850 = .ok (.iload_n 3, 1) := by decide +kernel
theorem dL_law_851 : decode cL_law 851 = .ok (.iconst 1, 1) := by decide +kernel
theorem dL_law_852 : decode cL_law 852 = .ok (.iadd, 1) := by decide +kernel
theorem dL_law_853 : decode cL_law 853 = .ok (.iaload, 1) := by decide +kernel
theorem dL_law_854 : decode cL_law 854 = .ok (.invokevirtual 100, 3) := by decide +kernel
theorem dL_law_857 : decode cL_law 857 = .ok (.if_icmp .eq 341, 3) := by decide +kernel
theorem dL_law_860 : decode cL_law 860 = .ok (.iconst 0, 1) := by decide +kernel
theorem dL_law_861 : decode cL_law 861 = .ok (.ireturn, 1) := by decide +kernel
theorem dL_law_862 : decode cL_law 862 = .ok (.aload_n 1, 1) := by decide +kernel
theorem dL_law_863 : decode cL_law 863 = .ok (.aload_n 0, 1) := by decide +kernel
theorem dL_law_864 : decode cL_law 864 = .ok (.iload_n 3, 1) := by decide +kernel
theorem dL_law_865 : decode cL_law 865 = .ok (.iconst 1, 1) := by decide +kernel
theorem dL_law_866 : decode cL_law 866 = .ok (.iadd, 1) := by decide +kernel
theorem dL_law_867 : decode cL_law 867 = .ok (.iaload, 1) := by decide +kernel
theorem dL_law_868 : decode cL_law 868 = .ok (.invokevirtual 101, 3) := by decide +kernel
theorem dL_law_871 : decode cL_law 871 = .ok (.aload_n 2, 1) := by decide +kernel
theorem dL_law_872 : decode cL_law 872 = .ok (.aload_n 0, 1) := by decide +kernel
theorem dL_law_873 : decode cL_law 873 = .ok (.iload_n 3, 1) := by decide +kernel
theorem dL_law_874 : decode cL_law 874 = .ok (.iconst 1, 1) := by decide +kernel
theorem dL_law_875 : decode cL_law 875 = .ok (.iadd, 1) := by decide +kernel
theorem dL_law_876 : decode cL_law 876 = .ok (.iaload, 1) := by decide +kernel
theorem dL_law_877 : decode cL_law 877 = .ok (.invokevirtual 104, 3) := by decide +kernel
theorem dL_law_880 : decode cL_law 880 = .ok (.if_icmp .eq 318, 3) := by decide +kernel
theorem dL_law_883 : decode cL_law 883 = .ok (.iconst 0, 1) := by decide +kernel
theorem dL_law_884 : decode cL_law 884 = .ok (.ireturn, 1) := by decide +kernel
theorem dL_law_885 : decode cL_law 885 = .ok (.aload_n 1, 1) := by decide +kernel
theorem dL_law_886 : decode cL_law 886 = .ok (.aload_n 0, 1) := by decide +kernel
theorem dL_law_887 : decode cL_law 887 = .ok (.iload_n 3, 1) := by decide +kernel
theorem dL_law_888 : decode cL_law 888 = .ok (.iconst 1, 1) := by decide +kernel
theorem dL_law_889 : decode cL_law 889 = .ok (.iadd, 1) := by decide +kernel
theorem dL_law_890 : decode cL_law 890 = .ok (.iaload, 1) := by decide +kernel
theorem dL_law_891 : decode cL_law 891 = .ok (.aload_n 0, 1) := by decide +kernel
theorem dL_law_892 : decode cL_law 892 = .ok (.iload_n 3, 1) := by decide +kernel
theorem dL_law_893 : decode cL_law 893 = .ok (.iconst 2, 1) := by decide +kernel
theorem dL_law_894 : decode cL_law 894 = .ok (.iadd, 1) := by decide +kernel
theorem dL_law_895 : decode cL_law 895 = .ok (.iaload, 1) := by decide +kernel
theorem dL_law_896 : decode cL_law 896 = .ok (.invokevirtual 105, 3) := by decide +kernel
theorem dL_law_899 : decode cL_law 899 = .ok (.aload_n 2, 1) := by decide +kernel
theorem dL_law_900 : decode cL_law 900 = .ok (.aload_n 0, 1) := by decide +kernel
theorem dL_law_901 : decode cL_law 901 = .ok (.iload_n 3, 1) := by decide +kernel
theorem dL_law_902 : decode cL_law 902 = .ok (.iconst 1, 1) := by decide +kernel
theorem dL_law_903 : decode cL_law 903 = .ok (.iadd, 1) := by decide +kernel
theorem dL_law_904 : decode cL_law 904 = .ok (.iaload, 1) := by decide +kernel
theorem dL_law_905 : decode cL_law 905 = .ok (.aload_n 0, 1) := by decide +kernel
theorem dL_law_906 : decode cL_law 906 = .ok (.iload_n 3, 1) := by decide +kernel
theorem dL_law_907 : decode cL_law 907 = .ok (.iconst 2, 1) := by decide +kernel
theorem dL_law_908 : decode cL_law 908 = .ok (.iadd, 1) := by decide +kernel
theorem dL_law_909 : decode cL_law 909 = .ok (.iaload, 1) := by decide +kernel
theorem dL_law_910 : decode cL_law 910 = .ok (.invokevirtual 108, 3) := by decide +kernel
theorem dL_law_913 : decode cL_law 913 = .ok (.if_icmp .eq 285, 3) := by decide +kernel
theorem dL_law_916 : decode cL_law 916 = .ok (.iconst 0, 1) := by decide +kernel
theorem dL_law_917 : decode cL_law 917 = .ok (.ireturn, 1) := by decide +kernel
theorem dL_law_918 : decode cL_law 918 = .ok (.aload_n 1, 1) := by decide +kernel
theorem dL_law_919 : decode cL_law 919 = .ok (.aload_n 0, 1) := by decide +kernel
theorem dL_law_920 : decode cL_law 920 = .ok (.iload_n 3, 1) := by decide +kernel
theorem dL_law_921 : decode cL_law 921 = .ok (.iconst 1, 1) := by decide +kernel
theorem dL_law_922 : decode cL_law 922 = .ok (.iadd, 1) := by decide +kernel
theorem dL_law_923 : decode cL_law 923 = .ok (.iaload, 1) := by decide +kernel
theorem dL_law_924 : decode cL_law 924 = .ok (.invokevirtual 109, 3) := by decide +kernel
theorem dL_law_927 : decode cL_law 927 = .ok (.aload_n 2, 1) := by decide +kernel
theorem dL_law_928 : decode cL_law 928 = .ok (.aload_n 0, 1) := by decide +kernel
theorem dL_law_929 : decode cL_law 929 = .ok (.iload_n 3, 1) := by decide +kernel
theorem dL_law_930 : decode cL_law 930 = .ok (.iconst 1, 1) := by decide +kernel
theorem dL_law_931 : decode cL_law 931 = .ok (.iadd, 1) := by decide +kernel
theorem dL_law_932 : decode cL_law 932 = .ok (.iaload, 1) := by decide +kernel
theorem dL_law_933 : decode cL_law 933 = .ok (.invokevirtual 112, 3) := by decide +kernel
theorem dL_law_936 : decode cL_law 936 = .ok (.if_icmp .eq 262, 3) := by decide +kernel
theorem dL_law_939 : decode cL_law 939 = .ok (.iconst 0, 1) := by decide +kernel
theorem dL_law_940 : decode cL_law 940 = .ok (.ireturn, 1) := by decide +kernel
theorem dL_law_941 : decode cL_law 941 = .ok (.aload_n 1, 1) := by decide +kernel
theorem dL_law_942 : decode cL_law 942 = .ok (.aload_n 0, 1) := by decide +kernel
theorem dL_law_943 : decode cL_law 943 = .ok (.iload_n 3, 1) := by decide +kernel
theorem dL_law_944 : decode cL_law 944 = .ok (.iconst 1, 1) := by decide +kernel
theorem dL_law_945 : decode cL_law 945 = .ok (.iadd, 1) := by decide +kernel
theorem dL_law_946 : decode cL_law 946 = .ok (.iaload, 1) := by decide +kernel
theorem dL_law_947 : decode cL_law 947 = .ok (.invokevirtual 113, 3) := by decide +kernel
theorem dL_law_950 : decode cL_law 950 = .ok (.aload_n 2, 1) := by decide +kernel
theorem dL_law_951 : decode cL_law 951 = .ok (.aload_n 0, 1) := by decide +kernel
theorem dL_law_952 : decode cL_law 952 = .ok (.iload_n 3, 1) := by decide +kernel
theorem dL_law_953 : decode cL_law 953 = .ok (.iconst 1, 1) := by decide +kernel
theorem dL_law_954 : decode cL_law 954 = .ok (.iadd, 1) := by decide +kernel
theorem dL_law_955 : decode cL_law 955 = .ok (.iaload, 1) := by decide +kernel
theorem dL_law_956 : decode cL_law 956 = .ok (.invokevirtual 116, 3) := by decide +kernel
theorem dL_law_959 : decode cL_law 959 = .ok (.if_icmp .eq 239, 3) := by decide +kernel
theorem dL_law_962 : decode cL_law 962 = .ok (.iconst 0, 1) := by decide +kernel
theorem dL_law_963 : decode cL_law 963 = .ok (.ireturn, 1) := by decide +kernel
theorem dL_law_964 : decode cL_law 964 = .ok (.aload_n 1, 1) := by decide +kernel
theorem dL_law_965 : decode cL_law 965 = .ok (.aload_n 0, 1) := by decide +kernel
theorem dL_law_966 : decode cL_law 966 = .ok (.iload_n 3, 1) := by decide +kernel
theorem dL_law_967 : decode cL_law 967 = .ok (.iconst 1, 1) := by decide +kernel
theorem dL_law_968 : decode cL_law 968 = .ok (.iadd, 1) := by decide +kernel
theorem dL_law_969 : decode cL_law 969 = .ok (.iaload, 1) := by decide +kernel
theorem dL_law_970 : decode cL_law 970 = .ok (.aload_n 0, 1) := by decide +kernel
theorem dL_law_971 : decode cL_law 971 = .ok (.iload_n 3, 1) := by decide +kernel
theorem dL_law_972 : decode cL_law 972 = .ok (.iconst 2, 1) := by decide +kernel
theorem dL_law_973 : decode cL_law 973 = .ok (.iadd, 1) := by decide +kernel
theorem dL_law_974 : decode cL_law 974 = .ok (.iaload, 1) := by decide +kernel
theorem dL_law_975 : decode cL_law 975 = .ok (.aload_n 0, 1) := by decide +kernel
theorem dL_law_976 : decode cL_law 976 = .ok (.iload_n 3, 1) := by decide +kernel
theorem dL_law_977 : decode cL_law 977 = .ok (.iconst 3, 1) := by decide +kernel
theorem dL_law_978 : decode cL_law 978 = .ok (.iadd, 1) := by decide +kernel
theorem dL_law_979 : decode cL_law 979 = .ok (.iaload, 1) := by decide +kernel
theorem dL_law_980 : decode cL_law 980 = .ok (.invokevirtual 117, 3) := by decide +kernel
theorem dL_law_983 : decode cL_law 983 = .ok (.aload_n 2, 1) := by decide +kernel
theorem dL_law_984 : decode cL_law 984 = .ok (.aload_n 0, 1) := by decide +kernel
theorem dL_law_985 : decode cL_law 985 = .ok (.iload_n 3, 1) := by decide +kernel
theorem dL_law_986 : decode cL_law 986 = .ok (.iconst 1, 1) := by decide +kernel
theorem dL_law_987 : decode cL_law 987 = .ok (.iadd, 1) := by decide +kernel
theorem dL_law_988 : decode cL_law 988 = .ok (.iaload, 1) := by decide +kernel
theorem dL_law_989 : decode cL_law 989 = .ok (.aload_n 0, 1) := by decide +kernel
theorem dL_law_990 : decode cL_law 990 = .ok (.iload_n 3, 1) := by decide +kernel
theorem dL_law_991 : decode cL_law 991 = .ok (.iconst 2, 1) := by decide +kernel
theorem dL_law_992 : decode cL_law 992 = .ok (.iadd, 1) := by decide +kernel
theorem dL_law_993 : decode cL_law 993 = .ok (.iaload, 1) := by decide +kernel
theorem dL_law_994 : decode cL_law 994 = .ok (.aload_n 0, 1) := by decide +kernel
theorem dL_law_995 : decode cL_law 995 = .ok (.iload_n 3, 1) := by decide +kernel
theorem dL_law_996 : decode cL_law 996 = .ok (.iconst 3, 1) := by decide +kernel
theorem dL_law_997 : decode cL_law 997 = .ok (.iadd, 1) := by decide +kernel
theorem dL_law_998 : decode cL_law 998 = .ok (.iaload, 1) := by decide +kernel
theorem dL_law_999 : decode cL_law 999 = .ok (.invokevirtual 120, 3) := by decide +kernel
theorem dL_law_1002 : decode cL_law 1002 = .ok (.if_icmp .eq 196, 3) := by decide +kernel
theorem dL_law_1005 : decode cL_law 1005 = .ok (.iconst 0, 1) := by decide +kernel
theorem dL_law_1006 : decode cL_law 1006 = .ok (.ireturn, 1) := by decide +kernel
theorem dL_law_1007 : decode cL_law 1007 = .ok (.aload_n 1, 1) := by decide +kernel
theorem dL_law_1008 : decode cL_law 1008 = .ok (.aload_n 0, 1) := by decide +kernel
theorem dL_law_1009 : decode cL_law 1009 = .ok (.iload_n 3, 1) := by decide +kernel
theorem dL_law_1010 : decode cL_law 1010 = .ok (.iconst 1, 1) := by decide +kernel
theorem dL_law_1011 : decode cL_law 1011 = .ok (.iadd, 1) := by decide +kernel
theorem dL_law_1012 : decode cL_law 1012 = .ok (.iaload, 1) := by decide +kernel
theorem dL_law_1013 : decode cL_law 1013 = .ok (.invokevirtual 121, 3) := by decide +kernel
theorem dL_law_1016 : decode cL_law 1016 = .ok (.aload_n 2, 1) := by decide +kernel
theorem dL_law_1017 : decode cL_law 1017 = .ok (.aload_n 0, 1) := by decide +kernel
theorem dL_law_1018 : decode cL_law 1018 = .ok (.iload_n 3, 1) := by decide +kernel
theorem dL_law_1019 : decode cL_law 1019 = .ok (.iconst 1, 1) := by decide +kernel
theorem dL_law_1020 : decode cL_law 1020 = .ok (.iadd, 1) := by decide +kernel
theorem dL_law_1021 : decode cL_law 1021 = .ok (.iaload, 1) := by decide +kernel
theorem dL_law_1022 : decode cL_law 1022 = .ok (.invokevirtual 124, 3) := by decide +kernel
theorem dL_law_1025 : decode cL_law 1025 = .ok (.if_icmp .eq 173, 3) := by decide +kernel
theorem dL_law_1028 : decode cL_law 1028 = .ok (.iconst 0, 1) := by decide +kernel
theorem dL_law_1029 : decode cL_law 1029 = .ok (.ireturn, 1) := by decide +kernel
theorem dL_law_1030 : decode cL_law 1030 = .ok (.aload_n 1, 1) := by decide +kernel
theorem dL_law_1031 : decode cL_law 1031 = .ok (.aload_n 0, 1) := by decide +kernel
theorem dL_law_1032 : decode cL_law 1032 = .ok (.iload_n 3, 1) := by decide +kernel
theorem dL_law_1033 : decode cL_law 1033 = .ok (.iconst 1, 1) := by decide +kernel
theorem dL_law_1034 : decode cL_law 1034 = .ok (.iadd, 1) := by decide +kernel
theorem dL_law_1035 : decode cL_law 1035 = .ok (.iaload, 1) := by decide +kernel
theorem dL_law_1036 : decode cL_law 1036 = .ok (.aload_n 0, 1) := by decide +kernel
theorem dL_law_1037 : decode cL_law 1037 = .ok (.iload_n 3, 1) := by decide +kernel
theorem dL_law_1038 : decode cL_law 1038 = .ok (.iconst 2, 1) := by decide +kernel
theorem dL_law_1039 : decode cL_law 1039 = .ok (.iadd, 1) := by decide +kernel
theorem dL_law_1040 : decode cL_law 1040 = .ok (.iaload, 1) := by decide +kernel
theorem dL_law_1041 : decode cL_law 1041 = .ok (.invokevirtual 125, 3) := by decide +kernel
theorem dL_law_1044 : decode cL_law 1044 = .ok (.aload_n 2, 1) := by decide +kernel
theorem dL_law_1045 : decode cL_law 1045 = .ok (.aload_n 0, 1) := by decide +kernel
theorem dL_law_1046 : decode cL_law 1046 = .ok (.iload_n 3, 1) := by decide +kernel
theorem dL_law_1047 : decode cL_law 1047 = .ok (.iconst 1, 1) := by decide +kernel
theorem dL_law_1048 : decode cL_law 1048 = .ok (.iadd, 1) := by decide +kernel
theorem dL_law_1049 : decode cL_law 1049 = .ok (.iaload, 1) := by decide +kernel
theorem dL_law_1050 : decode cL_law 1050 = .ok (.aload_n 0, 1) := by decide +kernel
theorem dL_law_1051 : decode cL_law 1051 = .ok (.iload_n 3, 1) := by decide +kernel
theorem dL_law_1052 : decode cL_law 1052 = .ok (.iconst 2, 1) := by decide +kernel
theorem dL_law_1053 : decode cL_law 1053 = .ok (.iadd, 1) := by decide +kernel
theorem dL_law_1054 : decode cL_law 1054 = .ok (.iaload, 1) := by decide +kernel
theorem dL_law_1055 : decode cL_law 1055 = .ok (.invokevirtual 128, 3) := by decide +kernel
theorem dL_law_1058 : decode cL_law 1058 = .ok (.if_icmp .eq 140, 3) := by decide +kernel
theorem dL_law_1061 : decode cL_law 1061 = .ok (.iconst 0, 1) := by decide +kernel
theorem dL_law_1062 : decode cL_law 1062 = .ok (.ireturn, 1) := by decide +kernel
theorem dL_law_1063 : decode cL_law 1063 = .ok (.aload_n 1, 1) := by decide +kernel
theorem dL_law_1064 : decode cL_law 1064 = .ok (.aload_n 0, 1) := by decide +kernel
theorem dL_law_1065 : decode cL_law 1065 = .ok (.iload_n 3, 1) := by decide +kernel
theorem dL_law_1066 : decode cL_law 1066 = .ok (.iconst 1, 1) := by decide +kernel
theorem dL_law_1067 : decode cL_law 1067 = .ok (.iadd, 1) := by decide +kernel
theorem dL_law_1068 : decode cL_law 1068 = .ok (.iaload, 1) := by decide +kernel
theorem dL_law_1069 : decode cL_law 1069 = .ok (.aload_n 0, 1) := by decide +kernel
theorem dL_law_1070 : decode cL_law 1070 = .ok (.iload_n 3, 1) := by decide +kernel
theorem dL_law_1071 : decode cL_law 1071 = .ok (.iconst 2, 1) := by decide +kernel
theorem dL_law_1072 : decode cL_law 1072 = .ok (.iadd, 1) := by decide +kernel
theorem dL_law_1073 : decode cL_law 1073 = .ok (.iaload, 1) := by decide +kernel
theorem dL_law_1074 : decode cL_law 1074 = .ok (.aload_n 0, 1) := by decide +kernel
theorem dL_law_1075 : decode cL_law 1075 = .ok (.iload_n 3, 1) := by decide +kernel
theorem dL_law_1076 : decode cL_law 1076 = .ok (.iconst 3, 1) := by decide +kernel
theorem dL_law_1077 : decode cL_law 1077 = .ok (.iadd, 1) := by decide +kernel
theorem dL_law_1078 : decode cL_law 1078 = .ok (.iaload, 1) := by decide +kernel
theorem dL_law_1079 : decode cL_law 1079 = .ok (.invokevirtual 129, 3) := by decide +kernel
theorem dL_law_1082 : decode cL_law 1082 = .ok (.aload_n 2, 1) := by decide +kernel
theorem dL_law_1083 : decode cL_law 1083 = .ok (.aload_n 0, 1) := by decide +kernel
theorem dL_law_1084 : decode cL_law 1084 = .ok (.iload_n 3, 1) := by decide +kernel
theorem dL_law_1085 : decode cL_law 1085 = .ok (.iconst 1, 1) := by decide +kernel
theorem dL_law_1086 : decode cL_law 1086 = .ok (.iadd, 1) := by decide +kernel
theorem dL_law_1087 : decode cL_law 1087 = .ok (.iaload, 1) := by decide +kernel
theorem dL_law_1088 : decode cL_law 1088 = .ok (.aload_n 0, 1) := by decide +kernel
theorem dL_law_1089 : decode cL_law 1089 = .ok (.iload_n 3, 1) := by decide +kernel
theorem dL_law_1090 : decode cL_law 1090 = .ok (.iconst 2, 1) := by decide +kernel
theorem dL_law_1091 : decode cL_law 1091 = .ok (.iadd, 1) := by decide +kernel
theorem dL_law_1092 : decode cL_law 1092 = .ok (.iaload, 1) := by decide +kernel
theorem dL_law_1093 : decode cL_law 1093 = .ok (.aload_n 0, 1) := by decide +kernel
theorem dL_law_1094 : decode cL_law 1094 = .ok (.iload_n 3, 1) := by decide +kernel
theorem dL_law_1095 : decode cL_law 1095 = .ok (.iconst 3, 1) := by decide +kernel
theorem dL_law_1096 : decode cL_law 1096 = .ok (.iadd, 1) := by decide +kernel
theorem dL_law_1097 : decode cL_law 1097 = .ok (.iaload, 1) := by decide +kernel
theorem dL_law_1098 : decode cL_law 1098 = .ok (.invokevirtual 132, 3) := by decide +kernel
theorem dL_law_1101 : decode cL_law 1101 = .ok (.if_icmp .eq 97, 3) := by decide +kernel
theorem dL_law_1104 : decode cL_law 1104 = .ok (.iconst 0, 1) := by decide +kernel
theorem dL_law_1105 : decode cL_law 1105 = .ok (.ireturn, 1) := by decide +kernel
theorem dL_law_1106 : decode cL_law 1106 = .ok (.aload_n 1, 1) := by decide +kernel
theorem dL_law_1107 : decode cL_law 1107 = .ok (.invokevirtual 133, 3) := by decide +kernel
theorem dL_law_1110 : decode cL_law 1110 = .ok (.aload_n 2, 1) := by decide +kernel
theorem dL_law_1111 : decode cL_law 1111 = .ok (.invokevirtual 136, 3) := by decide +kernel
theorem dL_law_1114 : decode cL_law 1114 = .ok (.if_icmp .eq 84, 3) := by decide +kernel
theorem dL_law_1117 : decode cL_law 1117 = .ok (.iconst 0, 1) := by decide +kernel
theorem dL_law_1118 : decode cL_law 1118 = .ok (.ireturn, 1) := by decide +kernel
theorem dL_law_1119 : decode cL_law 1119 = .ok (.aload_n 1, 1) := by decide +kernel
theorem dL_law_1120 : decode cL_law 1120 = .ok (.aload_n 0, 1) := by decide +kernel
theorem dL_law_1121 : decode cL_law 1121 = .ok (.iload_n 3, 1) := by decide +kernel
theorem dL_law_1122 : decode cL_law 1122 = .ok (.iconst 1, 1) := by decide +kernel
theorem dL_law_1123 : decode cL_law 1123 = .ok (.iadd, 1) := by decide +kernel
theorem dL_law_1124 : decode cL_law 1124 = .ok (.iaload, 1) := by decide +kernel
theorem dL_law_1125 : decode cL_law 1125 = .ok (.aload_n 0, 1) := by decide +kernel
theorem dL_law_1126 : decode cL_law 1126 = .ok (.iload_n 3, 1) := by decide +kernel
theorem dL_law_1127 : decode cL_law 1127 = .ok (.iconst 2, 1) := by decide +kernel
theorem dL_law_1128 : decode cL_law 1128 = .ok (.iadd, 1) := by decide +kernel
theorem dL_law_1129 : decode cL_law 1129 = .ok (.iaload, 1) := by decide +kernel
theorem dL_law_1130 : decode cL_law 1130 = .ok (.invokevirtual 137, 3) := by decide +kernel
theorem dL_law_1133 : decode cL_law 1133 = .ok (.aload_n 2, 1) := by decide +kernel
theorem dL_law_1134 : decode cL_law 1134 = .ok (.aload_n 0, 1) := by decide +kernel
theorem dL_law_1135 : decode cL_law 1135 = .ok (.iload_n 3, 1) := by decide +kernel
theorem dL_law_1136 : decode cL_law 1136 = .ok (.iconst 1, 1) := by decide +kernel
theorem dL_law_1137 : decode cL_law 1137 = .ok (.iadd, 1) := by decide +kernel
theorem dL_law_1138 : decode cL_law 1138 = .ok (.iaload, 1) := by decide +kernel
theorem dL_law_1139 : decode cL_law 1139 = .ok (.aload_n 0, 1) := by decide +kernel
theorem dL_law_1140 : decode cL_law 1140 = .ok (.iload_n 3, 1) := by decide +kernel
theorem dL_law_1141 : decode cL_law 1141 = .ok (.iconst 2, 1) := by decide +kernel
theorem dL_law_1142 : decode cL_law 1142 = .ok (.iadd, 1) := by decide +kernel
theorem dL_law_1143 : decode cL_law 1143 = .ok (.iaload, 1) := by decide +kernel
theorem dL_law_1144 : decode cL_law 1144 = .ok (.invokevirtual 140, 3) := by decide +kernel
theorem dL_law_1147 : decode cL_law 1147 = .ok (.if_icmp .eq 51, 3) := by decide +kernel
theorem dL_law_1150 : decode cL_law 1150 = .ok (.iconst 0, 1) := by decide +kernel
theorem dL_law_1151 : decode cL_law 1151 = .ok (.ireturn, 1) := by decide +kernel
theorem dL_law_1152 : decode cL_law 1152 = .ok (.aload_n 1, 1) := by decide +kernel
theorem dL_law_1153 : decode cL_law 1153 = .ok (.aload_n 0, 1) := by decide +kernel
theorem dL_law_1154 : decode cL_law 1154 = .ok (.iload_n 3, 1) := by decide +kernel
theorem dL_law_1155 : decode cL_law 1155 = .ok (.iconst 1, 1) := by decide +kernel
theorem dL_law_1156 : decode cL_law 1156 = .ok (.iadd, 1) := by decide +kernel
theorem dL_law_1157 : decode cL_law 1157 = .ok (.iaload, 1) := by decide +kernel
theorem dL_law_1158 : decode cL_law 1158 = .ok (.invokevirtual 141, 3) := by decide +kernel
theorem dL_law_1161 : decode cL_law 1161 = .ok (.aload_n 2, 1) := by decide +kernel
theorem dL_law_1162 : decode cL_law 1162 = .ok (.aload_n 0, 1) := by decide +kernel
theorem dL_law_1163 : decode cL_law 1163 = .ok (.iload_n 3, 1) := by decide +kernel
theorem dL_law_1164 : decode cL_law 1164 = .ok (.iconst 1, 1) := by decide +kernel
theorem dL_law_1165 : decode cL_law 1165 = .ok (.iadd, 1) := by decide +kernel
theorem dL_law_1166 : decode cL_law 1166 = .ok (.iaload, 1) := by decide +kernel
theorem dL_law_1167 : decode cL_law 1167 = .ok (.invokevirtual 144, 3) := by decide +kernel
theorem dL_law_1170 : decode cL_law 1170 = .ok (.if_icmp .eq 28, 3) := by decide +kernel
theorem dL_law_1173 : decode cL_law 1173 = .ok (.iconst 0, 1) := by decide +kernel
theorem dL_law_1174 : decode cL_law 1174 = .ok (.ireturn, 1) := by decide +kernel
theorem dL_law_1175 : decode cL_law 1175 = .ok (.aload_n 1, 1) := by decide +kernel
theorem dL_law_1176 : decode cL_law 1176 = .ok (.aload_n 0, 1) := by decide +kernel
theorem dL_law_1177 : decode cL_law 1177 = .ok (.iload_n 3, 1) := by decide +kernel
theorem dL_law_1178 : decode cL_law 1178 = .ok (.iconst 1, 1) := by decide +kernel
theorem dL_law_1179 : decode cL_law 1179 = .ok (.iadd, 1) := by decide +kernel
theorem dL_law_1180 : decode cL_law 1180 = .ok (.iaload, 1) := by decide +kernel
theorem dL_law_1181 : decode cL_law 1181 = .ok (.invokevirtual 145, 3) := by decide +kernel
theorem dL_law_1184 : decode cL_law 1184 = .ok (.aload_n 2, 1) := by decide +kernel
theorem dL_law_1185 : decode cL_law 1185 = .ok (.aload_n 0, 1) := by decide +kernel
theorem dL_law_1186 : decode cL_law 1186 = .ok (.iload_n 3, 1) := by decide +kernel
theorem dL_law_1187 : decode cL_law 1187 = .ok (.iconst 1, 1) := by decide +kernel
theorem dL_law_1188 : decode cL_law 1188 = .ok (.iadd, 1) := by decide +kernel
theorem dL_law_1189 : decode cL_law 1189 = .ok (.iaload, 1) := by decide +kernel
theorem dL_law_1190 : decode cL_law 1190 = .ok (.invokevirtual 148, 3) := by decide +kernel
theorem dL_law_1193 : decode cL_law 1193 = .ok (.if_icmp .eq 5, 3) := by decide +kernel
theorem dL_law_1196 : decode cL_law 1196 = .ok (.iconst 0, 1) := by decide +kernel
theorem dL_law_1197 : decode cL_law 1197 = .ok (.ireturn, 1) := by decide +kernel
theorem dL_law_1198 : decode cL_law 1198 = .ok (.iinc 3 4, 3) := by decide +kernel
theorem dL_law_1201 : decode cL_law 1201 = .ok (.goto (-1183), 3) := by decide +kernel
theorem dL_law_1204 : decode cL_law 1204 = .ok (.iconst 1, 1) := by decide +kernel
theorem dL_law_1205 : decode cL_law 1205 = .ok (.ireturn, 1) := by decide +kernel
end
section

/-! THE FRAME: the world of a method is one pool of cells (addresses L, what each holds: f); a goal xG is 'from here the method comes to its end' -/
def xws : List Cond := lw_tbl.filter goodWord
theorem x_mem {w : Cond} (i : Nat) (h : lw_tbl[i]? = some w) (hg : goodWord w = true) : w ∈ xws := List.mem_filter.mpr ⟨List.mem_of_getElem? h, hg⟩
abbrev xM : Type := MethodName × ByteArray × Nat × Option FieldType
def xwm (M : xM) : List Cond := Cond.code M.1 M.2.1 M.2.2.1 M.2.2.2 :: xws
theorem x_good {M : xM} (h : Cond.code M.1 M.2.1 M.2.2.1 M.2.2.2 ∈ xws) : GoodIn xws (xwm M) := fun w hw => by
  have hw2 : w ∈ xws := by
    rcases List.mem_cons.mp hw with rfl | h2
    · exact h
    · exact h2
  exact ⟨hw2, good_of_word (List.mem_filter.mp hw2).2⟩
/-- the classes' numbers and slots; the array classes; the String constants' addresses and those of their bytes -/
abbrev xE : Type := va_G × (Nat → ClassId) × (Nat → Nat) × (Nat → Nat)
def xtys (E : xE) : List (ClassId × FieldType) := [(E.2.1 0, .int), (E.2.1 1, .long), (E.2.1 2, .byte), (E.2.1 3, .boolean), (E.2.1 4, .object RX9), (E.2.1 5, .object RX4), (E.2.1 6, .array .int), (E.2.1 7, .array .long)]
def x_slen : List Nat := [4, 5, 7, 4, 2, 4]
def x_sbyt : List (List Int32) := [[102, 114, 101, 101], [98, 111, 117, 110, 100], [108, 101, 116, 116, 101, 114, 115], [104, 101, 97, 112], [105, 115], [110, 111, 110, 101]]
def x_sref : List (Nat × String) := [(52, "free"), (62, "bound"), (64, "letters"), (69, "heap"), (94, "is"), (96, "none")]
/-- what lies outside the pool and stays: the String constants, the statics that String's methods read -/
def xExt (E : xE) (A : Nat → Prop) (U : State) (H : Heap) : Prop :=
  vk_S 6 x_slen x_sbyt E.2.2.1 E.2.2.2 A U H ∧ va_Z "java/lang/String" "COMPACT_STRINGS" "Z" (.int 1) A U H ∧ va_Zq "jdk/internal/util/Preconditions" "SIOOBE_FORMATTER" "Ljava/util/function/BiFunction;" A U H ∧
  ∀ (i : Nat) (q : Nat × String), x_sref[i]? = some q → vk_R RX5 q.1 q.2 (E.2.2.1 i) U
theorem xExt.warm {E : xE} {A : Nat → Prop} {s U : State} {H : Heap} (hW : s.WarmedH U.vm) (h : xExt E A s H) : xExt E A U H :=
  ⟨h.1.moved hW.alike, h.2.1.moved hW.alike, h.2.2.1.moved hW.alike, fun i q hq => (h.2.2.2 i q hq).warm hW⟩
theorem xExt.same {E : xE} {A : Nat → Prop} {s U : State} {H : Heap} (hv : U.vm = s.vm) (h : xExt E A s H) : xExt E A U H :=
  ⟨h.1.moved (hv ▸ Vm.Alike.refl s.vm), h.2.1.moved (hv ▸ Vm.Alike.refl s.vm), h.2.2.1.moved (hv ▸ Vm.Alike.refl s.vm), fun i q hq => (h.2.2.2 i q hq).same hv⟩
theorem xExt.kept {E : xE} {A : Nat → Prop} {U : State} {H H1 : Heap} (h : xExt E A U H) (hq : ∀ a : Nat, a < H.size → ¬ A a → H1[a]? = H[a]?) : xExt E A U H1 :=
  ⟨h.1.kept hq, h.2.1.kept hq, h.2.2.1.kept hq, h.2.2.2⟩
theorem xExt.narrow {E : xE} {A B : Nat → Prop} {U : State} {H : Heap} (h : xExt E A U H) (hAB : ∀ q, B q → A q) : xExt E B U H :=
  ⟨h.1.narrow hAB, h.2.1.narrow hAB, h.2.2.1.narrow hAB, h.2.2.2⟩
abbrev xC : Type := Launch × Program × Env × Room × State × MethodId × Array Value × List Frame × Method × Code
def xOk (E : xE) (X : xC) (A : Nat → Prop) (cc : ByteArray) (own nm : String) (ret : Option FieldType) (rm : Nat × Nat × Nat) : Prop :=
  match X with
  | (_, p, _, R, s, m, args, _, meth, c) => p.tables.exec = Jvm.exec ∧ c.code = cc ∧ s.vm.findClass own = some m.cls ∧ (∀ w ∈ xws, w.before args s = true) ∧ va_K E.1 vwCl (xtys E) s ∧ rm.1 ≤ R.frames ∧ 36 * rm.1 ≤ R.locals ∧ rm.2.1 ≤ R.cells ∧ rm.2.2 ≤ R.slots ∧ (∀ q : Nat, s.heap.size ≤ q → A q) ∧ xExt E A s s.heap ∧ meth.sig.returnType = ret ∧ meth.locks = false ∧ meth.name = nm
/-- the locals: what is known of each place -/
def xL (ls : Array Slot) (loc : List (Option Value)) : Prop := ls.size = loc.length ∧ lv_wf ls ∧ ∀ (i : Nat) (v : Value), loc[i]? = some (some v) → ls[i]? = some (.val v)
def xG (E : xE) (X : xC) (A : Nat → Prop) (Z : State → Prop) (cc : ByteArray) (own nm : String) (ret : Option FieldType) (rm : Nat × Nat × Nat) (L : List Nat) (f : Nat → va_E) (cu su pc : Nat) (loc : List (Option Value)) (stk : List Value) : Prop :=
  match X with
  | (l, p, e, R, s, m, args, below, meth, c) => xOk E X A cc own nm ret rm → ∀ (H : Heap) (locs : List Loc) (ls : Array Slot), va_P E.1 vwCl (va_pl L f) H → va_D A (va_pl L f) → va_S A s.heap H locs → xL ls loc → c.maxLocals = loc.length → W p l e R s m args below meth c H locs cu su Z (F0 m pc ls stk)
section XR
variable {E : xE} {X : xC} {A : Nat → Prop} {Z : State → Prop} {cc : ByteArray} {own nm : String} {ret : Option FieldType} {rm : Nat × Nat × Nat} {L : List Nat} {f : Nat → va_E} {cu su pc : Nat} {loc : List (Option Value)} {stk : List Value}

theorem g_iconst {n : Int} {v : Int32} (d : decode cc pc = .ok (.iconst n, 1)) (hv : Int32.ofInt n = v) (k : xG E X A Z cc own nm ret rm L f cu su (pc + 1) loc (.int v :: stk)) : xG E X A Z cc own nm ret rm L f cu su pc loc (stk) := by
  obtain ⟨l, p, e, R, s, m, args, below, meth, c⟩ := X
  intro hO H locs ls hP hD hS hl hml
  have hx := hO.1
  have hb := hO.2.1
  exact lv_iconst hx hb d hv (k hO H locs ls hP hD hS hl hml)

theorem g_bipush {n : Int} {v : Int32} (d : decode cc pc = .ok (.bipush n, 2)) (hv : (Int8.ofInt n).toInt32 = v) (k : xG E X A Z cc own nm ret rm L f cu su (pc + 2) loc (.int v :: stk)) : xG E X A Z cc own nm ret rm L f cu su pc loc (stk) := by
  obtain ⟨l, p, e, R, s, m, args, below, meth, c⟩ := X
  intro hO H locs ls hP hD hS hl hml
  have hx := hO.1
  have hb := hO.2.1
  exact lv_bipush hx hb d hv (k hO H locs ls hP hD hS hl hml)

theorem g_sipush {n : Int} {v : Int32} (d : decode cc pc = .ok (.sipush n, 3)) (hv : (Int16.ofInt n).toInt32 = v) (k : xG E X A Z cc own nm ret rm L f cu su (pc + 3) loc (.int v :: stk)) : xG E X A Z cc own nm ret rm L f cu su pc loc (stk) := by
  obtain ⟨l, p, e, R, s, m, args, below, meth, c⟩ := X
  intro hO H locs ls hP hD hS hl hml
  have hx := hO.1
  have hb := hO.2.1
  exact lv_sipush hx hb d hv (k hO H locs ls hP hD hS hl hml)

theorem g_lconst {n : Fin 2} {v : Int64} (d : decode cc pc = .ok (.lconst n, 1)) (hv : Int64.ofNat (n : Nat) = v) (k : xG E X A Z cc own nm ret rm L f cu su (pc + 1) loc (.long v :: stk)) : xG E X A Z cc own nm ret rm L f cu su pc loc (stk) := by
  obtain ⟨l, p, e, R, s, m, args, below, meth, c⟩ := X
  intro hO H locs ls hP hD hS hl hml
  have hx := hO.1
  have hb := hO.2.1
  exact lv_lconst hx hb d hv (k hO H locs ls hP hD hS hl hml)

theorem g_iload_n {i : Fin 4} {x : Int32} (d : decode cc pc = .ok (.iload_n i, 1)) (h : loc[(i : Nat)]? = some (some (.int x))) (k : xG E X A Z cc own nm ret rm L f cu su (pc + 1) loc (.int x :: stk)) : xG E X A Z cc own nm ret rm L f cu su pc loc (stk) := by
  obtain ⟨l, p, e, R, s, m, args, below, meth, c⟩ := X
  intro hO H locs ls hP hD hS hl hml
  have hx := hO.1
  have hb := hO.2.1
  exact lv_iload_n hx hb d rfl (hl.2.2 _ _ h) (k hO H locs ls hP hD hS hl hml)

theorem g_iload {i : Nat} {x : Int32} (d : decode cc pc = .ok (.iload i, 2)) (h : loc[i]? = some (some (.int x))) (k : xG E X A Z cc own nm ret rm L f cu su (pc + 2) loc (.int x :: stk)) : xG E X A Z cc own nm ret rm L f cu su pc loc (stk) := by
  obtain ⟨l, p, e, R, s, m, args, below, meth, c⟩ := X
  intro hO H locs ls hP hD hS hl hml
  have hx := hO.1
  have hb := hO.2.1
  exact lv_iload hx hb d (hl.2.2 _ _ h) (k hO H locs ls hP hD hS hl hml)

theorem g_lload_n {i : Fin 4} {x : Int64} (d : decode cc pc = .ok (.lload_n i, 1)) (h : loc[(i : Nat)]? = some (some (.long x))) (k : xG E X A Z cc own nm ret rm L f cu su (pc + 1) loc (.long x :: stk)) : xG E X A Z cc own nm ret rm L f cu su pc loc (stk) := by
  obtain ⟨l, p, e, R, s, m, args, below, meth, c⟩ := X
  intro hO H locs ls hP hD hS hl hml
  have hx := hO.1
  have hb := hO.2.1
  exact lv_lload_n hx hb d rfl (hl.2.2 _ _ h) (k hO H locs ls hP hD hS hl hml)

theorem g_lload {i : Nat} {x : Int64} (d : decode cc pc = .ok (.lload i, 2)) (h : loc[i]? = some (some (.long x))) (k : xG E X A Z cc own nm ret rm L f cu su (pc + 2) loc (.long x :: stk)) : xG E X A Z cc own nm ret rm L f cu su pc loc (stk) := by
  obtain ⟨l, p, e, R, s, m, args, below, meth, c⟩ := X
  intro hO H locs ls hP hD hS hl hml
  have hx := hO.1
  have hb := hO.2.1
  exact lv_lload hx hb d (hl.2.2 _ _ h) (k hO H locs ls hP hD hS hl hml)

theorem g_aload_n {i : Fin 4} {x : Nat} (d : decode cc pc = .ok (.aload_n i, 1)) (h : loc[(i : Nat)]? = some (some (.ref x))) (k : xG E X A Z cc own nm ret rm L f cu su (pc + 1) loc (.ref x :: stk)) : xG E X A Z cc own nm ret rm L f cu su pc loc (stk) := by
  obtain ⟨l, p, e, R, s, m, args, below, meth, c⟩ := X
  intro hO H locs ls hP hD hS hl hml
  have hx := hO.1
  have hb := hO.2.1
  exact lv_aload_n hx hb d rfl (hl.2.2 _ _ h) (k hO H locs ls hP hD hS hl hml)

theorem g_aload {i : Nat} {x : Nat} (d : decode cc pc = .ok (.aload i, 2)) (h : loc[i]? = some (some (.ref x))) (k : xG E X A Z cc own nm ret rm L f cu su (pc + 2) loc (.ref x :: stk)) : xG E X A Z cc own nm ret rm L f cu su pc loc (stk) := by
  obtain ⟨l, p, e, R, s, m, args, below, meth, c⟩ := X
  intro hO H locs ls hP hD hS hl hml
  have hx := hO.1
  have hb := hO.2.1
  exact lv_aload hx hb d (hl.2.2 _ _ h) (k hO H locs ls hP hD hS hl hml)

theorem g_iadd {x y : Int32} (d : decode cc pc = .ok (.iadd, 1))  (k : xG E X A Z cc own nm ret rm L f cu su (pc + 1) loc (.int (x + y) :: stk)) : xG E X A Z cc own nm ret rm L f cu su pc loc (.int y :: .int x :: stk) := by
  obtain ⟨l, p, e, R, s, m, args, below, meth, c⟩ := X
  intro hO H locs ls hP hD hS hl hml
  have hx := hO.1
  have hb := hO.2.1
  exact lv_iadd hx hb d  (k hO H locs ls hP hD hS hl hml)

theorem g_isub {x y : Int32} (d : decode cc pc = .ok (.isub, 1))  (k : xG E X A Z cc own nm ret rm L f cu su (pc + 1) loc (.int (x - y) :: stk)) : xG E X A Z cc own nm ret rm L f cu su pc loc (.int y :: .int x :: stk) := by
  obtain ⟨l, p, e, R, s, m, args, below, meth, c⟩ := X
  intro hO H locs ls hP hD hS hl hml
  have hx := hO.1
  have hb := hO.2.1
  exact lv_isub hx hb d  (k hO H locs ls hP hD hS hl hml)

theorem g_imul {x y : Int32} (d : decode cc pc = .ok (.imul, 1))  (k : xG E X A Z cc own nm ret rm L f cu su (pc + 1) loc (.int (x * y) :: stk)) : xG E X A Z cc own nm ret rm L f cu su pc loc (.int y :: .int x :: stk) := by
  obtain ⟨l, p, e, R, s, m, args, below, meth, c⟩ := X
  intro hO H locs ls hP hD hS hl hml
  have hx := hO.1
  have hb := hO.2.1
  exact lv_imul hx hb d  (k hO H locs ls hP hD hS hl hml)

theorem g_iand {x y : Int32} (d : decode cc pc = .ok (.iand, 1))  (k : xG E X A Z cc own nm ret rm L f cu su (pc + 1) loc (.int (x &&& y) :: stk)) : xG E X A Z cc own nm ret rm L f cu su pc loc (.int y :: .int x :: stk) := by
  obtain ⟨l, p, e, R, s, m, args, below, meth, c⟩ := X
  intro hO H locs ls hP hD hS hl hml
  have hx := hO.1
  have hb := hO.2.1
  exact lv_iand hx hb d  (k hO H locs ls hP hD hS hl hml)

theorem g_ior {x y : Int32} (d : decode cc pc = .ok (.ior, 1))  (k : xG E X A Z cc own nm ret rm L f cu su (pc + 1) loc (.int (x ||| y) :: stk)) : xG E X A Z cc own nm ret rm L f cu su pc loc (.int y :: .int x :: stk) := by
  obtain ⟨l, p, e, R, s, m, args, below, meth, c⟩ := X
  intro hO H locs ls hP hD hS hl hml
  have hx := hO.1
  have hb := hO.2.1
  exact lv_ior hx hb d  (k hO H locs ls hP hD hS hl hml)

theorem g_ixor {x y : Int32} (d : decode cc pc = .ok (.ixor, 1))  (k : xG E X A Z cc own nm ret rm L f cu su (pc + 1) loc (.int (x ^^^ y) :: stk)) : xG E X A Z cc own nm ret rm L f cu su pc loc (.int y :: .int x :: stk) := by
  obtain ⟨l, p, e, R, s, m, args, below, meth, c⟩ := X
  intro hO H locs ls hP hD hS hl hml
  have hx := hO.1
  have hb := hO.2.1
  exact lv_ixor hx hb d  (k hO H locs ls hP hD hS hl hml)

theorem g_ladd {x y : Int64} (d : decode cc pc = .ok (.ladd, 1))  (k : xG E X A Z cc own nm ret rm L f cu su (pc + 1) loc (.long (x + y) :: stk)) : xG E X A Z cc own nm ret rm L f cu su pc loc (.long y :: .long x :: stk) := by
  obtain ⟨l, p, e, R, s, m, args, below, meth, c⟩ := X
  intro hO H locs ls hP hD hS hl hml
  have hx := hO.1
  have hb := hO.2.1
  exact lv_ladd hx hb d  (k hO H locs ls hP hD hS hl hml)

theorem g_lsub {x y : Int64} (d : decode cc pc = .ok (.lsub, 1))  (k : xG E X A Z cc own nm ret rm L f cu su (pc + 1) loc (.long (x - y) :: stk)) : xG E X A Z cc own nm ret rm L f cu su pc loc (.long y :: .long x :: stk) := by
  obtain ⟨l, p, e, R, s, m, args, below, meth, c⟩ := X
  intro hO H locs ls hP hD hS hl hml
  have hx := hO.1
  have hb := hO.2.1
  exact lv_lsub hx hb d  (k hO H locs ls hP hD hS hl hml)

theorem g_lmul {x y : Int64} (d : decode cc pc = .ok (.lmul, 1))  (k : xG E X A Z cc own nm ret rm L f cu su (pc + 1) loc (.long (x * y) :: stk)) : xG E X A Z cc own nm ret rm L f cu su pc loc (.long y :: .long x :: stk) := by
  obtain ⟨l, p, e, R, s, m, args, below, meth, c⟩ := X
  intro hO H locs ls hP hD hS hl hml
  have hx := hO.1
  have hb := hO.2.1
  exact lv_lmul hx hb d  (k hO H locs ls hP hD hS hl hml)

theorem g_land {x y : Int64} (d : decode cc pc = .ok (.land, 1))  (k : xG E X A Z cc own nm ret rm L f cu su (pc + 1) loc (.long (x &&& y) :: stk)) : xG E X A Z cc own nm ret rm L f cu su pc loc (.long y :: .long x :: stk) := by
  obtain ⟨l, p, e, R, s, m, args, below, meth, c⟩ := X
  intro hO H locs ls hP hD hS hl hml
  have hx := hO.1
  have hb := hO.2.1
  exact lv_land hx hb d  (k hO H locs ls hP hD hS hl hml)

theorem g_lor {x y : Int64} (d : decode cc pc = .ok (.lor, 1))  (k : xG E X A Z cc own nm ret rm L f cu su (pc + 1) loc (.long (x ||| y) :: stk)) : xG E X A Z cc own nm ret rm L f cu su pc loc (.long y :: .long x :: stk) := by
  obtain ⟨l, p, e, R, s, m, args, below, meth, c⟩ := X
  intro hO H locs ls hP hD hS hl hml
  have hx := hO.1
  have hb := hO.2.1
  exact lv_lor hx hb d  (k hO H locs ls hP hD hS hl hml)

theorem g_lxor {x y : Int64} (d : decode cc pc = .ok (.lxor, 1))  (k : xG E X A Z cc own nm ret rm L f cu su (pc + 1) loc (.long (x ^^^ y) :: stk)) : xG E X A Z cc own nm ret rm L f cu su pc loc (.long y :: .long x :: stk) := by
  obtain ⟨l, p, e, R, s, m, args, below, meth, c⟩ := X
  intro hO H locs ls hP hD hS hl hml
  have hx := hO.1
  have hb := hO.2.1
  exact lv_lxor hx hb d  (k hO H locs ls hP hD hS hl hml)

theorem g_idiv {x y : Int32} (d : decode cc pc = .ok (.idiv, 1)) (hne : ¬ y = 0) (k : xG E X A Z cc own nm ret rm L f cu su (pc + 1) loc (.int (x / y) :: stk)) : xG E X A Z cc own nm ret rm L f cu su pc loc (.int y :: .int x :: stk) := by
  obtain ⟨l, p, e, R, s, m, args, below, meth, c⟩ := X
  intro hO H locs ls hP hD hS hl hml
  have hx := hO.1
  have hb := hO.2.1
  exact lv_idiv hx hb d hne (k hO H locs ls hP hD hS hl hml)

theorem g_irem {x y : Int32} (d : decode cc pc = .ok (.irem, 1)) (hne : ¬ y = 0) (k : xG E X A Z cc own nm ret rm L f cu su (pc + 1) loc (.int (x - x / y * y) :: stk)) : xG E X A Z cc own nm ret rm L f cu su pc loc (.int y :: .int x :: stk) := by
  obtain ⟨l, p, e, R, s, m, args, below, meth, c⟩ := X
  intro hO H locs ls hP hD hS hl hml
  have hx := hO.1
  have hb := hO.2.1
  exact lv_irem hx hb d hne (k hO H locs ls hP hD hS hl hml)

theorem g_ldiv {x y : Int64} (d : decode cc pc = .ok (.ldiv, 1)) (hne : ¬ y = 0) (k : xG E X A Z cc own nm ret rm L f cu su (pc + 1) loc (.long (x / y) :: stk)) : xG E X A Z cc own nm ret rm L f cu su pc loc (.long y :: .long x :: stk) := by
  obtain ⟨l, p, e, R, s, m, args, below, meth, c⟩ := X
  intro hO H locs ls hP hD hS hl hml
  have hx := hO.1
  have hb := hO.2.1
  exact lv_ldiv hx hb d hne (k hO H locs ls hP hD hS hl hml)

theorem g_lrem {x y : Int64} (d : decode cc pc = .ok (.lrem, 1)) (hne : ¬ y = 0) (k : xG E X A Z cc own nm ret rm L f cu su (pc + 1) loc (.long (x - x / y * y) :: stk)) : xG E X A Z cc own nm ret rm L f cu su pc loc (.long y :: .long x :: stk) := by
  obtain ⟨l, p, e, R, s, m, args, below, meth, c⟩ := X
  intro hO H locs ls hP hD hS hl hml
  have hx := hO.1
  have hb := hO.2.1
  exact lv_lrem hx hb d hne (k hO H locs ls hP hD hS hl hml)

theorem g_ineg {x : Int32} (d : decode cc pc = .ok (.ineg, 1))  (k : xG E X A Z cc own nm ret rm L f cu su (pc + 1) loc (.int (-x) :: stk)) : xG E X A Z cc own nm ret rm L f cu su pc loc (.int x :: stk) := by
  obtain ⟨l, p, e, R, s, m, args, below, meth, c⟩ := X
  intro hO H locs ls hP hD hS hl hml
  have hx := hO.1
  have hb := hO.2.1
  exact lv_ineg hx hb d  (k hO H locs ls hP hD hS hl hml)

theorem g_lneg {x : Int64} (d : decode cc pc = .ok (.lneg, 1))  (k : xG E X A Z cc own nm ret rm L f cu su (pc + 1) loc (.long (-x) :: stk)) : xG E X A Z cc own nm ret rm L f cu su pc loc (.long x :: stk) := by
  obtain ⟨l, p, e, R, s, m, args, below, meth, c⟩ := X
  intro hO H locs ls hP hD hS hl hml
  have hx := hO.1
  have hb := hO.2.1
  exact lv_lneg hx hb d  (k hO H locs ls hP hD hS hl hml)

theorem g_ishl {x y : Int32} (d : decode cc pc = .ok (.ishl, 1))  (k : xG E X A Z cc own nm ret rm L f cu su (pc + 1) loc (.int (x <<< (y &&& 31)) :: stk)) : xG E X A Z cc own nm ret rm L f cu su pc loc (.int y :: .int x :: stk) := by
  obtain ⟨l, p, e, R, s, m, args, below, meth, c⟩ := X
  intro hO H locs ls hP hD hS hl hml
  have hx := hO.1
  have hb := hO.2.1
  exact lv_ishl hx hb d  (k hO H locs ls hP hD hS hl hml)

theorem g_ishr {x y : Int32} (d : decode cc pc = .ok (.ishr, 1))  (k : xG E X A Z cc own nm ret rm L f cu su (pc + 1) loc (.int (x >>> (y &&& 31)) :: stk)) : xG E X A Z cc own nm ret rm L f cu su pc loc (.int y :: .int x :: stk) := by
  obtain ⟨l, p, e, R, s, m, args, below, meth, c⟩ := X
  intro hO H locs ls hP hD hS hl hml
  have hx := hO.1
  have hb := hO.2.1
  exact lv_ishr hx hb d  (k hO H locs ls hP hD hS hl hml)

theorem g_iushr {x y : Int32} (d : decode cc pc = .ok (.iushr, 1))  (k : xG E X A Z cc own nm ret rm L f cu su (pc + 1) loc (.int ((x.toUInt32 >>> (y.toUInt32 &&& Int32.toUInt32 31)).toInt32) :: stk)) : xG E X A Z cc own nm ret rm L f cu su pc loc (.int y :: .int x :: stk) := by
  obtain ⟨l, p, e, R, s, m, args, below, meth, c⟩ := X
  intro hO H locs ls hP hD hS hl hml
  have hx := hO.1
  have hb := hO.2.1
  exact lv_iushr hx hb d rfl (k hO H locs ls hP hD hS hl hml)

theorem g_lushr {x : Int64} {y : Int32} (d : decode cc pc = .ok (.lushr, 1))  (k : xG E X A Z cc own nm ret rm L f cu su (pc + 1) loc (.long ((x.toUInt64 >>> (y.toInt64.toUInt64 &&& Int64.toUInt64 63)).toInt64) :: stk)) : xG E X A Z cc own nm ret rm L f cu su pc loc (.int y :: .long x :: stk) := by
  obtain ⟨l, p, e, R, s, m, args, below, meth, c⟩ := X
  intro hO H locs ls hP hD hS hl hml
  have hx := hO.1
  have hb := hO.2.1
  exact lv_lushr hx hb d rfl (k hO H locs ls hP hD hS hl hml)

theorem g_lshl {x : Int64} {y : Int32} (d : decode cc pc = .ok (.lshl, 1))  (k : xG E X A Z cc own nm ret rm L f cu su (pc + 1) loc (.long (x <<< (y.toInt64 &&& 63)) :: stk)) : xG E X A Z cc own nm ret rm L f cu su pc loc (.int y :: .long x :: stk) := by
  obtain ⟨l, p, e, R, s, m, args, below, meth, c⟩ := X
  intro hO H locs ls hP hD hS hl hml
  have hx := hO.1
  have hb := hO.2.1
  exact lv_lshl hx hb d rfl (k hO H locs ls hP hD hS hl hml)

theorem g_lshr {x : Int64} {y : Int32} (d : decode cc pc = .ok (.lshr, 1))  (k : xG E X A Z cc own nm ret rm L f cu su (pc + 1) loc (.long (x >>> (y.toInt64 &&& 63)) :: stk)) : xG E X A Z cc own nm ret rm L f cu su pc loc (.int y :: .long x :: stk) := by
  obtain ⟨l, p, e, R, s, m, args, below, meth, c⟩ := X
  intro hO H locs ls hP hD hS hl hml
  have hx := hO.1
  have hb := hO.2.1
  exact lv_lshr hx hb d rfl (k hO H locs ls hP hD hS hl hml)

theorem g_i2l {x : Int32} (d : decode cc pc = .ok (.i2l, 1))  (k : xG E X A Z cc own nm ret rm L f cu su (pc + 1) loc (.long x.toInt64 :: stk)) : xG E X A Z cc own nm ret rm L f cu su pc loc (.int x :: stk) := by
  obtain ⟨l, p, e, R, s, m, args, below, meth, c⟩ := X
  intro hO H locs ls hP hD hS hl hml
  have hx := hO.1
  have hb := hO.2.1
  exact lv_i2l hx hb d rfl (k hO H locs ls hP hD hS hl hml)

theorem g_l2i {x : Int64} (d : decode cc pc = .ok (.l2i, 1))  (k : xG E X A Z cc own nm ret rm L f cu su (pc + 1) loc (.int x.toInt32 :: stk)) : xG E X A Z cc own nm ret rm L f cu su pc loc (.long x :: stk) := by
  obtain ⟨l, p, e, R, s, m, args, below, meth, c⟩ := X
  intro hO H locs ls hP hD hS hl hml
  have hx := hO.1
  have hb := hO.2.1
  exact lv_l2i hx hb d rfl (k hO H locs ls hP hD hS hl hml)

theorem g_i2b {x : Int32} (d : decode cc pc = .ok (.i2b, 1))  (k : xG E X A Z cc own nm ret rm L f cu su (pc + 1) loc (.int x.toInt8.toInt32 :: stk)) : xG E X A Z cc own nm ret rm L f cu su pc loc (.int x :: stk) := by
  obtain ⟨l, p, e, R, s, m, args, below, meth, c⟩ := X
  intro hO H locs ls hP hD hS hl hml
  have hx := hO.1
  have hb := hO.2.1
  exact lv_i2b hx hb d rfl (k hO H locs ls hP hD hS hl hml)

theorem g_i2c {x : Int32} (d : decode cc pc = .ok (.i2c, 1))  (k : xG E X A Z cc own nm ret rm L f cu su (pc + 1) loc (.int (x.toUInt32 % 65536).toInt32 :: stk)) : xG E X A Z cc own nm ret rm L f cu su pc loc (.int x :: stk) := by
  obtain ⟨l, p, e, R, s, m, args, below, meth, c⟩ := X
  intro hO H locs ls hP hD hS hl hml
  have hx := hO.1
  have hb := hO.2.1
  exact lv_i2c hx hb d rfl (k hO H locs ls hP hD hS hl hml)

theorem g_lcmp {x y : Int64} (d : decode cc pc = .ok (.lcmp, 1))  (k : xG E X A Z cc own nm ret rm L f cu su (pc + 1) loc (.int (lg_cmp x y) :: stk)) : xG E X A Z cc own nm ret rm L f cu su pc loc (.long y :: .long x :: stk) := by
  obtain ⟨l, p, e, R, s, m, args, below, meth, c⟩ := X
  intro hO H locs ls hP hD hS hl hml
  have hx := hO.1
  have hb := hO.2.1
  exact W.lcmp hx hb d  (k hO H locs ls hP hD hS hl hml)

theorem g_dup {va : Value} (d : decode cc pc = .ok (.dup, 1)) (hva : va.category = 1) (k : xG E X A Z cc own nm ret rm L f cu su (pc + 1) loc (va :: va :: stk)) : xG E X A Z cc own nm ret rm L f cu su pc loc (va :: stk) := by
  obtain ⟨l, p, e, R, s, m, args, below, meth, c⟩ := X
  intro hO H locs ls hP hD hS hl hml
  have hx := hO.1
  have hb := hO.2.1
  exact lv_dup hx hb d hva (k hO H locs ls hP hD hS hl hml)

theorem g_pop {va : Value} (d : decode cc pc = .ok (.pop, 1)) (hva : va.category = 1) (k : xG E X A Z cc own nm ret rm L f cu su (pc + 1) loc (stk)) : xG E X A Z cc own nm ret rm L f cu su pc loc (va :: stk) := by
  obtain ⟨l, p, e, R, s, m, args, below, meth, c⟩ := X
  intro hO H locs ls hP hD hS hl hml
  have hx := hO.1
  have hb := hO.2.1
  exact lv_pop hx hb d hva (k hO H locs ls hP hD hS hl hml)

theorem g_dup_x1 {va vb : Value} (d : decode cc pc = .ok (.dup_x1, 1)) (hva : va.category = 1) (hvb : vb.category = 1) (k : xG E X A Z cc own nm ret rm L f cu su (pc + 1) loc (va :: vb :: va :: stk)) : xG E X A Z cc own nm ret rm L f cu su pc loc (va :: vb :: stk) := by
  obtain ⟨l, p, e, R, s, m, args, below, meth, c⟩ := X
  intro hO H locs ls hP hD hS hl hml
  have hx := hO.1
  have hb := hO.2.1
  exact lv_dup_x1 hx hb d hva hvb (k hO H locs ls hP hD hS hl hml)

theorem g_dup_x2 {va vb vd : Value} (d : decode cc pc = .ok (.dup_x2, 1)) (hva : va.category = 1) (hvb : vb.category = 1) (hvd : vd.category = 1) (k : xG E X A Z cc own nm ret rm L f cu su (pc + 1) loc (va :: vb :: vd :: va :: stk)) : xG E X A Z cc own nm ret rm L f cu su pc loc (va :: vb :: vd :: stk) := by
  obtain ⟨l, p, e, R, s, m, args, below, meth, c⟩ := X
  intro hO H locs ls hP hD hS hl hml
  have hx := hO.1
  have hb := hO.2.1
  exact lv_dup_x2 hx hb d hva hvb hvd (k hO H locs ls hP hD hS hl hml)

theorem g_dup2_11 {va vb : Value} (d : decode cc pc = .ok (.dup2, 1)) (hva : va.category = 1) (hvb : vb.category = 1) (k : xG E X A Z cc own nm ret rm L f cu su (pc + 1) loc (va :: vb :: va :: vb :: stk)) : xG E X A Z cc own nm ret rm L f cu su pc loc (va :: vb :: stk) := by
  obtain ⟨l, p, e, R, s, m, args, below, meth, c⟩ := X
  intro hO H locs ls hP hD hS hl hml
  have hx := hO.1
  have hb := hO.2.1
  exact lv_dup2_11 hx hb d hva hvb (k hO H locs ls hP hD hS hl hml)

theorem g_dup2_2 {va : Value} (d : decode cc pc = .ok (.dup2, 1)) (hva : va.category = 2) (k : xG E X A Z cc own nm ret rm L f cu su (pc + 1) loc (va :: va :: stk)) : xG E X A Z cc own nm ret rm L f cu su pc loc (va :: stk) := by
  obtain ⟨l, p, e, R, s, m, args, below, meth, c⟩ := X
  intro hO H locs ls hP hD hS hl hml
  have hx := hO.1
  have hb := hO.2.1
  exact lv_dup2_2 hx hb d hva (k hO H locs ls hP hD hS hl hml)

theorem g_dup2_x1_2 {va vb : Value} (d : decode cc pc = .ok (.dup2_x1, 1)) (hva : va.category = 2) (hvb : vb.category = 1) (k : xG E X A Z cc own nm ret rm L f cu su (pc + 1) loc (va :: vb :: va :: stk)) : xG E X A Z cc own nm ret rm L f cu su pc loc (va :: vb :: stk) := by
  obtain ⟨l, p, e, R, s, m, args, below, meth, c⟩ := X
  intro hO H locs ls hP hD hS hl hml
  have hx := hO.1
  have hb := hO.2.1
  exact lv_dup2_x1_2 hx hb d hva hvb (k hO H locs ls hP hD hS hl hml)

theorem g_dup2_x2_2 {va vb vd : Value} (d : decode cc pc = .ok (.dup2_x2, 1)) (hva : va.category = 2) (hvb : vb.category = 1) (hvd : vd.category = 1) (k : xG E X A Z cc own nm ret rm L f cu su (pc + 1) loc (va :: vb :: vd :: va :: stk)) : xG E X A Z cc own nm ret rm L f cu su pc loc (va :: vb :: vd :: stk) := by
  obtain ⟨l, p, e, R, s, m, args, below, meth, c⟩ := X
  intro hO H locs ls hP hD hS hl hml
  have hx := hO.1
  have hb := hO.2.1
  exact lv_dup2_x2_2 hx hb d hva hvb hvd (k hO H locs ls hP hD hS hl hml)

theorem g_goto {off : Int} (tgt : Nat) (d : decode cc pc = .ok (.goto off, 3)) (ht : (pc : Int) + off = (tgt : Int)) (k : xG E X A Z cc own nm ret rm L f cu su tgt loc stk) : xG E X A Z cc own nm ret rm L f cu su pc loc stk := by
  obtain ⟨l, p, e, R, s, m, args, below, meth, c⟩ := X
  intro hO H locs ls hP hD hS hl hml
  exact lv_goto hO.1 hO.2.1 d ht (k hO H locs ls hP hD hS hl hml)

theorem g_if_eq {x : Int32} {off : Int} (tgt : Nat) (d : decode cc pc = .ok (.ifCond .eq off, 3)) (ht : (pc : Int) + off = (tgt : Int)) (kt : (x = 0) → xG E X A Z cc own nm ret rm L f cu su tgt loc stk) (kf : ¬ (x = 0) → xG E X A Z cc own nm ret rm L f cu su (pc + 3) loc stk) : xG E X A Z cc own nm ret rm L f cu su pc loc (.int x :: stk) := by
  obtain ⟨l, p, e, R, s, m, args, below, meth, c⟩ := X
  intro hO H locs ls hP hD hS hl hml
  exact lv_if_eq hO.1 hO.2.1 d ht (fun q => kt (by first | exact q | simpa using q) hO H locs ls hP hD hS hl hml) (fun q => kf (by first | exact q | simpa using q) hO H locs ls hP hD hS hl hml)

theorem g_icmp_eq {x y : Int32} {off : Int} (tgt : Nat) (d : decode cc pc = .ok (.if_icmp .eq off, 3)) (ht : (pc : Int) + off = (tgt : Int)) (kt : (x = y) → xG E X A Z cc own nm ret rm L f cu su tgt loc stk) (kf : ¬ (x = y) → xG E X A Z cc own nm ret rm L f cu su (pc + 3) loc stk) : xG E X A Z cc own nm ret rm L f cu su pc loc (.int y :: .int x :: stk) := by
  obtain ⟨l, p, e, R, s, m, args, below, meth, c⟩ := X
  intro hO H locs ls hP hD hS hl hml
  exact lv_icmp_eq hO.1 hO.2.1 d ht (fun q => kt (by first | exact q | simpa using q) hO H locs ls hP hD hS hl hml) (fun q => kf (by first | exact q | simpa using q) hO H locs ls hP hD hS hl hml)

theorem g_if_ne {x : Int32} {off : Int} (tgt : Nat) (d : decode cc pc = .ok (.ifCond .ne off, 3)) (ht : (pc : Int) + off = (tgt : Int)) (kt : (¬ x = 0) → xG E X A Z cc own nm ret rm L f cu su tgt loc stk) (kf : ¬ (¬ x = 0) → xG E X A Z cc own nm ret rm L f cu su (pc + 3) loc stk) : xG E X A Z cc own nm ret rm L f cu su pc loc (.int x :: stk) := by
  obtain ⟨l, p, e, R, s, m, args, below, meth, c⟩ := X
  intro hO H locs ls hP hD hS hl hml
  exact lv_if_ne hO.1 hO.2.1 d ht (fun q => kt (by first | exact q | simpa using q) hO H locs ls hP hD hS hl hml) (fun q => kf (by first | exact q | simpa using q) hO H locs ls hP hD hS hl hml)

theorem g_icmp_ne {x y : Int32} {off : Int} (tgt : Nat) (d : decode cc pc = .ok (.if_icmp .ne off, 3)) (ht : (pc : Int) + off = (tgt : Int)) (kt : (¬ x = y) → xG E X A Z cc own nm ret rm L f cu su tgt loc stk) (kf : ¬ (¬ x = y) → xG E X A Z cc own nm ret rm L f cu su (pc + 3) loc stk) : xG E X A Z cc own nm ret rm L f cu su pc loc (.int y :: .int x :: stk) := by
  obtain ⟨l, p, e, R, s, m, args, below, meth, c⟩ := X
  intro hO H locs ls hP hD hS hl hml
  exact lv_icmp_ne hO.1 hO.2.1 d ht (fun q => kt (by first | exact q | simpa using q) hO H locs ls hP hD hS hl hml) (fun q => kf (by first | exact q | simpa using q) hO H locs ls hP hD hS hl hml)

theorem g_if_lt {x : Int32} {off : Int} (tgt : Nat) (d : decode cc pc = .ok (.ifCond .lt off, 3)) (ht : (pc : Int) + off = (tgt : Int)) (kt : (x < 0) → xG E X A Z cc own nm ret rm L f cu su tgt loc stk) (kf : ¬ (x < 0) → xG E X A Z cc own nm ret rm L f cu su (pc + 3) loc stk) : xG E X A Z cc own nm ret rm L f cu su pc loc (.int x :: stk) := by
  obtain ⟨l, p, e, R, s, m, args, below, meth, c⟩ := X
  intro hO H locs ls hP hD hS hl hml
  exact lv_if_lt hO.1 hO.2.1 d ht (fun q => kt (by first | exact q | simpa using q) hO H locs ls hP hD hS hl hml) (fun q => kf (by first | exact q | simpa using q) hO H locs ls hP hD hS hl hml)

theorem g_icmp_lt {x y : Int32} {off : Int} (tgt : Nat) (d : decode cc pc = .ok (.if_icmp .lt off, 3)) (ht : (pc : Int) + off = (tgt : Int)) (kt : (x < y) → xG E X A Z cc own nm ret rm L f cu su tgt loc stk) (kf : ¬ (x < y) → xG E X A Z cc own nm ret rm L f cu su (pc + 3) loc stk) : xG E X A Z cc own nm ret rm L f cu su pc loc (.int y :: .int x :: stk) := by
  obtain ⟨l, p, e, R, s, m, args, below, meth, c⟩ := X
  intro hO H locs ls hP hD hS hl hml
  exact lv_icmp_lt hO.1 hO.2.1 d ht (fun q => kt (by first | exact q | simpa using q) hO H locs ls hP hD hS hl hml) (fun q => kf (by first | exact q | simpa using q) hO H locs ls hP hD hS hl hml)

theorem g_if_ge {x : Int32} {off : Int} (tgt : Nat) (d : decode cc pc = .ok (.ifCond .ge off, 3)) (ht : (pc : Int) + off = (tgt : Int)) (kt : (0 ≤ x) → xG E X A Z cc own nm ret rm L f cu su tgt loc stk) (kf : ¬ (0 ≤ x) → xG E X A Z cc own nm ret rm L f cu su (pc + 3) loc stk) : xG E X A Z cc own nm ret rm L f cu su pc loc (.int x :: stk) := by
  obtain ⟨l, p, e, R, s, m, args, below, meth, c⟩ := X
  intro hO H locs ls hP hD hS hl hml
  exact lv_if_ge hO.1 hO.2.1 d ht (fun q => kt (by first | exact q | simpa using q) hO H locs ls hP hD hS hl hml) (fun q => kf (by first | exact q | simpa using q) hO H locs ls hP hD hS hl hml)

theorem g_icmp_ge {x y : Int32} {off : Int} (tgt : Nat) (d : decode cc pc = .ok (.if_icmp .ge off, 3)) (ht : (pc : Int) + off = (tgt : Int)) (kt : (y ≤ x) → xG E X A Z cc own nm ret rm L f cu su tgt loc stk) (kf : ¬ (y ≤ x) → xG E X A Z cc own nm ret rm L f cu su (pc + 3) loc stk) : xG E X A Z cc own nm ret rm L f cu su pc loc (.int y :: .int x :: stk) := by
  obtain ⟨l, p, e, R, s, m, args, below, meth, c⟩ := X
  intro hO H locs ls hP hD hS hl hml
  exact lv_icmp_ge hO.1 hO.2.1 d ht (fun q => kt (by first | exact q | simpa using q) hO H locs ls hP hD hS hl hml) (fun q => kf (by first | exact q | simpa using q) hO H locs ls hP hD hS hl hml)

theorem g_if_gt {x : Int32} {off : Int} (tgt : Nat) (d : decode cc pc = .ok (.ifCond .gt off, 3)) (ht : (pc : Int) + off = (tgt : Int)) (kt : (0 < x) → xG E X A Z cc own nm ret rm L f cu su tgt loc stk) (kf : ¬ (0 < x) → xG E X A Z cc own nm ret rm L f cu su (pc + 3) loc stk) : xG E X A Z cc own nm ret rm L f cu su pc loc (.int x :: stk) := by
  obtain ⟨l, p, e, R, s, m, args, below, meth, c⟩ := X
  intro hO H locs ls hP hD hS hl hml
  exact lv_if_gt hO.1 hO.2.1 d ht (fun q => kt (by first | exact q | simpa using q) hO H locs ls hP hD hS hl hml) (fun q => kf (by first | exact q | simpa using q) hO H locs ls hP hD hS hl hml)

theorem g_icmp_gt {x y : Int32} {off : Int} (tgt : Nat) (d : decode cc pc = .ok (.if_icmp .gt off, 3)) (ht : (pc : Int) + off = (tgt : Int)) (kt : (y < x) → xG E X A Z cc own nm ret rm L f cu su tgt loc stk) (kf : ¬ (y < x) → xG E X A Z cc own nm ret rm L f cu su (pc + 3) loc stk) : xG E X A Z cc own nm ret rm L f cu su pc loc (.int y :: .int x :: stk) := by
  obtain ⟨l, p, e, R, s, m, args, below, meth, c⟩ := X
  intro hO H locs ls hP hD hS hl hml
  exact lv_icmp_gt hO.1 hO.2.1 d ht (fun q => kt (by first | exact q | simpa using q) hO H locs ls hP hD hS hl hml) (fun q => kf (by first | exact q | simpa using q) hO H locs ls hP hD hS hl hml)

theorem g_if_le {x : Int32} {off : Int} (tgt : Nat) (d : decode cc pc = .ok (.ifCond .le off, 3)) (ht : (pc : Int) + off = (tgt : Int)) (kt : (x ≤ 0) → xG E X A Z cc own nm ret rm L f cu su tgt loc stk) (kf : ¬ (x ≤ 0) → xG E X A Z cc own nm ret rm L f cu su (pc + 3) loc stk) : xG E X A Z cc own nm ret rm L f cu su pc loc (.int x :: stk) := by
  obtain ⟨l, p, e, R, s, m, args, below, meth, c⟩ := X
  intro hO H locs ls hP hD hS hl hml
  exact lv_if_le hO.1 hO.2.1 d ht (fun q => kt (by first | exact q | simpa using q) hO H locs ls hP hD hS hl hml) (fun q => kf (by first | exact q | simpa using q) hO H locs ls hP hD hS hl hml)

theorem g_icmp_le {x y : Int32} {off : Int} (tgt : Nat) (d : decode cc pc = .ok (.if_icmp .le off, 3)) (ht : (pc : Int) + off = (tgt : Int)) (kt : (x ≤ y) → xG E X A Z cc own nm ret rm L f cu su tgt loc stk) (kf : ¬ (x ≤ y) → xG E X A Z cc own nm ret rm L f cu su (pc + 3) loc stk) : xG E X A Z cc own nm ret rm L f cu su pc loc (.int y :: .int x :: stk) := by
  obtain ⟨l, p, e, R, s, m, args, below, meth, c⟩ := X
  intro hO H locs ls hP hD hS hl hml
  exact lv_icmp_le hO.1 hO.2.1 d ht (fun q => kt (by first | exact q | simpa using q) hO H locs ls hP hD hS hl hml) (fun q => kf (by first | exact q | simpa using q) hO H locs ls hP hD hS hl hml)

theorem g_ifnonnull {x : Nat} {off : Int} (tgt : Nat) (d : decode cc pc = .ok (.ifnonnull off, 3)) (ht : (pc : Int) + off = (tgt : Int)) (k : xG E X A Z cc own nm ret rm L f cu su tgt loc stk) : xG E X A Z cc own nm ret rm L f cu su pc loc (.ref x :: stk) := by
  obtain ⟨l, p, e, R, s, m, args, below, meth, c⟩ := X
  intro hO H locs ls hP hD hS hl hml
  exact lv_ifnonnull hO.1 hO.2.1 d ht (k hO H locs ls hP hD hS hl hml)
theorem g_ifnull {x : Nat} {off : Int} (d : decode cc pc = .ok (.ifnull off, 3)) (k : xG E X A Z cc own nm ret rm L f cu su (pc + 3) loc stk) : xG E X A Z cc own nm ret rm L f cu su pc loc (.ref x :: stk) := by
  obtain ⟨l, p, e, R, s, m, args, below, meth, c⟩ := X
  intro hO H locs ls hP hD hS hl hml
  exact lv_ifnull hO.1 hO.2.1 d (k hO H locs ls hP hD hS hl hml)
theorem g_ifnonnullN {off : Int} (d : decode cc pc = .ok (.ifnonnull off, 3)) (k : xG E X A Z cc own nm ret rm L f cu su (pc + 3) loc stk) : xG E X A Z cc own nm ret rm L f cu su pc loc (.null :: stk) := by
  obtain ⟨l, p, e, R, s, m, args, below, meth, c⟩ := X
  intro hO H locs ls hP hD hS hl hml
  exact lv_ifnonnullN hO.1 hO.2.1 d (k hO H locs ls hP hD hS hl hml)
theorem g_ifnullN {off : Int} (tgt : Nat) (d : decode cc pc = .ok (.ifnull off, 3)) (ht : (pc : Int) + off = (tgt : Int)) (k : xG E X A Z cc own nm ret rm L f cu su tgt loc stk) : xG E X A Z cc own nm ret rm L f cu su pc loc (.null :: stk) := by
  obtain ⟨l, p, e, R, s, m, args, below, meth, c⟩ := X
  intro hO H locs ls hP hD hS hl hml
  exact lv_ifnullN hO.1 hO.2.1 d ht (k hO H locs ls hP hD hS hl hml)
theorem g_null (d : decode cc pc = .ok (.aconst_null, 1)) (k : xG E X A Z cc own nm ret rm L f cu su (pc + 1) loc (.null :: stk)) : xG E X A Z cc own nm ret rm L f cu su pc loc stk := by
  obtain ⟨l, p, e, R, s, m, args, below, meth, c⟩ := X
  intro hO H locs ls hP hD hS hl hml
  exact lv_null hO.1 hO.2.1 d (k hO H locs ls hP hD hS hl hml)
theorem g_aload_nN {i : Fin 4} (d : decode cc pc = .ok (.aload_n i, 1)) (h : loc[(i : Nat)]? = some (some .null)) (k : xG E X A Z cc own nm ret rm L f cu su (pc + 1) loc (.null :: stk)) : xG E X A Z cc own nm ret rm L f cu su pc loc stk := by
  obtain ⟨l, p, e, R, s, m, args, below, meth, c⟩ := X
  intro hO H locs ls hP hD hS hl hml
  exact lv_aload_nN hO.1 hO.2.1 d rfl (hl.2.2 _ _ h) (k hO H locs ls hP hD hS hl hml)
theorem g_aloadN {i : Nat} (d : decode cc pc = .ok (.aload i, 2)) (h : loc[i]? = some (some .null)) (k : xG E X A Z cc own nm ret rm L f cu su (pc + 2) loc (.null :: stk)) : xG E X A Z cc own nm ret rm L f cu su pc loc stk := by
  obtain ⟨l, p, e, R, s, m, args, below, meth, c⟩ := X
  intro hO H locs ls hP hD hS hl hml
  exact lv_aloadN hO.1 hO.2.1 d (hl.2.2 _ _ h) (k hO H locs ls hP hD hS hl hml)
theorem g_ldc {index : Nat} {v : Int32} (hc : Cond.constant own index v ∈ xws) (d : decode cc pc = .ok (.ldc index, 2)) (k : xG E X A Z cc own nm ret rm L f cu su (pc + 2) loc (.int v :: stk)) : xG E X A Z cc own nm ret rm L f cu su pc loc stk := by
  obtain ⟨l, p, e, R, s, m, args, below, meth, c⟩ := X
  intro hO H locs ls hP hD hS hl hml
  exact lv_ldc hO.1 hO.2.1 hO.2.2.1 (hO.2.2.2.1 _ hc) d (k hO H locs ls hP hD hS hl hml)
theorem g_ldcw {index : Nat} {v : Int32} (hc : Cond.constant own index v ∈ xws) (d : decode cc pc = .ok (.ldc_w index, 3)) (k : xG E X A Z cc own nm ret rm L f cu su (pc + 3) loc (.int v :: stk)) : xG E X A Z cc own nm ret rm L f cu su pc loc stk := by
  obtain ⟨l, p, e, R, s, m, args, below, meth, c⟩ := X
  intro hO H locs ls hP hD hS hl hml
  exact lv_ldcw hO.1 hO.2.1 hO.2.2.1 (hO.2.2.2.1 _ hc) d (k hO H locs ls hP hD hS hl hml)
theorem g_ldc2 {index : Nat} {v : Int64} (hc : Cond.constantLong own index v ∈ xws) (d : decode cc pc = .ok (.ldc2_w index, 3)) (k : xG E X A Z cc own nm ret rm L f cu su (pc + 3) loc (.long v :: stk)) : xG E X A Z cc own nm ret rm L f cu su pc loc stk := by
  obtain ⟨l, p, e, R, s, m, args, below, meth, c⟩ := X
  intro hO H locs ls hP hD hS hl hml
  exact lv_ldc2 hO.1 hO.2.1 hO.2.2.1 (hO.2.2.2.1 _ hc) d (k hO H locs ls hP hD hS hl hml)
/-- a String constant -/
theorem g_ldcS {i index : Nat} {tx : String} (ho : own = RX5) (hi : x_sref[i]? = some (index, tx)) (d : decode cc pc = .ok (.ldc index, 2)) (k : xG E X A Z cc own nm ret rm L f cu su (pc + 2) loc (.ref (E.2.2.1 i) :: stk)) : xG E X A Z cc own nm ret rm L f cu su pc loc stk := by
  obtain ⟨l, p, e, R, s, m, args, below, meth, c⟩ := X
  subst ho
  intro hO H locs ls hP hD hS hl hml
  exact va_ldcS hO.1 hO.2.1 hO.2.2.1 (hO.2.2.2.2.2.2.2.2.2.2.1.2.2.2 i _ hi) d (k hO H locs ls hP hD hS hl hml)
/-- a computed number gets a name -/
theorem g_topi {x : Int32} (k : ∀ y : Int32, y = x → xG E X A Z cc own nm ret rm L f cu su pc loc (.int y :: stk)) : xG E X A Z cc own nm ret rm L f cu su pc loc (.int x :: stk) := k x rfl
theorem g_topl {x : Int64} (k : ∀ y : Int64, y = x → xG E X A Z cc own nm ret rm L f cu su pc loc (.long y :: stk)) : xG E X A Z cc own nm ret rm L f cu su pc loc (.long x :: stk) := k x rfl
theorem g_eqi {x y : Int32} (h : x = y) (k : xG E X A Z cc own nm ret rm L f cu su pc loc (.int y :: stk)) : xG E X A Z cc own nm ret rm L f cu su pc loc (.int x :: stk) := h ▸ k
theorem g_eql {x y : Int64} (h : x = y) (k : xG E X A Z cc own nm ret rm L f cu su pc loc (.long y :: stk)) : xG E X A Z cc own nm ret rm L f cu su pc loc (.long x :: stk) := h ▸ k
/-- fewer known locals -/
theorem g_loc {loc' : List (Option Value)} (hn : loc'.length = loc.length) (h : ∀ (i : Nat) (v : Value), loc'[i]? = some (some v) → loc[i]? = some (some v)) (k : xG E X A Z cc own nm ret rm L f cu su pc loc' stk) : xG E X A Z cc own nm ret rm L f cu su pc loc stk := by
  obtain ⟨l, p, e, R, s, m, args, below, meth, c⟩ := X
  intro hO H locs ls hP hD hS hl hml
  exact k hO H locs ls hP hD hS ⟨hl.1.trans hn.symm, hl.2.1, fun i v hv => hl.2.2 i v (h i v hv)⟩ (hml.trans hn.symm)

/-- the place ahead of i holds no long -/
def xnl (loc : List (Option Value)) (i : Nat) : Bool := match i with
  | 0 => true
  | j + 1 => match loc[j]? with
    | some (some v) => v.category == 1
    | _ => true
theorem x_st1 {ls : Array Slot} {i : Nat} {v : Value} (hl : xL ls loc) (hc : v.category = 1) (hi : i < loc.length) (hn : xnl loc i = true) : ∃ ls', storeLocals ls i v = some ls' ∧ xL ls' (loc.set i (some v)) := by
  have h0 : lv_has ls loc.length ((List.range loc.length).filterMap (fun j => (loc[j]?.join).map (fun v => (j, v)))) := by
    refine ⟨hl.1, hl.2.1, fun q hq => ?_⟩
    obtain ⟨j, -, hj⟩ := List.mem_filterMap.mp hq
    cases hx : loc[j]? with
    | none => rw [hx] at hj; cases hj
    | some o =>
      cases o with
      | none => rw [hx] at hj; cases hj
      | some w =>
        rw [hx] at hj
        cases hj
        exact hl.2.2 j w hx
  obtain ⟨ls', e', h'⟩ := lv_store1 (v := v) h0 hi hc
  refine ⟨ls', e', by rw [List.length_set]; exact h'.1, h'.2.1, fun j w hw => ?_⟩
  by_cases hj : j = i
  · subst hj
    rw [List.getElem?_set_self hi] at hw
    cases hw
    exact h'.2.2 (j, v) List.mem_cons_self
  · rw [List.getElem?_set_ne (Ne.symm hj)] at hw
    refine h'.2.2 (j, w) (List.mem_cons_of_mem _ (List.mem_filter.mpr ⟨List.mem_filterMap.mpr ⟨j, List.mem_range.mpr (List.getElem?_eq_some_iff.mp hw).1, by rw [hw]; rfl⟩, ?_⟩))
    simp only [Bool.and_eq_true, Bool.not_eq_true', beq_eq_false_iff_ne, ne_eq, Bool.and_eq_false_iff]
    refine ⟨hj, ?_⟩
    by_cases h1 : j + 1 = i
    · refine Or.inr ?_
      subst h1
      simp only [xnl, hw, beq_iff_eq] at hn
      omega
    · exact Or.inl h1
theorem x_st2 {ls : Array Slot} {i : Nat} {v : Value} (hl : xL ls loc) (hc : v.category = 2) (hi : i + 1 < loc.length) (hn : xnl loc i = true) : ∃ ls', storeLocals ls i v = some ls' ∧ xL ls' ((loc.set i (some v)).set (i + 1) none) := by
  have h0 : lv_has ls loc.length ((List.range loc.length).filterMap (fun j => (loc[j]?.join).map (fun v => (j, v)))) := by
    refine ⟨hl.1, hl.2.1, fun q hq => ?_⟩
    obtain ⟨j, -, hj⟩ := List.mem_filterMap.mp hq
    cases hx : loc[j]? with
    | none => rw [hx] at hj; cases hj
    | some o =>
      cases o with
      | none => rw [hx] at hj; cases hj
      | some w =>
        rw [hx] at hj
        cases hj
        exact hl.2.2 j w hx
  obtain ⟨ls', e', h'⟩ := lv_store2 (v := v) h0 hi hc
  refine ⟨ls', e', by rw [List.length_set, List.length_set]; exact h'.1, h'.2.1, fun j w hw => ?_⟩
  by_cases hj2 : j = i + 1
  · subst hj2
    rw [List.getElem?_set_self (by rw [List.length_set]; exact hi)] at hw
    cases hw
  rw [List.getElem?_set_ne (Ne.symm hj2)] at hw
  by_cases hj : j = i
  · subst hj
    rw [List.getElem?_set_self (by omega)] at hw
    cases hw
    exact h'.2.2 (j, v) List.mem_cons_self
  · rw [List.getElem?_set_ne (Ne.symm hj)] at hw
    refine h'.2.2 (j, w) (List.mem_cons_of_mem _ (List.mem_filter.mpr ⟨List.mem_filterMap.mpr ⟨j, List.mem_range.mpr (List.getElem?_eq_some_iff.mp hw).1, by rw [hw]; rfl⟩, ?_⟩))
    simp only [Bool.and_eq_true, Bool.not_eq_true', beq_eq_false_iff_ne, ne_eq, Bool.and_eq_false_iff]
    refine ⟨hj, hj2, ?_⟩
    by_cases h1 : j + 1 = i
    · refine Or.inr ?_
      subst h1
      simp only [xnl, hw, beq_iff_eq] at hn
      omega
    · exact Or.inl h1

theorem g_istore_n {i : Fin 4} {x : Int32} (d : decode cc pc = .ok (.istore_n i, 1)) (hi : (i : Nat) < loc.length) (hn : xnl loc (i : Nat) = true) (k : xG E X A Z cc own nm ret rm L f cu su (pc + 1) (loc.set (i : Nat) (some (.int x))) stk) : xG E X A Z cc own nm ret rm L f cu su pc loc (.int x :: stk) := by
  obtain ⟨l, p, e, R, s, m, args, below, meth, c⟩ := X
  intro hO H locs ls hP hD hS hl hml
  have hx := hO.1
  have hb := hO.2.1
  obtain ⟨ls', e', h'⟩ := x_st1 (v := .int x) hl rfl hi hn
  intro T hT X
  obtain ⟨t, a, b⟩ := k hO H locs ls' hP hD hS h' (by simpa using hml) T hT X
  refine ⟨t, ?_, b⟩
  jvm_step X.here [X.here.top, ↓top_set X.here.top, hx, hb, d, e']
  exact a

theorem g_istore {i : Nat} {x : Int32} (d : decode cc pc = .ok (.istore i, 2)) (hi : i < loc.length) (hn : xnl loc i = true) (k : xG E X A Z cc own nm ret rm L f cu su (pc + 2) (loc.set i (some (.int x))) stk) : xG E X A Z cc own nm ret rm L f cu su pc loc (.int x :: stk) := by
  obtain ⟨l, p, e, R, s, m, args, below, meth, c⟩ := X
  intro hO H locs ls hP hD hS hl hml
  have hx := hO.1
  have hb := hO.2.1
  obtain ⟨ls', e', h'⟩ := x_st1 (v := .int x) hl rfl hi hn
  intro T hT X
  obtain ⟨t, a, b⟩ := k hO H locs ls' hP hD hS h' (by simpa using hml) T hT X
  refine ⟨t, ?_, b⟩
  jvm_step X.here [X.here.top, ↓top_set X.here.top, hx, hb, d, e']
  exact a

theorem g_lstore_n {i : Fin 4} {x : Int64} (d : decode cc pc = .ok (.lstore_n i, 1)) (hi : (i : Nat) + 1 < loc.length) (hn : xnl loc (i : Nat) = true) (k : xG E X A Z cc own nm ret rm L f cu su (pc + 1) ((loc.set (i : Nat) (some (.long x))).set ((i : Nat) + 1) none) stk) : xG E X A Z cc own nm ret rm L f cu su pc loc (.long x :: stk) := by
  obtain ⟨l, p, e, R, s, m, args, below, meth, c⟩ := X
  intro hO H locs ls hP hD hS hl hml
  have hx := hO.1
  have hb := hO.2.1
  obtain ⟨ls', e', h'⟩ := x_st2 (v := .long x) hl rfl hi hn
  intro T hT X
  obtain ⟨t, a, b⟩ := k hO H locs ls' hP hD hS h' (by simpa using hml) T hT X
  refine ⟨t, ?_, b⟩
  jvm_step X.here [X.here.top, ↓top_set X.here.top, hx, hb, d, e']
  exact a

theorem g_lstore {i : Nat} {x : Int64} (d : decode cc pc = .ok (.lstore i, 2)) (hi : i + 1 < loc.length) (hn : xnl loc i = true) (k : xG E X A Z cc own nm ret rm L f cu su (pc + 2) ((loc.set i (some (.long x))).set (i + 1) none) stk) : xG E X A Z cc own nm ret rm L f cu su pc loc (.long x :: stk) := by
  obtain ⟨l, p, e, R, s, m, args, below, meth, c⟩ := X
  intro hO H locs ls hP hD hS hl hml
  have hx := hO.1
  have hb := hO.2.1
  obtain ⟨ls', e', h'⟩ := x_st2 (v := .long x) hl rfl hi hn
  intro T hT X
  obtain ⟨t, a, b⟩ := k hO H locs ls' hP hD hS h' (by simpa using hml) T hT X
  refine ⟨t, ?_, b⟩
  jvm_step X.here [X.here.top, ↓top_set X.here.top, hx, hb, d, e']
  exact a

theorem g_astore_n {i : Fin 4} {x : Nat} (d : decode cc pc = .ok (.astore_n i, 1)) (hi : (i : Nat) < loc.length) (hn : xnl loc (i : Nat) = true) (k : xG E X A Z cc own nm ret rm L f cu su (pc + 1) (loc.set (i : Nat) (some (.ref x))) stk) : xG E X A Z cc own nm ret rm L f cu su pc loc (.ref x :: stk) := by
  obtain ⟨l, p, e, R, s, m, args, below, meth, c⟩ := X
  intro hO H locs ls hP hD hS hl hml
  have hx := hO.1
  have hb := hO.2.1
  obtain ⟨ls', e', h'⟩ := x_st1 (v := .ref x) hl rfl hi hn
  intro T hT X
  obtain ⟨t, a, b⟩ := k hO H locs ls' hP hD hS h' (by simpa using hml) T hT X
  refine ⟨t, ?_, b⟩
  jvm_step X.here [X.here.top, ↓top_set X.here.top, hx, hb, d, e']
  exact ⟨rfl, a⟩

theorem g_astore {i : Nat} {x : Nat} (d : decode cc pc = .ok (.astore i, 2)) (hi : i < loc.length) (hn : xnl loc i = true) (k : xG E X A Z cc own nm ret rm L f cu su (pc + 2) (loc.set i (some (.ref x))) stk) : xG E X A Z cc own nm ret rm L f cu su pc loc (.ref x :: stk) := by
  obtain ⟨l, p, e, R, s, m, args, below, meth, c⟩ := X
  intro hO H locs ls hP hD hS hl hml
  have hx := hO.1
  have hb := hO.2.1
  obtain ⟨ls', e', h'⟩ := x_st1 (v := .ref x) hl rfl hi hn
  intro T hT X
  obtain ⟨t, a, b⟩ := k hO H locs ls' hP hD hS h' (by simpa using hml) T hT X
  refine ⟨t, ?_, b⟩
  jvm_step X.here [X.here.top, ↓top_set X.here.top, hx, hb, d, e']
  exact ⟨rfl, a⟩

theorem g_astore_nN {i : Fin 4}  (d : decode cc pc = .ok (.astore_n i, 1)) (hi : (i : Nat) < loc.length) (hn : xnl loc (i : Nat) = true) (k : xG E X A Z cc own nm ret rm L f cu su (pc + 1) (loc.set (i : Nat) (some (.null))) stk) : xG E X A Z cc own nm ret rm L f cu su pc loc (.null :: stk) := by
  obtain ⟨l, p, e, R, s, m, args, below, meth, c⟩ := X
  intro hO H locs ls hP hD hS hl hml
  have hx := hO.1
  have hb := hO.2.1
  obtain ⟨ls', e', h'⟩ := x_st1 (v := .null) hl rfl hi hn
  intro T hT X
  obtain ⟨t, a, b⟩ := k hO H locs ls' hP hD hS h' (by simpa using hml) T hT X
  refine ⟨t, ?_, b⟩
  jvm_step X.here [X.here.top, ↓top_set X.here.top, hx, hb, d, e']
  exact ⟨rfl, a⟩

theorem g_astoreN {i : Nat}  (d : decode cc pc = .ok (.astore i, 2)) (hi : i < loc.length) (hn : xnl loc i = true) (k : xG E X A Z cc own nm ret rm L f cu su (pc + 2) (loc.set i (some (.null))) stk) : xG E X A Z cc own nm ret rm L f cu su pc loc (.null :: stk) := by
  obtain ⟨l, p, e, R, s, m, args, below, meth, c⟩ := X
  intro hO H locs ls hP hD hS hl hml
  have hx := hO.1
  have hb := hO.2.1
  obtain ⟨ls', e', h'⟩ := x_st1 (v := .null) hl rfl hi hn
  intro T hT X
  obtain ⟨t, a, b⟩ := k hO H locs ls' hP hD hS h' (by simpa using hml) T hT X
  refine ⟨t, ?_, b⟩
  jvm_step X.here [X.here.top, ↓top_set X.here.top, hx, hb, d, e']
  exact ⟨rfl, a⟩

theorem g_iinc {i : Nat} {n : Int} {x : Int32} (d : decode cc pc = .ok (.iinc i n, 3)) (h : loc[i]? = some (some (.int x))) (hn : xnl loc i = true) (k : xG E X A Z cc own nm ret rm L f cu su (pc + 3) (loc.set i (some (.int (x + Int32.ofInt n)))) stk) : xG E X A Z cc own nm ret rm L f cu su pc loc stk := by
  obtain ⟨l, p, e, R, s, m, args, below, meth, c⟩ := X
  intro hO H locs ls hP hD hS hl hml
  have hx := hO.1
  have hb := hO.2.1
  have hg := hl.2.2 _ _ h
  obtain ⟨ls', e', h'⟩ := x_st1 (v := .int (x + Int32.ofInt n)) hl rfl (List.getElem?_eq_some_iff.mp h).1 hn
  intro T hT X
  obtain ⟨t, a, b⟩ := k hO H locs ls' hP hD hS h' (by simpa using hml) T hT X
  refine ⟨t, ?_, b⟩
  jvm_step X.here [X.here.top, ↓top_set X.here.top, hx, hb, d, hg, e']
  exact a
end XR
end
section
/-! the heap's rows, the methods' contracts, calls -/
def xCl (ci : Nat) (q : vw_C) (ty0 : Nat → FieldType) : Prop := vwCl[ci]? = some q ∧ (∀ w ∈ u_ws q.1 q.2.1 q.2.2, w ∈ xws) ∧ (∀ k, k < q.2.2 → parseFieldDescriptor (q.2.1 k).2.2.1 = some (ty0 k)) ∧ ∀ a, a < q.2.2 → ∀ b, b < q.2.2 → a ≠ b → (q.2.1 a).2.1 ≠ (q.2.1 b).2.1
def xFL (own : String) (index ci k : Nat) (fin : Bool) (ty : FieldType) : Prop := ∃ (q : vw_C) (ty0 : Nat → FieldType), xCl ci q ty0 ∧ k < q.2.2 ∧ (q.2.1 k).2.2.2 = fin ∧ ty0 k = ty ∧ Cond.fieldLink own index (q.2.1 k).1 (q.2.1 k).2.1 (q.2.1 k).2.2.1 ∈ xws
section XH
variable {E : xE} {X : xC} {A : Nat → Prop} {Z : State → Prop} {cc : ByteArray} {own nm : String} {ret : Option FieldType} {rm : Nat × Nat × Nat} {L : List Nat} {f : Nat → va_E} {cu su pc : Nat} {loc : List (Option Value)} {stk : List Value}
theorem g_get {a index ci k : Nat} {fs : List Value} {v : Value} {fin : Bool} {ty : FieldType} (hF : xFL own index ci k fin ty) (ha : a ∈ L) (hf : f a = .inr (ci, fs)) (hv : fs[k]? = some v) (d : decode cc pc = .ok (.getfield index, 3))
    (kk : xG E X A Z cc own nm ret rm L f cu su (pc + 3) loc (v :: stk)) : xG E X A Z cc own nm ret rm L f cu su pc loc (.ref a :: stk) := by
  obtain ⟨l, p, e, R, s, m, args, below, meth, c⟩ := X
  intro hO H locs ls hP hD hS hl hml
  obtain ⟨⟨C, T, N⟩, ty0, ⟨hq, hw, ht, hn⟩, hk, -, -, hlink⟩ := hF
  obtain ⟨k9, hk9⟩ := va_pl_get (X := []) (f := f) ha
  rw [hf] at hk9
  exact va_get (C := C) (T := T) (N := N) (ws := va_pl L f) (Ts := xws) hO.1 hO.2.1 hO.2.2.2.1 hw hO.2.2.1 hO.2.2.2.2.1 hP k9 hk9 hq k hk (hO.2.2.2.1 _ hlink) (fun _ h9 => h9) hv d (kk hO H locs ls hP hD hS hl hml)
theorem g_put {a index ci k : Nat} {fs : List Value} {v : Value} {ty : FieldType} (hF : xFL own index ci k false ty) (ha : a ∈ L) (hf : f a = .inr (ci, fs)) (hk2 : k < fs.length) (hna : narrow ty v = v) (hfit : fits ty v = true) (d : decode cc pc = .ok (.putfield index, 3))
    (kk : xG E X A Z cc own nm ret rm L (va_up f a (.inr (ci, fs.set k v))) cu su (pc + 3) loc stk) : xG E X A Z cc own nm ret rm L f cu su pc loc (v :: .ref a :: stk) := by
  obtain ⟨l, p, e, R, s, m, args, below, meth, c⟩ := X
  intro hO H locs ls hP hD hS hl hml
  obtain ⟨⟨C, T, N⟩, ty0, ⟨hq, hw, ht, hn⟩, hk, hfin, hty, hlink⟩ := hF
  obtain ⟨k9, hk9⟩ := va_pl_get (X := []) (f := f) ha
  have hset := fun e => va_pl_set (X := []) (e := e) (A := A) (by exact hD) ha hk9
  rw [hf] at hk9
  refine va_put (C := C) (T := T) (N := N) (ws := va_pl L f) (Ts := xws) (ty := ty) hO.1 hO.2.1 hO.2.2.2.1 hw ty0 ht hn hO.2.2.1 hO.2.2.2.2.1 hP hD hS k9 hk9 hq k hk (hO.2.2.2.1 _ hlink) (fun _ h9 => h9) hfin (by rw [ht k hk, hty]) hna hfit hk2 d (fun H1 locs1 hP1 hD1 hS1 => ?_)
  have e1 := hset (.inr (ci, fs.set k v))
  simp only [List.nil_append] at e1
  rw [e1] at hP1 hD1
  exact kk hO H1 locs1 ls hP1 hD1 hS1 hl hml
theorem g_putF {a index ci k : Nat} {fs : List Value} {v : Value} {ty : FieldType} (hnm : nm = "<init>") (hF : xFL own index ci k true ty) (hdecl : ∀ q : vw_C, vwCl[ci]? = some q → (q.2.1 k).1 = own) (ha : a ∈ L) (hf : f a = .inr (ci, fs)) (hk2 : k < fs.length) (hna : narrow ty v = v) (hfit : fits ty v = true) (d : decode cc pc = .ok (.putfield index, 3))
    (kk : xG E X A Z cc own nm ret rm L (va_up f a (.inr (ci, fs.set k v))) cu su (pc + 3) loc stk) : xG E X A Z cc own nm ret rm L f cu su pc loc (v :: .ref a :: stk) := by
  obtain ⟨l, p, e, R, s, m, args, below, meth, c⟩ := X
  intro hO H locs ls hP hD hS hl hml
  obtain ⟨⟨C, T, N⟩, ty0, ⟨hq, hw, ht, hn⟩, hk, hfin, hty, hlink⟩ := hF
  obtain ⟨k9, hk9⟩ := va_pl_get (X := []) (f := f) ha
  have hset := fun e => va_pl_set (X := []) (e := e) (A := A) (by exact hD) ha hk9
  rw [hf] at hk9
  refine va_putF (C := C) (T := T) (N := N) (ws := va_pl L f) (Ts := xws) (ty := ty) hO.1 hO.2.1 hO.2.2.2.1 hw ty0 ht hn hO.2.2.1 hO.2.2.2.2.1 hP hD hS k9 hk9 hq k hk (hO.2.2.2.1 _ hlink) (fun _ h9 => h9) hfin (by rw [← hnm]; exact hO.2.2.2.2.2.2.2.2.2.2.2.2.2) (hdecl _ hq) (by rw [ht k hk, hty]) hna hfit hk2 d (fun H1 locs1 hP1 hD1 hS1 => ?_)
  have e1 := hset (.inr (ci, fs.set k v))
  simp only [List.nil_append] at e1
  rw [e1] at hP1 hD1
  exact kk hO H1 locs1 ls hP1 hD1 hS1 hl hml
theorem g_alen {a t0 : Nat} {x : vp_A} {v : Int32} (ha : a ∈ L) (ht0 : t0 < 8) (hf : f a = .inl (E.2.1 t0, x)) (hv : Int32.ofNat x.1 = v) (d : decode cc pc = .ok (.arraylength, 1))
    (kk : xG E X A Z cc own nm ret rm L f cu su (pc + 1) loc (.int v :: stk)) : xG E X A Z cc own nm ret rm L f cu su pc loc (.ref a :: stk) := by
  obtain ⟨l, p, e, R, s, m, args, below, meth, c⟩ := X
  intro hO H locs ls hP hD hS hl hml
  obtain ⟨k9, hk9⟩ := va_pl_get (X := []) (f := f) ha
  rw [hf] at hk9
  have ht : ∃ ty, (xtys E)[t0]? = some (E.2.1 t0, ty) := by
    match t0, ht0 with
    | 0, _ => exact ⟨_, rfl⟩
    | 1, _ => exact ⟨_, rfl⟩
    | 2, _ => exact ⟨_, rfl⟩
    | 3, _ => exact ⟨_, rfl⟩
    | 4, _ => exact ⟨_, rfl⟩
    | 5, _ => exact ⟨_, rfl⟩
    | 6, _ => exact ⟨_, rfl⟩
    | 7, _ => exact ⟨_, rfl⟩
  obtain ⟨ty, ht⟩ := ht
  exact va_alen (ws := va_pl L f) hO.1 hO.2.1 hO.2.2.2.2.1 hP k9 t0 hk9 ht hv d (kk hO H locs ls hP hD hS hl hml)
theorem g_iald {a n : Nat} {g : Nat → Int32} {i : Int32} (ha : a ∈ L) (hf : f a = .inl (E.2.1 0, n, .inl g)) (hin : vp_in i n) (d : decode cc pc = .ok (.iaload, 1))
    (kk : xG E X A Z cc own nm ret rm L f cu su (pc + 1) loc (.int (g i.toNatClampNeg) :: stk)) : xG E X A Z cc own nm ret rm L f cu su pc loc (.int i :: .ref a :: stk) := by
  obtain ⟨l, p, e, R, s, m, args, below, meth, c⟩ := X
  intro hO H locs ls hP hD hS hl hml
  obtain ⟨k9, hk9⟩ := va_pl_get (X := []) (f := f) ha
  rw [hf] at hk9
  exact va_iald (ws := va_pl L f) hO.1 hO.2.1 hO.2.2.2.2.1 hP k9 0 hk9 rfl hin d (kk hO H locs ls hP hD hS hl hml)
theorem g_bald {a n : Nat} {g : Nat → Int32} {i : Int32} (ha : a ∈ L) (hf : f a = .inl (E.2.1 2, n, .inl g)) (hin : vp_in i n) (d : decode cc pc = .ok (.baload, 1))
    (kk : xG E X A Z cc own nm ret rm L f cu su (pc + 1) loc (.int (g i.toNatClampNeg) :: stk)) : xG E X A Z cc own nm ret rm L f cu su pc loc (.int i :: .ref a :: stk) := by
  obtain ⟨l, p, e, R, s, m, args, below, meth, c⟩ := X
  intro hO H locs ls hP hD hS hl hml
  obtain ⟨k9, hk9⟩ := va_pl_get (X := []) (f := f) ha
  rw [hf] at hk9
  exact va_bald (ws := va_pl L f) hO.1 hO.2.1 hO.2.2.2.2.1 hP k9 2 hk9 rfl hin d (kk hO H locs ls hP hD hS hl hml)
theorem g_zald {a n : Nat} {g : Nat → Int32} {i : Int32} (ha : a ∈ L) (hf : f a = .inl (E.2.1 3, n, .inl g)) (hin : vp_in i n) (d : decode cc pc = .ok (.baload, 1))
    (kk : xG E X A Z cc own nm ret rm L f cu su (pc + 1) loc (.int (g i.toNatClampNeg) :: stk)) : xG E X A Z cc own nm ret rm L f cu su pc loc (.int i :: .ref a :: stk) := by
  obtain ⟨l, p, e, R, s, m, args, below, meth, c⟩ := X
  intro hO H locs ls hP hD hS hl hml
  obtain ⟨k9, hk9⟩ := va_pl_get (X := []) (f := f) ha
  rw [hf] at hk9
  exact va_zald (ws := va_pl L f) hO.1 hO.2.1 hO.2.2.2.2.1 hP k9 3 hk9 rfl hin d (kk hO H locs ls hP hD hS hl hml)
theorem g_lald {a n : Nat} {g : Nat → Int64} {i : Int32} (ha : a ∈ L) (hf : f a = .inl (E.2.1 1, n, .inr (.inl g))) (hin : vp_in i n) (d : decode cc pc = .ok (.laload, 1))
    (kk : xG E X A Z cc own nm ret rm L f cu su (pc + 1) loc (.long (g i.toNatClampNeg) :: stk)) : xG E X A Z cc own nm ret rm L f cu su pc loc (.int i :: .ref a :: stk) := by
  obtain ⟨l, p, e, R, s, m, args, below, meth, c⟩ := X
  intro hO H locs ls hP hD hS hl hml
  obtain ⟨k9, hk9⟩ := va_pl_get (X := []) (f := f) ha
  rw [hf] at hk9
  exact va_lald (ws := va_pl L f) hO.1 hO.2.1 hO.2.2.2.2.1 hP k9 1 hk9 rfl hin d (kk hO H locs ls hP hD hS hl hml)
/-- a reference out of an array of references (of objects, or of arrays) -/
theorem g_aald {a n t0 : Nat} {g : Nat → Option Nat} {i : Int32} (ht0 : 4 ≤ t0 ∧ t0 < 8) (ha : a ∈ L) (hf : f a = .inl (E.2.1 t0, n, .inr (.inr (.inr (.inr g))))) (hin : vp_in i n) (d : decode cc pc = .ok (.aaload, 1))
    (kk : xG E X A Z cc own nm ret rm L f cu su (pc + 1) loc (va_rf (g i.toNatClampNeg) :: stk)) : xG E X A Z cc own nm ret rm L f cu su pc loc (.int i :: .ref a :: stk) := by
  obtain ⟨l, p, e, R, s, m, args, below, meth, c⟩ := X
  intro hO H locs ls hP hD hS hl hml
  obtain ⟨k9, hk9⟩ := va_pl_get (X := []) (f := f) ha
  rw [hf] at hk9
  have hlt : i.toNatClampNeg < n := Nat.not_le.mp fun q => hin (Or.inr q)
  have h0 := hP k9 _ hk9
  have kk := kk hO H locs ls hP hD hS hl hml
  have hK := hO.2.2.2.2.1
  obtain ⟨ty, ht, hr⟩ : ∃ ty, (xtys E)[t0]? = some (E.2.1 t0, ty) ∧ ((∃ C, ty = .object C) ∨ ∃ t, ty = .array t) := by
    match t0, ht0.1, ht0.2 with
    | 4, _, _ => exact ⟨_, rfl, Or.inl ⟨_, rfl⟩⟩
    | 5, _, _ => exact ⟨_, rfl, Or.inl ⟨_, rfl⟩⟩
    | 6, _, _ => exact ⟨_, rfl, Or.inr ⟨_, rfl⟩⟩
    | 7, _, _ => exact ⟨_, rfl, Or.inr ⟨_, rfl⟩⟩
  have hA := (hK.2 t0 _ ht).1
  rcases hr with ⟨C, rfl⟩ | ⟨t, rfl⟩
  · exact W.aald (v := va_rf (g i.toNatClampNeg)) (ty := .object C) hO.1 hO.2.1 h0 (hA n (fun j => va_rf (g j))) rfl (fun q => by cases q) (by show ¬ (i < 0 ∨ (arrV _ _ _).slots.size ≤ _); rw [arrV_size]; exact hin) (by show (arrV _ _ _).slots[_]? = _; rw [arrV_read _ _ hlt]) rfl rfl d kk
  · exact W.aald (v := va_rf (g i.toNatClampNeg)) (ty := .array t) hO.1 hO.2.1 h0 (hA n (fun j => va_rf (g j))) rfl (fun q => by cases q) (by show ¬ (i < 0 ∨ (arrV _ _ _).slots.size ≤ _); rw [arrV_size]; exact hin) (by show (arrV _ _ _).slots[_]? = _; rw [arrV_read _ _ hlt]) rfl rfl d kk
theorem g_iast {a n : Nat} {g : Nat → Int32} {i x : Int32} (ha : a ∈ L) (hf : f a = .inl (E.2.1 0, n, .inl g)) (hin : vp_in i n) (d : decode cc pc = .ok (.iastore, 1))
    (kk : xG E X A Z cc own nm ret rm L (va_up f a (.inl (E.2.1 0, n, .inl (upd g i.toNatClampNeg x)))) cu su (pc + 1) loc stk) : xG E X A Z cc own nm ret rm L f cu su pc loc (.int x :: .int i :: .ref a :: stk) := by
  obtain ⟨l, p, e, R, s, m, args, below, meth, c⟩ := X
  intro hO H locs ls hP hD hS hl hml
  obtain ⟨k9, hk9⟩ := va_pl_get (X := []) (f := f) ha
  have hset := fun e => va_pl_set (X := []) (e := e) (A := A) (by exact hD) ha hk9
  rw [hf] at hk9
  refine va_iast (ws := va_pl L f) hO.1 hO.2.1 hO.2.2.2.2.1 hP hD hS k9 0 hk9 rfl hin d (fun H1 locs1 hP1 hD1 hS1 => ?_)
  have e1 := hset (.inl (E.2.1 0, n, .inl (upd g i.toNatClampNeg x)))
  simp only [List.nil_append] at e1
  rw [e1] at hP1 hD1
  exact kk hO H1 locs1 ls hP1 hD1 hS1 hl hml
theorem g_bast {a n : Nat} {g : Nat → Int32} {i x : Int32} (ha : a ∈ L) (hf : f a = .inl (E.2.1 2, n, .inl g)) (hin : vp_in i n) (d : decode cc pc = .ok (.bastore, 1))
    (kk : xG E X A Z cc own nm ret rm L (va_up f a (.inl (E.2.1 2, n, .inl (upd g i.toNatClampNeg (vp_nar .byte x))))) cu su (pc + 1) loc stk) : xG E X A Z cc own nm ret rm L f cu su pc loc (.int x :: .int i :: .ref a :: stk) := by
  obtain ⟨l, p, e, R, s, m, args, below, meth, c⟩ := X
  intro hO H locs ls hP hD hS hl hml
  obtain ⟨k9, hk9⟩ := va_pl_get (X := []) (f := f) ha
  have hset := fun e => va_pl_set (X := []) (e := e) (A := A) (by exact hD) ha hk9
  rw [hf] at hk9
  refine va_bast (ws := va_pl L f) hO.1 hO.2.1 hO.2.2.2.2.1 hP hD hS k9 2 hk9 rfl hin d (fun H1 locs1 hP1 hD1 hS1 => ?_)
  have e1 := hset (.inl (E.2.1 2, n, .inl (upd g i.toNatClampNeg (vp_nar .byte x))))
  simp only [List.nil_append] at e1
  rw [e1] at hP1 hD1
  exact kk hO H1 locs1 ls hP1 hD1 hS1 hl hml
theorem g_zast {a n : Nat} {g : Nat → Int32} {i x : Int32} (ha : a ∈ L) (hf : f a = .inl (E.2.1 3, n, .inl g)) (hin : vp_in i n) (d : decode cc pc = .ok (.bastore, 1))
    (kk : xG E X A Z cc own nm ret rm L (va_up f a (.inl (E.2.1 3, n, .inl (upd g i.toNatClampNeg (vp_nar .boolean x))))) cu su (pc + 1) loc stk) : xG E X A Z cc own nm ret rm L f cu su pc loc (.int x :: .int i :: .ref a :: stk) := by
  obtain ⟨l, p, e, R, s, m, args, below, meth, c⟩ := X
  intro hO H locs ls hP hD hS hl hml
  obtain ⟨k9, hk9⟩ := va_pl_get (X := []) (f := f) ha
  have hset := fun e => va_pl_set (X := []) (e := e) (A := A) (by exact hD) ha hk9
  rw [hf] at hk9
  refine va_zast (ws := va_pl L f) hO.1 hO.2.1 hO.2.2.2.2.1 hP hD hS k9 3 hk9 rfl hin d (fun H1 locs1 hP1 hD1 hS1 => ?_)
  have e1 := hset (.inl (E.2.1 3, n, .inl (upd g i.toNatClampNeg (vp_nar .boolean x))))
  simp only [List.nil_append] at e1
  rw [e1] at hP1 hD1
  exact kk hO H1 locs1 ls hP1 hD1 hS1 hl hml
theorem g_last {a n : Nat} {g : Nat → Int64} {i : Int32} {x : Int64} (ha : a ∈ L) (hf : f a = .inl (E.2.1 1, n, .inr (.inl g))) (hin : vp_in i n) (d : decode cc pc = .ok (.lastore, 1))
    (kk : xG E X A Z cc own nm ret rm L (va_up f a (.inl (E.2.1 1, n, .inr (.inl (vp_updL g i.toNatClampNeg x))))) cu su (pc + 1) loc stk) : xG E X A Z cc own nm ret rm L f cu su pc loc (.long x :: .int i :: .ref a :: stk) := by
  obtain ⟨l, p, e, R, s, m, args, below, meth, c⟩ := X
  intro hO H locs ls hP hD hS hl hml
  obtain ⟨k9, hk9⟩ := va_pl_get (X := []) (f := f) ha
  have hset := fun e => va_pl_set (X := []) (e := e) (A := A) (by exact hD) ha hk9
  rw [hf] at hk9
  refine va_last (ws := va_pl L f) hO.1 hO.2.1 hO.2.2.2.2.1 hP hD hS k9 1 hk9 rfl hin d (fun H1 locs1 hP1 hD1 hS1 => ?_)
  have e1 := hset (.inl (E.2.1 1, n, .inr (.inl (vp_updL g i.toNatClampNeg x))))
  simp only [List.nil_append] at e1
  rw [e1] at hP1 hD1
  exact kk hO H1 locs1 ls hP1 hD1 hS1 hl hml
/-- the pool's contents, told otherwise -/
theorem g_heap {f' : Nat → va_E} (h : ∀ a ∈ L, f a = f' a) (kk : xG E X A Z cc own nm ret rm L f' cu su pc loc stk) : xG E X A Z cc own nm ret rm L f cu su pc loc stk := by
  obtain ⟨l, p, e, R, s, m, args, below, meth, c⟩ := X
  intro hO H locs ls hP hD hS hl hml
  have e1 : va_pl L f = va_pl L f' := by
    unfold va_pl
    exact List.map_congr_left fun a ha => by rw [h a ha]
  rw [e1] at hP hD
  exact kk hO H locs ls hP hD hS hl hml
end XH
/-! contracts -/
def xQ (E : xE) (A : Nat → Prop) (Q : Option Value → List Nat → (Nat → va_E) → Prop) : Array Value → State → Outcome → State → Prop := fun _ st oc t =>
  (∃ (v : Option Value) (L' : List Nat) (f' : Nat → va_E), oc = .returned v ∧ Q v L' f' ∧ va_P E.1 vwCl (va_pl L' f') t.heap ∧ va_D A (va_pl L' f')) ∧ va_F A st t
def xB (E : xE) (L : List Nat) (f : Nat → va_E) (sz : Nat) (U : State) : Prop := U.heap.size = sz ∧ va_P E.1 vwCl (va_pl L f) U.heap ∧ va_K E.1 vwCl (xtys E) U ∧ va_D (fun _ => True) (va_pl L f) ∧ xExt E (va_A (va_pl L f) sz) U U.heap
/-- the contract of a method: from this world with these arguments it returns, with Q -/
def xSpec (l : Launch) (E : xE) (M : xM) (dep mc ms : Nat) (av : List Value) (L : List Nat) (f : Nat → va_E) (Q : Option Value → List Nat → (Nat → va_E) → Prop) : Prop :=
  ∀ sz : Nat, Met l M.1 (xwm M) { frames := dep, cells := mc, slots := ms, locals := 36 * dep } (va_Pc av (xB E L f sz)) (xQ E (va_A (va_pl L f) sz) Q) mc ms (va_A (va_pl L f) sz)
def xZ (E : xE) (X : xC) (A : Nat → Prop) (mc ms : Nat) (Q : Option Value → List Nat → (Nat → va_E) → Prop) : State → Prop :=
  match X with
  | (_, _, _, _, s, _, args, below, _, _) => MQ below (xQ E A Q) args s mc ms A
def xsl : List Value → List (Option Value)
  | [] => []
  | v :: t => if v.category = 2 then some v :: none :: xsl t else some v :: xsl t
def xloc (av : List Value) (n : Nat) : List (Option Value) := xsl av ++ List.replicate (n - (xsl av).length) none
theorem xsl_len (av : List Value) : (lg_sl av).length = (xsl av).length := by
  induction av with
  | nil => rfl
  | cons v t ih =>
    show ((if v.category = 2 then [.val v, .second] else [Slot.val v]) ++ lg_sl t).length = _
    unfold xsl
    split <;> simp [ih] <;> omega
theorem xsl_args (av : List Value) : ∀ (k i : Nat) (v : Value), (xsl av)[i]? = some (some v) → (k + i, v) ∈ lv_args k av := by
  induction av with
  | nil => intro k i v h; simp [xsl] at h
  | cons w t ih =>
    intro k i v h
    unfold xsl at h
    unfold lv_args
    by_cases hc : w.category = 2
    · rw [if_pos hc] at h ⊢
      match i, h with
      | 0, h => cases h; exact List.mem_cons_self
      | 1, h => cases h
      | i + 2, h =>
        have := ih (k + 2) i v h
        rw [show k + (i + 2) = k + 2 + i by omega]
        exact List.mem_cons_of_mem _ this
    · rw [if_neg hc] at h ⊢
      match i, h with
      | 0, h => cases h; exact List.mem_cons_self
      | i + 1, h =>
        have := ih (k + 1) i v h
        rw [show k + (i + 1) = k + 1 + i by omega]
        exact List.mem_cons_of_mem _ this
theorem x_spec {l : Launch} {E : xE} {y : MethodName} {cc : ByteArray} {maxL : Nat} {ret : Option FieldType} {dep mc ms : Nat} {av : List Value} {L : List Nat} {f : Nat → va_E} {Q : Option Value → List Nat → (Nat → va_E) → Prop} (own nm : String) (loc : List (Option Value)) (ho : y.cls = own) (hn : y.name = nm) (hy : plainName y.cls = true) (hloc : xloc av maxL = loc) (hlen : loc.length = maxL)
    (body : ∀ (X : xC) (A : Nat → Prop), X.1 = l → xG E X A (xZ E X A mc ms Q) cc own nm ret (dep, mc, ms) L f 0 0 0 loc []) : xSpec l E (y, cc, maxL, ret) dep mc ms av L f Q := by
  intro sz
  refine Met.ofW (cc := cc) (maxL := maxL) (ret := ret) hy rfl ?_
  intro p e s m args below meth c s₁ B hml hv
  obtain ⟨rfl, hsz, hP, hK, hD0, hE⟩ := hv
  have hts := atoms_spec (ws := xwm (y, cc, maxL, ret)) B.pre
  subst hsz
  have hD : va_D (va_A (va_pl L f) s.heap.size) (va_pl L f) := hD0.self
  have hl := lv_entry av (n := maxL) (by rw [xsl_len]; rw [← hlen, ← hloc]; simp [xloc])
  rw [lg_entry_eq]
  have hl2 : xL (lg_sl av ++ List.replicate (maxL - (lg_sl av).length) Slot.unset).toArray loc := by
    refine ⟨hl.1.trans hlen.symm, hl.2.1, fun i v h => ?_⟩
    rw [← hloc] at h
    unfold xloc at h
    by_cases hi : i < (xsl av).length
    · rw [List.getElem?_append_left hi] at h
      have := xsl_args av 0 i v h
      rw [Nat.zero_add] at this
      exact hl.2.2 _ this
    · rw [List.getElem?_append_right (by omega)] at h
      have h2 := List.mem_of_getElem? h
      have := List.eq_of_mem_replicate h2
      cases this
  have hown : s.vm.findClass own = some m.cls := by
    have := findClass_of_methodNamed B.named
    rw [← ho]; exact this
  exact body (l, p, e, (headSpec (xwm (y, cc, maxL, ret)) { frames := dep, cells := mc, slots := ms, locals := 36 * dep }).room, s, m, av.toArray, below, meth, c) (va_A (va_pl L f) s.heap.size) rfl
    ⟨B.exec, B.bytes, hown, fun w hw => hts w (List.mem_cons_of_mem _ hw), hK, Nat.le_refl _, Nat.le_refl _, Nat.le_refl _, Nat.le_refl _, fun q h => Or.inr h, hE, B.returns, B.notSynchronized, by rw [← hn]; exact (name_of_methodNamed B.named B.method).1⟩ s.heap [] _ hP hD va_S.rf hl2 (hml.trans hlen.symm)
theorem xSpec.mono {l : Launch} {E : xE} {M : xM} {dep mc ms : Nat} {av : List Value} {L : List Nat} {f : Nat → va_E} {Q Q' : Option Value → List Nat → (Nat → va_E) → Prop} (h : xSpec l E M dep mc ms av L f Q) (hQ : ∀ v L' f', Q v L' f' → Q' v L' f') : xSpec l E M dep mc ms av L f Q' := by
  intro sz p e ha hc hk s m args below hf hfit hp hk2
  obtain ⟨k, o, h1, h2, h3, ⟨⟨v, L', f', q1, q2, q3⟩, q4⟩, q5⟩ := h sz p e ha hc hk s m args below hf hfit hp hk2
  exact ⟨k, o, h1, h2, h3, ⟨⟨v, L', f', q1, hQ _ _ _ q2, q3⟩, q4⟩, q5⟩
section XC
variable {E : xE} {X : xC} {A : Nat → Prop} {Z : State → Prop} {cc : ByteArray} {own nm : String} {ret : Option FieldType} {dep mcR msR : Nat} {L : List Nat} {f : Nat → va_E} {cu su pc : Nat} {loc : List (Option Value)} {stk : List Value}
/-- what a call needs of the tables -/
def xCB (own : String) (index : Nat) (M : xM) (n : Nat) : Prop := Cond.code M.1 M.2.1 M.2.2.1 M.2.2.2 ∈ xws ∧ Cond.initialized M.1.cls ∈ xws ∧ Cond.methodLink own index M.1 ∈ xws ∧ M.1.cls ≠ "java/lang/invoke/MethodHandle" ∧ M.1.cls ≠ "java/lang/invoke/VarHandle" ∧ (parseMethodDescriptor M.1.desc).map (fun d => d.parameters.length) = some n ∧ M.2.2.1 ≤ 17
def xCV (own : String) (index : Nat) (M : xM) (n : Nat) : Prop := xCB own index M n ∧ Cond.instanceMethod M.1 ∈ xws ∧ Cond.selects M.1.cls M.1 M.1 ∈ xws
def xCS (own : String) (index : Nat) (M : xM) (n : Nat) : Prop := xCB own index M n ∧ Cond.static M.1 ∈ xws
theorem x_blind {E : xE} {av : List Value} {L : List Nat} {f : Nat → va_E} {sz : Nat} : FrameBlind (va_Pc av (xB E L f sz)) := fun a U g mk q => by
  obtain ⟨q0, q1, qP, qK, qD, qE⟩ := q
  exact ⟨q0, q1, qP, va_K.moved (u := U) (U := U.calling g mk a) (Vm.Alike.refl U.vm) qK, qD, xExt.same (s := U) (U := U.calling g mk a) rfl qE⟩
theorem x_after {l : Launch} {p : Program} {e : Env} {R : Room} {s : State} {m : MethodId} {args : Array Value} {below : List Frame} {meth : Method} {c : Code} {H : Heap} {locs : List Loc} {ls : Array Slot} {mc ms : Nat} {st0 rest : List Value} {Q : Option Value → List Nat → (Nat → va_E) → Prop} {a : Array Value} {rm : Nat × Nat × Nat}
    (hO : xOk E (l, p, e, R, s, m, args, below, meth, c) A cc own nm ret rm) (hD : va_D A (va_pl L f)) (hS : va_S A s.heap H locs) (hl : xL ls loc) (hml : c.maxLocals = loc.length)
    (hr : va_Run p l e R s m args below meth c H locs cu su mc ms (F0 m pc ls st0) rest (xQ E (va_A (va_pl L f) H.size) Q a) (va_A (va_pl L f) H.size))
    (kk : ∀ (v : Option Value) (L' : List Nat) (f' : Nat → va_E), Q v L' f' → xG E (l, p, e, R, s, m, args, below, meth, c) A Z cc own nm ret rm L' f' (cu + mc) (su + ms) (pc + 3) loc (v.toList ++ rest)) :
    W p l e R s m args below meth c H locs cu su Z (F0 m pc ls st0) := by
  have hF : ∀ q, va_A (va_pl L f) H.size q → A q := fun q h => by
    rcases h with ⟨k, e, h⟩ | h
    · exact hD.2 k (q, e) h
    · exact hO.2.2.2.2.2.2.2.2.2.1 q (Nat.le_trans hS.1 h)
  intro T hT X
  obtain ⟨v, st₀, t, T', L1, h0, X', hL, e1, e2, ⟨⟨v', L', f', hv, hp, hP1, hD1⟩, hz, hk⟩, st⟩ := hr T hT X
  cases hv
  rw [h0] at hz hk
  have hP1 : va_P E.1 vwCl (va_pl L' f') T'.heap := by rw [e1]; exact hP1
  obtain ⟨t2, a1, b1⟩ := kk v L' f' hp hO T'.heap (locs ++ L1) ls hP1 (hD1.weaken (fun k q _ h => hF q.1 h))
    ⟨Nat.le_trans hS.1 (by rw [e1]; exact hz), fun q h1 h2 => by rw [e1, hk q (Nat.lt_of_lt_of_le h1 hS.1) (fun z => h2 (hF q z))]; exact hS.2.1 q h1 h2, fun q hq => by
      rcases List.mem_append.mp hq with h | h
      · exact hS.2.2 q h
      · exact hF _ (hL q h)⟩ hl hml T' rfl X'
  exact ⟨t2, st t2 a1, b1⟩
theorem x_before {l : Launch} {p : Program} {e : Env} {R : Room} {s : State} {m : MethodId} {args : Array Value} {below : List Frame} {meth : Method} {c : Code} {H : Heap} {locs : List Loc} {av : List Value} {rm : Nat × Nat × Nat}
    (hO : xOk E (l, p, e, R, s, m, args, below, meth, c) A cc own nm ret rm) (hP : va_P E.1 vwCl (va_pl L f) H) (hD : va_D A (va_pl L f)) (hS : va_S A s.heap H locs) : ∀ U : State, U.heap = H → s.WarmedH U.vm → va_Pc av (xB E L f H.size) av.toArray U := by
  intro U hU hW
  refine ⟨rfl, by rw [hU], by rw [hU]; exact hP, va_K.moved hW.alike hO.2.2.2.2.1, hD.weaken (fun _ _ _ _ => trivial), ?_⟩
  rw [hU]
  refine ((hO.2.2.2.2.2.2.2.2.2.2.1.warm hW).kept (fun a h1 h2 => hS.2.1 a h1 h2)).narrow (fun q h => ?_)
  rcases h with ⟨k, e, h⟩ | h
  · exact hD.2 k (q, e) h
  · exact hO.2.2.2.2.2.2.2.2.2.1 q (Nat.le_trans hS.1 h)
/-- a call of a method of an object in the pool -/
theorem g_callV {index n mc ms a ci : Nat} {M : xM} {As rest : List Value} {fs : List Value} {q : vw_C} {Q : Option Value → List Nat → (Nat → va_E) → Prop} (hC : xCV own index M n) (ha : a ∈ L) (hf : f a = .inr (ci, fs)) (hq : vwCl[ci]? = some q) (hqc : q.1 = M.1.cls) (hn : As.length = n) (hst : stk = As.reverse ++ .ref a :: rest) (hroom : (rest.map fun v => v.category).sum ≤ 8) (hmc : cu + mc ≤ mcR) (hms : su + ms ≤ msR)
    (hM : xSpec X.1 E M dep mc ms (.ref a :: As) L f Q) (d : decode cc pc = .ok (.invokevirtual index, 3))
    (kk : ∀ (v : Option Value) (L' : List Nat) (f' : Nat → va_E), Q v L' f' → xG E X A Z cc own nm ret (dep + 1, mcR, msR) L' f' (cu + mc) (su + ms) (pc + 3) loc (v.toList ++ rest)) : xG E X A Z cc own nm ret (dep + 1, mcR, msR) L f cu su pc loc stk := by
  obtain ⟨l, p, e, R, s, m, args, below, meth, c⟩ := X
  intro hO H locs ls hP hD hS hl hml
  obtain ⟨⟨h1, h2, h3, h4, h5, h6, h7⟩, h8, h9⟩ := hC
  have hw := hO.2.2.2.1
  subst hst
  obtain ⟨k9, hk9⟩ := va_pl_get (X := []) (f := f) ha
  rw [hf] at hk9
  refine x_after hO hD hS hl hml (va_runV (Ts := xws) (nL := loc.length) (cc := cc) (As := As) (rest := rest) ⟨hO.1, hO.2.1, hml, hO.2.2.1, hw⟩ (hM H.size) (C := M.1.cls) (n := n) (bytes := M.2.1) (maxL := M.2.2.1) (ret := M.2.2.2) ⟨⟨rfl, rfl, ?_, ?_, pay_in hw (x_good h1), List.mem_cons_self, hw _ h1, hw _ h2, ⟨h4, h5⟩, fun sig h => ?_, hw _ h3⟩, hw _ h8, hw _ h9⟩ ⟨x_blind, ?_, x_before hO hP hD hS⟩ rfl hn hl.1 rfl (lv_room hroom) d ⟨Nat.le_trans hmc hO.2.2.2.2.2.2.2.1, Nat.le_trans hms hO.2.2.2.2.2.2.2.2.1⟩) kk
  · have := hO.2.2.2.2.2.1
    exact this
  · have := hO.2.2.2.2.2.2.1
    show 8 + (M.2.2.1 + 11) + 36 * dep ≤ R.locals
    have h0 : 36 * (dep + 1) ≤ R.locals := this
    omega
  · rw [h] at h6
    exact (Option.some.inj h6).symm
  · have := va_recv hO.2.2.2.2.1 hP hq (q0 := k9) (ws := va_pl L f) hk9
    rw [hqc] at this
    exact this
theorem g_callS {index n mc ms : Nat} {M : xM} {As rest : List Value} {Q : Option Value → List Nat → (Nat → va_E) → Prop} (hC : xCS own index M n) (hn : As.length = n) (hst : stk = As.reverse ++ rest) (hroom : (rest.map fun v => v.category).sum ≤ 8) (hmc : cu + mc ≤ mcR) (hms : su + ms ≤ msR)
    (hM : xSpec X.1 E M dep mc ms As L f Q) (d : decode cc pc = .ok (.invokestatic index, 3))
    (kk : ∀ (v : Option Value) (L' : List Nat) (f' : Nat → va_E), Q v L' f' → xG E X A Z cc own nm ret (dep + 1, mcR, msR) L' f' (cu + mc) (su + ms) (pc + 3) loc (v.toList ++ rest)) : xG E X A Z cc own nm ret (dep + 1, mcR, msR) L f cu su pc loc stk := by
  obtain ⟨l, p, e, R, s, m, args, below, meth, c⟩ := X
  intro hO H locs ls hP hD hS hl hml
  obtain ⟨⟨h1, h2, h3, h4, h5, h6, h7⟩, h8⟩ := hC
  have hw := hO.2.2.2.1
  subst hst
  refine x_after hO hD hS hl hml (va_runS (Ts := xws) (nL := loc.length) (cc := cc) (As := As) (rest := rest) ⟨hO.1, hO.2.1, hml, hO.2.2.1, hw⟩ (hM H.size) (n := n) (bytes := M.2.1) (maxL := M.2.2.1) (ret := M.2.2.2) ⟨⟨rfl, rfl, ?_, ?_, pay_in hw (x_good h1), List.mem_cons_self, hw _ h1, hw _ h2, ⟨h4, h5⟩, fun sig h => ?_, hw _ h3⟩, hw _ h8⟩ ⟨x_blind, x_before hO hP hD hS⟩ rfl hn hl.1 rfl (lv_room hroom) d ⟨Nat.le_trans hmc hO.2.2.2.2.2.2.2.1, Nat.le_trans hms hO.2.2.2.2.2.2.2.2.1⟩) kk
  · have := hO.2.2.2.2.2.1
    exact this
  · have := hO.2.2.2.2.2.2.1
    show 8 + (M.2.2.1 + 11) + 36 * dep ≤ R.locals
    have h0 : 36 * (dep + 1) ≤ R.locals := this
    omega
  · rw [h] at h6
    exact (Option.some.inj h6).symm
/-! returns -/
variable {mc ms : Nat} {Q : Option Value → List Nat → (Nat → va_E) → Prop} {rm : Nat × Nat × Nat}
theorem g_iret {v : Int32} {ty : FieldType} (hr : ret = some ty) (hnr : narrow ty (.int v) = .int v) (hc : cu ≤ mc) (hs : su ≤ ms) (d : decode cc pc = .ok (.ireturn, 1)) (hQ : Q (some (.int v)) L f) : xG E X A (xZ E X A mc ms Q) cc own nm ret rm L f cu su pc loc [.int v] := by
  obtain ⟨l, p, e, R, s, m, args, below, meth, c⟩ := X
  intro hO H locs ls hP hD hS hl hml
  refine W.widen (k := mc) (n := ms) hc hs ?_
  exact W.zret (v := v) (ty := ty) (hlocks := hO.2.2.2.2.2.2.2.2.2.2.2.2.1) hO.1 hO.2.1 (hO.2.2.2.2.2.2.2.2.2.2.2.1.trans hr) hnr (fun t ht hW => ⟨⟨_, L, f, rfl, hQ, by rw [ht]; exact hP, hD⟩, hS.F ht⟩) hS.2.2 d
theorem g_lret {v : Int64} (hr : ret = some .long) (hc : cu ≤ mc) (hs : su ≤ ms) (d : decode cc pc = .ok (.lreturn, 1)) (hQ : Q (some (.long v)) L f) : xG E X A (xZ E X A mc ms Q) cc own nm ret rm L f cu su pc loc [.long v] := by
  obtain ⟨l, p, e, R, s, m, args, below, meth, c⟩ := X
  intro hO H locs ls hP hD hS hl hml
  refine W.widen (k := mc) (n := ms) hc hs ?_
  exact W.lret (v := v) (hlocks := hO.2.2.2.2.2.2.2.2.2.2.2.2.1) hO.1 hO.2.1 (hO.2.2.2.2.2.2.2.2.2.2.2.1.trans hr) (fun t ht hW => ⟨⟨_, L, f, rfl, hQ, by rw [ht]; exact hP, hD⟩, hS.F ht⟩) hS.2.2 d
theorem g_vret (hr : ret = none) (hc : cu ≤ mc) (hs : su ≤ ms) (d : decode cc pc = .ok (.return_, 1)) (hQ : Q none L f) : xG E X A (xZ E X A mc ms Q) cc own nm ret rm L f cu su pc loc [] := by
  obtain ⟨l, p, e, R, s, m, args, below, meth, c⟩ := X
  intro hO H locs ls hP hD hS hl hml
  refine W.widen (k := mc) (n := ms) hc hs ?_
  exact W.vret (hlocks := hO.2.2.2.2.2.2.2.2.2.2.2.2.1) hO.1 hO.2.1 (hO.2.2.2.2.2.2.2.2.2.2.2.1.trans hr) (fun t ht hW => ⟨⟨_, L, f, rfl, hQ, by rw [ht]; exact hP, hD⟩, hS.F ht⟩) hS.2.2 d
theorem g_aret {v : Value} {rt : FieldType} (hr : ret = some rt) (hrt : (∃ n, rt = .object n) ∨ ∃ t, rt = .array t) (hv : v = .null ∨ ∃ a, v = .ref a) (hc : cu ≤ mc) (hs : su ≤ ms) (d : decode cc pc = .ok (.areturn, 1)) (hQ : Q (some v) L f) : xG E X A (xZ E X A mc ms Q) cc own nm ret rm L f cu su pc loc [v] := by
  obtain ⟨l, p, e, R, s, m, args, below, meth, c⟩ := X
  intro hO H locs ls hP hD hS hl hml
  refine W.widen (k := mc) (n := ms) hc hs ?_
  exact W.aret (v := v) (rt := rt) (hlocks := hO.2.2.2.2.2.2.2.2.2.2.2.2.1) hO.1 hO.2.1 (hO.2.2.2.2.2.2.2.2.2.2.2.1.trans hr) hrt hv (fun t ht hW => ⟨⟨_, L, f, rfl, hQ, by rw [ht]; exact hP, hD⟩, hS.F ht⟩) hS.2.2 d
end XC
end
