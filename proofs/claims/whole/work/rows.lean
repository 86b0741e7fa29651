section
-- ===== PART A: goes FIRST, ahead of the names: the tables' words, and 'selects' of the private methods out of them =====
/-- a private method of a class that the tables say can be made, by its rows of tables_1 -/
def lw_okq (q : MethodName × Nat) : Prop := (q.1.cls ≠ "java/lang/invoke/MethodHandle" ∧ q.1.cls ≠ "java/lang/invoke/VarHandle") ∧ Cond.instantiable q.1.cls q.2 ∈ tables_1 ∧ Cond.privateMethod q.1 ∈ tables_1 ∧ Cond.instanceMethod q.1 ∈ tables_1
theorem lw_p0 : lw_okq (⟨"PenLines", "found", "(I)I"⟩, 12) := ⟨⟨by decide +kernel, by decide +kernel⟩, List.mem_of_getElem? (i := 15) (by decide +kernel), List.mem_of_getElem? (i := 285) (by decide +kernel), List.mem_of_getElem? (i := 286) (by decide +kernel)⟩
theorem lw_p1 : lw_okq (⟨"PenLines", "fine", "(I)I"⟩, 12) := ⟨⟨by decide +kernel, by decide +kernel⟩, List.mem_of_getElem? (i := 15) (by decide +kernel), List.mem_of_getElem? (i := 297) (by decide +kernel), List.mem_of_getElem? (i := 298) (by decide +kernel)⟩
theorem lw_p2 : lw_okq (⟨"PenLines$Line", "gatherPieces", "()V"⟩, 12) := ⟨⟨by decide +kernel, by decide +kernel⟩, List.mem_of_getElem? (i := 50) (by decide +kernel), List.mem_of_getElem? (i := 340) (by decide +kernel), List.mem_of_getElem? (i := 341) (by decide +kernel)⟩
theorem lw_p3 : lw_okq (⟨"PenLines$Line", "beginInks", "()V"⟩, 12) := ⟨⟨by decide +kernel, by decide +kernel⟩, List.mem_of_getElem? (i := 50) (by decide +kernel), List.mem_of_getElem? (i := 344) (by decide +kernel), List.mem_of_getElem? (i := 345) (by decide +kernel)⟩
theorem lw_p4 : lw_okq (⟨"PenLines$Line", "joinDots", "()V"⟩, 12) := ⟨⟨by decide +kernel, by decide +kernel⟩, List.mem_of_getElem? (i := 50) (by decide +kernel), List.mem_of_getElem? (i := 348) (by decide +kernel), List.mem_of_getElem? (i := 349) (by decide +kernel)⟩
theorem lw_p5 : lw_okq (⟨"PenLines$Line", "inkUnder", "(I)I"⟩, 12) := ⟨⟨by decide +kernel, by decide +kernel⟩, List.mem_of_getElem? (i := 50) (by decide +kernel), List.mem_of_getElem? (i := 352) (by decide +kernel), List.mem_of_getElem? (i := 353) (by decide +kernel)⟩
theorem lw_p6 : lw_okq (⟨"PenLines$Line", "nearestPiece", "(II)I"⟩, 12) := ⟨⟨by decide +kernel, by decide +kernel⟩, List.mem_of_getElem? (i := 50) (by decide +kernel), List.mem_of_getElem? (i := 362) (by decide +kernel), List.mem_of_getElem? (i := 363) (by decide +kernel)⟩
theorem lw_p7 : lw_okq (⟨"PenLines", "isInk", "(I)Z"⟩, 12) := ⟨⟨by decide +kernel, by decide +kernel⟩, List.mem_of_getElem? (i := 15) (by decide +kernel), List.mem_of_getElem? (i := 378) (by decide +kernel), List.mem_of_getElem? (i := 379) (by decide +kernel)⟩
theorem lw_p8 : lw_okq (⟨"PenLines", "takeInHand", "(I)V"⟩, 12) := ⟨⟨by decide +kernel, by decide +kernel⟩, List.mem_of_getElem? (i := 15) (by decide +kernel), List.mem_of_getElem? (i := 474) (by decide +kernel), List.mem_of_getElem? (i := 475) (by decide +kernel)⟩
theorem lw_p9 : lw_okq (⟨"PenLines$Fits", "takeRow", "(LPenLines$Counts;IIZ)V"⟩, 2) := ⟨⟨by decide +kernel, by decide +kernel⟩, List.mem_of_getElem? (i := 170) (by decide +kernel), List.mem_of_getElem? (i := 496) (by decide +kernel), List.mem_of_getElem? (i := 497) (by decide +kernel)⟩
theorem lw_p10 : lw_okq (⟨"PenLines$OpenReadings", "clear", "(I)V"⟩, 5) := ⟨⟨by decide +kernel, by decide +kernel⟩, List.mem_of_getElem? (i := 185) (by decide +kernel), List.mem_of_getElem? (i := 511) (by decide +kernel), List.mem_of_getElem? (i := 512) (by decide +kernel)⟩
theorem lw_p11 : lw_okq (⟨"PenLines$OpenReadings", "extend", "(LPenLines$Counts;IIII)V"⟩, 5) := ⟨⟨by decide +kernel, by decide +kernel⟩, List.mem_of_getElem? (i := 185) (by decide +kernel), List.mem_of_getElem? (i := 519) (by decide +kernel), List.mem_of_getElem? (i := 520) (by decide +kernel)⟩
theorem lw_p12 : lw_okq (⟨"PenLines$OpenReadings", "offer", "(IIJ)V"⟩, 5) := ⟨⟨by decide +kernel, by decide +kernel⟩, List.mem_of_getElem? (i := 185) (by decide +kernel), List.mem_of_getElem? (i := 525) (by decide +kernel), List.mem_of_getElem? (i := 526) (by decide +kernel)⟩
theorem lw_p13 : lw_okq (⟨"PenLines$OpenReadings", "placeFor", "(IIJ)I"⟩, 5) := ⟨⟨by decide +kernel, by decide +kernel⟩, List.mem_of_getElem? (i := 185) (by decide +kernel), List.mem_of_getElem? (i := 529) (by decide +kernel), List.mem_of_getElem? (i := 530) (by decide +kernel)⟩
theorem lw_p14 : lw_okq (⟨"PenLines$OpenReadings", "isAhead", "(IJI)Z"⟩, 5) := ⟨⟨by decide +kernel, by decide +kernel⟩, List.mem_of_getElem? (i := 185) (by decide +kernel), List.mem_of_getElem? (i := 533) (by decide +kernel), List.mem_of_getElem? (i := 534) (by decide +kernel)⟩
theorem lw_p15 : lw_okq (⟨"PenLines$OpenReadings", "dearest", "(I)I"⟩, 5) := ⟨⟨by decide +kernel, by decide +kernel⟩, List.mem_of_getElem? (i := 185) (by decide +kernel), List.mem_of_getElem? (i := 542) (by decide +kernel), List.mem_of_getElem? (i := 543) (by decide +kernel)⟩
def lw_privs_1 : List (MethodName × Nat) := [(⟨"PenLines", "found", "(I)I"⟩, 12), (⟨"PenLines", "fine", "(I)I"⟩, 12), (⟨"PenLines$Line", "gatherPieces", "()V"⟩, 12), (⟨"PenLines$Line", "beginInks", "()V"⟩, 12), (⟨"PenLines$Line", "joinDots", "()V"⟩, 12), (⟨"PenLines$Line", "inkUnder", "(I)I"⟩, 12), (⟨"PenLines$Line", "nearestPiece", "(II)I"⟩, 12), (⟨"PenLines", "isInk", "(I)Z"⟩, 12), (⟨"PenLines", "takeInHand", "(I)V"⟩, 12), (⟨"PenLines$Fits", "takeRow", "(LPenLines$Counts;IIZ)V"⟩, 2), (⟨"PenLines$OpenReadings", "clear", "(I)V"⟩, 5), (⟨"PenLines$OpenReadings", "extend", "(LPenLines$Counts;IIII)V"⟩, 5), (⟨"PenLines$OpenReadings", "offer", "(IIJ)V"⟩, 5), (⟨"PenLines$OpenReadings", "placeFor", "(IIJ)I"⟩, 5), (⟨"PenLines$OpenReadings", "isAhead", "(IJI)Z"⟩, 5), (⟨"PenLines$OpenReadings", "dearest", "(I)I"⟩, 5)]
theorem lw_r1 : ∀ q ∈ lw_privs_1, lw_okq q := List.forall_mem_cons.mpr ⟨lw_p0, List.forall_mem_cons.mpr ⟨lw_p1, List.forall_mem_cons.mpr ⟨lw_p2, List.forall_mem_cons.mpr ⟨lw_p3, List.forall_mem_cons.mpr ⟨lw_p4, List.forall_mem_cons.mpr ⟨lw_p5, List.forall_mem_cons.mpr ⟨lw_p6, List.forall_mem_cons.mpr ⟨lw_p7, List.forall_mem_cons.mpr ⟨lw_p8, List.forall_mem_cons.mpr ⟨lw_p9, List.forall_mem_cons.mpr ⟨lw_p10, List.forall_mem_cons.mpr ⟨lw_p11, List.forall_mem_cons.mpr ⟨lw_p12, List.forall_mem_cons.mpr ⟨lw_p13, List.forall_mem_cons.mpr ⟨lw_p14, List.forall_mem_cons.mpr ⟨lw_p15, fun _ h => absurd h List.not_mem_nil⟩⟩⟩⟩⟩⟩⟩⟩⟩⟩⟩⟩⟩⟩⟩⟩
theorem lw_p16 : lw_okq (⟨"PenLines$OpenReadings", "gatherWhole", "()V"⟩, 5) := ⟨⟨by decide +kernel, by decide +kernel⟩, List.mem_of_getElem? (i := 185) (by decide +kernel), List.mem_of_getElem? (i := 551) (by decide +kernel), List.mem_of_getElem? (i := 552) (by decide +kernel)⟩
theorem lw_p17 : lw_okq (⟨"PenLines$Spelling", "costBy", "(LPenLines$Fits;IIII)I"⟩, 2) := ⟨⟨by decide +kernel, by decide +kernel⟩, List.mem_of_getElem? (i := 207) (by decide +kernel), List.mem_of_getElem? (i := 570) (by decide +kernel), List.mem_of_getElem? (i := 571) (by decide +kernel)⟩
theorem lw_p18 : lw_okq (⟨"PenLines$ListReadings", "insert", "(II)V"⟩, 3) := ⟨⟨by decide +kernel, by decide +kernel⟩, List.mem_of_getElem? (i := 221) (by decide +kernel), List.mem_of_getElem? (i := 576) (by decide +kernel), List.mem_of_getElem? (i := 577) (by decide +kernel)⟩
theorem lw_p19 : lw_okq (⟨"PenLines", "countReading", "(I)V"⟩, 12) := ⟨⟨by decide +kernel, by decide +kernel⟩, List.mem_of_getElem? (i := 15) (by decide +kernel), List.mem_of_getElem? (i := 621) (by decide +kernel), List.mem_of_getElem? (i := 622) (by decide +kernel)⟩
theorem lw_p20 : lw_okq (⟨"PenLines", "kindInHand", "()I"⟩, 12) := ⟨⟨by decide +kernel, by decide +kernel⟩, List.mem_of_getElem? (i := 15) (by decide +kernel), List.mem_of_getElem? (i := 638) (by decide +kernel), List.mem_of_getElem? (i := 639) (by decide +kernel)⟩
theorem lw_p21 : lw_okq (⟨"PenLines", "askSize", "(I)I"⟩, 12) := ⟨⟨by decide +kernel, by decide +kernel⟩, List.mem_of_getElem? (i := 15) (by decide +kernel), List.mem_of_getElem? (i := 650) (by decide +kernel), List.mem_of_getElem? (i := 651) (by decide +kernel)⟩
theorem lw_p22 : lw_okq (⟨"PenLines", "listedSize", "(I)I"⟩, 12) := ⟨⟨by decide +kernel, by decide +kernel⟩, List.mem_of_getElem? (i := 15) (by decide +kernel), List.mem_of_getElem? (i := 654) (by decide +kernel), List.mem_of_getElem? (i := 655) (by decide +kernel)⟩
theorem lw_p23 : lw_okq (⟨"PenLines", "begin", "(I)V"⟩, 12) := ⟨⟨by decide +kernel, by decide +kernel⟩, List.mem_of_getElem? (i := 15) (by decide +kernel), List.mem_of_getElem? (i := 658) (by decide +kernel), List.mem_of_getElem? (i := 659) (by decide +kernel)⟩
theorem lw_p24 : lw_okq (⟨"PenLines", "sureSize", "(I)I"⟩, 12) := ⟨⟨by decide +kernel, by decide +kernel⟩, List.mem_of_getElem? (i := 15) (by decide +kernel), List.mem_of_getElem? (i := 662) (by decide +kernel), List.mem_of_getElem? (i := 663) (by decide +kernel)⟩
theorem lw_p25 : lw_okq (⟨"PenLines", "readSize", "(I)I"⟩, 12) := ⟨⟨by decide +kernel, by decide +kernel⟩, List.mem_of_getElem? (i := 15) (by decide +kernel), List.mem_of_getElem? (i := 666) (by decide +kernel), List.mem_of_getElem? (i := 667) (by decide +kernel)⟩
theorem lw_p26 : lw_okq (⟨"PenLines", "inkSize", "(I)I"⟩, 12) := ⟨⟨by decide +kernel, by decide +kernel⟩, List.mem_of_getElem? (i := 15) (by decide +kernel), List.mem_of_getElem? (i := 670) (by decide +kernel), List.mem_of_getElem? (i := 671) (by decide +kernel)⟩
theorem lw_p27 : lw_okq (⟨"PenLines", "askMark", "(I)I"⟩, 12) := ⟨⟨by decide +kernel, by decide +kernel⟩, List.mem_of_getElem? (i := 15) (by decide +kernel), List.mem_of_getElem? (i := 674) (by decide +kernel), List.mem_of_getElem? (i := 675) (by decide +kernel)⟩
theorem lw_p28 : lw_okq (⟨"PenLines", "listedMark", "(I)I"⟩, 12) := ⟨⟨by decide +kernel, by decide +kernel⟩, List.mem_of_getElem? (i := 15) (by decide +kernel), List.mem_of_getElem? (i := 678) (by decide +kernel), List.mem_of_getElem? (i := 679) (by decide +kernel)⟩
theorem lw_p29 : lw_okq (⟨"PenLines", "sureMark", "(I)I"⟩, 12) := ⟨⟨by decide +kernel, by decide +kernel⟩, List.mem_of_getElem? (i := 15) (by decide +kernel), List.mem_of_getElem? (i := 682) (by decide +kernel), List.mem_of_getElem? (i := 683) (by decide +kernel)⟩
theorem lw_p30 : lw_okq (⟨"PenLines", "inkMark", "(I)I"⟩, 12) := ⟨⟨by decide +kernel, by decide +kernel⟩, List.mem_of_getElem? (i := 15) (by decide +kernel), List.mem_of_getElem? (i := 686) (by decide +kernel), List.mem_of_getElem? (i := 687) (by decide +kernel)⟩
theorem lw_p31 : lw_okq (⟨"PenLines$Counts", "seenFrom", "(II)I"⟩, 9) := ⟨⟨by decide +kernel, by decide +kernel⟩, List.mem_of_getElem? (i := 104) (by decide +kernel), List.mem_of_getElem? (i := 706) (by decide +kernel), List.mem_of_getElem? (i := 707) (by decide +kernel)⟩
def lw_privs_2 : List (MethodName × Nat) := [(⟨"PenLines$OpenReadings", "gatherWhole", "()V"⟩, 5), (⟨"PenLines$Spelling", "costBy", "(LPenLines$Fits;IIII)I"⟩, 2), (⟨"PenLines$ListReadings", "insert", "(II)V"⟩, 3), (⟨"PenLines", "countReading", "(I)V"⟩, 12), (⟨"PenLines", "kindInHand", "()I"⟩, 12), (⟨"PenLines", "askSize", "(I)I"⟩, 12), (⟨"PenLines", "listedSize", "(I)I"⟩, 12), (⟨"PenLines", "begin", "(I)V"⟩, 12), (⟨"PenLines", "sureSize", "(I)I"⟩, 12), (⟨"PenLines", "readSize", "(I)I"⟩, 12), (⟨"PenLines", "inkSize", "(I)I"⟩, 12), (⟨"PenLines", "askMark", "(I)I"⟩, 12), (⟨"PenLines", "listedMark", "(I)I"⟩, 12), (⟨"PenLines", "sureMark", "(I)I"⟩, 12), (⟨"PenLines", "inkMark", "(I)I"⟩, 12), (⟨"PenLines$Counts", "seenFrom", "(II)I"⟩, 9)]
theorem lw_r2 : ∀ q ∈ lw_privs_2, lw_okq q := List.forall_mem_cons.mpr ⟨lw_p16, List.forall_mem_cons.mpr ⟨lw_p17, List.forall_mem_cons.mpr ⟨lw_p18, List.forall_mem_cons.mpr ⟨lw_p19, List.forall_mem_cons.mpr ⟨lw_p20, List.forall_mem_cons.mpr ⟨lw_p21, List.forall_mem_cons.mpr ⟨lw_p22, List.forall_mem_cons.mpr ⟨lw_p23, List.forall_mem_cons.mpr ⟨lw_p24, List.forall_mem_cons.mpr ⟨lw_p25, List.forall_mem_cons.mpr ⟨lw_p26, List.forall_mem_cons.mpr ⟨lw_p27, List.forall_mem_cons.mpr ⟨lw_p28, List.forall_mem_cons.mpr ⟨lw_p29, List.forall_mem_cons.mpr ⟨lw_p30, List.forall_mem_cons.mpr ⟨lw_p31, fun _ h => absurd h List.not_mem_nil⟩⟩⟩⟩⟩⟩⟩⟩⟩⟩⟩⟩⟩⟩⟩⟩
theorem lw_p32 : lw_okq (⟨"PenLinesModel", "finds", "(I)I"⟩, 39) := ⟨⟨by decide +kernel, by decide +kernel⟩, List.mem_of_getElem? (i := 718) (by decide +kernel), List.mem_of_getElem? (i := 856) (by decide +kernel), List.mem_of_getElem? (i := 857) (by decide +kernel)⟩
theorem lw_p33 : lw_okq (⟨"PenLinesModel", "well", "(I)I"⟩, 39) := ⟨⟨by decide +kernel, by decide +kernel⟩, List.mem_of_getElem? (i := 718) (by decide +kernel), List.mem_of_getElem? (i := 861) (by decide +kernel), List.mem_of_getElem? (i := 862) (by decide +kernel)⟩
theorem lw_p34 : lw_okq (⟨"PenLinesModel", "partLine", "()V"⟩, 39) := ⟨⟨by decide +kernel, by decide +kernel⟩, List.mem_of_getElem? (i := 718) (by decide +kernel), List.mem_of_getElem? (i := 884) (by decide +kernel), List.mem_of_getElem? (i := 885) (by decide +kernel)⟩
theorem lw_p35 : lw_okq (⟨"PenLinesModel", "forget", "()V"⟩, 39) := ⟨⟨by decide +kernel, by decide +kernel⟩, List.mem_of_getElem? (i := 718) (by decide +kernel), List.mem_of_getElem? (i := 888) (by decide +kernel), List.mem_of_getElem? (i := 889) (by decide +kernel)⟩
theorem lw_p36 : lw_okq (⟨"PenLinesModel", "away", "(II)I"⟩, 39) := ⟨⟨by decide +kernel, by decide +kernel⟩, List.mem_of_getElem? (i := 718) (by decide +kernel), List.mem_of_getElem? (i := 892) (by decide +kernel), List.mem_of_getElem? (i := 893) (by decide +kernel)⟩
theorem lw_p37 : lw_okq (⟨"PenLinesModel", "isInk", "(I)Z"⟩, 39) := ⟨⟨by decide +kernel, by decide +kernel⟩, List.mem_of_getElem? (i := 718) (by decide +kernel), List.mem_of_getElem? (i := 905) (by decide +kernel), List.mem_of_getElem? (i := 906) (by decide +kernel)⟩
theorem lw_p38 : lw_okq (⟨"PenLinesModel", "many", "(I)I"⟩, 39) := ⟨⟨by decide +kernel, by decide +kernel⟩, List.mem_of_getElem? (i := 718) (by decide +kernel), List.mem_of_getElem? (i := 909) (by decide +kernel), List.mem_of_getElem? (i := 910) (by decide +kernel)⟩
theorem lw_p39 : lw_okq (⟨"PenLinesModel", "raise", "(II)I"⟩, 39) := ⟨⟨by decide +kernel, by decide +kernel⟩, List.mem_of_getElem? (i := 718) (by decide +kernel), List.mem_of_getElem? (i := 938) (by decide +kernel), List.mem_of_getElem? (i := 939) (by decide +kernel)⟩
theorem lw_p40 : lw_okq (⟨"PenLinesModel", "inList", "()I"⟩, 39) := ⟨⟨by decide +kernel, by decide +kernel⟩, List.mem_of_getElem? (i := 718) (by decide +kernel), List.mem_of_getElem? (i := 960) (by decide +kernel), List.mem_of_getElem? (i := 961) (by decide +kernel)⟩
theorem lw_p41 : lw_okq (⟨"PenLinesModel", "spell", "(I[III)I"⟩, 39) := ⟨⟨by decide +kernel, by decide +kernel⟩, List.mem_of_getElem? (i := 718) (by decide +kernel), List.mem_of_getElem? (i := 974) (by decide +kernel), List.mem_of_getElem? (i := 975) (by decide +kernel)⟩
theorem lw_p42 : lw_okq (⟨"PenLinesModel", "cost", "(III)I"⟩, 39) := ⟨⟨by decide +kernel, by decide +kernel⟩, List.mem_of_getElem? (i := 718) (by decide +kernel), List.mem_of_getElem? (i := 979) (by decide +kernel), List.mem_of_getElem? (i := 980) (by decide +kernel)⟩
theorem lw_p43 : lw_okq (⟨"PenLinesModel", "know", "(I)V"⟩, 39) := ⟨⟨by decide +kernel, by decide +kernel⟩, List.mem_of_getElem? (i := 718) (by decide +kernel), List.mem_of_getElem? (i := 989) (by decide +kernel), List.mem_of_getElem? (i := 990) (by decide +kernel)⟩
theorem lw_p44 : lw_okq (⟨"PenLinesModel", "goOn", "(IIII)V"⟩, 39) := ⟨⟨by decide +kernel, by decide +kernel⟩, List.mem_of_getElem? (i := 718) (by decide +kernel), List.mem_of_getElem? (i := 993) (by decide +kernel), List.mem_of_getElem? (i := 994) (by decide +kernel)⟩
theorem lw_p45 : lw_okq (⟨"PenLinesModel", "hold", "(IIJ)V"⟩, 39) := ⟨⟨by decide +kernel, by decide +kernel⟩, List.mem_of_getElem? (i := 718) (by decide +kernel), List.mem_of_getElem? (i := 1000) (by decide +kernel), List.mem_of_getElem? (i := 1001) (by decide +kernel)⟩
theorem lw_p46 : lw_okq (⟨"PenLinesModel", "keep", "(IIJI)V"⟩, 39) := ⟨⟨by decide +kernel, by decide +kernel⟩, List.mem_of_getElem? (i := 718) (by decide +kernel), List.mem_of_getElem? (i := 1004) (by decide +kernel), List.mem_of_getElem? (i := 1005) (by decide +kernel)⟩
theorem lw_p47 : lw_okq (⟨"PenLinesModel", "wordCode", "()J"⟩, 39) := ⟨⟨by decide +kernel, by decide +kernel⟩, List.mem_of_getElem? (i := 718) (by decide +kernel), List.mem_of_getElem? (i := 1016) (by decide +kernel), List.mem_of_getElem? (i := 1017) (by decide +kernel)⟩
def lw_privs_3 : List (MethodName × Nat) := [(⟨"PenLinesModel", "finds", "(I)I"⟩, 39), (⟨"PenLinesModel", "well", "(I)I"⟩, 39), (⟨"PenLinesModel", "partLine", "()V"⟩, 39), (⟨"PenLinesModel", "forget", "()V"⟩, 39), (⟨"PenLinesModel", "away", "(II)I"⟩, 39), (⟨"PenLinesModel", "isInk", "(I)Z"⟩, 39), (⟨"PenLinesModel", "many", "(I)I"⟩, 39), (⟨"PenLinesModel", "raise", "(II)I"⟩, 39), (⟨"PenLinesModel", "inList", "()I"⟩, 39), (⟨"PenLinesModel", "spell", "(I[III)I"⟩, 39), (⟨"PenLinesModel", "cost", "(III)I"⟩, 39), (⟨"PenLinesModel", "know", "(I)V"⟩, 39), (⟨"PenLinesModel", "goOn", "(IIII)V"⟩, 39), (⟨"PenLinesModel", "hold", "(IIJ)V"⟩, 39), (⟨"PenLinesModel", "keep", "(IIJI)V"⟩, 39), (⟨"PenLinesModel", "wordCode", "()J"⟩, 39)]
theorem lw_r3 : ∀ q ∈ lw_privs_3, lw_okq q := List.forall_mem_cons.mpr ⟨lw_p32, List.forall_mem_cons.mpr ⟨lw_p33, List.forall_mem_cons.mpr ⟨lw_p34, List.forall_mem_cons.mpr ⟨lw_p35, List.forall_mem_cons.mpr ⟨lw_p36, List.forall_mem_cons.mpr ⟨lw_p37, List.forall_mem_cons.mpr ⟨lw_p38, List.forall_mem_cons.mpr ⟨lw_p39, List.forall_mem_cons.mpr ⟨lw_p40, List.forall_mem_cons.mpr ⟨lw_p41, List.forall_mem_cons.mpr ⟨lw_p42, List.forall_mem_cons.mpr ⟨lw_p43, List.forall_mem_cons.mpr ⟨lw_p44, List.forall_mem_cons.mpr ⟨lw_p45, List.forall_mem_cons.mpr ⟨lw_p46, List.forall_mem_cons.mpr ⟨lw_p47, fun _ h => absurd h List.not_mem_nil⟩⟩⟩⟩⟩⟩⟩⟩⟩⟩⟩⟩⟩⟩⟩⟩
theorem lw_p48 : lw_okq (⟨"PenLinesModel", "isBest", "(IIII)Z"⟩, 39) := ⟨⟨by decide +kernel, by decide +kernel⟩, List.mem_of_getElem? (i := 718) (by decide +kernel), List.mem_of_getElem? (i := 1024) (by decide +kernel), List.mem_of_getElem? (i := 1025) (by decide +kernel)⟩
theorem lw_p49 : lw_okq (⟨"PenLinesModel", "kindOf", "(I)I"⟩, 39) := ⟨⟨by decide +kernel, by decide +kernel⟩, List.mem_of_getElem? (i := 718) (by decide +kernel), List.mem_of_getElem? (i := 1036) (by decide +kernel), List.mem_of_getElem? (i := 1037) (by decide +kernel)⟩
theorem lw_p50 : lw_okq (⟨"PenLinesModel", "firstInList", "(I)I"⟩, 39) := ⟨⟨by decide +kernel, by decide +kernel⟩, List.mem_of_getElem? (i := 718) (by decide +kernel), List.mem_of_getElem? (i := 1040) (by decide +kernel), List.mem_of_getElem? (i := 1041) (by decide +kernel)⟩
theorem lw_p51 : lw_okq (⟨"PenLinesModel", "sizeOf", "(I)I"⟩, 39) := ⟨⟨by decide +kernel, by decide +kernel⟩, List.mem_of_getElem? (i := 718) (by decide +kernel), List.mem_of_getElem? (i := 1052) (by decide +kernel), List.mem_of_getElem? (i := 1053) (by decide +kernel)⟩
theorem lw_p52 : lw_okq (⟨"PenLinesModel", "begins", "(I)V"⟩, 39) := ⟨⟨by decide +kernel, by decide +kernel⟩, List.mem_of_getElem? (i := 718) (by decide +kernel), List.mem_of_getElem? (i := 1056) (by decide +kernel), List.mem_of_getElem? (i := 1057) (by decide +kernel)⟩
theorem lw_p53 : lw_okq (⟨"PenLinesModel", "mark", "(I)I"⟩, 39) := ⟨⟨by decide +kernel, by decide +kernel⟩, List.mem_of_getElem? (i := 718) (by decide +kernel), List.mem_of_getElem? (i := 1060) (by decide +kernel), List.mem_of_getElem? (i := 1061) (by decide +kernel)⟩
def lw_privs_4 : List (MethodName × Nat) := [(⟨"PenLinesModel", "isBest", "(IIII)Z"⟩, 39), (⟨"PenLinesModel", "kindOf", "(I)I"⟩, 39), (⟨"PenLinesModel", "firstInList", "(I)I"⟩, 39), (⟨"PenLinesModel", "sizeOf", "(I)I"⟩, 39), (⟨"PenLinesModel", "begins", "(I)V"⟩, 39), (⟨"PenLinesModel", "mark", "(I)I"⟩, 39)]
theorem lw_r4 : ∀ q ∈ lw_privs_4, lw_okq q := List.forall_mem_cons.mpr ⟨lw_p48, List.forall_mem_cons.mpr ⟨lw_p49, List.forall_mem_cons.mpr ⟨lw_p50, List.forall_mem_cons.mpr ⟨lw_p51, List.forall_mem_cons.mpr ⟨lw_p52, List.forall_mem_cons.mpr ⟨lw_p53, fun _ h => absurd h List.not_mem_nil⟩⟩⟩⟩⟩⟩
def lw_privs : List (MethodName × Nat) := lw_privs_1 ++ (lw_privs_2 ++ (lw_privs_3 ++ (lw_privs_4)))
def lw_tbl : List Cond := k2_sels lw_privs ++ tables_1
theorem lw_privs_ok : ∀ q ∈ lw_privs, lw_okq q := by
  show ∀ q ∈ lw_privs_1 ++ (lw_privs_2 ++ (lw_privs_3 ++ (lw_privs_4))), lw_okq q
  exact List.forall_mem_append.mpr ⟨lw_r1, List.forall_mem_append.mpr ⟨lw_r2, List.forall_mem_append.mpr ⟨lw_r3, lw_r4⟩⟩⟩
def RX0 : String := "PenLines$Counts"
def TX0 : u_T := fun k => match k with
  | 0 => ("PenLines$Counts", "counts", "[I", true)
  | 1 => ("PenLines$Counts", "formLetters", "[I", true)
  | 2 => ("PenLines$Counts", "formRows", "[I", true)
  | 3 => ("PenLines$Counts", "forms", "I", false)
  | 4 => ("PenLines$Counts", "undoSlots", "[I", true)
  | 5 => ("PenLines$Counts", "undoCounts", "[I", true)
  | 6 => ("PenLines$Counts", "undos", "I", false)
  | 7 => ("PenLines$Counts", "undosAhead", "[I", true)
  | _ => ("PenLines$Counts", "teachings", "I", false)
def tyX0 : Nat → FieldType := fun k => match k with
  | 0 => .array .int
  | 1 => .array .int
  | 2 => .array .int
  | 3 => .int
  | 4 => .array .int
  | 5 => .array .int
  | 6 => .int
  | 7 => .array .int
  | _ => .int
theorem nmX0 : ∀ a, a < 9 → ∀ b, b < 9 → a ≠ b → (TX0 a).2.1 ≠ (TX0 b).2.1 := by decide +kernel
theorem tyX0_ok : ∀ k, k < 9 → parseFieldDescriptor (TX0 k).2.2.1 = some (tyX0 k) := by decide +kernel
def RX1 : String := "PenLines$Fits"
def TX1 : u_T := fun k => match k with
  | 0 => ("PenLines$Fits", "costs", "[I", true)
  | _ => ("PenLines$Fits", "pieces", "I", false)
def tyX1 : Nat → FieldType := fun k => match k with
  | 0 => .array .int
  | _ => .int
theorem nmX1 : ∀ a, a < 2 → ∀ b, b < 2 → a ≠ b → (TX1 a).2.1 ≠ (TX1 b).2.1 := by decide +kernel
theorem tyX1_ok : ∀ k, k < 2 → parseFieldDescriptor (TX1 k).2.2.1 = some (tyX1 k) := by decide +kernel
def RX2 : String := "PenLines$Line"
def TX2 : u_T := fun k => match k with
  | 0 => ("PenLines$Line", "writtenXs", "[I", true)
  | 1 => ("PenLines$Line", "writtenShapes", "[I", true)
  | 2 => ("PenLines$Line", "written", "I", false)
  | 3 => ("PenLines$Line", "gap", "I", false)
  | 4 => ("PenLines$Line", "xs", "[I", true)
  | 5 => ("PenLines$Line", "shapes", "[I", true)
  | 6 => ("PenLines$Line", "dotsOn", "[I", true)
  | 7 => ("PenLines$Line", "pieces", "I", false)
  | 8 => ("PenLines$Line", "firsts", "[I", true)
  | 9 => ("PenLines$Line", "dotsIn", "[I", true)
  | 10 => ("PenLines$Line", "inks", "I", false)
  | _ => ("PenLines$Line", "looseDots", "I", false)
def tyX2 : Nat → FieldType := fun k => match k with
  | 0 => .array .int
  | 1 => .array .int
  | 2 => .int
  | 3 => .int
  | 4 => .array .int
  | 5 => .array .int
  | 6 => .array .int
  | 7 => .int
  | 8 => .array .int
  | 9 => .array .int
  | 10 => .int
  | _ => .int
theorem nmX2 : ∀ a, a < 12 → ∀ b, b < 12 → a ≠ b → (TX2 a).2.1 ≠ (TX2 b).2.1 := by decide +kernel
theorem tyX2_ok : ∀ k, k < 12 → parseFieldDescriptor (TX2 k).2.2.1 = some (tyX2 k) := by decide +kernel
def RX3 : String := "PenLines$ListReadings"
def TX3 : u_T := fun k => match k with
  | 0 => ("PenLines$ListReadings", "places", "[I", true)
  | 1 => ("PenLines$ListReadings", "costs", "[I", true)
  | _ => ("PenLines$ListReadings", "many", "I", false)
def tyX3 : Nat → FieldType := fun k => match k with
  | 0 => .array .int
  | 1 => .array .int
  | _ => .int
theorem nmX3 : ∀ a, a < 3 → ∀ b, b < 3 → a ≠ b → (TX3 a).2.1 ≠ (TX3 b).2.1 := by decide +kernel
theorem tyX3_ok : ∀ k, k < 3 → parseFieldDescriptor (TX3 k).2.2.1 = some (tyX3 k) := by decide +kernel
def RX4 : String := "PenLines$OpenReadings"
def TX4 : u_T := fun k => match k with
  | 0 => ("PenLines$OpenReadings", "held", "[I", true)
  | 1 => ("PenLines$OpenReadings", "costs", "[I", true)
  | 2 => ("PenLines$OpenReadings", "rests", "[J", true)
  | 3 => ("PenLines$OpenReadings", "pieces", "I", false)
  | _ => ("PenLines$OpenReadings", "toSave", "I", false)
def tyX4 : Nat → FieldType := fun k => match k with
  | 0 => .array .int
  | 1 => .array .int
  | 2 => .array .long
  | 3 => .int
  | _ => .int
theorem nmX4 : ∀ a, a < 5 → ∀ b, b < 5 → a ≠ b → (TX4 a).2.1 ≠ (TX4 b).2.1 := by decide +kernel
theorem tyX4_ok : ∀ k, k < 5 → parseFieldDescriptor (TX4 k).2.2.1 = some (tyX4 k) := by decide +kernel
def RX5 : String := "PenLines$Sheets"
def TX5 : u_T := fun k => match k with
  | 0 => ("PenLines$Sheets", "laid", "[Z", true)
  | 1 => ("PenLines$Sheets", "lanes", "[I", true)
  | 2 => ("PenLines$Sheets", "sizes", "[I", true)
  | _ => ("PenLines$Sheets", "items", "[[I", true)
def tyX5 : Nat → FieldType := fun k => match k with
  | 0 => .array .boolean
  | 1 => .array .int
  | 2 => .array .int
  | _ => .array (.array .int)
theorem nmX5 : ∀ a, a < 4 → ∀ b, b < 4 → a ≠ b → (TX5 a).2.1 ≠ (TX5 b).2.1 := by decide +kernel
theorem tyX5_ok : ∀ k, k < 4 → parseFieldDescriptor (TX5 k).2.2.1 = some (tyX5 k) := by decide +kernel
def RX6 : String := "PenLines$Spelling"
def TX6 : u_T := fun k => match k with
  | 0 => ("PenLines$Spelling", "least", "[I", true)
  | _ => ("PenLines$Spelling", "rows", "[I", true)
def tyX6 : Nat → FieldType := fun k => match k with
  | 0 => .array .int
  | _ => .array .int
theorem nmX6 : ∀ a, a < 2 → ∀ b, b < 2 → a ≠ b → (TX6 a).2.1 ≠ (TX6 b).2.1 := by decide +kernel
theorem tyX6_ok : ∀ k, k < 2 → parseFieldDescriptor (TX6 k).2.2.1 = some (tyX6 k) := by decide +kernel
def RX7 : String := "PenLines$Words"
def TX7 : u_T := fun k => match k with
  | 0 => ("PenLines$Words", "word", "J", false)
  | 1 => ("PenLines$Words", "letters", "I", false)
  | 2 => ("PenLines$Words", "inList", "[J", true)
  | _ => ("PenLines$Words", "listMany", "I", false)
def tyX7 : Nat → FieldType := fun k => match k with
  | 0 => .long
  | 1 => .int
  | 2 => .array .long
  | _ => .int
theorem nmX7 : ∀ a, a < 4 → ∀ b, b < 4 → a ≠ b → (TX7 a).2.1 ≠ (TX7 b).2.1 := by decide +kernel
theorem tyX7_ok : ∀ k, k < 4 → parseFieldDescriptor (TX7 k).2.2.1 = some (tyX7 k) := by decide +kernel
def RX8 : String := "PenLines"
def TX8 : u_T := fun k => match k with
  | 0 => ("PenLines", "sheets", "LPenLines$Sheets;", true)
  | 1 => ("PenLines", "line", "LPenLines$Line;", true)
  | 2 => ("PenLines", "counts", "LPenLines$Counts;", true)
  | 3 => ("PenLines", "words", "LPenLines$Words;", true)
  | 4 => ("PenLines", "inHand", "I", false)
  | 5 => ("PenLines", "fits", "LPenLines$Fits;", true)
  | 6 => ("PenLines", "openReadings", "LPenLines$OpenReadings;", true)
  | 7 => ("PenLines", "spelling", "LPenLines$Spelling;", true)
  | 8 => ("PenLines", "listReadings", "LPenLines$ListReadings;", true)
  | 9 => ("PenLines", "begun", "[I", true)
  | 10 => ("PenLines", "begunMany", "I", false)
  | _ => ("PenLines", "latestFinding", "I", false)
def tyX8 : Nat → FieldType := fun k => match k with
  | 0 => .object "PenLines$Sheets"
  | 1 => .object "PenLines$Line"
  | 2 => .object "PenLines$Counts"
  | 3 => .object "PenLines$Words"
  | 4 => .int
  | 5 => .object "PenLines$Fits"
  | 6 => .object "PenLines$OpenReadings"
  | 7 => .object "PenLines$Spelling"
  | 8 => .object "PenLines$ListReadings"
  | 9 => .array .int
  | 10 => .int
  | _ => .int
theorem nmX8 : ∀ a, a < 12 → ∀ b, b < 12 → a ≠ b → (TX8 a).2.1 ≠ (TX8 b).2.1 := by decide +kernel
theorem tyX8_ok : ∀ k, k < 12 → parseFieldDescriptor (TX8 k).2.2.1 = some (tyX8 k) := by decide +kernel
def RX9 : String := "PenLinesModel"
def TX9 : u_T := fun k => match k with
  | 0 => ("PenLinesModel", "lane", "[I", true)
  | 1 => ("PenLinesModel", "size", "[I", true)
  | 2 => ("PenLinesModel", "item", "[I", true)
  | 3 => ("PenLinesModel", "moving", "[I", true)
  | 4 => ("PenLinesModel", "status", "I", false)
  | 5 => ("PenLinesModel", "pieces", "I", false)
  | 6 => ("PenLinesModel", "x", "[I", true)
  | 7 => ("PenLinesModel", "shape", "[I", true)
  | 8 => ("PenLinesModel", "joined", "[I", true)
  | 9 => ("PenLinesModel", "dots", "I", false)
  | 10 => ("PenLinesModel", "dotX", "[I", true)
  | 11 => ("PenLinesModel", "loose", "I", false)
  | 12 => ("PenLinesModel", "gap", "I", false)
  | 13 => ("PenLinesModel", "inks", "I", false)
  | 14 => ("PenLinesModel", "first", "[I", true)
  | 15 => ("PenLinesModel", "inkDots", "[I", true)
  | 16 => ("PenLinesModel", "count", "[I", true)
  | 17 => ("PenLinesModel", "written", "I", false)
  | 18 => ("PenLinesModel", "changed", "[I", true)
  | 19 => ("PenLinesModel", "had", "[I", true)
  | 20 => ("PenLinesModel", "taught", "I", false)
  | 21 => ("PenLinesModel", "from", "[I", true)
  | 22 => ("PenLinesModel", "listed", "I", false)
  | 23 => ("PenLinesModel", "listLength", "[I", true)
  | 24 => ("PenLinesModel", "listLetter", "[I", true)
  | 25 => ("PenLinesModel", "letters", "I", false)
  | 26 => ("PenLinesModel", "word", "[I", true)
  | 27 => ("PenLinesModel", "trace", "[I", true)
  | 28 => ("PenLinesModel", "traced", "I", false)
  | 29 => ("PenLinesModel", "isKnown", "[Z", true)
  | 30 => ("PenLinesModel", "readings", "[I", true)
  | 31 => ("PenLinesModel", "readCost", "[I", true)
  | 32 => ("PenLinesModel", "readCode", "[J", true)
  | 33 => ("PenLinesModel", "readLength", "[I", true)
  | 34 => ("PenLinesModel", "least", "[I", true)
  | 35 => ("PenLinesModel", "held", "[I", true)
  | 36 => ("PenLinesModel", "heldCost", "[I", true)
  | 37 => ("PenLinesModel", "heldCode", "[J", true)
  | _ => ("PenLinesModel", "rowLength", "[I", true)
def tyX9 : Nat → FieldType := fun k => match k with
  | 0 => .array .int
  | 1 => .array .int
  | 2 => .array .int
  | 3 => .array .int
  | 4 => .int
  | 5 => .int
  | 6 => .array .int
  | 7 => .array .int
  | 8 => .array .int
  | 9 => .int
  | 10 => .array .int
  | 11 => .int
  | 12 => .int
  | 13 => .int
  | 14 => .array .int
  | 15 => .array .int
  | 16 => .array .int
  | 17 => .int
  | 18 => .array .int
  | 19 => .array .int
  | 20 => .int
  | 21 => .array .int
  | 22 => .int
  | 23 => .array .int
  | 24 => .array .int
  | 25 => .int
  | 26 => .array .int
  | 27 => .array .int
  | 28 => .int
  | 29 => .array .boolean
  | 30 => .array .int
  | 31 => .array .int
  | 32 => .array .long
  | 33 => .array .int
  | 34 => .array .int
  | 35 => .array .int
  | 36 => .array .int
  | 37 => .array .long
  | _ => .array .int
theorem nmX9 : ∀ a, a < 39 → ∀ b, b < 39 → a ≠ b → (TX9 a).2.1 ≠ (TX9 b).2.1 := by decide +kernel
theorem tyX9_ok : ∀ k, k < 39 → parseFieldDescriptor (TX9 k).2.2.1 = some (tyX9 k) := by decide +kernel
def RJ7 : String := "java/util/Arrays"
def RL : String := "PenLinesLaw"
abbrev cX0_slotOf : ByteArray := prog_2_method_2_code
def yX0_slotOf : MethodName := ⟨RX0, "slotOf", "(II)I"⟩
abbrev cX0_slotMadeFor : ByteArray := prog_2_method_3_code
def yX0_slotMadeFor : MethodName := ⟨RX0, "slotMadeFor", "(II)I"⟩
abbrev cX0_raise : ByteArray := prog_2_method_4_code
def yX0_raise : MethodName := ⟨RX0, "raise", "(II)I"⟩
abbrev cX0_beginTeaching : ByteArray := prog_2_method_5_code
def yX0_beginTeaching : MethodName := ⟨RX0, "beginTeaching", "()V"⟩
abbrev cX0_undoTeaching : ByteArray := prog_2_method_6_code
def yX0_undoTeaching : MethodName := ⟨RX0, "undoTeaching", "()V"⟩
abbrev cX0_pairCost : ByteArray := prog_2_method_7_code
def yX0_pairCost : MethodName := ⟨RX0, "pairCost", "(II)I"⟩
abbrev cX0_formsSeen : ByteArray := prog_2_method_8_code
def yX0_formsSeen : MethodName := ⟨RX0, "formsSeen", "()I"⟩
abbrev cX0_pairsSeen : ByteArray := prog_2_method_9_code
def yX0_pairsSeen : MethodName := ⟨RX0, "pairsSeen", "()I"⟩
abbrev cX0_seenFrom : ByteArray := prog_2_method_10_code
def yX0_seenFrom : MethodName := ⟨RX0, "seenFrom", "(II)I"⟩
abbrev cX1_take : ByteArray := prog_3_method_2_code
def yX1_take : MethodName := ⟨RX1, "take", "(LPenLines$Line;ILPenLines$Counts;)V"⟩
abbrev cX1_takeRow : ByteArray := prog_3_method_3_code
def yX1_takeRow : MethodName := ⟨RX1, "takeRow", "(LPenLines$Counts;IIZ)V"⟩
abbrev cX1_dotCost : ByteArray := prog_3_method_4_code
def yX1_dotCost : MethodName := ⟨RX1, "dotCost", "(IZ)I"⟩
abbrev cX1_place : ByteArray := prog_3_method_5_code
def yX1_place : MethodName := ⟨RX1, "place", "(III)I"⟩
abbrev cX1_cost : ByteArray := prog_3_method_6_code
def yX1_cost : MethodName := ⟨RX1, "cost", "(III)I"⟩
abbrev cX2_write : ByteArray := prog_4_method_2_code
def yX2_write : MethodName := ⟨RX2, "write", "([III)V"⟩
abbrev cX2_part : ByteArray := prog_4_method_3_code
def yX2_part : MethodName := ⟨RX2, "part", "()V"⟩
abbrev cX2_gatherPieces : ByteArray := prog_4_method_4_code
def yX2_gatherPieces : MethodName := ⟨RX2, "gatherPieces", "()V"⟩
abbrev cX2_beginInks : ByteArray := prog_4_method_5_code
def yX2_beginInks : MethodName := ⟨RX2, "beginInks", "()V"⟩
abbrev cX2_joinDots : ByteArray := prog_4_method_6_code
def yX2_joinDots : MethodName := ⟨RX2, "joinDots", "()V"⟩
abbrev cX2_inkUnder : ByteArray := prog_4_method_7_code
def yX2_inkUnder : MethodName := ⟨RX2, "inkUnder", "(I)I"⟩
abbrev cX2_nearestPiece : ByteArray := prog_4_method_8_code
def yX2_nearestPiece : MethodName := ⟨RX2, "nearestPiece", "(II)I"⟩
abbrev cX2_piecesOf : ByteArray := prog_4_method_9_code
def yX2_piecesOf : MethodName := ⟨RX2, "piecesOf", "(I)I"⟩
abbrev cX2_rowCodeAt : ByteArray := prog_4_method_10_code
def yX2_rowCodeAt : MethodName := ⟨RX2, "rowCodeAt", "(II)I"⟩
abbrev cX2_hasDot : ByteArray := prog_4_method_11_code
def yX2_hasDot : MethodName := ⟨RX2, "hasDot", "(II)Z"⟩
abbrev cX3_read : ByteArray := prog_5_method_2_code
def yX3_read : MethodName := ⟨RX3, "read", "(LPenLines$Fits;LPenLines$Words;LPenLines$Spelling;)V"⟩
abbrev cX3_insert : ByteArray := prog_5_method_3_code
def yX3_insert : MethodName := ⟨RX3, "insert", "(II)V"⟩
abbrev cX4_read : ByteArray := prog_6_method_2_code
def yX4_read : MethodName := ⟨RX4, "read", "(LPenLines$Fits;LPenLines$Counts;)V"⟩
abbrev cX4_heap : ByteArray := prog_6_method_3_code
def yX4_heap : MethodName := ⟨RX4, "heap", "(III)I"⟩
abbrev cX4_clear : ByteArray := prog_6_method_4_code
def yX4_clear : MethodName := ⟨RX4, "clear", "(I)V"⟩
abbrev cX4_extend : ByteArray := prog_6_method_5_code
def yX4_extend : MethodName := ⟨RX4, "extend", "(LPenLines$Counts;IIII)V"⟩
abbrev cX4_dearest : ByteArray := prog_6_method_6_code
def yX4_dearest : MethodName := ⟨RX4, "dearest", "(I)I"⟩
abbrev cX4_gatherWhole : ByteArray := prog_6_method_7_code
def yX4_gatherWhole : MethodName := ⟨RX4, "gatherWhole", "()V"⟩
abbrev cX4_offer : ByteArray := prog_6_method_8_code
def yX4_offer : MethodName := ⟨RX4, "offer", "(IIJ)V"⟩
abbrev cX4_placeFor : ByteArray := prog_6_method_9_code
def yX4_placeFor : MethodName := ⟨RX4, "placeFor", "(IIJ)I"⟩
abbrev cX4_isAhead : ByteArray := prog_6_method_10_code
def yX4_isAhead : MethodName := ⟨RX4, "isAhead", "(IJI)Z"⟩
abbrev cX4_told : ByteArray := prog_6_method_11_code
def yX4_told : MethodName := ⟨RX4, "told", "()I"⟩
abbrev cX4_cost : ByteArray := prog_6_method_12_code
def yX4_cost : MethodName := ⟨RX4, "cost", "(I)I"⟩
abbrev cX4_word : ByteArray := prog_6_method_13_code
def yX4_word : MethodName := ⟨RX4, "word", "(I)J"⟩
abbrev cX4_tell : ByteArray := prog_6_method_14_code
def yX4_tell : MethodName := ⟨RX4, "tell", "(J)Z"⟩
abbrev cX5_lay : ByteArray := prog_7_method_2_code
def yX5_lay : MethodName := ⟨RX5, "lay", "(III)V"⟩
abbrev cX5_reaches : ByteArray := prog_7_method_3_code
def yX5_reaches : MethodName := ⟨RX5, "reaches", "(III)Z"⟩
abbrev cX5_put : ByteArray := prog_7_method_4_code
def yX5_put : MethodName := ⟨RX5, "put", "(III)I"⟩
abbrev cX5_holdsPieces : ByteArray := prog_7_method_5_code
def yX5_holdsPieces : MethodName := ⟨RX5, "holdsPieces", "(III)Z"⟩
abbrev cX5_many : ByteArray := prog_7_method_6_code
def yX5_many : MethodName := ⟨RX5, "many", "()I"⟩
abbrev cX6_cost : ByteArray := prog_8_method_2_code
def yX6_cost : MethodName := ⟨RX6, "cost", "(LPenLines$Fits;J)I"⟩
abbrev cX6_costBy : ByteArray := prog_8_method_3_code
def yX6_costBy : MethodName := ⟨RX6, "costBy", "(LPenLines$Fits;IIII)I"⟩
abbrev cX6_chooseRows : ByteArray := prog_8_method_4_code
def yX6_chooseRows : MethodName := ⟨RX6, "chooseRows", "(LPenLines$Fits;J)V"⟩
abbrev cX7_append : ByteArray := prog_9_method_2_code
def yX7_append : MethodName := ⟨RX7, "append", "(I)V"⟩
abbrev cX7_clear : ByteArray := prog_9_method_3_code
def yX7_clear : MethodName := ⟨RX7, "clear", "()I"⟩
abbrev cX7_placeOf : ByteArray := prog_9_method_4_code
def yX7_placeOf : MethodName := ⟨RX7, "placeOf", "(J)I"⟩
abbrev cX8_sheet : ByteArray := prog_1_method_2_code
def yX8_sheet : MethodName := ⟨RX8, "sheet", "(III)I"⟩
abbrev cX8_set : ByteArray := prog_1_method_3_code
def yX8_set : MethodName := ⟨RX8, "set", "(III)I"⟩
abbrev cX8_copy : ByteArray := prog_1_method_4_code
def yX8_copy : MethodName := ⟨RX8, "copy", "(IIIII)I"⟩
abbrev cX8_drop : ByteArray := prog_1_method_5_code
def yX8_drop : MethodName := ⟨RX8, "drop", "(I)I"⟩
abbrev cX8_line : ByteArray := prog_1_method_6_code
def yX8_line : MethodName := ⟨RX8, "line", "(III)I"⟩
abbrev cX8_gap : ByteArray := prog_1_method_7_code
def yX8_gap : MethodName := ⟨RX8, "gap", "(I)I"⟩
abbrev cX8_ink : ByteArray := prog_1_method_8_code
def yX8_ink : MethodName := ⟨RX8, "ink", "(II)I"⟩
abbrev cX8_piece : ByteArray := prog_1_method_9_code
def yX8_piece : MethodName := ⟨RX8, "piece", "(III)I"⟩
abbrev cX8_loose : ByteArray := prog_1_method_10_code
def yX8_loose : MethodName := ⟨RX8, "loose", "()I"⟩
abbrev cX8_form : ByteArray := prog_1_method_11_code
def yX8_form : MethodName := ⟨RX8, "form", "(IIIIII)I"⟩
abbrev cX8_seen : ByteArray := prog_1_method_12_code
def yX8_seen : MethodName := ⟨RX8, "seen", "(IIIII)I"⟩
abbrev cX8_pair : ByteArray := prog_1_method_13_code
def yX8_pair : MethodName := ⟨RX8, "pair", "(III)I"⟩
abbrev cX8_letter : ByteArray := prog_1_method_14_code
def yX8_letter : MethodName := ⟨RX8, "letter", "(I)I"⟩
abbrev cX8_list : ByteArray := prog_1_method_15_code
def yX8_list : MethodName := ⟨RX8, "list", "()I"⟩
abbrev cX8_wipe : ByteArray := prog_1_method_16_code
def yX8_wipe : MethodName := ⟨RX8, "wipe", "()I"⟩
abbrev cX8_listed : ByteArray := prog_1_method_17_code
def yX8_listed : MethodName := ⟨RX8, "listed", "(III)I"⟩
abbrev cX8_open : ByteArray := prog_1_method_18_code
def yX8_open : MethodName := ⟨RX8, "open", "(III)I"⟩
abbrev cX8_find : ByteArray := prog_1_method_19_code
def yX8_find : MethodName := ⟨RX8, "find", "(I)I"⟩
abbrev cX8_teach : ByteArray := prog_1_method_20_code
def yX8_teach : MethodName := ⟨RX8, "teach", "(I)I"⟩
abbrev cX8_unteach : ByteArray := prog_1_method_21_code
def yX8_unteach : MethodName := ⟨RX8, "unteach", "()I"⟩
abbrev cX8_kind : ByteArray := prog_1_method_22_code
def yX8_kind : MethodName := ⟨RX8, "kind", "(I)I"⟩
abbrev cX8_as : ByteArray := prog_1_method_23_code
def yX8_as : MethodName := ⟨RX8, "as", "(II)I"⟩
abbrev cX8_ask : ByteArray := prog_1_method_24_code
def yX8_ask : MethodName := ⟨RX8, "ask", "(II)I"⟩
abbrev cX8_trace : ByteArray := prog_1_method_25_code
def yX8_trace : MethodName := ⟨RX8, "trace", "(I)I"⟩
abbrev cX8_count : ByteArray := prog_1_method_26_code
def yX8_count : MethodName := ⟨RX8, "count", "(I)I"⟩
abbrev cX8_status : ByteArray := prog_1_method_27_code
def yX8_status : MethodName := ⟨RX8, "status", "()I"⟩
abbrev cX8_found : ByteArray := prog_1_method_28_code
def yX8_found : MethodName := ⟨RX8, "found", "(I)I"⟩
abbrev cX8_fine : ByteArray := prog_1_method_29_code
def yX8_fine : MethodName := ⟨RX8, "fine", "(I)I"⟩
abbrev cX8_isSheet : ByteArray := prog_1_method_30_code
def yX8_isSheet : MethodName := ⟨RX8, "isSheet", "(I)Z"⟩
abbrev cX8_isInk : ByteArray := prog_1_method_31_code
def yX8_isInk : MethodName := ⟨RX8, "isInk", "(I)Z"⟩
abbrev cX8_isLetter : ByteArray := prog_1_method_32_code
def yX8_isLetter : MethodName := ⟨RX8, "isLetter", "(I)Z"⟩
abbrev cX8_isShape : ByteArray := prog_1_method_33_code
def yX8_isShape : MethodName := ⟨RX8, "isShape", "(I)Z"⟩
abbrev cX8_isRow : ByteArray := prog_1_method_34_code
def yX8_isRow : MethodName := ⟨RX8, "isRow", "(IIII)Z"⟩
abbrev cX8_rowCode : ByteArray := prog_1_method_35_code
def yX8_rowCode : MethodName := ⟨RX8, "rowCode", "(IIII)I"⟩
abbrev cX8_rowCodeWith : ByteArray := prog_1_method_36_code
def yX8_rowCodeWith : MethodName := ⟨RX8, "rowCodeWith", "(II)I"⟩
abbrev cX8_pairSlot : ByteArray := prog_1_method_37_code
def yX8_pairSlot : MethodName := ⟨RX8, "pairSlot", "(II)I"⟩
abbrev cX8_wordShift : ByteArray := prog_1_method_38_code
def yX8_wordShift : MethodName := ⟨RX8, "wordShift", "(I)I"⟩
abbrev cX8_letterAt : ByteArray := prog_1_method_39_code
def yX8_letterAt : MethodName := ⟨RX8, "letterAt", "(JI)I"⟩
abbrev cX8_lettersOf : ByteArray := prog_1_method_40_code
def yX8_lettersOf : MethodName := ⟨RX8, "lettersOf", "(J)I"⟩
abbrev cX8_wordWith : ByteArray := prog_1_method_41_code
def yX8_wordWith : MethodName := ⟨RX8, "wordWith", "(JII)J"⟩
abbrev cX8_takeInHand : ByteArray := prog_1_method_42_code
def yX8_takeInHand : MethodName := ⟨RX8, "takeInHand", "(I)V"⟩
abbrev cX8_countReading : ByteArray := prog_1_method_43_code
def yX8_countReading : MethodName := ⟨RX8, "countReading", "(I)V"⟩
abbrev cX8_kindInHand : ByteArray := prog_1_method_44_code
def yX8_kindInHand : MethodName := ⟨RX8, "kindInHand", "()I"⟩
abbrev cX8_begin : ByteArray := prog_1_method_45_code
def yX8_begin : MethodName := ⟨RX8, "begin", "(I)V"⟩
abbrev cX8_askSize : ByteArray := prog_1_method_46_code
def yX8_askSize : MethodName := ⟨RX8, "askSize", "(I)I"⟩
abbrev cX8_inkSize : ByteArray := prog_1_method_47_code
def yX8_inkSize : MethodName := ⟨RX8, "inkSize", "(I)I"⟩
abbrev cX8_readSize : ByteArray := prog_1_method_48_code
def yX8_readSize : MethodName := ⟨RX8, "readSize", "(I)I"⟩
abbrev cX8_sureSize : ByteArray := prog_1_method_49_code
def yX8_sureSize : MethodName := ⟨RX8, "sureSize", "(I)I"⟩
abbrev cX8_listedSize : ByteArray := prog_1_method_50_code
def yX8_listedSize : MethodName := ⟨RX8, "listedSize", "(I)I"⟩
abbrev cX8_askMark : ByteArray := prog_1_method_51_code
def yX8_askMark : MethodName := ⟨RX8, "askMark", "(I)I"⟩
abbrev cX8_inkMark : ByteArray := prog_1_method_52_code
def yX8_inkMark : MethodName := ⟨RX8, "inkMark", "(I)I"⟩
abbrev cX8_sureMark : ByteArray := prog_1_method_53_code
def yX8_sureMark : MethodName := ⟨RX8, "sureMark", "(I)I"⟩
abbrev cX8_listedMark : ByteArray := prog_1_method_54_code
def yX8_listedMark : MethodName := ⟨RX8, "listedMark", "(I)I"⟩
abbrev cX9_in : ByteArray := prog_11_method_2_code
def yX9_in : MethodName := ⟨RX9, "in", "(JJJ)Z"⟩
abbrev cX9_finds : ByteArray := prog_11_method_3_code
def yX9_finds : MethodName := ⟨RX9, "finds", "(I)I"⟩
abbrev cX9_well : ByteArray := prog_11_method_4_code
def yX9_well : MethodName := ⟨RX9, "well", "(I)I"⟩
abbrev cX9_isSheet : ByteArray := prog_11_method_5_code
def yX9_isSheet : MethodName := ⟨RX9, "isSheet", "(I)Z"⟩
abbrev cX9_sheet : ByteArray := prog_11_method_6_code
def yX9_sheet : MethodName := ⟨RX9, "sheet", "(III)I"⟩
abbrev cX9_set : ByteArray := prog_11_method_7_code
def yX9_set : MethodName := ⟨RX9, "set", "(III)I"⟩
abbrev cX9_copy : ByteArray := prog_11_method_8_code
def yX9_copy : MethodName := ⟨RX9, "copy", "(IIIII)I"⟩
abbrev cX9_drop : ByteArray := prog_11_method_9_code
def yX9_drop : MethodName := ⟨RX9, "drop", "(I)I"⟩
abbrev cX9_forget : ByteArray := prog_11_method_10_code
def yX9_forget : MethodName := ⟨RX9, "forget", "()V"⟩
abbrev cX9_partLine : ByteArray := prog_11_method_11_code
def yX9_partLine : MethodName := ⟨RX9, "partLine", "()V"⟩
abbrev cX9_away : ByteArray := prog_11_method_12_code
def yX9_away : MethodName := ⟨RX9, "away", "(II)I"⟩
abbrev cX9_line : ByteArray := prog_11_method_13_code
def yX9_line : MethodName := ⟨RX9, "line", "(III)I"⟩
abbrev cX9_gap : ByteArray := prog_11_method_14_code
def yX9_gap : MethodName := ⟨RX9, "gap", "(I)I"⟩
abbrev cX9_isInk : ByteArray := prog_11_method_15_code
def yX9_isInk : MethodName := ⟨RX9, "isInk", "(I)Z"⟩
abbrev cX9_many : ByteArray := prog_11_method_16_code
def yX9_many : MethodName := ⟨RX9, "many", "(I)I"⟩
abbrev cX9_ink : ByteArray := prog_11_method_17_code
def yX9_ink : MethodName := ⟨RX9, "ink", "(II)I"⟩
abbrev cX9_piece : ByteArray := prog_11_method_18_code
def yX9_piece : MethodName := ⟨RX9, "piece", "(III)I"⟩
abbrev cX9_loose : ByteArray := prog_11_method_19_code
def yX9_loose : MethodName := ⟨RX9, "loose", "()I"⟩
abbrev cX9_isLetter : ByteArray := prog_11_method_20_code
def yX9_isLetter : MethodName := ⟨RX9, "isLetter", "(I)Z"⟩
abbrev cX9_shapes : ByteArray := prog_11_method_21_code
def yX9_shapes : MethodName := ⟨RX9, "shapes", "(IIII)I"⟩
abbrev cX9_isForm : ByteArray := prog_11_method_22_code
def yX9_isForm : MethodName := ⟨RX9, "isForm", "(IIIII)Z"⟩
abbrev cX9_raise : ByteArray := prog_11_method_23_code
def yX9_raise : MethodName := ⟨RX9, "raise", "(II)I"⟩
abbrev cX9_form : ByteArray := prog_11_method_24_code
def yX9_form : MethodName := ⟨RX9, "form", "(IIIIII)I"⟩
abbrev cX9_seen : ByteArray := prog_11_method_25_code
def yX9_seen : MethodName := ⟨RX9, "seen", "(IIIII)I"⟩
abbrev cX9_pair : ByteArray := prog_11_method_26_code
def yX9_pair : MethodName := ⟨RX9, "pair", "(III)I"⟩
abbrev cX9_letter : ByteArray := prog_11_method_27_code
def yX9_letter : MethodName := ⟨RX9, "letter", "(I)I"⟩
abbrev cX9_inList : ByteArray := prog_11_method_28_code
def yX9_inList : MethodName := ⟨RX9, "inList", "()I"⟩
abbrev cX9_list : ByteArray := prog_11_method_29_code
def yX9_list : MethodName := ⟨RX9, "list", "()I"⟩
abbrev cX9_wipe : ByteArray := prog_11_method_30_code
def yX9_wipe : MethodName := ⟨RX9, "wipe", "()I"⟩
abbrev cX9_cost : ByteArray := prog_11_method_31_code
def yX9_cost : MethodName := ⟨RX9, "cost", "(III)I"⟩
abbrev cX9_spell : ByteArray := prog_11_method_32_code
def yX9_spell : MethodName := ⟨RX9, "spell", "(I[III)I"⟩
abbrev cX9_listed : ByteArray := prog_11_method_33_code
def yX9_listed : MethodName := ⟨RX9, "listed", "(III)I"⟩
abbrev cX9_hold : ByteArray := prog_11_method_34_code
def yX9_hold : MethodName := ⟨RX9, "hold", "(IIJ)V"⟩
abbrev cX9_state : ByteArray := prog_11_method_35_code
def yX9_state : MethodName := ⟨RX9, "state", "(III)I"⟩
abbrev cX9_goOn : ByteArray := prog_11_method_36_code
def yX9_goOn : MethodName := ⟨RX9, "goOn", "(IIII)V"⟩
abbrev cX9_isAhead : ByteArray := prog_11_method_37_code
def yX9_isAhead : MethodName := ⟨RX9, "isAhead", "(JIJI)Z"⟩
abbrev cX9_know : ByteArray := prog_11_method_38_code
def yX9_know : MethodName := ⟨RX9, "know", "(I)V"⟩
abbrev cX9_keep : ByteArray := prog_11_method_39_code
def yX9_keep : MethodName := ⟨RX9, "keep", "(IIJI)V"⟩
abbrev cX9_open : ByteArray := prog_11_method_40_code
def yX9_open : MethodName := ⟨RX9, "open", "(III)I"⟩
abbrev cX9_wordCode : ByteArray := prog_11_method_41_code
def yX9_wordCode : MethodName := ⟨RX9, "wordCode", "()J"⟩
abbrev cX9_find : ByteArray := prog_11_method_42_code
def yX9_find : MethodName := ⟨RX9, "find", "(I)I"⟩
abbrev cX9_teach : ByteArray := prog_11_method_43_code
def yX9_teach : MethodName := ⟨RX9, "teach", "(I)I"⟩
abbrev cX9_isBest : ByteArray := prog_11_method_44_code
def yX9_isBest : MethodName := ⟨RX9, "isBest", "(IIII)Z"⟩
abbrev cX9_unteach : ByteArray := prog_11_method_45_code
def yX9_unteach : MethodName := ⟨RX9, "unteach", "()I"⟩
abbrev cX9_kindOf : ByteArray := prog_11_method_46_code
def yX9_kindOf : MethodName := ⟨RX9, "kindOf", "(I)I"⟩
abbrev cX9_firstInList : ByteArray := prog_11_method_47_code
def yX9_firstInList : MethodName := ⟨RX9, "firstInList", "(I)I"⟩
abbrev cX9_kind : ByteArray := prog_11_method_48_code
def yX9_kind : MethodName := ⟨RX9, "kind", "(I)I"⟩
abbrev cX9_as : ByteArray := prog_11_method_49_code
def yX9_as : MethodName := ⟨RX9, "as", "(II)I"⟩
abbrev cX9_begins : ByteArray := prog_11_method_50_code
def yX9_begins : MethodName := ⟨RX9, "begins", "(I)V"⟩
abbrev cX9_mark : ByteArray := prog_11_method_51_code
def yX9_mark : MethodName := ⟨RX9, "mark", "(I)I"⟩
abbrev cX9_sizeOf : ByteArray := prog_11_method_52_code
def yX9_sizeOf : MethodName := ⟨RX9, "sizeOf", "(I)I"⟩
abbrev cX9_ask : ByteArray := prog_11_method_53_code
def yX9_ask : MethodName := ⟨RX9, "ask", "(II)I"⟩
abbrev cX9_trace : ByteArray := prog_11_method_54_code
def yX9_trace : MethodName := ⟨RX9, "trace", "(I)I"⟩
abbrev cX9_count : ByteArray := prog_11_method_55_code
def yX9_count : MethodName := ⟨RX9, "count", "(I)I"⟩
abbrev cX9_status : ByteArray := prog_11_method_56_code
def yX9_status : MethodName := ⟨RX9, "status", "()I"⟩
abbrev cJ7_fill_53178 : ByteArray := prog_14_method_103_code
def yJ7_fill_53178 : MethodName := ⟨RJ7, "fill", "([II)V"⟩
abbrev cL_law : ByteArray := code
def yL_law : MethodName := ⟨RL, "law", "([I)Z"⟩
/-! the tables of this claim: cells, methods, links, by numbers -/
def zNC : Nat := 73
def zKR : Nat := 65
abbrev zcl : List vw_C := [(RX0, TX0, 9), (RX1, TX1, 2), (RX2, TX2, 12), (RX3, TX3, 3), (RX4, TX4, 5), (RX5, TX5, 4), (RX6, TX6, 2), (RX7, TX7, 4), (RX8, TX8, 12), (RX9, TX9, 39)]
def zRn : Nat → String := fun k => match k with
  | 0 => RX0
  | 1 => RX1
  | 2 => RX2
  | 3 => RX3
  | 4 => RX4
  | 5 => RX5
  | 6 => RX6
  | 7 => RX7
  | 8 => RX8
  | 9 => RX9
  | 10 => RL
  | _ => RJ7
def zT : Nat → u_T := fun k => match k with
  | 0 => TX0
  | 1 => TX1
  | 2 => TX2
  | 3 => TX3
  | 4 => TX4
  | 5 => TX5
  | 6 => TX6
  | 7 => TX7
  | 8 => TX8
  | _ => TX9
def zTy : Nat → Nat → FieldType := fun k => match k with
  | 0 => tyX0
  | 1 => tyX1
  | 2 => tyX2
  | 3 => tyX3
  | 4 => tyX4
  | 5 => tyX5
  | 6 => tyX6
  | 7 => tyX7
  | 8 => tyX8
  | _ => tyX9
def zN : Nat → Nat := fun k => match k with
  | 0 => 9
  | 1 => 2
  | 2 => 12
  | 3 => 3
  | 4 => 5
  | 5 => 4
  | 6 => 2
  | 7 => 4
  | 8 => 12
  | _ => 39
def zkd : Nat → Nat := fun k => match k with
  | 0 => 4
  | 1 => 4
  | 2 => 4
  | 3 => 4
  | 4 => 4
  | 5 => 4
  | 6 => 4
  | 7 => 4
  | 8 => 4
  | 9 => 4
  | 10 => 0
  | 11 => 1
  | 12 => 0
  | 13 => 0
  | 14 => 3
  | 15 => 0
  | 16 => 0
  | 17 => 0
  | 18 => 0
  | 19 => 0
  | 20 => 0
  | 21 => 0
  | 22 => 0
  | 23 => 0
  | 24 => 0
  | 25 => 0
  | 26 => 0
  | 27 => 0
  | 28 => 2
  | 29 => 0
  | 30 => 0
  | 31 => 0
  | 32 => 2
  | 33 => 0
  | 34 => 0
  | 35 => 0
  | 36 => 0
  | 37 => 0
  | 38 => 0
  | 39 => 0
  | 40 => 0
  | 41 => 0
  | 42 => 0
  | 43 => 0
  | 44 => 0
  | 45 => 0
  | 46 => 0
  | 47 => 0
  | 48 => 0
  | 49 => 0
  | 50 => 0
  | 51 => 0
  | 52 => 0
  | 53 => 0
  | 54 => 0
  | 55 => 1
  | 56 => 0
  | 57 => 0
  | 58 => 2
  | 59 => 0
  | 60 => 0
  | 61 => 0
  | 62 => 0
  | 63 => 2
  | 64 => 0
  | 65 => 5
  | 66 => 8
  | 67 => 8
  | 68 => 8
  | 69 => 8
  | 70 => 8
  | 71 => 8
  | 72 => 8
  | _ => 9
def zln : Nat → Int := fun k => match k with
  | 10 => 16
  | 11 => 8
  | 12 => 8
  | 13 => 8
  | 14 => 8
  | 15 => 40
  | 16 => 40
  | 17 => 40
  | 18 => 40
  | 19 => 40
  | 20 => 41
  | 21 => 40
  | 22 => 1188
  | 23 => 512
  | 24 => 512
  | 25 => 1024
  | 26 => 1024
  | 27 => 50
  | 28 => 30
  | 29 => 1092
  | 30 => 313
  | 31 => 1565
  | 32 => 1565
  | 33 => 195
  | 34 => 12
  | 35 => 30
  | 36 => 30
  | 37 => 8
  | 38 => 8
  | 39 => 640
  | 40 => 80
  | 41 => 40
  | 42 => 40
  | 43 => 40
  | 44 => 40
  | 45 => 41
  | 46 => 40
  | 47 => 49660
  | 48 => 12000
  | 49 => 12000
  | 50 => 50
  | 51 => 30
  | 52 => 360
  | 53 => 12
  | 54 => 16
  | 55 => 40
  | 56 => 40
  | 57 => 200
  | 58 => 200
  | 59 => 200
  | 60 => 195
  | 61 => 5070
  | 62 => 25350
  | 63 => 25350
  | 64 => 12
  | _ => 80
def zcn : Nat → Nat := fun k => match k with
  | 0 => 8
  | 1 => 5
  | 2 => 2
  | 3 => 0
  | 4 => 7
  | 5 => 1
  | 6 => 4
  | 7 => 6
  | 8 => 3
  | 9 => 9
  | _ => 10
def zft : Nat → Nat → Nat := fun k j => match k with
  | 0 => (match j with
    | 0 => 3
    | 1 => 4
    | 2 => 5
    | 3 => 6
    | 4 => 0
    | 5 => 7
    | 6 => 8
    | 7 => 9
    | 8 => 10
    | 9 => 12
    | 10 => 0
    | 11 => 0
    | _ => 0)
  | 1 => (match j with
    | 0 => 13
    | 1 => 14
    | 2 => 15
    | 3 => 16
    | _ => 0)
  | 2 => (match j with
    | 0 => 17
    | 1 => 18
    | 2 => 0
    | 3 => 0
    | 4 => 19
    | 5 => 20
    | 6 => 21
    | 7 => 0
    | 8 => 22
    | 9 => 23
    | 10 => 0
    | 11 => 0
    | _ => 0)
  | 3 => (match j with
    | 0 => 24
    | 1 => 25
    | 2 => 26
    | 3 => 0
    | 4 => 27
    | 5 => 28
    | 6 => 0
    | 7 => 29
    | 8 => 0
    | _ => 0)
  | 4 => (match j with
    | 0 => 1
    | 1 => 0
    | 2 => 30
    | 3 => 0
    | _ => 0)
  | 5 => (match j with
    | 0 => 31
    | 1 => 0
    | _ => 0)
  | 6 => (match j with
    | 0 => 32
    | 1 => 33
    | 2 => 34
    | 3 => 0
    | 4 => 0
    | _ => 0)
  | 7 => (match j with
    | 0 => 35
    | 1 => 36
    | _ => 0)
  | 8 => (match j with
    | 0 => 37
    | 1 => 38
    | 2 => 0
    | _ => 0)
  | 9 => (match j with
    | 0 => 39
    | 1 => 40
    | 2 => 41
    | 3 => 42
    | 4 => 0
    | 5 => 0
    | 6 => 43
    | 7 => 44
    | 8 => 45
    | 9 => 0
    | 10 => 46
    | 11 => 0
    | 12 => 0
    | 13 => 0
    | 14 => 47
    | 15 => 48
    | 16 => 49
    | 17 => 0
    | 18 => 50
    | 19 => 51
    | 20 => 0
    | 21 => 52
    | 22 => 0
    | 23 => 53
    | 24 => 54
    | 25 => 0
    | 26 => 55
    | 27 => 56
    | 28 => 0
    | 29 => 57
    | 30 => 58
    | 31 => 59
    | 32 => 60
    | 33 => 61
    | 34 => 62
    | 35 => 63
    | 36 => 64
    | 37 => 65
    | 38 => 66
    | _ => 0)
  | _ => 0
def zlg : Nat → Int → Bool := fun k i => match k with
  | 28 => true
  | 32 => true
  | 58 => true
  | 63 => true
  | 4 => decide (i = 0)
  | _ => false
def zy : Nat → MethodName := fun k => match k with
  | 0 => yX0_slotOf
  | 1 => yX0_slotMadeFor
  | 2 => yX0_raise
  | 3 => yX0_beginTeaching
  | 4 => yX0_undoTeaching
  | 5 => yX0_pairCost
  | 6 => yX0_formsSeen
  | 7 => yX0_pairsSeen
  | 8 => yX0_seenFrom
  | 9 => yX1_take
  | 10 => yX1_takeRow
  | 11 => yX1_dotCost
  | 12 => yX1_place
  | 13 => yX1_cost
  | 14 => yX2_write
  | 15 => yX2_part
  | 16 => yX2_gatherPieces
  | 17 => yX2_beginInks
  | 18 => yX2_joinDots
  | 19 => yX2_inkUnder
  | 20 => yX2_nearestPiece
  | 21 => yX2_piecesOf
  | 22 => yX2_rowCodeAt
  | 23 => yX2_hasDot
  | 24 => yX3_read
  | 25 => yX3_insert
  | 26 => yX4_read
  | 27 => yX4_heap
  | 28 => yX4_clear
  | 29 => yX4_extend
  | 30 => yX4_dearest
  | 31 => yX4_gatherWhole
  | 32 => yX4_offer
  | 33 => yX4_placeFor
  | 34 => yX4_isAhead
  | 35 => yX4_told
  | 36 => yX4_cost
  | 37 => yX4_word
  | 38 => yX4_tell
  | 39 => yX5_lay
  | 40 => yX5_reaches
  | 41 => yX5_put
  | 42 => yX5_holdsPieces
  | 43 => yX5_many
  | 44 => yX6_cost
  | 45 => yX6_costBy
  | 46 => yX6_chooseRows
  | 47 => yX7_append
  | 48 => yX7_clear
  | 49 => yX7_placeOf
  | 50 => yX8_sheet
  | 51 => yX8_set
  | 52 => yX8_copy
  | 53 => yX8_drop
  | 54 => yX8_line
  | 55 => yX8_gap
  | 56 => yX8_ink
  | 57 => yX8_piece
  | 58 => yX8_loose
  | 59 => yX8_form
  | 60 => yX8_seen
  | 61 => yX8_pair
  | 62 => yX8_letter
  | 63 => yX8_list
  | 64 => yX8_wipe
  | 65 => yX8_listed
  | 66 => yX8_open
  | 67 => yX8_find
  | 68 => yX8_teach
  | 69 => yX8_unteach
  | 70 => yX8_kind
  | 71 => yX8_as
  | 72 => yX8_ask
  | 73 => yX8_trace
  | 74 => yX8_count
  | 75 => yX8_status
  | 76 => yX8_found
  | 77 => yX8_fine
  | 78 => yX8_isSheet
  | 79 => yX8_isInk
  | 80 => yX8_isLetter
  | 81 => yX8_isShape
  | 82 => yX8_isRow
  | 83 => yX8_rowCode
  | 84 => yX8_rowCodeWith
  | 85 => yX8_pairSlot
  | 86 => yX8_wordShift
  | 87 => yX8_letterAt
  | 88 => yX8_lettersOf
  | 89 => yX8_wordWith
  | 90 => yX8_takeInHand
  | 91 => yX8_countReading
  | 92 => yX8_kindInHand
  | 93 => yX8_begin
  | 94 => yX8_askSize
  | 95 => yX8_inkSize
  | 96 => yX8_readSize
  | 97 => yX8_sureSize
  | 98 => yX8_listedSize
  | 99 => yX8_askMark
  | 100 => yX8_inkMark
  | 101 => yX8_sureMark
  | 102 => yX8_listedMark
  | 103 => yX9_in
  | 104 => yX9_finds
  | 105 => yX9_well
  | 106 => yX9_isSheet
  | 107 => yX9_sheet
  | 108 => yX9_set
  | 109 => yX9_copy
  | 110 => yX9_drop
  | 111 => yX9_forget
  | 112 => yX9_partLine
  | 113 => yX9_away
  | 114 => yX9_line
  | 115 => yX9_gap
  | 116 => yX9_isInk
  | 117 => yX9_many
  | 118 => yX9_ink
  | 119 => yX9_piece
  | 120 => yX9_loose
  | 121 => yX9_isLetter
  | 122 => yX9_shapes
  | 123 => yX9_isForm
  | 124 => yX9_raise
  | 125 => yX9_form
  | 126 => yX9_seen
  | 127 => yX9_pair
  | 128 => yX9_letter
  | 129 => yX9_inList
  | 130 => yX9_list
  | 131 => yX9_wipe
  | 132 => yX9_cost
  | 133 => yX9_spell
  | 134 => yX9_listed
  | 135 => yX9_hold
  | 136 => yX9_state
  | 137 => yX9_goOn
  | 138 => yX9_isAhead
  | 139 => yX9_know
  | 140 => yX9_keep
  | 141 => yX9_open
  | 142 => yX9_wordCode
  | 143 => yX9_find
  | 144 => yX9_teach
  | 145 => yX9_isBest
  | 146 => yX9_unteach
  | 147 => yX9_kindOf
  | 148 => yX9_firstInList
  | 149 => yX9_kind
  | 150 => yX9_as
  | 151 => yX9_begins
  | 152 => yX9_mark
  | 153 => yX9_sizeOf
  | 154 => yX9_ask
  | 155 => yX9_trace
  | 156 => yX9_count
  | 157 => yX9_status
  | 158 => yJ7_fill_53178
  | 159 => yL_law
  | _ => yX0_slotOf
def zb : Nat → ByteArray := fun k => match k with
  | 0 => cX0_slotOf
  | 1 => cX0_slotMadeFor
  | 2 => cX0_raise
  | 3 => cX0_beginTeaching
  | 4 => cX0_undoTeaching
  | 5 => cX0_pairCost
  | 6 => cX0_formsSeen
  | 7 => cX0_pairsSeen
  | 8 => cX0_seenFrom
  | 9 => cX1_take
  | 10 => cX1_takeRow
  | 11 => cX1_dotCost
  | 12 => cX1_place
  | 13 => cX1_cost
  | 14 => cX2_write
  | 15 => cX2_part
  | 16 => cX2_gatherPieces
  | 17 => cX2_beginInks
  | 18 => cX2_joinDots
  | 19 => cX2_inkUnder
  | 20 => cX2_nearestPiece
  | 21 => cX2_piecesOf
  | 22 => cX2_rowCodeAt
  | 23 => cX2_hasDot
  | 24 => cX3_read
  | 25 => cX3_insert
  | 26 => cX4_read
  | 27 => cX4_heap
  | 28 => cX4_clear
  | 29 => cX4_extend
  | 30 => cX4_dearest
  | 31 => cX4_gatherWhole
  | 32 => cX4_offer
  | 33 => cX4_placeFor
  | 34 => cX4_isAhead
  | 35 => cX4_told
  | 36 => cX4_cost
  | 37 => cX4_word
  | 38 => cX4_tell
  | 39 => cX5_lay
  | 40 => cX5_reaches
  | 41 => cX5_put
  | 42 => cX5_holdsPieces
  | 43 => cX5_many
  | 44 => cX6_cost
  | 45 => cX6_costBy
  | 46 => cX6_chooseRows
  | 47 => cX7_append
  | 48 => cX7_clear
  | 49 => cX7_placeOf
  | 50 => cX8_sheet
  | 51 => cX8_set
  | 52 => cX8_copy
  | 53 => cX8_drop
  | 54 => cX8_line
  | 55 => cX8_gap
  | 56 => cX8_ink
  | 57 => cX8_piece
  | 58 => cX8_loose
  | 59 => cX8_form
  | 60 => cX8_seen
  | 61 => cX8_pair
  | 62 => cX8_letter
  | 63 => cX8_list
  | 64 => cX8_wipe
  | 65 => cX8_listed
  | 66 => cX8_open
  | 67 => cX8_find
  | 68 => cX8_teach
  | 69 => cX8_unteach
  | 70 => cX8_kind
  | 71 => cX8_as
  | 72 => cX8_ask
  | 73 => cX8_trace
  | 74 => cX8_count
  | 75 => cX8_status
  | 76 => cX8_found
  | 77 => cX8_fine
  | 78 => cX8_isSheet
  | 79 => cX8_isInk
  | 80 => cX8_isLetter
  | 81 => cX8_isShape
  | 82 => cX8_isRow
  | 83 => cX8_rowCode
  | 84 => cX8_rowCodeWith
  | 85 => cX8_pairSlot
  | 86 => cX8_wordShift
  | 87 => cX8_letterAt
  | 88 => cX8_lettersOf
  | 89 => cX8_wordWith
  | 90 => cX8_takeInHand
  | 91 => cX8_countReading
  | 92 => cX8_kindInHand
  | 93 => cX8_begin
  | 94 => cX8_askSize
  | 95 => cX8_inkSize
  | 96 => cX8_readSize
  | 97 => cX8_sureSize
  | 98 => cX8_listedSize
  | 99 => cX8_askMark
  | 100 => cX8_inkMark
  | 101 => cX8_sureMark
  | 102 => cX8_listedMark
  | 103 => cX9_in
  | 104 => cX9_finds
  | 105 => cX9_well
  | 106 => cX9_isSheet
  | 107 => cX9_sheet
  | 108 => cX9_set
  | 109 => cX9_copy
  | 110 => cX9_drop
  | 111 => cX9_forget
  | 112 => cX9_partLine
  | 113 => cX9_away
  | 114 => cX9_line
  | 115 => cX9_gap
  | 116 => cX9_isInk
  | 117 => cX9_many
  | 118 => cX9_ink
  | 119 => cX9_piece
  | 120 => cX9_loose
  | 121 => cX9_isLetter
  | 122 => cX9_shapes
  | 123 => cX9_isForm
  | 124 => cX9_raise
  | 125 => cX9_form
  | 126 => cX9_seen
  | 127 => cX9_pair
  | 128 => cX9_letter
  | 129 => cX9_inList
  | 130 => cX9_list
  | 131 => cX9_wipe
  | 132 => cX9_cost
  | 133 => cX9_spell
  | 134 => cX9_listed
  | 135 => cX9_hold
  | 136 => cX9_state
  | 137 => cX9_goOn
  | 138 => cX9_isAhead
  | 139 => cX9_know
  | 140 => cX9_keep
  | 141 => cX9_open
  | 142 => cX9_wordCode
  | 143 => cX9_find
  | 144 => cX9_teach
  | 145 => cX9_isBest
  | 146 => cX9_unteach
  | 147 => cX9_kindOf
  | 148 => cX9_firstInList
  | 149 => cX9_kind
  | 150 => cX9_as
  | 151 => cX9_begins
  | 152 => cX9_mark
  | 153 => cX9_sizeOf
  | 154 => cX9_ask
  | 155 => cX9_trace
  | 156 => cX9_count
  | 157 => cX9_status
  | 158 => cJ7_fill_53178
  | 159 => cL_law
  | _ => cX0_slotOf
def zl : Nat → Nat := fun k => match k with
  | 0 => 4
  | 1 => 4
  | 2 => 3
  | 3 => 1
  | 4 => 2
  | 5 => 3
  | 6 => 1
  | 7 => 1
  | 8 => 5
  | 9 => 8
  | 10 => 8
  | 11 => 3
  | 12 => 3
  | 13 => 4
  | 14 => 5
  | 15 => 1
  | 16 => 2
  | 17 => 2
  | 18 => 3
  | 19 => 6
  | 20 => 5
  | 21 => 2
  | 22 => 5
  | 23 => 4
  | 24 => 6
  | 25 => 4
  | 26 => 7
  | 27 => 3
  | 28 => 3
  | 29 => 13
  | 30 => 2
  | 31 => 4
  | 32 => 7
  | 33 => 8
  | 34 => 5
  | 35 => 1
  | 36 => 2
  | 37 => 2
  | 38 => 4
  | 39 => 4
  | 40 => 4
  | 41 => 5
  | 42 => 7
  | 43 => 6
  | 44 => 10
  | 45 => 8
  | 46 => 8
  | 47 => 2
  | 48 => 2
  | 49 => 4
  | 50 => 4
  | 51 => 4
  | 52 => 6
  | 53 => 2
  | 54 => 4
  | 55 => 3
  | 56 => 3
  | 57 => 5
  | 58 => 1
  | 59 => 8
  | 60 => 7
  | 61 => 4
  | 62 => 2
  | 63 => 2
  | 64 => 1
  | 65 => 4
  | 66 => 7
  | 67 => 4
  | 68 => 2
  | 69 => 1
  | 70 => 2
  | 71 => 3
  | 72 => 3
  | 73 => 2
  | 74 => 2
  | 75 => 1
  | 76 => 2
  | 77 => 2
  | 78 => 1
  | 79 => 2
  | 80 => 1
  | 81 => 1
  | 82 => 4
  | 83 => 5
  | 84 => 2
  | 85 => 2
  | 86 => 1
  | 87 => 3
  | 88 => 3
  | 89 => 4
  | 90 => 2
  | 91 => 7
  | 92 => 2
  | 93 => 2
  | 94 => 2
  | 95 => 2
  | 96 => 2
  | 97 => 2
  | 98 => 2
  | 99 => 2
  | 100 => 2
  | 101 => 2
  | 102 => 2
  | 103 => 6
  | 104 => 2
  | 105 => 2
  | 106 => 1
  | 107 => 5
  | 108 => 5
  | 109 => 7
  | 110 => 2
  | 111 => 2
  | 112 => 7
  | 113 => 3
  | 114 => 7
  | 115 => 3
  | 116 => 2
  | 117 => 2
  | 118 => 3
  | 119 => 5
  | 120 => 1
  | 121 => 1
  | 122 => 4
  | 123 => 5
  | 124 => 3
  | 125 => 7
  | 126 => 6
  | 127 => 4
  | 128 => 2
  | 129 => 4
  | 130 => 2
  | 131 => 2
  | 132 => 7
  | 133 => 12
  | 134 => 9
  | 135 => 9
  | 136 => 3
  | 137 => 11
  | 138 => 11
  | 139 => 7
  | 140 => 8
  | 141 => 5
  | 142 => 4
  | 143 => 6
  | 144 => 6
  | 145 => 7
  | 146 => 1
  | 147 => 2
  | 148 => 6
  | 149 => 2
  | 150 => 3
  | 151 => 2
  | 152 => 3
  | 153 => 4
  | 154 => 3
  | 155 => 2
  | 156 => 4
  | 157 => 1
  | 158 => 4
  | 159 => 4
  | _ => 0
def zr : Nat → Option FieldType := fun k => match k with
  | 0 => some .int
  | 1 => some .int
  | 2 => some .int
  | 3 => none
  | 4 => none
  | 5 => some .int
  | 6 => some .int
  | 7 => some .int
  | 8 => some .int
  | 9 => none
  | 10 => none
  | 11 => some .int
  | 12 => some .int
  | 13 => some .int
  | 14 => none
  | 15 => none
  | 16 => none
  | 17 => none
  | 18 => none
  | 19 => some .int
  | 20 => some .int
  | 21 => some .int
  | 22 => some .int
  | 23 => some .boolean
  | 24 => none
  | 25 => none
  | 26 => none
  | 27 => some .int
  | 28 => none
  | 29 => none
  | 30 => some .int
  | 31 => none
  | 32 => none
  | 33 => some .int
  | 34 => some .boolean
  | 35 => some .int
  | 36 => some .int
  | 37 => some .long
  | 38 => some .boolean
  | 39 => none
  | 40 => some .boolean
  | 41 => some .int
  | 42 => some .boolean
  | 43 => some .int
  | 44 => some .int
  | 45 => some .int
  | 46 => none
  | 47 => none
  | 48 => some .int
  | 49 => some .int
  | 50 => some .int
  | 51 => some .int
  | 52 => some .int
  | 53 => some .int
  | 54 => some .int
  | 55 => some .int
  | 56 => some .int
  | 57 => some .int
  | 58 => some .int
  | 59 => some .int
  | 60 => some .int
  | 61 => some .int
  | 62 => some .int
  | 63 => some .int
  | 64 => some .int
  | 65 => some .int
  | 66 => some .int
  | 67 => some .int
  | 68 => some .int
  | 69 => some .int
  | 70 => some .int
  | 71 => some .int
  | 72 => some .int
  | 73 => some .int
  | 74 => some .int
  | 75 => some .int
  | 76 => some .int
  | 77 => some .int
  | 78 => some .boolean
  | 79 => some .boolean
  | 80 => some .boolean
  | 81 => some .boolean
  | 82 => some .boolean
  | 83 => some .int
  | 84 => some .int
  | 85 => some .int
  | 86 => some .int
  | 87 => some .int
  | 88 => some .int
  | 89 => some .long
  | 90 => none
  | 91 => none
  | 92 => some .int
  | 93 => none
  | 94 => some .int
  | 95 => some .int
  | 96 => some .int
  | 97 => some .int
  | 98 => some .int
  | 99 => some .int
  | 100 => some .int
  | 101 => some .int
  | 102 => some .int
  | 103 => some .boolean
  | 104 => some .int
  | 105 => some .int
  | 106 => some .boolean
  | 107 => some .int
  | 108 => some .int
  | 109 => some .int
  | 110 => some .int
  | 111 => none
  | 112 => none
  | 113 => some .int
  | 114 => some .int
  | 115 => some .int
  | 116 => some .boolean
  | 117 => some .int
  | 118 => some .int
  | 119 => some .int
  | 120 => some .int
  | 121 => some .boolean
  | 122 => some .int
  | 123 => some .boolean
  | 124 => some .int
  | 125 => some .int
  | 126 => some .int
  | 127 => some .int
  | 128 => some .int
  | 129 => some .int
  | 130 => some .int
  | 131 => some .int
  | 132 => some .int
  | 133 => some .int
  | 134 => some .int
  | 135 => none
  | 136 => some .int
  | 137 => none
  | 138 => some .boolean
  | 139 => none
  | 140 => none
  | 141 => some .int
  | 142 => some .long
  | 143 => some .int
  | 144 => some .int
  | 145 => some .boolean
  | 146 => some .int
  | 147 => some .int
  | 148 => some .int
  | 149 => some .int
  | 150 => some .int
  | 151 => none
  | 152 => some .int
  | 153 => some .int
  | 154 => some .int
  | 155 => some .int
  | 156 => some .int
  | 157 => some .int
  | 158 => none
  | 159 => some .boolean
  | _ => none
def zow : Nat → Nat := fun k => match k with
  | 0 => 0
  | 1 => 0
  | 2 => 0
  | 3 => 0
  | 4 => 0
  | 5 => 0
  | 6 => 0
  | 7 => 0
  | 8 => 0
  | 9 => 1
  | 10 => 1
  | 11 => 1
  | 12 => 1
  | 13 => 1
  | 14 => 2
  | 15 => 2
  | 16 => 2
  | 17 => 2
  | 18 => 2
  | 19 => 2
  | 20 => 2
  | 21 => 2
  | 22 => 2
  | 23 => 2
  | 24 => 3
  | 25 => 3
  | 26 => 4
  | 27 => 4
  | 28 => 4
  | 29 => 4
  | 30 => 4
  | 31 => 4
  | 32 => 4
  | 33 => 4
  | 34 => 4
  | 35 => 4
  | 36 => 4
  | 37 => 4
  | 38 => 4
  | 39 => 5
  | 40 => 5
  | 41 => 5
  | 42 => 5
  | 43 => 5
  | 44 => 6
  | 45 => 6
  | 46 => 6
  | 47 => 7
  | 48 => 7
  | 49 => 7
  | 50 => 8
  | 51 => 8
  | 52 => 8
  | 53 => 8
  | 54 => 8
  | 55 => 8
  | 56 => 8
  | 57 => 8
  | 58 => 8
  | 59 => 8
  | 60 => 8
  | 61 => 8
  | 62 => 8
  | 63 => 8
  | 64 => 8
  | 65 => 8
  | 66 => 8
  | 67 => 8
  | 68 => 8
  | 69 => 8
  | 70 => 8
  | 71 => 8
  | 72 => 8
  | 73 => 8
  | 74 => 8
  | 75 => 8
  | 76 => 8
  | 77 => 8
  | 78 => 8
  | 79 => 8
  | 80 => 8
  | 81 => 8
  | 82 => 8
  | 83 => 8
  | 84 => 8
  | 85 => 8
  | 86 => 8
  | 87 => 8
  | 88 => 8
  | 89 => 8
  | 90 => 8
  | 91 => 8
  | 92 => 8
  | 93 => 8
  | 94 => 8
  | 95 => 8
  | 96 => 8
  | 97 => 8
  | 98 => 8
  | 99 => 8
  | 100 => 8
  | 101 => 8
  | 102 => 8
  | 103 => 9
  | 104 => 9
  | 105 => 9
  | 106 => 9
  | 107 => 9
  | 108 => 9
  | 109 => 9
  | 110 => 9
  | 111 => 9
  | 112 => 9
  | 113 => 9
  | 114 => 9
  | 115 => 9
  | 116 => 9
  | 117 => 9
  | 118 => 9
  | 119 => 9
  | 120 => 9
  | 121 => 9
  | 122 => 9
  | 123 => 9
  | 124 => 9
  | 125 => 9
  | 126 => 9
  | 127 => 9
  | 128 => 9
  | 129 => 9
  | 130 => 9
  | 131 => 9
  | 132 => 9
  | 133 => 9
  | 134 => 9
  | 135 => 9
  | 136 => 9
  | 137 => 9
  | 138 => 9
  | 139 => 9
  | 140 => 9
  | 141 => 9
  | 142 => 9
  | 143 => 9
  | 144 => 9
  | 145 => 9
  | 146 => 9
  | 147 => 9
  | 148 => 9
  | 149 => 9
  | 150 => 9
  | 151 => 9
  | 152 => 9
  | 153 => 9
  | 154 => 9
  | 155 => 9
  | 156 => 9
  | 157 => 9
  | 158 => 11
  | 159 => 10
  | _ => 11
def zqf : Nat → Nat := fun k => match k with
  | 0 => 0
  | 1 => 1
  | 2 => 1
  | 3 => 0
  | 4 => 0
  | 5 => 1
  | 6 => 1
  | 7 => 1
  | 8 => 0
  | 9 => 2
  | 10 => 1
  | 11 => 0
  | 12 => 0
  | 13 => 1
  | 14 => 4
  | 15 => 3
  | 16 => 0
  | 17 => 0
  | 18 => 2
  | 19 => 1
  | 20 => 1
  | 21 => 0
  | 22 => 1
  | 23 => 0
  | 24 => 4
  | 25 => 0
  | 26 => 4
  | 27 => 0
  | 28 => 0
  | 29 => 3
  | 30 => 0
  | 31 => 3
  | 32 => 2
  | 33 => 1
  | 34 => 0
  | 35 => 0
  | 36 => 0
  | 37 => 0
  | 38 => 1
  | 39 => 1
  | 40 => 0
  | 41 => 0
  | 42 => 0
  | 43 => 0
  | 44 => 3
  | 45 => 2
  | 46 => 3
  | 47 => 2
  | 48 => 0
  | 49 => 0
  | 50 => 2
  | 51 => 1
  | 52 => 1
  | 53 => 1
  | 54 => 5
  | 55 => 4
  | 56 => 1
  | 57 => 1
  | 58 => 0
  | 59 => 2
  | 60 => 2
  | 61 => 2
  | 62 => 3
  | 63 => 1
  | 64 => 1
  | 65 => 6
  | 66 => 6
  | 67 => 6
  | 68 => 6
  | 69 => 1
  | 70 => 6
  | 71 => 6
  | 72 => 7
  | 73 => 0
  | 74 => 2
  | 75 => 0
  | 76 => 0
  | 77 => 0
  | 78 => 0
  | 79 => 0
  | 80 => 0
  | 81 => 0
  | 82 => 1
  | 83 => 1
  | 84 => 0
  | 85 => 0
  | 86 => 0
  | 87 => 1
  | 88 => 2
  | 89 => 1
  | 90 => 5
  | 91 => 2
  | 92 => 1
  | 93 => 0
  | 94 => 6
  | 95 => 1
  | 96 => 2
  | 97 => 3
  | 98 => 5
  | 99 => 4
  | 100 => 1
  | 101 => 2
  | 102 => 3
  | 103 => 0
  | 104 => 0
  | 105 => 0
  | 106 => 1
  | 107 => 2
  | 108 => 2
  | 109 => 2
  | 110 => 2
  | 111 => 0
  | 112 => 1
  | 113 => 0
  | 114 => 2
  | 115 => 2
  | 116 => 1
  | 117 => 0
  | 118 => 2
  | 119 => 2
  | 120 => 0
  | 121 => 1
  | 122 => 0
  | 123 => 2
  | 124 => 0
  | 125 => 3
  | 126 => 3
  | 127 => 2
  | 128 => 2
  | 129 => 0
  | 130 => 1
  | 131 => 0
  | 132 => 1
  | 133 => 2
  | 134 => 3
  | 135 => 0
  | 136 => 0
  | 137 => 2
  | 138 => 0
  | 139 => 3
  | 140 => 1
  | 141 => 4
  | 142 => 0
  | 143 => 4
  | 144 => 3
  | 145 => 2
  | 146 => 1
  | 147 => 4
  | 148 => 0
  | 149 => 5
  | 150 => 5
  | 151 => 0
  | 152 => 5
  | 153 => 6
  | 154 => 7
  | 155 => 1
  | 156 => 1
  | 157 => 0
  | 158 => 0
  | 159 => 8
  | _ => 0
def zql : Nat → Nat := fun k => match k with
  | 0 => 0
  | 1 => 23
  | 2 => 40
  | 3 => 0
  | 4 => 0
  | 5 => 21
  | 6 => 24
  | 7 => 24
  | 8 => 0
  | 9 => 49
  | 10 => 22
  | 11 => 0
  | 12 => 0
  | 13 => 22
  | 14 => 107
  | 15 => 87
  | 16 => 0
  | 17 => 0
  | 18 => 65
  | 19 => 40
  | 20 => 40
  | 21 => 0
  | 22 => 21
  | 23 => 0
  | 24 => 101
  | 25 => 0
  | 26 => 109
  | 27 => 0
  | 28 => 0
  | 29 => 77
  | 30 => 0
  | 31 => 77
  | 32 => 51
  | 33 => 24
  | 34 => 0
  | 35 => 0
  | 36 => 0
  | 37 => 0
  | 38 => 21
  | 39 => 23
  | 40 => 0
  | 41 => 0
  | 42 => 0
  | 43 => 0
  | 44 => 72
  | 45 => 45
  | 46 => 72
  | 47 => 43
  | 48 => 0
  | 49 => 0
  | 50 => 46
  | 51 => 24
  | 52 => 40
  | 53 => 21
  | 54 => 131
  | 55 => 107
  | 56 => 21
  | 57 => 21
  | 58 => 0
  | 59 => 62
  | 60 => 45
  | 61 => 62
  | 62 => 64
  | 63 => 23
  | 64 => 21
  | 65 => 156
  | 66 => 156
  | 67 => 156
  | 68 => 156
  | 69 => 21
  | 70 => 156
  | 71 => 156
  | 72 => 156
  | 73 => 0
  | 74 => 44
  | 75 => 0
  | 76 => 0
  | 77 => 0
  | 78 => 0
  | 79 => 0
  | 80 => 0
  | 81 => 0
  | 82 => 20
  | 83 => 21
  | 84 => 0
  | 85 => 0
  | 86 => 0
  | 87 => 20
  | 88 => 42
  | 89 => 20
  | 90 => 135
  | 91 => 62
  | 92 => 23
  | 93 => 0
  | 94 => 126
  | 95 => 21
  | 96 => 42
  | 97 => 63
  | 98 => 105
  | 99 => 84
  | 100 => 21
  | 101 => 42
  | 102 => 63
  | 103 => 0
  | 104 => 0
  | 105 => 0
  | 106 => 25
  | 107 => 45
  | 108 => 45
  | 109 => 45
  | 110 => 45
  | 111 => 0
  | 112 => 22
  | 113 => 0
  | 114 => 48
  | 115 => 48
  | 116 => 25
  | 117 => 0
  | 118 => 46
  | 119 => 46
  | 120 => 0
  | 121 => 25
  | 122 => 0
  | 123 => 45
  | 124 => 0
  | 125 => 69
  | 126 => 69
  | 127 => 45
  | 128 => 45
  | 129 => 0
  | 130 => 23
  | 131 => 0
  | 132 => 23
  | 133 => 49
  | 134 => 80
  | 135 => 0
  | 136 => 0
  | 137 => 49
  | 138 => 0
  | 139 => 79
  | 140 => 30
  | 141 => 105
  | 142 => 0
  | 143 => 105
  | 144 => 80
  | 145 => 49
  | 146 => 21
  | 147 => 105
  | 148 => 0
  | 149 => 126
  | 150 => 126
  | 151 => 0
  | 152 => 126
  | 153 => 148
  | 154 => 171
  | 155 => 25
  | 156 => 25
  | 157 => 0
  | 158 => 0
  | 159 => 193
  | _ => 0
def zlaw : Nat := 159
def zq (i : Nat) : Room := bif Nat.beq i zlaw then room_1 else { frames := zqf i, cells := 0, slots := 0, locals := zql i }
def zTB : List Cond := lw_tbl.filter goodWord
theorem zin {w : Cond} (k : Nat) (h : lw_tbl[k]? = some w) (hg : goodWord w = true) : w ∈ zTB := List.mem_filter.mpr ⟨List.mem_of_getElem? h, hg⟩
theorem zTB_lw : ∀ w ∈ zTB, w ∈ lw_tbl := fun w h => (List.mem_filter.mp h).1
theorem zTB_good : ∀ w ∈ zTB, goodWord w = true := fun w h => (List.mem_filter.mp h).2
def zI (v : Int) : Prop := -2147483648 ≤ v ∧ v ≤ 2147483647
def zJ (v : Int) : Prop := -9223372036854775808 ≤ v ∧ v ≤ 9223372036854775807
end
section
/-! what the tables say of the links, constants, methods of this claim, by numbers -/
def znp : Nat → Nat := fun k => match k with
  | 0 => 2
  | 1 => 2
  | 2 => 2
  | 3 => 0
  | 4 => 0
  | 5 => 2
  | 6 => 0
  | 7 => 0
  | 8 => 2
  | 9 => 3
  | 10 => 4
  | 11 => 2
  | 12 => 3
  | 13 => 3
  | 14 => 3
  | 15 => 0
  | 16 => 0
  | 17 => 0
  | 18 => 0
  | 19 => 1
  | 20 => 2
  | 21 => 1
  | 22 => 2
  | 23 => 2
  | 24 => 3
  | 25 => 2
  | 26 => 2
  | 27 => 3
  | 28 => 1
  | 29 => 5
  | 30 => 1
  | 31 => 0
  | 32 => 3
  | 33 => 3
  | 34 => 3
  | 35 => 0
  | 36 => 1
  | 37 => 1
  | 38 => 1
  | 39 => 3
  | 40 => 3
  | 41 => 3
  | 42 => 3
  | 43 => 0
  | 44 => 2
  | 45 => 5
  | 46 => 2
  | 47 => 1
  | 48 => 0
  | 49 => 1
  | 50 => 3
  | 51 => 3
  | 52 => 5
  | 53 => 1
  | 54 => 3
  | 55 => 1
  | 56 => 2
  | 57 => 3
  | 58 => 0
  | 59 => 6
  | 60 => 5
  | 61 => 3
  | 62 => 1
  | 63 => 0
  | 64 => 0
  | 65 => 3
  | 66 => 3
  | 67 => 1
  | 68 => 1
  | 69 => 0
  | 70 => 1
  | 71 => 2
  | 72 => 2
  | 73 => 1
  | 74 => 1
  | 75 => 0
  | 76 => 1
  | 77 => 1
  | 78 => 1
  | 79 => 1
  | 80 => 1
  | 81 => 1
  | 82 => 4
  | 83 => 4
  | 84 => 2
  | 85 => 2
  | 86 => 1
  | 87 => 2
  | 88 => 1
  | 89 => 3
  | 90 => 1
  | 91 => 1
  | 92 => 0
  | 93 => 1
  | 94 => 1
  | 95 => 1
  | 96 => 1
  | 97 => 1
  | 98 => 1
  | 99 => 1
  | 100 => 1
  | 101 => 1
  | 102 => 1
  | 103 => 3
  | 104 => 1
  | 105 => 1
  | 106 => 1
  | 107 => 3
  | 108 => 3
  | 109 => 5
  | 110 => 1
  | 111 => 0
  | 112 => 0
  | 113 => 2
  | 114 => 3
  | 115 => 1
  | 116 => 1
  | 117 => 1
  | 118 => 2
  | 119 => 3
  | 120 => 0
  | 121 => 1
  | 122 => 4
  | 123 => 5
  | 124 => 2
  | 125 => 6
  | 126 => 5
  | 127 => 3
  | 128 => 1
  | 129 => 0
  | 130 => 0
  | 131 => 0
  | 132 => 3
  | 133 => 4
  | 134 => 3
  | 135 => 3
  | 136 => 3
  | 137 => 4
  | 138 => 4
  | 139 => 1
  | 140 => 4
  | 141 => 3
  | 142 => 0
  | 143 => 1
  | 144 => 1
  | 145 => 4
  | 146 => 0
  | 147 => 1
  | 148 => 1
  | 149 => 1
  | 150 => 2
  | 151 => 1
  | 152 => 1
  | 153 => 1
  | 154 => 2
  | 155 => 1
  | 156 => 1
  | 157 => 0
  | 158 => 2
  | 159 => 1
  | _ => 0
def zFF (x : Nat × Nat × Nat × Nat × Int) : Prop := ∃ j : Nat, x.2.2.2.2 = (j : Int) ∧ x.2.2.1 < zNC ∧ zkd x.2.2.1 = 4 ∧ zcn x.2.2.1 < 10 ∧ j < zN (zcn x.2.2.1) ∧ zft x.2.2.1 j = x.2.2.2.1 ∧ Cond.fieldLink (zRn x.1) x.2.1 (zT (zcn x.2.2.1) j).1 (zT (zcn x.2.2.1) j).2.1 (zT (zcn x.2.2.1) j).2.2.1 ∈ zTB
def zKF (x : Nat × Nat × Int) : Prop := Cond.constant (zRn x.1) x.2.1 (Int32.ofInt x.2.2) ∈ zTB ∧ zI x.2.2
def zKLF (x : Nat × Nat × Int) : Prop := Cond.constantLong (zRn x.1) x.2.1 (Int64.ofInt x.2.2) ∈ zTB ∧ zJ x.2.2
def zVF (x : Nat × Nat × Nat) : Prop := Cond.methodLink (zRn x.1) x.2.1 (zy x.2.2) ∈ zTB ∧ Cond.instanceMethod (zy x.2.2) ∈ zTB ∧ Cond.selects (zy x.2.2).cls (zy x.2.2) (zy x.2.2) ∈ zTB
def zSF (x : Nat × Nat × Nat) : Prop := Cond.methodLink (zRn x.1) x.2.1 (zy x.2.2) ∈ zTB ∧ Cond.static (zy x.2.2) ∈ zTB
def zNF (x : Nat × Nat × Nat) : Prop := Cond.methodLinkNest (zRn x.1) x.2.1 (zy x.2.2) "PenLines" ∈ lw_tbl ∧ Cond.static (zy x.2.2) ∈ zTB
def zXy : Nat → MethodName := fun k => match k with
  | 9010 => Lib.Math.min.name
  | 9011 => Lib.Math.max.name
  | 9012 => Lib.Math.abs.name
  | _ => arraycopyName
def zXF (x : Nat × Nat × Nat) : Prop := Cond.methodLink (zRn x.1) x.2.1 (zXy x.2.2) ∈ zTB
def zMF (i : Nat) : Prop := Cond.code (zy i) (zb i) (zl i) (zr i) ∈ zTB ∧ Cond.initialized (zy i).cls ∈ zTB ∧ plainName (zy i).cls = true ∧ ((zy i).cls ≠ "java/lang/invoke/MethodHandle" ∧ (zy i).cls ≠ "java/lang/invoke/VarHandle") ∧ (parseMethodDescriptor (zy i).desc).map (fun d => d.parameters.length) = some (znp i) ∧ (zy i).cls = zRn (zow i) ∧ i < zlaw
def zCF (c : Nat) : Prop := zcl[c]? = some (zRn c, zT c, zN c) ∧ (∀ w ∈ u_ws (zRn c) (zT c) (zN c), w ∈ zTB) ∧ (∀ a, a < zN c → ∀ b, b < zN c → a ≠ b → (zT c a).2.1 ≠ (zT c b).2.1) ∧ (∀ k, k < zN c → parseFieldDescriptor (zT c k).2.2.1 = some (zTy c k))
def zfl_0 : List (Nat × Nat × Nat × Nat × Int) := [(0, 21, 3, 0, 3), (0, 15, 3, 25, 1), (0, 18, 3, 26, 2), (0, 11, 3, 24, 0), (0, 37, 3, 0, 8), (0, 31, 3, 0, 6), (0, 25, 3, 27, 4), (0, 28, 3, 28, 5), (0, 34, 3, 29, 7), (1, 15, 5, 0, 1), (1, 9, 5, 31, 0), (1, 31, 2, 22, 8), (1, 50, 3, 0, 3), (1, 55, 3, 24, 0), (1, 58, 3, 26, 2), (1, 61, 3, 25, 1), (2, 9, 2, 17, 0), (2, 15, 2, 18, 1), (2, 18, 2, 0, 2), (2, 34, 2, 0, 7)]
theorem zfl_ok_0 : ∀ x ∈ zfl_0, zFF x := List.forall_mem_cons.mpr ⟨⟨3, rfl, by decide +kernel, by decide +kernel, by decide +kernel, by decide +kernel, by decide +kernel, zin 170 (by decide +kernel) (by decide +kernel)⟩, List.forall_mem_cons.mpr ⟨⟨1, rfl, by decide +kernel, by decide +kernel, by decide +kernel, by decide +kernel, by decide +kernel, zin 166 (by decide +kernel) (by decide +kernel)⟩, List.forall_mem_cons.mpr ⟨⟨2, rfl, by decide +kernel, by decide +kernel, by decide +kernel, by decide +kernel, by decide +kernel, zin 168 (by decide +kernel) (by decide +kernel)⟩, List.forall_mem_cons.mpr ⟨⟨0, rfl, by decide +kernel, by decide +kernel, by decide +kernel, by decide +kernel, by decide +kernel, zin 163 (by decide +kernel) (by decide +kernel)⟩, List.forall_mem_cons.mpr ⟨⟨8, rfl, by decide +kernel, by decide +kernel, by decide +kernel, by decide +kernel, by decide +kernel, zin 176 (by decide +kernel) (by decide +kernel)⟩, List.forall_mem_cons.mpr ⟨⟨6, rfl, by decide +kernel, by decide +kernel, by decide +kernel, by decide +kernel, by decide +kernel, zin 174 (by decide +kernel) (by decide +kernel)⟩, List.forall_mem_cons.mpr ⟨⟨4, rfl, by decide +kernel, by decide +kernel, by decide +kernel, by decide +kernel, by decide +kernel, zin 172 (by decide +kernel) (by decide +kernel)⟩, List.forall_mem_cons.mpr ⟨⟨5, rfl, by decide +kernel, by decide +kernel, by decide +kernel, by decide +kernel, by decide +kernel, zin 173 (by decide +kernel) (by decide +kernel)⟩, List.forall_mem_cons.mpr ⟨⟨7, rfl, by decide +kernel, by decide +kernel, by decide +kernel, by decide +kernel, by decide +kernel, zin 175 (by decide +kernel) (by decide +kernel)⟩, List.forall_mem_cons.mpr ⟨⟨1, rfl, by decide +kernel, by decide +kernel, by decide +kernel, by decide +kernel, by decide +kernel, zin 230 (by decide +kernel) (by decide +kernel)⟩, List.forall_mem_cons.mpr ⟨⟨0, rfl, by decide +kernel, by decide +kernel, by decide +kernel, by decide +kernel, by decide +kernel, zin 229 (by decide +kernel) (by decide +kernel)⟩, List.forall_mem_cons.mpr ⟨⟨8, rfl, by decide +kernel, by decide +kernel, by decide +kernel, by decide +kernel, by decide +kernel, zin 124 (by decide +kernel) (by decide +kernel)⟩, List.forall_mem_cons.mpr ⟨⟨3, rfl, by decide +kernel, by decide +kernel, by decide +kernel, by decide +kernel, by decide +kernel, zin 171 (by decide +kernel) (by decide +kernel)⟩, List.forall_mem_cons.mpr ⟨⟨0, rfl, by decide +kernel, by decide +kernel, by decide +kernel, by decide +kernel, by decide +kernel, zin 164 (by decide +kernel) (by decide +kernel)⟩, List.forall_mem_cons.mpr ⟨⟨2, rfl, by decide +kernel, by decide +kernel, by decide +kernel, by decide +kernel, by decide +kernel, zin 169 (by decide +kernel) (by decide +kernel)⟩, List.forall_mem_cons.mpr ⟨⟨1, rfl, by decide +kernel, by decide +kernel, by decide +kernel, by decide +kernel, by decide +kernel, zin 167 (by decide +kernel) (by decide +kernel)⟩, List.forall_mem_cons.mpr ⟨⟨0, rfl, by decide +kernel, by decide +kernel, by decide +kernel, by decide +kernel, by decide +kernel, zin 109 (by decide +kernel) (by decide +kernel)⟩, List.forall_mem_cons.mpr ⟨⟨1, rfl, by decide +kernel, by decide +kernel, by decide +kernel, by decide +kernel, by decide +kernel, zin 110 (by decide +kernel) (by decide +kernel)⟩, List.forall_mem_cons.mpr ⟨⟨2, rfl, by decide +kernel, by decide +kernel, by decide +kernel, by decide +kernel, by decide +kernel, zin 111 (by decide +kernel) (by decide +kernel)⟩, List.forall_mem_cons.mpr ⟨⟨7, rfl, by decide +kernel, by decide +kernel, by decide +kernel, by decide +kernel, by decide +kernel, zin 121 (by decide +kernel) (by decide +kernel)⟩, fun _ h => absurd h List.not_mem_nil⟩⟩⟩⟩⟩⟩⟩⟩⟩⟩⟩⟩⟩⟩⟩⟩⟩⟩⟩⟩
def zfl_1 : List (Nat × Nat × Nat × Nat × Int) := [(2, 25, 2, 19, 4), (2, 28, 2, 20, 5), (2, 31, 2, 21, 6), (2, 43, 2, 0, 10), (2, 22, 2, 0, 3), (2, 37, 2, 22, 8), (2, 40, 2, 23, 9), (2, 46, 2, 0, 11), (3, 18, 8, 0, 2), (3, 22, 4, 0, 3), (3, 27, 4, 30, 2), (3, 15, 8, 38, 1), (3, 9, 8, 37, 0), (4, 29, 5, 0, 1), (4, 22, 6, 0, 3), (4, 26, 6, 0, 4), (4, 11, 6, 32, 0), (4, 15, 6, 33, 1), (4, 18, 6, 34, 2), (5, 9, 1, 13, 0)]
theorem zfl_ok_1 : ∀ x ∈ zfl_1, zFF x := List.forall_mem_cons.mpr ⟨⟨4, rfl, by decide +kernel, by decide +kernel, by decide +kernel, by decide +kernel, by decide +kernel, zin 115 (by decide +kernel) (by decide +kernel)⟩, List.forall_mem_cons.mpr ⟨⟨5, rfl, by decide +kernel, by decide +kernel, by decide +kernel, by decide +kernel, by decide +kernel, zin 117 (by decide +kernel) (by decide +kernel)⟩, List.forall_mem_cons.mpr ⟨⟨6, rfl, by decide +kernel, by decide +kernel, by decide +kernel, by decide +kernel, by decide +kernel, zin 119 (by decide +kernel) (by decide +kernel)⟩, List.forall_mem_cons.mpr ⟨⟨10, rfl, by decide +kernel, by decide +kernel, by decide +kernel, by decide +kernel, by decide +kernel, zin 128 (by decide +kernel) (by decide +kernel)⟩, List.forall_mem_cons.mpr ⟨⟨3, rfl, by decide +kernel, by decide +kernel, by decide +kernel, by decide +kernel, by decide +kernel, zin 113 (by decide +kernel) (by decide +kernel)⟩, List.forall_mem_cons.mpr ⟨⟨8, rfl, by decide +kernel, by decide +kernel, by decide +kernel, by decide +kernel, by decide +kernel, zin 123 (by decide +kernel) (by decide +kernel)⟩, List.forall_mem_cons.mpr ⟨⟨9, rfl, by decide +kernel, by decide +kernel, by decide +kernel, by decide +kernel, by decide +kernel, zin 126 (by decide +kernel) (by decide +kernel)⟩, List.forall_mem_cons.mpr ⟨⟨11, rfl, by decide +kernel, by decide +kernel, by decide +kernel, by decide +kernel, by decide +kernel, zin 130 (by decide +kernel) (by decide +kernel)⟩, List.forall_mem_cons.mpr ⟨⟨2, rfl, by decide +kernel, by decide +kernel, by decide +kernel, by decide +kernel, by decide +kernel, zin 284 (by decide +kernel) (by decide +kernel)⟩, List.forall_mem_cons.mpr ⟨⟨3, rfl, by decide +kernel, by decide +kernel, by decide +kernel, by decide +kernel, by decide +kernel, zin 211 (by decide +kernel) (by decide +kernel)⟩, List.forall_mem_cons.mpr ⟨⟨2, rfl, by decide +kernel, by decide +kernel, by decide +kernel, by decide +kernel, by decide +kernel, zin 208 (by decide +kernel) (by decide +kernel)⟩, List.forall_mem_cons.mpr ⟨⟨1, rfl, by decide +kernel, by decide +kernel, by decide +kernel, by decide +kernel, by decide +kernel, zin 282 (by decide +kernel) (by decide +kernel)⟩, List.forall_mem_cons.mpr ⟨⟨0, rfl, by decide +kernel, by decide +kernel, by decide +kernel, by decide +kernel, by decide +kernel, zin 280 (by decide +kernel) (by decide +kernel)⟩, List.forall_mem_cons.mpr ⟨⟨1, rfl, by decide +kernel, by decide +kernel, by decide +kernel, by decide +kernel, by decide +kernel, zin 231 (by decide +kernel) (by decide +kernel)⟩, List.forall_mem_cons.mpr ⟨⟨3, rfl, by decide +kernel, by decide +kernel, by decide +kernel, by decide +kernel, by decide +kernel, zin 247 (by decide +kernel) (by decide +kernel)⟩, List.forall_mem_cons.mpr ⟨⟨4, rfl, by decide +kernel, by decide +kernel, by decide +kernel, by decide +kernel, by decide +kernel, zin 248 (by decide +kernel) (by decide +kernel)⟩, List.forall_mem_cons.mpr ⟨⟨0, rfl, by decide +kernel, by decide +kernel, by decide +kernel, by decide +kernel, by decide +kernel, zin 244 (by decide +kernel) (by decide +kernel)⟩, List.forall_mem_cons.mpr ⟨⟨1, rfl, by decide +kernel, by decide +kernel, by decide +kernel, by decide +kernel, by decide +kernel, zin 245 (by decide +kernel) (by decide +kernel)⟩, List.forall_mem_cons.mpr ⟨⟨2, rfl, by decide +kernel, by decide +kernel, by decide +kernel, by decide +kernel, by decide +kernel, zin 246 (by decide +kernel) (by decide +kernel)⟩, List.forall_mem_cons.mpr ⟨⟨0, rfl, by decide +kernel, by decide +kernel, by decide +kernel, by decide +kernel, by decide +kernel, zin 84 (by decide +kernel) (by decide +kernel)⟩, fun _ h => absurd h List.not_mem_nil⟩⟩⟩⟩⟩⟩⟩⟩⟩⟩⟩⟩⟩⟩⟩⟩⟩⟩⟩⟩
def zfl_2 : List (Nat × Nat × Nat × Nat × Int) := [(5, 15, 1, 14, 1), (5, 19, 1, 15, 2), (5, 24, 1, 16, 3), (6, 11, 7, 35, 0), (6, 29, 5, 0, 1), (6, 15, 7, 36, 1), (7, 9, 4, 1, 0), (7, 15, 4, 0, 1), (7, 23, 4, 0, 3), (7, 19, 4, 30, 2), (8, 10, 0, 3, 0), (8, 95, 1, 13, 0), (8, 107, 1, 14, 1), (8, 110, 1, 16, 3), (8, 120, 1, 15, 2), (8, 19, 0, 4, 1), (8, 37, 0, 0, 4), (8, 130, 2, 0, 10), (8, 133, 2, 0, 3), (8, 145, 2, 22, 8)]
theorem zfl_ok_2 : ∀ x ∈ zfl_2, zFF x := List.forall_mem_cons.mpr ⟨⟨1, rfl, by decide +kernel, by decide +kernel, by decide +kernel, by decide +kernel, by decide +kernel, zin 86 (by decide +kernel) (by decide +kernel)⟩, List.forall_mem_cons.mpr ⟨⟨2, rfl, by decide +kernel, by decide +kernel, by decide +kernel, by decide +kernel, by decide +kernel, zin 88 (by decide +kernel) (by decide +kernel)⟩, List.forall_mem_cons.mpr ⟨⟨3, rfl, by decide +kernel, by decide +kernel, by decide +kernel, by decide +kernel, by decide +kernel, zin 90 (by decide +kernel) (by decide +kernel)⟩, List.forall_mem_cons.mpr ⟨⟨0, rfl, by decide +kernel, by decide +kernel, by decide +kernel, by decide +kernel, by decide +kernel, zin 266 (by decide +kernel) (by decide +kernel)⟩, List.forall_mem_cons.mpr ⟨⟨1, rfl, by decide +kernel, by decide +kernel, by decide +kernel, by decide +kernel, by decide +kernel, zin 232 (by decide +kernel) (by decide +kernel)⟩, List.forall_mem_cons.mpr ⟨⟨1, rfl, by decide +kernel, by decide +kernel, by decide +kernel, by decide +kernel, by decide +kernel, zin 267 (by decide +kernel) (by decide +kernel)⟩, List.forall_mem_cons.mpr ⟨⟨0, rfl, by decide +kernel, by decide +kernel, by decide +kernel, by decide +kernel, by decide +kernel, zin 203 (by decide +kernel) (by decide +kernel)⟩, List.forall_mem_cons.mpr ⟨⟨1, rfl, by decide +kernel, by decide +kernel, by decide +kernel, by decide +kernel, by decide +kernel, zin 205 (by decide +kernel) (by decide +kernel)⟩, List.forall_mem_cons.mpr ⟨⟨3, rfl, by decide +kernel, by decide +kernel, by decide +kernel, by decide +kernel, by decide +kernel, zin 210 (by decide +kernel) (by decide +kernel)⟩, List.forall_mem_cons.mpr ⟨⟨2, rfl, by decide +kernel, by decide +kernel, by decide +kernel, by decide +kernel, by decide +kernel, zin 207 (by decide +kernel) (by decide +kernel)⟩, List.forall_mem_cons.mpr ⟨⟨0, rfl, by decide +kernel, by decide +kernel, by decide +kernel, by decide +kernel, by decide +kernel, zin 293 (by decide +kernel) (by decide +kernel)⟩, List.forall_mem_cons.mpr ⟨⟨0, rfl, by decide +kernel, by decide +kernel, by decide +kernel, by decide +kernel, by decide +kernel, zin 85 (by decide +kernel) (by decide +kernel)⟩, List.forall_mem_cons.mpr ⟨⟨1, rfl, by decide +kernel, by decide +kernel, by decide +kernel, by decide +kernel, by decide +kernel, zin 87 (by decide +kernel) (by decide +kernel)⟩, List.forall_mem_cons.mpr ⟨⟨3, rfl, by decide +kernel, by decide +kernel, by decide +kernel, by decide +kernel, by decide +kernel, zin 91 (by decide +kernel) (by decide +kernel)⟩, List.forall_mem_cons.mpr ⟨⟨2, rfl, by decide +kernel, by decide +kernel, by decide +kernel, by decide +kernel, by decide +kernel, zin 89 (by decide +kernel) (by decide +kernel)⟩, List.forall_mem_cons.mpr ⟨⟨1, rfl, by decide +kernel, by decide +kernel, by decide +kernel, by decide +kernel, by decide +kernel, zin 294 (by decide +kernel) (by decide +kernel)⟩, List.forall_mem_cons.mpr ⟨⟨4, rfl, by decide +kernel, by decide +kernel, by decide +kernel, by decide +kernel, by decide +kernel, zin 297 (by decide +kernel) (by decide +kernel)⟩, List.forall_mem_cons.mpr ⟨⟨10, rfl, by decide +kernel, by decide +kernel, by decide +kernel, by decide +kernel, by decide +kernel, zin 129 (by decide +kernel) (by decide +kernel)⟩, List.forall_mem_cons.mpr ⟨⟨3, rfl, by decide +kernel, by decide +kernel, by decide +kernel, by decide +kernel, by decide +kernel, zin 114 (by decide +kernel) (by decide +kernel)⟩, List.forall_mem_cons.mpr ⟨⟨8, rfl, by decide +kernel, by decide +kernel, by decide +kernel, by decide +kernel, by decide +kernel, zin 125 (by decide +kernel) (by decide +kernel)⟩, fun _ h => absurd h List.not_mem_nil⟩⟩⟩⟩⟩⟩⟩⟩⟩⟩⟩⟩⟩⟩⟩⟩⟩⟩⟩⟩
def zfl_3 : List (Nat × Nat × Nat × Nat × Int) := [(8, 148, 2, 23, 9), (8, 151, 2, 19, 4), (8, 154, 2, 20, 5), (8, 157, 2, 21, 6), (8, 160, 2, 0, 11), (8, 26, 0, 5, 2), (8, 185, 3, 24, 0), (8, 33, 0, 6, 3), (8, 190, 4, 0, 1), (8, 197, 4, 1, 0), (8, 206, 4, 0, 3), (8, 209, 4, 30, 2), (8, 65, 0, 10, 8), (8, 44, 0, 7, 5), (8, 58, 0, 9, 7), (8, 224, 8, 0, 2), (8, 228, 8, 37, 0), (8, 231, 8, 38, 1), (8, 51, 0, 8, 6), (8, 257, 3, 0, 8)]
theorem zfl_ok_3 : ∀ x ∈ zfl_3, zFF x := List.forall_mem_cons.mpr ⟨⟨9, rfl, by decide +kernel, by decide +kernel, by decide +kernel, by decide +kernel, by decide +kernel, zin 127 (by decide +kernel) (by decide +kernel)⟩, List.forall_mem_cons.mpr ⟨⟨4, rfl, by decide +kernel, by decide +kernel, by decide +kernel, by decide +kernel, by decide +kernel, zin 116 (by decide +kernel) (by decide +kernel)⟩, List.forall_mem_cons.mpr ⟨⟨5, rfl, by decide +kernel, by decide +kernel, by decide +kernel, by decide +kernel, by decide +kernel, zin 118 (by decide +kernel) (by decide +kernel)⟩, List.forall_mem_cons.mpr ⟨⟨6, rfl, by decide +kernel, by decide +kernel, by decide +kernel, by decide +kernel, by decide +kernel, zin 120 (by decide +kernel) (by decide +kernel)⟩, List.forall_mem_cons.mpr ⟨⟨11, rfl, by decide +kernel, by decide +kernel, by decide +kernel, by decide +kernel, by decide +kernel, zin 131 (by decide +kernel) (by decide +kernel)⟩, List.forall_mem_cons.mpr ⟨⟨2, rfl, by decide +kernel, by decide +kernel, by decide +kernel, by decide +kernel, by decide +kernel, zin 295 (by decide +kernel) (by decide +kernel)⟩, List.forall_mem_cons.mpr ⟨⟨0, rfl, by decide +kernel, by decide +kernel, by decide +kernel, by decide +kernel, by decide +kernel, zin 165 (by decide +kernel) (by decide +kernel)⟩, List.forall_mem_cons.mpr ⟨⟨3, rfl, by decide +kernel, by decide +kernel, by decide +kernel, by decide +kernel, by decide +kernel, zin 296 (by decide +kernel) (by decide +kernel)⟩, List.forall_mem_cons.mpr ⟨⟨1, rfl, by decide +kernel, by decide +kernel, by decide +kernel, by decide +kernel, by decide +kernel, zin 206 (by decide +kernel) (by decide +kernel)⟩, List.forall_mem_cons.mpr ⟨⟨0, rfl, by decide +kernel, by decide +kernel, by decide +kernel, by decide +kernel, by decide +kernel, zin 204 (by decide +kernel) (by decide +kernel)⟩, List.forall_mem_cons.mpr ⟨⟨3, rfl, by decide +kernel, by decide +kernel, by decide +kernel, by decide +kernel, by decide +kernel, zin 212 (by decide +kernel) (by decide +kernel)⟩, List.forall_mem_cons.mpr ⟨⟨2, rfl, by decide +kernel, by decide +kernel, by decide +kernel, by decide +kernel, by decide +kernel, zin 209 (by decide +kernel) (by decide +kernel)⟩, List.forall_mem_cons.mpr ⟨⟨8, rfl, by decide +kernel, by decide +kernel, by decide +kernel, by decide +kernel, by decide +kernel, zin 301 (by decide +kernel) (by decide +kernel)⟩, List.forall_mem_cons.mpr ⟨⟨5, rfl, by decide +kernel, by decide +kernel, by decide +kernel, by decide +kernel, by decide +kernel, zin 298 (by decide +kernel) (by decide +kernel)⟩, List.forall_mem_cons.mpr ⟨⟨7, rfl, by decide +kernel, by decide +kernel, by decide +kernel, by decide +kernel, by decide +kernel, zin 300 (by decide +kernel) (by decide +kernel)⟩, List.forall_mem_cons.mpr ⟨⟨2, rfl, by decide +kernel, by decide +kernel, by decide +kernel, by decide +kernel, by decide +kernel, zin 285 (by decide +kernel) (by decide +kernel)⟩, List.forall_mem_cons.mpr ⟨⟨0, rfl, by decide +kernel, by decide +kernel, by decide +kernel, by decide +kernel, by decide +kernel, zin 281 (by decide +kernel) (by decide +kernel)⟩, List.forall_mem_cons.mpr ⟨⟨1, rfl, by decide +kernel, by decide +kernel, by decide +kernel, by decide +kernel, by decide +kernel, zin 283 (by decide +kernel) (by decide +kernel)⟩, List.forall_mem_cons.mpr ⟨⟨6, rfl, by decide +kernel, by decide +kernel, by decide +kernel, by decide +kernel, by decide +kernel, zin 299 (by decide +kernel) (by decide +kernel)⟩, List.forall_mem_cons.mpr ⟨⟨8, rfl, by decide +kernel, by decide +kernel, by decide +kernel, by decide +kernel, by decide +kernel, zin 177 (by decide +kernel) (by decide +kernel)⟩, fun _ h => absurd h List.not_mem_nil⟩⟩⟩⟩⟩⟩⟩⟩⟩⟩⟩⟩⟩⟩⟩⟩⟩⟩⟩⟩
def zfl_4 : List (Nat × Nat × Nat × Nat × Int) := [(8, 73, 0, 0, 10), (8, 69, 0, 12, 9), (8, 284, 2, 0, 2), (8, 287, 2, 0, 7), (8, 76, 0, 0, 11), (8, 315, 7, 36, 1), (9, 101, 9, 0, 4), (9, 7, 9, 39, 0), (9, 13, 9, 40, 1), (9, 16, 9, 41, 2), (9, 19, 9, 42, 3), (9, 69, 9, 57, 29), (9, 128, 9, 0, 13), (9, 131, 9, 0, 5), (9, 28, 9, 45, 8), (9, 22, 9, 43, 6), (9, 34, 9, 0, 12), (9, 38, 9, 47, 14), (9, 41, 9, 48, 15), (9, 134, 9, 0, 11)]
theorem zfl_ok_4 : ∀ x ∈ zfl_4, zFF x := List.forall_mem_cons.mpr ⟨⟨10, rfl, by decide +kernel, by decide +kernel, by decide +kernel, by decide +kernel, by decide +kernel, zin 303 (by decide +kernel) (by decide +kernel)⟩, List.forall_mem_cons.mpr ⟨⟨9, rfl, by decide +kernel, by decide +kernel, by decide +kernel, by decide +kernel, by decide +kernel, zin 302 (by decide +kernel) (by decide +kernel)⟩, List.forall_mem_cons.mpr ⟨⟨2, rfl, by decide +kernel, by decide +kernel, by decide +kernel, by decide +kernel, by decide +kernel, zin 112 (by decide +kernel) (by decide +kernel)⟩, List.forall_mem_cons.mpr ⟨⟨7, rfl, by decide +kernel, by decide +kernel, by decide +kernel, by decide +kernel, by decide +kernel, zin 122 (by decide +kernel) (by decide +kernel)⟩, List.forall_mem_cons.mpr ⟨⟨11, rfl, by decide +kernel, by decide +kernel, by decide +kernel, by decide +kernel, by decide +kernel, zin 304 (by decide +kernel) (by decide +kernel)⟩, List.forall_mem_cons.mpr ⟨⟨1, rfl, by decide +kernel, by decide +kernel, by decide +kernel, by decide +kernel, by decide +kernel, zin 268 (by decide +kernel) (by decide +kernel)⟩, List.forall_mem_cons.mpr ⟨⟨4, rfl, by decide +kernel, by decide +kernel, by decide +kernel, by decide +kernel, by decide +kernel, zin 782 (by decide +kernel) (by decide +kernel)⟩, List.forall_mem_cons.mpr ⟨⟨0, rfl, by decide +kernel, by decide +kernel, by decide +kernel, by decide +kernel, by decide +kernel, zin 778 (by decide +kernel) (by decide +kernel)⟩, List.forall_mem_cons.mpr ⟨⟨1, rfl, by decide +kernel, by decide +kernel, by decide +kernel, by decide +kernel, by decide +kernel, zin 779 (by decide +kernel) (by decide +kernel)⟩, List.forall_mem_cons.mpr ⟨⟨2, rfl, by decide +kernel, by decide +kernel, by decide +kernel, by decide +kernel, by decide +kernel, zin 780 (by decide +kernel) (by decide +kernel)⟩, List.forall_mem_cons.mpr ⟨⟨3, rfl, by decide +kernel, by decide +kernel, by decide +kernel, by decide +kernel, by decide +kernel, zin 781 (by decide +kernel) (by decide +kernel)⟩, List.forall_mem_cons.mpr ⟨⟨29, rfl, by decide +kernel, by decide +kernel, by decide +kernel, by decide +kernel, by decide +kernel, zin 807 (by decide +kernel) (by decide +kernel)⟩, List.forall_mem_cons.mpr ⟨⟨13, rfl, by decide +kernel, by decide +kernel, by decide +kernel, by decide +kernel, by decide +kernel, zin 791 (by decide +kernel) (by decide +kernel)⟩, List.forall_mem_cons.mpr ⟨⟨5, rfl, by decide +kernel, by decide +kernel, by decide +kernel, by decide +kernel, by decide +kernel, zin 783 (by decide +kernel) (by decide +kernel)⟩, List.forall_mem_cons.mpr ⟨⟨8, rfl, by decide +kernel, by decide +kernel, by decide +kernel, by decide +kernel, by decide +kernel, zin 786 (by decide +kernel) (by decide +kernel)⟩, List.forall_mem_cons.mpr ⟨⟨6, rfl, by decide +kernel, by decide +kernel, by decide +kernel, by decide +kernel, by decide +kernel, zin 784 (by decide +kernel) (by decide +kernel)⟩, List.forall_mem_cons.mpr ⟨⟨12, rfl, by decide +kernel, by decide +kernel, by decide +kernel, by decide +kernel, by decide +kernel, zin 790 (by decide +kernel) (by decide +kernel)⟩, List.forall_mem_cons.mpr ⟨⟨14, rfl, by decide +kernel, by decide +kernel, by decide +kernel, by decide +kernel, by decide +kernel, zin 792 (by decide +kernel) (by decide +kernel)⟩, List.forall_mem_cons.mpr ⟨⟨15, rfl, by decide +kernel, by decide +kernel, by decide +kernel, by decide +kernel, by decide +kernel, zin 793 (by decide +kernel) (by decide +kernel)⟩, List.forall_mem_cons.mpr ⟨⟨11, rfl, by decide +kernel, by decide +kernel, by decide +kernel, by decide +kernel, by decide +kernel, zin 789 (by decide +kernel) (by decide +kernel)⟩, fun _ h => absurd h List.not_mem_nil⟩⟩⟩⟩⟩⟩⟩⟩⟩⟩⟩⟩⟩⟩⟩⟩⟩⟩⟩⟩
def zfl_5 : List (Nat × Nat × Nat × Nat × Int) := [(9, 137, 9, 0, 9), (9, 31, 9, 46, 10), (9, 25, 9, 44, 7), (9, 170, 9, 0, 20), (9, 48, 9, 50, 18), (9, 173, 9, 0, 17), (9, 51, 9, 51, 19), (9, 45, 9, 49, 16), (9, 190, 9, 0, 25), (9, 63, 9, 55, 26), (9, 194, 9, 0, 22), (9, 57, 9, 53, 23), (9, 60, 9, 54, 24), (9, 86, 9, 62, 34), (9, 89, 9, 63, 35), (9, 95, 9, 65, 37), (9, 92, 9, 64, 36), (9, 73, 9, 58, 30), (9, 76, 9, 59, 31), (9, 79, 9, 60, 32)]
theorem zfl_ok_5 : ∀ x ∈ zfl_5, zFF x := List.forall_mem_cons.mpr ⟨⟨9, rfl, by decide +kernel, by decide +kernel, by decide +kernel, by decide +kernel, by decide +kernel, zin 787 (by decide +kernel) (by decide +kernel)⟩, List.forall_mem_cons.mpr ⟨⟨10, rfl, by decide +kernel, by decide +kernel, by decide +kernel, by decide +kernel, by decide +kernel, zin 788 (by decide +kernel) (by decide +kernel)⟩, List.forall_mem_cons.mpr ⟨⟨7, rfl, by decide +kernel, by decide +kernel, by decide +kernel, by decide +kernel, by decide +kernel, zin 785 (by decide +kernel) (by decide +kernel)⟩, List.forall_mem_cons.mpr ⟨⟨20, rfl, by decide +kernel, by decide +kernel, by decide +kernel, by decide +kernel, by decide +kernel, zin 798 (by decide +kernel) (by decide +kernel)⟩, List.forall_mem_cons.mpr ⟨⟨18, rfl, by decide +kernel, by decide +kernel, by decide +kernel, by decide +kernel, by decide +kernel, zin 796 (by decide +kernel) (by decide +kernel)⟩, List.forall_mem_cons.mpr ⟨⟨17, rfl, by decide +kernel, by decide +kernel, by decide +kernel, by decide +kernel, by decide +kernel, zin 795 (by decide +kernel) (by decide +kernel)⟩, List.forall_mem_cons.mpr ⟨⟨19, rfl, by decide +kernel, by decide +kernel, by decide +kernel, by decide +kernel, by decide +kernel, zin 797 (by decide +kernel) (by decide +kernel)⟩, List.forall_mem_cons.mpr ⟨⟨16, rfl, by decide +kernel, by decide +kernel, by decide +kernel, by decide +kernel, by decide +kernel, zin 794 (by decide +kernel) (by decide +kernel)⟩, List.forall_mem_cons.mpr ⟨⟨25, rfl, by decide +kernel, by decide +kernel, by decide +kernel, by decide +kernel, by decide +kernel, zin 803 (by decide +kernel) (by decide +kernel)⟩, List.forall_mem_cons.mpr ⟨⟨26, rfl, by decide +kernel, by decide +kernel, by decide +kernel, by decide +kernel, by decide +kernel, zin 804 (by decide +kernel) (by decide +kernel)⟩, List.forall_mem_cons.mpr ⟨⟨22, rfl, by decide +kernel, by decide +kernel, by decide +kernel, by decide +kernel, by decide +kernel, zin 800 (by decide +kernel) (by decide +kernel)⟩, List.forall_mem_cons.mpr ⟨⟨23, rfl, by decide +kernel, by decide +kernel, by decide +kernel, by decide +kernel, by decide +kernel, zin 801 (by decide +kernel) (by decide +kernel)⟩, List.forall_mem_cons.mpr ⟨⟨24, rfl, by decide +kernel, by decide +kernel, by decide +kernel, by decide +kernel, by decide +kernel, zin 802 (by decide +kernel) (by decide +kernel)⟩, List.forall_mem_cons.mpr ⟨⟨34, rfl, by decide +kernel, by decide +kernel, by decide +kernel, by decide +kernel, by decide +kernel, zin 812 (by decide +kernel) (by decide +kernel)⟩, List.forall_mem_cons.mpr ⟨⟨35, rfl, by decide +kernel, by decide +kernel, by decide +kernel, by decide +kernel, by decide +kernel, zin 813 (by decide +kernel) (by decide +kernel)⟩, List.forall_mem_cons.mpr ⟨⟨37, rfl, by decide +kernel, by decide +kernel, by decide +kernel, by decide +kernel, by decide +kernel, zin 815 (by decide +kernel) (by decide +kernel)⟩, List.forall_mem_cons.mpr ⟨⟨36, rfl, by decide +kernel, by decide +kernel, by decide +kernel, by decide +kernel, by decide +kernel, zin 814 (by decide +kernel) (by decide +kernel)⟩, List.forall_mem_cons.mpr ⟨⟨30, rfl, by decide +kernel, by decide +kernel, by decide +kernel, by decide +kernel, by decide +kernel, zin 808 (by decide +kernel) (by decide +kernel)⟩, List.forall_mem_cons.mpr ⟨⟨31, rfl, by decide +kernel, by decide +kernel, by decide +kernel, by decide +kernel, by decide +kernel, zin 809 (by decide +kernel) (by decide +kernel)⟩, List.forall_mem_cons.mpr ⟨⟨32, rfl, by decide +kernel, by decide +kernel, by decide +kernel, by decide +kernel, by decide +kernel, zin 810 (by decide +kernel) (by decide +kernel)⟩, fun _ h => absurd h List.not_mem_nil⟩⟩⟩⟩⟩⟩⟩⟩⟩⟩⟩⟩⟩⟩⟩⟩⟩⟩⟩⟩
def zfl_6 : List (Nat × Nat × Nat × Nat × Int) := [(9, 83, 9, 61, 33), (9, 54, 9, 52, 21), (9, 98, 9, 66, 38), (9, 255, 9, 0, 28), (9, 66, 9, 56, 27)]
theorem zfl_ok_6 : ∀ x ∈ zfl_6, zFF x := List.forall_mem_cons.mpr ⟨⟨33, rfl, by decide +kernel, by decide +kernel, by decide +kernel, by decide +kernel, by decide +kernel, zin 811 (by decide +kernel) (by decide +kernel)⟩, List.forall_mem_cons.mpr ⟨⟨21, rfl, by decide +kernel, by decide +kernel, by decide +kernel, by decide +kernel, by decide +kernel, zin 799 (by decide +kernel) (by decide +kernel)⟩, List.forall_mem_cons.mpr ⟨⟨38, rfl, by decide +kernel, by decide +kernel, by decide +kernel, by decide +kernel, by decide +kernel, zin 816 (by decide +kernel) (by decide +kernel)⟩, List.forall_mem_cons.mpr ⟨⟨28, rfl, by decide +kernel, by decide +kernel, by decide +kernel, by decide +kernel, by decide +kernel, zin 806 (by decide +kernel) (by decide +kernel)⟩, List.forall_mem_cons.mpr ⟨⟨27, rfl, by decide +kernel, by decide +kernel, by decide +kernel, by decide +kernel, by decide +kernel, zin 805 (by decide +kernel) (by decide +kernel)⟩, fun _ h => absurd h List.not_mem_nil⟩⟩⟩⟩⟩
def zfl : List (Nat × Nat × Nat × Nat × Int) := zfl_0 ++ (zfl_1 ++ (zfl_2 ++ (zfl_3 ++ (zfl_4 ++ (zfl_5 ++ (zfl_6))))))
theorem zfl_ok : ∀ x ∈ zfl, zFF x := by
  show ∀ x ∈ zfl_0 ++ (zfl_1 ++ (zfl_2 ++ (zfl_3 ++ (zfl_4 ++ (zfl_5 ++ (zfl_6)))))), zFF x
  exact List.forall_mem_append.mpr ⟨zfl_ok_0, List.forall_mem_append.mpr ⟨zfl_ok_1, List.forall_mem_append.mpr ⟨zfl_ok_2, List.forall_mem_append.mpr ⟨zfl_ok_3, List.forall_mem_append.mpr ⟨zfl_ok_4, List.forall_mem_append.mpr ⟨zfl_ok_5, zfl_ok_6⟩⟩⟩⟩⟩⟩
def zkc_0 : List (Nat × Nat × Int) := [(4, 80, 1000000), (6, 22, 1000000), (8, 83, -1000001), (8, 178, -1000003), (8, 205, -1000002), (8, 227, -1000000), (8, 296, -1000010), (9, 104, -1000010), (9, 117, -1000001), (9, 189, 48984), (9, 193, -1000003), (9, 197, -1000000), (9, 202, -1000002), (9, 203, 1000000000), (9, 44, 49660)]
theorem zkc_ok_0 : ∀ x ∈ zkc_0, zKF x := List.forall_mem_cons.mpr ⟨⟨zin 599 (by decide +kernel) (by decide +kernel), by decide +kernel, by decide +kernel⟩, List.forall_mem_cons.mpr ⟨⟨zin 620 (by decide +kernel) (by decide +kernel), by decide +kernel, by decide +kernel⟩, List.forall_mem_cons.mpr ⟨⟨zin 337 (by decide +kernel) (by decide +kernel), by decide +kernel, by decide +kernel⟩, List.forall_mem_cons.mpr ⟨⟨zin 474 (by decide +kernel) (by decide +kernel), by decide +kernel, by decide +kernel⟩, List.forall_mem_cons.mpr ⟨⟨zin 514 (by decide +kernel) (by decide +kernel), by decide +kernel, by decide +kernel⟩, List.forall_mem_cons.mpr ⟨⟨zin 633 (by decide +kernel) (by decide +kernel), by decide +kernel, by decide +kernel⟩, List.forall_mem_cons.mpr ⟨⟨zin 342 (by decide +kernel) (by decide +kernel), by decide +kernel, by decide +kernel⟩, List.forall_mem_cons.mpr ⟨⟨zin 913 (by decide +kernel) (by decide +kernel), by decide +kernel, by decide +kernel⟩, List.forall_mem_cons.mpr ⟨⟨zin 908 (by decide +kernel) (by decide +kernel), by decide +kernel, by decide +kernel⟩, List.forall_mem_cons.mpr ⟨⟨zin 1003 (by decide +kernel) (by decide +kernel), by decide +kernel, by decide +kernel⟩, List.forall_mem_cons.mpr ⟨⟨zin 1008 (by decide +kernel) (by decide +kernel), by decide +kernel, by decide +kernel⟩, List.forall_mem_cons.mpr ⟨⟨zin 1017 (by decide +kernel) (by decide +kernel), by decide +kernel, by decide +kernel⟩, List.forall_mem_cons.mpr ⟨⟨zin 1018 (by decide +kernel) (by decide +kernel), by decide +kernel, by decide +kernel⟩, List.forall_mem_cons.mpr ⟨⟨zin 1031 (by decide +kernel) (by decide +kernel), by decide +kernel, by decide +kernel⟩, List.forall_mem_cons.mpr ⟨⟨zin 777 (by decide +kernel) (by decide +kernel), by decide +kernel, by decide +kernel⟩, fun _ h => absurd h List.not_mem_nil⟩⟩⟩⟩⟩⟩⟩⟩⟩⟩⟩⟩⟩⟩⟩
def zkc : List (Nat × Nat × Int) := zkc_0
theorem zkc_ok : ∀ x ∈ zkc, zKF x := by
  show ∀ x ∈ zkc_0, zKF x
  exact zkc_ok_0
def zkL_0 : List (Nat × Nat × Int) := [(8, 306, 31), (9, 105, 7), (9, 115, 2), (9, 144, 40), (9, 146, 2000), (9, 148, 12), (9, 153, 100), (9, 161, 25), (9, 166, 3), (9, 168, 11), (9, 180, 99), (9, 219, 31), (9, 233, 4), (9, 235, -2)]
theorem zkL_ok_0 : ∀ x ∈ zkL_0, zKLF x := List.forall_mem_cons.mpr ⟨⟨zin 603 (by decide +kernel) (by decide +kernel), by decide +kernel, by decide +kernel⟩, List.forall_mem_cons.mpr ⟨⟨zin 903 (by decide +kernel) (by decide +kernel), by decide +kernel, by decide +kernel⟩, List.forall_mem_cons.mpr ⟨⟨zin 907 (by decide +kernel) (by decide +kernel), by decide +kernel, by decide +kernel⟩, List.forall_mem_cons.mpr ⟨⟨zin 934 (by decide +kernel) (by decide +kernel), by decide +kernel, by decide +kernel⟩, List.forall_mem_cons.mpr ⟨⟨zin 935 (by decide +kernel) (by decide +kernel), by decide +kernel, by decide +kernel⟩, List.forall_mem_cons.mpr ⟨⟨zin 936 (by decide +kernel) (by decide +kernel), by decide +kernel, by decide +kernel⟩, List.forall_mem_cons.mpr ⟨⟨zin 953 (by decide +kernel) (by decide +kernel), by decide +kernel, by decide +kernel⟩, List.forall_mem_cons.mpr ⟨⟨zin 984 (by decide +kernel) (by decide +kernel), by decide +kernel, by decide +kernel⟩, List.forall_mem_cons.mpr ⟨⟨zin 985 (by decide +kernel) (by decide +kernel), by decide +kernel, by decide +kernel⟩, List.forall_mem_cons.mpr ⟨⟨zin 986 (by decide +kernel) (by decide +kernel), by decide +kernel, by decide +kernel⟩, List.forall_mem_cons.mpr ⟨⟨zin 987 (by decide +kernel) (by decide +kernel), by decide +kernel, by decide +kernel⟩, List.forall_mem_cons.mpr ⟨⟨zin 1064 (by decide +kernel) (by decide +kernel), by decide +kernel, by decide +kernel⟩, List.forall_mem_cons.mpr ⟨⟨zin 1040 (by decide +kernel) (by decide +kernel), by decide +kernel, by decide +kernel⟩, List.forall_mem_cons.mpr ⟨⟨zin 1041 (by decide +kernel) (by decide +kernel), by decide +kernel, by decide +kernel⟩, fun _ h => absurd h List.not_mem_nil⟩⟩⟩⟩⟩⟩⟩⟩⟩⟩⟩⟩⟩⟩
def zkL : List (Nat × Nat × Int) := zkL_0
theorem zkL_ok : ∀ x ∈ zkL, zKLF x := by
  show ∀ x ∈ zkL_0, zKLF x
  exact zkL_ok_0
def zvl_0 : List (Nat × Nat × Nat) := [(0, 40, 0), (0, 52, 8), (1, 19, 21), (1, 34, 22), (1, 42, 23), (1, 46, 10), (2, 49, 15), (2, 52, 16), (2, 55, 17), (2, 58, 18), (2, 61, 19), (2, 65, 20), (3, 31, 44), (3, 37, 25), (4, 42, 28), (4, 46, 13), (4, 49, 29), (4, 53, 31), (4, 63, 32), (4, 67, 5)]
theorem zvl_ok_0 : ∀ x ∈ zvl_0, zVF x := List.forall_mem_cons.mpr ⟨⟨zin 470 (by decide +kernel) (by decide +kernel), zin 471 (by decide +kernel) (by decide +kernel), zin 472 (by decide +kernel) (by decide +kernel)⟩, List.forall_mem_cons.mpr ⟨⟨zin 759 (by decide +kernel) (by decide +kernel), zin 761 (by decide +kernel) (by decide +kernel), zin 31 (by decide +kernel) (by decide +kernel)⟩, List.forall_mem_cons.mpr ⟨⟨zin 535 (by decide +kernel) (by decide +kernel), zin 436 (by decide +kernel) (by decide +kernel), zin 437 (by decide +kernel) (by decide +kernel)⟩, List.forall_mem_cons.mpr ⟨⟨zin 537 (by decide +kernel) (by decide +kernel), zin 538 (by decide +kernel) (by decide +kernel), zin 539 (by decide +kernel) (by decide +kernel)⟩, List.forall_mem_cons.mpr ⟨⟨zin 545 (by decide +kernel) (by decide +kernel), zin 546 (by decide +kernel) (by decide +kernel), zin 547 (by decide +kernel) (by decide +kernel)⟩, List.forall_mem_cons.mpr ⟨⟨zin 549 (by decide +kernel) (by decide +kernel), zin 551 (by decide +kernel) (by decide +kernel), zin 9 (by decide +kernel) (by decide +kernel)⟩, List.forall_mem_cons.mpr ⟨⟨zin 389 (by decide +kernel) (by decide +kernel), zin 390 (by decide +kernel) (by decide +kernel), zin 391 (by decide +kernel) (by decide +kernel)⟩, List.forall_mem_cons.mpr ⟨⟨zin 393 (by decide +kernel) (by decide +kernel), zin 395 (by decide +kernel) (by decide +kernel), zin 2 (by decide +kernel) (by decide +kernel)⟩, List.forall_mem_cons.mpr ⟨⟨zin 397 (by decide +kernel) (by decide +kernel), zin 399 (by decide +kernel) (by decide +kernel), zin 3 (by decide +kernel) (by decide +kernel)⟩, List.forall_mem_cons.mpr ⟨⟨zin 401 (by decide +kernel) (by decide +kernel), zin 403 (by decide +kernel) (by decide +kernel), zin 4 (by decide +kernel) (by decide +kernel)⟩, List.forall_mem_cons.mpr ⟨⟨zin 405 (by decide +kernel) (by decide +kernel), zin 407 (by decide +kernel) (by decide +kernel), zin 5 (by decide +kernel) (by decide +kernel)⟩, List.forall_mem_cons.mpr ⟨⟨zin 415 (by decide +kernel) (by decide +kernel), zin 417 (by decide +kernel) (by decide +kernel), zin 6 (by decide +kernel) (by decide +kernel)⟩, List.forall_mem_cons.mpr ⟨⟨zin 612 (by decide +kernel) (by decide +kernel), zin 613 (by decide +kernel) (by decide +kernel), zin 614 (by decide +kernel) (by decide +kernel)⟩, List.forall_mem_cons.mpr ⟨⟨zin 629 (by decide +kernel) (by decide +kernel), zin 631 (by decide +kernel) (by decide +kernel), zin 18 (by decide +kernel) (by decide +kernel)⟩, List.forall_mem_cons.mpr ⟨⟨zin 564 (by decide +kernel) (by decide +kernel), zin 566 (by decide +kernel) (by decide +kernel), zin 10 (by decide +kernel) (by decide +kernel)⟩, List.forall_mem_cons.mpr ⟨⟨zin 568 (by decide +kernel) (by decide +kernel), zin 569 (by decide +kernel) (by decide +kernel), zin 570 (by decide +kernel) (by decide +kernel)⟩, List.forall_mem_cons.mpr ⟨⟨zin 572 (by decide +kernel) (by decide +kernel), zin 574 (by decide +kernel) (by decide +kernel), zin 11 (by decide +kernel) (by decide +kernel)⟩, List.forall_mem_cons.mpr ⟨⟨zin 604 (by decide +kernel) (by decide +kernel), zin 606 (by decide +kernel) (by decide +kernel), zin 16 (by decide +kernel) (by decide +kernel)⟩, List.forall_mem_cons.mpr ⟨⟨zin 578 (by decide +kernel) (by decide +kernel), zin 580 (by decide +kernel) (by decide +kernel), zin 12 (by decide +kernel) (by decide +kernel)⟩, List.forall_mem_cons.mpr ⟨⟨zin 590 (by decide +kernel) (by decide +kernel), zin 591 (by decide +kernel) (by decide +kernel), zin 592 (by decide +kernel) (by decide +kernel)⟩, fun _ h => absurd h List.not_mem_nil⟩⟩⟩⟩⟩⟩⟩⟩⟩⟩⟩⟩⟩⟩⟩⟩⟩⟩⟩⟩
def zvl_1 : List (Nat × Nat × Nat) := [(4, 72, 30), (4, 81, 33), (4, 85, 34), (4, 89, 35), (4, 93, 37), (6, 39, 45), (6, 49, 13), (8, 84, 76), (8, 88, 39), (8, 92, 77), (8, 99, 40), (8, 103, 41), (8, 123, 42), (8, 126, 14), (8, 136, 15), (8, 139, 79), (8, 142, 21), (8, 174, 1), (8, 179, 2), (8, 182, 0)]
theorem zvl_ok_1 : ∀ x ∈ zvl_1, zVF x := List.forall_mem_cons.mpr ⟨⟨zin 595 (by decide +kernel) (by decide +kernel), zin 597 (by decide +kernel) (by decide +kernel), zin 15 (by decide +kernel) (by decide +kernel)⟩, List.forall_mem_cons.mpr ⟨⟨zin 582 (by decide +kernel) (by decide +kernel), zin 584 (by decide +kernel) (by decide +kernel), zin 13 (by decide +kernel) (by decide +kernel)⟩, List.forall_mem_cons.mpr ⟨⟨zin 586 (by decide +kernel) (by decide +kernel), zin 588 (by decide +kernel) (by decide +kernel), zin 14 (by decide +kernel) (by decide +kernel)⟩, List.forall_mem_cons.mpr ⟨⟨zin 659 (by decide +kernel) (by decide +kernel), zin 639 (by decide +kernel) (by decide +kernel), zin 640 (by decide +kernel) (by decide +kernel)⟩, List.forall_mem_cons.mpr ⟨⟨zin 660 (by decide +kernel) (by decide +kernel), zin 643 (by decide +kernel) (by decide +kernel), zin 644 (by decide +kernel) (by decide +kernel)⟩, List.forall_mem_cons.mpr ⟨⟨zin 623 (by decide +kernel) (by decide +kernel), zin 625 (by decide +kernel) (by decide +kernel), zin 17 (by decide +kernel) (by decide +kernel)⟩, List.forall_mem_cons.mpr ⟨⟨zin 627 (by decide +kernel) (by decide +kernel), zin 569 (by decide +kernel) (by decide +kernel), zin 570 (by decide +kernel) (by decide +kernel)⟩, List.forall_mem_cons.mpr ⟨⟨zin 338 (by decide +kernel) (by decide +kernel), zin 340 (by decide +kernel) (by decide +kernel), zin 0 (by decide +kernel) (by decide +kernel)⟩, List.forall_mem_cons.mpr ⟨⟨zin 343 (by decide +kernel) (by decide +kernel), zin 344 (by decide +kernel) (by decide +kernel), zin 345 (by decide +kernel) (by decide +kernel)⟩, List.forall_mem_cons.mpr ⟨⟨zin 350 (by decide +kernel) (by decide +kernel), zin 352 (by decide +kernel) (by decide +kernel), zin 1 (by decide +kernel) (by decide +kernel)⟩, List.forall_mem_cons.mpr ⟨⟨zin 358 (by decide +kernel) (by decide +kernel), zin 359 (by decide +kernel) (by decide +kernel), zin 360 (by decide +kernel) (by decide +kernel)⟩, List.forall_mem_cons.mpr ⟨⟨zin 362 (by decide +kernel) (by decide +kernel), zin 363 (by decide +kernel) (by decide +kernel), zin 364 (by decide +kernel) (by decide +kernel)⟩, List.forall_mem_cons.mpr ⟨⟨zin 381 (by decide +kernel) (by decide +kernel), zin 382 (by decide +kernel) (by decide +kernel), zin 383 (by decide +kernel) (by decide +kernel)⟩, List.forall_mem_cons.mpr ⟨⟨zin 385 (by decide +kernel) (by decide +kernel), zin 386 (by decide +kernel) (by decide +kernel), zin 387 (by decide +kernel) (by decide +kernel)⟩, List.forall_mem_cons.mpr ⟨⟨zin 426 (by decide +kernel) (by decide +kernel), zin 390 (by decide +kernel) (by decide +kernel), zin 391 (by decide +kernel) (by decide +kernel)⟩, List.forall_mem_cons.mpr ⟨⟨zin 431 (by decide +kernel) (by decide +kernel), zin 433 (by decide +kernel) (by decide +kernel), zin 7 (by decide +kernel) (by decide +kernel)⟩, List.forall_mem_cons.mpr ⟨⟨zin 435 (by decide +kernel) (by decide +kernel), zin 436 (by decide +kernel) (by decide +kernel), zin 437 (by decide +kernel) (by decide +kernel)⟩, List.forall_mem_cons.mpr ⟨⟨zin 466 (by decide +kernel) (by decide +kernel), zin 467 (by decide +kernel) (by decide +kernel), zin 468 (by decide +kernel) (by decide +kernel)⟩, List.forall_mem_cons.mpr ⟨⟨zin 475 (by decide +kernel) (by decide +kernel), zin 476 (by decide +kernel) (by decide +kernel), zin 477 (by decide +kernel) (by decide +kernel)⟩, List.forall_mem_cons.mpr ⟨⟨zin 484 (by decide +kernel) (by decide +kernel), zin 471 (by decide +kernel) (by decide +kernel), zin 472 (by decide +kernel) (by decide +kernel)⟩, fun _ h => absurd h List.not_mem_nil⟩⟩⟩⟩⟩⟩⟩⟩⟩⟩⟩⟩⟩⟩⟩⟩⟩⟩⟩⟩
def zvl_2 : List (Nat × Nat × Nat) := [(8, 193, 47), (8, 201, 49), (8, 213, 48), (8, 217, 90), (8, 220, 24), (8, 234, 35), (8, 237, 37), (8, 243, 36), (8, 250, 38), (8, 254, 44), (8, 260, 46), (8, 264, 3), (8, 267, 91), (8, 270, 4), (8, 273, 92), (8, 276, 94), (8, 279, 99), (8, 282, 43), (8, 290, 6), (8, 293, 7)]
theorem zvl_ok_2 : ∀ x ∈ zvl_2, zVF x := List.forall_mem_cons.mpr ⟨⟨zin 496 (by decide +kernel) (by decide +kernel), zin 497 (by decide +kernel) (by decide +kernel), zin 498 (by decide +kernel) (by decide +kernel)⟩, List.forall_mem_cons.mpr ⟨⟨zin 510 (by decide +kernel) (by decide +kernel), zin 511 (by decide +kernel) (by decide +kernel), zin 512 (by decide +kernel) (by decide +kernel)⟩, List.forall_mem_cons.mpr ⟨⟨zin 515 (by decide +kernel) (by decide +kernel), zin 516 (by decide +kernel) (by decide +kernel), zin 517 (by decide +kernel) (by decide +kernel)⟩, List.forall_mem_cons.mpr ⟨⟨zin 527 (by decide +kernel) (by decide +kernel), zin 529 (by decide +kernel) (by decide +kernel), zin 8 (by decide +kernel) (by decide +kernel)⟩, List.forall_mem_cons.mpr ⟨⟨zin 608 (by decide +kernel) (by decide +kernel), zin 609 (by decide +kernel) (by decide +kernel), zin 610 (by decide +kernel) (by decide +kernel)⟩, List.forall_mem_cons.mpr ⟨⟨zin 638 (by decide +kernel) (by decide +kernel), zin 639 (by decide +kernel) (by decide +kernel), zin 640 (by decide +kernel) (by decide +kernel)⟩, List.forall_mem_cons.mpr ⟨⟨zin 642 (by decide +kernel) (by decide +kernel), zin 643 (by decide +kernel) (by decide +kernel), zin 644 (by decide +kernel) (by decide +kernel)⟩, List.forall_mem_cons.mpr ⟨⟨zin 647 (by decide +kernel) (by decide +kernel), zin 648 (by decide +kernel) (by decide +kernel), zin 649 (by decide +kernel) (by decide +kernel)⟩, List.forall_mem_cons.mpr ⟨⟨zin 655 (by decide +kernel) (by decide +kernel), zin 656 (by decide +kernel) (by decide +kernel), zin 657 (by decide +kernel) (by decide +kernel)⟩, List.forall_mem_cons.mpr ⟨⟨zin 665 (by decide +kernel) (by decide +kernel), zin 613 (by decide +kernel) (by decide +kernel), zin 614 (by decide +kernel) (by decide +kernel)⟩, List.forall_mem_cons.mpr ⟨⟨zin 666 (by decide +kernel) (by decide +kernel), zin 667 (by decide +kernel) (by decide +kernel), zin 668 (by decide +kernel) (by decide +kernel)⟩, List.forall_mem_cons.mpr ⟨⟨zin 670 (by decide +kernel) (by decide +kernel), zin 671 (by decide +kernel) (by decide +kernel), zin 672 (by decide +kernel) (by decide +kernel)⟩, List.forall_mem_cons.mpr ⟨⟨zin 674 (by decide +kernel) (by decide +kernel), zin 676 (by decide +kernel) (by decide +kernel), zin 19 (by decide +kernel) (by decide +kernel)⟩, List.forall_mem_cons.mpr ⟨⟨zin 683 (by decide +kernel) (by decide +kernel), zin 684 (by decide +kernel) (by decide +kernel), zin 685 (by decide +kernel) (by decide +kernel)⟩, List.forall_mem_cons.mpr ⟨⟨zin 691 (by decide +kernel) (by decide +kernel), zin 693 (by decide +kernel) (by decide +kernel), zin 20 (by decide +kernel) (by decide +kernel)⟩, List.forall_mem_cons.mpr ⟨⟨zin 703 (by decide +kernel) (by decide +kernel), zin 705 (by decide +kernel) (by decide +kernel), zin 21 (by decide +kernel) (by decide +kernel)⟩, List.forall_mem_cons.mpr ⟨⟨zin 727 (by decide +kernel) (by decide +kernel), zin 729 (by decide +kernel) (by decide +kernel), zin 27 (by decide +kernel) (by decide +kernel)⟩, List.forall_mem_cons.mpr ⟨⟨zin 751 (by decide +kernel) (by decide +kernel), zin 752 (by decide +kernel) (by decide +kernel), zin 753 (by decide +kernel) (by decide +kernel)⟩, List.forall_mem_cons.mpr ⟨⟨zin 755 (by decide +kernel) (by decide +kernel), zin 756 (by decide +kernel) (by decide +kernel), zin 757 (by decide +kernel) (by decide +kernel)⟩, List.forall_mem_cons.mpr ⟨⟨zin 763 (by decide +kernel) (by decide +kernel), zin 764 (by decide +kernel) (by decide +kernel), zin 765 (by decide +kernel) (by decide +kernel)⟩, fun _ h => absurd h List.not_mem_nil⟩⟩⟩⟩⟩⟩⟩⟩⟩⟩⟩⟩⟩⟩⟩⟩⟩⟩⟩⟩
def zvl_3 : List (Nat × Nat × Nat) := [(8, 308, 9), (8, 312, 26), (8, 318, 22), (8, 321, 98), (8, 324, 97), (8, 327, 96), (8, 330, 95), (8, 333, 93), (8, 336, 102), (8, 339, 101), (8, 342, 100), (9, 118, 104), (9, 122, 105), (9, 125, 111), (9, 140, 113), (9, 150, 112), (9, 155, 116), (9, 158, 117), (9, 186, 124), (9, 198, 129)]
theorem zvl_ok_3 : ∀ x ∈ zvl_3, zVF x := List.forall_mem_cons.mpr ⟨⟨zin 531 (by decide +kernel) (by decide +kernel), zin 532 (by decide +kernel) (by decide +kernel), zin 533 (by decide +kernel) (by decide +kernel)⟩, List.forall_mem_cons.mpr ⟨⟨zin 556 (by decide +kernel) (by decide +kernel), zin 557 (by decide +kernel) (by decide +kernel), zin 558 (by decide +kernel) (by decide +kernel)⟩, List.forall_mem_cons.mpr ⟨⟨zin 678 (by decide +kernel) (by decide +kernel), zin 538 (by decide +kernel) (by decide +kernel), zin 539 (by decide +kernel) (by decide +kernel)⟩, List.forall_mem_cons.mpr ⟨⟨zin 707 (by decide +kernel) (by decide +kernel), zin 709 (by decide +kernel) (by decide +kernel), zin 22 (by decide +kernel) (by decide +kernel)⟩, List.forall_mem_cons.mpr ⟨⟨zin 715 (by decide +kernel) (by decide +kernel), zin 717 (by decide +kernel) (by decide +kernel), zin 24 (by decide +kernel) (by decide +kernel)⟩, List.forall_mem_cons.mpr ⟨⟨zin 719 (by decide +kernel) (by decide +kernel), zin 721 (by decide +kernel) (by decide +kernel), zin 25 (by decide +kernel) (by decide +kernel)⟩, List.forall_mem_cons.mpr ⟨⟨zin 723 (by decide +kernel) (by decide +kernel), zin 725 (by decide +kernel) (by decide +kernel), zin 26 (by decide +kernel) (by decide +kernel)⟩, List.forall_mem_cons.mpr ⟨⟨zin 711 (by decide +kernel) (by decide +kernel), zin 713 (by decide +kernel) (by decide +kernel), zin 23 (by decide +kernel) (by decide +kernel)⟩, List.forall_mem_cons.mpr ⟨⟨zin 731 (by decide +kernel) (by decide +kernel), zin 733 (by decide +kernel) (by decide +kernel), zin 28 (by decide +kernel) (by decide +kernel)⟩, List.forall_mem_cons.mpr ⟨⟨zin 735 (by decide +kernel) (by decide +kernel), zin 737 (by decide +kernel) (by decide +kernel), zin 29 (by decide +kernel) (by decide +kernel)⟩, List.forall_mem_cons.mpr ⟨⟨zin 739 (by decide +kernel) (by decide +kernel), zin 741 (by decide +kernel) (by decide +kernel), zin 30 (by decide +kernel) (by decide +kernel)⟩, List.forall_mem_cons.mpr ⟨⟨zin 909 (by decide +kernel) (by decide +kernel), zin 911 (by decide +kernel) (by decide +kernel), zin 32 (by decide +kernel) (by decide +kernel)⟩, List.forall_mem_cons.mpr ⟨⟨zin 914 (by decide +kernel) (by decide +kernel), zin 916 (by decide +kernel) (by decide +kernel), zin 33 (by decide +kernel) (by decide +kernel)⟩, List.forall_mem_cons.mpr ⟨⟨zin 941 (by decide +kernel) (by decide +kernel), zin 943 (by decide +kernel) (by decide +kernel), zin 35 (by decide +kernel) (by decide +kernel)⟩, List.forall_mem_cons.mpr ⟨⟨zin 945 (by decide +kernel) (by decide +kernel), zin 947 (by decide +kernel) (by decide +kernel), zin 36 (by decide +kernel) (by decide +kernel)⟩, List.forall_mem_cons.mpr ⟨⟨zin 937 (by decide +kernel) (by decide +kernel), zin 939 (by decide +kernel) (by decide +kernel), zin 34 (by decide +kernel) (by decide +kernel)⟩, List.forall_mem_cons.mpr ⟨⟨zin 958 (by decide +kernel) (by decide +kernel), zin 960 (by decide +kernel) (by decide +kernel), zin 37 (by decide +kernel) (by decide +kernel)⟩, List.forall_mem_cons.mpr ⟨⟨zin 962 (by decide +kernel) (by decide +kernel), zin 964 (by decide +kernel) (by decide +kernel), zin 38 (by decide +kernel) (by decide +kernel)⟩, List.forall_mem_cons.mpr ⟨⟨zin 991 (by decide +kernel) (by decide +kernel), zin 993 (by decide +kernel) (by decide +kernel), zin 39 (by decide +kernel) (by decide +kernel)⟩, List.forall_mem_cons.mpr ⟨⟨zin 1013 (by decide +kernel) (by decide +kernel), zin 1015 (by decide +kernel) (by decide +kernel), zin 40 (by decide +kernel) (by decide +kernel)⟩, fun _ h => absurd h List.not_mem_nil⟩⟩⟩⟩⟩⟩⟩⟩⟩⟩⟩⟩⟩⟩⟩⟩⟩⟩⟩⟩
def zvl_4 : List (Nat × Nat × Nat) := [(9, 204, 132), (9, 208, 133), (9, 215, 135), (9, 221, 137), (9, 225, 140), (9, 237, 139), (9, 241, 142), (9, 245, 145), (9, 249, 148), (9, 252, 147), (9, 258, 151), (9, 261, 152), (9, 264, 153), (10, 13, 50), (10, 17, 107), (10, 18, 51), (10, 21, 108), (10, 22, 52), (10, 26, 109), (10, 27, 53)]
theorem zvl_ok_4 : ∀ x ∈ zvl_4, zVF x := List.forall_mem_cons.mpr ⟨⟨zin 1032 (by decide +kernel) (by decide +kernel), zin 1034 (by decide +kernel) (by decide +kernel), zin 42 (by decide +kernel) (by decide +kernel)⟩, List.forall_mem_cons.mpr ⟨⟨zin 1027 (by decide +kernel) (by decide +kernel), zin 1029 (by decide +kernel) (by decide +kernel), zin 41 (by decide +kernel) (by decide +kernel)⟩, List.forall_mem_cons.mpr ⟨⟨zin 1053 (by decide +kernel) (by decide +kernel), zin 1055 (by decide +kernel) (by decide +kernel), zin 45 (by decide +kernel) (by decide +kernel)⟩, List.forall_mem_cons.mpr ⟨⟨zin 1046 (by decide +kernel) (by decide +kernel), zin 1048 (by decide +kernel) (by decide +kernel), zin 44 (by decide +kernel) (by decide +kernel)⟩, List.forall_mem_cons.mpr ⟨⟨zin 1057 (by decide +kernel) (by decide +kernel), zin 1059 (by decide +kernel) (by decide +kernel), zin 46 (by decide +kernel) (by decide +kernel)⟩, List.forall_mem_cons.mpr ⟨⟨zin 1042 (by decide +kernel) (by decide +kernel), zin 1044 (by decide +kernel) (by decide +kernel), zin 43 (by decide +kernel) (by decide +kernel)⟩, List.forall_mem_cons.mpr ⟨⟨zin 1069 (by decide +kernel) (by decide +kernel), zin 1071 (by decide +kernel) (by decide +kernel), zin 47 (by decide +kernel) (by decide +kernel)⟩, List.forall_mem_cons.mpr ⟨⟨zin 1077 (by decide +kernel) (by decide +kernel), zin 1079 (by decide +kernel) (by decide +kernel), zin 48 (by decide +kernel) (by decide +kernel)⟩, List.forall_mem_cons.mpr ⟨⟨zin 1093 (by decide +kernel) (by decide +kernel), zin 1095 (by decide +kernel) (by decide +kernel), zin 50 (by decide +kernel) (by decide +kernel)⟩, List.forall_mem_cons.mpr ⟨⟨zin 1089 (by decide +kernel) (by decide +kernel), zin 1091 (by decide +kernel) (by decide +kernel), zin 49 (by decide +kernel) (by decide +kernel)⟩, List.forall_mem_cons.mpr ⟨⟨zin 1109 (by decide +kernel) (by decide +kernel), zin 1111 (by decide +kernel) (by decide +kernel), zin 52 (by decide +kernel) (by decide +kernel)⟩, List.forall_mem_cons.mpr ⟨⟨zin 1113 (by decide +kernel) (by decide +kernel), zin 1115 (by decide +kernel) (by decide +kernel), zin 53 (by decide +kernel) (by decide +kernel)⟩, List.forall_mem_cons.mpr ⟨⟨zin 1105 (by decide +kernel) (by decide +kernel), zin 1107 (by decide +kernel) (by decide +kernel), zin 51 (by decide +kernel) (by decide +kernel)⟩, List.forall_mem_cons.mpr ⟨⟨zin 330 (by decide +kernel) (by decide +kernel), zin 331 (by decide +kernel) (by decide +kernel), zin 332 (by decide +kernel) (by decide +kernel)⟩, List.forall_mem_cons.mpr ⟨⟨zin 896 (by decide +kernel) (by decide +kernel), zin 897 (by decide +kernel) (by decide +kernel), zin 898 (by decide +kernel) (by decide +kernel)⟩, List.forall_mem_cons.mpr ⟨⟨zin 354 (by decide +kernel) (by decide +kernel), zin 355 (by decide +kernel) (by decide +kernel), zin 356 (by decide +kernel) (by decide +kernel)⟩, List.forall_mem_cons.mpr ⟨⟨zin 918 (by decide +kernel) (by decide +kernel), zin 919 (by decide +kernel) (by decide +kernel), zin 920 (by decide +kernel) (by decide +kernel)⟩, List.forall_mem_cons.mpr ⟨⟨zin 366 (by decide +kernel) (by decide +kernel), zin 367 (by decide +kernel) (by decide +kernel), zin 368 (by decide +kernel) (by decide +kernel)⟩, List.forall_mem_cons.mpr ⟨⟨zin 922 (by decide +kernel) (by decide +kernel), zin 923 (by decide +kernel) (by decide +kernel), zin 924 (by decide +kernel) (by decide +kernel)⟩, List.forall_mem_cons.mpr ⟨⟨zin 373 (by decide +kernel) (by decide +kernel), zin 374 (by decide +kernel) (by decide +kernel), zin 375 (by decide +kernel) (by decide +kernel)⟩, fun _ h => absurd h List.not_mem_nil⟩⟩⟩⟩⟩⟩⟩⟩⟩⟩⟩⟩⟩⟩⟩⟩⟩⟩⟩⟩
def zvl_5 : List (Nat × Nat × Nat) := [(10, 31, 110), (10, 32, 54), (10, 35, 114), (10, 36, 55), (10, 39, 115), (10, 40, 56), (10, 44, 118), (10, 45, 57), (10, 48, 119), (10, 49, 58), (10, 53, 120), (10, 54, 59), (10, 58, 125), (10, 59, 60), (10, 62, 126), (10, 63, 61), (10, 66, 127), (10, 67, 62), (10, 70, 128), (10, 71, 63)]
theorem zvl_ok_5 : ∀ x ∈ zvl_5, zVF x := List.forall_mem_cons.mpr ⟨⟨zin 926 (by decide +kernel) (by decide +kernel), zin 927 (by decide +kernel) (by decide +kernel), zin 928 (by decide +kernel) (by decide +kernel)⟩, List.forall_mem_cons.mpr ⟨⟨zin 377 (by decide +kernel) (by decide +kernel), zin 378 (by decide +kernel) (by decide +kernel), zin 379 (by decide +kernel) (by decide +kernel)⟩, List.forall_mem_cons.mpr ⟨⟨zin 930 (by decide +kernel) (by decide +kernel), zin 931 (by decide +kernel) (by decide +kernel), zin 932 (by decide +kernel) (by decide +kernel)⟩, List.forall_mem_cons.mpr ⟨⟨zin 422 (by decide +kernel) (by decide +kernel), zin 423 (by decide +kernel) (by decide +kernel), zin 424 (by decide +kernel) (by decide +kernel)⟩, List.forall_mem_cons.mpr ⟨⟨zin 949 (by decide +kernel) (by decide +kernel), zin 950 (by decide +kernel) (by decide +kernel), zin 951 (by decide +kernel) (by decide +kernel)⟩, List.forall_mem_cons.mpr ⟨⟨zin 427 (by decide +kernel) (by decide +kernel), zin 428 (by decide +kernel) (by decide +kernel), zin 429 (by decide +kernel) (by decide +kernel)⟩, List.forall_mem_cons.mpr ⟨⟨zin 954 (by decide +kernel) (by decide +kernel), zin 955 (by decide +kernel) (by decide +kernel), zin 956 (by decide +kernel) (by decide +kernel)⟩, List.forall_mem_cons.mpr ⟨⟨zin 439 (by decide +kernel) (by decide +kernel), zin 440 (by decide +kernel) (by decide +kernel), zin 441 (by decide +kernel) (by decide +kernel)⟩, List.forall_mem_cons.mpr ⟨⟨zin 966 (by decide +kernel) (by decide +kernel), zin 967 (by decide +kernel) (by decide +kernel), zin 968 (by decide +kernel) (by decide +kernel)⟩, List.forall_mem_cons.mpr ⟨⟨zin 443 (by decide +kernel) (by decide +kernel), zin 444 (by decide +kernel) (by decide +kernel), zin 445 (by decide +kernel) (by decide +kernel)⟩, List.forall_mem_cons.mpr ⟨⟨zin 970 (by decide +kernel) (by decide +kernel), zin 971 (by decide +kernel) (by decide +kernel), zin 972 (by decide +kernel) (by decide +kernel)⟩, List.forall_mem_cons.mpr ⟨⟨zin 447 (by decide +kernel) (by decide +kernel), zin 448 (by decide +kernel) (by decide +kernel), zin 449 (by decide +kernel) (by decide +kernel)⟩, List.forall_mem_cons.mpr ⟨⟨zin 974 (by decide +kernel) (by decide +kernel), zin 975 (by decide +kernel) (by decide +kernel), zin 976 (by decide +kernel) (by decide +kernel)⟩, List.forall_mem_cons.mpr ⟨⟨zin 480 (by decide +kernel) (by decide +kernel), zin 481 (by decide +kernel) (by decide +kernel), zin 482 (by decide +kernel) (by decide +kernel)⟩, List.forall_mem_cons.mpr ⟨⟨zin 995 (by decide +kernel) (by decide +kernel), zin 996 (by decide +kernel) (by decide +kernel), zin 997 (by decide +kernel) (by decide +kernel)⟩, List.forall_mem_cons.mpr ⟨⟨zin 485 (by decide +kernel) (by decide +kernel), zin 486 (by decide +kernel) (by decide +kernel), zin 487 (by decide +kernel) (by decide +kernel)⟩, List.forall_mem_cons.mpr ⟨⟨zin 999 (by decide +kernel) (by decide +kernel), zin 1000 (by decide +kernel) (by decide +kernel), zin 1001 (by decide +kernel) (by decide +kernel)⟩, List.forall_mem_cons.mpr ⟨⟨zin 492 (by decide +kernel) (by decide +kernel), zin 493 (by decide +kernel) (by decide +kernel), zin 494 (by decide +kernel) (by decide +kernel)⟩, List.forall_mem_cons.mpr ⟨⟨zin 1004 (by decide +kernel) (by decide +kernel), zin 1005 (by decide +kernel) (by decide +kernel), zin 1006 (by decide +kernel) (by decide +kernel)⟩, List.forall_mem_cons.mpr ⟨⟨zin 506 (by decide +kernel) (by decide +kernel), zin 507 (by decide +kernel) (by decide +kernel), zin 508 (by decide +kernel) (by decide +kernel)⟩, fun _ h => absurd h List.not_mem_nil⟩⟩⟩⟩⟩⟩⟩⟩⟩⟩⟩⟩⟩⟩⟩⟩⟩⟩⟩⟩
def zvl_6 : List (Nat × Nat × Nat) := [(10, 74, 130), (10, 75, 64), (10, 78, 131), (10, 79, 65), (10, 82, 134), (10, 83, 66), (10, 86, 141), (10, 87, 67), (10, 90, 143), (10, 91, 68), (10, 94, 144), (10, 95, 69), (10, 98, 146), (10, 99, 70), (10, 102, 149), (10, 103, 71), (10, 106, 150), (10, 107, 72), (10, 110, 154), (10, 111, 73)]
theorem zvl_ok_6 : ∀ x ∈ zvl_6, zVF x := List.forall_mem_cons.mpr ⟨⟨zin 1009 (by decide +kernel) (by decide +kernel), zin 1010 (by decide +kernel) (by decide +kernel), zin 1011 (by decide +kernel) (by decide +kernel)⟩, List.forall_mem_cons.mpr ⟨⟨zin 519 (by decide +kernel) (by decide +kernel), zin 520 (by decide +kernel) (by decide +kernel), zin 521 (by decide +kernel) (by decide +kernel)⟩, List.forall_mem_cons.mpr ⟨⟨zin 1019 (by decide +kernel) (by decide +kernel), zin 1020 (by decide +kernel) (by decide +kernel), zin 1021 (by decide +kernel) (by decide +kernel)⟩, List.forall_mem_cons.mpr ⟨⟨zin 523 (by decide +kernel) (by decide +kernel), zin 524 (by decide +kernel) (by decide +kernel), zin 525 (by decide +kernel) (by decide +kernel)⟩, List.forall_mem_cons.mpr ⟨⟨zin 1023 (by decide +kernel) (by decide +kernel), zin 1024 (by decide +kernel) (by decide +kernel), zin 1025 (by decide +kernel) (by decide +kernel)⟩, List.forall_mem_cons.mpr ⟨⟨zin 634 (by decide +kernel) (by decide +kernel), zin 635 (by decide +kernel) (by decide +kernel), zin 636 (by decide +kernel) (by decide +kernel)⟩, List.forall_mem_cons.mpr ⟨⟨zin 1036 (by decide +kernel) (by decide +kernel), zin 1037 (by decide +kernel) (by decide +kernel), zin 1038 (by decide +kernel) (by decide +kernel)⟩, List.forall_mem_cons.mpr ⟨⟨zin 651 (by decide +kernel) (by decide +kernel), zin 652 (by decide +kernel) (by decide +kernel), zin 653 (by decide +kernel) (by decide +kernel)⟩, List.forall_mem_cons.mpr ⟨⟨zin 1065 (by decide +kernel) (by decide +kernel), zin 1066 (by decide +kernel) (by decide +kernel), zin 1067 (by decide +kernel) (by decide +kernel)⟩, List.forall_mem_cons.mpr ⟨⟨zin 661 (by decide +kernel) (by decide +kernel), zin 662 (by decide +kernel) (by decide +kernel), zin 663 (by decide +kernel) (by decide +kernel)⟩, List.forall_mem_cons.mpr ⟨⟨zin 1073 (by decide +kernel) (by decide +kernel), zin 1074 (by decide +kernel) (by decide +kernel), zin 1075 (by decide +kernel) (by decide +kernel)⟩, List.forall_mem_cons.mpr ⟨⟨zin 679 (by decide +kernel) (by decide +kernel), zin 680 (by decide +kernel) (by decide +kernel), zin 681 (by decide +kernel) (by decide +kernel)⟩, List.forall_mem_cons.mpr ⟨⟨zin 1081 (by decide +kernel) (by decide +kernel), zin 1082 (by decide +kernel) (by decide +kernel), zin 1083 (by decide +kernel) (by decide +kernel)⟩, List.forall_mem_cons.mpr ⟨⟨zin 687 (by decide +kernel) (by decide +kernel), zin 688 (by decide +kernel) (by decide +kernel), zin 689 (by decide +kernel) (by decide +kernel)⟩, List.forall_mem_cons.mpr ⟨⟨zin 1085 (by decide +kernel) (by decide +kernel), zin 1086 (by decide +kernel) (by decide +kernel), zin 1087 (by decide +kernel) (by decide +kernel)⟩, List.forall_mem_cons.mpr ⟨⟨zin 695 (by decide +kernel) (by decide +kernel), zin 696 (by decide +kernel) (by decide +kernel), zin 697 (by decide +kernel) (by decide +kernel)⟩, List.forall_mem_cons.mpr ⟨⟨zin 1097 (by decide +kernel) (by decide +kernel), zin 1098 (by decide +kernel) (by decide +kernel), zin 1099 (by decide +kernel) (by decide +kernel)⟩, List.forall_mem_cons.mpr ⟨⟨zin 699 (by decide +kernel) (by decide +kernel), zin 700 (by decide +kernel) (by decide +kernel), zin 701 (by decide +kernel) (by decide +kernel)⟩, List.forall_mem_cons.mpr ⟨⟨zin 1101 (by decide +kernel) (by decide +kernel), zin 1102 (by decide +kernel) (by decide +kernel), zin 1103 (by decide +kernel) (by decide +kernel)⟩, List.forall_mem_cons.mpr ⟨⟨zin 743 (by decide +kernel) (by decide +kernel), zin 744 (by decide +kernel) (by decide +kernel), zin 745 (by decide +kernel) (by decide +kernel)⟩, fun _ h => absurd h List.not_mem_nil⟩⟩⟩⟩⟩⟩⟩⟩⟩⟩⟩⟩⟩⟩⟩⟩⟩⟩⟩⟩
def zvl_7 : List (Nat × Nat × Nat) := [(10, 114, 155), (10, 115, 74), (10, 118, 156), (10, 119, 75), (10, 122, 157)]
theorem zvl_ok_7 : ∀ x ∈ zvl_7, zVF x := List.forall_mem_cons.mpr ⟨⟨zin 1117 (by decide +kernel) (by decide +kernel), zin 1118 (by decide +kernel) (by decide +kernel), zin 1119 (by decide +kernel) (by decide +kernel)⟩, List.forall_mem_cons.mpr ⟨⟨zin 747 (by decide +kernel) (by decide +kernel), zin 748 (by decide +kernel) (by decide +kernel), zin 749 (by decide +kernel) (by decide +kernel)⟩, List.forall_mem_cons.mpr ⟨⟨zin 1121 (by decide +kernel) (by decide +kernel), zin 1122 (by decide +kernel) (by decide +kernel), zin 1123 (by decide +kernel) (by decide +kernel)⟩, List.forall_mem_cons.mpr ⟨⟨zin 767 (by decide +kernel) (by decide +kernel), zin 768 (by decide +kernel) (by decide +kernel), zin 769 (by decide +kernel) (by decide +kernel)⟩, List.forall_mem_cons.mpr ⟨⟨zin 1125 (by decide +kernel) (by decide +kernel), zin 1126 (by decide +kernel) (by decide +kernel), zin 1127 (by decide +kernel) (by decide +kernel)⟩, fun _ h => absurd h List.not_mem_nil⟩⟩⟩⟩⟩
def zvl : List (Nat × Nat × Nat) := zvl_0 ++ (zvl_1 ++ (zvl_2 ++ (zvl_3 ++ (zvl_4 ++ (zvl_5 ++ (zvl_6 ++ (zvl_7)))))))
theorem zvl_ok : ∀ x ∈ zvl, zVF x := by
  show ∀ x ∈ zvl_0 ++ (zvl_1 ++ (zvl_2 ++ (zvl_3 ++ (zvl_4 ++ (zvl_5 ++ (zvl_6 ++ (zvl_7))))))), zVF x
  exact List.forall_mem_append.mpr ⟨zvl_ok_0, List.forall_mem_append.mpr ⟨zvl_ok_1, List.forall_mem_append.mpr ⟨zvl_ok_2, List.forall_mem_append.mpr ⟨zvl_ok_3, List.forall_mem_append.mpr ⟨zvl_ok_4, List.forall_mem_append.mpr ⟨zvl_ok_5, List.forall_mem_append.mpr ⟨zvl_ok_6, zvl_ok_7⟩⟩⟩⟩⟩⟩⟩
def zsl_0 : List (Nat × Nat × Nat) := [(1, 25, 158), (1, 38, 12), (1, 64, 11), (4, 38, 27), (5, 27, 158), (6, 23, 158), (8, 79, 78), (8, 163, 80), (8, 166, 82), (8, 170, 83), (8, 187, 85), (8, 240, 88), (8, 246, 87), (8, 297, 81), (8, 300, 84), (8, 303, 86), (9, 107, 103), (9, 111, 106), (9, 163, 121), (9, 176, 123)]
theorem zsl_ok_0 : ∀ x ∈ zsl_0, zSF x := List.forall_mem_cons.mpr ⟨⟨zin 536 (by decide +kernel) (by decide +kernel), zin 348 (by decide +kernel) (by decide +kernel)⟩, List.forall_mem_cons.mpr ⟨⟨zin 542 (by decide +kernel) (by decide +kernel), zin 543 (by decide +kernel) (by decide +kernel)⟩, List.forall_mem_cons.mpr ⟨⟨zin 553 (by decide +kernel) (by decide +kernel), zin 554 (by decide +kernel) (by decide +kernel)⟩, List.forall_mem_cons.mpr ⟨⟨zin 561 (by decide +kernel) (by decide +kernel), zin 562 (by decide +kernel) (by decide +kernel)⟩, List.forall_mem_cons.mpr ⟨⟨zin 347 (by decide +kernel) (by decide +kernel), zin 348 (by decide +kernel) (by decide +kernel)⟩, List.forall_mem_cons.mpr ⟨⟨zin 621 (by decide +kernel) (by decide +kernel), zin 348 (by decide +kernel) (by decide +kernel)⟩, List.forall_mem_cons.mpr ⟨⟨zin 334 (by decide +kernel) (by decide +kernel), zin 335 (by decide +kernel) (by decide +kernel)⟩, List.forall_mem_cons.mpr ⟨⟨zin 451 (by decide +kernel) (by decide +kernel), zin 452 (by decide +kernel) (by decide +kernel)⟩, List.forall_mem_cons.mpr ⟨⟨zin 454 (by decide +kernel) (by decide +kernel), zin 455 (by decide +kernel) (by decide +kernel)⟩, List.forall_mem_cons.mpr ⟨⟨zin 460 (by decide +kernel) (by decide +kernel), zin 461 (by decide +kernel) (by decide +kernel)⟩, List.forall_mem_cons.mpr ⟨⟨zin 489 (by decide +kernel) (by decide +kernel), zin 490 (by decide +kernel) (by decide +kernel)⟩, List.forall_mem_cons.mpr ⟨⟨zin 646 (by decide +kernel) (by decide +kernel), zin 617 (by decide +kernel) (by decide +kernel)⟩, List.forall_mem_cons.mpr ⟨⟨zin 619 (by decide +kernel) (by decide +kernel), zin 601 (by decide +kernel) (by decide +kernel)⟩, List.forall_mem_cons.mpr ⟨⟨zin 457 (by decide +kernel) (by decide +kernel), zin 458 (by decide +kernel) (by decide +kernel)⟩, List.forall_mem_cons.mpr ⟨⟨zin 463 (by decide +kernel) (by decide +kernel), zin 464 (by decide +kernel) (by decide +kernel)⟩, List.forall_mem_cons.mpr ⟨⟨zin 503 (by decide +kernel) (by decide +kernel), zin 504 (by decide +kernel) (by decide +kernel)⟩, List.forall_mem_cons.mpr ⟨⟨zin 904 (by decide +kernel) (by decide +kernel), zin 905 (by decide +kernel) (by decide +kernel)⟩, List.forall_mem_cons.mpr ⟨⟨zin 900 (by decide +kernel) (by decide +kernel), zin 901 (by decide +kernel) (by decide +kernel)⟩, List.forall_mem_cons.mpr ⟨⟨zin 981 (by decide +kernel) (by decide +kernel), zin 982 (by decide +kernel) (by decide +kernel)⟩, List.forall_mem_cons.mpr ⟨⟨zin 978 (by decide +kernel) (by decide +kernel), zin 979 (by decide +kernel) (by decide +kernel)⟩, fun _ h => absurd h List.not_mem_nil⟩⟩⟩⟩⟩⟩⟩⟩⟩⟩⟩⟩⟩⟩⟩⟩⟩⟩⟩⟩
def zsl_1 : List (Nat × Nat × Nat) := [(9, 182, 122), (9, 212, 136), (9, 229, 138)]
theorem zsl_ok_1 : ∀ x ∈ zsl_1, zSF x := List.forall_mem_cons.mpr ⟨⟨zin 988 (by decide +kernel) (by decide +kernel), zin 989 (by decide +kernel) (by decide +kernel)⟩, List.forall_mem_cons.mpr ⟨⟨zin 1050 (by decide +kernel) (by decide +kernel), zin 1051 (by decide +kernel) (by decide +kernel)⟩, List.forall_mem_cons.mpr ⟨⟨zin 1061 (by decide +kernel) (by decide +kernel), zin 1062 (by decide +kernel) (by decide +kernel)⟩, fun _ h => absurd h List.not_mem_nil⟩⟩⟩
def zsl : List (Nat × Nat × Nat) := zsl_0 ++ (zsl_1)
theorem zsl_ok : ∀ x ∈ zsl, zSF x := by
  show ∀ x ∈ zsl_0 ++ (zsl_1), zSF x
  exact List.forall_mem_append.mpr ⟨zsl_ok_0, zsl_ok_1⟩
def znl_0 : List (Nat × Nat × Nat) := [(0, 49, 85), (2, 80, 84), (4, 59, 89), (4, 76, 87), (6, 18, 88), (6, 35, 87), (7, 26, 89)]
theorem znl_ok_0 : ∀ x ∈ znl_0, zNF x := List.forall_mem_cons.mpr ⟨⟨List.mem_of_getElem? (i := 594) (by decide +kernel), zin 490 (by decide +kernel) (by decide +kernel)⟩, List.forall_mem_cons.mpr ⟨⟨List.mem_of_getElem? (i := 541) (by decide +kernel), zin 464 (by decide +kernel) (by decide +kernel)⟩, List.forall_mem_cons.mpr ⟨⟨List.mem_of_getElem? (i := 577) (by decide +kernel), zin 501 (by decide +kernel) (by decide +kernel)⟩, List.forall_mem_cons.mpr ⟨⟨List.mem_of_getElem? (i := 600) (by decide +kernel), zin 601 (by decide +kernel) (by decide +kernel)⟩, List.forall_mem_cons.mpr ⟨⟨List.mem_of_getElem? (i := 616) (by decide +kernel), zin 617 (by decide +kernel) (by decide +kernel)⟩, List.forall_mem_cons.mpr ⟨⟨List.mem_of_getElem? (i := 622) (by decide +kernel), zin 601 (by decide +kernel) (by decide +kernel)⟩, List.forall_mem_cons.mpr ⟨⟨List.mem_of_getElem? (i := 500) (by decide +kernel), zin 501 (by decide +kernel) (by decide +kernel)⟩, fun _ h => absurd h List.not_mem_nil⟩⟩⟩⟩⟩⟩⟩
def znl : List (Nat × Nat × Nat) := znl_0
theorem znl_ok : ∀ x ∈ znl, zNF x := by
  show ∀ x ∈ znl_0, zNF x
  exact znl_ok_0
def zxl_0 : List (Nat × Nat × Nat) := [(0, 44, 9010), (2, 69, 9010), (2, 74, 9011), (2, 77, 9012), (4, 32, 9011), (4, 56, 9010), (6, 43, 9010), (8, 114, 9013)]
theorem zxl_ok_0 : ∀ x ∈ zxl_0, zXF x := List.forall_mem_cons.mpr ⟨zin 479 (by decide +kernel) (by decide +kernel), List.forall_mem_cons.mpr ⟨zin 409 (by decide +kernel) (by decide +kernel), List.forall_mem_cons.mpr ⟨zin 412 (by decide +kernel) (by decide +kernel), List.forall_mem_cons.mpr ⟨zin 419 (by decide +kernel) (by decide +kernel), List.forall_mem_cons.mpr ⟨zin 560 (by decide +kernel) (by decide +kernel), List.forall_mem_cons.mpr ⟨zin 576 (by decide +kernel) (by decide +kernel), List.forall_mem_cons.mpr ⟨zin 628 (by decide +kernel) (by decide +kernel), List.forall_mem_cons.mpr ⟨zin 370 (by decide +kernel) (by decide +kernel), fun _ h => absurd h List.not_mem_nil⟩⟩⟩⟩⟩⟩⟩⟩
def zxl : List (Nat × Nat × Nat) := zxl_0
theorem zxl_ok : ∀ x ∈ zxl, zXF x := by
  show ∀ x ∈ zxl_0, zXF x
  exact zxl_ok_0
theorem zX_min : Cond.static Lib.Math.min.name ∈ zTB ∧ Cond.code Lib.Math.min.name Lib.Math.min.code 2 (some .int) ∈ zTB := ⟨zin 410 (by decide +kernel) (by decide +kernel), zin 411 (by decide +kernel) (by decide +kernel)⟩
theorem zX_max : Cond.static Lib.Math.max.name ∈ zTB ∧ Cond.code Lib.Math.max.name Lib.Math.max.code 2 (some .int) ∈ zTB := ⟨zin 413 (by decide +kernel) (by decide +kernel), zin 414 (by decide +kernel) (by decide +kernel)⟩
theorem zX_abs : Cond.static Lib.Math.abs.name ∈ zTB ∧ Cond.code Lib.Math.abs.name Lib.Math.abs.code 1 (some .int) ∈ zTB := ⟨zin 420 (by decide +kernel) (by decide +kernel), zin 421 (by decide +kernel) (by decide +kernel)⟩
theorem zX_init : Cond.initialized "java/lang/Math" ∈ zTB ∧ Cond.initialized "java/lang/System" ∈ zTB := ⟨zin 67 (by decide +kernel) (by decide +kernel), zin 66 (by decide +kernel) (by decide +kernel)⟩
theorem zX_copy : Cond.native arraycopyName ∈ zTB ∧ Cond.static arraycopyName ∈ zTB := ⟨zin 372 (by decide +kernel) (by decide +kernel), zin 371 (by decide +kernel) (by decide +kernel)⟩
theorem zmf_0 : zMF 0 := ⟨zin 473 (by decide +kernel) (by decide +kernel), zin 58 (by decide +kernel) (by decide +kernel), by decide +kernel, ⟨by decide +kernel, by decide +kernel⟩, by decide +kernel, by decide +kernel, by decide +kernel⟩
theorem zmf_1 : zMF 1 := ⟨zin 469 (by decide +kernel) (by decide +kernel), zin 58 (by decide +kernel) (by decide +kernel), by decide +kernel, ⟨by decide +kernel, by decide +kernel⟩, by decide +kernel, by decide +kernel, by decide +kernel⟩
theorem zmf_2 : zMF 2 := ⟨zin 478 (by decide +kernel) (by decide +kernel), zin 58 (by decide +kernel) (by decide +kernel), by decide +kernel, ⟨by decide +kernel, by decide +kernel⟩, by decide +kernel, by decide +kernel, by decide +kernel⟩
theorem zmf_3 : zMF 3 := ⟨zin 673 (by decide +kernel) (by decide +kernel), zin 58 (by decide +kernel) (by decide +kernel), by decide +kernel, ⟨by decide +kernel, by decide +kernel⟩, by decide +kernel, by decide +kernel, by decide +kernel⟩
theorem zmf_4 : zMF 4 := ⟨zin 686 (by decide +kernel) (by decide +kernel), zin 58 (by decide +kernel) (by decide +kernel), by decide +kernel, ⟨by decide +kernel, by decide +kernel⟩, by decide +kernel, by decide +kernel, by decide +kernel⟩
theorem zmf_5 : zMF 5 := ⟨zin 593 (by decide +kernel) (by decide +kernel), zin 58 (by decide +kernel) (by decide +kernel), by decide +kernel, ⟨by decide +kernel, by decide +kernel⟩, by decide +kernel, by decide +kernel, by decide +kernel⟩
theorem zmf_6 : zMF 6 := ⟨zin 758 (by decide +kernel) (by decide +kernel), zin 58 (by decide +kernel) (by decide +kernel), by decide +kernel, ⟨by decide +kernel, by decide +kernel⟩, by decide +kernel, by decide +kernel, by decide +kernel⟩
theorem zmf_7 : zMF 7 := ⟨zin 766 (by decide +kernel) (by decide +kernel), zin 58 (by decide +kernel) (by decide +kernel), by decide +kernel, ⟨by decide +kernel, by decide +kernel⟩, by decide +kernel, by decide +kernel, by decide +kernel⟩
theorem zmf_8 : zMF 8 := ⟨zin 762 (by decide +kernel) (by decide +kernel), zin 58 (by decide +kernel) (by decide +kernel), by decide +kernel, ⟨by decide +kernel, by decide +kernel⟩, by decide +kernel, by decide +kernel, by decide +kernel⟩
theorem zmf_9 : zMF 9 := ⟨zin 534 (by decide +kernel) (by decide +kernel), zin 60 (by decide +kernel) (by decide +kernel), by decide +kernel, ⟨by decide +kernel, by decide +kernel⟩, by decide +kernel, by decide +kernel, by decide +kernel⟩
theorem zmf_10 : zMF 10 := ⟨zin 552 (by decide +kernel) (by decide +kernel), zin 60 (by decide +kernel) (by decide +kernel), by decide +kernel, ⟨by decide +kernel, by decide +kernel⟩, by decide +kernel, by decide +kernel, by decide +kernel⟩
theorem zmf_11 : zMF 11 := ⟨zin 555 (by decide +kernel) (by decide +kernel), zin 60 (by decide +kernel) (by decide +kernel), by decide +kernel, ⟨by decide +kernel, by decide +kernel⟩, by decide +kernel, by decide +kernel, by decide +kernel⟩
theorem zmf_12 : zMF 12 := ⟨zin 544 (by decide +kernel) (by decide +kernel), zin 60 (by decide +kernel) (by decide +kernel), by decide +kernel, ⟨by decide +kernel, by decide +kernel⟩, by decide +kernel, by decide +kernel, by decide +kernel⟩
theorem zmf_13 : zMF 13 := ⟨zin 571 (by decide +kernel) (by decide +kernel), zin 60 (by decide +kernel) (by decide +kernel), by decide +kernel, ⟨by decide +kernel, by decide +kernel⟩, by decide +kernel, by decide +kernel, by decide +kernel⟩
theorem zmf_14 : zMF 14 := ⟨zin 388 (by decide +kernel) (by decide +kernel), zin 57 (by decide +kernel) (by decide +kernel), by decide +kernel, ⟨by decide +kernel, by decide +kernel⟩, by decide +kernel, by decide +kernel, by decide +kernel⟩
theorem zmf_15 : zMF 15 := ⟨zin 392 (by decide +kernel) (by decide +kernel), zin 57 (by decide +kernel) (by decide +kernel), by decide +kernel, ⟨by decide +kernel, by decide +kernel⟩, by decide +kernel, by decide +kernel, by decide +kernel⟩
theorem zmf_16 : zMF 16 := ⟨zin 396 (by decide +kernel) (by decide +kernel), zin 57 (by decide +kernel) (by decide +kernel), by decide +kernel, ⟨by decide +kernel, by decide +kernel⟩, by decide +kernel, by decide +kernel, by decide +kernel⟩
theorem zmf_17 : zMF 17 := ⟨zin 400 (by decide +kernel) (by decide +kernel), zin 57 (by decide +kernel) (by decide +kernel), by decide +kernel, ⟨by decide +kernel, by decide +kernel⟩, by decide +kernel, by decide +kernel, by decide +kernel⟩
theorem zmf_18 : zMF 18 := ⟨zin 404 (by decide +kernel) (by decide +kernel), zin 57 (by decide +kernel) (by decide +kernel), by decide +kernel, ⟨by decide +kernel, by decide +kernel⟩, by decide +kernel, by decide +kernel, by decide +kernel⟩
theorem zmf_19 : zMF 19 := ⟨zin 408 (by decide +kernel) (by decide +kernel), zin 57 (by decide +kernel) (by decide +kernel), by decide +kernel, ⟨by decide +kernel, by decide +kernel⟩, by decide +kernel, by decide +kernel, by decide +kernel⟩
theorem zmf_20 : zMF 20 := ⟨zin 418 (by decide +kernel) (by decide +kernel), zin 57 (by decide +kernel) (by decide +kernel), by decide +kernel, ⟨by decide +kernel, by decide +kernel⟩, by decide +kernel, by decide +kernel, by decide +kernel⟩
theorem zmf_21 : zMF 21 := ⟨zin 438 (by decide +kernel) (by decide +kernel), zin 57 (by decide +kernel) (by decide +kernel), by decide +kernel, ⟨by decide +kernel, by decide +kernel⟩, by decide +kernel, by decide +kernel, by decide +kernel⟩
theorem zmf_22 : zMF 22 := ⟨zin 540 (by decide +kernel) (by decide +kernel), zin 57 (by decide +kernel) (by decide +kernel), by decide +kernel, ⟨by decide +kernel, by decide +kernel⟩, by decide +kernel, by decide +kernel, by decide +kernel⟩
theorem zmf_23 : zMF 23 := ⟨zin 548 (by decide +kernel) (by decide +kernel), zin 57 (by decide +kernel) (by decide +kernel), by decide +kernel, ⟨by decide +kernel, by decide +kernel⟩, by decide +kernel, by decide +kernel, by decide +kernel⟩
theorem zmf_24 : zMF 24 := ⟨zin 611 (by decide +kernel) (by decide +kernel), zin 63 (by decide +kernel) (by decide +kernel), by decide +kernel, ⟨by decide +kernel, by decide +kernel⟩, by decide +kernel, by decide +kernel, by decide +kernel⟩
theorem zmf_25 : zMF 25 := ⟨zin 632 (by decide +kernel) (by decide +kernel), zin 63 (by decide +kernel) (by decide +kernel), by decide +kernel, ⟨by decide +kernel, by decide +kernel⟩, by decide +kernel, by decide +kernel, by decide +kernel⟩
theorem zmf_26 : zMF 26 := ⟨zin 559 (by decide +kernel) (by decide +kernel), zin 61 (by decide +kernel) (by decide +kernel), by decide +kernel, ⟨by decide +kernel, by decide +kernel⟩, by decide +kernel, by decide +kernel, by decide +kernel⟩
theorem zmf_27 : zMF 27 := ⟨zin 563 (by decide +kernel) (by decide +kernel), zin 61 (by decide +kernel) (by decide +kernel), by decide +kernel, ⟨by decide +kernel, by decide +kernel⟩, by decide +kernel, by decide +kernel, by decide +kernel⟩
theorem zmf_28 : zMF 28 := ⟨zin 567 (by decide +kernel) (by decide +kernel), zin 61 (by decide +kernel) (by decide +kernel), by decide +kernel, ⟨by decide +kernel, by decide +kernel⟩, by decide +kernel, by decide +kernel, by decide +kernel⟩
theorem zmf_29 : zMF 29 := ⟨zin 575 (by decide +kernel) (by decide +kernel), zin 61 (by decide +kernel) (by decide +kernel), by decide +kernel, ⟨by decide +kernel, by decide +kernel⟩, by decide +kernel, by decide +kernel, by decide +kernel⟩
theorem zmf_30 : zMF 30 := ⟨zin 598 (by decide +kernel) (by decide +kernel), zin 61 (by decide +kernel) (by decide +kernel), by decide +kernel, ⟨by decide +kernel, by decide +kernel⟩, by decide +kernel, by decide +kernel, by decide +kernel⟩
theorem zmf_31 : zMF 31 := ⟨zin 607 (by decide +kernel) (by decide +kernel), zin 61 (by decide +kernel) (by decide +kernel), by decide +kernel, ⟨by decide +kernel, by decide +kernel⟩, by decide +kernel, by decide +kernel, by decide +kernel⟩
theorem zmf_32 : zMF 32 := ⟨zin 581 (by decide +kernel) (by decide +kernel), zin 61 (by decide +kernel) (by decide +kernel), by decide +kernel, ⟨by decide +kernel, by decide +kernel⟩, by decide +kernel, by decide +kernel, by decide +kernel⟩
theorem zmf_33 : zMF 33 := ⟨zin 585 (by decide +kernel) (by decide +kernel), zin 61 (by decide +kernel) (by decide +kernel), by decide +kernel, ⟨by decide +kernel, by decide +kernel⟩, by decide +kernel, by decide +kernel, by decide +kernel⟩
theorem zmf_34 : zMF 34 := ⟨zin 589 (by decide +kernel) (by decide +kernel), zin 61 (by decide +kernel) (by decide +kernel), by decide +kernel, ⟨by decide +kernel, by decide +kernel⟩, by decide +kernel, by decide +kernel, by decide +kernel⟩
theorem zmf_35 : zMF 35 := ⟨zin 641 (by decide +kernel) (by decide +kernel), zin 61 (by decide +kernel) (by decide +kernel), by decide +kernel, ⟨by decide +kernel, by decide +kernel⟩, by decide +kernel, by decide +kernel, by decide +kernel⟩
theorem zmf_36 : zMF 36 := ⟨zin 650 (by decide +kernel) (by decide +kernel), zin 61 (by decide +kernel) (by decide +kernel), by decide +kernel, ⟨by decide +kernel, by decide +kernel⟩, by decide +kernel, by decide +kernel, by decide +kernel⟩
theorem zmf_37 : zMF 37 := ⟨zin 645 (by decide +kernel) (by decide +kernel), zin 61 (by decide +kernel) (by decide +kernel), by decide +kernel, ⟨by decide +kernel, by decide +kernel⟩, by decide +kernel, by decide +kernel, by decide +kernel⟩
theorem zmf_38 : zMF 38 := ⟨zin 658 (by decide +kernel) (by decide +kernel), zin 61 (by decide +kernel) (by decide +kernel), by decide +kernel, ⟨by decide +kernel, by decide +kernel⟩, by decide +kernel, by decide +kernel, by decide +kernel⟩
theorem zmf_39 : zMF 39 := ⟨zin 346 (by decide +kernel) (by decide +kernel), zin 56 (by decide +kernel) (by decide +kernel), by decide +kernel, ⟨by decide +kernel, by decide +kernel⟩, by decide +kernel, by decide +kernel, by decide +kernel⟩
theorem zmf_40 : zMF 40 := ⟨zin 361 (by decide +kernel) (by decide +kernel), zin 56 (by decide +kernel) (by decide +kernel), by decide +kernel, ⟨by decide +kernel, by decide +kernel⟩, by decide +kernel, by decide +kernel, by decide +kernel⟩
theorem zmf_41 : zMF 41 := ⟨zin 365 (by decide +kernel) (by decide +kernel), zin 56 (by decide +kernel) (by decide +kernel), by decide +kernel, ⟨by decide +kernel, by decide +kernel⟩, by decide +kernel, by decide +kernel, by decide +kernel⟩
theorem zmf_42 : zMF 42 := ⟨zin 384 (by decide +kernel) (by decide +kernel), zin 56 (by decide +kernel) (by decide +kernel), by decide +kernel, ⟨by decide +kernel, by decide +kernel⟩, by decide +kernel, by decide +kernel, by decide +kernel⟩
theorem zmf_43 : zMF 43 := ⟨zin 754 (by decide +kernel) (by decide +kernel), zin 56 (by decide +kernel) (by decide +kernel), by decide +kernel, ⟨by decide +kernel, by decide +kernel⟩, by decide +kernel, by decide +kernel, by decide +kernel⟩
theorem zmf_44 : zMF 44 := ⟨zin 615 (by decide +kernel) (by decide +kernel), zin 62 (by decide +kernel) (by decide +kernel), by decide +kernel, ⟨by decide +kernel, by decide +kernel⟩, by decide +kernel, by decide +kernel, by decide +kernel⟩
theorem zmf_45 : zMF 45 := ⟨zin 626 (by decide +kernel) (by decide +kernel), zin 62 (by decide +kernel) (by decide +kernel), by decide +kernel, ⟨by decide +kernel, by decide +kernel⟩, by decide +kernel, by decide +kernel, by decide +kernel⟩
theorem zmf_46 : zMF 46 := ⟨zin 669 (by decide +kernel) (by decide +kernel), zin 62 (by decide +kernel) (by decide +kernel), by decide +kernel, ⟨by decide +kernel, by decide +kernel⟩, by decide +kernel, by decide +kernel, by decide +kernel⟩
theorem zmf_47 : zMF 47 := ⟨zin 499 (by decide +kernel) (by decide +kernel), zin 59 (by decide +kernel) (by decide +kernel), by decide +kernel, ⟨by decide +kernel, by decide +kernel⟩, by decide +kernel, by decide +kernel, by decide +kernel⟩
theorem zmf_48 : zMF 48 := ⟨zin 518 (by decide +kernel) (by decide +kernel), zin 59 (by decide +kernel) (by decide +kernel), by decide +kernel, ⟨by decide +kernel, by decide +kernel⟩, by decide +kernel, by decide +kernel, by decide +kernel⟩
theorem zmf_49 : zMF 49 := ⟨zin 513 (by decide +kernel) (by decide +kernel), zin 59 (by decide +kernel) (by decide +kernel), by decide +kernel, ⟨by decide +kernel, by decide +kernel⟩, by decide +kernel, by decide +kernel, by decide +kernel⟩
theorem zmf_50 : zMF 50 := ⟨zin 333 (by decide +kernel) (by decide +kernel), zin 55 (by decide +kernel) (by decide +kernel), by decide +kernel, ⟨by decide +kernel, by decide +kernel⟩, by decide +kernel, by decide +kernel, by decide +kernel⟩
theorem zmf_51 : zMF 51 := ⟨zin 357 (by decide +kernel) (by decide +kernel), zin 55 (by decide +kernel) (by decide +kernel), by decide +kernel, ⟨by decide +kernel, by decide +kernel⟩, by decide +kernel, by decide +kernel, by decide +kernel⟩
theorem zmf_52 : zMF 52 := ⟨zin 369 (by decide +kernel) (by decide +kernel), zin 55 (by decide +kernel) (by decide +kernel), by decide +kernel, ⟨by decide +kernel, by decide +kernel⟩, by decide +kernel, by decide +kernel, by decide +kernel⟩
theorem zmf_53 : zMF 53 := ⟨zin 376 (by decide +kernel) (by decide +kernel), zin 55 (by decide +kernel) (by decide +kernel), by decide +kernel, ⟨by decide +kernel, by decide +kernel⟩, by decide +kernel, by decide +kernel, by decide +kernel⟩
theorem zmf_54 : zMF 54 := ⟨zin 380 (by decide +kernel) (by decide +kernel), zin 55 (by decide +kernel) (by decide +kernel), by decide +kernel, ⟨by decide +kernel, by decide +kernel⟩, by decide +kernel, by decide +kernel, by decide +kernel⟩
theorem zmf_55 : zMF 55 := ⟨zin 425 (by decide +kernel) (by decide +kernel), zin 55 (by decide +kernel) (by decide +kernel), by decide +kernel, ⟨by decide +kernel, by decide +kernel⟩, by decide +kernel, by decide +kernel, by decide +kernel⟩
theorem zmf_56 : zMF 56 := ⟨zin 430 (by decide +kernel) (by decide +kernel), zin 55 (by decide +kernel) (by decide +kernel), by decide +kernel, ⟨by decide +kernel, by decide +kernel⟩, by decide +kernel, by decide +kernel, by decide +kernel⟩
theorem zmf_57 : zMF 57 := ⟨zin 442 (by decide +kernel) (by decide +kernel), zin 55 (by decide +kernel) (by decide +kernel), by decide +kernel, ⟨by decide +kernel, by decide +kernel⟩, by decide +kernel, by decide +kernel, by decide +kernel⟩
theorem zmf_58 : zMF 58 := ⟨zin 446 (by decide +kernel) (by decide +kernel), zin 55 (by decide +kernel) (by decide +kernel), by decide +kernel, ⟨by decide +kernel, by decide +kernel⟩, by decide +kernel, by decide +kernel, by decide +kernel⟩
theorem zmf_59 : zMF 59 := ⟨zin 450 (by decide +kernel) (by decide +kernel), zin 55 (by decide +kernel) (by decide +kernel), by decide +kernel, ⟨by decide +kernel, by decide +kernel⟩, by decide +kernel, by decide +kernel, by decide +kernel⟩
theorem zmf_60 : zMF 60 := ⟨zin 483 (by decide +kernel) (by decide +kernel), zin 55 (by decide +kernel) (by decide +kernel), by decide +kernel, ⟨by decide +kernel, by decide +kernel⟩, by decide +kernel, by decide +kernel, by decide +kernel⟩
theorem zmf_61 : zMF 61 := ⟨zin 488 (by decide +kernel) (by decide +kernel), zin 55 (by decide +kernel) (by decide +kernel), by decide +kernel, ⟨by decide +kernel, by decide +kernel⟩, by decide +kernel, by decide +kernel, by decide +kernel⟩
theorem zmf_62 : zMF 62 := ⟨zin 495 (by decide +kernel) (by decide +kernel), zin 55 (by decide +kernel) (by decide +kernel), by decide +kernel, ⟨by decide +kernel, by decide +kernel⟩, by decide +kernel, by decide +kernel, by decide +kernel⟩
theorem zmf_63 : zMF 63 := ⟨zin 509 (by decide +kernel) (by decide +kernel), zin 55 (by decide +kernel) (by decide +kernel), by decide +kernel, ⟨by decide +kernel, by decide +kernel⟩, by decide +kernel, by decide +kernel, by decide +kernel⟩
theorem zmf_64 : zMF 64 := ⟨zin 522 (by decide +kernel) (by decide +kernel), zin 55 (by decide +kernel) (by decide +kernel), by decide +kernel, ⟨by decide +kernel, by decide +kernel⟩, by decide +kernel, by decide +kernel, by decide +kernel⟩
theorem zmf_65 : zMF 65 := ⟨zin 526 (by decide +kernel) (by decide +kernel), zin 55 (by decide +kernel) (by decide +kernel), by decide +kernel, ⟨by decide +kernel, by decide +kernel⟩, by decide +kernel, by decide +kernel, by decide +kernel⟩
theorem zmf_66 : zMF 66 := ⟨zin 637 (by decide +kernel) (by decide +kernel), zin 55 (by decide +kernel) (by decide +kernel), by decide +kernel, ⟨by decide +kernel, by decide +kernel⟩, by decide +kernel, by decide +kernel, by decide +kernel⟩
theorem zmf_67 : zMF 67 := ⟨zin 654 (by decide +kernel) (by decide +kernel), zin 55 (by decide +kernel) (by decide +kernel), by decide +kernel, ⟨by decide +kernel, by decide +kernel⟩, by decide +kernel, by decide +kernel, by decide +kernel⟩
theorem zmf_68 : zMF 68 := ⟨zin 664 (by decide +kernel) (by decide +kernel), zin 55 (by decide +kernel) (by decide +kernel), by decide +kernel, ⟨by decide +kernel, by decide +kernel⟩, by decide +kernel, by decide +kernel, by decide +kernel⟩
theorem zmf_69 : zMF 69 := ⟨zin 682 (by decide +kernel) (by decide +kernel), zin 55 (by decide +kernel) (by decide +kernel), by decide +kernel, ⟨by decide +kernel, by decide +kernel⟩, by decide +kernel, by decide +kernel, by decide +kernel⟩
theorem zmf_70 : zMF 70 := ⟨zin 690 (by decide +kernel) (by decide +kernel), zin 55 (by decide +kernel) (by decide +kernel), by decide +kernel, ⟨by decide +kernel, by decide +kernel⟩, by decide +kernel, by decide +kernel, by decide +kernel⟩
theorem zmf_71 : zMF 71 := ⟨zin 698 (by decide +kernel) (by decide +kernel), zin 55 (by decide +kernel) (by decide +kernel), by decide +kernel, ⟨by decide +kernel, by decide +kernel⟩, by decide +kernel, by decide +kernel, by decide +kernel⟩
theorem zmf_72 : zMF 72 := ⟨zin 702 (by decide +kernel) (by decide +kernel), zin 55 (by decide +kernel) (by decide +kernel), by decide +kernel, ⟨by decide +kernel, by decide +kernel⟩, by decide +kernel, by decide +kernel, by decide +kernel⟩
theorem zmf_73 : zMF 73 := ⟨zin 746 (by decide +kernel) (by decide +kernel), zin 55 (by decide +kernel) (by decide +kernel), by decide +kernel, ⟨by decide +kernel, by decide +kernel⟩, by decide +kernel, by decide +kernel, by decide +kernel⟩
theorem zmf_74 : zMF 74 := ⟨zin 750 (by decide +kernel) (by decide +kernel), zin 55 (by decide +kernel) (by decide +kernel), by decide +kernel, ⟨by decide +kernel, by decide +kernel⟩, by decide +kernel, by decide +kernel, by decide +kernel⟩
theorem zmf_75 : zMF 75 := ⟨zin 770 (by decide +kernel) (by decide +kernel), zin 55 (by decide +kernel) (by decide +kernel), by decide +kernel, ⟨by decide +kernel, by decide +kernel⟩, by decide +kernel, by decide +kernel, by decide +kernel⟩
theorem zmf_76 : zMF 76 := ⟨zin 341 (by decide +kernel) (by decide +kernel), zin 55 (by decide +kernel) (by decide +kernel), by decide +kernel, ⟨by decide +kernel, by decide +kernel⟩, by decide +kernel, by decide +kernel, by decide +kernel⟩
theorem zmf_77 : zMF 77 := ⟨zin 353 (by decide +kernel) (by decide +kernel), zin 55 (by decide +kernel) (by decide +kernel), by decide +kernel, ⟨by decide +kernel, by decide +kernel⟩, by decide +kernel, by decide +kernel, by decide +kernel⟩
theorem zmf_78 : zMF 78 := ⟨zin 336 (by decide +kernel) (by decide +kernel), zin 55 (by decide +kernel) (by decide +kernel), by decide +kernel, ⟨by decide +kernel, by decide +kernel⟩, by decide +kernel, by decide +kernel, by decide +kernel⟩
theorem zmf_79 : zMF 79 := ⟨zin 434 (by decide +kernel) (by decide +kernel), zin 55 (by decide +kernel) (by decide +kernel), by decide +kernel, ⟨by decide +kernel, by decide +kernel⟩, by decide +kernel, by decide +kernel, by decide +kernel⟩
theorem zmf_80 : zMF 80 := ⟨zin 453 (by decide +kernel) (by decide +kernel), zin 55 (by decide +kernel) (by decide +kernel), by decide +kernel, ⟨by decide +kernel, by decide +kernel⟩, by decide +kernel, by decide +kernel, by decide +kernel⟩
theorem zmf_81 : zMF 81 := ⟨zin 459 (by decide +kernel) (by decide +kernel), zin 55 (by decide +kernel) (by decide +kernel), by decide +kernel, ⟨by decide +kernel, by decide +kernel⟩, by decide +kernel, by decide +kernel, by decide +kernel⟩
theorem zmf_82 : zMF 82 := ⟨zin 456 (by decide +kernel) (by decide +kernel), zin 55 (by decide +kernel) (by decide +kernel), by decide +kernel, ⟨by decide +kernel, by decide +kernel⟩, by decide +kernel, by decide +kernel, by decide +kernel⟩
theorem zmf_83 : zMF 83 := ⟨zin 462 (by decide +kernel) (by decide +kernel), zin 55 (by decide +kernel) (by decide +kernel), by decide +kernel, ⟨by decide +kernel, by decide +kernel⟩, by decide +kernel, by decide +kernel, by decide +kernel⟩
theorem zmf_84 : zMF 84 := ⟨zin 465 (by decide +kernel) (by decide +kernel), zin 55 (by decide +kernel) (by decide +kernel), by decide +kernel, ⟨by decide +kernel, by decide +kernel⟩, by decide +kernel, by decide +kernel, by decide +kernel⟩
theorem zmf_85 : zMF 85 := ⟨zin 491 (by decide +kernel) (by decide +kernel), zin 55 (by decide +kernel) (by decide +kernel), by decide +kernel, ⟨by decide +kernel, by decide +kernel⟩, by decide +kernel, by decide +kernel, by decide +kernel⟩
theorem zmf_86 : zMF 86 := ⟨zin 505 (by decide +kernel) (by decide +kernel), zin 55 (by decide +kernel) (by decide +kernel), by decide +kernel, ⟨by decide +kernel, by decide +kernel⟩, by decide +kernel, by decide +kernel, by decide +kernel⟩
theorem zmf_87 : zMF 87 := ⟨zin 602 (by decide +kernel) (by decide +kernel), zin 55 (by decide +kernel) (by decide +kernel), by decide +kernel, ⟨by decide +kernel, by decide +kernel⟩, by decide +kernel, by decide +kernel, by decide +kernel⟩
theorem zmf_88 : zMF 88 := ⟨zin 618 (by decide +kernel) (by decide +kernel), zin 55 (by decide +kernel) (by decide +kernel), by decide +kernel, ⟨by decide +kernel, by decide +kernel⟩, by decide +kernel, by decide +kernel, by decide +kernel⟩
theorem zmf_89 : zMF 89 := ⟨zin 502 (by decide +kernel) (by decide +kernel), zin 55 (by decide +kernel) (by decide +kernel), by decide +kernel, ⟨by decide +kernel, by decide +kernel⟩, by decide +kernel, by decide +kernel, by decide +kernel⟩
theorem zmf_90 : zMF 90 := ⟨zin 530 (by decide +kernel) (by decide +kernel), zin 55 (by decide +kernel) (by decide +kernel), by decide +kernel, ⟨by decide +kernel, by decide +kernel⟩, by decide +kernel, by decide +kernel, by decide +kernel⟩
theorem zmf_91 : zMF 91 := ⟨zin 677 (by decide +kernel) (by decide +kernel), zin 55 (by decide +kernel) (by decide +kernel), by decide +kernel, ⟨by decide +kernel, by decide +kernel⟩, by decide +kernel, by decide +kernel, by decide +kernel⟩
theorem zmf_92 : zMF 92 := ⟨zin 694 (by decide +kernel) (by decide +kernel), zin 55 (by decide +kernel) (by decide +kernel), by decide +kernel, ⟨by decide +kernel, by decide +kernel⟩, by decide +kernel, by decide +kernel, by decide +kernel⟩
theorem zmf_93 : zMF 93 := ⟨zin 714 (by decide +kernel) (by decide +kernel), zin 55 (by decide +kernel) (by decide +kernel), by decide +kernel, ⟨by decide +kernel, by decide +kernel⟩, by decide +kernel, by decide +kernel, by decide +kernel⟩
theorem zmf_94 : zMF 94 := ⟨zin 706 (by decide +kernel) (by decide +kernel), zin 55 (by decide +kernel) (by decide +kernel), by decide +kernel, ⟨by decide +kernel, by decide +kernel⟩, by decide +kernel, by decide +kernel, by decide +kernel⟩
theorem zmf_95 : zMF 95 := ⟨zin 726 (by decide +kernel) (by decide +kernel), zin 55 (by decide +kernel) (by decide +kernel), by decide +kernel, ⟨by decide +kernel, by decide +kernel⟩, by decide +kernel, by decide +kernel, by decide +kernel⟩
theorem zmf_96 : zMF 96 := ⟨zin 722 (by decide +kernel) (by decide +kernel), zin 55 (by decide +kernel) (by decide +kernel), by decide +kernel, ⟨by decide +kernel, by decide +kernel⟩, by decide +kernel, by decide +kernel, by decide +kernel⟩
theorem zmf_97 : zMF 97 := ⟨zin 718 (by decide +kernel) (by decide +kernel), zin 55 (by decide +kernel) (by decide +kernel), by decide +kernel, ⟨by decide +kernel, by decide +kernel⟩, by decide +kernel, by decide +kernel, by decide +kernel⟩
theorem zmf_98 : zMF 98 := ⟨zin 710 (by decide +kernel) (by decide +kernel), zin 55 (by decide +kernel) (by decide +kernel), by decide +kernel, ⟨by decide +kernel, by decide +kernel⟩, by decide +kernel, by decide +kernel, by decide +kernel⟩
theorem zmf_99 : zMF 99 := ⟨zin 730 (by decide +kernel) (by decide +kernel), zin 55 (by decide +kernel) (by decide +kernel), by decide +kernel, ⟨by decide +kernel, by decide +kernel⟩, by decide +kernel, by decide +kernel, by decide +kernel⟩
theorem zmf_100 : zMF 100 := ⟨zin 742 (by decide +kernel) (by decide +kernel), zin 55 (by decide +kernel) (by decide +kernel), by decide +kernel, ⟨by decide +kernel, by decide +kernel⟩, by decide +kernel, by decide +kernel, by decide +kernel⟩
theorem zmf_101 : zMF 101 := ⟨zin 738 (by decide +kernel) (by decide +kernel), zin 55 (by decide +kernel) (by decide +kernel), by decide +kernel, ⟨by decide +kernel, by decide +kernel⟩, by decide +kernel, by decide +kernel, by decide +kernel⟩
theorem zmf_102 : zMF 102 := ⟨zin 734 (by decide +kernel) (by decide +kernel), zin 55 (by decide +kernel) (by decide +kernel), by decide +kernel, ⟨by decide +kernel, by decide +kernel⟩, by decide +kernel, by decide +kernel, by decide +kernel⟩
theorem zmf_103 : zMF 103 := ⟨zin 906 (by decide +kernel) (by decide +kernel), zin 64 (by decide +kernel) (by decide +kernel), by decide +kernel, ⟨by decide +kernel, by decide +kernel⟩, by decide +kernel, by decide +kernel, by decide +kernel⟩
theorem zmf_104 : zMF 104 := ⟨zin 912 (by decide +kernel) (by decide +kernel), zin 64 (by decide +kernel) (by decide +kernel), by decide +kernel, ⟨by decide +kernel, by decide +kernel⟩, by decide +kernel, by decide +kernel, by decide +kernel⟩
theorem zmf_105 : zMF 105 := ⟨zin 917 (by decide +kernel) (by decide +kernel), zin 64 (by decide +kernel) (by decide +kernel), by decide +kernel, ⟨by decide +kernel, by decide +kernel⟩, by decide +kernel, by decide +kernel, by decide +kernel⟩
theorem zmf_106 : zMF 106 := ⟨zin 902 (by decide +kernel) (by decide +kernel), zin 64 (by decide +kernel) (by decide +kernel), by decide +kernel, ⟨by decide +kernel, by decide +kernel⟩, by decide +kernel, by decide +kernel, by decide +kernel⟩
theorem zmf_107 : zMF 107 := ⟨zin 899 (by decide +kernel) (by decide +kernel), zin 64 (by decide +kernel) (by decide +kernel), by decide +kernel, ⟨by decide +kernel, by decide +kernel⟩, by decide +kernel, by decide +kernel, by decide +kernel⟩
theorem zmf_108 : zMF 108 := ⟨zin 921 (by decide +kernel) (by decide +kernel), zin 64 (by decide +kernel) (by decide +kernel), by decide +kernel, ⟨by decide +kernel, by decide +kernel⟩, by decide +kernel, by decide +kernel, by decide +kernel⟩
theorem zmf_109 : zMF 109 := ⟨zin 925 (by decide +kernel) (by decide +kernel), zin 64 (by decide +kernel) (by decide +kernel), by decide +kernel, ⟨by decide +kernel, by decide +kernel⟩, by decide +kernel, by decide +kernel, by decide +kernel⟩
theorem zmf_110 : zMF 110 := ⟨zin 929 (by decide +kernel) (by decide +kernel), zin 64 (by decide +kernel) (by decide +kernel), by decide +kernel, ⟨by decide +kernel, by decide +kernel⟩, by decide +kernel, by decide +kernel, by decide +kernel⟩
theorem zmf_111 : zMF 111 := ⟨zin 944 (by decide +kernel) (by decide +kernel), zin 64 (by decide +kernel) (by decide +kernel), by decide +kernel, ⟨by decide +kernel, by decide +kernel⟩, by decide +kernel, by decide +kernel, by decide +kernel⟩
theorem zmf_112 : zMF 112 := ⟨zin 940 (by decide +kernel) (by decide +kernel), zin 64 (by decide +kernel) (by decide +kernel), by decide +kernel, ⟨by decide +kernel, by decide +kernel⟩, by decide +kernel, by decide +kernel, by decide +kernel⟩
theorem zmf_113 : zMF 113 := ⟨zin 948 (by decide +kernel) (by decide +kernel), zin 64 (by decide +kernel) (by decide +kernel), by decide +kernel, ⟨by decide +kernel, by decide +kernel⟩, by decide +kernel, by decide +kernel, by decide +kernel⟩
theorem zmf_114 : zMF 114 := ⟨zin 933 (by decide +kernel) (by decide +kernel), zin 64 (by decide +kernel) (by decide +kernel), by decide +kernel, ⟨by decide +kernel, by decide +kernel⟩, by decide +kernel, by decide +kernel, by decide +kernel⟩
theorem zmf_115 : zMF 115 := ⟨zin 952 (by decide +kernel) (by decide +kernel), zin 64 (by decide +kernel) (by decide +kernel), by decide +kernel, ⟨by decide +kernel, by decide +kernel⟩, by decide +kernel, by decide +kernel, by decide +kernel⟩
theorem zmf_116 : zMF 116 := ⟨zin 961 (by decide +kernel) (by decide +kernel), zin 64 (by decide +kernel) (by decide +kernel), by decide +kernel, ⟨by decide +kernel, by decide +kernel⟩, by decide +kernel, by decide +kernel, by decide +kernel⟩
theorem zmf_117 : zMF 117 := ⟨zin 965 (by decide +kernel) (by decide +kernel), zin 64 (by decide +kernel) (by decide +kernel), by decide +kernel, ⟨by decide +kernel, by decide +kernel⟩, by decide +kernel, by decide +kernel, by decide +kernel⟩
theorem zmf_118 : zMF 118 := ⟨zin 957 (by decide +kernel) (by decide +kernel), zin 64 (by decide +kernel) (by decide +kernel), by decide +kernel, ⟨by decide +kernel, by decide +kernel⟩, by decide +kernel, by decide +kernel, by decide +kernel⟩
theorem zmf_119 : zMF 119 := ⟨zin 969 (by decide +kernel) (by decide +kernel), zin 64 (by decide +kernel) (by decide +kernel), by decide +kernel, ⟨by decide +kernel, by decide +kernel⟩, by decide +kernel, by decide +kernel, by decide +kernel⟩
theorem zmf_120 : zMF 120 := ⟨zin 973 (by decide +kernel) (by decide +kernel), zin 64 (by decide +kernel) (by decide +kernel), by decide +kernel, ⟨by decide +kernel, by decide +kernel⟩, by decide +kernel, by decide +kernel, by decide +kernel⟩
theorem zmf_121 : zMF 121 := ⟨zin 983 (by decide +kernel) (by decide +kernel), zin 64 (by decide +kernel) (by decide +kernel), by decide +kernel, ⟨by decide +kernel, by decide +kernel⟩, by decide +kernel, by decide +kernel, by decide +kernel⟩
theorem zmf_122 : zMF 122 := ⟨zin 990 (by decide +kernel) (by decide +kernel), zin 64 (by decide +kernel) (by decide +kernel), by decide +kernel, ⟨by decide +kernel, by decide +kernel⟩, by decide +kernel, by decide +kernel, by decide +kernel⟩
theorem zmf_123 : zMF 123 := ⟨zin 980 (by decide +kernel) (by decide +kernel), zin 64 (by decide +kernel) (by decide +kernel), by decide +kernel, ⟨by decide +kernel, by decide +kernel⟩, by decide +kernel, by decide +kernel, by decide +kernel⟩
theorem zmf_124 : zMF 124 := ⟨zin 994 (by decide +kernel) (by decide +kernel), zin 64 (by decide +kernel) (by decide +kernel), by decide +kernel, ⟨by decide +kernel, by decide +kernel⟩, by decide +kernel, by decide +kernel, by decide +kernel⟩
theorem zmf_125 : zMF 125 := ⟨zin 977 (by decide +kernel) (by decide +kernel), zin 64 (by decide +kernel) (by decide +kernel), by decide +kernel, ⟨by decide +kernel, by decide +kernel⟩, by decide +kernel, by decide +kernel, by decide +kernel⟩
theorem zmf_126 : zMF 126 := ⟨zin 998 (by decide +kernel) (by decide +kernel), zin 64 (by decide +kernel) (by decide +kernel), by decide +kernel, ⟨by decide +kernel, by decide +kernel⟩, by decide +kernel, by decide +kernel, by decide +kernel⟩
theorem zmf_127 : zMF 127 := ⟨zin 1002 (by decide +kernel) (by decide +kernel), zin 64 (by decide +kernel) (by decide +kernel), by decide +kernel, ⟨by decide +kernel, by decide +kernel⟩, by decide +kernel, by decide +kernel, by decide +kernel⟩
theorem zmf_128 : zMF 128 := ⟨zin 1007 (by decide +kernel) (by decide +kernel), zin 64 (by decide +kernel) (by decide +kernel), by decide +kernel, ⟨by decide +kernel, by decide +kernel⟩, by decide +kernel, by decide +kernel, by decide +kernel⟩
theorem zmf_129 : zMF 129 := ⟨zin 1016 (by decide +kernel) (by decide +kernel), zin 64 (by decide +kernel) (by decide +kernel), by decide +kernel, ⟨by decide +kernel, by decide +kernel⟩, by decide +kernel, by decide +kernel, by decide +kernel⟩
theorem zmf_130 : zMF 130 := ⟨zin 1012 (by decide +kernel) (by decide +kernel), zin 64 (by decide +kernel) (by decide +kernel), by decide +kernel, ⟨by decide +kernel, by decide +kernel⟩, by decide +kernel, by decide +kernel, by decide +kernel⟩
theorem zmf_131 : zMF 131 := ⟨zin 1022 (by decide +kernel) (by decide +kernel), zin 64 (by decide +kernel) (by decide +kernel), by decide +kernel, ⟨by decide +kernel, by decide +kernel⟩, by decide +kernel, by decide +kernel, by decide +kernel⟩
theorem zmf_132 : zMF 132 := ⟨zin 1035 (by decide +kernel) (by decide +kernel), zin 64 (by decide +kernel) (by decide +kernel), by decide +kernel, ⟨by decide +kernel, by decide +kernel⟩, by decide +kernel, by decide +kernel, by decide +kernel⟩
theorem zmf_133 : zMF 133 := ⟨zin 1030 (by decide +kernel) (by decide +kernel), zin 64 (by decide +kernel) (by decide +kernel), by decide +kernel, ⟨by decide +kernel, by decide +kernel⟩, by decide +kernel, by decide +kernel, by decide +kernel⟩
theorem zmf_134 : zMF 134 := ⟨zin 1026 (by decide +kernel) (by decide +kernel), zin 64 (by decide +kernel) (by decide +kernel), by decide +kernel, ⟨by decide +kernel, by decide +kernel⟩, by decide +kernel, by decide +kernel, by decide +kernel⟩
theorem zmf_135 : zMF 135 := ⟨zin 1056 (by decide +kernel) (by decide +kernel), zin 64 (by decide +kernel) (by decide +kernel), by decide +kernel, ⟨by decide +kernel, by decide +kernel⟩, by decide +kernel, by decide +kernel, by decide +kernel⟩
theorem zmf_136 : zMF 136 := ⟨zin 1052 (by decide +kernel) (by decide +kernel), zin 64 (by decide +kernel) (by decide +kernel), by decide +kernel, ⟨by decide +kernel, by decide +kernel⟩, by decide +kernel, by decide +kernel, by decide +kernel⟩
theorem zmf_137 : zMF 137 := ⟨zin 1049 (by decide +kernel) (by decide +kernel), zin 64 (by decide +kernel) (by decide +kernel), by decide +kernel, ⟨by decide +kernel, by decide +kernel⟩, by decide +kernel, by decide +kernel, by decide +kernel⟩
theorem zmf_138 : zMF 138 := ⟨zin 1063 (by decide +kernel) (by decide +kernel), zin 64 (by decide +kernel) (by decide +kernel), by decide +kernel, ⟨by decide +kernel, by decide +kernel⟩, by decide +kernel, by decide +kernel, by decide +kernel⟩
theorem zmf_139 : zMF 139 := ⟨zin 1045 (by decide +kernel) (by decide +kernel), zin 64 (by decide +kernel) (by decide +kernel), by decide +kernel, ⟨by decide +kernel, by decide +kernel⟩, by decide +kernel, by decide +kernel, by decide +kernel⟩
theorem zmf_140 : zMF 140 := ⟨zin 1060 (by decide +kernel) (by decide +kernel), zin 64 (by decide +kernel) (by decide +kernel), by decide +kernel, ⟨by decide +kernel, by decide +kernel⟩, by decide +kernel, by decide +kernel, by decide +kernel⟩
theorem zmf_141 : zMF 141 := ⟨zin 1039 (by decide +kernel) (by decide +kernel), zin 64 (by decide +kernel) (by decide +kernel), by decide +kernel, ⟨by decide +kernel, by decide +kernel⟩, by decide +kernel, by decide +kernel, by decide +kernel⟩
theorem zmf_142 : zMF 142 := ⟨zin 1072 (by decide +kernel) (by decide +kernel), zin 64 (by decide +kernel) (by decide +kernel), by decide +kernel, ⟨by decide +kernel, by decide +kernel⟩, by decide +kernel, by decide +kernel, by decide +kernel⟩
theorem zmf_143 : zMF 143 := ⟨zin 1068 (by decide +kernel) (by decide +kernel), zin 64 (by decide +kernel) (by decide +kernel), by decide +kernel, ⟨by decide +kernel, by decide +kernel⟩, by decide +kernel, by decide +kernel, by decide +kernel⟩
theorem zmf_144 : zMF 144 := ⟨zin 1076 (by decide +kernel) (by decide +kernel), zin 64 (by decide +kernel) (by decide +kernel), by decide +kernel, ⟨by decide +kernel, by decide +kernel⟩, by decide +kernel, by decide +kernel, by decide +kernel⟩
theorem zmf_145 : zMF 145 := ⟨zin 1080 (by decide +kernel) (by decide +kernel), zin 64 (by decide +kernel) (by decide +kernel), by decide +kernel, ⟨by decide +kernel, by decide +kernel⟩, by decide +kernel, by decide +kernel, by decide +kernel⟩
theorem zmf_146 : zMF 146 := ⟨zin 1084 (by decide +kernel) (by decide +kernel), zin 64 (by decide +kernel) (by decide +kernel), by decide +kernel, ⟨by decide +kernel, by decide +kernel⟩, by decide +kernel, by decide +kernel, by decide +kernel⟩
theorem zmf_147 : zMF 147 := ⟨zin 1092 (by decide +kernel) (by decide +kernel), zin 64 (by decide +kernel) (by decide +kernel), by decide +kernel, ⟨by decide +kernel, by decide +kernel⟩, by decide +kernel, by decide +kernel, by decide +kernel⟩
theorem zmf_148 : zMF 148 := ⟨zin 1096 (by decide +kernel) (by decide +kernel), zin 64 (by decide +kernel) (by decide +kernel), by decide +kernel, ⟨by decide +kernel, by decide +kernel⟩, by decide +kernel, by decide +kernel, by decide +kernel⟩
theorem zmf_149 : zMF 149 := ⟨zin 1088 (by decide +kernel) (by decide +kernel), zin 64 (by decide +kernel) (by decide +kernel), by decide +kernel, ⟨by decide +kernel, by decide +kernel⟩, by decide +kernel, by decide +kernel, by decide +kernel⟩
theorem zmf_150 : zMF 150 := ⟨zin 1100 (by decide +kernel) (by decide +kernel), zin 64 (by decide +kernel) (by decide +kernel), by decide +kernel, ⟨by decide +kernel, by decide +kernel⟩, by decide +kernel, by decide +kernel, by decide +kernel⟩
theorem zmf_151 : zMF 151 := ⟨zin 1112 (by decide +kernel) (by decide +kernel), zin 64 (by decide +kernel) (by decide +kernel), by decide +kernel, ⟨by decide +kernel, by decide +kernel⟩, by decide +kernel, by decide +kernel, by decide +kernel⟩
theorem zmf_152 : zMF 152 := ⟨zin 1116 (by decide +kernel) (by decide +kernel), zin 64 (by decide +kernel) (by decide +kernel), by decide +kernel, ⟨by decide +kernel, by decide +kernel⟩, by decide +kernel, by decide +kernel, by decide +kernel⟩
theorem zmf_153 : zMF 153 := ⟨zin 1108 (by decide +kernel) (by decide +kernel), zin 64 (by decide +kernel) (by decide +kernel), by decide +kernel, ⟨by decide +kernel, by decide +kernel⟩, by decide +kernel, by decide +kernel, by decide +kernel⟩
theorem zmf_154 : zMF 154 := ⟨zin 1104 (by decide +kernel) (by decide +kernel), zin 64 (by decide +kernel) (by decide +kernel), by decide +kernel, ⟨by decide +kernel, by decide +kernel⟩, by decide +kernel, by decide +kernel, by decide +kernel⟩
theorem zmf_155 : zMF 155 := ⟨zin 1120 (by decide +kernel) (by decide +kernel), zin 64 (by decide +kernel) (by decide +kernel), by decide +kernel, ⟨by decide +kernel, by decide +kernel⟩, by decide +kernel, by decide +kernel, by decide +kernel⟩
theorem zmf_156 : zMF 156 := ⟨zin 1124 (by decide +kernel) (by decide +kernel), zin 64 (by decide +kernel) (by decide +kernel), by decide +kernel, ⟨by decide +kernel, by decide +kernel⟩, by decide +kernel, by decide +kernel, by decide +kernel⟩
theorem zmf_157 : zMF 157 := ⟨zin 1128 (by decide +kernel) (by decide +kernel), zin 64 (by decide +kernel) (by decide +kernel), by decide +kernel, ⟨by decide +kernel, by decide +kernel⟩, by decide +kernel, by decide +kernel, by decide +kernel⟩
theorem zmf_158 : zMF 158 := ⟨zin 349 (by decide +kernel) (by decide +kernel), zin 65 (by decide +kernel) (by decide +kernel), by decide +kernel, ⟨by decide +kernel, by decide +kernel⟩, by decide +kernel, by decide +kernel, by decide +kernel⟩
def zmL_0 : List (Nat) := [0, 1, 2, 3, 4, 5, 6, 7, 8, 9, 10, 11, 12, 13, 14, 15, 16, 17, 18, 19]
theorem zmL_ok_0 : ∀ x ∈ zmL_0, zMF x := List.forall_mem_cons.mpr ⟨zmf_0, List.forall_mem_cons.mpr ⟨zmf_1, List.forall_mem_cons.mpr ⟨zmf_2, List.forall_mem_cons.mpr ⟨zmf_3, List.forall_mem_cons.mpr ⟨zmf_4, List.forall_mem_cons.mpr ⟨zmf_5, List.forall_mem_cons.mpr ⟨zmf_6, List.forall_mem_cons.mpr ⟨zmf_7, List.forall_mem_cons.mpr ⟨zmf_8, List.forall_mem_cons.mpr ⟨zmf_9, List.forall_mem_cons.mpr ⟨zmf_10, List.forall_mem_cons.mpr ⟨zmf_11, List.forall_mem_cons.mpr ⟨zmf_12, List.forall_mem_cons.mpr ⟨zmf_13, List.forall_mem_cons.mpr ⟨zmf_14, List.forall_mem_cons.mpr ⟨zmf_15, List.forall_mem_cons.mpr ⟨zmf_16, List.forall_mem_cons.mpr ⟨zmf_17, List.forall_mem_cons.mpr ⟨zmf_18, List.forall_mem_cons.mpr ⟨zmf_19, fun _ h => absurd h List.not_mem_nil⟩⟩⟩⟩⟩⟩⟩⟩⟩⟩⟩⟩⟩⟩⟩⟩⟩⟩⟩⟩
def zmL_1 : List (Nat) := [20, 21, 22, 23, 24, 25, 26, 27, 28, 29, 30, 31, 32, 33, 34, 35, 36, 37, 38, 39]
theorem zmL_ok_1 : ∀ x ∈ zmL_1, zMF x := List.forall_mem_cons.mpr ⟨zmf_20, List.forall_mem_cons.mpr ⟨zmf_21, List.forall_mem_cons.mpr ⟨zmf_22, List.forall_mem_cons.mpr ⟨zmf_23, List.forall_mem_cons.mpr ⟨zmf_24, List.forall_mem_cons.mpr ⟨zmf_25, List.forall_mem_cons.mpr ⟨zmf_26, List.forall_mem_cons.mpr ⟨zmf_27, List.forall_mem_cons.mpr ⟨zmf_28, List.forall_mem_cons.mpr ⟨zmf_29, List.forall_mem_cons.mpr ⟨zmf_30, List.forall_mem_cons.mpr ⟨zmf_31, List.forall_mem_cons.mpr ⟨zmf_32, List.forall_mem_cons.mpr ⟨zmf_33, List.forall_mem_cons.mpr ⟨zmf_34, List.forall_mem_cons.mpr ⟨zmf_35, List.forall_mem_cons.mpr ⟨zmf_36, List.forall_mem_cons.mpr ⟨zmf_37, List.forall_mem_cons.mpr ⟨zmf_38, List.forall_mem_cons.mpr ⟨zmf_39, fun _ h => absurd h List.not_mem_nil⟩⟩⟩⟩⟩⟩⟩⟩⟩⟩⟩⟩⟩⟩⟩⟩⟩⟩⟩⟩
def zmL_2 : List (Nat) := [40, 41, 42, 43, 44, 45, 46, 47, 48, 49, 50, 51, 52, 53, 54, 55, 56, 57, 58, 59]
theorem zmL_ok_2 : ∀ x ∈ zmL_2, zMF x := List.forall_mem_cons.mpr ⟨zmf_40, List.forall_mem_cons.mpr ⟨zmf_41, List.forall_mem_cons.mpr ⟨zmf_42, List.forall_mem_cons.mpr ⟨zmf_43, List.forall_mem_cons.mpr ⟨zmf_44, List.forall_mem_cons.mpr ⟨zmf_45, List.forall_mem_cons.mpr ⟨zmf_46, List.forall_mem_cons.mpr ⟨zmf_47, List.forall_mem_cons.mpr ⟨zmf_48, List.forall_mem_cons.mpr ⟨zmf_49, List.forall_mem_cons.mpr ⟨zmf_50, List.forall_mem_cons.mpr ⟨zmf_51, List.forall_mem_cons.mpr ⟨zmf_52, List.forall_mem_cons.mpr ⟨zmf_53, List.forall_mem_cons.mpr ⟨zmf_54, List.forall_mem_cons.mpr ⟨zmf_55, List.forall_mem_cons.mpr ⟨zmf_56, List.forall_mem_cons.mpr ⟨zmf_57, List.forall_mem_cons.mpr ⟨zmf_58, List.forall_mem_cons.mpr ⟨zmf_59, fun _ h => absurd h List.not_mem_nil⟩⟩⟩⟩⟩⟩⟩⟩⟩⟩⟩⟩⟩⟩⟩⟩⟩⟩⟩⟩
def zmL_3 : List (Nat) := [60, 61, 62, 63, 64, 65, 66, 67, 68, 69, 70, 71, 72, 73, 74, 75, 76, 77, 78, 79]
theorem zmL_ok_3 : ∀ x ∈ zmL_3, zMF x := List.forall_mem_cons.mpr ⟨zmf_60, List.forall_mem_cons.mpr ⟨zmf_61, List.forall_mem_cons.mpr ⟨zmf_62, List.forall_mem_cons.mpr ⟨zmf_63, List.forall_mem_cons.mpr ⟨zmf_64, List.forall_mem_cons.mpr ⟨zmf_65, List.forall_mem_cons.mpr ⟨zmf_66, List.forall_mem_cons.mpr ⟨zmf_67, List.forall_mem_cons.mpr ⟨zmf_68, List.forall_mem_cons.mpr ⟨zmf_69, List.forall_mem_cons.mpr ⟨zmf_70, List.forall_mem_cons.mpr ⟨zmf_71, List.forall_mem_cons.mpr ⟨zmf_72, List.forall_mem_cons.mpr ⟨zmf_73, List.forall_mem_cons.mpr ⟨zmf_74, List.forall_mem_cons.mpr ⟨zmf_75, List.forall_mem_cons.mpr ⟨zmf_76, List.forall_mem_cons.mpr ⟨zmf_77, List.forall_mem_cons.mpr ⟨zmf_78, List.forall_mem_cons.mpr ⟨zmf_79, fun _ h => absurd h List.not_mem_nil⟩⟩⟩⟩⟩⟩⟩⟩⟩⟩⟩⟩⟩⟩⟩⟩⟩⟩⟩⟩
def zmL_4 : List (Nat) := [80, 81, 82, 83, 84, 85, 86, 87, 88, 89, 90, 91, 92, 93, 94, 95, 96, 97, 98, 99]
theorem zmL_ok_4 : ∀ x ∈ zmL_4, zMF x := List.forall_mem_cons.mpr ⟨zmf_80, List.forall_mem_cons.mpr ⟨zmf_81, List.forall_mem_cons.mpr ⟨zmf_82, List.forall_mem_cons.mpr ⟨zmf_83, List.forall_mem_cons.mpr ⟨zmf_84, List.forall_mem_cons.mpr ⟨zmf_85, List.forall_mem_cons.mpr ⟨zmf_86, List.forall_mem_cons.mpr ⟨zmf_87, List.forall_mem_cons.mpr ⟨zmf_88, List.forall_mem_cons.mpr ⟨zmf_89, List.forall_mem_cons.mpr ⟨zmf_90, List.forall_mem_cons.mpr ⟨zmf_91, List.forall_mem_cons.mpr ⟨zmf_92, List.forall_mem_cons.mpr ⟨zmf_93, List.forall_mem_cons.mpr ⟨zmf_94, List.forall_mem_cons.mpr ⟨zmf_95, List.forall_mem_cons.mpr ⟨zmf_96, List.forall_mem_cons.mpr ⟨zmf_97, List.forall_mem_cons.mpr ⟨zmf_98, List.forall_mem_cons.mpr ⟨zmf_99, fun _ h => absurd h List.not_mem_nil⟩⟩⟩⟩⟩⟩⟩⟩⟩⟩⟩⟩⟩⟩⟩⟩⟩⟩⟩⟩
def zmL_5 : List (Nat) := [100, 101, 102, 103, 104, 105, 106, 107, 108, 109, 110, 111, 112, 113, 114, 115, 116, 117, 118, 119]
theorem zmL_ok_5 : ∀ x ∈ zmL_5, zMF x := List.forall_mem_cons.mpr ⟨zmf_100, List.forall_mem_cons.mpr ⟨zmf_101, List.forall_mem_cons.mpr ⟨zmf_102, List.forall_mem_cons.mpr ⟨zmf_103, List.forall_mem_cons.mpr ⟨zmf_104, List.forall_mem_cons.mpr ⟨zmf_105, List.forall_mem_cons.mpr ⟨zmf_106, List.forall_mem_cons.mpr ⟨zmf_107, List.forall_mem_cons.mpr ⟨zmf_108, List.forall_mem_cons.mpr ⟨zmf_109, List.forall_mem_cons.mpr ⟨zmf_110, List.forall_mem_cons.mpr ⟨zmf_111, List.forall_mem_cons.mpr ⟨zmf_112, List.forall_mem_cons.mpr ⟨zmf_113, List.forall_mem_cons.mpr ⟨zmf_114, List.forall_mem_cons.mpr ⟨zmf_115, List.forall_mem_cons.mpr ⟨zmf_116, List.forall_mem_cons.mpr ⟨zmf_117, List.forall_mem_cons.mpr ⟨zmf_118, List.forall_mem_cons.mpr ⟨zmf_119, fun _ h => absurd h List.not_mem_nil⟩⟩⟩⟩⟩⟩⟩⟩⟩⟩⟩⟩⟩⟩⟩⟩⟩⟩⟩⟩
def zmL_6 : List (Nat) := [120, 121, 122, 123, 124, 125, 126, 127, 128, 129, 130, 131, 132, 133, 134, 135, 136, 137, 138, 139]
theorem zmL_ok_6 : ∀ x ∈ zmL_6, zMF x := List.forall_mem_cons.mpr ⟨zmf_120, List.forall_mem_cons.mpr ⟨zmf_121, List.forall_mem_cons.mpr ⟨zmf_122, List.forall_mem_cons.mpr ⟨zmf_123, List.forall_mem_cons.mpr ⟨zmf_124, List.forall_mem_cons.mpr ⟨zmf_125, List.forall_mem_cons.mpr ⟨zmf_126, List.forall_mem_cons.mpr ⟨zmf_127, List.forall_mem_cons.mpr ⟨zmf_128, List.forall_mem_cons.mpr ⟨zmf_129, List.forall_mem_cons.mpr ⟨zmf_130, List.forall_mem_cons.mpr ⟨zmf_131, List.forall_mem_cons.mpr ⟨zmf_132, List.forall_mem_cons.mpr ⟨zmf_133, List.forall_mem_cons.mpr ⟨zmf_134, List.forall_mem_cons.mpr ⟨zmf_135, List.forall_mem_cons.mpr ⟨zmf_136, List.forall_mem_cons.mpr ⟨zmf_137, List.forall_mem_cons.mpr ⟨zmf_138, List.forall_mem_cons.mpr ⟨zmf_139, fun _ h => absurd h List.not_mem_nil⟩⟩⟩⟩⟩⟩⟩⟩⟩⟩⟩⟩⟩⟩⟩⟩⟩⟩⟩⟩
def zmL_7 : List (Nat) := [140, 141, 142, 143, 144, 145, 146, 147, 148, 149, 150, 151, 152, 153, 154, 155, 156, 157, 158]
theorem zmL_ok_7 : ∀ x ∈ zmL_7, zMF x := List.forall_mem_cons.mpr ⟨zmf_140, List.forall_mem_cons.mpr ⟨zmf_141, List.forall_mem_cons.mpr ⟨zmf_142, List.forall_mem_cons.mpr ⟨zmf_143, List.forall_mem_cons.mpr ⟨zmf_144, List.forall_mem_cons.mpr ⟨zmf_145, List.forall_mem_cons.mpr ⟨zmf_146, List.forall_mem_cons.mpr ⟨zmf_147, List.forall_mem_cons.mpr ⟨zmf_148, List.forall_mem_cons.mpr ⟨zmf_149, List.forall_mem_cons.mpr ⟨zmf_150, List.forall_mem_cons.mpr ⟨zmf_151, List.forall_mem_cons.mpr ⟨zmf_152, List.forall_mem_cons.mpr ⟨zmf_153, List.forall_mem_cons.mpr ⟨zmf_154, List.forall_mem_cons.mpr ⟨zmf_155, List.forall_mem_cons.mpr ⟨zmf_156, List.forall_mem_cons.mpr ⟨zmf_157, List.forall_mem_cons.mpr ⟨zmf_158, fun _ h => absurd h List.not_mem_nil⟩⟩⟩⟩⟩⟩⟩⟩⟩⟩⟩⟩⟩⟩⟩⟩⟩⟩⟩
def zmL : List (Nat) := zmL_0 ++ (zmL_1 ++ (zmL_2 ++ (zmL_3 ++ (zmL_4 ++ (zmL_5 ++ (zmL_6 ++ (zmL_7)))))))
theorem zmL_ok : ∀ x ∈ zmL, zMF x := by
  show ∀ x ∈ zmL_0 ++ (zmL_1 ++ (zmL_2 ++ (zmL_3 ++ (zmL_4 ++ (zmL_5 ++ (zmL_6 ++ (zmL_7))))))), zMF x
  exact List.forall_mem_append.mpr ⟨zmL_ok_0, List.forall_mem_append.mpr ⟨zmL_ok_1, List.forall_mem_append.mpr ⟨zmL_ok_2, List.forall_mem_append.mpr ⟨zmL_ok_3, List.forall_mem_append.mpr ⟨zmL_ok_4, List.forall_mem_append.mpr ⟨zmL_ok_5, List.forall_mem_append.mpr ⟨zmL_ok_6, zmL_ok_7⟩⟩⟩⟩⟩⟩⟩
theorem zcf_0 : zCF 0 := by
  refine ⟨rfl, ?_, nmX0, tyX0_ok⟩
  show ∀ w ∈ [u_lay RX0 TX0 0, u_lay RX0 TX0 1, u_lay RX0 TX0 2, u_lay RX0 TX0 3, u_lay RX0 TX0 4, u_lay RX0 TX0 5, u_lay RX0 TX0 6, u_lay RX0 TX0 7, u_lay RX0 TX0 8], w ∈ zTB
  exact List.forall_mem_cons.mpr ⟨zin 178 (by decide +kernel) (by decide +kernel), List.forall_mem_cons.mpr ⟨zin 180 (by decide +kernel) (by decide +kernel), List.forall_mem_cons.mpr ⟨zin 182 (by decide +kernel) (by decide +kernel), List.forall_mem_cons.mpr ⟨zin 184 (by decide +kernel) (by decide +kernel), List.forall_mem_cons.mpr ⟨zin 186 (by decide +kernel) (by decide +kernel), List.forall_mem_cons.mpr ⟨zin 188 (by decide +kernel) (by decide +kernel), List.forall_mem_cons.mpr ⟨zin 190 (by decide +kernel) (by decide +kernel), List.forall_mem_cons.mpr ⟨zin 192 (by decide +kernel) (by decide +kernel), List.forall_mem_cons.mpr ⟨zin 194 (by decide +kernel) (by decide +kernel), fun _ h => absurd h List.not_mem_nil⟩⟩⟩⟩⟩⟩⟩⟩⟩
theorem zcf_1 : zCF 1 := by
  refine ⟨rfl, ?_, nmX1, tyX1_ok⟩
  show ∀ w ∈ [u_lay RX1 TX1 0, u_lay RX1 TX1 1], w ∈ zTB
  exact List.forall_mem_cons.mpr ⟨zin 233 (by decide +kernel) (by decide +kernel), List.forall_mem_cons.mpr ⟨zin 235 (by decide +kernel) (by decide +kernel), fun _ h => absurd h List.not_mem_nil⟩⟩
theorem zcf_2 : zCF 2 := by
  refine ⟨rfl, ?_, nmX2, tyX2_ok⟩
  show ∀ w ∈ [u_lay RX2 TX2 0, u_lay RX2 TX2 1, u_lay RX2 TX2 2, u_lay RX2 TX2 3, u_lay RX2 TX2 4, u_lay RX2 TX2 5, u_lay RX2 TX2 6, u_lay RX2 TX2 7, u_lay RX2 TX2 8, u_lay RX2 TX2 9, u_lay RX2 TX2 10, u_lay RX2 TX2 11], w ∈ zTB
  exact List.forall_mem_cons.mpr ⟨zin 132 (by decide +kernel) (by decide +kernel), List.forall_mem_cons.mpr ⟨zin 134 (by decide +kernel) (by decide +kernel), List.forall_mem_cons.mpr ⟨zin 136 (by decide +kernel) (by decide +kernel), List.forall_mem_cons.mpr ⟨zin 138 (by decide +kernel) (by decide +kernel), List.forall_mem_cons.mpr ⟨zin 140 (by decide +kernel) (by decide +kernel), List.forall_mem_cons.mpr ⟨zin 142 (by decide +kernel) (by decide +kernel), List.forall_mem_cons.mpr ⟨zin 144 (by decide +kernel) (by decide +kernel), List.forall_mem_cons.mpr ⟨zin 146 (by decide +kernel) (by decide +kernel), List.forall_mem_cons.mpr ⟨zin 148 (by decide +kernel) (by decide +kernel), List.forall_mem_cons.mpr ⟨zin 150 (by decide +kernel) (by decide +kernel), List.forall_mem_cons.mpr ⟨zin 152 (by decide +kernel) (by decide +kernel), List.forall_mem_cons.mpr ⟨zin 154 (by decide +kernel) (by decide +kernel), fun _ h => absurd h List.not_mem_nil⟩⟩⟩⟩⟩⟩⟩⟩⟩⟩⟩⟩
theorem zcf_3 : zCF 3 := by
  refine ⟨rfl, ?_, nmX3, tyX3_ok⟩
  show ∀ w ∈ [u_lay RX3 TX3 0, u_lay RX3 TX3 1, u_lay RX3 TX3 2], w ∈ zTB
  exact List.forall_mem_cons.mpr ⟨zin 286 (by decide +kernel) (by decide +kernel), List.forall_mem_cons.mpr ⟨zin 288 (by decide +kernel) (by decide +kernel), List.forall_mem_cons.mpr ⟨zin 290 (by decide +kernel) (by decide +kernel), fun _ h => absurd h List.not_mem_nil⟩⟩⟩
theorem zcf_4 : zCF 4 := by
  refine ⟨rfl, ?_, nmX4, tyX4_ok⟩
  show ∀ w ∈ [u_lay RX4 TX4 0, u_lay RX4 TX4 1, u_lay RX4 TX4 2, u_lay RX4 TX4 3, u_lay RX4 TX4 4], w ∈ zTB
  exact List.forall_mem_cons.mpr ⟨zin 249 (by decide +kernel) (by decide +kernel), List.forall_mem_cons.mpr ⟨zin 251 (by decide +kernel) (by decide +kernel), List.forall_mem_cons.mpr ⟨zin 253 (by decide +kernel) (by decide +kernel), List.forall_mem_cons.mpr ⟨zin 255 (by decide +kernel) (by decide +kernel), List.forall_mem_cons.mpr ⟨zin 257 (by decide +kernel) (by decide +kernel), fun _ h => absurd h List.not_mem_nil⟩⟩⟩⟩⟩
theorem zcf_5 : zCF 5 := by
  refine ⟨rfl, ?_, nmX5, tyX5_ok⟩
  show ∀ w ∈ [u_lay RX5 TX5 0, u_lay RX5 TX5 1, u_lay RX5 TX5 2, u_lay RX5 TX5 3], w ∈ zTB
  exact List.forall_mem_cons.mpr ⟨zin 92 (by decide +kernel) (by decide +kernel), List.forall_mem_cons.mpr ⟨zin 94 (by decide +kernel) (by decide +kernel), List.forall_mem_cons.mpr ⟨zin 96 (by decide +kernel) (by decide +kernel), List.forall_mem_cons.mpr ⟨zin 98 (by decide +kernel) (by decide +kernel), fun _ h => absurd h List.not_mem_nil⟩⟩⟩⟩
theorem zcf_6 : zCF 6 := by
  refine ⟨rfl, ?_, nmX6, tyX6_ok⟩
  show ∀ w ∈ [u_lay RX6 TX6 0, u_lay RX6 TX6 1], w ∈ zTB
  exact List.forall_mem_cons.mpr ⟨zin 269 (by decide +kernel) (by decide +kernel), List.forall_mem_cons.mpr ⟨zin 271 (by decide +kernel) (by decide +kernel), fun _ h => absurd h List.not_mem_nil⟩⟩
theorem zcf_7 : zCF 7 := by
  refine ⟨rfl, ?_, nmX7, tyX7_ok⟩
  show ∀ w ∈ [u_lay RX7 TX7 0, u_lay RX7 TX7 1, u_lay RX7 TX7 2, u_lay RX7 TX7 3], w ∈ zTB
  exact List.forall_mem_cons.mpr ⟨zin 213 (by decide +kernel) (by decide +kernel), List.forall_mem_cons.mpr ⟨zin 215 (by decide +kernel) (by decide +kernel), List.forall_mem_cons.mpr ⟨zin 217 (by decide +kernel) (by decide +kernel), List.forall_mem_cons.mpr ⟨zin 219 (by decide +kernel) (by decide +kernel), fun _ h => absurd h List.not_mem_nil⟩⟩⟩⟩
theorem zcf_8 : zCF 8 := by
  refine ⟨rfl, ?_, nmX8, tyX8_ok⟩
  show ∀ w ∈ [u_lay RX8 TX8 0, u_lay RX8 TX8 1, u_lay RX8 TX8 2, u_lay RX8 TX8 3, u_lay RX8 TX8 4, u_lay RX8 TX8 5, u_lay RX8 TX8 6, u_lay RX8 TX8 7, u_lay RX8 TX8 8, u_lay RX8 TX8 9, u_lay RX8 TX8 10, u_lay RX8 TX8 11], w ∈ zTB
  exact List.forall_mem_cons.mpr ⟨zin 305 (by decide +kernel) (by decide +kernel), List.forall_mem_cons.mpr ⟨zin 307 (by decide +kernel) (by decide +kernel), List.forall_mem_cons.mpr ⟨zin 309 (by decide +kernel) (by decide +kernel), List.forall_mem_cons.mpr ⟨zin 311 (by decide +kernel) (by decide +kernel), List.forall_mem_cons.mpr ⟨zin 313 (by decide +kernel) (by decide +kernel), List.forall_mem_cons.mpr ⟨zin 315 (by decide +kernel) (by decide +kernel), List.forall_mem_cons.mpr ⟨zin 317 (by decide +kernel) (by decide +kernel), List.forall_mem_cons.mpr ⟨zin 319 (by decide +kernel) (by decide +kernel), List.forall_mem_cons.mpr ⟨zin 321 (by decide +kernel) (by decide +kernel), List.forall_mem_cons.mpr ⟨zin 323 (by decide +kernel) (by decide +kernel), List.forall_mem_cons.mpr ⟨zin 325 (by decide +kernel) (by decide +kernel), List.forall_mem_cons.mpr ⟨zin 327 (by decide +kernel) (by decide +kernel), fun _ h => absurd h List.not_mem_nil⟩⟩⟩⟩⟩⟩⟩⟩⟩⟩⟩⟩
theorem zcf_9 : zCF 9 := by
  refine ⟨rfl, ?_, nmX9, tyX9_ok⟩
  show ∀ w ∈ [u_lay RX9 TX9 0, u_lay RX9 TX9 1, u_lay RX9 TX9 2, u_lay RX9 TX9 3, u_lay RX9 TX9 4, u_lay RX9 TX9 5, u_lay RX9 TX9 6, u_lay RX9 TX9 7, u_lay RX9 TX9 8, u_lay RX9 TX9 9, u_lay RX9 TX9 10, u_lay RX9 TX9 11, u_lay RX9 TX9 12, u_lay RX9 TX9 13, u_lay RX9 TX9 14, u_lay RX9 TX9 15, u_lay RX9 TX9 16, u_lay RX9 TX9 17, u_lay RX9 TX9 18, u_lay RX9 TX9 19, u_lay RX9 TX9 20, u_lay RX9 TX9 21, u_lay RX9 TX9 22, u_lay RX9 TX9 23, u_lay RX9 TX9 24, u_lay RX9 TX9 25, u_lay RX9 TX9 26, u_lay RX9 TX9 27, u_lay RX9 TX9 28, u_lay RX9 TX9 29, u_lay RX9 TX9 30, u_lay RX9 TX9 31, u_lay RX9 TX9 32, u_lay RX9 TX9 33, u_lay RX9 TX9 34, u_lay RX9 TX9 35, u_lay RX9 TX9 36, u_lay RX9 TX9 37, u_lay RX9 TX9 38], w ∈ zTB
  exact List.forall_mem_cons.mpr ⟨zin 817 (by decide +kernel) (by decide +kernel), List.forall_mem_cons.mpr ⟨zin 819 (by decide +kernel) (by decide +kernel), List.forall_mem_cons.mpr ⟨zin 821 (by decide +kernel) (by decide +kernel), List.forall_mem_cons.mpr ⟨zin 823 (by decide +kernel) (by decide +kernel), List.forall_mem_cons.mpr ⟨zin 825 (by decide +kernel) (by decide +kernel), List.forall_mem_cons.mpr ⟨zin 827 (by decide +kernel) (by decide +kernel), List.forall_mem_cons.mpr ⟨zin 829 (by decide +kernel) (by decide +kernel), List.forall_mem_cons.mpr ⟨zin 831 (by decide +kernel) (by decide +kernel), List.forall_mem_cons.mpr ⟨zin 833 (by decide +kernel) (by decide +kernel), List.forall_mem_cons.mpr ⟨zin 835 (by decide +kernel) (by decide +kernel), List.forall_mem_cons.mpr ⟨zin 837 (by decide +kernel) (by decide +kernel), List.forall_mem_cons.mpr ⟨zin 839 (by decide +kernel) (by decide +kernel), List.forall_mem_cons.mpr ⟨zin 841 (by decide +kernel) (by decide +kernel), List.forall_mem_cons.mpr ⟨zin 843 (by decide +kernel) (by decide +kernel), List.forall_mem_cons.mpr ⟨zin 845 (by decide +kernel) (by decide +kernel), List.forall_mem_cons.mpr ⟨zin 847 (by decide +kernel) (by decide +kernel), List.forall_mem_cons.mpr ⟨zin 849 (by decide +kernel) (by decide +kernel), List.forall_mem_cons.mpr ⟨zin 851 (by decide +kernel) (by decide +kernel), List.forall_mem_cons.mpr ⟨zin 853 (by decide +kernel) (by decide +kernel), List.forall_mem_cons.mpr ⟨zin 855 (by decide +kernel) (by decide +kernel), List.forall_mem_cons.mpr ⟨zin 857 (by decide +kernel) (by decide +kernel), List.forall_mem_cons.mpr ⟨zin 859 (by decide +kernel) (by decide +kernel), List.forall_mem_cons.mpr ⟨zin 861 (by decide +kernel) (by decide +kernel), List.forall_mem_cons.mpr ⟨zin 863 (by decide +kernel) (by decide +kernel), List.forall_mem_cons.mpr ⟨zin 865 (by decide +kernel) (by decide +kernel), List.forall_mem_cons.mpr ⟨zin 867 (by decide +kernel) (by decide +kernel), List.forall_mem_cons.mpr ⟨zin 869 (by decide +kernel) (by decide +kernel), List.forall_mem_cons.mpr ⟨zin 871 (by decide +kernel) (by decide +kernel), List.forall_mem_cons.mpr ⟨zin 873 (by decide +kernel) (by decide +kernel), List.forall_mem_cons.mpr ⟨zin 875 (by decide +kernel) (by decide +kernel), List.forall_mem_cons.mpr ⟨zin 877 (by decide +kernel) (by decide +kernel), List.forall_mem_cons.mpr ⟨zin 879 (by decide +kernel) (by decide +kernel), List.forall_mem_cons.mpr ⟨zin 881 (by decide +kernel) (by decide +kernel), List.forall_mem_cons.mpr ⟨zin 883 (by decide +kernel) (by decide +kernel), List.forall_mem_cons.mpr ⟨zin 885 (by decide +kernel) (by decide +kernel), List.forall_mem_cons.mpr ⟨zin 887 (by decide +kernel) (by decide +kernel), List.forall_mem_cons.mpr ⟨zin 889 (by decide +kernel) (by decide +kernel), List.forall_mem_cons.mpr ⟨zin 891 (by decide +kernel) (by decide +kernel), List.forall_mem_cons.mpr ⟨zin 893 (by decide +kernel) (by decide +kernel), fun _ h => absurd h List.not_mem_nil⟩⟩⟩⟩⟩⟩⟩⟩⟩⟩⟩⟩⟩⟩⟩⟩⟩⟩⟩⟩⟩⟩⟩⟩⟩⟩⟩⟩⟩⟩⟩⟩⟩⟩⟩⟩⟩⟩⟩
theorem zcf : ∀ c, c < 10 → zCF c := fun c hc => match c, hc with
  | 0, _ => zcf_0
  | 1, _ => zcf_1
  | 2, _ => zcf_2
  | 3, _ => zcf_3
  | 4, _ => zcf_4
  | 5, _ => zcf_5
  | 6, _ => zcf_6
  | 7, _ => zcf_7
  | 8, _ => zcf_8
  | 9, _ => zcf_9
  | n + 10, h => absurd h (by omega)
end
section
/-! the quiet machine: numbers are Int, cells are numbered, a method's walk is a formula over a store -/
abbrev zV : Type := Int ⊕ (Int ⊕ (Nat × Int))
abbrev zS : Type := Nat → Int → Int
abbrev zL : Type := List (Option zV)
abbrev zX : Type := Int × (Int → Int)
abbrev zE : Type := Nat × Nat × Instr × Nat × Nat × Int
def znth {α : Type} : List α → Nat → Option α
  | [], _ => none
  | a :: _, 0 => some a
  | _ :: l, n + 1 => znth l n
def zkl : Option zV → Option zV
  | some (.inr (.inl _)) => none
  | x => x
def zst1 : zL → Nat → zV → zL
  | [], _, _ => []
  | _ :: l, 0, v => some v :: l
  | x :: l, n + 1, v => (match n with | 0 => zkl x | _ + 1 => x) :: zst1 l n v
def zclr : zL → Nat → zL
  | [], _ => []
  | _ :: l, 0 => none :: l
  | x :: l, n + 1 => x :: zclr l n
def zst2 (L : zL) (n : Nat) (v : zV) : zL := zst1 (zclr L (n + 1)) n v
def zmask : List Bool → zL → zL
  | [], _ => []
  | _ :: _, [] => []
  | b :: m, x :: l => (bif b then x else none) :: zmask m l
def zadr (ad : Nat → Nat) (k : Nat) (o : Int) : Nat := if k = zKR then ad (zKR + (o / 80).toNat) else ad k
def zcv (ad : Nat → Nat) : zV → Value
  | .inl a => .int (Int32.ofInt a)
  | .inr (.inl a) => .long (Int64.ofInt a)
  | .inr (.inr (k, o)) => .ref (zadr ad k o)
def zok : zV → Prop
  | .inl a => zI a
  | .inr (.inl a) => zJ a
  | .inr (.inr (k, o)) => k = zKR → ∃ r : Nat, r < 8 ∧ o = 80 * (r : Int)
def zup (σ : zS) (k : Nat) (i v : Int) : zS := fun k' i' => if k' = k then (if i' = i then v else σ k' i') else σ k' i'
def zcp (σ : zS) (s : Nat) (so : Int) (d : Nat) (do_ n : Int) : zS := fun k' x => if k' = d ∧ do_ ≤ x ∧ x < do_ + n then σ s (so + (x - do_)) else σ k' x
def zcmp (x y : Int) : Int := if y < x then 1 else if x = y then 0 else -1
def zfv (ad : Nat → Nat) (σ : zS) (k j : Nat) : Value := match zft k j with
  | 0 => .int (Int32.ofInt (σ k j))
  | 1 => .long (Int64.ofInt (σ k j))
  | t + 2 => .ref (ad t)
def zcel (ad : Nat → Nat) (ct : Nat → ClassId) (σ : zS) (k : Nat) : va_E := match zkd k with
  | 0 => .inl (ct 0, (zln k).toNat, .inl (fun j => Int32.ofInt (σ k j)))
  | 1 => .inl (ct 1, (zln k).toNat, .inl (fun j => Int32.ofInt (σ k j)))
  | 2 => .inl (ct 2, (zln k).toNat, .inr (.inl (fun j => Int64.ofInt (σ k j))))
  | 3 => .inl (ct 3, 8, .inr (.inr (.inr (.inr (fun j => if j < 8 then some (ad (zKR + j)) else none)))))
  | 4 => .inr (zcn k, (List.range (zN (zcn k))).map (fun j => zfv ad σ k j))
  | _ => .inl (ct 0, 80, .inl (fun j => if j < 80 then Int32.ofInt (σ zKR (80 * ((k - zKR : Nat) : Int) + (j : Int))) else 0))
def zwl (ad : Nat → Nat) (ct : Nat → ClassId) (σ : zS) : va_W := (List.range zNC).map (fun k => (ad k, zcel ad ct σ k))
abbrev ztys (ct : Nat → ClassId) : List (ClassId × FieldType) := [(ct 0, .int), (ct 1, .boolean), (ct 2, .long), (ct 3, .array .int)]
def zWF (σ : zS) : Prop := ∀ k i, zJ (σ k i) ∧ (zlg k i = false → zI (σ k i))
def zpop : Nat → List zV → List zV → Option (List zV × List zV)
  | 0, acc, st => some (acc, st)
  | _ + 1, _, [] => none
  | n + 1, acc, v :: st => zpop n (v :: acc) st
def zsum : List zV → Nat
  | [] => 0
  | .inr (.inl _) :: l => 2 + zsum l
  | _ :: l => 1 + zsum l
def zRv (r : Option FieldType) (v : Int) : Option Value := match r with
  | none => none
  | some .long => some (.long (Int64.ofInt v))
  | some _ => some (.int (Int32.ofInt v))
def zRok (r : Option FieldType) (v : Int) : Prop := match r with
  | none => v = 0
  | some .long => zJ v
  | some .boolean => v = 0 ∨ v = 1
  | some _ => zI v
def zws (i : Nat) : List Cond := Cond.code (zy i) (zb i) (zl i) (zr i) :: zTB
def zisN : Cond → Bool
  | .methodLinkNest _ _ _ _ => true
  | _ => false
/-- the links among nest mates, which no word list keeps -/
def zNw (U : State) : Prop := ∀ w ∈ lw_tbl, zisN w = true → va_Nw w U
def zWD (D : va_G) (ad : Nat → Nat) (ct : Nat → ClassId) (σ : zS) (A : Nat → Prop) (U : State) : Prop := va_P D zcl (zwl ad ct σ) U.heap ∧ va_K D zcl (ztys ct) U ∧ va_D A (zwl ad ct σ) ∧ zNw U
/-- THE CONTRACT of method i at the arguments as and the store σ: it returns, with an answer and a store that R holds of -/
def zAM (i : Nat) (as : List zV) (σ : zS) (R : Int → zS → Prop) : Prop :=
  zWF σ → (∀ v ∈ as, zok v) → ∀ (l : Launch) (D : va_G) (ad : Nat → Nat) (ct : Nat → ClassId) (sz : Nat),
    Met l (zy i) (zws i) (zq i) (va_Pc (as.map (zcv ad)) (fun U => U.heap.size = sz ∧ zWD D ad ct σ (fun _ => True) U))
      (fun _ st oc t => (∃ (v : Int) (u : zS), oc = .returned (zRv (zr i) v) ∧ (R v u ∧ zWF u ∧ zRok (zr i) v) ∧ zWD D ad ct u (va_A (zwl ad ct σ) sz) t) ∧ va_F (va_A (zwl ad ct σ) sz) st t) 0 0 (va_A (zwl ad ct σ) sz)
/-- a call within a walk -/
def zca (i : Nat) (as : List zV) (σ : zS) (k : Nat) (nx : List zV → zS → Prop) : Prop :=
  ∃ Rc : Int → zS → Prop, zAM i as σ Rc ∧ (match k with
    | 0 => ∀ u, Rc 0 u → nx [] u
    | 1 => ∀ v u, zI v → Rc v u → nx [.inl v] u
    | _ => ∀ v u, zJ v → Rc v u → nx [.inr (.inl v)] u)
def zcase (pc : Nat) (J : Nat → Prop) (v : Int) : Int → List Int → Prop
  | _, [] => True
  | lo, o :: os => (v = lo → J ((pc : Int) + o).toNat) ∧ zcase pc J v (lo + 1) os
def zlook (pc : Nat) (J : Nat → Prop) (v : Int) : List (Int × Int) → Prop
  | [] => True
  | (k, o) :: l => (v = k → J ((pc : Int) + o).toNat) ∧ zlook pc J v l
def zlno (v : Int) : List (Int × Int) → Prop
  | [] => True
  | (k, _) :: l => ¬ v = k ∧ zlno v l
/-- one instruction -/
def zstep (X : zX) (R : Int → zS → Prop) (nx : zL → List zV → zS → Prop) (J : Nat → zL → List zV → zS → Prop) (pc : Nat) (ins : Instr) (A B : Nat) (C : Int) (L : zL) (st : List zV) (σ : zS) : Prop := match ins with
  | .iload_n _ | .iload _ => (match znth L A with | some (some (.inl v)) => nx L (.inl v :: st) σ | _ => False)
  | .lload_n _ | .lload _ => (match znth L A with | some (some (.inr (.inl v))) => nx L (.inr (.inl v) :: st) σ | _ => False)
  | .aload_n _ | .aload _ => (match znth L A with | some (some (.inr (.inr v))) => nx L (.inr (.inr v) :: st) σ | _ => False)
  | .istore_n _ | .istore _ => (match st with | .inl v :: st => nx (zst1 L A (.inl v)) st σ | _ => False)
  | .lstore_n _ | .lstore _ => (match st with | .inr (.inl v) :: st => nx (zst2 L A (.inr (.inl v))) st σ | _ => False)
  | .astore_n _ | .astore _ => (match st with | .inr (.inr v) :: st => nx (zst1 L A (.inr (.inr v))) st σ | _ => False)
  | .iconst _ | .bipush _ | .sipush _ | .ldc _ | .ldc_w _ => nx L (.inl C :: st) σ
  | .lconst _ | .ldc2_w _ => nx L (.inr (.inl C) :: st) σ
  | .iinc _ _ => (match znth L A with | some (some (.inl v)) => zI (v + C) ∧ nx (zst1 L A (.inl (v + C))) st σ | _ => False)
  | .iadd => (match st with | .inl y :: .inl x :: st => zI (x + y) ∧ nx L (.inl (x + y) :: st) σ | _ => False)
  | .isub => (match st with | .inl y :: .inl x :: st => zI (x - y) ∧ nx L (.inl (x - y) :: st) σ | _ => False)
  | .imul => (match st with | .inl y :: .inl x :: st => zI (x * y) ∧ nx L (.inl (x * y) :: st) σ | _ => False)
  | .idiv => (match st with | .inl y :: .inl x :: st => (0 ≤ x ∧ 0 < y) ∧ nx L (.inl (x / y) :: st) σ | _ => False)
  | .irem => (match st with | .inl y :: .inl x :: st => (0 ≤ x ∧ 0 < y) ∧ nx L (.inl (x % y) :: st) σ | _ => False)
  | .ineg => (match st with | .inl x :: st => zI (-x) ∧ nx L (.inl (-x) :: st) σ | _ => False)
  | .iand => (match st with | .inl y :: .inl x :: st => nx L (.inl (Int32.ofInt x &&& Int32.ofInt y).toInt :: st) σ | _ => False)
  | .i2b => (match st with | .inl x :: st => nx L (.inl (Int32.ofInt x).toInt8.toInt32.toInt :: st) σ | _ => False)
  | .i2s => (match st with | .inl x :: st => nx L (.inl (Int32.ofInt x).toInt16.toInt32.toInt :: st) σ | _ => False)
  | .i2l => (match st with | .inl x :: st => nx L (.inr (.inl x) :: st) σ | _ => False)
  | .l2i => (match st with | .inr (.inl x) :: st => zI x ∧ nx L (.inl x :: st) σ | _ => False)
  | .ladd => (match st with | .inr (.inl y) :: .inr (.inl x) :: st => zJ (x + y) ∧ nx L (.inr (.inl (x + y)) :: st) σ | _ => False)
  | .lmul => (match st with | .inr (.inl y) :: .inr (.inl x) :: st => zJ (x * y) ∧ nx L (.inr (.inl (x * y)) :: st) σ | _ => False)
  | .land => (match st with | .inr (.inl y) :: .inr (.inl x) :: st => nx L (.inr (.inl (Int64.ofInt x &&& Int64.ofInt y).toInt) :: st) σ | _ => False)
  | .lor => (match st with | .inr (.inl y) :: .inr (.inl x) :: st => nx L (.inr (.inl (Int64.ofInt x ||| Int64.ofInt y).toInt) :: st) σ | _ => False)
  | .lshl => (match st with | .inl y :: .inr (.inl x) :: st => nx L (.inr (.inl (Int64.ofInt x <<< ((Int32.ofInt y).toInt64 &&& 63)).toInt) :: st) σ | _ => False)
  | .lshr => (match st with | .inl y :: .inr (.inl x) :: st => nx L (.inr (.inl (Int64.ofInt x >>> ((Int32.ofInt y).toInt64 &&& 63)).toInt) :: st) σ | _ => False)
  | .lushr => (match st with | .inl y :: .inr (.inl x) :: st => nx L (.inr (.inl ((Int64.ofInt x).toUInt64 >>> ((Int32.ofInt y).toInt64.toUInt64 &&& Int64.toUInt64 63)).toInt64.toInt) :: st) σ | _ => False)
  | .lcmp => (match st with | .inr (.inl y) :: .inr (.inl x) :: st => nx L (.inl (zcmp x y) :: st) σ | _ => False)
  | .dup => (match st with | .inl x :: st => nx L (.inl x :: .inl x :: st) σ | .inr (.inr x) :: st => nx L (.inr (.inr x) :: .inr (.inr x) :: st) σ | _ => False)
  | .dup2 => (match st with | .inl y :: .inr (.inr x) :: st => nx L (.inl y :: .inr (.inr x) :: .inl y :: .inr (.inr x) :: st) σ | _ => False)
  | .pop => (match st with | .inl _ :: st => nx L st σ | _ => False)
  | .goto _ => J A L st σ
  | .ifCond cd _ => (match st with
    | .inl x :: st => (match cd with
      | .eq => (x = 0 → J A L st σ) ∧ (¬ x = 0 → nx L st σ)
      | .ne => (¬ x = 0 → J A L st σ) ∧ (x = 0 → nx L st σ)
      | .lt => (x < 0 → J A L st σ) ∧ (0 ≤ x → nx L st σ)
      | .ge => (0 ≤ x → J A L st σ) ∧ (x < 0 → nx L st σ)
      | .gt => (0 < x → J A L st σ) ∧ (x ≤ 0 → nx L st σ)
      | .le => (x ≤ 0 → J A L st σ) ∧ (0 < x → nx L st σ))
    | _ => False)
  | .if_icmp cd _ => (match st with
    | .inl y :: .inl x :: st => (match cd with
      | .eq => (x = y → J A L st σ) ∧ (¬ x = y → nx L st σ)
      | .ne => (¬ x = y → J A L st σ) ∧ (x = y → nx L st σ)
      | .lt => (x < y → J A L st σ) ∧ (y ≤ x → nx L st σ)
      | .ge => (y ≤ x → J A L st σ) ∧ (x < y → nx L st σ)
      | .gt => (y < x → J A L st σ) ∧ (x ≤ y → nx L st σ)
      | .le => (x ≤ y → J A L st σ) ∧ (y < x → nx L st σ))
    | _ => False)
  | .tableswitch d lo hi offs => (match st with
    | .inl v :: st => zcase pc (fun t => J t L st σ) v lo offs.toList ∧ (v < lo ∨ hi < v → J ((pc : Int) + d).toNat L st σ)
    | _ => False)
  | .lookupswitch d ps => (match st with
    | .inl v :: st => zlook pc (fun t => J t L st σ) v ps.toList ∧ (zlno v ps.toList → J ((pc : Int) + d).toNat L st σ)
    | _ => False)
  | .getfield _ => (match st with
    | .inr (.inr (k, _)) :: st => bif Nat.beq k A then (match B with
      | 0 => nx L (.inl (σ A C) :: st) σ
      | 1 => nx L (.inr (.inl (σ A C)) :: st) σ
      | t + 2 => nx L (.inr (.inr (t, 0)) :: st) σ) else False
    | _ => False)
  | .putfield _ => (match st with
    | .inl v :: .inr (.inr (k, _)) :: st => bif Nat.beq k A && Nat.beq B 0 then nx L st (zup σ A C v) else False
    | .inr (.inl v) :: .inr (.inr (k, _)) :: st => bif Nat.beq k A && Nat.beq B 1 then nx L st (zup σ A C v) else False
    | _ => False)
  | .iaload => (match st with
    | .inl i :: .inr (.inr (k, o)) :: st => (match zkd k with
      | 0 => (0 ≤ i ∧ i < zln k) ∧ nx L (.inl (σ k i) :: st) σ
      | 5 => (0 ≤ i ∧ i < 80) ∧ nx L (.inl (σ k (o + i)) :: st) σ
      | 9 => bif Nat.beq k 1000 then (0 ≤ i ∧ i < X.1) ∧ nx L (.inl (X.2 i) :: st) σ else False
      | _ => False)
    | _ => False)
  | .baload => (match st with
    | .inl i :: .inr (.inr (k, _)) :: st => (match zkd k with
      | 1 => (0 ≤ i ∧ i < zln k) ∧ nx L (.inl (σ k i) :: st) σ
      | _ => False)
    | _ => False)
  | .laload => (match st with
    | .inl i :: .inr (.inr (k, _)) :: st => (match zkd k with
      | 2 => (0 ≤ i ∧ i < zln k) ∧ nx L (.inr (.inl (σ k i)) :: st) σ
      | _ => False)
    | _ => False)
  | .aaload => (match st with
    | .inl i :: .inr (.inr (k, _)) :: st => (match zkd k with
      | 3 => (0 ≤ i ∧ i < 8) ∧ nx L (.inr (.inr (zKR, 80 * i)) :: st) σ
      | _ => False)
    | _ => False)
  | .arraylength => (match st with
    | .inr (.inr (k, _)) :: st => (match zkd k with
      | 0 => nx L (.inl (zln k) :: st) σ
      | 1 => nx L (.inl (zln k) :: st) σ
      | 5 => nx L (.inl 80 :: st) σ
      | 9 => bif Nat.beq k 1000 then 0 ≤ X.1 ∧ nx L (.inl X.1 :: st) σ else False
      | _ => False)
    | _ => False)
  | .iastore => (match st with
    | .inl v :: .inl i :: .inr (.inr (k, o)) :: st => (match zkd k with
      | 0 => (0 ≤ i ∧ i < zln k) ∧ nx L st (zup σ k i v)
      | 5 => (0 ≤ i ∧ i < 80) ∧ nx L st (zup σ k (o + i) v)
      | _ => False)
    | _ => False)
  | .bastore => (match st with
    | .inl v :: .inl i :: .inr (.inr (k, _)) :: st => (match zkd k with
      | 1 => ((v = 0 ∨ v = 1) ∧ 0 ≤ i ∧ i < zln k) ∧ nx L st (zup σ k i v)
      | _ => False)
    | _ => False)
  | .lastore => (match st with
    | .inr (.inl v) :: .inl i :: .inr (.inr (k, _)) :: st => (match zkd k with
      | 2 => (0 ≤ i ∧ i < zln k) ∧ nx L st (zup σ k i v)
      | _ => False)
    | _ => False)
  | .ireturn => (match st with
    | [.inl v] => (match A with | 0 => R v σ | _ + 1 => (v = 0 ∨ v = 1) ∧ R v σ)
    | _ => False)
  | .lreturn => (match st with | [.inr (.inl v)] => R v σ | _ => False)
  | .return_ => (match st with | [] => R 0 σ | _ => False)
  | .invokevirtual _ => (match zpop B [] st with
    | some (as, .inr (.inr (k, o)) :: st) => bif Nat.beq k (C.toNat / 4) && Nat.ble (zsum st) 8 then zca A (.inr (.inr (k, o)) :: as) σ (C.toNat % 4) (fun r u => nx L (r ++ st) u) else False
    | _ => False)
  | .invokestatic _ =>
    bif Nat.beq A 9010 then (match st with | .inl y :: .inl x :: st => bif Nat.ble (zsum st) 8 then nx L (.inl (min x y) :: st) σ else False | _ => False)
    else bif Nat.beq A 9011 then (match st with | .inl y :: .inl x :: st => bif Nat.ble (zsum st) 8 then nx L (.inl (max x y) :: st) σ else False | _ => False)
    else bif Nat.beq A 9012 then (match st with | .inl x :: st => bif Nat.ble (zsum st) 8 then zI (-x) ∧ nx L (.inl (if x < 0 then -x else x) :: st) σ else False | _ => False)
    else bif Nat.beq A 9013 then (match st with
      | [.inl n, .inl j, .inr (.inr (k2, o2)), .inl i, .inr (.inr (k1, o1))] => bif Nat.beq k1 zKR && Nat.beq k2 zKR then (0 ≤ i ∧ 0 ≤ j ∧ 0 ≤ n ∧ i + n ≤ 80 ∧ j + n ≤ 80) ∧ nx L [] (zcp σ k1 (o1 + i) k2 (o2 + j) n) else False
      | _ => False)
    else (match zpop B [] st with
      | some (as, st) => bif Nat.ble (zsum st) 8 then zca A as σ (C.toNat % 4) (fun r u => nx L (r ++ st) u) else False
      | _ => False)
  | _ => False
def zin_ : Nat → List (Nat × List Bool) → Option (List Bool)
  | _, [] => none
  | n, (k, m) :: l => bif Nat.beq n k then some m else zin_ n l
/-- rows one behind the other, to the next cut -/
def zwS (X : zX) (R : Int → zS → Prop) (K J : Nat → zL → List zV → zS → Prop) (cut : List (Nat × List Bool)) : List zE → zL → List zV → zS → Prop
  | [], _, _, _ => False
  | (pc, n, ins, A, B, C) :: rest, L, st, σ => zstep X R (fun L st σ => match zin_ n cut with | some m => K n (zmask m L) st σ | none => zwS X R K J cut rest L st σ) J pc ins A B C L st σ
def zdrop : Nat → List zE → List zE
  | _, [] => []
  | n, x :: l => bif Nat.beq n x.1 then x :: l else zdrop n l
/-- at most n jumps -/
def zwp (code : List zE) (X : zX) (R : Int → zS → Prop) (K : Nat → zL → List zV → zS → Prop) (cut : List (Nat × List Bool)) : Nat → Nat → zL → List zV → zS → Prop
  | 0, _, _, _, _ => False
  | n + 1, pc, L, st, σ => zwS X R K (fun t L st σ => match zin_ t cut with | some m => K t (zmask m L) st σ | none => zwp code X R K cut n t L st σ) cut (zdrop pc code) L st σ
end
section
/-! numbers, locals, cells of the quiet machine against those of the machine -/
theorem zI_t {v : Int} (h : zI v) : (Int32.ofInt v).toInt = v := Int32.toInt_ofInt_of_le (by have := h.1; omega) (by have := h.2; omega)
theorem zJ_t {v : Int} (h : zJ v) : (Int64.ofInt v).toInt = v := Int64.toInt_ofInt_of_le (by have := h.1; omega) (by have := h.2; omega)
theorem zI_of (x : Int32) : zI x.toInt := ⟨by have := Int32.le_toInt x; omega, by have := Int32.toInt_lt x; omega⟩
theorem zJ_of (x : Int64) : zJ x.toInt := ⟨by have := Int64.le_toInt x; omega, by have := Int64.toInt_lt x; omega⟩
theorem zIJ {v : Int} (h : zI v) : zJ v := ⟨by have := h.1; omega, by have := h.2; omega⟩
theorem zlt {x y : Int} (hx : zI x) (hy : zI y) : Int32.ofInt x < Int32.ofInt y ↔ x < y := by rw [Int32.lt_iff_toInt_lt, zI_t hx, zI_t hy]
theorem zle {x y : Int} (hx : zI x) (hy : zI y) : Int32.ofInt x ≤ Int32.ofInt y ↔ x ≤ y := by rw [Int32.le_iff_toInt_le, zI_t hx, zI_t hy]
theorem zeq {x y : Int} (hx : zI x) (hy : zI y) : Int32.ofInt x = Int32.ofInt y ↔ x = y := by rw [← Int32.toInt_inj, zI_t hx, zI_t hy]
theorem zI0 : zI 0 := ⟨by decide, by decide⟩
theorem z00 : Int32.ofInt 0 = 0 := rfl
theorem zlt0 {x : Int} (hx : zI x) : Int32.ofInt x < 0 ↔ x < 0 := by rw [← z00, zlt hx zI0]
theorem zle0 {x : Int} (hx : zI x) : Int32.ofInt x ≤ 0 ↔ x ≤ 0 := by rw [← z00, zle hx zI0]
theorem zgt0 {x : Int} (hx : zI x) : 0 < Int32.ofInt x ↔ 0 < x := by rw [← z00, zlt zI0 hx]
theorem zge0 {x : Int} (hx : zI x) : 0 ≤ Int32.ofInt x ↔ 0 ≤ x := by rw [← z00, zle zI0 hx]
theorem zeq0 {x : Int} (hx : zI x) : Int32.ofInt x = 0 ↔ x = 0 := by rw [← z00, zeq hx zI0]
theorem zclamp {x : Int} (hx : zI x) : (Int32.ofInt x).toNatClampNeg = x.toNat := by
  show (Int32.ofInt x).toInt.toNat = _
  rw [zI_t hx]
theorem zvin {x : Int} {n : Nat} (hx : zI x) (h0 : 0 ≤ x) (h1 : x < n) : vp_in (Int32.ofInt x) n := by
  rw [vp_in_iff, zI_t hx]; exact ⟨h0, h1⟩
theorem zi2l {x : Int} (hx : zI x) : (Int32.ofInt x).toInt64 = Int64.ofInt x := by
  rw [← Int64.toInt_inj, Int32.toInt_toInt64, zI_t hx, zJ_t (zIJ hx)]
theorem zl2i {x : Int} (hx : zI x) : (Int64.ofInt x).toInt32 = Int32.ofInt x := by
  rw [← Int32.toInt_inj, Int64.toInt_toInt32, zI_t hx, zJ_t (zIJ hx)]
  have h1 := hx.1
  have h2 := hx.2
  rw [Int.bmod_eq_of_le] <;> omega
theorem zJadd {x y : Int} (hx : zJ x) (hy : zJ y) (h : zJ (x + y)) : Int64.ofInt x + Int64.ofInt y = Int64.ofInt (x + y) := by
  rw [← Int64.toInt_inj, Int64.toInt_add, zJ_t hx, zJ_t hy, zJ_t h]
  have h1 := h.1
  have h2 := h.2
  rw [Int.bmod_eq_of_le] <;> omega
theorem zJmul {x y : Int} (hx : zJ x) (hy : zJ y) (h : zJ (x * y)) : Int64.ofInt x * Int64.ofInt y = Int64.ofInt (x * y) := by
  rw [← Int64.toInt_inj, Int64.toInt_mul, zJ_t hx, zJ_t hy, zJ_t h]
  have h1 := h.1
  have h2 := h.2
  rw [Int.bmod_eq_of_le] <;> omega
theorem zIdiv {x y : Int} (hx : zI x) (hy : zI y) (h0 : 0 ≤ x) (h1 : 0 < y) : Int32.ofInt x / Int32.ofInt y = Int32.ofInt (x / y) ∧ zI (x / y) := by
  have hq : zI (x / y) := ⟨by have := Int.ediv_nonneg h0 (Int.le_of_lt h1); omega, by have := Int.ediv_le_self y h0; have := hx.2; omega⟩
  refine ⟨?_, hq⟩
  have hd : (Int32.ofInt x / Int32.ofInt y).toInt = (Int32.ofInt x).toInt.tdiv (Int32.ofInt y).toInt := by
    rw [Int32.toInt_div, zI_t hx, zI_t hy, Int.tdiv_eq_ediv_of_nonneg h0]
    have a := hq.1
    have b := hq.2
    rw [Int.bmod_eq_of_le] <;> omega
  rw [← Int32.toInt_inj, hd, zI_t hx, zI_t hy, zI_t hq, Int.tdiv_eq_ediv_of_nonneg h0]
theorem zIrem {x y : Int} (hx : zI x) (hy : zI y) (h0 : 0 ≤ x) (h1 : 0 < y) : Int32.ofInt x - Int32.ofInt x / Int32.ofInt y * Int32.ofInt y = Int32.ofInt (x % y) ∧ zI (x % y) := by
  have hm0 := Int.emod_nonneg x (show y ≠ 0 by omega)
  have hm1 := Int.emod_lt_of_pos x h1
  have hq : zI (x % y) := ⟨by omega, by have := hy.2; omega⟩
  refine ⟨?_, hq⟩
  rw [(zIdiv hx hy h0 h1).1, ← Int32.ofInt_mul, ← Int32.ofInt_sub]
  congr 1
  have := Int.emod_add_mul_ediv x y
  rw [Int.mul_comm (x / y) y]
  omega
theorem zcmp_lg {x y : Int} (hx : zJ x) (hy : zJ y) : lg_cmp (Int64.ofInt x) (Int64.ofInt y) = Int32.ofInt (zcmp x y) ∧ zI (zcmp x y) := by
  unfold lg_cmp zcmp
  simp only [gt_iff_lt, Int64.lt_iff_toInt_lt, ← Int64.toInt_inj, zJ_t hx, zJ_t hy]
  refine ⟨?_, ?_⟩
  · repeat' split
    all_goals rfl
  · repeat' split
    all_goals exact ⟨by decide, by decide⟩
theorem zmin32 {x y : Int} (hx : zI x) (hy : zI y) : (if Int32.ofInt y < Int32.ofInt x then Int32.ofInt y else Int32.ofInt x) = Int32.ofInt (min x y) ∧ zI (min x y) := by
  simp only [zlt hy hx]
  have h1 := hx.1; have h2 := hx.2; have h3 := hy.1; have h4 := hy.2
  refine ⟨?_, by unfold zI; omega⟩
  split
  · congr 1; omega
  · congr 1; omega
theorem zst1_nth (v : zV) : ∀ (L : zL) (A k : Nat) (w : zV), znth (zst1 L A v) k = some (some w) → (k = A ∧ w = v) ∨ (k ≠ A ∧ znth L k = some (some w) ∧ ¬ (k + 1 = A ∧ ∃ a, w = .inr (.inl a)))
  | [], _, k, w, h => by simp [zst1, znth] at h
  | x :: L, 0, k, w, h => by
    cases k with
    | zero => simp only [zst1, znth] at h; cases h; exact Or.inl ⟨rfl, rfl⟩
    | succ k => simp only [zst1, znth] at h; exact Or.inr ⟨by omega, by simpa only [znth] using h, by omega⟩
  | x :: L, n + 1, k, w, h => by
    cases k with
    | zero =>
      simp only [zst1, znth] at h
      cases n with
      | zero =>
        simp only at h
        refine Or.inr ⟨by omega, ?_, ?_⟩
        · rcases x with _ | (a | (a | a)) <;> simp [zkl] at h <;> simp [znth, h]
        · rintro ⟨-, a, rfl⟩
          rcases x with _ | (a | (a | a)) <;> simp [zkl] at h
      | succ n => simp only at h; exact Or.inr ⟨by omega, by simpa only [znth] using h, by omega⟩
    | succ k =>
      simp only [zst1, znth] at h
      rcases zst1_nth v L n k w h with ⟨rfl, h2⟩ | ⟨h1, h2, h3⟩
      · exact Or.inl ⟨rfl, h2⟩
      · refine Or.inr ⟨by omega, by simpa only [znth] using h2, ?_⟩
        rintro ⟨e, f⟩
        exact h3 ⟨by omega, f⟩
theorem zclr_nth : ∀ (L : zL) (A k : Nat) (w : zV), znth (zclr L A) k = some (some w) → k ≠ A ∧ znth L k = some (some w)
  | [], _, k, w, h => by simp [zclr, znth] at h
  | x :: L, 0, k, w, h => by
    cases k with
    | zero => simp [zclr, znth] at h
    | succ k => simp only [zclr, znth] at h; exact ⟨by omega, by simpa only [znth] using h⟩
  | x :: L, n + 1, k, w, h => by
    cases k with
    | zero => simp only [zclr, znth] at h; exact ⟨by omega, by simpa only [znth] using h⟩
    | succ k =>
      simp only [zclr, znth] at h
      obtain ⟨h1, h2⟩ := zclr_nth L n k w h
      exact ⟨by omega, by simpa only [znth] using h2⟩
theorem zst1_len (v : zV) : ∀ (L : zL) (A : Nat), (zst1 L A v).length = L.length
  | [], _ => rfl
  | x :: L, 0 => rfl
  | x :: L, n + 1 => by simp only [zst1, List.length_cons, zst1_len v L n]
theorem zclr_len : ∀ (L : zL) (A : Nat), (zclr L A).length = L.length
  | [], _ => rfl
  | x :: L, 0 => rfl
  | x :: L, n + 1 => by simp only [zclr, List.length_cons, zclr_len L n]
theorem znth_lt {α : Type} : ∀ (L : List α) (k : Nat) (v : α), znth L k = some v → k < L.length
  | [], k, v, h => by simp [znth] at h
  | x :: L, 0, v, h => by simp
  | x :: L, k + 1, v, h => by simp only [znth] at h; have := znth_lt L k v h; simp; omega
theorem zmask_nth : ∀ (m : List Bool) (L : zL) (k : Nat) (w : zV), znth (zmask m L) k = some (some w) → znth L k = some (some w)
  | [], L, k, w, h => by simp [zmask, znth] at h
  | _ :: _, [], k, w, h => by simp [zmask, znth] at h
  | b :: m, x :: L, 0, w, h => by
    simp only [zmask, znth] at h ⊢
    cases b with
    | false => simp at h
    | true => simpa using h
  | b :: m, x :: L, k + 1, w, h => by
    simp only [zmask, znth] at h ⊢
    exact zmask_nth m L k w h
/-- the locals hold what the list says -/
def zLo (ad : Nat → Nat) (ls : Array Slot) (nL : Nat) (L : zL) : Prop := ls.size = nL ∧ lv_wf ls ∧ ∀ k v, znth L k = some (some v) → ls[k]? = some (.val (zcv ad v))
def zlv (ad : Nat → Nat) (L : zL) : List (Nat × Value) := (List.range L.length).filterMap (fun k => match znth L k with | some (some v) => some (k, zcv ad v) | _ => none)
theorem zlv_mem {ad : Nat → Nat} {L : zL} {k : Nat} {v : zV} (h : znth L k = some (some v)) : (k, zcv ad v) ∈ zlv ad L :=
  List.mem_filterMap.mpr ⟨k, List.mem_range.mpr (znth_lt L k _ h), by simp only [h]⟩
theorem zlv_inv {ad : Nat → Nat} {L : zL} {q : Nat × Value} (h : q ∈ zlv ad L) : ∃ v, znth L q.1 = some (some v) ∧ q.2 = zcv ad v := by
  obtain ⟨k, -, hk⟩ := List.mem_filterMap.mp h
  split at hk
  · rename_i v hv
    cases hk
    exact ⟨v, hv, rfl⟩
  · cases hk
theorem zLo.has {ad : Nat → Nat} {ls : Array Slot} {nL : Nat} {L : zL} (h : zLo ad ls nL L) : lv_has ls nL (zlv ad L) := ⟨h.1, h.2.1, fun q hq => by
  obtain ⟨v, h1, h2⟩ := zlv_inv hq
  rw [h2]
  exact h.2.2 _ _ h1⟩
theorem zcv_cat2 {ad : Nat → Nat} {w : zV} (h : (zcv ad w).category = 2) : ∃ a, w = .inr (.inl a) := by
  rcases w with a | a | ⟨a, b⟩
  · simp [zcv, Value.category] at h
  · exact ⟨a, rfl⟩
  · simp [zcv, Value.category] at h
theorem zLo.st1 {ad : Nat → Nat} {ls' : Array Slot} {nL A : Nat} {L : zL} {v : zV} (h' : lv_has ls' nL ((A, zcv ad v) :: (zlv ad L).filter (fun q => !(q.1 == A) && !(q.1 + 1 == A && q.2.category == 2)))) : zLo ad ls' nL (zst1 L A v) := by
  refine ⟨h'.1, h'.2.1, fun k w hk => ?_⟩
  rcases zst1_nth v L A k w hk with ⟨rfl, rfl⟩ | ⟨h1, h2, h3⟩
  · exact h'.2.2 (k, zcv ad w) List.mem_cons_self
  · refine h'.2.2 (k, zcv ad w) (List.mem_cons_of_mem _ (List.mem_filter.mpr ⟨zlv_mem h2, ?_⟩))
    have h4 : ¬ (k + 1 = A ∧ (zcv ad w).category = 2) := fun q => h3 ⟨q.1, zcv_cat2 q.2⟩
    simp only [Bool.and_eq_true, Bool.not_eq_true', beq_eq_false_iff_ne, ne_eq, Bool.and_eq_false_iff]
    refine ⟨h1, ?_⟩
    by_cases e : k + 1 = A
    · exact Or.inr (fun q => h4 ⟨e, q⟩)
    · exact Or.inl e
theorem zLo.st2 {ad : Nat → Nat} {ls' : Array Slot} {nL A : Nat} {L : zL} {v : zV} (h' : lv_has ls' nL ((A, zcv ad v) :: (zlv ad L).filter (fun q => !(q.1 == A) && (!(q.1 == A + 1) && !(q.1 + 1 == A && q.2.category == 2))))) : zLo ad ls' nL (zst2 L A v) := by
  refine ⟨h'.1, h'.2.1, fun k w hk => ?_⟩
  rcases zst1_nth v (zclr L (A + 1)) A k w hk with ⟨rfl, rfl⟩ | ⟨h1, h2, h3⟩
  · exact h'.2.2 (k, zcv ad w) List.mem_cons_self
  · obtain ⟨h5, h6⟩ := zclr_nth L (A + 1) k w h2
    refine h'.2.2 (k, zcv ad w) (List.mem_cons_of_mem _ (List.mem_filter.mpr ⟨zlv_mem h6, ?_⟩))
    have h4 : ¬ (k + 1 = A ∧ (zcv ad w).category = 2) := fun q => h3 ⟨q.1, zcv_cat2 q.2⟩
    simp only [Bool.and_eq_true, Bool.not_eq_true', beq_eq_false_iff_ne, ne_eq, Bool.and_eq_false_iff]
    refine ⟨h1, h5, ?_⟩
    by_cases e : k + 1 = A
    · exact Or.inr (fun q => h4 ⟨e, q⟩)
    · exact Or.inl e
theorem zLo.mask {ad : Nat → Nat} {ls : Array Slot} {nL : Nat} {L : zL} {m : List Bool} (h : zLo ad ls nL L) : zLo ad ls nL (zmask m L) := ⟨h.1, h.2.1, fun k v hk => h.2.2 k v (zmask_nth m L k v hk)⟩
/-! cells -/
theorem zwl_at (ad : Nat → Nat) (ct : Nat → ClassId) (σ : zS) {k : Nat} (h : k < zNC) : (zwl ad ct σ)[k]? = some (ad k, zcel ad ct σ k) := by
  unfold zwl
  rw [List.getElem?_map, List.getElem?_range h]
  rfl
theorem zwl_len (ad : Nat → Nat) (ct : Nat → ClassId) (σ : zS) : (zwl ad ct σ).length = zNC := by simp [zwl]
theorem zwl_inv {ad : Nat → Nat} {ct : Nat → ClassId} {σ : zS} {k : Nat} {q : Nat × va_E} (h : (zwl ad ct σ)[k]? = some q) : k < zNC ∧ q = (ad k, zcel ad ct σ k) := by
  have hk : k < zNC := by have := (List.getElem?_eq_some_iff.mp h).1; rwa [zwl_len] at this
  exact ⟨hk, (Option.some.inj ((zwl_at ad ct σ hk).symm.trans h)).symm⟩
theorem zwl_set (ad : Nat → Nat) (ct : Nat → ClassId) (σ u : zS) (k : Nat) (e : va_E) (h : k < zNC) (he : e = zcel ad ct u k) (ho : ∀ j, j < zNC → j ≠ k → zcel ad ct u j = zcel ad ct σ j) : (zwl ad ct σ).set k (ad k, e) = zwl ad ct u := by
  apply List.ext_getElem?
  intro j
  by_cases hj : j = k
  · subst hj
    rw [List.getElem?_set_self (by rw [zwl_len]; exact h), zwl_at ad ct u h, he]
  · rw [List.getElem?_set_ne (Ne.symm hj)]
    by_cases hl : j < zNC
    · rw [zwl_at ad ct σ hl, zwl_at ad ct u hl, ho j hl hj]
    · rw [List.getElem?_eq_none (by rw [zwl_len]; omega), List.getElem?_eq_none (by rw [zwl_len]; omega)]
theorem zsum_ok (ad : Nat → Nat) : ∀ st : List zV, ((st.map (zcv ad)).map fun v => v.category).sum = zsum st
  | [] => rfl
  | .inl a :: l => by simp only [List.map_cons, List.sum_cons, zsum, zsum_ok ad l]; rfl
  | .inr (.inl a) :: l => by simp only [List.map_cons, List.sum_cons, zsum, zsum_ok ad l]; rfl
  | .inr (.inr (a, b)) :: l => by simp only [List.map_cons, List.sum_cons, zsum, zsum_ok ad l]; rfl
theorem zpop_ok : ∀ (n : Nat) (acc st as rest : List zV), zpop n acc st = some (as, rest) → ∃ pre, pre.length = n ∧ st = pre ++ rest ∧ as = pre.reverse ++ acc
  | 0, acc, st, as, rest, h => by simp only [zpop] at h; cases h; exact ⟨[], rfl, rfl, rfl⟩
  | n + 1, acc, [], as, rest, h => by simp [zpop] at h
  | n + 1, acc, v :: st, as, rest, h => by
    simp only [zpop] at h
    obtain ⟨pre, h1, h2, h3⟩ := zpop_ok n (v :: acc) st as rest h
    exact ⟨v :: pre, by simp [h1], by rw [h2]; rfl, by rw [h3]; simp⟩
end
section
/-! one step of the quiet machine is one of the machine -/
def zlen (ins : Instr) (B : Nat) : Nat := match ins with
  | .bipush _ | .iload _ | .lload _ | .aload _ | .istore _ | .lstore _ | .astore _ | .ldc _ => 2
  | .sipush _ | .ldc_w _ | .ldc2_w _ | .iinc _ _ | .goto _ | .ifCond _ _ | .if_icmp _ _ | .getfield _ | .putfield _ | .invokevirtual _ | .invokestatic _ => 3
  | .tableswitch _ _ _ _ | .lookupswitch _ _ => B
  | _ => 1
def zIb (v : Int) : Bool := decide (-2147483648 ≤ v) && decide (v ≤ 2147483647)
theorem zIb_ok {v : Int} (h : zIb v = true) : zI v := by
  simp only [zIb, Bool.and_eq_true, decide_eq_true_eq] at h; exact h
def zrk (r : Option FieldType) : Nat := match r with
  | none => 0
  | some .long => 2
  | some _ => 1
def zri (r : Option FieldType) : Instr := match r with
  | none => .return_
  | some .long => .lreturn
  | some _ => .ireturn
def zroom (A i : Nat) : Bool := decide ((zq A).frames + 1 ≤ (zq i).frames) && decide (8 + (zl A + 11) + (zq A).locals ≤ (zq i).locals) && (decide ((zq A).cells = 0) && decide ((zq A).slots = 0))
def zaux (i pc : Nat) (ins : Instr) (A B : Nat) (C : Int) : Bool := match ins with
  | .iload_n k | .lload_n k | .aload_n k => decide ((k : Nat) = A)
  | .iload k | .lload k | .aload k => decide (k = A)
  | .istore_n k | .astore_n k => decide ((k : Nat) = A) && decide (A < zl i)
  | .istore k | .astore k => decide (k = A) && decide (A < zl i)
  | .lstore_n k => decide ((k : Nat) = A) && decide (A + 1 < zl i)
  | .lstore k => decide (k = A) && decide (A + 1 < zl i)
  | .iconst n => decide (n = C) && zIb C
  | .bipush n => decide ((Int8.ofInt n).toInt32 = Int32.ofInt C) && zIb C
  | .sipush n => decide ((Int16.ofInt n).toInt32 = Int32.ofInt C) && zIb C
  | .lconst k => decide (Int64.ofNat (k : Nat) = Int64.ofInt C) && zIb C
  | .ldc j | .ldc_w j => decide ((zow i, j, C) ∈ zkc)
  | .ldc2_w j => decide ((zow i, j, C) ∈ zkL)
  | .iinc j n => decide (j = A) && decide (n = C) && decide (A < zl i)
  | .goto off | .ifCond _ off | .if_icmp _ off => decide ((pc : Int) + off = (A : Int))
  | .tableswitch d lo hi offs => decide (0 ≤ (pc : Int) + d) && offs.toList.all (fun o => decide (0 ≤ (pc : Int) + o)) && decide (hi = lo + (offs.toList.length : Int) - 1)
  | .lookupswitch d ps => decide (0 ≤ (pc : Int) + d) && ps.toList.all (fun x => decide (0 ≤ (pc : Int) + x.2)) && (ps.toList.zip (ps.toList.drop 1)).all (fun (a, next) => a.1 < next.1)
  | .getfield j => decide ((zow i, j, A, B, C) ∈ zfl) && (decide (2 ≤ B) || decide (zlg A C = Nat.beq B 1))
  | .putfield j => decide ((zow i, j, A, B, C) ∈ zfl) && decide (zlg A C = Nat.beq B 1) && decide ((zT (zcn A) C.toNat).2.2.2 = false)
  | .invokevirtual j => decide ((zow i, j, A) ∈ zvl) && decide (A < zlaw) && decide (B = znp A) && decide (C.toNat % 4 = zrk (zr A)) && decide (C.toNat / 4 < 10) && decide (zcn (C.toNat / 4) = zow A) && zroom A i
  | .invokestatic j => if 9010 ≤ A then decide ((zow i, j, A) ∈ zxl) && decide (1 ≤ (zq i).frames) && decide (40 ≤ (zq i).locals) else
      (decide ((zow i, j, A) ∈ zsl) || decide ((zow i, j, A) ∈ znl)) && decide (A < zlaw) && decide (B = znp A) && decide (C.toNat % 4 = zrk (zr A)) && zroom A i
  | .ireturn => (decide (zr i = some .int) && decide (A = 0)) || (decide (zr i = some .boolean) && decide (A = 1))
  | .lreturn => decide (zr i = some .long)
  | .return_ => decide (zr i = none)
  | _ => true
def zchk (i : Nat) (e : zE) : Bool := (decide (decode (zb i) e.1 = .ok (e.2.2.1, zlen e.2.2.1 e.2.2.2.2.1)) && decide (e.2.1 = e.1 + zlen e.2.2.1 e.2.2.2.2.1)) && zaux i e.1 e.2.2.1 e.2.2.2.1 e.2.2.2.2.1 e.2.2.2.2.2
theorem zchk_ok {i pc n : Nat} {ins : Instr} {A B : Nat} {C : Int} (h : zchk i (pc, n, ins, A, B, C) = true) : decode (zb i) pc = .ok (ins, zlen ins B) ∧ n = pc + zlen ins B ∧ zaux i pc ins A B C = true := by
  simp only [zchk, Bool.and_eq_true, decide_eq_true_eq] at h
  exact ⟨h.1.1, h.1.2, h.2⟩
theorem zlg_k {k : Nat} {i : Int} (h : zlg k i = true) : zkd k = 2 ∨ zkd k = 4 := by
  unfold zlg at h
  split at h
  all_goals first | exact Or.inl rfl | exact Or.inr rfl | exact absurd h (by decide)
theorem zWF.i {σ : zS} (h : zWF σ) {k : Nat} {i : Int} (hk : zlg k i = false) : zI (σ k i) := (h k i).2 hk
theorem zlg_0 {k : Nat} {i : Int} (h : zkd k ≠ 2) (h4 : zkd k ≠ 4) : zlg k i = false := by
  cases e : zlg k i with
  | false => rfl
  | true => rcases zlg_k e with q | q <;> contradiction
theorem zWF.up {σ : zS} (h : zWF σ) {k : Nat} {i v : Int} (hv : zJ v) (hi : zlg k i = false → zI v) : zWF (zup σ k i v) := by
  intro k' i'
  unfold zup
  by_cases e : k' = k
  · subst e
    by_cases f : i' = i
    · subst f
      rw [if_pos rfl, if_pos rfl]
      exact ⟨hv, hi⟩
    · rw [if_pos rfl, if_neg f]
      exact h _ _
  · rw [if_neg e]
    exact h _ _
theorem zNw.same {u U : State} (h : u.vm = U.vm) (hz : zNw u) : zNw U := fun w hw hn => va_Nw.same (by cases w <;> first | rfl | exact absurd (show false = true from hn) Bool.false_ne_true) h (hz w hw hn)
theorem zNw.warm {s U : State} (hW : s.WarmedH U.vm) (hz : zNw s) : zNw U := fun w hw hn => by
  have h1 := hz w hw hn
  cases w <;> first | exact absurd (show false = true from hn) Bool.false_ne_true | exact va_Nw.warmM hW h1
/-- the script of the law -/
def zScr (X : zX) (s : State) (ad : Nat → Nat) (AA : Nat → Prop) : Prop := 0 ≤ X.1 → ∃ (n : Nat) (xs : Nat → Int32), va_X (ad 1000) n xs s s.heap ∧ ad 1000 < s.heap.size ∧ ¬ AA (ad 1000) ∧ X.1 = (n : Int) ∧ n ≤ 3584 ∧ ∀ j : Nat, j < n → X.2 (j : Int) = (xs j).toInt
def zFix (i : Nat) (X : zX) (p : Program) (s : State) (m : MethodId) (args : Array Value) (c : Code) (D : va_G) (ad : Nat → Nat) (ct : Nat → ClassId) (AA : Nat → Prop) (cells slots : Nat) : Prop :=
  p.tables.exec = Jvm.exec ∧ c.code = zb i ∧ c.maxLocals = zl i ∧ s.vm.findClass (zRn (zow i)) = some m.cls ∧ (∀ w ∈ zTB, w.before args s = true) ∧ va_K D zcl (ztys ct) s ∧ zNw s ∧ (∀ q, s.heap.size ≤ q → AA q) ∧ cells ≤ (zq i).cells ∧ slots ≤ (zq i).slots ∧ zScr X s ad AA
def zWo (D : va_G) (ad : Nat → Nat) (ct : Nat → ClassId) (AA : Nat → Prop) (s : State) (σ : zS) (H : Heap) (locs : List Loc) : Prop := va_P D zcl (zwl ad ct σ) H ∧ va_D AA (zwl ad ct σ) ∧ va_S AA s.heap H locs
def zEnd (i : Nat) (R : Int → zS → Prop) (p : Program) (l : Launch) (e : Env) (s : State) (m : MethodId) (args : Array Value) (below : List Frame) (meth : Method) (c : Code) (D : va_G) (ad : Nat → Nat) (ct : Nat → ClassId) (AA : Nat → Prop) (cells slots : Nat) (Q : State → Prop) : Prop :=
  ∀ (v : Int) (u : zS) (H : Heap) (locs : List Loc) (ls : Array Slot) (pc : Nat), R v u → zWF u → zRok (zr i) v → zWo D ad ct AA s u H locs → decode (zb i) pc = .ok (zri (zr i), 1) → W p l e (zq i) s m args below meth c H locs cells slots Q (F0 m pc ls (zRv (zr i) v).toList)
def zGo (i : Nat) (X : zX) (R : Int → zS → Prop) (pc : Nat) (L : zL) (st : List zV) (σ : zS) : Prop :=
  ∀ (p : Program) (l : Launch) (e : Env) (s : State) (m : MethodId) (args : Array Value) (below : List Frame) (meth : Method) (c : Code) (D : va_G) (ad : Nat → Nat) (ct : Nat → ClassId) (AA : Nat → Prop) (H : Heap) (locs : List Loc) (ls : Array Slot) (cells slots : Nat) (Q : State → Prop),
    zFix i X p s m args c D ad ct AA cells slots → zEnd i R p l e s m args below meth c D ad ct AA cells slots Q → zWo D ad ct AA s σ H locs → zLo ad ls (zl i) L → W p l e (zq i) s m args below meth c H locs cells slots Q (F0 m pc ls (st.map (zcv ad)))
def zRuns (i : Nat) (X : zX) (R : Int → zS → Prop) (pc : Nat) (L : zL) (st : List zV) (σ : zS) : Prop := zWF σ → (∀ k v, znth L k = some (some v) → zok v) → (∀ v ∈ st, zok v) → zGo i X R pc L st σ
theorem zs1 {v : zV} {st : List zV} (h : ∀ w ∈ v :: st, zok w) : zok v ∧ ∀ w ∈ st, zok w := ⟨h v List.mem_cons_self, fun w hw => h w (List.mem_cons_of_mem _ hw)⟩
theorem zs2 {v : zV} {st : List zV} (h : zok v) (hs : ∀ w ∈ st, zok w) : ∀ w ∈ v :: st, zok w := fun w hw => by
  rcases List.mem_cons.mp hw with rfl | hw
  · exact h
  · exact hs w hw
theorem zLok1 {L : zL} {A : Nat} {v : zV} (hL : ∀ k w, znth L k = some (some w) → zok w) (hv : zok v) : ∀ k w, znth (zst1 L A v) k = some (some w) → zok w := fun k w h => by
  rcases zst1_nth v L A k w h with ⟨-, rfl⟩ | ⟨-, h2, -⟩
  · exact hv
  · exact hL k w h2
theorem zLok2 {L : zL} {A : Nat} {v : zV} (hL : ∀ k w, znth L k = some (some w) → zok w) (hv : zok v) : ∀ k w, znth (zst2 L A v) k = some (some w) → zok w := fun k w h => by
  rcases zst1_nth v (zclr L (A + 1)) A k w h with ⟨-, rfl⟩ | ⟨-, h2, -⟩
  · exact hv
  · exact hL k w (zclr_nth L (A + 1) k w h2).2
/-- what a step rests on -/
def zHn (i : Nat) (X : zX) (R : Int → zS → Prop) (n : Nat) (nx : zL → List zV → zS → Prop) : Prop := ∀ L st σ, nx L st σ → zRuns i X R n L st σ
def zHJ (i : Nat) (X : zX) (R : Int → zS → Prop) (J : Nat → zL → List zV → zS → Prop) : Prop := ∀ t L st σ, J t L st σ → zRuns i X R t L st σ
section ZS
variable {i : Nat} {X : zX} {R : Int → zS → Prop} {nx : zL → List zV → zS → Prop} {J : Nat → zL → List zV → zS → Prop} {pc n A B : Nat} {C : Int} {L : zL} {st : List zV} {σ : zS}
set_option maxHeartbeats 1000000 in
theorem zs_iload_n {k : Fin 4} (hc : zchk i (pc, n, .iload_n k, A, B, C) = true) (hn : zHn i X R n nx) (hJ : zHJ i X R J) (h : zstep X R nx J pc (.iload_n k) A B C L st σ) : zRuns i X R pc L st σ := by
  obtain ⟨hdg, hnx, hax⟩ := zchk_ok hc
  simp only [zlen] at hdg hnx
  subst hnx
  simp only [zstep] at h
  intro hw hL hs p l e s m args below meth c D ad ct AA H locs ls cells slots Q fx en wo lo
  have fx0 := fx
  obtain ⟨hx, hb, hml, hown, hts, hK, hnw, hA, hce, hsl, hsc⟩ := fx
  simp only [zaux, decide_eq_true_eq] at hax
  split at h
  next v hv =>
    refine lv_iload_n hx hb hdg hax (lo.2.2 _ _ hv) ?_
    exact hn _ _ _ h hw hL (zs2 (hL _ _ hv) hs) p l e s m args below meth c D ad ct AA H locs ls cells slots Q fx0 en wo lo
  next => exact h.elim
set_option maxHeartbeats 1000000 in
theorem zs_iload {k : Nat} (hc : zchk i (pc, n, .iload k, A, B, C) = true) (hn : zHn i X R n nx) (hJ : zHJ i X R J) (h : zstep X R nx J pc (.iload k) A B C L st σ) : zRuns i X R pc L st σ := by
  obtain ⟨hdg, hnx, hax⟩ := zchk_ok hc
  simp only [zlen] at hdg hnx
  subst hnx
  simp only [zstep] at h
  intro hw hL hs p l e s m args below meth c D ad ct AA H locs ls cells slots Q fx en wo lo
  have fx0 := fx
  obtain ⟨hx, hb, hml, hown, hts, hK, hnw, hA, hce, hsl, hsc⟩ := fx
  simp only [zaux, decide_eq_true_eq] at hax
  split at h
  next v hv =>
    refine lv_iload hx hb hdg (by rw [hax]; exact lo.2.2 _ _ hv) ?_
    exact hn _ _ _ h hw hL (zs2 (hL _ _ hv) hs) p l e s m args below meth c D ad ct AA H locs ls cells slots Q fx0 en wo lo
  next => exact h.elim
set_option maxHeartbeats 1000000 in
theorem zs_lload_n {k : Fin 4} (hc : zchk i (pc, n, .lload_n k, A, B, C) = true) (hn : zHn i X R n nx) (hJ : zHJ i X R J) (h : zstep X R nx J pc (.lload_n k) A B C L st σ) : zRuns i X R pc L st σ := by
  obtain ⟨hdg, hnx, hax⟩ := zchk_ok hc
  simp only [zlen] at hdg hnx
  subst hnx
  simp only [zstep] at h
  intro hw hL hs p l e s m args below meth c D ad ct AA H locs ls cells slots Q fx en wo lo
  have fx0 := fx
  obtain ⟨hx, hb, hml, hown, hts, hK, hnw, hA, hce, hsl, hsc⟩ := fx
  simp only [zaux, decide_eq_true_eq] at hax
  split at h
  next v hv =>
    refine lv_lload_n hx hb hdg hax (lo.2.2 _ _ hv) ?_
    exact hn _ _ _ h hw hL (zs2 (hL _ _ hv) hs) p l e s m args below meth c D ad ct AA H locs ls cells slots Q fx0 en wo lo
  next => exact h.elim
set_option maxHeartbeats 1000000 in
theorem zs_lload {k : Nat} (hc : zchk i (pc, n, .lload k, A, B, C) = true) (hn : zHn i X R n nx) (hJ : zHJ i X R J) (h : zstep X R nx J pc (.lload k) A B C L st σ) : zRuns i X R pc L st σ := by
  obtain ⟨hdg, hnx, hax⟩ := zchk_ok hc
  simp only [zlen] at hdg hnx
  subst hnx
  simp only [zstep] at h
  intro hw hL hs p l e s m args below meth c D ad ct AA H locs ls cells slots Q fx en wo lo
  have fx0 := fx
  obtain ⟨hx, hb, hml, hown, hts, hK, hnw, hA, hce, hsl, hsc⟩ := fx
  simp only [zaux, decide_eq_true_eq] at hax
  split at h
  next v hv =>
    refine lv_lload hx hb hdg (by rw [hax]; exact lo.2.2 _ _ hv) ?_
    exact hn _ _ _ h hw hL (zs2 (hL _ _ hv) hs) p l e s m args below meth c D ad ct AA H locs ls cells slots Q fx0 en wo lo
  next => exact h.elim
set_option maxHeartbeats 1000000 in
theorem zs_aload_n {k : Fin 4} (hc : zchk i (pc, n, .aload_n k, A, B, C) = true) (hn : zHn i X R n nx) (hJ : zHJ i X R J) (h : zstep X R nx J pc (.aload_n k) A B C L st σ) : zRuns i X R pc L st σ := by
  obtain ⟨hdg, hnx, hax⟩ := zchk_ok hc
  simp only [zlen] at hdg hnx
  subst hnx
  simp only [zstep] at h
  intro hw hL hs p l e s m args below meth c D ad ct AA H locs ls cells slots Q fx en wo lo
  have fx0 := fx
  obtain ⟨hx, hb, hml, hown, hts, hK, hnw, hA, hce, hsl, hsc⟩ := fx
  simp only [zaux, decide_eq_true_eq] at hax
  split at h
  next v hv =>
    refine lv_aload_n hx hb hdg hax (lo.2.2 _ _ hv) ?_
    exact hn _ _ _ h hw hL (zs2 (hL _ _ hv) hs) p l e s m args below meth c D ad ct AA H locs ls cells slots Q fx0 en wo lo
  next => exact h.elim
set_option maxHeartbeats 1000000 in
theorem zs_aload {k : Nat} (hc : zchk i (pc, n, .aload k, A, B, C) = true) (hn : zHn i X R n nx) (hJ : zHJ i X R J) (h : zstep X R nx J pc (.aload k) A B C L st σ) : zRuns i X R pc L st σ := by
  obtain ⟨hdg, hnx, hax⟩ := zchk_ok hc
  simp only [zlen] at hdg hnx
  subst hnx
  simp only [zstep] at h
  intro hw hL hs p l e s m args below meth c D ad ct AA H locs ls cells slots Q fx en wo lo
  have fx0 := fx
  obtain ⟨hx, hb, hml, hown, hts, hK, hnw, hA, hce, hsl, hsc⟩ := fx
  simp only [zaux, decide_eq_true_eq] at hax
  split at h
  next v hv =>
    refine lv_aload hx hb hdg (by rw [hax]; exact lo.2.2 _ _ hv) ?_
    exact hn _ _ _ h hw hL (zs2 (hL _ _ hv) hs) p l e s m args below meth c D ad ct AA H locs ls cells slots Q fx0 en wo lo
  next => exact h.elim
set_option maxHeartbeats 1000000 in
theorem zs_istore_n {k : Fin 4} (hc : zchk i (pc, n, .istore_n k, A, B, C) = true) (hn : zHn i X R n nx) (hJ : zHJ i X R J) (h : zstep X R nx J pc (.istore_n k) A B C L st σ) : zRuns i X R pc L st σ := by
  obtain ⟨hdg, hnx, hax⟩ := zchk_ok hc
  simp only [zlen] at hdg hnx
  subst hnx
  simp only [zstep] at h
  intro hw hL hs p l e s m args below meth c D ad ct AA H locs ls cells slots Q fx en wo lo
  have fx0 := fx
  obtain ⟨hx, hb, hml, hown, hts, hK, hnw, hA, hce, hsl, hsc⟩ := fx
  simp only [zaux, Bool.and_eq_true, decide_eq_true_eq] at hax
  split at h
  next =>
    refine lv_istore_n hx hb hdg hax.1 lo.has hax.2 rfl (fun ls h8 => ?_)
    exact hn _ _ _ h hw (zLok1 hL (zs1 hs).1) (zs1 hs).2 p l e s m args below meth c D ad ct AA H locs ls cells slots Q fx0 en wo (zLo.st1 h8)
  next => exact h.elim
set_option maxHeartbeats 1000000 in
theorem zs_istore {k : Nat} (hc : zchk i (pc, n, .istore k, A, B, C) = true) (hn : zHn i X R n nx) (hJ : zHJ i X R J) (h : zstep X R nx J pc (.istore k) A B C L st σ) : zRuns i X R pc L st σ := by
  obtain ⟨hdg, hnx, hax⟩ := zchk_ok hc
  simp only [zlen] at hdg hnx
  subst hnx
  simp only [zstep] at h
  intro hw hL hs p l e s m args below meth c D ad ct AA H locs ls cells slots Q fx en wo lo
  have fx0 := fx
  obtain ⟨hx, hb, hml, hown, hts, hK, hnw, hA, hce, hsl, hsc⟩ := fx
  simp only [zaux, Bool.and_eq_true, decide_eq_true_eq] at hax
  obtain ⟨rfl, hlt⟩ := hax
  split at h
  next =>
    refine lv_istore hx hb hdg lo.has hlt rfl (fun ls h8 => ?_)
    exact hn _ _ _ h hw (zLok1 hL (zs1 hs).1) (zs1 hs).2 p l e s m args below meth c D ad ct AA H locs ls cells slots Q fx0 en wo (zLo.st1 h8)
  next => exact h.elim
set_option maxHeartbeats 1000000 in
theorem zs_lstore_n {k : Fin 4} (hc : zchk i (pc, n, .lstore_n k, A, B, C) = true) (hn : zHn i X R n nx) (hJ : zHJ i X R J) (h : zstep X R nx J pc (.lstore_n k) A B C L st σ) : zRuns i X R pc L st σ := by
  obtain ⟨hdg, hnx, hax⟩ := zchk_ok hc
  simp only [zlen] at hdg hnx
  subst hnx
  simp only [zstep] at h
  intro hw hL hs p l e s m args below meth c D ad ct AA H locs ls cells slots Q fx en wo lo
  have fx0 := fx
  obtain ⟨hx, hb, hml, hown, hts, hK, hnw, hA, hce, hsl, hsc⟩ := fx
  simp only [zaux, Bool.and_eq_true, decide_eq_true_eq] at hax
  split at h
  next =>
    refine lv_lstore_n hx hb hdg hax.1 lo.has hax.2 rfl (fun ls h8 => ?_)
    exact hn _ _ _ h hw (zLok2 hL (zs1 hs).1) (zs1 hs).2 p l e s m args below meth c D ad ct AA H locs ls cells slots Q fx0 en wo (zLo.st2 h8)
  next => exact h.elim
set_option maxHeartbeats 1000000 in
theorem zs_lstore {k : Nat} (hc : zchk i (pc, n, .lstore k, A, B, C) = true) (hn : zHn i X R n nx) (hJ : zHJ i X R J) (h : zstep X R nx J pc (.lstore k) A B C L st σ) : zRuns i X R pc L st σ := by
  obtain ⟨hdg, hnx, hax⟩ := zchk_ok hc
  simp only [zlen] at hdg hnx
  subst hnx
  simp only [zstep] at h
  intro hw hL hs p l e s m args below meth c D ad ct AA H locs ls cells slots Q fx en wo lo
  have fx0 := fx
  obtain ⟨hx, hb, hml, hown, hts, hK, hnw, hA, hce, hsl, hsc⟩ := fx
  simp only [zaux, Bool.and_eq_true, decide_eq_true_eq] at hax
  obtain ⟨rfl, hlt⟩ := hax
  split at h
  next =>
    refine lv_lstore hx hb hdg lo.has hlt rfl (fun ls h8 => ?_)
    exact hn _ _ _ h hw (zLok2 hL (zs1 hs).1) (zs1 hs).2 p l e s m args below meth c D ad ct AA H locs ls cells slots Q fx0 en wo (zLo.st2 h8)
  next => exact h.elim
set_option maxHeartbeats 1000000 in
theorem zs_astore_n {k : Fin 4} (hc : zchk i (pc, n, .astore_n k, A, B, C) = true) (hn : zHn i X R n nx) (hJ : zHJ i X R J) (h : zstep X R nx J pc (.astore_n k) A B C L st σ) : zRuns i X R pc L st σ := by
  obtain ⟨hdg, hnx, hax⟩ := zchk_ok hc
  simp only [zlen] at hdg hnx
  subst hnx
  simp only [zstep] at h
  intro hw hL hs p l e s m args below meth c D ad ct AA H locs ls cells slots Q fx en wo lo
  have fx0 := fx
  obtain ⟨hx, hb, hml, hown, hts, hK, hnw, hA, hce, hsl, hsc⟩ := fx
  simp only [zaux, Bool.and_eq_true, decide_eq_true_eq] at hax
  split at h
  next =>
    refine lv_astore_n hx hb hdg hax.1 lo.has hax.2 rfl (fun ls h8 => ?_)
    exact hn _ _ _ h hw (zLok1 hL (zs1 hs).1) (zs1 hs).2 p l e s m args below meth c D ad ct AA H locs ls cells slots Q fx0 en wo (zLo.st1 h8)
  next => exact h.elim
set_option maxHeartbeats 1000000 in
theorem zs_astore {k : Nat} (hc : zchk i (pc, n, .astore k, A, B, C) = true) (hn : zHn i X R n nx) (hJ : zHJ i X R J) (h : zstep X R nx J pc (.astore k) A B C L st σ) : zRuns i X R pc L st σ := by
  obtain ⟨hdg, hnx, hax⟩ := zchk_ok hc
  simp only [zlen] at hdg hnx
  subst hnx
  simp only [zstep] at h
  intro hw hL hs p l e s m args below meth c D ad ct AA H locs ls cells slots Q fx en wo lo
  have fx0 := fx
  obtain ⟨hx, hb, hml, hown, hts, hK, hnw, hA, hce, hsl, hsc⟩ := fx
  simp only [zaux, Bool.and_eq_true, decide_eq_true_eq] at hax
  obtain ⟨rfl, hlt⟩ := hax
  split at h
  next =>
    refine lv_astore hx hb hdg lo.has hlt rfl (fun ls h8 => ?_)
    exact hn _ _ _ h hw (zLok1 hL (zs1 hs).1) (zs1 hs).2 p l e s m args below meth c D ad ct AA H locs ls cells slots Q fx0 en wo (zLo.st1 h8)
  next => exact h.elim
set_option maxHeartbeats 1000000 in
theorem zs_iconst {k : Int} (hc : zchk i (pc, n, .iconst k, A, B, C) = true) (hn : zHn i X R n nx) (hJ : zHJ i X R J) (h : zstep X R nx J pc (.iconst k) A B C L st σ) : zRuns i X R pc L st σ := by
  obtain ⟨hdg, hnx, hax⟩ := zchk_ok hc
  simp only [zlen] at hdg hnx
  subst hnx
  simp only [zstep] at h
  intro hw hL hs p l e s m args below meth c D ad ct AA H locs ls cells slots Q fx en wo lo
  have fx0 := fx
  obtain ⟨hx, hb, hml, hown, hts, hK, hnw, hA, hce, hsl, hsc⟩ := fx
  simp only [zaux, Bool.and_eq_true, decide_eq_true_eq] at hax
  refine lv_iconst hx hb hdg (by rw [hax.1]) ?_
  exact hn _ _ _ h hw hL (zs2 (zIb_ok hax.2) hs) p l e s m args below meth c D ad ct AA H locs ls cells slots Q fx0 en wo lo
set_option maxHeartbeats 1000000 in
theorem zs_bipush {k : Int} (hc : zchk i (pc, n, .bipush k, A, B, C) = true) (hn : zHn i X R n nx) (hJ : zHJ i X R J) (h : zstep X R nx J pc (.bipush k) A B C L st σ) : zRuns i X R pc L st σ := by
  obtain ⟨hdg, hnx, hax⟩ := zchk_ok hc
  simp only [zlen] at hdg hnx
  subst hnx
  simp only [zstep] at h
  intro hw hL hs p l e s m args below meth c D ad ct AA H locs ls cells slots Q fx en wo lo
  have fx0 := fx
  obtain ⟨hx, hb, hml, hown, hts, hK, hnw, hA, hce, hsl, hsc⟩ := fx
  simp only [zaux, Bool.and_eq_true, decide_eq_true_eq] at hax
  refine lv_bipush hx hb hdg hax.1 ?_
  exact hn _ _ _ h hw hL (zs2 (zIb_ok hax.2) hs) p l e s m args below meth c D ad ct AA H locs ls cells slots Q fx0 en wo lo
set_option maxHeartbeats 1000000 in
theorem zs_sipush {k : Int} (hc : zchk i (pc, n, .sipush k, A, B, C) = true) (hn : zHn i X R n nx) (hJ : zHJ i X R J) (h : zstep X R nx J pc (.sipush k) A B C L st σ) : zRuns i X R pc L st σ := by
  obtain ⟨hdg, hnx, hax⟩ := zchk_ok hc
  simp only [zlen] at hdg hnx
  subst hnx
  simp only [zstep] at h
  intro hw hL hs p l e s m args below meth c D ad ct AA H locs ls cells slots Q fx en wo lo
  have fx0 := fx
  obtain ⟨hx, hb, hml, hown, hts, hK, hnw, hA, hce, hsl, hsc⟩ := fx
  simp only [zaux, Bool.and_eq_true, decide_eq_true_eq] at hax
  refine lv_sipush hx hb hdg hax.1 ?_
  exact hn _ _ _ h hw hL (zs2 (zIb_ok hax.2) hs) p l e s m args below meth c D ad ct AA H locs ls cells slots Q fx0 en wo lo
set_option maxHeartbeats 1000000 in
theorem zs_ldc {k : Nat} (hc : zchk i (pc, n, .ldc k, A, B, C) = true) (hn : zHn i X R n nx) (hJ : zHJ i X R J) (h : zstep X R nx J pc (.ldc k) A B C L st σ) : zRuns i X R pc L st σ := by
  obtain ⟨hdg, hnx, hax⟩ := zchk_ok hc
  simp only [zlen] at hdg hnx
  subst hnx
  simp only [zstep] at h
  intro hw hL hs p l e s m args below meth c D ad ct AA H locs ls cells slots Q fx en wo lo
  have fx0 := fx
  obtain ⟨hx, hb, hml, hown, hts, hK, hnw, hA, hce, hsl, hsc⟩ := fx
  simp only [zaux, decide_eq_true_eq] at hax
  have hk := zkc_ok _ hax
  refine lv_ldc hx hb hown (hts _ hk.1) hdg ?_
  exact hn _ _ _ h hw hL (zs2 hk.2 hs) p l e s m args below meth c D ad ct AA H locs ls cells slots Q fx0 en wo lo
set_option maxHeartbeats 1000000 in
theorem zs_ldc_w {k : Nat} (hc : zchk i (pc, n, .ldc_w k, A, B, C) = true) (hn : zHn i X R n nx) (hJ : zHJ i X R J) (h : zstep X R nx J pc (.ldc_w k) A B C L st σ) : zRuns i X R pc L st σ := by
  obtain ⟨hdg, hnx, hax⟩ := zchk_ok hc
  simp only [zlen] at hdg hnx
  subst hnx
  simp only [zstep] at h
  intro hw hL hs p l e s m args below meth c D ad ct AA H locs ls cells slots Q fx en wo lo
  have fx0 := fx
  obtain ⟨hx, hb, hml, hown, hts, hK, hnw, hA, hce, hsl, hsc⟩ := fx
  simp only [zaux, decide_eq_true_eq] at hax
  have hk := zkc_ok _ hax
  refine lv_ldcw hx hb hown (hts _ hk.1) hdg ?_
  exact hn _ _ _ h hw hL (zs2 hk.2 hs) p l e s m args below meth c D ad ct AA H locs ls cells slots Q fx0 en wo lo
set_option maxHeartbeats 1000000 in
theorem zs_ldc2_w {k : Nat} (hc : zchk i (pc, n, .ldc2_w k, A, B, C) = true) (hn : zHn i X R n nx) (hJ : zHJ i X R J) (h : zstep X R nx J pc (.ldc2_w k) A B C L st σ) : zRuns i X R pc L st σ := by
  obtain ⟨hdg, hnx, hax⟩ := zchk_ok hc
  simp only [zlen] at hdg hnx
  subst hnx
  simp only [zstep] at h
  intro hw hL hs p l e s m args below meth c D ad ct AA H locs ls cells slots Q fx en wo lo
  have fx0 := fx
  obtain ⟨hx, hb, hml, hown, hts, hK, hnw, hA, hce, hsl, hsc⟩ := fx
  simp only [zaux, decide_eq_true_eq] at hax
  have hk := zkL_ok _ hax
  refine lv_ldc2 hx hb hown (hts _ hk.1) hdg ?_
  exact hn _ _ _ h hw hL (zs2 (v := .inr (.inl C)) hk.2 hs) p l e s m args below meth c D ad ct AA H locs ls cells slots Q fx0 en wo lo
set_option maxHeartbeats 1000000 in
theorem zs_lconst {k : Fin 2} (hc : zchk i (pc, n, .lconst k, A, B, C) = true) (hn : zHn i X R n nx) (hJ : zHJ i X R J) (h : zstep X R nx J pc (.lconst k) A B C L st σ) : zRuns i X R pc L st σ := by
  obtain ⟨hdg, hnx, hax⟩ := zchk_ok hc
  simp only [zlen] at hdg hnx
  subst hnx
  simp only [zstep] at h
  intro hw hL hs p l e s m args below meth c D ad ct AA H locs ls cells slots Q fx en wo lo
  have fx0 := fx
  obtain ⟨hx, hb, hml, hown, hts, hK, hnw, hA, hce, hsl, hsc⟩ := fx
  simp only [zaux, Bool.and_eq_true, decide_eq_true_eq] at hax
  refine lv_lconst hx hb hdg hax.1 ?_
  exact hn _ _ _ h hw hL (zs2 (v := .inr (.inl C)) (zIJ (zIb_ok hax.2)) hs) p l e s m args below meth c D ad ct AA H locs ls cells slots Q fx0 en wo lo
set_option maxHeartbeats 1000000 in
theorem zs_iinc {j : Nat} {k : Int} (hc : zchk i (pc, n, .iinc j k, A, B, C) = true) (hn : zHn i X R n nx) (hJ : zHJ i X R J) (h : zstep X R nx J pc (.iinc j k) A B C L st σ) : zRuns i X R pc L st σ := by
  obtain ⟨hdg, hnx, hax⟩ := zchk_ok hc
  simp only [zlen] at hdg hnx
  subst hnx
  simp only [zstep] at h
  intro hw hL hs p l e s m args below meth c D ad ct AA H locs ls cells slots Q fx en wo lo
  have fx0 := fx
  obtain ⟨hx, hb, hml, hown, hts, hK, hnw, hA, hce, hsl, hsc⟩ := fx
  simp only [zaux, Bool.and_eq_true, decide_eq_true_eq] at hax
  obtain ⟨⟨rfl, rfl⟩, hlt⟩ := hax
  split at h
  next v hv =>
    obtain ⟨q, hq⟩ := List.getElem?_of_mem (zlv_mem (ad := ad) hv)
    refine lv_iinc (v := Int32.ofInt (v + k)) hx hb hdg lo.has hq (by rw [Int32.ofInt_add]) hlt rfl (fun ls h8 => ?_)
    exact hn _ _ _ h.2 hw (zLok1 (v := .inl (v + k)) hL h.1) hs p l e s m args below meth c D ad ct AA H locs ls cells slots Q fx0 en wo (zLo.st1 (v := .inl (v + k)) h8)
  next => exact h.elim
set_option maxHeartbeats 1000000 in
theorem zs_iadd (hc : zchk i (pc, n, .iadd, A, B, C) = true) (hn : zHn i X R n nx) (hJ : zHJ i X R J) (h : zstep X R nx J pc (.iadd) A B C L st σ) : zRuns i X R pc L st σ := by
  obtain ⟨hdg, hnx, hax⟩ := zchk_ok hc
  simp only [zlen] at hdg hnx
  subst hnx
  simp only [zstep] at h
  intro hw hL hs p l e s m args below meth c D ad ct AA H locs ls cells slots Q fx en wo lo
  have fx0 := fx
  obtain ⟨hx, hb, hml, hown, hts, hK, hnw, hA, hce, hsl, hsc⟩ := fx
  split at h
  next y x st =>
    refine lv_iadd hx hb hdg ?_
    rw [← Int32.ofInt_add]
    exact hn _ _ _ h.2 hw hL (zs2 (v := .inl _) h.1 (zs1 (zs1 hs).2).2) p l e s m args below meth c D ad ct AA H locs ls cells slots Q fx0 en wo lo
  next => exact h.elim
set_option maxHeartbeats 1000000 in
theorem zs_isub (hc : zchk i (pc, n, .isub, A, B, C) = true) (hn : zHn i X R n nx) (hJ : zHJ i X R J) (h : zstep X R nx J pc (.isub) A B C L st σ) : zRuns i X R pc L st σ := by
  obtain ⟨hdg, hnx, hax⟩ := zchk_ok hc
  simp only [zlen] at hdg hnx
  subst hnx
  simp only [zstep] at h
  intro hw hL hs p l e s m args below meth c D ad ct AA H locs ls cells slots Q fx en wo lo
  have fx0 := fx
  obtain ⟨hx, hb, hml, hown, hts, hK, hnw, hA, hce, hsl, hsc⟩ := fx
  split at h
  next y x st =>
    refine lv_isub hx hb hdg ?_
    rw [← Int32.ofInt_sub]
    exact hn _ _ _ h.2 hw hL (zs2 (v := .inl _) h.1 (zs1 (zs1 hs).2).2) p l e s m args below meth c D ad ct AA H locs ls cells slots Q fx0 en wo lo
  next => exact h.elim
set_option maxHeartbeats 1000000 in
theorem zs_imul (hc : zchk i (pc, n, .imul, A, B, C) = true) (hn : zHn i X R n nx) (hJ : zHJ i X R J) (h : zstep X R nx J pc (.imul) A B C L st σ) : zRuns i X R pc L st σ := by
  obtain ⟨hdg, hnx, hax⟩ := zchk_ok hc
  simp only [zlen] at hdg hnx
  subst hnx
  simp only [zstep] at h
  intro hw hL hs p l e s m args below meth c D ad ct AA H locs ls cells slots Q fx en wo lo
  have fx0 := fx
  obtain ⟨hx, hb, hml, hown, hts, hK, hnw, hA, hce, hsl, hsc⟩ := fx
  split at h
  next y x st =>
    refine lv_imul hx hb hdg ?_
    rw [← Int32.ofInt_mul]
    exact hn _ _ _ h.2 hw hL (zs2 (v := .inl _) h.1 (zs1 (zs1 hs).2).2) p l e s m args below meth c D ad ct AA H locs ls cells slots Q fx0 en wo lo
  next => exact h.elim
set_option maxHeartbeats 1000000 in
theorem zs_idiv (hc : zchk i (pc, n, .idiv, A, B, C) = true) (hn : zHn i X R n nx) (hJ : zHJ i X R J) (h : zstep X R nx J pc (.idiv) A B C L st σ) : zRuns i X R pc L st σ := by
  obtain ⟨hdg, hnx, hax⟩ := zchk_ok hc
  simp only [zlen] at hdg hnx
  subst hnx
  simp only [zstep] at h
  intro hw hL hs p l e s m args below meth c D ad ct AA H locs ls cells slots Q fx en wo lo
  have fx0 := fx
  obtain ⟨hx, hb, hml, hown, hts, hK, hnw, hA, hce, hsl, hsc⟩ := fx
  split at h
  next y x st =>
    have hy : zI y := (zs1 hs).1
    have hx' : zI x := (zs1 (zs1 hs).2).1
    have hq := zIdiv hx' hy h.1.1 h.1.2
    refine lv_idiv hx hb hdg (fun q => by have := (zeq0 hy).mp q; have := h.1.2; omega) ?_
    rw [hq.1]
    exact hn _ _ _ h.2 hw hL (zs2 (v := .inl _) hq.2 (zs1 (zs1 hs).2).2) p l e s m args below meth c D ad ct AA H locs ls cells slots Q fx0 en wo lo
  next => exact h.elim
set_option maxHeartbeats 1000000 in
theorem zs_irem (hc : zchk i (pc, n, .irem, A, B, C) = true) (hn : zHn i X R n nx) (hJ : zHJ i X R J) (h : zstep X R nx J pc (.irem) A B C L st σ) : zRuns i X R pc L st σ := by
  obtain ⟨hdg, hnx, hax⟩ := zchk_ok hc
  simp only [zlen] at hdg hnx
  subst hnx
  simp only [zstep] at h
  intro hw hL hs p l e s m args below meth c D ad ct AA H locs ls cells slots Q fx en wo lo
  have fx0 := fx
  obtain ⟨hx, hb, hml, hown, hts, hK, hnw, hA, hce, hsl, hsc⟩ := fx
  split at h
  next y x st =>
    have hy : zI y := (zs1 hs).1
    have hx' : zI x := (zs1 (zs1 hs).2).1
    have hq := zIrem hx' hy h.1.1 h.1.2
    refine lv_irem hx hb hdg (fun q => by have := (zeq0 hy).mp q; have := h.1.2; omega) ?_
    rw [hq.1]
    exact hn _ _ _ h.2 hw hL (zs2 (v := .inl _) hq.2 (zs1 (zs1 hs).2).2) p l e s m args below meth c D ad ct AA H locs ls cells slots Q fx0 en wo lo
  next => exact h.elim
set_option maxHeartbeats 1000000 in
theorem zs_ineg (hc : zchk i (pc, n, .ineg, A, B, C) = true) (hn : zHn i X R n nx) (hJ : zHJ i X R J) (h : zstep X R nx J pc (.ineg) A B C L st σ) : zRuns i X R pc L st σ := by
  obtain ⟨hdg, hnx, hax⟩ := zchk_ok hc
  simp only [zlen] at hdg hnx
  subst hnx
  simp only [zstep] at h
  intro hw hL hs p l e s m args below meth c D ad ct AA H locs ls cells slots Q fx en wo lo
  have fx0 := fx
  obtain ⟨hx, hb, hml, hown, hts, hK, hnw, hA, hce, hsl, hsc⟩ := fx
  split at h
  next x st =>
    refine lv_ineg hx hb hdg ?_
    rw [← Int32.ofInt_neg]
    exact hn _ _ _ h.2 hw hL (zs2 (v := .inl _) h.1 (zs1 hs).2) p l e s m args below meth c D ad ct AA H locs ls cells slots Q fx0 en wo lo
  next => exact h.elim
set_option maxHeartbeats 1000000 in
theorem zs_iand (hc : zchk i (pc, n, .iand, A, B, C) = true) (hn : zHn i X R n nx) (hJ : zHJ i X R J) (h : zstep X R nx J pc (.iand) A B C L st σ) : zRuns i X R pc L st σ := by
  obtain ⟨hdg, hnx, hax⟩ := zchk_ok hc
  simp only [zlen] at hdg hnx
  subst hnx
  simp only [zstep] at h
  intro hw hL hs p l e s m args below meth c D ad ct AA H locs ls cells slots Q fx en wo lo
  have fx0 := fx
  obtain ⟨hx, hb, hml, hown, hts, hK, hnw, hA, hce, hsl, hsc⟩ := fx
  split at h
  next y x st =>
    refine lv_iand hx hb hdg ?_
    rw [← Int32.ofInt_toInt (Int32.ofInt x &&& Int32.ofInt y)]
    exact hn _ _ _ h hw hL (zs2 (v := .inl _) (zI_of _) (zs1 (zs1 hs).2).2) p l e s m args below meth c D ad ct AA H locs ls cells slots Q fx0 en wo lo
  next => exact h.elim
set_option maxHeartbeats 1000000 in
theorem zs_i2b (hc : zchk i (pc, n, .i2b, A, B, C) = true) (hn : zHn i X R n nx) (hJ : zHJ i X R J) (h : zstep X R nx J pc (.i2b) A B C L st σ) : zRuns i X R pc L st σ := by
  obtain ⟨hdg, hnx, hax⟩ := zchk_ok hc
  simp only [zlen] at hdg hnx
  subst hnx
  simp only [zstep] at h
  intro hw hL hs p l e s m args below meth c D ad ct AA H locs ls cells slots Q fx en wo lo
  have fx0 := fx
  obtain ⟨hx, hb, hml, hown, hts, hK, hnw, hA, hce, hsl, hsc⟩ := fx
  split at h
  next x st =>
    refine lv_i2b hx hb hdg (v := Int32.ofInt ((Int32.ofInt x).toInt8.toInt32.toInt)) (by rw [Int32.ofInt_toInt]) ?_
    exact hn _ _ _ h hw hL (zs2 (v := .inl _) (zI_of _) (zs1 hs).2) p l e s m args below meth c D ad ct AA H locs ls cells slots Q fx0 en wo lo
  next => exact h.elim
set_option maxHeartbeats 1000000 in
theorem zs_i2s (hc : zchk i (pc, n, .i2s, A, B, C) = true) (hn : zHn i X R n nx) (hJ : zHJ i X R J) (h : zstep X R nx J pc (.i2s) A B C L st σ) : zRuns i X R pc L st σ := by
  obtain ⟨hdg, hnx, hax⟩ := zchk_ok hc
  simp only [zlen] at hdg hnx
  subst hnx
  simp only [zstep] at h
  intro hw hL hs p l e s m args below meth c D ad ct AA H locs ls cells slots Q fx en wo lo
  have fx0 := fx
  obtain ⟨hx, hb, hml, hown, hts, hK, hnw, hA, hce, hsl, hsc⟩ := fx
  split at h
  next x st =>
    refine lv_i2s hx hb hdg (v := Int32.ofInt ((Int32.ofInt x).toInt16.toInt32.toInt)) (by rw [Int32.ofInt_toInt]) ?_
    exact hn _ _ _ h hw hL (zs2 (v := .inl _) (zI_of _) (zs1 hs).2) p l e s m args below meth c D ad ct AA H locs ls cells slots Q fx0 en wo lo
  next => exact h.elim
set_option maxHeartbeats 1000000 in
theorem zs_i2l (hc : zchk i (pc, n, .i2l, A, B, C) = true) (hn : zHn i X R n nx) (hJ : zHJ i X R J) (h : zstep X R nx J pc (.i2l) A B C L st σ) : zRuns i X R pc L st σ := by
  obtain ⟨hdg, hnx, hax⟩ := zchk_ok hc
  simp only [zlen] at hdg hnx
  subst hnx
  simp only [zstep] at h
  intro hw hL hs p l e s m args below meth c D ad ct AA H locs ls cells slots Q fx en wo lo
  have fx0 := fx
  obtain ⟨hx, hb, hml, hown, hts, hK, hnw, hA, hce, hsl, hsc⟩ := fx
  split at h
  next x st =>
    refine lv_i2l hx hb hdg (zi2l (zs1 hs).1) ?_
    exact hn _ _ _ h hw hL (zs2 (v := .inr (.inl _)) (zIJ (zs1 hs).1) (zs1 hs).2) p l e s m args below meth c D ad ct AA H locs ls cells slots Q fx0 en wo lo
  next => exact h.elim
set_option maxHeartbeats 1000000 in
theorem zs_l2i (hc : zchk i (pc, n, .l2i, A, B, C) = true) (hn : zHn i X R n nx) (hJ : zHJ i X R J) (h : zstep X R nx J pc (.l2i) A B C L st σ) : zRuns i X R pc L st σ := by
  obtain ⟨hdg, hnx, hax⟩ := zchk_ok hc
  simp only [zlen] at hdg hnx
  subst hnx
  simp only [zstep] at h
  intro hw hL hs p l e s m args below meth c D ad ct AA H locs ls cells slots Q fx en wo lo
  have fx0 := fx
  obtain ⟨hx, hb, hml, hown, hts, hK, hnw, hA, hce, hsl, hsc⟩ := fx
  split at h
  next x st =>
    refine lv_l2i hx hb hdg (zl2i h.1) ?_
    exact hn _ _ _ h.2 hw hL (zs2 (v := .inl _) h.1 (zs1 hs).2) p l e s m args below meth c D ad ct AA H locs ls cells slots Q fx0 en wo lo
  next => exact h.elim
set_option maxHeartbeats 1000000 in
theorem zs_ladd (hc : zchk i (pc, n, .ladd, A, B, C) = true) (hn : zHn i X R n nx) (hJ : zHJ i X R J) (h : zstep X R nx J pc (.ladd) A B C L st σ) : zRuns i X R pc L st σ := by
  obtain ⟨hdg, hnx, hax⟩ := zchk_ok hc
  simp only [zlen] at hdg hnx
  subst hnx
  simp only [zstep] at h
  intro hw hL hs p l e s m args below meth c D ad ct AA H locs ls cells slots Q fx en wo lo
  have fx0 := fx
  obtain ⟨hx, hb, hml, hown, hts, hK, hnw, hA, hce, hsl, hsc⟩ := fx
  split at h
  next y x st =>
    have hy : zJ y := (zs1 hs).1
    have hx' : zJ x := (zs1 (zs1 hs).2).1
    refine lv_ladd hx hb hdg ?_
    rw [zJadd hx' hy h.1]
    exact hn _ _ _ h.2 hw hL (zs2 (v := .inr (.inl _)) h.1 (zs1 (zs1 hs).2).2) p l e s m args below meth c D ad ct AA H locs ls cells slots Q fx0 en wo lo
  next => exact h.elim
set_option maxHeartbeats 1000000 in
theorem zs_lmul (hc : zchk i (pc, n, .lmul, A, B, C) = true) (hn : zHn i X R n nx) (hJ : zHJ i X R J) (h : zstep X R nx J pc (.lmul) A B C L st σ) : zRuns i X R pc L st σ := by
  obtain ⟨hdg, hnx, hax⟩ := zchk_ok hc
  simp only [zlen] at hdg hnx
  subst hnx
  simp only [zstep] at h
  intro hw hL hs p l e s m args below meth c D ad ct AA H locs ls cells slots Q fx en wo lo
  have fx0 := fx
  obtain ⟨hx, hb, hml, hown, hts, hK, hnw, hA, hce, hsl, hsc⟩ := fx
  split at h
  next y x st =>
    have hy : zJ y := (zs1 hs).1
    have hx' : zJ x := (zs1 (zs1 hs).2).1
    refine lv_lmul hx hb hdg ?_
    rw [zJmul hx' hy h.1]
    exact hn _ _ _ h.2 hw hL (zs2 (v := .inr (.inl _)) h.1 (zs1 (zs1 hs).2).2) p l e s m args below meth c D ad ct AA H locs ls cells slots Q fx0 en wo lo
  next => exact h.elim
set_option maxHeartbeats 1000000 in
theorem zs_land (hc : zchk i (pc, n, .land, A, B, C) = true) (hn : zHn i X R n nx) (hJ : zHJ i X R J) (h : zstep X R nx J pc (.land) A B C L st σ) : zRuns i X R pc L st σ := by
  obtain ⟨hdg, hnx, hax⟩ := zchk_ok hc
  simp only [zlen] at hdg hnx
  subst hnx
  simp only [zstep] at h
  intro hw hL hs p l e s m args below meth c D ad ct AA H locs ls cells slots Q fx en wo lo
  have fx0 := fx
  obtain ⟨hx, hb, hml, hown, hts, hK, hnw, hA, hce, hsl, hsc⟩ := fx
  split at h
  next y x st =>
    refine lv_land hx hb hdg ?_
    rw [← Int64.ofInt_toInt (Int64.ofInt x &&& Int64.ofInt y)]
    exact hn _ _ _ h hw hL (zs2 (v := .inr (.inl _)) (zJ_of _) (zs1 (zs1 hs).2).2) p l e s m args below meth c D ad ct AA H locs ls cells slots Q fx0 en wo lo
  next => exact h.elim
set_option maxHeartbeats 1000000 in
theorem zs_lor (hc : zchk i (pc, n, .lor, A, B, C) = true) (hn : zHn i X R n nx) (hJ : zHJ i X R J) (h : zstep X R nx J pc (.lor) A B C L st σ) : zRuns i X R pc L st σ := by
  obtain ⟨hdg, hnx, hax⟩ := zchk_ok hc
  simp only [zlen] at hdg hnx
  subst hnx
  simp only [zstep] at h
  intro hw hL hs p l e s m args below meth c D ad ct AA H locs ls cells slots Q fx en wo lo
  have fx0 := fx
  obtain ⟨hx, hb, hml, hown, hts, hK, hnw, hA, hce, hsl, hsc⟩ := fx
  split at h
  next y x st =>
    refine lv_lor hx hb hdg ?_
    rw [← Int64.ofInt_toInt (Int64.ofInt x ||| Int64.ofInt y)]
    exact hn _ _ _ h hw hL (zs2 (v := .inr (.inl _)) (zJ_of _) (zs1 (zs1 hs).2).2) p l e s m args below meth c D ad ct AA H locs ls cells slots Q fx0 en wo lo
  next => exact h.elim
set_option maxHeartbeats 1000000 in
theorem zs_lshl (hc : zchk i (pc, n, .lshl, A, B, C) = true) (hn : zHn i X R n nx) (hJ : zHJ i X R J) (h : zstep X R nx J pc (.lshl) A B C L st σ) : zRuns i X R pc L st σ := by
  obtain ⟨hdg, hnx, hax⟩ := zchk_ok hc
  simp only [zlen] at hdg hnx
  subst hnx
  simp only [zstep] at h
  intro hw hL hs p l e s m args below meth c D ad ct AA H locs ls cells slots Q fx en wo lo
  have fx0 := fx
  obtain ⟨hx, hb, hml, hown, hts, hK, hnw, hA, hce, hsl, hsc⟩ := fx
  split at h
  next y x st =>
    refine lv_lshl hx hb hdg (Int64.ofInt_toInt _).symm ?_
    exact hn _ _ _ h hw hL (zs2 (v := .inr (.inl _)) (zJ_of _) (zs1 (zs1 hs).2).2) p l e s m args below meth c D ad ct AA H locs ls cells slots Q fx0 en wo lo
  next => exact h.elim
set_option maxHeartbeats 1000000 in
theorem zs_lshr (hc : zchk i (pc, n, .lshr, A, B, C) = true) (hn : zHn i X R n nx) (hJ : zHJ i X R J) (h : zstep X R nx J pc (.lshr) A B C L st σ) : zRuns i X R pc L st σ := by
  obtain ⟨hdg, hnx, hax⟩ := zchk_ok hc
  simp only [zlen] at hdg hnx
  subst hnx
  simp only [zstep] at h
  intro hw hL hs p l e s m args below meth c D ad ct AA H locs ls cells slots Q fx en wo lo
  have fx0 := fx
  obtain ⟨hx, hb, hml, hown, hts, hK, hnw, hA, hce, hsl, hsc⟩ := fx
  split at h
  next y x st =>
    refine lv_lshr hx hb hdg (Int64.ofInt_toInt _).symm ?_
    exact hn _ _ _ h hw hL (zs2 (v := .inr (.inl _)) (zJ_of _) (zs1 (zs1 hs).2).2) p l e s m args below meth c D ad ct AA H locs ls cells slots Q fx0 en wo lo
  next => exact h.elim
set_option maxHeartbeats 1000000 in
theorem zs_lushr (hc : zchk i (pc, n, .lushr, A, B, C) = true) (hn : zHn i X R n nx) (hJ : zHJ i X R J) (h : zstep X R nx J pc (.lushr) A B C L st σ) : zRuns i X R pc L st σ := by
  obtain ⟨hdg, hnx, hax⟩ := zchk_ok hc
  simp only [zlen] at hdg hnx
  subst hnx
  simp only [zstep] at h
  intro hw hL hs p l e s m args below meth c D ad ct AA H locs ls cells slots Q fx en wo lo
  have fx0 := fx
  obtain ⟨hx, hb, hml, hown, hts, hK, hnw, hA, hce, hsl, hsc⟩ := fx
  split at h
  next y x st =>
    refine lv_lushr hx hb hdg (Int64.ofInt_toInt _).symm ?_
    exact hn _ _ _ h hw hL (zs2 (v := .inr (.inl _)) (zJ_of _) (zs1 (zs1 hs).2).2) p l e s m args below meth c D ad ct AA H locs ls cells slots Q fx0 en wo lo
  next => exact h.elim
set_option maxHeartbeats 1000000 in
theorem zs_lcmp (hc : zchk i (pc, n, .lcmp, A, B, C) = true) (hn : zHn i X R n nx) (hJ : zHJ i X R J) (h : zstep X R nx J pc (.lcmp) A B C L st σ) : zRuns i X R pc L st σ := by
  obtain ⟨hdg, hnx, hax⟩ := zchk_ok hc
  simp only [zlen] at hdg hnx
  subst hnx
  simp only [zstep] at h
  intro hw hL hs p l e s m args below meth c D ad ct AA H locs ls cells slots Q fx en wo lo
  have fx0 := fx
  obtain ⟨hx, hb, hml, hown, hts, hK, hnw, hA, hce, hsl, hsc⟩ := fx
  split at h
  next y x st =>
    have hq := zcmp_lg (x := x) (y := y) (zs1 (zs1 hs).2).1 (zs1 hs).1
    refine W.lcmp hx hb hdg ?_
    rw [hq.1]
    exact hn _ _ _ h hw hL (zs2 (v := .inl _) hq.2 (zs1 (zs1 hs).2).2) p l e s m args below meth c D ad ct AA H locs ls cells slots Q fx0 en wo lo
  next => exact h.elim
set_option maxHeartbeats 1000000 in
theorem zs_dup (hc : zchk i (pc, n, .dup, A, B, C) = true) (hn : zHn i X R n nx) (hJ : zHJ i X R J) (h : zstep X R nx J pc (.dup) A B C L st σ) : zRuns i X R pc L st σ := by
  obtain ⟨hdg, hnx, hax⟩ := zchk_ok hc
  simp only [zlen] at hdg hnx
  subst hnx
  simp only [zstep] at h
  intro hw hL hs p l e s m args below meth c D ad ct AA H locs ls cells slots Q fx en wo lo
  have fx0 := fx
  obtain ⟨hx, hb, hml, hown, hts, hK, hnw, hA, hce, hsl, hsc⟩ := fx
  split at h
  next x st =>
    refine lv_dup hx hb hdg rfl ?_
    exact hn _ _ _ h hw hL (zs2 (zs1 hs).1 hs) p l e s m args below meth c D ad ct AA H locs ls cells slots Q fx0 en wo lo
  next x st =>
    refine lv_dup hx hb hdg rfl ?_
    exact hn _ _ _ h hw hL (zs2 (zs1 hs).1 hs) p l e s m args below meth c D ad ct AA H locs ls cells slots Q fx0 en wo lo
  next => exact h.elim
set_option maxHeartbeats 1000000 in
theorem zs_dup2 (hc : zchk i (pc, n, .dup2, A, B, C) = true) (hn : zHn i X R n nx) (hJ : zHJ i X R J) (h : zstep X R nx J pc (.dup2) A B C L st σ) : zRuns i X R pc L st σ := by
  obtain ⟨hdg, hnx, hax⟩ := zchk_ok hc
  simp only [zlen] at hdg hnx
  subst hnx
  simp only [zstep] at h
  intro hw hL hs p l e s m args below meth c D ad ct AA H locs ls cells slots Q fx en wo lo
  have fx0 := fx
  obtain ⟨hx, hb, hml, hown, hts, hK, hnw, hA, hce, hsl, hsc⟩ := fx
  split at h
  next y x st =>
    refine lv_dup2_11 hx hb hdg rfl rfl ?_
    exact hn _ _ _ h hw hL (zs2 (zs1 hs).1 (zs2 (zs1 (zs1 hs).2).1 hs)) p l e s m args below meth c D ad ct AA H locs ls cells slots Q fx0 en wo lo
  next => exact h.elim
set_option maxHeartbeats 1000000 in
theorem zs_pop (hc : zchk i (pc, n, .pop, A, B, C) = true) (hn : zHn i X R n nx) (hJ : zHJ i X R J) (h : zstep X R nx J pc (.pop) A B C L st σ) : zRuns i X R pc L st σ := by
  obtain ⟨hdg, hnx, hax⟩ := zchk_ok hc
  simp only [zlen] at hdg hnx
  subst hnx
  simp only [zstep] at h
  intro hw hL hs p l e s m args below meth c D ad ct AA H locs ls cells slots Q fx en wo lo
  have fx0 := fx
  obtain ⟨hx, hb, hml, hown, hts, hK, hnw, hA, hce, hsl, hsc⟩ := fx
  split at h
  next y st =>
    refine lv_pop hx hb hdg rfl ?_
    exact hn _ _ _ h hw hL (zs1 hs).2 p l e s m args below meth c D ad ct AA H locs ls cells slots Q fx0 en wo lo
  next => exact h.elim
set_option maxHeartbeats 1000000 in
theorem zs_goto {off : Int} (hc : zchk i (pc, n, .goto off, A, B, C) = true) (hn : zHn i X R n nx) (hJ : zHJ i X R J) (h : zstep X R nx J pc (.goto off) A B C L st σ) : zRuns i X R pc L st σ := by
  obtain ⟨hdg, hnx, hax⟩ := zchk_ok hc
  simp only [zlen] at hdg hnx
  subst hnx
  simp only [zstep] at h
  intro hw hL hs p l e s m args below meth c D ad ct AA H locs ls cells slots Q fx en wo lo
  have fx0 := fx
  obtain ⟨hx, hb, hml, hown, hts, hK, hnw, hA, hce, hsl, hsc⟩ := fx
  simp only [zaux, decide_eq_true_eq] at hax
  refine lv_goto hx hb hdg hax ?_
  exact hJ _ _ _ _ h hw hL hs p l e s m args below meth c D ad ct AA H locs ls cells slots Q fx0 en wo lo
set_option maxHeartbeats 1000000 in
theorem zs_if_eq {off : Int} (hc : zchk i (pc, n, .ifCond .eq off, A, B, C) = true) (hn : zHn i X R n nx) (hJ : zHJ i X R J) (h : zstep X R nx J pc (.ifCond .eq off) A B C L st σ) : zRuns i X R pc L st σ := by
  obtain ⟨hdg, hnx, hax⟩ := zchk_ok hc
  simp only [zlen] at hdg hnx
  subst hnx
  simp only [zstep] at h
  intro hw hL hs p l e s m args below meth c D ad ct AA H locs ls cells slots Q fx en wo lo
  have fx0 := fx
  obtain ⟨hx, hb, hml, hown, hts, hK, hnw, hA, hce, hsl, hsc⟩ := fx
  simp only [zaux, decide_eq_true_eq] at hax
  split at h
  next x st =>
    have hX : zI x := (zs1 hs).1
    refine lv_if_eq hx hb hdg hax (fun q => ?_) (fun q => ?_)
    · exact hJ _ _ _ _ (h.1 ((zeq0 hX).mp q)) hw hL (zs1 hs).2 p l e s m args below meth c D ad ct AA H locs ls cells slots Q fx0 en wo lo
    · exact hn _ _ _ (h.2 (fun z => q ((zeq0 hX).mpr z))) hw hL (zs1 hs).2 p l e s m args below meth c D ad ct AA H locs ls cells slots Q fx0 en wo lo
  next => exact h.elim
set_option maxHeartbeats 1000000 in
theorem zs_icmp_eq {off : Int} (hc : zchk i (pc, n, .if_icmp .eq off, A, B, C) = true) (hn : zHn i X R n nx) (hJ : zHJ i X R J) (h : zstep X R nx J pc (.if_icmp .eq off) A B C L st σ) : zRuns i X R pc L st σ := by
  obtain ⟨hdg, hnx, hax⟩ := zchk_ok hc
  simp only [zlen] at hdg hnx
  subst hnx
  simp only [zstep] at h
  intro hw hL hs p l e s m args below meth c D ad ct AA H locs ls cells slots Q fx en wo lo
  have fx0 := fx
  obtain ⟨hx, hb, hml, hown, hts, hK, hnw, hA, hce, hsl, hsc⟩ := fx
  simp only [zaux, decide_eq_true_eq] at hax
  split at h
  next y x st =>
    have hY : zI y := (zs1 hs).1
    have hX : zI x := (zs1 (zs1 hs).2).1
    refine lv_icmp_eq hx hb hdg hax (fun q => ?_) (fun q => ?_)
    · exact hJ _ _ _ _ (h.1 ((zeq hX hY).mp q)) hw hL (zs1 (zs1 hs).2).2 p l e s m args below meth c D ad ct AA H locs ls cells slots Q fx0 en wo lo
    · exact hn _ _ _ (h.2 (fun z => q ((zeq hX hY).mpr z))) hw hL (zs1 (zs1 hs).2).2 p l e s m args below meth c D ad ct AA H locs ls cells slots Q fx0 en wo lo
  next => exact h.elim
set_option maxHeartbeats 1000000 in
theorem zs_if_ne {off : Int} (hc : zchk i (pc, n, .ifCond .ne off, A, B, C) = true) (hn : zHn i X R n nx) (hJ : zHJ i X R J) (h : zstep X R nx J pc (.ifCond .ne off) A B C L st σ) : zRuns i X R pc L st σ := by
  obtain ⟨hdg, hnx, hax⟩ := zchk_ok hc
  simp only [zlen] at hdg hnx
  subst hnx
  simp only [zstep] at h
  intro hw hL hs p l e s m args below meth c D ad ct AA H locs ls cells slots Q fx en wo lo
  have fx0 := fx
  obtain ⟨hx, hb, hml, hown, hts, hK, hnw, hA, hce, hsl, hsc⟩ := fx
  simp only [zaux, decide_eq_true_eq] at hax
  split at h
  next x st =>
    have hX : zI x := (zs1 hs).1
    refine lv_if_ne hx hb hdg hax (fun q => ?_) (fun q => ?_)
    · exact hJ _ _ _ _ (h.1 (fun z => q ((zeq0 hX).mpr z))) hw hL (zs1 hs).2 p l e s m args below meth c D ad ct AA H locs ls cells slots Q fx0 en wo lo
    · exact hn _ _ _ (h.2 ((zeq0 hX).mp q)) hw hL (zs1 hs).2 p l e s m args below meth c D ad ct AA H locs ls cells slots Q fx0 en wo lo
  next => exact h.elim
set_option maxHeartbeats 1000000 in
theorem zs_icmp_ne {off : Int} (hc : zchk i (pc, n, .if_icmp .ne off, A, B, C) = true) (hn : zHn i X R n nx) (hJ : zHJ i X R J) (h : zstep X R nx J pc (.if_icmp .ne off) A B C L st σ) : zRuns i X R pc L st σ := by
  obtain ⟨hdg, hnx, hax⟩ := zchk_ok hc
  simp only [zlen] at hdg hnx
  subst hnx
  simp only [zstep] at h
  intro hw hL hs p l e s m args below meth c D ad ct AA H locs ls cells slots Q fx en wo lo
  have fx0 := fx
  obtain ⟨hx, hb, hml, hown, hts, hK, hnw, hA, hce, hsl, hsc⟩ := fx
  simp only [zaux, decide_eq_true_eq] at hax
  split at h
  next y x st =>
    have hY : zI y := (zs1 hs).1
    have hX : zI x := (zs1 (zs1 hs).2).1
    refine lv_icmp_ne hx hb hdg hax (fun q => ?_) (fun q => ?_)
    · exact hJ _ _ _ _ (h.1 (fun z => q ((zeq hX hY).mpr z))) hw hL (zs1 (zs1 hs).2).2 p l e s m args below meth c D ad ct AA H locs ls cells slots Q fx0 en wo lo
    · exact hn _ _ _ (h.2 ((zeq hX hY).mp q)) hw hL (zs1 (zs1 hs).2).2 p l e s m args below meth c D ad ct AA H locs ls cells slots Q fx0 en wo lo
  next => exact h.elim
set_option maxHeartbeats 1000000 in
theorem zs_if_lt {off : Int} (hc : zchk i (pc, n, .ifCond .lt off, A, B, C) = true) (hn : zHn i X R n nx) (hJ : zHJ i X R J) (h : zstep X R nx J pc (.ifCond .lt off) A B C L st σ) : zRuns i X R pc L st σ := by
  obtain ⟨hdg, hnx, hax⟩ := zchk_ok hc
  simp only [zlen] at hdg hnx
  subst hnx
  simp only [zstep] at h
  intro hw hL hs p l e s m args below meth c D ad ct AA H locs ls cells slots Q fx en wo lo
  have fx0 := fx
  obtain ⟨hx, hb, hml, hown, hts, hK, hnw, hA, hce, hsl, hsc⟩ := fx
  simp only [zaux, decide_eq_true_eq] at hax
  split at h
  next x st =>
    have hX : zI x := (zs1 hs).1
    refine lv_if_lt hx hb hdg hax (fun q => ?_) (fun q => ?_)
    · exact hJ _ _ _ _ (h.1 ((zlt0 hX).mp q)) hw hL (zs1 hs).2 p l e s m args below meth c D ad ct AA H locs ls cells slots Q fx0 en wo lo
    · exact hn _ _ _ (h.2 (Int.not_lt.mp (fun z => q ((zlt0 hX).mpr z)))) hw hL (zs1 hs).2 p l e s m args below meth c D ad ct AA H locs ls cells slots Q fx0 en wo lo
  next => exact h.elim
set_option maxHeartbeats 1000000 in
theorem zs_icmp_lt {off : Int} (hc : zchk i (pc, n, .if_icmp .lt off, A, B, C) = true) (hn : zHn i X R n nx) (hJ : zHJ i X R J) (h : zstep X R nx J pc (.if_icmp .lt off) A B C L st σ) : zRuns i X R pc L st σ := by
  obtain ⟨hdg, hnx, hax⟩ := zchk_ok hc
  simp only [zlen] at hdg hnx
  subst hnx
  simp only [zstep] at h
  intro hw hL hs p l e s m args below meth c D ad ct AA H locs ls cells slots Q fx en wo lo
  have fx0 := fx
  obtain ⟨hx, hb, hml, hown, hts, hK, hnw, hA, hce, hsl, hsc⟩ := fx
  simp only [zaux, decide_eq_true_eq] at hax
  split at h
  next y x st =>
    have hY : zI y := (zs1 hs).1
    have hX : zI x := (zs1 (zs1 hs).2).1
    refine lv_icmp_lt hx hb hdg hax (fun q => ?_) (fun q => ?_)
    · exact hJ _ _ _ _ (h.1 ((zlt hX hY).mp q)) hw hL (zs1 (zs1 hs).2).2 p l e s m args below meth c D ad ct AA H locs ls cells slots Q fx0 en wo lo
    · exact hn _ _ _ (h.2 (Int.not_lt.mp (fun z => q ((zlt hX hY).mpr z)))) hw hL (zs1 (zs1 hs).2).2 p l e s m args below meth c D ad ct AA H locs ls cells slots Q fx0 en wo lo
  next => exact h.elim
set_option maxHeartbeats 1000000 in
theorem zs_if_ge {off : Int} (hc : zchk i (pc, n, .ifCond .ge off, A, B, C) = true) (hn : zHn i X R n nx) (hJ : zHJ i X R J) (h : zstep X R nx J pc (.ifCond .ge off) A B C L st σ) : zRuns i X R pc L st σ := by
  obtain ⟨hdg, hnx, hax⟩ := zchk_ok hc
  simp only [zlen] at hdg hnx
  subst hnx
  simp only [zstep] at h
  intro hw hL hs p l e s m args below meth c D ad ct AA H locs ls cells slots Q fx en wo lo
  have fx0 := fx
  obtain ⟨hx, hb, hml, hown, hts, hK, hnw, hA, hce, hsl, hsc⟩ := fx
  simp only [zaux, decide_eq_true_eq] at hax
  split at h
  next x st =>
    have hX : zI x := (zs1 hs).1
    refine lv_if_ge hx hb hdg hax (fun q => ?_) (fun q => ?_)
    · exact hJ _ _ _ _ (h.1 ((zge0 hX).mp q)) hw hL (zs1 hs).2 p l e s m args below meth c D ad ct AA H locs ls cells slots Q fx0 en wo lo
    · exact hn _ _ _ (h.2 (Int.not_le.mp (fun z => q ((zge0 hX).mpr z)))) hw hL (zs1 hs).2 p l e s m args below meth c D ad ct AA H locs ls cells slots Q fx0 en wo lo
  next => exact h.elim
set_option maxHeartbeats 1000000 in
theorem zs_icmp_ge {off : Int} (hc : zchk i (pc, n, .if_icmp .ge off, A, B, C) = true) (hn : zHn i X R n nx) (hJ : zHJ i X R J) (h : zstep X R nx J pc (.if_icmp .ge off) A B C L st σ) : zRuns i X R pc L st σ := by
  obtain ⟨hdg, hnx, hax⟩ := zchk_ok hc
  simp only [zlen] at hdg hnx
  subst hnx
  simp only [zstep] at h
  intro hw hL hs p l e s m args below meth c D ad ct AA H locs ls cells slots Q fx en wo lo
  have fx0 := fx
  obtain ⟨hx, hb, hml, hown, hts, hK, hnw, hA, hce, hsl, hsc⟩ := fx
  simp only [zaux, decide_eq_true_eq] at hax
  split at h
  next y x st =>
    have hY : zI y := (zs1 hs).1
    have hX : zI x := (zs1 (zs1 hs).2).1
    refine lv_icmp_ge hx hb hdg hax (fun q => ?_) (fun q => ?_)
    · exact hJ _ _ _ _ (h.1 ((zle hY hX).mp q)) hw hL (zs1 (zs1 hs).2).2 p l e s m args below meth c D ad ct AA H locs ls cells slots Q fx0 en wo lo
    · exact hn _ _ _ (h.2 (Int.not_le.mp (fun z => q ((zle hY hX).mpr z)))) hw hL (zs1 (zs1 hs).2).2 p l e s m args below meth c D ad ct AA H locs ls cells slots Q fx0 en wo lo
  next => exact h.elim
set_option maxHeartbeats 1000000 in
theorem zs_if_gt {off : Int} (hc : zchk i (pc, n, .ifCond .gt off, A, B, C) = true) (hn : zHn i X R n nx) (hJ : zHJ i X R J) (h : zstep X R nx J pc (.ifCond .gt off) A B C L st σ) : zRuns i X R pc L st σ := by
  obtain ⟨hdg, hnx, hax⟩ := zchk_ok hc
  simp only [zlen] at hdg hnx
  subst hnx
  simp only [zstep] at h
  intro hw hL hs p l e s m args below meth c D ad ct AA H locs ls cells slots Q fx en wo lo
  have fx0 := fx
  obtain ⟨hx, hb, hml, hown, hts, hK, hnw, hA, hce, hsl, hsc⟩ := fx
  simp only [zaux, decide_eq_true_eq] at hax
  split at h
  next x st =>
    have hX : zI x := (zs1 hs).1
    refine lv_if_gt hx hb hdg hax (fun q => ?_) (fun q => ?_)
    · exact hJ _ _ _ _ (h.1 ((zgt0 hX).mp q)) hw hL (zs1 hs).2 p l e s m args below meth c D ad ct AA H locs ls cells slots Q fx0 en wo lo
    · exact hn _ _ _ (h.2 (Int.not_lt.mp (fun z => q ((zgt0 hX).mpr z)))) hw hL (zs1 hs).2 p l e s m args below meth c D ad ct AA H locs ls cells slots Q fx0 en wo lo
  next => exact h.elim
set_option maxHeartbeats 1000000 in
theorem zs_icmp_gt {off : Int} (hc : zchk i (pc, n, .if_icmp .gt off, A, B, C) = true) (hn : zHn i X R n nx) (hJ : zHJ i X R J) (h : zstep X R nx J pc (.if_icmp .gt off) A B C L st σ) : zRuns i X R pc L st σ := by
  obtain ⟨hdg, hnx, hax⟩ := zchk_ok hc
  simp only [zlen] at hdg hnx
  subst hnx
  simp only [zstep] at h
  intro hw hL hs p l e s m args below meth c D ad ct AA H locs ls cells slots Q fx en wo lo
  have fx0 := fx
  obtain ⟨hx, hb, hml, hown, hts, hK, hnw, hA, hce, hsl, hsc⟩ := fx
  simp only [zaux, decide_eq_true_eq] at hax
  split at h
  next y x st =>
    have hY : zI y := (zs1 hs).1
    have hX : zI x := (zs1 (zs1 hs).2).1
    refine lv_icmp_gt hx hb hdg hax (fun q => ?_) (fun q => ?_)
    · exact hJ _ _ _ _ (h.1 ((zlt hY hX).mp q)) hw hL (zs1 (zs1 hs).2).2 p l e s m args below meth c D ad ct AA H locs ls cells slots Q fx0 en wo lo
    · exact hn _ _ _ (h.2 (Int.not_lt.mp (fun z => q ((zlt hY hX).mpr z)))) hw hL (zs1 (zs1 hs).2).2 p l e s m args below meth c D ad ct AA H locs ls cells slots Q fx0 en wo lo
  next => exact h.elim
set_option maxHeartbeats 1000000 in
theorem zs_if_le {off : Int} (hc : zchk i (pc, n, .ifCond .le off, A, B, C) = true) (hn : zHn i X R n nx) (hJ : zHJ i X R J) (h : zstep X R nx J pc (.ifCond .le off) A B C L st σ) : zRuns i X R pc L st σ := by
  obtain ⟨hdg, hnx, hax⟩ := zchk_ok hc
  simp only [zlen] at hdg hnx
  subst hnx
  simp only [zstep] at h
  intro hw hL hs p l e s m args below meth c D ad ct AA H locs ls cells slots Q fx en wo lo
  have fx0 := fx
  obtain ⟨hx, hb, hml, hown, hts, hK, hnw, hA, hce, hsl, hsc⟩ := fx
  simp only [zaux, decide_eq_true_eq] at hax
  split at h
  next x st =>
    have hX : zI x := (zs1 hs).1
    refine lv_if_le hx hb hdg hax (fun q => ?_) (fun q => ?_)
    · exact hJ _ _ _ _ (h.1 ((zle0 hX).mp q)) hw hL (zs1 hs).2 p l e s m args below meth c D ad ct AA H locs ls cells slots Q fx0 en wo lo
    · exact hn _ _ _ (h.2 (Int.not_le.mp (fun z => q ((zle0 hX).mpr z)))) hw hL (zs1 hs).2 p l e s m args below meth c D ad ct AA H locs ls cells slots Q fx0 en wo lo
  next => exact h.elim
set_option maxHeartbeats 1000000 in
theorem zs_icmp_le {off : Int} (hc : zchk i (pc, n, .if_icmp .le off, A, B, C) = true) (hn : zHn i X R n nx) (hJ : zHJ i X R J) (h : zstep X R nx J pc (.if_icmp .le off) A B C L st σ) : zRuns i X R pc L st σ := by
  obtain ⟨hdg, hnx, hax⟩ := zchk_ok hc
  simp only [zlen] at hdg hnx
  subst hnx
  simp only [zstep] at h
  intro hw hL hs p l e s m args below meth c D ad ct AA H locs ls cells slots Q fx en wo lo
  have fx0 := fx
  obtain ⟨hx, hb, hml, hown, hts, hK, hnw, hA, hce, hsl, hsc⟩ := fx
  simp only [zaux, decide_eq_true_eq] at hax
  split at h
  next y x st =>
    have hY : zI y := (zs1 hs).1
    have hX : zI x := (zs1 (zs1 hs).2).1
    refine lv_icmp_le hx hb hdg hax (fun q => ?_) (fun q => ?_)
    · exact hJ _ _ _ _ (h.1 ((zle hX hY).mp q)) hw hL (zs1 (zs1 hs).2).2 p l e s m args below meth c D ad ct AA H locs ls cells slots Q fx0 en wo lo
    · exact hn _ _ _ (h.2 (Int.not_le.mp (fun z => q ((zle hX hY).mpr z)))) hw hL (zs1 (zs1 hs).2).2 p l e s m args below meth c D ad ct AA H locs ls cells slots Q fx0 en wo lo
  next => exact h.elim
end ZS
end
section
/-! the steps that read or write cells, and calls -/
theorem zmf : ∀ A, A < zlaw → zMF A := by
  intro A h
  have h2 : A ∈ zmL := by
    have h3 : (List.range zlaw).all (fun a => decide (a ∈ zmL)) = true := by decide +kernel
    exact of_decide_eq_true (List.all_eq_true.mp h3 A (List.mem_range.mpr h))
  exact zmL_ok A h2
theorem zkd_lt {k : Nat} (h : zkd k ≠ 9) : k < zNC := by
  unfold zkd at h
  split at h
  all_goals first | (show _ < 73; omega) | exact absurd rfl h
theorem zkd5 {k : Nat} (h : zkd k = 5) : k = zKR := by
  unfold zkd at h
  split at h
  all_goals first | rfl | exact absurd h (by decide)
theorem zln_r (k : Nat) : 0 ≤ zln k ∧ zln k ≤ 100000 := by
  unfold zln
  split
  all_goals exact ⟨by decide, by decide⟩
theorem zft_ty : ∀ k, k < 10 → ∀ j, j < zN (zcn k) → (zft k j = 0 → zTy (zcn k) j = .int) ∧ (zft k j = 1 → zTy (zcn k) j = .long) := by decide +kernel
theorem zcn_10 : ∀ k, k < 10 → zcn k < 10 ∧ zkd k = 4 := by decide +kernel
theorem zadr_ne {ad : Nat → Nat} {k : Nat} {o : Int} (h : k ≠ zKR) : zadr ad k o = ad k := if_neg h
theorem zadr_0 {ad : Nat → Nat} {k : Nat} : zadr ad k 0 = ad k := by
  unfold zadr
  split
  next h => rw [h]; rfl
  next => rfl
theorem zadr_r {ad : Nat → Nat} {r : Nat} : zadr ad zKR (80 * (r : Int)) = ad (zKR + r) := by
  unfold zadr
  rw [if_pos rfl]
  congr 2
  omega
theorem zwl_obj {ad : Nat → Nat} {ct : Nat → ClassId} {σ : zS} {k : Nat} (h : k < zNC) (hk : zkd k = 4) : (zwl ad ct σ)[k]? = some (ad k, .inr (zcn k, (List.range (zN (zcn k))).map (fun j => zfv ad σ k j))) := by
  rw [zwl_at ad ct σ h]; simp only [zcel, hk]
theorem zwl_ia {ad : Nat → Nat} {ct : Nat → ClassId} {σ : zS} {k : Nat} (hk : zkd k = 0) : (zwl ad ct σ)[k]? = some (ad k, .inl (ct 0, (zln k).toNat, .inl (fun j => Int32.ofInt (σ k j)))) := by
  rw [zwl_at ad ct σ (zkd_lt (by rw [hk]; decide))]; simp only [zcel, hk]
theorem zwl_za {ad : Nat → Nat} {ct : Nat → ClassId} {σ : zS} {k : Nat} (hk : zkd k = 1) : (zwl ad ct σ)[k]? = some (ad k, .inl (ct 1, (zln k).toNat, .inl (fun j => Int32.ofInt (σ k j)))) := by
  rw [zwl_at ad ct σ (zkd_lt (by rw [hk]; decide))]; simp only [zcel, hk]
theorem zwl_la {ad : Nat → Nat} {ct : Nat → ClassId} {σ : zS} {k : Nat} (hk : zkd k = 2) : (zwl ad ct σ)[k]? = some (ad k, .inl (ct 2, (zln k).toNat, .inr (.inl (fun j => Int64.ofInt (σ k j))))) := by
  rw [zwl_at ad ct σ (zkd_lt (by rw [hk]; decide))]; simp only [zcel, hk]
theorem zwl_qa {ad : Nat → Nat} {ct : Nat → ClassId} {σ : zS} {k : Nat} (hk : zkd k = 3) : (zwl ad ct σ)[k]? = some (ad k, .inl (ct 3, 8, .inr (.inr (.inr (.inr (fun j => if j < 8 then some (ad (zKR + j)) else none)))))) := by
  rw [zwl_at ad ct σ (zkd_lt (by rw [hk]; decide))]; simp only [zcel, hk]
def zrw (σ : zS) (r : Nat) : Nat → Int32 := fun j => if j < 80 then Int32.ofInt (σ zKR (80 * (r : Int) + (j : Int))) else 0
theorem zcel_row {ad : Nat → Nat} {ct : Nat → ClassId} {σ : zS} {r : Nat} (h : r < 8) : zcel ad ct σ (zKR + r) = .inl (ct 0, 80, .inl (zrw σ r)) := by
  match r, h with
  | 0, _ => rfl
  | 1, _ => rfl
  | 2, _ => rfl
  | 3, _ => rfl
  | 4, _ => rfl
  | 5, _ => rfl
  | 6, _ => rfl
  | 7, _ => rfl
  | n + 8, h => exact absurd h (by omega)
theorem zwl_ra {ad : Nat → Nat} {ct : Nat → ClassId} {σ : zS} {r : Nat} (h : r < 8) : (zwl ad ct σ)[zKR + r]? = some (ad (zKR + r), .inl (ct 0, 80, .inl (zrw σ r))) := by
  rw [zwl_at ad ct σ (by show 65 + r < 73; omega), zcel_row h]
theorem zcel_congr {ad : Nat → Nat} {ct : Nat → ClassId} {σ u : zS} {k : Nat} (h : σ k = u k) (h2 : σ zKR = u zKR) : zcel ad ct σ k = zcel ad ct u k := by
  unfold zcel
  split
  all_goals first | rfl | (simp only [zfv, h]) | (simp only [h2])
theorem zup_ne {σ : zS} {k j : Nat} {i v : Int} (h : j ≠ k) : zup σ k i v j = σ j := by funext x; exact if_neg h
theorem zup_at {σ : zS} {k : Nat} {i v x : Int} : zup σ k i v k x = if x = i then v else σ k x := if_pos rfl
theorem zwl_up {ad : Nat → Nat} {ct : Nat → ClassId} {σ : zS} {k : Nat} {i v : Int} {e : va_E} (h : k < zNC) (hne : k ≠ zKR) (he : e = zcel ad ct (zup σ k i v) k) : (zwl ad ct σ).set k (ad k, e) = zwl ad ct (zup σ k i v) :=
  zwl_set ad ct σ (zup σ k i v) k e h he (fun j _ hj => zcel_congr (zup_ne hj) (zup_ne (Ne.symm hne)))
theorem zwl_upr {ad : Nat → Nat} {ct : Nat → ClassId} {σ u : zS} {r : Nat} {f : Nat → Int32} (h : r < 8) (hf : f = zrw u r) (ho : ∀ k, k ≠ zKR → u k = σ k) (hr : ∀ q, q < 8 → q ≠ r → zrw u q = zrw σ q) : (zwl ad ct σ).set (zKR + r) (ad (zKR + r), .inl (ct 0, 80, .inl f)) = zwl ad ct u := by
  refine zwl_set ad ct σ u (zKR + r) _ (by show 65 + r < 73; omega) (by rw [zcel_row h, hf]) (fun j hj hne => ?_)
  by_cases hq : zKR ≤ j
  · obtain ⟨q, rfl⟩ : ∃ q, j = zKR + q := ⟨j - zKR, by omega⟩
    have hq8 : q < 8 := by have : 65 + q < 73 := hj; omega
    rw [zcel_row hq8, zcel_row hq8, hr q hq8 (fun z => hne (by rw [z]))]
  · have h1 : zkd j ≠ 5 ∧ zkd j ≠ 8 := by
      have h9 : ∀ j, j < 65 → zkd j ≠ 5 ∧ zkd j ≠ 8 := by decide +kernel
      exact h9 j (by have : ¬ 65 ≤ j := hq; omega)
    have hj2 : u j = σ j := ho j (fun z => hq (by rw [z]; exact Nat.le_refl _))
    unfold zcel
    split
    all_goals first | rfl | (simp only [zfv, hj2]) | skip
    exfalso
    have h9 : ∀ j, j < 65 → zkd j = 0 ∨ zkd j = 1 ∨ zkd j = 2 ∨ zkd j = 3 ∨ zkd j = 4 := by decide +kernel
    rcases h9 j (by have : ¬ 65 ≤ j := hq; omega) with q | q | q | q | q <;> contradiction
theorem zws_in {A : Nat} (hM : zMF A) : ∀ w ∈ zws A, w ∈ zTB := fun w hw => by
  rcases List.mem_cons.mp hw with rfl | hw
  · exact hM.1
  · exact hw
theorem zws_good {A : Nat} (hM : zMF A) : GoodIn zTB (zws A) := fun w hw => ⟨zws_in hM w hw, good_of_word (zTB_good w (zws_in hM w hw))⟩
theorem zmax32 {x y : Int} (hx : zI x) (hy : zI y) : (if Int32.ofInt x < Int32.ofInt y then Int32.ofInt y else Int32.ofInt x) = Int32.ofInt (max x y) ∧ zI (max x y) := by
  simp only [zlt hx hy]
  have h1 := hx.1; have h2 := hx.2; have h3 := hy.1; have h4 := hy.2
  refine ⟨?_, by unfold zI; omega⟩
  split
  · congr 1; omega
  · congr 1; omega
theorem zcase_at {pc : Nat} {J : Nat → Prop} {v : Int} : ∀ (offs : List Int) (lo : Int) (k : Nat) (o : Int), zcase pc J v lo offs → offs[k]? = some o → v = lo + (k : Int) → J ((pc : Int) + o).toNat
  | [], lo, k, o, _, h, _ => by simp at h
  | a :: l, lo, 0, o, hz, h, hv => by
    simp at h
    subst h
    exact hz.1 (by simpa using hv)
  | a :: l, lo, k + 1, o, hz, h, hv => zcase_at l (lo + 1) k o hz.2 (by simpa using h) (by rw [hv]; push_cast; omega)
section ZC
variable {p : Program} {l : Launch} {e : Env} {Rm : Room} {s : State} {m : MethodId} {args : Array Value} {below : List Frame} {meth : Method} {c : Code} {H : Heap} {locs : List Loc} {cells slots : Nat} {Q : State → Prop}
/-- the world behind a call -/
theorem zcall {D : va_G} {ad : Nat → Nat} {ct : Nat → ClassId} {AA : Nat → Prop} {σ : zS} {pc : Nat} {ls : Array Slot} {st0 rest : List Value} {r : Option FieldType} {Rc : Int → zS → Prop}
    (hr : va_Run p l e Rm s m args below meth c H locs cells slots 0 0 (F0 m pc ls st0) rest (fun st oc t => (∃ (v : Int) (u : zS), oc = .returned (zRv r v) ∧ (Rc v u ∧ zWF u ∧ zRok r v) ∧ zWD D ad ct u (va_A (zwl ad ct σ) H.size) t) ∧ va_F (va_A (zwl ad ct σ) H.size) st t) (va_A (zwl ad ct σ) H.size))
    (wo : zWo D ad ct AA s σ H locs) (hA : ∀ q, s.heap.size ≤ q → AA q)
    (kk : ∀ (v : Int) (u : zS) (H1 : Heap) (locs1 : List Loc), Rc v u → zWF u → zRok r v → zWo D ad ct AA s u H1 locs1 → W p l e Rm s m args below meth c H1 locs1 cells slots Q (F0 m (pc + 3) ls ((zRv r v).toList ++ rest))) : W p l e Rm s m args below meth c H locs cells slots Q (F0 m pc ls st0) := by
  have hF : ∀ q, va_A (zwl ad ct σ) H.size q → AA q := by
    intro q hq
    rcases hq with ⟨k, x, h⟩ | h
    · exact wo.2.1.2 k (q, x) h
    · exact hA q (Nat.le_trans wo.2.2.1 h)
  intro T hT X
  obtain ⟨v0, st₀, t, T', L, h0, X', hL, e1, e2, ⟨⟨v, u, hv, hp, hb⟩, hz, hk⟩, st⟩ := hr T hT X
  cases hv
  rw [h0] at hz hk
  have wo1 : zWo D ad ct AA s u T'.heap (locs ++ L) := by
    refine ⟨by rw [e1]; exact hb.1, hb.2.2.1.weaken (fun _ _ _ h => hF _ h), Nat.le_trans wo.2.2.1 (by rw [e1]; exact hz), fun q h1 h2 => ?_, fun q hq => ?_⟩
    · rw [e1, hk q (Nat.lt_of_lt_of_le h1 wo.2.2.1) (fun z => h2 (hF q z))]
      exact wo.2.2.2.1 q h1 h2
    · rcases List.mem_append.mp hq with h | h
      · exact wo.2.2.2.2 q h
      · exact hF _ (hL q h)
  obtain ⟨t2, a1, b1⟩ := kk v u T'.heap (locs ++ L) hp.1 hp.2.1 hp.2.2 wo1 T' rfl X'
  exact ⟨t2, st t2 a1, b1⟩
end ZC
section ZS
variable {i : Nat} {X : zX} {R : Int → zS → Prop} {nx : zL → List zV → zS → Prop} {J : Nat → zL → List zV → zS → Prop} {pc n A B : Nat} {C : Int} {L : zL} {st : List zV} {σ : zS}
set_option maxHeartbeats 1000000 in
theorem zs_getfield {j : Nat} (hc : zchk i (pc, n, .getfield j, A, B, C) = true) (hn : zHn i X R n nx) (hJ : zHJ i X R J) (h : zstep X R nx J pc (.getfield j) A B C L st σ) : zRuns i X R pc L st σ := by
  obtain ⟨hdg, hnx, hax⟩ := zchk_ok hc
  simp only [zlen] at hdg hnx
  subst hnx
  simp only [zstep] at h
  intro hw hL hs p l e s m args below meth c D ad ct AA H locs ls cells slots Q fx en wo lo
  have fx0 := fx
  obtain ⟨hx, hb, hml, hown, hts, hK, hnw, hA, hce, hsl, hsc⟩ := fx
  simp only [zaux, Bool.and_eq_true, Bool.or_eq_true, decide_eq_true_eq] at hax
  obtain ⟨jj, hC, hA1, hkd, hcn, hjj, hft, hlk⟩ := zfl_ok _ hax.1
  dsimp only at hC hA1 hkd hcn hjj hft hlk
  subst hC
  split at h
  next k o st =>
    cases hkA : Nat.beq k A with
    | false => rw [hkA] at h; exact h.elim
    | true =>
      rw [hkA] at h
      simp only [cond_true] at h
      have hkA := Nat.eq_of_beq_eq_true hkA
      subst hkA
      have hne : k ≠ zKR := fun q => by rw [q] at hkd; exact absurd hkd (by decide)
      have hcl := zcf (zcn k) hcn
      have hst : zcv ad (.inr (.inr (k, o))) = .ref (ad k) := by simp only [zcv, zadr_ne hne]
      rw [List.map_cons, hst]
      refine va_get (v := zfv ad σ k jj) hx hb hts hcl.2.1 hown hK wo.1 k (zwl_obj hA1 hkd) hcl.1 jj hjj (hts _ hlk) (fun _ h9 => h9) (by simp [hjj]) hdg ?_
      rcases B with _ | _ | t
      · have hz : zlg k (jj : Int) = false := by rcases hax.2 with q | q; exact absurd q (by omega); exact q
        rw [show zfv ad σ k jj = .int (Int32.ofInt (σ k jj)) by simp only [zfv, hft]]
        exact hn _ _ _ h hw hL (zs2 (v := .inl (σ k jj)) (hw.i hz) (zs1 hs).2) p l e s m args below meth c D ad ct AA H locs ls cells slots Q fx0 en wo lo
      · rw [show zfv ad σ k jj = .long (Int64.ofInt (σ k jj)) by simp only [zfv, hft]]
        exact hn _ _ _ h hw hL (zs2 (v := .inr (.inl (σ k jj))) (hw k jj).1 (zs1 hs).2) p l e s m args below meth c D ad ct AA H locs ls cells slots Q fx0 en wo lo
      · rw [show zfv ad σ k jj = .ref (zadr ad t 0) by simp only [zfv, hft, zadr_0]]
        exact hn _ _ _ h hw hL (zs2 (v := .inr (.inr (t, 0))) (fun _ => ⟨0, by omega, rfl⟩) (zs1 hs).2) p l e s m args below meth c D ad ct AA H locs ls cells slots Q fx0 en wo lo
  next => exact h.elim
theorem zfv_set {ad : Nat → Nat} {σ : zS} {k jj : Nat} {v : Int} {x : Value} {N : Nat} (hv : zfv ad (zup σ k jj v) k jj = x) : ((List.range N).map (fun j => zfv ad σ k j)).set jj x = (List.range N).map (fun j => zfv ad (zup σ k jj v) k j) := by
  apply List.ext_getElem?
  intro j
  by_cases hl : j < N
  · by_cases hj : j = jj
    · subst hj
      rw [List.getElem?_set_self (by simpa using hl), List.getElem?_map, List.getElem?_range hl, Option.map_some, hv]
    · rw [List.getElem?_set_ne (Ne.symm hj), List.getElem?_map, List.getElem?_map, List.getElem?_range hl]
      have h1 : zup σ k jj v k j = σ k j := by rw [zup_at, if_neg (by omega)]
      simp only [Option.map_some, zfv, h1]
  · rw [List.getElem?_eq_none (by simp; omega), List.getElem?_eq_none (by simp; omega)]
set_option maxHeartbeats 1000000 in
theorem zs_putfield {j : Nat} (hc : zchk i (pc, n, .putfield j, A, B, C) = true) (hn : zHn i X R n nx) (hJ : zHJ i X R J) (h : zstep X R nx J pc (.putfield j) A B C L st σ) : zRuns i X R pc L st σ := by
  obtain ⟨hdg, hnx, hax⟩ := zchk_ok hc
  simp only [zlen] at hdg hnx
  subst hnx
  simp only [zstep] at h
  intro hw hL hs p l e s m args below meth c D ad ct AA H locs ls cells slots Q fx en wo lo
  have fx0 := fx
  obtain ⟨hx, hb, hml, hown, hts, hK, hnw, hA, hce, hsl, hsc⟩ := fx
  simp only [zaux, Bool.and_eq_true, Bool.or_eq_true, decide_eq_true_eq] at hax
  obtain ⟨jj, hC, hA1, hkd, hcn, hjj, hft, hlk⟩ := zfl_ok _ hax.1.1
  dsimp only at hC hA1 hkd hcn hjj hft hlk
  subst hC
  split at h
  next v k o st =>
    cases hkA : Nat.beq k A with
    | false => rw [hkA] at h; exact h.elim
    | true =>
      cases hB : Nat.beq B 0 with
      | false => rw [hkA, hB] at h; exact h.elim
      | true =>
        rw [hkA, hB] at h
        simp only [Bool.and_self, cond_true] at h
        have hkA := Nat.eq_of_beq_eq_true hkA
        have hB := Nat.eq_of_beq_eq_true hB
        subst hkA
        subst hB
        have hne : k ≠ zKR := fun q => by rw [q] at hkd; exact absurd hkd (by decide)
        have hcl := zcf (zcn k) hcn
        have hk10 : k < 10 := by
          have h9 : ∀ k, k < 73 → zkd k = 4 → k < 10 := by decide +kernel
          exact h9 k hA1 hkd
        have hty : zTy (zcn k) jj = .int := (zft_ty k hk10 jj hjj).1 hft
        have hst : zcv ad (.inr (.inr (k, o))) = .ref (ad k) := by simp only [zcv, zadr_ne hne]
        rw [List.map_cons, List.map_cons, hst]
        refine va_put (ty := .int) (v := .int (Int32.ofInt v)) hx hb hts hcl.2.1 (zTy (zcn k)) hcl.2.2.2 hcl.2.2.1 hown hK wo.1 wo.2.1 wo.2.2 k (zwl_obj hA1 hkd) hcl.1 jj hjj (hts _ hlk) (fun _ h9 => h9) (by simpa using hax.2) (by rw [hcl.2.2.2 jj hjj, hty]) rfl rfl (by simp [hjj]) hdg (fun H1 locs1 hP1 hD1 hS1 => ?_)
        rw [zwl_up (i := jj) (v := v) hA1 hne (by simp only [zcel, hkd]; rw [zfv_set (v := v) (by simp only [zfv, hft, zup_at, if_pos])])] at hP1 hD1
        exact hn _ _ _ h (hw.up (v := v) (zIJ (zs1 hs).1) (fun _ => (zs1 hs).1)) hL (zs1 (zs1 hs).2).2 p l e s m args below meth c D ad ct AA H1 locs1 ls cells slots Q fx0 en ⟨hP1, hD1, hS1⟩ lo
  next v k o st =>
    cases hkA : Nat.beq k A with
    | false => rw [hkA] at h; exact h.elim
    | true =>
      cases hB : Nat.beq B 1 with
      | false => rw [hkA, hB] at h; exact h.elim
      | true =>
        rw [hkA, hB] at h
        simp only [Bool.and_self, cond_true] at h
        have hkA := Nat.eq_of_beq_eq_true hkA
        have hB := Nat.eq_of_beq_eq_true hB
        subst hkA
        subst hB
        have hne : k ≠ zKR := fun q => by rw [q] at hkd; exact absurd hkd (by decide)
        have hcl := zcf (zcn k) hcn
        have hk10 : k < 10 := by
          have h9 : ∀ k, k < 73 → zkd k = 4 → k < 10 := by decide +kernel
          exact h9 k hA1 hkd
        have hty : zTy (zcn k) jj = .long := (zft_ty k hk10 jj hjj).2 hft
        have hst : zcv ad (.inr (.inr (k, o))) = .ref (ad k) := by simp only [zcv, zadr_ne hne]
        rw [List.map_cons, List.map_cons, hst]
        refine va_put (ty := .long) (v := .long (Int64.ofInt v)) hx hb hts hcl.2.1 (zTy (zcn k)) hcl.2.2.2 hcl.2.2.1 hown hK wo.1 wo.2.1 wo.2.2 k (zwl_obj hA1 hkd) hcl.1 jj hjj (hts _ hlk) (fun _ h9 => h9) (by simpa using hax.2) (by rw [hcl.2.2.2 jj hjj, hty]) rfl rfl (by simp [hjj]) hdg (fun H1 locs1 hP1 hD1 hS1 => ?_)
        rw [zwl_up (i := jj) (v := v) hA1 hne (by simp only [zcel, hkd]; rw [zfv_set (v := v) (by simp only [zfv, hft, zup_at, if_pos])])] at hP1 hD1
        exact hn _ _ _ h (hw.up (v := v) ((zs1 hs).1) (fun q => absurd (hax.1.2.symm.trans q) (by decide))) hL (zs1 (zs1 hs).2).2 p l e s m args below meth c D ad ct AA H1 locs1 ls cells slots Q fx0 en ⟨hP1, hD1, hS1⟩ lo
  next => exact h.elim
end ZS
end
section
/-! arrays, switches, returns, calls -/
section ZS
variable {i : Nat} {X : zX} {R : Int → zS → Prop} {nx : zL → List zV → zS → Prop} {J : Nat → zL → List zV → zS → Prop} {pc n A B : Nat} {C : Int} {L : zL} {st : List zV} {σ : zS}
theorem zcast {x : Int} (h : 0 ≤ x) : ((x.toNat : Nat) : Int) = x := Int.toNat_of_nonneg h
theorem zln_lt {k : Nat} {x : Int} (h0 : 0 ≤ x) (h : x < zln k) : x < ((zln k).toNat : Nat) := by rw [zcast (zln_r k).1]; exact h
theorem zrow_lt {r : Nat} {x : Int} (hr : r < 8) (h0 : 0 ≤ x) (h : x < 80) : zlg zKR (80 * (r : Int) + x) = false := rfl
theorem zWF.row {σ : zS} (h : zWF σ) (x : Int) : zI (σ zKR x) := h.i rfl
theorem zwl_up0 {ad : Nat → Nat} {ct : Nat → ClassId} {σ : zS} {k : Nat} {x v : Int} (hk : zkd k = 0) (h0 : 0 ≤ x) (hx : zI x) : (zwl ad ct σ).set k (ad k, .inl (ct 0, (zln k).toNat, .inl (upd (fun j => Int32.ofInt (σ k j)) (Int32.ofInt x).toNatClampNeg (Int32.ofInt v)))) = zwl ad ct (zup σ k x v) := by
  refine zwl_up (zkd_lt (by rw [hk]; decide)) (fun q => by rw [q] at hk; exact absurd hk (by decide)) ?_
  simp only [zcel, hk]
  congr 4
  funext j
  rw [zclamp hx]
  simp only [upd, zup_at]
  by_cases e : j = x.toNat
  · rw [if_pos e, if_pos (by rw [e, zcast h0])]
  · rw [if_neg e, if_neg (fun q => e (by rw [← q]; rfl))]
theorem zwl_up1 {ad : Nat → Nat} {ct : Nat → ClassId} {σ : zS} {k : Nat} {x v : Int} (hk : zkd k = 1) (h0 : 0 ≤ x) (hx : zI x) (hv : v = 0 ∨ v = 1) : (zwl ad ct σ).set k (ad k, .inl (ct 1, (zln k).toNat, .inl (upd (fun j => Int32.ofInt (σ k j)) (Int32.ofInt x).toNatClampNeg (vp_nar .boolean (Int32.ofInt v))))) = zwl ad ct (zup σ k x v) := by
  have hn : vp_nar .boolean (Int32.ofInt v) = Int32.ofInt v := by rcases hv with rfl | rfl <;> rfl
  rw [hn]
  refine zwl_up (zkd_lt (by rw [hk]; decide)) (fun q => by rw [q] at hk; exact absurd hk (by decide)) ?_
  simp only [zcel, hk]
  congr 4
  funext j
  rw [zclamp hx]
  simp only [upd, zup_at]
  by_cases e : j = x.toNat
  · rw [if_pos e, if_pos (by rw [e, zcast h0])]
  · rw [if_neg e, if_neg (fun q => e (by rw [← q]; rfl))]
theorem zwl_up2 {ad : Nat → Nat} {ct : Nat → ClassId} {σ : zS} {k : Nat} {x v : Int} (hk : zkd k = 2) (h0 : 0 ≤ x) (hx : zI x) : (zwl ad ct σ).set k (ad k, .inl (ct 2, (zln k).toNat, .inr (.inl (vp_updL (fun j => Int64.ofInt (σ k j)) (Int32.ofInt x).toNatClampNeg (Int64.ofInt v))))) = zwl ad ct (zup σ k x v) := by
  refine zwl_up (zkd_lt (by rw [hk]; decide)) (fun q => by rw [q] at hk; exact absurd hk (by decide)) ?_
  simp only [zcel, hk]
  congr 5
  funext j
  rw [zclamp hx]
  simp only [vp_updL, zup_at]
  by_cases e : j = x.toNat
  · rw [if_pos e, if_pos (by rw [e, zcast h0])]
  · rw [if_neg e, if_neg (fun q => e (by rw [← q]; rfl))]
theorem zrw_upd {σ : zS} {r : Nat} {x v : Int} (h0 : 0 ≤ x) (h1 : x < 80) (hx : zI x) : upd (zrw σ r) (Int32.ofInt x).toNatClampNeg (Int32.ofInt v) = zrw (zup σ zKR (80 * (r : Int) + x) v) r := by
  funext j
  rw [zclamp hx]
  simp only [upd, zrw, zup_at]
  by_cases e : j = x.toNat
  · rw [if_pos e, if_pos (by omega), if_pos (by omega)]
  · rw [if_neg e]
    by_cases f : j < 80
    · rw [if_pos f, if_pos f, if_neg (by omega)]
    · rw [if_neg f, if_neg f]
theorem zwl_up5 {ad : Nat → Nat} {ct : Nat → ClassId} {σ : zS} {r : Nat} {x v : Int} (hr : r < 8) (h0 : 0 ≤ x) (h1 : x < 80) (hx : zI x) : (zwl ad ct σ).set (zKR + r) (ad (zKR + r), .inl (ct 0, 80, .inl (upd (zrw σ r) (Int32.ofInt x).toNatClampNeg (Int32.ofInt v)))) = zwl ad ct (zup σ zKR (80 * (r : Int) + x) v) := by
  refine zwl_upr hr (zrw_upd h0 h1 hx) (fun k hk => zup_ne hk) (fun q hq hne => ?_)
  funext j
  simp only [zrw, zup_at]
  by_cases f : j < 80
  · rw [if_pos f, if_pos f, if_neg (by omega)]
  · rw [if_neg f, if_neg f]
theorem zwl_cp {ad : Nat → Nat} {ct : Nat → ClassId} {σ : zS} {r1 r2 : Nat} {x y z : Int} (hr : r2 < 8) (hx : 0 ≤ x) (hy : 0 ≤ y) (hz : 0 ≤ z) (h1 : x + z ≤ 80) (h2 : y + z ≤ 80) (ix : zI x) (iy : zI y) (iz : zI z) : (zwl ad ct σ).set (zKR + r2) (ad (zKR + r2), .inl (ct 0, 80, .inl (va_cpy (zrw σ r1) (zrw σ r2) (Int32.ofInt x).toNatClampNeg (Int32.ofInt y).toNatClampNeg (Int32.ofInt z).toNatClampNeg))) = zwl ad ct (zcp σ zKR (80 * (r1 : Int) + x) zKR (80 * (r2 : Int) + y) z) := by
  rw [zclamp ix, zclamp iy, zclamp iz]
  refine zwl_upr hr ?_ (fun k hk => ?_) (fun q hq hne => ?_)
  · funext j
    simp only [va_cpy, zrw, zcp]
    by_cases e : y.toNat ≤ j ∧ j < y.toNat + z.toNat
    · rw [if_pos e, if_pos (by omega), if_pos (by omega), if_pos ⟨trivial, by omega, by omega⟩]
      congr 2
      omega
    · rw [if_neg e]
      by_cases f : j < 80
      · rw [if_pos f, if_pos f, if_neg (by omega)]
      · rw [if_neg f, if_neg f]
  · funext j
    exact if_neg (fun q => hk q.1)
  · funext j
    simp only [zrw, zcp]
    by_cases f : j < 80
    · rw [if_pos f, if_pos f, if_neg (by omega)]
    · rw [if_neg f, if_neg f]
theorem zWF.cp {σ : zS} (h : zWF σ) {x y z : Int} : zWF (zcp σ zKR x zKR y z) := by
  intro k q
  unfold zcp
  split
  next e => rw [e.1]; exact ⟨(h _ _).1, fun _ => (h _ _).2 rfl⟩
  next => exact h _ _
set_option maxHeartbeats 1000000 in
theorem zs_iaload (hc : zchk i (pc, n, .iaload, A, B, C) = true) (hn : zHn i X R n nx) (hJ : zHJ i X R J) (h : zstep X R nx J pc (.iaload) A B C L st σ) : zRuns i X R pc L st σ := by
  obtain ⟨hdg, hnx, hax⟩ := zchk_ok hc
  simp only [zlen] at hdg hnx
  subst hnx
  simp only [zstep] at h
  intro hw hL hs p l e s m args below meth c D ad ct AA H locs ls cells slots Q fx en wo lo
  have fx0 := fx
  obtain ⟨hx, hb, hml, hown, hts, hK, hnw, hA, hce, hsl, hsc⟩ := fx
  split at h
  next x k o st =>
    have hX : zI x := (zs1 hs).1
    split at h
    next hk =>
      have hne : k ≠ zKR := fun q => by rw [q] at hk; exact absurd hk (by decide)
      have hst : zcv ad (.inr (.inr (k, o))) = .ref (ad k) := by simp only [zcv, zadr_ne hne]
      rw [List.map_cons, List.map_cons, hst]
      refine va_iald hx hb hK wo.1 k 0 (zwl_ia hk) rfl (zvin hX h.1.1 (zln_lt h.1.1 h.1.2)) hdg ?_
      rw [zclamp hX, zcast h.1.1]
      exact hn _ _ _ h.2 hw hL (zs2 (v := .inl _) (hw.i (zlg_0 (by rw [hk]; decide) (by rw [hk]; decide))) (zs1 (zs1 hs).2).2) p l e s m args below meth c D ad ct AA H locs ls cells slots Q fx0 en wo lo
    next hk =>
      have hkr := zkd5 hk
      subst hkr
      obtain ⟨r, hr, rfl⟩ := (zs1 (zs1 hs).2).1 rfl
      have hst : zcv ad (.inr (.inr (zKR, 80 * (r : Int)))) = .ref (ad (zKR + r)) := by simp only [zcv, zadr_r]
      rw [List.map_cons, List.map_cons, hst]
      refine va_iald hx hb hK wo.1 (zKR + r) 0 (zwl_ra hr) rfl (zvin hX h.1.1 (by have := h.1.2; omega)) hdg ?_
      rw [zclamp hX]
      simp only [zrw]
      rw [if_pos (by have := h.1.2; omega), zcast h.1.1]
      exact hn _ _ _ h.2 hw hL (zs2 (v := .inl _) (hw.row _) (zs1 (zs1 hs).2).2) p l e s m args below meth c D ad ct AA H locs ls cells slots Q fx0 en wo lo
    next hk =>
      cases hk9 : Nat.beq k 1000 with
      | false => rw [hk9] at h; exact h.elim
      | true =>
        rw [hk9] at h
        simp only [cond_true] at h
        have hk9 := Nat.eq_of_beq_eq_true hk9
        subst hk9
        have hst : zcv ad (.inr (.inr (1000, o))) = .ref (ad 1000) := by simp only [zcv, zadr_ne (show (1000 : Nat) ≠ zKR by decide)]
        rw [List.map_cons, List.map_cons, hst]
        obtain ⟨len, xs, hX1, hX2, hX3, hX4, hX5, hX6⟩ := hsc (by have := h.1.1; have := h.1.2; omega)
        have hlt : x.toNat < len := by have := h.1.1; have := h.1.2; omega
        refine va_sld hx hb hX1 hX2 hX3 wo.2.2 (zvin hX h.1.1 (by have := h.1.2; omega)) hdg ?_
        rw [zclamp hX]
        have e1 : xs x.toNat = Int32.ofInt (X.2 x) := by
          have := hX6 x.toNat hlt
          rw [zcast h.1.1] at this
          rw [this, Int32.ofInt_toInt]
        have e2 : zI (X.2 x) := by
          have := hX6 x.toNat hlt
          rw [zcast h.1.1] at this
          rw [this]; exact zI_of _
        rw [e1]
        exact hn _ _ _ h.2 hw hL (zs2 (v := .inl _) e2 (zs1 (zs1 hs).2).2) p l e s m args below meth c D ad ct AA H locs ls cells slots Q fx0 en wo lo
    next => exact h.elim
  next => exact h.elim
set_option maxHeartbeats 1000000 in
theorem zs_baload (hc : zchk i (pc, n, .baload, A, B, C) = true) (hn : zHn i X R n nx) (hJ : zHJ i X R J) (h : zstep X R nx J pc (.baload) A B C L st σ) : zRuns i X R pc L st σ := by
  obtain ⟨hdg, hnx, hax⟩ := zchk_ok hc
  simp only [zlen] at hdg hnx
  subst hnx
  simp only [zstep] at h
  intro hw hL hs p l e s m args below meth c D ad ct AA H locs ls cells slots Q fx en wo lo
  have fx0 := fx
  obtain ⟨hx, hb, hml, hown, hts, hK, hnw, hA, hce, hsl, hsc⟩ := fx
  split at h
  next x k o st =>
    have hX : zI x := (zs1 hs).1
    split at h
    next hk =>
      have hne : k ≠ zKR := fun q => by rw [q] at hk; exact absurd hk (by decide)
      have hst : zcv ad (.inr (.inr (k, o))) = .ref (ad k) := by simp only [zcv, zadr_ne hne]
      rw [List.map_cons, List.map_cons, hst]
      refine va_zald hx hb hK wo.1 k 1 (zwl_za hk) rfl (zvin hX h.1.1 (zln_lt h.1.1 h.1.2)) hdg ?_
      rw [zclamp hX, zcast h.1.1]
      exact hn _ _ _ h.2 hw hL (zs2 (v := .inl _) (hw.i (zlg_0 (by rw [hk]; decide) (by rw [hk]; decide))) (zs1 (zs1 hs).2).2) p l e s m args below meth c D ad ct AA H locs ls cells slots Q fx0 en wo lo
    next => exact h.elim
  next => exact h.elim
set_option maxHeartbeats 1000000 in
theorem zs_laload (hc : zchk i (pc, n, .laload, A, B, C) = true) (hn : zHn i X R n nx) (hJ : zHJ i X R J) (h : zstep X R nx J pc (.laload) A B C L st σ) : zRuns i X R pc L st σ := by
  obtain ⟨hdg, hnx, hax⟩ := zchk_ok hc
  simp only [zlen] at hdg hnx
  subst hnx
  simp only [zstep] at h
  intro hw hL hs p l e s m args below meth c D ad ct AA H locs ls cells slots Q fx en wo lo
  have fx0 := fx
  obtain ⟨hx, hb, hml, hown, hts, hK, hnw, hA, hce, hsl, hsc⟩ := fx
  split at h
  next x k o st =>
    have hX : zI x := (zs1 hs).1
    split at h
    next hk =>
      have hne : k ≠ zKR := fun q => by rw [q] at hk; exact absurd hk (by decide)
      have hst : zcv ad (.inr (.inr (k, o))) = .ref (ad k) := by simp only [zcv, zadr_ne hne]
      rw [List.map_cons, List.map_cons, hst]
      refine va_lald hx hb hK wo.1 k 2 (zwl_la hk) rfl (zvin hX h.1.1 (zln_lt h.1.1 h.1.2)) hdg ?_
      rw [zclamp hX, zcast h.1.1]
      exact hn _ _ _ h.2 hw hL (zs2 (v := .inr (.inl _)) (hw _ _).1 (zs1 (zs1 hs).2).2) p l e s m args below meth c D ad ct AA H locs ls cells slots Q fx0 en wo lo
    next => exact h.elim
  next => exact h.elim
set_option maxHeartbeats 1000000 in
theorem zs_aaload (hc : zchk i (pc, n, .aaload, A, B, C) = true) (hn : zHn i X R n nx) (hJ : zHJ i X R J) (h : zstep X R nx J pc (.aaload) A B C L st σ) : zRuns i X R pc L st σ := by
  obtain ⟨hdg, hnx, hax⟩ := zchk_ok hc
  simp only [zlen] at hdg hnx
  subst hnx
  simp only [zstep] at h
  intro hw hL hs p l e s m args below meth c D ad ct AA H locs ls cells slots Q fx en wo lo
  have fx0 := fx
  obtain ⟨hx, hb, hml, hown, hts, hK, hnw, hA, hce, hsl, hsc⟩ := fx
  split at h
  next x k o st =>
    have hX : zI x := (zs1 hs).1
    split at h
    next hk =>
      have hne : k ≠ zKR := fun q => by rw [q] at hk; exact absurd hk (by decide)
      have hst : zcv ad (.inr (.inr (k, o))) = .ref (ad k) := by simp only [zcv, zadr_ne hne]
      rw [List.map_cons, List.map_cons, hst]
      obtain ⟨r, rfl⟩ : ∃ r : Nat, x = (r : Int) := ⟨x.toNat, (zcast h.1.1).symm⟩
      have hr : r < 8 := by have := h.1.2; omega
      have hin : vp_in (Int32.ofInt (r : Int)) 8 := zvin hX h.1.1 h.1.2
      have hlt : (Int32.ofInt (r : Int)).toNatClampNeg < 8 := Nat.not_le.mp fun q => hin (Or.inr q)
      refine W.aald (v := .ref (zadr ad zKR (80 * (r : Int)))) (ty := .array .int) hx hb (wo.1 k _ (zwl_qa hk)) ((hK.2 3 _ rfl).1 8 (fun j => va_rf (if j < 8 then some (ad (zKR + j)) else none))) rfl (fun q => by cases q) (by show ¬ (_ < 0 ∨ (arrV _ _ _).slots.size ≤ _); rw [arrV_size]; exact hin) (by
        show (arrV _ _ _).slots[_]? = _
        rw [arrV_read _ _ hlt, zclamp hX, zadr_r]
        show some (va_rf (if r < 8 then some (ad (zKR + r)) else none)) = _
        rw [if_pos hr]
        rfl) rfl rfl hdg ?_
      exact hn _ _ _ h.2 hw hL (zs2 (v := .inr (.inr (zKR, 80 * (r : Int)))) (fun _ => ⟨r, hr, rfl⟩) (zs1 (zs1 hs).2).2) p l e s m args below meth c D ad ct AA H locs ls cells slots Q fx0 en wo lo
    next => exact h.elim
  next => exact h.elim
set_option maxHeartbeats 1000000 in
theorem zs_arraylength (hc : zchk i (pc, n, .arraylength, A, B, C) = true) (hn : zHn i X R n nx) (hJ : zHJ i X R J) (h : zstep X R nx J pc (.arraylength) A B C L st σ) : zRuns i X R pc L st σ := by
  obtain ⟨hdg, hnx, hax⟩ := zchk_ok hc
  simp only [zlen] at hdg hnx
  subst hnx
  simp only [zstep] at h
  intro hw hL hs p l e s m args below meth c D ad ct AA H locs ls cells slots Q fx en wo lo
  have fx0 := fx
  obtain ⟨hx, hb, hml, hown, hts, hK, hnw, hA, hce, hsl, hsc⟩ := fx
  split at h
  next k o st =>
    split at h
    next hk =>
      have hne : k ≠ zKR := fun q => by rw [q] at hk; exact absurd hk (by decide)
      have hst : zcv ad (.inr (.inr (k, o))) = .ref (ad k) := by simp only [zcv, zadr_ne hne]
      rw [List.map_cons, hst]
      refine va_alen (v := Int32.ofInt (zln k)) hx hb hK wo.1 k 0 (zwl_ia hk) rfl (by show Int32.ofNat (zln k).toNat = _; rw [← Int32.ofInt_eq_ofNat, zcast (zln_r k).1]) hdg ?_
      exact hn _ _ _ h hw hL (zs2 (v := .inl _) ⟨by have := (zln_r k).1; omega, by have := (zln_r k).2; omega⟩ (zs1 hs).2) p l e s m args below meth c D ad ct AA H locs ls cells slots Q fx0 en wo lo
    next hk =>
      have hne : k ≠ zKR := fun q => by rw [q] at hk; exact absurd hk (by decide)
      have hst : zcv ad (.inr (.inr (k, o))) = .ref (ad k) := by simp only [zcv, zadr_ne hne]
      rw [List.map_cons, hst]
      refine va_alen (v := Int32.ofInt (zln k)) hx hb hK wo.1 k 1 (zwl_za hk) rfl (by show Int32.ofNat (zln k).toNat = _; rw [← Int32.ofInt_eq_ofNat, zcast (zln_r k).1]) hdg ?_
      exact hn _ _ _ h hw hL (zs2 (v := .inl _) ⟨by have := (zln_r k).1; omega, by have := (zln_r k).2; omega⟩ (zs1 hs).2) p l e s m args below meth c D ad ct AA H locs ls cells slots Q fx0 en wo lo
    next hk =>
      have hkr := zkd5 hk
      subst hkr
      obtain ⟨r, hr, rfl⟩ := (zs1 hs).1 rfl
      have hst : zcv ad (.inr (.inr (zKR, 80 * (r : Int)))) = .ref (ad (zKR + r)) := by simp only [zcv, zadr_r]
      rw [List.map_cons, hst]
      refine va_alen (v := Int32.ofInt 80) hx hb hK wo.1 (zKR + r) 0 (zwl_ra hr) rfl rfl hdg ?_
      exact hn _ _ _ h hw hL (zs2 (v := .inl _) ⟨by decide, by decide⟩ (zs1 hs).2) p l e s m args below meth c D ad ct AA H locs ls cells slots Q fx0 en wo lo
    next hk =>
      cases hk9 : Nat.beq k 1000 with
      | false => rw [hk9] at h; exact h.elim
      | true =>
        rw [hk9] at h
        simp only [cond_true] at h
        have hk9 := Nat.eq_of_beq_eq_true hk9
        subst hk9
        have hst : zcv ad (.inr (.inr (1000, o))) = .ref (ad 1000) := by simp only [zcv, zadr_ne (show (1000 : Nat) ≠ zKR by decide)]
        rw [List.map_cons, hst]
        obtain ⟨len, xs, hX1, hX2, hX3, hX4, hX5, hX6⟩ := hsc h.1
        refine va_slen hx hb hX1 hX2 hX3 wo.2.2 hdg ?_
        rw [← Int32.ofInt_eq_ofNat, ← hX4]
        exact hn _ _ _ h.2 hw hL (zs2 (v := .inl _) ⟨by omega, by omega⟩ (zs1 hs).2) p l e s m args below meth c D ad ct AA H locs ls cells slots Q fx0 en wo lo
    next => exact h.elim
  next => exact h.elim
set_option maxHeartbeats 1000000 in
theorem zs_iastore (hc : zchk i (pc, n, .iastore, A, B, C) = true) (hn : zHn i X R n nx) (hJ : zHJ i X R J) (h : zstep X R nx J pc (.iastore) A B C L st σ) : zRuns i X R pc L st σ := by
  obtain ⟨hdg, hnx, hax⟩ := zchk_ok hc
  simp only [zlen] at hdg hnx
  subst hnx
  simp only [zstep] at h
  intro hw hL hs p l e s m args below meth c D ad ct AA H locs ls cells slots Q fx en wo lo
  have fx0 := fx
  obtain ⟨hx, hb, hml, hown, hts, hK, hnw, hA, hce, hsl, hsc⟩ := fx
  split at h
  next v x k o st =>
    have hV : zI v := (zs1 hs).1
    have hX : zI x := (zs1 (zs1 hs).2).1
    split at h
    next hk =>
      have hne : k ≠ zKR := fun q => by rw [q] at hk; exact absurd hk (by decide)
      have hst : zcv ad (.inr (.inr (k, o))) = .ref (ad k) := by simp only [zcv, zadr_ne hne]
      rw [List.map_cons, List.map_cons, List.map_cons, hst]
      refine va_iast (x := Int32.ofInt v) hx hb hK wo.1 wo.2.1 wo.2.2 k 0 (zwl_ia hk) rfl (zvin hX h.1.1 (zln_lt h.1.1 h.1.2)) hdg (fun H1 locs1 hP1 hD1 hS1 => ?_)
      rw [zwl_up0 hk h.1.1 hX] at hP1 hD1
      exact hn _ _ _ h.2 (hw.up (zIJ hV) (fun _ => hV)) hL (zs1 (zs1 (zs1 hs).2).2).2 p l e s m args below meth c D ad ct AA H1 locs1 ls cells slots Q fx0 en ⟨hP1, hD1, hS1⟩ lo
    next hk =>
      have hkr := zkd5 hk
      subst hkr
      obtain ⟨r, hr, rfl⟩ := (zs1 (zs1 (zs1 hs).2).2).1 rfl
      have hst : zcv ad (.inr (.inr (zKR, 80 * (r : Int)))) = .ref (ad (zKR + r)) := by simp only [zcv, zadr_r]
      rw [List.map_cons, List.map_cons, List.map_cons, hst]
      refine va_iast (x := Int32.ofInt v) hx hb hK wo.1 wo.2.1 wo.2.2 (zKR + r) 0 (zwl_ra hr) rfl (zvin hX h.1.1 (by have := h.1.2; omega)) hdg (fun H1 locs1 hP1 hD1 hS1 => ?_)
      rw [zwl_up5 hr h.1.1 h.1.2 hX] at hP1 hD1
      exact hn _ _ _ h.2 (hw.up (zIJ hV) (fun _ => hV)) hL (zs1 (zs1 (zs1 hs).2).2).2 p l e s m args below meth c D ad ct AA H1 locs1 ls cells slots Q fx0 en ⟨hP1, hD1, hS1⟩ lo
    next => exact h.elim
  next => exact h.elim
set_option maxHeartbeats 1000000 in
theorem zs_bastore (hc : zchk i (pc, n, .bastore, A, B, C) = true) (hn : zHn i X R n nx) (hJ : zHJ i X R J) (h : zstep X R nx J pc (.bastore) A B C L st σ) : zRuns i X R pc L st σ := by
  obtain ⟨hdg, hnx, hax⟩ := zchk_ok hc
  simp only [zlen] at hdg hnx
  subst hnx
  simp only [zstep] at h
  intro hw hL hs p l e s m args below meth c D ad ct AA H locs ls cells slots Q fx en wo lo
  have fx0 := fx
  obtain ⟨hx, hb, hml, hown, hts, hK, hnw, hA, hce, hsl, hsc⟩ := fx
  split at h
  next v x k o st =>
    have hV : zI v := (zs1 hs).1
    have hX : zI x := (zs1 (zs1 hs).2).1
    split at h
    next hk =>
      have hne : k ≠ zKR := fun q => by rw [q] at hk; exact absurd hk (by decide)
      have hst : zcv ad (.inr (.inr (k, o))) = .ref (ad k) := by simp only [zcv, zadr_ne hne]
      rw [List.map_cons, List.map_cons, List.map_cons, hst]
      refine va_zast (x := Int32.ofInt v) hx hb hK wo.1 wo.2.1 wo.2.2 k 1 (zwl_za hk) rfl (zvin hX h.1.2.1 (zln_lt h.1.2.1 h.1.2.2)) hdg (fun H1 locs1 hP1 hD1 hS1 => ?_)
      rw [zwl_up1 hk h.1.2.1 hX h.1.1] at hP1 hD1
      exact hn _ _ _ h.2 (hw.up (zIJ hV) (fun _ => hV)) hL (zs1 (zs1 (zs1 hs).2).2).2 p l e s m args below meth c D ad ct AA H1 locs1 ls cells slots Q fx0 en ⟨hP1, hD1, hS1⟩ lo
    next => exact h.elim
  next => exact h.elim
set_option maxHeartbeats 1000000 in
theorem zs_lastore (hc : zchk i (pc, n, .lastore, A, B, C) = true) (hn : zHn i X R n nx) (hJ : zHJ i X R J) (h : zstep X R nx J pc (.lastore) A B C L st σ) : zRuns i X R pc L st σ := by
  obtain ⟨hdg, hnx, hax⟩ := zchk_ok hc
  simp only [zlen] at hdg hnx
  subst hnx
  simp only [zstep] at h
  intro hw hL hs p l e s m args below meth c D ad ct AA H locs ls cells slots Q fx en wo lo
  have fx0 := fx
  obtain ⟨hx, hb, hml, hown, hts, hK, hnw, hA, hce, hsl, hsc⟩ := fx
  split at h
  next v x k o st =>
    have hV : zJ v := (zs1 hs).1
    have hX : zI x := (zs1 (zs1 hs).2).1
    split at h
    next hk =>
      have hne : k ≠ zKR := fun q => by rw [q] at hk; exact absurd hk (by decide)
      have hst : zcv ad (.inr (.inr (k, o))) = .ref (ad k) := by simp only [zcv, zadr_ne hne]
      have hlong : ∀ y : Int, zlg k y = true := by
        have h9 : ∀ k, k < 73 → zkd k = 2 → ∀ y : Int, zlg k y = true := by
          intro k h1 h2 y
          have h8 : ∀ k, k < 73 → zkd k = 2 → k = 28 ∨ k = 32 ∨ k = 58 ∨ k = 63 := by decide +kernel
          rcases h8 k h1 h2 with rfl | rfl | rfl | rfl <;> rfl
        exact h9 k (zkd_lt (by rw [hk]; decide)) hk
      rw [List.map_cons, List.map_cons, List.map_cons, hst]
      refine va_last (x := Int64.ofInt v) hx hb hK wo.1 wo.2.1 wo.2.2 k 2 (zwl_la hk) rfl (zvin hX h.1.1 (zln_lt h.1.1 h.1.2)) hdg (fun H1 locs1 hP1 hD1 hS1 => ?_)
      rw [zwl_up2 hk h.1.1 hX] at hP1 hD1
      exact hn _ _ _ h.2 (hw.up hV (fun q => absurd ((hlong x).symm.trans q) (by decide))) hL (zs1 (zs1 (zs1 hs).2).2).2 p l e s m args below meth c D ad ct AA H1 locs1 ls cells slots Q fx0 en ⟨hP1, hD1, hS1⟩ lo
    next => exact h.elim
  next => exact h.elim
set_option maxHeartbeats 1000000 in
theorem zs_tableswitch {d lo0 hi : Int} {offs : Array Int} (hc : zchk i (pc, n, .tableswitch d lo0 hi offs, A, B, C) = true) (hn : zHn i X R n nx) (hJ : zHJ i X R J) (h : zstep X R nx J pc (.tableswitch d lo0 hi offs) A B C L st σ) : zRuns i X R pc L st σ := by
  obtain ⟨hdg, hnx, hax⟩ := zchk_ok hc
  simp only [zlen] at hdg hnx
  subst hnx
  simp only [zstep] at h
  intro hw hL hs p l e s m args below meth c D ad ct AA H locs ls cells slots Q fx en wo lo
  have fx0 := fx
  obtain ⟨hx, hb, hml, hown, hts, hK, hnw, hA, hce, hsl, hsc⟩ := fx
  simp only [zaux, Bool.and_eq_true, decide_eq_true_eq] at hax
  split at h
  next v st =>
    have hV : zI v := (zs1 hs).1
    by_cases hv : v < lo0 ∨ hi < v
    · refine lv_tableOut (tgt := ((pc : Int) + d).toNat) hx hb hdg (by rw [zI_t hV]; exact hv) (zcast hax.1.1).symm ?_
      exact hJ _ _ _ _ (h.2 hv) hw hL (zs1 hs).2 p l e s m args below meth c D ad ct AA H locs ls cells slots Q fx0 en wo lo
    · obtain ⟨q, hq⟩ : ∃ q : Nat, v = lo0 + (q : Int) := ⟨(v - lo0).toNat, by omega⟩
      have hql : q < offs.toList.length := by omega
      have ho : offs[q]? = some (offs.toList[q]) := by rw [← Array.getElem?_toList, List.getElem?_eq_getElem hql]
      have hpos : 0 ≤ (pc : Int) + offs.toList[q] := by
        have := List.all_eq_true.mp hax.1.2 _ (List.getElem_mem hql)
        simpa using this
      refine lv_tableIn (tgt := ((pc : Int) + offs.toList[q]).toNat) hx hb hdg (by rw [zI_t hV]; omega) (by rw [zI_t hV]; omega) (by rw [zI_t hV, show (v - lo0).toNat = q by omega]; exact ho) (zcast hpos).symm ?_
      exact hJ _ _ _ _ (zcase_at _ _ q _ h.1 (List.getElem?_eq_getElem hql) hq) hw hL (zs1 hs).2 p l e s m args below meth c D ad ct AA H locs ls cells slots Q fx0 en wo lo
  next => exact h.elim
theorem zlook_ok {pc : Nat} {J : Nat → Prop} {v d : Int} : ∀ l : List (Int × Int), zlook pc J v l → (zlno v l → J ((pc : Int) + d).toNat) → J ((pc : Int) + Op.lookupswitch.offset l d v).toNat
  | [], _, h => by
    have e : Op.lookupswitch.offset [] d v = d := by first | rfl | simp [Op.lookupswitch.offset]
    rw [e]; exact h trivial
  | (k, o) :: l, hz, h => by
    rw [Op.lookupswitch.offset_cons]
    by_cases e : v = k
    · rw [if_pos e.symm]; exact hz.1 e
    · rw [if_neg (fun q => e q.symm)]; exact zlook_ok l hz.2 (fun q => h ⟨e, q⟩)
theorem zlook_pos {pc : Nat} {v d : Int} (hd : 0 ≤ (pc : Int) + d) : ∀ l : List (Int × Int), (l.all (fun x => decide (0 ≤ (pc : Int) + x.2))) = true → 0 ≤ (pc : Int) + Op.lookupswitch.offset l d v
  | [], _ => by
    have e : Op.lookupswitch.offset [] d v = d := by first | rfl | simp [Op.lookupswitch.offset]
    rw [e]; exact hd
  | (k, o) :: l, h => by
    rw [Op.lookupswitch.offset_cons]
    simp only [List.all_cons, Bool.and_eq_true, decide_eq_true_eq] at h
    split
    · exact h.1
    · exact zlook_pos hd l h.2
set_option maxHeartbeats 1000000 in
theorem zs_lookupswitch {d : Int} {ps : Array (Int × Int)} (hc : zchk i (pc, n, .lookupswitch d ps, A, B, C) = true) (hn : zHn i X R n nx) (hJ : zHJ i X R J) (h : zstep X R nx J pc (.lookupswitch d ps) A B C L st σ) : zRuns i X R pc L st σ := by
  obtain ⟨hdg, hnx, hax⟩ := zchk_ok hc
  simp only [zlen] at hdg hnx
  subst hnx
  simp only [zstep] at h
  intro hw hL hs p l e s m args below meth c D ad ct AA H locs ls cells slots Q fx en wo lo
  have fx0 := fx
  obtain ⟨hx, hb, hml, hown, hts, hK, hnw, hA, hce, hsl, hsc⟩ := fx
  simp only [zaux, Bool.and_eq_true] at hax
  obtain ⟨⟨h7, h8⟩, h9⟩ := hax
  have h7 := of_decide_eq_true h7
  split at h
  next v st =>
    have hV : zI v := (zs1 hs).1
    refine lv_lookup (tgt := ((pc : Int) + Op.lookupswitch.offset ps.toList d v).toNat) hx hb hdg h9 (by rw [zI_t hV]) (zcast (zlook_pos h7 _ h8)).symm ?_
    exact hJ _ _ _ _ (zlook_ok (J := fun t => J t L _ σ) _ h.1 h.2) hw hL (zs1 hs).2 p l e s m args below meth c D ad ct AA H locs ls cells slots Q fx0 en wo lo
  next => exact h.elim
theorem zRv_i {r : Option FieldType} {v : Int} (h : r = some .int ∨ r = some .boolean) : (zRv r v).toList = [Value.int (Int32.ofInt v)] ∧ zri r = .ireturn := by
  rcases h with rfl | rfl <;> exact ⟨rfl, rfl⟩
set_option maxHeartbeats 1000000 in
theorem zs_ireturn (hc : zchk i (pc, n, .ireturn, A, B, C) = true) (hn : zHn i X R n nx) (hJ : zHJ i X R J) (h : zstep X R nx J pc (.ireturn) A B C L st σ) : zRuns i X R pc L st σ := by
  obtain ⟨hdg, hnx, hax⟩ := zchk_ok hc
  simp only [zlen] at hdg hnx
  subst hnx
  simp only [zstep] at h
  intro hw hL hs p l e s m args below meth c D ad ct AA H locs ls cells slots Q fx en wo lo
  have fx0 := fx
  obtain ⟨hx, hb, hml, hown, hts, hK, hnw, hA, hce, hsl, hsc⟩ := fx
  simp only [zaux, Bool.or_eq_true, Bool.and_eq_true, decide_eq_true_eq] at hax
  split at h
  next v =>
    have hV : zI v := (zs1 hs).1
    rcases hax with ⟨hr, rfl⟩ | ⟨hr, rfl⟩
    · have hz := zRv_i (v := v) (Or.inl hr)
      have := en v σ H locs ls pc h hw (by rw [hr]; exact hV) wo (by rw [hz.2]; exact hdg)
      rw [hz.1] at this
      exact this
    · have hz := zRv_i (v := v) (Or.inr hr)
      have := en v σ H locs ls pc h.2 hw (by rw [hr]; exact h.1) wo (by rw [hz.2]; exact hdg)
      rw [hz.1] at this
      exact this
  next => exact h.elim
set_option maxHeartbeats 1000000 in
theorem zs_lreturn (hc : zchk i (pc, n, .lreturn, A, B, C) = true) (hn : zHn i X R n nx) (hJ : zHJ i X R J) (h : zstep X R nx J pc (.lreturn) A B C L st σ) : zRuns i X R pc L st σ := by
  obtain ⟨hdg, hnx, hax⟩ := zchk_ok hc
  simp only [zlen] at hdg hnx
  subst hnx
  simp only [zstep] at h
  intro hw hL hs p l e s m args below meth c D ad ct AA H locs ls cells slots Q fx en wo lo
  have fx0 := fx
  obtain ⟨hx, hb, hml, hown, hts, hK, hnw, hA, hce, hsl, hsc⟩ := fx
  simp only [zaux, decide_eq_true_eq] at hax
  split at h
  next v =>
    have hV : zJ v := (zs1 hs).1
    have := en v σ H locs ls pc h hw (by rw [hax]; exact hV) wo (by rw [hax]; exact hdg)
    rw [hax] at this
    exact this
  next => exact h.elim
set_option maxHeartbeats 1000000 in
theorem zs_return (hc : zchk i (pc, n, .return_, A, B, C) = true) (hn : zHn i X R n nx) (hJ : zHJ i X R J) (h : zstep X R nx J pc (.return_) A B C L st σ) : zRuns i X R pc L st σ := by
  obtain ⟨hdg, hnx, hax⟩ := zchk_ok hc
  simp only [zlen] at hdg hnx
  subst hnx
  simp only [zstep] at h
  intro hw hL hs p l e s m args below meth c D ad ct AA H locs ls cells slots Q fx en wo lo
  have fx0 := fx
  obtain ⟨hx, hb, hml, hown, hts, hK, hnw, hA, hce, hsl, hsc⟩ := fx
  simp only [zaux, decide_eq_true_eq] at hax
  split at h
  next =>
    have := en 0 σ H locs ls pc h hw (by rw [hax]; rfl) wo (by rw [hax]; exact hdg)
    rw [hax] at this
    exact this
  next => exact h.elim
end ZS
end
section
/-! calls; a walk; contracts out of walks -/
section ZS
variable {i : Nat} {X : zX} {R : Int → zS → Prop} {nx : zL → List zV → zS → Prop} {J : Nat → zL → List zV → zS → Prop} {pc n A B : Nat} {C : Int} {L : zL} {st : List zV} {σ : zS}
theorem zcv_vc {r : Option FieldType} {v : Int} {ad : Nat → Nat} (k : Nat) (hk : k % 4 = zrk r) (hv : zRok r v) {rest : List zV} (hrest : ∀ w ∈ rest, zok w) :
    ∃ o : List zV, (zRv r v).toList ++ rest.map (zcv ad) = (o ++ rest).map (zcv ad) ∧ (∀ w ∈ o ++ rest, zok w) ∧ ∀ (Rc : Int → zS → Prop) (u : zS) (nx' : List zV → zS → Prop), Rc v u → (match k % 4 with
    | 0 => ∀ u, Rc 0 u → nx' [] u
    | 1 => ∀ v u, zI v → Rc v u → nx' [.inl v] u
    | _ => ∀ v u, zJ v → Rc v u → nx' [.inr (.inl v)] u) → nx' o u := by
  rw [hk]
  rcases r with _ | ty
  · have hv : v = 0 := hv
    subst hv
    exact ⟨[], rfl, hrest, fun Rc u nx' h1 h2 => h2 u h1⟩
  · by_cases hl : ty = .long
    · subst hl
      exact ⟨[.inr (.inl v)], rfl, zs2 (v := .inr (.inl v)) hv hrest, fun Rc u nx' h1 h2 => h2 v u hv h1⟩
    · have hvI : zI v := by
        cases ty <;> first | exact hv | exact absurd rfl hl | skip
        rcases (show v = 0 ∨ v = 1 from hv) with rfl | rfl <;> exact ⟨by decide, by decide⟩
      have e1 : (zRv (some ty) v).toList = [Value.int (Int32.ofInt v)] := by cases ty <;> first | rfl | exact absurd rfl hl
      have e2 : zrk (some ty) = 1 := by cases ty <;> first | rfl | exact absurd rfl hl
      rw [e1, e2]
      exact ⟨[.inl v], rfl, zs2 (v := .inl v) hvI hrest, fun Rc u nx' h1 h2 => h2 v u hvI h1⟩
theorem zroom_ok {A i : Nat} (h : zroom A i = true) : (zq A).frames + 1 ≤ (zq i).frames ∧ 8 + (zl A + 11) + (zq A).locals ≤ (zq i).locals ∧ (zq A).cells = 0 ∧ (zq A).slots = 0 := by
  simp only [zroom, Bool.and_eq_true, decide_eq_true_eq] at h
  exact ⟨h.1.1, h.1.2, h.2.1, h.2.2⟩
theorem zpre_blind {D : va_G} {ad : Nat → Nat} {ct : Nat → ClassId} {av : List Value} {sz : Nat} : FrameBlind (va_Pc av (fun U => U.heap.size = sz ∧ zWD D ad ct σ (fun _ => True) U)) := by
  intro a U g mk q
  obtain ⟨q0, q1, qP, qK, qD, qN⟩ := q
  exact ⟨q0, q1, qP, va_K.moved (u := U) (U := U.calling g mk a) (Vm.Alike.refl U.vm) qK, qD, zNw.same (u := U) rfl qN⟩
theorem zok_app {pre st : List zV} (h : ∀ w ∈ pre ++ st, zok w) : (∀ w ∈ pre.reverse, zok w) ∧ ∀ w ∈ st, zok w := ⟨fun w hw => h w (List.mem_append_left _ (List.mem_reverse.mp hw)), fun w hw => h w (List.mem_append_right _ hw)⟩
set_option maxHeartbeats 1000000 in
theorem zs_invokevirtual {j : Nat} (hc : zchk i (pc, n, .invokevirtual j, A, B, C) = true) (hn : zHn i X R n nx) (hJ : zHJ i X R J) (h : zstep X R nx J pc (.invokevirtual j) A B C L st σ) : zRuns i X R pc L st σ := by
  obtain ⟨hdg, hnx, hax⟩ := zchk_ok hc
  simp only [zlen] at hdg hnx
  subst hnx
  simp only [zstep] at h
  intro hw hL hs p l e s m args below meth c D ad ct AA H locs ls cells slots Q fx en wo lo
  have fx0 := fx
  obtain ⟨hx, hb, hml, hown, hts, hK, hnw, hA, hce, hsl, hsc⟩ := fx
  simp only [zaux, Bool.and_eq_true, decide_eq_true_eq] at hax
  obtain ⟨⟨⟨⟨⟨⟨hvl, hAlt⟩, hBn⟩, hCk⟩, hC10⟩, hCc⟩, hroom⟩ := hax
  split at h
  next as k o st' hp =>
    cases hk1 : Nat.beq k (C.toNat / 4) with
    | false => rw [hk1] at h; exact h.elim
    | true =>
      cases hk2 : Nat.ble (zsum st') 8 with
      | false => rw [hk1, hk2] at h; exact h.elim
      | true =>
      rw [hk1, hk2] at h
      simp only [Bool.and_self, cond_true] at h
      have hk1 := Nat.eq_of_beq_eq_true hk1
      have hk2 := Nat.le_of_ble_eq_true hk2
      obtain ⟨pre, hpl, hst, has⟩ := zpop_ok B [] st _ _ hp
      rw [List.append_nil] at has
      subst hst
      subst has
      have hk10 : k < 10 := by omega
      obtain ⟨hcn, hkd⟩ := zcn_10 k hk10
      have hne : k ≠ zKR := fun q => by rw [q] at hkd; exact absurd hkd (by decide)
      have hkc : zcn k = zow A := by rw [hk1]; exact hCc
      obtain ⟨hokA, hok1⟩ := zok_app hs
      obtain ⟨hokB, hrest⟩ := zs1 hok1
      have hM := zmf A hAlt
      have hV := zvl_ok _ hvl
      have hrm := zroom_ok hroom
      obtain ⟨Rc, hAM, hcont⟩ := h
      have hMet := hAM hw (zs2 hokB hokA) l D ad ct H.size
      have hst : zcv ad (.inr (.inr (k, o))) = .ref (ad k) := by simp only [zcv, zadr_ne hne]
      have hcl := zcf (zcn k) hcn
      have hrecv := va_recv hK wo.1 hcl.1 (zwl_obj (ad := ad) (ct := ct) (σ := σ) (by show k < 73; omega) hkd)
      have hcb : CallB (zq i) s args (zRn (zow i)) j (zy A) (zb A) (zl A) (zr A) (zws A) (zq A) 0 0 B := callB_of B hts (zws_good hM) rfl hrm.2.2.1 hrm.2.2.2 (hts _ hM.2.1) (hts _ hV.1) ⟨hM.2.2.2.1.1, hM.2.2.2.1.2, by rw [hM.2.2.2.2.1, hBn]⟩ ⟨hrm.1, hrm.2.1⟩
      rw [List.map_append, List.map_cons, hst]
      refine zcall (va_runV (As := pre.reverse.map (zcv ad)) (rest := st'.map (zcv ad)) (C := (zy A).cls) (b := ad k) ⟨hx, hb, hml, hown, hts⟩ hMet ⟨hcb, hts _ hV.2.1, hts _ hV.2.2⟩ ⟨zpre_blind, ?_, fun U hU hWm => ⟨by rw [List.map_cons, hst], by rw [hU], by rw [hU]; exact wo.1, va_K.moved hWm.alike hK, wo.2.1.weaken (fun _ _ _ _ => trivial), hnw.warm hWm⟩⟩ rfl (by simp [hpl]) lo.1 (by simp [List.map_reverse]) (lv_room (by rw [zsum_ok]; exact hk2)) hdg ⟨hce, hsl⟩) wo hA (fun v8 u8 H8 locs8 hR8 hw8 hv8 wo8 => ?_)
      · obtain ⟨cell, r1, r2, r3⟩ := hrecv
        exact ⟨cell, r1, r2, by rw [hM.2.2.2.2.2.1, ← hkc]; exact r3⟩
      · obtain ⟨o9, e9, ok9, f9⟩ := zcv_vc (ad := ad) C.toNat hCk hv8 hrest
        rw [e9]
        exact hn _ _ _ (f9 Rc u8 (fun r u => nx L (r ++ st') u) hR8 hcont) hw8 hL ok9 p l e s m args below meth c D ad ct AA H8 locs8 ls cells slots Q fx0 en wo8 lo
  next => exact h.elim
set_option maxHeartbeats 1000000 in
theorem zs_invokestatic {j : Nat} (hc : zchk i (pc, n, .invokestatic j, A, B, C) = true) (hn : zHn i X R n nx) (hJ : zHJ i X R J) (h : zstep X R nx J pc (.invokestatic j) A B C L st σ) : zRuns i X R pc L st σ := by
  obtain ⟨hdg, hnx, hax⟩ := zchk_ok hc
  simp only [zlen] at hdg hnx
  subst hnx
  simp only [zstep] at h
  intro hw hL hs p l e s m args below meth c D ad ct AA H locs ls cells slots Q fx en wo lo
  have fx0 := fx
  obtain ⟨hx, hb, hml, hown, hts, hK, hnw, hA, hce, hsl, hsc⟩ := fx
  cases h10 : Nat.beq A 9010 with
  | true =>
    rw [h10] at h
    simp only [cond_true] at h
    have hA0 := Nat.eq_of_beq_eq_true h10
    subst hA0
    simp only [zaux, if_pos (show 9010 ≤ 9010 by omega), Bool.and_eq_true, decide_eq_true_eq] at hax
    split at h
    next y x st' =>
      cases hk2 : Nat.ble (zsum st') 8 with
      | false => rw [hk2] at h; exact h.elim
      | true =>
      rw [hk2] at h
      simp only [cond_true] at h
      have hk2 := Nat.le_of_ble_eq_true hk2
      have hq := zmin32 (x := x) (y := y) (zs1 (zs1 hs).2).1 (zs1 hs).1
      refine va_mmin hx hb (hml.trans lo.1.symm) hown (hts _ (zxl_ok _ hax.1.1)) (hts _ zX_min.1) (hts _ zX_init.1) (hts _ zX_min.2) hax.1.2 (by rw [zsum_ok]; have := hax.2; omega) hce hsl hdg ?_
      rw [hq.1]
      exact hn _ _ _ h hw hL (zs2 (v := .inl _) hq.2 (zs1 (zs1 hs).2).2) p l e s m args below meth c D ad ct AA H locs ls cells slots Q fx0 en wo lo
    next => exact h.elim
  | false =>
  rw [h10] at h
  simp only [cond_false] at h
  cases h11 : Nat.beq A 9011 with
  | true =>
    rw [h11] at h
    simp only [cond_true] at h
    have hA0 := Nat.eq_of_beq_eq_true h11
    subst hA0
    simp only [zaux, if_pos (show 9010 ≤ 9011 by omega), Bool.and_eq_true, decide_eq_true_eq] at hax
    split at h
    next y x st' =>
      cases hk2 : Nat.ble (zsum st') 8 with
      | false => rw [hk2] at h; exact h.elim
      | true =>
      rw [hk2] at h
      simp only [cond_true] at h
      have hk2 := Nat.le_of_ble_eq_true hk2
      have hq := zmax32 (x := x) (y := y) (zs1 (zs1 hs).2).1 (zs1 hs).1
      refine va_mmax hx hb (hml.trans lo.1.symm) hown (hts _ (zxl_ok _ hax.1.1)) (hts _ zX_max.1) (hts _ zX_init.1) (hts _ zX_max.2) hax.1.2 (by rw [zsum_ok]; have := hax.2; omega) hce hsl hdg ?_
      rw [hq.1]
      exact hn _ _ _ h hw hL (zs2 (v := .inl _) hq.2 (zs1 (zs1 hs).2).2) p l e s m args below meth c D ad ct AA H locs ls cells slots Q fx0 en wo lo
    next => exact h.elim
  | false =>
  rw [h11] at h
  simp only [cond_false] at h
  cases h12 : Nat.beq A 9012 with
  | true =>
    rw [h12] at h
    simp only [cond_true] at h
    have hA0 := Nat.eq_of_beq_eq_true h12
    subst hA0
    simp only [zaux, if_pos (show 9010 ≤ 9012 by omega), Bool.and_eq_true, decide_eq_true_eq] at hax
    split at h
    next x st' =>
      cases hk2 : Nat.ble (zsum st') 8 with
      | false => rw [hk2] at h; exact h.elim
      | true =>
      rw [hk2] at h
      simp only [cond_true] at h
      have hk2 := Nat.le_of_ble_eq_true hk2
      have hX : zI x := (zs1 hs).1
      have hq : (if 0 ≤ Int32.ofInt x then Int32.ofInt x else 0 - Int32.ofInt x) = Int32.ofInt (if x < 0 then -x else x) ∧ zI (if x < 0 then -x else x) := by
        simp only [zge0 hX]
        by_cases e : x < 0
        · rw [if_neg (show ¬ 0 ≤ x by omega), if_pos e]
          exact ⟨by have h9 := Int32.ofInt_sub 0 x; rw [Int.zero_sub, z00] at h9; exact h9.symm, h.1⟩
        · rw [if_pos (show 0 ≤ x by omega), if_neg e]
          exact ⟨rfl, hX⟩
      refine va_mabs hx hb (hml.trans lo.1.symm) hown (hts _ (zxl_ok _ hax.1.1)) (hts _ zX_abs.1) (hts _ zX_init.1) (hts _ zX_abs.2) hax.1.2 (by rw [zsum_ok]; have := hax.2; omega) hce hsl hdg ?_
      rw [hq.1]
      exact hn _ _ _ h.2 hw hL (zs2 (v := .inl _) hq.2 (zs1 hs).2) p l e s m args below meth c D ad ct AA H locs ls cells slots Q fx0 en wo lo
    next => exact h.elim
  | false =>
  rw [h12] at h
  simp only [cond_false] at h
  cases h13 : Nat.beq A 9013 with
  | true =>
    rw [h13] at h
    simp only [cond_true] at h
    have hA0 := Nat.eq_of_beq_eq_true h13
    subst hA0
    simp only [zaux, if_pos (show 9010 ≤ 9013 by omega), Bool.and_eq_true, decide_eq_true_eq] at hax
    split at h
    next z y k2 o2 x k1 o1 =>
      cases hk1 : Nat.beq k1 zKR with
      | false => rw [hk1] at h; exact h.elim
      | true =>
      cases hk2 : Nat.beq k2 zKR with
      | false => rw [hk1, hk2] at h; exact h.elim
      | true =>
      rw [hk1, hk2] at h
      simp only [Bool.and_self, cond_true] at h
      have hk1 := Nat.eq_of_beq_eq_true hk1
      have hk2 := Nat.eq_of_beq_eq_true hk2
      subst hk1
      subst hk2
      obtain ⟨sz, hs⟩ := zs1 hs
      obtain ⟨sy, hs⟩ := zs1 hs
      obtain ⟨s2, hs⟩ := zs1 hs
      obtain ⟨sx, hs⟩ := zs1 hs
      obtain ⟨s1, hs⟩ := zs1 hs
      have sz : zI z := sz
      have sy : zI y := sy
      have sx : zI x := sx
      obtain ⟨r2, hr2, rfl⟩ := s2 rfl
      obtain ⟨r1, hr1, rfl⟩ := s1 rfl
      have e1 : zcv ad (.inr (.inr (zKR, 80 * (r1 : Int)))) = .ref (ad (zKR + r1)) := by simp only [zcv, zadr_r]
      have e2 : zcv ad (.inr (.inr (zKR, 80 * (r2 : Int)))) = .ref (ad (zKR + r2)) := by simp only [zcv, zadr_r]
      simp only [List.map_cons, List.map_nil, e1, e2]
      refine va_copyi (rest := []) (ty := .int) hx hb (hml.trans lo.1.symm) hown (hts _ (zxl_ok _ hax.1.1)) (hts _ zX_copy.1) (hts _ zX_copy.2) (hts _ zX_init.2) hK wo.1 wo.2.1 wo.2.2 (zKR + r1) (zKR + r2) 0 0 (zwl_ra hr1) (zwl_ra hr2) rfl rfl rfl
        (fun q => by have := (zlt0 sx).mp q; omega) (fun q => by have := (zlt0 sy).mp q; omega) (fun q => by have := (zlt0 sz).mp q; omega) (by rw [zclamp sx, zclamp sz]; omega) (by rw [zclamp sy, zclamp sz]; omega) (fun _ _ => rfl) hax.1.2 (by show 0 + (7 + 11) ≤ _; have := hax.2; omega) hdg (fun H1 locs1 hP1 hD1 hS1 => ?_)
      rw [zwl_cp hr2 h.1.1 h.1.2.1 h.1.2.2.1 h.1.2.2.2.1 h.1.2.2.2.2 sx sy sz] at hP1 hD1
      exact hn _ _ _ h.2 hw.cp hL (fun _ q => absurd q List.not_mem_nil) p l e s m args below meth c D ad ct AA H1 locs1 ls cells slots Q fx0 en ⟨hP1, hD1, hS1⟩ lo
    next => exact h.elim
  | false =>
  rw [h13] at h
  simp only [cond_false] at h
  split at h
  next as st' hp =>
      cases hk2 : Nat.ble (zsum st') 8 with
      | false => rw [hk2] at h; exact h.elim
      | true =>
      rw [hk2] at h
      simp only [cond_true] at h
      have hk2 := Nat.le_of_ble_eq_true hk2
      obtain ⟨pre, hpl, hst, has⟩ := zpop_ok B [] st _ _ hp
      rw [List.append_nil] at has
      subst hst
      subst has
      obtain ⟨hokA, hrest⟩ := zok_app hs
      obtain ⟨Rc, hAM, hcont⟩ := h
      by_cases hge : 9010 ≤ A
      · exfalso
        simp only [zaux, if_pos hge, Bool.and_eq_true, decide_eq_true_eq] at hax
        have h9 : ∀ x ∈ zxl, x.2.2 = 9010 ∨ x.2.2 = 9011 ∨ x.2.2 = 9012 ∨ x.2.2 = 9013 := by decide +kernel
        rcases h9 _ hax.1.1 with q | q | q | q
        · rw [show A = 9010 from q] at h10; exact absurd h10 (by decide)
        · rw [show A = 9011 from q] at h11; exact absurd h11 (by decide)
        · rw [show A = 9012 from q] at h12; exact absurd h12 (by decide)
        · rw [show A = 9013 from q] at h13; exact absurd h13 (by decide)
      simp only [zaux, if_neg hge, Bool.and_eq_true, Bool.or_eq_true, decide_eq_true_eq] at hax
      obtain ⟨⟨⟨⟨hsn, hAlt⟩, hBn⟩, hCk⟩, hroom⟩ := hax
      have hM := zmf A hAlt
      have hrm := zroom_ok hroom
      have hMet := hAM hw hokA l D ad ct H.size
      rw [List.map_append]
      have hps : PreS s H (va_Pc (pre.reverse.map (zcv ad)) (fun U => U.heap.size = H.size ∧ zWD D ad ct σ (fun _ => True) U)) (pre.reverse.map (zcv ad)) := ⟨zpre_blind, fun U hU hWm => ⟨rfl, by rw [hU], by rw [hU]; exact wo.1, va_K.moved hWm.alike hK, wo.2.1.weaken (fun _ _ _ _ => trivial), hnw.warm hWm⟩⟩
      rcases hsn with hsn | hsn
      · have hV := zsl_ok _ hsn
        have hcb : CallB (zq i) s args (zRn (zow i)) j (zy A) (zb A) (zl A) (zr A) (zws A) (zq A) 0 0 B := callB_of B hts (zws_good hM) rfl hrm.2.2.1 hrm.2.2.2 (hts _ hM.2.1) (hts _ hV.1) ⟨hM.2.2.2.1.1, hM.2.2.2.1.2, by rw [hM.2.2.2.2.1, hBn]⟩ ⟨hrm.1, hrm.2.1⟩
        refine zcall (va_runS (As := pre.reverse.map (zcv ad)) (rest := st'.map (zcv ad)) ⟨hx, hb, hml, hown, hts⟩ hMet ⟨hcb, hts _ hV.2⟩ hps rfl (by simp [hpl]) lo.1 (by simp [List.map_reverse]) (lv_room (by rw [zsum_ok]; exact hk2)) hdg ⟨hce, hsl⟩) wo hA (fun v8 u8 H8 locs8 hR8 hw8 hv8 wo8 => ?_)
        obtain ⟨o9, e9, ok9, f9⟩ := zcv_vc (ad := ad) C.toNat hCk hv8 hrest
        rw [e9]
        exact hn _ _ _ (f9 Rc u8 (fun r u => nx L (r ++ st') u) hR8 hcont) hw8 hL ok9 p l e s m args below meth c D ad ct AA H8 locs8 ls cells slots Q fx0 en wo8 lo
      · have hV := znl_ok _ hsn
        have hcb : va_CN (zq i) s args (zRn (zow i)) j (zy A) "PenLines" (zb A) (zl A) (zr A) (zws A) (zq A) 0 0 B := va_cnB B hts (zws_good hM) rfl hrm.2.2.1 hrm.2.2.2 (hnw _ hV.1 rfl) (hts _ hM.2.1) ⟨hM.2.2.2.1.1, hM.2.2.2.1.2, by rw [hM.2.2.2.2.1, hBn]⟩ ⟨hrm.1, hrm.2.1⟩
        refine zcall (va_runSN (As := pre.reverse.map (zcv ad)) (rest := st'.map (zcv ad)) ⟨hx, hb, hml, hown, hts⟩ hMet ⟨hcb, hts _ hV.2, trivial⟩ hps rfl (by simp [hpl]) lo.1 (by simp [List.map_reverse]) (lv_room (by rw [zsum_ok]; exact hk2)) hdg ⟨hce, hsl⟩) wo hA (fun v8 u8 H8 locs8 hR8 hw8 hv8 wo8 => ?_)
        obtain ⟨o9, e9, ok9, f9⟩ := zcv_vc (ad := ad) C.toNat hCk hv8 hrest
        rw [e9]
        exact hn _ _ _ (f9 Rc u8 (fun r u => nx L (r ++ st') u) hR8 hcont) hw8 hL ok9 p l e s m args below meth c D ad ct AA H8 locs8 ls cells slots Q fx0 en wo8 lo
  next => exact h.elim
/-- every step -/
theorem zstep_ok {ins : Instr} (hc : zchk i (pc, n, ins, A, B, C) = true) (hn : zHn i X R n nx) (hJ : zHJ i X R J) (h : zstep X R nx J pc ins A B C L st σ) : zRuns i X R pc L st σ := by
  cases ins
  case iload_n k => exact zs_iload_n hc hn hJ h
  case iload k => exact zs_iload hc hn hJ h
  case lload_n k => exact zs_lload_n hc hn hJ h
  case lload k => exact zs_lload hc hn hJ h
  case aload_n k => exact zs_aload_n hc hn hJ h
  case aload k => exact zs_aload hc hn hJ h
  case istore_n k => exact zs_istore_n hc hn hJ h
  case istore k => exact zs_istore hc hn hJ h
  case lstore_n k => exact zs_lstore_n hc hn hJ h
  case lstore k => exact zs_lstore hc hn hJ h
  case astore_n k => exact zs_astore_n hc hn hJ h
  case astore k => exact zs_astore hc hn hJ h
  case iconst k => exact zs_iconst hc hn hJ h
  case bipush k => exact zs_bipush hc hn hJ h
  case sipush k => exact zs_sipush hc hn hJ h
  case ldc k => exact zs_ldc hc hn hJ h
  case ldc_w k => exact zs_ldc_w hc hn hJ h
  case ldc2_w k => exact zs_ldc2_w hc hn hJ h
  case lconst k => exact zs_lconst hc hn hJ h
  case iinc j k => exact zs_iinc hc hn hJ h
  case iadd => exact zs_iadd hc hn hJ h
  case isub => exact zs_isub hc hn hJ h
  case imul => exact zs_imul hc hn hJ h
  case idiv => exact zs_idiv hc hn hJ h
  case irem => exact zs_irem hc hn hJ h
  case ineg => exact zs_ineg hc hn hJ h
  case iand => exact zs_iand hc hn hJ h
  case i2b => exact zs_i2b hc hn hJ h
  case i2s => exact zs_i2s hc hn hJ h
  case i2l => exact zs_i2l hc hn hJ h
  case l2i => exact zs_l2i hc hn hJ h
  case ladd => exact zs_ladd hc hn hJ h
  case lmul => exact zs_lmul hc hn hJ h
  case land => exact zs_land hc hn hJ h
  case lor => exact zs_lor hc hn hJ h
  case lshl => exact zs_lshl hc hn hJ h
  case lshr => exact zs_lshr hc hn hJ h
  case lushr => exact zs_lushr hc hn hJ h
  case lcmp => exact zs_lcmp hc hn hJ h
  case dup => exact zs_dup hc hn hJ h
  case dup2 => exact zs_dup2 hc hn hJ h
  case pop => exact zs_pop hc hn hJ h
  case goto off => exact zs_goto hc hn hJ h
  case ifCond cd off =>
    cases cd
    · exact zs_if_eq hc hn hJ h
    · exact zs_if_ne hc hn hJ h
    · exact zs_if_lt hc hn hJ h
    · exact zs_if_ge hc hn hJ h
    · exact zs_if_gt hc hn hJ h
    · exact zs_if_le hc hn hJ h
  case if_icmp cd off =>
    cases cd
    · exact zs_icmp_eq hc hn hJ h
    · exact zs_icmp_ne hc hn hJ h
    · exact zs_icmp_lt hc hn hJ h
    · exact zs_icmp_ge hc hn hJ h
    · exact zs_icmp_gt hc hn hJ h
    · exact zs_icmp_le hc hn hJ h
  case tableswitch d lo hi offs => exact zs_tableswitch hc hn hJ h
  case lookupswitch d ps => exact zs_lookupswitch hc hn hJ h
  case getfield j => exact zs_getfield hc hn hJ h
  case putfield j => exact zs_putfield hc hn hJ h
  case iaload => exact zs_iaload hc hn hJ h
  case baload => exact zs_baload hc hn hJ h
  case laload => exact zs_laload hc hn hJ h
  case aaload => exact zs_aaload hc hn hJ h
  case arraylength => exact zs_arraylength hc hn hJ h
  case iastore => exact zs_iastore hc hn hJ h
  case bastore => exact zs_bastore hc hn hJ h
  case lastore => exact zs_lastore hc hn hJ h
  case ireturn => exact zs_ireturn hc hn hJ h
  case lreturn => exact zs_lreturn hc hn hJ h
  case return_ => exact zs_return hc hn hJ h
  case invokevirtual j => exact zs_invokevirtual hc hn hJ h
  case invokestatic j => exact zs_invokestatic hc hn hJ h
  all_goals exact h.elim
theorem zRuns.mask {m : List Bool} (h : zRuns i X R pc (zmask m L) st σ) : zRuns i X R pc L st σ := by
  intro hw hL hs p l e s m' args below meth c D ad ct AA H locs ls cells slots Q fx en wo lo
  exact h hw (fun k v hk => hL k v (zmask_nth _ _ _ _ hk)) hs p l e s m' args below meth c D ad ct AA H locs ls cells slots Q fx en wo lo.mask
theorem zwS_ok {K : Nat → zL → List zV → zS → Prop} {cut : List (Nat × List Bool)} (hK : zHJ i X R K) (hJ : zHJ i X R J) (code : List zE) : (∀ x ∈ code, zchk i x = true) → (∀ (a b : zE) (r1 r2 : List zE), code = r1 ++ a :: b :: r2 → a.2.1 = b.1) → ∀ (L : zL) (st : List zV) (σ : zS) (x : zE) (rest : List zE), code = x :: rest → zwS X R K J cut code L st σ → zRuns i X R x.1 L st σ := by
  induction code with
  | nil => intro _ _ L st σ x rest he _; cases he
  | cons y code ih =>
    intro hc hj L st σ x rest he h
    obtain ⟨e1, e2⟩ := List.cons.inj he
    rw [← e1]
    clear he e1 e2 x rest
    obtain ⟨pc, n, ins, A, B, C⟩ := y
    refine zstep_ok (hc _ List.mem_cons_self) (fun L st σ h => ?_) hJ h
    split at h
    · exact (hK _ _ _ _ h).mask
    · cases code with
      | nil => exact h.elim
      | cons z rest =>
        have e : n = z.1 := hj (pc, n, ins, A, B, C) z [] rest rfl
        rw [e]
        exact ih (fun x hx => hc x (List.mem_cons_of_mem _ hx)) (fun a b r1 r2 q => hj a b ((pc, n, ins, A, B, C) :: r1) r2 (by rw [q]; rfl)) L st σ z rest rfl h
theorem zdrop_at : ∀ (pc : Nat) (code : List zE) (x : zE) (rest : List zE), zdrop pc code = x :: rest → x.1 = pc ∧ ∃ r, code = r ++ x :: rest
  | pc, [], x, rest, h => by simp [zdrop] at h
  | pc, y :: code, x, rest, h => by
    simp only [zdrop] at h
    cases hb : Nat.beq pc y.1 with
    | true =>
      rw [hb] at h
      simp only [cond_true] at h
      cases h
      exact ⟨(Nat.eq_of_beq_eq_true hb).symm, [], rfl⟩
    | false =>
      rw [hb] at h
      simp only [cond_false] at h
      obtain ⟨h1, r, h2⟩ := zdrop_at pc code x rest h
      exact ⟨h1, y :: r, by rw [h2]; rfl⟩
def zcon : List zE → Bool
  | [] => true
  | [_] => true
  | a :: b :: l => Nat.beq a.2.1 b.1 && zcon (b :: l)
theorem zcon_ok : ∀ (code : List zE), zcon code = true → ∀ (a b : zE) (r1 r2 : List zE), code = r1 ++ a :: b :: r2 → a.2.1 = b.1
  | [], _, a, b, r1, r2, he => by simp at he
  | [y], _, a, b, [], r2, he => by simp at he
  | [y], _, a, b, z :: r1, r2, he => by simp at he
  | x :: y :: l, h, a, b, [], r2, he => by
    simp only [zcon, Bool.and_eq_true] at h
    simp at he
    obtain ⟨rfl, rfl, -⟩ := he
    exact Nat.eq_of_beq_eq_true h.1
  | x :: y :: l, h, a, b, z :: r1, r2, he => by
    simp only [zcon, Bool.and_eq_true] at h
    simp only [List.cons_append, List.cons.injEq] at he
    exact zcon_ok (y :: l) h.2 a b r1 r2 he.2
/-- a method's rows are its own -/
def zMok (i : Nat) (code : List zE) : Prop := (∀ x ∈ code, zchk i x = true) ∧ zcon code = true
theorem zwp_ok {K : Nat → zL → List zV → zS → Prop} {cut : List (Nat × List Bool)} {code : List zE} (hM : zMok i code) (hK : zHJ i X R K) : ∀ (n pc : Nat) (L : zL) (st : List zV) (σ : zS), zwp code X R K cut n pc L st σ → zRuns i X R pc L st σ
  | 0, _, _, _, _, h => h.elim
  | n + 1, pc, L, st, σ, h => by
    simp only [zwp] at h
    cases hd : zdrop pc code with
    | nil => rw [hd] at h; exact h.elim
    | cons x rest =>
      rw [hd] at h
      obtain ⟨hx, r, hr⟩ := zdrop_at pc code x rest hd
      rw [← hx]
      refine zwS_ok hK (fun t L st σ h => ?_) (x :: rest) (fun y hy => hM.1 y (by rw [hr]; exact List.mem_append_right _ hy)) (fun a b r1 r2 q => zcon_ok code hM.2 a b (r ++ r1) r2 (by rw [hr, q, List.append_assoc])) L st σ x rest rfl h
      split at h
      next m hm => exact (hK _ _ _ _ h).mask
      next hm => exact zwp_ok hM hK n t L st σ h
/-- A WALK: from the row pc, with at most n jumps, to the cuts (the walk goes on there), or to the end -/
theorem zwalk {code : List zE} (hM : zMok i code) (cut : List (Nat × List Bool)) (n : Nat) (h : zwp code X R (zRuns i X R) cut n pc L st σ) : zRuns i X R pc L st σ := zwp_ok hM (fun _ _ _ _ h => h) n pc L st σ h
theorem zRuns.wf (h : zWF σ → (∀ k v, znth L k = some (some v) → zok v) → zRuns i X R pc L st σ) : zRuns i X R pc L st σ := fun hw hL hs => h hw hL hw hL hs
end ZS
def zarg : List zV → Nat → zL
  | [], n => List.replicate n none
  | .inr (.inl v) :: as, n => some (.inr (.inl v)) :: none :: zarg as (n - 2)
  | v :: as, n => some v :: zarg as (n - 1)
def zargn : List zV → Nat
  | [] => 0
  | .inr (.inl _) :: as => 2 + zargn as
  | _ :: as => 1 + zargn as
def zX0 : zX := (-1, fun _ => 0)
theorem znth_rep : ∀ (n k : Nat) (w : zV), znth (List.replicate n (none : Option zV)) k = some (some w) → False
  | 0, k, w, h => by simp [znth] at h
  | n + 1, 0, w, h => by simp [znth, List.replicate_succ] at h
  | n + 1, k + 1, w, h => znth_rep n k w (by simpa only [List.replicate_succ, znth] using h)
theorem zarg_in (ad : Nat → Nat) : ∀ (as : List zV) (n b k : Nat) (w : zV), znth (zarg as n) k = some (some w) → (b + k, zcv ad w) ∈ lv_args b (as.map (zcv ad))
  | [], n, b, k, w, h => (znth_rep n k w h).elim
  | .inr (.inl v) :: as, n, b, 0, w, h => by
    simp only [zarg, znth] at h
    cases h
    exact List.mem_cons_self
  | .inr (.inl v) :: as, n, b, 1, w, h => by simp [zarg, znth] at h
  | .inr (.inl v) :: as, n, b, k + 2, w, h => by
    simp only [zarg, znth] at h
    have := zarg_in ad as (n - 2) (b + 2) k w h
    rw [show b + (k + 2) = b + 2 + k by omega]
    exact List.mem_cons_of_mem _ this
  | .inl v :: as, n, b, 0, w, h => by
    simp only [zarg, znth] at h
    cases h
    exact List.mem_cons_self
  | .inl v :: as, n, b, k + 1, w, h => by
    simp only [zarg, znth] at h
    have := zarg_in ad as (n - 1) (b + 1) k w h
    rw [show b + (k + 1) = b + 1 + k by omega]
    exact List.mem_cons_of_mem _ this
  | .inr (.inr v) :: as, n, b, 0, w, h => by
    simp only [zarg, znth] at h
    cases h
    exact List.mem_cons_self
  | .inr (.inr v) :: as, n, b, k + 1, w, h => by
    simp only [zarg, znth] at h
    have := zarg_in ad as (n - 1) (b + 1) k w h
    rw [show b + (k + 1) = b + 1 + k by omega]
    exact List.mem_cons_of_mem _ this
theorem zarg_ok : ∀ (as : List zV) (n k : Nat) (w : zV), znth (zarg as n) k = some (some w) → w ∈ as
  | [], n, k, w, h => (znth_rep n k w h).elim
  | .inr (.inl v) :: as, n, 0, w, h => by simp only [zarg, znth] at h; cases h; exact List.mem_cons_self
  | .inr (.inl v) :: as, n, 1, w, h => by simp [zarg, znth] at h
  | .inr (.inl v) :: as, n, k + 2, w, h => by simp only [zarg, znth] at h; exact List.mem_cons_of_mem _ (zarg_ok as (n - 2) k w h)
  | .inl v :: as, n, 0, w, h => by simp only [zarg, znth] at h; cases h; exact List.mem_cons_self
  | .inl v :: as, n, k + 1, w, h => by simp only [zarg, znth] at h; exact List.mem_cons_of_mem _ (zarg_ok as (n - 1) k w h)
  | .inr (.inr v) :: as, n, 0, w, h => by simp only [zarg, znth] at h; cases h; exact List.mem_cons_self
  | .inr (.inr v) :: as, n, k + 1, w, h => by simp only [zarg, znth] at h; exact List.mem_cons_of_mem _ (zarg_ok as (n - 1) k w h)
theorem zargn_len (ad : Nat → Nat) : ∀ as : List zV, (lg_sl (as.map (zcv ad))).length = zargn as
  | [] => rfl
  | .inr (.inl v) :: as => by
    have := zargn_len ad as
    simp only [lg_sl, List.map_cons, List.flatMap_cons, List.length_append, zargn] at this ⊢
    rw [this]; rfl
  | .inl v :: as => by
    have := zargn_len ad as
    simp only [lg_sl, List.map_cons, List.flatMap_cons, List.length_append, zargn] at this ⊢
    rw [this]; rfl
  | .inr (.inr v) :: as => by
    have := zargn_len ad as
    simp only [lg_sl, List.map_cons, List.flatMap_cons, List.length_append, zargn] at this ⊢
    rw [this]; rfl
/-- A CONTRACT out of the walk of the body -/
theorem zam {i : Nat} {as : List zV} {σ : zS} {R : Int → zS → Prop} (hi : i < zlaw) (hn : zargn as ≤ zl i) (h : zRuns i zX0 R 0 (zarg as (zl i)) [] σ) : zAM i as σ R := by
  intro hw hok l D ad ct sz
  have hM := zmf i hi
  have hq : (zq i).cells = 0 ∧ (zq i).slots = 0 := by
    have : Nat.beq i zlaw = false := by
      cases e : Nat.beq i zlaw with
      | false => rfl
      | true => have := Nat.eq_of_beq_eq_true e; omega
    unfold zq
    rw [this]
    exact ⟨rfl, rfl⟩
  refine Met.ofW (cc := zb i) (maxL := zl i) (ret := zr i) hM.2.2.1 rfl ?_
  intro p e s m args below meth c s₁ B hml hv
  obtain ⟨rfl, hsz, hP, hK, hD0, hN⟩ := hv
  have hts0 := atoms_spec (ws := zws i) B.pre
  have hts : ∀ w ∈ zTB, w.before ((as.map (zcv ad)).toArray) s = true := fun w hw => hts0 w (List.mem_cons_of_mem _ hw)
  have hown : s.vm.findClass (zRn (zow i)) = some m.cls := by rw [← hM.2.2.2.2.2.1]; exact findClass_of_methodNamed B.named
  subst hsz
  have hD := hD0.self (sz := s.heap.size)
  have hl := lv_entry (as.map (zcv ad)) (n := zl i) (by rw [zargn_len]; exact hn)
  rw [lg_entry_eq]
  generalize (lg_sl (as.map (zcv ad)) ++ List.replicate (zl i - (lg_sl (as.map (zcv ad))).length) Slot.unset).toArray = ls at hl ⊢
  have lo : zLo ad ls (zl i) (zarg as (zl i)) := ⟨hl.1, hl.2.1, fun k v hk => by
    have := hl.2.2 _ (zarg_in ad as (zl i) 0 k v hk)
    simpa using this⟩
  refine h hw (fun k v hk => hok v (zarg_ok as _ k v hk)) (fun _ q => absurd q List.not_mem_nil) p l e s m _ below meth c D ad ct (va_A (zwl ad ct σ) s.heap.size) s.heap [] ls 0 0 _ ⟨B.exec, B.bytes, hml, hown, hts, hK, hN, fun q hq => Or.inr hq, by rw [hq.1]; exact Nat.le_refl _, by rw [hq.2]; exact Nat.le_refl _, fun q => absurd q (by decide)⟩ ?_ ⟨hP, hD, va_S.rf⟩ lo
  intro v u H1 locs1 ls1 pc1 hR hwu hrok wo1 hdec
  have hlocks := B.notSynchronized
  have hrt := B.returns
  have post : ∀ t : State, t.heap = H1 → s.WarmedH t.vm → (∃ (v' : Int) (u' : zS), Outcome.returned (zRv (zr i) v) = .returned (zRv (zr i) v') ∧ (R v' u' ∧ zWF u' ∧ zRok (zr i) v') ∧ zWD D ad ct u' (va_A (zwl ad ct σ) s.heap.size) t) ∧ va_F (va_A (zwl ad ct σ) s.heap.size) s t := fun t ht hWt =>
    ⟨⟨v, u, rfl, ⟨hR, hwu, hrok⟩, by rw [ht]; exact wo1.1, va_K.moved hWt.alike hK, wo1.2.1, hN.warm hWt⟩, wo1.2.2.F ht⟩
  cases hz : zr i with
  | none =>
    rw [hz] at hrt hdec post
    exact W.vret B.exec B.bytes hrt (fun t ht hWt => post t ht hWt) wo1.2.2.2.2 hdec
  | some ty =>
    rw [hz] at hrt hdec post hrok
    by_cases hlg : ty = .long
    · subst hlg
      exact W.lret B.exec B.bytes hrt (fun t ht hWt => post t ht hWt) wo1.2.2.2.2 hdec
    · have e1 : zRv (some ty) v = some (Value.int (Int32.ofInt v)) := by cases ty <;> first | rfl | exact absurd rfl hlg
      have e2 : zri (some ty) = .ireturn := by cases ty <;> first | rfl | exact absurd rfl hlg
      have hty : ty = .int ∨ ty = .boolean := by
        have h9 : ∀ j, j < 160 → zr j = none ∨ zr j = some .long ∨ zr j = some .int ∨ zr j = some .boolean := by decide +kernel
        rcases h9 i (by have : i < 159 := hi; omega) with q | q | q | q
        · rw [hz] at q; cases q
        · rw [hz] at q; cases q; exact absurd rfl hlg
        · rw [hz] at q; cases q; exact Or.inl rfl
        · rw [hz] at q; cases q; exact Or.inr rfl
      rw [e1] at post ⊢
      rw [e2] at hdec
      have hnar : narrow ty (.int (Int32.ofInt v)) = .int (Int32.ofInt v) := by
        rcases hty with rfl | rfl
        · rfl
        · rcases (show v = 0 ∨ v = 1 from hrok) with rfl | rfl <;> rfl
      exact W.zret B.exec B.bytes hrt hnar (fun t ht hWt => post t ht hWt) wo1.2.2.2.2 hdec
end
