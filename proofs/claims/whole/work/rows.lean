section
-- ===== PART A: goes FIRST, ahead of the names: the tables' words, and 'selects' of the private methods out of them =====
/-- a private method of a class that the tables say can be made, by its rows of tables_1 -/
def lw_okq (q : MethodName × Nat) : Prop := (q.1.cls ≠ "java/lang/invoke/MethodHandle" ∧ q.1.cls ≠ "java/lang/invoke/VarHandle") ∧ Cond.instantiable q.1.cls q.2 ∈ tables_1 ∧ Cond.privateMethod q.1 ∈ tables_1 ∧ Cond.instanceMethod q.1 ∈ tables_1
theorem lw_p0 : lw_okq (⟨"PenLines", "found", "(I)I"⟩, 12) := ⟨⟨by decide +kernel, by decide +kernel⟩, List.mem_of_getElem? (i := 15) (by decide +kernel), List.mem_of_getElem? (i := 285) (by decide +kernel), List.mem_of_getElem? (i := 286) (by decide +kernel)⟩
theorem lw_p1 : lw_okq (⟨"PenLines", "fine", "(I)I"⟩, 12) := ⟨⟨by decide +kernel, by decide +kernel⟩, List.mem_of_getElem? (i := 15) (by decide +kernel), List.mem_of_getElem? (i := 297) (by decide +kernel), List.mem_of_getElem? (i := 298) (by decide +kernel)⟩
theorem lw_p2 : lw_okq (⟨"PenLines$Line", "gatherPieces", "()V"⟩, 12) := ⟨⟨by decide +kernel, by decide +kernel⟩, List.mem_of_getElem? (i := 50) (by decide +kernel), List.mem_of_getElem? (i := 340) (by decide +kernel), List.mem_of_getElem? (i := 341) (by decide +kernel)⟩
theorem lw_p3 : lw_okq (⟨"PenLines$Line", "beginInks", "()V"⟩, 12) := ⟨⟨by decide +kernel, by decide +kernel⟩, List.mem_of_getElem? (i := 50) (by decide +kernel), List.mem_of_getElem? (i := 344) (by decide +kernel), List.mem_of_getElem? (i := 345) (by decide +kernel)⟩
theorem lw_p4 : lw_okq (⟨"PenLines$Line", "joinDots", "()V"⟩, 12) := ⟨⟨by decide +kernel, by decide +kernel⟩, List.mem_of_getElem? (i := 50) (by decide +kernel), List.mem_of_getElem? (i := 348) (by decide +kernel), List.mem_of_getElem? (i := 349) (by decide +kernel)⟩
theorem lw_p5 : lw_okq (⟨"PenLines$Line", "inkUnder", "(I)I"⟩, 12) := ⟨⟨by decide +kernel, by decide +kernel⟩, List.mem_of_getElem? (i := 50) (by decide +kernel), List.mem_of_getElem? (i := 352) (by decide +kernel), List.mem_of_getElem? (i := 353) (by decide +kernel)⟩
theorem lw_p6 : lw_okq (⟨"PenLines$Line", "nearestPiece", "(II)I"⟩, 12) := ⟨⟨by decide +kernel, by decide +kernel⟩, List.mem_of_getElem? (i := 50) (by decide +kernel), List.mem_of_getElem? (i := 362) (by decide +kernel), List.mem_of_getElem? (i := 363) (by decide +kernel)⟩
theorem lw_p7 : lw_okq (⟨"PenLines", "isInk", "(I)Z"⟩, 12) := ⟨⟨by decide +kernel, by decide +kernel⟩, List.mem_of_getElem? (i := 15) (by decide +kernel), List.mem_of_getElem? (i := 378) (by decide +kernel), List.mem_of_getElem? (i := 379) (by decide +kernel)⟩
theorem lw_p8 : lw_okq (⟨"PenLines", "takeInHand", "(I)V"⟩, 12) := ⟨⟨by decide +kernel, by decide +kernel⟩, List.mem_of_getElem? (i := 15) (by decide +kernel), List.mem_of_getElem? (i := 474) (by decide +kernel), List.mem_of_getElem? (i := 475) (by decide +kernel)⟩
theorem lw_p9 : lw_okq (⟨"PenLines$Fits", "takeRow", "(LPenLines$Counts;IIZ)V"⟩, 2) := ⟨⟨by decide +kernel, by decide +kernel⟩, List.mem_of_getElem? (i := 170) (by decide +kernel), List.mem_of_getElem? (i := 496) (by decide +kernel), List.mem_of_getElem? (i := 497) (by decide +kernel)⟩
theorem lw_p10 : lw_okq (⟨"PenLines$OpenReadings", "clear", "(I)V"⟩, 5) := ⟨⟨by decide +kernel, by decide +kernel⟩, List.mem_of_getElem? (i := 185) (by decide +kernel), List.mem_of_getElem? (i := 511) (by decide +kernel), List.mem_of_getElem? (i := 512) (by decide +kernel)⟩
theorem lw_p11 : lw_okq (⟨"PenLines$OpenReadings", "extend", "(LPenLines$Counts;IIII)V"⟩, 5) := ⟨⟨by decide +kernel, by decide +kernel⟩, List.mem_of_getElem? (i := 185) (by decide +kernel), List.mem_of_getElem? (i := 519) (by decide +kernel), List.mem_of_getElem? (i := 520) (by decide +kernel)⟩
theorem lw_p12 : lw_okq (⟨"PenLines$OpenReadings", "offer", "(IIJ)V"⟩, 5) := ⟨⟨by decide +kernel, by decide +kernel⟩, List.mem_of_getElem? (i := 185) (by decide +kernel), List.mem_of_getElem? (i := 525) (by decide +kernel), List.mem_of_getElem? (i := 526) (by decide +kernel)⟩
theorem lw_p13 : lw_okq (⟨"PenLines$OpenReadings", "placeFor", "(IIJ)I"⟩, 5) := ⟨⟨by decide +kernel, by decide +kernel⟩, List.mem_of_getElem? (i := 185) (by decide +kernel), List.mem_of_getElem? (i := 529) (by decide +kernel), List.mem_of_getElem? (i := 530) (by decide +kernel)⟩
theorem lw_p14 : lw_okq (⟨"PenLines$OpenReadings", "isAhead", "(IJI)Z"⟩, 5) := ⟨⟨by decide +kernel, by decide +kernel⟩, List.mem_of_getElem? (i := 185) (by decide +kernel), List.mem_of_getElem? (i := 533) (by decide +kernel), List.mem_of_getElem? (i := 534) (by decide +kernel)⟩
theorem lw_p15 : lw_okq (⟨"PenLines$OpenReadings", "dearest", "(I)I"⟩, 5) := ⟨⟨by decide +kernel, by decide +kernel⟩, List.mem_of_getElem? (i := 185) (by decide +kernel), List.mem_of_getElem? (i := 542) (by decide +kernel), List.mem_of_getElem? (i := 543) (by decide +kernel)⟩
def lw_privs_1 : List (MethodName × Nat) := [(⟨"PenLines", "found", "(I)I"⟩, 12), (⟨"PenLines", "fine", "(I)I"⟩, 12), (⟨"PenLines$Line", "gatherPieces", "()V"⟩, 12), (⟨"PenLines$Line", "beginInks", "()V"⟩, 12), (⟨"PenLines$Line", "joinDots", "()V"⟩, 12), (⟨"PenLines$Line", "inkUnder", "(I)I"⟩, 12), (⟨"PenLines$Line", "nearestPiece", "(II)I"⟩, 12), (⟨"PenLines", "isInk", "(I)Z"⟩, 12), (⟨"PenLines", "takeInHand", "(I)V"⟩, 12), (⟨"PenLines$Fits", "takeRow", "(LPenLines$Counts;IIZ)V"⟩, 2), (⟨"PenLines$OpenReadings", "clear", "(I)V"⟩, 5), (⟨"PenLines$OpenReadings", "extend", "(LPenLines$Counts;IIII)V"⟩, 5), (⟨"PenLines$OpenReadings", "offer", "(IIJ)V"⟩, 5), (⟨"PenLines$OpenReadings", "placeFor", "(IIJ)I"⟩, 5), (⟨"PenLines$OpenReadings", "isAhead", "(IJI)Z"⟩, 5), (⟨"PenLines$OpenReadings", "dearest", "(I)I"⟩, 5)]
theorem lw_r1 : ∀ q ∈ lw_privs_1, lw_okq q := List.forall_mem_cons.mpr ⟨lw_p0, List.forall_mem_cons.mpr ⟨lw_p1, List.forall_mem_cons.mpr ⟨lw_p2, List.forall_mem_cons.mpr ⟨lw_p3, List.forall_mem_cons.mpr ⟨lw_p4, List.forall_mem_cons.mpr ⟨lw_p5, List.forall_mem_cons.mpr ⟨lw_p6, List.forall_mem_cons.mpr ⟨lw_p7, List.forall_mem_cons.mpr ⟨lw_p8, List.forall_mem_cons.mpr ⟨lw_p9, List.forall_mem_cons.mpr ⟨lw_p10, List.forall_mem_cons.mpr ⟨lw_p11, List.forall_mem_cons.mpr ⟨lw_p12, List.forall_mem_cons.mpr ⟨lw_p13, List.forall_mem_cons.mpr ⟨lw_p14, List.forall_mem_cons.mpr ⟨lw_p15, fun _ h => absurd h List.not_mem_nil⟩⟩⟩⟩⟩⟩⟩⟩⟩⟩⟩⟩⟩⟩⟩⟩
theorem lw_p16 : lw_okq (⟨"PenLines$OpenReadings", "gatherWhole", "()V"⟩, 5) := ⟨⟨by decide +kernel, by decide +kernel⟩, List.mem_of_getElem? (i := 185) (by decide +kernel), List.mem_of_getElem? (i := 551) (by decide +kernel), List.mem_of_getElem? (i := 552) (by decide +kernel)⟩
theorem lw_p17 : lw_okq (⟨"PenLines$Spelling", "costBy", "(LPenLines$Fits;IIII)I"⟩, 2) := ⟨⟨by decide +kernel, by decide +kernel⟩, List.mem_of_getElem? (i := 207) (by decide +kernel), List.mem_of_getElem? (i := 570) (by decide +kernel), List.mem_of_getElem? (i := 571) (by decide +kernel)⟩
theorem lw_p18 : lw_okq (⟨"PenLines$ListReadings", "insert", "(II)V"⟩, 3) := ⟨⟨by decide +kernel, by decide +kernel⟩, List.mem_of_getElem? (i := 221) (by decide +kernel), List.mem_of_getElem? (i := 576) (by decide +kernel), List.mem_of_getElem? (i := 577) (by decide +kernel)⟩
theorem lw_p19 : lw_okq (⟨"PenLines", "countReading", "(I)V"⟩, 12) := ⟨⟨by decide +kernel, by decide +kernel⟩, List.mem_of_getElem? (i := 15) (by decide +kernel), List.mem_of_getElem? (i := 621) (by decide +kernel), List.mem_of_getElem? (i := 622) (by decide +kernel)⟩
theorem lw_p20 : lw_okq (⟨"PenLines", "kindInHand", "()I"⟩, 12) := ⟨⟨by decide +kernel, by decide +kernel⟩, List.mem_of_getElem? (i := 15) (by decide +kernel), List.mem_of_getElem? (i := 638) (by decide +kernel), List.mem_of_getElem? (i := 639) (by decide +kernel)⟩
theorem lw_p21 : lw_okq (⟨"PenLines", "askSize", "(I)I"⟩, 12) := ⟨⟨by decide +kernel, by decide +kernel⟩, List.mem_of_getElem? (i := 15) (by decide +kernel), List.mem_of_getElem? (i := 650) (by decide +kernel), List.mem_of_getElem? (i := 651) (by decide +kernel)⟩
theorem lw_p22 : lw_okq (⟨"PenLines", "listedSize", "(I)I"⟩, 12) := ⟨⟨by decide +kernel, by decide +kernel⟩, List.mem_of_getElem? (i := 15) (by decide +kernel), List.mem_of_getElem? (i := 654) (by decide +kernel), List.mem_of_getElem? (i := 655) (by decide +kernel)⟩
theorem lw_p23 : lw_okq (⟨"PenLines", "begin", "(I)V"⟩, 12) := ⟨⟨by decide +kernel, by decide +kernel⟩, List.mem_of_getElem? (i := 15) (by decide +kernel), List.mem_of_getElem? (i := 658) (by decide +kernel), List.mem_of_getElem? (i := 659) (by decide +kernel)⟩
theorem lw_p24 : lw_okq (⟨"PenLines", "sureSize", "(I)I"⟩, 12) := ⟨⟨by decide +kernel, by decide +kernel⟩, List.mem_of_getElem? (i := 15) (by decide +kernel), List.mem_of_getElem? (i := 662) (by decide +kernel), List.mem_of_getElem? (i := 663) (by decide +kernel)⟩
theorem lw_p25 : lw_okq (⟨"PenLines", "readSize", "(I)I"⟩, 12) := ⟨⟨by decide +kernel, by decide +kernel⟩, List.mem_of_getElem? (i := 15) (by decide +kernel), List.mem_of_getElem? (i := 666) (by decide +kernel), List.mem_of_getElem? (i := 667) (by decide +kernel)⟩
theorem lw_p26 : lw_okq (⟨"PenLines", "inkSize", "(I)I"⟩, 12) := ⟨⟨by decide +kernel, by decide +kernel⟩, List.mem_of_getElem? (i := 15) (by decide +kernel), List.mem_of_getElem? (i := 670) (by decide +kernel), List.mem_of_getElem? (i := 671) (by decide +kernel)⟩
theorem lw_p27 : lw_okq (⟨"PenLines", "askMark", "(I)I"⟩, 12) := ⟨⟨by decide +kernel, by decide +kernel⟩, List.mem_of_getElem? (i := 15) (by decide +kernel), List.mem_of_getElem? (i := 674) (by decide +kernel), List.mem_of_getElem? (i := 675) (by decide +kernel)⟩
theorem lw_p28 : lw_okq (⟨"PenLines", "listedMark", "(I)I"⟩, 12) := ⟨⟨by decide +kernel, by decide +kernel⟩, List.mem_of_getElem? (i := 15) (by decide +kernel), List.mem_of_getElem? (i := 678) (by decide +kernel), List.mem_of_getElem? (i := 679) (by decide +kernel)⟩
theorem lw_p29 : lw_okq (⟨"PenLines", "sureMark", "(I)I"⟩, 12) := ⟨⟨by decide +kernel, by decide +kernel⟩, List.mem_of_getElem? (i := 15) (by decide +kernel), List.mem_of_getElem? (i := 682) (by decide +kernel), List.mem_of_getElem? (i := 683) (by decide +kernel)⟩
theorem lw_p30 : lw_okq (⟨"PenLines", "inkMark", "(I)I"⟩, 12) := ⟨⟨by decide +kernel, by decide +kernel⟩, List.mem_of_getElem? (i := 15) (by decide +kernel), List.mem_of_getElem? (i := 686) (by decide +kernel), List.mem_of_getElem? (i := 687) (by decide +kernel)⟩
theorem lw_p31 : lw_okq (⟨"PenLines$Counts", "seenFrom", "(II)I"⟩, 9) := ⟨⟨by decide +kernel, by decide +kernel⟩, List.mem_of_getElem? (i := 104) (by decide +kernel), List.mem_of_getElem? (i := 706) (by decide +kernel), List.mem_of_getElem? (i := 707) (by decide +kernel)⟩
def lw_privs_2 : List (MethodName × Nat) := [(⟨"PenLines$OpenReadings", "gatherWhole", "()V"⟩, 5), (⟨"PenLines$Spelling", "costBy", "(LPenLines$Fits;IIII)I"⟩, 2), (⟨"PenLines$ListReadings", "insert", "(II)V"⟩, 3), (⟨"PenLines", "countReading", "(I)V"⟩, 12), (⟨"PenLines", "kindInHand", "()I"⟩, 12), (⟨"PenLines", "askSize", "(I)I"⟩, 12), (⟨"PenLines", "listedSize", "(I)I"⟩, 12), (⟨"PenLines", "begin", "(I)V"⟩, 12), (⟨"PenLines", "sureSize", "(I)I"⟩, 12), (⟨"PenLines", "readSize", "(I)I"⟩, 12), (⟨"PenLines", "inkSize", "(I)I"⟩, 12), (⟨"PenLines", "askMark", "(I)I"⟩, 12), (⟨"PenLines", "listedMark", "(I)I"⟩, 12), (⟨"PenLines", "sureMark", "(I)I"⟩, 12), (⟨"PenLines", "inkMark", "(I)I"⟩, 12), (⟨"PenLines$Counts", "seenFrom", "(II)I"⟩, 9)]
theorem lw_r2 : ∀ q ∈ lw_privs_2, lw_okq q := List.forall_mem_cons.mpr ⟨lw_p16, List.forall_mem_cons.mpr ⟨lw_p17, List.forall_mem_cons.mpr ⟨lw_p18, List.forall_mem_cons.mpr ⟨lw_p19, List.forall_mem_cons.mpr ⟨lw_p20, List.forall_mem_cons.mpr ⟨lw_p21, List.forall_mem_cons.mpr ⟨lw_p22, List.forall_mem_cons.mpr ⟨lw_p23, List.forall_mem_cons.mpr ⟨lw_p24, List.forall_mem_cons.mpr ⟨lw_p25, List.forall_mem_cons.mpr ⟨lw_p26, List.forall_mem_cons.mpr ⟨lw_p27, List.forall_mem_cons.mpr ⟨lw_p28, List.forall_mem_cons.mpr ⟨lw_p29, List.forall_mem_cons.mpr ⟨lw_p30, List.forall_mem_cons.mpr ⟨lw_p31, fun _ h => absurd h List.not_mem_nil⟩⟩⟩⟩⟩⟩⟩⟩⟩⟩⟩⟩⟩⟩⟩⟩
theorem lw_p32 : lw_okq (⟨"PenLinesModel", "finds", "(I)I"⟩, 39) := ⟨⟨by decide +kernel, by decide +kernel⟩, List.mem_of_getElem? (i := 718) (by decide +kernel), List.mem_of_getElem? (i := 856) (by decide +kernel), List.mem_of_getElem? (i := 857) (by decide +kernel)⟩
theorem lw_p33 : lw_okq (⟨"PenLinesModel", "well", "(I)I"⟩, 39) := ⟨⟨by decide +kernel, by decide +kernel⟩, List.mem_of_getElem? (i := 718) (by decide +kernel), List.mem_of_getElem? (i := 861) (by decide +kernel), List.mem_of_getElem? (i := 862) (by decide +kernel)⟩
theorem lw_p34 : lw_okq (⟨"PenLinesModel", "partLine", "()V"⟩, 39) := ⟨⟨by decide +kernel, by decide +kernel⟩, List.mem_of_getElem? (i := 718) (by decide +kernel), List.mem_of_getElem? (i := 884) (by decide +kernel), List.mem_of_getElem? (i := 885) (by decide +kernel)⟩
theorem lw_p35 : lw_okq (⟨"PenLinesModel", "forget", "()V"⟩, 39) := ⟨⟨by decide +kernel, by decide +kernel⟩, List.mem_of_getElem? (i := 718) (by decide +kernel), List.mem_of_getElem? (i := 888) (by decide +kernel), List.mem_of_getElem? (i := 889) (by decide +kernel)⟩
theorem lw_p36 : lw_okq (⟨"PenLinesModel", "away", "(II)I"⟩, 39) := ⟨⟨by decide +kernel, by decide +kernel⟩, List.mem_of_getElem? (i := 718) (by decide +kernel), List.mem_of_getElem? (i := 892) (by decide +kernel), List.mem_of_getElem? (i := 893) (by decide +kernel)⟩
theorem lw_p37 : lw_okq (⟨"PenLinesModel", "isInk", "(I)Z"⟩, 39) := ⟨⟨by decide +kernel, by decide +kernel⟩, List.mem_of_getElem? (i := 718) (by decide +kernel), List.mem_of_getElem? (i := 905) (by decide +kernel), List.mem_of_getElem? (i := 906) (by decide +kernel)⟩
theorem lw_p38 : lw_okq (⟨"PenLinesModel", "many", "(I)I"⟩, 39) := ⟨⟨by decide +kernel, by decide +kernel⟩, List.mem_of_getElem? (i := 718) (by decide +kernel), List.mem_of_getElem? (i := 909) (by decide +kernel), List.mem_of_getElem? (i := 910) (by decide +kernel)⟩
theorem lw_p39 : lw_okq (⟨"PenLinesModel", "raise", "(II)I"⟩, 39) := ⟨⟨by decide +kernel, by decide +kernel⟩, List.mem_of_getElem? (i := 718) (by decide +kernel), List.mem_of_getElem? (i := 938) (by decide +kernel), List.mem_of_getElem? (i := 939) (by decide +kernel)⟩
theorem lw_p40 : lw_okq (⟨"PenLinesModel", "inList", "()I"⟩, 39) := ⟨⟨by decide +kernel, by decide +kernel⟩, List.mem_of_getElem? (i := 718) (by decide +kernel), List.mem_of_getElem? (i := 960) (by decide +kernel), List.mem_of_getElem? (i := 961) (by decide +kernel)⟩
theorem lw_p41 : lw_okq (⟨"PenLinesModel", "spell", "(I[III)I"⟩, 39) := ⟨⟨by decide +kernel, by decide +kernel⟩, List.mem_of_getElem? (i := 718) (by decide +kernel), List.mem_of_getElem? (i := 974) (by decide +kernel), List.mem_of_getElem? (i := 975) (by decide +kernel)⟩
theorem lw_p42 : lw_okq (⟨"PenLinesModel", "cost", "(III)I"⟩, 39) := ⟨⟨by decide +kernel, by decide +kernel⟩, List.mem_of_getElem? (i := 718) (by decide +kernel), List.mem_of_getElem? (i := 979) (by decide +kernel), List.mem_of_getElem? (i := 980) (by decide +kernel)⟩
theorem lw_p43 : lw_okq (⟨"PenLinesModel", "know", "(I)V"⟩, 39) := ⟨⟨by decide +kernel, by decide +kernel⟩, List.mem_of_getElem? (i := 718) (by decide +kernel), List.mem_of_getElem? (i := 989) (by decide +kernel), List.mem_of_getElem? (i := 990) (by decide +kernel)⟩
theorem lw_p44 : lw_okq (⟨"PenLinesModel", "goOn", "(IIII)V"⟩, 39) := ⟨⟨by decide +kernel, by decide +kernel⟩, List.mem_of_getElem? (i := 718) (by decide +kernel), List.mem_of_getElem? (i := 993) (by decide +kernel), List.mem_of_getElem? (i := 994) (by decide +kernel)⟩
theorem lw_p45 : lw_okq (⟨"PenLinesModel", "hold", "(IIJ)V"⟩, 39) := ⟨⟨by decide +kernel, by decide +kernel⟩, List.mem_of_getElem? (i := 718) (by decide +kernel), List.mem_of_getElem? (i := 1000) (by decide +kernel), List.mem_of_getElem? (i := 1001) (by decide +kernel)⟩
theorem lw_p46 : lw_okq (⟨"PenLinesModel", "keep", "(IIJI)V"⟩, 39) := ⟨⟨by decide +kernel, by decide +kernel⟩, List.mem_of_getElem? (i := 718) (by decide +kernel), List.mem_of_getElem? (i := 1004) (by decide +kernel), List.mem_of_getElem? (i := 1005) (by decide +kernel)⟩
theorem lw_p47 : lw_okq (⟨"PenLinesModel", "wordCode", "()J"⟩, 39) := ⟨⟨by decide +kernel, by decide +kernel⟩, List.mem_of_getElem? (i := 718) (by decide +kernel), List.mem_of_getElem? (i := 1016) (by decide +kernel), List.mem_of_getElem? (i := 1017) (by decide +kernel)⟩
def lw_privs_3 : List (MethodName × Nat) := [(⟨"PenLinesModel", "finds", "(I)I"⟩, 39), (⟨"PenLinesModel", "well", "(I)I"⟩, 39), (⟨"PenLinesModel", "partLine", "()V"⟩, 39), (⟨"PenLinesModel", "forget", "()V"⟩, 39), (⟨"PenLinesModel", "away", "(II)I"⟩, 39), (⟨"PenLinesModel", "isInk", "(I)Z"⟩, 39), (⟨"PenLinesModel", "many", "(I)I"⟩, 39), (⟨"PenLinesModel", "raise", "(II)I"⟩, 39), (⟨"PenLinesModel", "inList", "()I"⟩, 39), (⟨"PenLinesModel", "spell", "(I[III)I"⟩, 39), (⟨"PenLinesModel", "cost", "(III)I"⟩, 39), (⟨"PenLinesModel", "know", "(I)V"⟩, 39), (⟨"PenLinesModel", "goOn", "(IIII)V"⟩, 39), (⟨"PenLinesModel", "hold", "(IIJ)V"⟩, 39), (⟨"PenLinesModel", "keep", "(IIJI)V"⟩, 39), (⟨"PenLinesModel", "wordCode", "()J"⟩, 39)]
theorem lw_r3 : ∀ q ∈ lw_privs_3, lw_okq q := List.forall_mem_cons.mpr ⟨lw_p32, List.forall_mem_cons.mpr ⟨lw_p33, List.forall_mem_cons.mpr ⟨lw_p34, List.forall_mem_cons.mpr ⟨lw_p35, List.forall_mem_cons.mpr ⟨lw_p36, List.forall_mem_cons.mpr ⟨lw_p37, List.forall_mem_cons.mpr ⟨lw_p38, List.forall_mem_cons.mpr ⟨lw_p39, List.forall_mem_cons.mpr ⟨lw_p40, List.forall_mem_cons.mpr ⟨lw_p41, List.forall_mem_cons.mpr ⟨lw_p42, List.forall_mem_cons.mpr ⟨lw_p43, List.forall_mem_cons.mpr ⟨lw_p44, List.forall_mem_cons.mpr ⟨lw_p45, List.forall_mem_cons.mpr ⟨lw_p46, List.forall_mem_cons.mpr ⟨lw_p47, fun _ h => absurd h List.not_mem_nil⟩⟩⟩⟩⟩⟩⟩⟩⟩⟩⟩⟩⟩⟩⟩⟩
theorem lw_p48 : lw_okq (⟨"PenLinesModel", "isBest", "(IIII)Z"⟩, 39) := ⟨⟨by decide +kernel, by decide +kernel⟩, List.mem_of_getElem? (i := 718) (by decide +kernel), List.mem_of_getElem? (i := 1024) (by decide +kernel), List.mem_of_getElem? (i := 1025) (by decide +kernel)⟩
theorem lw_p49 : lw_okq (⟨"PenLinesModel", "kindOf", "(I)I"⟩, 39) := ⟨⟨by decide +kernel, by decide +kernel⟩, List.mem_of_getElem? (i := 718) (by decide +kernel), List.mem_of_getElem? (i := 1036) (by decide +kernel), List.mem_of_getElem? (i := 1037) (by decide +kernel)⟩
theorem lw_p50 : lw_okq (⟨"PenLinesModel", "firstInList", "(I)I"⟩, 39) := ⟨⟨by decide +kernel, by decide +kernel⟩, List.mem_of_getElem? (i := 718) (by decide +kernel), List.mem_of_getElem? (i := 1040) (by decide +kernel), List.mem_of_getElem? (i := 1041) (by decide +kernel)⟩
theorem lw_p51 : lw_okq (⟨"PenLinesModel", "sizeOf", "(I)I"⟩, 39) := ⟨⟨by decide +kernel, by decide +kernel⟩, List.mem_of_getElem? (i := 718) (by decide +kernel), List.mem_of_getElem? (i := 1052) (by decide +kernel), List.mem_of_getElem? (i := 1053) (by decide +kernel)⟩
theorem lw_p52 : lw_okq (⟨"PenLinesModel", "begins", "(I)V"⟩, 39) := ⟨⟨by decide +kernel, by decide +kernel⟩, List.mem_of_getElem? (i := 718) (by decide +kernel), List.mem_of_getElem? (i := 1056) (by decide +kernel), List.mem_of_getElem? (i := 1057) (by decide +kernel)⟩
theorem lw_p53 : lw_okq (⟨"PenLinesModel", "mark", "(I)I"⟩, 39) := ⟨⟨by decide +kernel, by decide +kernel⟩, List.mem_of_getElem? (i := 718) (by decide +kernel), List.mem_of_getElem? (i := 1060) (by decide +kernel), List.mem_of_getElem? (i := 1061) (by decide +kernel)⟩
def lw_privs_4 : List (MethodName × Nat) := [(⟨"PenLinesModel", "isBest", "(IIII)Z"⟩, 39), (⟨"PenLinesModel", "kindOf", "(I)I"⟩, 39), (⟨"PenLinesModel", "firstInList", "(I)I"⟩, 39), (⟨"PenLinesModel", "sizeOf", "(I)I"⟩, 39), (⟨"PenLinesModel", "begins", "(I)V"⟩, 39), (⟨"PenLinesModel", "mark", "(I)I"⟩, 39)]
theorem lw_r4 : ∀ q ∈ lw_privs_4, lw_okq q := List.forall_mem_cons.mpr ⟨lw_p48, List.forall_mem_cons.mpr ⟨lw_p49, List.forall_mem_cons.mpr ⟨lw_p50, List.forall_mem_cons.mpr ⟨lw_p51, List.forall_mem_cons.mpr ⟨lw_p52, List.forall_mem_cons.mpr ⟨lw_p53, fun _ h => absurd h List.not_mem_nil⟩⟩⟩⟩⟩⟩
def lw_privs : List (MethodName × Nat) := lw_privs_1 ++ (lw_privs_2 ++ (lw_privs_3 ++ (lw_privs_4)))
def lw_tbl : List Cond := k2_sels lw_privs ++ tables_1
theorem lw_privs_ok : ∀ q ∈ lw_privs, lw_okq q := by
  show ∀ q ∈ lw_privs_1 ++ (lw_privs_2 ++ (lw_privs_3 ++ (lw_privs_4))), lw_okq q
  exact List.forall_mem_append.mpr ⟨lw_r1, List.forall_mem_append.mpr ⟨lw_r2, List.forall_mem_append.mpr ⟨lw_r3, lw_r4⟩⟩⟩
def RX0 : String := "PenLines$Counts"
def TX0 : u_T := fun k => match k with
  | 0 => ("PenLines$Counts", "counts", "[I", true)
  | 1 => ("PenLines$Counts", "formLetters", "[I", true)
  | 2 => ("PenLines$Counts", "formRows", "[I", true)
  | 3 => ("PenLines$Counts", "forms", "I", false)
  | 4 => ("PenLines$Counts", "undoSlots", "[I", true)
  | 5 => ("PenLines$Counts", "undoCounts", "[I", true)
  | 6 => ("PenLines$Counts", "undos", "I", false)
  | 7 => ("PenLines$Counts", "undosAhead", "[I", true)
  | _ => ("PenLines$Counts", "teachings", "I", false)
def tyX0 : Nat → FieldType := fun k => match k with
  | 0 => .array .int
  | 1 => .array .int
  | 2 => .array .int
  | 3 => .int
  | 4 => .array .int
  | 5 => .array .int
  | 6 => .int
  | 7 => .array .int
  | _ => .int
theorem nmX0 : ∀ a, a < 9 → ∀ b, b < 9 → a ≠ b → (TX0 a).2.1 ≠ (TX0 b).2.1 := by decide +kernel
theorem tyX0_ok : ∀ k, k < 9 → parseFieldDescriptor (TX0 k).2.2.1 = some (tyX0 k) := by decide +kernel
def RX1 : String := "PenLines$Fits"
def TX1 : u_T := fun k => match k with
  | 0 => ("PenLines$Fits", "costs", "[I", true)
  | _ => ("PenLines$Fits", "pieces", "I", false)
def tyX1 : Nat → FieldType := fun k => match k with
  | 0 => .array .int
  | _ => .int
theorem nmX1 : ∀ a, a < 2 → ∀ b, b < 2 → a ≠ b → (TX1 a).2.1 ≠ (TX1 b).2.1 := by decide +kernel
theorem tyX1_ok : ∀ k, k < 2 → parseFieldDescriptor (TX1 k).2.2.1 = some (tyX1 k) := by decide +kernel
def RX2 : String := "PenLines$Line"
def TX2 : u_T := fun k => match k with
  | 0 => ("PenLines$Line", "writtenXs", "[I", true)
  | 1 => ("PenLines$Line", "writtenShapes", "[I", true)
  | 2 => ("PenLines$Line", "written", "I", false)
  | 3 => ("PenLines$Line", "gap", "I", false)
  | 4 => ("PenLines$Line", "xs", "[I", true)
  | 5 => ("PenLines$Line", "shapes", "[I", true)
  | 6 => ("PenLines$Line", "dotsOn", "[I", true)
  | 7 => ("PenLines$Line", "pieces", "I", false)
  | 8 => ("PenLines$Line", "firsts", "[I", true)
  | 9 => ("PenLines$Line", "dotsIn", "[I", true)
  | 10 => ("PenLines$Line", "inks", "I", false)
  | _ => ("PenLines$Line", "looseDots", "I", false)
def tyX2 : Nat → FieldType := fun k => match k with
  | 0 => .array .int
  | 1 => .array .int
  | 2 => .int
  | 3 => .int
  | 4 => .array .int
  | 5 => .array .int
  | 6 => .array .int
  | 7 => .int
  | 8 => .array .int
  | 9 => .array .int
  | 10 => .int
  | _ => .int
theorem nmX2 : ∀ a, a < 12 → ∀ b, b < 12 → a ≠ b → (TX2 a).2.1 ≠ (TX2 b).2.1 := by decide +kernel
theorem tyX2_ok : ∀ k, k < 12 → parseFieldDescriptor (TX2 k).2.2.1 = some (tyX2 k) := by decide +kernel
def RX3 : String := "PenLines$ListReadings"
def TX3 : u_T := fun k => match k with
  | 0 => ("PenLines$ListReadings", "places", "[I", true)
  | 1 => ("PenLines$ListReadings", "costs", "[I", true)
  | _ => ("PenLines$ListReadings", "many", "I", false)
def tyX3 : Nat → FieldType := fun k => match k with
  | 0 => .array .int
  | 1 => .array .int
  | _ => .int
theorem nmX3 : ∀ a, a < 3 → ∀ b, b < 3 → a ≠ b → (TX3 a).2.1 ≠ (TX3 b).2.1 := by decide +kernel
theorem tyX3_ok : ∀ k, k < 3 → parseFieldDescriptor (TX3 k).2.2.1 = some (tyX3 k) := by decide +kernel
def RX4 : String := "PenLines$OpenReadings"
def TX4 : u_T := fun k => match k with
  | 0 => ("PenLines$OpenReadings", "held", "[I", true)
  | 1 => ("PenLines$OpenReadings", "costs", "[I", true)
  | 2 => ("PenLines$OpenReadings", "rests", "[J", true)
  | 3 => ("PenLines$OpenReadings", "pieces", "I", false)
  | _ => ("PenLines$OpenReadings", "toSave", "I", false)
def tyX4 : Nat → FieldType := fun k => match k with
  | 0 => .array .int
  | 1 => .array .int
  | 2 => .array .long
  | 3 => .int
  | _ => .int
theorem nmX4 : ∀ a, a < 5 → ∀ b, b < 5 → a ≠ b → (TX4 a).2.1 ≠ (TX4 b).2.1 := by decide +kernel
theorem tyX4_ok : ∀ k, k < 5 → parseFieldDescriptor (TX4 k).2.2.1 = some (tyX4 k) := by decide +kernel
def RX5 : String := "PenLines$Sheets"
def TX5 : u_T := fun k => match k with
  | 0 => ("PenLines$Sheets", "laid", "[Z", true)
  | 1 => ("PenLines$Sheets", "lanes", "[I", true)
  | 2 => ("PenLines$Sheets", "sizes", "[I", true)
  | _ => ("PenLines$Sheets", "items", "[[I", true)
def tyX5 : Nat → FieldType := fun k => match k with
  | 0 => .array .boolean
  | 1 => .array .int
  | 2 => .array .int
  | _ => .array (.array .int)
theorem nmX5 : ∀ a, a < 4 → ∀ b, b < 4 → a ≠ b → (TX5 a).2.1 ≠ (TX5 b).2.1 := by decide +kernel
theorem tyX5_ok : ∀ k, k < 4 → parseFieldDescriptor (TX5 k).2.2.1 = some (tyX5 k) := by decide +kernel
def RX6 : String := "PenLines$Spelling"
def TX6 : u_T := fun k => match k with
  | 0 => ("PenLines$Spelling", "least", "[I", true)
  | _ => ("PenLines$Spelling", "rows", "[I", true)
def tyX6 : Nat → FieldType := fun k => match k with
  | 0 => .array .int
  | _ => .array .int
theorem nmX6 : ∀ a, a < 2 → ∀ b, b < 2 → a ≠ b → (TX6 a).2.1 ≠ (TX6 b).2.1 := by decide +kernel
theorem tyX6_ok : ∀ k, k < 2 → parseFieldDescriptor (TX6 k).2.2.1 = some (tyX6 k) := by decide +kernel
def RX7 : String := "PenLines$Words"
def TX7 : u_T := fun k => match k with
  | 0 => ("PenLines$Words", "word", "J", false)
  | 1 => ("PenLines$Words", "letters", "I", false)
  | 2 => ("PenLines$Words", "inList", "[J", true)
  | _ => ("PenLines$Words", "listMany", "I", false)
def tyX7 : Nat → FieldType := fun k => match k with
  | 0 => .long
  | 1 => .int
  | 2 => .array .long
  | _ => .int
theorem nmX7 : ∀ a, a < 4 → ∀ b, b < 4 → a ≠ b → (TX7 a).2.1 ≠ (TX7 b).2.1 := by decide +kernel
theorem tyX7_ok : ∀ k, k < 4 → parseFieldDescriptor (TX7 k).2.2.1 = some (tyX7 k) := by decide +kernel
def RX8 : String := "PenLines"
def TX8 : u_T := fun k => match k with
  | 0 => ("PenLines", "sheets", "LPenLines$Sheets;", true)
  | 1 => ("PenLines", "line", "LPenLines$Line;", true)
  | 2 => ("PenLines", "counts", "LPenLines$Counts;", true)
  | 3 => ("PenLines", "words", "LPenLines$Words;", true)
  | 4 => ("PenLines", "inHand", "I", false)
  | 5 => ("PenLines", "fits", "LPenLines$Fits;", true)
  | 6 => ("PenLines", "openReadings", "LPenLines$OpenReadings;", true)
  | 7 => ("PenLines", "spelling", "LPenLines$Spelling;", true)
  | 8 => ("PenLines", "listReadings", "LPenLines$ListReadings;", true)
  | 9 => ("PenLines", "begun", "[I", true)
  | 10 => ("PenLines", "begunMany", "I", false)
  | _ => ("PenLines", "latestFinding", "I", false)
def tyX8 : Nat → FieldType := fun k => match k with
  | 0 => .object "PenLines$Sheets"
  | 1 => .object "PenLines$Line"
  | 2 => .object "PenLines$Counts"
  | 3 => .object "PenLines$Words"
  | 4 => .int
  | 5 => .object "PenLines$Fits"
  | 6 => .object "PenLines$OpenReadings"
  | 7 => .object "PenLines$Spelling"
  | 8 => .object "PenLines$ListReadings"
  | 9 => .array .int
  | 10 => .int
  | _ => .int
theorem nmX8 : ∀ a, a < 12 → ∀ b, b < 12 → a ≠ b → (TX8 a).2.1 ≠ (TX8 b).2.1 := by decide +kernel
theorem tyX8_ok : ∀ k, k < 12 → parseFieldDescriptor (TX8 k).2.2.1 = some (tyX8 k) := by decide +kernel
def RX9 : String := "PenLinesModel"
def TX9 : u_T := fun k => match k with
  | 0 => ("PenLinesModel", "lane", "[I", true)
  | 1 => ("PenLinesModel", "size", "[I", true)
  | 2 => ("PenLinesModel", "item", "[I", true)
  | 3 => ("PenLinesModel", "moving", "[I", true)
  | 4 => ("PenLinesModel", "status", "I", false)
  | 5 => ("PenLinesModel", "pieces", "I", false)
  | 6 => ("PenLinesModel", "x", "[I", true)
  | 7 => ("PenLinesModel", "shape", "[I", true)
  | 8 => ("PenLinesModel", "joined", "[I", true)
  | 9 => ("PenLinesModel", "dots", "I", false)
  | 10 => ("PenLinesModel", "dotX", "[I", true)
  | 11 => ("PenLinesModel", "loose", "I", false)
  | 12 => ("PenLinesModel", "gap", "I", false)
  | 13 => ("PenLinesModel", "inks", "I", false)
  | 14 => ("PenLinesModel", "first", "[I", true)
  | 15 => ("PenLinesModel", "inkDots", "[I", true)
  | 16 => ("PenLinesModel", "count", "[I", true)
  | 17 => ("PenLinesModel", "written", "I", false)
  | 18 => ("PenLinesModel", "changed", "[I", true)
  | 19 => ("PenLinesModel", "had", "[I", true)
  | 20 => ("PenLinesModel", "taught", "I", false)
  | 21 => ("PenLinesModel", "from", "[I", true)
  | 22 => ("PenLinesModel", "listed", "I", false)
  | 23 => ("PenLinesModel", "listLength", "[I", true)
  | 24 => ("PenLinesModel", "listLetter", "[I", true)
  | 25 => ("PenLinesModel", "letters", "I", false)
  | 26 => ("PenLinesModel", "word", "[I", true)
  | 27 => ("PenLinesModel", "trace", "[I", true)
  | 28 => ("PenLinesModel", "traced", "I", false)
  | 29 => ("PenLinesModel", "isKnown", "[Z", true)
  | 30 => ("PenLinesModel", "readings", "[I", true)
  | 31 => ("PenLinesModel", "readCost", "[I", true)
  | 32 => ("PenLinesModel", "readCode", "[J", true)
  | 33 => ("PenLinesModel", "readLength", "[I", true)
  | 34 => ("PenLinesModel", "least", "[I", true)
  | 35 => ("PenLinesModel", "held", "[I", true)
  | 36 => ("PenLinesModel", "heldCost", "[I", true)
  | 37 => ("PenLinesModel", "heldCode", "[J", true)
  | _ => ("PenLinesModel", "rowLength", "[I", true)
def tyX9 : Nat → FieldType := fun k => match k with
  | 0 => .array .int
  | 1 => .array .int
  | 2 => .array .int
  | 3 => .array .int
  | 4 => .int
  | 5 => .int
  | 6 => .array .int
  | 7 => .array .int
  | 8 => .array .int
  | 9 => .int
  | 10 => .array .int
  | 11 => .int
  | 12 => .int
  | 13 => .int
  | 14 => .array .int
  | 15 => .array .int
  | 16 => .array .int
  | 17 => .int
  | 18 => .array .int
  | 19 => .array .int
  | 20 => .int
  | 21 => .array .int
  | 22 => .int
  | 23 => .array .int
  | 24 => .array .int
  | 25 => .int
  | 26 => .array .int
  | 27 => .array .int
  | 28 => .int
  | 29 => .array .boolean
  | 30 => .array .int
  | 31 => .array .int
  | 32 => .array .long
  | 33 => .array .int
  | 34 => .array .int
  | 35 => .array .int
  | 36 => .array .int
  | 37 => .array .long
  | _ => .array .int
theorem nmX9 : ∀ a, a < 39 → ∀ b, b < 39 → a ≠ b → (TX9 a).2.1 ≠ (TX9 b).2.1 := by decide +kernel
theorem tyX9_ok : ∀ k, k < 39 → parseFieldDescriptor (TX9 k).2.2.1 = some (tyX9 k) := by decide +kernel
def RJ7 : String := "java/util/Arrays"
def RL : String := "PenLinesLaw"
abbrev cX0_slotOf : ByteArray := prog_2_method_2_code
def yX0_slotOf : MethodName := ⟨RX0, "slotOf", "(II)I"⟩
abbrev cX0_slotMadeFor : ByteArray := prog_2_method_3_code
def yX0_slotMadeFor : MethodName := ⟨RX0, "slotMadeFor", "(II)I"⟩
abbrev cX0_raise : ByteArray := prog_2_method_4_code
def yX0_raise : MethodName := ⟨RX0, "raise", "(II)I"⟩
abbrev cX0_beginTeaching : ByteArray := prog_2_method_5_code
def yX0_beginTeaching : MethodName := ⟨RX0, "beginTeaching", "()V"⟩
abbrev cX0_undoTeaching : ByteArray := prog_2_method_6_code
def yX0_undoTeaching : MethodName := ⟨RX0, "undoTeaching", "()V"⟩
abbrev cX0_pairCost : ByteArray := prog_2_method_7_code
def yX0_pairCost : MethodName := ⟨RX0, "pairCost", "(II)I"⟩
abbrev cX0_formsSeen : ByteArray := prog_2_method_8_code
def yX0_formsSeen : MethodName := ⟨RX0, "formsSeen", "()I"⟩
abbrev cX0_pairsSeen : ByteArray := prog_2_method_9_code
def yX0_pairsSeen : MethodName := ⟨RX0, "pairsSeen", "()I"⟩
abbrev cX0_seenFrom : ByteArray := prog_2_method_10_code
def yX0_seenFrom : MethodName := ⟨RX0, "seenFrom", "(II)I"⟩
abbrev cX1_take : ByteArray := prog_3_method_2_code
def yX1_take : MethodName := ⟨RX1, "take", "(LPenLines$Line;ILPenLines$Counts;)V"⟩
abbrev cX1_takeRow : ByteArray := prog_3_method_3_code
def yX1_takeRow : MethodName := ⟨RX1, "takeRow", "(LPenLines$Counts;IIZ)V"⟩
abbrev cX1_dotCost : ByteArray := prog_3_method_4_code
def yX1_dotCost : MethodName := ⟨RX1, "dotCost", "(IZ)I"⟩
abbrev cX1_place : ByteArray := prog_3_method_5_code
def yX1_place : MethodName := ⟨RX1, "place", "(III)I"⟩
abbrev cX1_cost : ByteArray := prog_3_method_6_code
def yX1_cost : MethodName := ⟨RX1, "cost", "(III)I"⟩
abbrev cX2_write : ByteArray := prog_4_method_2_code
def yX2_write : MethodName := ⟨RX2, "write", "([III)V"⟩
abbrev cX2_part : ByteArray := prog_4_method_3_code
def yX2_part : MethodName := ⟨RX2, "part", "()V"⟩
abbrev cX2_gatherPieces : ByteArray := prog_4_method_4_code
def yX2_gatherPieces : MethodName := ⟨RX2, "gatherPieces", "()V"⟩
abbrev cX2_beginInks : ByteArray := prog_4_method_5_code
def yX2_beginInks : MethodName := ⟨RX2, "beginInks", "()V"⟩
abbrev cX2_joinDots : ByteArray := prog_4_method_6_code
def yX2_joinDots : MethodName := ⟨RX2, "joinDots", "()V"⟩
abbrev cX2_inkUnder : ByteArray := prog_4_method_7_code
def yX2_inkUnder : MethodName := ⟨RX2, "inkUnder", "(I)I"⟩
abbrev cX2_nearestPiece : ByteArray := prog_4_method_8_code
def yX2_nearestPiece : MethodName := ⟨RX2, "nearestPiece", "(II)I"⟩
abbrev cX2_piecesOf : ByteArray := prog_4_method_9_code
def yX2_piecesOf : MethodName := ⟨RX2, "piecesOf", "(I)I"⟩
abbrev cX2_rowCodeAt : ByteArray := prog_4_method_10_code
def yX2_rowCodeAt : MethodName := ⟨RX2, "rowCodeAt", "(II)I"⟩
abbrev cX2_hasDot : ByteArray := prog_4_method_11_code
def yX2_hasDot : MethodName := ⟨RX2, "hasDot", "(II)Z"⟩
abbrev cX3_read : ByteArray := prog_5_method_2_code
def yX3_read : MethodName := ⟨RX3, "read", "(LPenLines$Fits;LPenLines$Words;LPenLines$Spelling;)V"⟩
abbrev cX3_insert : ByteArray := prog_5_method_3_code
def yX3_insert : MethodName := ⟨RX3, "insert", "(II)V"⟩
abbrev cX4_read : ByteArray := prog_6_method_2_code
def yX4_read : MethodName := ⟨RX4, "read", "(LPenLines$Fits;LPenLines$Counts;)V"⟩
abbrev cX4_heap : ByteArray := prog_6_method_3_code
def yX4_heap : MethodName := ⟨RX4, "heap", "(III)I"⟩
abbrev cX4_clear : ByteArray := prog_6_method_4_code
def yX4_clear : MethodName := ⟨RX4, "clear", "(I)V"⟩
abbrev cX4_extend : ByteArray := prog_6_method_5_code
def yX4_extend : MethodName := ⟨RX4, "extend", "(LPenLines$Counts;IIII)V"⟩
abbrev cX4_dearest : ByteArray := prog_6_method_6_code
def yX4_dearest : MethodName := ⟨RX4, "dearest", "(I)I"⟩
abbrev cX4_gatherWhole : ByteArray := prog_6_method_7_code
def yX4_gatherWhole : MethodName := ⟨RX4, "gatherWhole", "()V"⟩
abbrev cX4_offer : ByteArray := prog_6_method_8_code
def yX4_offer : MethodName := ⟨RX4, "offer", "(IIJ)V"⟩
abbrev cX4_placeFor : ByteArray := prog_6_method_9_code
def yX4_placeFor : MethodName := ⟨RX4, "placeFor", "(IIJ)I"⟩
abbrev cX4_isAhead : ByteArray := prog_6_method_10_code
def yX4_isAhead : MethodName := ⟨RX4, "isAhead", "(IJI)Z"⟩
abbrev cX4_told : ByteArray := prog_6_method_11_code
def yX4_told : MethodName := ⟨RX4, "told", "()I"⟩
abbrev cX4_cost : ByteArray := prog_6_method_12_code
def yX4_cost : MethodName := ⟨RX4, "cost", "(I)I"⟩
abbrev cX4_word : ByteArray := prog_6_method_13_code
def yX4_word : MethodName := ⟨RX4, "word", "(I)J"⟩
abbrev cX4_tell : ByteArray := prog_6_method_14_code
def yX4_tell : MethodName := ⟨RX4, "tell", "(J)Z"⟩
abbrev cX5_lay : ByteArray := prog_7_method_2_code
def yX5_lay : MethodName := ⟨RX5, "lay", "(III)V"⟩
abbrev cX5_reaches : ByteArray := prog_7_method_3_code
def yX5_reaches : MethodName := ⟨RX5, "reaches", "(III)Z"⟩
abbrev cX5_put : ByteArray := prog_7_method_4_code
def yX5_put : MethodName := ⟨RX5, "put", "(III)I"⟩
abbrev cX5_holdsPieces : ByteArray := prog_7_method_5_code
def yX5_holdsPieces : MethodName := ⟨RX5, "holdsPieces", "(III)Z"⟩
abbrev cX5_many : ByteArray := prog_7_method_6_code
def yX5_many : MethodName := ⟨RX5, "many", "()I"⟩
abbrev cX6_cost : ByteArray := prog_8_method_2_code
def yX6_cost : MethodName := ⟨RX6, "cost", "(LPenLines$Fits;J)I"⟩
abbrev cX6_costBy : ByteArray := prog_8_method_3_code
def yX6_costBy : MethodName := ⟨RX6, "costBy", "(LPenLines$Fits;IIII)I"⟩
abbrev cX6_chooseRows : ByteArray := prog_8_method_4_code
def yX6_chooseRows : MethodName := ⟨RX6, "chooseRows", "(LPenLines$Fits;J)V"⟩
abbrev cX7_append : ByteArray := prog_9_method_2_code
def yX7_append : MethodName := ⟨RX7, "append", "(I)V"⟩
abbrev cX7_clear : ByteArray := prog_9_method_3_code
def yX7_clear : MethodName := ⟨RX7, "clear", "()I"⟩
abbrev cX7_placeOf : ByteArray := prog_9_method_4_code
def yX7_placeOf : MethodName := ⟨RX7, "placeOf", "(J)I"⟩
abbrev cX8_sheet : ByteArray := prog_1_method_2_code
def yX8_sheet : MethodName := ⟨RX8, "sheet", "(III)I"⟩
abbrev cX8_set : ByteArray := prog_1_method_3_code
def yX8_set : MethodName := ⟨RX8, "set", "(III)I"⟩
abbrev cX8_copy : ByteArray := prog_1_method_4_code
def yX8_copy : MethodName := ⟨RX8, "copy", "(IIIII)I"⟩
abbrev cX8_drop : ByteArray := prog_1_method_5_code
def yX8_drop : MethodName := ⟨RX8, "drop", "(I)I"⟩
abbrev cX8_line : ByteArray := prog_1_method_6_code
def yX8_line : MethodName := ⟨RX8, "line", "(III)I"⟩
abbrev cX8_gap : ByteArray := prog_1_method_7_code
def yX8_gap : MethodName := ⟨RX8, "gap", "(I)I"⟩
abbrev cX8_ink : ByteArray := prog_1_method_8_code
def yX8_ink : MethodName := ⟨RX8, "ink", "(II)I"⟩
abbrev cX8_piece : ByteArray := prog_1_method_9_code
def yX8_piece : MethodName := ⟨RX8, "piece", "(III)I"⟩
abbrev cX8_loose : ByteArray := prog_1_method_10_code
def yX8_loose : MethodName := ⟨RX8, "loose", "()I"⟩
abbrev cX8_form : ByteArray := prog_1_method_11_code
def yX8_form : MethodName := ⟨RX8, "form", "(IIIIII)I"⟩
abbrev cX8_seen : ByteArray := prog_1_method_12_code
def yX8_seen : MethodName := ⟨RX8, "seen", "(IIIII)I"⟩
abbrev cX8_pair : ByteArray := prog_1_method_13_code
def yX8_pair : MethodName := ⟨RX8, "pair", "(III)I"⟩
abbrev cX8_letter : ByteArray := prog_1_method_14_code
def yX8_letter : MethodName := ⟨RX8, "letter", "(I)I"⟩
abbrev cX8_list : ByteArray := prog_1_method_15_code
def yX8_list : MethodName := ⟨RX8, "list", "()I"⟩
abbrev cX8_wipe : ByteArray := prog_1_method_16_code
def yX8_wipe : MethodName := ⟨RX8, "wipe", "()I"⟩
abbrev cX8_listed : ByteArray := prog_1_method_17_code
def yX8_listed : MethodName := ⟨RX8, "listed", "(III)I"⟩
abbrev cX8_open : ByteArray := prog_1_method_18_code
def yX8_open : MethodName := ⟨RX8, "open", "(III)I"⟩
abbrev cX8_find : ByteArray := prog_1_method_19_code
def yX8_find : MethodName := ⟨RX8, "find", "(I)I"⟩
abbrev cX8_teach : ByteArray := prog_1_method_20_code
def yX8_teach : MethodName := ⟨RX8, "teach", "(I)I"⟩
abbrev cX8_unteach : ByteArray := prog_1_method_21_code
def yX8_unteach : MethodName := ⟨RX8, "unteach", "()I"⟩
abbrev cX8_kind : ByteArray := prog_1_method_22_code
def yX8_kind : MethodName := ⟨RX8, "kind", "(I)I"⟩
abbrev cX8_as : ByteArray := prog_1_method_23_code
def yX8_as : MethodName := ⟨RX8, "as", "(II)I"⟩
abbrev cX8_ask : ByteArray := prog_1_method_24_code
def yX8_ask : MethodName := ⟨RX8, "ask", "(II)I"⟩
abbrev cX8_trace : ByteArray := prog_1_method_25_code
def yX8_trace : MethodName := ⟨RX8, "trace", "(I)I"⟩
abbrev cX8_count : ByteArray := prog_1_method_26_code
def yX8_count : MethodName := ⟨RX8, "count", "(I)I"⟩
abbrev cX8_status : ByteArray := prog_1_method_27_code
def yX8_status : MethodName := ⟨RX8, "status", "()I"⟩
abbrev cX8_found : ByteArray := prog_1_method_28_code
def yX8_found : MethodName := ⟨RX8, "found", "(I)I"⟩
abbrev cX8_fine : ByteArray := prog_1_method_29_code
def yX8_fine : MethodName := ⟨RX8, "fine", "(I)I"⟩
abbrev cX8_isSheet : ByteArray := prog_1_method_30_code
def yX8_isSheet : MethodName := ⟨RX8, "isSheet", "(I)Z"⟩
abbrev cX8_isInk : ByteArray := prog_1_method_31_code
def yX8_isInk : MethodName := ⟨RX8, "isInk", "(I)Z"⟩
abbrev cX8_isLetter : ByteArray := prog_1_method_32_code
def yX8_isLetter : MethodName := ⟨RX8, "isLetter", "(I)Z"⟩
abbrev cX8_isShape : ByteArray := prog_1_method_33_code
def yX8_isShape : MethodName := ⟨RX8, "isShape", "(I)Z"⟩
abbrev cX8_isRow : ByteArray := prog_1_method_34_code
def yX8_isRow : MethodName := ⟨RX8, "isRow", "(IIII)Z"⟩
abbrev cX8_rowCode : ByteArray := prog_1_method_35_code
def yX8_rowCode : MethodName := ⟨RX8, "rowCode", "(IIII)I"⟩
abbrev cX8_rowCodeWith : ByteArray := prog_1_method_36_code
def yX8_rowCodeWith : MethodName := ⟨RX8, "rowCodeWith", "(II)I"⟩
abbrev cX8_pairSlot : ByteArray := prog_1_method_37_code
def yX8_pairSlot : MethodName := ⟨RX8, "pairSlot", "(II)I"⟩
abbrev cX8_wordShift : ByteArray := prog_1_method_38_code
def yX8_wordShift : MethodName := ⟨RX8, "wordShift", "(I)I"⟩
abbrev cX8_letterAt : ByteArray := prog_1_method_39_code
def yX8_letterAt : MethodName := ⟨RX8, "letterAt", "(JI)I"⟩
abbrev cX8_lettersOf : ByteArray := prog_1_method_40_code
def yX8_lettersOf : MethodName := ⟨RX8, "lettersOf", "(J)I"⟩
abbrev cX8_wordWith : ByteArray := prog_1_method_41_code
def yX8_wordWith : MethodName := ⟨RX8, "wordWith", "(JII)J"⟩
abbrev cX8_takeInHand : ByteArray := prog_1_method_42_code
def yX8_takeInHand : MethodName := ⟨RX8, "takeInHand", "(I)V"⟩
abbrev cX8_countReading : ByteArray := prog_1_method_43_code
def yX8_countReading : MethodName := ⟨RX8, "countReading", "(I)V"⟩
abbrev cX8_kindInHand : ByteArray := prog_1_method_44_code
def yX8_kindInHand : MethodName := ⟨RX8, "kindInHand", "()I"⟩
abbrev cX8_begin : ByteArray := prog_1_method_45_code
def yX8_begin : MethodName := ⟨RX8, "begin", "(I)V"⟩
abbrev cX8_askSize : ByteArray := prog_1_method_46_code
def yX8_askSize : MethodName := ⟨RX8, "askSize", "(I)I"⟩
abbrev cX8_inkSize : ByteArray := prog_1_method_47_code
def yX8_inkSize : MethodName := ⟨RX8, "inkSize", "(I)I"⟩
abbrev cX8_readSize : ByteArray := prog_1_method_48_code
def yX8_readSize : MethodName := ⟨RX8, "readSize", "(I)I"⟩
abbrev cX8_sureSize : ByteArray := prog_1_method_49_code
def yX8_sureSize : MethodName := ⟨RX8, "sureSize", "(I)I"⟩
abbrev cX8_listedSize : ByteArray := prog_1_method_50_code
def yX8_listedSize : MethodName := ⟨RX8, "listedSize", "(I)I"⟩
abbrev cX8_askMark : ByteArray := prog_1_method_51_code
def yX8_askMark : MethodName := ⟨RX8, "askMark", "(I)I"⟩
abbrev cX8_inkMark : ByteArray := prog_1_method_52_code
def yX8_inkMark : MethodName := ⟨RX8, "inkMark", "(I)I"⟩
abbrev cX8_sureMark : ByteArray := prog_1_method_53_code
def yX8_sureMark : MethodName := ⟨RX8, "sureMark", "(I)I"⟩
abbrev cX8_listedMark : ByteArray := prog_1_method_54_code
def yX8_listedMark : MethodName := ⟨RX8, "listedMark", "(I)I"⟩
abbrev cX9_in : ByteArray := prog_11_method_2_code
def yX9_in : MethodName := ⟨RX9, "in", "(JJJ)Z"⟩
abbrev cX9_finds : ByteArray := prog_11_method_3_code
def yX9_finds : MethodName := ⟨RX9, "finds", "(I)I"⟩
abbrev cX9_well : ByteArray := prog_11_method_4_code
def yX9_well : MethodName := ⟨RX9, "well", "(I)I"⟩
abbrev cX9_isSheet : ByteArray := prog_11_method_5_code
def yX9_isSheet : MethodName := ⟨RX9, "isSheet", "(I)Z"⟩
abbrev cX9_sheet : ByteArray := prog_11_method_6_code
def yX9_sheet : MethodName := ⟨RX9, "sheet", "(III)I"⟩
abbrev cX9_set : ByteArray := prog_11_method_7_code
def yX9_set : MethodName := ⟨RX9, "set", "(III)I"⟩
abbrev cX9_copy : ByteArray := prog_11_method_8_code
def yX9_copy : MethodName := ⟨RX9, "copy", "(IIIII)I"⟩
abbrev cX9_drop : ByteArray := prog_11_method_9_code
def yX9_drop : MethodName := ⟨RX9, "drop", "(I)I"⟩
abbrev cX9_forget : ByteArray := prog_11_method_10_code
def yX9_forget : MethodName := ⟨RX9, "forget", "()V"⟩
abbrev cX9_partLine : ByteArray := prog_11_method_11_code
def yX9_partLine : MethodName := ⟨RX9, "partLine", "()V"⟩
abbrev cX9_away : ByteArray := prog_11_method_12_code
def yX9_away : MethodName := ⟨RX9, "away", "(II)I"⟩
abbrev cX9_line : ByteArray := prog_11_method_13_code
def yX9_line : MethodName := ⟨RX9, "line", "(III)I"⟩
abbrev cX9_gap : ByteArray := prog_11_method_14_code
def yX9_gap : MethodName := ⟨RX9, "gap", "(I)I"⟩
abbrev cX9_isInk : ByteArray := prog_11_method_15_code
def yX9_isInk : MethodName := ⟨RX9, "isInk", "(I)Z"⟩
abbrev cX9_many : ByteArray := prog_11_method_16_code
def yX9_many : MethodName := ⟨RX9, "many", "(I)I"⟩
abbrev cX9_ink : ByteArray := prog_11_method_17_code
def yX9_ink : MethodName := ⟨RX9, "ink", "(II)I"⟩
abbrev cX9_piece : ByteArray := prog_11_method_18_code
def yX9_piece : MethodName := ⟨RX9, "piece", "(III)I"⟩
abbrev cX9_loose : ByteArray := prog_11_method_19_code
def yX9_loose : MethodName := ⟨RX9, "loose", "()I"⟩
abbrev cX9_isLetter : ByteArray := prog_11_method_20_code
def yX9_isLetter : MethodName := ⟨RX9, "isLetter", "(I)Z"⟩
abbrev cX9_shapes : ByteArray := prog_11_method_21_code
def yX9_shapes : MethodName := ⟨RX9, "shapes", "(IIII)I"⟩
abbrev cX9_isForm : ByteArray := prog_11_method_22_code
def yX9_isForm : MethodName := ⟨RX9, "isForm", "(IIIII)Z"⟩
abbrev cX9_raise : ByteArray := prog_11_method_23_code
def yX9_raise : MethodName := ⟨RX9, "raise", "(II)I"⟩
abbrev cX9_form : ByteArray := prog_11_method_24_code
def yX9_form : MethodName := ⟨RX9, "form", "(IIIIII)I"⟩
abbrev cX9_seen : ByteArray := prog_11_method_25_code
def yX9_seen : MethodName := ⟨RX9, "seen", "(IIIII)I"⟩
abbrev cX9_pair : ByteArray := prog_11_method_26_code
def yX9_pair : MethodName := ⟨RX9, "pair", "(III)I"⟩
abbrev cX9_letter : ByteArray := prog_11_method_27_code
def yX9_letter : MethodName := ⟨RX9, "letter", "(I)I"⟩
abbrev cX9_inList : ByteArray := prog_11_method_28_code
def yX9_inList : MethodName := ⟨RX9, "inList", "()I"⟩
abbrev cX9_list : ByteArray := prog_11_method_29_code
def yX9_list : MethodName := ⟨RX9, "list", "()I"⟩
abbrev cX9_wipe : ByteArray := prog_11_method_30_code
def yX9_wipe : MethodName := ⟨RX9, "wipe", "()I"⟩
abbrev cX9_cost : ByteArray := prog_11_method_31_code
def yX9_cost : MethodName := ⟨RX9, "cost", "(III)I"⟩
abbrev cX9_spell : ByteArray := prog_11_method_32_code
def yX9_spell : MethodName := ⟨RX9, "spell", "(I[III)I"⟩
abbrev cX9_listed : ByteArray := prog_11_method_33_code
def yX9_listed : MethodName := ⟨RX9, "listed", "(III)I"⟩
abbrev cX9_hold : ByteArray := prog_11_method_34_code
def yX9_hold : MethodName := ⟨RX9, "hold", "(IIJ)V"⟩
abbrev cX9_state : ByteArray := prog_11_method_35_code
def yX9_state : MethodName := ⟨RX9, "state", "(III)I"⟩
abbrev cX9_goOn : ByteArray := prog_11_method_36_code
def yX9_goOn : MethodName := ⟨RX9, "goOn", "(IIII)V"⟩
abbrev cX9_isAhead : ByteArray := prog_11_method_37_code
def yX9_isAhead : MethodName := ⟨RX9, "isAhead", "(JIJI)Z"⟩
abbrev cX9_know : ByteArray := prog_11_method_38_code
def yX9_know : MethodName := ⟨RX9, "know", "(I)V"⟩
abbrev cX9_keep : ByteArray := prog_11_method_39_code
def yX9_keep : MethodName := ⟨RX9, "keep", "(IIJI)V"⟩
abbrev cX9_open : ByteArray := prog_11_method_40_code
def yX9_open : MethodName := ⟨RX9, "open", "(III)I"⟩
abbrev cX9_wordCode : ByteArray := prog_11_method_41_code
def yX9_wordCode : MethodName := ⟨RX9, "wordCode", "()J"⟩
abbrev cX9_find : ByteArray := prog_11_method_42_code
def yX9_find : MethodName := ⟨RX9, "find", "(I)I"⟩
abbrev cX9_teach : ByteArray := prog_11_method_43_code
def yX9_teach : MethodName := ⟨RX9, "teach", "(I)I"⟩
abbrev cX9_isBest : ByteArray := prog_11_method_44_code
def yX9_isBest : MethodName := ⟨RX9, "isBest", "(IIII)Z"⟩
abbrev cX9_unteach : ByteArray := prog_11_method_45_code
def yX9_unteach : MethodName := ⟨RX9, "unteach", "()I"⟩
abbrev cX9_kindOf : ByteArray := prog_11_method_46_code
def yX9_kindOf : MethodName := ⟨RX9, "kindOf", "(I)I"⟩
abbrev cX9_firstInList : ByteArray := prog_11_method_47_code
def yX9_firstInList : MethodName := ⟨RX9, "firstInList", "(I)I"⟩
abbrev cX9_kind : ByteArray := prog_11_method_48_code
def yX9_kind : MethodName := ⟨RX9, "kind", "(I)I"⟩
abbrev cX9_as : ByteArray := prog_11_method_49_code
def yX9_as : MethodName := ⟨RX9, "as", "(II)I"⟩
abbrev cX9_begins : ByteArray := prog_11_method_50_code
def yX9_begins : MethodName := ⟨RX9, "begins", "(I)V"⟩
abbrev cX9_mark : ByteArray := prog_11_method_51_code
def yX9_mark : MethodName := ⟨RX9, "mark", "(I)I"⟩
abbrev cX9_sizeOf : ByteArray := prog_11_method_52_code
def yX9_sizeOf : MethodName := ⟨RX9, "sizeOf", "(I)I"⟩
abbrev cX9_ask : ByteArray := prog_11_method_53_code
def yX9_ask : MethodName := ⟨RX9, "ask", "(II)I"⟩
abbrev cX9_trace : ByteArray := prog_11_method_54_code
def yX9_trace : MethodName := ⟨RX9, "trace", "(I)I"⟩
abbrev cX9_count : ByteArray := prog_11_method_55_code
def yX9_count : MethodName := ⟨RX9, "count", "(I)I"⟩
abbrev cX9_status : ByteArray := prog_11_method_56_code
def yX9_status : MethodName := ⟨RX9, "status", "()I"⟩
abbrev cJ7_fill_53178 : ByteArray := prog_14_method_103_code
def yJ7_fill_53178 : MethodName := ⟨RJ7, "fill", "([II)V"⟩
abbrev cL_law : ByteArray := code
def yL_law : MethodName := ⟨RL, "law", "([I)Z"⟩
/-! the tables of this claim: cells, methods, links, by numbers -/
def zNC : Nat := 73
def zKR : Nat := 65
abbrev zcl : List vw_C := [(RX0, TX0, 9), (RX1, TX1, 2), (RX2, TX2, 12), (RX3, TX3, 3), (RX4, TX4, 5), (RX5, TX5, 4), (RX6, TX6, 2), (RX7, TX7, 4), (RX8, TX8, 12), (RX9, TX9, 39)]
def zRn : Nat → String := fun k => match k with
  | 0 => RX0
  | 1 => RX1
  | 2 => RX2
  | 3 => RX3
  | 4 => RX4
  | 5 => RX5
  | 6 => RX6
  | 7 => RX7
  | 8 => RX8
  | 9 => RX9
  | 10 => RL
  | _ => RJ7
def zT : Nat → u_T := fun k => match k with
  | 0 => TX0
  | 1 => TX1
  | 2 => TX2
  | 3 => TX3
  | 4 => TX4
  | 5 => TX5
  | 6 => TX6
  | 7 => TX7
  | 8 => TX8
  | _ => TX9
def zTy : Nat → Nat → FieldType := fun k => match k with
  | 0 => tyX0
  | 1 => tyX1
  | 2 => tyX2
  | 3 => tyX3
  | 4 => tyX4
  | 5 => tyX5
  | 6 => tyX6
  | 7 => tyX7
  | 8 => tyX8
  | _ => tyX9
def zN : Nat → Nat := fun k => match k with
  | 0 => 9
  | 1 => 2
  | 2 => 12
  | 3 => 3
  | 4 => 5
  | 5 => 4
  | 6 => 2
  | 7 => 4
  | 8 => 12
  | _ => 39
def zkd : Nat → Nat := fun k => match k with
  | 0 => 4
  | 1 => 4
  | 2 => 4
  | 3 => 4
  | 4 => 4
  | 5 => 4
  | 6 => 4
  | 7 => 4
  | 8 => 4
  | 9 => 4
  | 10 => 0
  | 11 => 1
  | 12 => 0
  | 13 => 0
  | 14 => 3
  | 15 => 0
  | 16 => 0
  | 17 => 0
  | 18 => 0
  | 19 => 0
  | 20 => 0
  | 21 => 0
  | 22 => 0
  | 23 => 0
  | 24 => 0
  | 25 => 0
  | 26 => 0
  | 27 => 0
  | 28 => 2
  | 29 => 0
  | 30 => 0
  | 31 => 0
  | 32 => 2
  | 33 => 0
  | 34 => 0
  | 35 => 0
  | 36 => 0
  | 37 => 0
  | 38 => 0
  | 39 => 0
  | 40 => 0
  | 41 => 0
  | 42 => 0
  | 43 => 0
  | 44 => 0
  | 45 => 0
  | 46 => 0
  | 47 => 0
  | 48 => 0
  | 49 => 0
  | 50 => 0
  | 51 => 0
  | 52 => 0
  | 53 => 0
  | 54 => 0
  | 55 => 1
  | 56 => 0
  | 57 => 0
  | 58 => 2
  | 59 => 0
  | 60 => 0
  | 61 => 0
  | 62 => 0
  | 63 => 2
  | 64 => 0
  | 65 => 5
  | 66 => 8
  | 67 => 8
  | 68 => 8
  | 69 => 8
  | 70 => 8
  | 71 => 8
  | 72 => 8
  | _ => 9
def zln : Nat → Int := fun k => match k with
  | 10 => 16
  | 11 => 8
  | 12 => 8
  | 13 => 8
  | 14 => 8
  | 15 => 40
  | 16 => 40
  | 17 => 40
  | 18 => 40
  | 19 => 40
  | 20 => 41
  | 21 => 40
  | 22 => 1188
  | 23 => 512
  | 24 => 512
  | 25 => 1024
  | 26 => 1024
  | 27 => 50
  | 28 => 30
  | 29 => 1092
  | 30 => 313
  | 31 => 1565
  | 32 => 1565
  | 33 => 195
  | 34 => 12
  | 35 => 30
  | 36 => 30
  | 37 => 8
  | 38 => 8
  | 39 => 640
  | 40 => 80
  | 41 => 40
  | 42 => 40
  | 43 => 40
  | 44 => 40
  | 45 => 41
  | 46 => 40
  | 47 => 49660
  | 48 => 12000
  | 49 => 12000
  | 50 => 50
  | 51 => 30
  | 52 => 360
  | 53 => 12
  | 54 => 16
  | 55 => 40
  | 56 => 40
  | 57 => 200
  | 58 => 200
  | 59 => 200
  | 60 => 195
  | 61 => 5070
  | 62 => 25350
  | 63 => 25350
  | 64 => 12
  | _ => 80
def zcn : Nat → Nat := fun k => match k with
  | 0 => 8
  | 1 => 5
  | 2 => 2
  | 3 => 0
  | 4 => 7
  | 5 => 1
  | 6 => 4
  | 7 => 6
  | 8 => 3
  | 9 => 9
  | _ => 10
def zft : Nat → Nat → Nat := fun k j => match k with
  | 0 => (match j with
    | 0 => 3
    | 1 => 4
    | 2 => 5
    | 3 => 6
    | 4 => 0
    | 5 => 7
    | 6 => 8
    | 7 => 9
    | 8 => 10
    | 9 => 12
    | 10 => 0
    | 11 => 0
    | _ => 0)
  | 1 => (match j with
    | 0 => 13
    | 1 => 14
    | 2 => 15
    | 3 => 16
    | _ => 0)
  | 2 => (match j with
    | 0 => 17
    | 1 => 18
    | 2 => 0
    | 3 => 0
    | 4 => 19
    | 5 => 20
    | 6 => 21
    | 7 => 0
    | 8 => 22
    | 9 => 23
    | 10 => 0
    | 11 => 0
    | _ => 0)
  | 3 => (match j with
    | 0 => 24
    | 1 => 25
    | 2 => 26
    | 3 => 0
    | 4 => 27
    | 5 => 28
    | 6 => 0
    | 7 => 29
    | 8 => 0
    | _ => 0)
  | 4 => (match j with
    | 0 => 1
    | 1 => 0
    | 2 => 30
    | 3 => 0
    | _ => 0)
  | 5 => (match j with
    | 0 => 31
    | 1 => 0
    | _ => 0)
  | 6 => (match j with
    | 0 => 32
    | 1 => 33
    | 2 => 34
    | 3 => 0
    | 4 => 0
    | _ => 0)
  | 7 => (match j with
    | 0 => 35
    | 1 => 36
    | _ => 0)
  | 8 => (match j with
    | 0 => 37
    | 1 => 38
    | 2 => 0
    | _ => 0)
  | 9 => (match j with
    | 0 => 39
    | 1 => 40
    | 2 => 41
    | 3 => 42
    | 4 => 0
    | 5 => 0
    | 6 => 43
    | 7 => 44
    | 8 => 45
    | 9 => 0
    | 10 => 46
    | 11 => 0
    | 12 => 0
    | 13 => 0
    | 14 => 47
    | 15 => 48
    | 16 => 49
    | 17 => 0
    | 18 => 50
    | 19 => 51
    | 20 => 0
    | 21 => 52
    | 22 => 0
    | 23 => 53
    | 24 => 54
    | 25 => 0
    | 26 => 55
    | 27 => 56
    | 28 => 0
    | 29 => 57
    | 30 => 58
    | 31 => 59
    | 32 => 60
    | 33 => 61
    | 34 => 62
    | 35 => 63
    | 36 => 64
    | 37 => 65
    | 38 => 66
    | _ => 0)
  | _ => 0
def zlg : Nat → Int → Bool := fun k i => match k with
  | 28 => true
  | 32 => true
  | 58 => true
  | 63 => true
  | 4 => decide (i = 0)
  | _ => false
def zy : Nat → MethodName := fun k => match k with
  | 0 => yX0_slotOf
  | 1 => yX0_slotMadeFor
  | 2 => yX0_raise
  | 3 => yX0_beginTeaching
  | 4 => yX0_undoTeaching
  | 5 => yX0_pairCost
  | 6 => yX0_formsSeen
  | 7 => yX0_pairsSeen
  | 8 => yX0_seenFrom
  | 9 => yX1_take
  | 10 => yX1_takeRow
  | 11 => yX1_dotCost
  | 12 => yX1_place
  | 13 => yX1_cost
  | 14 => yX2_write
  | 15 => yX2_part
  | 16 => yX2_gatherPieces
  | 17 => yX2_beginInks
  | 18 => yX2_joinDots
  | 19 => yX2_inkUnder
  | 20 => yX2_nearestPiece
  | 21 => yX2_piecesOf
  | 22 => yX2_rowCodeAt
  | 23 => yX2_hasDot
  | 24 => yX3_read
  | 25 => yX3_insert
  | 26 => yX4_read
  | 27 => yX4_heap
  | 28 => yX4_clear
  | 29 => yX4_extend
  | 30 => yX4_dearest
  | 31 => yX4_gatherWhole
  | 32 => yX4_offer
  | 33 => yX4_placeFor
  | 34 => yX4_isAhead
  | 35 => yX4_told
  | 36 => yX4_cost
  | 37 => yX4_word
  | 38 => yX4_tell
  | 39 => yX5_lay
  | 40 => yX5_reaches
  | 41 => yX5_put
  | 42 => yX5_holdsPieces
  | 43 => yX5_many
  | 44 => yX6_cost
  | 45 => yX6_costBy
  | 46 => yX6_chooseRows
  | 47 => yX7_append
  | 48 => yX7_clear
  | 49 => yX7_placeOf
  | 50 => yX8_sheet
  | 51 => yX8_set
  | 52 => yX8_copy
  | 53 => yX8_drop
  | 54 => yX8_line
  | 55 => yX8_gap
  | 56 => yX8_ink
  | 57 => yX8_piece
  | 58 => yX8_loose
  | 59 => yX8_form
  | 60 => yX8_seen
  | 61 => yX8_pair
  | 62 => yX8_letter
  | 63 => yX8_list
  | 64 => yX8_wipe
  | 65 => yX8_listed
  | 66 => yX8_open
  | 67 => yX8_find
  | 68 => yX8_teach
  | 69 => yX8_unteach
  | 70 => yX8_kind
  | 71 => yX8_as
  | 72 => yX8_ask
  | 73 => yX8_trace
  | 74 => yX8_count
  | 75 => yX8_status
  | 76 => yX8_found
  | 77 => yX8_fine
  | 78 => yX8_isSheet
  | 79 => yX8_isInk
  | 80 => yX8_isLetter
  | 81 => yX8_isShape
  | 82 => yX8_isRow
  | 83 => yX8_rowCode
  | 84 => yX8_rowCodeWith
  | 85 => yX8_pairSlot
  | 86 => yX8_wordShift
  | 87 => yX8_letterAt
  | 88 => yX8_lettersOf
  | 89 => yX8_wordWith
  | 90 => yX8_takeInHand
  | 91 => yX8_countReading
  | 92 => yX8_kindInHand
  | 93 => yX8_begin
  | 94 => yX8_askSize
  | 95 => yX8_inkSize
  | 96 => yX8_readSize
  | 97 => yX8_sureSize
  | 98 => yX8_listedSize
  | 99 => yX8_askMark
  | 100 => yX8_inkMark
  | 101 => yX8_sureMark
  | 102 => yX8_listedMark
  | 103 => yX9_in
  | 104 => yX9_finds
  | 105 => yX9_well
  | 106 => yX9_isSheet
  | 107 => yX9_sheet
  | 108 => yX9_set
  | 109 => yX9_copy
  | 110 => yX9_drop
  | 111 => yX9_forget
  | 112 => yX9_partLine
  | 113 => yX9_away
  | 114 => yX9_line
  | 115 => yX9_gap
  | 116 => yX9_isInk
  | 117 => yX9_many
  | 118 => yX9_ink
  | 119 => yX9_piece
  | 120 => yX9_loose
  | 121 => yX9_isLetter
  | 122 => yX9_shapes
  | 123 => yX9_isForm
  | 124 => yX9_raise
  | 125 => yX9_form
  | 126 => yX9_seen
  | 127 => yX9_pair
  | 128 => yX9_letter
  | 129 => yX9_inList
  | 130 => yX9_list
  | 131 => yX9_wipe
  | 132 => yX9_cost
  | 133 => yX9_spell
  | 134 => yX9_listed
  | 135 => yX9_hold
  | 136 => yX9_state
  | 137 => yX9_goOn
  | 138 => yX9_isAhead
  | 139 => yX9_know
  | 140 => yX9_keep
  | 141 => yX9_open
  | 142 => yX9_wordCode
  | 143 => yX9_find
  | 144 => yX9_teach
  | 145 => yX9_isBest
  | 146 => yX9_unteach
  | 147 => yX9_kindOf
  | 148 => yX9_firstInList
  | 149 => yX9_kind
  | 150 => yX9_as
  | 151 => yX9_begins
  | 152 => yX9_mark
  | 153 => yX9_sizeOf
  | 154 => yX9_ask
  | 155 => yX9_trace
  | 156 => yX9_count
  | 157 => yX9_status
  | 158 => yJ7_fill_53178
  | 159 => yL_law
  | _ => yX0_slotOf
def zb : Nat → ByteArray := fun k => match k with
  | 0 => cX0_slotOf
  | 1 => cX0_slotMadeFor
  | 2 => cX0_raise
  | 3 => cX0_beginTeaching
  | 4 => cX0_undoTeaching
  | 5 => cX0_pairCost
  | 6 => cX0_formsSeen
  | 7 => cX0_pairsSeen
  | 8 => cX0_seenFrom
  | 9 => cX1_take
  | 10 => cX1_takeRow
  | 11 => cX1_dotCost
  | 12 => cX1_place
  | 13 => cX1_cost
  | 14 => cX2_write
  | 15 => cX2_part
  | 16 => cX2_gatherPieces
  | 17 => cX2_beginInks
  | 18 => cX2_joinDots
  | 19 => cX2_inkUnder
  | 20 => cX2_nearestPiece
  | 21 => cX2_piecesOf
  | 22 => cX2_rowCodeAt
  | 23 => cX2_hasDot
  | 24 => cX3_read
  | 25 => cX3_insert
  | 26 => cX4_read
  | 27 => cX4_heap
  | 28 => cX4_clear
  | 29 => cX4_extend
  | 30 => cX4_dearest
  | 31 => cX4_gatherWhole
  | 32 => cX4_offer
  | 33 => cX4_placeFor
  | 34 => cX4_isAhead
  | 35 => cX4_told
  | 36 => cX4_cost
  | 37 => cX4_word
  | 38 => cX4_tell
  | 39 => cX5_lay
  | 40 => cX5_reaches
  | 41 => cX5_put
  | 42 => cX5_holdsPieces
  | 43 => cX5_many
  | 44 => cX6_cost
  | 45 => cX6_costBy
  | 46 => cX6_chooseRows
  | 47 => cX7_append
  | 48 => cX7_clear
  | 49 => cX7_placeOf
  | 50 => cX8_sheet
  | 51 => cX8_set
  | 52 => cX8_copy
  | 53 => cX8_drop
  | 54 => cX8_line
  | 55 => cX8_gap
  | 56 => cX8_ink
  | 57 => cX8_piece
  | 58 => cX8_loose
  | 59 => cX8_form
  | 60 => cX8_seen
  | 61 => cX8_pair
  | 62 => cX8_letter
  | 63 => cX8_list
  | 64 => cX8_wipe
  | 65 => cX8_listed
  | 66 => cX8_open
  | 67 => cX8_find
  | 68 => cX8_teach
  | 69 => cX8_unteach
  | 70 => cX8_kind
  | 71 => cX8_as
  | 72 => cX8_ask
  | 73 => cX8_trace
  | 74 => cX8_count
  | 75 => cX8_status
  | 76 => cX8_found
  | 77 => cX8_fine
  | 78 => cX8_isSheet
  | 79 => cX8_isInk
  | 80 => cX8_isLetter
  | 81 => cX8_isShape
  | 82 => cX8_isRow
  | 83 => cX8_rowCode
  | 84 => cX8_rowCodeWith
  | 85 => cX8_pairSlot
  | 86 => cX8_wordShift
  | 87 => cX8_letterAt
  | 88 => cX8_lettersOf
  | 89 => cX8_wordWith
  | 90 => cX8_takeInHand
  | 91 => cX8_countReading
  | 92 => cX8_kindInHand
  | 93 => cX8_begin
  | 94 => cX8_askSize
  | 95 => cX8_inkSize
  | 96 => cX8_readSize
  | 97 => cX8_sureSize
  | 98 => cX8_listedSize
  | 99 => cX8_askMark
  | 100 => cX8_inkMark
  | 101 => cX8_sureMark
  | 102 => cX8_listedMark
  | 103 => cX9_in
  | 104 => cX9_finds
  | 105 => cX9_well
  | 106 => cX9_isSheet
  | 107 => cX9_sheet
  | 108 => cX9_set
  | 109 => cX9_copy
  | 110 => cX9_drop
  | 111 => cX9_forget
  | 112 => cX9_partLine
  | 113 => cX9_away
  | 114 => cX9_line
  | 115 => cX9_gap
  | 116 => cX9_isInk
  | 117 => cX9_many
  | 118 => cX9_ink
  | 119 => cX9_piece
  | 120 => cX9_loose
  | 121 => cX9_isLetter
  | 122 => cX9_shapes
  | 123 => cX9_isForm
  | 124 => cX9_raise
  | 125 => cX9_form
  | 126 => cX9_seen
  | 127 => cX9_pair
  | 128 => cX9_letter
  | 129 => cX9_inList
  | 130 => cX9_list
  | 131 => cX9_wipe
  | 132 => cX9_cost
  | 133 => cX9_spell
  | 134 => cX9_listed
  | 135 => cX9_hold
  | 136 => cX9_state
  | 137 => cX9_goOn
  | 138 => cX9_isAhead
  | 139 => cX9_know
  | 140 => cX9_keep
  | 141 => cX9_open
  | 142 => cX9_wordCode
  | 143 => cX9_find
  | 144 => cX9_teach
  | 145 => cX9_isBest
  | 146 => cX9_unteach
  | 147 => cX9_kindOf
  | 148 => cX9_firstInList
  | 149 => cX9_kind
  | 150 => cX9_as
  | 151 => cX9_begins
  | 152 => cX9_mark
  | 153 => cX9_sizeOf
  | 154 => cX9_ask
  | 155 => cX9_trace
  | 156 => cX9_count
  | 157 => cX9_status
  | 158 => cJ7_fill_53178
  | 159 => cL_law
  | _ => cX0_slotOf
def zl : Nat → Nat := fun k => match k with
  | 0 => 4
  | 1 => 4
  | 2 => 3
  | 3 => 1
  | 4 => 2
  | 5 => 3
  | 6 => 1
  | 7 => 1
  | 8 => 5
  | 9 => 8
  | 10 => 8
  | 11 => 3
  | 12 => 3
  | 13 => 4
  | 14 => 5
  | 15 => 1
  | 16 => 2
  | 17 => 2
  | 18 => 3
  | 19 => 6
  | 20 => 5
  | 21 => 2
  | 22 => 5
  | 23 => 4
  | 24 => 6
  | 25 => 4
  | 26 => 7
  | 27 => 3
  | 28 => 3
  | 29 => 13
  | 30 => 2
  | 31 => 4
  | 32 => 7
  | 33 => 8
  | 34 => 5
  | 35 => 1
  | 36 => 2
  | 37 => 2
  | 38 => 4
  | 39 => 4
  | 40 => 4
  | 41 => 5
  | 42 => 7
  | 43 => 6
  | 44 => 10
  | 45 => 8
  | 46 => 8
  | 47 => 2
  | 48 => 2
  | 49 => 4
  | 50 => 4
  | 51 => 4
  | 52 => 6
  | 53 => 2
  | 54 => 4
  | 55 => 3
  | 56 => 3
  | 57 => 5
  | 58 => 1
  | 59 => 8
  | 60 => 7
  | 61 => 4
  | 62 => 2
  | 63 => 2
  | 64 => 1
  | 65 => 4
  | 66 => 7
  | 67 => 4
  | 68 => 2
  | 69 => 1
  | 70 => 2
  | 71 => 3
  | 72 => 3
  | 73 => 2
  | 74 => 2
  | 75 => 1
  | 76 => 2
  | 77 => 2
  | 78 => 1
  | 79 => 2
  | 80 => 1
  | 81 => 1
  | 82 => 4
  | 83 => 5
  | 84 => 2
  | 85 => 2
  | 86 => 1
  | 87 => 3
  | 88 => 3
  | 89 => 4
  | 90 => 2
  | 91 => 7
  | 92 => 2
  | 93 => 2
  | 94 => 2
  | 95 => 2
  | 96 => 2
  | 97 => 2
  | 98 => 2
  | 99 => 2
  | 100 => 2
  | 101 => 2
  | 102 => 2
  | 103 => 6
  | 104 => 2
  | 105 => 2
  | 106 => 1
  | 107 => 5
  | 108 => 5
  | 109 => 7
  | 110 => 2
  | 111 => 2
  | 112 => 7
  | 113 => 3
  | 114 => 7
  | 115 => 3
  | 116 => 2
  | 117 => 2
  | 118 => 3
  | 119 => 5
  | 120 => 1
  | 121 => 1
  | 122 => 4
  | 123 => 5
  | 124 => 3
  | 125 => 7
  | 126 => 6
  | 127 => 4
  | 128 => 2
  | 129 => 4
  | 130 => 2
  | 131 => 2
  | 132 => 7
  | 133 => 12
  | 134 => 9
  | 135 => 9
  | 136 => 3
  | 137 => 11
  | 138 => 11
  | 139 => 7
  | 140 => 8
  | 141 => 5
  | 142 => 4
  | 143 => 6
  | 144 => 6
  | 145 => 7
  | 146 => 1
  | 147 => 2
  | 148 => 6
  | 149 => 2
  | 150 => 3
  | 151 => 2
  | 152 => 3
  | 153 => 4
  | 154 => 3
  | 155 => 2
  | 156 => 4
  | 157 => 1
  | 158 => 4
  | 159 => 4
  | _ => 0
def zr : Nat → Option FieldType := fun k => match k with
  | 0 => some .int
  | 1 => some .int
  | 2 => some .int
  | 3 => none
  | 4 => none
  | 5 => some .int
  | 6 => some .int
  | 7 => some .int
  | 8 => some .int
  | 9 => none
  | 10 => none
  | 11 => some .int
  | 12 => some .int
  | 13 => some .int
  | 14 => none
  | 15 => none
  | 16 => none
  | 17 => none
  | 18 => none
  | 19 => some .int
  | 20 => some .int
  | 21 => some .int
  | 22 => some .int
  | 23 => some .boolean
  | 24 => none
  | 25 => none
  | 26 => none
  | 27 => some .int
  | 28 => none
  | 29 => none
  | 30 => some .int
  | 31 => none
  | 32 => none
  | 33 => some .int
  | 34 => some .boolean
  | 35 => some .int
  | 36 => some .int
  | 37 => some .long
  | 38 => some .boolean
  | 39 => none
  | 40 => some .boolean
  | 41 => some .int
  | 42 => some .boolean
  | 43 => some .int
  | 44 => some .int
  | 45 => some .int
  | 46 => none
  | 47 => none
  | 48 => some .int
  | 49 => some .int
  | 50 => some .int
  | 51 => some .int
  | 52 => some .int
  | 53 => some .int
  | 54 => some .int
  | 55 => some .int
  | 56 => some .int
  | 57 => some .int
  | 58 => some .int
  | 59 => some .int
  | 60 => some .int
  | 61 => some .int
  | 62 => some .int
  | 63 => some .int
  | 64 => some .int
  | 65 => some .int
  | 66 => some .int
  | 67 => some .int
  | 68 => some .int
  | 69 => some .int
  | 70 => some .int
  | 71 => some .int
  | 72 => some .int
  | 73 => some .int
  | 74 => some .int
  | 75 => some .int
  | 76 => some .int
  | 77 => some .int
  | 78 => some .boolean
  | 79 => some .boolean
  | 80 => some .boolean
  | 81 => some .boolean
  | 82 => some .boolean
  | 83 => some .int
  | 84 => some .int
  | 85 => some .int
  | 86 => some .int
  | 87 => some .int
  | 88 => some .int
  | 89 => some .long
  | 90 => none
  | 91 => none
  | 92 => some .int
  | 93 => none
  | 94 => some .int
  | 95 => some .int
  | 96 => some .int
  | 97 => some .int
  | 98 => some .int
  | 99 => some .int
  | 100 => some .int
  | 101 => some .int
  | 102 => some .int
  | 103 => some .boolean
  | 104 => some .int
  | 105 => some .int
  | 106 => some .boolean
  | 107 => some .int
  | 108 => some .int
  | 109 => some .int
  | 110 => some .int
  | 111 => none
  | 112 => none
  | 113 => some .int
  | 114 => some .int
  | 115 => some .int
  | 116 => some .boolean
  | 117 => some .int
  | 118 => some .int
  | 119 => some .int
  | 120 => some .int
  | 121 => some .boolean
  | 122 => some .int
  | 123 => some .boolean
  | 124 => some .int
  | 125 => some .int
  | 126 => some .int
  | 127 => some .int
  | 128 => some .int
  | 129 => some .int
  | 130 => some .int
  | 131 => some .int
  | 132 => some .int
  | 133 => some .int
  | 134 => some .int
  | 135 => none
  | 136 => some .int
  | 137 => none
  | 138 => some .boolean
  | 139 => none
  | 140 => none
  | 141 => some .int
  | 142 => some .long
  | 143 => some .int
  | 144 => some .int
  | 145 => some .boolean
  | 146 => some .int
  | 147 => some .int
  | 148 => some .int
  | 149 => some .int
  | 150 => some .int
  | 151 => none
  | 152 => some .int
  | 153 => some .int
  | 154 => some .int
  | 155 => some .int
  | 156 => some .int
  | 157 => some .int
  | 158 => none
  | 159 => some .boolean
  | _ => none
def zow : Nat → Nat := fun k => match k with
  | 0 => 0
  | 1 => 0
  | 2 => 0
  | 3 => 0
  | 4 => 0
  | 5 => 0
  | 6 => 0
  | 7 => 0
  | 8 => 0
  | 9 => 1
  | 10 => 1
  | 11 => 1
  | 12 => 1
  | 13 => 1
  | 14 => 2
  | 15 => 2
  | 16 => 2
  | 17 => 2
  | 18 => 2
  | 19 => 2
  | 20 => 2
  | 21 => 2
  | 22 => 2
  | 23 => 2
  | 24 => 3
  | 25 => 3
  | 26 => 4
  | 27 => 4
  | 28 => 4
  | 29 => 4
  | 30 => 4
  | 31 => 4
  | 32 => 4
  | 33 => 4
  | 34 => 4
  | 35 => 4
  | 36 => 4
  | 37 => 4
  | 38 => 4
  | 39 => 5
  | 40 => 5
  | 41 => 5
  | 42 => 5
  | 43 => 5
  | 44 => 6
  | 45 => 6
  | 46 => 6
  | 47 => 7
  | 48 => 7
  | 49 => 7
  | 50 => 8
  | 51 => 8
  | 52 => 8
  | 53 => 8
  | 54 => 8
  | 55 => 8
  | 56 => 8
  | 57 => 8
  | 58 => 8
  | 59 => 8
  | 60 => 8
  | 61 => 8
  | 62 => 8
  | 63 => 8
  | 64 => 8
  | 65 => 8
  | 66 => 8
  | 67 => 8
  | 68 => 8
  | 69 => 8
  | 70 => 8
  | 71 => 8
  | 72 => 8
  | 73 => 8
  | 74 => 8
  | 75 => 8
  | 76 => 8
  | 77 => 8
  | 78 => 8
  | 79 => 8
  | 80 => 8
  | 81 => 8
  | 82 => 8
  | 83 => 8
  | 84 => 8
  | 85 => 8
  | 86 => 8
  | 87 => 8
  | 88 => 8
  | 89 => 8
  | 90 => 8
  | 91 => 8
  | 92 => 8
  | 93 => 8
  | 94 => 8
  | 95 => 8
  | 96 => 8
  | 97 => 8
  | 98 => 8
  | 99 => 8
  | 100 => 8
  | 101 => 8
  | 102 => 8
  | 103 => 9
  | 104 => 9
  | 105 => 9
  | 106 => 9
  | 107 => 9
  | 108 => 9
  | 109 => 9
  | 110 => 9
  | 111 => 9
  | 112 => 9
  | 113 => 9
  | 114 => 9
  | 115 => 9
  | 116 => 9
  | 117 => 9
  | 118 => 9
  | 119 => 9
  | 120 => 9
  | 121 => 9
  | 122 => 9
  | 123 => 9
  | 124 => 9
  | 125 => 9
  | 126 => 9
  | 127 => 9
  | 128 => 9
  | 129 => 9
  | 130 => 9
  | 131 => 9
  | 132 => 9
  | 133 => 9
  | 134 => 9
  | 135 => 9
  | 136 => 9
  | 137 => 9
  | 138 => 9
  | 139 => 9
  | 140 => 9
  | 141 => 9
  | 142 => 9
  | 143 => 9
  | 144 => 9
  | 145 => 9
  | 146 => 9
  | 147 => 9
  | 148 => 9
  | 149 => 9
  | 150 => 9
  | 151 => 9
  | 152 => 9
  | 153 => 9
  | 154 => 9
  | 155 => 9
  | 156 => 9
  | 157 => 9
  | 158 => 11
  | 159 => 10
  | _ => 11
def zqf : Nat → Nat := fun k => match k with
  | 0 => 0
  | 1 => 1
  | 2 => 1
  | 3 => 0
  | 4 => 0
  | 5 => 1
  | 6 => 1
  | 7 => 1
  | 8 => 0
  | 9 => 2
  | 10 => 1
  | 11 => 0
  | 12 => 0
  | 13 => 1
  | 14 => 4
  | 15 => 3
  | 16 => 0
  | 17 => 0
  | 18 => 2
  | 19 => 1
  | 20 => 1
  | 21 => 0
  | 22 => 1
  | 23 => 0
  | 24 => 4
  | 25 => 0
  | 26 => 4
  | 27 => 0
  | 28 => 0
  | 29 => 3
  | 30 => 0
  | 31 => 3
  | 32 => 2
  | 33 => 1
  | 34 => 0
  | 35 => 0
  | 36 => 0
  | 37 => 0
  | 38 => 1
  | 39 => 1
  | 40 => 0
  | 41 => 0
  | 42 => 0
  | 43 => 0
  | 44 => 3
  | 45 => 2
  | 46 => 3
  | 47 => 2
  | 48 => 0
  | 49 => 0
  | 50 => 2
  | 51 => 1
  | 52 => 1
  | 53 => 1
  | 54 => 5
  | 55 => 4
  | 56 => 1
  | 57 => 1
  | 58 => 0
  | 59 => 2
  | 60 => 2
  | 61 => 2
  | 62 => 3
  | 63 => 1
  | 64 => 1
  | 65 => 6
  | 66 => 6
  | 67 => 6
  | 68 => 6
  | 69 => 1
  | 70 => 6
  | 71 => 6
  | 72 => 7
  | 73 => 0
  | 74 => 2
  | 75 => 0
  | 76 => 0
  | 77 => 0
  | 78 => 0
  | 79 => 0
  | 80 => 0
  | 81 => 0
  | 82 => 1
  | 83 => 1
  | 84 => 0
  | 85 => 0
  | 86 => 0
  | 87 => 1
  | 88 => 2
  | 89 => 1
  | 90 => 5
  | 91 => 2
  | 92 => 1
  | 93 => 0
  | 94 => 6
  | 95 => 1
  | 96 => 2
  | 97 => 3
  | 98 => 5
  | 99 => 4
  | 100 => 1
  | 101 => 2
  | 102 => 3
  | 103 => 0
  | 104 => 0
  | 105 => 0
  | 106 => 1
  | 107 => 2
  | 108 => 2
  | 109 => 2
  | 110 => 2
  | 111 => 0
  | 112 => 1
  | 113 => 0
  | 114 => 2
  | 115 => 2
  | 116 => 1
  | 117 => 0
  | 118 => 2
  | 119 => 2
  | 120 => 0
  | 121 => 1
  | 122 => 0
  | 123 => 2
  | 124 => 0
  | 125 => 3
  | 126 => 3
  | 127 => 2
  | 128 => 2
  | 129 => 0
  | 130 => 1
  | 131 => 0
  | 132 => 1
  | 133 => 2
  | 134 => 3
  | 135 => 0
  | 136 => 0
  | 137 => 2
  | 138 => 0
  | 139 => 3
  | 140 => 1
  | 141 => 4
  | 142 => 0
  | 143 => 4
  | 144 => 3
  | 145 => 2
  | 146 => 1
  | 147 => 4
  | 148 => 0
  | 149 => 5
  | 150 => 5
  | 151 => 0
  | 152 => 5
  | 153 => 6
  | 154 => 7
  | 155 => 1
  | 156 => 1
  | 157 => 0
  | 158 => 0
  | 159 => 8
  | _ => 0
def zql : Nat → Nat := fun k => match k with
  | 0 => 0
  | 1 => 23
  | 2 => 40
  | 3 => 0
  | 4 => 0
  | 5 => 21
  | 6 => 24
  | 7 => 24
  | 8 => 0
  | 9 => 49
  | 10 => 22
  | 11 => 0
  | 12 => 0
  | 13 => 22
  | 14 => 107
  | 15 => 87
  | 16 => 0
  | 17 => 0
  | 18 => 65
  | 19 => 40
  | 20 => 40
  | 21 => 0
  | 22 => 21
  | 23 => 0
  | 24 => 101
  | 25 => 0
  | 26 => 109
  | 27 => 0
  | 28 => 0
  | 29 => 77
  | 30 => 0
  | 31 => 77
  | 32 => 51
  | 33 => 24
  | 34 => 0
  | 35 => 0
  | 36 => 0
  | 37 => 0
  | 38 => 21
  | 39 => 23
  | 40 => 0
  | 41 => 0
  | 42 => 0
  | 43 => 0
  | 44 => 72
  | 45 => 45
  | 46 => 72
  | 47 => 43
  | 48 => 0
  | 49 => 0
  | 50 => 46
  | 51 => 24
  | 52 => 40
  | 53 => 21
  | 54 => 131
  | 55 => 107
  | 56 => 21
  | 57 => 21
  | 58 => 0
  | 59 => 62
  | 60 => 45
  | 61 => 62
  | 62 => 64
  | 63 => 23
  | 64 => 21
  | 65 => 156
  | 66 => 156
  | 67 => 156
  | 68 => 156
  | 69 => 21
  | 70 => 156
  | 71 => 156
  | 72 => 156
  | 73 => 0
  | 74 => 44
  | 75 => 0
  | 76 => 0
  | 77 => 0
  | 78 => 0
  | 79 => 0
  | 80 => 0
  | 81 => 0
  | 82 => 20
  | 83 => 21
  | 84 => 0
  | 85 => 0
  | 86 => 0
  | 87 => 20
  | 88 => 42
  | 89 => 20
  | 90 => 135
  | 91 => 62
  | 92 => 23
  | 93 => 0
  | 94 => 126
  | 95 => 21
  | 96 => 42
  | 97 => 63
  | 98 => 105
  | 99 => 84
  | 100 => 21
  | 101 => 42
  | 102 => 63
  | 103 => 0
  | 104 => 0
  | 105 => 0
  | 106 => 25
  | 107 => 45
  | 108 => 45
  | 109 => 45
  | 110 => 45
  | 111 => 0
  | 112 => 22
  | 113 => 0
  | 114 => 48
  | 115 => 48
  | 116 => 25
  | 117 => 0
  | 118 => 46
  | 119 => 46
  | 120 => 0
  | 121 => 25
  | 122 => 0
  | 123 => 45
  | 124 => 0
  | 125 => 69
  | 126 => 69
  | 127 => 45
  | 128 => 45
  | 129 => 0
  | 130 => 23
  | 131 => 0
  | 132 => 23
  | 133 => 49
  | 134 => 80
  | 135 => 0
  | 136 => 0
  | 137 => 49
  | 138 => 0
  | 139 => 79
  | 140 => 30
  | 141 => 105
  | 142 => 0
  | 143 => 105
  | 144 => 80
  | 145 => 49
  | 146 => 21
  | 147 => 105
  | 148 => 0
  | 149 => 126
  | 150 => 126
  | 151 => 0
  | 152 => 126
  | 153 => 148
  | 154 => 171
  | 155 => 25
  | 156 => 25
  | 157 => 0
  | 158 => 0
  | 159 => 193
  | _ => 0
def zlaw : Nat := 159
def zq (i : Nat) : Room := bif Nat.beq i zlaw then room_1 else { frames := zqf i, cells := 0, slots := 0, locals := zql i }
def zTB : List Cond := lw_tbl.filter goodWord
theorem zin {w : Cond} (k : Nat) (h : lw_tbl[k]? = some w) (hg : goodWord w = true) : w ∈ zTB := List.mem_filter.mpr ⟨List.mem_of_getElem? h, hg⟩
theorem zTB_lw : ∀ w ∈ zTB, w ∈ lw_tbl := fun w h => (List.mem_filter.mp h).1
theorem zTB_good : ∀ w ∈ zTB, goodWord w = true := fun w h => (List.mem_filter.mp h).2
def zI (v : Int) : Prop := -2147483648 ≤ v ∧ v ≤ 2147483647
def zJ (v : Int) : Prop := -9223372036854775808 ≤ v ∧ v ≤ 9223372036854775807
end
section
/-! what the tables say of the links, constants, methods of this claim, by numbers -/
def znp : Nat → Nat := fun k => match k with
  | 0 => 2
  | 1 => 2
  | 2 => 2
  | 3 => 0
  | 4 => 0
  | 5 => 2
  | 6 => 0
  | 7 => 0
  | 8 => 2
  | 9 => 3
  | 10 => 4
  | 11 => 2
  | 12 => 3
  | 13 => 3
  | 14 => 3
  | 15 => 0
  | 16 => 0
  | 17 => 0
  | 18 => 0
  | 19 => 1
  | 20 => 2
  | 21 => 1
  | 22 => 2
  | 23 => 2
  | 24 => 3
  | 25 => 2
  | 26 => 2
  | 27 => 3
  | 28 => 1
  | 29 => 5
  | 30 => 1
  | 31 => 0
  | 32 => 3
  | 33 => 3
  | 34 => 3
  | 35 => 0
  | 36 => 1
  | 37 => 1
  | 38 => 1
  | 39 => 3
  | 40 => 3
  | 41 => 3
  | 42 => 3
  | 43 => 0
  | 44 => 2
  | 45 => 5
  | 46 => 2
  | 47 => 1
  | 48 => 0
  | 49 => 1
  | 50 => 3
  | 51 => 3
  | 52 => 5
  | 53 => 1
  | 54 => 3
  | 55 => 1
  | 56 => 2
  | 57 => 3
  | 58 => 0
  | 59 => 6
  | 60 => 5
  | 61 => 3
  | 62 => 1
  | 63 => 0
  | 64 => 0
  | 65 => 3
  | 66 => 3
  | 67 => 1
  | 68 => 1
  | 69 => 0
  | 70 => 1
  | 71 => 2
  | 72 => 2
  | 73 => 1
  | 74 => 1
  | 75 => 0
  | 76 => 1
  | 77 => 1
  | 78 => 1
  | 79 => 1
  | 80 => 1
  | 81 => 1
  | 82 => 4
  | 83 => 4
  | 84 => 2
  | 85 => 2
  | 86 => 1
  | 87 => 2
  | 88 => 1
  | 89 => 3
  | 90 => 1
  | 91 => 1
  | 92 => 0
  | 93 => 1
  | 94 => 1
  | 95 => 1
  | 96 => 1
  | 97 => 1
  | 98 => 1
  | 99 => 1
  | 100 => 1
  | 101 => 1
  | 102 => 1
  | 103 => 3
  | 104 => 1
  | 105 => 1
  | 106 => 1
  | 107 => 3
  | 108 => 3
  | 109 => 5
  | 110 => 1
  | 111 => 0
  | 112 => 0
  | 113 => 2
  | 114 => 3
  | 115 => 1
  | 116 => 1
  | 117 => 1
  | 118 => 2
  | 119 => 3
  | 120 => 0
  | 121 => 1
  | 122 => 4
  | 123 => 5
  | 124 => 2
  | 125 => 6
  | 126 => 5
  | 127 => 3
  | 128 => 1
  | 129 => 0
  | 130 => 0
  | 131 => 0
  | 132 => 3
  | 133 => 4
  | 134 => 3
  | 135 => 3
  | 136 => 3
  | 137 => 4
  | 138 => 4
  | 139 => 1
  | 140 => 4
  | 141 => 3
  | 142 => 0
  | 143 => 1
  | 144 => 1
  | 145 => 4
  | 146 => 0
  | 147 => 1
  | 148 => 1
  | 149 => 1
  | 150 => 2
  | 151 => 1
  | 152 => 1
  | 153 => 1
  | 154 => 2
  | 155 => 1
  | 156 => 1
  | 157 => 0
  | 158 => 2
  | 159 => 1
  | _ => 0
def zFF (x : Nat × Nat × Nat × Nat × Int) : Prop := ∃ j : Nat, x.2.2.2.2 = (j : Int) ∧ x.2.2.1 < zNC ∧ zkd x.2.2.1 = 4 ∧ zcn x.2.2.1 < 10 ∧ j < zN (zcn x.2.2.1) ∧ zft x.2.2.1 j = x.2.2.2.1 ∧ Cond.fieldLink (zRn x.1) x.2.1 (zT (zcn x.2.2.1) j).1 (zT (zcn x.2.2.1) j).2.1 (zT (zcn x.2.2.1) j).2.2.1 ∈ zTB
def zKF (x : Nat × Nat × Int) : Prop := Cond.constant (zRn x.1) x.2.1 (Int32.ofInt x.2.2) ∈ zTB ∧ zI x.2.2
def zKLF (x : Nat × Nat × Int) : Prop := Cond.constantLong (zRn x.1) x.2.1 (Int64.ofInt x.2.2) ∈ zTB ∧ zJ x.2.2
def zVF (x : Nat × Nat × Nat) : Prop := Cond.methodLink (zRn x.1) x.2.1 (zy x.2.2) ∈ zTB ∧ Cond.instanceMethod (zy x.2.2) ∈ zTB ∧ Cond.selects (zy x.2.2).cls (zy x.2.2) (zy x.2.2) ∈ zTB
def zSF (x : Nat × Nat × Nat) : Prop := Cond.methodLink (zRn x.1) x.2.1 (zy x.2.2) ∈ zTB ∧ Cond.static (zy x.2.2) ∈ zTB
def zNF (x : Nat × Nat × Nat) : Prop := Cond.methodLinkNest (zRn x.1) x.2.1 (zy x.2.2) "PenLines" ∈ lw_tbl ∧ Cond.static (zy x.2.2) ∈ zTB
def zXy : Nat → MethodName := fun k => match k with
  | 9010 => Lib.Math.min.name
  | 9011 => Lib.Math.max.name
  | 9012 => Lib.Math.abs.name
  | _ => arraycopyName
def zXF (x : Nat × Nat × Nat) : Prop := Cond.methodLink (zRn x.1) x.2.1 (zXy x.2.2) ∈ zTB
def zMF (i : Nat) : Prop := Cond.code (zy i) (zb i) (zl i) (zr i) ∈ zTB ∧ Cond.initialized (zy i).cls ∈ zTB ∧ plainName (zy i).cls = true ∧ ((zy i).cls ≠ "java/lang/invoke/MethodHandle" ∧ (zy i).cls ≠ "java/lang/invoke/VarHandle") ∧ (parseMethodDescriptor (zy i).desc).map (fun d => d.parameters.length) = some (znp i) ∧ (zy i).cls = zRn (zow i) ∧ i < zlaw
def zCF (c : Nat) : Prop := zcl[c]? = some (zRn c, zT c, zN c) ∧ (∀ w ∈ u_ws (zRn c) (zT c) (zN c), w ∈ zTB) ∧ (∀ a, a < zN c → ∀ b, b < zN c → a ≠ b → (zT c a).2.1 ≠ (zT c b).2.1) ∧ (∀ k, k < zN c → parseFieldDescriptor (zT c k).2.2.1 = some (zTy c k))
def zfl_0 : List (Nat × Nat × Nat × Nat × Int) := [(0, 21, 3, 0, 3), (0, 15, 3, 25, 1), (0, 18, 3, 26, 2), (0, 11, 3, 24, 0), (0, 37, 3, 0, 8), (0, 31, 3, 0, 6), (0, 25, 3, 27, 4), (0, 28, 3, 28, 5), (0, 34, 3, 29, 7), (1, 15, 5, 0, 1), (1, 9, 5, 31, 0), (1, 31, 2, 22, 8), (1, 50, 3, 0, 3), (1, 55, 3, 24, 0), (1, 58, 3, 26, 2), (1, 61, 3, 25, 1), (2, 9, 2, 17, 0), (2, 15, 2, 18, 1), (2, 18, 2, 0, 2), (2, 34, 2, 0, 7)]
theorem zfl_ok_0 : ∀ x ∈ zfl_0, zFF x := List.forall_mem_cons.mpr ⟨⟨3, rfl, by decide +kernel, by decide +kernel, by decide +kernel, by decide +kernel, by decide +kernel, zin 170 (by decide +kernel) (by decide +kernel)⟩, List.forall_mem_cons.mpr ⟨⟨1, rfl, by decide +kernel, by decide +kernel, by decide +kernel, by decide +kernel, by decide +kernel, zin 166 (by decide +kernel) (by decide +kernel)⟩, List.forall_mem_cons.mpr ⟨⟨2, rfl, by decide +kernel, by decide +kernel, by decide +kernel, by decide +kernel, by decide +kernel, zin 168 (by decide +kernel) (by decide +kernel)⟩, List.forall_mem_cons.mpr ⟨⟨0, rfl, by decide +kernel, by decide +kernel, by decide +kernel, by decide +kernel, by decide +kernel, zin 163 (by decide +kernel) (by decide +kernel)⟩, List.forall_mem_cons.mpr ⟨⟨8, rfl, by decide +kernel, by decide +kernel, by decide +kernel, by decide +kernel, by decide +kernel, zin 176 (by decide +kernel) (by decide +kernel)⟩, List.forall_mem_cons.mpr ⟨⟨6, rfl, by decide +kernel, by decide +kernel, by decide +kernel, by decide +kernel, by decide +kernel, zin 174 (by decide +kernel) (by decide +kernel)⟩, List.forall_mem_cons.mpr ⟨⟨4, rfl, by decide +kernel, by decide +kernel, by decide +kernel, by decide +kernel, by decide +kernel, zin 172 (by decide +kernel) (by decide +kernel)⟩, List.forall_mem_cons.mpr ⟨⟨5, rfl, by decide +kernel, by decide +kernel, by decide +kernel, by decide +kernel, by decide +kernel, zin 173 (by decide +kernel) (by decide +kernel)⟩, List.forall_mem_cons.mpr ⟨⟨7, rfl, by decide +kernel, by decide +kernel, by decide +kernel, by decide +kernel, by decide +kernel, zin 175 (by decide +kernel) (by decide +kernel)⟩, List.forall_mem_cons.mpr ⟨⟨1, rfl, by decide +kernel, by decide +kernel, by decide +kernel, by decide +kernel, by decide +kernel, zin 230 (by decide +kernel) (by decide +kernel)⟩, List.forall_mem_cons.mpr ⟨⟨0, rfl, by decide +kernel, by decide +kernel, by decide +kernel, by decide +kernel, by decide +kernel, zin 229 (by decide +kernel) (by decide +kernel)⟩, List.forall_mem_cons.mpr ⟨⟨8, rfl, by decide +kernel, by decide +kernel, by decide +kernel, by decide +kernel, by decide +kernel, zin 124 (by decide +kernel) (by decide +kernel)⟩, List.forall_mem_cons.mpr ⟨⟨3, rfl, by decide +kernel, by decide +kernel, by decide +kernel, by decide +kernel, by decide +kernel, zin 171 (by decide +kernel) (by decide +kernel)⟩, List.forall_mem_cons.mpr ⟨⟨0, rfl, by decide +kernel, by decide +kernel, by decide +kernel, by decide +kernel, by decide +kernel, zin 164 (by decide +kernel) (by decide +kernel)⟩, List.forall_mem_cons.mpr ⟨⟨2, rfl, by decide +kernel, by decide +kernel, by decide +kernel, by decide +kernel, by decide +kernel, zin 169 (by decide +kernel) (by decide +kernel)⟩, List.forall_mem_cons.mpr ⟨⟨1, rfl, by decide +kernel, by decide +kernel, by decide +kernel, by decide +kernel, by decide +kernel, zin 167 (by decide +kernel) (by decide +kernel)⟩, List.forall_mem_cons.mpr ⟨⟨0, rfl, by decide +kernel, by decide +kernel, by decide +kernel, by decide +kernel, by decide +kernel, zin 109 (by decide +kernel) (by decide +kernel)⟩, List.forall_mem_cons.mpr ⟨⟨1, rfl, by decide +kernel, by decide +kernel, by decide +kernel, by decide +kernel, by decide +kernel, zin 110 (by decide +kernel) (by decide +kernel)⟩, List.forall_mem_cons.mpr ⟨⟨2, rfl, by decide +kernel, by decide +kernel, by decide +kernel, by decide +kernel, by decide +kernel, zin 111 (by decide +kernel) (by decide +kernel)⟩, List.forall_mem_cons.mpr ⟨⟨7, rfl, by decide +kernel, by decide +kernel, by decide +kernel, by decide +kernel, by decide +kernel, zin 121 (by decide +kernel) (by decide +kernel)⟩, fun _ h => absurd h List.not_mem_nil⟩⟩⟩⟩⟩⟩⟩⟩⟩⟩⟩⟩⟩⟩⟩⟩⟩⟩⟩⟩
def zfl_1 : List (Nat × Nat × Nat × Nat × Int) := [(2, 25, 2, 19, 4), (2, 28, 2, 20, 5), (2, 31, 2, 21, 6), (2, 43, 2, 0, 10), (2, 22, 2, 0, 3), (2, 37, 2, 22, 8), (2, 40, 2, 23, 9), (2, 46, 2, 0, 11), (3, 18, 8, 0, 2), (3, 22, 4, 0, 3), (3, 27, 4, 30, 2), (3, 15, 8, 38, 1), (3, 9, 8, 37, 0), (4, 29, 5, 0, 1), (4, 22, 6, 0, 3), (4, 26, 6, 0, 4), (4, 11, 6, 32, 0), (4, 15, 6, 33, 1), (4, 18, 6, 34, 2), (5, 9, 1, 13, 0)]
theorem zfl_ok_1 : ∀ x ∈ zfl_1, zFF x := List.forall_mem_cons.mpr ⟨⟨4, rfl, by decide +kernel, by decide +kernel, by decide +kernel, by decide +kernel, by decide +kernel, zin 115 (by decide +kernel) (by decide +kernel)⟩, List.forall_mem_cons.mpr ⟨⟨5, rfl, by decide +kernel, by decide +kernel, by decide +kernel, by decide +kernel, by decide +kernel, zin 117 (by decide +kernel) (by decide +kernel)⟩, List.forall_mem_cons.mpr ⟨⟨6, rfl, by decide +kernel, by decide +kernel, by decide +kernel, by decide +kernel, by decide +kernel, zin 119 (by decide +kernel) (by decide +kernel)⟩, List.forall_mem_cons.mpr ⟨⟨10, rfl, by decide +kernel, by decide +kernel, by decide +kernel, by decide +kernel, by decide +kernel, zin 128 (by decide +kernel) (by decide +kernel)⟩, List.forall_mem_cons.mpr ⟨⟨3, rfl, by decide +kernel, by decide +kernel, by decide +kernel, by decide +kernel, by decide +kernel, zin 113 (by decide +kernel) (by decide +kernel)⟩, List.forall_mem_cons.mpr ⟨⟨8, rfl, by decide +kernel, by decide +kernel, by decide +kernel, by decide +kernel, by decide +kernel, zin 123 (by decide +kernel) (by decide +kernel)⟩, List.forall_mem_cons.mpr ⟨⟨9, rfl, by decide +kernel, by decide +kernel, by decide +kernel, by decide +kernel, by decide +kernel, zin 126 (by decide +kernel) (by decide +kernel)⟩, List.forall_mem_cons.mpr ⟨⟨11, rfl, by decide +kernel, by decide +kernel, by decide +kernel, by decide +kernel, by decide +kernel, zin 130 (by decide +kernel) (by decide +kernel)⟩, List.forall_mem_cons.mpr ⟨⟨2, rfl, by decide +kernel, by decide +kernel, by decide +kernel, by decide +kernel, by decide +kernel, zin 284 (by decide +kernel) (by decide +kernel)⟩, List.forall_mem_cons.mpr ⟨⟨3, rfl, by decide +kernel, by decide +kernel, by decide +kernel, by decide +kernel, by decide +kernel, zin 211 (by decide +kernel) (by decide +kernel)⟩, List.forall_mem_cons.mpr ⟨⟨2, rfl, by decide +kernel, by decide +kernel, by decide +kernel, by decide +kernel, by decide +kernel, zin 208 (by decide +kernel) (by decide +kernel)⟩, List.forall_mem_cons.mpr ⟨⟨1, rfl, by decide +kernel, by decide +kernel, by decide +kernel, by decide +kernel, by decide +kernel, zin 282 (by decide +kernel) (by decide +kernel)⟩, List.forall_mem_cons.mpr ⟨⟨0, rfl, by decide +kernel, by decide +kernel, by decide +kernel, by decide +kernel, by decide +kernel, zin 280 (by decide +kernel) (by decide +kernel)⟩, List.forall_mem_cons.mpr ⟨⟨1, rfl, by decide +kernel, by decide +kernel, by decide +kernel, by decide +kernel, by decide +kernel, zin 231 (by decide +kernel) (by decide +kernel)⟩, List.forall_mem_cons.mpr ⟨⟨3, rfl, by decide +kernel, by decide +kernel, by decide +kernel, by decide +kernel, by decide +kernel, zin 247 (by decide +kernel) (by decide +kernel)⟩, List.forall_mem_cons.mpr ⟨⟨4, rfl, by decide +kernel, by decide +kernel, by decide +kernel, by decide +kernel, by decide +kernel, zin 248 (by decide +kernel) (by decide +kernel)⟩, List.forall_mem_cons.mpr ⟨⟨0, rfl, by decide +kernel, by decide +kernel, by decide +kernel, by decide +kernel, by decide +kernel, zin 244 (by decide +kernel) (by decide +kernel)⟩, List.forall_mem_cons.mpr ⟨⟨1, rfl, by decide +kernel, by decide +kernel, by decide +kernel, by decide +kernel, by decide +kernel, zin 245 (by decide +kernel) (by decide +kernel)⟩, List.forall_mem_cons.mpr ⟨⟨2, rfl, by decide +kernel, by decide +kernel, by decide +kernel, by decide +kernel, by decide +kernel, zin 246 (by decide +kernel) (by decide +kernel)⟩, List.forall_mem_cons.mpr ⟨⟨0, rfl, by decide +kernel, by decide +kernel, by decide +kernel, by decide +kernel, by decide +kernel, zin 84 (by decide +kernel) (by decide +kernel)⟩, fun _ h => absurd h List.not_mem_nil⟩⟩⟩⟩⟩⟩⟩⟩⟩⟩⟩⟩⟩⟩⟩⟩⟩⟩⟩⟩
def zfl_2 : List (Nat × Nat × Nat × Nat × Int) := [(5, 15, 1, 14, 1), (5, 19, 1, 15, 2), (5, 24, 1, 16, 3), (6, 11, 7, 35, 0), (6, 29, 5, 0, 1), (6, 15, 7, 36, 1), (7, 9, 4, 1, 0), (7, 15, 4, 0, 1), (7, 23, 4, 0, 3), (7, 19, 4, 30, 2), (8, 10, 0, 3, 0), (8, 95, 1, 13, 0), (8, 107, 1, 14, 1), (8, 110, 1, 16, 3), (8, 120, 1, 15, 2), (8, 19, 0, 4, 1), (8, 37, 0, 0, 4), (8, 130, 2, 0, 10), (8, 133, 2, 0, 3), (8, 145, 2, 22, 8)]
theorem zfl_ok_2 : ∀ x ∈ zfl_2, zFF x := List.forall_mem_cons.mpr ⟨⟨1, rfl, by decide +kernel, by decide +kernel, by decide +kernel, by decide +kernel, by decide +kernel, zin 86 (by decide +kernel) (by decide +kernel)⟩, List.forall_mem_cons.mpr ⟨⟨2, rfl, by decide +kernel, by decide +kernel, by decide +kernel, by decide +kernel, by decide +kernel, zin 88 (by decide +kernel) (by decide +kernel)⟩, List.forall_mem_cons.mpr ⟨⟨3, rfl, by decide +kernel, by decide +kernel, by decide +kernel, by decide +kernel, by decide +kernel, zin 90 (by decide +kernel) (by decide +kernel)⟩, List.forall_mem_cons.mpr ⟨⟨0, rfl, by decide +kernel, by decide +kernel, by decide +kernel, by decide +kernel, by decide +kernel, zin 266 (by decide +kernel) (by decide +kernel)⟩, List.forall_mem_cons.mpr ⟨⟨1, rfl, by decide +kernel, by decide +kernel, by decide +kernel, by decide +kernel, by decide +kernel, zin 232 (by decide +kernel) (by decide +kernel)⟩, List.forall_mem_cons.mpr ⟨⟨1, rfl, by decide +kernel, by decide +kernel, by decide +kernel, by decide +kernel, by decide +kernel, zin 267 (by decide +kernel) (by decide +kernel)⟩, List.forall_mem_cons.mpr ⟨⟨0, rfl, by decide +kernel, by decide +kernel, by decide +kernel, by decide +kernel, by decide +kernel, zin 203 (by decide +kernel) (by decide +kernel)⟩, List.forall_mem_cons.mpr ⟨⟨1, rfl, by decide +kernel, by decide +kernel, by decide +kernel, by decide +kernel, by decide +kernel, zin 205 (by decide +kernel) (by decide +kernel)⟩, List.forall_mem_cons.mpr ⟨⟨3, rfl, by decide +kernel, by decide +kernel, by decide +kernel, by decide +kernel, by decide +kernel, zin 210 (by decide +kernel) (by decide +kernel)⟩, List.forall_mem_cons.mpr ⟨⟨2, rfl, by decide +kernel, by decide +kernel, by decide +kernel, by decide +kernel, by decide +kernel, zin 207 (by decide +kernel) (by decide +kernel)⟩, List.forall_mem_cons.mpr ⟨⟨0, rfl, by decide +kernel, by decide +kernel, by decide +kernel, by decide +kernel, by decide +kernel, zin 293 (by decide +kernel) (by decide +kernel)⟩, List.forall_mem_cons.mpr ⟨⟨0, rfl, by decide +kernel, by decide +kernel, by decide +kernel, by decide +kernel, by decide +kernel, zin 85 (by decide +kernel) (by decide +kernel)⟩, List.forall_mem_cons.mpr ⟨⟨1, rfl, by decide +kernel, by decide +kernel, by decide +kernel, by decide +kernel, by decide +kernel, zin 87 (by decide +kernel) (by decide +kernel)⟩, List.forall_mem_cons.mpr ⟨⟨3, rfl, by decide +kernel, by decide +kernel, by decide +kernel, by decide +kernel, by decide +kernel, zin 91 (by decide +kernel) (by decide +kernel)⟩, List.forall_mem_cons.mpr ⟨⟨2, rfl, by decide +kernel, by decide +kernel, by decide +kernel, by decide +kernel, by decide +kernel, zin 89 (by decide +kernel) (by decide +kernel)⟩, List.forall_mem_cons.mpr ⟨⟨1, rfl, by decide +kernel, by decide +kernel, by decide +kernel, by decide +kernel, by decide +kernel, zin 294 (by decide +kernel) (by decide +kernel)⟩, List.forall_mem_cons.mpr ⟨⟨4, rfl, by decide +kernel, by decide +kernel, by decide +kernel, by decide +kernel, by decide +kernel, zin 297 (by decide +kernel) (by decide +kernel)⟩, List.forall_mem_cons.mpr ⟨⟨10, rfl, by decide +kernel, by decide +kernel, by decide +kernel, by decide +kernel, by decide +kernel, zin 129 (by decide +kernel) (by decide +kernel)⟩, List.forall_mem_cons.mpr ⟨⟨3, rfl, by decide +kernel, by decide +kernel, by decide +kernel, by decide +kernel, by decide +kernel, zin 114 (by decide +kernel) (by decide +kernel)⟩, List.forall_mem_cons.mpr ⟨⟨8, rfl, by decide +kernel, by decide +kernel, by decide +kernel, by decide +kernel, by decide +kernel, zin 125 (by decide +kernel) (by decide +kernel)⟩, fun _ h => absurd h List.not_mem_nil⟩⟩⟩⟩⟩⟩⟩⟩⟩⟩⟩⟩⟩⟩⟩⟩⟩⟩⟩⟩
def zfl_3 : List (Nat × Nat × Nat × Nat × Int) := [(8, 148, 2, 23, 9), (8, 151, 2, 19, 4), (8, 154, 2, 20, 5), (8, 157, 2, 21, 6), (8, 160, 2, 0, 11), (8, 26, 0, 5, 2), (8, 185, 3, 24, 0), (8, 33, 0, 6, 3), (8, 190, 4, 0, 1), (8, 197, 4, 1, 0), (8, 206, 4, 0, 3), (8, 209, 4, 30, 2), (8, 65, 0, 10, 8), (8, 44, 0, 7, 5), (8, 58, 0, 9, 7), (8, 224, 8, 0, 2), (8, 228, 8, 37, 0), (8, 231, 8, 38, 1), (8, 51, 0, 8, 6), (8, 257, 3, 0, 8)]
theorem zfl_ok_3 : ∀ x ∈ zfl_3, zFF x := List.forall_mem_cons.mpr ⟨⟨9, rfl, by decide +kernel, by decide +kernel, by decide +kernel, by decide +kernel, by decide +kernel, zin 127 (by decide +kernel) (by decide +kernel)⟩, List.forall_mem_cons.mpr ⟨⟨4, rfl, by decide +kernel, by decide +kernel, by decide +kernel, by decide +kernel, by decide +kernel, zin 116 (by decide +kernel) (by decide +kernel)⟩, List.forall_mem_cons.mpr ⟨⟨5, rfl, by decide +kernel, by decide +kernel, by decide +kernel, by decide +kernel, by decide +kernel, zin 118 (by decide +kernel) (by decide +kernel)⟩, List.forall_mem_cons.mpr ⟨⟨6, rfl, by decide +kernel, by decide +kernel, by decide +kernel, by decide +kernel, by decide +kernel, zin 120 (by decide +kernel) (by decide +kernel)⟩, List.forall_mem_cons.mpr ⟨⟨11, rfl, by decide +kernel, by decide +kernel, by decide +kernel, by decide +kernel, by decide +kernel, zin 131 (by decide +kernel) (by decide +kernel)⟩, List.forall_mem_cons.mpr ⟨⟨2, rfl, by decide +kernel, by decide +kernel, by decide +kernel, by decide +kernel, by decide +kernel, zin 295 (by decide +kernel) (by decide +kernel)⟩, List.forall_mem_cons.mpr ⟨⟨0, rfl, by decide +kernel, by decide +kernel, by decide +kernel, by decide +kernel, by decide +kernel, zin 165 (by decide +kernel) (by decide +kernel)⟩, List.forall_mem_cons.mpr ⟨⟨3, rfl, by decide +kernel, by decide +kernel, by decide +kernel, by decide +kernel, by decide +kernel, zin 296 (by decide +kernel) (by decide +kernel)⟩, List.forall_mem_cons.mpr ⟨⟨1, rfl, by decide +kernel, by decide +kernel, by decide +kernel, by decide +kernel, by decide +kernel, zin 206 (by decide +kernel) (by decide +kernel)⟩, List.forall_mem_cons.mpr ⟨⟨0, rfl, by decide +kernel, by decide +kernel, by decide +kernel, by decide +kernel, by decide +kernel, zin 204 (by decide +kernel) (by decide +kernel)⟩, List.forall_mem_cons.mpr ⟨⟨3, rfl, by decide +kernel, by decide +kernel, by decide +kernel, by decide +kernel, by decide +kernel, zin 212 (by decide +kernel) (by decide +kernel)⟩, List.forall_mem_cons.mpr ⟨⟨2, rfl, by decide +kernel, by decide +kernel, by decide +kernel, by decide +kernel, by decide +kernel, zin 209 (by decide +kernel) (by decide +kernel)⟩, List.forall_mem_cons.mpr ⟨⟨8, rfl, by decide +kernel, by decide +kernel, by decide +kernel, by decide +kernel, by decide +kernel, zin 301 (by decide +kernel) (by decide +kernel)⟩, List.forall_mem_cons.mpr ⟨⟨5, rfl, by decide +kernel, by decide +kernel, by decide +kernel, by decide +kernel, by decide +kernel, zin 298 (by decide +kernel) (by decide +kernel)⟩, List.forall_mem_cons.mpr ⟨⟨7, rfl, by decide +kernel, by decide +kernel, by decide +kernel, by decide +kernel, by decide +kernel, zin 300 (by decide +kernel) (by decide +kernel)⟩, List.forall_mem_cons.mpr ⟨⟨2, rfl, by decide +kernel, by decide +kernel, by decide +kernel, by decide +kernel, by decide +kernel, zin 285 (by decide +kernel) (by decide +kernel)⟩, List.forall_mem_cons.mpr ⟨⟨0, rfl, by decide +kernel, by decide +kernel, by decide +kernel, by decide +kernel, by decide +kernel, zin 281 (by decide +kernel) (by decide +kernel)⟩, List.forall_mem_cons.mpr ⟨⟨1, rfl, by decide +kernel, by decide +kernel, by decide +kernel, by decide +kernel, by decide +kernel, zin 283 (by decide +kernel) (by decide +kernel)⟩, List.forall_mem_cons.mpr ⟨⟨6, rfl, by decide +kernel, by decide +kernel, by decide +kernel, by decide +kernel, by decide +kernel, zin 299 (by decide +kernel) (by decide +kernel)⟩, List.forall_mem_cons.mpr ⟨⟨8, rfl, by decide +kernel, by decide +kernel, by decide +kernel, by decide +kernel, by decide +kernel, zin 177 (by decide +kernel) (by decide +kernel)⟩, fun _ h => absurd h List.not_mem_nil⟩⟩⟩⟩⟩⟩⟩⟩⟩⟩⟩⟩⟩⟩⟩⟩⟩⟩⟩⟩
def zfl_4 : List (Nat × Nat × Nat × Nat × Int) := [(8, 73, 0, 0, 10), (8, 69, 0, 12, 9), (8, 284, 2, 0, 2), (8, 287, 2, 0, 7), (8, 76, 0, 0, 11), (8, 315, 7, 36, 1), (9, 101, 9, 0, 4), (9, 7, 9, 39, 0), (9, 13, 9, 40, 1), (9, 16, 9, 41, 2), (9, 19, 9, 42, 3), (9, 69, 9, 57, 29), (9, 128, 9, 0, 13), (9, 131, 9, 0, 5), (9, 28, 9, 45, 8), (9, 22, 9, 43, 6), (9, 34, 9, 0, 12), (9, 38, 9, 47, 14), (9, 41, 9, 48, 15), (9, 134, 9, 0, 11)]
theorem zfl_ok_4 : ∀ x ∈ zfl_4, zFF x := List.forall_mem_cons.mpr ⟨⟨10, rfl, by decide +kernel, by decide +kernel, by decide +kernel, by decide +kernel, by decide +kernel, zin 303 (by decide +kernel) (by decide +kernel)⟩, List.forall_mem_cons.mpr ⟨⟨9, rfl, by decide +kernel, by decide +kernel, by decide +kernel, by decide +kernel, by decide +kernel, zin 302 (by decide +kernel) (by decide +kernel)⟩, List.forall_mem_cons.mpr ⟨⟨2, rfl, by decide +kernel, by decide +kernel, by decide +kernel, by decide +kernel, by decide +kernel, zin 112 (by decide +kernel) (by decide +kernel)⟩, List.forall_mem_cons.mpr ⟨⟨7, rfl, by decide +kernel, by decide +kernel, by decide +kernel, by decide +kernel, by decide +kernel, zin 122 (by decide +kernel) (by decide +kernel)⟩, List.forall_mem_cons.mpr ⟨⟨11, rfl, by decide +kernel, by decide +kernel, by decide +kernel, by decide +kernel, by decide +kernel, zin 304 (by decide +kernel) (by decide +kernel)⟩, List.forall_mem_cons.mpr ⟨⟨1, rfl, by decide +kernel, by decide +kernel, by decide +kernel, by decide +kernel, by decide +kernel, zin 268 (by decide +kernel) (by decide +kernel)⟩, List.forall_mem_cons.mpr ⟨⟨4, rfl, by decide +kernel, by decide +kernel, by decide +kernel, by decide +kernel, by decide +kernel, zin 782 (by decide +kernel) (by decide +kernel)⟩, List.forall_mem_cons.mpr ⟨⟨0, rfl, by decide +kernel, by decide +kernel, by decide +kernel, by decide +kernel, by decide +kernel, zin 778 (by decide +kernel) (by decide +kernel)⟩, List.forall_mem_cons.mpr ⟨⟨1, rfl, by decide +kernel, by decide +kernel, by decide +kernel, by decide +kernel, by decide +kernel, zin 779 (by decide +kernel) (by decide +kernel)⟩, List.forall_mem_cons.mpr ⟨⟨2, rfl, by decide +kernel, by decide +kernel, by decide +kernel, by decide +kernel, by decide +kernel, zin 780 (by decide +kernel) (by decide +kernel)⟩, List.forall_mem_cons.mpr ⟨⟨3, rfl, by decide +kernel, by decide +kernel, by decide +kernel, by decide +kernel, by decide +kernel, zin 781 (by decide +kernel) (by decide +kernel)⟩, List.forall_mem_cons.mpr ⟨⟨29, rfl, by decide +kernel, by decide +kernel, by decide +kernel, by decide +kernel, by decide +kernel, zin 807 (by decide +kernel) (by decide +kernel)⟩, List.forall_mem_cons.mpr ⟨⟨13, rfl, by decide +kernel, by decide +kernel, by decide +kernel, by decide +kernel, by decide +kernel, zin 791 (by decide +kernel) (by decide +kernel)⟩, List.forall_mem_cons.mpr ⟨⟨5, rfl, by decide +kernel, by decide +kernel, by decide +kernel, by decide +kernel, by decide +kernel, zin 783 (by decide +kernel) (by decide +kernel)⟩, List.forall_mem_cons.mpr ⟨⟨8, rfl, by decide +kernel, by decide +kernel, by decide +kernel, by decide +kernel, by decide +kernel, zin 786 (by decide +kernel) (by decide +kernel)⟩, List.forall_mem_cons.mpr ⟨⟨6, rfl, by decide +kernel, by decide +kernel, by decide +kernel, by decide +kernel, by decide +kernel, zin 784 (by decide +kernel) (by decide +kernel)⟩, List.forall_mem_cons.mpr ⟨⟨12, rfl, by decide +kernel, by decide +kernel, by decide +kernel, by decide +kernel, by decide +kernel, zin 790 (by decide +kernel) (by decide +kernel)⟩, List.forall_mem_cons.mpr ⟨⟨14, rfl, by decide +kernel, by decide +kernel, by decide +kernel, by decide +kernel, by decide +kernel, zin 792 (by decide +kernel) (by decide +kernel)⟩, List.forall_mem_cons.mpr ⟨⟨15, rfl, by decide +kernel, by decide +kernel, by decide +kernel, by decide +kernel, by decide +kernel, zin 793 (by decide +kernel) (by decide +kernel)⟩, List.forall_mem_cons.mpr ⟨⟨11, rfl, by decide +kernel, by decide +kernel, by decide +kernel, by decide +kernel, by decide +kernel, zin 789 (by decide +kernel) (by decide +kernel)⟩, fun _ h => absurd h List.not_mem_nil⟩⟩⟩⟩⟩⟩⟩⟩⟩⟩⟩⟩⟩⟩⟩⟩⟩⟩⟩⟩
def zfl_5 : List (Nat × Nat × Nat × Nat × Int) := [(9, 137, 9, 0, 9), (9, 31, 9, 46, 10), (9, 25, 9, 44, 7), (9, 170, 9, 0, 20), (9, 48, 9, 50, 18), (9, 173, 9, 0, 17), (9, 51, 9, 51, 19), (9, 45, 9, 49, 16), (9, 190, 9, 0, 25), (9, 63, 9, 55, 26), (9, 194, 9, 0, 22), (9, 57, 9, 53, 23), (9, 60, 9, 54, 24), (9, 86, 9, 62, 34), (9, 89, 9, 63, 35), (9, 95, 9, 65, 37), (9, 92, 9, 64, 36), (9, 73, 9, 58, 30), (9, 76, 9, 59, 31), (9, 79, 9, 60, 32)]
theorem zfl_ok_5 : ∀ x ∈ zfl_5, zFF x := List.forall_mem_cons.mpr ⟨⟨9, rfl, by decide +kernel, by decide +kernel, by decide +kernel, by decide +kernel, by decide +kernel, zin 787 (by decide +kernel) (by decide +kernel)⟩, List.forall_mem_cons.mpr ⟨⟨10, rfl, by decide +kernel, by decide +kernel, by decide +kernel, by decide +kernel, by decide +kernel, zin 788 (by decide +kernel) (by decide +kernel)⟩, List.forall_mem_cons.mpr ⟨⟨7, rfl, by decide +kernel, by decide +kernel, by decide +kernel, by decide +kernel, by decide +kernel, zin 785 (by decide +kernel) (by decide +kernel)⟩, List.forall_mem_cons.mpr ⟨⟨20, rfl, by decide +kernel, by decide +kernel, by decide +kernel, by decide +kernel, by decide +kernel, zin 798 (by decide +kernel) (by decide +kernel)⟩, List.forall_mem_cons.mpr ⟨⟨18, rfl, by decide +kernel, by decide +kernel, by decide +kernel, by decide +kernel, by decide +kernel, zin 796 (by decide +kernel) (by decide +kernel)⟩, List.forall_mem_cons.mpr ⟨⟨17, rfl, by decide +kernel, by decide +kernel, by decide +kernel, by decide +kernel, by decide +kernel, zin 795 (by decide +kernel) (by decide +kernel)⟩, List.forall_mem_cons.mpr ⟨⟨19, rfl, by decide +kernel, by decide +kernel, by decide +kernel, by decide +kernel, by decide +kernel, zin 797 (by decide +kernel) (by decide +kernel)⟩, List.forall_mem_cons.mpr ⟨⟨16, rfl, by decide +kernel, by decide +kernel, by decide +kernel, by decide +kernel, by decide +kernel, zin 794 (by decide +kernel) (by decide +kernel)⟩, List.forall_mem_cons.mpr ⟨⟨25, rfl, by decide +kernel, by decide +kernel, by decide +kernel, by decide +kernel, by decide +kernel, zin 803 (by decide +kernel) (by decide +kernel)⟩, List.forall_mem_cons.mpr ⟨⟨26, rfl, by decide +kernel, by decide +kernel, by decide +kernel, by decide +kernel, by decide +kernel, zin 804 (by decide +kernel) (by decide +kernel)⟩, List.forall_mem_cons.mpr ⟨⟨22, rfl, by decide +kernel, by decide +kernel, by decide +kernel, by decide +kernel, by decide +kernel, zin 800 (by decide +kernel) (by decide +kernel)⟩, List.forall_mem_cons.mpr ⟨⟨23, rfl, by decide +kernel, by decide +kernel, by decide +kernel, by decide +kernel, by decide +kernel, zin 801 (by decide +kernel) (by decide +kernel)⟩, List.forall_mem_cons.mpr ⟨⟨24, rfl, by decide +kernel, by decide +kernel, by decide +kernel, by decide +kernel, by decide +kernel, zin 802 (by decide +kernel) (by decide +kernel)⟩, List.forall_mem_cons.mpr ⟨⟨34, rfl, by decide +kernel, by decide +kernel, by decide +kernel, by decide +kernel, by decide +kernel, zin 812 (by decide +kernel) (by decide +kernel)⟩, List.forall_mem_cons.mpr ⟨⟨35, rfl, by decide +kernel, by decide +kernel, by decide +kernel, by decide +kernel, by decide +kernel, zin 813 (by decide +kernel) (by decide +kernel)⟩, List.forall_mem_cons.mpr ⟨⟨37, rfl, by decide +kernel, by decide +kernel, by decide +kernel, by decide +kernel, by decide +kernel, zin 815 (by decide +kernel) (by decide +kernel)⟩, List.forall_mem_cons.mpr ⟨⟨36, rfl, by decide +kernel, by decide +kernel, by decide +kernel, by decide +kernel, by decide +kernel, zin 814 (by decide +kernel) (by decide +kernel)⟩, List.forall_mem_cons.mpr ⟨⟨30, rfl, by decide +kernel, by decide +kernel, by decide +kernel, by decide +kernel, by decide +kernel, zin 808 (by decide +kernel) (by decide +kernel)⟩, List.forall_mem_cons.mpr ⟨⟨31, rfl, by decide +kernel, by decide +kernel, by decide +kernel, by decide +kernel, by decide +kernel, zin 809 (by decide +kernel) (by decide +kernel)⟩, List.forall_mem_cons.mpr ⟨⟨32, rfl, by decide +kernel, by decide +kernel, by decide +kernel, by decide +kernel, by decide +kernel, zin 810 (by decide +kernel) (by decide +kernel)⟩, fun _ h => absurd h List.not_mem_nil⟩⟩⟩⟩⟩⟩⟩⟩⟩⟩⟩⟩⟩⟩⟩⟩⟩⟩⟩⟩
def zfl_6 : List (Nat × Nat × Nat × Nat × Int) := [(9, 83, 9, 61, 33), (9, 54, 9, 52, 21), (9, 98, 9, 66, 38), (9, 255, 9, 0, 28), (9, 66, 9, 56, 27)]
theorem zfl_ok_6 : ∀ x ∈ zfl_6, zFF x := List.forall_mem_cons.mpr ⟨⟨33, rfl, by decide +kernel, by decide +kernel, by decide +kernel, by decide +kernel, by decide +kernel, zin 811 (by decide +kernel) (by decide +kernel)⟩, List.forall_mem_cons.mpr ⟨⟨21, rfl, by decide +kernel, by decide +kernel, by decide +kernel, by decide +kernel, by decide +kernel, zin 799 (by decide +kernel) (by decide +kernel)⟩, List.forall_mem_cons.mpr ⟨⟨38, rfl, by decide +kernel, by decide +kernel, by decide +kernel, by decide +kernel, by decide +kernel, zin 816 (by decide +kernel) (by decide +kernel)⟩, List.forall_mem_cons.mpr ⟨⟨28, rfl, by decide +kernel, by decide +kernel, by decide +kernel, by decide +kernel, by decide +kernel, zin 806 (by decide +kernel) (by decide +kernel)⟩, List.forall_mem_cons.mpr ⟨⟨27, rfl, by decide +kernel, by decide +kernel, by decide +kernel, by decide +kernel, by decide +kernel, zin 805 (by decide +kernel) (by decide +kernel)⟩, fun _ h => absurd h List.not_mem_nil⟩⟩⟩⟩⟩
def zfl : List (Nat × Nat × Nat × Nat × Int) := zfl_0 ++ (zfl_1 ++ (zfl_2 ++ (zfl_3 ++ (zfl_4 ++ (zfl_5 ++ (zfl_6))))))
theorem zfl_ok : ∀ x ∈ zfl, zFF x := by
  show ∀ x ∈ zfl_0 ++ (zfl_1 ++ (zfl_2 ++ (zfl_3 ++ (zfl_4 ++ (zfl_5 ++ (zfl_6)))))), zFF x
  exact List.forall_mem_append.mpr ⟨zfl_ok_0, List.forall_mem_append.mpr ⟨zfl_ok_1, List.forall_mem_append.mpr ⟨zfl_ok_2, List.forall_mem_append.mpr ⟨zfl_ok_3, List.forall_mem_append.mpr ⟨zfl_ok_4, List.forall_mem_append.mpr ⟨zfl_ok_5, zfl_ok_6⟩⟩⟩⟩⟩⟩
def zkc_0 : List (Nat × Nat × Int) := [(4, 80, 1000000), (6, 22, 1000000), (8, 83, -1000001), (8, 178, -1000003), (8, 205, -1000002), (8, 227, -1000000), (8, 296, -1000010), (9, 104, -1000010), (9, 117, -1000001), (9, 189, 48984), (9, 193, -1000003), (9, 197, -1000000), (9, 202, -1000002), (9, 203, 1000000000), (9, 44, 49660)]
theorem zkc_ok_0 : ∀ x ∈ zkc_0, zKF x := List.forall_mem_cons.mpr ⟨⟨zin 599 (by decide +kernel) (by decide +kernel), by decide +kernel, by decide +kernel⟩, List.forall_mem_cons.mpr ⟨⟨zin 620 (by decide +kernel) (by decide +kernel), by decide +kernel, by decide +kernel⟩, List.forall_mem_cons.mpr ⟨⟨zin 337 (by decide +kernel) (by decide +kernel), by decide +kernel, by decide +kernel⟩, List.forall_mem_cons.mpr ⟨⟨zin 474 (by decide +kernel) (by decide +kernel), by decide +kernel, by decide +kernel⟩, List.forall_mem_cons.mpr ⟨⟨zin 514 (by decide +kernel) (by decide +kernel), by decide +kernel, by decide +kernel⟩, List.forall_mem_cons.mpr ⟨⟨zin 633 (by decide +kernel) (by decide +kernel), by decide +kernel, by decide +kernel⟩, List.forall_mem_cons.mpr ⟨⟨zin 342 (by decide +kernel) (by decide +kernel), by decide +kernel, by decide +kernel⟩, List.forall_mem_cons.mpr ⟨⟨zin 913 (by decide +kernel) (by decide +kernel), by decide +kernel, by decide +kernel⟩, List.forall_mem_cons.mpr ⟨⟨zin 908 (by decide +kernel) (by decide +kernel), by decide +kernel, by decide +kernel⟩, List.forall_mem_cons.mpr ⟨⟨zin 1003 (by decide +kernel) (by decide +kernel), by decide +kernel, by decide +kernel⟩, List.forall_mem_cons.mpr ⟨⟨zin 1008 (by decide +kernel) (by decide +kernel), by decide +kernel, by decide +kernel⟩, List.forall_mem_cons.mpr ⟨⟨zin 1017 (by decide +kernel) (by decide +kernel), by decide +kernel, by decide +kernel⟩, List.forall_mem_cons.mpr ⟨⟨zin 1018 (by decide +kernel) (by decide +kernel), by decide +kernel, by decide +kernel⟩, List.forall_mem_cons.mpr ⟨⟨zin 1031 (by decide +kernel) (by decide +kernel), by decide +kernel, by decide +kernel⟩, List.forall_mem_cons.mpr ⟨⟨zin 777 (by decide +kernel) (by decide +kernel), by decide +kernel, by decide +kernel⟩, fun _ h => absurd h List.not_mem_nil⟩⟩⟩⟩⟩⟩⟩⟩⟩⟩⟩⟩⟩⟩⟩
def zkc : List (Nat × Nat × Int) := zkc_0
theorem zkc_ok : ∀ x ∈ zkc, zKF x := by
  show ∀ x ∈ zkc_0, zKF x
  exact zkc_ok_0
def zkL_0 : List (Nat × Nat × Int) := [(8, 306, 31), (9, 105, 7), (9, 115, 2), (9, 144, 40), (9, 146, 2000), (9, 148, 12), (9, 153, 100), (9, 161, 25), (9, 166, 3), (9, 168, 11), (9, 180, 99), (9, 219, 31), (9, 233, 4), (9, 235, -2)]
theorem zkL_ok_0 : ∀ x ∈ zkL_0, zKLF x := List.forall_mem_cons.mpr ⟨⟨zin 603 (by decide +kernel) (by decide +kernel), by decide +kernel, by decide +kernel⟩, List.forall_mem_cons.mpr ⟨⟨zin 903 (by decide +kernel) (by decide +kernel), by decide +kernel, by decide +kernel⟩, List.forall_mem_cons.mpr ⟨⟨zin 907 (by decide +kernel) (by decide +kernel), by decide +kernel, by decide +kernel⟩, List.forall_mem_cons.mpr ⟨⟨zin 934 (by decide +kernel) (by decide +kernel), by decide +kernel, by decide +kernel⟩, List.forall_mem_cons.mpr ⟨⟨zin 935 (by decide +kernel) (by decide +kernel), by decide +kernel, by decide +kernel⟩, List.forall_mem_cons.mpr ⟨⟨zin 936 (by decide +kernel) (by decide +kernel), by decide +kernel, by decide +kernel⟩, List.forall_mem_cons.mpr ⟨⟨zin 953 (by decide +kernel) (by decide +kernel), by decide +kernel, by decide +kernel⟩, List.forall_mem_cons.mpr ⟨⟨zin 984 (by decide +kernel) (by decide +kernel), by decide +kernel, by decide +kernel⟩, List.forall_mem_cons.mpr ⟨⟨zin 985 (by decide +kernel) (by decide +kernel), by decide +kernel, by decide +kernel⟩, List.forall_mem_cons.mpr ⟨⟨zin 986 (by decide +kernel) (by decide +kernel), by decide +kernel, by decide +kernel⟩, List.forall_mem_cons.mpr ⟨⟨zin 987 (by decide +kernel) (by decide +kernel), by decide +kernel, by decide +kernel⟩, List.forall_mem_cons.mpr ⟨⟨zin 1064 (by decide +kernel) (by decide +kernel), by decide +kernel, by decide +kernel⟩, List.forall_mem_cons.mpr ⟨⟨zin 1040 (by decide +kernel) (by decide +kernel), by decide +kernel, by decide +kernel⟩, List.forall_mem_cons.mpr ⟨⟨zin 1041 (by decide +kernel) (by decide +kernel), by decide +kernel, by decide +kernel⟩, fun _ h => absurd h List.not_mem_nil⟩⟩⟩⟩⟩⟩⟩⟩⟩⟩⟩⟩⟩⟩
def zkL : List (Nat × Nat × Int) := zkL_0
theorem zkL_ok : ∀ x ∈ zkL, zKLF x := by
  show ∀ x ∈ zkL_0, zKLF x
  exact zkL_ok_0
def zvl_0 : List (Nat × Nat × Nat) := [(0, 40, 0), (0, 52, 8), (1, 19, 21), (1, 34, 22), (1, 42, 23), (1, 46, 10), (2, 49, 15), (2, 52, 16), (2, 55, 17), (2, 58, 18), (2, 61, 19), (2, 65, 20), (3, 31, 44), (3, 37, 25), (4, 42, 28), (4, 46, 13), (4, 49, 29), (4, 53, 31), (4, 63, 32), (4, 67, 5)]
theorem zvl_ok_0 : ∀ x ∈ zvl_0, zVF x := List.forall_mem_cons.mpr ⟨⟨zin 470 (by decide +kernel) (by decide +kernel), zin 471 (by decide +kernel) (by decide +kernel), zin 472 (by decide +kernel) (by decide +kernel)⟩, List.forall_mem_cons.mpr ⟨⟨zin 759 (by decide +kernel) (by decide +kernel), zin 761 (by decide +kernel) (by decide +kernel), zin 31 (by decide +kernel) (by decide +kernel)⟩, List.forall_mem_cons.mpr ⟨⟨zin 535 (by decide +kernel) (by decide +kernel), zin 436 (by decide +kernel) (by decide +kernel), zin 437 (by decide +kernel) (by decide +kernel)⟩, List.forall_mem_cons.mpr ⟨⟨zin 537 (by decide +kernel) (by decide +kernel), zin 538 (by decide +kernel) (by decide +kernel), zin 539 (by decide +kernel) (by decide +kernel)⟩, List.forall_mem_cons.mpr ⟨⟨zin 545 (by decide +kernel) (by decide +kernel), zin 546 (by decide +kernel) (by decide +kernel), zin 547 (by decide +kernel) (by decide +kernel)⟩, List.forall_mem_cons.mpr ⟨⟨zin 549 (by decide +kernel) (by decide +kernel), zin 551 (by decide +kernel) (by decide +kernel), zin 9 (by decide +kernel) (by decide +kernel)⟩, List.forall_mem_cons.mpr ⟨⟨zin 389 (by decide +kernel) (by decide +kernel), zin 390 (by decide +kernel) (by decide +kernel), zin 391 (by decide +kernel) (by decide +kernel)⟩, List.forall_mem_cons.mpr ⟨⟨zin 393 (by decide +kernel) (by decide +kernel), zin 395 (by decide +kernel) (by decide +kernel), zin 2 (by decide +kernel) (by decide +kernel)⟩, List.forall_mem_cons.mpr ⟨⟨zin 397 (by decide +kernel) (by decide +kernel), zin 399 (by decide +kernel) (by decide +kernel), zin 3 (by decide +kernel) (by decide +kernel)⟩, List.forall_mem_cons.mpr ⟨⟨zin 401 (by decide +kernel) (by decide +kernel), zin 403 (by decide +kernel) (by decide +kernel), zin 4 (by decide +kernel) (by decide +kernel)⟩, List.forall_mem_cons.mpr ⟨⟨zin 405 (by decide +kernel) (by decide +kernel), zin 407 (by decide +kernel) (by decide +kernel), zin 5 (by decide +kernel) (by decide +kernel)⟩, List.forall_mem_cons.mpr ⟨⟨zin 415 (by decide +kernel) (by decide +kernel), zin 417 (by decide +kernel) (by decide +kernel), zin 6 (by decide +kernel) (by decide +kernel)⟩, List.forall_mem_cons.mpr ⟨⟨zin 612 (by decide +kernel) (by decide +kernel), zin 613 (by decide +kernel) (by decide +kernel), zin 614 (by decide +kernel) (by decide +kernel)⟩, List.forall_mem_cons.mpr ⟨⟨zin 629 (by decide +kernel) (by decide +kernel), zin 631 (by decide +kernel) (by decide +kernel), zin 18 (by decide +kernel) (by decide +kernel)⟩, List.forall_mem_cons.mpr ⟨⟨zin 564 (by decide +kernel) (by decide +kernel), zin 566 (by decide +kernel) (by decide +kernel), zin 10 (by decide +kernel) (by decide +kernel)⟩, List.forall_mem_cons.mpr ⟨⟨zin 568 (by decide +kernel) (by decide +kernel), zin 569 (by decide +kernel) (by decide +kernel), zin 570 (by decide +kernel) (by decide +kernel)⟩, List.forall_mem_cons.mpr ⟨⟨zin 572 (by decide +kernel) (by decide +kernel), zin 574 (by decide +kernel) (by decide +kernel), zin 11 (by decide +kernel) (by decide +kernel)⟩, List.forall_mem_cons.mpr ⟨⟨zin 604 (by decide +kernel) (by decide +kernel), zin 606 (by decide +kernel) (by decide +kernel), zin 16 (by decide +kernel) (by decide +kernel)⟩, List.forall_mem_cons.mpr ⟨⟨zin 578 (by decide +kernel) (by decide +kernel), zin 580 (by decide +kernel) (by decide +kernel), zin 12 (by decide +kernel) (by decide +kernel)⟩, List.forall_mem_cons.mpr ⟨⟨zin 590 (by decide +kernel) (by decide +kernel), zin 591 (by decide +kernel) (by decide +kernel), zin 592 (by decide +kernel) (by decide +kernel)⟩, fun _ h => absurd h List.not_mem_nil⟩⟩⟩⟩⟩⟩⟩⟩⟩⟩⟩⟩⟩⟩⟩⟩⟩⟩⟩⟩
def zvl_1 : List (Nat × Nat × Nat) := [(4, 72, 30), (4, 81, 33), (4, 85, 34), (4, 89, 35), (4, 93, 37), (6, 39, 45), (6, 49, 13), (8, 84, 76), (8, 88, 39), (8, 92, 77), (8, 99, 40), (8, 103, 41), (8, 123, 42), (8, 126, 14), (8, 136, 15), (8, 139, 79), (8, 142, 21), (8, 174, 1), (8, 179, 2), (8, 182, 0)]
theorem zvl_ok_1 : ∀ x ∈ zvl_1, zVF x := List.forall_mem_cons.mpr ⟨⟨zin 595 (by decide +kernel) (by decide +kernel), zin 597 (by decide +kernel) (by decide +kernel), zin 15 (by decide +kernel) (by decide +kernel)⟩, List.forall_mem_cons.mpr ⟨⟨zin 582 (by decide +kernel) (by decide +kernel), zin 584 (by decide +kernel) (by decide +kernel), zin 13 (by decide +kernel) (by decide +kernel)⟩, List.forall_mem_cons.mpr ⟨⟨zin 586 (by decide +kernel) (by decide +kernel), zin 588 (by decide +kernel) (by decide +kernel), zin 14 (by decide +kernel) (by decide +kernel)⟩, List.forall_mem_cons.mpr ⟨⟨zin 659 (by decide +kernel) (by decide +kernel), zin 639 (by decide +kernel) (by decide +kernel), zin 640 (by decide +kernel) (by decide +kernel)⟩, List.forall_mem_cons.mpr ⟨⟨zin 660 (by decide +kernel) (by decide +kernel), zin 643 (by decide +kernel) (by decide +kernel), zin 644 (by decide +kernel) (by decide +kernel)⟩, List.forall_mem_cons.mpr ⟨⟨zin 623 (by decide +kernel) (by decide +kernel), zin 625 (by decide +kernel) (by decide +kernel), zin 17 (by decide +kernel) (by decide +kernel)⟩, List.forall_mem_cons.mpr ⟨⟨zin 627 (by decide +kernel) (by decide +kernel), zin 569 (by decide +kernel) (by decide +kernel), zin 570 (by decide +kernel) (by decide +kernel)⟩, List.forall_mem_cons.mpr ⟨⟨zin 338 (by decide +kernel) (by decide +kernel), zin 340 (by decide +kernel) (by decide +kernel), zin 0 (by decide +kernel) (by decide +kernel)⟩, List.forall_mem_cons.mpr ⟨⟨zin 343 (by decide +kernel) (by decide +kernel), zin 344 (by decide +kernel) (by decide +kernel), zin 345 (by decide +kernel) (by decide +kernel)⟩, List.forall_mem_cons.mpr ⟨⟨zin 350 (by decide +kernel) (by decide +kernel), zin 352 (by decide +kernel) (by decide +kernel), zin 1 (by decide +kernel) (by decide +kernel)⟩, List.forall_mem_cons.mpr ⟨⟨zin 358 (by decide +kernel) (by decide +kernel), zin 359 (by decide +kernel) (by decide +kernel), zin 360 (by decide +kernel) (by decide +kernel)⟩, List.forall_mem_cons.mpr ⟨⟨zin 362 (by decide +kernel) (by decide +kernel), zin 363 (by decide +kernel) (by decide +kernel), zin 364 (by decide +kernel) (by decide +kernel)⟩, List.forall_mem_cons.mpr ⟨⟨zin 381 (by decide +kernel) (by decide +kernel), zin 382 (by decide +kernel) (by decide +kernel), zin 383 (by decide +kernel) (by decide +kernel)⟩, List.forall_mem_cons.mpr ⟨⟨zin 385 (by decide +kernel) (by decide +kernel), zin 386 (by decide +kernel) (by decide +kernel), zin 387 (by decide +kernel) (by decide +kernel)⟩, List.forall_mem_cons.mpr ⟨⟨zin 426 (by decide +kernel) (by decide +kernel), zin 390 (by decide +kernel) (by decide +kernel), zin 391 (by decide +kernel) (by decide +kernel)⟩, List.forall_mem_cons.mpr ⟨⟨zin 431 (by decide +kernel) (by decide +kernel), zin 433 (by decide +kernel) (by decide +kernel), zin 7 (by decide +kernel) (by decide +kernel)⟩, List.forall_mem_cons.mpr ⟨⟨zin 435 (by decide +kernel) (by decide +kernel), zin 436 (by decide +kernel) (by decide +kernel), zin 437 (by decide +kernel) (by decide +kernel)⟩, List.forall_mem_cons.mpr ⟨⟨zin 466 (by decide +kernel) (by decide +kernel), zin 467 (by decide +kernel) (by decide +kernel), zin 468 (by decide +kernel) (by decide +kernel)⟩, List.forall_mem_cons.mpr ⟨⟨zin 475 (by decide +kernel) (by decide +kernel), zin 476 (by decide +kernel) (by decide +kernel), zin 477 (by decide +kernel) (by decide +kernel)⟩, List.forall_mem_cons.mpr ⟨⟨zin 484 (by decide +kernel) (by decide +kernel), zin 471 (by decide +kernel) (by decide +kernel), zin 472 (by decide +kernel) (by decide +kernel)⟩, fun _ h => absurd h List.not_mem_nil⟩⟩⟩⟩⟩⟩⟩⟩⟩⟩⟩⟩⟩⟩⟩⟩⟩⟩⟩⟩
def zvl_2 : List (Nat × Nat × Nat) := [(8, 193, 47), (8, 201, 49), (8, 213, 48), (8, 217, 90), (8, 220, 24), (8, 234, 35), (8, 237, 37), (8, 243, 36), (8, 250, 38), (8, 254, 44), (8, 260, 46), (8, 264, 3), (8, 267, 91), (8, 270, 4), (8, 273, 92), (8, 276, 94), (8, 279, 99), (8, 282, 43), (8, 290, 6), (8, 293, 7)]
theorem zvl_ok_2 : ∀ x ∈ zvl_2, zVF x := List.forall_mem_cons.mpr ⟨⟨zin 496 (by decide +kernel) (by decide +kernel), zin 497 (by decide +kernel) (by decide +kernel), zin 498 (by decide +kernel) (by decide +kernel)⟩, List.forall_mem_cons.mpr ⟨⟨zin 510 (by decide +kernel) (by decide +kernel), zin 511 (by decide +kernel) (by decide +kernel), zin 512 (by decide +kernel) (by decide +kernel)⟩, List.forall_mem_cons.mpr ⟨⟨zin 515 (by decide +kernel) (by decide +kernel), zin 516 (by decide +kernel) (by decide +kernel), zin 517 (by decide +kernel) (by decide +kernel)⟩, List.forall_mem_cons.mpr ⟨⟨zin 527 (by decide +kernel) (by decide +kernel), zin 529 (by decide +kernel) (by decide +kernel), zin 8 (by decide +kernel) (by decide +kernel)⟩, List.forall_mem_cons.mpr ⟨⟨zin 608 (by decide +kernel) (by decide +kernel), zin 609 (by decide +kernel) (by decide +kernel), zin 610 (by decide +kernel) (by decide +kernel)⟩, List.forall_mem_cons.mpr ⟨⟨zin 638 (by decide +kernel) (by decide +kernel), zin 639 (by decide +kernel) (by decide +kernel), zin 640 (by decide +kernel) (by decide +kernel)⟩, List.forall_mem_cons.mpr ⟨⟨zin 642 (by decide +kernel) (by decide +kernel), zin 643 (by decide +kernel) (by decide +kernel), zin 644 (by decide +kernel) (by decide +kernel)⟩, List.forall_mem_cons.mpr ⟨⟨zin 647 (by decide +kernel) (by decide +kernel), zin 648 (by decide +kernel) (by decide +kernel), zin 649 (by decide +kernel) (by decide +kernel)⟩, List.forall_mem_cons.mpr ⟨⟨zin 655 (by decide +kernel) (by decide +kernel), zin 656 (by decide +kernel) (by decide +kernel), zin 657 (by decide +kernel) (by decide +kernel)⟩, List.forall_mem_cons.mpr ⟨⟨zin 665 (by decide +kernel) (by decide +kernel), zin 613 (by decide +kernel) (by decide +kernel), zin 614 (by decide +kernel) (by decide +kernel)⟩, List.forall_mem_cons.mpr ⟨⟨zin 666 (by decide +kernel) (by decide +kernel), zin 667 (by decide +kernel) (by decide +kernel), zin 668 (by decide +kernel) (by decide +kernel)⟩, List.forall_mem_cons.mpr ⟨⟨zin 670 (by decide +kernel) (by decide +kernel), zin 671 (by decide +kernel) (by decide +kernel), zin 672 (by decide +kernel) (by decide +kernel)⟩, List.forall_mem_cons.mpr ⟨⟨zin 674 (by decide +kernel) (by decide +kernel), zin 676 (by decide +kernel) (by decide +kernel), zin 19 (by decide +kernel) (by decide +kernel)⟩, List.forall_mem_cons.mpr ⟨⟨zin 683 (by decide +kernel) (by decide +kernel), zin 684 (by decide +kernel) (by decide +kernel), zin 685 (by decide +kernel) (by decide +kernel)⟩, List.forall_mem_cons.mpr ⟨⟨zin 691 (by decide +kernel) (by decide +kernel), zin 693 (by decide +kernel) (by decide +kernel), zin 20 (by decide +kernel) (by decide +kernel)⟩, List.forall_mem_cons.mpr ⟨⟨zin 703 (by decide +kernel) (by decide +kernel), zin 705 (by decide +kernel) (by decide +kernel), zin 21 (by decide +kernel) (by decide +kernel)⟩, List.forall_mem_cons.mpr ⟨⟨zin 727 (by decide +kernel) (by decide +kernel), zin 729 (by decide +kernel) (by decide +kernel), zin 27 (by decide +kernel) (by decide +kernel)⟩, List.forall_mem_cons.mpr ⟨⟨zin 751 (by decide +kernel) (by decide +kernel), zin 752 (by decide +kernel) (by decide +kernel), zin 753 (by decide +kernel) (by decide +kernel)⟩, List.forall_mem_cons.mpr ⟨⟨zin 755 (by decide +kernel) (by decide +kernel), zin 756 (by decide +kernel) (by decide +kernel), zin 757 (by decide +kernel) (by decide +kernel)⟩, List.forall_mem_cons.mpr ⟨⟨zin 763 (by decide +kernel) (by decide +kernel), zin 764 (by decide +kernel) (by decide +kernel), zin 765 (by decide +kernel) (by decide +kernel)⟩, fun _ h => absurd h List.not_mem_nil⟩⟩⟩⟩⟩⟩⟩⟩⟩⟩⟩⟩⟩⟩⟩⟩⟩⟩⟩⟩
def zvl_3 : List (Nat × Nat × Nat) := [(8, 308, 9), (8, 312, 26), (8, 318, 22), (8, 321, 98), (8, 324, 97), (8, 327, 96), (8, 330, 95), (8, 333, 93), (8, 336, 102), (8, 339, 101), (8, 342, 100), (9, 118, 104), (9, 122, 105), (9, 125, 111), (9, 140, 113), (9, 150, 112), (9, 155, 116), (9, 158, 117), (9, 186, 124), (9, 198, 129)]
theorem zvl_ok_3 : ∀ x ∈ zvl_3, zVF x := List.forall_mem_cons.mpr ⟨⟨zin 531 (by decide +kernel) (by decide +kernel), zin 532 (by decide +kernel) (by decide +kernel), zin 533 (by decide +kernel) (by decide +kernel)⟩, List.forall_mem_cons.mpr ⟨⟨zin 556 (by decide +kernel) (by decide +kernel), zin 557 (by decide +kernel) (by decide +kernel), zin 558 (by decide +kernel) (by decide +kernel)⟩, List.forall_mem_cons.mpr ⟨⟨zin 678 (by decide +kernel) (by decide +kernel), zin 538 (by decide +kernel) (by decide +kernel), zin 539 (by decide +kernel) (by decide +kernel)⟩, List.forall_mem_cons.mpr ⟨⟨zin 707 (by decide +kernel) (by decide +kernel), zin 709 (by decide +kernel) (by decide +kernel), zin 22 (by decide +kernel) (by decide +kernel)⟩, List.forall_mem_cons.mpr ⟨⟨zin 715 (by decide +kernel) (by decide +kernel), zin 717 (by decide +kernel) (by decide +kernel), zin 24 (by decide +kernel) (by decide +kernel)⟩, List.forall_mem_cons.mpr ⟨⟨zin 719 (by decide +kernel) (by decide +kernel), zin 721 (by decide +kernel) (by decide +kernel), zin 25 (by decide +kernel) (by decide +kernel)⟩, List.forall_mem_cons.mpr ⟨⟨zin 723 (by decide +kernel) (by decide +kernel), zin 725 (by decide +kernel) (by decide +kernel), zin 26 (by decide +kernel) (by decide +kernel)⟩, List.forall_mem_cons.mpr ⟨⟨zin 711 (by decide +kernel) (by decide +kernel), zin 713 (by decide +kernel) (by decide +kernel), zin 23 (by decide +kernel) (by decide +kernel)⟩, List.forall_mem_cons.mpr ⟨⟨zin 731 (by decide +kernel) (by decide +kernel), zin 733 (by decide +kernel) (by decide +kernel), zin 28 (by decide +kernel) (by decide +kernel)⟩, List.forall_mem_cons.mpr ⟨⟨zin 735 (by decide +kernel) (by decide +kernel), zin 737 (by decide +kernel) (by decide +kernel), zin 29 (by decide +kernel) (by decide +kernel)⟩, List.forall_mem_cons.mpr ⟨⟨zin 739 (by decide +kernel) (by decide +kernel), zin 741 (by decide +kernel) (by decide +kernel), zin 30 (by decide +kernel) (by decide +kernel)⟩, List.forall_mem_cons.mpr ⟨⟨zin 909 (by decide +kernel) (by decide +kernel), zin 911 (by decide +kernel) (by decide +kernel), zin 32 (by decide +kernel) (by decide +kernel)⟩, List.forall_mem_cons.mpr ⟨⟨zin 914 (by decide +kernel) (by decide +kernel), zin 916 (by decide +kernel) (by decide +kernel), zin 33 (by decide +kernel) (by decide +kernel)⟩, List.forall_mem_cons.mpr ⟨⟨zin 941 (by decide +kernel) (by decide +kernel), zin 943 (by decide +kernel) (by decide +kernel), zin 35 (by decide +kernel) (by decide +kernel)⟩, List.forall_mem_cons.mpr ⟨⟨zin 945 (by decide +kernel) (by decide +kernel), zin 947 (by decide +kernel) (by decide +kernel), zin 36 (by decide +kernel) (by decide +kernel)⟩, List.forall_mem_cons.mpr ⟨⟨zin 937 (by decide +kernel) (by decide +kernel), zin 939 (by decide +kernel) (by decide +kernel), zin 34 (by decide +kernel) (by decide +kernel)⟩, List.forall_mem_cons.mpr ⟨⟨zin 958 (by decide +kernel) (by decide +kernel), zin 960 (by decide +kernel) (by decide +kernel), zin 37 (by decide +kernel) (by decide +kernel)⟩, List.forall_mem_cons.mpr ⟨⟨zin 962 (by decide +kernel) (by decide +kernel), zin 964 (by decide +kernel) (by decide +kernel), zin 38 (by decide +kernel) (by decide +kernel)⟩, List.forall_mem_cons.mpr ⟨⟨zin 991 (by decide +kernel) (by decide +kernel), zin 993 (by decide +kernel) (by decide +kernel), zin 39 (by decide +kernel) (by decide +kernel)⟩, List.forall_mem_cons.mpr ⟨⟨zin 1013 (by decide +kernel) (by decide +kernel), zin 1015 (by decide +kernel) (by decide +kernel), zin 40 (by decide +kernel) (by decide +kernel)⟩, fun _ h => absurd h List.not_mem_nil⟩⟩⟩⟩⟩⟩⟩⟩⟩⟩⟩⟩⟩⟩⟩⟩⟩⟩⟩⟩
def zvl_4 : List (Nat × Nat × Nat) := [(9, 204, 132), (9, 208, 133), (9, 215, 135), (9, 221, 137), (9, 225, 140), (9, 237, 139), (9, 241, 142), (9, 245, 145), (9, 249, 148), (9, 252, 147), (9, 258, 151), (9, 261, 152), (9, 264, 153), (10, 13, 50), (10, 17, 107), (10, 18, 51), (10, 21, 108), (10, 22, 52), (10, 26, 109), (10, 27, 53)]
theorem zvl_ok_4 : ∀ x ∈ zvl_4, zVF x := List.forall_mem_cons.mpr ⟨⟨zin 1032 (by decide +kernel) (by decide +kernel), zin 1034 (by decide +kernel) (by decide +kernel), zin 42 (by decide +kernel) (by decide +kernel)⟩, List.forall_mem_cons.mpr ⟨⟨zin 1027 (by decide +kernel) (by decide +kernel), zin 1029 (by decide +kernel) (by decide +kernel), zin 41 (by decide +kernel) (by decide +kernel)⟩, List.forall_mem_cons.mpr ⟨⟨zin 1053 (by decide +kernel) (by decide +kernel), zin 1055 (by decide +kernel) (by decide +kernel), zin 45 (by decide +kernel) (by decide +kernel)⟩, List.forall_mem_cons.mpr ⟨⟨zin 1046 (by decide +kernel) (by decide +kernel), zin 1048 (by decide +kernel) (by decide +kernel), zin 44 (by decide +kernel) (by decide +kernel)⟩, List.forall_mem_cons.mpr ⟨⟨zin 1057 (by decide +kernel) (by decide +kernel), zin 1059 (by decide +kernel) (by decide +kernel), zin 46 (by decide +kernel) (by decide +kernel)⟩, List.forall_mem_cons.mpr ⟨⟨zin 1042 (by decide +kernel) (by decide +kernel), zin 1044 (by decide +kernel) (by decide +kernel), zin 43 (by decide +kernel) (by decide +kernel)⟩, List.forall_mem_cons.mpr ⟨⟨zin 1069 (by decide +kernel) (by decide +kernel), zin 1071 (by decide +kernel) (by decide +kernel), zin 47 (by decide +kernel) (by decide +kernel)⟩, List.forall_mem_cons.mpr ⟨⟨zin 1077 (by decide +kernel) (by decide +kernel), zin 1079 (by decide +kernel) (by decide +kernel), zin 48 (by decide +kernel) (by decide +kernel)⟩, List.forall_mem_cons.mpr ⟨⟨zin 1093 (by decide +kernel) (by decide +kernel), zin 1095 (by decide +kernel) (by decide +kernel), zin 50 (by decide +kernel) (by decide +kernel)⟩, List.forall_mem_cons.mpr ⟨⟨zin 1089 (by decide +kernel) (by decide +kernel), zin 1091 (by decide +kernel) (by decide +kernel), zin 49 (by decide +kernel) (by decide +kernel)⟩, List.forall_mem_cons.mpr ⟨⟨zin 1109 (by decide +kernel) (by decide +kernel), zin 1111 (by decide +kernel) (by decide +kernel), zin 52 (by decide +kernel) (by decide +kernel)⟩, List.forall_mem_cons.mpr ⟨⟨zin 1113 (by decide +kernel) (by decide +kernel), zin 1115 (by decide +kernel) (by decide +kernel), zin 53 (by decide +kernel) (by decide +kernel)⟩, List.forall_mem_cons.mpr ⟨⟨zin 1105 (by decide +kernel) (by decide +kernel), zin 1107 (by decide +kernel) (by decide +kernel), zin 51 (by decide +kernel) (by decide +kernel)⟩, List.forall_mem_cons.mpr ⟨⟨zin 330 (by decide +kernel) (by decide +kernel), zin 331 (by decide +kernel) (by decide +kernel), zin 332 (by decide +kernel) (by decide +kernel)⟩, List.forall_mem_cons.mpr ⟨⟨zin 896 (by decide +kernel) (by decide +kernel), zin 897 (by decide +kernel) (by decide +kernel), zin 898 (by decide +kernel) (by decide +kernel)⟩, List.forall_mem_cons.mpr ⟨⟨zin 354 (by decide +kernel) (by decide +kernel), zin 355 (by decide +kernel) (by decide +kernel), zin 356 (by decide +kernel) (by decide +kernel)⟩, List.forall_mem_cons.mpr ⟨⟨zin 918 (by decide +kernel) (by decide +kernel), zin 919 (by decide +kernel) (by decide +kernel), zin 920 (by decide +kernel) (by decide +kernel)⟩, List.forall_mem_cons.mpr ⟨⟨zin 366 (by decide +kernel) (by decide +kernel), zin 367 (by decide +kernel) (by decide +kernel), zin 368 (by decide +kernel) (by decide +kernel)⟩, List.forall_mem_cons.mpr ⟨⟨zin 922 (by decide +kernel) (by decide +kernel), zin 923 (by decide +kernel) (by decide +kernel), zin 924 (by decide +kernel) (by decide +kernel)⟩, List.forall_mem_cons.mpr ⟨⟨zin 373 (by decide +kernel) (by decide +kernel), zin 374 (by decide +kernel) (by decide +kernel), zin 375 (by decide +kernel) (by decide +kernel)⟩, fun _ h => absurd h List.not_mem_nil⟩⟩⟩⟩⟩⟩⟩⟩⟩⟩⟩⟩⟩⟩⟩⟩⟩⟩⟩⟩
def zvl_5 : List (Nat × Nat × Nat) := [(10, 31, 110), (10, 32, 54), (10, 35, 114), (10, 36, 55), (10, 39, 115), (10, 40, 56), (10, 44, 118), (10, 45, 57), (10, 48, 119), (10, 49, 58), (10, 53, 120), (10, 54, 59), (10, 58, 125), (10, 59, 60), (10, 62, 126), (10, 63, 61), (10, 66, 127), (10, 67, 62), (10, 70, 128), (10, 71, 63)]
theorem zvl_ok_5 : ∀ x ∈ zvl_5, zVF x := List.forall_mem_cons.mpr ⟨⟨zin 926 (by decide +kernel) (by decide +kernel), zin 927 (by decide +kernel) (by decide +kernel), zin 928 (by decide +kernel) (by decide +kernel)⟩, List.forall_mem_cons.mpr ⟨⟨zin 377 (by decide +kernel) (by decide +kernel), zin 378 (by decide +kernel) (by decide +kernel), zin 379 (by decide +kernel) (by decide +kernel)⟩, List.forall_mem_cons.mpr ⟨⟨zin 930 (by decide +kernel) (by decide +kernel), zin 931 (by decide +kernel) (by decide +kernel), zin 932 (by decide +kernel) (by decide +kernel)⟩, List.forall_mem_cons.mpr ⟨⟨zin 422 (by decide +kernel) (by decide +kernel), zin 423 (by decide +kernel) (by decide +kernel), zin 424 (by decide +kernel) (by decide +kernel)⟩, List.forall_mem_cons.mpr ⟨⟨zin 949 (by decide +kernel) (by decide +kernel), zin 950 (by decide +kernel) (by decide +kernel), zin 951 (by decide +kernel) (by decide +kernel)⟩, List.forall_mem_cons.mpr ⟨⟨zin 427 (by decide +kernel) (by decide +kernel), zin 428 (by decide +kernel) (by decide +kernel), zin 429 (by decide +kernel) (by decide +kernel)⟩, List.forall_mem_cons.mpr ⟨⟨zin 954 (by decide +kernel) (by decide +kernel), zin 955 (by decide +kernel) (by decide +kernel), zin 956 (by decide +kernel) (by decide +kernel)⟩, List.forall_mem_cons.mpr ⟨⟨zin 439 (by decide +kernel) (by decide +kernel), zin 440 (by decide +kernel) (by decide +kernel), zin 441 (by decide +kernel) (by decide +kernel)⟩, List.forall_mem_cons.mpr ⟨⟨zin 966 (by decide +kernel) (by decide +kernel), zin 967 (by decide +kernel) (by decide +kernel), zin 968 (by decide +kernel) (by decide +kernel)⟩, List.forall_mem_cons.mpr ⟨⟨zin 443 (by decide +kernel) (by decide +kernel), zin 444 (by decide +kernel) (by decide +kernel), zin 445 (by decide +kernel) (by decide +kernel)⟩, List.forall_mem_cons.mpr ⟨⟨zin 970 (by decide +kernel) (by decide +kernel), zin 971 (by decide +kernel) (by decide +kernel), zin 972 (by decide +kernel) (by decide +kernel)⟩, List.forall_mem_cons.mpr ⟨⟨zin 447 (by decide +kernel) (by decide +kernel), zin 448 (by decide +kernel) (by decide +kernel), zin 449 (by decide +kernel) (by decide +kernel)⟩, List.forall_mem_cons.mpr ⟨⟨zin 974 (by decide +kernel) (by decide +kernel), zin 975 (by decide +kernel) (by decide +kernel), zin 976 (by decide +kernel) (by decide +kernel)⟩, List.forall_mem_cons.mpr ⟨⟨zin 480 (by decide +kernel) (by decide +kernel), zin 481 (by decide +kernel) (by decide +kernel), zin 482 (by decide +kernel) (by decide +kernel)⟩, List.forall_mem_cons.mpr ⟨⟨zin 995 (by decide +kernel) (by decide +kernel), zin 996 (by decide +kernel) (by decide +kernel), zin 997 (by decide +kernel) (by decide +kernel)⟩, List.forall_mem_cons.mpr ⟨⟨zin 485 (by decide +kernel) (by decide +kernel), zin 486 (by decide +kernel) (by decide +kernel), zin 487 (by decide +kernel) (by decide +kernel)⟩, List.forall_mem_cons.mpr ⟨⟨zin 999 (by decide +kernel) (by decide +kernel), zin 1000 (by decide +kernel) (by decide +kernel), zin 1001 (by decide +kernel) (by decide +kernel)⟩, List.forall_mem_cons.mpr ⟨⟨zin 492 (by decide +kernel) (by decide +kernel), zin 493 (by decide +kernel) (by decide +kernel), zin 494 (by decide +kernel) (by decide +kernel)⟩, List.forall_mem_cons.mpr ⟨⟨zin 1004 (by decide +kernel) (by decide +kernel), zin 1005 (by decide +kernel) (by decide +kernel), zin 1006 (by decide +kernel) (by decide +kernel)⟩, List.forall_mem_cons.mpr ⟨⟨zin 506 (by decide +kernel) (by decide +kernel), zin 507 (by decide +kernel) (by decide +kernel), zin 508 (by decide +kernel) (by decide +kernel)⟩, fun _ h => absurd h List.not_mem_nil⟩⟩⟩⟩⟩⟩⟩⟩⟩⟩⟩⟩⟩⟩⟩⟩⟩⟩⟩⟩
def zvl_6 : List (Nat × Nat × Nat) := [(10, 74, 130), (10, 75, 64), (10, 78, 131), (10, 79, 65), (10, 82, 134), (10, 83, 66), (10, 86, 141), (10, 87, 67), (10, 90, 143), (10, 91, 68), (10, 94, 144), (10, 95, 69), (10, 98, 146), (10, 99, 70), (10, 102, 149), (10, 103, 71), (10, 106, 150), (10, 107, 72), (10, 110, 154), (10, 111, 73)]
theorem zvl_ok_6 : ∀ x ∈ zvl_6, zVF x := List.forall_mem_cons.mpr ⟨⟨zin 1009 (by decide +kernel) (by decide +kernel), zin 1010 (by decide +kernel) (by decide +kernel), zin 1011 (by decide +kernel) (by decide +kernel)⟩, List.forall_mem_cons.mpr ⟨⟨zin 519 (by decide +kernel) (by decide +kernel), zin 520 (by decide +kernel) (by decide +kernel), zin 521 (by decide +kernel) (by decide +kernel)⟩, List.forall_mem_cons.mpr ⟨⟨zin 1019 (by decide +kernel) (by decide +kernel), zin 1020 (by decide +kernel) (by decide +kernel), zin 1021 (by decide +kernel) (by decide +kernel)⟩, List.forall_mem_cons.mpr ⟨⟨zin 523 (by decide +kernel) (by decide +kernel), zin 524 (by decide +kernel) (by decide +kernel), zin 525 (by decide +kernel) (by decide +kernel)⟩, List.forall_mem_cons.mpr ⟨⟨zin 1023 (by decide +kernel) (by decide +kernel), zin 1024 (by decide +kernel) (by decide +kernel), zin 1025 (by decide +kernel) (by decide +kernel)⟩, List.forall_mem_cons.mpr ⟨⟨zin 634 (by decide +kernel) (by decide +kernel), zin 635 (by decide +kernel) (by decide +kernel), zin 636 (by decide +kernel) (by decide +kernel)⟩, List.forall_mem_cons.mpr ⟨⟨zin 1036 (by decide +kernel) (by decide +kernel), zin 1037 (by decide +kernel) (by decide +kernel), zin 1038 (by decide +kernel) (by decide +kernel)⟩, List.forall_mem_cons.mpr ⟨⟨zin 651 (by decide +kernel) (by decide +kernel), zin 652 (by decide +kernel) (by decide +kernel), zin 653 (by decide +kernel) (by decide +kernel)⟩, List.forall_mem_cons.mpr ⟨⟨zin 1065 (by decide +kernel) (by decide +kernel), zin 1066 (by decide +kernel) (by decide +kernel), zin 1067 (by decide +kernel) (by decide +kernel)⟩, List.forall_mem_cons.mpr ⟨⟨zin 661 (by decide +kernel) (by decide +kernel), zin 662 (by decide +kernel) (by decide +kernel), zin 663 (by decide +kernel) (by decide +kernel)⟩, List.forall_mem_cons.mpr ⟨⟨zin 1073 (by decide +kernel) (by decide +kernel), zin 1074 (by decide +kernel) (by decide +kernel), zin 1075 (by decide +kernel) (by decide +kernel)⟩, List.forall_mem_cons.mpr ⟨⟨zin 679 (by decide +kernel) (by decide +kernel), zin 680 (by decide +kernel) (by decide +kernel), zin 681 (by decide +kernel) (by decide +kernel)⟩, List.forall_mem_cons.mpr ⟨⟨zin 1081 (by decide +kernel) (by decide +kernel), zin 1082 (by decide +kernel) (by decide +kernel), zin 1083 (by decide +kernel) (by decide +kernel)⟩, List.forall_mem_cons.mpr ⟨⟨zin 687 (by decide +kernel) (by decide +kernel), zin 688 (by decide +kernel) (by decide +kernel), zin 689 (by decide +kernel) (by decide +kernel)⟩, List.forall_mem_cons.mpr ⟨⟨zin 1085 (by decide +kernel) (by decide +kernel), zin 1086 (by decide +kernel) (by decide +kernel), zin 1087 (by decide +kernel) (by decide +kernel)⟩, List.forall_mem_cons.mpr ⟨⟨zin 695 (by decide +kernel) (by decide +kernel), zin 696 (by decide +kernel) (by decide +kernel), zin 697 (by decide +kernel) (by decide +kernel)⟩, List.forall_mem_cons.mpr ⟨⟨zin 1097 (by decide +kernel) (by decide +kernel), zin 1098 (by decide +kernel) (by decide +kernel), zin 1099 (by decide +kernel) (by decide +kernel)⟩, List.forall_mem_cons.mpr ⟨⟨zin 699 (by decide +kernel) (by decide +kernel), zin 700 (by decide +kernel) (by decide +kernel), zin 701 (by decide +kernel) (by decide +kernel)⟩, List.forall_mem_cons.mpr ⟨⟨zin 1101 (by decide +kernel) (by decide +kernel), zin 1102 (by decide +kernel) (by decide +kernel), zin 1103 (by decide +kernel) (by decide +kernel)⟩, List.forall_mem_cons.mpr ⟨⟨zin 743 (by decide +kernel) (by decide +kernel), zin 744 (by decide +kernel) (by decide +kernel), zin 745 (by decide +kernel) (by decide +kernel)⟩, fun _ h => absurd h List.not_mem_nil⟩⟩⟩⟩⟩⟩⟩⟩⟩⟩⟩⟩⟩⟩⟩⟩⟩⟩⟩⟩
def zvl_7 : List (Nat × Nat × Nat) := [(10, 114, 155), (10, 115, 74), (10, 118, 156), (10, 119, 75), (10, 122, 157)]
theorem zvl_ok_7 : ∀ x ∈ zvl_7, zVF x := List.forall_mem_cons.mpr ⟨⟨zin 1117 (by decide +kernel) (by decide +kernel), zin 1118 (by decide +kernel) (by decide +kernel), zin 1119 (by decide +kernel) (by decide +kernel)⟩, List.forall_mem_cons.mpr ⟨⟨zin 747 (by decide +kernel) (by decide +kernel), zin 748 (by decide +kernel) (by decide +kernel), zin 749 (by decide +kernel) (by decide +kernel)⟩, List.forall_mem_cons.mpr ⟨⟨zin 1121 (by decide +kernel) (by decide +kernel), zin 1122 (by decide +kernel) (by decide +kernel), zin 1123 (by decide +kernel) (by decide +kernel)⟩, List.forall_mem_cons.mpr ⟨⟨zin 767 (by decide +kernel) (by decide +kernel), zin 768 (by decide +kernel) (by decide +kernel), zin 769 (by decide +kernel) (by decide +kernel)⟩, List.forall_mem_cons.mpr ⟨⟨zin 1125 (by decide +kernel) (by decide +kernel), zin 1126 (by decide +kernel) (by decide +kernel), zin 1127 (by decide +kernel) (by decide +kernel)⟩, fun _ h => absurd h List.not_mem_nil⟩⟩⟩⟩⟩
def zvl : List (Nat × Nat × Nat) := zvl_0 ++ (zvl_1 ++ (zvl_2 ++ (zvl_3 ++ (zvl_4 ++ (zvl_5 ++ (zvl_6 ++ (zvl_7)))))))
theorem zvl_ok : ∀ x ∈ zvl, zVF x := by
  show ∀ x ∈ zvl_0 ++ (zvl_1 ++ (zvl_2 ++ (zvl_3 ++ (zvl_4 ++ (zvl_5 ++ (zvl_6 ++ (zvl_7))))))), zVF x
  exact List.forall_mem_append.mpr ⟨zvl_ok_0, List.forall_mem_append.mpr ⟨zvl_ok_1, List.forall_mem_append.mpr ⟨zvl_ok_2, List.forall_mem_append.mpr ⟨zvl_ok_3, List.forall_mem_append.mpr ⟨zvl_ok_4, List.forall_mem_append.mpr ⟨zvl_ok_5, List.forall_mem_append.mpr ⟨zvl_ok_6, zvl_ok_7⟩⟩⟩⟩⟩⟩⟩
def zsl_0 : List (Nat × Nat × Nat) := [(1, 25, 158), (1, 38, 12), (1, 64, 11), (4, 38, 27), (5, 27, 158), (6, 23, 158), (8, 79, 78), (8, 163, 80), (8, 166, 82), (8, 170, 83), (8, 187, 85), (8, 240, 88), (8, 246, 87), (8, 297, 81), (8, 300, 84), (8, 303, 86), (9, 107, 103), (9, 111, 106), (9, 163, 121), (9, 176, 123)]
theorem zsl_ok_0 : ∀ x ∈ zsl_0, zSF x := List.forall_mem_cons.mpr ⟨⟨zin 536 (by decide +kernel) (by decide +kernel), zin 348 (by decide +kernel) (by decide +kernel)⟩, List.forall_mem_cons.mpr ⟨⟨zin 542 (by decide +kernel) (by decide +kernel), zin 543 (by decide +kernel) (by decide +kernel)⟩, List.forall_mem_cons.mpr ⟨⟨zin 553 (by decide +kernel) (by decide +kernel), zin 554 (by decide +kernel) (by decide +kernel)⟩, List.forall_mem_cons.mpr ⟨⟨zin 561 (by decide +kernel) (by decide +kernel), zin 562 (by decide +kernel) (by decide +kernel)⟩, List.forall_mem_cons.mpr ⟨⟨zin 347 (by decide +kernel) (by decide +kernel), zin 348 (by decide +kernel) (by decide +kernel)⟩, List.forall_mem_cons.mpr ⟨⟨zin 621 (by decide +kernel) (by decide +kernel), zin 348 (by decide +kernel) (by decide +kernel)⟩, List.forall_mem_cons.mpr ⟨⟨zin 334 (by decide +kernel) (by decide +kernel), zin 335 (by decide +kernel) (by decide +kernel)⟩, List.forall_mem_cons.mpr ⟨⟨zin 451 (by decide +kernel) (by decide +kernel), zin 452 (by decide +kernel) (by decide +kernel)⟩, List.forall_mem_cons.mpr ⟨⟨zin 454 (by decide +kernel) (by decide +kernel), zin 455 (by decide +kernel) (by decide +kernel)⟩, List.forall_mem_cons.mpr ⟨⟨zin 460 (by decide +kernel) (by decide +kernel), zin 461 (by decide +kernel) (by decide +kernel)⟩, List.forall_mem_cons.mpr ⟨⟨zin 489 (by decide +kernel) (by decide +kernel), zin 490 (by decide +kernel) (by decide +kernel)⟩, List.forall_mem_cons.mpr ⟨⟨zin 646 (by decide +kernel) (by decide +kernel), zin 617 (by decide +kernel) (by decide +kernel)⟩, List.forall_mem_cons.mpr ⟨⟨zin 619 (by decide +kernel) (by decide +kernel), zin 601 (by decide +kernel) (by decide +kernel)⟩, List.forall_mem_cons.mpr ⟨⟨zin 457 (by decide +kernel) (by decide +kernel), zin 458 (by decide +kernel) (by decide +kernel)⟩, List.forall_mem_cons.mpr ⟨⟨zin 463 (by decide +kernel) (by decide +kernel), zin 464 (by decide +kernel) (by decide +kernel)⟩, List.forall_mem_cons.mpr ⟨⟨zin 503 (by decide +kernel) (by decide +kernel), zin 504 (by decide +kernel) (by decide +kernel)⟩, List.forall_mem_cons.mpr ⟨⟨zin 904 (by decide +kernel) (by decide +kernel), zin 905 (by decide +kernel) (by decide +kernel)⟩, List.forall_mem_cons.mpr ⟨⟨zin 900 (by decide +kernel) (by decide +kernel), zin 901 (by decide +kernel) (by decide +kernel)⟩, List.forall_mem_cons.mpr ⟨⟨zin 981 (by decide +kernel) (by decide +kernel), zin 982 (by decide +kernel) (by decide +kernel)⟩, List.forall_mem_cons.mpr ⟨⟨zin 978 (by decide +kernel) (by decide +kernel), zin 979 (by decide +kernel) (by decide +kernel)⟩, fun _ h => absurd h List.not_mem_nil⟩⟩⟩⟩⟩⟩⟩⟩⟩⟩⟩⟩⟩⟩⟩⟩⟩⟩⟩⟩
def zsl_1 : List (Nat × Nat × Nat) := [(9, 182, 122), (9, 212, 136), (9, 229, 138)]
theorem zsl_ok_1 : ∀ x ∈ zsl_1, zSF x := List.forall_mem_cons.mpr ⟨⟨zin 988 (by decide +kernel) (by decide +kernel), zin 989 (by decide +kernel) (by decide +kernel)⟩, List.forall_mem_cons.mpr ⟨⟨zin 1050 (by decide +kernel) (by decide +kernel), zin 1051 (by decide +kernel) (by decide +kernel)⟩, List.forall_mem_cons.mpr ⟨⟨zin 1061 (by decide +kernel) (by decide +kernel), zin 1062 (by decide +kernel) (by decide +kernel)⟩, fun _ h => absurd h List.not_mem_nil⟩⟩⟩
def zsl : List (Nat × Nat × Nat) := zsl_0 ++ (zsl_1)
theorem zsl_ok : ∀ x ∈ zsl, zSF x := by
  show ∀ x ∈ zsl_0 ++ (zsl_1), zSF x
  exact List.forall_mem_append.mpr ⟨zsl_ok_0, zsl_ok_1⟩
def znl_0 : List (Nat × Nat × Nat) := [(0, 49, 85), (2, 80, 84), (4, 59, 89), (4, 76, 87), (6, 18, 88), (6, 35, 87), (7, 26, 89)]
theorem znl_ok_0 : ∀ x ∈ znl_0, zNF x := List.forall_mem_cons.mpr ⟨⟨List.mem_of_getElem? (i := 594) (by decide +kernel), zin 490 (by decide +kernel) (by decide +kernel)⟩, List.forall_mem_cons.mpr ⟨⟨List.mem_of_getElem? (i := 541) (by decide +kernel), zin 464 (by decide +kernel) (by decide +kernel)⟩, List.forall_mem_cons.mpr ⟨⟨List.mem_of_getElem? (i := 577) (by decide +kernel), zin 501 (by decide +kernel) (by decide +kernel)⟩, List.forall_mem_cons.mpr ⟨⟨List.mem_of_getElem? (i := 600) (by decide +kernel), zin 601 (by decide +kernel) (by decide +kernel)⟩, List.forall_mem_cons.mpr ⟨⟨List.mem_of_getElem? (i := 616) (by decide +kernel), zin 617 (by decide +kernel) (by decide +kernel)⟩, List.forall_mem_cons.mpr ⟨⟨List.mem_of_getElem? (i := 622) (by decide +kernel), zin 601 (by decide +kernel) (by decide +kernel)⟩, List.forall_mem_cons.mpr ⟨⟨List.mem_of_getElem? (i := 500) (by decide +kernel), zin 501 (by decide +kernel) (by decide +kernel)⟩, fun _ h => absurd h List.not_mem_nil⟩⟩⟩⟩⟩⟩⟩
def znl : List (Nat × Nat × Nat) := znl_0
theorem znl_ok : ∀ x ∈ znl, zNF x := by
  show ∀ x ∈ znl_0, zNF x
  exact znl_ok_0
def zxl_0 : List (Nat × Nat × Nat) := [(0, 44, 9010), (2, 69, 9010), (2, 74, 9011), (2, 77, 9012), (4, 32, 9011), (4, 56, 9010), (6, 43, 9010), (8, 114, 9013)]
theorem zxl_ok_0 : ∀ x ∈ zxl_0, zXF x := List.forall_mem_cons.mpr ⟨zin 479 (by decide +kernel) (by decide +kernel), List.forall_mem_cons.mpr ⟨zin 409 (by decide +kernel) (by decide +kernel), List.forall_mem_cons.mpr ⟨zin 412 (by decide +kernel) (by decide +kernel), List.forall_mem_cons.mpr ⟨zin 419 (by decide +kernel) (by decide +kernel), List.forall_mem_cons.mpr ⟨zin 560 (by decide +kernel) (by decide +kernel), List.forall_mem_cons.mpr ⟨zin 576 (by decide +kernel) (by decide +kernel), List.forall_mem_cons.mpr ⟨zin 628 (by decide +kernel) (by decide +kernel), List.forall_mem_cons.mpr ⟨zin 370 (by decide +kernel) (by decide +kernel), fun _ h => absurd h List.not_mem_nil⟩⟩⟩⟩⟩⟩⟩⟩
def zxl : List (Nat × Nat × Nat) := zxl_0
theorem zxl_ok : ∀ x ∈ zxl, zXF x := by
  show ∀ x ∈ zxl_0, zXF x
  exact zxl_ok_0
theorem zX_min : Cond.static Lib.Math.min.name ∈ zTB ∧ Cond.code Lib.Math.min.name Lib.Math.min.code 2 (some .int) ∈ zTB := ⟨zin 410 (by decide +kernel) (by decide +kernel), zin 411 (by decide +kernel) (by decide +kernel)⟩
theorem zX_max : Cond.static Lib.Math.max.name ∈ zTB ∧ Cond.code Lib.Math.max.name Lib.Math.max.code 2 (some .int) ∈ zTB := ⟨zin 413 (by decide +kernel) (by decide +kernel), zin 414 (by decide +kernel) (by decide +kernel)⟩
theorem zX_abs : Cond.static Lib.Math.abs.name ∈ zTB ∧ Cond.code Lib.Math.abs.name Lib.Math.abs.code 1 (some .int) ∈ zTB := ⟨zin 420 (by decide +kernel) (by decide +kernel), zin 421 (by decide +kernel) (by decide +kernel)⟩
theorem zX_init : Cond.initialized "java/lang/Math" ∈ zTB ∧ Cond.initialized "java/lang/System" ∈ zTB := ⟨zin 67 (by decide +kernel) (by decide +kernel), zin 66 (by decide +kernel) (by decide +kernel)⟩
theorem zX_copy : Cond.native arraycopyName ∈ zTB ∧ Cond.static arraycopyName ∈ zTB := ⟨zin 372 (by decide +kernel) (by decide +kernel), zin 371 (by decide +kernel) (by decide +kernel)⟩
theorem zmf_0 : zMF 0 := ⟨zin 473 (by decide +kernel) (by decide +kernel), zin 58 (by decide +kernel) (by decide +kernel), by decide +kernel, ⟨by decide +kernel, by decide +kernel⟩, by decide +kernel, by decide +kernel, by decide +kernel⟩
theorem zmf_1 : zMF 1 := ⟨zin 469 (by decide +kernel) (by decide +kernel), zin 58 (by decide +kernel) (by decide +kernel), by decide +kernel, ⟨by decide +kernel, by decide +kernel⟩, by decide +kernel, by decide +kernel, by decide +kernel⟩
theorem zmf_2 : zMF 2 := ⟨zin 478 (by decide +kernel) (by decide +kernel), zin 58 (by decide +kernel) (by decide +kernel), by decide +kernel, ⟨by decide +kernel, by decide +kernel⟩, by decide +kernel, by decide +kernel, by decide +kernel⟩
theorem zmf_3 : zMF 3 := ⟨zin 673 (by decide +kernel) (by decide +kernel), zin 58 (by decide +kernel) (by decide +kernel), by decide +kernel, ⟨by decide +kernel, by decide +kernel⟩, by decide +kernel, by decide +kernel, by decide +kernel⟩
theorem zmf_4 : zMF 4 := ⟨zin 686 (by decide +kernel) (by decide +kernel), zin 58 (by decide +kernel) (by decide +kernel), by decide +kernel, ⟨by decide +kernel, by decide +kernel⟩, by decide +kernel, by decide +kernel, by decide +kernel⟩
theorem zmf_5 : zMF 5 := ⟨zin 593 (by decide +kernel) (by decide +kernel), zin 58 (by decide +kernel) (by decide +kernel), by decide +kernel, ⟨by decide +kernel, by decide +kernel⟩, by decide +kernel, by decide +kernel, by decide +kernel⟩
theorem zmf_6 : zMF 6 := ⟨zin 758 (by decide +kernel) (by decide +kernel), zin 58 (by decide +kernel) (by decide +kernel), by decide +kernel, ⟨by decide +kernel, by decide +kernel⟩, by decide +kernel, by decide +kernel, by decide +kernel⟩
theorem zmf_7 : zMF 7 := ⟨zin 766 (by decide +kernel) (by decide +kernel), zin 58 (by decide +kernel) (by decide +kernel), by decide +kernel, ⟨by decide +kernel, by decide +kernel⟩, by decide +kernel, by decide +kernel, by decide +kernel⟩
theorem zmf_8 : zMF 8 := ⟨zin 762 (by decide +kernel) (by decide +kernel), zin 58 (by decide +kernel) (by decide +kernel), by decide +kernel, ⟨by decide +kernel, by decide +kernel⟩, by decide +kernel, by decide +kernel, by decide +kernel⟩
theorem zmf_9 : zMF 9 := ⟨zin 534 (by decide +kernel) (by decide +kernel), zin 60 (by decide +kernel) (by decide +kernel), by decide +kernel, ⟨by decide +kernel, by decide +kernel⟩, by decide +kernel, by decide +kernel, by decide +kernel⟩
theorem zmf_10 : zMF 10 := ⟨zin 552 (by decide +kernel) (by decide +kernel), zin 60 (by decide +kernel) (by decide +kernel), by decide +kernel, ⟨by decide +kernel, by decide +kernel⟩, by decide +kernel, by decide +kernel, by decide +kernel⟩
theorem zmf_11 : zMF 11 := ⟨zin 555 (by decide +kernel) (by decide +kernel), zin 60 (by decide +kernel) (by decide +kernel), by decide +kernel, ⟨by decide +kernel, by decide +kernel⟩, by decide +kernel, by decide +kernel, by decide +kernel⟩
theorem zmf_12 : zMF 12 := ⟨zin 544 (by decide +kernel) (by decide +kernel), zin 60 (by decide +kernel) (by decide +kernel), by decide +kernel, ⟨by decide +kernel, by decide +kernel⟩, by decide +kernel, by decide +kernel, by decide +kernel⟩
theorem zmf_13 : zMF 13 := ⟨zin 571 (by decide +kernel) (by decide +kernel), zin 60 (by decide +kernel) (by decide +kernel), by decide +kernel, ⟨by decide +kernel, by decide +kernel⟩, by decide +kernel, by decide +kernel, by decide +kernel⟩
theorem zmf_14 : zMF 14 := ⟨zin 388 (by decide +kernel) (by decide +kernel), zin 57 (by decide +kernel) (by decide +kernel), by decide +kernel, ⟨by decide +kernel, by decide +kernel⟩, by decide +kernel, by decide +kernel, by decide +kernel⟩
theorem zmf_15 : zMF 15 := ⟨zin 392 (by decide +kernel) (by decide +kernel), zin 57 (by decide +kernel) (by decide +kernel), by decide +kernel, ⟨by decide +kernel, by decide +kernel⟩, by decide +kernel, by decide +kernel, by decide +kernel⟩
theorem zmf_16 : zMF 16 := ⟨zin 396 (by decide +kernel) (by decide +kernel), zin 57 (by decide +kernel) (by decide +kernel), by decide +kernel, ⟨by decide +kernel, by decide +kernel⟩, by decide +kernel, by decide +kernel, by decide +kernel⟩
theorem zmf_17 : zMF 17 := ⟨zin 400 (by decide +kernel) (by decide +kernel), zin 57 (by decide +kernel) (by decide +kernel), by decide +kernel, ⟨by decide +kernel, by decide +kernel⟩, by decide +kernel, by decide +kernel, by decide +kernel⟩
theorem zmf_18 : zMF 18 := ⟨zin 404 (by decide +kernel) (by decide +kernel), zin 57 (by decide +kernel) (by decide +kernel), by decide +kernel, ⟨by decide +kernel, by decide +kernel⟩, by decide +kernel, by decide +kernel, by decide +kernel⟩
theorem zmf_19 : zMF 19 := ⟨zin 408 (by decide +kernel) (by decide +kernel), zin 57 (by decide +kernel) (by decide +kernel), by decide +kernel, ⟨by decide +kernel, by decide +kernel⟩, by decide +kernel, by decide +kernel, by decide +kernel⟩
theorem zmf_20 : zMF 20 := ⟨zin 418 (by decide +kernel) (by decide +kernel), zin 57 (by decide +kernel) (by decide +kernel), by decide +kernel, ⟨by decide +kernel, by decide +kernel⟩, by decide +kernel, by decide +kernel, by decide +kernel⟩
theorem zmf_21 : zMF 21 := ⟨zin 438 (by decide +kernel) (by decide +kernel), zin 57 (by decide +kernel) (by decide +kernel), by decide +kernel, ⟨by decide +kernel, by decide +kernel⟩, by decide +kernel, by decide +kernel, by decide +kernel⟩
theorem zmf_22 : zMF 22 := ⟨zin 540 (by decide +kernel) (by decide +kernel), zin 57 (by decide +kernel) (by decide +kernel), by decide +kernel, ⟨by decide +kernel, by decide +kernel⟩, by decide +kernel, by decide +kernel, by decide +kernel⟩
theorem zmf_23 : zMF 23 := ⟨zin 548 (by decide +kernel) (by decide +kernel), zin 57 (by decide +kernel) (by decide +kernel), by decide +kernel, ⟨by decide +kernel, by decide +kernel⟩, by decide +kernel, by decide +kernel, by decide +kernel⟩
theorem zmf_24 : zMF 24 := ⟨zin 611 (by decide +kernel) (by decide +kernel), zin 63 (by decide +kernel) (by decide +kernel), by decide +kernel, ⟨by decide +kernel, by decide +kernel⟩, by decide +kernel, by decide +kernel, by decide +kernel⟩
theorem zmf_25 : zMF 25 := ⟨zin 632 (by decide +kernel) (by decide +kernel), zin 63 (by decide +kernel) (by decide +kernel), by decide +kernel, ⟨by decide +kernel, by decide +kernel⟩, by decide +kernel, by decide +kernel, by decide +kernel⟩
theorem zmf_26 : zMF 26 := ⟨zin 559 (by decide +kernel) (by decide +kernel), zin 61 (by decide +kernel) (by decide +kernel), by decide +kernel, ⟨by decide +kernel, by decide +kernel⟩, by decide +kernel, by decide +kernel, by decide +kernel⟩
theorem zmf_27 : zMF 27 := ⟨zin 563 (by decide +kernel) (by decide +kernel), zin 61 (by decide +kernel) (by decide +kernel), by decide +kernel, ⟨by decide +kernel, by decide +kernel⟩, by decide +kernel, by decide +kernel, by decide +kernel⟩
theorem zmf_28 : zMF 28 := ⟨zin 567 (by decide +kernel) (by decide +kernel), zin 61 (by decide +kernel) (by decide +kernel), by decide +kernel, ⟨by decide +kernel, by decide +kernel⟩, by decide +kernel, by decide +kernel, by decide +kernel⟩
theorem zmf_29 : zMF 29 := ⟨zin 575 (by decide +kernel) (by decide +kernel), zin 61 (by decide +kernel) (by decide +kernel), by decide +kernel, ⟨by decide +kernel, by decide +kernel⟩, by decide +kernel, by decide +kernel, by decide +kernel⟩
theorem zmf_30 : zMF 30 := ⟨zin 598 (by decide +kernel) (by decide +kernel), zin 61 (by decide +kernel) (by decide +kernel), by decide +kernel, ⟨by decide +kernel, by decide +kernel⟩, by decide +kernel, by decide +kernel, by decide +kernel⟩
theorem zmf_31 : zMF 31 := ⟨zin 607 (by decide +kernel) (by decide +kernel), zin 61 (by decide +kernel) (by decide +kernel), by decide +kernel, ⟨by decide +kernel, by decide +kernel⟩, by decide +kernel, by decide +kernel, by decide +kernel⟩
theorem zmf_32 : zMF 32 := ⟨zin 581 (by decide +kernel) (by decide +kernel), zin 61 (by decide +kernel) (by decide +kernel), by decide +kernel, ⟨by decide +kernel, by decide +kernel⟩, by decide +kernel, by decide +kernel, by decide +kernel⟩
theorem zmf_33 : zMF 33 := ⟨zin 585 (by decide +kernel) (by decide +kernel), zin 61 (by decide +kernel) (by decide +kernel), by decide +kernel, ⟨by decide +kernel, by decide +kernel⟩, by decide +kernel, by decide +kernel, by decide +kernel⟩
theorem zmf_34 : zMF 34 := ⟨zin 589 (by decide +kernel) (by decide +kernel), zin 61 (by decide +kernel) (by decide +kernel), by decide +kernel, ⟨by decide +kernel, by decide +kernel⟩, by decide +kernel, by decide +kernel, by decide +kernel⟩
theorem zmf_35 : zMF 35 := ⟨zin 641 (by decide +kernel) (by decide +kernel), zin 61 (by decide +kernel) (by decide +kernel), by decide +kernel, ⟨by decide +kernel, by decide +kernel⟩, by decide +kernel, by decide +kernel, by decide +kernel⟩
theorem zmf_36 : zMF 36 := ⟨zin 650 (by decide +kernel) (by decide +kernel), zin 61 (by decide +kernel) (by decide +kernel), by decide +kernel, ⟨by decide +kernel, by decide +kernel⟩, by decide +kernel, by decide +kernel, by decide +kernel⟩
theorem zmf_37 : zMF 37 := ⟨zin 645 (by decide +kernel) (by decide +kernel), zin 61 (by decide +kernel) (by decide +kernel), by decide +kernel, ⟨by decide +kernel, by decide +kernel⟩, by decide +kernel, by decide +kernel, by decide +kernel⟩
theorem zmf_38 : zMF 38 := ⟨zin 658 (by decide +kernel) (by decide +kernel), zin 61 (by decide +kernel) (by decide +kernel), by decide +kernel, ⟨by decide +kernel, by decide +kernel⟩, by decide +kernel, by decide +kernel, by decide +kernel⟩
theorem zmf_39 : zMF 39 := ⟨zin 346 (by decide +kernel) (by decide +kernel), zin 56 (by decide +kernel) (by decide +kernel), by decide +kernel, ⟨by decide +kernel, by decide +kernel⟩, by decide +kernel, by decide +kernel, by decide +kernel⟩
theorem zmf_40 : zMF 40 := ⟨zin 361 (by decide +kernel) (by decide +kernel), zin 56 (by decide +kernel) (by decide +kernel), by decide +kernel, ⟨by decide +kernel, by decide +kernel⟩, by decide +kernel, by decide +kernel, by decide +kernel⟩
theorem zmf_41 : zMF 41 := ⟨zin 365 (by decide +kernel) (by decide +kernel), zin 56 (by decide +kernel) (by decide +kernel), by decide +kernel, ⟨by decide +kernel, by decide +kernel⟩, by decide +kernel, by decide +kernel, by decide +kernel⟩
theorem zmf_42 : zMF 42 := ⟨zin 384 (by decide +kernel) (by decide +kernel), zin 56 (by decide +kernel) (by decide +kernel), by decide +kernel, ⟨by decide +kernel, by decide +kernel⟩, by decide +kernel, by decide +kernel, by decide +kernel⟩
theorem zmf_43 : zMF 43 := ⟨zin 754 (by decide +kernel) (by decide +kernel), zin 56 (by decide +kernel) (by decide +kernel), by decide +kernel, ⟨by decide +kernel, by decide +kernel⟩, by decide +kernel, by decide +kernel, by decide +kernel⟩
theorem zmf_44 : zMF 44 := ⟨zin 615 (by decide +kernel) (by decide +kernel), zin 62 (by decide +kernel) (by decide +kernel), by decide +kernel, ⟨by decide +kernel, by decide +kernel⟩, by decide +kernel, by decide +kernel, by decide +kernel⟩
theorem zmf_45 : zMF 45 := ⟨zin 626 (by decide +kernel) (by decide +kernel), zin 62 (by decide +kernel) (by decide +kernel), by decide +kernel, ⟨by decide +kernel, by decide +kernel⟩, by decide +kernel, by decide +kernel, by decide +kernel⟩
theorem zmf_46 : zMF 46 := ⟨zin 669 (by decide +kernel) (by decide +kernel), zin 62 (by decide +kernel) (by decide +kernel), by decide +kernel, ⟨by decide +kernel, by decide +kernel⟩, by decide +kernel, by decide +kernel, by decide +kernel⟩
theorem zmf_47 : zMF 47 := ⟨zin 499 (by decide +kernel) (by decide +kernel), zin 59 (by decide +kernel) (by decide +kernel), by decide +kernel, ⟨by decide +kernel, by decide +kernel⟩, by decide +kernel, by decide +kernel, by decide +kernel⟩
theorem zmf_48 : zMF 48 := ⟨zin 518 (by decide +kernel) (by decide +kernel), zin 59 (by decide +kernel) (by decide +kernel), by decide +kernel, ⟨by decide +kernel, by decide +kernel⟩, by decide +kernel, by decide +kernel, by decide +kernel⟩
theorem zmf_49 : zMF 49 := ⟨zin 513 (by decide +kernel) (by decide +kernel), zin 59 (by decide +kernel) (by decide +kernel), by decide +kernel, ⟨by decide +kernel, by decide +kernel⟩, by decide +kernel, by decide +kernel, by decide +kernel⟩
theorem zmf_50 : zMF 50 := ⟨zin 333 (by decide +kernel) (by decide +kernel), zin 55 (by decide +kernel) (by decide +kernel), by decide +kernel, ⟨by decide +kernel, by decide +kernel⟩, by decide +kernel, by decide +kernel, by decide +kernel⟩
theorem zmf_51 : zMF 51 := ⟨zin 357 (by decide +kernel) (by decide +kernel), zin 55 (by decide +kernel) (by decide +kernel), by decide +kernel, ⟨by decide +kernel, by decide +kernel⟩, by decide +kernel, by decide +kernel, by decide +kernel⟩
theorem zmf_52 : zMF 52 := ⟨zin 369 (by decide +kernel) (by decide +kernel), zin 55 (by decide +kernel) (by decide +kernel), by decide +kernel, ⟨by decide +kernel, by decide +kernel⟩, by decide +kernel, by decide +kernel, by decide +kernel⟩
theorem zmf_53 : zMF 53 := ⟨zin 376 (by decide +kernel) (by decide +kernel), zin 55 (by decide +kernel) (by decide +kernel), by decide +kernel, ⟨by decide +kernel, by decide +kernel⟩, by decide +kernel, by decide +kernel, by decide +kernel⟩
theorem zmf_54 : zMF 54 := ⟨zin 380 (by decide +kernel) (by decide +kernel), zin 55 (by decide +kernel) (by decide +kernel), by decide +kernel, ⟨by decide +kernel, by decide +kernel⟩, by decide +kernel, by decide +kernel, by decide +kernel⟩
theorem zmf_55 : zMF 55 := ⟨zin 425 (by decide +kernel) (by decide +kernel), zin 55 (by decide +kernel) (by decide +kernel), by decide +kernel, ⟨by decide +kernel, by decide +kernel⟩, by decide +kernel, by decide +kernel, by decide +kernel⟩
theorem zmf_56 : zMF 56 := ⟨zin 430 (by decide +kernel) (by decide +kernel), zin 55 (by decide +kernel) (by decide +kernel), by decide +kernel, ⟨by decide +kernel, by decide +kernel⟩, by decide +kernel, by decide +kernel, by decide +kernel⟩
theorem zmf_57 : zMF 57 := ⟨zin 442 (by decide +kernel) (by decide +kernel), zin 55 (by decide +kernel) (by decide +kernel), by decide +kernel, ⟨by decide +kernel, by decide +kernel⟩, by decide +kernel, by decide +kernel, by decide +kernel⟩
theorem zmf_58 : zMF 58 := ⟨zin 446 (by decide +kernel) (by decide +kernel), zin 55 (by decide +kernel) (by decide +kernel), by decide +kernel, ⟨by decide +kernel, by decide +kernel⟩, by decide +kernel, by decide +kernel, by decide +kernel⟩
theorem zmf_59 : zMF 59 := ⟨zin 450 (by decide +kernel) (by decide +kernel), zin 55 (by decide +kernel) (by decide +kernel), by decide +kernel, ⟨by decide +kernel, by decide +kernel⟩, by decide +kernel, by decide +kernel, by decide +kernel⟩
theorem zmf_60 : zMF 60 := ⟨zin 483 (by decide +kernel) (by decide +kernel), zin 55 (by decide +kernel) (by decide +kernel), by decide +kernel, ⟨by decide +kernel, by decide +kernel⟩, by decide +kernel, by decide +kernel, by decide +kernel⟩
theorem zmf_61 : zMF 61 := ⟨zin 488 (by decide +kernel) (by decide +kernel), zin 55 (by decide +kernel) (by decide +kernel), by decide +kernel, ⟨by decide +kernel, by decide +kernel⟩, by decide +kernel, by decide +kernel, by decide +kernel⟩
theorem zmf_62 : zMF 62 := ⟨zin 495 (by decide +kernel) (by decide +kernel), zin 55 (by decide +kernel) (by decide +kernel), by decide +kernel, ⟨by decide +kernel, by decide +kernel⟩, by decide +kernel, by decide +kernel, by decide +kernel⟩
theorem zmf_63 : zMF 63 := ⟨zin 509 (by decide +kernel) (by decide +kernel), zin 55 (by decide +kernel) (by decide +kernel), by decide +kernel, ⟨by decide +kernel, by decide +kernel⟩, by decide +kernel, by decide +kernel, by decide +kernel⟩
theorem zmf_64 : zMF 64 := ⟨zin 522 (by decide +kernel) (by decide +kernel), zin 55 (by decide +kernel) (by decide +kernel), by decide +kernel, ⟨by decide +kernel, by decide +kernel⟩, by decide +kernel, by decide +kernel, by decide +kernel⟩
theorem zmf_65 : zMF 65 := ⟨zin 526 (by decide +kernel) (by decide +kernel), zin 55 (by decide +kernel) (by decide +kernel), by decide +kernel, ⟨by decide +kernel, by decide +kernel⟩, by decide +kernel, by decide +kernel, by decide +kernel⟩
theorem zmf_66 : zMF 66 := ⟨zin 637 (by decide +kernel) (by decide +kernel), zin 55 (by decide +kernel) (by decide +kernel), by decide +kernel, ⟨by decide +kernel, by decide +kernel⟩, by decide +kernel, by decide +kernel, by decide +kernel⟩
theorem zmf_67 : zMF 67 := ⟨zin 654 (by decide +kernel) (by decide +kernel), zin 55 (by decide +kernel) (by decide +kernel), by decide +kernel, ⟨by decide +kernel, by decide +kernel⟩, by decide +kernel, by decide +kernel, by decide +kernel⟩
theorem zmf_68 : zMF 68 := ⟨zin 664 (by decide +kernel) (by decide +kernel), zin 55 (by decide +kernel) (by decide +kernel), by decide +kernel, ⟨by decide +kernel, by decide +kernel⟩, by decide +kernel, by decide +kernel, by decide +kernel⟩
theorem zmf_69 : zMF 69 := ⟨zin 682 (by decide +kernel) (by decide +kernel), zin 55 (by decide +kernel) (by decide +kernel), by decide +kernel, ⟨by decide +kernel, by decide +kernel⟩, by decide +kernel, by decide +kernel, by decide +kernel⟩
theorem zmf_70 : zMF 70 := ⟨zin 690 (by decide +kernel) (by decide +kernel), zin 55 (by decide +kernel) (by decide +kernel), by decide +kernel, ⟨by decide +kernel, by decide +kernel⟩, by decide +kernel, by decide +kernel, by decide +kernel⟩
theorem zmf_71 : zMF 71 := ⟨zin 698 (by decide +kernel) (by decide +kernel), zin 55 (by decide +kernel) (by decide +kernel), by decide +kernel, ⟨by decide +kernel, by decide +kernel⟩, by decide +kernel, by decide +kernel, by decide +kernel⟩
theorem zmf_72 : zMF 72 := ⟨zin 702 (by decide +kernel) (by decide +kernel), zin 55 (by decide +kernel) (by decide +kernel), by decide +kernel, ⟨by decide +kernel, by decide +kernel⟩, by decide +kernel, by decide +kernel, by decide +kernel⟩
theorem zmf_73 : zMF 73 := ⟨zin 746 (by decide +kernel) (by decide +kernel), zin 55 (by decide +kernel) (by decide +kernel), by decide +kernel, ⟨by decide +kernel, by decide +kernel⟩, by decide +kernel, by decide +kernel, by decide +kernel⟩
theorem zmf_74 : zMF 74 := ⟨zin 750 (by decide +kernel) (by decide +kernel), zin 55 (by decide +kernel) (by decide +kernel), by decide +kernel, ⟨by decide +kernel, by decide +kernel⟩, by decide +kernel, by decide +kernel, by decide +kernel⟩
theorem zmf_75 : zMF 75 := ⟨zin 770 (by decide +kernel) (by decide +kernel), zin 55 (by decide +kernel) (by decide +kernel), by decide +kernel, ⟨by decide +kernel, by decide +kernel⟩, by decide +kernel, by decide +kernel, by decide +kernel⟩
theorem zmf_76 : zMF 76 := ⟨zin 341 (by decide +kernel) (by decide +kernel), zin 55 (by decide +kernel) (by decide +kernel), by decide +kernel, ⟨by decide +kernel, by decide +kernel⟩, by decide +kernel, by decide +kernel, by decide +kernel⟩
theorem zmf_77 : zMF 77 := ⟨zin 353 (by decide +kernel) (by decide +kernel), zin 55 (by decide +kernel) (by decide +kernel), by decide +kernel, ⟨by decide +kernel, by decide +kernel⟩, by decide +kernel, by decide +kernel, by decide +kernel⟩
theorem zmf_78 : zMF 78 := ⟨zin 336 (by decide +kernel) (by decide +kernel), zin 55 (by decide +kernel) (by decide +kernel), by decide +kernel, ⟨by decide +kernel, by decide +kernel⟩, by decide +kernel, by decide +kernel, by decide +kernel⟩
theorem zmf_79 : zMF 79 := ⟨zin 434 (by decide +kernel) (by decide +kernel), zin 55 (by decide +kernel) (by decide +kernel), by decide +kernel, ⟨by decide +kernel, by decide +kernel⟩, by decide +kernel, by decide +kernel, by decide +kernel⟩
theorem zmf_80 : zMF 80 := ⟨zin 453 (by decide +kernel) (by decide +kernel), zin 55 (by decide +kernel) (by decide +kernel), by decide +kernel, ⟨by decide +kernel, by decide +kernel⟩, by decide +kernel, by decide +kernel, by decide +kernel⟩
theorem zmf_81 : zMF 81 := ⟨zin 459 (by decide +kernel) (by decide +kernel), zin 55 (by decide +kernel) (by decide +kernel), by decide +kernel, ⟨by decide +kernel, by decide +kernel⟩, by decide +kernel, by decide +kernel, by decide +kernel⟩
theorem zmf_82 : zMF 82 := ⟨zin 456 (by decide +kernel) (by decide +kernel), zin 55 (by decide +kernel) (by decide +kernel), by decide +kernel, ⟨by decide +kernel, by decide +kernel⟩, by decide +kernel, by decide +kernel, by decide +kernel⟩
theorem zmf_83 : zMF 83 := ⟨zin 462 (by decide +kernel) (by decide +kernel), zin 55 (by decide +kernel) (by decide +kernel), by decide +kernel, ⟨by decide +kernel, by decide +kernel⟩, by decide +kernel, by decide +kernel, by decide +kernel⟩
theorem zmf_84 : zMF 84 := ⟨zin 465 (by decide +kernel) (by decide +kernel), zin 55 (by decide +kernel) (by decide +kernel), by decide +kernel, ⟨by decide +kernel, by decide +kernel⟩, by decide +kernel, by decide +kernel, by decide +kernel⟩
theorem zmf_85 : zMF 85 := ⟨zin 491 (by decide +kernel) (by decide +kernel), zin 55 (by decide +kernel) (by decide +kernel), by decide +kernel, ⟨by decide +kernel, by decide +kernel⟩, by decide +kernel, by decide +kernel, by decide +kernel⟩
theorem zmf_86 : zMF 86 := ⟨zin 505 (by decide +kernel) (by decide +kernel), zin 55 (by decide +kernel) (by decide +kernel), by decide +kernel, ⟨by decide +kernel, by decide +kernel⟩, by decide +kernel, by decide +kernel, by decide +kernel⟩
theorem zmf_87 : zMF 87 := ⟨zin 602 (by decide +kernel) (by decide +kernel), zin 55 (by decide +kernel) (by decide +kernel), by decide +kernel, ⟨by decide +kernel, by decide +kernel⟩, by decide +kernel, by decide +kernel, by decide +kernel⟩
theorem zmf_88 : zMF 88 := ⟨zin 618 (by decide +kernel) (by decide +kernel), zin 55 (by decide +kernel) (by decide +kernel), by decide +kernel, ⟨by decide +kernel, by decide +kernel⟩, by decide +kernel, by decide +kernel, by decide +kernel⟩
theorem zmf_89 : zMF 89 := ⟨zin 502 (by decide +kernel) (by decide +kernel), zin 55 (by decide +kernel) (by decide +kernel), by decide +kernel, ⟨by decide +kernel, by decide +kernel⟩, by decide +kernel, by decide +kernel, by decide +kernel⟩
theorem zmf_90 : zMF 90 := ⟨zin 530 (by decide +kernel) (by decide +kernel), zin 55 (by decide +kernel) (by decide +kernel), by decide +kernel, ⟨by decide +kernel, by decide +kernel⟩, by decide +kernel, by decide +kernel, by decide +kernel⟩
theorem zmf_91 : zMF 91 := ⟨zin 677 (by decide +kernel) (by decide +kernel), zin 55 (by decide +kernel) (by decide +kernel), by decide +kernel, ⟨by decide +kernel, by decide +kernel⟩, by decide +kernel, by decide +kernel, by decide +kernel⟩
theorem zmf_92 : zMF 92 := ⟨zin 694 (by decide +kernel) (by decide +kernel), zin 55 (by decide +kernel) (by decide +kernel), by decide +kernel, ⟨by decide +kernel, by decide +kernel⟩, by decide +kernel, by decide +kernel, by decide +kernel⟩
theorem zmf_93 : zMF 93 := ⟨zin 714 (by decide +kernel) (by decide +kernel), zin 55 (by decide +kernel) (by decide +kernel), by decide +kernel, ⟨by decide +kernel, by decide +kernel⟩, by decide +kernel, by decide +kernel, by decide +kernel⟩
theorem zmf_94 : zMF 94 := ⟨zin 706 (by decide +kernel) (by decide +kernel), zin 55 (by decide +kernel) (by decide +kernel), by decide +kernel, ⟨by decide +kernel, by decide +kernel⟩, by decide +kernel, by decide +kernel, by decide +kernel⟩
theorem zmf_95 : zMF 95 := ⟨zin 726 (by decide +kernel) (by decide +kernel), zin 55 (by decide +kernel) (by decide +kernel), by decide +kernel, ⟨by decide +kernel, by decide +kernel⟩, by decide +kernel, by decide +kernel, by decide +kernel⟩
theorem zmf_96 : zMF 96 := ⟨zin 722 (by decide +kernel) (by decide +kernel), zin 55 (by decide +kernel) (by decide +kernel), by decide +kernel, ⟨by decide +kernel, by decide +kernel⟩, by decide +kernel, by decide +kernel, by decide +kernel⟩
theorem zmf_97 : zMF 97 := ⟨zin 718 (by decide +kernel) (by decide +kernel), zin 55 (by decide +kernel) (by decide +kernel), by decide +kernel, ⟨by decide +kernel, by decide +kernel⟩, by decide +kernel, by decide +kernel, by decide +kernel⟩
theorem zmf_98 : zMF 98 := ⟨zin 710 (by decide +kernel) (by decide +kernel), zin 55 (by decide +kernel) (by decide +kernel), by decide +kernel, ⟨by decide +kernel, by decide +kernel⟩, by decide +kernel, by decide +kernel, by decide +kernel⟩
theorem zmf_99 : zMF 99 := ⟨zin 730 (by decide +kernel) (by decide +kernel), zin 55 (by decide +kernel) (by decide +kernel), by decide +kernel, ⟨by decide +kernel, by decide +kernel⟩, by decide +kernel, by decide +kernel, by decide +kernel⟩
theorem zmf_100 : zMF 100 := ⟨zin 742 (by decide +kernel) (by decide +kernel), zin 55 (by decide +kernel) (by decide +kernel), by decide +kernel, ⟨by decide +kernel, by decide +kernel⟩, by decide +kernel, by decide +kernel, by decide +kernel⟩
theorem zmf_101 : zMF 101 := ⟨zin 738 (by decide +kernel) (by decide +kernel), zin 55 (by decide +kernel) (by decide +kernel), by decide +kernel, ⟨by decide +kernel, by decide +kernel⟩, by decide +kernel, by decide +kernel, by decide +kernel⟩
theorem zmf_102 : zMF 102 := ⟨zin 734 (by decide +kernel) (by decide +kernel), zin 55 (by decide +kernel) (by decide +kernel), by decide +kernel, ⟨by decide +kernel, by decide +kernel⟩, by decide +kernel, by decide +kernel, by decide +kernel⟩
theorem zmf_103 : zMF 103 := ⟨zin 906 (by decide +kernel) (by decide +kernel), zin 64 (by decide +kernel) (by decide +kernel), by decide +kernel, ⟨by decide +kernel, by decide +kernel⟩, by decide +kernel, by decide +kernel, by decide +kernel⟩
theorem zmf_104 : zMF 104 := ⟨zin 912 (by decide +kernel) (by decide +kernel), zin 64 (by decide +kernel) (by decide +kernel), by decide +kernel, ⟨by decide +kernel, by decide +kernel⟩, by decide +kernel, by decide +kernel, by decide +kernel⟩
theorem zmf_105 : zMF 105 := ⟨zin 917 (by decide +kernel) (by decide +kernel), zin 64 (by decide +kernel) (by decide +kernel), by decide +kernel, ⟨by decide +kernel, by decide +kernel⟩, by decide +kernel, by decide +kernel, by decide +kernel⟩
theorem zmf_106 : zMF 106 := ⟨zin 902 (by decide +kernel) (by decide +kernel), zin 64 (by decide +kernel) (by decide +kernel), by decide +kernel, ⟨by decide +kernel, by decide +kernel⟩, by decide +kernel, by decide +kernel, by decide +kernel⟩
theorem zmf_107 : zMF 107 := ⟨zin 899 (by decide +kernel) (by decide +kernel), zin 64 (by decide +kernel) (by decide +kernel), by decide +kernel, ⟨by decide +kernel, by decide +kernel⟩, by decide +kernel, by decide +kernel, by decide +kernel⟩
theorem zmf_108 : zMF 108 := ⟨zin 921 (by decide +kernel) (by decide +kernel), zin 64 (by decide +kernel) (by decide +kernel), by decide +kernel, ⟨by decide +kernel, by decide +kernel⟩, by decide +kernel, by decide +kernel, by decide +kernel⟩
theorem zmf_109 : zMF 109 := ⟨zin 925 (by decide +kernel) (by decide +kernel), zin 64 (by decide +kernel) (by decide +kernel), by decide +kernel, ⟨by decide +kernel, by decide +kernel⟩, by decide +kernel, by decide +kernel, by decide +kernel⟩
theorem zmf_110 : zMF 110 := ⟨zin 929 (by decide +kernel) (by decide +kernel), zin 64 (by decide +kernel) (by decide +kernel), by decide +kernel, ⟨by decide +kernel, by decide +kernel⟩, by decide +kernel, by decide +kernel, by decide +kernel⟩
theorem zmf_111 : zMF 111 := ⟨zin 944 (by decide +kernel) (by decide +kernel), zin 64 (by decide +kernel) (by decide +kernel), by decide +kernel, ⟨by decide +kernel, by decide +kernel⟩, by decide +kernel, by decide +kernel, by decide +kernel⟩
theorem zmf_112 : zMF 112 := ⟨zin 940 (by decide +kernel) (by decide +kernel), zin 64 (by decide +kernel) (by decide +kernel), by decide +kernel, ⟨by decide +kernel, by decide +kernel⟩, by decide +kernel, by decide +kernel, by decide +kernel⟩
theorem zmf_113 : zMF 113 := ⟨zin 948 (by decide +kernel) (by decide +kernel), zin 64 (by decide +kernel) (by decide +kernel), by decide +kernel, ⟨by decide +kernel, by decide +kernel⟩, by decide +kernel, by decide +kernel, by decide +kernel⟩
theorem zmf_114 : zMF 114 := ⟨zin 933 (by decide +kernel) (by decide +kernel), zin 64 (by decide +kernel) (by decide +kernel), by decide +kernel, ⟨by decide +kernel, by decide +kernel⟩, by decide +kernel, by decide +kernel, by decide +kernel⟩
theorem zmf_115 : zMF 115 := ⟨zin 952 (by decide +kernel) (by decide +kernel), zin 64 (by decide +kernel) (by decide +kernel), by decide +kernel, ⟨by decide +kernel, by decide +kernel⟩, by decide +kernel, by decide +kernel, by decide +kernel⟩
theorem zmf_116 : zMF 116 := ⟨zin 961 (by decide +kernel) (by decide +kernel), zin 64 (by decide +kernel) (by decide +kernel), by decide +kernel, ⟨by decide +kernel, by decide +kernel⟩, by decide +kernel, by decide +kernel, by decide +kernel⟩
theorem zmf_117 : zMF 117 := ⟨zin 965 (by decide +kernel) (by decide +kernel), zin 64 (by decide +kernel) (by decide +kernel), by decide +kernel, ⟨by decide +kernel, by decide +kernel⟩, by decide +kernel, by decide +kernel, by decide +kernel⟩
theorem zmf_118 : zMF 118 := ⟨zin 957 (by decide +kernel) (by decide +kernel), zin 64 (by decide +kernel) (by decide +kernel), by decide +kernel, ⟨by decide +kernel, by decide +kernel⟩, by decide +kernel, by decide +kernel, by decide +kernel⟩
theorem zmf_119 : zMF 119 := ⟨zin 969 (by decide +kernel) (by decide +kernel), zin 64 (by decide +kernel) (by decide +kernel), by decide +kernel, ⟨by decide +kernel, by decide +kernel⟩, by decide +kernel, by decide +kernel, by decide +kernel⟩
theorem zmf_120 : zMF 120 := ⟨zin 973 (by decide +kernel) (by decide +kernel), zin 64 (by decide +kernel) (by decide +kernel), by decide +kernel, ⟨by decide +kernel, by decide +kernel⟩, by decide +kernel, by decide +kernel, by decide +kernel⟩
theorem zmf_121 : zMF 121 := ⟨zin 983 (by decide +kernel) (by decide +kernel), zin 64 (by decide +kernel) (by decide +kernel), by decide +kernel, ⟨by decide +kernel, by decide +kernel⟩, by decide +kernel, by decide +kernel, by decide +kernel⟩
theorem zmf_122 : zMF 122 := ⟨zin 990 (by decide +kernel) (by decide +kernel), zin 64 (by decide +kernel) (by decide +kernel), by decide +kernel, ⟨by decide +kernel, by decide +kernel⟩, by decide +kernel, by decide +kernel, by decide +kernel⟩
theorem zmf_123 : zMF 123 := ⟨zin 980 (by decide +kernel) (by decide +kernel), zin 64 (by decide +kernel) (by decide +kernel), by decide +kernel, ⟨by decide +kernel, by decide +kernel⟩, by decide +kernel, by decide +kernel, by decide +kernel⟩
theorem zmf_124 : zMF 124 := ⟨zin 994 (by decide +kernel) (by decide +kernel), zin 64 (by decide +kernel) (by decide +kernel), by decide +kernel, ⟨by decide +kernel, by decide +kernel⟩, by decide +kernel, by decide +kernel, by decide +kernel⟩
theorem zmf_125 : zMF 125 := ⟨zin 977 (by decide +kernel) (by decide +kernel), zin 64 (by decide +kernel) (by decide +kernel), by decide +kernel, ⟨by decide +kernel, by decide +kernel⟩, by decide +kernel, by decide +kernel, by decide +kernel⟩
theorem zmf_126 : zMF 126 := ⟨zin 998 (by decide +kernel) (by decide +kernel), zin 64 (by decide +kernel) (by decide +kernel), by decide +kernel, ⟨by decide +kernel, by decide +kernel⟩, by decide +kernel, by decide +kernel, by decide +kernel⟩
theorem zmf_127 : zMF 127 := ⟨zin 1002 (by decide +kernel) (by decide +kernel), zin 64 (by decide +kernel) (by decide +kernel), by decide +kernel, ⟨by decide +kernel, by decide +kernel⟩, by decide +kernel, by decide +kernel, by decide +kernel⟩
theorem zmf_128 : zMF 128 := ⟨zin 1007 (by decide +kernel) (by decide +kernel), zin 64 (by decide +kernel) (by decide +kernel), by decide +kernel, ⟨by decide +kernel, by decide +kernel⟩, by decide +kernel, by decide +kernel, by decide +kernel⟩
theorem zmf_129 : zMF 129 := ⟨zin 1016 (by decide +kernel) (by decide +kernel), zin 64 (by decide +kernel) (by decide +kernel), by decide +kernel, ⟨by decide +kernel, by decide +kernel⟩, by decide +kernel, by decide +kernel, by decide +kernel⟩
theorem zmf_130 : zMF 130 := ⟨zin 1012 (by decide +kernel) (by decide +kernel), zin 64 (by decide +kernel) (by decide +kernel), by decide +kernel, ⟨by decide +kernel, by decide +kernel⟩, by decide +kernel, by decide +kernel, by decide +kernel⟩
theorem zmf_131 : zMF 131 := ⟨zin 1022 (by decide +kernel) (by decide +kernel), zin 64 (by decide +kernel) (by decide +kernel), by decide +kernel, ⟨by decide +kernel, by decide +kernel⟩, by decide +kernel, by decide +kernel, by decide +kernel⟩
theorem zmf_132 : zMF 132 := ⟨zin 1035 (by decide +kernel) (by decide +kernel), zin 64 (by decide +kernel) (by decide +kernel), by decide +kernel, ⟨by decide +kernel, by decide +kernel⟩, by decide +kernel, by decide +kernel, by decide +kernel⟩
theorem zmf_133 : zMF 133 := ⟨zin 1030 (by decide +kernel) (by decide +kernel), zin 64 (by decide +kernel) (by decide +kernel), by decide +kernel, ⟨by decide +kernel, by decide +kernel⟩, by decide +kernel, by decide +kernel, by decide +kernel⟩
theorem zmf_134 : zMF 134 := ⟨zin 1026 (by decide +kernel) (by decide +kernel), zin 64 (by decide +kernel) (by decide +kernel), by decide +kernel, ⟨by decide +kernel, by decide +kernel⟩, by decide +kernel, by decide +kernel, by decide +kernel⟩
theorem zmf_135 : zMF 135 := ⟨zin 1056 (by decide +kernel) (by decide +kernel), zin 64 (by decide +kernel) (by decide +kernel), by decide +kernel, ⟨by decide +kernel, by decide +kernel⟩, by decide +kernel, by decide +kernel, by decide +kernel⟩
theorem zmf_136 : zMF 136 := ⟨zin 1052 (by decide +kernel) (by decide +kernel), zin 64 (by decide +kernel) (by decide +kernel), by decide +kernel, ⟨by decide +kernel, by decide +kernel⟩, by decide +kernel, by decide +kernel, by decide +kernel⟩
theorem zmf_137 : zMF 137 := ⟨zin 1049 (by decide +kernel) (by decide +kernel), zin 64 (by decide +kernel) (by decide +kernel), by decide +kernel, ⟨by decide +kernel, by decide +kernel⟩, by decide +kernel, by decide +kernel, by decide +kernel⟩
theorem zmf_138 : zMF 138 := ⟨zin 1063 (by decide +kernel) (by decide +kernel), zin 64 (by decide +kernel) (by decide +kernel), by decide +kernel, ⟨by decide +kernel, by decide +kernel⟩, by decide +kernel, by decide +kernel, by decide +kernel⟩
theorem zmf_139 : zMF 139 := ⟨zin 1045 (by decide +kernel) (by decide +kernel), zin 64 (by decide +kernel) (by decide +kernel), by decide +kernel, ⟨by decide +kernel, by decide +kernel⟩, by decide +kernel, by decide +kernel, by decide +kernel⟩
theorem zmf_140 : zMF 140 := ⟨zin 1060 (by decide +kernel) (by decide +kernel), zin 64 (by decide +kernel) (by decide +kernel), by decide +kernel, ⟨by decide +kernel, by decide +kernel⟩, by decide +kernel, by decide +kernel, by decide +kernel⟩
theorem zmf_141 : zMF 141 := ⟨zin 1039 (by decide +kernel) (by decide +kernel), zin 64 (by decide +kernel) (by decide +kernel), by decide +kernel, ⟨by decide +kernel, by decide +kernel⟩, by decide +kernel, by decide +kernel, by decide +kernel⟩
theorem zmf_142 : zMF 142 := ⟨zin 1072 (by decide +kernel) (by decide +kernel), zin 64 (by decide +kernel) (by decide +kernel), by decide +kernel, ⟨by decide +kernel, by decide +kernel⟩, by decide +kernel, by decide +kernel, by decide +kernel⟩
theorem zmf_143 : zMF 143 := ⟨zin 1068 (by decide +kernel) (by decide +kernel), zin 64 (by decide +kernel) (by decide +kernel), by decide +kernel, ⟨by decide +kernel, by decide +kernel⟩, by decide +kernel, by decide +kernel, by decide +kernel⟩
theorem zmf_144 : zMF 144 := ⟨zin 1076 (by decide +kernel) (by decide +kernel), zin 64 (by decide +kernel) (by decide +kernel), by decide +kernel, ⟨by decide +kernel, by decide +kernel⟩, by decide +kernel, by decide +kernel, by decide +kernel⟩
theorem zmf_145 : zMF 145 := ⟨zin 1080 (by decide +kernel) (by decide +kernel), zin 64 (by decide +kernel) (by decide +kernel), by decide +kernel, ⟨by decide +kernel, by decide +kernel⟩, by decide +kernel, by decide +kernel, by decide +kernel⟩
theorem zmf_146 : zMF 146 := ⟨zin 1084 (by decide +kernel) (by decide +kernel), zin 64 (by decide +kernel) (by decide +kernel), by decide +kernel, ⟨by decide +kernel, by decide +kernel⟩, by decide +kernel, by decide +kernel, by decide +kernel⟩
theorem zmf_147 : zMF 147 := ⟨zin 1092 (by decide +kernel) (by decide +kernel), zin 64 (by decide +kernel) (by decide +kernel), by decide +kernel, ⟨by decide +kernel, by decide +kernel⟩, by decide +kernel, by decide +kernel, by decide +kernel⟩
theorem zmf_148 : zMF 148 := ⟨zin 1096 (by decide +kernel) (by decide +kernel), zin 64 (by decide +kernel) (by decide +kernel), by decide +kernel, ⟨by decide +kernel, by decide +kernel⟩, by decide +kernel, by decide +kernel, by decide +kernel⟩
theorem zmf_149 : zMF 149 := ⟨zin 1088 (by decide +kernel) (by decide +kernel), zin 64 (by decide +kernel) (by decide +kernel), by decide +kernel, ⟨by decide +kernel, by decide +kernel⟩, by decide +kernel, by decide +kernel, by decide +kernel⟩
theorem zmf_150 : zMF 150 := ⟨zin 1100 (by decide +kernel) (by decide +kernel), zin 64 (by decide +kernel) (by decide +kernel), by decide +kernel, ⟨by decide +kernel, by decide +kernel⟩, by decide +kernel, by decide +kernel, by decide +kernel⟩
theorem zmf_151 : zMF 151 := ⟨zin 1112 (by decide +kernel) (by decide +kernel), zin 64 (by decide +kernel) (by decide +kernel), by decide +kernel, ⟨by decide +kernel, by decide +kernel⟩, by decide +kernel, by decide +kernel, by decide +kernel⟩
theorem zmf_152 : zMF 152 := ⟨zin 1116 (by decide +kernel) (by decide +kernel), zin 64 (by decide +kernel) (by decide +kernel), by decide +kernel, ⟨by decide +kernel, by decide +kernel⟩, by decide +kernel, by decide +kernel, by decide +kernel⟩
theorem zmf_153 : zMF 153 := ⟨zin 1108 (by decide +kernel) (by decide +kernel), zin 64 (by decide +kernel) (by decide +kernel), by decide +kernel, ⟨by decide +kernel, by decide +kernel⟩, by decide +kernel, by decide +kernel, by decide +kernel⟩
theorem zmf_154 : zMF 154 := ⟨zin 1104 (by decide +kernel) (by decide +kernel), zin 64 (by decide +kernel) (by decide +kernel), by decide +kernel, ⟨by decide +kernel, by decide +kernel⟩, by decide +kernel, by decide +kernel, by decide +kernel⟩
theorem zmf_155 : zMF 155 := ⟨zin 1120 (by decide +kernel) (by decide +kernel), zin 64 (by decide +kernel) (by decide +kernel), by decide +kernel, ⟨by decide +kernel, by decide +kernel⟩, by decide +kernel, by decide +kernel, by decide +kernel⟩
theorem zmf_156 : zMF 156 := ⟨zin 1124 (by decide +kernel) (by decide +kernel), zin 64 (by decide +kernel) (by decide +kernel), by decide +kernel, ⟨by decide +kernel, by decide +kernel⟩, by decide +kernel, by decide +kernel, by decide +kernel⟩
theorem zmf_157 : zMF 157 := ⟨zin 1128 (by decide +kernel) (by decide +kernel), zin 64 (by decide +kernel) (by decide +kernel), by decide +kernel, ⟨by decide +kernel, by decide +kernel⟩, by decide +kernel, by decide +kernel, by decide +kernel⟩
theorem zmf_158 : zMF 158 := ⟨zin 349 (by decide +kernel) (by decide +kernel), zin 65 (by decide +kernel) (by decide +kernel), by decide +kernel, ⟨by decide +kernel, by decide +kernel⟩, by decide +kernel, by decide +kernel, by decide +kernel⟩
def zmL_0 : List (Nat) := [0, 1, 2, 3, 4, 5, 6, 7, 8, 9, 10, 11, 12, 13, 14, 15, 16, 17, 18, 19]
theorem zmL_ok_0 : ∀ x ∈ zmL_0, zMF x := List.forall_mem_cons.mpr ⟨zmf_0, List.forall_mem_cons.mpr ⟨zmf_1, List.forall_mem_cons.mpr ⟨zmf_2, List.forall_mem_cons.mpr ⟨zmf_3, List.forall_mem_cons.mpr ⟨zmf_4, List.forall_mem_cons.mpr ⟨zmf_5, List.forall_mem_cons.mpr ⟨zmf_6, List.forall_mem_cons.mpr ⟨zmf_7, List.forall_mem_cons.mpr ⟨zmf_8, List.forall_mem_cons.mpr ⟨zmf_9, List.forall_mem_cons.mpr ⟨zmf_10, List.forall_mem_cons.mpr ⟨zmf_11, List.forall_mem_cons.mpr ⟨zmf_12, List.forall_mem_cons.mpr ⟨zmf_13, List.forall_mem_cons.mpr ⟨zmf_14, List.forall_mem_cons.mpr ⟨zmf_15, List.forall_mem_cons.mpr ⟨zmf_16, List.forall_mem_cons.mpr ⟨zmf_17, List.forall_mem_cons.mpr ⟨zmf_18, List.forall_mem_cons.mpr ⟨zmf_19, fun _ h => absurd h List.not_mem_nil⟩⟩⟩⟩⟩⟩⟩⟩⟩⟩⟩⟩⟩⟩⟩⟩⟩⟩⟩⟩
def zmL_1 : List (Nat) := [20, 21, 22, 23, 24, 25, 26, 27, 28, 29, 30, 31, 32, 33, 34, 35, 36, 37, 38, 39]
theorem zmL_ok_1 : ∀ x ∈ zmL_1, zMF x := List.forall_mem_cons.mpr ⟨zmf_20, List.forall_mem_cons.mpr ⟨zmf_21, List.forall_mem_cons.mpr ⟨zmf_22, List.forall_mem_cons.mpr ⟨zmf_23, List.forall_mem_cons.mpr ⟨zmf_24, List.forall_mem_cons.mpr ⟨zmf_25, List.forall_mem_cons.mpr ⟨zmf_26, List.forall_mem_cons.mpr ⟨zmf_27, List.forall_mem_cons.mpr ⟨zmf_28, List.forall_mem_cons.mpr ⟨zmf_29, List.forall_mem_cons.mpr ⟨zmf_30, List.forall_mem_cons.mpr ⟨zmf_31, List.forall_mem_cons.mpr ⟨zmf_32, List.forall_mem_cons.mpr ⟨zmf_33, List.forall_mem_cons.mpr ⟨zmf_34, List.forall_mem_cons.mpr ⟨zmf_35, List.forall_mem_cons.mpr ⟨zmf_36, List.forall_mem_cons.mpr ⟨zmf_37, List.forall_mem_cons.mpr ⟨zmf_38, List.forall_mem_cons.mpr ⟨zmf_39, fun _ h => absurd h List.not_mem_nil⟩⟩⟩⟩⟩⟩⟩⟩⟩⟩⟩⟩⟩⟩⟩⟩⟩⟩⟩⟩
def zmL_2 : List (Nat) := [40, 41, 42, 43, 44, 45, 46, 47, 48, 49, 50, 51, 52, 53, 54, 55, 56, 57, 58, 59]
theorem zmL_ok_2 : ∀ x ∈ zmL_2, zMF x := List.forall_mem_cons.mpr ⟨zmf_40, List.forall_mem_cons.mpr ⟨zmf_41, List.forall_mem_cons.mpr ⟨zmf_42, List.forall_mem_cons.mpr ⟨zmf_43, List.forall_mem_cons.mpr ⟨zmf_44, List.forall_mem_cons.mpr ⟨zmf_45, List.forall_mem_cons.mpr ⟨zmf_46, List.forall_mem_cons.mpr ⟨zmf_47, List.forall_mem_cons.mpr ⟨zmf_48, List.forall_mem_cons.mpr ⟨zmf_49, List.forall_mem_cons.mpr ⟨zmf_50, List.forall_mem_cons.mpr ⟨zmf_51, List.forall_mem_cons.mpr ⟨zmf_52, List.forall_mem_cons.mpr ⟨zmf_53, List.forall_mem_cons.mpr ⟨zmf_54, List.forall_mem_cons.mpr ⟨zmf_55, List.forall_mem_cons.mpr ⟨zmf_56, List.forall_mem_cons.mpr ⟨zmf_57, List.forall_mem_cons.mpr ⟨zmf_58, List.forall_mem_cons.mpr ⟨zmf_59, fun _ h => absurd h List.not_mem_nil⟩⟩⟩⟩⟩⟩⟩⟩⟩⟩⟩⟩⟩⟩⟩⟩⟩⟩⟩⟩
def zmL_3 : List (Nat) := [60, 61, 62, 63, 64, 65, 66, 67, 68, 69, 70, 71, 72, 73, 74, 75, 76, 77, 78, 79]
theorem zmL_ok_3 : ∀ x ∈ zmL_3, zMF x := List.forall_mem_cons.mpr ⟨zmf_60, List.forall_mem_cons.mpr ⟨zmf_61, List.forall_mem_cons.mpr ⟨zmf_62, List.forall_mem_cons.mpr ⟨zmf_63, List.forall_mem_cons.mpr ⟨zmf_64, List.forall_mem_cons.mpr ⟨zmf_65, List.forall_mem_cons.mpr ⟨zmf_66, List.forall_mem_cons.mpr ⟨zmf_67, List.forall_mem_cons.mpr ⟨zmf_68, List.forall_mem_cons.mpr ⟨zmf_69, List.forall_mem_cons.mpr ⟨zmf_70, List.forall_mem_cons.mpr ⟨zmf_71, List.forall_mem_cons.mpr ⟨zmf_72, List.forall_mem_cons.mpr ⟨zmf_73, List.forall_mem_cons.mpr ⟨zmf_74, List.forall_mem_cons.mpr ⟨zmf_75, List.forall_mem_cons.mpr ⟨zmf_76, List.forall_mem_cons.mpr ⟨zmf_77, List.forall_mem_cons.mpr ⟨zmf_78, List.forall_mem_cons.mpr ⟨zmf_79, fun _ h => absurd h List.not_mem_nil⟩⟩⟩⟩⟩⟩⟩⟩⟩⟩⟩⟩⟩⟩⟩⟩⟩⟩⟩⟩
def zmL_4 : List (Nat) := [80, 81, 82, 83, 84, 85, 86, 87, 88, 89, 90, 91, 92, 93, 94, 95, 96, 97, 98, 99]
theorem zmL_ok_4 : ∀ x ∈ zmL_4, zMF x := List.forall_mem_cons.mpr ⟨zmf_80, List.forall_mem_cons.mpr ⟨zmf_81, List.forall_mem_cons.mpr ⟨zmf_82, List.forall_mem_cons.mpr ⟨zmf_83, List.forall_mem_cons.mpr ⟨zmf_84, List.forall_mem_cons.mpr ⟨zmf_85, List.forall_mem_cons.mpr ⟨zmf_86, List.forall_mem_cons.mpr ⟨zmf_87, List.forall_mem_cons.mpr ⟨zmf_88, List.forall_mem_cons.mpr ⟨zmf_89, List.forall_mem_cons.mpr ⟨zmf_90, List.forall_mem_cons.mpr ⟨zmf_91, List.forall_mem_cons.mpr ⟨zmf_92, List.forall_mem_cons.mpr ⟨zmf_93, List.forall_mem_cons.mpr ⟨zmf_94, List.forall_mem_cons.mpr ⟨zmf_95, List.forall_mem_cons.mpr ⟨zmf_96, List.forall_mem_cons.mpr ⟨zmf_97, List.forall_mem_cons.mpr ⟨zmf_98, List.forall_mem_cons.mpr ⟨zmf_99, fun _ h => absurd h List.not_mem_nil⟩⟩⟩⟩⟩⟩⟩⟩⟩⟩⟩⟩⟩⟩⟩⟩⟩⟩⟩⟩
def zmL_5 : List (Nat) := [100, 101, 102, 103, 104, 105, 106, 107, 108, 109, 110, 111, 112, 113, 114, 115, 116, 117, 118, 119]
theorem zmL_ok_5 : ∀ x ∈ zmL_5, zMF x := List.forall_mem_cons.mpr ⟨zmf_100, List.forall_mem_cons.mpr ⟨zmf_101, List.forall_mem_cons.mpr ⟨zmf_102, List.forall_mem_cons.mpr ⟨zmf_103, List.forall_mem_cons.mpr ⟨zmf_104, List.forall_mem_cons.mpr ⟨zmf_105, List.forall_mem_cons.mpr ⟨zmf_106, List.forall_mem_cons.mpr ⟨zmf_107, List.forall_mem_cons.mpr ⟨zmf_108, List.forall_mem_cons.mpr ⟨zmf_109, List.forall_mem_cons.mpr ⟨zmf_110, List.forall_mem_cons.mpr ⟨zmf_111, List.forall_mem_cons.mpr ⟨zmf_112, List.forall_mem_cons.mpr ⟨zmf_113, List.forall_mem_cons.mpr ⟨zmf_114, List.forall_mem_cons.mpr ⟨zmf_115, List.forall_mem_cons.mpr ⟨zmf_116, List.forall_mem_cons.mpr ⟨zmf_117, List.forall_mem_cons.mpr ⟨zmf_118, List.forall_mem_cons.mpr ⟨zmf_119, fun _ h => absurd h List.not_mem_nil⟩⟩⟩⟩⟩⟩⟩⟩⟩⟩⟩⟩⟩⟩⟩⟩⟩⟩⟩⟩
def zmL_6 : List (Nat) := [120, 121, 122, 123, 124, 125, 126, 127, 128, 129, 130, 131, 132, 133, 134, 135, 136, 137, 138, 139]
theorem zmL_ok_6 : ∀ x ∈ zmL_6, zMF x := List.forall_mem_cons.mpr ⟨zmf_120, List.forall_mem_cons.mpr ⟨zmf_121, List.forall_mem_cons.mpr ⟨zmf_122, List.forall_mem_cons.mpr ⟨zmf_123, List.forall_mem_cons.mpr ⟨zmf_124, List.forall_mem_cons.mpr ⟨zmf_125, List.forall_mem_cons.mpr ⟨zmf_126, List.forall_mem_cons.mpr ⟨zmf_127, List.forall_mem_cons.mpr ⟨zmf_128, List.forall_mem_cons.mpr ⟨zmf_129, List.forall_mem_cons.mpr ⟨zmf_130, List.forall_mem_cons.mpr ⟨zmf_131, List.forall_mem_cons.mpr ⟨zmf_132, List.forall_mem_cons.mpr ⟨zmf_133, List.forall_mem_cons.mpr ⟨zmf_134, List.forall_mem_cons.mpr ⟨zmf_135, List.forall_mem_cons.mpr ⟨zmf_136, List.forall_mem_cons.mpr ⟨zmf_137, List.forall_mem_cons.mpr ⟨zmf_138, List.forall_mem_cons.mpr ⟨zmf_139, fun _ h => absurd h List.not_mem_nil⟩⟩⟩⟩⟩⟩⟩⟩⟩⟩⟩⟩⟩⟩⟩⟩⟩⟩⟩⟩
def zmL_7 : List (Nat) := [140, 141, 142, 143, 144, 145, 146, 147, 148, 149, 150, 151, 152, 153, 154, 155, 156, 157, 158]
theorem zmL_ok_7 : ∀ x ∈ zmL_7, zMF x := List.forall_mem_cons.mpr ⟨zmf_140, List.forall_mem_cons.mpr ⟨zmf_141, List.forall_mem_cons.mpr ⟨zmf_142, List.forall_mem_cons.mpr ⟨zmf_143, List.forall_mem_cons.mpr ⟨zmf_144, List.forall_mem_cons.mpr ⟨zmf_145, List.forall_mem_cons.mpr ⟨zmf_146, List.forall_mem_cons.mpr ⟨zmf_147, List.forall_mem_cons.mpr ⟨zmf_148, List.forall_mem_cons.mpr ⟨zmf_149, List.forall_mem_cons.mpr ⟨zmf_150, List.forall_mem_cons.mpr ⟨zmf_151, List.forall_mem_cons.mpr ⟨zmf_152, List.forall_mem_cons.mpr ⟨zmf_153, List.forall_mem_cons.mpr ⟨zmf_154, List.forall_mem_cons.mpr ⟨zmf_155, List.forall_mem_cons.mpr ⟨zmf_156, List.forall_mem_cons.mpr ⟨zmf_157, List.forall_mem_cons.mpr ⟨zmf_158, fun _ h => absurd h List.not_mem_nil⟩⟩⟩⟩⟩⟩⟩⟩⟩⟩⟩⟩⟩⟩⟩⟩⟩⟩⟩
def zmL : List (Nat) := zmL_0 ++ (zmL_1 ++ (zmL_2 ++ (zmL_3 ++ (zmL_4 ++ (zmL_5 ++ (zmL_6 ++ (zmL_7)))))))
theorem zmL_ok : ∀ x ∈ zmL, zMF x := by
  show ∀ x ∈ zmL_0 ++ (zmL_1 ++ (zmL_2 ++ (zmL_3 ++ (zmL_4 ++ (zmL_5 ++ (zmL_6 ++ (zmL_7))))))), zMF x
  exact List.forall_mem_append.mpr ⟨zmL_ok_0, List.forall_mem_append.mpr ⟨zmL_ok_1, List.forall_mem_append.mpr ⟨zmL_ok_2, List.forall_mem_append.mpr ⟨zmL_ok_3, List.forall_mem_append.mpr ⟨zmL_ok_4, List.forall_mem_append.mpr ⟨zmL_ok_5, List.forall_mem_append.mpr ⟨zmL_ok_6, zmL_ok_7⟩⟩⟩⟩⟩⟩⟩
theorem zcf_0 : zCF 0 := by
  refine ⟨rfl, ?_, nmX0, tyX0_ok⟩
  show ∀ w ∈ [u_lay RX0 TX0 0, u_lay RX0 TX0 1, u_lay RX0 TX0 2, u_lay RX0 TX0 3, u_lay RX0 TX0 4, u_lay RX0 TX0 5, u_lay RX0 TX0 6, u_lay RX0 TX0 7, u_lay RX0 TX0 8], w ∈ zTB
  exact List.forall_mem_cons.mpr ⟨zin 178 (by decide +kernel) (by decide +kernel), List.forall_mem_cons.mpr ⟨zin 180 (by decide +kernel) (by decide +kernel), List.forall_mem_cons.mpr ⟨zin 182 (by decide +kernel) (by decide +kernel), List.forall_mem_cons.mpr ⟨zin 184 (by decide +kernel) (by decide +kernel), List.forall_mem_cons.mpr ⟨zin 186 (by decide +kernel) (by decide +kernel), List.forall_mem_cons.mpr ⟨zin 188 (by decide +kernel) (by decide +kernel), List.forall_mem_cons.mpr ⟨zin 190 (by decide +kernel) (by decide +kernel), List.forall_mem_cons.mpr ⟨zin 192 (by decide +kernel) (by decide +kernel), List.forall_mem_cons.mpr ⟨zin 194 (by decide +kernel) (by decide +kernel), fun _ h => absurd h List.not_mem_nil⟩⟩⟩⟩⟩⟩⟩⟩⟩
theorem zcf_1 : zCF 1 := by
  refine ⟨rfl, ?_, nmX1, tyX1_ok⟩
  show ∀ w ∈ [u_lay RX1 TX1 0, u_lay RX1 TX1 1], w ∈ zTB
  exact List.forall_mem_cons.mpr ⟨zin 233 (by decide +kernel) (by decide +kernel), List.forall_mem_cons.mpr ⟨zin 235 (by decide +kernel) (by decide +kernel), fun _ h => absurd h List.not_mem_nil⟩⟩
theorem zcf_2 : zCF 2 := by
  refine ⟨rfl, ?_, nmX2, tyX2_ok⟩
  show ∀ w ∈ [u_lay RX2 TX2 0, u_lay RX2 TX2 1, u_lay RX2 TX2 2, u_lay RX2 TX2 3, u_lay RX2 TX2 4, u_lay RX2 TX2 5, u_lay RX2 TX2 6, u_lay RX2 TX2 7, u_lay RX2 TX2 8, u_lay RX2 TX2 9, u_lay RX2 TX2 10, u_lay RX2 TX2 11], w ∈ zTB
  exact List.forall_mem_cons.mpr ⟨zin 132 (by decide +kernel) (by decide +kernel), List.forall_mem_cons.mpr ⟨zin 134 (by decide +kernel) (by decide +kernel), List.forall_mem_cons.mpr ⟨zin 136 (by decide +kernel) (by decide +kernel), List.forall_mem_cons.mpr ⟨zin 138 (by decide +kernel) (by decide +kernel), List.forall_mem_cons.mpr ⟨zin 140 (by decide +kernel) (by decide +kernel), List.forall_mem_cons.mpr ⟨zin 142 (by decide +kernel) (by decide +kernel), List.forall_mem_cons.mpr ⟨zin 144 (by decide +kernel) (by decide +kernel), List.forall_mem_cons.mpr ⟨zin 146 (by decide +kernel) (by decide +kernel), List.forall_mem_cons.mpr ⟨zin 148 (by decide +kernel) (by decide +kernel), List.forall_mem_cons.mpr ⟨zin 150 (by decide +kernel) (by decide +kernel), List.forall_mem_cons.mpr ⟨zin 152 (by decide +kernel) (by decide +kernel), List.forall_mem_cons.mpr ⟨zin 154 (by decide +kernel) (by decide +kernel), fun _ h => absurd h List.not_mem_nil⟩⟩⟩⟩⟩⟩⟩⟩⟩⟩⟩⟩
theorem zcf_3 : zCF 3 := by
  refine ⟨rfl, ?_, nmX3, tyX3_ok⟩
  show ∀ w ∈ [u_lay RX3 TX3 0, u_lay RX3 TX3 1, u_lay RX3 TX3 2], w ∈ zTB
  exact List.forall_mem_cons.mpr ⟨zin 286 (by decide +kernel) (by decide +kernel), List.forall_mem_cons.mpr ⟨zin 288 (by decide +kernel) (by decide +kernel), List.forall_mem_cons.mpr ⟨zin 290 (by decide +kernel) (by decide +kernel), fun _ h => absurd h List.not_mem_nil⟩⟩⟩
theorem zcf_4 : zCF 4 := by
  refine ⟨rfl, ?_, nmX4, tyX4_ok⟩
  show ∀ w ∈ [u_lay RX4 TX4 0, u_lay RX4 TX4 1, u_lay RX4 TX4 2, u_lay RX4 TX4 3, u_lay RX4 TX4 4], w ∈ zTB
  exact List.forall_mem_cons.mpr ⟨zin 249 (by decide +kernel) (by decide +kernel), List.forall_mem_cons.mpr ⟨zin 251 (by decide +kernel) (by decide +kernel), List.forall_mem_cons.mpr ⟨zin 253 (by decide +kernel) (by decide +kernel), List.forall_mem_cons.mpr ⟨zin 255 (by decide +kernel) (by decide +kernel), List.forall_mem_cons.mpr ⟨zin 257 (by decide +kernel) (by decide +kernel), fun _ h => absurd h List.not_mem_nil⟩⟩⟩⟩⟩
theorem zcf_5 : zCF 5 := by
  refine ⟨rfl, ?_, nmX5, tyX5_ok⟩
  show ∀ w ∈ [u_lay RX5 TX5 0, u_lay RX5 TX5 1, u_lay RX5 TX5 2, u_lay RX5 TX5 3], w ∈ zTB
  exact List.forall_mem_cons.mpr ⟨zin 92 (by decide +kernel) (by decide +kernel), List.forall_mem_cons.mpr ⟨zin 94 (by decide +kernel) (by decide +kernel), List.forall_mem_cons.mpr ⟨zin 96 (by decide +kernel) (by decide +kernel), List.forall_mem_cons.mpr ⟨zin 98 (by decide +kernel) (by decide +kernel), fun _ h => absurd h List.not_mem_nil⟩⟩⟩⟩
theorem zcf_6 : zCF 6 := by
  refine ⟨rfl, ?_, nmX6, tyX6_ok⟩
  show ∀ w ∈ [u_lay RX6 TX6 0, u_lay RX6 TX6 1], w ∈ zTB
  exact List.forall_mem_cons.mpr ⟨zin 269 (by decide +kernel) (by decide +kernel), List.forall_mem_cons.mpr ⟨zin 271 (by decide +kernel) (by decide +kernel), fun _ h => absurd h List.not_mem_nil⟩⟩
theorem zcf_7 : zCF 7 := by
  refine ⟨rfl, ?_, nmX7, tyX7_ok⟩
  show ∀ w ∈ [u_lay RX7 TX7 0, u_lay RX7 TX7 1, u_lay RX7 TX7 2, u_lay RX7 TX7 3], w ∈ zTB
  exact List.forall_mem_cons.mpr ⟨zin 213 (by decide +kernel) (by decide +kernel), List.forall_mem_cons.mpr ⟨zin 215 (by decide +kernel) (by decide +kernel), List.forall_mem_cons.mpr ⟨zin 217 (by decide +kernel) (by decide +kernel), List.forall_mem_cons.mpr ⟨zin 219 (by decide +kernel) (by decide +kernel), fun _ h => absurd h List.not_mem_nil⟩⟩⟩⟩
theorem zcf_8 : zCF 8 := by
  refine ⟨rfl, ?_, nmX8, tyX8_ok⟩
  show ∀ w ∈ [u_lay RX8 TX8 0, u_lay RX8 TX8 1, u_lay RX8 TX8 2, u_lay RX8 TX8 3, u_lay RX8 TX8 4, u_lay RX8 TX8 5, u_lay RX8 TX8 6, u_lay RX8 TX8 7, u_lay RX8 TX8 8, u_lay RX8 TX8 9, u_lay RX8 TX8 10, u_lay RX8 TX8 11], w ∈ zTB
  exact List.forall_mem_cons.mpr ⟨zin 305 (by decide +kernel) (by decide +kernel), List.forall_mem_cons.mpr ⟨zin 307 (by decide +kernel) (by decide +kernel), List.forall_mem_cons.mpr ⟨zin 309 (by decide +kernel) (by decide +kernel), List.forall_mem_cons.mpr ⟨zin 311 (by decide +kernel) (by decide +kernel), List.forall_mem_cons.mpr ⟨zin 313 (by decide +kernel) (by decide +kernel), List.forall_mem_cons.mpr ⟨zin 315 (by decide +kernel) (by decide +kernel), List.forall_mem_cons.mpr ⟨zin 317 (by decide +kernel) (by decide +kernel), List.forall_mem_cons.mpr ⟨zin 319 (by decide +kernel) (by decide +kernel), List.forall_mem_cons.mpr ⟨zin 321 (by decide +kernel) (by decide +kernel), List.forall_mem_cons.mpr ⟨zin 323 (by decide +kernel) (by decide +kernel), List.forall_mem_cons.mpr ⟨zin 325 (by decide +kernel) (by decide +kernel), List.forall_mem_cons.mpr ⟨zin 327 (by decide +kernel) (by decide +kernel), fun _ h => absurd h List.not_mem_nil⟩⟩⟩⟩⟩⟩⟩⟩⟩⟩⟩⟩
theorem zcf_9 : zCF 9 := by
  refine ⟨rfl, ?_, nmX9, tyX9_ok⟩
  show ∀ w ∈ [u_lay RX9 TX9 0, u_lay RX9 TX9 1, u_lay RX9 TX9 2, u_lay RX9 TX9 3, u_lay RX9 TX9 4, u_lay RX9 TX9 5, u_lay RX9 TX9 6, u_lay RX9 TX9 7, u_lay RX9 TX9 8, u_lay RX9 TX9 9, u_lay RX9 TX9 10, u_lay RX9 TX9 11, u_lay RX9 TX9 12, u_lay RX9 TX9 13, u_lay RX9 TX9 14, u_lay RX9 TX9 15, u_lay RX9 TX9 16, u_lay RX9 TX9 17, u_lay RX9 TX9 18, u_lay RX9 TX9 19, u_lay RX9 TX9 20, u_lay RX9 TX9 21, u_lay RX9 TX9 22, u_lay RX9 TX9 23, u_lay RX9 TX9 24, u_lay RX9 TX9 25, u_lay RX9 TX9 26, u_lay RX9 TX9 27, u_lay RX9 TX9 28, u_lay RX9 TX9 29, u_lay RX9 TX9 30, u_lay RX9 TX9 31, u_lay RX9 TX9 32, u_lay RX9 TX9 33, u_lay RX9 TX9 34, u_lay RX9 TX9 35, u_lay RX9 TX9 36, u_lay RX9 TX9 37, u_lay RX9 TX9 38], w ∈ zTB
  exact List.forall_mem_cons.mpr ⟨zin 817 (by decide +kernel) (by decide +kernel), List.forall_mem_cons.mpr ⟨zin 819 (by decide +kernel) (by decide +kernel), List.forall_mem_cons.mpr ⟨zin 821 (by decide +kernel) (by decide +kernel), List.forall_mem_cons.mpr ⟨zin 823 (by decide +kernel) (by decide +kernel), List.forall_mem_cons.mpr ⟨zin 825 (by decide +kernel) (by decide +kernel), List.forall_mem_cons.mpr ⟨zin 827 (by decide +kernel) (by decide +kernel), List.forall_mem_cons.mpr ⟨zin 829 (by decide +kernel) (by decide +kernel), List.forall_mem_cons.mpr ⟨zin 831 (by decide +kernel) (by decide +kernel), List.forall_mem_cons.mpr ⟨zin 833 (by decide +kernel) (by decide +kernel), List.forall_mem_cons.mpr ⟨zin 835 (by decide +kernel) (by decide +kernel), List.forall_mem_cons.mpr ⟨zin 837 (by decide +kernel) (by decide +kernel), List.forall_mem_cons.mpr ⟨zin 839 (by decide +kernel) (by decide +kernel), List.forall_mem_cons.mpr ⟨zin 841 (by decide +kernel) (by decide +kernel), List.forall_mem_cons.mpr ⟨zin 843 (by decide +kernel) (by decide +kernel), List.forall_mem_cons.mpr ⟨zin 845 (by decide +kernel) (by decide +kernel), List.forall_mem_cons.mpr ⟨zin 847 (by decide +kernel) (by decide +kernel), List.forall_mem_cons.mpr ⟨zin 849 (by decide +kernel) (by decide +kernel), List.forall_mem_cons.mpr ⟨zin 851 (by decide +kernel) (by decide +kernel), List.forall_mem_cons.mpr ⟨zin 853 (by decide +kernel) (by decide +kernel), List.forall_mem_cons.mpr ⟨zin 855 (by decide +kernel) (by decide +kernel), List.forall_mem_cons.mpr ⟨zin 857 (by decide +kernel) (by decide +kernel), List.forall_mem_cons.mpr ⟨zin 859 (by decide +kernel) (by decide +kernel), List.forall_mem_cons.mpr ⟨zin 861 (by decide +kernel) (by decide +kernel), List.forall_mem_cons.mpr ⟨zin 863 (by decide +kernel) (by decide +kernel), List.forall_mem_cons.mpr ⟨zin 865 (by decide +kernel) (by decide +kernel), List.forall_mem_cons.mpr ⟨zin 867 (by decide +kernel) (by decide +kernel), List.forall_mem_cons.mpr ⟨zin 869 (by decide +kernel) (by decide +kernel), List.forall_mem_cons.mpr ⟨zin 871 (by decide +kernel) (by decide +kernel), List.forall_mem_cons.mpr ⟨zin 873 (by decide +kernel) (by decide +kernel), List.forall_mem_cons.mpr ⟨zin 875 (by decide +kernel) (by decide +kernel), List.forall_mem_cons.mpr ⟨zin 877 (by decide +kernel) (by decide +kernel), List.forall_mem_cons.mpr ⟨zin 879 (by decide +kernel) (by decide +kernel), List.forall_mem_cons.mpr ⟨zin 881 (by decide +kernel) (by decide +kernel), List.forall_mem_cons.mpr ⟨zin 883 (by decide +kernel) (by decide +kernel), List.forall_mem_cons.mpr ⟨zin 885 (by decide +kernel) (by decide +kernel), List.forall_mem_cons.mpr ⟨zin 887 (by decide +kernel) (by decide +kernel), List.forall_mem_cons.mpr ⟨zin 889 (by decide +kernel) (by decide +kernel), List.forall_mem_cons.mpr ⟨zin 891 (by decide +kernel) (by decide +kernel), List.forall_mem_cons.mpr ⟨zin 893 (by decide +kernel) (by decide +kernel), fun _ h => absurd h List.not_mem_nil⟩⟩⟩⟩⟩⟩⟩⟩⟩⟩⟩⟩⟩⟩⟩⟩⟩⟩⟩⟩⟩⟩⟩⟩⟩⟩⟩⟩⟩⟩⟩⟩⟩⟩⟩⟩⟩⟩⟩
theorem zcf : ∀ c, c < 10 → zCF c := fun c hc => match c, hc with
  | 0, _ => zcf_0
  | 1, _ => zcf_1
  | 2, _ => zcf_2
  | 3, _ => zcf_3
  | 4, _ => zcf_4
  | 5, _ => zcf_5
  | 6, _ => zcf_6
  | 7, _ => zcf_7
  | 8, _ => zcf_8
  | 9, _ => zcf_9
  | n + 10, h => absurd h (by omega)
end
section
/-! the quiet machine: numbers are Int, cells are numbered, a method's walk is a formula over a store -/
abbrev zV : Type := Int ⊕ (Int ⊕ (Nat × Int))
abbrev zS : Type := Nat → Int → Int
abbrev zL : Type := List (Option zV)
abbrev zX : Type := Int × (Int → Int)
abbrev zE : Type := Nat × Nat × Instr × Nat × Nat × Int
def znth {α : Type} : List α → Nat → Option α
  | [], _ => none
  | a :: _, 0 => some a
  | _ :: l, n + 1 => znth l n
def zkl : Option zV → Option zV
  | some (.inr (.inl _)) => none
  | x => x
def zst1 : zL → Nat → zV → zL
  | [], _, _ => []
  | _ :: l, 0, v => some v :: l
  | x :: l, n + 1, v => (match n with | 0 => zkl x | _ + 1 => x) :: zst1 l n v
def zclr : zL → Nat → zL
  | [], _ => []
  | _ :: l, 0 => none :: l
  | x :: l, n + 1 => x :: zclr l n
def zst2 (L : zL) (n : Nat) (v : zV) : zL := zst1 (zclr L (n + 1)) n v
def zmask : List Bool → zL → zL
  | [], _ => []
  | _ :: _, [] => []
  | b :: m, x :: l => (bif b then x else none) :: zmask m l
def zadr (ad : Nat → Nat) (k : Nat) (o : Int) : Nat := if k = zKR then ad (zKR + (o / 80).toNat) else ad k
def zcv (ad : Nat → Nat) : zV → Value
  | .inl a => .int (Int32.ofInt a)
  | .inr (.inl a) => .long (Int64.ofInt a)
  | .inr (.inr (k, o)) => .ref (zadr ad k o)
def zok : zV → Prop
  | .inl a => zI a
  | .inr (.inl a) => zJ a
  | .inr (.inr (k, o)) => k = zKR → ∃ r : Nat, r < 8 ∧ o = 80 * (r : Int)
def zup (σ : zS) (k : Nat) (i v : Int) : zS := fun k' i' => if k' = k then (if i' = i then v else σ k' i') else σ k' i'
def zcp (σ : zS) (s : Nat) (so : Int) (d : Nat) (do_ n : Int) : zS := fun k' x => if k' = d ∧ do_ ≤ x ∧ x < do_ + n then σ s (so + (x - do_)) else σ k' x
def zcmp (x y : Int) : Int := if y < x then 1 else if x = y then 0 else -1
def zfv (ad : Nat → Nat) (σ : zS) (k j : Nat) : Value := match zft k j with
  | 0 => .int (Int32.ofInt (σ k j))
  | 1 => .long (Int64.ofInt (σ k j))
  | t + 2 => .ref (ad t)
def zcel (ad : Nat → Nat) (ct : Nat → ClassId) (σ : zS) (k : Nat) : va_E := match zkd k with
  | 0 => .inl (ct 0, (zln k).toNat, .inl (fun j => Int32.ofInt (σ k j)))
  | 1 => .inl (ct 1, (zln k).toNat, .inl (fun j => Int32.ofInt (σ k j)))
  | 2 => .inl (ct 2, (zln k).toNat, .inr (.inl (fun j => Int64.ofInt (σ k j))))
  | 3 => .inl (ct 3, 8, .inr (.inr (.inr (.inr (fun j => if j < 8 then some (ad (zKR + j)) else none)))))
  | 4 => .inr (zcn k, (List.range (zN (zcn k))).map (fun j => zfv ad σ k j))
  | _ => .inl (ct 0, 80, .inl (fun j => if j < 80 then Int32.ofInt (σ zKR (80 * ((k - zKR : Nat) : Int) + (j : Int))) else 0))
def zwl (ad : Nat → Nat) (ct : Nat → ClassId) (σ : zS) : va_W := (List.range zNC).map (fun k => (ad k, zcel ad ct σ k))
abbrev ztys (ct : Nat → ClassId) : List (ClassId × FieldType) := [(ct 0, .int), (ct 1, .boolean), (ct 2, .long), (ct 3, .array .int)]
def zWF (σ : zS) : Prop := ∀ k i, zJ (σ k i) ∧ (zlg k i = false → zI (σ k i))
def zpop : Nat → List zV → List zV → Option (List zV × List zV)
  | 0, acc, st => some (acc, st)
  | _ + 1, _, [] => none
  | n + 1, acc, v :: st => zpop n (v :: acc) st
def zsum : List zV → Nat
  | [] => 0
  | .inr (.inl _) :: l => 2 + zsum l
  | _ :: l => 1 + zsum l
def zRv (r : Option FieldType) (v : Int) : Option Value := match r with
  | none => none
  | some .long => some (.long (Int64.ofInt v))
  | some _ => some (.int (Int32.ofInt v))
def zRok (r : Option FieldType) (v : Int) : Prop := match r with
  | none => v = 0
  | some .long => zJ v
  | some .boolean => v = 0 ∨ v = 1
  | some _ => zI v
def zws (i : Nat) : List Cond := Cond.code (zy i) (zb i) (zl i) (zr i) :: zTB
def zisN : Cond → Bool
  | .methodLinkNest _ _ _ _ => true
  | _ => false
/-- the links among nest mates, which no word list keeps -/
def zNw (U : State) : Prop := ∀ w ∈ lw_tbl, zisN w = true → va_Nw w U
def zWD (D : va_G) (ad : Nat → Nat) (ct : Nat → ClassId) (σ : zS) (A : Nat → Prop) (U : State) : Prop := va_P D zcl (zwl ad ct σ) U.heap ∧ va_K D zcl (ztys ct) U ∧ va_D A (zwl ad ct σ) ∧ zNw U
/-- THE CONTRACT of method i at the arguments as and the store σ: it returns, with an answer and a store that R holds of -/
def zAM (i : Nat) (as : List zV) (σ : zS) (R : Int → zS → Prop) : Prop :=
  zWF σ → (∀ v ∈ as, zok v) → ∀ (l : Launch) (D : va_G) (ad : Nat → Nat) (ct : Nat → ClassId) (sz : Nat),
    Met l (zy i) (zws i) (zq i) (va_Pc (as.map (zcv ad)) (fun U => U.heap.size = sz ∧ zWD D ad ct σ (fun _ => True) U))
      (fun _ st oc t => (∃ (v : Int) (u : zS), oc = .returned (zRv (zr i) v) ∧ (R v u ∧ zWF u ∧ zRok (zr i) v) ∧ zWD D ad ct u (va_A (zwl ad ct σ) sz) t) ∧ va_F (va_A (zwl ad ct σ) sz) st t) 0 0 (va_A (zwl ad ct σ) sz)
/-- a call within a walk -/
def zca (i : Nat) (as : List zV) (σ : zS) (k : Nat) (nx : List zV → zS → Prop) : Prop :=
  ∃ Rc : Int → zS → Prop, zAM i as σ Rc ∧ (match k with
    | 0 => ∀ u, Rc 0 u → nx [] u
    | 1 => ∀ v u, zI v → Rc v u → nx [.inl v] u
    | _ => ∀ v u, zJ v → Rc v u → nx [.inr (.inl v)] u)
def zcase (pc : Nat) (J : Nat → Prop) (v : Int) : Int → List Int → Prop
  | _, [] => True
  | lo, o :: os => (v = lo → J ((pc : Int) + o).toNat) ∧ zcase pc J v (lo + 1) os
def zlook (pc : Nat) (J : Nat → Prop) (v : Int) : List (Int × Int) → Prop
  | [] => True
  | (k, o) :: l => (v = k → J ((pc : Int) + o).toNat) ∧ zlook pc J v l
def zlno (v : Int) : List (Int × Int) → Prop
  | [] => True
  | (k, _) :: l => ¬ v = k ∧ zlno v l
/-- one instruction -/
def zstep (X : zX) (R : Int → zS → Prop) (nx : zL → List zV → zS → Prop) (J : Nat → zL → List zV → zS → Prop) (pc : Nat) (ins : Instr) (A B : Nat) (C : Int) (L : zL) (st : List zV) (σ : zS) : Prop := match ins with
  | .iload_n _ | .iload _ => (match znth L A with | some (some (.inl v)) => nx L (.inl v :: st) σ | _ => False)
  | .lload_n _ | .lload _ => (match znth L A with | some (some (.inr (.inl v))) => nx L (.inr (.inl v) :: st) σ | _ => False)
  | .aload_n _ | .aload _ => (match znth L A with | some (some (.inr (.inr v))) => nx L (.inr (.inr v) :: st) σ | _ => False)
  | .istore_n _ | .istore _ => (match st with | .inl v :: st => nx (zst1 L A (.inl v)) st σ | _ => False)
  | .lstore_n _ | .lstore _ => (match st with | .inr (.inl v) :: st => nx (zst2 L A (.inr (.inl v))) st σ | _ => False)
  | .astore_n _ | .astore _ => (match st with | .inr (.inr v) :: st => nx (zst1 L A (.inr (.inr v))) st σ | _ => False)
  | .iconst _ | .bipush _ | .sipush _ | .ldc _ | .ldc_w _ => nx L (.inl C :: st) σ
  | .lconst _ | .ldc2_w _ => nx L (.inr (.inl C) :: st) σ
  | .iinc _ _ => (match znth L A with | some (some (.inl v)) => zI (v + C) ∧ nx (zst1 L A (.inl (v + C))) st σ | _ => False)
  | .iadd => (match st with | .inl y :: .inl x :: st => zI (x + y) ∧ nx L (.inl (x + y) :: st) σ | _ => False)
  | .isub => (match st with | .inl y :: .inl x :: st => zI (x - y) ∧ nx L (.inl (x - y) :: st) σ | _ => False)
  | .imul => (match st with | .inl y :: .inl x :: st => zI (x * y) ∧ nx L (.inl (x * y) :: st) σ | _ => False)
  | .idiv => (match st with | .inl y :: .inl x :: st => (0 ≤ x ∧ 0 < y) ∧ nx L (.inl (x / y) :: st) σ | _ => False)
  | .irem => (match st with | .inl y :: .inl x :: st => (0 ≤ x ∧ 0 < y) ∧ nx L (.inl (x % y) :: st) σ | _ => False)
  | .ineg => (match st with | .inl x :: st => zI (-x) ∧ nx L (.inl (-x) :: st) σ | _ => False)
  | .iand => (match st with | .inl y :: .inl x :: st => nx L (.inl (Int32.ofInt x &&& Int32.ofInt y).toInt :: st) σ | _ => False)
  | .i2b => (match st with | .inl x :: st => nx L (.inl (Int32.ofInt x).toInt8.toInt32.toInt :: st) σ | _ => False)
  | .i2s => (match st with | .inl x :: st => nx L (.inl (Int32.ofInt x).toInt16.toInt32.toInt :: st) σ | _ => False)
  | .i2l => (match st with | .inl x :: st => nx L (.inr (.inl x) :: st) σ | _ => False)
  | .l2i => (match st with | .inr (.inl x) :: st => zI x ∧ nx L (.inl x :: st) σ | _ => False)
  | .ladd => (match st with | .inr (.inl y) :: .inr (.inl x) :: st => zJ (x + y) ∧ nx L (.inr (.inl (x + y)) :: st) σ | _ => False)
  | .lmul => (match st with | .inr (.inl y) :: .inr (.inl x) :: st => zJ (x * y) ∧ nx L (.inr (.inl (x * y)) :: st) σ | _ => False)
  | .land => (match st with | .inr (.inl y) :: .inr (.inl x) :: st => nx L (.inr (.inl (Int64.ofInt x &&& Int64.ofInt y).toInt) :: st) σ | _ => False)
  | .lor => (match st with | .inr (.inl y) :: .inr (.inl x) :: st => nx L (.inr (.inl (Int64.ofInt x ||| Int64.ofInt y).toInt) :: st) σ | _ => False)
  | .lshl => (match st with | .inl y :: .inr (.inl x) :: st => nx L (.inr (.inl (Int64.ofInt x <<< ((Int32.ofInt y).toInt64 &&& 63)).toInt) :: st) σ | _ => False)
  | .lshr => (match st with | .inl y :: .inr (.inl x) :: st => nx L (.inr (.inl (Int64.ofInt x >>> ((Int32.ofInt y).toInt64 &&& 63)).toInt) :: st) σ | _ => False)
  | .lushr => (match st with | .inl y :: .inr (.inl x) :: st => nx L (.inr (.inl ((Int64.ofInt x).toUInt64 >>> ((Int32.ofInt y).toInt64.toUInt64 &&& Int64.toUInt64 63)).toInt64.toInt) :: st) σ | _ => False)
  | .lcmp => (match st with | .inr (.inl y) :: .inr (.inl x) :: st => nx L (.inl (zcmp x y) :: st) σ | _ => False)
  | .dup => (match st with | .inl x :: st => nx L (.inl x :: .inl x :: st) σ | .inr (.inr x) :: st => nx L (.inr (.inr x) :: .inr (.inr x) :: st) σ | _ => False)
  | .dup2 => (match st with | .inl y :: .inr (.inr x) :: st => nx L (.inl y :: .inr (.inr x) :: .inl y :: .inr (.inr x) :: st) σ | _ => False)
  | .pop => (match st with | .inl _ :: st => nx L st σ | _ => False)
  | .goto _ => J A L st σ
  | .ifCond cd _ => (match st with
    | .inl x :: st => (match cd with
      | .eq => (x = 0 → J A L st σ) ∧ (¬ x = 0 → nx L st σ)
      | .ne => (¬ x = 0 → J A L st σ) ∧ (x = 0 → nx L st σ)
      | .lt => (x < 0 → J A L st σ) ∧ (0 ≤ x → nx L st σ)
      | .ge => (0 ≤ x → J A L st σ) ∧ (x < 0 → nx L st σ)
      | .gt => (0 < x → J A L st σ) ∧ (x ≤ 0 → nx L st σ)
      | .le => (x ≤ 0 → J A L st σ) ∧ (0 < x → nx L st σ))
    | _ => False)
  | .if_icmp cd _ => (match st with
    | .inl y :: .inl x :: st => (match cd with
      | .eq => (x = y → J A L st σ) ∧ (¬ x = y → nx L st σ)
      | .ne => (¬ x = y → J A L st σ) ∧ (x = y → nx L st σ)
      | .lt => (x < y → J A L st σ) ∧ (y ≤ x → nx L st σ)
      | .ge => (y ≤ x → J A L st σ) ∧ (x < y → nx L st σ)
      | .gt => (y < x → J A L st σ) ∧ (x ≤ y → nx L st σ)
      | .le => (x ≤ y → J A L st σ) ∧ (y < x → nx L st σ))
    | _ => False)
  | .tableswitch d lo hi offs => (match st with
    | .inl v :: st => zcase pc (fun t => J t L st σ) v lo offs.toList ∧ (v < lo ∨ hi < v → J ((pc : Int) + d).toNat L st σ)
    | _ => False)
  | .lookupswitch d ps => (match st with
    | .inl v :: st => zlook pc (fun t => J t L st σ) v ps.toList ∧ (zlno v ps.toList → J ((pc : Int) + d).toNat L st σ)
    | _ => False)
  | .getfield _ => (match st with
    | .inr (.inr (k, _)) :: st => bif Nat.beq k A then (match B with
      | 0 => nx L (.inl (σ A C) :: st) σ
      | 1 => nx L (.inr (.inl (σ A C)) :: st) σ
      | t + 2 => nx L (.inr (.inr (t, 0)) :: st) σ) else False
    | _ => False)
  | .putfield _ => (match st with
    | .inl v :: .inr (.inr (k, _)) :: st => bif Nat.beq k A && Nat.beq B 0 then nx L st (zup σ A C v) else False
    | .inr (.inl v) :: .inr (.inr (k, _)) :: st => bif Nat.beq k A && Nat.beq B 1 then nx L st (zup σ A C v) else False
    | _ => False)
  | .iaload => (match st with
    | .inl i :: .inr (.inr (k, o)) :: st => (match zkd k with
      | 0 => (0 ≤ i ∧ i < zln k) ∧ nx L (.inl (σ k i) :: st) σ
      | 5 => (0 ≤ i ∧ i < 80) ∧ nx L (.inl (σ k (o + i)) :: st) σ
      | 9 => bif Nat.beq k 1000 then (0 ≤ i ∧ i < X.1) ∧ nx L (.inl (X.2 i) :: st) σ else False
      | _ => False)
    | _ => False)
  | .baload => (match st with
    | .inl i :: .inr (.inr (k, _)) :: st => (match zkd k with
      | 1 => (0 ≤ i ∧ i < zln k) ∧ nx L (.inl (σ k i) :: st) σ
      | _ => False)
    | _ => False)
  | .laload => (match st with
    | .inl i :: .inr (.inr (k, _)) :: st => (match zkd k with
      | 2 => (0 ≤ i ∧ i < zln k) ∧ nx L (.inr (.inl (σ k i)) :: st) σ
      | _ => False)
    | _ => False)
  | .aaload => (match st with
    | .inl i :: .inr (.inr (k, _)) :: st => (match zkd k with
      | 3 => (0 ≤ i ∧ i < 8) ∧ nx L (.inr (.inr (zKR, 80 * i)) :: st) σ
      | _ => False)
    | _ => False)
  | .arraylength => (match st with
    | .inr (.inr (k, _)) :: st => (match zkd k with
      | 0 => nx L (.inl (zln k) :: st) σ
      | 1 => nx L (.inl (zln k) :: st) σ
      | 5 => nx L (.inl 80 :: st) σ
      | 9 => bif Nat.beq k 1000 then 0 ≤ X.1 ∧ nx L (.inl X.1 :: st) σ else False
      | _ => False)
    | _ => False)
  | .iastore => (match st with
    | .inl v :: .inl i :: .inr (.inr (k, o)) :: st => (match zkd k with
      | 0 => (0 ≤ i ∧ i < zln k) ∧ nx L st (zup σ k i v)
      | 5 => (0 ≤ i ∧ i < 80) ∧ nx L st (zup σ k (o + i) v)
      | _ => False)
    | _ => False)
  | .bastore => (match st with
    | .inl v :: .inl i :: .inr (.inr (k, _)) :: st => (match zkd k with
      | 1 => ((v = 0 ∨ v = 1) ∧ 0 ≤ i ∧ i < zln k) ∧ nx L st (zup σ k i v)
      | _ => False)
    | _ => False)
  | .lastore => (match st with
    | .inr (.inl v) :: .inl i :: .inr (.inr (k, _)) :: st => (match zkd k with
      | 2 => (0 ≤ i ∧ i < zln k) ∧ nx L st (zup σ k i v)
      | _ => False)
    | _ => False)
  | .ireturn => (match st with
    | [.inl v] => (match A with | 0 => R v σ | _ + 1 => (v = 0 ∨ v = 1) ∧ R v σ)
    | _ => False)
  | .lreturn => (match st with | [.inr (.inl v)] => R v σ | _ => False)
  | .return_ => (match st with | [] => R 0 σ | _ => False)
  | .invokevirtual _ => (match zpop B [] st with
    | some (as, .inr (.inr (k, o)) :: st) => bif Nat.beq k (C.toNat / 4) && Nat.ble (zsum st) 8 then zca A (.inr (.inr (k, o)) :: as) σ (C.toNat % 4) (fun r u => nx L (r ++ st) u) else False
    | _ => False)
  | .invokestatic _ =>
    bif Nat.beq A 9010 then (match st with | .inl y :: .inl x :: st => bif Nat.ble (zsum st) 8 then nx L (.inl (min x y) :: st) σ else False | _ => False)
    else bif Nat.beq A 9011 then (match st with | .inl y :: .inl x :: st => bif Nat.ble (zsum st) 8 then nx L (.inl (max x y) :: st) σ else False | _ => False)
    else bif Nat.beq A 9012 then (match st with | .inl x :: st => bif Nat.ble (zsum st) 8 then zI (-x) ∧ nx L (.inl (if x < 0 then -x else x) :: st) σ else False | _ => False)
    else bif Nat.beq A 9013 then (match st with
      | [.inl n, .inl j, .inr (.inr (k2, o2)), .inl i, .inr (.inr (k1, o1))] => bif Nat.beq k1 zKR && Nat.beq k2 zKR then (0 ≤ i ∧ 0 ≤ j ∧ 0 ≤ n ∧ i + n ≤ 80 ∧ j + n ≤ 80) ∧ nx L [] (zcp σ k1 (o1 + i) k2 (o2 + j) n) else False
      | _ => False)
    else (match zpop B [] st with
      | some (as, st) => bif Nat.ble (zsum st) 8 then zca A as σ (C.toNat % 4) (fun r u => nx L (r ++ st) u) else False
      | _ => False)
  | _ => False
def zin_ : Nat → List (Nat × List Bool) → Option (List Bool)
  | _, [] => none
  | n, (k, m) :: l => bif Nat.beq n k then some m else zin_ n l
/-- rows one behind the other, to the next cut -/
def zwS (X : zX) (R : Int → zS → Prop) (K J : Nat → zL → List zV → zS → Prop) (cut : List (Nat × List Bool)) : List zE → zL → List zV → zS → Prop
  | [], _, _, _ => False
  | (pc, n, ins, A, B, C) :: rest, L, st, σ => zstep X R (fun L st σ => match zin_ n cut with | some m => K n (zmask m L) st σ | none => zwS X R K J cut rest L st σ) J pc ins A B C L st σ
def zdrop : Nat → List zE → List zE
  | _, [] => []
  | n, x :: l => bif Nat.beq n x.1 then x :: l else zdrop n l
/-- at most n jumps -/
def zwp (code : List zE) (X : zX) (R : Int → zS → Prop) (K : Nat → zL → List zV → zS → Prop) (cut : List (Nat × List Bool)) : Nat → Nat → zL → List zV → zS → Prop
  | 0, _, _, _, _ => False
  | n + 1, pc, L, st, σ => zwS X R K (fun t L st σ => match zin_ t cut with | some m => K t (zmask m L) st σ | none => zwp code X R K cut n t L st σ) cut (zdrop pc code) L st σ
end
section
/-! numbers, locals, cells of the quiet machine against those of the machine -/
theorem zI_t {v : Int} (h : zI v) : (Int32.ofInt v).toInt = v := Int32.toInt_ofInt_of_le (by have := h.1; omega) (by have := h.2; omega)
theorem zJ_t {v : Int} (h : zJ v) : (Int64.ofInt v).toInt = v := Int64.toInt_ofInt_of_le (by have := h.1; omega) (by have := h.2; omega)
theorem zI_of (x : Int32) : zI x.toInt := ⟨by have := Int32.le_toInt x; omega, by have := Int32.toInt_lt x; omega⟩
theorem zJ_of (x : Int64) : zJ x.toInt := ⟨by have := Int64.le_toInt x; omega, by have := Int64.toInt_lt x; omega⟩
theorem zIJ {v : Int} (h : zI v) : zJ v := ⟨by have := h.1; omega, by have := h.2; omega⟩
theorem zlt {x y : Int} (hx : zI x) (hy : zI y) : Int32.ofInt x < Int32.ofInt y ↔ x < y := by rw [Int32.lt_iff_toInt_lt, zI_t hx, zI_t hy]
theorem zle {x y : Int} (hx : zI x) (hy : zI y) : Int32.ofInt x ≤ Int32.ofInt y ↔ x ≤ y := by rw [Int32.le_iff_toInt_le, zI_t hx, zI_t hy]
theorem zeq {x y : Int} (hx : zI x) (hy : zI y) : Int32.ofInt x = Int32.ofInt y ↔ x = y := by rw [← Int32.toInt_inj, zI_t hx, zI_t hy]
theorem zI0 : zI 0 := ⟨by decide, by decide⟩
theorem z00 : Int32.ofInt 0 = 0 := rfl
theorem zlt0 {x : Int} (hx : zI x) : Int32.ofInt x < 0 ↔ x < 0 := by rw [← z00, zlt hx zI0]
theorem zle0 {x : Int} (hx : zI x) : Int32.ofInt x ≤ 0 ↔ x ≤ 0 := by rw [← z00, zle hx zI0]
theorem zgt0 {x : Int} (hx : zI x) : 0 < Int32.ofInt x ↔ 0 < x := by rw [← z00, zlt zI0 hx]
theorem zge0 {x : Int} (hx : zI x) : 0 ≤ Int32.ofInt x ↔ 0 ≤ x := by rw [← z00, zle zI0 hx]
theorem zeq0 {x : Int} (hx : zI x) : Int32.ofInt x = 0 ↔ x = 0 := by rw [← z00, zeq hx zI0]
theorem zclamp {x : Int} (hx : zI x) : (Int32.ofInt x).toNatClampNeg = x.toNat := by
  show (Int32.ofInt x).toInt.toNat = _
  rw [zI_t hx]
theorem zvin {x : Int} {n : Nat} (hx : zI x) (h0 : 0 ≤ x) (h1 : x < n) : vp_in (Int32.ofInt x) n := by
  rw [vp_in_iff, zI_t hx]; exact ⟨h0, h1⟩
theorem zi2l {x : Int} (hx : zI x) : (Int32.ofInt x).toInt64 = Int64.ofInt x := by
  rw [← Int64.toInt_inj, Int32.toInt_toInt64, zI_t hx, zJ_t (zIJ hx)]
theorem zl2i {x : Int} (hx : zI x) : (Int64.ofInt x).toInt32 = Int32.ofInt x := by
  rw [← Int32.toInt_inj, Int64.toInt_toInt32, zI_t hx, zJ_t (zIJ hx)]
  have h1 := hx.1
  have h2 := hx.2
  rw [Int.bmod_eq_of_le] <;> omega
theorem zJadd {x y : Int} (hx : zJ x) (hy : zJ y) (h : zJ (x + y)) : Int64.ofInt x + Int64.ofInt y = Int64.ofInt (x + y) := by
  rw [← Int64.toInt_inj, Int64.toInt_add, zJ_t hx, zJ_t hy, zJ_t h]
  have h1 := h.1
  have h2 := h.2
  rw [Int.bmod_eq_of_le] <;> omega
theorem zJmul {x y : Int} (hx : zJ x) (hy : zJ y) (h : zJ (x * y)) : Int64.ofInt x * Int64.ofInt y = Int64.ofInt (x * y) := by
  rw [← Int64.toInt_inj, Int64.toInt_mul, zJ_t hx, zJ_t hy, zJ_t h]
  have h1 := h.1
  have h2 := h.2
  rw [Int.bmod_eq_of_le] <;> omega
theorem zIdiv {x y : Int} (hx : zI x) (hy : zI y) (h0 : 0 ≤ x) (h1 : 0 < y) : Int32.ofInt x / Int32.ofInt y = Int32.ofInt (x / y) ∧ zI (x / y) := by
  have hq : zI (x / y) := ⟨by have := Int.ediv_nonneg h0 (Int.le_of_lt h1); omega, by have := Int.ediv_le_self y h0; have := hx.2; omega⟩
  refine ⟨?_, hq⟩
  have hd : (Int32.ofInt x / Int32.ofInt y).toInt = (Int32.ofInt x).toInt.tdiv (Int32.ofInt y).toInt := by
    rw [Int32.toInt_div, zI_t hx, zI_t hy, Int.tdiv_eq_ediv_of_nonneg h0]
    have a := hq.1
    have b := hq.2
    rw [Int.bmod_eq_of_le] <;> omega
  rw [← Int32.toInt_inj, hd, zI_t hx, zI_t hy, zI_t hq, Int.tdiv_eq_ediv_of_nonneg h0]
theorem zIrem {x y : Int} (hx : zI x) (hy : zI y) (h0 : 0 ≤ x) (h1 : 0 < y) : Int32.ofInt x - Int32.ofInt x / Int32.ofInt y * Int32.ofInt y = Int32.ofInt (x % y) ∧ zI (x % y) := by
  have hm0 := Int.emod_nonneg x (show y ≠ 0 by omega)
  have hm1 := Int.emod_lt_of_pos x h1
  have hq : zI (x % y) := ⟨by omega, by have := hy.2; omega⟩
  refine ⟨?_, hq⟩
  rw [(zIdiv hx hy h0 h1).1, ← Int32.ofInt_mul, ← Int32.ofInt_sub]
  congr 1
  have := Int.emod_add_mul_ediv x y
  rw [Int.mul_comm (x / y) y]
  omega
theorem zcmp_lg {x y : Int} (hx : zJ x) (hy : zJ y) : lg_cmp (Int64.ofInt x) (Int64.ofInt y) = Int32.ofInt (zcmp x y) ∧ zI (zcmp x y) := by
  unfold lg_cmp zcmp
  simp only [gt_iff_lt, Int64.lt_iff_toInt_lt, ← Int64.toInt_inj, zJ_t hx, zJ_t hy]
  refine ⟨?_, ?_⟩
  · repeat' split
    all_goals rfl
  · repeat' split
    all_goals exact ⟨by decide, by decide⟩
theorem zmin32 {x y : Int} (hx : zI x) (hy : zI y) : (if Int32.ofInt y < Int32.ofInt x then Int32.ofInt y else Int32.ofInt x) = Int32.ofInt (min x y) ∧ zI (min x y) := by
  simp only [zlt hy hx]
  have h1 := hx.1; have h2 := hx.2; have h3 := hy.1; have h4 := hy.2
  refine ⟨?_, by unfold zI; omega⟩
  split
  · congr 1; omega
  · congr 1; omega
theorem zst1_nth (v : zV) : ∀ (L : zL) (A k : Nat) (w : zV), znth (zst1 L A v) k = some (some w) → (k = A ∧ w = v) ∨ (k ≠ A ∧ znth L k = some (some w) ∧ ¬ (k + 1 = A ∧ ∃ a, w = .inr (.inl a)))
  | [], _, k, w, h => by simp [zst1, znth] at h
  | x :: L, 0, k, w, h => by
    cases k with
    | zero => simp only [zst1, znth] at h; cases h; exact Or.inl ⟨rfl, rfl⟩
    | succ k => simp only [zst1, znth] at h; exact Or.inr ⟨by omega, by simpa only [znth] using h, by omega⟩
  | x :: L, n + 1, k, w, h => by
    cases k with
    | zero =>
      simp only [zst1, znth] at h
      cases n with
      | zero =>
        simp only at h
        refine Or.inr ⟨by omega, ?_, ?_⟩
        · rcases x with _ | (a | (a | a)) <;> simp [zkl] at h <;> simp [znth, h]
        · rintro ⟨-, a, rfl⟩
          rcases x with _ | (a | (a | a)) <;> simp [zkl] at h
      | succ n => simp only at h; exact Or.inr ⟨by omega, by simpa only [znth] using h, by omega⟩
    | succ k =>
      simp only [zst1, znth] at h
      rcases zst1_nth v L n k w h with ⟨rfl, h2⟩ | ⟨h1, h2, h3⟩
      · exact Or.inl ⟨rfl, h2⟩
      · refine Or.inr ⟨by omega, by simpa only [znth] using h2, ?_⟩
        rintro ⟨e, f⟩
        exact h3 ⟨by omega, f⟩
theorem zclr_nth : ∀ (L : zL) (A k : Nat) (w : zV), znth (zclr L A) k = some (some w) → k ≠ A ∧ znth L k = some (some w)
  | [], _, k, w, h => by simp [zclr, znth] at h
  | x :: L, 0, k, w, h => by
    cases k with
    | zero => simp [zclr, znth] at h
    | succ k => simp only [zclr, znth] at h; exact ⟨by omega, by simpa only [znth] using h⟩
  | x :: L, n + 1, k, w, h => by
    cases k with
    | zero => simp only [zclr, znth] at h; exact ⟨by omega, by simpa only [znth] using h⟩
    | succ k =>
      simp only [zclr, znth] at h
      obtain ⟨h1, h2⟩ := zclr_nth L n k w h
      exact ⟨by omega, by simpa only [znth] using h2⟩
theorem zst1_len (v : zV) : ∀ (L : zL) (A : Nat), (zst1 L A v).length = L.length
  | [], _ => rfl
  | x :: L, 0 => rfl
  | x :: L, n + 1 => by simp only [zst1, List.length_cons, zst1_len v L n]
theorem zclr_len : ∀ (L : zL) (A : Nat), (zclr L A).length = L.length
  | [], _ => rfl
  | x :: L, 0 => rfl
  | x :: L, n + 1 => by simp only [zclr, List.length_cons, zclr_len L n]
theorem znth_lt {α : Type} : ∀ (L : List α) (k : Nat) (v : α), znth L k = some v → k < L.length
  | [], k, v, h => by simp [znth] at h
  | x :: L, 0, v, h => by simp
  | x :: L, k + 1, v, h => by simp only [znth] at h; have := znth_lt L k v h; simp; omega
theorem zmask_nth : ∀ (m : List Bool) (L : zL) (k : Nat) (w : zV), znth (zmask m L) k = some (some w) → znth L k = some (some w)
  | [], L, k, w, h => by simp [zmask, znth] at h
  | _ :: _, [], k, w, h => by simp [zmask, znth] at h
  | b :: m, x :: L, 0, w, h => by
    simp only [zmask, znth] at h ⊢
    cases b with
    | false => simp at h
    | true => simpa using h
  | b :: m, x :: L, k + 1, w, h => by
    simp only [zmask, znth] at h ⊢
    exact zmask_nth m L k w h
/-- the locals hold what the list says -/
def zLo (ad : Nat → Nat) (ls : Array Slot) (nL : Nat) (L : zL) : Prop := ls.size = nL ∧ lv_wf ls ∧ ∀ k v, znth L k = some (some v) → ls[k]? = some (.val (zcv ad v))
def zlv (ad : Nat → Nat) (L : zL) : List (Nat × Value) := (List.range L.length).filterMap (fun k => match znth L k with | some (some v) => some (k, zcv ad v) | _ => none)
theorem zlv_mem {ad : Nat → Nat} {L : zL} {k : Nat} {v : zV} (h : znth L k = some (some v)) : (k, zcv ad v) ∈ zlv ad L :=
  List.mem_filterMap.mpr ⟨k, List.mem_range.mpr (znth_lt L k _ h), by simp only [h]⟩
theorem zlv_inv {ad : Nat → Nat} {L : zL} {q : Nat × Value} (h : q ∈ zlv ad L) : ∃ v, znth L q.1 = some (some v) ∧ q.2 = zcv ad v := by
  obtain ⟨k, -, hk⟩ := List.mem_filterMap.mp h
  split at hk
  · rename_i v hv
    cases hk
    exact ⟨v, hv, rfl⟩
  · cases hk
theorem zLo.has {ad : Nat → Nat} {ls : Array Slot} {nL : Nat} {L : zL} (h : zLo ad ls nL L) : lv_has ls nL (zlv ad L) := ⟨h.1, h.2.1, fun q hq => by
  obtain ⟨v, h1, h2⟩ := zlv_inv hq
  rw [h2]
  exact h.2.2 _ _ h1⟩
theorem zcv_cat2 {ad : Nat → Nat} {w : zV} (h : (zcv ad w).category = 2) : ∃ a, w = .inr (.inl a) := by
  rcases w with a | a | ⟨a, b⟩
  · simp [zcv, Value.category] at h
  · exact ⟨a, rfl⟩
  · simp [zcv, Value.category] at h
theorem zLo.st1 {ad : Nat → Nat} {ls' : Array Slot} {nL A : Nat} {L : zL} {v : zV} (h' : lv_has ls' nL ((A, zcv ad v) :: (zlv ad L).filter (fun q => !(q.1 == A) && !(q.1 + 1 == A && q.2.category == 2)))) : zLo ad ls' nL (zst1 L A v) := by
  refine ⟨h'.1, h'.2.1, fun k w hk => ?_⟩
  rcases zst1_nth v L A k w hk with ⟨rfl, rfl⟩ | ⟨h1, h2, h3⟩
  · exact h'.2.2 (k, zcv ad w) List.mem_cons_self
  · refine h'.2.2 (k, zcv ad w) (List.mem_cons_of_mem _ (List.mem_filter.mpr ⟨zlv_mem h2, ?_⟩))
    have h4 : ¬ (k + 1 = A ∧ (zcv ad w).category = 2) := fun q => h3 ⟨q.1, zcv_cat2 q.2⟩
    simp only [Bool.and_eq_true, Bool.not_eq_true', beq_eq_false_iff_ne, ne_eq, Bool.and_eq_false_iff]
    refine ⟨h1, ?_⟩
    by_cases e : k + 1 = A
    · exact Or.inr (fun q => h4 ⟨e, q⟩)
    · exact Or.inl e
theorem zLo.st2 {ad : Nat → Nat} {ls' : Array Slot} {nL A : Nat} {L : zL} {v : zV} (h' : lv_has ls' nL ((A, zcv ad v) :: (zlv ad L).filter (fun q => !(q.1 == A) && (!(q.1 == A + 1) && !(q.1 + 1 == A && q.2.category == 2))))) : zLo ad ls' nL (zst2 L A v) := by
  refine ⟨h'.1, h'.2.1, fun k w hk => ?_⟩
  rcases zst1_nth v (zclr L (A + 1)) A k w hk with ⟨rfl, rfl⟩ | ⟨h1, h2, h3⟩
  · exact h'.2.2 (k, zcv ad w) List.mem_cons_self
  · obtain ⟨h5, h6⟩ := zclr_nth L (A + 1) k w h2
    refine h'.2.2 (k, zcv ad w) (List.mem_cons_of_mem _ (List.mem_filter.mpr ⟨zlv_mem h6, ?_⟩))
    have h4 : ¬ (k + 1 = A ∧ (zcv ad w).category = 2) := fun q => h3 ⟨q.1, zcv_cat2 q.2⟩
    simp only [Bool.and_eq_true, Bool.not_eq_true', beq_eq_false_iff_ne, ne_eq, Bool.and_eq_false_iff]
    refine ⟨h1, h5, ?_⟩
    by_cases e : k + 1 = A
    · exact Or.inr (fun q => h4 ⟨e, q⟩)
    · exact Or.inl e
theorem zLo.mask {ad : Nat → Nat} {ls : Array Slot} {nL : Nat} {L : zL} {m : List Bool} (h : zLo ad ls nL L) : zLo ad ls nL (zmask m L) := ⟨h.1, h.2.1, fun k v hk => h.2.2 k v (zmask_nth m L k v hk)⟩
/-! cells -/
theorem zwl_at (ad : Nat → Nat) (ct : Nat → ClassId) (σ : zS) {k : Nat} (h : k < zNC) : (zwl ad ct σ)[k]? = some (ad k, zcel ad ct σ k) := by
  unfold zwl
  rw [List.getElem?_map, List.getElem?_range h]
  rfl
theorem zwl_len (ad : Nat → Nat) (ct : Nat → ClassId) (σ : zS) : (zwl ad ct σ).length = zNC := by simp [zwl]
theorem zwl_inv {ad : Nat → Nat} {ct : Nat → ClassId} {σ : zS} {k : Nat} {q : Nat × va_E} (h : (zwl ad ct σ)[k]? = some q) : k < zNC ∧ q = (ad k, zcel ad ct σ k) := by
  have hk : k < zNC := by have := (List.getElem?_eq_some_iff.mp h).1; rwa [zwl_len] at this
  exact ⟨hk, (Option.some.inj ((zwl_at ad ct σ hk).symm.trans h)).symm⟩
theorem zwl_set (ad : Nat → Nat) (ct : Nat → ClassId) (σ u : zS) (k : Nat) (e : va_E) (h : k < zNC) (he : e = zcel ad ct u k) (ho : ∀ j, j < zNC → j ≠ k → zcel ad ct u j = zcel ad ct σ j) : (zwl ad ct σ).set k (ad k, e) = zwl ad ct u := by
  apply List.ext_getElem?
  intro j
  by_cases hj : j = k
  · subst hj
    rw [List.getElem?_set_self (by rw [zwl_len]; exact h), zwl_at ad ct u h, he]
  · rw [List.getElem?_set_ne (Ne.symm hj)]
    by_cases hl : j < zNC
    · rw [zwl_at ad ct σ hl, zwl_at ad ct u hl, ho j hl hj]
    · rw [List.getElem?_eq_none (by rw [zwl_len]; omega), List.getElem?_eq_none (by rw [zwl_len]; omega)]
theorem zsum_ok (ad : Nat → Nat) : ∀ st : List zV, ((st.map (zcv ad)).map fun v => v.category).sum = zsum st
  | [] => rfl
  | .inl a :: l => by simp only [List.map_cons, List.sum_cons, zsum, zsum_ok ad l]; rfl
  | .inr (.inl a) :: l => by simp only [List.map_cons, List.sum_cons, zsum, zsum_ok ad l]; rfl
  | .inr (.inr (a, b)) :: l => by simp only [List.map_cons, List.sum_cons, zsum, zsum_ok ad l]; rfl
theorem zpop_ok : ∀ (n : Nat) (acc st as rest : List zV), zpop n acc st = some (as, rest) → ∃ pre, pre.length = n ∧ st = pre ++ rest ∧ as = pre.reverse ++ acc
  | 0, acc, st, as, rest, h => by simp only [zpop] at h; cases h; exact ⟨[], rfl, rfl, rfl⟩
  | n + 1, acc, [], as, rest, h => by simp [zpop] at h
  | n + 1, acc, v :: st, as, rest, h => by
    simp only [zpop] at h
    obtain ⟨pre, h1, h2, h3⟩ := zpop_ok n (v :: acc) st as rest h
    exact ⟨v :: pre, by simp [h1], by rw [h2]; rfl, by rw [h3]; simp⟩
end
section
/-! one step of the quiet machine is one of the machine -/
def zlen (ins : Instr) (B : Nat) : Nat := match ins with
  | .bipush _ | .iload _ | .lload _ | .aload _ | .istore _ | .lstore _ | .astore _ | .ldc _ => 2
  | .sipush _ | .ldc_w _ | .ldc2_w _ | .iinc _ _ | .goto _ | .ifCond _ _ | .if_icmp _ _ | .getfield _ | .putfield _ | .invokevirtual _ | .invokestatic _ => 3
  | .tableswitch _ _ _ _ | .lookupswitch _ _ => B
  | _ => 1
def zIb (v : Int) : Bool := decide (-2147483648 ≤ v) && decide (v ≤ 2147483647)
theorem zIb_ok {v : Int} (h : zIb v = true) : zI v := by
  simp only [zIb, Bool.and_eq_true, decide_eq_true_eq] at h; exact h
def zrk (r : Option FieldType) : Nat := match r with
  | none => 0
  | some .long => 2
  | some _ => 1
def zri (r : Option FieldType) : Instr := match r with
  | none => .return_
  | some .long => .lreturn
  | some _ => .ireturn
def zroom (A i : Nat) : Bool := decide ((zq A).frames + 1 ≤ (zq i).frames) && decide (8 + (zl A + 11) + (zq A).locals ≤ (zq i).locals) && (decide ((zq A).cells = 0) && decide ((zq A).slots = 0))
def zaux (i pc : Nat) (ins : Instr) (A B : Nat) (C : Int) : Bool := match ins with
  | .iload_n k | .lload_n k | .aload_n k => decide ((k : Nat) = A)
  | .iload k | .lload k | .aload k => decide (k = A)
  | .istore_n k | .astore_n k => decide ((k : Nat) = A) && decide (A < zl i)
  | .istore k | .astore k => decide (k = A) && decide (A < zl i)
  | .lstore_n k => decide ((k : Nat) = A) && decide (A + 1 < zl i)
  | .lstore k => decide (k = A) && decide (A + 1 < zl i)
  | .iconst n => decide (n = C) && zIb C
  | .bipush n => decide ((Int8.ofInt n).toInt32 = Int32.ofInt C) && zIb C
  | .sipush n => decide ((Int16.ofInt n).toInt32 = Int32.ofInt C) && zIb C
  | .lconst k => decide (Int64.ofNat (k : Nat) = Int64.ofInt C) && zIb C
  | .ldc j | .ldc_w j => decide ((zow i, j, C) ∈ zkc)
  | .ldc2_w j => decide ((zow i, j, C) ∈ zkL)
  | .iinc j n => decide (j = A) && decide (n = C) && decide (A < zl i)
  | .goto off | .ifCond _ off | .if_icmp _ off => decide ((pc : Int) + off = (A : Int))
  | .tableswitch d lo hi offs => decide (0 ≤ (pc : Int) + d) && offs.toList.all (fun o => decide (0 ≤ (pc : Int) + o)) && decide (hi = lo + (offs.toList.length : Int) - 1)
  | .lookupswitch d ps => decide (0 ≤ (pc : Int) + d) && ps.toList.all (fun x => decide (0 ≤ (pc : Int) + x.2)) && (ps.toList.zip (ps.toList.drop 1)).all (fun (a, next) => a.1 < next.1)
  | .getfield j => decide ((zow i, j, A, B, C) ∈ zfl) && (decide (2 ≤ B) || decide (zlg A C = Nat.beq B 1))
  | .putfield j => decide ((zow i, j, A, B, C) ∈ zfl) && decide (zlg A C = Nat.beq B 1) && decide ((zT (zcn A) C.toNat).2.2.2 = false)
  | .invokevirtual j => decide ((zow i, j, A) ∈ zvl) && decide (A < zlaw) && decide (B = znp A) && decide (C.toNat % 4 = zrk (zr A)) && decide (C.toNat / 4 < 10) && decide (zcn (C.toNat / 4) = zow A) && zroom A i
  | .invokestatic j => if 9010 ≤ A then decide ((zow i, j, A) ∈ zxl) && decide (1 ≤ (zq i).frames) && decide (40 ≤ (zq i).locals) else
      (decide ((zow i, j, A) ∈ zsl) || decide ((zow i, j, A) ∈ znl)) && decide (A < zlaw) && decide (B = znp A) && decide (C.toNat % 4 = zrk (zr A)) && zroom A i
  | .ireturn => (decide (zr i = some .int) && decide (A = 0)) || (decide (zr i = some .boolean) && decide (A = 1))
  | .lreturn => decide (zr i = some .long)
  | .return_ => decide (zr i = none)
  | _ => true
def zchk (i : Nat) (e : zE) : Bool := (decide (decode (zb i) e.1 = .ok (e.2.2.1, zlen e.2.2.1 e.2.2.2.2.1)) && decide (e.2.1 = e.1 + zlen e.2.2.1 e.2.2.2.2.1)) && zaux i e.1 e.2.2.1 e.2.2.2.1 e.2.2.2.2.1 e.2.2.2.2.2
theorem zchk_ok {i pc n : Nat} {ins : Instr} {A B : Nat} {C : Int} (h : zchk i (pc, n, ins, A, B, C) = true) : decode (zb i) pc = .ok (ins, zlen ins B) ∧ n = pc + zlen ins B ∧ zaux i pc ins A B C = true := by
  simp only [zchk, Bool.and_eq_true, decide_eq_true_eq] at h
  exact ⟨h.1.1, h.1.2, h.2⟩
theorem zlg_k {k : Nat} {i : Int} (h : zlg k i = true) : zkd k = 2 ∨ zkd k = 4 := by
  unfold zlg at h
  split at h
  all_goals first | exact Or.inl rfl | exact Or.inr rfl | exact absurd h (by decide)
theorem zWF.i {σ : zS} (h : zWF σ) {k : Nat} {i : Int} (hk : zlg k i = false) : zI (σ k i) := (h k i).2 hk
theorem zlg_0 {k : Nat} {i : Int} (h : zkd k ≠ 2) (h4 : zkd k ≠ 4) : zlg k i = false := by
  cases e : zlg k i with
  | false => rfl
  | true => rcases zlg_k e with q | q <;> contradiction
theorem zWF.up {σ : zS} (h : zWF σ) {k : Nat} {i v : Int} (hv : zJ v) (hi : zlg k i = false → zI v) : zWF (zup σ k i v) := by
  intro k' i'
  unfold zup
  by_cases e : k' = k
  · subst e
    by_cases f : i' = i
    · subst f
      rw [if_pos rfl, if_pos rfl]
      exact ⟨hv, hi⟩
    · rw [if_pos rfl, if_neg f]
      exact h _ _
  · rw [if_neg e]
    exact h _ _
theorem zNw.same {u U : State} (h : u.vm = U.vm) (hz : zNw u) : zNw U := fun w hw hn => va_Nw.same (by cases w <;> first | rfl | exact absurd (show false = true from hn) Bool.false_ne_true) h (hz w hw hn)
theorem zNw.warm {s U : State} (hW : s.WarmedH U.vm) (hz : zNw s) : zNw U := fun w hw hn => by
  have h1 := hz w hw hn
  cases w <;> first | exact absurd (show false = true from hn) Bool.false_ne_true | exact va_Nw.warmM hW h1
/-- the script of the law -/
def zScr (X : zX) (s : State) (ad : Nat → Nat) (AA : Nat → Prop) : Prop := 0 ≤ X.1 → ∃ (n : Nat) (xs : Nat → Int32), va_X (ad 1000) n xs s s.heap ∧ ad 1000 < s.heap.size ∧ ¬ AA (ad 1000) ∧ X.1 = (n : Int) ∧ n ≤ 3584 ∧ ∀ j : Nat, j < n → X.2 (j : Int) = (xs j).toInt
def zFix (i : Nat) (X : zX) (p : Program) (s : State) (m : MethodId) (args : Array Value) (c : Code) (D : va_G) (ad : Nat → Nat) (ct : Nat → ClassId) (AA : Nat → Prop) (cells slots : Nat) : Prop :=
  p.tables.exec = Jvm.exec ∧ c.code = zb i ∧ c.maxLocals = zl i ∧ s.vm.findClass (zRn (zow i)) = some m.cls ∧ (∀ w ∈ zTB, w.before args s = true) ∧ va_K D zcl (ztys ct) s ∧ zNw s ∧ (∀ q, s.heap.size ≤ q → AA q) ∧ cells ≤ (zq i).cells ∧ slots ≤ (zq i).slots ∧ zScr X s ad AA
def zWo (D : va_G) (ad : Nat → Nat) (ct : Nat → ClassId) (AA : Nat → Prop) (s : State) (σ : zS) (H : Heap) (locs : List Loc) : Prop := va_P D zcl (zwl ad ct σ) H ∧ va_D AA (zwl ad ct σ) ∧ va_S AA s.heap H locs
def zEnd (i : Nat) (R : Int → zS → Prop) (p : Program) (l : Launch) (e : Env) (s : State) (m : MethodId) (args : Array Value) (below : List Frame) (meth : Method) (c : Code) (D : va_G) (ad : Nat → Nat) (ct : Nat → ClassId) (AA : Nat → Prop) (cells slots : Nat) (Q : State → Prop) : Prop :=
  ∀ (v : Int) (u : zS) (H : Heap) (locs : List Loc) (ls : Array Slot) (pc : Nat), R v u → zWF u → zRok (zr i) v → zWo D ad ct AA s u H locs → decode (zb i) pc = .ok (zri (zr i), 1) → W p l e (zq i) s m args below meth c H locs cells slots Q (F0 m pc ls (zRv (zr i) v).toList)
def zGo (i : Nat) (X : zX) (R : Int → zS → Prop) (pc : Nat) (L : zL) (st : List zV) (σ : zS) : Prop :=
  ∀ (p : Program) (l : Launch) (e : Env) (s : State) (m : MethodId) (args : Array Value) (below : List Frame) (meth : Method) (c : Code) (D : va_G) (ad : Nat → Nat) (ct : Nat → ClassId) (AA : Nat → Prop) (H : Heap) (locs : List Loc) (ls : Array Slot) (cells slots : Nat) (Q : State → Prop),
    zFix i X p s m args c D ad ct AA cells slots → zEnd i R p l e s m args below meth c D ad ct AA cells slots Q → zWo D ad ct AA s σ H locs → zLo ad ls (zl i) L → W p l e (zq i) s m args below meth c H locs cells slots Q (F0 m pc ls (st.map (zcv ad)))
def zRuns (i : Nat) (X : zX) (R : Int → zS → Prop) (pc : Nat) (L : zL) (st : List zV) (σ : zS) : Prop := zWF σ → (∀ k v, znth L k = some (some v) → zok v) → (∀ v ∈ st, zok v) → zGo i X R pc L st σ
theorem zs1 {v : zV} {st : List zV} (h : ∀ w ∈ v :: st, zok w) : zok v ∧ ∀ w ∈ st, zok w := ⟨h v List.mem_cons_self, fun w hw => h w (List.mem_cons_of_mem _ hw)⟩
theorem zs2 {v : zV} {st : List zV} (h : zok v) (hs : ∀ w ∈ st, zok w) : ∀ w ∈ v :: st, zok w := fun w hw => by
  rcases List.mem_cons.mp hw with rfl | hw
  · exact h
  · exact hs w hw
theorem zLok1 {L : zL} {A : Nat} {v : zV} (hL : ∀ k w, znth L k = some (some w) → zok w) (hv : zok v) : ∀ k w, znth (zst1 L A v) k = some (some w) → zok w := fun k w h => by
  rcases zst1_nth v L A k w h with ⟨-, rfl⟩ | ⟨-, h2, -⟩
  · exact hv
  · exact hL k w h2
theorem zLok2 {L : zL} {A : Nat} {v : zV} (hL : ∀ k w, znth L k = some (some w) → zok w) (hv : zok v) : ∀ k w, znth (zst2 L A v) k = some (some w) → zok w := fun k w h => by
  rcases zst1_nth v (zclr L (A + 1)) A k w h with ⟨-, rfl⟩ | ⟨-, h2, -⟩
  · exact hv
  · exact hL k w (zclr_nth L (A + 1) k w h2).2
/-- what a step rests on -/
def zHn (i : Nat) (X : zX) (R : Int → zS → Prop) (n : Nat) (nx : zL → List zV → zS → Prop) : Prop := ∀ L st σ, nx L st σ → zRuns i X R n L st σ
def zHJ (i : Nat) (X : zX) (R : Int → zS → Prop) (J : Nat → zL → List zV → zS → Prop) : Prop := ∀ t L st σ, J t L st σ → zRuns i X R t L st σ
section ZS
variable {i : Nat} {X : zX} {R : Int → zS → Prop} {nx : zL → List zV → zS → Prop} {J : Nat → zL → List zV → zS → Prop} {pc n A B : Nat} {C : Int} {L : zL} {st : List zV} {σ : zS}
set_option maxHeartbeats 1000000 in
theorem zs_iload_n {k : Fin 4} (hc : zchk i (pc, n, .iload_n k, A, B, C) = true) (hn : zHn i X R n nx) (hJ : zHJ i X R J) (h : zstep X R nx J pc (.iload_n k) A B C L st σ) : zRuns i X R pc L st σ := by
  obtain ⟨hdg, hnx, hax⟩ := zchk_ok hc
  simp only [zlen] at hdg hnx
  subst hnx
  simp only [zstep] at h
  intro hw hL hs p l e s m args below meth c D ad ct AA H locs ls cells slots Q fx en wo lo
  have fx0 := fx
  obtain ⟨hx, hb, hml, hown, hts, hK, hnw, hA, hce, hsl, hsc⟩ := fx
  simp only [zaux, decide_eq_true_eq] at hax
  split at h
  next v hv =>
    refine lv_iload_n hx hb hdg hax (lo.2.2 _ _ hv) ?_
    exact hn _ _ _ h hw hL (zs2 (hL _ _ hv) hs) p l e s m args below meth c D ad ct AA H locs ls cells slots Q fx0 en wo lo
  next => exact h.elim
set_option maxHeartbeats 1000000 in
theorem zs_iload {k : Nat} (hc : zchk i (pc, n, .iload k, A, B, C) = true) (hn : zHn i X R n nx) (hJ : zHJ i X R J) (h : zstep X R nx J pc (.iload k) A B C L st σ) : zRuns i X R pc L st σ := by
  obtain ⟨hdg, hnx, hax⟩ := zchk_ok hc
  simp only [zlen] at hdg hnx
  subst hnx
  simp only [zstep] at h
  intro hw hL hs p l e s m args below meth c D ad ct AA H locs ls cells slots Q fx en wo lo
  have fx0 := fx
  obtain ⟨hx, hb, hml, hown, hts, hK, hnw, hA, hce, hsl, hsc⟩ := fx
  simp only [zaux, decide_eq_true_eq] at hax
  split at h
  next v hv =>
    refine lv_iload hx hb hdg (by rw [hax]; exact lo.2.2 _ _ hv) ?_
    exact hn _ _ _ h hw hL (zs2 (hL _ _ hv) hs) p l e s m args below meth c D ad ct AA H locs ls cells slots Q fx0 en wo lo
  next => exact h.elim
set_option maxHeartbeats 1000000 in
theorem zs_lload_n {k : Fin 4} (hc : zchk i (pc, n, .lload_n k, A, B, C) = true) (hn : zHn i X R n nx) (hJ : zHJ i X R J) (h : zstep X R nx J pc (.lload_n k) A B C L st σ) : zRuns i X R pc L st σ := by
  obtain ⟨hdg, hnx, hax⟩ := zchk_ok hc
  simp only [zlen] at hdg hnx
  subst hnx
  simp only [zstep] at h
  intro hw hL hs p l e s m args below meth c D ad ct AA H locs ls cells slots Q fx en wo lo
  have fx0 := fx
  obtain ⟨hx, hb, hml, hown, hts, hK, hnw, hA, hce, hsl, hsc⟩ := fx
  simp only [zaux, decide_eq_true_eq] at hax
  split at h
  next v hv =>
    refine lv_lload_n hx hb hdg hax (lo.2.2 _ _ hv) ?_
    exact hn _ _ _ h hw hL (zs2 (hL _ _ hv) hs) p l e s m args below meth c D ad ct AA H locs ls cells slots Q fx0 en wo lo
  next => exact h.elim
set_option maxHeartbeats 1000000 in
theorem zs_lload {k : Nat} (hc : zchk i (pc, n, .lload k, A, B, C) = true) (hn : zHn i X R n nx) (hJ : zHJ i X R J) (h : zstep X R nx J pc (.lload k) A B C L st σ) : zRuns i X R pc L st σ := by
  obtain ⟨hdg, hnx, hax⟩ := zchk_ok hc
  simp only [zlen] at hdg hnx
  subst hnx
  simp only [zstep] at h
  intro hw hL hs p l e s m args below meth c D ad ct AA H locs ls cells slots Q fx en wo lo
  have fx0 := fx
  obtain ⟨hx, hb, hml, hown, hts, hK, hnw, hA, hce, hsl, hsc⟩ := fx
  simp only [zaux, decide_eq_true_eq] at hax
  split at h
  next v hv =>
    refine lv_lload hx hb hdg (by rw [hax]; exact lo.2.2 _ _ hv) ?_
    exact hn _ _ _ h hw hL (zs2 (hL _ _ hv) hs) p l e s m args below meth c D ad ct AA H locs ls cells slots Q fx0 en wo lo
  next => exact h.elim
set_option maxHeartbeats 1000000 in
theorem zs_aload_n {k : Fin 4} (hc : zchk i (pc, n, .aload_n k, A, B, C) = true) (hn : zHn i X R n nx) (hJ : zHJ i X R J) (h : zstep X R nx J pc (.aload_n k) A B C L st σ) : zRuns i X R pc L st σ := by
  obtain ⟨hdg, hnx, hax⟩ := zchk_ok hc
  simp only [zlen] at hdg hnx
  subst hnx
  simp only [zstep] at h
  intro hw hL hs p l e s m args below meth c D ad ct AA H locs ls cells slots Q fx en wo lo
  have fx0 := fx
  obtain ⟨hx, hb, hml, hown, hts, hK, hnw, hA, hce, hsl, hsc⟩ := fx
  simp only [zaux, decide_eq_true_eq] at hax
  split at h
  next v hv =>
    refine lv_aload_n hx hb hdg hax (lo.2.2 _ _ hv) ?_
    exact hn _ _ _ h hw hL (zs2 (hL _ _ hv) hs) p l e s m args below meth c D ad ct AA H locs ls cells slots Q fx0 en wo lo
  next => exact h.elim
set_option maxHeartbeats 1000000 in
theorem zs_aload {k : Nat} (hc : zchk i (pc, n, .aload k, A, B, C) = true) (hn : zHn i X R n nx) (hJ : zHJ i X R J) (h : zstep X R nx J pc (.aload k) A B C L st σ) : zRuns i X R pc L st σ := by
  obtain ⟨hdg, hnx, hax⟩ := zchk_ok hc
  simp only [zlen] at hdg hnx
  subst hnx
  simp only [zstep] at h
  intro hw hL hs p l e s m args below meth c D ad ct AA H locs ls cells slots Q fx en wo lo
  have fx0 := fx
  obtain ⟨hx, hb, hml, hown, hts, hK, hnw, hA, hce, hsl, hsc⟩ := fx
  simp only [zaux, decide_eq_true_eq] at hax
  split at h
  next v hv =>
    refine lv_aload hx hb hdg (by rw [hax]; exact lo.2.2 _ _ hv) ?_
    exact hn _ _ _ h hw hL (zs2 (hL _ _ hv) hs) p l e s m args below meth c D ad ct AA H locs ls cells slots Q fx0 en wo lo
  next => exact h.elim
set_option maxHeartbeats 1000000 in
theorem zs_istore_n {k : Fin 4} (hc : zchk i (pc, n, .istore_n k, A, B, C) = true) (hn : zHn i X R n nx) (hJ : zHJ i X R J) (h : zstep X R nx J pc (.istore_n k) A B C L st σ) : zRuns i X R pc L st σ := by
  obtain ⟨hdg, hnx, hax⟩ := zchk_ok hc
  simp only [zlen] at hdg hnx
  subst hnx
  simp only [zstep] at h
  intro hw hL hs p l e s m args below meth c D ad ct AA H locs ls cells slots Q fx en wo lo
  have fx0 := fx
  obtain ⟨hx, hb, hml, hown, hts, hK, hnw, hA, hce, hsl, hsc⟩ := fx
  simp only [zaux, Bool.and_eq_true, decide_eq_true_eq] at hax
  split at h
  next =>
    refine lv_istore_n hx hb hdg hax.1 lo.has hax.2 rfl (fun ls h8 => ?_)
    exact hn _ _ _ h hw (zLok1 hL (zs1 hs).1) (zs1 hs).2 p l e s m args below meth c D ad ct AA H locs ls cells slots Q fx0 en wo (zLo.st1 h8)
  next => exact h.elim
set_option maxHeartbeats 1000000 in
theorem zs_istore {k : Nat} (hc : zchk i (pc, n, .istore k, A, B, C) = true) (hn : zHn i X R n nx) (hJ : zHJ i X R J) (h : zstep X R nx J pc (.istore k) A B C L st σ) : zRuns i X R pc L st σ := by
  obtain ⟨hdg, hnx, hax⟩ := zchk_ok hc
  simp only [zlen] at hdg hnx
  subst hnx
  simp only [zstep] at h
  intro hw hL hs p l e s m args below meth c D ad ct AA H locs ls cells slots Q fx en wo lo
  have fx0 := fx
  obtain ⟨hx, hb, hml, hown, hts, hK, hnw, hA, hce, hsl, hsc⟩ := fx
  simp only [zaux, Bool.and_eq_true, decide_eq_true_eq] at hax
  obtain ⟨rfl, hlt⟩ := hax
  split at h
  next =>
    refine lv_istore hx hb hdg lo.has hlt rfl (fun ls h8 => ?_)
    exact hn _ _ _ h hw (zLok1 hL (zs1 hs).1) (zs1 hs).2 p l e s m args below meth c D ad ct AA H locs ls cells slots Q fx0 en wo (zLo.st1 h8)
  next => exact h.elim
set_option maxHeartbeats 1000000 in
theorem zs_lstore_n {k : Fin 4} (hc : zchk i (pc, n, .lstore_n k, A, B, C) = true) (hn : zHn i X R n nx) (hJ : zHJ i X R J) (h : zstep X R nx J pc (.lstore_n k) A B C L st σ) : zRuns i X R pc L st σ := by
  obtain ⟨hdg, hnx, hax⟩ := zchk_ok hc
  simp only [zlen] at hdg hnx
  subst hnx
  simp only [zstep] at h
  intro hw hL hs p l e s m args below meth c D ad ct AA H locs ls cells slots Q fx en wo lo
  have fx0 := fx
  obtain ⟨hx, hb, hml, hown, hts, hK, hnw, hA, hce, hsl, hsc⟩ := fx
  simp only [zaux, Bool.and_eq_true, decide_eq_true_eq] at hax
  split at h
  next =>
    refine lv_lstore_n hx hb hdg hax.1 lo.has hax.2 rfl (fun ls h8 => ?_)
    exact hn _ _ _ h hw (zLok2 hL (zs1 hs).1) (zs1 hs).2 p l e s m args below meth c D ad ct AA H locs ls cells slots Q fx0 en wo (zLo.st2 h8)
  next => exact h.elim
set_option maxHeartbeats 1000000 in
theorem zs_lstore {k : Nat} (hc : zchk i (pc, n, .lstore k, A, B, C) = true) (hn : zHn i X R n nx) (hJ : zHJ i X R J) (h : zstep X R nx J pc (.lstore k) A B C L st σ) : zRuns i X R pc L st σ := by
  obtain ⟨hdg, hnx, hax⟩ := zchk_ok hc
  simp only [zlen] at hdg hnx
  subst hnx
  simp only [zstep] at h
  intro hw hL hs p l e s m args below meth c D ad ct AA H locs ls cells slots Q fx en wo lo
  have fx0 := fx
  obtain ⟨hx, hb, hml, hown, hts, hK, hnw, hA, hce, hsl, hsc⟩ := fx
  simp only [zaux, Bool.and_eq_true, decide_eq_true_eq] at hax
  obtain ⟨rfl, hlt⟩ := hax
  split at h
  next =>
    refine lv_lstore hx hb hdg lo.has hlt rfl (fun ls h8 => ?_)
    exact hn _ _ _ h hw (zLok2 hL (zs1 hs).1) (zs1 hs).2 p l e s m args below meth c D ad ct AA H locs ls cells slots Q fx0 en wo (zLo.st2 h8)
  next => exact h.elim
set_option maxHeartbeats 1000000 in
theorem zs_astore_n {k : Fin 4} (hc : zchk i (pc, n, .astore_n k, A, B, C) = true) (hn : zHn i X R n nx) (hJ : zHJ i X R J) (h : zstep X R nx J pc (.astore_n k) A B C L st σ) : zRuns i X R pc L st σ := by
  obtain ⟨hdg, hnx, hax⟩ := zchk_ok hc
  simp only [zlen] at hdg hnx
  subst hnx
  simp only [zstep] at h
  intro hw hL hs p l e s m args below meth c D ad ct AA H locs ls cells slots Q fx en wo lo
  have fx0 := fx
  obtain ⟨hx, hb, hml, hown, hts, hK, hnw, hA, hce, hsl, hsc⟩ := fx
  simp only [zaux, Bool.and_eq_true, decide_eq_true_eq] at hax
  split at h
  next =>
    refine lv_astore_n hx hb hdg hax.1 lo.has hax.2 rfl (fun ls h8 => ?_)
    exact hn _ _ _ h hw (zLok1 hL (zs1 hs).1) (zs1 hs).2 p l e s m args below meth c D ad ct AA H locs ls cells slots Q fx0 en wo (zLo.st1 h8)
  next => exact h.elim
set_option maxHeartbeats 1000000 in
theorem zs_astore {k : Nat} (hc : zchk i (pc, n, .astore k, A, B, C) = true) (hn : zHn i X R n nx) (hJ : zHJ i X R J) (h : zstep X R nx J pc (.astore k) A B C L st σ) : zRuns i X R pc L st σ := by
  obtain ⟨hdg, hnx, hax⟩ := zchk_ok hc
  simp only [zlen] at hdg hnx
  subst hnx
  simp only [zstep] at h
  intro hw hL hs p l e s m args below meth c D ad ct AA H locs ls cells slots Q fx en wo lo
  have fx0 := fx
  obtain ⟨hx, hb, hml, hown, hts, hK, hnw, hA, hce, hsl, hsc⟩ := fx
  simp only [zaux, Bool.and_eq_true, decide_eq_true_eq] at hax
  obtain ⟨rfl, hlt⟩ := hax
  split at h
  next =>
    refine lv_astore hx hb hdg lo.has hlt rfl (fun ls h8 => ?_)
    exact hn _ _ _ h hw (zLok1 hL (zs1 hs).1) (zs1 hs).2 p l e s m args below meth c D ad ct AA H locs ls cells slots Q fx0 en wo (zLo.st1 h8)
  next => exact h.elim
set_option maxHeartbeats 1000000 in
theorem zs_iconst {k : Int} (hc : zchk i (pc, n, .iconst k, A, B, C) = true) (hn : zHn i X R n nx) (hJ : zHJ i X R J) (h : zstep X R nx J pc (.iconst k) A B C L st σ) : zRuns i X R pc L st σ := by
  obtain ⟨hdg, hnx, hax⟩ := zchk_ok hc
  simp only [zlen] at hdg hnx
  subst hnx
  simp only [zstep] at h
  intro hw hL hs p l e s m args below meth c D ad ct AA H locs ls cells slots Q fx en wo lo
  have fx0 := fx
  obtain ⟨hx, hb, hml, hown, hts, hK, hnw, hA, hce, hsl, hsc⟩ := fx
  simp only [zaux, Bool.and_eq_true, decide_eq_true_eq] at hax
  refine lv_iconst hx hb hdg (by rw [hax.1]) ?_
  exact hn _ _ _ h hw hL (zs2 (zIb_ok hax.2) hs) p l e s m args below meth c D ad ct AA H locs ls cells slots Q fx0 en wo lo
set_option maxHeartbeats 1000000 in
theorem zs_bipush {k : Int} (hc : zchk i (pc, n, .bipush k, A, B, C) = true) (hn : zHn i X R n nx) (hJ : zHJ i X R J) (h : zstep X R nx J pc (.bipush k) A B C L st σ) : zRuns i X R pc L st σ := by
  obtain ⟨hdg, hnx, hax⟩ := zchk_ok hc
  simp only [zlen] at hdg hnx
  subst hnx
  simp only [zstep] at h
  intro hw hL hs p l e s m args below meth c D ad ct AA H locs ls cells slots Q fx en wo lo
  have fx0 := fx
  obtain ⟨hx, hb, hml, hown, hts, hK, hnw, hA, hce, hsl, hsc⟩ := fx
  simp only [zaux, Bool.and_eq_true, decide_eq_true_eq] at hax
  refine lv_bipush hx hb hdg hax.1 ?_
  exact hn _ _ _ h hw hL (zs2 (zIb_ok hax.2) hs) p l e s m args below meth c D ad ct AA H locs ls cells slots Q fx0 en wo lo
set_option maxHeartbeats 1000000 in
theorem zs_sipush {k : Int} (hc : zchk i (pc, n, .sipush k, A, B, C) = true) (hn : zHn i X R n nx) (hJ : zHJ i X R J) (h : zstep X R nx J pc (.sipush k) A B C L st σ) : zRuns i X R pc L st σ := by
  obtain ⟨hdg, hnx, hax⟩ := zchk_ok hc
  simp only [zlen] at hdg hnx
  subst hnx
  simp only [zstep] at h
  intro hw hL hs p l e s m args below meth c D ad ct AA H locs ls cells slots Q fx en wo lo
  have fx0 := fx
  obtain ⟨hx, hb, hml, hown, hts, hK, hnw, hA, hce, hsl, hsc⟩ := fx
  simp only [zaux, Bool.and_eq_true, decide_eq_true_eq] at hax
  refine lv_sipush hx hb hdg hax.1 ?_
  exact hn _ _ _ h hw hL (zs2 (zIb_ok hax.2) hs) p l e s m args below meth c D ad ct AA H locs ls cells slots Q fx0 en wo lo
set_option maxHeartbeats 1000000 in
theorem zs_ldc {k : Nat} (hc : zchk i (pc, n, .ldc k, A, B, C) = true) (hn : zHn i X R n nx) (hJ : zHJ i X R J) (h : zstep X R nx J pc (.ldc k) A B C L st σ) : zRuns i X R pc L st σ := by
  obtain ⟨hdg, hnx, hax⟩ := zchk_ok hc
  simp only [zlen] at hdg hnx
  subst hnx
  simp only [zstep] at h
  intro hw hL hs p l e s m args below meth c D ad ct AA H locs ls cells slots Q fx en wo lo
  have fx0 := fx
  obtain ⟨hx, hb, hml, hown, hts, hK, hnw, hA, hce, hsl, hsc⟩ := fx
  simp only [zaux, decide_eq_true_eq] at hax
  have hk := zkc_ok _ hax
  refine lv_ldc hx hb hown (hts _ hk.1) hdg ?_
  exact hn _ _ _ h hw hL (zs2 hk.2 hs) p l e s m args below meth c D ad ct AA H locs ls cells slots Q fx0 en wo lo
set_option maxHeartbeats 1000000 in
theorem zs_ldc_w {k : Nat} (hc : zchk i (pc, n, .ldc_w k, A, B, C) = true) (hn : zHn i X R n nx) (hJ : zHJ i X R J) (h : zstep X R nx J pc (.ldc_w k) A B C L st σ) : zRuns i X R pc L st σ := by
  obtain ⟨hdg, hnx, hax⟩ := zchk_ok hc
  simp only [zlen] at hdg hnx
  subst hnx
  simp only [zstep] at h
  intro hw hL hs p l e s m args below meth c D ad ct AA H locs ls cells slots Q fx en wo lo
  have fx0 := fx
  obtain ⟨hx, hb, hml, hown, hts, hK, hnw, hA, hce, hsl, hsc⟩ := fx
  simp only [zaux, decide_eq_true_eq] at hax
  have hk := zkc_ok _ hax
  refine lv_ldcw hx hb hown (hts _ hk.1) hdg ?_
  exact hn _ _ _ h hw hL (zs2 hk.2 hs) p l e s m args below meth c D ad ct AA H locs ls cells slots Q fx0 en wo lo
set_option maxHeartbeats 1000000 in
theorem zs_ldc2_w {k : Nat} (hc : zchk i (pc, n, .ldc2_w k, A, B, C) = true) (hn : zHn i X R n nx) (hJ : zHJ i X R J) (h : zstep X R nx J pc (.ldc2_w k) A B C L st σ) : zRuns i X R pc L st σ := by
  obtain ⟨hdg, hnx, hax⟩ := zchk_ok hc
  simp only [zlen] at hdg hnx
  subst hnx
  simp only [zstep] at h
  intro hw hL hs p l e s m args below meth c D ad ct AA H locs ls cells slots Q fx en wo lo
  have fx0 := fx
  obtain ⟨hx, hb, hml, hown, hts, hK, hnw, hA, hce, hsl, hsc⟩ := fx
  simp only [zaux, decide_eq_true_eq] at hax
  have hk := zkL_ok _ hax
  refine lv_ldc2 hx hb hown (hts _ hk.1) hdg ?_
  exact hn _ _ _ h hw hL (zs2 (v := .inr (.inl C)) hk.2 hs) p l e s m args below meth c D ad ct AA H locs ls cells slots Q fx0 en wo lo
set_option maxHeartbeats 1000000 in
theorem zs_lconst {k : Fin 2} (hc : zchk i (pc, n, .lconst k, A, B, C) = true) (hn : zHn i X R n nx) (hJ : zHJ i X R J) (h : zstep X R nx J pc (.lconst k) A B C L st σ) : zRuns i X R pc L st σ := by
  obtain ⟨hdg, hnx, hax⟩ := zchk_ok hc
  simp only [zlen] at hdg hnx
  subst hnx
  simp only [zstep] at h
  intro hw hL hs p l e s m args below meth c D ad ct AA H locs ls cells slots Q fx en wo lo
  have fx0 := fx
  obtain ⟨hx, hb, hml, hown, hts, hK, hnw, hA, hce, hsl, hsc⟩ := fx
  simp only [zaux, Bool.and_eq_true, decide_eq_true_eq] at hax
  refine lv_lconst hx hb hdg hax.1 ?_
  exact hn _ _ _ h hw hL (zs2 (v := .inr (.inl C)) (zIJ (zIb_ok hax.2)) hs) p l e s m args below meth c D ad ct AA H locs ls cells slots Q fx0 en wo lo
set_option maxHeartbeats 1000000 in
theorem zs_iinc {j : Nat} {k : Int} (hc : zchk i (pc, n, .iinc j k, A, B, C) = true) (hn : zHn i X R n nx) (hJ : zHJ i X R J) (h : zstep X R nx J pc (.iinc j k) A B C L st σ) : zRuns i X R pc L st σ := by
  obtain ⟨hdg, hnx, hax⟩ := zchk_ok hc
  simp only [zlen] at hdg hnx
  subst hnx
  simp only [zstep] at h
  intro hw hL hs p l e s m args below meth c D ad ct AA H locs ls cells slots Q fx en wo lo
  have fx0 := fx
  obtain ⟨hx, hb, hml, hown, hts, hK, hnw, hA, hce, hsl, hsc⟩ := fx
  simp only [zaux, Bool.and_eq_true, decide_eq_true_eq] at hax
  obtain ⟨⟨rfl, rfl⟩, hlt⟩ := hax
  split at h
  next v hv =>
    obtain ⟨q, hq⟩ := List.getElem?_of_mem (zlv_mem (ad := ad) hv)
    refine lv_iinc (v := Int32.ofInt (v + k)) hx hb hdg lo.has hq (by rw [Int32.ofInt_add]) hlt rfl (fun ls h8 => ?_)
    exact hn _ _ _ h.2 hw (zLok1 (v := .inl (v + k)) hL h.1) hs p l e s m args below meth c D ad ct AA H locs ls cells slots Q fx0 en wo (zLo.st1 (v := .inl (v + k)) h8)
  next => exact h.elim
set_option maxHeartbeats 1000000 in
theorem zs_iadd (hc : zchk i (pc, n, .iadd, A, B, C) = true) (hn : zHn i X R n nx) (hJ : zHJ i X R J) (h : zstep X R nx J pc (.iadd) A B C L st σ) : zRuns i X R pc L st σ := by
  obtain ⟨hdg, hnx, hax⟩ := zchk_ok hc
  simp only [zlen] at hdg hnx
  subst hnx
  simp only [zstep] at h
  intro hw hL hs p l e s m args below meth c D ad ct AA H locs ls cells slots Q fx en wo lo
  have fx0 := fx
  obtain ⟨hx, hb, hml, hown, hts, hK, hnw, hA, hce, hsl, hsc⟩ := fx
  split at h
  next y x st =>
    refine lv_iadd hx hb hdg ?_
    rw [← Int32.ofInt_add]
    exact hn _ _ _ h.2 hw hL (zs2 (v := .inl _) h.1 (zs1 (zs1 hs).2).2) p l e s m args below meth c D ad ct AA H locs ls cells slots Q fx0 en wo lo
  next => exact h.elim
set_option maxHeartbeats 1000000 in
theorem zs_isub (hc : zchk i (pc, n, .isub, A, B, C) = true) (hn : zHn i X R n nx) (hJ : zHJ i X R J) (h : zstep X R nx J pc (.isub) A B C L st σ) : zRuns i X R pc L st σ := by
  obtain ⟨hdg, hnx, hax⟩ := zchk_ok hc
  simp only [zlen] at hdg hnx
  subst hnx
  simp only [zstep] at h
  intro hw hL hs p l e s m args below meth c D ad ct AA H locs ls cells slots Q fx en wo lo
  have fx0 := fx
  obtain ⟨hx, hb, hml, hown, hts, hK, hnw, hA, hce, hsl, hsc⟩ := fx
  split at h
  next y x st =>
    refine lv_isub hx hb hdg ?_
    rw [← Int32.ofInt_sub]
    exact hn _ _ _ h.2 hw hL (zs2 (v := .inl _) h.1 (zs1 (zs1 hs).2).2) p l e s m args below meth c D ad ct AA H locs ls cells slots Q fx0 en wo lo
  next => exact h.elim
set_option maxHeartbeats 1000000 in
theorem zs_imul (hc : zchk i (pc, n, .imul, A, B, C) = true) (hn : zHn i X R n nx) (hJ : zHJ i X R J) (h : zstep X R nx J pc (.imul) A B C L st σ) : zRuns i X R pc L st σ := by
  obtain ⟨hdg, hnx, hax⟩ := zchk_ok hc
  simp only [zlen] at hdg hnx
  subst hnx
  simp only [zstep] at h
  intro hw hL hs p l e s m args below meth c D ad ct AA H locs ls cells slots Q fx en wo lo
  have fx0 := fx
  obtain ⟨hx, hb, hml, hown, hts, hK, hnw, hA, hce, hsl, hsc⟩ := fx
  split at h
  next y x st =>
    refine lv_imul hx hb hdg ?_
    rw [← Int32.ofInt_mul]
    exact hn _ _ _ h.2 hw hL (zs2 (v := .inl _) h.1 (zs1 (zs1 hs).2).2) p l e s m args below meth c D ad ct AA H locs ls cells slots Q fx0 en wo lo
  next => exact h.elim
set_option maxHeartbeats 1000000 in
theorem zs_idiv (hc : zchk i (pc, n, .idiv, A, B, C) = true) (hn : zHn i X R n nx) (hJ : zHJ i X R J) (h : zstep X R nx J pc (.idiv) A B C L st σ) : zRuns i X R pc L st σ := by
  obtain ⟨hdg, hnx, hax⟩ := zchk_ok hc
  simp only [zlen] at hdg hnx
  subst hnx
  simp only [zstep] at h
  intro hw hL hs p l e s m args below meth c D ad ct AA H locs ls cells slots Q fx en wo lo
  have fx0 := fx
  obtain ⟨hx, hb, hml, hown, hts, hK, hnw, hA, hce, hsl, hsc⟩ := fx
  split at h
  next y x st =>
    have hy : zI y := (zs1 hs).1
    have hx' : zI x := (zs1 (zs1 hs).2).1
    have hq := zIdiv hx' hy h.1.1 h.1.2
    refine lv_idiv hx hb hdg (fun q => by have := (zeq0 hy).mp q; have := h.1.2; omega) ?_
    rw [hq.1]
    exact hn _ _ _ h.2 hw hL (zs2 (v := .inl _) hq.2 (zs1 (zs1 hs).2).2) p l e s m args below meth c D ad ct AA H locs ls cells slots Q fx0 en wo lo
  next => exact h.elim
set_option maxHeartbeats 1000000 in
theorem zs_irem (hc : zchk i (pc, n, .irem, A, B, C) = true) (hn : zHn i X R n nx) (hJ : zHJ i X R J) (h : zstep X R nx J pc (.irem) A B C L st σ) : zRuns i X R pc L st σ := by
  obtain ⟨hdg, hnx, hax⟩ := zchk_ok hc
  simp only [zlen] at hdg hnx
  subst hnx
  simp only [zstep] at h
  intro hw hL hs p l e s m args below meth c D ad ct AA H locs ls cells slots Q fx en wo lo
  have fx0 := fx
  obtain ⟨hx, hb, hml, hown, hts, hK, hnw, hA, hce, hsl, hsc⟩ := fx
  split at h
  next y x st =>
    have hy : zI y := (zs1 hs).1
    have hx' : zI x := (zs1 (zs1 hs).2).1
    have hq := zIrem hx' hy h.1.1 h.1.2
    refine lv_irem hx hb hdg (fun q => by have := (zeq0 hy).mp q; have := h.1.2; omega) ?_
    rw [hq.1]
    exact hn _ _ _ h.2 hw hL (zs2 (v := .inl _) hq.2 (zs1 (zs1 hs).2).2) p l e s m args below meth c D ad ct AA H locs ls cells slots Q fx0 en wo lo
  next => exact h.elim
set_option maxHeartbeats 1000000 in
theorem zs_ineg (hc : zchk i (pc, n, .ineg, A, B, C) = true) (hn : zHn i X R n nx) (hJ : zHJ i X R J) (h : zstep X R nx J pc (.ineg) A B C L st σ) : zRuns i X R pc L st σ := by
  obtain ⟨hdg, hnx, hax⟩ := zchk_ok hc
  simp only [zlen] at hdg hnx
  subst hnx
  simp only [zstep] at h
  intro hw hL hs p l e s m args below meth c D ad ct AA H locs ls cells slots Q fx en wo lo
  have fx0 := fx
  obtain ⟨hx, hb, hml, hown, hts, hK, hnw, hA, hce, hsl, hsc⟩ := fx
  split at h
  next x st =>
    refine lv_ineg hx hb hdg ?_
    rw [← Int32.ofInt_neg]
    exact hn _ _ _ h.2 hw hL (zs2 (v := .inl _) h.1 (zs1 hs).2) p l e s m args below meth c D ad ct AA H locs ls cells slots Q fx0 en wo lo
  next => exact h.elim
set_option maxHeartbeats 1000000 in
theorem zs_iand (hc : zchk i (pc, n, .iand, A, B, C) = true) (hn : zHn i X R n nx) (hJ : zHJ i X R J) (h : zstep X R nx J pc (.iand) A B C L st σ) : zRuns i X R pc L st σ := by
  obtain ⟨hdg, hnx, hax⟩ := zchk_ok hc
  simp only [zlen] at hdg hnx
  subst hnx
  simp only [zstep] at h
  intro hw hL hs p l e s m args below meth c D ad ct AA H locs ls cells slots Q fx en wo lo
  have fx0 := fx
  obtain ⟨hx, hb, hml, hown, hts, hK, hnw, hA, hce, hsl, hsc⟩ := fx
  split at h
  next y x st =>
    refine lv_iand hx hb hdg ?_
    rw [← Int32.ofInt_toInt (Int32.ofInt x &&& Int32.ofInt y)]
    exact hn _ _ _ h hw hL (zs2 (v := .inl _) (zI_of _) (zs1 (zs1 hs).2).2) p l e s m args below meth c D ad ct AA H locs ls cells slots Q fx0 en wo lo
  next => exact h.elim
set_option maxHeartbeats 1000000 in
theorem zs_i2b (hc : zchk i (pc, n, .i2b, A, B, C) = true) (hn : zHn i X R n nx) (hJ : zHJ i X R J) (h : zstep X R nx J pc (.i2b) A B C L st σ) : zRuns i X R pc L st σ := by
  obtain ⟨hdg, hnx, hax⟩ := zchk_ok hc
  simp only [zlen] at hdg hnx
  subst hnx
  simp only [zstep] at h
  intro hw hL hs p l e s m args below meth c D ad ct AA H locs ls cells slots Q fx en wo lo
  have fx0 := fx
  obtain ⟨hx, hb, hml, hown, hts, hK, hnw, hA, hce, hsl, hsc⟩ := fx
  split at h
  next x st =>
    refine lv_i2b hx hb hdg (v := Int32.ofInt ((Int32.ofInt x).toInt8.toInt32.toInt)) (by rw [Int32.ofInt_toInt]) ?_
    exact hn _ _ _ h hw hL (zs2 (v := .inl _) (zI_of _) (zs1 hs).2) p l e s m args below meth c D ad ct AA H locs ls cells slots Q fx0 en wo lo
  next => exact h.elim
set_option maxHeartbeats 1000000 in
theorem zs_i2s (hc : zchk i (pc, n, .i2s, A, B, C) = true) (hn : zHn i X R n nx) (hJ : zHJ i X R J) (h : zstep X R nx J pc (.i2s) A B C L st σ) : zRuns i X R pc L st σ := by
  obtain ⟨hdg, hnx, hax⟩ := zchk_ok hc
  simp only [zlen] at hdg hnx
  subst hnx
  simp only [zstep] at h
  intro hw hL hs p l e s m args below meth c D ad ct AA H locs ls cells slots Q fx en wo lo
  have fx0 := fx
  obtain ⟨hx, hb, hml, hown, hts, hK, hnw, hA, hce, hsl, hsc⟩ := fx
  split at h
  next x st =>
    refine lv_i2s hx hb hdg (v := Int32.ofInt ((Int32.ofInt x).toInt16.toInt32.toInt)) (by rw [Int32.ofInt_toInt]) ?_
    exact hn _ _ _ h hw hL (zs2 (v := .inl _) (zI_of _) (zs1 hs).2) p l e s m args below meth c D ad ct AA H locs ls cells slots Q fx0 en wo lo
  next => exact h.elim
set_option maxHeartbeats 1000000 in
theorem zs_i2l (hc : zchk i (pc, n, .i2l, A, B, C) = true) (hn : zHn i X R n nx) (hJ : zHJ i X R J) (h : zstep X R nx J pc (.i2l) A B C L st σ) : zRuns i X R pc L st σ := by
  obtain ⟨hdg, hnx, hax⟩ := zchk_ok hc
  simp only [zlen] at hdg hnx
  subst hnx
  simp only [zstep] at h
  intro hw hL hs p l e s m args below meth c D ad ct AA H locs ls cells slots Q fx en wo lo
  have fx0 := fx
  obtain ⟨hx, hb, hml, hown, hts, hK, hnw, hA, hce, hsl, hsc⟩ := fx
  split at h
  next x st =>
    refine lv_i2l hx hb hdg (zi2l (zs1 hs).1) ?_
    exact hn _ _ _ h hw hL (zs2 (v := .inr (.inl _)) (zIJ (zs1 hs).1) (zs1 hs).2) p l e s m args below meth c D ad ct AA H locs ls cells slots Q fx0 en wo lo
  next => exact h.elim
set_option maxHeartbeats 1000000 in
theorem zs_l2i (hc : zchk i (pc, n, .l2i, A, B, C) = true) (hn : zHn i X R n nx) (hJ : zHJ i X R J) (h : zstep X R nx J pc (.l2i) A B C L st σ) : zRuns i X R pc L st σ := by
  obtain ⟨hdg, hnx, hax⟩ := zchk_ok hc
  simp only [zlen] at hdg hnx
  subst hnx
  simp only [zstep] at h
  intro hw hL hs p l e s m args below meth c D ad ct AA H locs ls cells slots Q fx en wo lo
  have fx0 := fx
  obtain ⟨hx, hb, hml, hown, hts, hK, hnw, hA, hce, hsl, hsc⟩ := fx
  split at h
  next x st =>
    refine lv_l2i hx hb hdg (zl2i h.1) ?_
    exact hn _ _ _ h.2 hw hL (zs2 (v := .inl _) h.1 (zs1 hs).2) p l e s m args below meth c D ad ct AA H locs ls cells slots Q fx0 en wo lo
  next => exact h.elim
set_option maxHeartbeats 1000000 in
theorem zs_ladd (hc : zchk i (pc, n, .ladd, A, B, C) = true) (hn : zHn i X R n nx) (hJ : zHJ i X R J) (h : zstep X R nx J pc (.ladd) A B C L st σ) : zRuns i X R pc L st σ := by
  obtain ⟨hdg, hnx, hax⟩ := zchk_ok hc
  simp only [zlen] at hdg hnx
  subst hnx
  simp only [zstep] at h
  intro hw hL hs p l e s m args below meth c D ad ct AA H locs ls cells slots Q fx en wo lo
  have fx0 := fx
  obtain ⟨hx, hb, hml, hown, hts, hK, hnw, hA, hce, hsl, hsc⟩ := fx
  split at h
  next y x st =>
    have hy : zJ y := (zs1 hs).1
    have hx' : zJ x := (zs1 (zs1 hs).2).1
    refine lv_ladd hx hb hdg ?_
    rw [zJadd hx' hy h.1]
    exact hn _ _ _ h.2 hw hL (zs2 (v := .inr (.inl _)) h.1 (zs1 (zs1 hs).2).2) p l e s m args below meth c D ad ct AA H locs ls cells slots Q fx0 en wo lo
  next => exact h.elim
set_option maxHeartbeats 1000000 in
theorem zs_lmul (hc : zchk i (pc, n, .lmul, A, B, C) = true) (hn : zHn i X R n nx) (hJ : zHJ i X R J) (h : zstep X R nx J pc (.lmul) A B C L st σ) : zRuns i X R pc L st σ := by
  obtain ⟨hdg, hnx, hax⟩ := zchk_ok hc
  simp only [zlen] at hdg hnx
  subst hnx
  simp only [zstep] at h
  intro hw hL hs p l e s m args below meth c D ad ct AA H locs ls cells slots Q fx en wo lo
  have fx0 := fx
  obtain ⟨hx, hb, hml, hown, hts, hK, hnw, hA, hce, hsl, hsc⟩ := fx
  split at h
  next y x st =>
    have hy : zJ y := (zs1 hs).1
    have hx' : zJ x := (zs1 (zs1 hs).2).1
    refine lv_lmul hx hb hdg ?_
    rw [zJmul hx' hy h.1]
    exact hn _ _ _ h.2 hw hL (zs2 (v := .inr (.inl _)) h.1 (zs1 (zs1 hs).2).2) p l e s m args below meth c D ad ct AA H locs ls cells slots Q fx0 en wo lo
  next => exact h.elim
set_option maxHeartbeats 1000000 in
theorem zs_land (hc : zchk i (pc, n, .land, A, B, C) = true) (hn : zHn i X R n nx) (hJ : zHJ i X R J) (h : zstep X R nx J pc (.land) A B C L st σ) : zRuns i X R pc L st σ := by
  obtain ⟨hdg, hnx, hax⟩ := zchk_ok hc
  simp only [zlen] at hdg hnx
  subst hnx
  simp only [zstep] at h
  intro hw hL hs p l e s m args below meth c D ad ct AA H locs ls cells slots Q fx en wo lo
  have fx0 := fx
  obtain ⟨hx, hb, hml, hown, hts, hK, hnw, hA, hce, hsl, hsc⟩ := fx
  split at h
  next y x st =>
    refine lv_land hx hb hdg ?_
    rw [← Int64.ofInt_toInt (Int64.ofInt x &&& Int64.ofInt y)]
    exact hn _ _ _ h hw hL (zs2 (v := .inr (.inl _)) (zJ_of _) (zs1 (zs1 hs).2).2) p l e s m args below meth c D ad ct AA H locs ls cells slots Q fx0 en wo lo
  next => exact h.elim
set_option maxHeartbeats 1000000 in
theorem zs_lor (hc : zchk i (pc, n, .lor, A, B, C) = true) (hn : zHn i X R n nx) (hJ : zHJ i X R J) (h : zstep X R nx J pc (.lor) A B C L st σ) : zRuns i X R pc L st σ := by
  obtain ⟨hdg, hnx, hax⟩ := zchk_ok hc
  simp only [zlen] at hdg hnx
  subst hnx
  simp only [zstep] at h
  intro hw hL hs p l e s m args below meth c D ad ct AA H locs ls cells slots Q fx en wo lo
  have fx0 := fx
  obtain ⟨hx, hb, hml, hown, hts, hK, hnw, hA, hce, hsl, hsc⟩ := fx
  split at h
  next y x st =>
    refine lv_lor hx hb hdg ?_
    rw [← Int64.ofInt_toInt (Int64.ofInt x ||| Int64.ofInt y)]
    exact hn _ _ _ h hw hL (zs2 (v := .inr (.inl _)) (zJ_of _) (zs1 (zs1 hs).2).2) p l e s m args below meth c D ad ct AA H locs ls cells slots Q fx0 en wo lo
  next => exact h.elim
set_option maxHeartbeats 1000000 in
theorem zs_lshl (hc : zchk i (pc, n, .lshl, A, B, C) = true) (hn : zHn i X R n nx) (hJ : zHJ i X R J) (h : zstep X R nx J pc (.lshl) A B C L st σ) : zRuns i X R pc L st σ := by
  obtain ⟨hdg, hnx, hax⟩ := zchk_ok hc
  simp only [zlen] at hdg hnx
  subst hnx
  simp only [zstep] at h
  intro hw hL hs p l e s m args below meth c D ad ct AA H locs ls cells slots Q fx en wo lo
  have fx0 := fx
  obtain ⟨hx, hb, hml, hown, hts, hK, hnw, hA, hce, hsl, hsc⟩ := fx
  split at h
  next y x st =>
    refine lv_lshl hx hb hdg (Int64.ofInt_toInt _).symm ?_
    exact hn _ _ _ h hw hL (zs2 (v := .inr (.inl _)) (zJ_of _) (zs1 (zs1 hs).2).2) p l e s m args below meth c D ad ct AA H locs ls cells slots Q fx0 en wo lo
  next => exact h.elim
set_option maxHeartbeats 1000000 in
theorem zs_lshr (hc : zchk i (pc, n, .lshr, A, B, C) = true) (hn : zHn i X R n nx) (hJ : zHJ i X R J) (h : zstep X R nx J pc (.lshr) A B C L st σ) : zRuns i X R pc L st σ := by
  obtain ⟨hdg, hnx, hax⟩ := zchk_ok hc
  simp only [zlen] at hdg hnx
  subst hnx
  simp only [zstep] at h
  intro hw hL hs p l e s m args below meth c D ad ct AA H locs ls cells slots Q fx en wo lo
  have fx0 := fx
  obtain ⟨hx, hb, hml, hown, hts, hK, hnw, hA, hce, hsl, hsc⟩ := fx
  split at h
  next y x st =>
    refine lv_lshr hx hb hdg (Int64.ofInt_toInt _).symm ?_
    exact hn _ _ _ h hw hL (zs2 (v := .inr (.inl _)) (zJ_of _) (zs1 (zs1 hs).2).2) p l e s m args below meth c D ad ct AA H locs ls cells slots Q fx0 en wo lo
  next => exact h.elim
set_option maxHeartbeats 1000000 in
theorem zs_lushr (hc : zchk i (pc, n, .lushr, A, B, C) = true) (hn : zHn i X R n nx) (hJ : zHJ i X R J) (h : zstep X R nx J pc (.lushr) A B C L st σ) : zRuns i X R pc L st σ := by
  obtain ⟨hdg, hnx, hax⟩ := zchk_ok hc
  simp only [zlen] at hdg hnx
  subst hnx
  simp only [zstep] at h
  intro hw hL hs p l e s m args below meth c D ad ct AA H locs ls cells slots Q fx en wo lo
  have fx0 := fx
  obtain ⟨hx, hb, hml, hown, hts, hK, hnw, hA, hce, hsl, hsc⟩ := fx
  split at h
  next y x st =>
    refine lv_lushr hx hb hdg (Int64.ofInt_toInt _).symm ?_
    exact hn _ _ _ h hw hL (zs2 (v := .inr (.inl _)) (zJ_of _) (zs1 (zs1 hs).2).2) p l e s m args below meth c D ad ct AA H locs ls cells slots Q fx0 en wo lo
  next => exact h.elim
set_option maxHeartbeats 1000000 in
theorem zs_lcmp (hc : zchk i (pc, n, .lcmp, A, B, C) = true) (hn : zHn i X R n nx) (hJ : zHJ i X R J) (h : zstep X R nx J pc (.lcmp) A B C L st σ) : zRuns i X R pc L st σ := by
  obtain ⟨hdg, hnx, hax⟩ := zchk_ok hc
  simp only [zlen] at hdg hnx
  subst hnx
  simp only [zstep] at h
  intro hw hL hs p l e s m args below meth c D ad ct AA H locs ls cells slots Q fx en wo lo
  have fx0 := fx
  obtain ⟨hx, hb, hml, hown, hts, hK, hnw, hA, hce, hsl, hsc⟩ := fx
  split at h
  next y x st =>
    have hq := zcmp_lg (x := x) (y := y) (zs1 (zs1 hs).2).1 (zs1 hs).1
    refine W.lcmp hx hb hdg ?_
    rw [hq.1]
    exact hn _ _ _ h hw hL (zs2 (v := .inl _) hq.2 (zs1 (zs1 hs).2).2) p l e s m args below meth c D ad ct AA H locs ls cells slots Q fx0 en wo lo
  next => exact h.elim
set_option maxHeartbeats 1000000 in
theorem zs_dup (hc : zchk i (pc, n, .dup, A, B, C) = true) (hn : zHn i X R n nx) (hJ : zHJ i X R J) (h : zstep X R nx J pc (.dup) A B C L st σ) : zRuns i X R pc L st σ := by
  obtain ⟨hdg, hnx, hax⟩ := zchk_ok hc
  simp only [zlen] at hdg hnx
  subst hnx
  simp only [zstep] at h
  intro hw hL hs p l e s m args below meth c D ad ct AA H locs ls cells slots Q fx en wo lo
  have fx0 := fx
  obtain ⟨hx, hb, hml, hown, hts, hK, hnw, hA, hce, hsl, hsc⟩ := fx
  split at h
  next x st =>
    refine lv_dup hx hb hdg rfl ?_
    exact hn _ _ _ h hw hL (zs2 (zs1 hs).1 hs) p l e s m args below meth c D ad ct AA H locs ls cells slots Q fx0 en wo lo
  next x st =>
    refine lv_dup hx hb hdg rfl ?_
    exact hn _ _ _ h hw hL (zs2 (zs1 hs).1 hs) p l e s m args below meth c D ad ct AA H locs ls cells slots Q fx0 en wo lo
  next => exact h.elim
set_option maxHeartbeats 1000000 in
theorem zs_dup2 (hc : zchk i (pc, n, .dup2, A, B, C) = true) (hn : zHn i X R n nx) (hJ : zHJ i X R J) (h : zstep X R nx J pc (.dup2) A B C L st σ) : zRuns i X R pc L st σ := by
  obtain ⟨hdg, hnx, hax⟩ := zchk_ok hc
  simp only [zlen] at hdg hnx
  subst hnx
  simp only [zstep] at h
  intro hw hL hs p l e s m args below meth c D ad ct AA H locs ls cells slots Q fx en wo lo
  have fx0 := fx
  obtain ⟨hx, hb, hml, hown, hts, hK, hnw, hA, hce, hsl, hsc⟩ := fx
  split at h
  next y x st =>
    refine lv_dup2_11 hx hb hdg rfl rfl ?_
    exact hn _ _ _ h hw hL (zs2 (zs1 hs).1 (zs2 (zs1 (zs1 hs).2).1 hs)) p l e s m args below meth c D ad ct AA H locs ls cells slots Q fx0 en wo lo
  next => exact h.elim
set_option maxHeartbeats 1000000 in
theorem zs_pop (hc : zchk i (pc, n, .pop, A, B, C) = true) (hn : zHn i X R n nx) (hJ : zHJ i X R J) (h : zstep X R nx J pc (.pop) A B C L st σ) : zRuns i X R pc L st σ := by
  obtain ⟨hdg, hnx, hax⟩ := zchk_ok hc
  simp only [zlen] at hdg hnx
  subst hnx
  simp only [zstep] at h
  intro hw hL hs p l e s m args below meth c D ad ct AA H locs ls cells slots Q fx en wo lo
  have fx0 := fx
  obtain ⟨hx, hb, hml, hown, hts, hK, hnw, hA, hce, hsl, hsc⟩ := fx
  split at h
  next y st =>
    refine lv_pop hx hb hdg rfl ?_
    exact hn _ _ _ h hw hL (zs1 hs).2 p l e s m args below meth c D ad ct AA H locs ls cells slots Q fx0 en wo lo
  next => exact h.elim
set_option maxHeartbeats 1000000 in
theorem zs_goto {off : Int} (hc : zchk i (pc, n, .goto off, A, B, C) = true) (hn : zHn i X R n nx) (hJ : zHJ i X R J) (h : zstep X R nx J pc (.goto off) A B C L st σ) : zRuns i X R pc L st σ := by
  obtain ⟨hdg, hnx, hax⟩ := zchk_ok hc
  simp only [zlen] at hdg hnx
  subst hnx
  simp only [zstep] at h
  intro hw hL hs p l e s m args below meth c D ad ct AA H locs ls cells slots Q fx en wo lo
  have fx0 := fx
  obtain ⟨hx, hb, hml, hown, hts, hK, hnw, hA, hce, hsl, hsc⟩ := fx
  simp only [zaux, decide_eq_true_eq] at hax
  refine lv_goto hx hb hdg hax ?_
  exact hJ _ _ _ _ h hw hL hs p l e s m args below meth c D ad ct AA H locs ls cells slots Q fx0 en wo lo
set_option maxHeartbeats 1000000 in
theorem zs_if_eq {off : Int} (hc : zchk i (pc, n, .ifCond .eq off, A, B, C) = true) (hn : zHn i X R n nx) (hJ : zHJ i X R J) (h : zstep X R nx J pc (.ifCond .eq off) A B C L st σ) : zRuns i X R pc L st σ := by
  obtain ⟨hdg, hnx, hax⟩ := zchk_ok hc
  simp only [zlen] at hdg hnx
  subst hnx
  simp only [zstep] at h
  intro hw hL hs p l e s m args below meth c D ad ct AA H locs ls cells slots Q fx en wo lo
  have fx0 := fx
  obtain ⟨hx, hb, hml, hown, hts, hK, hnw, hA, hce, hsl, hsc⟩ := fx
  simp only [zaux, decide_eq_true_eq] at hax
  split at h
  next x st =>
    have hX : zI x := (zs1 hs).1
    refine lv_if_eq hx hb hdg hax (fun q => ?_) (fun q => ?_)
    · exact hJ _ _ _ _ (h.1 ((zeq0 hX).mp q)) hw hL (zs1 hs).2 p l e s m args below meth c D ad ct AA H locs ls cells slots Q fx0 en wo lo
    · exact hn _ _ _ (h.2 (fun z => q ((zeq0 hX).mpr z))) hw hL (zs1 hs).2 p l e s m args below meth c D ad ct AA H locs ls cells slots Q fx0 en wo lo
  next => exact h.elim
set_option maxHeartbeats 1000000 in
theorem zs_icmp_eq {off : Int} (hc : zchk i (pc, n, .if_icmp .eq off, A, B, C) = true) (hn : zHn i X R n nx) (hJ : zHJ i X R J) (h : zstep X R nx J pc (.if_icmp .eq off) A B C L st σ) : zRuns i X R pc L st σ := by
  obtain ⟨hdg, hnx, hax⟩ := zchk_ok hc
  simp only [zlen] at hdg hnx
  subst hnx
  simp only [zstep] at h
  intro hw hL hs p l e s m args below meth c D ad ct AA H locs ls cells slots Q fx en wo lo
  have fx0 := fx
  obtain ⟨hx, hb, hml, hown, hts, hK, hnw, hA, hce, hsl, hsc⟩ := fx
  simp only [zaux, decide_eq_true_eq] at hax
  split at h
  next y x st =>
    have hY : zI y := (zs1 hs).1
    have hX : zI x := (zs1 (zs1 hs).2).1
    refine lv_icmp_eq hx hb hdg hax (fun q => ?_) (fun q => ?_)
    · exact hJ _ _ _ _ (h.1 ((zeq hX hY).mp q)) hw hL (zs1 (zs1 hs).2).2 p l e s m args below meth c D ad ct AA H locs ls cells slots Q fx0 en wo lo
    · exact hn _ _ _ (h.2 (fun z => q ((zeq hX hY).mpr z))) hw hL (zs1 (zs1 hs).2).2 p l e s m args below meth c D ad ct AA H locs ls cells slots Q fx0 en wo lo
  next => exact h.elim
set_option maxHeartbeats 1000000 in
theorem zs_if_ne {off : Int} (hc : zchk i (pc, n, .ifCond .ne off, A, B, C) = true) (hn : zHn i X R n nx) (hJ : zHJ i X R J) (h : zstep X R nx J pc (.ifCond .ne off) A B C L st σ) : zRuns i X R pc L st σ := by
  obtain ⟨hdg, hnx, hax⟩ := zchk_ok hc
  simp only [zlen] at hdg hnx
  subst hnx
  simp only [zstep] at h
  intro hw hL hs p l e s m args below meth c D ad ct AA H locs ls cells slots Q fx en wo lo
  have fx0 := fx
  obtain ⟨hx, hb, hml, hown, hts, hK, hnw, hA, hce, hsl, hsc⟩ := fx
  simp only [zaux, decide_eq_true_eq] at hax
  split at h
  next x st =>
    have hX : zI x := (zs1 hs).1
    refine lv_if_ne hx hb hdg hax (fun q => ?_) (fun q => ?_)
    · exact hJ _ _ _ _ (h.1 (fun z => q ((zeq0 hX).mpr z))) hw hL (zs1 hs).2 p l e s m args below meth c D ad ct AA H locs ls cells slots Q fx0 en wo lo
    · exact hn _ _ _ (h.2 ((zeq0 hX).mp q)) hw hL (zs1 hs).2 p l e s m args below meth c D ad ct AA H locs ls cells slots Q fx0 en wo lo
  next => exact h.elim
set_option maxHeartbeats 1000000 in
theorem zs_icmp_ne {off : Int} (hc : zchk i (pc, n, .if_icmp .ne off, A, B, C) = true) (hn : zHn i X R n nx) (hJ : zHJ i X R J) (h : zstep X R nx J pc (.if_icmp .ne off) A B C L st σ) : zRuns i X R pc L st σ := by
  obtain ⟨hdg, hnx, hax⟩ := zchk_ok hc
  simp only [zlen] at hdg hnx
  subst hnx
  simp only [zstep] at h
  intro hw hL hs p l e s m args below meth c D ad ct AA H locs ls cells slots Q fx en wo lo
  have fx0 := fx
  obtain ⟨hx, hb, hml, hown, hts, hK, hnw, hA, hce, hsl, hsc⟩ := fx
  simp only [zaux, decide_eq_true_eq] at hax
  split at h
  next y x st =>
    have hY : zI y := (zs1 hs).1
    have hX : zI x := (zs1 (zs1 hs).2).1
    refine lv_icmp_ne hx hb hdg hax (fun q => ?_) (fun q => ?_)
    · exact hJ _ _ _ _ (h.1 (fun z => q ((zeq hX hY).mpr z))) hw hL (zs1 (zs1 hs).2).2 p l e s m args below meth c D ad ct AA H locs ls cells slots Q fx0 en wo lo
    · exact hn _ _ _ (h.2 ((zeq hX hY).mp q)) hw hL (zs1 (zs1 hs).2).2 p l e s m args below meth c D ad ct AA H locs ls cells slots Q fx0 en wo lo
  next => exact h.elim
set_option maxHeartbeats 1000000 in
theorem zs_if_lt {off : Int} (hc : zchk i (pc, n, .ifCond .lt off, A, B, C) = true) (hn : zHn i X R n nx) (hJ : zHJ i X R J) (h : zstep X R nx J pc (.ifCond .lt off) A B C L st σ) : zRuns i X R pc L st σ := by
  obtain ⟨hdg, hnx, hax⟩ := zchk_ok hc
  simp only [zlen] at hdg hnx
  subst hnx
  simp only [zstep] at h
  intro hw hL hs p l e s m args below meth c D ad ct AA H locs ls cells slots Q fx en wo lo
  have fx0 := fx
  obtain ⟨hx, hb, hml, hown, hts, hK, hnw, hA, hce, hsl, hsc⟩ := fx
  simp only [zaux, decide_eq_true_eq] at hax
  split at h
  next x st =>
    have hX : zI x := (zs1 hs).1
    refine lv_if_lt hx hb hdg hax (fun q => ?_) (fun q => ?_)
    · exact hJ _ _ _ _ (h.1 ((zlt0 hX).mp q)) hw hL (zs1 hs).2 p l e s m args below meth c D ad ct AA H locs ls cells slots Q fx0 en wo lo
    · exact hn _ _ _ (h.2 (Int.not_lt.mp (fun z => q ((zlt0 hX).mpr z)))) hw hL (zs1 hs).2 p l e s m args below meth c D ad ct AA H locs ls cells slots Q fx0 en wo lo
  next => exact h.elim
set_option maxHeartbeats 1000000 in
theorem zs_icmp_lt {off : Int} (hc : zchk i (pc, n, .if_icmp .lt off, A, B, C) = true) (hn : zHn i X R n nx) (hJ : zHJ i X R J) (h : zstep X R nx J pc (.if_icmp .lt off) A B C L st σ) : zRuns i X R pc L st σ := by
  obtain ⟨hdg, hnx, hax⟩ := zchk_ok hc
  simp only [zlen] at hdg hnx
  subst hnx
  simp only [zstep] at h
  intro hw hL hs p l e s m args below meth c D ad ct AA H locs ls cells slots Q fx en wo lo
  have fx0 := fx
  obtain ⟨hx, hb, hml, hown, hts, hK, hnw, hA, hce, hsl, hsc⟩ := fx
  simp only [zaux, decide_eq_true_eq] at hax
  split at h
  next y x st =>
    have hY : zI y := (zs1 hs).1
    have hX : zI x := (zs1 (zs1 hs).2).1
    refine lv_icmp_lt hx hb hdg hax (fun q => ?_) (fun q => ?_)
    · exact hJ _ _ _ _ (h.1 ((zlt hX hY).mp q)) hw hL (zs1 (zs1 hs).2).2 p l e s m args below meth c D ad ct AA H locs ls cells slots Q fx0 en wo lo
    · exact hn _ _ _ (h.2 (Int.not_lt.mp (fun z => q ((zlt hX hY).mpr z)))) hw hL (zs1 (zs1 hs).2).2 p l e s m args below meth c D ad ct AA H locs ls cells slots Q fx0 en wo lo
  next => exact h.elim
set_option maxHeartbeats 1000000 in
theorem zs_if_ge {off : Int} (hc : zchk i (pc, n, .ifCond .ge off, A, B, C) = true) (hn : zHn i X R n nx) (hJ : zHJ i X R J) (h : zstep X R nx J pc (.ifCond .ge off) A B C L st σ) : zRuns i X R pc L st σ := by
  obtain ⟨hdg, hnx, hax⟩ := zchk_ok hc
  simp only [zlen] at hdg hnx
  subst hnx
  simp only [zstep] at h
  intro hw hL hs p l e s m args below meth c D ad ct AA H locs ls cells slots Q fx en wo lo
  have fx0 := fx
  obtain ⟨hx, hb, hml, hown, hts, hK, hnw, hA, hce, hsl, hsc⟩ := fx
  simp only [zaux, decide_eq_true_eq] at hax
  split at h
  next x st =>
    have hX : zI x := (zs1 hs).1
    refine lv_if_ge hx hb hdg hax (fun q => ?_) (fun q => ?_)
    · exact hJ _ _ _ _ (h.1 ((zge0 hX).mp q)) hw hL (zs1 hs).2 p l e s m args below meth c D ad ct AA H locs ls cells slots Q fx0 en wo lo
    · exact hn _ _ _ (h.2 (Int.not_le.mp (fun z => q ((zge0 hX).mpr z)))) hw hL (zs1 hs).2 p l e s m args below meth c D ad ct AA H locs ls cells slots Q fx0 en wo lo
  next => exact h.elim
set_option maxHeartbeats 1000000 in
theorem zs_icmp_ge {off : Int} (hc : zchk i (pc, n, .if_icmp .ge off, A, B, C) = true) (hn : zHn i X R n nx) (hJ : zHJ i X R J) (h : zstep X R nx J pc (.if_icmp .ge off) A B C L st σ) : zRuns i X R pc L st σ := by
  obtain ⟨hdg, hnx, hax⟩ := zchk_ok hc
  simp only [zlen] at hdg hnx
  subst hnx
  simp only [zstep] at h
  intro hw hL hs p l e s m args below meth c D ad ct AA H locs ls cells slots Q fx en wo lo
  have fx0 := fx
  obtain ⟨hx, hb, hml, hown, hts, hK, hnw, hA, hce, hsl, hsc⟩ := fx
  simp only [zaux, decide_eq_true_eq] at hax
  split at h
  next y x st =>
    have hY : zI y := (zs1 hs).1
    have hX : zI x := (zs1 (zs1 hs).2).1
    refine lv_icmp_ge hx hb hdg hax (fun q => ?_) (fun q => ?_)
    · exact hJ _ _ _ _ (h.1 ((zle hY hX).mp q)) hw hL (zs1 (zs1 hs).2).2 p l e s m args below meth c D ad ct AA H locs ls cells slots Q fx0 en wo lo
    · exact hn _ _ _ (h.2 (Int.not_le.mp (fun z => q ((zle hY hX).mpr z)))) hw hL (zs1 (zs1 hs).2).2 p l e s m args below meth c D ad ct AA H locs ls cells slots Q fx0 en wo lo
  next => exact h.elim
set_option maxHeartbeats 1000000 in
theorem zs_if_gt {off : Int} (hc : zchk i (pc, n, .ifCond .gt off, A, B, C) = true) (hn : zHn i X R n nx) (hJ : zHJ i X R J) (h : zstep X R nx J pc (.ifCond .gt off) A B C L st σ) : zRuns i X R pc L st σ := by
  obtain ⟨hdg, hnx, hax⟩ := zchk_ok hc
  simp only [zlen] at hdg hnx
  subst hnx
  simp only [zstep] at h
  intro hw hL hs p l e s m args below meth c D ad ct AA H locs ls cells slots Q fx en wo lo
  have fx0 := fx
  obtain ⟨hx, hb, hml, hown, hts, hK, hnw, hA, hce, hsl, hsc⟩ := fx
  simp only [zaux, decide_eq_true_eq] at hax
  split at h
  next x st =>
    have hX : zI x := (zs1 hs).1
    refine lv_if_gt hx hb hdg hax (fun q => ?_) (fun q => ?_)
    · exact hJ _ _ _ _ (h.1 ((zgt0 hX).mp q)) hw hL (zs1 hs).2 p l e s m args below meth c D ad ct AA H locs ls cells slots Q fx0 en wo lo
    · exact hn _ _ _ (h.2 (Int.not_lt.mp (fun z => q ((zgt0 hX).mpr z)))) hw hL (zs1 hs).2 p l e s m args below meth c D ad ct AA H locs ls cells slots Q fx0 en wo lo
  next => exact h.elim
set_option maxHeartbeats 1000000 in
theorem zs_icmp_gt {off : Int} (hc : zchk i (pc, n, .if_icmp .gt off, A, B, C) = true) (hn : zHn i X R n nx) (hJ : zHJ i X R J) (h : zstep X R nx J pc (.if_icmp .gt off) A B C L st σ) : zRuns i X R pc L st σ := by
  obtain ⟨hdg, hnx, hax⟩ := zchk_ok hc
  simp only [zlen] at hdg hnx
  subst hnx
  simp only [zstep] at h
  intro hw hL hs p l e s m args below meth c D ad ct AA H locs ls cells slots Q fx en wo lo
  have fx0 := fx
  obtain ⟨hx, hb, hml, hown, hts, hK, hnw, hA, hce, hsl, hsc⟩ := fx
  simp only [zaux, decide_eq_true_eq] at hax
  split at h
  next y x st =>
    have hY : zI y := (zs1 hs).1
    have hX : zI x := (zs1 (zs1 hs).2).1
    refine lv_icmp_gt hx hb hdg hax (fun q => ?_) (fun q => ?_)
    · exact hJ _ _ _ _ (h.1 ((zlt hY hX).mp q)) hw hL (zs1 (zs1 hs).2).2 p l e s m args below meth c D ad ct AA H locs ls cells slots Q fx0 en wo lo
    · exact hn _ _ _ (h.2 (Int.not_lt.mp (fun z => q ((zlt hY hX).mpr z)))) hw hL (zs1 (zs1 hs).2).2 p l e s m args below meth c D ad ct AA H locs ls cells slots Q fx0 en wo lo
  next => exact h.elim
set_option maxHeartbeats 1000000 in
theorem zs_if_le {off : Int} (hc : zchk i (pc, n, .ifCond .le off, A, B, C) = true) (hn : zHn i X R n nx) (hJ : zHJ i X R J) (h : zstep X R nx J pc (.ifCond .le off) A B C L st σ) : zRuns i X R pc L st σ := by
  obtain ⟨hdg, hnx, hax⟩ := zchk_ok hc
  simp only [zlen] at hdg hnx
  subst hnx
  simp only [zstep] at h
  intro hw hL hs p l e s m args below meth c D ad ct AA H locs ls cells slots Q fx en wo lo
  have fx0 := fx
  obtain ⟨hx, hb, hml, hown, hts, hK, hnw, hA, hce, hsl, hsc⟩ := fx
  simp only [zaux, decide_eq_true_eq] at hax
  split at h
  next x st =>
    have hX : zI x := (zs1 hs).1
    refine lv_if_le hx hb hdg hax (fun q => ?_) (fun q => ?_)
    · exact hJ _ _ _ _ (h.1 ((zle0 hX).mp q)) hw hL (zs1 hs).2 p l e s m args below meth c D ad ct AA H locs ls cells slots Q fx0 en wo lo
    · exact hn _ _ _ (h.2 (Int.not_le.mp (fun z => q ((zle0 hX).mpr z)))) hw hL (zs1 hs).2 p l e s m args below meth c D ad ct AA H locs ls cells slots Q fx0 en wo lo
  next => exact h.elim
set_option maxHeartbeats 1000000 in
theorem zs_icmp_le {off : Int} (hc : zchk i (pc, n, .if_icmp .le off, A, B, C) = true) (hn : zHn i X R n nx) (hJ : zHJ i X R J) (h : zstep X R nx J pc (.if_icmp .le off) A B C L st σ) : zRuns i X R pc L st σ := by
  obtain ⟨hdg, hnx, hax⟩ := zchk_ok hc
  simp only [zlen] at hdg hnx
  subst hnx
  simp only [zstep] at h
  intro hw hL hs p l e s m args below meth c D ad ct AA H locs ls cells slots Q fx en wo lo
  have fx0 := fx
  obtain ⟨hx, hb, hml, hown, hts, hK, hnw, hA, hce, hsl, hsc⟩ := fx
  simp only [zaux, decide_eq_true_eq] at hax
  split at h
  next y x st =>
    have hY : zI y := (zs1 hs).1
    have hX : zI x := (zs1 (zs1 hs).2).1
    refine lv_icmp_le hx hb hdg hax (fun q => ?_) (fun q => ?_)
    · exact hJ _ _ _ _ (h.1 ((zle hX hY).mp q)) hw hL (zs1 (zs1 hs).2).2 p l e s m args below meth c D ad ct AA H locs ls cells slots Q fx0 en wo lo
    · exact hn _ _ _ (h.2 (Int.not_le.mp (fun z => q ((zle hX hY).mpr z)))) hw hL (zs1 (zs1 hs).2).2 p l e s m args below meth c D ad ct AA H locs ls cells slots Q fx0 en wo lo
  next => exact h.elim
end ZS
end
section
/-! the steps that read or write cells, and calls -/
theorem zmf : ∀ A, A < zlaw → zMF A := by
  intro A h
  have h2 : A ∈ zmL := by
    have h3 : (List.range zlaw).all (fun a => decide (a ∈ zmL)) = true := by decide +kernel
    exact of_decide_eq_true (List.all_eq_true.mp h3 A (List.mem_range.mpr h))
  exact zmL_ok A h2
theorem zkd_lt {k : Nat} (h : zkd k ≠ 9) : k < zNC := by
  unfold zkd at h
  split at h
  all_goals first | (show _ < 73; omega) | exact absurd rfl h
theorem zkd5 {k : Nat} (h : zkd k = 5) : k = zKR := by
  unfold zkd at h
  split at h
  all_goals first | rfl | exact absurd h (by decide)
theorem zln_r (k : Nat) : 0 ≤ zln k ∧ zln k ≤ 100000 := by
  unfold zln
  split
  all_goals exact ⟨by decide, by decide⟩
theorem zft_ty : ∀ k, k < 10 → ∀ j, j < zN (zcn k) → (zft k j = 0 → zTy (zcn k) j = .int) ∧ (zft k j = 1 → zTy (zcn k) j = .long) := by decide +kernel
theorem zcn_10 : ∀ k, k < 10 → zcn k < 10 ∧ zkd k = 4 := by decide +kernel
theorem zadr_ne {ad : Nat → Nat} {k : Nat} {o : Int} (h : k ≠ zKR) : zadr ad k o = ad k := if_neg h
theorem zadr_0 {ad : Nat → Nat} {k : Nat} : zadr ad k 0 = ad k := by
  unfold zadr
  split
  next h => rw [h]; rfl
  next => rfl
theorem zadr_r {ad : Nat → Nat} {r : Nat} : zadr ad zKR (80 * (r : Int)) = ad (zKR + r) := by
  unfold zadr
  rw [if_pos rfl]
  congr 2
  omega
theorem zwl_obj {ad : Nat → Nat} {ct : Nat → ClassId} {σ : zS} {k : Nat} (h : k < zNC) (hk : zkd k = 4) : (zwl ad ct σ)[k]? = some (ad k, .inr (zcn k, (List.range (zN (zcn k))).map (fun j => zfv ad σ k j))) := by
  rw [zwl_at ad ct σ h]; simp only [zcel, hk]
theorem zwl_ia {ad : Nat → Nat} {ct : Nat → ClassId} {σ : zS} {k : Nat} (hk : zkd k = 0) : (zwl ad ct σ)[k]? = some (ad k, .inl (ct 0, (zln k).toNat, .inl (fun j => Int32.ofInt (σ k j)))) := by
  rw [zwl_at ad ct σ (zkd_lt (by rw [hk]; decide))]; simp only [zcel, hk]
theorem zwl_za {ad : Nat → Nat} {ct : Nat → ClassId} {σ : zS} {k : Nat} (hk : zkd k = 1) : (zwl ad ct σ)[k]? = some (ad k, .inl (ct 1, (zln k).toNat, .inl (fun j => Int32.ofInt (σ k j)))) := by
  rw [zwl_at ad ct σ (zkd_lt (by rw [hk]; decide))]; simp only [zcel, hk]
theorem zwl_la {ad : Nat → Nat} {ct : Nat → ClassId} {σ : zS} {k : Nat} (hk : zkd k = 2) : (zwl ad ct σ)[k]? = some (ad k, .inl (ct 2, (zln k).toNat, .inr (.inl (fun j => Int64.ofInt (σ k j))))) := by
  rw [zwl_at ad ct σ (zkd_lt (by rw [hk]; decide))]; simp only [zcel, hk]
theorem zwl_qa {ad : Nat → Nat} {ct : Nat → ClassId} {σ : zS} {k : Nat} (hk : zkd k = 3) : (zwl ad ct σ)[k]? = some (ad k, .inl (ct 3, 8, .inr (.inr (.inr (.inr (fun j => if j < 8 then some (ad (zKR + j)) else none)))))) := by
  rw [zwl_at ad ct σ (zkd_lt (by rw [hk]; decide))]; simp only [zcel, hk]
def zrw (σ : zS) (r : Nat) : Nat → Int32 := fun j => if j < 80 then Int32.ofInt (σ zKR (80 * (r : Int) + (j : Int))) else 0
theorem zcel_row {ad : Nat → Nat} {ct : Nat → ClassId} {σ : zS} {r : Nat} (h : r < 8) : zcel ad ct σ (zKR + r) = .inl (ct 0, 80, .inl (zrw σ r)) := by
  match r, h with
  | 0, _ => rfl
  | 1, _ => rfl
  | 2, _ => rfl
  | 3, _ => rfl
  | 4, _ => rfl
  | 5, _ => rfl
  | 6, _ => rfl
  | 7, _ => rfl
  | n + 8, h => exact absurd h (by omega)
theorem zwl_ra {ad : Nat → Nat} {ct : Nat → ClassId} {σ : zS} {r : Nat} (h : r < 8) : (zwl ad ct σ)[zKR + r]? = some (ad (zKR + r), .inl (ct 0, 80, .inl (zrw σ r))) := by
  rw [zwl_at ad ct σ (by show 65 + r < 73; omega), zcel_row h]
theorem zcel_congr {ad : Nat → Nat} {ct : Nat → ClassId} {σ u : zS} {k : Nat} (h : σ k = u k) (h2 : σ zKR = u zKR) : zcel ad ct σ k = zcel ad ct u k := by
  unfold zcel
  split
  all_goals first | rfl | (simp only [zfv, h]) | (simp only [h2])
theorem zup_ne {σ : zS} {k j : Nat} {i v : Int} (h : j ≠ k) : zup σ k i v j = σ j := by funext x; exact if_neg h
theorem zup_at {σ : zS} {k : Nat} {i v x : Int} : zup σ k i v k x = if x = i then v else σ k x := if_pos rfl
theorem zwl_up {ad : Nat → Nat} {ct : Nat → ClassId} {σ : zS} {k : Nat} {i v : Int} {e : va_E} (h : k < zNC) (hne : k ≠ zKR) (he : e = zcel ad ct (zup σ k i v) k) : (zwl ad ct σ).set k (ad k, e) = zwl ad ct (zup σ k i v) :=
  zwl_set ad ct σ (zup σ k i v) k e h he (fun j _ hj => zcel_congr (zup_ne hj) (zup_ne (Ne.symm hne)))
theorem zwl_upr {ad : Nat → Nat} {ct : Nat → ClassId} {σ u : zS} {r : Nat} {f : Nat → Int32} (h : r < 8) (hf : f = zrw u r) (ho : ∀ k, k ≠ zKR → u k = σ k) (hr : ∀ q, q < 8 → q ≠ r → zrw u q = zrw σ q) : (zwl ad ct σ).set (zKR + r) (ad (zKR + r), .inl (ct 0, 80, .inl f)) = zwl ad ct u := by
  refine zwl_set ad ct σ u (zKR + r) _ (by show 65 + r < 73; omega) (by rw [zcel_row h, hf]) (fun j hj hne => ?_)
  by_cases hq : zKR ≤ j
  · obtain ⟨q, rfl⟩ : ∃ q, j = zKR + q := ⟨j - zKR, by omega⟩
    have hq8 : q < 8 := by have : 65 + q < 73 := hj; omega
    rw [zcel_row hq8, zcel_row hq8, hr q hq8 (fun z => hne (by rw [z]))]
  · have h1 : zkd j ≠ 5 ∧ zkd j ≠ 8 := by
      have h9 : ∀ j, j < 65 → zkd j ≠ 5 ∧ zkd j ≠ 8 := by decide +kernel
      exact h9 j (by have : ¬ 65 ≤ j := hq; omega)
    have hj2 : u j = σ j := ho j (fun z => hq (by rw [z]; exact Nat.le_refl _))
    unfold zcel
    split
    all_goals first | rfl | (simp only [zfv, hj2]) | skip
    exfalso
    have h9 : ∀ j, j < 65 → zkd j = 0 ∨ zkd j = 1 ∨ zkd j = 2 ∨ zkd j = 3 ∨ zkd j = 4 := by decide +kernel
    rcases h9 j (by have : ¬ 65 ≤ j := hq; omega) with q | q | q | q | q <;> contradiction
theorem zws_in {A : Nat} (hM : zMF A) : ∀ w ∈ zws A, w ∈ zTB := fun w hw => by
  rcases List.mem_cons.mp hw with rfl | hw
  · exact hM.1
  · exact hw
theorem zws_good {A : Nat} (hM : zMF A) : GoodIn zTB (zws A) := fun w hw => ⟨zws_in hM w hw, good_of_word (zTB_good w (zws_in hM w hw))⟩
theorem zmax32 {x y : Int} (hx : zI x) (hy : zI y) : (if Int32.ofInt x < Int32.ofInt y then Int32.ofInt y else Int32.ofInt x) = Int32.ofInt (max x y) ∧ zI (max x y) := by
  simp only [zlt hx hy]
  have h1 := hx.1; have h2 := hx.2; have h3 := hy.1; have h4 := hy.2
  refine ⟨?_, by unfold zI; omega⟩
  split
  · congr 1; omega
  · congr 1; omega
theorem zcase_at {pc : Nat} {J : Nat → Prop} {v : Int} : ∀ (offs : List Int) (lo : Int) (k : Nat) (o : Int), zcase pc J v lo offs → offs[k]? = some o → v = lo + (k : Int) → J ((pc : Int) + o).toNat
  | [], lo, k, o, _, h, _ => by simp at h
  | a :: l, lo, 0, o, hz, h, hv => by
    simp at h
    subst h
    exact hz.1 (by simpa using hv)
  | a :: l, lo, k + 1, o, hz, h, hv => zcase_at l (lo + 1) k o hz.2 (by simpa using h) (by rw [hv]; push_cast; omega)
section ZC
variable {p : Program} {l : Launch} {e : Env} {Rm : Room} {s : State} {m : MethodId} {args : Array Value} {below : List Frame} {meth : Method} {c : Code} {H : Heap} {locs : List Loc} {cells slots : Nat} {Q : State → Prop}
/-- the world behind a call -/
theorem zcall {D : va_G} {ad : Nat → Nat} {ct : Nat → ClassId} {AA : Nat → Prop} {σ : zS} {pc : Nat} {ls : Array Slot} {st0 rest : List Value} {r : Option FieldType} {Rc : Int → zS → Prop}
    (hr : va_Run p l e Rm s m args below meth c H locs cells slots 0 0 (F0 m pc ls st0) rest (fun st oc t => (∃ (v : Int) (u : zS), oc = .returned (zRv r v) ∧ (Rc v u ∧ zWF u ∧ zRok r v) ∧ zWD D ad ct u (va_A (zwl ad ct σ) H.size) t) ∧ va_F (va_A (zwl ad ct σ) H.size) st t) (va_A (zwl ad ct σ) H.size))
    (wo : zWo D ad ct AA s σ H locs) (hA : ∀ q, s.heap.size ≤ q → AA q)
    (kk : ∀ (v : Int) (u : zS) (H1 : Heap) (locs1 : List Loc), Rc v u → zWF u → zRok r v → zWo D ad ct AA s u H1 locs1 → W p l e Rm s m args below meth c H1 locs1 cells slots Q (F0 m (pc + 3) ls ((zRv r v).toList ++ rest))) : W p l e Rm s m args below meth c H locs cells slots Q (F0 m pc ls st0) := by
  have hF : ∀ q, va_A (zwl ad ct σ) H.size q → AA q := by
    intro q hq
    rcases hq with ⟨k, x, h⟩ | h
    · exact wo.2.1.2 k (q, x) h
    · exact hA q (Nat.le_trans wo.2.2.1 h)
  intro T hT X
  obtain ⟨v0, st₀, t, T', L, h0, X', hL, e1, e2, ⟨⟨v, u, hv, hp, hb⟩, hz, hk⟩, st⟩ := hr T hT X
  cases hv
  rw [h0] at hz hk
  have wo1 : zWo D ad ct AA s u T'.heap (locs ++ L) := by
    refine ⟨by rw [e1]; exact hb.1, hb.2.2.1.weaken (fun _ _ _ h => hF _ h), Nat.le_trans wo.2.2.1 (by rw [e1]; exact hz), fun q h1 h2 => ?_, fun q hq => ?_⟩
    · rw [e1, hk q (Nat.lt_of_lt_of_le h1 wo.2.2.1) (fun z => h2 (hF q z))]
      exact wo.2.2.2.1 q h1 h2
    · rcases List.mem_append.mp hq with h | h
      · exact wo.2.2.2.2 q h
      · exact hF _ (hL q h)
  obtain ⟨t2, a1, b1⟩ := kk v u T'.heap (locs ++ L) hp.1 hp.2.1 hp.2.2 wo1 T' rfl X'
  exact ⟨t2, st t2 a1, b1⟩
end ZC
section ZS
variable {i : Nat} {X : zX} {R : Int → zS → Prop} {nx : zL → List zV → zS → Prop} {J : Nat → zL → List zV → zS → Prop} {pc n A B : Nat} {C : Int} {L : zL} {st : List zV} {σ : zS}
set_option maxHeartbeats 1000000 in
theorem zs_getfield {j : Nat} (hc : zchk i (pc, n, .getfield j, A, B, C) = true) (hn : zHn i X R n nx) (hJ : zHJ i X R J) (h : zstep X R nx J pc (.getfield j) A B C L st σ) : zRuns i X R pc L st σ := by
  obtain ⟨hdg, hnx, hax⟩ := zchk_ok hc
  simp only [zlen] at hdg hnx
  subst hnx
  simp only [zstep] at h
  intro hw hL hs p l e s m args below meth c D ad ct AA H locs ls cells slots Q fx en wo lo
  have fx0 := fx
  obtain ⟨hx, hb, hml, hown, hts, hK, hnw, hA, hce, hsl, hsc⟩ := fx
  simp only [zaux, Bool.and_eq_true, Bool.or_eq_true, decide_eq_true_eq] at hax
  obtain ⟨jj, hC, hA1, hkd, hcn, hjj, hft, hlk⟩ := zfl_ok _ hax.1
  dsimp only at hC hA1 hkd hcn hjj hft hlk
  subst hC
  split at h
  next k o st =>
    cases hkA : Nat.beq k A with
    | false => rw [hkA] at h; exact h.elim
    | true =>
      rw [hkA] at h
      simp only [cond_true] at h
      have hkA := Nat.eq_of_beq_eq_true hkA
      subst hkA
      have hne : k ≠ zKR := fun q => by rw [q] at hkd; exact absurd hkd (by decide)
      have hcl := zcf (zcn k) hcn
      have hst : zcv ad (.inr (.inr (k, o))) = .ref (ad k) := by simp only [zcv, zadr_ne hne]
      rw [List.map_cons, hst]
      refine va_get (v := zfv ad σ k jj) hx hb hts hcl.2.1 hown hK wo.1 k (zwl_obj hA1 hkd) hcl.1 jj hjj (hts _ hlk) (fun _ h9 => h9) (by simp [hjj]) hdg ?_
      rcases B with _ | _ | t
      · have hz : zlg k (jj : Int) = false := by rcases hax.2 with q | q; exact absurd q (by omega); exact q
        rw [show zfv ad σ k jj = .int (Int32.ofInt (σ k jj)) by simp only [zfv, hft]]
        exact hn _ _ _ h hw hL (zs2 (v := .inl (σ k jj)) (hw.i hz) (zs1 hs).2) p l e s m args below meth c D ad ct AA H locs ls cells slots Q fx0 en wo lo
      · rw [show zfv ad σ k jj = .long (Int64.ofInt (σ k jj)) by simp only [zfv, hft]]
        exact hn _ _ _ h hw hL (zs2 (v := .inr (.inl (σ k jj))) (hw k jj).1 (zs1 hs).2) p l e s m args below meth c D ad ct AA H locs ls cells slots Q fx0 en wo lo
      · rw [show zfv ad σ k jj = .ref (zadr ad t 0) by simp only [zfv, hft, zadr_0]]
        exact hn _ _ _ h hw hL (zs2 (v := .inr (.inr (t, 0))) (fun _ => ⟨0, by omega, rfl⟩) (zs1 hs).2) p l e s m args below meth c D ad ct AA H locs ls cells slots Q fx0 en wo lo
  next => exact h.elim
theorem zfv_set {ad : Nat → Nat} {σ : zS} {k jj : Nat} {v : Int} {x : Value} {N : Nat} (hv : zfv ad (zup σ k jj v) k jj = x) : ((List.range N).map (fun j => zfv ad σ k j)).set jj x = (List.range N).map (fun j => zfv ad (zup σ k jj v) k j) := by
  apply List.ext_getElem?
  intro j
  by_cases hl : j < N
  · by_cases hj : j = jj
    · subst hj
      rw [List.getElem?_set_self (by simpa using hl), List.getElem?_map, List.getElem?_range hl, Option.map_some, hv]
    · rw [List.getElem?_set_ne (Ne.symm hj), List.getElem?_map, List.getElem?_map, List.getElem?_range hl]
      have h1 : zup σ k jj v k j = σ k j := by rw [zup_at, if_neg (by omega)]
      simp only [Option.map_some, zfv, h1]
  · rw [List.getElem?_eq_none (by simp; omega), List.getElem?_eq_none (by simp; omega)]
set_option maxHeartbeats 1000000 in
theorem zs_putfield {j : Nat} (hc : zchk i (pc, n, .putfield j, A, B, C) = true) (hn : zHn i X R n nx) (hJ : zHJ i X R J) (h : zstep X R nx J pc (.putfield j) A B C L st σ) : zRuns i X R pc L st σ := by
  obtain ⟨hdg, hnx, hax⟩ := zchk_ok hc
  simp only [zlen] at hdg hnx
  subst hnx
  simp only [zstep] at h
  intro hw hL hs p l e s m args below meth c D ad ct AA H locs ls cells slots Q fx en wo lo
  have fx0 := fx
  obtain ⟨hx, hb, hml, hown, hts, hK, hnw, hA, hce, hsl, hsc⟩ := fx
  simp only [zaux, Bool.and_eq_true, Bool.or_eq_true, decide_eq_true_eq] at hax
  obtain ⟨jj, hC, hA1, hkd, hcn, hjj, hft, hlk⟩ := zfl_ok _ hax.1.1
  dsimp only at hC hA1 hkd hcn hjj hft hlk
  subst hC
  split at h
  next v k o st =>
    cases hkA : Nat.beq k A with
    | false => rw [hkA] at h; exact h.elim
    | true =>
      cases hB : Nat.beq B 0 with
      | false => rw [hkA, hB] at h; exact h.elim
      | true =>
        rw [hkA, hB] at h
        simp only [Bool.and_self, cond_true] at h
        have hkA := Nat.eq_of_beq_eq_true hkA
        have hB := Nat.eq_of_beq_eq_true hB
        subst hkA
        subst hB
        have hne : k ≠ zKR := fun q => by rw [q] at hkd; exact absurd hkd (by decide)
        have hcl := zcf (zcn k) hcn
        have hk10 : k < 10 := by
          have h9 : ∀ k, k < 73 → zkd k = 4 → k < 10 := by decide +kernel
          exact h9 k hA1 hkd
        have hty : zTy (zcn k) jj = .int := (zft_ty k hk10 jj hjj).1 hft
        have hst : zcv ad (.inr (.inr (k, o))) = .ref (ad k) := by simp only [zcv, zadr_ne hne]
        rw [List.map_cons, List.map_cons, hst]
        refine va_put (ty := .int) (v := .int (Int32.ofInt v)) hx hb hts hcl.2.1 (zTy (zcn k)) hcl.2.2.2 hcl.2.2.1 hown hK wo.1 wo.2.1 wo.2.2 k (zwl_obj hA1 hkd) hcl.1 jj hjj (hts _ hlk) (fun _ h9 => h9) (by simpa using hax.2) (by rw [hcl.2.2.2 jj hjj, hty]) rfl rfl (by simp [hjj]) hdg (fun H1 locs1 hP1 hD1 hS1 => ?_)
        rw [zwl_up (i := jj) (v := v) hA1 hne (by simp only [zcel, hkd]; rw [zfv_set (v := v) (by simp only [zfv, hft, zup_at, if_pos])])] at hP1 hD1
        exact hn _ _ _ h (hw.up (v := v) (zIJ (zs1 hs).1) (fun _ => (zs1 hs).1)) hL (zs1 (zs1 hs).2).2 p l e s m args below meth c D ad ct AA H1 locs1 ls cells slots Q fx0 en ⟨hP1, hD1, hS1⟩ lo
  next v k o st =>
    cases hkA : Nat.beq k A with
    | false => rw [hkA] at h; exact h.elim
    | true =>
      cases hB : Nat.beq B 1 with
      | false => rw [hkA, hB] at h; exact h.elim
      | true =>
        rw [hkA, hB] at h
        simp only [Bool.and_self, cond_true] at h
        have hkA := Nat.eq_of_beq_eq_true hkA
        have hB := Nat.eq_of_beq_eq_true hB
        subst hkA
        subst hB
        have hne : k ≠ zKR := fun q => by rw [q] at hkd; exact absurd hkd (by decide)
        have hcl := zcf (zcn k) hcn
        have hk10 : k < 10 := by
          have h9 : ∀ k, k < 73 → zkd k = 4 → k < 10 := by decide +kernel
          exact h9 k hA1 hkd
        have hty : zTy (zcn k) jj = .long := (zft_ty k hk10 jj hjj).2 hft
        have hst : zcv ad (.inr (.inr (k, o))) = .ref (ad k) := by simp only [zcv, zadr_ne hne]
        rw [List.map_cons, List.map_cons, hst]
        refine va_put (ty := .long) (v := .long (Int64.ofInt v)) hx hb hts hcl.2.1 (zTy (zcn k)) hcl.2.2.2 hcl.2.2.1 hown hK wo.1 wo.2.1 wo.2.2 k (zwl_obj hA1 hkd) hcl.1 jj hjj (hts _ hlk) (fun _ h9 => h9) (by simpa using hax.2) (by rw [hcl.2.2.2 jj hjj, hty]) rfl rfl (by simp [hjj]) hdg (fun H1 locs1 hP1 hD1 hS1 => ?_)
        rw [zwl_up (i := jj) (v := v) hA1 hne (by simp only [zcel, hkd]; rw [zfv_set (v := v) (by simp only [zfv, hft, zup_at, if_pos])])] at hP1 hD1
        exact hn _ _ _ h (hw.up (v := v) ((zs1 hs).1) (fun q => absurd (hax.1.2.symm.trans q) (by decide))) hL (zs1 (zs1 hs).2).2 p l e s m args below meth c D ad ct AA H1 locs1 ls cells slots Q fx0 en ⟨hP1, hD1, hS1⟩ lo
  next => exact h.elim
end ZS
end
section
/-! arrays, switches, returns, calls -/
section ZS
variable {i : Nat} {X : zX} {R : Int → zS → Prop} {nx : zL → List zV → zS → Prop} {J : Nat → zL → List zV → zS → Prop} {pc n A B : Nat} {C : Int} {L : zL} {st : List zV} {σ : zS}
theorem zcast {x : Int} (h : 0 ≤ x) : ((x.toNat : Nat) : Int) = x := Int.toNat_of_nonneg h
theorem zln_lt {k : Nat} {x : Int} (h0 : 0 ≤ x) (h : x < zln k) : x < ((zln k).toNat : Nat) := by rw [zcast (zln_r k).1]; exact h
theorem zrow_lt {r : Nat} {x : Int} (hr : r < 8) (h0 : 0 ≤ x) (h : x < 80) : zlg zKR (80 * (r : Int) + x) = false := rfl
theorem zWF.row {σ : zS} (h : zWF σ) (x : Int) : zI (σ zKR x) := h.i rfl
theorem zwl_up0 {ad : Nat → Nat} {ct : Nat → ClassId} {σ : zS} {k : Nat} {x v : Int} (hk : zkd k = 0) (h0 : 0 ≤ x) (hx : zI x) : (zwl ad ct σ).set k (ad k, .inl (ct 0, (zln k).toNat, .inl (upd (fun j => Int32.ofInt (σ k j)) (Int32.ofInt x).toNatClampNeg (Int32.ofInt v)))) = zwl ad ct (zup σ k x v) := by
  refine zwl_up (zkd_lt (by rw [hk]; decide)) (fun q => by rw [q] at hk; exact absurd hk (by decide)) ?_
  simp only [zcel, hk]
  congr 4
  funext j
  rw [zclamp hx]
  simp only [upd, zup_at]
  by_cases e : j = x.toNat
  · rw [if_pos e, if_pos (by rw [e, zcast h0])]
  · rw [if_neg e, if_neg (fun q => e (by rw [← q]; rfl))]
theorem zwl_up1 {ad : Nat → Nat} {ct : Nat → ClassId} {σ : zS} {k : Nat} {x v : Int} (hk : zkd k = 1) (h0 : 0 ≤ x) (hx : zI x) (hv : v = 0 ∨ v = 1) : (zwl ad ct σ).set k (ad k, .inl (ct 1, (zln k).toNat, .inl (upd (fun j => Int32.ofInt (σ k j)) (Int32.ofInt x).toNatClampNeg (vp_nar .boolean (Int32.ofInt v))))) = zwl ad ct (zup σ k x v) := by
  have hn : vp_nar .boolean (Int32.ofInt v) = Int32.ofInt v := by rcases hv with rfl | rfl <;> rfl
  rw [hn]
  refine zwl_up (zkd_lt (by rw [hk]; decide)) (fun q => by rw [q] at hk; exact absurd hk (by decide)) ?_
  simp only [zcel, hk]
  congr 4
  funext j
  rw [zclamp hx]
  simp only [upd, zup_at]
  by_cases e : j = x.toNat
  · rw [if_pos e, if_pos (by rw [e, zcast h0])]
  · rw [if_neg e, if_neg (fun q => e (by rw [← q]; rfl))]
theorem zwl_up2 {ad : Nat → Nat} {ct : Nat → ClassId} {σ : zS} {k : Nat} {x v : Int} (hk : zkd k = 2) (h0 : 0 ≤ x) (hx : zI x) : (zwl ad ct σ).set k (ad k, .inl (ct 2, (zln k).toNat, .inr (.inl (vp_updL (fun j => Int64.ofInt (σ k j)) (Int32.ofInt x).toNatClampNeg (Int64.ofInt v))))) = zwl ad ct (zup σ k x v) := by
  refine zwl_up (zkd_lt (by rw [hk]; decide)) (fun q => by rw [q] at hk; exact absurd hk (by decide)) ?_
  simp only [zcel, hk]
  congr 5
  funext j
  rw [zclamp hx]
  simp only [vp_updL, zup_at]
  by_cases e : j = x.toNat
  · rw [if_pos e, if_pos (by rw [e, zcast h0])]
  · rw [if_neg e, if_neg (fun q => e (by rw [← q]; rfl))]
theorem zrw_upd {σ : zS} {r : Nat} {x v : Int} (h0 : 0 ≤ x) (h1 : x < 80) (hx : zI x) : upd (zrw σ r) (Int32.ofInt x).toNatClampNeg (Int32.ofInt v) = zrw (zup σ zKR (80 * (r : Int) + x) v) r := by
  funext j
  rw [zclamp hx]
  simp only [upd, zrw, zup_at]
  by_cases e : j = x.toNat
  · rw [if_pos e, if_pos (by omega), if_pos (by omega)]
  · rw [if_neg e]
    by_cases f : j < 80
    · rw [if_pos f, if_pos f, if_neg (by omega)]
    · rw [if_neg f, if_neg f]
theorem zwl_up5 {ad : Nat → Nat} {ct : Nat → ClassId} {σ : zS} {r : Nat} {x v : Int} (hr : r < 8) (h0 : 0 ≤ x) (h1 : x < 80) (hx : zI x) : (zwl ad ct σ).set (zKR + r) (ad (zKR + r), .inl (ct 0, 80, .inl (upd (zrw σ r) (Int32.ofInt x).toNatClampNeg (Int32.ofInt v)))) = zwl ad ct (zup σ zKR (80 * (r : Int) + x) v) := by
  refine zwl_upr hr (zrw_upd h0 h1 hx) (fun k hk => zup_ne hk) (fun q hq hne => ?_)
  funext j
  simp only [zrw, zup_at]
  by_cases f : j < 80
  · rw [if_pos f, if_pos f, if_neg (by omega)]
  · rw [if_neg f, if_neg f]
theorem zwl_cp {ad : Nat → Nat} {ct : Nat → ClassId} {σ : zS} {r1 r2 : Nat} {x y z : Int} (hr : r2 < 8) (hx : 0 ≤ x) (hy : 0 ≤ y) (hz : 0 ≤ z) (h1 : x + z ≤ 80) (h2 : y + z ≤ 80) (ix : zI x) (iy : zI y) (iz : zI z) : (zwl ad ct σ).set (zKR + r2) (ad (zKR + r2), .inl (ct 0, 80, .inl (va_cpy (zrw σ r1) (zrw σ r2) (Int32.ofInt x).toNatClampNeg (Int32.ofInt y).toNatClampNeg (Int32.ofInt z).toNatClampNeg))) = zwl ad ct (zcp σ zKR (80 * (r1 : Int) + x) zKR (80 * (r2 : Int) + y) z) := by
  rw [zclamp ix, zclamp iy, zclamp iz]
  refine zwl_upr hr ?_ (fun k hk => ?_) (fun q hq hne => ?_)
  · funext j
    simp only [va_cpy, zrw, zcp]
    by_cases e : y.toNat ≤ j ∧ j < y.toNat + z.toNat
    · rw [if_pos e, if_pos (by omega), if_pos (by omega), if_pos ⟨trivial, by omega, by omega⟩]
      congr 2
      omega
    · rw [if_neg e]
      by_cases f : j < 80
      · rw [if_pos f, if_pos f, if_neg (by omega)]
      · rw [if_neg f, if_neg f]
  · funext j
    exact if_neg (fun q => hk q.1)
  · funext j
    simp only [zrw, zcp]
    by_cases f : j < 80
    · rw [if_pos f, if_pos f, if_neg (by omega)]
    · rw [if_neg f, if_neg f]
theorem zWF.cp {σ : zS} (h : zWF σ) {x y z : Int} : zWF (zcp σ zKR x zKR y z) := by
  intro k q
  unfold zcp
  split
  next e => rw [e.1]; exact ⟨(h _ _).1, fun _ => (h _ _).2 rfl⟩
  next => exact h _ _
set_option maxHeartbeats 1000000 in
theorem zs_iaload (hc : zchk i (pc, n, .iaload, A, B, C) = true) (hn : zHn i X R n nx) (hJ : zHJ i X R J) (h : zstep X R nx J pc (.iaload) A B C L st σ) : zRuns i X R pc L st σ := by
  obtain ⟨hdg, hnx, hax⟩ := zchk_ok hc
  simp only [zlen] at hdg hnx
  subst hnx
  simp only [zstep] at h
  intro hw hL hs p l e s m args below meth c D ad ct AA H locs ls cells slots Q fx en wo lo
  have fx0 := fx
  obtain ⟨hx, hb, hml, hown, hts, hK, hnw, hA, hce, hsl, hsc⟩ := fx
  split at h
  next x k o st =>
    have hX : zI x := (zs1 hs).1
    split at h
    next hk =>
      have hne : k ≠ zKR := fun q => by rw [q] at hk; exact absurd hk (by decide)
      have hst : zcv ad (.inr (.inr (k, o))) = .ref (ad k) := by simp only [zcv, zadr_ne hne]
      rw [List.map_cons, List.map_cons, hst]
      refine va_iald hx hb hK wo.1 k 0 (zwl_ia hk) rfl (zvin hX h.1.1 (zln_lt h.1.1 h.1.2)) hdg ?_
      rw [zclamp hX, zcast h.1.1]
      exact hn _ _ _ h.2 hw hL (zs2 (v := .inl _) (hw.i (zlg_0 (by rw [hk]; decide) (by rw [hk]; decide))) (zs1 (zs1 hs).2).2) p l e s m args below meth c D ad ct AA H locs ls cells slots Q fx0 en wo lo
    next hk =>
      have hkr := zkd5 hk
      subst hkr
      obtain ⟨r, hr, rfl⟩ := (zs1 (zs1 hs).2).1 rfl
      have hst : zcv ad (.inr (.inr (zKR, 80 * (r : Int)))) = .ref (ad (zKR + r)) := by simp only [zcv, zadr_r]
      rw [List.map_cons, List.map_cons, hst]
      refine va_iald hx hb hK wo.1 (zKR + r) 0 (zwl_ra hr) rfl (zvin hX h.1.1 (by have := h.1.2; omega)) hdg ?_
      rw [zclamp hX]
      simp only [zrw]
      rw [if_pos (by have := h.1.2; omega), zcast h.1.1]
      exact hn _ _ _ h.2 hw hL (zs2 (v := .inl _) (hw.row _) (zs1 (zs1 hs).2).2) p l e s m args below meth c D ad ct AA H locs ls cells slots Q fx0 en wo lo
    next hk =>
      cases hk9 : Nat.beq k 1000 with
      | false => rw [hk9] at h; exact h.elim
      | true =>
        rw [hk9] at h
        simp only [cond_true] at h
        have hk9 := Nat.eq_of_beq_eq_true hk9
        subst hk9
        have hst : zcv ad (.inr (.inr (1000, o))) = .ref (ad 1000) := by simp only [zcv, zadr_ne (show (1000 : Nat) ≠ zKR by decide)]
        rw [List.map_cons, List.map_cons, hst]
        obtain ⟨len, xs, hX1, hX2, hX3, hX4, hX5, hX6⟩ := hsc (by have := h.1.1; have := h.1.2; omega)
        have hlt : x.toNat < len := by have := h.1.1; have := h.1.2; omega
        refine va_sld hx hb hX1 hX2 hX3 wo.2.2 (zvin hX h.1.1 (by have := h.1.2; omega)) hdg ?_
        rw [zclamp hX]
        have e1 : xs x.toNat = Int32.ofInt (X.2 x) := by
          have := hX6 x.toNat hlt
          rw [zcast h.1.1] at this
          rw [this, Int32.ofInt_toInt]
        have e2 : zI (X.2 x) := by
          have := hX6 x.toNat hlt
          rw [zcast h.1.1] at this
          rw [this]; exact zI_of _
        rw [e1]
        exact hn _ _ _ h.2 hw hL (zs2 (v := .inl _) e2 (zs1 (zs1 hs).2).2) p l e s m args below meth c D ad ct AA H locs ls cells slots Q fx0 en wo lo
    next => exact h.elim
  next => exact h.elim
set_option maxHeartbeats 1000000 in
theorem zs_baload (hc : zchk i (pc, n, .baload, A, B, C) = true) (hn : zHn i X R n nx) (hJ : zHJ i X R J) (h : zstep X R nx J pc (.baload) A B C L st σ) : zRuns i X R pc L st σ := by
  obtain ⟨hdg, hnx, hax⟩ := zchk_ok hc
  simp only [zlen] at hdg hnx
  subst hnx
  simp only [zstep] at h
  intro hw hL hs p l e s m args below meth c D ad ct AA H locs ls cells slots Q fx en wo lo
  have fx0 := fx
  obtain ⟨hx, hb, hml, hown, hts, hK, hnw, hA, hce, hsl, hsc⟩ := fx
  split at h
  next x k o st =>
    have hX : zI x := (zs1 hs).1
    split at h
    next hk =>
      have hne : k ≠ zKR := fun q => by rw [q] at hk; exact absurd hk (by decide)
      have hst : zcv ad (.inr (.inr (k, o))) = .ref (ad k) := by simp only [zcv, zadr_ne hne]
      rw [List.map_cons, List.map_cons, hst]
      refine va_zald hx hb hK wo.1 k 1 (zwl_za hk) rfl (zvin hX h.1.1 (zln_lt h.1.1 h.1.2)) hdg ?_
      rw [zclamp hX, zcast h.1.1]
      exact hn _ _ _ h.2 hw hL (zs2 (v := .inl _) (hw.i (zlg_0 (by rw [hk]; decide) (by rw [hk]; decide))) (zs1 (zs1 hs).2).2) p l e s m args below meth c D ad ct AA H locs ls cells slots Q fx0 en wo lo
    next => exact h.elim
  next => exact h.elim
set_option maxHeartbeats 1000000 in
theorem zs_laload (hc : zchk i (pc, n, .laload, A, B, C) = true) (hn : zHn i X R n nx) (hJ : zHJ i X R J) (h : zstep X R nx J pc (.laload) A B C L st σ) : zRuns i X R pc L st σ := by
  obtain ⟨hdg, hnx, hax⟩ := zchk_ok hc
  simp only [zlen] at hdg hnx
  subst hnx
  simp only [zstep] at h
  intro hw hL hs p l e s m args below meth c D ad ct AA H locs ls cells slots Q fx en wo lo
  have fx0 := fx
  obtain ⟨hx, hb, hml, hown, hts, hK, hnw, hA, hce, hsl, hsc⟩ := fx
  split at h
  next x k o st =>
    have hX : zI x := (zs1 hs).1
    split at h
    next hk =>
      have hne : k ≠ zKR := fun q => by rw [q] at hk; exact absurd hk (by decide)
      have hst : zcv ad (.inr (.inr (k, o))) = .ref (ad k) := by simp only [zcv, zadr_ne hne]
      rw [List.map_cons, List.map_cons, hst]
      refine va_lald hx hb hK wo.1 k 2 (zwl_la hk) rfl (zvin hX h.1.1 (zln_lt h.1.1 h.1.2)) hdg ?_
      rw [zclamp hX, zcast h.1.1]
      exact hn _ _ _ h.2 hw hL (zs2 (v := .inr (.inl _)) (hw _ _).1 (zs1 (zs1 hs).2).2) p l e s m args below meth c D ad ct AA H locs ls cells slots Q fx0 en wo lo
    next => exact h.elim
  next => exact h.elim
set_option maxHeartbeats 1000000 in
theorem zs_aaload (hc : zchk i (pc, n, .aaload, A, B, C) = true) (hn : zHn i X R n nx) (hJ : zHJ i X R J) (h : zstep X R nx J pc (.aaload) A B C L st σ) : zRuns i X R pc L st σ := by
  obtain ⟨hdg, hnx, hax⟩ := zchk_ok hc
  simp only [zlen] at hdg hnx
  subst hnx
  simp only [zstep] at h
  intro hw hL hs p l e s m args below meth c D ad ct AA H locs ls cells slots Q fx en wo lo
  have fx0 := fx
  obtain ⟨hx, hb, hml, hown, hts, hK, hnw, hA, hce, hsl, hsc⟩ := fx
  split at h
  next x k o st =>
    have hX : zI x := (zs1 hs).1
    split at h
    next hk =>
      have hne : k ≠ zKR := fun q => by rw [q] at hk; exact absurd hk (by decide)
      have hst : zcv ad (.inr (.inr (k, o))) = .ref (ad k) := by simp only [zcv, zadr_ne hne]
      rw [List.map_cons, List.map_cons, hst]
      obtain ⟨r, rfl⟩ : ∃ r : Nat, x = (r : Int) := ⟨x.toNat, (zcast h.1.1).symm⟩
      have hr : r < 8 := by have := h.1.2; omega
      have hin : vp_in (Int32.ofInt (r : Int)) 8 := zvin hX h.1.1 h.1.2
      have hlt : (Int32.ofInt (r : Int)).toNatClampNeg < 8 := Nat.not_le.mp fun q => hin (Or.inr q)
      refine W.aald (v := .ref (zadr ad zKR (80 * (r : Int)))) (ty := .array .int) hx hb (wo.1 k _ (zwl_qa hk)) ((hK.2 3 _ rfl).1 8 (fun j => va_rf (if j < 8 then some (ad (zKR + j)) else none))) rfl (fun q => by cases q) (by show ¬ (_ < 0 ∨ (arrV _ _ _).slots.size ≤ _); rw [arrV_size]; exact hin) (by
        show (arrV _ _ _).slots[_]? = _
        rw [arrV_read _ _ hlt, zclamp hX, zadr_r]
        show some (va_rf (if r < 8 then some (ad (zKR + r)) else none)) = _
        rw [if_pos hr]
        rfl) rfl rfl hdg ?_
      exact hn _ _ _ h.2 hw hL (zs2 (v := .inr (.inr (zKR, 80 * (r : Int)))) (fun _ => ⟨r, hr, rfl⟩) (zs1 (zs1 hs).2).2) p l e s m args below meth c D ad ct AA H locs ls cells slots Q fx0 en wo lo
    next => exact h.elim
  next => exact h.elim
set_option maxHeartbeats 1000000 in
theorem zs_arraylength (hc : zchk i (pc, n, .arraylength, A, B, C) = true) (hn : zHn i X R n nx) (hJ : zHJ i X R J) (h : zstep X R nx J pc (.arraylength) A B C L st σ) : zRuns i X R pc L st σ := by
  obtain ⟨hdg, hnx, hax⟩ := zchk_ok hc
  simp only [zlen] at hdg hnx
  subst hnx
  simp only [zstep] at h
  intro hw hL hs p l e s m args below meth c D ad ct AA H locs ls cells slots Q fx en wo lo
  have fx0 := fx
  obtain ⟨hx, hb, hml, hown, hts, hK, hnw, hA, hce, hsl, hsc⟩ := fx
  split at h
  next k o st =>
    split at h
    next hk =>
      have hne : k ≠ zKR := fun q => by rw [q] at hk; exact absurd hk (by decide)
      have hst : zcv ad (.inr (.inr (k, o))) = .ref (ad k) := by simp only [zcv, zadr_ne hne]
      rw [List.map_cons, hst]
      refine va_alen (v := Int32.ofInt (zln k)) hx hb hK wo.1 k 0 (zwl_ia hk) rfl (by show Int32.ofNat (zln k).toNat = _; rw [← Int32.ofInt_eq_ofNat, zcast (zln_r k).1]) hdg ?_
      exact hn _ _ _ h hw hL (zs2 (v := .inl _) ⟨by have := (zln_r k).1; omega, by have := (zln_r k).2; omega⟩ (zs1 hs).2) p l e s m args below meth c D ad ct AA H locs ls cells slots Q fx0 en wo lo
    next hk =>
      have hne : k ≠ zKR := fun q => by rw [q] at hk; exact absurd hk (by decide)
      have hst : zcv ad (.inr (.inr (k, o))) = .ref (ad k) := by simp only [zcv, zadr_ne hne]
      rw [List.map_cons, hst]
      refine va_alen (v := Int32.ofInt (zln k)) hx hb hK wo.1 k 1 (zwl_za hk) rfl (by show Int32.ofNat (zln k).toNat = _; rw [← Int32.ofInt_eq_ofNat, zcast (zln_r k).1]) hdg ?_
      exact hn _ _ _ h hw hL (zs2 (v := .inl _) ⟨by have := (zln_r k).1; omega, by have := (zln_r k).2; omega⟩ (zs1 hs).2) p l e s m args below meth c D ad ct AA H locs ls cells slots Q fx0 en wo lo
    next hk =>
      have hkr := zkd5 hk
      subst hkr
      obtain ⟨r, hr, rfl⟩ := (zs1 hs).1 rfl
      have hst : zcv ad (.inr (.inr (zKR, 80 * (r : Int)))) = .ref (ad (zKR + r)) := by simp only [zcv, zadr_r]
      rw [List.map_cons, hst]
      refine va_alen (v := Int32.ofInt 80) hx hb hK wo.1 (zKR + r) 0 (zwl_ra hr) rfl rfl hdg ?_
      exact hn _ _ _ h hw hL (zs2 (v := .inl _) ⟨by decide, by decide⟩ (zs1 hs).2) p l e s m args below meth c D ad ct AA H locs ls cells slots Q fx0 en wo lo
    next hk =>
      cases hk9 : Nat.beq k 1000 with
      | false => rw [hk9] at h; exact h.elim
      | true =>
        rw [hk9] at h
        simp only [cond_true] at h
        have hk9 := Nat.eq_of_beq_eq_true hk9
        subst hk9
        have hst : zcv ad (.inr (.inr (1000, o))) = .ref (ad 1000) := by simp only [zcv, zadr_ne (show (1000 : Nat) ≠ zKR by decide)]
        rw [List.map_cons, hst]
        obtain ⟨len, xs, hX1, hX2, hX3, hX4, hX5, hX6⟩ := hsc h.1
        refine va_slen hx hb hX1 hX2 hX3 wo.2.2 hdg ?_
        rw [← Int32.ofInt_eq_ofNat, ← hX4]
        exact hn _ _ _ h.2 hw hL (zs2 (v := .inl _) ⟨by omega, by omega⟩ (zs1 hs).2) p l e s m args below meth c D ad ct AA H locs ls cells slots Q fx0 en wo lo
    next => exact h.elim
  next => exact h.elim
set_option maxHeartbeats 1000000 in
theorem zs_iastore (hc : zchk i (pc, n, .iastore, A, B, C) = true) (hn : zHn i X R n nx) (hJ : zHJ i X R J) (h : zstep X R nx J pc (.iastore) A B C L st σ) : zRuns i X R pc L st σ := by
  obtain ⟨hdg, hnx, hax⟩ := zchk_ok hc
  simp only [zlen] at hdg hnx
  subst hnx
  simp only [zstep] at h
  intro hw hL hs p l e s m args below meth c D ad ct AA H locs ls cells slots Q fx en wo lo
  have fx0 := fx
  obtain ⟨hx, hb, hml, hown, hts, hK, hnw, hA, hce, hsl, hsc⟩ := fx
  split at h
  next v x k o st =>
    have hV : zI v := (zs1 hs).1
    have hX : zI x := (zs1 (zs1 hs).2).1
    split at h
    next hk =>
      have hne : k ≠ zKR := fun q => by rw [q] at hk; exact absurd hk (by decide)
      have hst : zcv ad (.inr (.inr (k, o))) = .ref (ad k) := by simp only [zcv, zadr_ne hne]
      rw [List.map_cons, List.map_cons, List.map_cons, hst]
      refine va_iast (x := Int32.ofInt v) hx hb hK wo.1 wo.2.1 wo.2.2 k 0 (zwl_ia hk) rfl (zvin hX h.1.1 (zln_lt h.1.1 h.1.2)) hdg (fun H1 locs1 hP1 hD1 hS1 => ?_)
      rw [zwl_up0 hk h.1.1 hX] at hP1 hD1
      exact hn _ _ _ h.2 (hw.up (zIJ hV) (fun _ => hV)) hL (zs1 (zs1 (zs1 hs).2).2).2 p l e s m args below meth c D ad ct AA H1 locs1 ls cells slots Q fx0 en ⟨hP1, hD1, hS1⟩ lo
    next hk =>
      have hkr := zkd5 hk
      subst hkr
      obtain ⟨r, hr, rfl⟩ := (zs1 (zs1 (zs1 hs).2).2).1 rfl
      have hst : zcv ad (.inr (.inr (zKR, 80 * (r : Int)))) = .ref (ad (zKR + r)) := by simp only [zcv, zadr_r]
      rw [List.map_cons, List.map_cons, List.map_cons, hst]
      refine va_iast (x := Int32.ofInt v) hx hb hK wo.1 wo.2.1 wo.2.2 (zKR + r) 0 (zwl_ra hr) rfl (zvin hX h.1.1 (by have := h.1.2; omega)) hdg (fun H1 locs1 hP1 hD1 hS1 => ?_)
      rw [zwl_up5 hr h.1.1 h.1.2 hX] at hP1 hD1
      exact hn _ _ _ h.2 (hw.up (zIJ hV) (fun _ => hV)) hL (zs1 (zs1 (zs1 hs).2).2).2 p l e s m args below meth c D ad ct AA H1 locs1 ls cells slots Q fx0 en ⟨hP1, hD1, hS1⟩ lo
    next => exact h.elim
  next => exact h.elim
set_option maxHeartbeats 1000000 in
theorem zs_bastore (hc : zchk i (pc, n, .bastore, A, B, C) = true) (hn : zHn i X R n nx) (hJ : zHJ i X R J) (h : zstep X R nx J pc (.bastore) A B C L st σ) : zRuns i X R pc L st σ := by
  obtain ⟨hdg, hnx, hax⟩ := zchk_ok hc
  simp only [zlen] at hdg hnx
  subst hnx
  simp only [zstep] at h
  intro hw hL hs p l e s m args below meth c D ad ct AA H locs ls cells slots Q fx en wo lo
  have fx0 := fx
  obtain ⟨hx, hb, hml, hown, hts, hK, hnw, hA, hce, hsl, hsc⟩ := fx
  split at h
  next v x k o st =>
    have hV : zI v := (zs1 hs).1
    have hX : zI x := (zs1 (zs1 hs).2).1
    split at h
    next hk =>
      have hne : k ≠ zKR := fun q => by rw [q] at hk; exact absurd hk (by decide)
      have hst : zcv ad (.inr (.inr (k, o))) = .ref (ad k) := by simp only [zcv, zadr_ne hne]
      rw [List.map_cons, List.map_cons, List.map_cons, hst]
      refine va_zast (x := Int32.ofInt v) hx hb hK wo.1 wo.2.1 wo.2.2 k 1 (zwl_za hk) rfl (zvin hX h.1.2.1 (zln_lt h.1.2.1 h.1.2.2)) hdg (fun H1 locs1 hP1 hD1 hS1 => ?_)
      rw [zwl_up1 hk h.1.2.1 hX h.1.1] at hP1 hD1
      exact hn _ _ _ h.2 (hw.up (zIJ hV) (fun _ => hV)) hL (zs1 (zs1 (zs1 hs).2).2).2 p l e s m args below meth c D ad ct AA H1 locs1 ls cells slots Q fx0 en ⟨hP1, hD1, hS1⟩ lo
    next => exact h.elim
  next => exact h.elim
set_option maxHeartbeats 1000000 in
theorem zs_lastore (hc : zchk i (pc, n, .lastore, A, B, C) = true) (hn : zHn i X R n nx) (hJ : zHJ i X R J) (h : zstep X R nx J pc (.lastore) A B C L st σ) : zRuns i X R pc L st σ := by
  obtain ⟨hdg, hnx, hax⟩ := zchk_ok hc
  simp only [zlen] at hdg hnx
  subst hnx
  simp only [zstep] at h
  intro hw hL hs p l e s m args below meth c D ad ct AA H locs ls cells slots Q fx en wo lo
  have fx0 := fx
  obtain ⟨hx, hb, hml, hown, hts, hK, hnw, hA, hce, hsl, hsc⟩ := fx
  split at h
  next v x k o st =>
    have hV : zJ v := (zs1 hs).1
    have hX : zI x := (zs1 (zs1 hs).2).1
    split at h
    next hk =>
      have hne : k ≠ zKR := fun q => by rw [q] at hk; exact absurd hk (by decide)
      have hst : zcv ad (.inr (.inr (k, o))) = .ref (ad k) := by simp only [zcv, zadr_ne hne]
      have hlong : ∀ y : Int, zlg k y = true := by
        have h9 : ∀ k, k < 73 → zkd k = 2 → ∀ y : Int, zlg k y = true := by
          intro k h1 h2 y
          have h8 : ∀ k, k < 73 → zkd k = 2 → k = 28 ∨ k = 32 ∨ k = 58 ∨ k = 63 := by decide +kernel
          rcases h8 k h1 h2 with rfl | rfl | rfl | rfl <;> rfl
        exact h9 k (zkd_lt (by rw [hk]; decide)) hk
      rw [List.map_cons, List.map_cons, List.map_cons, hst]
      refine va_last (x := Int64.ofInt v) hx hb hK wo.1 wo.2.1 wo.2.2 k 2 (zwl_la hk) rfl (zvin hX h.1.1 (zln_lt h.1.1 h.1.2)) hdg (fun H1 locs1 hP1 hD1 hS1 => ?_)
      rw [zwl_up2 hk h.1.1 hX] at hP1 hD1
      exact hn _ _ _ h.2 (hw.up hV (fun q => absurd ((hlong x).symm.trans q) (by decide))) hL (zs1 (zs1 (zs1 hs).2).2).2 p l e s m args below meth c D ad ct AA H1 locs1 ls cells slots Q fx0 en ⟨hP1, hD1, hS1⟩ lo
    next => exact h.elim
  next => exact h.elim
set_option maxHeartbeats 1000000 in
theorem zs_tableswitch {d lo0 hi : Int} {offs : Array Int} (hc : zchk i (pc, n, .tableswitch d lo0 hi offs, A, B, C) = true) (hn : zHn i X R n nx) (hJ : zHJ i X R J) (h : zstep X R nx J pc (.tableswitch d lo0 hi offs) A B C L st σ) : zRuns i X R pc L st σ := by
  obtain ⟨hdg, hnx, hax⟩ := zchk_ok hc
  simp only [zlen] at hdg hnx
  subst hnx
  simp only [zstep] at h
  intro hw hL hs p l e s m args below meth c D ad ct AA H locs ls cells slots Q fx en wo lo
  have fx0 := fx
  obtain ⟨hx, hb, hml, hown, hts, hK, hnw, hA, hce, hsl, hsc⟩ := fx
  simp only [zaux, Bool.and_eq_true, decide_eq_true_eq] at hax
  split at h
  next v st =>
    have hV : zI v := (zs1 hs).1
    by_cases hv : v < lo0 ∨ hi < v
    · refine lv_tableOut (tgt := ((pc : Int) + d).toNat) hx hb hdg (by rw [zI_t hV]; exact hv) (zcast hax.1.1).symm ?_
      exact hJ _ _ _ _ (h.2 hv) hw hL (zs1 hs).2 p l e s m args below meth c D ad ct AA H locs ls cells slots Q fx0 en wo lo
    · obtain ⟨q, hq⟩ : ∃ q : Nat, v = lo0 + (q : Int) := ⟨(v - lo0).toNat, by omega⟩
      have hql : q < offs.toList.length := by omega
      have ho : offs[q]? = some (offs.toList[q]) := by rw [← Array.getElem?_toList, List.getElem?_eq_getElem hql]
      have hpos : 0 ≤ (pc : Int) + offs.toList[q] := by
        have := List.all_eq_true.mp hax.1.2 _ (List.getElem_mem hql)
        simpa using this
      refine lv_tableIn (tgt := ((pc : Int) + offs.toList[q]).toNat) hx hb hdg (by rw [zI_t hV]; omega) (by rw [zI_t hV]; omega) (by rw [zI_t hV, show (v - lo0).toNat = q by omega]; exact ho) (zcast hpos).symm ?_
      exact hJ _ _ _ _ (zcase_at _ _ q _ h.1 (List.getElem?_eq_getElem hql) hq) hw hL (zs1 hs).2 p l e s m args below meth c D ad ct AA H locs ls cells slots Q fx0 en wo lo
  next => exact h.elim
theorem zlook_ok {pc : Nat} {J : Nat → Prop} {v d : Int} : ∀ l : List (Int × Int), zlook pc J v l → (zlno v l → J ((pc : Int) + d).toNat) → J ((pc : Int) + Op.lookupswitch.offset l d v).toNat
  | [], _, h => by
    have e : Op.lookupswitch.offset [] d v = d := by first | rfl | simp [Op.lookupswitch.offset]
    rw [e]; exact h trivial
  | (k, o) :: l, hz, h => by
    rw [Op.lookupswitch.offset_cons]
    by_cases e : v = k
    · rw [if_pos e.symm]; exact hz.1 e
    · rw [if_neg (fun q => e q.symm)]; exact zlook_ok l hz.2 (fun q => h ⟨e, q⟩)
theorem zlook_pos {pc : Nat} {v d : Int} (hd : 0 ≤ (pc : Int) + d) : ∀ l : List (Int × Int), (l.all (fun x => decide (0 ≤ (pc : Int) + x.2))) = true → 0 ≤ (pc : Int) + Op.lookupswitch.offset l d v
  | [], _ => by
    have e : Op.lookupswitch.offset [] d v = d := by first | rfl | simp [Op.lookupswitch.offset]
    rw [e]; exact hd
  | (k, o) :: l, h => by
    rw [Op.lookupswitch.offset_cons]
    simp only [List.all_cons, Bool.and_eq_true, decide_eq_true_eq] at h
    split
    · exact h.1
    · exact zlook_pos hd l h.2
set_option maxHeartbeats 1000000 in
theorem zs_lookupswitch {d : Int} {ps : Array (Int × Int)} (hc : zchk i (pc, n, .lookupswitch d ps, A, B, C) = true) (hn : zHn i X R n nx) (hJ : zHJ i X R J) (h : zstep X R nx J pc (.lookupswitch d ps) A B C L st σ) : zRuns i X R pc L st σ := by
  obtain ⟨hdg, hnx, hax⟩ := zchk_ok hc
  simp only [zlen] at hdg hnx
  subst hnx
  simp only [zstep] at h
  intro hw hL hs p l e s m args below meth c D ad ct AA H locs ls cells slots Q fx en wo lo
  have fx0 := fx
  obtain ⟨hx, hb, hml, hown, hts, hK, hnw, hA, hce, hsl, hsc⟩ := fx
  simp only [zaux, Bool.and_eq_true] at hax
  obtain ⟨⟨h7, h8⟩, h9⟩ := hax
  have h7 := of_decide_eq_true h7
  split at h
  next v st =>
    have hV : zI v := (zs1 hs).1
    refine lv_lookup (tgt := ((pc : Int) + Op.lookupswitch.offset ps.toList d v).toNat) hx hb hdg h9 (by rw [zI_t hV]) (zcast (zlook_pos h7 _ h8)).symm ?_
    exact hJ _ _ _ _ (zlook_ok (J := fun t => J t L _ σ) _ h.1 h.2) hw hL (zs1 hs).2 p l e s m args below meth c D ad ct AA H locs ls cells slots Q fx0 en wo lo
  next => exact h.elim
theorem zRv_i {r : Option FieldType} {v : Int} (h : r = some .int ∨ r = some .boolean) : (zRv r v).toList = [Value.int (Int32.ofInt v)] ∧ zri r = .ireturn := by
  rcases h with rfl | rfl <;> exact ⟨rfl, rfl⟩
set_option maxHeartbeats 1000000 in
theorem zs_ireturn (hc : zchk i (pc, n, .ireturn, A, B, C) = true) (hn : zHn i X R n nx) (hJ : zHJ i X R J) (h : zstep X R nx J pc (.ireturn) A B C L st σ) : zRuns i X R pc L st σ := by
  obtain ⟨hdg, hnx, hax⟩ := zchk_ok hc
  simp only [zlen] at hdg hnx
  subst hnx
  simp only [zstep] at h
  intro hw hL hs p l e s m args below meth c D ad ct AA H locs ls cells slots Q fx en wo lo
  have fx0 := fx
  obtain ⟨hx, hb, hml, hown, hts, hK, hnw, hA, hce, hsl, hsc⟩ := fx
  simp only [zaux, Bool.or_eq_true, Bool.and_eq_true, decide_eq_true_eq] at hax
  split at h
  next v =>
    have hV : zI v := (zs1 hs).1
    rcases hax with ⟨hr, rfl⟩ | ⟨hr, rfl⟩
    · have hz := zRv_i (v := v) (Or.inl hr)
      have := en v σ H locs ls pc h hw (by rw [hr]; exact hV) wo (by rw [hz.2]; exact hdg)
      rw [hz.1] at this
      exact this
    · have hz := zRv_i (v := v) (Or.inr hr)
      have := en v σ H locs ls pc h.2 hw (by rw [hr]; exact h.1) wo (by rw [hz.2]; exact hdg)
      rw [hz.1] at this
      exact this
  next => exact h.elim
set_option maxHeartbeats 1000000 in
theorem zs_lreturn (hc : zchk i (pc, n, .lreturn, A, B, C) = true) (hn : zHn i X R n nx) (hJ : zHJ i X R J) (h : zstep X R nx J pc (.lreturn) A B C L st σ) : zRuns i X R pc L st σ := by
  obtain ⟨hdg, hnx, hax⟩ := zchk_ok hc
  simp only [zlen] at hdg hnx
  subst hnx
  simp only [zstep] at h
  intro hw hL hs p l e s m args below meth c D ad ct AA H locs ls cells slots Q fx en wo lo
  have fx0 := fx
  obtain ⟨hx, hb, hml, hown, hts, hK, hnw, hA, hce, hsl, hsc⟩ := fx
  simp only [zaux, decide_eq_true_eq] at hax
  split at h
  next v =>
    have hV : zJ v := (zs1 hs).1
    have := en v σ H locs ls pc h hw (by rw [hax]; exact hV) wo (by rw [hax]; exact hdg)
    rw [hax] at this
    exact this
  next => exact h.elim
set_option maxHeartbeats 1000000 in
theorem zs_return (hc : zchk i (pc, n, .return_, A, B, C) = true) (hn : zHn i X R n nx) (hJ : zHJ i X R J) (h : zstep X R nx J pc (.return_) A B C L st σ) : zRuns i X R pc L st σ := by
  obtain ⟨hdg, hnx, hax⟩ := zchk_ok hc
  simp only [zlen] at hdg hnx
  subst hnx
  simp only [zstep] at h
  intro hw hL hs p l e s m args below meth c D ad ct AA H locs ls cells slots Q fx en wo lo
  have fx0 := fx
  obtain ⟨hx, hb, hml, hown, hts, hK, hnw, hA, hce, hsl, hsc⟩ := fx
  simp only [zaux, decide_eq_true_eq] at hax
  split at h
  next =>
    have := en 0 σ H locs ls pc h hw (by rw [hax]; rfl) wo (by rw [hax]; exact hdg)
    rw [hax] at this
    exact this
  next => exact h.elim
end ZS
end
section
/-! calls; a walk; contracts out of walks -/
section ZS
variable {i : Nat} {X : zX} {R : Int → zS → Prop} {nx : zL → List zV → zS → Prop} {J : Nat → zL → List zV → zS → Prop} {pc n A B : Nat} {C : Int} {L : zL} {st : List zV} {σ : zS}
theorem zcv_vc {r : Option FieldType} {v : Int} {ad : Nat → Nat} (k : Nat) (hk : k % 4 = zrk r) (hv : zRok r v) {rest : List zV} (hrest : ∀ w ∈ rest, zok w) :
    ∃ o : List zV, (zRv r v).toList ++ rest.map (zcv ad) = (o ++ rest).map (zcv ad) ∧ (∀ w ∈ o ++ rest, zok w) ∧ ∀ (Rc : Int → zS → Prop) (u : zS) (nx' : List zV → zS → Prop), Rc v u → (match k % 4 with
    | 0 => ∀ u, Rc 0 u → nx' [] u
    | 1 => ∀ v u, zI v → Rc v u → nx' [.inl v] u
    | _ => ∀ v u, zJ v → Rc v u → nx' [.inr (.inl v)] u) → nx' o u := by
  rw [hk]
  rcases r with _ | ty
  · have hv : v = 0 := hv
    subst hv
    exact ⟨[], rfl, hrest, fun Rc u nx' h1 h2 => h2 u h1⟩
  · by_cases hl : ty = .long
    · subst hl
      exact ⟨[.inr (.inl v)], rfl, zs2 (v := .inr (.inl v)) hv hrest, fun Rc u nx' h1 h2 => h2 v u hv h1⟩
    · have hvI : zI v := by
        cases ty <;> first | exact hv | exact absurd rfl hl | skip
        rcases (show v = 0 ∨ v = 1 from hv) with rfl | rfl <;> exact ⟨by decide, by decide⟩
      have e1 : (zRv (some ty) v).toList = [Value.int (Int32.ofInt v)] := by cases ty <;> first | rfl | exact absurd rfl hl
      have e2 : zrk (some ty) = 1 := by cases ty <;> first | rfl | exact absurd rfl hl
      rw [e1, e2]
      exact ⟨[.inl v], rfl, zs2 (v := .inl v) hvI hrest, fun Rc u nx' h1 h2 => h2 v u hvI h1⟩
theorem zroom_ok {A i : Nat} (h : zroom A i = true) : (zq A).frames + 1 ≤ (zq i).frames ∧ 8 + (zl A + 11) + (zq A).locals ≤ (zq i).locals ∧ (zq A).cells = 0 ∧ (zq A).slots = 0 := by
  simp only [zroom, Bool.and_eq_true, decide_eq_true_eq] at h
  exact ⟨h.1.1, h.1.2, h.2.1, h.2.2⟩
theorem zpre_blind {D : va_G} {ad : Nat → Nat} {ct : Nat → ClassId} {av : List Value} {sz : Nat} : FrameBlind (va_Pc av (fun U => U.heap.size = sz ∧ zWD D ad ct σ (fun _ => True) U)) := by
  intro a U g mk q
  obtain ⟨q0, q1, qP, qK, qD, qN⟩ := q
  exact ⟨q0, q1, qP, va_K.moved (u := U) (U := U.calling g mk a) (Vm.Alike.refl U.vm) qK, qD, zNw.same (u := U) rfl qN⟩
theorem zok_app {pre st : List zV} (h : ∀ w ∈ pre ++ st, zok w) : (∀ w ∈ pre.reverse, zok w) ∧ ∀ w ∈ st, zok w := ⟨fun w hw => h w (List.mem_append_left _ (List.mem_reverse.mp hw)), fun w hw => h w (List.mem_append_right _ hw)⟩
set_option maxHeartbeats 1000000 in
theorem zs_invokevirtual {j : Nat} (hc : zchk i (pc, n, .invokevirtual j, A, B, C) = true) (hn : zHn i X R n nx) (hJ : zHJ i X R J) (h : zstep X R nx J pc (.invokevirtual j) A B C L st σ) : zRuns i X R pc L st σ := by
  obtain ⟨hdg, hnx, hax⟩ := zchk_ok hc
  simp only [zlen] at hdg hnx
  subst hnx
  simp only [zstep] at h
  intro hw hL hs p l e s m args below meth c D ad ct AA H locs ls cells slots Q fx en wo lo
  have fx0 := fx
  obtain ⟨hx, hb, hml, hown, hts, hK, hnw, hA, hce, hsl, hsc⟩ := fx
  simp only [zaux, Bool.and_eq_true, decide_eq_true_eq] at hax
  obtain ⟨⟨⟨⟨⟨⟨hvl, hAlt⟩, hBn⟩, hCk⟩, hC10⟩, hCc⟩, hroom⟩ := hax
  split at h
  next as k o st' hp =>
    cases hk1 : Nat.beq k (C.toNat / 4) with
    | false => rw [hk1] at h; exact h.elim
    | true =>
      cases hk2 : Nat.ble (zsum st') 8 with
      | false => rw [hk1, hk2] at h; exact h.elim
      | true =>
      rw [hk1, hk2] at h
      simp only [Bool.and_self, cond_true] at h
      have hk1 := Nat.eq_of_beq_eq_true hk1
      have hk2 := Nat.le_of_ble_eq_true hk2
      obtain ⟨pre, hpl, hst, has⟩ := zpop_ok B [] st _ _ hp
      rw [List.append_nil] at has
      subst hst
      subst has
      have hk10 : k < 10 := by omega
      obtain ⟨hcn, hkd⟩ := zcn_10 k hk10
      have hne : k ≠ zKR := fun q => by rw [q] at hkd; exact absurd hkd (by decide)
      have hkc : zcn k = zow A := by rw [hk1]; exact hCc
      obtain ⟨hokA, hok1⟩ := zok_app hs
      obtain ⟨hokB, hrest⟩ := zs1 hok1
      have hM := zmf A hAlt
      have hV := zvl_ok _ hvl
      have hrm := zroom_ok hroom
      obtain ⟨Rc, hAM, hcont⟩ := h
      have hMet := hAM hw (zs2 hokB hokA) l D ad ct H.size
      have hst : zcv ad (.inr (.inr (k, o))) = .ref (ad k) := by simp only [zcv, zadr_ne hne]
      have hcl := zcf (zcn k) hcn
      have hrecv := va_recv hK wo.1 hcl.1 (zwl_obj (ad := ad) (ct := ct) (σ := σ) (by show k < 73; omega) hkd)
      have hcb : CallB (zq i) s args (zRn (zow i)) j (zy A) (zb A) (zl A) (zr A) (zws A) (zq A) 0 0 B := callB_of B hts (zws_good hM) rfl hrm.2.2.1 hrm.2.2.2 (hts _ hM.2.1) (hts _ hV.1) ⟨hM.2.2.2.1.1, hM.2.2.2.1.2, by rw [hM.2.2.2.2.1, hBn]⟩ ⟨hrm.1, hrm.2.1⟩
      rw [List.map_append, List.map_cons, hst]
      refine zcall (va_runV (As := pre.reverse.map (zcv ad)) (rest := st'.map (zcv ad)) (C := (zy A).cls) (b := ad k) ⟨hx, hb, hml, hown, hts⟩ hMet ⟨hcb, hts _ hV.2.1, hts _ hV.2.2⟩ ⟨zpre_blind, ?_, fun U hU hWm => ⟨by rw [List.map_cons, hst], by rw [hU], by rw [hU]; exact wo.1, va_K.moved hWm.alike hK, wo.2.1.weaken (fun _ _ _ _ => trivial), hnw.warm hWm⟩⟩ rfl (by simp [hpl]) lo.1 (by simp [List.map_reverse]) (lv_room (by rw [zsum_ok]; exact hk2)) hdg ⟨hce, hsl⟩) wo hA (fun v8 u8 H8 locs8 hR8 hw8 hv8 wo8 => ?_)
      · obtain ⟨cell, r1, r2, r3⟩ := hrecv
        exact ⟨cell, r1, r2, by rw [hM.2.2.2.2.2.1, ← hkc]; exact r3⟩
      · obtain ⟨o9, e9, ok9, f9⟩ := zcv_vc (ad := ad) C.toNat hCk hv8 hrest
        rw [e9]
        exact hn _ _ _ (f9 Rc u8 (fun r u => nx L (r ++ st') u) hR8 hcont) hw8 hL ok9 p l e s m args below meth c D ad ct AA H8 locs8 ls cells slots Q fx0 en wo8 lo
  next => exact h.elim
set_option maxHeartbeats 1000000 in
theorem zs_invokestatic {j : Nat} (hc : zchk i (pc, n, .invokestatic j, A, B, C) = true) (hn : zHn i X R n nx) (hJ : zHJ i X R J) (h : zstep X R nx J pc (.invokestatic j) A B C L st σ) : zRuns i X R pc L st σ := by
  obtain ⟨hdg, hnx, hax⟩ := zchk_ok hc
  simp only [zlen] at hdg hnx
  subst hnx
  simp only [zstep] at h
  intro hw hL hs p l e s m args below meth c D ad ct AA H locs ls cells slots Q fx en wo lo
  have fx0 := fx
  obtain ⟨hx, hb, hml, hown, hts, hK, hnw, hA, hce, hsl, hsc⟩ := fx
  cases h10 : Nat.beq A 9010 with
  | true =>
    rw [h10] at h
    simp only [cond_true] at h
    have hA0 := Nat.eq_of_beq_eq_true h10
    subst hA0
    simp only [zaux, if_pos (show 9010 ≤ 9010 by omega), Bool.and_eq_true, decide_eq_true_eq] at hax
    split at h
    next y x st' =>
      cases hk2 : Nat.ble (zsum st') 8 with
      | false => rw [hk2] at h; exact h.elim
      | true =>
      rw [hk2] at h
      simp only [cond_true] at h
      have hk2 := Nat.le_of_ble_eq_true hk2
      have hq := zmin32 (x := x) (y := y) (zs1 (zs1 hs).2).1 (zs1 hs).1
      refine va_mmin hx hb (hml.trans lo.1.symm) hown (hts _ (zxl_ok _ hax.1.1)) (hts _ zX_min.1) (hts _ zX_init.1) (hts _ zX_min.2) hax.1.2 (by rw [zsum_ok]; have := hax.2; omega) hce hsl hdg ?_
      rw [hq.1]
      exact hn _ _ _ h hw hL (zs2 (v := .inl _) hq.2 (zs1 (zs1 hs).2).2) p l e s m args below meth c D ad ct AA H locs ls cells slots Q fx0 en wo lo
    next => exact h.elim
  | false =>
  rw [h10] at h
  simp only [cond_false] at h
  cases h11 : Nat.beq A 9011 with
  | true =>
    rw [h11] at h
    simp only [cond_true] at h
    have hA0 := Nat.eq_of_beq_eq_true h11
    subst hA0
    simp only [zaux, if_pos (show 9010 ≤ 9011 by omega), Bool.and_eq_true, decide_eq_true_eq] at hax
    split at h
    next y x st' =>
      cases hk2 : Nat.ble (zsum st') 8 with
      | false => rw [hk2] at h; exact h.elim
      | true =>
      rw [hk2] at h
      simp only [cond_true] at h
      have hk2 := Nat.le_of_ble_eq_true hk2
      have hq := zmax32 (x := x) (y := y) (zs1 (zs1 hs).2).1 (zs1 hs).1
      refine va_mmax hx hb (hml.trans lo.1.symm) hown (hts _ (zxl_ok _ hax.1.1)) (hts _ zX_max.1) (hts _ zX_init.1) (hts _ zX_max.2) hax.1.2 (by rw [zsum_ok]; have := hax.2; omega) hce hsl hdg ?_
      rw [hq.1]
      exact hn _ _ _ h hw hL (zs2 (v := .inl _) hq.2 (zs1 (zs1 hs).2).2) p l e s m args below meth c D ad ct AA H locs ls cells slots Q fx0 en wo lo
    next => exact h.elim
  | false =>
  rw [h11] at h
  simp only [cond_false] at h
  cases h12 : Nat.beq A 9012 with
  | true =>
    rw [h12] at h
    simp only [cond_true] at h
    have hA0 := Nat.eq_of_beq_eq_true h12
    subst hA0
    simp only [zaux, if_pos (show 9010 ≤ 9012 by omega), Bool.and_eq_true, decide_eq_true_eq] at hax
    split at h
    next x st' =>
      cases hk2 : Nat.ble (zsum st') 8 with
      | false => rw [hk2] at h; exact h.elim
      | true =>
      rw [hk2] at h
      simp only [cond_true] at h
      have hk2 := Nat.le_of_ble_eq_true hk2
      have hX : zI x := (zs1 hs).1
      have hq : (if 0 ≤ Int32.ofInt x then Int32.ofInt x else 0 - Int32.ofInt x) = Int32.ofInt (if x < 0 then -x else x) ∧ zI (if x < 0 then -x else x) := by
        simp only [zge0 hX]
        by_cases e : x < 0
        · rw [if_neg (show ¬ 0 ≤ x by omega), if_pos e]
          exact ⟨by have h9 := Int32.ofInt_sub 0 x; rw [Int.zero_sub, z00] at h9; exact h9.symm, h.1⟩
        · rw [if_pos (show 0 ≤ x by omega), if_neg e]
          exact ⟨rfl, hX⟩
      refine va_mabs hx hb (hml.trans lo.1.symm) hown (hts _ (zxl_ok _ hax.1.1)) (hts _ zX_abs.1) (hts _ zX_init.1) (hts _ zX_abs.2) hax.1.2 (by rw [zsum_ok]; have := hax.2; omega) hce hsl hdg ?_
      rw [hq.1]
      exact hn _ _ _ h.2 hw hL (zs2 (v := .inl _) hq.2 (zs1 hs).2) p l e s m args below meth c D ad ct AA H locs ls cells slots Q fx0 en wo lo
    next => exact h.elim
  | false =>
  rw [h12] at h
  simp only [cond_false] at h
  cases h13 : Nat.beq A 9013 with
  | true =>
    rw [h13] at h
    simp only [cond_true] at h
    have hA0 := Nat.eq_of_beq_eq_true h13
    subst hA0
    simp only [zaux, if_pos (show 9010 ≤ 9013 by omega), Bool.and_eq_true, decide_eq_true_eq] at hax
    split at h
    next z y k2 o2 x k1 o1 =>
      cases hk1 : Nat.beq k1 zKR with
      | false => rw [hk1] at h; exact h.elim
      | true =>
      cases hk2 : Nat.beq k2 zKR with
      | false => rw [hk1, hk2] at h; exact h.elim
      | true =>
      rw [hk1, hk2] at h
      simp only [Bool.and_self, cond_true] at h
      have hk1 := Nat.eq_of_beq_eq_true hk1
      have hk2 := Nat.eq_of_beq_eq_true hk2
      subst hk1
      subst hk2
      obtain ⟨sz, hs⟩ := zs1 hs
      obtain ⟨sy, hs⟩ := zs1 hs
      obtain ⟨s2, hs⟩ := zs1 hs
      obtain ⟨sx, hs⟩ := zs1 hs
      obtain ⟨s1, hs⟩ := zs1 hs
      have sz : zI z := sz
      have sy : zI y := sy
      have sx : zI x := sx
      obtain ⟨r2, hr2, rfl⟩ := s2 rfl
      obtain ⟨r1, hr1, rfl⟩ := s1 rfl
      have e1 : zcv ad (.inr (.inr (zKR, 80 * (r1 : Int)))) = .ref (ad (zKR + r1)) := by simp only [zcv, zadr_r]
      have e2 : zcv ad (.inr (.inr (zKR, 80 * (r2 : Int)))) = .ref (ad (zKR + r2)) := by simp only [zcv, zadr_r]
      simp only [List.map_cons, List.map_nil, e1, e2]
      refine va_copyi (rest := []) (ty := .int) hx hb (hml.trans lo.1.symm) hown (hts _ (zxl_ok _ hax.1.1)) (hts _ zX_copy.1) (hts _ zX_copy.2) (hts _ zX_init.2) hK wo.1 wo.2.1 wo.2.2 (zKR + r1) (zKR + r2) 0 0 (zwl_ra hr1) (zwl_ra hr2) rfl rfl rfl
        (fun q => by have := (zlt0 sx).mp q; omega) (fun q => by have := (zlt0 sy).mp q; omega) (fun q => by have := (zlt0 sz).mp q; omega) (by rw [zclamp sx, zclamp sz]; omega) (by rw [zclamp sy, zclamp sz]; omega) (fun _ _ => rfl) hax.1.2 (by show 0 + (7 + 11) ≤ _; have := hax.2; omega) hdg (fun H1 locs1 hP1 hD1 hS1 => ?_)
      rw [zwl_cp hr2 h.1.1 h.1.2.1 h.1.2.2.1 h.1.2.2.2.1 h.1.2.2.2.2 sx sy sz] at hP1 hD1
      exact hn _ _ _ h.2 hw.cp hL (fun _ q => absurd q List.not_mem_nil) p l e s m args below meth c D ad ct AA H1 locs1 ls cells slots Q fx0 en ⟨hP1, hD1, hS1⟩ lo
    next => exact h.elim
  | false =>
  rw [h13] at h
  simp only [cond_false] at h
  split at h
  next as st' hp =>
      cases hk2 : Nat.ble (zsum st') 8 with
      | false => rw [hk2] at h; exact h.elim
      | true =>
      rw [hk2] at h
      simp only [cond_true] at h
      have hk2 := Nat.le_of_ble_eq_true hk2
      obtain ⟨pre, hpl, hst, has⟩ := zpop_ok B [] st _ _ hp
      rw [List.append_nil] at has
      subst hst
      subst has
      obtain ⟨hokA, hrest⟩ := zok_app hs
      obtain ⟨Rc, hAM, hcont⟩ := h
      by_cases hge : 9010 ≤ A
      · exfalso
        simp only [zaux, if_pos hge, Bool.and_eq_true, decide_eq_true_eq] at hax
        have h9 : ∀ x ∈ zxl, x.2.2 = 9010 ∨ x.2.2 = 9011 ∨ x.2.2 = 9012 ∨ x.2.2 = 9013 := by decide +kernel
        rcases h9 _ hax.1.1 with q | q | q | q
        · rw [show A = 9010 from q] at h10; exact absurd h10 (by decide)
        · rw [show A = 9011 from q] at h11; exact absurd h11 (by decide)
        · rw [show A = 9012 from q] at h12; exact absurd h12 (by decide)
        · rw [show A = 9013 from q] at h13; exact absurd h13 (by decide)
      simp only [zaux, if_neg hge, Bool.and_eq_true, Bool.or_eq_true, decide_eq_true_eq] at hax
      obtain ⟨⟨⟨⟨hsn, hAlt⟩, hBn⟩, hCk⟩, hroom⟩ := hax
      have hM := zmf A hAlt
      have hrm := zroom_ok hroom
      have hMet := hAM hw hokA l D ad ct H.size
      rw [List.map_append]
      have hps : PreS s H (va_Pc (pre.reverse.map (zcv ad)) (fun U => U.heap.size = H.size ∧ zWD D ad ct σ (fun _ => True) U)) (pre.reverse.map (zcv ad)) := ⟨zpre_blind, fun U hU hWm => ⟨rfl, by rw [hU], by rw [hU]; exact wo.1, va_K.moved hWm.alike hK, wo.2.1.weaken (fun _ _ _ _ => trivial), hnw.warm hWm⟩⟩
      rcases hsn with hsn | hsn
      · have hV := zsl_ok _ hsn
        have hcb : CallB (zq i) s args (zRn (zow i)) j (zy A) (zb A) (zl A) (zr A) (zws A) (zq A) 0 0 B := callB_of B hts (zws_good hM) rfl hrm.2.2.1 hrm.2.2.2 (hts _ hM.2.1) (hts _ hV.1) ⟨hM.2.2.2.1.1, hM.2.2.2.1.2, by rw [hM.2.2.2.2.1, hBn]⟩ ⟨hrm.1, hrm.2.1⟩
        refine zcall (va_runS (As := pre.reverse.map (zcv ad)) (rest := st'.map (zcv ad)) ⟨hx, hb, hml, hown, hts⟩ hMet ⟨hcb, hts _ hV.2⟩ hps rfl (by simp [hpl]) lo.1 (by simp [List.map_reverse]) (lv_room (by rw [zsum_ok]; exact hk2)) hdg ⟨hce, hsl⟩) wo hA (fun v8 u8 H8 locs8 hR8 hw8 hv8 wo8 => ?_)
        obtain ⟨o9, e9, ok9, f9⟩ := zcv_vc (ad := ad) C.toNat hCk hv8 hrest
        rw [e9]
        exact hn _ _ _ (f9 Rc u8 (fun r u => nx L (r ++ st') u) hR8 hcont) hw8 hL ok9 p l e s m args below meth c D ad ct AA H8 locs8 ls cells slots Q fx0 en wo8 lo
      · have hV := znl_ok _ hsn
        have hcb : va_CN (zq i) s args (zRn (zow i)) j (zy A) "PenLines" (zb A) (zl A) (zr A) (zws A) (zq A) 0 0 B := va_cnB B hts (zws_good hM) rfl hrm.2.2.1 hrm.2.2.2 (hnw _ hV.1 rfl) (hts _ hM.2.1) ⟨hM.2.2.2.1.1, hM.2.2.2.1.2, by rw [hM.2.2.2.2.1, hBn]⟩ ⟨hrm.1, hrm.2.1⟩
        refine zcall (va_runSN (As := pre.reverse.map (zcv ad)) (rest := st'.map (zcv ad)) ⟨hx, hb, hml, hown, hts⟩ hMet ⟨hcb, hts _ hV.2, trivial⟩ hps rfl (by simp [hpl]) lo.1 (by simp [List.map_reverse]) (lv_room (by rw [zsum_ok]; exact hk2)) hdg ⟨hce, hsl⟩) wo hA (fun v8 u8 H8 locs8 hR8 hw8 hv8 wo8 => ?_)
        obtain ⟨o9, e9, ok9, f9⟩ := zcv_vc (ad := ad) C.toNat hCk hv8 hrest
        rw [e9]
        exact hn _ _ _ (f9 Rc u8 (fun r u => nx L (r ++ st') u) hR8 hcont) hw8 hL ok9 p l e s m args below meth c D ad ct AA H8 locs8 ls cells slots Q fx0 en wo8 lo
  next => exact h.elim
/-- every step -/
theorem zstep_ok {ins : Instr} (hc : zchk i (pc, n, ins, A, B, C) = true) (hn : zHn i X R n nx) (hJ : zHJ i X R J) (h : zstep X R nx J pc ins A B C L st σ) : zRuns i X R pc L st σ := by
  cases ins
  case iload_n k => exact zs_iload_n hc hn hJ h
  case iload k => exact zs_iload hc hn hJ h
  case lload_n k => exact zs_lload_n hc hn hJ h
  case lload k => exact zs_lload hc hn hJ h
  case aload_n k => exact zs_aload_n hc hn hJ h
  case aload k => exact zs_aload hc hn hJ h
  case istore_n k => exact zs_istore_n hc hn hJ h
  case istore k => exact zs_istore hc hn hJ h
  case lstore_n k => exact zs_lstore_n hc hn hJ h
  case lstore k => exact zs_lstore hc hn hJ h
  case astore_n k => exact zs_astore_n hc hn hJ h
  case astore k => exact zs_astore hc hn hJ h
  case iconst k => exact zs_iconst hc hn hJ h
  case bipush k => exact zs_bipush hc hn hJ h
  case sipush k => exact zs_sipush hc hn hJ h
  case ldc k => exact zs_ldc hc hn hJ h
  case ldc_w k => exact zs_ldc_w hc hn hJ h
  case ldc2_w k => exact zs_ldc2_w hc hn hJ h
  case lconst k => exact zs_lconst hc hn hJ h
  case iinc j k => exact zs_iinc hc hn hJ h
  case iadd => exact zs_iadd hc hn hJ h
  case isub => exact zs_isub hc hn hJ h
  case imul => exact zs_imul hc hn hJ h
  case idiv => exact zs_idiv hc hn hJ h
  case irem => exact zs_irem hc hn hJ h
  case ineg => exact zs_ineg hc hn hJ h
  case iand => exact zs_iand hc hn hJ h
  case i2b => exact zs_i2b hc hn hJ h
  case i2s => exact zs_i2s hc hn hJ h
  case i2l => exact zs_i2l hc hn hJ h
  case l2i => exact zs_l2i hc hn hJ h
  case ladd => exact zs_ladd hc hn hJ h
  case lmul => exact zs_lmul hc hn hJ h
  case land => exact zs_land hc hn hJ h
  case lor => exact zs_lor hc hn hJ h
  case lshl => exact zs_lshl hc hn hJ h
  case lshr => exact zs_lshr hc hn hJ h
  case lushr => exact zs_lushr hc hn hJ h
  case lcmp => exact zs_lcmp hc hn hJ h
  case dup => exact zs_dup hc hn hJ h
  case dup2 => exact zs_dup2 hc hn hJ h
  case pop => exact zs_pop hc hn hJ h
  case goto off => exact zs_goto hc hn hJ h
  case ifCond cd off =>
    cases cd
    · exact zs_if_eq hc hn hJ h
    · exact zs_if_ne hc hn hJ h
    · exact zs_if_lt hc hn hJ h
    · exact zs_if_ge hc hn hJ h
    · exact zs_if_gt hc hn hJ h
    · exact zs_if_le hc hn hJ h
  case if_icmp cd off =>
    cases cd
    · exact zs_icmp_eq hc hn hJ h
    · exact zs_icmp_ne hc hn hJ h
    · exact zs_icmp_lt hc hn hJ h
    · exact zs_icmp_ge hc hn hJ h
    · exact zs_icmp_gt hc hn hJ h
    · exact zs_icmp_le hc hn hJ h
  case tableswitch d lo hi offs => exact zs_tableswitch hc hn hJ h
  case lookupswitch d ps => exact zs_lookupswitch hc hn hJ h
  case getfield j => exact zs_getfield hc hn hJ h
  case putfield j => exact zs_putfield hc hn hJ h
  case iaload => exact zs_iaload hc hn hJ h
  case baload => exact zs_baload hc hn hJ h
  case laload => exact zs_laload hc hn hJ h
  case aaload => exact zs_aaload hc hn hJ h
  case arraylength => exact zs_arraylength hc hn hJ h
  case iastore => exact zs_iastore hc hn hJ h
  case bastore => exact zs_bastore hc hn hJ h
  case lastore => exact zs_lastore hc hn hJ h
  case ireturn => exact zs_ireturn hc hn hJ h
  case lreturn => exact zs_lreturn hc hn hJ h
  case return_ => exact zs_return hc hn hJ h
  case invokevirtual j => exact zs_invokevirtual hc hn hJ h
  case invokestatic j => exact zs_invokestatic hc hn hJ h
  all_goals exact h.elim
theorem zRuns.mask {m : List Bool} (h : zRuns i X R pc (zmask m L) st σ) : zRuns i X R pc L st σ := by
  intro hw hL hs p l e s m' args below meth c D ad ct AA H locs ls cells slots Q fx en wo lo
  exact h hw (fun k v hk => hL k v (zmask_nth _ _ _ _ hk)) hs p l e s m' args below meth c D ad ct AA H locs ls cells slots Q fx en wo lo.mask
theorem zwS_ok {K : Nat → zL → List zV → zS → Prop} {cut : List (Nat × List Bool)} (hK : zHJ i X R K) (hJ : zHJ i X R J) (code : List zE) : (∀ x ∈ code, zchk i x = true) → (∀ (a b : zE) (r1 r2 : List zE), code = r1 ++ a :: b :: r2 → a.2.1 = b.1) → ∀ (L : zL) (st : List zV) (σ : zS) (x : zE) (rest : List zE), code = x :: rest → zwS X R K J cut code L st σ → zRuns i X R x.1 L st σ := by
  induction code with
  | nil => intro _ _ L st σ x rest he _; cases he
  | cons y code ih =>
    intro hc hj L st σ x rest he h
    obtain ⟨e1, e2⟩ := List.cons.inj he
    rw [← e1]
    clear he e1 e2 x rest
    obtain ⟨pc, n, ins, A, B, C⟩ := y
    refine zstep_ok (hc _ List.mem_cons_self) (fun L st σ h => ?_) hJ h
    split at h
    · exact (hK _ _ _ _ h).mask
    · cases code with
      | nil => exact h.elim
      | cons z rest =>
        have e : n = z.1 := hj (pc, n, ins, A, B, C) z [] rest rfl
        rw [e]
        exact ih (fun x hx => hc x (List.mem_cons_of_mem _ hx)) (fun a b r1 r2 q => hj a b ((pc, n, ins, A, B, C) :: r1) r2 (by rw [q]; rfl)) L st σ z rest rfl h
theorem zdrop_at : ∀ (pc : Nat) (code : List zE) (x : zE) (rest : List zE), zdrop pc code = x :: rest → x.1 = pc ∧ ∃ r, code = r ++ x :: rest
  | pc, [], x, rest, h => by simp [zdrop] at h
  | pc, y :: code, x, rest, h => by
    simp only [zdrop] at h
    cases hb : Nat.beq pc y.1 with
    | true =>
      rw [hb] at h
      simp only [cond_true] at h
      cases h
      exact ⟨(Nat.eq_of_beq_eq_true hb).symm, [], rfl⟩
    | false =>
      rw [hb] at h
      simp only [cond_false] at h
      obtain ⟨h1, r, h2⟩ := zdrop_at pc code x rest h
      exact ⟨h1, y :: r, by rw [h2]; rfl⟩
def zcon : List zE → Bool
  | [] => true
  | [_] => true
  | a :: b :: l => Nat.beq a.2.1 b.1 && zcon (b :: l)
theorem zcon_ok : ∀ (code : List zE), zcon code = true → ∀ (a b : zE) (r1 r2 : List zE), code = r1 ++ a :: b :: r2 → a.2.1 = b.1
  | [], _, a, b, r1, r2, he => by simp at he
  | [y], _, a, b, [], r2, he => by simp at he
  | [y], _, a, b, z :: r1, r2, he => by simp at he
  | x :: y :: l, h, a, b, [], r2, he => by
    simp only [zcon, Bool.and_eq_true] at h
    simp at he
    obtain ⟨rfl, rfl, -⟩ := he
    exact Nat.eq_of_beq_eq_true h.1
  | x :: y :: l, h, a, b, z :: r1, r2, he => by
    simp only [zcon, Bool.and_eq_true] at h
    simp only [List.cons_append, List.cons.injEq] at he
    exact zcon_ok (y :: l) h.2 a b r1 r2 he.2
/-- a method's rows are its own -/
def zMok (i : Nat) (code : List zE) : Prop := (∀ x ∈ code, zchk i x = true) ∧ zcon code = true
theorem zwp_ok {K : Nat → zL → List zV → zS → Prop} {cut : List (Nat × List Bool)} {code : List zE} (hM : zMok i code) (hK : zHJ i X R K) : ∀ (n pc : Nat) (L : zL) (st : List zV) (σ : zS), zwp code X R K cut n pc L st σ → zRuns i X R pc L st σ
  | 0, _, _, _, _, h => h.elim
  | n + 1, pc, L, st, σ, h => by
    simp only [zwp] at h
    cases hd : zdrop pc code with
    | nil => rw [hd] at h; exact h.elim
    | cons x rest =>
      rw [hd] at h
      obtain ⟨hx, r, hr⟩ := zdrop_at pc code x rest hd
      rw [← hx]
      refine zwS_ok hK (fun t L st σ h => ?_) (x :: rest) (fun y hy => hM.1 y (by rw [hr]; exact List.mem_append_right _ hy)) (fun a b r1 r2 q => zcon_ok code hM.2 a b (r ++ r1) r2 (by rw [hr, q, List.append_assoc])) L st σ x rest rfl h
      split at h
      next m hm => exact (hK _ _ _ _ h).mask
      next hm => exact zwp_ok hM hK n t L st σ h
/-- A WALK: from the row pc, with at most n jumps, to the cuts (the walk goes on there), or to the end -/
theorem zwalk {code : List zE} (hM : zMok i code) (cut : List (Nat × List Bool)) (n : Nat) (h : zwp code X R (zRuns i X R) cut n pc L st σ) : zRuns i X R pc L st σ := zwp_ok hM (fun _ _ _ _ h => h) n pc L st σ h
theorem zRuns.wf (h : zWF σ → (∀ k v, znth L k = some (some v) → zok v) → zRuns i X R pc L st σ) : zRuns i X R pc L st σ := fun hw hL hs => h hw hL hw hL hs
end ZS
def zarg : List zV → Nat → zL
  | [], n => List.replicate n none
  | .inr (.inl v) :: as, n => some (.inr (.inl v)) :: none :: zarg as (n - 2)
  | v :: as, n => some v :: zarg as (n - 1)
def zargn : List zV → Nat
  | [] => 0
  | .inr (.inl _) :: as => 2 + zargn as
  | _ :: as => 1 + zargn as
def zX0 : zX := (-1, fun _ => 0)
theorem znth_rep : ∀ (n k : Nat) (w : zV), znth (List.replicate n (none : Option zV)) k = some (some w) → False
  | 0, k, w, h => by simp [znth] at h
  | n + 1, 0, w, h => by simp [znth, List.replicate_succ] at h
  | n + 1, k + 1, w, h => znth_rep n k w (by simpa only [List.replicate_succ, znth] using h)
theorem zarg_in (ad : Nat → Nat) : ∀ (as : List zV) (n b k : Nat) (w : zV), znth (zarg as n) k = some (some w) → (b + k, zcv ad w) ∈ lv_args b (as.map (zcv ad))
  | [], n, b, k, w, h => (znth_rep n k w h).elim
  | .inr (.inl v) :: as, n, b, 0, w, h => by
    simp only [zarg, znth] at h
    cases h
    exact List.mem_cons_self
  | .inr (.inl v) :: as, n, b, 1, w, h => by simp [zarg, znth] at h
  | .inr (.inl v) :: as, n, b, k + 2, w, h => by
    simp only [zarg, znth] at h
    have := zarg_in ad as (n - 2) (b + 2) k w h
    rw [show b + (k + 2) = b + 2 + k by omega]
    exact List.mem_cons_of_mem _ this
  | .inl v :: as, n, b, 0, w, h => by
    simp only [zarg, znth] at h
    cases h
    exact List.mem_cons_self
  | .inl v :: as, n, b, k + 1, w, h => by
    simp only [zarg, znth] at h
    have := zarg_in ad as (n - 1) (b + 1) k w h
    rw [show b + (k + 1) = b + 1 + k by omega]
    exact List.mem_cons_of_mem _ this
  | .inr (.inr v) :: as, n, b, 0, w, h => by
    simp only [zarg, znth] at h
    cases h
    exact List.mem_cons_self
  | .inr (.inr v) :: as, n, b, k + 1, w, h => by
    simp only [zarg, znth] at h
    have := zarg_in ad as (n - 1) (b + 1) k w h
    rw [show b + (k + 1) = b + 1 + k by omega]
    exact List.mem_cons_of_mem _ this
theorem zarg_ok : ∀ (as : List zV) (n k : Nat) (w : zV), znth (zarg as n) k = some (some w) → w ∈ as
  | [], n, k, w, h => (znth_rep n k w h).elim
  | .inr (.inl v) :: as, n, 0, w, h => by simp only [zarg, znth] at h; cases h; exact List.mem_cons_self
  | .inr (.inl v) :: as, n, 1, w, h => by simp [zarg, znth] at h
  | .inr (.inl v) :: as, n, k + 2, w, h => by simp only [zarg, znth] at h; exact List.mem_cons_of_mem _ (zarg_ok as (n - 2) k w h)
  | .inl v :: as, n, 0, w, h => by simp only [zarg, znth] at h; cases h; exact List.mem_cons_self
  | .inl v :: as, n, k + 1, w, h => by simp only [zarg, znth] at h; exact List.mem_cons_of_mem _ (zarg_ok as (n - 1) k w h)
  | .inr (.inr v) :: as, n, 0, w, h => by simp only [zarg, znth] at h; cases h; exact List.mem_cons_self
  | .inr (.inr v) :: as, n, k + 1, w, h => by simp only [zarg, znth] at h; exact List.mem_cons_of_mem _ (zarg_ok as (n - 1) k w h)
theorem zargn_len (ad : Nat → Nat) : ∀ as : List zV, (lg_sl (as.map (zcv ad))).length = zargn as
  | [] => rfl
  | .inr (.inl v) :: as => by
    have := zargn_len ad as
    simp only [lg_sl, List.map_cons, List.flatMap_cons, List.length_append, zargn] at this ⊢
    rw [this]; rfl
  | .inl v :: as => by
    have := zargn_len ad as
    simp only [lg_sl, List.map_cons, List.flatMap_cons, List.length_append, zargn] at this ⊢
    rw [this]; rfl
  | .inr (.inr v) :: as => by
    have := zargn_len ad as
    simp only [lg_sl, List.map_cons, List.flatMap_cons, List.length_append, zargn] at this ⊢
    rw [this]; rfl
/-- A CONTRACT out of the walk of the body -/
theorem zam {i : Nat} {as : List zV} {σ : zS} {R : Int → zS → Prop} (hi : i < zlaw) (hn : zargn as ≤ zl i) (h : zRuns i zX0 R 0 (zarg as (zl i)) [] σ) : zAM i as σ R := by
  intro hw hok l D ad ct sz
  have hM := zmf i hi
  have hq : (zq i).cells = 0 ∧ (zq i).slots = 0 := by
    have : Nat.beq i zlaw = false := by
      cases e : Nat.beq i zlaw with
      | false => rfl
      | true => have := Nat.eq_of_beq_eq_true e; omega
    unfold zq
    rw [this]
    exact ⟨rfl, rfl⟩
  refine Met.ofW (cc := zb i) (maxL := zl i) (ret := zr i) hM.2.2.1 rfl ?_
  intro p e s m args below meth c s₁ B hml hv
  obtain ⟨rfl, hsz, hP, hK, hD0, hN⟩ := hv
  have hts0 := atoms_spec (ws := zws i) B.pre
  have hts : ∀ w ∈ zTB, w.before ((as.map (zcv ad)).toArray) s = true := fun w hw => hts0 w (List.mem_cons_of_mem _ hw)
  have hown : s.vm.findClass (zRn (zow i)) = some m.cls := by rw [← hM.2.2.2.2.2.1]; exact findClass_of_methodNamed B.named
  subst hsz
  have hD := hD0.self (sz := s.heap.size)
  have hl := lv_entry (as.map (zcv ad)) (n := zl i) (by rw [zargn_len]; exact hn)
  rw [lg_entry_eq]
  generalize (lg_sl (as.map (zcv ad)) ++ List.replicate (zl i - (lg_sl (as.map (zcv ad))).length) Slot.unset).toArray = ls at hl ⊢
  have lo : zLo ad ls (zl i) (zarg as (zl i)) := ⟨hl.1, hl.2.1, fun k v hk => by
    have := hl.2.2 _ (zarg_in ad as (zl i) 0 k v hk)
    simpa using this⟩
  refine h hw (fun k v hk => hok v (zarg_ok as _ k v hk)) (fun _ q => absurd q List.not_mem_nil) p l e s m _ below meth c D ad ct (va_A (zwl ad ct σ) s.heap.size) s.heap [] ls 0 0 _ ⟨B.exec, B.bytes, hml, hown, hts, hK, hN, fun q hq => Or.inr hq, by rw [hq.1]; exact Nat.le_refl _, by rw [hq.2]; exact Nat.le_refl _, fun q => absurd q (by decide)⟩ ?_ ⟨hP, hD, va_S.rf⟩ lo
  intro v u H1 locs1 ls1 pc1 hR hwu hrok wo1 hdec
  have hlocks := B.notSynchronized
  have hrt := B.returns
  have post : ∀ t : State, t.heap = H1 → s.WarmedH t.vm → (∃ (v' : Int) (u' : zS), Outcome.returned (zRv (zr i) v) = .returned (zRv (zr i) v') ∧ (R v' u' ∧ zWF u' ∧ zRok (zr i) v') ∧ zWD D ad ct u' (va_A (zwl ad ct σ) s.heap.size) t) ∧ va_F (va_A (zwl ad ct σ) s.heap.size) s t := fun t ht hWt =>
    ⟨⟨v, u, rfl, ⟨hR, hwu, hrok⟩, by rw [ht]; exact wo1.1, va_K.moved hWt.alike hK, wo1.2.1, hN.warm hWt⟩, wo1.2.2.F ht⟩
  cases hz : zr i with
  | none =>
    rw [hz] at hrt hdec post
    exact W.vret B.exec B.bytes hrt (fun t ht hWt => post t ht hWt) wo1.2.2.2.2 hdec
  | some ty =>
    rw [hz] at hrt hdec post hrok
    by_cases hlg : ty = .long
    · subst hlg
      exact W.lret B.exec B.bytes hrt (fun t ht hWt => post t ht hWt) wo1.2.2.2.2 hdec
    · have e1 : zRv (some ty) v = some (Value.int (Int32.ofInt v)) := by cases ty <;> first | rfl | exact absurd rfl hlg
      have e2 : zri (some ty) = .ireturn := by cases ty <;> first | rfl | exact absurd rfl hlg
      have hty : ty = .int ∨ ty = .boolean := by
        have h9 : ∀ j, j < 160 → zr j = none ∨ zr j = some .long ∨ zr j = some .int ∨ zr j = some .boolean := by decide +kernel
        rcases h9 i (by have : i < 159 := hi; omega) with q | q | q | q
        · rw [hz] at q; cases q
        · rw [hz] at q; cases q; exact absurd rfl hlg
        · rw [hz] at q; cases q; exact Or.inl rfl
        · rw [hz] at q; cases q; exact Or.inr rfl
      rw [e1] at post ⊢
      rw [e2] at hdec
      have hnar : narrow ty (.int (Int32.ofInt v)) = .int (Int32.ofInt v) := by
        rcases hty with rfl | rfl
        · rfl
        · rcases (show v = 0 ∨ v = 1 from hrok) with rfl | rfl <;> rfl
      exact W.zret B.exec B.bytes hrt hnar (fun t ht hWt => post t ht hWt) wo1.2.2.2.2 hdec
end
section
/-! the rows of the methods, and that they are the methods' own -/
/-- PenLines$Counts.slotOf -/
def zc_0 : List zE := [(0, 1, .iconst 0, 0, 0, 0), (1, 2, .istore_n 3, 3, 0, 0), (2, 3, .iload_n 3, 3, 0, 0), (3, 4, .aload_n 0, 0, 0, 0), (4, 7, .getfield 21, 3, 0, 3), (7, 10, .if_icmp .ge 35, 42, 0, 0), (10, 11, .aload_n 0, 0, 0, 0), (11, 14, .getfield 15, 3, 25, 1), (14, 15, .iload_n 3, 3, 0, 0), (15, 16, .iaload, 0, 0, 0), (16, 17, .iload_n 1, 1, 0, 0), (17, 20, .if_icmp .ne 19, 36, 0, 0), (20, 21, .aload_n 0, 0, 0, 0), (21, 24, .getfield 18, 3, 26, 2), (24, 25, .iload_n 3, 3, 0, 0), (25, 26, .iaload, 0, 0, 0), (26, 27, .iload_n 2, 2, 0, 0), (27, 30, .if_icmp .ne 9, 36, 0, 0), (30, 33, .sipush 676, 0, 0, 676), (33, 34, .iload_n 3, 3, 0, 0), (34, 35, .iadd, 0, 0, 0), (35, 36, .ireturn, 0, 0, 0), (36, 39, .iinc 3 1, 3, 0, 1), (39, 42, .goto (-37), 2, 0, 0), (42, 43, .iconst (-1), 0, 0, (-1)), (43, 44, .ireturn, 0, 0, 0)]
theorem zmk_0 : zMok 0 zc_0 := ⟨List.all_eq_true.mp (by decide +kernel), by decide +kernel⟩
/-- PenLines$Counts.slotMadeFor -/
def zc_1 : List zE := [(0, 1, .aload_n 0, 0, 0, 0), (1, 2, .iload_n 1, 1, 0, 0), (2, 3, .iload_n 2, 2, 0, 0), (3, 6, .invokevirtual 40, 0, 2, 13), (6, 7, .istore_n 3, 3, 0, 0), (7, 8, .iload_n 3, 3, 0, 0), (8, 11, .ifCond .ge 13, 21, 0, 0), (11, 12, .aload_n 0, 0, 0, 0), (12, 15, .getfield 21, 3, 0, 3), (15, 18, .sipush 512, 0, 0, 512), (18, 21, .if_icmp .lt 5, 23, 0, 0), (21, 22, .iload_n 3, 3, 0, 0), (22, 23, .ireturn, 0, 0, 0), (23, 24, .aload_n 0, 0, 0, 0), (24, 27, .getfield 15, 3, 25, 1), (27, 28, .aload_n 0, 0, 0, 0), (28, 31, .getfield 21, 3, 0, 3), (31, 32, .iload_n 1, 1, 0, 0), (32, 33, .iastore, 0, 0, 0), (33, 34, .aload_n 0, 0, 0, 0), (34, 37, .getfield 18, 3, 26, 2), (37, 38, .aload_n 0, 0, 0, 0), (38, 41, .getfield 21, 3, 0, 3), (41, 42, .iload_n 2, 2, 0, 0), (42, 43, .iastore, 0, 0, 0), (43, 44, .aload_n 0, 0, 0, 0), (44, 45, .dup, 0, 0, 0), (45, 48, .getfield 21, 3, 0, 3), (48, 49, .iconst 1, 0, 0, 1), (49, 50, .iadd, 0, 0, 0), (50, 53, .putfield 21, 3, 0, 3), (53, 56, .sipush 676, 0, 0, 676), (56, 57, .aload_n 0, 0, 0, 0), (57, 60, .getfield 21, 3, 0, 3), (60, 61, .iadd, 0, 0, 0), (61, 62, .iconst 1, 0, 0, 1), (62, 63, .isub, 0, 0, 0), (63, 64, .ireturn, 0, 0, 0)]
theorem zmk_1 : zMok 1 zc_1 := ⟨List.all_eq_true.mp (by decide +kernel), by decide +kernel⟩
/-- PenLines$Counts.raise -/
def zc_2 : List zE := [(0, 1, .iload_n 1, 1, 0, 0), (1, 4, .ifCond .lt 12, 13, 0, 0), (4, 5, .iload_n 1, 1, 0, 0), (5, 6, .aload_n 0, 0, 0, 0), (6, 9, .getfield 11, 3, 24, 0), (9, 10, .arraylength, 0, 0, 0), (10, 13, .if_icmp .lt 5, 15, 0, 0), (13, 14, .iconst 0, 0, 0, 0), (14, 15, .ireturn, 0, 0, 0), (15, 16, .aload_n 0, 0, 0, 0), (16, 19, .getfield 37, 3, 0, 8), (19, 22, .ifCond .le 48, 67, 0, 0), (22, 23, .aload_n 0, 0, 0, 0), (23, 26, .getfield 31, 3, 0, 6), (26, 29, .sipush 1024, 0, 0, 1024), (29, 32, .if_icmp .ge 38, 67, 0, 0), (32, 33, .aload_n 0, 0, 0, 0), (33, 36, .getfield 25, 3, 27, 4), (36, 37, .aload_n 0, 0, 0, 0), (37, 40, .getfield 31, 3, 0, 6), (40, 41, .iload_n 1, 1, 0, 0), (41, 42, .iastore, 0, 0, 0), (42, 43, .aload_n 0, 0, 0, 0), (43, 46, .getfield 28, 3, 28, 5), (46, 47, .aload_n 0, 0, 0, 0), (47, 50, .getfield 31, 3, 0, 6), (50, 51, .aload_n 0, 0, 0, 0), (51, 54, .getfield 11, 3, 24, 0), (54, 55, .iload_n 1, 1, 0, 0), (55, 56, .iaload, 0, 0, 0), (56, 57, .iastore, 0, 0, 0), (57, 58, .aload_n 0, 0, 0, 0), (58, 59, .dup, 0, 0, 0), (59, 62, .getfield 31, 3, 0, 6), (62, 63, .iconst 1, 0, 0, 1), (63, 64, .iadd, 0, 0, 0), (64, 67, .putfield 31, 3, 0, 6), (67, 68, .aload_n 0, 0, 0, 0), (68, 71, .getfield 11, 3, 24, 0), (71, 72, .iload_n 1, 1, 0, 0), (72, 75, .sipush 999, 0, 0, 999), (75, 76, .aload_n 0, 0, 0, 0), (76, 79, .getfield 11, 3, 24, 0), (79, 80, .iload_n 1, 1, 0, 0), (80, 81, .iaload, 0, 0, 0), (81, 82, .iload_n 2, 2, 0, 0), (82, 83, .iadd, 0, 0, 0), (83, 86, .invokestatic 44, 9010, 0, 0), (86, 87, .iastore, 0, 0, 0), (87, 88, .aload_n 0, 0, 0, 0), (88, 91, .getfield 11, 3, 24, 0), (91, 92, .iload_n 1, 1, 0, 0), (92, 93, .iaload, 0, 0, 0), (93, 94, .ireturn, 0, 0, 0)]
theorem zmk_2 : zMok 2 zc_2 := ⟨List.all_eq_true.mp (by decide +kernel), by decide +kernel⟩
/-- PenLines$Counts.beginTeaching -/
def zc_3 : List zE := [(0, 1, .aload_n 0, 0, 0, 0), (1, 4, .getfield 37, 3, 0, 8), (4, 6, .bipush 50, 0, 0, 50), (6, 9, .if_icmp .ge 26, 32, 0, 0), (9, 10, .aload_n 0, 0, 0, 0), (10, 13, .getfield 34, 3, 29, 7), (13, 14, .aload_n 0, 0, 0, 0), (14, 17, .getfield 37, 3, 0, 8), (17, 18, .aload_n 0, 0, 0, 0), (18, 21, .getfield 31, 3, 0, 6), (21, 22, .iastore, 0, 0, 0), (22, 23, .aload_n 0, 0, 0, 0), (23, 24, .dup, 0, 0, 0), (24, 27, .getfield 37, 3, 0, 8), (27, 28, .iconst 1, 0, 0, 1), (28, 29, .iadd, 0, 0, 0), (29, 32, .putfield 37, 3, 0, 8), (32, 33, .return_, 0, 0, 0)]
theorem zmk_3 : zMok 3 zc_3 := ⟨List.all_eq_true.mp (by decide +kernel), by decide +kernel⟩
/-- PenLines$Counts.undoTeaching -/
def zc_4 : List zE := [(0, 1, .aload_n 0, 0, 0, 0), (1, 4, .getfield 37, 3, 0, 8), (4, 7, .ifCond .le 69, 73, 0, 0), (7, 8, .aload_n 0, 0, 0, 0), (8, 9, .dup, 0, 0, 0), (9, 12, .getfield 37, 3, 0, 8), (12, 13, .iconst 1, 0, 0, 1), (13, 14, .isub, 0, 0, 0), (14, 17, .putfield 37, 3, 0, 8), (17, 18, .aload_n 0, 0, 0, 0), (18, 21, .getfield 31, 3, 0, 6), (21, 22, .iconst 1, 0, 0, 1), (22, 23, .isub, 0, 0, 0), (23, 24, .istore_n 1, 1, 0, 0), (24, 25, .iload_n 1, 1, 0, 0), (25, 26, .aload_n 0, 0, 0, 0), (26, 29, .getfield 34, 3, 29, 7), (29, 30, .aload_n 0, 0, 0, 0), (30, 33, .getfield 37, 3, 0, 8), (33, 34, .iaload, 0, 0, 0), (34, 37, .if_icmp .lt 26, 60, 0, 0), (37, 38, .aload_n 0, 0, 0, 0), (38, 41, .getfield 11, 3, 24, 0), (41, 42, .aload_n 0, 0, 0, 0), (42, 45, .getfield 25, 3, 27, 4), (45, 46, .iload_n 1, 1, 0, 0), (46, 47, .iaload, 0, 0, 0), (47, 48, .aload_n 0, 0, 0, 0), (48, 51, .getfield 28, 3, 28, 5), (51, 52, .iload_n 1, 1, 0, 0), (52, 53, .iaload, 0, 0, 0), (53, 54, .iastore, 0, 0, 0), (54, 57, .iinc 1 (-1), 1, 0, (-1)), (57, 60, .goto (-33), 24, 0, 0), (60, 61, .aload_n 0, 0, 0, 0), (61, 62, .aload_n 0, 0, 0, 0), (62, 65, .getfield 34, 3, 29, 7), (65, 66, .aload_n 0, 0, 0, 0), (66, 69, .getfield 37, 3, 0, 8), (69, 70, .iaload, 0, 0, 0), (70, 73, .putfield 31, 3, 0, 6), (73, 74, .return_, 0, 0, 0)]
theorem zmk_4 : zMok 4 zc_4 := ⟨List.all_eq_true.mp (by decide +kernel), by decide +kernel⟩
/-- PenLines$Counts.pairCost -/
def zc_5 : List zE := [(0, 2, .bipush 6, 0, 0, 6), (2, 3, .aload_n 0, 0, 0, 0), (3, 6, .getfield 11, 3, 24, 0), (6, 7, .iload_n 1, 1, 0, 0), (7, 8, .iload_n 2, 2, 0, 0), (8, 11, .invokestatic 49, 85, 2, 1), (11, 12, .iaload, 0, 0, 0), (12, 13, .iconst 1, 0, 0, 1), (13, 14, .iadd, 0, 0, 0), (14, 15, .idiv, 0, 0, 0), (15, 16, .ireturn, 0, 0, 0)]
theorem zmk_5 : zMok 5 zc_5 := ⟨List.all_eq_true.mp (by decide +kernel), by decide +kernel⟩
/-- PenLines$Counts.formsSeen -/
def zc_6 : List zE := [(0, 1, .aload_n 0, 0, 0, 0), (1, 4, .sipush 676, 0, 0, 676), (4, 7, .sipush 676, 0, 0, 676), (7, 8, .aload_n 0, 0, 0, 0), (8, 11, .getfield 21, 3, 0, 3), (11, 12, .iadd, 0, 0, 0), (12, 15, .invokevirtual 52, 8, 2, 13), (15, 16, .ireturn, 0, 0, 0)]
theorem zmk_6 : zMok 6 zc_6 := ⟨List.all_eq_true.mp (by decide +kernel), by decide +kernel⟩
/-- PenLines$Counts.pairsSeen -/
def zc_7 : List zE := [(0, 1, .aload_n 0, 0, 0, 0), (1, 2, .iconst 0, 0, 0, 0), (2, 5, .sipush 676, 0, 0, 676), (5, 8, .invokevirtual 52, 8, 2, 13), (8, 9, .ireturn, 0, 0, 0)]
theorem zmk_7 : zMok 7 zc_7 := ⟨List.all_eq_true.mp (by decide +kernel), by decide +kernel⟩
/-- PenLines$Counts.seenFrom -/
def zc_8 : List zE := [(0, 1, .iconst 0, 0, 0, 0), (1, 2, .istore_n 3, 3, 0, 0), (2, 3, .iload_n 1, 1, 0, 0), (3, 5, .istore 4, 4, 0, 0), (5, 7, .iload 4, 4, 0, 0), (7, 8, .iload_n 2, 2, 0, 0), (8, 11, .if_icmp .ge 27, 35, 0, 0), (11, 12, .iload_n 3, 3, 0, 0), (12, 13, .aload_n 0, 0, 0, 0), (13, 16, .getfield 11, 3, 24, 0), (16, 18, .iload 4, 4, 0, 0), (18, 19, .iaload, 0, 0, 0), (19, 22, .ifCond .le 7, 26, 0, 0), (22, 23, .iconst 1, 0, 0, 1), (23, 26, .goto 4, 27, 0, 0), (26, 27, .iconst 0, 0, 0, 0), (27, 28, .iadd, 0, 0, 0), (28, 29, .istore_n 3, 3, 0, 0), (29, 32, .iinc 4 1, 4, 0, 1), (32, 35, .goto (-27), 5, 0, 0), (35, 36, .iload_n 3, 3, 0, 0), (36, 37, .ireturn, 0, 0, 0)]
theorem zmk_8 : zMok 8 zc_8 := ⟨List.all_eq_true.mp (by decide +kernel), by decide +kernel⟩
/-- PenLines$Fits.take -/
def zc_9_0 : List zE := [(0, 1, .aload_n 0, 0, 0, 0), (1, 2, .aload_n 1, 1, 0, 0), (2, 3, .iload_n 2, 2, 0, 0), (3, 6, .invokevirtual 19, 21, 1, 9), (6, 9, .putfield 15, 5, 0, 1), (9, 10, .aload_n 0, 0, 0, 0), (10, 13, .getfield 15, 5, 0, 1), (13, 15, .bipush 14, 0, 0, 14), (15, 18, .if_icmp .le 8, 23, 0, 0), (18, 19, .aload_n 0, 0, 0, 0), (19, 20, .iconst 0, 0, 0, 0), (20, 23, .putfield 15, 5, 0, 1), (23, 24, .aload_n 0, 0, 0, 0), (24, 27, .getfield 9, 5, 31, 0), (27, 28, .iconst (-1), 0, 0, (-1)), (28, 31, .invokestatic 25, 158, 2, 0), (31, 32, .aload_n 1, 1, 0, 0), (32, 35, .getfield 31, 2, 22, 8), (35, 36, .iload_n 2, 2, 0, 0), (36, 37, .iaload, 0, 0, 0), (37, 39, .istore 4, 4, 0, 0), (39, 40, .iconst 0, 0, 0, 0), (40, 42, .istore 5, 5, 0, 0), (42, 44, .iload 5, 5, 0, 0), (44, 45, .aload_n 0, 0, 0, 0), (45, 48, .getfield 15, 5, 0, 1), (48, 51, .if_icmp .ge 75, 123, 0, 0), (51, 52, .iconst 1, 0, 0, 1), (52, 54, .istore 6, 6, 0, 0), (54, 56, .iload 6, 6, 0, 0), (56, 57, .iconst 3, 0, 0, 3), (57, 60, .if_icmp .gt 60, 117, 0, 0), (60, 62, .iload 5, 5, 0, 0), (62, 64, .iload 6, 6, 0, 0), (64, 65, .iadd, 0, 0, 0), (65, 66, .aload_n 0, 0, 0, 0), (66, 69, .getfield 15, 5, 0, 1), (69, 72, .if_icmp .gt 48, 117, 0, 0), (72, 73, .aload_n 1, 1, 0, 0), (73, 75, .iload 4, 4, 0, 0), (75, 77, .iload 5, 5, 0, 0), (77, 78, .iadd, 0, 0, 0), (78, 80, .iload 6, 6, 0, 0), (80, 83, .invokevirtual 34, 22, 2, 9), (83, 85, .istore 7, 7, 0, 0), (85, 86, .aload_n 0, 0, 0, 0), (86, 87, .aload_n 3, 3, 0, 0), (87, 89, .iload 5, 5, 0, 0), (89, 91, .iload 6, 6, 0, 0), (91, 92, .iconst 0, 0, 0, 0), (92, 95, .invokestatic 38, 12, 3, 1), (95, 97, .iload 7, 7, 0, 0), (97, 98, .aload_n 1, 1, 0, 0), (98, 100, .iload 4, 4, 0, 0), (100, 102, .iload 5, 5, 0, 0), (102, 103, .iadd, 0, 0, 0), (103, 105, .iload 6, 6, 0, 0), (105, 108, .invokevirtual 42, 23, 2, 9), (108, 111, .invokevirtual 46, 10, 4, 20), (111, 114, .iinc 6 1, 6, 0, 1)]
theorem zmk_9_0 : ∀ x ∈ zc_9_0, zchk 9 x = true := List.all_eq_true.mp (by decide +kernel)
def zc_9_1 : List zE := [(114, 117, .goto (-60), 54, 0, 0), (117, 120, .iinc 5 1, 5, 0, 1), (120, 123, .goto (-78), 42, 0, 0), (123, 124, .return_, 0, 0, 0)]
theorem zmk_9_1 : ∀ x ∈ zc_9_1, zchk 9 x = true := List.all_eq_true.mp (by decide +kernel)
def zc_9 : List zE := [(0, 1, .aload_n 0, 0, 0, 0), (1, 2, .aload_n 1, 1, 0, 0), (2, 3, .iload_n 2, 2, 0, 0), (3, 6, .invokevirtual 19, 21, 1, 9), (6, 9, .putfield 15, 5, 0, 1), (9, 10, .aload_n 0, 0, 0, 0), (10, 13, .getfield 15, 5, 0, 1), (13, 15, .bipush 14, 0, 0, 14), (15, 18, .if_icmp .le 8, 23, 0, 0), (18, 19, .aload_n 0, 0, 0, 0), (19, 20, .iconst 0, 0, 0, 0), (20, 23, .putfield 15, 5, 0, 1), (23, 24, .aload_n 0, 0, 0, 0), (24, 27, .getfield 9, 5, 31, 0), (27, 28, .iconst (-1), 0, 0, (-1)), (28, 31, .invokestatic 25, 158, 2, 0), (31, 32, .aload_n 1, 1, 0, 0), (32, 35, .getfield 31, 2, 22, 8), (35, 36, .iload_n 2, 2, 0, 0), (36, 37, .iaload, 0, 0, 0), (37, 39, .istore 4, 4, 0, 0), (39, 40, .iconst 0, 0, 0, 0), (40, 42, .istore 5, 5, 0, 0), (42, 44, .iload 5, 5, 0, 0), (44, 45, .aload_n 0, 0, 0, 0), (45, 48, .getfield 15, 5, 0, 1), (48, 51, .if_icmp .ge 75, 123, 0, 0), (51, 52, .iconst 1, 0, 0, 1), (52, 54, .istore 6, 6, 0, 0), (54, 56, .iload 6, 6, 0, 0), (56, 57, .iconst 3, 0, 0, 3), (57, 60, .if_icmp .gt 60, 117, 0, 0), (60, 62, .iload 5, 5, 0, 0), (62, 64, .iload 6, 6, 0, 0), (64, 65, .iadd, 0, 0, 0), (65, 66, .aload_n 0, 0, 0, 0), (66, 69, .getfield 15, 5, 0, 1), (69, 72, .if_icmp .gt 48, 117, 0, 0), (72, 73, .aload_n 1, 1, 0, 0), (73, 75, .iload 4, 4, 0, 0), (75, 77, .iload 5, 5, 0, 0), (77, 78, .iadd, 0, 0, 0), (78, 80, .iload 6, 6, 0, 0), (80, 83, .invokevirtual 34, 22, 2, 9), (83, 85, .istore 7, 7, 0, 0), (85, 86, .aload_n 0, 0, 0, 0), (86, 87, .aload_n 3, 3, 0, 0), (87, 89, .iload 5, 5, 0, 0), (89, 91, .iload 6, 6, 0, 0), (91, 92, .iconst 0, 0, 0, 0), (92, 95, .invokestatic 38, 12, 3, 1), (95, 97, .iload 7, 7, 0, 0), (97, 98, .aload_n 1, 1, 0, 0), (98, 100, .iload 4, 4, 0, 0), (100, 102, .iload 5, 5, 0, 0), (102, 103, .iadd, 0, 0, 0), (103, 105, .iload 6, 6, 0, 0), (105, 108, .invokevirtual 42, 23, 2, 9), (108, 111, .invokevirtual 46, 10, 4, 20), (111, 114, .iinc 6 1, 6, 0, 1), (114, 117, .goto (-60), 54, 0, 0), (117, 120, .iinc 5 1, 5, 0, 1), (120, 123, .goto (-78), 42, 0, 0), (123, 124, .return_, 0, 0, 0)]
set_option maxRecDepth 100000 in
theorem zmk_9 : zMok 9 zc_9 := ⟨by
  show ∀ x ∈ zc_9_0 ++ (zc_9_1), zchk 9 x = true
  exact List.forall_mem_append.mpr ⟨zmk_9_0, zmk_9_1⟩, by decide +kernel⟩
/-- PenLines$Fits.takeRow -/
def zc_10 : List zE := [(0, 1, .iconst 0, 0, 0, 0), (1, 3, .istore 5, 5, 0, 0), (3, 5, .iload 5, 5, 0, 0), (5, 6, .aload_n 1, 1, 0, 0), (6, 9, .getfield 50, 3, 0, 3), (9, 12, .if_icmp .ge 71, 80, 0, 0), (12, 13, .aload_n 1, 1, 0, 0), (13, 16, .getfield 55, 3, 24, 0), (16, 19, .sipush 676, 0, 0, 676), (19, 21, .iload 5, 5, 0, 0), (21, 22, .iadd, 0, 0, 0), (22, 23, .iaload, 0, 0, 0), (23, 25, .istore 6, 6, 0, 0), (25, 27, .iload 6, 6, 0, 0), (27, 30, .ifCond .le 47, 74, 0, 0), (30, 31, .aload_n 1, 1, 0, 0), (31, 34, .getfield 58, 3, 26, 2), (34, 36, .iload 5, 5, 0, 0), (36, 37, .iaload, 0, 0, 0), (37, 38, .iload_n 3, 3, 0, 0), (38, 41, .if_icmp .ne 36, 74, 0, 0), (41, 42, .aload_n 1, 1, 0, 0), (42, 45, .getfield 61, 3, 25, 1), (45, 47, .iload 5, 5, 0, 0), (47, 48, .iaload, 0, 0, 0), (48, 50, .istore 7, 7, 0, 0), (50, 51, .aload_n 0, 0, 0, 0), (51, 54, .getfield 9, 5, 31, 0), (54, 55, .iload_n 2, 2, 0, 0), (55, 57, .iload 7, 7, 0, 0), (57, 58, .iadd, 0, 0, 0), (58, 60, .bipush 12, 0, 0, 12), (60, 62, .iload 6, 6, 0, 0), (62, 63, .iconst 1, 0, 0, 1), (63, 64, .iadd, 0, 0, 0), (64, 65, .idiv, 0, 0, 0), (65, 67, .iload 7, 7, 0, 0), (67, 69, .iload 4, 4, 0, 0), (69, 72, .invokestatic 64, 11, 2, 1), (72, 73, .iadd, 0, 0, 0), (73, 74, .iastore, 0, 0, 0), (74, 77, .iinc 5 1, 5, 0, 1), (77, 80, .goto (-74), 3, 0, 0), (80, 81, .return_, 0, 0, 0)]
theorem zmk_10 : zMok 10 zc_10 := ⟨List.all_eq_true.mp (by decide +kernel), by decide +kernel⟩
/-- PenLines$Fits.dotCost -/
def zc_11 : List zE := [(0, 1, .iload_n 0, 0, 0, 0), (1, 3, .bipush 8, 0, 0, 8), (3, 6, .if_icmp .eq 9, 12, 0, 0), (6, 7, .iload_n 0, 0, 0, 0), (7, 9, .bipush 9, 0, 0, 9), (9, 12, .if_icmp .ne 7, 16, 0, 0), (12, 13, .iconst 1, 0, 0, 1), (13, 16, .goto 4, 17, 0, 0), (16, 17, .iconst 0, 0, 0, 0), (17, 18, .istore_n 2, 2, 0, 0), (18, 19, .iload_n 2, 2, 0, 0), (19, 20, .iload_n 1, 1, 0, 0), (20, 23, .if_icmp .ne 5, 25, 0, 0), (23, 24, .iconst 0, 0, 0, 0), (24, 25, .ireturn, 0, 0, 0), (25, 26, .iload_n 2, 2, 0, 0), (26, 29, .ifCond .eq 7, 33, 0, 0), (29, 30, .iconst 5, 0, 0, 5), (30, 33, .goto 4, 34, 0, 0), (33, 34, .iconst 4, 0, 0, 4), (34, 35, .ireturn, 0, 0, 0)]
theorem zmk_11 : zMok 11 zc_11 := ⟨List.all_eq_true.mp (by decide +kernel), by decide +kernel⟩
/-- PenLines$Fits.place -/
def zc_12 : List zE := [(0, 1, .iload_n 0, 0, 0, 0), (1, 2, .iconst 3, 0, 0, 3), (2, 3, .imul, 0, 0, 0), (3, 4, .iload_n 1, 1, 0, 0), (4, 5, .iadd, 0, 0, 0), (5, 6, .iconst 1, 0, 0, 1), (6, 7, .isub, 0, 0, 0), (7, 9, .bipush 26, 0, 0, 26), (9, 10, .imul, 0, 0, 0), (10, 11, .iload_n 2, 2, 0, 0), (11, 12, .iadd, 0, 0, 0), (12, 13, .ireturn, 0, 0, 0)]
theorem zmk_12 : zMok 12 zc_12 := ⟨List.all_eq_true.mp (by decide +kernel), by decide +kernel⟩
/-- PenLines$Fits.cost -/
def zc_13 : List zE := [(0, 1, .aload_n 0, 0, 0, 0), (1, 4, .getfield 9, 5, 31, 0), (4, 5, .iload_n 1, 1, 0, 0), (5, 6, .iload_n 2, 2, 0, 0), (6, 7, .iload_n 3, 3, 0, 0), (7, 10, .invokestatic 38, 12, 3, 1), (10, 11, .iaload, 0, 0, 0), (11, 12, .ireturn, 0, 0, 0)]
theorem zmk_13 : zMok 13 zc_13 := ⟨List.all_eq_true.mp (by decide +kernel), by decide +kernel⟩
/-- PenLines$Line.write -/
def zc_14 : List zE := [(0, 1, .iconst 0, 0, 0, 0), (1, 3, .istore 4, 4, 0, 0), (3, 5, .iload 4, 4, 0, 0), (5, 6, .iload_n 3, 3, 0, 0), (6, 9, .if_icmp .ge 41, 47, 0, 0), (9, 10, .aload_n 0, 0, 0, 0), (10, 13, .getfield 9, 2, 17, 0), (13, 15, .iload 4, 4, 0, 0), (15, 16, .aload_n 1, 1, 0, 0), (16, 17, .iload_n 2, 2, 0, 0), (17, 18, .iconst 2, 0, 0, 2), (18, 20, .iload 4, 4, 0, 0), (20, 21, .imul, 0, 0, 0), (21, 22, .iadd, 0, 0, 0), (22, 23, .iaload, 0, 0, 0), (23, 24, .iastore, 0, 0, 0), (24, 25, .aload_n 0, 0, 0, 0), (25, 28, .getfield 15, 2, 18, 1), (28, 30, .iload 4, 4, 0, 0), (30, 31, .aload_n 1, 1, 0, 0), (31, 32, .iload_n 2, 2, 0, 0), (32, 33, .iconst 2, 0, 0, 2), (33, 35, .iload 4, 4, 0, 0), (35, 36, .imul, 0, 0, 0), (36, 37, .iadd, 0, 0, 0), (37, 38, .iconst 1, 0, 0, 1), (38, 39, .iadd, 0, 0, 0), (39, 40, .iaload, 0, 0, 0), (40, 41, .iastore, 0, 0, 0), (41, 44, .iinc 4 1, 4, 0, 1), (44, 47, .goto (-41), 3, 0, 0), (47, 48, .aload_n 0, 0, 0, 0), (48, 49, .iload_n 3, 3, 0, 0), (49, 52, .putfield 18, 2, 0, 2), (52, 53, .aload_n 0, 0, 0, 0), (53, 56, .invokevirtual 49, 15, 0, 8), (56, 57, .return_, 0, 0, 0)]
theorem zmk_14 : zMok 14 zc_14 := ⟨List.all_eq_true.mp (by decide +kernel), by decide +kernel⟩
/-- PenLines$Line.part -/
def zc_15 : List zE := [(0, 1, .aload_n 0, 0, 0, 0), (1, 4, .invokevirtual 52, 16, 0, 8), (4, 5, .aload_n 0, 0, 0, 0), (5, 8, .invokevirtual 55, 17, 0, 8), (8, 9, .aload_n 0, 0, 0, 0), (9, 12, .invokevirtual 58, 18, 0, 8), (12, 13, .return_, 0, 0, 0)]
theorem zmk_15 : zMok 15 zc_15 := ⟨List.all_eq_true.mp (by decide +kernel), by decide +kernel⟩
/-- PenLines$Line.gatherPieces -/
def zc_16 : List zE := [(0, 1, .aload_n 0, 0, 0, 0), (1, 2, .iconst 0, 0, 0, 0), (2, 5, .putfield 34, 2, 0, 7), (5, 6, .iconst 0, 0, 0, 0), (6, 7, .istore_n 1, 1, 0, 0), (7, 8, .iload_n 1, 1, 0, 0), (8, 9, .aload_n 0, 0, 0, 0), (9, 12, .getfield 18, 2, 0, 2), (12, 15, .if_icmp .ge 70, 82, 0, 0), (15, 16, .aload_n 0, 0, 0, 0), (16, 19, .getfield 15, 2, 18, 1), (19, 20, .iload_n 1, 1, 0, 0), (20, 21, .iaload, 0, 0, 0), (21, 23, .bipush 12, 0, 0, 12), (23, 26, .if_icmp .eq 53, 76, 0, 0), (26, 27, .aload_n 0, 0, 0, 0), (27, 30, .getfield 25, 2, 19, 4), (30, 31, .aload_n 0, 0, 0, 0), (31, 34, .getfield 34, 2, 0, 7), (34, 35, .aload_n 0, 0, 0, 0), (35, 38, .getfield 9, 2, 17, 0), (38, 39, .iload_n 1, 1, 0, 0), (39, 40, .iaload, 0, 0, 0), (40, 41, .iastore, 0, 0, 0), (41, 42, .aload_n 0, 0, 0, 0), (42, 45, .getfield 28, 2, 20, 5), (45, 46, .aload_n 0, 0, 0, 0), (46, 49, .getfield 34, 2, 0, 7), (49, 50, .aload_n 0, 0, 0, 0), (50, 53, .getfield 15, 2, 18, 1), (53, 54, .iload_n 1, 1, 0, 0), (54, 55, .iaload, 0, 0, 0), (55, 56, .iastore, 0, 0, 0), (56, 57, .aload_n 0, 0, 0, 0), (57, 60, .getfield 31, 2, 21, 6), (60, 61, .aload_n 0, 0, 0, 0), (61, 64, .getfield 34, 2, 0, 7), (64, 65, .iconst 0, 0, 0, 0), (65, 66, .iastore, 0, 0, 0), (66, 67, .aload_n 0, 0, 0, 0), (67, 68, .dup, 0, 0, 0), (68, 71, .getfield 34, 2, 0, 7), (71, 72, .iconst 1, 0, 0, 1), (72, 73, .iadd, 0, 0, 0), (73, 76, .putfield 34, 2, 0, 7), (76, 79, .iinc 1 1, 1, 0, 1), (79, 82, .goto (-72), 7, 0, 0), (82, 83, .return_, 0, 0, 0)]
theorem zmk_16 : zMok 16 zc_16 := ⟨List.all_eq_true.mp (by decide +kernel), by decide +kernel⟩
/-- PenLines$Line.beginInks -/
def zc_17 : List zE := [(0, 1, .aload_n 0, 0, 0, 0), (1, 2, .iconst 0, 0, 0, 0), (2, 5, .putfield 43, 2, 0, 10), (5, 6, .iconst 0, 0, 0, 0), (6, 7, .istore_n 1, 1, 0, 0), (7, 8, .iload_n 1, 1, 0, 0), (8, 9, .aload_n 0, 0, 0, 0), (9, 12, .getfield 34, 2, 0, 7), (12, 15, .if_icmp .ge 65, 77, 0, 0), (15, 16, .iload_n 1, 1, 0, 0), (16, 19, .ifCond .eq 25, 41, 0, 0), (19, 20, .aload_n 0, 0, 0, 0), (20, 23, .getfield 25, 2, 19, 4), (23, 24, .iload_n 1, 1, 0, 0), (24, 25, .iaload, 0, 0, 0), (25, 26, .aload_n 0, 0, 0, 0), (26, 29, .getfield 25, 2, 19, 4), (29, 30, .iload_n 1, 1, 0, 0), (30, 31, .iconst 1, 0, 0, 1), (31, 32, .isub, 0, 0, 0), (32, 33, .iaload, 0, 0, 0), (33, 34, .isub, 0, 0, 0), (34, 35, .aload_n 0, 0, 0, 0), (35, 38, .getfield 22, 2, 0, 3), (38, 41, .if_icmp .le 33, 71, 0, 0), (41, 42, .aload_n 0, 0, 0, 0), (42, 45, .getfield 37, 2, 22, 8), (45, 46, .aload_n 0, 0, 0, 0), (46, 49, .getfield 43, 2, 0, 10), (49, 50, .iload_n 1, 1, 0, 0), (50, 51, .iastore, 0, 0, 0), (51, 52, .aload_n 0, 0, 0, 0), (52, 55, .getfield 40, 2, 23, 9), (55, 56, .aload_n 0, 0, 0, 0), (56, 59, .getfield 43, 2, 0, 10), (59, 60, .iconst 0, 0, 0, 0), (60, 61, .iastore, 0, 0, 0), (61, 62, .aload_n 0, 0, 0, 0), (62, 63, .dup, 0, 0, 0), (63, 66, .getfield 43, 2, 0, 10), (66, 67, .iconst 1, 0, 0, 1), (67, 68, .iadd, 0, 0, 0), (68, 71, .putfield 43, 2, 0, 10), (71, 74, .iinc 1 1, 1, 0, 1), (74, 77, .goto (-67), 7, 0, 0), (77, 78, .aload_n 0, 0, 0, 0), (78, 81, .getfield 37, 2, 22, 8), (81, 82, .aload_n 0, 0, 0, 0), (82, 85, .getfield 43, 2, 0, 10), (85, 86, .aload_n 0, 0, 0, 0), (86, 89, .getfield 34, 2, 0, 7), (89, 90, .iastore, 0, 0, 0), (90, 91, .return_, 0, 0, 0)]
theorem zmk_17 : zMok 17 zc_17 := ⟨List.all_eq_true.mp (by decide +kernel), by decide +kernel⟩
/-- PenLines$Line.joinDots -/
def zc_18 : List zE := [(0, 1, .aload_n 0, 0, 0, 0), (1, 2, .iconst 0, 0, 0, 0), (2, 5, .putfield 46, 2, 0, 11), (5, 6, .iconst 0, 0, 0, 0), (6, 7, .istore_n 1, 1, 0, 0), (7, 8, .iload_n 1, 1, 0, 0), (8, 9, .aload_n 0, 0, 0, 0), (9, 12, .getfield 18, 2, 0, 2), (12, 15, .if_icmp .ge 79, 91, 0, 0), (15, 16, .aload_n 0, 0, 0, 0), (16, 19, .getfield 15, 2, 18, 1), (19, 20, .iload_n 1, 1, 0, 0), (20, 21, .iaload, 0, 0, 0), (21, 23, .bipush 12, 0, 0, 12), (23, 26, .if_icmp .ne 62, 85, 0, 0), (26, 27, .aload_n 0, 0, 0, 0), (27, 28, .aload_n 0, 0, 0, 0), (28, 31, .getfield 9, 2, 17, 0), (31, 32, .iload_n 1, 1, 0, 0), (32, 33, .iaload, 0, 0, 0), (33, 36, .invokevirtual 61, 19, 1, 9), (36, 37, .istore_n 2, 2, 0, 0), (37, 38, .iload_n 2, 2, 0, 0), (38, 39, .iconst (-1), 0, 0, (-1)), (39, 42, .if_icmp .ne 16, 55, 0, 0), (42, 43, .aload_n 0, 0, 0, 0), (43, 44, .dup, 0, 0, 0), (44, 47, .getfield 46, 2, 0, 11), (47, 48, .iconst 1, 0, 0, 1), (48, 49, .iadd, 0, 0, 0), (49, 52, .putfield 46, 2, 0, 11), (52, 55, .goto 33, 85, 0, 0), (55, 56, .aload_n 0, 0, 0, 0), (56, 59, .getfield 40, 2, 23, 9), (59, 60, .iload_n 2, 2, 0, 0), (60, 61, .dup2, 0, 0, 0), (61, 62, .iaload, 0, 0, 0), (62, 63, .iconst 1, 0, 0, 1), (63, 64, .iadd, 0, 0, 0), (64, 65, .iastore, 0, 0, 0), (65, 66, .aload_n 0, 0, 0, 0), (66, 69, .getfield 31, 2, 21, 6), (69, 70, .aload_n 0, 0, 0, 0), (70, 71, .iload_n 2, 2, 0, 0), (71, 72, .aload_n 0, 0, 0, 0), (72, 75, .getfield 9, 2, 17, 0), (75, 76, .iload_n 1, 1, 0, 0), (76, 77, .iaload, 0, 0, 0), (77, 80, .invokevirtual 65, 20, 2, 9), (80, 81, .dup2, 0, 0, 0), (81, 82, .iaload, 0, 0, 0), (82, 83, .iconst 1, 0, 0, 1), (83, 84, .iadd, 0, 0, 0), (84, 85, .iastore, 0, 0, 0), (85, 88, .iinc 1 1, 1, 0, 1), (88, 91, .goto (-81), 7, 0, 0), (91, 92, .return_, 0, 0, 0)]
theorem zmk_18 : zMok 18 zc_18 := ⟨List.all_eq_true.mp (by decide +kernel), by decide +kernel⟩
/-- PenLines$Line.inkUnder -/
def zc_19_0 : List zE := [(0, 1, .iconst 0, 0, 0, 0), (1, 2, .istore_n 2, 2, 0, 0), (2, 3, .iload_n 2, 2, 0, 0), (3, 4, .aload_n 0, 0, 0, 0), (4, 7, .getfield 43, 2, 0, 10), (7, 10, .if_icmp .ge 94, 101, 0, 0), (10, 11, .aload_n 0, 0, 0, 0), (11, 14, .getfield 25, 2, 19, 4), (14, 15, .aload_n 0, 0, 0, 0), (15, 18, .getfield 37, 2, 22, 8), (18, 19, .iload_n 2, 2, 0, 0), (19, 20, .iaload, 0, 0, 0), (20, 21, .iaload, 0, 0, 0), (21, 22, .istore_n 3, 3, 0, 0), (22, 23, .iload_n 3, 3, 0, 0), (23, 25, .istore 4, 4, 0, 0), (25, 26, .aload_n 0, 0, 0, 0), (26, 29, .getfield 37, 2, 22, 8), (29, 30, .iload_n 2, 2, 0, 0), (30, 31, .iaload, 0, 0, 0), (31, 33, .istore 5, 5, 0, 0), (33, 35, .iload 5, 5, 0, 0), (35, 36, .aload_n 0, 0, 0, 0), (36, 39, .getfield 37, 2, 22, 8), (39, 40, .iload_n 2, 2, 0, 0), (40, 41, .iconst 1, 0, 0, 1), (41, 42, .iadd, 0, 0, 0), (42, 43, .iaload, 0, 0, 0), (43, 46, .if_icmp .ge 35, 78, 0, 0), (46, 47, .iload_n 3, 3, 0, 0), (47, 48, .aload_n 0, 0, 0, 0), (48, 51, .getfield 25, 2, 19, 4), (51, 53, .iload 5, 5, 0, 0), (53, 54, .iaload, 0, 0, 0), (54, 57, .invokestatic 69, 9010, 0, 0), (57, 58, .istore_n 3, 3, 0, 0), (58, 60, .iload 4, 4, 0, 0), (60, 61, .aload_n 0, 0, 0, 0), (61, 64, .getfield 25, 2, 19, 4), (64, 66, .iload 5, 5, 0, 0), (66, 67, .iaload, 0, 0, 0), (67, 70, .invokestatic 74, 9011, 0, 0), (70, 72, .istore 4, 4, 0, 0), (72, 75, .iinc 5 1, 5, 0, 1), (75, 78, .goto (-42), 33, 0, 0), (78, 79, .iload_n 1, 1, 0, 0), (79, 80, .iload_n 3, 3, 0, 0), (80, 81, .iconst 5, 0, 0, 5), (81, 82, .isub, 0, 0, 0), (82, 85, .if_icmp .lt 13, 95, 0, 0), (85, 86, .iload_n 1, 1, 0, 0), (86, 88, .iload 4, 4, 0, 0), (88, 89, .iconst 5, 0, 0, 5), (89, 90, .iadd, 0, 0, 0), (90, 93, .if_icmp .gt 5, 95, 0, 0), (93, 94, .iload_n 2, 2, 0, 0), (94, 95, .ireturn, 0, 0, 0), (95, 98, .iinc 2 1, 2, 0, 1), (98, 101, .goto (-96), 2, 0, 0), (101, 102, .iconst (-1), 0, 0, (-1))]
theorem zmk_19_0 : ∀ x ∈ zc_19_0, zchk 19 x = true := List.all_eq_true.mp (by decide +kernel)
def zc_19_1 : List zE := [(102, 103, .ireturn, 0, 0, 0)]
theorem zmk_19_1 : ∀ x ∈ zc_19_1, zchk 19 x = true := List.all_eq_true.mp (by decide +kernel)
def zc_19 : List zE := [(0, 1, .iconst 0, 0, 0, 0), (1, 2, .istore_n 2, 2, 0, 0), (2, 3, .iload_n 2, 2, 0, 0), (3, 4, .aload_n 0, 0, 0, 0), (4, 7, .getfield 43, 2, 0, 10), (7, 10, .if_icmp .ge 94, 101, 0, 0), (10, 11, .aload_n 0, 0, 0, 0), (11, 14, .getfield 25, 2, 19, 4), (14, 15, .aload_n 0, 0, 0, 0), (15, 18, .getfield 37, 2, 22, 8), (18, 19, .iload_n 2, 2, 0, 0), (19, 20, .iaload, 0, 0, 0), (20, 21, .iaload, 0, 0, 0), (21, 22, .istore_n 3, 3, 0, 0), (22, 23, .iload_n 3, 3, 0, 0), (23, 25, .istore 4, 4, 0, 0), (25, 26, .aload_n 0, 0, 0, 0), (26, 29, .getfield 37, 2, 22, 8), (29, 30, .iload_n 2, 2, 0, 0), (30, 31, .iaload, 0, 0, 0), (31, 33, .istore 5, 5, 0, 0), (33, 35, .iload 5, 5, 0, 0), (35, 36, .aload_n 0, 0, 0, 0), (36, 39, .getfield 37, 2, 22, 8), (39, 40, .iload_n 2, 2, 0, 0), (40, 41, .iconst 1, 0, 0, 1), (41, 42, .iadd, 0, 0, 0), (42, 43, .iaload, 0, 0, 0), (43, 46, .if_icmp .ge 35, 78, 0, 0), (46, 47, .iload_n 3, 3, 0, 0), (47, 48, .aload_n 0, 0, 0, 0), (48, 51, .getfield 25, 2, 19, 4), (51, 53, .iload 5, 5, 0, 0), (53, 54, .iaload, 0, 0, 0), (54, 57, .invokestatic 69, 9010, 0, 0), (57, 58, .istore_n 3, 3, 0, 0), (58, 60, .iload 4, 4, 0, 0), (60, 61, .aload_n 0, 0, 0, 0), (61, 64, .getfield 25, 2, 19, 4), (64, 66, .iload 5, 5, 0, 0), (66, 67, .iaload, 0, 0, 0), (67, 70, .invokestatic 74, 9011, 0, 0), (70, 72, .istore 4, 4, 0, 0), (72, 75, .iinc 5 1, 5, 0, 1), (75, 78, .goto (-42), 33, 0, 0), (78, 79, .iload_n 1, 1, 0, 0), (79, 80, .iload_n 3, 3, 0, 0), (80, 81, .iconst 5, 0, 0, 5), (81, 82, .isub, 0, 0, 0), (82, 85, .if_icmp .lt 13, 95, 0, 0), (85, 86, .iload_n 1, 1, 0, 0), (86, 88, .iload 4, 4, 0, 0), (88, 89, .iconst 5, 0, 0, 5), (89, 90, .iadd, 0, 0, 0), (90, 93, .if_icmp .gt 5, 95, 0, 0), (93, 94, .iload_n 2, 2, 0, 0), (94, 95, .ireturn, 0, 0, 0), (95, 98, .iinc 2 1, 2, 0, 1), (98, 101, .goto (-96), 2, 0, 0), (101, 102, .iconst (-1), 0, 0, (-1)), (102, 103, .ireturn, 0, 0, 0)]
set_option maxRecDepth 100000 in
theorem zmk_19 : zMok 19 zc_19 := ⟨by
  show ∀ x ∈ zc_19_0 ++ (zc_19_1), zchk 19 x = true
  exact List.forall_mem_append.mpr ⟨zmk_19_0, zmk_19_1⟩, by decide +kernel⟩
/-- PenLines$Line.nearestPiece -/
def zc_20 : List zE := [(0, 1, .aload_n 0, 0, 0, 0), (1, 4, .getfield 37, 2, 22, 8), (4, 5, .iload_n 1, 1, 0, 0), (5, 6, .iaload, 0, 0, 0), (6, 7, .istore_n 3, 3, 0, 0), (7, 8, .aload_n 0, 0, 0, 0), (8, 11, .getfield 37, 2, 22, 8), (11, 12, .iload_n 1, 1, 0, 0), (12, 13, .iaload, 0, 0, 0), (13, 15, .istore 4, 4, 0, 0), (15, 17, .iload 4, 4, 0, 0), (17, 18, .aload_n 0, 0, 0, 0), (18, 21, .getfield 37, 2, 22, 8), (21, 22, .iload_n 1, 1, 0, 0), (22, 23, .iconst 1, 0, 0, 1), (23, 24, .iadd, 0, 0, 0), (24, 25, .iaload, 0, 0, 0), (25, 28, .if_icmp .ge 38, 63, 0, 0), (28, 29, .aload_n 0, 0, 0, 0), (29, 32, .getfield 25, 2, 19, 4), (32, 34, .iload 4, 4, 0, 0), (34, 35, .iaload, 0, 0, 0), (35, 36, .iload_n 2, 2, 0, 0), (36, 37, .isub, 0, 0, 0), (37, 40, .invokestatic 77, 9012, 0, 0), (40, 41, .aload_n 0, 0, 0, 0), (41, 44, .getfield 25, 2, 19, 4), (44, 45, .iload_n 3, 3, 0, 0), (45, 46, .iaload, 0, 0, 0), (46, 47, .iload_n 2, 2, 0, 0), (47, 48, .isub, 0, 0, 0), (48, 51, .invokestatic 77, 9012, 0, 0), (51, 54, .if_icmp .ge 6, 57, 0, 0), (54, 56, .iload 4, 4, 0, 0), (56, 57, .istore_n 3, 3, 0, 0), (57, 60, .iinc 4 1, 4, 0, 1), (60, 63, .goto (-45), 15, 0, 0), (63, 64, .iload_n 3, 3, 0, 0), (64, 65, .ireturn, 0, 0, 0)]
theorem zmk_20 : zMok 20 zc_20 := ⟨List.all_eq_true.mp (by decide +kernel), by decide +kernel⟩
/-- PenLines$Line.piecesOf -/
def zc_21 : List zE := [(0, 1, .aload_n 0, 0, 0, 0), (1, 4, .getfield 37, 2, 22, 8), (4, 5, .iload_n 1, 1, 0, 0), (5, 6, .iconst 1, 0, 0, 1), (6, 7, .iadd, 0, 0, 0), (7, 8, .iaload, 0, 0, 0), (8, 9, .aload_n 0, 0, 0, 0), (9, 12, .getfield 37, 2, 22, 8), (12, 13, .iload_n 1, 1, 0, 0), (13, 14, .iaload, 0, 0, 0), (14, 15, .isub, 0, 0, 0), (15, 16, .ireturn, 0, 0, 0)]
theorem zmk_21 : zMok 21 zc_21 := ⟨List.all_eq_true.mp (by decide +kernel), by decide +kernel⟩
/-- PenLines$Line.rowCodeAt -/
def zc_22 : List zE := [(0, 1, .iconst 0, 0, 0, 0), (1, 2, .istore_n 3, 3, 0, 0), (2, 3, .iload_n 1, 1, 0, 0), (3, 5, .istore 4, 4, 0, 0), (5, 7, .iload 4, 4, 0, 0), (7, 8, .iload_n 1, 1, 0, 0), (8, 9, .iload_n 2, 2, 0, 0), (9, 10, .iadd, 0, 0, 0), (10, 13, .if_icmp .ge 30, 40, 0, 0), (13, 15, .iload 4, 4, 0, 0), (15, 16, .aload_n 0, 0, 0, 0), (16, 19, .getfield 34, 2, 0, 7), (19, 22, .if_icmp .ge 21, 40, 0, 0), (22, 23, .iload_n 3, 3, 0, 0), (23, 24, .aload_n 0, 0, 0, 0), (24, 27, .getfield 28, 2, 20, 5), (27, 29, .iload 4, 4, 0, 0), (29, 30, .iaload, 0, 0, 0), (30, 33, .invokestatic 80, 84, 2, 1), (33, 34, .istore_n 3, 3, 0, 0), (34, 37, .iinc 4 1, 4, 0, 1), (37, 40, .goto (-32), 5, 0, 0), (40, 41, .iload_n 3, 3, 0, 0), (41, 42, .ireturn, 0, 0, 0)]
theorem zmk_22 : zMok 22 zc_22 := ⟨List.all_eq_true.mp (by decide +kernel), by decide +kernel⟩
/-- PenLines$Line.hasDot -/
def zc_23 : List zE := [(0, 1, .iload_n 1, 1, 0, 0), (1, 2, .istore_n 3, 3, 0, 0), (2, 3, .iload_n 3, 3, 0, 0), (3, 4, .iload_n 1, 1, 0, 0), (4, 5, .iload_n 2, 2, 0, 0), (5, 6, .iadd, 0, 0, 0), (6, 9, .if_icmp .ge 28, 34, 0, 0), (9, 10, .iload_n 3, 3, 0, 0), (10, 11, .aload_n 0, 0, 0, 0), (11, 14, .getfield 34, 2, 0, 7), (14, 17, .if_icmp .ge 20, 34, 0, 0), (17, 18, .aload_n 0, 0, 0, 0), (18, 21, .getfield 31, 2, 21, 6), (21, 22, .iload_n 3, 3, 0, 0), (22, 23, .iaload, 0, 0, 0), (23, 26, .ifCond .le 5, 28, 0, 0), (26, 27, .iconst 1, 0, 0, 1), (27, 28, .ireturn, 1, 0, 0), (28, 31, .iinc 3 1, 3, 0, 1), (31, 34, .goto (-29), 2, 0, 0), (34, 35, .iconst 0, 0, 0, 0), (35, 36, .ireturn, 1, 0, 0)]
theorem zmk_23 : zMok 23 zc_23 := ⟨List.all_eq_true.mp (by decide +kernel), by decide +kernel⟩
/-- PenLines$ListReadings.read -/
def zc_24 : List zE := [(0, 1, .aload_n 0, 0, 0, 0), (1, 2, .iconst 0, 0, 0, 0), (2, 5, .putfield 18, 8, 0, 2), (5, 6, .iconst 0, 0, 0, 0), (6, 8, .istore 4, 4, 0, 0), (8, 10, .iload 4, 4, 0, 0), (10, 11, .aload_n 2, 2, 0, 0), (11, 14, .getfield 22, 4, 0, 3), (14, 17, .if_icmp .ge 37, 51, 0, 0), (17, 18, .aload_n 3, 3, 0, 0), (18, 19, .aload_n 1, 1, 0, 0), (19, 20, .aload_n 2, 2, 0, 0), (20, 23, .getfield 27, 4, 30, 2), (23, 25, .iload 4, 4, 0, 0), (25, 26, .laload, 0, 0, 0), (26, 29, .invokevirtual 31, 44, 2, 29), (29, 31, .istore 5, 5, 0, 0), (31, 33, .iload 5, 5, 0, 0), (33, 34, .iconst (-1), 0, 0, (-1)), (34, 37, .if_icmp .eq 11, 45, 0, 0), (37, 38, .aload_n 0, 0, 0, 0), (38, 40, .iload 4, 4, 0, 0), (40, 42, .iload 5, 5, 0, 0), (42, 45, .invokevirtual 37, 25, 2, 32), (45, 48, .iinc 4 1, 4, 0, 1), (48, 51, .goto (-40), 8, 0, 0), (51, 52, .return_, 0, 0, 0)]
theorem zmk_24 : zMok 24 zc_24 := ⟨List.all_eq_true.mp (by decide +kernel), by decide +kernel⟩
/-- PenLines$ListReadings.insert -/
def zc_25 : List zE := [(0, 1, .aload_n 0, 0, 0, 0), (1, 4, .getfield 18, 8, 0, 2), (4, 5, .istore_n 3, 3, 0, 0), (5, 6, .iload_n 3, 3, 0, 0), (6, 9, .ifCond .le 49, 55, 0, 0), (9, 10, .aload_n 0, 0, 0, 0), (10, 13, .getfield 15, 8, 38, 1), (13, 14, .iload_n 3, 3, 0, 0), (14, 15, .iconst 1, 0, 0, 1), (15, 16, .isub, 0, 0, 0), (16, 17, .iaload, 0, 0, 0), (17, 18, .iload_n 2, 2, 0, 0), (18, 21, .if_icmp .le 37, 55, 0, 0), (21, 22, .aload_n 0, 0, 0, 0), (22, 25, .getfield 9, 8, 37, 0), (25, 26, .iload_n 3, 3, 0, 0), (26, 27, .aload_n 0, 0, 0, 0), (27, 30, .getfield 9, 8, 37, 0), (30, 31, .iload_n 3, 3, 0, 0), (31, 32, .iconst 1, 0, 0, 1), (32, 33, .isub, 0, 0, 0), (33, 34, .iaload, 0, 0, 0), (34, 35, .iastore, 0, 0, 0), (35, 36, .aload_n 0, 0, 0, 0), (36, 39, .getfield 15, 8, 38, 1), (39, 40, .iload_n 3, 3, 0, 0), (40, 41, .aload_n 0, 0, 0, 0), (41, 44, .getfield 15, 8, 38, 1), (44, 45, .iload_n 3, 3, 0, 0), (45, 46, .iconst 1, 0, 0, 1), (46, 47, .isub, 0, 0, 0), (47, 48, .iaload, 0, 0, 0), (48, 49, .iastore, 0, 0, 0), (49, 52, .iinc 3 (-1), 3, 0, (-1)), (52, 55, .goto (-47), 5, 0, 0), (55, 56, .aload_n 0, 0, 0, 0), (56, 59, .getfield 9, 8, 37, 0), (59, 60, .iload_n 3, 3, 0, 0), (60, 61, .iload_n 1, 1, 0, 0), (61, 62, .iastore, 0, 0, 0), (62, 63, .aload_n 0, 0, 0, 0), (63, 66, .getfield 15, 8, 38, 1), (66, 67, .iload_n 3, 3, 0, 0), (67, 68, .iload_n 2, 2, 0, 0), (68, 69, .iastore, 0, 0, 0), (69, 70, .aload_n 0, 0, 0, 0), (70, 71, .dup, 0, 0, 0), (71, 74, .getfield 18, 8, 0, 2), (74, 75, .iconst 1, 0, 0, 1), (75, 76, .iadd, 0, 0, 0), (76, 79, .putfield 18, 8, 0, 2), (79, 80, .return_, 0, 0, 0)]
theorem zmk_25 : zMok 25 zc_25 := ⟨List.all_eq_true.mp (by decide +kernel), by decide +kernel⟩
/-- PenLines$OpenReadings.read -/
def zc_26_0 : List zE := [(0, 1, .aload_n 0, 0, 0, 0), (1, 2, .aload_n 1, 1, 0, 0), (2, 5, .getfield 29, 5, 0, 1), (5, 8, .putfield 22, 6, 0, 3), (8, 9, .aload_n 0, 0, 0, 0), (9, 10, .iconst 0, 0, 0, 0), (10, 11, .aload_n 0, 0, 0, 0), (11, 14, .getfield 22, 6, 0, 3), (14, 16, .bipush 12, 0, 0, 12), (16, 17, .isub, 0, 0, 0), (17, 20, .invokestatic 32, 9011, 0, 0), (20, 23, .putfield 26, 6, 0, 4), (23, 24, .aload_n 0, 0, 0, 0), (24, 27, .getfield 11, 6, 32, 0), (27, 30, .sipush 312, 0, 0, 312), (30, 31, .iconst 0, 0, 0, 0), (31, 32, .iastore, 0, 0, 0), (32, 33, .aload_n 0, 0, 0, 0), (33, 36, .getfield 22, 6, 0, 3), (36, 37, .iconst 1, 0, 0, 1), (37, 38, .isub, 0, 0, 0), (38, 39, .istore_n 3, 3, 0, 0), (39, 40, .iload_n 3, 3, 0, 0), (40, 43, .ifCond .lt 90, 130, 0, 0), (43, 44, .aload_n 0, 0, 0, 0), (44, 45, .iload_n 3, 3, 0, 0), (45, 46, .iconst 0, 0, 0, 0), (46, 47, .iconst 0, 0, 0, 0), (47, 50, .invokestatic 38, 27, 3, 1), (50, 53, .invokevirtual 42, 28, 1, 24), (53, 54, .iconst 1, 0, 0, 1), (54, 56, .istore 4, 4, 0, 0), (56, 58, .iload 4, 4, 0, 0), (58, 59, .iconst 3, 0, 0, 3), (59, 62, .if_icmp .gt 65, 124, 0, 0), (62, 63, .iload_n 3, 3, 0, 0), (63, 65, .iload 4, 4, 0, 0), (65, 66, .iadd, 0, 0, 0), (66, 67, .aload_n 0, 0, 0, 0), (67, 70, .getfield 22, 6, 0, 3), (70, 73, .if_icmp .gt 54, 124, 0, 0), (73, 74, .iconst 0, 0, 0, 0), (74, 76, .istore 5, 5, 0, 0), (76, 78, .iload 5, 5, 0, 0), (78, 80, .bipush 26, 0, 0, 26), (80, 83, .if_icmp .ge 38, 118, 0, 0), (83, 84, .aload_n 1, 1, 0, 0), (84, 85, .iload_n 3, 3, 0, 0), (85, 87, .iload 4, 4, 0, 0), (87, 89, .iload 5, 5, 0, 0), (89, 92, .invokevirtual 46, 13, 3, 21), (92, 94, .istore 6, 6, 0, 0), (94, 96, .iload 6, 6, 0, 0), (96, 97, .iconst (-1), 0, 0, (-1)), (97, 100, .if_icmp .eq 15, 112, 0, 0), (100, 101, .aload_n 0, 0, 0, 0), (101, 102, .aload_n 2, 2, 0, 0), (102, 103, .iload_n 3, 3, 0, 0), (103, 105, .iload 4, 4, 0, 0), (105, 107, .iload 5, 5, 0, 0)]
theorem zmk_26_0 : ∀ x ∈ zc_26_0, zchk 26 x = true := List.all_eq_true.mp (by decide +kernel)
def zc_26_1 : List zE := [(107, 109, .iload 6, 6, 0, 0), (109, 112, .invokevirtual 49, 29, 5, 24), (112, 115, .iinc 5 1, 5, 0, 1), (115, 118, .goto (-39), 76, 0, 0), (118, 121, .iinc 4 1, 4, 0, 1), (121, 124, .goto (-65), 56, 0, 0), (124, 127, .iinc 3 (-1), 3, 0, (-1)), (127, 130, .goto (-88), 39, 0, 0), (130, 131, .aload_n 0, 0, 0, 0), (131, 134, .invokevirtual 53, 31, 0, 24), (134, 135, .return_, 0, 0, 0)]
theorem zmk_26_1 : ∀ x ∈ zc_26_1, zchk 26 x = true := List.all_eq_true.mp (by decide +kernel)
def zc_26 : List zE := [(0, 1, .aload_n 0, 0, 0, 0), (1, 2, .aload_n 1, 1, 0, 0), (2, 5, .getfield 29, 5, 0, 1), (5, 8, .putfield 22, 6, 0, 3), (8, 9, .aload_n 0, 0, 0, 0), (9, 10, .iconst 0, 0, 0, 0), (10, 11, .aload_n 0, 0, 0, 0), (11, 14, .getfield 22, 6, 0, 3), (14, 16, .bipush 12, 0, 0, 12), (16, 17, .isub, 0, 0, 0), (17, 20, .invokestatic 32, 9011, 0, 0), (20, 23, .putfield 26, 6, 0, 4), (23, 24, .aload_n 0, 0, 0, 0), (24, 27, .getfield 11, 6, 32, 0), (27, 30, .sipush 312, 0, 0, 312), (30, 31, .iconst 0, 0, 0, 0), (31, 32, .iastore, 0, 0, 0), (32, 33, .aload_n 0, 0, 0, 0), (33, 36, .getfield 22, 6, 0, 3), (36, 37, .iconst 1, 0, 0, 1), (37, 38, .isub, 0, 0, 0), (38, 39, .istore_n 3, 3, 0, 0), (39, 40, .iload_n 3, 3, 0, 0), (40, 43, .ifCond .lt 90, 130, 0, 0), (43, 44, .aload_n 0, 0, 0, 0), (44, 45, .iload_n 3, 3, 0, 0), (45, 46, .iconst 0, 0, 0, 0), (46, 47, .iconst 0, 0, 0, 0), (47, 50, .invokestatic 38, 27, 3, 1), (50, 53, .invokevirtual 42, 28, 1, 24), (53, 54, .iconst 1, 0, 0, 1), (54, 56, .istore 4, 4, 0, 0), (56, 58, .iload 4, 4, 0, 0), (58, 59, .iconst 3, 0, 0, 3), (59, 62, .if_icmp .gt 65, 124, 0, 0), (62, 63, .iload_n 3, 3, 0, 0), (63, 65, .iload 4, 4, 0, 0), (65, 66, .iadd, 0, 0, 0), (66, 67, .aload_n 0, 0, 0, 0), (67, 70, .getfield 22, 6, 0, 3), (70, 73, .if_icmp .gt 54, 124, 0, 0), (73, 74, .iconst 0, 0, 0, 0), (74, 76, .istore 5, 5, 0, 0), (76, 78, .iload 5, 5, 0, 0), (78, 80, .bipush 26, 0, 0, 26), (80, 83, .if_icmp .ge 38, 118, 0, 0), (83, 84, .aload_n 1, 1, 0, 0), (84, 85, .iload_n 3, 3, 0, 0), (85, 87, .iload 4, 4, 0, 0), (87, 89, .iload 5, 5, 0, 0), (89, 92, .invokevirtual 46, 13, 3, 21), (92, 94, .istore 6, 6, 0, 0), (94, 96, .iload 6, 6, 0, 0), (96, 97, .iconst (-1), 0, 0, (-1)), (97, 100, .if_icmp .eq 15, 112, 0, 0), (100, 101, .aload_n 0, 0, 0, 0), (101, 102, .aload_n 2, 2, 0, 0), (102, 103, .iload_n 3, 3, 0, 0), (103, 105, .iload 4, 4, 0, 0), (105, 107, .iload 5, 5, 0, 0), (107, 109, .iload 6, 6, 0, 0), (109, 112, .invokevirtual 49, 29, 5, 24), (112, 115, .iinc 5 1, 5, 0, 1), (115, 118, .goto (-39), 76, 0, 0), (118, 121, .iinc 4 1, 4, 0, 1), (121, 124, .goto (-65), 56, 0, 0), (124, 127, .iinc 3 (-1), 3, 0, (-1)), (127, 130, .goto (-88), 39, 0, 0), (130, 131, .aload_n 0, 0, 0, 0), (131, 134, .invokevirtual 53, 31, 0, 24), (134, 135, .return_, 0, 0, 0)]
set_option maxRecDepth 100000 in
theorem zmk_26 : zMok 26 zc_26 := ⟨by
  show ∀ x ∈ zc_26_0 ++ (zc_26_1), zchk 26 x = true
  exact List.forall_mem_append.mpr ⟨zmk_26_0, zmk_26_1⟩, by decide +kernel⟩
/-- PenLines$OpenReadings.heap -/
def zc_27 : List zE := [(0, 1, .iload_n 0, 0, 0, 0), (1, 2, .iconst 4, 0, 0, 4), (2, 3, .irem, 0, 0, 0), (3, 4, .iconst 3, 0, 0, 3), (4, 5, .imul, 0, 0, 0), (5, 6, .iload_n 1, 1, 0, 0), (6, 7, .iadd, 0, 0, 0), (7, 9, .bipush 26, 0, 0, 26), (9, 10, .imul, 0, 0, 0), (10, 11, .iload_n 2, 2, 0, 0), (11, 12, .iadd, 0, 0, 0), (12, 13, .ireturn, 0, 0, 0)]
theorem zmk_27 : zMok 27 zc_27 := ⟨List.all_eq_true.mp (by decide +kernel), by decide +kernel⟩
/-- PenLines$OpenReadings.clear -/
def zc_28 : List zE := [(0, 1, .iload_n 1, 1, 0, 0), (1, 2, .istore_n 2, 2, 0, 0), (2, 3, .iload_n 2, 2, 0, 0), (3, 4, .iload_n 1, 1, 0, 0), (4, 6, .bipush 78, 0, 0, 78), (6, 7, .iadd, 0, 0, 0), (7, 10, .if_icmp .ge 16, 23, 0, 0), (10, 11, .aload_n 0, 0, 0, 0), (11, 14, .getfield 11, 6, 32, 0), (14, 15, .iload_n 2, 2, 0, 0), (15, 16, .iconst 0, 0, 0, 0), (16, 17, .iastore, 0, 0, 0), (17, 20, .iinc 2 1, 2, 0, 1), (20, 23, .goto (-18), 2, 0, 0), (23, 24, .return_, 0, 0, 0)]
theorem zmk_28 : zMok 28 zc_28 := ⟨List.all_eq_true.mp (by decide +kernel), by decide +kernel⟩
/-- PenLines$OpenReadings.extend -/
def zc_29_0 : List zE := [(0, 1, .iload_n 2, 2, 0, 0), (1, 2, .iload_n 3, 3, 0, 0), (2, 3, .iadd, 0, 0, 0), (3, 4, .aload_n 0, 0, 0, 0), (4, 7, .getfield 22, 6, 0, 3), (7, 10, .if_icmp .ne 33, 40, 0, 0), (10, 11, .aload_n 0, 0, 0, 0), (11, 12, .iload_n 2, 2, 0, 0), (12, 13, .aload_n 0, 0, 0, 0), (13, 16, .getfield 26, 6, 0, 4), (16, 17, .iload_n 3, 3, 0, 0), (17, 18, .iconst 1, 0, 0, 1), (18, 19, .isub, 0, 0, 0), (19, 22, .invokestatic 56, 9010, 0, 0), (22, 24, .iload 4, 4, 0, 0), (24, 27, .invokestatic 38, 27, 3, 1), (27, 29, .iload 5, 5, 0, 0), (29, 30, .lconst 0, 0, 0, 0), (30, 31, .iconst 0, 0, 0, 0), (31, 33, .iload 4, 4, 0, 0), (33, 36, .invokestatic 59, 89, 3, 2), (36, 39, .invokevirtual 63, 32, 3, 24), (39, 40, .return_, 0, 0, 0), (40, 41, .iconst 0, 0, 0, 0), (41, 43, .istore 6, 6, 0, 0), (43, 45, .iload 6, 6, 0, 0), (45, 47, .bipush 26, 0, 0, 26), (47, 50, .if_icmp .ge 171, 218, 0, 0), (50, 52, .iload 5, 5, 0, 0), (52, 53, .aload_n 1, 1, 0, 0), (53, 55, .iload 4, 4, 0, 0), (55, 57, .iload 6, 6, 0, 0), (57, 60, .invokevirtual 67, 5, 2, 13), (60, 61, .iadd, 0, 0, 0), (61, 63, .istore 7, 7, 0, 0), (63, 64, .iconst 0, 0, 0, 0), (64, 66, .istore 8, 8, 0, 0), (66, 68, .iload 8, 8, 0, 0), (68, 69, .aload_n 0, 0, 0, 0), (69, 72, .getfield 26, 6, 0, 4), (72, 75, .if_icmp .gt 140, 212, 0, 0), (75, 76, .iload_n 2, 2, 0, 0), (76, 77, .iload_n 3, 3, 0, 0), (77, 78, .iadd, 0, 0, 0), (78, 80, .iload 8, 8, 0, 0), (80, 82, .iload 6, 6, 0, 0), (82, 85, .invokestatic 38, 27, 3, 1), (85, 87, .istore 9, 9, 0, 0), (87, 88, .iload_n 2, 2, 0, 0), (88, 89, .aload_n 0, 0, 0, 0), (89, 92, .getfield 26, 6, 0, 4), (92, 94, .iload 8, 8, 0, 0), (94, 95, .iload_n 3, 3, 0, 0), (95, 96, .iadd, 0, 0, 0), (96, 97, .iconst 1, 0, 0, 1), (97, 98, .isub, 0, 0, 0), (98, 101, .invokestatic 56, 9010, 0, 0), (101, 103, .iload 4, 4, 0, 0), (103, 106, .invokestatic 38, 27, 3, 1), (106, 108, .istore 10, 10, 0, 0)]
theorem zmk_29_0 : ∀ x ∈ zc_29_0, zchk 29 x = true := List.all_eq_true.mp (by decide +kernel)
def zc_29_1 : List zE := [(108, 110, .iload 9, 9, 0, 0), (110, 111, .iconst 5, 0, 0, 5), (111, 112, .imul, 0, 0, 0), (112, 113, .aload_n 0, 0, 0, 0), (113, 116, .getfield 11, 6, 32, 0), (116, 118, .iload 9, 9, 0, 0), (118, 119, .iaload, 0, 0, 0), (119, 120, .iadd, 0, 0, 0), (120, 122, .istore 11, 11, 0, 0), (122, 124, .iload 9, 9, 0, 0), (124, 125, .iconst 5, 0, 0, 5), (125, 126, .imul, 0, 0, 0), (126, 128, .istore 12, 12, 0, 0), (128, 130, .iload 12, 12, 0, 0), (130, 132, .iload 11, 11, 0, 0), (132, 135, .if_icmp .ge 74, 206, 0, 0), (135, 137, .iload 7, 7, 0, 0), (137, 138, .aload_n 0, 0, 0, 0), (138, 141, .getfield 15, 6, 33, 1), (141, 143, .iload 12, 12, 0, 0), (143, 144, .iaload, 0, 0, 0), (144, 145, .iadd, 0, 0, 0), (145, 146, .aload_n 0, 0, 0, 0), (146, 148, .iload 10, 10, 0, 0), (148, 151, .invokevirtual 72, 30, 1, 25), (151, 154, .if_icmp .gt 55, 206, 0, 0), (154, 155, .aload_n 0, 0, 0, 0), (155, 158, .getfield 18, 6, 34, 2), (158, 160, .iload 12, 12, 0, 0), (160, 161, .laload, 0, 0, 0), (161, 163, .bipush 11, 0, 0, 11), (163, 166, .invokestatic 76, 87, 2, 1), (166, 169, .ifCond .ge 34, 200, 0, 0), (169, 170, .aload_n 0, 0, 0, 0), (170, 172, .iload 10, 10, 0, 0), (172, 174, .iload 7, 7, 0, 0), (174, 175, .aload_n 0, 0, 0, 0), (175, 178, .getfield 15, 6, 33, 1), (178, 180, .iload 12, 12, 0, 0), (180, 181, .iaload, 0, 0, 0), (181, 182, .iadd, 0, 0, 0), (182, 183, .aload_n 0, 0, 0, 0), (183, 186, .getfield 18, 6, 34, 2), (186, 188, .iload 12, 12, 0, 0), (188, 189, .laload, 0, 0, 0), (189, 190, .iconst 5, 0, 0, 5), (190, 191, .lushr, 0, 0, 0), (191, 192, .iconst 0, 0, 0, 0), (192, 194, .iload 4, 4, 0, 0), (194, 197, .invokestatic 59, 89, 3, 2), (197, 200, .invokevirtual 63, 32, 3, 24), (200, 203, .iinc 12 1, 12, 0, 1), (203, 206, .goto (-75), 128, 0, 0), (206, 209, .iinc 8 1, 8, 0, 1), (209, 212, .goto (-143), 66, 0, 0), (212, 215, .iinc 6 1, 6, 0, 1), (215, 218, .goto (-172), 43, 0, 0), (218, 219, .return_, 0, 0, 0)]
theorem zmk_29_1 : ∀ x ∈ zc_29_1, zchk 29 x = true := List.all_eq_true.mp (by decide +kernel)
def zc_29 : List zE := [(0, 1, .iload_n 2, 2, 0, 0), (1, 2, .iload_n 3, 3, 0, 0), (2, 3, .iadd, 0, 0, 0), (3, 4, .aload_n 0, 0, 0, 0), (4, 7, .getfield 22, 6, 0, 3), (7, 10, .if_icmp .ne 33, 40, 0, 0), (10, 11, .aload_n 0, 0, 0, 0), (11, 12, .iload_n 2, 2, 0, 0), (12, 13, .aload_n 0, 0, 0, 0), (13, 16, .getfield 26, 6, 0, 4), (16, 17, .iload_n 3, 3, 0, 0), (17, 18, .iconst 1, 0, 0, 1), (18, 19, .isub, 0, 0, 0), (19, 22, .invokestatic 56, 9010, 0, 0), (22, 24, .iload 4, 4, 0, 0), (24, 27, .invokestatic 38, 27, 3, 1), (27, 29, .iload 5, 5, 0, 0), (29, 30, .lconst 0, 0, 0, 0), (30, 31, .iconst 0, 0, 0, 0), (31, 33, .iload 4, 4, 0, 0), (33, 36, .invokestatic 59, 89, 3, 2), (36, 39, .invokevirtual 63, 32, 3, 24), (39, 40, .return_, 0, 0, 0), (40, 41, .iconst 0, 0, 0, 0), (41, 43, .istore 6, 6, 0, 0), (43, 45, .iload 6, 6, 0, 0), (45, 47, .bipush 26, 0, 0, 26), (47, 50, .if_icmp .ge 171, 218, 0, 0), (50, 52, .iload 5, 5, 0, 0), (52, 53, .aload_n 1, 1, 0, 0), (53, 55, .iload 4, 4, 0, 0), (55, 57, .iload 6, 6, 0, 0), (57, 60, .invokevirtual 67, 5, 2, 13), (60, 61, .iadd, 0, 0, 0), (61, 63, .istore 7, 7, 0, 0), (63, 64, .iconst 0, 0, 0, 0), (64, 66, .istore 8, 8, 0, 0), (66, 68, .iload 8, 8, 0, 0), (68, 69, .aload_n 0, 0, 0, 0), (69, 72, .getfield 26, 6, 0, 4), (72, 75, .if_icmp .gt 140, 212, 0, 0), (75, 76, .iload_n 2, 2, 0, 0), (76, 77, .iload_n 3, 3, 0, 0), (77, 78, .iadd, 0, 0, 0), (78, 80, .iload 8, 8, 0, 0), (80, 82, .iload 6, 6, 0, 0), (82, 85, .invokestatic 38, 27, 3, 1), (85, 87, .istore 9, 9, 0, 0), (87, 88, .iload_n 2, 2, 0, 0), (88, 89, .aload_n 0, 0, 0, 0), (89, 92, .getfield 26, 6, 0, 4), (92, 94, .iload 8, 8, 0, 0), (94, 95, .iload_n 3, 3, 0, 0), (95, 96, .iadd, 0, 0, 0), (96, 97, .iconst 1, 0, 0, 1), (97, 98, .isub, 0, 0, 0), (98, 101, .invokestatic 56, 9010, 0, 0), (101, 103, .iload 4, 4, 0, 0), (103, 106, .invokestatic 38, 27, 3, 1), (106, 108, .istore 10, 10, 0, 0), (108, 110, .iload 9, 9, 0, 0), (110, 111, .iconst 5, 0, 0, 5), (111, 112, .imul, 0, 0, 0), (112, 113, .aload_n 0, 0, 0, 0), (113, 116, .getfield 11, 6, 32, 0), (116, 118, .iload 9, 9, 0, 0), (118, 119, .iaload, 0, 0, 0), (119, 120, .iadd, 0, 0, 0), (120, 122, .istore 11, 11, 0, 0), (122, 124, .iload 9, 9, 0, 0), (124, 125, .iconst 5, 0, 0, 5), (125, 126, .imul, 0, 0, 0), (126, 128, .istore 12, 12, 0, 0), (128, 130, .iload 12, 12, 0, 0), (130, 132, .iload 11, 11, 0, 0), (132, 135, .if_icmp .ge 74, 206, 0, 0), (135, 137, .iload 7, 7, 0, 0), (137, 138, .aload_n 0, 0, 0, 0), (138, 141, .getfield 15, 6, 33, 1), (141, 143, .iload 12, 12, 0, 0), (143, 144, .iaload, 0, 0, 0), (144, 145, .iadd, 0, 0, 0), (145, 146, .aload_n 0, 0, 0, 0), (146, 148, .iload 10, 10, 0, 0), (148, 151, .invokevirtual 72, 30, 1, 25), (151, 154, .if_icmp .gt 55, 206, 0, 0), (154, 155, .aload_n 0, 0, 0, 0), (155, 158, .getfield 18, 6, 34, 2), (158, 160, .iload 12, 12, 0, 0), (160, 161, .laload, 0, 0, 0), (161, 163, .bipush 11, 0, 0, 11), (163, 166, .invokestatic 76, 87, 2, 1), (166, 169, .ifCond .ge 34, 200, 0, 0), (169, 170, .aload_n 0, 0, 0, 0), (170, 172, .iload 10, 10, 0, 0), (172, 174, .iload 7, 7, 0, 0), (174, 175, .aload_n 0, 0, 0, 0), (175, 178, .getfield 15, 6, 33, 1), (178, 180, .iload 12, 12, 0, 0), (180, 181, .iaload, 0, 0, 0), (181, 182, .iadd, 0, 0, 0), (182, 183, .aload_n 0, 0, 0, 0), (183, 186, .getfield 18, 6, 34, 2), (186, 188, .iload 12, 12, 0, 0), (188, 189, .laload, 0, 0, 0), (189, 190, .iconst 5, 0, 0, 5), (190, 191, .lushr, 0, 0, 0), (191, 192, .iconst 0, 0, 0, 0), (192, 194, .iload 4, 4, 0, 0), (194, 197, .invokestatic 59, 89, 3, 2), (197, 200, .invokevirtual 63, 32, 3, 24), (200, 203, .iinc 12 1, 12, 0, 1), (203, 206, .goto (-75), 128, 0, 0), (206, 209, .iinc 8 1, 8, 0, 1), (209, 212, .goto (-143), 66, 0, 0), (212, 215, .iinc 6 1, 6, 0, 1), (215, 218, .goto (-172), 43, 0, 0), (218, 219, .return_, 0, 0, 0)]
set_option maxRecDepth 100000 in
theorem zmk_29 : zMok 29 zc_29 := ⟨by
  show ∀ x ∈ zc_29_0 ++ (zc_29_1), zchk 29 x = true
  exact List.forall_mem_append.mpr ⟨zmk_29_0, zmk_29_1⟩, by decide +kernel⟩
/-- PenLines$OpenReadings.dearest -/
def zc_30 : List zE := [(0, 1, .aload_n 0, 0, 0, 0), (1, 4, .getfield 11, 6, 32, 0), (4, 5, .iload_n 1, 1, 0, 0), (5, 6, .iaload, 0, 0, 0), (6, 7, .iconst 5, 0, 0, 5), (7, 10, .if_icmp .ge 8, 15, 0, 0), (10, 12, .ldc 80, 0, 0, 1000000), (12, 15, .goto 15, 27, 0, 0), (15, 16, .aload_n 0, 0, 0, 0), (16, 19, .getfield 15, 6, 33, 1), (19, 20, .iload_n 1, 1, 0, 0), (20, 21, .iconst 5, 0, 0, 5), (21, 22, .imul, 0, 0, 0), (22, 23, .iconst 5, 0, 0, 5), (23, 24, .iadd, 0, 0, 0), (24, 25, .iconst 1, 0, 0, 1), (25, 26, .isub, 0, 0, 0), (26, 27, .iaload, 0, 0, 0), (27, 28, .ireturn, 0, 0, 0)]
theorem zmk_30 : zMok 30 zc_30 := ⟨List.all_eq_true.mp (by decide +kernel), by decide +kernel⟩
/-- PenLines$OpenReadings.gatherWhole -/
def zc_31 : List zE := [(0, 1, .iconst 0, 0, 0, 0), (1, 2, .istore_n 1, 1, 0, 0), (2, 3, .aload_n 0, 0, 0, 0), (3, 6, .getfield 22, 6, 0, 3), (6, 9, .ifCond .le 68, 74, 0, 0), (9, 10, .iload_n 1, 1, 0, 0), (10, 12, .bipush 26, 0, 0, 26), (12, 15, .if_icmp .ge 62, 74, 0, 0), (15, 16, .iconst 0, 0, 0, 0), (16, 17, .aload_n 0, 0, 0, 0), (17, 20, .getfield 26, 6, 0, 4), (20, 21, .iload_n 1, 1, 0, 0), (21, 24, .invokestatic 38, 27, 3, 1), (24, 25, .istore_n 2, 2, 0, 0), (25, 26, .iload_n 2, 2, 0, 0), (26, 27, .iconst 5, 0, 0, 5), (27, 28, .imul, 0, 0, 0), (28, 29, .istore_n 3, 3, 0, 0), (29, 30, .iload_n 3, 3, 0, 0), (30, 31, .iload_n 2, 2, 0, 0), (31, 32, .iconst 5, 0, 0, 5), (32, 33, .imul, 0, 0, 0), (33, 34, .aload_n 0, 0, 0, 0), (34, 37, .getfield 11, 6, 32, 0), (37, 38, .iload_n 2, 2, 0, 0), (38, 39, .iaload, 0, 0, 0), (39, 40, .iadd, 0, 0, 0), (40, 43, .if_icmp .ge 28, 68, 0, 0), (43, 44, .aload_n 0, 0, 0, 0), (44, 47, .sipush 312, 0, 0, 312), (47, 48, .aload_n 0, 0, 0, 0), (48, 51, .getfield 15, 6, 33, 1), (51, 52, .iload_n 3, 3, 0, 0), (52, 53, .iaload, 0, 0, 0), (53, 54, .aload_n 0, 0, 0, 0), (54, 57, .getfield 18, 6, 34, 2), (57, 58, .iload_n 3, 3, 0, 0), (58, 59, .laload, 0, 0, 0), (59, 62, .invokevirtual 63, 32, 3, 24), (62, 65, .iinc 3 1, 3, 0, 1), (65, 68, .goto (-36), 29, 0, 0), (68, 71, .iinc 1 1, 1, 0, 1), (71, 74, .goto (-69), 2, 0, 0), (74, 75, .return_, 0, 0, 0)]
theorem zmk_31 : zMok 31 zc_31 := ⟨List.all_eq_true.mp (by decide +kernel), by decide +kernel⟩
/-- PenLines$OpenReadings.offer -/
def zc_32 : List zE := [(0, 1, .iload_n 1, 1, 0, 0), (1, 2, .iconst 5, 0, 0, 5), (2, 3, .imul, 0, 0, 0), (3, 5, .istore 5, 5, 0, 0), (5, 6, .aload_n 0, 0, 0, 0), (6, 7, .iload_n 1, 1, 0, 0), (7, 8, .iload_n 2, 2, 0, 0), (8, 9, .lload_n 3, 3, 0, 0), (9, 12, .invokevirtual 81, 33, 3, 25), (12, 14, .istore 6, 6, 0, 0), (14, 16, .iload 6, 6, 0, 0), (16, 18, .iload 5, 5, 0, 0), (18, 21, .if_icmp .ge 4, 22, 0, 0), (21, 22, .return_, 0, 0, 0), (22, 24, .iload 6, 6, 0, 0), (24, 26, .iload 5, 5, 0, 0), (26, 29, .if_icmp .le 54, 80, 0, 0), (29, 30, .aload_n 0, 0, 0, 0), (30, 31, .iload_n 2, 2, 0, 0), (31, 32, .lload_n 3, 3, 0, 0), (32, 34, .iload 6, 6, 0, 0), (34, 35, .iconst 1, 0, 0, 1), (35, 36, .isub, 0, 0, 0), (36, 39, .invokevirtual 85, 34, 3, 25), (39, 42, .ifCond .eq 41, 80, 0, 0), (42, 43, .aload_n 0, 0, 0, 0), (43, 46, .getfield 15, 6, 33, 1), (46, 48, .iload 6, 6, 0, 0), (48, 49, .aload_n 0, 0, 0, 0), (49, 52, .getfield 15, 6, 33, 1), (52, 54, .iload 6, 6, 0, 0), (54, 55, .iconst 1, 0, 0, 1), (55, 56, .isub, 0, 0, 0), (56, 57, .iaload, 0, 0, 0), (57, 58, .iastore, 0, 0, 0), (58, 59, .aload_n 0, 0, 0, 0), (59, 62, .getfield 18, 6, 34, 2), (62, 64, .iload 6, 6, 0, 0), (64, 65, .aload_n 0, 0, 0, 0), (65, 68, .getfield 18, 6, 34, 2), (68, 70, .iload 6, 6, 0, 0), (70, 71, .iconst 1, 0, 0, 1), (71, 72, .isub, 0, 0, 0), (72, 73, .laload, 0, 0, 0), (73, 74, .lastore, 0, 0, 0), (74, 77, .iinc 6 (-1), 6, 0, (-1)), (77, 80, .goto (-55), 22, 0, 0), (80, 81, .aload_n 0, 0, 0, 0), (81, 84, .getfield 15, 6, 33, 1), (84, 86, .iload 6, 6, 0, 0), (86, 87, .iload_n 2, 2, 0, 0), (87, 88, .iastore, 0, 0, 0), (88, 89, .aload_n 0, 0, 0, 0), (89, 92, .getfield 18, 6, 34, 2), (92, 94, .iload 6, 6, 0, 0), (94, 95, .lload_n 3, 3, 0, 0), (95, 96, .lastore, 0, 0, 0), (96, 97, .return_, 0, 0, 0)]
theorem zmk_32 : zMok 32 zc_32 := ⟨List.all_eq_true.mp (by decide +kernel), by decide +kernel⟩
/-- PenLines$OpenReadings.placeFor -/
def zc_33_0 : List zE := [(0, 1, .iload_n 1, 1, 0, 0), (1, 2, .iconst 5, 0, 0, 5), (2, 3, .imul, 0, 0, 0), (3, 5, .istore 5, 5, 0, 0), (5, 7, .iload 5, 5, 0, 0), (7, 8, .aload_n 0, 0, 0, 0), (8, 11, .getfield 11, 6, 32, 0), (11, 12, .iload_n 1, 1, 0, 0), (12, 13, .iaload, 0, 0, 0), (13, 14, .iadd, 0, 0, 0), (14, 16, .istore 6, 6, 0, 0), (16, 17, .aload_n 0, 0, 0, 0), (17, 20, .getfield 11, 6, 32, 0), (20, 21, .iload_n 1, 1, 0, 0), (21, 22, .iaload, 0, 0, 0), (22, 23, .iconst 5, 0, 0, 5), (23, 26, .if_icmp .ne 18, 41, 0, 0), (26, 27, .aload_n 0, 0, 0, 0), (27, 28, .iload_n 2, 2, 0, 0), (28, 29, .lload_n 3, 3, 0, 0), (29, 31, .iload 6, 6, 0, 0), (31, 32, .iconst 1, 0, 0, 1), (32, 33, .isub, 0, 0, 0), (33, 36, .invokevirtual 85, 34, 3, 25), (36, 39, .ifCond .ne 5, 41, 0, 0), (39, 40, .iconst (-1), 0, 0, (-1)), (40, 41, .ireturn, 0, 0, 0), (41, 43, .iload 5, 5, 0, 0), (43, 45, .istore 7, 7, 0, 0), (45, 47, .iload 7, 7, 0, 0), (47, 49, .iload 6, 6, 0, 0), (49, 52, .if_icmp .ge 39, 88, 0, 0), (52, 53, .aload_n 0, 0, 0, 0), (53, 56, .getfield 18, 6, 34, 2), (56, 58, .iload 7, 7, 0, 0), (58, 59, .laload, 0, 0, 0), (59, 60, .lload_n 3, 3, 0, 0), (60, 61, .lcmp, 0, 0, 0), (61, 64, .ifCond .ne 21, 82, 0, 0), (64, 65, .iload_n 2, 2, 0, 0), (65, 66, .aload_n 0, 0, 0, 0), (66, 69, .getfield 15, 6, 33, 1), (69, 71, .iload 7, 7, 0, 0), (71, 72, .iaload, 0, 0, 0), (72, 75, .if_icmp .ge 8, 80, 0, 0), (75, 77, .iload 7, 7, 0, 0), (77, 80, .goto 4, 81, 0, 0), (80, 81, .iconst (-1), 0, 0, (-1)), (81, 82, .ireturn, 0, 0, 0), (82, 85, .iinc 7 1, 7, 0, 1), (85, 88, .goto (-40), 45, 0, 0), (88, 89, .aload_n 0, 0, 0, 0), (89, 92, .getfield 11, 6, 32, 0), (92, 93, .iload_n 1, 1, 0, 0), (93, 94, .iaload, 0, 0, 0), (94, 95, .iconst 5, 0, 0, 5), (95, 98, .if_icmp .ne 8, 103, 0, 0), (98, 100, .iload 6, 6, 0, 0), (100, 101, .iconst 1, 0, 0, 1), (101, 102, .isub, 0, 0, 0)]
theorem zmk_33_0 : ∀ x ∈ zc_33_0, zchk 33 x = true := List.all_eq_true.mp (by decide +kernel)
def zc_33_1 : List zE := [(102, 103, .ireturn, 0, 0, 0), (103, 104, .aload_n 0, 0, 0, 0), (104, 107, .getfield 11, 6, 32, 0), (107, 108, .iload_n 1, 1, 0, 0), (108, 109, .dup2, 0, 0, 0), (109, 110, .iaload, 0, 0, 0), (110, 111, .iconst 1, 0, 0, 1), (111, 112, .iadd, 0, 0, 0), (112, 113, .iastore, 0, 0, 0), (113, 115, .iload 6, 6, 0, 0), (115, 116, .ireturn, 0, 0, 0)]
theorem zmk_33_1 : ∀ x ∈ zc_33_1, zchk 33 x = true := List.all_eq_true.mp (by decide +kernel)
def zc_33 : List zE := [(0, 1, .iload_n 1, 1, 0, 0), (1, 2, .iconst 5, 0, 0, 5), (2, 3, .imul, 0, 0, 0), (3, 5, .istore 5, 5, 0, 0), (5, 7, .iload 5, 5, 0, 0), (7, 8, .aload_n 0, 0, 0, 0), (8, 11, .getfield 11, 6, 32, 0), (11, 12, .iload_n 1, 1, 0, 0), (12, 13, .iaload, 0, 0, 0), (13, 14, .iadd, 0, 0, 0), (14, 16, .istore 6, 6, 0, 0), (16, 17, .aload_n 0, 0, 0, 0), (17, 20, .getfield 11, 6, 32, 0), (20, 21, .iload_n 1, 1, 0, 0), (21, 22, .iaload, 0, 0, 0), (22, 23, .iconst 5, 0, 0, 5), (23, 26, .if_icmp .ne 18, 41, 0, 0), (26, 27, .aload_n 0, 0, 0, 0), (27, 28, .iload_n 2, 2, 0, 0), (28, 29, .lload_n 3, 3, 0, 0), (29, 31, .iload 6, 6, 0, 0), (31, 32, .iconst 1, 0, 0, 1), (32, 33, .isub, 0, 0, 0), (33, 36, .invokevirtual 85, 34, 3, 25), (36, 39, .ifCond .ne 5, 41, 0, 0), (39, 40, .iconst (-1), 0, 0, (-1)), (40, 41, .ireturn, 0, 0, 0), (41, 43, .iload 5, 5, 0, 0), (43, 45, .istore 7, 7, 0, 0), (45, 47, .iload 7, 7, 0, 0), (47, 49, .iload 6, 6, 0, 0), (49, 52, .if_icmp .ge 39, 88, 0, 0), (52, 53, .aload_n 0, 0, 0, 0), (53, 56, .getfield 18, 6, 34, 2), (56, 58, .iload 7, 7, 0, 0), (58, 59, .laload, 0, 0, 0), (59, 60, .lload_n 3, 3, 0, 0), (60, 61, .lcmp, 0, 0, 0), (61, 64, .ifCond .ne 21, 82, 0, 0), (64, 65, .iload_n 2, 2, 0, 0), (65, 66, .aload_n 0, 0, 0, 0), (66, 69, .getfield 15, 6, 33, 1), (69, 71, .iload 7, 7, 0, 0), (71, 72, .iaload, 0, 0, 0), (72, 75, .if_icmp .ge 8, 80, 0, 0), (75, 77, .iload 7, 7, 0, 0), (77, 80, .goto 4, 81, 0, 0), (80, 81, .iconst (-1), 0, 0, (-1)), (81, 82, .ireturn, 0, 0, 0), (82, 85, .iinc 7 1, 7, 0, 1), (85, 88, .goto (-40), 45, 0, 0), (88, 89, .aload_n 0, 0, 0, 0), (89, 92, .getfield 11, 6, 32, 0), (92, 93, .iload_n 1, 1, 0, 0), (93, 94, .iaload, 0, 0, 0), (94, 95, .iconst 5, 0, 0, 5), (95, 98, .if_icmp .ne 8, 103, 0, 0), (98, 100, .iload 6, 6, 0, 0), (100, 101, .iconst 1, 0, 0, 1), (101, 102, .isub, 0, 0, 0), (102, 103, .ireturn, 0, 0, 0), (103, 104, .aload_n 0, 0, 0, 0), (104, 107, .getfield 11, 6, 32, 0), (107, 108, .iload_n 1, 1, 0, 0), (108, 109, .dup2, 0, 0, 0), (109, 110, .iaload, 0, 0, 0), (110, 111, .iconst 1, 0, 0, 1), (111, 112, .iadd, 0, 0, 0), (112, 113, .iastore, 0, 0, 0), (113, 115, .iload 6, 6, 0, 0), (115, 116, .ireturn, 0, 0, 0)]
set_option maxRecDepth 100000 in
theorem zmk_33 : zMok 33 zc_33 := ⟨by
  show ∀ x ∈ zc_33_0 ++ (zc_33_1), zchk 33 x = true
  exact List.forall_mem_append.mpr ⟨zmk_33_0, zmk_33_1⟩, by decide +kernel⟩
/-- PenLines$OpenReadings.isAhead -/
def zc_34 : List zE := [(0, 1, .iload_n 1, 1, 0, 0), (1, 2, .aload_n 0, 0, 0, 0), (2, 5, .getfield 15, 6, 33, 1), (5, 7, .iload 4, 4, 0, 0), (7, 8, .iaload, 0, 0, 0), (8, 11, .if_icmp .lt 26, 34, 0, 0), (11, 12, .iload_n 1, 1, 0, 0), (12, 13, .aload_n 0, 0, 0, 0), (13, 16, .getfield 15, 6, 33, 1), (16, 18, .iload 4, 4, 0, 0), (18, 19, .iaload, 0, 0, 0), (19, 22, .if_icmp .ne 19, 38, 0, 0), (22, 23, .lload_n 2, 2, 0, 0), (23, 24, .aload_n 0, 0, 0, 0), (24, 27, .getfield 18, 6, 34, 2), (27, 29, .iload 4, 4, 0, 0), (29, 30, .laload, 0, 0, 0), (30, 31, .lcmp, 0, 0, 0), (31, 34, .ifCond .ge 7, 38, 0, 0), (34, 35, .iconst 1, 0, 0, 1), (35, 38, .goto 4, 39, 0, 0), (38, 39, .iconst 0, 0, 0, 0), (39, 40, .ireturn, 1, 0, 0)]
theorem zmk_34 : zMok 34 zc_34 := ⟨List.all_eq_true.mp (by decide +kernel), by decide +kernel⟩
/-- PenLines$OpenReadings.told -/
def zc_35 : List zE := [(0, 1, .aload_n 0, 0, 0, 0), (1, 4, .getfield 11, 6, 32, 0), (4, 7, .sipush 312, 0, 0, 312), (7, 8, .iaload, 0, 0, 0), (8, 9, .ireturn, 0, 0, 0)]
theorem zmk_35 : zMok 35 zc_35 := ⟨List.all_eq_true.mp (by decide +kernel), by decide +kernel⟩
/-- PenLines$OpenReadings.cost -/
def zc_36 : List zE := [(0, 1, .aload_n 0, 0, 0, 0), (1, 4, .getfield 15, 6, 33, 1), (4, 7, .sipush 1560, 0, 0, 1560), (7, 8, .iload_n 1, 1, 0, 0), (8, 9, .iadd, 0, 0, 0), (9, 10, .iaload, 0, 0, 0), (10, 11, .ireturn, 0, 0, 0)]
theorem zmk_36 : zMok 36 zc_36 := ⟨List.all_eq_true.mp (by decide +kernel), by decide +kernel⟩
/-- PenLines$OpenReadings.word -/
def zc_37 : List zE := [(0, 1, .aload_n 0, 0, 0, 0), (1, 4, .getfield 18, 6, 34, 2), (4, 7, .sipush 1560, 0, 0, 1560), (7, 8, .iload_n 1, 1, 0, 0), (8, 9, .iadd, 0, 0, 0), (9, 10, .laload, 0, 0, 0), (10, 11, .lreturn, 0, 0, 0)]
theorem zmk_37 : zMok 37 zc_37 := ⟨List.all_eq_true.mp (by decide +kernel), by decide +kernel⟩
/-- PenLines$OpenReadings.tell -/
def zc_38 : List zE := [(0, 1, .iconst 0, 0, 0, 0), (1, 2, .istore_n 3, 3, 0, 0), (2, 3, .iload_n 3, 3, 0, 0), (3, 4, .aload_n 0, 0, 0, 0), (4, 7, .invokevirtual 89, 35, 0, 25), (7, 10, .if_icmp .ge 21, 28, 0, 0), (10, 11, .aload_n 0, 0, 0, 0), (11, 12, .iload_n 3, 3, 0, 0), (12, 15, .invokevirtual 93, 37, 1, 26), (15, 16, .lload_n 1, 1, 0, 0), (16, 17, .lcmp, 0, 0, 0), (17, 20, .ifCond .ne 5, 22, 0, 0), (20, 21, .iconst 1, 0, 0, 1), (21, 22, .ireturn, 1, 0, 0), (22, 25, .iinc 3 1, 3, 0, 1), (25, 28, .goto (-23), 2, 0, 0), (28, 29, .iconst 0, 0, 0, 0), (29, 30, .ireturn, 1, 0, 0)]
theorem zmk_38 : zMok 38 zc_38 := ⟨List.all_eq_true.mp (by decide +kernel), by decide +kernel⟩
/-- PenLines$Sheets.lay -/
def zc_39 : List zE := [(0, 1, .aload_n 0, 0, 0, 0), (1, 4, .getfield 9, 1, 13, 0), (4, 5, .iload_n 1, 1, 0, 0), (5, 6, .iconst 1, 0, 0, 1), (6, 7, .bastore, 0, 0, 0), (7, 8, .aload_n 0, 0, 0, 0), (8, 11, .getfield 15, 1, 14, 1), (11, 12, .iload_n 1, 1, 0, 0), (12, 13, .iload_n 2, 2, 0, 0), (13, 14, .iastore, 0, 0, 0), (14, 15, .aload_n 0, 0, 0, 0), (15, 18, .getfield 19, 1, 15, 2), (18, 19, .iload_n 1, 1, 0, 0), (19, 20, .iload_n 3, 3, 0, 0), (20, 21, .iastore, 0, 0, 0), (21, 22, .aload_n 0, 0, 0, 0), (22, 25, .getfield 24, 1, 16, 3), (25, 26, .iload_n 1, 1, 0, 0), (26, 27, .aaload, 0, 0, 0), (27, 28, .iconst 0, 0, 0, 0), (28, 31, .invokestatic 27, 158, 2, 0), (31, 32, .return_, 0, 0, 0)]
theorem zmk_39 : zMok 39 zc_39 := ⟨List.all_eq_true.mp (by decide +kernel), by decide +kernel⟩
/-- PenLines$Sheets.reaches -/
def zc_40 : List zE := [(0, 1, .iload_n 2, 2, 0, 0), (1, 4, .ifCond .lt 33, 34, 0, 0), (4, 5, .iload_n 3, 3, 0, 0), (5, 8, .ifCond .lt 29, 34, 0, 0), (8, 9, .iload_n 2, 2, 0, 0), (9, 10, .aload_n 0, 0, 0, 0), (10, 13, .getfield 19, 1, 15, 2), (13, 14, .iload_n 1, 1, 0, 0), (14, 15, .iaload, 0, 0, 0), (15, 18, .if_icmp .gt 19, 34, 0, 0), (18, 19, .iload_n 3, 3, 0, 0), (19, 20, .aload_n 0, 0, 0, 0), (20, 23, .getfield 19, 1, 15, 2), (23, 24, .iload_n 1, 1, 0, 0), (24, 25, .iaload, 0, 0, 0), (25, 26, .iload_n 2, 2, 0, 0), (26, 27, .isub, 0, 0, 0), (27, 30, .if_icmp .gt 7, 34, 0, 0), (30, 31, .iconst 1, 0, 0, 1), (31, 34, .goto 4, 35, 0, 0), (34, 35, .iconst 0, 0, 0, 0), (35, 36, .ireturn, 1, 0, 0)]
theorem zmk_40 : zMok 40 zc_40 := ⟨List.all_eq_true.mp (by decide +kernel), by decide +kernel⟩
/-- PenLines$Sheets.put -/
def zc_41 : List zE := [(0, 1, .iload_n 3, 3, 0, 0), (1, 3, .istore 4, 4, 0, 0), (3, 4, .aload_n 0, 0, 0, 0), (4, 7, .getfield 15, 1, 14, 1), (7, 8, .iload_n 1, 1, 0, 0), (8, 9, .iaload, 0, 0, 0), (9, 12, .ifCond .ne 10, 19, 0, 0), (12, 13, .iload_n 3, 3, 0, 0), (13, 14, .i2b, 0, 0, 0), (14, 16, .istore 4, 4, 0, 0), (16, 19, .goto 17, 33, 0, 0), (19, 20, .aload_n 0, 0, 0, 0), (20, 23, .getfield 15, 1, 14, 1), (23, 24, .iload_n 1, 1, 0, 0), (24, 25, .iaload, 0, 0, 0), (25, 26, .iconst 1, 0, 0, 1), (26, 29, .if_icmp .ne 7, 33, 0, 0), (29, 30, .iload_n 3, 3, 0, 0), (30, 31, .i2s, 0, 0, 0), (31, 33, .istore 4, 4, 0, 0), (33, 34, .aload_n 0, 0, 0, 0), (34, 37, .getfield 24, 1, 16, 3), (37, 38, .iload_n 1, 1, 0, 0), (38, 39, .aaload, 0, 0, 0), (39, 40, .iload_n 2, 2, 0, 0), (40, 42, .iload 4, 4, 0, 0), (42, 43, .iastore, 0, 0, 0), (43, 45, .iload 4, 4, 0, 0), (45, 46, .ireturn, 0, 0, 0)]
theorem zmk_41 : zMok 41 zc_41 := ⟨List.all_eq_true.mp (by decide +kernel), by decide +kernel⟩
/-- PenLines$Sheets.holdsPieces -/
def zc_42 : List zE := [(0, 1, .iconst 0, 0, 0, 0), (1, 3, .istore 4, 4, 0, 0), (3, 5, .iload 4, 4, 0, 0), (5, 6, .iload_n 3, 3, 0, 0), (6, 9, .if_icmp .ge 68, 74, 0, 0), (9, 10, .aload_n 0, 0, 0, 0), (10, 13, .getfield 24, 1, 16, 3), (13, 14, .iload_n 1, 1, 0, 0), (14, 15, .aaload, 0, 0, 0), (15, 16, .iload_n 2, 2, 0, 0), (16, 17, .iconst 2, 0, 0, 2), (17, 19, .iload 4, 4, 0, 0), (19, 20, .imul, 0, 0, 0), (20, 21, .iadd, 0, 0, 0), (21, 22, .iaload, 0, 0, 0), (22, 24, .istore 5, 5, 0, 0), (24, 25, .aload_n 0, 0, 0, 0), (25, 28, .getfield 24, 1, 16, 3), (28, 29, .iload_n 1, 1, 0, 0), (29, 30, .aaload, 0, 0, 0), (30, 31, .iload_n 2, 2, 0, 0), (31, 32, .iconst 2, 0, 0, 2), (32, 34, .iload 4, 4, 0, 0), (34, 35, .imul, 0, 0, 0), (35, 36, .iadd, 0, 0, 0), (36, 37, .iconst 1, 0, 0, 1), (37, 38, .iadd, 0, 0, 0), (38, 39, .iaload, 0, 0, 0), (39, 41, .istore 6, 6, 0, 0), (41, 43, .iload 5, 5, 0, 0), (43, 46, .ifCond .lt 23, 66, 0, 0), (46, 48, .iload 5, 5, 0, 0), (48, 51, .sipush 2000, 0, 0, 2000), (51, 54, .if_icmp .gt 15, 66, 0, 0), (54, 56, .iload 6, 6, 0, 0), (56, 59, .ifCond .lt 10, 66, 0, 0), (59, 61, .iload 6, 6, 0, 0), (61, 63, .bipush 12, 0, 0, 12), (63, 66, .if_icmp .le 5, 68, 0, 0), (66, 67, .iconst 0, 0, 0, 0), (67, 68, .ireturn, 1, 0, 0), (68, 71, .iinc 4 1, 4, 0, 1), (71, 74, .goto (-68), 3, 0, 0), (74, 75, .iconst 1, 0, 0, 1), (75, 76, .ireturn, 1, 0, 0)]
theorem zmk_42 : zMok 42 zc_42 := ⟨List.all_eq_true.mp (by decide +kernel), by decide +kernel⟩
/-- PenLines$Sheets.many -/
def zc_43 : List zE := [(0, 1, .iconst 0, 0, 0, 0), (1, 2, .istore_n 1, 1, 0, 0), (2, 3, .aload_n 0, 0, 0, 0), (3, 6, .getfield 9, 1, 13, 0), (6, 7, .astore_n 2, 2, 0, 0), (7, 8, .aload_n 2, 2, 0, 0), (8, 9, .arraylength, 0, 0, 0), (9, 10, .istore_n 3, 3, 0, 0), (10, 11, .iconst 0, 0, 0, 0), (11, 13, .istore 4, 4, 0, 0), (13, 15, .iload 4, 4, 0, 0), (15, 16, .iload_n 3, 3, 0, 0), (16, 19, .if_icmp .ge 28, 44, 0, 0), (19, 20, .aload_n 2, 2, 0, 0), (20, 22, .iload 4, 4, 0, 0), (22, 23, .baload, 0, 0, 0), (23, 25, .istore 5, 5, 0, 0), (25, 26, .iload_n 1, 1, 0, 0), (26, 28, .iload 5, 5, 0, 0), (28, 31, .ifCond .eq 7, 35, 0, 0), (31, 32, .iconst 1, 0, 0, 1), (32, 35, .goto 4, 36, 0, 0), (35, 36, .iconst 0, 0, 0, 0), (36, 37, .iadd, 0, 0, 0), (37, 38, .istore_n 1, 1, 0, 0), (38, 41, .iinc 4 1, 4, 0, 1), (41, 44, .goto (-28), 13, 0, 0), (44, 45, .iload_n 1, 1, 0, 0), (45, 46, .ireturn, 0, 0, 0)]
theorem zmk_43 : zMok 43 zc_43 := ⟨List.all_eq_true.mp (by decide +kernel), by decide +kernel⟩
/-- PenLines$Spelling.cost -/
def zc_44_0 : List zE := [(0, 1, .lload_n 2, 2, 0, 0), (1, 4, .invokestatic 18, 88, 1, 1), (4, 6, .istore 4, 4, 0, 0), (6, 7, .aload_n 0, 0, 0, 0), (7, 10, .getfield 11, 7, 35, 0), (10, 12, .ldc 22, 0, 0, 1000000), (12, 15, .invokestatic 23, 158, 2, 0), (15, 16, .aload_n 0, 0, 0, 0), (16, 19, .getfield 11, 7, 35, 0), (19, 21, .iload 4, 4, 0, 0), (21, 23, .bipush 15, 0, 0, 15), (23, 24, .imul, 0, 0, 0), (24, 25, .aload_n 1, 1, 0, 0), (25, 28, .getfield 29, 5, 0, 1), (28, 29, .iadd, 0, 0, 0), (29, 30, .iconst 0, 0, 0, 0), (30, 31, .iastore, 0, 0, 0), (31, 33, .iload 4, 4, 0, 0), (33, 34, .iconst 1, 0, 0, 1), (34, 35, .isub, 0, 0, 0), (35, 37, .istore 5, 5, 0, 0), (37, 39, .iload 5, 5, 0, 0), (39, 42, .ifCond .lt 109, 148, 0, 0), (42, 43, .lload_n 2, 2, 0, 0), (43, 45, .iload 5, 5, 0, 0), (45, 48, .invokestatic 35, 87, 2, 1), (48, 50, .istore 6, 6, 0, 0), (50, 51, .aload_n 1, 1, 0, 0), (51, 54, .getfield 29, 5, 0, 1), (54, 55, .iconst 1, 0, 0, 1), (55, 56, .isub, 0, 0, 0), (56, 58, .istore 7, 7, 0, 0), (58, 60, .iload 7, 7, 0, 0), (60, 63, .ifCond .lt 82, 142, 0, 0), (63, 64, .iconst 1, 0, 0, 1), (64, 66, .istore 8, 8, 0, 0), (66, 68, .iload 8, 8, 0, 0), (68, 69, .iconst 3, 0, 0, 3), (69, 72, .if_icmp .gt 67, 136, 0, 0), (72, 74, .iload 7, 7, 0, 0), (74, 76, .iload 8, 8, 0, 0), (76, 77, .iadd, 0, 0, 0), (77, 78, .aload_n 1, 1, 0, 0), (78, 81, .getfield 29, 5, 0, 1), (81, 84, .if_icmp .gt 55, 136, 0, 0), (84, 85, .aload_n 0, 0, 0, 0), (85, 86, .aload_n 1, 1, 0, 0), (86, 88, .iload 5, 5, 0, 0), (88, 90, .iload 6, 6, 0, 0), (90, 92, .iload 7, 7, 0, 0), (92, 94, .iload 8, 8, 0, 0), (94, 97, .invokevirtual 39, 45, 5, 29), (97, 99, .istore 9, 9, 0, 0), (99, 100, .aload_n 0, 0, 0, 0), (100, 103, .getfield 11, 7, 35, 0), (103, 105, .iload 5, 5, 0, 0), (105, 107, .bipush 15, 0, 0, 15), (107, 108, .imul, 0, 0, 0), (108, 110, .iload 7, 7, 0, 0), (110, 111, .iadd, 0, 0, 0)]
theorem zmk_44_0 : ∀ x ∈ zc_44_0, zchk 44 x = true := List.all_eq_true.mp (by decide +kernel)
def zc_44_1 : List zE := [(111, 112, .aload_n 0, 0, 0, 0), (112, 115, .getfield 11, 7, 35, 0), (115, 117, .iload 5, 5, 0, 0), (117, 119, .bipush 15, 0, 0, 15), (119, 120, .imul, 0, 0, 0), (120, 122, .iload 7, 7, 0, 0), (122, 123, .iadd, 0, 0, 0), (123, 124, .iaload, 0, 0, 0), (124, 126, .iload 9, 9, 0, 0), (126, 129, .invokestatic 43, 9010, 0, 0), (129, 130, .iastore, 0, 0, 0), (130, 133, .iinc 8 1, 8, 0, 1), (133, 136, .goto (-67), 66, 0, 0), (136, 139, .iinc 7 (-1), 7, 0, (-1)), (139, 142, .goto (-81), 58, 0, 0), (142, 145, .iinc 5 (-1), 5, 0, (-1)), (145, 148, .goto (-108), 37, 0, 0), (148, 149, .aload_n 0, 0, 0, 0), (149, 152, .getfield 11, 7, 35, 0), (152, 153, .iconst 0, 0, 0, 0), (153, 154, .iaload, 0, 0, 0), (154, 156, .ldc 22, 0, 0, 1000000), (156, 159, .if_icmp .ge 12, 168, 0, 0), (159, 160, .aload_n 0, 0, 0, 0), (160, 163, .getfield 11, 7, 35, 0), (163, 164, .iconst 0, 0, 0, 0), (164, 165, .iaload, 0, 0, 0), (165, 168, .goto 4, 169, 0, 0), (168, 169, .iconst (-1), 0, 0, (-1)), (169, 170, .ireturn, 0, 0, 0)]
theorem zmk_44_1 : ∀ x ∈ zc_44_1, zchk 44 x = true := List.all_eq_true.mp (by decide +kernel)
def zc_44 : List zE := [(0, 1, .lload_n 2, 2, 0, 0), (1, 4, .invokestatic 18, 88, 1, 1), (4, 6, .istore 4, 4, 0, 0), (6, 7, .aload_n 0, 0, 0, 0), (7, 10, .getfield 11, 7, 35, 0), (10, 12, .ldc 22, 0, 0, 1000000), (12, 15, .invokestatic 23, 158, 2, 0), (15, 16, .aload_n 0, 0, 0, 0), (16, 19, .getfield 11, 7, 35, 0), (19, 21, .iload 4, 4, 0, 0), (21, 23, .bipush 15, 0, 0, 15), (23, 24, .imul, 0, 0, 0), (24, 25, .aload_n 1, 1, 0, 0), (25, 28, .getfield 29, 5, 0, 1), (28, 29, .iadd, 0, 0, 0), (29, 30, .iconst 0, 0, 0, 0), (30, 31, .iastore, 0, 0, 0), (31, 33, .iload 4, 4, 0, 0), (33, 34, .iconst 1, 0, 0, 1), (34, 35, .isub, 0, 0, 0), (35, 37, .istore 5, 5, 0, 0), (37, 39, .iload 5, 5, 0, 0), (39, 42, .ifCond .lt 109, 148, 0, 0), (42, 43, .lload_n 2, 2, 0, 0), (43, 45, .iload 5, 5, 0, 0), (45, 48, .invokestatic 35, 87, 2, 1), (48, 50, .istore 6, 6, 0, 0), (50, 51, .aload_n 1, 1, 0, 0), (51, 54, .getfield 29, 5, 0, 1), (54, 55, .iconst 1, 0, 0, 1), (55, 56, .isub, 0, 0, 0), (56, 58, .istore 7, 7, 0, 0), (58, 60, .iload 7, 7, 0, 0), (60, 63, .ifCond .lt 82, 142, 0, 0), (63, 64, .iconst 1, 0, 0, 1), (64, 66, .istore 8, 8, 0, 0), (66, 68, .iload 8, 8, 0, 0), (68, 69, .iconst 3, 0, 0, 3), (69, 72, .if_icmp .gt 67, 136, 0, 0), (72, 74, .iload 7, 7, 0, 0), (74, 76, .iload 8, 8, 0, 0), (76, 77, .iadd, 0, 0, 0), (77, 78, .aload_n 1, 1, 0, 0), (78, 81, .getfield 29, 5, 0, 1), (81, 84, .if_icmp .gt 55, 136, 0, 0), (84, 85, .aload_n 0, 0, 0, 0), (85, 86, .aload_n 1, 1, 0, 0), (86, 88, .iload 5, 5, 0, 0), (88, 90, .iload 6, 6, 0, 0), (90, 92, .iload 7, 7, 0, 0), (92, 94, .iload 8, 8, 0, 0), (94, 97, .invokevirtual 39, 45, 5, 29), (97, 99, .istore 9, 9, 0, 0), (99, 100, .aload_n 0, 0, 0, 0), (100, 103, .getfield 11, 7, 35, 0), (103, 105, .iload 5, 5, 0, 0), (105, 107, .bipush 15, 0, 0, 15), (107, 108, .imul, 0, 0, 0), (108, 110, .iload 7, 7, 0, 0), (110, 111, .iadd, 0, 0, 0), (111, 112, .aload_n 0, 0, 0, 0), (112, 115, .getfield 11, 7, 35, 0), (115, 117, .iload 5, 5, 0, 0), (117, 119, .bipush 15, 0, 0, 15), (119, 120, .imul, 0, 0, 0), (120, 122, .iload 7, 7, 0, 0), (122, 123, .iadd, 0, 0, 0), (123, 124, .iaload, 0, 0, 0), (124, 126, .iload 9, 9, 0, 0), (126, 129, .invokestatic 43, 9010, 0, 0), (129, 130, .iastore, 0, 0, 0), (130, 133, .iinc 8 1, 8, 0, 1), (133, 136, .goto (-67), 66, 0, 0), (136, 139, .iinc 7 (-1), 7, 0, (-1)), (139, 142, .goto (-81), 58, 0, 0), (142, 145, .iinc 5 (-1), 5, 0, (-1)), (145, 148, .goto (-108), 37, 0, 0), (148, 149, .aload_n 0, 0, 0, 0), (149, 152, .getfield 11, 7, 35, 0), (152, 153, .iconst 0, 0, 0, 0), (153, 154, .iaload, 0, 0, 0), (154, 156, .ldc 22, 0, 0, 1000000), (156, 159, .if_icmp .ge 12, 168, 0, 0), (159, 160, .aload_n 0, 0, 0, 0), (160, 163, .getfield 11, 7, 35, 0), (163, 164, .iconst 0, 0, 0, 0), (164, 165, .iaload, 0, 0, 0), (165, 168, .goto 4, 169, 0, 0), (168, 169, .iconst (-1), 0, 0, (-1)), (169, 170, .ireturn, 0, 0, 0)]
set_option maxRecDepth 100000 in
theorem zmk_44 : zMok 44 zc_44 := ⟨by
  show ∀ x ∈ zc_44_0 ++ (zc_44_1), zchk 44 x = true
  exact List.forall_mem_append.mpr ⟨zmk_44_0, zmk_44_1⟩, by decide +kernel⟩
/-- PenLines$Spelling.costBy -/
def zc_45 : List zE := [(0, 1, .aload_n 1, 1, 0, 0), (1, 3, .iload 4, 4, 0, 0), (3, 5, .iload 5, 5, 0, 0), (5, 6, .iload_n 3, 3, 0, 0), (6, 9, .invokevirtual 49, 13, 3, 21), (9, 11, .istore 6, 6, 0, 0), (11, 12, .aload_n 0, 0, 0, 0), (12, 15, .getfield 11, 7, 35, 0), (15, 16, .iload_n 2, 2, 0, 0), (16, 17, .iconst 1, 0, 0, 1), (17, 18, .iadd, 0, 0, 0), (18, 20, .bipush 15, 0, 0, 15), (20, 21, .imul, 0, 0, 0), (21, 23, .iload 4, 4, 0, 0), (23, 24, .iadd, 0, 0, 0), (24, 26, .iload 5, 5, 0, 0), (26, 27, .iadd, 0, 0, 0), (27, 28, .iaload, 0, 0, 0), (28, 30, .istore 7, 7, 0, 0), (30, 32, .iload 6, 6, 0, 0), (32, 33, .iconst (-1), 0, 0, (-1)), (33, 36, .if_icmp .eq 10, 43, 0, 0), (36, 38, .iload 7, 7, 0, 0), (38, 40, .ldc 22, 0, 0, 1000000), (40, 43, .if_icmp .ne 8, 48, 0, 0), (43, 45, .ldc 22, 0, 0, 1000000), (45, 48, .goto 8, 53, 0, 0), (48, 50, .iload 6, 6, 0, 0), (50, 52, .iload 7, 7, 0, 0), (52, 53, .iadd, 0, 0, 0), (53, 54, .ireturn, 0, 0, 0)]
theorem zmk_45 : zMok 45 zc_45 := ⟨List.all_eq_true.mp (by decide +kernel), by decide +kernel⟩
/-- PenLines$Spelling.chooseRows -/
def zc_46_0 : List zE := [(0, 1, .lload_n 2, 2, 0, 0), (1, 4, .invokestatic 18, 88, 1, 1), (4, 6, .istore 4, 4, 0, 0), (6, 7, .iconst 0, 0, 0, 0), (7, 9, .istore 5, 5, 0, 0), (9, 10, .iconst 0, 0, 0, 0), (10, 12, .istore 6, 6, 0, 0), (12, 14, .iload 6, 6, 0, 0), (14, 16, .iload 4, 4, 0, 0), (16, 19, .if_icmp .ge 106, 122, 0, 0), (19, 20, .aload_n 0, 0, 0, 0), (20, 23, .getfield 15, 7, 36, 1), (23, 25, .iload 6, 6, 0, 0), (25, 26, .iconst 0, 0, 0, 0), (26, 27, .iastore, 0, 0, 0), (27, 28, .iconst 3, 0, 0, 3), (28, 29, .aload_n 1, 1, 0, 0), (29, 32, .getfield 29, 5, 0, 1), (32, 34, .iload 5, 5, 0, 0), (34, 35, .isub, 0, 0, 0), (35, 38, .invokestatic 43, 9010, 0, 0), (38, 40, .istore 7, 7, 0, 0), (40, 42, .iload 7, 7, 0, 0), (42, 43, .iconst 1, 0, 0, 1), (43, 46, .if_icmp .lt 61, 104, 0, 0), (46, 47, .aload_n 0, 0, 0, 0), (47, 50, .getfield 15, 7, 36, 1), (50, 52, .iload 6, 6, 0, 0), (52, 53, .iaload, 0, 0, 0), (53, 56, .ifCond .ne 51, 104, 0, 0), (56, 57, .aload_n 0, 0, 0, 0), (57, 58, .aload_n 1, 1, 0, 0), (58, 60, .iload 6, 6, 0, 0), (60, 61, .lload_n 2, 2, 0, 0), (61, 63, .iload 6, 6, 0, 0), (63, 66, .invokestatic 35, 87, 2, 1), (66, 68, .iload 5, 5, 0, 0), (68, 70, .iload 7, 7, 0, 0), (70, 73, .invokevirtual 39, 45, 5, 29), (73, 74, .aload_n 0, 0, 0, 0), (74, 77, .getfield 11, 7, 35, 0), (77, 79, .iload 6, 6, 0, 0), (79, 81, .bipush 15, 0, 0, 15), (81, 82, .imul, 0, 0, 0), (82, 84, .iload 5, 5, 0, 0), (84, 85, .iadd, 0, 0, 0), (85, 86, .iaload, 0, 0, 0), (86, 89, .if_icmp .ne 12, 98, 0, 0), (89, 90, .aload_n 0, 0, 0, 0), (90, 93, .getfield 15, 7, 36, 1), (93, 95, .iload 6, 6, 0, 0), (95, 97, .iload 7, 7, 0, 0), (97, 98, .iastore, 0, 0, 0), (98, 101, .iinc 7 (-1), 7, 0, (-1)), (101, 104, .goto (-61), 40, 0, 0), (104, 106, .iload 5, 5, 0, 0), (106, 107, .aload_n 0, 0, 0, 0), (107, 110, .getfield 15, 7, 36, 1), (110, 112, .iload 6, 6, 0, 0), (112, 113, .iaload, 0, 0, 0)]
theorem zmk_46_0 : ∀ x ∈ zc_46_0, zchk 46 x = true := List.all_eq_true.mp (by decide +kernel)
def zc_46_1 : List zE := [(113, 114, .iadd, 0, 0, 0), (114, 116, .istore 5, 5, 0, 0), (116, 119, .iinc 6 1, 6, 0, 1), (119, 122, .goto (-107), 12, 0, 0), (122, 123, .return_, 0, 0, 0)]
theorem zmk_46_1 : ∀ x ∈ zc_46_1, zchk 46 x = true := List.all_eq_true.mp (by decide +kernel)
def zc_46 : List zE := [(0, 1, .lload_n 2, 2, 0, 0), (1, 4, .invokestatic 18, 88, 1, 1), (4, 6, .istore 4, 4, 0, 0), (6, 7, .iconst 0, 0, 0, 0), (7, 9, .istore 5, 5, 0, 0), (9, 10, .iconst 0, 0, 0, 0), (10, 12, .istore 6, 6, 0, 0), (12, 14, .iload 6, 6, 0, 0), (14, 16, .iload 4, 4, 0, 0), (16, 19, .if_icmp .ge 106, 122, 0, 0), (19, 20, .aload_n 0, 0, 0, 0), (20, 23, .getfield 15, 7, 36, 1), (23, 25, .iload 6, 6, 0, 0), (25, 26, .iconst 0, 0, 0, 0), (26, 27, .iastore, 0, 0, 0), (27, 28, .iconst 3, 0, 0, 3), (28, 29, .aload_n 1, 1, 0, 0), (29, 32, .getfield 29, 5, 0, 1), (32, 34, .iload 5, 5, 0, 0), (34, 35, .isub, 0, 0, 0), (35, 38, .invokestatic 43, 9010, 0, 0), (38, 40, .istore 7, 7, 0, 0), (40, 42, .iload 7, 7, 0, 0), (42, 43, .iconst 1, 0, 0, 1), (43, 46, .if_icmp .lt 61, 104, 0, 0), (46, 47, .aload_n 0, 0, 0, 0), (47, 50, .getfield 15, 7, 36, 1), (50, 52, .iload 6, 6, 0, 0), (52, 53, .iaload, 0, 0, 0), (53, 56, .ifCond .ne 51, 104, 0, 0), (56, 57, .aload_n 0, 0, 0, 0), (57, 58, .aload_n 1, 1, 0, 0), (58, 60, .iload 6, 6, 0, 0), (60, 61, .lload_n 2, 2, 0, 0), (61, 63, .iload 6, 6, 0, 0), (63, 66, .invokestatic 35, 87, 2, 1), (66, 68, .iload 5, 5, 0, 0), (68, 70, .iload 7, 7, 0, 0), (70, 73, .invokevirtual 39, 45, 5, 29), (73, 74, .aload_n 0, 0, 0, 0), (74, 77, .getfield 11, 7, 35, 0), (77, 79, .iload 6, 6, 0, 0), (79, 81, .bipush 15, 0, 0, 15), (81, 82, .imul, 0, 0, 0), (82, 84, .iload 5, 5, 0, 0), (84, 85, .iadd, 0, 0, 0), (85, 86, .iaload, 0, 0, 0), (86, 89, .if_icmp .ne 12, 98, 0, 0), (89, 90, .aload_n 0, 0, 0, 0), (90, 93, .getfield 15, 7, 36, 1), (93, 95, .iload 6, 6, 0, 0), (95, 97, .iload 7, 7, 0, 0), (97, 98, .iastore, 0, 0, 0), (98, 101, .iinc 7 (-1), 7, 0, (-1)), (101, 104, .goto (-61), 40, 0, 0), (104, 106, .iload 5, 5, 0, 0), (106, 107, .aload_n 0, 0, 0, 0), (107, 110, .getfield 15, 7, 36, 1), (110, 112, .iload 6, 6, 0, 0), (112, 113, .iaload, 0, 0, 0), (113, 114, .iadd, 0, 0, 0), (114, 116, .istore 5, 5, 0, 0), (116, 119, .iinc 6 1, 6, 0, 1), (119, 122, .goto (-107), 12, 0, 0), (122, 123, .return_, 0, 0, 0)]
set_option maxRecDepth 100000 in
theorem zmk_46 : zMok 46 zc_46 := ⟨by
  show ∀ x ∈ zc_46_0 ++ (zc_46_1), zchk 46 x = true
  exact List.forall_mem_append.mpr ⟨zmk_46_0, zmk_46_1⟩, by decide +kernel⟩
/-- PenLines$Words.append -/
def zc_47 : List zE := [(0, 1, .aload_n 0, 0, 0, 0), (1, 2, .aload_n 0, 0, 0, 0), (2, 5, .getfield 9, 4, 1, 0), (5, 6, .aload_n 0, 0, 0, 0), (6, 9, .getfield 15, 4, 0, 1), (9, 10, .iload_n 1, 1, 0, 0), (10, 13, .invokestatic 26, 89, 3, 2), (13, 16, .putfield 9, 4, 1, 0), (16, 17, .aload_n 0, 0, 0, 0), (17, 18, .dup, 0, 0, 0), (18, 21, .getfield 15, 4, 0, 1), (21, 22, .iconst 1, 0, 0, 1), (22, 23, .iadd, 0, 0, 0), (23, 26, .putfield 15, 4, 0, 1), (26, 27, .return_, 0, 0, 0)]
theorem zmk_47 : zMok 47 zc_47 := ⟨List.all_eq_true.mp (by decide +kernel), by decide +kernel⟩
/-- PenLines$Words.clear -/
def zc_48 : List zE := [(0, 1, .aload_n 0, 0, 0, 0), (1, 4, .getfield 15, 4, 0, 1), (4, 5, .istore_n 1, 1, 0, 0), (5, 6, .aload_n 0, 0, 0, 0), (6, 7, .lconst 0, 0, 0, 0), (7, 10, .putfield 9, 4, 1, 0), (10, 11, .aload_n 0, 0, 0, 0), (11, 12, .iconst 0, 0, 0, 0), (12, 15, .putfield 15, 4, 0, 1), (15, 16, .iload_n 1, 1, 0, 0), (16, 17, .ireturn, 0, 0, 0)]
theorem zmk_48 : zMok 48 zc_48 := ⟨List.all_eq_true.mp (by decide +kernel), by decide +kernel⟩
/-- PenLines$Words.placeOf -/
def zc_49 : List zE := [(0, 1, .iconst 0, 0, 0, 0), (1, 2, .istore_n 3, 3, 0, 0), (2, 3, .iload_n 3, 3, 0, 0), (3, 4, .aload_n 0, 0, 0, 0), (4, 7, .getfield 23, 4, 0, 3), (7, 10, .if_icmp .ge 22, 29, 0, 0), (10, 11, .aload_n 0, 0, 0, 0), (11, 14, .getfield 19, 4, 30, 2), (14, 15, .iload_n 3, 3, 0, 0), (15, 16, .laload, 0, 0, 0), (16, 17, .lload_n 1, 1, 0, 0), (17, 18, .lcmp, 0, 0, 0), (18, 21, .ifCond .ne 5, 23, 0, 0), (21, 22, .iload_n 3, 3, 0, 0), (22, 23, .ireturn, 0, 0, 0), (23, 26, .iinc 3 1, 3, 0, 1), (26, 29, .goto (-24), 2, 0, 0), (29, 30, .iconst (-1), 0, 0, (-1)), (30, 31, .ireturn, 0, 0, 0)]
theorem zmk_49 : zMok 49 zc_49 := ⟨List.all_eq_true.mp (by decide +kernel), by decide +kernel⟩
/-- PenLines.sheet -/
def zc_50 : List zE := [(0, 1, .iload_n 1, 1, 0, 0), (1, 4, .invokestatic 79, 78, 1, 1), (4, 7, .ifCond .eq 18, 22, 0, 0), (7, 8, .iload_n 2, 2, 0, 0), (8, 11, .ifCond .lt 14, 22, 0, 0), (11, 12, .iload_n 2, 2, 0, 0), (12, 13, .iconst 3, 0, 0, 3), (13, 16, .if_icmp .ge 9, 22, 0, 0), (16, 17, .iload_n 3, 3, 0, 0), (17, 19, .bipush 80, 0, 0, 80), (19, 22, .if_icmp .le 6, 25, 0, 0), (22, 24, .ldc 83, 0, 0, (-1000001)), (24, 25, .ireturn, 0, 0, 0), (25, 26, .iload_n 3, 3, 0, 0), (26, 29, .ifCond .ge 9, 35, 0, 0), (29, 30, .aload_n 0, 0, 0, 0), (30, 31, .iconst 4, 0, 0, 4), (31, 34, .invokevirtual 84, 76, 1, 1), (34, 35, .ireturn, 0, 0, 0), (35, 36, .aload_n 0, 0, 0, 0), (36, 39, .getfield 10, 0, 3, 0), (39, 40, .iload_n 1, 1, 0, 0), (40, 41, .iload_n 2, 2, 0, 0), (41, 42, .iload_n 3, 3, 0, 0), (42, 45, .invokevirtual 88, 39, 3, 4), (45, 46, .aload_n 0, 0, 0, 0), (46, 47, .iload_n 3, 3, 0, 0), (47, 50, .invokevirtual 92, 77, 1, 1), (50, 51, .ireturn, 0, 0, 0)]
theorem zmk_50 : zMok 50 zc_50 := ⟨List.all_eq_true.mp (by decide +kernel), by decide +kernel⟩
/-- PenLines.set -/
def zc_51 : List zE := [(0, 1, .iload_n 1, 1, 0, 0), (1, 4, .invokestatic 79, 78, 1, 1), (4, 7, .ifCond .ne 6, 10, 0, 0), (7, 9, .ldc 83, 0, 0, (-1000001)), (9, 10, .ireturn, 0, 0, 0), (10, 11, .aload_n 0, 0, 0, 0), (11, 14, .getfield 10, 0, 3, 0), (14, 17, .getfield 95, 1, 13, 0), (17, 18, .iload_n 1, 1, 0, 0), (18, 19, .baload, 0, 0, 0), (19, 22, .ifCond .ne 9, 28, 0, 0), (22, 23, .aload_n 0, 0, 0, 0), (23, 24, .iconst 1, 0, 0, 1), (24, 27, .invokevirtual 84, 76, 1, 1), (27, 28, .ireturn, 0, 0, 0), (28, 29, .aload_n 0, 0, 0, 0), (29, 32, .getfield 10, 0, 3, 0), (32, 33, .iload_n 1, 1, 0, 0), (33, 34, .iload_n 2, 2, 0, 0), (34, 35, .iconst 1, 0, 0, 1), (35, 38, .invokevirtual 99, 40, 3, 5), (38, 41, .ifCond .ne 9, 47, 0, 0), (41, 42, .aload_n 0, 0, 0, 0), (42, 43, .iconst 2, 0, 0, 2), (43, 46, .invokevirtual 84, 76, 1, 1), (46, 47, .ireturn, 0, 0, 0), (47, 48, .aload_n 0, 0, 0, 0), (48, 49, .aload_n 0, 0, 0, 0), (49, 52, .getfield 10, 0, 3, 0), (52, 53, .iload_n 1, 1, 0, 0), (53, 54, .iload_n 2, 2, 0, 0), (54, 55, .iload_n 3, 3, 0, 0), (55, 58, .invokevirtual 103, 41, 3, 5), (58, 61, .invokevirtual 92, 77, 1, 1), (61, 62, .ireturn, 0, 0, 0)]
theorem zmk_51 : zMok 51 zc_51 := ⟨List.all_eq_true.mp (by decide +kernel), by decide +kernel⟩
/-- PenLines.copy -/
def zc_52_0 : List zE := [(0, 1, .iload_n 1, 1, 0, 0), (1, 4, .invokestatic 79, 78, 1, 1), (4, 7, .ifCond .eq 10, 14, 0, 0), (7, 8, .iload_n 3, 3, 0, 0), (8, 11, .invokestatic 79, 78, 1, 1), (11, 14, .ifCond .ne 6, 17, 0, 0), (14, 16, .ldc 83, 0, 0, (-1000001)), (16, 17, .ireturn, 0, 0, 0), (17, 18, .aload_n 0, 0, 0, 0), (18, 21, .getfield 10, 0, 3, 0), (21, 24, .getfield 95, 1, 13, 0), (24, 25, .iload_n 1, 1, 0, 0), (25, 26, .baload, 0, 0, 0), (26, 29, .ifCond .eq 15, 41, 0, 0), (29, 30, .aload_n 0, 0, 0, 0), (30, 33, .getfield 10, 0, 3, 0), (33, 36, .getfield 95, 1, 13, 0), (36, 37, .iload_n 3, 3, 0, 0), (37, 38, .baload, 0, 0, 0), (38, 41, .ifCond .ne 9, 47, 0, 0), (41, 42, .aload_n 0, 0, 0, 0), (42, 43, .iconst 1, 0, 0, 1), (43, 46, .invokevirtual 84, 76, 1, 1), (46, 47, .ireturn, 0, 0, 0), (47, 48, .aload_n 0, 0, 0, 0), (48, 51, .getfield 10, 0, 3, 0), (51, 54, .getfield 107, 1, 14, 1), (54, 55, .iload_n 1, 1, 0, 0), (55, 56, .iaload, 0, 0, 0), (56, 57, .aload_n 0, 0, 0, 0), (57, 60, .getfield 10, 0, 3, 0), (60, 63, .getfield 107, 1, 14, 1), (63, 64, .iload_n 3, 3, 0, 0), (64, 65, .iaload, 0, 0, 0), (65, 68, .if_icmp .eq 9, 74, 0, 0), (68, 69, .aload_n 0, 0, 0, 0), (69, 70, .iconst 5, 0, 0, 5), (70, 73, .invokevirtual 84, 76, 1, 1), (73, 74, .ireturn, 0, 0, 0), (74, 75, .aload_n 0, 0, 0, 0), (75, 78, .getfield 10, 0, 3, 0), (78, 79, .iload_n 1, 1, 0, 0), (79, 80, .iload_n 2, 2, 0, 0), (80, 82, .iload 5, 5, 0, 0), (82, 85, .invokevirtual 99, 40, 3, 5), (85, 88, .ifCond .eq 18, 103, 0, 0), (88, 89, .aload_n 0, 0, 0, 0), (89, 92, .getfield 10, 0, 3, 0), (92, 93, .iload_n 3, 3, 0, 0), (93, 95, .iload 4, 4, 0, 0), (95, 97, .iload 5, 5, 0, 0), (97, 100, .invokevirtual 99, 40, 3, 5), (100, 103, .ifCond .ne 9, 109, 0, 0), (103, 104, .aload_n 0, 0, 0, 0), (104, 105, .iconst 2, 0, 0, 2), (105, 108, .invokevirtual 84, 76, 1, 1), (108, 109, .ireturn, 0, 0, 0), (109, 110, .aload_n 0, 0, 0, 0), (110, 113, .getfield 10, 0, 3, 0), (113, 116, .getfield 110, 1, 16, 3)]
theorem zmk_52_0 : ∀ x ∈ zc_52_0, zchk 52 x = true := List.all_eq_true.mp (by decide +kernel)
def zc_52_1 : List zE := [(116, 117, .iload_n 1, 1, 0, 0), (117, 118, .aaload, 0, 0, 0), (118, 119, .iload_n 2, 2, 0, 0), (119, 120, .aload_n 0, 0, 0, 0), (120, 123, .getfield 10, 0, 3, 0), (123, 126, .getfield 110, 1, 16, 3), (126, 127, .iload_n 3, 3, 0, 0), (127, 128, .aaload, 0, 0, 0), (128, 130, .iload 4, 4, 0, 0), (130, 132, .iload 5, 5, 0, 0), (132, 135, .invokestatic 114, 9013, 0, 0), (135, 136, .aload_n 0, 0, 0, 0), (136, 138, .iload 5, 5, 0, 0), (138, 141, .invokevirtual 92, 77, 1, 1), (141, 142, .ireturn, 0, 0, 0)]
theorem zmk_52_1 : ∀ x ∈ zc_52_1, zchk 52 x = true := List.all_eq_true.mp (by decide +kernel)
def zc_52 : List zE := [(0, 1, .iload_n 1, 1, 0, 0), (1, 4, .invokestatic 79, 78, 1, 1), (4, 7, .ifCond .eq 10, 14, 0, 0), (7, 8, .iload_n 3, 3, 0, 0), (8, 11, .invokestatic 79, 78, 1, 1), (11, 14, .ifCond .ne 6, 17, 0, 0), (14, 16, .ldc 83, 0, 0, (-1000001)), (16, 17, .ireturn, 0, 0, 0), (17, 18, .aload_n 0, 0, 0, 0), (18, 21, .getfield 10, 0, 3, 0), (21, 24, .getfield 95, 1, 13, 0), (24, 25, .iload_n 1, 1, 0, 0), (25, 26, .baload, 0, 0, 0), (26, 29, .ifCond .eq 15, 41, 0, 0), (29, 30, .aload_n 0, 0, 0, 0), (30, 33, .getfield 10, 0, 3, 0), (33, 36, .getfield 95, 1, 13, 0), (36, 37, .iload_n 3, 3, 0, 0), (37, 38, .baload, 0, 0, 0), (38, 41, .ifCond .ne 9, 47, 0, 0), (41, 42, .aload_n 0, 0, 0, 0), (42, 43, .iconst 1, 0, 0, 1), (43, 46, .invokevirtual 84, 76, 1, 1), (46, 47, .ireturn, 0, 0, 0), (47, 48, .aload_n 0, 0, 0, 0), (48, 51, .getfield 10, 0, 3, 0), (51, 54, .getfield 107, 1, 14, 1), (54, 55, .iload_n 1, 1, 0, 0), (55, 56, .iaload, 0, 0, 0), (56, 57, .aload_n 0, 0, 0, 0), (57, 60, .getfield 10, 0, 3, 0), (60, 63, .getfield 107, 1, 14, 1), (63, 64, .iload_n 3, 3, 0, 0), (64, 65, .iaload, 0, 0, 0), (65, 68, .if_icmp .eq 9, 74, 0, 0), (68, 69, .aload_n 0, 0, 0, 0), (69, 70, .iconst 5, 0, 0, 5), (70, 73, .invokevirtual 84, 76, 1, 1), (73, 74, .ireturn, 0, 0, 0), (74, 75, .aload_n 0, 0, 0, 0), (75, 78, .getfield 10, 0, 3, 0), (78, 79, .iload_n 1, 1, 0, 0), (79, 80, .iload_n 2, 2, 0, 0), (80, 82, .iload 5, 5, 0, 0), (82, 85, .invokevirtual 99, 40, 3, 5), (85, 88, .ifCond .eq 18, 103, 0, 0), (88, 89, .aload_n 0, 0, 0, 0), (89, 92, .getfield 10, 0, 3, 0), (92, 93, .iload_n 3, 3, 0, 0), (93, 95, .iload 4, 4, 0, 0), (95, 97, .iload 5, 5, 0, 0), (97, 100, .invokevirtual 99, 40, 3, 5), (100, 103, .ifCond .ne 9, 109, 0, 0), (103, 104, .aload_n 0, 0, 0, 0), (104, 105, .iconst 2, 0, 0, 2), (105, 108, .invokevirtual 84, 76, 1, 1), (108, 109, .ireturn, 0, 0, 0), (109, 110, .aload_n 0, 0, 0, 0), (110, 113, .getfield 10, 0, 3, 0), (113, 116, .getfield 110, 1, 16, 3), (116, 117, .iload_n 1, 1, 0, 0), (117, 118, .aaload, 0, 0, 0), (118, 119, .iload_n 2, 2, 0, 0), (119, 120, .aload_n 0, 0, 0, 0), (120, 123, .getfield 10, 0, 3, 0), (123, 126, .getfield 110, 1, 16, 3), (126, 127, .iload_n 3, 3, 0, 0), (127, 128, .aaload, 0, 0, 0), (128, 130, .iload 4, 4, 0, 0), (130, 132, .iload 5, 5, 0, 0), (132, 135, .invokestatic 114, 9013, 0, 0), (135, 136, .aload_n 0, 0, 0, 0), (136, 138, .iload 5, 5, 0, 0), (138, 141, .invokevirtual 92, 77, 1, 1), (141, 142, .ireturn, 0, 0, 0)]
set_option maxRecDepth 100000 in
theorem zmk_52 : zMok 52 zc_52 := ⟨by
  show ∀ x ∈ zc_52_0 ++ (zc_52_1), zchk 52 x = true
  exact List.forall_mem_append.mpr ⟨zmk_52_0, zmk_52_1⟩, by decide +kernel⟩
/-- PenLines.drop -/
def zc_53 : List zE := [(0, 1, .iload_n 1, 1, 0, 0), (1, 4, .invokestatic 79, 78, 1, 1), (4, 7, .ifCond .ne 6, 10, 0, 0), (7, 9, .ldc 83, 0, 0, (-1000001)), (9, 10, .ireturn, 0, 0, 0), (10, 11, .aload_n 0, 0, 0, 0), (11, 14, .getfield 10, 0, 3, 0), (14, 17, .getfield 95, 1, 13, 0), (17, 18, .iload_n 1, 1, 0, 0), (18, 19, .baload, 0, 0, 0), (19, 22, .ifCond .ne 9, 28, 0, 0), (22, 23, .aload_n 0, 0, 0, 0), (23, 24, .iconst 1, 0, 0, 1), (24, 27, .invokevirtual 84, 76, 1, 1), (27, 28, .ireturn, 0, 0, 0), (28, 29, .aload_n 0, 0, 0, 0), (29, 32, .getfield 10, 0, 3, 0), (32, 35, .getfield 95, 1, 13, 0), (35, 36, .iload_n 1, 1, 0, 0), (36, 37, .iconst 0, 0, 0, 0), (37, 38, .bastore, 0, 0, 0), (38, 39, .aload_n 0, 0, 0, 0), (39, 40, .aload_n 0, 0, 0, 0), (40, 43, .getfield 10, 0, 3, 0), (43, 46, .getfield 120, 1, 15, 2), (46, 47, .iload_n 1, 1, 0, 0), (47, 48, .iaload, 0, 0, 0), (48, 51, .invokevirtual 92, 77, 1, 1), (51, 52, .ireturn, 0, 0, 0)]
theorem zmk_53 : zMok 53 zc_53 := ⟨List.all_eq_true.mp (by decide +kernel), by decide +kernel⟩
/-- PenLines.line -/
def zc_54_0 : List zE := [(0, 1, .iload_n 1, 1, 0, 0), (1, 4, .invokestatic 79, 78, 1, 1), (4, 7, .ifCond .eq 14, 18, 0, 0), (7, 8, .iload_n 3, 3, 0, 0), (8, 9, .iconst 1, 0, 0, 1), (9, 12, .if_icmp .lt 9, 18, 0, 0), (12, 13, .iload_n 3, 3, 0, 0), (13, 15, .bipush 40, 0, 0, 40), (15, 18, .if_icmp .le 6, 21, 0, 0), (18, 20, .ldc 83, 0, 0, (-1000001)), (20, 21, .ireturn, 0, 0, 0), (21, 22, .aload_n 0, 0, 0, 0), (22, 25, .getfield 10, 0, 3, 0), (25, 28, .getfield 95, 1, 13, 0), (28, 29, .iload_n 1, 1, 0, 0), (29, 30, .baload, 0, 0, 0), (30, 33, .ifCond .ne 9, 39, 0, 0), (33, 34, .aload_n 0, 0, 0, 0), (34, 35, .iconst 1, 0, 0, 1), (35, 38, .invokevirtual 84, 76, 1, 1), (38, 39, .ireturn, 0, 0, 0), (39, 40, .aload_n 0, 0, 0, 0), (40, 43, .getfield 10, 0, 3, 0), (43, 44, .iload_n 1, 1, 0, 0), (44, 45, .iload_n 2, 2, 0, 0), (45, 46, .iconst 2, 0, 0, 2), (46, 47, .iload_n 3, 3, 0, 0), (47, 48, .imul, 0, 0, 0), (48, 51, .invokevirtual 99, 40, 3, 5), (51, 54, .ifCond .ne 9, 60, 0, 0), (54, 55, .aload_n 0, 0, 0, 0), (55, 56, .iconst 2, 0, 0, 2), (56, 59, .invokevirtual 84, 76, 1, 1), (59, 60, .ireturn, 0, 0, 0), (60, 61, .aload_n 0, 0, 0, 0), (61, 64, .getfield 10, 0, 3, 0), (64, 65, .iload_n 1, 1, 0, 0), (65, 66, .iload_n 2, 2, 0, 0), (66, 67, .iload_n 3, 3, 0, 0), (67, 70, .invokevirtual 123, 42, 3, 5), (70, 73, .ifCond .ne 6, 76, 0, 0), (73, 75, .ldc 83, 0, 0, (-1000001)), (75, 76, .ireturn, 0, 0, 0), (76, 77, .aload_n 0, 0, 0, 0), (77, 80, .getfield 19, 0, 4, 1), (80, 81, .aload_n 0, 0, 0, 0), (81, 84, .getfield 10, 0, 3, 0), (84, 87, .getfield 110, 1, 16, 3), (87, 88, .iload_n 1, 1, 0, 0), (88, 89, .aaload, 0, 0, 0), (89, 90, .iload_n 2, 2, 0, 0), (90, 91, .iload_n 3, 3, 0, 0), (91, 94, .invokevirtual 126, 14, 3, 8), (94, 95, .aload_n 0, 0, 0, 0), (95, 96, .iconst (-1), 0, 0, (-1)), (96, 99, .putfield 37, 0, 0, 4), (99, 100, .aload_n 0, 0, 0, 0), (100, 101, .aload_n 0, 0, 0, 0), (101, 104, .getfield 19, 0, 4, 1), (104, 107, .getfield 130, 2, 0, 10)]
theorem zmk_54_0 : ∀ x ∈ zc_54_0, zchk 54 x = true := List.all_eq_true.mp (by decide +kernel)
def zc_54_1 : List zE := [(107, 110, .invokevirtual 92, 77, 1, 1), (110, 111, .ireturn, 0, 0, 0)]
theorem zmk_54_1 : ∀ x ∈ zc_54_1, zchk 54 x = true := List.all_eq_true.mp (by decide +kernel)
def zc_54 : List zE := [(0, 1, .iload_n 1, 1, 0, 0), (1, 4, .invokestatic 79, 78, 1, 1), (4, 7, .ifCond .eq 14, 18, 0, 0), (7, 8, .iload_n 3, 3, 0, 0), (8, 9, .iconst 1, 0, 0, 1), (9, 12, .if_icmp .lt 9, 18, 0, 0), (12, 13, .iload_n 3, 3, 0, 0), (13, 15, .bipush 40, 0, 0, 40), (15, 18, .if_icmp .le 6, 21, 0, 0), (18, 20, .ldc 83, 0, 0, (-1000001)), (20, 21, .ireturn, 0, 0, 0), (21, 22, .aload_n 0, 0, 0, 0), (22, 25, .getfield 10, 0, 3, 0), (25, 28, .getfield 95, 1, 13, 0), (28, 29, .iload_n 1, 1, 0, 0), (29, 30, .baload, 0, 0, 0), (30, 33, .ifCond .ne 9, 39, 0, 0), (33, 34, .aload_n 0, 0, 0, 0), (34, 35, .iconst 1, 0, 0, 1), (35, 38, .invokevirtual 84, 76, 1, 1), (38, 39, .ireturn, 0, 0, 0), (39, 40, .aload_n 0, 0, 0, 0), (40, 43, .getfield 10, 0, 3, 0), (43, 44, .iload_n 1, 1, 0, 0), (44, 45, .iload_n 2, 2, 0, 0), (45, 46, .iconst 2, 0, 0, 2), (46, 47, .iload_n 3, 3, 0, 0), (47, 48, .imul, 0, 0, 0), (48, 51, .invokevirtual 99, 40, 3, 5), (51, 54, .ifCond .ne 9, 60, 0, 0), (54, 55, .aload_n 0, 0, 0, 0), (55, 56, .iconst 2, 0, 0, 2), (56, 59, .invokevirtual 84, 76, 1, 1), (59, 60, .ireturn, 0, 0, 0), (60, 61, .aload_n 0, 0, 0, 0), (61, 64, .getfield 10, 0, 3, 0), (64, 65, .iload_n 1, 1, 0, 0), (65, 66, .iload_n 2, 2, 0, 0), (66, 67, .iload_n 3, 3, 0, 0), (67, 70, .invokevirtual 123, 42, 3, 5), (70, 73, .ifCond .ne 6, 76, 0, 0), (73, 75, .ldc 83, 0, 0, (-1000001)), (75, 76, .ireturn, 0, 0, 0), (76, 77, .aload_n 0, 0, 0, 0), (77, 80, .getfield 19, 0, 4, 1), (80, 81, .aload_n 0, 0, 0, 0), (81, 84, .getfield 10, 0, 3, 0), (84, 87, .getfield 110, 1, 16, 3), (87, 88, .iload_n 1, 1, 0, 0), (88, 89, .aaload, 0, 0, 0), (89, 90, .iload_n 2, 2, 0, 0), (90, 91, .iload_n 3, 3, 0, 0), (91, 94, .invokevirtual 126, 14, 3, 8), (94, 95, .aload_n 0, 0, 0, 0), (95, 96, .iconst (-1), 0, 0, (-1)), (96, 99, .putfield 37, 0, 0, 4), (99, 100, .aload_n 0, 0, 0, 0), (100, 101, .aload_n 0, 0, 0, 0), (101, 104, .getfield 19, 0, 4, 1), (104, 107, .getfield 130, 2, 0, 10), (107, 110, .invokevirtual 92, 77, 1, 1), (110, 111, .ireturn, 0, 0, 0)]
set_option maxRecDepth 100000 in
theorem zmk_54 : zMok 54 zc_54 := ⟨by
  show ∀ x ∈ zc_54_0 ++ (zc_54_1), zchk 54 x = true
  exact List.forall_mem_append.mpr ⟨zmk_54_0, zmk_54_1⟩, by decide +kernel⟩
/-- PenLines.gap -/
def zc_55 : List zE := [(0, 1, .iload_n 1, 1, 0, 0), (1, 2, .iconst 1, 0, 0, 1), (2, 5, .if_icmp .lt 9, 11, 0, 0), (5, 6, .iload_n 1, 1, 0, 0), (6, 8, .bipush 100, 0, 0, 100), (8, 11, .if_icmp .le 6, 14, 0, 0), (11, 13, .ldc 83, 0, 0, (-1000001)), (13, 14, .ireturn, 0, 0, 0), (14, 15, .aload_n 0, 0, 0, 0), (15, 18, .getfield 19, 0, 4, 1), (18, 21, .getfield 133, 2, 0, 3), (21, 22, .istore_n 2, 2, 0, 0), (22, 23, .aload_n 0, 0, 0, 0), (23, 26, .getfield 19, 0, 4, 1), (26, 27, .iload_n 1, 1, 0, 0), (27, 30, .putfield 133, 2, 0, 3), (30, 31, .aload_n 0, 0, 0, 0), (31, 34, .getfield 19, 0, 4, 1), (34, 37, .invokevirtual 136, 15, 0, 8), (37, 38, .aload_n 0, 0, 0, 0), (38, 39, .iconst (-1), 0, 0, (-1)), (39, 42, .putfield 37, 0, 0, 4), (42, 43, .iload_n 2, 2, 0, 0), (43, 44, .ireturn, 0, 0, 0)]
theorem zmk_55 : zMok 55 zc_55 := ⟨List.all_eq_true.mp (by decide +kernel), by decide +kernel⟩
/-- PenLines.ink -/
def zc_56 : List zE := [(0, 1, .aload_n 0, 0, 0, 0), (1, 2, .iload_n 1, 1, 0, 0), (2, 5, .invokevirtual 139, 79, 1, 1), (5, 8, .ifCond .ne 6, 11, 0, 0), (8, 10, .ldc 83, 0, 0, (-1000001)), (10, 11, .ireturn, 0, 0, 0), (11, 12, .iload_n 2, 2, 0, 0), (12, 40, .tableswitch 57 0 2 #[28, 37, 47], 0, 28, 0), (40, 41, .aload_n 0, 0, 0, 0), (41, 44, .getfield 19, 0, 4, 1), (44, 45, .iload_n 1, 1, 0, 0), (45, 48, .invokevirtual 142, 21, 1, 9), (48, 49, .ireturn, 0, 0, 0), (49, 50, .aload_n 0, 0, 0, 0), (50, 53, .getfield 19, 0, 4, 1), (53, 56, .getfield 145, 2, 22, 8), (56, 57, .iload_n 1, 1, 0, 0), (57, 58, .iaload, 0, 0, 0), (58, 59, .ireturn, 0, 0, 0), (59, 60, .aload_n 0, 0, 0, 0), (60, 63, .getfield 19, 0, 4, 1), (63, 66, .getfield 148, 2, 23, 9), (66, 67, .iload_n 1, 1, 0, 0), (67, 68, .iaload, 0, 0, 0), (68, 69, .ireturn, 0, 0, 0), (69, 71, .ldc 83, 0, 0, (-1000001)), (71, 72, .ireturn, 0, 0, 0)]
theorem zmk_56 : zMok 56 zc_56 := ⟨List.all_eq_true.mp (by decide +kernel), by decide +kernel⟩
/-- PenLines.piece -/
def zc_57 : List zE := [(0, 1, .aload_n 0, 0, 0, 0), (1, 2, .iload_n 1, 1, 0, 0), (2, 5, .invokevirtual 139, 79, 1, 1), (5, 8, .ifCond .eq 19, 24, 0, 0), (8, 9, .iload_n 2, 2, 0, 0), (9, 12, .ifCond .lt 15, 24, 0, 0), (12, 13, .iload_n 2, 2, 0, 0), (13, 14, .aload_n 0, 0, 0, 0), (14, 17, .getfield 19, 0, 4, 1), (17, 18, .iload_n 1, 1, 0, 0), (18, 21, .invokevirtual 142, 21, 1, 9), (21, 24, .if_icmp .lt 6, 27, 0, 0), (24, 26, .ldc 83, 0, 0, (-1000001)), (26, 27, .ireturn, 0, 0, 0), (27, 28, .aload_n 0, 0, 0, 0), (28, 31, .getfield 19, 0, 4, 1), (31, 34, .getfield 145, 2, 22, 8), (34, 35, .iload_n 1, 1, 0, 0), (35, 36, .iaload, 0, 0, 0), (36, 37, .iload_n 2, 2, 0, 0), (37, 38, .iadd, 0, 0, 0), (38, 40, .istore 4, 4, 0, 0), (40, 41, .iload_n 3, 3, 0, 0), (41, 68, .tableswitch 60 0 2 #[27, 38, 49], 0, 27, 0), (68, 69, .aload_n 0, 0, 0, 0), (69, 72, .getfield 19, 0, 4, 1), (72, 75, .getfield 151, 2, 19, 4), (75, 77, .iload 4, 4, 0, 0), (77, 78, .iaload, 0, 0, 0), (78, 79, .ireturn, 0, 0, 0), (79, 80, .aload_n 0, 0, 0, 0), (80, 83, .getfield 19, 0, 4, 1), (83, 86, .getfield 154, 2, 20, 5), (86, 88, .iload 4, 4, 0, 0), (88, 89, .iaload, 0, 0, 0), (89, 90, .ireturn, 0, 0, 0), (90, 91, .aload_n 0, 0, 0, 0), (91, 94, .getfield 19, 0, 4, 1), (94, 97, .getfield 157, 2, 21, 6), (97, 99, .iload 4, 4, 0, 0), (99, 100, .iaload, 0, 0, 0), (100, 101, .ireturn, 0, 0, 0), (101, 103, .ldc 83, 0, 0, (-1000001)), (103, 104, .ireturn, 0, 0, 0)]
theorem zmk_57 : zMok 57 zc_57 := ⟨List.all_eq_true.mp (by decide +kernel), by decide +kernel⟩
/-- PenLines.loose -/
def zc_58 : List zE := [(0, 1, .aload_n 0, 0, 0, 0), (1, 4, .getfield 19, 0, 4, 1), (4, 7, .getfield 160, 2, 0, 11), (7, 8, .ireturn, 0, 0, 0)]
theorem zmk_58 : zMok 58 zc_58 := ⟨List.all_eq_true.mp (by decide +kernel), by decide +kernel⟩
/-- PenLines.form -/
def zc_59 : List zE := [(0, 1, .iload_n 1, 1, 0, 0), (1, 4, .invokestatic 163, 80, 1, 1), (4, 7, .ifCond .eq 28, 32, 0, 0), (7, 8, .iload_n 2, 2, 0, 0), (8, 9, .iload_n 3, 3, 0, 0), (9, 11, .iload 4, 4, 0, 0), (11, 13, .iload 5, 5, 0, 0), (13, 16, .invokestatic 166, 82, 4, 1), (16, 19, .ifCond .eq 16, 32, 0, 0), (19, 21, .iload 6, 6, 0, 0), (21, 22, .iconst 1, 0, 0, 1), (22, 25, .if_icmp .lt 10, 32, 0, 0), (25, 27, .iload 6, 6, 0, 0), (27, 29, .bipush 99, 0, 0, 99), (29, 32, .if_icmp .le 6, 35, 0, 0), (32, 34, .ldc 83, 0, 0, (-1000001)), (34, 35, .ireturn, 0, 0, 0), (35, 36, .aload_n 0, 0, 0, 0), (36, 39, .getfield 26, 0, 5, 2), (39, 40, .iload_n 1, 1, 0, 0), (40, 41, .iload_n 2, 2, 0, 0), (41, 42, .iload_n 3, 3, 0, 0), (42, 44, .iload 4, 4, 0, 0), (44, 46, .iload 5, 5, 0, 0), (46, 49, .invokestatic 170, 83, 4, 1), (49, 52, .invokevirtual 174, 1, 2, 13), (52, 54, .istore 7, 7, 0, 0), (54, 56, .iload 7, 7, 0, 0), (56, 59, .ifCond .ge 6, 62, 0, 0), (59, 61, .ldc 178, 0, 0, (-1000003)), (61, 62, .ireturn, 0, 0, 0), (62, 63, .aload_n 0, 0, 0, 0), (63, 64, .iconst (-1), 0, 0, (-1)), (64, 67, .putfield 37, 0, 0, 4), (67, 68, .aload_n 0, 0, 0, 0), (68, 71, .getfield 26, 0, 5, 2), (71, 73, .iload 7, 7, 0, 0), (73, 75, .iload 6, 6, 0, 0), (75, 78, .invokevirtual 179, 2, 2, 13), (78, 79, .ireturn, 0, 0, 0)]
theorem zmk_59 : zMok 59 zc_59 := ⟨List.all_eq_true.mp (by decide +kernel), by decide +kernel⟩
/-- PenLines.seen -/
def zc_60 : List zE := [(0, 1, .iload_n 1, 1, 0, 0), (1, 4, .invokestatic 163, 80, 1, 1), (4, 7, .ifCond .eq 15, 19, 0, 0), (7, 8, .iload_n 2, 2, 0, 0), (8, 9, .iload_n 3, 3, 0, 0), (9, 11, .iload 4, 4, 0, 0), (11, 13, .iload 5, 5, 0, 0), (13, 16, .invokestatic 166, 82, 4, 1), (16, 19, .ifCond .ne 6, 22, 0, 0), (19, 21, .ldc 83, 0, 0, (-1000001)), (21, 22, .ireturn, 0, 0, 0), (22, 23, .aload_n 0, 0, 0, 0), (23, 26, .getfield 26, 0, 5, 2), (26, 27, .iload_n 1, 1, 0, 0), (27, 28, .iload_n 2, 2, 0, 0), (28, 29, .iload_n 3, 3, 0, 0), (29, 31, .iload 4, 4, 0, 0), (31, 33, .iload 5, 5, 0, 0), (33, 36, .invokestatic 170, 83, 4, 1), (36, 39, .invokevirtual 182, 0, 2, 13), (39, 41, .istore 6, 6, 0, 0), (41, 43, .iload 6, 6, 0, 0), (43, 46, .ifCond .ge 7, 50, 0, 0), (46, 47, .iconst 0, 0, 0, 0), (47, 50, .goto 13, 60, 0, 0), (50, 51, .aload_n 0, 0, 0, 0), (51, 54, .getfield 26, 0, 5, 2), (54, 57, .getfield 185, 3, 24, 0), (57, 59, .iload 6, 6, 0, 0), (59, 60, .iaload, 0, 0, 0), (60, 61, .ireturn, 0, 0, 0)]
theorem zmk_60 : zMok 60 zc_60 := ⟨List.all_eq_true.mp (by decide +kernel), by decide +kernel⟩
/-- PenLines.pair -/
def zc_61 : List zE := [(0, 1, .iload_n 1, 1, 0, 0), (1, 4, .invokestatic 163, 80, 1, 1), (4, 7, .ifCond .eq 21, 25, 0, 0), (7, 8, .iload_n 2, 2, 0, 0), (8, 11, .invokestatic 163, 80, 1, 1), (11, 14, .ifCond .eq 14, 25, 0, 0), (14, 15, .iload_n 3, 3, 0, 0), (15, 16, .iconst 1, 0, 0, 1), (16, 19, .if_icmp .lt 9, 25, 0, 0), (19, 20, .iload_n 3, 3, 0, 0), (20, 22, .bipush 99, 0, 0, 99), (22, 25, .if_icmp .le 6, 28, 0, 0), (25, 27, .ldc 83, 0, 0, (-1000001)), (27, 28, .ireturn, 0, 0, 0), (28, 29, .aload_n 0, 0, 0, 0), (29, 30, .iconst (-1), 0, 0, (-1)), (30, 33, .putfield 37, 0, 0, 4), (33, 34, .aload_n 0, 0, 0, 0), (34, 37, .getfield 26, 0, 5, 2), (37, 38, .iload_n 1, 1, 0, 0), (38, 39, .iload_n 2, 2, 0, 0), (39, 42, .invokestatic 187, 85, 2, 1), (42, 43, .iload_n 3, 3, 0, 0), (43, 46, .invokevirtual 179, 2, 2, 13), (46, 47, .ireturn, 0, 0, 0)]
theorem zmk_61 : zMok 61 zc_61 := ⟨List.all_eq_true.mp (by decide +kernel), by decide +kernel⟩
/-- PenLines.letter -/
def zc_62 : List zE := [(0, 1, .iload_n 1, 1, 0, 0), (1, 4, .invokestatic 163, 80, 1, 1), (4, 7, .ifCond .ne 6, 10, 0, 0), (7, 9, .ldc 83, 0, 0, (-1000001)), (9, 10, .ireturn, 0, 0, 0), (10, 11, .aload_n 0, 0, 0, 0), (11, 14, .getfield 33, 0, 6, 3), (14, 17, .getfield 190, 4, 0, 1), (17, 19, .bipush 12, 0, 0, 12), (19, 22, .if_icmp .lt 6, 25, 0, 0), (22, 24, .ldc 178, 0, 0, (-1000003)), (24, 25, .ireturn, 0, 0, 0), (25, 26, .aload_n 0, 0, 0, 0), (26, 29, .getfield 33, 0, 6, 3), (29, 30, .iload_n 1, 1, 0, 0), (30, 33, .invokevirtual 193, 47, 1, 16), (33, 34, .aload_n 0, 0, 0, 0), (34, 37, .getfield 33, 0, 6, 3), (37, 40, .getfield 190, 4, 0, 1), (40, 41, .ireturn, 0, 0, 0)]
theorem zmk_62 : zMok 62 zc_62 := ⟨List.all_eq_true.mp (by decide +kernel), by decide +kernel⟩
/-- PenLines.list -/
def zc_63 : List zE := [(0, 1, .aload_n 0, 0, 0, 0), (1, 4, .getfield 33, 0, 6, 3), (4, 7, .getfield 190, 4, 0, 1), (7, 10, .ifCond .eq 20, 27, 0, 0), (10, 11, .aload_n 0, 0, 0, 0), (11, 14, .getfield 33, 0, 6, 3), (14, 15, .aload_n 0, 0, 0, 0), (15, 18, .getfield 33, 0, 6, 3), (18, 21, .getfield 197, 4, 1, 0), (21, 24, .invokevirtual 201, 49, 1, 17), (24, 27, .ifCond .lt 6, 30, 0, 0), (27, 29, .ldc 205, 0, 0, (-1000002)), (29, 30, .ireturn, 0, 0, 0), (30, 31, .aload_n 0, 0, 0, 0), (31, 34, .getfield 33, 0, 6, 3), (34, 37, .getfield 206, 4, 0, 3), (37, 39, .bipush 30, 0, 0, 30), (39, 42, .if_icmp .lt 6, 45, 0, 0), (42, 44, .ldc 178, 0, 0, (-1000003)), (44, 45, .ireturn, 0, 0, 0), (45, 46, .aload_n 0, 0, 0, 0), (46, 49, .getfield 33, 0, 6, 3), (49, 52, .getfield 206, 4, 0, 3), (52, 53, .istore_n 1, 1, 0, 0), (53, 54, .aload_n 0, 0, 0, 0), (54, 57, .getfield 33, 0, 6, 3), (57, 60, .getfield 209, 4, 30, 2), (60, 61, .iload_n 1, 1, 0, 0), (61, 62, .aload_n 0, 0, 0, 0), (62, 65, .getfield 33, 0, 6, 3), (65, 68, .getfield 197, 4, 1, 0), (68, 69, .lastore, 0, 0, 0), (69, 70, .aload_n 0, 0, 0, 0), (70, 73, .getfield 33, 0, 6, 3), (73, 74, .dup, 0, 0, 0), (74, 77, .getfield 206, 4, 0, 3), (77, 78, .iconst 1, 0, 0, 1), (78, 79, .iadd, 0, 0, 0), (79, 82, .putfield 206, 4, 0, 3), (82, 83, .aload_n 0, 0, 0, 0), (83, 86, .getfield 33, 0, 6, 3), (86, 89, .invokevirtual 213, 48, 0, 17), (89, 90, .pop, 0, 0, 0), (90, 91, .iload_n 1, 1, 0, 0), (91, 92, .ireturn, 0, 0, 0)]
theorem zmk_63 : zMok 63 zc_63 := ⟨List.all_eq_true.mp (by decide +kernel), by decide +kernel⟩
/-- PenLines.wipe -/
def zc_64 : List zE := [(0, 1, .aload_n 0, 0, 0, 0), (1, 4, .getfield 33, 0, 6, 3), (4, 7, .invokevirtual 213, 48, 0, 17), (7, 8, .ireturn, 0, 0, 0)]
theorem zmk_64 : zMok 64 zc_64 := ⟨List.all_eq_true.mp (by decide +kernel), by decide +kernel⟩
/-- PenLines.listed -/
def zc_65 : List zE := [(0, 1, .aload_n 0, 0, 0, 0), (1, 2, .iload_n 1, 1, 0, 0), (2, 5, .invokevirtual 139, 79, 1, 1), (5, 8, .ifCond .eq 12, 17, 0, 0), (8, 9, .iload_n 3, 3, 0, 0), (9, 12, .ifCond .lt 8, 17, 0, 0), (12, 13, .iload_n 3, 3, 0, 0), (13, 14, .iconst 1, 0, 0, 1), (14, 17, .if_icmp .le 6, 20, 0, 0), (17, 19, .ldc 83, 0, 0, (-1000001)), (19, 20, .ireturn, 0, 0, 0), (20, 21, .aload_n 0, 0, 0, 0), (21, 22, .iload_n 1, 1, 0, 0), (22, 25, .invokevirtual 217, 90, 1, 0), (25, 26, .aload_n 0, 0, 0, 0), (26, 29, .getfield 65, 0, 10, 8), (29, 30, .aload_n 0, 0, 0, 0), (30, 33, .getfield 44, 0, 7, 5), (33, 34, .aload_n 0, 0, 0, 0), (34, 37, .getfield 33, 0, 6, 3), (37, 38, .aload_n 0, 0, 0, 0), (38, 41, .getfield 58, 0, 9, 7), (41, 44, .invokevirtual 220, 24, 3, 32), (44, 45, .iload_n 2, 2, 0, 0), (45, 48, .ifCond .lt 14, 59, 0, 0), (48, 49, .iload_n 2, 2, 0, 0), (49, 50, .aload_n 0, 0, 0, 0), (50, 53, .getfield 65, 0, 10, 8), (53, 56, .getfield 224, 8, 0, 2), (56, 59, .if_icmp .lt 6, 62, 0, 0), (59, 61, .ldc 227, 0, 0, (-1000000)), (61, 62, .ireturn, 0, 0, 0), (62, 63, .iload_n 3, 3, 0, 0), (63, 66, .ifCond .ne 15, 78, 0, 0), (66, 67, .aload_n 0, 0, 0, 0), (67, 70, .getfield 65, 0, 10, 8), (70, 73, .getfield 228, 8, 37, 0), (73, 74, .iload_n 2, 2, 0, 0), (74, 75, .iaload, 0, 0, 0), (75, 78, .goto 12, 87, 0, 0), (78, 79, .aload_n 0, 0, 0, 0), (79, 82, .getfield 65, 0, 10, 8), (82, 85, .getfield 231, 8, 38, 1), (85, 86, .iload_n 2, 2, 0, 0), (86, 87, .iaload, 0, 0, 0), (87, 88, .ireturn, 0, 0, 0)]
theorem zmk_65 : zMok 65 zc_65 := ⟨List.all_eq_true.mp (by decide +kernel), by decide +kernel⟩
/-- PenLines.open -/
def zc_66 : List zE := [(0, 1, .aload_n 0, 0, 0, 0), (1, 2, .iload_n 1, 1, 0, 0), (2, 5, .invokevirtual 139, 79, 1, 1), (5, 8, .ifCond .eq 24, 29, 0, 0), (8, 9, .iload_n 2, 2, 0, 0), (9, 12, .ifCond .lt 20, 29, 0, 0), (12, 13, .iload_n 2, 2, 0, 0), (13, 14, .iconst 5, 0, 0, 5), (14, 17, .if_icmp .ge 15, 29, 0, 0), (17, 18, .iload_n 3, 3, 0, 0), (18, 20, .bipush (-2), 0, 0, (-2)), (20, 23, .if_icmp .lt 9, 29, 0, 0), (23, 24, .iload_n 3, 3, 0, 0), (24, 26, .bipush 12, 0, 0, 12), (26, 29, .if_icmp .lt 6, 32, 0, 0), (29, 31, .ldc 83, 0, 0, (-1000001)), (31, 32, .ireturn, 0, 0, 0), (32, 33, .aload_n 0, 0, 0, 0), (33, 34, .iload_n 1, 1, 0, 0), (34, 37, .invokevirtual 217, 90, 1, 0), (37, 38, .iload_n 2, 2, 0, 0), (38, 39, .aload_n 0, 0, 0, 0), (39, 42, .getfield 51, 0, 8, 6), (42, 45, .invokevirtual 234, 35, 0, 25), (45, 48, .if_icmp .lt 6, 51, 0, 0), (48, 50, .ldc 227, 0, 0, (-1000000)), (50, 51, .ireturn, 0, 0, 0), (51, 52, .aload_n 0, 0, 0, 0), (52, 55, .getfield 51, 0, 8, 6), (55, 56, .iload_n 2, 2, 0, 0), (56, 59, .invokevirtual 237, 37, 1, 26), (59, 61, .lstore 4, 4, 0, 0), (61, 63, .lload 4, 4, 0, 0), (63, 66, .invokestatic 240, 88, 1, 1), (66, 68, .istore 6, 6, 0, 0), (68, 69, .iload_n 3, 3, 0, 0), (69, 70, .iconst (-1), 0, 0, (-1)), (70, 73, .if_icmp .ne 12, 82, 0, 0), (73, 74, .aload_n 0, 0, 0, 0), (74, 77, .getfield 51, 0, 8, 6), (77, 78, .iload_n 2, 2, 0, 0), (78, 81, .invokevirtual 243, 36, 1, 25), (81, 82, .ireturn, 0, 0, 0), (82, 83, .iload_n 3, 3, 0, 0), (83, 85, .bipush (-2), 0, 0, (-2)), (85, 88, .if_icmp .ne 6, 91, 0, 0), (88, 90, .iload 6, 6, 0, 0), (90, 91, .ireturn, 0, 0, 0), (91, 92, .iload_n 3, 3, 0, 0), (92, 94, .iload 6, 6, 0, 0), (94, 97, .if_icmp .ge 12, 106, 0, 0), (97, 99, .lload 4, 4, 0, 0), (99, 100, .iload_n 3, 3, 0, 0), (100, 103, .invokestatic 246, 87, 2, 1), (103, 106, .goto 5, 108, 0, 0), (106, 108, .ldc 227, 0, 0, (-1000000)), (108, 109, .ireturn, 0, 0, 0)]
theorem zmk_66 : zMok 66 zc_66 := ⟨List.all_eq_true.mp (by decide +kernel), by decide +kernel⟩
/-- PenLines.find -/
def zc_67 : List zE := [(0, 1, .aload_n 0, 0, 0, 0), (1, 4, .getfield 33, 0, 6, 3), (4, 7, .getfield 190, 4, 0, 1), (7, 10, .ifCond .ne 6, 13, 0, 0), (10, 12, .ldc 205, 0, 0, (-1000002)), (12, 13, .ireturn, 0, 0, 0), (13, 14, .iconst 0, 0, 0, 0), (14, 15, .istore_n 2, 2, 0, 0), (15, 16, .iconst 0, 0, 0, 0), (16, 17, .istore_n 3, 3, 0, 0), (17, 18, .iload_n 3, 3, 0, 0), (18, 19, .aload_n 0, 0, 0, 0), (19, 22, .getfield 19, 0, 4, 1), (22, 25, .getfield 130, 2, 0, 10), (25, 28, .if_icmp .ge 41, 66, 0, 0), (28, 29, .aload_n 0, 0, 0, 0), (29, 30, .iload_n 3, 3, 0, 0), (30, 33, .invokevirtual 217, 90, 1, 0), (33, 34, .aload_n 0, 0, 0, 0), (34, 37, .getfield 51, 0, 8, 6), (37, 38, .aload_n 0, 0, 0, 0), (38, 41, .getfield 33, 0, 6, 3), (41, 44, .getfield 197, 4, 1, 0), (44, 47, .invokevirtual 250, 38, 1, 25), (47, 50, .ifCond .eq 13, 60, 0, 0), (50, 51, .iload_n 2, 2, 0, 0), (51, 52, .iload_n 1, 1, 0, 0), (52, 55, .if_icmp .ne 5, 57, 0, 0), (55, 56, .iload_n 3, 3, 0, 0), (56, 57, .ireturn, 0, 0, 0), (57, 60, .iinc 2 1, 2, 0, 1), (60, 63, .iinc 3 1, 3, 0, 1), (63, 66, .goto (-46), 17, 0, 0), (66, 68, .ldc 227, 0, 0, (-1000000)), (68, 69, .ireturn, 0, 0, 0)]
theorem zmk_67 : zMok 67 zc_67 := ⟨List.all_eq_true.mp (by decide +kernel), by decide +kernel⟩
/-- PenLines.teach -/
def zc_68 : List zE := [(0, 1, .aload_n 0, 0, 0, 0), (1, 2, .iload_n 1, 1, 0, 0), (2, 5, .invokevirtual 139, 79, 1, 1), (5, 8, .ifCond .ne 6, 11, 0, 0), (8, 10, .ldc 83, 0, 0, (-1000001)), (10, 11, .ireturn, 0, 0, 0), (11, 12, .aload_n 0, 0, 0, 0), (12, 13, .iload_n 1, 1, 0, 0), (13, 16, .invokevirtual 217, 90, 1, 0), (16, 17, .aload_n 0, 0, 0, 0), (17, 20, .getfield 33, 0, 6, 3), (20, 23, .getfield 190, 4, 0, 1), (23, 26, .ifCond .eq 25, 48, 0, 0), (26, 27, .aload_n 0, 0, 0, 0), (27, 30, .getfield 58, 0, 9, 7), (30, 31, .aload_n 0, 0, 0, 0), (31, 34, .getfield 44, 0, 7, 5), (34, 35, .aload_n 0, 0, 0, 0), (35, 38, .getfield 33, 0, 6, 3), (38, 41, .getfield 197, 4, 1, 0), (41, 44, .invokevirtual 254, 44, 2, 29), (44, 45, .iconst (-1), 0, 0, (-1)), (45, 48, .if_icmp .ne 6, 51, 0, 0), (48, 50, .ldc 205, 0, 0, (-1000002)), (50, 51, .ireturn, 0, 0, 0), (51, 52, .aload_n 0, 0, 0, 0), (52, 55, .getfield 26, 0, 5, 2), (55, 58, .getfield 257, 3, 0, 8), (58, 60, .bipush 50, 0, 0, 50), (60, 63, .if_icmp .lt 6, 66, 0, 0), (63, 65, .ldc 178, 0, 0, (-1000003)), (65, 66, .ireturn, 0, 0, 0), (66, 67, .aload_n 0, 0, 0, 0), (67, 70, .getfield 58, 0, 9, 7), (70, 71, .aload_n 0, 0, 0, 0), (71, 74, .getfield 44, 0, 7, 5), (74, 75, .aload_n 0, 0, 0, 0), (75, 78, .getfield 33, 0, 6, 3), (78, 81, .getfield 197, 4, 1, 0), (81, 84, .invokevirtual 260, 46, 2, 28), (84, 85, .aload_n 0, 0, 0, 0), (85, 88, .getfield 26, 0, 5, 2), (88, 91, .invokevirtual 264, 3, 0, 12), (91, 92, .aload_n 0, 0, 0, 0), (92, 93, .aload_n 0, 0, 0, 0), (93, 96, .getfield 19, 0, 4, 1), (96, 99, .getfield 145, 2, 22, 8), (99, 100, .iload_n 1, 1, 0, 0), (100, 101, .iaload, 0, 0, 0), (101, 104, .invokevirtual 267, 91, 1, 0), (104, 105, .aload_n 0, 0, 0, 0), (105, 106, .iconst (-1), 0, 0, (-1)), (106, 109, .putfield 37, 0, 0, 4), (109, 110, .aload_n 0, 0, 0, 0), (110, 113, .getfield 33, 0, 6, 3), (113, 116, .invokevirtual 213, 48, 0, 17), (116, 117, .ireturn, 0, 0, 0)]
theorem zmk_68 : zMok 68 zc_68 := ⟨List.all_eq_true.mp (by decide +kernel), by decide +kernel⟩
/-- PenLines.unteach -/
def zc_69 : List zE := [(0, 1, .aload_n 0, 0, 0, 0), (1, 4, .getfield 26, 0, 5, 2), (4, 7, .getfield 257, 3, 0, 8), (7, 10, .ifCond .ne 6, 13, 0, 0), (10, 12, .ldc 227, 0, 0, (-1000000)), (12, 13, .ireturn, 0, 0, 0), (13, 14, .aload_n 0, 0, 0, 0), (14, 17, .getfield 26, 0, 5, 2), (17, 20, .invokevirtual 270, 4, 0, 12), (20, 21, .aload_n 0, 0, 0, 0), (21, 22, .iconst (-1), 0, 0, (-1)), (22, 25, .putfield 37, 0, 0, 4), (25, 26, .aload_n 0, 0, 0, 0), (26, 29, .getfield 26, 0, 5, 2), (29, 32, .getfield 257, 3, 0, 8), (32, 33, .ireturn, 0, 0, 0)]
theorem zmk_69 : zMok 69 zc_69 := ⟨List.all_eq_true.mp (by decide +kernel), by decide +kernel⟩
/-- PenLines.kind -/
def zc_70 : List zE := [(0, 1, .aload_n 0, 0, 0, 0), (1, 2, .iload_n 1, 1, 0, 0), (2, 5, .invokevirtual 139, 79, 1, 1), (5, 8, .ifCond .ne 6, 11, 0, 0), (8, 10, .ldc 83, 0, 0, (-1000001)), (10, 11, .ireturn, 0, 0, 0), (11, 12, .aload_n 0, 0, 0, 0), (12, 13, .iload_n 1, 1, 0, 0), (13, 16, .invokevirtual 217, 90, 1, 0), (16, 17, .aload_n 0, 0, 0, 0), (17, 20, .invokevirtual 273, 92, 0, 1), (20, 21, .ireturn, 0, 0, 0)]
theorem zmk_70 : zMok 70 zc_70 := ⟨List.all_eq_true.mp (by decide +kernel), by decide +kernel⟩
/-- PenLines.as -/
def zc_71 : List zE := [(0, 1, .aload_n 0, 0, 0, 0), (1, 2, .iload_n 1, 1, 0, 0), (2, 5, .invokevirtual 139, 79, 1, 1), (5, 8, .ifCond .eq 12, 17, 0, 0), (8, 9, .iload_n 2, 2, 0, 0), (9, 12, .ifCond .lt 8, 17, 0, 0), (12, 13, .iload_n 2, 2, 0, 0), (13, 14, .iconst 3, 0, 0, 3), (14, 17, .if_icmp .le 6, 20, 0, 0), (17, 19, .ldc 83, 0, 0, (-1000001)), (19, 20, .ireturn, 0, 0, 0), (20, 21, .aload_n 0, 0, 0, 0), (21, 22, .iload_n 1, 1, 0, 0), (22, 25, .invokevirtual 217, 90, 1, 0), (25, 26, .aload_n 0, 0, 0, 0), (26, 29, .invokevirtual 273, 92, 0, 1), (29, 30, .iload_n 2, 2, 0, 0), (30, 33, .if_icmp .ge 9, 39, 0, 0), (33, 34, .aload_n 0, 0, 0, 0), (34, 35, .iconst 3, 0, 0, 3), (35, 38, .invokevirtual 84, 76, 1, 1), (38, 39, .ireturn, 0, 0, 0), (39, 40, .aload_n 0, 0, 0, 0), (40, 41, .aload_n 0, 0, 0, 0), (41, 44, .getfield 19, 0, 4, 1), (44, 45, .iload_n 1, 1, 0, 0), (45, 48, .invokevirtual 142, 21, 1, 9), (48, 51, .invokevirtual 92, 77, 1, 1), (51, 52, .ireturn, 0, 0, 0)]
theorem zmk_71 : zMok 71 zc_71 := ⟨List.all_eq_true.mp (by decide +kernel), by decide +kernel⟩
/-- PenLines.ask -/
def zc_72 : List zE := [(0, 1, .aload_n 0, 0, 0, 0), (1, 2, .iload_n 1, 1, 0, 0), (2, 5, .invokevirtual 139, 79, 1, 1), (5, 8, .ifCond .eq 12, 17, 0, 0), (8, 9, .iload_n 2, 2, 0, 0), (9, 12, .ifCond .lt 8, 17, 0, 0), (12, 13, .iload_n 2, 2, 0, 0), (13, 14, .iconst 1, 0, 0, 1), (14, 17, .if_icmp .le 6, 20, 0, 0), (17, 19, .ldc 83, 0, 0, (-1000001)), (19, 20, .ireturn, 0, 0, 0), (20, 21, .aload_n 0, 0, 0, 0), (21, 22, .iload_n 1, 1, 0, 0), (22, 25, .invokevirtual 217, 90, 1, 0), (25, 26, .aload_n 0, 0, 0, 0), (26, 27, .iconst 0, 0, 0, 0), (27, 30, .putfield 73, 0, 0, 10), (30, 31, .iload_n 2, 2, 0, 0), (31, 34, .ifCond .ne 11, 42, 0, 0), (34, 35, .aload_n 0, 0, 0, 0), (35, 36, .iload_n 1, 1, 0, 0), (36, 39, .invokevirtual 276, 94, 1, 1), (39, 42, .goto 8, 47, 0, 0), (42, 43, .aload_n 0, 0, 0, 0), (43, 44, .iload_n 1, 1, 0, 0), (44, 47, .invokevirtual 279, 99, 1, 1), (47, 48, .ireturn, 0, 0, 0)]
theorem zmk_72 : zMok 72 zc_72 := ⟨List.all_eq_true.mp (by decide +kernel), by decide +kernel⟩
/-- PenLines.trace -/
def zc_73 : List zE := [(0, 1, .iload_n 1, 1, 0, 0), (1, 4, .ifCond .lt 11, 12, 0, 0), (4, 5, .iload_n 1, 1, 0, 0), (5, 6, .aload_n 0, 0, 0, 0), (6, 9, .getfield 73, 0, 0, 10), (9, 12, .if_icmp .lt 8, 17, 0, 0), (12, 14, .ldc 227, 0, 0, (-1000000)), (14, 17, .goto 9, 23, 0, 0), (17, 18, .aload_n 0, 0, 0, 0), (18, 21, .getfield 69, 0, 12, 9), (21, 22, .iload_n 1, 1, 0, 0), (22, 23, .iaload, 0, 0, 0), (23, 24, .ireturn, 0, 0, 0)]
theorem zmk_73 : zMok 73 zc_73 := ⟨List.all_eq_true.mp (by decide +kernel), by decide +kernel⟩
/-- PenLines.count -/
def zc_74 : List zE := [(0, 1, .iload_n 1, 1, 0, 0), (1, 48, .tableswitch 119 0 7 #[47, 55, 63, 79, 87, 95, 103, 111], 0, 47, 0), (48, 49, .aload_n 0, 0, 0, 0), (49, 52, .getfield 10, 0, 3, 0), (52, 55, .invokevirtual 282, 43, 0, 5), (55, 56, .ireturn, 0, 0, 0), (56, 57, .aload_n 0, 0, 0, 0), (57, 60, .getfield 19, 0, 4, 1), (60, 63, .getfield 130, 2, 0, 10), (63, 64, .ireturn, 0, 0, 0), (64, 65, .aload_n 0, 0, 0, 0), (65, 68, .getfield 19, 0, 4, 1), (68, 71, .getfield 284, 2, 0, 2), (71, 72, .aload_n 0, 0, 0, 0), (72, 75, .getfield 19, 0, 4, 1), (75, 78, .getfield 287, 2, 0, 7), (78, 79, .isub, 0, 0, 0), (79, 80, .ireturn, 0, 0, 0), (80, 81, .aload_n 0, 0, 0, 0), (81, 84, .getfield 26, 0, 5, 2), (84, 87, .invokevirtual 290, 6, 0, 13), (87, 88, .ireturn, 0, 0, 0), (88, 89, .aload_n 0, 0, 0, 0), (89, 92, .getfield 26, 0, 5, 2), (92, 95, .invokevirtual 293, 7, 0, 13), (95, 96, .ireturn, 0, 0, 0), (96, 97, .aload_n 0, 0, 0, 0), (97, 100, .getfield 33, 0, 6, 3), (100, 103, .getfield 206, 4, 0, 3), (103, 104, .ireturn, 0, 0, 0), (104, 105, .aload_n 0, 0, 0, 0), (105, 108, .getfield 33, 0, 6, 3), (108, 111, .getfield 190, 4, 0, 1), (111, 112, .ireturn, 0, 0, 0), (112, 113, .aload_n 0, 0, 0, 0), (113, 116, .getfield 26, 0, 5, 2), (116, 119, .getfield 257, 3, 0, 8), (119, 120, .ireturn, 0, 0, 0), (120, 122, .ldc 83, 0, 0, (-1000001)), (122, 123, .ireturn, 0, 0, 0)]
theorem zmk_74 : zMok 74 zc_74 := ⟨List.all_eq_true.mp (by decide +kernel), by decide +kernel⟩
/-- PenLines.status -/
def zc_75 : List zE := [(0, 1, .aload_n 0, 0, 0, 0), (1, 4, .getfield 76, 0, 0, 11), (4, 5, .ireturn, 0, 0, 0)]
theorem zmk_75 : zMok 75 zc_75 := ⟨List.all_eq_true.mp (by decide +kernel), by decide +kernel⟩
/-- PenLines.found -/
def zc_76 : List zE := [(0, 1, .aload_n 0, 0, 0, 0), (1, 2, .iload_n 1, 1, 0, 0), (2, 5, .putfield 76, 0, 0, 11), (5, 8, .ldc_w 296, 0, 0, (-1000010)), (8, 9, .iload_n 1, 1, 0, 0), (9, 10, .isub, 0, 0, 0), (10, 11, .ireturn, 0, 0, 0)]
theorem zmk_76 : zMok 76 zc_76 := ⟨List.all_eq_true.mp (by decide +kernel), by decide +kernel⟩
/-- PenLines.fine -/
def zc_77 : List zE := [(0, 1, .aload_n 0, 0, 0, 0), (1, 2, .iconst 0, 0, 0, 0), (2, 5, .putfield 76, 0, 0, 11), (5, 6, .iload_n 1, 1, 0, 0), (6, 7, .ireturn, 0, 0, 0)]
theorem zmk_77 : zMok 77 zc_77 := ⟨List.all_eq_true.mp (by decide +kernel), by decide +kernel⟩
/-- PenLines.isSheet -/
def zc_78 : List zE := [(0, 1, .iload_n 0, 0, 0, 0), (1, 4, .ifCond .lt 13, 14, 0, 0), (4, 5, .iload_n 0, 0, 0, 0), (5, 7, .bipush 8, 0, 0, 8), (7, 10, .if_icmp .ge 7, 14, 0, 0), (10, 11, .iconst 1, 0, 0, 1), (11, 14, .goto 4, 15, 0, 0), (14, 15, .iconst 0, 0, 0, 0), (15, 16, .ireturn, 1, 0, 0)]
theorem zmk_78 : zMok 78 zc_78 := ⟨List.all_eq_true.mp (by decide +kernel), by decide +kernel⟩
/-- PenLines.isInk -/
def zc_79 : List zE := [(0, 1, .iload_n 1, 1, 0, 0), (1, 4, .ifCond .lt 18, 19, 0, 0), (4, 5, .iload_n 1, 1, 0, 0), (5, 6, .aload_n 0, 0, 0, 0), (6, 9, .getfield 19, 0, 4, 1), (9, 12, .getfield 130, 2, 0, 10), (12, 15, .if_icmp .ge 7, 19, 0, 0), (15, 16, .iconst 1, 0, 0, 1), (16, 19, .goto 4, 20, 0, 0), (19, 20, .iconst 0, 0, 0, 0), (20, 21, .ireturn, 1, 0, 0)]
theorem zmk_79 : zMok 79 zc_79 := ⟨List.all_eq_true.mp (by decide +kernel), by decide +kernel⟩
/-- PenLines.isLetter -/
def zc_80 : List zE := [(0, 1, .iload_n 0, 0, 0, 0), (1, 4, .ifCond .lt 13, 14, 0, 0), (4, 5, .iload_n 0, 0, 0, 0), (5, 7, .bipush 26, 0, 0, 26), (7, 10, .if_icmp .ge 7, 14, 0, 0), (10, 11, .iconst 1, 0, 0, 1), (11, 14, .goto 4, 15, 0, 0), (14, 15, .iconst 0, 0, 0, 0), (15, 16, .ireturn, 1, 0, 0)]
theorem zmk_80 : zMok 80 zc_80 := ⟨List.all_eq_true.mp (by decide +kernel), by decide +kernel⟩
/-- PenLines.isShape -/
def zc_81 : List zE := [(0, 1, .iload_n 0, 0, 0, 0), (1, 4, .ifCond .lt 13, 14, 0, 0), (4, 5, .iload_n 0, 0, 0, 0), (5, 7, .bipush 12, 0, 0, 12), (7, 10, .if_icmp .ge 7, 14, 0, 0), (10, 11, .iconst 1, 0, 0, 1), (11, 14, .goto 4, 15, 0, 0), (14, 15, .iconst 0, 0, 0, 0), (15, 16, .ireturn, 1, 0, 0)]
theorem zmk_81 : zMok 81 zc_81 := ⟨List.all_eq_true.mp (by decide +kernel), by decide +kernel⟩
/-- PenLines.isRow -/
def zc_82 : List zE := [(0, 1, .iload_n 0, 0, 0, 0), (1, 2, .iconst 1, 0, 0, 1), (2, 5, .if_icmp .lt 43, 45, 0, 0), (5, 6, .iload_n 0, 0, 0, 0), (6, 7, .iconst 3, 0, 0, 3), (7, 10, .if_icmp .gt 38, 45, 0, 0), (10, 11, .iload_n 1, 1, 0, 0), (11, 14, .invokestatic 297, 81, 1, 1), (14, 17, .ifCond .eq 31, 45, 0, 0), (17, 18, .iload_n 0, 0, 0, 0), (18, 19, .iconst 2, 0, 0, 2), (19, 22, .if_icmp .lt 10, 29, 0, 0), (22, 23, .iload_n 2, 2, 0, 0), (23, 26, .invokestatic 297, 81, 1, 1), (26, 29, .ifCond .eq 19, 45, 0, 0), (29, 30, .iload_n 0, 0, 0, 0), (30, 31, .iconst 3, 0, 0, 3), (31, 34, .if_icmp .lt 10, 41, 0, 0), (34, 35, .iload_n 3, 3, 0, 0), (35, 38, .invokestatic 297, 81, 1, 1), (38, 41, .ifCond .eq 7, 45, 0, 0), (41, 42, .iconst 1, 0, 0, 1), (42, 45, .goto 4, 46, 0, 0), (45, 46, .iconst 0, 0, 0, 0), (46, 47, .ireturn, 1, 0, 0)]
theorem zmk_82 : zMok 82 zc_82 := ⟨List.all_eq_true.mp (by decide +kernel), by decide +kernel⟩
/-- PenLines.rowCode -/
def zc_83 : List zE := [(0, 1, .iconst 0, 0, 0, 0), (1, 2, .iload_n 1, 1, 0, 0), (2, 5, .invokestatic 300, 84, 2, 1), (5, 7, .istore 4, 4, 0, 0), (7, 8, .iload_n 0, 0, 0, 0), (8, 9, .iconst 1, 0, 0, 1), (9, 12, .if_icmp .le 11, 20, 0, 0), (12, 14, .iload 4, 4, 0, 0), (14, 15, .iload_n 2, 2, 0, 0), (15, 18, .invokestatic 300, 84, 2, 1), (18, 20, .istore 4, 4, 0, 0), (20, 21, .iload_n 0, 0, 0, 0), (21, 22, .iconst 2, 0, 0, 2), (22, 25, .if_icmp .le 11, 33, 0, 0), (25, 27, .iload 4, 4, 0, 0), (27, 28, .iload_n 3, 3, 0, 0), (28, 31, .invokestatic 300, 84, 2, 1), (31, 33, .istore 4, 4, 0, 0), (33, 35, .iload 4, 4, 0, 0), (35, 36, .ireturn, 0, 0, 0)]
theorem zmk_83 : zMok 83 zc_83 := ⟨List.all_eq_true.mp (by decide +kernel), by decide +kernel⟩
/-- PenLines.rowCodeWith -/
def zc_84 : List zE := [(0, 1, .iload_n 0, 0, 0, 0), (1, 3, .bipush 13, 0, 0, 13), (3, 4, .imul, 0, 0, 0), (4, 5, .iload_n 1, 1, 0, 0), (5, 6, .iadd, 0, 0, 0), (6, 7, .iconst 1, 0, 0, 1), (7, 8, .iadd, 0, 0, 0), (8, 9, .ireturn, 0, 0, 0)]
theorem zmk_84 : zMok 84 zc_84 := ⟨List.all_eq_true.mp (by decide +kernel), by decide +kernel⟩
/-- PenLines.pairSlot -/
def zc_85 : List zE := [(0, 1, .iload_n 0, 0, 0, 0), (1, 3, .bipush 26, 0, 0, 26), (3, 4, .imul, 0, 0, 0), (4, 5, .iload_n 1, 1, 0, 0), (5, 6, .iadd, 0, 0, 0), (6, 7, .ireturn, 0, 0, 0)]
theorem zmk_85 : zMok 85 zc_85 := ⟨List.all_eq_true.mp (by decide +kernel), by decide +kernel⟩
/-- PenLines.wordShift -/
def zc_86 : List zE := [(0, 1, .iconst 5, 0, 0, 5), (1, 3, .bipush 11, 0, 0, 11), (3, 4, .iload_n 0, 0, 0, 0), (4, 5, .isub, 0, 0, 0), (5, 6, .imul, 0, 0, 0), (6, 7, .ireturn, 0, 0, 0)]
theorem zmk_86 : zMok 86 zc_86 := ⟨List.all_eq_true.mp (by decide +kernel), by decide +kernel⟩
/-- PenLines.letterAt -/
def zc_87 : List zE := [(0, 1, .lload_n 0, 0, 0, 0), (1, 2, .iload_n 2, 2, 0, 0), (2, 5, .invokestatic 303, 86, 1, 1), (5, 6, .lushr, 0, 0, 0), (6, 9, .ldc2_w 306, 0, 0, 31), (9, 10, .land, 0, 0, 0), (10, 11, .l2i, 0, 0, 0), (11, 12, .iconst 1, 0, 0, 1), (12, 13, .isub, 0, 0, 0), (13, 14, .ireturn, 0, 0, 0)]
theorem zmk_87 : zMok 87 zc_87 := ⟨List.all_eq_true.mp (by decide +kernel), by decide +kernel⟩
/-- PenLines.lettersOf -/
def zc_88 : List zE := [(0, 1, .iconst 0, 0, 0, 0), (1, 2, .istore_n 2, 2, 0, 0), (2, 3, .iload_n 2, 2, 0, 0), (3, 5, .bipush 12, 0, 0, 12), (5, 8, .if_icmp .ge 17, 22, 0, 0), (8, 9, .lload_n 0, 0, 0, 0), (9, 10, .iload_n 2, 2, 0, 0), (10, 13, .invokestatic 246, 87, 2, 1), (13, 16, .ifCond .lt 9, 22, 0, 0), (16, 19, .iinc 2 1, 2, 0, 1), (19, 22, .goto (-17), 2, 0, 0), (22, 23, .iload_n 2, 2, 0, 0), (23, 24, .ireturn, 0, 0, 0)]
theorem zmk_88 : zMok 88 zc_88 := ⟨List.all_eq_true.mp (by decide +kernel), by decide +kernel⟩
/-- PenLines.wordWith -/
def zc_89 : List zE := [(0, 1, .lload_n 0, 0, 0, 0), (1, 2, .iload_n 3, 3, 0, 0), (2, 3, .iconst 1, 0, 0, 1), (3, 4, .iadd, 0, 0, 0), (4, 5, .i2l, 0, 0, 0), (5, 6, .iload_n 2, 2, 0, 0), (6, 9, .invokestatic 303, 86, 1, 1), (9, 10, .lshl, 0, 0, 0), (10, 11, .lor, 0, 0, 0), (11, 12, .lreturn, 0, 0, 0)]
theorem zmk_89 : zMok 89 zc_89 := ⟨List.all_eq_true.mp (by decide +kernel), by decide +kernel⟩
/-- PenLines.takeInHand -/
def zc_90 : List zE := [(0, 1, .aload_n 0, 0, 0, 0), (1, 4, .getfield 37, 0, 0, 4), (4, 5, .iload_n 1, 1, 0, 0), (5, 8, .if_icmp .eq 39, 44, 0, 0), (8, 9, .aload_n 0, 0, 0, 0), (9, 12, .getfield 44, 0, 7, 5), (12, 13, .aload_n 0, 0, 0, 0), (13, 16, .getfield 19, 0, 4, 1), (16, 17, .iload_n 1, 1, 0, 0), (17, 18, .aload_n 0, 0, 0, 0), (18, 21, .getfield 26, 0, 5, 2), (21, 24, .invokevirtual 308, 9, 3, 20), (24, 25, .aload_n 0, 0, 0, 0), (25, 28, .getfield 51, 0, 8, 6), (28, 29, .aload_n 0, 0, 0, 0), (29, 32, .getfield 44, 0, 7, 5), (32, 33, .aload_n 0, 0, 0, 0), (33, 36, .getfield 26, 0, 5, 2), (36, 39, .invokevirtual 312, 26, 2, 24), (39, 40, .aload_n 0, 0, 0, 0), (40, 41, .iload_n 1, 1, 0, 0), (41, 44, .putfield 37, 0, 0, 4), (44, 45, .return_, 0, 0, 0)]
theorem zmk_90 : zMok 90 zc_90 := ⟨List.all_eq_true.mp (by decide +kernel), by decide +kernel⟩
/-- PenLines.countReading -/
def zc_91 : List zE := [(0, 1, .iload_n 1, 1, 0, 0), (1, 2, .istore_n 2, 2, 0, 0), (2, 3, .iconst 0, 0, 0, 0), (3, 4, .istore_n 3, 3, 0, 0), (4, 5, .iconst 0, 0, 0, 0), (5, 7, .istore 4, 4, 0, 0), (7, 9, .iload 4, 4, 0, 0), (9, 10, .aload_n 0, 0, 0, 0), (10, 13, .getfield 33, 0, 6, 3), (13, 16, .getfield 190, 4, 0, 1), (16, 19, .if_icmp .ge 91, 107, 0, 0), (19, 20, .aload_n 0, 0, 0, 0), (20, 23, .getfield 33, 0, 6, 3), (23, 26, .getfield 197, 4, 1, 0), (26, 28, .iload 4, 4, 0, 0), (28, 31, .invokestatic 246, 87, 2, 1), (31, 33, .istore 5, 5, 0, 0), (33, 34, .aload_n 0, 0, 0, 0), (34, 37, .getfield 58, 0, 9, 7), (37, 40, .getfield 315, 7, 36, 1), (40, 42, .iload 4, 4, 0, 0), (42, 43, .iaload, 0, 0, 0), (43, 45, .istore 6, 6, 0, 0), (45, 46, .aload_n 0, 0, 0, 0), (46, 49, .getfield 26, 0, 5, 2), (49, 50, .aload_n 0, 0, 0, 0), (50, 53, .getfield 26, 0, 5, 2), (53, 55, .iload 5, 5, 0, 0), (55, 56, .aload_n 0, 0, 0, 0), (56, 59, .getfield 19, 0, 4, 1), (59, 60, .iload_n 2, 2, 0, 0), (60, 62, .iload 6, 6, 0, 0), (62, 65, .invokevirtual 318, 22, 2, 9), (65, 68, .invokevirtual 182, 0, 2, 13), (68, 69, .iconst 1, 0, 0, 1), (69, 72, .invokevirtual 179, 2, 2, 13), (72, 73, .pop, 0, 0, 0), (73, 75, .iload 4, 4, 0, 0), (75, 78, .ifCond .le 18, 93, 0, 0), (78, 79, .aload_n 0, 0, 0, 0), (79, 82, .getfield 26, 0, 5, 2), (82, 83, .iload_n 3, 3, 0, 0), (83, 85, .iload 5, 5, 0, 0), (85, 88, .invokestatic 187, 85, 2, 1), (88, 89, .iconst 1, 0, 0, 1), (89, 92, .invokevirtual 179, 2, 2, 13), (92, 93, .pop, 0, 0, 0), (93, 95, .iload 5, 5, 0, 0), (95, 96, .istore_n 3, 3, 0, 0), (96, 97, .iload_n 2, 2, 0, 0), (97, 99, .iload 6, 6, 0, 0), (99, 100, .iadd, 0, 0, 0), (100, 101, .istore_n 2, 2, 0, 0), (101, 104, .iinc 4 1, 4, 0, 1), (104, 107, .goto (-97), 7, 0, 0), (107, 108, .return_, 0, 0, 0)]
theorem zmk_91 : zMok 91 zc_91 := ⟨List.all_eq_true.mp (by decide +kernel), by decide +kernel⟩
/-- PenLines.kindInHand -/
def zc_92 : List zE := [(0, 1, .aload_n 0, 0, 0, 0), (1, 4, .getfield 51, 0, 8, 6), (4, 7, .invokevirtual 234, 35, 0, 25), (7, 8, .istore_n 1, 1, 0, 0), (8, 9, .iload_n 1, 1, 0, 0), (9, 12, .ifCond .ne 5, 14, 0, 0), (12, 13, .iconst 0, 0, 0, 0), (13, 14, .ireturn, 0, 0, 0), (14, 15, .iload_n 1, 1, 0, 0), (15, 16, .iconst 1, 0, 0, 1), (16, 19, .if_icmp .le 26, 42, 0, 0), (19, 20, .aload_n 0, 0, 0, 0), (20, 23, .getfield 51, 0, 8, 6), (23, 24, .iconst 1, 0, 0, 1), (24, 27, .invokevirtual 243, 36, 1, 25), (27, 28, .aload_n 0, 0, 0, 0), (28, 31, .getfield 51, 0, 8, 6), (31, 32, .iconst 0, 0, 0, 0), (32, 35, .invokevirtual 243, 36, 1, 25), (35, 36, .isub, 0, 0, 0), (36, 37, .iconst 4, 0, 0, 4), (37, 40, .if_icmp .ge 5, 42, 0, 0), (40, 41, .iconst 1, 0, 0, 1), (41, 42, .ireturn, 0, 0, 0), (42, 43, .aload_n 0, 0, 0, 0), (43, 46, .getfield 33, 0, 6, 3), (46, 47, .aload_n 0, 0, 0, 0), (47, 50, .getfield 51, 0, 8, 6), (50, 51, .iconst 0, 0, 0, 0), (51, 54, .invokevirtual 237, 37, 1, 26), (54, 57, .invokevirtual 201, 49, 1, 17), (57, 60, .ifCond .ge 7, 64, 0, 0), (60, 61, .iconst 2, 0, 0, 2), (61, 64, .goto 4, 65, 0, 0), (64, 65, .iconst 3, 0, 0, 3), (65, 66, .ireturn, 0, 0, 0)]
theorem zmk_92 : zMok 92 zc_92 := ⟨List.all_eq_true.mp (by decide +kernel), by decide +kernel⟩
/-- PenLines.begin -/
def zc_93 : List zE := [(0, 1, .aload_n 0, 0, 0, 0), (1, 4, .getfield 73, 0, 0, 10), (4, 6, .bipush 16, 0, 0, 16), (6, 9, .if_icmp .ge 23, 29, 0, 0), (9, 10, .aload_n 0, 0, 0, 0), (10, 13, .getfield 69, 0, 12, 9), (13, 14, .aload_n 0, 0, 0, 0), (14, 17, .getfield 73, 0, 0, 10), (17, 18, .iload_n 1, 1, 0, 0), (18, 19, .iastore, 0, 0, 0), (19, 20, .aload_n 0, 0, 0, 0), (20, 21, .dup, 0, 0, 0), (21, 24, .getfield 73, 0, 0, 10), (24, 25, .iconst 1, 0, 0, 1), (25, 26, .iadd, 0, 0, 0), (26, 29, .putfield 73, 0, 0, 10), (29, 30, .return_, 0, 0, 0)]
theorem zmk_93 : zMok 93 zc_93 := ⟨List.all_eq_true.mp (by decide +kernel), by decide +kernel⟩
/-- PenLines.askSize -/
def zc_94 : List zE := [(0, 1, .aload_n 0, 0, 0, 0), (1, 4, .invokevirtual 273, 92, 0, 1), (4, 32, .tableswitch 46 1 3 #[40, 34, 28], 0, 28, 0), (32, 33, .aload_n 0, 0, 0, 0), (33, 34, .iload_n 1, 1, 0, 0), (34, 37, .invokevirtual 321, 98, 1, 1), (37, 38, .ireturn, 0, 0, 0), (38, 39, .aload_n 0, 0, 0, 0), (39, 40, .iload_n 1, 1, 0, 0), (40, 43, .invokevirtual 324, 97, 1, 1), (43, 44, .ireturn, 0, 0, 0), (44, 45, .aload_n 0, 0, 0, 0), (45, 46, .iload_n 1, 1, 0, 0), (46, 49, .invokevirtual 327, 96, 1, 1), (49, 50, .ireturn, 0, 0, 0), (50, 51, .aload_n 0, 0, 0, 0), (51, 52, .iload_n 1, 1, 0, 0), (52, 55, .invokevirtual 330, 95, 1, 1), (55, 56, .ireturn, 0, 0, 0)]
theorem zmk_94 : zMok 94 zc_94 := ⟨List.all_eq_true.mp (by decide +kernel), by decide +kernel⟩
/-- PenLines.inkSize -/
def zc_95 : List zE := [(0, 1, .aload_n 0, 0, 0, 0), (1, 3, .bipush 10, 0, 0, 10), (3, 6, .invokevirtual 333, 93, 1, 0), (6, 7, .aload_n 0, 0, 0, 0), (7, 10, .getfield 19, 0, 4, 1), (10, 11, .iload_n 1, 1, 0, 0), (11, 14, .invokevirtual 142, 21, 1, 9), (14, 15, .ireturn, 0, 0, 0)]
theorem zmk_95 : zMok 95 zc_95 := ⟨List.all_eq_true.mp (by decide +kernel), by decide +kernel⟩
/-- PenLines.readSize -/
def zc_96 : List zE := [(0, 1, .aload_n 0, 0, 0, 0), (1, 3, .bipush 11, 0, 0, 11), (3, 6, .invokevirtual 333, 93, 1, 0), (6, 7, .aload_n 0, 0, 0, 0), (7, 8, .iload_n 1, 1, 0, 0), (8, 11, .invokevirtual 330, 95, 1, 1), (11, 12, .aload_n 0, 0, 0, 0), (12, 15, .getfield 51, 0, 8, 6), (15, 16, .iconst 0, 0, 0, 0), (16, 19, .invokevirtual 243, 36, 1, 25), (19, 20, .iadd, 0, 0, 0), (20, 21, .ireturn, 0, 0, 0)]
theorem zmk_96 : zMok 96 zc_96 := ⟨List.all_eq_true.mp (by decide +kernel), by decide +kernel⟩
/-- PenLines.sureSize -/
def zc_97 : List zE := [(0, 1, .aload_n 0, 0, 0, 0), (1, 3, .bipush 12, 0, 0, 12), (3, 6, .invokevirtual 333, 93, 1, 0), (6, 7, .iconst 2, 0, 0, 2), (7, 8, .aload_n 0, 0, 0, 0), (8, 9, .iload_n 1, 1, 0, 0), (9, 12, .invokevirtual 327, 96, 1, 1), (12, 13, .imul, 0, 0, 0), (13, 14, .ireturn, 0, 0, 0)]
theorem zmk_97 : zMok 97 zc_97 := ⟨List.all_eq_true.mp (by decide +kernel), by decide +kernel⟩
/-- PenLines.listedSize -/
def zc_98 : List zE := [(0, 1, .aload_n 0, 0, 0, 0), (1, 3, .bipush 13, 0, 0, 13), (3, 6, .invokevirtual 333, 93, 1, 0), (6, 7, .aload_n 0, 0, 0, 0), (7, 8, .iload_n 1, 1, 0, 0), (8, 11, .invokevirtual 324, 97, 1, 1), (11, 12, .aload_n 0, 0, 0, 0), (12, 13, .iload_n 1, 1, 0, 0), (13, 16, .invokevirtual 279, 99, 1, 1), (16, 17, .iadd, 0, 0, 0), (17, 18, .ireturn, 0, 0, 0)]
theorem zmk_98 : zMok 98 zc_98 := ⟨List.all_eq_true.mp (by decide +kernel), by decide +kernel⟩
/-- PenLines.askMark -/
def zc_99 : List zE := [(0, 1, .aload_n 0, 0, 0, 0), (1, 4, .invokevirtual 273, 92, 0, 1), (4, 32, .lookupswitch 40 #[(2, 34), (3, 28)], 0, 28, 0), (32, 33, .aload_n 0, 0, 0, 0), (33, 34, .iload_n 1, 1, 0, 0), (34, 37, .invokevirtual 336, 102, 1, 1), (37, 38, .ireturn, 0, 0, 0), (38, 39, .aload_n 0, 0, 0, 0), (39, 40, .iload_n 1, 1, 0, 0), (40, 43, .invokevirtual 339, 101, 1, 1), (43, 44, .ireturn, 0, 0, 0), (44, 45, .aload_n 0, 0, 0, 0), (45, 46, .iload_n 1, 1, 0, 0), (46, 49, .invokevirtual 342, 100, 1, 1), (49, 50, .ireturn, 0, 0, 0)]
theorem zmk_99 : zMok 99 zc_99 := ⟨List.all_eq_true.mp (by decide +kernel), by decide +kernel⟩
/-- PenLines.inkMark -/
def zc_100 : List zE := [(0, 1, .aload_n 0, 0, 0, 0), (1, 3, .bipush 20, 0, 0, 20), (3, 6, .invokevirtual 333, 93, 1, 0), (6, 7, .aload_n 0, 0, 0, 0), (7, 10, .getfield 19, 0, 4, 1), (10, 13, .getfield 148, 2, 23, 9), (13, 14, .iload_n 1, 1, 0, 0), (14, 15, .iaload, 0, 0, 0), (15, 16, .ireturn, 0, 0, 0)]
theorem zmk_100 : zMok 100 zc_100 := ⟨List.all_eq_true.mp (by decide +kernel), by decide +kernel⟩
/-- PenLines.sureMark -/
def zc_101 : List zE := [(0, 1, .aload_n 0, 0, 0, 0), (1, 3, .bipush 21, 0, 0, 21), (3, 6, .invokevirtual 333, 93, 1, 0), (6, 7, .aload_n 0, 0, 0, 0), (7, 8, .iload_n 1, 1, 0, 0), (8, 11, .invokevirtual 342, 100, 1, 1), (11, 13, .bipush 100, 0, 0, 100), (13, 14, .iadd, 0, 0, 0), (14, 15, .ireturn, 0, 0, 0)]
theorem zmk_101 : zMok 101 zc_101 := ⟨List.all_eq_true.mp (by decide +kernel), by decide +kernel⟩
/-- PenLines.listedMark -/
def zc_102 : List zE := [(0, 1, .aload_n 0, 0, 0, 0), (1, 3, .bipush 22, 0, 0, 22), (3, 6, .invokevirtual 333, 93, 1, 0), (6, 7, .aload_n 0, 0, 0, 0), (7, 8, .iload_n 1, 1, 0, 0), (8, 11, .invokevirtual 339, 101, 1, 1), (11, 12, .aload_n 0, 0, 0, 0), (12, 15, .getfield 33, 0, 6, 3), (15, 16, .aload_n 0, 0, 0, 0), (16, 19, .getfield 51, 0, 8, 6), (19, 20, .iconst 0, 0, 0, 0), (20, 23, .invokevirtual 237, 37, 1, 26), (23, 26, .invokevirtual 201, 49, 1, 17), (26, 27, .iadd, 0, 0, 0), (27, 28, .ireturn, 0, 0, 0)]
theorem zmk_102 : zMok 102 zc_102 := ⟨List.all_eq_true.mp (by decide +kernel), by decide +kernel⟩
/-- java/util/Arrays.fill -/
def zc_158 : List zE := [(0, 1, .iconst 0, 0, 0, 0), (1, 2, .istore_n 2, 2, 0, 0), (2, 3, .aload_n 0, 0, 0, 0), (3, 4, .arraylength, 0, 0, 0), (4, 5, .istore_n 3, 3, 0, 0), (5, 6, .iload_n 2, 2, 0, 0), (6, 7, .iload_n 3, 3, 0, 0), (7, 10, .if_icmp .ge 13, 20, 0, 0), (10, 11, .aload_n 0, 0, 0, 0), (11, 12, .iload_n 2, 2, 0, 0), (12, 13, .iload_n 1, 1, 0, 0), (13, 14, .iastore, 0, 0, 0), (14, 17, .iinc 2 1, 2, 0, 1), (17, 20, .goto (-12), 5, 0, 0), (20, 21, .return_, 0, 0, 0)]
theorem zmk_158 : zMok 158 zc_158 := ⟨List.all_eq_true.mp (by decide +kernel), by decide +kernel⟩
end
section
/-! the rows of the methods, and that they are the methods' own -/
/-- PenLinesModel.in -/
def zc_103 : List zE := [(0, 1, .lload_n 0, 0, 0, 0), (1, 2, .lload_n 2, 2, 0, 0), (2, 3, .lcmp, 0, 0, 0), (3, 6, .ifCond .lt 14, 17, 0, 0), (6, 7, .lload_n 0, 0, 0, 0), (7, 9, .lload 4, 4, 0, 0), (9, 10, .lcmp, 0, 0, 0), (10, 13, .ifCond .gt 7, 17, 0, 0), (13, 14, .iconst 1, 0, 0, 1), (14, 17, .goto 4, 18, 0, 0), (17, 18, .iconst 0, 0, 0, 0), (18, 19, .ireturn, 1, 0, 0)]
theorem zmk_103 : zMok 103 zc_103 := ⟨List.all_eq_true.mp (by decide +kernel), by decide +kernel⟩
/-- PenLinesModel.finds -/
def zc_104 : List zE := [(0, 1, .aload_n 0, 0, 0, 0), (1, 2, .iload_n 1, 1, 0, 0), (2, 5, .putfield 101, 9, 0, 4), (5, 7, .ldc 104, 0, 0, (-1000010)), (7, 8, .iload_n 1, 1, 0, 0), (8, 9, .isub, 0, 0, 0), (9, 10, .ireturn, 0, 0, 0)]
theorem zmk_104 : zMok 104 zc_104 := ⟨List.all_eq_true.mp (by decide +kernel), by decide +kernel⟩
/-- PenLinesModel.well -/
def zc_105 : List zE := [(0, 1, .aload_n 0, 0, 0, 0), (1, 2, .iconst 0, 0, 0, 0), (2, 5, .putfield 101, 9, 0, 4), (5, 6, .iload_n 1, 1, 0, 0), (6, 7, .ireturn, 0, 0, 0)]
theorem zmk_105 : zMok 105 zc_105 := ⟨List.all_eq_true.mp (by decide +kernel), by decide +kernel⟩
/-- PenLinesModel.isSheet -/
def zc_106 : List zE := [(0, 1, .iload_n 0, 0, 0, 0), (1, 2, .i2l, 0, 0, 0), (2, 3, .lconst 0, 0, 0, 0), (3, 6, .ldc2_w 105, 0, 0, 7), (6, 9, .invokestatic 107, 103, 3, 1), (9, 10, .ireturn, 1, 0, 0)]
theorem zmk_106 : zMok 106 zc_106 := ⟨List.all_eq_true.mp (by decide +kernel), by decide +kernel⟩
/-- PenLinesModel.sheet -/
def zc_107 : List zE := [(0, 1, .iload_n 1, 1, 0, 0), (1, 4, .invokestatic 111, 106, 1, 1), (4, 7, .ifCond .eq 21, 25, 0, 0), (7, 8, .iload_n 2, 2, 0, 0), (8, 9, .i2l, 0, 0, 0), (9, 10, .lconst 0, 0, 0, 0), (10, 13, .ldc2_w 115, 0, 0, 2), (13, 16, .invokestatic 107, 103, 3, 1), (16, 19, .ifCond .eq 9, 25, 0, 0), (19, 20, .iload_n 3, 3, 0, 0), (20, 22, .bipush 80, 0, 0, 80), (22, 25, .if_icmp .le 6, 28, 0, 0), (25, 27, .ldc 117, 0, 0, (-1000001)), (27, 28, .ireturn, 0, 0, 0), (28, 29, .iload_n 3, 3, 0, 0), (29, 32, .ifCond .ge 9, 38, 0, 0), (32, 33, .aload_n 0, 0, 0, 0), (33, 34, .iconst 4, 0, 0, 4), (34, 37, .invokevirtual 118, 104, 1, 37), (37, 38, .ireturn, 0, 0, 0), (38, 39, .aload_n 0, 0, 0, 0), (39, 42, .getfield 7, 9, 39, 0), (42, 43, .iload_n 1, 1, 0, 0), (43, 44, .iload_n 2, 2, 0, 0), (44, 45, .iconst 1, 0, 0, 1), (45, 46, .iadd, 0, 0, 0), (46, 47, .iastore, 0, 0, 0), (47, 48, .aload_n 0, 0, 0, 0), (48, 51, .getfield 13, 9, 40, 1), (51, 52, .iload_n 1, 1, 0, 0), (52, 53, .iload_n 3, 3, 0, 0), (53, 54, .iastore, 0, 0, 0), (54, 55, .iconst 0, 0, 0, 0), (55, 57, .istore 4, 4, 0, 0), (57, 59, .iload 4, 4, 0, 0), (59, 60, .iload_n 3, 3, 0, 0), (60, 63, .if_icmp .ge 22, 82, 0, 0), (63, 64, .aload_n 0, 0, 0, 0), (64, 67, .getfield 16, 9, 41, 2), (67, 69, .bipush 80, 0, 0, 80), (69, 70, .iload_n 1, 1, 0, 0), (70, 71, .imul, 0, 0, 0), (71, 73, .iload 4, 4, 0, 0), (73, 74, .iadd, 0, 0, 0), (74, 75, .iconst 0, 0, 0, 0), (75, 76, .iastore, 0, 0, 0), (76, 79, .iinc 4 1, 4, 0, 1), (79, 82, .goto (-22), 57, 0, 0), (82, 83, .aload_n 0, 0, 0, 0), (83, 84, .iload_n 3, 3, 0, 0), (84, 87, .invokevirtual 122, 105, 1, 37), (87, 88, .ireturn, 0, 0, 0)]
theorem zmk_107 : zMok 107 zc_107 := ⟨List.all_eq_true.mp (by decide +kernel), by decide +kernel⟩
/-- PenLinesModel.set -/
def zc_108_0 : List zE := [(0, 1, .iload_n 1, 1, 0, 0), (1, 4, .invokestatic 111, 106, 1, 1), (4, 7, .ifCond .ne 6, 10, 0, 0), (7, 9, .ldc 117, 0, 0, (-1000001)), (9, 10, .ireturn, 0, 0, 0), (10, 11, .aload_n 0, 0, 0, 0), (11, 14, .getfield 7, 9, 39, 0), (14, 15, .iload_n 1, 1, 0, 0), (15, 16, .iaload, 0, 0, 0), (16, 19, .ifCond .ne 9, 25, 0, 0), (19, 20, .aload_n 0, 0, 0, 0), (20, 21, .iconst 1, 0, 0, 1), (21, 24, .invokevirtual 118, 104, 1, 37), (24, 25, .ireturn, 0, 0, 0), (25, 26, .iload_n 2, 2, 0, 0), (26, 27, .i2l, 0, 0, 0), (27, 28, .lconst 0, 0, 0, 0), (28, 29, .aload_n 0, 0, 0, 0), (29, 32, .getfield 13, 9, 40, 1), (32, 33, .iload_n 1, 1, 0, 0), (33, 34, .iaload, 0, 0, 0), (34, 35, .iconst 1, 0, 0, 1), (35, 36, .isub, 0, 0, 0), (36, 37, .i2l, 0, 0, 0), (37, 40, .invokestatic 107, 103, 3, 1), (40, 43, .ifCond .ne 9, 49, 0, 0), (43, 44, .aload_n 0, 0, 0, 0), (44, 45, .iconst 2, 0, 0, 2), (45, 48, .invokevirtual 118, 104, 1, 37), (48, 49, .ireturn, 0, 0, 0), (49, 50, .aload_n 0, 0, 0, 0), (50, 53, .getfield 7, 9, 39, 0), (53, 54, .iload_n 1, 1, 0, 0), (54, 55, .iaload, 0, 0, 0), (55, 56, .iconst 1, 0, 0, 1), (56, 59, .if_icmp .ne 8, 64, 0, 0), (59, 60, .iload_n 3, 3, 0, 0), (60, 61, .i2b, 0, 0, 0), (61, 64, .goto 19, 80, 0, 0), (64, 65, .aload_n 0, 0, 0, 0), (65, 68, .getfield 7, 9, 39, 0), (68, 69, .iload_n 1, 1, 0, 0), (69, 70, .iaload, 0, 0, 0), (70, 71, .iconst 2, 0, 0, 2), (71, 74, .if_icmp .ne 8, 79, 0, 0), (74, 75, .iload_n 3, 3, 0, 0), (75, 76, .i2s, 0, 0, 0), (76, 79, .goto 4, 80, 0, 0), (79, 80, .iload_n 3, 3, 0, 0), (80, 82, .istore 4, 4, 0, 0), (82, 83, .aload_n 0, 0, 0, 0), (83, 86, .getfield 16, 9, 41, 2), (86, 88, .bipush 80, 0, 0, 80), (88, 89, .iload_n 1, 1, 0, 0), (89, 90, .imul, 0, 0, 0), (90, 91, .iload_n 2, 2, 0, 0), (91, 92, .iadd, 0, 0, 0), (92, 94, .iload 4, 4, 0, 0), (94, 95, .iastore, 0, 0, 0), (95, 96, .aload_n 0, 0, 0, 0)]
theorem zmk_108_0 : ∀ x ∈ zc_108_0, zchk 108 x = true := List.all_eq_true.mp (by decide +kernel)
def zc_108_1 : List zE := [(96, 98, .iload 4, 4, 0, 0), (98, 101, .invokevirtual 122, 105, 1, 37), (101, 102, .ireturn, 0, 0, 0)]
theorem zmk_108_1 : ∀ x ∈ zc_108_1, zchk 108 x = true := List.all_eq_true.mp (by decide +kernel)
def zc_108 : List zE := [(0, 1, .iload_n 1, 1, 0, 0), (1, 4, .invokestatic 111, 106, 1, 1), (4, 7, .ifCond .ne 6, 10, 0, 0), (7, 9, .ldc 117, 0, 0, (-1000001)), (9, 10, .ireturn, 0, 0, 0), (10, 11, .aload_n 0, 0, 0, 0), (11, 14, .getfield 7, 9, 39, 0), (14, 15, .iload_n 1, 1, 0, 0), (15, 16, .iaload, 0, 0, 0), (16, 19, .ifCond .ne 9, 25, 0, 0), (19, 20, .aload_n 0, 0, 0, 0), (20, 21, .iconst 1, 0, 0, 1), (21, 24, .invokevirtual 118, 104, 1, 37), (24, 25, .ireturn, 0, 0, 0), (25, 26, .iload_n 2, 2, 0, 0), (26, 27, .i2l, 0, 0, 0), (27, 28, .lconst 0, 0, 0, 0), (28, 29, .aload_n 0, 0, 0, 0), (29, 32, .getfield 13, 9, 40, 1), (32, 33, .iload_n 1, 1, 0, 0), (33, 34, .iaload, 0, 0, 0), (34, 35, .iconst 1, 0, 0, 1), (35, 36, .isub, 0, 0, 0), (36, 37, .i2l, 0, 0, 0), (37, 40, .invokestatic 107, 103, 3, 1), (40, 43, .ifCond .ne 9, 49, 0, 0), (43, 44, .aload_n 0, 0, 0, 0), (44, 45, .iconst 2, 0, 0, 2), (45, 48, .invokevirtual 118, 104, 1, 37), (48, 49, .ireturn, 0, 0, 0), (49, 50, .aload_n 0, 0, 0, 0), (50, 53, .getfield 7, 9, 39, 0), (53, 54, .iload_n 1, 1, 0, 0), (54, 55, .iaload, 0, 0, 0), (55, 56, .iconst 1, 0, 0, 1), (56, 59, .if_icmp .ne 8, 64, 0, 0), (59, 60, .iload_n 3, 3, 0, 0), (60, 61, .i2b, 0, 0, 0), (61, 64, .goto 19, 80, 0, 0), (64, 65, .aload_n 0, 0, 0, 0), (65, 68, .getfield 7, 9, 39, 0), (68, 69, .iload_n 1, 1, 0, 0), (69, 70, .iaload, 0, 0, 0), (70, 71, .iconst 2, 0, 0, 2), (71, 74, .if_icmp .ne 8, 79, 0, 0), (74, 75, .iload_n 3, 3, 0, 0), (75, 76, .i2s, 0, 0, 0), (76, 79, .goto 4, 80, 0, 0), (79, 80, .iload_n 3, 3, 0, 0), (80, 82, .istore 4, 4, 0, 0), (82, 83, .aload_n 0, 0, 0, 0), (83, 86, .getfield 16, 9, 41, 2), (86, 88, .bipush 80, 0, 0, 80), (88, 89, .iload_n 1, 1, 0, 0), (89, 90, .imul, 0, 0, 0), (90, 91, .iload_n 2, 2, 0, 0), (91, 92, .iadd, 0, 0, 0), (92, 94, .iload 4, 4, 0, 0), (94, 95, .iastore, 0, 0, 0), (95, 96, .aload_n 0, 0, 0, 0), (96, 98, .iload 4, 4, 0, 0), (98, 101, .invokevirtual 122, 105, 1, 37), (101, 102, .ireturn, 0, 0, 0)]
set_option maxRecDepth 100000 in
theorem zmk_108 : zMok 108 zc_108 := ⟨by
  show ∀ x ∈ zc_108_0 ++ (zc_108_1), zchk 108 x = true
  exact List.forall_mem_append.mpr ⟨zmk_108_0, zmk_108_1⟩, by decide +kernel⟩
/-- PenLinesModel.copy -/
def zc_109_0 : List zE := [(0, 1, .iload_n 1, 1, 0, 0), (1, 4, .invokestatic 111, 106, 1, 1), (4, 7, .ifCond .eq 10, 14, 0, 0), (7, 8, .iload_n 3, 3, 0, 0), (8, 11, .invokestatic 111, 106, 1, 1), (11, 14, .ifCond .ne 6, 17, 0, 0), (14, 16, .ldc 117, 0, 0, (-1000001)), (16, 17, .ireturn, 0, 0, 0), (17, 18, .aload_n 0, 0, 0, 0), (18, 21, .getfield 7, 9, 39, 0), (21, 22, .iload_n 1, 1, 0, 0), (22, 23, .iaload, 0, 0, 0), (23, 26, .ifCond .eq 12, 35, 0, 0), (26, 27, .aload_n 0, 0, 0, 0), (27, 30, .getfield 7, 9, 39, 0), (30, 31, .iload_n 3, 3, 0, 0), (31, 32, .iaload, 0, 0, 0), (32, 35, .ifCond .ne 9, 41, 0, 0), (35, 36, .aload_n 0, 0, 0, 0), (36, 37, .iconst 1, 0, 0, 1), (37, 40, .invokevirtual 118, 104, 1, 37), (40, 41, .ireturn, 0, 0, 0), (41, 42, .aload_n 0, 0, 0, 0), (42, 45, .getfield 7, 9, 39, 0), (45, 46, .iload_n 1, 1, 0, 0), (46, 47, .iaload, 0, 0, 0), (47, 48, .aload_n 0, 0, 0, 0), (48, 51, .getfield 7, 9, 39, 0), (51, 52, .iload_n 3, 3, 0, 0), (52, 53, .iaload, 0, 0, 0), (53, 56, .if_icmp .eq 9, 62, 0, 0), (56, 57, .aload_n 0, 0, 0, 0), (57, 58, .iconst 5, 0, 0, 5), (58, 61, .invokevirtual 118, 104, 1, 37), (61, 62, .ireturn, 0, 0, 0), (62, 63, .iload_n 2, 2, 0, 0), (63, 66, .ifCond .lt 48, 111, 0, 0), (66, 68, .iload 4, 4, 0, 0), (68, 71, .ifCond .lt 43, 111, 0, 0), (71, 73, .iload 5, 5, 0, 0), (73, 76, .ifCond .lt 38, 111, 0, 0), (76, 77, .iload_n 2, 2, 0, 0), (77, 78, .i2l, 0, 0, 0), (78, 80, .iload 5, 5, 0, 0), (80, 81, .i2l, 0, 0, 0), (81, 82, .ladd, 0, 0, 0), (82, 83, .aload_n 0, 0, 0, 0), (83, 86, .getfield 13, 9, 40, 1), (86, 87, .iload_n 1, 1, 0, 0), (87, 88, .iaload, 0, 0, 0), (88, 89, .i2l, 0, 0, 0), (89, 90, .lcmp, 0, 0, 0), (90, 93, .ifCond .gt 21, 111, 0, 0), (93, 95, .iload 4, 4, 0, 0), (95, 96, .i2l, 0, 0, 0), (96, 98, .iload 5, 5, 0, 0), (98, 99, .i2l, 0, 0, 0), (99, 100, .ladd, 0, 0, 0), (100, 101, .aload_n 0, 0, 0, 0), (101, 104, .getfield 13, 9, 40, 1)]
theorem zmk_109_0 : ∀ x ∈ zc_109_0, zchk 109 x = true := List.all_eq_true.mp (by decide +kernel)
def zc_109_1 : List zE := [(104, 105, .iload_n 3, 3, 0, 0), (105, 106, .iaload, 0, 0, 0), (106, 107, .i2l, 0, 0, 0), (107, 108, .lcmp, 0, 0, 0), (108, 111, .ifCond .le 9, 117, 0, 0), (111, 112, .aload_n 0, 0, 0, 0), (112, 113, .iconst 2, 0, 0, 2), (113, 116, .invokevirtual 118, 104, 1, 37), (116, 117, .ireturn, 0, 0, 0), (117, 118, .iconst 0, 0, 0, 0), (118, 120, .istore 6, 6, 0, 0), (120, 122, .iload 6, 6, 0, 0), (122, 124, .iload 5, 5, 0, 0), (124, 127, .if_icmp .ge 30, 154, 0, 0), (127, 128, .aload_n 0, 0, 0, 0), (128, 131, .getfield 19, 9, 42, 3), (131, 133, .iload 6, 6, 0, 0), (133, 134, .aload_n 0, 0, 0, 0), (134, 137, .getfield 16, 9, 41, 2), (137, 139, .bipush 80, 0, 0, 80), (139, 140, .iload_n 1, 1, 0, 0), (140, 141, .imul, 0, 0, 0), (141, 142, .iload_n 2, 2, 0, 0), (142, 143, .iadd, 0, 0, 0), (143, 145, .iload 6, 6, 0, 0), (145, 146, .iadd, 0, 0, 0), (146, 147, .iaload, 0, 0, 0), (147, 148, .iastore, 0, 0, 0), (148, 151, .iinc 6 1, 6, 0, 1), (151, 154, .goto (-31), 120, 0, 0), (154, 155, .iconst 0, 0, 0, 0), (155, 157, .istore 6, 6, 0, 0), (157, 159, .iload 6, 6, 0, 0), (159, 161, .iload 5, 5, 0, 0), (161, 164, .if_icmp .ge 31, 192, 0, 0), (164, 165, .aload_n 0, 0, 0, 0), (165, 168, .getfield 16, 9, 41, 2), (168, 170, .bipush 80, 0, 0, 80), (170, 171, .iload_n 3, 3, 0, 0), (171, 172, .imul, 0, 0, 0), (172, 174, .iload 4, 4, 0, 0), (174, 175, .iadd, 0, 0, 0), (175, 177, .iload 6, 6, 0, 0), (177, 178, .iadd, 0, 0, 0), (178, 179, .aload_n 0, 0, 0, 0), (179, 182, .getfield 19, 9, 42, 3), (182, 184, .iload 6, 6, 0, 0), (184, 185, .iaload, 0, 0, 0), (185, 186, .iastore, 0, 0, 0), (186, 189, .iinc 6 1, 6, 0, 1), (189, 192, .goto (-32), 157, 0, 0), (192, 193, .aload_n 0, 0, 0, 0), (193, 195, .iload 5, 5, 0, 0), (195, 198, .invokevirtual 122, 105, 1, 37), (198, 199, .ireturn, 0, 0, 0)]
theorem zmk_109_1 : ∀ x ∈ zc_109_1, zchk 109 x = true := List.all_eq_true.mp (by decide +kernel)
def zc_109 : List zE := [(0, 1, .iload_n 1, 1, 0, 0), (1, 4, .invokestatic 111, 106, 1, 1), (4, 7, .ifCond .eq 10, 14, 0, 0), (7, 8, .iload_n 3, 3, 0, 0), (8, 11, .invokestatic 111, 106, 1, 1), (11, 14, .ifCond .ne 6, 17, 0, 0), (14, 16, .ldc 117, 0, 0, (-1000001)), (16, 17, .ireturn, 0, 0, 0), (17, 18, .aload_n 0, 0, 0, 0), (18, 21, .getfield 7, 9, 39, 0), (21, 22, .iload_n 1, 1, 0, 0), (22, 23, .iaload, 0, 0, 0), (23, 26, .ifCond .eq 12, 35, 0, 0), (26, 27, .aload_n 0, 0, 0, 0), (27, 30, .getfield 7, 9, 39, 0), (30, 31, .iload_n 3, 3, 0, 0), (31, 32, .iaload, 0, 0, 0), (32, 35, .ifCond .ne 9, 41, 0, 0), (35, 36, .aload_n 0, 0, 0, 0), (36, 37, .iconst 1, 0, 0, 1), (37, 40, .invokevirtual 118, 104, 1, 37), (40, 41, .ireturn, 0, 0, 0), (41, 42, .aload_n 0, 0, 0, 0), (42, 45, .getfield 7, 9, 39, 0), (45, 46, .iload_n 1, 1, 0, 0), (46, 47, .iaload, 0, 0, 0), (47, 48, .aload_n 0, 0, 0, 0), (48, 51, .getfield 7, 9, 39, 0), (51, 52, .iload_n 3, 3, 0, 0), (52, 53, .iaload, 0, 0, 0), (53, 56, .if_icmp .eq 9, 62, 0, 0), (56, 57, .aload_n 0, 0, 0, 0), (57, 58, .iconst 5, 0, 0, 5), (58, 61, .invokevirtual 118, 104, 1, 37), (61, 62, .ireturn, 0, 0, 0), (62, 63, .iload_n 2, 2, 0, 0), (63, 66, .ifCond .lt 48, 111, 0, 0), (66, 68, .iload 4, 4, 0, 0), (68, 71, .ifCond .lt 43, 111, 0, 0), (71, 73, .iload 5, 5, 0, 0), (73, 76, .ifCond .lt 38, 111, 0, 0), (76, 77, .iload_n 2, 2, 0, 0), (77, 78, .i2l, 0, 0, 0), (78, 80, .iload 5, 5, 0, 0), (80, 81, .i2l, 0, 0, 0), (81, 82, .ladd, 0, 0, 0), (82, 83, .aload_n 0, 0, 0, 0), (83, 86, .getfield 13, 9, 40, 1), (86, 87, .iload_n 1, 1, 0, 0), (87, 88, .iaload, 0, 0, 0), (88, 89, .i2l, 0, 0, 0), (89, 90, .lcmp, 0, 0, 0), (90, 93, .ifCond .gt 21, 111, 0, 0), (93, 95, .iload 4, 4, 0, 0), (95, 96, .i2l, 0, 0, 0), (96, 98, .iload 5, 5, 0, 0), (98, 99, .i2l, 0, 0, 0), (99, 100, .ladd, 0, 0, 0), (100, 101, .aload_n 0, 0, 0, 0), (101, 104, .getfield 13, 9, 40, 1), (104, 105, .iload_n 3, 3, 0, 0), (105, 106, .iaload, 0, 0, 0), (106, 107, .i2l, 0, 0, 0), (107, 108, .lcmp, 0, 0, 0), (108, 111, .ifCond .le 9, 117, 0, 0), (111, 112, .aload_n 0, 0, 0, 0), (112, 113, .iconst 2, 0, 0, 2), (113, 116, .invokevirtual 118, 104, 1, 37), (116, 117, .ireturn, 0, 0, 0), (117, 118, .iconst 0, 0, 0, 0), (118, 120, .istore 6, 6, 0, 0), (120, 122, .iload 6, 6, 0, 0), (122, 124, .iload 5, 5, 0, 0), (124, 127, .if_icmp .ge 30, 154, 0, 0), (127, 128, .aload_n 0, 0, 0, 0), (128, 131, .getfield 19, 9, 42, 3), (131, 133, .iload 6, 6, 0, 0), (133, 134, .aload_n 0, 0, 0, 0), (134, 137, .getfield 16, 9, 41, 2), (137, 139, .bipush 80, 0, 0, 80), (139, 140, .iload_n 1, 1, 0, 0), (140, 141, .imul, 0, 0, 0), (141, 142, .iload_n 2, 2, 0, 0), (142, 143, .iadd, 0, 0, 0), (143, 145, .iload 6, 6, 0, 0), (145, 146, .iadd, 0, 0, 0), (146, 147, .iaload, 0, 0, 0), (147, 148, .iastore, 0, 0, 0), (148, 151, .iinc 6 1, 6, 0, 1), (151, 154, .goto (-31), 120, 0, 0), (154, 155, .iconst 0, 0, 0, 0), (155, 157, .istore 6, 6, 0, 0), (157, 159, .iload 6, 6, 0, 0), (159, 161, .iload 5, 5, 0, 0), (161, 164, .if_icmp .ge 31, 192, 0, 0), (164, 165, .aload_n 0, 0, 0, 0), (165, 168, .getfield 16, 9, 41, 2), (168, 170, .bipush 80, 0, 0, 80), (170, 171, .iload_n 3, 3, 0, 0), (171, 172, .imul, 0, 0, 0), (172, 174, .iload 4, 4, 0, 0), (174, 175, .iadd, 0, 0, 0), (175, 177, .iload 6, 6, 0, 0), (177, 178, .iadd, 0, 0, 0), (178, 179, .aload_n 0, 0, 0, 0), (179, 182, .getfield 19, 9, 42, 3), (182, 184, .iload 6, 6, 0, 0), (184, 185, .iaload, 0, 0, 0), (185, 186, .iastore, 0, 0, 0), (186, 189, .iinc 6 1, 6, 0, 1), (189, 192, .goto (-32), 157, 0, 0), (192, 193, .aload_n 0, 0, 0, 0), (193, 195, .iload 5, 5, 0, 0), (195, 198, .invokevirtual 122, 105, 1, 37), (198, 199, .ireturn, 0, 0, 0)]
set_option maxRecDepth 100000 in
theorem zmk_109 : zMok 109 zc_109 := ⟨by
  show ∀ x ∈ zc_109_0 ++ (zc_109_1), zchk 109 x = true
  exact List.forall_mem_append.mpr ⟨zmk_109_0, zmk_109_1⟩, by decide +kernel⟩
/-- PenLinesModel.drop -/
def zc_110 : List zE := [(0, 1, .iload_n 1, 1, 0, 0), (1, 4, .invokestatic 111, 106, 1, 1), (4, 7, .ifCond .ne 6, 10, 0, 0), (7, 9, .ldc 117, 0, 0, (-1000001)), (9, 10, .ireturn, 0, 0, 0), (10, 11, .aload_n 0, 0, 0, 0), (11, 14, .getfield 7, 9, 39, 0), (14, 15, .iload_n 1, 1, 0, 0), (15, 16, .iaload, 0, 0, 0), (16, 19, .ifCond .ne 9, 25, 0, 0), (19, 20, .aload_n 0, 0, 0, 0), (20, 21, .iconst 1, 0, 0, 1), (21, 24, .invokevirtual 118, 104, 1, 37), (24, 25, .ireturn, 0, 0, 0), (25, 26, .aload_n 0, 0, 0, 0), (26, 29, .getfield 7, 9, 39, 0), (29, 30, .iload_n 1, 1, 0, 0), (30, 31, .iconst 0, 0, 0, 0), (31, 32, .iastore, 0, 0, 0), (32, 33, .aload_n 0, 0, 0, 0), (33, 34, .aload_n 0, 0, 0, 0), (34, 37, .getfield 13, 9, 40, 1), (37, 38, .iload_n 1, 1, 0, 0), (38, 39, .iaload, 0, 0, 0), (39, 42, .invokevirtual 122, 105, 1, 37), (42, 43, .ireturn, 0, 0, 0)]
theorem zmk_110 : zMok 110 zc_110 := ⟨List.all_eq_true.mp (by decide +kernel), by decide +kernel⟩
/-- PenLinesModel.forget -/
def zc_111 : List zE := [(0, 1, .iconst 0, 0, 0, 0), (1, 2, .istore_n 1, 1, 0, 0), (2, 3, .iload_n 1, 1, 0, 0), (3, 5, .bipush 40, 0, 0, 40), (5, 8, .if_icmp .ge 16, 21, 0, 0), (8, 9, .aload_n 0, 0, 0, 0), (9, 12, .getfield 69, 9, 57, 29), (12, 13, .iload_n 1, 1, 0, 0), (13, 14, .iconst 0, 0, 0, 0), (14, 15, .bastore, 0, 0, 0), (15, 18, .iinc 1 1, 1, 0, 1), (18, 21, .goto (-16), 2, 0, 0), (21, 22, .return_, 0, 0, 0)]
theorem zmk_111 : zMok 111 zc_111 := ⟨List.all_eq_true.mp (by decide +kernel), by decide +kernel⟩
/-- PenLinesModel.partLine -/
def zc_112_0 : List zE := [(0, 1, .aload_n 0, 0, 0, 0), (1, 4, .invokevirtual 125, 111, 0, 36), (4, 5, .aload_n 0, 0, 0, 0), (5, 6, .iconst 0, 0, 0, 0), (6, 9, .putfield 128, 9, 0, 13), (9, 10, .iconst 0, 0, 0, 0), (10, 11, .istore_n 1, 1, 0, 0), (11, 12, .iload_n 1, 1, 0, 0), (12, 13, .aload_n 0, 0, 0, 0), (13, 16, .getfield 131, 9, 0, 5), (16, 19, .if_icmp .ge 72, 88, 0, 0), (19, 20, .aload_n 0, 0, 0, 0), (20, 23, .getfield 28, 9, 45, 8), (23, 24, .iload_n 1, 1, 0, 0), (24, 25, .iconst 0, 0, 0, 0), (25, 26, .iastore, 0, 0, 0), (26, 27, .iload_n 1, 1, 0, 0), (27, 30, .ifCond .eq 25, 52, 0, 0), (30, 31, .aload_n 0, 0, 0, 0), (31, 34, .getfield 22, 9, 43, 6), (34, 35, .iload_n 1, 1, 0, 0), (35, 36, .iaload, 0, 0, 0), (36, 37, .aload_n 0, 0, 0, 0), (37, 40, .getfield 22, 9, 43, 6), (40, 41, .iload_n 1, 1, 0, 0), (41, 42, .iconst 1, 0, 0, 1), (42, 43, .isub, 0, 0, 0), (43, 44, .iaload, 0, 0, 0), (44, 45, .aload_n 0, 0, 0, 0), (45, 48, .getfield 34, 9, 0, 12), (48, 49, .iadd, 0, 0, 0), (49, 52, .if_icmp .le 33, 82, 0, 0), (52, 53, .aload_n 0, 0, 0, 0), (53, 56, .getfield 38, 9, 47, 14), (56, 57, .aload_n 0, 0, 0, 0), (57, 60, .getfield 128, 9, 0, 13), (60, 61, .iload_n 1, 1, 0, 0), (61, 62, .iastore, 0, 0, 0), (62, 63, .aload_n 0, 0, 0, 0), (63, 66, .getfield 41, 9, 48, 15), (66, 67, .aload_n 0, 0, 0, 0), (67, 70, .getfield 128, 9, 0, 13), (70, 71, .iconst 0, 0, 0, 0), (71, 72, .iastore, 0, 0, 0), (72, 73, .aload_n 0, 0, 0, 0), (73, 74, .dup, 0, 0, 0), (74, 77, .getfield 128, 9, 0, 13), (77, 78, .iconst 1, 0, 0, 1), (78, 79, .iadd, 0, 0, 0), (79, 82, .putfield 128, 9, 0, 13), (82, 85, .iinc 1 1, 1, 0, 1), (85, 88, .goto (-74), 11, 0, 0), (88, 89, .aload_n 0, 0, 0, 0), (89, 92, .getfield 38, 9, 47, 14), (92, 93, .aload_n 0, 0, 0, 0), (93, 96, .getfield 128, 9, 0, 13), (96, 97, .aload_n 0, 0, 0, 0), (97, 100, .getfield 131, 9, 0, 5), (100, 101, .iastore, 0, 0, 0), (101, 102, .aload_n 0, 0, 0, 0)]
theorem zmk_112_0 : ∀ x ∈ zc_112_0, zchk 112 x = true := List.all_eq_true.mp (by decide +kernel)
def zc_112_1 : List zE := [(102, 103, .iconst 0, 0, 0, 0), (103, 106, .putfield 134, 9, 0, 11), (106, 107, .iconst 0, 0, 0, 0), (107, 108, .istore_n 1, 1, 0, 0), (108, 109, .iload_n 1, 1, 0, 0), (109, 110, .aload_n 0, 0, 0, 0), (110, 113, .getfield 137, 9, 0, 9), (113, 116, .if_icmp .ge 241, 354, 0, 0), (116, 117, .iconst (-1), 0, 0, (-1)), (117, 118, .istore_n 2, 2, 0, 0), (118, 119, .aload_n 0, 0, 0, 0), (119, 122, .getfield 128, 9, 0, 13), (122, 123, .iconst 1, 0, 0, 1), (123, 124, .isub, 0, 0, 0), (124, 125, .istore_n 3, 3, 0, 0), (125, 126, .iload_n 3, 3, 0, 0), (126, 129, .ifCond .lt 128, 254, 0, 0), (129, 132, .sipush 5000, 0, 0, 5000), (132, 134, .istore 4, 4, 0, 0), (134, 135, .iconst (-1), 0, 0, (-1)), (135, 137, .istore 5, 5, 0, 0), (137, 138, .aload_n 0, 0, 0, 0), (138, 141, .getfield 38, 9, 47, 14), (141, 142, .iload_n 3, 3, 0, 0), (142, 143, .iaload, 0, 0, 0), (143, 145, .istore 6, 6, 0, 0), (145, 147, .iload 6, 6, 0, 0), (147, 148, .aload_n 0, 0, 0, 0), (148, 151, .getfield 38, 9, 47, 14), (151, 152, .iload_n 3, 3, 0, 0), (152, 153, .iconst 1, 0, 0, 1), (153, 154, .iadd, 0, 0, 0), (154, 155, .iaload, 0, 0, 0), (155, 158, .if_icmp .ge 61, 216, 0, 0), (158, 159, .aload_n 0, 0, 0, 0), (159, 162, .getfield 22, 9, 43, 6), (162, 164, .iload 6, 6, 0, 0), (164, 165, .iaload, 0, 0, 0), (165, 167, .iload 4, 4, 0, 0), (167, 170, .if_icmp .ge 13, 180, 0, 0), (170, 171, .aload_n 0, 0, 0, 0), (171, 174, .getfield 22, 9, 43, 6), (174, 176, .iload 6, 6, 0, 0), (176, 177, .iaload, 0, 0, 0), (177, 180, .goto 5, 182, 0, 0), (180, 182, .iload 4, 4, 0, 0), (182, 184, .istore 4, 4, 0, 0), (184, 185, .aload_n 0, 0, 0, 0), (185, 188, .getfield 22, 9, 43, 6), (188, 190, .iload 6, 6, 0, 0), (190, 191, .iaload, 0, 0, 0), (191, 193, .iload 5, 5, 0, 0), (193, 196, .if_icmp .le 13, 206, 0, 0), (196, 197, .aload_n 0, 0, 0, 0), (197, 200, .getfield 22, 9, 43, 6), (200, 202, .iload 6, 6, 0, 0), (202, 203, .iaload, 0, 0, 0), (203, 206, .goto 5, 208, 0, 0), (206, 208, .iload 5, 5, 0, 0), (208, 210, .istore 5, 5, 0, 0)]
theorem zmk_112_1 : ∀ x ∈ zc_112_1, zchk 112 x = true := List.all_eq_true.mp (by decide +kernel)
def zc_112_2 : List zE := [(210, 213, .iinc 6 1, 6, 0, 1), (213, 216, .goto (-68), 145, 0, 0), (216, 217, .aload_n 0, 0, 0, 0), (217, 220, .getfield 31, 9, 46, 10), (220, 221, .iload_n 1, 1, 0, 0), (221, 222, .iaload, 0, 0, 0), (222, 224, .iload 4, 4, 0, 0), (224, 225, .iconst 5, 0, 0, 5), (225, 226, .isub, 0, 0, 0), (226, 229, .if_icmp .lt 20, 246, 0, 0), (229, 230, .aload_n 0, 0, 0, 0), (230, 233, .getfield 31, 9, 46, 10), (233, 234, .iload_n 1, 1, 0, 0), (234, 235, .iaload, 0, 0, 0), (235, 237, .iload 5, 5, 0, 0), (237, 238, .iconst 5, 0, 0, 5), (238, 239, .iadd, 0, 0, 0), (239, 242, .if_icmp .gt 7, 246, 0, 0), (242, 243, .iload_n 3, 3, 0, 0), (243, 246, .goto 4, 247, 0, 0), (246, 247, .iload_n 2, 2, 0, 0), (247, 248, .istore_n 2, 2, 0, 0), (248, 251, .iinc 3 (-1), 3, 0, (-1)), (251, 254, .goto (-126), 125, 0, 0), (254, 255, .iload_n 2, 2, 0, 0), (255, 258, .ifCond .ge 16, 271, 0, 0), (258, 259, .aload_n 0, 0, 0, 0), (259, 260, .dup, 0, 0, 0), (260, 263, .getfield 134, 9, 0, 11), (263, 264, .iconst 1, 0, 0, 1), (264, 265, .iadd, 0, 0, 0), (265, 268, .putfield 134, 9, 0, 11), (268, 271, .goto 80, 348, 0, 0), (271, 272, .aload_n 0, 0, 0, 0), (272, 275, .getfield 41, 9, 48, 15), (275, 276, .iload_n 2, 2, 0, 0), (276, 277, .dup2, 0, 0, 0), (277, 278, .iaload, 0, 0, 0), (278, 279, .iconst 1, 0, 0, 1), (279, 280, .iadd, 0, 0, 0), (280, 281, .iastore, 0, 0, 0), (281, 282, .aload_n 0, 0, 0, 0), (282, 285, .getfield 38, 9, 47, 14), (285, 286, .iload_n 2, 2, 0, 0), (286, 287, .iaload, 0, 0, 0), (287, 288, .istore_n 3, 3, 0, 0), (288, 289, .aload_n 0, 0, 0, 0), (289, 292, .getfield 38, 9, 47, 14), (292, 293, .iload_n 2, 2, 0, 0), (293, 294, .iaload, 0, 0, 0), (294, 296, .istore 4, 4, 0, 0), (296, 298, .iload 4, 4, 0, 0), (298, 299, .aload_n 0, 0, 0, 0), (299, 302, .getfield 38, 9, 47, 14), (302, 303, .iload_n 2, 2, 0, 0), (303, 304, .iconst 1, 0, 0, 1), (304, 305, .iadd, 0, 0, 0), (305, 306, .iaload, 0, 0, 0), (306, 309, .if_icmp .ge 32, 338, 0, 0), (309, 310, .aload_n 0, 0, 0, 0)]
theorem zmk_112_2 : ∀ x ∈ zc_112_2, zchk 112 x = true := List.all_eq_true.mp (by decide +kernel)
def zc_112_3 : List zE := [(310, 312, .iload 4, 4, 0, 0), (312, 313, .iload_n 1, 1, 0, 0), (313, 316, .invokevirtual 140, 113, 2, 37), (316, 317, .aload_n 0, 0, 0, 0), (317, 318, .iload_n 3, 3, 0, 0), (318, 319, .iload_n 1, 1, 0, 0), (319, 322, .invokevirtual 140, 113, 2, 37), (322, 325, .if_icmp .ge 8, 330, 0, 0), (325, 327, .iload 4, 4, 0, 0), (327, 330, .goto 4, 331, 0, 0), (330, 331, .iload_n 3, 3, 0, 0), (331, 332, .istore_n 3, 3, 0, 0), (332, 335, .iinc 4 1, 4, 0, 1), (335, 338, .goto (-39), 296, 0, 0), (338, 339, .aload_n 0, 0, 0, 0), (339, 342, .getfield 28, 9, 45, 8), (342, 343, .iload_n 3, 3, 0, 0), (343, 344, .dup2, 0, 0, 0), (344, 345, .iaload, 0, 0, 0), (345, 346, .iconst 1, 0, 0, 1), (346, 347, .iadd, 0, 0, 0), (347, 348, .iastore, 0, 0, 0), (348, 351, .iinc 1 1, 1, 0, 1), (351, 354, .goto (-243), 108, 0, 0), (354, 355, .return_, 0, 0, 0)]
theorem zmk_112_3 : ∀ x ∈ zc_112_3, zchk 112 x = true := List.all_eq_true.mp (by decide +kernel)
def zc_112 : List zE := [(0, 1, .aload_n 0, 0, 0, 0), (1, 4, .invokevirtual 125, 111, 0, 36), (4, 5, .aload_n 0, 0, 0, 0), (5, 6, .iconst 0, 0, 0, 0), (6, 9, .putfield 128, 9, 0, 13), (9, 10, .iconst 0, 0, 0, 0), (10, 11, .istore_n 1, 1, 0, 0), (11, 12, .iload_n 1, 1, 0, 0), (12, 13, .aload_n 0, 0, 0, 0), (13, 16, .getfield 131, 9, 0, 5), (16, 19, .if_icmp .ge 72, 88, 0, 0), (19, 20, .aload_n 0, 0, 0, 0), (20, 23, .getfield 28, 9, 45, 8), (23, 24, .iload_n 1, 1, 0, 0), (24, 25, .iconst 0, 0, 0, 0), (25, 26, .iastore, 0, 0, 0), (26, 27, .iload_n 1, 1, 0, 0), (27, 30, .ifCond .eq 25, 52, 0, 0), (30, 31, .aload_n 0, 0, 0, 0), (31, 34, .getfield 22, 9, 43, 6), (34, 35, .iload_n 1, 1, 0, 0), (35, 36, .iaload, 0, 0, 0), (36, 37, .aload_n 0, 0, 0, 0), (37, 40, .getfield 22, 9, 43, 6), (40, 41, .iload_n 1, 1, 0, 0), (41, 42, .iconst 1, 0, 0, 1), (42, 43, .isub, 0, 0, 0), (43, 44, .iaload, 0, 0, 0), (44, 45, .aload_n 0, 0, 0, 0), (45, 48, .getfield 34, 9, 0, 12), (48, 49, .iadd, 0, 0, 0), (49, 52, .if_icmp .le 33, 82, 0, 0), (52, 53, .aload_n 0, 0, 0, 0), (53, 56, .getfield 38, 9, 47, 14), (56, 57, .aload_n 0, 0, 0, 0), (57, 60, .getfield 128, 9, 0, 13), (60, 61, .iload_n 1, 1, 0, 0), (61, 62, .iastore, 0, 0, 0), (62, 63, .aload_n 0, 0, 0, 0), (63, 66, .getfield 41, 9, 48, 15), (66, 67, .aload_n 0, 0, 0, 0), (67, 70, .getfield 128, 9, 0, 13), (70, 71, .iconst 0, 0, 0, 0), (71, 72, .iastore, 0, 0, 0), (72, 73, .aload_n 0, 0, 0, 0), (73, 74, .dup, 0, 0, 0), (74, 77, .getfield 128, 9, 0, 13), (77, 78, .iconst 1, 0, 0, 1), (78, 79, .iadd, 0, 0, 0), (79, 82, .putfield 128, 9, 0, 13), (82, 85, .iinc 1 1, 1, 0, 1), (85, 88, .goto (-74), 11, 0, 0), (88, 89, .aload_n 0, 0, 0, 0), (89, 92, .getfield 38, 9, 47, 14), (92, 93, .aload_n 0, 0, 0, 0), (93, 96, .getfield 128, 9, 0, 13), (96, 97, .aload_n 0, 0, 0, 0), (97, 100, .getfield 131, 9, 0, 5), (100, 101, .iastore, 0, 0, 0), (101, 102, .aload_n 0, 0, 0, 0), (102, 103, .iconst 0, 0, 0, 0), (103, 106, .putfield 134, 9, 0, 11), (106, 107, .iconst 0, 0, 0, 0), (107, 108, .istore_n 1, 1, 0, 0), (108, 109, .iload_n 1, 1, 0, 0), (109, 110, .aload_n 0, 0, 0, 0), (110, 113, .getfield 137, 9, 0, 9), (113, 116, .if_icmp .ge 241, 354, 0, 0), (116, 117, .iconst (-1), 0, 0, (-1)), (117, 118, .istore_n 2, 2, 0, 0), (118, 119, .aload_n 0, 0, 0, 0), (119, 122, .getfield 128, 9, 0, 13), (122, 123, .iconst 1, 0, 0, 1), (123, 124, .isub, 0, 0, 0), (124, 125, .istore_n 3, 3, 0, 0), (125, 126, .iload_n 3, 3, 0, 0), (126, 129, .ifCond .lt 128, 254, 0, 0), (129, 132, .sipush 5000, 0, 0, 5000), (132, 134, .istore 4, 4, 0, 0), (134, 135, .iconst (-1), 0, 0, (-1)), (135, 137, .istore 5, 5, 0, 0), (137, 138, .aload_n 0, 0, 0, 0), (138, 141, .getfield 38, 9, 47, 14), (141, 142, .iload_n 3, 3, 0, 0), (142, 143, .iaload, 0, 0, 0), (143, 145, .istore 6, 6, 0, 0), (145, 147, .iload 6, 6, 0, 0), (147, 148, .aload_n 0, 0, 0, 0), (148, 151, .getfield 38, 9, 47, 14), (151, 152, .iload_n 3, 3, 0, 0), (152, 153, .iconst 1, 0, 0, 1), (153, 154, .iadd, 0, 0, 0), (154, 155, .iaload, 0, 0, 0), (155, 158, .if_icmp .ge 61, 216, 0, 0), (158, 159, .aload_n 0, 0, 0, 0), (159, 162, .getfield 22, 9, 43, 6), (162, 164, .iload 6, 6, 0, 0), (164, 165, .iaload, 0, 0, 0), (165, 167, .iload 4, 4, 0, 0), (167, 170, .if_icmp .ge 13, 180, 0, 0), (170, 171, .aload_n 0, 0, 0, 0), (171, 174, .getfield 22, 9, 43, 6), (174, 176, .iload 6, 6, 0, 0), (176, 177, .iaload, 0, 0, 0), (177, 180, .goto 5, 182, 0, 0), (180, 182, .iload 4, 4, 0, 0), (182, 184, .istore 4, 4, 0, 0), (184, 185, .aload_n 0, 0, 0, 0), (185, 188, .getfield 22, 9, 43, 6), (188, 190, .iload 6, 6, 0, 0), (190, 191, .iaload, 0, 0, 0), (191, 193, .iload 5, 5, 0, 0), (193, 196, .if_icmp .le 13, 206, 0, 0), (196, 197, .aload_n 0, 0, 0, 0), (197, 200, .getfield 22, 9, 43, 6), (200, 202, .iload 6, 6, 0, 0), (202, 203, .iaload, 0, 0, 0), (203, 206, .goto 5, 208, 0, 0), (206, 208, .iload 5, 5, 0, 0), (208, 210, .istore 5, 5, 0, 0), (210, 213, .iinc 6 1, 6, 0, 1), (213, 216, .goto (-68), 145, 0, 0), (216, 217, .aload_n 0, 0, 0, 0), (217, 220, .getfield 31, 9, 46, 10), (220, 221, .iload_n 1, 1, 0, 0), (221, 222, .iaload, 0, 0, 0), (222, 224, .iload 4, 4, 0, 0), (224, 225, .iconst 5, 0, 0, 5), (225, 226, .isub, 0, 0, 0), (226, 229, .if_icmp .lt 20, 246, 0, 0), (229, 230, .aload_n 0, 0, 0, 0), (230, 233, .getfield 31, 9, 46, 10), (233, 234, .iload_n 1, 1, 0, 0), (234, 235, .iaload, 0, 0, 0), (235, 237, .iload 5, 5, 0, 0), (237, 238, .iconst 5, 0, 0, 5), (238, 239, .iadd, 0, 0, 0), (239, 242, .if_icmp .gt 7, 246, 0, 0), (242, 243, .iload_n 3, 3, 0, 0), (243, 246, .goto 4, 247, 0, 0), (246, 247, .iload_n 2, 2, 0, 0), (247, 248, .istore_n 2, 2, 0, 0), (248, 251, .iinc 3 (-1), 3, 0, (-1)), (251, 254, .goto (-126), 125, 0, 0), (254, 255, .iload_n 2, 2, 0, 0), (255, 258, .ifCond .ge 16, 271, 0, 0), (258, 259, .aload_n 0, 0, 0, 0), (259, 260, .dup, 0, 0, 0), (260, 263, .getfield 134, 9, 0, 11), (263, 264, .iconst 1, 0, 0, 1), (264, 265, .iadd, 0, 0, 0), (265, 268, .putfield 134, 9, 0, 11), (268, 271, .goto 80, 348, 0, 0), (271, 272, .aload_n 0, 0, 0, 0), (272, 275, .getfield 41, 9, 48, 15), (275, 276, .iload_n 2, 2, 0, 0), (276, 277, .dup2, 0, 0, 0), (277, 278, .iaload, 0, 0, 0), (278, 279, .iconst 1, 0, 0, 1), (279, 280, .iadd, 0, 0, 0), (280, 281, .iastore, 0, 0, 0), (281, 282, .aload_n 0, 0, 0, 0), (282, 285, .getfield 38, 9, 47, 14), (285, 286, .iload_n 2, 2, 0, 0), (286, 287, .iaload, 0, 0, 0), (287, 288, .istore_n 3, 3, 0, 0), (288, 289, .aload_n 0, 0, 0, 0), (289, 292, .getfield 38, 9, 47, 14), (292, 293, .iload_n 2, 2, 0, 0), (293, 294, .iaload, 0, 0, 0), (294, 296, .istore 4, 4, 0, 0), (296, 298, .iload 4, 4, 0, 0), (298, 299, .aload_n 0, 0, 0, 0), (299, 302, .getfield 38, 9, 47, 14), (302, 303, .iload_n 2, 2, 0, 0), (303, 304, .iconst 1, 0, 0, 1), (304, 305, .iadd, 0, 0, 0), (305, 306, .iaload, 0, 0, 0), (306, 309, .if_icmp .ge 32, 338, 0, 0), (309, 310, .aload_n 0, 0, 0, 0), (310, 312, .iload 4, 4, 0, 0), (312, 313, .iload_n 1, 1, 0, 0), (313, 316, .invokevirtual 140, 113, 2, 37), (316, 317, .aload_n 0, 0, 0, 0), (317, 318, .iload_n 3, 3, 0, 0), (318, 319, .iload_n 1, 1, 0, 0), (319, 322, .invokevirtual 140, 113, 2, 37), (322, 325, .if_icmp .ge 8, 330, 0, 0), (325, 327, .iload 4, 4, 0, 0), (327, 330, .goto 4, 331, 0, 0), (330, 331, .iload_n 3, 3, 0, 0), (331, 332, .istore_n 3, 3, 0, 0), (332, 335, .iinc 4 1, 4, 0, 1), (335, 338, .goto (-39), 296, 0, 0), (338, 339, .aload_n 0, 0, 0, 0), (339, 342, .getfield 28, 9, 45, 8), (342, 343, .iload_n 3, 3, 0, 0), (343, 344, .dup2, 0, 0, 0), (344, 345, .iaload, 0, 0, 0), (345, 346, .iconst 1, 0, 0, 1), (346, 347, .iadd, 0, 0, 0), (347, 348, .iastore, 0, 0, 0), (348, 351, .iinc 1 1, 1, 0, 1), (351, 354, .goto (-243), 108, 0, 0), (354, 355, .return_, 0, 0, 0)]
set_option maxRecDepth 100000 in
theorem zmk_112 : zMok 112 zc_112 := ⟨by
  show ∀ x ∈ zc_112_0 ++ (zc_112_1 ++ (zc_112_2 ++ (zc_112_3))), zchk 112 x = true
  exact List.forall_mem_append.mpr ⟨zmk_112_0, List.forall_mem_append.mpr ⟨zmk_112_1, List.forall_mem_append.mpr ⟨zmk_112_2, zmk_112_3⟩⟩⟩, by decide +kernel⟩
/-- PenLinesModel.away -/
def zc_113 : List zE := [(0, 1, .aload_n 0, 0, 0, 0), (1, 4, .getfield 22, 9, 43, 6), (4, 5, .iload_n 1, 1, 0, 0), (5, 6, .iaload, 0, 0, 0), (6, 7, .aload_n 0, 0, 0, 0), (7, 10, .getfield 31, 9, 46, 10), (10, 11, .iload_n 2, 2, 0, 0), (11, 12, .iaload, 0, 0, 0), (12, 15, .if_icmp .le 19, 31, 0, 0), (15, 16, .aload_n 0, 0, 0, 0), (16, 19, .getfield 22, 9, 43, 6), (19, 20, .iload_n 1, 1, 0, 0), (20, 21, .iaload, 0, 0, 0), (21, 22, .aload_n 0, 0, 0, 0), (22, 25, .getfield 31, 9, 46, 10), (25, 26, .iload_n 2, 2, 0, 0), (26, 27, .iaload, 0, 0, 0), (27, 28, .isub, 0, 0, 0), (28, 31, .goto 16, 44, 0, 0), (31, 32, .aload_n 0, 0, 0, 0), (32, 35, .getfield 31, 9, 46, 10), (35, 36, .iload_n 2, 2, 0, 0), (36, 37, .iaload, 0, 0, 0), (37, 38, .aload_n 0, 0, 0, 0), (38, 41, .getfield 22, 9, 43, 6), (41, 42, .iload_n 1, 1, 0, 0), (42, 43, .iaload, 0, 0, 0), (43, 44, .isub, 0, 0, 0), (44, 45, .ireturn, 0, 0, 0)]
theorem zmk_113 : zMok 113 zc_113 := ⟨List.all_eq_true.mp (by decide +kernel), by decide +kernel⟩
/-- PenLinesModel.line -/
def zc_114_0 : List zE := [(0, 1, .iload_n 1, 1, 0, 0), (1, 4, .invokestatic 111, 106, 1, 1), (4, 7, .ifCond .eq 15, 19, 0, 0), (7, 8, .iload_n 3, 3, 0, 0), (8, 9, .i2l, 0, 0, 0), (9, 10, .lconst 1, 0, 0, 1), (10, 13, .ldc2_w 144, 0, 0, 40), (13, 16, .invokestatic 107, 103, 3, 1), (16, 19, .ifCond .ne 6, 22, 0, 0), (19, 21, .ldc 117, 0, 0, (-1000001)), (21, 22, .ireturn, 0, 0, 0), (22, 23, .aload_n 0, 0, 0, 0), (23, 26, .getfield 7, 9, 39, 0), (26, 27, .iload_n 1, 1, 0, 0), (27, 28, .iaload, 0, 0, 0), (28, 31, .ifCond .ne 9, 37, 0, 0), (31, 32, .aload_n 0, 0, 0, 0), (32, 33, .iconst 1, 0, 0, 1), (33, 36, .invokevirtual 118, 104, 1, 37), (36, 37, .ireturn, 0, 0, 0), (37, 38, .iload_n 2, 2, 0, 0), (38, 41, .ifCond .lt 23, 61, 0, 0), (41, 42, .iload_n 2, 2, 0, 0), (42, 43, .i2l, 0, 0, 0), (43, 46, .ldc2_w 115, 0, 0, 2), (46, 47, .iload_n 3, 3, 0, 0), (47, 48, .i2l, 0, 0, 0), (48, 49, .lmul, 0, 0, 0), (49, 50, .ladd, 0, 0, 0), (50, 51, .aload_n 0, 0, 0, 0), (51, 54, .getfield 13, 9, 40, 1), (54, 55, .iload_n 1, 1, 0, 0), (55, 56, .iaload, 0, 0, 0), (56, 57, .i2l, 0, 0, 0), (57, 58, .lcmp, 0, 0, 0), (58, 61, .ifCond .le 9, 67, 0, 0), (61, 62, .aload_n 0, 0, 0, 0), (62, 63, .iconst 2, 0, 0, 2), (63, 66, .invokevirtual 118, 104, 1, 37), (66, 67, .ireturn, 0, 0, 0), (67, 68, .iconst 0, 0, 0, 0), (68, 70, .istore 4, 4, 0, 0), (70, 72, .iload 4, 4, 0, 0), (72, 73, .iload_n 3, 3, 0, 0), (73, 76, .if_icmp .ge 68, 141, 0, 0), (76, 77, .aload_n 0, 0, 0, 0), (77, 80, .getfield 16, 9, 41, 2), (80, 82, .bipush 80, 0, 0, 80), (82, 83, .iload_n 1, 1, 0, 0), (83, 84, .imul, 0, 0, 0), (84, 85, .iload_n 2, 2, 0, 0), (85, 86, .iadd, 0, 0, 0), (86, 87, .iconst 2, 0, 0, 2), (87, 89, .iload 4, 4, 0, 0), (89, 90, .imul, 0, 0, 0), (90, 91, .iadd, 0, 0, 0), (91, 92, .iaload, 0, 0, 0), (92, 93, .i2l, 0, 0, 0), (93, 94, .lconst 0, 0, 0, 0), (94, 97, .ldc2_w 146, 0, 0, 2000)]
theorem zmk_114_0 : ∀ x ∈ zc_114_0, zchk 114 x = true := List.all_eq_true.mp (by decide +kernel)
def zc_114_1 : List zE := [(97, 100, .invokestatic 107, 103, 3, 1), (100, 103, .ifCond .eq 32, 132, 0, 0), (103, 104, .aload_n 0, 0, 0, 0), (104, 107, .getfield 16, 9, 41, 2), (107, 109, .bipush 80, 0, 0, 80), (109, 110, .iload_n 1, 1, 0, 0), (110, 111, .imul, 0, 0, 0), (111, 112, .iload_n 2, 2, 0, 0), (112, 113, .iadd, 0, 0, 0), (113, 114, .iconst 2, 0, 0, 2), (114, 116, .iload 4, 4, 0, 0), (116, 117, .imul, 0, 0, 0), (117, 118, .iadd, 0, 0, 0), (118, 119, .iconst 1, 0, 0, 1), (119, 120, .iadd, 0, 0, 0), (120, 121, .iaload, 0, 0, 0), (121, 122, .i2l, 0, 0, 0), (122, 123, .lconst 0, 0, 0, 0), (123, 126, .ldc2_w 148, 0, 0, 12), (126, 129, .invokestatic 107, 103, 3, 1), (129, 132, .ifCond .ne 6, 135, 0, 0), (132, 134, .ldc 117, 0, 0, (-1000001)), (134, 135, .ireturn, 0, 0, 0), (135, 138, .iinc 4 1, 4, 0, 1), (138, 141, .goto (-68), 70, 0, 0), (141, 142, .aload_n 0, 0, 0, 0), (142, 143, .iconst 0, 0, 0, 0), (143, 146, .putfield 131, 9, 0, 5), (146, 147, .aload_n 0, 0, 0, 0), (147, 148, .iconst 0, 0, 0, 0), (148, 151, .putfield 137, 9, 0, 9), (151, 152, .iconst 0, 0, 0, 0), (152, 154, .istore 4, 4, 0, 0), (154, 156, .iload 4, 4, 0, 0), (156, 157, .iload_n 3, 3, 0, 0), (157, 160, .if_icmp .ge 110, 267, 0, 0), (160, 161, .aload_n 0, 0, 0, 0), (161, 164, .getfield 16, 9, 41, 2), (164, 166, .bipush 80, 0, 0, 80), (166, 167, .iload_n 1, 1, 0, 0), (167, 168, .imul, 0, 0, 0), (168, 169, .iload_n 2, 2, 0, 0), (169, 170, .iadd, 0, 0, 0), (170, 171, .iconst 2, 0, 0, 2), (171, 173, .iload 4, 4, 0, 0), (173, 174, .imul, 0, 0, 0), (174, 175, .iadd, 0, 0, 0), (175, 176, .iaload, 0, 0, 0), (176, 178, .istore 5, 5, 0, 0), (178, 179, .aload_n 0, 0, 0, 0), (179, 182, .getfield 16, 9, 41, 2), (182, 184, .bipush 80, 0, 0, 80), (184, 185, .iload_n 1, 1, 0, 0), (185, 186, .imul, 0, 0, 0), (186, 187, .iload_n 2, 2, 0, 0), (187, 188, .iadd, 0, 0, 0), (188, 189, .iconst 2, 0, 0, 2), (189, 191, .iload 4, 4, 0, 0), (191, 192, .imul, 0, 0, 0), (192, 193, .iadd, 0, 0, 0)]
theorem zmk_114_1 : ∀ x ∈ zc_114_1, zchk 114 x = true := List.all_eq_true.mp (by decide +kernel)
def zc_114_2 : List zE := [(193, 194, .iconst 1, 0, 0, 1), (194, 195, .iadd, 0, 0, 0), (195, 196, .iaload, 0, 0, 0), (196, 198, .istore 6, 6, 0, 0), (198, 200, .iload 6, 6, 0, 0), (200, 202, .bipush 12, 0, 0, 12), (202, 205, .if_icmp .ne 27, 229, 0, 0), (205, 206, .aload_n 0, 0, 0, 0), (206, 209, .getfield 31, 9, 46, 10), (209, 210, .aload_n 0, 0, 0, 0), (210, 213, .getfield 137, 9, 0, 9), (213, 215, .iload 5, 5, 0, 0), (215, 216, .iastore, 0, 0, 0), (216, 217, .aload_n 0, 0, 0, 0), (217, 218, .dup, 0, 0, 0), (218, 221, .getfield 137, 9, 0, 9), (221, 222, .iconst 1, 0, 0, 1), (222, 223, .iadd, 0, 0, 0), (223, 226, .putfield 137, 9, 0, 9), (226, 229, .goto 35, 261, 0, 0), (229, 230, .aload_n 0, 0, 0, 0), (230, 233, .getfield 22, 9, 43, 6), (233, 234, .aload_n 0, 0, 0, 0), (234, 237, .getfield 131, 9, 0, 5), (237, 239, .iload 5, 5, 0, 0), (239, 240, .iastore, 0, 0, 0), (240, 241, .aload_n 0, 0, 0, 0), (241, 244, .getfield 25, 9, 44, 7), (244, 245, .aload_n 0, 0, 0, 0), (245, 248, .getfield 131, 9, 0, 5), (248, 250, .iload 6, 6, 0, 0), (250, 251, .iastore, 0, 0, 0), (251, 252, .aload_n 0, 0, 0, 0), (252, 253, .dup, 0, 0, 0), (253, 256, .getfield 131, 9, 0, 5), (256, 257, .iconst 1, 0, 0, 1), (257, 258, .iadd, 0, 0, 0), (258, 261, .putfield 131, 9, 0, 5), (261, 264, .iinc 4 1, 4, 0, 1), (264, 267, .goto (-110), 154, 0, 0), (267, 268, .aload_n 0, 0, 0, 0), (268, 271, .invokevirtual 150, 112, 0, 36), (271, 272, .aload_n 0, 0, 0, 0), (272, 273, .aload_n 0, 0, 0, 0), (273, 276, .getfield 128, 9, 0, 13), (276, 279, .invokevirtual 122, 105, 1, 37), (279, 280, .ireturn, 0, 0, 0)]
theorem zmk_114_2 : ∀ x ∈ zc_114_2, zchk 114 x = true := List.all_eq_true.mp (by decide +kernel)
def zc_114 : List zE := [(0, 1, .iload_n 1, 1, 0, 0), (1, 4, .invokestatic 111, 106, 1, 1), (4, 7, .ifCond .eq 15, 19, 0, 0), (7, 8, .iload_n 3, 3, 0, 0), (8, 9, .i2l, 0, 0, 0), (9, 10, .lconst 1, 0, 0, 1), (10, 13, .ldc2_w 144, 0, 0, 40), (13, 16, .invokestatic 107, 103, 3, 1), (16, 19, .ifCond .ne 6, 22, 0, 0), (19, 21, .ldc 117, 0, 0, (-1000001)), (21, 22, .ireturn, 0, 0, 0), (22, 23, .aload_n 0, 0, 0, 0), (23, 26, .getfield 7, 9, 39, 0), (26, 27, .iload_n 1, 1, 0, 0), (27, 28, .iaload, 0, 0, 0), (28, 31, .ifCond .ne 9, 37, 0, 0), (31, 32, .aload_n 0, 0, 0, 0), (32, 33, .iconst 1, 0, 0, 1), (33, 36, .invokevirtual 118, 104, 1, 37), (36, 37, .ireturn, 0, 0, 0), (37, 38, .iload_n 2, 2, 0, 0), (38, 41, .ifCond .lt 23, 61, 0, 0), (41, 42, .iload_n 2, 2, 0, 0), (42, 43, .i2l, 0, 0, 0), (43, 46, .ldc2_w 115, 0, 0, 2), (46, 47, .iload_n 3, 3, 0, 0), (47, 48, .i2l, 0, 0, 0), (48, 49, .lmul, 0, 0, 0), (49, 50, .ladd, 0, 0, 0), (50, 51, .aload_n 0, 0, 0, 0), (51, 54, .getfield 13, 9, 40, 1), (54, 55, .iload_n 1, 1, 0, 0), (55, 56, .iaload, 0, 0, 0), (56, 57, .i2l, 0, 0, 0), (57, 58, .lcmp, 0, 0, 0), (58, 61, .ifCond .le 9, 67, 0, 0), (61, 62, .aload_n 0, 0, 0, 0), (62, 63, .iconst 2, 0, 0, 2), (63, 66, .invokevirtual 118, 104, 1, 37), (66, 67, .ireturn, 0, 0, 0), (67, 68, .iconst 0, 0, 0, 0), (68, 70, .istore 4, 4, 0, 0), (70, 72, .iload 4, 4, 0, 0), (72, 73, .iload_n 3, 3, 0, 0), (73, 76, .if_icmp .ge 68, 141, 0, 0), (76, 77, .aload_n 0, 0, 0, 0), (77, 80, .getfield 16, 9, 41, 2), (80, 82, .bipush 80, 0, 0, 80), (82, 83, .iload_n 1, 1, 0, 0), (83, 84, .imul, 0, 0, 0), (84, 85, .iload_n 2, 2, 0, 0), (85, 86, .iadd, 0, 0, 0), (86, 87, .iconst 2, 0, 0, 2), (87, 89, .iload 4, 4, 0, 0), (89, 90, .imul, 0, 0, 0), (90, 91, .iadd, 0, 0, 0), (91, 92, .iaload, 0, 0, 0), (92, 93, .i2l, 0, 0, 0), (93, 94, .lconst 0, 0, 0, 0), (94, 97, .ldc2_w 146, 0, 0, 2000), (97, 100, .invokestatic 107, 103, 3, 1), (100, 103, .ifCond .eq 32, 132, 0, 0), (103, 104, .aload_n 0, 0, 0, 0), (104, 107, .getfield 16, 9, 41, 2), (107, 109, .bipush 80, 0, 0, 80), (109, 110, .iload_n 1, 1, 0, 0), (110, 111, .imul, 0, 0, 0), (111, 112, .iload_n 2, 2, 0, 0), (112, 113, .iadd, 0, 0, 0), (113, 114, .iconst 2, 0, 0, 2), (114, 116, .iload 4, 4, 0, 0), (116, 117, .imul, 0, 0, 0), (117, 118, .iadd, 0, 0, 0), (118, 119, .iconst 1, 0, 0, 1), (119, 120, .iadd, 0, 0, 0), (120, 121, .iaload, 0, 0, 0), (121, 122, .i2l, 0, 0, 0), (122, 123, .lconst 0, 0, 0, 0), (123, 126, .ldc2_w 148, 0, 0, 12), (126, 129, .invokestatic 107, 103, 3, 1), (129, 132, .ifCond .ne 6, 135, 0, 0), (132, 134, .ldc 117, 0, 0, (-1000001)), (134, 135, .ireturn, 0, 0, 0), (135, 138, .iinc 4 1, 4, 0, 1), (138, 141, .goto (-68), 70, 0, 0), (141, 142, .aload_n 0, 0, 0, 0), (142, 143, .iconst 0, 0, 0, 0), (143, 146, .putfield 131, 9, 0, 5), (146, 147, .aload_n 0, 0, 0, 0), (147, 148, .iconst 0, 0, 0, 0), (148, 151, .putfield 137, 9, 0, 9), (151, 152, .iconst 0, 0, 0, 0), (152, 154, .istore 4, 4, 0, 0), (154, 156, .iload 4, 4, 0, 0), (156, 157, .iload_n 3, 3, 0, 0), (157, 160, .if_icmp .ge 110, 267, 0, 0), (160, 161, .aload_n 0, 0, 0, 0), (161, 164, .getfield 16, 9, 41, 2), (164, 166, .bipush 80, 0, 0, 80), (166, 167, .iload_n 1, 1, 0, 0), (167, 168, .imul, 0, 0, 0), (168, 169, .iload_n 2, 2, 0, 0), (169, 170, .iadd, 0, 0, 0), (170, 171, .iconst 2, 0, 0, 2), (171, 173, .iload 4, 4, 0, 0), (173, 174, .imul, 0, 0, 0), (174, 175, .iadd, 0, 0, 0), (175, 176, .iaload, 0, 0, 0), (176, 178, .istore 5, 5, 0, 0), (178, 179, .aload_n 0, 0, 0, 0), (179, 182, .getfield 16, 9, 41, 2), (182, 184, .bipush 80, 0, 0, 80), (184, 185, .iload_n 1, 1, 0, 0), (185, 186, .imul, 0, 0, 0), (186, 187, .iload_n 2, 2, 0, 0), (187, 188, .iadd, 0, 0, 0), (188, 189, .iconst 2, 0, 0, 2), (189, 191, .iload 4, 4, 0, 0), (191, 192, .imul, 0, 0, 0), (192, 193, .iadd, 0, 0, 0), (193, 194, .iconst 1, 0, 0, 1), (194, 195, .iadd, 0, 0, 0), (195, 196, .iaload, 0, 0, 0), (196, 198, .istore 6, 6, 0, 0), (198, 200, .iload 6, 6, 0, 0), (200, 202, .bipush 12, 0, 0, 12), (202, 205, .if_icmp .ne 27, 229, 0, 0), (205, 206, .aload_n 0, 0, 0, 0), (206, 209, .getfield 31, 9, 46, 10), (209, 210, .aload_n 0, 0, 0, 0), (210, 213, .getfield 137, 9, 0, 9), (213, 215, .iload 5, 5, 0, 0), (215, 216, .iastore, 0, 0, 0), (216, 217, .aload_n 0, 0, 0, 0), (217, 218, .dup, 0, 0, 0), (218, 221, .getfield 137, 9, 0, 9), (221, 222, .iconst 1, 0, 0, 1), (222, 223, .iadd, 0, 0, 0), (223, 226, .putfield 137, 9, 0, 9), (226, 229, .goto 35, 261, 0, 0), (229, 230, .aload_n 0, 0, 0, 0), (230, 233, .getfield 22, 9, 43, 6), (233, 234, .aload_n 0, 0, 0, 0), (234, 237, .getfield 131, 9, 0, 5), (237, 239, .iload 5, 5, 0, 0), (239, 240, .iastore, 0, 0, 0), (240, 241, .aload_n 0, 0, 0, 0), (241, 244, .getfield 25, 9, 44, 7), (244, 245, .aload_n 0, 0, 0, 0), (245, 248, .getfield 131, 9, 0, 5), (248, 250, .iload 6, 6, 0, 0), (250, 251, .iastore, 0, 0, 0), (251, 252, .aload_n 0, 0, 0, 0), (252, 253, .dup, 0, 0, 0), (253, 256, .getfield 131, 9, 0, 5), (256, 257, .iconst 1, 0, 0, 1), (257, 258, .iadd, 0, 0, 0), (258, 261, .putfield 131, 9, 0, 5), (261, 264, .iinc 4 1, 4, 0, 1), (264, 267, .goto (-110), 154, 0, 0), (267, 268, .aload_n 0, 0, 0, 0), (268, 271, .invokevirtual 150, 112, 0, 36), (271, 272, .aload_n 0, 0, 0, 0), (272, 273, .aload_n 0, 0, 0, 0), (273, 276, .getfield 128, 9, 0, 13), (276, 279, .invokevirtual 122, 105, 1, 37), (279, 280, .ireturn, 0, 0, 0)]
set_option maxRecDepth 100000 in
theorem zmk_114 : zMok 114 zc_114 := ⟨by
  show ∀ x ∈ zc_114_0 ++ (zc_114_1 ++ (zc_114_2)), zchk 114 x = true
  exact List.forall_mem_append.mpr ⟨zmk_114_0, List.forall_mem_append.mpr ⟨zmk_114_1, zmk_114_2⟩⟩, by decide +kernel⟩
/-- PenLinesModel.gap -/
def zc_115 : List zE := [(0, 1, .iload_n 1, 1, 0, 0), (1, 2, .i2l, 0, 0, 0), (2, 3, .lconst 1, 0, 0, 1), (3, 6, .ldc2_w 153, 0, 0, 100), (6, 9, .invokestatic 107, 103, 3, 1), (9, 12, .ifCond .ne 6, 15, 0, 0), (12, 14, .ldc 117, 0, 0, (-1000001)), (14, 15, .ireturn, 0, 0, 0), (15, 16, .aload_n 0, 0, 0, 0), (16, 19, .getfield 34, 9, 0, 12), (19, 20, .istore_n 2, 2, 0, 0), (20, 21, .aload_n 0, 0, 0, 0), (21, 22, .iload_n 1, 1, 0, 0), (22, 25, .putfield 34, 9, 0, 12), (25, 26, .aload_n 0, 0, 0, 0), (26, 29, .invokevirtual 150, 112, 0, 36), (29, 30, .iload_n 2, 2, 0, 0), (30, 31, .ireturn, 0, 0, 0)]
theorem zmk_115 : zMok 115 zc_115 := ⟨List.all_eq_true.mp (by decide +kernel), by decide +kernel⟩
/-- PenLinesModel.isInk -/
def zc_116 : List zE := [(0, 1, .iload_n 1, 1, 0, 0), (1, 2, .i2l, 0, 0, 0), (2, 3, .lconst 0, 0, 0, 0), (3, 4, .aload_n 0, 0, 0, 0), (4, 7, .getfield 128, 9, 0, 13), (7, 8, .iconst 1, 0, 0, 1), (8, 9, .isub, 0, 0, 0), (9, 10, .i2l, 0, 0, 0), (10, 13, .invokestatic 107, 103, 3, 1), (13, 14, .ireturn, 1, 0, 0)]
theorem zmk_116 : zMok 116 zc_116 := ⟨List.all_eq_true.mp (by decide +kernel), by decide +kernel⟩
/-- PenLinesModel.many -/
def zc_117 : List zE := [(0, 1, .aload_n 0, 0, 0, 0), (1, 4, .getfield 38, 9, 47, 14), (4, 5, .iload_n 1, 1, 0, 0), (5, 6, .iconst 1, 0, 0, 1), (6, 7, .iadd, 0, 0, 0), (7, 8, .iaload, 0, 0, 0), (8, 9, .aload_n 0, 0, 0, 0), (9, 12, .getfield 38, 9, 47, 14), (12, 13, .iload_n 1, 1, 0, 0), (13, 14, .iaload, 0, 0, 0), (14, 15, .isub, 0, 0, 0), (15, 16, .ireturn, 0, 0, 0)]
theorem zmk_117 : zMok 117 zc_117 := ⟨List.all_eq_true.mp (by decide +kernel), by decide +kernel⟩
/-- PenLinesModel.ink -/
def zc_118 : List zE := [(0, 1, .aload_n 0, 0, 0, 0), (1, 2, .iload_n 1, 1, 0, 0), (2, 5, .invokevirtual 155, 116, 1, 37), (5, 8, .ifCond .eq 15, 20, 0, 0), (8, 9, .iload_n 2, 2, 0, 0), (9, 10, .i2l, 0, 0, 0), (10, 11, .lconst 0, 0, 0, 0), (11, 14, .ldc2_w 115, 0, 0, 2), (14, 17, .invokestatic 107, 103, 3, 1), (17, 20, .ifCond .ne 6, 23, 0, 0), (20, 22, .ldc 117, 0, 0, (-1000001)), (22, 23, .ireturn, 0, 0, 0), (23, 24, .iload_n 2, 2, 0, 0), (24, 27, .ifCond .ne 11, 35, 0, 0), (27, 28, .aload_n 0, 0, 0, 0), (28, 29, .iload_n 1, 1, 0, 0), (29, 32, .invokevirtual 158, 117, 1, 37), (32, 35, .goto 23, 55, 0, 0), (35, 36, .iload_n 2, 2, 0, 0), (36, 37, .iconst 1, 0, 0, 1), (37, 40, .if_icmp .ne 12, 49, 0, 0), (40, 41, .aload_n 0, 0, 0, 0), (41, 44, .getfield 38, 9, 47, 14), (44, 45, .iload_n 1, 1, 0, 0), (45, 46, .iaload, 0, 0, 0), (46, 49, .goto 9, 55, 0, 0), (49, 50, .aload_n 0, 0, 0, 0), (50, 53, .getfield 41, 9, 48, 15), (53, 54, .iload_n 1, 1, 0, 0), (54, 55, .iaload, 0, 0, 0), (55, 56, .ireturn, 0, 0, 0)]
theorem zmk_118 : zMok 118 zc_118 := ⟨List.all_eq_true.mp (by decide +kernel), by decide +kernel⟩
/-- PenLinesModel.piece -/
def zc_119 : List zE := [(0, 1, .aload_n 0, 0, 0, 0), (1, 2, .iload_n 1, 1, 0, 0), (2, 5, .invokevirtual 155, 116, 1, 37), (5, 8, .ifCond .eq 32, 37, 0, 0), (8, 9, .iload_n 2, 2, 0, 0), (9, 10, .i2l, 0, 0, 0), (10, 11, .lconst 0, 0, 0, 0), (11, 12, .aload_n 0, 0, 0, 0), (12, 13, .iload_n 1, 1, 0, 0), (13, 16, .invokevirtual 158, 117, 1, 37), (16, 17, .iconst 1, 0, 0, 1), (17, 18, .isub, 0, 0, 0), (18, 19, .i2l, 0, 0, 0), (19, 22, .invokestatic 107, 103, 3, 1), (22, 25, .ifCond .eq 15, 37, 0, 0), (25, 26, .iload_n 3, 3, 0, 0), (26, 27, .i2l, 0, 0, 0), (27, 28, .lconst 0, 0, 0, 0), (28, 31, .ldc2_w 115, 0, 0, 2), (31, 34, .invokestatic 107, 103, 3, 1), (34, 37, .ifCond .ne 6, 40, 0, 0), (37, 39, .ldc 117, 0, 0, (-1000001)), (39, 40, .ireturn, 0, 0, 0), (40, 41, .aload_n 0, 0, 0, 0), (41, 44, .getfield 38, 9, 47, 14), (44, 45, .iload_n 1, 1, 0, 0), (45, 46, .iaload, 0, 0, 0), (46, 47, .iload_n 2, 2, 0, 0), (47, 48, .iadd, 0, 0, 0), (48, 50, .istore 4, 4, 0, 0), (50, 51, .iload_n 3, 3, 0, 0), (51, 54, .ifCond .ne 13, 64, 0, 0), (54, 55, .aload_n 0, 0, 0, 0), (55, 58, .getfield 22, 9, 43, 6), (58, 60, .iload 4, 4, 0, 0), (60, 61, .iaload, 0, 0, 0), (61, 64, .goto 25, 86, 0, 0), (64, 65, .iload_n 3, 3, 0, 0), (65, 66, .iconst 1, 0, 0, 1), (66, 69, .if_icmp .ne 13, 79, 0, 0), (69, 70, .aload_n 0, 0, 0, 0), (70, 73, .getfield 25, 9, 44, 7), (73, 75, .iload 4, 4, 0, 0), (75, 76, .iaload, 0, 0, 0), (76, 79, .goto 10, 86, 0, 0), (79, 80, .aload_n 0, 0, 0, 0), (80, 83, .getfield 28, 9, 45, 8), (83, 85, .iload 4, 4, 0, 0), (85, 86, .iaload, 0, 0, 0), (86, 87, .ireturn, 0, 0, 0)]
theorem zmk_119 : zMok 119 zc_119 := ⟨List.all_eq_true.mp (by decide +kernel), by decide +kernel⟩
/-- PenLinesModel.loose -/
def zc_120 : List zE := [(0, 1, .aload_n 0, 0, 0, 0), (1, 4, .getfield 134, 9, 0, 11), (4, 5, .ireturn, 0, 0, 0)]
theorem zmk_120 : zMok 120 zc_120 := ⟨List.all_eq_true.mp (by decide +kernel), by decide +kernel⟩
/-- PenLinesModel.isLetter -/
def zc_121 : List zE := [(0, 1, .iload_n 0, 0, 0, 0), (1, 2, .i2l, 0, 0, 0), (2, 3, .lconst 0, 0, 0, 0), (3, 6, .ldc2_w 161, 0, 0, 25), (6, 9, .invokestatic 107, 103, 3, 1), (9, 10, .ireturn, 1, 0, 0)]
theorem zmk_121 : zMok 121 zc_121 := ⟨List.all_eq_true.mp (by decide +kernel), by decide +kernel⟩
/-- PenLinesModel.shapes -/
def zc_122 : List zE := [(0, 1, .iload_n 0, 0, 0, 0), (1, 2, .iconst 1, 0, 0, 1), (2, 5, .if_icmp .ne 7, 9, 0, 0), (5, 6, .iload_n 1, 1, 0, 0), (6, 9, .goto 36, 42, 0, 0), (9, 10, .iload_n 0, 0, 0, 0), (10, 11, .iconst 2, 0, 0, 2), (11, 14, .if_icmp .ne 15, 26, 0, 0), (14, 16, .bipush 12, 0, 0, 12), (16, 18, .bipush 12, 0, 0, 12), (18, 19, .iload_n 1, 1, 0, 0), (19, 20, .imul, 0, 0, 0), (20, 21, .iadd, 0, 0, 0), (21, 22, .iload_n 2, 2, 0, 0), (22, 23, .iadd, 0, 0, 0), (23, 26, .goto 19, 42, 0, 0), (26, 29, .sipush 156, 0, 0, 156), (29, 32, .sipush 144, 0, 0, 144), (32, 33, .iload_n 1, 1, 0, 0), (33, 34, .imul, 0, 0, 0), (34, 35, .iadd, 0, 0, 0), (35, 37, .bipush 12, 0, 0, 12), (37, 38, .iload_n 2, 2, 0, 0), (38, 39, .imul, 0, 0, 0), (39, 40, .iadd, 0, 0, 0), (40, 41, .iload_n 3, 3, 0, 0), (41, 42, .iadd, 0, 0, 0), (42, 43, .ireturn, 0, 0, 0)]
theorem zmk_122 : zMok 122 zc_122 := ⟨List.all_eq_true.mp (by decide +kernel), by decide +kernel⟩
/-- PenLinesModel.isForm -/
def zc_123 : List zE := [(0, 1, .iload_n 0, 0, 0, 0), (1, 4, .invokestatic 163, 121, 1, 1), (4, 7, .ifCond .eq 66, 70, 0, 0), (7, 8, .iload_n 1, 1, 0, 0), (8, 9, .i2l, 0, 0, 0), (9, 10, .lconst 1, 0, 0, 1), (10, 13, .ldc2_w 166, 0, 0, 3), (13, 16, .invokestatic 107, 103, 3, 1), (16, 19, .ifCond .eq 54, 70, 0, 0), (19, 20, .iload_n 2, 2, 0, 0), (20, 21, .i2l, 0, 0, 0), (21, 22, .lconst 0, 0, 0, 0), (22, 25, .ldc2_w 168, 0, 0, 11), (25, 28, .invokestatic 107, 103, 3, 1), (28, 31, .ifCond .eq 42, 70, 0, 0), (31, 32, .iload_n 1, 1, 0, 0), (32, 33, .iconst 2, 0, 0, 2), (33, 36, .if_icmp .lt 15, 48, 0, 0), (36, 37, .iload_n 3, 3, 0, 0), (37, 38, .i2l, 0, 0, 0), (38, 39, .lconst 0, 0, 0, 0), (39, 42, .ldc2_w 168, 0, 0, 11), (42, 45, .invokestatic 107, 103, 3, 1), (45, 48, .ifCond .eq 25, 70, 0, 0), (48, 49, .iload_n 1, 1, 0, 0), (49, 50, .iconst 3, 0, 0, 3), (50, 53, .if_icmp .lt 16, 66, 0, 0), (53, 55, .iload 4, 4, 0, 0), (55, 56, .i2l, 0, 0, 0), (56, 57, .lconst 0, 0, 0, 0), (57, 60, .ldc2_w 168, 0, 0, 11), (60, 63, .invokestatic 107, 103, 3, 1), (63, 66, .ifCond .eq 7, 70, 0, 0), (66, 67, .iconst 1, 0, 0, 1), (67, 70, .goto 4, 71, 0, 0), (70, 71, .iconst 0, 0, 0, 0), (71, 72, .ireturn, 1, 0, 0)]
theorem zmk_123 : zMok 123 zc_123 := ⟨List.all_eq_true.mp (by decide +kernel), by decide +kernel⟩
/-- PenLinesModel.raise -/
def zc_124 : List zE := [(0, 1, .aload_n 0, 0, 0, 0), (1, 4, .getfield 170, 9, 0, 20), (4, 7, .ifCond .le 38, 42, 0, 0), (7, 8, .aload_n 0, 0, 0, 0), (8, 11, .getfield 48, 9, 50, 18), (11, 12, .aload_n 0, 0, 0, 0), (12, 15, .getfield 173, 9, 0, 17), (15, 16, .iload_n 1, 1, 0, 0), (16, 17, .iastore, 0, 0, 0), (17, 18, .aload_n 0, 0, 0, 0), (18, 21, .getfield 51, 9, 51, 19), (21, 22, .aload_n 0, 0, 0, 0), (22, 25, .getfield 173, 9, 0, 17), (25, 26, .aload_n 0, 0, 0, 0), (26, 29, .getfield 45, 9, 49, 16), (29, 30, .iload_n 1, 1, 0, 0), (30, 31, .iaload, 0, 0, 0), (31, 32, .iastore, 0, 0, 0), (32, 33, .aload_n 0, 0, 0, 0), (33, 34, .dup, 0, 0, 0), (34, 37, .getfield 173, 9, 0, 17), (37, 38, .iconst 1, 0, 0, 1), (38, 39, .iadd, 0, 0, 0), (39, 42, .putfield 173, 9, 0, 17), (42, 43, .aload_n 0, 0, 0, 0), (43, 46, .getfield 45, 9, 49, 16), (46, 47, .iload_n 1, 1, 0, 0), (47, 48, .aload_n 0, 0, 0, 0), (48, 51, .getfield 45, 9, 49, 16), (51, 52, .iload_n 1, 1, 0, 0), (52, 53, .iaload, 0, 0, 0), (53, 54, .iload_n 2, 2, 0, 0), (54, 55, .iadd, 0, 0, 0), (55, 58, .sipush 999, 0, 0, 999), (58, 61, .if_icmp .le 9, 67, 0, 0), (61, 64, .sipush 999, 0, 0, 999), (64, 67, .goto 11, 75, 0, 0), (67, 68, .aload_n 0, 0, 0, 0), (68, 71, .getfield 45, 9, 49, 16), (71, 72, .iload_n 1, 1, 0, 0), (72, 73, .iaload, 0, 0, 0), (73, 74, .iload_n 2, 2, 0, 0), (74, 75, .iadd, 0, 0, 0), (75, 76, .iastore, 0, 0, 0), (76, 77, .aload_n 0, 0, 0, 0), (77, 80, .getfield 45, 9, 49, 16), (80, 81, .iload_n 1, 1, 0, 0), (81, 82, .iaload, 0, 0, 0), (82, 83, .ireturn, 0, 0, 0)]
theorem zmk_124 : zMok 124 zc_124 := ⟨List.all_eq_true.mp (by decide +kernel), by decide +kernel⟩
/-- PenLinesModel.form -/
def zc_125 : List zE := [(0, 1, .iload_n 1, 1, 0, 0), (1, 2, .iload_n 2, 2, 0, 0), (2, 3, .iload_n 3, 3, 0, 0), (3, 5, .iload 4, 4, 0, 0), (5, 7, .iload 5, 5, 0, 0), (7, 10, .invokestatic 176, 123, 5, 1), (10, 13, .ifCond .eq 16, 26, 0, 0), (13, 15, .iload 6, 6, 0, 0), (15, 16, .i2l, 0, 0, 0), (16, 17, .lconst 1, 0, 0, 1), (17, 20, .ldc2_w 180, 0, 0, 99), (20, 23, .invokestatic 107, 103, 3, 1), (23, 26, .ifCond .ne 6, 29, 0, 0), (26, 28, .ldc 117, 0, 0, (-1000001)), (28, 29, .ireturn, 0, 0, 0), (29, 30, .aload_n 0, 0, 0, 0), (30, 33, .invokevirtual 125, 111, 0, 36), (33, 34, .aload_n 0, 0, 0, 0), (34, 37, .sipush 1884, 0, 0, 1884), (37, 38, .iload_n 1, 1, 0, 0), (38, 39, .imul, 0, 0, 0), (39, 40, .iload_n 2, 2, 0, 0), (40, 41, .iload_n 3, 3, 0, 0), (41, 43, .iload 4, 4, 0, 0), (43, 45, .iload 5, 5, 0, 0), (45, 48, .invokestatic 182, 122, 4, 1), (48, 49, .iadd, 0, 0, 0), (49, 51, .iload 6, 6, 0, 0), (51, 54, .invokevirtual 186, 124, 2, 37), (54, 55, .ireturn, 0, 0, 0)]
theorem zmk_125 : zMok 125 zc_125 := ⟨List.all_eq_true.mp (by decide +kernel), by decide +kernel⟩
/-- PenLinesModel.seen -/
def zc_126 : List zE := [(0, 1, .iload_n 1, 1, 0, 0), (1, 2, .iload_n 2, 2, 0, 0), (2, 3, .iload_n 3, 3, 0, 0), (3, 5, .iload 4, 4, 0, 0), (5, 7, .iload 5, 5, 0, 0), (7, 10, .invokestatic 176, 123, 5, 1), (10, 13, .ifCond .eq 26, 36, 0, 0), (13, 14, .aload_n 0, 0, 0, 0), (14, 17, .getfield 45, 9, 49, 16), (17, 20, .sipush 1884, 0, 0, 1884), (20, 21, .iload_n 1, 1, 0, 0), (21, 22, .imul, 0, 0, 0), (22, 23, .iload_n 2, 2, 0, 0), (23, 24, .iload_n 3, 3, 0, 0), (24, 26, .iload 4, 4, 0, 0), (26, 28, .iload 5, 5, 0, 0), (28, 31, .invokestatic 182, 122, 4, 1), (31, 32, .iadd, 0, 0, 0), (32, 33, .iaload, 0, 0, 0), (33, 36, .goto 5, 38, 0, 0), (36, 38, .ldc 117, 0, 0, (-1000001)), (38, 39, .ireturn, 0, 0, 0)]
theorem zmk_126 : zMok 126 zc_126 := ⟨List.all_eq_true.mp (by decide +kernel), by decide +kernel⟩
/-- PenLinesModel.pair -/
def zc_127 : List zE := [(0, 1, .iload_n 1, 1, 0, 0), (1, 4, .invokestatic 163, 121, 1, 1), (4, 7, .ifCond .eq 22, 26, 0, 0), (7, 8, .iload_n 2, 2, 0, 0), (8, 11, .invokestatic 163, 121, 1, 1), (11, 14, .ifCond .eq 15, 26, 0, 0), (14, 15, .iload_n 3, 3, 0, 0), (15, 16, .i2l, 0, 0, 0), (16, 17, .lconst 1, 0, 0, 1), (17, 20, .ldc2_w 180, 0, 0, 99), (20, 23, .invokestatic 107, 103, 3, 1), (23, 26, .ifCond .ne 6, 29, 0, 0), (26, 28, .ldc 117, 0, 0, (-1000001)), (28, 29, .ireturn, 0, 0, 0), (29, 30, .aload_n 0, 0, 0, 0), (30, 33, .invokevirtual 125, 111, 0, 36), (33, 34, .aload_n 0, 0, 0, 0), (34, 36, .ldc 189, 0, 0, 48984), (36, 38, .bipush 26, 0, 0, 26), (38, 39, .iload_n 1, 1, 0, 0), (39, 40, .imul, 0, 0, 0), (40, 41, .iadd, 0, 0, 0), (41, 42, .iload_n 2, 2, 0, 0), (42, 43, .iadd, 0, 0, 0), (43, 44, .iload_n 3, 3, 0, 0), (44, 47, .invokevirtual 186, 124, 2, 37), (47, 48, .ireturn, 0, 0, 0)]
theorem zmk_127 : zMok 127 zc_127 := ⟨List.all_eq_true.mp (by decide +kernel), by decide +kernel⟩
/-- PenLinesModel.letter -/
def zc_128 : List zE := [(0, 1, .iload_n 1, 1, 0, 0), (1, 4, .invokestatic 163, 121, 1, 1), (4, 7, .ifCond .ne 6, 10, 0, 0), (7, 9, .ldc 117, 0, 0, (-1000001)), (9, 10, .ireturn, 0, 0, 0), (10, 11, .aload_n 0, 0, 0, 0), (11, 14, .getfield 190, 9, 0, 25), (14, 16, .bipush 12, 0, 0, 12), (16, 19, .if_icmp .ne 6, 22, 0, 0), (19, 21, .ldc 193, 0, 0, (-1000003)), (21, 22, .ireturn, 0, 0, 0), (22, 23, .aload_n 0, 0, 0, 0), (23, 26, .getfield 63, 9, 55, 26), (26, 27, .aload_n 0, 0, 0, 0), (27, 30, .getfield 190, 9, 0, 25), (30, 31, .iload_n 1, 1, 0, 0), (31, 32, .iastore, 0, 0, 0), (32, 33, .aload_n 0, 0, 0, 0), (33, 34, .dup, 0, 0, 0), (34, 37, .getfield 190, 9, 0, 25), (37, 38, .iconst 1, 0, 0, 1), (38, 39, .iadd, 0, 0, 0), (39, 42, .putfield 190, 9, 0, 25), (42, 43, .aload_n 0, 0, 0, 0), (43, 46, .getfield 190, 9, 0, 25), (46, 47, .ireturn, 0, 0, 0)]
theorem zmk_128 : zMok 128 zc_128 := ⟨List.all_eq_true.mp (by decide +kernel), by decide +kernel⟩
/-- PenLinesModel.inList -/
def zc_129 : List zE := [(0, 1, .iconst 0, 0, 0, 0), (1, 2, .istore_n 1, 1, 0, 0), (2, 3, .iload_n 1, 1, 0, 0), (3, 4, .aload_n 0, 0, 0, 0), (4, 7, .getfield 194, 9, 0, 22), (7, 10, .if_icmp .ge 80, 87, 0, 0), (10, 11, .aload_n 0, 0, 0, 0), (11, 14, .getfield 57, 9, 53, 23), (14, 15, .iload_n 1, 1, 0, 0), (15, 16, .iaload, 0, 0, 0), (16, 17, .aload_n 0, 0, 0, 0), (17, 20, .getfield 190, 9, 0, 25), (20, 23, .if_icmp .ne 7, 27, 0, 0), (23, 24, .iconst 1, 0, 0, 1), (24, 27, .goto 4, 28, 0, 0), (27, 28, .iconst 0, 0, 0, 0), (28, 29, .istore_n 2, 2, 0, 0), (29, 30, .iconst 0, 0, 0, 0), (30, 31, .istore_n 3, 3, 0, 0), (31, 32, .iload_n 3, 3, 0, 0), (32, 33, .aload_n 0, 0, 0, 0), (33, 36, .getfield 190, 9, 0, 25), (36, 39, .if_icmp .ge 39, 75, 0, 0), (39, 40, .iload_n 2, 2, 0, 0), (40, 43, .ifCond .eq 35, 75, 0, 0), (43, 44, .aload_n 0, 0, 0, 0), (44, 47, .getfield 60, 9, 54, 24), (47, 49, .bipush 12, 0, 0, 12), (49, 50, .iload_n 1, 1, 0, 0), (50, 51, .imul, 0, 0, 0), (51, 52, .iload_n 3, 3, 0, 0), (52, 53, .iadd, 0, 0, 0), (53, 54, .iaload, 0, 0, 0), (54, 55, .aload_n 0, 0, 0, 0), (55, 58, .getfield 63, 9, 55, 26), (58, 59, .iload_n 3, 3, 0, 0), (59, 60, .iaload, 0, 0, 0), (60, 63, .if_icmp .ne 7, 67, 0, 0), (63, 64, .iconst 1, 0, 0, 1), (64, 67, .goto 4, 68, 0, 0), (67, 68, .iconst 0, 0, 0, 0), (68, 69, .istore_n 2, 2, 0, 0), (69, 72, .iinc 3 1, 3, 0, 1), (72, 75, .goto (-41), 31, 0, 0), (75, 76, .iload_n 2, 2, 0, 0), (76, 79, .ifCond .eq 5, 81, 0, 0), (79, 80, .iload_n 1, 1, 0, 0), (80, 81, .ireturn, 0, 0, 0), (81, 84, .iinc 1 1, 1, 0, 1), (84, 87, .goto (-82), 2, 0, 0), (87, 89, .ldc 197, 0, 0, (-1000000)), (89, 90, .ireturn, 0, 0, 0)]
theorem zmk_129 : zMok 129 zc_129 := ⟨List.all_eq_true.mp (by decide +kernel), by decide +kernel⟩
/-- PenLinesModel.list -/
def zc_130 : List zE := [(0, 1, .aload_n 0, 0, 0, 0), (1, 4, .getfield 190, 9, 0, 25), (4, 7, .ifCond .eq 12, 16, 0, 0), (7, 8, .aload_n 0, 0, 0, 0), (8, 11, .invokevirtual 198, 129, 0, 37), (11, 13, .ldc 197, 0, 0, (-1000000)), (13, 16, .if_icmp .eq 6, 19, 0, 0), (16, 18, .ldc 202, 0, 0, (-1000002)), (18, 19, .ireturn, 0, 0, 0), (19, 20, .aload_n 0, 0, 0, 0), (20, 23, .getfield 194, 9, 0, 22), (23, 25, .bipush 30, 0, 0, 30), (25, 28, .if_icmp .ne 6, 31, 0, 0), (28, 30, .ldc 193, 0, 0, (-1000003)), (30, 31, .ireturn, 0, 0, 0), (31, 32, .aload_n 0, 0, 0, 0), (32, 35, .getfield 57, 9, 53, 23), (35, 36, .aload_n 0, 0, 0, 0), (36, 39, .getfield 194, 9, 0, 22), (39, 40, .aload_n 0, 0, 0, 0), (40, 43, .getfield 190, 9, 0, 25), (43, 44, .iastore, 0, 0, 0), (44, 45, .iconst 0, 0, 0, 0), (45, 46, .istore_n 1, 1, 0, 0), (46, 47, .iload_n 1, 1, 0, 0), (47, 48, .aload_n 0, 0, 0, 0), (48, 51, .getfield 190, 9, 0, 25), (51, 54, .if_icmp .ge 29, 80, 0, 0), (54, 55, .aload_n 0, 0, 0, 0), (55, 58, .getfield 60, 9, 54, 24), (58, 60, .bipush 12, 0, 0, 12), (60, 61, .aload_n 0, 0, 0, 0), (61, 64, .getfield 194, 9, 0, 22), (64, 65, .imul, 0, 0, 0), (65, 66, .iload_n 1, 1, 0, 0), (66, 67, .iadd, 0, 0, 0), (67, 68, .aload_n 0, 0, 0, 0), (68, 71, .getfield 63, 9, 55, 26), (71, 72, .iload_n 1, 1, 0, 0), (72, 73, .iaload, 0, 0, 0), (73, 74, .iastore, 0, 0, 0), (74, 77, .iinc 1 1, 1, 0, 1), (77, 80, .goto (-31), 46, 0, 0), (80, 81, .aload_n 0, 0, 0, 0), (81, 82, .dup, 0, 0, 0), (82, 85, .getfield 194, 9, 0, 22), (85, 86, .iconst 1, 0, 0, 1), (86, 87, .iadd, 0, 0, 0), (87, 90, .putfield 194, 9, 0, 22), (90, 91, .aload_n 0, 0, 0, 0), (91, 92, .iconst 0, 0, 0, 0), (92, 95, .putfield 190, 9, 0, 25), (95, 96, .aload_n 0, 0, 0, 0), (96, 99, .getfield 194, 9, 0, 22), (99, 100, .iconst 1, 0, 0, 1), (100, 101, .isub, 0, 0, 0), (101, 102, .ireturn, 0, 0, 0)]
theorem zmk_130 : zMok 130 zc_130 := ⟨List.all_eq_true.mp (by decide +kernel), by decide +kernel⟩
/-- PenLinesModel.wipe -/
def zc_131 : List zE := [(0, 1, .aload_n 0, 0, 0, 0), (1, 4, .getfield 190, 9, 0, 25), (4, 5, .istore_n 1, 1, 0, 0), (5, 6, .aload_n 0, 0, 0, 0), (6, 7, .iconst 0, 0, 0, 0), (7, 10, .putfield 190, 9, 0, 25), (10, 11, .iload_n 1, 1, 0, 0), (11, 12, .ireturn, 0, 0, 0)]
theorem zmk_131 : zMok 131 zc_131 := ⟨List.all_eq_true.mp (by decide +kernel), by decide +kernel⟩
/-- PenLinesModel.cost -/
def zc_132_0 : List zE := [(0, 1, .aload_n 0, 0, 0, 0), (1, 4, .getfield 45, 9, 49, 16), (4, 7, .sipush 1884, 0, 0, 1884), (7, 8, .iload_n 1, 1, 0, 0), (8, 9, .imul, 0, 0, 0), (9, 10, .iload_n 3, 3, 0, 0), (10, 11, .aload_n 0, 0, 0, 0), (11, 14, .getfield 25, 9, 44, 7), (14, 15, .iload_n 2, 2, 0, 0), (15, 16, .iaload, 0, 0, 0), (16, 17, .iload_n 3, 3, 0, 0), (17, 18, .iconst 1, 0, 0, 1), (18, 21, .if_icmp .le 14, 32, 0, 0), (21, 22, .aload_n 0, 0, 0, 0), (22, 25, .getfield 25, 9, 44, 7), (25, 26, .iload_n 2, 2, 0, 0), (26, 27, .iconst 1, 0, 0, 1), (27, 28, .iadd, 0, 0, 0), (28, 29, .iaload, 0, 0, 0), (29, 32, .goto 4, 33, 0, 0), (32, 33, .iconst 0, 0, 0, 0), (33, 34, .iload_n 3, 3, 0, 0), (34, 35, .iconst 2, 0, 0, 2), (35, 38, .if_icmp .le 14, 49, 0, 0), (38, 39, .aload_n 0, 0, 0, 0), (39, 42, .getfield 25, 9, 44, 7), (42, 43, .iload_n 2, 2, 0, 0), (43, 44, .iconst 2, 0, 0, 2), (44, 45, .iadd, 0, 0, 0), (45, 46, .iaload, 0, 0, 0), (46, 49, .goto 4, 50, 0, 0), (49, 50, .iconst 0, 0, 0, 0), (50, 53, .invokestatic 182, 122, 4, 1), (53, 54, .iadd, 0, 0, 0), (54, 55, .iaload, 0, 0, 0), (55, 57, .istore 4, 4, 0, 0), (57, 59, .iload 4, 4, 0, 0), (59, 62, .ifCond .ne 6, 65, 0, 0), (62, 64, .ldc 203, 0, 0, 1000000000), (64, 65, .ireturn, 0, 0, 0), (65, 66, .iconst 0, 0, 0, 0), (66, 68, .istore 5, 5, 0, 0), (68, 69, .iload_n 2, 2, 0, 0), (69, 71, .istore 6, 6, 0, 0), (71, 73, .iload 6, 6, 0, 0), (73, 74, .iload_n 2, 2, 0, 0), (74, 75, .iload_n 3, 3, 0, 0), (75, 76, .iadd, 0, 0, 0), (76, 79, .if_icmp .ge 31, 107, 0, 0), (79, 81, .iload 5, 5, 0, 0), (81, 84, .ifCond .ne 13, 94, 0, 0), (84, 85, .aload_n 0, 0, 0, 0), (85, 88, .getfield 28, 9, 45, 8), (88, 90, .iload 6, 6, 0, 0), (90, 91, .iaload, 0, 0, 0), (91, 94, .ifCond .le 7, 98, 0, 0), (94, 95, .iconst 1, 0, 0, 1), (95, 98, .goto 4, 99, 0, 0), (98, 99, .iconst 0, 0, 0, 0), (99, 101, .istore 5, 5, 0, 0)]
theorem zmk_132_0 : ∀ x ∈ zc_132_0, zchk 132 x = true := List.all_eq_true.mp (by decide +kernel)
def zc_132_1 : List zE := [(101, 104, .iinc 6 1, 6, 0, 1), (104, 107, .goto (-33), 71, 0, 0), (107, 108, .iload_n 1, 1, 0, 0), (108, 110, .bipush 8, 0, 0, 8), (110, 113, .if_icmp .eq 9, 119, 0, 0), (113, 114, .iload_n 1, 1, 0, 0), (114, 116, .bipush 9, 0, 0, 9), (116, 119, .if_icmp .ne 7, 123, 0, 0), (119, 120, .iconst 1, 0, 0, 1), (120, 123, .goto 4, 124, 0, 0), (123, 124, .iconst 0, 0, 0, 0), (124, 126, .istore 6, 6, 0, 0), (126, 128, .bipush 12, 0, 0, 12), (128, 129, .iconst 1, 0, 0, 1), (129, 131, .iload 4, 4, 0, 0), (131, 132, .iadd, 0, 0, 0), (132, 133, .idiv, 0, 0, 0), (133, 135, .iload 6, 6, 0, 0), (135, 138, .ifCond .eq 12, 147, 0, 0), (138, 140, .iload 5, 5, 0, 0), (140, 143, .ifCond .ne 7, 147, 0, 0), (143, 144, .iconst 5, 0, 0, 5), (144, 147, .goto 4, 148, 0, 0), (147, 148, .iconst 0, 0, 0, 0), (148, 149, .iadd, 0, 0, 0), (149, 151, .iload 6, 6, 0, 0), (151, 154, .ifCond .ne 12, 163, 0, 0), (154, 156, .iload 5, 5, 0, 0), (156, 159, .ifCond .eq 7, 163, 0, 0), (159, 160, .iconst 4, 0, 0, 4), (160, 163, .goto 4, 164, 0, 0), (163, 164, .iconst 0, 0, 0, 0), (164, 165, .iadd, 0, 0, 0), (165, 166, .ireturn, 0, 0, 0)]
theorem zmk_132_1 : ∀ x ∈ zc_132_1, zchk 132 x = true := List.all_eq_true.mp (by decide +kernel)
def zc_132 : List zE := [(0, 1, .aload_n 0, 0, 0, 0), (1, 4, .getfield 45, 9, 49, 16), (4, 7, .sipush 1884, 0, 0, 1884), (7, 8, .iload_n 1, 1, 0, 0), (8, 9, .imul, 0, 0, 0), (9, 10, .iload_n 3, 3, 0, 0), (10, 11, .aload_n 0, 0, 0, 0), (11, 14, .getfield 25, 9, 44, 7), (14, 15, .iload_n 2, 2, 0, 0), (15, 16, .iaload, 0, 0, 0), (16, 17, .iload_n 3, 3, 0, 0), (17, 18, .iconst 1, 0, 0, 1), (18, 21, .if_icmp .le 14, 32, 0, 0), (21, 22, .aload_n 0, 0, 0, 0), (22, 25, .getfield 25, 9, 44, 7), (25, 26, .iload_n 2, 2, 0, 0), (26, 27, .iconst 1, 0, 0, 1), (27, 28, .iadd, 0, 0, 0), (28, 29, .iaload, 0, 0, 0), (29, 32, .goto 4, 33, 0, 0), (32, 33, .iconst 0, 0, 0, 0), (33, 34, .iload_n 3, 3, 0, 0), (34, 35, .iconst 2, 0, 0, 2), (35, 38, .if_icmp .le 14, 49, 0, 0), (38, 39, .aload_n 0, 0, 0, 0), (39, 42, .getfield 25, 9, 44, 7), (42, 43, .iload_n 2, 2, 0, 0), (43, 44, .iconst 2, 0, 0, 2), (44, 45, .iadd, 0, 0, 0), (45, 46, .iaload, 0, 0, 0), (46, 49, .goto 4, 50, 0, 0), (49, 50, .iconst 0, 0, 0, 0), (50, 53, .invokestatic 182, 122, 4, 1), (53, 54, .iadd, 0, 0, 0), (54, 55, .iaload, 0, 0, 0), (55, 57, .istore 4, 4, 0, 0), (57, 59, .iload 4, 4, 0, 0), (59, 62, .ifCond .ne 6, 65, 0, 0), (62, 64, .ldc 203, 0, 0, 1000000000), (64, 65, .ireturn, 0, 0, 0), (65, 66, .iconst 0, 0, 0, 0), (66, 68, .istore 5, 5, 0, 0), (68, 69, .iload_n 2, 2, 0, 0), (69, 71, .istore 6, 6, 0, 0), (71, 73, .iload 6, 6, 0, 0), (73, 74, .iload_n 2, 2, 0, 0), (74, 75, .iload_n 3, 3, 0, 0), (75, 76, .iadd, 0, 0, 0), (76, 79, .if_icmp .ge 31, 107, 0, 0), (79, 81, .iload 5, 5, 0, 0), (81, 84, .ifCond .ne 13, 94, 0, 0), (84, 85, .aload_n 0, 0, 0, 0), (85, 88, .getfield 28, 9, 45, 8), (88, 90, .iload 6, 6, 0, 0), (90, 91, .iaload, 0, 0, 0), (91, 94, .ifCond .le 7, 98, 0, 0), (94, 95, .iconst 1, 0, 0, 1), (95, 98, .goto 4, 99, 0, 0), (98, 99, .iconst 0, 0, 0, 0), (99, 101, .istore 5, 5, 0, 0), (101, 104, .iinc 6 1, 6, 0, 1), (104, 107, .goto (-33), 71, 0, 0), (107, 108, .iload_n 1, 1, 0, 0), (108, 110, .bipush 8, 0, 0, 8), (110, 113, .if_icmp .eq 9, 119, 0, 0), (113, 114, .iload_n 1, 1, 0, 0), (114, 116, .bipush 9, 0, 0, 9), (116, 119, .if_icmp .ne 7, 123, 0, 0), (119, 120, .iconst 1, 0, 0, 1), (120, 123, .goto 4, 124, 0, 0), (123, 124, .iconst 0, 0, 0, 0), (124, 126, .istore 6, 6, 0, 0), (126, 128, .bipush 12, 0, 0, 12), (128, 129, .iconst 1, 0, 0, 1), (129, 131, .iload 4, 4, 0, 0), (131, 132, .iadd, 0, 0, 0), (132, 133, .idiv, 0, 0, 0), (133, 135, .iload 6, 6, 0, 0), (135, 138, .ifCond .eq 12, 147, 0, 0), (138, 140, .iload 5, 5, 0, 0), (140, 143, .ifCond .ne 7, 147, 0, 0), (143, 144, .iconst 5, 0, 0, 5), (144, 147, .goto 4, 148, 0, 0), (147, 148, .iconst 0, 0, 0, 0), (148, 149, .iadd, 0, 0, 0), (149, 151, .iload 6, 6, 0, 0), (151, 154, .ifCond .ne 12, 163, 0, 0), (154, 156, .iload 5, 5, 0, 0), (156, 159, .ifCond .eq 7, 163, 0, 0), (159, 160, .iconst 4, 0, 0, 4), (160, 163, .goto 4, 164, 0, 0), (163, 164, .iconst 0, 0, 0, 0), (164, 165, .iadd, 0, 0, 0), (165, 166, .ireturn, 0, 0, 0)]
set_option maxRecDepth 100000 in
theorem zmk_132 : zMok 132 zc_132 := ⟨by
  show ∀ x ∈ zc_132_0 ++ (zc_132_1), zchk 132 x = true
  exact List.forall_mem_append.mpr ⟨zmk_132_0, zmk_132_1⟩, by decide +kernel⟩
/-- PenLinesModel.spell -/
def zc_133_0 : List zE := [(0, 1, .aload_n 0, 0, 0, 0), (1, 2, .iload_n 1, 1, 0, 0), (2, 5, .invokevirtual 158, 117, 1, 37), (5, 7, .istore 5, 5, 0, 0), (7, 9, .iload 5, 5, 0, 0), (9, 11, .bipush 14, 0, 0, 14), (11, 14, .if_icmp .le 6, 17, 0, 0), (14, 16, .ldc 203, 0, 0, 1000000000), (16, 17, .ireturn, 0, 0, 0), (17, 19, .iload 4, 4, 0, 0), (19, 21, .istore 6, 6, 0, 0), (21, 23, .iload 6, 6, 0, 0), (23, 26, .ifCond .lt 167, 190, 0, 0), (26, 28, .iload 5, 5, 0, 0), (28, 30, .istore 7, 7, 0, 0), (30, 32, .iload 7, 7, 0, 0), (32, 35, .ifCond .lt 152, 184, 0, 0), (35, 37, .iload 6, 6, 0, 0), (37, 39, .iload 4, 4, 0, 0), (39, 42, .if_icmp .ne 14, 53, 0, 0), (42, 44, .iload 7, 7, 0, 0), (44, 46, .iload 5, 5, 0, 0), (46, 49, .if_icmp .ne 7, 53, 0, 0), (49, 50, .iconst 0, 0, 0, 0), (50, 53, .goto 5, 55, 0, 0), (53, 55, .ldc 203, 0, 0, 1000000000), (55, 57, .istore 8, 8, 0, 0), (57, 58, .iconst 1, 0, 0, 1), (58, 60, .istore 9, 9, 0, 0), (60, 62, .iload 9, 9, 0, 0), (62, 63, .iconst 4, 0, 0, 4), (63, 66, .if_icmp .ge 100, 163, 0, 0), (66, 68, .iload 6, 6, 0, 0), (68, 70, .iload 4, 4, 0, 0), (70, 73, .if_icmp .ge 93, 163, 0, 0), (73, 75, .iload 7, 7, 0, 0), (75, 77, .iload 9, 9, 0, 0), (77, 78, .iadd, 0, 0, 0), (78, 80, .iload 5, 5, 0, 0), (80, 83, .if_icmp .gt 83, 163, 0, 0), (83, 84, .aload_n 0, 0, 0, 0), (84, 85, .aload_n 2, 2, 0, 0), (85, 86, .iload_n 3, 3, 0, 0), (86, 88, .iload 6, 6, 0, 0), (88, 89, .iadd, 0, 0, 0), (89, 90, .iaload, 0, 0, 0), (90, 91, .aload_n 0, 0, 0, 0), (91, 94, .getfield 38, 9, 47, 14), (94, 95, .iload_n 1, 1, 0, 0), (95, 96, .iaload, 0, 0, 0), (96, 98, .iload 7, 7, 0, 0), (98, 99, .iadd, 0, 0, 0), (99, 101, .iload 9, 9, 0, 0), (101, 104, .invokevirtual 204, 132, 3, 37), (104, 106, .istore 10, 10, 0, 0), (106, 107, .aload_n 0, 0, 0, 0), (107, 110, .getfield 86, 9, 62, 34), (110, 112, .bipush 15, 0, 0, 15), (112, 114, .iload 6, 6, 0, 0), (114, 115, .iconst 1, 0, 0, 1)]
theorem zmk_133_0 : ∀ x ∈ zc_133_0, zchk 133 x = true := List.all_eq_true.mp (by decide +kernel)
def zc_133_1 : List zE := [(115, 116, .iadd, 0, 0, 0), (116, 117, .imul, 0, 0, 0), (117, 119, .iload 7, 7, 0, 0), (119, 120, .iadd, 0, 0, 0), (120, 122, .iload 9, 9, 0, 0), (122, 123, .iadd, 0, 0, 0), (123, 124, .iaload, 0, 0, 0), (124, 126, .istore 11, 11, 0, 0), (126, 128, .iload 10, 10, 0, 0), (128, 130, .ldc 203, 0, 0, 1000000000), (130, 133, .if_icmp .ge 27, 157, 0, 0), (133, 135, .iload 11, 11, 0, 0), (135, 137, .ldc 203, 0, 0, 1000000000), (137, 140, .if_icmp .ge 20, 157, 0, 0), (140, 142, .iload 10, 10, 0, 0), (142, 144, .iload 11, 11, 0, 0), (144, 145, .iadd, 0, 0, 0), (145, 147, .iload 8, 8, 0, 0), (147, 150, .if_icmp .ge 10, 157, 0, 0), (150, 152, .iload 10, 10, 0, 0), (152, 154, .iload 11, 11, 0, 0), (154, 155, .iadd, 0, 0, 0), (155, 157, .istore 8, 8, 0, 0), (157, 160, .iinc 9 1, 9, 0, 1), (160, 163, .goto (-100), 60, 0, 0), (163, 164, .aload_n 0, 0, 0, 0), (164, 167, .getfield 86, 9, 62, 34), (167, 169, .bipush 15, 0, 0, 15), (169, 171, .iload 6, 6, 0, 0), (171, 172, .imul, 0, 0, 0), (172, 174, .iload 7, 7, 0, 0), (174, 175, .iadd, 0, 0, 0), (175, 177, .iload 8, 8, 0, 0), (177, 178, .iastore, 0, 0, 0), (178, 181, .iinc 7 (-1), 7, 0, (-1)), (181, 184, .goto (-151), 30, 0, 0), (184, 187, .iinc 6 (-1), 6, 0, (-1)), (187, 190, .goto (-166), 21, 0, 0), (190, 191, .aload_n 0, 0, 0, 0), (191, 194, .getfield 86, 9, 62, 34), (194, 195, .iconst 0, 0, 0, 0), (195, 196, .iaload, 0, 0, 0), (196, 197, .ireturn, 0, 0, 0)]
theorem zmk_133_1 : ∀ x ∈ zc_133_1, zchk 133 x = true := List.all_eq_true.mp (by decide +kernel)
def zc_133 : List zE := [(0, 1, .aload_n 0, 0, 0, 0), (1, 2, .iload_n 1, 1, 0, 0), (2, 5, .invokevirtual 158, 117, 1, 37), (5, 7, .istore 5, 5, 0, 0), (7, 9, .iload 5, 5, 0, 0), (9, 11, .bipush 14, 0, 0, 14), (11, 14, .if_icmp .le 6, 17, 0, 0), (14, 16, .ldc 203, 0, 0, 1000000000), (16, 17, .ireturn, 0, 0, 0), (17, 19, .iload 4, 4, 0, 0), (19, 21, .istore 6, 6, 0, 0), (21, 23, .iload 6, 6, 0, 0), (23, 26, .ifCond .lt 167, 190, 0, 0), (26, 28, .iload 5, 5, 0, 0), (28, 30, .istore 7, 7, 0, 0), (30, 32, .iload 7, 7, 0, 0), (32, 35, .ifCond .lt 152, 184, 0, 0), (35, 37, .iload 6, 6, 0, 0), (37, 39, .iload 4, 4, 0, 0), (39, 42, .if_icmp .ne 14, 53, 0, 0), (42, 44, .iload 7, 7, 0, 0), (44, 46, .iload 5, 5, 0, 0), (46, 49, .if_icmp .ne 7, 53, 0, 0), (49, 50, .iconst 0, 0, 0, 0), (50, 53, .goto 5, 55, 0, 0), (53, 55, .ldc 203, 0, 0, 1000000000), (55, 57, .istore 8, 8, 0, 0), (57, 58, .iconst 1, 0, 0, 1), (58, 60, .istore 9, 9, 0, 0), (60, 62, .iload 9, 9, 0, 0), (62, 63, .iconst 4, 0, 0, 4), (63, 66, .if_icmp .ge 100, 163, 0, 0), (66, 68, .iload 6, 6, 0, 0), (68, 70, .iload 4, 4, 0, 0), (70, 73, .if_icmp .ge 93, 163, 0, 0), (73, 75, .iload 7, 7, 0, 0), (75, 77, .iload 9, 9, 0, 0), (77, 78, .iadd, 0, 0, 0), (78, 80, .iload 5, 5, 0, 0), (80, 83, .if_icmp .gt 83, 163, 0, 0), (83, 84, .aload_n 0, 0, 0, 0), (84, 85, .aload_n 2, 2, 0, 0), (85, 86, .iload_n 3, 3, 0, 0), (86, 88, .iload 6, 6, 0, 0), (88, 89, .iadd, 0, 0, 0), (89, 90, .iaload, 0, 0, 0), (90, 91, .aload_n 0, 0, 0, 0), (91, 94, .getfield 38, 9, 47, 14), (94, 95, .iload_n 1, 1, 0, 0), (95, 96, .iaload, 0, 0, 0), (96, 98, .iload 7, 7, 0, 0), (98, 99, .iadd, 0, 0, 0), (99, 101, .iload 9, 9, 0, 0), (101, 104, .invokevirtual 204, 132, 3, 37), (104, 106, .istore 10, 10, 0, 0), (106, 107, .aload_n 0, 0, 0, 0), (107, 110, .getfield 86, 9, 62, 34), (110, 112, .bipush 15, 0, 0, 15), (112, 114, .iload 6, 6, 0, 0), (114, 115, .iconst 1, 0, 0, 1), (115, 116, .iadd, 0, 0, 0), (116, 117, .imul, 0, 0, 0), (117, 119, .iload 7, 7, 0, 0), (119, 120, .iadd, 0, 0, 0), (120, 122, .iload 9, 9, 0, 0), (122, 123, .iadd, 0, 0, 0), (123, 124, .iaload, 0, 0, 0), (124, 126, .istore 11, 11, 0, 0), (126, 128, .iload 10, 10, 0, 0), (128, 130, .ldc 203, 0, 0, 1000000000), (130, 133, .if_icmp .ge 27, 157, 0, 0), (133, 135, .iload 11, 11, 0, 0), (135, 137, .ldc 203, 0, 0, 1000000000), (137, 140, .if_icmp .ge 20, 157, 0, 0), (140, 142, .iload 10, 10, 0, 0), (142, 144, .iload 11, 11, 0, 0), (144, 145, .iadd, 0, 0, 0), (145, 147, .iload 8, 8, 0, 0), (147, 150, .if_icmp .ge 10, 157, 0, 0), (150, 152, .iload 10, 10, 0, 0), (152, 154, .iload 11, 11, 0, 0), (154, 155, .iadd, 0, 0, 0), (155, 157, .istore 8, 8, 0, 0), (157, 160, .iinc 9 1, 9, 0, 1), (160, 163, .goto (-100), 60, 0, 0), (163, 164, .aload_n 0, 0, 0, 0), (164, 167, .getfield 86, 9, 62, 34), (167, 169, .bipush 15, 0, 0, 15), (169, 171, .iload 6, 6, 0, 0), (171, 172, .imul, 0, 0, 0), (172, 174, .iload 7, 7, 0, 0), (174, 175, .iadd, 0, 0, 0), (175, 177, .iload 8, 8, 0, 0), (177, 178, .iastore, 0, 0, 0), (178, 181, .iinc 7 (-1), 7, 0, (-1)), (181, 184, .goto (-151), 30, 0, 0), (184, 187, .iinc 6 (-1), 6, 0, (-1)), (187, 190, .goto (-166), 21, 0, 0), (190, 191, .aload_n 0, 0, 0, 0), (191, 194, .getfield 86, 9, 62, 34), (194, 195, .iconst 0, 0, 0, 0), (195, 196, .iaload, 0, 0, 0), (196, 197, .ireturn, 0, 0, 0)]
set_option maxRecDepth 100000 in
theorem zmk_133 : zMok 133 zc_133 := ⟨by
  show ∀ x ∈ zc_133_0 ++ (zc_133_1), zchk 133 x = true
  exact List.forall_mem_append.mpr ⟨zmk_133_0, zmk_133_1⟩, by decide +kernel⟩
/-- PenLinesModel.listed -/
def zc_134_0 : List zE := [(0, 1, .aload_n 0, 0, 0, 0), (1, 2, .iload_n 1, 1, 0, 0), (2, 5, .invokevirtual 155, 116, 1, 37), (5, 8, .ifCond .eq 13, 18, 0, 0), (8, 9, .iload_n 3, 3, 0, 0), (9, 10, .i2l, 0, 0, 0), (10, 11, .lconst 0, 0, 0, 0), (11, 12, .lconst 1, 0, 0, 1), (12, 15, .invokestatic 107, 103, 3, 1), (15, 18, .ifCond .ne 6, 21, 0, 0), (18, 20, .ldc 117, 0, 0, (-1000001)), (20, 21, .ireturn, 0, 0, 0), (21, 22, .iconst 0, 0, 0, 0), (22, 24, .istore 4, 4, 0, 0), (24, 26, .iload 4, 4, 0, 0), (26, 27, .aload_n 0, 0, 0, 0), (27, 30, .getfield 194, 9, 0, 22), (30, 33, .if_icmp .ge 132, 162, 0, 0), (33, 34, .aload_n 0, 0, 0, 0), (34, 35, .iload_n 1, 1, 0, 0), (35, 36, .aload_n 0, 0, 0, 0), (36, 39, .getfield 60, 9, 54, 24), (39, 41, .bipush 12, 0, 0, 12), (41, 43, .iload 4, 4, 0, 0), (43, 44, .imul, 0, 0, 0), (44, 45, .aload_n 0, 0, 0, 0), (45, 48, .getfield 57, 9, 53, 23), (48, 50, .iload 4, 4, 0, 0), (50, 51, .iaload, 0, 0, 0), (51, 54, .invokevirtual 208, 133, 4, 37), (54, 56, .istore 5, 5, 0, 0), (56, 58, .iload 5, 5, 0, 0), (58, 60, .ldc 203, 0, 0, 1000000000), (60, 63, .if_icmp .ge 96, 156, 0, 0), (63, 64, .iconst 0, 0, 0, 0), (64, 66, .istore 6, 6, 0, 0), (66, 67, .iconst 0, 0, 0, 0), (67, 69, .istore 7, 7, 0, 0), (69, 71, .iload 7, 7, 0, 0), (71, 72, .aload_n 0, 0, 0, 0), (72, 75, .getfield 194, 9, 0, 22), (75, 78, .if_icmp .ge 63, 138, 0, 0), (78, 79, .aload_n 0, 0, 0, 0), (79, 80, .iload_n 1, 1, 0, 0), (80, 81, .aload_n 0, 0, 0, 0), (81, 84, .getfield 60, 9, 54, 24), (84, 86, .bipush 12, 0, 0, 12), (86, 88, .iload 7, 7, 0, 0), (88, 89, .imul, 0, 0, 0), (89, 90, .aload_n 0, 0, 0, 0), (90, 93, .getfield 57, 9, 53, 23), (93, 95, .iload 7, 7, 0, 0), (95, 96, .iaload, 0, 0, 0), (96, 99, .invokevirtual 208, 133, 4, 37), (99, 101, .istore 8, 8, 0, 0), (101, 103, .iload 6, 6, 0, 0), (103, 105, .iload 8, 8, 0, 0), (105, 107, .iload 5, 5, 0, 0), (107, 110, .if_icmp .lt 17, 124, 0, 0), (110, 112, .iload 8, 8, 0, 0)]
theorem zmk_134_0 : ∀ x ∈ zc_134_0, zchk 134 x = true := List.all_eq_true.mp (by decide +kernel)
def zc_134_1 : List zE := [(112, 114, .iload 5, 5, 0, 0), (114, 117, .if_icmp .ne 14, 128, 0, 0), (117, 119, .iload 7, 7, 0, 0), (119, 121, .iload 4, 4, 0, 0), (121, 124, .if_icmp .ge 7, 128, 0, 0), (124, 125, .iconst 1, 0, 0, 1), (125, 128, .goto 4, 129, 0, 0), (128, 129, .iconst 0, 0, 0, 0), (129, 130, .iadd, 0, 0, 0), (130, 132, .istore 6, 6, 0, 0), (132, 135, .iinc 7 1, 7, 0, 1), (135, 138, .goto (-66), 69, 0, 0), (138, 140, .iload 6, 6, 0, 0), (140, 141, .iload_n 2, 2, 0, 0), (141, 144, .if_icmp .ne 15, 156, 0, 0), (144, 145, .iload_n 3, 3, 0, 0), (145, 148, .ifCond .ne 8, 153, 0, 0), (148, 150, .iload 4, 4, 0, 0), (150, 153, .goto 5, 155, 0, 0), (153, 155, .iload 5, 5, 0, 0), (155, 156, .ireturn, 0, 0, 0), (156, 159, .iinc 4 1, 4, 0, 1), (159, 162, .goto (-135), 24, 0, 0), (162, 164, .ldc 197, 0, 0, (-1000000)), (164, 165, .ireturn, 0, 0, 0)]
theorem zmk_134_1 : ∀ x ∈ zc_134_1, zchk 134 x = true := List.all_eq_true.mp (by decide +kernel)
def zc_134 : List zE := [(0, 1, .aload_n 0, 0, 0, 0), (1, 2, .iload_n 1, 1, 0, 0), (2, 5, .invokevirtual 155, 116, 1, 37), (5, 8, .ifCond .eq 13, 18, 0, 0), (8, 9, .iload_n 3, 3, 0, 0), (9, 10, .i2l, 0, 0, 0), (10, 11, .lconst 0, 0, 0, 0), (11, 12, .lconst 1, 0, 0, 1), (12, 15, .invokestatic 107, 103, 3, 1), (15, 18, .ifCond .ne 6, 21, 0, 0), (18, 20, .ldc 117, 0, 0, (-1000001)), (20, 21, .ireturn, 0, 0, 0), (21, 22, .iconst 0, 0, 0, 0), (22, 24, .istore 4, 4, 0, 0), (24, 26, .iload 4, 4, 0, 0), (26, 27, .aload_n 0, 0, 0, 0), (27, 30, .getfield 194, 9, 0, 22), (30, 33, .if_icmp .ge 132, 162, 0, 0), (33, 34, .aload_n 0, 0, 0, 0), (34, 35, .iload_n 1, 1, 0, 0), (35, 36, .aload_n 0, 0, 0, 0), (36, 39, .getfield 60, 9, 54, 24), (39, 41, .bipush 12, 0, 0, 12), (41, 43, .iload 4, 4, 0, 0), (43, 44, .imul, 0, 0, 0), (44, 45, .aload_n 0, 0, 0, 0), (45, 48, .getfield 57, 9, 53, 23), (48, 50, .iload 4, 4, 0, 0), (50, 51, .iaload, 0, 0, 0), (51, 54, .invokevirtual 208, 133, 4, 37), (54, 56, .istore 5, 5, 0, 0), (56, 58, .iload 5, 5, 0, 0), (58, 60, .ldc 203, 0, 0, 1000000000), (60, 63, .if_icmp .ge 96, 156, 0, 0), (63, 64, .iconst 0, 0, 0, 0), (64, 66, .istore 6, 6, 0, 0), (66, 67, .iconst 0, 0, 0, 0), (67, 69, .istore 7, 7, 0, 0), (69, 71, .iload 7, 7, 0, 0), (71, 72, .aload_n 0, 0, 0, 0), (72, 75, .getfield 194, 9, 0, 22), (75, 78, .if_icmp .ge 63, 138, 0, 0), (78, 79, .aload_n 0, 0, 0, 0), (79, 80, .iload_n 1, 1, 0, 0), (80, 81, .aload_n 0, 0, 0, 0), (81, 84, .getfield 60, 9, 54, 24), (84, 86, .bipush 12, 0, 0, 12), (86, 88, .iload 7, 7, 0, 0), (88, 89, .imul, 0, 0, 0), (89, 90, .aload_n 0, 0, 0, 0), (90, 93, .getfield 57, 9, 53, 23), (93, 95, .iload 7, 7, 0, 0), (95, 96, .iaload, 0, 0, 0), (96, 99, .invokevirtual 208, 133, 4, 37), (99, 101, .istore 8, 8, 0, 0), (101, 103, .iload 6, 6, 0, 0), (103, 105, .iload 8, 8, 0, 0), (105, 107, .iload 5, 5, 0, 0), (107, 110, .if_icmp .lt 17, 124, 0, 0), (110, 112, .iload 8, 8, 0, 0), (112, 114, .iload 5, 5, 0, 0), (114, 117, .if_icmp .ne 14, 128, 0, 0), (117, 119, .iload 7, 7, 0, 0), (119, 121, .iload 4, 4, 0, 0), (121, 124, .if_icmp .ge 7, 128, 0, 0), (124, 125, .iconst 1, 0, 0, 1), (125, 128, .goto 4, 129, 0, 0), (128, 129, .iconst 0, 0, 0, 0), (129, 130, .iadd, 0, 0, 0), (130, 132, .istore 6, 6, 0, 0), (132, 135, .iinc 7 1, 7, 0, 1), (135, 138, .goto (-66), 69, 0, 0), (138, 140, .iload 6, 6, 0, 0), (140, 141, .iload_n 2, 2, 0, 0), (141, 144, .if_icmp .ne 15, 156, 0, 0), (144, 145, .iload_n 3, 3, 0, 0), (145, 148, .ifCond .ne 8, 153, 0, 0), (148, 150, .iload 4, 4, 0, 0), (150, 153, .goto 5, 155, 0, 0), (153, 155, .iload 5, 5, 0, 0), (155, 156, .ireturn, 0, 0, 0), (156, 159, .iinc 4 1, 4, 0, 1), (159, 162, .goto (-135), 24, 0, 0), (162, 164, .ldc 197, 0, 0, (-1000000)), (164, 165, .ireturn, 0, 0, 0)]
set_option maxRecDepth 100000 in
theorem zmk_134 : zMok 134 zc_134 := ⟨by
  show ∀ x ∈ zc_134_0 ++ (zc_134_1), zchk 134 x = true
  exact List.forall_mem_append.mpr ⟨zmk_134_0, zmk_134_1⟩, by decide +kernel⟩
/-- PenLinesModel.hold -/
def zc_135_0 : List zE := [(0, 1, .iconst 5, 0, 0, 5), (1, 2, .iload_n 1, 1, 0, 0), (2, 3, .imul, 0, 0, 0), (3, 5, .istore 5, 5, 0, 0), (5, 6, .aload_n 0, 0, 0, 0), (6, 9, .getfield 89, 9, 63, 35), (9, 10, .iload_n 1, 1, 0, 0), (10, 11, .iaload, 0, 0, 0), (11, 13, .istore 6, 6, 0, 0), (13, 14, .iconst 0, 0, 0, 0), (14, 16, .istore 7, 7, 0, 0), (16, 18, .iload 7, 7, 0, 0), (18, 20, .iload 6, 6, 0, 0), (20, 23, .if_icmp .ge 105, 125, 0, 0), (23, 24, .aload_n 0, 0, 0, 0), (24, 27, .getfield 95, 9, 65, 37), (27, 29, .iload 5, 5, 0, 0), (29, 31, .iload 7, 7, 0, 0), (31, 32, .iadd, 0, 0, 0), (32, 33, .laload, 0, 0, 0), (33, 34, .lload_n 3, 3, 0, 0), (34, 35, .lcmp, 0, 0, 0), (35, 38, .ifCond .ne 84, 119, 0, 0), (38, 39, .aload_n 0, 0, 0, 0), (39, 42, .getfield 92, 9, 64, 36), (42, 44, .iload 5, 5, 0, 0), (44, 46, .iload 7, 7, 0, 0), (46, 47, .iadd, 0, 0, 0), (47, 48, .iaload, 0, 0, 0), (48, 49, .iload_n 2, 2, 0, 0), (49, 52, .if_icmp .gt 4, 53, 0, 0), (52, 53, .return_, 0, 0, 0), (53, 55, .iload 7, 7, 0, 0), (55, 57, .istore 8, 8, 0, 0), (57, 59, .iload 8, 8, 0, 0), (59, 60, .iconst 1, 0, 0, 1), (60, 61, .iadd, 0, 0, 0), (61, 63, .iload 6, 6, 0, 0), (63, 66, .if_icmp .ge 53, 116, 0, 0), (66, 67, .aload_n 0, 0, 0, 0), (67, 70, .getfield 92, 9, 64, 36), (70, 72, .iload 5, 5, 0, 0), (72, 74, .iload 8, 8, 0, 0), (74, 75, .iadd, 0, 0, 0), (75, 76, .aload_n 0, 0, 0, 0), (76, 79, .getfield 92, 9, 64, 36), (79, 81, .iload 5, 5, 0, 0), (81, 83, .iload 8, 8, 0, 0), (83, 84, .iadd, 0, 0, 0), (84, 85, .iconst 1, 0, 0, 1), (85, 86, .iadd, 0, 0, 0), (86, 87, .iaload, 0, 0, 0), (87, 88, .iastore, 0, 0, 0), (88, 89, .aload_n 0, 0, 0, 0), (89, 92, .getfield 95, 9, 65, 37), (92, 94, .iload 5, 5, 0, 0), (94, 96, .iload 8, 8, 0, 0), (96, 97, .iadd, 0, 0, 0), (97, 98, .aload_n 0, 0, 0, 0), (98, 101, .getfield 95, 9, 65, 37)]
theorem zmk_135_0 : ∀ x ∈ zc_135_0, zchk 135 x = true := List.all_eq_true.mp (by decide +kernel)
def zc_135_1 : List zE := [(101, 103, .iload 5, 5, 0, 0), (103, 105, .iload 8, 8, 0, 0), (105, 106, .iadd, 0, 0, 0), (106, 107, .iconst 1, 0, 0, 1), (107, 108, .iadd, 0, 0, 0), (108, 109, .laload, 0, 0, 0), (109, 110, .lastore, 0, 0, 0), (110, 113, .iinc 8 1, 8, 0, 1), (113, 116, .goto (-56), 57, 0, 0), (116, 119, .iinc 6 (-1), 6, 0, (-1)), (119, 122, .iinc 7 1, 7, 0, 1), (122, 125, .goto (-106), 16, 0, 0), (125, 127, .iload 6, 6, 0, 0), (127, 129, .istore 7, 7, 0, 0), (129, 131, .iload 7, 7, 0, 0), (131, 134, .ifCond .le 108, 239, 0, 0), (134, 135, .aload_n 0, 0, 0, 0), (135, 138, .getfield 92, 9, 64, 36), (138, 140, .iload 5, 5, 0, 0), (140, 142, .iload 7, 7, 0, 0), (142, 143, .iadd, 0, 0, 0), (143, 144, .iconst 1, 0, 0, 1), (144, 145, .isub, 0, 0, 0), (145, 146, .iaload, 0, 0, 0), (146, 147, .iload_n 2, 2, 0, 0), (147, 150, .if_icmp .gt 36, 183, 0, 0), (150, 151, .aload_n 0, 0, 0, 0), (151, 154, .getfield 92, 9, 64, 36), (154, 156, .iload 5, 5, 0, 0), (156, 158, .iload 7, 7, 0, 0), (158, 159, .iadd, 0, 0, 0), (159, 160, .iconst 1, 0, 0, 1), (160, 161, .isub, 0, 0, 0), (161, 162, .iaload, 0, 0, 0), (162, 163, .iload_n 2, 2, 0, 0), (163, 166, .if_icmp .ne 76, 239, 0, 0), (166, 167, .aload_n 0, 0, 0, 0), (167, 170, .getfield 95, 9, 65, 37), (170, 172, .iload 5, 5, 0, 0), (172, 174, .iload 7, 7, 0, 0), (174, 175, .iadd, 0, 0, 0), (175, 176, .iconst 1, 0, 0, 1), (176, 177, .isub, 0, 0, 0), (177, 178, .laload, 0, 0, 0), (178, 179, .lload_n 3, 3, 0, 0), (179, 180, .lcmp, 0, 0, 0), (180, 183, .ifCond .le 59, 239, 0, 0), (183, 185, .iload 7, 7, 0, 0), (185, 186, .iconst 5, 0, 0, 5), (186, 189, .if_icmp .ge 47, 233, 0, 0), (189, 190, .aload_n 0, 0, 0, 0), (190, 193, .getfield 92, 9, 64, 36), (193, 195, .iload 5, 5, 0, 0), (195, 197, .iload 7, 7, 0, 0), (197, 198, .iadd, 0, 0, 0), (198, 199, .aload_n 0, 0, 0, 0), (199, 202, .getfield 92, 9, 64, 36), (202, 204, .iload 5, 5, 0, 0), (204, 206, .iload 7, 7, 0, 0), (206, 207, .iadd, 0, 0, 0)]
theorem zmk_135_1 : ∀ x ∈ zc_135_1, zchk 135 x = true := List.all_eq_true.mp (by decide +kernel)
def zc_135_2 : List zE := [(207, 208, .iconst 1, 0, 0, 1), (208, 209, .isub, 0, 0, 0), (209, 210, .iaload, 0, 0, 0), (210, 211, .iastore, 0, 0, 0), (211, 212, .aload_n 0, 0, 0, 0), (212, 215, .getfield 95, 9, 65, 37), (215, 217, .iload 5, 5, 0, 0), (217, 219, .iload 7, 7, 0, 0), (219, 220, .iadd, 0, 0, 0), (220, 221, .aload_n 0, 0, 0, 0), (221, 224, .getfield 95, 9, 65, 37), (224, 226, .iload 5, 5, 0, 0), (226, 228, .iload 7, 7, 0, 0), (228, 229, .iadd, 0, 0, 0), (229, 230, .iconst 1, 0, 0, 1), (230, 231, .isub, 0, 0, 0), (231, 232, .laload, 0, 0, 0), (232, 233, .lastore, 0, 0, 0), (233, 236, .iinc 7 (-1), 7, 0, (-1)), (236, 239, .goto (-107), 129, 0, 0), (239, 241, .iload 7, 7, 0, 0), (241, 242, .iconst 5, 0, 0, 5), (242, 245, .if_icmp .ge 41, 283, 0, 0), (245, 246, .aload_n 0, 0, 0, 0), (246, 249, .getfield 92, 9, 64, 36), (249, 251, .iload 5, 5, 0, 0), (251, 253, .iload 7, 7, 0, 0), (253, 254, .iadd, 0, 0, 0), (254, 255, .iload_n 2, 2, 0, 0), (255, 256, .iastore, 0, 0, 0), (256, 257, .aload_n 0, 0, 0, 0), (257, 260, .getfield 95, 9, 65, 37), (260, 262, .iload 5, 5, 0, 0), (262, 264, .iload 7, 7, 0, 0), (264, 265, .iadd, 0, 0, 0), (265, 266, .lload_n 3, 3, 0, 0), (266, 267, .lastore, 0, 0, 0), (267, 269, .iload 6, 6, 0, 0), (269, 270, .iconst 5, 0, 0, 5), (270, 273, .if_icmp .ge 10, 280, 0, 0), (273, 275, .iload 6, 6, 0, 0), (275, 276, .iconst 1, 0, 0, 1), (276, 277, .iadd, 0, 0, 0), (277, 280, .goto 4, 281, 0, 0), (280, 281, .iconst 5, 0, 0, 5), (281, 283, .istore 6, 6, 0, 0), (283, 284, .aload_n 0, 0, 0, 0), (284, 287, .getfield 89, 9, 63, 35), (287, 288, .iload_n 1, 1, 0, 0), (288, 290, .iload 6, 6, 0, 0), (290, 291, .iastore, 0, 0, 0), (291, 292, .return_, 0, 0, 0)]
theorem zmk_135_2 : ∀ x ∈ zc_135_2, zchk 135 x = true := List.all_eq_true.mp (by decide +kernel)
def zc_135 : List zE := [(0, 1, .iconst 5, 0, 0, 5), (1, 2, .iload_n 1, 1, 0, 0), (2, 3, .imul, 0, 0, 0), (3, 5, .istore 5, 5, 0, 0), (5, 6, .aload_n 0, 0, 0, 0), (6, 9, .getfield 89, 9, 63, 35), (9, 10, .iload_n 1, 1, 0, 0), (10, 11, .iaload, 0, 0, 0), (11, 13, .istore 6, 6, 0, 0), (13, 14, .iconst 0, 0, 0, 0), (14, 16, .istore 7, 7, 0, 0), (16, 18, .iload 7, 7, 0, 0), (18, 20, .iload 6, 6, 0, 0), (20, 23, .if_icmp .ge 105, 125, 0, 0), (23, 24, .aload_n 0, 0, 0, 0), (24, 27, .getfield 95, 9, 65, 37), (27, 29, .iload 5, 5, 0, 0), (29, 31, .iload 7, 7, 0, 0), (31, 32, .iadd, 0, 0, 0), (32, 33, .laload, 0, 0, 0), (33, 34, .lload_n 3, 3, 0, 0), (34, 35, .lcmp, 0, 0, 0), (35, 38, .ifCond .ne 84, 119, 0, 0), (38, 39, .aload_n 0, 0, 0, 0), (39, 42, .getfield 92, 9, 64, 36), (42, 44, .iload 5, 5, 0, 0), (44, 46, .iload 7, 7, 0, 0), (46, 47, .iadd, 0, 0, 0), (47, 48, .iaload, 0, 0, 0), (48, 49, .iload_n 2, 2, 0, 0), (49, 52, .if_icmp .gt 4, 53, 0, 0), (52, 53, .return_, 0, 0, 0), (53, 55, .iload 7, 7, 0, 0), (55, 57, .istore 8, 8, 0, 0), (57, 59, .iload 8, 8, 0, 0), (59, 60, .iconst 1, 0, 0, 1), (60, 61, .iadd, 0, 0, 0), (61, 63, .iload 6, 6, 0, 0), (63, 66, .if_icmp .ge 53, 116, 0, 0), (66, 67, .aload_n 0, 0, 0, 0), (67, 70, .getfield 92, 9, 64, 36), (70, 72, .iload 5, 5, 0, 0), (72, 74, .iload 8, 8, 0, 0), (74, 75, .iadd, 0, 0, 0), (75, 76, .aload_n 0, 0, 0, 0), (76, 79, .getfield 92, 9, 64, 36), (79, 81, .iload 5, 5, 0, 0), (81, 83, .iload 8, 8, 0, 0), (83, 84, .iadd, 0, 0, 0), (84, 85, .iconst 1, 0, 0, 1), (85, 86, .iadd, 0, 0, 0), (86, 87, .iaload, 0, 0, 0), (87, 88, .iastore, 0, 0, 0), (88, 89, .aload_n 0, 0, 0, 0), (89, 92, .getfield 95, 9, 65, 37), (92, 94, .iload 5, 5, 0, 0), (94, 96, .iload 8, 8, 0, 0), (96, 97, .iadd, 0, 0, 0), (97, 98, .aload_n 0, 0, 0, 0), (98, 101, .getfield 95, 9, 65, 37), (101, 103, .iload 5, 5, 0, 0), (103, 105, .iload 8, 8, 0, 0), (105, 106, .iadd, 0, 0, 0), (106, 107, .iconst 1, 0, 0, 1), (107, 108, .iadd, 0, 0, 0), (108, 109, .laload, 0, 0, 0), (109, 110, .lastore, 0, 0, 0), (110, 113, .iinc 8 1, 8, 0, 1), (113, 116, .goto (-56), 57, 0, 0), (116, 119, .iinc 6 (-1), 6, 0, (-1)), (119, 122, .iinc 7 1, 7, 0, 1), (122, 125, .goto (-106), 16, 0, 0), (125, 127, .iload 6, 6, 0, 0), (127, 129, .istore 7, 7, 0, 0), (129, 131, .iload 7, 7, 0, 0), (131, 134, .ifCond .le 108, 239, 0, 0), (134, 135, .aload_n 0, 0, 0, 0), (135, 138, .getfield 92, 9, 64, 36), (138, 140, .iload 5, 5, 0, 0), (140, 142, .iload 7, 7, 0, 0), (142, 143, .iadd, 0, 0, 0), (143, 144, .iconst 1, 0, 0, 1), (144, 145, .isub, 0, 0, 0), (145, 146, .iaload, 0, 0, 0), (146, 147, .iload_n 2, 2, 0, 0), (147, 150, .if_icmp .gt 36, 183, 0, 0), (150, 151, .aload_n 0, 0, 0, 0), (151, 154, .getfield 92, 9, 64, 36), (154, 156, .iload 5, 5, 0, 0), (156, 158, .iload 7, 7, 0, 0), (158, 159, .iadd, 0, 0, 0), (159, 160, .iconst 1, 0, 0, 1), (160, 161, .isub, 0, 0, 0), (161, 162, .iaload, 0, 0, 0), (162, 163, .iload_n 2, 2, 0, 0), (163, 166, .if_icmp .ne 76, 239, 0, 0), (166, 167, .aload_n 0, 0, 0, 0), (167, 170, .getfield 95, 9, 65, 37), (170, 172, .iload 5, 5, 0, 0), (172, 174, .iload 7, 7, 0, 0), (174, 175, .iadd, 0, 0, 0), (175, 176, .iconst 1, 0, 0, 1), (176, 177, .isub, 0, 0, 0), (177, 178, .laload, 0, 0, 0), (178, 179, .lload_n 3, 3, 0, 0), (179, 180, .lcmp, 0, 0, 0), (180, 183, .ifCond .le 59, 239, 0, 0), (183, 185, .iload 7, 7, 0, 0), (185, 186, .iconst 5, 0, 0, 5), (186, 189, .if_icmp .ge 47, 233, 0, 0), (189, 190, .aload_n 0, 0, 0, 0), (190, 193, .getfield 92, 9, 64, 36), (193, 195, .iload 5, 5, 0, 0), (195, 197, .iload 7, 7, 0, 0), (197, 198, .iadd, 0, 0, 0), (198, 199, .aload_n 0, 0, 0, 0), (199, 202, .getfield 92, 9, 64, 36), (202, 204, .iload 5, 5, 0, 0), (204, 206, .iload 7, 7, 0, 0), (206, 207, .iadd, 0, 0, 0), (207, 208, .iconst 1, 0, 0, 1), (208, 209, .isub, 0, 0, 0), (209, 210, .iaload, 0, 0, 0), (210, 211, .iastore, 0, 0, 0), (211, 212, .aload_n 0, 0, 0, 0), (212, 215, .getfield 95, 9, 65, 37), (215, 217, .iload 5, 5, 0, 0), (217, 219, .iload 7, 7, 0, 0), (219, 220, .iadd, 0, 0, 0), (220, 221, .aload_n 0, 0, 0, 0), (221, 224, .getfield 95, 9, 65, 37), (224, 226, .iload 5, 5, 0, 0), (226, 228, .iload 7, 7, 0, 0), (228, 229, .iadd, 0, 0, 0), (229, 230, .iconst 1, 0, 0, 1), (230, 231, .isub, 0, 0, 0), (231, 232, .laload, 0, 0, 0), (232, 233, .lastore, 0, 0, 0), (233, 236, .iinc 7 (-1), 7, 0, (-1)), (236, 239, .goto (-107), 129, 0, 0), (239, 241, .iload 7, 7, 0, 0), (241, 242, .iconst 5, 0, 0, 5), (242, 245, .if_icmp .ge 41, 283, 0, 0), (245, 246, .aload_n 0, 0, 0, 0), (246, 249, .getfield 92, 9, 64, 36), (249, 251, .iload 5, 5, 0, 0), (251, 253, .iload 7, 7, 0, 0), (253, 254, .iadd, 0, 0, 0), (254, 255, .iload_n 2, 2, 0, 0), (255, 256, .iastore, 0, 0, 0), (256, 257, .aload_n 0, 0, 0, 0), (257, 260, .getfield 95, 9, 65, 37), (260, 262, .iload 5, 5, 0, 0), (262, 264, .iload 7, 7, 0, 0), (264, 265, .iadd, 0, 0, 0), (265, 266, .lload_n 3, 3, 0, 0), (266, 267, .lastore, 0, 0, 0), (267, 269, .iload 6, 6, 0, 0), (269, 270, .iconst 5, 0, 0, 5), (270, 273, .if_icmp .ge 10, 280, 0, 0), (273, 275, .iload 6, 6, 0, 0), (275, 276, .iconst 1, 0, 0, 1), (276, 277, .iadd, 0, 0, 0), (277, 280, .goto 4, 281, 0, 0), (280, 281, .iconst 5, 0, 0, 5), (281, 283, .istore 6, 6, 0, 0), (283, 284, .aload_n 0, 0, 0, 0), (284, 287, .getfield 89, 9, 63, 35), (287, 288, .iload_n 1, 1, 0, 0), (288, 290, .iload 6, 6, 0, 0), (290, 291, .iastore, 0, 0, 0), (291, 292, .return_, 0, 0, 0)]
set_option maxRecDepth 100000 in
theorem zmk_135 : zMok 135 zc_135 := ⟨by
  show ∀ x ∈ zc_135_0 ++ (zc_135_1 ++ (zc_135_2)), zchk 135 x = true
  exact List.forall_mem_append.mpr ⟨zmk_135_0, List.forall_mem_append.mpr ⟨zmk_135_1, zmk_135_2⟩⟩, by decide +kernel⟩
/-- PenLinesModel.state -/
def zc_136 : List zE := [(0, 3, .sipush 338, 0, 0, 338), (3, 4, .iload_n 0, 0, 0, 0), (4, 5, .imul, 0, 0, 0), (5, 7, .bipush 13, 0, 0, 13), (7, 8, .iload_n 1, 1, 0, 0), (8, 9, .imul, 0, 0, 0), (9, 10, .iadd, 0, 0, 0), (10, 11, .iload_n 2, 2, 0, 0), (11, 12, .iadd, 0, 0, 0), (12, 13, .ireturn, 0, 0, 0)]
theorem zmk_136 : zMok 136 zc_136 := ⟨List.all_eq_true.mp (by decide +kernel), by decide +kernel⟩
/-- PenLinesModel.goOn -/
def zc_137_0 : List zE := [(0, 1, .aload_n 0, 0, 0, 0), (1, 3, .iload 4, 4, 0, 0), (3, 4, .aload_n 0, 0, 0, 0), (4, 7, .getfield 38, 9, 47, 14), (7, 8, .iload_n 1, 1, 0, 0), (8, 9, .iaload, 0, 0, 0), (9, 10, .iload_n 2, 2, 0, 0), (10, 11, .iadd, 0, 0, 0), (11, 12, .iload_n 3, 3, 0, 0), (12, 13, .isub, 0, 0, 0), (13, 14, .iload_n 3, 3, 0, 0), (14, 17, .invokevirtual 204, 132, 3, 37), (17, 19, .istore 5, 5, 0, 0), (19, 21, .iload 5, 5, 0, 0), (21, 23, .ldc 203, 0, 0, 1000000000), (23, 26, .if_icmp .lt 4, 27, 0, 0), (26, 27, .return_, 0, 0, 0), (27, 28, .iload_n 2, 2, 0, 0), (28, 29, .iload_n 3, 3, 0, 0), (29, 32, .if_icmp .ne 20, 49, 0, 0), (32, 33, .aload_n 0, 0, 0, 0), (33, 34, .iload_n 2, 2, 0, 0), (34, 36, .iload 4, 4, 0, 0), (36, 37, .iconst 1, 0, 0, 1), (37, 40, .invokestatic 212, 136, 3, 1), (40, 42, .iload 5, 5, 0, 0), (42, 44, .iload 4, 4, 0, 0), (44, 45, .i2l, 0, 0, 0), (45, 48, .invokevirtual 215, 135, 3, 36), (48, 49, .return_, 0, 0, 0), (49, 50, .iconst 0, 0, 0, 0), (50, 52, .istore 6, 6, 0, 0), (52, 54, .iload 6, 6, 0, 0), (54, 56, .bipush 26, 0, 0, 26), (56, 59, .if_icmp .ge 131, 187, 0, 0), (59, 61, .iload 5, 5, 0, 0), (61, 63, .bipush 6, 0, 0, 6), (63, 64, .iconst 1, 0, 0, 1), (64, 65, .aload_n 0, 0, 0, 0), (65, 68, .getfield 45, 9, 49, 16), (68, 70, .ldc 189, 0, 0, 48984), (70, 72, .bipush 26, 0, 0, 26), (72, 74, .iload 6, 6, 0, 0), (74, 75, .imul, 0, 0, 0), (75, 76, .iadd, 0, 0, 0), (76, 78, .iload 4, 4, 0, 0), (78, 79, .iadd, 0, 0, 0), (79, 80, .iaload, 0, 0, 0), (80, 81, .iadd, 0, 0, 0), (81, 82, .idiv, 0, 0, 0), (82, 83, .iadd, 0, 0, 0), (83, 85, .istore 7, 7, 0, 0), (85, 86, .iconst 1, 0, 0, 1), (86, 88, .istore 8, 8, 0, 0), (88, 90, .iload 8, 8, 0, 0), (90, 92, .bipush 12, 0, 0, 12), (92, 95, .if_icmp .ge 89, 181, 0, 0), (95, 96, .iload_n 2, 2, 0, 0), (96, 97, .iload_n 3, 3, 0, 0), (97, 98, .isub, 0, 0, 0)]
theorem zmk_137_0 : ∀ x ∈ zc_137_0, zchk 137 x = true := List.all_eq_true.mp (by decide +kernel)
def zc_137_1 : List zE := [(98, 100, .iload 6, 6, 0, 0), (100, 102, .iload 8, 8, 0, 0), (102, 105, .invokestatic 212, 136, 3, 1), (105, 107, .istore 9, 9, 0, 0), (107, 108, .iconst 0, 0, 0, 0), (108, 110, .istore 10, 10, 0, 0), (110, 112, .iload 10, 10, 0, 0), (112, 113, .aload_n 0, 0, 0, 0), (113, 116, .getfield 89, 9, 63, 35), (116, 118, .iload 9, 9, 0, 0), (118, 119, .iaload, 0, 0, 0), (119, 122, .if_icmp .ge 56, 175, 0, 0), (122, 123, .aload_n 0, 0, 0, 0), (123, 124, .iload_n 2, 2, 0, 0), (124, 126, .iload 4, 4, 0, 0), (126, 128, .iload 8, 8, 0, 0), (128, 129, .iconst 1, 0, 0, 1), (129, 130, .iadd, 0, 0, 0), (130, 133, .invokestatic 212, 136, 3, 1), (133, 134, .aload_n 0, 0, 0, 0), (134, 137, .getfield 92, 9, 64, 36), (137, 138, .iconst 5, 0, 0, 5), (138, 140, .iload 9, 9, 0, 0), (140, 141, .imul, 0, 0, 0), (141, 143, .iload 10, 10, 0, 0), (143, 144, .iadd, 0, 0, 0), (144, 145, .iaload, 0, 0, 0), (145, 147, .iload 7, 7, 0, 0), (147, 148, .iadd, 0, 0, 0), (148, 149, .aload_n 0, 0, 0, 0), (149, 152, .getfield 95, 9, 65, 37), (152, 153, .iconst 5, 0, 0, 5), (153, 155, .iload 9, 9, 0, 0), (155, 156, .imul, 0, 0, 0), (156, 158, .iload 10, 10, 0, 0), (158, 159, .iadd, 0, 0, 0), (159, 160, .laload, 0, 0, 0), (160, 161, .iconst 5, 0, 0, 5), (161, 162, .lshl, 0, 0, 0), (162, 164, .iload 4, 4, 0, 0), (164, 165, .i2l, 0, 0, 0), (165, 166, .lor, 0, 0, 0), (166, 169, .invokevirtual 215, 135, 3, 36), (169, 172, .iinc 10 1, 10, 0, 1), (172, 175, .goto (-62), 110, 0, 0), (175, 178, .iinc 8 1, 8, 0, 1), (178, 181, .goto (-90), 88, 0, 0), (181, 184, .iinc 6 1, 6, 0, 1), (184, 187, .goto (-132), 52, 0, 0), (187, 188, .return_, 0, 0, 0)]
theorem zmk_137_1 : ∀ x ∈ zc_137_1, zchk 137 x = true := List.all_eq_true.mp (by decide +kernel)
def zc_137 : List zE := [(0, 1, .aload_n 0, 0, 0, 0), (1, 3, .iload 4, 4, 0, 0), (3, 4, .aload_n 0, 0, 0, 0), (4, 7, .getfield 38, 9, 47, 14), (7, 8, .iload_n 1, 1, 0, 0), (8, 9, .iaload, 0, 0, 0), (9, 10, .iload_n 2, 2, 0, 0), (10, 11, .iadd, 0, 0, 0), (11, 12, .iload_n 3, 3, 0, 0), (12, 13, .isub, 0, 0, 0), (13, 14, .iload_n 3, 3, 0, 0), (14, 17, .invokevirtual 204, 132, 3, 37), (17, 19, .istore 5, 5, 0, 0), (19, 21, .iload 5, 5, 0, 0), (21, 23, .ldc 203, 0, 0, 1000000000), (23, 26, .if_icmp .lt 4, 27, 0, 0), (26, 27, .return_, 0, 0, 0), (27, 28, .iload_n 2, 2, 0, 0), (28, 29, .iload_n 3, 3, 0, 0), (29, 32, .if_icmp .ne 20, 49, 0, 0), (32, 33, .aload_n 0, 0, 0, 0), (33, 34, .iload_n 2, 2, 0, 0), (34, 36, .iload 4, 4, 0, 0), (36, 37, .iconst 1, 0, 0, 1), (37, 40, .invokestatic 212, 136, 3, 1), (40, 42, .iload 5, 5, 0, 0), (42, 44, .iload 4, 4, 0, 0), (44, 45, .i2l, 0, 0, 0), (45, 48, .invokevirtual 215, 135, 3, 36), (48, 49, .return_, 0, 0, 0), (49, 50, .iconst 0, 0, 0, 0), (50, 52, .istore 6, 6, 0, 0), (52, 54, .iload 6, 6, 0, 0), (54, 56, .bipush 26, 0, 0, 26), (56, 59, .if_icmp .ge 131, 187, 0, 0), (59, 61, .iload 5, 5, 0, 0), (61, 63, .bipush 6, 0, 0, 6), (63, 64, .iconst 1, 0, 0, 1), (64, 65, .aload_n 0, 0, 0, 0), (65, 68, .getfield 45, 9, 49, 16), (68, 70, .ldc 189, 0, 0, 48984), (70, 72, .bipush 26, 0, 0, 26), (72, 74, .iload 6, 6, 0, 0), (74, 75, .imul, 0, 0, 0), (75, 76, .iadd, 0, 0, 0), (76, 78, .iload 4, 4, 0, 0), (78, 79, .iadd, 0, 0, 0), (79, 80, .iaload, 0, 0, 0), (80, 81, .iadd, 0, 0, 0), (81, 82, .idiv, 0, 0, 0), (82, 83, .iadd, 0, 0, 0), (83, 85, .istore 7, 7, 0, 0), (85, 86, .iconst 1, 0, 0, 1), (86, 88, .istore 8, 8, 0, 0), (88, 90, .iload 8, 8, 0, 0), (90, 92, .bipush 12, 0, 0, 12), (92, 95, .if_icmp .ge 89, 181, 0, 0), (95, 96, .iload_n 2, 2, 0, 0), (96, 97, .iload_n 3, 3, 0, 0), (97, 98, .isub, 0, 0, 0), (98, 100, .iload 6, 6, 0, 0), (100, 102, .iload 8, 8, 0, 0), (102, 105, .invokestatic 212, 136, 3, 1), (105, 107, .istore 9, 9, 0, 0), (107, 108, .iconst 0, 0, 0, 0), (108, 110, .istore 10, 10, 0, 0), (110, 112, .iload 10, 10, 0, 0), (112, 113, .aload_n 0, 0, 0, 0), (113, 116, .getfield 89, 9, 63, 35), (116, 118, .iload 9, 9, 0, 0), (118, 119, .iaload, 0, 0, 0), (119, 122, .if_icmp .ge 56, 175, 0, 0), (122, 123, .aload_n 0, 0, 0, 0), (123, 124, .iload_n 2, 2, 0, 0), (124, 126, .iload 4, 4, 0, 0), (126, 128, .iload 8, 8, 0, 0), (128, 129, .iconst 1, 0, 0, 1), (129, 130, .iadd, 0, 0, 0), (130, 133, .invokestatic 212, 136, 3, 1), (133, 134, .aload_n 0, 0, 0, 0), (134, 137, .getfield 92, 9, 64, 36), (137, 138, .iconst 5, 0, 0, 5), (138, 140, .iload 9, 9, 0, 0), (140, 141, .imul, 0, 0, 0), (141, 143, .iload 10, 10, 0, 0), (143, 144, .iadd, 0, 0, 0), (144, 145, .iaload, 0, 0, 0), (145, 147, .iload 7, 7, 0, 0), (147, 148, .iadd, 0, 0, 0), (148, 149, .aload_n 0, 0, 0, 0), (149, 152, .getfield 95, 9, 65, 37), (152, 153, .iconst 5, 0, 0, 5), (153, 155, .iload 9, 9, 0, 0), (155, 156, .imul, 0, 0, 0), (156, 158, .iload 10, 10, 0, 0), (158, 159, .iadd, 0, 0, 0), (159, 160, .laload, 0, 0, 0), (160, 161, .iconst 5, 0, 0, 5), (161, 162, .lshl, 0, 0, 0), (162, 164, .iload 4, 4, 0, 0), (164, 165, .i2l, 0, 0, 0), (165, 166, .lor, 0, 0, 0), (166, 169, .invokevirtual 215, 135, 3, 36), (169, 172, .iinc 10 1, 10, 0, 1), (172, 175, .goto (-62), 110, 0, 0), (175, 178, .iinc 8 1, 8, 0, 1), (178, 181, .goto (-90), 88, 0, 0), (181, 184, .iinc 6 1, 6, 0, 1), (184, 187, .goto (-132), 52, 0, 0), (187, 188, .return_, 0, 0, 0)]
set_option maxRecDepth 100000 in
theorem zmk_137 : zMok 137 zc_137 := ⟨by
  show ∀ x ∈ zc_137_0 ++ (zc_137_1), zchk 137 x = true
  exact List.forall_mem_append.mpr ⟨zmk_137_0, zmk_137_1⟩, by decide +kernel⟩
/-- PenLinesModel.isAhead -/
def zc_138 : List zE := [(0, 1, .iconst 0, 0, 0, 0), (1, 3, .istore 6, 6, 0, 0), (3, 5, .iload 6, 6, 0, 0), (5, 6, .iload_n 2, 2, 0, 0), (6, 9, .if_icmp .ge 71, 77, 0, 0), (9, 11, .iload 6, 6, 0, 0), (11, 13, .iload 5, 5, 0, 0), (13, 16, .if_icmp .ge 64, 77, 0, 0), (16, 17, .lload_n 0, 0, 0, 0), (17, 18, .iconst 5, 0, 0, 5), (18, 19, .iload_n 2, 2, 0, 0), (19, 20, .iconst 1, 0, 0, 1), (20, 21, .isub, 0, 0, 0), (21, 23, .iload 6, 6, 0, 0), (23, 24, .isub, 0, 0, 0), (24, 25, .imul, 0, 0, 0), (25, 26, .lshr, 0, 0, 0), (26, 29, .ldc2_w 219, 0, 0, 31), (29, 30, .land, 0, 0, 0), (30, 32, .lstore 7, 7, 0, 0), (32, 33, .lload_n 3, 3, 0, 0), (33, 34, .iconst 5, 0, 0, 5), (34, 36, .iload 5, 5, 0, 0), (36, 37, .iconst 1, 0, 0, 1), (37, 38, .isub, 0, 0, 0), (38, 40, .iload 6, 6, 0, 0), (40, 41, .isub, 0, 0, 0), (41, 42, .imul, 0, 0, 0), (42, 43, .lshr, 0, 0, 0), (43, 46, .ldc2_w 219, 0, 0, 31), (46, 47, .land, 0, 0, 0), (47, 49, .lstore 9, 9, 0, 0), (49, 51, .lload 7, 7, 0, 0), (51, 53, .lload 9, 9, 0, 0), (53, 54, .lcmp, 0, 0, 0), (54, 57, .ifCond .eq 17, 71, 0, 0), (57, 59, .lload 7, 7, 0, 0), (59, 61, .lload 9, 9, 0, 0), (61, 62, .lcmp, 0, 0, 0), (62, 65, .ifCond .ge 7, 69, 0, 0), (65, 66, .iconst 1, 0, 0, 1), (66, 69, .goto 4, 70, 0, 0), (69, 70, .iconst 0, 0, 0, 0), (70, 71, .ireturn, 1, 0, 0), (71, 74, .iinc 6 1, 6, 0, 1), (74, 77, .goto (-71), 3, 0, 0), (77, 78, .iload_n 2, 2, 0, 0), (78, 80, .iload 5, 5, 0, 0), (80, 83, .if_icmp .ge 7, 87, 0, 0), (83, 84, .iconst 1, 0, 0, 1), (84, 87, .goto 4, 88, 0, 0), (87, 88, .iconst 0, 0, 0, 0), (88, 89, .ireturn, 1, 0, 0)]
theorem zmk_138 : zMok 138 zc_138 := ⟨List.all_eq_true.mp (by decide +kernel), by decide +kernel⟩
/-- PenLinesModel.know -/
def zc_139_0 : List zE := [(0, 1, .aload_n 0, 0, 0, 0), (1, 4, .getfield 69, 9, 57, 29), (4, 5, .iload_n 1, 1, 0, 0), (5, 6, .baload, 0, 0, 0), (6, 9, .ifCond .eq 4, 10, 0, 0), (9, 10, .return_, 0, 0, 0), (10, 11, .aload_n 0, 0, 0, 0), (11, 14, .getfield 69, 9, 57, 29), (14, 15, .iload_n 1, 1, 0, 0), (15, 16, .iconst 1, 0, 0, 1), (16, 17, .bastore, 0, 0, 0), (17, 18, .aload_n 0, 0, 0, 0), (18, 21, .getfield 73, 9, 58, 30), (21, 22, .iload_n 1, 1, 0, 0), (22, 23, .iconst 0, 0, 0, 0), (23, 24, .iastore, 0, 0, 0), (24, 25, .aload_n 0, 0, 0, 0), (25, 26, .iload_n 1, 1, 0, 0), (26, 29, .invokevirtual 158, 117, 1, 37), (29, 30, .istore_n 2, 2, 0, 0), (30, 31, .iload_n 2, 2, 0, 0), (31, 33, .bipush 14, 0, 0, 14), (33, 36, .if_icmp .le 4, 37, 0, 0), (36, 37, .return_, 0, 0, 0), (37, 38, .iconst 0, 0, 0, 0), (38, 39, .istore_n 3, 3, 0, 0), (39, 40, .iload_n 3, 3, 0, 0), (40, 43, .sipush 5070, 0, 0, 5070), (43, 46, .if_icmp .ge 16, 59, 0, 0), (46, 47, .aload_n 0, 0, 0, 0), (47, 50, .getfield 89, 9, 63, 35), (50, 51, .iload_n 3, 3, 0, 0), (51, 52, .iconst 0, 0, 0, 0), (52, 53, .iastore, 0, 0, 0), (53, 56, .iinc 3 1, 3, 0, 1), (56, 59, .goto (-17), 39, 0, 0), (59, 60, .iconst 1, 0, 0, 1), (60, 61, .istore_n 3, 3, 0, 0), (61, 62, .iload_n 3, 3, 0, 0), (62, 63, .iload_n 2, 2, 0, 0), (63, 66, .if_icmp .gt 56, 119, 0, 0), (66, 67, .iconst 1, 0, 0, 1), (67, 69, .istore 4, 4, 0, 0), (69, 71, .iload 4, 4, 0, 0), (71, 72, .iconst 4, 0, 0, 4), (72, 75, .if_icmp .ge 41, 113, 0, 0), (75, 77, .iload 4, 4, 0, 0), (77, 78, .iload_n 3, 3, 0, 0), (78, 81, .if_icmp .gt 35, 113, 0, 0), (81, 82, .iconst 0, 0, 0, 0), (82, 84, .istore 5, 5, 0, 0), (84, 86, .iload 5, 5, 0, 0), (86, 88, .bipush 26, 0, 0, 26), (88, 91, .if_icmp .ge 19, 107, 0, 0), (91, 92, .aload_n 0, 0, 0, 0), (92, 93, .iload_n 1, 1, 0, 0), (93, 94, .iload_n 3, 3, 0, 0), (94, 96, .iload 4, 4, 0, 0), (96, 98, .iload 5, 5, 0, 0), (98, 101, .invokevirtual 221, 137, 4, 36)]
theorem zmk_139_0 : ∀ x ∈ zc_139_0, zchk 139 x = true := List.all_eq_true.mp (by decide +kernel)
def zc_139_1 : List zE := [(101, 104, .iinc 5 1, 5, 0, 1), (104, 107, .goto (-20), 84, 0, 0), (107, 110, .iinc 4 1, 4, 0, 1), (110, 113, .goto (-41), 69, 0, 0), (113, 116, .iinc 3 1, 3, 0, 1), (116, 119, .goto (-55), 61, 0, 0), (119, 120, .iconst 0, 0, 0, 0), (120, 121, .istore_n 3, 3, 0, 0), (121, 122, .iload_n 3, 3, 0, 0), (122, 124, .bipush 26, 0, 0, 26), (124, 127, .if_icmp .ge 86, 210, 0, 0), (127, 128, .iconst 1, 0, 0, 1), (128, 130, .istore 4, 4, 0, 0), (130, 132, .iload 4, 4, 0, 0), (132, 134, .bipush 13, 0, 0, 13), (134, 137, .if_icmp .ge 70, 204, 0, 0), (137, 138, .iload_n 2, 2, 0, 0), (138, 139, .iload_n 3, 3, 0, 0), (139, 141, .iload 4, 4, 0, 0), (141, 144, .invokestatic 212, 136, 3, 1), (144, 146, .istore 5, 5, 0, 0), (146, 147, .iconst 0, 0, 0, 0), (147, 149, .istore 6, 6, 0, 0), (149, 151, .iload 6, 6, 0, 0), (151, 152, .aload_n 0, 0, 0, 0), (152, 155, .getfield 89, 9, 63, 35), (155, 157, .iload 5, 5, 0, 0), (157, 158, .iaload, 0, 0, 0), (158, 161, .if_icmp .ge 40, 198, 0, 0), (161, 162, .aload_n 0, 0, 0, 0), (162, 163, .iload_n 1, 1, 0, 0), (163, 164, .aload_n 0, 0, 0, 0), (164, 167, .getfield 92, 9, 64, 36), (167, 168, .iconst 5, 0, 0, 5), (168, 170, .iload 5, 5, 0, 0), (170, 171, .imul, 0, 0, 0), (171, 173, .iload 6, 6, 0, 0), (173, 174, .iadd, 0, 0, 0), (174, 175, .iaload, 0, 0, 0), (175, 176, .aload_n 0, 0, 0, 0), (176, 179, .getfield 95, 9, 65, 37), (179, 180, .iconst 5, 0, 0, 5), (180, 182, .iload 5, 5, 0, 0), (182, 183, .imul, 0, 0, 0), (183, 185, .iload 6, 6, 0, 0), (185, 186, .iadd, 0, 0, 0), (186, 187, .laload, 0, 0, 0), (187, 189, .iload 4, 4, 0, 0), (189, 192, .invokevirtual 225, 140, 4, 36), (192, 195, .iinc 6 1, 6, 0, 1), (195, 198, .goto (-46), 149, 0, 0), (198, 201, .iinc 4 1, 4, 0, 1), (201, 204, .goto (-71), 130, 0, 0), (204, 207, .iinc 3 1, 3, 0, 1), (207, 210, .goto (-86), 121, 0, 0), (210, 211, .return_, 0, 0, 0)]
theorem zmk_139_1 : ∀ x ∈ zc_139_1, zchk 139 x = true := List.all_eq_true.mp (by decide +kernel)
def zc_139 : List zE := [(0, 1, .aload_n 0, 0, 0, 0), (1, 4, .getfield 69, 9, 57, 29), (4, 5, .iload_n 1, 1, 0, 0), (5, 6, .baload, 0, 0, 0), (6, 9, .ifCond .eq 4, 10, 0, 0), (9, 10, .return_, 0, 0, 0), (10, 11, .aload_n 0, 0, 0, 0), (11, 14, .getfield 69, 9, 57, 29), (14, 15, .iload_n 1, 1, 0, 0), (15, 16, .iconst 1, 0, 0, 1), (16, 17, .bastore, 0, 0, 0), (17, 18, .aload_n 0, 0, 0, 0), (18, 21, .getfield 73, 9, 58, 30), (21, 22, .iload_n 1, 1, 0, 0), (22, 23, .iconst 0, 0, 0, 0), (23, 24, .iastore, 0, 0, 0), (24, 25, .aload_n 0, 0, 0, 0), (25, 26, .iload_n 1, 1, 0, 0), (26, 29, .invokevirtual 158, 117, 1, 37), (29, 30, .istore_n 2, 2, 0, 0), (30, 31, .iload_n 2, 2, 0, 0), (31, 33, .bipush 14, 0, 0, 14), (33, 36, .if_icmp .le 4, 37, 0, 0), (36, 37, .return_, 0, 0, 0), (37, 38, .iconst 0, 0, 0, 0), (38, 39, .istore_n 3, 3, 0, 0), (39, 40, .iload_n 3, 3, 0, 0), (40, 43, .sipush 5070, 0, 0, 5070), (43, 46, .if_icmp .ge 16, 59, 0, 0), (46, 47, .aload_n 0, 0, 0, 0), (47, 50, .getfield 89, 9, 63, 35), (50, 51, .iload_n 3, 3, 0, 0), (51, 52, .iconst 0, 0, 0, 0), (52, 53, .iastore, 0, 0, 0), (53, 56, .iinc 3 1, 3, 0, 1), (56, 59, .goto (-17), 39, 0, 0), (59, 60, .iconst 1, 0, 0, 1), (60, 61, .istore_n 3, 3, 0, 0), (61, 62, .iload_n 3, 3, 0, 0), (62, 63, .iload_n 2, 2, 0, 0), (63, 66, .if_icmp .gt 56, 119, 0, 0), (66, 67, .iconst 1, 0, 0, 1), (67, 69, .istore 4, 4, 0, 0), (69, 71, .iload 4, 4, 0, 0), (71, 72, .iconst 4, 0, 0, 4), (72, 75, .if_icmp .ge 41, 113, 0, 0), (75, 77, .iload 4, 4, 0, 0), (77, 78, .iload_n 3, 3, 0, 0), (78, 81, .if_icmp .gt 35, 113, 0, 0), (81, 82, .iconst 0, 0, 0, 0), (82, 84, .istore 5, 5, 0, 0), (84, 86, .iload 5, 5, 0, 0), (86, 88, .bipush 26, 0, 0, 26), (88, 91, .if_icmp .ge 19, 107, 0, 0), (91, 92, .aload_n 0, 0, 0, 0), (92, 93, .iload_n 1, 1, 0, 0), (93, 94, .iload_n 3, 3, 0, 0), (94, 96, .iload 4, 4, 0, 0), (96, 98, .iload 5, 5, 0, 0), (98, 101, .invokevirtual 221, 137, 4, 36), (101, 104, .iinc 5 1, 5, 0, 1), (104, 107, .goto (-20), 84, 0, 0), (107, 110, .iinc 4 1, 4, 0, 1), (110, 113, .goto (-41), 69, 0, 0), (113, 116, .iinc 3 1, 3, 0, 1), (116, 119, .goto (-55), 61, 0, 0), (119, 120, .iconst 0, 0, 0, 0), (120, 121, .istore_n 3, 3, 0, 0), (121, 122, .iload_n 3, 3, 0, 0), (122, 124, .bipush 26, 0, 0, 26), (124, 127, .if_icmp .ge 86, 210, 0, 0), (127, 128, .iconst 1, 0, 0, 1), (128, 130, .istore 4, 4, 0, 0), (130, 132, .iload 4, 4, 0, 0), (132, 134, .bipush 13, 0, 0, 13), (134, 137, .if_icmp .ge 70, 204, 0, 0), (137, 138, .iload_n 2, 2, 0, 0), (138, 139, .iload_n 3, 3, 0, 0), (139, 141, .iload 4, 4, 0, 0), (141, 144, .invokestatic 212, 136, 3, 1), (144, 146, .istore 5, 5, 0, 0), (146, 147, .iconst 0, 0, 0, 0), (147, 149, .istore 6, 6, 0, 0), (149, 151, .iload 6, 6, 0, 0), (151, 152, .aload_n 0, 0, 0, 0), (152, 155, .getfield 89, 9, 63, 35), (155, 157, .iload 5, 5, 0, 0), (157, 158, .iaload, 0, 0, 0), (158, 161, .if_icmp .ge 40, 198, 0, 0), (161, 162, .aload_n 0, 0, 0, 0), (162, 163, .iload_n 1, 1, 0, 0), (163, 164, .aload_n 0, 0, 0, 0), (164, 167, .getfield 92, 9, 64, 36), (167, 168, .iconst 5, 0, 0, 5), (168, 170, .iload 5, 5, 0, 0), (170, 171, .imul, 0, 0, 0), (171, 173, .iload 6, 6, 0, 0), (173, 174, .iadd, 0, 0, 0), (174, 175, .iaload, 0, 0, 0), (175, 176, .aload_n 0, 0, 0, 0), (176, 179, .getfield 95, 9, 65, 37), (179, 180, .iconst 5, 0, 0, 5), (180, 182, .iload 5, 5, 0, 0), (182, 183, .imul, 0, 0, 0), (183, 185, .iload 6, 6, 0, 0), (185, 186, .iadd, 0, 0, 0), (186, 187, .laload, 0, 0, 0), (187, 189, .iload 4, 4, 0, 0), (189, 192, .invokevirtual 225, 140, 4, 36), (192, 195, .iinc 6 1, 6, 0, 1), (195, 198, .goto (-46), 149, 0, 0), (198, 201, .iinc 4 1, 4, 0, 1), (201, 204, .goto (-71), 130, 0, 0), (204, 207, .iinc 3 1, 3, 0, 1), (207, 210, .goto (-86), 121, 0, 0), (210, 211, .return_, 0, 0, 0)]
set_option maxRecDepth 100000 in
theorem zmk_139 : zMok 139 zc_139 := ⟨by
  show ∀ x ∈ zc_139_0 ++ (zc_139_1), zchk 139 x = true
  exact List.forall_mem_append.mpr ⟨zmk_139_0, zmk_139_1⟩, by decide +kernel⟩
/-- PenLinesModel.keep -/
def zc_140_0 : List zE := [(0, 1, .iconst 5, 0, 0, 5), (1, 2, .iload_n 1, 1, 0, 0), (2, 3, .imul, 0, 0, 0), (3, 5, .istore 6, 6, 0, 0), (5, 6, .aload_n 0, 0, 0, 0), (6, 9, .getfield 73, 9, 58, 30), (9, 10, .iload_n 1, 1, 0, 0), (10, 11, .iaload, 0, 0, 0), (11, 13, .istore 7, 7, 0, 0), (13, 15, .iload 7, 7, 0, 0), (15, 18, .ifCond .le 146, 161, 0, 0), (18, 19, .aload_n 0, 0, 0, 0), (19, 22, .getfield 76, 9, 59, 31), (22, 24, .iload 6, 6, 0, 0), (24, 26, .iload 7, 7, 0, 0), (26, 27, .iadd, 0, 0, 0), (27, 28, .iconst 1, 0, 0, 1), (28, 29, .isub, 0, 0, 0), (29, 30, .iaload, 0, 0, 0), (30, 31, .iload_n 2, 2, 0, 0), (31, 34, .if_icmp .gt 52, 83, 0, 0), (34, 35, .aload_n 0, 0, 0, 0), (35, 38, .getfield 76, 9, 59, 31), (38, 40, .iload 6, 6, 0, 0), (40, 42, .iload 7, 7, 0, 0), (42, 43, .iadd, 0, 0, 0), (43, 44, .iconst 1, 0, 0, 1), (44, 45, .isub, 0, 0, 0), (45, 46, .iaload, 0, 0, 0), (46, 47, .iload_n 2, 2, 0, 0), (47, 50, .if_icmp .ne 114, 161, 0, 0), (50, 51, .lload_n 3, 3, 0, 0), (51, 53, .iload 5, 5, 0, 0), (53, 54, .aload_n 0, 0, 0, 0), (54, 57, .getfield 79, 9, 60, 32), (57, 59, .iload 6, 6, 0, 0), (59, 61, .iload 7, 7, 0, 0), (61, 62, .iadd, 0, 0, 0), (62, 63, .iconst 1, 0, 0, 1), (63, 64, .isub, 0, 0, 0), (64, 65, .laload, 0, 0, 0), (65, 66, .aload_n 0, 0, 0, 0), (66, 69, .getfield 83, 9, 61, 33), (69, 71, .iload 6, 6, 0, 0), (71, 73, .iload 7, 7, 0, 0), (73, 74, .iadd, 0, 0, 0), (74, 75, .iconst 1, 0, 0, 1), (75, 76, .isub, 0, 0, 0), (76, 77, .iaload, 0, 0, 0), (77, 80, .invokestatic 229, 138, 4, 1), (80, 83, .ifCond .eq 81, 161, 0, 0), (83, 85, .iload 7, 7, 0, 0), (85, 86, .iconst 5, 0, 0, 5), (86, 89, .if_icmp .ge 69, 155, 0, 0), (89, 90, .aload_n 0, 0, 0, 0), (90, 93, .getfield 76, 9, 59, 31), (93, 95, .iload 6, 6, 0, 0), (95, 97, .iload 7, 7, 0, 0), (97, 98, .iadd, 0, 0, 0), (98, 99, .aload_n 0, 0, 0, 0)]
theorem zmk_140_0 : ∀ x ∈ zc_140_0, zchk 140 x = true := List.all_eq_true.mp (by decide +kernel)
def zc_140_1 : List zE := [(99, 102, .getfield 76, 9, 59, 31), (102, 104, .iload 6, 6, 0, 0), (104, 106, .iload 7, 7, 0, 0), (106, 107, .iadd, 0, 0, 0), (107, 108, .iconst 1, 0, 0, 1), (108, 109, .isub, 0, 0, 0), (109, 110, .iaload, 0, 0, 0), (110, 111, .iastore, 0, 0, 0), (111, 112, .aload_n 0, 0, 0, 0), (112, 115, .getfield 79, 9, 60, 32), (115, 117, .iload 6, 6, 0, 0), (117, 119, .iload 7, 7, 0, 0), (119, 120, .iadd, 0, 0, 0), (120, 121, .aload_n 0, 0, 0, 0), (121, 124, .getfield 79, 9, 60, 32), (124, 126, .iload 6, 6, 0, 0), (126, 128, .iload 7, 7, 0, 0), (128, 129, .iadd, 0, 0, 0), (129, 130, .iconst 1, 0, 0, 1), (130, 131, .isub, 0, 0, 0), (131, 132, .laload, 0, 0, 0), (132, 133, .lastore, 0, 0, 0), (133, 134, .aload_n 0, 0, 0, 0), (134, 137, .getfield 83, 9, 61, 33), (137, 139, .iload 6, 6, 0, 0), (139, 141, .iload 7, 7, 0, 0), (141, 142, .iadd, 0, 0, 0), (142, 143, .aload_n 0, 0, 0, 0), (143, 146, .getfield 83, 9, 61, 33), (146, 148, .iload 6, 6, 0, 0), (148, 150, .iload 7, 7, 0, 0), (150, 151, .iadd, 0, 0, 0), (151, 152, .iconst 1, 0, 0, 1), (152, 153, .isub, 0, 0, 0), (153, 154, .iaload, 0, 0, 0), (154, 155, .iastore, 0, 0, 0), (155, 158, .iinc 7 (-1), 7, 0, (-1)), (158, 161, .goto (-145), 13, 0, 0), (161, 163, .iload 7, 7, 0, 0), (163, 164, .iconst 5, 0, 0, 5), (164, 167, .if_icmp .ge 65, 229, 0, 0), (167, 168, .aload_n 0, 0, 0, 0), (168, 171, .getfield 76, 9, 59, 31), (171, 173, .iload 6, 6, 0, 0), (173, 175, .iload 7, 7, 0, 0), (175, 176, .iadd, 0, 0, 0), (176, 177, .iload_n 2, 2, 0, 0), (177, 178, .iastore, 0, 0, 0), (178, 179, .aload_n 0, 0, 0, 0), (179, 182, .getfield 79, 9, 60, 32), (182, 184, .iload 6, 6, 0, 0), (184, 186, .iload 7, 7, 0, 0), (186, 187, .iadd, 0, 0, 0), (187, 188, .lload_n 3, 3, 0, 0), (188, 189, .lastore, 0, 0, 0), (189, 190, .aload_n 0, 0, 0, 0), (190, 193, .getfield 83, 9, 61, 33), (193, 195, .iload 6, 6, 0, 0), (195, 197, .iload 7, 7, 0, 0), (197, 198, .iadd, 0, 0, 0)]
theorem zmk_140_1 : ∀ x ∈ zc_140_1, zchk 140 x = true := List.all_eq_true.mp (by decide +kernel)
def zc_140_2 : List zE := [(198, 200, .iload 5, 5, 0, 0), (200, 201, .iastore, 0, 0, 0), (201, 202, .aload_n 0, 0, 0, 0), (202, 205, .getfield 73, 9, 58, 30), (205, 206, .iload_n 1, 1, 0, 0), (206, 207, .aload_n 0, 0, 0, 0), (207, 210, .getfield 73, 9, 58, 30), (210, 211, .iload_n 1, 1, 0, 0), (211, 212, .iaload, 0, 0, 0), (212, 213, .iconst 5, 0, 0, 5), (213, 216, .if_icmp .ge 14, 227, 0, 0), (216, 217, .aload_n 0, 0, 0, 0), (217, 220, .getfield 73, 9, 58, 30), (220, 221, .iload_n 1, 1, 0, 0), (221, 222, .iaload, 0, 0, 0), (222, 223, .iconst 1, 0, 0, 1), (223, 224, .iadd, 0, 0, 0), (224, 227, .goto 4, 228, 0, 0), (227, 228, .iconst 5, 0, 0, 5), (228, 229, .iastore, 0, 0, 0), (229, 230, .return_, 0, 0, 0)]
theorem zmk_140_2 : ∀ x ∈ zc_140_2, zchk 140 x = true := List.all_eq_true.mp (by decide +kernel)
def zc_140 : List zE := [(0, 1, .iconst 5, 0, 0, 5), (1, 2, .iload_n 1, 1, 0, 0), (2, 3, .imul, 0, 0, 0), (3, 5, .istore 6, 6, 0, 0), (5, 6, .aload_n 0, 0, 0, 0), (6, 9, .getfield 73, 9, 58, 30), (9, 10, .iload_n 1, 1, 0, 0), (10, 11, .iaload, 0, 0, 0), (11, 13, .istore 7, 7, 0, 0), (13, 15, .iload 7, 7, 0, 0), (15, 18, .ifCond .le 146, 161, 0, 0), (18, 19, .aload_n 0, 0, 0, 0), (19, 22, .getfield 76, 9, 59, 31), (22, 24, .iload 6, 6, 0, 0), (24, 26, .iload 7, 7, 0, 0), (26, 27, .iadd, 0, 0, 0), (27, 28, .iconst 1, 0, 0, 1), (28, 29, .isub, 0, 0, 0), (29, 30, .iaload, 0, 0, 0), (30, 31, .iload_n 2, 2, 0, 0), (31, 34, .if_icmp .gt 52, 83, 0, 0), (34, 35, .aload_n 0, 0, 0, 0), (35, 38, .getfield 76, 9, 59, 31), (38, 40, .iload 6, 6, 0, 0), (40, 42, .iload 7, 7, 0, 0), (42, 43, .iadd, 0, 0, 0), (43, 44, .iconst 1, 0, 0, 1), (44, 45, .isub, 0, 0, 0), (45, 46, .iaload, 0, 0, 0), (46, 47, .iload_n 2, 2, 0, 0), (47, 50, .if_icmp .ne 114, 161, 0, 0), (50, 51, .lload_n 3, 3, 0, 0), (51, 53, .iload 5, 5, 0, 0), (53, 54, .aload_n 0, 0, 0, 0), (54, 57, .getfield 79, 9, 60, 32), (57, 59, .iload 6, 6, 0, 0), (59, 61, .iload 7, 7, 0, 0), (61, 62, .iadd, 0, 0, 0), (62, 63, .iconst 1, 0, 0, 1), (63, 64, .isub, 0, 0, 0), (64, 65, .laload, 0, 0, 0), (65, 66, .aload_n 0, 0, 0, 0), (66, 69, .getfield 83, 9, 61, 33), (69, 71, .iload 6, 6, 0, 0), (71, 73, .iload 7, 7, 0, 0), (73, 74, .iadd, 0, 0, 0), (74, 75, .iconst 1, 0, 0, 1), (75, 76, .isub, 0, 0, 0), (76, 77, .iaload, 0, 0, 0), (77, 80, .invokestatic 229, 138, 4, 1), (80, 83, .ifCond .eq 81, 161, 0, 0), (83, 85, .iload 7, 7, 0, 0), (85, 86, .iconst 5, 0, 0, 5), (86, 89, .if_icmp .ge 69, 155, 0, 0), (89, 90, .aload_n 0, 0, 0, 0), (90, 93, .getfield 76, 9, 59, 31), (93, 95, .iload 6, 6, 0, 0), (95, 97, .iload 7, 7, 0, 0), (97, 98, .iadd, 0, 0, 0), (98, 99, .aload_n 0, 0, 0, 0), (99, 102, .getfield 76, 9, 59, 31), (102, 104, .iload 6, 6, 0, 0), (104, 106, .iload 7, 7, 0, 0), (106, 107, .iadd, 0, 0, 0), (107, 108, .iconst 1, 0, 0, 1), (108, 109, .isub, 0, 0, 0), (109, 110, .iaload, 0, 0, 0), (110, 111, .iastore, 0, 0, 0), (111, 112, .aload_n 0, 0, 0, 0), (112, 115, .getfield 79, 9, 60, 32), (115, 117, .iload 6, 6, 0, 0), (117, 119, .iload 7, 7, 0, 0), (119, 120, .iadd, 0, 0, 0), (120, 121, .aload_n 0, 0, 0, 0), (121, 124, .getfield 79, 9, 60, 32), (124, 126, .iload 6, 6, 0, 0), (126, 128, .iload 7, 7, 0, 0), (128, 129, .iadd, 0, 0, 0), (129, 130, .iconst 1, 0, 0, 1), (130, 131, .isub, 0, 0, 0), (131, 132, .laload, 0, 0, 0), (132, 133, .lastore, 0, 0, 0), (133, 134, .aload_n 0, 0, 0, 0), (134, 137, .getfield 83, 9, 61, 33), (137, 139, .iload 6, 6, 0, 0), (139, 141, .iload 7, 7, 0, 0), (141, 142, .iadd, 0, 0, 0), (142, 143, .aload_n 0, 0, 0, 0), (143, 146, .getfield 83, 9, 61, 33), (146, 148, .iload 6, 6, 0, 0), (148, 150, .iload 7, 7, 0, 0), (150, 151, .iadd, 0, 0, 0), (151, 152, .iconst 1, 0, 0, 1), (152, 153, .isub, 0, 0, 0), (153, 154, .iaload, 0, 0, 0), (154, 155, .iastore, 0, 0, 0), (155, 158, .iinc 7 (-1), 7, 0, (-1)), (158, 161, .goto (-145), 13, 0, 0), (161, 163, .iload 7, 7, 0, 0), (163, 164, .iconst 5, 0, 0, 5), (164, 167, .if_icmp .ge 65, 229, 0, 0), (167, 168, .aload_n 0, 0, 0, 0), (168, 171, .getfield 76, 9, 59, 31), (171, 173, .iload 6, 6, 0, 0), (173, 175, .iload 7, 7, 0, 0), (175, 176, .iadd, 0, 0, 0), (176, 177, .iload_n 2, 2, 0, 0), (177, 178, .iastore, 0, 0, 0), (178, 179, .aload_n 0, 0, 0, 0), (179, 182, .getfield 79, 9, 60, 32), (182, 184, .iload 6, 6, 0, 0), (184, 186, .iload 7, 7, 0, 0), (186, 187, .iadd, 0, 0, 0), (187, 188, .lload_n 3, 3, 0, 0), (188, 189, .lastore, 0, 0, 0), (189, 190, .aload_n 0, 0, 0, 0), (190, 193, .getfield 83, 9, 61, 33), (193, 195, .iload 6, 6, 0, 0), (195, 197, .iload 7, 7, 0, 0), (197, 198, .iadd, 0, 0, 0), (198, 200, .iload 5, 5, 0, 0), (200, 201, .iastore, 0, 0, 0), (201, 202, .aload_n 0, 0, 0, 0), (202, 205, .getfield 73, 9, 58, 30), (205, 206, .iload_n 1, 1, 0, 0), (206, 207, .aload_n 0, 0, 0, 0), (207, 210, .getfield 73, 9, 58, 30), (210, 211, .iload_n 1, 1, 0, 0), (211, 212, .iaload, 0, 0, 0), (212, 213, .iconst 5, 0, 0, 5), (213, 216, .if_icmp .ge 14, 227, 0, 0), (216, 217, .aload_n 0, 0, 0, 0), (217, 220, .getfield 73, 9, 58, 30), (220, 221, .iload_n 1, 1, 0, 0), (221, 222, .iaload, 0, 0, 0), (222, 223, .iconst 1, 0, 0, 1), (223, 224, .iadd, 0, 0, 0), (224, 227, .goto 4, 228, 0, 0), (227, 228, .iconst 5, 0, 0, 5), (228, 229, .iastore, 0, 0, 0), (229, 230, .return_, 0, 0, 0)]
set_option maxRecDepth 100000 in
theorem zmk_140 : zMok 140 zc_140 := ⟨by
  show ∀ x ∈ zc_140_0 ++ (zc_140_1 ++ (zc_140_2)), zchk 140 x = true
  exact List.forall_mem_append.mpr ⟨zmk_140_0, List.forall_mem_append.mpr ⟨zmk_140_1, zmk_140_2⟩⟩, by decide +kernel⟩
/-- PenLinesModel.open -/
def zc_141_0 : List zE := [(0, 1, .aload_n 0, 0, 0, 0), (1, 2, .iload_n 1, 1, 0, 0), (2, 5, .invokevirtual 155, 116, 1, 37), (5, 8, .ifCond .eq 29, 34, 0, 0), (8, 9, .iload_n 2, 2, 0, 0), (9, 10, .i2l, 0, 0, 0), (10, 11, .lconst 0, 0, 0, 0), (11, 14, .ldc2_w 233, 0, 0, 4), (14, 17, .invokestatic 107, 103, 3, 1), (17, 20, .ifCond .eq 17, 34, 0, 0), (20, 21, .iload_n 3, 3, 0, 0), (21, 22, .i2l, 0, 0, 0), (22, 25, .ldc2_w 235, 0, 0, (-2)), (25, 28, .ldc2_w 168, 0, 0, 11), (28, 31, .invokestatic 107, 103, 3, 1), (31, 34, .ifCond .ne 6, 37, 0, 0), (34, 36, .ldc 117, 0, 0, (-1000001)), (36, 37, .ireturn, 0, 0, 0), (37, 38, .aload_n 0, 0, 0, 0), (38, 39, .iload_n 1, 1, 0, 0), (39, 42, .invokevirtual 237, 139, 1, 36), (42, 43, .aload_n 0, 0, 0, 0), (43, 46, .getfield 83, 9, 61, 33), (46, 47, .iconst 5, 0, 0, 5), (47, 48, .iload_n 1, 1, 0, 0), (48, 49, .imul, 0, 0, 0), (49, 50, .iload_n 2, 2, 0, 0), (50, 51, .iadd, 0, 0, 0), (51, 52, .iaload, 0, 0, 0), (52, 54, .istore 4, 4, 0, 0), (54, 55, .iload_n 2, 2, 0, 0), (55, 56, .aload_n 0, 0, 0, 0), (56, 59, .getfield 73, 9, 58, 30), (59, 60, .iload_n 1, 1, 0, 0), (60, 61, .iaload, 0, 0, 0), (61, 64, .if_icmp .ge 9, 70, 0, 0), (64, 65, .iload_n 3, 3, 0, 0), (65, 67, .iload 4, 4, 0, 0), (67, 70, .if_icmp .lt 6, 73, 0, 0), (70, 72, .ldc 197, 0, 0, (-1000000)), (72, 73, .ireturn, 0, 0, 0), (73, 74, .iload_n 3, 3, 0, 0), (74, 75, .iconst (-1), 0, 0, (-1)), (75, 78, .if_icmp .ne 16, 91, 0, 0), (78, 79, .aload_n 0, 0, 0, 0), (79, 82, .getfield 76, 9, 59, 31), (82, 83, .iconst 5, 0, 0, 5), (83, 84, .iload_n 1, 1, 0, 0), (84, 85, .imul, 0, 0, 0), (85, 86, .iload_n 2, 2, 0, 0), (86, 87, .iadd, 0, 0, 0), (87, 88, .iaload, 0, 0, 0), (88, 91, .goto 38, 126, 0, 0), (91, 92, .iload_n 3, 3, 0, 0), (92, 94, .bipush (-2), 0, 0, (-2)), (94, 97, .if_icmp .ne 8, 102, 0, 0), (97, 99, .iload 4, 4, 0, 0), (99, 102, .goto 27, 126, 0, 0), (102, 103, .aload_n 0, 0, 0, 0), (103, 106, .getfield 79, 9, 60, 32)]
theorem zmk_141_0 : ∀ x ∈ zc_141_0, zchk 141 x = true := List.all_eq_true.mp (by decide +kernel)
def zc_141_1 : List zE := [(106, 107, .iconst 5, 0, 0, 5), (107, 108, .iload_n 1, 1, 0, 0), (108, 109, .imul, 0, 0, 0), (109, 110, .iload_n 2, 2, 0, 0), (110, 111, .iadd, 0, 0, 0), (111, 112, .laload, 0, 0, 0), (112, 113, .iconst 5, 0, 0, 5), (113, 115, .iload 4, 4, 0, 0), (115, 116, .iconst 1, 0, 0, 1), (116, 117, .isub, 0, 0, 0), (117, 118, .iload_n 3, 3, 0, 0), (118, 119, .isub, 0, 0, 0), (119, 120, .imul, 0, 0, 0), (120, 121, .lshr, 0, 0, 0), (121, 124, .ldc2_w 219, 0, 0, 31), (124, 125, .land, 0, 0, 0), (125, 126, .l2i, 0, 0, 0), (126, 127, .ireturn, 0, 0, 0)]
theorem zmk_141_1 : ∀ x ∈ zc_141_1, zchk 141 x = true := List.all_eq_true.mp (by decide +kernel)
def zc_141 : List zE := [(0, 1, .aload_n 0, 0, 0, 0), (1, 2, .iload_n 1, 1, 0, 0), (2, 5, .invokevirtual 155, 116, 1, 37), (5, 8, .ifCond .eq 29, 34, 0, 0), (8, 9, .iload_n 2, 2, 0, 0), (9, 10, .i2l, 0, 0, 0), (10, 11, .lconst 0, 0, 0, 0), (11, 14, .ldc2_w 233, 0, 0, 4), (14, 17, .invokestatic 107, 103, 3, 1), (17, 20, .ifCond .eq 17, 34, 0, 0), (20, 21, .iload_n 3, 3, 0, 0), (21, 22, .i2l, 0, 0, 0), (22, 25, .ldc2_w 235, 0, 0, (-2)), (25, 28, .ldc2_w 168, 0, 0, 11), (28, 31, .invokestatic 107, 103, 3, 1), (31, 34, .ifCond .ne 6, 37, 0, 0), (34, 36, .ldc 117, 0, 0, (-1000001)), (36, 37, .ireturn, 0, 0, 0), (37, 38, .aload_n 0, 0, 0, 0), (38, 39, .iload_n 1, 1, 0, 0), (39, 42, .invokevirtual 237, 139, 1, 36), (42, 43, .aload_n 0, 0, 0, 0), (43, 46, .getfield 83, 9, 61, 33), (46, 47, .iconst 5, 0, 0, 5), (47, 48, .iload_n 1, 1, 0, 0), (48, 49, .imul, 0, 0, 0), (49, 50, .iload_n 2, 2, 0, 0), (50, 51, .iadd, 0, 0, 0), (51, 52, .iaload, 0, 0, 0), (52, 54, .istore 4, 4, 0, 0), (54, 55, .iload_n 2, 2, 0, 0), (55, 56, .aload_n 0, 0, 0, 0), (56, 59, .getfield 73, 9, 58, 30), (59, 60, .iload_n 1, 1, 0, 0), (60, 61, .iaload, 0, 0, 0), (61, 64, .if_icmp .ge 9, 70, 0, 0), (64, 65, .iload_n 3, 3, 0, 0), (65, 67, .iload 4, 4, 0, 0), (67, 70, .if_icmp .lt 6, 73, 0, 0), (70, 72, .ldc 197, 0, 0, (-1000000)), (72, 73, .ireturn, 0, 0, 0), (73, 74, .iload_n 3, 3, 0, 0), (74, 75, .iconst (-1), 0, 0, (-1)), (75, 78, .if_icmp .ne 16, 91, 0, 0), (78, 79, .aload_n 0, 0, 0, 0), (79, 82, .getfield 76, 9, 59, 31), (82, 83, .iconst 5, 0, 0, 5), (83, 84, .iload_n 1, 1, 0, 0), (84, 85, .imul, 0, 0, 0), (85, 86, .iload_n 2, 2, 0, 0), (86, 87, .iadd, 0, 0, 0), (87, 88, .iaload, 0, 0, 0), (88, 91, .goto 38, 126, 0, 0), (91, 92, .iload_n 3, 3, 0, 0), (92, 94, .bipush (-2), 0, 0, (-2)), (94, 97, .if_icmp .ne 8, 102, 0, 0), (97, 99, .iload 4, 4, 0, 0), (99, 102, .goto 27, 126, 0, 0), (102, 103, .aload_n 0, 0, 0, 0), (103, 106, .getfield 79, 9, 60, 32), (106, 107, .iconst 5, 0, 0, 5), (107, 108, .iload_n 1, 1, 0, 0), (108, 109, .imul, 0, 0, 0), (109, 110, .iload_n 2, 2, 0, 0), (110, 111, .iadd, 0, 0, 0), (111, 112, .laload, 0, 0, 0), (112, 113, .iconst 5, 0, 0, 5), (113, 115, .iload 4, 4, 0, 0), (115, 116, .iconst 1, 0, 0, 1), (116, 117, .isub, 0, 0, 0), (117, 118, .iload_n 3, 3, 0, 0), (118, 119, .isub, 0, 0, 0), (119, 120, .imul, 0, 0, 0), (120, 121, .lshr, 0, 0, 0), (121, 124, .ldc2_w 219, 0, 0, 31), (124, 125, .land, 0, 0, 0), (125, 126, .l2i, 0, 0, 0), (126, 127, .ireturn, 0, 0, 0)]
set_option maxRecDepth 100000 in
theorem zmk_141 : zMok 141 zc_141 := ⟨by
  show ∀ x ∈ zc_141_0 ++ (zc_141_1), zchk 141 x = true
  exact List.forall_mem_append.mpr ⟨zmk_141_0, zmk_141_1⟩, by decide +kernel⟩
/-- PenLinesModel.wordCode -/
def zc_142 : List zE := [(0, 1, .lconst 0, 0, 0, 0), (1, 2, .lstore_n 1, 1, 0, 0), (2, 3, .iconst 0, 0, 0, 0), (3, 4, .istore_n 3, 3, 0, 0), (4, 5, .iload_n 3, 3, 0, 0), (5, 6, .aload_n 0, 0, 0, 0), (6, 9, .getfield 190, 9, 0, 25), (9, 12, .if_icmp .ge 21, 30, 0, 0), (12, 13, .lload_n 1, 1, 0, 0), (13, 14, .iconst 5, 0, 0, 5), (14, 15, .lshl, 0, 0, 0), (15, 16, .aload_n 0, 0, 0, 0), (16, 19, .getfield 63, 9, 55, 26), (19, 20, .iload_n 3, 3, 0, 0), (20, 21, .iaload, 0, 0, 0), (21, 22, .i2l, 0, 0, 0), (22, 23, .lor, 0, 0, 0), (23, 24, .lstore_n 1, 1, 0, 0), (24, 27, .iinc 3 1, 3, 0, 1), (27, 30, .goto (-23), 4, 0, 0), (30, 31, .lload_n 1, 1, 0, 0), (31, 32, .lreturn, 0, 0, 0)]
theorem zmk_142 : zMok 142 zc_142 := ⟨List.all_eq_true.mp (by decide +kernel), by decide +kernel⟩
/-- PenLinesModel.find -/
def zc_143_0 : List zE := [(0, 1, .aload_n 0, 0, 0, 0), (1, 4, .getfield 190, 9, 0, 25), (4, 7, .ifCond .ne 6, 10, 0, 0), (7, 9, .ldc 202, 0, 0, (-1000002)), (9, 10, .ireturn, 0, 0, 0), (10, 11, .iload_n 1, 1, 0, 0), (11, 12, .istore_n 2, 2, 0, 0), (12, 13, .iconst 0, 0, 0, 0), (13, 14, .istore_n 3, 3, 0, 0), (14, 15, .iload_n 3, 3, 0, 0), (15, 16, .aload_n 0, 0, 0, 0), (16, 19, .getfield 128, 9, 0, 13), (19, 22, .if_icmp .ge 104, 123, 0, 0), (22, 23, .iload_n 1, 1, 0, 0), (23, 26, .ifCond .lt 100, 123, 0, 0), (26, 27, .aload_n 0, 0, 0, 0), (27, 28, .iload_n 3, 3, 0, 0), (28, 31, .invokevirtual 237, 139, 1, 36), (31, 32, .iconst 0, 0, 0, 0), (32, 34, .istore 4, 4, 0, 0), (34, 35, .iconst 0, 0, 0, 0), (35, 37, .istore 5, 5, 0, 0), (37, 39, .iload 5, 5, 0, 0), (39, 40, .aload_n 0, 0, 0, 0), (40, 43, .getfield 73, 9, 58, 30), (43, 44, .iload_n 3, 3, 0, 0), (44, 45, .iaload, 0, 0, 0), (45, 48, .if_icmp .ge 58, 103, 0, 0), (48, 50, .iload 4, 4, 0, 0), (50, 53, .ifCond .ne 40, 90, 0, 0), (53, 54, .aload_n 0, 0, 0, 0), (54, 57, .getfield 83, 9, 61, 33), (57, 58, .iconst 5, 0, 0, 5), (58, 59, .iload_n 3, 3, 0, 0), (59, 60, .imul, 0, 0, 0), (60, 62, .iload 5, 5, 0, 0), (62, 63, .iadd, 0, 0, 0), (63, 64, .iaload, 0, 0, 0), (64, 65, .aload_n 0, 0, 0, 0), (65, 68, .getfield 190, 9, 0, 25), (68, 71, .if_icmp .ne 26, 94, 0, 0), (71, 72, .aload_n 0, 0, 0, 0), (72, 75, .getfield 79, 9, 60, 32), (75, 76, .iconst 5, 0, 0, 5), (76, 77, .iload_n 3, 3, 0, 0), (77, 78, .imul, 0, 0, 0), (78, 80, .iload 5, 5, 0, 0), (80, 81, .iadd, 0, 0, 0), (81, 82, .laload, 0, 0, 0), (82, 83, .aload_n 0, 0, 0, 0), (83, 86, .invokevirtual 241, 142, 0, 38), (86, 87, .lcmp, 0, 0, 0), (87, 90, .ifCond .ne 7, 94, 0, 0), (90, 91, .iconst 1, 0, 0, 1), (91, 94, .goto 4, 95, 0, 0), (94, 95, .iconst 0, 0, 0, 0), (95, 97, .istore 4, 4, 0, 0), (97, 100, .iinc 5 1, 5, 0, 1), (100, 103, .goto (-63), 37, 0, 0), (103, 105, .iload 4, 4, 0, 0)]
theorem zmk_143_0 : ∀ x ∈ zc_143_0, zchk 143 x = true := List.all_eq_true.mp (by decide +kernel)
def zc_143_1 : List zE := [(105, 108, .ifCond .eq 12, 117, 0, 0), (108, 109, .iload_n 2, 2, 0, 0), (109, 112, .ifCond .ne 5, 114, 0, 0), (112, 113, .iload_n 3, 3, 0, 0), (113, 114, .ireturn, 0, 0, 0), (114, 117, .iinc 2 (-1), 2, 0, (-1)), (117, 120, .iinc 3 1, 3, 0, 1), (120, 123, .goto (-106), 14, 0, 0), (123, 125, .ldc 197, 0, 0, (-1000000)), (125, 126, .ireturn, 0, 0, 0)]
theorem zmk_143_1 : ∀ x ∈ zc_143_1, zchk 143 x = true := List.all_eq_true.mp (by decide +kernel)
def zc_143 : List zE := [(0, 1, .aload_n 0, 0, 0, 0), (1, 4, .getfield 190, 9, 0, 25), (4, 7, .ifCond .ne 6, 10, 0, 0), (7, 9, .ldc 202, 0, 0, (-1000002)), (9, 10, .ireturn, 0, 0, 0), (10, 11, .iload_n 1, 1, 0, 0), (11, 12, .istore_n 2, 2, 0, 0), (12, 13, .iconst 0, 0, 0, 0), (13, 14, .istore_n 3, 3, 0, 0), (14, 15, .iload_n 3, 3, 0, 0), (15, 16, .aload_n 0, 0, 0, 0), (16, 19, .getfield 128, 9, 0, 13), (19, 22, .if_icmp .ge 104, 123, 0, 0), (22, 23, .iload_n 1, 1, 0, 0), (23, 26, .ifCond .lt 100, 123, 0, 0), (26, 27, .aload_n 0, 0, 0, 0), (27, 28, .iload_n 3, 3, 0, 0), (28, 31, .invokevirtual 237, 139, 1, 36), (31, 32, .iconst 0, 0, 0, 0), (32, 34, .istore 4, 4, 0, 0), (34, 35, .iconst 0, 0, 0, 0), (35, 37, .istore 5, 5, 0, 0), (37, 39, .iload 5, 5, 0, 0), (39, 40, .aload_n 0, 0, 0, 0), (40, 43, .getfield 73, 9, 58, 30), (43, 44, .iload_n 3, 3, 0, 0), (44, 45, .iaload, 0, 0, 0), (45, 48, .if_icmp .ge 58, 103, 0, 0), (48, 50, .iload 4, 4, 0, 0), (50, 53, .ifCond .ne 40, 90, 0, 0), (53, 54, .aload_n 0, 0, 0, 0), (54, 57, .getfield 83, 9, 61, 33), (57, 58, .iconst 5, 0, 0, 5), (58, 59, .iload_n 3, 3, 0, 0), (59, 60, .imul, 0, 0, 0), (60, 62, .iload 5, 5, 0, 0), (62, 63, .iadd, 0, 0, 0), (63, 64, .iaload, 0, 0, 0), (64, 65, .aload_n 0, 0, 0, 0), (65, 68, .getfield 190, 9, 0, 25), (68, 71, .if_icmp .ne 26, 94, 0, 0), (71, 72, .aload_n 0, 0, 0, 0), (72, 75, .getfield 79, 9, 60, 32), (75, 76, .iconst 5, 0, 0, 5), (76, 77, .iload_n 3, 3, 0, 0), (77, 78, .imul, 0, 0, 0), (78, 80, .iload 5, 5, 0, 0), (80, 81, .iadd, 0, 0, 0), (81, 82, .laload, 0, 0, 0), (82, 83, .aload_n 0, 0, 0, 0), (83, 86, .invokevirtual 241, 142, 0, 38), (86, 87, .lcmp, 0, 0, 0), (87, 90, .ifCond .ne 7, 94, 0, 0), (90, 91, .iconst 1, 0, 0, 1), (91, 94, .goto 4, 95, 0, 0), (94, 95, .iconst 0, 0, 0, 0), (95, 97, .istore 4, 4, 0, 0), (97, 100, .iinc 5 1, 5, 0, 1), (100, 103, .goto (-63), 37, 0, 0), (103, 105, .iload 4, 4, 0, 0), (105, 108, .ifCond .eq 12, 117, 0, 0), (108, 109, .iload_n 2, 2, 0, 0), (109, 112, .ifCond .ne 5, 114, 0, 0), (112, 113, .iload_n 3, 3, 0, 0), (113, 114, .ireturn, 0, 0, 0), (114, 117, .iinc 2 (-1), 2, 0, (-1)), (117, 120, .iinc 3 1, 3, 0, 1), (120, 123, .goto (-106), 14, 0, 0), (123, 125, .ldc 197, 0, 0, (-1000000)), (125, 126, .ireturn, 0, 0, 0)]
set_option maxRecDepth 100000 in
theorem zmk_143 : zMok 143 zc_143 := ⟨by
  show ∀ x ∈ zc_143_0 ++ (zc_143_1), zchk 143 x = true
  exact List.forall_mem_append.mpr ⟨zmk_143_0, zmk_143_1⟩, by decide +kernel⟩
/-- PenLinesModel.teach -/
def zc_144_0 : List zE := [(0, 1, .aload_n 0, 0, 0, 0), (1, 2, .iload_n 1, 1, 0, 0), (2, 5, .invokevirtual 155, 116, 1, 37), (5, 8, .ifCond .ne 6, 11, 0, 0), (8, 10, .ldc 117, 0, 0, (-1000001)), (10, 11, .ireturn, 0, 0, 0), (11, 12, .aload_n 0, 0, 0, 0), (12, 15, .getfield 190, 9, 0, 25), (15, 18, .ifCond .eq 22, 37, 0, 0), (18, 19, .aload_n 0, 0, 0, 0), (19, 20, .iload_n 1, 1, 0, 0), (20, 21, .aload_n 0, 0, 0, 0), (21, 24, .getfield 63, 9, 55, 26), (24, 25, .iconst 0, 0, 0, 0), (25, 26, .aload_n 0, 0, 0, 0), (26, 29, .getfield 190, 9, 0, 25), (29, 32, .invokevirtual 208, 133, 4, 37), (32, 34, .ldc 203, 0, 0, 1000000000), (34, 37, .if_icmp .lt 6, 40, 0, 0), (37, 39, .ldc 202, 0, 0, (-1000002)), (39, 40, .ireturn, 0, 0, 0), (40, 41, .aload_n 0, 0, 0, 0), (41, 44, .getfield 170, 9, 0, 20), (44, 46, .bipush 50, 0, 0, 50), (46, 49, .if_icmp .ne 6, 52, 0, 0), (49, 51, .ldc 193, 0, 0, (-1000003)), (51, 52, .ireturn, 0, 0, 0), (52, 53, .aload_n 0, 0, 0, 0), (53, 56, .getfield 54, 9, 52, 21), (56, 57, .aload_n 0, 0, 0, 0), (57, 60, .getfield 170, 9, 0, 20), (60, 61, .aload_n 0, 0, 0, 0), (61, 64, .getfield 170, 9, 0, 20), (64, 67, .ifCond .ne 7, 71, 0, 0), (67, 68, .iconst 0, 0, 0, 0), (68, 71, .goto 7, 75, 0, 0), (71, 72, .aload_n 0, 0, 0, 0), (72, 75, .getfield 173, 9, 0, 17), (75, 76, .iastore, 0, 0, 0), (76, 77, .aload_n 0, 0, 0, 0), (77, 78, .aload_n 0, 0, 0, 0), (78, 81, .getfield 170, 9, 0, 20), (81, 84, .ifCond .ne 7, 88, 0, 0), (84, 85, .iconst 0, 0, 0, 0), (85, 88, .goto 7, 92, 0, 0), (88, 89, .aload_n 0, 0, 0, 0), (89, 92, .getfield 173, 9, 0, 17), (92, 95, .putfield 173, 9, 0, 17), (95, 96, .aload_n 0, 0, 0, 0), (96, 97, .dup, 0, 0, 0), (97, 100, .getfield 170, 9, 0, 20), (100, 101, .iconst 1, 0, 0, 1), (101, 102, .iadd, 0, 0, 0), (102, 105, .putfield 170, 9, 0, 20), (105, 106, .iconst 0, 0, 0, 0), (106, 107, .istore_n 2, 2, 0, 0), (107, 108, .iconst 0, 0, 0, 0), (108, 109, .istore_n 3, 3, 0, 0), (109, 110, .iload_n 3, 3, 0, 0), (110, 111, .aload_n 0, 0, 0, 0)]
theorem zmk_144_0 : ∀ x ∈ zc_144_0, zchk 144 x = true := List.all_eq_true.mp (by decide +kernel)
def zc_144_1 : List zE := [(111, 114, .getfield 190, 9, 0, 25), (114, 117, .if_icmp .ge 55, 169, 0, 0), (117, 118, .iconst 3, 0, 0, 3), (118, 120, .istore 4, 4, 0, 0), (120, 121, .iload_n 2, 2, 0, 0), (121, 123, .iload 4, 4, 0, 0), (123, 124, .iadd, 0, 0, 0), (124, 125, .aload_n 0, 0, 0, 0), (125, 126, .iload_n 1, 1, 0, 0), (126, 129, .invokevirtual 158, 117, 1, 37), (129, 132, .if_icmp .gt 15, 144, 0, 0), (132, 133, .aload_n 0, 0, 0, 0), (133, 134, .iload_n 1, 1, 0, 0), (134, 135, .iload_n 3, 3, 0, 0), (135, 136, .iload_n 2, 2, 0, 0), (136, 138, .iload 4, 4, 0, 0), (138, 141, .invokevirtual 245, 145, 4, 37), (141, 144, .ifCond .ne 9, 150, 0, 0), (144, 147, .iinc 4 (-1), 4, 0, (-1)), (147, 150, .goto (-27), 120, 0, 0), (150, 151, .aload_n 0, 0, 0, 0), (151, 154, .getfield 98, 9, 66, 38), (154, 155, .iload_n 3, 3, 0, 0), (155, 157, .iload 4, 4, 0, 0), (157, 158, .iastore, 0, 0, 0), (158, 159, .iload_n 2, 2, 0, 0), (159, 161, .iload 4, 4, 0, 0), (161, 162, .iadd, 0, 0, 0), (162, 163, .istore_n 2, 2, 0, 0), (163, 166, .iinc 3 1, 3, 0, 1), (166, 169, .goto (-57), 109, 0, 0), (169, 170, .aload_n 0, 0, 0, 0), (170, 173, .getfield 38, 9, 47, 14), (173, 174, .iload_n 1, 1, 0, 0), (174, 175, .iaload, 0, 0, 0), (175, 176, .istore_n 2, 2, 0, 0), (176, 177, .iconst 0, 0, 0, 0), (177, 178, .istore_n 3, 3, 0, 0), (178, 179, .iload_n 3, 3, 0, 0), (179, 180, .aload_n 0, 0, 0, 0), (180, 183, .getfield 190, 9, 0, 25), (183, 186, .if_icmp .ge 87, 270, 0, 0), (186, 187, .aload_n 0, 0, 0, 0), (187, 190, .getfield 98, 9, 66, 38), (190, 191, .iload_n 3, 3, 0, 0), (191, 192, .iaload, 0, 0, 0), (192, 194, .istore 4, 4, 0, 0), (194, 195, .aload_n 0, 0, 0, 0), (195, 198, .sipush 1884, 0, 0, 1884), (198, 199, .aload_n 0, 0, 0, 0), (199, 202, .getfield 63, 9, 55, 26), (202, 203, .iload_n 3, 3, 0, 0), (203, 204, .iaload, 0, 0, 0), (204, 205, .imul, 0, 0, 0), (205, 207, .iload 4, 4, 0, 0), (207, 208, .aload_n 0, 0, 0, 0), (208, 211, .getfield 25, 9, 44, 7), (211, 212, .iload_n 2, 2, 0, 0), (212, 213, .iaload, 0, 0, 0), (213, 215, .iload 4, 4, 0, 0)]
theorem zmk_144_1 : ∀ x ∈ zc_144_1, zchk 144 x = true := List.all_eq_true.mp (by decide +kernel)
def zc_144_2 : List zE := [(215, 216, .iconst 1, 0, 0, 1), (216, 219, .if_icmp .le 14, 230, 0, 0), (219, 220, .aload_n 0, 0, 0, 0), (220, 223, .getfield 25, 9, 44, 7), (223, 224, .iload_n 2, 2, 0, 0), (224, 225, .iconst 1, 0, 0, 1), (225, 226, .iadd, 0, 0, 0), (226, 227, .iaload, 0, 0, 0), (227, 230, .goto 4, 231, 0, 0), (230, 231, .iconst 0, 0, 0, 0), (231, 233, .iload 4, 4, 0, 0), (233, 234, .iconst 2, 0, 0, 2), (234, 237, .if_icmp .le 14, 248, 0, 0), (237, 238, .aload_n 0, 0, 0, 0), (238, 241, .getfield 25, 9, 44, 7), (241, 242, .iload_n 2, 2, 0, 0), (242, 243, .iconst 2, 0, 0, 2), (243, 244, .iadd, 0, 0, 0), (244, 245, .iaload, 0, 0, 0), (245, 248, .goto 4, 249, 0, 0), (248, 249, .iconst 0, 0, 0, 0), (249, 252, .invokestatic 182, 122, 4, 1), (252, 253, .iadd, 0, 0, 0), (253, 254, .iconst 1, 0, 0, 1), (254, 257, .invokevirtual 186, 124, 2, 37), (257, 259, .istore 5, 5, 0, 0), (259, 260, .iload_n 2, 2, 0, 0), (260, 262, .iload 4, 4, 0, 0), (262, 263, .iadd, 0, 0, 0), (263, 264, .istore_n 2, 2, 0, 0), (264, 267, .iinc 3 1, 3, 0, 1), (267, 270, .goto (-89), 178, 0, 0), (270, 271, .iconst 1, 0, 0, 1), (271, 272, .istore_n 3, 3, 0, 0), (272, 273, .iload_n 3, 3, 0, 0), (273, 274, .aload_n 0, 0, 0, 0), (274, 277, .getfield 190, 9, 0, 25), (277, 280, .if_icmp .ge 37, 314, 0, 0), (280, 281, .aload_n 0, 0, 0, 0), (281, 283, .ldc 189, 0, 0, 48984), (283, 285, .bipush 26, 0, 0, 26), (285, 286, .aload_n 0, 0, 0, 0), (286, 289, .getfield 63, 9, 55, 26), (289, 290, .iload_n 3, 3, 0, 0), (290, 291, .iconst 1, 0, 0, 1), (291, 292, .isub, 0, 0, 0), (292, 293, .iaload, 0, 0, 0), (293, 294, .imul, 0, 0, 0), (294, 295, .iadd, 0, 0, 0), (295, 296, .aload_n 0, 0, 0, 0), (296, 299, .getfield 63, 9, 55, 26), (299, 300, .iload_n 3, 3, 0, 0), (300, 301, .iaload, 0, 0, 0), (301, 302, .iadd, 0, 0, 0), (302, 303, .iconst 1, 0, 0, 1), (303, 306, .invokevirtual 186, 124, 2, 37), (306, 308, .istore 4, 4, 0, 0), (308, 311, .iinc 3 1, 3, 0, 1), (311, 314, .goto (-39), 272, 0, 0), (314, 315, .aload_n 0, 0, 0, 0)]
theorem zmk_144_2 : ∀ x ∈ zc_144_2, zchk 144 x = true := List.all_eq_true.mp (by decide +kernel)
def zc_144_3 : List zE := [(315, 318, .invokevirtual 125, 111, 0, 36), (318, 319, .aload_n 0, 0, 0, 0), (319, 322, .getfield 190, 9, 0, 25), (322, 323, .istore_n 3, 3, 0, 0), (323, 324, .aload_n 0, 0, 0, 0), (324, 325, .iconst 0, 0, 0, 0), (325, 328, .putfield 190, 9, 0, 25), (328, 329, .iload_n 3, 3, 0, 0), (329, 330, .ireturn, 0, 0, 0)]
theorem zmk_144_3 : ∀ x ∈ zc_144_3, zchk 144 x = true := List.all_eq_true.mp (by decide +kernel)
def zc_144 : List zE := [(0, 1, .aload_n 0, 0, 0, 0), (1, 2, .iload_n 1, 1, 0, 0), (2, 5, .invokevirtual 155, 116, 1, 37), (5, 8, .ifCond .ne 6, 11, 0, 0), (8, 10, .ldc 117, 0, 0, (-1000001)), (10, 11, .ireturn, 0, 0, 0), (11, 12, .aload_n 0, 0, 0, 0), (12, 15, .getfield 190, 9, 0, 25), (15, 18, .ifCond .eq 22, 37, 0, 0), (18, 19, .aload_n 0, 0, 0, 0), (19, 20, .iload_n 1, 1, 0, 0), (20, 21, .aload_n 0, 0, 0, 0), (21, 24, .getfield 63, 9, 55, 26), (24, 25, .iconst 0, 0, 0, 0), (25, 26, .aload_n 0, 0, 0, 0), (26, 29, .getfield 190, 9, 0, 25), (29, 32, .invokevirtual 208, 133, 4, 37), (32, 34, .ldc 203, 0, 0, 1000000000), (34, 37, .if_icmp .lt 6, 40, 0, 0), (37, 39, .ldc 202, 0, 0, (-1000002)), (39, 40, .ireturn, 0, 0, 0), (40, 41, .aload_n 0, 0, 0, 0), (41, 44, .getfield 170, 9, 0, 20), (44, 46, .bipush 50, 0, 0, 50), (46, 49, .if_icmp .ne 6, 52, 0, 0), (49, 51, .ldc 193, 0, 0, (-1000003)), (51, 52, .ireturn, 0, 0, 0), (52, 53, .aload_n 0, 0, 0, 0), (53, 56, .getfield 54, 9, 52, 21), (56, 57, .aload_n 0, 0, 0, 0), (57, 60, .getfield 170, 9, 0, 20), (60, 61, .aload_n 0, 0, 0, 0), (61, 64, .getfield 170, 9, 0, 20), (64, 67, .ifCond .ne 7, 71, 0, 0), (67, 68, .iconst 0, 0, 0, 0), (68, 71, .goto 7, 75, 0, 0), (71, 72, .aload_n 0, 0, 0, 0), (72, 75, .getfield 173, 9, 0, 17), (75, 76, .iastore, 0, 0, 0), (76, 77, .aload_n 0, 0, 0, 0), (77, 78, .aload_n 0, 0, 0, 0), (78, 81, .getfield 170, 9, 0, 20), (81, 84, .ifCond .ne 7, 88, 0, 0), (84, 85, .iconst 0, 0, 0, 0), (85, 88, .goto 7, 92, 0, 0), (88, 89, .aload_n 0, 0, 0, 0), (89, 92, .getfield 173, 9, 0, 17), (92, 95, .putfield 173, 9, 0, 17), (95, 96, .aload_n 0, 0, 0, 0), (96, 97, .dup, 0, 0, 0), (97, 100, .getfield 170, 9, 0, 20), (100, 101, .iconst 1, 0, 0, 1), (101, 102, .iadd, 0, 0, 0), (102, 105, .putfield 170, 9, 0, 20), (105, 106, .iconst 0, 0, 0, 0), (106, 107, .istore_n 2, 2, 0, 0), (107, 108, .iconst 0, 0, 0, 0), (108, 109, .istore_n 3, 3, 0, 0), (109, 110, .iload_n 3, 3, 0, 0), (110, 111, .aload_n 0, 0, 0, 0), (111, 114, .getfield 190, 9, 0, 25), (114, 117, .if_icmp .ge 55, 169, 0, 0), (117, 118, .iconst 3, 0, 0, 3), (118, 120, .istore 4, 4, 0, 0), (120, 121, .iload_n 2, 2, 0, 0), (121, 123, .iload 4, 4, 0, 0), (123, 124, .iadd, 0, 0, 0), (124, 125, .aload_n 0, 0, 0, 0), (125, 126, .iload_n 1, 1, 0, 0), (126, 129, .invokevirtual 158, 117, 1, 37), (129, 132, .if_icmp .gt 15, 144, 0, 0), (132, 133, .aload_n 0, 0, 0, 0), (133, 134, .iload_n 1, 1, 0, 0), (134, 135, .iload_n 3, 3, 0, 0), (135, 136, .iload_n 2, 2, 0, 0), (136, 138, .iload 4, 4, 0, 0), (138, 141, .invokevirtual 245, 145, 4, 37), (141, 144, .ifCond .ne 9, 150, 0, 0), (144, 147, .iinc 4 (-1), 4, 0, (-1)), (147, 150, .goto (-27), 120, 0, 0), (150, 151, .aload_n 0, 0, 0, 0), (151, 154, .getfield 98, 9, 66, 38), (154, 155, .iload_n 3, 3, 0, 0), (155, 157, .iload 4, 4, 0, 0), (157, 158, .iastore, 0, 0, 0), (158, 159, .iload_n 2, 2, 0, 0), (159, 161, .iload 4, 4, 0, 0), (161, 162, .iadd, 0, 0, 0), (162, 163, .istore_n 2, 2, 0, 0), (163, 166, .iinc 3 1, 3, 0, 1), (166, 169, .goto (-57), 109, 0, 0), (169, 170, .aload_n 0, 0, 0, 0), (170, 173, .getfield 38, 9, 47, 14), (173, 174, .iload_n 1, 1, 0, 0), (174, 175, .iaload, 0, 0, 0), (175, 176, .istore_n 2, 2, 0, 0), (176, 177, .iconst 0, 0, 0, 0), (177, 178, .istore_n 3, 3, 0, 0), (178, 179, .iload_n 3, 3, 0, 0), (179, 180, .aload_n 0, 0, 0, 0), (180, 183, .getfield 190, 9, 0, 25), (183, 186, .if_icmp .ge 87, 270, 0, 0), (186, 187, .aload_n 0, 0, 0, 0), (187, 190, .getfield 98, 9, 66, 38), (190, 191, .iload_n 3, 3, 0, 0), (191, 192, .iaload, 0, 0, 0), (192, 194, .istore 4, 4, 0, 0), (194, 195, .aload_n 0, 0, 0, 0), (195, 198, .sipush 1884, 0, 0, 1884), (198, 199, .aload_n 0, 0, 0, 0), (199, 202, .getfield 63, 9, 55, 26), (202, 203, .iload_n 3, 3, 0, 0), (203, 204, .iaload, 0, 0, 0), (204, 205, .imul, 0, 0, 0), (205, 207, .iload 4, 4, 0, 0), (207, 208, .aload_n 0, 0, 0, 0), (208, 211, .getfield 25, 9, 44, 7), (211, 212, .iload_n 2, 2, 0, 0), (212, 213, .iaload, 0, 0, 0), (213, 215, .iload 4, 4, 0, 0), (215, 216, .iconst 1, 0, 0, 1), (216, 219, .if_icmp .le 14, 230, 0, 0), (219, 220, .aload_n 0, 0, 0, 0), (220, 223, .getfield 25, 9, 44, 7), (223, 224, .iload_n 2, 2, 0, 0), (224, 225, .iconst 1, 0, 0, 1), (225, 226, .iadd, 0, 0, 0), (226, 227, .iaload, 0, 0, 0), (227, 230, .goto 4, 231, 0, 0), (230, 231, .iconst 0, 0, 0, 0), (231, 233, .iload 4, 4, 0, 0), (233, 234, .iconst 2, 0, 0, 2), (234, 237, .if_icmp .le 14, 248, 0, 0), (237, 238, .aload_n 0, 0, 0, 0), (238, 241, .getfield 25, 9, 44, 7), (241, 242, .iload_n 2, 2, 0, 0), (242, 243, .iconst 2, 0, 0, 2), (243, 244, .iadd, 0, 0, 0), (244, 245, .iaload, 0, 0, 0), (245, 248, .goto 4, 249, 0, 0), (248, 249, .iconst 0, 0, 0, 0), (249, 252, .invokestatic 182, 122, 4, 1), (252, 253, .iadd, 0, 0, 0), (253, 254, .iconst 1, 0, 0, 1), (254, 257, .invokevirtual 186, 124, 2, 37), (257, 259, .istore 5, 5, 0, 0), (259, 260, .iload_n 2, 2, 0, 0), (260, 262, .iload 4, 4, 0, 0), (262, 263, .iadd, 0, 0, 0), (263, 264, .istore_n 2, 2, 0, 0), (264, 267, .iinc 3 1, 3, 0, 1), (267, 270, .goto (-89), 178, 0, 0), (270, 271, .iconst 1, 0, 0, 1), (271, 272, .istore_n 3, 3, 0, 0), (272, 273, .iload_n 3, 3, 0, 0), (273, 274, .aload_n 0, 0, 0, 0), (274, 277, .getfield 190, 9, 0, 25), (277, 280, .if_icmp .ge 37, 314, 0, 0), (280, 281, .aload_n 0, 0, 0, 0), (281, 283, .ldc 189, 0, 0, 48984), (283, 285, .bipush 26, 0, 0, 26), (285, 286, .aload_n 0, 0, 0, 0), (286, 289, .getfield 63, 9, 55, 26), (289, 290, .iload_n 3, 3, 0, 0), (290, 291, .iconst 1, 0, 0, 1), (291, 292, .isub, 0, 0, 0), (292, 293, .iaload, 0, 0, 0), (293, 294, .imul, 0, 0, 0), (294, 295, .iadd, 0, 0, 0), (295, 296, .aload_n 0, 0, 0, 0), (296, 299, .getfield 63, 9, 55, 26), (299, 300, .iload_n 3, 3, 0, 0), (300, 301, .iaload, 0, 0, 0), (301, 302, .iadd, 0, 0, 0), (302, 303, .iconst 1, 0, 0, 1), (303, 306, .invokevirtual 186, 124, 2, 37), (306, 308, .istore 4, 4, 0, 0), (308, 311, .iinc 3 1, 3, 0, 1), (311, 314, .goto (-39), 272, 0, 0), (314, 315, .aload_n 0, 0, 0, 0), (315, 318, .invokevirtual 125, 111, 0, 36), (318, 319, .aload_n 0, 0, 0, 0), (319, 322, .getfield 190, 9, 0, 25), (322, 323, .istore_n 3, 3, 0, 0), (323, 324, .aload_n 0, 0, 0, 0), (324, 325, .iconst 0, 0, 0, 0), (325, 328, .putfield 190, 9, 0, 25), (328, 329, .iload_n 3, 3, 0, 0), (329, 330, .ireturn, 0, 0, 0)]
set_option maxRecDepth 100000 in
theorem zmk_144 : zMok 144 zc_144 := ⟨by
  show ∀ x ∈ zc_144_0 ++ (zc_144_1 ++ (zc_144_2 ++ (zc_144_3))), zchk 144 x = true
  exact List.forall_mem_append.mpr ⟨zmk_144_0, List.forall_mem_append.mpr ⟨zmk_144_1, List.forall_mem_append.mpr ⟨zmk_144_2, zmk_144_3⟩⟩⟩, by decide +kernel⟩
/-- PenLinesModel.isBest -/
def zc_145 : List zE := [(0, 1, .aload_n 0, 0, 0, 0), (1, 2, .aload_n 0, 0, 0, 0), (2, 5, .getfield 63, 9, 55, 26), (5, 6, .iload_n 2, 2, 0, 0), (6, 7, .iaload, 0, 0, 0), (7, 8, .aload_n 0, 0, 0, 0), (8, 11, .getfield 38, 9, 47, 14), (11, 12, .iload_n 1, 1, 0, 0), (12, 13, .iaload, 0, 0, 0), (13, 14, .iload_n 3, 3, 0, 0), (14, 15, .iadd, 0, 0, 0), (15, 17, .iload 4, 4, 0, 0), (17, 20, .invokevirtual 204, 132, 3, 37), (20, 22, .istore 5, 5, 0, 0), (22, 23, .aload_n 0, 0, 0, 0), (23, 26, .getfield 86, 9, 62, 34), (26, 28, .bipush 15, 0, 0, 15), (28, 29, .iload_n 2, 2, 0, 0), (29, 30, .iconst 1, 0, 0, 1), (30, 31, .iadd, 0, 0, 0), (31, 32, .imul, 0, 0, 0), (32, 33, .iload_n 3, 3, 0, 0), (33, 34, .iadd, 0, 0, 0), (34, 36, .iload 4, 4, 0, 0), (36, 37, .iadd, 0, 0, 0), (37, 38, .iaload, 0, 0, 0), (38, 40, .istore 6, 6, 0, 0), (40, 42, .iload 5, 5, 0, 0), (42, 44, .ldc 203, 0, 0, 1000000000), (44, 47, .if_icmp .ge 33, 77, 0, 0), (47, 49, .iload 6, 6, 0, 0), (49, 51, .ldc 203, 0, 0, 1000000000), (51, 54, .if_icmp .ge 26, 77, 0, 0), (54, 56, .iload 5, 5, 0, 0), (56, 58, .iload 6, 6, 0, 0), (58, 59, .iadd, 0, 0, 0), (59, 60, .aload_n 0, 0, 0, 0), (60, 63, .getfield 86, 9, 62, 34), (63, 65, .bipush 15, 0, 0, 15), (65, 66, .iload_n 2, 2, 0, 0), (66, 67, .imul, 0, 0, 0), (67, 68, .iload_n 3, 3, 0, 0), (68, 69, .iadd, 0, 0, 0), (69, 70, .iaload, 0, 0, 0), (70, 73, .if_icmp .ne 7, 77, 0, 0), (73, 74, .iconst 1, 0, 0, 1), (74, 77, .goto 4, 78, 0, 0), (77, 78, .iconst 0, 0, 0, 0), (78, 79, .ireturn, 1, 0, 0)]
theorem zmk_145 : zMok 145 zc_145 := ⟨List.all_eq_true.mp (by decide +kernel), by decide +kernel⟩
/-- PenLinesModel.unteach -/
def zc_146 : List zE := [(0, 1, .aload_n 0, 0, 0, 0), (1, 4, .getfield 170, 9, 0, 20), (4, 7, .ifCond .ne 6, 10, 0, 0), (7, 9, .ldc 197, 0, 0, (-1000000)), (9, 10, .ireturn, 0, 0, 0), (10, 11, .aload_n 0, 0, 0, 0), (11, 12, .dup, 0, 0, 0), (12, 15, .getfield 170, 9, 0, 20), (15, 16, .iconst 1, 0, 0, 1), (16, 17, .isub, 0, 0, 0), (17, 20, .putfield 170, 9, 0, 20), (20, 21, .aload_n 0, 0, 0, 0), (21, 24, .getfield 173, 9, 0, 17), (24, 25, .aload_n 0, 0, 0, 0), (25, 28, .getfield 54, 9, 52, 21), (28, 29, .aload_n 0, 0, 0, 0), (29, 32, .getfield 170, 9, 0, 20), (32, 33, .iaload, 0, 0, 0), (33, 36, .if_icmp .le 39, 72, 0, 0), (36, 37, .aload_n 0, 0, 0, 0), (37, 38, .dup, 0, 0, 0), (38, 41, .getfield 173, 9, 0, 17), (41, 42, .iconst 1, 0, 0, 1), (42, 43, .isub, 0, 0, 0), (43, 46, .putfield 173, 9, 0, 17), (46, 47, .aload_n 0, 0, 0, 0), (47, 50, .getfield 45, 9, 49, 16), (50, 51, .aload_n 0, 0, 0, 0), (51, 54, .getfield 48, 9, 50, 18), (54, 55, .aload_n 0, 0, 0, 0), (55, 58, .getfield 173, 9, 0, 17), (58, 59, .iaload, 0, 0, 0), (59, 60, .aload_n 0, 0, 0, 0), (60, 63, .getfield 51, 9, 51, 19), (63, 64, .aload_n 0, 0, 0, 0), (64, 67, .getfield 173, 9, 0, 17), (67, 68, .iaload, 0, 0, 0), (68, 69, .iastore, 0, 0, 0), (69, 72, .goto (-49), 20, 0, 0), (72, 73, .aload_n 0, 0, 0, 0), (73, 76, .invokevirtual 125, 111, 0, 36), (76, 77, .aload_n 0, 0, 0, 0), (77, 80, .getfield 170, 9, 0, 20), (80, 81, .ireturn, 0, 0, 0)]
theorem zmk_146 : zMok 146 zc_146 := ⟨List.all_eq_true.mp (by decide +kernel), by decide +kernel⟩
/-- PenLinesModel.kindOf -/
def zc_147 : List zE := [(0, 1, .aload_n 0, 0, 0, 0), (1, 2, .iload_n 1, 1, 0, 0), (2, 5, .invokevirtual 237, 139, 1, 36), (5, 6, .aload_n 0, 0, 0, 0), (6, 9, .getfield 73, 9, 58, 30), (9, 10, .iload_n 1, 1, 0, 0), (10, 11, .iaload, 0, 0, 0), (11, 14, .ifCond .ne 5, 16, 0, 0), (14, 15, .iconst 0, 0, 0, 0), (15, 16, .ireturn, 0, 0, 0), (16, 17, .aload_n 0, 0, 0, 0), (17, 20, .getfield 73, 9, 58, 30), (20, 21, .iload_n 1, 1, 0, 0), (21, 22, .iaload, 0, 0, 0), (22, 23, .iconst 1, 0, 0, 1), (23, 26, .if_icmp .le 28, 51, 0, 0), (26, 27, .aload_n 0, 0, 0, 0), (27, 30, .getfield 76, 9, 59, 31), (30, 31, .iconst 5, 0, 0, 5), (31, 32, .iload_n 1, 1, 0, 0), (32, 33, .imul, 0, 0, 0), (33, 34, .iconst 1, 0, 0, 1), (34, 35, .iadd, 0, 0, 0), (35, 36, .iaload, 0, 0, 0), (36, 37, .aload_n 0, 0, 0, 0), (37, 40, .getfield 76, 9, 59, 31), (40, 41, .iconst 5, 0, 0, 5), (41, 42, .iload_n 1, 1, 0, 0), (42, 43, .imul, 0, 0, 0), (43, 44, .iaload, 0, 0, 0), (44, 45, .iconst 4, 0, 0, 4), (45, 46, .iadd, 0, 0, 0), (46, 49, .if_icmp .ge 5, 51, 0, 0), (49, 50, .iconst 1, 0, 0, 1), (50, 51, .ireturn, 0, 0, 0), (51, 52, .aload_n 0, 0, 0, 0), (52, 53, .iload_n 1, 1, 0, 0), (53, 56, .invokevirtual 249, 148, 1, 37), (56, 58, .ldc 197, 0, 0, (-1000000)), (58, 61, .if_icmp .ne 7, 65, 0, 0), (61, 62, .iconst 2, 0, 0, 2), (62, 65, .goto 4, 66, 0, 0), (65, 66, .iconst 3, 0, 0, 3), (66, 67, .ireturn, 0, 0, 0)]
theorem zmk_147 : zMok 147 zc_147 := ⟨List.all_eq_true.mp (by decide +kernel), by decide +kernel⟩
/-- PenLinesModel.firstInList -/
def zc_148_0 : List zE := [(0, 1, .aload_n 0, 0, 0, 0), (1, 4, .getfield 83, 9, 61, 33), (4, 5, .iconst 5, 0, 0, 5), (5, 6, .iload_n 1, 1, 0, 0), (6, 7, .imul, 0, 0, 0), (7, 8, .iaload, 0, 0, 0), (8, 9, .istore_n 2, 2, 0, 0), (9, 10, .iconst 0, 0, 0, 0), (10, 11, .istore_n 3, 3, 0, 0), (11, 12, .iload_n 3, 3, 0, 0), (12, 13, .aload_n 0, 0, 0, 0), (13, 16, .getfield 194, 9, 0, 22), (16, 19, .if_icmp .ge 98, 114, 0, 0), (19, 20, .aload_n 0, 0, 0, 0), (20, 23, .getfield 57, 9, 53, 23), (23, 24, .iload_n 3, 3, 0, 0), (24, 25, .iaload, 0, 0, 0), (25, 26, .iload_n 2, 2, 0, 0), (26, 29, .if_icmp .ne 7, 33, 0, 0), (29, 30, .iconst 1, 0, 0, 1), (30, 33, .goto 4, 34, 0, 0), (33, 34, .iconst 0, 0, 0, 0), (34, 36, .istore 4, 4, 0, 0), (36, 37, .iconst 0, 0, 0, 0), (37, 39, .istore 5, 5, 0, 0), (39, 41, .iload 5, 5, 0, 0), (41, 42, .iload_n 2, 2, 0, 0), (42, 45, .if_icmp .ge 59, 101, 0, 0), (45, 47, .iload 4, 4, 0, 0), (47, 50, .ifCond .eq 54, 101, 0, 0), (50, 51, .aload_n 0, 0, 0, 0), (51, 54, .getfield 60, 9, 54, 24), (54, 56, .bipush 12, 0, 0, 12), (56, 57, .iload_n 3, 3, 0, 0), (57, 58, .imul, 0, 0, 0), (58, 60, .iload 5, 5, 0, 0), (60, 61, .iadd, 0, 0, 0), (61, 62, .iaload, 0, 0, 0), (62, 63, .i2l, 0, 0, 0), (63, 64, .aload_n 0, 0, 0, 0), (64, 67, .getfield 79, 9, 60, 32), (67, 68, .iconst 5, 0, 0, 5), (68, 69, .iload_n 1, 1, 0, 0), (69, 70, .imul, 0, 0, 0), (70, 71, .laload, 0, 0, 0), (71, 72, .iconst 5, 0, 0, 5), (72, 73, .iload_n 2, 2, 0, 0), (73, 74, .iconst 1, 0, 0, 1), (74, 75, .isub, 0, 0, 0), (75, 77, .iload 5, 5, 0, 0), (77, 78, .isub, 0, 0, 0), (78, 79, .imul, 0, 0, 0), (79, 80, .lshr, 0, 0, 0), (80, 83, .ldc2_w 219, 0, 0, 31), (83, 84, .land, 0, 0, 0), (84, 85, .lcmp, 0, 0, 0), (85, 88, .ifCond .ne 7, 92, 0, 0), (88, 89, .iconst 1, 0, 0, 1), (89, 92, .goto 4, 93, 0, 0), (92, 93, .iconst 0, 0, 0, 0)]
theorem zmk_148_0 : ∀ x ∈ zc_148_0, zchk 148 x = true := List.all_eq_true.mp (by decide +kernel)
def zc_148_1 : List zE := [(93, 95, .istore 4, 4, 0, 0), (95, 98, .iinc 5 1, 5, 0, 1), (98, 101, .goto (-59), 39, 0, 0), (101, 103, .iload 4, 4, 0, 0), (103, 106, .ifCond .eq 5, 108, 0, 0), (106, 107, .iload_n 3, 3, 0, 0), (107, 108, .ireturn, 0, 0, 0), (108, 111, .iinc 3 1, 3, 0, 1), (111, 114, .goto (-100), 11, 0, 0), (114, 116, .ldc 197, 0, 0, (-1000000)), (116, 117, .ireturn, 0, 0, 0)]
theorem zmk_148_1 : ∀ x ∈ zc_148_1, zchk 148 x = true := List.all_eq_true.mp (by decide +kernel)
def zc_148 : List zE := [(0, 1, .aload_n 0, 0, 0, 0), (1, 4, .getfield 83, 9, 61, 33), (4, 5, .iconst 5, 0, 0, 5), (5, 6, .iload_n 1, 1, 0, 0), (6, 7, .imul, 0, 0, 0), (7, 8, .iaload, 0, 0, 0), (8, 9, .istore_n 2, 2, 0, 0), (9, 10, .iconst 0, 0, 0, 0), (10, 11, .istore_n 3, 3, 0, 0), (11, 12, .iload_n 3, 3, 0, 0), (12, 13, .aload_n 0, 0, 0, 0), (13, 16, .getfield 194, 9, 0, 22), (16, 19, .if_icmp .ge 98, 114, 0, 0), (19, 20, .aload_n 0, 0, 0, 0), (20, 23, .getfield 57, 9, 53, 23), (23, 24, .iload_n 3, 3, 0, 0), (24, 25, .iaload, 0, 0, 0), (25, 26, .iload_n 2, 2, 0, 0), (26, 29, .if_icmp .ne 7, 33, 0, 0), (29, 30, .iconst 1, 0, 0, 1), (30, 33, .goto 4, 34, 0, 0), (33, 34, .iconst 0, 0, 0, 0), (34, 36, .istore 4, 4, 0, 0), (36, 37, .iconst 0, 0, 0, 0), (37, 39, .istore 5, 5, 0, 0), (39, 41, .iload 5, 5, 0, 0), (41, 42, .iload_n 2, 2, 0, 0), (42, 45, .if_icmp .ge 59, 101, 0, 0), (45, 47, .iload 4, 4, 0, 0), (47, 50, .ifCond .eq 54, 101, 0, 0), (50, 51, .aload_n 0, 0, 0, 0), (51, 54, .getfield 60, 9, 54, 24), (54, 56, .bipush 12, 0, 0, 12), (56, 57, .iload_n 3, 3, 0, 0), (57, 58, .imul, 0, 0, 0), (58, 60, .iload 5, 5, 0, 0), (60, 61, .iadd, 0, 0, 0), (61, 62, .iaload, 0, 0, 0), (62, 63, .i2l, 0, 0, 0), (63, 64, .aload_n 0, 0, 0, 0), (64, 67, .getfield 79, 9, 60, 32), (67, 68, .iconst 5, 0, 0, 5), (68, 69, .iload_n 1, 1, 0, 0), (69, 70, .imul, 0, 0, 0), (70, 71, .laload, 0, 0, 0), (71, 72, .iconst 5, 0, 0, 5), (72, 73, .iload_n 2, 2, 0, 0), (73, 74, .iconst 1, 0, 0, 1), (74, 75, .isub, 0, 0, 0), (75, 77, .iload 5, 5, 0, 0), (77, 78, .isub, 0, 0, 0), (78, 79, .imul, 0, 0, 0), (79, 80, .lshr, 0, 0, 0), (80, 83, .ldc2_w 219, 0, 0, 31), (83, 84, .land, 0, 0, 0), (84, 85, .lcmp, 0, 0, 0), (85, 88, .ifCond .ne 7, 92, 0, 0), (88, 89, .iconst 1, 0, 0, 1), (89, 92, .goto 4, 93, 0, 0), (92, 93, .iconst 0, 0, 0, 0), (93, 95, .istore 4, 4, 0, 0), (95, 98, .iinc 5 1, 5, 0, 1), (98, 101, .goto (-59), 39, 0, 0), (101, 103, .iload 4, 4, 0, 0), (103, 106, .ifCond .eq 5, 108, 0, 0), (106, 107, .iload_n 3, 3, 0, 0), (107, 108, .ireturn, 0, 0, 0), (108, 111, .iinc 3 1, 3, 0, 1), (111, 114, .goto (-100), 11, 0, 0), (114, 116, .ldc 197, 0, 0, (-1000000)), (116, 117, .ireturn, 0, 0, 0)]
set_option maxRecDepth 100000 in
theorem zmk_148 : zMok 148 zc_148 := ⟨by
  show ∀ x ∈ zc_148_0 ++ (zc_148_1), zchk 148 x = true
  exact List.forall_mem_append.mpr ⟨zmk_148_0, zmk_148_1⟩, by decide +kernel⟩
/-- PenLinesModel.kind -/
def zc_149 : List zE := [(0, 1, .aload_n 0, 0, 0, 0), (1, 2, .iload_n 1, 1, 0, 0), (2, 5, .invokevirtual 155, 116, 1, 37), (5, 8, .ifCond .eq 11, 16, 0, 0), (8, 9, .aload_n 0, 0, 0, 0), (9, 10, .iload_n 1, 1, 0, 0), (10, 13, .invokevirtual 252, 147, 1, 37), (13, 16, .goto 5, 18, 0, 0), (16, 18, .ldc 117, 0, 0, (-1000001)), (18, 19, .ireturn, 0, 0, 0)]
theorem zmk_149 : zMok 149 zc_149 := ⟨List.all_eq_true.mp (by decide +kernel), by decide +kernel⟩
/-- PenLinesModel.as -/
def zc_150 : List zE := [(0, 1, .aload_n 0, 0, 0, 0), (1, 2, .iload_n 1, 1, 0, 0), (2, 5, .invokevirtual 155, 116, 1, 37), (5, 8, .ifCond .eq 15, 20, 0, 0), (8, 9, .iload_n 2, 2, 0, 0), (9, 10, .i2l, 0, 0, 0), (10, 11, .lconst 0, 0, 0, 0), (11, 14, .ldc2_w 166, 0, 0, 3), (14, 17, .invokestatic 107, 103, 3, 1), (17, 20, .ifCond .ne 6, 23, 0, 0), (20, 22, .ldc 117, 0, 0, (-1000001)), (22, 23, .ireturn, 0, 0, 0), (23, 24, .aload_n 0, 0, 0, 0), (24, 25, .iload_n 1, 1, 0, 0), (25, 28, .invokevirtual 252, 147, 1, 37), (28, 29, .iload_n 2, 2, 0, 0), (29, 32, .if_icmp .lt 15, 44, 0, 0), (32, 33, .aload_n 0, 0, 0, 0), (33, 34, .aload_n 0, 0, 0, 0), (34, 35, .iload_n 1, 1, 0, 0), (35, 38, .invokevirtual 158, 117, 1, 37), (38, 41, .invokevirtual 122, 105, 1, 37), (41, 44, .goto 8, 49, 0, 0), (44, 45, .aload_n 0, 0, 0, 0), (45, 46, .iconst 3, 0, 0, 3), (46, 49, .invokevirtual 118, 104, 1, 37), (49, 50, .ireturn, 0, 0, 0)]
theorem zmk_150 : zMok 150 zc_150 := ⟨List.all_eq_true.mp (by decide +kernel), by decide +kernel⟩
/-- PenLinesModel.begins -/
def zc_151 : List zE := [(0, 1, .aload_n 0, 0, 0, 0), (1, 4, .getfield 255, 9, 0, 28), (4, 6, .bipush 16, 0, 0, 16), (6, 9, .if_icmp .ge 23, 29, 0, 0), (9, 10, .aload_n 0, 0, 0, 0), (10, 13, .getfield 66, 9, 56, 27), (13, 14, .aload_n 0, 0, 0, 0), (14, 17, .getfield 255, 9, 0, 28), (17, 18, .iload_n 1, 1, 0, 0), (18, 19, .iastore, 0, 0, 0), (19, 20, .aload_n 0, 0, 0, 0), (20, 21, .dup, 0, 0, 0), (21, 24, .getfield 255, 9, 0, 28), (24, 25, .iconst 1, 0, 0, 1), (25, 26, .iadd, 0, 0, 0), (26, 29, .putfield 255, 9, 0, 28), (29, 30, .return_, 0, 0, 0)]
theorem zmk_151 : zMok 151 zc_151 := ⟨List.all_eq_true.mp (by decide +kernel), by decide +kernel⟩
/-- PenLinesModel.mark -/
def zc_152 : List zE := [(0, 1, .aload_n 0, 0, 0, 0), (1, 2, .iload_n 1, 1, 0, 0), (2, 5, .invokevirtual 252, 147, 1, 37), (5, 6, .istore_n 2, 2, 0, 0), (6, 7, .iload_n 2, 2, 0, 0), (7, 8, .iconst 3, 0, 0, 3), (8, 11, .if_icmp .ne 9, 17, 0, 0), (11, 12, .aload_n 0, 0, 0, 0), (12, 14, .bipush 22, 0, 0, 22), (14, 17, .invokevirtual 258, 151, 1, 36), (17, 18, .iload_n 2, 2, 0, 0), (18, 19, .iconst 1, 0, 0, 1), (19, 22, .if_icmp .le 9, 28, 0, 0), (22, 23, .aload_n 0, 0, 0, 0), (23, 25, .bipush 21, 0, 0, 21), (25, 28, .invokevirtual 258, 151, 1, 36), (28, 29, .aload_n 0, 0, 0, 0), (29, 31, .bipush 20, 0, 0, 20), (31, 34, .invokevirtual 258, 151, 1, 36), (34, 35, .aload_n 0, 0, 0, 0), (35, 38, .getfield 41, 9, 48, 15), (38, 39, .iload_n 1, 1, 0, 0), (39, 40, .iaload, 0, 0, 0), (40, 41, .iload_n 2, 2, 0, 0), (41, 42, .iconst 1, 0, 0, 1), (42, 45, .if_icmp .le 8, 50, 0, 0), (45, 47, .bipush 100, 0, 0, 100), (47, 50, .goto 4, 51, 0, 0), (50, 51, .iconst 0, 0, 0, 0), (51, 52, .iadd, 0, 0, 0), (52, 53, .iload_n 2, 2, 0, 0), (53, 54, .iconst 3, 0, 0, 3), (54, 57, .if_icmp .ne 11, 65, 0, 0), (57, 58, .aload_n 0, 0, 0, 0), (58, 59, .iload_n 1, 1, 0, 0), (59, 62, .invokevirtual 249, 148, 1, 37), (62, 65, .goto 4, 66, 0, 0), (65, 66, .iconst 0, 0, 0, 0), (66, 67, .iadd, 0, 0, 0), (67, 68, .ireturn, 0, 0, 0)]
theorem zmk_152 : zMok 152 zc_152 := ⟨List.all_eq_true.mp (by decide +kernel), by decide +kernel⟩
/-- PenLinesModel.sizeOf -/
def zc_153 : List zE := [(0, 1, .aload_n 0, 0, 0, 0), (1, 2, .iload_n 1, 1, 0, 0), (2, 5, .invokevirtual 252, 147, 1, 37), (5, 6, .istore_n 2, 2, 0, 0), (6, 7, .iload_n 2, 2, 0, 0), (7, 8, .istore_n 3, 3, 0, 0), (8, 9, .iload_n 3, 3, 0, 0), (9, 12, .ifCond .le 17, 26, 0, 0), (12, 13, .aload_n 0, 0, 0, 0), (13, 15, .bipush 10, 0, 0, 10), (15, 16, .iload_n 3, 3, 0, 0), (16, 17, .iadd, 0, 0, 0), (17, 20, .invokevirtual 258, 151, 1, 36), (20, 23, .iinc 3 (-1), 3, 0, (-1)), (23, 26, .goto (-15), 8, 0, 0), (26, 27, .aload_n 0, 0, 0, 0), (27, 29, .bipush 10, 0, 0, 10), (29, 32, .invokevirtual 258, 151, 1, 36), (32, 33, .aload_n 0, 0, 0, 0), (33, 34, .iload_n 1, 1, 0, 0), (34, 37, .invokevirtual 158, 117, 1, 37), (37, 38, .iload_n 2, 2, 0, 0), (38, 41, .ifCond .le 14, 52, 0, 0), (41, 42, .aload_n 0, 0, 0, 0), (42, 45, .getfield 76, 9, 59, 31), (45, 46, .iconst 5, 0, 0, 5), (46, 47, .iload_n 1, 1, 0, 0), (47, 48, .imul, 0, 0, 0), (48, 49, .iaload, 0, 0, 0), (49, 52, .goto 4, 53, 0, 0), (52, 53, .iconst 0, 0, 0, 0), (53, 54, .iadd, 0, 0, 0), (54, 55, .istore_n 3, 3, 0, 0), (55, 56, .iload_n 2, 2, 0, 0), (56, 57, .iconst 1, 0, 0, 1), (57, 60, .if_icmp .le 9, 66, 0, 0), (60, 61, .iconst 2, 0, 0, 2), (61, 62, .iload_n 3, 3, 0, 0), (62, 63, .imul, 0, 0, 0), (63, 66, .goto 4, 67, 0, 0), (66, 67, .iload_n 3, 3, 0, 0), (67, 68, .istore_n 3, 3, 0, 0), (68, 69, .iload_n 2, 2, 0, 0), (69, 70, .iconst 3, 0, 0, 3), (70, 73, .if_icmp .ne 13, 83, 0, 0), (73, 74, .iload_n 3, 3, 0, 0), (74, 75, .aload_n 0, 0, 0, 0), (75, 76, .iload_n 1, 1, 0, 0), (76, 79, .invokevirtual 261, 152, 1, 37), (79, 80, .iadd, 0, 0, 0), (80, 83, .goto 4, 84, 0, 0), (83, 84, .iload_n 3, 3, 0, 0), (84, 85, .ireturn, 0, 0, 0)]
theorem zmk_153 : zMok 153 zc_153 := ⟨List.all_eq_true.mp (by decide +kernel), by decide +kernel⟩
/-- PenLinesModel.ask -/
def zc_154 : List zE := [(0, 1, .aload_n 0, 0, 0, 0), (1, 2, .iload_n 1, 1, 0, 0), (2, 5, .invokevirtual 155, 116, 1, 37), (5, 8, .ifCond .eq 13, 18, 0, 0), (8, 9, .iload_n 2, 2, 0, 0), (9, 10, .i2l, 0, 0, 0), (10, 11, .lconst 0, 0, 0, 0), (11, 12, .lconst 1, 0, 0, 1), (12, 15, .invokestatic 107, 103, 3, 1), (15, 18, .ifCond .ne 6, 21, 0, 0), (18, 20, .ldc 117, 0, 0, (-1000001)), (20, 21, .ireturn, 0, 0, 0), (21, 22, .aload_n 0, 0, 0, 0), (22, 23, .iconst 0, 0, 0, 0), (23, 26, .putfield 255, 9, 0, 28), (26, 27, .iload_n 2, 2, 0, 0), (27, 30, .ifCond .ne 11, 38, 0, 0), (30, 31, .aload_n 0, 0, 0, 0), (31, 32, .iload_n 1, 1, 0, 0), (32, 35, .invokevirtual 264, 153, 1, 37), (35, 38, .goto 8, 43, 0, 0), (38, 39, .aload_n 0, 0, 0, 0), (39, 40, .iload_n 1, 1, 0, 0), (40, 43, .invokevirtual 261, 152, 1, 37), (43, 44, .ireturn, 0, 0, 0)]
theorem zmk_154 : zMok 154 zc_154 := ⟨List.all_eq_true.mp (by decide +kernel), by decide +kernel⟩
/-- PenLinesModel.trace -/
def zc_155 : List zE := [(0, 1, .iload_n 1, 1, 0, 0), (1, 2, .i2l, 0, 0, 0), (2, 3, .lconst 0, 0, 0, 0), (3, 4, .aload_n 0, 0, 0, 0), (4, 7, .getfield 255, 9, 0, 28), (7, 8, .iconst 1, 0, 0, 1), (8, 9, .isub, 0, 0, 0), (9, 10, .i2l, 0, 0, 0), (10, 13, .invokestatic 107, 103, 3, 1), (13, 16, .ifCond .eq 12, 25, 0, 0), (16, 17, .aload_n 0, 0, 0, 0), (17, 20, .getfield 66, 9, 56, 27), (20, 21, .iload_n 1, 1, 0, 0), (21, 22, .iaload, 0, 0, 0), (22, 25, .goto 5, 27, 0, 0), (25, 27, .ldc 197, 0, 0, (-1000000)), (27, 28, .ireturn, 0, 0, 0)]
theorem zmk_155 : zMok 155 zc_155 := ⟨List.all_eq_true.mp (by decide +kernel), by decide +kernel⟩
/-- PenLinesModel.count -/
def zc_156_0 : List zE := [(0, 1, .iload_n 1, 1, 0, 0), (1, 2, .i2l, 0, 0, 0), (2, 3, .lconst 0, 0, 0, 0), (3, 6, .ldc2_w 105, 0, 0, 7), (6, 9, .invokestatic 107, 103, 3, 1), (9, 12, .ifCond .ne 6, 15, 0, 0), (12, 14, .ldc 117, 0, 0, (-1000001)), (14, 15, .ireturn, 0, 0, 0), (15, 16, .iconst 0, 0, 0, 0), (16, 17, .istore_n 2, 2, 0, 0), (17, 18, .iconst 0, 0, 0, 0), (18, 19, .istore_n 3, 3, 0, 0), (19, 20, .iload_n 3, 3, 0, 0), (20, 22, .bipush 8, 0, 0, 8), (22, 25, .if_icmp .ge 30, 52, 0, 0), (25, 26, .iload_n 1, 1, 0, 0), (26, 29, .ifCond .ne 26, 52, 0, 0), (29, 30, .iload_n 2, 2, 0, 0), (30, 31, .aload_n 0, 0, 0, 0), (31, 34, .getfield 7, 9, 39, 0), (34, 35, .iload_n 3, 3, 0, 0), (35, 36, .iaload, 0, 0, 0), (36, 39, .ifCond .le 7, 43, 0, 0), (39, 40, .iconst 1, 0, 0, 1), (40, 43, .goto 4, 44, 0, 0), (43, 44, .iconst 0, 0, 0, 0), (44, 45, .iadd, 0, 0, 0), (45, 46, .istore_n 2, 2, 0, 0), (46, 49, .iinc 3 1, 3, 0, 1), (49, 52, .goto (-30), 19, 0, 0), (52, 53, .iconst 0, 0, 0, 0), (53, 54, .istore_n 3, 3, 0, 0), (54, 55, .iload_n 3, 3, 0, 0), (55, 57, .ldc 189, 0, 0, 48984), (57, 60, .if_icmp .ge 31, 88, 0, 0), (60, 61, .iload_n 1, 1, 0, 0), (61, 62, .iconst 3, 0, 0, 3), (62, 65, .if_icmp .ne 26, 88, 0, 0), (65, 66, .iload_n 2, 2, 0, 0), (66, 67, .aload_n 0, 0, 0, 0), (67, 70, .getfield 45, 9, 49, 16), (70, 71, .iload_n 3, 3, 0, 0), (71, 72, .iaload, 0, 0, 0), (72, 75, .ifCond .le 7, 79, 0, 0), (75, 76, .iconst 1, 0, 0, 1), (76, 79, .goto 4, 80, 0, 0), (79, 80, .iconst 0, 0, 0, 0), (80, 81, .iadd, 0, 0, 0), (81, 82, .istore_n 2, 2, 0, 0), (82, 85, .iinc 3 1, 3, 0, 1), (85, 88, .goto (-31), 54, 0, 0), (88, 90, .ldc 189, 0, 0, 48984), (90, 91, .istore_n 3, 3, 0, 0), (91, 92, .iload_n 3, 3, 0, 0), (92, 94, .ldc 44, 0, 0, 49660), (94, 97, .if_icmp .ge 31, 125, 0, 0), (97, 98, .iload_n 1, 1, 0, 0), (98, 99, .iconst 4, 0, 0, 4), (99, 102, .if_icmp .ne 26, 125, 0, 0), (102, 103, .iload_n 2, 2, 0, 0)]
theorem zmk_156_0 : ∀ x ∈ zc_156_0, zchk 156 x = true := List.all_eq_true.mp (by decide +kernel)
def zc_156_1 : List zE := [(103, 104, .aload_n 0, 0, 0, 0), (104, 107, .getfield 45, 9, 49, 16), (107, 108, .iload_n 3, 3, 0, 0), (108, 109, .iaload, 0, 0, 0), (109, 112, .ifCond .le 7, 116, 0, 0), (112, 113, .iconst 1, 0, 0, 1), (113, 116, .goto 4, 117, 0, 0), (116, 117, .iconst 0, 0, 0, 0), (117, 118, .iadd, 0, 0, 0), (118, 119, .istore_n 2, 2, 0, 0), (119, 122, .iinc 3 1, 3, 0, 1), (122, 125, .goto (-31), 91, 0, 0), (125, 126, .iload_n 1, 1, 0, 0), (126, 127, .iconst 1, 0, 0, 1), (127, 130, .if_icmp .ne 10, 137, 0, 0), (130, 131, .aload_n 0, 0, 0, 0), (131, 134, .getfield 128, 9, 0, 13), (134, 137, .goto 54, 188, 0, 0), (137, 138, .iload_n 1, 1, 0, 0), (138, 139, .iconst 2, 0, 0, 2), (139, 142, .if_icmp .ne 10, 149, 0, 0), (142, 143, .aload_n 0, 0, 0, 0), (143, 146, .getfield 137, 9, 0, 9), (146, 149, .goto 42, 188, 0, 0), (149, 150, .iload_n 1, 1, 0, 0), (150, 151, .iconst 5, 0, 0, 5), (151, 154, .if_icmp .ne 10, 161, 0, 0), (154, 155, .aload_n 0, 0, 0, 0), (155, 158, .getfield 194, 9, 0, 22), (158, 161, .goto 30, 188, 0, 0), (161, 162, .iload_n 1, 1, 0, 0), (162, 164, .bipush 6, 0, 0, 6), (164, 167, .if_icmp .ne 10, 174, 0, 0), (167, 168, .aload_n 0, 0, 0, 0), (168, 171, .getfield 190, 9, 0, 25), (171, 174, .goto 17, 188, 0, 0), (174, 175, .iload_n 1, 1, 0, 0), (175, 177, .bipush 7, 0, 0, 7), (177, 180, .if_icmp .ne 10, 187, 0, 0), (180, 181, .aload_n 0, 0, 0, 0), (181, 184, .getfield 170, 9, 0, 20), (184, 187, .goto 4, 188, 0, 0), (187, 188, .iload_n 2, 2, 0, 0), (188, 189, .ireturn, 0, 0, 0)]
theorem zmk_156_1 : ∀ x ∈ zc_156_1, zchk 156 x = true := List.all_eq_true.mp (by decide +kernel)
def zc_156 : List zE := [(0, 1, .iload_n 1, 1, 0, 0), (1, 2, .i2l, 0, 0, 0), (2, 3, .lconst 0, 0, 0, 0), (3, 6, .ldc2_w 105, 0, 0, 7), (6, 9, .invokestatic 107, 103, 3, 1), (9, 12, .ifCond .ne 6, 15, 0, 0), (12, 14, .ldc 117, 0, 0, (-1000001)), (14, 15, .ireturn, 0, 0, 0), (15, 16, .iconst 0, 0, 0, 0), (16, 17, .istore_n 2, 2, 0, 0), (17, 18, .iconst 0, 0, 0, 0), (18, 19, .istore_n 3, 3, 0, 0), (19, 20, .iload_n 3, 3, 0, 0), (20, 22, .bipush 8, 0, 0, 8), (22, 25, .if_icmp .ge 30, 52, 0, 0), (25, 26, .iload_n 1, 1, 0, 0), (26, 29, .ifCond .ne 26, 52, 0, 0), (29, 30, .iload_n 2, 2, 0, 0), (30, 31, .aload_n 0, 0, 0, 0), (31, 34, .getfield 7, 9, 39, 0), (34, 35, .iload_n 3, 3, 0, 0), (35, 36, .iaload, 0, 0, 0), (36, 39, .ifCond .le 7, 43, 0, 0), (39, 40, .iconst 1, 0, 0, 1), (40, 43, .goto 4, 44, 0, 0), (43, 44, .iconst 0, 0, 0, 0), (44, 45, .iadd, 0, 0, 0), (45, 46, .istore_n 2, 2, 0, 0), (46, 49, .iinc 3 1, 3, 0, 1), (49, 52, .goto (-30), 19, 0, 0), (52, 53, .iconst 0, 0, 0, 0), (53, 54, .istore_n 3, 3, 0, 0), (54, 55, .iload_n 3, 3, 0, 0), (55, 57, .ldc 189, 0, 0, 48984), (57, 60, .if_icmp .ge 31, 88, 0, 0), (60, 61, .iload_n 1, 1, 0, 0), (61, 62, .iconst 3, 0, 0, 3), (62, 65, .if_icmp .ne 26, 88, 0, 0), (65, 66, .iload_n 2, 2, 0, 0), (66, 67, .aload_n 0, 0, 0, 0), (67, 70, .getfield 45, 9, 49, 16), (70, 71, .iload_n 3, 3, 0, 0), (71, 72, .iaload, 0, 0, 0), (72, 75, .ifCond .le 7, 79, 0, 0), (75, 76, .iconst 1, 0, 0, 1), (76, 79, .goto 4, 80, 0, 0), (79, 80, .iconst 0, 0, 0, 0), (80, 81, .iadd, 0, 0, 0), (81, 82, .istore_n 2, 2, 0, 0), (82, 85, .iinc 3 1, 3, 0, 1), (85, 88, .goto (-31), 54, 0, 0), (88, 90, .ldc 189, 0, 0, 48984), (90, 91, .istore_n 3, 3, 0, 0), (91, 92, .iload_n 3, 3, 0, 0), (92, 94, .ldc 44, 0, 0, 49660), (94, 97, .if_icmp .ge 31, 125, 0, 0), (97, 98, .iload_n 1, 1, 0, 0), (98, 99, .iconst 4, 0, 0, 4), (99, 102, .if_icmp .ne 26, 125, 0, 0), (102, 103, .iload_n 2, 2, 0, 0), (103, 104, .aload_n 0, 0, 0, 0), (104, 107, .getfield 45, 9, 49, 16), (107, 108, .iload_n 3, 3, 0, 0), (108, 109, .iaload, 0, 0, 0), (109, 112, .ifCond .le 7, 116, 0, 0), (112, 113, .iconst 1, 0, 0, 1), (113, 116, .goto 4, 117, 0, 0), (116, 117, .iconst 0, 0, 0, 0), (117, 118, .iadd, 0, 0, 0), (118, 119, .istore_n 2, 2, 0, 0), (119, 122, .iinc 3 1, 3, 0, 1), (122, 125, .goto (-31), 91, 0, 0), (125, 126, .iload_n 1, 1, 0, 0), (126, 127, .iconst 1, 0, 0, 1), (127, 130, .if_icmp .ne 10, 137, 0, 0), (130, 131, .aload_n 0, 0, 0, 0), (131, 134, .getfield 128, 9, 0, 13), (134, 137, .goto 54, 188, 0, 0), (137, 138, .iload_n 1, 1, 0, 0), (138, 139, .iconst 2, 0, 0, 2), (139, 142, .if_icmp .ne 10, 149, 0, 0), (142, 143, .aload_n 0, 0, 0, 0), (143, 146, .getfield 137, 9, 0, 9), (146, 149, .goto 42, 188, 0, 0), (149, 150, .iload_n 1, 1, 0, 0), (150, 151, .iconst 5, 0, 0, 5), (151, 154, .if_icmp .ne 10, 161, 0, 0), (154, 155, .aload_n 0, 0, 0, 0), (155, 158, .getfield 194, 9, 0, 22), (158, 161, .goto 30, 188, 0, 0), (161, 162, .iload_n 1, 1, 0, 0), (162, 164, .bipush 6, 0, 0, 6), (164, 167, .if_icmp .ne 10, 174, 0, 0), (167, 168, .aload_n 0, 0, 0, 0), (168, 171, .getfield 190, 9, 0, 25), (171, 174, .goto 17, 188, 0, 0), (174, 175, .iload_n 1, 1, 0, 0), (175, 177, .bipush 7, 0, 0, 7), (177, 180, .if_icmp .ne 10, 187, 0, 0), (180, 181, .aload_n 0, 0, 0, 0), (181, 184, .getfield 170, 9, 0, 20), (184, 187, .goto 4, 188, 0, 0), (187, 188, .iload_n 2, 2, 0, 0), (188, 189, .ireturn, 0, 0, 0)]
set_option maxRecDepth 100000 in
theorem zmk_156 : zMok 156 zc_156 := ⟨by
  show ∀ x ∈ zc_156_0 ++ (zc_156_1), zchk 156 x = true
  exact List.forall_mem_append.mpr ⟨zmk_156_0, zmk_156_1⟩, by decide +kernel⟩
/-- PenLinesModel.status -/
def zc_157 : List zE := [(0, 1, .aload_n 0, 0, 0, 0), (1, 4, .getfield 101, 9, 0, 4), (4, 5, .ireturn, 0, 0, 0)]
theorem zmk_157 : zMok 157 zc_157 := ⟨List.all_eq_true.mp (by decide +kernel), by decide +kernel⟩
end
section
/-! the rows of the methods, and that they are the methods' own -/
/-- PenLinesLaw.law -/
def zc_159_0 : List zE := [(16, 17, .iconst 0, 0, 0, 0), (17, 18, .istore_n 3, 3, 0, 0), (18, 19, .iload_n 3, 3, 0, 0), (19, 20, .aload_n 0, 0, 0, 0), (20, 21, .arraylength, 0, 0, 0), (21, 23, .bipush 7, 0, 0, 7), (23, 24, .isub, 0, 0, 0), (24, 27, .if_icmp .gt 984, 1008, 0, 0), (27, 28, .aload_n 0, 0, 0, 0), (28, 29, .iload_n 3, 3, 0, 0), (29, 30, .iaload, 0, 0, 0), (30, 32, .bipush 31, 0, 0, 31), (32, 33, .iand, 0, 0, 0), (33, 152, .tableswitch 969 0 25 #[119, 162, 205, 268, 291, 334, 357, 390, 433, 446, 521, 584, 627, 650, 663, 676, 719, 762, 785, 808, 821, 844, 877, 910, 933, 956], 0, 119, 0), (152, 153, .aload_n 1, 1, 0, 0), (153, 154, .aload_n 0, 0, 0, 0), (154, 155, .iload_n 3, 3, 0, 0), (155, 156, .iconst 1, 0, 0, 1), (156, 157, .iadd, 0, 0, 0), (157, 158, .iaload, 0, 0, 0), (158, 159, .aload_n 0, 0, 0, 0), (159, 160, .iload_n 3, 3, 0, 0), (160, 161, .iconst 2, 0, 0, 2), (161, 162, .iadd, 0, 0, 0), (162, 163, .iaload, 0, 0, 0), (163, 164, .aload_n 0, 0, 0, 0), (164, 165, .iload_n 3, 3, 0, 0), (165, 166, .iconst 3, 0, 0, 3), (166, 167, .iadd, 0, 0, 0), (167, 168, .iaload, 0, 0, 0), (168, 171, .invokevirtual 13, 50, 3, 1), (171, 172, .aload_n 2, 2, 0, 0), (172, 173, .aload_n 0, 0, 0, 0), (173, 174, .iload_n 3, 3, 0, 0), (174, 175, .iconst 1, 0, 0, 1), (175, 176, .iadd, 0, 0, 0), (176, 177, .iaload, 0, 0, 0), (177, 178, .aload_n 0, 0, 0, 0), (178, 179, .iload_n 3, 3, 0, 0), (179, 180, .iconst 2, 0, 0, 2), (180, 181, .iadd, 0, 0, 0), (181, 182, .iaload, 0, 0, 0), (182, 183, .aload_n 0, 0, 0, 0), (183, 184, .iload_n 3, 3, 0, 0), (184, 185, .iconst 3, 0, 0, 3), (185, 186, .iadd, 0, 0, 0), (186, 187, .iaload, 0, 0, 0), (187, 190, .invokevirtual 17, 107, 3, 37), (190, 193, .if_icmp .eq 812, 1002, 0, 0), (193, 194, .iconst 0, 0, 0, 0), (194, 195, .ireturn, 1, 0, 0), (195, 196, .aload_n 1, 1, 0, 0), (196, 197, .aload_n 0, 0, 0, 0), (197, 198, .iload_n 3, 3, 0, 0), (198, 199, .iconst 1, 0, 0, 1), (199, 200, .iadd, 0, 0, 0), (200, 201, .iaload, 0, 0, 0), (201, 202, .aload_n 0, 0, 0, 0), (202, 203, .iload_n 3, 3, 0, 0), (203, 204, .iconst 2, 0, 0, 2)]
theorem zmk_159_0 : ∀ x ∈ zc_159_0, zchk 159 x = true := List.all_eq_true.mp (by decide +kernel)
def zc_159_1 : List zE := [(204, 205, .iadd, 0, 0, 0), (205, 206, .iaload, 0, 0, 0), (206, 207, .aload_n 0, 0, 0, 0), (207, 208, .iload_n 3, 3, 0, 0), (208, 209, .iconst 3, 0, 0, 3), (209, 210, .iadd, 0, 0, 0), (210, 211, .iaload, 0, 0, 0), (211, 214, .invokevirtual 18, 51, 3, 1), (214, 215, .aload_n 2, 2, 0, 0), (215, 216, .aload_n 0, 0, 0, 0), (216, 217, .iload_n 3, 3, 0, 0), (217, 218, .iconst 1, 0, 0, 1), (218, 219, .iadd, 0, 0, 0), (219, 220, .iaload, 0, 0, 0), (220, 221, .aload_n 0, 0, 0, 0), (221, 222, .iload_n 3, 3, 0, 0), (222, 223, .iconst 2, 0, 0, 2), (223, 224, .iadd, 0, 0, 0), (224, 225, .iaload, 0, 0, 0), (225, 226, .aload_n 0, 0, 0, 0), (226, 227, .iload_n 3, 3, 0, 0), (227, 228, .iconst 3, 0, 0, 3), (228, 229, .iadd, 0, 0, 0), (229, 230, .iaload, 0, 0, 0), (230, 233, .invokevirtual 21, 108, 3, 37), (233, 236, .if_icmp .eq 769, 1002, 0, 0), (236, 237, .iconst 0, 0, 0, 0), (237, 238, .ireturn, 1, 0, 0), (238, 239, .aload_n 1, 1, 0, 0), (239, 240, .aload_n 0, 0, 0, 0), (240, 241, .iload_n 3, 3, 0, 0), (241, 242, .iconst 1, 0, 0, 1), (242, 243, .iadd, 0, 0, 0), (243, 244, .iaload, 0, 0, 0), (244, 245, .aload_n 0, 0, 0, 0), (245, 246, .iload_n 3, 3, 0, 0), (246, 247, .iconst 2, 0, 0, 2), (247, 248, .iadd, 0, 0, 0), (248, 249, .iaload, 0, 0, 0), (249, 250, .aload_n 0, 0, 0, 0), (250, 251, .iload_n 3, 3, 0, 0), (251, 252, .iconst 3, 0, 0, 3), (252, 253, .iadd, 0, 0, 0), (253, 254, .iaload, 0, 0, 0), (254, 255, .aload_n 0, 0, 0, 0), (255, 256, .iload_n 3, 3, 0, 0), (256, 257, .iconst 4, 0, 0, 4), (257, 258, .iadd, 0, 0, 0), (258, 259, .iaload, 0, 0, 0), (259, 260, .aload_n 0, 0, 0, 0), (260, 261, .iload_n 3, 3, 0, 0), (261, 262, .iconst 5, 0, 0, 5), (262, 263, .iadd, 0, 0, 0), (263, 264, .iaload, 0, 0, 0), (264, 267, .invokevirtual 22, 52, 5, 1), (267, 268, .aload_n 2, 2, 0, 0), (268, 269, .aload_n 0, 0, 0, 0), (269, 270, .iload_n 3, 3, 0, 0), (270, 271, .iconst 1, 0, 0, 1), (271, 272, .iadd, 0, 0, 0)]
theorem zmk_159_1 : ∀ x ∈ zc_159_1, zchk 159 x = true := List.all_eq_true.mp (by decide +kernel)
def zc_159_2 : List zE := [(272, 273, .iaload, 0, 0, 0), (273, 274, .aload_n 0, 0, 0, 0), (274, 275, .iload_n 3, 3, 0, 0), (275, 276, .iconst 2, 0, 0, 2), (276, 277, .iadd, 0, 0, 0), (277, 278, .iaload, 0, 0, 0), (278, 279, .aload_n 0, 0, 0, 0), (279, 280, .iload_n 3, 3, 0, 0), (280, 281, .iconst 3, 0, 0, 3), (281, 282, .iadd, 0, 0, 0), (282, 283, .iaload, 0, 0, 0), (283, 284, .aload_n 0, 0, 0, 0), (284, 285, .iload_n 3, 3, 0, 0), (285, 286, .iconst 4, 0, 0, 4), (286, 287, .iadd, 0, 0, 0), (287, 288, .iaload, 0, 0, 0), (288, 289, .aload_n 0, 0, 0, 0), (289, 290, .iload_n 3, 3, 0, 0), (290, 291, .iconst 5, 0, 0, 5), (291, 292, .iadd, 0, 0, 0), (292, 293, .iaload, 0, 0, 0), (293, 296, .invokevirtual 26, 109, 5, 37), (296, 299, .if_icmp .eq 706, 1002, 0, 0), (299, 300, .iconst 0, 0, 0, 0), (300, 301, .ireturn, 1, 0, 0), (301, 302, .aload_n 1, 1, 0, 0), (302, 303, .aload_n 0, 0, 0, 0), (303, 304, .iload_n 3, 3, 0, 0), (304, 305, .iconst 1, 0, 0, 1), (305, 306, .iadd, 0, 0, 0), (306, 307, .iaload, 0, 0, 0), (307, 310, .invokevirtual 27, 53, 1, 1), (310, 311, .aload_n 2, 2, 0, 0), (311, 312, .aload_n 0, 0, 0, 0), (312, 313, .iload_n 3, 3, 0, 0), (313, 314, .iconst 1, 0, 0, 1), (314, 315, .iadd, 0, 0, 0), (315, 316, .iaload, 0, 0, 0), (316, 319, .invokevirtual 31, 110, 1, 37), (319, 322, .if_icmp .eq 683, 1002, 0, 0), (322, 323, .iconst 0, 0, 0, 0), (323, 324, .ireturn, 1, 0, 0), (324, 325, .aload_n 1, 1, 0, 0), (325, 326, .aload_n 0, 0, 0, 0), (326, 327, .iload_n 3, 3, 0, 0), (327, 328, .iconst 1, 0, 0, 1), (328, 329, .iadd, 0, 0, 0), (329, 330, .iaload, 0, 0, 0), (330, 331, .aload_n 0, 0, 0, 0), (331, 332, .iload_n 3, 3, 0, 0), (332, 333, .iconst 2, 0, 0, 2), (333, 334, .iadd, 0, 0, 0), (334, 335, .iaload, 0, 0, 0), (335, 336, .aload_n 0, 0, 0, 0), (336, 337, .iload_n 3, 3, 0, 0), (337, 338, .iconst 3, 0, 0, 3), (338, 339, .iadd, 0, 0, 0), (339, 340, .iaload, 0, 0, 0), (340, 343, .invokevirtual 32, 54, 3, 1), (343, 344, .aload_n 2, 2, 0, 0)]
theorem zmk_159_2 : ∀ x ∈ zc_159_2, zchk 159 x = true := List.all_eq_true.mp (by decide +kernel)
def zc_159_3 : List zE := [(344, 345, .aload_n 0, 0, 0, 0), (345, 346, .iload_n 3, 3, 0, 0), (346, 347, .iconst 1, 0, 0, 1), (347, 348, .iadd, 0, 0, 0), (348, 349, .iaload, 0, 0, 0), (349, 350, .aload_n 0, 0, 0, 0), (350, 351, .iload_n 3, 3, 0, 0), (351, 352, .iconst 2, 0, 0, 2), (352, 353, .iadd, 0, 0, 0), (353, 354, .iaload, 0, 0, 0), (354, 355, .aload_n 0, 0, 0, 0), (355, 356, .iload_n 3, 3, 0, 0), (356, 357, .iconst 3, 0, 0, 3), (357, 358, .iadd, 0, 0, 0), (358, 359, .iaload, 0, 0, 0), (359, 362, .invokevirtual 35, 114, 3, 37), (362, 365, .if_icmp .eq 640, 1002, 0, 0), (365, 366, .iconst 0, 0, 0, 0), (366, 367, .ireturn, 1, 0, 0), (367, 368, .aload_n 1, 1, 0, 0), (368, 369, .aload_n 0, 0, 0, 0), (369, 370, .iload_n 3, 3, 0, 0), (370, 371, .iconst 1, 0, 0, 1), (371, 372, .iadd, 0, 0, 0), (372, 373, .iaload, 0, 0, 0), (373, 376, .invokevirtual 36, 55, 1, 1), (376, 377, .aload_n 2, 2, 0, 0), (377, 378, .aload_n 0, 0, 0, 0), (378, 379, .iload_n 3, 3, 0, 0), (379, 380, .iconst 1, 0, 0, 1), (380, 381, .iadd, 0, 0, 0), (381, 382, .iaload, 0, 0, 0), (382, 385, .invokevirtual 39, 115, 1, 37), (385, 388, .if_icmp .eq 617, 1002, 0, 0), (388, 389, .iconst 0, 0, 0, 0), (389, 390, .ireturn, 1, 0, 0), (390, 391, .aload_n 1, 1, 0, 0), (391, 392, .aload_n 0, 0, 0, 0), (392, 393, .iload_n 3, 3, 0, 0), (393, 394, .iconst 1, 0, 0, 1), (394, 395, .iadd, 0, 0, 0), (395, 396, .iaload, 0, 0, 0), (396, 397, .aload_n 0, 0, 0, 0), (397, 398, .iload_n 3, 3, 0, 0), (398, 399, .iconst 2, 0, 0, 2), (399, 400, .iadd, 0, 0, 0), (400, 401, .iaload, 0, 0, 0), (401, 404, .invokevirtual 40, 56, 2, 1), (404, 405, .aload_n 2, 2, 0, 0), (405, 406, .aload_n 0, 0, 0, 0), (406, 407, .iload_n 3, 3, 0, 0), (407, 408, .iconst 1, 0, 0, 1), (408, 409, .iadd, 0, 0, 0), (409, 410, .iaload, 0, 0, 0), (410, 411, .aload_n 0, 0, 0, 0), (411, 412, .iload_n 3, 3, 0, 0), (412, 413, .iconst 2, 0, 0, 2), (413, 414, .iadd, 0, 0, 0), (414, 415, .iaload, 0, 0, 0), (415, 418, .invokevirtual 44, 118, 2, 37)]
theorem zmk_159_3 : ∀ x ∈ zc_159_3, zchk 159 x = true := List.all_eq_true.mp (by decide +kernel)
def zc_159_4 : List zE := [(418, 421, .if_icmp .eq 584, 1002, 0, 0), (421, 422, .iconst 0, 0, 0, 0), (422, 423, .ireturn, 1, 0, 0), (423, 424, .aload_n 1, 1, 0, 0), (424, 425, .aload_n 0, 0, 0, 0), (425, 426, .iload_n 3, 3, 0, 0), (426, 427, .iconst 1, 0, 0, 1), (427, 428, .iadd, 0, 0, 0), (428, 429, .iaload, 0, 0, 0), (429, 430, .aload_n 0, 0, 0, 0), (430, 431, .iload_n 3, 3, 0, 0), (431, 432, .iconst 2, 0, 0, 2), (432, 433, .iadd, 0, 0, 0), (433, 434, .iaload, 0, 0, 0), (434, 435, .aload_n 0, 0, 0, 0), (435, 436, .iload_n 3, 3, 0, 0), (436, 437, .iconst 3, 0, 0, 3), (437, 438, .iadd, 0, 0, 0), (438, 439, .iaload, 0, 0, 0), (439, 442, .invokevirtual 45, 57, 3, 1), (442, 443, .aload_n 2, 2, 0, 0), (443, 444, .aload_n 0, 0, 0, 0), (444, 445, .iload_n 3, 3, 0, 0), (445, 446, .iconst 1, 0, 0, 1), (446, 447, .iadd, 0, 0, 0), (447, 448, .iaload, 0, 0, 0), (448, 449, .aload_n 0, 0, 0, 0), (449, 450, .iload_n 3, 3, 0, 0), (450, 451, .iconst 2, 0, 0, 2), (451, 452, .iadd, 0, 0, 0), (452, 453, .iaload, 0, 0, 0), (453, 454, .aload_n 0, 0, 0, 0), (454, 455, .iload_n 3, 3, 0, 0), (455, 456, .iconst 3, 0, 0, 3), (456, 457, .iadd, 0, 0, 0), (457, 458, .iaload, 0, 0, 0), (458, 461, .invokevirtual 48, 119, 3, 37), (461, 464, .if_icmp .eq 541, 1002, 0, 0), (464, 465, .iconst 0, 0, 0, 0), (465, 466, .ireturn, 1, 0, 0), (466, 467, .aload_n 1, 1, 0, 0), (467, 470, .invokevirtual 49, 58, 0, 1), (470, 471, .aload_n 2, 2, 0, 0), (471, 474, .invokevirtual 53, 120, 0, 37), (474, 477, .if_icmp .eq 528, 1002, 0, 0), (477, 478, .iconst 0, 0, 0, 0), (478, 479, .ireturn, 1, 0, 0), (479, 480, .aload_n 1, 1, 0, 0), (480, 481, .aload_n 0, 0, 0, 0), (481, 482, .iload_n 3, 3, 0, 0), (482, 483, .iconst 1, 0, 0, 1), (483, 484, .iadd, 0, 0, 0), (484, 485, .iaload, 0, 0, 0), (485, 486, .aload_n 0, 0, 0, 0), (486, 487, .iload_n 3, 3, 0, 0), (487, 488, .iconst 2, 0, 0, 2), (488, 489, .iadd, 0, 0, 0), (489, 490, .iaload, 0, 0, 0), (490, 491, .aload_n 0, 0, 0, 0), (491, 492, .iload_n 3, 3, 0, 0)]
theorem zmk_159_4 : ∀ x ∈ zc_159_4, zchk 159 x = true := List.all_eq_true.mp (by decide +kernel)
def zc_159_5 : List zE := [(492, 493, .iconst 3, 0, 0, 3), (493, 494, .iadd, 0, 0, 0), (494, 495, .iaload, 0, 0, 0), (495, 496, .aload_n 0, 0, 0, 0), (496, 497, .iload_n 3, 3, 0, 0), (497, 498, .iconst 4, 0, 0, 4), (498, 499, .iadd, 0, 0, 0), (499, 500, .iaload, 0, 0, 0), (500, 501, .aload_n 0, 0, 0, 0), (501, 502, .iload_n 3, 3, 0, 0), (502, 503, .iconst 5, 0, 0, 5), (503, 504, .iadd, 0, 0, 0), (504, 505, .iaload, 0, 0, 0), (505, 506, .aload_n 0, 0, 0, 0), (506, 507, .iload_n 3, 3, 0, 0), (507, 509, .bipush 6, 0, 0, 6), (509, 510, .iadd, 0, 0, 0), (510, 511, .iaload, 0, 0, 0), (511, 514, .invokevirtual 54, 59, 6, 1), (514, 515, .aload_n 2, 2, 0, 0), (515, 516, .aload_n 0, 0, 0, 0), (516, 517, .iload_n 3, 3, 0, 0), (517, 518, .iconst 1, 0, 0, 1), (518, 519, .iadd, 0, 0, 0), (519, 520, .iaload, 0, 0, 0), (520, 521, .aload_n 0, 0, 0, 0), (521, 522, .iload_n 3, 3, 0, 0), (522, 523, .iconst 2, 0, 0, 2), (523, 524, .iadd, 0, 0, 0), (524, 525, .iaload, 0, 0, 0), (525, 526, .aload_n 0, 0, 0, 0), (526, 527, .iload_n 3, 3, 0, 0), (527, 528, .iconst 3, 0, 0, 3), (528, 529, .iadd, 0, 0, 0), (529, 530, .iaload, 0, 0, 0), (530, 531, .aload_n 0, 0, 0, 0), (531, 532, .iload_n 3, 3, 0, 0), (532, 533, .iconst 4, 0, 0, 4), (533, 534, .iadd, 0, 0, 0), (534, 535, .iaload, 0, 0, 0), (535, 536, .aload_n 0, 0, 0, 0), (536, 537, .iload_n 3, 3, 0, 0), (537, 538, .iconst 5, 0, 0, 5), (538, 539, .iadd, 0, 0, 0), (539, 540, .iaload, 0, 0, 0), (540, 541, .aload_n 0, 0, 0, 0), (541, 542, .iload_n 3, 3, 0, 0), (542, 544, .bipush 6, 0, 0, 6), (544, 545, .iadd, 0, 0, 0), (545, 546, .iaload, 0, 0, 0), (546, 549, .invokevirtual 58, 125, 6, 37), (549, 552, .if_icmp .eq 453, 1002, 0, 0), (552, 553, .iconst 0, 0, 0, 0), (553, 554, .ireturn, 1, 0, 0), (554, 555, .aload_n 1, 1, 0, 0), (555, 556, .aload_n 0, 0, 0, 0), (556, 557, .iload_n 3, 3, 0, 0), (557, 558, .iconst 1, 0, 0, 1), (558, 559, .iadd, 0, 0, 0), (559, 560, .iaload, 0, 0, 0)]
theorem zmk_159_5 : ∀ x ∈ zc_159_5, zchk 159 x = true := List.all_eq_true.mp (by decide +kernel)
def zc_159_6 : List zE := [(560, 561, .aload_n 0, 0, 0, 0), (561, 562, .iload_n 3, 3, 0, 0), (562, 563, .iconst 2, 0, 0, 2), (563, 564, .iadd, 0, 0, 0), (564, 565, .iaload, 0, 0, 0), (565, 566, .aload_n 0, 0, 0, 0), (566, 567, .iload_n 3, 3, 0, 0), (567, 568, .iconst 3, 0, 0, 3), (568, 569, .iadd, 0, 0, 0), (569, 570, .iaload, 0, 0, 0), (570, 571, .aload_n 0, 0, 0, 0), (571, 572, .iload_n 3, 3, 0, 0), (572, 573, .iconst 4, 0, 0, 4), (573, 574, .iadd, 0, 0, 0), (574, 575, .iaload, 0, 0, 0), (575, 576, .aload_n 0, 0, 0, 0), (576, 577, .iload_n 3, 3, 0, 0), (577, 578, .iconst 5, 0, 0, 5), (578, 579, .iadd, 0, 0, 0), (579, 580, .iaload, 0, 0, 0), (580, 583, .invokevirtual 59, 60, 5, 1), (583, 584, .aload_n 2, 2, 0, 0), (584, 585, .aload_n 0, 0, 0, 0), (585, 586, .iload_n 3, 3, 0, 0), (586, 587, .iconst 1, 0, 0, 1), (587, 588, .iadd, 0, 0, 0), (588, 589, .iaload, 0, 0, 0), (589, 590, .aload_n 0, 0, 0, 0), (590, 591, .iload_n 3, 3, 0, 0), (591, 592, .iconst 2, 0, 0, 2), (592, 593, .iadd, 0, 0, 0), (593, 594, .iaload, 0, 0, 0), (594, 595, .aload_n 0, 0, 0, 0), (595, 596, .iload_n 3, 3, 0, 0), (596, 597, .iconst 3, 0, 0, 3), (597, 598, .iadd, 0, 0, 0), (598, 599, .iaload, 0, 0, 0), (599, 600, .aload_n 0, 0, 0, 0), (600, 601, .iload_n 3, 3, 0, 0), (601, 602, .iconst 4, 0, 0, 4), (602, 603, .iadd, 0, 0, 0), (603, 604, .iaload, 0, 0, 0), (604, 605, .aload_n 0, 0, 0, 0), (605, 606, .iload_n 3, 3, 0, 0), (606, 607, .iconst 5, 0, 0, 5), (607, 608, .iadd, 0, 0, 0), (608, 609, .iaload, 0, 0, 0), (609, 612, .invokevirtual 62, 126, 5, 37), (612, 615, .if_icmp .eq 390, 1002, 0, 0), (615, 616, .iconst 0, 0, 0, 0), (616, 617, .ireturn, 1, 0, 0), (617, 618, .aload_n 1, 1, 0, 0), (618, 619, .aload_n 0, 0, 0, 0), (619, 620, .iload_n 3, 3, 0, 0), (620, 621, .iconst 1, 0, 0, 1), (621, 622, .iadd, 0, 0, 0), (622, 623, .iaload, 0, 0, 0), (623, 624, .aload_n 0, 0, 0, 0), (624, 625, .iload_n 3, 3, 0, 0), (625, 626, .iconst 2, 0, 0, 2)]
theorem zmk_159_6 : ∀ x ∈ zc_159_6, zchk 159 x = true := List.all_eq_true.mp (by decide +kernel)
def zc_159_7 : List zE := [(626, 627, .iadd, 0, 0, 0), (627, 628, .iaload, 0, 0, 0), (628, 629, .aload_n 0, 0, 0, 0), (629, 630, .iload_n 3, 3, 0, 0), (630, 631, .iconst 3, 0, 0, 3), (631, 632, .iadd, 0, 0, 0), (632, 633, .iaload, 0, 0, 0), (633, 636, .invokevirtual 63, 61, 3, 1), (636, 637, .aload_n 2, 2, 0, 0), (637, 638, .aload_n 0, 0, 0, 0), (638, 639, .iload_n 3, 3, 0, 0), (639, 640, .iconst 1, 0, 0, 1), (640, 641, .iadd, 0, 0, 0), (641, 642, .iaload, 0, 0, 0), (642, 643, .aload_n 0, 0, 0, 0), (643, 644, .iload_n 3, 3, 0, 0), (644, 645, .iconst 2, 0, 0, 2), (645, 646, .iadd, 0, 0, 0), (646, 647, .iaload, 0, 0, 0), (647, 648, .aload_n 0, 0, 0, 0), (648, 649, .iload_n 3, 3, 0, 0), (649, 650, .iconst 3, 0, 0, 3), (650, 651, .iadd, 0, 0, 0), (651, 652, .iaload, 0, 0, 0), (652, 655, .invokevirtual 66, 127, 3, 37), (655, 658, .if_icmp .eq 347, 1002, 0, 0), (658, 659, .iconst 0, 0, 0, 0), (659, 660, .ireturn, 1, 0, 0), (660, 661, .aload_n 1, 1, 0, 0), (661, 662, .aload_n 0, 0, 0, 0), (662, 663, .iload_n 3, 3, 0, 0), (663, 664, .iconst 1, 0, 0, 1), (664, 665, .iadd, 0, 0, 0), (665, 666, .iaload, 0, 0, 0), (666, 669, .invokevirtual 67, 62, 1, 1), (669, 670, .aload_n 2, 2, 0, 0), (670, 671, .aload_n 0, 0, 0, 0), (671, 672, .iload_n 3, 3, 0, 0), (672, 673, .iconst 1, 0, 0, 1), (673, 674, .iadd, 0, 0, 0), (674, 675, .iaload, 0, 0, 0), (675, 678, .invokevirtual 70, 128, 1, 37), (678, 681, .if_icmp .eq 324, 1002, 0, 0), (681, 682, .iconst 0, 0, 0, 0), (682, 683, .ireturn, 1, 0, 0), (683, 684, .aload_n 1, 1, 0, 0), (684, 687, .invokevirtual 71, 63, 0, 1), (687, 688, .aload_n 2, 2, 0, 0), (688, 691, .invokevirtual 74, 130, 0, 37), (691, 694, .if_icmp .eq 311, 1002, 0, 0), (694, 695, .iconst 0, 0, 0, 0), (695, 696, .ireturn, 1, 0, 0), (696, 697, .aload_n 1, 1, 0, 0), (697, 700, .invokevirtual 75, 64, 0, 1), (700, 701, .aload_n 2, 2, 0, 0), (701, 704, .invokevirtual 78, 131, 0, 37), (704, 707, .if_icmp .eq 298, 1002, 0, 0), (707, 708, .iconst 0, 0, 0, 0), (708, 709, .ireturn, 1, 0, 0), (709, 710, .aload_n 1, 1, 0, 0)]
theorem zmk_159_7 : ∀ x ∈ zc_159_7, zchk 159 x = true := List.all_eq_true.mp (by decide +kernel)
def zc_159_8 : List zE := [(710, 711, .aload_n 0, 0, 0, 0), (711, 712, .iload_n 3, 3, 0, 0), (712, 713, .iconst 1, 0, 0, 1), (713, 714, .iadd, 0, 0, 0), (714, 715, .iaload, 0, 0, 0), (715, 716, .aload_n 0, 0, 0, 0), (716, 717, .iload_n 3, 3, 0, 0), (717, 718, .iconst 2, 0, 0, 2), (718, 719, .iadd, 0, 0, 0), (719, 720, .iaload, 0, 0, 0), (720, 721, .aload_n 0, 0, 0, 0), (721, 722, .iload_n 3, 3, 0, 0), (722, 723, .iconst 3, 0, 0, 3), (723, 724, .iadd, 0, 0, 0), (724, 725, .iaload, 0, 0, 0), (725, 728, .invokevirtual 79, 65, 3, 1), (728, 729, .aload_n 2, 2, 0, 0), (729, 730, .aload_n 0, 0, 0, 0), (730, 731, .iload_n 3, 3, 0, 0), (731, 732, .iconst 1, 0, 0, 1), (732, 733, .iadd, 0, 0, 0), (733, 734, .iaload, 0, 0, 0), (734, 735, .aload_n 0, 0, 0, 0), (735, 736, .iload_n 3, 3, 0, 0), (736, 737, .iconst 2, 0, 0, 2), (737, 738, .iadd, 0, 0, 0), (738, 739, .iaload, 0, 0, 0), (739, 740, .aload_n 0, 0, 0, 0), (740, 741, .iload_n 3, 3, 0, 0), (741, 742, .iconst 3, 0, 0, 3), (742, 743, .iadd, 0, 0, 0), (743, 744, .iaload, 0, 0, 0), (744, 747, .invokevirtual 82, 134, 3, 37), (747, 750, .if_icmp .eq 255, 1002, 0, 0), (750, 751, .iconst 0, 0, 0, 0), (751, 752, .ireturn, 1, 0, 0), (752, 753, .aload_n 1, 1, 0, 0), (753, 754, .aload_n 0, 0, 0, 0), (754, 755, .iload_n 3, 3, 0, 0), (755, 756, .iconst 1, 0, 0, 1), (756, 757, .iadd, 0, 0, 0), (757, 758, .iaload, 0, 0, 0), (758, 759, .aload_n 0, 0, 0, 0), (759, 760, .iload_n 3, 3, 0, 0), (760, 761, .iconst 2, 0, 0, 2), (761, 762, .iadd, 0, 0, 0), (762, 763, .iaload, 0, 0, 0), (763, 764, .aload_n 0, 0, 0, 0), (764, 765, .iload_n 3, 3, 0, 0), (765, 766, .iconst 3, 0, 0, 3), (766, 767, .iadd, 0, 0, 0), (767, 768, .iaload, 0, 0, 0), (768, 771, .invokevirtual 83, 66, 3, 1), (771, 772, .aload_n 2, 2, 0, 0), (772, 773, .aload_n 0, 0, 0, 0), (773, 774, .iload_n 3, 3, 0, 0), (774, 775, .iconst 1, 0, 0, 1), (775, 776, .iadd, 0, 0, 0), (776, 777, .iaload, 0, 0, 0), (777, 778, .aload_n 0, 0, 0, 0)]
theorem zmk_159_8 : ∀ x ∈ zc_159_8, zchk 159 x = true := List.all_eq_true.mp (by decide +kernel)
def zc_159_9 : List zE := [(778, 779, .iload_n 3, 3, 0, 0), (779, 780, .iconst 2, 0, 0, 2), (780, 781, .iadd, 0, 0, 0), (781, 782, .iaload, 0, 0, 0), (782, 783, .aload_n 0, 0, 0, 0), (783, 784, .iload_n 3, 3, 0, 0), (784, 785, .iconst 3, 0, 0, 3), (785, 786, .iadd, 0, 0, 0), (786, 787, .iaload, 0, 0, 0), (787, 790, .invokevirtual 86, 141, 3, 37), (790, 793, .if_icmp .eq 212, 1002, 0, 0), (793, 794, .iconst 0, 0, 0, 0), (794, 795, .ireturn, 1, 0, 0), (795, 796, .aload_n 1, 1, 0, 0), (796, 797, .aload_n 0, 0, 0, 0), (797, 798, .iload_n 3, 3, 0, 0), (798, 799, .iconst 1, 0, 0, 1), (799, 800, .iadd, 0, 0, 0), (800, 801, .iaload, 0, 0, 0), (801, 804, .invokevirtual 87, 67, 1, 1), (804, 805, .aload_n 2, 2, 0, 0), (805, 806, .aload_n 0, 0, 0, 0), (806, 807, .iload_n 3, 3, 0, 0), (807, 808, .iconst 1, 0, 0, 1), (808, 809, .iadd, 0, 0, 0), (809, 810, .iaload, 0, 0, 0), (810, 813, .invokevirtual 90, 143, 1, 37), (813, 816, .if_icmp .eq 189, 1002, 0, 0), (816, 817, .iconst 0, 0, 0, 0), (817, 818, .ireturn, 1, 0, 0), (818, 819, .aload_n 1, 1, 0, 0), (819, 820, .aload_n 0, 0, 0, 0), (820, 821, .iload_n 3, 3, 0, 0), (821, 822, .iconst 1, 0, 0, 1), (822, 823, .iadd, 0, 0, 0), (823, 824, .iaload, 0, 0, 0), (824, 827, .invokevirtual 91, 68, 1, 1), (827, 828, .aload_n 2, 2, 0, 0), (828, 829, .aload_n 0, 0, 0, 0), (829, 830, .iload_n 3, 3, 0, 0), (830, 831, .iconst 1, 0, 0, 1), (831, 832, .iadd, 0, 0, 0), (832, 833, .iaload, 0, 0, 0), (833, 836, .invokevirtual 94, 144, 1, 37), (836, 839, .if_icmp .eq 166, 1002, 0, 0), (839, 840, .iconst 0, 0, 0, 0), (840, 841, .ireturn, 1, 0, 0), (841, 842, .aload_n 1, 1, 0, 0), (842, 845, .invokevirtual 95, 69, 0, 1), (845, 846, .aload_n 2, 2, 0, 0), (846, 849, .invokevirtual 98, 146, 0, 37), (849, 852, .if_icmp .eq 153, 1002, 0, 0), (852, 853, .iconst 0, 0, 0, 0), (853, 854, .ireturn, 1, 0, 0), (854, 855, .aload_n 1, 1, 0, 0), (855, 856, .aload_n 0, 0, 0, 0), (856, 857, .iload_n 3, 3, 0, 0), (857, 858, .iconst 1, 0, 0, 1), (858, 859, .iadd, 0, 0, 0), (859, 860, .iaload, 0, 0, 0)]
theorem zmk_159_9 : ∀ x ∈ zc_159_9, zchk 159 x = true := List.all_eq_true.mp (by decide +kernel)
def zc_159_10 : List zE := [(860, 863, .invokevirtual 99, 70, 1, 1), (863, 864, .aload_n 2, 2, 0, 0), (864, 865, .aload_n 0, 0, 0, 0), (865, 866, .iload_n 3, 3, 0, 0), (866, 867, .iconst 1, 0, 0, 1), (867, 868, .iadd, 0, 0, 0), (868, 869, .iaload, 0, 0, 0), (869, 872, .invokevirtual 102, 149, 1, 37), (872, 875, .if_icmp .eq 130, 1002, 0, 0), (875, 876, .iconst 0, 0, 0, 0), (876, 877, .ireturn, 1, 0, 0), (877, 878, .aload_n 1, 1, 0, 0), (878, 879, .aload_n 0, 0, 0, 0), (879, 880, .iload_n 3, 3, 0, 0), (880, 881, .iconst 1, 0, 0, 1), (881, 882, .iadd, 0, 0, 0), (882, 883, .iaload, 0, 0, 0), (883, 884, .aload_n 0, 0, 0, 0), (884, 885, .iload_n 3, 3, 0, 0), (885, 886, .iconst 2, 0, 0, 2), (886, 887, .iadd, 0, 0, 0), (887, 888, .iaload, 0, 0, 0), (888, 891, .invokevirtual 103, 71, 2, 1), (891, 892, .aload_n 2, 2, 0, 0), (892, 893, .aload_n 0, 0, 0, 0), (893, 894, .iload_n 3, 3, 0, 0), (894, 895, .iconst 1, 0, 0, 1), (895, 896, .iadd, 0, 0, 0), (896, 897, .iaload, 0, 0, 0), (897, 898, .aload_n 0, 0, 0, 0), (898, 899, .iload_n 3, 3, 0, 0), (899, 900, .iconst 2, 0, 0, 2), (900, 901, .iadd, 0, 0, 0), (901, 902, .iaload, 0, 0, 0), (902, 905, .invokevirtual 106, 150, 2, 37), (905, 908, .if_icmp .eq 97, 1002, 0, 0), (908, 909, .iconst 0, 0, 0, 0), (909, 910, .ireturn, 1, 0, 0), (910, 911, .aload_n 1, 1, 0, 0), (911, 912, .aload_n 0, 0, 0, 0), (912, 913, .iload_n 3, 3, 0, 0), (913, 914, .iconst 1, 0, 0, 1), (914, 915, .iadd, 0, 0, 0), (915, 916, .iaload, 0, 0, 0), (916, 917, .aload_n 0, 0, 0, 0), (917, 918, .iload_n 3, 3, 0, 0), (918, 919, .iconst 2, 0, 0, 2), (919, 920, .iadd, 0, 0, 0), (920, 921, .iaload, 0, 0, 0), (921, 924, .invokevirtual 107, 72, 2, 1), (924, 925, .aload_n 2, 2, 0, 0), (925, 926, .aload_n 0, 0, 0, 0), (926, 927, .iload_n 3, 3, 0, 0), (927, 928, .iconst 1, 0, 0, 1), (928, 929, .iadd, 0, 0, 0), (929, 930, .iaload, 0, 0, 0), (930, 931, .aload_n 0, 0, 0, 0), (931, 932, .iload_n 3, 3, 0, 0), (932, 933, .iconst 2, 0, 0, 2), (933, 934, .iadd, 0, 0, 0)]
theorem zmk_159_10 : ∀ x ∈ zc_159_10, zchk 159 x = true := List.all_eq_true.mp (by decide +kernel)
def zc_159_11 : List zE := [(934, 935, .iaload, 0, 0, 0), (935, 938, .invokevirtual 110, 154, 2, 37), (938, 941, .if_icmp .eq 64, 1002, 0, 0), (941, 942, .iconst 0, 0, 0, 0), (942, 943, .ireturn, 1, 0, 0), (943, 944, .aload_n 1, 1, 0, 0), (944, 945, .aload_n 0, 0, 0, 0), (945, 946, .iload_n 3, 3, 0, 0), (946, 947, .iconst 1, 0, 0, 1), (947, 948, .iadd, 0, 0, 0), (948, 949, .iaload, 0, 0, 0), (949, 952, .invokevirtual 111, 73, 1, 1), (952, 953, .aload_n 2, 2, 0, 0), (953, 954, .aload_n 0, 0, 0, 0), (954, 955, .iload_n 3, 3, 0, 0), (955, 956, .iconst 1, 0, 0, 1), (956, 957, .iadd, 0, 0, 0), (957, 958, .iaload, 0, 0, 0), (958, 961, .invokevirtual 114, 155, 1, 37), (961, 964, .if_icmp .eq 41, 1002, 0, 0), (964, 965, .iconst 0, 0, 0, 0), (965, 966, .ireturn, 1, 0, 0), (966, 967, .aload_n 1, 1, 0, 0), (967, 968, .aload_n 0, 0, 0, 0), (968, 969, .iload_n 3, 3, 0, 0), (969, 970, .iconst 1, 0, 0, 1), (970, 971, .iadd, 0, 0, 0), (971, 972, .iaload, 0, 0, 0), (972, 975, .invokevirtual 115, 74, 1, 1), (975, 976, .aload_n 2, 2, 0, 0), (976, 977, .aload_n 0, 0, 0, 0), (977, 978, .iload_n 3, 3, 0, 0), (978, 979, .iconst 1, 0, 0, 1), (979, 980, .iadd, 0, 0, 0), (980, 981, .iaload, 0, 0, 0), (981, 984, .invokevirtual 118, 156, 1, 37), (984, 987, .if_icmp .eq 18, 1002, 0, 0), (987, 988, .iconst 0, 0, 0, 0), (988, 989, .ireturn, 1, 0, 0), (989, 990, .aload_n 1, 1, 0, 0), (990, 993, .invokevirtual 119, 75, 0, 1), (993, 994, .aload_n 2, 2, 0, 0), (994, 997, .invokevirtual 122, 157, 0, 37), (997, 1000, .if_icmp .eq 5, 1002, 0, 0), (1000, 1001, .iconst 0, 0, 0, 0), (1001, 1002, .ireturn, 1, 0, 0), (1002, 1005, .iinc 3 7, 3, 0, 7), (1005, 1008, .goto (-987), 18, 0, 0), (1008, 1009, .iconst 1, 0, 0, 1), (1009, 1010, .ireturn, 1, 0, 0)]
theorem zmk_159_11 : ∀ x ∈ zc_159_11, zchk 159 x = true := List.all_eq_true.mp (by decide +kernel)
def zc_159 : List zE := [(16, 17, .iconst 0, 0, 0, 0), (17, 18, .istore_n 3, 3, 0, 0), (18, 19, .iload_n 3, 3, 0, 0), (19, 20, .aload_n 0, 0, 0, 0), (20, 21, .arraylength, 0, 0, 0), (21, 23, .bipush 7, 0, 0, 7), (23, 24, .isub, 0, 0, 0), (24, 27, .if_icmp .gt 984, 1008, 0, 0), (27, 28, .aload_n 0, 0, 0, 0), (28, 29, .iload_n 3, 3, 0, 0), (29, 30, .iaload, 0, 0, 0), (30, 32, .bipush 31, 0, 0, 31), (32, 33, .iand, 0, 0, 0), (33, 152, .tableswitch 969 0 25 #[119, 162, 205, 268, 291, 334, 357, 390, 433, 446, 521, 584, 627, 650, 663, 676, 719, 762, 785, 808, 821, 844, 877, 910, 933, 956], 0, 119, 0), (152, 153, .aload_n 1, 1, 0, 0), (153, 154, .aload_n 0, 0, 0, 0), (154, 155, .iload_n 3, 3, 0, 0), (155, 156, .iconst 1, 0, 0, 1), (156, 157, .iadd, 0, 0, 0), (157, 158, .iaload, 0, 0, 0), (158, 159, .aload_n 0, 0, 0, 0), (159, 160, .iload_n 3, 3, 0, 0), (160, 161, .iconst 2, 0, 0, 2), (161, 162, .iadd, 0, 0, 0), (162, 163, .iaload, 0, 0, 0), (163, 164, .aload_n 0, 0, 0, 0), (164, 165, .iload_n 3, 3, 0, 0), (165, 166, .iconst 3, 0, 0, 3), (166, 167, .iadd, 0, 0, 0), (167, 168, .iaload, 0, 0, 0), (168, 171, .invokevirtual 13, 50, 3, 1), (171, 172, .aload_n 2, 2, 0, 0), (172, 173, .aload_n 0, 0, 0, 0), (173, 174, .iload_n 3, 3, 0, 0), (174, 175, .iconst 1, 0, 0, 1), (175, 176, .iadd, 0, 0, 0), (176, 177, .iaload, 0, 0, 0), (177, 178, .aload_n 0, 0, 0, 0), (178, 179, .iload_n 3, 3, 0, 0), (179, 180, .iconst 2, 0, 0, 2), (180, 181, .iadd, 0, 0, 0), (181, 182, .iaload, 0, 0, 0), (182, 183, .aload_n 0, 0, 0, 0), (183, 184, .iload_n 3, 3, 0, 0), (184, 185, .iconst 3, 0, 0, 3), (185, 186, .iadd, 0, 0, 0), (186, 187, .iaload, 0, 0, 0), (187, 190, .invokevirtual 17, 107, 3, 37), (190, 193, .if_icmp .eq 812, 1002, 0, 0), (193, 194, .iconst 0, 0, 0, 0), (194, 195, .ireturn, 1, 0, 0), (195, 196, .aload_n 1, 1, 0, 0), (196, 197, .aload_n 0, 0, 0, 0), (197, 198, .iload_n 3, 3, 0, 0), (198, 199, .iconst 1, 0, 0, 1), (199, 200, .iadd, 0, 0, 0), (200, 201, .iaload, 0, 0, 0), (201, 202, .aload_n 0, 0, 0, 0), (202, 203, .iload_n 3, 3, 0, 0), (203, 204, .iconst 2, 0, 0, 2), (204, 205, .iadd, 0, 0, 0), (205, 206, .iaload, 0, 0, 0), (206, 207, .aload_n 0, 0, 0, 0), (207, 208, .iload_n 3, 3, 0, 0), (208, 209, .iconst 3, 0, 0, 3), (209, 210, .iadd, 0, 0, 0), (210, 211, .iaload, 0, 0, 0), (211, 214, .invokevirtual 18, 51, 3, 1), (214, 215, .aload_n 2, 2, 0, 0), (215, 216, .aload_n 0, 0, 0, 0), (216, 217, .iload_n 3, 3, 0, 0), (217, 218, .iconst 1, 0, 0, 1), (218, 219, .iadd, 0, 0, 0), (219, 220, .iaload, 0, 0, 0), (220, 221, .aload_n 0, 0, 0, 0), (221, 222, .iload_n 3, 3, 0, 0), (222, 223, .iconst 2, 0, 0, 2), (223, 224, .iadd, 0, 0, 0), (224, 225, .iaload, 0, 0, 0), (225, 226, .aload_n 0, 0, 0, 0), (226, 227, .iload_n 3, 3, 0, 0), (227, 228, .iconst 3, 0, 0, 3), (228, 229, .iadd, 0, 0, 0), (229, 230, .iaload, 0, 0, 0), (230, 233, .invokevirtual 21, 108, 3, 37), (233, 236, .if_icmp .eq 769, 1002, 0, 0), (236, 237, .iconst 0, 0, 0, 0), (237, 238, .ireturn, 1, 0, 0), (238, 239, .aload_n 1, 1, 0, 0), (239, 240, .aload_n 0, 0, 0, 0), (240, 241, .iload_n 3, 3, 0, 0), (241, 242, .iconst 1, 0, 0, 1), (242, 243, .iadd, 0, 0, 0), (243, 244, .iaload, 0, 0, 0), (244, 245, .aload_n 0, 0, 0, 0), (245, 246, .iload_n 3, 3, 0, 0), (246, 247, .iconst 2, 0, 0, 2), (247, 248, .iadd, 0, 0, 0), (248, 249, .iaload, 0, 0, 0), (249, 250, .aload_n 0, 0, 0, 0), (250, 251, .iload_n 3, 3, 0, 0), (251, 252, .iconst 3, 0, 0, 3), (252, 253, .iadd, 0, 0, 0), (253, 254, .iaload, 0, 0, 0), (254, 255, .aload_n 0, 0, 0, 0), (255, 256, .iload_n 3, 3, 0, 0), (256, 257, .iconst 4, 0, 0, 4), (257, 258, .iadd, 0, 0, 0), (258, 259, .iaload, 0, 0, 0), (259, 260, .aload_n 0, 0, 0, 0), (260, 261, .iload_n 3, 3, 0, 0), (261, 262, .iconst 5, 0, 0, 5), (262, 263, .iadd, 0, 0, 0), (263, 264, .iaload, 0, 0, 0), (264, 267, .invokevirtual 22, 52, 5, 1), (267, 268, .aload_n 2, 2, 0, 0), (268, 269, .aload_n 0, 0, 0, 0), (269, 270, .iload_n 3, 3, 0, 0), (270, 271, .iconst 1, 0, 0, 1), (271, 272, .iadd, 0, 0, 0), (272, 273, .iaload, 0, 0, 0), (273, 274, .aload_n 0, 0, 0, 0), (274, 275, .iload_n 3, 3, 0, 0), (275, 276, .iconst 2, 0, 0, 2), (276, 277, .iadd, 0, 0, 0), (277, 278, .iaload, 0, 0, 0), (278, 279, .aload_n 0, 0, 0, 0), (279, 280, .iload_n 3, 3, 0, 0), (280, 281, .iconst 3, 0, 0, 3), (281, 282, .iadd, 0, 0, 0), (282, 283, .iaload, 0, 0, 0), (283, 284, .aload_n 0, 0, 0, 0), (284, 285, .iload_n 3, 3, 0, 0), (285, 286, .iconst 4, 0, 0, 4), (286, 287, .iadd, 0, 0, 0), (287, 288, .iaload, 0, 0, 0), (288, 289, .aload_n 0, 0, 0, 0), (289, 290, .iload_n 3, 3, 0, 0), (290, 291, .iconst 5, 0, 0, 5), (291, 292, .iadd, 0, 0, 0), (292, 293, .iaload, 0, 0, 0), (293, 296, .invokevirtual 26, 109, 5, 37), (296, 299, .if_icmp .eq 706, 1002, 0, 0), (299, 300, .iconst 0, 0, 0, 0), (300, 301, .ireturn, 1, 0, 0), (301, 302, .aload_n 1, 1, 0, 0), (302, 303, .aload_n 0, 0, 0, 0), (303, 304, .iload_n 3, 3, 0, 0), (304, 305, .iconst 1, 0, 0, 1), (305, 306, .iadd, 0, 0, 0), (306, 307, .iaload, 0, 0, 0), (307, 310, .invokevirtual 27, 53, 1, 1), (310, 311, .aload_n 2, 2, 0, 0), (311, 312, .aload_n 0, 0, 0, 0), (312, 313, .iload_n 3, 3, 0, 0), (313, 314, .iconst 1, 0, 0, 1), (314, 315, .iadd, 0, 0, 0), (315, 316, .iaload, 0, 0, 0), (316, 319, .invokevirtual 31, 110, 1, 37), (319, 322, .if_icmp .eq 683, 1002, 0, 0), (322, 323, .iconst 0, 0, 0, 0), (323, 324, .ireturn, 1, 0, 0), (324, 325, .aload_n 1, 1, 0, 0), (325, 326, .aload_n 0, 0, 0, 0), (326, 327, .iload_n 3, 3, 0, 0), (327, 328, .iconst 1, 0, 0, 1), (328, 329, .iadd, 0, 0, 0), (329, 330, .iaload, 0, 0, 0), (330, 331, .aload_n 0, 0, 0, 0), (331, 332, .iload_n 3, 3, 0, 0), (332, 333, .iconst 2, 0, 0, 2), (333, 334, .iadd, 0, 0, 0), (334, 335, .iaload, 0, 0, 0), (335, 336, .aload_n 0, 0, 0, 0), (336, 337, .iload_n 3, 3, 0, 0), (337, 338, .iconst 3, 0, 0, 3), (338, 339, .iadd, 0, 0, 0), (339, 340, .iaload, 0, 0, 0), (340, 343, .invokevirtual 32, 54, 3, 1), (343, 344, .aload_n 2, 2, 0, 0), (344, 345, .aload_n 0, 0, 0, 0), (345, 346, .iload_n 3, 3, 0, 0), (346, 347, .iconst 1, 0, 0, 1), (347, 348, .iadd, 0, 0, 0), (348, 349, .iaload, 0, 0, 0), (349, 350, .aload_n 0, 0, 0, 0), (350, 351, .iload_n 3, 3, 0, 0), (351, 352, .iconst 2, 0, 0, 2), (352, 353, .iadd, 0, 0, 0), (353, 354, .iaload, 0, 0, 0), (354, 355, .aload_n 0, 0, 0, 0), (355, 356, .iload_n 3, 3, 0, 0), (356, 357, .iconst 3, 0, 0, 3), (357, 358, .iadd, 0, 0, 0), (358, 359, .iaload, 0, 0, 0), (359, 362, .invokevirtual 35, 114, 3, 37), (362, 365, .if_icmp .eq 640, 1002, 0, 0), (365, 366, .iconst 0, 0, 0, 0), (366, 367, .ireturn, 1, 0, 0), (367, 368, .aload_n 1, 1, 0, 0), (368, 369, .aload_n 0, 0, 0, 0), (369, 370, .iload_n 3, 3, 0, 0), (370, 371, .iconst 1, 0, 0, 1), (371, 372, .iadd, 0, 0, 0), (372, 373, .iaload, 0, 0, 0), (373, 376, .invokevirtual 36, 55, 1, 1), (376, 377, .aload_n 2, 2, 0, 0), (377, 378, .aload_n 0, 0, 0, 0), (378, 379, .iload_n 3, 3, 0, 0), (379, 380, .iconst 1, 0, 0, 1), (380, 381, .iadd, 0, 0, 0), (381, 382, .iaload, 0, 0, 0), (382, 385, .invokevirtual 39, 115, 1, 37), (385, 388, .if_icmp .eq 617, 1002, 0, 0), (388, 389, .iconst 0, 0, 0, 0), (389, 390, .ireturn, 1, 0, 0), (390, 391, .aload_n 1, 1, 0, 0), (391, 392, .aload_n 0, 0, 0, 0), (392, 393, .iload_n 3, 3, 0, 0), (393, 394, .iconst 1, 0, 0, 1), (394, 395, .iadd, 0, 0, 0), (395, 396, .iaload, 0, 0, 0), (396, 397, .aload_n 0, 0, 0, 0), (397, 398, .iload_n 3, 3, 0, 0), (398, 399, .iconst 2, 0, 0, 2), (399, 400, .iadd, 0, 0, 0), (400, 401, .iaload, 0, 0, 0), (401, 404, .invokevirtual 40, 56, 2, 1), (404, 405, .aload_n 2, 2, 0, 0), (405, 406, .aload_n 0, 0, 0, 0), (406, 407, .iload_n 3, 3, 0, 0), (407, 408, .iconst 1, 0, 0, 1), (408, 409, .iadd, 0, 0, 0), (409, 410, .iaload, 0, 0, 0), (410, 411, .aload_n 0, 0, 0, 0), (411, 412, .iload_n 3, 3, 0, 0), (412, 413, .iconst 2, 0, 0, 2), (413, 414, .iadd, 0, 0, 0), (414, 415, .iaload, 0, 0, 0), (415, 418, .invokevirtual 44, 118, 2, 37), (418, 421, .if_icmp .eq 584, 1002, 0, 0), (421, 422, .iconst 0, 0, 0, 0), (422, 423, .ireturn, 1, 0, 0), (423, 424, .aload_n 1, 1, 0, 0), (424, 425, .aload_n 0, 0, 0, 0), (425, 426, .iload_n 3, 3, 0, 0), (426, 427, .iconst 1, 0, 0, 1), (427, 428, .iadd, 0, 0, 0), (428, 429, .iaload, 0, 0, 0), (429, 430, .aload_n 0, 0, 0, 0), (430, 431, .iload_n 3, 3, 0, 0), (431, 432, .iconst 2, 0, 0, 2), (432, 433, .iadd, 0, 0, 0), (433, 434, .iaload, 0, 0, 0), (434, 435, .aload_n 0, 0, 0, 0), (435, 436, .iload_n 3, 3, 0, 0), (436, 437, .iconst 3, 0, 0, 3), (437, 438, .iadd, 0, 0, 0), (438, 439, .iaload, 0, 0, 0), (439, 442, .invokevirtual 45, 57, 3, 1), (442, 443, .aload_n 2, 2, 0, 0), (443, 444, .aload_n 0, 0, 0, 0), (444, 445, .iload_n 3, 3, 0, 0), (445, 446, .iconst 1, 0, 0, 1), (446, 447, .iadd, 0, 0, 0), (447, 448, .iaload, 0, 0, 0), (448, 449, .aload_n 0, 0, 0, 0), (449, 450, .iload_n 3, 3, 0, 0), (450, 451, .iconst 2, 0, 0, 2), (451, 452, .iadd, 0, 0, 0), (452, 453, .iaload, 0, 0, 0), (453, 454, .aload_n 0, 0, 0, 0), (454, 455, .iload_n 3, 3, 0, 0), (455, 456, .iconst 3, 0, 0, 3), (456, 457, .iadd, 0, 0, 0), (457, 458, .iaload, 0, 0, 0), (458, 461, .invokevirtual 48, 119, 3, 37), (461, 464, .if_icmp .eq 541, 1002, 0, 0), (464, 465, .iconst 0, 0, 0, 0), (465, 466, .ireturn, 1, 0, 0), (466, 467, .aload_n 1, 1, 0, 0), (467, 470, .invokevirtual 49, 58, 0, 1), (470, 471, .aload_n 2, 2, 0, 0), (471, 474, .invokevirtual 53, 120, 0, 37), (474, 477, .if_icmp .eq 528, 1002, 0, 0), (477, 478, .iconst 0, 0, 0, 0), (478, 479, .ireturn, 1, 0, 0), (479, 480, .aload_n 1, 1, 0, 0), (480, 481, .aload_n 0, 0, 0, 0), (481, 482, .iload_n 3, 3, 0, 0), (482, 483, .iconst 1, 0, 0, 1), (483, 484, .iadd, 0, 0, 0), (484, 485, .iaload, 0, 0, 0), (485, 486, .aload_n 0, 0, 0, 0), (486, 487, .iload_n 3, 3, 0, 0), (487, 488, .iconst 2, 0, 0, 2), (488, 489, .iadd, 0, 0, 0), (489, 490, .iaload, 0, 0, 0), (490, 491, .aload_n 0, 0, 0, 0), (491, 492, .iload_n 3, 3, 0, 0), (492, 493, .iconst 3, 0, 0, 3), (493, 494, .iadd, 0, 0, 0), (494, 495, .iaload, 0, 0, 0), (495, 496, .aload_n 0, 0, 0, 0), (496, 497, .iload_n 3, 3, 0, 0), (497, 498, .iconst 4, 0, 0, 4), (498, 499, .iadd, 0, 0, 0), (499, 500, .iaload, 0, 0, 0), (500, 501, .aload_n 0, 0, 0, 0), (501, 502, .iload_n 3, 3, 0, 0), (502, 503, .iconst 5, 0, 0, 5), (503, 504, .iadd, 0, 0, 0), (504, 505, .iaload, 0, 0, 0), (505, 506, .aload_n 0, 0, 0, 0), (506, 507, .iload_n 3, 3, 0, 0), (507, 509, .bipush 6, 0, 0, 6), (509, 510, .iadd, 0, 0, 0), (510, 511, .iaload, 0, 0, 0), (511, 514, .invokevirtual 54, 59, 6, 1), (514, 515, .aload_n 2, 2, 0, 0), (515, 516, .aload_n 0, 0, 0, 0), (516, 517, .iload_n 3, 3, 0, 0), (517, 518, .iconst 1, 0, 0, 1), (518, 519, .iadd, 0, 0, 0), (519, 520, .iaload, 0, 0, 0), (520, 521, .aload_n 0, 0, 0, 0), (521, 522, .iload_n 3, 3, 0, 0), (522, 523, .iconst 2, 0, 0, 2), (523, 524, .iadd, 0, 0, 0), (524, 525, .iaload, 0, 0, 0), (525, 526, .aload_n 0, 0, 0, 0), (526, 527, .iload_n 3, 3, 0, 0), (527, 528, .iconst 3, 0, 0, 3), (528, 529, .iadd, 0, 0, 0), (529, 530, .iaload, 0, 0, 0), (530, 531, .aload_n 0, 0, 0, 0), (531, 532, .iload_n 3, 3, 0, 0), (532, 533, .iconst 4, 0, 0, 4), (533, 534, .iadd, 0, 0, 0), (534, 535, .iaload, 0, 0, 0), (535, 536, .aload_n 0, 0, 0, 0), (536, 537, .iload_n 3, 3, 0, 0), (537, 538, .iconst 5, 0, 0, 5), (538, 539, .iadd, 0, 0, 0), (539, 540, .iaload, 0, 0, 0), (540, 541, .aload_n 0, 0, 0, 0), (541, 542, .iload_n 3, 3, 0, 0), (542, 544, .bipush 6, 0, 0, 6), (544, 545, .iadd, 0, 0, 0), (545, 546, .iaload, 0, 0, 0), (546, 549, .invokevirtual 58, 125, 6, 37), (549, 552, .if_icmp .eq 453, 1002, 0, 0), (552, 553, .iconst 0, 0, 0, 0), (553, 554, .ireturn, 1, 0, 0), (554, 555, .aload_n 1, 1, 0, 0), (555, 556, .aload_n 0, 0, 0, 0), (556, 557, .iload_n 3, 3, 0, 0), (557, 558, .iconst 1, 0, 0, 1), (558, 559, .iadd, 0, 0, 0), (559, 560, .iaload, 0, 0, 0), (560, 561, .aload_n 0, 0, 0, 0), (561, 562, .iload_n 3, 3, 0, 0), (562, 563, .iconst 2, 0, 0, 2), (563, 564, .iadd, 0, 0, 0), (564, 565, .iaload, 0, 0, 0), (565, 566, .aload_n 0, 0, 0, 0), (566, 567, .iload_n 3, 3, 0, 0), (567, 568, .iconst 3, 0, 0, 3), (568, 569, .iadd, 0, 0, 0), (569, 570, .iaload, 0, 0, 0), (570, 571, .aload_n 0, 0, 0, 0), (571, 572, .iload_n 3, 3, 0, 0), (572, 573, .iconst 4, 0, 0, 4), (573, 574, .iadd, 0, 0, 0), (574, 575, .iaload, 0, 0, 0), (575, 576, .aload_n 0, 0, 0, 0), (576, 577, .iload_n 3, 3, 0, 0), (577, 578, .iconst 5, 0, 0, 5), (578, 579, .iadd, 0, 0, 0), (579, 580, .iaload, 0, 0, 0), (580, 583, .invokevirtual 59, 60, 5, 1), (583, 584, .aload_n 2, 2, 0, 0), (584, 585, .aload_n 0, 0, 0, 0), (585, 586, .iload_n 3, 3, 0, 0), (586, 587, .iconst 1, 0, 0, 1), (587, 588, .iadd, 0, 0, 0), (588, 589, .iaload, 0, 0, 0), (589, 590, .aload_n 0, 0, 0, 0), (590, 591, .iload_n 3, 3, 0, 0), (591, 592, .iconst 2, 0, 0, 2), (592, 593, .iadd, 0, 0, 0), (593, 594, .iaload, 0, 0, 0), (594, 595, .aload_n 0, 0, 0, 0), (595, 596, .iload_n 3, 3, 0, 0), (596, 597, .iconst 3, 0, 0, 3), (597, 598, .iadd, 0, 0, 0), (598, 599, .iaload, 0, 0, 0), (599, 600, .aload_n 0, 0, 0, 0), (600, 601, .iload_n 3, 3, 0, 0), (601, 602, .iconst 4, 0, 0, 4), (602, 603, .iadd, 0, 0, 0), (603, 604, .iaload, 0, 0, 0), (604, 605, .aload_n 0, 0, 0, 0), (605, 606, .iload_n 3, 3, 0, 0), (606, 607, .iconst 5, 0, 0, 5), (607, 608, .iadd, 0, 0, 0), (608, 609, .iaload, 0, 0, 0), (609, 612, .invokevirtual 62, 126, 5, 37), (612, 615, .if_icmp .eq 390, 1002, 0, 0), (615, 616, .iconst 0, 0, 0, 0), (616, 617, .ireturn, 1, 0, 0), (617, 618, .aload_n 1, 1, 0, 0), (618, 619, .aload_n 0, 0, 0, 0), (619, 620, .iload_n 3, 3, 0, 0), (620, 621, .iconst 1, 0, 0, 1), (621, 622, .iadd, 0, 0, 0), (622, 623, .iaload, 0, 0, 0), (623, 624, .aload_n 0, 0, 0, 0), (624, 625, .iload_n 3, 3, 0, 0), (625, 626, .iconst 2, 0, 0, 2), (626, 627, .iadd, 0, 0, 0), (627, 628, .iaload, 0, 0, 0), (628, 629, .aload_n 0, 0, 0, 0), (629, 630, .iload_n 3, 3, 0, 0), (630, 631, .iconst 3, 0, 0, 3), (631, 632, .iadd, 0, 0, 0), (632, 633, .iaload, 0, 0, 0), (633, 636, .invokevirtual 63, 61, 3, 1), (636, 637, .aload_n 2, 2, 0, 0), (637, 638, .aload_n 0, 0, 0, 0), (638, 639, .iload_n 3, 3, 0, 0), (639, 640, .iconst 1, 0, 0, 1), (640, 641, .iadd, 0, 0, 0), (641, 642, .iaload, 0, 0, 0), (642, 643, .aload_n 0, 0, 0, 0), (643, 644, .iload_n 3, 3, 0, 0), (644, 645, .iconst 2, 0, 0, 2), (645, 646, .iadd, 0, 0, 0), (646, 647, .iaload, 0, 0, 0), (647, 648, .aload_n 0, 0, 0, 0), (648, 649, .iload_n 3, 3, 0, 0), (649, 650, .iconst 3, 0, 0, 3), (650, 651, .iadd, 0, 0, 0), (651, 652, .iaload, 0, 0, 0), (652, 655, .invokevirtual 66, 127, 3, 37), (655, 658, .if_icmp .eq 347, 1002, 0, 0), (658, 659, .iconst 0, 0, 0, 0), (659, 660, .ireturn, 1, 0, 0), (660, 661, .aload_n 1, 1, 0, 0), (661, 662, .aload_n 0, 0, 0, 0), (662, 663, .iload_n 3, 3, 0, 0), (663, 664, .iconst 1, 0, 0, 1), (664, 665, .iadd, 0, 0, 0), (665, 666, .iaload, 0, 0, 0), (666, 669, .invokevirtual 67, 62, 1, 1), (669, 670, .aload_n 2, 2, 0, 0), (670, 671, .aload_n 0, 0, 0, 0), (671, 672, .iload_n 3, 3, 0, 0), (672, 673, .iconst 1, 0, 0, 1), (673, 674, .iadd, 0, 0, 0), (674, 675, .iaload, 0, 0, 0), (675, 678, .invokevirtual 70, 128, 1, 37), (678, 681, .if_icmp .eq 324, 1002, 0, 0), (681, 682, .iconst 0, 0, 0, 0), (682, 683, .ireturn, 1, 0, 0), (683, 684, .aload_n 1, 1, 0, 0), (684, 687, .invokevirtual 71, 63, 0, 1), (687, 688, .aload_n 2, 2, 0, 0), (688, 691, .invokevirtual 74, 130, 0, 37), (691, 694, .if_icmp .eq 311, 1002, 0, 0), (694, 695, .iconst 0, 0, 0, 0), (695, 696, .ireturn, 1, 0, 0), (696, 697, .aload_n 1, 1, 0, 0), (697, 700, .invokevirtual 75, 64, 0, 1), (700, 701, .aload_n 2, 2, 0, 0), (701, 704, .invokevirtual 78, 131, 0, 37), (704, 707, .if_icmp .eq 298, 1002, 0, 0), (707, 708, .iconst 0, 0, 0, 0), (708, 709, .ireturn, 1, 0, 0), (709, 710, .aload_n 1, 1, 0, 0), (710, 711, .aload_n 0, 0, 0, 0), (711, 712, .iload_n 3, 3, 0, 0), (712, 713, .iconst 1, 0, 0, 1), (713, 714, .iadd, 0, 0, 0), (714, 715, .iaload, 0, 0, 0), (715, 716, .aload_n 0, 0, 0, 0), (716, 717, .iload_n 3, 3, 0, 0), (717, 718, .iconst 2, 0, 0, 2), (718, 719, .iadd, 0, 0, 0), (719, 720, .iaload, 0, 0, 0), (720, 721, .aload_n 0, 0, 0, 0), (721, 722, .iload_n 3, 3, 0, 0), (722, 723, .iconst 3, 0, 0, 3), (723, 724, .iadd, 0, 0, 0), (724, 725, .iaload, 0, 0, 0), (725, 728, .invokevirtual 79, 65, 3, 1), (728, 729, .aload_n 2, 2, 0, 0), (729, 730, .aload_n 0, 0, 0, 0), (730, 731, .iload_n 3, 3, 0, 0), (731, 732, .iconst 1, 0, 0, 1), (732, 733, .iadd, 0, 0, 0), (733, 734, .iaload, 0, 0, 0), (734, 735, .aload_n 0, 0, 0, 0), (735, 736, .iload_n 3, 3, 0, 0), (736, 737, .iconst 2, 0, 0, 2), (737, 738, .iadd, 0, 0, 0), (738, 739, .iaload, 0, 0, 0), (739, 740, .aload_n 0, 0, 0, 0), (740, 741, .iload_n 3, 3, 0, 0), (741, 742, .iconst 3, 0, 0, 3), (742, 743, .iadd, 0, 0, 0), (743, 744, .iaload, 0, 0, 0), (744, 747, .invokevirtual 82, 134, 3, 37), (747, 750, .if_icmp .eq 255, 1002, 0, 0), (750, 751, .iconst 0, 0, 0, 0), (751, 752, .ireturn, 1, 0, 0), (752, 753, .aload_n 1, 1, 0, 0), (753, 754, .aload_n 0, 0, 0, 0), (754, 755, .iload_n 3, 3, 0, 0), (755, 756, .iconst 1, 0, 0, 1), (756, 757, .iadd, 0, 0, 0), (757, 758, .iaload, 0, 0, 0), (758, 759, .aload_n 0, 0, 0, 0), (759, 760, .iload_n 3, 3, 0, 0), (760, 761, .iconst 2, 0, 0, 2), (761, 762, .iadd, 0, 0, 0), (762, 763, .iaload, 0, 0, 0), (763, 764, .aload_n 0, 0, 0, 0), (764, 765, .iload_n 3, 3, 0, 0), (765, 766, .iconst 3, 0, 0, 3), (766, 767, .iadd, 0, 0, 0), (767, 768, .iaload, 0, 0, 0), (768, 771, .invokevirtual 83, 66, 3, 1), (771, 772, .aload_n 2, 2, 0, 0), (772, 773, .aload_n 0, 0, 0, 0), (773, 774, .iload_n 3, 3, 0, 0), (774, 775, .iconst 1, 0, 0, 1), (775, 776, .iadd, 0, 0, 0), (776, 777, .iaload, 0, 0, 0), (777, 778, .aload_n 0, 0, 0, 0), (778, 779, .iload_n 3, 3, 0, 0), (779, 780, .iconst 2, 0, 0, 2), (780, 781, .iadd, 0, 0, 0), (781, 782, .iaload, 0, 0, 0), (782, 783, .aload_n 0, 0, 0, 0), (783, 784, .iload_n 3, 3, 0, 0), (784, 785, .iconst 3, 0, 0, 3), (785, 786, .iadd, 0, 0, 0), (786, 787, .iaload, 0, 0, 0), (787, 790, .invokevirtual 86, 141, 3, 37), (790, 793, .if_icmp .eq 212, 1002, 0, 0), (793, 794, .iconst 0, 0, 0, 0), (794, 795, .ireturn, 1, 0, 0), (795, 796, .aload_n 1, 1, 0, 0), (796, 797, .aload_n 0, 0, 0, 0), (797, 798, .iload_n 3, 3, 0, 0), (798, 799, .iconst 1, 0, 0, 1), (799, 800, .iadd, 0, 0, 0), (800, 801, .iaload, 0, 0, 0), (801, 804, .invokevirtual 87, 67, 1, 1), (804, 805, .aload_n 2, 2, 0, 0), (805, 806, .aload_n 0, 0, 0, 0), (806, 807, .iload_n 3, 3, 0, 0), (807, 808, .iconst 1, 0, 0, 1), (808, 809, .iadd, 0, 0, 0), (809, 810, .iaload, 0, 0, 0), (810, 813, .invokevirtual 90, 143, 1, 37), (813, 816, .if_icmp .eq 189, 1002, 0, 0), (816, 817, .iconst 0, 0, 0, 0), (817, 818, .ireturn, 1, 0, 0), (818, 819, .aload_n 1, 1, 0, 0), (819, 820, .aload_n 0, 0, 0, 0), (820, 821, .iload_n 3, 3, 0, 0), (821, 822, .iconst 1, 0, 0, 1), (822, 823, .iadd, 0, 0, 0), (823, 824, .iaload, 0, 0, 0), (824, 827, .invokevirtual 91, 68, 1, 1), (827, 828, .aload_n 2, 2, 0, 0), (828, 829, .aload_n 0, 0, 0, 0), (829, 830, .iload_n 3, 3, 0, 0), (830, 831, .iconst 1, 0, 0, 1), (831, 832, .iadd, 0, 0, 0), (832, 833, .iaload, 0, 0, 0), (833, 836, .invokevirtual 94, 144, 1, 37), (836, 839, .if_icmp .eq 166, 1002, 0, 0), (839, 840, .iconst 0, 0, 0, 0), (840, 841, .ireturn, 1, 0, 0), (841, 842, .aload_n 1, 1, 0, 0), (842, 845, .invokevirtual 95, 69, 0, 1), (845, 846, .aload_n 2, 2, 0, 0), (846, 849, .invokevirtual 98, 146, 0, 37), (849, 852, .if_icmp .eq 153, 1002, 0, 0), (852, 853, .iconst 0, 0, 0, 0), (853, 854, .ireturn, 1, 0, 0), (854, 855, .aload_n 1, 1, 0, 0), (855, 856, .aload_n 0, 0, 0, 0), (856, 857, .iload_n 3, 3, 0, 0), (857, 858, .iconst 1, 0, 0, 1), (858, 859, .iadd, 0, 0, 0), (859, 860, .iaload, 0, 0, 0), (860, 863, .invokevirtual 99, 70, 1, 1), (863, 864, .aload_n 2, 2, 0, 0), (864, 865, .aload_n 0, 0, 0, 0), (865, 866, .iload_n 3, 3, 0, 0), (866, 867, .iconst 1, 0, 0, 1), (867, 868, .iadd, 0, 0, 0), (868, 869, .iaload, 0, 0, 0), (869, 872, .invokevirtual 102, 149, 1, 37), (872, 875, .if_icmp .eq 130, 1002, 0, 0), (875, 876, .iconst 0, 0, 0, 0), (876, 877, .ireturn, 1, 0, 0), (877, 878, .aload_n 1, 1, 0, 0), (878, 879, .aload_n 0, 0, 0, 0), (879, 880, .iload_n 3, 3, 0, 0), (880, 881, .iconst 1, 0, 0, 1), (881, 882, .iadd, 0, 0, 0), (882, 883, .iaload, 0, 0, 0), (883, 884, .aload_n 0, 0, 0, 0), (884, 885, .iload_n 3, 3, 0, 0), (885, 886, .iconst 2, 0, 0, 2), (886, 887, .iadd, 0, 0, 0), (887, 888, .iaload, 0, 0, 0), (888, 891, .invokevirtual 103, 71, 2, 1), (891, 892, .aload_n 2, 2, 0, 0), (892, 893, .aload_n 0, 0, 0, 0), (893, 894, .iload_n 3, 3, 0, 0), (894, 895, .iconst 1, 0, 0, 1), (895, 896, .iadd, 0, 0, 0), (896, 897, .iaload, 0, 0, 0), (897, 898, .aload_n 0, 0, 0, 0), (898, 899, .iload_n 3, 3, 0, 0), (899, 900, .iconst 2, 0, 0, 2), (900, 901, .iadd, 0, 0, 0), (901, 902, .iaload, 0, 0, 0), (902, 905, .invokevirtual 106, 150, 2, 37), (905, 908, .if_icmp .eq 97, 1002, 0, 0), (908, 909, .iconst 0, 0, 0, 0), (909, 910, .ireturn, 1, 0, 0), (910, 911, .aload_n 1, 1, 0, 0), (911, 912, .aload_n 0, 0, 0, 0), (912, 913, .iload_n 3, 3, 0, 0), (913, 914, .iconst 1, 0, 0, 1), (914, 915, .iadd, 0, 0, 0), (915, 916, .iaload, 0, 0, 0), (916, 917, .aload_n 0, 0, 0, 0), (917, 918, .iload_n 3, 3, 0, 0), (918, 919, .iconst 2, 0, 0, 2), (919, 920, .iadd, 0, 0, 0), (920, 921, .iaload, 0, 0, 0), (921, 924, .invokevirtual 107, 72, 2, 1), (924, 925, .aload_n 2, 2, 0, 0), (925, 926, .aload_n 0, 0, 0, 0), (926, 927, .iload_n 3, 3, 0, 0), (927, 928, .iconst 1, 0, 0, 1), (928, 929, .iadd, 0, 0, 0), (929, 930, .iaload, 0, 0, 0), (930, 931, .aload_n 0, 0, 0, 0), (931, 932, .iload_n 3, 3, 0, 0), (932, 933, .iconst 2, 0, 0, 2), (933, 934, .iadd, 0, 0, 0), (934, 935, .iaload, 0, 0, 0), (935, 938, .invokevirtual 110, 154, 2, 37), (938, 941, .if_icmp .eq 64, 1002, 0, 0), (941, 942, .iconst 0, 0, 0, 0), (942, 943, .ireturn, 1, 0, 0), (943, 944, .aload_n 1, 1, 0, 0), (944, 945, .aload_n 0, 0, 0, 0), (945, 946, .iload_n 3, 3, 0, 0), (946, 947, .iconst 1, 0, 0, 1), (947, 948, .iadd, 0, 0, 0), (948, 949, .iaload, 0, 0, 0), (949, 952, .invokevirtual 111, 73, 1, 1), (952, 953, .aload_n 2, 2, 0, 0), (953, 954, .aload_n 0, 0, 0, 0), (954, 955, .iload_n 3, 3, 0, 0), (955, 956, .iconst 1, 0, 0, 1), (956, 957, .iadd, 0, 0, 0), (957, 958, .iaload, 0, 0, 0), (958, 961, .invokevirtual 114, 155, 1, 37), (961, 964, .if_icmp .eq 41, 1002, 0, 0), (964, 965, .iconst 0, 0, 0, 0), (965, 966, .ireturn, 1, 0, 0), (966, 967, .aload_n 1, 1, 0, 0), (967, 968, .aload_n 0, 0, 0, 0), (968, 969, .iload_n 3, 3, 0, 0), (969, 970, .iconst 1, 0, 0, 1), (970, 971, .iadd, 0, 0, 0), (971, 972, .iaload, 0, 0, 0), (972, 975, .invokevirtual 115, 74, 1, 1), (975, 976, .aload_n 2, 2, 0, 0), (976, 977, .aload_n 0, 0, 0, 0), (977, 978, .iload_n 3, 3, 0, 0), (978, 979, .iconst 1, 0, 0, 1), (979, 980, .iadd, 0, 0, 0), (980, 981, .iaload, 0, 0, 0), (981, 984, .invokevirtual 118, 156, 1, 37), (984, 987, .if_icmp .eq 18, 1002, 0, 0), (987, 988, .iconst 0, 0, 0, 0), (988, 989, .ireturn, 1, 0, 0), (989, 990, .aload_n 1, 1, 0, 0), (990, 993, .invokevirtual 119, 75, 0, 1), (993, 994, .aload_n 2, 2, 0, 0), (994, 997, .invokevirtual 122, 157, 0, 37), (997, 1000, .if_icmp .eq 5, 1002, 0, 0), (1000, 1001, .iconst 0, 0, 0, 0), (1001, 1002, .ireturn, 1, 0, 0), (1002, 1005, .iinc 3 7, 3, 0, 7), (1005, 1008, .goto (-987), 18, 0, 0), (1008, 1009, .iconst 1, 0, 0, 1), (1009, 1010, .ireturn, 1, 0, 0)]
set_option maxRecDepth 100000 in
theorem zmk_159 : zMok 159 zc_159 := ⟨by
  show ∀ x ∈ zc_159_0 ++ (zc_159_1 ++ (zc_159_2 ++ (zc_159_3 ++ (zc_159_4 ++ (zc_159_5 ++ (zc_159_6 ++ (zc_159_7 ++ (zc_159_8 ++ (zc_159_9 ++ (zc_159_10 ++ (zc_159_11))))))))))), zchk 159 x = true
  exact List.forall_mem_append.mpr ⟨zmk_159_0, List.forall_mem_append.mpr ⟨zmk_159_1, List.forall_mem_append.mpr ⟨zmk_159_2, List.forall_mem_append.mpr ⟨zmk_159_3, List.forall_mem_append.mpr ⟨zmk_159_4, List.forall_mem_append.mpr ⟨zmk_159_5, List.forall_mem_append.mpr ⟨zmk_159_6, List.forall_mem_append.mpr ⟨zmk_159_7, List.forall_mem_append.mpr ⟨zmk_159_8, List.forall_mem_append.mpr ⟨zmk_159_9, List.forall_mem_append.mpr ⟨zmk_159_10, zmk_159_11⟩⟩⟩⟩⟩⟩⟩⟩⟩⟩⟩, by decide +kernel⟩
end
section
theorem zc_lt {x y : Int} : zcmp x y < 0 ↔ x < y := by
  unfold zcmp
  repeat' split
  all_goals omega
theorem zc_ge {x y : Int} : 0 ≤ zcmp x y ↔ y ≤ x := by
  unfold zcmp
  repeat' split
  all_goals omega
theorem zc_gt {x y : Int} : 0 < zcmp x y ↔ y < x := by
  unfold zcmp
  repeat' split
  all_goals omega
theorem zc_le {x y : Int} : zcmp x y ≤ 0 ↔ x ≤ y := by
  unfold zcmp
  repeat' split
  all_goals omega
theorem zc_eq {x y : Int} : zcmp x y = 0 ↔ x = y := by
  unfold zcmp
  repeat' split
  all_goals omega
set_option maxRecDepth 100000 in
set_option maxHeartbeats 4000000 in
theorem am_X8_isSheet {σ : zS} {k : Int} : zAM 78 [.inl k] σ (fun (v : Int) (u : zS) => σ = u ∧ (v = 1 ∧ (0 ≤ k ∧ k < 8) ∨ v = 0 ∧ ¬ (0 ≤ k ∧ k < 8))) := by
  refine zam (by decide) (Nat.le_of_ble_eq_true rfl) ?_
  refine zwalk zmk_78 [] 3 ?_
  show ((k < 0 → (((0 : Int) = 0 ∨ (0 : Int) = 1) ∧ (σ = σ ∧ ((0 : Int) = 1 ∧ (0 ≤ k ∧ k < 8) ∨ (0 : Int) = 0 ∧ ¬ (0 ≤ k ∧ k < 8))))) ∧ (0 ≤ k → (((8 : Int) ≤ k → (((0 : Int) = 0 ∨ (0 : Int) = 1) ∧ (σ = σ ∧ ((0 : Int) = 1 ∧ (0 ≤ k ∧ k < 8) ∨ (0 : Int) = 0 ∧ ¬ (0 ≤ k ∧ k < 8))))) ∧ (k < (8 : Int) → (((1 : Int) = 0 ∨ (1 : Int) = 1) ∧ (σ = σ ∧ ((1 : Int) = 1 ∧ (0 ≤ k ∧ k < 8) ∨ (1 : Int) = 0 ∧ ¬ (0 ≤ k ∧ k < 8))))))))
  refine ⟨?_, ?_⟩
  · intro h1
    refine ⟨by (omega), ?_⟩
    exact ⟨rfl, by omega⟩
  · intro h2
    refine ⟨?_, ?_⟩
    · intro h3
      refine ⟨by (omega), ?_⟩
      exact ⟨rfl, by omega⟩
    · intro h4
      refine ⟨by (omega), ?_⟩
      exact ⟨rfl, by omega⟩
set_option maxRecDepth 100000 in
set_option maxHeartbeats 4000000 in
theorem am_X8_isLetter {σ : zS} {k : Int} : zAM 80 [.inl k] σ (fun (v : Int) (u : zS) => σ = u ∧ (v = 1 ∧ (0 ≤ k ∧ k < 26) ∨ v = 0 ∧ ¬ (0 ≤ k ∧ k < 26))) := by
  refine zam (by decide) (Nat.le_of_ble_eq_true rfl) ?_
  refine zwalk zmk_80 [] 3 ?_
  show ((k < 0 → (((0 : Int) = 0 ∨ (0 : Int) = 1) ∧ (σ = σ ∧ ((0 : Int) = 1 ∧ (0 ≤ k ∧ k < 26) ∨ (0 : Int) = 0 ∧ ¬ (0 ≤ k ∧ k < 26))))) ∧ (0 ≤ k → (((26 : Int) ≤ k → (((0 : Int) = 0 ∨ (0 : Int) = 1) ∧ (σ = σ ∧ ((0 : Int) = 1 ∧ (0 ≤ k ∧ k < 26) ∨ (0 : Int) = 0 ∧ ¬ (0 ≤ k ∧ k < 26))))) ∧ (k < (26 : Int) → (((1 : Int) = 0 ∨ (1 : Int) = 1) ∧ (σ = σ ∧ ((1 : Int) = 1 ∧ (0 ≤ k ∧ k < 26) ∨ (1 : Int) = 0 ∧ ¬ (0 ≤ k ∧ k < 26))))))))
  refine ⟨?_, ?_⟩
  · intro h1
    refine ⟨by (omega), ?_⟩
    exact ⟨rfl, by omega⟩
  · intro h2
    refine ⟨?_, ?_⟩
    · intro h3
      refine ⟨by (omega), ?_⟩
      exact ⟨rfl, by omega⟩
    · intro h4
      refine ⟨by (omega), ?_⟩
      exact ⟨rfl, by omega⟩
set_option maxRecDepth 100000 in
set_option maxHeartbeats 4000000 in
theorem am_X8_isShape {σ : zS} {k : Int} : zAM 81 [.inl k] σ (fun (v : Int) (u : zS) => σ = u ∧ (v = 1 ∧ (0 ≤ k ∧ k < 12) ∨ v = 0 ∧ ¬ (0 ≤ k ∧ k < 12))) := by
  refine zam (by decide) (Nat.le_of_ble_eq_true rfl) ?_
  refine zwalk zmk_81 [] 3 ?_
  show ((k < 0 → (((0 : Int) = 0 ∨ (0 : Int) = 1) ∧ (σ = σ ∧ ((0 : Int) = 1 ∧ (0 ≤ k ∧ k < 12) ∨ (0 : Int) = 0 ∧ ¬ (0 ≤ k ∧ k < 12))))) ∧ (0 ≤ k → (((12 : Int) ≤ k → (((0 : Int) = 0 ∨ (0 : Int) = 1) ∧ (σ = σ ∧ ((0 : Int) = 1 ∧ (0 ≤ k ∧ k < 12) ∨ (0 : Int) = 0 ∧ ¬ (0 ≤ k ∧ k < 12))))) ∧ (k < (12 : Int) → (((1 : Int) = 0 ∨ (1 : Int) = 1) ∧ (σ = σ ∧ ((1 : Int) = 1 ∧ (0 ≤ k ∧ k < 12) ∨ (1 : Int) = 0 ∧ ¬ (0 ≤ k ∧ k < 12))))))))
  refine ⟨?_, ?_⟩
  · intro h1
    refine ⟨by (omega), ?_⟩
    exact ⟨rfl, by omega⟩
  · intro h2
    refine ⟨?_, ?_⟩
    · intro h3
      refine ⟨by (omega), ?_⟩
      exact ⟨rfl, by omega⟩
    · intro h4
      refine ⟨by (omega), ?_⟩
      exact ⟨rfl, by omega⟩
set_option maxRecDepth 100000 in
set_option maxHeartbeats 4000000 in
theorem am_X8_isInk {σ : zS} {k : Int} : zAM 79 [.inr (.inr (0, 0)), .inl k] σ (fun (v : Int) (u : zS) => σ = u ∧ (v = 1 ∧ (0 ≤ k ∧ k < σ 2 10) ∨ v = 0 ∧ ¬ (0 ≤ k ∧ k < σ 2 10))) := by
  refine zam (by decide) (Nat.le_of_ble_eq_true rfl) ?_
  refine zwalk zmk_79 [] 3 ?_
  show ((k < 0 → (((0 : Int) = 0 ∨ (0 : Int) = 1) ∧ (σ = σ ∧ ((0 : Int) = 1 ∧ (0 ≤ k ∧ k < σ 2 10) ∨ (0 : Int) = 0 ∧ ¬ (0 ≤ k ∧ k < σ 2 10))))) ∧ (0 ≤ k → (((σ 2 (10 : Int)) ≤ k → (((0 : Int) = 0 ∨ (0 : Int) = 1) ∧ (σ = σ ∧ ((0 : Int) = 1 ∧ (0 ≤ k ∧ k < σ 2 10) ∨ (0 : Int) = 0 ∧ ¬ (0 ≤ k ∧ k < σ 2 10))))) ∧ (k < (σ 2 (10 : Int)) → (((1 : Int) = 0 ∨ (1 : Int) = 1) ∧ (σ = σ ∧ ((1 : Int) = 1 ∧ (0 ≤ k ∧ k < σ 2 10) ∨ (1 : Int) = 0 ∧ ¬ (0 ≤ k ∧ k < σ 2 10))))))))
  refine ⟨?_, ?_⟩
  · intro h1
    refine ⟨by (omega), ?_⟩
    exact ⟨rfl, by omega⟩
  · intro h2
    refine ⟨?_, ?_⟩
    · intro h3
      refine ⟨by (omega), ?_⟩
      exact ⟨rfl, by omega⟩
    · intro h4
      refine ⟨by (omega), ?_⟩
      exact ⟨rfl, by omega⟩
set_option maxRecDepth 100000 in
set_option maxHeartbeats 4000000 in
theorem am_X9_in {σ : zS} {a : Int} {b : Int} {c : Int} : zAM 103 [.inr (.inl a), .inr (.inl b), .inr (.inl c)] σ (fun (v : Int) (u : zS) => σ = u ∧ (v = 1 ∧ (b ≤ a ∧ a ≤ c) ∨ v = 0 ∧ ¬ (b ≤ a ∧ a ≤ c))) := by
  refine zam (by decide) (Nat.le_of_ble_eq_true rfl) ?_
  refine zwalk zmk_103 [] 3 ?_
  show (((zcmp a b) < 0 → (((0 : Int) = 0 ∨ (0 : Int) = 1) ∧ (σ = σ ∧ ((0 : Int) = 1 ∧ (b ≤ a ∧ a ≤ c) ∨ (0 : Int) = 0 ∧ ¬ (b ≤ a ∧ a ≤ c))))) ∧ (0 ≤ (zcmp a b) → ((0 < (zcmp a c) → (((0 : Int) = 0 ∨ (0 : Int) = 1) ∧ (σ = σ ∧ ((0 : Int) = 1 ∧ (b ≤ a ∧ a ≤ c) ∨ (0 : Int) = 0 ∧ ¬ (b ≤ a ∧ a ≤ c))))) ∧ ((zcmp a c) ≤ 0 → (((1 : Int) = 0 ∨ (1 : Int) = 1) ∧ (σ = σ ∧ ((1 : Int) = 1 ∧ (b ≤ a ∧ a ≤ c) ∨ (1 : Int) = 0 ∧ ¬ (b ≤ a ∧ a ≤ c))))))))
  refine ⟨?_, ?_⟩
  · intro h1
    simp only [zc_lt, zc_ge, zc_gt, zc_le, zc_eq] at h1
    refine ⟨by (omega), ?_⟩
    exact ⟨rfl, by omega⟩
  · intro h2
    simp only [zc_lt, zc_ge, zc_gt, zc_le, zc_eq] at h2
    refine ⟨?_, ?_⟩
    · intro h3
      simp only [zc_lt, zc_ge, zc_gt, zc_le, zc_eq] at h3
      refine ⟨by (omega), ?_⟩
      exact ⟨rfl, by omega⟩
    · intro h4
      simp only [zc_lt, zc_ge, zc_gt, zc_le, zc_eq] at h4
      refine ⟨by (omega), ?_⟩
      exact ⟨rfl, by omega⟩
set_option maxRecDepth 100000 in
set_option maxHeartbeats 4000000 in
theorem am_X8_isRow {σ : zS} {n : Int} {a : Int} {b : Int} {c : Int} : zAM 82 [.inl n, .inl a, .inl b, .inl c] σ (fun (v : Int) (u : zS) => σ = u ∧ (v = 1 ∧ (1 ≤ n ∧ n ≤ 3 ∧ 0 ≤ a ∧ a < 12 ∧ (n < 2 ∨ 0 ≤ b ∧ b < 12) ∧ (n < 3 ∨ 0 ≤ c ∧ c < 12)) ∨ v = 0 ∧ ¬ (1 ≤ n ∧ n ≤ 3 ∧ 0 ≤ a ∧ a < 12 ∧ (n < 2 ∨ 0 ≤ b ∧ b < 12) ∧ (n < 3 ∨ 0 ≤ c ∧ c < 12)))) := by
  refine zam (by decide) (Nat.le_of_ble_eq_true rfl) ?_
  refine zwalk zmk_82 [] 5 ?_
  show ((n < (1 : Int) → (((0 : Int) = 0 ∨ (0 : Int) = 1) ∧ (σ = σ ∧ ((0 : Int) = 1 ∧ (1 ≤ n ∧ n ≤ 3 ∧ 0 ≤ a ∧ a < 12 ∧ (n < 2 ∨ 0 ≤ b ∧ b < 12) ∧ (n < 3 ∨ 0 ≤ c ∧ c < 12)) ∨ (0 : Int) = 0 ∧ ¬ (1 ≤ n ∧ n ≤ 3 ∧ 0 ≤ a ∧ a < 12 ∧ (n < 2 ∨ 0 ≤ b ∧ b < 12) ∧ (n < 3 ∨ 0 ≤ c ∧ c < 12)))))) ∧ ((1 : Int) ≤ n → (((3 : Int) < n → (((0 : Int) = 0 ∨ (0 : Int) = 1) ∧ (σ = σ ∧ ((0 : Int) = 1 ∧ (1 ≤ n ∧ n ≤ 3 ∧ 0 ≤ a ∧ a < 12 ∧ (n < 2 ∨ 0 ≤ b ∧ b < 12) ∧ (n < 3 ∨ 0 ≤ c ∧ c < 12)) ∨ (0 : Int) = 0 ∧ ¬ (1 ≤ n ∧ n ≤ 3 ∧ 0 ≤ a ∧ a < 12 ∧ (n < 2 ∨ 0 ≤ b ∧ b < 12) ∧ (n < 3 ∨ 0 ≤ c ∧ c < 12)))))) ∧ (n ≤ (3 : Int) → (∃ Rc : Int → zS → Prop, zAM 81 [.inl a] σ Rc ∧ ∀ (v1 : Int) (u1 : zS), zI v1 → Rc v1 u1 → ((v1 = 0 → (((0 : Int) = 0 ∨ (0 : Int) = 1) ∧ (σ = u1 ∧ ((0 : Int) = 1 ∧ (1 ≤ n ∧ n ≤ 3 ∧ 0 ≤ a ∧ a < 12 ∧ (n < 2 ∨ 0 ≤ b ∧ b < 12) ∧ (n < 3 ∨ 0 ≤ c ∧ c < 12)) ∨ (0 : Int) = 0 ∧ ¬ (1 ≤ n ∧ n ≤ 3 ∧ 0 ≤ a ∧ a < 12 ∧ (n < 2 ∨ 0 ≤ b ∧ b < 12) ∧ (n < 3 ∨ 0 ≤ c ∧ c < 12)))))) ∧ (¬ v1 = 0 → ((n < (2 : Int) → ((n < (3 : Int) → (((1 : Int) = 0 ∨ (1 : Int) = 1) ∧ (σ = u1 ∧ ((1 : Int) = 1 ∧ (1 ≤ n ∧ n ≤ 3 ∧ 0 ≤ a ∧ a < 12 ∧ (n < 2 ∨ 0 ≤ b ∧ b < 12) ∧ (n < 3 ∨ 0 ≤ c ∧ c < 12)) ∨ (1 : Int) = 0 ∧ ¬ (1 ≤ n ∧ n ≤ 3 ∧ 0 ≤ a ∧ a < 12 ∧ (n < 2 ∨ 0 ≤ b ∧ b < 12) ∧ (n < 3 ∨ 0 ≤ c ∧ c < 12)))))) ∧ ((3 : Int) ≤ n → (∃ Rc : Int → zS → Prop, zAM 81 [.inl c] u1 Rc ∧ ∀ (v2 : Int) (u2 : zS), zI v2 → Rc v2 u2 → ((v2 = 0 → (((0 : Int) = 0 ∨ (0 : Int) = 1) ∧ (σ = u2 ∧ ((0 : Int) = 1 ∧ (1 ≤ n ∧ n ≤ 3 ∧ 0 ≤ a ∧ a < 12 ∧ (n < 2 ∨ 0 ≤ b ∧ b < 12) ∧ (n < 3 ∨ 0 ≤ c ∧ c < 12)) ∨ (0 : Int) = 0 ∧ ¬ (1 ≤ n ∧ n ≤ 3 ∧ 0 ≤ a ∧ a < 12 ∧ (n < 2 ∨ 0 ≤ b ∧ b < 12) ∧ (n < 3 ∨ 0 ≤ c ∧ c < 12)))))) ∧ (¬ v2 = 0 → (((1 : Int) = 0 ∨ (1 : Int) = 1) ∧ (σ = u2 ∧ ((1 : Int) = 1 ∧ (1 ≤ n ∧ n ≤ 3 ∧ 0 ≤ a ∧ a < 12 ∧ (n < 2 ∨ 0 ≤ b ∧ b < 12) ∧ (n < 3 ∨ 0 ≤ c ∧ c < 12)) ∨ (1 : Int) = 0 ∧ ¬ (1 ≤ n ∧ n ≤ 3 ∧ 0 ≤ a ∧ a < 12 ∧ (n < 2 ∨ 0 ≤ b ∧ b < 12) ∧ (n < 3 ∨ 0 ≤ c ∧ c < 12))))))))))) ∧ ((2 : Int) ≤ n → (∃ Rc : Int → zS → Prop, zAM 81 [.inl b] u1 Rc ∧ ∀ (v3 : Int) (u3 : zS), zI v3 → Rc v3 u3 → ((v3 = 0 → (((0 : Int) = 0 ∨ (0 : Int) = 1) ∧ (σ = u3 ∧ ((0 : Int) = 1 ∧ (1 ≤ n ∧ n ≤ 3 ∧ 0 ≤ a ∧ a < 12 ∧ (n < 2 ∨ 0 ≤ b ∧ b < 12) ∧ (n < 3 ∨ 0 ≤ c ∧ c < 12)) ∨ (0 : Int) = 0 ∧ ¬ (1 ≤ n ∧ n ≤ 3 ∧ 0 ≤ a ∧ a < 12 ∧ (n < 2 ∨ 0 ≤ b ∧ b < 12) ∧ (n < 3 ∨ 0 ≤ c ∧ c < 12)))))) ∧ (¬ v3 = 0 → ((n < (3 : Int) → (((1 : Int) = 0 ∨ (1 : Int) = 1) ∧ (σ = u3 ∧ ((1 : Int) = 1 ∧ (1 ≤ n ∧ n ≤ 3 ∧ 0 ≤ a ∧ a < 12 ∧ (n < 2 ∨ 0 ≤ b ∧ b < 12) ∧ (n < 3 ∨ 0 ≤ c ∧ c < 12)) ∨ (1 : Int) = 0 ∧ ¬ (1 ≤ n ∧ n ≤ 3 ∧ 0 ≤ a ∧ a < 12 ∧ (n < 2 ∨ 0 ≤ b ∧ b < 12) ∧ (n < 3 ∨ 0 ≤ c ∧ c < 12)))))) ∧ ((3 : Int) ≤ n → (∃ Rc : Int → zS → Prop, zAM 81 [.inl c] u3 Rc ∧ ∀ (v4 : Int) (u4 : zS), zI v4 → Rc v4 u4 → ((v4 = 0 → (((0 : Int) = 0 ∨ (0 : Int) = 1) ∧ (σ = u4 ∧ ((0 : Int) = 1 ∧ (1 ≤ n ∧ n ≤ 3 ∧ 0 ≤ a ∧ a < 12 ∧ (n < 2 ∨ 0 ≤ b ∧ b < 12) ∧ (n < 3 ∨ 0 ≤ c ∧ c < 12)) ∨ (0 : Int) = 0 ∧ ¬ (1 ≤ n ∧ n ≤ 3 ∧ 0 ≤ a ∧ a < 12 ∧ (n < 2 ∨ 0 ≤ b ∧ b < 12) ∧ (n < 3 ∨ 0 ≤ c ∧ c < 12)))))) ∧ (¬ v4 = 0 → (((1 : Int) = 0 ∨ (1 : Int) = 1) ∧ (σ = u4 ∧ ((1 : Int) = 1 ∧ (1 ≤ n ∧ n ≤ 3 ∧ 0 ≤ a ∧ a < 12 ∧ (n < 2 ∨ 0 ≤ b ∧ b < 12) ∧ (n < 3 ∨ 0 ≤ c ∧ c < 12)) ∨ (1 : Int) = 0 ∧ ¬ (1 ≤ n ∧ n ≤ 3 ∧ 0 ≤ a ∧ a < 12 ∧ (n < 2 ∨ 0 ≤ b ∧ b < 12) ∧ (n < 3 ∨ 0 ≤ c ∧ c < 12))))))))))))))))))))))
  refine ⟨?_, ?_⟩
  · intro h1
    refine ⟨by (omega), ?_⟩
    exact ⟨rfl, by omega⟩
  · intro h2
    refine ⟨?_, ?_⟩
    · intro h3
      refine ⟨by (omega), ?_⟩
      exact ⟨rfl, by omega⟩
    · intro h4
      refine ⟨_, am_X8_isShape, ?_⟩
      intro v1 u1 hv1
      rintro ⟨rfl, (⟨rfl, cv1⟩ | ⟨rfl, cv1⟩)⟩
      · refine ⟨?_, ?_⟩
        · exact fun h => absurd h (by decide)
        · intro _
          refine ⟨?_, ?_⟩
          · intro h6
            refine ⟨?_, ?_⟩
            · intro h7
              refine ⟨by (omega), ?_⟩
              exact ⟨rfl, by omega⟩
            · intro h8
              refine ⟨_, am_X8_isShape, ?_⟩
              intro v2 u2 hv2
              rintro ⟨rfl, (⟨rfl, cv2⟩ | ⟨rfl, cv2⟩)⟩
              · refine ⟨?_, ?_⟩
                · exact fun h => absurd h (by decide)
                · intro _
                  refine ⟨by (omega), ?_⟩
                  exact ⟨rfl, by omega⟩
              · refine ⟨?_, ?_⟩
                · intro _
                  refine ⟨by (omega), ?_⟩
                  exact ⟨rfl, by omega⟩
                · exact fun h => absurd h (by decide)
          · intro h11
            refine ⟨_, am_X8_isShape, ?_⟩
            intro v3 u3 hv3
            rintro ⟨rfl, (⟨rfl, cv3⟩ | ⟨rfl, cv3⟩)⟩
            · refine ⟨?_, ?_⟩
              · exact fun h => absurd h (by decide)
              · intro _
                refine ⟨?_, ?_⟩
                · intro h13
                  refine ⟨by (omega), ?_⟩
                  exact ⟨rfl, by omega⟩
                · intro h14
                  refine ⟨_, am_X8_isShape, ?_⟩
                  intro v4 u4 hv4
                  rintro ⟨rfl, (⟨rfl, cv4⟩ | ⟨rfl, cv4⟩)⟩
                  · refine ⟨?_, ?_⟩
                    · exact fun h => absurd h (by decide)
                    · intro _
                      refine ⟨by (omega), ?_⟩
                      exact ⟨rfl, by omega⟩
                  · refine ⟨?_, ?_⟩
                    · intro _
                      refine ⟨by (omega), ?_⟩
                      exact ⟨rfl, by omega⟩
                    · exact fun h => absurd h (by decide)
            · refine ⟨?_, ?_⟩
              · intro _
                refine ⟨by (omega), ?_⟩
                exact ⟨rfl, by omega⟩
              · exact fun h => absurd h (by decide)
      · refine ⟨?_, ?_⟩
        · intro _
          refine ⟨by (omega), ?_⟩
          exact ⟨rfl, by omega⟩
        · exact fun h => absurd h (by decide)
set_option maxRecDepth 100000 in
set_option maxHeartbeats 4000000 in
theorem am_X8_found {σ : zS} {k : Int} (hk : 0 ≤ k ∧ k ≤ 5) : zAM 76 [.inr (.inr (0, 0)), .inl k] σ (fun (v : Int) (u : zS) => zup σ 0 11 k = u ∧ -1000010 - k = v) := by
  refine zam (by decide) (Nat.le_of_ble_eq_true rfl) ?_
  refine zwalk zmk_76 [] 2 ?_
  show (zI ((-1000010 : Int) - k) ∧ (zup σ 0 11 k = (zup σ 0 (11 : Int) k) ∧ -1000010 - k = ((-1000010 : Int) - k)))
  refine ⟨by (exact ⟨by omega, by omega⟩), ?_⟩
  exact ⟨rfl, rfl⟩
set_option maxRecDepth 100000 in
set_option maxHeartbeats 4000000 in
theorem am_X8_fine {σ : zS} {k : Int} : zAM 77 [.inr (.inr (0, 0)), .inl k] σ (fun (v : Int) (u : zS) => zup σ 0 11 0 = u ∧ k = v) := by
  refine zam (by decide) (Nat.le_of_ble_eq_true rfl) ?_
  refine zwalk zmk_77 [] 2 ?_
  show (zup σ 0 11 0 = (zup σ 0 (11 : Int) (0 : Int)) ∧ k = k)
  exact ⟨rfl, rfl⟩
theorem zRuns.mono {i : Nat} {X : zX} {R R' : Int → zS → Prop} {pc : Nat} {L : zL} {st : List zV} {σ : zS} (hR : ∀ v u, R v u → R' v u) (h : zRuns i X R pc L st σ) : zRuns i X R' pc L st σ := by
  intro hw hL hs p l e s m args below meth c D ad ct AA H locs ls cells slots Q fx en wo lo
  exact h hw hL hs p l e s m args below meth c D ad ct AA H locs ls cells slots Q fx (fun v u H locs ls pc hr => en v u H locs ls pc (hR v u hr)) wo lo
def zfill (σ : zS) (k : Nat) (o n v : Int) : zS := fun k' i => if k' = k ∧ o ≤ i ∧ i < o + n then v else σ k' i
theorem zfill_0 {σ : zS} {k : Nat} {o v : Int} : zfill σ k o 0 v = σ := by
  funext k' i
  exact if_neg (by omega)
theorem zfill_s {σ : zS} {k : Nat} {o n v : Int} (h : 0 ≤ n) : zup (zfill σ k o n v) k (o + n) v = zfill σ k o (n + 1) v := by
  funext k' i
  simp only [zup, zfill]
  by_cases e : k' = k
  · rw [if_pos e]
    by_cases f : i = o + n
    · rw [if_pos f, if_pos ⟨e, by omega, by omega⟩]
    · rw [if_neg f]
      by_cases g : o ≤ i ∧ i < o + n
      · rw [if_pos ⟨e, g⟩, if_pos ⟨e, by omega, by omega⟩]
      · rw [if_neg (fun q => g q.2), if_neg (fun q => by omega)]
  · rw [if_neg e, if_neg (fun q => e q.1), if_neg (fun q => e q.1)]
set_option maxRecDepth 100000 in
set_option maxHeartbeats 4000000 in
theorem lp_fill_row {o : Int} {x : Int} {τ : zS} : ∀ (n : Nat) (i : Int) (σ : zS), 80 - i < (n : Int) → (0 ≤ i) → (i ≤ 80) → (σ = zfill τ 65 o i x) → zRuns 158 zX0 (fun (v : Int) (u : zS) => zfill τ 65 o 80 x = u) 5 [some (.inr (.inr (65, o))), some (.inl x), some (.inl i), some (.inl 80)] [] σ := by
  intro n
  induction n with
  | zero =>
    intro i σ hn hi hi2 hσ
    exfalso
    omega
  | succ n ih =>
    intro i σ hn hi hi2 hσ
    refine zwalk zmk_158 [(5, [true, true, true, true])] 3 ?_
    show ((80 ≤ i → (zfill τ 65 o 80 x = σ)) ∧ (i < 80 → ((0 ≤ i ∧ i < 80) ∧ (zI (i + (1 : Int)) ∧ zRuns 158 zX0 (fun (v : Int) (u : zS) => zfill τ 65 o 80 x = u) 5 [some (.inr (.inr (65, o))), some (.inl x), some (.inl (i + (1 : Int))), some (.inl 80)] [] (zup σ 65 (o + i) x)))))
    refine ⟨?_, ?_⟩
    · intro h1
      have : i = 80 := by omega
      rw [this] at hσ; exact hσ.symm
    · intro h2
      refine ⟨by (first | omega | exact ⟨by omega, by omega⟩ | exact ⟨by omega, by omega, by omega⟩ | exact ⟨by omega, by omega, by omega, by omega, by omega⟩), ?_⟩
      refine ⟨by (exact ⟨by omega, by omega⟩), ?_⟩
      exact ih _ _ (by omega) (by omega) (by omega) (by rw [hσ]; exact zfill_s hi)
set_option maxRecDepth 100000 in
set_option maxHeartbeats 4000000 in
theorem am_fill_row {σ : zS} {o : Int} {x : Int} : zAM 158 [.inr (.inr (65, o)), .inl x] σ (fun (v : Int) (u : zS) => zfill σ 65 o 80 x = u) := by
  refine zam (by decide) (Nat.le_of_ble_eq_true rfl) ?_
  refine zwalk zmk_158 [(5, [true, true, true, true])] 2 ?_
  show zRuns 158 zX0 (fun (v : Int) (u : zS) => zfill σ 65 o 80 x = u) 5 [some (.inr (.inr (65, o))), some (.inl x), some (.inl (0 : Int)), some (.inl 80)] [] σ
  exact lp_fill_row 81 0 _ (by omega) (by omega) (by omega) zfill_0.symm
set_option maxRecDepth 100000 in
set_option maxHeartbeats 4000000 in
theorem lp_fill_costs {x : Int} {τ : zS} : ∀ (n : Nat) (i : Int) (σ : zS), 1092 - i < (n : Int) → (0 ≤ i) → (i ≤ 1092) → (σ = zfill τ 29 0 i x) → zRuns 158 zX0 (fun (v : Int) (u : zS) => zfill τ 29 0 1092 x = u) 5 [some (.inr (.inr (29, 0))), some (.inl x), some (.inl i), some (.inl (1092 : Int))] [] σ := by
  intro n
  induction n with
  | zero =>
    intro i σ hn hi hi2 hσ
    exfalso
    omega
  | succ n ih =>
    intro i σ hn hi hi2 hσ
    refine zwalk zmk_158 [(5, [true, true, true, true])] 3 ?_
    show (((1092 : Int) ≤ i → (zfill τ 29 0 1092 x = σ)) ∧ (i < (1092 : Int) → ((0 ≤ i ∧ i < (1092 : Int)) ∧ (zI (i + (1 : Int)) ∧ zRuns 158 zX0 (fun (v : Int) (u : zS) => zfill τ 29 0 1092 x = u) 5 [some (.inr (.inr (29, 0))), some (.inl x), some (.inl (i + (1 : Int))), some (.inl (1092 : Int))] [] (zup σ 29 i x)))))
    refine ⟨?_, ?_⟩
    · intro h1
      have : i = 1092 := by omega
      rw [this] at hσ; exact hσ.symm
    · intro h2
      refine ⟨by (first | omega | exact ⟨by omega, by omega⟩ | exact ⟨by omega, by omega, by omega⟩ | exact ⟨by omega, by omega, by omega, by omega, by omega⟩), ?_⟩
      refine ⟨by (exact ⟨by omega, by omega⟩), ?_⟩
      exact ih _ _ (by omega) (by omega) (by omega) (by rw [hσ]; have h9 := zfill_s (σ := τ) (k := 29) (o := 0) (v := x) hi; rwa [Int.zero_add] at h9)
set_option maxRecDepth 100000 in
set_option maxHeartbeats 4000000 in
theorem am_fill_costs {σ : zS} {x : Int} : zAM 158 [.inr (.inr (29, 0)), .inl x] σ (fun (v : Int) (u : zS) => zfill σ 29 0 1092 x = u) := by
  refine zam (by decide) (Nat.le_of_ble_eq_true rfl) ?_
  refine zwalk zmk_158 [(5, [true, true, true, true])] 2 ?_
  show zRuns 158 zX0 (fun (v : Int) (u : zS) => zfill σ 29 0 1092 x = u) 5 [some (.inr (.inr (29, 0))), some (.inl x), some (.inl (0 : Int)), some (.inl (1092 : Int))] [] σ
  exact lp_fill_costs 1093 0 _ (by omega) (by omega) (by omega) zfill_0.symm
set_option maxRecDepth 100000 in
set_option maxHeartbeats 4000000 in
theorem lp_fill_least {x : Int} {τ : zS} : ∀ (n : Nat) (i : Int) (σ : zS), 195 - i < (n : Int) → (0 ≤ i) → (i ≤ 195) → (σ = zfill τ 33 0 i x) → zRuns 158 zX0 (fun (v : Int) (u : zS) => zfill τ 33 0 195 x = u) 5 [some (.inr (.inr (33, 0))), some (.inl x), some (.inl i), some (.inl (195 : Int))] [] σ := by
  intro n
  induction n with
  | zero =>
    intro i σ hn hi hi2 hσ
    exfalso
    omega
  | succ n ih =>
    intro i σ hn hi hi2 hσ
    refine zwalk zmk_158 [(5, [true, true, true, true])] 3 ?_
    show (((195 : Int) ≤ i → (zfill τ 33 0 195 x = σ)) ∧ (i < (195 : Int) → ((0 ≤ i ∧ i < (195 : Int)) ∧ (zI (i + (1 : Int)) ∧ zRuns 158 zX0 (fun (v : Int) (u : zS) => zfill τ 33 0 195 x = u) 5 [some (.inr (.inr (33, 0))), some (.inl x), some (.inl (i + (1 : Int))), some (.inl (195 : Int))] [] (zup σ 33 i x)))))
    refine ⟨?_, ?_⟩
    · intro h1
      have : i = 195 := by omega
      rw [this] at hσ; exact hσ.symm
    · intro h2
      refine ⟨by (first | omega | exact ⟨by omega, by omega⟩ | exact ⟨by omega, by omega, by omega⟩ | exact ⟨by omega, by omega, by omega, by omega, by omega⟩), ?_⟩
      refine ⟨by (exact ⟨by omega, by omega⟩), ?_⟩
      exact ih _ _ (by omega) (by omega) (by omega) (by rw [hσ]; have h9 := zfill_s (σ := τ) (k := 33) (o := 0) (v := x) hi; rwa [Int.zero_add] at h9)
set_option maxRecDepth 100000 in
set_option maxHeartbeats 4000000 in
theorem am_fill_least {σ : zS} {x : Int} : zAM 158 [.inr (.inr (33, 0)), .inl x] σ (fun (v : Int) (u : zS) => zfill σ 33 0 195 x = u) := by
  refine zam (by decide) (Nat.le_of_ble_eq_true rfl) ?_
  refine zwalk zmk_158 [(5, [true, true, true, true])] 2 ?_
  show zRuns 158 zX0 (fun (v : Int) (u : zS) => zfill σ 33 0 195 x = u) 5 [some (.inr (.inr (33, 0))), some (.inl x), some (.inl (0 : Int)), some (.inl (195 : Int))] [] σ
  exact lp_fill_least 196 0 _ (by omega) (by omega) (by omega) zfill_0.symm
set_option maxRecDepth 100000 in
set_option maxHeartbeats 4000000 in
theorem am_X5_lay {σ : zS} {s : Int} {a : Int} {n : Int} (hs : 0 ≤ s ∧ s < 8) : zAM 39 [.inr (.inr (1, 0)), .inl s, .inl a, .inl n] σ (fun (v : Int) (u : zS) => zfill (zup (zup (zup σ 11 s 1) 12 s a) 13 s n) 65 (80 * s) 80 0 = u) := by
  refine zam (by decide) (Nat.le_of_ble_eq_true rfl) ?_
  refine zwalk zmk_39 [] 2 ?_
  show ((((1 : Int) = 0 ∨ (1 : Int) = 1) ∧ 0 ≤ s ∧ s < (8 : Int)) ∧ ((0 ≤ s ∧ s < (8 : Int)) ∧ ((0 ≤ s ∧ s < (8 : Int)) ∧ ((0 ≤ s ∧ s < 8) ∧ (∃ Rc : Int → zS → Prop, zAM 158 [.inr (.inr (65, (80 * s))), .inl (0 : Int)] (zup (zup (zup σ 11 s (1 : Int)) 12 s a) 13 s n) Rc ∧ ∀ (u1 : zS), Rc 0 u1 → (zfill (zup (zup (zup σ 11 s 1) 12 s a) 13 s n) 65 (80 * s) 80 0 = u1))))))
  refine ⟨by (first | omega | exact ⟨by omega, by omega⟩ | exact ⟨by omega, by omega, by omega⟩ | exact ⟨by omega, by omega, by omega, by omega, by omega⟩), ?_⟩
  refine ⟨by (first | omega | exact ⟨by omega, by omega⟩ | exact ⟨by omega, by omega, by omega⟩ | exact ⟨by omega, by omega, by omega, by omega, by omega⟩), ?_⟩
  refine ⟨by (first | omega | exact ⟨by omega, by omega⟩ | exact ⟨by omega, by omega, by omega⟩ | exact ⟨by omega, by omega, by omega, by omega, by omega⟩), ?_⟩
  refine ⟨by (first | omega | exact ⟨by omega, by omega⟩ | exact ⟨by omega, by omega, by omega⟩ | exact ⟨by omega, by omega, by omega, by omega, by omega⟩), ?_⟩
  refine ⟨_, am_fill_row, ?_⟩
  intro u1
  rintro rfl
  rfl
set_option maxRecDepth 100000 in
set_option maxHeartbeats 4000000 in
theorem am_X5_reaches {σ : zS} {s : Int} {i : Int} {n : Int} (hs : 0 ≤ s ∧ s < 8) : zAM 40 [.inr (.inr (1, 0)), .inl s, .inl i, .inl n] σ (fun (v : Int) (u : zS) => σ = u ∧ (v = 1 ∧ (0 ≤ i ∧ 0 ≤ n ∧ i ≤ σ 13 s ∧ n ≤ σ 13 s - i) ∨ v = 0 ∧ ¬ (0 ≤ i ∧ 0 ≤ n ∧ i ≤ σ 13 s ∧ n ≤ σ 13 s - i))) := by
  refine zam (by decide) (Nat.le_of_ble_eq_true rfl) ?_
  refine zRuns.wf (fun hw hL => ?_)
  refine zwalk zmk_40 [] 3 ?_
  show ((i < 0 → (((0 : Int) = 0 ∨ (0 : Int) = 1) ∧ (σ = σ ∧ ((0 : Int) = 1 ∧ (0 ≤ i ∧ 0 ≤ n ∧ i ≤ σ 13 s ∧ n ≤ σ 13 s - i) ∨ (0 : Int) = 0 ∧ ¬ (0 ≤ i ∧ 0 ≤ n ∧ i ≤ σ 13 s ∧ n ≤ σ 13 s - i))))) ∧ (0 ≤ i → ((n < 0 → (((0 : Int) = 0 ∨ (0 : Int) = 1) ∧ (σ = σ ∧ ((0 : Int) = 1 ∧ (0 ≤ i ∧ 0 ≤ n ∧ i ≤ σ 13 s ∧ n ≤ σ 13 s - i) ∨ (0 : Int) = 0 ∧ ¬ (0 ≤ i ∧ 0 ≤ n ∧ i ≤ σ 13 s ∧ n ≤ σ 13 s - i))))) ∧ (0 ≤ n → ((0 ≤ s ∧ s < (8 : Int)) ∧ (((σ 13 s) < i → (((0 : Int) = 0 ∨ (0 : Int) = 1) ∧ (σ = σ ∧ ((0 : Int) = 1 ∧ (0 ≤ i ∧ 0 ≤ n ∧ i ≤ σ 13 s ∧ n ≤ σ 13 s - i) ∨ (0 : Int) = 0 ∧ ¬ (0 ≤ i ∧ 0 ≤ n ∧ i ≤ σ 13 s ∧ n ≤ σ 13 s - i))))) ∧ (i ≤ (σ 13 s) → ((0 ≤ s ∧ s < (8 : Int)) ∧ (zI ((σ 13 s) - i) ∧ ((((σ 13 s) - i) < n → (((0 : Int) = 0 ∨ (0 : Int) = 1) ∧ (σ = σ ∧ ((0 : Int) = 1 ∧ (0 ≤ i ∧ 0 ≤ n ∧ i ≤ σ 13 s ∧ n ≤ σ 13 s - i) ∨ (0 : Int) = 0 ∧ ¬ (0 ≤ i ∧ 0 ≤ n ∧ i ≤ σ 13 s ∧ n ≤ σ 13 s - i))))) ∧ (n ≤ ((σ 13 s) - i) → (((1 : Int) = 0 ∨ (1 : Int) = 1) ∧ (σ = σ ∧ ((1 : Int) = 1 ∧ (0 ≤ i ∧ 0 ≤ n ∧ i ≤ σ 13 s ∧ n ≤ σ 13 s - i) ∨ (1 : Int) = 0 ∧ ¬ (0 ≤ i ∧ 0 ≤ n ∧ i ≤ σ 13 s ∧ n ≤ σ 13 s - i)))))))))))))))
  have w13 := (hw 13 s).2 rfl
  obtain ⟨w1, w2⟩ := w13
  refine ⟨?_, ?_⟩
  · intro h1
    refine ⟨by (omega), ?_⟩
    exact ⟨rfl, by omega⟩
  · intro h2
    refine ⟨?_, ?_⟩
    · intro h3
      refine ⟨by (omega), ?_⟩
      exact ⟨rfl, by omega⟩
    · intro h4
      refine ⟨by (first | omega | exact ⟨by omega, by omega⟩ | exact ⟨by omega, by omega, by omega⟩ | exact ⟨by omega, by omega, by omega, by omega, by omega⟩), ?_⟩
      refine ⟨?_, ?_⟩
      · intro h5
        refine ⟨by (omega), ?_⟩
        exact ⟨rfl, by omega⟩
      · intro h6
        refine ⟨by (first | omega | exact ⟨by omega, by omega⟩ | exact ⟨by omega, by omega, by omega⟩ | exact ⟨by omega, by omega, by omega, by omega, by omega⟩), ?_⟩
        refine ⟨by (exact ⟨by omega, by omega⟩), ?_⟩
        refine ⟨?_, ?_⟩
        · intro h7
          refine ⟨by (omega), ?_⟩
          exact ⟨rfl, by omega⟩
        · intro h8
          refine ⟨by (omega), ?_⟩
          exact ⟨rfl, by omega⟩
def zb8 (x : Int) : Int := (Int32.ofInt x).toInt8.toInt32.toInt
def zs16 (x : Int) : Int := (Int32.ofInt x).toInt16.toInt32.toInt
def zlane (a x : Int) : Int := if a = 0 then zb8 x else if a = 1 then zs16 x else x
set_option maxRecDepth 100000 in
set_option maxHeartbeats 4000000 in
theorem am_X5_put {σ : zS} {s : Int} {i : Int} {x : Int} (hs : 0 ≤ s ∧ s < 8) (hi : 0 ≤ i ∧ i < 80) : zAM 41 [.inr (.inr (1, 0)), .inl s, .inl i, .inl x] σ (fun (v : Int) (u : zS) => zup σ 65 (80 * s + i) (zlane (σ 12 s) x) = u ∧ zlane (σ 12 s) x = v) := by
  refine zam (by decide) (Nat.le_of_ble_eq_true rfl) ?_
  refine zwalk zmk_41 [] 4 ?_
  show ((0 ≤ s ∧ s < (8 : Int)) ∧ ((¬ (σ 12 s) = 0 → ((0 ≤ s ∧ s < (8 : Int)) ∧ ((¬ (σ 12 s) = (1 : Int) → ((0 ≤ s ∧ s < 8) ∧ ((0 ≤ i ∧ i < 80) ∧ (zup σ 65 (80 * s + i) (zlane (σ 12 s) x) = (zup σ 65 ((80 * s) + i) x) ∧ zlane (σ 12 s) x = x)))) ∧ ((σ 12 s) = (1 : Int) → ((0 ≤ s ∧ s < 8) ∧ ((0 ≤ i ∧ i < 80) ∧ (zup σ 65 (80 * s + i) (zlane (σ 12 s) x) = (zup σ 65 ((80 * s) + i) (Int32.ofInt x).toInt16.toInt32.toInt) ∧ zlane (σ 12 s) x = (Int32.ofInt x).toInt16.toInt32.toInt))))))) ∧ ((σ 12 s) = 0 → ((0 ≤ s ∧ s < 8) ∧ ((0 ≤ i ∧ i < 80) ∧ (zup σ 65 (80 * s + i) (zlane (σ 12 s) x) = (zup σ 65 ((80 * s) + i) (Int32.ofInt x).toInt8.toInt32.toInt) ∧ zlane (σ 12 s) x = (Int32.ofInt x).toInt8.toInt32.toInt))))))
  refine ⟨by (first | omega | exact ⟨by omega, by omega⟩ | exact ⟨by omega, by omega, by omega⟩ | exact ⟨by omega, by omega, by omega, by omega, by omega⟩), ?_⟩
  refine ⟨?_, ?_⟩
  · intro h1
    refine ⟨by (first | omega | exact ⟨by omega, by omega⟩ | exact ⟨by omega, by omega, by omega⟩ | exact ⟨by omega, by omega, by omega, by omega, by omega⟩), ?_⟩
    refine ⟨?_, ?_⟩
    · intro h2
      refine ⟨by (first | omega | exact ⟨by omega, by omega⟩ | exact ⟨by omega, by omega, by omega⟩ | exact ⟨by omega, by omega, by omega, by omega, by omega⟩), ?_⟩
      refine ⟨by (first | omega | exact ⟨by omega, by omega⟩ | exact ⟨by omega, by omega, by omega⟩ | exact ⟨by omega, by omega, by omega, by omega, by omega⟩), ?_⟩
      have e : zlane (σ 12 s) x = x := by unfold zlane; rw [if_neg (by omega), if_neg (by omega)]
      rw [e]; exact ⟨rfl, rfl⟩
    · intro h3
      refine ⟨by (first | omega | exact ⟨by omega, by omega⟩ | exact ⟨by omega, by omega, by omega⟩ | exact ⟨by omega, by omega, by omega, by omega, by omega⟩), ?_⟩
      refine ⟨by (first | omega | exact ⟨by omega, by omega⟩ | exact ⟨by omega, by omega, by omega⟩ | exact ⟨by omega, by omega, by omega, by omega, by omega⟩), ?_⟩
      have e : zlane (σ 12 s) x = zs16 x := by unfold zlane; rw [if_neg (by omega), if_pos (by omega)]
      rw [e]; exact ⟨rfl, rfl⟩
  · intro h4
    refine ⟨by (first | omega | exact ⟨by omega, by omega⟩ | exact ⟨by omega, by omega, by omega⟩ | exact ⟨by omega, by omega, by omega, by omega, by omega⟩), ?_⟩
    refine ⟨by (first | omega | exact ⟨by omega, by omega⟩ | exact ⟨by omega, by omega, by omega⟩ | exact ⟨by omega, by omega, by omega, by omega, by omega⟩), ?_⟩
    have e : zlane (σ 12 s) x = zb8 x := by unfold zlane; rw [if_pos (by omega)]
    rw [e]; exact ⟨rfl, rfl⟩
end
section
def zslot (σ : zS) (a b : Int) (v : Int) : Prop := (∃ j : Int, 0 ≤ j ∧ j < σ 3 3 ∧ σ 23 j = a ∧ σ 24 j = b ∧ v = 676 + j) ∨ v = -1 ∧ ∀ j : Int, 0 ≤ j → j < σ 3 3 → ¬ (σ 23 j = a ∧ σ 24 j = b)
set_option maxRecDepth 100000 in
set_option maxHeartbeats 4000000 in
theorem lp_slotOf {a : Int} {b : Int} {σ : zS} (hf : 0 ≤ σ 3 3 ∧ σ 3 3 ≤ 512) : ∀ (n : Nat) (k : Int), σ 3 3 - k < (n : Int) → (0 ≤ k ∧ k ≤ σ 3 3) → (∀ j : Int, 0 ≤ j → j < k → ¬ (σ 23 j = a ∧ σ 24 j = b)) → zRuns 0 zX0 (fun (v : Int) (u : zS) => σ = u ∧ zslot σ a b v) 2 [some (.inr (.inr (3, 0))), some (.inl a), some (.inl b), some (.inl k)] [] σ := by
  intro n
  induction n with
  | zero =>
    intro k hn h0 hk
    exfalso
    omega
  | succ n ih =>
    intro k hn h0 hk
    refine zwalk zmk_0 [(2, [true, true, true, true])] 3 ?_
    show (((σ 3 (3 : Int)) ≤ k → (σ = σ ∧ zslot σ a b (-1 : Int))) ∧ (k < (σ 3 (3 : Int)) → ((0 ≤ k ∧ k < (512 : Int)) ∧ ((¬ (σ 23 k) = a → (zI (k + (1 : Int)) ∧ zRuns 0 zX0 (fun (v : Int) (u : zS) => σ = u ∧ zslot σ a b v) 2 [some (.inr (.inr (3, 0))), some (.inl a), some (.inl b), some (.inl (k + (1 : Int)))] [] σ)) ∧ ((σ 23 k) = a → ((0 ≤ k ∧ k < (512 : Int)) ∧ ((¬ (σ 24 k) = b → (zI (k + (1 : Int)) ∧ zRuns 0 zX0 (fun (v : Int) (u : zS) => σ = u ∧ zslot σ a b v) 2 [some (.inr (.inr (3, 0))), some (.inl a), some (.inl b), some (.inl (k + (1 : Int)))] [] σ)) ∧ ((σ 24 k) = b → (zI ((676 : Int) + k) ∧ (σ = σ ∧ zslot σ a b ((676 : Int) + k)))))))))))
    refine ⟨?_, ?_⟩
    · intro h1
      exact ⟨rfl, Or.inr ⟨rfl, fun j h7 h8 => hk j h7 (by omega)⟩⟩
    · intro h2
      refine ⟨by (first | omega | exact ⟨by omega, by omega⟩ | exact ⟨by omega, by omega, by omega⟩ | exact ⟨by omega, by omega, by omega, by omega, by omega⟩), ?_⟩
      refine ⟨?_, ?_⟩
      · intro h3
        refine ⟨by (exact ⟨by omega, by omega⟩), ?_⟩
        exact ih _ (by omega) (by omega) (fun j h7 h8 q => by
          by_cases e : j = k
          · rw [e] at q; obtain ⟨q1, q2⟩ := q; contradiction
          · exact hk j h7 (by omega) q)
      · intro h4
        refine ⟨by (first | omega | exact ⟨by omega, by omega⟩ | exact ⟨by omega, by omega, by omega⟩ | exact ⟨by omega, by omega, by omega, by omega, by omega⟩), ?_⟩
        refine ⟨?_, ?_⟩
        · intro h5
          refine ⟨by (exact ⟨by omega, by omega⟩), ?_⟩
          exact ih _ (by omega) (by omega) (fun j h7 h8 q => by
            by_cases e : j = k
            · rw [e] at q; obtain ⟨q1, q2⟩ := q; contradiction
            · exact hk j h7 (by omega) q)
        · intro h6
          refine ⟨by (exact ⟨by omega, by omega⟩), ?_⟩
          exact ⟨rfl, Or.inl ⟨k, by omega, by omega, by assumption, by assumption, rfl⟩⟩
set_option maxRecDepth 100000 in
set_option maxHeartbeats 4000000 in
theorem am_X0_slotOf {σ : zS} {a : Int} {b : Int} (hf : 0 ≤ σ 3 3 ∧ σ 3 3 ≤ 512) : zAM 0 [.inr (.inr (3, 0)), .inl a, .inl b] σ (fun (v : Int) (u : zS) => σ = u ∧ zslot σ a b v) := by
  refine zam (by decide) (Nat.le_of_ble_eq_true rfl) ?_
  refine zwalk zmk_0 [(2, [true, true, true, true])] 2 ?_
  show zRuns 0 zX0 (fun (v : Int) (u : zS) => σ = u ∧ zslot σ a b v) 2 [some (.inr (.inr (3, 0))), some (.inl a), some (.inl b), some (.inl (0 : Int))] [] σ
  exact lp_slotOf hf 514 0 (by omega) (by omega) (fun j _ _ => by omega)
set_option maxRecDepth 100000 in
set_option maxHeartbeats 4000000 in
theorem am_X0_slotMadeFor {σ : zS} {a : Int} {b : Int} (hf : 0 ≤ σ 3 3 ∧ σ 3 3 ≤ 511) : zAM 1 [.inr (.inr (3, 0)), .inl a, .inl b] σ (fun (v : Int) (u : zS) => (zslot σ a b v ∧ 0 ≤ v ∧ σ = u) ∨ (zslot σ a b (-1) ∧ zup (zup (zup σ 23 (σ 3 3) a) 24 (σ 3 3) b) 3 3 (σ 3 3 + 1) = u ∧ 676 + σ 3 3 = v)) := by
  refine zam (by decide) (Nat.le_of_ble_eq_true rfl) ?_
  refine zwalk zmk_1 [] 3 ?_
  show (∃ Rc : Int → zS → Prop, zAM 0 [.inr (.inr (3, 0)), .inl a, .inl b] σ Rc ∧ ∀ (v1 : Int) (u1 : zS), zI v1 → Rc v1 u1 → ((0 ≤ v1 → ((zslot σ a b v1 ∧ 0 ≤ v1 ∧ σ = u1) ∨ (zslot σ a b (-1) ∧ zup (zup (zup σ 23 (σ 3 3) a) 24 (σ 3 3) b) 3 3 (σ 3 3 + 1) = u1 ∧ 676 + σ 3 3 = v1))) ∧ (v1 < 0 → (((u1 3 (3 : Int)) < (512 : Int) → ((0 ≤ (u1 3 (3 : Int)) ∧ (u1 3 (3 : Int)) < (512 : Int)) ∧ ((0 ≤ (u1 3 (3 : Int)) ∧ (u1 3 (3 : Int)) < (512 : Int)) ∧ (zI ((u1 3 (3 : Int)) + (1 : Int)) ∧ (zI ((676 : Int) + ((u1 3 (3 : Int)) + (1 : Int))) ∧ (zI (((676 : Int) + ((u1 3 (3 : Int)) + (1 : Int))) - (1 : Int)) ∧ ((zslot σ a b (((676 : Int) + ((u1 3 (3 : Int)) + (1 : Int))) - (1 : Int)) ∧ 0 ≤ (((676 : Int) + ((u1 3 (3 : Int)) + (1 : Int))) - (1 : Int)) ∧ σ = (zup (zup (zup u1 23 (u1 3 (3 : Int)) a) 24 (u1 3 (3 : Int)) b) 3 (3 : Int) ((u1 3 (3 : Int)) + (1 : Int)))) ∨ (zslot σ a b (-1) ∧ zup (zup (zup σ 23 (σ 3 3) a) 24 (σ 3 3) b) 3 3 (σ 3 3 + 1) = (zup (zup (zup u1 23 (u1 3 (3 : Int)) a) 24 (u1 3 (3 : Int)) b) 3 (3 : Int) ((u1 3 (3 : Int)) + (1 : Int))) ∧ 676 + σ 3 3 = (((676 : Int) + ((u1 3 (3 : Int)) + (1 : Int))) - (1 : Int)))))))))) ∧ ((512 : Int) ≤ (u1 3 (3 : Int)) → ((zslot σ a b v1 ∧ 0 ≤ v1 ∧ σ = u1) ∨ (zslot σ a b (-1) ∧ zup (zup (zup σ 23 (σ 3 3) a) 24 (σ 3 3) b) 3 3 (σ 3 3 + 1) = u1 ∧ 676 + σ 3 3 = v1)))))))
  refine ⟨_, am_X0_slotOf (by omega), ?_⟩
  intro v1 u1 hv1
  rintro ⟨rfl, ev1⟩
  obtain ⟨hv1a, hv1b⟩ := hv1
  refine ⟨?_, ?_⟩
  · intro h1
    exact Or.inl ⟨ev1, by omega, rfl⟩
  · intro h2
    refine ⟨?_, ?_⟩
    · intro h3
      refine ⟨by (first | omega | exact ⟨by omega, by omega⟩ | exact ⟨by omega, by omega, by omega⟩ | exact ⟨by omega, by omega, by omega, by omega, by omega⟩), ?_⟩
      refine ⟨by (first | omega | exact ⟨by omega, by omega⟩ | exact ⟨by omega, by omega, by omega⟩ | exact ⟨by omega, by omega, by omega, by omega, by omega⟩), ?_⟩
      refine ⟨by (exact ⟨by omega, by omega⟩), ?_⟩
      refine ⟨by (exact ⟨by omega, by omega⟩), ?_⟩
      refine ⟨by (exact ⟨by omega, by omega⟩), ?_⟩
      have e : v1 = -1 := by
        rcases ev1 with ⟨j, a1, a2, a3, a4, a5⟩ | q
        · omega
        · exact q.1
      rw [e] at ev1
      exact Or.inr ⟨ev1, rfl, by omega⟩
    · intro h4
      exfalso; omega
set_option maxRecDepth 100000 in
set_option maxHeartbeats 4000000 in
theorem am_X0_raise {σ : zS} {s : Int} {n : Int} (hs : 0 ≤ s ∧ s < 1188) (hn : 0 ≤ n ∧ n ≤ 99) (hc : 0 ≤ σ 22 s ∧ σ 22 s ≤ 999) (hu : 0 ≤ σ 3 6) : zAM 2 [.inr (.inr (3, 0)), .inl s, .inl n] σ (fun (v : Int) (u : zS) => zup (if 0 < σ 3 8 ∧ σ 3 6 < 1024 then zup (zup (zup σ 25 (σ 3 6) s) 26 (σ 3 6) (σ 22 s)) 3 6 (σ 3 6 + 1) else σ) 22 s (min 999 (σ 22 s + n)) = u ∧ min 999 (σ 22 s + n) = v) := by
  refine zam (by decide) (Nat.le_of_ble_eq_true rfl) ?_
  refine zwalk zmk_2 [] 4 ?_
  show ((s < 0 → (zup (if 0 < σ 3 8 ∧ σ 3 6 < 1024 then zup (zup (zup σ 25 (σ 3 6) s) 26 (σ 3 6) (σ 22 s)) 3 6 (σ 3 6 + 1) else σ) 22 s (min 999 (σ 22 s + n)) = σ ∧ min 999 (σ 22 s + n) = (0 : Int))) ∧ (0 ≤ s → ((s < (1188 : Int) → (((σ 3 (8 : Int)) ≤ 0 → ((0 ≤ s ∧ s < (1188 : Int)) ∧ (zI ((σ 22 s) + n) ∧ ((0 ≤ s ∧ s < (1188 : Int)) ∧ ((0 ≤ s ∧ s < (1188 : Int)) ∧ (zup (if 0 < σ 3 8 ∧ σ 3 6 < 1024 then zup (zup (zup σ 25 (σ 3 6) s) 26 (σ 3 6) (σ 22 s)) 3 6 (σ 3 6 + 1) else σ) 22 s (min 999 (σ 22 s + n)) = (zup σ 22 s (min (999 : Int) ((σ 22 s) + n))) ∧ min 999 (σ 22 s + n) = (if s = s then (min (999 : Int) ((σ 22 s) + n)) else (σ 22 s)))))))) ∧ (0 < (σ 3 (8 : Int)) → (((1024 : Int) ≤ (σ 3 (6 : Int)) → ((0 ≤ s ∧ s < (1188 : Int)) ∧ (zI ((σ 22 s) + n) ∧ ((0 ≤ s ∧ s < (1188 : Int)) ∧ ((0 ≤ s ∧ s < (1188 : Int)) ∧ (zup (if 0 < σ 3 8 ∧ σ 3 6 < 1024 then zup (zup (zup σ 25 (σ 3 6) s) 26 (σ 3 6) (σ 22 s)) 3 6 (σ 3 6 + 1) else σ) 22 s (min 999 (σ 22 s + n)) = (zup σ 22 s (min (999 : Int) ((σ 22 s) + n))) ∧ min 999 (σ 22 s + n) = (if s = s then (min (999 : Int) ((σ 22 s) + n)) else (σ 22 s)))))))) ∧ ((σ 3 (6 : Int)) < (1024 : Int) → ((0 ≤ (σ 3 (6 : Int)) ∧ (σ 3 (6 : Int)) < (1024 : Int)) ∧ ((0 ≤ s ∧ s < (1188 : Int)) ∧ ((0 ≤ (σ 3 (6 : Int)) ∧ (σ 3 (6 : Int)) < (1024 : Int)) ∧ (zI ((σ 3 (6 : Int)) + (1 : Int)) ∧ ((0 ≤ s ∧ s < (1188 : Int)) ∧ (zI ((σ 22 s) + n) ∧ ((0 ≤ s ∧ s < (1188 : Int)) ∧ ((0 ≤ s ∧ s < (1188 : Int)) ∧ (zup (if 0 < σ 3 8 ∧ σ 3 6 < 1024 then zup (zup (zup σ 25 (σ 3 6) s) 26 (σ 3 6) (σ 22 s)) 3 6 (σ 3 6 + 1) else σ) 22 s (min 999 (σ 22 s + n)) = (zup (zup (zup (zup σ 25 (σ 3 (6 : Int)) s) 26 (σ 3 (6 : Int)) (σ 22 s)) 3 (6 : Int) ((σ 3 (6 : Int)) + (1 : Int))) 22 s (min (999 : Int) ((σ 22 s) + n))) ∧ min 999 (σ 22 s + n) = (if s = s then (min (999 : Int) ((σ 22 s) + n)) else (σ 22 s)))))))))))))))) ∧ ((1188 : Int) ≤ s → (zup (if 0 < σ 3 8 ∧ σ 3 6 < 1024 then zup (zup (zup σ 25 (σ 3 6) s) 26 (σ 3 6) (σ 22 s)) 3 6 (σ 3 6 + 1) else σ) 22 s (min 999 (σ 22 s + n)) = σ ∧ min 999 (σ 22 s + n) = (0 : Int))))))
  refine ⟨?_, ?_⟩
  · intro h1
    (exfalso; omega)
  · intro h2
    refine ⟨?_, ?_⟩
    · intro h3
      refine ⟨?_, ?_⟩
      · intro h4
        refine ⟨by (first | omega | exact ⟨by omega, by omega⟩ | exact ⟨by omega, by omega, by omega⟩ | exact ⟨by omega, by omega, by omega, by omega, by omega⟩), ?_⟩
        refine ⟨by (exact ⟨by omega, by omega⟩), ?_⟩
        refine ⟨by (first | omega | exact ⟨by omega, by omega⟩ | exact ⟨by omega, by omega, by omega⟩ | exact ⟨by omega, by omega, by omega, by omega, by omega⟩), ?_⟩
        refine ⟨by (first | omega | exact ⟨by omega, by omega⟩ | exact ⟨by omega, by omega, by omega⟩ | exact ⟨by omega, by omega, by omega, by omega, by omega⟩), ?_⟩
        rw [if_neg (show ¬ (0 < σ 3 8 ∧ σ 3 6 < 1024) by omega)]; exact ⟨rfl, (if_pos rfl).symm⟩
      · intro h5
        refine ⟨?_, ?_⟩
        · intro h6
          refine ⟨by (first | omega | exact ⟨by omega, by omega⟩ | exact ⟨by omega, by omega, by omega⟩ | exact ⟨by omega, by omega, by omega, by omega, by omega⟩), ?_⟩
          refine ⟨by (exact ⟨by omega, by omega⟩), ?_⟩
          refine ⟨by (first | omega | exact ⟨by omega, by omega⟩ | exact ⟨by omega, by omega, by omega⟩ | exact ⟨by omega, by omega, by omega, by omega, by omega⟩), ?_⟩
          refine ⟨by (first | omega | exact ⟨by omega, by omega⟩ | exact ⟨by omega, by omega, by omega⟩ | exact ⟨by omega, by omega, by omega, by omega, by omega⟩), ?_⟩
          rw [if_neg (show ¬ (0 < σ 3 8 ∧ σ 3 6 < 1024) by omega)]; exact ⟨rfl, (if_pos rfl).symm⟩
        · intro h7
          refine ⟨by (first | omega | exact ⟨by omega, by omega⟩ | exact ⟨by omega, by omega, by omega⟩ | exact ⟨by omega, by omega, by omega, by omega, by omega⟩), ?_⟩
          refine ⟨by (first | omega | exact ⟨by omega, by omega⟩ | exact ⟨by omega, by omega, by omega⟩ | exact ⟨by omega, by omega, by omega, by omega, by omega⟩), ?_⟩
          refine ⟨by (first | omega | exact ⟨by omega, by omega⟩ | exact ⟨by omega, by omega, by omega⟩ | exact ⟨by omega, by omega, by omega, by omega, by omega⟩), ?_⟩
          refine ⟨by (exact ⟨by omega, by omega⟩), ?_⟩
          refine ⟨by (first | omega | exact ⟨by omega, by omega⟩ | exact ⟨by omega, by omega, by omega⟩ | exact ⟨by omega, by omega, by omega, by omega, by omega⟩), ?_⟩
          refine ⟨by (exact ⟨by omega, by omega⟩), ?_⟩
          refine ⟨by (first | omega | exact ⟨by omega, by omega⟩ | exact ⟨by omega, by omega, by omega⟩ | exact ⟨by omega, by omega, by omega, by omega, by omega⟩), ?_⟩
          refine ⟨by (first | omega | exact ⟨by omega, by omega⟩ | exact ⟨by omega, by omega, by omega⟩ | exact ⟨by omega, by omega, by omega, by omega, by omega⟩), ?_⟩
          rw [if_pos (show 0 < σ 3 8 ∧ σ 3 6 < 1024 by omega)]; exact ⟨rfl, (if_pos rfl).symm⟩
    · intro h8
      (exfalso; omega)
set_option maxRecDepth 100000 in
set_option maxHeartbeats 4000000 in
theorem am_X0_beginTeaching {σ : zS} (ht : 0 ≤ σ 3 8 ∧ σ 3 8 < 50) : zAM 3 [.inr (.inr (3, 0))] σ (fun (v : Int) (u : zS) => zup (zup σ 27 (σ 3 8) (σ 3 6)) 3 8 (σ 3 8 + 1) = u) := by
  refine zam (by decide) (Nat.le_of_ble_eq_true rfl) ?_
  refine zwalk zmk_3 [] 3 ?_
  show (((50 : Int) ≤ (σ 3 (8 : Int)) → (zup (zup σ 27 (σ 3 8) (σ 3 6)) 3 8 (σ 3 8 + 1) = σ)) ∧ ((σ 3 (8 : Int)) < (50 : Int) → ((0 ≤ (σ 3 (8 : Int)) ∧ (σ 3 (8 : Int)) < (50 : Int)) ∧ (zI ((σ 3 (8 : Int)) + (1 : Int)) ∧ (zup (zup σ 27 (σ 3 8) (σ 3 6)) 3 8 (σ 3 8 + 1) = (zup (zup σ 27 (σ 3 (8 : Int)) (σ 3 (6 : Int))) 3 (8 : Int) ((σ 3 (8 : Int)) + (1 : Int))))))))
  refine ⟨?_, ?_⟩
  · intro h1
    (exfalso; omega)
  · intro h2
    refine ⟨by (first | omega | exact ⟨by omega, by omega⟩ | exact ⟨by omega, by omega, by omega⟩ | exact ⟨by omega, by omega, by omega, by omega, by omega⟩), ?_⟩
    refine ⟨by (exact ⟨by omega, by omega⟩), ?_⟩
    rfl
end
section
set_option maxRecDepth 100000 in
set_option maxHeartbeats 4000000 in
theorem am_X2_piecesOf {σ : zS} {i : Int} (hi : 0 ≤ i ∧ i < 40) (hb : 0 ≤ σ 20 i ∧ σ 20 i ≤ 40) (hc : 0 ≤ σ 20 (i + 1) ∧ σ 20 (i + 1) ≤ 40) : zAM 21 [.inr (.inr (2, 0)), .inl i] σ (fun (v : Int) (u : zS) => σ = u ∧ σ 20 (i + 1) - σ 20 i = v) := by
  refine zam (by decide) (Nat.le_of_ble_eq_true rfl) ?_
  refine zwalk zmk_21 [] 2 ?_
  show (zI (i + (1 : Int)) ∧ ((0 ≤ (i + (1 : Int)) ∧ (i + (1 : Int)) < (41 : Int)) ∧ ((0 ≤ i ∧ i < (41 : Int)) ∧ (zI ((σ 20 (i + (1 : Int))) - (σ 20 i)) ∧ (σ = σ ∧ σ 20 (i + 1) - σ 20 i = ((σ 20 (i + (1 : Int))) - (σ 20 i)))))))
  refine ⟨by (exact ⟨by omega, by omega⟩), ?_⟩
  refine ⟨by (first | omega | exact ⟨by omega, by omega⟩ | exact ⟨by omega, by omega, by omega⟩ | exact ⟨by omega, by omega, by omega, by omega, by omega⟩), ?_⟩
  refine ⟨by (first | omega | exact ⟨by omega, by omega⟩ | exact ⟨by omega, by omega, by omega⟩ | exact ⟨by omega, by omega, by omega, by omega, by omega⟩), ?_⟩
  refine ⟨by (exact ⟨by omega, by omega⟩), ?_⟩
  exact ⟨rfl, rfl⟩
def zdot (l d : Int) : Int := if (l = 8 ∨ l = 9) ∧ d = 0 then 5 else if ¬ (l = 8 ∨ l = 9) ∧ d = 1 then 4 else 0
set_option maxRecDepth 100000 in
set_option maxHeartbeats 4000000 in
theorem am_X1_dotCost {σ : zS} {l : Int} {d : Int} (hd : d = 0 ∨ d = 1) : zAM 11 [.inl l, .inl d] σ (fun (v : Int) (u : zS) => σ = u ∧ zdot l d = v) := by
  refine zam (by decide) (Nat.le_of_ble_eq_true rfl) ?_
  refine zwalk zmk_11 [] 6 ?_
  show ((l = (8 : Int) → ((¬ (1 : Int) = d → (((1 : Int) = 0 → (σ = σ ∧ zdot l d = (4 : Int))) ∧ (¬ (1 : Int) = 0 → (σ = σ ∧ zdot l d = (5 : Int))))) ∧ ((1 : Int) = d → (σ = σ ∧ zdot l d = (0 : Int))))) ∧ (¬ l = (8 : Int) → ((¬ l = (9 : Int) → ((¬ (0 : Int) = d → (((0 : Int) = 0 → (σ = σ ∧ zdot l d = (4 : Int))) ∧ (¬ (0 : Int) = 0 → (σ = σ ∧ zdot l d = (5 : Int))))) ∧ ((0 : Int) = d → (σ = σ ∧ zdot l d = (0 : Int))))) ∧ (l = (9 : Int) → ((¬ (1 : Int) = d → (((1 : Int) = 0 → (σ = σ ∧ zdot l d = (4 : Int))) ∧ (¬ (1 : Int) = 0 → (σ = σ ∧ zdot l d = (5 : Int))))) ∧ ((1 : Int) = d → (σ = σ ∧ zdot l d = (0 : Int))))))))
  refine ⟨?_, ?_⟩
  · intro h1
    refine ⟨?_, ?_⟩
    · intro h2
      refine ⟨?_, ?_⟩
      · exact fun h => absurd h (by decide)
      · intro _
        exact ⟨rfl, by unfold zdot; repeat' split <;> omega⟩
    · intro h4
      exact ⟨rfl, by unfold zdot; repeat' split <;> omega⟩
  · intro h5
    refine ⟨?_, ?_⟩
    · intro h6
      refine ⟨?_, ?_⟩
      · intro h7
        refine ⟨?_, ?_⟩
        · intro _
          exact ⟨rfl, by unfold zdot; repeat' split <;> omega⟩
        · exact fun h => absurd h (by decide)
      · intro h9
        exact ⟨rfl, by unfold zdot; repeat' split <;> omega⟩
    · intro h10
      refine ⟨?_, ?_⟩
      · intro h11
        refine ⟨?_, ?_⟩
        · exact fun h => absurd h (by decide)
        · intro _
          exact ⟨rfl, by unfold zdot; repeat' split <;> omega⟩
      · intro h13
        exact ⟨rfl, by unfold zdot; repeat' split <;> omega⟩
set_option maxRecDepth 100000 in
set_option maxHeartbeats 4000000 in
theorem am_X1_place {σ : zS} {a : Int} {r : Int} {l : Int} (h : 0 ≤ a ∧ a ≤ 14 ∧ 0 ≤ r ∧ r ≤ 4 ∧ 0 ≤ l ∧ l ≤ 26) : zAM 12 [.inl a, .inl r, .inl l] σ (fun (v : Int) (u : zS) => σ = u ∧ ((a * 3 + r - 1) * 26 + l) = v) := by
  refine zam (by decide) (Nat.le_of_ble_eq_true rfl) ?_
  refine zwalk zmk_12 [] 2 ?_
  show (zI (a * (3 : Int)) ∧ (zI ((a * (3 : Int)) + r) ∧ (zI (((a * (3 : Int)) + r) - (1 : Int)) ∧ (zI ((((a * (3 : Int)) + r) - (1 : Int)) * (26 : Int)) ∧ (zI (((((a * (3 : Int)) + r) - (1 : Int)) * (26 : Int)) + l) ∧ (σ = σ ∧ ((a * 3 + r - 1) * 26 + l) = (((((a * (3 : Int)) + r) - (1 : Int)) * (26 : Int)) + l)))))))
  refine ⟨by (exact ⟨by omega, by omega⟩), ?_⟩
  refine ⟨by (exact ⟨by omega, by omega⟩), ?_⟩
  refine ⟨by (exact ⟨by omega, by omega⟩), ?_⟩
  refine ⟨by (exact ⟨by omega, by omega⟩), ?_⟩
  refine ⟨by (exact ⟨by omega, by omega⟩), ?_⟩
  exact ⟨rfl, rfl⟩
set_option maxRecDepth 100000 in
set_option maxHeartbeats 4000000 in
theorem am_X1_cost {σ : zS} {a : Int} {r : Int} {l : Int} (h : 0 ≤ a ∧ a < 14 ∧ 1 ≤ r ∧ r ≤ 3 ∧ 0 ≤ l ∧ l < 26) : zAM 13 [.inr (.inr (5, 0)), .inl a, .inl r, .inl l] σ (fun (v : Int) (u : zS) => σ = u ∧ (σ 29 ((a * 3 + r - 1) * 26 + l)) = v) := by
  refine zam (by decide) (Nat.le_of_ble_eq_true rfl) ?_
  refine zwalk zmk_13 [] 2 ?_
  show (∃ Rc : Int → zS → Prop, zAM 12 [.inl a, .inl r, .inl l] σ Rc ∧ ∀ (v1 : Int) (u1 : zS), zI v1 → Rc v1 u1 → ((0 ≤ v1 ∧ v1 < (1092 : Int)) ∧ (σ = u1 ∧ (σ 29 ((a * 3 + r - 1) * 26 + l)) = (u1 29 v1))))
  refine ⟨_, am_X1_place (by omega), ?_⟩
  intro v1 u1 hv1
  rintro ⟨rfl, rfl⟩
  obtain ⟨hv1a, hv1b⟩ := hv1
  refine ⟨by (first | omega | exact ⟨by omega, by omega⟩ | exact ⟨by omega, by omega, by omega⟩ | exact ⟨by omega, by omega, by omega, by omega, by omega⟩), ?_⟩
  exact ⟨rfl, rfl⟩
set_option maxRecDepth 100000 in
set_option maxHeartbeats 4000000 in
theorem am_X8_pairSlot {σ : zS} {a : Int} {b : Int} (h : 0 ≤ a ∧ a < 26 ∧ 0 ≤ b ∧ b < 26) : zAM 85 [.inl a, .inl b] σ (fun (v : Int) (u : zS) => σ = u ∧ (a * 26 + b) = v) := by
  refine zam (by decide) (Nat.le_of_ble_eq_true rfl) ?_
  refine zwalk zmk_85 [] 2 ?_
  show (zI (a * (26 : Int)) ∧ (zI ((a * (26 : Int)) + b) ∧ (σ = σ ∧ (a * 26 + b) = ((a * (26 : Int)) + b))))
  refine ⟨by (exact ⟨by omega, by omega⟩), ?_⟩
  refine ⟨by (exact ⟨by omega, by omega⟩), ?_⟩
  exact ⟨rfl, rfl⟩
set_option maxRecDepth 100000 in
set_option maxHeartbeats 4000000 in
theorem am_X0_pairCost {σ : zS} {a : Int} {b : Int} (h : 0 ≤ a ∧ a < 26 ∧ 0 ≤ b ∧ b < 26) (hc : 0 ≤ σ 22 (a * 26 + b) ∧ σ 22 (a * 26 + b) ≤ 999) : zAM 5 [.inr (.inr (3, 0)), .inl a, .inl b] σ (fun (v : Int) (u : zS) => σ = u ∧ 6 / (σ 22 (a * 26 + b) + 1) = v) := by
  refine zam (by decide) (Nat.le_of_ble_eq_true rfl) ?_
  refine zwalk zmk_5 [] 2 ?_
  show (∃ Rc : Int → zS → Prop, zAM 85 [.inl a, .inl b] σ Rc ∧ ∀ (v1 : Int) (u1 : zS), zI v1 → Rc v1 u1 → ((0 ≤ v1 ∧ v1 < (1188 : Int)) ∧ (zI ((u1 22 v1) + (1 : Int)) ∧ ((0 ≤ (6 : Int) ∧ 0 < ((u1 22 v1) + (1 : Int))) ∧ (σ = u1 ∧ 6 / (σ 22 (a * 26 + b) + 1) = ((6 : Int) / ((u1 22 v1) + (1 : Int))))))))
  refine ⟨_, am_X8_pairSlot (by omega), ?_⟩
  intro v1 u1 hv1
  rintro ⟨rfl, rfl⟩
  obtain ⟨hv1a, hv1b⟩ := hv1
  refine ⟨by (first | omega | exact ⟨by omega, by omega⟩ | exact ⟨by omega, by omega, by omega⟩ | exact ⟨by omega, by omega, by omega, by omega, by omega⟩), ?_⟩
  refine ⟨by (exact ⟨by omega, by omega⟩), ?_⟩
  refine ⟨by (first | omega | exact ⟨by omega, by omega⟩ | exact ⟨by omega, by omega, by omega⟩ | exact ⟨by omega, by omega, by omega, by omega, by omega⟩), ?_⟩
  exact ⟨rfl, rfl⟩
set_option maxRecDepth 100000 in
set_option maxHeartbeats 4000000 in
theorem am_X8_rowCodeWith {σ : zS} {c : Int} {s : Int} (h : 0 ≤ c ∧ c ≤ 3000 ∧ 0 ≤ s ∧ s < 12) : zAM 84 [.inl c, .inl s] σ (fun (v : Int) (u : zS) => σ = u ∧ (c * 13 + s + 1) = v) := by
  refine zam (by decide) (Nat.le_of_ble_eq_true rfl) ?_
  refine zwalk zmk_84 [] 2 ?_
  show (zI (c * (13 : Int)) ∧ (zI ((c * (13 : Int)) + s) ∧ (zI (((c * (13 : Int)) + s) + (1 : Int)) ∧ (σ = σ ∧ (c * 13 + s + 1) = (((c * (13 : Int)) + s) + (1 : Int))))))
  refine ⟨by (exact ⟨by omega, by omega⟩), ?_⟩
  refine ⟨by (exact ⟨by omega, by omega⟩), ?_⟩
  refine ⟨by (exact ⟨by omega, by omega⟩), ?_⟩
  exact ⟨rfl, rfl⟩
def zrc (n a b c : Int) : Int := if n = 1 then a + 1 else if n = 2 then (a + 1) * 13 + b + 1 else ((a + 1) * 13 + b + 1) * 13 + c + 1
set_option maxRecDepth 100000 in
set_option maxHeartbeats 4000000 in
theorem am_X8_rowCode {σ : zS} {n : Int} {a : Int} {b : Int} {c : Int} (h : 1 ≤ n ∧ n ≤ 3 ∧ 0 ≤ a ∧ a < 12 ∧ (n < 2 ∨ 0 ≤ b ∧ b < 12) ∧ (n < 3 ∨ 0 ≤ c ∧ c < 12)) : zAM 83 [.inl n, .inl a, .inl b, .inl c] σ (fun (v : Int) (u : zS) => σ = u ∧ zrc n a b c = v) := by
  refine zam (by decide) (Nat.le_of_ble_eq_true rfl) ?_
  refine zwalk zmk_83 [] 4 ?_
  show (∃ Rc : Int → zS → Prop, zAM 84 [.inl (0 : Int), .inl a] σ Rc ∧ ∀ (v1 : Int) (u1 : zS), zI v1 → Rc v1 u1 → ((n ≤ (1 : Int) → ((n ≤ (2 : Int) → (σ = u1 ∧ zrc n a b c = v1)) ∧ ((2 : Int) < n → (∃ Rc : Int → zS → Prop, zAM 84 [.inl v1, .inl c] u1 Rc ∧ ∀ (v2 : Int) (u2 : zS), zI v2 → Rc v2 u2 → (σ = u2 ∧ zrc n a b c = v2))))) ∧ ((1 : Int) < n → (∃ Rc : Int → zS → Prop, zAM 84 [.inl v1, .inl b] u1 Rc ∧ ∀ (v3 : Int) (u3 : zS), zI v3 → Rc v3 u3 → ((n ≤ (2 : Int) → (σ = u3 ∧ zrc n a b c = v3)) ∧ ((2 : Int) < n → (∃ Rc : Int → zS → Prop, zAM 84 [.inl v3, .inl c] u3 Rc ∧ ∀ (v4 : Int) (u4 : zS), zI v4 → Rc v4 u4 → (σ = u4 ∧ zrc n a b c = v4))))))))
  refine ⟨_, am_X8_rowCodeWith (by omega), ?_⟩
  intro v1 u1 hv1
  rintro ⟨rfl, rfl⟩
  obtain ⟨hv1a, hv1b⟩ := hv1
  refine ⟨?_, ?_⟩
  · intro h1
    refine ⟨?_, ?_⟩
    · intro h2
      exact ⟨rfl, by unfold zrc; repeat' split <;> omega⟩
    · intro h3
      refine ⟨_, am_X8_rowCodeWith (by omega), ?_⟩
      intro v2 u2 hv2
      rintro ⟨rfl, rfl⟩
      obtain ⟨hv2a, hv2b⟩ := hv2
      exact ⟨rfl, by unfold zrc; repeat' split <;> omega⟩
  · intro h4
    refine ⟨_, am_X8_rowCodeWith (by omega), ?_⟩
    intro v3 u3 hv3
    rintro ⟨rfl, rfl⟩
    obtain ⟨hv3a, hv3b⟩ := hv3
    refine ⟨?_, ?_⟩
    · intro h5
      exact ⟨rfl, by unfold zrc; repeat' split <;> omega⟩
    · intro h6
      refine ⟨_, am_X8_rowCodeWith (by omega), ?_⟩
      intro v4 u4 hv4
      rintro ⟨rfl, rfl⟩
      obtain ⟨hv4a, hv4b⟩ := hv4
      exact ⟨rfl, by unfold zrc; repeat' split <;> omega⟩
set_option maxRecDepth 100000 in
set_option maxHeartbeats 4000000 in
theorem am_X4_heap {σ : zS} {a : Int} {b : Int} {c : Int} (h : 0 ≤ a ∧ a ≤ 1000 ∧ 0 ≤ b ∧ b ≤ 3 ∧ 0 ≤ c ∧ c ≤ 26) : zAM 27 [.inl a, .inl b, .inl c] σ (fun (v : Int) (u : zS) => σ = u ∧ ((a % 4 * 3 + b) * 26 + c) = v) := by
  refine zam (by decide) (Nat.le_of_ble_eq_true rfl) ?_
  refine zwalk zmk_27 [] 2 ?_
  show ((0 ≤ a ∧ 0 < (4 : Int)) ∧ (zI ((a % (4 : Int)) * (3 : Int)) ∧ (zI (((a % (4 : Int)) * (3 : Int)) + b) ∧ (zI ((((a % (4 : Int)) * (3 : Int)) + b) * (26 : Int)) ∧ (zI (((((a % (4 : Int)) * (3 : Int)) + b) * (26 : Int)) + c) ∧ (σ = σ ∧ ((a % 4 * 3 + b) * 26 + c) = (((((a % (4 : Int)) * (3 : Int)) + b) * (26 : Int)) + c)))))))
  refine ⟨by (first | omega | exact ⟨by omega, by omega⟩ | exact ⟨by omega, by omega, by omega⟩ | exact ⟨by omega, by omega, by omega, by omega, by omega⟩), ?_⟩
  refine ⟨by (exact ⟨by omega, by omega⟩), ?_⟩
  refine ⟨by (exact ⟨by omega, by omega⟩), ?_⟩
  refine ⟨by (exact ⟨by omega, by omega⟩), ?_⟩
  refine ⟨by (exact ⟨by omega, by omega⟩), ?_⟩
  exact ⟨rfl, rfl⟩
set_option maxRecDepth 100000 in
set_option maxHeartbeats 4000000 in
theorem am_X4_dearest {σ : zS} {k : Int} (h : 0 ≤ k ∧ k < 313) : zAM 30 [.inr (.inr (6, 0)), .inl k] σ (fun (v : Int) (u : zS) => σ = u ∧ (if σ 30 k < 5 then 1000000 else σ 31 (k * 5 + 4)) = v) := by
  refine zam (by decide) (Nat.le_of_ble_eq_true rfl) ?_
  refine zwalk zmk_30 [] 3 ?_
  show ((0 ≤ k ∧ k < (313 : Int)) ∧ (((5 : Int) ≤ (σ 30 k) → (zI (k * (5 : Int)) ∧ (zI ((k * (5 : Int)) + (5 : Int)) ∧ (zI (((k * (5 : Int)) + (5 : Int)) - (1 : Int)) ∧ ((0 ≤ (((k * (5 : Int)) + (5 : Int)) - (1 : Int)) ∧ (((k * (5 : Int)) + (5 : Int)) - (1 : Int)) < (1565 : Int)) ∧ (σ = σ ∧ (if σ 30 k < 5 then 1000000 else σ 31 (k * 5 + 4)) = (σ 31 (((k * (5 : Int)) + (5 : Int)) - (1 : Int))))))))) ∧ ((σ 30 k) < (5 : Int) → (σ = σ ∧ (if σ 30 k < 5 then 1000000 else σ 31 (k * 5 + 4)) = (1000000 : Int)))))
  refine ⟨by (first | omega | exact ⟨by omega, by omega⟩ | exact ⟨by omega, by omega, by omega⟩ | exact ⟨by omega, by omega, by omega, by omega, by omega⟩), ?_⟩
  refine ⟨?_, ?_⟩
  · intro h1
    refine ⟨by (exact ⟨by omega, by omega⟩), ?_⟩
    refine ⟨by (exact ⟨by omega, by omega⟩), ?_⟩
    refine ⟨by (exact ⟨by omega, by omega⟩), ?_⟩
    refine ⟨by (first | omega | exact ⟨by omega, by omega⟩ | exact ⟨by omega, by omega, by omega⟩ | exact ⟨by omega, by omega, by omega, by omega, by omega⟩), ?_⟩
    rw [if_neg (by omega)]; exact ⟨rfl, by congr 1; omega⟩
  · intro h2
    exact ⟨rfl, if_pos (by omega)⟩
set_option maxRecDepth 100000 in
set_option maxHeartbeats 4000000 in
theorem am_X4_isAhead {σ : zS} {c : Int} {r : Int} {k : Int} (h : 0 ≤ k ∧ k < 1565) : zAM 34 [.inr (.inr (6, 0)), .inl c, .inr (.inl r), .inl k] σ (fun (v : Int) (u : zS) => σ = u ∧ (v = 1 ∧ (c < σ 31 k ∨ c = σ 31 k ∧ r < σ 32 k) ∨ v = 0 ∧ ¬ (c < σ 31 k ∨ c = σ 31 k ∧ r < σ 32 k))) := by
  refine zam (by decide) (Nat.le_of_ble_eq_true rfl) ?_
  refine zwalk zmk_34 [] 4 ?_
  show ((0 ≤ k ∧ k < (1565 : Int)) ∧ ((c < (σ 31 k) → (((1 : Int) = 0 ∨ (1 : Int) = 1) ∧ (σ = σ ∧ ((1 : Int) = 1 ∧ (c < σ 31 k ∨ c = σ 31 k ∧ r < σ 32 k) ∨ (1 : Int) = 0 ∧ ¬ (c < σ 31 k ∨ c = σ 31 k ∧ r < σ 32 k))))) ∧ ((σ 31 k) ≤ c → ((0 ≤ k ∧ k < (1565 : Int)) ∧ ((¬ c = (σ 31 k) → (((0 : Int) = 0 ∨ (0 : Int) = 1) ∧ (σ = σ ∧ ((0 : Int) = 1 ∧ (c < σ 31 k ∨ c = σ 31 k ∧ r < σ 32 k) ∨ (0 : Int) = 0 ∧ ¬ (c < σ 31 k ∨ c = σ 31 k ∧ r < σ 32 k))))) ∧ (c = (σ 31 k) → ((0 ≤ k ∧ k < (1565 : Int)) ∧ ((0 ≤ (zcmp r (σ 32 k)) → (((0 : Int) = 0 ∨ (0 : Int) = 1) ∧ (σ = σ ∧ ((0 : Int) = 1 ∧ (c < σ 31 k ∨ c = σ 31 k ∧ r < σ 32 k) ∨ (0 : Int) = 0 ∧ ¬ (c < σ 31 k ∨ c = σ 31 k ∧ r < σ 32 k))))) ∧ ((zcmp r (σ 32 k)) < 0 → (((1 : Int) = 0 ∨ (1 : Int) = 1) ∧ (σ = σ ∧ ((1 : Int) = 1 ∧ (c < σ 31 k ∨ c = σ 31 k ∧ r < σ 32 k) ∨ (1 : Int) = 0 ∧ ¬ (c < σ 31 k ∨ c = σ 31 k ∧ r < σ 32 k)))))))))))))
  refine ⟨by (first | omega | exact ⟨by omega, by omega⟩ | exact ⟨by omega, by omega, by omega⟩ | exact ⟨by omega, by omega, by omega, by omega, by omega⟩), ?_⟩
  refine ⟨?_, ?_⟩
  · intro h1
    refine ⟨by (omega), ?_⟩
    exact ⟨rfl, by omega⟩
  · intro h2
    refine ⟨by (first | omega | exact ⟨by omega, by omega⟩ | exact ⟨by omega, by omega, by omega⟩ | exact ⟨by omega, by omega, by omega, by omega, by omega⟩), ?_⟩
    refine ⟨?_, ?_⟩
    · intro h3
      refine ⟨by (omega), ?_⟩
      exact ⟨rfl, by omega⟩
    · intro h4
      refine ⟨by (first | omega | exact ⟨by omega, by omega⟩ | exact ⟨by omega, by omega, by omega⟩ | exact ⟨by omega, by omega, by omega, by omega, by omega⟩), ?_⟩
      refine ⟨?_, ?_⟩
      · intro h5
        simp only [zc_lt, zc_ge, zc_gt, zc_le, zc_eq] at h5
        refine ⟨by (omega), ?_⟩
        exact ⟨rfl, by omega⟩
      · intro h6
        simp only [zc_lt, zc_ge, zc_gt, zc_le, zc_eq] at h6
        refine ⟨by (omega), ?_⟩
        exact ⟨rfl, by omega⟩
set_option maxRecDepth 100000 in
set_option maxHeartbeats 4000000 in
theorem am_X4_told {σ : zS} : zAM 35 [.inr (.inr (6, 0))] σ (fun (v : Int) (u : zS) => σ = u ∧ (σ 30 312) = v) := by
  refine zam (by decide) (Nat.le_of_ble_eq_true rfl) ?_
  refine zwalk zmk_35 [] 2 ?_
  show ((0 ≤ (312 : Int) ∧ (312 : Int) < (313 : Int)) ∧ (σ = σ ∧ (σ 30 312) = (σ 30 (312 : Int))))
  refine ⟨by (first | omega | exact ⟨by omega, by omega⟩ | exact ⟨by omega, by omega, by omega⟩ | exact ⟨by omega, by omega, by omega, by omega, by omega⟩), ?_⟩
  exact ⟨rfl, rfl⟩
set_option maxRecDepth 100000 in
set_option maxHeartbeats 4000000 in
theorem am_X4_cost {σ : zS} {i : Int} (h : 0 ≤ i ∧ i < 5) : zAM 36 [.inr (.inr (6, 0)), .inl i] σ (fun (v : Int) (u : zS) => σ = u ∧ (σ 31 (1560 + i)) = v) := by
  refine zam (by decide) (Nat.le_of_ble_eq_true rfl) ?_
  refine zwalk zmk_36 [] 2 ?_
  show (zI ((1560 : Int) + i) ∧ ((0 ≤ ((1560 : Int) + i) ∧ ((1560 : Int) + i) < (1565 : Int)) ∧ (σ = σ ∧ (σ 31 (1560 + i)) = (σ 31 ((1560 : Int) + i)))))
  refine ⟨by (exact ⟨by omega, by omega⟩), ?_⟩
  refine ⟨by (first | omega | exact ⟨by omega, by omega⟩ | exact ⟨by omega, by omega, by omega⟩ | exact ⟨by omega, by omega, by omega, by omega, by omega⟩), ?_⟩
  exact ⟨rfl, rfl⟩
set_option maxRecDepth 100000 in
set_option maxHeartbeats 4000000 in
theorem am_X4_word {σ : zS} {i : Int} (h : 0 ≤ i ∧ i < 5) : zAM 37 [.inr (.inr (6, 0)), .inl i] σ (fun (v : Int) (u : zS) => σ = u ∧ (σ 32 (1560 + i)) = v) := by
  refine zam (by decide) (Nat.le_of_ble_eq_true rfl) ?_
  refine zwalk zmk_37 [] 2 ?_
  show (zI ((1560 : Int) + i) ∧ ((0 ≤ ((1560 : Int) + i) ∧ ((1560 : Int) + i) < (1565 : Int)) ∧ (σ = σ ∧ (σ 32 (1560 + i)) = (σ 32 ((1560 : Int) + i)))))
  refine ⟨by (exact ⟨by omega, by omega⟩), ?_⟩
  refine ⟨by (first | omega | exact ⟨by omega, by omega⟩ | exact ⟨by omega, by omega, by omega⟩ | exact ⟨by omega, by omega, by omega, by omega, by omega⟩), ?_⟩
  exact ⟨rfl, rfl⟩
set_option maxRecDepth 100000 in
set_option maxHeartbeats 4000000 in
theorem am_X7_clear {σ : zS} : zAM 48 [.inr (.inr (4, 0))] σ (fun (v : Int) (u : zS) => zup (zup σ 4 0 0) 4 1 0 = u ∧ σ 4 1 = v) := by
  refine zam (by decide) (Nat.le_of_ble_eq_true rfl) ?_
  refine zwalk zmk_48 [] 2 ?_
  show (zup (zup σ 4 0 0) 4 1 0 = (zup (zup σ 4 (0 : Int) (0 : Int)) 4 (1 : Int) (0 : Int)) ∧ σ 4 1 = (σ 4 (1 : Int)))
  exact ⟨rfl, rfl⟩
def zplace (σ : zS) (w : Int) (v : Int) : Prop := (0 ≤ v ∧ v < σ 4 3 ∧ σ 28 v = w ∧ ∀ j : Int, 0 ≤ j → j < v → ¬ σ 28 j = w) ∨ v = -1 ∧ ∀ j : Int, 0 ≤ j → j < σ 4 3 → ¬ σ 28 j = w
set_option maxRecDepth 100000 in
set_option maxHeartbeats 4000000 in
theorem lp_placeOf {w : Int} {σ : zS} (hf : 0 ≤ σ 4 3 ∧ σ 4 3 ≤ 30) : ∀ (n : Nat) (k : Int), σ 4 3 - k < (n : Int) → (0 ≤ k ∧ k ≤ σ 4 3) → (∀ j : Int, 0 ≤ j → j < k → ¬ σ 28 j = w) → zRuns 49 zX0 (fun (v : Int) (u : zS) => σ = u ∧ zplace σ w v) 2 [some (.inr (.inr (4, 0))), some (.inr (.inl w)), none, some (.inl k)] [] σ := by
  intro n
  induction n with
  | zero =>
    intro k hn h0 hk
    exfalso
    omega
  | succ n ih =>
    intro k hn h0 hk
    refine zwalk zmk_49 [(2, [true, true, false, true])] 3 ?_
    show (((σ 4 (3 : Int)) ≤ k → (σ = σ ∧ zplace σ w (-1 : Int))) ∧ (k < (σ 4 (3 : Int)) → ((0 ≤ k ∧ k < (30 : Int)) ∧ ((¬ (zcmp (σ 28 k) w) = 0 → (zI (k + (1 : Int)) ∧ zRuns 49 zX0 (fun (v : Int) (u : zS) => σ = u ∧ zplace σ w v) 2 [some (.inr (.inr (4, 0))), some (.inr (.inl w)), none, some (.inl (k + (1 : Int)))] [] σ)) ∧ ((zcmp (σ 28 k) w) = 0 → (σ = σ ∧ zplace σ w k))))))
    refine ⟨?_, ?_⟩
    · intro h1
      exact ⟨rfl, Or.inr ⟨rfl, fun j h7 h8 => hk j h7 (by omega)⟩⟩
    · intro h2
      refine ⟨by (first | omega | exact ⟨by omega, by omega⟩ | exact ⟨by omega, by omega, by omega⟩ | exact ⟨by omega, by omega, by omega, by omega, by omega⟩), ?_⟩
      refine ⟨?_, ?_⟩
      · intro h3
        simp only [zc_lt, zc_ge, zc_gt, zc_le, zc_eq] at h3
        refine ⟨by (exact ⟨by omega, by omega⟩), ?_⟩
        exact ih _ (by omega) (by omega) (fun j h7 h8 q => by
          by_cases e : j = k
          · rw [e] at q; contradiction
          · exact hk j h7 (by omega) q)
      · intro h4
        simp only [zc_lt, zc_ge, zc_gt, zc_le, zc_eq] at h4
        exact ⟨rfl, Or.inl ⟨by omega, by omega, by assumption, hk⟩⟩
set_option maxRecDepth 100000 in
set_option maxHeartbeats 4000000 in
theorem am_X7_placeOf {σ : zS} {w : Int} (hf : 0 ≤ σ 4 3 ∧ σ 4 3 ≤ 30) : zAM 49 [.inr (.inr (4, 0)), .inr (.inl w)] σ (fun (v : Int) (u : zS) => σ = u ∧ zplace σ w v) := by
  refine zam (by decide) (Nat.le_of_ble_eq_true rfl) ?_
  refine zwalk zmk_49 [(2, [true, true, false, true])] 2 ?_
  show zRuns 49 zX0 (fun (v : Int) (u : zS) => σ = u ∧ zplace σ w v) 2 [some (.inr (.inr (4, 0))), some (.inr (.inl w)), none, some (.inl (0 : Int))] [] σ
  exact lp_placeOf hf 31 0 (by omega) (by omega) (fun j _ _ => by omega)
set_option maxRecDepth 100000 in
set_option maxHeartbeats 4000000 in
theorem am_X8_begin {σ : zS} {b : Int} (h : 0 ≤ σ 0 10) : zAM 93 [.inr (.inr (0, 0)), .inl b] σ (fun (v : Int) (u : zS) => (if σ 0 10 < 16 then zup (zup σ 10 (σ 0 10) b) 0 10 (σ 0 10 + 1) else σ) = u) := by
  refine zam (by decide) (Nat.le_of_ble_eq_true rfl) ?_
  refine zwalk zmk_93 [] 3 ?_
  show (((16 : Int) ≤ (σ 0 (10 : Int)) → ((if σ 0 10 < 16 then zup (zup σ 10 (σ 0 10) b) 0 10 (σ 0 10 + 1) else σ) = σ)) ∧ ((σ 0 (10 : Int)) < (16 : Int) → ((0 ≤ (σ 0 (10 : Int)) ∧ (σ 0 (10 : Int)) < (16 : Int)) ∧ (zI ((σ 0 (10 : Int)) + (1 : Int)) ∧ ((if σ 0 10 < 16 then zup (zup σ 10 (σ 0 10) b) 0 10 (σ 0 10 + 1) else σ) = (zup (zup σ 10 (σ 0 (10 : Int)) b) 0 (10 : Int) ((σ 0 (10 : Int)) + (1 : Int))))))))
  refine ⟨?_, ?_⟩
  · intro h1
    exact if_neg (by omega)
  · intro h2
    refine ⟨by (first | omega | exact ⟨by omega, by omega⟩ | exact ⟨by omega, by omega, by omega⟩ | exact ⟨by omega, by omega, by omega, by omega, by omega⟩), ?_⟩
    refine ⟨by (exact ⟨by omega, by omega⟩), ?_⟩
    exact if_pos (by omega)
set_option maxRecDepth 100000 in
set_option maxHeartbeats 4000000 in
theorem am_X8_loose {σ : zS} : zAM 58 [.inr (.inr (0, 0))] σ (fun (v : Int) (u : zS) => σ = u ∧ (σ 2 11) = v) := by
  refine zam (by decide) (Nat.le_of_ble_eq_true rfl) ?_
  refine zwalk zmk_58 [] 2 ?_
  show (σ = σ ∧ (σ 2 11) = (σ 2 (11 : Int)))
  exact ⟨rfl, rfl⟩
set_option maxRecDepth 100000 in
set_option maxHeartbeats 4000000 in
theorem am_X8_status {σ : zS} : zAM 75 [.inr (.inr (0, 0))] σ (fun (v : Int) (u : zS) => σ = u ∧ (σ 0 11) = v) := by
  refine zam (by decide) (Nat.le_of_ble_eq_true rfl) ?_
  refine zwalk zmk_75 [] 2 ?_
  show (σ = σ ∧ (σ 0 11) = (σ 0 (11 : Int)))
  exact ⟨rfl, rfl⟩
set_option maxRecDepth 100000 in
set_option maxHeartbeats 4000000 in
theorem am_X8_wipe {σ : zS} : zAM 64 [.inr (.inr (0, 0))] σ (fun (v : Int) (u : zS) => zup (zup σ 4 0 0) 4 1 0 = u ∧ σ 4 1 = v) := by
  refine zam (by decide) (Nat.le_of_ble_eq_true rfl) ?_
  refine zwalk zmk_64 [] 2 ?_
  show (∃ Rc : Int → zS → Prop, zAM 48 [.inr (.inr (4, 0))] σ Rc ∧ ∀ (v1 : Int) (u1 : zS), zI v1 → Rc v1 u1 → (zup (zup σ 4 0 0) 4 1 0 = u1 ∧ σ 4 1 = v1))
  refine ⟨_, am_X7_clear, ?_⟩
  intro v1 u1 hv1
  rintro ⟨rfl, rfl⟩
  obtain ⟨hv1a, hv1b⟩ := hv1
  exact ⟨rfl, rfl⟩
set_option maxRecDepth 100000 in
set_option maxHeartbeats 4000000 in
theorem am_X8_trace {σ : zS} {i : Int} (h : σ 0 10 ≤ 16) : zAM 73 [.inr (.inr (0, 0)), .inl i] σ (fun (v : Int) (u : zS) => σ = u ∧ (if 0 ≤ i ∧ i < σ 0 10 then σ 10 i else -1000000) = v) := by
  refine zam (by decide) (Nat.le_of_ble_eq_true rfl) ?_
  refine zwalk zmk_73 [] 4 ?_
  show ((i < 0 → (σ = σ ∧ (if 0 ≤ i ∧ i < σ 0 10 then σ 10 i else -1000000) = (-1000000 : Int))) ∧ (0 ≤ i → ((i < (σ 0 (10 : Int)) → ((0 ≤ i ∧ i < (16 : Int)) ∧ (σ = σ ∧ (if 0 ≤ i ∧ i < σ 0 10 then σ 10 i else -1000000) = (σ 10 i)))) ∧ ((σ 0 (10 : Int)) ≤ i → (σ = σ ∧ (if 0 ≤ i ∧ i < σ 0 10 then σ 10 i else -1000000) = (-1000000 : Int))))))
  refine ⟨?_, ?_⟩
  · intro h1
    exact ⟨rfl, if_neg (by omega)⟩
  · intro h2
    refine ⟨?_, ?_⟩
    · intro h3
      refine ⟨by (first | omega | exact ⟨by omega, by omega⟩ | exact ⟨by omega, by omega, by omega⟩ | exact ⟨by omega, by omega, by omega, by omega, by omega⟩), ?_⟩
      exact ⟨rfl, if_pos (by omega)⟩
    · intro h4
      exact ⟨rfl, if_neg (by omega)⟩
end
section
set_option maxRecDepth 100000 in
set_option maxHeartbeats 4000000 in
theorem am_X9_finds {σ : zS} {f : Int} (hk : 0 ≤ f ∧ f ≤ 5) : zAM 104 [.inr (.inr (9, 0)), .inl f] σ (fun (v : Int) (u : zS) => zup σ 9 4 f = u ∧ -1000010 - f = v) := by
  refine zam (by decide) (Nat.le_of_ble_eq_true rfl) ?_
  refine zwalk zmk_104 [] 2 ?_
  show (zI ((-1000010 : Int) - f) ∧ (zup σ 9 4 f = (zup σ 9 (4 : Int) f) ∧ -1000010 - f = ((-1000010 : Int) - f)))
  refine ⟨by (exact ⟨by omega, by omega⟩), ?_⟩
  exact ⟨rfl, rfl⟩
set_option maxRecDepth 100000 in
set_option maxHeartbeats 4000000 in
theorem am_X9_well {σ : zS} {x : Int} : zAM 105 [.inr (.inr (9, 0)), .inl x] σ (fun (v : Int) (u : zS) => zup σ 9 4 0 = u ∧ x = v) := by
  refine zam (by decide) (Nat.le_of_ble_eq_true rfl) ?_
  refine zwalk zmk_105 [] 2 ?_
  show (zup σ 9 4 0 = (zup σ 9 (4 : Int) (0 : Int)) ∧ x = x)
  exact ⟨rfl, rfl⟩
set_option maxRecDepth 100000 in
set_option maxHeartbeats 4000000 in
theorem am_X9_isSheet {σ : zS} {k : Int} : zAM 106 [.inl k] σ (fun (v : Int) (u : zS) => σ = u ∧ (v = 1 ∧ (0 ≤ k ∧ k < 8) ∨ v = 0 ∧ ¬ (0 ≤ k ∧ k < 8))) := by
  refine zam (by decide) (Nat.le_of_ble_eq_true rfl) ?_
  refine zwalk zmk_106 [] 2 ?_
  show (∃ Rc : Int → zS → Prop, zAM 103 [.inr (.inl k), .inr (.inl (0 : Int)), .inr (.inl (7 : Int))] σ Rc ∧ ∀ (v1 : Int) (u1 : zS), zI v1 → Rc v1 u1 → ((v1 = 0 ∨ v1 = 1) ∧ (σ = u1 ∧ (v1 = 1 ∧ (0 ≤ k ∧ k < 8) ∨ v1 = 0 ∧ ¬ (0 ≤ k ∧ k < 8)))))
  refine ⟨_, am_X9_in, ?_⟩
  intro v1 u1 hv1
  rintro ⟨rfl, (⟨rfl, cv1⟩ | ⟨rfl, cv1⟩)⟩
  · refine ⟨by (omega), ?_⟩
    exact ⟨rfl, by omega⟩
  · refine ⟨by (omega), ?_⟩
    exact ⟨rfl, by omega⟩
set_option maxRecDepth 100000 in
set_option maxHeartbeats 4000000 in
theorem am_X9_isInk {σ : zS} {k : Int} (hi : 0 ≤ σ 9 13 ∧ σ 9 13 ≤ 40) : zAM 116 [.inr (.inr (9, 0)), .inl k] σ (fun (v : Int) (u : zS) => σ = u ∧ (v = 1 ∧ (0 ≤ k ∧ k < σ 9 13) ∨ v = 0 ∧ ¬ (0 ≤ k ∧ k < σ 9 13))) := by
  refine zam (by decide) (Nat.le_of_ble_eq_true rfl) ?_
  refine zwalk zmk_116 [] 2 ?_
  show (zI ((σ 9 (13 : Int)) - (1 : Int)) ∧ (∃ Rc : Int → zS → Prop, zAM 103 [.inr (.inl k), .inr (.inl (0 : Int)), .inr (.inl ((σ 9 (13 : Int)) - (1 : Int)))] σ Rc ∧ ∀ (v1 : Int) (u1 : zS), zI v1 → Rc v1 u1 → ((v1 = 0 ∨ v1 = 1) ∧ (σ = u1 ∧ (v1 = 1 ∧ (0 ≤ k ∧ k < σ 9 13) ∨ v1 = 0 ∧ ¬ (0 ≤ k ∧ k < σ 9 13))))))
  refine ⟨by (exact ⟨by omega, by omega⟩), ?_⟩
  refine ⟨_, am_X9_in, ?_⟩
  intro v1 u1 hv1
  rintro ⟨rfl, (⟨rfl, cv1⟩ | ⟨rfl, cv1⟩)⟩
  · refine ⟨by (omega), ?_⟩
    exact ⟨rfl, by omega⟩
  · refine ⟨by (omega), ?_⟩
    exact ⟨rfl, by omega⟩
set_option maxRecDepth 100000 in
set_option maxHeartbeats 4000000 in
theorem am_X9_many {σ : zS} {i : Int} (hi : 0 ≤ i ∧ i < 40) (hb : 0 ≤ σ 45 i ∧ σ 45 i ≤ 40) (hc : 0 ≤ σ 45 (i + 1) ∧ σ 45 (i + 1) ≤ 40) : zAM 117 [.inr (.inr (9, 0)), .inl i] σ (fun (v : Int) (u : zS) => σ = u ∧ (σ 45 (i + 1) - σ 45 i) = v) := by
  refine zam (by decide) (Nat.le_of_ble_eq_true rfl) ?_
  refine zwalk zmk_117 [] 2 ?_
  show (zI (i + (1 : Int)) ∧ ((0 ≤ (i + (1 : Int)) ∧ (i + (1 : Int)) < (41 : Int)) ∧ ((0 ≤ i ∧ i < (41 : Int)) ∧ (zI ((σ 45 (i + (1 : Int))) - (σ 45 i)) ∧ (σ = σ ∧ (σ 45 (i + 1) - σ 45 i) = ((σ 45 (i + (1 : Int))) - (σ 45 i)))))))
  refine ⟨by (exact ⟨by omega, by omega⟩), ?_⟩
  refine ⟨by (first | omega | exact ⟨by omega, by omega⟩ | exact ⟨by omega, by omega, by omega⟩ | exact ⟨by omega, by omega, by omega, by omega, by omega⟩), ?_⟩
  refine ⟨by (first | omega | exact ⟨by omega, by omega⟩ | exact ⟨by omega, by omega, by omega⟩ | exact ⟨by omega, by omega, by omega, by omega, by omega⟩), ?_⟩
  refine ⟨by (exact ⟨by omega, by omega⟩), ?_⟩
  exact ⟨rfl, rfl⟩
set_option maxRecDepth 100000 in
set_option maxHeartbeats 4000000 in
theorem am_X9_isLetter {σ : zS} {k : Int} : zAM 121 [.inl k] σ (fun (v : Int) (u : zS) => σ = u ∧ (v = 1 ∧ (0 ≤ k ∧ k < 26) ∨ v = 0 ∧ ¬ (0 ≤ k ∧ k < 26))) := by
  refine zam (by decide) (Nat.le_of_ble_eq_true rfl) ?_
  refine zwalk zmk_121 [] 2 ?_
  show (∃ Rc : Int → zS → Prop, zAM 103 [.inr (.inl k), .inr (.inl (0 : Int)), .inr (.inl (25 : Int))] σ Rc ∧ ∀ (v1 : Int) (u1 : zS), zI v1 → Rc v1 u1 → ((v1 = 0 ∨ v1 = 1) ∧ (σ = u1 ∧ (v1 = 1 ∧ (0 ≤ k ∧ k < 26) ∨ v1 = 0 ∧ ¬ (0 ≤ k ∧ k < 26)))))
  refine ⟨_, am_X9_in, ?_⟩
  intro v1 u1 hv1
  rintro ⟨rfl, (⟨rfl, cv1⟩ | ⟨rfl, cv1⟩)⟩
  · refine ⟨by (omega), ?_⟩
    exact ⟨rfl, by omega⟩
  · refine ⟨by (omega), ?_⟩
    exact ⟨rfl, by omega⟩
def zsh (n a b c : Int) : Int := if n = 1 then a else if n = 2 then 12 + 12 * a + b else 156 + 144 * a + 12 * b + c
set_option maxRecDepth 100000 in
set_option maxHeartbeats 4000000 in
theorem am_X9_shapes {σ : zS} {n : Int} {a : Int} {b : Int} {c : Int} (h : 1 ≤ n ∧ n ≤ 3 ∧ 0 ≤ a ∧ a < 12 ∧ (n < 2 ∨ 0 ≤ b ∧ b < 12) ∧ (n < 3 ∨ 0 ≤ c ∧ c < 12)) : zAM 122 [.inl n, .inl a, .inl b, .inl c] σ (fun (v : Int) (u : zS) => σ = u ∧ zsh n a b c = v) := by
  refine zam (by decide) (Nat.le_of_ble_eq_true rfl) ?_
  refine zwalk zmk_122 [] 4 ?_
  show ((¬ n = (1 : Int) → ((¬ n = (2 : Int) → (zI ((144 : Int) * a) ∧ (zI ((156 : Int) + ((144 : Int) * a)) ∧ (zI ((12 : Int) * b) ∧ (zI (((156 : Int) + ((144 : Int) * a)) + ((12 : Int) * b)) ∧ (zI ((((156 : Int) + ((144 : Int) * a)) + ((12 : Int) * b)) + c) ∧ (σ = σ ∧ zsh n a b c = ((((156 : Int) + ((144 : Int) * a)) + ((12 : Int) * b)) + c)))))))) ∧ (n = (2 : Int) → (zI ((12 : Int) * a) ∧ (zI ((12 : Int) + ((12 : Int) * a)) ∧ (zI (((12 : Int) + ((12 : Int) * a)) + b) ∧ (σ = σ ∧ zsh n a b c = (((12 : Int) + ((12 : Int) * a)) + b)))))))) ∧ (n = (1 : Int) → (σ = σ ∧ zsh n a b c = a)))
  refine ⟨?_, ?_⟩
  · intro h1
    refine ⟨?_, ?_⟩
    · intro h2
      refine ⟨by (exact ⟨by omega, by omega⟩), ?_⟩
      refine ⟨by (exact ⟨by omega, by omega⟩), ?_⟩
      refine ⟨by (exact ⟨by omega, by omega⟩), ?_⟩
      refine ⟨by (exact ⟨by omega, by omega⟩), ?_⟩
      refine ⟨by (exact ⟨by omega, by omega⟩), ?_⟩
      exact ⟨rfl, by unfold zsh; repeat' split <;> omega⟩
    · intro h3
      refine ⟨by (exact ⟨by omega, by omega⟩), ?_⟩
      refine ⟨by (exact ⟨by omega, by omega⟩), ?_⟩
      refine ⟨by (exact ⟨by omega, by omega⟩), ?_⟩
      exact ⟨rfl, by unfold zsh; repeat' split <;> omega⟩
  · intro h4
    exact ⟨rfl, by unfold zsh; repeat' split <;> omega⟩
set_option maxRecDepth 100000 in
set_option maxHeartbeats 4000000 in
theorem am_X9_isForm {σ : zS} {l : Int} {n : Int} {a : Int} {b : Int} {c : Int} : zAM 123 [.inl l, .inl n, .inl a, .inl b, .inl c] σ (fun (v : Int) (u : zS) => σ = u ∧ (v = 1 ∧ ((0 ≤ l ∧ l < 26) ∧ 1 ≤ n ∧ n ≤ 3 ∧ 0 ≤ a ∧ a < 12 ∧ (n < 2 ∨ 0 ≤ b ∧ b < 12) ∧ (n < 3 ∨ 0 ≤ c ∧ c < 12)) ∨ v = 0 ∧ ¬ ((0 ≤ l ∧ l < 26) ∧ 1 ≤ n ∧ n ≤ 3 ∧ 0 ≤ a ∧ a < 12 ∧ (n < 2 ∨ 0 ≤ b ∧ b < 12) ∧ (n < 3 ∨ 0 ≤ c ∧ c < 12)))) := by
  refine zam (by decide) (Nat.le_of_ble_eq_true rfl) ?_
  refine zwalk zmk_123 [] 5 ?_
  show (∃ Rc : Int → zS → Prop, zAM 121 [.inl l] σ Rc ∧ ∀ (v1 : Int) (u1 : zS), zI v1 → Rc v1 u1 → ((v1 = 0 → (((0 : Int) = 0 ∨ (0 : Int) = 1) ∧ (σ = u1 ∧ ((0 : Int) = 1 ∧ ((0 ≤ l ∧ l < 26) ∧ 1 ≤ n ∧ n ≤ 3 ∧ 0 ≤ a ∧ a < 12 ∧ (n < 2 ∨ 0 ≤ b ∧ b < 12) ∧ (n < 3 ∨ 0 ≤ c ∧ c < 12)) ∨ (0 : Int) = 0 ∧ ¬ ((0 ≤ l ∧ l < 26) ∧ 1 ≤ n ∧ n ≤ 3 ∧ 0 ≤ a ∧ a < 12 ∧ (n < 2 ∨ 0 ≤ b ∧ b < 12) ∧ (n < 3 ∨ 0 ≤ c ∧ c < 12)))))) ∧ (¬ v1 = 0 → (∃ Rc : Int → zS → Prop, zAM 103 [.inr (.inl n), .inr (.inl (1 : Int)), .inr (.inl (3 : Int))] u1 Rc ∧ ∀ (v2 : Int) (u2 : zS), zI v2 → Rc v2 u2 → ((v2 = 0 → (((0 : Int) = 0 ∨ (0 : Int) = 1) ∧ (σ = u2 ∧ ((0 : Int) = 1 ∧ ((0 ≤ l ∧ l < 26) ∧ 1 ≤ n ∧ n ≤ 3 ∧ 0 ≤ a ∧ a < 12 ∧ (n < 2 ∨ 0 ≤ b ∧ b < 12) ∧ (n < 3 ∨ 0 ≤ c ∧ c < 12)) ∨ (0 : Int) = 0 ∧ ¬ ((0 ≤ l ∧ l < 26) ∧ 1 ≤ n ∧ n ≤ 3 ∧ 0 ≤ a ∧ a < 12 ∧ (n < 2 ∨ 0 ≤ b ∧ b < 12) ∧ (n < 3 ∨ 0 ≤ c ∧ c < 12)))))) ∧ (¬ v2 = 0 → (∃ Rc : Int → zS → Prop, zAM 103 [.inr (.inl a), .inr (.inl (0 : Int)), .inr (.inl (11 : Int))] u2 Rc ∧ ∀ (v3 : Int) (u3 : zS), zI v3 → Rc v3 u3 → ((v3 = 0 → (((0 : Int) = 0 ∨ (0 : Int) = 1) ∧ (σ = u3 ∧ ((0 : Int) = 1 ∧ ((0 ≤ l ∧ l < 26) ∧ 1 ≤ n ∧ n ≤ 3 ∧ 0 ≤ a ∧ a < 12 ∧ (n < 2 ∨ 0 ≤ b ∧ b < 12) ∧ (n < 3 ∨ 0 ≤ c ∧ c < 12)) ∨ (0 : Int) = 0 ∧ ¬ ((0 ≤ l ∧ l < 26) ∧ 1 ≤ n ∧ n ≤ 3 ∧ 0 ≤ a ∧ a < 12 ∧ (n < 2 ∨ 0 ≤ b ∧ b < 12) ∧ (n < 3 ∨ 0 ≤ c ∧ c < 12)))))) ∧ (¬ v3 = 0 → ((n < (2 : Int) → ((n < (3 : Int) → (((1 : Int) = 0 ∨ (1 : Int) = 1) ∧ (σ = u3 ∧ ((1 : Int) = 1 ∧ ((0 ≤ l ∧ l < 26) ∧ 1 ≤ n ∧ n ≤ 3 ∧ 0 ≤ a ∧ a < 12 ∧ (n < 2 ∨ 0 ≤ b ∧ b < 12) ∧ (n < 3 ∨ 0 ≤ c ∧ c < 12)) ∨ (1 : Int) = 0 ∧ ¬ ((0 ≤ l ∧ l < 26) ∧ 1 ≤ n ∧ n ≤ 3 ∧ 0 ≤ a ∧ a < 12 ∧ (n < 2 ∨ 0 ≤ b ∧ b < 12) ∧ (n < 3 ∨ 0 ≤ c ∧ c < 12)))))) ∧ ((3 : Int) ≤ n → (∃ Rc : Int → zS → Prop, zAM 103 [.inr (.inl c), .inr (.inl (0 : Int)), .inr (.inl (11 : Int))] u3 Rc ∧ ∀ (v4 : Int) (u4 : zS), zI v4 → Rc v4 u4 → ((v4 = 0 → (((0 : Int) = 0 ∨ (0 : Int) = 1) ∧ (σ = u4 ∧ ((0 : Int) = 1 ∧ ((0 ≤ l ∧ l < 26) ∧ 1 ≤ n ∧ n ≤ 3 ∧ 0 ≤ a ∧ a < 12 ∧ (n < 2 ∨ 0 ≤ b ∧ b < 12) ∧ (n < 3 ∨ 0 ≤ c ∧ c < 12)) ∨ (0 : Int) = 0 ∧ ¬ ((0 ≤ l ∧ l < 26) ∧ 1 ≤ n ∧ n ≤ 3 ∧ 0 ≤ a ∧ a < 12 ∧ (n < 2 ∨ 0 ≤ b ∧ b < 12) ∧ (n < 3 ∨ 0 ≤ c ∧ c < 12)))))) ∧ (¬ v4 = 0 → (((1 : Int) = 0 ∨ (1 : Int) = 1) ∧ (σ = u4 ∧ ((1 : Int) = 1 ∧ ((0 ≤ l ∧ l < 26) ∧ 1 ≤ n ∧ n ≤ 3 ∧ 0 ≤ a ∧ a < 12 ∧ (n < 2 ∨ 0 ≤ b ∧ b < 12) ∧ (n < 3 ∨ 0 ≤ c ∧ c < 12)) ∨ (1 : Int) = 0 ∧ ¬ ((0 ≤ l ∧ l < 26) ∧ 1 ≤ n ∧ n ≤ 3 ∧ 0 ≤ a ∧ a < 12 ∧ (n < 2 ∨ 0 ≤ b ∧ b < 12) ∧ (n < 3 ∨ 0 ≤ c ∧ c < 12))))))))))) ∧ ((2 : Int) ≤ n → (∃ Rc : Int → zS → Prop, zAM 103 [.inr (.inl b), .inr (.inl (0 : Int)), .inr (.inl (11 : Int))] u3 Rc ∧ ∀ (v5 : Int) (u5 : zS), zI v5 → Rc v5 u5 → ((v5 = 0 → (((0 : Int) = 0 ∨ (0 : Int) = 1) ∧ (σ = u5 ∧ ((0 : Int) = 1 ∧ ((0 ≤ l ∧ l < 26) ∧ 1 ≤ n ∧ n ≤ 3 ∧ 0 ≤ a ∧ a < 12 ∧ (n < 2 ∨ 0 ≤ b ∧ b < 12) ∧ (n < 3 ∨ 0 ≤ c ∧ c < 12)) ∨ (0 : Int) = 0 ∧ ¬ ((0 ≤ l ∧ l < 26) ∧ 1 ≤ n ∧ n ≤ 3 ∧ 0 ≤ a ∧ a < 12 ∧ (n < 2 ∨ 0 ≤ b ∧ b < 12) ∧ (n < 3 ∨ 0 ≤ c ∧ c < 12)))))) ∧ (¬ v5 = 0 → ((n < (3 : Int) → (((1 : Int) = 0 ∨ (1 : Int) = 1) ∧ (σ = u5 ∧ ((1 : Int) = 1 ∧ ((0 ≤ l ∧ l < 26) ∧ 1 ≤ n ∧ n ≤ 3 ∧ 0 ≤ a ∧ a < 12 ∧ (n < 2 ∨ 0 ≤ b ∧ b < 12) ∧ (n < 3 ∨ 0 ≤ c ∧ c < 12)) ∨ (1 : Int) = 0 ∧ ¬ ((0 ≤ l ∧ l < 26) ∧ 1 ≤ n ∧ n ≤ 3 ∧ 0 ≤ a ∧ a < 12 ∧ (n < 2 ∨ 0 ≤ b ∧ b < 12) ∧ (n < 3 ∨ 0 ≤ c ∧ c < 12)))))) ∧ ((3 : Int) ≤ n → (∃ Rc : Int → zS → Prop, zAM 103 [.inr (.inl c), .inr (.inl (0 : Int)), .inr (.inl (11 : Int))] u5 Rc ∧ ∀ (v6 : Int) (u6 : zS), zI v6 → Rc v6 u6 → ((v6 = 0 → (((0 : Int) = 0 ∨ (0 : Int) = 1) ∧ (σ = u6 ∧ ((0 : Int) = 1 ∧ ((0 ≤ l ∧ l < 26) ∧ 1 ≤ n ∧ n ≤ 3 ∧ 0 ≤ a ∧ a < 12 ∧ (n < 2 ∨ 0 ≤ b ∧ b < 12) ∧ (n < 3 ∨ 0 ≤ c ∧ c < 12)) ∨ (0 : Int) = 0 ∧ ¬ ((0 ≤ l ∧ l < 26) ∧ 1 ≤ n ∧ n ≤ 3 ∧ 0 ≤ a ∧ a < 12 ∧ (n < 2 ∨ 0 ≤ b ∧ b < 12) ∧ (n < 3 ∨ 0 ≤ c ∧ c < 12)))))) ∧ (¬ v6 = 0 → (((1 : Int) = 0 ∨ (1 : Int) = 1) ∧ (σ = u6 ∧ ((1 : Int) = 1 ∧ ((0 ≤ l ∧ l < 26) ∧ 1 ≤ n ∧ n ≤ 3 ∧ 0 ≤ a ∧ a < 12 ∧ (n < 2 ∨ 0 ≤ b ∧ b < 12) ∧ (n < 3 ∨ 0 ≤ c ∧ c < 12)) ∨ (1 : Int) = 0 ∧ ¬ ((0 ≤ l ∧ l < 26) ∧ 1 ≤ n ∧ n ≤ 3 ∧ 0 ≤ a ∧ a < 12 ∧ (n < 2 ∨ 0 ≤ b ∧ b < 12) ∧ (n < 3 ∨ 0 ≤ c ∧ c < 12))))))))))))))))))))))))
  refine ⟨_, am_X9_isLetter, ?_⟩
  intro v1 u1 hv1
  rintro ⟨rfl, (⟨rfl, cv1⟩ | ⟨rfl, cv1⟩)⟩
  · refine ⟨?_, ?_⟩
    · exact fun h => absurd h (by decide)
    · intro _
      refine ⟨_, am_X9_in, ?_⟩
      intro v2 u2 hv2
      rintro ⟨rfl, (⟨rfl, cv2⟩ | ⟨rfl, cv2⟩)⟩
      · refine ⟨?_, ?_⟩
        · exact fun h => absurd h (by decide)
        · intro _
          refine ⟨_, am_X9_in, ?_⟩
          intro v3 u3 hv3
          rintro ⟨rfl, (⟨rfl, cv3⟩ | ⟨rfl, cv3⟩)⟩
          · refine ⟨?_, ?_⟩
            · exact fun h => absurd h (by decide)
            · intro _
              refine ⟨?_, ?_⟩
              · intro h4
                refine ⟨?_, ?_⟩
                · intro h5
                  refine ⟨by (omega), ?_⟩
                  exact ⟨rfl, by omega⟩
                · intro h6
                  refine ⟨_, am_X9_in, ?_⟩
                  intro v4 u4 hv4
                  rintro ⟨rfl, (⟨rfl, cv4⟩ | ⟨rfl, cv4⟩)⟩
                  · refine ⟨?_, ?_⟩
                    · exact fun h => absurd h (by decide)
                    · intro _
                      refine ⟨by (omega), ?_⟩
                      exact ⟨rfl, by omega⟩
                  · refine ⟨?_, ?_⟩
                    · intro _
                      refine ⟨by (omega), ?_⟩
                      exact ⟨rfl, by omega⟩
                    · exact fun h => absurd h (by decide)
              · intro h9
                refine ⟨_, am_X9_in, ?_⟩
                intro v5 u5 hv5
                rintro ⟨rfl, (⟨rfl, cv5⟩ | ⟨rfl, cv5⟩)⟩
                · refine ⟨?_, ?_⟩
                  · exact fun h => absurd h (by decide)
                  · intro _
                    refine ⟨?_, ?_⟩
                    · intro h11
                      refine ⟨by (omega), ?_⟩
                      exact ⟨rfl, by omega⟩
                    · intro h12
                      refine ⟨_, am_X9_in, ?_⟩
                      intro v6 u6 hv6
                      rintro ⟨rfl, (⟨rfl, cv6⟩ | ⟨rfl, cv6⟩)⟩
                      · refine ⟨?_, ?_⟩
                        · exact fun h => absurd h (by decide)
                        · intro _
                          refine ⟨by (omega), ?_⟩
                          exact ⟨rfl, by omega⟩
                      · refine ⟨?_, ?_⟩
                        · intro _
                          refine ⟨by (omega), ?_⟩
                          exact ⟨rfl, by omega⟩
                        · exact fun h => absurd h (by decide)
                · refine ⟨?_, ?_⟩
                  · intro _
                    refine ⟨by (omega), ?_⟩
                    exact ⟨rfl, by omega⟩
                  · exact fun h => absurd h (by decide)
          · refine ⟨?_, ?_⟩
            · intro _
              refine ⟨by (omega), ?_⟩
              exact ⟨rfl, by omega⟩
            · exact fun h => absurd h (by decide)
      · refine ⟨?_, ?_⟩
        · intro _
          refine ⟨by (omega), ?_⟩
          exact ⟨rfl, by omega⟩
        · exact fun h => absurd h (by decide)
  · refine ⟨?_, ?_⟩
    · intro _
      refine ⟨by (omega), ?_⟩
      exact ⟨rfl, by omega⟩
    · exact fun h => absurd h (by decide)
set_option maxRecDepth 100000 in
set_option maxHeartbeats 4000000 in
theorem am_X9_raise {σ : zS} {s : Int} {n : Int} (hs : 0 ≤ s ∧ s < 49660) (hn : 0 ≤ n ∧ n ≤ 99) (hc : 0 ≤ σ 47 s ∧ σ 47 s ≤ 999) (hu : 0 ≤ σ 9 17 ∧ σ 9 17 < 12000) : zAM 124 [.inr (.inr (9, 0)), .inl s, .inl n] σ (fun (v : Int) (u : zS) => zup (if 0 < σ 9 20 then zup (zup (zup σ 48 (σ 9 17) s) 49 (σ 9 17) (σ 47 s)) 9 17 (σ 9 17 + 1) else σ) 47 s (min 999 (σ 47 s + n)) = u ∧ min 999 (σ 47 s + n) = v) := by
  refine zam (by decide) (Nat.le_of_ble_eq_true rfl) ?_
  refine zwalk zmk_124 [] 4 ?_
  show (((σ 9 (20 : Int)) ≤ 0 → ((0 ≤ s ∧ s < (49660 : Int)) ∧ (zI ((σ 47 s) + n) ∧ ((((σ 47 s) + n) ≤ (999 : Int) → ((0 ≤ s ∧ s < (49660 : Int)) ∧ (zI ((σ 47 s) + n) ∧ ((0 ≤ s ∧ s < (49660 : Int)) ∧ ((0 ≤ s ∧ s < (49660 : Int)) ∧ (zup (if 0 < σ 9 20 then zup (zup (zup σ 48 (σ 9 17) s) 49 (σ 9 17) (σ 47 s)) 9 17 (σ 9 17 + 1) else σ) 47 s (min 999 (σ 47 s + n)) = (zup σ 47 s ((σ 47 s) + n)) ∧ min 999 (σ 47 s + n) = (if s = s then ((σ 47 s) + n) else (σ 47 s)))))))) ∧ ((999 : Int) < ((σ 47 s) + n) → ((0 ≤ s ∧ s < (49660 : Int)) ∧ ((0 ≤ s ∧ s < (49660 : Int)) ∧ (zup (if 0 < σ 9 20 then zup (zup (zup σ 48 (σ 9 17) s) 49 (σ 9 17) (σ 47 s)) 9 17 (σ 9 17 + 1) else σ) 47 s (min 999 (σ 47 s + n)) = (zup σ 47 s (999 : Int)) ∧ min 999 (σ 47 s + n) = (if s = s then (999 : Int) else (σ 47 s)))))))))) ∧ (0 < (σ 9 (20 : Int)) → ((0 ≤ (σ 9 (17 : Int)) ∧ (σ 9 (17 : Int)) < (12000 : Int)) ∧ ((0 ≤ s ∧ s < (49660 : Int)) ∧ ((0 ≤ (σ 9 (17 : Int)) ∧ (σ 9 (17 : Int)) < (12000 : Int)) ∧ (zI ((σ 9 (17 : Int)) + (1 : Int)) ∧ ((0 ≤ s ∧ s < (49660 : Int)) ∧ (zI ((σ 47 s) + n) ∧ ((((σ 47 s) + n) ≤ (999 : Int) → ((0 ≤ s ∧ s < (49660 : Int)) ∧ (zI ((σ 47 s) + n) ∧ ((0 ≤ s ∧ s < (49660 : Int)) ∧ ((0 ≤ s ∧ s < (49660 : Int)) ∧ (zup (if 0 < σ 9 20 then zup (zup (zup σ 48 (σ 9 17) s) 49 (σ 9 17) (σ 47 s)) 9 17 (σ 9 17 + 1) else σ) 47 s (min 999 (σ 47 s + n)) = (zup (zup (zup (zup σ 48 (σ 9 (17 : Int)) s) 49 (σ 9 (17 : Int)) (σ 47 s)) 9 (17 : Int) ((σ 9 (17 : Int)) + (1 : Int))) 47 s ((σ 47 s) + n)) ∧ min 999 (σ 47 s + n) = (if s = s then ((σ 47 s) + n) else (σ 47 s)))))))) ∧ ((999 : Int) < ((σ 47 s) + n) → ((0 ≤ s ∧ s < (49660 : Int)) ∧ ((0 ≤ s ∧ s < (49660 : Int)) ∧ (zup (if 0 < σ 9 20 then zup (zup (zup σ 48 (σ 9 17) s) 49 (σ 9 17) (σ 47 s)) 9 17 (σ 9 17 + 1) else σ) 47 s (min 999 (σ 47 s + n)) = (zup (zup (zup (zup σ 48 (σ 9 (17 : Int)) s) 49 (σ 9 (17 : Int)) (σ 47 s)) 9 (17 : Int) ((σ 9 (17 : Int)) + (1 : Int))) 47 s (999 : Int)) ∧ min 999 (σ 47 s + n) = (if s = s then (999 : Int) else (σ 47 s)))))))))))))))
  refine ⟨?_, ?_⟩
  · intro h1
    refine ⟨by (first | omega | exact ⟨by omega, by omega⟩ | exact ⟨by omega, by omega, by omega⟩ | exact ⟨by omega, by omega, by omega, by omega, by omega⟩), ?_⟩
    refine ⟨by (exact ⟨by omega, by omega⟩), ?_⟩
    refine ⟨?_, ?_⟩
    · intro h2
      refine ⟨by (first | omega | exact ⟨by omega, by omega⟩ | exact ⟨by omega, by omega, by omega⟩ | exact ⟨by omega, by omega, by omega, by omega, by omega⟩), ?_⟩
      refine ⟨by (exact ⟨by omega, by omega⟩), ?_⟩
      refine ⟨by (first | omega | exact ⟨by omega, by omega⟩ | exact ⟨by omega, by omega, by omega⟩ | exact ⟨by omega, by omega, by omega, by omega, by omega⟩), ?_⟩
      refine ⟨by (first | omega | exact ⟨by omega, by omega⟩ | exact ⟨by omega, by omega, by omega⟩ | exact ⟨by omega, by omega, by omega, by omega, by omega⟩), ?_⟩
      have e : σ 47 s + n = min 999 (σ 47 s + n) := by omega
      rw [← e]
      rw [if_neg (show ¬ 0 < σ 9 20 by omega)]; exact ⟨rfl, (if_pos rfl).symm⟩
    · intro h3
      refine ⟨by (first | omega | exact ⟨by omega, by omega⟩ | exact ⟨by omega, by omega, by omega⟩ | exact ⟨by omega, by omega, by omega, by omega, by omega⟩), ?_⟩
      refine ⟨by (first | omega | exact ⟨by omega, by omega⟩ | exact ⟨by omega, by omega, by omega⟩ | exact ⟨by omega, by omega, by omega, by omega, by omega⟩), ?_⟩
      have e : (999 : Int) = min 999 (σ 47 s + n) := by omega
      rw [← e]
      rw [if_neg (show ¬ 0 < σ 9 20 by omega)]; exact ⟨rfl, (if_pos rfl).symm⟩
  · intro h4
    refine ⟨by (first | omega | exact ⟨by omega, by omega⟩ | exact ⟨by omega, by omega, by omega⟩ | exact ⟨by omega, by omega, by omega, by omega, by omega⟩), ?_⟩
    refine ⟨by (first | omega | exact ⟨by omega, by omega⟩ | exact ⟨by omega, by omega, by omega⟩ | exact ⟨by omega, by omega, by omega, by omega, by omega⟩), ?_⟩
    refine ⟨by (first | omega | exact ⟨by omega, by omega⟩ | exact ⟨by omega, by omega, by omega⟩ | exact ⟨by omega, by omega, by omega, by omega, by omega⟩), ?_⟩
    refine ⟨by (exact ⟨by omega, by omega⟩), ?_⟩
    refine ⟨by (first | omega | exact ⟨by omega, by omega⟩ | exact ⟨by omega, by omega, by omega⟩ | exact ⟨by omega, by omega, by omega, by omega, by omega⟩), ?_⟩
    refine ⟨by (exact ⟨by omega, by omega⟩), ?_⟩
    refine ⟨?_, ?_⟩
    · intro h5
      refine ⟨by (first | omega | exact ⟨by omega, by omega⟩ | exact ⟨by omega, by omega, by omega⟩ | exact ⟨by omega, by omega, by omega, by omega, by omega⟩), ?_⟩
      refine ⟨by (exact ⟨by omega, by omega⟩), ?_⟩
      refine ⟨by (first | omega | exact ⟨by omega, by omega⟩ | exact ⟨by omega, by omega, by omega⟩ | exact ⟨by omega, by omega, by omega, by omega, by omega⟩), ?_⟩
      refine ⟨by (first | omega | exact ⟨by omega, by omega⟩ | exact ⟨by omega, by omega, by omega⟩ | exact ⟨by omega, by omega, by omega, by omega, by omega⟩), ?_⟩
      have e : σ 47 s + n = min 999 (σ 47 s + n) := by omega
      rw [← e]
      rw [if_pos (show 0 < σ 9 20 by omega)]; exact ⟨rfl, (if_pos rfl).symm⟩
    · intro h6
      refine ⟨by (first | omega | exact ⟨by omega, by omega⟩ | exact ⟨by omega, by omega, by omega⟩ | exact ⟨by omega, by omega, by omega, by omega, by omega⟩), ?_⟩
      refine ⟨by (first | omega | exact ⟨by omega, by omega⟩ | exact ⟨by omega, by omega, by omega⟩ | exact ⟨by omega, by omega, by omega, by omega, by omega⟩), ?_⟩
      have e : (999 : Int) = min 999 (σ 47 s + n) := by omega
      rw [← e]
      rw [if_pos (show 0 < σ 9 20 by omega)]; exact ⟨rfl, (if_pos rfl).symm⟩
set_option maxRecDepth 100000 in
set_option maxHeartbeats 4000000 in
theorem am_X9_state {σ : zS} {a : Int} {b : Int} {c : Int} (h : 0 ≤ a ∧ a ≤ 14 ∧ 0 ≤ b ∧ b < 26 ∧ 0 ≤ c ∧ c ≤ 13) : zAM 136 [.inl a, .inl b, .inl c] σ (fun (v : Int) (u : zS) => σ = u ∧ (338 * a + 13 * b + c) = v) := by
  refine zam (by decide) (Nat.le_of_ble_eq_true rfl) ?_
  refine zwalk zmk_136 [] 2 ?_
  show (zI ((338 : Int) * a) ∧ (zI ((13 : Int) * b) ∧ (zI (((338 : Int) * a) + ((13 : Int) * b)) ∧ (zI ((((338 : Int) * a) + ((13 : Int) * b)) + c) ∧ (σ = σ ∧ (338 * a + 13 * b + c) = ((((338 : Int) * a) + ((13 : Int) * b)) + c))))))
  refine ⟨by (exact ⟨by omega, by omega⟩), ?_⟩
  refine ⟨by (exact ⟨by omega, by omega⟩), ?_⟩
  refine ⟨by (exact ⟨by omega, by omega⟩), ?_⟩
  refine ⟨by (exact ⟨by omega, by omega⟩), ?_⟩
  exact ⟨rfl, rfl⟩
def zaw (a b : Int) : Int := if b < a then a - b else b - a
set_option maxRecDepth 100000 in
set_option maxHeartbeats 4000000 in
theorem am_X9_away {σ : zS} {k : Int} {d : Int} (h : 0 ≤ k ∧ k < 40 ∧ 0 ≤ d ∧ d < 40) (h1 : 0 ≤ σ 41 k ∧ σ 41 k ≤ 2000) (h2 : 0 ≤ σ 44 d ∧ σ 44 d ≤ 2000) : zAM 113 [.inr (.inr (9, 0)), .inl k, .inl d] σ (fun (v : Int) (u : zS) => σ = u ∧ zaw (σ 41 k) (σ 44 d) = v) := by
  refine zam (by decide) (Nat.le_of_ble_eq_true rfl) ?_
  refine zwalk zmk_113 [] 3 ?_
  show ((0 ≤ k ∧ k < (40 : Int)) ∧ ((0 ≤ d ∧ d < (40 : Int)) ∧ (((σ 41 k) ≤ (σ 44 d) → ((0 ≤ d ∧ d < (40 : Int)) ∧ ((0 ≤ k ∧ k < (40 : Int)) ∧ (zI ((σ 44 d) - (σ 41 k)) ∧ (σ = σ ∧ zaw (σ 41 k) (σ 44 d) = ((σ 44 d) - (σ 41 k))))))) ∧ ((σ 44 d) < (σ 41 k) → ((0 ≤ k ∧ k < (40 : Int)) ∧ ((0 ≤ d ∧ d < (40 : Int)) ∧ (zI ((σ 41 k) - (σ 44 d)) ∧ (σ = σ ∧ zaw (σ 41 k) (σ 44 d) = ((σ 41 k) - (σ 44 d))))))))))
  refine ⟨by (first | omega | exact ⟨by omega, by omega⟩ | exact ⟨by omega, by omega, by omega⟩ | exact ⟨by omega, by omega, by omega, by omega, by omega⟩), ?_⟩
  refine ⟨by (first | omega | exact ⟨by omega, by omega⟩ | exact ⟨by omega, by omega, by omega⟩ | exact ⟨by omega, by omega, by omega, by omega, by omega⟩), ?_⟩
  refine ⟨?_, ?_⟩
  · intro h1
    refine ⟨by (first | omega | exact ⟨by omega, by omega⟩ | exact ⟨by omega, by omega, by omega⟩ | exact ⟨by omega, by omega, by omega, by omega, by omega⟩), ?_⟩
    refine ⟨by (first | omega | exact ⟨by omega, by omega⟩ | exact ⟨by omega, by omega, by omega⟩ | exact ⟨by omega, by omega, by omega, by omega, by omega⟩), ?_⟩
    refine ⟨by (exact ⟨by omega, by omega⟩), ?_⟩
    exact ⟨rfl, by unfold zaw; split <;> omega⟩
  · intro h2
    refine ⟨by (first | omega | exact ⟨by omega, by omega⟩ | exact ⟨by omega, by omega, by omega⟩ | exact ⟨by omega, by omega, by omega, by omega, by omega⟩), ?_⟩
    refine ⟨by (first | omega | exact ⟨by omega, by omega⟩ | exact ⟨by omega, by omega, by omega⟩ | exact ⟨by omega, by omega, by omega, by omega, by omega⟩), ?_⟩
    refine ⟨by (exact ⟨by omega, by omega⟩), ?_⟩
    exact ⟨rfl, by unfold zaw; split <;> omega⟩
set_option maxRecDepth 100000 in
set_option maxHeartbeats 4000000 in
theorem am_X9_loose {σ : zS} : zAM 120 [.inr (.inr (9, 0))] σ (fun (v : Int) (u : zS) => σ = u ∧ (σ 9 11) = v) := by
  refine zam (by decide) (Nat.le_of_ble_eq_true rfl) ?_
  refine zwalk zmk_120 [] 2 ?_
  show (σ = σ ∧ (σ 9 11) = (σ 9 (11 : Int)))
  exact ⟨rfl, rfl⟩
set_option maxRecDepth 100000 in
set_option maxHeartbeats 4000000 in
theorem am_X9_status {σ : zS} : zAM 157 [.inr (.inr (9, 0))] σ (fun (v : Int) (u : zS) => σ = u ∧ (σ 9 4) = v) := by
  refine zam (by decide) (Nat.le_of_ble_eq_true rfl) ?_
  refine zwalk zmk_157 [] 2 ?_
  show (σ = σ ∧ (σ 9 4) = (σ 9 (4 : Int)))
  exact ⟨rfl, rfl⟩
set_option maxRecDepth 100000 in
set_option maxHeartbeats 4000000 in
theorem am_X9_wipe {σ : zS} : zAM 131 [.inr (.inr (9, 0))] σ (fun (v : Int) (u : zS) => zup σ 9 25 0 = u ∧ σ 9 25 = v) := by
  refine zam (by decide) (Nat.le_of_ble_eq_true rfl) ?_
  refine zwalk zmk_131 [] 2 ?_
  show (zup σ 9 25 0 = (zup σ 9 (25 : Int) (0 : Int)) ∧ σ 9 25 = (σ 9 (25 : Int)))
  exact ⟨rfl, rfl⟩
set_option maxRecDepth 100000 in
set_option maxHeartbeats 4000000 in
theorem am_X9_trace {σ : zS} {i : Int} (h : 0 ≤ σ 9 28 ∧ σ 9 28 ≤ 16) : zAM 155 [.inr (.inr (9, 0)), .inl i] σ (fun (v : Int) (u : zS) => σ = u ∧ (if 0 ≤ i ∧ i < σ 9 28 then σ 54 i else -1000000) = v) := by
  refine zam (by decide) (Nat.le_of_ble_eq_true rfl) ?_
  refine zwalk zmk_155 [] 3 ?_
  show (zI ((σ 9 (28 : Int)) - (1 : Int)) ∧ (∃ Rc : Int → zS → Prop, zAM 103 [.inr (.inl i), .inr (.inl (0 : Int)), .inr (.inl ((σ 9 (28 : Int)) - (1 : Int)))] σ Rc ∧ ∀ (v1 : Int) (u1 : zS), zI v1 → Rc v1 u1 → ((v1 = 0 → (σ = u1 ∧ (if 0 ≤ i ∧ i < σ 9 28 then σ 54 i else -1000000) = (-1000000 : Int))) ∧ (¬ v1 = 0 → ((0 ≤ i ∧ i < (16 : Int)) ∧ (σ = u1 ∧ (if 0 ≤ i ∧ i < σ 9 28 then σ 54 i else -1000000) = (u1 54 i)))))))
  refine ⟨by (exact ⟨by omega, by omega⟩), ?_⟩
  refine ⟨_, am_X9_in, ?_⟩
  intro v1 u1 hv1
  rintro ⟨rfl, (⟨rfl, cv1⟩ | ⟨rfl, cv1⟩)⟩
  · refine ⟨?_, ?_⟩
    · exact fun h => absurd h (by decide)
    · intro _
      refine ⟨by (first | omega | exact ⟨by omega, by omega⟩ | exact ⟨by omega, by omega, by omega⟩ | exact ⟨by omega, by omega, by omega, by omega, by omega⟩), ?_⟩
      exact ⟨rfl, if_pos (by omega)⟩
  · refine ⟨?_, ?_⟩
    · intro _
      exact ⟨rfl, if_neg (by omega)⟩
    · exact fun h => absurd h (by decide)
set_option maxRecDepth 100000 in
set_option maxHeartbeats 4000000 in
theorem am_X9_begins {σ : zS} {b : Int} (h : 0 ≤ σ 9 28) : zAM 151 [.inr (.inr (9, 0)), .inl b] σ (fun (v : Int) (u : zS) => (if σ 9 28 < 16 then zup (zup σ 54 (σ 9 28) b) 9 28 (σ 9 28 + 1) else σ) = u) := by
  refine zam (by decide) (Nat.le_of_ble_eq_true rfl) ?_
  refine zwalk zmk_151 [] 3 ?_
  show (((16 : Int) ≤ (σ 9 (28 : Int)) → ((if σ 9 28 < 16 then zup (zup σ 54 (σ 9 28) b) 9 28 (σ 9 28 + 1) else σ) = σ)) ∧ ((σ 9 (28 : Int)) < (16 : Int) → ((0 ≤ (σ 9 (28 : Int)) ∧ (σ 9 (28 : Int)) < (16 : Int)) ∧ (zI ((σ 9 (28 : Int)) + (1 : Int)) ∧ ((if σ 9 28 < 16 then zup (zup σ 54 (σ 9 28) b) 9 28 (σ 9 28 + 1) else σ) = (zup (zup σ 54 (σ 9 (28 : Int)) b) 9 (28 : Int) ((σ 9 (28 : Int)) + (1 : Int))))))))
  refine ⟨?_, ?_⟩
  · intro h1
    exact if_neg (by omega)
  · intro h2
    refine ⟨by (first | omega | exact ⟨by omega, by omega⟩ | exact ⟨by omega, by omega, by omega⟩ | exact ⟨by omega, by omega, by omega, by omega, by omega⟩), ?_⟩
    refine ⟨by (exact ⟨by omega, by omega⟩), ?_⟩
    exact if_pos (by omega)
set_option maxRecDepth 100000 in
set_option maxHeartbeats 4000000 in
theorem lp_forget {τ : zS} : ∀ (n : Nat) (i : Int) (σ : zS), 40 - i < (n : Int) → (0 ≤ i) → (i ≤ 40) → (σ = zfill τ 55 0 i 0) → zRuns 111 zX0 (fun (v : Int) (u : zS) => zfill τ 55 0 40 0 = u) 2 [some (.inr (.inr (9, 0))), some (.inl i)] [] σ := by
  intro n
  induction n with
  | zero =>
    intro i σ hn hi hi2 hσ
    exfalso
    omega
  | succ n ih =>
    intro i σ hn hi hi2 hσ
    refine zwalk zmk_111 [(2, [true, true])] 3 ?_
    show (((40 : Int) ≤ i → (zfill τ 55 0 40 0 = σ)) ∧ (i < (40 : Int) → ((((0 : Int) = 0 ∨ (0 : Int) = 1) ∧ 0 ≤ i ∧ i < (40 : Int)) ∧ (zI (i + (1 : Int)) ∧ zRuns 111 zX0 (fun (v : Int) (u : zS) => zfill τ 55 0 40 0 = u) 2 [some (.inr (.inr (9, 0))), some (.inl (i + (1 : Int)))] [] (zup σ 55 i (0 : Int))))))
    refine ⟨?_, ?_⟩
    · intro h1
      have : i = 40 := by omega
      rw [this] at hσ; exact hσ.symm
    · intro h2
      refine ⟨by (first | omega | exact ⟨by omega, by omega⟩ | exact ⟨by omega, by omega, by omega⟩ | exact ⟨by omega, by omega, by omega, by omega, by omega⟩), ?_⟩
      refine ⟨by (exact ⟨by omega, by omega⟩), ?_⟩
      exact ih _ _ (by omega) (by omega) (by omega) (by rw [hσ]; have h9 := zfill_s (σ := τ) (k := 55) (o := 0) (v := 0) hi; rwa [Int.zero_add] at h9)
set_option maxRecDepth 100000 in
set_option maxHeartbeats 4000000 in
theorem am_X9_forget {σ : zS} : zAM 111 [.inr (.inr (9, 0))] σ (fun (v : Int) (u : zS) => zfill σ 55 0 40 0 = u) := by
  refine zam (by decide) (Nat.le_of_ble_eq_true rfl) ?_
  refine zwalk zmk_111 [(2, [true, true])] 2 ?_
  show zRuns 111 zX0 (fun (v : Int) (u : zS) => zfill σ 55 0 40 0 = u) 2 [some (.inr (.inr (9, 0))), some (.inl (0 : Int))] [] σ
  exact lp_forget 41 0 _ (by omega) (by omega) (by omega) zfill_0.symm
end
section
theorem wb_tb (n : Nat) : (lN n).toBitVec = BitVec.ofNat 64 n := rfl
theorem wb_inj {a b : Int64} (h : a.toBitVec = b.toBitVec) : a = b := Int64.toBitVec_inj.mp h
theorem wb_tn {n : Nat} (h : n < 2 ^ 64) : (lN n).toBitVec.toNat = n := by rw [wb_tb, BitVec.toNat_ofNat, Nat.mod_eq_of_lt h]
theorem wb_c : ∀ k, k < 64 → ((nI k).toInt64 &&& 63) = lN k := by decide +kernel
theorem wb_cu : ∀ k, k < 64 → ((nI k).toInt64.toUInt64 &&& Int64.toUInt64 63) = UInt64.ofNat k := by decide +kernel
theorem wb_sm : ∀ k, k < 64 → (BitVec.ofNat 64 k).smod 64 = BitVec.ofNat 64 k := by decide +kernel
theorem wb_lt2 {a b : Nat} (h : a < b) : 2 ^ a < 2 ^ b := Nat.pow_lt_pow_right (by decide) h
theorem wb_shr {n k : Nat} (hn : n < 2 ^ 64) (hk : k < 64) : ((lN n).toUInt64 >>> ((nI k).toInt64.toUInt64 &&& Int64.toUInt64 63)).toInt64 = lN (n / 2 ^ k) := by
  rw [wb_cu k hk]
  apply wb_inj
  apply BitVec.eq_of_toNat_eq
  show ((lN n).toUInt64 >>> UInt64.ofNat k).toNat = (BitVec.ofNat 64 _).toNat
  have h1 : (UInt64.ofNat k).toNat = k := by
    show (BitVec.ofNat 64 k).toNat = k
    rw [BitVec.toNat_ofNat, Nat.mod_eq_of_lt (by omega)]
  have h2 : (lN n).toUInt64.toNat = n := wb_tn hn
  rw [UInt64.toNat_shiftRight, h1, h2, Nat.mod_eq_of_lt hk, Nat.shiftRight_eq_div_pow, BitVec.toNat_ofNat, Nat.mod_eq_of_lt (Nat.lt_of_le_of_lt (Nat.div_le_self _ _) hn)]
theorem wb_shl (n : Nat) {k : Nat} (hk : k < 64) : lN n <<< ((nI k).toInt64 &&& 63) = lN (n * 2 ^ k) := by
  rw [wb_c k hk]
  apply wb_inj
  rw [Int64.toBitVec_shiftLeft, wb_tb, wb_tb, wb_tb, wb_sm k hk]
  apply BitVec.eq_of_toNat_eq
  rw [BitVec.shiftLeft_eq', BitVec.toNat_shiftLeft, BitVec.toNat_ofNat, BitVec.toNat_ofNat, BitVec.toNat_ofNat, Nat.mod_eq_of_lt (show k < 2 ^ 64 by omega), Nat.shiftLeft_eq, Nat.mul_mod, Nat.mod_mod, ← Nat.mul_mod]
theorem wb_and {a b : Nat} (ha : a < 2 ^ 64) (hb : b < 2 ^ 64) : lN a &&& lN b = lN (a &&& b) := by
  apply wb_inj
  rw [Int64.toBitVec_and, wb_tb, wb_tb, wb_tb]
  apply BitVec.eq_of_toNat_eq
  rw [BitVec.toNat_and, BitVec.toNat_ofNat, BitVec.toNat_ofNat, BitVec.toNat_ofNat, Nat.mod_eq_of_lt ha, Nat.mod_eq_of_lt hb, Nat.mod_eq_of_lt (Nat.and_lt_two_pow _ hb)]
theorem wb_or {a b : Nat} (ha : a < 2 ^ 64) (hb : b < 2 ^ 64) : lN a ||| lN b = lN (a ||| b) := by
  apply wb_inj
  rw [Int64.toBitVec_or, wb_tb, wb_tb, wb_tb]
  apply BitVec.eq_of_toNat_eq
  rw [BitVec.toNat_or, BitVec.toNat_ofNat, BitVec.toNat_ofNat, BitVec.toNat_ofNat, Nat.mod_eq_of_lt ha, Nat.mod_eq_of_lt hb, Nat.mod_eq_of_lt (Nat.or_lt_two_pow ha hb)]
theorem wb_mask {n k : Nat} (hn : n < 2 ^ 64) (hk : k < 64) : lN n &&& lN (2 ^ k - 1) = lN (n % 2 ^ k) := by
  rw [wb_and hn (by have := wb_lt2 hk; omega), Nat.and_two_pow_sub_one_eq_mod]
theorem pf_lI {a : Nat} (h : a < 2 ^ 63) : (lN a).toInt = (a : Int) := lg_ofNat_toInt h
theorem pf_shr {a d : Nat} {D : Int64} (hD : (D.toBitVec.smod 64).toNat = d) (h : a < 2 ^ 62) : lN a >>> D = lN (a / 2 ^ d) := by
  have hd : a / 2 ^ d ≤ a := Nat.div_le_self _ _
  apply Int64.toInt_inj.mp
  have e : (lN a >>> D).toInt = (lN a).toInt >>> d := by
    rw [← hD]
    exact BitVec.toInt_sshiftRight ..
  rw [e, Int.shiftRight_eq_div_pow, pf_lI (by omega), pf_lI (by omega)]
  rfl
theorem zofN (n : Nat) : Int64.ofInt (n : Int) = lN n := Int64.ofInt_eq_ofNat
theorem zofI (n : Nat) : Int32.ofInt (n : Int) = nI n := Int32.ofInt_eq_ofNat
/-- w >>> s of a number that is not below 0 -/
theorem zushr {w s : Int} (h0 : 0 ≤ w) (h1 : w < 4611686018427387904) (s0 : 0 ≤ s) (s1 : s < 64) : ((Int64.ofInt w).toUInt64 >>> ((Int32.ofInt s).toInt64.toUInt64 &&& Int64.toUInt64 63)).toInt64.toInt = w / 2 ^ s.toNat := by
  obtain ⟨n, rfl⟩ : ∃ n : Nat, w = (n : Int) := ⟨w.toNat, (Int.toNat_of_nonneg h0).symm⟩
  obtain ⟨k, rfl⟩ : ∃ k : Nat, s = (k : Int) := ⟨s.toNat, (Int.toNat_of_nonneg s0).symm⟩
  have hk : k < 64 := by omega
  have hn : n < 2 ^ 64 := by omega
  have hd : n / 2 ^ k ≤ n := Nat.div_le_self _ _
  generalize hq : n / 2 ^ k = q at hd
  rw [zofN, zofI, wb_shr hn hk, hq, ← zofN, zJ_t ⟨by omega, by omega⟩, Int.toNat_natCast, ← hq]
  simp
theorem zshr {w s : Int} (h0 : 0 ≤ w) (h1 : w < 4611686018427387904) (s0 : 0 ≤ s) (s1 : s < 64) : (Int64.ofInt w >>> ((Int32.ofInt s).toInt64 &&& 63)).toInt = w / 2 ^ s.toNat := by
  obtain ⟨n, rfl⟩ : ∃ n : Nat, w = (n : Int) := ⟨w.toNat, (Int.toNat_of_nonneg h0).symm⟩
  obtain ⟨k, rfl⟩ : ∃ k : Nat, s = (k : Int) := ⟨s.toNat, (Int.toNat_of_nonneg s0).symm⟩
  have hk : k < 64 := by omega
  have hn : n < 2 ^ 62 := by omega
  have hd : n / 2 ^ k ≤ n := Nat.div_le_self _ _
  have hD : ((lN k).toBitVec.smod 64).toNat = k := by
    rw [wb_tb, wb_sm k hk, BitVec.toNat_ofNat, Nat.mod_eq_of_lt (by omega)]
  generalize hq : n / 2 ^ k = q at hd
  rw [zofN, zofI, wb_c k hk, pf_shr hD hn, hq, ← zofN, zJ_t ⟨by omega, by omega⟩, Int.toNat_natCast, ← hq]
  simp
theorem zshl {w s : Int} (h0 : 0 ≤ w) (s0 : 0 ≤ s) (s1 : s < 64) (h1 : w * 2 ^ s.toNat < 9223372036854775808) : (Int64.ofInt w <<< ((Int32.ofInt s).toInt64 &&& 63)).toInt = w * 2 ^ s.toNat := by
  obtain ⟨n, rfl⟩ : ∃ n : Nat, w = (n : Int) := ⟨w.toNat, (Int.toNat_of_nonneg h0).symm⟩
  obtain ⟨k, rfl⟩ : ∃ k : Nat, s = (k : Int) := ⟨s.toNat, (Int.toNat_of_nonneg s0).symm⟩
  have hk : k < 64 := by omega
  rw [Int.toNat_natCast] at h1 ⊢
  have e : ((n * 2 ^ k : Nat) : Int) = (n : Int) * 2 ^ k := by simp
  rw [zofN, zofI, wb_shl n hk, ← zofN, zJ_t ⟨by omega, by rw [e]; omega⟩, e]
theorem zand31 {w : Int} (h0 : 0 ≤ w) (h1 : w < 9223372036854775808) : (Int64.ofInt w &&& Int64.ofInt 31).toInt = w % 32 := by
  obtain ⟨n, rfl⟩ : ∃ n : Nat, w = (n : Int) := ⟨w.toNat, (Int.toNat_of_nonneg h0).symm⟩
  have hn : n < 2 ^ 64 := by omega
  have := wb_mask (k := 5) hn (by decide)
  rw [show Int64.ofInt 31 = lN (2 ^ 5 - 1) from rfl, zofN, this, ← zofN, zJ_t ⟨by omega, by omega⟩]
  simp
theorem zori {w a b : Int} {k : Nat} (ha : 0 ≤ a) (hw : w = a * 2 ^ k) (hb : 0 ≤ b) (hb2 : b < 2 ^ k) (h : w + b < 9223372036854775808) : (Int64.ofInt w ||| Int64.ofInt b).toInt = w + b := by
  obtain ⟨n, rfl⟩ : ∃ n : Nat, a = (n : Int) := ⟨a.toNat, (Int.toNat_of_nonneg ha).symm⟩
  obtain ⟨m, rfl⟩ : ∃ m : Nat, b = (m : Int) := ⟨b.toNat, (Int.toNat_of_nonneg hb).symm⟩
  have hm : m < 2 ^ k := by have : ((2 ^ k : Nat) : Int) = 2 ^ k := by simp
                            omega
  have e : (n : Int) * 2 ^ k = ((2 ^ k * n : Nat) : Int) := by simp [Int.mul_comm]
  subst hw
  rw [e] at h ⊢
  have h2 : 2 ^ k * n + m < 2 ^ 64 := by omega
  rw [zofN, zofN, wb_or (by omega) (by omega), ← Nat.two_pow_add_eq_or_of_lt hm, ← zofN, zJ_t ⟨by omega, by omega⟩]
  simp
theorem zori' {w a b : Int} {k : Nat} (ha : 0 ≤ a) (hw : w = a * 2 ^ k) (hb : 0 ≤ b) (hb2 : b < 2 ^ k) (h : w + b < 9223372036854775808) : (Int64.ofInt b ||| Int64.ofInt w).toInt = w + b := by
  rw [Int64.or_comm]; exact zori ha hw hb hb2 h
end
section
/-! words as numbers: zdw, the letters as digits to 32 from 1 on; the left code zlc; the right code zrt -/
def zdw (f : Nat → Int) : Nat → Int
  | 0 => 0
  | n + 1 => 32 * zdw f n + (f n + 1)
def zrt (f : Nat → Int) : Nat → Int
  | 0 => 0
  | n + 1 => 32 * zrt f n + f n
def zrep : Nat → Int
  | 0 => 0
  | n + 1 => 32 * zrep n + 1
def zlet (f : Nat → Int) (n : Nat) : Prop := ∀ k : Nat, k < n → 0 ≤ f k ∧ f k < 26
def zlc (f : Nat → Int) (n : Nat) : Int := zdw f n * 32 ^ (12 - n)
theorem zp_pos (k : Nat) : (0 : Int) < 32 ^ k := Int.pow_pos (by decide)
theorem zp_s (k : Nat) : (32 : Int) ^ (k + 1) = 32 ^ k * 32 := Int.pow_succ 32 k
theorem zlet.le {f : Nat → Int} {n m : Nat} (h : zlet f n) (hm : m ≤ n) : zlet f m := fun k hk => h k (by omega)
theorem zdw_lt {f : Nat → Int} : ∀ {n : Nat}, zlet f n → 0 ≤ zdw f n ∧ zdw f n < 32 ^ n
  | 0, _ => ⟨by simp [zdw], by simp [zdw]⟩
  | n + 1, h => by
    have h1 := zdw_lt (n := n) (h.le (by omega))
    have h2 := h n (by omega)
    rw [zp_s]
    simp only [zdw]
    omega
theorem zdw_rt (f : Nat → Int) : ∀ n : Nat, zdw f n = zrt f n + zrep n
  | 0 => rfl
  | n + 1 => by simp only [zdw, zrt, zrep, zdw_rt f n]; omega
theorem zdw_div {f : Nat → Int} : ∀ (j m : Nat), zlet f (m + j) → zdw f (m + j) / 32 ^ j = zdw f m
  | 0, m, _ => by simp
  | j + 1, m, h => by
    have h2 := h (m + j) (by omega)
    have e : zdw f (m + (j + 1)) / 32 = zdw f (m + j) := by
      show (32 * zdw f (m + j) + (f (m + j) + 1)) / 32 = _
      omega
    rw [zp_s, Int.mul_comm, ← Int.ediv_ediv_of_nonneg (by decide), e]
    exact zdw_div j m (h.le (by omega))
theorem zlc_lt {f : Nat → Int} {n : Nat} (h : zlet f n) (hn : n ≤ 12) : 0 ≤ zlc f n ∧ zlc f n < 1152921504606846976 := by
  have h1 := zdw_lt h
  have hp := zp_pos (12 - n)
  refine ⟨Int.mul_nonneg h1.1 (Int.le_of_lt hp), ?_⟩
  have e : (32 : Int) ^ n * 32 ^ (12 - n) = 1152921504606846976 := by
    rw [← Int.pow_add, show n + (12 - n) = 12 by omega]; decide
  rw [← e]
  exact Int.mul_lt_mul_of_pos_right h1.2 hp
/-- digit k of a left code -/
theorem zlc_dig {f : Nat → Int} {n k : Nat} (h : zlet f n) (hn : n ≤ 12) (hk : k < 12) : zlc f n / 32 ^ (11 - k) % 32 = if k < n then f k + 1 else 0 := by
  unfold zlc
  by_cases hkn : k < n
  · rw [if_pos hkn]
    have e1 : (32 : Int) ^ (11 - k) = 32 ^ (12 - n) * 32 ^ (n - 1 - k) := by rw [← Int.pow_add]; congr 1; omega
    rw [e1, ← Int.ediv_ediv_of_nonneg (Int.le_of_lt (zp_pos _)), Int.mul_ediv_cancel _ (Int.ne_of_gt (zp_pos _))]
    have e2 := zdw_div (f := f) (n - 1 - k) (k + 1) (by rw [show k + 1 + (n - 1 - k) = n by omega]; exact h)
    rw [show k + 1 + (n - 1 - k) = n by omega] at e2
    rw [e2]
    have h2 := h k hkn
    show (32 * zdw f k + (f k + 1)) % 32 = _
    omega
  · rw [if_neg hkn]
    have e1 : (32 : Int) ^ (12 - n) = 32 ^ (k - n) * 32 * 32 ^ (11 - k) := by rw [← Int.pow_succ, ← Int.pow_add]; congr 1; omega
    rw [e1, ← Int.mul_assoc, Int.mul_ediv_cancel _ (Int.ne_of_gt (zp_pos _)), ← Int.mul_assoc]
    omega
theorem zlc_snoc {f : Nat → Int} {n : Nat} (hn : n < 12) : zlc f (n + 1) = zlc f n + (f n + 1) * 32 ^ (11 - n) := by
  unfold zlc
  have e : (32 : Int) ^ (12 - n) = 32 ^ (11 - n) * 32 := by rw [← Int.pow_succ]; congr 1; omega
  rw [e, show 12 - (n + 1) = 11 - n by omega]
  simp only [zdw]
  grind
theorem zdw_congr {f g : Nat → Int} : ∀ {n : Nat}, (∀ k, k < n → f k = g k) → zdw f n = zdw g n
  | 0, _ => rfl
  | n + 1, h => by simp only [zdw, zdw_congr (n := n) (fun k hk => h k (by omega)), h n (by omega)]
theorem zlc_congr {f g : Nat → Int} {n : Nat} (h : ∀ k, k < n → f k = g k) : zlc f n = zlc g n := by unfold zlc; rw [zdw_congr h]
/-- a left code tells its letters, and how many -/
theorem zlc_inj {f g : Nat → Int} {n m : Nat} (hf : zlet f n) (hg : zlet g m) (hn : n ≤ 12) (hm : m ≤ 12) (h : zlc f n = zlc g m) : n = m ∧ ∀ k, k < n → f k = g k := by
  have key : ∀ k, k < 12 → (if k < n then f k + 1 else 0) = (if k < m then g k + 1 else 0) := fun k hk => by rw [← zlc_dig hf hn hk, ← zlc_dig hg hm hk, h]
  have hnm : n = m := by
    rcases Nat.lt_trichotomy n m with q | q | q
    · have := key n (by omega)
      rw [if_neg (by omega), if_pos q] at this
      have := hg n q
      omega
    · exact q
    · have := key m (by omega)
      rw [if_pos q, if_neg (by omega)] at this
      have := hf m q
      omega
  refine ⟨hnm, fun k hk => ?_⟩
  have := key k (by omega)
  rw [if_pos hk, if_pos (by omega)] at this
  omega
/-- the first different letter decides -/
theorem zlc_lt_of {f g : Nat → Int} {n m k : Nat} (hf : zlet f n) (hg : zlet g m) (hn : n ≤ 12) (hm : m ≤ 12) (hk : ∀ j, j < k → f j = g j) (hkn : k ≤ n) (hkm : k < m) (h : n = k ∨ k < n ∧ f k < g k) : zlc f n < zlc g m := by
  -- the value up to letter k, in units of 32 ^ (11 - k)
  have up : ∀ (f : Nat → Int) (n j : Nat), zlet f n → n ≤ 12 → j ≤ n → zdw f j * 32 ^ (12 - j) ≤ zlc f n ∧ zlc f n < (zdw f j + 1) * 32 ^ (12 - j) := by
    intro f n j hf hn hj
    have e := zdw_div (f := f) (n - j) j (by rw [show j + (n - j) = n by omega]; exact hf)
    rw [show j + (n - j) = n by omega] at e
    have e2 : (32 : Int) ^ (12 - j) = 32 ^ (n - j) * 32 ^ (12 - n) := by rw [← Int.pow_add]; congr 1; omega
    have p1 := zp_pos (n - j)
    have p2 := zp_pos (12 - n)
    have m0 := Int.emod_nonneg (zdw f n) (Int.ne_of_gt p1)
    have m1 := Int.emod_lt_of_pos (zdw f n) p1
    have m2 := Int.emod_add_mul_ediv (zdw f n) (32 ^ (n - j))
    rw [e] at m2
    unfold zlc
    rw [e2]
    generalize (32 : Int) ^ (n - j) = A at *
    generalize (32 : Int) ^ (12 - n) = B at *
    constructor
    · rw [← Int.mul_assoc]
      exact Int.mul_le_mul_of_nonneg_right (by rw [Int.mul_comm]; omega) (Int.le_of_lt p2)
    · rw [← Int.mul_assoc]
      refine Int.mul_lt_mul_of_pos_right ?_ p2
      rw [Int.add_mul, Int.mul_comm (zdw f j)]
      omega
  have e0 : zdw f k = zdw g k := zdw_congr hk
  have g1 := (up g m (k + 1) hg hm (by omega)).1
  have hgk := hg k hkm
  have e3 : (32 : Int) ^ (12 - k) = 32 ^ (11 - k) * 32 := by rw [← Int.pow_succ]; congr 1; omega
  have p3 := zp_pos (11 - k)
  rcases h with rfl | ⟨h1, h2⟩
  · have f1 : zlc f n = zdw f n * 32 ^ (12 - n) := rfl
    rw [f1, e0, e3]
    rw [show 12 - (n + 1) = 11 - n by omega] at g1
    simp only [zdw] at g1
    generalize (32 : Int) ^ (11 - n) = A at *
    refine Int.lt_of_lt_of_le ?_ g1
    rw [Int.mul_comm A 32, ← Int.mul_assoc]
    exact Int.mul_lt_mul_of_pos_right (by omega) p3
  · have f1 := (up f n (k + 1) hf hn (by omega)).2
    rw [show 12 - (k + 1) = 11 - k by omega] at f1 g1
    simp only [zdw, e0] at f1 g1
    refine Int.lt_of_lt_of_le f1 (Int.le_trans ?_ g1)
    exact Int.mul_le_mul_of_nonneg_right (by omega) (Int.le_of_lt p3)
end
section
def zdg (w k : Int) : Int := w / 32 ^ (11 - k).toNat % 32
theorem zdg_lc {f : Nat → Int} {n : Nat} {k : Int} (h : zlet f n) (hn : n ≤ 12) (h0 : 0 ≤ k) (h1 : k < 12) : zdg (zlc f n) k = if k < (n : Int) then f k.toNat + 1 else 0 := by
  obtain ⟨j, rfl⟩ : ∃ j : Nat, k = (j : Int) := ⟨k.toNat, (Int.toNat_of_nonneg h0).symm⟩
  unfold zdg
  rw [show (11 - (j : Int)).toNat = 11 - j by omega, zlc_dig h hn (by omega), Int.toNat_natCast]
  by_cases e : j < n
  · rw [if_pos e, if_pos (by omega)]
  · rw [if_neg e, if_neg (by omega)]
theorem z2p {k : Int} (h0 : 0 ≤ k) (h1 : k < 12) : (2 : Int) ^ (5 * (11 - k)).toNat = 32 ^ (11 - k).toNat := by
  rw [show (5 * (11 - k)).toNat = 5 * (11 - k).toNat by omega, Int.pow_mul]; rfl
theorem zdg_r {w k : Int} : 0 ≤ zdg w k ∧ zdg w k < 32 := by unfold zdg; omega
set_option maxRecDepth 100000 in
set_option maxHeartbeats 4000000 in
theorem am_X8_wordShift {σ : zS} {k : Int} (h : 0 ≤ k ∧ k < 12) : zAM 86 [.inl k] σ (fun (v : Int) (u : zS) => σ = u ∧ (5 * (11 - k)) = v) := by
  refine zam (by decide) (Nat.le_of_ble_eq_true rfl) ?_
  refine zwalk zmk_86 [] 2 ?_
  show (zI ((11 : Int) - k) ∧ (zI ((5 : Int) * ((11 : Int) - k)) ∧ (σ = σ ∧ (5 * (11 - k)) = ((5 : Int) * ((11 : Int) - k)))))
  refine ⟨by (exact ⟨by omega, by omega⟩), ?_⟩
  refine ⟨by (exact ⟨by omega, by omega⟩), ?_⟩
  exact ⟨rfl, by omega⟩
set_option maxRecDepth 100000 in
set_option maxHeartbeats 4000000 in
theorem am_X8_letterAt {σ : zS} {w : Int} {k : Int} (hw : 0 ≤ w ∧ w < 1152921504606846976) (h : 0 ≤ k ∧ k < 12) : zAM 87 [.inr (.inl w), .inl k] σ (fun (v : Int) (u : zS) => σ = u ∧ zdg w k - 1 = v) := by
  refine zam (by decide) (Nat.le_of_ble_eq_true rfl) ?_
  refine zwalk zmk_87 [] 2 ?_
  show (∃ Rc : Int → zS → Prop, zAM 86 [.inl k] σ Rc ∧ ∀ (v1 : Int) (u1 : zS), zI v1 → Rc v1 u1 → (zI (Int64.ofInt ((Int64.ofInt w).toUInt64 >>> ((Int32.ofInt v1).toInt64.toUInt64 &&& Int64.toUInt64 63)).toInt64.toInt &&& Int64.ofInt (31 : Int)).toInt ∧ (zI ((Int64.ofInt ((Int64.ofInt w).toUInt64 >>> ((Int32.ofInt v1).toInt64.toUInt64 &&& Int64.toUInt64 63)).toInt64.toInt &&& Int64.ofInt (31 : Int)).toInt - (1 : Int)) ∧ (σ = u1 ∧ zdg w k - 1 = ((Int64.ofInt ((Int64.ofInt w).toUInt64 >>> ((Int32.ofInt v1).toInt64.toUInt64 &&& Int64.toUInt64 63)).toInt64.toInt &&& Int64.ofInt (31 : Int)).toInt - (1 : Int))))))
  have e1 : (Int64.ofInt ((Int64.ofInt w).toUInt64 >>> ((Int32.ofInt (5 * (11 - k))).toInt64.toUInt64 &&& Int64.toUInt64 63)).toInt64.toInt &&& Int64.ofInt (31 : Int)).toInt = zdg w k := by
    rw [zushr hw.1 (by omega) (by omega) (by omega), z2p h.1 h.2]
    have h7 : 0 ≤ w / 32 ^ (11 - k).toNat := Int.ediv_nonneg hw.1 (Int.le_of_lt (zp_pos _))
    have h8 : w / 32 ^ (11 - k).toNat ≤ w := Int.ediv_le_self _ hw.1
    exact zand31 h7 (by omega)
  have e2 := @zdg_r w k
  refine ⟨_, am_X8_wordShift (by omega), ?_⟩
  intro v1 u1 hv1
  rintro ⟨rfl, rfl⟩
  obtain ⟨hv1a, hv1b⟩ := hv1
  refine ⟨by (rw [e1]; exact ⟨by omega, by omega⟩), ?_⟩
  refine ⟨by (rw [e1]; exact ⟨by omega, by omega⟩), ?_⟩
  exact ⟨rfl, by rw [e1]⟩
set_option maxRecDepth 100000 in
set_option maxHeartbeats 4000000 in
theorem lp_lettersOf {f : Nat → Int} {m : Nat} {σ : zS} (hf : zlet f m) (hm : m ≤ 12) : ∀ (n : Nat) (k : Int), 12 - k < (n : Int) → (0 ≤ k ∧ k ≤ (m : Int)) → zRuns 88 zX0 (fun (v : Int) (u : zS) => σ = u ∧ (m : Int) = v) 2 [some (.inr (.inl (zlc f m))), none, some (.inl k)] [] σ := by
  intro n
  induction n with
  | zero =>
    intro k hn h0
    exfalso
    omega
  | succ n ih =>
    intro k hn h0
    refine zwalk zmk_88 [(2, [true, false, true])] 3 ?_
    show (((12 : Int) ≤ k → (σ = σ ∧ (m : Int) = k)) ∧ (k < (12 : Int) → (∃ Rc : Int → zS → Prop, zAM 87 [.inr (.inl (zlc f m)), .inl k] σ Rc ∧ ∀ (v1 : Int) (u1 : zS), zI v1 → Rc v1 u1 → ((v1 < 0 → (σ = u1 ∧ (m : Int) = k)) ∧ (0 ≤ v1 → (zI (k + (1 : Int)) ∧ zRuns 88 zX0 (fun (v : Int) (u : zS) => σ = u ∧ (m : Int) = v) 2 [some (.inr (.inl (zlc f m))), none, some (.inl (k + (1 : Int)))] [] u1))))))
    refine ⟨?_, ?_⟩
    · intro h1
      exact ⟨rfl, by omega⟩
    · intro h2
      refine ⟨_, am_X8_letterAt (zlc_lt hf hm) (by omega), ?_⟩
      intro v1 u1 hv1
      rintro ⟨rfl, rfl⟩
      obtain ⟨hv1a, hv1b⟩ := hv1
      refine ⟨?_, ?_⟩
      · intro h3
        have e := zdg_lc hf hm (show 0 ≤ k by omega) (show k < 12 by omega)
        refine ⟨rfl, ?_⟩
        by_cases q : k < (m : Int)
        · rw [if_pos q] at e
          have := hf k.toNat (by omega)
          omega
        · omega
      · intro h4
        refine ⟨by (exact ⟨by omega, by omega⟩), ?_⟩
        have e := zdg_lc hf hm (show 0 ≤ k by omega) (show k < 12 by omega)
        have e3 : k < (m : Int) := by
          by_cases q : k < (m : Int)
          · exact q
          · rw [if_neg q] at e; omega
        exact ih _ (by omega) (by omega)
set_option maxRecDepth 100000 in
set_option maxHeartbeats 4000000 in
theorem am_X8_lettersOf {σ : zS} {f : Nat → Int} {m : Nat} (hf : zlet f m) (hm : m ≤ 12) : zAM 88 [.inr (.inl (zlc f m))] σ (fun (v : Int) (u : zS) => σ = u ∧ (m : Int) = v) := by
  refine zam (by decide) (Nat.le_of_ble_eq_true rfl) ?_
  refine zwalk zmk_88 [(2, [true, false, true])] 2 ?_
  show zRuns 88 zX0 (fun (v : Int) (u : zS) => σ = u ∧ (m : Int) = v) 2 [some (.inr (.inl (zlc f m))), none, some (.inl (0 : Int))] [] σ
  exact lp_lettersOf hf hm 13 0 (by omega) (by omega)
theorem zp11 {k : Int} (h0 : 0 ≤ k) (h1 : k < 12) : (32 : Int) ^ (12 - k).toNat = 32 * 32 ^ (11 - k).toNat ∧ (32 : Int) ^ (11 - k).toNat ≤ 36028797018963968 ∧ 0 < (32 : Int) ^ (11 - k).toNat := by
  refine ⟨by rw [Int.mul_comm, ← Int.pow_succ]; congr 1; omega, ?_, zp_pos _⟩
  obtain ⟨j, rfl⟩ : ∃ j : Nat, k = (j : Int) := ⟨k.toNat, (Int.toNat_of_nonneg h0).symm⟩
  have h9 : ∀ j : Nat, j < 12 → (32 : Int) ^ (11 - (j : Int)).toNat ≤ 36028797018963968 := by decide
  exact h9 j (by omega)
set_option maxRecDepth 100000 in
set_option maxHeartbeats 4000000 in
theorem am_wordWith_hi {σ : zS} {w : Int} {k : Int} {l : Int} (hw : 0 ≤ w ∧ w < 1152921504606846976) (h : 0 ≤ k ∧ k < 12 ∧ 0 ≤ l ∧ l < 26) (hd : ∃ a : Int, 0 ≤ a ∧ w = a * 32 ^ (12 - k).toNat) : zAM 89 [.inr (.inl w), .inl k, .inl l] σ (fun (v : Int) (u : zS) => σ = u ∧ w + (l + 1) * 32 ^ (11 - k).toNat = v) := by
  refine zam (by decide) (Nat.le_of_ble_eq_true rfl) ?_
  refine zwalk zmk_89 [] 2 ?_
  show (zI (l + (1 : Int)) ∧ (∃ Rc : Int → zS → Prop, zAM 86 [.inl k] σ Rc ∧ ∀ (v1 : Int) (u1 : zS), zI v1 → Rc v1 u1 → (σ = u1 ∧ w + (l + 1) * 32 ^ (11 - k).toNat = (Int64.ofInt w ||| Int64.ofInt (Int64.ofInt (l + (1 : Int)) <<< ((Int32.ofInt v1).toInt64 &&& 63)).toInt).toInt)))
  have hp := zp11 h.1 h.2.1
  have e0 : (2 : Int) ^ (5 * (11 - k)).toNat = 32 ^ (11 - k).toNat := z2p h.1 h.2.1
  have e1 : (Int64.ofInt (l + (1 : Int)) <<< ((Int32.ofInt (5 * (11 - k))).toInt64 &&& 63)).toInt = (l + 1) * 32 ^ (11 - k).toNat := by
    rw [← e0]
    refine zshl (by omega) (by omega) (by omega) ?_
    rw [e0]
    have := Int.mul_le_mul_of_nonneg_right (show l + 1 ≤ 26 by omega) (Int.le_of_lt hp.2.2)
    omega
  
  refine ⟨by (exact ⟨by omega, by omega⟩), ?_⟩
  refine ⟨_, am_X8_wordShift (by omega), ?_⟩
  intro v1 u1 hv1
  rintro ⟨rfl, rfl⟩
  obtain ⟨hv1a, hv1b⟩ := hv1
  rw [e1]
  obtain ⟨a, ha, ea⟩ := hd
  have e5 : (2 : Int) ^ (5 * (12 - k).toNat) = 32 ^ (12 - k).toNat := by rw [Int.pow_mul]; rfl
  have h1 : 0 ≤ (l + 1) * 32 ^ (11 - k).toNat := Int.mul_nonneg (by omega) (Int.le_of_lt hp.2.2)
  have h2 : (l + 1) * 32 ^ (11 - k).toNat < 32 * 32 ^ (11 - k).toNat := Int.mul_lt_mul_of_pos_right (by omega) hp.2.2
  exact ⟨rfl, (zori (k := 5 * (12 - k).toNat) ha (by rw [e5]; exact ea) h1 (by rw [e5, hp.1]; exact h2) (by omega)).symm⟩
set_option maxRecDepth 100000 in
set_option maxHeartbeats 4000000 in
theorem am_wordWith_lo {σ : zS} {w : Int} {k : Int} {l : Int} (hw : 0 ≤ w ∧ w < 32 ^ (11 - k).toNat) (h : 0 ≤ k ∧ k < 12 ∧ 0 ≤ l ∧ l < 26) : zAM 89 [.inr (.inl w), .inl k, .inl l] σ (fun (v : Int) (u : zS) => σ = u ∧ w + (l + 1) * 32 ^ (11 - k).toNat = v) := by
  refine zam (by decide) (Nat.le_of_ble_eq_true rfl) ?_
  refine zwalk zmk_89 [] 2 ?_
  show (zI (l + (1 : Int)) ∧ (∃ Rc : Int → zS → Prop, zAM 86 [.inl k] σ Rc ∧ ∀ (v1 : Int) (u1 : zS), zI v1 → Rc v1 u1 → (σ = u1 ∧ w + (l + 1) * 32 ^ (11 - k).toNat = (Int64.ofInt w ||| Int64.ofInt (Int64.ofInt (l + (1 : Int)) <<< ((Int32.ofInt v1).toInt64 &&& 63)).toInt).toInt)))
  have hp := zp11 h.1 h.2.1
  have e0 : (2 : Int) ^ (5 * (11 - k)).toNat = 32 ^ (11 - k).toNat := z2p h.1 h.2.1
  have e1 : (Int64.ofInt (l + (1 : Int)) <<< ((Int32.ofInt (5 * (11 - k))).toInt64 &&& 63)).toInt = (l + 1) * 32 ^ (11 - k).toNat := by
    rw [← e0]
    refine zshl (by omega) (by omega) (by omega) ?_
    rw [e0]
    have := Int.mul_le_mul_of_nonneg_right (show l + 1 ≤ 26 by omega) (Int.le_of_lt hp.2.2)
    omega
  
  refine ⟨by (exact ⟨by omega, by omega⟩), ?_⟩
  refine ⟨_, am_X8_wordShift (by omega), ?_⟩
  intro v1 u1 hv1
  rintro ⟨rfl, rfl⟩
  obtain ⟨hv1a, hv1b⟩ := hv1
  rw [e1]
  have e5 : (2 : Int) ^ (5 * (11 - k).toNat) = 32 ^ (11 - k).toNat := by rw [Int.pow_mul]; rfl
  have h2 : (l + 1) * 32 ^ (11 - k).toNat ≤ 26 * 32 ^ (11 - k).toNat := Int.mul_le_mul_of_nonneg_right (by omega) (Int.le_of_lt hp.2.2)
  rw [Int.add_comm w]
  exact ⟨rfl, (zori' (k := 5 * (11 - k).toNat) (show 0 ≤ l + 1 by omega) (by rw [e5]) hw.1 (by rw [e5]; exact hw.2) (by omega)).symm⟩
set_option maxRecDepth 100000 in
set_option maxHeartbeats 4000000 in
theorem am_X7_append {σ : zS} {f : Nat → Int} {m : Nat} {l : Int} (hf : zlet f m) (hm : m < 12) (hl : 0 ≤ l ∧ l < 26) (h1 : σ 4 0 = zlc f m) (h2 : σ 4 1 = (m : Int)) : zAM 47 [.inr (.inr (4, 0)), .inl l] σ (fun (v : Int) (u : zS) => zup (zup σ 4 0 (zlc f m + (l + 1) * 32 ^ (11 - (m : Int)).toNat)) 4 1 ((m : Int) + 1) = u) := by
  refine zam (by decide) (Nat.le_of_ble_eq_true rfl) ?_
  refine zwalk zmk_47 [] 2 ?_
  show (∃ Rc : Int → zS → Prop, zAM 89 [.inr (.inl (σ 4 (0 : Int))), .inl (σ 4 (1 : Int)), .inl l] σ Rc ∧ ∀ (v1 : Int) (u1 : zS), zJ v1 → Rc v1 u1 → (zI ((u1 4 (1 : Int)) + (1 : Int)) ∧ (zup (zup σ 4 0 (zlc f m + (l + 1) * 32 ^ (11 - (m : Int)).toNat)) 4 1 ((m : Int) + 1) = (zup (zup u1 4 (0 : Int) v1) 4 (1 : Int) ((u1 4 (1 : Int)) + (1 : Int))))))
  rw [h1, h2]
  refine ⟨_, am_wordWith_hi (zlc_lt hf (by omega)) (by omega) (⟨zdw f m, (zdw_lt hf).1, by unfold zlc; congr 2; omega⟩), ?_⟩
  intro v1 u1 hv1
  rintro ⟨rfl, rfl⟩
  obtain ⟨hv1a, hv1b⟩ := hv1
  refine ⟨by (exact ⟨by omega, by omega⟩), ?_⟩
  rw [h2]
end
section
/-- what the class keeps of its SHEETS -/
def zCS (σ : zS) : Prop := ∀ k : Int, 0 ≤ k ∧ k < 8 → (σ 11 k = 0 ∨ σ 11 k = 1) ∧ 0 ≤ σ 12 k ∧ σ 12 k ≤ 2 ∧ 0 ≤ σ 13 k ∧ σ 13 k ≤ 80
/-- what the model keeps of its SHEETS -/
def zMS (σ : zS) : Prop := ∀ k : Int, 0 ≤ k ∧ k < 8 → 0 ≤ σ 37 k ∧ σ 37 k ≤ 3 ∧ 0 ≤ σ 38 k ∧ σ 38 k ≤ 80
set_option maxRecDepth 100000 in
set_option maxHeartbeats 4000000 in
theorem am_X8_sheet {σ : zS} {s : Int} {a : Int} {n : Int} : zAM 50 [.inr (.inr (0, 0)), .inl s, .inl a, .inl n] σ (fun (v : Int) (u : zS) => ((¬ (0 ≤ s ∧ s < 8) ∨ ¬ (0 ≤ a ∧ a < 3) ∨ 80 < n) ∧ σ = u ∧ -1000001 = v) ∨ ((0 ≤ s ∧ s < 8 ∧ 0 ≤ a ∧ a < 3 ∧ n < 0) ∧ zup σ 0 11 4 = u ∧ -1000014 = v) ∨ ((0 ≤ s ∧ s < 8 ∧ 0 ≤ a ∧ a < 3 ∧ 0 ≤ n ∧ n ≤ 80) ∧ zup (zfill (zup (zup (zup σ 11 s 1) 12 s a) 13 s n) 65 (80 * s) 80 0) 0 11 0 = u ∧ n = v)) := by
  refine zam (by decide) (Nat.le_of_ble_eq_true rfl) ?_
  refine zwalk zmk_50 [] 4 ?_
  show (∃ Rc : Int → zS → Prop, zAM 78 [.inl s] σ Rc ∧ ∀ (v1 : Int) (u1 : zS), zI v1 → Rc v1 u1 → ((v1 = 0 → (((¬ (0 ≤ s ∧ s < 8) ∨ ¬ (0 ≤ a ∧ a < 3) ∨ 80 < n) ∧ σ = u1 ∧ -1000001 = (-1000001 : Int)) ∨ ((0 ≤ s ∧ s < 8 ∧ 0 ≤ a ∧ a < 3 ∧ n < 0) ∧ zup σ 0 11 4 = u1 ∧ -1000014 = (-1000001 : Int)) ∨ ((0 ≤ s ∧ s < 8 ∧ 0 ≤ a ∧ a < 3 ∧ 0 ≤ n ∧ n ≤ 80) ∧ zup (zfill (zup (zup (zup σ 11 s 1) 12 s a) 13 s n) 65 (80 * s) 80 0) 0 11 0 = u1 ∧ n = (-1000001 : Int)))) ∧ (¬ v1 = 0 → ((a < 0 → (((¬ (0 ≤ s ∧ s < 8) ∨ ¬ (0 ≤ a ∧ a < 3) ∨ 80 < n) ∧ σ = u1 ∧ -1000001 = (-1000001 : Int)) ∨ ((0 ≤ s ∧ s < 8 ∧ 0 ≤ a ∧ a < 3 ∧ n < 0) ∧ zup σ 0 11 4 = u1 ∧ -1000014 = (-1000001 : Int)) ∨ ((0 ≤ s ∧ s < 8 ∧ 0 ≤ a ∧ a < 3 ∧ 0 ≤ n ∧ n ≤ 80) ∧ zup (zfill (zup (zup (zup σ 11 s 1) 12 s a) 13 s n) 65 (80 * s) 80 0) 0 11 0 = u1 ∧ n = (-1000001 : Int)))) ∧ (0 ≤ a → (((3 : Int) ≤ a → (((¬ (0 ≤ s ∧ s < 8) ∨ ¬ (0 ≤ a ∧ a < 3) ∨ 80 < n) ∧ σ = u1 ∧ -1000001 = (-1000001 : Int)) ∨ ((0 ≤ s ∧ s < 8 ∧ 0 ≤ a ∧ a < 3 ∧ n < 0) ∧ zup σ 0 11 4 = u1 ∧ -1000014 = (-1000001 : Int)) ∨ ((0 ≤ s ∧ s < 8 ∧ 0 ≤ a ∧ a < 3 ∧ 0 ≤ n ∧ n ≤ 80) ∧ zup (zfill (zup (zup (zup σ 11 s 1) 12 s a) 13 s n) 65 (80 * s) 80 0) 0 11 0 = u1 ∧ n = (-1000001 : Int)))) ∧ (a < (3 : Int) → ((n ≤ (80 : Int) → ((0 ≤ n → (∃ Rc : Int → zS → Prop, zAM 39 [.inr (.inr (1, 0)), .inl s, .inl a, .inl n] u1 Rc ∧ ∀ (u2 : zS), Rc 0 u2 → (∃ Rc : Int → zS → Prop, zAM 77 [.inr (.inr (0, 0)), .inl n] u2 Rc ∧ ∀ (v3 : Int) (u3 : zS), zI v3 → Rc v3 u3 → (((¬ (0 ≤ s ∧ s < 8) ∨ ¬ (0 ≤ a ∧ a < 3) ∨ 80 < n) ∧ σ = u3 ∧ -1000001 = v3) ∨ ((0 ≤ s ∧ s < 8 ∧ 0 ≤ a ∧ a < 3 ∧ n < 0) ∧ zup σ 0 11 4 = u3 ∧ -1000014 = v3) ∨ ((0 ≤ s ∧ s < 8 ∧ 0 ≤ a ∧ a < 3 ∧ 0 ≤ n ∧ n ≤ 80) ∧ zup (zfill (zup (zup (zup σ 11 s 1) 12 s a) 13 s n) 65 (80 * s) 80 0) 0 11 0 = u3 ∧ n = v3))))) ∧ (n < 0 → (∃ Rc : Int → zS → Prop, zAM 76 [.inr (.inr (0, 0)), .inl (4 : Int)] u1 Rc ∧ ∀ (v4 : Int) (u4 : zS), zI v4 → Rc v4 u4 → (((¬ (0 ≤ s ∧ s < 8) ∨ ¬ (0 ≤ a ∧ a < 3) ∨ 80 < n) ∧ σ = u4 ∧ -1000001 = v4) ∨ ((0 ≤ s ∧ s < 8 ∧ 0 ≤ a ∧ a < 3 ∧ n < 0) ∧ zup σ 0 11 4 = u4 ∧ -1000014 = v4) ∨ ((0 ≤ s ∧ s < 8 ∧ 0 ≤ a ∧ a < 3 ∧ 0 ≤ n ∧ n ≤ 80) ∧ zup (zfill (zup (zup (zup σ 11 s 1) 12 s a) 13 s n) 65 (80 * s) 80 0) 0 11 0 = u4 ∧ n = v4)))))) ∧ ((80 : Int) < n → (((¬ (0 ≤ s ∧ s < 8) ∨ ¬ (0 ≤ a ∧ a < 3) ∨ 80 < n) ∧ σ = u1 ∧ -1000001 = (-1000001 : Int)) ∨ ((0 ≤ s ∧ s < 8 ∧ 0 ≤ a ∧ a < 3 ∧ n < 0) ∧ zup σ 0 11 4 = u1 ∧ -1000014 = (-1000001 : Int)) ∨ ((0 ≤ s ∧ s < 8 ∧ 0 ≤ a ∧ a < 3 ∧ 0 ≤ n ∧ n ≤ 80) ∧ zup (zfill (zup (zup (zup σ 11 s 1) 12 s a) 13 s n) 65 (80 * s) 80 0) 0 11 0 = u1 ∧ n = (-1000001 : Int))))))))))))
  refine ⟨_, am_X8_isSheet, ?_⟩
  intro v1 u1 hv1
  rintro ⟨rfl, (⟨rfl, cv1⟩ | ⟨rfl, cv1⟩)⟩
  · refine ⟨?_, ?_⟩
    · exact fun h => absurd h (by decide)
    · intro _
      refine ⟨?_, ?_⟩
      · intro h2
        first | exact (Or.inl ⟨by omega, rfl, rfl⟩) | exact (Or.inr (Or.inl ⟨by omega, rfl, rfl⟩)) | exact (Or.inr (Or.inr ⟨by omega, rfl, rfl⟩))
      · intro h3
        refine ⟨?_, ?_⟩
        · intro h4
          first | exact (Or.inl ⟨by omega, rfl, rfl⟩) | exact (Or.inr (Or.inl ⟨by omega, rfl, rfl⟩)) | exact (Or.inr (Or.inr ⟨by omega, rfl, rfl⟩))
        · intro h5
          refine ⟨?_, ?_⟩
          · intro h6
            refine ⟨?_, ?_⟩
            · intro h7
              refine ⟨_, am_X5_lay (by omega), ?_⟩
              intro u2
              rintro rfl
              refine ⟨_, am_X8_fine, ?_⟩
              intro v3 u3 hv3
              rintro ⟨rfl, rfl⟩
              obtain ⟨hv3a, hv3b⟩ := hv3
              first | exact (Or.inl ⟨by omega, rfl, rfl⟩) | exact (Or.inr (Or.inl ⟨by omega, rfl, rfl⟩)) | exact (Or.inr (Or.inr ⟨by omega, rfl, rfl⟩))
            · intro h8
              refine ⟨_, am_X8_found (by omega), ?_⟩
              intro v4 u4 hv4
              rintro ⟨rfl, rfl⟩
              obtain ⟨hv4a, hv4b⟩ := hv4
              first | exact (Or.inl ⟨by omega, rfl, rfl⟩) | exact (Or.inr (Or.inl ⟨by omega, rfl, rfl⟩)) | exact (Or.inr (Or.inr ⟨by omega, rfl, rfl⟩))
          · intro h9
            first | exact (Or.inl ⟨by omega, rfl, rfl⟩) | exact (Or.inr (Or.inl ⟨by omega, rfl, rfl⟩)) | exact (Or.inr (Or.inr ⟨by omega, rfl, rfl⟩))
  · refine ⟨?_, ?_⟩
    · intro _
      first | exact (Or.inl ⟨by omega, rfl, rfl⟩) | exact (Or.inr (Or.inl ⟨by omega, rfl, rfl⟩)) | exact (Or.inr (Or.inr ⟨by omega, rfl, rfl⟩))
    · exact fun h => absurd h (by decide)
set_option maxRecDepth 100000 in
set_option maxHeartbeats 4000000 in
theorem am_X8_set {σ : zS} {s : Int} {i : Int} {x : Int} (hcs : zCS σ) : zAM 51 [.inr (.inr (0, 0)), .inl s, .inl i, .inl x] σ (fun (v : Int) (u : zS) => ((¬ (0 ≤ s ∧ s < 8)) ∧ σ = u ∧ -1000001 = v) ∨ ((0 ≤ s ∧ s < 8 ∧ σ 11 s = 0) ∧ zup σ 0 11 1 = u ∧ -1000011 = v) ∨ ((0 ≤ s ∧ s < 8 ∧ σ 11 s = 1 ∧ ¬ (0 ≤ i ∧ i < σ 13 s)) ∧ zup σ 0 11 2 = u ∧ -1000012 = v) ∨ ((0 ≤ s ∧ s < 8 ∧ σ 11 s = 1 ∧ 0 ≤ i ∧ i < σ 13 s) ∧ zup (zup σ 65 (80 * s + i) (zlane (σ 12 s) x)) 0 11 0 = u ∧ zlane (σ 12 s) x = v)) := by
  refine zam (by decide) (Nat.le_of_ble_eq_true rfl) ?_
  refine zwalk zmk_51 [] 5 ?_
  show (∃ Rc : Int → zS → Prop, zAM 78 [.inl s] σ Rc ∧ ∀ (v1 : Int) (u1 : zS), zI v1 → Rc v1 u1 → ((¬ v1 = 0 → ((0 ≤ s ∧ s < (8 : Int)) ∧ ((¬ (u1 11 s) = 0 → (∃ Rc : Int → zS → Prop, zAM 40 [.inr (.inr (1, 0)), .inl s, .inl i, .inl (1 : Int)] u1 Rc ∧ ∀ (v2 : Int) (u2 : zS), zI v2 → Rc v2 u2 → ((¬ v2 = 0 → (∃ Rc : Int → zS → Prop, zAM 41 [.inr (.inr (1, 0)), .inl s, .inl i, .inl x] u2 Rc ∧ ∀ (v3 : Int) (u3 : zS), zI v3 → Rc v3 u3 → (∃ Rc : Int → zS → Prop, zAM 77 [.inr (.inr (0, 0)), .inl v3] u3 Rc ∧ ∀ (v4 : Int) (u4 : zS), zI v4 → Rc v4 u4 → (((¬ (0 ≤ s ∧ s < 8)) ∧ σ = u4 ∧ -1000001 = v4) ∨ ((0 ≤ s ∧ s < 8 ∧ σ 11 s = 0) ∧ zup σ 0 11 1 = u4 ∧ -1000011 = v4) ∨ ((0 ≤ s ∧ s < 8 ∧ σ 11 s = 1 ∧ ¬ (0 ≤ i ∧ i < σ 13 s)) ∧ zup σ 0 11 2 = u4 ∧ -1000012 = v4) ∨ ((0 ≤ s ∧ s < 8 ∧ σ 11 s = 1 ∧ 0 ≤ i ∧ i < σ 13 s) ∧ zup (zup σ 65 (80 * s + i) (zlane (σ 12 s) x)) 0 11 0 = u4 ∧ zlane (σ 12 s) x = v4))))) ∧ (v2 = 0 → (∃ Rc : Int → zS → Prop, zAM 76 [.inr (.inr (0, 0)), .inl (2 : Int)] u2 Rc ∧ ∀ (v5 : Int) (u5 : zS), zI v5 → Rc v5 u5 → (((¬ (0 ≤ s ∧ s < 8)) ∧ σ = u5 ∧ -1000001 = v5) ∨ ((0 ≤ s ∧ s < 8 ∧ σ 11 s = 0) ∧ zup σ 0 11 1 = u5 ∧ -1000011 = v5) ∨ ((0 ≤ s ∧ s < 8 ∧ σ 11 s = 1 ∧ ¬ (0 ≤ i ∧ i < σ 13 s)) ∧ zup σ 0 11 2 = u5 ∧ -1000012 = v5) ∨ ((0 ≤ s ∧ s < 8 ∧ σ 11 s = 1 ∧ 0 ≤ i ∧ i < σ 13 s) ∧ zup (zup σ 65 (80 * s + i) (zlane (σ 12 s) x)) 0 11 0 = u5 ∧ zlane (σ 12 s) x = v5))))))) ∧ ((u1 11 s) = 0 → (∃ Rc : Int → zS → Prop, zAM 76 [.inr (.inr (0, 0)), .inl (1 : Int)] u1 Rc ∧ ∀ (v6 : Int) (u6 : zS), zI v6 → Rc v6 u6 → (((¬ (0 ≤ s ∧ s < 8)) ∧ σ = u6 ∧ -1000001 = v6) ∨ ((0 ≤ s ∧ s < 8 ∧ σ 11 s = 0) ∧ zup σ 0 11 1 = u6 ∧ -1000011 = v6) ∨ ((0 ≤ s ∧ s < 8 ∧ σ 11 s = 1 ∧ ¬ (0 ≤ i ∧ i < σ 13 s)) ∧ zup σ 0 11 2 = u6 ∧ -1000012 = v6) ∨ ((0 ≤ s ∧ s < 8 ∧ σ 11 s = 1 ∧ 0 ≤ i ∧ i < σ 13 s) ∧ zup (zup σ 65 (80 * s + i) (zlane (σ 12 s) x)) 0 11 0 = u6 ∧ zlane (σ 12 s) x = v6))))))) ∧ (v1 = 0 → (((¬ (0 ≤ s ∧ s < 8)) ∧ σ = u1 ∧ -1000001 = (-1000001 : Int)) ∨ ((0 ≤ s ∧ s < 8 ∧ σ 11 s = 0) ∧ zup σ 0 11 1 = u1 ∧ -1000011 = (-1000001 : Int)) ∨ ((0 ≤ s ∧ s < 8 ∧ σ 11 s = 1 ∧ ¬ (0 ≤ i ∧ i < σ 13 s)) ∧ zup σ 0 11 2 = u1 ∧ -1000012 = (-1000001 : Int)) ∨ ((0 ≤ s ∧ s < 8 ∧ σ 11 s = 1 ∧ 0 ≤ i ∧ i < σ 13 s) ∧ zup (zup σ 65 (80 * s + i) (zlane (σ 12 s) x)) 0 11 0 = u1 ∧ zlane (σ 12 s) x = (-1000001 : Int))))))
  have c0 := hcs s
  refine ⟨_, am_X8_isSheet, ?_⟩
  intro v1 u1 hv1
  rintro ⟨rfl, (⟨rfl, cv1⟩ | ⟨rfl, cv1⟩)⟩
  · refine ⟨?_, ?_⟩
    · intro _
      refine ⟨by (first | omega | exact ⟨by omega, by omega⟩ | exact ⟨by omega, by omega, by omega⟩ | exact ⟨by omega, by omega, by omega, by omega, by omega⟩), ?_⟩
      refine ⟨?_, ?_⟩
      · intro h2
        refine ⟨_, am_X5_reaches (by omega), ?_⟩
        intro v2 u2 hv2
        rintro ⟨rfl, (⟨rfl, cv2⟩ | ⟨rfl, cv2⟩)⟩
        · refine ⟨?_, ?_⟩
          · intro _
            refine ⟨_, am_X5_put (by omega) (by omega), ?_⟩
            intro v3 u3 hv3
            rintro ⟨rfl, rfl⟩
            obtain ⟨hv3a, hv3b⟩ := hv3
            refine ⟨_, am_X8_fine, ?_⟩
            intro v4 u4 hv4
            rintro ⟨rfl, rfl⟩
            obtain ⟨hv4a, hv4b⟩ := hv4
            first | exact (Or.inl ⟨by omega, rfl, rfl⟩) | exact (Or.inr (Or.inl ⟨by omega, rfl, rfl⟩)) | exact (Or.inr (Or.inr (Or.inl ⟨by omega, rfl, rfl⟩))) | exact (Or.inr (Or.inr (Or.inr ⟨by omega, rfl, rfl⟩)))
          · exact fun h => absurd h (by decide)
        · refine ⟨?_, ?_⟩
          · exact fun h => absurd h (by decide)
          · intro _
            refine ⟨_, am_X8_found (by omega), ?_⟩
            intro v5 u5 hv5
            rintro ⟨rfl, rfl⟩
            obtain ⟨hv5a, hv5b⟩ := hv5
            first | exact (Or.inl ⟨by omega, rfl, rfl⟩) | exact (Or.inr (Or.inl ⟨by omega, rfl, rfl⟩)) | exact (Or.inr (Or.inr (Or.inl ⟨by omega, rfl, rfl⟩))) | exact (Or.inr (Or.inr (Or.inr ⟨by omega, rfl, rfl⟩)))
      · intro h5
        refine ⟨_, am_X8_found (by omega), ?_⟩
        intro v6 u6 hv6
        rintro ⟨rfl, rfl⟩
        obtain ⟨hv6a, hv6b⟩ := hv6
        first | exact (Or.inl ⟨by omega, rfl, rfl⟩) | exact (Or.inr (Or.inl ⟨by omega, rfl, rfl⟩)) | exact (Or.inr (Or.inr (Or.inl ⟨by omega, rfl, rfl⟩))) | exact (Or.inr (Or.inr (Or.inr ⟨by omega, rfl, rfl⟩)))
    · exact fun h => absurd h (by decide)
  · refine ⟨?_, ?_⟩
    · exact fun h => absurd h (by decide)
    · intro _
      first | exact (Or.inl ⟨by omega, rfl, rfl⟩) | exact (Or.inr (Or.inl ⟨by omega, rfl, rfl⟩)) | exact (Or.inr (Or.inr (Or.inl ⟨by omega, rfl, rfl⟩))) | exact (Or.inr (Or.inr (Or.inr ⟨by omega, rfl, rfl⟩)))
set_option maxRecDepth 100000 in
set_option maxHeartbeats 4000000 in
theorem am_X8_drop {σ : zS} {s : Int} (hcs : zCS σ) : zAM 53 [.inr (.inr (0, 0)), .inl s] σ (fun (v : Int) (u : zS) => ((¬ (0 ≤ s ∧ s < 8)) ∧ σ = u ∧ -1000001 = v) ∨ ((0 ≤ s ∧ s < 8 ∧ σ 11 s = 0) ∧ zup σ 0 11 1 = u ∧ -1000011 = v) ∨ ((0 ≤ s ∧ s < 8 ∧ σ 11 s = 1) ∧ zup (zup σ 11 s 0) 0 11 0 = u ∧ σ 13 s = v)) := by
  refine zam (by decide) (Nat.le_of_ble_eq_true rfl) ?_
  refine zwalk zmk_53 [] 4 ?_
  show (∃ Rc : Int → zS → Prop, zAM 78 [.inl s] σ Rc ∧ ∀ (v1 : Int) (u1 : zS), zI v1 → Rc v1 u1 → ((¬ v1 = 0 → ((0 ≤ s ∧ s < (8 : Int)) ∧ ((¬ (u1 11 s) = 0 → ((((0 : Int) = 0 ∨ (0 : Int) = 1) ∧ 0 ≤ s ∧ s < (8 : Int)) ∧ ((0 ≤ s ∧ s < (8 : Int)) ∧ (∃ Rc : Int → zS → Prop, zAM 77 [.inr (.inr (0, 0)), .inl (u1 13 s)] (zup u1 11 s (0 : Int)) Rc ∧ ∀ (v2 : Int) (u2 : zS), zI v2 → Rc v2 u2 → (((¬ (0 ≤ s ∧ s < 8)) ∧ σ = u2 ∧ -1000001 = v2) ∨ ((0 ≤ s ∧ s < 8 ∧ σ 11 s = 0) ∧ zup σ 0 11 1 = u2 ∧ -1000011 = v2) ∨ ((0 ≤ s ∧ s < 8 ∧ σ 11 s = 1) ∧ zup (zup σ 11 s 0) 0 11 0 = u2 ∧ σ 13 s = v2)))))) ∧ ((u1 11 s) = 0 → (∃ Rc : Int → zS → Prop, zAM 76 [.inr (.inr (0, 0)), .inl (1 : Int)] u1 Rc ∧ ∀ (v3 : Int) (u3 : zS), zI v3 → Rc v3 u3 → (((¬ (0 ≤ s ∧ s < 8)) ∧ σ = u3 ∧ -1000001 = v3) ∨ ((0 ≤ s ∧ s < 8 ∧ σ 11 s = 0) ∧ zup σ 0 11 1 = u3 ∧ -1000011 = v3) ∨ ((0 ≤ s ∧ s < 8 ∧ σ 11 s = 1) ∧ zup (zup σ 11 s 0) 0 11 0 = u3 ∧ σ 13 s = v3))))))) ∧ (v1 = 0 → (((¬ (0 ≤ s ∧ s < 8)) ∧ σ = u1 ∧ -1000001 = (-1000001 : Int)) ∨ ((0 ≤ s ∧ s < 8 ∧ σ 11 s = 0) ∧ zup σ 0 11 1 = u1 ∧ -1000011 = (-1000001 : Int)) ∨ ((0 ≤ s ∧ s < 8 ∧ σ 11 s = 1) ∧ zup (zup σ 11 s 0) 0 11 0 = u1 ∧ σ 13 s = (-1000001 : Int))))))
  have c0 := hcs s
  refine ⟨_, am_X8_isSheet, ?_⟩
  intro v1 u1 hv1
  rintro ⟨rfl, (⟨rfl, cv1⟩ | ⟨rfl, cv1⟩)⟩
  · refine ⟨?_, ?_⟩
    · intro _
      refine ⟨by (first | omega | exact ⟨by omega, by omega⟩ | exact ⟨by omega, by omega, by omega⟩ | exact ⟨by omega, by omega, by omega, by omega, by omega⟩), ?_⟩
      refine ⟨?_, ?_⟩
      · intro h2
        refine ⟨by (first | omega | exact ⟨by omega, by omega⟩ | exact ⟨by omega, by omega, by omega⟩ | exact ⟨by omega, by omega, by omega, by omega, by omega⟩), ?_⟩
        refine ⟨by (first | omega | exact ⟨by omega, by omega⟩ | exact ⟨by omega, by omega, by omega⟩ | exact ⟨by omega, by omega, by omega, by omega, by omega⟩), ?_⟩
        refine ⟨_, am_X8_fine, ?_⟩
        intro v2 u2 hv2
        rintro ⟨rfl, rfl⟩
        obtain ⟨hv2a, hv2b⟩ := hv2
        first | exact (Or.inl ⟨by omega, rfl, rfl⟩) | exact (Or.inr (Or.inl ⟨by omega, rfl, rfl⟩)) | exact (Or.inr (Or.inr ⟨by omega, rfl, rfl⟩))
      · intro h3
        refine ⟨_, am_X8_found (by omega), ?_⟩
        intro v3 u3 hv3
        rintro ⟨rfl, rfl⟩
        obtain ⟨hv3a, hv3b⟩ := hv3
        first | exact (Or.inl ⟨by omega, rfl, rfl⟩) | exact (Or.inr (Or.inl ⟨by omega, rfl, rfl⟩)) | exact (Or.inr (Or.inr ⟨by omega, rfl, rfl⟩))
    · exact fun h => absurd h (by decide)
  · refine ⟨?_, ?_⟩
    · exact fun h => absurd h (by decide)
    · intro _
      first | exact (Or.inl ⟨by omega, rfl, rfl⟩) | exact (Or.inr (Or.inl ⟨by omega, rfl, rfl⟩)) | exact (Or.inr (Or.inr ⟨by omega, rfl, rfl⟩))
set_option maxRecDepth 100000 in
set_option maxHeartbeats 4000000 in
theorem am_X8_copy {σ : zS} {a : Int} {i : Int} {b : Int} {j : Int} {n : Int} (hcs : zCS σ) : zAM 52 [.inr (.inr (0, 0)), .inl a, .inl i, .inl b, .inl j, .inl n] σ (fun (v : Int) (u : zS) => ((¬ ((0 ≤ a ∧ a < 8) ∧ 0 ≤ b ∧ b < 8)) ∧ σ = u ∧ -1000001 = v) ∨ (((0 ≤ a ∧ a < 8) ∧ 0 ≤ b ∧ b < 8 ∧ (σ 11 a = 0 ∨ σ 11 b = 0)) ∧ zup σ 0 11 1 = u ∧ -1000011 = v) ∨ (((0 ≤ a ∧ a < 8) ∧ 0 ≤ b ∧ b < 8 ∧ σ 11 a = 1 ∧ σ 11 b = 1 ∧ ¬ σ 12 a = σ 12 b) ∧ zup σ 0 11 5 = u ∧ -1000015 = v) ∨ (((0 ≤ a ∧ a < 8) ∧ 0 ≤ b ∧ b < 8 ∧ σ 11 a = 1 ∧ σ 11 b = 1 ∧ σ 12 a = σ 12 b ∧ ¬ (0 ≤ i ∧ 0 ≤ j ∧ 0 ≤ n ∧ i + n ≤ σ 13 a ∧ j + n ≤ σ 13 b)) ∧ zup σ 0 11 2 = u ∧ -1000012 = v) ∨ (((0 ≤ a ∧ a < 8) ∧ 0 ≤ b ∧ b < 8 ∧ σ 11 a = 1 ∧ σ 11 b = 1 ∧ σ 12 a = σ 12 b ∧ 0 ≤ i ∧ 0 ≤ j ∧ 0 ≤ n ∧ i + n ≤ σ 13 a ∧ j + n ≤ σ 13 b) ∧ zup (zcp σ 65 (80 * a + i) 65 (80 * b + j) n) 0 11 0 = u ∧ n = v)) := by
  refine zam (by decide) (Nat.le_of_ble_eq_true rfl) ?_
  refine zwalk zmk_52 [] 6 ?_
  show (∃ Rc : Int → zS → Prop, zAM 78 [.inl a] σ Rc ∧ ∀ (v1 : Int) (u1 : zS), zI v1 → Rc v1 u1 → ((v1 = 0 → (((¬ ((0 ≤ a ∧ a < 8) ∧ 0 ≤ b ∧ b < 8)) ∧ σ = u1 ∧ -1000001 = (-1000001 : Int)) ∨ (((0 ≤ a ∧ a < 8) ∧ 0 ≤ b ∧ b < 8 ∧ (σ 11 a = 0 ∨ σ 11 b = 0)) ∧ zup σ 0 11 1 = u1 ∧ -1000011 = (-1000001 : Int)) ∨ (((0 ≤ a ∧ a < 8) ∧ 0 ≤ b ∧ b < 8 ∧ σ 11 a = 1 ∧ σ 11 b = 1 ∧ ¬ σ 12 a = σ 12 b) ∧ zup σ 0 11 5 = u1 ∧ -1000015 = (-1000001 : Int)) ∨ (((0 ≤ a ∧ a < 8) ∧ 0 ≤ b ∧ b < 8 ∧ σ 11 a = 1 ∧ σ 11 b = 1 ∧ σ 12 a = σ 12 b ∧ ¬ (0 ≤ i ∧ 0 ≤ j ∧ 0 ≤ n ∧ i + n ≤ σ 13 a ∧ j + n ≤ σ 13 b)) ∧ zup σ 0 11 2 = u1 ∧ -1000012 = (-1000001 : Int)) ∨ (((0 ≤ a ∧ a < 8) ∧ 0 ≤ b ∧ b < 8 ∧ σ 11 a = 1 ∧ σ 11 b = 1 ∧ σ 12 a = σ 12 b ∧ 0 ≤ i ∧ 0 ≤ j ∧ 0 ≤ n ∧ i + n ≤ σ 13 a ∧ j + n ≤ σ 13 b) ∧ zup (zcp σ 65 (80 * a + i) 65 (80 * b + j) n) 0 11 0 = u1 ∧ n = (-1000001 : Int)))) ∧ (¬ v1 = 0 → (∃ Rc : Int → zS → Prop, zAM 78 [.inl b] u1 Rc ∧ ∀ (v2 : Int) (u2 : zS), zI v2 → Rc v2 u2 → ((¬ v2 = 0 → ((0 ≤ a ∧ a < (8 : Int)) ∧ (((u2 11 a) = 0 → (∃ Rc : Int → zS → Prop, zAM 76 [.inr (.inr (0, 0)), .inl (1 : Int)] u2 Rc ∧ ∀ (v3 : Int) (u3 : zS), zI v3 → Rc v3 u3 → (((¬ ((0 ≤ a ∧ a < 8) ∧ 0 ≤ b ∧ b < 8)) ∧ σ = u3 ∧ -1000001 = v3) ∨ (((0 ≤ a ∧ a < 8) ∧ 0 ≤ b ∧ b < 8 ∧ (σ 11 a = 0 ∨ σ 11 b = 0)) ∧ zup σ 0 11 1 = u3 ∧ -1000011 = v3) ∨ (((0 ≤ a ∧ a < 8) ∧ 0 ≤ b ∧ b < 8 ∧ σ 11 a = 1 ∧ σ 11 b = 1 ∧ ¬ σ 12 a = σ 12 b) ∧ zup σ 0 11 5 = u3 ∧ -1000015 = v3) ∨ (((0 ≤ a ∧ a < 8) ∧ 0 ≤ b ∧ b < 8 ∧ σ 11 a = 1 ∧ σ 11 b = 1 ∧ σ 12 a = σ 12 b ∧ ¬ (0 ≤ i ∧ 0 ≤ j ∧ 0 ≤ n ∧ i + n ≤ σ 13 a ∧ j + n ≤ σ 13 b)) ∧ zup σ 0 11 2 = u3 ∧ -1000012 = v3) ∨ (((0 ≤ a ∧ a < 8) ∧ 0 ≤ b ∧ b < 8 ∧ σ 11 a = 1 ∧ σ 11 b = 1 ∧ σ 12 a = σ 12 b ∧ 0 ≤ i ∧ 0 ≤ j ∧ 0 ≤ n ∧ i + n ≤ σ 13 a ∧ j + n ≤ σ 13 b) ∧ zup (zcp σ 65 (80 * a + i) 65 (80 * b + j) n) 0 11 0 = u3 ∧ n = v3)))) ∧ (¬ (u2 11 a) = 0 → ((0 ≤ b ∧ b < (8 : Int)) ∧ ((¬ (u2 11 b) = 0 → ((0 ≤ a ∧ a < (8 : Int)) ∧ ((0 ≤ b ∧ b < (8 : Int)) ∧ (((u2 12 a) = (u2 12 b) → (∃ Rc : Int → zS → Prop, zAM 40 [.inr (.inr (1, 0)), .inl a, .inl i, .inl n] u2 Rc ∧ ∀ (v4 : Int) (u4 : zS), zI v4 → Rc v4 u4 → ((v4 = 0 → (∃ Rc : Int → zS → Prop, zAM 76 [.inr (.inr (0, 0)), .inl (2 : Int)] u4 Rc ∧ ∀ (v5 : Int) (u5 : zS), zI v5 → Rc v5 u5 → (((¬ ((0 ≤ a ∧ a < 8) ∧ 0 ≤ b ∧ b < 8)) ∧ σ = u5 ∧ -1000001 = v5) ∨ (((0 ≤ a ∧ a < 8) ∧ 0 ≤ b ∧ b < 8 ∧ (σ 11 a = 0 ∨ σ 11 b = 0)) ∧ zup σ 0 11 1 = u5 ∧ -1000011 = v5) ∨ (((0 ≤ a ∧ a < 8) ∧ 0 ≤ b ∧ b < 8 ∧ σ 11 a = 1 ∧ σ 11 b = 1 ∧ ¬ σ 12 a = σ 12 b) ∧ zup σ 0 11 5 = u5 ∧ -1000015 = v5) ∨ (((0 ≤ a ∧ a < 8) ∧ 0 ≤ b ∧ b < 8 ∧ σ 11 a = 1 ∧ σ 11 b = 1 ∧ σ 12 a = σ 12 b ∧ ¬ (0 ≤ i ∧ 0 ≤ j ∧ 0 ≤ n ∧ i + n ≤ σ 13 a ∧ j + n ≤ σ 13 b)) ∧ zup σ 0 11 2 = u5 ∧ -1000012 = v5) ∨ (((0 ≤ a ∧ a < 8) ∧ 0 ≤ b ∧ b < 8 ∧ σ 11 a = 1 ∧ σ 11 b = 1 ∧ σ 12 a = σ 12 b ∧ 0 ≤ i ∧ 0 ≤ j ∧ 0 ≤ n ∧ i + n ≤ σ 13 a ∧ j + n ≤ σ 13 b) ∧ zup (zcp σ 65 (80 * a + i) 65 (80 * b + j) n) 0 11 0 = u5 ∧ n = v5)))) ∧ (¬ v4 = 0 → (∃ Rc : Int → zS → Prop, zAM 40 [.inr (.inr (1, 0)), .inl b, .inl j, .inl n] u4 Rc ∧ ∀ (v6 : Int) (u6 : zS), zI v6 → Rc v6 u6 → ((¬ v6 = 0 → ((0 ≤ a ∧ a < 8) ∧ ((0 ≤ b ∧ b < 8) ∧ ((0 ≤ i ∧ 0 ≤ j ∧ 0 ≤ n ∧ i + n ≤ 80 ∧ j + n ≤ 80) ∧ (∃ Rc : Int → zS → Prop, zAM 77 [.inr (.inr (0, 0)), .inl n] (zcp u6 65 ((80 * a) + i) 65 ((80 * b) + j) n) Rc ∧ ∀ (v7 : Int) (u7 : zS), zI v7 → Rc v7 u7 → (((¬ ((0 ≤ a ∧ a < 8) ∧ 0 ≤ b ∧ b < 8)) ∧ σ = u7 ∧ -1000001 = v7) ∨ (((0 ≤ a ∧ a < 8) ∧ 0 ≤ b ∧ b < 8 ∧ (σ 11 a = 0 ∨ σ 11 b = 0)) ∧ zup σ 0 11 1 = u7 ∧ -1000011 = v7) ∨ (((0 ≤ a ∧ a < 8) ∧ 0 ≤ b ∧ b < 8 ∧ σ 11 a = 1 ∧ σ 11 b = 1 ∧ ¬ σ 12 a = σ 12 b) ∧ zup σ 0 11 5 = u7 ∧ -1000015 = v7) ∨ (((0 ≤ a ∧ a < 8) ∧ 0 ≤ b ∧ b < 8 ∧ σ 11 a = 1 ∧ σ 11 b = 1 ∧ σ 12 a = σ 12 b ∧ ¬ (0 ≤ i ∧ 0 ≤ j ∧ 0 ≤ n ∧ i + n ≤ σ 13 a ∧ j + n ≤ σ 13 b)) ∧ zup σ 0 11 2 = u7 ∧ -1000012 = v7) ∨ (((0 ≤ a ∧ a < 8) ∧ 0 ≤ b ∧ b < 8 ∧ σ 11 a = 1 ∧ σ 11 b = 1 ∧ σ 12 a = σ 12 b ∧ 0 ≤ i ∧ 0 ≤ j ∧ 0 ≤ n ∧ i + n ≤ σ 13 a ∧ j + n ≤ σ 13 b) ∧ zup (zcp σ 65 (80 * a + i) 65 (80 * b + j) n) 0 11 0 = u7 ∧ n = v7))))))) ∧ (v6 = 0 → (∃ Rc : Int → zS → Prop, zAM 76 [.inr (.inr (0, 0)), .inl (2 : Int)] u6 Rc ∧ ∀ (v8 : Int) (u8 : zS), zI v8 → Rc v8 u8 → (((¬ ((0 ≤ a ∧ a < 8) ∧ 0 ≤ b ∧ b < 8)) ∧ σ = u8 ∧ -1000001 = v8) ∨ (((0 ≤ a ∧ a < 8) ∧ 0 ≤ b ∧ b < 8 ∧ (σ 11 a = 0 ∨ σ 11 b = 0)) ∧ zup σ 0 11 1 = u8 ∧ -1000011 = v8) ∨ (((0 ≤ a ∧ a < 8) ∧ 0 ≤ b ∧ b < 8 ∧ σ 11 a = 1 ∧ σ 11 b = 1 ∧ ¬ σ 12 a = σ 12 b) ∧ zup σ 0 11 5 = u8 ∧ -1000015 = v8) ∨ (((0 ≤ a ∧ a < 8) ∧ 0 ≤ b ∧ b < 8 ∧ σ 11 a = 1 ∧ σ 11 b = 1 ∧ σ 12 a = σ 12 b ∧ ¬ (0 ≤ i ∧ 0 ≤ j ∧ 0 ≤ n ∧ i + n ≤ σ 13 a ∧ j + n ≤ σ 13 b)) ∧ zup σ 0 11 2 = u8 ∧ -1000012 = v8) ∨ (((0 ≤ a ∧ a < 8) ∧ 0 ≤ b ∧ b < 8 ∧ σ 11 a = 1 ∧ σ 11 b = 1 ∧ σ 12 a = σ 12 b ∧ 0 ≤ i ∧ 0 ≤ j ∧ 0 ≤ n ∧ i + n ≤ σ 13 a ∧ j + n ≤ σ 13 b) ∧ zup (zcp σ 65 (80 * a + i) 65 (80 * b + j) n) 0 11 0 = u8 ∧ n = v8)))))))))) ∧ (¬ (u2 12 a) = (u2 12 b) → (∃ Rc : Int → zS → Prop, zAM 76 [.inr (.inr (0, 0)), .inl (5 : Int)] u2 Rc ∧ ∀ (v9 : Int) (u9 : zS), zI v9 → Rc v9 u9 → (((¬ ((0 ≤ a ∧ a < 8) ∧ 0 ≤ b ∧ b < 8)) ∧ σ = u9 ∧ -1000001 = v9) ∨ (((0 ≤ a ∧ a < 8) ∧ 0 ≤ b ∧ b < 8 ∧ (σ 11 a = 0 ∨ σ 11 b = 0)) ∧ zup σ 0 11 1 = u9 ∧ -1000011 = v9) ∨ (((0 ≤ a ∧ a < 8) ∧ 0 ≤ b ∧ b < 8 ∧ σ 11 a = 1 ∧ σ 11 b = 1 ∧ ¬ σ 12 a = σ 12 b) ∧ zup σ 0 11 5 = u9 ∧ -1000015 = v9) ∨ (((0 ≤ a ∧ a < 8) ∧ 0 ≤ b ∧ b < 8 ∧ σ 11 a = 1 ∧ σ 11 b = 1 ∧ σ 12 a = σ 12 b ∧ ¬ (0 ≤ i ∧ 0 ≤ j ∧ 0 ≤ n ∧ i + n ≤ σ 13 a ∧ j + n ≤ σ 13 b)) ∧ zup σ 0 11 2 = u9 ∧ -1000012 = v9) ∨ (((0 ≤ a ∧ a < 8) ∧ 0 ≤ b ∧ b < 8 ∧ σ 11 a = 1 ∧ σ 11 b = 1 ∧ σ 12 a = σ 12 b ∧ 0 ≤ i ∧ 0 ≤ j ∧ 0 ≤ n ∧ i + n ≤ σ 13 a ∧ j + n ≤ σ 13 b) ∧ zup (zcp σ 65 (80 * a + i) 65 (80 * b + j) n) 0 11 0 = u9 ∧ n = v9)))))))) ∧ ((u2 11 b) = 0 → (∃ Rc : Int → zS → Prop, zAM 76 [.inr (.inr (0, 0)), .inl (1 : Int)] u2 Rc ∧ ∀ (v10 : Int) (u10 : zS), zI v10 → Rc v10 u10 → (((¬ ((0 ≤ a ∧ a < 8) ∧ 0 ≤ b ∧ b < 8)) ∧ σ = u10 ∧ -1000001 = v10) ∨ (((0 ≤ a ∧ a < 8) ∧ 0 ≤ b ∧ b < 8 ∧ (σ 11 a = 0 ∨ σ 11 b = 0)) ∧ zup σ 0 11 1 = u10 ∧ -1000011 = v10) ∨ (((0 ≤ a ∧ a < 8) ∧ 0 ≤ b ∧ b < 8 ∧ σ 11 a = 1 ∧ σ 11 b = 1 ∧ ¬ σ 12 a = σ 12 b) ∧ zup σ 0 11 5 = u10 ∧ -1000015 = v10) ∨ (((0 ≤ a ∧ a < 8) ∧ 0 ≤ b ∧ b < 8 ∧ σ 11 a = 1 ∧ σ 11 b = 1 ∧ σ 12 a = σ 12 b ∧ ¬ (0 ≤ i ∧ 0 ≤ j ∧ 0 ≤ n ∧ i + n ≤ σ 13 a ∧ j + n ≤ σ 13 b)) ∧ zup σ 0 11 2 = u10 ∧ -1000012 = v10) ∨ (((0 ≤ a ∧ a < 8) ∧ 0 ≤ b ∧ b < 8 ∧ σ 11 a = 1 ∧ σ 11 b = 1 ∧ σ 12 a = σ 12 b ∧ 0 ≤ i ∧ 0 ≤ j ∧ 0 ≤ n ∧ i + n ≤ σ 13 a ∧ j + n ≤ σ 13 b) ∧ zup (zcp σ 65 (80 * a + i) 65 (80 * b + j) n) 0 11 0 = u10 ∧ n = v10)))))))))) ∧ (v2 = 0 → (((¬ ((0 ≤ a ∧ a < 8) ∧ 0 ≤ b ∧ b < 8)) ∧ σ = u2 ∧ -1000001 = (-1000001 : Int)) ∨ (((0 ≤ a ∧ a < 8) ∧ 0 ≤ b ∧ b < 8 ∧ (σ 11 a = 0 ∨ σ 11 b = 0)) ∧ zup σ 0 11 1 = u2 ∧ -1000011 = (-1000001 : Int)) ∨ (((0 ≤ a ∧ a < 8) ∧ 0 ≤ b ∧ b < 8 ∧ σ 11 a = 1 ∧ σ 11 b = 1 ∧ ¬ σ 12 a = σ 12 b) ∧ zup σ 0 11 5 = u2 ∧ -1000015 = (-1000001 : Int)) ∨ (((0 ≤ a ∧ a < 8) ∧ 0 ≤ b ∧ b < 8 ∧ σ 11 a = 1 ∧ σ 11 b = 1 ∧ σ 12 a = σ 12 b ∧ ¬ (0 ≤ i ∧ 0 ≤ j ∧ 0 ≤ n ∧ i + n ≤ σ 13 a ∧ j + n ≤ σ 13 b)) ∧ zup σ 0 11 2 = u2 ∧ -1000012 = (-1000001 : Int)) ∨ (((0 ≤ a ∧ a < 8) ∧ 0 ≤ b ∧ b < 8 ∧ σ 11 a = 1 ∧ σ 11 b = 1 ∧ σ 12 a = σ 12 b ∧ 0 ≤ i ∧ 0 ≤ j ∧ 0 ≤ n ∧ i + n ≤ σ 13 a ∧ j + n ≤ σ 13 b) ∧ zup (zcp σ 65 (80 * a + i) 65 (80 * b + j) n) 0 11 0 = u2 ∧ n = (-1000001 : Int)))))))))
  have c0 := hcs a
  have c1 := hcs b
  refine ⟨_, am_X8_isSheet, ?_⟩
  intro v1 u1 hv1
  rintro ⟨rfl, (⟨rfl, cv1⟩ | ⟨rfl, cv1⟩)⟩
  · refine ⟨?_, ?_⟩
    · exact fun h => absurd h (by decide)
    · intro _
      refine ⟨_, am_X8_isSheet, ?_⟩
      intro v2 u2 hv2
      rintro ⟨rfl, (⟨rfl, cv2⟩ | ⟨rfl, cv2⟩)⟩
      · refine ⟨?_, ?_⟩
        · intro _
          refine ⟨by (first | omega | exact ⟨by omega, by omega⟩ | exact ⟨by omega, by omega, by omega⟩ | exact ⟨by omega, by omega, by omega, by omega, by omega⟩), ?_⟩
          refine ⟨?_, ?_⟩
          · intro h3
            refine ⟨_, am_X8_found (by omega), ?_⟩
            intro v3 u3 hv3
            rintro ⟨rfl, rfl⟩
            obtain ⟨hv3a, hv3b⟩ := hv3
            first | exact (Or.inl ⟨by omega, rfl, rfl⟩) | exact (Or.inr (Or.inl ⟨by omega, rfl, rfl⟩)) | exact (Or.inr (Or.inr (Or.inl ⟨by omega, rfl, rfl⟩))) | exact (Or.inr (Or.inr (Or.inr (Or.inl ⟨by omega, rfl, rfl⟩)))) | exact (Or.inr (Or.inr (Or.inr (Or.inr ⟨by omega, rfl, rfl⟩))))
          · intro h4
            refine ⟨by (first | omega | exact ⟨by omega, by omega⟩ | exact ⟨by omega, by omega, by omega⟩ | exact ⟨by omega, by omega, by omega, by omega, by omega⟩), ?_⟩
            refine ⟨?_, ?_⟩
            · intro h5
              refine ⟨by (first | omega | exact ⟨by omega, by omega⟩ | exact ⟨by omega, by omega, by omega⟩ | exact ⟨by omega, by omega, by omega, by omega, by omega⟩), ?_⟩
              refine ⟨by (first | omega | exact ⟨by omega, by omega⟩ | exact ⟨by omega, by omega, by omega⟩ | exact ⟨by omega, by omega, by omega, by omega, by omega⟩), ?_⟩
              refine ⟨?_, ?_⟩
              · intro h6
                refine ⟨_, am_X5_reaches (by omega), ?_⟩
                intro v4 u4 hv4
                rintro ⟨rfl, (⟨rfl, cv4⟩ | ⟨rfl, cv4⟩)⟩
                · refine ⟨?_, ?_⟩
                  · exact fun h => absurd h (by decide)
                  · intro _
                    refine ⟨_, am_X5_reaches (by omega), ?_⟩
                    intro v6 u6 hv6
                    rintro ⟨rfl, (⟨rfl, cv6⟩ | ⟨rfl, cv6⟩)⟩
                    · refine ⟨?_, ?_⟩
                      · intro _
                        refine ⟨by (first | omega | exact ⟨by omega, by omega⟩ | exact ⟨by omega, by omega, by omega⟩ | exact ⟨by omega, by omega, by omega, by omega, by omega⟩), ?_⟩
                        refine ⟨by (first | omega | exact ⟨by omega, by omega⟩ | exact ⟨by omega, by omega, by omega⟩ | exact ⟨by omega, by omega, by omega, by omega, by omega⟩), ?_⟩
                        refine ⟨by (first | omega | exact ⟨by omega, by omega⟩ | exact ⟨by omega, by omega, by omega⟩ | exact ⟨by omega, by omega, by omega, by omega, by omega⟩), ?_⟩
                        refine ⟨_, am_X8_fine, ?_⟩
                        intro v7 u7 hv7
                        rintro ⟨rfl, rfl⟩
                        obtain ⟨hv7a, hv7b⟩ := hv7
                        first | exact (Or.inl ⟨by omega, rfl, rfl⟩) | exact (Or.inr (Or.inl ⟨by omega, rfl, rfl⟩)) | exact (Or.inr (Or.inr (Or.inl ⟨by omega, rfl, rfl⟩))) | exact (Or.inr (Or.inr (Or.inr (Or.inl ⟨by omega, rfl, rfl⟩)))) | exact (Or.inr (Or.inr (Or.inr (Or.inr ⟨by omega, rfl, rfl⟩))))
                      · exact fun h => absurd h (by decide)
                    · refine ⟨?_, ?_⟩
                      · exact fun h => absurd h (by decide)
                      · intro _
                        refine ⟨_, am_X8_found (by omega), ?_⟩
                        intro v8 u8 hv8
                        rintro ⟨rfl, rfl⟩
                        obtain ⟨hv8a, hv8b⟩ := hv8
                        first | exact (Or.inl ⟨by omega, rfl, rfl⟩) | exact (Or.inr (Or.inl ⟨by omega, rfl, rfl⟩)) | exact (Or.inr (Or.inr (Or.inl ⟨by omega, rfl, rfl⟩))) | exact (Or.inr (Or.inr (Or.inr (Or.inl ⟨by omega, rfl, rfl⟩)))) | exact (Or.inr (Or.inr (Or.inr (Or.inr ⟨by omega, rfl, rfl⟩))))
                · refine ⟨?_, ?_⟩
                  · intro _
                    refine ⟨_, am_X8_found (by omega), ?_⟩
                    intro v5 u5 hv5
                    rintro ⟨rfl, rfl⟩
                    obtain ⟨hv5a, hv5b⟩ := hv5
                    first | exact (Or.inl ⟨by omega, rfl, rfl⟩) | exact (Or.inr (Or.inl ⟨by omega, rfl, rfl⟩)) | exact (Or.inr (Or.inr (Or.inl ⟨by omega, rfl, rfl⟩))) | exact (Or.inr (Or.inr (Or.inr (Or.inl ⟨by omega, rfl, rfl⟩)))) | exact (Or.inr (Or.inr (Or.inr (Or.inr ⟨by omega, rfl, rfl⟩))))
                  · exact fun h => absurd h (by decide)
              · intro h11
                refine ⟨_, am_X8_found (by omega), ?_⟩
                intro v9 u9 hv9
                rintro ⟨rfl, rfl⟩
                obtain ⟨hv9a, hv9b⟩ := hv9
                first | exact (Or.inl ⟨by omega, rfl, rfl⟩) | exact (Or.inr (Or.inl ⟨by omega, rfl, rfl⟩)) | exact (Or.inr (Or.inr (Or.inl ⟨by omega, rfl, rfl⟩))) | exact (Or.inr (Or.inr (Or.inr (Or.inl ⟨by omega, rfl, rfl⟩)))) | exact (Or.inr (Or.inr (Or.inr (Or.inr ⟨by omega, rfl, rfl⟩))))
            · intro h12
              refine ⟨_, am_X8_found (by omega), ?_⟩
              intro v10 u10 hv10
              rintro ⟨rfl, rfl⟩
              obtain ⟨hv10a, hv10b⟩ := hv10
              first | exact (Or.inl ⟨by omega, rfl, rfl⟩) | exact (Or.inr (Or.inl ⟨by omega, rfl, rfl⟩)) | exact (Or.inr (Or.inr (Or.inl ⟨by omega, rfl, rfl⟩))) | exact (Or.inr (Or.inr (Or.inr (Or.inl ⟨by omega, rfl, rfl⟩)))) | exact (Or.inr (Or.inr (Or.inr (Or.inr ⟨by omega, rfl, rfl⟩))))
        · exact fun h => absurd h (by decide)
      · refine ⟨?_, ?_⟩
        · exact fun h => absurd h (by decide)
        · intro _
          first | exact (Or.inl ⟨by omega, rfl, rfl⟩) | exact (Or.inr (Or.inl ⟨by omega, rfl, rfl⟩)) | exact (Or.inr (Or.inr (Or.inl ⟨by omega, rfl, rfl⟩))) | exact (Or.inr (Or.inr (Or.inr (Or.inl ⟨by omega, rfl, rfl⟩)))) | exact (Or.inr (Or.inr (Or.inr (Or.inr ⟨by omega, rfl, rfl⟩))))
  · refine ⟨?_, ?_⟩
    · intro _
      first | exact (Or.inl ⟨by omega, rfl, rfl⟩) | exact (Or.inr (Or.inl ⟨by omega, rfl, rfl⟩)) | exact (Or.inr (Or.inr (Or.inl ⟨by omega, rfl, rfl⟩))) | exact (Or.inr (Or.inr (Or.inr (Or.inl ⟨by omega, rfl, rfl⟩)))) | exact (Or.inr (Or.inr (Or.inr (Or.inr ⟨by omega, rfl, rfl⟩))))
    · exact fun h => absurd h (by decide)
set_option maxRecDepth 100000 in
set_option maxHeartbeats 4000000 in
theorem am_X9_drop {σ : zS} {s : Int} (hms : zMS σ) : zAM 110 [.inr (.inr (9, 0)), .inl s] σ (fun (v : Int) (u : zS) => ((¬ (0 ≤ s ∧ s < 8)) ∧ σ = u ∧ -1000001 = v) ∨ ((0 ≤ s ∧ s < 8 ∧ σ 37 s = 0) ∧ zup σ 9 4 1 = u ∧ -1000011 = v) ∨ ((0 ≤ s ∧ s < 8 ∧ ¬ σ 37 s = 0) ∧ zup (zup σ 37 s 0) 9 4 0 = u ∧ σ 38 s = v)) := by
  refine zam (by decide) (Nat.le_of_ble_eq_true rfl) ?_
  refine zwalk zmk_110 [] 4 ?_
  show (∃ Rc : Int → zS → Prop, zAM 106 [.inl s] σ Rc ∧ ∀ (v1 : Int) (u1 : zS), zI v1 → Rc v1 u1 → ((¬ v1 = 0 → ((0 ≤ s ∧ s < (8 : Int)) ∧ ((¬ (u1 37 s) = 0 → ((0 ≤ s ∧ s < (8 : Int)) ∧ ((0 ≤ s ∧ s < (8 : Int)) ∧ (∃ Rc : Int → zS → Prop, zAM 105 [.inr (.inr (9, 0)), .inl (u1 38 s)] (zup u1 37 s (0 : Int)) Rc ∧ ∀ (v2 : Int) (u2 : zS), zI v2 → Rc v2 u2 → (((¬ (0 ≤ s ∧ s < 8)) ∧ σ = u2 ∧ -1000001 = v2) ∨ ((0 ≤ s ∧ s < 8 ∧ σ 37 s = 0) ∧ zup σ 9 4 1 = u2 ∧ -1000011 = v2) ∨ ((0 ≤ s ∧ s < 8 ∧ ¬ σ 37 s = 0) ∧ zup (zup σ 37 s 0) 9 4 0 = u2 ∧ σ 38 s = v2)))))) ∧ ((u1 37 s) = 0 → (∃ Rc : Int → zS → Prop, zAM 104 [.inr (.inr (9, 0)), .inl (1 : Int)] u1 Rc ∧ ∀ (v3 : Int) (u3 : zS), zI v3 → Rc v3 u3 → (((¬ (0 ≤ s ∧ s < 8)) ∧ σ = u3 ∧ -1000001 = v3) ∨ ((0 ≤ s ∧ s < 8 ∧ σ 37 s = 0) ∧ zup σ 9 4 1 = u3 ∧ -1000011 = v3) ∨ ((0 ≤ s ∧ s < 8 ∧ ¬ σ 37 s = 0) ∧ zup (zup σ 37 s 0) 9 4 0 = u3 ∧ σ 38 s = v3))))))) ∧ (v1 = 0 → (((¬ (0 ≤ s ∧ s < 8)) ∧ σ = u1 ∧ -1000001 = (-1000001 : Int)) ∨ ((0 ≤ s ∧ s < 8 ∧ σ 37 s = 0) ∧ zup σ 9 4 1 = u1 ∧ -1000011 = (-1000001 : Int)) ∨ ((0 ≤ s ∧ s < 8 ∧ ¬ σ 37 s = 0) ∧ zup (zup σ 37 s 0) 9 4 0 = u1 ∧ σ 38 s = (-1000001 : Int))))))
  have c0 := hms s
  refine ⟨_, am_X9_isSheet, ?_⟩
  intro v1 u1 hv1
  rintro ⟨rfl, (⟨rfl, cv1⟩ | ⟨rfl, cv1⟩)⟩
  · refine ⟨?_, ?_⟩
    · intro _
      refine ⟨by (first | omega | exact ⟨by omega, by omega⟩ | exact ⟨by omega, by omega, by omega⟩ | exact ⟨by omega, by omega, by omega, by omega, by omega⟩), ?_⟩
      refine ⟨?_, ?_⟩
      · intro h2
        refine ⟨by (first | omega | exact ⟨by omega, by omega⟩ | exact ⟨by omega, by omega, by omega⟩ | exact ⟨by omega, by omega, by omega, by omega, by omega⟩), ?_⟩
        refine ⟨by (first | omega | exact ⟨by omega, by omega⟩ | exact ⟨by omega, by omega, by omega⟩ | exact ⟨by omega, by omega, by omega, by omega, by omega⟩), ?_⟩
        refine ⟨_, am_X9_well, ?_⟩
        intro v2 u2 hv2
        rintro ⟨rfl, rfl⟩
        obtain ⟨hv2a, hv2b⟩ := hv2
        first | exact (Or.inl ⟨by omega, rfl, rfl⟩) | exact (Or.inr (Or.inl ⟨by omega, rfl, rfl⟩)) | exact (Or.inr (Or.inr ⟨by omega, rfl, rfl⟩))
      · intro h3
        refine ⟨_, am_X9_finds (by omega), ?_⟩
        intro v3 u3 hv3
        rintro ⟨rfl, rfl⟩
        obtain ⟨hv3a, hv3b⟩ := hv3
        first | exact (Or.inl ⟨by omega, rfl, rfl⟩) | exact (Or.inr (Or.inl ⟨by omega, rfl, rfl⟩)) | exact (Or.inr (Or.inr ⟨by omega, rfl, rfl⟩))
    · exact fun h => absurd h (by decide)
  · refine ⟨?_, ?_⟩
    · exact fun h => absurd h (by decide)
    · intro _
      first | exact (Or.inl ⟨by omega, rfl, rfl⟩) | exact (Or.inr (Or.inl ⟨by omega, rfl, rfl⟩)) | exact (Or.inr (Or.inr ⟨by omega, rfl, rfl⟩))
def zlanm (a x : Int) : Int := if a = 1 then zb8 x else if a = 2 then zs16 x else x
set_option maxRecDepth 100000 in
set_option maxHeartbeats 4000000 in
theorem am_X9_set {σ : zS} {s : Int} {i : Int} {x : Int} (hms : zMS σ) : zAM 108 [.inr (.inr (9, 0)), .inl s, .inl i, .inl x] σ (fun (v : Int) (u : zS) => ((¬ (0 ≤ s ∧ s < 8)) ∧ σ = u ∧ -1000001 = v) ∨ ((0 ≤ s ∧ s < 8 ∧ σ 37 s = 0) ∧ zup σ 9 4 1 = u ∧ -1000011 = v) ∨ ((0 ≤ s ∧ s < 8 ∧ ¬ σ 37 s = 0 ∧ ¬ (0 ≤ i ∧ i < σ 38 s)) ∧ zup σ 9 4 2 = u ∧ -1000012 = v) ∨ ((0 ≤ s ∧ s < 8 ∧ ¬ σ 37 s = 0 ∧ 0 ≤ i ∧ i < σ 38 s) ∧ zup (zup σ 39 (80 * s + i) (zlanm (σ 37 s) x)) 9 4 0 = u ∧ zlanm (σ 37 s) x = v)) := by
  refine zam (by decide) (Nat.le_of_ble_eq_true rfl) ?_
  refine zwalk zmk_108 [] 7 ?_
  show (∃ Rc : Int → zS → Prop, zAM 106 [.inl s] σ Rc ∧ ∀ (v1 : Int) (u1 : zS), zI v1 → Rc v1 u1 → ((¬ v1 = 0 → ((0 ≤ s ∧ s < (8 : Int)) ∧ ((¬ (u1 37 s) = 0 → ((0 ≤ s ∧ s < (8 : Int)) ∧ (zI ((u1 38 s) - (1 : Int)) ∧ (∃ Rc : Int → zS → Prop, zAM 103 [.inr (.inl i), .inr (.inl (0 : Int)), .inr (.inl ((u1 38 s) - (1 : Int)))] u1 Rc ∧ ∀ (v2 : Int) (u2 : zS), zI v2 → Rc v2 u2 → ((¬ v2 = 0 → ((0 ≤ s ∧ s < (8 : Int)) ∧ ((¬ (u2 37 s) = (1 : Int) → ((0 ≤ s ∧ s < (8 : Int)) ∧ ((¬ (u2 37 s) = (2 : Int) → (zI ((80 : Int) * s) ∧ (zI (((80 : Int) * s) + i) ∧ ((0 ≤ (((80 : Int) * s) + i) ∧ (((80 : Int) * s) + i) < (640 : Int)) ∧ (∃ Rc : Int → zS → Prop, zAM 105 [.inr (.inr (9, 0)), .inl x] (zup u2 39 (((80 : Int) * s) + i) x) Rc ∧ ∀ (v3 : Int) (u3 : zS), zI v3 → Rc v3 u3 → (((¬ (0 ≤ s ∧ s < 8)) ∧ σ = u3 ∧ -1000001 = v3) ∨ ((0 ≤ s ∧ s < 8 ∧ σ 37 s = 0) ∧ zup σ 9 4 1 = u3 ∧ -1000011 = v3) ∨ ((0 ≤ s ∧ s < 8 ∧ ¬ σ 37 s = 0 ∧ ¬ (0 ≤ i ∧ i < σ 38 s)) ∧ zup σ 9 4 2 = u3 ∧ -1000012 = v3) ∨ ((0 ≤ s ∧ s < 8 ∧ ¬ σ 37 s = 0 ∧ 0 ≤ i ∧ i < σ 38 s) ∧ zup (zup σ 39 (80 * s + i) (zlanm (σ 37 s) x)) 9 4 0 = u3 ∧ zlanm (σ 37 s) x = v3))))))) ∧ ((u2 37 s) = (2 : Int) → (zI ((80 : Int) * s) ∧ (zI (((80 : Int) * s) + i) ∧ ((0 ≤ (((80 : Int) * s) + i) ∧ (((80 : Int) * s) + i) < (640 : Int)) ∧ (∃ Rc : Int → zS → Prop, zAM 105 [.inr (.inr (9, 0)), .inl (Int32.ofInt x).toInt16.toInt32.toInt] (zup u2 39 (((80 : Int) * s) + i) (Int32.ofInt x).toInt16.toInt32.toInt) Rc ∧ ∀ (v4 : Int) (u4 : zS), zI v4 → Rc v4 u4 → (((¬ (0 ≤ s ∧ s < 8)) ∧ σ = u4 ∧ -1000001 = v4) ∨ ((0 ≤ s ∧ s < 8 ∧ σ 37 s = 0) ∧ zup σ 9 4 1 = u4 ∧ -1000011 = v4) ∨ ((0 ≤ s ∧ s < 8 ∧ ¬ σ 37 s = 0 ∧ ¬ (0 ≤ i ∧ i < σ 38 s)) ∧ zup σ 9 4 2 = u4 ∧ -1000012 = v4) ∨ ((0 ≤ s ∧ s < 8 ∧ ¬ σ 37 s = 0 ∧ 0 ≤ i ∧ i < σ 38 s) ∧ zup (zup σ 39 (80 * s + i) (zlanm (σ 37 s) x)) 9 4 0 = u4 ∧ zlanm (σ 37 s) x = v4)))))))))) ∧ ((u2 37 s) = (1 : Int) → (zI ((80 : Int) * s) ∧ (zI (((80 : Int) * s) + i) ∧ ((0 ≤ (((80 : Int) * s) + i) ∧ (((80 : Int) * s) + i) < (640 : Int)) ∧ (∃ Rc : Int → zS → Prop, zAM 105 [.inr (.inr (9, 0)), .inl (Int32.ofInt x).toInt8.toInt32.toInt] (zup u2 39 (((80 : Int) * s) + i) (Int32.ofInt x).toInt8.toInt32.toInt) Rc ∧ ∀ (v5 : Int) (u5 : zS), zI v5 → Rc v5 u5 → (((¬ (0 ≤ s ∧ s < 8)) ∧ σ = u5 ∧ -1000001 = v5) ∨ ((0 ≤ s ∧ s < 8 ∧ σ 37 s = 0) ∧ zup σ 9 4 1 = u5 ∧ -1000011 = v5) ∨ ((0 ≤ s ∧ s < 8 ∧ ¬ σ 37 s = 0 ∧ ¬ (0 ≤ i ∧ i < σ 38 s)) ∧ zup σ 9 4 2 = u5 ∧ -1000012 = v5) ∨ ((0 ≤ s ∧ s < 8 ∧ ¬ σ 37 s = 0 ∧ 0 ≤ i ∧ i < σ 38 s) ∧ zup (zup σ 39 (80 * s + i) (zlanm (σ 37 s) x)) 9 4 0 = u5 ∧ zlanm (σ 37 s) x = v5)))))))))) ∧ (v2 = 0 → (∃ Rc : Int → zS → Prop, zAM 104 [.inr (.inr (9, 0)), .inl (2 : Int)] u2 Rc ∧ ∀ (v6 : Int) (u6 : zS), zI v6 → Rc v6 u6 → (((¬ (0 ≤ s ∧ s < 8)) ∧ σ = u6 ∧ -1000001 = v6) ∨ ((0 ≤ s ∧ s < 8 ∧ σ 37 s = 0) ∧ zup σ 9 4 1 = u6 ∧ -1000011 = v6) ∨ ((0 ≤ s ∧ s < 8 ∧ ¬ σ 37 s = 0 ∧ ¬ (0 ≤ i ∧ i < σ 38 s)) ∧ zup σ 9 4 2 = u6 ∧ -1000012 = v6) ∨ ((0 ≤ s ∧ s < 8 ∧ ¬ σ 37 s = 0 ∧ 0 ≤ i ∧ i < σ 38 s) ∧ zup (zup σ 39 (80 * s + i) (zlanm (σ 37 s) x)) 9 4 0 = u6 ∧ zlanm (σ 37 s) x = v6))))))))) ∧ ((u1 37 s) = 0 → (∃ Rc : Int → zS → Prop, zAM 104 [.inr (.inr (9, 0)), .inl (1 : Int)] u1 Rc ∧ ∀ (v7 : Int) (u7 : zS), zI v7 → Rc v7 u7 → (((¬ (0 ≤ s ∧ s < 8)) ∧ σ = u7 ∧ -1000001 = v7) ∨ ((0 ≤ s ∧ s < 8 ∧ σ 37 s = 0) ∧ zup σ 9 4 1 = u7 ∧ -1000011 = v7) ∨ ((0 ≤ s ∧ s < 8 ∧ ¬ σ 37 s = 0 ∧ ¬ (0 ≤ i ∧ i < σ 38 s)) ∧ zup σ 9 4 2 = u7 ∧ -1000012 = v7) ∨ ((0 ≤ s ∧ s < 8 ∧ ¬ σ 37 s = 0 ∧ 0 ≤ i ∧ i < σ 38 s) ∧ zup (zup σ 39 (80 * s + i) (zlanm (σ 37 s) x)) 9 4 0 = u7 ∧ zlanm (σ 37 s) x = v7))))))) ∧ (v1 = 0 → (((¬ (0 ≤ s ∧ s < 8)) ∧ σ = u1 ∧ -1000001 = (-1000001 : Int)) ∨ ((0 ≤ s ∧ s < 8 ∧ σ 37 s = 0) ∧ zup σ 9 4 1 = u1 ∧ -1000011 = (-1000001 : Int)) ∨ ((0 ≤ s ∧ s < 8 ∧ ¬ σ 37 s = 0 ∧ ¬ (0 ≤ i ∧ i < σ 38 s)) ∧ zup σ 9 4 2 = u1 ∧ -1000012 = (-1000001 : Int)) ∨ ((0 ≤ s ∧ s < 8 ∧ ¬ σ 37 s = 0 ∧ 0 ≤ i ∧ i < σ 38 s) ∧ zup (zup σ 39 (80 * s + i) (zlanm (σ 37 s) x)) 9 4 0 = u1 ∧ zlanm (σ 37 s) x = (-1000001 : Int))))))
  have c0 := hms s
  refine ⟨_, am_X9_isSheet, ?_⟩
  intro v1 u1 hv1
  rintro ⟨rfl, (⟨rfl, cv1⟩ | ⟨rfl, cv1⟩)⟩
  · refine ⟨?_, ?_⟩
    · intro _
      refine ⟨by (first | omega | exact ⟨by omega, by omega⟩ | exact ⟨by omega, by omega, by omega⟩ | exact ⟨by omega, by omega, by omega, by omega, by omega⟩), ?_⟩
      refine ⟨?_, ?_⟩
      · intro h2
        refine ⟨by (first | omega | exact ⟨by omega, by omega⟩ | exact ⟨by omega, by omega, by omega⟩ | exact ⟨by omega, by omega, by omega, by omega, by omega⟩), ?_⟩
        refine ⟨by (exact ⟨by omega, by omega⟩), ?_⟩
        refine ⟨_, am_X9_in, ?_⟩
        intro v2 u2 hv2
        rintro ⟨rfl, (⟨rfl, cv2⟩ | ⟨rfl, cv2⟩)⟩
        · refine ⟨?_, ?_⟩
          · intro _
            refine ⟨by (first | omega | exact ⟨by omega, by omega⟩ | exact ⟨by omega, by omega, by omega⟩ | exact ⟨by omega, by omega, by omega, by omega, by omega⟩), ?_⟩
            refine ⟨?_, ?_⟩
            · intro h4
              refine ⟨by (first | omega | exact ⟨by omega, by omega⟩ | exact ⟨by omega, by omega, by omega⟩ | exact ⟨by omega, by omega, by omega, by omega, by omega⟩), ?_⟩
              refine ⟨?_, ?_⟩
              · intro h5
                refine ⟨by (exact ⟨by omega, by omega⟩), ?_⟩
                refine ⟨by (exact ⟨by omega, by omega⟩), ?_⟩
                refine ⟨by (first | omega | exact ⟨by omega, by omega⟩ | exact ⟨by omega, by omega, by omega⟩ | exact ⟨by omega, by omega, by omega, by omega, by omega⟩), ?_⟩
                refine ⟨_, am_X9_well, ?_⟩
                intro v3 u3 hv3
                rintro ⟨rfl, rfl⟩
                obtain ⟨hv3a, hv3b⟩ := hv3
                first | exact Or.inl ⟨by omega, rfl, rfl⟩ | exact Or.inr (Or.inl ⟨by omega, rfl, rfl⟩) | exact Or.inr (Or.inr (Or.inl ⟨by omega, rfl, rfl⟩)) | exact Or.inr (Or.inr (Or.inr ⟨by omega, by (unfold zlanm; first | (rw [if_pos (by assumption)] <;> rfl) | (rw [if_neg (by assumption), if_pos (by assumption)] <;> rfl) | (rw [if_neg (by assumption), if_neg (by assumption)] <;> rfl)), by (unfold zlanm; first | (rw [if_pos (by assumption)] <;> rfl) | (rw [if_neg (by assumption), if_pos (by assumption)] <;> rfl) | (rw [if_neg (by assumption), if_neg (by assumption)] <;> rfl))⟩))
              · intro h6
                refine ⟨by (exact ⟨by omega, by omega⟩), ?_⟩
                refine ⟨by (exact ⟨by omega, by omega⟩), ?_⟩
                refine ⟨by (first | omega | exact ⟨by omega, by omega⟩ | exact ⟨by omega, by omega, by omega⟩ | exact ⟨by omega, by omega, by omega, by omega, by omega⟩), ?_⟩
                refine ⟨_, am_X9_well, ?_⟩
                intro v4 u4 hv4
                rintro ⟨rfl, rfl⟩
                obtain ⟨hv4a, hv4b⟩ := hv4
                first | exact Or.inl ⟨by omega, rfl, rfl⟩ | exact Or.inr (Or.inl ⟨by omega, rfl, rfl⟩) | exact Or.inr (Or.inr (Or.inl ⟨by omega, rfl, rfl⟩)) | exact Or.inr (Or.inr (Or.inr ⟨by omega, by (unfold zlanm; first | (rw [if_pos (by assumption)] <;> rfl) | (rw [if_neg (by assumption), if_pos (by assumption)] <;> rfl) | (rw [if_neg (by assumption), if_neg (by assumption)] <;> rfl)), by (unfold zlanm; first | (rw [if_pos (by assumption)] <;> rfl) | (rw [if_neg (by assumption), if_pos (by assumption)] <;> rfl) | (rw [if_neg (by assumption), if_neg (by assumption)] <;> rfl))⟩))
            · intro h7
              refine ⟨by (exact ⟨by omega, by omega⟩), ?_⟩
              refine ⟨by (exact ⟨by omega, by omega⟩), ?_⟩
              refine ⟨by (first | omega | exact ⟨by omega, by omega⟩ | exact ⟨by omega, by omega, by omega⟩ | exact ⟨by omega, by omega, by omega, by omega, by omega⟩), ?_⟩
              refine ⟨_, am_X9_well, ?_⟩
              intro v5 u5 hv5
              rintro ⟨rfl, rfl⟩
              obtain ⟨hv5a, hv5b⟩ := hv5
              first | exact Or.inl ⟨by omega, rfl, rfl⟩ | exact Or.inr (Or.inl ⟨by omega, rfl, rfl⟩) | exact Or.inr (Or.inr (Or.inl ⟨by omega, rfl, rfl⟩)) | exact Or.inr (Or.inr (Or.inr ⟨by omega, by (unfold zlanm; first | (rw [if_pos (by assumption)] <;> rfl) | (rw [if_neg (by assumption), if_pos (by assumption)] <;> rfl) | (rw [if_neg (by assumption), if_neg (by assumption)] <;> rfl)), by (unfold zlanm; first | (rw [if_pos (by assumption)] <;> rfl) | (rw [if_neg (by assumption), if_pos (by assumption)] <;> rfl) | (rw [if_neg (by assumption), if_neg (by assumption)] <;> rfl))⟩))
          · exact fun h => absurd h (by decide)
        · refine ⟨?_, ?_⟩
          · exact fun h => absurd h (by decide)
          · intro _
            refine ⟨_, am_X9_finds (by omega), ?_⟩
            intro v6 u6 hv6
            rintro ⟨rfl, rfl⟩
            obtain ⟨hv6a, hv6b⟩ := hv6
            first | exact Or.inl ⟨by omega, rfl, rfl⟩ | exact Or.inr (Or.inl ⟨by omega, rfl, rfl⟩) | exact Or.inr (Or.inr (Or.inl ⟨by omega, rfl, rfl⟩)) | exact Or.inr (Or.inr (Or.inr ⟨by omega, by (unfold zlanm; first | (rw [if_pos (by assumption)] <;> rfl) | (rw [if_neg (by assumption), if_pos (by assumption)] <;> rfl) | (rw [if_neg (by assumption), if_neg (by assumption)] <;> rfl)), by (unfold zlanm; first | (rw [if_pos (by assumption)] <;> rfl) | (rw [if_neg (by assumption), if_pos (by assumption)] <;> rfl) | (rw [if_neg (by assumption), if_neg (by assumption)] <;> rfl))⟩))
      · intro h9
        refine ⟨_, am_X9_finds (by omega), ?_⟩
        intro v7 u7 hv7
        rintro ⟨rfl, rfl⟩
        obtain ⟨hv7a, hv7b⟩ := hv7
        first | exact Or.inl ⟨by omega, rfl, rfl⟩ | exact Or.inr (Or.inl ⟨by omega, rfl, rfl⟩) | exact Or.inr (Or.inr (Or.inl ⟨by omega, rfl, rfl⟩)) | exact Or.inr (Or.inr (Or.inr ⟨by omega, by (unfold zlanm; first | (rw [if_pos (by assumption)] <;> rfl) | (rw [if_neg (by assumption), if_pos (by assumption)] <;> rfl) | (rw [if_neg (by assumption), if_neg (by assumption)] <;> rfl)), by (unfold zlanm; first | (rw [if_pos (by assumption)] <;> rfl) | (rw [if_neg (by assumption), if_pos (by assumption)] <;> rfl) | (rw [if_neg (by assumption), if_neg (by assumption)] <;> rfl))⟩))
    · exact fun h => absurd h (by decide)
  · refine ⟨?_, ?_⟩
    · exact fun h => absurd h (by decide)
    · intro _
      first | exact Or.inl ⟨by omega, rfl, rfl⟩ | exact Or.inr (Or.inl ⟨by omega, rfl, rfl⟩) | exact Or.inr (Or.inr (Or.inl ⟨by omega, rfl, rfl⟩)) | exact Or.inr (Or.inr (Or.inr ⟨by omega, by (unfold zlanm; first | (rw [if_pos (by assumption)] <;> rfl) | (rw [if_neg (by assumption), if_pos (by assumption)] <;> rfl) | (rw [if_neg (by assumption), if_neg (by assumption)] <;> rfl)), by (unfold zlanm; first | (rw [if_pos (by assumption)] <;> rfl) | (rw [if_neg (by assumption), if_pos (by assumption)] <;> rfl) | (rw [if_neg (by assumption), if_neg (by assumption)] <;> rfl))⟩))
end
section
/-- one cell replaced -/
def zcell (σ : zS) (k : Nat) (g : Int → Int) : zS := fun k' => if k' = k then g else σ k'
theorem zcell_up {σ : zS} {k : Nat} {g : Int → Int} {i v : Int} : zup (zcell σ k g) k i v = zcell σ k (fun j => if j = i then v else g j) := by
  funext k' j
  simp only [zup, zcell]
  by_cases e : k' = k
  · rw [if_pos e, if_pos e]; subst e; rw [if_pos rfl]
  · rw [if_neg e, if_neg e, if_neg e]
theorem zcell_self {σ : zS} {k : Nat} : zcell σ k (σ k) = σ := by
  funext k'
  simp only [zcell]
  split
  next e => rw [e]
  next => rfl
theorem zcell_fld {σ : zS} {k k2 : Nat} {g : Int → Int} {i a b : Int} (h : k2 ≠ k) : zup (zcell (zup σ k2 i a) k g) k2 i b = zcell (zup σ k2 i b) k g := by
  funext k' j
  by_cases e : k' = k
  · have f : ¬ k' = k2 := fun q => h (by rw [← q, e])
    simp only [zup, zcell, if_pos e, if_neg f]
  · by_cases f : k' = k2
    · by_cases f2 : j = i
      · simp only [zup, zcell, if_neg e, if_pos f, if_pos f2]
      · simp only [zup, zcell, if_neg e, if_pos f, if_neg f2]
    · simp only [zup, zcell, if_neg e, if_neg f]
/-- the log undone: m entries above lo, the topmost first -/
def zund (sl ol : Int → Int) (lo : Int) : Nat → (Int → Int) → Int → Int
  | 0, f => f
  | m + 1, f => zund sl ol lo m (fun j => if j = sl (lo + (m : Int)) then ol (lo + (m : Int)) else f j)
set_option maxRecDepth 100000 in
set_option maxHeartbeats 4000000 in
theorem lp_undo {τ : zS} {lo : Int} (h0 : 0 ≤ lo) (hl : τ 27 (τ 3 8) = lo) (ht : 0 ≤ τ 3 8 ∧ τ 3 8 < 50) : ∀ (m : Nat) (g : Int → Int), lo + (m : Int) ≤ 1024 → (∀ j : Int, lo ≤ j → j < lo + (m : Int) → 0 ≤ τ 25 j ∧ τ 25 j < 1188) → zRuns 4 zX0 (fun (v : Int) (u : zS) => zup (zcell τ 22 (zund (τ 25) (τ 26) lo m g)) 3 6 lo = u) 24 [some (.inr (.inr (3, 0))), some (.inl (lo + (m : Int) - 1))] [] (zcell τ 22 g) := by
  intro m
  induction m with
  | zero =>
    intro g hm hs
    refine zwalk zmk_4 [(24, [true, true])] 3 ?_
    show ((0 ≤ (τ 3 (8 : Int)) ∧ (τ 3 (8 : Int)) < (50 : Int)) ∧ (((lo + ((0 : Nat) : Int) - 1) < (τ 27 (τ 3 (8 : Int))) → ((0 ≤ (τ 3 (8 : Int)) ∧ (τ 3 (8 : Int)) < (50 : Int)) ∧ (zup (zcell τ 22 (zund (τ 25) (τ 26) lo 0 g)) 3 6 lo = (zup (zcell τ 22 g) 3 (6 : Int) (τ 27 (τ 3 (8 : Int))))))) ∧ ((τ 27 (τ 3 (8 : Int))) ≤ (lo + ((0 : Nat) : Int) - 1) → ((0 ≤ (lo + ((0 : Nat) : Int) - 1) ∧ (lo + ((0 : Nat) : Int) - 1) < (1024 : Int)) ∧ ((0 ≤ (lo + ((0 : Nat) : Int) - 1) ∧ (lo + ((0 : Nat) : Int) - 1) < (1024 : Int)) ∧ ((0 ≤ (τ 25 (lo + ((0 : Nat) : Int) - 1)) ∧ (τ 25 (lo + ((0 : Nat) : Int) - 1)) < (1188 : Int)) ∧ (zI ((lo + ((0 : Nat) : Int) - 1) + (-1 : Int)) ∧ zRuns 4 zX0 (fun (v : Int) (u : zS) => zup (zcell τ 22 (zund (τ 25) (τ 26) lo 0 g)) 3 6 lo = u) 24 [some (.inr (.inr (3, 0))), some (.inl ((lo + ((0 : Nat) : Int) - 1) + (-1 : Int)))] [] (zup (zcell τ 22 g) 22 (τ 25 (lo + ((0 : Nat) : Int) - 1)) (τ 26 (lo + ((0 : Nat) : Int) - 1))))))))))
    refine ⟨by (first | omega | exact ⟨by omega, by omega⟩ | exact ⟨by omega, by omega, by omega⟩ | exact ⟨by omega, by omega, by omega, by omega, by omega⟩), ?_⟩
    refine ⟨?_, ?_⟩
    · intro h1
      refine ⟨by (first | omega | exact ⟨by omega, by omega⟩ | exact ⟨by omega, by omega, by omega⟩ | exact ⟨by omega, by omega, by omega, by omega, by omega⟩), ?_⟩
      rw [hl]; rfl
    · intro h2
      refine ⟨by (first | omega | exact ⟨by omega, by omega⟩ | exact ⟨by omega, by omega, by omega⟩ | exact ⟨by omega, by omega, by omega, by omega, by omega⟩), ?_⟩
      refine ⟨by (first | omega | exact ⟨by omega, by omega⟩ | exact ⟨by omega, by omega, by omega⟩ | exact ⟨by omega, by omega, by omega, by omega, by omega⟩), ?_⟩
      refine ⟨by (first | omega | exact ⟨by omega, by omega⟩ | exact ⟨by omega, by omega, by omega⟩ | exact ⟨by omega, by omega, by omega, by omega, by omega⟩), ?_⟩
      refine ⟨by (exact ⟨by omega, by omega⟩), ?_⟩
      exfalso; omega
  | succ m ih =>
    intro g hm hs
    have h1 := hs (lo + ((m + 1 : Nat) : Int) - 1) (by omega) (by omega)
    have e1 : lo + ((m + 1 : Nat) : Int) - 1 = lo + (m : Int) := by omega
    refine zwalk zmk_4 [(24, [true, true])] 3 ?_
    show ((0 ≤ (τ 3 (8 : Int)) ∧ (τ 3 (8 : Int)) < (50 : Int)) ∧ (((lo + ((m + 1 : Nat) : Int) - 1) < (τ 27 (τ 3 (8 : Int))) → ((0 ≤ (τ 3 (8 : Int)) ∧ (τ 3 (8 : Int)) < (50 : Int)) ∧ (zup (zcell τ 22 (zund (τ 25) (τ 26) lo (m + 1) g)) 3 6 lo = (zup (zcell τ 22 g) 3 (6 : Int) (τ 27 (τ 3 (8 : Int))))))) ∧ ((τ 27 (τ 3 (8 : Int))) ≤ (lo + ((m + 1 : Nat) : Int) - 1) → ((0 ≤ (lo + ((m + 1 : Nat) : Int) - 1) ∧ (lo + ((m + 1 : Nat) : Int) - 1) < (1024 : Int)) ∧ ((0 ≤ (lo + ((m + 1 : Nat) : Int) - 1) ∧ (lo + ((m + 1 : Nat) : Int) - 1) < (1024 : Int)) ∧ ((0 ≤ (τ 25 (lo + ((m + 1 : Nat) : Int) - 1)) ∧ (τ 25 (lo + ((m + 1 : Nat) : Int) - 1)) < (1188 : Int)) ∧ (zI ((lo + ((m + 1 : Nat) : Int) - 1) + (-1 : Int)) ∧ zRuns 4 zX0 (fun (v : Int) (u : zS) => zup (zcell τ 22 (zund (τ 25) (τ 26) lo (m + 1) g)) 3 6 lo = u) 24 [some (.inr (.inr (3, 0))), some (.inl ((lo + ((m + 1 : Nat) : Int) - 1) + (-1 : Int)))] [] (zup (zcell τ 22 g) 22 (τ 25 (lo + ((m + 1 : Nat) : Int) - 1)) (τ 26 (lo + ((m + 1 : Nat) : Int) - 1))))))))))
    refine ⟨by (first | omega | exact ⟨by omega, by omega⟩ | exact ⟨by omega, by omega, by omega⟩ | exact ⟨by omega, by omega, by omega, by omega, by omega⟩), ?_⟩
    refine ⟨?_, ?_⟩
    · intro h1
      refine ⟨by (first | omega | exact ⟨by omega, by omega⟩ | exact ⟨by omega, by omega, by omega⟩ | exact ⟨by omega, by omega, by omega, by omega, by omega⟩), ?_⟩
      exfalso; omega
    · intro h2
      refine ⟨by (first | omega | exact ⟨by omega, by omega⟩ | exact ⟨by omega, by omega, by omega⟩ | exact ⟨by omega, by omega, by omega, by omega, by omega⟩), ?_⟩
      refine ⟨by (first | omega | exact ⟨by omega, by omega⟩ | exact ⟨by omega, by omega, by omega⟩ | exact ⟨by omega, by omega, by omega, by omega, by omega⟩), ?_⟩
      refine ⟨by (first | omega | exact ⟨by omega, by omega⟩ | exact ⟨by omega, by omega, by omega⟩ | exact ⟨by omega, by omega, by omega, by omega, by omega⟩), ?_⟩
      refine ⟨by (exact ⟨by omega, by omega⟩), ?_⟩
      rw [zcell_up, e1]
      have := ih (fun j => if j = τ 25 (lo + (m : Int)) then τ 26 (lo + (m : Int)) else g j) (by omega) (fun j a b => hs j a (by omega))
      exact this
set_option maxRecDepth 100000 in
set_option maxHeartbeats 4000000 in
theorem am_X0_undoTeaching {σ : zS} {lo : Int} {m : Nat} (ht : 1 ≤ σ 3 8 ∧ σ 3 8 ≤ 50) (hl : σ 27 (σ 3 8 - 1) = lo) (h0 : 0 ≤ lo) (hm : σ 3 6 = lo + (m : Int)) (hu : σ 3 6 ≤ 1024) (hs : ∀ j : Int, lo ≤ j → j < σ 3 6 → 0 ≤ σ 25 j ∧ σ 25 j < 1188) : zAM 4 [.inr (.inr (3, 0))] σ (fun (v : Int) (u : zS) => zup (zcell (zup σ 3 8 (σ 3 8 - 1)) 22 (zund (σ 25) (σ 26) lo m (σ 22))) 3 6 lo = u) := by
  refine zam (by decide) (Nat.le_of_ble_eq_true rfl) ?_
  refine zwalk zmk_4 [(24, [true, true])] 3 ?_
  show (((σ 3 (8 : Int)) ≤ 0 → (zup (zcell (zup σ 3 8 (σ 3 8 - 1)) 22 (zund (σ 25) (σ 26) lo m (σ 22))) 3 6 lo = σ)) ∧ (0 < (σ 3 (8 : Int)) → (zI ((σ 3 (8 : Int)) - (1 : Int)) ∧ (zI ((σ 3 (6 : Int)) - (1 : Int)) ∧ zRuns 4 zX0 (fun (v : Int) (u : zS) => zup (zcell (zup σ 3 8 (σ 3 8 - 1)) 22 (zund (σ 25) (σ 26) lo m (σ 22))) 3 6 lo = u) 24 [some (.inr (.inr (3, 0))), some (.inl ((σ 3 (6 : Int)) - (1 : Int)))] [] (zup σ 3 (8 : Int) ((σ 3 (8 : Int)) - (1 : Int)))))))
  refine ⟨?_, ?_⟩
  · intro h1
    exfalso; omega
  · intro h2
    refine ⟨by (exact ⟨by omega, by omega⟩), ?_⟩
    refine ⟨by (exact ⟨by omega, by omega⟩), ?_⟩
    have := lp_undo (τ := zup σ 3 8 (σ 3 8 - 1)) (lo := lo) h0 hl ⟨by show 0 ≤ σ 3 8 - 1; omega, by show σ 3 8 - 1 < 50; omega⟩ m (σ 22) (by omega) (fun j a b => hs j a (by omega))
    rw [hm]
    have e := @zcell_self (zup σ 3 8 (σ 3 8 - 1)) 22
    have e2 : zup σ 3 8 (σ 3 8 - 1) 22 = σ 22 := zup_ne (by decide)
    rw [e2] at e
    rw [e] at this
    exact this
set_option maxRecDepth 100000 in
set_option maxHeartbeats 4000000 in
theorem lp_unteach {τ : zS} {lo : Int} (h0 : 0 ≤ lo) (hl : τ 50 (τ 9 20) = lo) (ht : 0 ≤ τ 9 20 ∧ τ 9 20 < 50) : ∀ (m : Nat) (g : Int → Int), lo + (m : Int) ≤ 12000 → (∀ j : Int, lo ≤ j → j < lo + (m : Int) → 0 ≤ τ 48 j ∧ τ 48 j < 49660) → zRuns 146 zX0 (fun (v : Int) (u : zS) => zfill (zcell (zup τ 9 17 lo) 47 (zund (τ 48) (τ 49) lo m g)) 55 0 40 0 = u ∧ τ 9 20 = v) 20 [some (.inr (.inr (9, 0)))] [] (zcell (zup τ 9 17 (lo + (m : Int))) 47 g) := by
  intro m
  induction m with
  | zero =>
    intro g hm hs
    refine zwalk zmk_146 [(20, [true])] 3 ?_
    show ((0 ≤ (τ 9 (20 : Int)) ∧ (τ 9 (20 : Int)) < (50 : Int)) ∧ (((lo + ((0 : Nat) : Int)) ≤ (τ 50 (τ 9 (20 : Int))) → (∃ Rc : Int → zS → Prop, zAM 111 [.inr (.inr (9, 0))] (zcell (zup τ 9 (17 : Int) (lo + ((0 : Nat) : Int))) 47 g) Rc ∧ ∀ (u1 : zS), Rc 0 u1 → (zfill (zcell (zup τ 9 17 lo) 47 (zund (τ 48) (τ 49) lo 0 g)) 55 0 40 0 = u1 ∧ τ 9 20 = (u1 9 (20 : Int))))) ∧ ((τ 50 (τ 9 (20 : Int))) < (lo + ((0 : Nat) : Int)) → (zI ((lo + ((0 : Nat) : Int)) - (1 : Int)) ∧ ((0 ≤ ((lo + ((0 : Nat) : Int)) - (1 : Int)) ∧ ((lo + ((0 : Nat) : Int)) - (1 : Int)) < (12000 : Int)) ∧ ((0 ≤ ((lo + ((0 : Nat) : Int)) - (1 : Int)) ∧ ((lo + ((0 : Nat) : Int)) - (1 : Int)) < (12000 : Int)) ∧ ((0 ≤ (τ 48 ((lo + ((0 : Nat) : Int)) - (1 : Int))) ∧ (τ 48 ((lo + ((0 : Nat) : Int)) - (1 : Int))) < (49660 : Int)) ∧ zRuns 146 zX0 (fun (v : Int) (u : zS) => zfill (zcell (zup τ 9 17 lo) 47 (zund (τ 48) (τ 49) lo 0 g)) 55 0 40 0 = u ∧ τ 9 20 = v) 20 [some (.inr (.inr (9, 0)))] [] (zup (zup (zcell (zup τ 9 (17 : Int) (lo + ((0 : Nat) : Int))) 47 g) 9 (17 : Int) ((lo + ((0 : Nat) : Int)) - (1 : Int))) 47 (τ 48 ((lo + ((0 : Nat) : Int)) - (1 : Int))) (τ 49 ((lo + ((0 : Nat) : Int)) - (1 : Int)))))))))))
    refine ⟨by (first | omega | exact ⟨by omega, by omega⟩ | exact ⟨by omega, by omega, by omega⟩ | exact ⟨by omega, by omega, by omega, by omega, by omega⟩), ?_⟩
    refine ⟨?_, ?_⟩
    · intro h1
      refine ⟨_, am_X9_forget, ?_⟩
      intro u1
      rintro rfl
      exact ⟨by simp [zund], rfl⟩
    · intro h2
      refine ⟨by (exact ⟨by omega, by omega⟩), ?_⟩
      refine ⟨by (first | omega | exact ⟨by omega, by omega⟩ | exact ⟨by omega, by omega, by omega⟩ | exact ⟨by omega, by omega, by omega, by omega, by omega⟩), ?_⟩
      refine ⟨by (first | omega | exact ⟨by omega, by omega⟩ | exact ⟨by omega, by omega, by omega⟩ | exact ⟨by omega, by omega, by omega, by omega, by omega⟩), ?_⟩
      refine ⟨by (first | omega | exact ⟨by omega, by omega⟩ | exact ⟨by omega, by omega, by omega⟩ | exact ⟨by omega, by omega, by omega, by omega, by omega⟩), ?_⟩
      exfalso; omega
  | succ m ih =>
    intro g hm hs
    have h1 := hs (lo + (m : Int)) (by omega) (by omega)
    have e1 : lo + ((m + 1 : Nat) : Int) - 1 = lo + (m : Int) := by omega
    refine zwalk zmk_146 [(20, [true])] 3 ?_
    show ((0 ≤ (τ 9 (20 : Int)) ∧ (τ 9 (20 : Int)) < (50 : Int)) ∧ (((lo + ((m + 1 : Nat) : Int)) ≤ (τ 50 (τ 9 (20 : Int))) → (∃ Rc : Int → zS → Prop, zAM 111 [.inr (.inr (9, 0))] (zcell (zup τ 9 (17 : Int) (lo + ((m + 1 : Nat) : Int))) 47 g) Rc ∧ ∀ (u1 : zS), Rc 0 u1 → (zfill (zcell (zup τ 9 17 lo) 47 (zund (τ 48) (τ 49) lo (m + 1) g)) 55 0 40 0 = u1 ∧ τ 9 20 = (u1 9 (20 : Int))))) ∧ ((τ 50 (τ 9 (20 : Int))) < (lo + ((m + 1 : Nat) : Int)) → (zI ((lo + ((m + 1 : Nat) : Int)) - (1 : Int)) ∧ ((0 ≤ ((lo + ((m + 1 : Nat) : Int)) - (1 : Int)) ∧ ((lo + ((m + 1 : Nat) : Int)) - (1 : Int)) < (12000 : Int)) ∧ ((0 ≤ ((lo + ((m + 1 : Nat) : Int)) - (1 : Int)) ∧ ((lo + ((m + 1 : Nat) : Int)) - (1 : Int)) < (12000 : Int)) ∧ ((0 ≤ (τ 48 ((lo + ((m + 1 : Nat) : Int)) - (1 : Int))) ∧ (τ 48 ((lo + ((m + 1 : Nat) : Int)) - (1 : Int))) < (49660 : Int)) ∧ zRuns 146 zX0 (fun (v : Int) (u : zS) => zfill (zcell (zup τ 9 17 lo) 47 (zund (τ 48) (τ 49) lo (m + 1) g)) 55 0 40 0 = u ∧ τ 9 20 = v) 20 [some (.inr (.inr (9, 0)))] [] (zup (zup (zcell (zup τ 9 (17 : Int) (lo + ((m + 1 : Nat) : Int))) 47 g) 9 (17 : Int) ((lo + ((m + 1 : Nat) : Int)) - (1 : Int))) 47 (τ 48 ((lo + ((m + 1 : Nat) : Int)) - (1 : Int))) (τ 49 ((lo + ((m + 1 : Nat) : Int)) - (1 : Int)))))))))))
    rw [e1]
    refine ⟨by (first | omega | exact ⟨by omega, by omega⟩ | exact ⟨by omega, by omega, by omega⟩ | exact ⟨by omega, by omega, by omega, by omega, by omega⟩), ?_⟩
    refine ⟨?_, ?_⟩
    · intro h1
      refine ⟨_, am_X9_forget, ?_⟩
      intro u1
      rintro rfl
      exfalso; omega
    · intro h2
      refine ⟨by (exact ⟨by omega, by omega⟩), ?_⟩
      refine ⟨by (first | omega | exact ⟨by omega, by omega⟩ | exact ⟨by omega, by omega, by omega⟩ | exact ⟨by omega, by omega, by omega, by omega, by omega⟩), ?_⟩
      refine ⟨by (first | omega | exact ⟨by omega, by omega⟩ | exact ⟨by omega, by omega, by omega⟩ | exact ⟨by omega, by omega, by omega, by omega, by omega⟩), ?_⟩
      refine ⟨by (first | omega | exact ⟨by omega, by omega⟩ | exact ⟨by omega, by omega, by omega⟩ | exact ⟨by omega, by omega, by omega, by omega, by omega⟩), ?_⟩
      rw [zcell_fld (by decide), zcell_up]
      have := ih (fun j => if j = τ 48 (lo + (m : Int)) then τ 49 (lo + (m : Int)) else g j) (by omega) (fun j a b => hs j a (by omega))
      exact this
set_option maxRecDepth 100000 in
set_option maxHeartbeats 4000000 in
theorem am_X9_unteach {σ : zS} {lo : Int} {m : Nat} (ht : 0 ≤ σ 9 20 ∧ σ 9 20 ≤ 50) (hl : ¬ σ 9 20 = 0 → σ 50 (σ 9 20 - 1) = lo) (h0 : 0 ≤ lo) (hm : σ 9 17 = lo + (m : Int)) (hu : σ 9 17 ≤ 12000) (hs : ∀ j : Int, lo ≤ j → j < σ 9 17 → 0 ≤ σ 48 j ∧ σ 48 j < 49660) : zAM 146 [.inr (.inr (9, 0))] σ (fun (v : Int) (u : zS) => (σ 9 20 = 0 ∧ σ = u ∧ -1000000 = v) ∨ (¬ σ 9 20 = 0 ∧ zfill (zcell (zup (zup σ 9 20 (σ 9 20 - 1)) 9 17 lo) 47 (zund (σ 48) (σ 49) lo m (σ 47))) 55 0 40 0 = u ∧ σ 9 20 - 1 = v)) := by
  refine zam (by decide) (Nat.le_of_ble_eq_true rfl) ?_
  refine zwalk zmk_146 [(20, [true])] 3 ?_
  show ((¬ (σ 9 (20 : Int)) = 0 → (zI ((σ 9 (20 : Int)) - (1 : Int)) ∧ zRuns 146 zX0 (fun (v : Int) (u : zS) => (σ 9 20 = 0 ∧ σ = u ∧ -1000000 = v) ∨ (¬ σ 9 20 = 0 ∧ zfill (zcell (zup (zup σ 9 20 (σ 9 20 - 1)) 9 17 lo) 47 (zund (σ 48) (σ 49) lo m (σ 47))) 55 0 40 0 = u ∧ σ 9 20 - 1 = v)) 20 [some (.inr (.inr (9, 0)))] [] (zup σ 9 (20 : Int) ((σ 9 (20 : Int)) - (1 : Int))))) ∧ ((σ 9 (20 : Int)) = 0 → ((σ 9 20 = 0 ∧ σ = σ ∧ -1000000 = (-1000000 : Int)) ∨ (¬ σ 9 20 = 0 ∧ zfill (zcell (zup (zup σ 9 20 (σ 9 20 - 1)) 9 17 lo) 47 (zund (σ 48) (σ 49) lo m (σ 47))) 55 0 40 0 = σ ∧ σ 9 20 - 1 = (-1000000 : Int)))))
  refine ⟨?_, ?_⟩
  · intro h1
    refine ⟨by (exact ⟨by omega, by omega⟩), ?_⟩
    have hz : ¬ σ 9 20 = 0 := by assumption
    have := lp_unteach (τ := zup σ 9 20 (σ 9 20 - 1)) (lo := lo) h0 (hl hz) ⟨by show 0 ≤ σ 9 20 - 1; omega, by show σ 9 20 - 1 < 50; omega⟩ m (σ 47) (by omega) (fun j a b => hs j a (by omega))
    have e3 : zcell (zup (zup σ 9 20 (σ 9 20 - 1)) 9 17 (lo + (m : Int))) 47 (σ 47) = zup σ 9 20 (σ 9 20 - 1) := by
      funext k j
      by_cases e : k = 47
      · subst e; rfl
      · by_cases f : k = 9
        · subst f
          simp only [zcell, if_neg (show ¬ (9 : Nat) = 47 by decide), zup_at]
          by_cases f2 : j = 17
          · rw [if_pos f2, f2, if_neg (by decide), hm]
          · rw [if_neg f2]
        · simp only [zcell, if_neg e, zup_ne f]
    rw [e3] at this
    exact this.mono (fun v u q => Or.inr ⟨hz, q⟩)
  · intro h2
    exact Or.inl ⟨by omega, rfl, rfl⟩
end
section
/-! THE LINE: pieces and dots out of what was written -/
def zfr (ks : List Nat) (σ u : zS) : Prop := ∀ k : Nat, k ∉ ks → u k = σ k
theorem zfr.rf {ks : List Nat} {σ : zS} : zfr ks σ σ := fun _ _ => rfl
theorem zfr.up {ks : List Nat} {σ s : zS} {c : Nat} {i v : Int} (h : zfr ks σ s) (hc : c ∈ ks) : zfr ks σ (zup s c i v) := fun k hk => by
  rw [zup_ne (fun q => hk (by rw [q]; exact hc))]; exact h k hk
theorem zfr.trans {ks ls : List Nat} {σ s u : zS} (h : zfr ks σ s) (h2 : zfr ls s u) (hs : ∀ k ∈ ls, k ∈ ks) (hk : ∀ k ∈ ks, True) : zfr ks σ u := fun k hk => by
  rw [h2 k (fun q => hk (hs k q)), h k hk]
/-- how many pieces among the first k -/
def zpn (ws : Int → Int) : Nat → Int
  | 0 => 0
  | k + 1 => zpn ws k + (if ws k = 12 then 0 else 1)
/-- f of the pieces, in order -/
def zga (f ws : Int → Int) : Nat → Int → Int
  | 0 => fun _ => 0
  | k + 1 => if ws k = 12 then zga f ws k else fun j => if j = zpn ws k then f k else zga f ws k j
theorem zpn_le (ws : Int → Int) : ∀ k : Nat, 0 ≤ zpn ws k ∧ zpn ws k ≤ k
  | 0 => ⟨by simp [zpn], by simp [zpn]⟩
  | k + 1 => by
    have := zpn_le ws k
    simp only [zpn]
    split <;> omega
theorem zpn_mono (ws : Int → Int) : ∀ {k n : Nat}, k ≤ n → zpn ws k ≤ zpn ws n
  | k, 0, h => by have : k = 0 := by omega
                  rw [this]; exact Int.le_refl _
  | k, n + 1, h => by
    by_cases e : k = n + 1
    · rw [e]; exact Int.le_refl _
    · have := zpn_mono ws (k := k) (n := n) (by omega)
      simp only [zpn]
      split <;> omega
theorem zpn_dot {ws : Int → Int} {k : Nat} (h : ws k = 12) : zpn ws (k + 1) = zpn ws k ∧ ∀ f, zga f ws (k + 1) = zga f ws k := by
  constructor
  · simp only [zpn, if_pos h]; omega
  · intro f; simp only [zga, if_pos h]
theorem zpn_pc {ws : Int → Int} {k : Nat} (h : ¬ ws k = 12) : zpn ws (k + 1) = zpn ws k + 1 ∧ ∀ f j, zga f ws (k + 1) j = if j = zpn ws k then f k else zga f ws k j := by
  constructor
  · simp only [zpn, if_neg h]
  · intro f j; simp only [zga, if_neg h]
set_option maxRecDepth 100000 in
set_option maxHeartbeats 4000000 in
theorem lp_gather {σ : zS} {n : Nat} (hn : σ 2 2 = (n : Int)) (hn40 : n ≤ 40) : ∀ (m k : Nat) (s : zS), k + m = n → zfr [2, 17, 18, 19] σ s → (∀ j : Int, ¬ j = 7 → s 2 j = σ 2 j) → s 2 7 = zpn (σ 16) k → (∀ j : Int, 0 ≤ j → j < zpn (σ 16) k → s 17 j = zga (σ 15) (σ 16) k j ∧ s 18 j = zga (σ 16) (σ 16) k j ∧ s 19 j = 0) → zRuns 16 zX0 (fun (v : Int) (u : zS) => zfr [2, 17, 18, 19] σ u ∧ (∀ j : Int, ¬ j = 7 → u 2 j = σ 2 j) ∧ u 2 7 = zpn (σ 16) n ∧ ∀ j : Int, 0 ≤ j → j < zpn (σ 16) n → u 17 j = zga (σ 15) (σ 16) n j ∧ u 18 j = zga (σ 16) (σ 16) n j ∧ u 19 j = 0) 7 [some (.inr (.inr (2, 0))), some (.inl (k : Int))] [] s := by
  intro m
  induction m with
  | zero =>
    intro k s hk hf i2 hp ha
    have e2 := i2 2 (by decide)
    have ek : k = n := by omega
    subst ek
    refine zwalk zmk_16 [(7, [true, true])] 3 ?_
    show (((s 2 (2 : Int)) ≤ (k : Int) → (zfr [2, 17, 18, 19] σ s ∧ (∀ j : Int, ¬ j = 7 → s 2 j = σ 2 j) ∧ s 2 7 = zpn (σ 16) k ∧ ∀ j : Int, 0 ≤ j → j < zpn (σ 16) k → s 17 j = zga (σ 15) (σ 16) k j ∧ s 18 j = zga (σ 16) (σ 16) k j ∧ s 19 j = 0)) ∧ ((k : Int) < (s 2 (2 : Int)) → ((0 ≤ (k : Int) ∧ (k : Int) < (40 : Int)) ∧ (((s 16 (k : Int)) = (12 : Int) → (zI ((k : Int) + (1 : Int)) ∧ zRuns 16 zX0 (fun (v : Int) (u : zS) => zfr [2, 17, 18, 19] σ u ∧ (∀ j : Int, ¬ j = 7 → u 2 j = σ 2 j) ∧ u 2 7 = zpn (σ 16) k ∧ ∀ j : Int, 0 ≤ j → j < zpn (σ 16) k → u 17 j = zga (σ 15) (σ 16) k j ∧ u 18 j = zga (σ 16) (σ 16) k j ∧ u 19 j = 0) 7 [some (.inr (.inr (2, 0))), some (.inl ((k : Int) + (1 : Int)))] [] s)) ∧ (¬ (s 16 (k : Int)) = (12 : Int) → ((0 ≤ (k : Int) ∧ (k : Int) < (40 : Int)) ∧ ((0 ≤ (s 2 (7 : Int)) ∧ (s 2 (7 : Int)) < (40 : Int)) ∧ ((0 ≤ (k : Int) ∧ (k : Int) < (40 : Int)) ∧ ((0 ≤ (s 2 (7 : Int)) ∧ (s 2 (7 : Int)) < (40 : Int)) ∧ ((0 ≤ (s 2 (7 : Int)) ∧ (s 2 (7 : Int)) < (40 : Int)) ∧ (zI ((s 2 (7 : Int)) + (1 : Int)) ∧ (zI ((k : Int) + (1 : Int)) ∧ zRuns 16 zX0 (fun (v : Int) (u : zS) => zfr [2, 17, 18, 19] σ u ∧ (∀ j : Int, ¬ j = 7 → u 2 j = σ 2 j) ∧ u 2 7 = zpn (σ 16) k ∧ ∀ j : Int, 0 ≤ j → j < zpn (σ 16) k → u 17 j = zga (σ 15) (σ 16) k j ∧ u 18 j = zga (σ 16) (σ 16) k j ∧ u 19 j = 0) 7 [some (.inr (.inr (2, 0))), some (.inl ((k : Int) + (1 : Int)))] [] (zup (zup (zup (zup s 17 (s 2 (7 : Int)) (s 15 (k : Int))) 18 (s 2 (7 : Int)) (s 16 (k : Int))) 19 (s 2 (7 : Int)) (0 : Int)) 2 (7 : Int) ((s 2 (7 : Int)) + (1 : Int)))))))))))))))
    refine ⟨?_, ?_⟩
    · intro h1
      exact ⟨hf, i2, hp, ha⟩
    · intro h2
      refine ⟨by (exfalso; omega), ?_⟩
      refine ⟨?_, ?_⟩
      · intro h3
        refine ⟨by (exfalso; omega), ?_⟩
        exfalso; omega
      · intro h4
        refine ⟨by (exfalso; omega), ?_⟩
        refine ⟨by (exfalso; omega), ?_⟩
        refine ⟨by (exfalso; omega), ?_⟩
        refine ⟨by (exfalso; omega), ?_⟩
        refine ⟨by (exfalso; omega), ?_⟩
        refine ⟨by (exfalso; omega), ?_⟩
        refine ⟨by (exfalso; omega), ?_⟩
        exfalso; omega
  | succ m ih =>
    intro k s hk hf i2 hp ha
    have e2 := i2 2 (by decide)
    have e15 : s 15 = σ 15 := hf 15 (by decide)
    have e16 : s 16 = σ 16 := hf 16 (by decide)
    have hl := zpn_le (σ 16) k
    refine zwalk zmk_16 [(7, [true, true])] 3 ?_
    show (((s 2 (2 : Int)) ≤ (k : Int) → (zfr [2, 17, 18, 19] σ s ∧ (∀ j : Int, ¬ j = 7 → s 2 j = σ 2 j) ∧ s 2 7 = zpn (σ 16) n ∧ ∀ j : Int, 0 ≤ j → j < zpn (σ 16) n → s 17 j = zga (σ 15) (σ 16) n j ∧ s 18 j = zga (σ 16) (σ 16) n j ∧ s 19 j = 0)) ∧ ((k : Int) < (s 2 (2 : Int)) → ((0 ≤ (k : Int) ∧ (k : Int) < (40 : Int)) ∧ (((s 16 (k : Int)) = (12 : Int) → (zI ((k : Int) + (1 : Int)) ∧ zRuns 16 zX0 (fun (v : Int) (u : zS) => zfr [2, 17, 18, 19] σ u ∧ (∀ j : Int, ¬ j = 7 → u 2 j = σ 2 j) ∧ u 2 7 = zpn (σ 16) n ∧ ∀ j : Int, 0 ≤ j → j < zpn (σ 16) n → u 17 j = zga (σ 15) (σ 16) n j ∧ u 18 j = zga (σ 16) (σ 16) n j ∧ u 19 j = 0) 7 [some (.inr (.inr (2, 0))), some (.inl ((k : Int) + (1 : Int)))] [] s)) ∧ (¬ (s 16 (k : Int)) = (12 : Int) → ((0 ≤ (k : Int) ∧ (k : Int) < (40 : Int)) ∧ ((0 ≤ (s 2 (7 : Int)) ∧ (s 2 (7 : Int)) < (40 : Int)) ∧ ((0 ≤ (k : Int) ∧ (k : Int) < (40 : Int)) ∧ ((0 ≤ (s 2 (7 : Int)) ∧ (s 2 (7 : Int)) < (40 : Int)) ∧ ((0 ≤ (s 2 (7 : Int)) ∧ (s 2 (7 : Int)) < (40 : Int)) ∧ (zI ((s 2 (7 : Int)) + (1 : Int)) ∧ (zI ((k : Int) + (1 : Int)) ∧ zRuns 16 zX0 (fun (v : Int) (u : zS) => zfr [2, 17, 18, 19] σ u ∧ (∀ j : Int, ¬ j = 7 → u 2 j = σ 2 j) ∧ u 2 7 = zpn (σ 16) n ∧ ∀ j : Int, 0 ≤ j → j < zpn (σ 16) n → u 17 j = zga (σ 15) (σ 16) n j ∧ u 18 j = zga (σ 16) (σ 16) n j ∧ u 19 j = 0) 7 [some (.inr (.inr (2, 0))), some (.inl ((k : Int) + (1 : Int)))] [] (zup (zup (zup (zup s 17 (s 2 (7 : Int)) (s 15 (k : Int))) 18 (s 2 (7 : Int)) (s 16 (k : Int))) 19 (s 2 (7 : Int)) (0 : Int)) 2 (7 : Int) ((s 2 (7 : Int)) + (1 : Int)))))))))))))))
    rw [e15, e16, hp]
    refine ⟨?_, ?_⟩
    · intro h1
      exfalso; omega
    · intro h2
      refine ⟨by (first | omega | exact ⟨by omega, by omega⟩ | exact ⟨by omega, by omega, by omega⟩ | exact ⟨by omega, by omega, by omega, by omega, by omega⟩), ?_⟩
      refine ⟨?_, ?_⟩
      · intro h3
        refine ⟨by (exact ⟨by omega, by omega⟩), ?_⟩
        have hd : σ 16 (k : Int) = 12 := by assumption
        have hz := zpn_dot hd
        refine ih (k + 1) _ (by omega) hf i2 (by rw [hz.1, hp]) ?_
        rw [hz.1, hz.2, hz.2]
        exact ha
      · intro h4
        refine ⟨by (first | omega | exact ⟨by omega, by omega⟩ | exact ⟨by omega, by omega, by omega⟩ | exact ⟨by omega, by omega, by omega, by omega, by omega⟩), ?_⟩
        refine ⟨by (first | omega | exact ⟨by omega, by omega⟩ | exact ⟨by omega, by omega, by omega⟩ | exact ⟨by omega, by omega, by omega, by omega, by omega⟩), ?_⟩
        refine ⟨by (first | omega | exact ⟨by omega, by omega⟩ | exact ⟨by omega, by omega, by omega⟩ | exact ⟨by omega, by omega, by omega, by omega, by omega⟩), ?_⟩
        refine ⟨by (first | omega | exact ⟨by omega, by omega⟩ | exact ⟨by omega, by omega, by omega⟩ | exact ⟨by omega, by omega, by omega, by omega, by omega⟩), ?_⟩
        refine ⟨by (first | omega | exact ⟨by omega, by omega⟩ | exact ⟨by omega, by omega, by omega⟩ | exact ⟨by omega, by omega, by omega, by omega, by omega⟩), ?_⟩
        refine ⟨by (exact ⟨by omega, by omega⟩), ?_⟩
        refine ⟨by (exact ⟨by omega, by omega⟩), ?_⟩
        have hd : ¬ σ 16 (k : Int) = 12 := by assumption
        have hz := zpn_pc hd
        refine ih (k + 1) _ (by omega) ?_ ?_ ?_ ?_
        · exact (((hf.up (by decide)).up (by decide)).up (by decide)).up (by decide)
        · intro j hj
          show (if j = 7 then _ else s 2 j) = _
          rw [if_neg hj]; exact i2 j hj
        · show zpn (σ 16) k + 1 = _
          rw [hz.1]
        · intro j h0 h1
          show (if j = zpn (σ 16) k then _ else s 17 j) = _ ∧ (if j = zpn (σ 16) k then _ else s 18 j) = _ ∧ (if j = zpn (σ 16) k then (0 : Int) else s 19 j) = 0
          rw [hz.2, hz.2]
          by_cases e : j = zpn (σ 16) k
          · simp only [if_pos e]; exact ⟨trivial, trivial, trivial⟩
          · simp only [if_neg e]
            exact ha j h0 (by omega)
set_option maxRecDepth 100000 in
set_option maxHeartbeats 4000000 in
theorem am_X2_gatherPieces {σ : zS} {n : Nat} (hn : σ 2 2 = (n : Int)) (hn40 : n ≤ 40) : zAM 16 [.inr (.inr (2, 0))] σ (fun (v : Int) (u : zS) => zfr [2, 17, 18, 19] σ u ∧ (∀ j : Int, ¬ j = 7 → u 2 j = σ 2 j) ∧ u 2 7 = zpn (σ 16) n ∧ ∀ j : Int, 0 ≤ j → j < zpn (σ 16) n → u 17 j = zga (σ 15) (σ 16) n j ∧ u 18 j = zga (σ 16) (σ 16) n j ∧ u 19 j = 0) := by
  refine zam (by decide) (Nat.le_of_ble_eq_true rfl) ?_
  refine zwalk zmk_16 [(7, [true, true])] 2 ?_
  show zRuns 16 zX0 (fun (v : Int) (u : zS) => zfr [2, 17, 18, 19] σ u ∧ (∀ j : Int, ¬ j = 7 → u 2 j = σ 2 j) ∧ u 2 7 = zpn (σ 16) n ∧ ∀ j : Int, 0 ≤ j → j < zpn (σ 16) n → u 17 j = zga (σ 15) (σ 16) n j ∧ u 18 j = zga (σ 16) (σ 16) n j ∧ u 19 j = 0) 7 [some (.inr (.inr (2, 0))), some (.inl (0 : Int))] [] (zup σ 2 (7 : Int) (0 : Int))
  refine lp_gather (σ := σ) hn hn40 n 0 _ (by omega) (zfr.rf.up (by decide)) ?_ rfl ?_
  · intro j hj
    show (if j = 7 then _ else σ 2 j) = _
    rw [if_neg hj]
  · intro j h0 h1
    exact absurd h1 (by show ¬ j < 0; omega)
end
section
/-! INKS: where they begin -/
def zbr (x : Int → Int) (g : Int) (k : Nat) : Prop := k = 0 ∨ g < x k - x ((k : Int) - 1)
noncomputable def zbk (x : Int → Int) (g : Int) : Nat → Int
  | 0 => 0
  | k + 1 => zbk x g k + (if k = 0 ∨ g < x k - x ((k : Int) - 1) then 1 else 0)
noncomputable def zfs (x : Int → Int) (g : Int) : Nat → Int → Int
  | 0 => fun _ => 0
  | k + 1 => if k = 0 ∨ g < x k - x ((k : Int) - 1) then fun j => if j = zbk x g k then (k : Int) else zfs x g k j else zfs x g k
theorem zbk_le (x : Int → Int) (g : Int) : ∀ k : Nat, 0 ≤ zbk x g k ∧ zbk x g k ≤ k
  | 0 => ⟨by simp [zbk], by simp [zbk]⟩
  | k + 1 => by
    have := zbk_le x g k
    simp only [zbk]
    split <;> omega
theorem zbk_y {x : Int → Int} {g : Int} {k : Nat} (h : k = 0 ∨ g < x k - x ((k : Int) - 1)) : zbk x g (k + 1) = zbk x g k + 1 ∧ ∀ j, zfs x g (k + 1) j = if j = zbk x g k then (k : Int) else zfs x g k j := by
  constructor
  · simp only [zbk, if_pos h]
  · intro j; simp only [zfs, if_pos h]
theorem zbk_n {x : Int → Int} {g : Int} {k : Nat} (h : ¬ (k = 0 ∨ g < x k - x ((k : Int) - 1))) : zbk x g (k + 1) = zbk x g k ∧ zfs x g (k + 1) = zfs x g k := by
  constructor
  · simp only [zbk, if_neg h]; omega
  · simp only [zfs, if_neg h]
theorem zbk_congr {x y : Int → Int} {g : Int} : ∀ {n : Nat}, (∀ j : Int, 0 ≤ j → j < n → x j = y j) → zbk x g n = zbk y g n ∧ zfs x g n = zfs y g n
  | 0, _ => ⟨rfl, rfl⟩
  | n + 1, h => by
    obtain ⟨e1, e2⟩ := zbk_congr (x := x) (y := y) (g := g) (n := n) (fun j a b => h j a (by omega))
    have hc : (n = 0 ∨ g < x n - x ((n : Int) - 1)) ↔ (n = 0 ∨ g < y n - y ((n : Int) - 1)) := by
      by_cases z : n = 0
      · simp [z]
      · rw [h n (by omega) (by omega), h ((n : Int) - 1) (by omega) (by omega)]
    by_cases c : n = 0 ∨ g < x n - x ((n : Int) - 1)
    · have c2 := hc.mp c
      rw [(zbk_y c).1, (zbk_y c2).1, e1]
      refine ⟨rfl, ?_⟩
      funext j
      rw [(zbk_y c).2, (zbk_y c2).2, e1, e2]
    · have c2 := fun q => c (hc.mpr q)
      rw [(zbk_n c).1, (zbk_n c2).1, (zbk_n c).2, (zbk_n c2).2]
      exact ⟨e1, e2⟩
theorem zfs_r {x : Int → Int} {g : Int} : ∀ {n : Nat} {j : Int}, 0 ≤ j → j < zbk x g n → 0 ≤ zfs x g n j ∧ zfs x g n j < n
  | 0, j, a, b => by simp [zbk] at b; omega
  | n + 1, j, a, b => by
    by_cases c : n = 0 ∨ g < x n - x ((n : Int) - 1)
    · rw [(zbk_y c).1] at b
      rw [(zbk_y c).2]
      split
      · omega
      · have := zfs_r (x := x) (g := g) (n := n) (j := j) a (by omega)
        omega
    · rw [(zbk_n c).1] at b
      rw [(zbk_n c).2]
      have := zfs_r (x := x) (g := g) (n := n) (j := j) a b
      omega
theorem zfs_mono {x : Int → Int} {g : Int} : ∀ {n : Nat} {i j : Int}, 0 ≤ i → i < j → j < zbk x g n → zfs x g n i < zfs x g n j
  | 0, i, j, a, b, c => by simp [zbk] at c; omega
  | n + 1, i, j, a, b, d => by
    by_cases c : n = 0 ∨ g < x n - x ((n : Int) - 1)
    · rw [(zbk_y c).1] at d
      rw [(zbk_y c).2, (zbk_y c).2]
      rw [if_neg (show ¬ i = zbk x g n by omega)]
      have hi := zfs_r (x := x) (g := g) (n := n) (j := i) a (by omega)
      split
      · exact hi.2
      · exact zfs_mono (n := n) a b (by omega)
    · rw [(zbk_n c).1] at d
      rw [(zbk_n c).2]
      exact zfs_mono (n := n) a b d
set_option maxRecDepth 100000 in
set_option maxHeartbeats 4000000 in
theorem lp_begin {σ : zS} {n : Nat} (hn : σ 2 7 = (n : Int)) (hn40 : n ≤ 40) (hx : ∀ j : Int, 0 ≤ j → j < n → 0 ≤ σ 17 j ∧ σ 17 j ≤ 2000) : ∀ (m k : Nat) (s : zS), k + m = n → zfr [2, 20, 21] σ s → (∀ j : Int, ¬ j = 10 → s 2 j = σ 2 j) → s 2 10 = zbk (σ 17) (σ 2 3) k → (∀ j : Int, 0 ≤ j → j < zbk (σ 17) (σ 2 3) k → s 20 j = zfs (σ 17) (σ 2 3) k j ∧ s 21 j = 0) → zRuns 17 zX0 (fun (v : Int) (u : zS) => zfr [2, 20, 21] σ u ∧ (∀ j : Int, ¬ j = 10 → u 2 j = σ 2 j) ∧ u 2 10 = zbk (σ 17) (σ 2 3) n ∧ u 20 (zbk (σ 17) (σ 2 3) n) = (n : Int) ∧ ∀ j : Int, 0 ≤ j → j < zbk (σ 17) (σ 2 3) n → u 20 j = zfs (σ 17) (σ 2 3) n j ∧ u 21 j = 0) 7 [some (.inr (.inr (2, 0))), some (.inl (k : Int))] [] s := by
  intro m
  induction m with
  | zero =>
    intro k s hk hf i2 hp ha
    have e7 := i2 7 (by decide)
    have hl := zbk_le (σ 17) (σ 2 3) k
    obtain rfl : n = k := by omega
    refine zwalk zmk_17 [(7, [true, true])] 3 ?_
    show (((s 2 (7 : Int)) ≤ (n : Int) → ((0 ≤ (s 2 (10 : Int)) ∧ (s 2 (10 : Int)) < (41 : Int)) ∧ (zfr [2, 20, 21] σ (zup s 20 (s 2 (10 : Int)) (s 2 (7 : Int))) ∧ (∀ j : Int, ¬ j = 10 → (zup s 20 (s 2 (10 : Int)) (s 2 (7 : Int))) 2 j = σ 2 j) ∧ (zup s 20 (s 2 (10 : Int)) (s 2 (7 : Int))) 2 10 = zbk (σ 17) (σ 2 3) n ∧ (zup s 20 (s 2 (10 : Int)) (s 2 (7 : Int))) 20 (zbk (σ 17) (σ 2 3) n) = (n : Int) ∧ ∀ j : Int, 0 ≤ j → j < zbk (σ 17) (σ 2 3) n → (zup s 20 (s 2 (10 : Int)) (s 2 (7 : Int))) 20 j = zfs (σ 17) (σ 2 3) n j ∧ (zup s 20 (s 2 (10 : Int)) (s 2 (7 : Int))) 21 j = 0))) ∧ ((n : Int) < (s 2 (7 : Int)) → (((n : Int) = 0 → ((0 ≤ (s 2 (10 : Int)) ∧ (s 2 (10 : Int)) < (41 : Int)) ∧ ((0 ≤ (s 2 (10 : Int)) ∧ (s 2 (10 : Int)) < (40 : Int)) ∧ (zI ((s 2 (10 : Int)) + (1 : Int)) ∧ (zI ((n : Int) + (1 : Int)) ∧ zRuns 17 zX0 (fun (v : Int) (u : zS) => zfr [2, 20, 21] σ u ∧ (∀ j : Int, ¬ j = 10 → u 2 j = σ 2 j) ∧ u 2 10 = zbk (σ 17) (σ 2 3) n ∧ u 20 (zbk (σ 17) (σ 2 3) n) = (n : Int) ∧ ∀ j : Int, 0 ≤ j → j < zbk (σ 17) (σ 2 3) n → u 20 j = zfs (σ 17) (σ 2 3) n j ∧ u 21 j = 0) 7 [some (.inr (.inr (2, 0))), some (.inl ((n : Int) + (1 : Int)))] [] (zup (zup (zup s 20 (s 2 (10 : Int)) (n : Int)) 21 (s 2 (10 : Int)) (0 : Int)) 2 (10 : Int) ((s 2 (10 : Int)) + (1 : Int)))))))) ∧ (¬ (n : Int) = 0 → ((0 ≤ (n : Int) ∧ (n : Int) < (40 : Int)) ∧ (zI ((n : Int) - (1 : Int)) ∧ ((0 ≤ ((n : Int) - (1 : Int)) ∧ ((n : Int) - (1 : Int)) < (40 : Int)) ∧ (zI ((s 17 (n : Int)) - (s 17 ((n : Int) - (1 : Int)))) ∧ ((((s 17 (n : Int)) - (s 17 ((n : Int) - (1 : Int)))) ≤ (s 2 (3 : Int)) → (zI ((n : Int) + (1 : Int)) ∧ zRuns 17 zX0 (fun (v : Int) (u : zS) => zfr [2, 20, 21] σ u ∧ (∀ j : Int, ¬ j = 10 → u 2 j = σ 2 j) ∧ u 2 10 = zbk (σ 17) (σ 2 3) n ∧ u 20 (zbk (σ 17) (σ 2 3) n) = (n : Int) ∧ ∀ j : Int, 0 ≤ j → j < zbk (σ 17) (σ 2 3) n → u 20 j = zfs (σ 17) (σ 2 3) n j ∧ u 21 j = 0) 7 [some (.inr (.inr (2, 0))), some (.inl ((n : Int) + (1 : Int)))] [] s)) ∧ ((s 2 (3 : Int)) < ((s 17 (n : Int)) - (s 17 ((n : Int) - (1 : Int)))) → ((0 ≤ (s 2 (10 : Int)) ∧ (s 2 (10 : Int)) < (41 : Int)) ∧ ((0 ≤ (s 2 (10 : Int)) ∧ (s 2 (10 : Int)) < (40 : Int)) ∧ (zI ((s 2 (10 : Int)) + (1 : Int)) ∧ (zI ((n : Int) + (1 : Int)) ∧ zRuns 17 zX0 (fun (v : Int) (u : zS) => zfr [2, 20, 21] σ u ∧ (∀ j : Int, ¬ j = 10 → u 2 j = σ 2 j) ∧ u 2 10 = zbk (σ 17) (σ 2 3) n ∧ u 20 (zbk (σ 17) (σ 2 3) n) = (n : Int) ∧ ∀ j : Int, 0 ≤ j → j < zbk (σ 17) (σ 2 3) n → u 20 j = zfs (σ 17) (σ 2 3) n j ∧ u 21 j = 0) 7 [some (.inr (.inr (2, 0))), some (.inl ((n : Int) + (1 : Int)))] [] (zup (zup (zup s 20 (s 2 (10 : Int)) (n : Int)) 21 (s 2 (10 : Int)) (0 : Int)) 2 (10 : Int) ((s 2 (10 : Int)) + (1 : Int)))))))))))))))))
    rw [hp]
    refine ⟨?_, ?_⟩
    · intro h1
      refine ⟨by (omega), ?_⟩
      refine ⟨hf.up (by decide), i2, hp, ?_, fun j a b => ?_⟩
      · rw [e7, hn, zup_at]; exact if_pos rfl
      · show (if j = _ then _ else s 20 j) = _ ∧ s 21 j = 0
        rw [if_neg (by omega)]
        exact ha j a b
    · intro h2
      refine ⟨?_, ?_⟩
      · intro h3
        refine ⟨by ((exfalso; omega)), ?_⟩
        refine ⟨by ((exfalso; omega)), ?_⟩
        refine ⟨by (exfalso; omega), ?_⟩
        refine ⟨by (exfalso; omega), ?_⟩
        exfalso; omega
      · intro h4
        refine ⟨by ((exfalso; omega)), ?_⟩
        refine ⟨by (exfalso; omega), ?_⟩
        refine ⟨by ((exfalso; omega)), ?_⟩
        refine ⟨by (exfalso; omega), ?_⟩
        refine ⟨?_, ?_⟩
        · intro h5
          refine ⟨by (exfalso; omega), ?_⟩
          exfalso; omega
        · intro h6
          refine ⟨by ((exfalso; omega)), ?_⟩
          refine ⟨by ((exfalso; omega)), ?_⟩
          refine ⟨by (exfalso; omega), ?_⟩
          refine ⟨by (exfalso; omega), ?_⟩
          exfalso; omega
  | succ m ih =>
    intro k s hk hf i2 hp ha
    have e7 := i2 7 (by decide)
    have e3 := i2 3 (by decide)
    have e17 : s 17 = σ 17 := hf 17 (by decide)
    have hl := zbk_le (σ 17) (σ 2 3) k
    have hxk := hx k (by omega) (by omega)
    have hxp := hx ((k : Int) - 1)
    refine zwalk zmk_17 [(7, [true, true])] 3 ?_
    show (((s 2 (7 : Int)) ≤ (k : Int) → ((0 ≤ (s 2 (10 : Int)) ∧ (s 2 (10 : Int)) < (41 : Int)) ∧ (zfr [2, 20, 21] σ (zup s 20 (s 2 (10 : Int)) (s 2 (7 : Int))) ∧ (∀ j : Int, ¬ j = 10 → (zup s 20 (s 2 (10 : Int)) (s 2 (7 : Int))) 2 j = σ 2 j) ∧ (zup s 20 (s 2 (10 : Int)) (s 2 (7 : Int))) 2 10 = zbk (σ 17) (σ 2 3) n ∧ (zup s 20 (s 2 (10 : Int)) (s 2 (7 : Int))) 20 (zbk (σ 17) (σ 2 3) n) = (n : Int) ∧ ∀ j : Int, 0 ≤ j → j < zbk (σ 17) (σ 2 3) n → (zup s 20 (s 2 (10 : Int)) (s 2 (7 : Int))) 20 j = zfs (σ 17) (σ 2 3) n j ∧ (zup s 20 (s 2 (10 : Int)) (s 2 (7 : Int))) 21 j = 0))) ∧ ((k : Int) < (s 2 (7 : Int)) → (((k : Int) = 0 → ((0 ≤ (s 2 (10 : Int)) ∧ (s 2 (10 : Int)) < (41 : Int)) ∧ ((0 ≤ (s 2 (10 : Int)) ∧ (s 2 (10 : Int)) < (40 : Int)) ∧ (zI ((s 2 (10 : Int)) + (1 : Int)) ∧ (zI ((k : Int) + (1 : Int)) ∧ zRuns 17 zX0 (fun (v : Int) (u : zS) => zfr [2, 20, 21] σ u ∧ (∀ j : Int, ¬ j = 10 → u 2 j = σ 2 j) ∧ u 2 10 = zbk (σ 17) (σ 2 3) n ∧ u 20 (zbk (σ 17) (σ 2 3) n) = (n : Int) ∧ ∀ j : Int, 0 ≤ j → j < zbk (σ 17) (σ 2 3) n → u 20 j = zfs (σ 17) (σ 2 3) n j ∧ u 21 j = 0) 7 [some (.inr (.inr (2, 0))), some (.inl ((k : Int) + (1 : Int)))] [] (zup (zup (zup s 20 (s 2 (10 : Int)) (k : Int)) 21 (s 2 (10 : Int)) (0 : Int)) 2 (10 : Int) ((s 2 (10 : Int)) + (1 : Int)))))))) ∧ (¬ (k : Int) = 0 → ((0 ≤ (k : Int) ∧ (k : Int) < (40 : Int)) ∧ (zI ((k : Int) - (1 : Int)) ∧ ((0 ≤ ((k : Int) - (1 : Int)) ∧ ((k : Int) - (1 : Int)) < (40 : Int)) ∧ (zI ((s 17 (k : Int)) - (s 17 ((k : Int) - (1 : Int)))) ∧ ((((s 17 (k : Int)) - (s 17 ((k : Int) - (1 : Int)))) ≤ (s 2 (3 : Int)) → (zI ((k : Int) + (1 : Int)) ∧ zRuns 17 zX0 (fun (v : Int) (u : zS) => zfr [2, 20, 21] σ u ∧ (∀ j : Int, ¬ j = 10 → u 2 j = σ 2 j) ∧ u 2 10 = zbk (σ 17) (σ 2 3) n ∧ u 20 (zbk (σ 17) (σ 2 3) n) = (n : Int) ∧ ∀ j : Int, 0 ≤ j → j < zbk (σ 17) (σ 2 3) n → u 20 j = zfs (σ 17) (σ 2 3) n j ∧ u 21 j = 0) 7 [some (.inr (.inr (2, 0))), some (.inl ((k : Int) + (1 : Int)))] [] s)) ∧ ((s 2 (3 : Int)) < ((s 17 (k : Int)) - (s 17 ((k : Int) - (1 : Int)))) → ((0 ≤ (s 2 (10 : Int)) ∧ (s 2 (10 : Int)) < (41 : Int)) ∧ ((0 ≤ (s 2 (10 : Int)) ∧ (s 2 (10 : Int)) < (40 : Int)) ∧ (zI ((s 2 (10 : Int)) + (1 : Int)) ∧ (zI ((k : Int) + (1 : Int)) ∧ zRuns 17 zX0 (fun (v : Int) (u : zS) => zfr [2, 20, 21] σ u ∧ (∀ j : Int, ¬ j = 10 → u 2 j = σ 2 j) ∧ u 2 10 = zbk (σ 17) (σ 2 3) n ∧ u 20 (zbk (σ 17) (σ 2 3) n) = (n : Int) ∧ ∀ j : Int, 0 ≤ j → j < zbk (σ 17) (σ 2 3) n → u 20 j = zfs (σ 17) (σ 2 3) n j ∧ u 21 j = 0) 7 [some (.inr (.inr (2, 0))), some (.inl ((k : Int) + (1 : Int)))] [] (zup (zup (zup s 20 (s 2 (10 : Int)) (k : Int)) 21 (s 2 (10 : Int)) (0 : Int)) 2 (10 : Int) ((s 2 (10 : Int)) + (1 : Int)))))))))))))))))
    rw [e17, hp, e7, e3]
    refine ⟨?_, ?_⟩
    · intro h1
      refine ⟨by (first | exact ⟨by omega, by omega⟩ | (exfalso; omega)), ?_⟩
      exfalso; omega
    · intro h2
      refine ⟨?_, ?_⟩
      · intro h3
        refine ⟨by (first | exact ⟨by omega, by omega⟩ | (exfalso; omega)), ?_⟩
        refine ⟨by (first | exact ⟨by omega, by omega⟩ | (exfalso; omega)), ?_⟩
        refine ⟨by (first | exact ⟨by omega, by omega⟩ | (exfalso; omega)), ?_⟩
        refine ⟨by (first | exact ⟨by omega, by omega⟩ | (exfalso; omega)), ?_⟩
        have hb : k = 0 ∨ σ 2 3 < σ 17 k - σ 17 ((k : Int) - 1) := by omega
        have hz := zbk_y hb
        refine ih (k + 1) _ (by omega) ?_ ?_ ?_ ?_
        · exact ((hf.up (c := 20) (by decide)).up (c := 21) (by decide)).up (c := 2) (by decide)
        · intro j hj
          show (if j = 10 then _ else s 2 j) = _
          rw [if_neg hj]; exact i2 j hj
        · show zbk (σ 17) (σ 2 3) k + 1 = _
          rw [hz.1]
        · intro j q0 q1
          show (if j = zbk (σ 17) (σ 2 3) k then (k : Int) else s 20 j) = _ ∧ (if j = zbk (σ 17) (σ 2 3) k then (0 : Int) else s 21 j) = 0
          rw [hz.2]
          by_cases e : j = zbk (σ 17) (σ 2 3) k
          · simp only [if_pos e]; exact ⟨trivial, trivial⟩
          · simp only [if_neg e]
            exact ha j q0 (by omega)
      · intro h4
        refine ⟨by (first | exact ⟨by omega, by omega⟩ | (exfalso; omega)), ?_⟩
        refine ⟨by (first | exact ⟨by omega, by omega⟩ | (exfalso; omega)), ?_⟩
        refine ⟨by (first | exact ⟨by omega, by omega⟩ | (exfalso; omega)), ?_⟩
        refine ⟨by (first | exact ⟨by omega, by omega⟩ | (exfalso; omega)), ?_⟩
        refine ⟨?_, ?_⟩
        · intro h5
          refine ⟨by (first | exact ⟨by omega, by omega⟩ | (exfalso; omega)), ?_⟩
          have hz := zbk_n (x := σ 17) (g := σ 2 3) (k := k) (by omega)
          refine ih (k + 1) _ (by omega) hf i2 (by rw [hz.1, hp]) ?_
          rw [hz.1, hz.2]
          exact ha
        · intro h6
          refine ⟨by (first | exact ⟨by omega, by omega⟩ | (exfalso; omega)), ?_⟩
          refine ⟨by (first | exact ⟨by omega, by omega⟩ | (exfalso; omega)), ?_⟩
          refine ⟨by (first | exact ⟨by omega, by omega⟩ | (exfalso; omega)), ?_⟩
          refine ⟨by (first | exact ⟨by omega, by omega⟩ | (exfalso; omega)), ?_⟩
          have hb : k = 0 ∨ σ 2 3 < σ 17 k - σ 17 ((k : Int) - 1) := by omega
          have hz := zbk_y hb
          refine ih (k + 1) _ (by omega) ?_ ?_ ?_ ?_
          · exact ((hf.up (c := 20) (by decide)).up (c := 21) (by decide)).up (c := 2) (by decide)
          · intro j hj
            show (if j = 10 then _ else s 2 j) = _
            rw [if_neg hj]; exact i2 j hj
          · show zbk (σ 17) (σ 2 3) k + 1 = _
            rw [hz.1]
          · intro j q0 q1
            show (if j = zbk (σ 17) (σ 2 3) k then (k : Int) else s 20 j) = _ ∧ (if j = zbk (σ 17) (σ 2 3) k then (0 : Int) else s 21 j) = 0
            rw [hz.2]
            by_cases e : j = zbk (σ 17) (σ 2 3) k
            · simp only [if_pos e]; exact ⟨trivial, trivial⟩
            · simp only [if_neg e]
              exact ha j q0 (by omega)
set_option maxRecDepth 100000 in
set_option maxHeartbeats 4000000 in
theorem am_X2_beginInks {σ : zS} {n : Nat} (hn : σ 2 7 = (n : Int)) (hn40 : n ≤ 40) (hx : ∀ j : Int, 0 ≤ j → j < n → 0 ≤ σ 17 j ∧ σ 17 j ≤ 2000) : zAM 17 [.inr (.inr (2, 0))] σ (fun (v : Int) (u : zS) => zfr [2, 20, 21] σ u ∧ (∀ j : Int, ¬ j = 10 → u 2 j = σ 2 j) ∧ u 2 10 = zbk (σ 17) (σ 2 3) n ∧ u 20 (zbk (σ 17) (σ 2 3) n) = (n : Int) ∧ ∀ j : Int, 0 ≤ j → j < zbk (σ 17) (σ 2 3) n → u 20 j = zfs (σ 17) (σ 2 3) n j ∧ u 21 j = 0) := by
  refine zam (by decide) (Nat.le_of_ble_eq_true rfl) ?_
  refine zwalk zmk_17 [(7, [true, true])] 2 ?_
  show zRuns 17 zX0 (fun (v : Int) (u : zS) => zfr [2, 20, 21] σ u ∧ (∀ j : Int, ¬ j = 10 → u 2 j = σ 2 j) ∧ u 2 10 = zbk (σ 17) (σ 2 3) n ∧ u 20 (zbk (σ 17) (σ 2 3) n) = (n : Int) ∧ ∀ j : Int, 0 ≤ j → j < zbk (σ 17) (σ 2 3) n → u 20 j = zfs (σ 17) (σ 2 3) n j ∧ u 21 j = 0) 7 [some (.inr (.inr (2, 0))), some (.inl (0 : Int))] [] (zup σ 2 (10 : Int) (0 : Int))
  refine lp_begin (σ := σ) hn hn40 hx n 0 _ (by omega) (zfr.rf.up (by decide)) ?_ rfl ?_
  · intro j hj
    show (if j = 10 then _ else σ 2 j) = _
    rw [if_neg hj]
  · intro j q0 q1
    exact absurd q1 (by show ¬ j < 0; omega)
end
section
/-! which INK a dot belongs to, and which PIECE -/
def zmn (x : Int → Int) (a s : Int) : Nat → Int
  | 0 => s
  | m + 1 => min (zmn x a s m) (x (a + (m : Int)))
def zmx (x : Int → Int) (a s : Int) : Nat → Int
  | 0 => s
  | m + 1 => max (zmx x a s m) (x (a + (m : Int)))
def zne (x : Int → Int) (p a : Int) : Nat → Int
  | 0 => a
  | m + 1 => if zaw (x (a + (m : Int))) p < zaw (x (zne x p a m)) p then a + (m : Int) else zne x p a m
def zIn (x f : Int → Int) (p i : Int) : Bool := decide (zmn x (f i) 5000 (f (i + 1) - f i).toNat - 5 ≤ p ∧ p ≤ zmx x (f i) (-1) (f (i + 1) - f i).toNat + 5)
def zfi (P : Int → Bool) : Nat → Int
  | 0 => -1
  | n + 1 => if 0 ≤ zfi P n then zfi P n else bif P n then (n : Int) else -1
theorem zfi_none {P : Int → Bool} : ∀ {n : Nat}, (∀ j : Int, 0 ≤ j → j < n → P j = false) → zfi P n = -1
  | 0, _ => rfl
  | n + 1, h => by
    have e := zfi_none (P := P) (n := n) (fun j a b => h j a (by omega))
    simp only [zfi, e, h n (by omega) (by omega)]
    rfl
theorem zfi_some {P : Int → Bool} {v : Int} (h0 : 0 ≤ v) (hP : P v = true) (hj : ∀ j : Int, 0 ≤ j → j < v → P j = false) : ∀ {n : Nat}, v < n → zfi P n = v
  | 0, h => absurd h (by omega)
  | n + 1, h => by
    by_cases e : v < n
    · have := zfi_some h0 hP hj (n := n) e
      simp only [zfi, this, if_pos h0]
    · have hv : v = n := by omega
      have e9 := zfi_none (P := P) (n := n) (fun j a b => hj j a (by omega))
      subst hv
      simp only [zfi, e9, hP]
      rfl
theorem zfi_r {P : Int → Bool} : ∀ n : Nat, zfi P n = -1 ∨ 0 ≤ zfi P n ∧ zfi P n < n ∧ P (zfi P n) = true
  | 0 => Or.inl rfl
  | n + 1 => by
    rcases zfi_r (P := P) n with e | ⟨a, b, c⟩
    · simp only [zfi, e]
      cases h : P n with
      | false => exact Or.inl rfl
      | true => exact Or.inr ⟨by show (0 : Int) ≤ n; omega, by show (n : Int) < _; omega, h⟩
    · simp only [zfi, if_pos a]
      exact Or.inr ⟨a, by omega, c⟩
theorem zfi_congr {P Q : Int → Bool} : ∀ {n : Nat}, (∀ j : Int, 0 ≤ j → j < n → P j = Q j) → zfi P n = zfi Q n
  | 0, _ => rfl
  | n + 1, h => by
    have e := zfi_congr (P := P) (Q := Q) (n := n) (fun j a b => h j a (by omega))
    simp only [zfi, e, h n (by omega) (by omega)]
theorem zmn_big {x : Int → Int} {a s : Int} (hs : x a ≤ s) : ∀ m : Nat, zmn x a s (m + 1) = zmn x a (x a) (m + 1)
  | 0 => by simp only [zmn, show a + ((0 : Nat) : Int) = a by omega]; omega
  | m + 1 => by
    show min (zmn x a s (m + 1)) _ = min (zmn x a (x a) (m + 1)) _
    rw [zmn_big hs m]
theorem zmx_big {x : Int → Int} {a s : Int} (hs : s ≤ x a) : ∀ m : Nat, zmx x a s (m + 1) = zmx x a (x a) (m + 1)
  | 0 => by simp only [zmx, show a + ((0 : Nat) : Int) = a by omega]; omega
  | m + 1 => by
    show max (zmx x a s (m + 1)) _ = max (zmx x a (x a) (m + 1)) _
    rw [zmx_big hs m]
theorem zmn_r {x : Int → Int} {a : Int} : ∀ m : Nat, (∀ j : Int, a ≤ j → j < a + m → 0 ≤ x j ∧ x j ≤ 2000) → ∀ s, 0 ≤ s → s ≤ 5000 → 0 ≤ zmn x a s m ∧ zmn x a s m ≤ 5000
  | 0, _, s, h0, h1 => ⟨h0, h1⟩
  | m + 1, h, s, h0, h1 => by
    have := zmn_r (x := x) (a := a) m (fun j p q => h j p (by omega)) s h0 h1
    have := h (a + m) (by omega) (by omega)
    simp only [zmn]; omega
theorem zmx_r {x : Int → Int} {a : Int} : ∀ m : Nat, (∀ j : Int, a ≤ j → j < a + m → 0 ≤ x j ∧ x j ≤ 2000) → ∀ s, -1 ≤ s → s ≤ 2000 → -1 ≤ zmx x a s m ∧ zmx x a s m ≤ 2000
  | 0, _, s, h0, h1 => ⟨h0, h1⟩
  | m + 1, h, s, h0, h1 => by
    have := zmx_r (x := x) (a := a) m (fun j p q => h j p (by omega)) s h0 h1
    have := h (a + m) (by omega) (by omega)
    simp only [zmx]; omega
theorem zne_r {x : Int → Int} {p a : Int} : ∀ m : Nat, a ≤ zne x p a m ∧ (zne x p a m = a ∨ zne x p a m < a + m)
  | 0 => ⟨Int.le_refl _, Or.inl rfl⟩
  | m + 1 => by
    have := zne_r (x := x) (p := p) (a := a) m
    simp only [zne]
    split <;> omega
theorem zab {a p : Int} : (if a - p < 0 then -(a - p) else a - p) = zaw a p := by
  unfold zaw
  repeat' split
  all_goals omega
/-- the pieces of the inks lie in order -/
def zLF (σ : zS) : Prop := 0 ≤ σ 2 10 ∧ σ 2 10 ≤ 40 ∧ (∀ i : Int, 0 ≤ i → i < σ 2 10 → 0 ≤ σ 20 i ∧ σ 20 i < σ 20 (i + 1) ∧ σ 20 (i + 1) ≤ 40) ∧ ∀ j : Int, 0 ≤ j → j < 40 → j < σ 20 (σ 2 10) → 0 ≤ σ 17 j ∧ σ 17 j ≤ 2000
set_option maxRecDepth 100000 in
set_option maxHeartbeats 4000000 in
theorem lp_near {σ : zS} {p i a b : Int} (hi : 0 ≤ i ∧ i < 40) (ha : σ 20 i = a) (hb : σ 20 (i + 1) = b) (h0 : 0 ≤ a ∧ a < b ∧ b ≤ 40) (hp : 0 ≤ p ∧ p ≤ 2000) (hx : ∀ j : Int, a ≤ j → j < b → 0 ≤ σ 17 j ∧ σ 17 j ≤ 2000) : ∀ (n m : Nat), a + (m : Int) + (n : Int) = b → zRuns 20 zX0 (fun (v : Int) (u : zS) => σ = u ∧ zne (σ 17) p (σ 20 i) (σ 20 (i + 1) - σ 20 i).toNat = v) 15 [some (.inr (.inr (2, 0))), some (.inl i), some (.inl p), some (.inl (zne (σ 17) p a m)), some (.inl (a + (m : Int)))] [] σ := by
  intro n
  induction n with
  | zero =>
    intro m hm
    have hz := zne_r (x := σ 17) (p := p) (a := a) m
    refine zwalk zmk_20 [(15, [true, true, true, true, true])] 3 ?_
    show (zI (i + (1 : Int)) ∧ ((0 ≤ (i + (1 : Int)) ∧ (i + (1 : Int)) < (41 : Int)) ∧ (((σ 20 (i + (1 : Int))) ≤ (a + (m : Int)) → (σ = σ ∧ zne (σ 17) p (σ 20 i) (σ 20 (i + 1) - σ 20 i).toNat = (zne (σ 17) p a m))) ∧ ((a + (m : Int)) < (σ 20 (i + (1 : Int))) → ((0 ≤ (a + (m : Int)) ∧ (a + (m : Int)) < (40 : Int)) ∧ (zI ((σ 17 (a + (m : Int))) - p) ∧ (zI (-((σ 17 (a + (m : Int))) - p)) ∧ ((0 ≤ (zne (σ 17) p a m) ∧ (zne (σ 17) p a m) < (40 : Int)) ∧ (zI ((σ 17 (zne (σ 17) p a m)) - p) ∧ (zI (-((σ 17 (zne (σ 17) p a m)) - p)) ∧ (((if ((σ 17 (zne (σ 17) p a m)) - p) < 0 then -((σ 17 (zne (σ 17) p a m)) - p) else ((σ 17 (zne (σ 17) p a m)) - p)) ≤ (if ((σ 17 (a + (m : Int))) - p) < 0 then -((σ 17 (a + (m : Int))) - p) else ((σ 17 (a + (m : Int))) - p)) → (zI ((a + (m : Int)) + (1 : Int)) ∧ zRuns 20 zX0 (fun (v : Int) (u : zS) => σ = u ∧ zne (σ 17) p (σ 20 i) (σ 20 (i + 1) - σ 20 i).toNat = v) 15 [some (.inr (.inr (2, 0))), some (.inl i), some (.inl p), some (.inl (zne (σ 17) p a m)), some (.inl ((a + (m : Int)) + (1 : Int)))] [] σ)) ∧ ((if ((σ 17 (a + (m : Int))) - p) < 0 then -((σ 17 (a + (m : Int))) - p) else ((σ 17 (a + (m : Int))) - p)) < (if ((σ 17 (zne (σ 17) p a m)) - p) < 0 then -((σ 17 (zne (σ 17) p a m)) - p) else ((σ 17 (zne (σ 17) p a m)) - p)) → (zI ((a + (m : Int)) + (1 : Int)) ∧ zRuns 20 zX0 (fun (v : Int) (u : zS) => σ = u ∧ zne (σ 17) p (σ 20 i) (σ 20 (i + 1) - σ 20 i).toNat = v) 15 [some (.inr (.inr (2, 0))), some (.inl i), some (.inl p), some (.inl (a + (m : Int))), some (.inl ((a + (m : Int)) + (1 : Int)))] [] σ)))))))))))))
    refine ⟨by (first | exact ⟨by omega, by omega⟩ | (exfalso; omega)), ?_⟩
    refine ⟨by (first | exact ⟨by omega, by omega⟩ | (exfalso; omega)), ?_⟩
    refine ⟨?_, ?_⟩
    · intro h1
      refine ⟨rfl, ?_⟩
      rw [ha, hb, show (b - a).toNat = m by omega]
    · intro h2
      refine ⟨by (first | exact ⟨by omega, by omega⟩ | (exfalso; omega)), ?_⟩
      refine ⟨by (first | exact ⟨by omega, by omega⟩ | (exfalso; omega)), ?_⟩
      refine ⟨by (first | exact ⟨by omega, by omega⟩ | (exfalso; omega)), ?_⟩
      refine ⟨by (first | exact ⟨by omega, by omega⟩ | (exfalso; omega)), ?_⟩
      refine ⟨by (first | exact ⟨by omega, by omega⟩ | (exfalso; omega)), ?_⟩
      refine ⟨by (first | exact ⟨by omega, by omega⟩ | (exfalso; omega)), ?_⟩
      refine ⟨?_, ?_⟩
      · intro h3
        refine ⟨by (first | exact ⟨by omega, by omega⟩ | (exfalso; omega)), ?_⟩
        exfalso; omega
      · intro h4
        refine ⟨by (first | exact ⟨by omega, by omega⟩ | (exfalso; omega)), ?_⟩
        exfalso; omega
  | succ n ih =>
    intro m hm
    have hz := zne_r (x := σ 17) (p := p) (a := a) m
    have hx1 := hx (a + (m : Int)) (by omega) (by omega)
    have hx2 := hx (zne (σ 17) p a m) (by omega) (by omega)
    have e1 : a + ((m + 1 : Nat) : Int) = a + (m : Int) + 1 := by omega
    have hI := ih (m + 1) (by omega)
    rw [e1] at hI
    refine zwalk zmk_20 [(15, [true, true, true, true, true])] 3 ?_
    show (zI (i + (1 : Int)) ∧ ((0 ≤ (i + (1 : Int)) ∧ (i + (1 : Int)) < (41 : Int)) ∧ (((σ 20 (i + (1 : Int))) ≤ (a + (m : Int)) → (σ = σ ∧ zne (σ 17) p (σ 20 i) (σ 20 (i + 1) - σ 20 i).toNat = (zne (σ 17) p a m))) ∧ ((a + (m : Int)) < (σ 20 (i + (1 : Int))) → ((0 ≤ (a + (m : Int)) ∧ (a + (m : Int)) < (40 : Int)) ∧ (zI ((σ 17 (a + (m : Int))) - p) ∧ (zI (-((σ 17 (a + (m : Int))) - p)) ∧ ((0 ≤ (zne (σ 17) p a m) ∧ (zne (σ 17) p a m) < (40 : Int)) ∧ (zI ((σ 17 (zne (σ 17) p a m)) - p) ∧ (zI (-((σ 17 (zne (σ 17) p a m)) - p)) ∧ (((if ((σ 17 (zne (σ 17) p a m)) - p) < 0 then -((σ 17 (zne (σ 17) p a m)) - p) else ((σ 17 (zne (σ 17) p a m)) - p)) ≤ (if ((σ 17 (a + (m : Int))) - p) < 0 then -((σ 17 (a + (m : Int))) - p) else ((σ 17 (a + (m : Int))) - p)) → (zI ((a + (m : Int)) + (1 : Int)) ∧ zRuns 20 zX0 (fun (v : Int) (u : zS) => σ = u ∧ zne (σ 17) p (σ 20 i) (σ 20 (i + 1) - σ 20 i).toNat = v) 15 [some (.inr (.inr (2, 0))), some (.inl i), some (.inl p), some (.inl (zne (σ 17) p a m)), some (.inl ((a + (m : Int)) + (1 : Int)))] [] σ)) ∧ ((if ((σ 17 (a + (m : Int))) - p) < 0 then -((σ 17 (a + (m : Int))) - p) else ((σ 17 (a + (m : Int))) - p)) < (if ((σ 17 (zne (σ 17) p a m)) - p) < 0 then -((σ 17 (zne (σ 17) p a m)) - p) else ((σ 17 (zne (σ 17) p a m)) - p)) → (zI ((a + (m : Int)) + (1 : Int)) ∧ zRuns 20 zX0 (fun (v : Int) (u : zS) => σ = u ∧ zne (σ 17) p (σ 20 i) (σ 20 (i + 1) - σ 20 i).toNat = v) 15 [some (.inr (.inr (2, 0))), some (.inl i), some (.inl p), some (.inl (a + (m : Int))), some (.inl ((a + (m : Int)) + (1 : Int)))] [] σ)))))))))))))
    rw [zab, zab]
    refine ⟨by (exact ⟨by omega, by omega⟩), ?_⟩
    refine ⟨by (exact ⟨by omega, by omega⟩), ?_⟩
    refine ⟨?_, ?_⟩
    · intro h1
      exfalso; omega
    · intro h2
      refine ⟨by (exact ⟨by omega, by omega⟩), ?_⟩
      refine ⟨by (exact ⟨by omega, by omega⟩), ?_⟩
      refine ⟨by (exact ⟨by omega, by omega⟩), ?_⟩
      refine ⟨by (exact ⟨by omega, by omega⟩), ?_⟩
      refine ⟨by (exact ⟨by omega, by omega⟩), ?_⟩
      refine ⟨by (exact ⟨by omega, by omega⟩), ?_⟩
      refine ⟨?_, ?_⟩
      · intro h3
        refine ⟨by (exact ⟨by omega, by omega⟩), ?_⟩
        have e : zne (σ 17) p a (m + 1) = zne (σ 17) p a m := by
          simp only [zne]; rw [if_neg (by omega)]
        rw [e] at hI; exact hI
      · intro h4
        refine ⟨by (exact ⟨by omega, by omega⟩), ?_⟩
        have e : zne (σ 17) p a (m + 1) = a + (m : Int) := by
          simp only [zne]; rw [if_pos (by omega)]
        rw [e] at hI; exact hI
set_option maxRecDepth 100000 in
set_option maxHeartbeats 4000000 in
theorem am_X2_nearestPiece {σ : zS} {i : Int} {p : Int} {a : Int} {b : Int} (hi : 0 ≤ i ∧ i < 40) (ha : σ 20 i = a) (hb : σ 20 (i + 1) = b) (h0 : 0 ≤ a ∧ a < b ∧ b ≤ 40) (hp : 0 ≤ p ∧ p ≤ 2000) (hx : ∀ j : Int, a ≤ j → j < b → 0 ≤ σ 17 j ∧ σ 17 j ≤ 2000) : zAM 20 [.inr (.inr (2, 0)), .inl i, .inl p] σ (fun (v : Int) (u : zS) => σ = u ∧ zne (σ 17) p (σ 20 i) (σ 20 (i + 1) - σ 20 i).toNat = v) := by
  refine zam (by decide) (Nat.le_of_ble_eq_true rfl) ?_
  refine zwalk zmk_20 [(15, [true, true, true, true, true])] 2 ?_
  show ((0 ≤ i ∧ i < (41 : Int)) ∧ ((0 ≤ i ∧ i < (41 : Int)) ∧ zRuns 20 zX0 (fun (v : Int) (u : zS) => σ = u ∧ zne (σ 17) p (σ 20 i) (σ 20 (i + 1) - σ 20 i).toNat = v) 15 [some (.inr (.inr (2, 0))), some (.inl i), some (.inl p), some (.inl (σ 20 i)), some (.inl (σ 20 i))] [] σ))
  refine ⟨by (first | omega | exact ⟨by omega, by omega⟩ | exact ⟨by omega, by omega, by omega⟩ | exact ⟨by omega, by omega, by omega, by omega, by omega⟩), ?_⟩
  refine ⟨by (first | omega | exact ⟨by omega, by omega⟩ | exact ⟨by omega, by omega, by omega⟩ | exact ⟨by omega, by omega, by omega, by omega, by omega⟩), ?_⟩
  have h9 := lp_near hi ha hb h0 hp hx (b - a).toNat 0 (by omega)
  rw [show a + ((0 : Nat) : Int) = σ 20 i by omega] at h9
  have e9 : zne (σ 17) p a 0 = σ 20 i := ha.symm
  rw [e9] at h9
  exact h9
end
section
theorem zIn_iff {x f : Int → Int} {p i a b : Int} {m : Nat} (ha : f i = a) (hb : f (i + 1) = b) (hm : b = a + ((m + 1 : Nat) : Int)) (hx : 0 ≤ x a ∧ x a ≤ 2000) : zIn x f p i = true ↔ zmn x a (x a) (m + 1) - 5 ≤ p ∧ p ≤ zmx x a (x a) (m + 1) + 5 := by
  unfold zIn
  rw [decide_eq_true_eq, ha, hb, show (b - a).toNat = m + 1 by omega, zmn_big (by omega), zmx_big (by omega)]
set_option maxRecDepth 100000 in
set_option maxHeartbeats 4000000 in
theorem lp_minmax {σ : zS} {R : Int → zS → Prop} {p i a b : Int} (hi : 0 ≤ i ∧ i < 40) (hb : σ 20 (i + 1) = b) (h0 : 0 ≤ a ∧ a < b ∧ b ≤ 40) (hx : ∀ j : Int, a ≤ j → j < b → 0 ≤ σ 17 j ∧ σ 17 j ≤ 2000) (K : zRuns 19 zX0 R 78 [some (.inr (.inr (2, 0))), some (.inl p), some (.inl i), some (.inl (zmn (σ 17) a (σ 17 a) (b - a).toNat)), some (.inl (zmx (σ 17) a (σ 17 a) (b - a).toNat)), none] [] σ) : ∀ (n m : Nat), a + (m : Int) + (n : Int) = b → zRuns 19 zX0 R 33 [some (.inr (.inr (2, 0))), some (.inl p), some (.inl i), some (.inl (zmn (σ 17) a (σ 17 a) m)), some (.inl (zmx (σ 17) a (σ 17 a) m)), some (.inl (a + (m : Int)))] [] σ := by
  intro n
  induction n with
  | zero =>
    intro m hm
    refine zwalk zmk_19 [(2, [true, true, true, false, false, false]), (33, [true, true, true, true, true, true]), (78, [true, true, true, true, true, false])] 2 ?_
    show (zI (i + (1 : Int)) ∧ ((0 ≤ (i + (1 : Int)) ∧ (i + (1 : Int)) < (41 : Int)) ∧ (((σ 20 (i + (1 : Int))) ≤ (a + (m : Int)) → zRuns 19 zX0 R 78 [some (.inr (.inr (2, 0))), some (.inl p), some (.inl i), some (.inl (zmn (σ 17) a (σ 17 a) m)), some (.inl (zmx (σ 17) a (σ 17 a) m)), none] [] σ) ∧ ((a + (m : Int)) < (σ 20 (i + (1 : Int))) → ((0 ≤ (a + (m : Int)) ∧ (a + (m : Int)) < (40 : Int)) ∧ ((0 ≤ (a + (m : Int)) ∧ (a + (m : Int)) < (40 : Int)) ∧ (zI ((a + (m : Int)) + (1 : Int)) ∧ zRuns 19 zX0 R 33 [some (.inr (.inr (2, 0))), some (.inl p), some (.inl i), some (.inl (min (zmn (σ 17) a (σ 17 a) m) (σ 17 (a + (m : Int))))), some (.inl (max (zmx (σ 17) a (σ 17 a) m) (σ 17 (a + (m : Int))))), some (.inl ((a + (m : Int)) + (1 : Int)))] [] σ)))))))
    refine ⟨by (first | exact ⟨by omega, by omega⟩ | (exfalso; omega)), ?_⟩
    refine ⟨by (first | exact ⟨by omega, by omega⟩ | (exfalso; omega)), ?_⟩
    refine ⟨?_, ?_⟩
    · intro h1
      rw [show (b - a).toNat = m by omega] at K
      exact K
    · intro h2
      refine ⟨by (first | exact ⟨by omega, by omega⟩ | (exfalso; omega)), ?_⟩
      refine ⟨by (first | exact ⟨by omega, by omega⟩ | (exfalso; omega)), ?_⟩
      refine ⟨by (first | exact ⟨by omega, by omega⟩ | (exfalso; omega)), ?_⟩
      exfalso; omega
  | succ n ih =>
    intro m hm
    have hx1 := hx (a + (m : Int)) (by omega) (by omega)
    have e1 : a + ((m + 1 : Nat) : Int) = a + (m : Int) + 1 := by omega
    have hI := ih (m + 1) (by omega)
    rw [e1] at hI
    refine zwalk zmk_19 [(2, [true, true, true, false, false, false]), (33, [true, true, true, true, true, true]), (78, [true, true, true, true, true, false])] 2 ?_
    show (zI (i + (1 : Int)) ∧ ((0 ≤ (i + (1 : Int)) ∧ (i + (1 : Int)) < (41 : Int)) ∧ (((σ 20 (i + (1 : Int))) ≤ (a + (m : Int)) → zRuns 19 zX0 R 78 [some (.inr (.inr (2, 0))), some (.inl p), some (.inl i), some (.inl (zmn (σ 17) a (σ 17 a) m)), some (.inl (zmx (σ 17) a (σ 17 a) m)), none] [] σ) ∧ ((a + (m : Int)) < (σ 20 (i + (1 : Int))) → ((0 ≤ (a + (m : Int)) ∧ (a + (m : Int)) < (40 : Int)) ∧ ((0 ≤ (a + (m : Int)) ∧ (a + (m : Int)) < (40 : Int)) ∧ (zI ((a + (m : Int)) + (1 : Int)) ∧ zRuns 19 zX0 R 33 [some (.inr (.inr (2, 0))), some (.inl p), some (.inl i), some (.inl (min (zmn (σ 17) a (σ 17 a) m) (σ 17 (a + (m : Int))))), some (.inl (max (zmx (σ 17) a (σ 17 a) m) (σ 17 (a + (m : Int))))), some (.inl ((a + (m : Int)) + (1 : Int)))] [] σ)))))))
    refine ⟨by (first | exact ⟨by omega, by omega⟩ | (exfalso; omega)), ?_⟩
    refine ⟨by (first | exact ⟨by omega, by omega⟩ | (exfalso; omega)), ?_⟩
    refine ⟨?_, ?_⟩
    · intro h1
      exfalso; omega
    · intro h2
      refine ⟨by (first | exact ⟨by omega, by omega⟩ | (exfalso; omega)), ?_⟩
      refine ⟨by (first | exact ⟨by omega, by omega⟩ | (exfalso; omega)), ?_⟩
      refine ⟨by (first | exact ⟨by omega, by omega⟩ | (exfalso; omega)), ?_⟩
      exact hI
set_option maxRecDepth 100000 in
set_option maxHeartbeats 4000000 in
theorem lp_under {σ : zS} {p : Int} (hL : zLF σ) (hp : 0 ≤ p ∧ p ≤ 2000) : ∀ (n k : Nat), (k : Int) + (n : Int) = σ 2 10 → (∀ j : Int, 0 ≤ j → j < k → zIn (σ 17) (σ 20) p j = false) → zRuns 19 zX0 (fun (v : Int) (u : zS) => σ = u ∧ zfi (zIn (σ 17) (σ 20) p) (σ 2 10).toNat = v) 2 [some (.inr (.inr (2, 0))), some (.inl p), some (.inl (k : Int)), none, none, none] [] σ := by
  intro n
  induction n with
  | zero =>
    intro k hk hj
    obtain ⟨l0, l1, l2, l3⟩ := hL
    refine zwalk zmk_19 [(2, [true, true, true, false, false, false]), (33, [true, true, true, true, true, true])] 3 ?_
    show (((σ 2 (10 : Int)) ≤ (k : Int) → (σ = σ ∧ zfi (zIn (σ 17) (σ 20) p) (σ 2 10).toNat = (-1 : Int))) ∧ ((k : Int) < (σ 2 (10 : Int)) → ((0 ≤ (k : Int) ∧ (k : Int) < (41 : Int)) ∧ ((0 ≤ (σ 20 (k : Int)) ∧ (σ 20 (k : Int)) < (40 : Int)) ∧ ((0 ≤ (k : Int) ∧ (k : Int) < (41 : Int)) ∧ zRuns 19 zX0 (fun (v : Int) (u : zS) => σ = u ∧ zfi (zIn (σ 17) (σ 20) p) (σ 2 10).toNat = v) 33 [some (.inr (.inr (2, 0))), some (.inl p), some (.inl (k : Int)), some (.inl (σ 17 (σ 20 (k : Int)))), some (.inl (σ 17 (σ 20 (k : Int)))), some (.inl (σ 20 (k : Int)))] [] σ)))))
    refine ⟨?_, ?_⟩
    · intro h1
      first | exact ⟨rfl, zfi_none (fun j a b => hj j a (by omega))⟩ | (exfalso; omega)
    · intro h2
      refine ⟨by (first | exact ⟨by omega, by omega⟩ | (exfalso; omega)), ?_⟩
      refine ⟨by (first | exact ⟨by omega, by omega⟩ | (exfalso; omega)), ?_⟩
      refine ⟨by (first | exact ⟨by omega, by omega⟩ | (exfalso; omega)), ?_⟩
      exfalso; omega
  | succ n ih =>
    intro k hk hj
    have hL9 := hL
    obtain ⟨l0, l1, l2, l3⟩ := hL9
    have hk2 := l2 k (by omega) (by omega)
    have hle : ∀ j : Int, 0 ≤ j → j ≤ σ 2 10 → σ 20 j ≤ σ 20 (σ 2 10) := by
      intro j j0 j1
      obtain ⟨d, hd⟩ : ∃ d : Nat, j + (d : Int) = σ 2 10 := ⟨(σ 2 10 - j).toNat, by omega⟩
      induction d generalizing j with
      | zero => rw [show j = σ 2 10 by omega]; exact Int.le_refl _
      | succ d ih2 =>
        have := ih2 (j + 1) (by omega) (by omega) (by omega)
        have := l2 j j0 (by omega)
        omega
    have hk3 := hle ((k : Int) + 1) (by omega) (by omega)
    obtain ⟨a, ha⟩ : ∃ a, σ 20 (k : Int) = a := ⟨_, rfl⟩
    obtain ⟨b, hb⟩ : ∃ b, σ 20 ((k : Int) + 1) = b := ⟨_, rfl⟩
    have hx : ∀ j : Int, a ≤ j → j < b → 0 ≤ σ 17 j ∧ σ 17 j ≤ 2000 := fun j q1 q2 => l3 j (by omega) (by omega) (by omega)
    have hxa := hx a (Int.le_refl _) (by omega)
    have hiff := zIn_iff (x := σ 17) (p := p) ha hb (m := (b - a).toNat - 1) (by omega) hxa
    rw [show (b - a).toNat - 1 + 1 = (b - a).toNat by omega] at hiff
    have r1 := zmn_r (x := σ 17) (a := a) (b - a).toNat (fun j q1 q2 => hx j q1 (by omega)) (σ 17 a) (by omega) (by omega)
    have r2 := zmx_r (x := σ 17) (a := a) (b - a).toNat (fun j q1 q2 => hx j q1 (by omega)) (σ 17 a) (by omega) (by omega)
    have K : zRuns 19 zX0 (fun (v : Int) (u : zS) => σ = u ∧ zfi (zIn (σ 17) (σ 20) p) (σ 2 10).toNat = v) 78 [some (.inr (.inr (2, 0))), some (.inl p), some (.inl (k : Int)), some (.inl (zmn (σ 17) a (σ 17 a) (b - a).toNat)), some (.inl (zmx (σ 17) a (σ 17 a) (b - a).toNat)), none] [] σ := by
      refine zwalk zmk_19 [(2, [true, true, true, false, false, false]), (33, [true, true, true, true, true, true])] 3 ?_
      show (zI ((zmn (σ 17) a (σ 17 a) (b - a).toNat) - (5 : Int)) ∧ ((p < ((zmn (σ 17) a (σ 17 a) (b - a).toNat) - (5 : Int)) → (zI ((k : Int) + (1 : Int)) ∧ zRuns 19 zX0 (fun (v : Int) (u : zS) => σ = u ∧ zfi (zIn (σ 17) (σ 20) p) (σ 2 10).toNat = v) 2 [some (.inr (.inr (2, 0))), some (.inl p), some (.inl ((k : Int) + (1 : Int))), none, none, none] [] σ)) ∧ (((zmn (σ 17) a (σ 17 a) (b - a).toNat) - (5 : Int)) ≤ p → (zI ((zmx (σ 17) a (σ 17 a) (b - a).toNat) + (5 : Int)) ∧ ((((zmx (σ 17) a (σ 17 a) (b - a).toNat) + (5 : Int)) < p → (zI ((k : Int) + (1 : Int)) ∧ zRuns 19 zX0 (fun (v : Int) (u : zS) => σ = u ∧ zfi (zIn (σ 17) (σ 20) p) (σ 2 10).toNat = v) 2 [some (.inr (.inr (2, 0))), some (.inl p), some (.inl ((k : Int) + (1 : Int))), none, none, none] [] σ)) ∧ (p ≤ ((zmx (σ 17) a (σ 17 a) (b - a).toNat) + (5 : Int)) → (σ = σ ∧ zfi (zIn (σ 17) (σ 20) p) (σ 2 10).toNat = (k : Int))))))))
      refine ⟨by (first | exact ⟨by omega, by omega⟩ | (exfalso; omega)), ?_⟩
      refine ⟨?_, ?_⟩
      · intro h1
        refine ⟨by (first | exact ⟨by omega, by omega⟩ | (exfalso; omega)), ?_⟩
        have e1 : ((k + 1 : Nat) : Int) = (k : Int) + 1 := by omega
        have hI := ih (k + 1) (by omega) (fun j q1 q2 => by
          by_cases e : j = k
          · cases hz : zIn (σ 17) (σ 20) p j with
            | false => rfl
            | true => rw [e] at hz; have := hiff.mp hz; omega
          · exact hj j q1 (by omega))
        rw [e1] at hI
        exact hI
      · intro h2
        refine ⟨by (first | exact ⟨by omega, by omega⟩ | (exfalso; omega)), ?_⟩
        refine ⟨?_, ?_⟩
        · intro h3
          refine ⟨by (first | exact ⟨by omega, by omega⟩ | (exfalso; omega)), ?_⟩
          have e1 : ((k + 1 : Nat) : Int) = (k : Int) + 1 := by omega
          have hI := ih (k + 1) (by omega) (fun j q1 q2 => by
            by_cases e : j = k
            · cases hz : zIn (σ 17) (σ 20) p j with
              | false => rfl
              | true => rw [e] at hz; have := hiff.mp hz; omega
            · exact hj j q1 (by omega))
          rw [e1] at hI
          exact hI
        · intro h4
          exact ⟨rfl, zfi_some (by omega) (hiff.mpr (by omega)) (fun j q1 q2 => hj j q1 q2) (by omega)⟩
    refine zwalk zmk_19 [(2, [true, true, true, false, false, false]), (33, [true, true, true, true, true, true])] 3 ?_
    show (((σ 2 (10 : Int)) ≤ (k : Int) → (σ = σ ∧ zfi (zIn (σ 17) (σ 20) p) (σ 2 10).toNat = (-1 : Int))) ∧ ((k : Int) < (σ 2 (10 : Int)) → ((0 ≤ (k : Int) ∧ (k : Int) < (41 : Int)) ∧ ((0 ≤ (σ 20 (k : Int)) ∧ (σ 20 (k : Int)) < (40 : Int)) ∧ ((0 ≤ (k : Int) ∧ (k : Int) < (41 : Int)) ∧ zRuns 19 zX0 (fun (v : Int) (u : zS) => σ = u ∧ zfi (zIn (σ 17) (σ 20) p) (σ 2 10).toNat = v) 33 [some (.inr (.inr (2, 0))), some (.inl p), some (.inl (k : Int)), some (.inl (σ 17 (σ 20 (k : Int)))), some (.inl (σ 17 (σ 20 (k : Int)))), some (.inl (σ 20 (k : Int)))] [] σ)))))
    refine ⟨?_, ?_⟩
    · intro h1
      exfalso; omega
    · intro h2
      refine ⟨by (first | exact ⟨by omega, by omega⟩ | (exfalso; omega)), ?_⟩
      refine ⟨by (first | exact ⟨by omega, by omega⟩ | (exfalso; omega)), ?_⟩
      refine ⟨by (first | exact ⟨by omega, by omega⟩ | (exfalso; omega)), ?_⟩
      have hI := lp_minmax (p := p) (i := (k : Int)) (by omega) hb (by omega) hx K (b - a).toNat 0 (by omega)
      rw [show a + ((0 : Nat) : Int) = σ 20 (k : Int) by omega] at hI
      have e9 : zmn (σ 17) a (σ 17 a) 0 = σ 17 (σ 20 (k : Int)) := by rw [ha]; rfl
      have e8 : zmx (σ 17) a (σ 17 a) 0 = σ 17 (σ 20 (k : Int)) := by rw [ha]; rfl
      rw [e9, e8] at hI
      exact hI
set_option maxRecDepth 100000 in
set_option maxHeartbeats 4000000 in
theorem am_X2_inkUnder {σ : zS} {p : Int} (hL : zLF σ) (hp : 0 ≤ p ∧ p ≤ 2000) : zAM 19 [.inr (.inr (2, 0)), .inl p] σ (fun (v : Int) (u : zS) => σ = u ∧ zfi (zIn (σ 17) (σ 20) p) (σ 2 10).toNat = v) := by
  refine zam (by decide) (Nat.le_of_ble_eq_true rfl) ?_
  refine zwalk zmk_19 [(2, [true, true, true, false, false, false])] 2 ?_
  show zRuns 19 zX0 (fun (v : Int) (u : zS) => σ = u ∧ zfi (zIn (σ 17) (σ 20) p) (σ 2 10).toNat = v) 2 [some (.inr (.inr (2, 0))), some (.inl p), some (.inl (0 : Int)), none, none, none] [] σ
  have h9 := hL.1
  exact lp_under hL hp (σ 2 10).toNat 0 (by omega) (fun j a b => absurd b (by omega))
end
section
/-! dots joined -/
def zdn (ws : Int → Int) : Nat → Nat
  | 0 => 0
  | k + 1 => zdn ws k + (if ws k = 12 then 1 else 0)
def zdx (wx ws : Int → Int) : Nat → Nat → Int
  | 0 => fun _ => 0
  | k + 1 => if ws k = 12 then fun d => if d = zdn ws k then wx k else zdx wx ws k d else zdx wx ws k
theorem zdn_le (ws : Int → Int) : ∀ k : Nat, zdn ws k ≤ k
  | 0 => Nat.le_refl _
  | k + 1 => by
    have := zdn_le ws k
    simp only [zdn]
    split <;> omega
theorem zdn_pn (ws : Int → Int) : ∀ k : Nat, (zdn ws k : Int) = k - zpn ws k
  | 0 => rfl
  | k + 1 => by
    have := zdn_pn ws k
    simp only [zdn, zpn]
    split <;> omega
theorem zdx_at {wx ws : Int → Int} {k : Nat} (h : ws k = 12) : ∀ n : Nat, k < n → zdx wx ws n (zdn ws k) = wx k ∧ zdn ws k < zdn ws n
  | 0, hk => absurd hk (by omega)
  | n + 1, hk => by
    by_cases e : k = n
    · subst e
      simp only [zdx, zdn, if_pos h, if_true]
      exact ⟨trivial, by omega⟩
    · obtain ⟨a, b⟩ := zdx_at h n (by omega)
      simp only [zdx, zdn]
      by_cases c : ws n = 12
      · simp only [if_pos c]
        rw [if_neg (by omega)]
        exact ⟨a, by omega⟩
      · simp only [if_neg c]
        exact ⟨a, by omega⟩
def zjl (tf : Int → Int) (DX : Nat → Int) : Nat → Int
  | 0 => 0
  | d + 1 => zjl tf DX d + (if tf (DX d) < 0 then 1 else 0)
def zji (tf : Int → Int) (DX : Nat → Int) (j : Int) : Nat → Int
  | 0 => 0
  | d + 1 => zji tf DX j d + (if tf (DX d) = j then 1 else 0)
def zjo (tf : Int → Int) (nr : Int → Int → Int) (DX : Nat → Int) (k : Int) : Nat → Int
  | 0 => 0
  | d + 1 => zjo tf nr DX k d + (if 0 ≤ tf (DX d) ∧ nr (tf (DX d)) (DX d) = k then 1 else 0)
theorem zj_r (tf : Int → Int) (nr : Int → Int → Int) (DX : Nat → Int) (k : Int) : ∀ d : Nat, (0 ≤ zjl tf DX d ∧ zjl tf DX d ≤ d) ∧ (0 ≤ zji tf DX k d ∧ zji tf DX k d ≤ d) ∧ (0 ≤ zjo tf nr DX k d ∧ zjo tf nr DX k d ≤ d)
  | 0 => by simp [zjl, zji, zjo]
  | d + 1 => by
    obtain ⟨a, b, c⟩ := zj_r tf nr DX k d
    simp only [zjl, zji, zjo]
    refine ⟨?_, ?_, ?_⟩
    · split <;> omega
    · split <;> omega
    · split <;> omega
def ztf (x f : Int → Int) (n p : Int) : Int := zfi (zIn x f p) n.toNat
def znr (x f : Int → Int) (t p : Int) : Int := zne x p (f t) (f (t + 1) - f t).toNat
theorem zLF.frame {σ s : zS} (h : zLF σ) (e10 : s 2 10 = σ 2 10) (e17 : s 17 = σ 17) (e20 : s 20 = σ 20) : zLF s := by
  unfold zLF at h ⊢
  rw [e10, e17, e20]
  exact h
theorem zLF.le {σ : zS} (h : zLF σ) : ∀ {i j : Int}, 0 ≤ i → i ≤ j → j ≤ σ 2 10 → σ 20 i ≤ σ 20 j := by
  intro i j j0 j1 j2
  obtain ⟨d, hd⟩ : ∃ d : Nat, i + (d : Int) = j := ⟨(j - i).toNat, by omega⟩
  induction d generalizing i with
  | zero => rw [show i = j by omega]; exact Int.le_refl _
  | succ d ih2 =>
    have := ih2 (i := i + 1) (by omega) (by omega) (by omega)
    have := h.2.2.1 i j0 (by omega)
    omega
set_option maxRecDepth 100000 in
set_option maxHeartbeats 4000000 in
theorem lp_join {σ : zS} {n : Nat} (hL : zLF σ) (hn : σ 2 2 = (n : Int)) (hn40 : n ≤ 40) (hw : ∀ j : Int, 0 ≤ j → j < n → 0 ≤ σ 15 j ∧ σ 15 j ≤ 2000) : ∀ (m k : Nat) (s : zS), k + m = n → zfr [2, 19, 21] σ s → (∀ j : Int, ¬ j = 11 → s 2 j = σ 2 j) → (s 2 11 = zjl (ztf (σ 17) (σ 20) (σ 2 10)) (zdx (σ 15) (σ 16) n) (zdn (σ 16) k) ∧ (∀ j : Int, 0 ≤ j → j < σ 2 10 → s 21 j = zji (ztf (σ 17) (σ 20) (σ 2 10)) (zdx (σ 15) (σ 16) n) j (zdn (σ 16) k)) ∧ ∀ j : Int, 0 ≤ j → j < σ 20 (σ 2 10) → s 19 j = zjo (ztf (σ 17) (σ 20) (σ 2 10)) (znr (σ 17) (σ 20)) (zdx (σ 15) (σ 16) n) j (zdn (σ 16) k)) → zRuns 18 zX0 (fun (v : Int) (u : zS) => zfr [2, 19, 21] σ u ∧ (∀ j : Int, ¬ j = 11 → u 2 j = σ 2 j) ∧ u 2 11 = zjl (ztf (σ 17) (σ 20) (σ 2 10)) (zdx (σ 15) (σ 16) n) (zdn (σ 16) n) ∧ (∀ j : Int, 0 ≤ j → j < σ 2 10 → u 21 j = zji (ztf (σ 17) (σ 20) (σ 2 10)) (zdx (σ 15) (σ 16) n) j (zdn (σ 16) n)) ∧ ∀ j : Int, 0 ≤ j → j < σ 20 (σ 2 10) → u 19 j = zjo (ztf (σ 17) (σ 20) (σ 2 10)) (znr (σ 17) (σ 20)) (zdx (σ 15) (σ 16) n) j (zdn (σ 16) n)) 7 [some (.inr (.inr (2, 0))), some (.inl (k : Int)), none] [] s := by
  intro m
  induction m with
  | zero =>
    intro k s hk hf i2 hi
    have e2 := i2 2 (by decide)
    obtain rfl : n = k := by omega
    have hlt : ¬ (n : Int) < s 2 2 := by omega
    refine zwalk zmk_18 [(7, [true, true, false])] 3 ?_
    show (((s 2 (2 : Int)) ≤ (n : Int) → (zfr [2, 19, 21] σ s ∧ (∀ j : Int, ¬ j = 11 → s 2 j = σ 2 j) ∧ s 2 11 = zjl (ztf (σ 17) (σ 20) (σ 2 10)) (zdx (σ 15) (σ 16) n) (zdn (σ 16) n) ∧ (∀ j : Int, 0 ≤ j → j < σ 2 10 → s 21 j = zji (ztf (σ 17) (σ 20) (σ 2 10)) (zdx (σ 15) (σ 16) n) j (zdn (σ 16) n)) ∧ ∀ j : Int, 0 ≤ j → j < σ 20 (σ 2 10) → s 19 j = zjo (ztf (σ 17) (σ 20) (σ 2 10)) (znr (σ 17) (σ 20)) (zdx (σ 15) (σ 16) n) j (zdn (σ 16) n))) ∧ ((n : Int) < (s 2 (2 : Int)) → ((0 ≤ (n : Int) ∧ (n : Int) < (40 : Int)) ∧ ((¬ (s 16 (n : Int)) = (12 : Int) → (zI ((n : Int) + (1 : Int)) ∧ zRuns 18 zX0 (fun (v : Int) (u : zS) => zfr [2, 19, 21] σ u ∧ (∀ j : Int, ¬ j = 11 → u 2 j = σ 2 j) ∧ u 2 11 = zjl (ztf (σ 17) (σ 20) (σ 2 10)) (zdx (σ 15) (σ 16) n) (zdn (σ 16) n) ∧ (∀ j : Int, 0 ≤ j → j < σ 2 10 → u 21 j = zji (ztf (σ 17) (σ 20) (σ 2 10)) (zdx (σ 15) (σ 16) n) j (zdn (σ 16) n)) ∧ ∀ j : Int, 0 ≤ j → j < σ 20 (σ 2 10) → u 19 j = zjo (ztf (σ 17) (σ 20) (σ 2 10)) (znr (σ 17) (σ 20)) (zdx (σ 15) (σ 16) n) j (zdn (σ 16) n)) 7 [some (.inr (.inr (2, 0))), some (.inl ((n : Int) + (1 : Int))), none] [] s)) ∧ ((s 16 (n : Int)) = (12 : Int) → ((0 ≤ (n : Int) ∧ (n : Int) < (40 : Int)) ∧ (∃ Rc : Int → zS → Prop, zAM 19 [.inr (.inr (2, 0)), .inl (s 15 (n : Int))] s Rc ∧ ∀ (v1 : Int) (u1 : zS), zI v1 → Rc v1 u1 → ((¬ v1 = (-1 : Int) → ((0 ≤ v1 ∧ v1 < (40 : Int)) ∧ (zI ((u1 21 v1) + (1 : Int)) ∧ ((0 ≤ v1 ∧ v1 < (40 : Int)) ∧ ((0 ≤ (n : Int) ∧ (n : Int) < (40 : Int)) ∧ (∃ Rc : Int → zS → Prop, zAM 20 [.inr (.inr (2, 0)), .inl v1, .inl (u1 15 (n : Int))] (zup u1 21 v1 ((u1 21 v1) + (1 : Int))) Rc ∧ ∀ (v2 : Int) (u2 : zS), zI v2 → Rc v2 u2 → ((0 ≤ v2 ∧ v2 < (40 : Int)) ∧ (zI ((u2 19 v2) + (1 : Int)) ∧ ((0 ≤ v2 ∧ v2 < (40 : Int)) ∧ (zI ((n : Int) + (1 : Int)) ∧ zRuns 18 zX0 (fun (v : Int) (u : zS) => zfr [2, 19, 21] σ u ∧ (∀ j : Int, ¬ j = 11 → u 2 j = σ 2 j) ∧ u 2 11 = zjl (ztf (σ 17) (σ 20) (σ 2 10)) (zdx (σ 15) (σ 16) n) (zdn (σ 16) n) ∧ (∀ j : Int, 0 ≤ j → j < σ 2 10 → u 21 j = zji (ztf (σ 17) (σ 20) (σ 2 10)) (zdx (σ 15) (σ 16) n) j (zdn (σ 16) n)) ∧ ∀ j : Int, 0 ≤ j → j < σ 20 (σ 2 10) → u 19 j = zjo (ztf (σ 17) (σ 20) (σ 2 10)) (znr (σ 17) (σ 20)) (zdx (σ 15) (σ 16) n) j (zdn (σ 16) n)) 7 [some (.inr (.inr (2, 0))), some (.inl ((n : Int) + (1 : Int))), none] [] (zup u2 19 v2 ((u2 19 v2) + (1 : Int))))))))))))) ∧ (v1 = (-1 : Int) → (zI ((u1 2 (11 : Int)) + (1 : Int)) ∧ (zI ((n : Int) + (1 : Int)) ∧ zRuns 18 zX0 (fun (v : Int) (u : zS) => zfr [2, 19, 21] σ u ∧ (∀ j : Int, ¬ j = 11 → u 2 j = σ 2 j) ∧ u 2 11 = zjl (ztf (σ 17) (σ 20) (σ 2 10)) (zdx (σ 15) (σ 16) n) (zdn (σ 16) n) ∧ (∀ j : Int, 0 ≤ j → j < σ 2 10 → u 21 j = zji (ztf (σ 17) (σ 20) (σ 2 10)) (zdx (σ 15) (σ 16) n) j (zdn (σ 16) n)) ∧ ∀ j : Int, 0 ≤ j → j < σ 20 (σ 2 10) → u 19 j = zjo (ztf (σ 17) (σ 20) (σ 2 10)) (znr (σ 17) (σ 20)) (zdx (σ 15) (σ 16) n) j (zdn (σ 16) n)) 7 [some (.inr (.inr (2, 0))), some (.inl ((n : Int) + (1 : Int))), none] [] (zup u1 2 (11 : Int) ((u1 2 (11 : Int)) + (1 : Int))))))))))))))
    exact ⟨fun _ => ⟨hf, i2, hi⟩, fun q => absurd q hlt⟩
  | succ m ih =>
    intro k s hk hf i2 hi
    obtain ⟨i11, i21, i19⟩ := hi
    have e2 := i2 2 (by decide)
    have e10 := i2 10 (by decide)
    have e15 : s 15 = σ 15 := hf 15 (by decide)
    have e16 : s 16 = σ 16 := hf 16 (by decide)
    have e17 : s 17 = σ 17 := hf 17 (by decide)
    have e20 : s 20 = σ 20 := hf 20 (by decide)
    have hLs : zLF s := hL.frame e10 e17 e20
    have hwk := hw k (by omega) (by omega)
    have hdk := zdn_le (σ 16) k
    obtain ⟨l0, l1, l2, l3⟩ := hL
    obtain ⟨q11, -, -⟩ := zj_r (ztf (σ 17) (σ 20) (σ 2 10)) (znr (σ 17) (σ 20)) (zdx (σ 15) (σ 16) n) 0 (zdn (σ 16) k)
    have ec : ((k + 1 : Nat) : Int) = (k : Int) + 1 := by omega
    refine zwalk zmk_18 [(7, [true, true, false])] 3 ?_
    show (((s 2 (2 : Int)) ≤ (k : Int) → (zfr [2, 19, 21] σ s ∧ (∀ j : Int, ¬ j = 11 → s 2 j = σ 2 j) ∧ s 2 11 = zjl (ztf (σ 17) (σ 20) (σ 2 10)) (zdx (σ 15) (σ 16) n) (zdn (σ 16) n) ∧ (∀ j : Int, 0 ≤ j → j < σ 2 10 → s 21 j = zji (ztf (σ 17) (σ 20) (σ 2 10)) (zdx (σ 15) (σ 16) n) j (zdn (σ 16) n)) ∧ ∀ j : Int, 0 ≤ j → j < σ 20 (σ 2 10) → s 19 j = zjo (ztf (σ 17) (σ 20) (σ 2 10)) (znr (σ 17) (σ 20)) (zdx (σ 15) (σ 16) n) j (zdn (σ 16) n))) ∧ ((k : Int) < (s 2 (2 : Int)) → ((0 ≤ (k : Int) ∧ (k : Int) < (40 : Int)) ∧ ((¬ (s 16 (k : Int)) = (12 : Int) → (zI ((k : Int) + (1 : Int)) ∧ zRuns 18 zX0 (fun (v : Int) (u : zS) => zfr [2, 19, 21] σ u ∧ (∀ j : Int, ¬ j = 11 → u 2 j = σ 2 j) ∧ u 2 11 = zjl (ztf (σ 17) (σ 20) (σ 2 10)) (zdx (σ 15) (σ 16) n) (zdn (σ 16) n) ∧ (∀ j : Int, 0 ≤ j → j < σ 2 10 → u 21 j = zji (ztf (σ 17) (σ 20) (σ 2 10)) (zdx (σ 15) (σ 16) n) j (zdn (σ 16) n)) ∧ ∀ j : Int, 0 ≤ j → j < σ 20 (σ 2 10) → u 19 j = zjo (ztf (σ 17) (σ 20) (σ 2 10)) (znr (σ 17) (σ 20)) (zdx (σ 15) (σ 16) n) j (zdn (σ 16) n)) 7 [some (.inr (.inr (2, 0))), some (.inl ((k : Int) + (1 : Int))), none] [] s)) ∧ ((s 16 (k : Int)) = (12 : Int) → ((0 ≤ (k : Int) ∧ (k : Int) < (40 : Int)) ∧ (∃ Rc : Int → zS → Prop, zAM 19 [.inr (.inr (2, 0)), .inl (s 15 (k : Int))] s Rc ∧ ∀ (v1 : Int) (u1 : zS), zI v1 → Rc v1 u1 → ((¬ v1 = (-1 : Int) → ((0 ≤ v1 ∧ v1 < (40 : Int)) ∧ (zI ((u1 21 v1) + (1 : Int)) ∧ ((0 ≤ v1 ∧ v1 < (40 : Int)) ∧ ((0 ≤ (k : Int) ∧ (k : Int) < (40 : Int)) ∧ (∃ Rc : Int → zS → Prop, zAM 20 [.inr (.inr (2, 0)), .inl v1, .inl (u1 15 (k : Int))] (zup u1 21 v1 ((u1 21 v1) + (1 : Int))) Rc ∧ ∀ (v2 : Int) (u2 : zS), zI v2 → Rc v2 u2 → ((0 ≤ v2 ∧ v2 < (40 : Int)) ∧ (zI ((u2 19 v2) + (1 : Int)) ∧ ((0 ≤ v2 ∧ v2 < (40 : Int)) ∧ (zI ((k : Int) + (1 : Int)) ∧ zRuns 18 zX0 (fun (v : Int) (u : zS) => zfr [2, 19, 21] σ u ∧ (∀ j : Int, ¬ j = 11 → u 2 j = σ 2 j) ∧ u 2 11 = zjl (ztf (σ 17) (σ 20) (σ 2 10)) (zdx (σ 15) (σ 16) n) (zdn (σ 16) n) ∧ (∀ j : Int, 0 ≤ j → j < σ 2 10 → u 21 j = zji (ztf (σ 17) (σ 20) (σ 2 10)) (zdx (σ 15) (σ 16) n) j (zdn (σ 16) n)) ∧ ∀ j : Int, 0 ≤ j → j < σ 20 (σ 2 10) → u 19 j = zjo (ztf (σ 17) (σ 20) (σ 2 10)) (znr (σ 17) (σ 20)) (zdx (σ 15) (σ 16) n) j (zdn (σ 16) n)) 7 [some (.inr (.inr (2, 0))), some (.inl ((k : Int) + (1 : Int))), none] [] (zup u2 19 v2 ((u2 19 v2) + (1 : Int))))))))))))) ∧ (v1 = (-1 : Int) → (zI ((u1 2 (11 : Int)) + (1 : Int)) ∧ (zI ((k : Int) + (1 : Int)) ∧ zRuns 18 zX0 (fun (v : Int) (u : zS) => zfr [2, 19, 21] σ u ∧ (∀ j : Int, ¬ j = 11 → u 2 j = σ 2 j) ∧ u 2 11 = zjl (ztf (σ 17) (σ 20) (σ 2 10)) (zdx (σ 15) (σ 16) n) (zdn (σ 16) n) ∧ (∀ j : Int, 0 ≤ j → j < σ 2 10 → u 21 j = zji (ztf (σ 17) (σ 20) (σ 2 10)) (zdx (σ 15) (σ 16) n) j (zdn (σ 16) n)) ∧ ∀ j : Int, 0 ≤ j → j < σ 20 (σ 2 10) → u 19 j = zjo (ztf (σ 17) (σ 20) (σ 2 10)) (znr (σ 17) (σ 20)) (zdx (σ 15) (σ 16) n) j (zdn (σ 16) n)) 7 [some (.inr (.inr (2, 0))), some (.inl ((k : Int) + (1 : Int))), none] [] (zup u1 2 (11 : Int) ((u1 2 (11 : Int)) + (1 : Int))))))))))))))
    rw [e15, e16]
    refine ⟨?_, ?_⟩
    · intro h1
      exfalso; omega
    · intro h2
      refine ⟨by (first | exact ⟨by omega, by omega⟩), ?_⟩
      refine ⟨?_, ?_⟩
      · intro h3
        refine ⟨by (first | exact ⟨by omega, by omega⟩), ?_⟩
        have hd : ¬ σ 16 (k : Int) = 12 := by assumption
        have hz : zdn (σ 16) (k + 1) = zdn (σ 16) k := by simp only [zdn, if_neg hd]; omega
        rw [← ec]
        refine ih (k + 1) _ (by omega) hf i2 ?_
        rw [hz]
        exact ⟨i11, i21, i19⟩
      · intro h4
        refine ⟨by (first | exact ⟨by omega, by omega⟩), ?_⟩
        refine ⟨_, am_X2_inkUnder (hLs) (hwk), ?_⟩
        intro v1 u1 hv1
        rintro ⟨rfl, ev1⟩
        obtain ⟨hv1a, hv1b⟩ := hv1
        rw [e17, e20, e10] at ev1
        have hr := zfi_r (P := zIn (σ 17) (σ 20) (σ 15 (k : Int))) (σ 2 10).toNat
        rw [ev1] at hr
        have etf : (ztf (σ 17) (σ 20) (σ 2 10)) (σ 15 (k : Int)) = v1 := ev1
        have q21 := i21 v1
        have r21 := (zj_r (ztf (σ 17) (σ 20) (σ 2 10)) (znr (σ 17) (σ 20)) (zdx (σ 15) (σ 16) n) v1 (zdn (σ 16) k)).2.1
        rw [e15]
        refine ⟨?_, ?_⟩
        · intro h5
          refine ⟨by (first | exact ⟨by omega, by omega⟩), ?_⟩
          refine ⟨by (first | exact ⟨by omega, by omega⟩), ?_⟩
          refine ⟨by (first | exact ⟨by omega, by omega⟩), ?_⟩
          refine ⟨by (first | exact ⟨by omega, by omega⟩), ?_⟩
          have X20 : (zup s 21 v1 (s 21 v1 + 1)) 20 = σ 20 := e20
          have X17 : (zup s 21 v1 (s 21 v1 + 1)) 17 = σ 17 := e17
          refine ⟨_, am_X2_nearestPiece (by omega) (rfl) (rfl) (by rw [X20]; exact l2 _ (by omega) (by omega)) (hwk) (by
    intro j q1 q2
    have := zLF.le ⟨l0, l1, l2, l3⟩ (i := v1 + 1) (j := σ 2 10) (by omega) (by omega) (by omega)
    rw [X20] at q1 q2
    have := l2 v1 (by omega) (by omega)
    rw [X17]
    exact l3 j (by omega) (by omega) (by omega)), ?_⟩
          intro v2 u2 hv2
          rintro ⟨rfl, ev2⟩
          obtain ⟨hv2a, hv2b⟩ := hv2
          rw [X17, X20] at ev2
          have enr : (znr (σ 17) (σ 20)) v1 (σ 15 (k : Int)) = v2 := ev2
          have hz9 := zne_r (x := σ 17) (p := σ 15 (k : Int)) (a := σ 20 v1) (σ 20 (v1 + 1) - σ 20 v1).toNat
          rw [ev2] at hz9
          have hl2 := l2 v1 (by omega) (by omega)
          have hle := zLF.le ⟨l0, l1, l2, l3⟩ (i := v1 + 1) (j := σ 2 10) (by omega) (by omega) (by omega)
          have q19 := i19 v2 (by omega) (by omega)
          have r19 := (zj_r (ztf (σ 17) (σ 20) (σ 2 10)) (znr (σ 17) (σ 20)) (zdx (σ 15) (σ 16) n) v2 (zdn (σ 16) k)).2.2
          have X19 : (zup s 21 v1 (s 21 v1 + 1)) 19 = s 19 := rfl
          rw [X19]
          refine ⟨by (first | exact ⟨by omega, by omega⟩), ?_⟩
          refine ⟨by (first | exact ⟨by omega, by omega⟩), ?_⟩
          refine ⟨by (first | exact ⟨by omega, by omega⟩), ?_⟩
          refine ⟨by (first | exact ⟨by omega, by omega⟩), ?_⟩
          have hd : σ 16 (k : Int) = 12 := by assumption
          have hdx := zdx_at (wx := σ 15) hd n (by omega)
          have hz : zdn (σ 16) (k + 1) = zdn (σ 16) k + 1 := by simp only [zdn, if_pos hd]
          rw [← ec]
          refine ih (k + 1) _ (by omega) ((hf.up (c := 21) (by decide)).up (c := 19) (by decide)) (fun j hj => i2 j hj) ?_
          rw [hz]
          refine ⟨?_, fun j q1 q2 => ?_, fun j q1 q2 => ?_⟩
          · show s 2 11 = zjl (ztf (σ 17) (σ 20) (σ 2 10)) (zdx (σ 15) (σ 16) n) (zdn (σ 16) k) + (if (ztf (σ 17) (σ 20) (σ 2 10)) ((zdx (σ 15) (σ 16) n) (zdn (σ 16) k)) < 0 then 1 else 0)
            rw [hdx.1, etf, if_neg (by omega), i11]; omega
          · show (if j = v1 then s 21 v1 + 1 else s 21 j) = zji (ztf (σ 17) (σ 20) (σ 2 10)) (zdx (σ 15) (σ 16) n) j (zdn (σ 16) k) + (if (ztf (σ 17) (σ 20) (σ 2 10)) ((zdx (σ 15) (σ 16) n) (zdn (σ 16) k)) = j then 1 else 0)
            rw [hdx.1, etf]
            by_cases e : j = v1
            · rw [if_pos e, if_pos e.symm, ← e, i21 j q1 q2]
            · rw [if_neg e, if_neg (fun q => e q.symm), i21 j q1 q2]; omega
          · show (if j = v2 then s 19 v2 + 1 else s 19 j) = zjo (ztf (σ 17) (σ 20) (σ 2 10)) (znr (σ 17) (σ 20)) (zdx (σ 15) (σ 16) n) j (zdn (σ 16) k) + (if 0 ≤ (ztf (σ 17) (σ 20) (σ 2 10)) ((zdx (σ 15) (σ 16) n) (zdn (σ 16) k)) ∧ (znr (σ 17) (σ 20)) ((ztf (σ 17) (σ 20) (σ 2 10)) ((zdx (σ 15) (σ 16) n) (zdn (σ 16) k))) ((zdx (σ 15) (σ 16) n) (zdn (σ 16) k)) = j then 1 else 0)
            rw [hdx.1, etf, enr]
            by_cases e : j = v2
            · rw [if_pos e, if_pos ⟨by omega, e.symm⟩, ← e, i19 j q1 q2]
            · rw [if_neg e, if_neg (fun q => e q.2.symm), i19 j q1 q2]; omega
        · intro h6
          refine ⟨by (first | exact ⟨by omega, by omega⟩), ?_⟩
          refine ⟨by (first | exact ⟨by omega, by omega⟩), ?_⟩
          have hd : σ 16 (k : Int) = 12 := by assumption
          have hdx := zdx_at (wx := σ 15) hd n (by omega)
          have hz : zdn (σ 16) (k + 1) = zdn (σ 16) k + 1 := by simp only [zdn, if_pos hd]
          rw [← ec]
          refine ih (k + 1) _ (by omega) (hf.up (c := 2) (by decide)) (fun j hj => by
            show (if j = 11 then _ else s 2 j) = _
            rw [if_neg hj]; exact i2 j hj) ?_
          rw [hz]
          refine ⟨?_, fun j q1 q2 => ?_, fun j q1 q2 => ?_⟩
          · show s 2 11 + 1 = zjl (ztf (σ 17) (σ 20) (σ 2 10)) (zdx (σ 15) (σ 16) n) (zdn (σ 16) k) + (if (ztf (σ 17) (σ 20) (σ 2 10)) ((zdx (σ 15) (σ 16) n) (zdn (σ 16) k)) < 0 then 1 else 0)
            rw [hdx.1, etf, if_pos (by omega), i11]
          · show s 21 j = zji (ztf (σ 17) (σ 20) (σ 2 10)) (zdx (σ 15) (σ 16) n) j (zdn (σ 16) k) + (if (ztf (σ 17) (σ 20) (σ 2 10)) ((zdx (σ 15) (σ 16) n) (zdn (σ 16) k)) = j then 1 else 0)
            rw [hdx.1, etf, if_neg (by omega), i21 j q1 q2]; omega
          · show s 19 j = zjo (ztf (σ 17) (σ 20) (σ 2 10)) (znr (σ 17) (σ 20)) (zdx (σ 15) (σ 16) n) j (zdn (σ 16) k) + (if 0 ≤ (ztf (σ 17) (σ 20) (σ 2 10)) ((zdx (σ 15) (σ 16) n) (zdn (σ 16) k)) ∧ (znr (σ 17) (σ 20)) ((ztf (σ 17) (σ 20) (σ 2 10)) ((zdx (σ 15) (σ 16) n) (zdn (σ 16) k))) ((zdx (σ 15) (σ 16) n) (zdn (σ 16) k)) = j then 1 else 0)
            rw [hdx.1, etf, if_neg (by omega), i19 j q1 q2]; omega
set_option maxRecDepth 100000 in
set_option maxHeartbeats 4000000 in
theorem am_X2_joinDots {σ : zS} {n : Nat} (hL : zLF σ) (hn : σ 2 2 = (n : Int)) (hn40 : n ≤ 40) (hw : ∀ j : Int, 0 ≤ j → j < n → 0 ≤ σ 15 j ∧ σ 15 j ≤ 2000) (h21 : ∀ j : Int, 0 ≤ j → j < σ 2 10 → σ 21 j = 0) (h19 : ∀ j : Int, 0 ≤ j → j < σ 20 (σ 2 10) → σ 19 j = 0) : zAM 18 [.inr (.inr (2, 0))] σ (fun (v : Int) (u : zS) => zfr [2, 19, 21] σ u ∧ (∀ j : Int, ¬ j = 11 → u 2 j = σ 2 j) ∧ u 2 11 = zjl (ztf (σ 17) (σ 20) (σ 2 10)) (zdx (σ 15) (σ 16) n) (zdn (σ 16) n) ∧ (∀ j : Int, 0 ≤ j → j < σ 2 10 → u 21 j = zji (ztf (σ 17) (σ 20) (σ 2 10)) (zdx (σ 15) (σ 16) n) j (zdn (σ 16) n)) ∧ ∀ j : Int, 0 ≤ j → j < σ 20 (σ 2 10) → u 19 j = zjo (ztf (σ 17) (σ 20) (σ 2 10)) (znr (σ 17) (σ 20)) (zdx (σ 15) (σ 16) n) j (zdn (σ 16) n)) := by
  refine zam (by decide) (Nat.le_of_ble_eq_true rfl) ?_
  refine zwalk zmk_18 [(7, [true, true, false])] 2 ?_
  show zRuns 18 zX0 (fun (v : Int) (u : zS) => zfr [2, 19, 21] σ u ∧ (∀ j : Int, ¬ j = 11 → u 2 j = σ 2 j) ∧ u 2 11 = zjl (ztf (σ 17) (σ 20) (σ 2 10)) (zdx (σ 15) (σ 16) n) (zdn (σ 16) n) ∧ (∀ j : Int, 0 ≤ j → j < σ 2 10 → u 21 j = zji (ztf (σ 17) (σ 20) (σ 2 10)) (zdx (σ 15) (σ 16) n) j (zdn (σ 16) n)) ∧ ∀ j : Int, 0 ≤ j → j < σ 20 (σ 2 10) → u 19 j = zjo (ztf (σ 17) (σ 20) (σ 2 10)) (znr (σ 17) (σ 20)) (zdx (σ 15) (σ 16) n) j (zdn (σ 16) n)) 7 [some (.inr (.inr (2, 0))), some (.inl (0 : Int)), none] [] (zup σ 2 (11 : Int) (0 : Int))
  refine lp_join (σ := σ) hL hn hn40 hw n 0 _ (by omega) (zfr.rf.up (c := 2) (by decide)) ?_ ⟨rfl, h21, h19⟩
  intro j hj
  show (if j = 11 then _ else σ 2 j) = _
  rw [if_neg hj]
end
section
/-! THE LINE as it follows from what was written: the places wx, the shapes ws of n pieces, the gap g -/
def zlN (ws : Int → Int) (n : Nat) : Int := zpn ws n
def zlX (wx ws : Int → Int) (n : Nat) : Int → Int := zga wx ws n
noncomputable def zlK (wx ws : Int → Int) (g : Int) (n : Nat) : Int := zbk (zlX wx ws n) g (zlN ws n).toNat
noncomputable def zlF (wx ws : Int → Int) (g : Int) (n : Nat) : Int → Int := fun j => if j = zlK wx ws g n then zlN ws n else zfs (zlX wx ws n) g (zlN ws n).toNat j
noncomputable def zlT (wx ws : Int → Int) (g : Int) (n : Nat) : Int → Int := ztf (zlX wx ws n) (zlF wx ws g n) (zlK wx ws g n)
noncomputable def zlR (wx ws : Int → Int) (g : Int) (n : Nat) : Int → Int → Int := znr (zlX wx ws n) (zlF wx ws g n)
theorem zmn_congr {x y : Int → Int} {a : Int} : ∀ (m : Nat) (s : Int), (∀ j : Int, a ≤ j → j < a + m → x j = y j) → zmn x a s m = zmn y a s m ∧ zmx x a s m = zmx y a s m
  | 0, s, _ => ⟨rfl, rfl⟩
  | m + 1, s, h => by
    obtain ⟨e1, e2⟩ := zmn_congr (x := x) (y := y) (a := a) m s (fun j p q => h j p (by omega))
    simp only [zmn, zmx, e1, e2, h (a + m) (by omega) (by omega)]
    exact ⟨trivial, trivial⟩
theorem zne_congr {x y : Int → Int} {p a : Int} : ∀ (m : Nat), (∀ j : Int, a ≤ j → j < a + m → x j = y j) → zne x p a m = zne y p a m
  | 0, _ => rfl
  | m + 1, h => by
    have e := zne_congr (x := x) (y := y) (p := p) (a := a) m (fun j p q => h j p (by omega))
    have r := zne_r (x := x) (p := p) (a := a) m
    have h1 := h (a + m) (by omega) (by omega)
    have h2 := h (zne x p a m) (by omega) (by omega)
    simp only [zne]
    rw [← e, h1, h2]
theorem ztf_congr {x y f f' : Int → Int} {n p N : Int} (hx : ∀ j : Int, 0 ≤ j → j < N → x j = y j) (hf : ∀ j : Int, 0 ≤ j → j ≤ n → f j = f' j) (hb : ∀ i : Int, 0 ≤ i → i < n → 0 ≤ f i ∧ f i ≤ f (i + 1) ∧ f (i + 1) ≤ N) : ztf x f n p = ztf y f' n p := by
  unfold ztf
  refine zfi_congr (fun j j0 j1 => ?_)
  have h1 := hb j j0 (by omega)
  obtain ⟨e1, -⟩ := zmn_congr (x := x) (y := y) (a := f j) (f (j + 1) - f j).toNat 5000 (fun q q1 q2 => hx q (by omega) (by omega))
  obtain ⟨-, e2⟩ := zmn_congr (x := x) (y := y) (a := f j) (f (j + 1) - f j).toNat (-1) (fun q q1 q2 => hx q (by omega) (by omega))
  unfold zIn
  rw [e1, e2, hf j j0 (by omega), hf (j + 1) (by omega) (by omega)]
theorem znr_congr {x y f f' : Int → Int} {n p N t : Int} (hx : ∀ j : Int, 0 ≤ j → j < N → x j = y j) (hf : ∀ j : Int, 0 ≤ j → j ≤ n → f j = f' j) (hb : ∀ i : Int, 0 ≤ i → i < n → 0 ≤ f i ∧ f i ≤ f (i + 1) ∧ f (i + 1) ≤ N) (t0 : 0 ≤ t) (t1 : t < n) : znr x f t p = znr y f' t p := by
  have h1 := hb t t0 t1
  unfold znr
  rw [zne_congr (x := x) (y := y) _ (fun q q1 q2 => hx q (by omega) (by omega)), hf t t0 (by omega), hf (t + 1) (by omega) (by omega)]
theorem ztf_r {x f : Int → Int} {n p : Int} (h : 0 ≤ n) : ztf x f n p = -1 ∨ 0 ≤ ztf x f n p ∧ ztf x f n p < n := by
  rcases zfi_r (P := zIn x f p) n.toNat with e | ⟨a, b, -⟩
  · exact Or.inl e
  · exact Or.inr ⟨a, by show zfi _ _ < n; omega⟩
theorem zjl_congr {tf tf' : Int → Int} {DX DX' : Nat → Int} : ∀ d : Nat, (∀ e, e < d → tf (DX e) = tf' (DX' e)) → zjl tf DX d = zjl tf' DX' d ∧ ∀ j, zji tf DX j d = zji tf' DX' j d
  | 0, _ => ⟨rfl, fun _ => rfl⟩
  | d + 1, h => by
    obtain ⟨a, b⟩ := zjl_congr (tf := tf) (tf' := tf') (DX := DX) (DX' := DX') d (fun e he => h e (by omega))
    simp only [zjl, zji, a, b, h d (by omega)]
    exact ⟨trivial, fun _ => trivial⟩
theorem zjo_congr {tf tf' : Int → Int} {nr nr' : Int → Int → Int} {DX DX' : Nat → Int} : ∀ d : Nat, (∀ e, e < d → tf (DX e) = tf' (DX' e) ∧ (0 ≤ tf (DX e) → nr (tf (DX e)) (DX e) = nr' (tf' (DX' e)) (DX' e))) → ∀ j, zjo tf nr DX j d = zjo tf' nr' DX' j d
  | 0, _ => fun _ => rfl
  | d + 1, h => by
    intro j
    have a := zjo_congr (tf := tf) (tf' := tf') (nr := nr) (nr' := nr') (DX := DX) (DX' := DX') d (fun e he => h e (by omega)) j
    obtain ⟨b, c⟩ := h d (by omega)
    simp only [zjo, a]
    congr 1
    rw [b] at c ⊢
    by_cases q : 0 ≤ tf' (DX' d)
    · rw [c q]
    · rw [if_neg (fun z => q z.1), if_neg (fun z => q z.1)]
/-- the inks' bounds, of the math -/
theorem zlF_b {wx ws : Int → Int} {g : Int} {n : Nat} : (0 ≤ zlK wx ws g n ∧ zlK wx ws g n ≤ zlN ws n) ∧ (0 ≤ zlN ws n ∧ zlN ws n ≤ n) ∧ (∀ i : Int, 0 ≤ i → i < zlK wx ws g n → 0 ≤ zlF wx ws g n i ∧ zlF wx ws g n i < zlF wx ws g n (i + 1) ∧ zlF wx ws g n (i + 1) ≤ zlN ws n) ∧ zlF wx ws g n (zlK wx ws g n) = zlN ws n := by
  have h1 := zbk_le (zlX wx ws n) g (zlN ws n).toNat
  have h2 := zpn_le ws n
  have h3 : zlN ws n = zpn ws n := rfl
  have h4 : zlK wx ws g n = zbk (zlX wx ws n) g (zlN ws n).toNat := rfl
  refine ⟨⟨by omega, by omega⟩, ⟨by omega, by omega⟩, fun i i0 i1 => ?_, if_pos rfl⟩
  have r1 := zfs_r (x := zlX wx ws n) (g := g) (n := (zlN ws n).toNat) (j := i) i0 (by omega)
  have e1 : zlF wx ws g n i = zfs (zlX wx ws n) g (zlN ws n).toNat i := if_neg (by omega)
  by_cases e : i + 1 = zlK wx ws g n
  · have e2 : zlF wx ws g n (i + 1) = zlN ws n := if_pos e
    rw [e1, e2]
    omega
  · have e2 : zlF wx ws g n (i + 1) = zfs (zlX wx ws n) g (zlN ws n).toNat (i + 1) := if_neg e
    have r2 := zfs_r (x := zlX wx ws n) (g := g) (n := (zlN ws n).toNat) (j := i + 1) (by omega) (by omega)
    have r3 := zfs_mono (x := zlX wx ws n) (g := g) (n := (zlN ws n).toNat) (i := i) (j := i + 1) i0 (by omega) (by omega)
    rw [e1, e2]
    omega
theorem zga_r {f ws : Int → Int} {P : Int → Prop} : ∀ {n : Nat}, (∀ k : Nat, k < n → ¬ ws k = 12 → P (f k)) → ∀ j : Int, 0 ≤ j → j < zpn ws n → P (zga f ws n j)
  | 0, _, j, a, b => by simp [zpn] at b; omega
  | n + 1, h, j, a, b => by
    by_cases c : ws n = 12
    · rw [(zpn_dot c).1] at b
      rw [(zpn_dot c).2]
      exact zga_r (fun k hk => h k (by omega)) j a b
    · rw [(zpn_pc c).1] at b
      rw [(zpn_pc c).2]
      split
      · exact h n (by omega) c
      · exact zga_r (fun k hk => h k (by omega)) j a (by omega)
end
section
noncomputable def zlI (wx ws : Int → Int) (g : Int) (n : Nat) (j : Int) : Int := zji (zlT wx ws g n) (zdx wx ws n) j (zdn ws n)
noncomputable def zlO (wx ws : Int → Int) (g : Int) (n : Nat) (j : Int) : Int := zjo (zlT wx ws g n) (zlR wx ws g n) (zdx wx ws n) j (zdn ws n)
noncomputable def zlL (wx ws : Int → Int) (g : Int) (n : Nat) : Int := zjl (zlT wx ws g n) (zdx wx ws n) (zdn ws n)
/-- the class's cells of THE LINE hold what follows -/
def zLC (wx ws : Int → Int) (g : Int) (n : Nat) (u : zS) : Prop := u 2 7 = zlN ws n ∧ u 2 10 = zlK wx ws g n ∧ u 2 11 = zlL wx ws g n ∧ (∀ j : Int, 0 ≤ j → j < zlN ws n → u 17 j = zlX wx ws n j ∧ u 18 j = zlX ws ws n j ∧ u 19 j = zlO wx ws g n j) ∧ (∀ j : Int, 0 ≤ j → j ≤ zlK wx ws g n → u 20 j = zlF wx ws g n j) ∧ ∀ j : Int, 0 ≤ j → j < zlK wx ws g n → u 21 j = zlI wx ws g n j
set_option maxRecDepth 100000 in
set_option maxHeartbeats 4000000 in
theorem am_X2_part {σ : zS} {n : Nat} (hn : σ 2 2 = (n : Int)) (hn40 : n ≤ 40) (hw : ∀ j : Int, 0 ≤ j → j < n → 0 ≤ σ 15 j ∧ σ 15 j ≤ 2000) : zAM 15 [.inr (.inr (2, 0))] σ (fun (v : Int) (u : zS) => zfr [2, 17, 18, 19, 20, 21] σ u ∧ (∀ j : Int, ¬ j = 7 → ¬ j = 10 → ¬ j = 11 → u 2 j = σ 2 j) ∧ zLC (σ 15) (σ 16) (σ 2 3) n u) := by
  refine zam (by decide) (Nat.le_of_ble_eq_true rfl) ?_
  refine zwalk zmk_15 [] 2 ?_
  show (∃ Rc : Int → zS → Prop, zAM 16 [.inr (.inr (2, 0))] σ Rc ∧ ∀ (u1 : zS), Rc 0 u1 → (∃ Rc : Int → zS → Prop, zAM 17 [.inr (.inr (2, 0))] u1 Rc ∧ ∀ (u2 : zS), Rc 0 u2 → (∃ Rc : Int → zS → Prop, zAM 18 [.inr (.inr (2, 0))] u2 Rc ∧ ∀ (u3 : zS), Rc 0 u3 → (zfr [2, 17, 18, 19, 20, 21] σ u3 ∧ (∀ j : Int, ¬ j = 7 → ¬ j = 10 → ¬ j = 11 → u3 2 j = σ 2 j) ∧ zLC (σ 15) (σ 16) (σ 2 3) n u3))))
  refine ⟨_, am_X2_gatherPieces (hn) (hn40), ?_⟩
  intro u1
  intro kv1
  obtain ⟨f1, a1, a2, a3⟩ := kv1
  have b15 : u1 15 = σ 15 := f1 15 (by decide)
  have b16 : u1 16 = σ 16 := f1 16 (by decide)
  have hNl : 0 ≤ zlN (σ 16) n ∧ zlN (σ 16) n ≤ n := zpn_le (σ 16) n
  have hN9 : (((zlN (σ 16) n).toNat : Nat) : Int) = zlN (σ 16) n := Int.toNat_of_nonneg hNl.1
  have hX9 : ∀ j : Int, 0 ≤ j → j < zlN (σ 16) n → 0 ≤ zlX (σ 15) (σ 16) n j ∧ zlX (σ 15) (σ 16) n j ≤ 2000 := fun j p q => zga_r (P := fun y => 0 ≤ y ∧ y ≤ 2000) (fun k hk _ => hw k (by omega) (by omega)) j p q
  refine ⟨_, am_X2_beginInks (n := (zlN (σ 16) n).toNat) (by rw [hN9]; exact a2) (by omega) (by
    intro j q1 q2
    rw [hN9] at q2
    rw [(a3 j q1 q2).1]
    exact hX9 j q1 q2), ?_⟩
  intro u2
  intro kv2
  obtain ⟨f2, c1, c2, c3, c4⟩ := kv2
  have g9 : u1 2 3 = σ 2 3 := a1 3 (by decide)
  have hzz := zbk_congr (x := u1 17) (y := zlX (σ 15) (σ 16) n) (g := σ 2 3) (n := (zlN (σ 16) n).toNat) (fun j p q => (a3 j p (by rw [hN9] at q; exact q)).1)
  rw [g9, hzz.1] at c2 c3 c4
  rw [hzz.2] at c4
  rw [hN9] at c3
  have hK9 : zbk (zlX (σ 15) (σ 16) n) (σ 2 3) (zlN (σ 16) n).toNat = zlK (σ 15) (σ 16) (σ 2 3) n := rfl
  rw [hK9] at c2 c3 c4
  have hb9 := @zlF_b (σ 15) (σ 16) (σ 2 3) n
  have d17 : u2 17 = u1 17 := f2 17 (by decide)
  have d15 : u2 15 = σ 15 := by rw [f2 15 (by decide), b15]
  have d16 : u2 16 = σ 16 := by rw [f2 16 (by decide), b16]
  have d20 : ∀ j : Int, 0 ≤ j → j ≤ zlK (σ 15) (σ 16) (σ 2 3) n → u2 20 j = zlF (σ 15) (σ 16) (σ 2 3) n j := by
    intro j j0 j1
    by_cases e : j = zlK (σ 15) (σ 16) (σ 2 3) n
    · rw [e, c3, hb9.2.2.2]
    · rw [(c4 j j0 (by omega)).1]
      exact (if_neg e).symm
  have dL : zLF u2 := by
    refine ⟨by omega, by omega, fun i i0 i1 => ?_, fun j j0 j1 j2 => ?_⟩
    · have := hb9.2.2.1 i i0 (by omega)
      rw [d20 i i0 (by omega), d20 (i + 1) (by omega) (by omega)]
      omega
    · rw [c2, d20 _ (by omega) (Int.le_refl _), hb9.2.2.2] at j2
      rw [d17, (a3 j j0 j2).1]
      exact hX9 j j0 j2
  have d2 : u2 2 2 = (n : Int) := by rw [c1 2 (by decide), a1 2 (by decide), hn]
  refine ⟨_, am_X2_joinDots (n := n) (dL) (d2) (hn40) (by rw [d15]; exact hw) (by
    intro j q1 q2
    rw [c2] at q2
    exact (c4 j q1 q2).2) (by
    intro j q1 q2
    rw [c2, d20 _ (by omega) (Int.le_refl _), hb9.2.2.2] at q2
    rw [f2 19 (by decide)]
    exact (a3 j q1 q2).2.2), ?_⟩
  intro u3
  intro kv3
  obtain ⟨f3, m1, m2, m3, m4⟩ := kv3
  have htf : ∀ p, ztf (u2 17) (u2 20) (u2 2 10) p = zlT (σ 15) (σ 16) (σ 2 3) n p := by
    intro p
    rw [c2]
    refine ztf_congr (N := zlN (σ 16) n) (fun j p q => by rw [d17]; exact (a3 j p q).1) d20 (fun i i0 i1 => ?_)
    have := hb9.2.2.1 i i0 i1
    rw [d20 i i0 (by omega), d20 (i + 1) (by omega) (by omega)]
    omega
  have hdx9 : ∀ e, e < zdn (σ 16) n → ztf (u2 17) (u2 20) (u2 2 10) (zdx (σ 15) (σ 16) n e) = zlT (σ 15) (σ 16) (σ 2 3) n (zdx (σ 15) (σ 16) n e) := fun e _ => htf _
  rw [d15, d16] at m2 m3 m4
  obtain ⟨hj1, hj2⟩ := zjl_congr (DX := zdx (σ 15) (σ 16) n) (DX' := zdx (σ 15) (σ 16) n) (zdn (σ 16) n) hdx9
  have hj3 := zjo_congr (nr := znr (u2 17) (u2 20)) (nr' := zlR (σ 15) (σ 16) (σ 2 3) n) (DX := zdx (σ 15) (σ 16) n) (DX' := zdx (σ 15) (σ 16) n) (zdn (σ 16) n) (fun e he => ⟨hdx9 e he, fun q => by
    rw [htf] at q ⊢
    have hr := ztf_r (x := zlX (σ 15) (σ 16) n) (f := zlF (σ 15) (σ 16) (σ 2 3) n) (n := zlK (σ 15) (σ 16) (σ 2 3) n) (p := zdx (σ 15) (σ 16) n e) hb9.1.1
    have q2 : 0 ≤ ztf (zlX (σ 15) (σ 16) n) (zlF (σ 15) (σ 16) (σ 2 3) n) (zlK (σ 15) (σ 16) (σ 2 3) n) (zdx (σ 15) (σ 16) n e) := q
    refine znr_congr (N := zlN (σ 16) n) (n := zlK (σ 15) (σ 16) (σ 2 3) n) (fun j p q => by rw [d17]; exact (a3 j p q).1) d20 (fun i i0 i1 => ?_) q (by show ztf _ _ _ _ < _; omega)
    have := hb9.2.2.1 i i0 i1
    rw [d20 i i0 (by omega), d20 (i + 1) (by omega) (by omega)]
    omega⟩)
  refine ⟨fun k hk => ?_, fun j j1 j2 j3 => ?_, ?_, ?_, ?_, ?_, ?_, ?_⟩
  · have hk2 : k ∉ [2, 19, 21] := fun q => hk (by simp at q ⊢; omega)
    have hk3 : k ∉ [2, 20, 21] := fun q => hk (by simp at q ⊢; omega)
    have hk4 : k ∉ [2, 17, 18, 19] := fun q => hk (by simp at q ⊢; omega)
    rw [f3 k hk2, f2 k hk3, f1 k hk4]
  · rw [m1 j j3, c1 j j2, a1 j j1]
  · rw [m1 7 (by decide), c1 7 (by decide), a2]; rfl
  · rw [m1 10 (by decide), c2]
  · rw [m2, hj1]; rfl
  · intro j j0 j1
    have := a3 j j0 j1
    rw [f3 17 (by decide), d17, f3 18 (by decide), f2 18 (by decide)]
    refine ⟨this.1, this.2.1, ?_⟩
    rw [m4 j j0 (by rw [c2, d20 _ (by omega) (Int.le_refl _), hb9.2.2.2]; exact j1)]
    exact hj3 j
  · intro j j0 j1
    rw [f3 20 (by decide)]
    exact d20 j j0 j1
  · intro j j0 j1
    rw [m3 j j0 (by rw [c2]; exact j1)]
    exact hj2 j
end
section
def zPO (x y : Int) : Prop := 0 ≤ x ∧ x ≤ 2000 ∧ 0 ≤ y ∧ y ≤ 12
def zrX (σ : zS) (o i j : Int) : Int := σ 65 (o + (i + 2 * j))
def zrS (σ : zS) (o i j : Int) : Int := σ 65 (o + (i + 2 * j + 1))
def zPOs (σ : zS) (o i n : Int) : Prop := ∀ j : Int, 0 ≤ j → j < n → zPO (zrX σ o i j) (zrS σ o i j)
set_option maxRecDepth 100000 in
set_option maxHeartbeats 4000000 in
theorem lp_holds {s : Int} {i : Int} {c : Int} {σ : zS} (hs : 0 ≤ s ∧ s < 8) (hi : 0 ≤ i ∧ 0 ≤ c ∧ i + 2 * c ≤ 80) : ∀ (n : Nat) (k : Int), c - k < (n : Int) → (0 ≤ k ∧ k ≤ c) → (∀ j : Int, 0 ≤ j → j < k → zPO (zrX σ (80 * s) i j) (zrS σ (80 * s) i j)) → zRuns 42 zX0 (fun (v : Int) (u : zS) => σ = u ∧ (v = 1 ∧ zPOs σ (80 * s) i c ∨ v = 0 ∧ ¬ zPOs σ (80 * s) i c)) 3 [some (.inr (.inr (1, 0))), some (.inl s), some (.inl i), some (.inl c), some (.inl k), none, none] [] σ := by
  intro n
  induction n with
  | zero =>
    intro k hn q0 qj
    exfalso
    omega
  | succ n ih =>
    intro k hn q0 qj
    refine zwalk zmk_42 [(3, [true, true, true, true, true, false, false])] 3 ?_
    show ((c ≤ k → (((1 : Int) = 0 ∨ (1 : Int) = 1) ∧ (σ = σ ∧ ((1 : Int) = 1 ∧ zPOs σ (80 * s) i c ∨ (1 : Int) = 0 ∧ ¬ zPOs σ (80 * s) i c)))) ∧ (k < c → ((0 ≤ s ∧ s < 8) ∧ (zI ((2 : Int) * k) ∧ (zI (i + ((2 : Int) * k)) ∧ ((0 ≤ (i + ((2 : Int) * k)) ∧ (i + ((2 : Int) * k)) < 80) ∧ ((0 ≤ s ∧ s < 8) ∧ (zI ((2 : Int) * k) ∧ (zI (i + ((2 : Int) * k)) ∧ (zI ((i + ((2 : Int) * k)) + (1 : Int)) ∧ ((0 ≤ ((i + ((2 : Int) * k)) + (1 : Int)) ∧ ((i + ((2 : Int) * k)) + (1 : Int)) < 80) ∧ (((σ 65 ((80 * s) + (i + ((2 : Int) * k)))) < 0 → (((0 : Int) = 0 ∨ (0 : Int) = 1) ∧ (σ = σ ∧ ((0 : Int) = 1 ∧ zPOs σ (80 * s) i c ∨ (0 : Int) = 0 ∧ ¬ zPOs σ (80 * s) i c)))) ∧ (0 ≤ (σ 65 ((80 * s) + (i + ((2 : Int) * k)))) → (((2000 : Int) < (σ 65 ((80 * s) + (i + ((2 : Int) * k)))) → (((0 : Int) = 0 ∨ (0 : Int) = 1) ∧ (σ = σ ∧ ((0 : Int) = 1 ∧ zPOs σ (80 * s) i c ∨ (0 : Int) = 0 ∧ ¬ zPOs σ (80 * s) i c)))) ∧ ((σ 65 ((80 * s) + (i + ((2 : Int) * k)))) ≤ (2000 : Int) → (((σ 65 ((80 * s) + ((i + ((2 : Int) * k)) + (1 : Int)))) < 0 → (((0 : Int) = 0 ∨ (0 : Int) = 1) ∧ (σ = σ ∧ ((0 : Int) = 1 ∧ zPOs σ (80 * s) i c ∨ (0 : Int) = 0 ∧ ¬ zPOs σ (80 * s) i c)))) ∧ (0 ≤ (σ 65 ((80 * s) + ((i + ((2 : Int) * k)) + (1 : Int)))) → (((σ 65 ((80 * s) + ((i + ((2 : Int) * k)) + (1 : Int)))) ≤ (12 : Int) → (zI (k + (1 : Int)) ∧ zRuns 42 zX0 (fun (v : Int) (u : zS) => σ = u ∧ (v = 1 ∧ zPOs σ (80 * s) i c ∨ v = 0 ∧ ¬ zPOs σ (80 * s) i c)) 3 [some (.inr (.inr (1, 0))), some (.inl s), some (.inl i), some (.inl c), some (.inl (k + (1 : Int))), none, none] [] σ)) ∧ ((12 : Int) < (σ 65 ((80 * s) + ((i + ((2 : Int) * k)) + (1 : Int)))) → (((0 : Int) = 0 ∨ (0 : Int) = 1) ∧ (σ = σ ∧ ((0 : Int) = 1 ∧ zPOs σ (80 * s) i c ∨ (0 : Int) = 0 ∧ ¬ zPOs σ (80 * s) i c))))))))))))))))))))))
    refine ⟨?_, ?_⟩
    · intro h1
      refine ⟨by (omega), ?_⟩
      exact ⟨rfl, Or.inl ⟨rfl, fun j j0 j1 => qj j j0 (by omega)⟩⟩
    · intro h2
      refine ⟨by (first | omega | exact ⟨by omega, by omega⟩ | exact ⟨by omega, by omega, by omega⟩ | exact ⟨by omega, by omega, by omega, by omega, by omega⟩), ?_⟩
      refine ⟨by (exact ⟨by omega, by omega⟩), ?_⟩
      refine ⟨by (exact ⟨by omega, by omega⟩), ?_⟩
      refine ⟨by (first | omega | exact ⟨by omega, by omega⟩ | exact ⟨by omega, by omega, by omega⟩ | exact ⟨by omega, by omega, by omega, by omega, by omega⟩), ?_⟩
      refine ⟨by (first | omega | exact ⟨by omega, by omega⟩ | exact ⟨by omega, by omega, by omega⟩ | exact ⟨by omega, by omega, by omega, by omega, by omega⟩), ?_⟩
      refine ⟨by (exact ⟨by omega, by omega⟩), ?_⟩
      refine ⟨by (exact ⟨by omega, by omega⟩), ?_⟩
      refine ⟨by (exact ⟨by omega, by omega⟩), ?_⟩
      refine ⟨by (first | omega | exact ⟨by omega, by omega⟩ | exact ⟨by omega, by omega, by omega⟩ | exact ⟨by omega, by omega, by omega, by omega, by omega⟩), ?_⟩
      refine ⟨?_, ?_⟩
      · intro h3
        refine ⟨by (omega), ?_⟩
        refine ⟨rfl, Or.inr ⟨rfl, fun q => ?_⟩⟩
        have q9 := q k (by omega) (by omega)
        unfold zPO zrX zrS at q9
        omega
      · intro h4
        refine ⟨?_, ?_⟩
        · intro h5
          refine ⟨by (omega), ?_⟩
          refine ⟨rfl, Or.inr ⟨rfl, fun q => ?_⟩⟩
          have q9 := q k (by omega) (by omega)
          unfold zPO zrX zrS at q9
          omega
        · intro h6
          refine ⟨?_, ?_⟩
          · intro h7
            refine ⟨by (omega), ?_⟩
            refine ⟨rfl, Or.inr ⟨rfl, fun q => ?_⟩⟩
            have q9 := q k (by omega) (by omega)
            unfold zPO zrX zrS at q9
            omega
          · intro h8
            refine ⟨?_, ?_⟩
            · intro h9
              refine ⟨by (exact ⟨by omega, by omega⟩), ?_⟩
              exact ih _ (by omega) (by omega) (fun j j0 j1 => by
                by_cases e : j = k
                · rw [e]; exact ⟨by assumption, by assumption, by assumption, by assumption⟩
                · exact qj j j0 (by omega))
            · intro h10
              refine ⟨by (omega), ?_⟩
              refine ⟨rfl, Or.inr ⟨rfl, fun q => ?_⟩⟩
              have q9 := q k (by omega) (by omega)
              unfold zPO zrX zrS at q9
              omega
set_option maxRecDepth 100000 in
set_option maxHeartbeats 4000000 in
theorem am_X5_holdsPieces {σ : zS} {s : Int} {i : Int} {c : Int} (hs : 0 ≤ s ∧ s < 8) (hi : 0 ≤ i ∧ 0 ≤ c ∧ i + 2 * c ≤ 80) : zAM 42 [.inr (.inr (1, 0)), .inl s, .inl i, .inl c] σ (fun (v : Int) (u : zS) => σ = u ∧ (v = 1 ∧ zPOs σ (80 * s) i c ∨ v = 0 ∧ ¬ zPOs σ (80 * s) i c)) := by
  refine zam (by decide) (Nat.le_of_ble_eq_true rfl) ?_
  refine zwalk zmk_42 [(3, [true, true, true, true, true, false, false])] 2 ?_
  show zRuns 42 zX0 (fun (v : Int) (u : zS) => σ = u ∧ (v = 1 ∧ zPOs σ (80 * s) i c ∨ v = 0 ∧ ¬ zPOs σ (80 * s) i c)) 3 [some (.inr (.inr (1, 0))), some (.inl s), some (.inl i), some (.inl c), some (.inl (0 : Int)), none, none] [] σ
  exact lp_holds hs hi 81 0 (by omega) (by omega) (fun j _ _ => by omega)
set_option maxRecDepth 100000 in
set_option maxHeartbeats 4000000 in
theorem lp_write {σ : zS} {s i : Int} {n : Nat} (hs : 0 ≤ s ∧ s < 8) (hi : 0 ≤ i ∧ i + 2 * (n : Int) ≤ 80) (hn40 : n ≤ 40) (hp : zPOs σ (80 * s) i n) : ∀ (m k : Nat) (t : zS), k + m = n → zfr [15, 16] σ t → (∀ j : Int, 0 ≤ j → j < (k : Int) → t 15 j = zrX σ (80 * s) i j ∧ t 16 j = zrS σ (80 * s) i j) → zRuns 14 zX0 (fun (v : Int) (u : zS) => zfr [2, 15, 16, 17, 18, 19, 20, 21] σ u ∧ (∀ j : Int, ¬ j = 2 → ¬ j = 7 → ¬ j = 10 → ¬ j = 11 → u 2 j = σ 2 j) ∧ u 2 2 = (n : Int) ∧ (∀ j : Int, 0 ≤ j → j < (n : Int) → u 15 j = zrX σ (80 * s) i j ∧ u 16 j = zrS σ (80 * s) i j) ∧ zLC (u 15) (u 16) (σ 2 3) n u) 3 [some (.inr (.inr (2, 0))), some (.inr (.inr (65, (80 * s)))), some (.inl i), some (.inl (n : Int)), some (.inl (k : Int))] [] t := by
  intro m
  induction m with
  | zero =>
    intro k t hk hf ha
    obtain rfl : n = k := by omega
    have b65 : t 65 = σ 65 := hf 65 (by decide)
    refine zwalk zmk_14 [(3, [true, true, true, true, true])] 3 ?_
    show (((n : Int) ≤ (n : Int) → (∃ Rc : Int → zS → Prop, zAM 15 [.inr (.inr (2, 0))] (zup t 2 (2 : Int) (n : Int)) Rc ∧ ∀ (u1 : zS), Rc 0 u1 → (zfr [2, 15, 16, 17, 18, 19, 20, 21] σ u1 ∧ (∀ j : Int, ¬ j = 2 → ¬ j = 7 → ¬ j = 10 → ¬ j = 11 → u1 2 j = σ 2 j) ∧ u1 2 2 = (n : Int) ∧ (∀ j : Int, 0 ≤ j → j < (n : Int) → u1 15 j = zrX σ (80 * s) i j ∧ u1 16 j = zrS σ (80 * s) i j) ∧ zLC (u1 15) (u1 16) (σ 2 3) n u1))) ∧ ((n : Int) < (n : Int) → (zI ((2 : Int) * (n : Int)) ∧ (zI (i + ((2 : Int) * (n : Int))) ∧ ((0 ≤ (i + ((2 : Int) * (n : Int))) ∧ (i + ((2 : Int) * (n : Int))) < 80) ∧ ((0 ≤ (n : Int) ∧ (n : Int) < (40 : Int)) ∧ (zI ((2 : Int) * (n : Int)) ∧ (zI (i + ((2 : Int) * (n : Int))) ∧ (zI ((i + ((2 : Int) * (n : Int))) + (1 : Int)) ∧ ((0 ≤ ((i + ((2 : Int) * (n : Int))) + (1 : Int)) ∧ ((i + ((2 : Int) * (n : Int))) + (1 : Int)) < 80) ∧ ((0 ≤ (n : Int) ∧ (n : Int) < (40 : Int)) ∧ (zI ((n : Int) + (1 : Int)) ∧ zRuns 14 zX0 (fun (v : Int) (u : zS) => zfr [2, 15, 16, 17, 18, 19, 20, 21] σ u ∧ (∀ j : Int, ¬ j = 2 → ¬ j = 7 → ¬ j = 10 → ¬ j = 11 → u 2 j = σ 2 j) ∧ u 2 2 = (n : Int) ∧ (∀ j : Int, 0 ≤ j → j < (n : Int) → u 15 j = zrX σ (80 * s) i j ∧ u 16 j = zrS σ (80 * s) i j) ∧ zLC (u 15) (u 16) (σ 2 3) n u) 3 [some (.inr (.inr (2, 0))), some (.inr (.inr (65, (80 * s)))), some (.inl i), some (.inl (n : Int)), some (.inl ((n : Int) + (1 : Int)))] [] (zup (zup t 15 (n : Int) (t 65 ((80 * s) + (i + ((2 : Int) * (n : Int)))))) 16 (n : Int) (t 65 ((80 * s) + ((i + ((2 : Int) * (n : Int))) + (1 : Int)))))))))))))))))
    refine ⟨?_, ?_⟩
    · intro h1
      refine ⟨_, am_X2_part (n := n) (rfl) (hn40) (by
    intro j q1 q2
    have e1 : (zup t 2 2 (n : Int)) 15 j = zrX σ (80 * s) i j := (ha j q1 q2).1
    rw [e1]
    have := hp j q1 q2
    exact ⟨this.1, this.2.1⟩), ?_⟩
      intro u1
      intro kv1
      obtain ⟨f1, a1, a2⟩ := kv1
      have c15 : u1 15 = t 15 := f1 15 (by decide)
      have c16 : u1 16 = t 16 := f1 16 (by decide)
      refine ⟨fun k hk => ?_, fun j j1 j2 j3 j4 => ?_, ?_, ?_, ?_⟩
      · have hk1 : k ∉ [2, 17, 18, 19, 20, 21] := fun q => hk (by simp at q ⊢; omega)
        have hk2 : k ∉ [15, 16] := fun q => hk (by simp at q ⊢; omega)
        have hk3 : ¬ k = 2 := fun q => hk (by simp [q])
        rw [f1 k hk1, zup_ne hk3, hf k hk2]
      · rw [a1 j j2 j3 j4, zup_at, if_neg j1, hf 2 (by decide)]
      · exact a1 2 (by decide) (by decide) (by decide)
      · rw [c15, c16]; exact ha
      · rw [c15, c16]
        have e3 : (zup t 2 2 (n : Int)) 2 3 = σ 2 3 := by
          show t 2 3 = _
          rw [hf 2 (by decide)]
        rw [e3] at a2
        exact a2
    · intro h2
      refine ⟨by (first | exact ⟨by omega, by omega⟩ | (exfalso; omega)), ?_⟩
      refine ⟨by (first | exact ⟨by omega, by omega⟩ | (exfalso; omega)), ?_⟩
      refine ⟨by (first | exact ⟨by omega, by omega⟩ | (exfalso; omega)), ?_⟩
      refine ⟨by (first | exact ⟨by omega, by omega⟩ | (exfalso; omega)), ?_⟩
      refine ⟨by (first | exact ⟨by omega, by omega⟩ | (exfalso; omega)), ?_⟩
      refine ⟨by (first | exact ⟨by omega, by omega⟩ | (exfalso; omega)), ?_⟩
      refine ⟨by (first | exact ⟨by omega, by omega⟩ | (exfalso; omega)), ?_⟩
      refine ⟨by (first | exact ⟨by omega, by omega⟩ | (exfalso; omega)), ?_⟩
      refine ⟨by (first | exact ⟨by omega, by omega⟩ | (exfalso; omega)), ?_⟩
      refine ⟨by (first | exact ⟨by omega, by omega⟩ | (exfalso; omega)), ?_⟩
      exfalso; omega
  | succ m ih =>
    intro k t hk hf ha
    have b65 : t 65 = σ 65 := hf 65 (by decide)
    have ec : ((k + 1 : Nat) : Int) = (k : Int) + 1 := by omega
    refine zwalk zmk_14 [(3, [true, true, true, true, true])] 3 ?_
    show (((n : Int) ≤ (k : Int) → (∃ Rc : Int → zS → Prop, zAM 15 [.inr (.inr (2, 0))] (zup t 2 (2 : Int) (n : Int)) Rc ∧ ∀ (u1 : zS), Rc 0 u1 → (zfr [2, 15, 16, 17, 18, 19, 20, 21] σ u1 ∧ (∀ j : Int, ¬ j = 2 → ¬ j = 7 → ¬ j = 10 → ¬ j = 11 → u1 2 j = σ 2 j) ∧ u1 2 2 = (n : Int) ∧ (∀ j : Int, 0 ≤ j → j < (n : Int) → u1 15 j = zrX σ (80 * s) i j ∧ u1 16 j = zrS σ (80 * s) i j) ∧ zLC (u1 15) (u1 16) (σ 2 3) n u1))) ∧ ((k : Int) < (n : Int) → (zI ((2 : Int) * (k : Int)) ∧ (zI (i + ((2 : Int) * (k : Int))) ∧ ((0 ≤ (i + ((2 : Int) * (k : Int))) ∧ (i + ((2 : Int) * (k : Int))) < 80) ∧ ((0 ≤ (k : Int) ∧ (k : Int) < (40 : Int)) ∧ (zI ((2 : Int) * (k : Int)) ∧ (zI (i + ((2 : Int) * (k : Int))) ∧ (zI ((i + ((2 : Int) * (k : Int))) + (1 : Int)) ∧ ((0 ≤ ((i + ((2 : Int) * (k : Int))) + (1 : Int)) ∧ ((i + ((2 : Int) * (k : Int))) + (1 : Int)) < 80) ∧ ((0 ≤ (k : Int) ∧ (k : Int) < (40 : Int)) ∧ (zI ((k : Int) + (1 : Int)) ∧ zRuns 14 zX0 (fun (v : Int) (u : zS) => zfr [2, 15, 16, 17, 18, 19, 20, 21] σ u ∧ (∀ j : Int, ¬ j = 2 → ¬ j = 7 → ¬ j = 10 → ¬ j = 11 → u 2 j = σ 2 j) ∧ u 2 2 = (n : Int) ∧ (∀ j : Int, 0 ≤ j → j < (n : Int) → u 15 j = zrX σ (80 * s) i j ∧ u 16 j = zrS σ (80 * s) i j) ∧ zLC (u 15) (u 16) (σ 2 3) n u) 3 [some (.inr (.inr (2, 0))), some (.inr (.inr (65, (80 * s)))), some (.inl i), some (.inl (n : Int)), some (.inl ((k : Int) + (1 : Int)))] [] (zup (zup t 15 (k : Int) (t 65 ((80 * s) + (i + ((2 : Int) * (k : Int)))))) 16 (k : Int) (t 65 ((80 * s) + ((i + ((2 : Int) * (k : Int))) + (1 : Int)))))))))))))))))
    refine ⟨fun q => absurd q (by omega), fun _ => ?_⟩
    rw [b65]
    refine ⟨by (first | exact ⟨by omega, by omega⟩ | (exfalso; omega)), ?_⟩
    refine ⟨by (first | exact ⟨by omega, by omega⟩ | (exfalso; omega)), ?_⟩
    refine ⟨by (first | exact ⟨by omega, by omega⟩ | (exfalso; omega)), ?_⟩
    refine ⟨by (first | exact ⟨by omega, by omega⟩ | (exfalso; omega)), ?_⟩
    refine ⟨by (first | exact ⟨by omega, by omega⟩ | (exfalso; omega)), ?_⟩
    refine ⟨by (first | exact ⟨by omega, by omega⟩ | (exfalso; omega)), ?_⟩
    refine ⟨by (first | exact ⟨by omega, by omega⟩ | (exfalso; omega)), ?_⟩
    refine ⟨by (first | exact ⟨by omega, by omega⟩ | (exfalso; omega)), ?_⟩
    refine ⟨by (first | exact ⟨by omega, by omega⟩ | (exfalso; omega)), ?_⟩
    refine ⟨by (first | exact ⟨by omega, by omega⟩ | (exfalso; omega)), ?_⟩
    rw [← ec]
    refine ih (k + 1) _ (by omega) ((hf.up (c := 15) (by decide)).up (c := 16) (by decide)) (fun j j0 j1 => ?_)
    show (if j = (k : Int) then _ else t 15 j) = _ ∧ (if j = (k : Int) then _ else t 16 j) = _
    by_cases e : j = (k : Int)
    · rw [if_pos e, if_pos e, e]; exact ⟨rfl, rfl⟩
    · rw [if_neg e, if_neg e]; exact ha j j0 (by omega)
set_option maxRecDepth 100000 in
set_option maxHeartbeats 4000000 in
theorem am_X2_write {σ : zS} {s : Int} {i : Int} {n : Nat} (hs : 0 ≤ s ∧ s < 8) (hi : 0 ≤ i ∧ i + 2 * (n : Int) ≤ 80) (hn40 : n ≤ 40) (hp : zPOs σ (80 * s) i n) : zAM 14 [.inr (.inr (2, 0)), .inr (.inr (65, (80 * s))), .inl i, .inl (n : Int)] σ (fun (v : Int) (u : zS) => zfr [2, 15, 16, 17, 18, 19, 20, 21] σ u ∧ (∀ j : Int, ¬ j = 2 → ¬ j = 7 → ¬ j = 10 → ¬ j = 11 → u 2 j = σ 2 j) ∧ u 2 2 = (n : Int) ∧ (∀ j : Int, 0 ≤ j → j < (n : Int) → u 15 j = zrX σ (80 * s) i j ∧ u 16 j = zrS σ (80 * s) i j) ∧ zLC (u 15) (u 16) (σ 2 3) n u) := by
  refine zam (by decide) (Nat.le_of_ble_eq_true rfl) ?_
  refine zwalk zmk_14 [(3, [true, true, true, true, true])] 2 ?_
  show zRuns 14 zX0 (fun (v : Int) (u : zS) => zfr [2, 15, 16, 17, 18, 19, 20, 21] σ u ∧ (∀ j : Int, ¬ j = 2 → ¬ j = 7 → ¬ j = 10 → ¬ j = 11 → u 2 j = σ 2 j) ∧ u 2 2 = (n : Int) ∧ (∀ j : Int, 0 ≤ j → j < (n : Int) → u 15 j = zrX σ (80 * s) i j ∧ u 16 j = zrS σ (80 * s) i j) ∧ zLC (u 15) (u 16) (σ 2 3) n u) 3 [some (.inr (.inr (2, 0))), some (.inr (.inr (65, (80 * s)))), some (.inl i), some (.inl (n : Int)), some (.inl (0 : Int))] [] σ
  exact lp_write hs hi hn40 hp n 0 σ (by omega) zfr.rf (fun j _ _ => by omega)
end
section
set_option maxRecDepth 100000 in
set_option maxHeartbeats 4000000 in
theorem am_X8_gap {σ : zS} {x : Int} {m : Nat} (hm : σ 2 2 = (m : Int)) (hm40 : m ≤ 40) (hw : ∀ j : Int, 0 ≤ j → j < m → 0 ≤ σ 15 j ∧ σ 15 j ≤ 2000) : zAM 55 [.inr (.inr (0, 0)), .inl x] σ (fun (v : Int) (u : zS) => (¬ (1 ≤ x ∧ x ≤ 100) ∧ σ = u ∧ -1000001 = v) ∨ ((1 ≤ x ∧ x ≤ 100) ∧ σ 2 3 = v ∧ zfr [0, 2, 17, 18, 19, 20, 21] σ u ∧ (∀ j : Int, ¬ j = 3 → ¬ j = 7 → ¬ j = 10 → ¬ j = 11 → u 2 j = σ 2 j) ∧ u 2 3 = x ∧ (∀ j : Int, ¬ j = 4 → u 0 j = σ 0 j) ∧ u 0 4 = -1 ∧ zLC (σ 15) (σ 16) x m u)) := by
  refine zam (by decide) (Nat.le_of_ble_eq_true rfl) ?_
  refine zwalk zmk_55 [] 3 ?_
  show ((x < (1 : Int) → ((¬ (1 ≤ x ∧ x ≤ 100) ∧ σ = σ ∧ -1000001 = (-1000001 : Int)) ∨ ((1 ≤ x ∧ x ≤ 100) ∧ σ 2 3 = (-1000001 : Int) ∧ zfr [0, 2, 17, 18, 19, 20, 21] σ σ ∧ (∀ j : Int, ¬ j = 3 → ¬ j = 7 → ¬ j = 10 → ¬ j = 11 → σ 2 j = σ 2 j) ∧ σ 2 3 = x ∧ (∀ j : Int, ¬ j = 4 → σ 0 j = σ 0 j) ∧ σ 0 4 = -1 ∧ zLC (σ 15) (σ 16) x m σ))) ∧ ((1 : Int) ≤ x → ((x ≤ (100 : Int) → (∃ Rc : Int → zS → Prop, zAM 15 [.inr (.inr (2, 0))] (zup σ 2 (3 : Int) x) Rc ∧ ∀ (u1 : zS), Rc 0 u1 → ((¬ (1 ≤ x ∧ x ≤ 100) ∧ σ = (zup u1 0 (4 : Int) (-1 : Int)) ∧ -1000001 = (σ 2 (3 : Int))) ∨ ((1 ≤ x ∧ x ≤ 100) ∧ σ 2 3 = (σ 2 (3 : Int)) ∧ zfr [0, 2, 17, 18, 19, 20, 21] σ (zup u1 0 (4 : Int) (-1 : Int)) ∧ (∀ j : Int, ¬ j = 3 → ¬ j = 7 → ¬ j = 10 → ¬ j = 11 → (zup u1 0 (4 : Int) (-1 : Int)) 2 j = σ 2 j) ∧ (zup u1 0 (4 : Int) (-1 : Int)) 2 3 = x ∧ (∀ j : Int, ¬ j = 4 → (zup u1 0 (4 : Int) (-1 : Int)) 0 j = σ 0 j) ∧ (zup u1 0 (4 : Int) (-1 : Int)) 0 4 = -1 ∧ zLC (σ 15) (σ 16) x m (zup u1 0 (4 : Int) (-1 : Int)))))) ∧ ((100 : Int) < x → ((¬ (1 ≤ x ∧ x ≤ 100) ∧ σ = σ ∧ -1000001 = (-1000001 : Int)) ∨ ((1 ≤ x ∧ x ≤ 100) ∧ σ 2 3 = (-1000001 : Int) ∧ zfr [0, 2, 17, 18, 19, 20, 21] σ σ ∧ (∀ j : Int, ¬ j = 3 → ¬ j = 7 → ¬ j = 10 → ¬ j = 11 → σ 2 j = σ 2 j) ∧ σ 2 3 = x ∧ (∀ j : Int, ¬ j = 4 → σ 0 j = σ 0 j) ∧ σ 0 4 = -1 ∧ zLC (σ 15) (σ 16) x m σ))))))
  refine ⟨?_, ?_⟩
  · intro h1
    exact Or.inl ⟨by omega, rfl, rfl⟩
  · intro h2
    refine ⟨?_, ?_⟩
    · intro h3
      refine ⟨_, am_X2_part (n := m) (hm) (hm40) (hw), ?_⟩
      intro u1
      intro kv1
      obtain ⟨f1, a1, a2⟩ := kv1
      refine Or.inr ⟨by omega, rfl, fun k hk => ?_, fun j j1 j2 j3 j4 => ?_, ?_, fun j hj => ?_, ?_, ?_⟩
      · have hk1 : k ∉ [2, 17, 18, 19, 20, 21] := fun q => hk (by simp at q ⊢; omega)
        have hk2 : ¬ k = 2 := fun q => hk (by simp [q])
        have hk3 : ¬ k = 0 := fun q => hk (by simp [q])
        rw [zup_ne hk3, f1 k hk1, zup_ne hk2]
      · rw [zup_ne (by decide), a1 j j2 j3 j4, zup_at, if_neg j1]
      · rw [zup_ne (by decide), a1 3 (by decide) (by decide) (by decide), zup_at]; exact if_pos rfl
      · rw [zup_at, if_neg hj, f1 0 (by decide), zup_ne (by decide)]
      · rw [zup_at]; exact if_pos rfl
      · exact a2
    · intro h4
      exact Or.inl ⟨by omega, rfl, rfl⟩
set_option maxRecDepth 100000 in
set_option maxHeartbeats 4000000 in
theorem am_X8_line {σ : zS} {s : Int} {i : Int} {c : Int} (hcs : zCS σ) : zAM 54 [.inr (.inr (0, 0)), .inl s, .inl i, .inl c] σ (fun (v : Int) (u : zS) => ((¬ (0 ≤ s ∧ s < 8) ∨ c < 1 ∨ 40 < c) ∧ σ = u ∧ -1000001 = v) ∨ (((0 ≤ s ∧ s < 8) ∧ 1 ≤ c ∧ c ≤ 40 ∧ σ 11 s = 0) ∧ zup σ 0 11 1 = u ∧ -1000011 = v) ∨ (((0 ≤ s ∧ s < 8) ∧ 1 ≤ c ∧ c ≤ 40 ∧ σ 11 s = 1 ∧ ¬ (0 ≤ i ∧ i + 2 * c ≤ σ 13 s)) ∧ zup σ 0 11 2 = u ∧ -1000012 = v) ∨ (((0 ≤ s ∧ s < 8) ∧ 1 ≤ c ∧ c ≤ 40 ∧ σ 11 s = 1 ∧ 0 ≤ i ∧ i + 2 * c ≤ σ 13 s) ∧ ¬ zPOs σ (80 * s) i c ∧ σ = u ∧ -1000001 = v) ∨ (((0 ≤ s ∧ s < 8) ∧ 1 ≤ c ∧ c ≤ 40 ∧ σ 11 s = 1 ∧ 0 ≤ i ∧ i + 2 * c ≤ σ 13 s) ∧ zPOs σ (80 * s) i c ∧ u 2 10 = v ∧ zfr [0, 2, 15, 16, 17, 18, 19, 20, 21] σ u ∧ (∀ j : Int, ¬ j = 2 → ¬ j = 7 → ¬ j = 10 → ¬ j = 11 → u 2 j = σ 2 j) ∧ u 2 2 = c ∧ (∀ j : Int, ¬ j = 4 → ¬ j = 11 → u 0 j = σ 0 j) ∧ u 0 4 = -1 ∧ u 0 11 = 0 ∧ (∀ j : Int, 0 ≤ j → j < c → u 15 j = zrX σ (80 * s) i j ∧ u 16 j = zrS σ (80 * s) i j) ∧ zLC (u 15) (u 16) (σ 2 3) c.toNat u)) := by
  refine zam (by decide) (Nat.le_of_ble_eq_true rfl) ?_
  refine zwalk zmk_54 [] 6 ?_
  show (∃ Rc : Int → zS → Prop, zAM 78 [.inl s] σ Rc ∧ ∀ (v1 : Int) (u1 : zS), zI v1 → Rc v1 u1 → ((v1 = 0 → (((¬ (0 ≤ s ∧ s < 8) ∨ c < 1 ∨ 40 < c) ∧ σ = u1 ∧ -1000001 = (-1000001 : Int)) ∨ (((0 ≤ s ∧ s < 8) ∧ 1 ≤ c ∧ c ≤ 40 ∧ σ 11 s = 0) ∧ zup σ 0 11 1 = u1 ∧ -1000011 = (-1000001 : Int)) ∨ (((0 ≤ s ∧ s < 8) ∧ 1 ≤ c ∧ c ≤ 40 ∧ σ 11 s = 1 ∧ ¬ (0 ≤ i ∧ i + 2 * c ≤ σ 13 s)) ∧ zup σ 0 11 2 = u1 ∧ -1000012 = (-1000001 : Int)) ∨ (((0 ≤ s ∧ s < 8) ∧ 1 ≤ c ∧ c ≤ 40 ∧ σ 11 s = 1 ∧ 0 ≤ i ∧ i + 2 * c ≤ σ 13 s) ∧ ¬ zPOs σ (80 * s) i c ∧ σ = u1 ∧ -1000001 = (-1000001 : Int)) ∨ (((0 ≤ s ∧ s < 8) ∧ 1 ≤ c ∧ c ≤ 40 ∧ σ 11 s = 1 ∧ 0 ≤ i ∧ i + 2 * c ≤ σ 13 s) ∧ zPOs σ (80 * s) i c ∧ u1 2 10 = (-1000001 : Int) ∧ zfr [0, 2, 15, 16, 17, 18, 19, 20, 21] σ u1 ∧ (∀ j : Int, ¬ j = 2 → ¬ j = 7 → ¬ j = 10 → ¬ j = 11 → u1 2 j = σ 2 j) ∧ u1 2 2 = c ∧ (∀ j : Int, ¬ j = 4 → ¬ j = 11 → u1 0 j = σ 0 j) ∧ u1 0 4 = -1 ∧ u1 0 11 = 0 ∧ (∀ j : Int, 0 ≤ j → j < c → u1 15 j = zrX σ (80 * s) i j ∧ u1 16 j = zrS σ (80 * s) i j) ∧ zLC (u1 15) (u1 16) (σ 2 3) c.toNat u1))) ∧ (¬ v1 = 0 → ((c < (1 : Int) → (((¬ (0 ≤ s ∧ s < 8) ∨ c < 1 ∨ 40 < c) ∧ σ = u1 ∧ -1000001 = (-1000001 : Int)) ∨ (((0 ≤ s ∧ s < 8) ∧ 1 ≤ c ∧ c ≤ 40 ∧ σ 11 s = 0) ∧ zup σ 0 11 1 = u1 ∧ -1000011 = (-1000001 : Int)) ∨ (((0 ≤ s ∧ s < 8) ∧ 1 ≤ c ∧ c ≤ 40 ∧ σ 11 s = 1 ∧ ¬ (0 ≤ i ∧ i + 2 * c ≤ σ 13 s)) ∧ zup σ 0 11 2 = u1 ∧ -1000012 = (-1000001 : Int)) ∨ (((0 ≤ s ∧ s < 8) ∧ 1 ≤ c ∧ c ≤ 40 ∧ σ 11 s = 1 ∧ 0 ≤ i ∧ i + 2 * c ≤ σ 13 s) ∧ ¬ zPOs σ (80 * s) i c ∧ σ = u1 ∧ -1000001 = (-1000001 : Int)) ∨ (((0 ≤ s ∧ s < 8) ∧ 1 ≤ c ∧ c ≤ 40 ∧ σ 11 s = 1 ∧ 0 ≤ i ∧ i + 2 * c ≤ σ 13 s) ∧ zPOs σ (80 * s) i c ∧ u1 2 10 = (-1000001 : Int) ∧ zfr [0, 2, 15, 16, 17, 18, 19, 20, 21] σ u1 ∧ (∀ j : Int, ¬ j = 2 → ¬ j = 7 → ¬ j = 10 → ¬ j = 11 → u1 2 j = σ 2 j) ∧ u1 2 2 = c ∧ (∀ j : Int, ¬ j = 4 → ¬ j = 11 → u1 0 j = σ 0 j) ∧ u1 0 4 = -1 ∧ u1 0 11 = 0 ∧ (∀ j : Int, 0 ≤ j → j < c → u1 15 j = zrX σ (80 * s) i j ∧ u1 16 j = zrS σ (80 * s) i j) ∧ zLC (u1 15) (u1 16) (σ 2 3) c.toNat u1))) ∧ ((1 : Int) ≤ c → ((c ≤ (40 : Int) → ((0 ≤ s ∧ s < (8 : Int)) ∧ ((¬ (u1 11 s) = 0 → (zI ((2 : Int) * c) ∧ (∃ Rc : Int → zS → Prop, zAM 40 [.inr (.inr (1, 0)), .inl s, .inl i, .inl ((2 : Int) * c)] u1 Rc ∧ ∀ (v2 : Int) (u2 : zS), zI v2 → Rc v2 u2 → ((¬ v2 = 0 → (∃ Rc : Int → zS → Prop, zAM 42 [.inr (.inr (1, 0)), .inl s, .inl i, .inl c] u2 Rc ∧ ∀ (v3 : Int) (u3 : zS), zI v3 → Rc v3 u3 → ((¬ v3 = 0 → ((0 ≤ s ∧ s < 8) ∧ (∃ Rc : Int → zS → Prop, zAM 14 [.inr (.inr (2, 0)), .inr (.inr (65, (80 * s))), .inl i, .inl c] u3 Rc ∧ ∀ (u4 : zS), Rc 0 u4 → (∃ Rc : Int → zS → Prop, zAM 77 [.inr (.inr (0, 0)), .inl (u4 2 (10 : Int))] (zup u4 0 (4 : Int) (-1 : Int)) Rc ∧ ∀ (v5 : Int) (u5 : zS), zI v5 → Rc v5 u5 → (((¬ (0 ≤ s ∧ s < 8) ∨ c < 1 ∨ 40 < c) ∧ σ = u5 ∧ -1000001 = v5) ∨ (((0 ≤ s ∧ s < 8) ∧ 1 ≤ c ∧ c ≤ 40 ∧ σ 11 s = 0) ∧ zup σ 0 11 1 = u5 ∧ -1000011 = v5) ∨ (((0 ≤ s ∧ s < 8) ∧ 1 ≤ c ∧ c ≤ 40 ∧ σ 11 s = 1 ∧ ¬ (0 ≤ i ∧ i + 2 * c ≤ σ 13 s)) ∧ zup σ 0 11 2 = u5 ∧ -1000012 = v5) ∨ (((0 ≤ s ∧ s < 8) ∧ 1 ≤ c ∧ c ≤ 40 ∧ σ 11 s = 1 ∧ 0 ≤ i ∧ i + 2 * c ≤ σ 13 s) ∧ ¬ zPOs σ (80 * s) i c ∧ σ = u5 ∧ -1000001 = v5) ∨ (((0 ≤ s ∧ s < 8) ∧ 1 ≤ c ∧ c ≤ 40 ∧ σ 11 s = 1 ∧ 0 ≤ i ∧ i + 2 * c ≤ σ 13 s) ∧ zPOs σ (80 * s) i c ∧ u5 2 10 = v5 ∧ zfr [0, 2, 15, 16, 17, 18, 19, 20, 21] σ u5 ∧ (∀ j : Int, ¬ j = 2 → ¬ j = 7 → ¬ j = 10 → ¬ j = 11 → u5 2 j = σ 2 j) ∧ u5 2 2 = c ∧ (∀ j : Int, ¬ j = 4 → ¬ j = 11 → u5 0 j = σ 0 j) ∧ u5 0 4 = -1 ∧ u5 0 11 = 0 ∧ (∀ j : Int, 0 ≤ j → j < c → u5 15 j = zrX σ (80 * s) i j ∧ u5 16 j = zrS σ (80 * s) i j) ∧ zLC (u5 15) (u5 16) (σ 2 3) c.toNat u5)))))) ∧ (v3 = 0 → (((¬ (0 ≤ s ∧ s < 8) ∨ c < 1 ∨ 40 < c) ∧ σ = u3 ∧ -1000001 = (-1000001 : Int)) ∨ (((0 ≤ s ∧ s < 8) ∧ 1 ≤ c ∧ c ≤ 40 ∧ σ 11 s = 0) ∧ zup σ 0 11 1 = u3 ∧ -1000011 = (-1000001 : Int)) ∨ (((0 ≤ s ∧ s < 8) ∧ 1 ≤ c ∧ c ≤ 40 ∧ σ 11 s = 1 ∧ ¬ (0 ≤ i ∧ i + 2 * c ≤ σ 13 s)) ∧ zup σ 0 11 2 = u3 ∧ -1000012 = (-1000001 : Int)) ∨ (((0 ≤ s ∧ s < 8) ∧ 1 ≤ c ∧ c ≤ 40 ∧ σ 11 s = 1 ∧ 0 ≤ i ∧ i + 2 * c ≤ σ 13 s) ∧ ¬ zPOs σ (80 * s) i c ∧ σ = u3 ∧ -1000001 = (-1000001 : Int)) ∨ (((0 ≤ s ∧ s < 8) ∧ 1 ≤ c ∧ c ≤ 40 ∧ σ 11 s = 1 ∧ 0 ≤ i ∧ i + 2 * c ≤ σ 13 s) ∧ zPOs σ (80 * s) i c ∧ u3 2 10 = (-1000001 : Int) ∧ zfr [0, 2, 15, 16, 17, 18, 19, 20, 21] σ u3 ∧ (∀ j : Int, ¬ j = 2 → ¬ j = 7 → ¬ j = 10 → ¬ j = 11 → u3 2 j = σ 2 j) ∧ u3 2 2 = c ∧ (∀ j : Int, ¬ j = 4 → ¬ j = 11 → u3 0 j = σ 0 j) ∧ u3 0 4 = -1 ∧ u3 0 11 = 0 ∧ (∀ j : Int, 0 ≤ j → j < c → u3 15 j = zrX σ (80 * s) i j ∧ u3 16 j = zrS σ (80 * s) i j) ∧ zLC (u3 15) (u3 16) (σ 2 3) c.toNat u3)))))) ∧ (v2 = 0 → (∃ Rc : Int → zS → Prop, zAM 76 [.inr (.inr (0, 0)), .inl (2 : Int)] u2 Rc ∧ ∀ (v6 : Int) (u6 : zS), zI v6 → Rc v6 u6 → (((¬ (0 ≤ s ∧ s < 8) ∨ c < 1 ∨ 40 < c) ∧ σ = u6 ∧ -1000001 = v6) ∨ (((0 ≤ s ∧ s < 8) ∧ 1 ≤ c ∧ c ≤ 40 ∧ σ 11 s = 0) ∧ zup σ 0 11 1 = u6 ∧ -1000011 = v6) ∨ (((0 ≤ s ∧ s < 8) ∧ 1 ≤ c ∧ c ≤ 40 ∧ σ 11 s = 1 ∧ ¬ (0 ≤ i ∧ i + 2 * c ≤ σ 13 s)) ∧ zup σ 0 11 2 = u6 ∧ -1000012 = v6) ∨ (((0 ≤ s ∧ s < 8) ∧ 1 ≤ c ∧ c ≤ 40 ∧ σ 11 s = 1 ∧ 0 ≤ i ∧ i + 2 * c ≤ σ 13 s) ∧ ¬ zPOs σ (80 * s) i c ∧ σ = u6 ∧ -1000001 = v6) ∨ (((0 ≤ s ∧ s < 8) ∧ 1 ≤ c ∧ c ≤ 40 ∧ σ 11 s = 1 ∧ 0 ≤ i ∧ i + 2 * c ≤ σ 13 s) ∧ zPOs σ (80 * s) i c ∧ u6 2 10 = v6 ∧ zfr [0, 2, 15, 16, 17, 18, 19, 20, 21] σ u6 ∧ (∀ j : Int, ¬ j = 2 → ¬ j = 7 → ¬ j = 10 → ¬ j = 11 → u6 2 j = σ 2 j) ∧ u6 2 2 = c ∧ (∀ j : Int, ¬ j = 4 → ¬ j = 11 → u6 0 j = σ 0 j) ∧ u6 0 4 = -1 ∧ u6 0 11 = 0 ∧ (∀ j : Int, 0 ≤ j → j < c → u6 15 j = zrX σ (80 * s) i j ∧ u6 16 j = zrS σ (80 * s) i j) ∧ zLC (u6 15) (u6 16) (σ 2 3) c.toNat u6)))))))) ∧ ((u1 11 s) = 0 → (∃ Rc : Int → zS → Prop, zAM 76 [.inr (.inr (0, 0)), .inl (1 : Int)] u1 Rc ∧ ∀ (v7 : Int) (u7 : zS), zI v7 → Rc v7 u7 → (((¬ (0 ≤ s ∧ s < 8) ∨ c < 1 ∨ 40 < c) ∧ σ = u7 ∧ -1000001 = v7) ∨ (((0 ≤ s ∧ s < 8) ∧ 1 ≤ c ∧ c ≤ 40 ∧ σ 11 s = 0) ∧ zup σ 0 11 1 = u7 ∧ -1000011 = v7) ∨ (((0 ≤ s ∧ s < 8) ∧ 1 ≤ c ∧ c ≤ 40 ∧ σ 11 s = 1 ∧ ¬ (0 ≤ i ∧ i + 2 * c ≤ σ 13 s)) ∧ zup σ 0 11 2 = u7 ∧ -1000012 = v7) ∨ (((0 ≤ s ∧ s < 8) ∧ 1 ≤ c ∧ c ≤ 40 ∧ σ 11 s = 1 ∧ 0 ≤ i ∧ i + 2 * c ≤ σ 13 s) ∧ ¬ zPOs σ (80 * s) i c ∧ σ = u7 ∧ -1000001 = v7) ∨ (((0 ≤ s ∧ s < 8) ∧ 1 ≤ c ∧ c ≤ 40 ∧ σ 11 s = 1 ∧ 0 ≤ i ∧ i + 2 * c ≤ σ 13 s) ∧ zPOs σ (80 * s) i c ∧ u7 2 10 = v7 ∧ zfr [0, 2, 15, 16, 17, 18, 19, 20, 21] σ u7 ∧ (∀ j : Int, ¬ j = 2 → ¬ j = 7 → ¬ j = 10 → ¬ j = 11 → u7 2 j = σ 2 j) ∧ u7 2 2 = c ∧ (∀ j : Int, ¬ j = 4 → ¬ j = 11 → u7 0 j = σ 0 j) ∧ u7 0 4 = -1 ∧ u7 0 11 = 0 ∧ (∀ j : Int, 0 ≤ j → j < c → u7 15 j = zrX σ (80 * s) i j ∧ u7 16 j = zrS σ (80 * s) i j) ∧ zLC (u7 15) (u7 16) (σ 2 3) c.toNat u7))))))) ∧ ((40 : Int) < c → (((¬ (0 ≤ s ∧ s < 8) ∨ c < 1 ∨ 40 < c) ∧ σ = u1 ∧ -1000001 = (-1000001 : Int)) ∨ (((0 ≤ s ∧ s < 8) ∧ 1 ≤ c ∧ c ≤ 40 ∧ σ 11 s = 0) ∧ zup σ 0 11 1 = u1 ∧ -1000011 = (-1000001 : Int)) ∨ (((0 ≤ s ∧ s < 8) ∧ 1 ≤ c ∧ c ≤ 40 ∧ σ 11 s = 1 ∧ ¬ (0 ≤ i ∧ i + 2 * c ≤ σ 13 s)) ∧ zup σ 0 11 2 = u1 ∧ -1000012 = (-1000001 : Int)) ∨ (((0 ≤ s ∧ s < 8) ∧ 1 ≤ c ∧ c ≤ 40 ∧ σ 11 s = 1 ∧ 0 ≤ i ∧ i + 2 * c ≤ σ 13 s) ∧ ¬ zPOs σ (80 * s) i c ∧ σ = u1 ∧ -1000001 = (-1000001 : Int)) ∨ (((0 ≤ s ∧ s < 8) ∧ 1 ≤ c ∧ c ≤ 40 ∧ σ 11 s = 1 ∧ 0 ≤ i ∧ i + 2 * c ≤ σ 13 s) ∧ zPOs σ (80 * s) i c ∧ u1 2 10 = (-1000001 : Int) ∧ zfr [0, 2, 15, 16, 17, 18, 19, 20, 21] σ u1 ∧ (∀ j : Int, ¬ j = 2 → ¬ j = 7 → ¬ j = 10 → ¬ j = 11 → u1 2 j = σ 2 j) ∧ u1 2 2 = c ∧ (∀ j : Int, ¬ j = 4 → ¬ j = 11 → u1 0 j = σ 0 j) ∧ u1 0 4 = -1 ∧ u1 0 11 = 0 ∧ (∀ j : Int, 0 ≤ j → j < c → u1 15 j = zrX σ (80 * s) i j ∧ u1 16 j = zrS σ (80 * s) i j) ∧ zLC (u1 15) (u1 16) (σ 2 3) c.toNat u1)))))))))
  have c0 := hcs s
  refine ⟨_, am_X8_isSheet, ?_⟩
  intro v1 u1 hv1
  rintro ⟨rfl, (⟨rfl, cv1⟩ | ⟨rfl, cv1⟩)⟩
  · refine ⟨?_, ?_⟩
    · exact fun h => absurd h (by decide)
    · intro _
      refine ⟨?_, ?_⟩
      · intro h2
        first | exact Or.inl ⟨by omega, rfl, rfl⟩ | exact Or.inr (Or.inl ⟨by omega, rfl, rfl⟩) | exact Or.inr (Or.inr (Or.inl ⟨by omega, rfl, rfl⟩)) | exact Or.inr (Or.inr (Or.inr (Or.inl ⟨by omega, by assumption, rfl, rfl⟩)))
      · intro h3
        refine ⟨?_, ?_⟩
        · intro h4
          refine ⟨by (first | omega | exact ⟨by omega, by omega⟩ | exact ⟨by omega, by omega, by omega⟩ | exact ⟨by omega, by omega, by omega, by omega, by omega⟩), ?_⟩
          refine ⟨?_, ?_⟩
          · intro h5
            refine ⟨by (exact ⟨by omega, by omega⟩), ?_⟩
            refine ⟨_, am_X5_reaches (by omega), ?_⟩
            intro v2 u2 hv2
            rintro ⟨rfl, (⟨rfl, cv2⟩ | ⟨rfl, cv2⟩)⟩
            · refine ⟨?_, ?_⟩
              · intro _
                refine ⟨_, am_X5_holdsPieces (by omega) (by omega), ?_⟩
                intro v3 u3 hv3
                rintro ⟨rfl, (⟨rfl, cv3⟩ | ⟨rfl, cv3⟩)⟩
                · refine ⟨?_, ?_⟩
                  · intro _
                    refine ⟨by (first | omega | exact ⟨by omega, by omega⟩ | exact ⟨by omega, by omega, by omega⟩ | exact ⟨by omega, by omega, by omega, by omega, by omega⟩), ?_⟩
                    obtain ⟨m, rfl⟩ : ∃ m : Nat, c = (m : Int) := ⟨c.toNat, by omega⟩
                    refine ⟨_, am_X2_write (s := s) (i := i) (n := m) (by omega) (by omega) (by omega) (by assumption), ?_⟩
                    intro u4
                    intro kv4
                    obtain ⟨f1, a1, a2, a3, a4⟩ := kv4
                    refine ⟨_, am_X8_fine, ?_⟩
                    intro v5 u5 hv5
                    rintro ⟨rfl, rfl⟩
                    obtain ⟨hv5a, hv5b⟩ := hv5
                    refine Or.inr (Or.inr (Or.inr (Or.inr ⟨by omega, by assumption, rfl, fun k hk => ?_, fun j j1 j2 j3 j4 => ?_, ?_, fun j j1 j2 => ?_, ?_, ?_, ?_, ?_⟩)))
                    · have hk1 : k ∉ [2, 15, 16, 17, 18, 19, 20, 21] := fun q => hk (by simp at q ⊢; omega)
                      have hk3 : ¬ k = 0 := fun q => hk (by simp [q])
                      rw [zup_ne hk3, zup_ne hk3, f1 k hk1]
                    · rw [zup_ne (by decide), zup_ne (by decide), a1 j j1 j2 j3 j4]
                    · exact a2
                    · rw [zup_at, if_neg j2, zup_at, if_neg j1, f1 0 (by decide)]
                    · rw [zup_at, if_neg (by decide), zup_at]; exact if_pos rfl
                    · rw [zup_at]; exact if_pos rfl
                    · exact a3
                    · rw [Int.toNat_natCast]; exact a4
                  · exact fun h => absurd h (by decide)
                · refine ⟨?_, ?_⟩
                  · exact fun h => absurd h (by decide)
                  · intro _
                    first | exact Or.inl ⟨by omega, rfl, rfl⟩ | exact Or.inr (Or.inl ⟨by omega, rfl, rfl⟩) | exact Or.inr (Or.inr (Or.inl ⟨by omega, rfl, rfl⟩)) | exact Or.inr (Or.inr (Or.inr (Or.inl ⟨by omega, by assumption, rfl, rfl⟩)))
              · exact fun h => absurd h (by decide)
            · refine ⟨?_, ?_⟩
              · exact fun h => absurd h (by decide)
              · intro _
                refine ⟨_, am_X8_found (by omega), ?_⟩
                intro v6 u6 hv6
                rintro ⟨rfl, rfl⟩
                obtain ⟨hv6a, hv6b⟩ := hv6
                first | exact Or.inl ⟨by omega, rfl, rfl⟩ | exact Or.inr (Or.inl ⟨by omega, rfl, rfl⟩) | exact Or.inr (Or.inr (Or.inl ⟨by omega, rfl, rfl⟩)) | exact Or.inr (Or.inr (Or.inr (Or.inl ⟨by omega, by assumption, rfl, rfl⟩)))
          · intro h10
            refine ⟨_, am_X8_found (by omega), ?_⟩
            intro v7 u7 hv7
            rintro ⟨rfl, rfl⟩
            obtain ⟨hv7a, hv7b⟩ := hv7
            first | exact Or.inl ⟨by omega, rfl, rfl⟩ | exact Or.inr (Or.inl ⟨by omega, rfl, rfl⟩) | exact Or.inr (Or.inr (Or.inl ⟨by omega, rfl, rfl⟩)) | exact Or.inr (Or.inr (Or.inr (Or.inl ⟨by omega, by assumption, rfl, rfl⟩)))
        · intro h11
          first | exact Or.inl ⟨by omega, rfl, rfl⟩ | exact Or.inr (Or.inl ⟨by omega, rfl, rfl⟩) | exact Or.inr (Or.inr (Or.inl ⟨by omega, rfl, rfl⟩)) | exact Or.inr (Or.inr (Or.inr (Or.inl ⟨by omega, by assumption, rfl, rfl⟩)))
  · refine ⟨?_, ?_⟩
    · intro _
      first | exact Or.inl ⟨by omega, rfl, rfl⟩ | exact Or.inr (Or.inl ⟨by omega, rfl, rfl⟩) | exact Or.inr (Or.inr (Or.inl ⟨by omega, rfl, rfl⟩)) | exact Or.inr (Or.inr (Or.inr (Or.inl ⟨by omega, by assumption, rfl, rfl⟩)))
    · exact fun h => absurd h (by decide)
end
