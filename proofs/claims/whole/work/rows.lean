section
-- ===== PART A: goes FIRST, ahead of the names: the tables' words, and 'selects' of the private methods out of them =====
/-- a private method of a class that the tables say can be made, by its rows of tables_1 -/
def lw_okq (q : MethodName × Nat) : Prop := (q.1.cls ≠ "java/lang/invoke/MethodHandle" ∧ q.1.cls ≠ "java/lang/invoke/VarHandle") ∧ Cond.instantiable q.1.cls q.2 ∈ tables_1 ∧ Cond.privateMethod q.1 ∈ tables_1 ∧ Cond.instanceMethod q.1 ∈ tables_1
theorem lw_p0 : lw_okq (⟨"ScoreNumbers", "putWord", "(III)I"⟩, 6) := ⟨⟨by decide +kernel, by decide +kernel⟩, List.mem_of_getElem? (i := 11) (by decide +kernel), List.mem_of_getElem? (i := 145) (by decide +kernel), List.mem_of_getElem? (i := 146) (by decide +kernel)⟩
theorem lw_p1 : lw_okq (⟨"ScoreNumbers$Ways", "addSmalls", "(JI)V"⟩, 2) := ⟨⟨by decide +kernel, by decide +kernel⟩, List.mem_of_getElem? (i := 66) (by decide +kernel), List.mem_of_getElem? (i := 195) (by decide +kernel), List.mem_of_getElem? (i := 196) (by decide +kernel)⟩
theorem lw_p2 : lw_okq (⟨"ScoreNumbers$Ways", "add", "(J)V"⟩, 2) := ⟨⟨by decide +kernel, by decide +kernel⟩, List.mem_of_getElem? (i := 66) (by decide +kernel), List.mem_of_getElem? (i := 205) (by decide +kernel), List.mem_of_getElem? (i := 206) (by decide +kernel)⟩
theorem lw_p3 : lw_okq (⟨"ScoreNumbers$Ways", "addWithBase", "(JII)V"⟩, 2) := ⟨⟨by decide +kernel, by decide +kernel⟩, List.mem_of_getElem? (i := 66) (by decide +kernel), List.mem_of_getElem? (i := 213) (by decide +kernel), List.mem_of_getElem? (i := 214) (by decide +kernel)⟩
theorem lw_p4 : lw_okq (⟨"ScoreNumbers$Ways", "addGreat", "(II)V"⟩, 2) := ⟨⟨by decide +kernel, by decide +kernel⟩, List.mem_of_getElem? (i := 66) (by decide +kernel), List.mem_of_getElem? (i := 220) (by decide +kernel), List.mem_of_getElem? (i := 221) (by decide +kernel)⟩
theorem lw_p5 : lw_okq (⟨"ScoreNumbers", "say", "(IIJ)I"⟩, 6) := ⟨⟨by decide +kernel, by decide +kernel⟩, List.mem_of_getElem? (i := 11) (by decide +kernel), List.mem_of_getElem? (i := 242) (by decide +kernel), List.mem_of_getElem? (i := 243) (by decide +kernel)⟩
theorem lw_p6 : lw_okq (⟨"ScoreNumbers", "heard", "(IJ)I"⟩, 6) := ⟨⟨by decide +kernel, by decide +kernel⟩, List.mem_of_getElem? (i := 11) (by decide +kernel), List.mem_of_getElem? (i := 246) (by decide +kernel), List.mem_of_getElem? (i := 247) (by decide +kernel)⟩
theorem lw_p7 : lw_okq (⟨"ScoreNumbers$Ear", "following", "(I)I"⟩, 11) := ⟨⟨by decide +kernel, by decide +kernel⟩, List.mem_of_getElem? (i := 82) (by decide +kernel), List.mem_of_getElem? (i := 266) (by decide +kernel), List.mem_of_getElem? (i := 267) (by decide +kernel)⟩
theorem lw_p8 : lw_okq (⟨"ScoreNumbers$Ear", "afterStart", "(I)I"⟩, 11) := ⟨⟨by decide +kernel, by decide +kernel⟩, List.mem_of_getElem? (i := 82) (by decide +kernel), List.mem_of_getElem? (i := 270) (by decide +kernel), List.mem_of_getElem? (i := 271) (by decide +kernel)⟩
theorem lw_p9 : lw_okq (⟨"ScoreNumbers$Ear", "afterCount", "(I)I"⟩, 11) := ⟨⟨by decide +kernel, by decide +kernel⟩, List.mem_of_getElem? (i := 82) (by decide +kernel), List.mem_of_getElem? (i := 277) (by decide +kernel), List.mem_of_getElem? (i := 278) (by decide +kernel)⟩
theorem lw_p10 : lw_okq (⟨"ScoreNumbers$Ear", "afterLess", "(I)I"⟩, 11) := ⟨⟨by decide +kernel, by decide +kernel⟩, List.mem_of_getElem? (i := 82) (by decide +kernel), List.mem_of_getElem? (i := 284) (by decide +kernel), List.mem_of_getElem? (i := 285) (by decide +kernel)⟩
theorem lw_p11 : lw_okq (⟨"ScoreNumbers$Ear", "keep", "(I)V"⟩, 11) := ⟨⟨by decide +kernel, by decide +kernel⟩, List.mem_of_getElem? (i := 82) (by decide +kernel), List.mem_of_getElem? (i := 288) (by decide +kernel), List.mem_of_getElem? (i := 289) (by decide +kernel)⟩
theorem lw_p12 : lw_okq (⟨"ScoreNumbers$Ear", "takeUnitAsCount", "()V"⟩, 11) := ⟨⟨by decide +kernel, by decide +kernel⟩, List.mem_of_getElem? (i := 82) (by decide +kernel), List.mem_of_getElem? (i := 292) (by decide +kernel), List.mem_of_getElem? (i := 293) (by decide +kernel)⟩
theorem lw_p13 : lw_okq (⟨"ScoreNumbers$Ear", "scores", "()I"⟩, 11) := ⟨⟨by decide +kernel, by decide +kernel⟩, List.mem_of_getElem? (i := 82) (by decide +kernel), List.mem_of_getElem? (i := 296) (by decide +kernel), List.mem_of_getElem? (i := 297) (by decide +kernel)⟩
theorem lw_p14 : lw_okq (⟨"ScoreNumbers$Ear", "keepUnit", "(I)V"⟩, 11) := ⟨⟨by decide +kernel, by decide +kernel⟩, List.mem_of_getElem? (i := 82) (by decide +kernel), List.mem_of_getElem? (i := 300) (by decide +kernel), List.mem_of_getElem? (i := 301) (by decide +kernel)⟩
theorem lw_p15 : lw_okq (⟨"ScoreNumbers$Ear", "number", "()I"⟩, 11) := ⟨⟨by decide +kernel, by decide +kernel⟩, List.mem_of_getElem? (i := 82) (by decide +kernel), List.mem_of_getElem? (i := 308) (by decide +kernel), List.mem_of_getElem? (i := 309) (by decide +kernel)⟩
def lw_privs_1 : List (MethodName × Nat) := [(⟨"ScoreNumbers", "putWord", "(III)I"⟩, 6), (⟨"ScoreNumbers$Ways", "addSmalls", "(JI)V"⟩, 2), (⟨"ScoreNumbers$Ways", "add", "(J)V"⟩, 2), (⟨"ScoreNumbers$Ways", "addWithBase", "(JII)V"⟩, 2), (⟨"ScoreNumbers$Ways", "addGreat", "(II)V"⟩, 2), (⟨"ScoreNumbers", "say", "(IIJ)I"⟩, 6), (⟨"ScoreNumbers", "heard", "(IJ)I"⟩, 6), (⟨"ScoreNumbers$Ear", "following", "(I)I"⟩, 11), (⟨"ScoreNumbers$Ear", "afterStart", "(I)I"⟩, 11), (⟨"ScoreNumbers$Ear", "afterCount", "(I)I"⟩, 11), (⟨"ScoreNumbers$Ear", "afterLess", "(I)I"⟩, 11), (⟨"ScoreNumbers$Ear", "keep", "(I)V"⟩, 11), (⟨"ScoreNumbers$Ear", "takeUnitAsCount", "()V"⟩, 11), (⟨"ScoreNumbers$Ear", "scores", "()I"⟩, 11), (⟨"ScoreNumbers$Ear", "keepUnit", "(I)V"⟩, 11), (⟨"ScoreNumbers$Ear", "number", "()I"⟩, 11)]
theorem lw_r1 : ∀ q ∈ lw_privs_1, lw_okq q := List.forall_mem_cons.mpr ⟨lw_p0, List.forall_mem_cons.mpr ⟨lw_p1, List.forall_mem_cons.mpr ⟨lw_p2, List.forall_mem_cons.mpr ⟨lw_p3, List.forall_mem_cons.mpr ⟨lw_p4, List.forall_mem_cons.mpr ⟨lw_p5, List.forall_mem_cons.mpr ⟨lw_p6, List.forall_mem_cons.mpr ⟨lw_p7, List.forall_mem_cons.mpr ⟨lw_p8, List.forall_mem_cons.mpr ⟨lw_p9, List.forall_mem_cons.mpr ⟨lw_p10, List.forall_mem_cons.mpr ⟨lw_p11, List.forall_mem_cons.mpr ⟨lw_p12, List.forall_mem_cons.mpr ⟨lw_p13, List.forall_mem_cons.mpr ⟨lw_p14, List.forall_mem_cons.mpr ⟨lw_p15, fun _ h => absurd h List.not_mem_nil⟩⟩⟩⟩⟩⟩⟩⟩⟩⟩⟩⟩⟩⟩⟩⟩
theorem lw_p16 : lw_okq (⟨"ScoreNumbers", "doubtWords", "([IJ)Z"⟩, 6) := ⟨⟨by decide +kernel, by decide +kernel⟩, List.mem_of_getElem? (i := 11) (by decide +kernel), List.mem_of_getElem? (i := 312) (by decide +kernel), List.mem_of_getElem? (i := 313) (by decide +kernel)⟩
theorem lw_p17 : lw_okq (⟨"ScoreNumbers", "packedText", "()J"⟩, 6) := ⟨⟨by decide +kernel, by decide +kernel⟩, List.mem_of_getElem? (i := 11) (by decide +kernel), List.mem_of_getElem? (i := 336) (by decide +kernel), List.mem_of_getElem? (i := 337) (by decide +kernel)⟩
theorem lw_p18 : lw_okq (⟨"ScoreNumbers", "meant", "(J)I"⟩, 6) := ⟨⟨by decide +kernel, by decide +kernel⟩, List.mem_of_getElem? (i := 11) (by decide +kernel), List.mem_of_getElem? (i := 341) (by decide +kernel), List.mem_of_getElem? (i := 342) (by decide +kernel)⟩
theorem lw_p19 : lw_okq (⟨"ScoreNumbers", "firstUnderstood", "(II)I"⟩, 6) := ⟨⟨by decide +kernel, by decide +kernel⟩, List.mem_of_getElem? (i := 11) (by decide +kernel), List.mem_of_getElem? (i := 410) (by decide +kernel), List.mem_of_getElem? (i := 411) (by decide +kernel)⟩
theorem lw_p20 : lw_okq (⟨"ScoreNumbers", "reached", "(IJ)I"⟩, 6) := ⟨⟨by decide +kernel, by decide +kernel⟩, List.mem_of_getElem? (i := 11) (by decide +kernel), List.mem_of_getElem? (i := 418) (by decide +kernel), List.mem_of_getElem? (i := 419) (by decide +kernel)⟩
theorem lw_p21 : lw_okq (⟨"ScoreNumbersModel", "makesKnown", "(III)I"⟩, 18) := ⟨⟨by decide +kernel, by decide +kernel⟩, List.mem_of_getElem? (i := 455) (by decide +kernel), List.mem_of_getElem? (i := 520) (by decide +kernel), List.mem_of_getElem? (i := 521) (by decide +kernel)⟩
theorem lw_p22 : lw_okq (⟨"ScoreNumbersModel", "record", "()V"⟩, 18) := ⟨⟨by decide +kernel, by decide +kernel⟩, List.mem_of_getElem? (i := 455) (by decide +kernel), List.mem_of_getElem? (i := 530) (by decide +kernel), List.mem_of_getElem? (i := 531) (by decide +kernel)⟩
theorem lw_p23 : lw_okq (⟨"ScoreNumbersModel", "known", "(I)I"⟩, 18) := ⟨⟨by decide +kernel, by decide +kernel⟩, List.mem_of_getElem? (i := 455) (by decide +kernel), List.mem_of_getElem? (i := 534) (by decide +kernel), List.mem_of_getElem? (i := 535) (by decide +kernel)⟩
theorem lw_p24 : lw_okq (⟨"ScoreNumbersModel", "makes", "(I)V"⟩, 18) := ⟨⟨by decide +kernel, by decide +kernel⟩, List.mem_of_getElem? (i := 455) (by decide +kernel), List.mem_of_getElem? (i := 557) (by decide +kernel), List.mem_of_getElem? (i := 558) (by decide +kernel)⟩
theorem lw_p25 : lw_okq (⟨"ScoreNumbersModel", "begins", "(IZ)V"⟩, 18) := ⟨⟨by decide +kernel, by decide +kernel⟩, List.mem_of_getElem? (i := 455) (by decide +kernel), List.mem_of_getElem? (i := 561) (by decide +kernel), List.mem_of_getElem? (i := 562) (by decide +kernel)⟩
theorem lw_p26 : lw_okq (⟨"ScoreNumbersModel", "putCount", "(IZC)V"⟩, 18) := ⟨⟨by decide +kernel, by decide +kernel⟩, List.mem_of_getElem? (i := 455) (by decide +kernel), List.mem_of_getElem? (i := 565) (by decide +kernel), List.mem_of_getElem? (i := 566) (by decide +kernel)⟩
theorem lw_p27 : lw_okq (⟨"ScoreNumbersModel", "put", "(C)V"⟩, 18) := ⟨⟨by decide +kernel, by decide +kernel⟩, List.mem_of_getElem? (i := 455) (by decide +kernel), List.mem_of_getElem? (i := 569) (by decide +kernel), List.mem_of_getElem? (i := 570) (by decide +kernel)⟩
theorem lw_p28 : lw_okq (⟨"ScoreNumbersModel", "smalls", "(II)V"⟩, 18) := ⟨⟨by decide +kernel, by decide +kernel⟩, List.mem_of_getElem? (i := 455) (by decide +kernel), List.mem_of_getElem? (i := 573) (by decide +kernel), List.mem_of_getElem? (i := 574) (by decide +kernel)⟩
theorem lw_p29 : lw_okq (⟨"ScoreNumbersModel", "putBase", "(I)V"⟩, 18) := ⟨⟨by decide +kernel, by decide +kernel⟩, List.mem_of_getElem? (i := 455) (by decide +kernel), List.mem_of_getElem? (i := 580) (by decide +kernel), List.mem_of_getElem? (i := 581) (by decide +kernel)⟩
theorem lw_p30 : lw_okq (⟨"ScoreNumbersModel", "isAhead", "(II)Z"⟩, 18) := ⟨⟨by decide +kernel, by decide +kernel⟩, List.mem_of_getElem? (i := 455) (by decide +kernel), List.mem_of_getElem? (i := 584) (by decide +kernel), List.mem_of_getElem? (i := 585) (by decide +kernel)⟩
theorem lw_p31 : lw_okq (⟨"ScoreNumbersModel", "placeOf", "(I)I"⟩, 18) := ⟨⟨by decide +kernel, by decide +kernel⟩, List.mem_of_getElem? (i := 455) (by decide +kernel), List.mem_of_getElem? (i := 588) (by decide +kernel), List.mem_of_getElem? (i := 589) (by decide +kernel)⟩
def lw_privs_2 : List (MethodName × Nat) := [(⟨"ScoreNumbers", "doubtWords", "([IJ)Z"⟩, 6), (⟨"ScoreNumbers", "packedText", "()J"⟩, 6), (⟨"ScoreNumbers", "meant", "(J)I"⟩, 6), (⟨"ScoreNumbers", "firstUnderstood", "(II)I"⟩, 6), (⟨"ScoreNumbers", "reached", "(IJ)I"⟩, 6), (⟨"ScoreNumbersModel", "makesKnown", "(III)I"⟩, 18), (⟨"ScoreNumbersModel", "record", "()V"⟩, 18), (⟨"ScoreNumbersModel", "known", "(I)I"⟩, 18), (⟨"ScoreNumbersModel", "makes", "(I)V"⟩, 18), (⟨"ScoreNumbersModel", "begins", "(IZ)V"⟩, 18), (⟨"ScoreNumbersModel", "putCount", "(IZC)V"⟩, 18), (⟨"ScoreNumbersModel", "put", "(C)V"⟩, 18), (⟨"ScoreNumbersModel", "smalls", "(II)V"⟩, 18), (⟨"ScoreNumbersModel", "putBase", "(I)V"⟩, 18), (⟨"ScoreNumbersModel", "isAhead", "(II)Z"⟩, 18), (⟨"ScoreNumbersModel", "placeOf", "(I)I"⟩, 18)]
theorem lw_r2 : ∀ q ∈ lw_privs_2, lw_okq q := List.forall_mem_cons.mpr ⟨lw_p16, List.forall_mem_cons.mpr ⟨lw_p17, List.forall_mem_cons.mpr ⟨lw_p18, List.forall_mem_cons.mpr ⟨lw_p19, List.forall_mem_cons.mpr ⟨lw_p20, List.forall_mem_cons.mpr ⟨lw_p21, List.forall_mem_cons.mpr ⟨lw_p22, List.forall_mem_cons.mpr ⟨lw_p23, List.forall_mem_cons.mpr ⟨lw_p24, List.forall_mem_cons.mpr ⟨lw_p25, List.forall_mem_cons.mpr ⟨lw_p26, List.forall_mem_cons.mpr ⟨lw_p27, List.forall_mem_cons.mpr ⟨lw_p28, List.forall_mem_cons.mpr ⟨lw_p29, List.forall_mem_cons.mpr ⟨lw_p30, List.forall_mem_cons.mpr ⟨lw_p31, fun _ h => absurd h List.not_mem_nil⟩⟩⟩⟩⟩⟩⟩⟩⟩⟩⟩⟩⟩⟩⟩⟩
theorem lw_p32 : lw_okq (⟨"ScoreNumbersModel", "has", "(IC)Z"⟩, 18) := ⟨⟨by decide +kernel, by decide +kernel⟩, List.mem_of_getElem? (i := 455) (by decide +kernel), List.mem_of_getElem? (i := 592) (by decide +kernel), List.mem_of_getElem? (i := 593) (by decide +kernel)⟩
theorem lw_p33 : lw_okq (⟨"ScoreNumbersModel", "says", "(I)I"⟩, 18) := ⟨⟨by decide +kernel, by decide +kernel⟩, List.mem_of_getElem? (i := 455) (by decide +kernel), List.mem_of_getElem? (i := 596) (by decide +kernel), List.mem_of_getElem? (i := 597) (by decide +kernel)⟩
theorem lw_p34 : lw_okq (⟨"ScoreNumbersModel", "tells", "(III)I"⟩, 18) := ⟨⟨by decide +kernel, by decide +kernel⟩, List.mem_of_getElem? (i := 455) (by decide +kernel), List.mem_of_getElem? (i := 600) (by decide +kernel), List.mem_of_getElem? (i := 601) (by decide +kernel)⟩
theorem lw_p35 : lw_okq (⟨"ScoreNumbersModel", "understands", "(II)I"⟩, 18) := ⟨⟨by decide +kernel, by decide +kernel⟩, List.mem_of_getElem? (i := 455) (by decide +kernel), List.mem_of_getElem? (i := 604) (by decide +kernel), List.mem_of_getElem? (i := 605) (by decide +kernel)⟩
theorem lw_p36 : lw_okq (⟨"ScoreNumbersModel", "faultOf", "(I)I"⟩, 18) := ⟨⟨by decide +kernel, by decide +kernel⟩, List.mem_of_getElem? (i := 455) (by decide +kernel), List.mem_of_getElem? (i := 608) (by decide +kernel), List.mem_of_getElem? (i := 609) (by decide +kernel)⟩
theorem lw_p37 : lw_okq (⟨"ScoreNumbersModel", "number", "()Z"⟩, 18) := ⟨⟨by decide +kernel, by decide +kernel⟩, List.mem_of_getElem? (i := 455) (by decide +kernel), List.mem_of_getElem? (i := 612) (by decide +kernel), List.mem_of_getElem? (i := 613) (by decide +kernel)⟩
theorem lw_p38 : lw_okq (⟨"ScoreNumbersModel", "accepts", "(C)Z"⟩, 18) := ⟨⟨by decide +kernel, by decide +kernel⟩, List.mem_of_getElem? (i := 455) (by decide +kernel), List.mem_of_getElem? (i := 616) (by decide +kernel), List.mem_of_getElem? (i := 617) (by decide +kernel)⟩
theorem lw_p39 : lw_okq (⟨"ScoreNumbersModel", "isSign", "(C)Z"⟩, 18) := ⟨⟨by decide +kernel, by decide +kernel⟩, List.mem_of_getElem? (i := 455) (by decide +kernel), List.mem_of_getElem? (i := 620) (by decide +kernel), List.mem_of_getElem? (i := 621) (by decide +kernel)⟩
theorem lw_p40 : lw_okq (⟨"ScoreNumbersModel", "and", "()Z"⟩, 18) := ⟨⟨by decide +kernel, by decide +kernel⟩, List.mem_of_getElem? (i := 455) (by decide +kernel), List.mem_of_getElem? (i := 624) (by decide +kernel), List.mem_of_getElem? (i := 625) (by decide +kernel)⟩
theorem lw_p41 : lw_okq (⟨"ScoreNumbersModel", "small", "()Z"⟩, 18) := ⟨⟨by decide +kernel, by decide +kernel⟩, List.mem_of_getElem? (i := 455) (by decide +kernel), List.mem_of_getElem? (i := 628) (by decide +kernel), List.mem_of_getElem? (i := 629) (by decide +kernel)⟩
theorem lw_p42 : lw_okq (⟨"ScoreNumbersModel", "unitFrom", "(C)I"⟩, 18) := ⟨⟨by decide +kernel, by decide +kernel⟩, List.mem_of_getElem? (i := 455) (by decide +kernel), List.mem_of_getElem? (i := 632) (by decide +kernel), List.mem_of_getElem? (i := 633) (by decide +kernel)⟩
theorem lw_p43 : lw_okq (⟨"ScoreNumbersModel", "smallFrom", "(I)Z"⟩, 18) := ⟨⟨by decide +kernel, by decide +kernel⟩, List.mem_of_getElem? (i := 455) (by decide +kernel), List.mem_of_getElem? (i := 636) (by decide +kernel), List.mem_of_getElem? (i := 637) (by decide +kernel)⟩
theorem lw_p44 : lw_okq (⟨"ScoreNumbersModel", "plus", "()Z"⟩, 18) := ⟨⟨by decide +kernel, by decide +kernel⟩, List.mem_of_getElem? (i := 455) (by decide +kernel), List.mem_of_getElem? (i := 640) (by decide +kernel), List.mem_of_getElem? (i := 641) (by decide +kernel)⟩
theorem lw_p45 : lw_okq (⟨"ScoreNumbersModel", "base", "()Z"⟩, 18) := ⟨⟨by decide +kernel, by decide +kernel⟩, List.mem_of_getElem? (i := 455) (by decide +kernel), List.mem_of_getElem? (i := 644) (by decide +kernel), List.mem_of_getElem? (i := 645) (by decide +kernel)⟩
theorem lw_p46 : lw_okq (⟨"ScoreNumbersModel", "half", "()Z"⟩, 18) := ⟨⟨by decide +kernel, by decide +kernel⟩, List.mem_of_getElem? (i := 455) (by decide +kernel), List.mem_of_getElem? (i := 648) (by decide +kernel), List.mem_of_getElem? (i := 649) (by decide +kernel)⟩
theorem lw_p47 : lw_okq (⟨"ScoreNumbersModel", "meaningBy", "(ZZZ)I"⟩, 18) := ⟨⟨by decide +kernel, by decide +kernel⟩, List.mem_of_getElem? (i := 455) (by decide +kernel), List.mem_of_getElem? (i := 652) (by decide +kernel), List.mem_of_getElem? (i := 653) (by decide +kernel)⟩
def lw_privs_3 : List (MethodName × Nat) := [(⟨"ScoreNumbersModel", "has", "(IC)Z"⟩, 18), (⟨"ScoreNumbersModel", "says", "(I)I"⟩, 18), (⟨"ScoreNumbersModel", "tells", "(III)I"⟩, 18), (⟨"ScoreNumbersModel", "understands", "(II)I"⟩, 18), (⟨"ScoreNumbersModel", "faultOf", "(I)I"⟩, 18), (⟨"ScoreNumbersModel", "number", "()Z"⟩, 18), (⟨"ScoreNumbersModel", "accepts", "(C)Z"⟩, 18), (⟨"ScoreNumbersModel", "isSign", "(C)Z"⟩, 18), (⟨"ScoreNumbersModel", "and", "()Z"⟩, 18), (⟨"ScoreNumbersModel", "small", "()Z"⟩, 18), (⟨"ScoreNumbersModel", "unitFrom", "(C)I"⟩, 18), (⟨"ScoreNumbersModel", "smallFrom", "(I)Z"⟩, 18), (⟨"ScoreNumbersModel", "plus", "()Z"⟩, 18), (⟨"ScoreNumbersModel", "base", "()Z"⟩, 18), (⟨"ScoreNumbersModel", "half", "()Z"⟩, 18), (⟨"ScoreNumbersModel", "meaningBy", "(ZZZ)I"⟩, 18)]
theorem lw_r3 : ∀ q ∈ lw_privs_3, lw_okq q := List.forall_mem_cons.mpr ⟨lw_p32, List.forall_mem_cons.mpr ⟨lw_p33, List.forall_mem_cons.mpr ⟨lw_p34, List.forall_mem_cons.mpr ⟨lw_p35, List.forall_mem_cons.mpr ⟨lw_p36, List.forall_mem_cons.mpr ⟨lw_p37, List.forall_mem_cons.mpr ⟨lw_p38, List.forall_mem_cons.mpr ⟨lw_p39, List.forall_mem_cons.mpr ⟨lw_p40, List.forall_mem_cons.mpr ⟨lw_p41, List.forall_mem_cons.mpr ⟨lw_p42, List.forall_mem_cons.mpr ⟨lw_p43, List.forall_mem_cons.mpr ⟨lw_p44, List.forall_mem_cons.mpr ⟨lw_p45, List.forall_mem_cons.mpr ⟨lw_p46, List.forall_mem_cons.mpr ⟨lw_p47, fun _ h => absurd h List.not_mem_nil⟩⟩⟩⟩⟩⟩⟩⟩⟩⟩⟩⟩⟩⟩⟩⟩
theorem lw_p48 : lw_okq (⟨"ScoreNumbersModel", "saysWord", "(CI)Z"⟩, 18) := ⟨⟨by decide +kernel, by decide +kernel⟩, List.mem_of_getElem? (i := 455) (by decide +kernel), List.mem_of_getElem? (i := 656) (by decide +kernel), List.mem_of_getElem? (i := 657) (by decide +kernel)⟩
theorem lw_p49 : lw_okq (⟨"ScoreNumbersModel", "doubts", "(II)I"⟩, 18) := ⟨⟨by decide +kernel, by decide +kernel⟩, List.mem_of_getElem? (i := 455) (by decide +kernel), List.mem_of_getElem? (i := 660) (by decide +kernel), List.mem_of_getElem? (i := 661) (by decide +kernel)⟩
theorem lw_p50 : lw_okq (⟨"ScoreNumbersModel", "logs", "(IIIII)V"⟩, 18) := ⟨⟨by decide +kernel, by decide +kernel⟩, List.mem_of_getElem? (i := 455) (by decide +kernel), List.mem_of_getElem? (i := 664) (by decide +kernel), List.mem_of_getElem? (i := 665) (by decide +kernel)⟩
theorem lw_p51 : lw_okq (⟨"ScoreNumbersModel", "textFault", "()I"⟩, 18) := ⟨⟨by decide +kernel, by decide +kernel⟩, List.mem_of_getElem? (i := 455) (by decide +kernel), List.mem_of_getElem? (i := 672) (by decide +kernel), List.mem_of_getElem? (i := 673) (by decide +kernel)⟩
theorem lw_p52 : lw_okq (⟨"ScoreNumbersModel", "isText", "(I)Z"⟩, 18) := ⟨⟨by decide +kernel, by decide +kernel⟩, List.mem_of_getElem? (i := 455) (by decide +kernel), List.mem_of_getElem? (i := 716) (by decide +kernel), List.mem_of_getElem? (i := 717) (by decide +kernel)⟩
theorem lw_p53 : lw_okq (⟨"ScoreNumbersModel", "best", "(II)I"⟩, 18) := ⟨⟨by decide +kernel, by decide +kernel⟩, List.mem_of_getElem? (i := 455) (by decide +kernel), List.mem_of_getElem? (i := 736) (by decide +kernel), List.mem_of_getElem? (i := 737) (by decide +kernel)⟩
theorem lw_p54 : lw_okq (⟨"ScoreNumbersModel", "reached", "(II)I"⟩, 18) := ⟨⟨by decide +kernel, by decide +kernel⟩, List.mem_of_getElem? (i := 455) (by decide +kernel), List.mem_of_getElem? (i := 744) (by decide +kernel), List.mem_of_getElem? (i := 745) (by decide +kernel)⟩
theorem lw_p55 : lw_okq (⟨"ScoreNumbersModel", "sumOf", "(I)I"⟩, 18) := ⟨⟨by decide +kernel, by decide +kernel⟩, List.mem_of_getElem? (i := 455) (by decide +kernel), List.mem_of_getElem? (i := 764) (by decide +kernel), List.mem_of_getElem? (i := 765) (by decide +kernel)⟩
def lw_privs_4 : List (MethodName × Nat) := [(⟨"ScoreNumbersModel", "saysWord", "(CI)Z"⟩, 18), (⟨"ScoreNumbersModel", "doubts", "(II)I"⟩, 18), (⟨"ScoreNumbersModel", "logs", "(IIIII)V"⟩, 18), (⟨"ScoreNumbersModel", "textFault", "()I"⟩, 18), (⟨"ScoreNumbersModel", "isText", "(I)Z"⟩, 18), (⟨"ScoreNumbersModel", "best", "(II)I"⟩, 18), (⟨"ScoreNumbersModel", "reached", "(II)I"⟩, 18), (⟨"ScoreNumbersModel", "sumOf", "(I)I"⟩, 18)]
theorem lw_r4 : ∀ q ∈ lw_privs_4, lw_okq q := List.forall_mem_cons.mpr ⟨lw_p48, List.forall_mem_cons.mpr ⟨lw_p49, List.forall_mem_cons.mpr ⟨lw_p50, List.forall_mem_cons.mpr ⟨lw_p51, List.forall_mem_cons.mpr ⟨lw_p52, List.forall_mem_cons.mpr ⟨lw_p53, List.forall_mem_cons.mpr ⟨lw_p54, List.forall_mem_cons.mpr ⟨lw_p55, fun _ h => absurd h List.not_mem_nil⟩⟩⟩⟩⟩⟩⟩⟩
def lw_privs : List (MethodName × Nat) := lw_privs_1 ++ (lw_privs_2 ++ (lw_privs_3 ++ (lw_privs_4)))
def lw_tbl : List Cond := k2_sels lw_privs ++ tables_1
theorem lw_privs_ok : ∀ q ∈ lw_privs, lw_okq q := by
  show ∀ q ∈ lw_privs_1 ++ (lw_privs_2 ++ (lw_privs_3 ++ (lw_privs_4))), lw_okq q
  exact List.forall_mem_append.mpr ⟨lw_r1, List.forall_mem_append.mpr ⟨lw_r2, List.forall_mem_append.mpr ⟨lw_r3, lw_r4⟩⟩⟩
/-- the streams that the claim lets the run draw from -/
abbrev lw_cs : List Choice := [Jvm.Choice.named "NaN.bits"]
theorem lw_bits : nanBits ∈ lw_cs := by first | decide | exact List.mem_cons_self | simp [lw_cs, nanBits]
-- ===== end of PART A; then your names; then what follows =====
end
section
/-! ===== BEGIN words of one list among another's, by their places ===== -/
theorem goodIn_r {big : List Cond} (ws : List Cond) (ps : List Nat) (hp : ws = ps.filterMap (fun i => big[i]?)) (h : ws.all goodWord = true) : GoodIn big ws := by
  intro w hw
  have h1 := List.all_eq_true.mp h w hw
  rw [hp] at hw
  obtain ⟨i, -, hi⟩ := List.mem_filterMap.mp hw
  have hm : w ∈ big := by first | exact List.mem_of_getElem? hi | exact List.getElem?_mem hi
  exact ⟨hm, good_of_word h1⟩
theorem goodIn_app {big a b : List Cond} (ha : GoodIn big a) (hb : GoodIn big b) : GoodIn big (a ++ b) := fun w h => (List.mem_append.mp h).elim (ha w) (hb w)
theorem goodIn_ca {big a b : List Cond} {c : Cond} (ha : GoodIn big (c :: a)) (hb : GoodIn big b) : GoodIn big (c :: (a ++ b)) := fun w h => (List.mem_cons.mp h).elim (fun e => ha w (List.mem_cons.mpr (Or.inl e))) (fun h => (List.mem_append.mp h).elim (fun h => ha w (List.mem_cons.mpr (Or.inr h))) (hb w))
theorem goodIn_sub {big ws : List Cond} (hm : ∀ w ∈ ws, w ∈ big) (h : ws.all goodWord = true) : GoodIn big ws := fun w hw => ⟨hm w hw, good_of_word (List.all_eq_true.mp h w hw)⟩
/-! ===== END ===== -/

/-- the array class over an array class is there (the printed names use this word without its definition: written here) -/
def va_AOA (t : FieldType) (U : State) : Prop := (Cond.arrayOver (.array t)).before #[] U = true
theorem va_AOA.use {t : FieldType} {A : Array Value} {U : State} (h : va_AOA t U) : (Cond.arrayOver (.array t)).before A U = true := h
/-! ===== BEGIN new T[n][m]: the outer array a place, the inner ones among the pooled ===== -/
/-- f, but v at every address of l -/
def vr_up {α : Type} (f : Nat → α) (l : List Nat) (v : α) : Nat → α := fun a => if a ∈ l then v else f a
theorem vr_up_in {α : Type} {f : Nat → α} {l : List Nat} {v : α} {a : Nat} (h : a ∈ l) : vr_up f l v a = v := if_pos h
theorem vr_up_ne {α : Type} {f : Nat → α} {l : List Nat} {v : α} {a : Nat} (h : a ∉ l) : vr_up f l v a = f a := if_neg h
theorem vr_rows {L l : List Nat} {f : Nat → va_E} {e : va_E} (h : ∀ a, a ∈ l → a ∉ L) : va_pl L f ++ l.map (fun a => (a, e)) = va_pl (L ++ l) (vr_up f l e) := by
  unfold va_pl
  rw [List.map_append]
  congr 1
  · apply List.map_congr_left
    intro a ha
    rw [vr_up_ne (fun q => h a q ha)]
  · apply List.map_congr_left
    intro a ha
    rw [vr_up_in ha]
theorem vr_lay {X rows : va_W} {x : Nat × va_E} {pl : va_W} {D : va_G} {cl : List vw_C} {H : Heap} (hP : va_P D cl (((X ++ pl) ++ [x]) ++ rows) H) : va_P D cl ((X ++ [x]) ++ (pl ++ rows)) H := by
  rw [List.append_assoc (X ++ pl)] at hP
  have h := va_P.swap hP
  rw [← List.append_assoc X] at h
  have h2 := va_P.swap h
  rw [List.append_assoc (X ++ [x])] at h2
  exact h2
theorem vr_layD {X rows : va_W} {x : Nat × va_E} {pl : va_W} {A : Nat → Prop} (hD : va_D A (((X ++ pl) ++ [x]) ++ rows)) : va_D A ((X ++ [x]) ++ (pl ++ rows)) := by
  rw [List.append_assoc (X ++ pl)] at hD
  have h := va_D.swap hD
  rw [← List.append_assoc X] at h
  have h2 := va_D.swap h
  rw [List.append_assoc (X ++ [x])] at h2
  exact h2
theorem vr_outer (c : ClassId) (N h0 : Nat) : ∀ i : Nat, Jvm.Free.Multi.outerC c N h0 i = arrV c N (fun j => va_rf (if j < i then some (h0 + 1 + j) else none))
  | 0 => by
    show ({ cls := c, slots := Array.replicate N .null, vm := .none } : Cell) = _
    rw [arrV_new]
    refine congrArg (arrV c N) (funext fun j => ?_)
    simp [va_rf]
  | i + 1 => by
    show (Jvm.Free.Multi.outerC c N h0 i).setSlot i (.ref (h0 + 1 + i)) = _
    rw [vr_outer c N h0 i, arrV_store]
    refine congrArg (arrV c N) (funext fun j => ?_)
    by_cases e : j = i
    · subst e
      simp [updV, va_rf]
    · by_cases h : j < i
      · simp [updV, e, h, Nat.lt_succ_of_lt h]
      · simp [updV, e, h, show ¬ j < i + 1 by omega]
section VGM
variable {p : Program} {l : Launch} {e : Env} {R : Room} {s : State} {m : MethodId} {args : Array Value} {below : List Frame} {meth : Method} {c : Code} {H : Heap} {locs : List Loc} {cells slots : Nat} {Q : State → Prop}
variable {cc : ByteArray} {pc : Nat} {ls : Array Slot} {rest : List Value} {D : va_G} {cl : List vw_C} {A : Nat → Prop} {a : Nat} {tys : List (ClassId × FieldType)} {ws : va_W} {H0 : Heap}
theorem va_mna {X : va_W} {L : List Nat} {f : Nat → va_E} {cc : ByteArray} (hexec : p.tables.exec = Jvm.exec) (hb : c.code = cc) {own : String} {index : Nat} {ty : FieldType} {cy : ClassId} (hown : s.vm.findClass own = some m.cls) (hclink : (Cond.classLink own index ("[" ++ (FieldType.array ty).toString)).before args s = true) (hover : va_AOA ty s) (harr : (Cond.arrayClass ty).before args s = true) (hcy : s.vm.findClass (FieldType.array ty).toString = some cy)
    (hK : va_K D cl tys s) (hP : va_P D cl (X ++ va_pl L f) H) (hD : va_D A (X ++ va_pl L f)) (hS : va_S A H0 H locs) (hA : ∀ q, H0.size ≤ q → A q) {n k : Int32} {N' K' : Nat} {z : vp_A} (hn : ¬ n < 0) (hk : ¬ k < 0) (hN : n.toNatClampNeg = N') (hM : k.toNatClampNeg = K')
    (hb1 : N' * 4 ≤ 536870912) (hb2 : K' * componentBytes ty ≤ 536870912) (hb3 : K' ≤ 536870912) (hdf : fits ty (defaultValue ty) = true) (hdd : (defaultValue ty).isDefault = true) (hcells : cells + (1 + N') ≤ R.cells) (hslots : slots + (N' + N' * K') ≤ R.slots) (hz : ∀ c : ClassId, Jvm.Free.Multi.innerC c K' (defaultValue ty) = vp_cell c z) (hdg : decode cc pc = .ok (.multianewarray index 2, 4))
    (kk : ∀ (q : Nat) (r : Nat → Nat) (cA : ClassId) (H1 : Heap), (∀ i j : Nat, i < N' → j < N' → r i = r j → i = j) → (∀ i : Nat, i < N' → r i ∉ L) → va_K D cl (tys ++ [(cA, .array ty)]) s →
      va_P D cl ((X ++ [(q, .inl (cA, N', .inr (.inr (.inr (.inr (fun i => if i < N' then some (r i) else none))))))]) ++ va_pl (L ++ (List.range N').map r) (vr_up f ((List.range N').map r) (.inl (cy, z)))) H1 → va_D A ((X ++ [(q, .inl (cA, N', .inr (.inr (.inr (.inr (fun i => if i < N' then some (r i) else none))))))]) ++ va_pl (L ++ (List.range N').map r) (vr_up f ((List.range N').map r) (.inl (cy, z)))) → va_S A H0 H1 locs →
      W p l e R s m args below meth c H1 locs (cells + 1 + N') (slots + N' + N' * K') Q (F0 m (pc + 4) ls (.ref q :: rest))) : W p l e R s m args below meth c H locs cells slots Q (F0 m pc ls (.int k :: .int n :: rest)) := by
  subst hN
  subst hM
  intro T hT Xs
  obtain ⟨vm₁, cA, comp, -, fA, fC, hO, -, X', step⟩ := Xs.multianewarray2F hexec hown hclink (va_AOA.use hover) harr (g := F0 m pc ls (.int k :: .int n :: rest)) rfl (by rw [hb]; exact hdg) rfl hn hk hb1 hb2 hb3 hdf hdd hcells hslots
  have ec : some cy = some comp := hcy.symm.trans fC
  cases ec
  generalize hF : Jvm.Free.Multi.fill (T.setVm vm₁) cA cy n.toNatClampNeg k.toNatClampNeg (defaultValue ty) n.toNatClampNeg = F at X' step
  have hTh : (T.setVm vm₁).heap = H := hT
  obtain ⟨f1, f2, -, -⟩ := Jvm.Free.Multi.fill_facts (T.setVm vm₁) cA cy n.toNatClampNeg k.toNatClampNeg (defaultValue ty) n.toNatClampNeg
  rw [hF, hTh] at f1 f2
  have hold : ∀ x : Nat, x < H.size → F.heap[x]? = H[x]? := fun x hx => by
    have := Jvm.Free.Multi.fill_old (T.setVm vm₁) cA cy n.toNatClampNeg k.toNatClampNeg (defaultValue ty) (a := x) (by rw [hTh]; exact hx) n.toNatClampNeg
    rw [hF, hTh] at this
    exact this
  have hrow : ∀ j : Nat, j < n.toNatClampNeg → F.heap[H.size + 1 + j]? = some (vp_cell cy z) := fun j hj => by
    have := Jvm.Free.Multi.fill_inner (T.setVm vm₁) cA cy n.toNatClampNeg k.toNatClampNeg (defaultValue ty) n.toNatClampNeg j hj
    rw [hF, hTh, hz] at this
    exact this
  have hout : Jvm.Free.Multi.outerC cA n.toNatClampNeg H.size n.toNatClampNeg = vp_cell cA (n.toNatClampNeg, .inr (.inr (.inr (.inr (fun i => if i < n.toNatClampNeg then some (H.size + 1 + i) else none))))) := by
    rw [vp_cell_q]
    exact vr_outer cA n.toNatClampNeg H.size n.toNatClampNeg
  rw [hout] at f2
  have hlt : ∀ a, a ∈ L → a < H.size := fun a ha => by
    obtain ⟨k9, hk9⟩ := va_pl_get (X := X) (f := f) ha
    exact (hP k9 _ hk9).lt
  have hnl : ∀ i : Nat, i < n.toNatClampNeg → H.size + 1 + i ∉ L := fun i _ h => by
    have := hlt _ h
    omega
  have hnm : ∀ a, a ∈ (List.range n.toNatClampNeg).map (fun i => H.size + 1 + i) → a ∉ L := fun a ha h => by
    obtain ⟨i, -, rfl⟩ := List.mem_map.mp ha
    have := hlt _ h
    omega
  have hP0 : va_P D cl (X ++ va_pl L f) F.heap := hP.kept (fun k9 x hx => hold x.1 ((hP k9 x hx).lt))
  have hP1 : va_P D cl ((X ++ va_pl L f) ++ [(H.size, .inl (cA, n.toNatClampNeg, .inr (.inr (.inr (.inr (fun i => if i < n.toNatClampNeg then some (H.size + 1 + i) else none))))))]) F.heap := hP0.app (fun k9 x hx => by
    have h0 : k9 < 1 := (List.getElem?_eq_some_iff.mp hx).1
    rw [show k9 = 0 by omega] at hx
    cases hx
    exact f2)
  have hP2 : va_P D cl (((X ++ va_pl L f) ++ [(H.size, .inl (cA, n.toNatClampNeg, .inr (.inr (.inr (.inr (fun i => if i < n.toNatClampNeg then some (H.size + 1 + i) else none))))))]) ++ ((List.range n.toNatClampNeg).map (fun i => H.size + 1 + i)).map (fun a => (a, .inl (cy, z)))) F.heap := hP1.app (fun k9 x hx => by
    obtain ⟨a, ha, rfl⟩ := List.mem_map.mp (List.mem_of_getElem? hx)
    obtain ⟨i, hi, rfl⟩ := List.mem_map.mp ha
    exact hrow i (List.mem_range.mp hi))
  have hD2 : va_D A (((X ++ va_pl L f) ++ [(H.size, .inl (cA, n.toNatClampNeg, .inr (.inr (.inr (.inr (fun i => if i < n.toNatClampNeg then some (H.size + 1 + i) else none))))))]) ++ ((List.range n.toNatClampNeg).map (fun i => H.size + 1 + i)).map (fun a => (a, .inl (cy, z)))) := by
    have hD1 := hD.push (e := .inl (cA, n.toNatClampNeg, .inr (.inr (.inr (.inr (fun i => if i < n.toNatClampNeg then some (H.size + 1 + i) else none)))))) hP rfl (hA _ hS.1)
    generalize hW1 : (X ++ va_pl L f) ++ [(H.size, .inl (cA, n.toNatClampNeg, .inr (.inr (.inr (.inr (fun i => if i < n.toNatClampNeg then some (H.size + 1 + i) else none))))))] = W1 at hD1 hP1 ⊢
    have hle : ∀ (k9 : Nat) (x : Nat × va_E), W1[k9]? = some x → x.1 ≤ H.size := fun k9 x hx => by
      rw [← hW1] at hx
      by_cases hl : k9 < (X ++ va_pl L f).length
      · rw [List.getElem?_append_left hl] at hx
        exact Nat.le_of_lt ((hP k9 x hx).lt)
      · rw [List.getElem?_append_right (by omega)] at hx
        have h0 : k9 - (X ++ va_pl L f).length < 1 := (List.getElem?_eq_some_iff.mp hx).1
        rw [show k9 - (X ++ va_pl L f).length = 0 by omega] at hx
        cases hx
        exact Nat.le_refl _
    have hr : ∀ (k9 : Nat) (x : Nat × va_E), (((List.range n.toNatClampNeg).map (fun i => H.size + 1 + i)).map (fun a => ((a, .inl (cy, z)) : Nat × va_E)))[k9]? = some x → x.1 = H.size + 1 + k9 := fun k9 x hx => by
      rw [List.getElem?_map, List.getElem?_map] at hx
      by_cases h9 : k9 < n.toNatClampNeg
      · rw [List.getElem?_range h9] at hx
        cases hx
        rfl
      · have hn0 : (List.range n.toNatClampNeg)[k9]? = none := List.getElem?_eq_none (by rw [List.length_range]; omega)
        rw [hn0] at hx
        cases hx
    refine ⟨fun i j x y hi hj hxy => ?_, fun k9 x hx => ?_⟩
    · by_cases h1 : i < W1.length <;> by_cases h2 : j < W1.length
      · rw [List.getElem?_append_left h1] at hi
        rw [List.getElem?_append_left h2] at hj
        exact hD1.1 i j x y hi hj hxy
      · rw [List.getElem?_append_left h1] at hi
        rw [List.getElem?_append_right (by omega)] at hj
        have := hle _ _ hi
        have := hr _ _ hj
        omega
      · rw [List.getElem?_append_right (by omega)] at hi
        rw [List.getElem?_append_left h2] at hj
        have := hle _ _ hj
        have := hr _ _ hi
        omega
      · rw [List.getElem?_append_right (by omega)] at hi hj
        have := hr _ _ hi
        have := hr _ _ hj
        omega
    · by_cases h1 : k9 < W1.length
      · rw [List.getElem?_append_left h1] at hx
        exact hD1.2 k9 x hx
      · rw [List.getElem?_append_right (by omega)] at hx
        have := hr _ _ hx
        exact hA _ (by have := hS.1; omega)
  have hAr : ArrOfT s cA (.array ty) := fun N9 z9 => by
    obtain ⟨-, k9, hk9, cm9, hkk9⟩ := (hO 0 0 0).1
    exact ⟨(fun q hq => by cases hq), k9, hk9, cm9, hkk9⟩
  have hK2 : va_K D cl (tys ++ [(cA, .array ty)]) s := ⟨hK.1, fun k9 x hx => by
    by_cases hl : k9 < tys.length
    · rw [List.getElem?_append_left hl] at hx
      exact hK.2 k9 x hx
    · rw [List.getElem?_append_right (by omega)] at hx
      have h0 : k9 - tys.length < 1 := (List.getElem?_eq_some_iff.mp hx).1
      rw [show k9 - tys.length = 0 by omega] at hx
      cases hx
      exact ⟨hAr, fA⟩⟩
  obtain ⟨t, a1, b1⟩ := kk H.size (fun i => H.size + 1 + i) cA F.heap (fun i j _ _ h => by have h9 : H.size + 1 + i = H.size + 1 + j := h; omega) hnl hK2 (by rw [← vr_rows hnm]; exact vr_lay hP2) (by rw [← vr_rows hnm]; exact vr_layD hD2) ⟨by rw [f1]; have := hS.1; omega, fun x h1 h2 => (hold x (Nat.lt_of_lt_of_le h1 hS.1)).trans (hS.2.1 x h1 h2), hS.2.2⟩ F rfl X'
  refine ⟨t, step t ?_, b1⟩
  have e : T.heap.size = H.size := by rw [hT]
  rw [e]
  exact a1
end VGM
/-! ===== END ===== -/

/-! ===== BEGIN printed: names, fields, word lists, decode rows ===== -/
def RX0 : String := "ScoreNumbers$Ear"
def TX0 : u_T := fun k => match k with
  | 0 => ("ScoreNumbers$Ear", "knowsHalf", "Z", false)
  | 1 => ("ScoreNumbers$Ear", "knowsLess", "Z", false)
  | 2 => ("ScoreNumbers$Ear", "knowsGreat", "Z", false)
  | 3 => ("ScoreNumbers$Ear", "state", "I", false)
  | 4 => ("ScoreNumbers$Ear", "isBehindGreat", "Z", false)
  | 5 => ("ScoreNumbers$Ear", "isHalved", "Z", false)
  | 6 => ("ScoreNumbers$Ear", "isLess", "Z", false)
  | 7 => ("ScoreNumbers$Ear", "count", "I", false)
  | 8 => ("ScoreNumbers$Ear", "great", "I", false)
  | 9 => ("ScoreNumbers$Ear", "base", "I", false)
  | _ => ("ScoreNumbers$Ear", "unit", "I", false)
def tyX0 : Nat → FieldType := fun k => match k with
  | 0 => .boolean
  | 1 => .boolean
  | 2 => .boolean
  | 3 => .int
  | 4 => .boolean
  | 5 => .boolean
  | 6 => .boolean
  | 7 => .int
  | 8 => .int
  | 9 => .int
  | _ => .int
abbrev wsX00 : List Cond := u_ws RX0 TX0 11
theorem nmX0 : ∀ a, a < 11 → ∀ b, b < 11 → a ≠ b → (TX0 a).2.1 ≠ (TX0 b).2.1 := by decide +kernel
theorem tyX0_ok : ∀ k, k < 11 → parseFieldDescriptor (TX0 k).2.2.1 = some (tyX0 k) := by decide +kernel
abbrev cX0_init : ByteArray := prog_2_method_1_code
def yX0_init : MethodName := ⟨RX0, "<init>", "()V"⟩
abbrev cX0_listen : ByteArray := prog_2_method_2_code
def yX0_listen : MethodName := ⟨RX0, "listen", "(ZZZ)V"⟩
abbrev cX0_hear : ByteArray := prog_2_method_3_code
def yX0_hear : MethodName := ⟨RX0, "hear", "(JI)I"⟩
abbrev cX0_take : ByteArray := prog_2_method_4_code
def yX0_take : MethodName := ⟨RX0, "take", "(I)Z"⟩
abbrev cX0_isComplete : ByteArray := prog_2_method_5_code
def yX0_isComplete : MethodName := ⟨RX0, "isComplete", "()Z"⟩
abbrev cX0_number : ByteArray := prog_2_method_6_code
def yX0_number : MethodName := ⟨RX0, "number", "()I"⟩
abbrev cX0_following : ByteArray := prog_2_method_7_code
def yX0_following : MethodName := ⟨RX0, "following", "(I)I"⟩
abbrev cX0_afterStart : ByteArray := prog_2_method_8_code
def yX0_afterStart : MethodName := ⟨RX0, "afterStart", "(I)I"⟩
abbrev cX0_afterCount : ByteArray := prog_2_method_9_code
def yX0_afterCount : MethodName := ⟨RX0, "afterCount", "(I)I"⟩
abbrev cX0_afterLess : ByteArray := prog_2_method_10_code
def yX0_afterLess : MethodName := ⟨RX0, "afterLess", "(I)I"⟩
abbrev cX0_isUnit : ByteArray := prog_2_method_11_code
def yX0_isUnit : MethodName := ⟨RX0, "isUnit", "(I)Z"⟩
abbrev cX0_isCountUnit : ByteArray := prog_2_method_12_code
def yX0_isCountUnit : MethodName := ⟨RX0, "isCountUnit", "(I)Z"⟩
abbrev cX0_keep : ByteArray := prog_2_method_13_code
def yX0_keep : MethodName := ⟨RX0, "keep", "(I)V"⟩
abbrev cX0_keepUnit : ByteArray := prog_2_method_14_code
def yX0_keepUnit : MethodName := ⟨RX0, "keepUnit", "(I)V"⟩
abbrev cX0_takeUnitAsCount : ByteArray := prog_2_method_15_code
def yX0_takeUnitAsCount : MethodName := ⟨RX0, "takeUnitAsCount", "()V"⟩
abbrev cX0_scores : ByteArray := prog_2_method_16_code
def yX0_scores : MethodName := ⟨RX0, "scores", "()I"⟩
def RX1 : String := "ScoreNumbers$History"
def TX1 : u_T := fun k => match k with
  | 0 => ("ScoreNumbers$History", "states", "[LScoreNumbers$State;", true)
  | 1 => ("ScoreNumbers$History", "free", "I", false)
  | _ => ("ScoreNumbers$History", "held", "I", false)
def tyX1 : Nat → FieldType := fun k => match k with
  | 0 => .array (.object "ScoreNumbers$State")
  | 1 => .int
  | _ => .int
abbrev wsX10 : List Cond := u_ws RX1 TX1 3
theorem nmX1 : ∀ a, a < 3 → ∀ b, b < 3 → a ≠ b → (TX1 a).2.1 ≠ (TX1 b).2.1 := by decide +kernel
theorem tyX1_ok : ∀ k, k < 3 → parseFieldDescriptor (TX1 k).2.2.1 = some (tyX1 k) := by decide +kernel
abbrev cX1_init : ByteArray := prog_3_method_1_code
def yX1_init : MethodName := ⟨RX1, "<init>", "()V"⟩
abbrev cX1_record : ByteArray := prog_3_method_2_code
def yX1_record : MethodName := ⟨RX1, "record", "(LScoreNumbers$State;)V"⟩
abbrev cX1_restore : ByteArray := prog_3_method_3_code
def yX1_restore : MethodName := ⟨RX1, "restore", "(LScoreNumbers$State;)I"⟩
def RX2 : String := "ScoreNumbers$Said"
def TX2 : u_T := fun k => match k with
  | _ => ("", "", "", false)
def tyX2 : Nat → FieldType := fun k => match k with
  | _ => .int
abbrev wsX20 : List Cond := u_ws RX2 TX2 0
theorem nmX2 : ∀ a, a < 0 → ∀ b, b < 0 → a ≠ b → (TX2 a).2.1 ≠ (TX2 b).2.1 := by decide +kernel
theorem tyX2_ok : ∀ k, k < 0 → parseFieldDescriptor (TX2 k).2.2.1 = some (tyX2 k) := by decide +kernel
abbrev cX2_then : ByteArray := prog_4_method_2_code
def yX2_then : MethodName := ⟨RX2, "then", "(JI)J"⟩
abbrev cX2_length : ByteArray := prog_4_method_3_code
def yX2_length : MethodName := ⟨RX2, "length", "(J)I"⟩
abbrev cX2_character : ByteArray := prog_4_method_4_code
def yX2_character : MethodName := ⟨RX2, "character", "(JI)I"⟩
abbrev cX2_has : ByteArray := prog_4_method_5_code
def yX2_has : MethodName := ⟨RX2, "has", "(JC)Z"⟩
def RX3 : String := "ScoreNumbers$State"
def TX3 : u_T := fun k => match k with
  | 0 => ("ScoreNumbers$State", "hearers", "[[I", true)
  | 1 => ("ScoreNumbers$State", "lines", "[[I", true)
  | 2 => ("ScoreNumbers$State", "newest", "I", false)
  | 3 => ("ScoreNumbers$State", "kept", "I", false)
  | _ => ("ScoreNumbers$State", "patience", "I", false)
def tyX3 : Nat → FieldType := fun k => match k with
  | 0 => .array (.array .int)
  | 1 => .array (.array .int)
  | 2 => .int
  | 3 => .int
  | _ => .int
abbrev wsX30 : List Cond := u_ws RX3 TX3 5
theorem nmX3 : ∀ a, a < 5 → ∀ b, b < 5 → a ≠ b → (TX3 a).2.1 ≠ (TX3 b).2.1 := by decide +kernel
theorem tyX3_ok : ∀ k, k < 5 → parseFieldDescriptor (TX3 k).2.2.1 = some (tyX3 k) := by decide +kernel
abbrev cX3_init : ByteArray := prog_5_method_1_code
def yX3_init : MethodName := ⟨RX3, "<init>", "()V"⟩
abbrev cX3_copyFrom : ByteArray := prog_5_method_2_code
def yX3_copyFrom : MethodName := ⟨RX3, "copyFrom", "(LScoreNumbers$State;)V"⟩
abbrev cX3_nextLine : ByteArray := prog_5_method_3_code
def yX3_nextLine : MethodName := ⟨RX3, "nextLine", "()[I"⟩
abbrev cX3_told : ByteArray := prog_5_method_4_code
def yX3_told : MethodName := ⟨RX3, "told", "(II)I"⟩
abbrev cX3_total : ByteArray := prog_5_method_5_code
def yX3_total : MethodName := ⟨RX3, "total", "(II)I"⟩
def RX4 : String := "ScoreNumbers$Ways"
def TX4 : u_T := fun k => match k with
  | 0 => ("ScoreNumbers$Ways", "said", "[J", true)
  | _ => ("ScoreNumbers$Ways", "many", "I", false)
def tyX4 : Nat → FieldType := fun k => match k with
  | 0 => .array .long
  | _ => .int
abbrev wsX40 : List Cond := u_ws RX4 TX4 2
theorem nmX4 : ∀ a, a < 2 → ∀ b, b < 2 → a ≠ b → (TX4 a).2.1 ≠ (TX4 b).2.1 := by decide +kernel
theorem tyX4_ok : ∀ k, k < 2 → parseFieldDescriptor (TX4 k).2.2.1 = some (tyX4 k) := by decide +kernel
abbrev cX4_init : ByteArray := prog_6_method_1_code
def yX4_init : MethodName := ⟨RX4, "<init>", "()V"⟩
abbrev cX4_find : ByteArray := prog_6_method_2_code
def yX4_find : MethodName := ⟨RX4, "find", "(I)V"⟩
abbrev cX4_at : ByteArray := prog_6_method_3_code
def yX4_at : MethodName := ⟨RX4, "at", "(I)J"⟩
abbrev cX4_placeOf : ByteArray := prog_6_method_4_code
def yX4_placeOf : MethodName := ⟨RX4, "placeOf", "(J)I"⟩
abbrev cX4_placeOfStyle : ByteArray := prog_6_method_5_code
def yX4_placeOfStyle : MethodName := ⟨RX4, "placeOfStyle", "(I)I"⟩
abbrev cX4_isOfStyle : ByteArray := prog_6_method_6_code
def yX4_isOfStyle : MethodName := ⟨RX4, "isOfStyle", "(JI)Z"⟩
abbrev cX4_addGreat : ByteArray := prog_6_method_7_code
def yX4_addGreat : MethodName := ⟨RX4, "addGreat", "(II)V"⟩
abbrev cX4_addSmalls : ByteArray := prog_6_method_8_code
def yX4_addSmalls : MethodName := ⟨RX4, "addSmalls", "(JI)V"⟩
abbrev cX4_addWithBase : ByteArray := prog_6_method_9_code
def yX4_addWithBase : MethodName := ⟨RX4, "addWithBase", "(JII)V"⟩
abbrev cX4_counted : ByteArray := prog_6_method_10_code
def yX4_counted : MethodName := ⟨RX4, "counted", "(JIC)J"⟩
abbrev cX4_unit : ByteArray := prog_6_method_11_code
def yX4_unit : MethodName := ⟨RX4, "unit", "(I)I"⟩
abbrev cX4_add : ByteArray := prog_6_method_12_code
def yX4_add : MethodName := ⟨RX4, "add", "(J)V"⟩
def RX5 : String := "ScoreNumbers"
def TX5 : u_T := fun k => match k with
  | 0 => ("ScoreNumbers", "now", "LScoreNumbers$State;", true)
  | 1 => ("ScoreNumbers", "history", "LScoreNumbers$History;", true)
  | 2 => ("ScoreNumbers", "text", "[C", true)
  | 3 => ("ScoreNumbers", "textLength", "I", false)
  | 4 => ("ScoreNumbers", "found", "LScoreNumbers$Ways;", true)
  | _ => ("ScoreNumbers", "ear", "LScoreNumbers$Ear;", true)
def tyX5 : Nat → FieldType := fun k => match k with
  | 0 => .object "ScoreNumbers$State"
  | 1 => .object "ScoreNumbers$History"
  | 2 => .array .char
  | 3 => .int
  | 4 => .object "ScoreNumbers$Ways"
  | _ => .object "ScoreNumbers$Ear"
abbrev wsX50 : List Cond := u_ws RX5 TX5 6
theorem nmX5 : ∀ a, a < 6 → ∀ b, b < 6 → a ≠ b → (TX5 a).2.1 ≠ (TX5 b).2.1 := by decide +kernel
theorem tyX5_ok : ∀ k, k < 6 → parseFieldDescriptor (TX5 k).2.2.1 = some (tyX5 k) := by decide +kernel
abbrev cX5_init : ByteArray := prog_1_method_1_code
def yX5_init : MethodName := ⟨RX5, "<init>", "()V"⟩
abbrev cX5_learn : ByteArray := prog_1_method_2_code
def yX5_learn : MethodName := ⟨RX5, "learn", "(II)I"⟩
abbrev cX5_unlearn : ByteArray := prog_1_method_3_code
def yX5_unlearn : MethodName := ⟨RX5, "unlearn", "(II)I"⟩
abbrev cX5_attend : ByteArray := prog_1_method_4_code
def yX5_attend : MethodName := ⟨RX5, "attend", "(II)I"⟩
abbrev cX5_set : ByteArray := prog_1_method_5_code
def yX5_set : MethodName := ⟨RX5, "set", "(I)I"⟩
abbrev cX5_tell : ByteArray := prog_1_method_6_code
def yX5_tell : MethodName := ⟨RX5, "tell", "(III)I"⟩
abbrev cX5_tellText : ByteArray := prog_1_method_7_code
def yX5_tellText : MethodName := ⟨RX5, "tellText", "(I)I"⟩
abbrev cX5_append : ByteArray := prog_1_method_8_code
def yX5_append : MethodName := ⟨RX5, "append", "(I)I"⟩
abbrev cX5_clearText : ByteArray := prog_1_method_9_code
def yX5_clearText : MethodName := ⟨RX5, "clearText", "()I"⟩
abbrev cX5_fault : ByteArray := prog_1_method_10_code
def yX5_fault : MethodName := ⟨RX5, "fault", "()I"⟩
abbrev cX5_meaning : ByteArray := prog_1_method_11_code
def yX5_meaning : MethodName := ⟨RX5, "meaning", "()I"⟩
abbrev cX5_undo : ByteArray := prog_1_method_12_code
def yX5_undo : MethodName := ⟨RX5, "undo", "()I"⟩
abbrev cX5_ways : ByteArray := prog_1_method_13_code
def yX5_ways : MethodName := ⟨RX5, "ways", "(I)I"⟩
abbrev cX5_wayLength : ByteArray := prog_1_method_14_code
def yX5_wayLength : MethodName := ⟨RX5, "wayLength", "(II)I"⟩
abbrev cX5_wayAt : ByteArray := prog_1_method_15_code
def yX5_wayAt : MethodName := ⟨RX5, "wayAt", "(III)I"⟩
abbrev cX5_styled : ByteArray := prog_1_method_16_code
def yX5_styled : MethodName := ⟨RX5, "styled", "(II)I"⟩
abbrev cX5_placeOfText : ByteArray := prog_1_method_17_code
def yX5_placeOfText : MethodName := ⟨RX5, "placeOfText", "()I"⟩
abbrev cX5_hearer : ByteArray := prog_1_method_18_code
def yX5_hearer : MethodName := ⟨RX5, "hearer", "(II)I"⟩
abbrev cX5_understood : ByteArray := prog_1_method_19_code
def yX5_understood : MethodName := ⟨RX5, "understood", "(III)I"⟩
abbrev cX5_understoodText : ByteArray := prog_1_method_20_code
def yX5_understoodText : MethodName := ⟨RX5, "understoodText", "(I)I"⟩
abbrev cX5_bestWay : ByteArray := prog_1_method_21_code
def yX5_bestWay : MethodName := ⟨RX5, "bestWay", "(II)I"⟩
abbrev cX5_commonWay : ByteArray := prog_1_method_22_code
def yX5_commonWay : MethodName := ⟨RX5, "commonWay", "(I)I"⟩
abbrev cX5_reach : ByteArray := prog_1_method_23_code
def yX5_reach : MethodName := ⟨RX5, "reach", "(II)I"⟩
abbrev cX5_untellable : ByteArray := prog_1_method_24_code
def yX5_untellable : MethodName := ⟨RX5, "untellable", "(III)I"⟩
abbrev cX5_log : ByteArray := prog_1_method_25_code
def yX5_log : MethodName := ⟨RX5, "log", "(II)I"⟩
abbrev cX5_sum : ByteArray := prog_1_method_26_code
def yX5_sum : MethodName := ⟨RX5, "sum", "(I)I"⟩
abbrev cX5_patience : ByteArray := prog_1_method_27_code
def yX5_patience : MethodName := ⟨RX5, "patience", "()I"⟩
abbrev cX5_share : ByteArray := prog_1_method_28_code
def yX5_share : MethodName := ⟨RX5, "share", "()F"⟩
abbrev cX5_isHearer : ByteArray := prog_1_method_29_code
def yX5_isHearer : MethodName := ⟨RX5, "isHearer", "(I)Z"⟩
abbrev cX5_isWord : ByteArray := prog_1_method_30_code
def yX5_isWord : MethodName := ⟨RX5, "isWord", "(I)Z"⟩
abbrev cX5_isStyle : ByteArray := prog_1_method_31_code
def yX5_isStyle : MethodName := ⟨RX5, "isStyle", "(I)Z"⟩
abbrev cX5_isNumber : ByteArray := prog_1_method_32_code
def yX5_isNumber : MethodName := ⟨RX5, "isNumber", "(I)Z"⟩
abbrev cX5_orNone : ByteArray := prog_1_method_33_code
def yX5_orNone : MethodName := ⟨RX5, "orNone", "(I)I"⟩
abbrev cX5_putWord : ByteArray := prog_1_method_34_code
def yX5_putWord : MethodName := ⟨RX5, "putWord", "(III)I"⟩
abbrev cX5_packedText : ByteArray := prog_1_method_35_code
def yX5_packedText : MethodName := ⟨RX5, "packedText", "()J"⟩
abbrev cX5_meant : ByteArray := prog_1_method_36_code
def yX5_meant : MethodName := ⟨RX5, "meant", "(J)I"⟩
abbrev cX5_heard : ByteArray := prog_1_method_37_code
def yX5_heard : MethodName := ⟨RX5, "heard", "(IJ)I"⟩
abbrev cX5_reached : ByteArray := prog_1_method_38_code
def yX5_reached : MethodName := ⟨RX5, "reached", "(IJ)I"⟩
abbrev cX5_firstUnderstood : ByteArray := prog_1_method_39_code
def yX5_firstUnderstood : MethodName := ⟨RX5, "firstUnderstood", "(II)I"⟩
abbrev cX5_say : ByteArray := prog_1_method_40_code
def yX5_say : MethodName := ⟨RX5, "say", "(IIJ)I"⟩
abbrev cX5_doubtWords : ByteArray := prog_1_method_41_code
def yX5_doubtWords : MethodName := ⟨RX5, "doubtWords", "([IJ)Z"⟩
abbrev cX5_wordCharacter : ByteArray := prog_1_method_42_code
def yX5_wordCharacter : MethodName := ⟨RX5, "wordCharacter", "(I)C"⟩
def RX6 : String := "ScoreNumbersModel"
def TX6 : u_T := fun k => match k with
  | 0 => ("ScoreNumbersModel", "s", "[I", true)
  | 1 => ("ScoreNumbersModel", "before", "[I", true)
  | 2 => ("ScoreNumbersModel", "say", "[C", true)
  | 3 => ("ScoreNumbersModel", "text", "[C", true)
  | 4 => ("ScoreNumbersModel", "ways", "[C", true)
  | 5 => ("ScoreNumbersModel", "lengths", "[I", true)
  | 6 => ("ScoreNumbersModel", "order", "[I", true)
  | 7 => ("ScoreNumbersModel", "many", "I", false)
  | 8 => ("ScoreNumbersModel", "size", "I", false)
  | 9 => ("ScoreNumbersModel", "at", "I", false)
  | 10 => ("ScoreNumbersModel", "greatUnit", "I", false)
  | 11 => ("ScoreNumbersModel", "baseUnit", "I", false)
  | 12 => ("ScoreNumbersModel", "unit", "I", false)
  | 13 => ("ScoreNumbersModel", "isGreatHalf", "Z", false)
  | 14 => ("ScoreNumbersModel", "isBaseHalf", "Z", false)
  | 15 => ("ScoreNumbersModel", "isLess", "Z", false)
  | 16 => ("ScoreNumbersModel", "length", "I", false)
  | _ => ("ScoreNumbersModel", "states", "I", false)
def tyX6 : Nat → FieldType := fun k => match k with
  | 0 => .array .int
  | 1 => .array .int
  | 2 => .array .char
  | 3 => .array .char
  | 4 => .array .char
  | 5 => .array .int
  | 6 => .array .int
  | 7 => .int
  | 8 => .int
  | 9 => .int
  | 10 => .int
  | 11 => .int
  | 12 => .int
  | 13 => .boolean
  | 14 => .boolean
  | 15 => .boolean
  | 16 => .int
  | _ => .int
abbrev wsX60 : List Cond := u_ws RX6 TX6 18
theorem nmX6 : ∀ a, a < 18 → ∀ b, b < 18 → a ≠ b → (TX6 a).2.1 ≠ (TX6 b).2.1 := by decide +kernel
theorem tyX6_ok : ∀ k, k < 18 → parseFieldDescriptor (TX6 k).2.2.1 = some (tyX6 k) := by decide +kernel
abbrev cX6_init : ByteArray := prog_8_method_1_code
def yX6_init : MethodName := ⟨RX6, "<init>", "()V"⟩
abbrev cX6_in : ByteArray := prog_8_method_2_code
def yX6_in : MethodName := ⟨RX6, "in", "(III)Z"⟩
abbrev cX6_isHearer : ByteArray := prog_8_method_3_code
def yX6_isHearer : MethodName := ⟨RX6, "isHearer", "(I)Z"⟩
abbrev cX6_isNumber : ByteArray := prog_8_method_4_code
def yX6_isNumber : MethodName := ⟨RX6, "isNumber", "(I)Z"⟩
abbrev cX6_record : ByteArray := prog_8_method_5_code
def yX6_record : MethodName := ⟨RX6, "record", "()V"⟩
abbrev cX6_isSign : ByteArray := prog_8_method_6_code
def yX6_isSign : MethodName := ⟨RX6, "isSign", "(C)Z"⟩
abbrev cX6_accepts : ByteArray := prog_8_method_7_code
def yX6_accepts : MethodName := ⟨RX6, "accepts", "(C)Z"⟩
abbrev cX6_unitFrom : ByteArray := prog_8_method_8_code
def yX6_unitFrom : MethodName := ⟨RX6, "unitFrom", "(C)I"⟩
abbrev cX6_base : ByteArray := prog_8_method_9_code
def yX6_base : MethodName := ⟨RX6, "base", "()Z"⟩
abbrev cX6_plus : ByteArray := prog_8_method_10_code
def yX6_plus : MethodName := ⟨RX6, "plus", "()Z"⟩
abbrev cX6_smallFrom : ByteArray := prog_8_method_11_code
def yX6_smallFrom : MethodName := ⟨RX6, "smallFrom", "(I)Z"⟩
abbrev cX6_small : ByteArray := prog_8_method_12_code
def yX6_small : MethodName := ⟨RX6, "small", "()Z"⟩
abbrev cX6_and : ByteArray := prog_8_method_13_code
def yX6_and : MethodName := ⟨RX6, "and", "()Z"⟩
abbrev cX6_half : ByteArray := prog_8_method_14_code
def yX6_half : MethodName := ⟨RX6, "half", "()Z"⟩
abbrev cX6_number : ByteArray := prog_8_method_15_code
def yX6_number : MethodName := ⟨RX6, "number", "()Z"⟩
abbrev cX6_faultOf : ByteArray := prog_8_method_16_code
def yX6_faultOf : MethodName := ⟨RX6, "faultOf", "(I)I"⟩
abbrev cX6_meaningBy : ByteArray := prog_8_method_17_code
def yX6_meaningBy : MethodName := ⟨RX6, "meaningBy", "(ZZZ)I"⟩
abbrev cX6_understands : ByteArray := prog_8_method_18_code
def yX6_understands : MethodName := ⟨RX6, "understands", "(II)I"⟩
abbrev cX6_put : ByteArray := prog_8_method_19_code
def yX6_put : MethodName := ⟨RX6, "put", "(C)V"⟩
abbrev cX6_putCount : ByteArray := prog_8_method_20_code
def yX6_putCount : MethodName := ⟨RX6, "putCount", "(IZC)V"⟩
abbrev cX6_begins : ByteArray := prog_8_method_21_code
def yX6_begins : MethodName := ⟨RX6, "begins", "(IZ)V"⟩
abbrev cX6_isBase : ByteArray := prog_8_method_22_code
def yX6_isBase : MethodName := ⟨RX6, "isBase", "(I)Z"⟩
abbrev cX6_putBase : ByteArray := prog_8_method_23_code
def yX6_putBase : MethodName := ⟨RX6, "putBase", "(I)V"⟩
abbrev cX6_smalls : ByteArray := prog_8_method_24_code
def yX6_smalls : MethodName := ⟨RX6, "smalls", "(II)V"⟩
abbrev cX6_isAhead : ByteArray := prog_8_method_25_code
def yX6_isAhead : MethodName := ⟨RX6, "isAhead", "(II)Z"⟩
abbrev cX6_makes : ByteArray := prog_8_method_26_code
def yX6_makes : MethodName := ⟨RX6, "makes", "(I)V"⟩
abbrev cX6_says : ByteArray := prog_8_method_27_code
def yX6_says : MethodName := ⟨RX6, "says", "(I)I"⟩
abbrev cX6_has : ByteArray := prog_8_method_28_code
def yX6_has : MethodName := ⟨RX6, "has", "(IC)Z"⟩
abbrev cX6_placeOf : ByteArray := prog_8_method_29_code
def yX6_placeOf : MethodName := ⟨RX6, "placeOf", "(I)I"⟩
abbrev cX6_known : ByteArray := prog_8_method_30_code
def yX6_known : MethodName := ⟨RX6, "known", "(I)I"⟩
abbrev cX6_makesKnown : ByteArray := prog_8_method_31_code
def yX6_makesKnown : MethodName := ⟨RX6, "makesKnown", "(III)I"⟩
abbrev cX6_learn : ByteArray := prog_8_method_32_code
def yX6_learn : MethodName := ⟨RX6, "learn", "(II)I"⟩
abbrev cX6_unlearn : ByteArray := prog_8_method_33_code
def yX6_unlearn : MethodName := ⟨RX6, "unlearn", "(II)I"⟩
abbrev cX6_attend : ByteArray := prog_8_method_34_code
def yX6_attend : MethodName := ⟨RX6, "attend", "(II)I"⟩
abbrev cX6_set : ByteArray := prog_8_method_35_code
def yX6_set : MethodName := ⟨RX6, "set", "(I)I"⟩
abbrev cX6_saysWord : ByteArray := prog_8_method_36_code
def yX6_saysWord : MethodName := ⟨RX6, "saysWord", "(CI)Z"⟩
abbrev cX6_doubts : ByteArray := prog_8_method_37_code
def yX6_doubts : MethodName := ⟨RX6, "doubts", "(II)I"⟩
abbrev cX6_logs : ByteArray := prog_8_method_38_code
def yX6_logs : MethodName := ⟨RX6, "logs", "(IIIII)V"⟩
abbrev cX6_tells : ByteArray := prog_8_method_39_code
def yX6_tells : MethodName := ⟨RX6, "tells", "(III)I"⟩
abbrev cX6_tell : ByteArray := prog_8_method_40_code
def yX6_tell : MethodName := ⟨RX6, "tell", "(III)I"⟩
abbrev cX6_textFault : ByteArray := prog_8_method_41_code
def yX6_textFault : MethodName := ⟨RX6, "textFault", "()I"⟩
abbrev cX6_tellText : ByteArray := prog_8_method_42_code
def yX6_tellText : MethodName := ⟨RX6, "tellText", "(I)I"⟩
abbrev cX6_append : ByteArray := prog_8_method_43_code
def yX6_append : MethodName := ⟨RX6, "append", "(I)I"⟩
abbrev cX6_clearText : ByteArray := prog_8_method_44_code
def yX6_clearText : MethodName := ⟨RX6, "clearText", "()I"⟩
abbrev cX6_fault : ByteArray := prog_8_method_45_code
def yX6_fault : MethodName := ⟨RX6, "fault", "()I"⟩
abbrev cX6_meaning : ByteArray := prog_8_method_46_code
def yX6_meaning : MethodName := ⟨RX6, "meaning", "()I"⟩
abbrev cX6_undo : ByteArray := prog_8_method_47_code
def yX6_undo : MethodName := ⟨RX6, "undo", "()I"⟩
abbrev cX6_ways : ByteArray := prog_8_method_48_code
def yX6_ways : MethodName := ⟨RX6, "ways", "(I)I"⟩
abbrev cX6_wayLength : ByteArray := prog_8_method_49_code
def yX6_wayLength : MethodName := ⟨RX6, "wayLength", "(II)I"⟩
abbrev cX6_wayAt : ByteArray := prog_8_method_50_code
def yX6_wayAt : MethodName := ⟨RX6, "wayAt", "(III)I"⟩
abbrev cX6_styled : ByteArray := prog_8_method_51_code
def yX6_styled : MethodName := ⟨RX6, "styled", "(II)I"⟩
abbrev cX6_isText : ByteArray := prog_8_method_52_code
def yX6_isText : MethodName := ⟨RX6, "isText", "(I)Z"⟩
abbrev cX6_placeOfText : ByteArray := prog_8_method_53_code
def yX6_placeOfText : MethodName := ⟨RX6, "placeOfText", "()I"⟩
abbrev cX6_hearer : ByteArray := prog_8_method_54_code
def yX6_hearer : MethodName := ⟨RX6, "hearer", "(II)I"⟩
abbrev cX6_understood : ByteArray := prog_8_method_55_code
def yX6_understood : MethodName := ⟨RX6, "understood", "(III)I"⟩
abbrev cX6_understoodText : ByteArray := prog_8_method_56_code
def yX6_understoodText : MethodName := ⟨RX6, "understoodText", "(I)I"⟩
abbrev cX6_best : ByteArray := prog_8_method_57_code
def yX6_best : MethodName := ⟨RX6, "best", "(II)I"⟩
abbrev cX6_bestWay : ByteArray := prog_8_method_58_code
def yX6_bestWay : MethodName := ⟨RX6, "bestWay", "(II)I"⟩
abbrev cX6_reached : ByteArray := prog_8_method_59_code
def yX6_reached : MethodName := ⟨RX6, "reached", "(II)I"⟩
abbrev cX6_commonWay : ByteArray := prog_8_method_60_code
def yX6_commonWay : MethodName := ⟨RX6, "commonWay", "(I)I"⟩
abbrev cX6_reach : ByteArray := prog_8_method_61_code
def yX6_reach : MethodName := ⟨RX6, "reach", "(II)I"⟩
abbrev cX6_untellable : ByteArray := prog_8_method_62_code
def yX6_untellable : MethodName := ⟨RX6, "untellable", "(III)I"⟩
abbrev cX6_log : ByteArray := prog_8_method_63_code
def yX6_log : MethodName := ⟨RX6, "log", "(II)I"⟩
abbrev cX6_sumOf : ByteArray := prog_8_method_64_code
def yX6_sumOf : MethodName := ⟨RX6, "sumOf", "(I)I"⟩
abbrev cX6_sum : ByteArray := prog_8_method_65_code
def yX6_sum : MethodName := ⟨RX6, "sum", "(I)I"⟩
abbrev cX6_patience : ByteArray := prog_8_method_66_code
def yX6_patience : MethodName := ⟨RX6, "patience", "()I"⟩
abbrev cX6_share : ByteArray := prog_8_method_67_code
def yX6_share : MethodName := ⟨RX6, "share", "()F"⟩
def RJ9 : String := "java/lang/Math"
def TJ9 : u_T := fun k => match k with
  | _ => ("", "", "", false)
def tyJ9 : Nat → FieldType := fun k => match k with
  | _ => .int
abbrev wsJ90 : List Cond := u_ws RJ9 TJ9 0
theorem nmJ9 : ∀ a, a < 0 → ∀ b, b < 0 → a ≠ b → (TJ9 a).2.1 ≠ (TJ9 b).2.1 := by decide +kernel
theorem tyJ9_ok : ∀ k, k < 0 → parseFieldDescriptor (TJ9 k).2.2.1 = some (tyJ9 k) := by decide +kernel
abbrev cJ9_max_7cf53 : ByteArray := prog_9_method_65_code
def yJ9_max_7cf53 : MethodName := ⟨RJ9, "max", "(II)I"⟩
abbrev cJ9_min_7cf53 : ByteArray := prog_9_method_69_code
def yJ9_min_7cf53 : MethodName := ⟨RJ9, "min", "(II)I"⟩
def RJ10 : String := "java/lang/System"
def TJ10 : u_T := fun k => match k with
  | _ => ("", "", "", false)
def tyJ10 : Nat → FieldType := fun k => match k with
  | _ => .int
abbrev wsJ100 : List Cond := u_ws RJ10 TJ10 0
theorem nmJ10 : ∀ a, a < 0 → ∀ b, b < 0 → a ≠ b → (TJ10 a).2.1 ≠ (TJ10 b).2.1 := by decide +kernel
theorem tyJ10_ok : ∀ k, k < 0 → parseFieldDescriptor (TJ10 k).2.2.1 = some (tyJ10 k) := by decide +kernel
def RL : String := "ScoreNumbersLaw"
abbrev cL_law : ByteArray := code
def yL_law : MethodName := ⟨RL, "law", "([I)Z"⟩
def wsX0_init : List Cond := .code yX0_init cX0_init 1 none :: ([.methodLink RX0 1 objectInit, .instanceMethod objectInit, .code objectInit ⟨#[0xb1]⟩ 1 none])
def wsX0_listen : List Cond := .code yX0_listen cX0_listen 4 none :: ([.fieldLink RX0 7 "ScoreNumbers$Ear" "knowsHalf" "Z", .fieldLink RX0 13 "ScoreNumbers$Ear" "knowsLess" "Z", .fieldLink RX0 16 "ScoreNumbers$Ear" "knowsGreat" "Z", .fieldLink RX0 19 "ScoreNumbers$Ear" "state" "I", .fieldLink RX0 23 "ScoreNumbers$Ear" "isBehindGreat" "Z", .fieldLink RX0 26 "ScoreNumbers$Ear" "isHalved" "Z", .fieldLink RX0 29 "ScoreNumbers$Ear" "isLess" "Z", .fieldLink RX0 32 "ScoreNumbers$Ear" "count" "I", .fieldLink RX0 35 "ScoreNumbers$Ear" "great" "I", .fieldLink RX0 38 "ScoreNumbers$Ear" "base" "I", .fieldLink RX0 41 "ScoreNumbers$Ear" "unit" "I"] ++ wsX00)
def wsX2_length : List Cond := .code yX2_length cX2_length 3 (some .int) :: ([])
def wsX2_character : List Cond := .code yX2_character cX2_character 3 (some .int) :: ([])
def wsX0_afterStart : List Cond := .code yX0_afterStart cX0_afterStart 2 (some .int) :: ([.fieldLink RX0 23 "ScoreNumbers$Ear" "isBehindGreat" "Z"] ++ wsX00)
def wsX0_isCountUnit : List Cond := .code yX0_isCountUnit cX0_isCountUnit 1 (some .boolean) :: ([])
def wsX0_afterCount : List Cond := .code yX0_afterCount cX0_afterCount 2 (some .int) :: ([.fieldLink RX0 23 "ScoreNumbers$Ear" "isBehindGreat" "Z"] ++ wsX00)
def wsX0_isUnit : List Cond := .code yX0_isUnit cX0_isUnit 1 (some .boolean) :: ([])
def wsX0_afterLess : List Cond := .code yX0_afterLess cX0_afterLess 2 (some .int) :: ([])
def wsX0_following : List Cond := .code yX0_following cX0_following 2 (some .int) :: ([.fieldLink RX0 19 "ScoreNumbers$Ear" "state" "I", .methodLink RX0 74 yX0_afterStart, .instanceMethod yX0_afterStart, .selects RX0 yX0_afterStart yX0_afterStart, .initialized RX0, .code yX0_afterStart cX0_afterStart 2 (some .int), .fieldLink RX0 23 "ScoreNumbers$Ear" "isBehindGreat" "Z", .methodLink RX0 77 yX0_isCountUnit, .static yX0_isCountUnit, .code yX0_isCountUnit cX0_isCountUnit 1 (some .boolean), .methodLink RX0 80 yX0_afterCount, .instanceMethod yX0_afterCount, .selects RX0 yX0_afterCount yX0_afterCount, .code yX0_afterCount cX0_afterCount 2 (some .int), .methodLink RX0 83 yX0_isUnit, .static yX0_isUnit, .code yX0_isUnit cX0_isUnit 1 (some .boolean), .methodLink RX0 86 yX0_afterLess, .instanceMethod yX0_afterLess, .selects RX0 yX0_afterLess yX0_afterLess, .code yX0_afterLess cX0_afterLess 2 (some .int)] ++ wsX00)
def wsX0_takeUnitAsCount : List Cond := .code yX0_takeUnitAsCount cX0_takeUnitAsCount 1 none :: ([.fieldLink RX0 19 "ScoreNumbers$Ear" "state" "I", .fieldLink RX0 41 "ScoreNumbers$Ear" "unit" "I", .fieldLink RX0 32 "ScoreNumbers$Ear" "count" "I"] ++ wsX00)
def wsX0_scores : List Cond := .code yX0_scores cX0_scores 1 (some .int) :: ([.fieldLink RX0 32 "ScoreNumbers$Ear" "count" "I", .fieldLink RX0 26 "ScoreNumbers$Ear" "isHalved" "Z", .fieldLink RX0 7 "ScoreNumbers$Ear" "knowsHalf" "Z"] ++ wsX00)
def wsX0_keepUnit : List Cond := .code yX0_keepUnit cX0_keepUnit 2 none :: ([.fieldLink RX0 19 "ScoreNumbers$Ear" "state" "I", .fieldLink RX0 41 "ScoreNumbers$Ear" "unit" "I", .fieldLink RX0 32 "ScoreNumbers$Ear" "count" "I"] ++ wsX00)
def wsX0_keep : List Cond := .code yX0_keep cX0_keep 2 none :: ([.fieldLink RX0 26 "ScoreNumbers$Ear" "isHalved" "Z", .fieldLink RX0 29 "ScoreNumbers$Ear" "isLess" "Z", .fieldLink RX0 23 "ScoreNumbers$Ear" "isBehindGreat" "Z", .fieldLink RX0 32 "ScoreNumbers$Ear" "count" "I", .fieldLink RX0 38 "ScoreNumbers$Ear" "base" "I", .fieldLink RX0 16 "ScoreNumbers$Ear" "knowsGreat" "Z", .fieldLink RX0 35 "ScoreNumbers$Ear" "great" "I", .methodLink RX0 89 yX0_takeUnitAsCount, .instanceMethod yX0_takeUnitAsCount, .selects RX0 yX0_takeUnitAsCount yX0_takeUnitAsCount, .initialized RX0, .code yX0_takeUnitAsCount cX0_takeUnitAsCount 1 none, .fieldLink RX0 19 "ScoreNumbers$Ear" "state" "I", .fieldLink RX0 41 "ScoreNumbers$Ear" "unit" "I", .methodLink RX0 92 yX0_scores, .instanceMethod yX0_scores, .selects RX0 yX0_scores yX0_scores, .code yX0_scores cX0_scores 1 (some .int), .fieldLink RX0 7 "ScoreNumbers$Ear" "knowsHalf" "Z", .methodLink RX0 95 yX0_keepUnit, .instanceMethod yX0_keepUnit, .selects RX0 yX0_keepUnit yX0_keepUnit, .code yX0_keepUnit cX0_keepUnit 2 none] ++ wsX00)
def wsX0_take_r1 : List Cond := [Cond.fieldLink RX0 19 "ScoreNumbers$Ear" "state" "I", Cond.methodLink RX0 66 yX0_following, Cond.instanceMethod yX0_following, Cond.selects RX0 yX0_following yX0_following, Cond.initialized RX0, Cond.code yX0_following cX0_following 2 (some .int), Cond.methodLink RX0 74 yX0_afterStart, Cond.instanceMethod yX0_afterStart, Cond.selects RX0 yX0_afterStart yX0_afterStart, Cond.code yX0_afterStart cX0_afterStart 2 (some .int), Cond.fieldLink RX0 23 "ScoreNumbers$Ear" "isBehindGreat" "Z", Cond.methodLink RX0 77 yX0_isCountUnit, Cond.static yX0_isCountUnit, Cond.code yX0_isCountUnit cX0_isCountUnit 1 (some .boolean), Cond.methodLink RX0 80 yX0_afterCount, Cond.instanceMethod yX0_afterCount, Cond.selects RX0 yX0_afterCount yX0_afterCount, Cond.code yX0_afterCount cX0_afterCount 2 (some .int), Cond.methodLink RX0 83 yX0_isUnit, Cond.static yX0_isUnit, Cond.code yX0_isUnit cX0_isUnit 1 (some .boolean), Cond.methodLink RX0 86 yX0_afterLess, Cond.instanceMethod yX0_afterLess, Cond.selects RX0 yX0_afterLess yX0_afterLess]
def wsX0_take_r2 : List Cond := [Cond.code yX0_afterLess cX0_afterLess 2 (some .int), Cond.methodLink RX0 70 yX0_keep, Cond.instanceMethod yX0_keep, Cond.selects RX0 yX0_keep yX0_keep, Cond.code yX0_keep cX0_keep 2 none, Cond.fieldLink RX0 26 "ScoreNumbers$Ear" "isHalved" "Z", Cond.fieldLink RX0 29 "ScoreNumbers$Ear" "isLess" "Z", Cond.fieldLink RX0 32 "ScoreNumbers$Ear" "count" "I", Cond.fieldLink RX0 38 "ScoreNumbers$Ear" "base" "I", Cond.fieldLink RX0 16 "ScoreNumbers$Ear" "knowsGreat" "Z", Cond.fieldLink RX0 35 "ScoreNumbers$Ear" "great" "I", Cond.methodLink RX0 89 yX0_takeUnitAsCount, Cond.instanceMethod yX0_takeUnitAsCount, Cond.selects RX0 yX0_takeUnitAsCount yX0_takeUnitAsCount, Cond.code yX0_takeUnitAsCount cX0_takeUnitAsCount 1 none, Cond.fieldLink RX0 41 "ScoreNumbers$Ear" "unit" "I", Cond.methodLink RX0 92 yX0_scores, Cond.instanceMethod yX0_scores, Cond.selects RX0 yX0_scores yX0_scores, Cond.code yX0_scores cX0_scores 1 (some .int), Cond.fieldLink RX0 7 "ScoreNumbers$Ear" "knowsHalf" "Z", Cond.methodLink RX0 95 yX0_keepUnit, Cond.instanceMethod yX0_keepUnit, Cond.selects RX0 yX0_keepUnit yX0_keepUnit]
def wsX0_take_r3 : List Cond := [Cond.code yX0_keepUnit cX0_keepUnit 2 none]
def wsX0_take : List Cond := .code yX0_take cX0_take 3 (some .boolean) :: ((wsX0_take_r1 ++ (wsX0_take_r2 ++ wsX0_take_r3)) ++ wsX00)
def wsX0_isComplete : List Cond := .code yX0_isComplete cX0_isComplete 1 (some .boolean) :: ([.fieldLink RX0 19 "ScoreNumbers$Ear" "state" "I"] ++ wsX00)
def wsX0_number : List Cond := .code yX0_number cX0_number 1 (some .int) :: ([.fieldLink RX0 35 "ScoreNumbers$Ear" "great" "I", .fieldLink RX0 38 "ScoreNumbers$Ear" "base" "I", .fieldLink RX0 29 "ScoreNumbers$Ear" "isLess" "Z", .fieldLink RX0 13 "ScoreNumbers$Ear" "knowsLess" "Z", .fieldLink RX0 41 "ScoreNumbers$Ear" "unit" "I"] ++ wsX00)
def wsX0_hear_r1 : List Cond := [Cond.methodLink RX0 44 yX2_length, Cond.static yX2_length, Cond.initialized RX2, Cond.code yX2_length cX2_length 3 (some .int), Cond.methodLink RX0 50 yX2_character, Cond.static yX2_character, Cond.code yX2_character cX2_character 3 (some .int), Cond.methodLink RX0 54 yX0_take, Cond.instanceMethod yX0_take, Cond.selects RX0 yX0_take yX0_take, Cond.initialized RX0, Cond.code yX0_take cX0_take 3 (some .boolean), Cond.fieldLink RX0 19 "ScoreNumbers$Ear" "state" "I", Cond.methodLink RX0 66 yX0_following, Cond.instanceMethod yX0_following, Cond.selects RX0 yX0_following yX0_following, Cond.code yX0_following cX0_following 2 (some .int), Cond.methodLink RX0 74 yX0_afterStart, Cond.instanceMethod yX0_afterStart, Cond.selects RX0 yX0_afterStart yX0_afterStart, Cond.code yX0_afterStart cX0_afterStart 2 (some .int), Cond.fieldLink RX0 23 "ScoreNumbers$Ear" "isBehindGreat" "Z", Cond.methodLink RX0 77 yX0_isCountUnit, Cond.static yX0_isCountUnit]
def wsX0_hear_r2 : List Cond := [Cond.code yX0_isCountUnit cX0_isCountUnit 1 (some .boolean), Cond.methodLink RX0 80 yX0_afterCount, Cond.instanceMethod yX0_afterCount, Cond.selects RX0 yX0_afterCount yX0_afterCount, Cond.code yX0_afterCount cX0_afterCount 2 (some .int), Cond.methodLink RX0 83 yX0_isUnit, Cond.static yX0_isUnit, Cond.code yX0_isUnit cX0_isUnit 1 (some .boolean), Cond.methodLink RX0 86 yX0_afterLess, Cond.instanceMethod yX0_afterLess, Cond.selects RX0 yX0_afterLess yX0_afterLess, Cond.code yX0_afterLess cX0_afterLess 2 (some .int), Cond.methodLink RX0 70 yX0_keep, Cond.instanceMethod yX0_keep, Cond.selects RX0 yX0_keep yX0_keep, Cond.code yX0_keep cX0_keep 2 none, Cond.fieldLink RX0 26 "ScoreNumbers$Ear" "isHalved" "Z", Cond.fieldLink RX0 29 "ScoreNumbers$Ear" "isLess" "Z", Cond.fieldLink RX0 32 "ScoreNumbers$Ear" "count" "I", Cond.fieldLink RX0 38 "ScoreNumbers$Ear" "base" "I", Cond.fieldLink RX0 16 "ScoreNumbers$Ear" "knowsGreat" "Z", Cond.fieldLink RX0 35 "ScoreNumbers$Ear" "great" "I", Cond.methodLink RX0 89 yX0_takeUnitAsCount, Cond.instanceMethod yX0_takeUnitAsCount]
def wsX0_hear_r3 : List Cond := [Cond.selects RX0 yX0_takeUnitAsCount yX0_takeUnitAsCount, Cond.code yX0_takeUnitAsCount cX0_takeUnitAsCount 1 none, Cond.fieldLink RX0 41 "ScoreNumbers$Ear" "unit" "I", Cond.methodLink RX0 92 yX0_scores, Cond.instanceMethod yX0_scores, Cond.selects RX0 yX0_scores yX0_scores, Cond.code yX0_scores cX0_scores 1 (some .int), Cond.fieldLink RX0 7 "ScoreNumbers$Ear" "knowsHalf" "Z", Cond.methodLink RX0 95 yX0_keepUnit, Cond.instanceMethod yX0_keepUnit, Cond.selects RX0 yX0_keepUnit yX0_keepUnit, Cond.code yX0_keepUnit cX0_keepUnit 2 none, Cond.methodLink RX0 58 yX0_isComplete, Cond.instanceMethod yX0_isComplete, Cond.selects RX0 yX0_isComplete yX0_isComplete, Cond.code yX0_isComplete cX0_isComplete 1 (some .boolean), Cond.methodLink RX0 62 yX0_number, Cond.instanceMethod yX0_number, Cond.selects RX0 yX0_number yX0_number, Cond.code yX0_number cX0_number 1 (some .int), Cond.fieldLink RX0 13 "ScoreNumbers$Ear" "knowsLess" "Z"]
def wsX0_hear : List Cond := .code yX0_hear cX0_hear 6 (some .int) :: ((wsX0_hear_r1 ++ (wsX0_hear_r2 ++ wsX0_hear_r3)) ++ wsX00)
def wsX3_init : List Cond := .code yX3_init cX3_init 3 none :: ([.methodLink RX3 3 objectInit, .instanceMethod objectInit, .code objectInit ⟨#[0xb1]⟩ 1 none, .classLink RX3 9 "[[I", .arrayClass .int, .fieldLink RX3 11 "ScoreNumbers$State" "hearers" "[[I", .fieldLink RX3 16 "ScoreNumbers$State" "lines" "[[I", .fieldLink RX3 19 "ScoreNumbers$State" "newest" "I", .fieldLink RX3 23 "ScoreNumbers$State" "kept" "I", .fieldLink RX3 26 "ScoreNumbers$State" "patience" "I"] ++ wsX30)
def wsX1_init : List Cond := .code yX1_init cX1_init 2 none :: ([.methodLink RX1 3 objectInit, .instanceMethod objectInit, .code objectInit ⟨#[0xb1]⟩ 1 none, .classLink RX1 11 RX3, .fieldLink RX1 13 "ScoreNumbers$History" "states" "[LScoreNumbers$State;", .fieldLink RX1 17 "ScoreNumbers$History" "free" "I", .fieldLink RX1 21 "ScoreNumbers$History" "held" "I", .instantiable RX3 5, .initialized RX3, .methodLink RX1 24 yX3_init, .instanceMethod yX3_init, .code yX3_init cX3_init 3 none, .methodLink RX3 3 objectInit, .classLink RX3 9 "[[I", .arrayClass .int, .fieldLink RX3 11 "ScoreNumbers$State" "hearers" "[[I", .fieldLink RX3 16 "ScoreNumbers$State" "lines" "[[I", .fieldLink RX3 19 "ScoreNumbers$State" "newest" "I", .fieldLink RX3 23 "ScoreNumbers$State" "kept" "I", .fieldLink RX3 26 "ScoreNumbers$State" "patience" "I"] ++ wsX10 ++ wsX30)
def wsX3_copyFrom : List Cond := .code yX3_copyFrom cX3_copyFrom 3 none :: ([.fieldLink RX3 11 "ScoreNumbers$State" "hearers" "[[I", .methodLink RX3 29 arraycopyName, .native arraycopyName, .static arraycopyName, .initialized "java/lang/System", .fieldLink RX3 16 "ScoreNumbers$State" "lines" "[[I", .fieldLink RX3 19 "ScoreNumbers$State" "newest" "I", .fieldLink RX3 23 "ScoreNumbers$State" "kept" "I", .fieldLink RX3 26 "ScoreNumbers$State" "patience" "I"] ++ wsX30)
def wsX1_record : List Cond := .code yX1_record cX1_record 2 none :: ([.fieldLink RX1 17 "ScoreNumbers$History" "free" "I", .fieldLink RX1 13 "ScoreNumbers$History" "states" "[LScoreNumbers$State;", .fieldLink RX1 21 "ScoreNumbers$History" "held" "I", .methodLink RX1 29 Lib.Math.min.name, .static Lib.Math.min.name, .initialized "java/lang/Math", .code Lib.Math.min.name Lib.Math.min.code 2 (some .int), .methodLink RX1 25 yX3_copyFrom, .instanceMethod yX3_copyFrom, .selects RX3 yX3_copyFrom yX3_copyFrom, .initialized RX3, .code yX3_copyFrom cX3_copyFrom 3 none, .fieldLink RX3 11 "ScoreNumbers$State" "hearers" "[[I", .methodLink RX3 29 arraycopyName, .native arraycopyName, .static arraycopyName, .initialized "java/lang/System", .fieldLink RX3 16 "ScoreNumbers$State" "lines" "[[I", .fieldLink RX3 19 "ScoreNumbers$State" "newest" "I", .fieldLink RX3 23 "ScoreNumbers$State" "kept" "I", .fieldLink RX3 26 "ScoreNumbers$State" "patience" "I"] ++ wsX10 ++ wsX30)
def wsX1_restore : List Cond := .code yX1_restore cX1_restore 3 (some .int) :: ([.fieldLink RX1 21 "ScoreNumbers$History" "held" "I", .fieldLink RX1 17 "ScoreNumbers$History" "free" "I", .fieldLink RX1 13 "ScoreNumbers$History" "states" "[LScoreNumbers$State;", .methodLink RX1 25 yX3_copyFrom, .instanceMethod yX3_copyFrom, .selects RX3 yX3_copyFrom yX3_copyFrom, .initialized RX3, .code yX3_copyFrom cX3_copyFrom 3 none, .fieldLink RX3 11 "ScoreNumbers$State" "hearers" "[[I", .methodLink RX3 29 arraycopyName, .native arraycopyName, .static arraycopyName, .initialized "java/lang/System", .fieldLink RX3 16 "ScoreNumbers$State" "lines" "[[I", .fieldLink RX3 19 "ScoreNumbers$State" "newest" "I", .fieldLink RX3 23 "ScoreNumbers$State" "kept" "I", .fieldLink RX3 26 "ScoreNumbers$State" "patience" "I"] ++ wsX10 ++ wsX30)
def wsX2_then : List Cond := .code yX2_then cX2_then 3 (some .long) :: ([])
def wsX2_has : List Cond := .code yX2_has cX2_has 4 (some .boolean) :: ([.methodLink RX2 9 yX2_character, .static yX2_character, .initialized RX2, .code yX2_character cX2_character 3 (some .int)])
def wsX3_nextLine : List Cond := .code yX3_nextLine cX3_nextLine 1 (some (.array .int)) :: ([.fieldLink RX3 19 "ScoreNumbers$State" "newest" "I", .fieldLink RX3 23 "ScoreNumbers$State" "kept" "I", .methodLink RX3 35 Lib.Math.min.name, .static Lib.Math.min.name, .initialized "java/lang/Math", .code Lib.Math.min.name Lib.Math.min.code 2 (some .int), .fieldLink RX3 16 "ScoreNumbers$State" "lines" "[[I"] ++ wsX30)
def wsX3_told : List Cond := .code yX3_told cX3_told 4 (some .int) :: ([.fieldLink RX3 19 "ScoreNumbers$State" "newest" "I", .fieldLink RX3 16 "ScoreNumbers$State" "lines" "[[I"] ++ wsX30)
def wsX3_total : List Cond := .code yX3_total cX3_total 6 (some .int) :: ([.fieldLink RX3 11 "ScoreNumbers$State" "hearers" "[[I"] ++ wsX30)
def wsX4_init : List Cond := .code yX4_init cX4_init 1 none :: ([.methodLink RX4 1 objectInit, .instanceMethod objectInit, .code objectInit ⟨#[0xb1]⟩ 1 none, .arrayClass .long, .fieldLink RX4 9 "ScoreNumbers$Ways" "said" "[J", .fieldLink RX4 13 "ScoreNumbers$Ways" "many" "I"] ++ wsX40)
def wsX4_unit : List Cond := .code yX4_unit cX4_unit 1 (some .int) :: ([])
def wsX4_add : List Cond := .code yX4_add cX4_add 4 none :: ([.fieldLink RX4 13 "ScoreNumbers$Ways" "many" "I", .fieldLink RX4 9 "ScoreNumbers$Ways" "said" "[J"] ++ wsX40)
def wsX4_counted : List Cond := .code yX4_counted cX4_counted 6 (some .long) :: ([.methodLink RX4 56 yX2_then, .static yX2_then, .initialized RX2, .code yX2_then cX2_then 3 (some .long), .methodLink RX4 60 yX4_unit, .static yX4_unit, .initialized RX4, .code yX4_unit cX4_unit 1 (some .int)])
def wsX4_addWithBase : List Cond := .code yX4_addWithBase cX4_addWithBase 8 none :: ([.methodLink RX4 48 yX4_counted, .static yX4_counted, .initialized RX4, .code yX4_counted cX4_counted 6 (some .long), .methodLink RX4 56 yX2_then, .static yX2_then, .initialized RX2, .code yX2_then cX2_then 3 (some .long), .methodLink RX4 60 yX4_unit, .static yX4_unit, .code yX4_unit cX4_unit 1 (some .int), .methodLink RX4 52 yX4_add, .instanceMethod yX4_add, .selects RX4 yX4_add yX4_add, .code yX4_add cX4_add 4 none, .fieldLink RX4 13 "ScoreNumbers$Ways" "many" "I", .fieldLink RX4 9 "ScoreNumbers$Ways" "said" "[J"] ++ wsX40)
def wsX4_addSmalls_r1 : List Cond := [Cond.methodLink RX4 23 Lib.Math.max.name, Cond.static Lib.Math.max.name, Cond.initialized "java/lang/Math", Cond.code Lib.Math.max.name Lib.Math.max.code 2 (some .int), Cond.methodLink RX4 29 Lib.Math.min.name, Cond.static Lib.Math.min.name, Cond.code Lib.Math.min.name Lib.Math.min.code 2 (some .int), Cond.methodLink RX4 60 yX4_unit, Cond.static yX4_unit, Cond.initialized RX4, Cond.code yX4_unit cX4_unit 1 (some .int), Cond.methodLink RX4 56 yX2_then, Cond.static yX2_then, Cond.initialized RX2, Cond.code yX2_then cX2_then 3 (some .long), Cond.methodLink RX4 52 yX4_add, Cond.instanceMethod yX4_add, Cond.selects RX4 yX4_add yX4_add, Cond.code yX4_add cX4_add 4 none, Cond.fieldLink RX4 13 "ScoreNumbers$Ways" "many" "I", Cond.fieldLink RX4 9 "ScoreNumbers$Ways" "said" "[J", Cond.methodLink RX4 64 yX4_addWithBase, Cond.instanceMethod yX4_addWithBase, Cond.selects RX4 yX4_addWithBase yX4_addWithBase]
def wsX4_addSmalls_r2 : List Cond := [Cond.code yX4_addWithBase cX4_addWithBase 8 none, Cond.methodLink RX4 48 yX4_counted, Cond.static yX4_counted, Cond.code yX4_counted cX4_counted 6 (some .long)]
def wsX4_addSmalls : List Cond := .code yX4_addSmalls cX4_addSmalls 7 none :: ((wsX4_addSmalls_r1 ++ wsX4_addSmalls_r2) ++ wsX40)
def wsX4_addGreat_r1 : List Cond := [Cond.methodLink RX4 48 yX4_counted, Cond.static yX4_counted, Cond.initialized RX4, Cond.code yX4_counted cX4_counted 6 (some .long), Cond.methodLink RX4 56 yX2_then, Cond.static yX2_then, Cond.initialized RX2, Cond.code yX2_then cX2_then 3 (some .long), Cond.methodLink RX4 60 yX4_unit, Cond.static yX4_unit, Cond.code yX4_unit cX4_unit 1 (some .int), Cond.methodLink RX4 52 yX4_add, Cond.instanceMethod yX4_add, Cond.selects RX4 yX4_add yX4_add, Cond.code yX4_add cX4_add 4 none, Cond.fieldLink RX4 13 "ScoreNumbers$Ways" "many" "I", Cond.fieldLink RX4 9 "ScoreNumbers$Ways" "said" "[J", Cond.methodLink RX4 19 yX4_addSmalls, Cond.instanceMethod yX4_addSmalls, Cond.selects RX4 yX4_addSmalls yX4_addSmalls, Cond.code yX4_addSmalls cX4_addSmalls 7 none, Cond.methodLink RX4 23 Lib.Math.max.name, Cond.static Lib.Math.max.name, Cond.initialized "java/lang/Math"]
def wsX4_addGreat_r2 : List Cond := [Cond.code Lib.Math.max.name Lib.Math.max.code 2 (some .int), Cond.methodLink RX4 29 Lib.Math.min.name, Cond.static Lib.Math.min.name, Cond.code Lib.Math.min.name Lib.Math.min.code 2 (some .int), Cond.methodLink RX4 64 yX4_addWithBase, Cond.instanceMethod yX4_addWithBase, Cond.selects RX4 yX4_addWithBase yX4_addWithBase, Cond.code yX4_addWithBase cX4_addWithBase 8 none]
def wsX4_addGreat : List Cond := .code yX4_addGreat cX4_addGreat 5 none :: ((wsX4_addGreat_r1 ++ wsX4_addGreat_r2) ++ wsX40)
def wsX4_find_r1 : List Cond := [Cond.fieldLink RX4 13 "ScoreNumbers$Ways" "many" "I", Cond.methodLink RX4 23 Lib.Math.max.name, Cond.static Lib.Math.max.name, Cond.initialized "java/lang/Math", Cond.code Lib.Math.max.name Lib.Math.max.code 2 (some .int), Cond.methodLink RX4 29 Lib.Math.min.name, Cond.static Lib.Math.min.name, Cond.code Lib.Math.min.name Lib.Math.min.code 2 (some .int), Cond.methodLink RX4 19 yX4_addSmalls, Cond.instanceMethod yX4_addSmalls, Cond.selects RX4 yX4_addSmalls yX4_addSmalls, Cond.initialized RX4, Cond.code yX4_addSmalls cX4_addSmalls 7 none, Cond.methodLink RX4 60 yX4_unit, Cond.static yX4_unit, Cond.code yX4_unit cX4_unit 1 (some .int), Cond.methodLink RX4 56 yX2_then, Cond.static yX2_then, Cond.initialized RX2, Cond.code yX2_then cX2_then 3 (some .long), Cond.methodLink RX4 52 yX4_add, Cond.instanceMethod yX4_add, Cond.selects RX4 yX4_add yX4_add, Cond.code yX4_add cX4_add 4 none]
def wsX4_find_r2 : List Cond := [Cond.fieldLink RX4 9 "ScoreNumbers$Ways" "said" "[J", Cond.methodLink RX4 64 yX4_addWithBase, Cond.instanceMethod yX4_addWithBase, Cond.selects RX4 yX4_addWithBase yX4_addWithBase, Cond.code yX4_addWithBase cX4_addWithBase 8 none, Cond.methodLink RX4 48 yX4_counted, Cond.static yX4_counted, Cond.code yX4_counted cX4_counted 6 (some .long), Cond.methodLink RX4 32 yX4_addGreat, Cond.instanceMethod yX4_addGreat, Cond.selects RX4 yX4_addGreat yX4_addGreat, Cond.code yX4_addGreat cX4_addGreat 5 none]
def wsX4_find : List Cond := .code yX4_find cX4_find 5 none :: ((wsX4_find_r1 ++ wsX4_find_r2) ++ wsX40)
def wsX4_at : List Cond := .code yX4_at cX4_at 2 (some .long) :: ([.fieldLink RX4 9 "ScoreNumbers$Ways" "said" "[J"] ++ wsX40)
def wsX4_placeOf : List Cond := .code yX4_placeOf cX4_placeOf 4 (some .int) :: ([.fieldLink RX4 13 "ScoreNumbers$Ways" "many" "I", .fieldLink RX4 9 "ScoreNumbers$Ways" "said" "[J"] ++ wsX40)
def wsX4_isOfStyle : List Cond := .code yX4_isOfStyle cX4_isOfStyle 3 (some .boolean) :: ([.methodLink RX4 44 yX2_has, .static yX2_has, .initialized RX2, .code yX2_has cX2_has 4 (some .boolean), .methodLink RX2 9 yX2_character, .static yX2_character, .code yX2_character cX2_character 3 (some .int)])
def wsX4_placeOfStyle : List Cond := .code yX4_placeOfStyle cX4_placeOfStyle 3 (some .int) :: ([.fieldLink RX4 13 "ScoreNumbers$Ways" "many" "I", .methodLink RX4 36 yX4_at, .instanceMethod yX4_at, .selects RX4 yX4_at yX4_at, .initialized RX4, .code yX4_at cX4_at 2 (some .long), .fieldLink RX4 9 "ScoreNumbers$Ways" "said" "[J", .methodLink RX4 40 yX4_isOfStyle, .static yX4_isOfStyle, .code yX4_isOfStyle cX4_isOfStyle 3 (some .boolean), .methodLink RX4 44 yX2_has, .static yX2_has, .initialized RX2, .code yX2_has cX2_has 4 (some .boolean), .methodLink RX2 9 yX2_character, .static yX2_character, .code yX2_character cX2_character 3 (some .int)] ++ wsX40)
def wsX5_init_r1 : List Cond := [Cond.methodLink RX5 1 objectInit, Cond.instanceMethod objectInit, Cond.code objectInit ⟨#[0xb1]⟩ 1 none, Cond.classLink RX5 7 RX3, Cond.instantiable RX3 5, Cond.initialized RX3, Cond.fieldLink RX5 10 "ScoreNumbers" "now" "LScoreNumbers$State;", Cond.classLink RX5 16 RX1, Cond.instantiable RX1 3, Cond.initialized RX1, Cond.fieldLink RX5 19 "ScoreNumbers" "history" "LScoreNumbers$History;", Cond.arrayClass .char, Cond.fieldLink RX5 23 "ScoreNumbers" "text" "[C", Cond.fieldLink RX5 27 "ScoreNumbers" "textLength" "I", Cond.classLink RX5 31 RX4, Cond.instantiable RX4 2, Cond.initialized RX4, Cond.fieldLink RX5 34 "ScoreNumbers" "found" "LScoreNumbers$Ways;", Cond.classLink RX5 38 RX0, Cond.instantiable RX0 11, Cond.initialized RX0, Cond.fieldLink RX5 41 "ScoreNumbers" "ear" "LScoreNumbers$Ear;", Cond.methodLink RX5 9 yX3_init, Cond.instanceMethod yX3_init]
def wsX5_init_r2 : List Cond := [Cond.code yX3_init cX3_init 3 none, Cond.methodLink RX3 3 objectInit, Cond.classLink RX3 9 "[[I", Cond.arrayClass .int, Cond.fieldLink RX3 11 "ScoreNumbers$State" "hearers" "[[I", Cond.fieldLink RX3 16 "ScoreNumbers$State" "lines" "[[I", Cond.fieldLink RX3 19 "ScoreNumbers$State" "newest" "I", Cond.fieldLink RX3 23 "ScoreNumbers$State" "kept" "I", Cond.fieldLink RX3 26 "ScoreNumbers$State" "patience" "I", Cond.methodLink RX5 18 yX1_init, Cond.instanceMethod yX1_init, Cond.code yX1_init cX1_init 2 none, Cond.methodLink RX1 3 objectInit, Cond.classLink RX1 11 RX3, Cond.fieldLink RX1 13 "ScoreNumbers$History" "states" "[LScoreNumbers$State;", Cond.fieldLink RX1 17 "ScoreNumbers$History" "free" "I", Cond.fieldLink RX1 21 "ScoreNumbers$History" "held" "I", Cond.methodLink RX1 24 yX3_init, Cond.instanceMethod yX4_init, Cond.code yX4_init cX4_init 1 none, Cond.methodLink RX4 1 objectInit, Cond.arrayClass .long, Cond.fieldLink RX4 9 "ScoreNumbers$Ways" "said" "[J", Cond.fieldLink RX4 13 "ScoreNumbers$Ways" "many" "I"]
def wsX5_init_r3 : List Cond := [Cond.instanceMethod yX0_init, Cond.code yX0_init cX0_init 1 none, Cond.methodLink RX0 1 objectInit]
def wsX5_init : List Cond := .code yX5_init cX5_init 1 none :: ((wsX5_init_r1 ++ (wsX5_init_r2 ++ wsX5_init_r3)) ++ wsX30 ++ wsX50 ++ wsX10 ++ wsX40 ++ wsX00)
def wsX5_isHearer : List Cond := .code yX5_isHearer cX5_isHearer 1 (some .boolean) :: ([])
def wsX5_isWord : List Cond := .code yX5_isWord cX5_isWord 1 (some .boolean) :: ([])
def wsX5_putWord_r1 : List Cond := [Cond.fieldLink RX5 19 "ScoreNumbers" "history" "LScoreNumbers$History;", Cond.fieldLink RX5 10 "ScoreNumbers" "now" "LScoreNumbers$State;", Cond.fieldLink RX5 57 "ScoreNumbers$State" "hearers" "[[I", Cond.methodLink RX5 49 yX5_isHearer, Cond.static yX5_isHearer, Cond.initialized RX5, Cond.code yX5_isHearer cX5_isHearer 1 (some .boolean), Cond.methodLink RX5 156 yX5_isWord, Cond.static yX5_isWord, Cond.code yX5_isWord cX5_isWord 1 (some .boolean), Cond.methodLink RX5 53 yX1_record, Cond.instanceMethod yX1_record, Cond.selects RX1 yX1_record yX1_record, Cond.initialized RX1, Cond.code yX1_record cX1_record 2 none, Cond.fieldLink RX1 17 "ScoreNumbers$History" "free" "I", Cond.fieldLink RX1 13 "ScoreNumbers$History" "states" "[LScoreNumbers$State;", Cond.fieldLink RX1 21 "ScoreNumbers$History" "held" "I", Cond.methodLink RX1 29 Lib.Math.min.name, Cond.static Lib.Math.min.name, Cond.initialized "java/lang/Math", Cond.code Lib.Math.min.name Lib.Math.min.code 2 (some .int), Cond.methodLink RX1 25 yX3_copyFrom, Cond.instanceMethod yX3_copyFrom]
def wsX5_putWord_r2 : List Cond := [Cond.selects RX3 yX3_copyFrom yX3_copyFrom, Cond.initialized RX3, Cond.code yX3_copyFrom cX3_copyFrom 3 none, Cond.fieldLink RX3 11 "ScoreNumbers$State" "hearers" "[[I", Cond.methodLink RX3 29 arraycopyName, Cond.native arraycopyName, Cond.static arraycopyName, Cond.initialized "java/lang/System", Cond.fieldLink RX3 16 "ScoreNumbers$State" "lines" "[[I", Cond.fieldLink RX3 19 "ScoreNumbers$State" "newest" "I", Cond.fieldLink RX3 23 "ScoreNumbers$State" "kept" "I", Cond.fieldLink RX3 26 "ScoreNumbers$State" "patience" "I"]
def wsX5_putWord : List Cond := .code yX5_putWord cX5_putWord 7 (some .int) :: ((wsX5_putWord_r1 ++ wsX5_putWord_r2) ++ wsX50 ++ wsX30 ++ wsX10)
def wsX5_learn_r1 : List Cond := [Cond.methodLink RX5 45 yX5_putWord, Cond.instanceMethod yX5_putWord, Cond.selects RX5 yX5_putWord yX5_putWord, Cond.initialized RX5, Cond.code yX5_putWord cX5_putWord 7 (some .int), Cond.fieldLink RX5 19 "ScoreNumbers" "history" "LScoreNumbers$History;", Cond.fieldLink RX5 10 "ScoreNumbers" "now" "LScoreNumbers$State;", Cond.fieldLink RX5 57 "ScoreNumbers$State" "hearers" "[[I", Cond.methodLink RX5 49 yX5_isHearer, Cond.static yX5_isHearer, Cond.code yX5_isHearer cX5_isHearer 1 (some .boolean), Cond.methodLink RX5 156 yX5_isWord, Cond.static yX5_isWord, Cond.code yX5_isWord cX5_isWord 1 (some .boolean), Cond.methodLink RX5 53 yX1_record, Cond.instanceMethod yX1_record, Cond.selects RX1 yX1_record yX1_record, Cond.initialized RX1, Cond.code yX1_record cX1_record 2 none, Cond.fieldLink RX1 17 "ScoreNumbers$History" "free" "I", Cond.fieldLink RX1 13 "ScoreNumbers$History" "states" "[LScoreNumbers$State;", Cond.fieldLink RX1 21 "ScoreNumbers$History" "held" "I", Cond.methodLink RX1 29 Lib.Math.min.name, Cond.static Lib.Math.min.name]
def wsX5_learn_r2 : List Cond := [Cond.initialized "java/lang/Math", Cond.code Lib.Math.min.name Lib.Math.min.code 2 (some .int), Cond.methodLink RX1 25 yX3_copyFrom, Cond.instanceMethod yX3_copyFrom, Cond.selects RX3 yX3_copyFrom yX3_copyFrom, Cond.initialized RX3, Cond.code yX3_copyFrom cX3_copyFrom 3 none, Cond.fieldLink RX3 11 "ScoreNumbers$State" "hearers" "[[I", Cond.methodLink RX3 29 arraycopyName, Cond.native arraycopyName, Cond.static arraycopyName, Cond.initialized "java/lang/System", Cond.fieldLink RX3 16 "ScoreNumbers$State" "lines" "[[I", Cond.fieldLink RX3 19 "ScoreNumbers$State" "newest" "I", Cond.fieldLink RX3 23 "ScoreNumbers$State" "kept" "I", Cond.fieldLink RX3 26 "ScoreNumbers$State" "patience" "I"]
def wsX5_learn : List Cond := .code yX5_learn cX5_learn 3 (some .int) :: ((wsX5_learn_r1 ++ wsX5_learn_r2) ++ wsX50 ++ wsX30 ++ wsX10)
def wsX5_unlearn_r1 : List Cond := [Cond.methodLink RX5 45 yX5_putWord, Cond.instanceMethod yX5_putWord, Cond.selects RX5 yX5_putWord yX5_putWord, Cond.initialized RX5, Cond.code yX5_putWord cX5_putWord 7 (some .int), Cond.fieldLink RX5 19 "ScoreNumbers" "history" "LScoreNumbers$History;", Cond.fieldLink RX5 10 "ScoreNumbers" "now" "LScoreNumbers$State;", Cond.fieldLink RX5 57 "ScoreNumbers$State" "hearers" "[[I", Cond.methodLink RX5 49 yX5_isHearer, Cond.static yX5_isHearer, Cond.code yX5_isHearer cX5_isHearer 1 (some .boolean), Cond.methodLink RX5 156 yX5_isWord, Cond.static yX5_isWord, Cond.code yX5_isWord cX5_isWord 1 (some .boolean), Cond.methodLink RX5 53 yX1_record, Cond.instanceMethod yX1_record, Cond.selects RX1 yX1_record yX1_record, Cond.initialized RX1, Cond.code yX1_record cX1_record 2 none, Cond.fieldLink RX1 17 "ScoreNumbers$History" "free" "I", Cond.fieldLink RX1 13 "ScoreNumbers$History" "states" "[LScoreNumbers$State;", Cond.fieldLink RX1 21 "ScoreNumbers$History" "held" "I", Cond.methodLink RX1 29 Lib.Math.min.name, Cond.static Lib.Math.min.name]
def wsX5_unlearn_r2 : List Cond := [Cond.initialized "java/lang/Math", Cond.code Lib.Math.min.name Lib.Math.min.code 2 (some .int), Cond.methodLink RX1 25 yX3_copyFrom, Cond.instanceMethod yX3_copyFrom, Cond.selects RX3 yX3_copyFrom yX3_copyFrom, Cond.initialized RX3, Cond.code yX3_copyFrom cX3_copyFrom 3 none, Cond.fieldLink RX3 11 "ScoreNumbers$State" "hearers" "[[I", Cond.methodLink RX3 29 arraycopyName, Cond.native arraycopyName, Cond.static arraycopyName, Cond.initialized "java/lang/System", Cond.fieldLink RX3 16 "ScoreNumbers$State" "lines" "[[I", Cond.fieldLink RX3 19 "ScoreNumbers$State" "newest" "I", Cond.fieldLink RX3 23 "ScoreNumbers$State" "kept" "I", Cond.fieldLink RX3 26 "ScoreNumbers$State" "patience" "I"]
def wsX5_unlearn : List Cond := .code yX5_unlearn cX5_unlearn 3 (some .int) :: ((wsX5_unlearn_r1 ++ wsX5_unlearn_r2) ++ wsX50 ++ wsX30 ++ wsX10)
def wsX5_attend_r1 : List Cond := [Cond.fieldLink RX5 19 "ScoreNumbers" "history" "LScoreNumbers$History;", Cond.fieldLink RX5 10 "ScoreNumbers" "now" "LScoreNumbers$State;", Cond.fieldLink RX5 57 "ScoreNumbers$State" "hearers" "[[I", Cond.methodLink RX5 49 yX5_isHearer, Cond.static yX5_isHearer, Cond.initialized RX5, Cond.code yX5_isHearer cX5_isHearer 1 (some .boolean), Cond.methodLink RX5 53 yX1_record, Cond.instanceMethod yX1_record, Cond.selects RX1 yX1_record yX1_record, Cond.initialized RX1, Cond.code yX1_record cX1_record 2 none, Cond.fieldLink RX1 17 "ScoreNumbers$History" "free" "I", Cond.fieldLink RX1 13 "ScoreNumbers$History" "states" "[LScoreNumbers$State;", Cond.fieldLink RX1 21 "ScoreNumbers$History" "held" "I", Cond.methodLink RX1 29 Lib.Math.min.name, Cond.static Lib.Math.min.name, Cond.initialized "java/lang/Math", Cond.code Lib.Math.min.name Lib.Math.min.code 2 (some .int), Cond.methodLink RX1 25 yX3_copyFrom, Cond.instanceMethod yX3_copyFrom, Cond.selects RX3 yX3_copyFrom yX3_copyFrom, Cond.initialized RX3, Cond.code yX3_copyFrom cX3_copyFrom 3 none]
def wsX5_attend_r2 : List Cond := [Cond.fieldLink RX3 11 "ScoreNumbers$State" "hearers" "[[I", Cond.methodLink RX3 29 arraycopyName, Cond.native arraycopyName, Cond.static arraycopyName, Cond.initialized "java/lang/System", Cond.fieldLink RX3 16 "ScoreNumbers$State" "lines" "[[I", Cond.fieldLink RX3 19 "ScoreNumbers$State" "newest" "I", Cond.fieldLink RX3 23 "ScoreNumbers$State" "kept" "I", Cond.fieldLink RX3 26 "ScoreNumbers$State" "patience" "I"]
def wsX5_attend : List Cond := .code yX5_attend cX5_attend 5 (some .int) :: ((wsX5_attend_r1 ++ wsX5_attend_r2) ++ wsX50 ++ wsX30 ++ wsX10)
def wsX5_set_r1 : List Cond := [Cond.fieldLink RX5 19 "ScoreNumbers" "history" "LScoreNumbers$History;", Cond.fieldLink RX5 10 "ScoreNumbers" "now" "LScoreNumbers$State;", Cond.fieldLink RX5 61 "ScoreNumbers$State" "patience" "I", Cond.methodLink RX5 53 yX1_record, Cond.instanceMethod yX1_record, Cond.selects RX1 yX1_record yX1_record, Cond.initialized RX1, Cond.code yX1_record cX1_record 2 none, Cond.fieldLink RX1 17 "ScoreNumbers$History" "free" "I", Cond.fieldLink RX1 13 "ScoreNumbers$History" "states" "[LScoreNumbers$State;", Cond.fieldLink RX1 21 "ScoreNumbers$History" "held" "I", Cond.methodLink RX1 29 Lib.Math.min.name, Cond.static Lib.Math.min.name, Cond.initialized "java/lang/Math", Cond.code Lib.Math.min.name Lib.Math.min.code 2 (some .int), Cond.methodLink RX1 25 yX3_copyFrom, Cond.instanceMethod yX3_copyFrom, Cond.selects RX3 yX3_copyFrom yX3_copyFrom, Cond.initialized RX3, Cond.code yX3_copyFrom cX3_copyFrom 3 none, Cond.fieldLink RX3 11 "ScoreNumbers$State" "hearers" "[[I", Cond.methodLink RX3 29 arraycopyName, Cond.native arraycopyName, Cond.static arraycopyName]
def wsX5_set_r2 : List Cond := [Cond.initialized "java/lang/System", Cond.fieldLink RX3 16 "ScoreNumbers$State" "lines" "[[I", Cond.fieldLink RX3 19 "ScoreNumbers$State" "newest" "I", Cond.fieldLink RX3 23 "ScoreNumbers$State" "kept" "I", Cond.fieldLink RX3 26 "ScoreNumbers$State" "patience" "I"]
def wsX5_set : List Cond := .code yX5_set cX5_set 3 (some .int) :: ((wsX5_set_r1 ++ wsX5_set_r2) ++ wsX50 ++ wsX30 ++ wsX10)
def wsX5_isStyle : List Cond := .code yX5_isStyle cX5_isStyle 1 (some .boolean) :: ([])
def wsX5_isNumber : List Cond := .code yX5_isNumber cX5_isNumber 1 (some .boolean) :: ([])
def wsX5_heard_r1 : List Cond := [Cond.fieldLink RX5 10 "ScoreNumbers" "now" "LScoreNumbers$State;", Cond.fieldLink RX5 57 "ScoreNumbers$State" "hearers" "[[I", Cond.fieldLink RX5 41 "ScoreNumbers" "ear" "LScoreNumbers$Ear;", Cond.methodLink RX5 98 yX0_listen, Cond.instanceMethod yX0_listen, Cond.selects RX0 yX0_listen yX0_listen, Cond.initialized RX0, Cond.code yX0_listen cX0_listen 4 none, Cond.fieldLink RX0 7 "ScoreNumbers$Ear" "knowsHalf" "Z", Cond.fieldLink RX0 13 "ScoreNumbers$Ear" "knowsLess" "Z", Cond.fieldLink RX0 16 "ScoreNumbers$Ear" "knowsGreat" "Z", Cond.fieldLink RX0 19 "ScoreNumbers$Ear" "state" "I", Cond.fieldLink RX0 23 "ScoreNumbers$Ear" "isBehindGreat" "Z", Cond.fieldLink RX0 26 "ScoreNumbers$Ear" "isHalved" "Z", Cond.fieldLink RX0 29 "ScoreNumbers$Ear" "isLess" "Z", Cond.fieldLink RX0 32 "ScoreNumbers$Ear" "count" "I", Cond.fieldLink RX0 35 "ScoreNumbers$Ear" "great" "I", Cond.fieldLink RX0 38 "ScoreNumbers$Ear" "base" "I", Cond.fieldLink RX0 41 "ScoreNumbers$Ear" "unit" "I", Cond.methodLink RX5 163 yX0_hear, Cond.instanceMethod yX0_hear, Cond.selects RX0 yX0_hear yX0_hear, Cond.code yX0_hear cX0_hear 6 (some .int), Cond.methodLink RX0 44 yX2_length]
def wsX5_heard_r2 : List Cond := [Cond.static yX2_length, Cond.initialized RX2, Cond.code yX2_length cX2_length 3 (some .int), Cond.methodLink RX0 50 yX2_character, Cond.static yX2_character, Cond.code yX2_character cX2_character 3 (some .int), Cond.methodLink RX0 54 yX0_take, Cond.instanceMethod yX0_take, Cond.selects RX0 yX0_take yX0_take, Cond.code yX0_take cX0_take 3 (some .boolean), Cond.methodLink RX0 66 yX0_following, Cond.instanceMethod yX0_following, Cond.selects RX0 yX0_following yX0_following, Cond.code yX0_following cX0_following 2 (some .int), Cond.methodLink RX0 74 yX0_afterStart, Cond.instanceMethod yX0_afterStart, Cond.selects RX0 yX0_afterStart yX0_afterStart, Cond.code yX0_afterStart cX0_afterStart 2 (some .int), Cond.methodLink RX0 77 yX0_isCountUnit, Cond.static yX0_isCountUnit, Cond.code yX0_isCountUnit cX0_isCountUnit 1 (some .boolean), Cond.methodLink RX0 80 yX0_afterCount, Cond.instanceMethod yX0_afterCount, Cond.selects RX0 yX0_afterCount yX0_afterCount]
def wsX5_heard_r3 : List Cond := [Cond.code yX0_afterCount cX0_afterCount 2 (some .int), Cond.methodLink RX0 83 yX0_isUnit, Cond.static yX0_isUnit, Cond.code yX0_isUnit cX0_isUnit 1 (some .boolean), Cond.methodLink RX0 86 yX0_afterLess, Cond.instanceMethod yX0_afterLess, Cond.selects RX0 yX0_afterLess yX0_afterLess, Cond.code yX0_afterLess cX0_afterLess 2 (some .int), Cond.methodLink RX0 70 yX0_keep, Cond.instanceMethod yX0_keep, Cond.selects RX0 yX0_keep yX0_keep, Cond.code yX0_keep cX0_keep 2 none, Cond.methodLink RX0 89 yX0_takeUnitAsCount, Cond.instanceMethod yX0_takeUnitAsCount, Cond.selects RX0 yX0_takeUnitAsCount yX0_takeUnitAsCount, Cond.code yX0_takeUnitAsCount cX0_takeUnitAsCount 1 none, Cond.methodLink RX0 92 yX0_scores, Cond.instanceMethod yX0_scores, Cond.selects RX0 yX0_scores yX0_scores, Cond.code yX0_scores cX0_scores 1 (some .int), Cond.methodLink RX0 95 yX0_keepUnit, Cond.instanceMethod yX0_keepUnit, Cond.selects RX0 yX0_keepUnit yX0_keepUnit, Cond.code yX0_keepUnit cX0_keepUnit 2 none]
def wsX5_heard_r4 : List Cond := [Cond.methodLink RX0 58 yX0_isComplete, Cond.instanceMethod yX0_isComplete, Cond.selects RX0 yX0_isComplete yX0_isComplete, Cond.code yX0_isComplete cX0_isComplete 1 (some .boolean), Cond.methodLink RX0 62 yX0_number, Cond.instanceMethod yX0_number, Cond.selects RX0 yX0_number yX0_number, Cond.code yX0_number cX0_number 1 (some .int)]
def wsX5_heard : List Cond := .code yX5_heard cX5_heard 5 (some .int) :: ((wsX5_heard_r1 ++ (wsX5_heard_r2 ++ (wsX5_heard_r3 ++ wsX5_heard_r4))) ++ wsX50 ++ wsX30 ++ wsX00)
def wsX5_wordCharacter : List Cond := .code yX5_wordCharacter cX5_wordCharacter 1 (some .char) :: ([])
def wsX5_doubtWords : List Cond := .code yX5_doubtWords cX5_doubtWords 6 (some .boolean) :: ([.fieldLink RX5 10 "ScoreNumbers" "now" "LScoreNumbers$State;", .fieldLink RX5 61 "ScoreNumbers$State" "patience" "I", .methodLink RX5 174 yX5_wordCharacter, .static yX5_wordCharacter, .initialized RX5, .code yX5_wordCharacter cX5_wordCharacter 1 (some .char), .methodLink RX5 178 yX2_has, .static yX2_has, .initialized RX2, .code yX2_has cX2_has 4 (some .boolean), .methodLink RX2 9 yX2_character, .static yX2_character, .code yX2_character cX2_character 3 (some .int)] ++ wsX50 ++ wsX30)
def wsX5_say_r1 : List Cond := [Cond.fieldLink RX5 19 "ScoreNumbers" "history" "LScoreNumbers$History;", Cond.fieldLink RX5 10 "ScoreNumbers" "now" "LScoreNumbers$State;", Cond.fieldLink RX5 57 "ScoreNumbers$State" "hearers" "[[I", Cond.methodLink RX5 53 yX1_record, Cond.instanceMethod yX1_record, Cond.selects RX1 yX1_record yX1_record, Cond.initialized RX1, Cond.code yX1_record cX1_record 2 none, Cond.fieldLink RX1 17 "ScoreNumbers$History" "free" "I", Cond.fieldLink RX1 13 "ScoreNumbers$History" "states" "[LScoreNumbers$State;", Cond.fieldLink RX1 21 "ScoreNumbers$History" "held" "I", Cond.methodLink RX1 29 Lib.Math.min.name, Cond.static Lib.Math.min.name, Cond.initialized "java/lang/Math", Cond.code Lib.Math.min.name Lib.Math.min.code 2 (some .int), Cond.methodLink RX1 25 yX3_copyFrom, Cond.instanceMethod yX3_copyFrom, Cond.selects RX3 yX3_copyFrom yX3_copyFrom, Cond.initialized RX3, Cond.code yX3_copyFrom cX3_copyFrom 3 none, Cond.fieldLink RX3 11 "ScoreNumbers$State" "hearers" "[[I", Cond.methodLink RX3 29 arraycopyName, Cond.native arraycopyName, Cond.static arraycopyName]
def wsX5_say_r2 : List Cond := [Cond.initialized "java/lang/System", Cond.fieldLink RX3 16 "ScoreNumbers$State" "lines" "[[I", Cond.fieldLink RX3 19 "ScoreNumbers$State" "newest" "I", Cond.fieldLink RX3 23 "ScoreNumbers$State" "kept" "I", Cond.fieldLink RX3 26 "ScoreNumbers$State" "patience" "I", Cond.methodLink RX5 128 yX5_heard, Cond.instanceMethod yX5_heard, Cond.selects RX5 yX5_heard yX5_heard, Cond.initialized RX5, Cond.code yX5_heard cX5_heard 5 (some .int), Cond.fieldLink RX5 41 "ScoreNumbers" "ear" "LScoreNumbers$Ear;", Cond.methodLink RX5 98 yX0_listen, Cond.instanceMethod yX0_listen, Cond.selects RX0 yX0_listen yX0_listen, Cond.initialized RX0, Cond.code yX0_listen cX0_listen 4 none, Cond.fieldLink RX0 7 "ScoreNumbers$Ear" "knowsHalf" "Z", Cond.fieldLink RX0 13 "ScoreNumbers$Ear" "knowsLess" "Z", Cond.fieldLink RX0 16 "ScoreNumbers$Ear" "knowsGreat" "Z", Cond.fieldLink RX0 19 "ScoreNumbers$Ear" "state" "I", Cond.fieldLink RX0 23 "ScoreNumbers$Ear" "isBehindGreat" "Z", Cond.fieldLink RX0 26 "ScoreNumbers$Ear" "isHalved" "Z", Cond.fieldLink RX0 29 "ScoreNumbers$Ear" "isLess" "Z", Cond.fieldLink RX0 32 "ScoreNumbers$Ear" "count" "I"]
def wsX5_say_r3 : List Cond := [Cond.fieldLink RX0 35 "ScoreNumbers$Ear" "great" "I", Cond.fieldLink RX0 38 "ScoreNumbers$Ear" "base" "I", Cond.fieldLink RX0 41 "ScoreNumbers$Ear" "unit" "I", Cond.methodLink RX5 163 yX0_hear, Cond.instanceMethod yX0_hear, Cond.selects RX0 yX0_hear yX0_hear, Cond.code yX0_hear cX0_hear 6 (some .int), Cond.methodLink RX0 44 yX2_length, Cond.static yX2_length, Cond.initialized RX2, Cond.code yX2_length cX2_length 3 (some .int), Cond.methodLink RX0 50 yX2_character, Cond.static yX2_character, Cond.code yX2_character cX2_character 3 (some .int), Cond.methodLink RX0 54 yX0_take, Cond.instanceMethod yX0_take, Cond.selects RX0 yX0_take yX0_take, Cond.code yX0_take cX0_take 3 (some .boolean), Cond.methodLink RX0 66 yX0_following, Cond.instanceMethod yX0_following, Cond.selects RX0 yX0_following yX0_following, Cond.code yX0_following cX0_following 2 (some .int), Cond.methodLink RX0 74 yX0_afterStart, Cond.instanceMethod yX0_afterStart]
def wsX5_say_r4 : List Cond := [Cond.selects RX0 yX0_afterStart yX0_afterStart, Cond.code yX0_afterStart cX0_afterStart 2 (some .int), Cond.methodLink RX0 77 yX0_isCountUnit, Cond.static yX0_isCountUnit, Cond.code yX0_isCountUnit cX0_isCountUnit 1 (some .boolean), Cond.methodLink RX0 80 yX0_afterCount, Cond.instanceMethod yX0_afterCount, Cond.selects RX0 yX0_afterCount yX0_afterCount, Cond.code yX0_afterCount cX0_afterCount 2 (some .int), Cond.methodLink RX0 83 yX0_isUnit, Cond.static yX0_isUnit, Cond.code yX0_isUnit cX0_isUnit 1 (some .boolean), Cond.methodLink RX0 86 yX0_afterLess, Cond.instanceMethod yX0_afterLess, Cond.selects RX0 yX0_afterLess yX0_afterLess, Cond.code yX0_afterLess cX0_afterLess 2 (some .int), Cond.methodLink RX0 70 yX0_keep, Cond.instanceMethod yX0_keep, Cond.selects RX0 yX0_keep yX0_keep, Cond.code yX0_keep cX0_keep 2 none, Cond.methodLink RX0 89 yX0_takeUnitAsCount, Cond.instanceMethod yX0_takeUnitAsCount, Cond.selects RX0 yX0_takeUnitAsCount yX0_takeUnitAsCount, Cond.code yX0_takeUnitAsCount cX0_takeUnitAsCount 1 none]
def wsX5_say_r5 : List Cond := [Cond.methodLink RX0 92 yX0_scores, Cond.instanceMethod yX0_scores, Cond.selects RX0 yX0_scores yX0_scores, Cond.code yX0_scores cX0_scores 1 (some .int), Cond.methodLink RX0 95 yX0_keepUnit, Cond.instanceMethod yX0_keepUnit, Cond.selects RX0 yX0_keepUnit yX0_keepUnit, Cond.code yX0_keepUnit cX0_keepUnit 2 none, Cond.methodLink RX0 58 yX0_isComplete, Cond.instanceMethod yX0_isComplete, Cond.selects RX0 yX0_isComplete yX0_isComplete, Cond.code yX0_isComplete cX0_isComplete 1 (some .boolean), Cond.methodLink RX0 62 yX0_number, Cond.instanceMethod yX0_number, Cond.selects RX0 yX0_number yX0_number, Cond.code yX0_number cX0_number 1 (some .int), Cond.methodLink RX5 166 yX5_doubtWords, Cond.instanceMethod yX5_doubtWords, Cond.selects RX5 yX5_doubtWords yX5_doubtWords, Cond.code yX5_doubtWords cX5_doubtWords 6 (some .boolean), Cond.fieldLink RX5 61 "ScoreNumbers$State" "patience" "I", Cond.methodLink RX5 174 yX5_wordCharacter, Cond.static yX5_wordCharacter, Cond.code yX5_wordCharacter cX5_wordCharacter 1 (some .char)]
def wsX5_say_r6 : List Cond := [Cond.methodLink RX5 178 yX2_has, Cond.static yX2_has, Cond.code yX2_has cX2_has 4 (some .boolean), Cond.methodLink RX2 9 yX2_character, Cond.methodLink RX5 170 yX3_nextLine, Cond.instanceMethod yX3_nextLine, Cond.selects RX3 yX3_nextLine yX3_nextLine, Cond.code yX3_nextLine cX3_nextLine 1 (some (.array .int)), Cond.methodLink RX3 35 Lib.Math.min.name, Cond.methodLink RX5 116 yX2_length]
def wsX5_say : List Cond := .code yX5_say cX5_say 10 (some .int) :: ((wsX5_say_r1 ++ (wsX5_say_r2 ++ (wsX5_say_r3 ++ (wsX5_say_r4 ++ (wsX5_say_r5 ++ wsX5_say_r6))))) ++ wsX50 ++ wsX30 ++ wsX10 ++ wsX00)
def wsX5_tell_r1 : List Cond := [Cond.fieldLink RX5 34 "ScoreNumbers" "found" "LScoreNumbers$Ways;", Cond.methodLink RX5 49 yX5_isHearer, Cond.static yX5_isHearer, Cond.initialized RX5, Cond.code yX5_isHearer cX5_isHearer 1 (some .boolean), Cond.methodLink RX5 64 yX5_isStyle, Cond.static yX5_isStyle, Cond.code yX5_isStyle cX5_isStyle 1 (some .boolean), Cond.methodLink RX5 67 yX5_isNumber, Cond.static yX5_isNumber, Cond.code yX5_isNumber cX5_isNumber 1 (some .boolean), Cond.methodLink RX5 70 yX4_find, Cond.instanceMethod yX4_find, Cond.selects RX4 yX4_find yX4_find, Cond.initialized RX4, Cond.code yX4_find cX4_find 5 none, Cond.fieldLink RX4 13 "ScoreNumbers$Ways" "many" "I", Cond.methodLink RX4 23 Lib.Math.max.name, Cond.static Lib.Math.max.name, Cond.initialized "java/lang/Math", Cond.code Lib.Math.max.name Lib.Math.max.code 2 (some .int), Cond.methodLink RX4 29 Lib.Math.min.name, Cond.static Lib.Math.min.name, Cond.code Lib.Math.min.name Lib.Math.min.code 2 (some .int)]
def wsX5_tell_r2 : List Cond := [Cond.methodLink RX4 19 yX4_addSmalls, Cond.instanceMethod yX4_addSmalls, Cond.selects RX4 yX4_addSmalls yX4_addSmalls, Cond.code yX4_addSmalls cX4_addSmalls 7 none, Cond.methodLink RX4 60 yX4_unit, Cond.static yX4_unit, Cond.code yX4_unit cX4_unit 1 (some .int), Cond.methodLink RX4 56 yX2_then, Cond.static yX2_then, Cond.initialized RX2, Cond.code yX2_then cX2_then 3 (some .long), Cond.methodLink RX4 52 yX4_add, Cond.instanceMethod yX4_add, Cond.selects RX4 yX4_add yX4_add, Cond.code yX4_add cX4_add 4 none, Cond.fieldLink RX4 9 "ScoreNumbers$Ways" "said" "[J", Cond.methodLink RX4 64 yX4_addWithBase, Cond.instanceMethod yX4_addWithBase, Cond.selects RX4 yX4_addWithBase yX4_addWithBase, Cond.code yX4_addWithBase cX4_addWithBase 8 none, Cond.methodLink RX4 48 yX4_counted, Cond.static yX4_counted, Cond.code yX4_counted cX4_counted 6 (some .long), Cond.methodLink RX4 32 yX4_addGreat]
def wsX5_tell_r3 : List Cond := [Cond.instanceMethod yX4_addGreat, Cond.selects RX4 yX4_addGreat yX4_addGreat, Cond.code yX4_addGreat cX4_addGreat 5 none, Cond.methodLink RX5 74 yX4_placeOfStyle, Cond.instanceMethod yX4_placeOfStyle, Cond.selects RX4 yX4_placeOfStyle yX4_placeOfStyle, Cond.code yX4_placeOfStyle cX4_placeOfStyle 3 (some .int), Cond.methodLink RX4 36 yX4_at, Cond.instanceMethod yX4_at, Cond.selects RX4 yX4_at yX4_at, Cond.code yX4_at cX4_at 2 (some .long), Cond.methodLink RX4 40 yX4_isOfStyle, Cond.static yX4_isOfStyle, Cond.code yX4_isOfStyle cX4_isOfStyle 3 (some .boolean), Cond.methodLink RX4 44 yX2_has, Cond.static yX2_has, Cond.code yX2_has cX2_has 4 (some .boolean), Cond.methodLink RX2 9 yX2_character, Cond.static yX2_character, Cond.code yX2_character cX2_character 3 (some .int), Cond.methodLink RX5 78 yX4_at, Cond.methodLink RX5 82 yX5_say, Cond.instanceMethod yX5_say, Cond.selects RX5 yX5_say yX5_say]
def wsX5_tell_r4 : List Cond := [Cond.code yX5_say cX5_say 10 (some .int), Cond.fieldLink RX5 19 "ScoreNumbers" "history" "LScoreNumbers$History;", Cond.fieldLink RX5 10 "ScoreNumbers" "now" "LScoreNumbers$State;", Cond.fieldLink RX5 57 "ScoreNumbers$State" "hearers" "[[I", Cond.methodLink RX5 53 yX1_record, Cond.instanceMethod yX1_record, Cond.selects RX1 yX1_record yX1_record, Cond.initialized RX1, Cond.code yX1_record cX1_record 2 none, Cond.fieldLink RX1 17 "ScoreNumbers$History" "free" "I", Cond.fieldLink RX1 13 "ScoreNumbers$History" "states" "[LScoreNumbers$State;", Cond.fieldLink RX1 21 "ScoreNumbers$History" "held" "I", Cond.methodLink RX1 29 Lib.Math.min.name, Cond.methodLink RX1 25 yX3_copyFrom, Cond.instanceMethod yX3_copyFrom, Cond.selects RX3 yX3_copyFrom yX3_copyFrom, Cond.initialized RX3, Cond.code yX3_copyFrom cX3_copyFrom 3 none, Cond.fieldLink RX3 11 "ScoreNumbers$State" "hearers" "[[I", Cond.methodLink RX3 29 arraycopyName, Cond.native arraycopyName, Cond.static arraycopyName, Cond.initialized "java/lang/System", Cond.fieldLink RX3 16 "ScoreNumbers$State" "lines" "[[I"]
def wsX5_tell_r5 : List Cond := [Cond.fieldLink RX3 19 "ScoreNumbers$State" "newest" "I", Cond.fieldLink RX3 23 "ScoreNumbers$State" "kept" "I", Cond.fieldLink RX3 26 "ScoreNumbers$State" "patience" "I", Cond.methodLink RX5 128 yX5_heard, Cond.instanceMethod yX5_heard, Cond.selects RX5 yX5_heard yX5_heard, Cond.code yX5_heard cX5_heard 5 (some .int), Cond.fieldLink RX5 41 "ScoreNumbers" "ear" "LScoreNumbers$Ear;", Cond.methodLink RX5 98 yX0_listen, Cond.instanceMethod yX0_listen, Cond.selects RX0 yX0_listen yX0_listen, Cond.initialized RX0, Cond.code yX0_listen cX0_listen 4 none, Cond.fieldLink RX0 7 "ScoreNumbers$Ear" "knowsHalf" "Z", Cond.fieldLink RX0 13 "ScoreNumbers$Ear" "knowsLess" "Z", Cond.fieldLink RX0 16 "ScoreNumbers$Ear" "knowsGreat" "Z", Cond.fieldLink RX0 19 "ScoreNumbers$Ear" "state" "I", Cond.fieldLink RX0 23 "ScoreNumbers$Ear" "isBehindGreat" "Z", Cond.fieldLink RX0 26 "ScoreNumbers$Ear" "isHalved" "Z", Cond.fieldLink RX0 29 "ScoreNumbers$Ear" "isLess" "Z", Cond.fieldLink RX0 32 "ScoreNumbers$Ear" "count" "I", Cond.fieldLink RX0 35 "ScoreNumbers$Ear" "great" "I", Cond.fieldLink RX0 38 "ScoreNumbers$Ear" "base" "I", Cond.fieldLink RX0 41 "ScoreNumbers$Ear" "unit" "I"]
def wsX5_tell_r6 : List Cond := [Cond.methodLink RX5 163 yX0_hear, Cond.instanceMethod yX0_hear, Cond.selects RX0 yX0_hear yX0_hear, Cond.code yX0_hear cX0_hear 6 (some .int), Cond.methodLink RX0 44 yX2_length, Cond.static yX2_length, Cond.code yX2_length cX2_length 3 (some .int), Cond.methodLink RX0 50 yX2_character, Cond.methodLink RX0 54 yX0_take, Cond.instanceMethod yX0_take, Cond.selects RX0 yX0_take yX0_take, Cond.code yX0_take cX0_take 3 (some .boolean), Cond.methodLink RX0 66 yX0_following, Cond.instanceMethod yX0_following, Cond.selects RX0 yX0_following yX0_following, Cond.code yX0_following cX0_following 2 (some .int), Cond.methodLink RX0 74 yX0_afterStart, Cond.instanceMethod yX0_afterStart, Cond.selects RX0 yX0_afterStart yX0_afterStart, Cond.code yX0_afterStart cX0_afterStart 2 (some .int), Cond.methodLink RX0 77 yX0_isCountUnit, Cond.static yX0_isCountUnit, Cond.code yX0_isCountUnit cX0_isCountUnit 1 (some .boolean), Cond.methodLink RX0 80 yX0_afterCount]
def wsX5_tell_r7 : List Cond := [Cond.instanceMethod yX0_afterCount, Cond.selects RX0 yX0_afterCount yX0_afterCount, Cond.code yX0_afterCount cX0_afterCount 2 (some .int), Cond.methodLink RX0 83 yX0_isUnit, Cond.static yX0_isUnit, Cond.code yX0_isUnit cX0_isUnit 1 (some .boolean), Cond.methodLink RX0 86 yX0_afterLess, Cond.instanceMethod yX0_afterLess, Cond.selects RX0 yX0_afterLess yX0_afterLess, Cond.code yX0_afterLess cX0_afterLess 2 (some .int), Cond.methodLink RX0 70 yX0_keep, Cond.instanceMethod yX0_keep, Cond.selects RX0 yX0_keep yX0_keep, Cond.code yX0_keep cX0_keep 2 none, Cond.methodLink RX0 89 yX0_takeUnitAsCount, Cond.instanceMethod yX0_takeUnitAsCount, Cond.selects RX0 yX0_takeUnitAsCount yX0_takeUnitAsCount, Cond.code yX0_takeUnitAsCount cX0_takeUnitAsCount 1 none, Cond.methodLink RX0 92 yX0_scores, Cond.instanceMethod yX0_scores, Cond.selects RX0 yX0_scores yX0_scores, Cond.code yX0_scores cX0_scores 1 (some .int), Cond.methodLink RX0 95 yX0_keepUnit, Cond.instanceMethod yX0_keepUnit]
def wsX5_tell_r8 : List Cond := [Cond.selects RX0 yX0_keepUnit yX0_keepUnit, Cond.code yX0_keepUnit cX0_keepUnit 2 none, Cond.methodLink RX0 58 yX0_isComplete, Cond.instanceMethod yX0_isComplete, Cond.selects RX0 yX0_isComplete yX0_isComplete, Cond.code yX0_isComplete cX0_isComplete 1 (some .boolean), Cond.methodLink RX0 62 yX0_number, Cond.instanceMethod yX0_number, Cond.selects RX0 yX0_number yX0_number, Cond.code yX0_number cX0_number 1 (some .int), Cond.methodLink RX5 166 yX5_doubtWords, Cond.instanceMethod yX5_doubtWords, Cond.selects RX5 yX5_doubtWords yX5_doubtWords, Cond.code yX5_doubtWords cX5_doubtWords 6 (some .boolean), Cond.fieldLink RX5 61 "ScoreNumbers$State" "patience" "I", Cond.methodLink RX5 174 yX5_wordCharacter, Cond.static yX5_wordCharacter, Cond.code yX5_wordCharacter cX5_wordCharacter 1 (some .char), Cond.methodLink RX5 178 yX2_has, Cond.methodLink RX5 170 yX3_nextLine, Cond.instanceMethod yX3_nextLine, Cond.selects RX3 yX3_nextLine yX3_nextLine, Cond.code yX3_nextLine cX3_nextLine 1 (some (.array .int)), Cond.methodLink RX3 35 Lib.Math.min.name]
def wsX5_tell_r9 : List Cond := [Cond.methodLink RX5 116 yX2_length]
def wsX5_tell : List Cond := .code yX5_tell cX5_tell 4 (some .int) :: ((wsX5_tell_r1 ++ (wsX5_tell_r2 ++ (wsX5_tell_r3 ++ (wsX5_tell_r4 ++ (wsX5_tell_r5 ++ (wsX5_tell_r6 ++ (wsX5_tell_r7 ++ (wsX5_tell_r8 ++ wsX5_tell_r9)))))))) ++ wsX50 ++ wsX40 ++ wsX30 ++ wsX10 ++ wsX00)
def wsX5_fault_r1 : List Cond := [Cond.fieldLink RX5 41 "ScoreNumbers" "ear" "LScoreNumbers$Ear;", Cond.fieldLink RX5 27 "ScoreNumbers" "textLength" "I", Cond.fieldLink RX5 23 "ScoreNumbers" "text" "[C", Cond.methodLink RX5 98 yX0_listen, Cond.instanceMethod yX0_listen, Cond.selects RX0 yX0_listen yX0_listen, Cond.initialized RX0, Cond.code yX0_listen cX0_listen 4 none, Cond.fieldLink RX0 7 "ScoreNumbers$Ear" "knowsHalf" "Z", Cond.fieldLink RX0 13 "ScoreNumbers$Ear" "knowsLess" "Z", Cond.fieldLink RX0 16 "ScoreNumbers$Ear" "knowsGreat" "Z", Cond.fieldLink RX0 19 "ScoreNumbers$Ear" "state" "I", Cond.fieldLink RX0 23 "ScoreNumbers$Ear" "isBehindGreat" "Z", Cond.fieldLink RX0 26 "ScoreNumbers$Ear" "isHalved" "Z", Cond.fieldLink RX0 29 "ScoreNumbers$Ear" "isLess" "Z", Cond.fieldLink RX0 32 "ScoreNumbers$Ear" "count" "I", Cond.fieldLink RX0 35 "ScoreNumbers$Ear" "great" "I", Cond.fieldLink RX0 38 "ScoreNumbers$Ear" "base" "I", Cond.fieldLink RX0 41 "ScoreNumbers$Ear" "unit" "I", Cond.methodLink RX5 102 yX0_take, Cond.instanceMethod yX0_take, Cond.selects RX0 yX0_take yX0_take, Cond.code yX0_take cX0_take 3 (some .boolean), Cond.methodLink RX0 66 yX0_following]
def wsX5_fault_r2 : List Cond := [Cond.instanceMethod yX0_following, Cond.selects RX0 yX0_following yX0_following, Cond.code yX0_following cX0_following 2 (some .int), Cond.methodLink RX0 74 yX0_afterStart, Cond.instanceMethod yX0_afterStart, Cond.selects RX0 yX0_afterStart yX0_afterStart, Cond.code yX0_afterStart cX0_afterStart 2 (some .int), Cond.methodLink RX0 77 yX0_isCountUnit, Cond.static yX0_isCountUnit, Cond.code yX0_isCountUnit cX0_isCountUnit 1 (some .boolean), Cond.methodLink RX0 80 yX0_afterCount, Cond.instanceMethod yX0_afterCount, Cond.selects RX0 yX0_afterCount yX0_afterCount, Cond.code yX0_afterCount cX0_afterCount 2 (some .int), Cond.methodLink RX0 83 yX0_isUnit, Cond.static yX0_isUnit, Cond.code yX0_isUnit cX0_isUnit 1 (some .boolean), Cond.methodLink RX0 86 yX0_afterLess, Cond.instanceMethod yX0_afterLess, Cond.selects RX0 yX0_afterLess yX0_afterLess, Cond.code yX0_afterLess cX0_afterLess 2 (some .int), Cond.methodLink RX0 70 yX0_keep, Cond.instanceMethod yX0_keep, Cond.selects RX0 yX0_keep yX0_keep]
def wsX5_fault_r3 : List Cond := [Cond.code yX0_keep cX0_keep 2 none, Cond.methodLink RX0 89 yX0_takeUnitAsCount, Cond.instanceMethod yX0_takeUnitAsCount, Cond.selects RX0 yX0_takeUnitAsCount yX0_takeUnitAsCount, Cond.code yX0_takeUnitAsCount cX0_takeUnitAsCount 1 none, Cond.methodLink RX0 92 yX0_scores, Cond.instanceMethod yX0_scores, Cond.selects RX0 yX0_scores yX0_scores, Cond.code yX0_scores cX0_scores 1 (some .int), Cond.methodLink RX0 95 yX0_keepUnit, Cond.instanceMethod yX0_keepUnit, Cond.selects RX0 yX0_keepUnit yX0_keepUnit, Cond.code yX0_keepUnit cX0_keepUnit 2 none, Cond.methodLink RX5 105 yX0_isComplete, Cond.instanceMethod yX0_isComplete, Cond.selects RX0 yX0_isComplete yX0_isComplete, Cond.code yX0_isComplete cX0_isComplete 1 (some .boolean)]
def wsX5_fault : List Cond := .code yX5_fault cX5_fault 2 (some .int) :: ((wsX5_fault_r1 ++ (wsX5_fault_r2 ++ wsX5_fault_r3)) ++ wsX50 ++ wsX00)
def wsX5_packedText : List Cond := .code yX5_packedText cX5_packedText 4 (some .long) :: ([.fieldLink RX5 27 "ScoreNumbers" "textLength" "I", .fieldLink RX5 23 "ScoreNumbers" "text" "[C", .methodLink RX5 159 yX2_then, .static yX2_then, .initialized RX2, .code yX2_then cX2_then 3 (some .long)] ++ wsX50)
def wsX5_meant_r1 : List Cond := [Cond.fieldLink RX5 41 "ScoreNumbers" "ear" "LScoreNumbers$Ear;", Cond.methodLink RX5 98 yX0_listen, Cond.instanceMethod yX0_listen, Cond.selects RX0 yX0_listen yX0_listen, Cond.initialized RX0, Cond.code yX0_listen cX0_listen 4 none, Cond.fieldLink RX0 7 "ScoreNumbers$Ear" "knowsHalf" "Z", Cond.fieldLink RX0 13 "ScoreNumbers$Ear" "knowsLess" "Z", Cond.fieldLink RX0 16 "ScoreNumbers$Ear" "knowsGreat" "Z", Cond.fieldLink RX0 19 "ScoreNumbers$Ear" "state" "I", Cond.fieldLink RX0 23 "ScoreNumbers$Ear" "isBehindGreat" "Z", Cond.fieldLink RX0 26 "ScoreNumbers$Ear" "isHalved" "Z", Cond.fieldLink RX0 29 "ScoreNumbers$Ear" "isLess" "Z", Cond.fieldLink RX0 32 "ScoreNumbers$Ear" "count" "I", Cond.fieldLink RX0 35 "ScoreNumbers$Ear" "great" "I", Cond.fieldLink RX0 38 "ScoreNumbers$Ear" "base" "I", Cond.fieldLink RX0 41 "ScoreNumbers$Ear" "unit" "I", Cond.methodLink RX5 163 yX0_hear, Cond.instanceMethod yX0_hear, Cond.selects RX0 yX0_hear yX0_hear, Cond.code yX0_hear cX0_hear 6 (some .int), Cond.methodLink RX0 44 yX2_length, Cond.static yX2_length, Cond.initialized RX2]
def wsX5_meant_r2 : List Cond := [Cond.code yX2_length cX2_length 3 (some .int), Cond.methodLink RX0 50 yX2_character, Cond.static yX2_character, Cond.code yX2_character cX2_character 3 (some .int), Cond.methodLink RX0 54 yX0_take, Cond.instanceMethod yX0_take, Cond.selects RX0 yX0_take yX0_take, Cond.code yX0_take cX0_take 3 (some .boolean), Cond.methodLink RX0 66 yX0_following, Cond.instanceMethod yX0_following, Cond.selects RX0 yX0_following yX0_following, Cond.code yX0_following cX0_following 2 (some .int), Cond.methodLink RX0 74 yX0_afterStart, Cond.instanceMethod yX0_afterStart, Cond.selects RX0 yX0_afterStart yX0_afterStart, Cond.code yX0_afterStart cX0_afterStart 2 (some .int), Cond.methodLink RX0 77 yX0_isCountUnit, Cond.static yX0_isCountUnit, Cond.code yX0_isCountUnit cX0_isCountUnit 1 (some .boolean), Cond.methodLink RX0 80 yX0_afterCount, Cond.instanceMethod yX0_afterCount, Cond.selects RX0 yX0_afterCount yX0_afterCount, Cond.code yX0_afterCount cX0_afterCount 2 (some .int), Cond.methodLink RX0 83 yX0_isUnit]
def wsX5_meant_r3 : List Cond := [Cond.static yX0_isUnit, Cond.code yX0_isUnit cX0_isUnit 1 (some .boolean), Cond.methodLink RX0 86 yX0_afterLess, Cond.instanceMethod yX0_afterLess, Cond.selects RX0 yX0_afterLess yX0_afterLess, Cond.code yX0_afterLess cX0_afterLess 2 (some .int), Cond.methodLink RX0 70 yX0_keep, Cond.instanceMethod yX0_keep, Cond.selects RX0 yX0_keep yX0_keep, Cond.code yX0_keep cX0_keep 2 none, Cond.methodLink RX0 89 yX0_takeUnitAsCount, Cond.instanceMethod yX0_takeUnitAsCount, Cond.selects RX0 yX0_takeUnitAsCount yX0_takeUnitAsCount, Cond.code yX0_takeUnitAsCount cX0_takeUnitAsCount 1 none, Cond.methodLink RX0 92 yX0_scores, Cond.instanceMethod yX0_scores, Cond.selects RX0 yX0_scores yX0_scores, Cond.code yX0_scores cX0_scores 1 (some .int), Cond.methodLink RX0 95 yX0_keepUnit, Cond.instanceMethod yX0_keepUnit, Cond.selects RX0 yX0_keepUnit yX0_keepUnit, Cond.code yX0_keepUnit cX0_keepUnit 2 none, Cond.methodLink RX0 58 yX0_isComplete, Cond.instanceMethod yX0_isComplete]
def wsX5_meant_r4 : List Cond := [Cond.selects RX0 yX0_isComplete yX0_isComplete, Cond.code yX0_isComplete cX0_isComplete 1 (some .boolean), Cond.methodLink RX0 62 yX0_number, Cond.instanceMethod yX0_number, Cond.selects RX0 yX0_number yX0_number, Cond.code yX0_number cX0_number 1 (some .int)]
def wsX5_meant : List Cond := .code yX5_meant cX5_meant 3 (some .int) :: ((wsX5_meant_r1 ++ (wsX5_meant_r2 ++ (wsX5_meant_r3 ++ wsX5_meant_r4))) ++ wsX50 ++ wsX00)
def wsX5_tellText_r1 : List Cond := [Cond.methodLink RX5 49 yX5_isHearer, Cond.static yX5_isHearer, Cond.initialized RX5, Cond.code yX5_isHearer cX5_isHearer 1 (some .boolean), Cond.methodLink RX5 86 yX5_fault, Cond.instanceMethod yX5_fault, Cond.selects RX5 yX5_fault yX5_fault, Cond.code yX5_fault cX5_fault 2 (some .int), Cond.fieldLink RX5 41 "ScoreNumbers" "ear" "LScoreNumbers$Ear;", Cond.fieldLink RX5 27 "ScoreNumbers" "textLength" "I", Cond.fieldLink RX5 23 "ScoreNumbers" "text" "[C", Cond.methodLink RX5 98 yX0_listen, Cond.instanceMethod yX0_listen, Cond.selects RX0 yX0_listen yX0_listen, Cond.initialized RX0, Cond.code yX0_listen cX0_listen 4 none, Cond.fieldLink RX0 7 "ScoreNumbers$Ear" "knowsHalf" "Z", Cond.fieldLink RX0 13 "ScoreNumbers$Ear" "knowsLess" "Z", Cond.fieldLink RX0 16 "ScoreNumbers$Ear" "knowsGreat" "Z", Cond.fieldLink RX0 19 "ScoreNumbers$Ear" "state" "I", Cond.fieldLink RX0 23 "ScoreNumbers$Ear" "isBehindGreat" "Z", Cond.fieldLink RX0 26 "ScoreNumbers$Ear" "isHalved" "Z", Cond.fieldLink RX0 29 "ScoreNumbers$Ear" "isLess" "Z", Cond.fieldLink RX0 32 "ScoreNumbers$Ear" "count" "I"]
def wsX5_tellText_r2 : List Cond := [Cond.fieldLink RX0 35 "ScoreNumbers$Ear" "great" "I", Cond.fieldLink RX0 38 "ScoreNumbers$Ear" "base" "I", Cond.fieldLink RX0 41 "ScoreNumbers$Ear" "unit" "I", Cond.methodLink RX5 102 yX0_take, Cond.instanceMethod yX0_take, Cond.selects RX0 yX0_take yX0_take, Cond.code yX0_take cX0_take 3 (some .boolean), Cond.methodLink RX0 66 yX0_following, Cond.instanceMethod yX0_following, Cond.selects RX0 yX0_following yX0_following, Cond.code yX0_following cX0_following 2 (some .int), Cond.methodLink RX0 74 yX0_afterStart, Cond.instanceMethod yX0_afterStart, Cond.selects RX0 yX0_afterStart yX0_afterStart, Cond.code yX0_afterStart cX0_afterStart 2 (some .int), Cond.methodLink RX0 77 yX0_isCountUnit, Cond.static yX0_isCountUnit, Cond.code yX0_isCountUnit cX0_isCountUnit 1 (some .boolean), Cond.methodLink RX0 80 yX0_afterCount, Cond.instanceMethod yX0_afterCount, Cond.selects RX0 yX0_afterCount yX0_afterCount, Cond.code yX0_afterCount cX0_afterCount 2 (some .int), Cond.methodLink RX0 83 yX0_isUnit, Cond.static yX0_isUnit]
def wsX5_tellText_r3 : List Cond := [Cond.code yX0_isUnit cX0_isUnit 1 (some .boolean), Cond.methodLink RX0 86 yX0_afterLess, Cond.instanceMethod yX0_afterLess, Cond.selects RX0 yX0_afterLess yX0_afterLess, Cond.code yX0_afterLess cX0_afterLess 2 (some .int), Cond.methodLink RX0 70 yX0_keep, Cond.instanceMethod yX0_keep, Cond.selects RX0 yX0_keep yX0_keep, Cond.code yX0_keep cX0_keep 2 none, Cond.methodLink RX0 89 yX0_takeUnitAsCount, Cond.instanceMethod yX0_takeUnitAsCount, Cond.selects RX0 yX0_takeUnitAsCount yX0_takeUnitAsCount, Cond.code yX0_takeUnitAsCount cX0_takeUnitAsCount 1 none, Cond.methodLink RX0 92 yX0_scores, Cond.instanceMethod yX0_scores, Cond.selects RX0 yX0_scores yX0_scores, Cond.code yX0_scores cX0_scores 1 (some .int), Cond.methodLink RX0 95 yX0_keepUnit, Cond.instanceMethod yX0_keepUnit, Cond.selects RX0 yX0_keepUnit yX0_keepUnit, Cond.code yX0_keepUnit cX0_keepUnit 2 none, Cond.methodLink RX5 105 yX0_isComplete, Cond.instanceMethod yX0_isComplete, Cond.selects RX0 yX0_isComplete yX0_isComplete]
def wsX5_tellText_r4 : List Cond := [Cond.code yX0_isComplete cX0_isComplete 1 (some .boolean), Cond.methodLink RX5 90 yX5_packedText, Cond.instanceMethod yX5_packedText, Cond.selects RX5 yX5_packedText yX5_packedText, Cond.code yX5_packedText cX5_packedText 4 (some .long), Cond.methodLink RX5 159 yX2_then, Cond.static yX2_then, Cond.initialized RX2, Cond.code yX2_then cX2_then 3 (some .long), Cond.methodLink RX5 94 yX5_meant, Cond.instanceMethod yX5_meant, Cond.selects RX5 yX5_meant yX5_meant, Cond.code yX5_meant cX5_meant 3 (some .int), Cond.methodLink RX5 163 yX0_hear, Cond.instanceMethod yX0_hear, Cond.selects RX0 yX0_hear yX0_hear, Cond.code yX0_hear cX0_hear 6 (some .int), Cond.methodLink RX0 44 yX2_length, Cond.static yX2_length, Cond.code yX2_length cX2_length 3 (some .int), Cond.methodLink RX0 50 yX2_character, Cond.static yX2_character, Cond.code yX2_character cX2_character 3 (some .int), Cond.methodLink RX0 54 yX0_take]
def wsX5_tellText_r5 : List Cond := [Cond.methodLink RX0 58 yX0_isComplete, Cond.methodLink RX0 62 yX0_number, Cond.instanceMethod yX0_number, Cond.selects RX0 yX0_number yX0_number, Cond.code yX0_number cX0_number 1 (some .int), Cond.methodLink RX5 82 yX5_say, Cond.instanceMethod yX5_say, Cond.selects RX5 yX5_say yX5_say, Cond.code yX5_say cX5_say 10 (some .int), Cond.fieldLink RX5 19 "ScoreNumbers" "history" "LScoreNumbers$History;", Cond.fieldLink RX5 10 "ScoreNumbers" "now" "LScoreNumbers$State;", Cond.fieldLink RX5 57 "ScoreNumbers$State" "hearers" "[[I", Cond.methodLink RX5 53 yX1_record, Cond.instanceMethod yX1_record, Cond.selects RX1 yX1_record yX1_record, Cond.initialized RX1, Cond.code yX1_record cX1_record 2 none, Cond.fieldLink RX1 17 "ScoreNumbers$History" "free" "I", Cond.fieldLink RX1 13 "ScoreNumbers$History" "states" "[LScoreNumbers$State;", Cond.fieldLink RX1 21 "ScoreNumbers$History" "held" "I", Cond.methodLink RX1 29 Lib.Math.min.name, Cond.static Lib.Math.min.name, Cond.initialized "java/lang/Math", Cond.code Lib.Math.min.name Lib.Math.min.code 2 (some .int)]
def wsX5_tellText_r6 : List Cond := [Cond.methodLink RX1 25 yX3_copyFrom, Cond.instanceMethod yX3_copyFrom, Cond.selects RX3 yX3_copyFrom yX3_copyFrom, Cond.initialized RX3, Cond.code yX3_copyFrom cX3_copyFrom 3 none, Cond.fieldLink RX3 11 "ScoreNumbers$State" "hearers" "[[I", Cond.methodLink RX3 29 arraycopyName, Cond.native arraycopyName, Cond.static arraycopyName, Cond.initialized "java/lang/System", Cond.fieldLink RX3 16 "ScoreNumbers$State" "lines" "[[I", Cond.fieldLink RX3 19 "ScoreNumbers$State" "newest" "I", Cond.fieldLink RX3 23 "ScoreNumbers$State" "kept" "I", Cond.fieldLink RX3 26 "ScoreNumbers$State" "patience" "I", Cond.methodLink RX5 128 yX5_heard, Cond.instanceMethod yX5_heard, Cond.selects RX5 yX5_heard yX5_heard, Cond.code yX5_heard cX5_heard 5 (some .int), Cond.methodLink RX5 166 yX5_doubtWords, Cond.instanceMethod yX5_doubtWords, Cond.selects RX5 yX5_doubtWords yX5_doubtWords, Cond.code yX5_doubtWords cX5_doubtWords 6 (some .boolean), Cond.fieldLink RX5 61 "ScoreNumbers$State" "patience" "I", Cond.methodLink RX5 174 yX5_wordCharacter]
def wsX5_tellText_r7 : List Cond := [Cond.static yX5_wordCharacter, Cond.code yX5_wordCharacter cX5_wordCharacter 1 (some .char), Cond.methodLink RX5 178 yX2_has, Cond.static yX2_has, Cond.code yX2_has cX2_has 4 (some .boolean), Cond.methodLink RX2 9 yX2_character, Cond.methodLink RX5 170 yX3_nextLine, Cond.instanceMethod yX3_nextLine, Cond.selects RX3 yX3_nextLine yX3_nextLine, Cond.code yX3_nextLine cX3_nextLine 1 (some (.array .int)), Cond.methodLink RX3 35 Lib.Math.min.name, Cond.methodLink RX5 116 yX2_length]
def wsX5_tellText : List Cond := .code yX5_tellText cX5_tellText 4 (some .int) :: ((wsX5_tellText_r1 ++ (wsX5_tellText_r2 ++ (wsX5_tellText_r3 ++ (wsX5_tellText_r4 ++ (wsX5_tellText_r5 ++ (wsX5_tellText_r6 ++ wsX5_tellText_r7)))))) ++ wsX50 ++ wsX00 ++ wsX30 ++ wsX10)
def wsX5_append : List Cond := .code yX5_append cX5_append 2 (some .int) :: ([.fieldLink RX5 27 "ScoreNumbers" "textLength" "I", .fieldLink RX5 23 "ScoreNumbers" "text" "[C"] ++ wsX50)
def wsX5_clearText : List Cond := .code yX5_clearText cX5_clearText 2 (some .int) :: ([.fieldLink RX5 27 "ScoreNumbers" "textLength" "I"] ++ wsX50)
def wsX5_meaning_r1 : List Cond := [Cond.methodLink RX5 86 yX5_fault, Cond.instanceMethod yX5_fault, Cond.selects RX5 yX5_fault yX5_fault, Cond.initialized RX5, Cond.code yX5_fault cX5_fault 2 (some .int), Cond.fieldLink RX5 41 "ScoreNumbers" "ear" "LScoreNumbers$Ear;", Cond.fieldLink RX5 27 "ScoreNumbers" "textLength" "I", Cond.fieldLink RX5 23 "ScoreNumbers" "text" "[C", Cond.methodLink RX5 98 yX0_listen, Cond.instanceMethod yX0_listen, Cond.selects RX0 yX0_listen yX0_listen, Cond.initialized RX0, Cond.code yX0_listen cX0_listen 4 none, Cond.fieldLink RX0 7 "ScoreNumbers$Ear" "knowsHalf" "Z", Cond.fieldLink RX0 13 "ScoreNumbers$Ear" "knowsLess" "Z", Cond.fieldLink RX0 16 "ScoreNumbers$Ear" "knowsGreat" "Z", Cond.fieldLink RX0 19 "ScoreNumbers$Ear" "state" "I", Cond.fieldLink RX0 23 "ScoreNumbers$Ear" "isBehindGreat" "Z", Cond.fieldLink RX0 26 "ScoreNumbers$Ear" "isHalved" "Z", Cond.fieldLink RX0 29 "ScoreNumbers$Ear" "isLess" "Z", Cond.fieldLink RX0 32 "ScoreNumbers$Ear" "count" "I", Cond.fieldLink RX0 35 "ScoreNumbers$Ear" "great" "I", Cond.fieldLink RX0 38 "ScoreNumbers$Ear" "base" "I", Cond.fieldLink RX0 41 "ScoreNumbers$Ear" "unit" "I"]
def wsX5_meaning_r2 : List Cond := [Cond.methodLink RX5 102 yX0_take, Cond.instanceMethod yX0_take, Cond.selects RX0 yX0_take yX0_take, Cond.code yX0_take cX0_take 3 (some .boolean), Cond.methodLink RX0 66 yX0_following, Cond.instanceMethod yX0_following, Cond.selects RX0 yX0_following yX0_following, Cond.code yX0_following cX0_following 2 (some .int), Cond.methodLink RX0 74 yX0_afterStart, Cond.instanceMethod yX0_afterStart, Cond.selects RX0 yX0_afterStart yX0_afterStart, Cond.code yX0_afterStart cX0_afterStart 2 (some .int), Cond.methodLink RX0 77 yX0_isCountUnit, Cond.static yX0_isCountUnit, Cond.code yX0_isCountUnit cX0_isCountUnit 1 (some .boolean), Cond.methodLink RX0 80 yX0_afterCount, Cond.instanceMethod yX0_afterCount, Cond.selects RX0 yX0_afterCount yX0_afterCount, Cond.code yX0_afterCount cX0_afterCount 2 (some .int), Cond.methodLink RX0 83 yX0_isUnit, Cond.static yX0_isUnit, Cond.code yX0_isUnit cX0_isUnit 1 (some .boolean), Cond.methodLink RX0 86 yX0_afterLess, Cond.instanceMethod yX0_afterLess]
def wsX5_meaning_r3 : List Cond := [Cond.selects RX0 yX0_afterLess yX0_afterLess, Cond.code yX0_afterLess cX0_afterLess 2 (some .int), Cond.methodLink RX0 70 yX0_keep, Cond.instanceMethod yX0_keep, Cond.selects RX0 yX0_keep yX0_keep, Cond.code yX0_keep cX0_keep 2 none, Cond.methodLink RX0 89 yX0_takeUnitAsCount, Cond.instanceMethod yX0_takeUnitAsCount, Cond.selects RX0 yX0_takeUnitAsCount yX0_takeUnitAsCount, Cond.code yX0_takeUnitAsCount cX0_takeUnitAsCount 1 none, Cond.methodLink RX0 92 yX0_scores, Cond.instanceMethod yX0_scores, Cond.selects RX0 yX0_scores yX0_scores, Cond.code yX0_scores cX0_scores 1 (some .int), Cond.methodLink RX0 95 yX0_keepUnit, Cond.instanceMethod yX0_keepUnit, Cond.selects RX0 yX0_keepUnit yX0_keepUnit, Cond.code yX0_keepUnit cX0_keepUnit 2 none, Cond.methodLink RX5 105 yX0_isComplete, Cond.instanceMethod yX0_isComplete, Cond.selects RX0 yX0_isComplete yX0_isComplete, Cond.code yX0_isComplete cX0_isComplete 1 (some .boolean), Cond.methodLink RX5 90 yX5_packedText, Cond.instanceMethod yX5_packedText]
def wsX5_meaning_r4 : List Cond := [Cond.selects RX5 yX5_packedText yX5_packedText, Cond.code yX5_packedText cX5_packedText 4 (some .long), Cond.methodLink RX5 159 yX2_then, Cond.static yX2_then, Cond.initialized RX2, Cond.code yX2_then cX2_then 3 (some .long), Cond.methodLink RX5 94 yX5_meant, Cond.instanceMethod yX5_meant, Cond.selects RX5 yX5_meant yX5_meant, Cond.code yX5_meant cX5_meant 3 (some .int), Cond.methodLink RX5 163 yX0_hear, Cond.instanceMethod yX0_hear, Cond.selects RX0 yX0_hear yX0_hear, Cond.code yX0_hear cX0_hear 6 (some .int), Cond.methodLink RX0 44 yX2_length, Cond.static yX2_length, Cond.code yX2_length cX2_length 3 (some .int), Cond.methodLink RX0 50 yX2_character, Cond.static yX2_character, Cond.code yX2_character cX2_character 3 (some .int), Cond.methodLink RX0 54 yX0_take, Cond.methodLink RX0 58 yX0_isComplete, Cond.methodLink RX0 62 yX0_number, Cond.instanceMethod yX0_number]
def wsX5_meaning_r5 : List Cond := [Cond.selects RX0 yX0_number yX0_number, Cond.code yX0_number cX0_number 1 (some .int)]
def wsX5_meaning : List Cond := .code yX5_meaning cX5_meaning 1 (some .int) :: ((wsX5_meaning_r1 ++ (wsX5_meaning_r2 ++ (wsX5_meaning_r3 ++ (wsX5_meaning_r4 ++ wsX5_meaning_r5)))) ++ wsX50 ++ wsX00)
def wsX5_undo : List Cond := .code yX5_undo cX5_undo 1 (some .int) :: ([.fieldLink RX5 19 "ScoreNumbers" "history" "LScoreNumbers$History;", .fieldLink RX5 10 "ScoreNumbers" "now" "LScoreNumbers$State;", .methodLink RX5 109 yX1_restore, .instanceMethod yX1_restore, .selects RX1 yX1_restore yX1_restore, .initialized RX1, .code yX1_restore cX1_restore 3 (some .int), .fieldLink RX1 21 "ScoreNumbers$History" "held" "I", .fieldLink RX1 17 "ScoreNumbers$History" "free" "I", .fieldLink RX1 13 "ScoreNumbers$History" "states" "[LScoreNumbers$State;", .methodLink RX1 25 yX3_copyFrom, .instanceMethod yX3_copyFrom, .selects RX3 yX3_copyFrom yX3_copyFrom, .initialized RX3, .code yX3_copyFrom cX3_copyFrom 3 none, .fieldLink RX3 11 "ScoreNumbers$State" "hearers" "[[I", .methodLink RX3 29 arraycopyName, .native arraycopyName, .static arraycopyName, .initialized "java/lang/System", .fieldLink RX3 16 "ScoreNumbers$State" "lines" "[[I", .fieldLink RX3 19 "ScoreNumbers$State" "newest" "I", .fieldLink RX3 23 "ScoreNumbers$State" "kept" "I", .fieldLink RX3 26 "ScoreNumbers$State" "patience" "I"] ++ wsX50 ++ wsX10 ++ wsX30)
def wsX5_ways_r1 : List Cond := [Cond.fieldLink RX5 34 "ScoreNumbers" "found" "LScoreNumbers$Ways;", Cond.fieldLink RX5 113 "ScoreNumbers$Ways" "many" "I", Cond.methodLink RX5 67 yX5_isNumber, Cond.static yX5_isNumber, Cond.initialized RX5, Cond.code yX5_isNumber cX5_isNumber 1 (some .boolean), Cond.methodLink RX5 70 yX4_find, Cond.instanceMethod yX4_find, Cond.selects RX4 yX4_find yX4_find, Cond.initialized RX4, Cond.code yX4_find cX4_find 5 none, Cond.fieldLink RX4 13 "ScoreNumbers$Ways" "many" "I", Cond.methodLink RX4 23 Lib.Math.max.name, Cond.static Lib.Math.max.name, Cond.initialized "java/lang/Math", Cond.code Lib.Math.max.name Lib.Math.max.code 2 (some .int), Cond.methodLink RX4 29 Lib.Math.min.name, Cond.static Lib.Math.min.name, Cond.code Lib.Math.min.name Lib.Math.min.code 2 (some .int), Cond.methodLink RX4 19 yX4_addSmalls, Cond.instanceMethod yX4_addSmalls, Cond.selects RX4 yX4_addSmalls yX4_addSmalls, Cond.code yX4_addSmalls cX4_addSmalls 7 none, Cond.methodLink RX4 60 yX4_unit]
def wsX5_ways_r2 : List Cond := [Cond.static yX4_unit, Cond.code yX4_unit cX4_unit 1 (some .int), Cond.methodLink RX4 56 yX2_then, Cond.static yX2_then, Cond.initialized RX2, Cond.code yX2_then cX2_then 3 (some .long), Cond.methodLink RX4 52 yX4_add, Cond.instanceMethod yX4_add, Cond.selects RX4 yX4_add yX4_add, Cond.code yX4_add cX4_add 4 none, Cond.fieldLink RX4 9 "ScoreNumbers$Ways" "said" "[J", Cond.methodLink RX4 64 yX4_addWithBase, Cond.instanceMethod yX4_addWithBase, Cond.selects RX4 yX4_addWithBase yX4_addWithBase, Cond.code yX4_addWithBase cX4_addWithBase 8 none, Cond.methodLink RX4 48 yX4_counted, Cond.static yX4_counted, Cond.code yX4_counted cX4_counted 6 (some .long), Cond.methodLink RX4 32 yX4_addGreat, Cond.instanceMethod yX4_addGreat, Cond.selects RX4 yX4_addGreat yX4_addGreat, Cond.code yX4_addGreat cX4_addGreat 5 none]
def wsX5_ways : List Cond := .code yX5_ways cX5_ways 2 (some .int) :: ((wsX5_ways_r1 ++ wsX5_ways_r2) ++ wsX50 ++ wsX40)
def wsX5_wayLength_r1 : List Cond := [Cond.fieldLink RX5 34 "ScoreNumbers" "found" "LScoreNumbers$Ways;", Cond.fieldLink RX5 113 "ScoreNumbers$Ways" "many" "I", Cond.methodLink RX5 67 yX5_isNumber, Cond.static yX5_isNumber, Cond.initialized RX5, Cond.code yX5_isNumber cX5_isNumber 1 (some .boolean), Cond.methodLink RX5 70 yX4_find, Cond.instanceMethod yX4_find, Cond.selects RX4 yX4_find yX4_find, Cond.initialized RX4, Cond.code yX4_find cX4_find 5 none, Cond.fieldLink RX4 13 "ScoreNumbers$Ways" "many" "I", Cond.methodLink RX4 23 Lib.Math.max.name, Cond.static Lib.Math.max.name, Cond.initialized "java/lang/Math", Cond.code Lib.Math.max.name Lib.Math.max.code 2 (some .int), Cond.methodLink RX4 29 Lib.Math.min.name, Cond.static Lib.Math.min.name, Cond.code Lib.Math.min.name Lib.Math.min.code 2 (some .int), Cond.methodLink RX4 19 yX4_addSmalls, Cond.instanceMethod yX4_addSmalls, Cond.selects RX4 yX4_addSmalls yX4_addSmalls, Cond.code yX4_addSmalls cX4_addSmalls 7 none, Cond.methodLink RX4 60 yX4_unit]
def wsX5_wayLength_r2 : List Cond := [Cond.static yX4_unit, Cond.code yX4_unit cX4_unit 1 (some .int), Cond.methodLink RX4 56 yX2_then, Cond.static yX2_then, Cond.initialized RX2, Cond.code yX2_then cX2_then 3 (some .long), Cond.methodLink RX4 52 yX4_add, Cond.instanceMethod yX4_add, Cond.selects RX4 yX4_add yX4_add, Cond.code yX4_add cX4_add 4 none, Cond.fieldLink RX4 9 "ScoreNumbers$Ways" "said" "[J", Cond.methodLink RX4 64 yX4_addWithBase, Cond.instanceMethod yX4_addWithBase, Cond.selects RX4 yX4_addWithBase yX4_addWithBase, Cond.code yX4_addWithBase cX4_addWithBase 8 none, Cond.methodLink RX4 48 yX4_counted, Cond.static yX4_counted, Cond.code yX4_counted cX4_counted 6 (some .long), Cond.methodLink RX4 32 yX4_addGreat, Cond.instanceMethod yX4_addGreat, Cond.selects RX4 yX4_addGreat yX4_addGreat, Cond.code yX4_addGreat cX4_addGreat 5 none, Cond.methodLink RX5 78 yX4_at, Cond.instanceMethod yX4_at]
def wsX5_wayLength_r3 : List Cond := [Cond.selects RX4 yX4_at yX4_at, Cond.code yX4_at cX4_at 2 (some .long), Cond.methodLink RX5 116 yX2_length, Cond.static yX2_length, Cond.code yX2_length cX2_length 3 (some .int)]
def wsX5_wayLength : List Cond := .code yX5_wayLength cX5_wayLength 3 (some .int) :: ((wsX5_wayLength_r1 ++ (wsX5_wayLength_r2 ++ wsX5_wayLength_r3)) ++ wsX50 ++ wsX40)
def wsX5_wayAt_r1 : List Cond := [Cond.fieldLink RX5 34 "ScoreNumbers" "found" "LScoreNumbers$Ways;", Cond.fieldLink RX5 113 "ScoreNumbers$Ways" "many" "I", Cond.methodLink RX5 67 yX5_isNumber, Cond.static yX5_isNumber, Cond.initialized RX5, Cond.code yX5_isNumber cX5_isNumber 1 (some .boolean), Cond.methodLink RX5 70 yX4_find, Cond.instanceMethod yX4_find, Cond.selects RX4 yX4_find yX4_find, Cond.initialized RX4, Cond.code yX4_find cX4_find 5 none, Cond.fieldLink RX4 13 "ScoreNumbers$Ways" "many" "I", Cond.methodLink RX4 23 Lib.Math.max.name, Cond.static Lib.Math.max.name, Cond.initialized "java/lang/Math", Cond.code Lib.Math.max.name Lib.Math.max.code 2 (some .int), Cond.methodLink RX4 29 Lib.Math.min.name, Cond.static Lib.Math.min.name, Cond.code Lib.Math.min.name Lib.Math.min.code 2 (some .int), Cond.methodLink RX4 19 yX4_addSmalls, Cond.instanceMethod yX4_addSmalls, Cond.selects RX4 yX4_addSmalls yX4_addSmalls, Cond.code yX4_addSmalls cX4_addSmalls 7 none, Cond.methodLink RX4 60 yX4_unit]
def wsX5_wayAt_r2 : List Cond := [Cond.static yX4_unit, Cond.code yX4_unit cX4_unit 1 (some .int), Cond.methodLink RX4 56 yX2_then, Cond.static yX2_then, Cond.initialized RX2, Cond.code yX2_then cX2_then 3 (some .long), Cond.methodLink RX4 52 yX4_add, Cond.instanceMethod yX4_add, Cond.selects RX4 yX4_add yX4_add, Cond.code yX4_add cX4_add 4 none, Cond.fieldLink RX4 9 "ScoreNumbers$Ways" "said" "[J", Cond.methodLink RX4 64 yX4_addWithBase, Cond.instanceMethod yX4_addWithBase, Cond.selects RX4 yX4_addWithBase yX4_addWithBase, Cond.code yX4_addWithBase cX4_addWithBase 8 none, Cond.methodLink RX4 48 yX4_counted, Cond.static yX4_counted, Cond.code yX4_counted cX4_counted 6 (some .long), Cond.methodLink RX4 32 yX4_addGreat, Cond.instanceMethod yX4_addGreat, Cond.selects RX4 yX4_addGreat yX4_addGreat, Cond.code yX4_addGreat cX4_addGreat 5 none, Cond.methodLink RX5 78 yX4_at, Cond.instanceMethod yX4_at]
def wsX5_wayAt_r3 : List Cond := [Cond.selects RX4 yX4_at yX4_at, Cond.code yX4_at cX4_at 2 (some .long), Cond.methodLink RX5 116 yX2_length, Cond.static yX2_length, Cond.code yX2_length cX2_length 3 (some .int), Cond.methodLink RX5 121 yX2_character, Cond.static yX2_character, Cond.code yX2_character cX2_character 3 (some .int)]
def wsX5_wayAt : List Cond := .code yX5_wayAt cX5_wayAt 7 (some .int) :: ((wsX5_wayAt_r1 ++ (wsX5_wayAt_r2 ++ wsX5_wayAt_r3)) ++ wsX50 ++ wsX40)
def wsX5_styled_r1 : List Cond := [Cond.fieldLink RX5 34 "ScoreNumbers" "found" "LScoreNumbers$Ways;", Cond.methodLink RX5 64 yX5_isStyle, Cond.static yX5_isStyle, Cond.initialized RX5, Cond.code yX5_isStyle cX5_isStyle 1 (some .boolean), Cond.methodLink RX5 67 yX5_isNumber, Cond.static yX5_isNumber, Cond.code yX5_isNumber cX5_isNumber 1 (some .boolean), Cond.methodLink RX5 70 yX4_find, Cond.instanceMethod yX4_find, Cond.selects RX4 yX4_find yX4_find, Cond.initialized RX4, Cond.code yX4_find cX4_find 5 none, Cond.fieldLink RX4 13 "ScoreNumbers$Ways" "many" "I", Cond.methodLink RX4 23 Lib.Math.max.name, Cond.static Lib.Math.max.name, Cond.initialized "java/lang/Math", Cond.code Lib.Math.max.name Lib.Math.max.code 2 (some .int), Cond.methodLink RX4 29 Lib.Math.min.name, Cond.static Lib.Math.min.name, Cond.code Lib.Math.min.name Lib.Math.min.code 2 (some .int), Cond.methodLink RX4 19 yX4_addSmalls, Cond.instanceMethod yX4_addSmalls, Cond.selects RX4 yX4_addSmalls yX4_addSmalls]
def wsX5_styled_r2 : List Cond := [Cond.code yX4_addSmalls cX4_addSmalls 7 none, Cond.methodLink RX4 60 yX4_unit, Cond.static yX4_unit, Cond.code yX4_unit cX4_unit 1 (some .int), Cond.methodLink RX4 56 yX2_then, Cond.static yX2_then, Cond.initialized RX2, Cond.code yX2_then cX2_then 3 (some .long), Cond.methodLink RX4 52 yX4_add, Cond.instanceMethod yX4_add, Cond.selects RX4 yX4_add yX4_add, Cond.code yX4_add cX4_add 4 none, Cond.fieldLink RX4 9 "ScoreNumbers$Ways" "said" "[J", Cond.methodLink RX4 64 yX4_addWithBase, Cond.instanceMethod yX4_addWithBase, Cond.selects RX4 yX4_addWithBase yX4_addWithBase, Cond.code yX4_addWithBase cX4_addWithBase 8 none, Cond.methodLink RX4 48 yX4_counted, Cond.static yX4_counted, Cond.code yX4_counted cX4_counted 6 (some .long), Cond.methodLink RX4 32 yX4_addGreat, Cond.instanceMethod yX4_addGreat, Cond.selects RX4 yX4_addGreat yX4_addGreat, Cond.code yX4_addGreat cX4_addGreat 5 none]
def wsX5_styled_r3 : List Cond := [Cond.methodLink RX5 74 yX4_placeOfStyle, Cond.instanceMethod yX4_placeOfStyle, Cond.selects RX4 yX4_placeOfStyle yX4_placeOfStyle, Cond.code yX4_placeOfStyle cX4_placeOfStyle 3 (some .int), Cond.methodLink RX4 36 yX4_at, Cond.instanceMethod yX4_at, Cond.selects RX4 yX4_at yX4_at, Cond.code yX4_at cX4_at 2 (some .long), Cond.methodLink RX4 40 yX4_isOfStyle, Cond.static yX4_isOfStyle, Cond.code yX4_isOfStyle cX4_isOfStyle 3 (some .boolean), Cond.methodLink RX4 44 yX2_has, Cond.static yX2_has, Cond.code yX2_has cX2_has 4 (some .boolean), Cond.methodLink RX2 9 yX2_character, Cond.static yX2_character, Cond.code yX2_character cX2_character 3 (some .int)]
def wsX5_styled : List Cond := .code yX5_styled cX5_styled 3 (some .int) :: ((wsX5_styled_r1 ++ (wsX5_styled_r2 ++ wsX5_styled_r3)) ++ wsX50 ++ wsX40)
def wsX5_placeOfText_r1 : List Cond := [Cond.fieldLink RX5 34 "ScoreNumbers" "found" "LScoreNumbers$Ways;", Cond.methodLink RX5 86 yX5_fault, Cond.instanceMethod yX5_fault, Cond.selects RX5 yX5_fault yX5_fault, Cond.initialized RX5, Cond.code yX5_fault cX5_fault 2 (some .int), Cond.fieldLink RX5 41 "ScoreNumbers" "ear" "LScoreNumbers$Ear;", Cond.fieldLink RX5 27 "ScoreNumbers" "textLength" "I", Cond.fieldLink RX5 23 "ScoreNumbers" "text" "[C", Cond.methodLink RX5 98 yX0_listen, Cond.instanceMethod yX0_listen, Cond.selects RX0 yX0_listen yX0_listen, Cond.initialized RX0, Cond.code yX0_listen cX0_listen 4 none, Cond.fieldLink RX0 7 "ScoreNumbers$Ear" "knowsHalf" "Z", Cond.fieldLink RX0 13 "ScoreNumbers$Ear" "knowsLess" "Z", Cond.fieldLink RX0 16 "ScoreNumbers$Ear" "knowsGreat" "Z", Cond.fieldLink RX0 19 "ScoreNumbers$Ear" "state" "I", Cond.fieldLink RX0 23 "ScoreNumbers$Ear" "isBehindGreat" "Z", Cond.fieldLink RX0 26 "ScoreNumbers$Ear" "isHalved" "Z", Cond.fieldLink RX0 29 "ScoreNumbers$Ear" "isLess" "Z", Cond.fieldLink RX0 32 "ScoreNumbers$Ear" "count" "I", Cond.fieldLink RX0 35 "ScoreNumbers$Ear" "great" "I", Cond.fieldLink RX0 38 "ScoreNumbers$Ear" "base" "I"]
def wsX5_placeOfText_r2 : List Cond := [Cond.fieldLink RX0 41 "ScoreNumbers$Ear" "unit" "I", Cond.methodLink RX5 102 yX0_take, Cond.instanceMethod yX0_take, Cond.selects RX0 yX0_take yX0_take, Cond.code yX0_take cX0_take 3 (some .boolean), Cond.methodLink RX0 66 yX0_following, Cond.instanceMethod yX0_following, Cond.selects RX0 yX0_following yX0_following, Cond.code yX0_following cX0_following 2 (some .int), Cond.methodLink RX0 74 yX0_afterStart, Cond.instanceMethod yX0_afterStart, Cond.selects RX0 yX0_afterStart yX0_afterStart, Cond.code yX0_afterStart cX0_afterStart 2 (some .int), Cond.methodLink RX0 77 yX0_isCountUnit, Cond.static yX0_isCountUnit, Cond.code yX0_isCountUnit cX0_isCountUnit 1 (some .boolean), Cond.methodLink RX0 80 yX0_afterCount, Cond.instanceMethod yX0_afterCount, Cond.selects RX0 yX0_afterCount yX0_afterCount, Cond.code yX0_afterCount cX0_afterCount 2 (some .int), Cond.methodLink RX0 83 yX0_isUnit, Cond.static yX0_isUnit, Cond.code yX0_isUnit cX0_isUnit 1 (some .boolean), Cond.methodLink RX0 86 yX0_afterLess]
def wsX5_placeOfText_r3 : List Cond := [Cond.instanceMethod yX0_afterLess, Cond.selects RX0 yX0_afterLess yX0_afterLess, Cond.code yX0_afterLess cX0_afterLess 2 (some .int), Cond.methodLink RX0 70 yX0_keep, Cond.instanceMethod yX0_keep, Cond.selects RX0 yX0_keep yX0_keep, Cond.code yX0_keep cX0_keep 2 none, Cond.methodLink RX0 89 yX0_takeUnitAsCount, Cond.instanceMethod yX0_takeUnitAsCount, Cond.selects RX0 yX0_takeUnitAsCount yX0_takeUnitAsCount, Cond.code yX0_takeUnitAsCount cX0_takeUnitAsCount 1 none, Cond.methodLink RX0 92 yX0_scores, Cond.instanceMethod yX0_scores, Cond.selects RX0 yX0_scores yX0_scores, Cond.code yX0_scores cX0_scores 1 (some .int), Cond.methodLink RX0 95 yX0_keepUnit, Cond.instanceMethod yX0_keepUnit, Cond.selects RX0 yX0_keepUnit yX0_keepUnit, Cond.code yX0_keepUnit cX0_keepUnit 2 none, Cond.methodLink RX5 105 yX0_isComplete, Cond.instanceMethod yX0_isComplete, Cond.selects RX0 yX0_isComplete yX0_isComplete, Cond.code yX0_isComplete cX0_isComplete 1 (some .boolean), Cond.methodLink RX5 90 yX5_packedText]
def wsX5_placeOfText_r4 : List Cond := [Cond.instanceMethod yX5_packedText, Cond.selects RX5 yX5_packedText yX5_packedText, Cond.code yX5_packedText cX5_packedText 4 (some .long), Cond.methodLink RX5 159 yX2_then, Cond.static yX2_then, Cond.initialized RX2, Cond.code yX2_then cX2_then 3 (some .long), Cond.methodLink RX5 94 yX5_meant, Cond.instanceMethod yX5_meant, Cond.selects RX5 yX5_meant yX5_meant, Cond.code yX5_meant cX5_meant 3 (some .int), Cond.methodLink RX5 163 yX0_hear, Cond.instanceMethod yX0_hear, Cond.selects RX0 yX0_hear yX0_hear, Cond.code yX0_hear cX0_hear 6 (some .int), Cond.methodLink RX0 44 yX2_length, Cond.static yX2_length, Cond.code yX2_length cX2_length 3 (some .int), Cond.methodLink RX0 50 yX2_character, Cond.static yX2_character, Cond.code yX2_character cX2_character 3 (some .int), Cond.methodLink RX0 54 yX0_take, Cond.methodLink RX0 58 yX0_isComplete, Cond.methodLink RX0 62 yX0_number]
def wsX5_placeOfText_r5 : List Cond := [Cond.instanceMethod yX0_number, Cond.selects RX0 yX0_number yX0_number, Cond.code yX0_number cX0_number 1 (some .int), Cond.methodLink RX5 70 yX4_find, Cond.instanceMethod yX4_find, Cond.selects RX4 yX4_find yX4_find, Cond.initialized RX4, Cond.code yX4_find cX4_find 5 none, Cond.fieldLink RX4 13 "ScoreNumbers$Ways" "many" "I", Cond.methodLink RX4 23 Lib.Math.max.name, Cond.static Lib.Math.max.name, Cond.initialized "java/lang/Math", Cond.code Lib.Math.max.name Lib.Math.max.code 2 (some .int), Cond.methodLink RX4 29 Lib.Math.min.name, Cond.static Lib.Math.min.name, Cond.code Lib.Math.min.name Lib.Math.min.code 2 (some .int), Cond.methodLink RX4 19 yX4_addSmalls, Cond.instanceMethod yX4_addSmalls, Cond.selects RX4 yX4_addSmalls yX4_addSmalls, Cond.code yX4_addSmalls cX4_addSmalls 7 none, Cond.methodLink RX4 60 yX4_unit, Cond.static yX4_unit, Cond.code yX4_unit cX4_unit 1 (some .int), Cond.methodLink RX4 56 yX2_then]
def wsX5_placeOfText_r6 : List Cond := [Cond.methodLink RX4 52 yX4_add, Cond.instanceMethod yX4_add, Cond.selects RX4 yX4_add yX4_add, Cond.code yX4_add cX4_add 4 none, Cond.fieldLink RX4 9 "ScoreNumbers$Ways" "said" "[J", Cond.methodLink RX4 64 yX4_addWithBase, Cond.instanceMethod yX4_addWithBase, Cond.selects RX4 yX4_addWithBase yX4_addWithBase, Cond.code yX4_addWithBase cX4_addWithBase 8 none, Cond.methodLink RX4 48 yX4_counted, Cond.static yX4_counted, Cond.code yX4_counted cX4_counted 6 (some .long), Cond.methodLink RX4 32 yX4_addGreat, Cond.instanceMethod yX4_addGreat, Cond.selects RX4 yX4_addGreat yX4_addGreat, Cond.code yX4_addGreat cX4_addGreat 5 none, Cond.methodLink RX5 125 yX4_placeOf, Cond.instanceMethod yX4_placeOf, Cond.selects RX4 yX4_placeOf yX4_placeOf, Cond.code yX4_placeOf cX4_placeOf 4 (some .int)]
def wsX5_placeOfText : List Cond := .code yX5_placeOfText cX5_placeOfText 3 (some .int) :: ((wsX5_placeOfText_r1 ++ (wsX5_placeOfText_r2 ++ (wsX5_placeOfText_r3 ++ (wsX5_placeOfText_r4 ++ (wsX5_placeOfText_r5 ++ wsX5_placeOfText_r6))))) ++ wsX50 ++ wsX00 ++ wsX40)
def wsX5_hearer : List Cond := .code yX5_hearer cX5_hearer 3 (some .int) :: ([.fieldLink RX5 10 "ScoreNumbers" "now" "LScoreNumbers$State;", .fieldLink RX5 57 "ScoreNumbers$State" "hearers" "[[I", .methodLink RX5 49 yX5_isHearer, .static yX5_isHearer, .initialized RX5, .code yX5_isHearer cX5_isHearer 1 (some .boolean)] ++ wsX50 ++ wsX30)
def wsX5_orNone : List Cond := .code yX5_orNone cX5_orNone 1 (some .int) :: ([])
def wsX5_understood_r1 : List Cond := [Cond.fieldLink RX5 34 "ScoreNumbers" "found" "LScoreNumbers$Ways;", Cond.fieldLink RX5 113 "ScoreNumbers$Ways" "many" "I", Cond.methodLink RX5 49 yX5_isHearer, Cond.static yX5_isHearer, Cond.initialized RX5, Cond.code yX5_isHearer cX5_isHearer 1 (some .boolean), Cond.methodLink RX5 67 yX5_isNumber, Cond.static yX5_isNumber, Cond.code yX5_isNumber cX5_isNumber 1 (some .boolean), Cond.methodLink RX5 70 yX4_find, Cond.instanceMethod yX4_find, Cond.selects RX4 yX4_find yX4_find, Cond.initialized RX4, Cond.code yX4_find cX4_find 5 none, Cond.fieldLink RX4 13 "ScoreNumbers$Ways" "many" "I", Cond.methodLink RX4 23 Lib.Math.max.name, Cond.static Lib.Math.max.name, Cond.initialized "java/lang/Math", Cond.code Lib.Math.max.name Lib.Math.max.code 2 (some .int), Cond.methodLink RX4 29 Lib.Math.min.name, Cond.static Lib.Math.min.name, Cond.code Lib.Math.min.name Lib.Math.min.code 2 (some .int), Cond.methodLink RX4 19 yX4_addSmalls, Cond.instanceMethod yX4_addSmalls]
def wsX5_understood_r2 : List Cond := [Cond.selects RX4 yX4_addSmalls yX4_addSmalls, Cond.code yX4_addSmalls cX4_addSmalls 7 none, Cond.methodLink RX4 60 yX4_unit, Cond.static yX4_unit, Cond.code yX4_unit cX4_unit 1 (some .int), Cond.methodLink RX4 56 yX2_then, Cond.static yX2_then, Cond.initialized RX2, Cond.code yX2_then cX2_then 3 (some .long), Cond.methodLink RX4 52 yX4_add, Cond.instanceMethod yX4_add, Cond.selects RX4 yX4_add yX4_add, Cond.code yX4_add cX4_add 4 none, Cond.fieldLink RX4 9 "ScoreNumbers$Ways" "said" "[J", Cond.methodLink RX4 64 yX4_addWithBase, Cond.instanceMethod yX4_addWithBase, Cond.selects RX4 yX4_addWithBase yX4_addWithBase, Cond.code yX4_addWithBase cX4_addWithBase 8 none, Cond.methodLink RX4 48 yX4_counted, Cond.static yX4_counted, Cond.code yX4_counted cX4_counted 6 (some .long), Cond.methodLink RX4 32 yX4_addGreat, Cond.instanceMethod yX4_addGreat, Cond.selects RX4 yX4_addGreat yX4_addGreat]
def wsX5_understood_r3 : List Cond := [Cond.code yX4_addGreat cX4_addGreat 5 none, Cond.methodLink RX5 78 yX4_at, Cond.instanceMethod yX4_at, Cond.selects RX4 yX4_at yX4_at, Cond.code yX4_at cX4_at 2 (some .long), Cond.methodLink RX5 128 yX5_heard, Cond.instanceMethod yX5_heard, Cond.selects RX5 yX5_heard yX5_heard, Cond.code yX5_heard cX5_heard 5 (some .int), Cond.fieldLink RX5 10 "ScoreNumbers" "now" "LScoreNumbers$State;", Cond.fieldLink RX5 57 "ScoreNumbers$State" "hearers" "[[I", Cond.fieldLink RX5 41 "ScoreNumbers" "ear" "LScoreNumbers$Ear;", Cond.methodLink RX5 98 yX0_listen, Cond.instanceMethod yX0_listen, Cond.selects RX0 yX0_listen yX0_listen, Cond.initialized RX0, Cond.code yX0_listen cX0_listen 4 none, Cond.fieldLink RX0 7 "ScoreNumbers$Ear" "knowsHalf" "Z", Cond.fieldLink RX0 13 "ScoreNumbers$Ear" "knowsLess" "Z", Cond.fieldLink RX0 16 "ScoreNumbers$Ear" "knowsGreat" "Z", Cond.fieldLink RX0 19 "ScoreNumbers$Ear" "state" "I", Cond.fieldLink RX0 23 "ScoreNumbers$Ear" "isBehindGreat" "Z", Cond.fieldLink RX0 26 "ScoreNumbers$Ear" "isHalved" "Z", Cond.fieldLink RX0 29 "ScoreNumbers$Ear" "isLess" "Z"]
def wsX5_understood_r4 : List Cond := [Cond.fieldLink RX0 32 "ScoreNumbers$Ear" "count" "I", Cond.fieldLink RX0 35 "ScoreNumbers$Ear" "great" "I", Cond.fieldLink RX0 38 "ScoreNumbers$Ear" "base" "I", Cond.fieldLink RX0 41 "ScoreNumbers$Ear" "unit" "I", Cond.methodLink RX5 163 yX0_hear, Cond.instanceMethod yX0_hear, Cond.selects RX0 yX0_hear yX0_hear, Cond.code yX0_hear cX0_hear 6 (some .int), Cond.methodLink RX0 44 yX2_length, Cond.static yX2_length, Cond.code yX2_length cX2_length 3 (some .int), Cond.methodLink RX0 50 yX2_character, Cond.static yX2_character, Cond.code yX2_character cX2_character 3 (some .int), Cond.methodLink RX0 54 yX0_take, Cond.instanceMethod yX0_take, Cond.selects RX0 yX0_take yX0_take, Cond.code yX0_take cX0_take 3 (some .boolean), Cond.methodLink RX0 66 yX0_following, Cond.instanceMethod yX0_following, Cond.selects RX0 yX0_following yX0_following, Cond.code yX0_following cX0_following 2 (some .int), Cond.methodLink RX0 74 yX0_afterStart, Cond.instanceMethod yX0_afterStart]
def wsX5_understood_r5 : List Cond := [Cond.selects RX0 yX0_afterStart yX0_afterStart, Cond.code yX0_afterStart cX0_afterStart 2 (some .int), Cond.methodLink RX0 77 yX0_isCountUnit, Cond.static yX0_isCountUnit, Cond.code yX0_isCountUnit cX0_isCountUnit 1 (some .boolean), Cond.methodLink RX0 80 yX0_afterCount, Cond.instanceMethod yX0_afterCount, Cond.selects RX0 yX0_afterCount yX0_afterCount, Cond.code yX0_afterCount cX0_afterCount 2 (some .int), Cond.methodLink RX0 83 yX0_isUnit, Cond.static yX0_isUnit, Cond.code yX0_isUnit cX0_isUnit 1 (some .boolean), Cond.methodLink RX0 86 yX0_afterLess, Cond.instanceMethod yX0_afterLess, Cond.selects RX0 yX0_afterLess yX0_afterLess, Cond.code yX0_afterLess cX0_afterLess 2 (some .int), Cond.methodLink RX0 70 yX0_keep, Cond.instanceMethod yX0_keep, Cond.selects RX0 yX0_keep yX0_keep, Cond.code yX0_keep cX0_keep 2 none, Cond.methodLink RX0 89 yX0_takeUnitAsCount, Cond.instanceMethod yX0_takeUnitAsCount, Cond.selects RX0 yX0_takeUnitAsCount yX0_takeUnitAsCount, Cond.code yX0_takeUnitAsCount cX0_takeUnitAsCount 1 none]
def wsX5_understood_r6 : List Cond := [Cond.methodLink RX0 92 yX0_scores, Cond.instanceMethod yX0_scores, Cond.selects RX0 yX0_scores yX0_scores, Cond.code yX0_scores cX0_scores 1 (some .int), Cond.methodLink RX0 95 yX0_keepUnit, Cond.instanceMethod yX0_keepUnit, Cond.selects RX0 yX0_keepUnit yX0_keepUnit, Cond.code yX0_keepUnit cX0_keepUnit 2 none, Cond.methodLink RX0 58 yX0_isComplete, Cond.instanceMethod yX0_isComplete, Cond.selects RX0 yX0_isComplete yX0_isComplete, Cond.code yX0_isComplete cX0_isComplete 1 (some .boolean), Cond.methodLink RX0 62 yX0_number, Cond.instanceMethod yX0_number, Cond.selects RX0 yX0_number yX0_number, Cond.code yX0_number cX0_number 1 (some .int), Cond.methodLink RX5 132 yX5_orNone, Cond.static yX5_orNone, Cond.code yX5_orNone cX5_orNone 1 (some .int)]
def wsX5_understood : List Cond := .code yX5_understood cX5_understood 4 (some .int) :: ((wsX5_understood_r1 ++ (wsX5_understood_r2 ++ (wsX5_understood_r3 ++ (wsX5_understood_r4 ++ (wsX5_understood_r5 ++ wsX5_understood_r6))))) ++ wsX50 ++ wsX40 ++ wsX30 ++ wsX00)
def wsX5_understoodText_r1 : List Cond := [Cond.methodLink RX5 49 yX5_isHearer, Cond.static yX5_isHearer, Cond.initialized RX5, Cond.code yX5_isHearer cX5_isHearer 1 (some .boolean), Cond.methodLink RX5 86 yX5_fault, Cond.instanceMethod yX5_fault, Cond.selects RX5 yX5_fault yX5_fault, Cond.code yX5_fault cX5_fault 2 (some .int), Cond.fieldLink RX5 41 "ScoreNumbers" "ear" "LScoreNumbers$Ear;", Cond.fieldLink RX5 27 "ScoreNumbers" "textLength" "I", Cond.fieldLink RX5 23 "ScoreNumbers" "text" "[C", Cond.methodLink RX5 98 yX0_listen, Cond.instanceMethod yX0_listen, Cond.selects RX0 yX0_listen yX0_listen, Cond.initialized RX0, Cond.code yX0_listen cX0_listen 4 none, Cond.fieldLink RX0 7 "ScoreNumbers$Ear" "knowsHalf" "Z", Cond.fieldLink RX0 13 "ScoreNumbers$Ear" "knowsLess" "Z", Cond.fieldLink RX0 16 "ScoreNumbers$Ear" "knowsGreat" "Z", Cond.fieldLink RX0 19 "ScoreNumbers$Ear" "state" "I", Cond.fieldLink RX0 23 "ScoreNumbers$Ear" "isBehindGreat" "Z", Cond.fieldLink RX0 26 "ScoreNumbers$Ear" "isHalved" "Z", Cond.fieldLink RX0 29 "ScoreNumbers$Ear" "isLess" "Z", Cond.fieldLink RX0 32 "ScoreNumbers$Ear" "count" "I"]
def wsX5_understoodText_r2 : List Cond := [Cond.fieldLink RX0 35 "ScoreNumbers$Ear" "great" "I", Cond.fieldLink RX0 38 "ScoreNumbers$Ear" "base" "I", Cond.fieldLink RX0 41 "ScoreNumbers$Ear" "unit" "I", Cond.methodLink RX5 102 yX0_take, Cond.instanceMethod yX0_take, Cond.selects RX0 yX0_take yX0_take, Cond.code yX0_take cX0_take 3 (some .boolean), Cond.methodLink RX0 66 yX0_following, Cond.instanceMethod yX0_following, Cond.selects RX0 yX0_following yX0_following, Cond.code yX0_following cX0_following 2 (some .int), Cond.methodLink RX0 74 yX0_afterStart, Cond.instanceMethod yX0_afterStart, Cond.selects RX0 yX0_afterStart yX0_afterStart, Cond.code yX0_afterStart cX0_afterStart 2 (some .int), Cond.methodLink RX0 77 yX0_isCountUnit, Cond.static yX0_isCountUnit, Cond.code yX0_isCountUnit cX0_isCountUnit 1 (some .boolean), Cond.methodLink RX0 80 yX0_afterCount, Cond.instanceMethod yX0_afterCount, Cond.selects RX0 yX0_afterCount yX0_afterCount, Cond.code yX0_afterCount cX0_afterCount 2 (some .int), Cond.methodLink RX0 83 yX0_isUnit, Cond.static yX0_isUnit]
def wsX5_understoodText_r3 : List Cond := [Cond.code yX0_isUnit cX0_isUnit 1 (some .boolean), Cond.methodLink RX0 86 yX0_afterLess, Cond.instanceMethod yX0_afterLess, Cond.selects RX0 yX0_afterLess yX0_afterLess, Cond.code yX0_afterLess cX0_afterLess 2 (some .int), Cond.methodLink RX0 70 yX0_keep, Cond.instanceMethod yX0_keep, Cond.selects RX0 yX0_keep yX0_keep, Cond.code yX0_keep cX0_keep 2 none, Cond.methodLink RX0 89 yX0_takeUnitAsCount, Cond.instanceMethod yX0_takeUnitAsCount, Cond.selects RX0 yX0_takeUnitAsCount yX0_takeUnitAsCount, Cond.code yX0_takeUnitAsCount cX0_takeUnitAsCount 1 none, Cond.methodLink RX0 92 yX0_scores, Cond.instanceMethod yX0_scores, Cond.selects RX0 yX0_scores yX0_scores, Cond.code yX0_scores cX0_scores 1 (some .int), Cond.methodLink RX0 95 yX0_keepUnit, Cond.instanceMethod yX0_keepUnit, Cond.selects RX0 yX0_keepUnit yX0_keepUnit, Cond.code yX0_keepUnit cX0_keepUnit 2 none, Cond.methodLink RX5 105 yX0_isComplete, Cond.instanceMethod yX0_isComplete, Cond.selects RX0 yX0_isComplete yX0_isComplete]
def wsX5_understoodText_r4 : List Cond := [Cond.code yX0_isComplete cX0_isComplete 1 (some .boolean), Cond.methodLink RX5 90 yX5_packedText, Cond.instanceMethod yX5_packedText, Cond.selects RX5 yX5_packedText yX5_packedText, Cond.code yX5_packedText cX5_packedText 4 (some .long), Cond.methodLink RX5 159 yX2_then, Cond.static yX2_then, Cond.initialized RX2, Cond.code yX2_then cX2_then 3 (some .long), Cond.methodLink RX5 128 yX5_heard, Cond.instanceMethod yX5_heard, Cond.selects RX5 yX5_heard yX5_heard, Cond.code yX5_heard cX5_heard 5 (some .int), Cond.fieldLink RX5 10 "ScoreNumbers" "now" "LScoreNumbers$State;", Cond.fieldLink RX5 57 "ScoreNumbers$State" "hearers" "[[I", Cond.methodLink RX5 163 yX0_hear, Cond.instanceMethod yX0_hear, Cond.selects RX0 yX0_hear yX0_hear, Cond.code yX0_hear cX0_hear 6 (some .int), Cond.methodLink RX0 44 yX2_length, Cond.static yX2_length, Cond.code yX2_length cX2_length 3 (some .int), Cond.methodLink RX0 50 yX2_character, Cond.static yX2_character]
def wsX5_understoodText_r5 : List Cond := [Cond.code yX2_character cX2_character 3 (some .int), Cond.methodLink RX0 54 yX0_take, Cond.methodLink RX0 58 yX0_isComplete, Cond.methodLink RX0 62 yX0_number, Cond.instanceMethod yX0_number, Cond.selects RX0 yX0_number yX0_number, Cond.code yX0_number cX0_number 1 (some .int), Cond.methodLink RX5 132 yX5_orNone, Cond.static yX5_orNone, Cond.code yX5_orNone cX5_orNone 1 (some .int)]
def wsX5_understoodText : List Cond := .code yX5_understoodText cX5_understoodText 2 (some .int) :: ((wsX5_understoodText_r1 ++ (wsX5_understoodText_r2 ++ (wsX5_understoodText_r3 ++ (wsX5_understoodText_r4 ++ wsX5_understoodText_r5)))) ++ wsX50 ++ wsX00 ++ wsX30)
def wsX5_firstUnderstood_r1 : List Cond := [Cond.fieldLink RX5 34 "ScoreNumbers" "found" "LScoreNumbers$Ways;", Cond.fieldLink RX5 113 "ScoreNumbers$Ways" "many" "I", Cond.methodLink RX5 70 yX4_find, Cond.instanceMethod yX4_find, Cond.selects RX4 yX4_find yX4_find, Cond.initialized RX4, Cond.code yX4_find cX4_find 5 none, Cond.fieldLink RX4 13 "ScoreNumbers$Ways" "many" "I", Cond.methodLink RX4 23 Lib.Math.max.name, Cond.static Lib.Math.max.name, Cond.initialized "java/lang/Math", Cond.code Lib.Math.max.name Lib.Math.max.code 2 (some .int), Cond.methodLink RX4 29 Lib.Math.min.name, Cond.static Lib.Math.min.name, Cond.code Lib.Math.min.name Lib.Math.min.code 2 (some .int), Cond.methodLink RX4 19 yX4_addSmalls, Cond.instanceMethod yX4_addSmalls, Cond.selects RX4 yX4_addSmalls yX4_addSmalls, Cond.code yX4_addSmalls cX4_addSmalls 7 none, Cond.methodLink RX4 60 yX4_unit, Cond.static yX4_unit, Cond.code yX4_unit cX4_unit 1 (some .int), Cond.methodLink RX4 56 yX2_then, Cond.static yX2_then]
def wsX5_firstUnderstood_r2 : List Cond := [Cond.initialized RX2, Cond.code yX2_then cX2_then 3 (some .long), Cond.methodLink RX4 52 yX4_add, Cond.instanceMethod yX4_add, Cond.selects RX4 yX4_add yX4_add, Cond.code yX4_add cX4_add 4 none, Cond.fieldLink RX4 9 "ScoreNumbers$Ways" "said" "[J", Cond.methodLink RX4 64 yX4_addWithBase, Cond.instanceMethod yX4_addWithBase, Cond.selects RX4 yX4_addWithBase yX4_addWithBase, Cond.code yX4_addWithBase cX4_addWithBase 8 none, Cond.methodLink RX4 48 yX4_counted, Cond.static yX4_counted, Cond.code yX4_counted cX4_counted 6 (some .long), Cond.methodLink RX4 32 yX4_addGreat, Cond.instanceMethod yX4_addGreat, Cond.selects RX4 yX4_addGreat yX4_addGreat, Cond.code yX4_addGreat cX4_addGreat 5 none, Cond.methodLink RX5 78 yX4_at, Cond.instanceMethod yX4_at, Cond.selects RX4 yX4_at yX4_at, Cond.code yX4_at cX4_at 2 (some .long), Cond.methodLink RX5 128 yX5_heard, Cond.instanceMethod yX5_heard]
def wsX5_firstUnderstood_r3 : List Cond := [Cond.selects RX5 yX5_heard yX5_heard, Cond.initialized RX5, Cond.code yX5_heard cX5_heard 5 (some .int), Cond.fieldLink RX5 10 "ScoreNumbers" "now" "LScoreNumbers$State;", Cond.fieldLink RX5 57 "ScoreNumbers$State" "hearers" "[[I", Cond.fieldLink RX5 41 "ScoreNumbers" "ear" "LScoreNumbers$Ear;", Cond.methodLink RX5 98 yX0_listen, Cond.instanceMethod yX0_listen, Cond.selects RX0 yX0_listen yX0_listen, Cond.initialized RX0, Cond.code yX0_listen cX0_listen 4 none, Cond.fieldLink RX0 7 "ScoreNumbers$Ear" "knowsHalf" "Z", Cond.fieldLink RX0 13 "ScoreNumbers$Ear" "knowsLess" "Z", Cond.fieldLink RX0 16 "ScoreNumbers$Ear" "knowsGreat" "Z", Cond.fieldLink RX0 19 "ScoreNumbers$Ear" "state" "I", Cond.fieldLink RX0 23 "ScoreNumbers$Ear" "isBehindGreat" "Z", Cond.fieldLink RX0 26 "ScoreNumbers$Ear" "isHalved" "Z", Cond.fieldLink RX0 29 "ScoreNumbers$Ear" "isLess" "Z", Cond.fieldLink RX0 32 "ScoreNumbers$Ear" "count" "I", Cond.fieldLink RX0 35 "ScoreNumbers$Ear" "great" "I", Cond.fieldLink RX0 38 "ScoreNumbers$Ear" "base" "I", Cond.fieldLink RX0 41 "ScoreNumbers$Ear" "unit" "I", Cond.methodLink RX5 163 yX0_hear, Cond.instanceMethod yX0_hear]
def wsX5_firstUnderstood_r4 : List Cond := [Cond.selects RX0 yX0_hear yX0_hear, Cond.code yX0_hear cX0_hear 6 (some .int), Cond.methodLink RX0 44 yX2_length, Cond.static yX2_length, Cond.code yX2_length cX2_length 3 (some .int), Cond.methodLink RX0 50 yX2_character, Cond.static yX2_character, Cond.code yX2_character cX2_character 3 (some .int), Cond.methodLink RX0 54 yX0_take, Cond.instanceMethod yX0_take, Cond.selects RX0 yX0_take yX0_take, Cond.code yX0_take cX0_take 3 (some .boolean), Cond.methodLink RX0 66 yX0_following, Cond.instanceMethod yX0_following, Cond.selects RX0 yX0_following yX0_following, Cond.code yX0_following cX0_following 2 (some .int), Cond.methodLink RX0 74 yX0_afterStart, Cond.instanceMethod yX0_afterStart, Cond.selects RX0 yX0_afterStart yX0_afterStart, Cond.code yX0_afterStart cX0_afterStart 2 (some .int), Cond.methodLink RX0 77 yX0_isCountUnit, Cond.static yX0_isCountUnit, Cond.code yX0_isCountUnit cX0_isCountUnit 1 (some .boolean), Cond.methodLink RX0 80 yX0_afterCount]
def wsX5_firstUnderstood_r5 : List Cond := [Cond.instanceMethod yX0_afterCount, Cond.selects RX0 yX0_afterCount yX0_afterCount, Cond.code yX0_afterCount cX0_afterCount 2 (some .int), Cond.methodLink RX0 83 yX0_isUnit, Cond.static yX0_isUnit, Cond.code yX0_isUnit cX0_isUnit 1 (some .boolean), Cond.methodLink RX0 86 yX0_afterLess, Cond.instanceMethod yX0_afterLess, Cond.selects RX0 yX0_afterLess yX0_afterLess, Cond.code yX0_afterLess cX0_afterLess 2 (some .int), Cond.methodLink RX0 70 yX0_keep, Cond.instanceMethod yX0_keep, Cond.selects RX0 yX0_keep yX0_keep, Cond.code yX0_keep cX0_keep 2 none, Cond.methodLink RX0 89 yX0_takeUnitAsCount, Cond.instanceMethod yX0_takeUnitAsCount, Cond.selects RX0 yX0_takeUnitAsCount yX0_takeUnitAsCount, Cond.code yX0_takeUnitAsCount cX0_takeUnitAsCount 1 none, Cond.methodLink RX0 92 yX0_scores, Cond.instanceMethod yX0_scores, Cond.selects RX0 yX0_scores yX0_scores, Cond.code yX0_scores cX0_scores 1 (some .int), Cond.methodLink RX0 95 yX0_keepUnit, Cond.instanceMethod yX0_keepUnit]
def wsX5_firstUnderstood_r6 : List Cond := [Cond.selects RX0 yX0_keepUnit yX0_keepUnit, Cond.code yX0_keepUnit cX0_keepUnit 2 none, Cond.methodLink RX0 58 yX0_isComplete, Cond.instanceMethod yX0_isComplete, Cond.selects RX0 yX0_isComplete yX0_isComplete, Cond.code yX0_isComplete cX0_isComplete 1 (some .boolean), Cond.methodLink RX0 62 yX0_number, Cond.instanceMethod yX0_number, Cond.selects RX0 yX0_number yX0_number, Cond.code yX0_number cX0_number 1 (some .int)]
def wsX5_firstUnderstood : List Cond := .code yX5_firstUnderstood cX5_firstUnderstood 4 (some .int) :: ((wsX5_firstUnderstood_r1 ++ (wsX5_firstUnderstood_r2 ++ (wsX5_firstUnderstood_r3 ++ (wsX5_firstUnderstood_r4 ++ (wsX5_firstUnderstood_r5 ++ wsX5_firstUnderstood_r6))))) ++ wsX50 ++ wsX40 ++ wsX30 ++ wsX00)
def wsX5_bestWay_r1 : List Cond := [Cond.methodLink RX5 49 yX5_isHearer, Cond.static yX5_isHearer, Cond.initialized RX5, Cond.code yX5_isHearer cX5_isHearer 1 (some .boolean), Cond.methodLink RX5 67 yX5_isNumber, Cond.static yX5_isNumber, Cond.code yX5_isNumber cX5_isNumber 1 (some .boolean), Cond.methodLink RX5 135 yX5_firstUnderstood, Cond.instanceMethod yX5_firstUnderstood, Cond.selects RX5 yX5_firstUnderstood yX5_firstUnderstood, Cond.code yX5_firstUnderstood cX5_firstUnderstood 4 (some .int), Cond.fieldLink RX5 34 "ScoreNumbers" "found" "LScoreNumbers$Ways;", Cond.fieldLink RX5 113 "ScoreNumbers$Ways" "many" "I", Cond.methodLink RX5 70 yX4_find, Cond.instanceMethod yX4_find, Cond.selects RX4 yX4_find yX4_find, Cond.initialized RX4, Cond.code yX4_find cX4_find 5 none, Cond.fieldLink RX4 13 "ScoreNumbers$Ways" "many" "I", Cond.methodLink RX4 23 Lib.Math.max.name, Cond.static Lib.Math.max.name, Cond.initialized "java/lang/Math", Cond.code Lib.Math.max.name Lib.Math.max.code 2 (some .int), Cond.methodLink RX4 29 Lib.Math.min.name]
def wsX5_bestWay_r2 : List Cond := [Cond.static Lib.Math.min.name, Cond.code Lib.Math.min.name Lib.Math.min.code 2 (some .int), Cond.methodLink RX4 19 yX4_addSmalls, Cond.instanceMethod yX4_addSmalls, Cond.selects RX4 yX4_addSmalls yX4_addSmalls, Cond.code yX4_addSmalls cX4_addSmalls 7 none, Cond.methodLink RX4 60 yX4_unit, Cond.static yX4_unit, Cond.code yX4_unit cX4_unit 1 (some .int), Cond.methodLink RX4 56 yX2_then, Cond.static yX2_then, Cond.initialized RX2, Cond.code yX2_then cX2_then 3 (some .long), Cond.methodLink RX4 52 yX4_add, Cond.instanceMethod yX4_add, Cond.selects RX4 yX4_add yX4_add, Cond.code yX4_add cX4_add 4 none, Cond.fieldLink RX4 9 "ScoreNumbers$Ways" "said" "[J", Cond.methodLink RX4 64 yX4_addWithBase, Cond.instanceMethod yX4_addWithBase, Cond.selects RX4 yX4_addWithBase yX4_addWithBase, Cond.code yX4_addWithBase cX4_addWithBase 8 none, Cond.methodLink RX4 48 yX4_counted, Cond.static yX4_counted]
def wsX5_bestWay_r3 : List Cond := [Cond.code yX4_counted cX4_counted 6 (some .long), Cond.methodLink RX4 32 yX4_addGreat, Cond.instanceMethod yX4_addGreat, Cond.selects RX4 yX4_addGreat yX4_addGreat, Cond.code yX4_addGreat cX4_addGreat 5 none, Cond.methodLink RX5 78 yX4_at, Cond.instanceMethod yX4_at, Cond.selects RX4 yX4_at yX4_at, Cond.code yX4_at cX4_at 2 (some .long), Cond.methodLink RX5 128 yX5_heard, Cond.instanceMethod yX5_heard, Cond.selects RX5 yX5_heard yX5_heard, Cond.code yX5_heard cX5_heard 5 (some .int), Cond.fieldLink RX5 10 "ScoreNumbers" "now" "LScoreNumbers$State;", Cond.fieldLink RX5 57 "ScoreNumbers$State" "hearers" "[[I", Cond.fieldLink RX5 41 "ScoreNumbers" "ear" "LScoreNumbers$Ear;", Cond.methodLink RX5 98 yX0_listen, Cond.instanceMethod yX0_listen, Cond.selects RX0 yX0_listen yX0_listen, Cond.initialized RX0, Cond.code yX0_listen cX0_listen 4 none, Cond.fieldLink RX0 7 "ScoreNumbers$Ear" "knowsHalf" "Z", Cond.fieldLink RX0 13 "ScoreNumbers$Ear" "knowsLess" "Z", Cond.fieldLink RX0 16 "ScoreNumbers$Ear" "knowsGreat" "Z"]
def wsX5_bestWay_r4 : List Cond := [Cond.fieldLink RX0 19 "ScoreNumbers$Ear" "state" "I", Cond.fieldLink RX0 23 "ScoreNumbers$Ear" "isBehindGreat" "Z", Cond.fieldLink RX0 26 "ScoreNumbers$Ear" "isHalved" "Z", Cond.fieldLink RX0 29 "ScoreNumbers$Ear" "isLess" "Z", Cond.fieldLink RX0 32 "ScoreNumbers$Ear" "count" "I", Cond.fieldLink RX0 35 "ScoreNumbers$Ear" "great" "I", Cond.fieldLink RX0 38 "ScoreNumbers$Ear" "base" "I", Cond.fieldLink RX0 41 "ScoreNumbers$Ear" "unit" "I", Cond.methodLink RX5 163 yX0_hear, Cond.instanceMethod yX0_hear, Cond.selects RX0 yX0_hear yX0_hear, Cond.code yX0_hear cX0_hear 6 (some .int), Cond.methodLink RX0 44 yX2_length, Cond.static yX2_length, Cond.code yX2_length cX2_length 3 (some .int), Cond.methodLink RX0 50 yX2_character, Cond.static yX2_character, Cond.code yX2_character cX2_character 3 (some .int), Cond.methodLink RX0 54 yX0_take, Cond.instanceMethod yX0_take, Cond.selects RX0 yX0_take yX0_take, Cond.code yX0_take cX0_take 3 (some .boolean), Cond.methodLink RX0 66 yX0_following, Cond.instanceMethod yX0_following]
def wsX5_bestWay_r5 : List Cond := [Cond.selects RX0 yX0_following yX0_following, Cond.code yX0_following cX0_following 2 (some .int), Cond.methodLink RX0 74 yX0_afterStart, Cond.instanceMethod yX0_afterStart, Cond.selects RX0 yX0_afterStart yX0_afterStart, Cond.code yX0_afterStart cX0_afterStart 2 (some .int), Cond.methodLink RX0 77 yX0_isCountUnit, Cond.static yX0_isCountUnit, Cond.code yX0_isCountUnit cX0_isCountUnit 1 (some .boolean), Cond.methodLink RX0 80 yX0_afterCount, Cond.instanceMethod yX0_afterCount, Cond.selects RX0 yX0_afterCount yX0_afterCount, Cond.code yX0_afterCount cX0_afterCount 2 (some .int), Cond.methodLink RX0 83 yX0_isUnit, Cond.static yX0_isUnit, Cond.code yX0_isUnit cX0_isUnit 1 (some .boolean), Cond.methodLink RX0 86 yX0_afterLess, Cond.instanceMethod yX0_afterLess, Cond.selects RX0 yX0_afterLess yX0_afterLess, Cond.code yX0_afterLess cX0_afterLess 2 (some .int), Cond.methodLink RX0 70 yX0_keep, Cond.instanceMethod yX0_keep, Cond.selects RX0 yX0_keep yX0_keep, Cond.code yX0_keep cX0_keep 2 none]
def wsX5_bestWay_r6 : List Cond := [Cond.methodLink RX0 89 yX0_takeUnitAsCount, Cond.instanceMethod yX0_takeUnitAsCount, Cond.selects RX0 yX0_takeUnitAsCount yX0_takeUnitAsCount, Cond.code yX0_takeUnitAsCount cX0_takeUnitAsCount 1 none, Cond.methodLink RX0 92 yX0_scores, Cond.instanceMethod yX0_scores, Cond.selects RX0 yX0_scores yX0_scores, Cond.code yX0_scores cX0_scores 1 (some .int), Cond.methodLink RX0 95 yX0_keepUnit, Cond.instanceMethod yX0_keepUnit, Cond.selects RX0 yX0_keepUnit yX0_keepUnit, Cond.code yX0_keepUnit cX0_keepUnit 2 none, Cond.methodLink RX0 58 yX0_isComplete, Cond.instanceMethod yX0_isComplete, Cond.selects RX0 yX0_isComplete yX0_isComplete, Cond.code yX0_isComplete cX0_isComplete 1 (some .boolean), Cond.methodLink RX0 62 yX0_number, Cond.instanceMethod yX0_number, Cond.selects RX0 yX0_number yX0_number, Cond.code yX0_number cX0_number 1 (some .int)]
def wsX5_bestWay : List Cond := .code yX5_bestWay cX5_bestWay 3 (some .int) :: ((wsX5_bestWay_r1 ++ (wsX5_bestWay_r2 ++ (wsX5_bestWay_r3 ++ (wsX5_bestWay_r4 ++ (wsX5_bestWay_r5 ++ wsX5_bestWay_r6))))) ++ wsX50 ++ wsX40 ++ wsX30 ++ wsX00)
def wsX5_reached_r1 : List Cond := [Cond.methodLink RX5 128 yX5_heard, Cond.instanceMethod yX5_heard, Cond.selects RX5 yX5_heard yX5_heard, Cond.initialized RX5, Cond.code yX5_heard cX5_heard 5 (some .int), Cond.fieldLink RX5 10 "ScoreNumbers" "now" "LScoreNumbers$State;", Cond.fieldLink RX5 57 "ScoreNumbers$State" "hearers" "[[I", Cond.fieldLink RX5 41 "ScoreNumbers" "ear" "LScoreNumbers$Ear;", Cond.methodLink RX5 98 yX0_listen, Cond.instanceMethod yX0_listen, Cond.selects RX0 yX0_listen yX0_listen, Cond.initialized RX0, Cond.code yX0_listen cX0_listen 4 none, Cond.fieldLink RX0 7 "ScoreNumbers$Ear" "knowsHalf" "Z", Cond.fieldLink RX0 13 "ScoreNumbers$Ear" "knowsLess" "Z", Cond.fieldLink RX0 16 "ScoreNumbers$Ear" "knowsGreat" "Z", Cond.fieldLink RX0 19 "ScoreNumbers$Ear" "state" "I", Cond.fieldLink RX0 23 "ScoreNumbers$Ear" "isBehindGreat" "Z", Cond.fieldLink RX0 26 "ScoreNumbers$Ear" "isHalved" "Z", Cond.fieldLink RX0 29 "ScoreNumbers$Ear" "isLess" "Z", Cond.fieldLink RX0 32 "ScoreNumbers$Ear" "count" "I", Cond.fieldLink RX0 35 "ScoreNumbers$Ear" "great" "I", Cond.fieldLink RX0 38 "ScoreNumbers$Ear" "base" "I", Cond.fieldLink RX0 41 "ScoreNumbers$Ear" "unit" "I"]
def wsX5_reached_r2 : List Cond := [Cond.methodLink RX5 163 yX0_hear, Cond.instanceMethod yX0_hear, Cond.selects RX0 yX0_hear yX0_hear, Cond.code yX0_hear cX0_hear 6 (some .int), Cond.methodLink RX0 44 yX2_length, Cond.static yX2_length, Cond.initialized RX2, Cond.code yX2_length cX2_length 3 (some .int), Cond.methodLink RX0 50 yX2_character, Cond.static yX2_character, Cond.code yX2_character cX2_character 3 (some .int), Cond.methodLink RX0 54 yX0_take, Cond.instanceMethod yX0_take, Cond.selects RX0 yX0_take yX0_take, Cond.code yX0_take cX0_take 3 (some .boolean), Cond.methodLink RX0 66 yX0_following, Cond.instanceMethod yX0_following, Cond.selects RX0 yX0_following yX0_following, Cond.code yX0_following cX0_following 2 (some .int), Cond.methodLink RX0 74 yX0_afterStart, Cond.instanceMethod yX0_afterStart, Cond.selects RX0 yX0_afterStart yX0_afterStart, Cond.code yX0_afterStart cX0_afterStart 2 (some .int), Cond.methodLink RX0 77 yX0_isCountUnit]
def wsX5_reached_r3 : List Cond := [Cond.static yX0_isCountUnit, Cond.code yX0_isCountUnit cX0_isCountUnit 1 (some .boolean), Cond.methodLink RX0 80 yX0_afterCount, Cond.instanceMethod yX0_afterCount, Cond.selects RX0 yX0_afterCount yX0_afterCount, Cond.code yX0_afterCount cX0_afterCount 2 (some .int), Cond.methodLink RX0 83 yX0_isUnit, Cond.static yX0_isUnit, Cond.code yX0_isUnit cX0_isUnit 1 (some .boolean), Cond.methodLink RX0 86 yX0_afterLess, Cond.instanceMethod yX0_afterLess, Cond.selects RX0 yX0_afterLess yX0_afterLess, Cond.code yX0_afterLess cX0_afterLess 2 (some .int), Cond.methodLink RX0 70 yX0_keep, Cond.instanceMethod yX0_keep, Cond.selects RX0 yX0_keep yX0_keep, Cond.code yX0_keep cX0_keep 2 none, Cond.methodLink RX0 89 yX0_takeUnitAsCount, Cond.instanceMethod yX0_takeUnitAsCount, Cond.selects RX0 yX0_takeUnitAsCount yX0_takeUnitAsCount, Cond.code yX0_takeUnitAsCount cX0_takeUnitAsCount 1 none, Cond.methodLink RX0 92 yX0_scores, Cond.instanceMethod yX0_scores, Cond.selects RX0 yX0_scores yX0_scores]
def wsX5_reached_r4 : List Cond := [Cond.code yX0_scores cX0_scores 1 (some .int), Cond.methodLink RX0 95 yX0_keepUnit, Cond.instanceMethod yX0_keepUnit, Cond.selects RX0 yX0_keepUnit yX0_keepUnit, Cond.code yX0_keepUnit cX0_keepUnit 2 none, Cond.methodLink RX0 58 yX0_isComplete, Cond.instanceMethod yX0_isComplete, Cond.selects RX0 yX0_isComplete yX0_isComplete, Cond.code yX0_isComplete cX0_isComplete 1 (some .boolean), Cond.methodLink RX0 62 yX0_number, Cond.instanceMethod yX0_number, Cond.selects RX0 yX0_number yX0_number, Cond.code yX0_number cX0_number 1 (some .int)]
def wsX5_reached : List Cond := .code yX5_reached cX5_reached 6 (some .int) :: ((wsX5_reached_r1 ++ (wsX5_reached_r2 ++ (wsX5_reached_r3 ++ wsX5_reached_r4))) ++ wsX50 ++ wsX30 ++ wsX00)
def wsX5_commonWay_r1 : List Cond := [Cond.fieldLink RX5 34 "ScoreNumbers" "found" "LScoreNumbers$Ways;", Cond.fieldLink RX5 113 "ScoreNumbers$Ways" "many" "I", Cond.methodLink RX5 67 yX5_isNumber, Cond.static yX5_isNumber, Cond.initialized RX5, Cond.code yX5_isNumber cX5_isNumber 1 (some .boolean), Cond.methodLink RX5 70 yX4_find, Cond.instanceMethod yX4_find, Cond.selects RX4 yX4_find yX4_find, Cond.initialized RX4, Cond.code yX4_find cX4_find 5 none, Cond.fieldLink RX4 13 "ScoreNumbers$Ways" "many" "I", Cond.methodLink RX4 23 Lib.Math.max.name, Cond.static Lib.Math.max.name, Cond.initialized "java/lang/Math", Cond.code Lib.Math.max.name Lib.Math.max.code 2 (some .int), Cond.methodLink RX4 29 Lib.Math.min.name, Cond.static Lib.Math.min.name, Cond.code Lib.Math.min.name Lib.Math.min.code 2 (some .int), Cond.methodLink RX4 19 yX4_addSmalls, Cond.instanceMethod yX4_addSmalls, Cond.selects RX4 yX4_addSmalls yX4_addSmalls, Cond.code yX4_addSmalls cX4_addSmalls 7 none, Cond.methodLink RX4 60 yX4_unit]
def wsX5_commonWay_r2 : List Cond := [Cond.static yX4_unit, Cond.code yX4_unit cX4_unit 1 (some .int), Cond.methodLink RX4 56 yX2_then, Cond.static yX2_then, Cond.initialized RX2, Cond.code yX2_then cX2_then 3 (some .long), Cond.methodLink RX4 52 yX4_add, Cond.instanceMethod yX4_add, Cond.selects RX4 yX4_add yX4_add, Cond.code yX4_add cX4_add 4 none, Cond.fieldLink RX4 9 "ScoreNumbers$Ways" "said" "[J", Cond.methodLink RX4 64 yX4_addWithBase, Cond.instanceMethod yX4_addWithBase, Cond.selects RX4 yX4_addWithBase yX4_addWithBase, Cond.code yX4_addWithBase cX4_addWithBase 8 none, Cond.methodLink RX4 48 yX4_counted, Cond.static yX4_counted, Cond.code yX4_counted cX4_counted 6 (some .long), Cond.methodLink RX4 32 yX4_addGreat, Cond.instanceMethod yX4_addGreat, Cond.selects RX4 yX4_addGreat yX4_addGreat, Cond.code yX4_addGreat cX4_addGreat 5 none, Cond.methodLink RX5 78 yX4_at, Cond.instanceMethod yX4_at]
def wsX5_commonWay_r3 : List Cond := [Cond.selects RX4 yX4_at yX4_at, Cond.code yX4_at cX4_at 2 (some .long), Cond.methodLink RX5 139 yX5_reached, Cond.instanceMethod yX5_reached, Cond.selects RX5 yX5_reached yX5_reached, Cond.code yX5_reached cX5_reached 6 (some .int), Cond.methodLink RX5 128 yX5_heard, Cond.instanceMethod yX5_heard, Cond.selects RX5 yX5_heard yX5_heard, Cond.code yX5_heard cX5_heard 5 (some .int), Cond.fieldLink RX5 10 "ScoreNumbers" "now" "LScoreNumbers$State;", Cond.fieldLink RX5 57 "ScoreNumbers$State" "hearers" "[[I", Cond.fieldLink RX5 41 "ScoreNumbers" "ear" "LScoreNumbers$Ear;", Cond.methodLink RX5 98 yX0_listen, Cond.instanceMethod yX0_listen, Cond.selects RX0 yX0_listen yX0_listen, Cond.initialized RX0, Cond.code yX0_listen cX0_listen 4 none, Cond.fieldLink RX0 7 "ScoreNumbers$Ear" "knowsHalf" "Z", Cond.fieldLink RX0 13 "ScoreNumbers$Ear" "knowsLess" "Z", Cond.fieldLink RX0 16 "ScoreNumbers$Ear" "knowsGreat" "Z", Cond.fieldLink RX0 19 "ScoreNumbers$Ear" "state" "I", Cond.fieldLink RX0 23 "ScoreNumbers$Ear" "isBehindGreat" "Z", Cond.fieldLink RX0 26 "ScoreNumbers$Ear" "isHalved" "Z"]
def wsX5_commonWay_r4 : List Cond := [Cond.fieldLink RX0 29 "ScoreNumbers$Ear" "isLess" "Z", Cond.fieldLink RX0 32 "ScoreNumbers$Ear" "count" "I", Cond.fieldLink RX0 35 "ScoreNumbers$Ear" "great" "I", Cond.fieldLink RX0 38 "ScoreNumbers$Ear" "base" "I", Cond.fieldLink RX0 41 "ScoreNumbers$Ear" "unit" "I", Cond.methodLink RX5 163 yX0_hear, Cond.instanceMethod yX0_hear, Cond.selects RX0 yX0_hear yX0_hear, Cond.code yX0_hear cX0_hear 6 (some .int), Cond.methodLink RX0 44 yX2_length, Cond.static yX2_length, Cond.code yX2_length cX2_length 3 (some .int), Cond.methodLink RX0 50 yX2_character, Cond.static yX2_character, Cond.code yX2_character cX2_character 3 (some .int), Cond.methodLink RX0 54 yX0_take, Cond.instanceMethod yX0_take, Cond.selects RX0 yX0_take yX0_take, Cond.code yX0_take cX0_take 3 (some .boolean), Cond.methodLink RX0 66 yX0_following, Cond.instanceMethod yX0_following, Cond.selects RX0 yX0_following yX0_following, Cond.code yX0_following cX0_following 2 (some .int), Cond.methodLink RX0 74 yX0_afterStart]
def wsX5_commonWay_r5 : List Cond := [Cond.instanceMethod yX0_afterStart, Cond.selects RX0 yX0_afterStart yX0_afterStart, Cond.code yX0_afterStart cX0_afterStart 2 (some .int), Cond.methodLink RX0 77 yX0_isCountUnit, Cond.static yX0_isCountUnit, Cond.code yX0_isCountUnit cX0_isCountUnit 1 (some .boolean), Cond.methodLink RX0 80 yX0_afterCount, Cond.instanceMethod yX0_afterCount, Cond.selects RX0 yX0_afterCount yX0_afterCount, Cond.code yX0_afterCount cX0_afterCount 2 (some .int), Cond.methodLink RX0 83 yX0_isUnit, Cond.static yX0_isUnit, Cond.code yX0_isUnit cX0_isUnit 1 (some .boolean), Cond.methodLink RX0 86 yX0_afterLess, Cond.instanceMethod yX0_afterLess, Cond.selects RX0 yX0_afterLess yX0_afterLess, Cond.code yX0_afterLess cX0_afterLess 2 (some .int), Cond.methodLink RX0 70 yX0_keep, Cond.instanceMethod yX0_keep, Cond.selects RX0 yX0_keep yX0_keep, Cond.code yX0_keep cX0_keep 2 none, Cond.methodLink RX0 89 yX0_takeUnitAsCount, Cond.instanceMethod yX0_takeUnitAsCount, Cond.selects RX0 yX0_takeUnitAsCount yX0_takeUnitAsCount]
def wsX5_commonWay_r6 : List Cond := [Cond.code yX0_takeUnitAsCount cX0_takeUnitAsCount 1 none, Cond.methodLink RX0 92 yX0_scores, Cond.instanceMethod yX0_scores, Cond.selects RX0 yX0_scores yX0_scores, Cond.code yX0_scores cX0_scores 1 (some .int), Cond.methodLink RX0 95 yX0_keepUnit, Cond.instanceMethod yX0_keepUnit, Cond.selects RX0 yX0_keepUnit yX0_keepUnit, Cond.code yX0_keepUnit cX0_keepUnit 2 none, Cond.methodLink RX0 58 yX0_isComplete, Cond.instanceMethod yX0_isComplete, Cond.selects RX0 yX0_isComplete yX0_isComplete, Cond.code yX0_isComplete cX0_isComplete 1 (some .boolean), Cond.methodLink RX0 62 yX0_number, Cond.instanceMethod yX0_number, Cond.selects RX0 yX0_number yX0_number, Cond.code yX0_number cX0_number 1 (some .int)]
def wsX5_commonWay : List Cond := .code yX5_commonWay cX5_commonWay 6 (some .int) :: ((wsX5_commonWay_r1 ++ (wsX5_commonWay_r2 ++ (wsX5_commonWay_r3 ++ (wsX5_commonWay_r4 ++ (wsX5_commonWay_r5 ++ wsX5_commonWay_r6))))) ++ wsX50 ++ wsX40 ++ wsX30 ++ wsX00)
def wsX5_reach_r1 : List Cond := [Cond.fieldLink RX5 34 "ScoreNumbers" "found" "LScoreNumbers$Ways;", Cond.methodLink RX5 64 yX5_isStyle, Cond.static yX5_isStyle, Cond.initialized RX5, Cond.code yX5_isStyle cX5_isStyle 1 (some .boolean), Cond.methodLink RX5 67 yX5_isNumber, Cond.static yX5_isNumber, Cond.code yX5_isNumber cX5_isNumber 1 (some .boolean), Cond.methodLink RX5 70 yX4_find, Cond.instanceMethod yX4_find, Cond.selects RX4 yX4_find yX4_find, Cond.initialized RX4, Cond.code yX4_find cX4_find 5 none, Cond.fieldLink RX4 13 "ScoreNumbers$Ways" "many" "I", Cond.methodLink RX4 23 Lib.Math.max.name, Cond.static Lib.Math.max.name, Cond.initialized "java/lang/Math", Cond.code Lib.Math.max.name Lib.Math.max.code 2 (some .int), Cond.methodLink RX4 29 Lib.Math.min.name, Cond.static Lib.Math.min.name, Cond.code Lib.Math.min.name Lib.Math.min.code 2 (some .int), Cond.methodLink RX4 19 yX4_addSmalls, Cond.instanceMethod yX4_addSmalls, Cond.selects RX4 yX4_addSmalls yX4_addSmalls]
def wsX5_reach_r2 : List Cond := [Cond.code yX4_addSmalls cX4_addSmalls 7 none, Cond.methodLink RX4 60 yX4_unit, Cond.static yX4_unit, Cond.code yX4_unit cX4_unit 1 (some .int), Cond.methodLink RX4 56 yX2_then, Cond.static yX2_then, Cond.initialized RX2, Cond.code yX2_then cX2_then 3 (some .long), Cond.methodLink RX4 52 yX4_add, Cond.instanceMethod yX4_add, Cond.selects RX4 yX4_add yX4_add, Cond.code yX4_add cX4_add 4 none, Cond.fieldLink RX4 9 "ScoreNumbers$Ways" "said" "[J", Cond.methodLink RX4 64 yX4_addWithBase, Cond.instanceMethod yX4_addWithBase, Cond.selects RX4 yX4_addWithBase yX4_addWithBase, Cond.code yX4_addWithBase cX4_addWithBase 8 none, Cond.methodLink RX4 48 yX4_counted, Cond.static yX4_counted, Cond.code yX4_counted cX4_counted 6 (some .long), Cond.methodLink RX4 32 yX4_addGreat, Cond.instanceMethod yX4_addGreat, Cond.selects RX4 yX4_addGreat yX4_addGreat, Cond.code yX4_addGreat cX4_addGreat 5 none]
def wsX5_reach_r3 : List Cond := [Cond.methodLink RX5 74 yX4_placeOfStyle, Cond.instanceMethod yX4_placeOfStyle, Cond.selects RX4 yX4_placeOfStyle yX4_placeOfStyle, Cond.code yX4_placeOfStyle cX4_placeOfStyle 3 (some .int), Cond.methodLink RX4 36 yX4_at, Cond.instanceMethod yX4_at, Cond.selects RX4 yX4_at yX4_at, Cond.code yX4_at cX4_at 2 (some .long), Cond.methodLink RX4 40 yX4_isOfStyle, Cond.static yX4_isOfStyle, Cond.code yX4_isOfStyle cX4_isOfStyle 3 (some .boolean), Cond.methodLink RX4 44 yX2_has, Cond.static yX2_has, Cond.code yX2_has cX2_has 4 (some .boolean), Cond.methodLink RX2 9 yX2_character, Cond.static yX2_character, Cond.code yX2_character cX2_character 3 (some .int), Cond.methodLink RX5 78 yX4_at, Cond.methodLink RX5 139 yX5_reached, Cond.instanceMethod yX5_reached, Cond.selects RX5 yX5_reached yX5_reached, Cond.code yX5_reached cX5_reached 6 (some .int), Cond.methodLink RX5 128 yX5_heard, Cond.instanceMethod yX5_heard]
def wsX5_reach_r4 : List Cond := [Cond.selects RX5 yX5_heard yX5_heard, Cond.code yX5_heard cX5_heard 5 (some .int), Cond.fieldLink RX5 10 "ScoreNumbers" "now" "LScoreNumbers$State;", Cond.fieldLink RX5 57 "ScoreNumbers$State" "hearers" "[[I", Cond.fieldLink RX5 41 "ScoreNumbers" "ear" "LScoreNumbers$Ear;", Cond.methodLink RX5 98 yX0_listen, Cond.instanceMethod yX0_listen, Cond.selects RX0 yX0_listen yX0_listen, Cond.initialized RX0, Cond.code yX0_listen cX0_listen 4 none, Cond.fieldLink RX0 7 "ScoreNumbers$Ear" "knowsHalf" "Z", Cond.fieldLink RX0 13 "ScoreNumbers$Ear" "knowsLess" "Z", Cond.fieldLink RX0 16 "ScoreNumbers$Ear" "knowsGreat" "Z", Cond.fieldLink RX0 19 "ScoreNumbers$Ear" "state" "I", Cond.fieldLink RX0 23 "ScoreNumbers$Ear" "isBehindGreat" "Z", Cond.fieldLink RX0 26 "ScoreNumbers$Ear" "isHalved" "Z", Cond.fieldLink RX0 29 "ScoreNumbers$Ear" "isLess" "Z", Cond.fieldLink RX0 32 "ScoreNumbers$Ear" "count" "I", Cond.fieldLink RX0 35 "ScoreNumbers$Ear" "great" "I", Cond.fieldLink RX0 38 "ScoreNumbers$Ear" "base" "I", Cond.fieldLink RX0 41 "ScoreNumbers$Ear" "unit" "I", Cond.methodLink RX5 163 yX0_hear, Cond.instanceMethod yX0_hear, Cond.selects RX0 yX0_hear yX0_hear]
def wsX5_reach_r5 : List Cond := [Cond.code yX0_hear cX0_hear 6 (some .int), Cond.methodLink RX0 44 yX2_length, Cond.static yX2_length, Cond.code yX2_length cX2_length 3 (some .int), Cond.methodLink RX0 50 yX2_character, Cond.methodLink RX0 54 yX0_take, Cond.instanceMethod yX0_take, Cond.selects RX0 yX0_take yX0_take, Cond.code yX0_take cX0_take 3 (some .boolean), Cond.methodLink RX0 66 yX0_following, Cond.instanceMethod yX0_following, Cond.selects RX0 yX0_following yX0_following, Cond.code yX0_following cX0_following 2 (some .int), Cond.methodLink RX0 74 yX0_afterStart, Cond.instanceMethod yX0_afterStart, Cond.selects RX0 yX0_afterStart yX0_afterStart, Cond.code yX0_afterStart cX0_afterStart 2 (some .int), Cond.methodLink RX0 77 yX0_isCountUnit, Cond.static yX0_isCountUnit, Cond.code yX0_isCountUnit cX0_isCountUnit 1 (some .boolean), Cond.methodLink RX0 80 yX0_afterCount, Cond.instanceMethod yX0_afterCount, Cond.selects RX0 yX0_afterCount yX0_afterCount, Cond.code yX0_afterCount cX0_afterCount 2 (some .int)]
def wsX5_reach_r6 : List Cond := [Cond.methodLink RX0 83 yX0_isUnit, Cond.static yX0_isUnit, Cond.code yX0_isUnit cX0_isUnit 1 (some .boolean), Cond.methodLink RX0 86 yX0_afterLess, Cond.instanceMethod yX0_afterLess, Cond.selects RX0 yX0_afterLess yX0_afterLess, Cond.code yX0_afterLess cX0_afterLess 2 (some .int), Cond.methodLink RX0 70 yX0_keep, Cond.instanceMethod yX0_keep, Cond.selects RX0 yX0_keep yX0_keep, Cond.code yX0_keep cX0_keep 2 none, Cond.methodLink RX0 89 yX0_takeUnitAsCount, Cond.instanceMethod yX0_takeUnitAsCount, Cond.selects RX0 yX0_takeUnitAsCount yX0_takeUnitAsCount, Cond.code yX0_takeUnitAsCount cX0_takeUnitAsCount 1 none, Cond.methodLink RX0 92 yX0_scores, Cond.instanceMethod yX0_scores, Cond.selects RX0 yX0_scores yX0_scores, Cond.code yX0_scores cX0_scores 1 (some .int), Cond.methodLink RX0 95 yX0_keepUnit, Cond.instanceMethod yX0_keepUnit, Cond.selects RX0 yX0_keepUnit yX0_keepUnit, Cond.code yX0_keepUnit cX0_keepUnit 2 none, Cond.methodLink RX0 58 yX0_isComplete]
def wsX5_reach_r7 : List Cond := [Cond.instanceMethod yX0_isComplete, Cond.selects RX0 yX0_isComplete yX0_isComplete, Cond.code yX0_isComplete cX0_isComplete 1 (some .boolean), Cond.methodLink RX0 62 yX0_number, Cond.instanceMethod yX0_number, Cond.selects RX0 yX0_number yX0_number, Cond.code yX0_number cX0_number 1 (some .int)]
def wsX5_reach : List Cond := .code yX5_reach cX5_reach 3 (some .int) :: ((wsX5_reach_r1 ++ (wsX5_reach_r2 ++ (wsX5_reach_r3 ++ (wsX5_reach_r4 ++ (wsX5_reach_r5 ++ (wsX5_reach_r6 ++ wsX5_reach_r7)))))) ++ wsX50 ++ wsX40 ++ wsX30 ++ wsX00)
def wsX5_untellable_r1 : List Cond := [Cond.methodLink RX5 142 Lib.Math.min.name, Cond.static Lib.Math.min.name, Cond.initialized "java/lang/Math", Cond.code Lib.Math.min.name Lib.Math.min.code 2 (some .int), Cond.methodLink RX5 49 yX5_isHearer, Cond.static yX5_isHearer, Cond.initialized RX5, Cond.code yX5_isHearer cX5_isHearer 1 (some .boolean), Cond.methodLink RX5 67 yX5_isNumber, Cond.static yX5_isNumber, Cond.code yX5_isNumber cX5_isNumber 1 (some .boolean), Cond.methodLink RX5 135 yX5_firstUnderstood, Cond.instanceMethod yX5_firstUnderstood, Cond.selects RX5 yX5_firstUnderstood yX5_firstUnderstood, Cond.code yX5_firstUnderstood cX5_firstUnderstood 4 (some .int), Cond.fieldLink RX5 34 "ScoreNumbers" "found" "LScoreNumbers$Ways;", Cond.fieldLink RX5 113 "ScoreNumbers$Ways" "many" "I", Cond.methodLink RX5 70 yX4_find, Cond.instanceMethod yX4_find, Cond.selects RX4 yX4_find yX4_find, Cond.initialized RX4, Cond.code yX4_find cX4_find 5 none, Cond.fieldLink RX4 13 "ScoreNumbers$Ways" "many" "I", Cond.methodLink RX4 23 Lib.Math.max.name]
def wsX5_untellable_r2 : List Cond := [Cond.static Lib.Math.max.name, Cond.code Lib.Math.max.name Lib.Math.max.code 2 (some .int), Cond.methodLink RX4 29 Lib.Math.min.name, Cond.methodLink RX4 19 yX4_addSmalls, Cond.instanceMethod yX4_addSmalls, Cond.selects RX4 yX4_addSmalls yX4_addSmalls, Cond.code yX4_addSmalls cX4_addSmalls 7 none, Cond.methodLink RX4 60 yX4_unit, Cond.static yX4_unit, Cond.code yX4_unit cX4_unit 1 (some .int), Cond.methodLink RX4 56 yX2_then, Cond.static yX2_then, Cond.initialized RX2, Cond.code yX2_then cX2_then 3 (some .long), Cond.methodLink RX4 52 yX4_add, Cond.instanceMethod yX4_add, Cond.selects RX4 yX4_add yX4_add, Cond.code yX4_add cX4_add 4 none, Cond.fieldLink RX4 9 "ScoreNumbers$Ways" "said" "[J", Cond.methodLink RX4 64 yX4_addWithBase, Cond.instanceMethod yX4_addWithBase, Cond.selects RX4 yX4_addWithBase yX4_addWithBase, Cond.code yX4_addWithBase cX4_addWithBase 8 none, Cond.methodLink RX4 48 yX4_counted]
def wsX5_untellable_r3 : List Cond := [Cond.static yX4_counted, Cond.code yX4_counted cX4_counted 6 (some .long), Cond.methodLink RX4 32 yX4_addGreat, Cond.instanceMethod yX4_addGreat, Cond.selects RX4 yX4_addGreat yX4_addGreat, Cond.code yX4_addGreat cX4_addGreat 5 none, Cond.methodLink RX5 78 yX4_at, Cond.instanceMethod yX4_at, Cond.selects RX4 yX4_at yX4_at, Cond.code yX4_at cX4_at 2 (some .long), Cond.methodLink RX5 128 yX5_heard, Cond.instanceMethod yX5_heard, Cond.selects RX5 yX5_heard yX5_heard, Cond.code yX5_heard cX5_heard 5 (some .int), Cond.fieldLink RX5 10 "ScoreNumbers" "now" "LScoreNumbers$State;", Cond.fieldLink RX5 57 "ScoreNumbers$State" "hearers" "[[I", Cond.fieldLink RX5 41 "ScoreNumbers" "ear" "LScoreNumbers$Ear;", Cond.methodLink RX5 98 yX0_listen, Cond.instanceMethod yX0_listen, Cond.selects RX0 yX0_listen yX0_listen, Cond.initialized RX0, Cond.code yX0_listen cX0_listen 4 none, Cond.fieldLink RX0 7 "ScoreNumbers$Ear" "knowsHalf" "Z", Cond.fieldLink RX0 13 "ScoreNumbers$Ear" "knowsLess" "Z"]
def wsX5_untellable_r4 : List Cond := [Cond.fieldLink RX0 16 "ScoreNumbers$Ear" "knowsGreat" "Z", Cond.fieldLink RX0 19 "ScoreNumbers$Ear" "state" "I", Cond.fieldLink RX0 23 "ScoreNumbers$Ear" "isBehindGreat" "Z", Cond.fieldLink RX0 26 "ScoreNumbers$Ear" "isHalved" "Z", Cond.fieldLink RX0 29 "ScoreNumbers$Ear" "isLess" "Z", Cond.fieldLink RX0 32 "ScoreNumbers$Ear" "count" "I", Cond.fieldLink RX0 35 "ScoreNumbers$Ear" "great" "I", Cond.fieldLink RX0 38 "ScoreNumbers$Ear" "base" "I", Cond.fieldLink RX0 41 "ScoreNumbers$Ear" "unit" "I", Cond.methodLink RX5 163 yX0_hear, Cond.instanceMethod yX0_hear, Cond.selects RX0 yX0_hear yX0_hear, Cond.code yX0_hear cX0_hear 6 (some .int), Cond.methodLink RX0 44 yX2_length, Cond.static yX2_length, Cond.code yX2_length cX2_length 3 (some .int), Cond.methodLink RX0 50 yX2_character, Cond.static yX2_character, Cond.code yX2_character cX2_character 3 (some .int), Cond.methodLink RX0 54 yX0_take, Cond.instanceMethod yX0_take, Cond.selects RX0 yX0_take yX0_take, Cond.code yX0_take cX0_take 3 (some .boolean), Cond.methodLink RX0 66 yX0_following]
def wsX5_untellable_r5 : List Cond := [Cond.instanceMethod yX0_following, Cond.selects RX0 yX0_following yX0_following, Cond.code yX0_following cX0_following 2 (some .int), Cond.methodLink RX0 74 yX0_afterStart, Cond.instanceMethod yX0_afterStart, Cond.selects RX0 yX0_afterStart yX0_afterStart, Cond.code yX0_afterStart cX0_afterStart 2 (some .int), Cond.methodLink RX0 77 yX0_isCountUnit, Cond.static yX0_isCountUnit, Cond.code yX0_isCountUnit cX0_isCountUnit 1 (some .boolean), Cond.methodLink RX0 80 yX0_afterCount, Cond.instanceMethod yX0_afterCount, Cond.selects RX0 yX0_afterCount yX0_afterCount, Cond.code yX0_afterCount cX0_afterCount 2 (some .int), Cond.methodLink RX0 83 yX0_isUnit, Cond.static yX0_isUnit, Cond.code yX0_isUnit cX0_isUnit 1 (some .boolean), Cond.methodLink RX0 86 yX0_afterLess, Cond.instanceMethod yX0_afterLess, Cond.selects RX0 yX0_afterLess yX0_afterLess, Cond.code yX0_afterLess cX0_afterLess 2 (some .int), Cond.methodLink RX0 70 yX0_keep, Cond.instanceMethod yX0_keep, Cond.selects RX0 yX0_keep yX0_keep]
def wsX5_untellable_r6 : List Cond := [Cond.code yX0_keep cX0_keep 2 none, Cond.methodLink RX0 89 yX0_takeUnitAsCount, Cond.instanceMethod yX0_takeUnitAsCount, Cond.selects RX0 yX0_takeUnitAsCount yX0_takeUnitAsCount, Cond.code yX0_takeUnitAsCount cX0_takeUnitAsCount 1 none, Cond.methodLink RX0 92 yX0_scores, Cond.instanceMethod yX0_scores, Cond.selects RX0 yX0_scores yX0_scores, Cond.code yX0_scores cX0_scores 1 (some .int), Cond.methodLink RX0 95 yX0_keepUnit, Cond.instanceMethod yX0_keepUnit, Cond.selects RX0 yX0_keepUnit yX0_keepUnit, Cond.code yX0_keepUnit cX0_keepUnit 2 none, Cond.methodLink RX0 58 yX0_isComplete, Cond.instanceMethod yX0_isComplete, Cond.selects RX0 yX0_isComplete yX0_isComplete, Cond.code yX0_isComplete cX0_isComplete 1 (some .boolean), Cond.methodLink RX0 62 yX0_number, Cond.instanceMethod yX0_number, Cond.selects RX0 yX0_number yX0_number, Cond.code yX0_number cX0_number 1 (some .int)]
def wsX5_untellable : List Cond := .code yX5_untellable cX5_untellable 7 (some .int) :: ((wsX5_untellable_r1 ++ (wsX5_untellable_r2 ++ (wsX5_untellable_r3 ++ (wsX5_untellable_r4 ++ (wsX5_untellable_r5 ++ wsX5_untellable_r6))))) ++ wsX50 ++ wsX40 ++ wsX30 ++ wsX00)
def wsX5_log : List Cond := .code yX5_log cX5_log 3 (some .int) :: ([.fieldLink RX5 10 "ScoreNumbers" "now" "LScoreNumbers$State;", .fieldLink RX5 147 "ScoreNumbers$State" "kept" "I", .methodLink RX5 150 yX3_told, .instanceMethod yX3_told, .selects RX3 yX3_told yX3_told, .initialized RX3, .code yX3_told cX3_told 4 (some .int), .fieldLink RX3 19 "ScoreNumbers$State" "newest" "I", .fieldLink RX3 16 "ScoreNumbers$State" "lines" "[[I"] ++ wsX50 ++ wsX30)
def wsX5_sum : List Cond := .code yX5_sum cX5_sum 2 (some .int) :: ([.fieldLink RX5 10 "ScoreNumbers" "now" "LScoreNumbers$State;", .methodLink RX5 153 yX3_total, .instanceMethod yX3_total, .selects RX3 yX3_total yX3_total, .initialized RX3, .code yX3_total cX3_total 6 (some .int), .fieldLink RX3 11 "ScoreNumbers$State" "hearers" "[[I"] ++ wsX50 ++ wsX30)
def wsX5_patience : List Cond := .code yX5_patience cX5_patience 1 (some .int) :: ([.fieldLink RX5 10 "ScoreNumbers" "now" "LScoreNumbers$State;", .fieldLink RX5 61 "ScoreNumbers$State" "patience" "I"] ++ wsX50 ++ wsX30)
def wsX5_share : List Cond := .code yX5_share cX5_share 3 (some .float) :: ([.fieldLink RX5 10 "ScoreNumbers" "now" "LScoreNumbers$State;", .methodLink RX5 153 yX3_total, .instanceMethod yX3_total, .selects RX3 yX3_total yX3_total, .initialized RX3, .code yX3_total cX3_total 6 (some .int), .fieldLink RX3 11 "ScoreNumbers$State" "hearers" "[[I"] ++ wsX50 ++ wsX30)
def wsX6_init : List Cond := .code yX6_init cX6_init 2 none :: ([.methodLink RX6 1 objectInit, .instanceMethod objectInit, .code objectInit ⟨#[0xb1]⟩ 1 none, .arrayClass .int, .fieldLink RX6 7 "ScoreNumbersModel" "s" "[I", .fieldLink RX6 13 "ScoreNumbersModel" "before" "[I", .arrayClass .char, .fieldLink RX6 16 "ScoreNumbersModel" "say" "[C", .fieldLink RX6 20 "ScoreNumbersModel" "text" "[C", .fieldLink RX6 23 "ScoreNumbersModel" "ways" "[C", .fieldLink RX6 26 "ScoreNumbersModel" "lengths" "[I", .fieldLink RX6 29 "ScoreNumbersModel" "order" "[I"] ++ wsX60)
def wsX6_in : List Cond := .code yX6_in cX6_in 3 (some .boolean) :: ([])
def wsX6_isHearer : List Cond := .code yX6_isHearer cX6_isHearer 1 (some .boolean) :: ([.methodLink RX6 32 yX6_in, .static yX6_in, .initialized RX6, .code yX6_in cX6_in 3 (some .boolean)])
def wsX6_isNumber : List Cond := .code yX6_isNumber cX6_isNumber 1 (some .boolean) :: ([.methodLink RX6 32 yX6_in, .static yX6_in, .initialized RX6, .code yX6_in cX6_in 3 (some .boolean)])
def wsX6_record : List Cond := .code yX6_record cX6_record 2 none :: ([.fieldLink RX6 36 "ScoreNumbersModel" "states" "I", .fieldLink RX6 13 "ScoreNumbersModel" "before" "[I", .fieldLink RX6 7 "ScoreNumbersModel" "s" "[I"] ++ wsX60)
def wsX6_isSign : List Cond := .code yX6_isSign cX6_isSign 2 (some .boolean) :: ([.fieldLink RX6 40 "ScoreNumbersModel" "at" "I", .fieldLink RX6 43 "ScoreNumbersModel" "size" "I", .fieldLink RX6 16 "ScoreNumbersModel" "say" "[C"] ++ wsX60)
def wsX6_accepts : List Cond := .code yX6_accepts cX6_accepts 3 (some .boolean) :: ([.fieldLink RX6 40 "ScoreNumbersModel" "at" "I", .methodLink RX6 46 yX6_isSign, .instanceMethod yX6_isSign, .selects RX6 yX6_isSign yX6_isSign, .initialized RX6, .code yX6_isSign cX6_isSign 2 (some .boolean), .fieldLink RX6 43 "ScoreNumbersModel" "size" "I", .fieldLink RX6 16 "ScoreNumbersModel" "say" "[C"] ++ wsX60)
def wsX6_unitFrom : List Cond := .code yX6_unitFrom cX6_unitFrom 2 (some .int) :: ([.fieldLink RX6 40 "ScoreNumbersModel" "at" "I", .fieldLink RX6 43 "ScoreNumbersModel" "size" "I", .fieldLink RX6 16 "ScoreNumbersModel" "say" "[C"] ++ wsX60)
def wsX6_base : List Cond := .code yX6_base cX6_base 1 (some .boolean) :: ([.fieldLink RX6 53 "ScoreNumbersModel" "baseUnit" "I", .fieldLink RX6 56 "ScoreNumbersModel" "isBaseHalf" "Z", .methodLink RX6 50 yX6_accepts, .instanceMethod yX6_accepts, .selects RX6 yX6_accepts yX6_accepts, .initialized RX6, .code yX6_accepts cX6_accepts 3 (some .boolean), .fieldLink RX6 40 "ScoreNumbersModel" "at" "I", .methodLink RX6 46 yX6_isSign, .instanceMethod yX6_isSign, .selects RX6 yX6_isSign yX6_isSign, .code yX6_isSign cX6_isSign 2 (some .boolean), .fieldLink RX6 43 "ScoreNumbersModel" "size" "I", .fieldLink RX6 16 "ScoreNumbersModel" "say" "[C", .methodLink RX6 60 yX6_unitFrom, .instanceMethod yX6_unitFrom, .selects RX6 yX6_unitFrom yX6_unitFrom, .code yX6_unitFrom cX6_unitFrom 2 (some .int)] ++ wsX60)
def wsX6_plus : List Cond := .code yX6_plus cX6_plus 1 (some .boolean) :: ([.fieldLink RX6 64 "ScoreNumbersModel" "unit" "I", .methodLink RX6 50 yX6_accepts, .instanceMethod yX6_accepts, .selects RX6 yX6_accepts yX6_accepts, .initialized RX6, .code yX6_accepts cX6_accepts 3 (some .boolean), .fieldLink RX6 40 "ScoreNumbersModel" "at" "I", .methodLink RX6 46 yX6_isSign, .instanceMethod yX6_isSign, .selects RX6 yX6_isSign yX6_isSign, .code yX6_isSign cX6_isSign 2 (some .boolean), .fieldLink RX6 43 "ScoreNumbersModel" "size" "I", .fieldLink RX6 16 "ScoreNumbersModel" "say" "[C", .methodLink RX6 60 yX6_unitFrom, .instanceMethod yX6_unitFrom, .selects RX6 yX6_unitFrom yX6_unitFrom, .code yX6_unitFrom cX6_unitFrom 2 (some .int)] ++ wsX60)
def wsX6_smallFrom_r1 : List Cond := [Cond.fieldLink RX6 53 "ScoreNumbersModel" "baseUnit" "I", Cond.fieldLink RX6 64 "ScoreNumbersModel" "unit" "I", Cond.fieldLink RX6 71 "ScoreNumbersModel" "isLess" "Z", Cond.methodLink RX6 50 yX6_accepts, Cond.instanceMethod yX6_accepts, Cond.selects RX6 yX6_accepts yX6_accepts, Cond.initialized RX6, Cond.code yX6_accepts cX6_accepts 3 (some .boolean), Cond.fieldLink RX6 40 "ScoreNumbersModel" "at" "I", Cond.methodLink RX6 46 yX6_isSign, Cond.instanceMethod yX6_isSign, Cond.selects RX6 yX6_isSign yX6_isSign, Cond.code yX6_isSign cX6_isSign 2 (some .boolean), Cond.fieldLink RX6 43 "ScoreNumbersModel" "size" "I", Cond.fieldLink RX6 16 "ScoreNumbersModel" "say" "[C", Cond.methodLink RX6 67 yX6_plus, Cond.instanceMethod yX6_plus, Cond.selects RX6 yX6_plus yX6_plus, Cond.code yX6_plus cX6_plus 1 (some .boolean), Cond.methodLink RX6 60 yX6_unitFrom, Cond.instanceMethod yX6_unitFrom, Cond.selects RX6 yX6_unitFrom yX6_unitFrom, Cond.code yX6_unitFrom cX6_unitFrom 2 (some .int), Cond.methodLink RX6 74 yX6_base]
def wsX6_smallFrom_r2 : List Cond := [Cond.instanceMethod yX6_base, Cond.selects RX6 yX6_base yX6_base, Cond.code yX6_base cX6_base 1 (some .boolean), Cond.fieldLink RX6 56 "ScoreNumbersModel" "isBaseHalf" "Z"]
def wsX6_smallFrom : List Cond := .code yX6_smallFrom cX6_smallFrom 2 (some .boolean) :: ((wsX6_smallFrom_r1 ++ wsX6_smallFrom_r2) ++ wsX60)
def wsX6_small_r1 : List Cond := [Cond.methodLink RX6 60 yX6_unitFrom, Cond.instanceMethod yX6_unitFrom, Cond.selects RX6 yX6_unitFrom yX6_unitFrom, Cond.initialized RX6, Cond.code yX6_unitFrom cX6_unitFrom 2 (some .int), Cond.fieldLink RX6 40 "ScoreNumbersModel" "at" "I", Cond.fieldLink RX6 43 "ScoreNumbersModel" "size" "I", Cond.fieldLink RX6 16 "ScoreNumbersModel" "say" "[C", Cond.methodLink RX6 77 yX6_smallFrom, Cond.instanceMethod yX6_smallFrom, Cond.selects RX6 yX6_smallFrom yX6_smallFrom, Cond.code yX6_smallFrom cX6_smallFrom 2 (some .boolean), Cond.fieldLink RX6 53 "ScoreNumbersModel" "baseUnit" "I", Cond.fieldLink RX6 64 "ScoreNumbersModel" "unit" "I", Cond.fieldLink RX6 71 "ScoreNumbersModel" "isLess" "Z", Cond.methodLink RX6 50 yX6_accepts, Cond.instanceMethod yX6_accepts, Cond.selects RX6 yX6_accepts yX6_accepts, Cond.code yX6_accepts cX6_accepts 3 (some .boolean), Cond.methodLink RX6 46 yX6_isSign, Cond.instanceMethod yX6_isSign, Cond.selects RX6 yX6_isSign yX6_isSign, Cond.code yX6_isSign cX6_isSign 2 (some .boolean), Cond.methodLink RX6 67 yX6_plus]
def wsX6_small_r2 : List Cond := [Cond.instanceMethod yX6_plus, Cond.selects RX6 yX6_plus yX6_plus, Cond.code yX6_plus cX6_plus 1 (some .boolean), Cond.methodLink RX6 74 yX6_base, Cond.instanceMethod yX6_base, Cond.selects RX6 yX6_base yX6_base, Cond.code yX6_base cX6_base 1 (some .boolean), Cond.fieldLink RX6 56 "ScoreNumbersModel" "isBaseHalf" "Z"]
def wsX6_small : List Cond := .code yX6_small cX6_small 2 (some .boolean) :: ((wsX6_small_r1 ++ wsX6_small_r2) ++ wsX60)
def wsX6_and_r1 : List Cond := [Cond.methodLink RX6 50 yX6_accepts, Cond.instanceMethod yX6_accepts, Cond.selects RX6 yX6_accepts yX6_accepts, Cond.initialized RX6, Cond.code yX6_accepts cX6_accepts 3 (some .boolean), Cond.fieldLink RX6 40 "ScoreNumbersModel" "at" "I", Cond.methodLink RX6 46 yX6_isSign, Cond.instanceMethod yX6_isSign, Cond.selects RX6 yX6_isSign yX6_isSign, Cond.code yX6_isSign cX6_isSign 2 (some .boolean), Cond.fieldLink RX6 43 "ScoreNumbersModel" "size" "I", Cond.fieldLink RX6 16 "ScoreNumbersModel" "say" "[C", Cond.methodLink RX6 81 yX6_small, Cond.instanceMethod yX6_small, Cond.selects RX6 yX6_small yX6_small, Cond.code yX6_small cX6_small 2 (some .boolean), Cond.methodLink RX6 60 yX6_unitFrom, Cond.instanceMethod yX6_unitFrom, Cond.selects RX6 yX6_unitFrom yX6_unitFrom, Cond.code yX6_unitFrom cX6_unitFrom 2 (some .int), Cond.methodLink RX6 77 yX6_smallFrom, Cond.instanceMethod yX6_smallFrom, Cond.selects RX6 yX6_smallFrom yX6_smallFrom, Cond.code yX6_smallFrom cX6_smallFrom 2 (some .boolean)]
def wsX6_and_r2 : List Cond := [Cond.fieldLink RX6 53 "ScoreNumbersModel" "baseUnit" "I", Cond.fieldLink RX6 64 "ScoreNumbersModel" "unit" "I", Cond.fieldLink RX6 71 "ScoreNumbersModel" "isLess" "Z", Cond.methodLink RX6 67 yX6_plus, Cond.instanceMethod yX6_plus, Cond.selects RX6 yX6_plus yX6_plus, Cond.code yX6_plus cX6_plus 1 (some .boolean), Cond.methodLink RX6 74 yX6_base, Cond.instanceMethod yX6_base, Cond.selects RX6 yX6_base yX6_base, Cond.code yX6_base cX6_base 1 (some .boolean), Cond.fieldLink RX6 56 "ScoreNumbersModel" "isBaseHalf" "Z"]
def wsX6_and : List Cond := .code yX6_and cX6_and 1 (some .boolean) :: ((wsX6_and_r1 ++ wsX6_and_r2) ++ wsX60)
def wsX6_half_r1 : List Cond := [Cond.fieldLink RX6 84 "ScoreNumbersModel" "greatUnit" "I", Cond.fieldLink RX6 87 "ScoreNumbersModel" "isGreatHalf" "Z", Cond.fieldLink RX6 53 "ScoreNumbersModel" "baseUnit" "I", Cond.fieldLink RX6 56 "ScoreNumbersModel" "isBaseHalf" "Z", Cond.methodLink RX6 60 yX6_unitFrom, Cond.instanceMethod yX6_unitFrom, Cond.selects RX6 yX6_unitFrom yX6_unitFrom, Cond.initialized RX6, Cond.code yX6_unitFrom cX6_unitFrom 2 (some .int), Cond.fieldLink RX6 40 "ScoreNumbersModel" "at" "I", Cond.fieldLink RX6 43 "ScoreNumbersModel" "size" "I", Cond.fieldLink RX6 16 "ScoreNumbersModel" "say" "[C", Cond.methodLink RX6 50 yX6_accepts, Cond.instanceMethod yX6_accepts, Cond.selects RX6 yX6_accepts yX6_accepts, Cond.code yX6_accepts cX6_accepts 3 (some .boolean), Cond.methodLink RX6 46 yX6_isSign, Cond.instanceMethod yX6_isSign, Cond.selects RX6 yX6_isSign yX6_isSign, Cond.code yX6_isSign cX6_isSign 2 (some .boolean), Cond.methodLink RX6 90 yX6_and, Cond.instanceMethod yX6_and, Cond.selects RX6 yX6_and yX6_and, Cond.code yX6_and cX6_and 1 (some .boolean)]
def wsX6_half_r2 : List Cond := [Cond.methodLink RX6 81 yX6_small, Cond.instanceMethod yX6_small, Cond.selects RX6 yX6_small yX6_small, Cond.code yX6_small cX6_small 2 (some .boolean), Cond.methodLink RX6 77 yX6_smallFrom, Cond.instanceMethod yX6_smallFrom, Cond.selects RX6 yX6_smallFrom yX6_smallFrom, Cond.code yX6_smallFrom cX6_smallFrom 2 (some .boolean), Cond.fieldLink RX6 64 "ScoreNumbersModel" "unit" "I", Cond.fieldLink RX6 71 "ScoreNumbersModel" "isLess" "Z", Cond.methodLink RX6 67 yX6_plus, Cond.instanceMethod yX6_plus, Cond.selects RX6 yX6_plus yX6_plus, Cond.code yX6_plus cX6_plus 1 (some .boolean), Cond.methodLink RX6 74 yX6_base, Cond.instanceMethod yX6_base, Cond.selects RX6 yX6_base yX6_base, Cond.code yX6_base cX6_base 1 (some .boolean)]
def wsX6_half : List Cond := .code yX6_half cX6_half 2 (some .boolean) :: ((wsX6_half_r1 ++ wsX6_half_r2) ++ wsX60)
def wsX6_number_r1 : List Cond := [Cond.fieldLink RX6 84 "ScoreNumbersModel" "greatUnit" "I", Cond.methodLink RX6 50 yX6_accepts, Cond.instanceMethod yX6_accepts, Cond.selects RX6 yX6_accepts yX6_accepts, Cond.initialized RX6, Cond.code yX6_accepts cX6_accepts 3 (some .boolean), Cond.fieldLink RX6 40 "ScoreNumbersModel" "at" "I", Cond.methodLink RX6 46 yX6_isSign, Cond.instanceMethod yX6_isSign, Cond.selects RX6 yX6_isSign yX6_isSign, Cond.code yX6_isSign cX6_isSign 2 (some .boolean), Cond.fieldLink RX6 43 "ScoreNumbersModel" "size" "I", Cond.fieldLink RX6 16 "ScoreNumbersModel" "say" "[C", Cond.methodLink RX6 90 yX6_and, Cond.instanceMethod yX6_and, Cond.selects RX6 yX6_and yX6_and, Cond.code yX6_and cX6_and 1 (some .boolean), Cond.methodLink RX6 81 yX6_small, Cond.instanceMethod yX6_small, Cond.selects RX6 yX6_small yX6_small, Cond.code yX6_small cX6_small 2 (some .boolean), Cond.methodLink RX6 60 yX6_unitFrom, Cond.instanceMethod yX6_unitFrom, Cond.selects RX6 yX6_unitFrom yX6_unitFrom]
def wsX6_number_r2 : List Cond := [Cond.code yX6_unitFrom cX6_unitFrom 2 (some .int), Cond.methodLink RX6 77 yX6_smallFrom, Cond.instanceMethod yX6_smallFrom, Cond.selects RX6 yX6_smallFrom yX6_smallFrom, Cond.code yX6_smallFrom cX6_smallFrom 2 (some .boolean), Cond.fieldLink RX6 53 "ScoreNumbersModel" "baseUnit" "I", Cond.fieldLink RX6 64 "ScoreNumbersModel" "unit" "I", Cond.fieldLink RX6 71 "ScoreNumbersModel" "isLess" "Z", Cond.methodLink RX6 67 yX6_plus, Cond.instanceMethod yX6_plus, Cond.selects RX6 yX6_plus yX6_plus, Cond.code yX6_plus cX6_plus 1 (some .boolean), Cond.methodLink RX6 74 yX6_base, Cond.instanceMethod yX6_base, Cond.selects RX6 yX6_base yX6_base, Cond.code yX6_base cX6_base 1 (some .boolean), Cond.fieldLink RX6 56 "ScoreNumbersModel" "isBaseHalf" "Z", Cond.methodLink RX6 93 yX6_half, Cond.instanceMethod yX6_half, Cond.selects RX6 yX6_half yX6_half, Cond.code yX6_half cX6_half 2 (some .boolean), Cond.fieldLink RX6 87 "ScoreNumbersModel" "isGreatHalf" "Z"]
def wsX6_number : List Cond := .code yX6_number cX6_number 2 (some .boolean) :: ((wsX6_number_r1 ++ wsX6_number_r2) ++ wsX60)
def wsX6_faultOf_r1 : List Cond := [Cond.fieldLink RX6 43 "ScoreNumbersModel" "size" "I", Cond.fieldLink RX6 40 "ScoreNumbersModel" "at" "I", Cond.fieldLink RX6 84 "ScoreNumbersModel" "greatUnit" "I", Cond.fieldLink RX6 53 "ScoreNumbersModel" "baseUnit" "I", Cond.fieldLink RX6 64 "ScoreNumbersModel" "unit" "I", Cond.fieldLink RX6 87 "ScoreNumbersModel" "isGreatHalf" "Z", Cond.fieldLink RX6 56 "ScoreNumbersModel" "isBaseHalf" "Z", Cond.fieldLink RX6 71 "ScoreNumbersModel" "isLess" "Z", Cond.methodLink RX6 96 yX6_number, Cond.instanceMethod yX6_number, Cond.selects RX6 yX6_number yX6_number, Cond.initialized RX6, Cond.code yX6_number cX6_number 2 (some .boolean), Cond.methodLink RX6 50 yX6_accepts, Cond.instanceMethod yX6_accepts, Cond.selects RX6 yX6_accepts yX6_accepts, Cond.code yX6_accepts cX6_accepts 3 (some .boolean), Cond.methodLink RX6 46 yX6_isSign, Cond.instanceMethod yX6_isSign, Cond.selects RX6 yX6_isSign yX6_isSign, Cond.code yX6_isSign cX6_isSign 2 (some .boolean), Cond.fieldLink RX6 16 "ScoreNumbersModel" "say" "[C", Cond.methodLink RX6 90 yX6_and, Cond.instanceMethod yX6_and]
def wsX6_faultOf_r2 : List Cond := [Cond.selects RX6 yX6_and yX6_and, Cond.code yX6_and cX6_and 1 (some .boolean), Cond.methodLink RX6 81 yX6_small, Cond.instanceMethod yX6_small, Cond.selects RX6 yX6_small yX6_small, Cond.code yX6_small cX6_small 2 (some .boolean), Cond.methodLink RX6 60 yX6_unitFrom, Cond.instanceMethod yX6_unitFrom, Cond.selects RX6 yX6_unitFrom yX6_unitFrom, Cond.code yX6_unitFrom cX6_unitFrom 2 (some .int), Cond.methodLink RX6 77 yX6_smallFrom, Cond.instanceMethod yX6_smallFrom, Cond.selects RX6 yX6_smallFrom yX6_smallFrom, Cond.code yX6_smallFrom cX6_smallFrom 2 (some .boolean), Cond.methodLink RX6 67 yX6_plus, Cond.instanceMethod yX6_plus, Cond.selects RX6 yX6_plus yX6_plus, Cond.code yX6_plus cX6_plus 1 (some .boolean), Cond.methodLink RX6 74 yX6_base, Cond.instanceMethod yX6_base, Cond.selects RX6 yX6_base yX6_base, Cond.code yX6_base cX6_base 1 (some .boolean), Cond.methodLink RX6 93 yX6_half, Cond.instanceMethod yX6_half]
def wsX6_faultOf_r3 : List Cond := [Cond.selects RX6 yX6_half yX6_half, Cond.code yX6_half cX6_half 2 (some .boolean)]
def wsX6_faultOf : List Cond := .code yX6_faultOf cX6_faultOf 3 (some .int) :: ((wsX6_faultOf_r1 ++ (wsX6_faultOf_r2 ++ wsX6_faultOf_r3)) ++ wsX60)
def wsX6_meaningBy : List Cond := .code yX6_meaningBy cX6_meaningBy 7 (some .int) :: ([.fieldLink RX6 84 "ScoreNumbersModel" "greatUnit" "I", .fieldLink RX6 87 "ScoreNumbersModel" "isGreatHalf" "Z", .fieldLink RX6 53 "ScoreNumbersModel" "baseUnit" "I", .fieldLink RX6 56 "ScoreNumbersModel" "isBaseHalf" "Z", .fieldLink RX6 71 "ScoreNumbersModel" "isLess" "Z", .fieldLink RX6 64 "ScoreNumbersModel" "unit" "I"] ++ wsX60)
def wsX6_understands_r1 : List Cond := [Cond.fieldLink RX6 7 "ScoreNumbersModel" "s" "[I", Cond.methodLink RX6 99 yX6_faultOf, Cond.instanceMethod yX6_faultOf, Cond.selects RX6 yX6_faultOf yX6_faultOf, Cond.initialized RX6, Cond.code yX6_faultOf cX6_faultOf 3 (some .int), Cond.fieldLink RX6 43 "ScoreNumbersModel" "size" "I", Cond.fieldLink RX6 40 "ScoreNumbersModel" "at" "I", Cond.fieldLink RX6 84 "ScoreNumbersModel" "greatUnit" "I", Cond.fieldLink RX6 53 "ScoreNumbersModel" "baseUnit" "I", Cond.fieldLink RX6 64 "ScoreNumbersModel" "unit" "I", Cond.fieldLink RX6 87 "ScoreNumbersModel" "isGreatHalf" "Z", Cond.fieldLink RX6 56 "ScoreNumbersModel" "isBaseHalf" "Z", Cond.fieldLink RX6 71 "ScoreNumbersModel" "isLess" "Z", Cond.methodLink RX6 96 yX6_number, Cond.instanceMethod yX6_number, Cond.selects RX6 yX6_number yX6_number, Cond.code yX6_number cX6_number 2 (some .boolean), Cond.methodLink RX6 50 yX6_accepts, Cond.instanceMethod yX6_accepts, Cond.selects RX6 yX6_accepts yX6_accepts, Cond.code yX6_accepts cX6_accepts 3 (some .boolean), Cond.methodLink RX6 46 yX6_isSign, Cond.instanceMethod yX6_isSign]
def wsX6_understands_r2 : List Cond := [Cond.selects RX6 yX6_isSign yX6_isSign, Cond.code yX6_isSign cX6_isSign 2 (some .boolean), Cond.fieldLink RX6 16 "ScoreNumbersModel" "say" "[C", Cond.methodLink RX6 90 yX6_and, Cond.instanceMethod yX6_and, Cond.selects RX6 yX6_and yX6_and, Cond.code yX6_and cX6_and 1 (some .boolean), Cond.methodLink RX6 81 yX6_small, Cond.instanceMethod yX6_small, Cond.selects RX6 yX6_small yX6_small, Cond.code yX6_small cX6_small 2 (some .boolean), Cond.methodLink RX6 60 yX6_unitFrom, Cond.instanceMethod yX6_unitFrom, Cond.selects RX6 yX6_unitFrom yX6_unitFrom, Cond.code yX6_unitFrom cX6_unitFrom 2 (some .int), Cond.methodLink RX6 77 yX6_smallFrom, Cond.instanceMethod yX6_smallFrom, Cond.selects RX6 yX6_smallFrom yX6_smallFrom, Cond.code yX6_smallFrom cX6_smallFrom 2 (some .boolean), Cond.methodLink RX6 67 yX6_plus, Cond.instanceMethod yX6_plus, Cond.selects RX6 yX6_plus yX6_plus, Cond.code yX6_plus cX6_plus 1 (some .boolean), Cond.methodLink RX6 74 yX6_base]
def wsX6_understands_r3 : List Cond := [Cond.instanceMethod yX6_base, Cond.selects RX6 yX6_base yX6_base, Cond.code yX6_base cX6_base 1 (some .boolean), Cond.methodLink RX6 93 yX6_half, Cond.instanceMethod yX6_half, Cond.selects RX6 yX6_half yX6_half, Cond.code yX6_half cX6_half 2 (some .boolean), Cond.methodLink RX6 103 yX6_meaningBy, Cond.instanceMethod yX6_meaningBy, Cond.selects RX6 yX6_meaningBy yX6_meaningBy, Cond.code yX6_meaningBy cX6_meaningBy 7 (some .int)]
def wsX6_understands : List Cond := .code yX6_understands cX6_understands 5 (some .int) :: ((wsX6_understands_r1 ++ (wsX6_understands_r2 ++ wsX6_understands_r3)) ++ wsX60)
def wsX6_put : List Cond := .code yX6_put cX6_put 2 none :: ([.fieldLink RX6 23 "ScoreNumbersModel" "ways" "[C", .fieldLink RX6 107 "ScoreNumbersModel" "many" "I", .fieldLink RX6 26 "ScoreNumbersModel" "lengths" "[I"] ++ wsX60)
def wsX6_putCount : List Cond := .code yX6_putCount cX6_putCount 4 none :: ([.methodLink RX6 110 yX6_put, .instanceMethod yX6_put, .selects RX6 yX6_put yX6_put, .initialized RX6, .code yX6_put cX6_put 2 none, .fieldLink RX6 23 "ScoreNumbersModel" "ways" "[C", .fieldLink RX6 107 "ScoreNumbersModel" "many" "I", .fieldLink RX6 26 "ScoreNumbersModel" "lengths" "[I"] ++ wsX60)
def wsX6_begins : List Cond := .code yX6_begins cX6_begins 3 none :: ([.fieldLink RX6 26 "ScoreNumbersModel" "lengths" "[I", .fieldLink RX6 107 "ScoreNumbersModel" "many" "I", .methodLink RX6 114 yX6_putCount, .instanceMethod yX6_putCount, .selects RX6 yX6_putCount yX6_putCount, .initialized RX6, .code yX6_putCount cX6_putCount 4 none, .methodLink RX6 110 yX6_put, .instanceMethod yX6_put, .selects RX6 yX6_put yX6_put, .code yX6_put cX6_put 2 none, .fieldLink RX6 23 "ScoreNumbersModel" "ways" "[C"] ++ wsX60)
def wsX6_isBase : List Cond := .code yX6_isBase cX6_isBase 1 (some .boolean) :: ([.methodLink RX6 32 yX6_in, .static yX6_in, .initialized RX6, .code yX6_in cX6_in 3 (some .boolean)])
def wsX6_putBase : List Cond := .code yX6_putBase cX6_putBase 2 none :: ([.methodLink RX6 114 yX6_putCount, .instanceMethod yX6_putCount, .selects RX6 yX6_putCount yX6_putCount, .initialized RX6, .code yX6_putCount cX6_putCount 4 none, .methodLink RX6 110 yX6_put, .instanceMethod yX6_put, .selects RX6 yX6_put yX6_put, .code yX6_put cX6_put 2 none, .fieldLink RX6 23 "ScoreNumbersModel" "ways" "[C", .fieldLink RX6 107 "ScoreNumbersModel" "many" "I", .fieldLink RX6 26 "ScoreNumbersModel" "lengths" "[I"] ++ wsX60)
def wsX6_smalls_r1 : List Cond := [Cond.fieldLink RX6 107 "ScoreNumbersModel" "many" "I", Cond.methodLink RX6 118 yX6_begins, Cond.instanceMethod yX6_begins, Cond.selects RX6 yX6_begins yX6_begins, Cond.initialized RX6, Cond.code yX6_begins cX6_begins 3 none, Cond.fieldLink RX6 26 "ScoreNumbersModel" "lengths" "[I", Cond.methodLink RX6 114 yX6_putCount, Cond.instanceMethod yX6_putCount, Cond.selects RX6 yX6_putCount yX6_putCount, Cond.code yX6_putCount cX6_putCount 4 none, Cond.methodLink RX6 110 yX6_put, Cond.instanceMethod yX6_put, Cond.selects RX6 yX6_put yX6_put, Cond.code yX6_put cX6_put 2 none, Cond.fieldLink RX6 23 "ScoreNumbersModel" "ways" "[C", Cond.methodLink RX6 122 yX6_isBase, Cond.static yX6_isBase, Cond.code yX6_isBase cX6_isBase 1 (some .boolean), Cond.methodLink RX6 32 yX6_in, Cond.static yX6_in, Cond.code yX6_in cX6_in 3 (some .boolean), Cond.methodLink RX6 125 yX6_putBase, Cond.instanceMethod yX6_putBase]
def wsX6_smalls_r2 : List Cond := [Cond.selects RX6 yX6_putBase yX6_putBase, Cond.code yX6_putBase cX6_putBase 2 none]
def wsX6_smalls : List Cond := .code yX6_smalls cX6_smalls 5 none :: ((wsX6_smalls_r1 ++ wsX6_smalls_r2) ++ wsX60)
def wsX6_isAhead : List Cond := .code yX6_isAhead cX6_isAhead 4 (some .boolean) :: ([.fieldLink RX6 26 "ScoreNumbersModel" "lengths" "[I", .fieldLink RX6 23 "ScoreNumbersModel" "ways" "[C"] ++ wsX60)
def wsX6_makes_r1 : List Cond := [Cond.fieldLink RX6 107 "ScoreNumbersModel" "many" "I", Cond.fieldLink RX6 29 "ScoreNumbersModel" "order" "[I", Cond.methodLink RX6 118 yX6_begins, Cond.instanceMethod yX6_begins, Cond.selects RX6 yX6_begins yX6_begins, Cond.initialized RX6, Cond.code yX6_begins cX6_begins 3 none, Cond.fieldLink RX6 26 "ScoreNumbersModel" "lengths" "[I", Cond.methodLink RX6 114 yX6_putCount, Cond.instanceMethod yX6_putCount, Cond.selects RX6 yX6_putCount yX6_putCount, Cond.code yX6_putCount cX6_putCount 4 none, Cond.methodLink RX6 110 yX6_put, Cond.instanceMethod yX6_put, Cond.selects RX6 yX6_put yX6_put, Cond.code yX6_put cX6_put 2 none, Cond.fieldLink RX6 23 "ScoreNumbersModel" "ways" "[C", Cond.methodLink RX6 129 yX6_smalls, Cond.instanceMethod yX6_smalls, Cond.selects RX6 yX6_smalls yX6_smalls, Cond.code yX6_smalls cX6_smalls 5 none, Cond.methodLink RX6 122 yX6_isBase, Cond.static yX6_isBase, Cond.code yX6_isBase cX6_isBase 1 (some .boolean)]
def wsX6_makes_r2 : List Cond := [Cond.methodLink RX6 32 yX6_in, Cond.static yX6_in, Cond.code yX6_in cX6_in 3 (some .boolean), Cond.methodLink RX6 125 yX6_putBase, Cond.instanceMethod yX6_putBase, Cond.selects RX6 yX6_putBase yX6_putBase, Cond.code yX6_putBase cX6_putBase 2 none, Cond.methodLink RX6 133 yX6_isAhead, Cond.instanceMethod yX6_isAhead, Cond.selects RX6 yX6_isAhead yX6_isAhead, Cond.code yX6_isAhead cX6_isAhead 4 (some .boolean)]
def wsX6_makes : List Cond := .code yX6_makes cX6_makes 5 none :: ((wsX6_makes_r1 ++ wsX6_makes_r2) ++ wsX60)
def wsX6_says : List Cond := .code yX6_says cX6_says 4 (some .int) :: ([.fieldLink RX6 29 "ScoreNumbersModel" "order" "[I", .fieldLink RX6 26 "ScoreNumbersModel" "lengths" "[I", .fieldLink RX6 16 "ScoreNumbersModel" "say" "[C", .fieldLink RX6 23 "ScoreNumbersModel" "ways" "[C"] ++ wsX60)
def wsX6_has : List Cond := .code yX6_has cX6_has 5 (some .boolean) :: ([.fieldLink RX6 26 "ScoreNumbersModel" "lengths" "[I", .fieldLink RX6 23 "ScoreNumbersModel" "ways" "[C"] ++ wsX60)
def wsX6_placeOf : List Cond := .code yX6_placeOf cX6_placeOf 7 (some .int) :: ([.fieldLink RX6 107 "ScoreNumbersModel" "many" "I", .fieldLink RX6 29 "ScoreNumbersModel" "order" "[I", .methodLink RX6 137 yX6_has, .instanceMethod yX6_has, .selects RX6 yX6_has yX6_has, .initialized RX6, .code yX6_has cX6_has 5 (some .boolean), .fieldLink RX6 26 "ScoreNumbersModel" "lengths" "[I", .fieldLink RX6 23 "ScoreNumbersModel" "ways" "[C"] ++ wsX60)
def wsX6_known : List Cond := .code yX6_known cX6_known 3 (some .int) :: ([.fieldLink RX6 7 "ScoreNumbersModel" "s" "[I"] ++ wsX60)
def wsX6_makesKnown : List Cond := .code yX6_makesKnown cX6_makesKnown 4 (some .int) :: ([.fieldLink RX6 7 "ScoreNumbersModel" "s" "[I", .methodLink RX6 141 yX6_isHearer, .static yX6_isHearer, .initialized RX6, .code yX6_isHearer cX6_isHearer 1 (some .boolean), .methodLink RX6 32 yX6_in, .static yX6_in, .code yX6_in cX6_in 3 (some .boolean), .methodLink RX6 144 yX6_record, .instanceMethod yX6_record, .selects RX6 yX6_record yX6_record, .code yX6_record cX6_record 2 none, .fieldLink RX6 36 "ScoreNumbersModel" "states" "I", .fieldLink RX6 13 "ScoreNumbersModel" "before" "[I", .methodLink RX6 147 yX6_known, .instanceMethod yX6_known, .selects RX6 yX6_known yX6_known, .code yX6_known cX6_known 3 (some .int)] ++ wsX60)
def wsX6_learn : List Cond := .code yX6_learn cX6_learn 3 (some .int) :: ([.methodLink RX6 150 yX6_makesKnown, .instanceMethod yX6_makesKnown, .selects RX6 yX6_makesKnown yX6_makesKnown, .initialized RX6, .code yX6_makesKnown cX6_makesKnown 4 (some .int), .fieldLink RX6 7 "ScoreNumbersModel" "s" "[I", .methodLink RX6 141 yX6_isHearer, .static yX6_isHearer, .code yX6_isHearer cX6_isHearer 1 (some .boolean), .methodLink RX6 32 yX6_in, .static yX6_in, .code yX6_in cX6_in 3 (some .boolean), .methodLink RX6 144 yX6_record, .instanceMethod yX6_record, .selects RX6 yX6_record yX6_record, .code yX6_record cX6_record 2 none, .fieldLink RX6 36 "ScoreNumbersModel" "states" "I", .fieldLink RX6 13 "ScoreNumbersModel" "before" "[I", .methodLink RX6 147 yX6_known, .instanceMethod yX6_known, .selects RX6 yX6_known yX6_known, .code yX6_known cX6_known 3 (some .int)] ++ wsX60)
def wsX6_unlearn : List Cond := .code yX6_unlearn cX6_unlearn 3 (some .int) :: ([.methodLink RX6 150 yX6_makesKnown, .instanceMethod yX6_makesKnown, .selects RX6 yX6_makesKnown yX6_makesKnown, .initialized RX6, .code yX6_makesKnown cX6_makesKnown 4 (some .int), .fieldLink RX6 7 "ScoreNumbersModel" "s" "[I", .methodLink RX6 141 yX6_isHearer, .static yX6_isHearer, .code yX6_isHearer cX6_isHearer 1 (some .boolean), .methodLink RX6 32 yX6_in, .static yX6_in, .code yX6_in cX6_in 3 (some .boolean), .methodLink RX6 144 yX6_record, .instanceMethod yX6_record, .selects RX6 yX6_record yX6_record, .code yX6_record cX6_record 2 none, .fieldLink RX6 36 "ScoreNumbersModel" "states" "I", .fieldLink RX6 13 "ScoreNumbersModel" "before" "[I", .methodLink RX6 147 yX6_known, .instanceMethod yX6_known, .selects RX6 yX6_known yX6_known, .code yX6_known cX6_known 3 (some .int)] ++ wsX60)
def wsX6_attend : List Cond := .code yX6_attend cX6_attend 4 (some .int) :: ([.fieldLink RX6 7 "ScoreNumbersModel" "s" "[I", .methodLink RX6 141 yX6_isHearer, .static yX6_isHearer, .initialized RX6, .code yX6_isHearer cX6_isHearer 1 (some .boolean), .methodLink RX6 32 yX6_in, .static yX6_in, .code yX6_in cX6_in 3 (some .boolean), .methodLink RX6 144 yX6_record, .instanceMethod yX6_record, .selects RX6 yX6_record yX6_record, .code yX6_record cX6_record 2 none, .fieldLink RX6 36 "ScoreNumbersModel" "states" "I", .fieldLink RX6 13 "ScoreNumbersModel" "before" "[I"] ++ wsX60)
def wsX6_set : List Cond := .code yX6_set cX6_set 3 (some .int) :: ([.fieldLink RX6 7 "ScoreNumbersModel" "s" "[I", .methodLink RX6 32 yX6_in, .static yX6_in, .initialized RX6, .code yX6_in cX6_in 3 (some .boolean), .methodLink RX6 144 yX6_record, .instanceMethod yX6_record, .selects RX6 yX6_record yX6_record, .code yX6_record cX6_record 2 none, .fieldLink RX6 36 "ScoreNumbersModel" "states" "I", .fieldLink RX6 13 "ScoreNumbersModel" "before" "[I"] ++ wsX60)
def wsX6_saysWord : List Cond := .code yX6_saysWord cX6_saysWord 5 (some .boolean) :: ([.fieldLink RX6 16 "ScoreNumbersModel" "say" "[C"] ++ wsX60)
def wsX6_doubts : List Cond := .code yX6_doubts cX6_doubts 4 (some .int) :: ([.fieldLink RX6 7 "ScoreNumbersModel" "s" "[I"] ++ wsX60)
def wsX6_logs : List Cond := .code yX6_logs cX6_logs 7 none :: ([.fieldLink RX6 7 "ScoreNumbersModel" "s" "[I"] ++ wsX60)
def wsX6_tells_r1 : List Cond := [Cond.fieldLink RX6 7 "ScoreNumbersModel" "s" "[I", Cond.methodLink RX6 144 yX6_record, Cond.instanceMethod yX6_record, Cond.selects RX6 yX6_record yX6_record, Cond.initialized RX6, Cond.code yX6_record cX6_record 2 none, Cond.fieldLink RX6 36 "ScoreNumbersModel" "states" "I", Cond.fieldLink RX6 13 "ScoreNumbersModel" "before" "[I", Cond.methodLink RX6 154 yX6_understands, Cond.instanceMethod yX6_understands, Cond.selects RX6 yX6_understands yX6_understands, Cond.code yX6_understands cX6_understands 5 (some .int), Cond.methodLink RX6 99 yX6_faultOf, Cond.instanceMethod yX6_faultOf, Cond.selects RX6 yX6_faultOf yX6_faultOf, Cond.code yX6_faultOf cX6_faultOf 3 (some .int), Cond.fieldLink RX6 43 "ScoreNumbersModel" "size" "I", Cond.fieldLink RX6 40 "ScoreNumbersModel" "at" "I", Cond.fieldLink RX6 84 "ScoreNumbersModel" "greatUnit" "I", Cond.fieldLink RX6 53 "ScoreNumbersModel" "baseUnit" "I", Cond.fieldLink RX6 64 "ScoreNumbersModel" "unit" "I", Cond.fieldLink RX6 87 "ScoreNumbersModel" "isGreatHalf" "Z", Cond.fieldLink RX6 56 "ScoreNumbersModel" "isBaseHalf" "Z", Cond.fieldLink RX6 71 "ScoreNumbersModel" "isLess" "Z"]
def wsX6_tells_r2 : List Cond := [Cond.methodLink RX6 96 yX6_number, Cond.instanceMethod yX6_number, Cond.selects RX6 yX6_number yX6_number, Cond.code yX6_number cX6_number 2 (some .boolean), Cond.methodLink RX6 50 yX6_accepts, Cond.instanceMethod yX6_accepts, Cond.selects RX6 yX6_accepts yX6_accepts, Cond.code yX6_accepts cX6_accepts 3 (some .boolean), Cond.methodLink RX6 46 yX6_isSign, Cond.instanceMethod yX6_isSign, Cond.selects RX6 yX6_isSign yX6_isSign, Cond.code yX6_isSign cX6_isSign 2 (some .boolean), Cond.fieldLink RX6 16 "ScoreNumbersModel" "say" "[C", Cond.methodLink RX6 90 yX6_and, Cond.instanceMethod yX6_and, Cond.selects RX6 yX6_and yX6_and, Cond.code yX6_and cX6_and 1 (some .boolean), Cond.methodLink RX6 81 yX6_small, Cond.instanceMethod yX6_small, Cond.selects RX6 yX6_small yX6_small, Cond.code yX6_small cX6_small 2 (some .boolean), Cond.methodLink RX6 60 yX6_unitFrom, Cond.instanceMethod yX6_unitFrom, Cond.selects RX6 yX6_unitFrom yX6_unitFrom]
def wsX6_tells_r3 : List Cond := [Cond.code yX6_unitFrom cX6_unitFrom 2 (some .int), Cond.methodLink RX6 77 yX6_smallFrom, Cond.instanceMethod yX6_smallFrom, Cond.selects RX6 yX6_smallFrom yX6_smallFrom, Cond.code yX6_smallFrom cX6_smallFrom 2 (some .boolean), Cond.methodLink RX6 67 yX6_plus, Cond.instanceMethod yX6_plus, Cond.selects RX6 yX6_plus yX6_plus, Cond.code yX6_plus cX6_plus 1 (some .boolean), Cond.methodLink RX6 74 yX6_base, Cond.instanceMethod yX6_base, Cond.selects RX6 yX6_base yX6_base, Cond.code yX6_base cX6_base 1 (some .boolean), Cond.methodLink RX6 93 yX6_half, Cond.instanceMethod yX6_half, Cond.selects RX6 yX6_half yX6_half, Cond.code yX6_half cX6_half 2 (some .boolean), Cond.methodLink RX6 103 yX6_meaningBy, Cond.instanceMethod yX6_meaningBy, Cond.selects RX6 yX6_meaningBy yX6_meaningBy, Cond.code yX6_meaningBy cX6_meaningBy 7 (some .int), Cond.methodLink RX6 158 yX6_saysWord, Cond.instanceMethod yX6_saysWord, Cond.selects RX6 yX6_saysWord yX6_saysWord]
def wsX6_tells_r4 : List Cond := [Cond.code yX6_saysWord cX6_saysWord 5 (some .boolean), Cond.methodLink RX6 162 yX6_doubts, Cond.instanceMethod yX6_doubts, Cond.selects RX6 yX6_doubts yX6_doubts, Cond.code yX6_doubts cX6_doubts 4 (some .int), Cond.methodLink RX6 165 yX6_logs, Cond.instanceMethod yX6_logs, Cond.selects RX6 yX6_logs yX6_logs, Cond.code yX6_logs cX6_logs 7 none]
def wsX6_tells : List Cond := .code yX6_tells cX6_tells 6 (some .int) :: ((wsX6_tells_r1 ++ (wsX6_tells_r2 ++ (wsX6_tells_r3 ++ wsX6_tells_r4))) ++ wsX60)
def wsX6_tell_r1 : List Cond := [Cond.methodLink RX6 141 yX6_isHearer, Cond.static yX6_isHearer, Cond.initialized RX6, Cond.code yX6_isHearer cX6_isHearer 1 (some .boolean), Cond.methodLink RX6 32 yX6_in, Cond.static yX6_in, Cond.code yX6_in cX6_in 3 (some .boolean), Cond.methodLink RX6 169 yX6_isNumber, Cond.static yX6_isNumber, Cond.code yX6_isNumber cX6_isNumber 1 (some .boolean), Cond.methodLink RX6 172 yX6_makes, Cond.instanceMethod yX6_makes, Cond.selects RX6 yX6_makes yX6_makes, Cond.code yX6_makes cX6_makes 5 none, Cond.fieldLink RX6 107 "ScoreNumbersModel" "many" "I", Cond.fieldLink RX6 29 "ScoreNumbersModel" "order" "[I", Cond.methodLink RX6 118 yX6_begins, Cond.instanceMethod yX6_begins, Cond.selects RX6 yX6_begins yX6_begins, Cond.code yX6_begins cX6_begins 3 none, Cond.fieldLink RX6 26 "ScoreNumbersModel" "lengths" "[I", Cond.methodLink RX6 114 yX6_putCount, Cond.instanceMethod yX6_putCount, Cond.selects RX6 yX6_putCount yX6_putCount]
def wsX6_tell_r2 : List Cond := [Cond.code yX6_putCount cX6_putCount 4 none, Cond.methodLink RX6 110 yX6_put, Cond.instanceMethod yX6_put, Cond.selects RX6 yX6_put yX6_put, Cond.code yX6_put cX6_put 2 none, Cond.fieldLink RX6 23 "ScoreNumbersModel" "ways" "[C", Cond.methodLink RX6 129 yX6_smalls, Cond.instanceMethod yX6_smalls, Cond.selects RX6 yX6_smalls yX6_smalls, Cond.code yX6_smalls cX6_smalls 5 none, Cond.methodLink RX6 122 yX6_isBase, Cond.static yX6_isBase, Cond.code yX6_isBase cX6_isBase 1 (some .boolean), Cond.methodLink RX6 125 yX6_putBase, Cond.instanceMethod yX6_putBase, Cond.selects RX6 yX6_putBase yX6_putBase, Cond.code yX6_putBase cX6_putBase 2 none, Cond.methodLink RX6 133 yX6_isAhead, Cond.instanceMethod yX6_isAhead, Cond.selects RX6 yX6_isAhead yX6_isAhead, Cond.code yX6_isAhead cX6_isAhead 4 (some .boolean), Cond.methodLink RX6 175 yX6_placeOf, Cond.instanceMethod yX6_placeOf, Cond.selects RX6 yX6_placeOf yX6_placeOf]
def wsX6_tell_r3 : List Cond := [Cond.code yX6_placeOf cX6_placeOf 7 (some .int), Cond.methodLink RX6 137 yX6_has, Cond.instanceMethod yX6_has, Cond.selects RX6 yX6_has yX6_has, Cond.code yX6_has cX6_has 5 (some .boolean), Cond.methodLink RX6 178 yX6_says, Cond.instanceMethod yX6_says, Cond.selects RX6 yX6_says yX6_says, Cond.code yX6_says cX6_says 4 (some .int), Cond.fieldLink RX6 16 "ScoreNumbersModel" "say" "[C", Cond.methodLink RX6 181 yX6_tells, Cond.instanceMethod yX6_tells, Cond.selects RX6 yX6_tells yX6_tells, Cond.code yX6_tells cX6_tells 6 (some .int), Cond.fieldLink RX6 7 "ScoreNumbersModel" "s" "[I", Cond.methodLink RX6 144 yX6_record, Cond.instanceMethod yX6_record, Cond.selects RX6 yX6_record yX6_record, Cond.code yX6_record cX6_record 2 none, Cond.fieldLink RX6 36 "ScoreNumbersModel" "states" "I", Cond.fieldLink RX6 13 "ScoreNumbersModel" "before" "[I", Cond.methodLink RX6 154 yX6_understands, Cond.instanceMethod yX6_understands, Cond.selects RX6 yX6_understands yX6_understands]
def wsX6_tell_r4 : List Cond := [Cond.code yX6_understands cX6_understands 5 (some .int), Cond.methodLink RX6 99 yX6_faultOf, Cond.instanceMethod yX6_faultOf, Cond.selects RX6 yX6_faultOf yX6_faultOf, Cond.code yX6_faultOf cX6_faultOf 3 (some .int), Cond.fieldLink RX6 43 "ScoreNumbersModel" "size" "I", Cond.fieldLink RX6 40 "ScoreNumbersModel" "at" "I", Cond.fieldLink RX6 84 "ScoreNumbersModel" "greatUnit" "I", Cond.fieldLink RX6 53 "ScoreNumbersModel" "baseUnit" "I", Cond.fieldLink RX6 64 "ScoreNumbersModel" "unit" "I", Cond.fieldLink RX6 87 "ScoreNumbersModel" "isGreatHalf" "Z", Cond.fieldLink RX6 56 "ScoreNumbersModel" "isBaseHalf" "Z", Cond.fieldLink RX6 71 "ScoreNumbersModel" "isLess" "Z", Cond.methodLink RX6 96 yX6_number, Cond.instanceMethod yX6_number, Cond.selects RX6 yX6_number yX6_number, Cond.code yX6_number cX6_number 2 (some .boolean), Cond.methodLink RX6 50 yX6_accepts, Cond.instanceMethod yX6_accepts, Cond.selects RX6 yX6_accepts yX6_accepts, Cond.code yX6_accepts cX6_accepts 3 (some .boolean), Cond.methodLink RX6 46 yX6_isSign, Cond.instanceMethod yX6_isSign, Cond.selects RX6 yX6_isSign yX6_isSign]
def wsX6_tell_r5 : List Cond := [Cond.code yX6_isSign cX6_isSign 2 (some .boolean), Cond.methodLink RX6 90 yX6_and, Cond.instanceMethod yX6_and, Cond.selects RX6 yX6_and yX6_and, Cond.code yX6_and cX6_and 1 (some .boolean), Cond.methodLink RX6 81 yX6_small, Cond.instanceMethod yX6_small, Cond.selects RX6 yX6_small yX6_small, Cond.code yX6_small cX6_small 2 (some .boolean), Cond.methodLink RX6 60 yX6_unitFrom, Cond.instanceMethod yX6_unitFrom, Cond.selects RX6 yX6_unitFrom yX6_unitFrom, Cond.code yX6_unitFrom cX6_unitFrom 2 (some .int), Cond.methodLink RX6 77 yX6_smallFrom, Cond.instanceMethod yX6_smallFrom, Cond.selects RX6 yX6_smallFrom yX6_smallFrom, Cond.code yX6_smallFrom cX6_smallFrom 2 (some .boolean), Cond.methodLink RX6 67 yX6_plus, Cond.instanceMethod yX6_plus, Cond.selects RX6 yX6_plus yX6_plus, Cond.code yX6_plus cX6_plus 1 (some .boolean), Cond.methodLink RX6 74 yX6_base, Cond.instanceMethod yX6_base, Cond.selects RX6 yX6_base yX6_base]
def wsX6_tell_r6 : List Cond := [Cond.code yX6_base cX6_base 1 (some .boolean), Cond.methodLink RX6 93 yX6_half, Cond.instanceMethod yX6_half, Cond.selects RX6 yX6_half yX6_half, Cond.code yX6_half cX6_half 2 (some .boolean), Cond.methodLink RX6 103 yX6_meaningBy, Cond.instanceMethod yX6_meaningBy, Cond.selects RX6 yX6_meaningBy yX6_meaningBy, Cond.code yX6_meaningBy cX6_meaningBy 7 (some .int), Cond.methodLink RX6 158 yX6_saysWord, Cond.instanceMethod yX6_saysWord, Cond.selects RX6 yX6_saysWord yX6_saysWord, Cond.code yX6_saysWord cX6_saysWord 5 (some .boolean), Cond.methodLink RX6 162 yX6_doubts, Cond.instanceMethod yX6_doubts, Cond.selects RX6 yX6_doubts yX6_doubts, Cond.code yX6_doubts cX6_doubts 4 (some .int), Cond.methodLink RX6 165 yX6_logs, Cond.instanceMethod yX6_logs, Cond.selects RX6 yX6_logs yX6_logs, Cond.code yX6_logs cX6_logs 7 none]
def wsX6_tell : List Cond := .code yX6_tell cX6_tell 4 (some .int) :: ((wsX6_tell_r1 ++ (wsX6_tell_r2 ++ (wsX6_tell_r3 ++ (wsX6_tell_r4 ++ (wsX6_tell_r5 ++ wsX6_tell_r6))))) ++ wsX60)
def wsX6_textFault_r1 : List Cond := [Cond.fieldLink RX6 184 "ScoreNumbersModel" "length" "I", Cond.fieldLink RX6 16 "ScoreNumbersModel" "say" "[C", Cond.fieldLink RX6 20 "ScoreNumbersModel" "text" "[C", Cond.methodLink RX6 99 yX6_faultOf, Cond.instanceMethod yX6_faultOf, Cond.selects RX6 yX6_faultOf yX6_faultOf, Cond.initialized RX6, Cond.code yX6_faultOf cX6_faultOf 3 (some .int), Cond.fieldLink RX6 43 "ScoreNumbersModel" "size" "I", Cond.fieldLink RX6 40 "ScoreNumbersModel" "at" "I", Cond.fieldLink RX6 84 "ScoreNumbersModel" "greatUnit" "I", Cond.fieldLink RX6 53 "ScoreNumbersModel" "baseUnit" "I", Cond.fieldLink RX6 64 "ScoreNumbersModel" "unit" "I", Cond.fieldLink RX6 87 "ScoreNumbersModel" "isGreatHalf" "Z", Cond.fieldLink RX6 56 "ScoreNumbersModel" "isBaseHalf" "Z", Cond.fieldLink RX6 71 "ScoreNumbersModel" "isLess" "Z", Cond.methodLink RX6 96 yX6_number, Cond.instanceMethod yX6_number, Cond.selects RX6 yX6_number yX6_number, Cond.code yX6_number cX6_number 2 (some .boolean), Cond.methodLink RX6 50 yX6_accepts, Cond.instanceMethod yX6_accepts, Cond.selects RX6 yX6_accepts yX6_accepts, Cond.code yX6_accepts cX6_accepts 3 (some .boolean)]
def wsX6_textFault_r2 : List Cond := [Cond.methodLink RX6 46 yX6_isSign, Cond.instanceMethod yX6_isSign, Cond.selects RX6 yX6_isSign yX6_isSign, Cond.code yX6_isSign cX6_isSign 2 (some .boolean), Cond.methodLink RX6 90 yX6_and, Cond.instanceMethod yX6_and, Cond.selects RX6 yX6_and yX6_and, Cond.code yX6_and cX6_and 1 (some .boolean), Cond.methodLink RX6 81 yX6_small, Cond.instanceMethod yX6_small, Cond.selects RX6 yX6_small yX6_small, Cond.code yX6_small cX6_small 2 (some .boolean), Cond.methodLink RX6 60 yX6_unitFrom, Cond.instanceMethod yX6_unitFrom, Cond.selects RX6 yX6_unitFrom yX6_unitFrom, Cond.code yX6_unitFrom cX6_unitFrom 2 (some .int), Cond.methodLink RX6 77 yX6_smallFrom, Cond.instanceMethod yX6_smallFrom, Cond.selects RX6 yX6_smallFrom yX6_smallFrom, Cond.code yX6_smallFrom cX6_smallFrom 2 (some .boolean), Cond.methodLink RX6 67 yX6_plus, Cond.instanceMethod yX6_plus, Cond.selects RX6 yX6_plus yX6_plus, Cond.code yX6_plus cX6_plus 1 (some .boolean)]
def wsX6_textFault_r3 : List Cond := [Cond.methodLink RX6 74 yX6_base, Cond.instanceMethod yX6_base, Cond.selects RX6 yX6_base yX6_base, Cond.code yX6_base cX6_base 1 (some .boolean), Cond.methodLink RX6 93 yX6_half, Cond.instanceMethod yX6_half, Cond.selects RX6 yX6_half yX6_half, Cond.code yX6_half cX6_half 2 (some .boolean)]
def wsX6_textFault : List Cond := .code yX6_textFault cX6_textFault 2 (some .int) :: ((wsX6_textFault_r1 ++ (wsX6_textFault_r2 ++ wsX6_textFault_r3)) ++ wsX60)
def wsX6_tellText_r1 : List Cond := [Cond.fieldLink RX6 184 "ScoreNumbersModel" "length" "I", Cond.methodLink RX6 141 yX6_isHearer, Cond.static yX6_isHearer, Cond.initialized RX6, Cond.code yX6_isHearer cX6_isHearer 1 (some .boolean), Cond.methodLink RX6 32 yX6_in, Cond.static yX6_in, Cond.code yX6_in cX6_in 3 (some .boolean), Cond.methodLink RX6 187 yX6_textFault, Cond.instanceMethod yX6_textFault, Cond.selects RX6 yX6_textFault yX6_textFault, Cond.code yX6_textFault cX6_textFault 2 (some .int), Cond.fieldLink RX6 16 "ScoreNumbersModel" "say" "[C", Cond.fieldLink RX6 20 "ScoreNumbersModel" "text" "[C", Cond.methodLink RX6 99 yX6_faultOf, Cond.instanceMethod yX6_faultOf, Cond.selects RX6 yX6_faultOf yX6_faultOf, Cond.code yX6_faultOf cX6_faultOf 3 (some .int), Cond.fieldLink RX6 43 "ScoreNumbersModel" "size" "I", Cond.fieldLink RX6 40 "ScoreNumbersModel" "at" "I", Cond.fieldLink RX6 84 "ScoreNumbersModel" "greatUnit" "I", Cond.fieldLink RX6 53 "ScoreNumbersModel" "baseUnit" "I", Cond.fieldLink RX6 64 "ScoreNumbersModel" "unit" "I", Cond.fieldLink RX6 87 "ScoreNumbersModel" "isGreatHalf" "Z"]
def wsX6_tellText_r2 : List Cond := [Cond.fieldLink RX6 56 "ScoreNumbersModel" "isBaseHalf" "Z", Cond.fieldLink RX6 71 "ScoreNumbersModel" "isLess" "Z", Cond.methodLink RX6 96 yX6_number, Cond.instanceMethod yX6_number, Cond.selects RX6 yX6_number yX6_number, Cond.code yX6_number cX6_number 2 (some .boolean), Cond.methodLink RX6 50 yX6_accepts, Cond.instanceMethod yX6_accepts, Cond.selects RX6 yX6_accepts yX6_accepts, Cond.code yX6_accepts cX6_accepts 3 (some .boolean), Cond.methodLink RX6 46 yX6_isSign, Cond.instanceMethod yX6_isSign, Cond.selects RX6 yX6_isSign yX6_isSign, Cond.code yX6_isSign cX6_isSign 2 (some .boolean), Cond.methodLink RX6 90 yX6_and, Cond.instanceMethod yX6_and, Cond.selects RX6 yX6_and yX6_and, Cond.code yX6_and cX6_and 1 (some .boolean), Cond.methodLink RX6 81 yX6_small, Cond.instanceMethod yX6_small, Cond.selects RX6 yX6_small yX6_small, Cond.code yX6_small cX6_small 2 (some .boolean), Cond.methodLink RX6 60 yX6_unitFrom, Cond.instanceMethod yX6_unitFrom]
def wsX6_tellText_r3 : List Cond := [Cond.selects RX6 yX6_unitFrom yX6_unitFrom, Cond.code yX6_unitFrom cX6_unitFrom 2 (some .int), Cond.methodLink RX6 77 yX6_smallFrom, Cond.instanceMethod yX6_smallFrom, Cond.selects RX6 yX6_smallFrom yX6_smallFrom, Cond.code yX6_smallFrom cX6_smallFrom 2 (some .boolean), Cond.methodLink RX6 67 yX6_plus, Cond.instanceMethod yX6_plus, Cond.selects RX6 yX6_plus yX6_plus, Cond.code yX6_plus cX6_plus 1 (some .boolean), Cond.methodLink RX6 74 yX6_base, Cond.instanceMethod yX6_base, Cond.selects RX6 yX6_base yX6_base, Cond.code yX6_base cX6_base 1 (some .boolean), Cond.methodLink RX6 93 yX6_half, Cond.instanceMethod yX6_half, Cond.selects RX6 yX6_half yX6_half, Cond.code yX6_half cX6_half 2 (some .boolean), Cond.methodLink RX6 103 yX6_meaningBy, Cond.instanceMethod yX6_meaningBy, Cond.selects RX6 yX6_meaningBy yX6_meaningBy, Cond.code yX6_meaningBy cX6_meaningBy 7 (some .int), Cond.methodLink RX6 181 yX6_tells, Cond.instanceMethod yX6_tells]
def wsX6_tellText_r4 : List Cond := [Cond.selects RX6 yX6_tells yX6_tells, Cond.code yX6_tells cX6_tells 6 (some .int), Cond.fieldLink RX6 7 "ScoreNumbersModel" "s" "[I", Cond.methodLink RX6 144 yX6_record, Cond.instanceMethod yX6_record, Cond.selects RX6 yX6_record yX6_record, Cond.code yX6_record cX6_record 2 none, Cond.fieldLink RX6 36 "ScoreNumbersModel" "states" "I", Cond.fieldLink RX6 13 "ScoreNumbersModel" "before" "[I", Cond.methodLink RX6 154 yX6_understands, Cond.instanceMethod yX6_understands, Cond.selects RX6 yX6_understands yX6_understands, Cond.code yX6_understands cX6_understands 5 (some .int), Cond.methodLink RX6 158 yX6_saysWord, Cond.instanceMethod yX6_saysWord, Cond.selects RX6 yX6_saysWord yX6_saysWord, Cond.code yX6_saysWord cX6_saysWord 5 (some .boolean), Cond.methodLink RX6 162 yX6_doubts, Cond.instanceMethod yX6_doubts, Cond.selects RX6 yX6_doubts yX6_doubts, Cond.code yX6_doubts cX6_doubts 4 (some .int), Cond.methodLink RX6 165 yX6_logs, Cond.instanceMethod yX6_logs, Cond.selects RX6 yX6_logs yX6_logs]
def wsX6_tellText_r5 : List Cond := [Cond.code yX6_logs cX6_logs 7 none]
def wsX6_tellText : List Cond := .code yX6_tellText cX6_tellText 2 (some .int) :: ((wsX6_tellText_r1 ++ (wsX6_tellText_r2 ++ (wsX6_tellText_r3 ++ (wsX6_tellText_r4 ++ wsX6_tellText_r5)))) ++ wsX60)
def wsX6_append : List Cond := .code yX6_append cX6_append 2 (some .int) :: ([.fieldLink RX6 184 "ScoreNumbersModel" "length" "I", .fieldLink RX6 20 "ScoreNumbersModel" "text" "[C", .methodLink RX6 32 yX6_in, .static yX6_in, .initialized RX6, .code yX6_in cX6_in 3 (some .boolean)] ++ wsX60)
def wsX6_clearText : List Cond := .code yX6_clearText cX6_clearText 2 (some .int) :: ([.fieldLink RX6 184 "ScoreNumbersModel" "length" "I"] ++ wsX60)
def wsX6_fault_r1 : List Cond := [Cond.methodLink RX6 187 yX6_textFault, Cond.instanceMethod yX6_textFault, Cond.selects RX6 yX6_textFault yX6_textFault, Cond.initialized RX6, Cond.code yX6_textFault cX6_textFault 2 (some .int), Cond.fieldLink RX6 184 "ScoreNumbersModel" "length" "I", Cond.fieldLink RX6 16 "ScoreNumbersModel" "say" "[C", Cond.fieldLink RX6 20 "ScoreNumbersModel" "text" "[C", Cond.methodLink RX6 99 yX6_faultOf, Cond.instanceMethod yX6_faultOf, Cond.selects RX6 yX6_faultOf yX6_faultOf, Cond.code yX6_faultOf cX6_faultOf 3 (some .int), Cond.fieldLink RX6 43 "ScoreNumbersModel" "size" "I", Cond.fieldLink RX6 40 "ScoreNumbersModel" "at" "I", Cond.fieldLink RX6 84 "ScoreNumbersModel" "greatUnit" "I", Cond.fieldLink RX6 53 "ScoreNumbersModel" "baseUnit" "I", Cond.fieldLink RX6 64 "ScoreNumbersModel" "unit" "I", Cond.fieldLink RX6 87 "ScoreNumbersModel" "isGreatHalf" "Z", Cond.fieldLink RX6 56 "ScoreNumbersModel" "isBaseHalf" "Z", Cond.fieldLink RX6 71 "ScoreNumbersModel" "isLess" "Z", Cond.methodLink RX6 96 yX6_number, Cond.instanceMethod yX6_number, Cond.selects RX6 yX6_number yX6_number, Cond.code yX6_number cX6_number 2 (some .boolean)]
def wsX6_fault_r2 : List Cond := [Cond.methodLink RX6 50 yX6_accepts, Cond.instanceMethod yX6_accepts, Cond.selects RX6 yX6_accepts yX6_accepts, Cond.code yX6_accepts cX6_accepts 3 (some .boolean), Cond.methodLink RX6 46 yX6_isSign, Cond.instanceMethod yX6_isSign, Cond.selects RX6 yX6_isSign yX6_isSign, Cond.code yX6_isSign cX6_isSign 2 (some .boolean), Cond.methodLink RX6 90 yX6_and, Cond.instanceMethod yX6_and, Cond.selects RX6 yX6_and yX6_and, Cond.code yX6_and cX6_and 1 (some .boolean), Cond.methodLink RX6 81 yX6_small, Cond.instanceMethod yX6_small, Cond.selects RX6 yX6_small yX6_small, Cond.code yX6_small cX6_small 2 (some .boolean), Cond.methodLink RX6 60 yX6_unitFrom, Cond.instanceMethod yX6_unitFrom, Cond.selects RX6 yX6_unitFrom yX6_unitFrom, Cond.code yX6_unitFrom cX6_unitFrom 2 (some .int), Cond.methodLink RX6 77 yX6_smallFrom, Cond.instanceMethod yX6_smallFrom, Cond.selects RX6 yX6_smallFrom yX6_smallFrom, Cond.code yX6_smallFrom cX6_smallFrom 2 (some .boolean)]
def wsX6_fault_r3 : List Cond := [Cond.methodLink RX6 67 yX6_plus, Cond.instanceMethod yX6_plus, Cond.selects RX6 yX6_plus yX6_plus, Cond.code yX6_plus cX6_plus 1 (some .boolean), Cond.methodLink RX6 74 yX6_base, Cond.instanceMethod yX6_base, Cond.selects RX6 yX6_base yX6_base, Cond.code yX6_base cX6_base 1 (some .boolean), Cond.methodLink RX6 93 yX6_half, Cond.instanceMethod yX6_half, Cond.selects RX6 yX6_half yX6_half, Cond.code yX6_half cX6_half 2 (some .boolean)]
def wsX6_fault : List Cond := .code yX6_fault cX6_fault 2 (some .int) :: ((wsX6_fault_r1 ++ (wsX6_fault_r2 ++ wsX6_fault_r3)) ++ wsX60)
def wsX6_meaning_r1 : List Cond := [Cond.methodLink RX6 187 yX6_textFault, Cond.instanceMethod yX6_textFault, Cond.selects RX6 yX6_textFault yX6_textFault, Cond.initialized RX6, Cond.code yX6_textFault cX6_textFault 2 (some .int), Cond.fieldLink RX6 184 "ScoreNumbersModel" "length" "I", Cond.fieldLink RX6 16 "ScoreNumbersModel" "say" "[C", Cond.fieldLink RX6 20 "ScoreNumbersModel" "text" "[C", Cond.methodLink RX6 99 yX6_faultOf, Cond.instanceMethod yX6_faultOf, Cond.selects RX6 yX6_faultOf yX6_faultOf, Cond.code yX6_faultOf cX6_faultOf 3 (some .int), Cond.fieldLink RX6 43 "ScoreNumbersModel" "size" "I", Cond.fieldLink RX6 40 "ScoreNumbersModel" "at" "I", Cond.fieldLink RX6 84 "ScoreNumbersModel" "greatUnit" "I", Cond.fieldLink RX6 53 "ScoreNumbersModel" "baseUnit" "I", Cond.fieldLink RX6 64 "ScoreNumbersModel" "unit" "I", Cond.fieldLink RX6 87 "ScoreNumbersModel" "isGreatHalf" "Z", Cond.fieldLink RX6 56 "ScoreNumbersModel" "isBaseHalf" "Z", Cond.fieldLink RX6 71 "ScoreNumbersModel" "isLess" "Z", Cond.methodLink RX6 96 yX6_number, Cond.instanceMethod yX6_number, Cond.selects RX6 yX6_number yX6_number, Cond.code yX6_number cX6_number 2 (some .boolean)]
def wsX6_meaning_r2 : List Cond := [Cond.methodLink RX6 50 yX6_accepts, Cond.instanceMethod yX6_accepts, Cond.selects RX6 yX6_accepts yX6_accepts, Cond.code yX6_accepts cX6_accepts 3 (some .boolean), Cond.methodLink RX6 46 yX6_isSign, Cond.instanceMethod yX6_isSign, Cond.selects RX6 yX6_isSign yX6_isSign, Cond.code yX6_isSign cX6_isSign 2 (some .boolean), Cond.methodLink RX6 90 yX6_and, Cond.instanceMethod yX6_and, Cond.selects RX6 yX6_and yX6_and, Cond.code yX6_and cX6_and 1 (some .boolean), Cond.methodLink RX6 81 yX6_small, Cond.instanceMethod yX6_small, Cond.selects RX6 yX6_small yX6_small, Cond.code yX6_small cX6_small 2 (some .boolean), Cond.methodLink RX6 60 yX6_unitFrom, Cond.instanceMethod yX6_unitFrom, Cond.selects RX6 yX6_unitFrom yX6_unitFrom, Cond.code yX6_unitFrom cX6_unitFrom 2 (some .int), Cond.methodLink RX6 77 yX6_smallFrom, Cond.instanceMethod yX6_smallFrom, Cond.selects RX6 yX6_smallFrom yX6_smallFrom, Cond.code yX6_smallFrom cX6_smallFrom 2 (some .boolean)]
def wsX6_meaning_r3 : List Cond := [Cond.methodLink RX6 67 yX6_plus, Cond.instanceMethod yX6_plus, Cond.selects RX6 yX6_plus yX6_plus, Cond.code yX6_plus cX6_plus 1 (some .boolean), Cond.methodLink RX6 74 yX6_base, Cond.instanceMethod yX6_base, Cond.selects RX6 yX6_base yX6_base, Cond.code yX6_base cX6_base 1 (some .boolean), Cond.methodLink RX6 93 yX6_half, Cond.instanceMethod yX6_half, Cond.selects RX6 yX6_half yX6_half, Cond.code yX6_half cX6_half 2 (some .boolean), Cond.methodLink RX6 103 yX6_meaningBy, Cond.instanceMethod yX6_meaningBy, Cond.selects RX6 yX6_meaningBy yX6_meaningBy, Cond.code yX6_meaningBy cX6_meaningBy 7 (some .int)]
def wsX6_meaning : List Cond := .code yX6_meaning cX6_meaning 1 (some .int) :: ((wsX6_meaning_r1 ++ (wsX6_meaning_r2 ++ wsX6_meaning_r3)) ++ wsX60)
def wsX6_undo : List Cond := .code yX6_undo cX6_undo 2 (some .int) :: ([.fieldLink RX6 36 "ScoreNumbersModel" "states" "I", .fieldLink RX6 7 "ScoreNumbersModel" "s" "[I", .fieldLink RX6 13 "ScoreNumbersModel" "before" "[I"] ++ wsX60)
def wsX6_ways_r1 : List Cond := [Cond.fieldLink RX6 107 "ScoreNumbersModel" "many" "I", Cond.methodLink RX6 169 yX6_isNumber, Cond.static yX6_isNumber, Cond.initialized RX6, Cond.code yX6_isNumber cX6_isNumber 1 (some .boolean), Cond.methodLink RX6 32 yX6_in, Cond.static yX6_in, Cond.code yX6_in cX6_in 3 (some .boolean), Cond.methodLink RX6 172 yX6_makes, Cond.instanceMethod yX6_makes, Cond.selects RX6 yX6_makes yX6_makes, Cond.code yX6_makes cX6_makes 5 none, Cond.fieldLink RX6 29 "ScoreNumbersModel" "order" "[I", Cond.methodLink RX6 118 yX6_begins, Cond.instanceMethod yX6_begins, Cond.selects RX6 yX6_begins yX6_begins, Cond.code yX6_begins cX6_begins 3 none, Cond.fieldLink RX6 26 "ScoreNumbersModel" "lengths" "[I", Cond.methodLink RX6 114 yX6_putCount, Cond.instanceMethod yX6_putCount, Cond.selects RX6 yX6_putCount yX6_putCount, Cond.code yX6_putCount cX6_putCount 4 none, Cond.methodLink RX6 110 yX6_put, Cond.instanceMethod yX6_put]
def wsX6_ways_r2 : List Cond := [Cond.selects RX6 yX6_put yX6_put, Cond.code yX6_put cX6_put 2 none, Cond.fieldLink RX6 23 "ScoreNumbersModel" "ways" "[C", Cond.methodLink RX6 129 yX6_smalls, Cond.instanceMethod yX6_smalls, Cond.selects RX6 yX6_smalls yX6_smalls, Cond.code yX6_smalls cX6_smalls 5 none, Cond.methodLink RX6 122 yX6_isBase, Cond.static yX6_isBase, Cond.code yX6_isBase cX6_isBase 1 (some .boolean), Cond.methodLink RX6 125 yX6_putBase, Cond.instanceMethod yX6_putBase, Cond.selects RX6 yX6_putBase yX6_putBase, Cond.code yX6_putBase cX6_putBase 2 none, Cond.methodLink RX6 133 yX6_isAhead, Cond.instanceMethod yX6_isAhead, Cond.selects RX6 yX6_isAhead yX6_isAhead, Cond.code yX6_isAhead cX6_isAhead 4 (some .boolean)]
def wsX6_ways : List Cond := .code yX6_ways cX6_ways 2 (some .int) :: ((wsX6_ways_r1 ++ wsX6_ways_r2) ++ wsX60)
def wsX6_wayLength_r1 : List Cond := [Cond.fieldLink RX6 107 "ScoreNumbersModel" "many" "I", Cond.fieldLink RX6 26 "ScoreNumbersModel" "lengths" "[I", Cond.fieldLink RX6 29 "ScoreNumbersModel" "order" "[I", Cond.methodLink RX6 169 yX6_isNumber, Cond.static yX6_isNumber, Cond.initialized RX6, Cond.code yX6_isNumber cX6_isNumber 1 (some .boolean), Cond.methodLink RX6 32 yX6_in, Cond.static yX6_in, Cond.code yX6_in cX6_in 3 (some .boolean), Cond.methodLink RX6 172 yX6_makes, Cond.instanceMethod yX6_makes, Cond.selects RX6 yX6_makes yX6_makes, Cond.code yX6_makes cX6_makes 5 none, Cond.methodLink RX6 118 yX6_begins, Cond.instanceMethod yX6_begins, Cond.selects RX6 yX6_begins yX6_begins, Cond.code yX6_begins cX6_begins 3 none, Cond.methodLink RX6 114 yX6_putCount, Cond.instanceMethod yX6_putCount, Cond.selects RX6 yX6_putCount yX6_putCount, Cond.code yX6_putCount cX6_putCount 4 none, Cond.methodLink RX6 110 yX6_put, Cond.instanceMethod yX6_put]
def wsX6_wayLength_r2 : List Cond := [Cond.selects RX6 yX6_put yX6_put, Cond.code yX6_put cX6_put 2 none, Cond.fieldLink RX6 23 "ScoreNumbersModel" "ways" "[C", Cond.methodLink RX6 129 yX6_smalls, Cond.instanceMethod yX6_smalls, Cond.selects RX6 yX6_smalls yX6_smalls, Cond.code yX6_smalls cX6_smalls 5 none, Cond.methodLink RX6 122 yX6_isBase, Cond.static yX6_isBase, Cond.code yX6_isBase cX6_isBase 1 (some .boolean), Cond.methodLink RX6 125 yX6_putBase, Cond.instanceMethod yX6_putBase, Cond.selects RX6 yX6_putBase yX6_putBase, Cond.code yX6_putBase cX6_putBase 2 none, Cond.methodLink RX6 133 yX6_isAhead, Cond.instanceMethod yX6_isAhead, Cond.selects RX6 yX6_isAhead yX6_isAhead, Cond.code yX6_isAhead cX6_isAhead 4 (some .boolean)]
def wsX6_wayLength : List Cond := .code yX6_wayLength cX6_wayLength 3 (some .int) :: ((wsX6_wayLength_r1 ++ wsX6_wayLength_r2) ++ wsX60)
def wsX6_wayAt_r1 : List Cond := [Cond.fieldLink RX6 107 "ScoreNumbersModel" "many" "I", Cond.fieldLink RX6 26 "ScoreNumbersModel" "lengths" "[I", Cond.fieldLink RX6 29 "ScoreNumbersModel" "order" "[I", Cond.fieldLink RX6 23 "ScoreNumbersModel" "ways" "[C", Cond.methodLink RX6 169 yX6_isNumber, Cond.static yX6_isNumber, Cond.initialized RX6, Cond.code yX6_isNumber cX6_isNumber 1 (some .boolean), Cond.methodLink RX6 32 yX6_in, Cond.static yX6_in, Cond.code yX6_in cX6_in 3 (some .boolean), Cond.methodLink RX6 172 yX6_makes, Cond.instanceMethod yX6_makes, Cond.selects RX6 yX6_makes yX6_makes, Cond.code yX6_makes cX6_makes 5 none, Cond.methodLink RX6 118 yX6_begins, Cond.instanceMethod yX6_begins, Cond.selects RX6 yX6_begins yX6_begins, Cond.code yX6_begins cX6_begins 3 none, Cond.methodLink RX6 114 yX6_putCount, Cond.instanceMethod yX6_putCount, Cond.selects RX6 yX6_putCount yX6_putCount, Cond.code yX6_putCount cX6_putCount 4 none, Cond.methodLink RX6 110 yX6_put]
def wsX6_wayAt_r2 : List Cond := [Cond.instanceMethod yX6_put, Cond.selects RX6 yX6_put yX6_put, Cond.code yX6_put cX6_put 2 none, Cond.methodLink RX6 129 yX6_smalls, Cond.instanceMethod yX6_smalls, Cond.selects RX6 yX6_smalls yX6_smalls, Cond.code yX6_smalls cX6_smalls 5 none, Cond.methodLink RX6 122 yX6_isBase, Cond.static yX6_isBase, Cond.code yX6_isBase cX6_isBase 1 (some .boolean), Cond.methodLink RX6 125 yX6_putBase, Cond.instanceMethod yX6_putBase, Cond.selects RX6 yX6_putBase yX6_putBase, Cond.code yX6_putBase cX6_putBase 2 none, Cond.methodLink RX6 133 yX6_isAhead, Cond.instanceMethod yX6_isAhead, Cond.selects RX6 yX6_isAhead yX6_isAhead, Cond.code yX6_isAhead cX6_isAhead 4 (some .boolean)]
def wsX6_wayAt : List Cond := .code yX6_wayAt cX6_wayAt 4 (some .int) :: ((wsX6_wayAt_r1 ++ wsX6_wayAt_r2) ++ wsX60)
def wsX6_styled_r1 : List Cond := [Cond.methodLink RX6 32 yX6_in, Cond.static yX6_in, Cond.initialized RX6, Cond.code yX6_in cX6_in 3 (some .boolean), Cond.methodLink RX6 169 yX6_isNumber, Cond.static yX6_isNumber, Cond.code yX6_isNumber cX6_isNumber 1 (some .boolean), Cond.methodLink RX6 172 yX6_makes, Cond.instanceMethod yX6_makes, Cond.selects RX6 yX6_makes yX6_makes, Cond.code yX6_makes cX6_makes 5 none, Cond.fieldLink RX6 107 "ScoreNumbersModel" "many" "I", Cond.fieldLink RX6 29 "ScoreNumbersModel" "order" "[I", Cond.methodLink RX6 118 yX6_begins, Cond.instanceMethod yX6_begins, Cond.selects RX6 yX6_begins yX6_begins, Cond.code yX6_begins cX6_begins 3 none, Cond.fieldLink RX6 26 "ScoreNumbersModel" "lengths" "[I", Cond.methodLink RX6 114 yX6_putCount, Cond.instanceMethod yX6_putCount, Cond.selects RX6 yX6_putCount yX6_putCount, Cond.code yX6_putCount cX6_putCount 4 none, Cond.methodLink RX6 110 yX6_put, Cond.instanceMethod yX6_put]
def wsX6_styled_r2 : List Cond := [Cond.selects RX6 yX6_put yX6_put, Cond.code yX6_put cX6_put 2 none, Cond.fieldLink RX6 23 "ScoreNumbersModel" "ways" "[C", Cond.methodLink RX6 129 yX6_smalls, Cond.instanceMethod yX6_smalls, Cond.selects RX6 yX6_smalls yX6_smalls, Cond.code yX6_smalls cX6_smalls 5 none, Cond.methodLink RX6 122 yX6_isBase, Cond.static yX6_isBase, Cond.code yX6_isBase cX6_isBase 1 (some .boolean), Cond.methodLink RX6 125 yX6_putBase, Cond.instanceMethod yX6_putBase, Cond.selects RX6 yX6_putBase yX6_putBase, Cond.code yX6_putBase cX6_putBase 2 none, Cond.methodLink RX6 133 yX6_isAhead, Cond.instanceMethod yX6_isAhead, Cond.selects RX6 yX6_isAhead yX6_isAhead, Cond.code yX6_isAhead cX6_isAhead 4 (some .boolean), Cond.methodLink RX6 175 yX6_placeOf, Cond.instanceMethod yX6_placeOf, Cond.selects RX6 yX6_placeOf yX6_placeOf, Cond.code yX6_placeOf cX6_placeOf 7 (some .int), Cond.methodLink RX6 137 yX6_has, Cond.instanceMethod yX6_has]
def wsX6_styled_r3 : List Cond := [Cond.selects RX6 yX6_has yX6_has, Cond.code yX6_has cX6_has 5 (some .boolean)]
def wsX6_styled : List Cond := .code yX6_styled cX6_styled 3 (some .int) :: ((wsX6_styled_r1 ++ (wsX6_styled_r2 ++ wsX6_styled_r3)) ++ wsX60)
def wsX6_isText : List Cond := .code yX6_isText cX6_isText 4 (some .boolean) :: ([.fieldLink RX6 26 "ScoreNumbersModel" "lengths" "[I", .fieldLink RX6 184 "ScoreNumbersModel" "length" "I", .fieldLink RX6 23 "ScoreNumbersModel" "ways" "[C", .fieldLink RX6 20 "ScoreNumbersModel" "text" "[C"] ++ wsX60)
def wsX6_placeOfText_r1 : List Cond := [Cond.fieldLink RX6 107 "ScoreNumbersModel" "many" "I", Cond.fieldLink RX6 29 "ScoreNumbersModel" "order" "[I", Cond.methodLink RX6 187 yX6_textFault, Cond.instanceMethod yX6_textFault, Cond.selects RX6 yX6_textFault yX6_textFault, Cond.initialized RX6, Cond.code yX6_textFault cX6_textFault 2 (some .int), Cond.fieldLink RX6 184 "ScoreNumbersModel" "length" "I", Cond.fieldLink RX6 16 "ScoreNumbersModel" "say" "[C", Cond.fieldLink RX6 20 "ScoreNumbersModel" "text" "[C", Cond.methodLink RX6 99 yX6_faultOf, Cond.instanceMethod yX6_faultOf, Cond.selects RX6 yX6_faultOf yX6_faultOf, Cond.code yX6_faultOf cX6_faultOf 3 (some .int), Cond.fieldLink RX6 43 "ScoreNumbersModel" "size" "I", Cond.fieldLink RX6 40 "ScoreNumbersModel" "at" "I", Cond.fieldLink RX6 84 "ScoreNumbersModel" "greatUnit" "I", Cond.fieldLink RX6 53 "ScoreNumbersModel" "baseUnit" "I", Cond.fieldLink RX6 64 "ScoreNumbersModel" "unit" "I", Cond.fieldLink RX6 87 "ScoreNumbersModel" "isGreatHalf" "Z", Cond.fieldLink RX6 56 "ScoreNumbersModel" "isBaseHalf" "Z", Cond.fieldLink RX6 71 "ScoreNumbersModel" "isLess" "Z", Cond.methodLink RX6 96 yX6_number, Cond.instanceMethod yX6_number]
def wsX6_placeOfText_r2 : List Cond := [Cond.selects RX6 yX6_number yX6_number, Cond.code yX6_number cX6_number 2 (some .boolean), Cond.methodLink RX6 50 yX6_accepts, Cond.instanceMethod yX6_accepts, Cond.selects RX6 yX6_accepts yX6_accepts, Cond.code yX6_accepts cX6_accepts 3 (some .boolean), Cond.methodLink RX6 46 yX6_isSign, Cond.instanceMethod yX6_isSign, Cond.selects RX6 yX6_isSign yX6_isSign, Cond.code yX6_isSign cX6_isSign 2 (some .boolean), Cond.methodLink RX6 90 yX6_and, Cond.instanceMethod yX6_and, Cond.selects RX6 yX6_and yX6_and, Cond.code yX6_and cX6_and 1 (some .boolean), Cond.methodLink RX6 81 yX6_small, Cond.instanceMethod yX6_small, Cond.selects RX6 yX6_small yX6_small, Cond.code yX6_small cX6_small 2 (some .boolean), Cond.methodLink RX6 60 yX6_unitFrom, Cond.instanceMethod yX6_unitFrom, Cond.selects RX6 yX6_unitFrom yX6_unitFrom, Cond.code yX6_unitFrom cX6_unitFrom 2 (some .int), Cond.methodLink RX6 77 yX6_smallFrom, Cond.instanceMethod yX6_smallFrom]
def wsX6_placeOfText_r3 : List Cond := [Cond.selects RX6 yX6_smallFrom yX6_smallFrom, Cond.code yX6_smallFrom cX6_smallFrom 2 (some .boolean), Cond.methodLink RX6 67 yX6_plus, Cond.instanceMethod yX6_plus, Cond.selects RX6 yX6_plus yX6_plus, Cond.code yX6_plus cX6_plus 1 (some .boolean), Cond.methodLink RX6 74 yX6_base, Cond.instanceMethod yX6_base, Cond.selects RX6 yX6_base yX6_base, Cond.code yX6_base cX6_base 1 (some .boolean), Cond.methodLink RX6 93 yX6_half, Cond.instanceMethod yX6_half, Cond.selects RX6 yX6_half yX6_half, Cond.code yX6_half cX6_half 2 (some .boolean), Cond.methodLink RX6 103 yX6_meaningBy, Cond.instanceMethod yX6_meaningBy, Cond.selects RX6 yX6_meaningBy yX6_meaningBy, Cond.code yX6_meaningBy cX6_meaningBy 7 (some .int), Cond.methodLink RX6 172 yX6_makes, Cond.instanceMethod yX6_makes, Cond.selects RX6 yX6_makes yX6_makes, Cond.code yX6_makes cX6_makes 5 none, Cond.methodLink RX6 118 yX6_begins, Cond.instanceMethod yX6_begins]
def wsX6_placeOfText_r4 : List Cond := [Cond.selects RX6 yX6_begins yX6_begins, Cond.code yX6_begins cX6_begins 3 none, Cond.fieldLink RX6 26 "ScoreNumbersModel" "lengths" "[I", Cond.methodLink RX6 114 yX6_putCount, Cond.instanceMethod yX6_putCount, Cond.selects RX6 yX6_putCount yX6_putCount, Cond.code yX6_putCount cX6_putCount 4 none, Cond.methodLink RX6 110 yX6_put, Cond.instanceMethod yX6_put, Cond.selects RX6 yX6_put yX6_put, Cond.code yX6_put cX6_put 2 none, Cond.fieldLink RX6 23 "ScoreNumbersModel" "ways" "[C", Cond.methodLink RX6 129 yX6_smalls, Cond.instanceMethod yX6_smalls, Cond.selects RX6 yX6_smalls yX6_smalls, Cond.code yX6_smalls cX6_smalls 5 none, Cond.methodLink RX6 122 yX6_isBase, Cond.static yX6_isBase, Cond.code yX6_isBase cX6_isBase 1 (some .boolean), Cond.methodLink RX6 32 yX6_in, Cond.static yX6_in, Cond.code yX6_in cX6_in 3 (some .boolean), Cond.methodLink RX6 125 yX6_putBase, Cond.instanceMethod yX6_putBase]
def wsX6_placeOfText_r5 : List Cond := [Cond.selects RX6 yX6_putBase yX6_putBase, Cond.code yX6_putBase cX6_putBase 2 none, Cond.methodLink RX6 133 yX6_isAhead, Cond.instanceMethod yX6_isAhead, Cond.selects RX6 yX6_isAhead yX6_isAhead, Cond.code yX6_isAhead cX6_isAhead 4 (some .boolean), Cond.methodLink RX6 191 yX6_isText, Cond.instanceMethod yX6_isText, Cond.selects RX6 yX6_isText yX6_isText, Cond.code yX6_isText cX6_isText 4 (some .boolean)]
def wsX6_placeOfText : List Cond := .code yX6_placeOfText cX6_placeOfText 3 (some .int) :: ((wsX6_placeOfText_r1 ++ (wsX6_placeOfText_r2 ++ (wsX6_placeOfText_r3 ++ (wsX6_placeOfText_r4 ++ wsX6_placeOfText_r5)))) ++ wsX60)
def wsX6_hearer : List Cond := .code yX6_hearer cX6_hearer 3 (some .int) :: ([.fieldLink RX6 7 "ScoreNumbersModel" "s" "[I", .methodLink RX6 141 yX6_isHearer, .static yX6_isHearer, .initialized RX6, .code yX6_isHearer cX6_isHearer 1 (some .boolean), .methodLink RX6 32 yX6_in, .static yX6_in, .code yX6_in cX6_in 3 (some .boolean)] ++ wsX60)
def wsX6_understood_r1 : List Cond := [Cond.fieldLink RX6 107 "ScoreNumbersModel" "many" "I", Cond.methodLink RX6 141 yX6_isHearer, Cond.static yX6_isHearer, Cond.initialized RX6, Cond.code yX6_isHearer cX6_isHearer 1 (some .boolean), Cond.methodLink RX6 32 yX6_in, Cond.static yX6_in, Cond.code yX6_in cX6_in 3 (some .boolean), Cond.methodLink RX6 169 yX6_isNumber, Cond.static yX6_isNumber, Cond.code yX6_isNumber cX6_isNumber 1 (some .boolean), Cond.methodLink RX6 172 yX6_makes, Cond.instanceMethod yX6_makes, Cond.selects RX6 yX6_makes yX6_makes, Cond.code yX6_makes cX6_makes 5 none, Cond.fieldLink RX6 29 "ScoreNumbersModel" "order" "[I", Cond.methodLink RX6 118 yX6_begins, Cond.instanceMethod yX6_begins, Cond.selects RX6 yX6_begins yX6_begins, Cond.code yX6_begins cX6_begins 3 none, Cond.fieldLink RX6 26 "ScoreNumbersModel" "lengths" "[I", Cond.methodLink RX6 114 yX6_putCount, Cond.instanceMethod yX6_putCount, Cond.selects RX6 yX6_putCount yX6_putCount]
def wsX6_understood_r2 : List Cond := [Cond.code yX6_putCount cX6_putCount 4 none, Cond.methodLink RX6 110 yX6_put, Cond.instanceMethod yX6_put, Cond.selects RX6 yX6_put yX6_put, Cond.code yX6_put cX6_put 2 none, Cond.fieldLink RX6 23 "ScoreNumbersModel" "ways" "[C", Cond.methodLink RX6 129 yX6_smalls, Cond.instanceMethod yX6_smalls, Cond.selects RX6 yX6_smalls yX6_smalls, Cond.code yX6_smalls cX6_smalls 5 none, Cond.methodLink RX6 122 yX6_isBase, Cond.static yX6_isBase, Cond.code yX6_isBase cX6_isBase 1 (some .boolean), Cond.methodLink RX6 125 yX6_putBase, Cond.instanceMethod yX6_putBase, Cond.selects RX6 yX6_putBase yX6_putBase, Cond.code yX6_putBase cX6_putBase 2 none, Cond.methodLink RX6 133 yX6_isAhead, Cond.instanceMethod yX6_isAhead, Cond.selects RX6 yX6_isAhead yX6_isAhead, Cond.code yX6_isAhead cX6_isAhead 4 (some .boolean), Cond.methodLink RX6 178 yX6_says, Cond.instanceMethod yX6_says, Cond.selects RX6 yX6_says yX6_says]
def wsX6_understood_r3 : List Cond := [Cond.code yX6_says cX6_says 4 (some .int), Cond.fieldLink RX6 16 "ScoreNumbersModel" "say" "[C", Cond.methodLink RX6 154 yX6_understands, Cond.instanceMethod yX6_understands, Cond.selects RX6 yX6_understands yX6_understands, Cond.code yX6_understands cX6_understands 5 (some .int), Cond.fieldLink RX6 7 "ScoreNumbersModel" "s" "[I", Cond.methodLink RX6 99 yX6_faultOf, Cond.instanceMethod yX6_faultOf, Cond.selects RX6 yX6_faultOf yX6_faultOf, Cond.code yX6_faultOf cX6_faultOf 3 (some .int), Cond.fieldLink RX6 43 "ScoreNumbersModel" "size" "I", Cond.fieldLink RX6 40 "ScoreNumbersModel" "at" "I", Cond.fieldLink RX6 84 "ScoreNumbersModel" "greatUnit" "I", Cond.fieldLink RX6 53 "ScoreNumbersModel" "baseUnit" "I", Cond.fieldLink RX6 64 "ScoreNumbersModel" "unit" "I", Cond.fieldLink RX6 87 "ScoreNumbersModel" "isGreatHalf" "Z", Cond.fieldLink RX6 56 "ScoreNumbersModel" "isBaseHalf" "Z", Cond.fieldLink RX6 71 "ScoreNumbersModel" "isLess" "Z", Cond.methodLink RX6 96 yX6_number, Cond.instanceMethod yX6_number, Cond.selects RX6 yX6_number yX6_number, Cond.code yX6_number cX6_number 2 (some .boolean), Cond.methodLink RX6 50 yX6_accepts]
def wsX6_understood_r4 : List Cond := [Cond.instanceMethod yX6_accepts, Cond.selects RX6 yX6_accepts yX6_accepts, Cond.code yX6_accepts cX6_accepts 3 (some .boolean), Cond.methodLink RX6 46 yX6_isSign, Cond.instanceMethod yX6_isSign, Cond.selects RX6 yX6_isSign yX6_isSign, Cond.code yX6_isSign cX6_isSign 2 (some .boolean), Cond.methodLink RX6 90 yX6_and, Cond.instanceMethod yX6_and, Cond.selects RX6 yX6_and yX6_and, Cond.code yX6_and cX6_and 1 (some .boolean), Cond.methodLink RX6 81 yX6_small, Cond.instanceMethod yX6_small, Cond.selects RX6 yX6_small yX6_small, Cond.code yX6_small cX6_small 2 (some .boolean), Cond.methodLink RX6 60 yX6_unitFrom, Cond.instanceMethod yX6_unitFrom, Cond.selects RX6 yX6_unitFrom yX6_unitFrom, Cond.code yX6_unitFrom cX6_unitFrom 2 (some .int), Cond.methodLink RX6 77 yX6_smallFrom, Cond.instanceMethod yX6_smallFrom, Cond.selects RX6 yX6_smallFrom yX6_smallFrom, Cond.code yX6_smallFrom cX6_smallFrom 2 (some .boolean), Cond.methodLink RX6 67 yX6_plus]
def wsX6_understood_r5 : List Cond := [Cond.instanceMethod yX6_plus, Cond.selects RX6 yX6_plus yX6_plus, Cond.code yX6_plus cX6_plus 1 (some .boolean), Cond.methodLink RX6 74 yX6_base, Cond.instanceMethod yX6_base, Cond.selects RX6 yX6_base yX6_base, Cond.code yX6_base cX6_base 1 (some .boolean), Cond.methodLink RX6 93 yX6_half, Cond.instanceMethod yX6_half, Cond.selects RX6 yX6_half yX6_half, Cond.code yX6_half cX6_half 2 (some .boolean), Cond.methodLink RX6 103 yX6_meaningBy, Cond.instanceMethod yX6_meaningBy, Cond.selects RX6 yX6_meaningBy yX6_meaningBy, Cond.code yX6_meaningBy cX6_meaningBy 7 (some .int)]
def wsX6_understood : List Cond := .code yX6_understood cX6_understood 5 (some .int) :: ((wsX6_understood_r1 ++ (wsX6_understood_r2 ++ (wsX6_understood_r3 ++ (wsX6_understood_r4 ++ wsX6_understood_r5)))) ++ wsX60)
def wsX6_understoodText_r1 : List Cond := [Cond.fieldLink RX6 184 "ScoreNumbersModel" "length" "I", Cond.methodLink RX6 141 yX6_isHearer, Cond.static yX6_isHearer, Cond.initialized RX6, Cond.code yX6_isHearer cX6_isHearer 1 (some .boolean), Cond.methodLink RX6 32 yX6_in, Cond.static yX6_in, Cond.code yX6_in cX6_in 3 (some .boolean), Cond.methodLink RX6 187 yX6_textFault, Cond.instanceMethod yX6_textFault, Cond.selects RX6 yX6_textFault yX6_textFault, Cond.code yX6_textFault cX6_textFault 2 (some .int), Cond.fieldLink RX6 16 "ScoreNumbersModel" "say" "[C", Cond.fieldLink RX6 20 "ScoreNumbersModel" "text" "[C", Cond.methodLink RX6 99 yX6_faultOf, Cond.instanceMethod yX6_faultOf, Cond.selects RX6 yX6_faultOf yX6_faultOf, Cond.code yX6_faultOf cX6_faultOf 3 (some .int), Cond.fieldLink RX6 43 "ScoreNumbersModel" "size" "I", Cond.fieldLink RX6 40 "ScoreNumbersModel" "at" "I", Cond.fieldLink RX6 84 "ScoreNumbersModel" "greatUnit" "I", Cond.fieldLink RX6 53 "ScoreNumbersModel" "baseUnit" "I", Cond.fieldLink RX6 64 "ScoreNumbersModel" "unit" "I", Cond.fieldLink RX6 87 "ScoreNumbersModel" "isGreatHalf" "Z"]
def wsX6_understoodText_r2 : List Cond := [Cond.fieldLink RX6 56 "ScoreNumbersModel" "isBaseHalf" "Z", Cond.fieldLink RX6 71 "ScoreNumbersModel" "isLess" "Z", Cond.methodLink RX6 96 yX6_number, Cond.instanceMethod yX6_number, Cond.selects RX6 yX6_number yX6_number, Cond.code yX6_number cX6_number 2 (some .boolean), Cond.methodLink RX6 50 yX6_accepts, Cond.instanceMethod yX6_accepts, Cond.selects RX6 yX6_accepts yX6_accepts, Cond.code yX6_accepts cX6_accepts 3 (some .boolean), Cond.methodLink RX6 46 yX6_isSign, Cond.instanceMethod yX6_isSign, Cond.selects RX6 yX6_isSign yX6_isSign, Cond.code yX6_isSign cX6_isSign 2 (some .boolean), Cond.methodLink RX6 90 yX6_and, Cond.instanceMethod yX6_and, Cond.selects RX6 yX6_and yX6_and, Cond.code yX6_and cX6_and 1 (some .boolean), Cond.methodLink RX6 81 yX6_small, Cond.instanceMethod yX6_small, Cond.selects RX6 yX6_small yX6_small, Cond.code yX6_small cX6_small 2 (some .boolean), Cond.methodLink RX6 60 yX6_unitFrom, Cond.instanceMethod yX6_unitFrom]
def wsX6_understoodText_r3 : List Cond := [Cond.selects RX6 yX6_unitFrom yX6_unitFrom, Cond.code yX6_unitFrom cX6_unitFrom 2 (some .int), Cond.methodLink RX6 77 yX6_smallFrom, Cond.instanceMethod yX6_smallFrom, Cond.selects RX6 yX6_smallFrom yX6_smallFrom, Cond.code yX6_smallFrom cX6_smallFrom 2 (some .boolean), Cond.methodLink RX6 67 yX6_plus, Cond.instanceMethod yX6_plus, Cond.selects RX6 yX6_plus yX6_plus, Cond.code yX6_plus cX6_plus 1 (some .boolean), Cond.methodLink RX6 74 yX6_base, Cond.instanceMethod yX6_base, Cond.selects RX6 yX6_base yX6_base, Cond.code yX6_base cX6_base 1 (some .boolean), Cond.methodLink RX6 93 yX6_half, Cond.instanceMethod yX6_half, Cond.selects RX6 yX6_half yX6_half, Cond.code yX6_half cX6_half 2 (some .boolean), Cond.methodLink RX6 154 yX6_understands, Cond.instanceMethod yX6_understands, Cond.selects RX6 yX6_understands yX6_understands, Cond.code yX6_understands cX6_understands 5 (some .int), Cond.fieldLink RX6 7 "ScoreNumbersModel" "s" "[I", Cond.methodLink RX6 103 yX6_meaningBy]
def wsX6_understoodText_r4 : List Cond := [Cond.instanceMethod yX6_meaningBy, Cond.selects RX6 yX6_meaningBy yX6_meaningBy, Cond.code yX6_meaningBy cX6_meaningBy 7 (some .int)]
def wsX6_understoodText : List Cond := .code yX6_understoodText cX6_understoodText 3 (some .int) :: ((wsX6_understoodText_r1 ++ (wsX6_understoodText_r2 ++ (wsX6_understoodText_r3 ++ wsX6_understoodText_r4))) ++ wsX60)
def wsX6_best_r1 : List Cond := [Cond.fieldLink RX6 107 "ScoreNumbersModel" "many" "I", Cond.methodLink RX6 172 yX6_makes, Cond.instanceMethod yX6_makes, Cond.selects RX6 yX6_makes yX6_makes, Cond.initialized RX6, Cond.code yX6_makes cX6_makes 5 none, Cond.fieldLink RX6 29 "ScoreNumbersModel" "order" "[I", Cond.methodLink RX6 118 yX6_begins, Cond.instanceMethod yX6_begins, Cond.selects RX6 yX6_begins yX6_begins, Cond.code yX6_begins cX6_begins 3 none, Cond.fieldLink RX6 26 "ScoreNumbersModel" "lengths" "[I", Cond.methodLink RX6 114 yX6_putCount, Cond.instanceMethod yX6_putCount, Cond.selects RX6 yX6_putCount yX6_putCount, Cond.code yX6_putCount cX6_putCount 4 none, Cond.methodLink RX6 110 yX6_put, Cond.instanceMethod yX6_put, Cond.selects RX6 yX6_put yX6_put, Cond.code yX6_put cX6_put 2 none, Cond.fieldLink RX6 23 "ScoreNumbersModel" "ways" "[C", Cond.methodLink RX6 129 yX6_smalls, Cond.instanceMethod yX6_smalls, Cond.selects RX6 yX6_smalls yX6_smalls]
def wsX6_best_r2 : List Cond := [Cond.code yX6_smalls cX6_smalls 5 none, Cond.methodLink RX6 122 yX6_isBase, Cond.static yX6_isBase, Cond.code yX6_isBase cX6_isBase 1 (some .boolean), Cond.methodLink RX6 32 yX6_in, Cond.static yX6_in, Cond.code yX6_in cX6_in 3 (some .boolean), Cond.methodLink RX6 125 yX6_putBase, Cond.instanceMethod yX6_putBase, Cond.selects RX6 yX6_putBase yX6_putBase, Cond.code yX6_putBase cX6_putBase 2 none, Cond.methodLink RX6 133 yX6_isAhead, Cond.instanceMethod yX6_isAhead, Cond.selects RX6 yX6_isAhead yX6_isAhead, Cond.code yX6_isAhead cX6_isAhead 4 (some .boolean), Cond.methodLink RX6 178 yX6_says, Cond.instanceMethod yX6_says, Cond.selects RX6 yX6_says yX6_says, Cond.code yX6_says cX6_says 4 (some .int), Cond.fieldLink RX6 16 "ScoreNumbersModel" "say" "[C", Cond.methodLink RX6 154 yX6_understands, Cond.instanceMethod yX6_understands, Cond.selects RX6 yX6_understands yX6_understands, Cond.code yX6_understands cX6_understands 5 (some .int)]
def wsX6_best_r3 : List Cond := [Cond.fieldLink RX6 7 "ScoreNumbersModel" "s" "[I", Cond.methodLink RX6 99 yX6_faultOf, Cond.instanceMethod yX6_faultOf, Cond.selects RX6 yX6_faultOf yX6_faultOf, Cond.code yX6_faultOf cX6_faultOf 3 (some .int), Cond.fieldLink RX6 43 "ScoreNumbersModel" "size" "I", Cond.fieldLink RX6 40 "ScoreNumbersModel" "at" "I", Cond.fieldLink RX6 84 "ScoreNumbersModel" "greatUnit" "I", Cond.fieldLink RX6 53 "ScoreNumbersModel" "baseUnit" "I", Cond.fieldLink RX6 64 "ScoreNumbersModel" "unit" "I", Cond.fieldLink RX6 87 "ScoreNumbersModel" "isGreatHalf" "Z", Cond.fieldLink RX6 56 "ScoreNumbersModel" "isBaseHalf" "Z", Cond.fieldLink RX6 71 "ScoreNumbersModel" "isLess" "Z", Cond.methodLink RX6 96 yX6_number, Cond.instanceMethod yX6_number, Cond.selects RX6 yX6_number yX6_number, Cond.code yX6_number cX6_number 2 (some .boolean), Cond.methodLink RX6 50 yX6_accepts, Cond.instanceMethod yX6_accepts, Cond.selects RX6 yX6_accepts yX6_accepts, Cond.code yX6_accepts cX6_accepts 3 (some .boolean), Cond.methodLink RX6 46 yX6_isSign, Cond.instanceMethod yX6_isSign, Cond.selects RX6 yX6_isSign yX6_isSign]
def wsX6_best_r4 : List Cond := [Cond.code yX6_isSign cX6_isSign 2 (some .boolean), Cond.methodLink RX6 90 yX6_and, Cond.instanceMethod yX6_and, Cond.selects RX6 yX6_and yX6_and, Cond.code yX6_and cX6_and 1 (some .boolean), Cond.methodLink RX6 81 yX6_small, Cond.instanceMethod yX6_small, Cond.selects RX6 yX6_small yX6_small, Cond.code yX6_small cX6_small 2 (some .boolean), Cond.methodLink RX6 60 yX6_unitFrom, Cond.instanceMethod yX6_unitFrom, Cond.selects RX6 yX6_unitFrom yX6_unitFrom, Cond.code yX6_unitFrom cX6_unitFrom 2 (some .int), Cond.methodLink RX6 77 yX6_smallFrom, Cond.instanceMethod yX6_smallFrom, Cond.selects RX6 yX6_smallFrom yX6_smallFrom, Cond.code yX6_smallFrom cX6_smallFrom 2 (some .boolean), Cond.methodLink RX6 67 yX6_plus, Cond.instanceMethod yX6_plus, Cond.selects RX6 yX6_plus yX6_plus, Cond.code yX6_plus cX6_plus 1 (some .boolean), Cond.methodLink RX6 74 yX6_base, Cond.instanceMethod yX6_base, Cond.selects RX6 yX6_base yX6_base]
def wsX6_best_r5 : List Cond := [Cond.code yX6_base cX6_base 1 (some .boolean), Cond.methodLink RX6 93 yX6_half, Cond.instanceMethod yX6_half, Cond.selects RX6 yX6_half yX6_half, Cond.code yX6_half cX6_half 2 (some .boolean), Cond.methodLink RX6 103 yX6_meaningBy, Cond.instanceMethod yX6_meaningBy, Cond.selects RX6 yX6_meaningBy yX6_meaningBy, Cond.code yX6_meaningBy cX6_meaningBy 7 (some .int)]
def wsX6_best : List Cond := .code yX6_best cX6_best 5 (some .int) :: ((wsX6_best_r1 ++ (wsX6_best_r2 ++ (wsX6_best_r3 ++ (wsX6_best_r4 ++ wsX6_best_r5)))) ++ wsX60)
def wsX6_bestWay_r1 : List Cond := [Cond.methodLink RX6 141 yX6_isHearer, Cond.static yX6_isHearer, Cond.initialized RX6, Cond.code yX6_isHearer cX6_isHearer 1 (some .boolean), Cond.methodLink RX6 32 yX6_in, Cond.static yX6_in, Cond.code yX6_in cX6_in 3 (some .boolean), Cond.methodLink RX6 169 yX6_isNumber, Cond.static yX6_isNumber, Cond.code yX6_isNumber cX6_isNumber 1 (some .boolean), Cond.methodLink RX6 194 yX6_best, Cond.instanceMethod yX6_best, Cond.selects RX6 yX6_best yX6_best, Cond.code yX6_best cX6_best 5 (some .int), Cond.fieldLink RX6 107 "ScoreNumbersModel" "many" "I", Cond.methodLink RX6 172 yX6_makes, Cond.instanceMethod yX6_makes, Cond.selects RX6 yX6_makes yX6_makes, Cond.code yX6_makes cX6_makes 5 none, Cond.fieldLink RX6 29 "ScoreNumbersModel" "order" "[I", Cond.methodLink RX6 118 yX6_begins, Cond.instanceMethod yX6_begins, Cond.selects RX6 yX6_begins yX6_begins, Cond.code yX6_begins cX6_begins 3 none]
def wsX6_bestWay_r2 : List Cond := [Cond.fieldLink RX6 26 "ScoreNumbersModel" "lengths" "[I", Cond.methodLink RX6 114 yX6_putCount, Cond.instanceMethod yX6_putCount, Cond.selects RX6 yX6_putCount yX6_putCount, Cond.code yX6_putCount cX6_putCount 4 none, Cond.methodLink RX6 110 yX6_put, Cond.instanceMethod yX6_put, Cond.selects RX6 yX6_put yX6_put, Cond.code yX6_put cX6_put 2 none, Cond.fieldLink RX6 23 "ScoreNumbersModel" "ways" "[C", Cond.methodLink RX6 129 yX6_smalls, Cond.instanceMethod yX6_smalls, Cond.selects RX6 yX6_smalls yX6_smalls, Cond.code yX6_smalls cX6_smalls 5 none, Cond.methodLink RX6 122 yX6_isBase, Cond.static yX6_isBase, Cond.code yX6_isBase cX6_isBase 1 (some .boolean), Cond.methodLink RX6 125 yX6_putBase, Cond.instanceMethod yX6_putBase, Cond.selects RX6 yX6_putBase yX6_putBase, Cond.code yX6_putBase cX6_putBase 2 none, Cond.methodLink RX6 133 yX6_isAhead, Cond.instanceMethod yX6_isAhead, Cond.selects RX6 yX6_isAhead yX6_isAhead]
def wsX6_bestWay_r3 : List Cond := [Cond.code yX6_isAhead cX6_isAhead 4 (some .boolean), Cond.methodLink RX6 178 yX6_says, Cond.instanceMethod yX6_says, Cond.selects RX6 yX6_says yX6_says, Cond.code yX6_says cX6_says 4 (some .int), Cond.fieldLink RX6 16 "ScoreNumbersModel" "say" "[C", Cond.methodLink RX6 154 yX6_understands, Cond.instanceMethod yX6_understands, Cond.selects RX6 yX6_understands yX6_understands, Cond.code yX6_understands cX6_understands 5 (some .int), Cond.fieldLink RX6 7 "ScoreNumbersModel" "s" "[I", Cond.methodLink RX6 99 yX6_faultOf, Cond.instanceMethod yX6_faultOf, Cond.selects RX6 yX6_faultOf yX6_faultOf, Cond.code yX6_faultOf cX6_faultOf 3 (some .int), Cond.fieldLink RX6 43 "ScoreNumbersModel" "size" "I", Cond.fieldLink RX6 40 "ScoreNumbersModel" "at" "I", Cond.fieldLink RX6 84 "ScoreNumbersModel" "greatUnit" "I", Cond.fieldLink RX6 53 "ScoreNumbersModel" "baseUnit" "I", Cond.fieldLink RX6 64 "ScoreNumbersModel" "unit" "I", Cond.fieldLink RX6 87 "ScoreNumbersModel" "isGreatHalf" "Z", Cond.fieldLink RX6 56 "ScoreNumbersModel" "isBaseHalf" "Z", Cond.fieldLink RX6 71 "ScoreNumbersModel" "isLess" "Z", Cond.methodLink RX6 96 yX6_number]
def wsX6_bestWay_r4 : List Cond := [Cond.instanceMethod yX6_number, Cond.selects RX6 yX6_number yX6_number, Cond.code yX6_number cX6_number 2 (some .boolean), Cond.methodLink RX6 50 yX6_accepts, Cond.instanceMethod yX6_accepts, Cond.selects RX6 yX6_accepts yX6_accepts, Cond.code yX6_accepts cX6_accepts 3 (some .boolean), Cond.methodLink RX6 46 yX6_isSign, Cond.instanceMethod yX6_isSign, Cond.selects RX6 yX6_isSign yX6_isSign, Cond.code yX6_isSign cX6_isSign 2 (some .boolean), Cond.methodLink RX6 90 yX6_and, Cond.instanceMethod yX6_and, Cond.selects RX6 yX6_and yX6_and, Cond.code yX6_and cX6_and 1 (some .boolean), Cond.methodLink RX6 81 yX6_small, Cond.instanceMethod yX6_small, Cond.selects RX6 yX6_small yX6_small, Cond.code yX6_small cX6_small 2 (some .boolean), Cond.methodLink RX6 60 yX6_unitFrom, Cond.instanceMethod yX6_unitFrom, Cond.selects RX6 yX6_unitFrom yX6_unitFrom, Cond.code yX6_unitFrom cX6_unitFrom 2 (some .int), Cond.methodLink RX6 77 yX6_smallFrom]
def wsX6_bestWay_r5 : List Cond := [Cond.instanceMethod yX6_smallFrom, Cond.selects RX6 yX6_smallFrom yX6_smallFrom, Cond.code yX6_smallFrom cX6_smallFrom 2 (some .boolean), Cond.methodLink RX6 67 yX6_plus, Cond.instanceMethod yX6_plus, Cond.selects RX6 yX6_plus yX6_plus, Cond.code yX6_plus cX6_plus 1 (some .boolean), Cond.methodLink RX6 74 yX6_base, Cond.instanceMethod yX6_base, Cond.selects RX6 yX6_base yX6_base, Cond.code yX6_base cX6_base 1 (some .boolean), Cond.methodLink RX6 93 yX6_half, Cond.instanceMethod yX6_half, Cond.selects RX6 yX6_half yX6_half, Cond.code yX6_half cX6_half 2 (some .boolean), Cond.methodLink RX6 103 yX6_meaningBy, Cond.instanceMethod yX6_meaningBy, Cond.selects RX6 yX6_meaningBy yX6_meaningBy, Cond.code yX6_meaningBy cX6_meaningBy 7 (some .int)]
def wsX6_bestWay : List Cond := .code yX6_bestWay cX6_bestWay 3 (some .int) :: ((wsX6_bestWay_r1 ++ (wsX6_bestWay_r2 ++ (wsX6_bestWay_r3 ++ (wsX6_bestWay_r4 ++ wsX6_bestWay_r5)))) ++ wsX60)
def wsX6_reached_r1 : List Cond := [Cond.methodLink RX6 178 yX6_says, Cond.instanceMethod yX6_says, Cond.selects RX6 yX6_says yX6_says, Cond.initialized RX6, Cond.code yX6_says cX6_says 4 (some .int), Cond.fieldLink RX6 29 "ScoreNumbersModel" "order" "[I", Cond.fieldLink RX6 26 "ScoreNumbersModel" "lengths" "[I", Cond.fieldLink RX6 16 "ScoreNumbersModel" "say" "[C", Cond.fieldLink RX6 23 "ScoreNumbersModel" "ways" "[C", Cond.methodLink RX6 154 yX6_understands, Cond.instanceMethod yX6_understands, Cond.selects RX6 yX6_understands yX6_understands, Cond.code yX6_understands cX6_understands 5 (some .int), Cond.fieldLink RX6 7 "ScoreNumbersModel" "s" "[I", Cond.methodLink RX6 99 yX6_faultOf, Cond.instanceMethod yX6_faultOf, Cond.selects RX6 yX6_faultOf yX6_faultOf, Cond.code yX6_faultOf cX6_faultOf 3 (some .int), Cond.fieldLink RX6 43 "ScoreNumbersModel" "size" "I", Cond.fieldLink RX6 40 "ScoreNumbersModel" "at" "I", Cond.fieldLink RX6 84 "ScoreNumbersModel" "greatUnit" "I", Cond.fieldLink RX6 53 "ScoreNumbersModel" "baseUnit" "I", Cond.fieldLink RX6 64 "ScoreNumbersModel" "unit" "I", Cond.fieldLink RX6 87 "ScoreNumbersModel" "isGreatHalf" "Z"]
def wsX6_reached_r2 : List Cond := [Cond.fieldLink RX6 56 "ScoreNumbersModel" "isBaseHalf" "Z", Cond.fieldLink RX6 71 "ScoreNumbersModel" "isLess" "Z", Cond.methodLink RX6 96 yX6_number, Cond.instanceMethod yX6_number, Cond.selects RX6 yX6_number yX6_number, Cond.code yX6_number cX6_number 2 (some .boolean), Cond.methodLink RX6 50 yX6_accepts, Cond.instanceMethod yX6_accepts, Cond.selects RX6 yX6_accepts yX6_accepts, Cond.code yX6_accepts cX6_accepts 3 (some .boolean), Cond.methodLink RX6 46 yX6_isSign, Cond.instanceMethod yX6_isSign, Cond.selects RX6 yX6_isSign yX6_isSign, Cond.code yX6_isSign cX6_isSign 2 (some .boolean), Cond.methodLink RX6 90 yX6_and, Cond.instanceMethod yX6_and, Cond.selects RX6 yX6_and yX6_and, Cond.code yX6_and cX6_and 1 (some .boolean), Cond.methodLink RX6 81 yX6_small, Cond.instanceMethod yX6_small, Cond.selects RX6 yX6_small yX6_small, Cond.code yX6_small cX6_small 2 (some .boolean), Cond.methodLink RX6 60 yX6_unitFrom, Cond.instanceMethod yX6_unitFrom]
def wsX6_reached_r3 : List Cond := [Cond.selects RX6 yX6_unitFrom yX6_unitFrom, Cond.code yX6_unitFrom cX6_unitFrom 2 (some .int), Cond.methodLink RX6 77 yX6_smallFrom, Cond.instanceMethod yX6_smallFrom, Cond.selects RX6 yX6_smallFrom yX6_smallFrom, Cond.code yX6_smallFrom cX6_smallFrom 2 (some .boolean), Cond.methodLink RX6 67 yX6_plus, Cond.instanceMethod yX6_plus, Cond.selects RX6 yX6_plus yX6_plus, Cond.code yX6_plus cX6_plus 1 (some .boolean), Cond.methodLink RX6 74 yX6_base, Cond.instanceMethod yX6_base, Cond.selects RX6 yX6_base yX6_base, Cond.code yX6_base cX6_base 1 (some .boolean), Cond.methodLink RX6 93 yX6_half, Cond.instanceMethod yX6_half, Cond.selects RX6 yX6_half yX6_half, Cond.code yX6_half cX6_half 2 (some .boolean), Cond.methodLink RX6 103 yX6_meaningBy, Cond.instanceMethod yX6_meaningBy, Cond.selects RX6 yX6_meaningBy yX6_meaningBy, Cond.code yX6_meaningBy cX6_meaningBy 7 (some .int)]
def wsX6_reached : List Cond := .code yX6_reached cX6_reached 6 (some .int) :: ((wsX6_reached_r1 ++ (wsX6_reached_r2 ++ wsX6_reached_r3)) ++ wsX60)
def wsX6_commonWay_r1 : List Cond := [Cond.fieldLink RX6 107 "ScoreNumbersModel" "many" "I", Cond.methodLink RX6 169 yX6_isNumber, Cond.static yX6_isNumber, Cond.initialized RX6, Cond.code yX6_isNumber cX6_isNumber 1 (some .boolean), Cond.methodLink RX6 32 yX6_in, Cond.static yX6_in, Cond.code yX6_in cX6_in 3 (some .boolean), Cond.methodLink RX6 172 yX6_makes, Cond.instanceMethod yX6_makes, Cond.selects RX6 yX6_makes yX6_makes, Cond.code yX6_makes cX6_makes 5 none, Cond.fieldLink RX6 29 "ScoreNumbersModel" "order" "[I", Cond.methodLink RX6 118 yX6_begins, Cond.instanceMethod yX6_begins, Cond.selects RX6 yX6_begins yX6_begins, Cond.code yX6_begins cX6_begins 3 none, Cond.fieldLink RX6 26 "ScoreNumbersModel" "lengths" "[I", Cond.methodLink RX6 114 yX6_putCount, Cond.instanceMethod yX6_putCount, Cond.selects RX6 yX6_putCount yX6_putCount, Cond.code yX6_putCount cX6_putCount 4 none, Cond.methodLink RX6 110 yX6_put, Cond.instanceMethod yX6_put]
def wsX6_commonWay_r2 : List Cond := [Cond.selects RX6 yX6_put yX6_put, Cond.code yX6_put cX6_put 2 none, Cond.fieldLink RX6 23 "ScoreNumbersModel" "ways" "[C", Cond.methodLink RX6 129 yX6_smalls, Cond.instanceMethod yX6_smalls, Cond.selects RX6 yX6_smalls yX6_smalls, Cond.code yX6_smalls cX6_smalls 5 none, Cond.methodLink RX6 122 yX6_isBase, Cond.static yX6_isBase, Cond.code yX6_isBase cX6_isBase 1 (some .boolean), Cond.methodLink RX6 125 yX6_putBase, Cond.instanceMethod yX6_putBase, Cond.selects RX6 yX6_putBase yX6_putBase, Cond.code yX6_putBase cX6_putBase 2 none, Cond.methodLink RX6 133 yX6_isAhead, Cond.instanceMethod yX6_isAhead, Cond.selects RX6 yX6_isAhead yX6_isAhead, Cond.code yX6_isAhead cX6_isAhead 4 (some .boolean), Cond.methodLink RX6 197 yX6_reached, Cond.instanceMethod yX6_reached, Cond.selects RX6 yX6_reached yX6_reached, Cond.code yX6_reached cX6_reached 6 (some .int), Cond.methodLink RX6 178 yX6_says, Cond.instanceMethod yX6_says]
def wsX6_commonWay_r3 : List Cond := [Cond.selects RX6 yX6_says yX6_says, Cond.code yX6_says cX6_says 4 (some .int), Cond.fieldLink RX6 16 "ScoreNumbersModel" "say" "[C", Cond.methodLink RX6 154 yX6_understands, Cond.instanceMethod yX6_understands, Cond.selects RX6 yX6_understands yX6_understands, Cond.code yX6_understands cX6_understands 5 (some .int), Cond.fieldLink RX6 7 "ScoreNumbersModel" "s" "[I", Cond.methodLink RX6 99 yX6_faultOf, Cond.instanceMethod yX6_faultOf, Cond.selects RX6 yX6_faultOf yX6_faultOf, Cond.code yX6_faultOf cX6_faultOf 3 (some .int), Cond.fieldLink RX6 43 "ScoreNumbersModel" "size" "I", Cond.fieldLink RX6 40 "ScoreNumbersModel" "at" "I", Cond.fieldLink RX6 84 "ScoreNumbersModel" "greatUnit" "I", Cond.fieldLink RX6 53 "ScoreNumbersModel" "baseUnit" "I", Cond.fieldLink RX6 64 "ScoreNumbersModel" "unit" "I", Cond.fieldLink RX6 87 "ScoreNumbersModel" "isGreatHalf" "Z", Cond.fieldLink RX6 56 "ScoreNumbersModel" "isBaseHalf" "Z", Cond.fieldLink RX6 71 "ScoreNumbersModel" "isLess" "Z", Cond.methodLink RX6 96 yX6_number, Cond.instanceMethod yX6_number, Cond.selects RX6 yX6_number yX6_number, Cond.code yX6_number cX6_number 2 (some .boolean)]
def wsX6_commonWay_r4 : List Cond := [Cond.methodLink RX6 50 yX6_accepts, Cond.instanceMethod yX6_accepts, Cond.selects RX6 yX6_accepts yX6_accepts, Cond.code yX6_accepts cX6_accepts 3 (some .boolean), Cond.methodLink RX6 46 yX6_isSign, Cond.instanceMethod yX6_isSign, Cond.selects RX6 yX6_isSign yX6_isSign, Cond.code yX6_isSign cX6_isSign 2 (some .boolean), Cond.methodLink RX6 90 yX6_and, Cond.instanceMethod yX6_and, Cond.selects RX6 yX6_and yX6_and, Cond.code yX6_and cX6_and 1 (some .boolean), Cond.methodLink RX6 81 yX6_small, Cond.instanceMethod yX6_small, Cond.selects RX6 yX6_small yX6_small, Cond.code yX6_small cX6_small 2 (some .boolean), Cond.methodLink RX6 60 yX6_unitFrom, Cond.instanceMethod yX6_unitFrom, Cond.selects RX6 yX6_unitFrom yX6_unitFrom, Cond.code yX6_unitFrom cX6_unitFrom 2 (some .int), Cond.methodLink RX6 77 yX6_smallFrom, Cond.instanceMethod yX6_smallFrom, Cond.selects RX6 yX6_smallFrom yX6_smallFrom, Cond.code yX6_smallFrom cX6_smallFrom 2 (some .boolean)]
def wsX6_commonWay_r5 : List Cond := [Cond.methodLink RX6 67 yX6_plus, Cond.instanceMethod yX6_plus, Cond.selects RX6 yX6_plus yX6_plus, Cond.code yX6_plus cX6_plus 1 (some .boolean), Cond.methodLink RX6 74 yX6_base, Cond.instanceMethod yX6_base, Cond.selects RX6 yX6_base yX6_base, Cond.code yX6_base cX6_base 1 (some .boolean), Cond.methodLink RX6 93 yX6_half, Cond.instanceMethod yX6_half, Cond.selects RX6 yX6_half yX6_half, Cond.code yX6_half cX6_half 2 (some .boolean), Cond.methodLink RX6 103 yX6_meaningBy, Cond.instanceMethod yX6_meaningBy, Cond.selects RX6 yX6_meaningBy yX6_meaningBy, Cond.code yX6_meaningBy cX6_meaningBy 7 (some .int)]
def wsX6_commonWay : List Cond := .code yX6_commonWay cX6_commonWay 6 (some .int) :: ((wsX6_commonWay_r1 ++ (wsX6_commonWay_r2 ++ (wsX6_commonWay_r3 ++ (wsX6_commonWay_r4 ++ wsX6_commonWay_r5)))) ++ wsX60)
def wsX6_reach_r1 : List Cond := [Cond.methodLink RX6 32 yX6_in, Cond.static yX6_in, Cond.initialized RX6, Cond.code yX6_in cX6_in 3 (some .boolean), Cond.methodLink RX6 169 yX6_isNumber, Cond.static yX6_isNumber, Cond.code yX6_isNumber cX6_isNumber 1 (some .boolean), Cond.methodLink RX6 172 yX6_makes, Cond.instanceMethod yX6_makes, Cond.selects RX6 yX6_makes yX6_makes, Cond.code yX6_makes cX6_makes 5 none, Cond.fieldLink RX6 107 "ScoreNumbersModel" "many" "I", Cond.fieldLink RX6 29 "ScoreNumbersModel" "order" "[I", Cond.methodLink RX6 118 yX6_begins, Cond.instanceMethod yX6_begins, Cond.selects RX6 yX6_begins yX6_begins, Cond.code yX6_begins cX6_begins 3 none, Cond.fieldLink RX6 26 "ScoreNumbersModel" "lengths" "[I", Cond.methodLink RX6 114 yX6_putCount, Cond.instanceMethod yX6_putCount, Cond.selects RX6 yX6_putCount yX6_putCount, Cond.code yX6_putCount cX6_putCount 4 none, Cond.methodLink RX6 110 yX6_put, Cond.instanceMethod yX6_put]
def wsX6_reach_r2 : List Cond := [Cond.selects RX6 yX6_put yX6_put, Cond.code yX6_put cX6_put 2 none, Cond.fieldLink RX6 23 "ScoreNumbersModel" "ways" "[C", Cond.methodLink RX6 129 yX6_smalls, Cond.instanceMethod yX6_smalls, Cond.selects RX6 yX6_smalls yX6_smalls, Cond.code yX6_smalls cX6_smalls 5 none, Cond.methodLink RX6 122 yX6_isBase, Cond.static yX6_isBase, Cond.code yX6_isBase cX6_isBase 1 (some .boolean), Cond.methodLink RX6 125 yX6_putBase, Cond.instanceMethod yX6_putBase, Cond.selects RX6 yX6_putBase yX6_putBase, Cond.code yX6_putBase cX6_putBase 2 none, Cond.methodLink RX6 133 yX6_isAhead, Cond.instanceMethod yX6_isAhead, Cond.selects RX6 yX6_isAhead yX6_isAhead, Cond.code yX6_isAhead cX6_isAhead 4 (some .boolean), Cond.methodLink RX6 175 yX6_placeOf, Cond.instanceMethod yX6_placeOf, Cond.selects RX6 yX6_placeOf yX6_placeOf, Cond.code yX6_placeOf cX6_placeOf 7 (some .int), Cond.methodLink RX6 137 yX6_has, Cond.instanceMethod yX6_has]
def wsX6_reach_r3 : List Cond := [Cond.selects RX6 yX6_has yX6_has, Cond.code yX6_has cX6_has 5 (some .boolean), Cond.methodLink RX6 197 yX6_reached, Cond.instanceMethod yX6_reached, Cond.selects RX6 yX6_reached yX6_reached, Cond.code yX6_reached cX6_reached 6 (some .int), Cond.methodLink RX6 178 yX6_says, Cond.instanceMethod yX6_says, Cond.selects RX6 yX6_says yX6_says, Cond.code yX6_says cX6_says 4 (some .int), Cond.fieldLink RX6 16 "ScoreNumbersModel" "say" "[C", Cond.methodLink RX6 154 yX6_understands, Cond.instanceMethod yX6_understands, Cond.selects RX6 yX6_understands yX6_understands, Cond.code yX6_understands cX6_understands 5 (some .int), Cond.fieldLink RX6 7 "ScoreNumbersModel" "s" "[I", Cond.methodLink RX6 99 yX6_faultOf, Cond.instanceMethod yX6_faultOf, Cond.selects RX6 yX6_faultOf yX6_faultOf, Cond.code yX6_faultOf cX6_faultOf 3 (some .int), Cond.fieldLink RX6 43 "ScoreNumbersModel" "size" "I", Cond.fieldLink RX6 40 "ScoreNumbersModel" "at" "I", Cond.fieldLink RX6 84 "ScoreNumbersModel" "greatUnit" "I", Cond.fieldLink RX6 53 "ScoreNumbersModel" "baseUnit" "I"]
def wsX6_reach_r4 : List Cond := [Cond.fieldLink RX6 64 "ScoreNumbersModel" "unit" "I", Cond.fieldLink RX6 87 "ScoreNumbersModel" "isGreatHalf" "Z", Cond.fieldLink RX6 56 "ScoreNumbersModel" "isBaseHalf" "Z", Cond.fieldLink RX6 71 "ScoreNumbersModel" "isLess" "Z", Cond.methodLink RX6 96 yX6_number, Cond.instanceMethod yX6_number, Cond.selects RX6 yX6_number yX6_number, Cond.code yX6_number cX6_number 2 (some .boolean), Cond.methodLink RX6 50 yX6_accepts, Cond.instanceMethod yX6_accepts, Cond.selects RX6 yX6_accepts yX6_accepts, Cond.code yX6_accepts cX6_accepts 3 (some .boolean), Cond.methodLink RX6 46 yX6_isSign, Cond.instanceMethod yX6_isSign, Cond.selects RX6 yX6_isSign yX6_isSign, Cond.code yX6_isSign cX6_isSign 2 (some .boolean), Cond.methodLink RX6 90 yX6_and, Cond.instanceMethod yX6_and, Cond.selects RX6 yX6_and yX6_and, Cond.code yX6_and cX6_and 1 (some .boolean), Cond.methodLink RX6 81 yX6_small, Cond.instanceMethod yX6_small, Cond.selects RX6 yX6_small yX6_small, Cond.code yX6_small cX6_small 2 (some .boolean)]
def wsX6_reach_r5 : List Cond := [Cond.methodLink RX6 60 yX6_unitFrom, Cond.instanceMethod yX6_unitFrom, Cond.selects RX6 yX6_unitFrom yX6_unitFrom, Cond.code yX6_unitFrom cX6_unitFrom 2 (some .int), Cond.methodLink RX6 77 yX6_smallFrom, Cond.instanceMethod yX6_smallFrom, Cond.selects RX6 yX6_smallFrom yX6_smallFrom, Cond.code yX6_smallFrom cX6_smallFrom 2 (some .boolean), Cond.methodLink RX6 67 yX6_plus, Cond.instanceMethod yX6_plus, Cond.selects RX6 yX6_plus yX6_plus, Cond.code yX6_plus cX6_plus 1 (some .boolean), Cond.methodLink RX6 74 yX6_base, Cond.instanceMethod yX6_base, Cond.selects RX6 yX6_base yX6_base, Cond.code yX6_base cX6_base 1 (some .boolean), Cond.methodLink RX6 93 yX6_half, Cond.instanceMethod yX6_half, Cond.selects RX6 yX6_half yX6_half, Cond.code yX6_half cX6_half 2 (some .boolean), Cond.methodLink RX6 103 yX6_meaningBy, Cond.instanceMethod yX6_meaningBy, Cond.selects RX6 yX6_meaningBy yX6_meaningBy, Cond.code yX6_meaningBy cX6_meaningBy 7 (some .int)]
def wsX6_reach : List Cond := .code yX6_reach cX6_reach 3 (some .int) :: ((wsX6_reach_r1 ++ (wsX6_reach_r2 ++ (wsX6_reach_r3 ++ (wsX6_reach_r4 ++ wsX6_reach_r5)))) ++ wsX60)
def wsX6_untellable_r1 : List Cond := [Cond.methodLink RX6 141 yX6_isHearer, Cond.static yX6_isHearer, Cond.initialized RX6, Cond.code yX6_isHearer cX6_isHearer 1 (some .boolean), Cond.methodLink RX6 32 yX6_in, Cond.static yX6_in, Cond.code yX6_in cX6_in 3 (some .boolean), Cond.methodLink RX6 169 yX6_isNumber, Cond.static yX6_isNumber, Cond.code yX6_isNumber cX6_isNumber 1 (some .boolean), Cond.methodLink RX6 194 yX6_best, Cond.instanceMethod yX6_best, Cond.selects RX6 yX6_best yX6_best, Cond.code yX6_best cX6_best 5 (some .int), Cond.fieldLink RX6 107 "ScoreNumbersModel" "many" "I", Cond.methodLink RX6 172 yX6_makes, Cond.instanceMethod yX6_makes, Cond.selects RX6 yX6_makes yX6_makes, Cond.code yX6_makes cX6_makes 5 none, Cond.fieldLink RX6 29 "ScoreNumbersModel" "order" "[I", Cond.methodLink RX6 118 yX6_begins, Cond.instanceMethod yX6_begins, Cond.selects RX6 yX6_begins yX6_begins, Cond.code yX6_begins cX6_begins 3 none]
def wsX6_untellable_r2 : List Cond := [Cond.fieldLink RX6 26 "ScoreNumbersModel" "lengths" "[I", Cond.methodLink RX6 114 yX6_putCount, Cond.instanceMethod yX6_putCount, Cond.selects RX6 yX6_putCount yX6_putCount, Cond.code yX6_putCount cX6_putCount 4 none, Cond.methodLink RX6 110 yX6_put, Cond.instanceMethod yX6_put, Cond.selects RX6 yX6_put yX6_put, Cond.code yX6_put cX6_put 2 none, Cond.fieldLink RX6 23 "ScoreNumbersModel" "ways" "[C", Cond.methodLink RX6 129 yX6_smalls, Cond.instanceMethod yX6_smalls, Cond.selects RX6 yX6_smalls yX6_smalls, Cond.code yX6_smalls cX6_smalls 5 none, Cond.methodLink RX6 122 yX6_isBase, Cond.static yX6_isBase, Cond.code yX6_isBase cX6_isBase 1 (some .boolean), Cond.methodLink RX6 125 yX6_putBase, Cond.instanceMethod yX6_putBase, Cond.selects RX6 yX6_putBase yX6_putBase, Cond.code yX6_putBase cX6_putBase 2 none, Cond.methodLink RX6 133 yX6_isAhead, Cond.instanceMethod yX6_isAhead, Cond.selects RX6 yX6_isAhead yX6_isAhead]
def wsX6_untellable_r3 : List Cond := [Cond.code yX6_isAhead cX6_isAhead 4 (some .boolean), Cond.methodLink RX6 178 yX6_says, Cond.instanceMethod yX6_says, Cond.selects RX6 yX6_says yX6_says, Cond.code yX6_says cX6_says 4 (some .int), Cond.fieldLink RX6 16 "ScoreNumbersModel" "say" "[C", Cond.methodLink RX6 154 yX6_understands, Cond.instanceMethod yX6_understands, Cond.selects RX6 yX6_understands yX6_understands, Cond.code yX6_understands cX6_understands 5 (some .int), Cond.fieldLink RX6 7 "ScoreNumbersModel" "s" "[I", Cond.methodLink RX6 99 yX6_faultOf, Cond.instanceMethod yX6_faultOf, Cond.selects RX6 yX6_faultOf yX6_faultOf, Cond.code yX6_faultOf cX6_faultOf 3 (some .int), Cond.fieldLink RX6 43 "ScoreNumbersModel" "size" "I", Cond.fieldLink RX6 40 "ScoreNumbersModel" "at" "I", Cond.fieldLink RX6 84 "ScoreNumbersModel" "greatUnit" "I", Cond.fieldLink RX6 53 "ScoreNumbersModel" "baseUnit" "I", Cond.fieldLink RX6 64 "ScoreNumbersModel" "unit" "I", Cond.fieldLink RX6 87 "ScoreNumbersModel" "isGreatHalf" "Z", Cond.fieldLink RX6 56 "ScoreNumbersModel" "isBaseHalf" "Z", Cond.fieldLink RX6 71 "ScoreNumbersModel" "isLess" "Z", Cond.methodLink RX6 96 yX6_number]
def wsX6_untellable_r4 : List Cond := [Cond.instanceMethod yX6_number, Cond.selects RX6 yX6_number yX6_number, Cond.code yX6_number cX6_number 2 (some .boolean), Cond.methodLink RX6 50 yX6_accepts, Cond.instanceMethod yX6_accepts, Cond.selects RX6 yX6_accepts yX6_accepts, Cond.code yX6_accepts cX6_accepts 3 (some .boolean), Cond.methodLink RX6 46 yX6_isSign, Cond.instanceMethod yX6_isSign, Cond.selects RX6 yX6_isSign yX6_isSign, Cond.code yX6_isSign cX6_isSign 2 (some .boolean), Cond.methodLink RX6 90 yX6_and, Cond.instanceMethod yX6_and, Cond.selects RX6 yX6_and yX6_and, Cond.code yX6_and cX6_and 1 (some .boolean), Cond.methodLink RX6 81 yX6_small, Cond.instanceMethod yX6_small, Cond.selects RX6 yX6_small yX6_small, Cond.code yX6_small cX6_small 2 (some .boolean), Cond.methodLink RX6 60 yX6_unitFrom, Cond.instanceMethod yX6_unitFrom, Cond.selects RX6 yX6_unitFrom yX6_unitFrom, Cond.code yX6_unitFrom cX6_unitFrom 2 (some .int), Cond.methodLink RX6 77 yX6_smallFrom]
def wsX6_untellable_r5 : List Cond := [Cond.instanceMethod yX6_smallFrom, Cond.selects RX6 yX6_smallFrom yX6_smallFrom, Cond.code yX6_smallFrom cX6_smallFrom 2 (some .boolean), Cond.methodLink RX6 67 yX6_plus, Cond.instanceMethod yX6_plus, Cond.selects RX6 yX6_plus yX6_plus, Cond.code yX6_plus cX6_plus 1 (some .boolean), Cond.methodLink RX6 74 yX6_base, Cond.instanceMethod yX6_base, Cond.selects RX6 yX6_base yX6_base, Cond.code yX6_base cX6_base 1 (some .boolean), Cond.methodLink RX6 93 yX6_half, Cond.instanceMethod yX6_half, Cond.selects RX6 yX6_half yX6_half, Cond.code yX6_half cX6_half 2 (some .boolean), Cond.methodLink RX6 103 yX6_meaningBy, Cond.instanceMethod yX6_meaningBy, Cond.selects RX6 yX6_meaningBy yX6_meaningBy, Cond.code yX6_meaningBy cX6_meaningBy 7 (some .int)]
def wsX6_untellable : List Cond := .code yX6_untellable cX6_untellable 6 (some .int) :: ((wsX6_untellable_r1 ++ (wsX6_untellable_r2 ++ (wsX6_untellable_r3 ++ (wsX6_untellable_r4 ++ wsX6_untellable_r5)))) ++ wsX60)
def wsX6_log : List Cond := .code yX6_log cX6_log 3 (some .int) :: ([.fieldLink RX6 7 "ScoreNumbersModel" "s" "[I", .methodLink RX6 32 yX6_in, .static yX6_in, .initialized RX6, .code yX6_in cX6_in 3 (some .boolean)] ++ wsX60)
def wsX6_sumOf : List Cond := .code yX6_sumOf cX6_sumOf 5 (some .int) :: ([.fieldLink RX6 7 "ScoreNumbersModel" "s" "[I", .methodLink RX6 147 yX6_known, .instanceMethod yX6_known, .selects RX6 yX6_known yX6_known, .initialized RX6, .code yX6_known cX6_known 3 (some .int)] ++ wsX60)
def wsX6_sum : List Cond := .code yX6_sum cX6_sum 2 (some .int) :: ([.methodLink RX6 32 yX6_in, .static yX6_in, .initialized RX6, .code yX6_in cX6_in 3 (some .boolean), .methodLink RX6 200 yX6_sumOf, .instanceMethod yX6_sumOf, .selects RX6 yX6_sumOf yX6_sumOf, .code yX6_sumOf cX6_sumOf 5 (some .int), .fieldLink RX6 7 "ScoreNumbersModel" "s" "[I", .methodLink RX6 147 yX6_known, .instanceMethod yX6_known, .selects RX6 yX6_known yX6_known, .code yX6_known cX6_known 3 (some .int)] ++ wsX60)
def wsX6_patience : List Cond := .code yX6_patience cX6_patience 1 (some .int) :: ([.fieldLink RX6 7 "ScoreNumbersModel" "s" "[I"] ++ wsX60)
def wsX6_share : List Cond := .code yX6_share cX6_share 2 (some .float) :: ([.methodLink RX6 200 yX6_sumOf, .instanceMethod yX6_sumOf, .selects RX6 yX6_sumOf yX6_sumOf, .initialized RX6, .code yX6_sumOf cX6_sumOf 5 (some .int), .fieldLink RX6 7 "ScoreNumbersModel" "s" "[I", .methodLink RX6 147 yX6_known, .instanceMethod yX6_known, .selects RX6 yX6_known yX6_known, .code yX6_known cX6_known 3 (some .int)] ++ wsX60)
def wsJ9_max_7cf53 : List Cond := .code yJ9_max_7cf53 cJ9_max_7cf53 2 (some .int) :: ([])
def wsJ9_min_7cf53 : List Cond := .code yJ9_min_7cf53 cJ9_min_7cf53 2 (some .int) :: ([])
end
section
theorem dX0_init_0 : decode cX0_init 0 = .ok (.aload_n 0, 1) := by decide +kernel
theorem dX0_init_1 : decode cX0_init 1 = .ok (.invokespecial 1, 3) := by decide +kernel
theorem dX0_init_4 : decode cX0_init 4 = .ok (.return_, 1) := by decide +kernel
theorem dX0_listen_0 : decode cX0_listen 0 = .ok (.aload_n 0, 1) := by decide +kernel
theorem dX0_listen_1 : decode cX0_listen 1 = .ok (.iload_n 1, 1) := by decide +kernel
theorem dX0_listen_2 : decode cX0_listen 2 = .ok (.putfield 7, 3) := by decide +kernel
theorem dX0_listen_5 : decode cX0_listen 5 = .ok (.aload_n 0, 1) := by decide +kernel
theorem dX0_listen_6 : decode cX0_listen 6 = .ok (.iload_n 2, 1) := by decide +kernel
theorem dX0_listen_7 : decode cX0_listen 7 = .ok (.putfield 13, 3) := by decide +kernel
theorem dX0_listen_10 : decode cX0_listen 10 = .ok (.aload_n 0, 1) := by decide +kernel
theorem dX0_listen_11 : decode cX0_listen 11 = .ok (.iload_n 3, 1) := by decide +kernel
theorem dX0_listen_12 : decode cX0_listen 12 = .ok (.putfield 16, 3) := by decide +kernel
theorem dX0_listen_15 : decode cX0_listen 15 = .ok (.aload_n 0, 1) := by decide +kernel
theorem dX0_listen_16 : decode cX0_listen 16 = .ok (.iconst 0, 1) := by decide +kernel
theorem dX0_listen_17 : decode cX0_listen 17 = .ok (.putfield 19, 3) := by decide +kernel
theorem dX0_listen_20 : decode cX0_listen 20 = .ok (.aload_n 0, 1) := by decide +kernel
theorem dX0_listen_21 : decode cX0_listen 21 = .ok (.iconst 0, 1) := by decide +kernel
theorem dX0_listen_22 : decode cX0_listen 22 = .ok (.putfield 23, 3) := by decide +kernel
theorem dX0_listen_25 : decode cX0_listen 25 = .ok (.aload_n 0, 1) := by decide +kernel
theorem dX0_listen_26 : decode cX0_listen 26 = .ok (.iconst 0, 1) := by decide +kernel
theorem dX0_listen_27 : decode cX0_listen 27 = .ok (.putfield 26, 3) := by decide +kernel
theorem dX0_listen_30 : decode cX0_listen 30 = .ok (.aload_n 0, 1) := by decide +kernel
theorem dX0_listen_31 : decode cX0_listen 31 = .ok (.iconst 0, 1) := by decide +kernel
theorem dX0_listen_32 : decode cX0_listen 32 = .ok (.putfield 29, 3) := by decide +kernel
theorem dX0_listen_35 : decode cX0_listen 35 = .ok (.aload_n 0, 1) := by decide +kernel
theorem dX0_listen_36 : decode cX0_listen 36 = .ok (.iconst 1, 1) := by decide +kernel
theorem dX0_listen_37 : decode cX0_listen 37 = .ok (.putfield 32, 3) := by decide +kernel
theorem dX0_listen_40 : decode cX0_listen 40 = .ok (.aload_n 0, 1) := by decide +kernel
theorem dX0_listen_41 : decode cX0_listen 41 = .ok (.iconst 0, 1) := by decide +kernel
theorem dX0_listen_42 : decode cX0_listen 42 = .ok (.putfield 35, 3) := by decide +kernel
theorem dX0_listen_45 : decode cX0_listen 45 = .ok (.aload_n 0, 1) := by decide +kernel
theorem dX0_listen_46 : decode cX0_listen 46 = .ok (.iconst 0, 1) := by decide +kernel
theorem dX0_listen_47 : decode cX0_listen 47 = .ok (.putfield 38, 3) := by decide +kernel
theorem dX0_listen_50 : decode cX0_listen 50 = .ok (.aload_n 0, 1) := by decide +kernel
theorem dX0_listen_51 : decode cX0_listen 51 = .ok (.iconst 0, 1) := by decide +kernel
theorem dX0_listen_52 : decode cX0_listen 52 = .ok (.putfield 41, 3) := by decide +kernel
theorem dX0_listen_55 : decode cX0_listen 55 = .ok (.return_, 1) := by decide +kernel
set_option maxRecDepth 20000 in
theorem ggX0_hear_X2_length : GoodIn wsX0_hear wsX2_length := goodIn_r _ [4] (by decide +kernel) (by decide +kernel)
set_option maxRecDepth 20000 in
theorem gX0_hear_X2_length : GoodIn wsX0_hear (va_wsS RX0 44 yX2_length wsX2_length) := goodIn_app (goodIn_of _ (by decide +kernel)) ggX0_hear_X2_length
set_option maxRecDepth 20000 in
theorem ggX0_hear_X2_character : GoodIn wsX0_hear wsX2_character := goodIn_r _ [7] (by decide +kernel) (by decide +kernel)
set_option maxRecDepth 20000 in
theorem gX0_hear_X2_character : GoodIn wsX0_hear (va_wsS RX0 50 yX2_character wsX2_character) := goodIn_app (goodIn_of _ (by decide +kernel)) ggX0_hear_X2_character
set_option maxRecDepth 20000 in
theorem ggX0_hear_X0_take : GoodIn wsX0_hear wsX0_take := goodIn_r _ [12, 13, 14, 15, 16, 11, 17, 18, 19, 20, 21, 22, 23, 24, 25, 26, 27, 28, 29, 30, 31, 32, 33, 34, 35, 36, 37, 38, 39, 40, 41, 42, 43, 44, 45, 46, 47, 48, 49, 50, 51, 52, 53, 54, 55, 56, 57, 58, 59, 60, 70, 71, 72, 73, 74, 75, 76, 77, 78, 79, 80] (by decide +kernel) (by decide +kernel)
set_option maxRecDepth 20000 in
theorem gX0_hear_X0_take : GoodIn wsX0_hear (wsV RX0 54 RX0 yX0_take wsX0_take) := goodIn_app (goodIn_of _ (by decide +kernel)) ggX0_hear_X0_take
set_option maxRecDepth 20000 in
theorem ggX0_hear_X0_isComplete : GoodIn wsX0_hear wsX0_isComplete := goodIn_r _ [64, 13, 70, 71, 72, 73, 74, 75, 76, 77, 78, 79, 80] (by decide +kernel) (by decide +kernel)
set_option maxRecDepth 20000 in
theorem gX0_hear_X0_isComplete : GoodIn wsX0_hear (wsV RX0 58 RX0 yX0_isComplete wsX0_isComplete) := goodIn_app (goodIn_of _ (by decide +kernel)) ggX0_hear_X0_isComplete
set_option maxRecDepth 20000 in
theorem ggX0_hear_X0_number : GoodIn wsX0_hear wsX0_number := goodIn_r _ [68, 46, 44, 42, 69, 51, 70, 71, 72, 73, 74, 75, 76, 77, 78, 79, 80] (by decide +kernel) (by decide +kernel)
set_option maxRecDepth 20000 in
theorem gX0_hear_X0_number : GoodIn wsX0_hear (wsV RX0 62 RX0 yX0_number wsX0_number) := goodIn_app (goodIn_of _ (by decide +kernel)) ggX0_hear_X0_number
theorem dX0_hear_0 : decode cX0_hear 0 = .ok (.lload_n 1, 1) := by decide +kernel
theorem dX0_hear_1 : decode cX0_hear 1 = .ok (.invokestatic 44, 3) := by decide +kernel
theorem dX0_hear_4 : decode cX0_hear 4 = .ok (.istore 4, 2) := by decide +kernel
theorem dX0_hear_6 : decode cX0_hear 6 = .ok (.iconst 0, 1) := by decide +kernel
theorem dX0_hear_7 : decode cX0_hear 7 = .ok (.istore 5, 2) := by decide +kernel
theorem dX0_hear_9 : decode cX0_hear 9 = .ok (.iload 5, 2) := by decide +kernel
theorem dX0_hear_11 : decode cX0_hear 11 = .ok (.iload 4, 2) := by decide +kernel
theorem dX0_hear_13 : decode cX0_hear 13 = .ok (.if_icmp .ge 35, 3) := by decide +kernel
theorem dX0_hear_16 : decode cX0_hear 16 = .ok (.iload 5, 2) := by decide +kernel
theorem dX0_hear_18 : decode cX0_hear 18 = .ok (.iload_n 3, 1) := by decide +kernel
theorem dX0_hear_19 : decode cX0_hear 19 = .ok (.if_icmp .ge 29, 3) := by decide +kernel
theorem dX0_hear_22 : decode cX0_hear 22 = .ok (.aload_n 0, 1) := by decide +kernel
theorem dX0_hear_23 : decode cX0_hear 23 = .ok (.lload_n 1, 1) := by decide +kernel
theorem dX0_hear_24 : decode cX0_hear 24 = .ok (.iload 4, 2) := by decide +kernel
theorem dX0_hear_26 : decode cX0_hear 26 = .ok (.iconst 1, 1) := by decide +kernel
theorem dX0_hear_27 : decode cX0_hear 27 = .ok (.isub, 1) := by decide +kernel
theorem dX0_hear_28 : decode cX0_hear 28 = .ok (.iload 5, 2) := by decide +kernel
theorem dX0_hear_30 : decode cX0_hear 30 = .ok (.isub, 1) := by decide +kernel
theorem dX0_hear_31 : decode cX0_hear 31 = .ok (.invokestatic 50, 3) := by decide +kernel
theorem dX0_hear_34 : decode cX0_hear 34 = .ok (.invokevirtual 54, 3) := by decide +kernel
theorem dX0_hear_37 : decode cX0_hear 37 = .ok (.ifCond .ne 5, 3) := by decide +kernel
theorem dX0_hear_40 : decode cX0_hear 40 = .ok (.iconst 0, 1) := by decide +kernel
theorem dX0_hear_41 : decode cX0_hear 41 = .ok (.ireturn, 1) := by decide +kernel
theorem dX0_hear_42 : decode cX0_hear 42 = .ok (.iinc 5 1, 3) := by decide +kernel
theorem dX0_hear_45 : decode cX0_hear 45 = .ok (.goto (-36), 3) := by decide +kernel
theorem dX0_hear_48 : decode cX0_hear 48 = .ok (.aload_n 0, 1) := by decide +kernel
theorem dX0_hear_49 : decode cX0_hear 49 = .ok (.invokevirtual 58, 3) := by decide +kernel
theorem dX0_hear_52 : decode cX0_hear 52 = .ok (.ifCond .eq 10, 3) := by decide +kernel
theorem dX0_hear_55 : decode cX0_hear 55 = .ok (.aload_n 0, 1) := by decide +kernel
theorem dX0_hear_56 : decode cX0_hear 56 = .ok (.invokevirtual 62, 3) := by decide +kernel
theorem dX0_hear_59 : decode cX0_hear 59 = .ok (.goto 4, 3) := by decide +kernel
theorem dX0_hear_62 : decode cX0_hear 62 = .ok (.iconst 0, 1) := by decide +kernel
theorem dX0_hear_63 : decode cX0_hear 63 = .ok (.ireturn, 1) := by decide +kernel
set_option maxRecDepth 20000 in
theorem ggX0_take_X0_following : GoodIn wsX0_take wsX0_following := goodIn_r _ [6, 1, 7, 8, 9, 5, 10, 11, 12, 13, 14, 15, 16, 17, 18, 19, 20, 21, 22, 23, 24, 25, 50, 51, 52, 53, 54, 55, 56, 57, 58, 59, 60] (by decide +kernel) (by decide +kernel)
set_option maxRecDepth 20000 in
theorem gX0_take_X0_following : GoodIn wsX0_take (wsV RX0 66 RX0 yX0_following wsX0_following) := goodIn_app (goodIn_of _ (by decide +kernel)) ggX0_take_X0_following
set_option maxRecDepth 20000 in
theorem ggX0_take_X0_keep : GoodIn wsX0_take wsX0_keep := goodIn_r _ [29, 30, 31, 11, 32, 33, 34, 35, 36, 37, 38, 5, 39, 1, 40, 41, 42, 43, 44, 45, 46, 47, 48, 49, 50, 51, 52, 53, 54, 55, 56, 57, 58, 59, 60] (by decide +kernel) (by decide +kernel)
set_option maxRecDepth 20000 in
theorem gX0_take_X0_keep : GoodIn wsX0_take (wsV RX0 70 RX0 yX0_keep wsX0_keep) := goodIn_app (goodIn_of _ (by decide +kernel)) ggX0_take_X0_keep
theorem dX0_take_0 : decode cX0_take 0 = .ok (.aload_n 0, 1) := by decide +kernel
theorem dX0_take_1 : decode cX0_take 1 = .ok (.iload_n 1, 1) := by decide +kernel
theorem dX0_take_2 : decode cX0_take 2 = .ok (.invokevirtual 66, 3) := by decide +kernel
theorem dX0_take_5 : decode cX0_take 5 = .ok (.istore_n 2, 1) := by decide +kernel
theorem dX0_take_6 : decode cX0_take 6 = .ok (.iload_n 2, 1) := by decide +kernel
theorem dX0_take_7 : decode cX0_take 7 = .ok (.iconst (-1), 1) := by decide +kernel
theorem dX0_take_8 : decode cX0_take 8 = .ok (.if_icmp .ne 5, 3) := by decide +kernel
theorem dX0_take_11 : decode cX0_take 11 = .ok (.iconst 0, 1) := by decide +kernel
theorem dX0_take_12 : decode cX0_take 12 = .ok (.ireturn, 1) := by decide +kernel
theorem dX0_take_13 : decode cX0_take 13 = .ok (.aload_n 0, 1) := by decide +kernel
theorem dX0_take_14 : decode cX0_take 14 = .ok (.iload_n 1, 1) := by decide +kernel
theorem dX0_take_15 : decode cX0_take 15 = .ok (.invokevirtual 70, 3) := by decide +kernel
theorem dX0_take_18 : decode cX0_take 18 = .ok (.aload_n 0, 1) := by decide +kernel
theorem dX0_take_19 : decode cX0_take 19 = .ok (.iload_n 2, 1) := by decide +kernel
theorem dX0_take_20 : decode cX0_take 20 = .ok (.putfield 19, 3) := by decide +kernel
theorem dX0_take_23 : decode cX0_take 23 = .ok (.iconst 1, 1) := by decide +kernel
theorem dX0_take_24 : decode cX0_take 24 = .ok (.ireturn, 1) := by decide +kernel
theorem dX0_isComplete_0 : decode cX0_isComplete 0 = .ok (.aload_n 0, 1) := by decide +kernel
theorem dX0_isComplete_1 : decode cX0_isComplete 1 = .ok (.getfield 19, 3) := by decide +kernel
theorem dX0_isComplete_4 : decode cX0_isComplete 4 = .ok (.iconst 3, 1) := by decide +kernel
theorem dX0_isComplete_5 : decode cX0_isComplete 5 = .ok (.if_icmp .eq 37, 3) := by decide +kernel
theorem dX0_isComplete_8 : decode cX0_isComplete 8 = .ok (.aload_n 0, 1) := by decide +kernel
theorem dX0_isComplete_9 : decode cX0_isComplete 9 = .ok (.getfield 19, 3) := by decide +kernel
theorem dX0_isComplete_12 : decode cX0_isComplete 12 = .ok (.iconst 4, 1) := by decide +kernel
theorem dX0_isComplete_13 : decode cX0_isComplete 13 = .ok (.if_icmp .eq 29, 3) := by decide +kernel
theorem dX0_isComplete_16 : decode cX0_isComplete 16 = .ok (.aload_n 0, 1) := by decide +kernel
theorem dX0_isComplete_17 : decode cX0_isComplete 17 = .ok (.getfield 19, 3) := by decide +kernel
theorem dX0_isComplete_20 : decode cX0_isComplete 20 = .ok (.iconst 5, 1) := by decide +kernel
theorem dX0_isComplete_21 : decode cX0_isComplete 21 = .ok (.if_icmp .eq 21, 3) := by decide +kernel
theorem dX0_isComplete_24 : decode cX0_isComplete 24 = .ok (.aload_n 0, 1) := by decide +kernel
theorem dX0_isComplete_25 : decode cX0_isComplete 25 = .ok (.getfield 19, 3) := by decide +kernel
theorem dX0_isComplete_28 : decode cX0_isComplete 28 = .ok (.bipush 6, 2) := by decide +kernel
theorem dX0_isComplete_30 : decode cX0_isComplete 30 = .ok (.if_icmp .eq 12, 3) := by decide +kernel
theorem dX0_isComplete_33 : decode cX0_isComplete 33 = .ok (.aload_n 0, 1) := by decide +kernel
theorem dX0_isComplete_34 : decode cX0_isComplete 34 = .ok (.getfield 19, 3) := by decide +kernel
theorem dX0_isComplete_37 : decode cX0_isComplete 37 = .ok (.bipush 11, 2) := by decide +kernel
theorem dX0_isComplete_39 : decode cX0_isComplete 39 = .ok (.if_icmp .ne 7, 3) := by decide +kernel
theorem dX0_isComplete_42 : decode cX0_isComplete 42 = .ok (.iconst 1, 1) := by decide +kernel
theorem dX0_isComplete_43 : decode cX0_isComplete 43 = .ok (.goto 4, 3) := by decide +kernel
theorem dX0_isComplete_46 : decode cX0_isComplete 46 = .ok (.iconst 0, 1) := by decide +kernel
theorem dX0_isComplete_47 : decode cX0_isComplete 47 = .ok (.ireturn, 1) := by decide +kernel
theorem dX0_number_0 : decode cX0_number 0 = .ok (.aload_n 0, 1) := by decide +kernel
theorem dX0_number_1 : decode cX0_number 1 = .ok (.getfield 35, 3) := by decide +kernel
theorem dX0_number_4 : decode cX0_number 4 = .ok (.aload_n 0, 1) := by decide +kernel
theorem dX0_number_5 : decode cX0_number 5 = .ok (.getfield 38, 3) := by decide +kernel
theorem dX0_number_8 : decode cX0_number 8 = .ok (.iadd, 1) := by decide +kernel
theorem dX0_number_9 : decode cX0_number 9 = .ok (.aload_n 0, 1) := by decide +kernel
theorem dX0_number_10 : decode cX0_number 10 = .ok (.getfield 29, 3) := by decide +kernel
theorem dX0_number_13 : decode cX0_number 13 = .ok (.ifCond .eq 18, 3) := by decide +kernel
theorem dX0_number_16 : decode cX0_number 16 = .ok (.aload_n 0, 1) := by decide +kernel
theorem dX0_number_17 : decode cX0_number 17 = .ok (.getfield 13, 3) := by decide +kernel
theorem dX0_number_20 : decode cX0_number 20 = .ok (.ifCond .eq 11, 3) := by decide +kernel
theorem dX0_number_23 : decode cX0_number 23 = .ok (.aload_n 0, 1) := by decide +kernel
theorem dX0_number_24 : decode cX0_number 24 = .ok (.getfield 41, 3) := by decide +kernel
theorem dX0_number_27 : decode cX0_number 27 = .ok (.ineg, 1) := by decide +kernel
theorem dX0_number_28 : decode cX0_number 28 = .ok (.goto 7, 3) := by decide +kernel
theorem dX0_number_31 : decode cX0_number 31 = .ok (.aload_n 0, 1) := by decide +kernel
theorem dX0_number_32 : decode cX0_number 32 = .ok (.getfield 41, 3) := by decide +kernel
theorem dX0_number_35 : decode cX0_number 35 = .ok (.iadd, 1) := by decide +kernel
theorem dX0_number_36 : decode cX0_number 36 = .ok (.ireturn, 1) := by decide +kernel
set_option maxRecDepth 20000 in
theorem ggX0_following_X0_afterStart : GoodIn wsX0_following wsX0_afterStart := goodIn_r _ [6, 7, 22, 23, 24, 25, 26, 27, 28, 29, 30, 31, 32] (by decide +kernel) (by decide +kernel)
set_option maxRecDepth 20000 in
theorem gX0_following_X0_afterStart : GoodIn wsX0_following (wsV RX0 74 RX0 yX0_afterStart wsX0_afterStart) := goodIn_app (goodIn_of _ (by decide +kernel)) ggX0_following_X0_afterStart
set_option maxRecDepth 20000 in
theorem ggX0_following_X0_isCountUnit : GoodIn wsX0_following wsX0_isCountUnit := goodIn_r _ [10] (by decide +kernel) (by decide +kernel)
set_option maxRecDepth 20000 in
theorem gX0_following_X0_isCountUnit : GoodIn wsX0_following (va_wsS RX0 77 yX0_isCountUnit wsX0_isCountUnit) := goodIn_app (goodIn_of _ (by decide +kernel)) ggX0_following_X0_isCountUnit
set_option maxRecDepth 20000 in
theorem ggX0_following_X0_afterCount : GoodIn wsX0_following wsX0_afterCount := goodIn_r _ [14, 7, 22, 23, 24, 25, 26, 27, 28, 29, 30, 31, 32] (by decide +kernel) (by decide +kernel)
set_option maxRecDepth 20000 in
theorem gX0_following_X0_afterCount : GoodIn wsX0_following (wsV RX0 80 RX0 yX0_afterCount wsX0_afterCount) := goodIn_app (goodIn_of _ (by decide +kernel)) ggX0_following_X0_afterCount
set_option maxRecDepth 20000 in
theorem ggX0_following_X0_isUnit : GoodIn wsX0_following wsX0_isUnit := goodIn_r _ [17] (by decide +kernel) (by decide +kernel)
set_option maxRecDepth 20000 in
theorem gX0_following_X0_isUnit : GoodIn wsX0_following (va_wsS RX0 83 yX0_isUnit wsX0_isUnit) := goodIn_app (goodIn_of _ (by decide +kernel)) ggX0_following_X0_isUnit
set_option maxRecDepth 20000 in
theorem ggX0_following_X0_afterLess : GoodIn wsX0_following wsX0_afterLess := goodIn_r _ [21] (by decide +kernel) (by decide +kernel)
set_option maxRecDepth 20000 in
theorem gX0_following_X0_afterLess : GoodIn wsX0_following (wsV RX0 86 RX0 yX0_afterLess wsX0_afterLess) := goodIn_app (goodIn_of _ (by decide +kernel)) ggX0_following_X0_afterLess
theorem dX0_following_0 : decode cX0_following 0 = .ok (.aload_n 0, 1) := by decide +kernel
theorem dX0_following_1 : decode cX0_following 1 = .ok (.getfield 19, 3) := by decide +kernel
theorem dX0_following_4 : decode cX0_following 4 = .ok (.tableswitch 187 0 10 #[60, 66, 79, 85, 102, 115, 127, 140, 154, 160, 174], 60) := by decide +kernel
theorem dX0_following_64 : decode cX0_following 64 = .ok (.aload_n 0, 1) := by decide +kernel
theorem dX0_following_65 : decode cX0_following 65 = .ok (.iload_n 1, 1) := by decide +kernel
theorem dX0_following_66 : decode cX0_following 66 = .ok (.invokevirtual 74, 3) := by decide +kernel
theorem dX0_following_69 : decode cX0_following 69 = .ok (.ireturn, 1) := by decide +kernel
theorem dX0_following_70 : decode cX0_following 70 = .ok (.iload_n 1, 1) := by decide +kernel
theorem dX0_following_71 : decode cX0_following 71 = .ok (.invokestatic 77, 3) := by decide +kernel
theorem dX0_following_74 : decode cX0_following 74 = .ok (.ifCond .eq 7, 3) := by decide +kernel
theorem dX0_following_77 : decode cX0_following 77 = .ok (.iconst 2, 1) := by decide +kernel
theorem dX0_following_78 : decode cX0_following 78 = .ok (.goto 4, 3) := by decide +kernel
theorem dX0_following_81 : decode cX0_following 81 = .ok (.iconst (-1), 1) := by decide +kernel
theorem dX0_following_82 : decode cX0_following 82 = .ok (.ireturn, 1) := by decide +kernel
theorem dX0_following_83 : decode cX0_following 83 = .ok (.aload_n 0, 1) := by decide +kernel
theorem dX0_following_84 : decode cX0_following 84 = .ok (.iload_n 1, 1) := by decide +kernel
theorem dX0_following_85 : decode cX0_following 85 = .ok (.invokevirtual 80, 3) := by decide +kernel
theorem dX0_following_88 : decode cX0_following 88 = .ok (.ireturn, 1) := by decide +kernel
theorem dX0_following_89 : decode cX0_following 89 = .ok (.iload_n 1, 1) := by decide +kernel
theorem dX0_following_90 : decode cX0_following 90 = .ok (.bipush 45, 2) := by decide +kernel
theorem dX0_following_92 : decode cX0_following 92 = .ok (.if_icmp .ne 8, 3) := by decide +kernel
theorem dX0_following_95 : decode cX0_following 95 = .ok (.bipush 8, 2) := by decide +kernel
theorem dX0_following_97 : decode cX0_following 97 = .ok (.goto 8, 3) := by decide +kernel
theorem dX0_following_100 : decode cX0_following 100 = .ok (.aload_n 0, 1) := by decide +kernel
theorem dX0_following_101 : decode cX0_following 101 = .ok (.iload_n 1, 1) := by decide +kernel
theorem dX0_following_102 : decode cX0_following 102 = .ok (.invokevirtual 80, 3) := by decide +kernel
theorem dX0_following_105 : decode cX0_following 105 = .ok (.ireturn, 1) := by decide +kernel
theorem dX0_following_106 : decode cX0_following 106 = .ok (.iload_n 1, 1) := by decide +kernel
theorem dX0_following_107 : decode cX0_following 107 = .ok (.bipush 45, 2) := by decide +kernel
theorem dX0_following_109 : decode cX0_following 109 = .ok (.if_icmp .ne 8, 3) := by decide +kernel
theorem dX0_following_112 : decode cX0_following 112 = .ok (.bipush 8, 2) := by decide +kernel
theorem dX0_following_114 : decode cX0_following 114 = .ok (.goto 4, 3) := by decide +kernel
theorem dX0_following_117 : decode cX0_following 117 = .ok (.iconst (-1), 1) := by decide +kernel
theorem dX0_following_118 : decode cX0_following 118 = .ok (.ireturn, 1) := by decide +kernel
theorem dX0_following_119 : decode cX0_following 119 = .ok (.iload_n 1, 1) := by decide +kernel
theorem dX0_following_120 : decode cX0_following 120 = .ok (.bipush 38, 2) := by decide +kernel
theorem dX0_following_122 : decode cX0_following 122 = .ok (.if_icmp .ne 7, 3) := by decide +kernel
theorem dX0_following_125 : decode cX0_following 125 = .ok (.iconst 0, 1) := by decide +kernel
theorem dX0_following_126 : decode cX0_following 126 = .ok (.goto 4, 3) := by decide +kernel
theorem dX0_following_129 : decode cX0_following 129 = .ok (.iconst (-1), 1) := by decide +kernel
theorem dX0_following_130 : decode cX0_following 130 = .ok (.ireturn, 1) := by decide +kernel
theorem dX0_following_131 : decode cX0_following 131 = .ok (.iload_n 1, 1) := by decide +kernel
theorem dX0_following_132 : decode cX0_following 132 = .ok (.bipush 43, 2) := by decide +kernel
theorem dX0_following_134 : decode cX0_following 134 = .ok (.if_icmp .ne 8, 3) := by decide +kernel
theorem dX0_following_137 : decode cX0_following 137 = .ok (.bipush 7, 2) := by decide +kernel
theorem dX0_following_139 : decode cX0_following 139 = .ok (.goto 4, 3) := by decide +kernel
theorem dX0_following_142 : decode cX0_following 142 = .ok (.iconst (-1), 1) := by decide +kernel
theorem dX0_following_143 : decode cX0_following 143 = .ok (.ireturn, 1) := by decide +kernel
theorem dX0_following_144 : decode cX0_following 144 = .ok (.iload_n 1, 1) := by decide +kernel
theorem dX0_following_145 : decode cX0_following 145 = .ok (.invokestatic 83, 3) := by decide +kernel
theorem dX0_following_148 : decode cX0_following 148 = .ok (.ifCond .eq 8, 3) := by decide +kernel
theorem dX0_following_151 : decode cX0_following 151 = .ok (.bipush 11, 2) := by decide +kernel
theorem dX0_following_153 : decode cX0_following 153 = .ok (.goto 4, 3) := by decide +kernel
theorem dX0_following_156 : decode cX0_following 156 = .ok (.iconst (-1), 1) := by decide +kernel
theorem dX0_following_157 : decode cX0_following 157 = .ok (.ireturn, 1) := by decide +kernel
theorem dX0_following_158 : decode cX0_following 158 = .ok (.aload_n 0, 1) := by decide +kernel
theorem dX0_following_159 : decode cX0_following 159 = .ok (.iload_n 1, 1) := by decide +kernel
theorem dX0_following_160 : decode cX0_following 160 = .ok (.invokevirtual 86, 3) := by decide +kernel
theorem dX0_following_163 : decode cX0_following 163 = .ok (.ireturn, 1) := by decide +kernel
theorem dX0_following_164 : decode cX0_following 164 = .ok (.iload_n 1, 1) := by decide +kernel
theorem dX0_following_165 : decode cX0_following 165 = .ok (.invokestatic 77, 3) := by decide +kernel
theorem dX0_following_168 : decode cX0_following 168 = .ok (.ifCond .eq 8, 3) := by decide +kernel
theorem dX0_following_171 : decode cX0_following 171 = .ok (.bipush 10, 2) := by decide +kernel
theorem dX0_following_173 : decode cX0_following 173 = .ok (.goto 4, 3) := by decide +kernel
theorem dX0_following_176 : decode cX0_following 176 = .ok (.iconst (-1), 1) := by decide +kernel
theorem dX0_following_177 : decode cX0_following 177 = .ok (.ireturn, 1) := by decide +kernel
theorem dX0_following_178 : decode cX0_following 178 = .ok (.iload_n 1, 1) := by decide +kernel
theorem dX0_following_179 : decode cX0_following 179 = .ok (.bipush 83, 2) := by decide +kernel
theorem dX0_following_181 : decode cX0_following 181 = .ok (.if_icmp .ne 8, 3) := by decide +kernel
theorem dX0_following_184 : decode cX0_following 184 = .ok (.bipush 11, 2) := by decide +kernel
theorem dX0_following_186 : decode cX0_following 186 = .ok (.goto 4, 3) := by decide +kernel
theorem dX0_following_189 : decode cX0_following 189 = .ok (.iconst (-1), 1) := by decide +kernel
theorem dX0_following_190 : decode cX0_following 190 = .ok (.ireturn, 1) := by decide +kernel
theorem dX0_following_191 : decode cX0_following 191 = .ok (.iconst (-1), 1) := by decide +kernel
theorem dX0_following_192 : decode cX0_following 192 = .ok (.ireturn, 1) := by decide +kernel
theorem dX0_afterStart_0 : decode cX0_afterStart 0 = .ok (.iload_n 1, 1) := by decide +kernel
theorem dX0_afterStart_1 : decode cX0_afterStart 1 = .ok (.lookupswitch 63 #[(71, 48), (72, 43), (83, 45), (97, 61)], 43) := by decide +kernel
theorem dX0_afterStart_44 : decode cX0_afterStart 44 = .ok (.iconst 1, 1) := by decide +kernel
theorem dX0_afterStart_45 : decode cX0_afterStart 45 = .ok (.ireturn, 1) := by decide +kernel
theorem dX0_afterStart_46 : decode cX0_afterStart 46 = .ok (.bipush 6, 2) := by decide +kernel
theorem dX0_afterStart_48 : decode cX0_afterStart 48 = .ok (.ireturn, 1) := by decide +kernel
theorem dX0_afterStart_49 : decode cX0_afterStart 49 = .ok (.aload_n 0, 1) := by decide +kernel
theorem dX0_afterStart_50 : decode cX0_afterStart 50 = .ok (.getfield 23, 3) := by decide +kernel
theorem dX0_afterStart_53 : decode cX0_afterStart 53 = .ok (.ifCond .eq 7, 3) := by decide +kernel
theorem dX0_afterStart_56 : decode cX0_afterStart 56 = .ok (.iconst (-1), 1) := by decide +kernel
theorem dX0_afterStart_57 : decode cX0_afterStart 57 = .ok (.goto 4, 3) := by decide +kernel
theorem dX0_afterStart_60 : decode cX0_afterStart 60 = .ok (.iconst 5, 1) := by decide +kernel
theorem dX0_afterStart_61 : decode cX0_afterStart 61 = .ok (.ireturn, 1) := by decide +kernel
theorem dX0_afterStart_62 : decode cX0_afterStart 62 = .ok (.iconst 4, 1) := by decide +kernel
theorem dX0_afterStart_63 : decode cX0_afterStart 63 = .ok (.ireturn, 1) := by decide +kernel
theorem dX0_afterStart_64 : decode cX0_afterStart 64 = .ok (.iload_n 1, 1) := by decide +kernel
theorem dX0_afterStart_65 : decode cX0_afterStart 65 = .ok (.bipush 98, 2) := by decide +kernel
theorem dX0_afterStart_67 : decode cX0_afterStart 67 = .ok (.if_icmp .lt 13, 3) := by decide +kernel
theorem dX0_afterStart_70 : decode cX0_afterStart 70 = .ok (.iload_n 1, 1) := by decide +kernel
theorem dX0_afterStart_71 : decode cX0_afterStart 71 = .ok (.bipush 115, 2) := by decide +kernel
theorem dX0_afterStart_73 : decode cX0_afterStart 73 = .ok (.if_icmp .gt 7, 3) := by decide +kernel
theorem dX0_afterStart_76 : decode cX0_afterStart 76 = .ok (.iconst 3, 1) := by decide +kernel
theorem dX0_afterStart_77 : decode cX0_afterStart 77 = .ok (.goto 4, 3) := by decide +kernel
theorem dX0_afterStart_80 : decode cX0_afterStart 80 = .ok (.iconst (-1), 1) := by decide +kernel
theorem dX0_afterStart_81 : decode cX0_afterStart 81 = .ok (.ireturn, 1) := by decide +kernel
theorem dX0_afterCount_0 : decode cX0_afterCount 0 = .ok (.iload_n 1, 1) := by decide +kernel
theorem dX0_afterCount_1 : decode cX0_afterCount 1 = .ok (.bipush 83, 2) := by decide +kernel
theorem dX0_afterCount_3 : decode cX0_afterCount 3 = .ok (.if_icmp .ne 6, 3) := by decide +kernel
theorem dX0_afterCount_6 : decode cX0_afterCount 6 = .ok (.bipush 6, 2) := by decide +kernel
theorem dX0_afterCount_8 : decode cX0_afterCount 8 = .ok (.ireturn, 1) := by decide +kernel
theorem dX0_afterCount_9 : decode cX0_afterCount 9 = .ok (.iload_n 1, 1) := by decide +kernel
theorem dX0_afterCount_10 : decode cX0_afterCount 10 = .ok (.bipush 71, 2) := by decide +kernel
theorem dX0_afterCount_12 : decode cX0_afterCount 12 = .ok (.if_icmp .ne 14, 3) := by decide +kernel
theorem dX0_afterCount_15 : decode cX0_afterCount 15 = .ok (.aload_n 0, 1) := by decide +kernel
theorem dX0_afterCount_16 : decode cX0_afterCount 16 = .ok (.getfield 23, 3) := by decide +kernel
theorem dX0_afterCount_19 : decode cX0_afterCount 19 = .ok (.ifCond .ne 7, 3) := by decide +kernel
theorem dX0_afterCount_22 : decode cX0_afterCount 22 = .ok (.iconst 5, 1) := by decide +kernel
theorem dX0_afterCount_23 : decode cX0_afterCount 23 = .ok (.goto 4, 3) := by decide +kernel
theorem dX0_afterCount_26 : decode cX0_afterCount 26 = .ok (.iconst (-1), 1) := by decide +kernel
theorem dX0_afterCount_27 : decode cX0_afterCount 27 = .ok (.ireturn, 1) := by decide +kernel
theorem dX0_afterLess_0 : decode cX0_afterLess 0 = .ok (.iload_n 1, 1) := by decide +kernel
theorem dX0_afterLess_1 : decode cX0_afterLess 1 = .ok (.lookupswitch 33 #[(72, 27), (83, 30)], 27) := by decide +kernel
theorem dX0_afterLess_28 : decode cX0_afterLess 28 = .ok (.bipush 9, 2) := by decide +kernel
theorem dX0_afterLess_30 : decode cX0_afterLess 30 = .ok (.ireturn, 1) := by decide +kernel
theorem dX0_afterLess_31 : decode cX0_afterLess 31 = .ok (.bipush 11, 2) := by decide +kernel
theorem dX0_afterLess_33 : decode cX0_afterLess 33 = .ok (.ireturn, 1) := by decide +kernel
theorem dX0_afterLess_34 : decode cX0_afterLess 34 = .ok (.iload_n 1, 1) := by decide +kernel
theorem dX0_afterLess_35 : decode cX0_afterLess 35 = .ok (.bipush 98, 2) := by decide +kernel
theorem dX0_afterLess_37 : decode cX0_afterLess 37 = .ok (.if_icmp .lt 14, 3) := by decide +kernel
theorem dX0_afterLess_40 : decode cX0_afterLess 40 = .ok (.iload_n 1, 1) := by decide +kernel
theorem dX0_afterLess_41 : decode cX0_afterLess 41 = .ok (.bipush 115, 2) := by decide +kernel
theorem dX0_afterLess_43 : decode cX0_afterLess 43 = .ok (.if_icmp .gt 8, 3) := by decide +kernel
theorem dX0_afterLess_46 : decode cX0_afterLess 46 = .ok (.bipush 10, 2) := by decide +kernel
theorem dX0_afterLess_48 : decode cX0_afterLess 48 = .ok (.goto 4, 3) := by decide +kernel
theorem dX0_afterLess_51 : decode cX0_afterLess 51 = .ok (.iconst (-1), 1) := by decide +kernel
theorem dX0_afterLess_52 : decode cX0_afterLess 52 = .ok (.ireturn, 1) := by decide +kernel
theorem dX0_isUnit_0 : decode cX0_isUnit 0 = .ok (.iload_n 0, 1) := by decide +kernel
theorem dX0_isUnit_1 : decode cX0_isUnit 1 = .ok (.bipush 97, 2) := by decide +kernel
theorem dX0_isUnit_3 : decode cX0_isUnit 3 = .ok (.if_icmp .lt 13, 3) := by decide +kernel
theorem dX0_isUnit_6 : decode cX0_isUnit 6 = .ok (.iload_n 0, 1) := by decide +kernel
theorem dX0_isUnit_7 : decode cX0_isUnit 7 = .ok (.bipush 115, 2) := by decide +kernel
theorem dX0_isUnit_9 : decode cX0_isUnit 9 = .ok (.if_icmp .gt 7, 3) := by decide +kernel
theorem dX0_isUnit_12 : decode cX0_isUnit 12 = .ok (.iconst 1, 1) := by decide +kernel
theorem dX0_isUnit_13 : decode cX0_isUnit 13 = .ok (.goto 4, 3) := by decide +kernel
theorem dX0_isUnit_16 : decode cX0_isUnit 16 = .ok (.iconst 0, 1) := by decide +kernel
theorem dX0_isUnit_17 : decode cX0_isUnit 17 = .ok (.ireturn, 1) := by decide +kernel
theorem dX0_isCountUnit_0 : decode cX0_isCountUnit 0 = .ok (.iload_n 0, 1) := by decide +kernel
theorem dX0_isCountUnit_1 : decode cX0_isCountUnit 1 = .ok (.bipush 98, 2) := by decide +kernel
theorem dX0_isCountUnit_3 : decode cX0_isCountUnit 3 = .ok (.if_icmp .lt 13, 3) := by decide +kernel
theorem dX0_isCountUnit_6 : decode cX0_isCountUnit 6 = .ok (.iload_n 0, 1) := by decide +kernel
theorem dX0_isCountUnit_7 : decode cX0_isCountUnit 7 = .ok (.bipush 115, 2) := by decide +kernel
theorem dX0_isCountUnit_9 : decode cX0_isCountUnit 9 = .ok (.if_icmp .gt 7, 3) := by decide +kernel
theorem dX0_isCountUnit_12 : decode cX0_isCountUnit 12 = .ok (.iconst 1, 1) := by decide +kernel
theorem dX0_isCountUnit_13 : decode cX0_isCountUnit 13 = .ok (.goto 4, 3) := by decide +kernel
theorem dX0_isCountUnit_16 : decode cX0_isCountUnit 16 = .ok (.iconst 0, 1) := by decide +kernel
theorem dX0_isCountUnit_17 : decode cX0_isCountUnit 17 = .ok (.ireturn, 1) := by decide +kernel
set_option maxRecDepth 20000 in
theorem ggX0_keep_X0_takeUnitAsCount : GoodIn wsX0_keep wsX0_takeUnitAsCount := goodIn_r _ [12, 13, 14, 4, 24, 25, 26, 27, 28, 29, 30, 31, 32, 33, 34] (by decide +kernel) (by decide +kernel)
set_option maxRecDepth 20000 in
theorem gX0_keep_X0_takeUnitAsCount : GoodIn wsX0_keep (wsV RX0 89 RX0 yX0_takeUnitAsCount wsX0_takeUnitAsCount) := goodIn_app (goodIn_of _ (by decide +kernel)) ggX0_keep_X0_takeUnitAsCount
set_option maxRecDepth 20000 in
theorem ggX0_keep_X0_scores : GoodIn wsX0_keep wsX0_scores := goodIn_r _ [18, 4, 1, 19, 24, 25, 26, 27, 28, 29, 30, 31, 32, 33, 34] (by decide +kernel) (by decide +kernel)
set_option maxRecDepth 20000 in
theorem gX0_keep_X0_scores : GoodIn wsX0_keep (wsV RX0 92 RX0 yX0_scores wsX0_scores) := goodIn_app (goodIn_of _ (by decide +kernel)) ggX0_keep_X0_scores
set_option maxRecDepth 20000 in
theorem ggX0_keep_X0_keepUnit : GoodIn wsX0_keep wsX0_keepUnit := goodIn_r _ [23, 13, 14, 4, 24, 25, 26, 27, 28, 29, 30, 31, 32, 33, 34] (by decide +kernel) (by decide +kernel)
set_option maxRecDepth 20000 in
theorem gX0_keep_X0_keepUnit : GoodIn wsX0_keep (wsV RX0 95 RX0 yX0_keepUnit wsX0_keepUnit) := goodIn_app (goodIn_of _ (by decide +kernel)) ggX0_keep_X0_keepUnit
theorem dX0_keep_0 : decode cX0_keep 0 = .ok (.iload_n 1, 1) := by decide +kernel
theorem dX0_keep_1 : decode cX0_keep 1 = .ok (.lookupswitch 143 #[(38, 78), (43, 75), (45, 67), (71, 111), (72, 59), (83, 96)], 59) := by decide +kernel
theorem dX0_keep_60 : decode cX0_keep 60 = .ok (.aload_n 0, 1) := by decide +kernel
theorem dX0_keep_61 : decode cX0_keep 61 = .ok (.iconst 1, 1) := by decide +kernel
theorem dX0_keep_62 : decode cX0_keep 62 = .ok (.putfield 26, 3) := by decide +kernel
theorem dX0_keep_65 : decode cX0_keep 65 = .ok (.goto 89, 3) := by decide +kernel
theorem dX0_keep_68 : decode cX0_keep 68 = .ok (.aload_n 0, 1) := by decide +kernel
theorem dX0_keep_69 : decode cX0_keep 69 = .ok (.iconst 1, 1) := by decide +kernel
theorem dX0_keep_70 : decode cX0_keep 70 = .ok (.putfield 29, 3) := by decide +kernel
theorem dX0_keep_73 : decode cX0_keep 73 = .ok (.goto 81, 3) := by decide +kernel
theorem dX0_keep_76 : decode cX0_keep 76 = .ok (.goto 78, 3) := by decide +kernel
theorem dX0_keep_79 : decode cX0_keep 79 = .ok (.aload_n 0, 1) := by decide +kernel
theorem dX0_keep_80 : decode cX0_keep 80 = .ok (.iconst 1, 1) := by decide +kernel
theorem dX0_keep_81 : decode cX0_keep 81 = .ok (.putfield 23, 3) := by decide +kernel
theorem dX0_keep_84 : decode cX0_keep 84 = .ok (.aload_n 0, 1) := by decide +kernel
theorem dX0_keep_85 : decode cX0_keep 85 = .ok (.iconst 0, 1) := by decide +kernel
theorem dX0_keep_86 : decode cX0_keep 86 = .ok (.putfield 26, 3) := by decide +kernel
theorem dX0_keep_89 : decode cX0_keep 89 = .ok (.aload_n 0, 1) := by decide +kernel
theorem dX0_keep_90 : decode cX0_keep 90 = .ok (.iconst 1, 1) := by decide +kernel
theorem dX0_keep_91 : decode cX0_keep 91 = .ok (.putfield 32, 3) := by decide +kernel
theorem dX0_keep_94 : decode cX0_keep 94 = .ok (.goto 60, 3) := by decide +kernel
theorem dX0_keep_97 : decode cX0_keep 97 = .ok (.aload_n 0, 1) := by decide +kernel
theorem dX0_keep_98 : decode cX0_keep 98 = .ok (.invokevirtual 89, 3) := by decide +kernel
theorem dX0_keep_101 : decode cX0_keep 101 = .ok (.aload_n 0, 1) := by decide +kernel
theorem dX0_keep_102 : decode cX0_keep 102 = .ok (.aload_n 0, 1) := by decide +kernel
theorem dX0_keep_103 : decode cX0_keep 103 = .ok (.invokevirtual 92, 3) := by decide +kernel
theorem dX0_keep_106 : decode cX0_keep 106 = .ok (.putfield 38, 3) := by decide +kernel
theorem dX0_keep_109 : decode cX0_keep 109 = .ok (.goto 45, 3) := by decide +kernel
theorem dX0_keep_112 : decode cX0_keep 112 = .ok (.aload_n 0, 1) := by decide +kernel
theorem dX0_keep_113 : decode cX0_keep 113 = .ok (.invokevirtual 89, 3) := by decide +kernel
theorem dX0_keep_116 : decode cX0_keep 116 = .ok (.aload_n 0, 1) := by decide +kernel
theorem dX0_keep_117 : decode cX0_keep 117 = .ok (.aload_n 0, 1) := by decide +kernel
theorem dX0_keep_118 : decode cX0_keep 118 = .ok (.getfield 16, 3) := by decide +kernel
theorem dX0_keep_121 : decode cX0_keep 121 = .ok (.ifCond .eq 13, 3) := by decide +kernel
theorem dX0_keep_124 : decode cX0_keep 124 = .ok (.bipush 20, 2) := by decide +kernel
theorem dX0_keep_126 : decode cX0_keep 126 = .ok (.aload_n 0, 1) := by decide +kernel
theorem dX0_keep_127 : decode cX0_keep 127 = .ok (.invokevirtual 92, 3) := by decide +kernel
theorem dX0_keep_130 : decode cX0_keep 130 = .ok (.imul, 1) := by decide +kernel
theorem dX0_keep_131 : decode cX0_keep 131 = .ok (.goto 7, 3) := by decide +kernel
theorem dX0_keep_134 : decode cX0_keep 134 = .ok (.aload_n 0, 1) := by decide +kernel
theorem dX0_keep_135 : decode cX0_keep 135 = .ok (.invokevirtual 92, 3) := by decide +kernel
theorem dX0_keep_138 : decode cX0_keep 138 = .ok (.putfield 35, 3) := by decide +kernel
theorem dX0_keep_141 : decode cX0_keep 141 = .ok (.goto 13, 3) := by decide +kernel
theorem dX0_keep_144 : decode cX0_keep 144 = .ok (.aload_n 0, 1) := by decide +kernel
theorem dX0_keep_145 : decode cX0_keep 145 = .ok (.iload_n 1, 1) := by decide +kernel
theorem dX0_keep_146 : decode cX0_keep 146 = .ok (.bipush 97, 2) := by decide +kernel
theorem dX0_keep_148 : decode cX0_keep 148 = .ok (.isub, 1) := by decide +kernel
theorem dX0_keep_149 : decode cX0_keep 149 = .ok (.iconst 1, 1) := by decide +kernel
theorem dX0_keep_150 : decode cX0_keep 150 = .ok (.iadd, 1) := by decide +kernel
theorem dX0_keep_151 : decode cX0_keep 151 = .ok (.invokevirtual 95, 3) := by decide +kernel
theorem dX0_keep_154 : decode cX0_keep 154 = .ok (.return_, 1) := by decide +kernel
theorem dX0_keepUnit_0 : decode cX0_keepUnit 0 = .ok (.aload_n 0, 1) := by decide +kernel
theorem dX0_keepUnit_1 : decode cX0_keepUnit 1 = .ok (.getfield 19, 3) := by decide +kernel
theorem dX0_keepUnit_4 : decode cX0_keepUnit 4 = .ok (.ifCond .eq 12, 3) := by decide +kernel
theorem dX0_keepUnit_7 : decode cX0_keepUnit 7 = .ok (.aload_n 0, 1) := by decide +kernel
theorem dX0_keepUnit_8 : decode cX0_keepUnit 8 = .ok (.getfield 19, 3) := by decide +kernel
theorem dX0_keepUnit_11 : decode cX0_keepUnit 11 = .ok (.bipush 7, 2) := by decide +kernel
theorem dX0_keepUnit_13 : decode cX0_keepUnit 13 = .ok (.if_icmp .ne 11, 3) := by decide +kernel
theorem dX0_keepUnit_16 : decode cX0_keepUnit 16 = .ok (.aload_n 0, 1) := by decide +kernel
theorem dX0_keepUnit_17 : decode cX0_keepUnit 17 = .ok (.iload_n 1, 1) := by decide +kernel
theorem dX0_keepUnit_18 : decode cX0_keepUnit 18 = .ok (.putfield 41, 3) := by decide +kernel
theorem dX0_keepUnit_21 : decode cX0_keepUnit 21 = .ok (.goto 8, 3) := by decide +kernel
theorem dX0_keepUnit_24 : decode cX0_keepUnit 24 = .ok (.aload_n 0, 1) := by decide +kernel
theorem dX0_keepUnit_25 : decode cX0_keepUnit 25 = .ok (.iload_n 1, 1) := by decide +kernel
theorem dX0_keepUnit_26 : decode cX0_keepUnit 26 = .ok (.putfield 32, 3) := by decide +kernel
theorem dX0_keepUnit_29 : decode cX0_keepUnit 29 = .ok (.return_, 1) := by decide +kernel
theorem dX0_takeUnitAsCount_0 : decode cX0_takeUnitAsCount 0 = .ok (.aload_n 0, 1) := by decide +kernel
theorem dX0_takeUnitAsCount_1 : decode cX0_takeUnitAsCount 1 = .ok (.getfield 19, 3) := by decide +kernel
theorem dX0_takeUnitAsCount_4 : decode cX0_takeUnitAsCount 4 = .ok (.iconst 3, 1) := by decide +kernel
theorem dX0_takeUnitAsCount_5 : decode cX0_takeUnitAsCount 5 = .ok (.if_icmp .ne 16, 3) := by decide +kernel
theorem dX0_takeUnitAsCount_8 : decode cX0_takeUnitAsCount 8 = .ok (.aload_n 0, 1) := by decide +kernel
theorem dX0_takeUnitAsCount_9 : decode cX0_takeUnitAsCount 9 = .ok (.aload_n 0, 1) := by decide +kernel
theorem dX0_takeUnitAsCount_10 : decode cX0_takeUnitAsCount 10 = .ok (.getfield 41, 3) := by decide +kernel
theorem dX0_takeUnitAsCount_13 : decode cX0_takeUnitAsCount 13 = .ok (.putfield 32, 3) := by decide +kernel
theorem dX0_takeUnitAsCount_16 : decode cX0_takeUnitAsCount 16 = .ok (.aload_n 0, 1) := by decide +kernel
theorem dX0_takeUnitAsCount_17 : decode cX0_takeUnitAsCount 17 = .ok (.iconst 0, 1) := by decide +kernel
theorem dX0_takeUnitAsCount_18 : decode cX0_takeUnitAsCount 18 = .ok (.putfield 41, 3) := by decide +kernel
theorem dX0_takeUnitAsCount_21 : decode cX0_takeUnitAsCount 21 = .ok (.return_, 1) := by decide +kernel
theorem dX0_scores_0 : decode cX0_scores 0 = .ok (.bipush 20, 2) := by decide +kernel
theorem dX0_scores_2 : decode cX0_scores 2 = .ok (.aload_n 0, 1) := by decide +kernel
theorem dX0_scores_3 : decode cX0_scores 3 = .ok (.getfield 32, 3) := by decide +kernel
theorem dX0_scores_6 : decode cX0_scores 6 = .ok (.imul, 1) := by decide +kernel
theorem dX0_scores_7 : decode cX0_scores 7 = .ok (.aload_n 0, 1) := by decide +kernel
theorem dX0_scores_8 : decode cX0_scores 8 = .ok (.getfield 26, 3) := by decide +kernel
theorem dX0_scores_11 : decode cX0_scores 11 = .ok (.ifCond .eq 15, 3) := by decide +kernel
theorem dX0_scores_14 : decode cX0_scores 14 = .ok (.aload_n 0, 1) := by decide +kernel
theorem dX0_scores_15 : decode cX0_scores 15 = .ok (.getfield 7, 3) := by decide +kernel
theorem dX0_scores_18 : decode cX0_scores 18 = .ok (.ifCond .eq 8, 3) := by decide +kernel
theorem dX0_scores_21 : decode cX0_scores 21 = .ok (.bipush 10, 2) := by decide +kernel
theorem dX0_scores_23 : decode cX0_scores 23 = .ok (.goto 4, 3) := by decide +kernel
theorem dX0_scores_26 : decode cX0_scores 26 = .ok (.iconst 0, 1) := by decide +kernel
theorem dX0_scores_27 : decode cX0_scores 27 = .ok (.isub, 1) := by decide +kernel
theorem dX0_scores_28 : decode cX0_scores 28 = .ok (.ireturn, 1) := by decide +kernel
set_option maxRecDepth 20000 in
theorem ggX1_init_X3_init : GoodIn wsX1_init wsX3_init := goodIn_r _ [12, 13, 2, 3, 14, 15, 16, 17, 18, 19, 20, 24, 25, 26, 27, 28] (by decide +kernel) (by decide +kernel)
set_option maxRecDepth 20000 in
theorem gX1_init_X3_init : GoodIn wsX1_init (wsX3_init) := ggX1_init_X3_init
theorem dX1_init_0 : decode cX1_init 0 = .ok (.aload_n 0, 1) := by decide +kernel
theorem dX1_init_1 : decode cX1_init 1 = .ok (.invokespecial 3, 3) := by decide +kernel
theorem dX1_init_4 : decode cX1_init 4 = .ok (.aload_n 0, 1) := by decide +kernel
theorem dX1_init_5 : decode cX1_init 5 = .ok (.iconst 4, 1) := by decide +kernel
theorem dX1_init_6 : decode cX1_init 6 = .ok (.anewarray 11, 3) := by decide +kernel
theorem dX1_init_9 : decode cX1_init 9 = .ok (.putfield 13, 3) := by decide +kernel
theorem dX1_init_12 : decode cX1_init 12 = .ok (.aload_n 0, 1) := by decide +kernel
theorem dX1_init_13 : decode cX1_init 13 = .ok (.iconst 0, 1) := by decide +kernel
theorem dX1_init_14 : decode cX1_init 14 = .ok (.putfield 17, 3) := by decide +kernel
theorem dX1_init_17 : decode cX1_init 17 = .ok (.aload_n 0, 1) := by decide +kernel
theorem dX1_init_18 : decode cX1_init 18 = .ok (.iconst 0, 1) := by decide +kernel
theorem dX1_init_19 : decode cX1_init 19 = .ok (.putfield 21, 3) := by decide +kernel
theorem dX1_init_22 : decode cX1_init 22 = .ok (.iconst 0, 1) := by decide +kernel
theorem dX1_init_23 : decode cX1_init 23 = .ok (.istore_n 1, 1) := by decide +kernel
theorem dX1_init_24 : decode cX1_init 24 = .ok (.iload_n 1, 1) := by decide +kernel
theorem dX1_init_25 : decode cX1_init 25 = .ok (.iconst 4, 1) := by decide +kernel
theorem dX1_init_26 : decode cX1_init 26 = .ok (.if_icmp .ge 22, 3) := by decide +kernel
theorem dX1_init_29 : decode cX1_init 29 = .ok (.aload_n 0, 1) := by decide +kernel
theorem dX1_init_30 : decode cX1_init 30 = .ok (.getfield 13, 3) := by decide +kernel
theorem dX1_init_33 : decode cX1_init 33 = .ok (.iload_n 1, 1) := by decide +kernel
theorem dX1_init_34 : decode cX1_init 34 = .ok (.new 11, 3) := by decide +kernel
theorem dX1_init_37 : decode cX1_init 37 = .ok (.dup, 1) := by decide +kernel
theorem dX1_init_38 : decode cX1_init 38 = .ok (.invokespecial 24, 3) := by decide +kernel
theorem dX1_init_41 : decode cX1_init 41 = .ok (.aastore, 1) := by decide +kernel
theorem dX1_init_42 : decode cX1_init 42 = .ok (.iinc 1 1, 3) := by decide +kernel
theorem dX1_init_45 : decode cX1_init 45 = .ok (.goto (-21), 3) := by decide +kernel
theorem dX1_init_48 : decode cX1_init 48 = .ok (.return_, 1) := by decide +kernel
set_option maxRecDepth 20000 in
theorem ggX1_record_X3_copyFrom : GoodIn wsX1_record wsX3_copyFrom := goodIn_r _ [12, 13, 14, 15, 16, 17, 18, 19, 20, 21, 25, 26, 27, 28, 29] (by decide +kernel) (by decide +kernel)
set_option maxRecDepth 20000 in
theorem gX1_record_X3_copyFrom : GoodIn wsX1_record (wsV RX1 25 RX3 yX3_copyFrom wsX3_copyFrom) := goodIn_app (goodIn_of _ (by decide +kernel)) ggX1_record_X3_copyFrom
theorem dX1_record_0 : decode cX1_record 0 = .ok (.aload_n 0, 1) := by decide +kernel
theorem dX1_record_1 : decode cX1_record 1 = .ok (.getfield 17, 3) := by decide +kernel
theorem dX1_record_4 : decode cX1_record 4 = .ok (.ifCond .lt 11, 3) := by decide +kernel
theorem dX1_record_7 : decode cX1_record 7 = .ok (.aload_n 0, 1) := by decide +kernel
theorem dX1_record_8 : decode cX1_record 8 = .ok (.getfield 17, 3) := by decide +kernel
theorem dX1_record_11 : decode cX1_record 11 = .ok (.iconst 4, 1) := by decide +kernel
theorem dX1_record_12 : decode cX1_record 12 = .ok (.if_icmp .lt 4, 3) := by decide +kernel
theorem dX1_record_15 : decode cX1_record 15 = .ok (.return_, 1) := by decide +kernel
theorem dX1_record_16 : decode cX1_record 16 = .ok (.aload_n 0, 1) := by decide +kernel
theorem dX1_record_17 : decode cX1_record 17 = .ok (.getfield 13, 3) := by decide +kernel
theorem dX1_record_20 : decode cX1_record 20 = .ok (.aload_n 0, 1) := by decide +kernel
theorem dX1_record_21 : decode cX1_record 21 = .ok (.getfield 17, 3) := by decide +kernel
theorem dX1_record_24 : decode cX1_record 24 = .ok (.aaload, 1) := by decide +kernel
theorem dX1_record_25 : decode cX1_record 25 = .ok (.aload_n 1, 1) := by decide +kernel
theorem dX1_record_26 : decode cX1_record 26 = .ok (.invokevirtual 25, 3) := by decide +kernel
theorem dX1_record_29 : decode cX1_record 29 = .ok (.aload_n 0, 1) := by decide +kernel
theorem dX1_record_30 : decode cX1_record 30 = .ok (.aload_n 0, 1) := by decide +kernel
theorem dX1_record_31 : decode cX1_record 31 = .ok (.getfield 17, 3) := by decide +kernel
theorem dX1_record_34 : decode cX1_record 34 = .ok (.iconst 3, 1) := by decide +kernel
theorem dX1_record_35 : decode cX1_record 35 = .ok (.if_icmp .ne 7, 3) := by decide +kernel
theorem dX1_record_38 : decode cX1_record 38 = .ok (.iconst 0, 1) := by decide +kernel
theorem dX1_record_39 : decode cX1_record 39 = .ok (.goto 9, 3) := by decide +kernel
theorem dX1_record_42 : decode cX1_record 42 = .ok (.aload_n 0, 1) := by decide +kernel
theorem dX1_record_43 : decode cX1_record 43 = .ok (.getfield 17, 3) := by decide +kernel
theorem dX1_record_46 : decode cX1_record 46 = .ok (.iconst 1, 1) := by decide +kernel
theorem dX1_record_47 : decode cX1_record 47 = .ok (.iadd, 1) := by decide +kernel
theorem dX1_record_48 : decode cX1_record 48 = .ok (.putfield 17, 3) := by decide +kernel
theorem dX1_record_51 : decode cX1_record 51 = .ok (.aload_n 0, 1) := by decide +kernel
theorem dX1_record_52 : decode cX1_record 52 = .ok (.aload_n 0, 1) := by decide +kernel
theorem dX1_record_53 : decode cX1_record 53 = .ok (.getfield 21, 3) := by decide +kernel
theorem dX1_record_56 : decode cX1_record 56 = .ok (.iconst 1, 1) := by decide +kernel
theorem dX1_record_57 : decode cX1_record 57 = .ok (.iadd, 1) := by decide +kernel
theorem dX1_record_58 : decode cX1_record 58 = .ok (.iconst 4, 1) := by decide +kernel
theorem dX1_record_59 : decode cX1_record 59 = .ok (.invokestatic 29, 3) := by decide +kernel
theorem dX1_record_62 : decode cX1_record 62 = .ok (.putfield 21, 3) := by decide +kernel
theorem dX1_record_65 : decode cX1_record 65 = .ok (.return_, 1) := by decide +kernel
set_option maxRecDepth 20000 in
theorem ggX1_restore_X3_copyFrom : GoodIn wsX1_restore wsX3_copyFrom := goodIn_r _ [8, 9, 10, 11, 12, 13, 14, 15, 16, 17, 21, 22, 23, 24, 25] (by decide +kernel) (by decide +kernel)
set_option maxRecDepth 20000 in
theorem gX1_restore_X3_copyFrom : GoodIn wsX1_restore (wsV RX1 25 RX3 yX3_copyFrom wsX3_copyFrom) := goodIn_app (goodIn_of _ (by decide +kernel)) ggX1_restore_X3_copyFrom
theorem dX1_restore_0 : decode cX1_restore 0 = .ok (.aload_n 0, 1) := by decide +kernel
theorem dX1_restore_1 : decode cX1_restore 1 = .ok (.getfield 21, 3) := by decide +kernel
theorem dX1_restore_4 : decode cX1_restore 4 = .ok (.ifCond .gt 6, 3) := by decide +kernel
theorem dX1_restore_7 : decode cX1_restore 7 = .ok (.bipush (-5), 2) := by decide +kernel
theorem dX1_restore_9 : decode cX1_restore 9 = .ok (.ireturn, 1) := by decide +kernel
theorem dX1_restore_10 : decode cX1_restore 10 = .ok (.aload_n 0, 1) := by decide +kernel
theorem dX1_restore_11 : decode cX1_restore 11 = .ok (.getfield 17, 3) := by decide +kernel
theorem dX1_restore_14 : decode cX1_restore 14 = .ok (.iconst 1, 1) := by decide +kernel
theorem dX1_restore_15 : decode cX1_restore 15 = .ok (.if_icmp .lt 20, 3) := by decide +kernel
theorem dX1_restore_18 : decode cX1_restore 18 = .ok (.aload_n 0, 1) := by decide +kernel
theorem dX1_restore_19 : decode cX1_restore 19 = .ok (.getfield 17, 3) := by decide +kernel
theorem dX1_restore_22 : decode cX1_restore 22 = .ok (.iconst 4, 1) := by decide +kernel
theorem dX1_restore_23 : decode cX1_restore 23 = .ok (.if_icmp .ge 12, 3) := by decide +kernel
theorem dX1_restore_26 : decode cX1_restore 26 = .ok (.aload_n 0, 1) := by decide +kernel
theorem dX1_restore_27 : decode cX1_restore 27 = .ok (.getfield 17, 3) := by decide +kernel
theorem dX1_restore_30 : decode cX1_restore 30 = .ok (.iconst 1, 1) := by decide +kernel
theorem dX1_restore_31 : decode cX1_restore 31 = .ok (.isub, 1) := by decide +kernel
theorem dX1_restore_32 : decode cX1_restore 32 = .ok (.goto 4, 3) := by decide +kernel
theorem dX1_restore_35 : decode cX1_restore 35 = .ok (.iconst 3, 1) := by decide +kernel
theorem dX1_restore_36 : decode cX1_restore 36 = .ok (.istore_n 2, 1) := by decide +kernel
theorem dX1_restore_37 : decode cX1_restore 37 = .ok (.aload_n 1, 1) := by decide +kernel
theorem dX1_restore_38 : decode cX1_restore 38 = .ok (.aload_n 0, 1) := by decide +kernel
theorem dX1_restore_39 : decode cX1_restore 39 = .ok (.getfield 13, 3) := by decide +kernel
theorem dX1_restore_42 : decode cX1_restore 42 = .ok (.iload_n 2, 1) := by decide +kernel
theorem dX1_restore_43 : decode cX1_restore 43 = .ok (.aaload, 1) := by decide +kernel
theorem dX1_restore_44 : decode cX1_restore 44 = .ok (.invokevirtual 25, 3) := by decide +kernel
theorem dX1_restore_47 : decode cX1_restore 47 = .ok (.aload_n 0, 1) := by decide +kernel
theorem dX1_restore_48 : decode cX1_restore 48 = .ok (.iload_n 2, 1) := by decide +kernel
theorem dX1_restore_49 : decode cX1_restore 49 = .ok (.putfield 17, 3) := by decide +kernel
theorem dX1_restore_52 : decode cX1_restore 52 = .ok (.aload_n 0, 1) := by decide +kernel
theorem dX1_restore_53 : decode cX1_restore 53 = .ok (.dup, 1) := by decide +kernel
theorem dX1_restore_54 : decode cX1_restore 54 = .ok (.getfield 21, 3) := by decide +kernel
theorem dX1_restore_57 : decode cX1_restore 57 = .ok (.iconst 1, 1) := by decide +kernel
theorem dX1_restore_58 : decode cX1_restore 58 = .ok (.isub, 1) := by decide +kernel
theorem dX1_restore_59 : decode cX1_restore 59 = .ok (.putfield 21, 3) := by decide +kernel
theorem dX1_restore_62 : decode cX1_restore 62 = .ok (.aload_n 0, 1) := by decide +kernel
theorem dX1_restore_63 : decode cX1_restore 63 = .ok (.getfield 21, 3) := by decide +kernel
theorem dX1_restore_66 : decode cX1_restore 66 = .ok (.ireturn, 1) := by decide +kernel
theorem dX2_then_0 : decode cX2_then 0 = .ok (.lload_n 0, 1) := by decide +kernel
theorem dX2_then_1 : decode cX2_then 1 = .ok (.bipush 7, 2) := by decide +kernel
theorem dX2_then_3 : decode cX2_then 3 = .ok (.lshl, 1) := by decide +kernel
theorem dX2_then_4 : decode cX2_then 4 = .ok (.iload_n 2, 1) := by decide +kernel
theorem dX2_then_5 : decode cX2_then 5 = .ok (.i2l, 1) := by decide +kernel
theorem dX2_then_6 : decode cX2_then 6 = .ok (.lor, 1) := by decide +kernel
theorem dX2_then_7 : decode cX2_then 7 = .ok (.lreturn, 1) := by decide +kernel
theorem dX2_length_0 : decode cX2_length 0 = .ok (.iconst 0, 1) := by decide +kernel
theorem dX2_length_1 : decode cX2_length 1 = .ok (.istore_n 2, 1) := by decide +kernel
theorem dX2_length_2 : decode cX2_length 2 = .ok (.iload_n 2, 1) := by decide +kernel
theorem dX2_length_3 : decode cX2_length 3 = .ok (.bipush 9, 2) := by decide +kernel
theorem dX2_length_5 : decode cX2_length 5 = .ok (.if_icmp .ge 20, 3) := by decide +kernel
theorem dX2_length_8 : decode cX2_length 8 = .ok (.lload_n 0, 1) := by decide +kernel
theorem dX2_length_9 : decode cX2_length 9 = .ok (.bipush 7, 2) := by decide +kernel
theorem dX2_length_11 : decode cX2_length 11 = .ok (.iload_n 2, 1) := by decide +kernel
theorem dX2_length_12 : decode cX2_length 12 = .ok (.imul, 1) := by decide +kernel
theorem dX2_length_13 : decode cX2_length 13 = .ok (.lushr, 1) := by decide +kernel
theorem dX2_length_14 : decode cX2_length 14 = .ok (.lconst 0, 1) := by decide +kernel
theorem dX2_length_15 : decode cX2_length 15 = .ok (.lcmp, 1) := by decide +kernel
theorem dX2_length_16 : decode cX2_length 16 = .ok (.ifCond .eq 9, 3) := by decide +kernel
theorem dX2_length_19 : decode cX2_length 19 = .ok (.iinc 2 1, 3) := by decide +kernel
theorem dX2_length_22 : decode cX2_length 22 = .ok (.goto (-20), 3) := by decide +kernel
theorem dX2_length_25 : decode cX2_length 25 = .ok (.iload_n 2, 1) := by decide +kernel
theorem dX2_length_26 : decode cX2_length 26 = .ok (.ireturn, 1) := by decide +kernel
theorem dX2_character_0 : decode cX2_character 0 = .ok (.iload_n 2, 1) := by decide +kernel
theorem dX2_character_1 : decode cX2_character 1 = .ok (.ifCond .lt 22, 3) := by decide +kernel
theorem dX2_character_4 : decode cX2_character 4 = .ok (.iload_n 2, 1) := by decide +kernel
theorem dX2_character_5 : decode cX2_character 5 = .ok (.bipush 9, 2) := by decide +kernel
theorem dX2_character_7 : decode cX2_character 7 = .ok (.if_icmp .ge 16, 3) := by decide +kernel
theorem dX2_character_10 : decode cX2_character 10 = .ok (.lload_n 0, 1) := by decide +kernel
theorem dX2_character_11 : decode cX2_character 11 = .ok (.bipush 7, 2) := by decide +kernel
theorem dX2_character_13 : decode cX2_character 13 = .ok (.iload_n 2, 1) := by decide +kernel
theorem dX2_character_14 : decode cX2_character 14 = .ok (.imul, 1) := by decide +kernel
theorem dX2_character_15 : decode cX2_character 15 = .ok (.lushr, 1) := by decide +kernel
theorem dX2_character_16 : decode cX2_character 16 = .ok (.l2i, 1) := by decide +kernel
theorem dX2_character_17 : decode cX2_character 17 = .ok (.bipush 127, 2) := by decide +kernel
theorem dX2_character_19 : decode cX2_character 19 = .ok (.iand, 1) := by decide +kernel
theorem dX2_character_20 : decode cX2_character 20 = .ok (.goto 4, 3) := by decide +kernel
theorem dX2_character_23 : decode cX2_character 23 = .ok (.iconst 0, 1) := by decide +kernel
theorem dX2_character_24 : decode cX2_character 24 = .ok (.ireturn, 1) := by decide +kernel
set_option maxRecDepth 20000 in
theorem ggX2_has_X2_character : GoodIn wsX2_has wsX2_character := goodIn_r _ [4] (by decide +kernel) (by decide +kernel)
set_option maxRecDepth 20000 in
theorem gX2_has_X2_character : GoodIn wsX2_has (va_wsS RX2 9 yX2_character wsX2_character) := goodIn_app (goodIn_of _ (by decide +kernel)) ggX2_has_X2_character
theorem dX2_has_0 : decode cX2_has 0 = .ok (.iconst 0, 1) := by decide +kernel
theorem dX2_has_1 : decode cX2_has 1 = .ok (.istore_n 3, 1) := by decide +kernel
theorem dX2_has_2 : decode cX2_has 2 = .ok (.iload_n 3, 1) := by decide +kernel
theorem dX2_has_3 : decode cX2_has 3 = .ok (.bipush 9, 2) := by decide +kernel
theorem dX2_has_5 : decode cX2_has 5 = .ok (.if_icmp .ge 20, 3) := by decide +kernel
theorem dX2_has_8 : decode cX2_has 8 = .ok (.lload_n 0, 1) := by decide +kernel
theorem dX2_has_9 : decode cX2_has 9 = .ok (.iload_n 3, 1) := by decide +kernel
theorem dX2_has_10 : decode cX2_has 10 = .ok (.invokestatic 9, 3) := by decide +kernel
theorem dX2_has_13 : decode cX2_has 13 = .ok (.iload_n 2, 1) := by decide +kernel
theorem dX2_has_14 : decode cX2_has 14 = .ok (.if_icmp .ne 5, 3) := by decide +kernel
theorem dX2_has_17 : decode cX2_has 17 = .ok (.iconst 1, 1) := by decide +kernel
theorem dX2_has_18 : decode cX2_has 18 = .ok (.ireturn, 1) := by decide +kernel
theorem dX2_has_19 : decode cX2_has 19 = .ok (.iinc 3 1, 3) := by decide +kernel
theorem dX2_has_22 : decode cX2_has 22 = .ok (.goto (-20), 3) := by decide +kernel
theorem dX2_has_25 : decode cX2_has 25 = .ok (.iconst 0, 1) := by decide +kernel
theorem dX2_has_26 : decode cX2_has 26 = .ok (.ireturn, 1) := by decide +kernel
theorem dX3_init_0 : decode cX3_init 0 = .ok (.aload_n 0, 1) := by decide +kernel
theorem dX3_init_1 : decode cX3_init 1 = .ok (.invokespecial 3, 3) := by decide +kernel
theorem dX3_init_4 : decode cX3_init 4 = .ok (.aload_n 0, 1) := by decide +kernel
theorem dX3_init_5 : decode cX3_init 5 = .ok (.bipush 6, 2) := by decide +kernel
theorem dX3_init_7 : decode cX3_init 7 = .ok (.bipush 9, 2) := by decide +kernel
theorem dX3_init_9 : decode cX3_init 9 = .ok (.multianewarray 9 2, 4) := by decide +kernel
theorem dX3_init_13 : decode cX3_init 13 = .ok (.putfield 11, 3) := by decide +kernel
theorem dX3_init_16 : decode cX3_init 16 = .ok (.aload_n 0, 1) := by decide +kernel
theorem dX3_init_17 : decode cX3_init 17 = .ok (.bipush 10, 2) := by decide +kernel
theorem dX3_init_19 : decode cX3_init 19 = .ok (.iconst 5, 1) := by decide +kernel
theorem dX3_init_20 : decode cX3_init 20 = .ok (.multianewarray 9 2, 4) := by decide +kernel
theorem dX3_init_24 : decode cX3_init 24 = .ok (.putfield 16, 3) := by decide +kernel
theorem dX3_init_27 : decode cX3_init 27 = .ok (.aload_n 0, 1) := by decide +kernel
theorem dX3_init_28 : decode cX3_init 28 = .ok (.iconst 0, 1) := by decide +kernel
theorem dX3_init_29 : decode cX3_init 29 = .ok (.putfield 19, 3) := by decide +kernel
theorem dX3_init_32 : decode cX3_init 32 = .ok (.aload_n 0, 1) := by decide +kernel
theorem dX3_init_33 : decode cX3_init 33 = .ok (.iconst 0, 1) := by decide +kernel
theorem dX3_init_34 : decode cX3_init 34 = .ok (.putfield 23, 3) := by decide +kernel
theorem dX3_init_37 : decode cX3_init 37 = .ok (.aload_n 0, 1) := by decide +kernel
theorem dX3_init_38 : decode cX3_init 38 = .ok (.iconst 2, 1) := by decide +kernel
theorem dX3_init_39 : decode cX3_init 39 = .ok (.putfield 26, 3) := by decide +kernel
theorem dX3_init_42 : decode cX3_init 42 = .ok (.iconst 0, 1) := by decide +kernel
theorem dX3_init_43 : decode cX3_init 43 = .ok (.istore_n 1, 1) := by decide +kernel
theorem dX3_init_44 : decode cX3_init 44 = .ok (.iload_n 1, 1) := by decide +kernel
theorem dX3_init_45 : decode cX3_init 45 = .ok (.bipush 6, 2) := by decide +kernel
theorem dX3_init_47 : decode cX3_init 47 = .ok (.if_icmp .ge 44, 3) := by decide +kernel
theorem dX3_init_50 : decode cX3_init 50 = .ok (.iconst 0, 1) := by decide +kernel
theorem dX3_init_51 : decode cX3_init 51 = .ok (.istore_n 2, 1) := by decide +kernel
theorem dX3_init_52 : decode cX3_init 52 = .ok (.iload_n 2, 1) := by decide +kernel
theorem dX3_init_53 : decode cX3_init 53 = .ok (.iconst 3, 1) := by decide +kernel
theorem dX3_init_54 : decode cX3_init 54 = .ok (.if_icmp .ge 20, 3) := by decide +kernel
theorem dX3_init_57 : decode cX3_init 57 = .ok (.aload_n 0, 1) := by decide +kernel
theorem dX3_init_58 : decode cX3_init 58 = .ok (.getfield 11, 3) := by decide +kernel
theorem dX3_init_61 : decode cX3_init 61 = .ok (.iload_n 1, 1) := by decide +kernel
theorem dX3_init_62 : decode cX3_init 62 = .ok (.aaload, 1) := by decide +kernel
theorem dX3_init_63 : decode cX3_init 63 = .ok (.iconst 0, 1) := by decide +kernel
theorem dX3_init_64 : decode cX3_init 64 = .ok (.iload_n 2, 1) := by decide +kernel
theorem dX3_init_65 : decode cX3_init 65 = .ok (.iadd, 1) := by decide +kernel
theorem dX3_init_66 : decode cX3_init 66 = .ok (.iconst 1, 1) := by decide +kernel
theorem dX3_init_67 : decode cX3_init 67 = .ok (.iastore, 1) := by decide +kernel
theorem dX3_init_68 : decode cX3_init 68 = .ok (.iinc 2 1, 3) := by decide +kernel
theorem dX3_init_71 : decode cX3_init 71 = .ok (.goto (-19), 3) := by decide +kernel
theorem dX3_init_74 : decode cX3_init 74 = .ok (.aload_n 0, 1) := by decide +kernel
theorem dX3_init_75 : decode cX3_init 75 = .ok (.getfield 11, 3) := by decide +kernel
theorem dX3_init_78 : decode cX3_init 78 = .ok (.iload_n 1, 1) := by decide +kernel
theorem dX3_init_79 : decode cX3_init 79 = .ok (.aaload, 1) := by decide +kernel
theorem dX3_init_80 : decode cX3_init 80 = .ok (.bipush 6, 2) := by decide +kernel
theorem dX3_init_82 : decode cX3_init 82 = .ok (.bipush 12, 2) := by decide +kernel
theorem dX3_init_84 : decode cX3_init 84 = .ok (.iastore, 1) := by decide +kernel
theorem dX3_init_85 : decode cX3_init 85 = .ok (.iinc 1 1, 3) := by decide +kernel
theorem dX3_init_88 : decode cX3_init 88 = .ok (.goto (-44), 3) := by decide +kernel
theorem dX3_init_91 : decode cX3_init 91 = .ok (.return_, 1) := by decide +kernel
theorem dX3_copyFrom_0 : decode cX3_copyFrom 0 = .ok (.iconst 0, 1) := by decide +kernel
theorem dX3_copyFrom_1 : decode cX3_copyFrom 1 = .ok (.istore_n 2, 1) := by decide +kernel
theorem dX3_copyFrom_2 : decode cX3_copyFrom 2 = .ok (.iload_n 2, 1) := by decide +kernel
theorem dX3_copyFrom_3 : decode cX3_copyFrom 3 = .ok (.bipush 6, 2) := by decide +kernel
theorem dX3_copyFrom_5 : decode cX3_copyFrom 5 = .ok (.if_icmp .ge 28, 3) := by decide +kernel
theorem dX3_copyFrom_8 : decode cX3_copyFrom 8 = .ok (.aload_n 1, 1) := by decide +kernel
theorem dX3_copyFrom_9 : decode cX3_copyFrom 9 = .ok (.getfield 11, 3) := by decide +kernel
theorem dX3_copyFrom_12 : decode cX3_copyFrom 12 = .ok (.iload_n 2, 1) := by decide +kernel
theorem dX3_copyFrom_13 : decode cX3_copyFrom 13 = .ok (.aaload, 1) := by decide +kernel
theorem dX3_copyFrom_14 : decode cX3_copyFrom 14 = .ok (.iconst 0, 1) := by decide +kernel
theorem dX3_copyFrom_15 : decode cX3_copyFrom 15 = .ok (.aload_n 0, 1) := by decide +kernel
theorem dX3_copyFrom_16 : decode cX3_copyFrom 16 = .ok (.getfield 11, 3) := by decide +kernel
theorem dX3_copyFrom_19 : decode cX3_copyFrom 19 = .ok (.iload_n 2, 1) := by decide +kernel
theorem dX3_copyFrom_20 : decode cX3_copyFrom 20 = .ok (.aaload, 1) := by decide +kernel
theorem dX3_copyFrom_21 : decode cX3_copyFrom 21 = .ok (.iconst 0, 1) := by decide +kernel
theorem dX3_copyFrom_22 : decode cX3_copyFrom 22 = .ok (.bipush 9, 2) := by decide +kernel
theorem dX3_copyFrom_24 : decode cX3_copyFrom 24 = .ok (.invokestatic 29, 3) := by decide +kernel
theorem dX3_copyFrom_27 : decode cX3_copyFrom 27 = .ok (.iinc 2 1, 3) := by decide +kernel
theorem dX3_copyFrom_30 : decode cX3_copyFrom 30 = .ok (.goto (-28), 3) := by decide +kernel
theorem dX3_copyFrom_33 : decode cX3_copyFrom 33 = .ok (.iconst 0, 1) := by decide +kernel
theorem dX3_copyFrom_34 : decode cX3_copyFrom 34 = .ok (.istore_n 2, 1) := by decide +kernel
theorem dX3_copyFrom_35 : decode cX3_copyFrom 35 = .ok (.iload_n 2, 1) := by decide +kernel
theorem dX3_copyFrom_36 : decode cX3_copyFrom 36 = .ok (.bipush 10, 2) := by decide +kernel
theorem dX3_copyFrom_38 : decode cX3_copyFrom 38 = .ok (.if_icmp .ge 27, 3) := by decide +kernel
theorem dX3_copyFrom_41 : decode cX3_copyFrom 41 = .ok (.aload_n 1, 1) := by decide +kernel
theorem dX3_copyFrom_42 : decode cX3_copyFrom 42 = .ok (.getfield 16, 3) := by decide +kernel
theorem dX3_copyFrom_45 : decode cX3_copyFrom 45 = .ok (.iload_n 2, 1) := by decide +kernel
theorem dX3_copyFrom_46 : decode cX3_copyFrom 46 = .ok (.aaload, 1) := by decide +kernel
theorem dX3_copyFrom_47 : decode cX3_copyFrom 47 = .ok (.iconst 0, 1) := by decide +kernel
theorem dX3_copyFrom_48 : decode cX3_copyFrom 48 = .ok (.aload_n 0, 1) := by decide +kernel
theorem dX3_copyFrom_49 : decode cX3_copyFrom 49 = .ok (.getfield 16, 3) := by decide +kernel
theorem dX3_copyFrom_52 : decode cX3_copyFrom 52 = .ok (.iload_n 2, 1) := by decide +kernel
theorem dX3_copyFrom_53 : decode cX3_copyFrom 53 = .ok (.aaload, 1) := by decide +kernel
theorem dX3_copyFrom_54 : decode cX3_copyFrom 54 = .ok (.iconst 0, 1) := by decide +kernel
theorem dX3_copyFrom_55 : decode cX3_copyFrom 55 = .ok (.iconst 5, 1) := by decide +kernel
theorem dX3_copyFrom_56 : decode cX3_copyFrom 56 = .ok (.invokestatic 29, 3) := by decide +kernel
theorem dX3_copyFrom_59 : decode cX3_copyFrom 59 = .ok (.iinc 2 1, 3) := by decide +kernel
theorem dX3_copyFrom_62 : decode cX3_copyFrom 62 = .ok (.goto (-27), 3) := by decide +kernel
theorem dX3_copyFrom_65 : decode cX3_copyFrom 65 = .ok (.aload_n 0, 1) := by decide +kernel
theorem dX3_copyFrom_66 : decode cX3_copyFrom 66 = .ok (.aload_n 1, 1) := by decide +kernel
theorem dX3_copyFrom_67 : decode cX3_copyFrom 67 = .ok (.getfield 19, 3) := by decide +kernel
theorem dX3_copyFrom_70 : decode cX3_copyFrom 70 = .ok (.putfield 19, 3) := by decide +kernel
theorem dX3_copyFrom_73 : decode cX3_copyFrom 73 = .ok (.aload_n 0, 1) := by decide +kernel
theorem dX3_copyFrom_74 : decode cX3_copyFrom 74 = .ok (.aload_n 1, 1) := by decide +kernel
theorem dX3_copyFrom_75 : decode cX3_copyFrom 75 = .ok (.getfield 23, 3) := by decide +kernel
theorem dX3_copyFrom_78 : decode cX3_copyFrom 78 = .ok (.putfield 23, 3) := by decide +kernel
theorem dX3_copyFrom_81 : decode cX3_copyFrom 81 = .ok (.aload_n 0, 1) := by decide +kernel
theorem dX3_copyFrom_82 : decode cX3_copyFrom 82 = .ok (.aload_n 1, 1) := by decide +kernel
theorem dX3_copyFrom_83 : decode cX3_copyFrom 83 = .ok (.getfield 26, 3) := by decide +kernel
theorem dX3_copyFrom_86 : decode cX3_copyFrom 86 = .ok (.putfield 26, 3) := by decide +kernel
theorem dX3_copyFrom_89 : decode cX3_copyFrom 89 = .ok (.return_, 1) := by decide +kernel
theorem dX3_nextLine_0 : decode cX3_nextLine 0 = .ok (.aload_n 0, 1) := by decide +kernel
theorem dX3_nextLine_1 : decode cX3_nextLine 1 = .ok (.aload_n 0, 1) := by decide +kernel
theorem dX3_nextLine_2 : decode cX3_nextLine 2 = .ok (.getfield 19, 3) := by decide +kernel
theorem dX3_nextLine_5 : decode cX3_nextLine 5 = .ok (.ifCond .lt 21, 3) := by decide +kernel
theorem dX3_nextLine_8 : decode cX3_nextLine 8 = .ok (.aload_n 0, 1) := by decide +kernel
theorem dX3_nextLine_9 : decode cX3_nextLine 9 = .ok (.getfield 19, 3) := by decide +kernel
theorem dX3_nextLine_12 : decode cX3_nextLine 12 = .ok (.bipush 9, 2) := by decide +kernel
theorem dX3_nextLine_14 : decode cX3_nextLine 14 = .ok (.if_icmp .ge 12, 3) := by decide +kernel
theorem dX3_nextLine_17 : decode cX3_nextLine 17 = .ok (.aload_n 0, 1) := by decide +kernel
theorem dX3_nextLine_18 : decode cX3_nextLine 18 = .ok (.getfield 19, 3) := by decide +kernel
theorem dX3_nextLine_21 : decode cX3_nextLine 21 = .ok (.iconst 1, 1) := by decide +kernel
theorem dX3_nextLine_22 : decode cX3_nextLine 22 = .ok (.iadd, 1) := by decide +kernel
theorem dX3_nextLine_23 : decode cX3_nextLine 23 = .ok (.goto 4, 3) := by decide +kernel
theorem dX3_nextLine_26 : decode cX3_nextLine 26 = .ok (.iconst 0, 1) := by decide +kernel
theorem dX3_nextLine_27 : decode cX3_nextLine 27 = .ok (.putfield 19, 3) := by decide +kernel
theorem dX3_nextLine_30 : decode cX3_nextLine 30 = .ok (.aload_n 0, 1) := by decide +kernel
theorem dX3_nextLine_31 : decode cX3_nextLine 31 = .ok (.aload_n 0, 1) := by decide +kernel
theorem dX3_nextLine_32 : decode cX3_nextLine 32 = .ok (.getfield 23, 3) := by decide +kernel
theorem dX3_nextLine_35 : decode cX3_nextLine 35 = .ok (.iconst 1, 1) := by decide +kernel
theorem dX3_nextLine_36 : decode cX3_nextLine 36 = .ok (.iadd, 1) := by decide +kernel
theorem dX3_nextLine_37 : decode cX3_nextLine 37 = .ok (.bipush 10, 2) := by decide +kernel
theorem dX3_nextLine_39 : decode cX3_nextLine 39 = .ok (.invokestatic 35, 3) := by decide +kernel
theorem dX3_nextLine_42 : decode cX3_nextLine 42 = .ok (.putfield 23, 3) := by decide +kernel
theorem dX3_nextLine_45 : decode cX3_nextLine 45 = .ok (.aload_n 0, 1) := by decide +kernel
theorem dX3_nextLine_46 : decode cX3_nextLine 46 = .ok (.getfield 16, 3) := by decide +kernel
theorem dX3_nextLine_49 : decode cX3_nextLine 49 = .ok (.aload_n 0, 1) := by decide +kernel
theorem dX3_nextLine_50 : decode cX3_nextLine 50 = .ok (.getfield 19, 3) := by decide +kernel
theorem dX3_nextLine_53 : decode cX3_nextLine 53 = .ok (.aaload, 1) := by decide +kernel
theorem dX3_nextLine_54 : decode cX3_nextLine 54 = .ok (.areturn, 1) := by decide +kernel
theorem dX3_told_0 : decode cX3_told 0 = .ok (.aload_n 0, 1) := by decide +kernel
theorem dX3_told_1 : decode cX3_told 1 = .ok (.getfield 19, 3) := by decide +kernel
theorem dX3_told_4 : decode cX3_told 4 = .ok (.iload_n 1, 1) := by decide +kernel
theorem dX3_told_5 : decode cX3_told 5 = .ok (.isub, 1) := by decide +kernel
theorem dX3_told_6 : decode cX3_told 6 = .ok (.istore_n 3, 1) := by decide +kernel
theorem dX3_told_7 : decode cX3_told 7 = .ok (.iload_n 3, 1) := by decide +kernel
theorem dX3_told_8 : decode cX3_told 8 = .ok (.ifCond .ge 6, 3) := by decide +kernel
theorem dX3_told_11 : decode cX3_told 11 = .ok (.iinc 3 10, 3) := by decide +kernel
theorem dX3_told_14 : decode cX3_told 14 = .ok (.iload_n 3, 1) := by decide +kernel
theorem dX3_told_15 : decode cX3_told 15 = .ok (.ifCond .lt 20, 3) := by decide +kernel
theorem dX3_told_18 : decode cX3_told 18 = .ok (.iload_n 3, 1) := by decide +kernel
theorem dX3_told_19 : decode cX3_told 19 = .ok (.bipush 10, 2) := by decide +kernel
theorem dX3_told_21 : decode cX3_told 21 = .ok (.if_icmp .ge 14, 3) := by decide +kernel
theorem dX3_told_24 : decode cX3_told 24 = .ok (.aload_n 0, 1) := by decide +kernel
theorem dX3_told_25 : decode cX3_told 25 = .ok (.getfield 16, 3) := by decide +kernel
theorem dX3_told_28 : decode cX3_told 28 = .ok (.iload_n 3, 1) := by decide +kernel
theorem dX3_told_29 : decode cX3_told 29 = .ok (.aaload, 1) := by decide +kernel
theorem dX3_told_30 : decode cX3_told 30 = .ok (.iload_n 2, 1) := by decide +kernel
theorem dX3_told_31 : decode cX3_told 31 = .ok (.iaload, 1) := by decide +kernel
theorem dX3_told_32 : decode cX3_told 32 = .ok (.goto 5, 3) := by decide +kernel
theorem dX3_told_35 : decode cX3_told 35 = .ok (.bipush (-5), 2) := by decide +kernel
theorem dX3_told_37 : decode cX3_told 37 = .ok (.ireturn, 1) := by decide +kernel
theorem dX3_total_0 : decode cX3_total 0 = .ok (.iconst 0, 1) := by decide +kernel
theorem dX3_total_1 : decode cX3_total 1 = .ok (.istore_n 3, 1) := by decide +kernel
theorem dX3_total_2 : decode cX3_total 2 = .ok (.iconst 0, 1) := by decide +kernel
theorem dX3_total_3 : decode cX3_total 3 = .ok (.istore 4, 2) := by decide +kernel
theorem dX3_total_5 : decode cX3_total 5 = .ok (.iload 4, 2) := by decide +kernel
theorem dX3_total_7 : decode cX3_total 7 = .ok (.bipush 6, 2) := by decide +kernel
theorem dX3_total_9 : decode cX3_total 9 = .ok (.if_icmp .ge 46, 3) := by decide +kernel
theorem dX3_total_12 : decode cX3_total 12 = .ok (.iload_n 1, 1) := by decide +kernel
theorem dX3_total_13 : decode cX3_total 13 = .ok (.istore 5, 2) := by decide +kernel
theorem dX3_total_15 : decode cX3_total 15 = .ok (.iload 5, 2) := by decide +kernel
theorem dX3_total_17 : decode cX3_total 17 = .ok (.iload_n 1, 1) := by decide +kernel
theorem dX3_total_18 : decode cX3_total 18 = .ok (.iload_n 2, 1) := by decide +kernel
theorem dX3_total_19 : decode cX3_total 19 = .ok (.iadd, 1) := by decide +kernel
theorem dX3_total_20 : decode cX3_total 20 = .ok (.if_icmp .ge 29, 3) := by decide +kernel
theorem dX3_total_23 : decode cX3_total 23 = .ok (.iload 5, 2) := by decide +kernel
theorem dX3_total_25 : decode cX3_total 25 = .ok (.bipush 9, 2) := by decide +kernel
theorem dX3_total_27 : decode cX3_total 27 = .ok (.if_icmp .ge 22, 3) := by decide +kernel
theorem dX3_total_30 : decode cX3_total 30 = .ok (.iload_n 3, 1) := by decide +kernel
theorem dX3_total_31 : decode cX3_total 31 = .ok (.aload_n 0, 1) := by decide +kernel
theorem dX3_total_32 : decode cX3_total 32 = .ok (.getfield 11, 3) := by decide +kernel
theorem dX3_total_35 : decode cX3_total 35 = .ok (.iload 4, 2) := by decide +kernel
theorem dX3_total_37 : decode cX3_total 37 = .ok (.aaload, 1) := by decide +kernel
theorem dX3_total_38 : decode cX3_total 38 = .ok (.iload 5, 2) := by decide +kernel
theorem dX3_total_40 : decode cX3_total 40 = .ok (.iaload, 1) := by decide +kernel
theorem dX3_total_41 : decode cX3_total 41 = .ok (.iadd, 1) := by decide +kernel
theorem dX3_total_42 : decode cX3_total 42 = .ok (.istore_n 3, 1) := by decide +kernel
theorem dX3_total_43 : decode cX3_total 43 = .ok (.iinc 5 1, 3) := by decide +kernel
theorem dX3_total_46 : decode cX3_total 46 = .ok (.goto (-31), 3) := by decide +kernel
theorem dX3_total_49 : decode cX3_total 49 = .ok (.iinc 4 1, 3) := by decide +kernel
theorem dX3_total_52 : decode cX3_total 52 = .ok (.goto (-47), 3) := by decide +kernel
theorem dX3_total_55 : decode cX3_total 55 = .ok (.iload_n 3, 1) := by decide +kernel
theorem dX3_total_56 : decode cX3_total 56 = .ok (.ireturn, 1) := by decide +kernel
theorem dX4_init_0 : decode cX4_init 0 = .ok (.aload_n 0, 1) := by decide +kernel
theorem dX4_init_1 : decode cX4_init 1 = .ok (.invokespecial 1, 3) := by decide +kernel
theorem dX4_init_4 : decode cX4_init 4 = .ok (.aload_n 0, 1) := by decide +kernel
theorem dX4_init_5 : decode cX4_init 5 = .ok (.bipush 16, 2) := by decide +kernel
theorem dX4_init_7 : decode cX4_init 7 = .ok (.newarray .long, 2) := by decide +kernel
theorem dX4_init_9 : decode cX4_init 9 = .ok (.putfield 9, 3) := by decide +kernel
theorem dX4_init_12 : decode cX4_init 12 = .ok (.aload_n 0, 1) := by decide +kernel
theorem dX4_init_13 : decode cX4_init 13 = .ok (.iconst 0, 1) := by decide +kernel
theorem dX4_init_14 : decode cX4_init 14 = .ok (.putfield 13, 3) := by decide +kernel
theorem dX4_init_17 : decode cX4_init 17 = .ok (.return_, 1) := by decide +kernel
set_option maxRecDepth 20000 in
theorem ggX4_find_X4_addSmalls : GoodIn wsX4_find wsX4_addSmalls := goodIn_r _ [13, 2, 3, 4, 5, 6, 7, 8, 14, 15, 12, 16, 17, 18, 19, 20, 21, 22, 23, 24, 1, 25, 26, 27, 28, 29, 30, 31, 32, 37, 38] (by decide +kernel) (by decide +kernel)
set_option maxRecDepth 20000 in
theorem gX4_find_X4_addSmalls : GoodIn wsX4_find (wsV RX4 19 RX4 yX4_addSmalls wsX4_addSmalls) := goodIn_app (goodIn_of _ (by decide +kernel)) ggX4_find_X4_addSmalls
set_option maxRecDepth 20000 in
theorem ggX4_find_X4_addGreat : GoodIn wsX4_find wsX4_addGreat := goodIn_r _ [36, 30, 31, 12, 32, 17, 18, 19, 20, 14, 15, 16, 21, 22, 23, 24, 1, 25, 9, 10, 11, 13, 2, 3, 4, 5, 6, 7, 8, 26, 27, 28, 29, 37, 38] (by decide +kernel) (by decide +kernel)
set_option maxRecDepth 20000 in
theorem gX4_find_X4_addGreat : GoodIn wsX4_find (wsV RX4 32 RX4 yX4_addGreat wsX4_addGreat) := goodIn_app (goodIn_of _ (by decide +kernel)) ggX4_find_X4_addGreat
theorem dX4_find_0 : decode cX4_find 0 = .ok (.aload_n 0, 1) := by decide +kernel
theorem dX4_find_1 : decode cX4_find 1 = .ok (.iconst 0, 1) := by decide +kernel
theorem dX4_find_2 : decode cX4_find 2 = .ok (.putfield 13, 3) := by decide +kernel
theorem dX4_find_5 : decode cX4_find 5 = .ok (.aload_n 0, 1) := by decide +kernel
theorem dX4_find_6 : decode cX4_find 6 = .ok (.lconst 0, 1) := by decide +kernel
theorem dX4_find_7 : decode cX4_find 7 = .ok (.iload_n 1, 1) := by decide +kernel
theorem dX4_find_8 : decode cX4_find 8 = .ok (.invokevirtual 19, 3) := by decide +kernel
theorem dX4_find_11 : decode cX4_find 11 = .ok (.sipush 400, 3) := by decide +kernel
theorem dX4_find_14 : decode cX4_find 14 = .ok (.iload_n 1, 1) := by decide +kernel
theorem dX4_find_15 : decode cX4_find 15 = .ok (.sipush 200, 3) := by decide +kernel
theorem dX4_find_18 : decode cX4_find 18 = .ok (.isub, 1) := by decide +kernel
theorem dX4_find_19 : decode cX4_find 19 = .ok (.sipush 200, 3) := by decide +kernel
theorem dX4_find_22 : decode cX4_find 22 = .ok (.idiv, 1) := by decide +kernel
theorem dX4_find_23 : decode cX4_find 23 = .ok (.sipush 200, 3) := by decide +kernel
theorem dX4_find_26 : decode cX4_find 26 = .ok (.imul, 1) := by decide +kernel
theorem dX4_find_27 : decode cX4_find 27 = .ok (.invokestatic 23, 3) := by decide +kernel
theorem dX4_find_30 : decode cX4_find 30 = .ok (.istore_n 2, 1) := by decide +kernel
theorem dX4_find_31 : decode cX4_find 31 = .ok (.sipush 7600, 3) := by decide +kernel
theorem dX4_find_34 : decode cX4_find 34 = .ok (.iload_n 1, 1) := by decide +kernel
theorem dX4_find_35 : decode cX4_find 35 = .ok (.invokestatic 29, 3) := by decide +kernel
theorem dX4_find_38 : decode cX4_find 38 = .ok (.istore_n 3, 1) := by decide +kernel
theorem dX4_find_39 : decode cX4_find 39 = .ok (.iload_n 2, 1) := by decide +kernel
theorem dX4_find_40 : decode cX4_find 40 = .ok (.istore 4, 2) := by decide +kernel
theorem dX4_find_42 : decode cX4_find 42 = .ok (.iload 4, 2) := by decide +kernel
theorem dX4_find_44 : decode cX4_find 44 = .ok (.iload_n 3, 1) := by decide +kernel
theorem dX4_find_45 : decode cX4_find 45 = .ok (.if_icmp .gt 22, 3) := by decide +kernel
theorem dX4_find_48 : decode cX4_find 48 = .ok (.aload_n 0, 1) := by decide +kernel
theorem dX4_find_49 : decode cX4_find 49 = .ok (.iload 4, 2) := by decide +kernel
theorem dX4_find_51 : decode cX4_find 51 = .ok (.iload_n 1, 1) := by decide +kernel
theorem dX4_find_52 : decode cX4_find 52 = .ok (.iload 4, 2) := by decide +kernel
theorem dX4_find_54 : decode cX4_find 54 = .ok (.isub, 1) := by decide +kernel
theorem dX4_find_55 : decode cX4_find 55 = .ok (.invokevirtual 32, 3) := by decide +kernel
theorem dX4_find_58 : decode cX4_find 58 = .ok (.iinc 4 200, 6) := by decide +kernel
theorem dX4_find_64 : decode cX4_find 64 = .ok (.goto (-22), 3) := by decide +kernel
theorem dX4_find_67 : decode cX4_find 67 = .ok (.return_, 1) := by decide +kernel
theorem dX4_at_0 : decode cX4_at 0 = .ok (.iload_n 1, 1) := by decide +kernel
theorem dX4_at_1 : decode cX4_at 1 = .ok (.ifCond .lt 18, 3) := by decide +kernel
theorem dX4_at_4 : decode cX4_at 4 = .ok (.iload_n 1, 1) := by decide +kernel
end
section
theorem dX4_at_5 : decode cX4_at 5 = .ok (.bipush 16, 2) := by decide +kernel
theorem dX4_at_7 : decode cX4_at 7 = .ok (.if_icmp .ge 12, 3) := by decide +kernel
theorem dX4_at_10 : decode cX4_at 10 = .ok (.aload_n 0, 1) := by decide +kernel
theorem dX4_at_11 : decode cX4_at 11 = .ok (.getfield 9, 3) := by decide +kernel
theorem dX4_at_14 : decode cX4_at 14 = .ok (.iload_n 1, 1) := by decide +kernel
theorem dX4_at_15 : decode cX4_at 15 = .ok (.laload, 1) := by decide +kernel
theorem dX4_at_16 : decode cX4_at 16 = .ok (.goto 4, 3) := by decide +kernel
theorem dX4_at_19 : decode cX4_at 19 = .ok (.lconst 0, 1) := by decide +kernel
theorem dX4_at_20 : decode cX4_at 20 = .ok (.lreturn, 1) := by decide +kernel
theorem dX4_placeOf_0 : decode cX4_placeOf 0 = .ok (.iconst 0, 1) := by decide +kernel
theorem dX4_placeOf_1 : decode cX4_placeOf 1 = .ok (.istore_n 3, 1) := by decide +kernel
theorem dX4_placeOf_2 : decode cX4_placeOf 2 = .ok (.iload_n 3, 1) := by decide +kernel
theorem dX4_placeOf_3 : decode cX4_placeOf 3 = .ok (.aload_n 0, 1) := by decide +kernel
theorem dX4_placeOf_4 : decode cX4_placeOf 4 = .ok (.getfield 13, 3) := by decide +kernel
theorem dX4_placeOf_7 : decode cX4_placeOf 7 = .ok (.if_icmp .ge 28, 3) := by decide +kernel
theorem dX4_placeOf_10 : decode cX4_placeOf 10 = .ok (.iload_n 3, 1) := by decide +kernel
theorem dX4_placeOf_11 : decode cX4_placeOf 11 = .ok (.bipush 16, 2) := by decide +kernel
theorem dX4_placeOf_13 : decode cX4_placeOf 13 = .ok (.if_icmp .ge 22, 3) := by decide +kernel
theorem dX4_placeOf_16 : decode cX4_placeOf 16 = .ok (.aload_n 0, 1) := by decide +kernel
theorem dX4_placeOf_17 : decode cX4_placeOf 17 = .ok (.getfield 9, 3) := by decide +kernel
theorem dX4_placeOf_20 : decode cX4_placeOf 20 = .ok (.iload_n 3, 1) := by decide +kernel
theorem dX4_placeOf_21 : decode cX4_placeOf 21 = .ok (.laload, 1) := by decide +kernel
theorem dX4_placeOf_22 : decode cX4_placeOf 22 = .ok (.lload_n 1, 1) := by decide +kernel
theorem dX4_placeOf_23 : decode cX4_placeOf 23 = .ok (.lcmp, 1) := by decide +kernel
theorem dX4_placeOf_24 : decode cX4_placeOf 24 = .ok (.ifCond .ne 5, 3) := by decide +kernel
theorem dX4_placeOf_27 : decode cX4_placeOf 27 = .ok (.iload_n 3, 1) := by decide +kernel
theorem dX4_placeOf_28 : decode cX4_placeOf 28 = .ok (.ireturn, 1) := by decide +kernel
theorem dX4_placeOf_29 : decode cX4_placeOf 29 = .ok (.iinc 3 1, 3) := by decide +kernel
theorem dX4_placeOf_32 : decode cX4_placeOf 32 = .ok (.goto (-30), 3) := by decide +kernel
theorem dX4_placeOf_35 : decode cX4_placeOf 35 = .ok (.iconst 0, 1) := by decide +kernel
theorem dX4_placeOf_36 : decode cX4_placeOf 36 = .ok (.ireturn, 1) := by decide +kernel
set_option maxRecDepth 20000 in
theorem ggX4_placeOfStyle_X4_at : GoodIn wsX4_placeOfStyle wsX4_at := goodIn_r _ [6, 7, 18, 19] (by decide +kernel) (by decide +kernel)
set_option maxRecDepth 20000 in
theorem gX4_placeOfStyle_X4_at : GoodIn wsX4_placeOfStyle (wsV RX4 36 RX4 yX4_at wsX4_at) := goodIn_app (goodIn_of _ (by decide +kernel)) ggX4_placeOfStyle_X4_at
set_option maxRecDepth 20000 in
theorem ggX4_placeOfStyle_X4_isOfStyle : GoodIn wsX4_placeOfStyle wsX4_isOfStyle := goodIn_r _ [10, 11, 12, 13, 14, 15, 16, 17] (by decide +kernel) (by decide +kernel)
set_option maxRecDepth 20000 in
theorem gX4_placeOfStyle_X4_isOfStyle : GoodIn wsX4_placeOfStyle (va_wsS RX4 40 yX4_isOfStyle wsX4_isOfStyle) := goodIn_app (goodIn_of _ (by decide +kernel)) ggX4_placeOfStyle_X4_isOfStyle
theorem dX4_placeOfStyle_0 : decode cX4_placeOfStyle 0 = .ok (.iconst 0, 1) := by decide +kernel
theorem dX4_placeOfStyle_1 : decode cX4_placeOfStyle 1 = .ok (.istore_n 2, 1) := by decide +kernel
theorem dX4_placeOfStyle_2 : decode cX4_placeOfStyle 2 = .ok (.iload_n 2, 1) := by decide +kernel
theorem dX4_placeOfStyle_3 : decode cX4_placeOfStyle 3 = .ok (.aload_n 0, 1) := by decide +kernel
theorem dX4_placeOfStyle_4 : decode cX4_placeOfStyle 4 = .ok (.getfield 13, 3) := by decide +kernel
theorem dX4_placeOfStyle_7 : decode cX4_placeOfStyle 7 = .ok (.if_icmp .ge 23, 3) := by decide +kernel
theorem dX4_placeOfStyle_10 : decode cX4_placeOfStyle 10 = .ok (.aload_n 0, 1) := by decide +kernel
theorem dX4_placeOfStyle_11 : decode cX4_placeOfStyle 11 = .ok (.iload_n 2, 1) := by decide +kernel
theorem dX4_placeOfStyle_12 : decode cX4_placeOfStyle 12 = .ok (.invokevirtual 36, 3) := by decide +kernel
theorem dX4_placeOfStyle_15 : decode cX4_placeOfStyle 15 = .ok (.iload_n 1, 1) := by decide +kernel
theorem dX4_placeOfStyle_16 : decode cX4_placeOfStyle 16 = .ok (.invokestatic 40, 3) := by decide +kernel
theorem dX4_placeOfStyle_19 : decode cX4_placeOfStyle 19 = .ok (.ifCond .eq 5, 3) := by decide +kernel
theorem dX4_placeOfStyle_22 : decode cX4_placeOfStyle 22 = .ok (.iload_n 2, 1) := by decide +kernel
theorem dX4_placeOfStyle_23 : decode cX4_placeOfStyle 23 = .ok (.ireturn, 1) := by decide +kernel
theorem dX4_placeOfStyle_24 : decode cX4_placeOfStyle 24 = .ok (.iinc 2 1, 3) := by decide +kernel
theorem dX4_placeOfStyle_27 : decode cX4_placeOfStyle 27 = .ok (.goto (-25), 3) := by decide +kernel
theorem dX4_placeOfStyle_30 : decode cX4_placeOfStyle 30 = .ok (.iconst 0, 1) := by decide +kernel
theorem dX4_placeOfStyle_31 : decode cX4_placeOfStyle 31 = .ok (.ireturn, 1) := by decide +kernel
set_option maxRecDepth 20000 in
theorem ggX4_isOfStyle_X2_has : GoodIn wsX4_isOfStyle wsX2_has := goodIn_r _ [4, 5, 6, 3, 7] (by decide +kernel) (by decide +kernel)
set_option maxRecDepth 20000 in
theorem gX4_isOfStyle_X2_has : GoodIn wsX4_isOfStyle (va_wsS RX4 44 yX2_has wsX2_has) := goodIn_app (goodIn_of _ (by decide +kernel)) ggX4_isOfStyle_X2_has
theorem dX4_isOfStyle_0 : decode cX4_isOfStyle 0 = .ok (.iload_n 2, 1) := by decide +kernel
theorem dX4_isOfStyle_1 : decode cX4_isOfStyle 1 = .ok (.tableswitch 65 1 3 #[27, 34, 41], 27) := by decide +kernel
theorem dX4_isOfStyle_28 : decode cX4_isOfStyle 28 = .ok (.lload_n 0, 1) := by decide +kernel
theorem dX4_isOfStyle_29 : decode cX4_isOfStyle 29 = .ok (.bipush 72, 2) := by decide +kernel
theorem dX4_isOfStyle_31 : decode cX4_isOfStyle 31 = .ok (.invokestatic 44, 3) := by decide +kernel
theorem dX4_isOfStyle_34 : decode cX4_isOfStyle 34 = .ok (.ireturn, 1) := by decide +kernel
theorem dX4_isOfStyle_35 : decode cX4_isOfStyle 35 = .ok (.lload_n 0, 1) := by decide +kernel
theorem dX4_isOfStyle_36 : decode cX4_isOfStyle 36 = .ok (.bipush 45, 2) := by decide +kernel
theorem dX4_isOfStyle_38 : decode cX4_isOfStyle 38 = .ok (.invokestatic 44, 3) := by decide +kernel
theorem dX4_isOfStyle_41 : decode cX4_isOfStyle 41 = .ok (.ireturn, 1) := by decide +kernel
theorem dX4_isOfStyle_42 : decode cX4_isOfStyle 42 = .ok (.lload_n 0, 1) := by decide +kernel
theorem dX4_isOfStyle_43 : decode cX4_isOfStyle 43 = .ok (.bipush 72, 2) := by decide +kernel
theorem dX4_isOfStyle_45 : decode cX4_isOfStyle 45 = .ok (.invokestatic 44, 3) := by decide +kernel
theorem dX4_isOfStyle_48 : decode cX4_isOfStyle 48 = .ok (.ifCond .ne 16, 3) := by decide +kernel
theorem dX4_isOfStyle_51 : decode cX4_isOfStyle 51 = .ok (.lload_n 0, 1) := by decide +kernel
theorem dX4_isOfStyle_52 : decode cX4_isOfStyle 52 = .ok (.bipush 45, 2) := by decide +kernel
theorem dX4_isOfStyle_54 : decode cX4_isOfStyle 54 = .ok (.invokestatic 44, 3) := by decide +kernel
theorem dX4_isOfStyle_57 : decode cX4_isOfStyle 57 = .ok (.ifCond .ne 7, 3) := by decide +kernel
theorem dX4_isOfStyle_60 : decode cX4_isOfStyle 60 = .ok (.iconst 1, 1) := by decide +kernel
theorem dX4_isOfStyle_61 : decode cX4_isOfStyle 61 = .ok (.goto 4, 3) := by decide +kernel
theorem dX4_isOfStyle_64 : decode cX4_isOfStyle 64 = .ok (.iconst 0, 1) := by decide +kernel
theorem dX4_isOfStyle_65 : decode cX4_isOfStyle 65 = .ok (.ireturn, 1) := by decide +kernel
theorem dX4_isOfStyle_66 : decode cX4_isOfStyle 66 = .ok (.iconst 1, 1) := by decide +kernel
theorem dX4_isOfStyle_67 : decode cX4_isOfStyle 67 = .ok (.ireturn, 1) := by decide +kernel
set_option maxRecDepth 20000 in
theorem ggX4_addGreat_X4_counted : GoodIn wsX4_addGreat wsX4_counted := goodIn_r _ [4, 5, 6, 7, 8, 9, 10, 3, 11] (by decide +kernel) (by decide +kernel)
set_option maxRecDepth 20000 in
theorem gX4_addGreat_X4_counted : GoodIn wsX4_addGreat (va_wsS RX4 48 yX4_counted wsX4_counted) := goodIn_app (goodIn_of _ (by decide +kernel)) ggX4_addGreat_X4_counted
set_option maxRecDepth 20000 in
theorem ggX4_addGreat_X4_add : GoodIn wsX4_addGreat wsX4_add := goodIn_r _ [15, 16, 17, 33, 34] (by decide +kernel) (by decide +kernel)
set_option maxRecDepth 20000 in
theorem gX4_addGreat_X4_add : GoodIn wsX4_addGreat (wsV RX4 52 RX4 yX4_add wsX4_add) := goodIn_app (goodIn_of _ (by decide +kernel)) ggX4_addGreat_X4_add
set_option maxRecDepth 20000 in
theorem ggX4_addGreat_X2_then : GoodIn wsX4_addGreat wsX2_then := goodIn_r _ [8] (by decide +kernel) (by decide +kernel)
set_option maxRecDepth 20000 in
theorem gX4_addGreat_X2_then : GoodIn wsX4_addGreat (va_wsS RX4 56 yX2_then wsX2_then) := goodIn_app (goodIn_of _ (by decide +kernel)) ggX4_addGreat_X2_then
set_option maxRecDepth 20000 in
theorem ggX4_addGreat_X4_addSmalls : GoodIn wsX4_addGreat wsX4_addSmalls := goodIn_r _ [21, 22, 23, 24, 25, 26, 27, 28, 9, 10, 3, 11, 5, 6, 7, 8, 12, 13, 14, 15, 16, 17, 29, 30, 31, 32, 1, 2, 4, 33, 34] (by decide +kernel) (by decide +kernel)
set_option maxRecDepth 20000 in
theorem gX4_addGreat_X4_addSmalls : GoodIn wsX4_addGreat (wsV RX4 19 RX4 yX4_addSmalls wsX4_addSmalls) := goodIn_app (goodIn_of _ (by decide +kernel)) ggX4_addGreat_X4_addSmalls
theorem dX4_addGreat_0 : decode cX4_addGreat 0 = .ok (.lconst 0, 1) := by decide +kernel
theorem dX4_addGreat_1 : decode cX4_addGreat 1 = .ok (.iload_n 1, 1) := by decide +kernel
theorem dX4_addGreat_2 : decode cX4_addGreat 2 = .ok (.sipush 200, 3) := by decide +kernel
theorem dX4_addGreat_5 : decode cX4_addGreat 5 = .ok (.idiv, 1) := by decide +kernel
theorem dX4_addGreat_6 : decode cX4_addGreat 6 = .ok (.bipush 71, 2) := by decide +kernel
theorem dX4_addGreat_8 : decode cX4_addGreat 8 = .ok (.invokestatic 48, 3) := by decide +kernel
theorem dX4_addGreat_11 : decode cX4_addGreat 11 = .ok (.lstore_n 3, 1) := by decide +kernel
theorem dX4_addGreat_12 : decode cX4_addGreat 12 = .ok (.iload_n 2, 1) := by decide +kernel
theorem dX4_addGreat_13 : decode cX4_addGreat 13 = .ok (.ifCond .ne 11, 3) := by decide +kernel
theorem dX4_addGreat_16 : decode cX4_addGreat 16 = .ok (.aload_n 0, 1) := by decide +kernel
theorem dX4_addGreat_17 : decode cX4_addGreat 17 = .ok (.lload_n 3, 1) := by decide +kernel
theorem dX4_addGreat_18 : decode cX4_addGreat 18 = .ok (.invokevirtual 52, 3) := by decide +kernel
theorem dX4_addGreat_21 : decode cX4_addGreat 21 = .ok (.goto 14, 3) := by decide +kernel
theorem dX4_addGreat_24 : decode cX4_addGreat 24 = .ok (.aload_n 0, 1) := by decide +kernel
theorem dX4_addGreat_25 : decode cX4_addGreat 25 = .ok (.lload_n 3, 1) := by decide +kernel
theorem dX4_addGreat_26 : decode cX4_addGreat 26 = .ok (.bipush 38, 2) := by decide +kernel
theorem dX4_addGreat_28 : decode cX4_addGreat 28 = .ok (.invokestatic 56, 3) := by decide +kernel
theorem dX4_addGreat_31 : decode cX4_addGreat 31 = .ok (.iload_n 2, 1) := by decide +kernel
theorem dX4_addGreat_32 : decode cX4_addGreat 32 = .ok (.invokevirtual 19, 3) := by decide +kernel
theorem dX4_addGreat_35 : decode cX4_addGreat 35 = .ok (.return_, 1) := by decide +kernel
set_option maxRecDepth 20000 in
theorem ggX4_addSmalls_X4_unit : GoodIn wsX4_addSmalls wsX4_unit := goodIn_r _ [11] (by decide +kernel) (by decide +kernel)
set_option maxRecDepth 20000 in
theorem gX4_addSmalls_X4_unit : GoodIn wsX4_addSmalls (va_wsS RX4 60 yX4_unit wsX4_unit) := goodIn_app (goodIn_of _ (by decide +kernel)) ggX4_addSmalls_X4_unit
set_option maxRecDepth 20000 in
theorem ggX4_addSmalls_X2_then : GoodIn wsX4_addSmalls wsX2_then := goodIn_r _ [15] (by decide +kernel) (by decide +kernel)
set_option maxRecDepth 20000 in
theorem gX4_addSmalls_X2_then : GoodIn wsX4_addSmalls (va_wsS RX4 56 yX2_then wsX2_then) := goodIn_app (goodIn_of _ (by decide +kernel)) ggX4_addSmalls_X2_then
set_option maxRecDepth 20000 in
theorem ggX4_addSmalls_X4_add : GoodIn wsX4_addSmalls wsX4_add := goodIn_r _ [19, 20, 21, 29, 30] (by decide +kernel) (by decide +kernel)
set_option maxRecDepth 20000 in
theorem gX4_addSmalls_X4_add : GoodIn wsX4_addSmalls (wsV RX4 52 RX4 yX4_add wsX4_add) := goodIn_app (goodIn_of _ (by decide +kernel)) ggX4_addSmalls_X4_add
set_option maxRecDepth 20000 in
theorem ggX4_addSmalls_X4_addWithBase : GoodIn wsX4_addSmalls wsX4_addWithBase := goodIn_r _ [25, 26, 27, 10, 28, 12, 13, 14, 15, 8, 9, 11, 16, 17, 18, 19, 20, 21, 29, 30] (by decide +kernel) (by decide +kernel)
set_option maxRecDepth 20000 in
theorem gX4_addSmalls_X4_addWithBase : GoodIn wsX4_addSmalls (wsV RX4 64 RX4 yX4_addWithBase wsX4_addWithBase) := goodIn_app (goodIn_of _ (by decide +kernel)) ggX4_addSmalls_X4_addWithBase
theorem dX4_addSmalls_0 : decode cX4_addSmalls 0 = .ok (.iload_n 3, 1) := by decide +kernel
theorem dX4_addSmalls_1 : decode cX4_addSmalls 1 = .ok (.iconst 1, 1) := by decide +kernel
theorem dX4_addSmalls_2 : decode cX4_addSmalls 2 = .ok (.if_icmp .lt 10, 3) := by decide +kernel
theorem dX4_addSmalls_5 : decode cX4_addSmalls 5 = .ok (.iload_n 3, 1) := by decide +kernel
theorem dX4_addSmalls_6 : decode cX4_addSmalls 6 = .ok (.sipush 399, 3) := by decide +kernel
theorem dX4_addSmalls_9 : decode cX4_addSmalls 9 = .ok (.if_icmp .le 4, 3) := by decide +kernel
theorem dX4_addSmalls_12 : decode cX4_addSmalls 12 = .ok (.return_, 1) := by decide +kernel
theorem dX4_addSmalls_13 : decode cX4_addSmalls 13 = .ok (.iload_n 3, 1) := by decide +kernel
theorem dX4_addSmalls_14 : decode cX4_addSmalls 14 = .ok (.bipush 19, 2) := by decide +kernel
theorem dX4_addSmalls_16 : decode cX4_addSmalls 16 = .ok (.if_icmp .gt 15, 3) := by decide +kernel
theorem dX4_addSmalls_19 : decode cX4_addSmalls 19 = .ok (.aload_n 0, 1) := by decide +kernel
theorem dX4_addSmalls_20 : decode cX4_addSmalls 20 = .ok (.lload_n 1, 1) := by decide +kernel
theorem dX4_addSmalls_21 : decode cX4_addSmalls 21 = .ok (.iload_n 3, 1) := by decide +kernel
theorem dX4_addSmalls_22 : decode cX4_addSmalls 22 = .ok (.invokestatic 60, 3) := by decide +kernel
theorem dX4_addSmalls_25 : decode cX4_addSmalls 25 = .ok (.invokestatic 56, 3) := by decide +kernel
theorem dX4_addSmalls_28 : decode cX4_addSmalls 28 = .ok (.invokevirtual 52, 3) := by decide +kernel
theorem dX4_addSmalls_31 : decode cX4_addSmalls 31 = .ok (.bipush 20, 2) := by decide +kernel
theorem dX4_addSmalls_33 : decode cX4_addSmalls 33 = .ok (.iload_n 3, 1) := by decide +kernel
theorem dX4_addSmalls_34 : decode cX4_addSmalls 34 = .ok (.bipush 10, 2) := by decide +kernel
theorem dX4_addSmalls_36 : decode cX4_addSmalls 36 = .ok (.isub, 1) := by decide +kernel
theorem dX4_addSmalls_37 : decode cX4_addSmalls 37 = .ok (.bipush 10, 2) := by decide +kernel
theorem dX4_addSmalls_39 : decode cX4_addSmalls 39 = .ok (.idiv, 1) := by decide +kernel
theorem dX4_addSmalls_40 : decode cX4_addSmalls 40 = .ok (.bipush 10, 2) := by decide +kernel
theorem dX4_addSmalls_42 : decode cX4_addSmalls 42 = .ok (.imul, 1) := by decide +kernel
theorem dX4_addSmalls_43 : decode cX4_addSmalls 43 = .ok (.invokestatic 23, 3) := by decide +kernel
theorem dX4_addSmalls_46 : decode cX4_addSmalls 46 = .ok (.istore 4, 2) := by decide +kernel
theorem dX4_addSmalls_48 : decode cX4_addSmalls 48 = .ok (.sipush 380, 3) := by decide +kernel
theorem dX4_addSmalls_51 : decode cX4_addSmalls 51 = .ok (.iload_n 3, 1) := by decide +kernel
theorem dX4_addSmalls_52 : decode cX4_addSmalls 52 = .ok (.bipush 19, 2) := by decide +kernel
theorem dX4_addSmalls_54 : decode cX4_addSmalls 54 = .ok (.iadd, 1) := by decide +kernel
theorem dX4_addSmalls_55 : decode cX4_addSmalls 55 = .ok (.invokestatic 29, 3) := by decide +kernel
theorem dX4_addSmalls_58 : decode cX4_addSmalls 58 = .ok (.istore 5, 2) := by decide +kernel
theorem dX4_addSmalls_60 : decode cX4_addSmalls 60 = .ok (.iload 4, 2) := by decide +kernel
theorem dX4_addSmalls_62 : decode cX4_addSmalls 62 = .ok (.istore 6, 2) := by decide +kernel
theorem dX4_addSmalls_64 : decode cX4_addSmalls 64 = .ok (.iload 6, 2) := by decide +kernel
theorem dX4_addSmalls_66 : decode cX4_addSmalls 66 = .ok (.iload 5, 2) := by decide +kernel
theorem dX4_addSmalls_68 : decode cX4_addSmalls 68 = .ok (.if_icmp .gt 20, 3) := by decide +kernel
theorem dX4_addSmalls_71 : decode cX4_addSmalls 71 = .ok (.aload_n 0, 1) := by decide +kernel
theorem dX4_addSmalls_72 : decode cX4_addSmalls 72 = .ok (.lload_n 1, 1) := by decide +kernel
theorem dX4_addSmalls_73 : decode cX4_addSmalls 73 = .ok (.iload 6, 2) := by decide +kernel
theorem dX4_addSmalls_75 : decode cX4_addSmalls 75 = .ok (.iload_n 3, 1) := by decide +kernel
theorem dX4_addSmalls_76 : decode cX4_addSmalls 76 = .ok (.iload 6, 2) := by decide +kernel
theorem dX4_addSmalls_78 : decode cX4_addSmalls 78 = .ok (.isub, 1) := by decide +kernel
theorem dX4_addSmalls_79 : decode cX4_addSmalls 79 = .ok (.invokevirtual 64, 3) := by decide +kernel
theorem dX4_addSmalls_82 : decode cX4_addSmalls 82 = .ok (.iinc 6 10, 3) := by decide +kernel
theorem dX4_addSmalls_85 : decode cX4_addSmalls 85 = .ok (.goto (-21), 3) := by decide +kernel
theorem dX4_addSmalls_88 : decode cX4_addSmalls 88 = .ok (.return_, 1) := by decide +kernel
set_option maxRecDepth 20000 in
theorem ggX4_addWithBase_X4_counted : GoodIn wsX4_addWithBase wsX4_counted := goodIn_r _ [4, 5, 6, 7, 8, 9, 10, 3, 11] (by decide +kernel) (by decide +kernel)
set_option maxRecDepth 20000 in
theorem gX4_addWithBase_X4_counted : GoodIn wsX4_addWithBase (va_wsS RX4 48 yX4_counted wsX4_counted) := goodIn_app (goodIn_of _ (by decide +kernel)) ggX4_addWithBase_X4_counted
set_option maxRecDepth 20000 in
theorem ggX4_addWithBase_X4_add : GoodIn wsX4_addWithBase wsX4_add := goodIn_r _ [15, 16, 17, 18, 19] (by decide +kernel) (by decide +kernel)
set_option maxRecDepth 20000 in
theorem gX4_addWithBase_X4_add : GoodIn wsX4_addWithBase (wsV RX4 52 RX4 yX4_add wsX4_add) := goodIn_app (goodIn_of _ (by decide +kernel)) ggX4_addWithBase_X4_add
set_option maxRecDepth 20000 in
theorem ggX4_addWithBase_X2_then : GoodIn wsX4_addWithBase wsX2_then := goodIn_r _ [8] (by decide +kernel) (by decide +kernel)
set_option maxRecDepth 20000 in
theorem gX4_addWithBase_X2_then : GoodIn wsX4_addWithBase (va_wsS RX4 56 yX2_then wsX2_then) := goodIn_app (goodIn_of _ (by decide +kernel)) ggX4_addWithBase_X2_then
set_option maxRecDepth 20000 in
theorem ggX4_addWithBase_X4_unit : GoodIn wsX4_addWithBase wsX4_unit := goodIn_r _ [11] (by decide +kernel) (by decide +kernel)
set_option maxRecDepth 20000 in
theorem gX4_addWithBase_X4_unit : GoodIn wsX4_addWithBase (va_wsS RX4 60 yX4_unit wsX4_unit) := goodIn_app (goodIn_of _ (by decide +kernel)) ggX4_addWithBase_X4_unit
theorem dX4_addWithBase_0 : decode cX4_addWithBase 0 = .ok (.iload_n 3, 1) := by decide +kernel
theorem dX4_addWithBase_1 : decode cX4_addWithBase 1 = .ok (.bipush 10, 2) := by decide +kernel
theorem dX4_addWithBase_3 : decode cX4_addWithBase 3 = .ok (.idiv, 1) := by decide +kernel
theorem dX4_addWithBase_4 : decode cX4_addWithBase 4 = .ok (.istore 5, 2) := by decide +kernel
theorem dX4_addWithBase_6 : decode cX4_addWithBase 6 = .ok (.iload 4, 2) := by decide +kernel
theorem dX4_addWithBase_8 : decode cX4_addWithBase 8 = .ok (.ifCond .ne 18, 3) := by decide +kernel
theorem dX4_addWithBase_11 : decode cX4_addWithBase 11 = .ok (.aload_n 0, 1) := by decide +kernel
theorem dX4_addWithBase_12 : decode cX4_addWithBase 12 = .ok (.lload_n 1, 1) := by decide +kernel
theorem dX4_addWithBase_13 : decode cX4_addWithBase 13 = .ok (.iload 5, 2) := by decide +kernel
theorem dX4_addWithBase_15 : decode cX4_addWithBase 15 = .ok (.bipush 83, 2) := by decide +kernel
theorem dX4_addWithBase_17 : decode cX4_addWithBase 17 = .ok (.invokestatic 48, 3) := by decide +kernel
theorem dX4_addWithBase_20 : decode cX4_addWithBase 20 = .ok (.invokevirtual 52, 3) := by decide +kernel
theorem dX4_addWithBase_23 : decode cX4_addWithBase 23 = .ok (.goto 91, 3) := by decide +kernel
theorem dX4_addWithBase_26 : decode cX4_addWithBase 26 = .ok (.iload 4, 2) := by decide +kernel
theorem dX4_addWithBase_28 : decode cX4_addWithBase 28 = .ok (.iconst 1, 1) := by decide +kernel
theorem dX4_addWithBase_29 : decode cX4_addWithBase 29 = .ok (.if_icmp .lt 42, 3) := by decide +kernel
theorem dX4_addWithBase_32 : decode cX4_addWithBase 32 = .ok (.iload 4, 2) := by decide +kernel
theorem dX4_addWithBase_34 : decode cX4_addWithBase 34 = .ok (.bipush 19, 2) := by decide +kernel
theorem dX4_addWithBase_36 : decode cX4_addWithBase 36 = .ok (.if_icmp .gt 35, 3) := by decide +kernel
theorem dX4_addWithBase_39 : decode cX4_addWithBase 39 = .ok (.lload_n 1, 1) := by decide +kernel
theorem dX4_addWithBase_40 : decode cX4_addWithBase 40 = .ok (.iload 5, 2) := by decide +kernel
theorem dX4_addWithBase_42 : decode cX4_addWithBase 42 = .ok (.bipush 83, 2) := by decide +kernel
theorem dX4_addWithBase_44 : decode cX4_addWithBase 44 = .ok (.invokestatic 48, 3) := by decide +kernel
theorem dX4_addWithBase_47 : decode cX4_addWithBase 47 = .ok (.bipush 43, 2) := by decide +kernel
theorem dX4_addWithBase_49 : decode cX4_addWithBase 49 = .ok (.invokestatic 56, 3) := by decide +kernel
theorem dX4_addWithBase_52 : decode cX4_addWithBase 52 = .ok (.lstore 6, 2) := by decide +kernel
theorem dX4_addWithBase_54 : decode cX4_addWithBase 54 = .ok (.aload_n 0, 1) := by decide +kernel
theorem dX4_addWithBase_55 : decode cX4_addWithBase 55 = .ok (.lload 6, 2) := by decide +kernel
theorem dX4_addWithBase_57 : decode cX4_addWithBase 57 = .ok (.iload 4, 2) := by decide +kernel
theorem dX4_addWithBase_59 : decode cX4_addWithBase 59 = .ok (.invokestatic 60, 3) := by decide +kernel
theorem dX4_addWithBase_62 : decode cX4_addWithBase 62 = .ok (.invokestatic 56, 3) := by decide +kernel
theorem dX4_addWithBase_65 : decode cX4_addWithBase 65 = .ok (.invokevirtual 52, 3) := by decide +kernel
theorem dX4_addWithBase_68 : decode cX4_addWithBase 68 = .ok (.goto 46, 3) := by decide +kernel
theorem dX4_addWithBase_71 : decode cX4_addWithBase 71 = .ok (.iload 4, 2) := by decide +kernel
theorem dX4_addWithBase_73 : decode cX4_addWithBase 73 = .ok (.bipush (-19), 2) := by decide +kernel
theorem dX4_addWithBase_75 : decode cX4_addWithBase 75 = .ok (.if_icmp .lt 39, 3) := by decide +kernel
theorem dX4_addWithBase_78 : decode cX4_addWithBase 78 = .ok (.iload 4, 2) := by decide +kernel
theorem dX4_addWithBase_80 : decode cX4_addWithBase 80 = .ok (.iconst (-1), 1) := by decide +kernel
theorem dX4_addWithBase_81 : decode cX4_addWithBase 81 = .ok (.if_icmp .gt 33, 3) := by decide +kernel
theorem dX4_addWithBase_84 : decode cX4_addWithBase 84 = .ok (.lload_n 1, 1) := by decide +kernel
theorem dX4_addWithBase_85 : decode cX4_addWithBase 85 = .ok (.iload 4, 2) := by decide +kernel
theorem dX4_addWithBase_87 : decode cX4_addWithBase 87 = .ok (.ineg, 1) := by decide +kernel
theorem dX4_addWithBase_88 : decode cX4_addWithBase 88 = .ok (.invokestatic 60, 3) := by decide +kernel
theorem dX4_addWithBase_91 : decode cX4_addWithBase 91 = .ok (.invokestatic 56, 3) := by decide +kernel
theorem dX4_addWithBase_94 : decode cX4_addWithBase 94 = .ok (.bipush 45, 2) := by decide +kernel
theorem dX4_addWithBase_96 : decode cX4_addWithBase 96 = .ok (.invokestatic 56, 3) := by decide +kernel
theorem dX4_addWithBase_99 : decode cX4_addWithBase 99 = .ok (.lstore 6, 2) := by decide +kernel
theorem dX4_addWithBase_101 : decode cX4_addWithBase 101 = .ok (.aload_n 0, 1) := by decide +kernel
theorem dX4_addWithBase_102 : decode cX4_addWithBase 102 = .ok (.lload 6, 2) := by decide +kernel
theorem dX4_addWithBase_104 : decode cX4_addWithBase 104 = .ok (.iload 5, 2) := by decide +kernel
theorem dX4_addWithBase_106 : decode cX4_addWithBase 106 = .ok (.bipush 83, 2) := by decide +kernel
theorem dX4_addWithBase_108 : decode cX4_addWithBase 108 = .ok (.invokestatic 48, 3) := by decide +kernel
theorem dX4_addWithBase_111 : decode cX4_addWithBase 111 = .ok (.invokevirtual 52, 3) := by decide +kernel
theorem dX4_addWithBase_114 : decode cX4_addWithBase 114 = .ok (.return_, 1) := by decide +kernel
set_option maxRecDepth 20000 in
theorem ggX4_counted_X2_then : GoodIn wsX4_counted wsX2_then := goodIn_r _ [4] (by decide +kernel) (by decide +kernel)
set_option maxRecDepth 20000 in
theorem gX4_counted_X2_then : GoodIn wsX4_counted (va_wsS RX4 56 yX2_then wsX2_then) := goodIn_app (goodIn_of _ (by decide +kernel)) ggX4_counted_X2_then
set_option maxRecDepth 20000 in
theorem ggX4_counted_X4_unit : GoodIn wsX4_counted wsX4_unit := goodIn_r _ [8] (by decide +kernel) (by decide +kernel)
set_option maxRecDepth 20000 in
theorem gX4_counted_X4_unit : GoodIn wsX4_counted (va_wsS RX4 60 yX4_unit wsX4_unit) := goodIn_app (goodIn_of _ (by decide +kernel)) ggX4_counted_X4_unit
theorem dX4_counted_0 : decode cX4_counted 0 = .ok (.lload_n 0, 1) := by decide +kernel
theorem dX4_counted_1 : decode cX4_counted 1 = .ok (.lstore 4, 2) := by decide +kernel
theorem dX4_counted_3 : decode cX4_counted 3 = .ok (.iload_n 2, 1) := by decide +kernel
theorem dX4_counted_4 : decode cX4_counted 4 = .ok (.iconst 2, 1) := by decide +kernel
theorem dX4_counted_5 : decode cX4_counted 5 = .ok (.irem, 1) := by decide +kernel
theorem dX4_counted_6 : decode cX4_counted 6 = .ok (.iconst 1, 1) := by decide +kernel
theorem dX4_counted_7 : decode cX4_counted 7 = .ok (.if_icmp .ne 12, 3) := by decide +kernel
theorem dX4_counted_10 : decode cX4_counted 10 = .ok (.lload 4, 2) := by decide +kernel
theorem dX4_counted_12 : decode cX4_counted 12 = .ok (.bipush 72, 2) := by decide +kernel
theorem dX4_counted_14 : decode cX4_counted 14 = .ok (.invokestatic 56, 3) := by decide +kernel
theorem dX4_counted_17 : decode cX4_counted 17 = .ok (.lstore 4, 2) := by decide +kernel
theorem dX4_counted_19 : decode cX4_counted 19 = .ok (.iload_n 2, 1) := by decide +kernel
theorem dX4_counted_20 : decode cX4_counted 20 = .ok (.iconst 2, 1) := by decide +kernel
theorem dX4_counted_21 : decode cX4_counted 21 = .ok (.if_icmp .le 18, 3) := by decide +kernel
theorem dX4_counted_24 : decode cX4_counted 24 = .ok (.lload 4, 2) := by decide +kernel
theorem dX4_counted_26 : decode cX4_counted 26 = .ok (.iload_n 2, 1) := by decide +kernel
theorem dX4_counted_27 : decode cX4_counted 27 = .ok (.iconst 1, 1) := by decide +kernel
theorem dX4_counted_28 : decode cX4_counted 28 = .ok (.iadd, 1) := by decide +kernel
theorem dX4_counted_29 : decode cX4_counted 29 = .ok (.iconst 2, 1) := by decide +kernel
theorem dX4_counted_30 : decode cX4_counted 30 = .ok (.idiv, 1) := by decide +kernel
theorem dX4_counted_31 : decode cX4_counted 31 = .ok (.invokestatic 60, 3) := by decide +kernel
theorem dX4_counted_34 : decode cX4_counted 34 = .ok (.invokestatic 56, 3) := by decide +kernel
theorem dX4_counted_37 : decode cX4_counted 37 = .ok (.lstore 4, 2) := by decide +kernel
theorem dX4_counted_39 : decode cX4_counted 39 = .ok (.lload 4, 2) := by decide +kernel
theorem dX4_counted_41 : decode cX4_counted 41 = .ok (.iload_n 3, 1) := by decide +kernel
theorem dX4_counted_42 : decode cX4_counted 42 = .ok (.invokestatic 56, 3) := by decide +kernel
theorem dX4_counted_45 : decode cX4_counted 45 = .ok (.lreturn, 1) := by decide +kernel
theorem dX4_unit_0 : decode cX4_unit 0 = .ok (.bipush 97, 2) := by decide +kernel
theorem dX4_unit_2 : decode cX4_unit 2 = .ok (.iload_n 0, 1) := by decide +kernel
theorem dX4_unit_3 : decode cX4_unit 3 = .ok (.iadd, 1) := by decide +kernel
theorem dX4_unit_4 : decode cX4_unit 4 = .ok (.iconst 1, 1) := by decide +kernel
theorem dX4_unit_5 : decode cX4_unit 5 = .ok (.isub, 1) := by decide +kernel
theorem dX4_unit_6 : decode cX4_unit 6 = .ok (.ireturn, 1) := by decide +kernel
theorem dX4_add_0 : decode cX4_add 0 = .ok (.aload_n 0, 1) := by decide +kernel
theorem dX4_add_1 : decode cX4_add 1 = .ok (.getfield 13, 3) := by decide +kernel
theorem dX4_add_4 : decode cX4_add 4 = .ok (.ifCond .lt 12, 3) := by decide +kernel
theorem dX4_add_7 : decode cX4_add 7 = .ok (.aload_n 0, 1) := by decide +kernel
theorem dX4_add_8 : decode cX4_add 8 = .ok (.getfield 13, 3) := by decide +kernel
theorem dX4_add_11 : decode cX4_add 11 = .ok (.bipush 16, 2) := by decide +kernel
theorem dX4_add_13 : decode cX4_add 13 = .ok (.if_icmp .lt 4, 3) := by decide +kernel
theorem dX4_add_16 : decode cX4_add 16 = .ok (.return_, 1) := by decide +kernel
theorem dX4_add_17 : decode cX4_add 17 = .ok (.aload_n 0, 1) := by decide +kernel
theorem dX4_add_18 : decode cX4_add 18 = .ok (.getfield 13, 3) := by decide +kernel
theorem dX4_add_21 : decode cX4_add 21 = .ok (.istore_n 3, 1) := by decide +kernel
theorem dX4_add_22 : decode cX4_add 22 = .ok (.iload_n 3, 1) := by decide +kernel
theorem dX4_add_23 : decode cX4_add 23 = .ok (.ifCond .le 36, 3) := by decide +kernel
theorem dX4_add_26 : decode cX4_add 26 = .ok (.aload_n 0, 1) := by decide +kernel
theorem dX4_add_27 : decode cX4_add 27 = .ok (.getfield 9, 3) := by decide +kernel
theorem dX4_add_30 : decode cX4_add 30 = .ok (.iload_n 3, 1) := by decide +kernel
theorem dX4_add_31 : decode cX4_add 31 = .ok (.iconst 1, 1) := by decide +kernel
theorem dX4_add_32 : decode cX4_add 32 = .ok (.isub, 1) := by decide +kernel
theorem dX4_add_33 : decode cX4_add 33 = .ok (.laload, 1) := by decide +kernel
theorem dX4_add_34 : decode cX4_add 34 = .ok (.lload_n 1, 1) := by decide +kernel
theorem dX4_add_35 : decode cX4_add 35 = .ok (.lcmp, 1) := by decide +kernel
theorem dX4_add_36 : decode cX4_add 36 = .ok (.ifCond .le 23, 3) := by decide +kernel
theorem dX4_add_39 : decode cX4_add 39 = .ok (.aload_n 0, 1) := by decide +kernel
theorem dX4_add_40 : decode cX4_add 40 = .ok (.getfield 9, 3) := by decide +kernel
theorem dX4_add_43 : decode cX4_add 43 = .ok (.iload_n 3, 1) := by decide +kernel
theorem dX4_add_44 : decode cX4_add 44 = .ok (.aload_n 0, 1) := by decide +kernel
theorem dX4_add_45 : decode cX4_add 45 = .ok (.getfield 9, 3) := by decide +kernel
theorem dX4_add_48 : decode cX4_add 48 = .ok (.iload_n 3, 1) := by decide +kernel
theorem dX4_add_49 : decode cX4_add 49 = .ok (.iconst 1, 1) := by decide +kernel
theorem dX4_add_50 : decode cX4_add 50 = .ok (.isub, 1) := by decide +kernel
theorem dX4_add_51 : decode cX4_add 51 = .ok (.laload, 1) := by decide +kernel
theorem dX4_add_52 : decode cX4_add 52 = .ok (.lastore, 1) := by decide +kernel
theorem dX4_add_53 : decode cX4_add 53 = .ok (.iinc 3 (-1), 3) := by decide +kernel
theorem dX4_add_56 : decode cX4_add 56 = .ok (.goto (-34), 3) := by decide +kernel
theorem dX4_add_59 : decode cX4_add 59 = .ok (.aload_n 0, 1) := by decide +kernel
theorem dX4_add_60 : decode cX4_add 60 = .ok (.getfield 9, 3) := by decide +kernel
theorem dX4_add_63 : decode cX4_add 63 = .ok (.iload_n 3, 1) := by decide +kernel
theorem dX4_add_64 : decode cX4_add 64 = .ok (.lload_n 1, 1) := by decide +kernel
theorem dX4_add_65 : decode cX4_add 65 = .ok (.lastore, 1) := by decide +kernel
theorem dX4_add_66 : decode cX4_add 66 = .ok (.aload_n 0, 1) := by decide +kernel
theorem dX4_add_67 : decode cX4_add 67 = .ok (.dup, 1) := by decide +kernel
theorem dX4_add_68 : decode cX4_add 68 = .ok (.getfield 13, 3) := by decide +kernel
theorem dX4_add_71 : decode cX4_add 71 = .ok (.iconst 1, 1) := by decide +kernel
theorem dX4_add_72 : decode cX4_add 72 = .ok (.iadd, 1) := by decide +kernel
theorem dX4_add_73 : decode cX4_add 73 = .ok (.putfield 13, 3) := by decide +kernel
theorem dX4_add_76 : decode cX4_add 76 = .ok (.return_, 1) := by decide +kernel
set_option maxRecDepth 20000 in
theorem ggX5_init_X3_init : GoodIn wsX5_init wsX3_init := goodIn_r _ [25, 26, 2, 3, 27, 28, 29, 30, 31, 32, 33, 52, 53, 54, 55, 56] (by decide +kernel) (by decide +kernel)
set_option maxRecDepth 20000 in
theorem gX5_init_X3_init : GoodIn wsX5_init (wsX3_init) := ggX5_init_X3_init
set_option maxRecDepth 20000 in
theorem ggX5_init_X1_init : GoodIn wsX5_init wsX1_init := goodIn_r _ [36, 37, 2, 3, 38, 39, 40, 41, 5, 6, 42, 24, 25, 26, 27, 28, 29, 30, 31, 32, 33, 63, 64, 65, 52, 53, 54, 55, 56] (by decide +kernel) (by decide +kernel)
set_option maxRecDepth 20000 in
theorem gX5_init_X1_init : GoodIn wsX5_init (wsX1_init) := ggX5_init_X1_init
set_option maxRecDepth 20000 in
theorem ggX5_init_X4_init : GoodIn wsX5_init wsX4_init := goodIn_r _ [44, 45, 2, 3, 46, 47, 48, 66, 67] (by decide +kernel) (by decide +kernel)
set_option maxRecDepth 20000 in
theorem gX5_init_X4_init_n33 : GoodIn wsX5_init (wsX4_init) := ggX5_init_X4_init
set_option maxRecDepth 20000 in
theorem ggX5_init_X0_init : GoodIn wsX5_init wsX0_init := goodIn_r _ [50, 51, 2, 3] (by decide +kernel) (by decide +kernel)
set_option maxRecDepth 20000 in
theorem gX5_init_X0_init_n40 : GoodIn wsX5_init (wsX0_init) := ggX5_init_X0_init
theorem dX5_init_0 : decode cX5_init 0 = .ok (.aload_n 0, 1) := by decide +kernel
theorem dX5_init_1 : decode cX5_init 1 = .ok (.invokespecial 1, 3) := by decide +kernel
theorem dX5_init_4 : decode cX5_init 4 = .ok (.aload_n 0, 1) := by decide +kernel
theorem dX5_init_5 : decode cX5_init 5 = .ok (.new 7, 3) := by decide +kernel
theorem dX5_init_8 : decode cX5_init 8 = .ok (.dup, 1) := by decide +kernel
theorem dX5_init_9 : decode cX5_init 9 = .ok (.invokespecial 9, 3) := by decide +kernel
theorem dX5_init_12 : decode cX5_init 12 = .ok (.putfield 10, 3) := by decide +kernel
theorem dX5_init_15 : decode cX5_init 15 = .ok (.aload_n 0, 1) := by decide +kernel
theorem dX5_init_16 : decode cX5_init 16 = .ok (.new 16, 3) := by decide +kernel
theorem dX5_init_19 : decode cX5_init 19 = .ok (.dup, 1) := by decide +kernel
theorem dX5_init_20 : decode cX5_init 20 = .ok (.invokespecial 18, 3) := by decide +kernel
theorem dX5_init_23 : decode cX5_init 23 = .ok (.putfield 19, 3) := by decide +kernel
theorem dX5_init_26 : decode cX5_init 26 = .ok (.aload_n 0, 1) := by decide +kernel
theorem dX5_init_27 : decode cX5_init 27 = .ok (.bipush 20, 2) := by decide +kernel
theorem dX5_init_29 : decode cX5_init 29 = .ok (.newarray .char, 2) := by decide +kernel
theorem dX5_init_31 : decode cX5_init 31 = .ok (.putfield 23, 3) := by decide +kernel
theorem dX5_init_34 : decode cX5_init 34 = .ok (.aload_n 0, 1) := by decide +kernel
theorem dX5_init_35 : decode cX5_init 35 = .ok (.iconst 0, 1) := by decide +kernel
theorem dX5_init_36 : decode cX5_init 36 = .ok (.putfield 27, 3) := by decide +kernel
theorem dX5_init_39 : decode cX5_init 39 = .ok (.aload_n 0, 1) := by decide +kernel
theorem dX5_init_40 : decode cX5_init 40 = .ok (.new 31, 3) := by decide +kernel
theorem dX5_init_43 : decode cX5_init 43 = .ok (.dup, 1) := by decide +kernel
theorem dX5_init_44 : decode cX5_init 44 = .ok (.invokespecial 33, 3) := by decide +kernel
theorem dX5_init_47 : decode cX5_init 47 = .ok (.putfield 34, 3) := by decide +kernel
theorem dX5_init_50 : decode cX5_init 50 = .ok (.aload_n 0, 1) := by decide +kernel
theorem dX5_init_51 : decode cX5_init 51 = .ok (.new 38, 3) := by decide +kernel
theorem dX5_init_54 : decode cX5_init 54 = .ok (.dup, 1) := by decide +kernel
theorem dX5_init_55 : decode cX5_init 55 = .ok (.invokespecial 40, 3) := by decide +kernel
theorem dX5_init_58 : decode cX5_init 58 = .ok (.putfield 41, 3) := by decide +kernel
theorem dX5_init_61 : decode cX5_init 61 = .ok (.return_, 1) := by decide +kernel
set_option maxRecDepth 20000 in
theorem ggX5_learn_X5_putWord : GoodIn wsX5_learn wsX5_putWord := goodIn_r _ [5, 6, 7, 8, 9, 10, 4, 11, 12, 13, 14, 15, 16, 17, 18, 19, 20, 21, 22, 23, 24, 25, 26, 27, 28, 29, 30, 31, 32, 33, 34, 35, 36, 37, 38, 39, 40, 41, 42, 43, 44, 45, 46, 47, 48, 49, 50, 51, 52, 53, 54] (by decide +kernel) (by decide +kernel)
set_option maxRecDepth 20000 in
theorem gX5_learn_X5_putWord : GoodIn wsX5_learn (wsV RX5 45 RX5 yX5_putWord wsX5_putWord) := goodIn_app (goodIn_of _ (by decide +kernel)) ggX5_learn_X5_putWord
theorem dX5_learn_0 : decode cX5_learn 0 = .ok (.aload_n 0, 1) := by decide +kernel
theorem dX5_learn_1 : decode cX5_learn 1 = .ok (.iload_n 1, 1) := by decide +kernel
theorem dX5_learn_2 : decode cX5_learn 2 = .ok (.iload_n 2, 1) := by decide +kernel
theorem dX5_learn_3 : decode cX5_learn 3 = .ok (.iconst 1, 1) := by decide +kernel
theorem dX5_learn_4 : decode cX5_learn 4 = .ok (.invokevirtual 45, 3) := by decide +kernel
theorem dX5_learn_7 : decode cX5_learn 7 = .ok (.ireturn, 1) := by decide +kernel
set_option maxRecDepth 20000 in
theorem ggX5_unlearn_X5_putWord : GoodIn wsX5_unlearn wsX5_putWord := goodIn_r _ [5, 6, 7, 8, 9, 10, 4, 11, 12, 13, 14, 15, 16, 17, 18, 19, 20, 21, 22, 23, 24, 25, 26, 27, 28, 29, 30, 31, 32, 33, 34, 35, 36, 37, 38, 39, 40, 41, 42, 43, 44, 45, 46, 47, 48, 49, 50, 51, 52, 53, 54] (by decide +kernel) (by decide +kernel)
set_option maxRecDepth 20000 in
theorem gX5_unlearn_X5_putWord : GoodIn wsX5_unlearn (wsV RX5 45 RX5 yX5_putWord wsX5_putWord) := goodIn_app (goodIn_of _ (by decide +kernel)) ggX5_unlearn_X5_putWord
theorem dX5_unlearn_0 : decode cX5_unlearn 0 = .ok (.aload_n 0, 1) := by decide +kernel
theorem dX5_unlearn_1 : decode cX5_unlearn 1 = .ok (.iload_n 1, 1) := by decide +kernel
theorem dX5_unlearn_2 : decode cX5_unlearn 2 = .ok (.iload_n 2, 1) := by decide +kernel
theorem dX5_unlearn_3 : decode cX5_unlearn 3 = .ok (.iconst 0, 1) := by decide +kernel
theorem dX5_unlearn_4 : decode cX5_unlearn 4 = .ok (.invokevirtual 45, 3) := by decide +kernel
theorem dX5_unlearn_7 : decode cX5_unlearn 7 = .ok (.ireturn, 1) := by decide +kernel
set_option maxRecDepth 20000 in
theorem ggX5_attend_X5_isHearer : GoodIn wsX5_attend wsX5_isHearer := goodIn_r _ [7] (by decide +kernel) (by decide +kernel)
set_option maxRecDepth 20000 in
theorem gX5_attend_X5_isHearer : GoodIn wsX5_attend (va_wsS RX5 49 yX5_isHearer wsX5_isHearer) := goodIn_app (goodIn_of _ (by decide +kernel)) ggX5_attend_X5_isHearer
set_option maxRecDepth 20000 in
theorem ggX5_attend_X1_record : GoodIn wsX5_attend wsX1_record := goodIn_r _ [12, 13, 14, 15, 16, 17, 18, 19, 20, 21, 22, 23, 24, 25, 26, 27, 28, 29, 30, 31, 32, 33, 45, 46, 47, 40, 41, 42, 43, 44] (by decide +kernel) (by decide +kernel)
set_option maxRecDepth 20000 in
theorem gX5_attend_X1_record : GoodIn wsX5_attend (wsV RX5 53 RX1 yX1_record wsX1_record) := goodIn_app (goodIn_of _ (by decide +kernel)) ggX5_attend_X1_record
theorem dX5_attend_0 : decode cX5_attend 0 = .ok (.iload_n 1, 1) := by decide +kernel
theorem dX5_attend_1 : decode cX5_attend 1 = .ok (.invokestatic 49, 3) := by decide +kernel
theorem dX5_attend_4 : decode cX5_attend 4 = .ok (.ifCond .ne 5, 3) := by decide +kernel
theorem dX5_attend_7 : decode cX5_attend 7 = .ok (.iconst (-1), 1) := by decide +kernel
theorem dX5_attend_8 : decode cX5_attend 8 = .ok (.ireturn, 1) := by decide +kernel
theorem dX5_attend_9 : decode cX5_attend 9 = .ok (.iload_n 2, 1) := by decide +kernel
theorem dX5_attend_10 : decode cX5_attend 10 = .ok (.iconst 1, 1) := by decide +kernel
theorem dX5_attend_11 : decode cX5_attend 11 = .ok (.if_icmp .lt 9, 3) := by decide +kernel
theorem dX5_attend_14 : decode cX5_attend 14 = .ok (.iload_n 2, 1) := by decide +kernel
theorem dX5_attend_15 : decode cX5_attend 15 = .ok (.bipush 12, 2) := by decide +kernel
theorem dX5_attend_17 : decode cX5_attend 17 = .ok (.if_icmp .le 6, 3) := by decide +kernel
theorem dX5_attend_20 : decode cX5_attend 20 = .ok (.bipush (-2), 2) := by decide +kernel
theorem dX5_attend_22 : decode cX5_attend 22 = .ok (.ireturn, 1) := by decide +kernel
theorem dX5_attend_23 : decode cX5_attend 23 = .ok (.aload_n 0, 1) := by decide +kernel
theorem dX5_attend_24 : decode cX5_attend 24 = .ok (.getfield 19, 3) := by decide +kernel
theorem dX5_attend_27 : decode cX5_attend 27 = .ok (.aload_n 0, 1) := by decide +kernel
theorem dX5_attend_28 : decode cX5_attend 28 = .ok (.getfield 10, 3) := by decide +kernel
theorem dX5_attend_31 : decode cX5_attend 31 = .ok (.invokevirtual 53, 3) := by decide +kernel
theorem dX5_attend_34 : decode cX5_attend 34 = .ok (.aload_n 0, 1) := by decide +kernel
theorem dX5_attend_35 : decode cX5_attend 35 = .ok (.getfield 10, 3) := by decide +kernel
theorem dX5_attend_38 : decode cX5_attend 38 = .ok (.getfield 57, 3) := by decide +kernel
theorem dX5_attend_41 : decode cX5_attend 41 = .ok (.iload_n 1, 1) := by decide +kernel
theorem dX5_attend_42 : decode cX5_attend 42 = .ok (.aaload, 1) := by decide +kernel
theorem dX5_attend_43 : decode cX5_attend 43 = .ok (.astore_n 3, 1) := by decide +kernel
theorem dX5_attend_44 : decode cX5_attend 44 = .ok (.aload_n 3, 1) := by decide +kernel
theorem dX5_attend_45 : decode cX5_attend 45 = .ok (.bipush 6, 2) := by decide +kernel
theorem dX5_attend_47 : decode cX5_attend 47 = .ok (.iaload, 1) := by decide +kernel
theorem dX5_attend_48 : decode cX5_attend 48 = .ok (.istore 4, 2) := by decide +kernel
theorem dX5_attend_50 : decode cX5_attend 50 = .ok (.aload_n 3, 1) := by decide +kernel
theorem dX5_attend_51 : decode cX5_attend 51 = .ok (.bipush 6, 2) := by decide +kernel
theorem dX5_attend_53 : decode cX5_attend 53 = .ok (.iload_n 2, 1) := by decide +kernel
theorem dX5_attend_54 : decode cX5_attend 54 = .ok (.iastore, 1) := by decide +kernel
theorem dX5_attend_55 : decode cX5_attend 55 = .ok (.iload 4, 2) := by decide +kernel
theorem dX5_attend_57 : decode cX5_attend 57 = .ok (.ireturn, 1) := by decide +kernel
set_option maxRecDepth 20000 in
theorem ggX5_set_X1_record : GoodIn wsX5_set wsX1_record := goodIn_r _ [8, 9, 10, 11, 12, 13, 14, 15, 16, 17, 18, 19, 20, 21, 22, 23, 24, 25, 26, 27, 28, 29, 41, 42, 43, 36, 37, 38, 39, 40] (by decide +kernel) (by decide +kernel)
set_option maxRecDepth 20000 in
theorem gX5_set_X1_record : GoodIn wsX5_set (wsV RX5 53 RX1 yX1_record wsX1_record) := goodIn_app (goodIn_of _ (by decide +kernel)) ggX5_set_X1_record
theorem dX5_set_0 : decode cX5_set 0 = .ok (.iload_n 1, 1) := by decide +kernel
theorem dX5_set_1 : decode cX5_set 1 = .ok (.iconst 1, 1) := by decide +kernel
theorem dX5_set_2 : decode cX5_set 2 = .ok (.if_icmp .lt 9, 3) := by decide +kernel
theorem dX5_set_5 : decode cX5_set 5 = .ok (.iload_n 1, 1) := by decide +kernel
theorem dX5_set_6 : decode cX5_set 6 = .ok (.bipush 9, 2) := by decide +kernel
theorem dX5_set_8 : decode cX5_set 8 = .ok (.if_icmp .le 6, 3) := by decide +kernel
theorem dX5_set_11 : decode cX5_set 11 = .ok (.bipush (-2), 2) := by decide +kernel
theorem dX5_set_13 : decode cX5_set 13 = .ok (.ireturn, 1) := by decide +kernel
theorem dX5_set_14 : decode cX5_set 14 = .ok (.aload_n 0, 1) := by decide +kernel
theorem dX5_set_15 : decode cX5_set 15 = .ok (.getfield 19, 3) := by decide +kernel
theorem dX5_set_18 : decode cX5_set 18 = .ok (.aload_n 0, 1) := by decide +kernel
theorem dX5_set_19 : decode cX5_set 19 = .ok (.getfield 10, 3) := by decide +kernel
theorem dX5_set_22 : decode cX5_set 22 = .ok (.invokevirtual 53, 3) := by decide +kernel
theorem dX5_set_25 : decode cX5_set 25 = .ok (.aload_n 0, 1) := by decide +kernel
theorem dX5_set_26 : decode cX5_set 26 = .ok (.getfield 10, 3) := by decide +kernel
theorem dX5_set_29 : decode cX5_set 29 = .ok (.getfield 61, 3) := by decide +kernel
theorem dX5_set_32 : decode cX5_set 32 = .ok (.istore_n 2, 1) := by decide +kernel
theorem dX5_set_33 : decode cX5_set 33 = .ok (.aload_n 0, 1) := by decide +kernel
theorem dX5_set_34 : decode cX5_set 34 = .ok (.getfield 10, 3) := by decide +kernel
theorem dX5_set_37 : decode cX5_set 37 = .ok (.iload_n 1, 1) := by decide +kernel
theorem dX5_set_38 : decode cX5_set 38 = .ok (.putfield 61, 3) := by decide +kernel
theorem dX5_set_41 : decode cX5_set 41 = .ok (.iload_n 2, 1) := by decide +kernel
theorem dX5_set_42 : decode cX5_set 42 = .ok (.ireturn, 1) := by decide +kernel
set_option maxRecDepth 20000 in
theorem ggX5_tell_X5_isHearer : GoodIn wsX5_tell wsX5_isHearer := goodIn_r _ [5] (by decide +kernel) (by decide +kernel)
set_option maxRecDepth 20000 in
theorem gX5_tell_X5_isHearer : GoodIn wsX5_tell (va_wsS RX5 49 yX5_isHearer wsX5_isHearer) := goodIn_app (goodIn_of _ (by decide +kernel)) ggX5_tell_X5_isHearer
set_option maxRecDepth 20000 in
theorem ggX5_tell_X5_isStyle : GoodIn wsX5_tell wsX5_isStyle := goodIn_r _ [8] (by decide +kernel) (by decide +kernel)
set_option maxRecDepth 20000 in
theorem gX5_tell_X5_isStyle : GoodIn wsX5_tell (va_wsS RX5 64 yX5_isStyle wsX5_isStyle) := goodIn_app (goodIn_of _ (by decide +kernel)) ggX5_tell_X5_isStyle
set_option maxRecDepth 20000 in
theorem ggX5_tell_X5_isNumber : GoodIn wsX5_tell wsX5_isNumber := goodIn_r _ [11] (by decide +kernel) (by decide +kernel)
set_option maxRecDepth 20000 in
theorem gX5_tell_X5_isNumber : GoodIn wsX5_tell (va_wsS RX5 67 yX5_isNumber wsX5_isNumber) := goodIn_app (goodIn_of _ (by decide +kernel)) ggX5_tell_X5_isNumber
set_option maxRecDepth 20000 in
theorem ggX5_tell_X4_find : GoodIn wsX5_tell wsX4_find := goodIn_r _ [16, 17, 18, 19, 20, 21, 22, 23, 24, 25, 26, 27, 15, 28, 29, 30, 31, 32, 33, 34, 35, 36, 37, 38, 39, 40, 41, 42, 43, 44, 45, 46, 47, 48, 49, 50, 51, 200, 201] (by decide +kernel) (by decide +kernel)
set_option maxRecDepth 20000 in
theorem gX5_tell_X4_find : GoodIn wsX5_tell (wsV RX5 70 RX4 yX4_find wsX4_find) := goodIn_app (goodIn_of _ (by decide +kernel)) ggX5_tell_X4_find
set_option maxRecDepth 20000 in
theorem ggX5_tell_X4_placeOfStyle : GoodIn wsX5_tell wsX4_placeOfStyle := goodIn_r _ [55, 17, 56, 57, 58, 15, 59, 40, 60, 61, 62, 63, 64, 34, 65, 66, 67, 68, 200, 201] (by decide +kernel) (by decide +kernel)
set_option maxRecDepth 20000 in
theorem gX5_tell_X4_placeOfStyle : GoodIn wsX5_tell (wsV RX5 74 RX4 yX4_placeOfStyle wsX4_placeOfStyle) := goodIn_app (goodIn_of _ (by decide +kernel)) ggX5_tell_X4_placeOfStyle
set_option maxRecDepth 20000 in
theorem ggX5_tell_X4_at : GoodIn wsX5_tell wsX4_at := goodIn_r _ [59, 40, 200, 201] (by decide +kernel) (by decide +kernel)
set_option maxRecDepth 20000 in
theorem gX5_tell_X4_at : GoodIn wsX5_tell (wsV RX5 78 RX4 yX4_at wsX4_at) := goodIn_app (goodIn_of _ (by decide +kernel)) ggX5_tell_X4_at
set_option maxRecDepth 20000 in
theorem ggX5_tell_X5_say : GoodIn wsX5_tell wsX5_say := goodIn_r _ [73, 74, 75, 76, 77, 78, 79, 80, 81, 82, 83, 84, 85, 23, 20, 24, 86, 87, 88, 89, 90, 91, 92, 93, 94, 95, 96, 97, 98, 99, 100, 101, 102, 4, 103, 104, 105, 106, 107, 108, 109, 110, 111, 112, 113, 114, 115, 116, 117, 118, 119, 120, 121, 122, 123, 124, 125, 126, 34, 127, 128, 67, 68, 129, 130, 131, 132, 133, 134, 135, 136, 137, 138, 139, 140, 141, 142, 143, 144, 145, 146, 147, 148, 149, 150, 151, 152, 153, 154, 155, 156, 157, 158, 159, 160, 161, 162, 163, 164, 165, 166, 167, 168, 169, 170, 171, 172, 173, 174, 175, 176, 177, 178, 179, 180, 181, 182, 183, 184, 185, 186, 187, 64, 65, 66, 188, 189, 190, 191, 192, 193, 194, 195, 196, 197, 198, 199, 202, 203, 204, 205, 206, 207, 208, 209, 210, 211, 212, 213, 214, 215, 216, 217, 218, 219, 220] (by decide +kernel) (by decide +kernel)
set_option maxRecDepth 20000 in
theorem gX5_tell_X5_say : GoodIn wsX5_tell (wsV RX5 82 RX5 yX5_say wsX5_say) := goodIn_app (goodIn_of _ (by decide +kernel)) ggX5_tell_X5_say
theorem dX5_tell_0 : decode cX5_tell 0 = .ok (.iload_n 1, 1) := by decide +kernel
theorem dX5_tell_1 : decode cX5_tell 1 = .ok (.invokestatic 49, 3) := by decide +kernel
theorem dX5_tell_4 : decode cX5_tell 4 = .ok (.ifCond .eq 10, 3) := by decide +kernel
theorem dX5_tell_7 : decode cX5_tell 7 = .ok (.iload_n 3, 1) := by decide +kernel
theorem dX5_tell_8 : decode cX5_tell 8 = .ok (.invokestatic 64, 3) := by decide +kernel
theorem dX5_tell_11 : decode cX5_tell 11 = .ok (.ifCond .ne 5, 3) := by decide +kernel
theorem dX5_tell_14 : decode cX5_tell 14 = .ok (.iconst (-1), 1) := by decide +kernel
theorem dX5_tell_15 : decode cX5_tell 15 = .ok (.ireturn, 1) := by decide +kernel
theorem dX5_tell_16 : decode cX5_tell 16 = .ok (.iload_n 2, 1) := by decide +kernel
theorem dX5_tell_17 : decode cX5_tell 17 = .ok (.invokestatic 67, 3) := by decide +kernel
theorem dX5_tell_20 : decode cX5_tell 20 = .ok (.ifCond .ne 6, 3) := by decide +kernel
theorem dX5_tell_23 : decode cX5_tell 23 = .ok (.bipush (-2), 2) := by decide +kernel
theorem dX5_tell_25 : decode cX5_tell 25 = .ok (.ireturn, 1) := by decide +kernel
theorem dX5_tell_26 : decode cX5_tell 26 = .ok (.aload_n 0, 1) := by decide +kernel
theorem dX5_tell_27 : decode cX5_tell 27 = .ok (.getfield 34, 3) := by decide +kernel
theorem dX5_tell_30 : decode cX5_tell 30 = .ok (.iload_n 2, 1) := by decide +kernel
theorem dX5_tell_31 : decode cX5_tell 31 = .ok (.invokevirtual 70, 3) := by decide +kernel
theorem dX5_tell_34 : decode cX5_tell 34 = .ok (.aload_n 0, 1) := by decide +kernel
theorem dX5_tell_35 : decode cX5_tell 35 = .ok (.iload_n 1, 1) := by decide +kernel
theorem dX5_tell_36 : decode cX5_tell 36 = .ok (.iload_n 2, 1) := by decide +kernel
theorem dX5_tell_37 : decode cX5_tell 37 = .ok (.aload_n 0, 1) := by decide +kernel
theorem dX5_tell_38 : decode cX5_tell 38 = .ok (.getfield 34, 3) := by decide +kernel
theorem dX5_tell_41 : decode cX5_tell 41 = .ok (.aload_n 0, 1) := by decide +kernel
theorem dX5_tell_42 : decode cX5_tell 42 = .ok (.getfield 34, 3) := by decide +kernel
theorem dX5_tell_45 : decode cX5_tell 45 = .ok (.iload_n 3, 1) := by decide +kernel
theorem dX5_tell_46 : decode cX5_tell 46 = .ok (.invokevirtual 74, 3) := by decide +kernel
theorem dX5_tell_49 : decode cX5_tell 49 = .ok (.invokevirtual 78, 3) := by decide +kernel
theorem dX5_tell_52 : decode cX5_tell 52 = .ok (.invokevirtual 82, 3) := by decide +kernel
theorem dX5_tell_55 : decode cX5_tell 55 = .ok (.ireturn, 1) := by decide +kernel
set_option maxRecDepth 20000 in
theorem ggX5_tellText_X5_isHearer : GoodIn wsX5_tellText wsX5_isHearer := goodIn_r _ [4] (by decide +kernel) (by decide +kernel)
set_option maxRecDepth 20000 in
theorem gX5_tellText_X5_isHearer : GoodIn wsX5_tellText (va_wsS RX5 49 yX5_isHearer wsX5_isHearer) := goodIn_app (goodIn_of _ (by decide +kernel)) ggX5_tellText_X5_isHearer
set_option maxRecDepth 20000 in
theorem ggX5_tellText_X5_fault : GoodIn wsX5_tellText wsX5_fault := goodIn_r _ [8, 9, 10, 11, 12, 13, 14, 15, 16, 17, 18, 19, 20, 21, 22, 23, 24, 25, 26, 27, 28, 29, 30, 31, 32, 33, 34, 35, 36, 37, 38, 39, 40, 41, 42, 43, 44, 45, 46, 47, 48, 49, 50, 51, 52, 53, 54, 55, 56, 57, 58, 59, 60, 61, 62, 63, 64, 65, 66, 67, 68, 69, 70, 71, 72, 73, 157, 158, 159, 160, 161, 162, 163, 164, 165, 166, 167, 168, 169, 170, 171, 172, 173] (by decide +kernel) (by decide +kernel)
set_option maxRecDepth 20000 in
theorem gX5_tellText_X5_fault : GoodIn wsX5_tellText (wsV RX5 86 RX5 yX5_fault wsX5_fault) := goodIn_app (goodIn_of _ (by decide +kernel)) ggX5_tellText_X5_fault
set_option maxRecDepth 20000 in
theorem ggX5_tellText_X5_packedText : GoodIn wsX5_tellText wsX5_packedText := goodIn_r _ [77, 10, 11, 78, 79, 80, 81, 157, 158, 159, 160, 161, 162] (by decide +kernel) (by decide +kernel)
set_option maxRecDepth 20000 in
theorem gX5_tellText_X5_packedText : GoodIn wsX5_tellText (wsV RX5 90 RX5 yX5_packedText wsX5_packedText) := goodIn_app (goodIn_of _ (by decide +kernel)) ggX5_tellText_X5_packedText
set_option maxRecDepth 20000 in
theorem ggX5_tellText_X5_meant : GoodIn wsX5_tellText wsX5_meant := goodIn_r _ [85, 9, 12, 13, 14, 15, 16, 17, 18, 19, 20, 21, 22, 23, 24, 25, 26, 27, 86, 87, 88, 89, 90, 91, 80, 92, 93, 94, 95, 96, 29, 30, 31, 32, 33, 34, 35, 36, 37, 38, 39, 40, 41, 42, 43, 44, 45, 46, 47, 48, 49, 50, 51, 52, 53, 54, 55, 56, 57, 58, 59, 60, 61, 62, 63, 64, 65, 66, 67, 68, 69, 97, 71, 72, 73, 98, 99, 100, 101, 157, 158, 159, 160, 161, 162, 163, 164, 165, 166, 167, 168, 169, 170, 171, 172, 173] (by decide +kernel) (by decide +kernel)
set_option maxRecDepth 20000 in
theorem gX5_tellText_X5_meant : GoodIn wsX5_tellText (wsV RX5 94 RX5 yX5_meant wsX5_meant) := goodIn_app (goodIn_of _ (by decide +kernel)) ggX5_tellText_X5_meant
set_option maxRecDepth 20000 in
theorem ggX5_tellText_X5_say : GoodIn wsX5_tellText wsX5_say := goodIn_r _ [105, 106, 107, 108, 109, 110, 111, 112, 113, 114, 115, 116, 117, 118, 119, 120, 121, 122, 123, 124, 125, 126, 127, 128, 129, 130, 131, 132, 133, 134, 135, 136, 137, 3, 138, 9, 12, 13, 14, 15, 16, 17, 18, 19, 20, 21, 22, 23, 24, 25, 26, 27, 86, 87, 88, 89, 90, 91, 80, 92, 93, 94, 95, 96, 29, 30, 31, 32, 33, 34, 35, 36, 37, 38, 39, 40, 41, 42, 43, 44, 45, 46, 47, 48, 49, 50, 51, 52, 53, 54, 55, 56, 57, 58, 59, 60, 61, 62, 63, 64, 65, 66, 67, 68, 69, 97, 71, 72, 73, 98, 99, 100, 101, 139, 140, 141, 142, 143, 144, 145, 146, 147, 148, 149, 150, 151, 152, 153, 154, 155, 156, 157, 158, 159, 160, 161, 162, 174, 175, 176, 177, 178, 179, 180, 181, 163, 164, 165, 166, 167, 168, 169, 170, 171, 172, 173] (by decide +kernel) (by decide +kernel)
set_option maxRecDepth 20000 in
theorem gX5_tellText_X5_say : GoodIn wsX5_tellText (wsV RX5 82 RX5 yX5_say wsX5_say) := goodIn_app (goodIn_of _ (by decide +kernel)) ggX5_tellText_X5_say
theorem dX5_tellText_0 : decode cX5_tellText 0 = .ok (.iload_n 1, 1) := by decide +kernel
theorem dX5_tellText_1 : decode cX5_tellText 1 = .ok (.invokestatic 49, 3) := by decide +kernel
theorem dX5_tellText_4 : decode cX5_tellText 4 = .ok (.ifCond .ne 5, 3) := by decide +kernel
theorem dX5_tellText_7 : decode cX5_tellText 7 = .ok (.iconst (-1), 1) := by decide +kernel
theorem dX5_tellText_8 : decode cX5_tellText 8 = .ok (.ireturn, 1) := by decide +kernel
theorem dX5_tellText_9 : decode cX5_tellText 9 = .ok (.aload_n 0, 1) := by decide +kernel
theorem dX5_tellText_10 : decode cX5_tellText 10 = .ok (.invokevirtual 86, 3) := by decide +kernel
theorem dX5_tellText_13 : decode cX5_tellText 13 = .ok (.bipush (-5), 2) := by decide +kernel
theorem dX5_tellText_15 : decode cX5_tellText 15 = .ok (.if_icmp .eq 6, 3) := by decide +kernel
theorem dX5_tellText_18 : decode cX5_tellText 18 = .ok (.bipush (-3), 2) := by decide +kernel
theorem dX5_tellText_20 : decode cX5_tellText 20 = .ok (.ireturn, 1) := by decide +kernel
theorem dX5_tellText_21 : decode cX5_tellText 21 = .ok (.aload_n 0, 1) := by decide +kernel
theorem dX5_tellText_22 : decode cX5_tellText 22 = .ok (.invokevirtual 90, 3) := by decide +kernel
theorem dX5_tellText_25 : decode cX5_tellText 25 = .ok (.lstore_n 2, 1) := by decide +kernel
theorem dX5_tellText_26 : decode cX5_tellText 26 = .ok (.aload_n 0, 1) := by decide +kernel
theorem dX5_tellText_27 : decode cX5_tellText 27 = .ok (.iload_n 1, 1) := by decide +kernel
theorem dX5_tellText_28 : decode cX5_tellText 28 = .ok (.aload_n 0, 1) := by decide +kernel
theorem dX5_tellText_29 : decode cX5_tellText 29 = .ok (.lload_n 2, 1) := by decide +kernel
theorem dX5_tellText_30 : decode cX5_tellText 30 = .ok (.invokevirtual 94, 3) := by decide +kernel
theorem dX5_tellText_33 : decode cX5_tellText 33 = .ok (.lload_n 2, 1) := by decide +kernel
theorem dX5_tellText_34 : decode cX5_tellText 34 = .ok (.invokevirtual 82, 3) := by decide +kernel
theorem dX5_tellText_37 : decode cX5_tellText 37 = .ok (.ireturn, 1) := by decide +kernel
theorem dX5_append_0 : decode cX5_append 0 = .ok (.iload_n 1, 1) := by decide +kernel
theorem dX5_append_1 : decode cX5_append 1 = .ok (.bipush 32, 2) := by decide +kernel
theorem dX5_append_3 : decode cX5_append 3 = .ok (.if_icmp .lt 9, 3) := by decide +kernel
theorem dX5_append_6 : decode cX5_append 6 = .ok (.iload_n 1, 1) := by decide +kernel
theorem dX5_append_7 : decode cX5_append 7 = .ok (.bipush 126, 2) := by decide +kernel
theorem dX5_append_9 : decode cX5_append 9 = .ok (.if_icmp .le 6, 3) := by decide +kernel
theorem dX5_append_12 : decode cX5_append 12 = .ok (.bipush (-2), 2) := by decide +kernel
theorem dX5_append_14 : decode cX5_append 14 = .ok (.ireturn, 1) := by decide +kernel
theorem dX5_append_15 : decode cX5_append 15 = .ok (.aload_n 0, 1) := by decide +kernel
theorem dX5_append_16 : decode cX5_append 16 = .ok (.getfield 27, 3) := by decide +kernel
theorem dX5_append_19 : decode cX5_append 19 = .ok (.ifCond .lt 12, 3) := by decide +kernel
theorem dX5_append_22 : decode cX5_append 22 = .ok (.aload_n 0, 1) := by decide +kernel
theorem dX5_append_23 : decode cX5_append 23 = .ok (.getfield 27, 3) := by decide +kernel
theorem dX5_append_26 : decode cX5_append 26 = .ok (.bipush 20, 2) := by decide +kernel
theorem dX5_append_28 : decode cX5_append 28 = .ok (.if_icmp .lt 6, 3) := by decide +kernel
theorem dX5_append_31 : decode cX5_append 31 = .ok (.bipush (-4), 2) := by decide +kernel
theorem dX5_append_33 : decode cX5_append 33 = .ok (.ireturn, 1) := by decide +kernel
theorem dX5_append_34 : decode cX5_append 34 = .ok (.aload_n 0, 1) := by decide +kernel
theorem dX5_append_35 : decode cX5_append 35 = .ok (.getfield 23, 3) := by decide +kernel
theorem dX5_append_38 : decode cX5_append 38 = .ok (.aload_n 0, 1) := by decide +kernel
theorem dX5_append_39 : decode cX5_append 39 = .ok (.getfield 27, 3) := by decide +kernel
theorem dX5_append_42 : decode cX5_append 42 = .ok (.iload_n 1, 1) := by decide +kernel
theorem dX5_append_43 : decode cX5_append 43 = .ok (.i2c, 1) := by decide +kernel
theorem dX5_append_44 : decode cX5_append 44 = .ok (.castore, 1) := by decide +kernel
theorem dX5_append_45 : decode cX5_append 45 = .ok (.aload_n 0, 1) := by decide +kernel
theorem dX5_append_46 : decode cX5_append 46 = .ok (.dup, 1) := by decide +kernel
theorem dX5_append_47 : decode cX5_append 47 = .ok (.getfield 27, 3) := by decide +kernel
theorem dX5_append_50 : decode cX5_append 50 = .ok (.iconst 1, 1) := by decide +kernel
theorem dX5_append_51 : decode cX5_append 51 = .ok (.iadd, 1) := by decide +kernel
theorem dX5_append_52 : decode cX5_append 52 = .ok (.putfield 27, 3) := by decide +kernel
theorem dX5_append_55 : decode cX5_append 55 = .ok (.aload_n 0, 1) := by decide +kernel
theorem dX5_append_56 : decode cX5_append 56 = .ok (.getfield 27, 3) := by decide +kernel
theorem dX5_append_59 : decode cX5_append 59 = .ok (.ireturn, 1) := by decide +kernel
theorem dX5_clearText_0 : decode cX5_clearText 0 = .ok (.aload_n 0, 1) := by decide +kernel
theorem dX5_clearText_1 : decode cX5_clearText 1 = .ok (.getfield 27, 3) := by decide +kernel
theorem dX5_clearText_4 : decode cX5_clearText 4 = .ok (.istore_n 1, 1) := by decide +kernel
theorem dX5_clearText_5 : decode cX5_clearText 5 = .ok (.aload_n 0, 1) := by decide +kernel
theorem dX5_clearText_6 : decode cX5_clearText 6 = .ok (.iconst 0, 1) := by decide +kernel
theorem dX5_clearText_7 : decode cX5_clearText 7 = .ok (.putfield 27, 3) := by decide +kernel
theorem dX5_clearText_10 : decode cX5_clearText 10 = .ok (.iload_n 1, 1) := by decide +kernel
theorem dX5_clearText_11 : decode cX5_clearText 11 = .ok (.ireturn, 1) := by decide +kernel
set_option maxRecDepth 20000 in
theorem ggX5_fault_X0_listen : GoodIn wsX5_fault wsX0_listen := goodIn_r _ [8, 9, 10, 11, 12, 13, 14, 15, 16, 17, 18, 19, 72, 73, 74, 75, 76, 77, 78, 79, 80, 81, 82] (by decide +kernel) (by decide +kernel)
set_option maxRecDepth 20000 in
theorem gX5_fault_X0_listen : GoodIn wsX5_fault (wsV RX5 98 RX0 yX0_listen wsX0_listen) := goodIn_app (goodIn_of _ (by decide +kernel)) ggX5_fault_X0_listen
set_option maxRecDepth 20000 in
theorem ggX5_fault_X0_take : GoodIn wsX5_fault wsX0_take := goodIn_r _ [23, 12, 24, 25, 26, 7, 27, 28, 29, 30, 31, 13, 32, 33, 34, 35, 36, 37, 38, 39, 40, 41, 42, 43, 44, 45, 46, 47, 48, 49, 14, 15, 16, 18, 11, 17, 50, 51, 52, 53, 19, 54, 55, 56, 57, 9, 58, 59, 60, 61, 72, 73, 74, 75, 76, 77, 78, 79, 80, 81, 82] (by decide +kernel) (by decide +kernel)
set_option maxRecDepth 20000 in
theorem gX5_fault_X0_take : GoodIn wsX5_fault (wsV RX5 102 RX0 yX0_take wsX0_take) := goodIn_app (goodIn_of _ (by decide +kernel)) ggX5_fault_X0_take
set_option maxRecDepth 20000 in
theorem ggX5_fault_X0_isComplete : GoodIn wsX5_fault wsX0_isComplete := goodIn_r _ [65, 12, 72, 73, 74, 75, 76, 77, 78, 79, 80, 81, 82] (by decide +kernel) (by decide +kernel)
set_option maxRecDepth 20000 in
theorem gX5_fault_X0_isComplete : GoodIn wsX5_fault (wsV RX5 105 RX0 yX0_isComplete wsX0_isComplete) := goodIn_app (goodIn_of _ (by decide +kernel)) ggX5_fault_X0_isComplete
theorem dX5_fault_0 : decode cX5_fault 0 = .ok (.aload_n 0, 1) := by decide +kernel
theorem dX5_fault_1 : decode cX5_fault 1 = .ok (.getfield 41, 3) := by decide +kernel
theorem dX5_fault_4 : decode cX5_fault 4 = .ok (.iconst 1, 1) := by decide +kernel
theorem dX5_fault_5 : decode cX5_fault 5 = .ok (.iconst 1, 1) := by decide +kernel
theorem dX5_fault_6 : decode cX5_fault 6 = .ok (.iconst 1, 1) := by decide +kernel
theorem dX5_fault_7 : decode cX5_fault 7 = .ok (.invokevirtual 98, 3) := by decide +kernel
theorem dX5_fault_10 : decode cX5_fault 10 = .ok (.iconst 0, 1) := by decide +kernel
theorem dX5_fault_11 : decode cX5_fault 11 = .ok (.istore_n 1, 1) := by decide +kernel
theorem dX5_fault_12 : decode cX5_fault 12 = .ok (.iload_n 1, 1) := by decide +kernel
theorem dX5_fault_13 : decode cX5_fault 13 = .ok (.aload_n 0, 1) := by decide +kernel
theorem dX5_fault_14 : decode cX5_fault 14 = .ok (.getfield 27, 3) := by decide +kernel
theorem dX5_fault_17 : decode cX5_fault 17 = .ok (.if_icmp .ge 33, 3) := by decide +kernel
theorem dX5_fault_20 : decode cX5_fault 20 = .ok (.iload_n 1, 1) := by decide +kernel
theorem dX5_fault_21 : decode cX5_fault 21 = .ok (.bipush 20, 2) := by decide +kernel
theorem dX5_fault_23 : decode cX5_fault 23 = .ok (.if_icmp .ge 27, 3) := by decide +kernel
theorem dX5_fault_26 : decode cX5_fault 26 = .ok (.aload_n 0, 1) := by decide +kernel
theorem dX5_fault_27 : decode cX5_fault 27 = .ok (.getfield 41, 3) := by decide +kernel
theorem dX5_fault_30 : decode cX5_fault 30 = .ok (.aload_n 0, 1) := by decide +kernel
theorem dX5_fault_31 : decode cX5_fault 31 = .ok (.getfield 23, 3) := by decide +kernel
theorem dX5_fault_34 : decode cX5_fault 34 = .ok (.iload_n 1, 1) := by decide +kernel
theorem dX5_fault_35 : decode cX5_fault 35 = .ok (.caload, 1) := by decide +kernel
theorem dX5_fault_36 : decode cX5_fault 36 = .ok (.invokevirtual 102, 3) := by decide +kernel
theorem dX5_fault_39 : decode cX5_fault 39 = .ok (.ifCond .ne 5, 3) := by decide +kernel
theorem dX5_fault_42 : decode cX5_fault 42 = .ok (.iload_n 1, 1) := by decide +kernel
theorem dX5_fault_43 : decode cX5_fault 43 = .ok (.ireturn, 1) := by decide +kernel
theorem dX5_fault_44 : decode cX5_fault 44 = .ok (.iinc 1 1, 3) := by decide +kernel
theorem dX5_fault_47 : decode cX5_fault 47 = .ok (.goto (-35), 3) := by decide +kernel
theorem dX5_fault_50 : decode cX5_fault 50 = .ok (.aload_n 0, 1) := by decide +kernel
theorem dX5_fault_51 : decode cX5_fault 51 = .ok (.getfield 41, 3) := by decide +kernel
theorem dX5_fault_54 : decode cX5_fault 54 = .ok (.invokevirtual 105, 3) := by decide +kernel
theorem dX5_fault_57 : decode cX5_fault 57 = .ok (.ifCond .eq 8, 3) := by decide +kernel
theorem dX5_fault_60 : decode cX5_fault 60 = .ok (.bipush (-5), 2) := by decide +kernel
theorem dX5_fault_62 : decode cX5_fault 62 = .ok (.goto 7, 3) := by decide +kernel
theorem dX5_fault_65 : decode cX5_fault 65 = .ok (.aload_n 0, 1) := by decide +kernel
theorem dX5_fault_66 : decode cX5_fault 66 = .ok (.getfield 27, 3) := by decide +kernel
theorem dX5_fault_69 : decode cX5_fault 69 = .ok (.ireturn, 1) := by decide +kernel
set_option maxRecDepth 20000 in
theorem ggX5_meaning_X5_fault : GoodIn wsX5_meaning wsX5_fault := goodIn_r _ [5, 6, 7, 8, 9, 10, 11, 12, 13, 14, 15, 16, 17, 18, 19, 20, 21, 22, 23, 24, 25, 26, 27, 28, 29, 30, 31, 32, 33, 34, 35, 36, 37, 38, 39, 40, 41, 42, 43, 44, 45, 46, 47, 48, 49, 50, 51, 52, 53, 54, 55, 56, 57, 58, 59, 60, 61, 62, 63, 64, 65, 66, 67, 68, 69, 70, 99, 100, 101, 102, 103, 104, 105, 106, 107, 108, 109, 110, 111, 112, 113, 114, 115] (by decide +kernel) (by decide +kernel)
set_option maxRecDepth 20000 in
theorem gX5_meaning_X5_fault : GoodIn wsX5_meaning (wsV RX5 86 RX5 yX5_fault wsX5_fault) := goodIn_app (goodIn_of _ (by decide +kernel)) ggX5_meaning_X5_fault
set_option maxRecDepth 20000 in
theorem ggX5_meaning_X5_packedText : GoodIn wsX5_meaning wsX5_packedText := goodIn_r _ [74, 7, 8, 75, 76, 77, 78, 99, 100, 101, 102, 103, 104] (by decide +kernel) (by decide +kernel)
set_option maxRecDepth 20000 in
theorem gX5_meaning_X5_packedText : GoodIn wsX5_meaning (wsV RX5 90 RX5 yX5_packedText wsX5_packedText) := goodIn_app (goodIn_of _ (by decide +kernel)) ggX5_meaning_X5_packedText
set_option maxRecDepth 20000 in
theorem ggX5_meaning_X5_meant : GoodIn wsX5_meaning wsX5_meant := goodIn_r _ [82, 6, 9, 10, 11, 12, 13, 14, 15, 16, 17, 18, 19, 20, 21, 22, 23, 24, 83, 84, 85, 86, 87, 88, 77, 89, 90, 91, 92, 93, 26, 27, 28, 29, 30, 31, 32, 33, 34, 35, 36, 37, 38, 39, 40, 41, 42, 43, 44, 45, 46, 47, 48, 49, 50, 51, 52, 53, 54, 55, 56, 57, 58, 59, 60, 61, 62, 63, 64, 65, 66, 94, 68, 69, 70, 95, 96, 97, 98, 99, 100, 101, 102, 103, 104, 105, 106, 107, 108, 109, 110, 111, 112, 113, 114, 115] (by decide +kernel) (by decide +kernel)
set_option maxRecDepth 20000 in
theorem gX5_meaning_X5_meant : GoodIn wsX5_meaning (wsV RX5 94 RX5 yX5_meant wsX5_meant) := goodIn_app (goodIn_of _ (by decide +kernel)) ggX5_meaning_X5_meant
theorem dX5_meaning_0 : decode cX5_meaning 0 = .ok (.aload_n 0, 1) := by decide +kernel
theorem dX5_meaning_1 : decode cX5_meaning 1 = .ok (.invokevirtual 86, 3) := by decide +kernel
theorem dX5_meaning_4 : decode cX5_meaning 4 = .ok (.bipush (-5), 2) := by decide +kernel
theorem dX5_meaning_6 : decode cX5_meaning 6 = .ok (.if_icmp .eq 8, 3) := by decide +kernel
theorem dX5_meaning_9 : decode cX5_meaning 9 = .ok (.bipush (-3), 2) := by decide +kernel
theorem dX5_meaning_11 : decode cX5_meaning 11 = .ok (.goto 11, 3) := by decide +kernel
theorem dX5_meaning_14 : decode cX5_meaning 14 = .ok (.aload_n 0, 1) := by decide +kernel
theorem dX5_meaning_15 : decode cX5_meaning 15 = .ok (.aload_n 0, 1) := by decide +kernel
theorem dX5_meaning_16 : decode cX5_meaning 16 = .ok (.invokevirtual 90, 3) := by decide +kernel
theorem dX5_meaning_19 : decode cX5_meaning 19 = .ok (.invokevirtual 94, 3) := by decide +kernel
theorem dX5_meaning_22 : decode cX5_meaning 22 = .ok (.ireturn, 1) := by decide +kernel
set_option maxRecDepth 20000 in
theorem ggX5_undo_X1_restore : GoodIn wsX5_undo wsX1_restore := goodIn_r _ [7, 8, 9, 10, 11, 12, 13, 14, 15, 16, 17, 18, 19, 20, 21, 22, 23, 24, 31, 32, 33, 34, 35, 36, 37, 38] (by decide +kernel) (by decide +kernel)
set_option maxRecDepth 20000 in
theorem gX5_undo_X1_restore : GoodIn wsX5_undo (wsV RX5 109 RX1 yX1_restore wsX1_restore) := goodIn_app (goodIn_of _ (by decide +kernel)) ggX5_undo_X1_restore
theorem dX5_undo_0 : decode cX5_undo 0 = .ok (.aload_n 0, 1) := by decide +kernel
theorem dX5_undo_1 : decode cX5_undo 1 = .ok (.getfield 19, 3) := by decide +kernel
theorem dX5_undo_4 : decode cX5_undo 4 = .ok (.aload_n 0, 1) := by decide +kernel
theorem dX5_undo_5 : decode cX5_undo 5 = .ok (.getfield 10, 3) := by decide +kernel
theorem dX5_undo_8 : decode cX5_undo 8 = .ok (.invokevirtual 109, 3) := by decide +kernel
theorem dX5_undo_11 : decode cX5_undo 11 = .ok (.ireturn, 1) := by decide +kernel
set_option maxRecDepth 20000 in
theorem ggX5_ways_X5_isNumber : GoodIn wsX5_ways wsX5_isNumber := goodIn_r _ [6] (by decide +kernel) (by decide +kernel)
set_option maxRecDepth 20000 in
theorem gX5_ways_X5_isNumber : GoodIn wsX5_ways (va_wsS RX5 67 yX5_isNumber wsX5_isNumber) := goodIn_app (goodIn_of _ (by decide +kernel)) ggX5_ways_X5_isNumber
set_option maxRecDepth 20000 in
theorem ggX5_ways_X4_find : GoodIn wsX5_ways wsX4_find := goodIn_r _ [11, 12, 13, 14, 15, 16, 17, 18, 19, 20, 21, 22, 10, 23, 24, 25, 26, 27, 28, 29, 30, 31, 32, 33, 34, 35, 36, 37, 38, 39, 40, 41, 42, 43, 44, 45, 46, 53, 54] (by decide +kernel) (by decide +kernel)
set_option maxRecDepth 20000 in
theorem gX5_ways_X4_find : GoodIn wsX5_ways (wsV RX5 70 RX4 yX4_find wsX4_find) := goodIn_app (goodIn_of _ (by decide +kernel)) ggX5_ways_X4_find
theorem dX5_ways_0 : decode cX5_ways 0 = .ok (.iload_n 1, 1) := by decide +kernel
theorem dX5_ways_1 : decode cX5_ways 1 = .ok (.invokestatic 67, 3) := by decide +kernel
theorem dX5_ways_4 : decode cX5_ways 4 = .ok (.ifCond .ne 6, 3) := by decide +kernel
theorem dX5_ways_7 : decode cX5_ways 7 = .ok (.bipush (-2), 2) := by decide +kernel
theorem dX5_ways_9 : decode cX5_ways 9 = .ok (.ireturn, 1) := by decide +kernel
theorem dX5_ways_10 : decode cX5_ways 10 = .ok (.aload_n 0, 1) := by decide +kernel
theorem dX5_ways_11 : decode cX5_ways 11 = .ok (.getfield 34, 3) := by decide +kernel
theorem dX5_ways_14 : decode cX5_ways 14 = .ok (.iload_n 1, 1) := by decide +kernel
theorem dX5_ways_15 : decode cX5_ways 15 = .ok (.invokevirtual 70, 3) := by decide +kernel
theorem dX5_ways_18 : decode cX5_ways 18 = .ok (.aload_n 0, 1) := by decide +kernel
theorem dX5_ways_19 : decode cX5_ways 19 = .ok (.getfield 34, 3) := by decide +kernel
theorem dX5_ways_22 : decode cX5_ways 22 = .ok (.getfield 113, 3) := by decide +kernel
theorem dX5_ways_25 : decode cX5_ways 25 = .ok (.ireturn, 1) := by decide +kernel
set_option maxRecDepth 20000 in
theorem ggX5_wayLength_X5_isNumber : GoodIn wsX5_wayLength wsX5_isNumber := goodIn_r _ [6] (by decide +kernel) (by decide +kernel)
set_option maxRecDepth 20000 in
theorem gX5_wayLength_X5_isNumber : GoodIn wsX5_wayLength (va_wsS RX5 67 yX5_isNumber wsX5_isNumber) := goodIn_app (goodIn_of _ (by decide +kernel)) ggX5_wayLength_X5_isNumber
set_option maxRecDepth 20000 in
theorem ggX5_wayLength_X4_find : GoodIn wsX5_wayLength wsX4_find := goodIn_r _ [11, 12, 13, 14, 15, 16, 17, 18, 19, 20, 21, 22, 10, 23, 24, 25, 26, 27, 28, 29, 30, 31, 32, 33, 34, 35, 36, 37, 38, 39, 40, 41, 42, 43, 44, 45, 46, 60, 61] (by decide +kernel) (by decide +kernel)
set_option maxRecDepth 20000 in
theorem gX5_wayLength_X4_find : GoodIn wsX5_wayLength (wsV RX5 70 RX4 yX4_find wsX4_find) := goodIn_app (goodIn_of _ (by decide +kernel)) ggX5_wayLength_X4_find
set_option maxRecDepth 20000 in
theorem ggX5_wayLength_X4_at : GoodIn wsX5_wayLength wsX4_at := goodIn_r _ [50, 35, 60, 61] (by decide +kernel) (by decide +kernel)
set_option maxRecDepth 20000 in
theorem gX5_wayLength_X4_at : GoodIn wsX5_wayLength (wsV RX5 78 RX4 yX4_at wsX4_at) := goodIn_app (goodIn_of _ (by decide +kernel)) ggX5_wayLength_X4_at
set_option maxRecDepth 20000 in
theorem ggX5_wayLength_X2_length : GoodIn wsX5_wayLength wsX2_length := goodIn_r _ [53] (by decide +kernel) (by decide +kernel)
set_option maxRecDepth 20000 in
theorem gX5_wayLength_X2_length : GoodIn wsX5_wayLength (va_wsS RX5 116 yX2_length wsX2_length) := goodIn_app (goodIn_of _ (by decide +kernel)) ggX5_wayLength_X2_length
theorem dX5_wayLength_0 : decode cX5_wayLength 0 = .ok (.iload_n 1, 1) := by decide +kernel
theorem dX5_wayLength_1 : decode cX5_wayLength 1 = .ok (.invokestatic 67, 3) := by decide +kernel
theorem dX5_wayLength_4 : decode cX5_wayLength 4 = .ok (.ifCond .eq 7, 3) := by decide +kernel
theorem dX5_wayLength_7 : decode cX5_wayLength 7 = .ok (.iload_n 2, 1) := by decide +kernel
theorem dX5_wayLength_8 : decode cX5_wayLength 8 = .ok (.ifCond .ge 6, 3) := by decide +kernel
theorem dX5_wayLength_11 : decode cX5_wayLength 11 = .ok (.bipush (-2), 2) := by decide +kernel
theorem dX5_wayLength_13 : decode cX5_wayLength 13 = .ok (.ireturn, 1) := by decide +kernel
theorem dX5_wayLength_14 : decode cX5_wayLength 14 = .ok (.aload_n 0, 1) := by decide +kernel
theorem dX5_wayLength_15 : decode cX5_wayLength 15 = .ok (.getfield 34, 3) := by decide +kernel
theorem dX5_wayLength_18 : decode cX5_wayLength 18 = .ok (.iload_n 1, 1) := by decide +kernel
theorem dX5_wayLength_19 : decode cX5_wayLength 19 = .ok (.invokevirtual 70, 3) := by decide +kernel
theorem dX5_wayLength_22 : decode cX5_wayLength 22 = .ok (.iload_n 2, 1) := by decide +kernel
theorem dX5_wayLength_23 : decode cX5_wayLength 23 = .ok (.aload_n 0, 1) := by decide +kernel
theorem dX5_wayLength_24 : decode cX5_wayLength 24 = .ok (.getfield 34, 3) := by decide +kernel
theorem dX5_wayLength_27 : decode cX5_wayLength 27 = .ok (.getfield 113, 3) := by decide +kernel
theorem dX5_wayLength_30 : decode cX5_wayLength 30 = .ok (.if_icmp .ge 17, 3) := by decide +kernel
theorem dX5_wayLength_33 : decode cX5_wayLength 33 = .ok (.aload_n 0, 1) := by decide +kernel
theorem dX5_wayLength_34 : decode cX5_wayLength 34 = .ok (.getfield 34, 3) := by decide +kernel
theorem dX5_wayLength_37 : decode cX5_wayLength 37 = .ok (.iload_n 2, 1) := by decide +kernel
theorem dX5_wayLength_38 : decode cX5_wayLength 38 = .ok (.invokevirtual 78, 3) := by decide +kernel
theorem dX5_wayLength_41 : decode cX5_wayLength 41 = .ok (.invokestatic 116, 3) := by decide +kernel
theorem dX5_wayLength_44 : decode cX5_wayLength 44 = .ok (.goto 5, 3) := by decide +kernel
theorem dX5_wayLength_47 : decode cX5_wayLength 47 = .ok (.bipush (-5), 2) := by decide +kernel
theorem dX5_wayLength_49 : decode cX5_wayLength 49 = .ok (.ireturn, 1) := by decide +kernel
set_option maxRecDepth 20000 in
theorem ggX5_wayAt_X5_isNumber : GoodIn wsX5_wayAt wsX5_isNumber := goodIn_r _ [6] (by decide +kernel) (by decide +kernel)
set_option maxRecDepth 20000 in
theorem gX5_wayAt_X5_isNumber : GoodIn wsX5_wayAt (va_wsS RX5 67 yX5_isNumber wsX5_isNumber) := goodIn_app (goodIn_of _ (by decide +kernel)) ggX5_wayAt_X5_isNumber
set_option maxRecDepth 20000 in
theorem ggX5_wayAt_X4_find : GoodIn wsX5_wayAt wsX4_find := goodIn_r _ [11, 12, 13, 14, 15, 16, 17, 18, 19, 20, 21, 22, 10, 23, 24, 25, 26, 27, 28, 29, 30, 31, 32, 33, 34, 35, 36, 37, 38, 39, 40, 41, 42, 43, 44, 45, 46, 63, 64] (by decide +kernel) (by decide +kernel)
set_option maxRecDepth 20000 in
theorem gX5_wayAt_X4_find : GoodIn wsX5_wayAt (wsV RX5 70 RX4 yX4_find wsX4_find) := goodIn_app (goodIn_of _ (by decide +kernel)) ggX5_wayAt_X4_find
set_option maxRecDepth 20000 in
theorem ggX5_wayAt_X4_at : GoodIn wsX5_wayAt wsX4_at := goodIn_r _ [50, 35, 63, 64] (by decide +kernel) (by decide +kernel)
set_option maxRecDepth 20000 in
theorem gX5_wayAt_X4_at : GoodIn wsX5_wayAt (wsV RX5 78 RX4 yX4_at wsX4_at) := goodIn_app (goodIn_of _ (by decide +kernel)) ggX5_wayAt_X4_at
set_option maxRecDepth 20000 in
theorem ggX5_wayAt_X2_length : GoodIn wsX5_wayAt wsX2_length := goodIn_r _ [53] (by decide +kernel) (by decide +kernel)
set_option maxRecDepth 20000 in
theorem gX5_wayAt_X2_length : GoodIn wsX5_wayAt (va_wsS RX5 116 yX2_length wsX2_length) := goodIn_app (goodIn_of _ (by decide +kernel)) ggX5_wayAt_X2_length
set_option maxRecDepth 20000 in
theorem ggX5_wayAt_X2_character : GoodIn wsX5_wayAt wsX2_character := goodIn_r _ [56] (by decide +kernel) (by decide +kernel)
set_option maxRecDepth 20000 in
theorem gX5_wayAt_X2_character : GoodIn wsX5_wayAt (va_wsS RX5 121 yX2_character wsX2_character) := goodIn_app (goodIn_of _ (by decide +kernel)) ggX5_wayAt_X2_character
theorem dX5_wayAt_0 : decode cX5_wayAt 0 = .ok (.iload_n 1, 1) := by decide +kernel
theorem dX5_wayAt_1 : decode cX5_wayAt 1 = .ok (.invokestatic 67, 3) := by decide +kernel
theorem dX5_wayAt_4 : decode cX5_wayAt 4 = .ok (.ifCond .eq 11, 3) := by decide +kernel
theorem dX5_wayAt_7 : decode cX5_wayAt 7 = .ok (.iload_n 2, 1) := by decide +kernel
theorem dX5_wayAt_8 : decode cX5_wayAt 8 = .ok (.ifCond .lt 7, 3) := by decide +kernel
theorem dX5_wayAt_11 : decode cX5_wayAt 11 = .ok (.iload_n 3, 1) := by decide +kernel
theorem dX5_wayAt_12 : decode cX5_wayAt 12 = .ok (.ifCond .ge 6, 3) := by decide +kernel
theorem dX5_wayAt_15 : decode cX5_wayAt 15 = .ok (.bipush (-2), 2) := by decide +kernel
theorem dX5_wayAt_17 : decode cX5_wayAt 17 = .ok (.ireturn, 1) := by decide +kernel
theorem dX5_wayAt_18 : decode cX5_wayAt 18 = .ok (.aload_n 0, 1) := by decide +kernel
theorem dX5_wayAt_19 : decode cX5_wayAt 19 = .ok (.getfield 34, 3) := by decide +kernel
theorem dX5_wayAt_22 : decode cX5_wayAt 22 = .ok (.iload_n 1, 1) := by decide +kernel
theorem dX5_wayAt_23 : decode cX5_wayAt 23 = .ok (.invokevirtual 70, 3) := by decide +kernel
theorem dX5_wayAt_26 : decode cX5_wayAt 26 = .ok (.iload_n 2, 1) := by decide +kernel
theorem dX5_wayAt_27 : decode cX5_wayAt 27 = .ok (.aload_n 0, 1) := by decide +kernel
theorem dX5_wayAt_28 : decode cX5_wayAt 28 = .ok (.getfield 34, 3) := by decide +kernel
theorem dX5_wayAt_31 : decode cX5_wayAt 31 = .ok (.getfield 113, 3) := by decide +kernel
theorem dX5_wayAt_34 : decode cX5_wayAt 34 = .ok (.if_icmp .lt 6, 3) := by decide +kernel
theorem dX5_wayAt_37 : decode cX5_wayAt 37 = .ok (.bipush (-5), 2) := by decide +kernel
theorem dX5_wayAt_39 : decode cX5_wayAt 39 = .ok (.ireturn, 1) := by decide +kernel
theorem dX5_wayAt_40 : decode cX5_wayAt 40 = .ok (.aload_n 0, 1) := by decide +kernel
theorem dX5_wayAt_41 : decode cX5_wayAt 41 = .ok (.getfield 34, 3) := by decide +kernel
end
section
theorem dX5_wayAt_44 : decode cX5_wayAt 44 = .ok (.iload_n 2, 1) := by decide +kernel
theorem dX5_wayAt_45 : decode cX5_wayAt 45 = .ok (.invokevirtual 78, 3) := by decide +kernel
theorem dX5_wayAt_48 : decode cX5_wayAt 48 = .ok (.lstore 4, 2) := by decide +kernel
theorem dX5_wayAt_50 : decode cX5_wayAt 50 = .ok (.lload 4, 2) := by decide +kernel
theorem dX5_wayAt_52 : decode cX5_wayAt 52 = .ok (.invokestatic 116, 3) := by decide +kernel
theorem dX5_wayAt_55 : decode cX5_wayAt 55 = .ok (.istore 6, 2) := by decide +kernel
theorem dX5_wayAt_57 : decode cX5_wayAt 57 = .ok (.iload_n 3, 1) := by decide +kernel
theorem dX5_wayAt_58 : decode cX5_wayAt 58 = .ok (.iload 6, 2) := by decide +kernel
theorem dX5_wayAt_60 : decode cX5_wayAt 60 = .ok (.if_icmp .ge 17, 3) := by decide +kernel
theorem dX5_wayAt_63 : decode cX5_wayAt 63 = .ok (.lload 4, 2) := by decide +kernel
theorem dX5_wayAt_65 : decode cX5_wayAt 65 = .ok (.iload 6, 2) := by decide +kernel
theorem dX5_wayAt_67 : decode cX5_wayAt 67 = .ok (.iconst 1, 1) := by decide +kernel
theorem dX5_wayAt_68 : decode cX5_wayAt 68 = .ok (.isub, 1) := by decide +kernel
theorem dX5_wayAt_69 : decode cX5_wayAt 69 = .ok (.iload_n 3, 1) := by decide +kernel
theorem dX5_wayAt_70 : decode cX5_wayAt 70 = .ok (.isub, 1) := by decide +kernel
theorem dX5_wayAt_71 : decode cX5_wayAt 71 = .ok (.invokestatic 121, 3) := by decide +kernel
theorem dX5_wayAt_74 : decode cX5_wayAt 74 = .ok (.goto 5, 3) := by decide +kernel
theorem dX5_wayAt_77 : decode cX5_wayAt 77 = .ok (.bipush (-5), 2) := by decide +kernel
theorem dX5_wayAt_79 : decode cX5_wayAt 79 = .ok (.ireturn, 1) := by decide +kernel
set_option maxRecDepth 20000 in
theorem ggX5_styled_X5_isStyle : GoodIn wsX5_styled wsX5_isStyle := goodIn_r _ [5] (by decide +kernel) (by decide +kernel)
set_option maxRecDepth 20000 in
theorem gX5_styled_X5_isStyle : GoodIn wsX5_styled (va_wsS RX5 64 yX5_isStyle wsX5_isStyle) := goodIn_app (goodIn_of _ (by decide +kernel)) ggX5_styled_X5_isStyle
set_option maxRecDepth 20000 in
theorem ggX5_styled_X5_isNumber : GoodIn wsX5_styled wsX5_isNumber := goodIn_r _ [8] (by decide +kernel) (by decide +kernel)
set_option maxRecDepth 20000 in
theorem gX5_styled_X5_isNumber : GoodIn wsX5_styled (va_wsS RX5 67 yX5_isNumber wsX5_isNumber) := goodIn_app (goodIn_of _ (by decide +kernel)) ggX5_styled_X5_isNumber
set_option maxRecDepth 20000 in
theorem ggX5_styled_X4_find : GoodIn wsX5_styled wsX4_find := goodIn_r _ [13, 14, 15, 16, 17, 18, 19, 20, 21, 22, 23, 24, 12, 25, 26, 27, 28, 29, 30, 31, 32, 33, 34, 35, 36, 37, 38, 39, 40, 41, 42, 43, 44, 45, 46, 47, 48, 72, 73] (by decide +kernel) (by decide +kernel)
set_option maxRecDepth 20000 in
theorem gX5_styled_X4_find : GoodIn wsX5_styled (wsV RX5 70 RX4 yX4_find wsX4_find) := goodIn_app (goodIn_of _ (by decide +kernel)) ggX5_styled_X4_find
set_option maxRecDepth 20000 in
theorem ggX5_styled_X4_placeOfStyle : GoodIn wsX5_styled wsX4_placeOfStyle := goodIn_r _ [52, 14, 53, 54, 55, 12, 56, 37, 57, 58, 59, 60, 61, 31, 62, 63, 64, 65, 72, 73] (by decide +kernel) (by decide +kernel)
set_option maxRecDepth 20000 in
theorem gX5_styled_X4_placeOfStyle : GoodIn wsX5_styled (wsV RX5 74 RX4 yX4_placeOfStyle wsX4_placeOfStyle) := goodIn_app (goodIn_of _ (by decide +kernel)) ggX5_styled_X4_placeOfStyle
theorem dX5_styled_0 : decode cX5_styled 0 = .ok (.iload_n 2, 1) := by decide +kernel
theorem dX5_styled_1 : decode cX5_styled 1 = .ok (.invokestatic 64, 3) := by decide +kernel
theorem dX5_styled_4 : decode cX5_styled 4 = .ok (.ifCond .ne 5, 3) := by decide +kernel
theorem dX5_styled_7 : decode cX5_styled 7 = .ok (.iconst (-1), 1) := by decide +kernel
theorem dX5_styled_8 : decode cX5_styled 8 = .ok (.ireturn, 1) := by decide +kernel
theorem dX5_styled_9 : decode cX5_styled 9 = .ok (.iload_n 1, 1) := by decide +kernel
theorem dX5_styled_10 : decode cX5_styled 10 = .ok (.invokestatic 67, 3) := by decide +kernel
theorem dX5_styled_13 : decode cX5_styled 13 = .ok (.ifCond .ne 6, 3) := by decide +kernel
theorem dX5_styled_16 : decode cX5_styled 16 = .ok (.bipush (-2), 2) := by decide +kernel
theorem dX5_styled_18 : decode cX5_styled 18 = .ok (.ireturn, 1) := by decide +kernel
theorem dX5_styled_19 : decode cX5_styled 19 = .ok (.aload_n 0, 1) := by decide +kernel
theorem dX5_styled_20 : decode cX5_styled 20 = .ok (.getfield 34, 3) := by decide +kernel
theorem dX5_styled_23 : decode cX5_styled 23 = .ok (.iload_n 1, 1) := by decide +kernel
theorem dX5_styled_24 : decode cX5_styled 24 = .ok (.invokevirtual 70, 3) := by decide +kernel
theorem dX5_styled_27 : decode cX5_styled 27 = .ok (.aload_n 0, 1) := by decide +kernel
theorem dX5_styled_28 : decode cX5_styled 28 = .ok (.getfield 34, 3) := by decide +kernel
theorem dX5_styled_31 : decode cX5_styled 31 = .ok (.iload_n 2, 1) := by decide +kernel
theorem dX5_styled_32 : decode cX5_styled 32 = .ok (.invokevirtual 74, 3) := by decide +kernel
theorem dX5_styled_35 : decode cX5_styled 35 = .ok (.ireturn, 1) := by decide +kernel
set_option maxRecDepth 20000 in
theorem ggX5_placeOfText_X5_fault : GoodIn wsX5_placeOfText wsX5_fault := goodIn_r _ [6, 7, 8, 9, 10, 11, 12, 13, 14, 15, 16, 17, 18, 19, 20, 21, 22, 23, 24, 25, 26, 27, 28, 29, 30, 31, 32, 33, 34, 35, 36, 37, 38, 39, 40, 41, 42, 43, 44, 45, 46, 47, 48, 49, 50, 51, 52, 53, 54, 55, 56, 57, 58, 59, 60, 61, 62, 63, 64, 65, 66, 67, 68, 69, 70, 71, 141, 142, 143, 144, 145, 146, 147, 148, 149, 150, 151, 152, 153, 154, 155, 156, 157] (by decide +kernel) (by decide +kernel)
set_option maxRecDepth 20000 in
theorem gX5_placeOfText_X5_fault : GoodIn wsX5_placeOfText (wsV RX5 86 RX5 yX5_fault wsX5_fault) := goodIn_app (goodIn_of _ (by decide +kernel)) ggX5_placeOfText_X5_fault
set_option maxRecDepth 20000 in
theorem ggX5_placeOfText_X5_packedText : GoodIn wsX5_placeOfText wsX5_packedText := goodIn_r _ [75, 8, 9, 76, 77, 78, 79, 141, 142, 143, 144, 145, 146] (by decide +kernel) (by decide +kernel)
set_option maxRecDepth 20000 in
theorem gX5_placeOfText_X5_packedText : GoodIn wsX5_placeOfText (wsV RX5 90 RX5 yX5_packedText wsX5_packedText) := goodIn_app (goodIn_of _ (by decide +kernel)) ggX5_placeOfText_X5_packedText
set_option maxRecDepth 20000 in
theorem ggX5_placeOfText_X5_meant : GoodIn wsX5_placeOfText wsX5_meant := goodIn_r _ [83, 7, 10, 11, 12, 13, 14, 15, 16, 17, 18, 19, 20, 21, 22, 23, 24, 25, 84, 85, 86, 87, 88, 89, 78, 90, 91, 92, 93, 94, 27, 28, 29, 30, 31, 32, 33, 34, 35, 36, 37, 38, 39, 40, 41, 42, 43, 44, 45, 46, 47, 48, 49, 50, 51, 52, 53, 54, 55, 56, 57, 58, 59, 60, 61, 62, 63, 64, 65, 66, 67, 95, 69, 70, 71, 96, 97, 98, 99, 141, 142, 143, 144, 145, 146, 147, 148, 149, 150, 151, 152, 153, 154, 155, 156, 157] (by decide +kernel) (by decide +kernel)
set_option maxRecDepth 20000 in
theorem gX5_placeOfText_X5_meant : GoodIn wsX5_placeOfText (wsV RX5 94 RX5 yX5_meant wsX5_meant) := goodIn_app (goodIn_of _ (by decide +kernel)) ggX5_placeOfText_X5_meant
set_option maxRecDepth 20000 in
theorem ggX5_placeOfText_X4_find : GoodIn wsX5_placeOfText wsX4_find := goodIn_r _ [104, 105, 106, 107, 108, 109, 110, 111, 112, 113, 114, 115, 103, 116, 117, 118, 119, 120, 77, 78, 79, 121, 122, 123, 124, 125, 126, 127, 128, 129, 130, 131, 132, 133, 134, 135, 136, 158, 159] (by decide +kernel) (by decide +kernel)
set_option maxRecDepth 20000 in
theorem gX5_placeOfText_X4_find : GoodIn wsX5_placeOfText (wsV RX5 70 RX4 yX4_find wsX4_find) := goodIn_app (goodIn_of _ (by decide +kernel)) ggX5_placeOfText_X4_find
set_option maxRecDepth 20000 in
theorem ggX5_placeOfText_X4_placeOf : GoodIn wsX5_placeOfText wsX4_placeOf := goodIn_r _ [140, 105, 125, 158, 159] (by decide +kernel) (by decide +kernel)
set_option maxRecDepth 20000 in
theorem gX5_placeOfText_X4_placeOf : GoodIn wsX5_placeOfText (wsV RX5 125 RX4 yX4_placeOf wsX4_placeOf) := goodIn_app (goodIn_of _ (by decide +kernel)) ggX5_placeOfText_X4_placeOf
theorem dX5_placeOfText_0 : decode cX5_placeOfText 0 = .ok (.aload_n 0, 1) := by decide +kernel
theorem dX5_placeOfText_1 : decode cX5_placeOfText 1 = .ok (.invokevirtual 86, 3) := by decide +kernel
theorem dX5_placeOfText_4 : decode cX5_placeOfText 4 = .ok (.bipush (-5), 2) := by decide +kernel
theorem dX5_placeOfText_6 : decode cX5_placeOfText 6 = .ok (.if_icmp .eq 6, 3) := by decide +kernel
theorem dX5_placeOfText_9 : decode cX5_placeOfText 9 = .ok (.bipush (-3), 2) := by decide +kernel
theorem dX5_placeOfText_11 : decode cX5_placeOfText 11 = .ok (.ireturn, 1) := by decide +kernel
theorem dX5_placeOfText_12 : decode cX5_placeOfText 12 = .ok (.aload_n 0, 1) := by decide +kernel
theorem dX5_placeOfText_13 : decode cX5_placeOfText 13 = .ok (.invokevirtual 90, 3) := by decide +kernel
theorem dX5_placeOfText_16 : decode cX5_placeOfText 16 = .ok (.lstore_n 1, 1) := by decide +kernel
theorem dX5_placeOfText_17 : decode cX5_placeOfText 17 = .ok (.aload_n 0, 1) := by decide +kernel
theorem dX5_placeOfText_18 : decode cX5_placeOfText 18 = .ok (.getfield 34, 3) := by decide +kernel
theorem dX5_placeOfText_21 : decode cX5_placeOfText 21 = .ok (.aload_n 0, 1) := by decide +kernel
theorem dX5_placeOfText_22 : decode cX5_placeOfText 22 = .ok (.lload_n 1, 1) := by decide +kernel
theorem dX5_placeOfText_23 : decode cX5_placeOfText 23 = .ok (.invokevirtual 94, 3) := by decide +kernel
theorem dX5_placeOfText_26 : decode cX5_placeOfText 26 = .ok (.invokevirtual 70, 3) := by decide +kernel
theorem dX5_placeOfText_29 : decode cX5_placeOfText 29 = .ok (.aload_n 0, 1) := by decide +kernel
theorem dX5_placeOfText_30 : decode cX5_placeOfText 30 = .ok (.getfield 34, 3) := by decide +kernel
theorem dX5_placeOfText_33 : decode cX5_placeOfText 33 = .ok (.lload_n 1, 1) := by decide +kernel
theorem dX5_placeOfText_34 : decode cX5_placeOfText 34 = .ok (.invokevirtual 125, 3) := by decide +kernel
theorem dX5_placeOfText_37 : decode cX5_placeOfText 37 = .ok (.ireturn, 1) := by decide +kernel
set_option maxRecDepth 20000 in
theorem ggX5_hearer_X5_isHearer : GoodIn wsX5_hearer wsX5_isHearer := goodIn_r _ [6] (by decide +kernel) (by decide +kernel)
set_option maxRecDepth 20000 in
theorem gX5_hearer_X5_isHearer : GoodIn wsX5_hearer (va_wsS RX5 49 yX5_isHearer wsX5_isHearer) := goodIn_app (goodIn_of _ (by decide +kernel)) ggX5_hearer_X5_isHearer
theorem dX5_hearer_0 : decode cX5_hearer 0 = .ok (.iload_n 1, 1) := by decide +kernel
theorem dX5_hearer_1 : decode cX5_hearer 1 = .ok (.invokestatic 49, 3) := by decide +kernel
theorem dX5_hearer_4 : decode cX5_hearer 4 = .ok (.ifCond .ne 5, 3) := by decide +kernel
theorem dX5_hearer_7 : decode cX5_hearer 7 = .ok (.iconst (-1), 1) := by decide +kernel
theorem dX5_hearer_8 : decode cX5_hearer 8 = .ok (.ireturn, 1) := by decide +kernel
theorem dX5_hearer_9 : decode cX5_hearer 9 = .ok (.iload_n 2, 1) := by decide +kernel
theorem dX5_hearer_10 : decode cX5_hearer 10 = .ok (.ifCond .lt 9, 3) := by decide +kernel
theorem dX5_hearer_13 : decode cX5_hearer 13 = .ok (.iload_n 2, 1) := by decide +kernel
theorem dX5_hearer_14 : decode cX5_hearer 14 = .ok (.bipush 9, 2) := by decide +kernel
theorem dX5_hearer_16 : decode cX5_hearer 16 = .ok (.if_icmp .lt 6, 3) := by decide +kernel
theorem dX5_hearer_19 : decode cX5_hearer 19 = .ok (.bipush (-2), 2) := by decide +kernel
theorem dX5_hearer_21 : decode cX5_hearer 21 = .ok (.ireturn, 1) := by decide +kernel
theorem dX5_hearer_22 : decode cX5_hearer 22 = .ok (.aload_n 0, 1) := by decide +kernel
theorem dX5_hearer_23 : decode cX5_hearer 23 = .ok (.getfield 10, 3) := by decide +kernel
theorem dX5_hearer_26 : decode cX5_hearer 26 = .ok (.getfield 57, 3) := by decide +kernel
theorem dX5_hearer_29 : decode cX5_hearer 29 = .ok (.iload_n 1, 1) := by decide +kernel
theorem dX5_hearer_30 : decode cX5_hearer 30 = .ok (.aaload, 1) := by decide +kernel
theorem dX5_hearer_31 : decode cX5_hearer 31 = .ok (.iload_n 2, 1) := by decide +kernel
theorem dX5_hearer_32 : decode cX5_hearer 32 = .ok (.iaload, 1) := by decide +kernel
theorem dX5_hearer_33 : decode cX5_hearer 33 = .ok (.ireturn, 1) := by decide +kernel
set_option maxRecDepth 20000 in
theorem ggX5_understood_X5_isHearer : GoodIn wsX5_understood wsX5_isHearer := goodIn_r _ [6] (by decide +kernel) (by decide +kernel)
set_option maxRecDepth 20000 in
theorem gX5_understood_X5_isHearer : GoodIn wsX5_understood (va_wsS RX5 49 yX5_isHearer wsX5_isHearer) := goodIn_app (goodIn_of _ (by decide +kernel)) ggX5_understood_X5_isHearer
set_option maxRecDepth 20000 in
theorem ggX5_understood_X5_isNumber : GoodIn wsX5_understood wsX5_isNumber := goodIn_r _ [9] (by decide +kernel) (by decide +kernel)
set_option maxRecDepth 20000 in
theorem gX5_understood_X5_isNumber : GoodIn wsX5_understood (va_wsS RX5 67 yX5_isNumber wsX5_isNumber) := goodIn_app (goodIn_of _ (by decide +kernel)) ggX5_understood_X5_isNumber
set_option maxRecDepth 20000 in
theorem ggX5_understood_X4_find : GoodIn wsX5_understood wsX4_find := goodIn_r _ [14, 15, 16, 17, 18, 19, 20, 21, 22, 23, 24, 25, 13, 26, 27, 28, 29, 30, 31, 32, 33, 34, 35, 36, 37, 38, 39, 40, 41, 42, 43, 44, 45, 46, 47, 48, 49, 146, 147] (by decide +kernel) (by decide +kernel)
set_option maxRecDepth 20000 in
theorem gX5_understood_X4_find : GoodIn wsX5_understood (wsV RX5 70 RX4 yX4_find wsX4_find) := goodIn_app (goodIn_of _ (by decide +kernel)) ggX5_understood_X4_find
set_option maxRecDepth 20000 in
theorem ggX5_understood_X4_at : GoodIn wsX5_understood wsX4_at := goodIn_r _ [53, 38, 146, 147] (by decide +kernel) (by decide +kernel)
set_option maxRecDepth 20000 in
theorem gX5_understood_X4_at : GoodIn wsX5_understood (wsV RX5 78 RX4 yX4_at wsX4_at) := goodIn_app (goodIn_of _ (by decide +kernel)) ggX5_understood_X4_at
set_option maxRecDepth 20000 in
theorem ggX5_understood_X5_heard : GoodIn wsX5_understood wsX5_heard := goodIn_r _ [57, 58, 59, 60, 61, 62, 63, 64, 65, 66, 67, 68, 69, 70, 71, 72, 73, 74, 75, 76, 77, 78, 79, 80, 81, 82, 32, 83, 84, 85, 86, 87, 88, 89, 90, 91, 92, 93, 94, 95, 96, 97, 98, 99, 100, 101, 102, 103, 104, 105, 106, 107, 108, 109, 110, 111, 112, 113, 114, 115, 116, 117, 118, 119, 120, 121, 122, 123, 124, 125, 126, 127, 128, 129, 130, 131, 132, 133, 134, 135, 136, 140, 141, 142, 143, 144, 145, 148, 149, 150, 151, 152, 153, 154, 155, 156, 157, 158, 159, 160, 161, 162, 163] (by decide +kernel) (by decide +kernel)
set_option maxRecDepth 20000 in
theorem gX5_understood_X5_heard : GoodIn wsX5_understood (wsV RX5 128 RX5 yX5_heard wsX5_heard) := goodIn_app (goodIn_of _ (by decide +kernel)) ggX5_understood_X5_heard
set_option maxRecDepth 20000 in
theorem ggX5_understood_X5_orNone : GoodIn wsX5_understood wsX5_orNone := goodIn_r _ [139] (by decide +kernel) (by decide +kernel)
set_option maxRecDepth 20000 in
theorem gX5_understood_X5_orNone : GoodIn wsX5_understood (va_wsS RX5 132 yX5_orNone wsX5_orNone) := goodIn_app (goodIn_of _ (by decide +kernel)) ggX5_understood_X5_orNone
theorem dX5_understood_0 : decode cX5_understood 0 = .ok (.iload_n 1, 1) := by decide +kernel
theorem dX5_understood_1 : decode cX5_understood 1 = .ok (.invokestatic 49, 3) := by decide +kernel
theorem dX5_understood_4 : decode cX5_understood 4 = .ok (.ifCond .ne 5, 3) := by decide +kernel
theorem dX5_understood_7 : decode cX5_understood 7 = .ok (.iconst (-1), 1) := by decide +kernel
theorem dX5_understood_8 : decode cX5_understood 8 = .ok (.ireturn, 1) := by decide +kernel
theorem dX5_understood_9 : decode cX5_understood 9 = .ok (.iload_n 2, 1) := by decide +kernel
theorem dX5_understood_10 : decode cX5_understood 10 = .ok (.invokestatic 67, 3) := by decide +kernel
theorem dX5_understood_13 : decode cX5_understood 13 = .ok (.ifCond .eq 7, 3) := by decide +kernel
theorem dX5_understood_16 : decode cX5_understood 16 = .ok (.iload_n 3, 1) := by decide +kernel
theorem dX5_understood_17 : decode cX5_understood 17 = .ok (.ifCond .ge 6, 3) := by decide +kernel
theorem dX5_understood_20 : decode cX5_understood 20 = .ok (.bipush (-2), 2) := by decide +kernel
theorem dX5_understood_22 : decode cX5_understood 22 = .ok (.ireturn, 1) := by decide +kernel
theorem dX5_understood_23 : decode cX5_understood 23 = .ok (.aload_n 0, 1) := by decide +kernel
theorem dX5_understood_24 : decode cX5_understood 24 = .ok (.getfield 34, 3) := by decide +kernel
theorem dX5_understood_27 : decode cX5_understood 27 = .ok (.iload_n 2, 1) := by decide +kernel
theorem dX5_understood_28 : decode cX5_understood 28 = .ok (.invokevirtual 70, 3) := by decide +kernel
theorem dX5_understood_31 : decode cX5_understood 31 = .ok (.iload_n 3, 1) := by decide +kernel
theorem dX5_understood_32 : decode cX5_understood 32 = .ok (.aload_n 0, 1) := by decide +kernel
theorem dX5_understood_33 : decode cX5_understood 33 = .ok (.getfield 34, 3) := by decide +kernel
theorem dX5_understood_36 : decode cX5_understood 36 = .ok (.getfield 113, 3) := by decide +kernel
theorem dX5_understood_39 : decode cX5_understood 39 = .ok (.if_icmp .lt 6, 3) := by decide +kernel
theorem dX5_understood_42 : decode cX5_understood 42 = .ok (.bipush (-5), 2) := by decide +kernel
theorem dX5_understood_44 : decode cX5_understood 44 = .ok (.ireturn, 1) := by decide +kernel
theorem dX5_understood_45 : decode cX5_understood 45 = .ok (.aload_n 0, 1) := by decide +kernel
theorem dX5_understood_46 : decode cX5_understood 46 = .ok (.iload_n 1, 1) := by decide +kernel
theorem dX5_understood_47 : decode cX5_understood 47 = .ok (.aload_n 0, 1) := by decide +kernel
theorem dX5_understood_48 : decode cX5_understood 48 = .ok (.getfield 34, 3) := by decide +kernel
theorem dX5_understood_51 : decode cX5_understood 51 = .ok (.iload_n 3, 1) := by decide +kernel
theorem dX5_understood_52 : decode cX5_understood 52 = .ok (.invokevirtual 78, 3) := by decide +kernel
theorem dX5_understood_55 : decode cX5_understood 55 = .ok (.invokevirtual 128, 3) := by decide +kernel
theorem dX5_understood_58 : decode cX5_understood 58 = .ok (.invokestatic 132, 3) := by decide +kernel
theorem dX5_understood_61 : decode cX5_understood 61 = .ok (.ireturn, 1) := by decide +kernel
set_option maxRecDepth 20000 in
theorem ggX5_understoodText_X5_isHearer : GoodIn wsX5_understoodText wsX5_isHearer := goodIn_r _ [4] (by decide +kernel) (by decide +kernel)
set_option maxRecDepth 20000 in
theorem gX5_understoodText_X5_isHearer : GoodIn wsX5_understoodText (va_wsS RX5 49 yX5_isHearer wsX5_isHearer) := goodIn_app (goodIn_of _ (by decide +kernel)) ggX5_understoodText_X5_isHearer
set_option maxRecDepth 20000 in
theorem ggX5_understoodText_X5_fault : GoodIn wsX5_understoodText wsX5_fault := goodIn_r _ [8, 9, 10, 11, 12, 13, 14, 15, 16, 17, 18, 19, 20, 21, 22, 23, 24, 25, 26, 27, 28, 29, 30, 31, 32, 33, 34, 35, 36, 37, 38, 39, 40, 41, 42, 43, 44, 45, 46, 47, 48, 49, 50, 51, 52, 53, 54, 55, 56, 57, 58, 59, 60, 61, 62, 63, 64, 65, 66, 67, 68, 69, 70, 71, 72, 73, 107, 108, 109, 110, 111, 112, 113, 114, 115, 116, 117, 118, 119, 120, 121, 122, 123] (by decide +kernel) (by decide +kernel)
set_option maxRecDepth 20000 in
theorem gX5_understoodText_X5_fault : GoodIn wsX5_understoodText (wsV RX5 86 RX5 yX5_fault wsX5_fault) := goodIn_app (goodIn_of _ (by decide +kernel)) ggX5_understoodText_X5_fault
set_option maxRecDepth 20000 in
theorem ggX5_understoodText_X5_packedText : GoodIn wsX5_understoodText wsX5_packedText := goodIn_r _ [77, 10, 11, 78, 79, 80, 81, 107, 108, 109, 110, 111, 112] (by decide +kernel) (by decide +kernel)
set_option maxRecDepth 20000 in
theorem gX5_understoodText_X5_packedText : GoodIn wsX5_understoodText (wsV RX5 90 RX5 yX5_packedText wsX5_packedText) := goodIn_app (goodIn_of _ (by decide +kernel)) ggX5_understoodText_X5_packedText
set_option maxRecDepth 20000 in
theorem ggX5_understoodText_X5_heard : GoodIn wsX5_understoodText wsX5_heard := goodIn_r _ [85, 86, 87, 9, 12, 13, 14, 15, 16, 17, 18, 19, 20, 21, 22, 23, 24, 25, 26, 27, 88, 89, 90, 91, 92, 93, 80, 94, 95, 96, 97, 98, 29, 30, 31, 32, 33, 34, 35, 36, 37, 38, 39, 40, 41, 42, 43, 44, 45, 46, 47, 48, 49, 50, 51, 52, 53, 54, 55, 56, 57, 58, 59, 60, 61, 62, 63, 64, 65, 66, 67, 68, 69, 99, 71, 72, 73, 100, 101, 102, 103, 107, 108, 109, 110, 111, 112, 124, 125, 126, 127, 128, 113, 114, 115, 116, 117, 118, 119, 120, 121, 122, 123] (by decide +kernel) (by decide +kernel)
set_option maxRecDepth 20000 in
theorem gX5_understoodText_X5_heard : GoodIn wsX5_understoodText (wsV RX5 128 RX5 yX5_heard wsX5_heard) := goodIn_app (goodIn_of _ (by decide +kernel)) ggX5_understoodText_X5_heard
set_option maxRecDepth 20000 in
theorem ggX5_understoodText_X5_orNone : GoodIn wsX5_understoodText wsX5_orNone := goodIn_r _ [106] (by decide +kernel) (by decide +kernel)
set_option maxRecDepth 20000 in
theorem gX5_understoodText_X5_orNone : GoodIn wsX5_understoodText (va_wsS RX5 132 yX5_orNone wsX5_orNone) := goodIn_app (goodIn_of _ (by decide +kernel)) ggX5_understoodText_X5_orNone
theorem dX5_understoodText_0 : decode cX5_understoodText 0 = .ok (.iload_n 1, 1) := by decide +kernel
theorem dX5_understoodText_1 : decode cX5_understoodText 1 = .ok (.invokestatic 49, 3) := by decide +kernel
theorem dX5_understoodText_4 : decode cX5_understoodText 4 = .ok (.ifCond .ne 5, 3) := by decide +kernel
theorem dX5_understoodText_7 : decode cX5_understoodText 7 = .ok (.iconst (-1), 1) := by decide +kernel
theorem dX5_understoodText_8 : decode cX5_understoodText 8 = .ok (.ireturn, 1) := by decide +kernel
theorem dX5_understoodText_9 : decode cX5_understoodText 9 = .ok (.aload_n 0, 1) := by decide +kernel
theorem dX5_understoodText_10 : decode cX5_understoodText 10 = .ok (.invokevirtual 86, 3) := by decide +kernel
theorem dX5_understoodText_13 : decode cX5_understoodText 13 = .ok (.bipush (-5), 2) := by decide +kernel
theorem dX5_understoodText_15 : decode cX5_understoodText 15 = .ok (.if_icmp .eq 6, 3) := by decide +kernel
theorem dX5_understoodText_18 : decode cX5_understoodText 18 = .ok (.bipush (-3), 2) := by decide +kernel
theorem dX5_understoodText_20 : decode cX5_understoodText 20 = .ok (.ireturn, 1) := by decide +kernel
theorem dX5_understoodText_21 : decode cX5_understoodText 21 = .ok (.aload_n 0, 1) := by decide +kernel
theorem dX5_understoodText_22 : decode cX5_understoodText 22 = .ok (.iload_n 1, 1) := by decide +kernel
theorem dX5_understoodText_23 : decode cX5_understoodText 23 = .ok (.aload_n 0, 1) := by decide +kernel
theorem dX5_understoodText_24 : decode cX5_understoodText 24 = .ok (.invokevirtual 90, 3) := by decide +kernel
theorem dX5_understoodText_27 : decode cX5_understoodText 27 = .ok (.invokevirtual 128, 3) := by decide +kernel
theorem dX5_understoodText_30 : decode cX5_understoodText 30 = .ok (.invokestatic 132, 3) := by decide +kernel
theorem dX5_understoodText_33 : decode cX5_understoodText 33 = .ok (.ireturn, 1) := by decide +kernel
set_option maxRecDepth 20000 in
theorem ggX5_bestWay_X5_isHearer : GoodIn wsX5_bestWay wsX5_isHearer := goodIn_r _ [4] (by decide +kernel) (by decide +kernel)
set_option maxRecDepth 20000 in
theorem gX5_bestWay_X5_isHearer : GoodIn wsX5_bestWay (va_wsS RX5 49 yX5_isHearer wsX5_isHearer) := goodIn_app (goodIn_of _ (by decide +kernel)) ggX5_bestWay_X5_isHearer
set_option maxRecDepth 20000 in
theorem ggX5_bestWay_X5_isNumber : GoodIn wsX5_bestWay wsX5_isNumber := goodIn_r _ [7] (by decide +kernel) (by decide +kernel)
set_option maxRecDepth 20000 in
theorem gX5_bestWay_X5_isNumber : GoodIn wsX5_bestWay (va_wsS RX5 67 yX5_isNumber wsX5_isNumber) := goodIn_app (goodIn_of _ (by decide +kernel)) ggX5_bestWay_X5_isNumber
set_option maxRecDepth 20000 in
theorem ggX5_bestWay_X5_firstUnderstood : GoodIn wsX5_bestWay wsX5_firstUnderstood := goodIn_r _ [11, 12, 13, 14, 15, 16, 17, 18, 19, 20, 21, 22, 23, 24, 25, 26, 27, 28, 29, 30, 31, 32, 33, 34, 35, 36, 37, 38, 39, 40, 41, 42, 43, 44, 45, 46, 47, 48, 49, 50, 51, 52, 53, 54, 55, 56, 57, 58, 59, 60, 3, 61, 62, 63, 64, 65, 66, 67, 68, 69, 70, 71, 72, 73, 74, 75, 76, 77, 78, 79, 80, 81, 82, 83, 84, 85, 86, 87, 88, 89, 90, 91, 92, 93, 94, 95, 96, 97, 98, 99, 100, 101, 102, 103, 104, 105, 106, 107, 108, 109, 110, 111, 112, 113, 114, 115, 116, 117, 118, 119, 120, 121, 122, 123, 124, 125, 126, 127, 128, 129, 130, 131, 132, 133, 134, 135, 136, 137, 138, 139, 140, 141, 142, 143, 144, 145, 146, 147, 148, 149, 150, 151, 152, 153, 154, 155, 156, 157, 158, 159, 160, 161, 162, 163, 164] (by decide +kernel) (by decide +kernel)
set_option maxRecDepth 20000 in
theorem gX5_bestWay_X5_firstUnderstood : GoodIn wsX5_bestWay (wsV RX5 135 RX5 yX5_firstUnderstood wsX5_firstUnderstood) := goodIn_app (goodIn_of _ (by decide +kernel)) ggX5_bestWay_X5_firstUnderstood
theorem dX5_bestWay_0 : decode cX5_bestWay 0 = .ok (.iload_n 1, 1) := by decide +kernel
theorem dX5_bestWay_1 : decode cX5_bestWay 1 = .ok (.invokestatic 49, 3) := by decide +kernel
theorem dX5_bestWay_4 : decode cX5_bestWay 4 = .ok (.ifCond .ne 5, 3) := by decide +kernel
theorem dX5_bestWay_7 : decode cX5_bestWay 7 = .ok (.iconst (-1), 1) := by decide +kernel
theorem dX5_bestWay_8 : decode cX5_bestWay 8 = .ok (.ireturn, 1) := by decide +kernel
theorem dX5_bestWay_9 : decode cX5_bestWay 9 = .ok (.iload_n 2, 1) := by decide +kernel
theorem dX5_bestWay_10 : decode cX5_bestWay 10 = .ok (.invokestatic 67, 3) := by decide +kernel
theorem dX5_bestWay_13 : decode cX5_bestWay 13 = .ok (.ifCond .ne 6, 3) := by decide +kernel
theorem dX5_bestWay_16 : decode cX5_bestWay 16 = .ok (.bipush (-2), 2) := by decide +kernel
theorem dX5_bestWay_18 : decode cX5_bestWay 18 = .ok (.ireturn, 1) := by decide +kernel
theorem dX5_bestWay_19 : decode cX5_bestWay 19 = .ok (.aload_n 0, 1) := by decide +kernel
theorem dX5_bestWay_20 : decode cX5_bestWay 20 = .ok (.iload_n 1, 1) := by decide +kernel
theorem dX5_bestWay_21 : decode cX5_bestWay 21 = .ok (.iload_n 2, 1) := by decide +kernel
theorem dX5_bestWay_22 : decode cX5_bestWay 22 = .ok (.invokevirtual 135, 3) := by decide +kernel
theorem dX5_bestWay_25 : decode cX5_bestWay 25 = .ok (.ireturn, 1) := by decide +kernel
set_option maxRecDepth 20000 in
theorem ggX5_commonWay_X5_isNumber : GoodIn wsX5_commonWay wsX5_isNumber := goodIn_r _ [6] (by decide +kernel) (by decide +kernel)
set_option maxRecDepth 20000 in
theorem gX5_commonWay_X5_isNumber : GoodIn wsX5_commonWay (va_wsS RX5 67 yX5_isNumber wsX5_isNumber) := goodIn_app (goodIn_of _ (by decide +kernel)) ggX5_commonWay_X5_isNumber
set_option maxRecDepth 20000 in
theorem ggX5_commonWay_X4_find : GoodIn wsX5_commonWay wsX4_find := goodIn_r _ [11, 12, 13, 14, 15, 16, 17, 18, 19, 20, 21, 22, 10, 23, 24, 25, 26, 27, 28, 29, 30, 31, 32, 33, 34, 35, 36, 37, 38, 39, 40, 41, 42, 43, 44, 45, 46, 144, 145] (by decide +kernel) (by decide +kernel)
set_option maxRecDepth 20000 in
theorem gX5_commonWay_X4_find : GoodIn wsX5_commonWay (wsV RX5 70 RX4 yX4_find wsX4_find) := goodIn_app (goodIn_of _ (by decide +kernel)) ggX5_commonWay_X4_find
set_option maxRecDepth 20000 in
theorem ggX5_commonWay_X4_at : GoodIn wsX5_commonWay wsX4_at := goodIn_r _ [50, 35, 144, 145] (by decide +kernel) (by decide +kernel)
set_option maxRecDepth 20000 in
theorem gX5_commonWay_X4_at : GoodIn wsX5_commonWay (wsV RX5 78 RX4 yX4_at wsX4_at) := goodIn_app (goodIn_of _ (by decide +kernel)) ggX5_commonWay_X4_at
set_option maxRecDepth 20000 in
theorem ggX5_commonWay_X5_reached : GoodIn wsX5_commonWay wsX5_reached := goodIn_r _ [54, 55, 56, 57, 5, 58, 59, 60, 61, 62, 63, 64, 65, 66, 67, 68, 69, 70, 71, 72, 73, 74, 75, 76, 77, 78, 79, 80, 81, 82, 83, 29, 84, 85, 86, 87, 88, 89, 90, 91, 92, 93, 94, 95, 96, 97, 98, 99, 100, 101, 102, 103, 104, 105, 106, 107, 108, 109, 110, 111, 112, 113, 114, 115, 116, 117, 118, 119, 120, 121, 122, 123, 124, 125, 126, 127, 128, 129, 130, 131, 132, 133, 134, 135, 136, 137, 138, 139, 140, 141, 142, 143, 146, 147, 148, 149, 150, 151, 152, 153, 154, 155, 156, 157, 158, 159, 160, 161] (by decide +kernel) (by decide +kernel)
set_option maxRecDepth 20000 in
theorem gX5_commonWay_X5_reached : GoodIn wsX5_commonWay (wsV RX5 139 RX5 yX5_reached wsX5_reached) := goodIn_app (goodIn_of _ (by decide +kernel)) ggX5_commonWay_X5_reached
theorem dX5_commonWay_0 : decode cX5_commonWay 0 = .ok (.iload_n 1, 1) := by decide +kernel
theorem dX5_commonWay_1 : decode cX5_commonWay 1 = .ok (.invokestatic 67, 3) := by decide +kernel
theorem dX5_commonWay_4 : decode cX5_commonWay 4 = .ok (.ifCond .ne 6, 3) := by decide +kernel
theorem dX5_commonWay_7 : decode cX5_commonWay 7 = .ok (.bipush (-2), 2) := by decide +kernel
theorem dX5_commonWay_9 : decode cX5_commonWay 9 = .ok (.ireturn, 1) := by decide +kernel
theorem dX5_commonWay_10 : decode cX5_commonWay 10 = .ok (.aload_n 0, 1) := by decide +kernel
theorem dX5_commonWay_11 : decode cX5_commonWay 11 = .ok (.getfield 34, 3) := by decide +kernel
theorem dX5_commonWay_14 : decode cX5_commonWay 14 = .ok (.iload_n 1, 1) := by decide +kernel
theorem dX5_commonWay_15 : decode cX5_commonWay 15 = .ok (.invokevirtual 70, 3) := by decide +kernel
theorem dX5_commonWay_18 : decode cX5_commonWay 18 = .ok (.iconst 0, 1) := by decide +kernel
theorem dX5_commonWay_19 : decode cX5_commonWay 19 = .ok (.istore_n 2, 1) := by decide +kernel
theorem dX5_commonWay_20 : decode cX5_commonWay 20 = .ok (.iconst 0, 1) := by decide +kernel
theorem dX5_commonWay_21 : decode cX5_commonWay 21 = .ok (.istore_n 3, 1) := by decide +kernel
theorem dX5_commonWay_22 : decode cX5_commonWay 22 = .ok (.iconst 0, 1) := by decide +kernel
theorem dX5_commonWay_23 : decode cX5_commonWay 23 = .ok (.istore 4, 2) := by decide +kernel
theorem dX5_commonWay_25 : decode cX5_commonWay 25 = .ok (.iload 4, 2) := by decide +kernel
theorem dX5_commonWay_27 : decode cX5_commonWay 27 = .ok (.aload_n 0, 1) := by decide +kernel
theorem dX5_commonWay_28 : decode cX5_commonWay 28 = .ok (.getfield 34, 3) := by decide +kernel
theorem dX5_commonWay_31 : decode cX5_commonWay 31 = .ok (.getfield 113, 3) := by decide +kernel
theorem dX5_commonWay_34 : decode cX5_commonWay 34 = .ok (.if_icmp .ge 37, 3) := by decide +kernel
theorem dX5_commonWay_37 : decode cX5_commonWay 37 = .ok (.aload_n 0, 1) := by decide +kernel
theorem dX5_commonWay_38 : decode cX5_commonWay 38 = .ok (.iload_n 1, 1) := by decide +kernel
theorem dX5_commonWay_39 : decode cX5_commonWay 39 = .ok (.aload_n 0, 1) := by decide +kernel
theorem dX5_commonWay_40 : decode cX5_commonWay 40 = .ok (.getfield 34, 3) := by decide +kernel
theorem dX5_commonWay_43 : decode cX5_commonWay 43 = .ok (.iload 4, 2) := by decide +kernel
theorem dX5_commonWay_45 : decode cX5_commonWay 45 = .ok (.invokevirtual 78, 3) := by decide +kernel
theorem dX5_commonWay_48 : decode cX5_commonWay 48 = .ok (.invokevirtual 139, 3) := by decide +kernel
theorem dX5_commonWay_51 : decode cX5_commonWay 51 = .ok (.istore 5, 2) := by decide +kernel
theorem dX5_commonWay_53 : decode cX5_commonWay 53 = .ok (.iload 5, 2) := by decide +kernel
theorem dX5_commonWay_55 : decode cX5_commonWay 55 = .ok (.iload_n 3, 1) := by decide +kernel
theorem dX5_commonWay_56 : decode cX5_commonWay 56 = .ok (.if_icmp .le 9, 3) := by decide +kernel
theorem dX5_commonWay_59 : decode cX5_commonWay 59 = .ok (.iload 5, 2) := by decide +kernel
theorem dX5_commonWay_61 : decode cX5_commonWay 61 = .ok (.istore_n 3, 1) := by decide +kernel
theorem dX5_commonWay_62 : decode cX5_commonWay 62 = .ok (.iload 4, 2) := by decide +kernel
theorem dX5_commonWay_64 : decode cX5_commonWay 64 = .ok (.istore_n 2, 1) := by decide +kernel
theorem dX5_commonWay_65 : decode cX5_commonWay 65 = .ok (.iinc 4 1, 3) := by decide +kernel
theorem dX5_commonWay_68 : decode cX5_commonWay 68 = .ok (.goto (-43), 3) := by decide +kernel
theorem dX5_commonWay_71 : decode cX5_commonWay 71 = .ok (.iload_n 2, 1) := by decide +kernel
theorem dX5_commonWay_72 : decode cX5_commonWay 72 = .ok (.ireturn, 1) := by decide +kernel
set_option maxRecDepth 20000 in
theorem ggX5_reach_X5_isStyle : GoodIn wsX5_reach wsX5_isStyle := goodIn_r _ [5] (by decide +kernel) (by decide +kernel)
set_option maxRecDepth 20000 in
theorem gX5_reach_X5_isStyle : GoodIn wsX5_reach (va_wsS RX5 64 yX5_isStyle wsX5_isStyle) := goodIn_app (goodIn_of _ (by decide +kernel)) ggX5_reach_X5_isStyle
set_option maxRecDepth 20000 in
theorem ggX5_reach_X5_isNumber : GoodIn wsX5_reach wsX5_isNumber := goodIn_r _ [8] (by decide +kernel) (by decide +kernel)
set_option maxRecDepth 20000 in
theorem gX5_reach_X5_isNumber : GoodIn wsX5_reach (va_wsS RX5 67 yX5_isNumber wsX5_isNumber) := goodIn_app (goodIn_of _ (by decide +kernel)) ggX5_reach_X5_isNumber
set_option maxRecDepth 20000 in
theorem ggX5_reach_X4_find : GoodIn wsX5_reach wsX4_find := goodIn_r _ [13, 14, 15, 16, 17, 18, 19, 20, 21, 22, 23, 24, 12, 25, 26, 27, 28, 29, 30, 31, 32, 33, 34, 35, 36, 37, 38, 39, 40, 41, 42, 43, 44, 45, 46, 47, 48, 158, 159] (by decide +kernel) (by decide +kernel)
set_option maxRecDepth 20000 in
theorem gX5_reach_X4_find : GoodIn wsX5_reach (wsV RX5 70 RX4 yX4_find wsX4_find) := goodIn_app (goodIn_of _ (by decide +kernel)) ggX5_reach_X4_find
set_option maxRecDepth 20000 in
theorem ggX5_reach_X4_placeOfStyle : GoodIn wsX5_reach wsX4_placeOfStyle := goodIn_r _ [52, 14, 53, 54, 55, 12, 56, 37, 57, 58, 59, 60, 61, 31, 62, 63, 64, 65, 158, 159] (by decide +kernel) (by decide +kernel)
set_option maxRecDepth 20000 in
theorem gX5_reach_X4_placeOfStyle : GoodIn wsX5_reach (wsV RX5 74 RX4 yX4_placeOfStyle wsX4_placeOfStyle) := goodIn_app (goodIn_of _ (by decide +kernel)) ggX5_reach_X4_placeOfStyle
set_option maxRecDepth 20000 in
theorem ggX5_reach_X4_at : GoodIn wsX5_reach wsX4_at := goodIn_r _ [56, 37, 158, 159] (by decide +kernel) (by decide +kernel)
set_option maxRecDepth 20000 in
theorem gX5_reach_X4_at : GoodIn wsX5_reach (wsV RX5 78 RX4 yX4_at wsX4_at) := goodIn_app (goodIn_of _ (by decide +kernel)) ggX5_reach_X4_at
set_option maxRecDepth 20000 in
theorem ggX5_reach_X5_reached : GoodIn wsX5_reach wsX5_reached := goodIn_r _ [70, 71, 72, 73, 4, 74, 75, 76, 77, 78, 79, 80, 81, 82, 83, 84, 85, 86, 87, 88, 89, 90, 91, 92, 93, 94, 95, 96, 97, 98, 99, 31, 100, 101, 64, 65, 102, 103, 104, 105, 106, 107, 108, 109, 110, 111, 112, 113, 114, 115, 116, 117, 118, 119, 120, 121, 122, 123, 124, 125, 126, 127, 128, 129, 130, 131, 132, 133, 134, 135, 136, 137, 138, 139, 140, 141, 142, 143, 144, 145, 146, 147, 148, 149, 150, 151, 152, 153, 154, 155, 156, 157, 160, 161, 162, 163, 164, 165, 166, 167, 168, 169, 170, 171, 172, 173, 174, 175] (by decide +kernel) (by decide +kernel)
set_option maxRecDepth 20000 in
theorem gX5_reach_X5_reached : GoodIn wsX5_reach (wsV RX5 139 RX5 yX5_reached wsX5_reached) := goodIn_app (goodIn_of _ (by decide +kernel)) ggX5_reach_X5_reached
theorem dX5_reach_0 : decode cX5_reach 0 = .ok (.iload_n 2, 1) := by decide +kernel
theorem dX5_reach_1 : decode cX5_reach 1 = .ok (.invokestatic 64, 3) := by decide +kernel
theorem dX5_reach_4 : decode cX5_reach 4 = .ok (.ifCond .ne 5, 3) := by decide +kernel
theorem dX5_reach_7 : decode cX5_reach 7 = .ok (.iconst (-1), 1) := by decide +kernel
theorem dX5_reach_8 : decode cX5_reach 8 = .ok (.ireturn, 1) := by decide +kernel
theorem dX5_reach_9 : decode cX5_reach 9 = .ok (.iload_n 1, 1) := by decide +kernel
theorem dX5_reach_10 : decode cX5_reach 10 = .ok (.invokestatic 67, 3) := by decide +kernel
theorem dX5_reach_13 : decode cX5_reach 13 = .ok (.ifCond .ne 6, 3) := by decide +kernel
theorem dX5_reach_16 : decode cX5_reach 16 = .ok (.bipush (-2), 2) := by decide +kernel
theorem dX5_reach_18 : decode cX5_reach 18 = .ok (.ireturn, 1) := by decide +kernel
theorem dX5_reach_19 : decode cX5_reach 19 = .ok (.aload_n 0, 1) := by decide +kernel
theorem dX5_reach_20 : decode cX5_reach 20 = .ok (.getfield 34, 3) := by decide +kernel
theorem dX5_reach_23 : decode cX5_reach 23 = .ok (.iload_n 1, 1) := by decide +kernel
theorem dX5_reach_24 : decode cX5_reach 24 = .ok (.invokevirtual 70, 3) := by decide +kernel
theorem dX5_reach_27 : decode cX5_reach 27 = .ok (.aload_n 0, 1) := by decide +kernel
theorem dX5_reach_28 : decode cX5_reach 28 = .ok (.iload_n 1, 1) := by decide +kernel
theorem dX5_reach_29 : decode cX5_reach 29 = .ok (.aload_n 0, 1) := by decide +kernel
theorem dX5_reach_30 : decode cX5_reach 30 = .ok (.getfield 34, 3) := by decide +kernel
theorem dX5_reach_33 : decode cX5_reach 33 = .ok (.aload_n 0, 1) := by decide +kernel
theorem dX5_reach_34 : decode cX5_reach 34 = .ok (.getfield 34, 3) := by decide +kernel
theorem dX5_reach_37 : decode cX5_reach 37 = .ok (.iload_n 2, 1) := by decide +kernel
theorem dX5_reach_38 : decode cX5_reach 38 = .ok (.invokevirtual 74, 3) := by decide +kernel
theorem dX5_reach_41 : decode cX5_reach 41 = .ok (.invokevirtual 78, 3) := by decide +kernel
theorem dX5_reach_44 : decode cX5_reach 44 = .ok (.invokevirtual 139, 3) := by decide +kernel
theorem dX5_reach_47 : decode cX5_reach 47 = .ok (.ireturn, 1) := by decide +kernel
set_option maxRecDepth 20000 in
theorem ggX5_untellable_X5_isHearer : GoodIn wsX5_untellable wsX5_isHearer := goodIn_r _ [8] (by decide +kernel) (by decide +kernel)
set_option maxRecDepth 20000 in
theorem gX5_untellable_X5_isHearer : GoodIn wsX5_untellable (va_wsS RX5 49 yX5_isHearer wsX5_isHearer) := goodIn_app (goodIn_of _ (by decide +kernel)) ggX5_untellable_X5_isHearer
set_option maxRecDepth 20000 in
theorem ggX5_untellable_X5_isNumber : GoodIn wsX5_untellable wsX5_isNumber := goodIn_r _ [11] (by decide +kernel) (by decide +kernel)
set_option maxRecDepth 20000 in
theorem gX5_untellable_X5_isNumber : GoodIn wsX5_untellable (va_wsS RX5 67 yX5_isNumber wsX5_isNumber) := goodIn_app (goodIn_of _ (by decide +kernel)) ggX5_untellable_X5_isNumber
set_option maxRecDepth 20000 in
theorem ggX5_untellable_X5_firstUnderstood : GoodIn wsX5_untellable wsX5_firstUnderstood := goodIn_r _ [15, 16, 17, 18, 19, 20, 21, 22, 23, 24, 25, 3, 26, 27, 2, 4, 28, 29, 30, 31, 32, 33, 34, 35, 36, 37, 38, 39, 40, 41, 42, 43, 44, 45, 46, 47, 48, 49, 50, 51, 52, 53, 54, 55, 56, 57, 58, 59, 60, 61, 7, 62, 63, 64, 65, 66, 67, 68, 69, 70, 71, 72, 73, 74, 75, 76, 77, 78, 79, 80, 81, 82, 83, 84, 85, 86, 87, 88, 89, 90, 91, 92, 93, 94, 95, 96, 97, 98, 99, 100, 101, 102, 103, 104, 105, 106, 107, 108, 109, 110, 111, 112, 113, 114, 115, 116, 117, 118, 119, 120, 121, 122, 123, 124, 125, 126, 127, 128, 129, 130, 131, 132, 133, 134, 135, 136, 137, 138, 139, 140, 141, 142, 143, 144, 145, 146, 147, 148, 149, 150, 151, 152, 153, 154, 155, 156, 157, 158, 159, 160, 161, 162, 163, 164, 165] (by decide +kernel) (by decide +kernel)
set_option maxRecDepth 20000 in
theorem gX5_untellable_X5_firstUnderstood : GoodIn wsX5_untellable (wsV RX5 135 RX5 yX5_firstUnderstood wsX5_firstUnderstood) := goodIn_app (goodIn_of _ (by decide +kernel)) ggX5_untellable_X5_firstUnderstood
theorem dX5_untellable_0 : decode cX5_untellable 0 = .ok (.iload_n 1, 1) := by decide +kernel
theorem dX5_untellable_1 : decode cX5_untellable 1 = .ok (.invokestatic 49, 3) := by decide +kernel
theorem dX5_untellable_4 : decode cX5_untellable 4 = .ok (.ifCond .ne 5, 3) := by decide +kernel
theorem dX5_untellable_7 : decode cX5_untellable 7 = .ok (.iconst (-1), 1) := by decide +kernel
theorem dX5_untellable_8 : decode cX5_untellable 8 = .ok (.ireturn, 1) := by decide +kernel
theorem dX5_untellable_9 : decode cX5_untellable 9 = .ok (.iload_n 2, 1) := by decide +kernel
theorem dX5_untellable_10 : decode cX5_untellable 10 = .ok (.invokestatic 67, 3) := by decide +kernel
theorem dX5_untellable_13 : decode cX5_untellable 13 = .ok (.ifCond .eq 14, 3) := by decide +kernel
theorem dX5_untellable_16 : decode cX5_untellable 16 = .ok (.iload_n 3, 1) := by decide +kernel
theorem dX5_untellable_17 : decode cX5_untellable 17 = .ok (.iconst 1, 1) := by decide +kernel
theorem dX5_untellable_18 : decode cX5_untellable 18 = .ok (.if_icmp .lt 9, 3) := by decide +kernel
theorem dX5_untellable_21 : decode cX5_untellable 21 = .ok (.iload_n 3, 1) := by decide +kernel
theorem dX5_untellable_22 : decode cX5_untellable 22 = .ok (.bipush 40, 2) := by decide +kernel
theorem dX5_untellable_24 : decode cX5_untellable 24 = .ok (.if_icmp .le 6, 3) := by decide +kernel
theorem dX5_untellable_27 : decode cX5_untellable 27 = .ok (.bipush (-2), 2) := by decide +kernel
theorem dX5_untellable_29 : decode cX5_untellable 29 = .ok (.ireturn, 1) := by decide +kernel
theorem dX5_untellable_30 : decode cX5_untellable 30 = .ok (.iload_n 2, 1) := by decide +kernel
theorem dX5_untellable_31 : decode cX5_untellable 31 = .ok (.iload_n 3, 1) := by decide +kernel
theorem dX5_untellable_32 : decode cX5_untellable 32 = .ok (.iadd, 1) := by decide +kernel
theorem dX5_untellable_33 : decode cX5_untellable 33 = .ok (.iconst 1, 1) := by decide +kernel
theorem dX5_untellable_34 : decode cX5_untellable 34 = .ok (.isub, 1) := by decide +kernel
theorem dX5_untellable_35 : decode cX5_untellable 35 = .ok (.sipush 7999, 3) := by decide +kernel
theorem dX5_untellable_38 : decode cX5_untellable 38 = .ok (.invokestatic 142, 3) := by decide +kernel
theorem dX5_untellable_41 : decode cX5_untellable 41 = .ok (.istore 4, 2) := by decide +kernel
theorem dX5_untellable_43 : decode cX5_untellable 43 = .ok (.iconst 0, 1) := by decide +kernel
theorem dX5_untellable_44 : decode cX5_untellable 44 = .ok (.istore 5, 2) := by decide +kernel
theorem dX5_untellable_46 : decode cX5_untellable 46 = .ok (.iload_n 2, 1) := by decide +kernel
theorem dX5_untellable_47 : decode cX5_untellable 47 = .ok (.istore 6, 2) := by decide +kernel
theorem dX5_untellable_49 : decode cX5_untellable 49 = .ok (.iload 6, 2) := by decide +kernel
theorem dX5_untellable_51 : decode cX5_untellable 51 = .ok (.iload 4, 2) := by decide +kernel
theorem dX5_untellable_53 : decode cX5_untellable 53 = .ok (.if_icmp .gt 24, 3) := by decide +kernel
theorem dX5_untellable_56 : decode cX5_untellable 56 = .ok (.aload_n 0, 1) := by decide +kernel
theorem dX5_untellable_57 : decode cX5_untellable 57 = .ok (.iload_n 1, 1) := by decide +kernel
theorem dX5_untellable_58 : decode cX5_untellable 58 = .ok (.iload 6, 2) := by decide +kernel
theorem dX5_untellable_60 : decode cX5_untellable 60 = .ok (.invokevirtual 135, 3) := by decide +kernel
theorem dX5_untellable_63 : decode cX5_untellable 63 = .ok (.bipush (-5), 2) := by decide +kernel
theorem dX5_untellable_65 : decode cX5_untellable 65 = .ok (.if_icmp .ne 6, 3) := by decide +kernel
theorem dX5_untellable_68 : decode cX5_untellable 68 = .ok (.iinc 5 1, 3) := by decide +kernel
theorem dX5_untellable_71 : decode cX5_untellable 71 = .ok (.iinc 6 1, 3) := by decide +kernel
theorem dX5_untellable_74 : decode cX5_untellable 74 = .ok (.goto (-25), 3) := by decide +kernel
theorem dX5_untellable_77 : decode cX5_untellable 77 = .ok (.iload 5, 2) := by decide +kernel
theorem dX5_untellable_79 : decode cX5_untellable 79 = .ok (.ireturn, 1) := by decide +kernel
set_option maxRecDepth 20000 in
theorem ggX5_log_X3_told : GoodIn wsX5_log wsX3_told := goodIn_r _ [7, 8, 9, 16, 17, 18, 19, 20] (by decide +kernel) (by decide +kernel)
set_option maxRecDepth 20000 in
theorem gX5_log_X3_told : GoodIn wsX5_log (wsV RX5 150 RX3 yX3_told wsX3_told) := goodIn_app (goodIn_of _ (by decide +kernel)) ggX5_log_X3_told
theorem dX5_log_0 : decode cX5_log 0 = .ok (.iload_n 1, 1) := by decide +kernel
theorem dX5_log_1 : decode cX5_log 1 = .ok (.ifCond .lt 12, 3) := by decide +kernel
theorem dX5_log_4 : decode cX5_log 4 = .ok (.iload_n 2, 1) := by decide +kernel
theorem dX5_log_5 : decode cX5_log 5 = .ok (.ifCond .lt 8, 3) := by decide +kernel
theorem dX5_log_8 : decode cX5_log 8 = .ok (.iload_n 2, 1) := by decide +kernel
theorem dX5_log_9 : decode cX5_log 9 = .ok (.iconst 5, 1) := by decide +kernel
theorem dX5_log_10 : decode cX5_log 10 = .ok (.if_icmp .lt 6, 3) := by decide +kernel
theorem dX5_log_13 : decode cX5_log 13 = .ok (.bipush (-2), 2) := by decide +kernel
theorem dX5_log_15 : decode cX5_log 15 = .ok (.ireturn, 1) := by decide +kernel
theorem dX5_log_16 : decode cX5_log 16 = .ok (.iload_n 1, 1) := by decide +kernel
theorem dX5_log_17 : decode cX5_log 17 = .ok (.aload_n 0, 1) := by decide +kernel
theorem dX5_log_18 : decode cX5_log 18 = .ok (.getfield 10, 3) := by decide +kernel
theorem dX5_log_21 : decode cX5_log 21 = .ok (.getfield 147, 3) := by decide +kernel
theorem dX5_log_24 : decode cX5_log 24 = .ok (.if_icmp .ge 15, 3) := by decide +kernel
theorem dX5_log_27 : decode cX5_log 27 = .ok (.aload_n 0, 1) := by decide +kernel
theorem dX5_log_28 : decode cX5_log 28 = .ok (.getfield 10, 3) := by decide +kernel
theorem dX5_log_31 : decode cX5_log 31 = .ok (.iload_n 1, 1) := by decide +kernel
theorem dX5_log_32 : decode cX5_log 32 = .ok (.iload_n 2, 1) := by decide +kernel
theorem dX5_log_33 : decode cX5_log 33 = .ok (.invokevirtual 150, 3) := by decide +kernel
theorem dX5_log_36 : decode cX5_log 36 = .ok (.goto 5, 3) := by decide +kernel
theorem dX5_log_39 : decode cX5_log 39 = .ok (.bipush (-5), 2) := by decide +kernel
theorem dX5_log_41 : decode cX5_log 41 = .ok (.ireturn, 1) := by decide +kernel
set_option maxRecDepth 20000 in
theorem ggX5_sum_X3_total : GoodIn wsX5_sum wsX3_total := goodIn_r _ [6, 7, 14, 15, 16, 17, 18] (by decide +kernel) (by decide +kernel)
set_option maxRecDepth 20000 in
theorem gX5_sum_X3_total : GoodIn wsX5_sum (wsV RX5 153 RX3 yX3_total wsX3_total) := goodIn_app (goodIn_of _ (by decide +kernel)) ggX5_sum_X3_total
theorem dX5_sum_0 : decode cX5_sum 0 = .ok (.iload_n 1, 1) := by decide +kernel
theorem dX5_sum_1 : decode cX5_sum 1 = .ok (.tableswitch 73 0 3 #[31, 42, 53, 63], 31) := by decide +kernel
theorem dX5_sum_32 : decode cX5_sum 32 = .ok (.aload_n 0, 1) := by decide +kernel
theorem dX5_sum_33 : decode cX5_sum 33 = .ok (.getfield 10, 3) := by decide +kernel
theorem dX5_sum_36 : decode cX5_sum 36 = .ok (.bipush 7, 2) := by decide +kernel
theorem dX5_sum_38 : decode cX5_sum 38 = .ok (.iconst 1, 1) := by decide +kernel
theorem dX5_sum_39 : decode cX5_sum 39 = .ok (.invokevirtual 153, 3) := by decide +kernel
theorem dX5_sum_42 : decode cX5_sum 42 = .ok (.ireturn, 1) := by decide +kernel
theorem dX5_sum_43 : decode cX5_sum 43 = .ok (.aload_n 0, 1) := by decide +kernel
theorem dX5_sum_44 : decode cX5_sum 44 = .ok (.getfield 10, 3) := by decide +kernel
theorem dX5_sum_47 : decode cX5_sum 47 = .ok (.bipush 8, 2) := by decide +kernel
theorem dX5_sum_49 : decode cX5_sum 49 = .ok (.iconst 1, 1) := by decide +kernel
theorem dX5_sum_50 : decode cX5_sum 50 = .ok (.invokevirtual 153, 3) := by decide +kernel
theorem dX5_sum_53 : decode cX5_sum 53 = .ok (.ireturn, 1) := by decide +kernel
theorem dX5_sum_54 : decode cX5_sum 54 = .ok (.aload_n 0, 1) := by decide +kernel
theorem dX5_sum_55 : decode cX5_sum 55 = .ok (.getfield 10, 3) := by decide +kernel
theorem dX5_sum_58 : decode cX5_sum 58 = .ok (.iconst 0, 1) := by decide +kernel
theorem dX5_sum_59 : decode cX5_sum 59 = .ok (.iconst 3, 1) := by decide +kernel
theorem dX5_sum_60 : decode cX5_sum 60 = .ok (.invokevirtual 153, 3) := by decide +kernel
theorem dX5_sum_63 : decode cX5_sum 63 = .ok (.ireturn, 1) := by decide +kernel
theorem dX5_sum_64 : decode cX5_sum 64 = .ok (.aload_n 0, 1) := by decide +kernel
theorem dX5_sum_65 : decode cX5_sum 65 = .ok (.getfield 10, 3) := by decide +kernel
theorem dX5_sum_68 : decode cX5_sum 68 = .ok (.iconst 3, 1) := by decide +kernel
theorem dX5_sum_69 : decode cX5_sum 69 = .ok (.iconst 3, 1) := by decide +kernel
theorem dX5_sum_70 : decode cX5_sum 70 = .ok (.invokevirtual 153, 3) := by decide +kernel
theorem dX5_sum_73 : decode cX5_sum 73 = .ok (.ireturn, 1) := by decide +kernel
theorem dX5_sum_74 : decode cX5_sum 74 = .ok (.bipush (-2), 2) := by decide +kernel
theorem dX5_sum_76 : decode cX5_sum 76 = .ok (.ireturn, 1) := by decide +kernel
theorem dX5_patience_0 : decode cX5_patience 0 = .ok (.aload_n 0, 1) := by decide +kernel
theorem dX5_patience_1 : decode cX5_patience 1 = .ok (.getfield 10, 3) := by decide +kernel
theorem dX5_patience_4 : decode cX5_patience 4 = .ok (.getfield 61, 3) := by decide +kernel
theorem dX5_patience_7 : decode cX5_patience 7 = .ok (.ireturn, 1) := by decide +kernel
set_option maxRecDepth 20000 in
theorem ggX5_share_X3_total : GoodIn wsX5_share wsX3_total := goodIn_r _ [6, 7, 14, 15, 16, 17, 18] (by decide +kernel) (by decide +kernel)
set_option maxRecDepth 20000 in
theorem gX5_share_X3_total : GoodIn wsX5_share (wsV RX5 153 RX3 yX3_total wsX3_total) := goodIn_app (goodIn_of _ (by decide +kernel)) ggX5_share_X3_total
theorem dX5_share_0 : decode cX5_share 0 = .ok (.aload_n 0, 1) := by decide +kernel
theorem dX5_share_1 : decode cX5_share 1 = .ok (.getfield 10, 3) := by decide +kernel
theorem dX5_share_4 : decode cX5_share 4 = .ok (.bipush 7, 2) := by decide +kernel
theorem dX5_share_6 : decode cX5_share 6 = .ok (.iconst 1, 1) := by decide +kernel
theorem dX5_share_7 : decode cX5_share 7 = .ok (.invokevirtual 153, 3) := by decide +kernel
theorem dX5_share_10 : decode cX5_share 10 = .ok (.istore_n 1, 1) := by decide +kernel
theorem dX5_share_11 : decode cX5_share 11 = .ok (.iload_n 1, 1) := by decide +kernel
theorem dX5_share_12 : decode cX5_share 12 = .ok (.ifCond .gt 5, 3) := by decide +kernel
theorem dX5_share_15 : decode cX5_share 15 = .ok (.fconst 1, 1) := by decide +kernel
theorem dX5_share_16 : decode cX5_share 16 = .ok (.freturn, 1) := by decide +kernel
theorem dX5_share_17 : decode cX5_share 17 = .ok (.iload_n 1, 1) := by decide +kernel
theorem dX5_share_18 : decode cX5_share 18 = .ok (.aload_n 0, 1) := by decide +kernel
theorem dX5_share_19 : decode cX5_share 19 = .ok (.getfield 10, 3) := by decide +kernel
theorem dX5_share_22 : decode cX5_share 22 = .ok (.bipush 8, 2) := by decide +kernel
theorem dX5_share_24 : decode cX5_share 24 = .ok (.iconst 1, 1) := by decide +kernel
theorem dX5_share_25 : decode cX5_share 25 = .ok (.invokevirtual 153, 3) := by decide +kernel
theorem dX5_share_28 : decode cX5_share 28 = .ok (.isub, 1) := by decide +kernel
theorem dX5_share_29 : decode cX5_share 29 = .ok (.istore_n 2, 1) := by decide +kernel
theorem dX5_share_30 : decode cX5_share 30 = .ok (.iload_n 2, 1) := by decide +kernel
theorem dX5_share_31 : decode cX5_share 31 = .ok (.i2f, 1) := by decide +kernel
theorem dX5_share_32 : decode cX5_share 32 = .ok (.iload_n 1, 1) := by decide +kernel
theorem dX5_share_33 : decode cX5_share 33 = .ok (.i2f, 1) := by decide +kernel
theorem dX5_share_34 : decode cX5_share 34 = .ok (.fdiv, 1) := by decide +kernel
theorem dX5_share_35 : decode cX5_share 35 = .ok (.freturn, 1) := by decide +kernel
theorem dX5_isHearer_0 : decode cX5_isHearer 0 = .ok (.iload_n 0, 1) := by decide +kernel
theorem dX5_isHearer_1 : decode cX5_isHearer 1 = .ok (.ifCond .lt 13, 3) := by decide +kernel
theorem dX5_isHearer_4 : decode cX5_isHearer 4 = .ok (.iload_n 0, 1) := by decide +kernel
theorem dX5_isHearer_5 : decode cX5_isHearer 5 = .ok (.bipush 6, 2) := by decide +kernel
theorem dX5_isHearer_7 : decode cX5_isHearer 7 = .ok (.if_icmp .ge 7, 3) := by decide +kernel
theorem dX5_isHearer_10 : decode cX5_isHearer 10 = .ok (.iconst 1, 1) := by decide +kernel
theorem dX5_isHearer_11 : decode cX5_isHearer 11 = .ok (.goto 4, 3) := by decide +kernel
theorem dX5_isHearer_14 : decode cX5_isHearer 14 = .ok (.iconst 0, 1) := by decide +kernel
theorem dX5_isHearer_15 : decode cX5_isHearer 15 = .ok (.ireturn, 1) := by decide +kernel
theorem dX5_isWord_0 : decode cX5_isWord 0 = .ok (.iload_n 0, 1) := by decide +kernel
theorem dX5_isWord_1 : decode cX5_isWord 1 = .ok (.ifCond .lt 12, 3) := by decide +kernel
theorem dX5_isWord_4 : decode cX5_isWord 4 = .ok (.iload_n 0, 1) := by decide +kernel
theorem dX5_isWord_5 : decode cX5_isWord 5 = .ok (.iconst 3, 1) := by decide +kernel
theorem dX5_isWord_6 : decode cX5_isWord 6 = .ok (.if_icmp .ge 7, 3) := by decide +kernel
theorem dX5_isWord_9 : decode cX5_isWord 9 = .ok (.iconst 1, 1) := by decide +kernel
theorem dX5_isWord_10 : decode cX5_isWord 10 = .ok (.goto 4, 3) := by decide +kernel
theorem dX5_isWord_13 : decode cX5_isWord 13 = .ok (.iconst 0, 1) := by decide +kernel
theorem dX5_isWord_14 : decode cX5_isWord 14 = .ok (.ireturn, 1) := by decide +kernel
theorem dX5_isStyle_0 : decode cX5_isStyle 0 = .ok (.iload_n 0, 1) := by decide +kernel
theorem dX5_isStyle_1 : decode cX5_isStyle 1 = .ok (.ifCond .lt 12, 3) := by decide +kernel
theorem dX5_isStyle_4 : decode cX5_isStyle 4 = .ok (.iload_n 0, 1) := by decide +kernel
theorem dX5_isStyle_5 : decode cX5_isStyle 5 = .ok (.iconst 4, 1) := by decide +kernel
theorem dX5_isStyle_6 : decode cX5_isStyle 6 = .ok (.if_icmp .ge 7, 3) := by decide +kernel
theorem dX5_isStyle_9 : decode cX5_isStyle 9 = .ok (.iconst 1, 1) := by decide +kernel
theorem dX5_isStyle_10 : decode cX5_isStyle 10 = .ok (.goto 4, 3) := by decide +kernel
theorem dX5_isStyle_13 : decode cX5_isStyle 13 = .ok (.iconst 0, 1) := by decide +kernel
theorem dX5_isStyle_14 : decode cX5_isStyle 14 = .ok (.ireturn, 1) := by decide +kernel
theorem dX5_isNumber_0 : decode cX5_isNumber 0 = .ok (.iload_n 0, 1) := by decide +kernel
theorem dX5_isNumber_1 : decode cX5_isNumber 1 = .ok (.iconst 1, 1) := by decide +kernel
theorem dX5_isNumber_2 : decode cX5_isNumber 2 = .ok (.if_icmp .lt 14, 3) := by decide +kernel
theorem dX5_isNumber_5 : decode cX5_isNumber 5 = .ok (.iload_n 0, 1) := by decide +kernel
theorem dX5_isNumber_6 : decode cX5_isNumber 6 = .ok (.sipush 7999, 3) := by decide +kernel
theorem dX5_isNumber_9 : decode cX5_isNumber 9 = .ok (.if_icmp .gt 7, 3) := by decide +kernel
theorem dX5_isNumber_12 : decode cX5_isNumber 12 = .ok (.iconst 1, 1) := by decide +kernel
theorem dX5_isNumber_13 : decode cX5_isNumber 13 = .ok (.goto 4, 3) := by decide +kernel
theorem dX5_isNumber_16 : decode cX5_isNumber 16 = .ok (.iconst 0, 1) := by decide +kernel
theorem dX5_isNumber_17 : decode cX5_isNumber 17 = .ok (.ireturn, 1) := by decide +kernel
theorem dX5_orNone_0 : decode cX5_orNone 0 = .ok (.iload_n 0, 1) := by decide +kernel
theorem dX5_orNone_1 : decode cX5_orNone 1 = .ok (.ifCond .ne 8, 3) := by decide +kernel
theorem dX5_orNone_4 : decode cX5_orNone 4 = .ok (.bipush (-5), 2) := by decide +kernel
theorem dX5_orNone_6 : decode cX5_orNone 6 = .ok (.goto 4, 3) := by decide +kernel
theorem dX5_orNone_9 : decode cX5_orNone 9 = .ok (.iload_n 0, 1) := by decide +kernel
theorem dX5_orNone_10 : decode cX5_orNone 10 = .ok (.ireturn, 1) := by decide +kernel
set_option maxRecDepth 20000 in
theorem ggX5_putWord_X5_isHearer : GoodIn wsX5_putWord wsX5_isHearer := goodIn_r _ [7] (by decide +kernel) (by decide +kernel)
set_option maxRecDepth 20000 in
theorem gX5_putWord_X5_isHearer : GoodIn wsX5_putWord (va_wsS RX5 49 yX5_isHearer wsX5_isHearer) := goodIn_app (goodIn_of _ (by decide +kernel)) ggX5_putWord_X5_isHearer
set_option maxRecDepth 20000 in
theorem ggX5_putWord_X5_isWord : GoodIn wsX5_putWord wsX5_isWord := goodIn_r _ [10] (by decide +kernel) (by decide +kernel)
set_option maxRecDepth 20000 in
theorem gX5_putWord_X5_isWord : GoodIn wsX5_putWord (va_wsS RX5 156 yX5_isWord wsX5_isWord) := goodIn_app (goodIn_of _ (by decide +kernel)) ggX5_putWord_X5_isWord
set_option maxRecDepth 20000 in
theorem ggX5_putWord_X1_record : GoodIn wsX5_putWord wsX1_record := goodIn_r _ [15, 16, 17, 18, 19, 20, 21, 22, 23, 24, 25, 26, 27, 28, 29, 30, 31, 32, 33, 34, 35, 36, 48, 49, 50, 43, 44, 45, 46, 47] (by decide +kernel) (by decide +kernel)
set_option maxRecDepth 20000 in
theorem gX5_putWord_X1_record : GoodIn wsX5_putWord (wsV RX5 53 RX1 yX1_record wsX1_record) := goodIn_app (goodIn_of _ (by decide +kernel)) ggX5_putWord_X1_record
theorem dX5_putWord_0 : decode cX5_putWord 0 = .ok (.iload_n 1, 1) := by decide +kernel
theorem dX5_putWord_1 : decode cX5_putWord 1 = .ok (.invokestatic 49, 3) := by decide +kernel
theorem dX5_putWord_4 : decode cX5_putWord 4 = .ok (.ifCond .eq 10, 3) := by decide +kernel
theorem dX5_putWord_7 : decode cX5_putWord 7 = .ok (.iload_n 2, 1) := by decide +kernel
theorem dX5_putWord_8 : decode cX5_putWord 8 = .ok (.invokestatic 156, 3) := by decide +kernel
theorem dX5_putWord_11 : decode cX5_putWord 11 = .ok (.ifCond .ne 5, 3) := by decide +kernel
theorem dX5_putWord_14 : decode cX5_putWord 14 = .ok (.iconst (-1), 1) := by decide +kernel
theorem dX5_putWord_15 : decode cX5_putWord 15 = .ok (.ireturn, 1) := by decide +kernel
theorem dX5_putWord_16 : decode cX5_putWord 16 = .ok (.aload_n 0, 1) := by decide +kernel
theorem dX5_putWord_17 : decode cX5_putWord 17 = .ok (.getfield 19, 3) := by decide +kernel
theorem dX5_putWord_20 : decode cX5_putWord 20 = .ok (.aload_n 0, 1) := by decide +kernel
theorem dX5_putWord_21 : decode cX5_putWord 21 = .ok (.getfield 10, 3) := by decide +kernel
theorem dX5_putWord_24 : decode cX5_putWord 24 = .ok (.invokevirtual 53, 3) := by decide +kernel
theorem dX5_putWord_27 : decode cX5_putWord 27 = .ok (.aload_n 0, 1) := by decide +kernel
theorem dX5_putWord_28 : decode cX5_putWord 28 = .ok (.getfield 10, 3) := by decide +kernel
theorem dX5_putWord_31 : decode cX5_putWord 31 = .ok (.getfield 57, 3) := by decide +kernel
theorem dX5_putWord_34 : decode cX5_putWord 34 = .ok (.iload_n 1, 1) := by decide +kernel
theorem dX5_putWord_35 : decode cX5_putWord 35 = .ok (.aaload, 1) := by decide +kernel
theorem dX5_putWord_36 : decode cX5_putWord 36 = .ok (.astore 4, 2) := by decide +kernel
theorem dX5_putWord_38 : decode cX5_putWord 38 = .ok (.aload 4, 2) := by decide +kernel
theorem dX5_putWord_40 : decode cX5_putWord 40 = .ok (.iconst 0, 1) := by decide +kernel
theorem dX5_putWord_41 : decode cX5_putWord 41 = .ok (.iload_n 2, 1) := by decide +kernel
theorem dX5_putWord_42 : decode cX5_putWord 42 = .ok (.iadd, 1) := by decide +kernel
theorem dX5_putWord_43 : decode cX5_putWord 43 = .ok (.iload_n 3, 1) := by decide +kernel
theorem dX5_putWord_44 : decode cX5_putWord 44 = .ok (.iastore, 1) := by decide +kernel
theorem dX5_putWord_45 : decode cX5_putWord 45 = .ok (.aload 4, 2) := by decide +kernel
theorem dX5_putWord_47 : decode cX5_putWord 47 = .ok (.iconst 3, 1) := by decide +kernel
theorem dX5_putWord_48 : decode cX5_putWord 48 = .ok (.iload_n 2, 1) := by decide +kernel
theorem dX5_putWord_49 : decode cX5_putWord 49 = .ok (.iadd, 1) := by decide +kernel
theorem dX5_putWord_50 : decode cX5_putWord 50 = .ok (.iconst 0, 1) := by decide +kernel
theorem dX5_putWord_51 : decode cX5_putWord 51 = .ok (.iastore, 1) := by decide +kernel
theorem dX5_putWord_52 : decode cX5_putWord 52 = .ok (.iconst 0, 1) := by decide +kernel
theorem dX5_putWord_53 : decode cX5_putWord 53 = .ok (.istore 5, 2) := by decide +kernel
theorem dX5_putWord_55 : decode cX5_putWord 55 = .ok (.iconst 0, 1) := by decide +kernel
theorem dX5_putWord_56 : decode cX5_putWord 56 = .ok (.istore 6, 2) := by decide +kernel
theorem dX5_putWord_58 : decode cX5_putWord 58 = .ok (.iload 6, 2) := by decide +kernel
theorem dX5_putWord_60 : decode cX5_putWord 60 = .ok (.iconst 3, 1) := by decide +kernel
theorem dX5_putWord_61 : decode cX5_putWord 61 = .ok (.if_icmp .ge 21, 3) := by decide +kernel
theorem dX5_putWord_64 : decode cX5_putWord 64 = .ok (.iload 5, 2) := by decide +kernel
theorem dX5_putWord_66 : decode cX5_putWord 66 = .ok (.aload 4, 2) := by decide +kernel
theorem dX5_putWord_68 : decode cX5_putWord 68 = .ok (.iconst 0, 1) := by decide +kernel
theorem dX5_putWord_69 : decode cX5_putWord 69 = .ok (.iload 6, 2) := by decide +kernel
theorem dX5_putWord_71 : decode cX5_putWord 71 = .ok (.iadd, 1) := by decide +kernel
theorem dX5_putWord_72 : decode cX5_putWord 72 = .ok (.iaload, 1) := by decide +kernel
theorem dX5_putWord_73 : decode cX5_putWord 73 = .ok (.iadd, 1) := by decide +kernel
theorem dX5_putWord_74 : decode cX5_putWord 74 = .ok (.istore 5, 2) := by decide +kernel
theorem dX5_putWord_76 : decode cX5_putWord 76 = .ok (.iinc 6 1, 3) := by decide +kernel
theorem dX5_putWord_79 : decode cX5_putWord 79 = .ok (.goto (-21), 3) := by decide +kernel
theorem dX5_putWord_82 : decode cX5_putWord 82 = .ok (.iload 5, 2) := by decide +kernel
theorem dX5_putWord_84 : decode cX5_putWord 84 = .ok (.ireturn, 1) := by decide +kernel
set_option maxRecDepth 20000 in
theorem ggX5_packedText_X2_then : GoodIn wsX5_packedText wsX2_then := goodIn_r _ [6] (by decide +kernel) (by decide +kernel)
set_option maxRecDepth 20000 in
theorem gX5_packedText_X2_then : GoodIn wsX5_packedText (va_wsS RX5 159 yX2_then wsX2_then) := goodIn_app (goodIn_of _ (by decide +kernel)) ggX5_packedText_X2_then
theorem dX5_packedText_0 : decode cX5_packedText 0 = .ok (.lconst 0, 1) := by decide +kernel
theorem dX5_packedText_1 : decode cX5_packedText 1 = .ok (.lstore_n 1, 1) := by decide +kernel
theorem dX5_packedText_2 : decode cX5_packedText 2 = .ok (.iconst 0, 1) := by decide +kernel
theorem dX5_packedText_3 : decode cX5_packedText 3 = .ok (.istore_n 3, 1) := by decide +kernel
theorem dX5_packedText_4 : decode cX5_packedText 4 = .ok (.iload_n 3, 1) := by decide +kernel
theorem dX5_packedText_5 : decode cX5_packedText 5 = .ok (.aload_n 0, 1) := by decide +kernel
theorem dX5_packedText_6 : decode cX5_packedText 6 = .ok (.getfield 27, 3) := by decide +kernel
theorem dX5_packedText_9 : decode cX5_packedText 9 = .ok (.if_icmp .ge 26, 3) := by decide +kernel
theorem dX5_packedText_12 : decode cX5_packedText 12 = .ok (.iload_n 3, 1) := by decide +kernel
theorem dX5_packedText_13 : decode cX5_packedText 13 = .ok (.bipush 20, 2) := by decide +kernel
theorem dX5_packedText_15 : decode cX5_packedText 15 = .ok (.if_icmp .ge 20, 3) := by decide +kernel
theorem dX5_packedText_18 : decode cX5_packedText 18 = .ok (.lload_n 1, 1) := by decide +kernel
theorem dX5_packedText_19 : decode cX5_packedText 19 = .ok (.aload_n 0, 1) := by decide +kernel
theorem dX5_packedText_20 : decode cX5_packedText 20 = .ok (.getfield 23, 3) := by decide +kernel
theorem dX5_packedText_23 : decode cX5_packedText 23 = .ok (.iload_n 3, 1) := by decide +kernel
theorem dX5_packedText_24 : decode cX5_packedText 24 = .ok (.caload, 1) := by decide +kernel
theorem dX5_packedText_25 : decode cX5_packedText 25 = .ok (.invokestatic 159, 3) := by decide +kernel
theorem dX5_packedText_28 : decode cX5_packedText 28 = .ok (.lstore_n 1, 1) := by decide +kernel
theorem dX5_packedText_29 : decode cX5_packedText 29 = .ok (.iinc 3 1, 3) := by decide +kernel
theorem dX5_packedText_32 : decode cX5_packedText 32 = .ok (.goto (-28), 3) := by decide +kernel
theorem dX5_packedText_35 : decode cX5_packedText 35 = .ok (.lload_n 1, 1) := by decide +kernel
theorem dX5_packedText_36 : decode cX5_packedText 36 = .ok (.lreturn, 1) := by decide +kernel
set_option maxRecDepth 20000 in
theorem ggX5_meant_X0_listen : GoodIn wsX5_meant wsX0_listen := goodIn_r _ [6, 7, 8, 9, 10, 11, 12, 13, 14, 15, 16, 17, 85, 86, 87, 88, 89, 90, 91, 92, 93, 94, 95] (by decide +kernel) (by decide +kernel)
set_option maxRecDepth 20000 in
theorem gX5_meant_X0_listen : GoodIn wsX5_meant (wsV RX5 98 RX0 yX0_listen wsX0_listen) := goodIn_app (goodIn_of _ (by decide +kernel)) ggX5_meant_X0_listen
set_option maxRecDepth 20000 in
theorem ggX5_meant_X0_hear : GoodIn wsX5_meant wsX0_hear := goodIn_r _ [21, 22, 23, 24, 25, 26, 27, 28, 29, 30, 31, 5, 32, 10, 33, 34, 35, 36, 37, 38, 39, 40, 11, 41, 42, 43, 44, 45, 46, 47, 48, 49, 50, 51, 52, 53, 54, 55, 56, 57, 58, 12, 13, 14, 16, 9, 15, 59, 60, 61, 62, 17, 63, 64, 65, 66, 7, 67, 68, 69, 70, 71, 72, 73, 74, 75, 76, 77, 78, 8, 85, 86, 87, 88, 89, 90, 91, 92, 93, 94, 95] (by decide +kernel) (by decide +kernel)
set_option maxRecDepth 20000 in
theorem gX5_meant_X0_hear : GoodIn wsX5_meant (wsV RX5 163 RX0 yX0_hear wsX0_hear) := goodIn_app (goodIn_of _ (by decide +kernel)) ggX5_meant_X0_hear
theorem dX5_meant_0 : decode cX5_meant 0 = .ok (.aload_n 0, 1) := by decide +kernel
theorem dX5_meant_1 : decode cX5_meant 1 = .ok (.getfield 41, 3) := by decide +kernel
theorem dX5_meant_4 : decode cX5_meant 4 = .ok (.iconst 1, 1) := by decide +kernel
theorem dX5_meant_5 : decode cX5_meant 5 = .ok (.iconst 1, 1) := by decide +kernel
theorem dX5_meant_6 : decode cX5_meant 6 = .ok (.iconst 1, 1) := by decide +kernel
theorem dX5_meant_7 : decode cX5_meant 7 = .ok (.invokevirtual 98, 3) := by decide +kernel
theorem dX5_meant_10 : decode cX5_meant 10 = .ok (.aload_n 0, 1) := by decide +kernel
theorem dX5_meant_11 : decode cX5_meant 11 = .ok (.getfield 41, 3) := by decide +kernel
theorem dX5_meant_14 : decode cX5_meant 14 = .ok (.lload_n 1, 1) := by decide +kernel
theorem dX5_meant_15 : decode cX5_meant 15 = .ok (.bipush 12, 2) := by decide +kernel
theorem dX5_meant_17 : decode cX5_meant 17 = .ok (.invokevirtual 163, 3) := by decide +kernel
theorem dX5_meant_20 : decode cX5_meant 20 = .ok (.ireturn, 1) := by decide +kernel
set_option maxRecDepth 20000 in
theorem ggX5_heard_X0_listen : GoodIn wsX5_heard wsX0_listen := goodIn_r _ [8, 9, 10, 11, 12, 13, 14, 15, 16, 17, 18, 19, 92, 93, 94, 95, 96, 97, 98, 99, 100, 101, 102] (by decide +kernel) (by decide +kernel)
set_option maxRecDepth 20000 in
theorem gX5_heard_X0_listen : GoodIn wsX5_heard (wsV RX5 98 RX0 yX0_listen wsX0_listen) := goodIn_app (goodIn_of _ (by decide +kernel)) ggX5_heard_X0_listen
set_option maxRecDepth 20000 in
theorem ggX5_heard_X0_hear : GoodIn wsX5_heard wsX0_hear := goodIn_r _ [23, 24, 25, 26, 27, 28, 29, 30, 31, 32, 33, 7, 34, 12, 35, 36, 37, 38, 39, 40, 41, 42, 13, 43, 44, 45, 46, 47, 48, 49, 50, 51, 52, 53, 54, 55, 56, 57, 58, 59, 60, 14, 15, 16, 18, 11, 17, 61, 62, 63, 64, 19, 65, 66, 67, 68, 9, 69, 70, 71, 72, 73, 74, 75, 76, 77, 78, 79, 80, 10, 92, 93, 94, 95, 96, 97, 98, 99, 100, 101, 102] (by decide +kernel) (by decide +kernel)
set_option maxRecDepth 20000 in
theorem gX5_heard_X0_hear : GoodIn wsX5_heard (wsV RX5 163 RX0 yX0_hear wsX0_hear) := goodIn_app (goodIn_of _ (by decide +kernel)) ggX5_heard_X0_hear
theorem dX5_heard_0 : decode cX5_heard 0 = .ok (.aload_n 0, 1) := by decide +kernel
theorem dX5_heard_1 : decode cX5_heard 1 = .ok (.getfield 10, 3) := by decide +kernel
theorem dX5_heard_4 : decode cX5_heard 4 = .ok (.getfield 57, 3) := by decide +kernel
theorem dX5_heard_7 : decode cX5_heard 7 = .ok (.iload_n 1, 1) := by decide +kernel
theorem dX5_heard_8 : decode cX5_heard 8 = .ok (.aaload, 1) := by decide +kernel
theorem dX5_heard_9 : decode cX5_heard 9 = .ok (.astore 4, 2) := by decide +kernel
theorem dX5_heard_11 : decode cX5_heard 11 = .ok (.aload_n 0, 1) := by decide +kernel
theorem dX5_heard_12 : decode cX5_heard 12 = .ok (.getfield 41, 3) := by decide +kernel
theorem dX5_heard_15 : decode cX5_heard 15 = .ok (.aload 4, 2) := by decide +kernel
theorem dX5_heard_17 : decode cX5_heard 17 = .ok (.iconst 0, 1) := by decide +kernel
theorem dX5_heard_18 : decode cX5_heard 18 = .ok (.iaload, 1) := by decide +kernel
theorem dX5_heard_19 : decode cX5_heard 19 = .ok (.iconst 1, 1) := by decide +kernel
theorem dX5_heard_20 : decode cX5_heard 20 = .ok (.if_icmp .ne 7, 3) := by decide +kernel
theorem dX5_heard_23 : decode cX5_heard 23 = .ok (.iconst 1, 1) := by decide +kernel
theorem dX5_heard_24 : decode cX5_heard 24 = .ok (.goto 4, 3) := by decide +kernel
theorem dX5_heard_27 : decode cX5_heard 27 = .ok (.iconst 0, 1) := by decide +kernel
theorem dX5_heard_28 : decode cX5_heard 28 = .ok (.aload 4, 2) := by decide +kernel
theorem dX5_heard_30 : decode cX5_heard 30 = .ok (.iconst 1, 1) := by decide +kernel
theorem dX5_heard_31 : decode cX5_heard 31 = .ok (.iaload, 1) := by decide +kernel
theorem dX5_heard_32 : decode cX5_heard 32 = .ok (.iconst 1, 1) := by decide +kernel
theorem dX5_heard_33 : decode cX5_heard 33 = .ok (.if_icmp .ne 7, 3) := by decide +kernel
theorem dX5_heard_36 : decode cX5_heard 36 = .ok (.iconst 1, 1) := by decide +kernel
theorem dX5_heard_37 : decode cX5_heard 37 = .ok (.goto 4, 3) := by decide +kernel
theorem dX5_heard_40 : decode cX5_heard 40 = .ok (.iconst 0, 1) := by decide +kernel
theorem dX5_heard_41 : decode cX5_heard 41 = .ok (.aload 4, 2) := by decide +kernel
theorem dX5_heard_43 : decode cX5_heard 43 = .ok (.iconst 2, 1) := by decide +kernel
theorem dX5_heard_44 : decode cX5_heard 44 = .ok (.iaload, 1) := by decide +kernel
theorem dX5_heard_45 : decode cX5_heard 45 = .ok (.iconst 1, 1) := by decide +kernel
theorem dX5_heard_46 : decode cX5_heard 46 = .ok (.if_icmp .ne 7, 3) := by decide +kernel
theorem dX5_heard_49 : decode cX5_heard 49 = .ok (.iconst 1, 1) := by decide +kernel
theorem dX5_heard_50 : decode cX5_heard 50 = .ok (.goto 4, 3) := by decide +kernel
theorem dX5_heard_53 : decode cX5_heard 53 = .ok (.iconst 0, 1) := by decide +kernel
theorem dX5_heard_54 : decode cX5_heard 54 = .ok (.invokevirtual 98, 3) := by decide +kernel
theorem dX5_heard_57 : decode cX5_heard 57 = .ok (.aload_n 0, 1) := by decide +kernel
theorem dX5_heard_58 : decode cX5_heard 58 = .ok (.getfield 41, 3) := by decide +kernel
theorem dX5_heard_61 : decode cX5_heard 61 = .ok (.lload_n 2, 1) := by decide +kernel
theorem dX5_heard_62 : decode cX5_heard 62 = .ok (.aload 4, 2) := by decide +kernel
theorem dX5_heard_64 : decode cX5_heard 64 = .ok (.bipush 6, 2) := by decide +kernel
theorem dX5_heard_66 : decode cX5_heard 66 = .ok (.iaload, 1) := by decide +kernel
theorem dX5_heard_67 : decode cX5_heard 67 = .ok (.invokevirtual 163, 3) := by decide +kernel
theorem dX5_heard_70 : decode cX5_heard 70 = .ok (.ireturn, 1) := by decide +kernel
set_option maxRecDepth 20000 in
theorem ggX5_reached_X5_heard : GoodIn wsX5_reached wsX5_heard := goodIn_r _ [5, 6, 7, 8, 9, 10, 11, 12, 13, 14, 15, 16, 17, 18, 19, 20, 21, 22, 23, 24, 25, 26, 27, 28, 29, 30, 31, 32, 33, 34, 35, 36, 37, 38, 39, 40, 41, 42, 43, 44, 45, 46, 47, 48, 49, 50, 51, 52, 53, 54, 55, 56, 57, 58, 59, 60, 61, 62, 63, 64, 65, 66, 67, 68, 69, 70, 71, 72, 73, 74, 75, 76, 77, 78, 79, 80, 81, 82, 83, 84, 85, 86, 87, 88, 89, 90, 91, 92, 93, 94, 95, 96, 97, 98, 99, 100, 101, 102, 103, 104, 105, 106, 107] (by decide +kernel) (by decide +kernel)
set_option maxRecDepth 20000 in
theorem gX5_reached_X5_heard : GoodIn wsX5_reached (wsV RX5 128 RX5 yX5_heard wsX5_heard) := goodIn_app (goodIn_of _ (by decide +kernel)) ggX5_reached_X5_heard
theorem dX5_reached_0 : decode cX5_reached 0 = .ok (.iconst 0, 1) := by decide +kernel
theorem dX5_reached_1 : decode cX5_reached 1 = .ok (.istore 4, 2) := by decide +kernel
theorem dX5_reached_3 : decode cX5_reached 3 = .ok (.iconst 0, 1) := by decide +kernel
theorem dX5_reached_4 : decode cX5_reached 4 = .ok (.istore 5, 2) := by decide +kernel
theorem dX5_reached_6 : decode cX5_reached 6 = .ok (.iload 5, 2) := by decide +kernel
theorem dX5_reached_8 : decode cX5_reached 8 = .ok (.bipush 6, 2) := by decide +kernel
theorem dX5_reached_10 : decode cX5_reached 10 = .ok (.if_icmp .ge 23, 3) := by decide +kernel
theorem dX5_reached_13 : decode cX5_reached 13 = .ok (.aload_n 0, 1) := by decide +kernel
theorem dX5_reached_14 : decode cX5_reached 14 = .ok (.iload 5, 2) := by decide +kernel
theorem dX5_reached_16 : decode cX5_reached 16 = .ok (.lload_n 2, 1) := by decide +kernel
theorem dX5_reached_17 : decode cX5_reached 17 = .ok (.invokevirtual 128, 3) := by decide +kernel
theorem dX5_reached_20 : decode cX5_reached 20 = .ok (.iload_n 1, 1) := by decide +kernel
theorem dX5_reached_21 : decode cX5_reached 21 = .ok (.if_icmp .ne 6, 3) := by decide +kernel
theorem dX5_reached_24 : decode cX5_reached 24 = .ok (.iinc 4 1, 3) := by decide +kernel
theorem dX5_reached_27 : decode cX5_reached 27 = .ok (.iinc 5 1, 3) := by decide +kernel
theorem dX5_reached_30 : decode cX5_reached 30 = .ok (.goto (-24), 3) := by decide +kernel
theorem dX5_reached_33 : decode cX5_reached 33 = .ok (.iload 4, 2) := by decide +kernel
theorem dX5_reached_35 : decode cX5_reached 35 = .ok (.ireturn, 1) := by decide +kernel
set_option maxRecDepth 20000 in
theorem ggX5_firstUnderstood_X4_find : GoodIn wsX5_firstUnderstood wsX4_find := goodIn_r _ [7, 8, 9, 10, 11, 12, 13, 14, 15, 16, 17, 18, 6, 19, 20, 21, 22, 23, 24, 25, 26, 27, 28, 29, 30, 31, 32, 33, 34, 35, 36, 37, 38, 39, 40, 41, 42, 137, 138] (by decide +kernel) (by decide +kernel)
set_option maxRecDepth 20000 in
theorem gX5_firstUnderstood_X4_find : GoodIn wsX5_firstUnderstood (wsV RX5 70 RX4 yX4_find wsX4_find) := goodIn_app (goodIn_of _ (by decide +kernel)) ggX5_firstUnderstood_X4_find
set_option maxRecDepth 20000 in
theorem ggX5_firstUnderstood_X4_at : GoodIn wsX5_firstUnderstood wsX4_at := goodIn_r _ [46, 31, 137, 138] (by decide +kernel) (by decide +kernel)
set_option maxRecDepth 20000 in
theorem gX5_firstUnderstood_X4_at : GoodIn wsX5_firstUnderstood (wsV RX5 78 RX4 yX4_at wsX4_at) := goodIn_app (goodIn_of _ (by decide +kernel)) ggX5_firstUnderstood_X4_at
set_option maxRecDepth 20000 in
theorem ggX5_firstUnderstood_X5_heard : GoodIn wsX5_firstUnderstood wsX5_heard := goodIn_r _ [51, 52, 53, 54, 55, 56, 57, 58, 59, 60, 61, 62, 63, 64, 65, 66, 67, 68, 69, 70, 71, 72, 73, 74, 75, 76, 25, 77, 78, 79, 80, 81, 82, 83, 84, 85, 86, 87, 88, 89, 90, 91, 92, 93, 94, 95, 96, 97, 98, 99, 100, 101, 102, 103, 104, 105, 106, 107, 108, 109, 110, 111, 112, 113, 114, 115, 116, 117, 118, 119, 120, 121, 122, 123, 124, 125, 126, 127, 128, 129, 130, 131, 132, 133, 134, 135, 136, 139, 140, 141, 142, 143, 144, 145, 146, 147, 148, 149, 150, 151, 152, 153, 154] (by decide +kernel) (by decide +kernel)
set_option maxRecDepth 20000 in
theorem gX5_firstUnderstood_X5_heard : GoodIn wsX5_firstUnderstood (wsV RX5 128 RX5 yX5_heard wsX5_heard) := goodIn_app (goodIn_of _ (by decide +kernel)) ggX5_firstUnderstood_X5_heard
theorem dX5_firstUnderstood_0 : decode cX5_firstUnderstood 0 = .ok (.aload_n 0, 1) := by decide +kernel
theorem dX5_firstUnderstood_1 : decode cX5_firstUnderstood 1 = .ok (.getfield 34, 3) := by decide +kernel
theorem dX5_firstUnderstood_4 : decode cX5_firstUnderstood 4 = .ok (.iload_n 2, 1) := by decide +kernel
theorem dX5_firstUnderstood_5 : decode cX5_firstUnderstood 5 = .ok (.invokevirtual 70, 3) := by decide +kernel
theorem dX5_firstUnderstood_8 : decode cX5_firstUnderstood 8 = .ok (.iconst 0, 1) := by decide +kernel
theorem dX5_firstUnderstood_9 : decode cX5_firstUnderstood 9 = .ok (.istore_n 3, 1) := by decide +kernel
theorem dX5_firstUnderstood_10 : decode cX5_firstUnderstood 10 = .ok (.iload_n 3, 1) := by decide +kernel
theorem dX5_firstUnderstood_11 : decode cX5_firstUnderstood 11 = .ok (.aload_n 0, 1) := by decide +kernel
theorem dX5_firstUnderstood_12 : decode cX5_firstUnderstood 12 = .ok (.getfield 34, 3) := by decide +kernel
theorem dX5_firstUnderstood_15 : decode cX5_firstUnderstood 15 = .ok (.getfield 113, 3) := by decide +kernel
theorem dX5_firstUnderstood_18 : decode cX5_firstUnderstood 18 = .ok (.if_icmp .ge 28, 3) := by decide +kernel
theorem dX5_firstUnderstood_21 : decode cX5_firstUnderstood 21 = .ok (.aload_n 0, 1) := by decide +kernel
theorem dX5_firstUnderstood_22 : decode cX5_firstUnderstood 22 = .ok (.iload_n 1, 1) := by decide +kernel
theorem dX5_firstUnderstood_23 : decode cX5_firstUnderstood 23 = .ok (.aload_n 0, 1) := by decide +kernel
theorem dX5_firstUnderstood_24 : decode cX5_firstUnderstood 24 = .ok (.getfield 34, 3) := by decide +kernel
theorem dX5_firstUnderstood_27 : decode cX5_firstUnderstood 27 = .ok (.iload_n 3, 1) := by decide +kernel
theorem dX5_firstUnderstood_28 : decode cX5_firstUnderstood 28 = .ok (.invokevirtual 78, 3) := by decide +kernel
theorem dX5_firstUnderstood_31 : decode cX5_firstUnderstood 31 = .ok (.invokevirtual 128, 3) := by decide +kernel
theorem dX5_firstUnderstood_34 : decode cX5_firstUnderstood 34 = .ok (.iload_n 2, 1) := by decide +kernel
theorem dX5_firstUnderstood_35 : decode cX5_firstUnderstood 35 = .ok (.if_icmp .ne 5, 3) := by decide +kernel
theorem dX5_firstUnderstood_38 : decode cX5_firstUnderstood 38 = .ok (.iload_n 3, 1) := by decide +kernel
theorem dX5_firstUnderstood_39 : decode cX5_firstUnderstood 39 = .ok (.ireturn, 1) := by decide +kernel
theorem dX5_firstUnderstood_40 : decode cX5_firstUnderstood 40 = .ok (.iinc 3 1, 3) := by decide +kernel
theorem dX5_firstUnderstood_43 : decode cX5_firstUnderstood 43 = .ok (.goto (-33), 3) := by decide +kernel
theorem dX5_firstUnderstood_46 : decode cX5_firstUnderstood 46 = .ok (.bipush (-5), 2) := by decide +kernel
theorem dX5_firstUnderstood_48 : decode cX5_firstUnderstood 48 = .ok (.ireturn, 1) := by decide +kernel
set_option maxRecDepth 20000 in
theorem ggX5_say_X1_record : GoodIn wsX5_say wsX1_record := goodIn_r _ [8, 9, 10, 11, 12, 13, 14, 15, 16, 17, 18, 19, 20, 21, 22, 23, 24, 25, 26, 27, 28, 29, 142, 143, 144, 137, 138, 139, 140, 141] (by decide +kernel) (by decide +kernel)
set_option maxRecDepth 20000 in
theorem gX5_say_X1_record : GoodIn wsX5_say (wsV RX5 53 RX1 yX1_record wsX1_record) := goodIn_app (goodIn_of _ (by decide +kernel)) ggX5_say_X1_record
set_option maxRecDepth 20000 in
theorem ggX5_say_X5_heard : GoodIn wsX5_say wsX5_heard := goodIn_r _ [34, 2, 3, 35, 36, 37, 38, 39, 40, 41, 42, 43, 44, 45, 46, 47, 48, 49, 50, 51, 52, 53, 54, 55, 56, 57, 58, 59, 60, 61, 62, 63, 64, 65, 66, 67, 68, 69, 70, 71, 72, 73, 74, 75, 76, 77, 78, 79, 80, 81, 82, 83, 84, 85, 86, 87, 88, 89, 90, 91, 92, 93, 94, 95, 96, 97, 98, 99, 100, 101, 102, 103, 104, 105, 106, 107, 108, 109, 110, 111, 112, 131, 132, 133, 134, 135, 136, 137, 138, 139, 140, 141, 145, 146, 147, 148, 149, 150, 151, 152, 153, 154, 155] (by decide +kernel) (by decide +kernel)
set_option maxRecDepth 20000 in
theorem gX5_say_X5_heard : GoodIn wsX5_say (wsV RX5 128 RX5 yX5_heard wsX5_heard) := goodIn_app (goodIn_of _ (by decide +kernel)) ggX5_say_X5_heard
set_option maxRecDepth 20000 in
theorem ggX5_say_X5_doubtWords : GoodIn wsX5_say wsX5_doubtWords := goodIn_r _ [116, 2, 117, 118, 119, 33, 120, 121, 122, 58, 123, 124, 61, 62, 131, 132, 133, 134, 135, 136, 137, 138, 139, 140, 141] (by decide +kernel) (by decide +kernel)
set_option maxRecDepth 20000 in
theorem gX5_say_X5_doubtWords : GoodIn wsX5_say (wsV RX5 166 RX5 yX5_doubtWords wsX5_doubtWords) := goodIn_app (goodIn_of _ (by decide +kernel)) ggX5_say_X5_doubtWords
set_option maxRecDepth 20000 in
theorem ggX5_say_X3_nextLine : GoodIn wsX5_say wsX3_nextLine := goodIn_r _ [128, 27, 28, 129, 13, 14, 15, 26, 137, 138, 139, 140, 141] (by decide +kernel) (by decide +kernel)
set_option maxRecDepth 20000 in
theorem gX5_say_X3_nextLine : GoodIn wsX5_say (wsV RX5 170 RX3 yX3_nextLine wsX3_nextLine) := goodIn_app (goodIn_of _ (by decide +kernel)) ggX5_say_X3_nextLine
set_option maxRecDepth 20000 in
theorem ggX5_say_X2_length : GoodIn wsX5_say wsX2_length := goodIn_r _ [59] (by decide +kernel) (by decide +kernel)
set_option maxRecDepth 20000 in
theorem gX5_say_X2_length : GoodIn wsX5_say (va_wsS RX5 116 yX2_length wsX2_length) := goodIn_app (goodIn_of _ (by decide +kernel)) ggX5_say_X2_length
theorem dX5_say_0 : decode cX5_say 0 = .ok (.aload_n 0, 1) := by decide +kernel
theorem dX5_say_1 : decode cX5_say 1 = .ok (.getfield 19, 3) := by decide +kernel
theorem dX5_say_4 : decode cX5_say 4 = .ok (.aload_n 0, 1) := by decide +kernel
theorem dX5_say_5 : decode cX5_say 5 = .ok (.getfield 10, 3) := by decide +kernel
theorem dX5_say_8 : decode cX5_say 8 = .ok (.invokevirtual 53, 3) := by decide +kernel
theorem dX5_say_11 : decode cX5_say 11 = .ok (.aload_n 0, 1) := by decide +kernel
theorem dX5_say_12 : decode cX5_say 12 = .ok (.iload_n 1, 1) := by decide +kernel
theorem dX5_say_13 : decode cX5_say 13 = .ok (.lload_n 3, 1) := by decide +kernel
theorem dX5_say_14 : decode cX5_say 14 = .ok (.invokevirtual 128, 3) := by decide +kernel
theorem dX5_say_17 : decode cX5_say 17 = .ok (.istore 5, 2) := by decide +kernel
theorem dX5_say_19 : decode cX5_say 19 = .ok (.iload 5, 2) := by decide +kernel
theorem dX5_say_21 : decode cX5_say 21 = .ok (.iload_n 2, 1) := by decide +kernel
theorem dX5_say_22 : decode cX5_say 22 = .ok (.if_icmp .eq 7, 3) := by decide +kernel
theorem dX5_say_25 : decode cX5_say 25 = .ok (.iconst 1, 1) := by decide +kernel
theorem dX5_say_26 : decode cX5_say 26 = .ok (.goto 4, 3) := by decide +kernel
theorem dX5_say_29 : decode cX5_say 29 = .ok (.iconst 0, 1) := by decide +kernel
theorem dX5_say_30 : decode cX5_say 30 = .ok (.istore 6, 2) := by decide +kernel
theorem dX5_say_32 : decode cX5_say 32 = .ok (.aload_n 0, 1) := by decide +kernel
theorem dX5_say_33 : decode cX5_say 33 = .ok (.getfield 10, 3) := by decide +kernel
theorem dX5_say_36 : decode cX5_say 36 = .ok (.getfield 57, 3) := by decide +kernel
theorem dX5_say_39 : decode cX5_say 39 = .ok (.iload_n 1, 1) := by decide +kernel
theorem dX5_say_40 : decode cX5_say 40 = .ok (.aaload, 1) := by decide +kernel
theorem dX5_say_41 : decode cX5_say 41 = .ok (.astore 7, 2) := by decide +kernel
theorem dX5_say_43 : decode cX5_say 43 = .ok (.aload 7, 2) := by decide +kernel
theorem dX5_say_45 : decode cX5_say 45 = .ok (.bipush 7, 2) := by decide +kernel
theorem dX5_say_47 : decode cX5_say 47 = .ok (.dup2, 1) := by decide +kernel
theorem dX5_say_48 : decode cX5_say 48 = .ok (.iaload, 1) := by decide +kernel
theorem dX5_say_49 : decode cX5_say 49 = .ok (.iconst 1, 1) := by decide +kernel
theorem dX5_say_50 : decode cX5_say 50 = .ok (.iadd, 1) := by decide +kernel
theorem dX5_say_51 : decode cX5_say 51 = .ok (.iastore, 1) := by decide +kernel
theorem dX5_say_52 : decode cX5_say 52 = .ok (.iconst 0, 1) := by decide +kernel
theorem dX5_say_53 : decode cX5_say 53 = .ok (.istore 8, 2) := by decide +kernel
theorem dX5_say_55 : decode cX5_say 55 = .ok (.iload 6, 2) := by decide +kernel
theorem dX5_say_57 : decode cX5_say 57 = .ok (.ifCond .eq 21, 3) := by decide +kernel
theorem dX5_say_60 : decode cX5_say 60 = .ok (.aload 7, 2) := by decide +kernel
theorem dX5_say_62 : decode cX5_say 62 = .ok (.bipush 8, 2) := by decide +kernel
theorem dX5_say_64 : decode cX5_say 64 = .ok (.dup2, 1) := by decide +kernel
theorem dX5_say_65 : decode cX5_say 65 = .ok (.iaload, 1) := by decide +kernel
theorem dX5_say_66 : decode cX5_say 66 = .ok (.iconst 1, 1) := by decide +kernel
theorem dX5_say_67 : decode cX5_say 67 = .ok (.iadd, 1) := by decide +kernel
theorem dX5_say_68 : decode cX5_say 68 = .ok (.iastore, 1) := by decide +kernel
theorem dX5_say_69 : decode cX5_say 69 = .ok (.aload_n 0, 1) := by decide +kernel
theorem dX5_say_70 : decode cX5_say 70 = .ok (.aload 7, 2) := by decide +kernel
theorem dX5_say_72 : decode cX5_say 72 = .ok (.lload_n 3, 1) := by decide +kernel
theorem dX5_say_73 : decode cX5_say 73 = .ok (.invokevirtual 166, 3) := by decide +kernel
theorem dX5_say_76 : decode cX5_say 76 = .ok (.istore 8, 2) := by decide +kernel
theorem dX5_say_78 : decode cX5_say 78 = .ok (.aload_n 0, 1) := by decide +kernel
theorem dX5_say_79 : decode cX5_say 79 = .ok (.getfield 10, 3) := by decide +kernel
theorem dX5_say_82 : decode cX5_say 82 = .ok (.invokevirtual 170, 3) := by decide +kernel
theorem dX5_say_85 : decode cX5_say 85 = .ok (.astore 9, 2) := by decide +kernel
theorem dX5_say_87 : decode cX5_say 87 = .ok (.aload 9, 2) := by decide +kernel
theorem dX5_say_89 : decode cX5_say 89 = .ok (.iconst 0, 1) := by decide +kernel
theorem dX5_say_90 : decode cX5_say 90 = .ok (.iload_n 1, 1) := by decide +kernel
theorem dX5_say_91 : decode cX5_say 91 = .ok (.iastore, 1) := by decide +kernel
theorem dX5_say_92 : decode cX5_say 92 = .ok (.aload 9, 2) := by decide +kernel
theorem dX5_say_94 : decode cX5_say 94 = .ok (.iconst 1, 1) := by decide +kernel
theorem dX5_say_95 : decode cX5_say 95 = .ok (.iload_n 2, 1) := by decide +kernel
theorem dX5_say_96 : decode cX5_say 96 = .ok (.iastore, 1) := by decide +kernel
theorem dX5_say_97 : decode cX5_say 97 = .ok (.aload 9, 2) := by decide +kernel
theorem dX5_say_99 : decode cX5_say 99 = .ok (.iconst 2, 1) := by decide +kernel
theorem dX5_say_100 : decode cX5_say 100 = .ok (.lload_n 3, 1) := by decide +kernel
theorem dX5_say_101 : decode cX5_say 101 = .ok (.invokestatic 116, 3) := by decide +kernel
theorem dX5_say_104 : decode cX5_say 104 = .ok (.iastore, 1) := by decide +kernel
theorem dX5_say_105 : decode cX5_say 105 = .ok (.aload 9, 2) := by decide +kernel
theorem dX5_say_107 : decode cX5_say 107 = .ok (.iconst 3, 1) := by decide +kernel
theorem dX5_say_108 : decode cX5_say 108 = .ok (.iload 5, 2) := by decide +kernel
theorem dX5_say_110 : decode cX5_say 110 = .ok (.iastore, 1) := by decide +kernel
theorem dX5_say_111 : decode cX5_say 111 = .ok (.aload 9, 2) := by decide +kernel
theorem dX5_say_113 : decode cX5_say 113 = .ok (.iconst 4, 1) := by decide +kernel
theorem dX5_say_114 : decode cX5_say 114 = .ok (.iload 8, 2) := by decide +kernel
theorem dX5_say_116 : decode cX5_say 116 = .ok (.ifCond .eq 7, 3) := by decide +kernel
theorem dX5_say_119 : decode cX5_say 119 = .ok (.iconst 1, 1) := by decide +kernel
theorem dX5_say_120 : decode cX5_say 120 = .ok (.goto 4, 3) := by decide +kernel
theorem dX5_say_123 : decode cX5_say 123 = .ok (.iconst 0, 1) := by decide +kernel
theorem dX5_say_124 : decode cX5_say 124 = .ok (.iastore, 1) := by decide +kernel
theorem dX5_say_125 : decode cX5_say 125 = .ok (.iload 6, 2) := by decide +kernel
theorem dX5_say_127 : decode cX5_say 127 = .ok (.ifCond .eq 7, 3) := by decide +kernel
theorem dX5_say_130 : decode cX5_say 130 = .ok (.iconst 0, 1) := by decide +kernel
theorem dX5_say_131 : decode cX5_say 131 = .ok (.goto 4, 3) := by decide +kernel
theorem dX5_say_134 : decode cX5_say 134 = .ok (.iconst 1, 1) := by decide +kernel
theorem dX5_say_135 : decode cX5_say 135 = .ok (.ireturn, 1) := by decide +kernel
set_option maxRecDepth 20000 in
theorem ggX5_doubtWords_X5_wordCharacter : GoodIn wsX5_doubtWords wsX5_wordCharacter := goodIn_r _ [6] (by decide +kernel) (by decide +kernel)
set_option maxRecDepth 20000 in
theorem gX5_doubtWords_X5_wordCharacter : GoodIn wsX5_doubtWords (va_wsS RX5 174 yX5_wordCharacter wsX5_wordCharacter) := goodIn_app (goodIn_of _ (by decide +kernel)) ggX5_doubtWords_X5_wordCharacter
set_option maxRecDepth 20000 in
theorem ggX5_doubtWords_X2_has : GoodIn wsX5_doubtWords wsX2_has := goodIn_r _ [10, 11, 12, 9, 13] (by decide +kernel) (by decide +kernel)
set_option maxRecDepth 20000 in
theorem gX5_doubtWords_X2_has : GoodIn wsX5_doubtWords (va_wsS RX5 178 yX2_has wsX2_has) := goodIn_app (goodIn_of _ (by decide +kernel)) ggX5_doubtWords_X2_has
theorem dX5_doubtWords_0 : decode cX5_doubtWords 0 = .ok (.iconst 0, 1) := by decide +kernel
theorem dX5_doubtWords_1 : decode cX5_doubtWords 1 = .ok (.istore 4, 2) := by decide +kernel
theorem dX5_doubtWords_3 : decode cX5_doubtWords 3 = .ok (.iconst 0, 1) := by decide +kernel
theorem dX5_doubtWords_4 : decode cX5_doubtWords 4 = .ok (.istore 5, 2) := by decide +kernel
theorem dX5_doubtWords_6 : decode cX5_doubtWords 6 = .ok (.iload 5, 2) := by decide +kernel
theorem dX5_doubtWords_8 : decode cX5_doubtWords 8 = .ok (.iconst 3, 1) := by decide +kernel
theorem dX5_doubtWords_9 : decode cX5_doubtWords 9 = .ok (.if_icmp .ge 73, 3) := by decide +kernel
theorem dX5_doubtWords_12 : decode cX5_doubtWords 12 = .ok (.aload_n 1, 1) := by decide +kernel
theorem dX5_doubtWords_13 : decode cX5_doubtWords 13 = .ok (.iconst 0, 1) := by decide +kernel
theorem dX5_doubtWords_14 : decode cX5_doubtWords 14 = .ok (.iload 5, 2) := by decide +kernel
theorem dX5_doubtWords_16 : decode cX5_doubtWords 16 = .ok (.iadd, 1) := by decide +kernel
theorem dX5_doubtWords_17 : decode cX5_doubtWords 17 = .ok (.iaload, 1) := by decide +kernel
theorem dX5_doubtWords_18 : decode cX5_doubtWords 18 = .ok (.ifCond .ne 58, 3) := by decide +kernel
theorem dX5_doubtWords_21 : decode cX5_doubtWords 21 = .ok (.lload_n 2, 1) := by decide +kernel
theorem dX5_doubtWords_22 : decode cX5_doubtWords 22 = .ok (.iload 5, 2) := by decide +kernel
theorem dX5_doubtWords_24 : decode cX5_doubtWords 24 = .ok (.invokestatic 174, 3) := by decide +kernel
theorem dX5_doubtWords_27 : decode cX5_doubtWords 27 = .ok (.invokestatic 178, 3) := by decide +kernel
theorem dX5_doubtWords_30 : decode cX5_doubtWords 30 = .ok (.ifCond .eq 46, 3) := by decide +kernel
theorem dX5_doubtWords_33 : decode cX5_doubtWords 33 = .ok (.aload_n 1, 1) := by decide +kernel
theorem dX5_doubtWords_34 : decode cX5_doubtWords 34 = .ok (.iconst 3, 1) := by decide +kernel
theorem dX5_doubtWords_35 : decode cX5_doubtWords 35 = .ok (.iload 5, 2) := by decide +kernel
theorem dX5_doubtWords_37 : decode cX5_doubtWords 37 = .ok (.iadd, 1) := by decide +kernel
theorem dX5_doubtWords_38 : decode cX5_doubtWords 38 = .ok (.dup2, 1) := by decide +kernel
theorem dX5_doubtWords_39 : decode cX5_doubtWords 39 = .ok (.iaload, 1) := by decide +kernel
theorem dX5_doubtWords_40 : decode cX5_doubtWords 40 = .ok (.iconst 1, 1) := by decide +kernel
theorem dX5_doubtWords_41 : decode cX5_doubtWords 41 = .ok (.iadd, 1) := by decide +kernel
theorem dX5_doubtWords_42 : decode cX5_doubtWords 42 = .ok (.iastore, 1) := by decide +kernel
theorem dX5_doubtWords_43 : decode cX5_doubtWords 43 = .ok (.aload_n 1, 1) := by decide +kernel
theorem dX5_doubtWords_44 : decode cX5_doubtWords 44 = .ok (.iconst 3, 1) := by decide +kernel
theorem dX5_doubtWords_45 : decode cX5_doubtWords 45 = .ok (.iload 5, 2) := by decide +kernel
theorem dX5_doubtWords_47 : decode cX5_doubtWords 47 = .ok (.iadd, 1) := by decide +kernel
theorem dX5_doubtWords_48 : decode cX5_doubtWords 48 = .ok (.iaload, 1) := by decide +kernel
theorem dX5_doubtWords_49 : decode cX5_doubtWords 49 = .ok (.aload_n 0, 1) := by decide +kernel
theorem dX5_doubtWords_50 : decode cX5_doubtWords 50 = .ok (.getfield 10, 3) := by decide +kernel
theorem dX5_doubtWords_53 : decode cX5_doubtWords 53 = .ok (.getfield 61, 3) := by decide +kernel
theorem dX5_doubtWords_56 : decode cX5_doubtWords 56 = .ok (.if_icmp .lt 20, 3) := by decide +kernel
theorem dX5_doubtWords_59 : decode cX5_doubtWords 59 = .ok (.aload_n 1, 1) := by decide +kernel
theorem dX5_doubtWords_60 : decode cX5_doubtWords 60 = .ok (.iconst 0, 1) := by decide +kernel
theorem dX5_doubtWords_61 : decode cX5_doubtWords 61 = .ok (.iload 5, 2) := by decide +kernel
theorem dX5_doubtWords_63 : decode cX5_doubtWords 63 = .ok (.iadd, 1) := by decide +kernel
theorem dX5_doubtWords_64 : decode cX5_doubtWords 64 = .ok (.iconst 1, 1) := by decide +kernel
theorem dX5_doubtWords_65 : decode cX5_doubtWords 65 = .ok (.iastore, 1) := by decide +kernel
theorem dX5_doubtWords_66 : decode cX5_doubtWords 66 = .ok (.aload_n 1, 1) := by decide +kernel
theorem dX5_doubtWords_67 : decode cX5_doubtWords 67 = .ok (.iconst 3, 1) := by decide +kernel
end
section
theorem dX5_doubtWords_68 : decode cX5_doubtWords 68 = .ok (.iload 5, 2) := by decide +kernel
theorem dX5_doubtWords_70 : decode cX5_doubtWords 70 = .ok (.iadd, 1) := by decide +kernel
theorem dX5_doubtWords_71 : decode cX5_doubtWords 71 = .ok (.iconst 0, 1) := by decide +kernel
theorem dX5_doubtWords_72 : decode cX5_doubtWords 72 = .ok (.iastore, 1) := by decide +kernel
theorem dX5_doubtWords_73 : decode cX5_doubtWords 73 = .ok (.iconst 1, 1) := by decide +kernel
theorem dX5_doubtWords_74 : decode cX5_doubtWords 74 = .ok (.istore 4, 2) := by decide +kernel
theorem dX5_doubtWords_76 : decode cX5_doubtWords 76 = .ok (.iinc 5 1, 3) := by decide +kernel
theorem dX5_doubtWords_79 : decode cX5_doubtWords 79 = .ok (.goto (-73), 3) := by decide +kernel
theorem dX5_doubtWords_82 : decode cX5_doubtWords 82 = .ok (.iload 4, 2) := by decide +kernel
theorem dX5_doubtWords_84 : decode cX5_doubtWords 84 = .ok (.ireturn, 1) := by decide +kernel
theorem dX5_wordCharacter_0 : decode cX5_wordCharacter 0 = .ok (.iload_n 0, 1) := by decide +kernel
theorem dX5_wordCharacter_1 : decode cX5_wordCharacter 1 = .ok (.lookupswitch 33 #[(0, 27), (1, 30)], 27) := by decide +kernel
theorem dX5_wordCharacter_28 : decode cX5_wordCharacter 28 = .ok (.bipush 72, 2) := by decide +kernel
theorem dX5_wordCharacter_30 : decode cX5_wordCharacter 30 = .ok (.ireturn, 1) := by decide +kernel
theorem dX5_wordCharacter_31 : decode cX5_wordCharacter 31 = .ok (.bipush 45, 2) := by decide +kernel
theorem dX5_wordCharacter_33 : decode cX5_wordCharacter 33 = .ok (.ireturn, 1) := by decide +kernel
theorem dX5_wordCharacter_34 : decode cX5_wordCharacter 34 = .ok (.bipush 71, 2) := by decide +kernel
theorem dX5_wordCharacter_36 : decode cX5_wordCharacter 36 = .ok (.ireturn, 1) := by decide +kernel
theorem dX6_init_0 : decode cX6_init 0 = .ok (.aload_n 0, 1) := by decide +kernel
theorem dX6_init_1 : decode cX6_init 1 = .ok (.invokespecial 1, 3) := by decide +kernel
theorem dX6_init_4 : decode cX6_init 4 = .ok (.aload_n 0, 1) := by decide +kernel
theorem dX6_init_5 : decode cX6_init 5 = .ok (.bipush 106, 2) := by decide +kernel
theorem dX6_init_7 : decode cX6_init 7 = .ok (.newarray .int, 2) := by decide +kernel
theorem dX6_init_9 : decode cX6_init 9 = .ok (.putfield 7, 3) := by decide +kernel
theorem dX6_init_12 : decode cX6_init 12 = .ok (.aload_n 0, 1) := by decide +kernel
theorem dX6_init_13 : decode cX6_init 13 = .ok (.sipush 424, 3) := by decide +kernel
theorem dX6_init_16 : decode cX6_init 16 = .ok (.newarray .int, 2) := by decide +kernel
theorem dX6_init_18 : decode cX6_init 18 = .ok (.putfield 13, 3) := by decide +kernel
theorem dX6_init_21 : decode cX6_init 21 = .ok (.aload_n 0, 1) := by decide +kernel
theorem dX6_init_22 : decode cX6_init 22 = .ok (.bipush 20, 2) := by decide +kernel
theorem dX6_init_24 : decode cX6_init 24 = .ok (.newarray .char, 2) := by decide +kernel
theorem dX6_init_26 : decode cX6_init 26 = .ok (.putfield 16, 3) := by decide +kernel
theorem dX6_init_29 : decode cX6_init 29 = .ok (.aload_n 0, 1) := by decide +kernel
theorem dX6_init_30 : decode cX6_init 30 = .ok (.bipush 20, 2) := by decide +kernel
theorem dX6_init_32 : decode cX6_init 32 = .ok (.newarray .char, 2) := by decide +kernel
theorem dX6_init_34 : decode cX6_init 34 = .ok (.putfield 20, 3) := by decide +kernel
theorem dX6_init_37 : decode cX6_init 37 = .ok (.aload_n 0, 1) := by decide +kernel
theorem dX6_init_38 : decode cX6_init 38 = .ok (.sipush 160, 3) := by decide +kernel
theorem dX6_init_41 : decode cX6_init 41 = .ok (.newarray .char, 2) := by decide +kernel
theorem dX6_init_43 : decode cX6_init 43 = .ok (.putfield 23, 3) := by decide +kernel
theorem dX6_init_46 : decode cX6_init 46 = .ok (.aload_n 0, 1) := by decide +kernel
theorem dX6_init_47 : decode cX6_init 47 = .ok (.bipush 16, 2) := by decide +kernel
theorem dX6_init_49 : decode cX6_init 49 = .ok (.newarray .int, 2) := by decide +kernel
theorem dX6_init_51 : decode cX6_init 51 = .ok (.putfield 26, 3) := by decide +kernel
theorem dX6_init_54 : decode cX6_init 54 = .ok (.aload_n 0, 1) := by decide +kernel
theorem dX6_init_55 : decode cX6_init 55 = .ok (.bipush 16, 2) := by decide +kernel
theorem dX6_init_57 : decode cX6_init 57 = .ok (.newarray .int, 2) := by decide +kernel
theorem dX6_init_59 : decode cX6_init 59 = .ok (.putfield 29, 3) := by decide +kernel
theorem dX6_init_62 : decode cX6_init 62 = .ok (.iconst 0, 1) := by decide +kernel
theorem dX6_init_63 : decode cX6_init 63 = .ok (.istore_n 1, 1) := by decide +kernel
theorem dX6_init_64 : decode cX6_init 64 = .ok (.iload_n 1, 1) := by decide +kernel
theorem dX6_init_65 : decode cX6_init 65 = .ok (.bipush 6, 2) := by decide +kernel
theorem dX6_init_67 : decode cX6_init 67 = .ok (.if_icmp .ge 59, 3) := by decide +kernel
theorem dX6_init_70 : decode cX6_init 70 = .ok (.aload_n 0, 1) := by decide +kernel
theorem dX6_init_71 : decode cX6_init 71 = .ok (.getfield 7, 3) := by decide +kernel
theorem dX6_init_74 : decode cX6_init 74 = .ok (.bipush 9, 2) := by decide +kernel
theorem dX6_init_76 : decode cX6_init 76 = .ok (.iload_n 1, 1) := by decide +kernel
theorem dX6_init_77 : decode cX6_init 77 = .ok (.imul, 1) := by decide +kernel
theorem dX6_init_78 : decode cX6_init 78 = .ok (.iconst 0, 1) := by decide +kernel
theorem dX6_init_79 : decode cX6_init 79 = .ok (.iadd, 1) := by decide +kernel
theorem dX6_init_80 : decode cX6_init 80 = .ok (.iconst 1, 1) := by decide +kernel
theorem dX6_init_81 : decode cX6_init 81 = .ok (.iastore, 1) := by decide +kernel
theorem dX6_init_82 : decode cX6_init 82 = .ok (.aload_n 0, 1) := by decide +kernel
theorem dX6_init_83 : decode cX6_init 83 = .ok (.getfield 7, 3) := by decide +kernel
theorem dX6_init_86 : decode cX6_init 86 = .ok (.bipush 9, 2) := by decide +kernel
theorem dX6_init_88 : decode cX6_init 88 = .ok (.iload_n 1, 1) := by decide +kernel
theorem dX6_init_89 : decode cX6_init 89 = .ok (.imul, 1) := by decide +kernel
theorem dX6_init_90 : decode cX6_init 90 = .ok (.iconst 1, 1) := by decide +kernel
theorem dX6_init_91 : decode cX6_init 91 = .ok (.iadd, 1) := by decide +kernel
theorem dX6_init_92 : decode cX6_init 92 = .ok (.iconst 1, 1) := by decide +kernel
theorem dX6_init_93 : decode cX6_init 93 = .ok (.iastore, 1) := by decide +kernel
theorem dX6_init_94 : decode cX6_init 94 = .ok (.aload_n 0, 1) := by decide +kernel
theorem dX6_init_95 : decode cX6_init 95 = .ok (.getfield 7, 3) := by decide +kernel
theorem dX6_init_98 : decode cX6_init 98 = .ok (.bipush 9, 2) := by decide +kernel
theorem dX6_init_100 : decode cX6_init 100 = .ok (.iload_n 1, 1) := by decide +kernel
theorem dX6_init_101 : decode cX6_init 101 = .ok (.imul, 1) := by decide +kernel
theorem dX6_init_102 : decode cX6_init 102 = .ok (.iconst 2, 1) := by decide +kernel
theorem dX6_init_103 : decode cX6_init 103 = .ok (.iadd, 1) := by decide +kernel
theorem dX6_init_104 : decode cX6_init 104 = .ok (.iconst 1, 1) := by decide +kernel
theorem dX6_init_105 : decode cX6_init 105 = .ok (.iastore, 1) := by decide +kernel
theorem dX6_init_106 : decode cX6_init 106 = .ok (.aload_n 0, 1) := by decide +kernel
theorem dX6_init_107 : decode cX6_init 107 = .ok (.getfield 7, 3) := by decide +kernel
theorem dX6_init_110 : decode cX6_init 110 = .ok (.bipush 9, 2) := by decide +kernel
theorem dX6_init_112 : decode cX6_init 112 = .ok (.iload_n 1, 1) := by decide +kernel
theorem dX6_init_113 : decode cX6_init 113 = .ok (.imul, 1) := by decide +kernel
theorem dX6_init_114 : decode cX6_init 114 = .ok (.bipush 6, 2) := by decide +kernel
theorem dX6_init_116 : decode cX6_init 116 = .ok (.iadd, 1) := by decide +kernel
theorem dX6_init_117 : decode cX6_init 117 = .ok (.bipush 12, 2) := by decide +kernel
theorem dX6_init_119 : decode cX6_init 119 = .ok (.iastore, 1) := by decide +kernel
theorem dX6_init_120 : decode cX6_init 120 = .ok (.iinc 1 1, 3) := by decide +kernel
theorem dX6_init_123 : decode cX6_init 123 = .ok (.goto (-59), 3) := by decide +kernel
theorem dX6_init_126 : decode cX6_init 126 = .ok (.aload_n 0, 1) := by decide +kernel
theorem dX6_init_127 : decode cX6_init 127 = .ok (.getfield 7, 3) := by decide +kernel
theorem dX6_init_130 : decode cX6_init 130 = .ok (.bipush 54, 2) := by decide +kernel
theorem dX6_init_132 : decode cX6_init 132 = .ok (.iconst 2, 1) := by decide +kernel
theorem dX6_init_133 : decode cX6_init 133 = .ok (.iastore, 1) := by decide +kernel
theorem dX6_init_134 : decode cX6_init 134 = .ok (.return_, 1) := by decide +kernel
theorem dX6_in_0 : decode cX6_in 0 = .ok (.iload_n 0, 1) := by decide +kernel
theorem dX6_in_1 : decode cX6_in 1 = .ok (.iload_n 1, 1) := by decide +kernel
theorem dX6_in_2 : decode cX6_in 2 = .ok (.if_icmp .lt 12, 3) := by decide +kernel
theorem dX6_in_5 : decode cX6_in 5 = .ok (.iload_n 0, 1) := by decide +kernel
theorem dX6_in_6 : decode cX6_in 6 = .ok (.iload_n 2, 1) := by decide +kernel
theorem dX6_in_7 : decode cX6_in 7 = .ok (.if_icmp .gt 7, 3) := by decide +kernel
theorem dX6_in_10 : decode cX6_in 10 = .ok (.iconst 1, 1) := by decide +kernel
theorem dX6_in_11 : decode cX6_in 11 = .ok (.goto 4, 3) := by decide +kernel
theorem dX6_in_14 : decode cX6_in 14 = .ok (.iconst 0, 1) := by decide +kernel
theorem dX6_in_15 : decode cX6_in 15 = .ok (.ireturn, 1) := by decide +kernel
set_option maxRecDepth 20000 in
theorem ggX6_isHearer_X6_in : GoodIn wsX6_isHearer wsX6_in := goodIn_r _ [4] (by decide +kernel) (by decide +kernel)
set_option maxRecDepth 20000 in
theorem gX6_isHearer_X6_in : GoodIn wsX6_isHearer (va_wsS RX6 32 yX6_in wsX6_in) := goodIn_app (goodIn_of _ (by decide +kernel)) ggX6_isHearer_X6_in
theorem dX6_isHearer_0 : decode cX6_isHearer 0 = .ok (.iload_n 0, 1) := by decide +kernel
theorem dX6_isHearer_1 : decode cX6_isHearer 1 = .ok (.iconst 0, 1) := by decide +kernel
theorem dX6_isHearer_2 : decode cX6_isHearer 2 = .ok (.iconst 5, 1) := by decide +kernel
theorem dX6_isHearer_3 : decode cX6_isHearer 3 = .ok (.invokestatic 32, 3) := by decide +kernel
theorem dX6_isHearer_6 : decode cX6_isHearer 6 = .ok (.ireturn, 1) := by decide +kernel
set_option maxRecDepth 20000 in
theorem ggX6_isNumber_X6_in : GoodIn wsX6_isNumber wsX6_in := goodIn_r _ [4] (by decide +kernel) (by decide +kernel)
set_option maxRecDepth 20000 in
theorem gX6_isNumber_X6_in : GoodIn wsX6_isNumber (va_wsS RX6 32 yX6_in wsX6_in) := goodIn_app (goodIn_of _ (by decide +kernel)) ggX6_isNumber_X6_in
theorem dX6_isNumber_0 : decode cX6_isNumber 0 = .ok (.iload_n 0, 1) := by decide +kernel
theorem dX6_isNumber_1 : decode cX6_isNumber 1 = .ok (.iconst 1, 1) := by decide +kernel
theorem dX6_isNumber_2 : decode cX6_isNumber 2 = .ok (.sipush 7999, 3) := by decide +kernel
theorem dX6_isNumber_5 : decode cX6_isNumber 5 = .ok (.invokestatic 32, 3) := by decide +kernel
theorem dX6_isNumber_8 : decode cX6_isNumber 8 = .ok (.ireturn, 1) := by decide +kernel
theorem dX6_record_0 : decode cX6_record 0 = .ok (.aload_n 0, 1) := by decide +kernel
theorem dX6_record_1 : decode cX6_record 1 = .ok (.getfield 36, 3) := by decide +kernel
theorem dX6_record_4 : decode cX6_record 4 = .ok (.iconst 4, 1) := by decide +kernel
theorem dX6_record_5 : decode cX6_record 5 = .ok (.if_icmp .ne 43, 3) := by decide +kernel
theorem dX6_record_8 : decode cX6_record 8 = .ok (.iconst 0, 1) := by decide +kernel
theorem dX6_record_9 : decode cX6_record 9 = .ok (.istore_n 1, 1) := by decide +kernel
theorem dX6_record_10 : decode cX6_record 10 = .ok (.iload_n 1, 1) := by decide +kernel
theorem dX6_record_11 : decode cX6_record 11 = .ok (.sipush 318, 3) := by decide +kernel
theorem dX6_record_14 : decode cX6_record 14 = .ok (.if_icmp .ge 24, 3) := by decide +kernel
theorem dX6_record_17 : decode cX6_record 17 = .ok (.aload_n 0, 1) := by decide +kernel
theorem dX6_record_18 : decode cX6_record 18 = .ok (.getfield 13, 3) := by decide +kernel
theorem dX6_record_21 : decode cX6_record 21 = .ok (.iload_n 1, 1) := by decide +kernel
theorem dX6_record_22 : decode cX6_record 22 = .ok (.aload_n 0, 1) := by decide +kernel
theorem dX6_record_23 : decode cX6_record 23 = .ok (.getfield 13, 3) := by decide +kernel
theorem dX6_record_26 : decode cX6_record 26 = .ok (.bipush 106, 2) := by decide +kernel
theorem dX6_record_28 : decode cX6_record 28 = .ok (.iload_n 1, 1) := by decide +kernel
theorem dX6_record_29 : decode cX6_record 29 = .ok (.iadd, 1) := by decide +kernel
theorem dX6_record_30 : decode cX6_record 30 = .ok (.iaload, 1) := by decide +kernel
theorem dX6_record_31 : decode cX6_record 31 = .ok (.iastore, 1) := by decide +kernel
theorem dX6_record_32 : decode cX6_record 32 = .ok (.iinc 1 1, 3) := by decide +kernel
theorem dX6_record_35 : decode cX6_record 35 = .ok (.goto (-25), 3) := by decide +kernel
theorem dX6_record_38 : decode cX6_record 38 = .ok (.aload_n 0, 1) := by decide +kernel
theorem dX6_record_39 : decode cX6_record 39 = .ok (.dup, 1) := by decide +kernel
theorem dX6_record_40 : decode cX6_record 40 = .ok (.getfield 36, 3) := by decide +kernel
theorem dX6_record_43 : decode cX6_record 43 = .ok (.iconst 1, 1) := by decide +kernel
theorem dX6_record_44 : decode cX6_record 44 = .ok (.isub, 1) := by decide +kernel
theorem dX6_record_45 : decode cX6_record 45 = .ok (.putfield 36, 3) := by decide +kernel
theorem dX6_record_48 : decode cX6_record 48 = .ok (.iconst 0, 1) := by decide +kernel
theorem dX6_record_49 : decode cX6_record 49 = .ok (.istore_n 1, 1) := by decide +kernel
theorem dX6_record_50 : decode cX6_record 50 = .ok (.iload_n 1, 1) := by decide +kernel
theorem dX6_record_51 : decode cX6_record 51 = .ok (.bipush 106, 2) := by decide +kernel
theorem dX6_record_53 : decode cX6_record 53 = .ok (.if_icmp .ge 29, 3) := by decide +kernel
theorem dX6_record_56 : decode cX6_record 56 = .ok (.aload_n 0, 1) := by decide +kernel
theorem dX6_record_57 : decode cX6_record 57 = .ok (.getfield 13, 3) := by decide +kernel
theorem dX6_record_60 : decode cX6_record 60 = .ok (.bipush 106, 2) := by decide +kernel
theorem dX6_record_62 : decode cX6_record 62 = .ok (.aload_n 0, 1) := by decide +kernel
theorem dX6_record_63 : decode cX6_record 63 = .ok (.getfield 36, 3) := by decide +kernel
theorem dX6_record_66 : decode cX6_record 66 = .ok (.imul, 1) := by decide +kernel
theorem dX6_record_67 : decode cX6_record 67 = .ok (.iload_n 1, 1) := by decide +kernel
theorem dX6_record_68 : decode cX6_record 68 = .ok (.iadd, 1) := by decide +kernel
theorem dX6_record_69 : decode cX6_record 69 = .ok (.aload_n 0, 1) := by decide +kernel
theorem dX6_record_70 : decode cX6_record 70 = .ok (.getfield 7, 3) := by decide +kernel
theorem dX6_record_73 : decode cX6_record 73 = .ok (.iload_n 1, 1) := by decide +kernel
theorem dX6_record_74 : decode cX6_record 74 = .ok (.iaload, 1) := by decide +kernel
theorem dX6_record_75 : decode cX6_record 75 = .ok (.iastore, 1) := by decide +kernel
theorem dX6_record_76 : decode cX6_record 76 = .ok (.iinc 1 1, 3) := by decide +kernel
theorem dX6_record_79 : decode cX6_record 79 = .ok (.goto (-29), 3) := by decide +kernel
theorem dX6_record_82 : decode cX6_record 82 = .ok (.aload_n 0, 1) := by decide +kernel
theorem dX6_record_83 : decode cX6_record 83 = .ok (.dup, 1) := by decide +kernel
theorem dX6_record_84 : decode cX6_record 84 = .ok (.getfield 36, 3) := by decide +kernel
theorem dX6_record_87 : decode cX6_record 87 = .ok (.iconst 1, 1) := by decide +kernel
theorem dX6_record_88 : decode cX6_record 88 = .ok (.iadd, 1) := by decide +kernel
theorem dX6_record_89 : decode cX6_record 89 = .ok (.putfield 36, 3) := by decide +kernel
theorem dX6_record_92 : decode cX6_record 92 = .ok (.return_, 1) := by decide +kernel
theorem dX6_isSign_0 : decode cX6_isSign 0 = .ok (.aload_n 0, 1) := by decide +kernel
theorem dX6_isSign_1 : decode cX6_isSign 1 = .ok (.getfield 40, 3) := by decide +kernel
theorem dX6_isSign_4 : decode cX6_isSign 4 = .ok (.aload_n 0, 1) := by decide +kernel
theorem dX6_isSign_5 : decode cX6_isSign 5 = .ok (.getfield 43, 3) := by decide +kernel
theorem dX6_isSign_8 : decode cX6_isSign 8 = .ok (.if_icmp .ge 20, 3) := by decide +kernel
theorem dX6_isSign_11 : decode cX6_isSign 11 = .ok (.aload_n 0, 1) := by decide +kernel
theorem dX6_isSign_12 : decode cX6_isSign 12 = .ok (.getfield 16, 3) := by decide +kernel
theorem dX6_isSign_15 : decode cX6_isSign 15 = .ok (.aload_n 0, 1) := by decide +kernel
theorem dX6_isSign_16 : decode cX6_isSign 16 = .ok (.getfield 40, 3) := by decide +kernel
theorem dX6_isSign_19 : decode cX6_isSign 19 = .ok (.caload, 1) := by decide +kernel
theorem dX6_isSign_20 : decode cX6_isSign 20 = .ok (.iload_n 1, 1) := by decide +kernel
theorem dX6_isSign_21 : decode cX6_isSign 21 = .ok (.if_icmp .ne 7, 3) := by decide +kernel
theorem dX6_isSign_24 : decode cX6_isSign 24 = .ok (.iconst 1, 1) := by decide +kernel
theorem dX6_isSign_25 : decode cX6_isSign 25 = .ok (.goto 4, 3) := by decide +kernel
theorem dX6_isSign_28 : decode cX6_isSign 28 = .ok (.iconst 0, 1) := by decide +kernel
theorem dX6_isSign_29 : decode cX6_isSign 29 = .ok (.ireturn, 1) := by decide +kernel
set_option maxRecDepth 20000 in
theorem ggX6_accepts_X6_isSign : GoodIn wsX6_accepts wsX6_isSign := goodIn_r _ [6, 1, 7, 8, 9, 10, 11, 12, 13, 14, 15, 16, 17, 18, 19, 20, 21, 22, 23, 24, 25, 26] (by decide +kernel) (by decide +kernel)
set_option maxRecDepth 20000 in
theorem gX6_accepts_X6_isSign : GoodIn wsX6_accepts (wsV RX6 46 RX6 yX6_isSign wsX6_isSign) := goodIn_app (goodIn_of _ (by decide +kernel)) ggX6_accepts_X6_isSign
theorem dX6_accepts_0 : decode cX6_accepts 0 = .ok (.aload_n 0, 1) := by decide +kernel
theorem dX6_accepts_1 : decode cX6_accepts 1 = .ok (.iload_n 1, 1) := by decide +kernel
theorem dX6_accepts_2 : decode cX6_accepts 2 = .ok (.invokevirtual 46, 3) := by decide +kernel
theorem dX6_accepts_5 : decode cX6_accepts 5 = .ok (.istore_n 2, 1) := by decide +kernel
theorem dX6_accepts_6 : decode cX6_accepts 6 = .ok (.aload_n 0, 1) := by decide +kernel
theorem dX6_accepts_7 : decode cX6_accepts 7 = .ok (.dup, 1) := by decide +kernel
theorem dX6_accepts_8 : decode cX6_accepts 8 = .ok (.getfield 40, 3) := by decide +kernel
theorem dX6_accepts_11 : decode cX6_accepts 11 = .ok (.iload_n 2, 1) := by decide +kernel
theorem dX6_accepts_12 : decode cX6_accepts 12 = .ok (.ifCond .eq 7, 3) := by decide +kernel
theorem dX6_accepts_15 : decode cX6_accepts 15 = .ok (.iconst 1, 1) := by decide +kernel
theorem dX6_accepts_16 : decode cX6_accepts 16 = .ok (.goto 4, 3) := by decide +kernel
theorem dX6_accepts_19 : decode cX6_accepts 19 = .ok (.iconst 0, 1) := by decide +kernel
theorem dX6_accepts_20 : decode cX6_accepts 20 = .ok (.iadd, 1) := by decide +kernel
theorem dX6_accepts_21 : decode cX6_accepts 21 = .ok (.putfield 40, 3) := by decide +kernel
theorem dX6_accepts_24 : decode cX6_accepts 24 = .ok (.iload_n 2, 1) := by decide +kernel
theorem dX6_accepts_25 : decode cX6_accepts 25 = .ok (.ireturn, 1) := by decide +kernel
theorem dX6_unitFrom_0 : decode cX6_unitFrom 0 = .ok (.aload_n 0, 1) := by decide +kernel
theorem dX6_unitFrom_1 : decode cX6_unitFrom 1 = .ok (.getfield 40, 3) := by decide +kernel
theorem dX6_unitFrom_4 : decode cX6_unitFrom 4 = .ok (.aload_n 0, 1) := by decide +kernel
theorem dX6_unitFrom_5 : decode cX6_unitFrom 5 = .ok (.getfield 43, 3) := by decide +kernel
theorem dX6_unitFrom_8 : decode cX6_unitFrom 8 = .ok (.if_icmp .eq 30, 3) := by decide +kernel
theorem dX6_unitFrom_11 : decode cX6_unitFrom 11 = .ok (.aload_n 0, 1) := by decide +kernel
theorem dX6_unitFrom_12 : decode cX6_unitFrom 12 = .ok (.getfield 16, 3) := by decide +kernel
theorem dX6_unitFrom_15 : decode cX6_unitFrom 15 = .ok (.aload_n 0, 1) := by decide +kernel
theorem dX6_unitFrom_16 : decode cX6_unitFrom 16 = .ok (.getfield 40, 3) := by decide +kernel
theorem dX6_unitFrom_19 : decode cX6_unitFrom 19 = .ok (.caload, 1) := by decide +kernel
theorem dX6_unitFrom_20 : decode cX6_unitFrom 20 = .ok (.iload_n 1, 1) := by decide +kernel
theorem dX6_unitFrom_21 : decode cX6_unitFrom 21 = .ok (.if_icmp .lt 17, 3) := by decide +kernel
theorem dX6_unitFrom_24 : decode cX6_unitFrom 24 = .ok (.aload_n 0, 1) := by decide +kernel
theorem dX6_unitFrom_25 : decode cX6_unitFrom 25 = .ok (.getfield 16, 3) := by decide +kernel
theorem dX6_unitFrom_28 : decode cX6_unitFrom 28 = .ok (.aload_n 0, 1) := by decide +kernel
theorem dX6_unitFrom_29 : decode cX6_unitFrom 29 = .ok (.getfield 40, 3) := by decide +kernel
theorem dX6_unitFrom_32 : decode cX6_unitFrom 32 = .ok (.caload, 1) := by decide +kernel
theorem dX6_unitFrom_33 : decode cX6_unitFrom 33 = .ok (.bipush 115, 2) := by decide +kernel
theorem dX6_unitFrom_35 : decode cX6_unitFrom 35 = .ok (.if_icmp .le 5, 3) := by decide +kernel
theorem dX6_unitFrom_38 : decode cX6_unitFrom 38 = .ok (.iconst 0, 1) := by decide +kernel
theorem dX6_unitFrom_39 : decode cX6_unitFrom 39 = .ok (.ireturn, 1) := by decide +kernel
theorem dX6_unitFrom_40 : decode cX6_unitFrom 40 = .ok (.aload_n 0, 1) := by decide +kernel
theorem dX6_unitFrom_41 : decode cX6_unitFrom 41 = .ok (.dup, 1) := by decide +kernel
theorem dX6_unitFrom_42 : decode cX6_unitFrom 42 = .ok (.getfield 40, 3) := by decide +kernel
theorem dX6_unitFrom_45 : decode cX6_unitFrom 45 = .ok (.iconst 1, 1) := by decide +kernel
theorem dX6_unitFrom_46 : decode cX6_unitFrom 46 = .ok (.iadd, 1) := by decide +kernel
theorem dX6_unitFrom_47 : decode cX6_unitFrom 47 = .ok (.putfield 40, 3) := by decide +kernel
theorem dX6_unitFrom_50 : decode cX6_unitFrom 50 = .ok (.aload_n 0, 1) := by decide +kernel
theorem dX6_unitFrom_51 : decode cX6_unitFrom 51 = .ok (.getfield 16, 3) := by decide +kernel
theorem dX6_unitFrom_54 : decode cX6_unitFrom 54 = .ok (.aload_n 0, 1) := by decide +kernel
theorem dX6_unitFrom_55 : decode cX6_unitFrom 55 = .ok (.getfield 40, 3) := by decide +kernel
theorem dX6_unitFrom_58 : decode cX6_unitFrom 58 = .ok (.iconst 1, 1) := by decide +kernel
theorem dX6_unitFrom_59 : decode cX6_unitFrom 59 = .ok (.isub, 1) := by decide +kernel
theorem dX6_unitFrom_60 : decode cX6_unitFrom 60 = .ok (.caload, 1) := by decide +kernel
theorem dX6_unitFrom_61 : decode cX6_unitFrom 61 = .ok (.bipush 97, 2) := by decide +kernel
theorem dX6_unitFrom_63 : decode cX6_unitFrom 63 = .ok (.isub, 1) := by decide +kernel
theorem dX6_unitFrom_64 : decode cX6_unitFrom 64 = .ok (.iconst 1, 1) := by decide +kernel
theorem dX6_unitFrom_65 : decode cX6_unitFrom 65 = .ok (.iadd, 1) := by decide +kernel
theorem dX6_unitFrom_66 : decode cX6_unitFrom 66 = .ok (.ireturn, 1) := by decide +kernel
set_option maxRecDepth 20000 in
theorem ggX6_base_X6_accepts : GoodIn wsX6_base wsX6_accepts := goodIn_r _ [7, 8, 9, 10, 11, 6, 12, 13, 14, 19, 20, 21, 22, 23, 24, 25, 26, 27, 28, 29, 30, 31, 32, 33, 34, 35, 36] (by decide +kernel) (by decide +kernel)
set_option maxRecDepth 20000 in
theorem gX6_base_X6_accepts : GoodIn wsX6_base (wsV RX6 50 RX6 yX6_accepts wsX6_accepts) := goodIn_app (goodIn_of _ (by decide +kernel)) ggX6_base_X6_accepts
set_option maxRecDepth 20000 in
theorem ggX6_base_X6_unitFrom : GoodIn wsX6_base wsX6_unitFrom := goodIn_r _ [18, 8, 13, 14, 19, 20, 21, 22, 23, 24, 25, 26, 27, 28, 29, 30, 31, 32, 33, 34, 35, 36] (by decide +kernel) (by decide +kernel)
set_option maxRecDepth 20000 in
theorem gX6_base_X6_unitFrom : GoodIn wsX6_base (wsV RX6 60 RX6 yX6_unitFrom wsX6_unitFrom) := goodIn_app (goodIn_of _ (by decide +kernel)) ggX6_base_X6_unitFrom
theorem dX6_base_0 : decode cX6_base 0 = .ok (.aload_n 0, 1) := by decide +kernel
theorem dX6_base_1 : decode cX6_base 1 = .ok (.bipush 83, 2) := by decide +kernel
theorem dX6_base_3 : decode cX6_base 3 = .ok (.invokevirtual 50, 3) := by decide +kernel
theorem dX6_base_6 : decode cX6_base 6 = .ok (.ifCond .eq 10, 3) := by decide +kernel
theorem dX6_base_9 : decode cX6_base 9 = .ok (.aload_n 0, 1) := by decide +kernel
theorem dX6_base_10 : decode cX6_base 10 = .ok (.iconst 1, 1) := by decide +kernel
theorem dX6_base_11 : decode cX6_base 11 = .ok (.putfield 53, 3) := by decide +kernel
theorem dX6_base_14 : decode cX6_base 14 = .ok (.iconst 1, 1) := by decide +kernel
theorem dX6_base_15 : decode cX6_base 15 = .ok (.ireturn, 1) := by decide +kernel
theorem dX6_base_16 : decode cX6_base 16 = .ok (.aload_n 0, 1) := by decide +kernel
theorem dX6_base_17 : decode cX6_base 17 = .ok (.aload_n 0, 1) := by decide +kernel
theorem dX6_base_18 : decode cX6_base 18 = .ok (.bipush 72, 2) := by decide +kernel
theorem dX6_base_20 : decode cX6_base 20 = .ok (.invokevirtual 50, 3) := by decide +kernel
theorem dX6_base_23 : decode cX6_base 23 = .ok (.putfield 56, 3) := by decide +kernel
theorem dX6_base_26 : decode cX6_base 26 = .ok (.aload_n 0, 1) := by decide +kernel
theorem dX6_base_27 : decode cX6_base 27 = .ok (.aload_n 0, 1) := by decide +kernel
theorem dX6_base_28 : decode cX6_base 28 = .ok (.bipush 98, 2) := by decide +kernel
theorem dX6_base_30 : decode cX6_base 30 = .ok (.invokevirtual 60, 3) := by decide +kernel
theorem dX6_base_33 : decode cX6_base 33 = .ok (.putfield 53, 3) := by decide +kernel
theorem dX6_base_36 : decode cX6_base 36 = .ok (.aload_n 0, 1) := by decide +kernel
theorem dX6_base_37 : decode cX6_base 37 = .ok (.getfield 53, 3) := by decide +kernel
theorem dX6_base_40 : decode cX6_base 40 = .ok (.ifCond .le 16, 3) := by decide +kernel
theorem dX6_base_43 : decode cX6_base 43 = .ok (.aload_n 0, 1) := by decide +kernel
theorem dX6_base_44 : decode cX6_base 44 = .ok (.bipush 83, 2) := by decide +kernel
theorem dX6_base_46 : decode cX6_base 46 = .ok (.invokevirtual 50, 3) := by decide +kernel
theorem dX6_base_49 : decode cX6_base 49 = .ok (.ifCond .eq 7, 3) := by decide +kernel
theorem dX6_base_52 : decode cX6_base 52 = .ok (.iconst 1, 1) := by decide +kernel
theorem dX6_base_53 : decode cX6_base 53 = .ok (.goto 4, 3) := by decide +kernel
theorem dX6_base_56 : decode cX6_base 56 = .ok (.iconst 0, 1) := by decide +kernel
theorem dX6_base_57 : decode cX6_base 57 = .ok (.ireturn, 1) := by decide +kernel
set_option maxRecDepth 20000 in
theorem ggX6_plus_X6_accepts : GoodIn wsX6_plus wsX6_accepts := goodIn_r _ [6, 7, 8, 9, 10, 5, 11, 12, 13, 18, 19, 20, 21, 22, 23, 24, 25, 26, 27, 28, 29, 30, 31, 32, 33, 34, 35] (by decide +kernel) (by decide +kernel)
set_option maxRecDepth 20000 in
theorem gX6_plus_X6_accepts : GoodIn wsX6_plus (wsV RX6 50 RX6 yX6_accepts wsX6_accepts) := goodIn_app (goodIn_of _ (by decide +kernel)) ggX6_plus_X6_accepts
set_option maxRecDepth 20000 in
theorem ggX6_plus_X6_unitFrom : GoodIn wsX6_plus wsX6_unitFrom := goodIn_r _ [17, 7, 12, 13, 18, 19, 20, 21, 22, 23, 24, 25, 26, 27, 28, 29, 30, 31, 32, 33, 34, 35] (by decide +kernel) (by decide +kernel)
set_option maxRecDepth 20000 in
theorem gX6_plus_X6_unitFrom : GoodIn wsX6_plus (wsV RX6 60 RX6 yX6_unitFrom wsX6_unitFrom) := goodIn_app (goodIn_of _ (by decide +kernel)) ggX6_plus_X6_unitFrom
theorem dX6_plus_0 : decode cX6_plus 0 = .ok (.aload_n 0, 1) := by decide +kernel
theorem dX6_plus_1 : decode cX6_plus 1 = .ok (.bipush 43, 2) := by decide +kernel
theorem dX6_plus_3 : decode cX6_plus 3 = .ok (.invokevirtual 50, 3) := by decide +kernel
theorem dX6_plus_6 : decode cX6_plus 6 = .ok (.ifCond .ne 5, 3) := by decide +kernel
theorem dX6_plus_9 : decode cX6_plus 9 = .ok (.iconst 1, 1) := by decide +kernel
theorem dX6_plus_10 : decode cX6_plus 10 = .ok (.ireturn, 1) := by decide +kernel
theorem dX6_plus_11 : decode cX6_plus 11 = .ok (.aload_n 0, 1) := by decide +kernel
theorem dX6_plus_12 : decode cX6_plus 12 = .ok (.aload_n 0, 1) := by decide +kernel
theorem dX6_plus_13 : decode cX6_plus 13 = .ok (.bipush 97, 2) := by decide +kernel
theorem dX6_plus_15 : decode cX6_plus 15 = .ok (.invokevirtual 60, 3) := by decide +kernel
theorem dX6_plus_18 : decode cX6_plus 18 = .ok (.putfield 64, 3) := by decide +kernel
theorem dX6_plus_21 : decode cX6_plus 21 = .ok (.aload_n 0, 1) := by decide +kernel
theorem dX6_plus_22 : decode cX6_plus 22 = .ok (.getfield 64, 3) := by decide +kernel
theorem dX6_plus_25 : decode cX6_plus 25 = .ok (.ifCond .le 7, 3) := by decide +kernel
theorem dX6_plus_28 : decode cX6_plus 28 = .ok (.iconst 1, 1) := by decide +kernel
theorem dX6_plus_29 : decode cX6_plus 29 = .ok (.goto 4, 3) := by decide +kernel
theorem dX6_plus_32 : decode cX6_plus 32 = .ok (.iconst 0, 1) := by decide +kernel
theorem dX6_plus_33 : decode cX6_plus 33 = .ok (.ireturn, 1) := by decide +kernel
set_option maxRecDepth 20000 in
theorem ggX6_smallFrom_X6_accepts : GoodIn wsX6_smallFrom wsX6_accepts := goodIn_r _ [8, 9, 10, 11, 12, 7, 13, 14, 15, 29, 30, 31, 32, 33, 34, 35, 36, 37, 38, 39, 40, 41, 42, 43, 44, 45, 46] (by decide +kernel) (by decide +kernel)
set_option maxRecDepth 20000 in
theorem gX6_smallFrom_X6_accepts : GoodIn wsX6_smallFrom (wsV RX6 50 RX6 yX6_accepts wsX6_accepts) := goodIn_app (goodIn_of _ (by decide +kernel)) ggX6_smallFrom_X6_accepts
set_option maxRecDepth 20000 in
theorem ggX6_smallFrom_X6_plus : GoodIn wsX6_smallFrom wsX6_plus := goodIn_r _ [19, 2, 4, 5, 6, 7, 8, 9, 10, 11, 12, 13, 14, 15, 20, 21, 22, 23, 29, 30, 31, 32, 33, 34, 35, 36, 37, 38, 39, 40, 41, 42, 43, 44, 45, 46] (by decide +kernel) (by decide +kernel)
set_option maxRecDepth 20000 in
theorem gX6_smallFrom_X6_plus : GoodIn wsX6_smallFrom (wsV RX6 67 RX6 yX6_plus wsX6_plus) := goodIn_app (goodIn_of _ (by decide +kernel)) ggX6_smallFrom_X6_plus
set_option maxRecDepth 20000 in
theorem ggX6_smallFrom_X6_base : GoodIn wsX6_smallFrom wsX6_base := goodIn_r _ [27, 1, 28, 4, 5, 6, 7, 8, 9, 10, 11, 12, 13, 14, 15, 20, 21, 22, 23, 29, 30, 31, 32, 33, 34, 35, 36, 37, 38, 39, 40, 41, 42, 43, 44, 45, 46] (by decide +kernel) (by decide +kernel)
set_option maxRecDepth 20000 in
theorem gX6_smallFrom_X6_base : GoodIn wsX6_smallFrom (wsV RX6 74 RX6 yX6_base wsX6_base) := goodIn_app (goodIn_of _ (by decide +kernel)) ggX6_smallFrom_X6_base
theorem dX6_smallFrom_0 : decode cX6_smallFrom 0 = .ok (.iload_n 1, 1) := by decide +kernel
theorem dX6_smallFrom_1 : decode cX6_smallFrom 1 = .ok (.iconst 1, 1) := by decide +kernel
theorem dX6_smallFrom_2 : decode cX6_smallFrom 2 = .ok (.if_icmp .le 22, 3) := by decide +kernel
theorem dX6_smallFrom_5 : decode cX6_smallFrom 5 = .ok (.aload_n 0, 1) := by decide +kernel
theorem dX6_smallFrom_6 : decode cX6_smallFrom 6 = .ok (.bipush 83, 2) := by decide +kernel
theorem dX6_smallFrom_8 : decode cX6_smallFrom 8 = .ok (.invokevirtual 50, 3) := by decide +kernel
theorem dX6_smallFrom_11 : decode cX6_smallFrom 11 = .ok (.ifCond .eq 13, 3) := by decide +kernel
theorem dX6_smallFrom_14 : decode cX6_smallFrom 14 = .ok (.aload_n 0, 1) := by decide +kernel
theorem dX6_smallFrom_15 : decode cX6_smallFrom 15 = .ok (.iload_n 1, 1) := by decide +kernel
theorem dX6_smallFrom_16 : decode cX6_smallFrom 16 = .ok (.putfield 53, 3) := by decide +kernel
theorem dX6_smallFrom_19 : decode cX6_smallFrom 19 = .ok (.aload_n 0, 1) := by decide +kernel
theorem dX6_smallFrom_20 : decode cX6_smallFrom 20 = .ok (.invokevirtual 67, 3) := by decide +kernel
theorem dX6_smallFrom_23 : decode cX6_smallFrom 23 = .ok (.ireturn, 1) := by decide +kernel
theorem dX6_smallFrom_24 : decode cX6_smallFrom 24 = .ok (.aload_n 0, 1) := by decide +kernel
theorem dX6_smallFrom_25 : decode cX6_smallFrom 25 = .ok (.iload_n 1, 1) := by decide +kernel
theorem dX6_smallFrom_26 : decode cX6_smallFrom 26 = .ok (.putfield 64, 3) := by decide +kernel
theorem dX6_smallFrom_29 : decode cX6_smallFrom 29 = .ok (.aload_n 0, 1) := by decide +kernel
theorem dX6_smallFrom_30 : decode cX6_smallFrom 30 = .ok (.aload_n 0, 1) := by decide +kernel
theorem dX6_smallFrom_31 : decode cX6_smallFrom 31 = .ok (.bipush 45, 2) := by decide +kernel
theorem dX6_smallFrom_33 : decode cX6_smallFrom 33 = .ok (.invokevirtual 50, 3) := by decide +kernel
theorem dX6_smallFrom_36 : decode cX6_smallFrom 36 = .ok (.putfield 71, 3) := by decide +kernel
theorem dX6_smallFrom_39 : decode cX6_smallFrom 39 = .ok (.aload_n 0, 1) := by decide +kernel
theorem dX6_smallFrom_40 : decode cX6_smallFrom 40 = .ok (.getfield 71, 3) := by decide +kernel
theorem dX6_smallFrom_43 : decode cX6_smallFrom 43 = .ok (.ifCond .eq 10, 3) := by decide +kernel
theorem dX6_smallFrom_46 : decode cX6_smallFrom 46 = .ok (.aload_n 0, 1) := by decide +kernel
theorem dX6_smallFrom_47 : decode cX6_smallFrom 47 = .ok (.invokevirtual 74, 3) := by decide +kernel
theorem dX6_smallFrom_50 : decode cX6_smallFrom 50 = .ok (.ifCond .eq 7, 3) := by decide +kernel
theorem dX6_smallFrom_53 : decode cX6_smallFrom 53 = .ok (.iconst 1, 1) := by decide +kernel
theorem dX6_smallFrom_54 : decode cX6_smallFrom 54 = .ok (.goto 4, 3) := by decide +kernel
theorem dX6_smallFrom_57 : decode cX6_smallFrom 57 = .ok (.iconst 0, 1) := by decide +kernel
theorem dX6_smallFrom_58 : decode cX6_smallFrom 58 = .ok (.ireturn, 1) := by decide +kernel
set_option maxRecDepth 20000 in
theorem ggX6_small_X6_unitFrom : GoodIn wsX6_small wsX6_unitFrom := goodIn_r _ [5, 6, 7, 8, 33, 34, 35, 36, 37, 38, 39, 40, 41, 42, 43, 44, 45, 46, 47, 48, 49, 50] (by decide +kernel) (by decide +kernel)
set_option maxRecDepth 20000 in
theorem gX6_small_X6_unitFrom : GoodIn wsX6_small (wsV RX6 60 RX6 yX6_unitFrom wsX6_unitFrom) := goodIn_app (goodIn_of _ (by decide +kernel)) ggX6_small_X6_unitFrom
set_option maxRecDepth 20000 in
theorem ggX6_small_X6_smallFrom : GoodIn wsX6_small wsX6_smallFrom := goodIn_r _ [12, 13, 14, 15, 16, 17, 18, 4, 19, 6, 20, 21, 22, 23, 7, 8, 24, 25, 26, 27, 1, 2, 3, 5, 28, 29, 30, 31, 32, 33, 34, 35, 36, 37, 38, 39, 40, 41, 42, 43, 44, 45, 46, 47, 48, 49, 50] (by decide +kernel) (by decide +kernel)
set_option maxRecDepth 20000 in
theorem gX6_small_X6_smallFrom : GoodIn wsX6_small (wsV RX6 77 RX6 yX6_smallFrom wsX6_smallFrom) := goodIn_app (goodIn_of _ (by decide +kernel)) ggX6_small_X6_smallFrom
set_option maxRecDepth 20000 in
theorem ggX6_small_X6_base : GoodIn wsX6_small wsX6_base := goodIn_r _ [31, 13, 32, 16, 17, 18, 4, 19, 6, 20, 21, 22, 23, 7, 8, 1, 2, 3, 5, 33, 34, 35, 36, 37, 38, 39, 40, 41, 42, 43, 44, 45, 46, 47, 48, 49, 50] (by decide +kernel) (by decide +kernel)
set_option maxRecDepth 20000 in
theorem gX6_small_X6_base : GoodIn wsX6_small (wsV RX6 74 RX6 yX6_base wsX6_base) := goodIn_app (goodIn_of _ (by decide +kernel)) ggX6_small_X6_base
set_option maxRecDepth 20000 in
theorem ggX6_small_X6_plus : GoodIn wsX6_small wsX6_plus := goodIn_r _ [27, 14, 16, 17, 18, 4, 19, 6, 20, 21, 22, 23, 7, 8, 1, 2, 3, 5, 33, 34, 35, 36, 37, 38, 39, 40, 41, 42, 43, 44, 45, 46, 47, 48, 49, 50] (by decide +kernel) (by decide +kernel)
set_option maxRecDepth 20000 in
theorem gX6_small_X6_plus : GoodIn wsX6_small (wsV RX6 67 RX6 yX6_plus wsX6_plus) := goodIn_app (goodIn_of _ (by decide +kernel)) ggX6_small_X6_plus
theorem dX6_small_0 : decode cX6_small 0 = .ok (.aload_n 0, 1) := by decide +kernel
theorem dX6_small_1 : decode cX6_small 1 = .ok (.bipush 97, 2) := by decide +kernel
theorem dX6_small_3 : decode cX6_small 3 = .ok (.invokevirtual 60, 3) := by decide +kernel
theorem dX6_small_6 : decode cX6_small 6 = .ok (.istore_n 1, 1) := by decide +kernel
theorem dX6_small_7 : decode cX6_small 7 = .ok (.iload_n 1, 1) := by decide +kernel
theorem dX6_small_8 : decode cX6_small 8 = .ok (.ifCond .le 11, 3) := by decide +kernel
theorem dX6_small_11 : decode cX6_small 11 = .ok (.aload_n 0, 1) := by decide +kernel
theorem dX6_small_12 : decode cX6_small 12 = .ok (.iload_n 1, 1) := by decide +kernel
theorem dX6_small_13 : decode cX6_small 13 = .ok (.invokevirtual 77, 3) := by decide +kernel
theorem dX6_small_16 : decode cX6_small 16 = .ok (.goto 22, 3) := by decide +kernel
theorem dX6_small_19 : decode cX6_small 19 = .ok (.aload_n 0, 1) := by decide +kernel
theorem dX6_small_20 : decode cX6_small 20 = .ok (.invokevirtual 74, 3) := by decide +kernel
theorem dX6_small_23 : decode cX6_small 23 = .ok (.ifCond .eq 14, 3) := by decide +kernel
theorem dX6_small_26 : decode cX6_small 26 = .ok (.aload_n 0, 1) := by decide +kernel
theorem dX6_small_27 : decode cX6_small 27 = .ok (.invokevirtual 67, 3) := by decide +kernel
theorem dX6_small_30 : decode cX6_small 30 = .ok (.ifCond .eq 7, 3) := by decide +kernel
theorem dX6_small_33 : decode cX6_small 33 = .ok (.iconst 1, 1) := by decide +kernel
theorem dX6_small_34 : decode cX6_small 34 = .ok (.goto 4, 3) := by decide +kernel
theorem dX6_small_37 : decode cX6_small 37 = .ok (.iconst 0, 1) := by decide +kernel
theorem dX6_small_38 : decode cX6_small 38 = .ok (.ireturn, 1) := by decide +kernel
set_option maxRecDepth 20000 in
theorem ggX6_and_X6_accepts : GoodIn wsX6_and wsX6_accepts := goodIn_r _ [5, 6, 7, 8, 9, 4, 10, 11, 12, 37, 38, 39, 40, 41, 42, 43, 44, 45, 46, 47, 48, 49, 50, 51, 52, 53, 54] (by decide +kernel) (by decide +kernel)
set_option maxRecDepth 20000 in
theorem gX6_and_X6_accepts : GoodIn wsX6_and (wsV RX6 50 RX6 yX6_accepts wsX6_accepts) := goodIn_app (goodIn_of _ (by decide +kernel)) ggX6_and_X6_accepts
set_option maxRecDepth 20000 in
theorem ggX6_and_X6_small : GoodIn wsX6_and wsX6_small := goodIn_r _ [16, 17, 18, 19, 4, 20, 6, 11, 12, 21, 22, 23, 24, 25, 26, 27, 1, 2, 3, 5, 7, 8, 9, 10, 28, 29, 30, 31, 32, 33, 34, 35, 36, 37, 38, 39, 40, 41, 42, 43, 44, 45, 46, 47, 48, 49, 50, 51, 52, 53, 54] (by decide +kernel) (by decide +kernel)
set_option maxRecDepth 20000 in
theorem gX6_and_X6_small : GoodIn wsX6_and (wsV RX6 81 RX6 yX6_small wsX6_small) := goodIn_app (goodIn_of _ (by decide +kernel)) ggX6_and_X6_small
theorem dX6_and_0 : decode cX6_and 0 = .ok (.aload_n 0, 1) := by decide +kernel
theorem dX6_and_1 : decode cX6_and 1 = .ok (.bipush 38, 2) := by decide +kernel
theorem dX6_and_3 : decode cX6_and 3 = .ok (.invokevirtual 50, 3) := by decide +kernel
theorem dX6_and_6 : decode cX6_and 6 = .ok (.ifCond .eq 10, 3) := by decide +kernel
theorem dX6_and_9 : decode cX6_and 9 = .ok (.aload_n 0, 1) := by decide +kernel
theorem dX6_and_10 : decode cX6_and 10 = .ok (.invokevirtual 81, 3) := by decide +kernel
theorem dX6_and_13 : decode cX6_and 13 = .ok (.ifCond .eq 7, 3) := by decide +kernel
theorem dX6_and_16 : decode cX6_and 16 = .ok (.iconst 1, 1) := by decide +kernel
theorem dX6_and_17 : decode cX6_and 17 = .ok (.goto 4, 3) := by decide +kernel
theorem dX6_and_20 : decode cX6_and 20 = .ok (.iconst 0, 1) := by decide +kernel
theorem dX6_and_21 : decode cX6_and 21 = .ok (.ireturn, 1) := by decide +kernel
set_option maxRecDepth 20000 in
theorem ggX6_half_X6_unitFrom : GoodIn wsX6_half wsX6_unitFrom := goodIn_r _ [9, 10, 11, 12, 43, 44, 45, 46, 47, 48, 49, 50, 51, 52, 53, 54, 55, 56, 57, 58, 59, 60] (by decide +kernel) (by decide +kernel)
set_option maxRecDepth 20000 in
theorem gX6_half_X6_unitFrom : GoodIn wsX6_half (wsV RX6 60 RX6 yX6_unitFrom wsX6_unitFrom) := goodIn_app (goodIn_of _ (by decide +kernel)) ggX6_half_X6_unitFrom
set_option maxRecDepth 20000 in
theorem ggX6_half_X6_accepts : GoodIn wsX6_half wsX6_accepts := goodIn_r _ [16, 10, 17, 18, 19, 8, 20, 11, 12, 43, 44, 45, 46, 47, 48, 49, 50, 51, 52, 53, 54, 55, 56, 57, 58, 59, 60] (by decide +kernel) (by decide +kernel)
set_option maxRecDepth 20000 in
theorem gX6_half_X6_accepts : GoodIn wsX6_half (wsV RX6 50 RX6 yX6_accepts wsX6_accepts) := goodIn_app (goodIn_of _ (by decide +kernel)) ggX6_half_X6_accepts
set_option maxRecDepth 20000 in
theorem ggX6_half_X6_and : GoodIn wsX6_half wsX6_and := goodIn_r _ [24, 13, 14, 15, 8, 16, 10, 17, 18, 19, 20, 11, 12, 25, 26, 27, 28, 5, 6, 7, 9, 29, 30, 31, 32, 3, 33, 34, 35, 36, 37, 38, 39, 40, 41, 42, 4, 43, 44, 45, 46, 47, 48, 49, 50, 51, 52, 53, 54, 55, 56, 57, 58, 59, 60] (by decide +kernel) (by decide +kernel)
set_option maxRecDepth 20000 in
theorem gX6_half_X6_and : GoodIn wsX6_half (wsV RX6 90 RX6 yX6_and wsX6_and) := goodIn_app (goodIn_of _ (by decide +kernel)) ggX6_half_X6_and
set_option maxRecDepth 20000 in
theorem ggX6_half_X6_plus : GoodIn wsX6_half wsX6_plus := goodIn_r _ [38, 33, 13, 14, 15, 8, 16, 10, 17, 18, 19, 20, 11, 12, 5, 6, 7, 9, 43, 44, 45, 46, 47, 48, 49, 50, 51, 52, 53, 54, 55, 56, 57, 58, 59, 60] (by decide +kernel) (by decide +kernel)
set_option maxRecDepth 20000 in
theorem gX6_half_X6_plus : GoodIn wsX6_half (wsV RX6 67 RX6 yX6_plus wsX6_plus) := goodIn_app (goodIn_of _ (by decide +kernel)) ggX6_half_X6_plus
theorem dX6_half_0 : decode cX6_half 0 = .ok (.aload_n 0, 1) := by decide +kernel
theorem dX6_half_1 : decode cX6_half 1 = .ok (.bipush 98, 2) := by decide +kernel
theorem dX6_half_3 : decode cX6_half 3 = .ok (.invokevirtual 60, 3) := by decide +kernel
theorem dX6_half_6 : decode cX6_half 6 = .ok (.istore_n 1, 1) := by decide +kernel
theorem dX6_half_7 : decode cX6_half 7 = .ok (.iload_n 1, 1) := by decide +kernel
theorem dX6_half_8 : decode cX6_half 8 = .ok (.ifCond .le 27, 3) := by decide +kernel
theorem dX6_half_11 : decode cX6_half 11 = .ok (.aload_n 0, 1) := by decide +kernel
theorem dX6_half_12 : decode cX6_half 12 = .ok (.bipush 71, 2) := by decide +kernel
theorem dX6_half_14 : decode cX6_half 14 = .ok (.invokevirtual 50, 3) := by decide +kernel
theorem dX6_half_17 : decode cX6_half 17 = .ok (.ifCond .eq 18, 3) := by decide +kernel
theorem dX6_half_20 : decode cX6_half 20 = .ok (.aload_n 0, 1) := by decide +kernel
theorem dX6_half_21 : decode cX6_half 21 = .ok (.iload_n 1, 1) := by decide +kernel
theorem dX6_half_22 : decode cX6_half 22 = .ok (.putfield 84, 3) := by decide +kernel
theorem dX6_half_25 : decode cX6_half 25 = .ok (.aload_n 0, 1) := by decide +kernel
theorem dX6_half_26 : decode cX6_half 26 = .ok (.iconst 1, 1) := by decide +kernel
theorem dX6_half_27 : decode cX6_half 27 = .ok (.putfield 87, 3) := by decide +kernel
theorem dX6_half_30 : decode cX6_half 30 = .ok (.aload_n 0, 1) := by decide +kernel
theorem dX6_half_31 : decode cX6_half 31 = .ok (.invokevirtual 90, 3) := by decide +kernel
theorem dX6_half_34 : decode cX6_half 34 = .ok (.ireturn, 1) := by decide +kernel
theorem dX6_half_35 : decode cX6_half 35 = .ok (.aload_n 0, 1) := by decide +kernel
theorem dX6_half_36 : decode cX6_half 36 = .ok (.iload_n 1, 1) := by decide +kernel
theorem dX6_half_37 : decode cX6_half 37 = .ok (.putfield 53, 3) := by decide +kernel
theorem dX6_half_40 : decode cX6_half 40 = .ok (.aload_n 0, 1) := by decide +kernel
theorem dX6_half_41 : decode cX6_half 41 = .ok (.iconst 1, 1) := by decide +kernel
theorem dX6_half_42 : decode cX6_half 42 = .ok (.putfield 56, 3) := by decide +kernel
theorem dX6_half_45 : decode cX6_half 45 = .ok (.iload_n 1, 1) := by decide +kernel
theorem dX6_half_46 : decode cX6_half 46 = .ok (.ifCond .le 23, 3) := by decide +kernel
theorem dX6_half_49 : decode cX6_half 49 = .ok (.aload_n 0, 1) := by decide +kernel
theorem dX6_half_50 : decode cX6_half 50 = .ok (.bipush 83, 2) := by decide +kernel
theorem dX6_half_52 : decode cX6_half 52 = .ok (.invokevirtual 50, 3) := by decide +kernel
theorem dX6_half_55 : decode cX6_half 55 = .ok (.ifCond .eq 14, 3) := by decide +kernel
theorem dX6_half_58 : decode cX6_half 58 = .ok (.aload_n 0, 1) := by decide +kernel
theorem dX6_half_59 : decode cX6_half 59 = .ok (.invokevirtual 67, 3) := by decide +kernel
theorem dX6_half_62 : decode cX6_half 62 = .ok (.ifCond .eq 7, 3) := by decide +kernel
theorem dX6_half_65 : decode cX6_half 65 = .ok (.iconst 1, 1) := by decide +kernel
theorem dX6_half_66 : decode cX6_half 66 = .ok (.goto 4, 3) := by decide +kernel
theorem dX6_half_69 : decode cX6_half 69 = .ok (.iconst 0, 1) := by decide +kernel
theorem dX6_half_70 : decode cX6_half 70 = .ok (.ireturn, 1) := by decide +kernel
set_option maxRecDepth 20000 in
theorem ggX6_number_X6_accepts : GoodIn wsX6_number wsX6_accepts := goodIn_r _ [6, 7, 8, 9, 10, 5, 11, 12, 13, 47, 48, 49, 50, 51, 52, 53, 54, 55, 56, 57, 58, 59, 60, 61, 62, 63, 64] (by decide +kernel) (by decide +kernel)
set_option maxRecDepth 20000 in
theorem gX6_number_X6_accepts : GoodIn wsX6_number (wsV RX6 50 RX6 yX6_accepts wsX6_accepts) := goodIn_app (goodIn_of _ (by decide +kernel)) ggX6_number_X6_accepts
set_option maxRecDepth 20000 in
theorem ggX6_number_X6_and : GoodIn wsX6_number wsX6_and := goodIn_r _ [17, 2, 3, 4, 5, 6, 7, 8, 9, 10, 11, 12, 13, 18, 19, 20, 21, 22, 23, 24, 25, 26, 27, 28, 29, 30, 31, 32, 33, 34, 35, 36, 37, 38, 39, 40, 41, 47, 48, 49, 50, 51, 52, 53, 54, 55, 56, 57, 58, 59, 60, 61, 62, 63, 64] (by decide +kernel) (by decide +kernel)
set_option maxRecDepth 20000 in
theorem gX6_number_X6_and : GoodIn wsX6_number (wsV RX6 90 RX6 yX6_and wsX6_and) := goodIn_app (goodIn_of _ (by decide +kernel)) ggX6_number_X6_and
set_option maxRecDepth 20000 in
theorem ggX6_number_X6_half : GoodIn wsX6_number wsX6_half := goodIn_r _ [45, 1, 46, 30, 41, 22, 23, 24, 5, 25, 7, 12, 13, 2, 3, 4, 6, 8, 9, 10, 11, 14, 15, 16, 17, 18, 19, 20, 21, 26, 27, 28, 29, 31, 32, 33, 34, 35, 36, 37, 38, 39, 40, 47, 48, 49, 50, 51, 52, 53, 54, 55, 56, 57, 58, 59, 60, 61, 62, 63, 64] (by decide +kernel) (by decide +kernel)
set_option maxRecDepth 20000 in
theorem gX6_number_X6_half : GoodIn wsX6_number (wsV RX6 93 RX6 yX6_half wsX6_half) := goodIn_app (goodIn_of _ (by decide +kernel)) ggX6_number_X6_half
set_option maxRecDepth 20000 in
theorem ggX6_number_X6_unitFrom : GoodIn wsX6_number wsX6_unitFrom := goodIn_r _ [25, 7, 12, 13, 47, 48, 49, 50, 51, 52, 53, 54, 55, 56, 57, 58, 59, 60, 61, 62, 63, 64] (by decide +kernel) (by decide +kernel)
set_option maxRecDepth 20000 in
theorem gX6_number_X6_unitFrom : GoodIn wsX6_number (wsV RX6 60 RX6 yX6_unitFrom wsX6_unitFrom) := goodIn_app (goodIn_of _ (by decide +kernel)) ggX6_number_X6_unitFrom
set_option maxRecDepth 20000 in
theorem ggX6_number_X6_smallFrom : GoodIn wsX6_number wsX6_smallFrom := goodIn_r _ [29, 30, 31, 32, 2, 3, 4, 5, 6, 7, 8, 9, 10, 11, 12, 13, 33, 34, 35, 36, 22, 23, 24, 25, 37, 38, 39, 40, 41, 47, 48, 49, 50, 51, 52, 53, 54, 55, 56, 57, 58, 59, 60, 61, 62, 63, 64] (by decide +kernel) (by decide +kernel)
set_option maxRecDepth 20000 in
theorem gX6_number_X6_smallFrom : GoodIn wsX6_number (wsV RX6 77 RX6 yX6_smallFrom wsX6_smallFrom) := goodIn_app (goodIn_of _ (by decide +kernel)) ggX6_number_X6_smallFrom
set_option maxRecDepth 20000 in
theorem ggX6_number_X6_base : GoodIn wsX6_number wsX6_base := goodIn_r _ [40, 30, 41, 2, 3, 4, 5, 6, 7, 8, 9, 10, 11, 12, 13, 22, 23, 24, 25, 47, 48, 49, 50, 51, 52, 53, 54, 55, 56, 57, 58, 59, 60, 61, 62, 63, 64] (by decide +kernel) (by decide +kernel)
set_option maxRecDepth 20000 in
theorem gX6_number_X6_base : GoodIn wsX6_number (wsV RX6 74 RX6 yX6_base wsX6_base) := goodIn_app (goodIn_of _ (by decide +kernel)) ggX6_number_X6_base
set_option maxRecDepth 20000 in
theorem ggX6_number_X6_plus : GoodIn wsX6_number wsX6_plus := goodIn_r _ [36, 31, 2, 3, 4, 5, 6, 7, 8, 9, 10, 11, 12, 13, 22, 23, 24, 25, 47, 48, 49, 50, 51, 52, 53, 54, 55, 56, 57, 58, 59, 60, 61, 62, 63, 64] (by decide +kernel) (by decide +kernel)
set_option maxRecDepth 20000 in
theorem gX6_number_X6_plus : GoodIn wsX6_number (wsV RX6 67 RX6 yX6_plus wsX6_plus) := goodIn_app (goodIn_of _ (by decide +kernel)) ggX6_number_X6_plus
theorem dX6_number_0 : decode cX6_number 0 = .ok (.aload_n 0, 1) := by decide +kernel
theorem dX6_number_1 : decode cX6_number 1 = .ok (.bipush 71, 2) := by decide +kernel
theorem dX6_number_3 : decode cX6_number 3 = .ok (.invokevirtual 50, 3) := by decide +kernel
theorem dX6_number_6 : decode cX6_number 6 = .ok (.ifCond .eq 13, 3) := by decide +kernel
theorem dX6_number_9 : decode cX6_number 9 = .ok (.aload_n 0, 1) := by decide +kernel
theorem dX6_number_10 : decode cX6_number 10 = .ok (.iconst 1, 1) := by decide +kernel
theorem dX6_number_11 : decode cX6_number 11 = .ok (.putfield 84, 3) := by decide +kernel
theorem dX6_number_14 : decode cX6_number 14 = .ok (.aload_n 0, 1) := by decide +kernel
theorem dX6_number_15 : decode cX6_number 15 = .ok (.invokevirtual 90, 3) := by decide +kernel
theorem dX6_number_18 : decode cX6_number 18 = .ok (.ireturn, 1) := by decide +kernel
theorem dX6_number_19 : decode cX6_number 19 = .ok (.aload_n 0, 1) := by decide +kernel
theorem dX6_number_20 : decode cX6_number 20 = .ok (.bipush 72, 2) := by decide +kernel
theorem dX6_number_22 : decode cX6_number 22 = .ok (.invokevirtual 50, 3) := by decide +kernel
theorem dX6_number_25 : decode cX6_number 25 = .ok (.ifCond .eq 8, 3) := by decide +kernel
theorem dX6_number_28 : decode cX6_number 28 = .ok (.aload_n 0, 1) := by decide +kernel
theorem dX6_number_29 : decode cX6_number 29 = .ok (.invokevirtual 93, 3) := by decide +kernel
theorem dX6_number_32 : decode cX6_number 32 = .ok (.ireturn, 1) := by decide +kernel
theorem dX6_number_33 : decode cX6_number 33 = .ok (.aload_n 0, 1) := by decide +kernel
theorem dX6_number_34 : decode cX6_number 34 = .ok (.bipush 97, 2) := by decide +kernel
theorem dX6_number_36 : decode cX6_number 36 = .ok (.invokevirtual 60, 3) := by decide +kernel
theorem dX6_number_39 : decode cX6_number 39 = .ok (.istore_n 1, 1) := by decide +kernel
theorem dX6_number_40 : decode cX6_number 40 = .ok (.iload_n 1, 1) := by decide +kernel
theorem dX6_number_41 : decode cX6_number 41 = .ok (.iconst 1, 1) := by decide +kernel
theorem dX6_number_42 : decode cX6_number 42 = .ok (.if_icmp .le 22, 3) := by decide +kernel
theorem dX6_number_45 : decode cX6_number 45 = .ok (.aload_n 0, 1) := by decide +kernel
theorem dX6_number_46 : decode cX6_number 46 = .ok (.bipush 71, 2) := by decide +kernel
theorem dX6_number_48 : decode cX6_number 48 = .ok (.invokevirtual 50, 3) := by decide +kernel
theorem dX6_number_51 : decode cX6_number 51 = .ok (.ifCond .eq 13, 3) := by decide +kernel
theorem dX6_number_54 : decode cX6_number 54 = .ok (.aload_n 0, 1) := by decide +kernel
theorem dX6_number_55 : decode cX6_number 55 = .ok (.iload_n 1, 1) := by decide +kernel
theorem dX6_number_56 : decode cX6_number 56 = .ok (.putfield 84, 3) := by decide +kernel
theorem dX6_number_59 : decode cX6_number 59 = .ok (.aload_n 0, 1) := by decide +kernel
theorem dX6_number_60 : decode cX6_number 60 = .ok (.invokevirtual 90, 3) := by decide +kernel
theorem dX6_number_63 : decode cX6_number 63 = .ok (.ireturn, 1) := by decide +kernel
theorem dX6_number_64 : decode cX6_number 64 = .ok (.iload_n 1, 1) := by decide +kernel
theorem dX6_number_65 : decode cX6_number 65 = .ok (.ifCond .le 11, 3) := by decide +kernel
theorem dX6_number_68 : decode cX6_number 68 = .ok (.aload_n 0, 1) := by decide +kernel
theorem dX6_number_69 : decode cX6_number 69 = .ok (.iload_n 1, 1) := by decide +kernel
theorem dX6_number_70 : decode cX6_number 70 = .ok (.invokevirtual 77, 3) := by decide +kernel
theorem dX6_number_73 : decode cX6_number 73 = .ok (.goto 22, 3) := by decide +kernel
theorem dX6_number_76 : decode cX6_number 76 = .ok (.aload_n 0, 1) := by decide +kernel
theorem dX6_number_77 : decode cX6_number 77 = .ok (.invokevirtual 74, 3) := by decide +kernel
theorem dX6_number_80 : decode cX6_number 80 = .ok (.ifCond .eq 14, 3) := by decide +kernel
theorem dX6_number_83 : decode cX6_number 83 = .ok (.aload_n 0, 1) := by decide +kernel
theorem dX6_number_84 : decode cX6_number 84 = .ok (.invokevirtual 67, 3) := by decide +kernel
theorem dX6_number_87 : decode cX6_number 87 = .ok (.ifCond .eq 7, 3) := by decide +kernel
theorem dX6_number_90 : decode cX6_number 90 = .ok (.iconst 1, 1) := by decide +kernel
theorem dX6_number_91 : decode cX6_number 91 = .ok (.goto 4, 3) := by decide +kernel
theorem dX6_number_94 : decode cX6_number 94 = .ok (.iconst 0, 1) := by decide +kernel
theorem dX6_number_95 : decode cX6_number 95 = .ok (.ireturn, 1) := by decide +kernel
set_option maxRecDepth 20000 in
theorem ggX6_faultOf_X6_number : GoodIn wsX6_faultOf wsX6_number := goodIn_r _ [13, 3, 14, 15, 16, 12, 17, 2, 18, 19, 20, 21, 1, 22, 23, 24, 25, 26, 27, 28, 29, 30, 31, 32, 33, 34, 35, 36, 37, 38, 4, 5, 8, 39, 40, 41, 42, 43, 44, 45, 46, 7, 47, 48, 49, 50, 6, 51, 52, 53, 54, 55, 56, 57, 58, 59, 60, 61, 62, 63, 64, 65, 66, 67, 68] (by decide +kernel) (by decide +kernel)
set_option maxRecDepth 20000 in
theorem gX6_faultOf_X6_number : GoodIn wsX6_faultOf (wsV RX6 96 RX6 yX6_number wsX6_number) := goodIn_app (goodIn_of _ (by decide +kernel)) ggX6_faultOf_X6_number
theorem dX6_faultOf_0 : decode cX6_faultOf 0 = .ok (.aload_n 0, 1) := by decide +kernel
theorem dX6_faultOf_1 : decode cX6_faultOf 1 = .ok (.iload_n 1, 1) := by decide +kernel
theorem dX6_faultOf_2 : decode cX6_faultOf 2 = .ok (.putfield 43, 3) := by decide +kernel
theorem dX6_faultOf_5 : decode cX6_faultOf 5 = .ok (.aload_n 0, 1) := by decide +kernel
theorem dX6_faultOf_6 : decode cX6_faultOf 6 = .ok (.iconst 0, 1) := by decide +kernel
theorem dX6_faultOf_7 : decode cX6_faultOf 7 = .ok (.putfield 40, 3) := by decide +kernel
theorem dX6_faultOf_10 : decode cX6_faultOf 10 = .ok (.aload_n 0, 1) := by decide +kernel
theorem dX6_faultOf_11 : decode cX6_faultOf 11 = .ok (.iconst 0, 1) := by decide +kernel
theorem dX6_faultOf_12 : decode cX6_faultOf 12 = .ok (.putfield 84, 3) := by decide +kernel
theorem dX6_faultOf_15 : decode cX6_faultOf 15 = .ok (.aload_n 0, 1) := by decide +kernel
theorem dX6_faultOf_16 : decode cX6_faultOf 16 = .ok (.iconst 0, 1) := by decide +kernel
theorem dX6_faultOf_17 : decode cX6_faultOf 17 = .ok (.putfield 53, 3) := by decide +kernel
theorem dX6_faultOf_20 : decode cX6_faultOf 20 = .ok (.aload_n 0, 1) := by decide +kernel
theorem dX6_faultOf_21 : decode cX6_faultOf 21 = .ok (.iconst 0, 1) := by decide +kernel
theorem dX6_faultOf_22 : decode cX6_faultOf 22 = .ok (.putfield 64, 3) := by decide +kernel
theorem dX6_faultOf_25 : decode cX6_faultOf 25 = .ok (.aload_n 0, 1) := by decide +kernel
theorem dX6_faultOf_26 : decode cX6_faultOf 26 = .ok (.iconst 0, 1) := by decide +kernel
theorem dX6_faultOf_27 : decode cX6_faultOf 27 = .ok (.putfield 87, 3) := by decide +kernel
theorem dX6_faultOf_30 : decode cX6_faultOf 30 = .ok (.aload_n 0, 1) := by decide +kernel
theorem dX6_faultOf_31 : decode cX6_faultOf 31 = .ok (.iconst 0, 1) := by decide +kernel
theorem dX6_faultOf_32 : decode cX6_faultOf 32 = .ok (.putfield 56, 3) := by decide +kernel
theorem dX6_faultOf_35 : decode cX6_faultOf 35 = .ok (.aload_n 0, 1) := by decide +kernel
theorem dX6_faultOf_36 : decode cX6_faultOf 36 = .ok (.iconst 0, 1) := by decide +kernel
theorem dX6_faultOf_37 : decode cX6_faultOf 37 = .ok (.putfield 71, 3) := by decide +kernel
theorem dX6_faultOf_40 : decode cX6_faultOf 40 = .ok (.aload_n 0, 1) := by decide +kernel
theorem dX6_faultOf_41 : decode cX6_faultOf 41 = .ok (.invokevirtual 96, 3) := by decide +kernel
theorem dX6_faultOf_44 : decode cX6_faultOf 44 = .ok (.istore_n 2, 1) := by decide +kernel
theorem dX6_faultOf_45 : decode cX6_faultOf 45 = .ok (.iload_n 2, 1) := by decide +kernel
theorem dX6_faultOf_46 : decode cX6_faultOf 46 = .ok (.ifCond .eq 18, 3) := by decide +kernel
theorem dX6_faultOf_49 : decode cX6_faultOf 49 = .ok (.aload_n 0, 1) := by decide +kernel
theorem dX6_faultOf_50 : decode cX6_faultOf 50 = .ok (.getfield 40, 3) := by decide +kernel
theorem dX6_faultOf_53 : decode cX6_faultOf 53 = .ok (.aload_n 0, 1) := by decide +kernel
theorem dX6_faultOf_54 : decode cX6_faultOf 54 = .ok (.getfield 43, 3) := by decide +kernel
theorem dX6_faultOf_57 : decode cX6_faultOf 57 = .ok (.if_icmp .ne 7, 3) := by decide +kernel
theorem dX6_faultOf_60 : decode cX6_faultOf 60 = .ok (.iconst (-1), 1) := by decide +kernel
theorem dX6_faultOf_61 : decode cX6_faultOf 61 = .ok (.goto 7, 3) := by decide +kernel
theorem dX6_faultOf_64 : decode cX6_faultOf 64 = .ok (.aload_n 0, 1) := by decide +kernel
theorem dX6_faultOf_65 : decode cX6_faultOf 65 = .ok (.getfield 40, 3) := by decide +kernel
theorem dX6_faultOf_68 : decode cX6_faultOf 68 = .ok (.ireturn, 1) := by decide +kernel
theorem dX6_meaningBy_0 : decode cX6_meaningBy 0 = .ok (.iload_n 3, 1) := by decide +kernel
theorem dX6_meaningBy_1 : decode cX6_meaningBy 1 = .ok (.ifCond .eq 9, 3) := by decide +kernel
theorem dX6_meaningBy_4 : decode cX6_meaningBy 4 = .ok (.sipush 400, 3) := by decide +kernel
theorem dX6_meaningBy_7 : decode cX6_meaningBy 7 = .ok (.goto 5, 3) := by decide +kernel
theorem dX6_meaningBy_10 : decode cX6_meaningBy 10 = .ok (.bipush 20, 2) := by decide +kernel
theorem dX6_meaningBy_12 : decode cX6_meaningBy 12 = .ok (.istore 4, 2) := by decide +kernel
theorem dX6_meaningBy_14 : decode cX6_meaningBy 14 = .ok (.iload 4, 2) := by decide +kernel
theorem dX6_meaningBy_16 : decode cX6_meaningBy 16 = .ok (.aload_n 0, 1) := by decide +kernel
theorem dX6_meaningBy_17 : decode cX6_meaningBy 17 = .ok (.getfield 84, 3) := by decide +kernel
theorem dX6_meaningBy_20 : decode cX6_meaningBy 20 = .ok (.imul, 1) := by decide +kernel
theorem dX6_meaningBy_21 : decode cX6_meaningBy 21 = .ok (.aload_n 0, 1) := by decide +kernel
theorem dX6_meaningBy_22 : decode cX6_meaningBy 22 = .ok (.getfield 87, 3) := by decide +kernel
theorem dX6_meaningBy_25 : decode cX6_meaningBy 25 = .ok (.ifCond .eq 14, 3) := by decide +kernel
theorem dX6_meaningBy_28 : decode cX6_meaningBy 28 = .ok (.iload_n 1, 1) := by decide +kernel
theorem dX6_meaningBy_29 : decode cX6_meaningBy 29 = .ok (.ifCond .eq 10, 3) := by decide +kernel
theorem dX6_meaningBy_32 : decode cX6_meaningBy 32 = .ok (.iload 4, 2) := by decide +kernel
theorem dX6_meaningBy_34 : decode cX6_meaningBy 34 = .ok (.iconst 2, 1) := by decide +kernel
theorem dX6_meaningBy_35 : decode cX6_meaningBy 35 = .ok (.idiv, 1) := by decide +kernel
theorem dX6_meaningBy_36 : decode cX6_meaningBy 36 = .ok (.goto 4, 3) := by decide +kernel
theorem dX6_meaningBy_39 : decode cX6_meaningBy 39 = .ok (.iconst 0, 1) := by decide +kernel
theorem dX6_meaningBy_40 : decode cX6_meaningBy 40 = .ok (.isub, 1) := by decide +kernel
theorem dX6_meaningBy_41 : decode cX6_meaningBy 41 = .ok (.istore 5, 2) := by decide +kernel
theorem dX6_meaningBy_43 : decode cX6_meaningBy 43 = .ok (.bipush 20, 2) := by decide +kernel
theorem dX6_meaningBy_45 : decode cX6_meaningBy 45 = .ok (.aload_n 0, 1) := by decide +kernel
theorem dX6_meaningBy_46 : decode cX6_meaningBy 46 = .ok (.getfield 53, 3) := by decide +kernel
theorem dX6_meaningBy_49 : decode cX6_meaningBy 49 = .ok (.imul, 1) := by decide +kernel
theorem dX6_meaningBy_50 : decode cX6_meaningBy 50 = .ok (.aload_n 0, 1) := by decide +kernel
theorem dX6_meaningBy_51 : decode cX6_meaningBy 51 = .ok (.getfield 56, 3) := by decide +kernel
theorem dX6_meaningBy_54 : decode cX6_meaningBy 54 = .ok (.ifCond .eq 12, 3) := by decide +kernel
theorem dX6_meaningBy_57 : decode cX6_meaningBy 57 = .ok (.iload_n 1, 1) := by decide +kernel
theorem dX6_meaningBy_58 : decode cX6_meaningBy 58 = .ok (.ifCond .eq 8, 3) := by decide +kernel
theorem dX6_meaningBy_61 : decode cX6_meaningBy 61 = .ok (.bipush 10, 2) := by decide +kernel
theorem dX6_meaningBy_63 : decode cX6_meaningBy 63 = .ok (.goto 4, 3) := by decide +kernel
theorem dX6_meaningBy_66 : decode cX6_meaningBy 66 = .ok (.iconst 0, 1) := by decide +kernel
theorem dX6_meaningBy_67 : decode cX6_meaningBy 67 = .ok (.isub, 1) := by decide +kernel
theorem dX6_meaningBy_68 : decode cX6_meaningBy 68 = .ok (.istore 6, 2) := by decide +kernel
theorem dX6_meaningBy_70 : decode cX6_meaningBy 70 = .ok (.iload 5, 2) := by decide +kernel
theorem dX6_meaningBy_72 : decode cX6_meaningBy 72 = .ok (.iload 6, 2) := by decide +kernel
theorem dX6_meaningBy_74 : decode cX6_meaningBy 74 = .ok (.iadd, 1) := by decide +kernel
theorem dX6_meaningBy_75 : decode cX6_meaningBy 75 = .ok (.aload_n 0, 1) := by decide +kernel
theorem dX6_meaningBy_76 : decode cX6_meaningBy 76 = .ok (.getfield 71, 3) := by decide +kernel
theorem dX6_meaningBy_79 : decode cX6_meaningBy 79 = .ok (.ifCond .eq 15, 3) := by decide +kernel
theorem dX6_meaningBy_82 : decode cX6_meaningBy 82 = .ok (.iload_n 2, 1) := by decide +kernel
theorem dX6_meaningBy_83 : decode cX6_meaningBy 83 = .ok (.ifCond .eq 11, 3) := by decide +kernel
theorem dX6_meaningBy_86 : decode cX6_meaningBy 86 = .ok (.aload_n 0, 1) := by decide +kernel
theorem dX6_meaningBy_87 : decode cX6_meaningBy 87 = .ok (.getfield 64, 3) := by decide +kernel
theorem dX6_meaningBy_90 : decode cX6_meaningBy 90 = .ok (.ineg, 1) := by decide +kernel
theorem dX6_meaningBy_91 : decode cX6_meaningBy 91 = .ok (.goto 7, 3) := by decide +kernel
theorem dX6_meaningBy_94 : decode cX6_meaningBy 94 = .ok (.aload_n 0, 1) := by decide +kernel
theorem dX6_meaningBy_95 : decode cX6_meaningBy 95 = .ok (.getfield 64, 3) := by decide +kernel
theorem dX6_meaningBy_98 : decode cX6_meaningBy 98 = .ok (.iadd, 1) := by decide +kernel
theorem dX6_meaningBy_99 : decode cX6_meaningBy 99 = .ok (.ireturn, 1) := by decide +kernel
set_option maxRecDepth 20000 in
theorem ggX6_understands_X6_faultOf : GoodIn wsX6_understands wsX6_faultOf := goodIn_r _ [6, 7, 8, 9, 10, 11, 12, 13, 14, 15, 16, 17, 5, 18, 19, 20, 21, 22, 23, 24, 25, 26, 27, 28, 29, 30, 31, 32, 33, 34, 35, 36, 37, 38, 39, 40, 41, 42, 43, 44, 45, 46, 47, 48, 49, 50, 51, 52, 53, 54, 55, 60, 61, 62, 63, 64, 65, 66, 67, 68, 69, 70, 71, 72, 73, 74, 75, 76, 77] (by decide +kernel) (by decide +kernel)
set_option maxRecDepth 20000 in
theorem gX6_understands_X6_faultOf : GoodIn wsX6_understands (wsV RX6 99 RX6 yX6_faultOf wsX6_faultOf) := goodIn_app (goodIn_of _ (by decide +kernel)) ggX6_understands_X6_faultOf
set_option maxRecDepth 20000 in
theorem ggX6_understands_X6_meaningBy : GoodIn wsX6_understands wsX6_meaningBy := goodIn_r _ [59, 9, 12, 10, 13, 14, 11, 60, 61, 62, 63, 64, 65, 66, 67, 68, 69, 70, 71, 72, 73, 74, 75, 76, 77] (by decide +kernel) (by decide +kernel)
set_option maxRecDepth 20000 in
theorem gX6_understands_X6_meaningBy : GoodIn wsX6_understands (wsV RX6 103 RX6 yX6_meaningBy wsX6_meaningBy) := goodIn_app (goodIn_of _ (by decide +kernel)) ggX6_understands_X6_meaningBy
theorem dX6_understands_0 : decode cX6_understands 0 = .ok (.bipush 9, 2) := by decide +kernel
theorem dX6_understands_2 : decode cX6_understands 2 = .ok (.iload_n 1, 1) := by decide +kernel
theorem dX6_understands_3 : decode cX6_understands 3 = .ok (.imul, 1) := by decide +kernel
theorem dX6_understands_4 : decode cX6_understands 4 = .ok (.istore_n 3, 1) := by decide +kernel
theorem dX6_understands_5 : decode cX6_understands 5 = .ok (.iload_n 2, 1) := by decide +kernel
theorem dX6_understands_6 : decode cX6_understands 6 = .ok (.aload_n 0, 1) := by decide +kernel
theorem dX6_understands_7 : decode cX6_understands 7 = .ok (.getfield 7, 3) := by decide +kernel
theorem dX6_understands_10 : decode cX6_understands 10 = .ok (.iload_n 3, 1) := by decide +kernel
theorem dX6_understands_11 : decode cX6_understands 11 = .ok (.bipush 6, 2) := by decide +kernel
theorem dX6_understands_13 : decode cX6_understands 13 = .ok (.iadd, 1) := by decide +kernel
theorem dX6_understands_14 : decode cX6_understands 14 = .ok (.iaload, 1) := by decide +kernel
theorem dX6_understands_15 : decode cX6_understands 15 = .ok (.if_icmp .ge 7, 3) := by decide +kernel
theorem dX6_understands_18 : decode cX6_understands 18 = .ok (.iload_n 2, 1) := by decide +kernel
theorem dX6_understands_19 : decode cX6_understands 19 = .ok (.goto 12, 3) := by decide +kernel
theorem dX6_understands_22 : decode cX6_understands 22 = .ok (.aload_n 0, 1) := by decide +kernel
theorem dX6_understands_23 : decode cX6_understands 23 = .ok (.getfield 7, 3) := by decide +kernel
theorem dX6_understands_26 : decode cX6_understands 26 = .ok (.iload_n 3, 1) := by decide +kernel
theorem dX6_understands_27 : decode cX6_understands 27 = .ok (.bipush 6, 2) := by decide +kernel
theorem dX6_understands_29 : decode cX6_understands 29 = .ok (.iadd, 1) := by decide +kernel
theorem dX6_understands_30 : decode cX6_understands 30 = .ok (.iaload, 1) := by decide +kernel
theorem dX6_understands_31 : decode cX6_understands 31 = .ok (.istore 4, 2) := by decide +kernel
theorem dX6_understands_33 : decode cX6_understands 33 = .ok (.aload_n 0, 1) := by decide +kernel
theorem dX6_understands_34 : decode cX6_understands 34 = .ok (.iload 4, 2) := by decide +kernel
theorem dX6_understands_36 : decode cX6_understands 36 = .ok (.invokevirtual 99, 3) := by decide +kernel
theorem dX6_understands_39 : decode cX6_understands 39 = .ok (.ifCond .lt 7, 3) := by decide +kernel
theorem dX6_understands_42 : decode cX6_understands 42 = .ok (.iconst 0, 1) := by decide +kernel
theorem dX6_understands_43 : decode cX6_understands 43 = .ok (.goto 58, 3) := by decide +kernel
theorem dX6_understands_46 : decode cX6_understands 46 = .ok (.aload_n 0, 1) := by decide +kernel
theorem dX6_understands_47 : decode cX6_understands 47 = .ok (.aload_n 0, 1) := by decide +kernel
theorem dX6_understands_48 : decode cX6_understands 48 = .ok (.getfield 7, 3) := by decide +kernel
theorem dX6_understands_51 : decode cX6_understands 51 = .ok (.iload_n 3, 1) := by decide +kernel
theorem dX6_understands_52 : decode cX6_understands 52 = .ok (.iconst 0, 1) := by decide +kernel
theorem dX6_understands_53 : decode cX6_understands 53 = .ok (.iadd, 1) := by decide +kernel
theorem dX6_understands_54 : decode cX6_understands 54 = .ok (.iaload, 1) := by decide +kernel
theorem dX6_understands_55 : decode cX6_understands 55 = .ok (.iconst 1, 1) := by decide +kernel
theorem dX6_understands_56 : decode cX6_understands 56 = .ok (.if_icmp .ne 7, 3) := by decide +kernel
theorem dX6_understands_59 : decode cX6_understands 59 = .ok (.iconst 1, 1) := by decide +kernel
theorem dX6_understands_60 : decode cX6_understands 60 = .ok (.goto 4, 3) := by decide +kernel
theorem dX6_understands_63 : decode cX6_understands 63 = .ok (.iconst 0, 1) := by decide +kernel
theorem dX6_understands_64 : decode cX6_understands 64 = .ok (.aload_n 0, 1) := by decide +kernel
theorem dX6_understands_65 : decode cX6_understands 65 = .ok (.getfield 7, 3) := by decide +kernel
theorem dX6_understands_68 : decode cX6_understands 68 = .ok (.iload_n 3, 1) := by decide +kernel
theorem dX6_understands_69 : decode cX6_understands 69 = .ok (.iconst 1, 1) := by decide +kernel
theorem dX6_understands_70 : decode cX6_understands 70 = .ok (.iadd, 1) := by decide +kernel
theorem dX6_understands_71 : decode cX6_understands 71 = .ok (.iaload, 1) := by decide +kernel
theorem dX6_understands_72 : decode cX6_understands 72 = .ok (.iconst 1, 1) := by decide +kernel
theorem dX6_understands_73 : decode cX6_understands 73 = .ok (.if_icmp .ne 7, 3) := by decide +kernel
theorem dX6_understands_76 : decode cX6_understands 76 = .ok (.iconst 1, 1) := by decide +kernel
theorem dX6_understands_77 : decode cX6_understands 77 = .ok (.goto 4, 3) := by decide +kernel
theorem dX6_understands_80 : decode cX6_understands 80 = .ok (.iconst 0, 1) := by decide +kernel
theorem dX6_understands_81 : decode cX6_understands 81 = .ok (.aload_n 0, 1) := by decide +kernel
theorem dX6_understands_82 : decode cX6_understands 82 = .ok (.getfield 7, 3) := by decide +kernel
theorem dX6_understands_85 : decode cX6_understands 85 = .ok (.iload_n 3, 1) := by decide +kernel
theorem dX6_understands_86 : decode cX6_understands 86 = .ok (.iconst 2, 1) := by decide +kernel
theorem dX6_understands_87 : decode cX6_understands 87 = .ok (.iadd, 1) := by decide +kernel
theorem dX6_understands_88 : decode cX6_understands 88 = .ok (.iaload, 1) := by decide +kernel
theorem dX6_understands_89 : decode cX6_understands 89 = .ok (.iconst 1, 1) := by decide +kernel
theorem dX6_understands_90 : decode cX6_understands 90 = .ok (.if_icmp .ne 7, 3) := by decide +kernel
theorem dX6_understands_93 : decode cX6_understands 93 = .ok (.iconst 1, 1) := by decide +kernel
theorem dX6_understands_94 : decode cX6_understands 94 = .ok (.goto 4, 3) := by decide +kernel
theorem dX6_understands_97 : decode cX6_understands 97 = .ok (.iconst 0, 1) := by decide +kernel
theorem dX6_understands_98 : decode cX6_understands 98 = .ok (.invokevirtual 103, 3) := by decide +kernel
theorem dX6_understands_101 : decode cX6_understands 101 = .ok (.ireturn, 1) := by decide +kernel
theorem dX6_put_0 : decode cX6_put 0 = .ok (.aload_n 0, 1) := by decide +kernel
theorem dX6_put_1 : decode cX6_put 1 = .ok (.getfield 23, 3) := by decide +kernel
theorem dX6_put_4 : decode cX6_put 4 = .ok (.bipush 10, 2) := by decide +kernel
theorem dX6_put_6 : decode cX6_put 6 = .ok (.aload_n 0, 1) := by decide +kernel
theorem dX6_put_7 : decode cX6_put 7 = .ok (.getfield 107, 3) := by decide +kernel
theorem dX6_put_10 : decode cX6_put 10 = .ok (.imul, 1) := by decide +kernel
theorem dX6_put_11 : decode cX6_put 11 = .ok (.aload_n 0, 1) := by decide +kernel
theorem dX6_put_12 : decode cX6_put 12 = .ok (.getfield 26, 3) := by decide +kernel
theorem dX6_put_15 : decode cX6_put 15 = .ok (.aload_n 0, 1) := by decide +kernel
theorem dX6_put_16 : decode cX6_put 16 = .ok (.getfield 107, 3) := by decide +kernel
theorem dX6_put_19 : decode cX6_put 19 = .ok (.iaload, 1) := by decide +kernel
theorem dX6_put_20 : decode cX6_put 20 = .ok (.iadd, 1) := by decide +kernel
theorem dX6_put_21 : decode cX6_put 21 = .ok (.iload_n 1, 1) := by decide +kernel
theorem dX6_put_22 : decode cX6_put 22 = .ok (.castore, 1) := by decide +kernel
theorem dX6_put_23 : decode cX6_put 23 = .ok (.aload_n 0, 1) := by decide +kernel
theorem dX6_put_24 : decode cX6_put 24 = .ok (.getfield 26, 3) := by decide +kernel
theorem dX6_put_27 : decode cX6_put 27 = .ok (.aload_n 0, 1) := by decide +kernel
theorem dX6_put_28 : decode cX6_put 28 = .ok (.getfield 107, 3) := by decide +kernel
theorem dX6_put_31 : decode cX6_put 31 = .ok (.dup2, 1) := by decide +kernel
theorem dX6_put_32 : decode cX6_put 32 = .ok (.iaload, 1) := by decide +kernel
theorem dX6_put_33 : decode cX6_put 33 = .ok (.iconst 1, 1) := by decide +kernel
theorem dX6_put_34 : decode cX6_put 34 = .ok (.iadd, 1) := by decide +kernel
theorem dX6_put_35 : decode cX6_put 35 = .ok (.iastore, 1) := by decide +kernel
theorem dX6_put_36 : decode cX6_put 36 = .ok (.return_, 1) := by decide +kernel
set_option maxRecDepth 20000 in
theorem ggX6_putCount_X6_put : GoodIn wsX6_putCount wsX6_put := goodIn_r _ [5, 6, 7, 8, 9, 10, 11, 12, 13, 14, 15, 16, 17, 18, 19, 20, 21, 22, 23, 24, 25, 26] (by decide +kernel) (by decide +kernel)
set_option maxRecDepth 20000 in
theorem gX6_putCount_X6_put : GoodIn wsX6_putCount (wsV RX6 110 RX6 yX6_put wsX6_put) := goodIn_app (goodIn_of _ (by decide +kernel)) ggX6_putCount_X6_put
theorem dX6_putCount_0 : decode cX6_putCount 0 = .ok (.iload_n 2, 1) := by decide +kernel
theorem dX6_putCount_1 : decode cX6_putCount 1 = .ok (.ifCond .eq 9, 3) := by decide +kernel
theorem dX6_putCount_4 : decode cX6_putCount 4 = .ok (.aload_n 0, 1) := by decide +kernel
theorem dX6_putCount_5 : decode cX6_putCount 5 = .ok (.bipush 72, 2) := by decide +kernel
theorem dX6_putCount_7 : decode cX6_putCount 7 = .ok (.invokevirtual 110, 3) := by decide +kernel
theorem dX6_putCount_10 : decode cX6_putCount 10 = .ok (.iload_n 1, 1) := by decide +kernel
theorem dX6_putCount_11 : decode cX6_putCount 11 = .ok (.iconst 1, 1) := by decide +kernel
theorem dX6_putCount_12 : decode cX6_putCount 12 = .ok (.if_icmp .le 14, 3) := by decide +kernel
theorem dX6_putCount_15 : decode cX6_putCount 15 = .ok (.aload_n 0, 1) := by decide +kernel
theorem dX6_putCount_16 : decode cX6_putCount 16 = .ok (.bipush 97, 2) := by decide +kernel
theorem dX6_putCount_18 : decode cX6_putCount 18 = .ok (.iload_n 1, 1) := by decide +kernel
theorem dX6_putCount_19 : decode cX6_putCount 19 = .ok (.iadd, 1) := by decide +kernel
theorem dX6_putCount_20 : decode cX6_putCount 20 = .ok (.iconst 1, 1) := by decide +kernel
theorem dX6_putCount_21 : decode cX6_putCount 21 = .ok (.isub, 1) := by decide +kernel
theorem dX6_putCount_22 : decode cX6_putCount 22 = .ok (.i2c, 1) := by decide +kernel
theorem dX6_putCount_23 : decode cX6_putCount 23 = .ok (.invokevirtual 110, 3) := by decide +kernel
theorem dX6_putCount_26 : decode cX6_putCount 26 = .ok (.aload_n 0, 1) := by decide +kernel
theorem dX6_putCount_27 : decode cX6_putCount 27 = .ok (.iload_n 3, 1) := by decide +kernel
theorem dX6_putCount_28 : decode cX6_putCount 28 = .ok (.invokevirtual 110, 3) := by decide +kernel
theorem dX6_putCount_31 : decode cX6_putCount 31 = .ok (.return_, 1) := by decide +kernel
set_option maxRecDepth 20000 in
theorem ggX6_begins_X6_putCount : GoodIn wsX6_begins wsX6_putCount := goodIn_r _ [7, 8, 9, 10, 6, 11, 12, 2, 1, 13, 14, 15, 16, 17, 18, 19, 20, 21, 22, 23, 24, 25, 26, 27, 28, 29, 30] (by decide +kernel) (by decide +kernel)
set_option maxRecDepth 20000 in
theorem gX6_begins_X6_putCount : GoodIn wsX6_begins (wsV RX6 114 RX6 yX6_putCount wsX6_putCount) := goodIn_app (goodIn_of _ (by decide +kernel)) ggX6_begins_X6_putCount
set_option maxRecDepth 20000 in
theorem ggX6_begins_X6_put : GoodIn wsX6_begins wsX6_put := goodIn_r _ [11, 12, 2, 1, 13, 14, 15, 16, 17, 18, 19, 20, 21, 22, 23, 24, 25, 26, 27, 28, 29, 30] (by decide +kernel) (by decide +kernel)
set_option maxRecDepth 20000 in
theorem gX6_begins_X6_put : GoodIn wsX6_begins (wsV RX6 110 RX6 yX6_put wsX6_put) := goodIn_app (goodIn_of _ (by decide +kernel)) ggX6_begins_X6_put
theorem dX6_begins_0 : decode cX6_begins 0 = .ok (.aload_n 0, 1) := by decide +kernel
theorem dX6_begins_1 : decode cX6_begins 1 = .ok (.getfield 26, 3) := by decide +kernel
theorem dX6_begins_4 : decode cX6_begins 4 = .ok (.aload_n 0, 1) := by decide +kernel
theorem dX6_begins_5 : decode cX6_begins 5 = .ok (.getfield 107, 3) := by decide +kernel
theorem dX6_begins_8 : decode cX6_begins 8 = .ok (.iconst 0, 1) := by decide +kernel
theorem dX6_begins_9 : decode cX6_begins 9 = .ok (.iastore, 1) := by decide +kernel
theorem dX6_begins_10 : decode cX6_begins 10 = .ok (.iload_n 1, 1) := by decide +kernel
theorem dX6_begins_11 : decode cX6_begins 11 = .ok (.ifCond .le 36, 3) := by decide +kernel
theorem dX6_begins_14 : decode cX6_begins 14 = .ok (.aload_n 0, 1) := by decide +kernel
theorem dX6_begins_15 : decode cX6_begins 15 = .ok (.iload_n 1, 1) := by decide +kernel
theorem dX6_begins_16 : decode cX6_begins 16 = .ok (.iconst 1, 1) := by decide +kernel
theorem dX6_begins_17 : decode cX6_begins 17 = .ok (.iadd, 1) := by decide +kernel
theorem dX6_begins_18 : decode cX6_begins 18 = .ok (.iconst 2, 1) := by decide +kernel
theorem dX6_begins_19 : decode cX6_begins 19 = .ok (.idiv, 1) := by decide +kernel
theorem dX6_begins_20 : decode cX6_begins 20 = .ok (.iload_n 1, 1) := by decide +kernel
theorem dX6_begins_21 : decode cX6_begins 21 = .ok (.iconst 2, 1) := by decide +kernel
theorem dX6_begins_22 : decode cX6_begins 22 = .ok (.irem, 1) := by decide +kernel
theorem dX6_begins_23 : decode cX6_begins 23 = .ok (.iconst 1, 1) := by decide +kernel
theorem dX6_begins_24 : decode cX6_begins 24 = .ok (.if_icmp .ne 7, 3) := by decide +kernel
theorem dX6_begins_27 : decode cX6_begins 27 = .ok (.iconst 1, 1) := by decide +kernel
theorem dX6_begins_28 : decode cX6_begins 28 = .ok (.goto 4, 3) := by decide +kernel
theorem dX6_begins_31 : decode cX6_begins 31 = .ok (.iconst 0, 1) := by decide +kernel
theorem dX6_begins_32 : decode cX6_begins 32 = .ok (.bipush 71, 2) := by decide +kernel
theorem dX6_begins_34 : decode cX6_begins 34 = .ok (.invokevirtual 114, 3) := by decide +kernel
theorem dX6_begins_37 : decode cX6_begins 37 = .ok (.iload_n 2, 1) := by decide +kernel
theorem dX6_begins_38 : decode cX6_begins 38 = .ok (.ifCond .eq 9, 3) := by decide +kernel
theorem dX6_begins_41 : decode cX6_begins 41 = .ok (.aload_n 0, 1) := by decide +kernel
theorem dX6_begins_42 : decode cX6_begins 42 = .ok (.bipush 38, 2) := by decide +kernel
theorem dX6_begins_44 : decode cX6_begins 44 = .ok (.invokevirtual 110, 3) := by decide +kernel
theorem dX6_begins_47 : decode cX6_begins 47 = .ok (.return_, 1) := by decide +kernel
set_option maxRecDepth 20000 in
theorem ggX6_isBase_X6_in : GoodIn wsX6_isBase wsX6_in := goodIn_r _ [4] (by decide +kernel) (by decide +kernel)
set_option maxRecDepth 20000 in
theorem gX6_isBase_X6_in : GoodIn wsX6_isBase (va_wsS RX6 32 yX6_in wsX6_in) := goodIn_app (goodIn_of _ (by decide +kernel)) ggX6_isBase_X6_in
theorem dX6_isBase_0 : decode cX6_isBase 0 = .ok (.iload_n 0, 1) := by decide +kernel
theorem dX6_isBase_1 : decode cX6_isBase 1 = .ok (.iconst 2, 1) := by decide +kernel
theorem dX6_isBase_2 : decode cX6_isBase 2 = .ok (.bipush 38, 2) := by decide +kernel
theorem dX6_isBase_4 : decode cX6_isBase 4 = .ok (.invokestatic 32, 3) := by decide +kernel
theorem dX6_isBase_7 : decode cX6_isBase 7 = .ok (.ireturn, 1) := by decide +kernel
set_option maxRecDepth 20000 in
theorem ggX6_putBase_X6_putCount : GoodIn wsX6_putBase wsX6_putCount := goodIn_r _ [5, 6, 7, 8, 4, 9, 10, 11, 12, 13, 14, 15, 16, 17, 18, 19, 20, 21, 22, 23, 24, 25, 26, 27, 28, 29, 30] (by decide +kernel) (by decide +kernel)
set_option maxRecDepth 20000 in
theorem gX6_putBase_X6_putCount : GoodIn wsX6_putBase (wsV RX6 114 RX6 yX6_putCount wsX6_putCount) := goodIn_app (goodIn_of _ (by decide +kernel)) ggX6_putBase_X6_putCount
theorem dX6_putBase_0 : decode cX6_putBase 0 = .ok (.aload_n 0, 1) := by decide +kernel
theorem dX6_putBase_1 : decode cX6_putBase 1 = .ok (.iload_n 1, 1) := by decide +kernel
theorem dX6_putBase_2 : decode cX6_putBase 2 = .ok (.iconst 1, 1) := by decide +kernel
theorem dX6_putBase_3 : decode cX6_putBase 3 = .ok (.iadd, 1) := by decide +kernel
theorem dX6_putBase_4 : decode cX6_putBase 4 = .ok (.iconst 2, 1) := by decide +kernel
theorem dX6_putBase_5 : decode cX6_putBase 5 = .ok (.idiv, 1) := by decide +kernel
theorem dX6_putBase_6 : decode cX6_putBase 6 = .ok (.iload_n 1, 1) := by decide +kernel
theorem dX6_putBase_7 : decode cX6_putBase 7 = .ok (.iconst 2, 1) := by decide +kernel
theorem dX6_putBase_8 : decode cX6_putBase 8 = .ok (.irem, 1) := by decide +kernel
theorem dX6_putBase_9 : decode cX6_putBase 9 = .ok (.iconst 1, 1) := by decide +kernel
theorem dX6_putBase_10 : decode cX6_putBase 10 = .ok (.if_icmp .ne 7, 3) := by decide +kernel
theorem dX6_putBase_13 : decode cX6_putBase 13 = .ok (.iconst 1, 1) := by decide +kernel
theorem dX6_putBase_14 : decode cX6_putBase 14 = .ok (.goto 4, 3) := by decide +kernel
theorem dX6_putBase_17 : decode cX6_putBase 17 = .ok (.iconst 0, 1) := by decide +kernel
theorem dX6_putBase_18 : decode cX6_putBase 18 = .ok (.bipush 83, 2) := by decide +kernel
theorem dX6_putBase_20 : decode cX6_putBase 20 = .ok (.invokevirtual 114, 3) := by decide +kernel
theorem dX6_putBase_23 : decode cX6_putBase 23 = .ok (.return_, 1) := by decide +kernel
set_option maxRecDepth 20000 in
theorem ggX6_smalls_X6_begins : GoodIn wsX6_smalls wsX6_begins := goodIn_r _ [6, 7, 1, 8, 9, 10, 5, 11, 12, 13, 14, 15, 16, 27, 28, 29, 30, 31, 32, 33, 34, 35, 36, 37, 38, 39, 40, 41, 42, 43, 44] (by decide +kernel) (by decide +kernel)
set_option maxRecDepth 20000 in
theorem gX6_smalls_X6_begins : GoodIn wsX6_smalls (wsV RX6 118 RX6 yX6_begins wsX6_begins) := goodIn_app (goodIn_of _ (by decide +kernel)) ggX6_smalls_X6_begins
set_option maxRecDepth 20000 in
theorem ggX6_smalls_X6_put : GoodIn wsX6_smalls wsX6_put := goodIn_r _ [15, 16, 1, 7, 27, 28, 29, 30, 31, 32, 33, 34, 35, 36, 37, 38, 39, 40, 41, 42, 43, 44] (by decide +kernel) (by decide +kernel)
set_option maxRecDepth 20000 in
theorem gX6_smalls_X6_put : GoodIn wsX6_smalls (wsV RX6 110 RX6 yX6_put wsX6_put) := goodIn_app (goodIn_of _ (by decide +kernel)) ggX6_smalls_X6_put
set_option maxRecDepth 20000 in
theorem ggX6_smalls_X6_isBase : GoodIn wsX6_smalls wsX6_isBase := goodIn_r _ [19, 20, 21, 5, 22] (by decide +kernel) (by decide +kernel)
set_option maxRecDepth 20000 in
theorem gX6_smalls_X6_isBase : GoodIn wsX6_smalls (va_wsS RX6 122 yX6_isBase wsX6_isBase) := goodIn_app (goodIn_of _ (by decide +kernel)) ggX6_smalls_X6_isBase
set_option maxRecDepth 20000 in
theorem ggX6_smalls_X6_putBase : GoodIn wsX6_smalls wsX6_putBase := goodIn_r _ [26, 8, 9, 10, 5, 11, 12, 13, 14, 15, 16, 1, 7, 27, 28, 29, 30, 31, 32, 33, 34, 35, 36, 37, 38, 39, 40, 41, 42, 43, 44] (by decide +kernel) (by decide +kernel)
set_option maxRecDepth 20000 in
theorem gX6_smalls_X6_putBase : GoodIn wsX6_smalls (wsV RX6 125 RX6 yX6_putBase wsX6_putBase) := goodIn_app (goodIn_of _ (by decide +kernel)) ggX6_smalls_X6_putBase
theorem dX6_smalls_0 : decode cX6_smalls 0 = .ok (.iload_n 2, 1) := by decide +kernel
theorem dX6_smalls_1 : decode cX6_smalls 1 = .ok (.bipush 20, 2) := by decide +kernel
theorem dX6_smalls_3 : decode cX6_smalls 3 = .ok (.if_icmp .ge 30, 3) := by decide +kernel
theorem dX6_smalls_6 : decode cX6_smalls 6 = .ok (.aload_n 0, 1) := by decide +kernel
theorem dX6_smalls_7 : decode cX6_smalls 7 = .ok (.iload_n 1, 1) := by decide +kernel
theorem dX6_smalls_8 : decode cX6_smalls 8 = .ok (.iconst 1, 1) := by decide +kernel
theorem dX6_smalls_9 : decode cX6_smalls 9 = .ok (.invokevirtual 118, 3) := by decide +kernel
theorem dX6_smalls_12 : decode cX6_smalls 12 = .ok (.aload_n 0, 1) := by decide +kernel
theorem dX6_smalls_13 : decode cX6_smalls 13 = .ok (.bipush 97, 2) := by decide +kernel
theorem dX6_smalls_15 : decode cX6_smalls 15 = .ok (.iload_n 2, 1) := by decide +kernel
theorem dX6_smalls_16 : decode cX6_smalls 16 = .ok (.iadd, 1) := by decide +kernel
theorem dX6_smalls_17 : decode cX6_smalls 17 = .ok (.iconst 1, 1) := by decide +kernel
theorem dX6_smalls_18 : decode cX6_smalls 18 = .ok (.isub, 1) := by decide +kernel
theorem dX6_smalls_19 : decode cX6_smalls 19 = .ok (.i2c, 1) := by decide +kernel
theorem dX6_smalls_20 : decode cX6_smalls 20 = .ok (.invokevirtual 110, 3) := by decide +kernel
theorem dX6_smalls_23 : decode cX6_smalls 23 = .ok (.aload_n 0, 1) := by decide +kernel
theorem dX6_smalls_24 : decode cX6_smalls 24 = .ok (.dup, 1) := by decide +kernel
theorem dX6_smalls_25 : decode cX6_smalls 25 = .ok (.getfield 107, 3) := by decide +kernel
theorem dX6_smalls_28 : decode cX6_smalls 28 = .ok (.iconst 1, 1) := by decide +kernel
theorem dX6_smalls_29 : decode cX6_smalls 29 = .ok (.iadd, 1) := by decide +kernel
theorem dX6_smalls_30 : decode cX6_smalls 30 = .ok (.putfield 107, 3) := by decide +kernel
theorem dX6_smalls_33 : decode cX6_smalls 33 = .ok (.bipush (-19), 2) := by decide +kernel
theorem dX6_smalls_35 : decode cX6_smalls 35 = .ok (.istore_n 3, 1) := by decide +kernel
theorem dX6_smalls_36 : decode cX6_smalls 36 = .ok (.iload_n 3, 1) := by decide +kernel
theorem dX6_smalls_37 : decode cX6_smalls 37 = .ok (.bipush 20, 2) := by decide +kernel
theorem dX6_smalls_39 : decode cX6_smalls 39 = .ok (.if_icmp .ge 105, 3) := by decide +kernel
theorem dX6_smalls_42 : decode cX6_smalls 42 = .ok (.iload_n 2, 1) := by decide +kernel
theorem dX6_smalls_43 : decode cX6_smalls 43 = .ok (.iload_n 3, 1) := by decide +kernel
theorem dX6_smalls_44 : decode cX6_smalls 44 = .ok (.iadd, 1) := by decide +kernel
theorem dX6_smalls_45 : decode cX6_smalls 45 = .ok (.istore 4, 2) := by decide +kernel
theorem dX6_smalls_47 : decode cX6_smalls 47 = .ok (.iload 4, 2) := by decide +kernel
theorem dX6_smalls_49 : decode cX6_smalls 49 = .ok (.ifCond .le 89, 3) := by decide +kernel
theorem dX6_smalls_52 : decode cX6_smalls 52 = .ok (.iload 4, 2) := by decide +kernel
theorem dX6_smalls_54 : decode cX6_smalls 54 = .ok (.bipush 10, 2) := by decide +kernel
theorem dX6_smalls_56 : decode cX6_smalls 56 = .ok (.irem, 1) := by decide +kernel
theorem dX6_smalls_57 : decode cX6_smalls 57 = .ok (.ifCond .ne 81, 3) := by decide +kernel
theorem dX6_smalls_60 : decode cX6_smalls 60 = .ok (.iload 4, 2) := by decide +kernel
theorem dX6_smalls_62 : decode cX6_smalls 62 = .ok (.bipush 10, 2) := by decide +kernel
theorem dX6_smalls_64 : decode cX6_smalls 64 = .ok (.idiv, 1) := by decide +kernel
theorem dX6_smalls_65 : decode cX6_smalls 65 = .ok (.invokestatic 122, 3) := by decide +kernel
theorem dX6_smalls_68 : decode cX6_smalls 68 = .ok (.ifCond .eq 70, 3) := by decide +kernel
theorem dX6_smalls_71 : decode cX6_smalls 71 = .ok (.aload_n 0, 1) := by decide +kernel
theorem dX6_smalls_72 : decode cX6_smalls 72 = .ok (.iload_n 1, 1) := by decide +kernel
theorem dX6_smalls_73 : decode cX6_smalls 73 = .ok (.iconst 1, 1) := by decide +kernel
theorem dX6_smalls_74 : decode cX6_smalls 74 = .ok (.invokevirtual 118, 3) := by decide +kernel
theorem dX6_smalls_77 : decode cX6_smalls 77 = .ok (.iload_n 3, 1) := by decide +kernel
theorem dX6_smalls_78 : decode cX6_smalls 78 = .ok (.ifCond .le 20, 3) := by decide +kernel
theorem dX6_smalls_81 : decode cX6_smalls 81 = .ok (.aload_n 0, 1) := by decide +kernel
theorem dX6_smalls_82 : decode cX6_smalls 82 = .ok (.bipush 97, 2) := by decide +kernel
theorem dX6_smalls_84 : decode cX6_smalls 84 = .ok (.iload_n 3, 1) := by decide +kernel
theorem dX6_smalls_85 : decode cX6_smalls 85 = .ok (.iadd, 1) := by decide +kernel
theorem dX6_smalls_86 : decode cX6_smalls 86 = .ok (.iconst 1, 1) := by decide +kernel
theorem dX6_smalls_87 : decode cX6_smalls 87 = .ok (.isub, 1) := by decide +kernel
theorem dX6_smalls_88 : decode cX6_smalls 88 = .ok (.i2c, 1) := by decide +kernel
end
section
theorem dX6_smalls_89 : decode cX6_smalls 89 = .ok (.invokevirtual 110, 3) := by decide +kernel
theorem dX6_smalls_92 : decode cX6_smalls 92 = .ok (.aload_n 0, 1) := by decide +kernel
theorem dX6_smalls_93 : decode cX6_smalls 93 = .ok (.bipush 45, 2) := by decide +kernel
theorem dX6_smalls_95 : decode cX6_smalls 95 = .ok (.invokevirtual 110, 3) := by decide +kernel
theorem dX6_smalls_98 : decode cX6_smalls 98 = .ok (.aload_n 0, 1) := by decide +kernel
theorem dX6_smalls_99 : decode cX6_smalls 99 = .ok (.iload 4, 2) := by decide +kernel
theorem dX6_smalls_101 : decode cX6_smalls 101 = .ok (.bipush 10, 2) := by decide +kernel
theorem dX6_smalls_103 : decode cX6_smalls 103 = .ok (.idiv, 1) := by decide +kernel
theorem dX6_smalls_104 : decode cX6_smalls 104 = .ok (.invokevirtual 125, 3) := by decide +kernel
theorem dX6_smalls_107 : decode cX6_smalls 107 = .ok (.iload_n 3, 1) := by decide +kernel
theorem dX6_smalls_108 : decode cX6_smalls 108 = .ok (.ifCond .ge 20, 3) := by decide +kernel
theorem dX6_smalls_111 : decode cX6_smalls 111 = .ok (.aload_n 0, 1) := by decide +kernel
theorem dX6_smalls_112 : decode cX6_smalls 112 = .ok (.bipush 43, 2) := by decide +kernel
theorem dX6_smalls_114 : decode cX6_smalls 114 = .ok (.invokevirtual 110, 3) := by decide +kernel
theorem dX6_smalls_117 : decode cX6_smalls 117 = .ok (.aload_n 0, 1) := by decide +kernel
theorem dX6_smalls_118 : decode cX6_smalls 118 = .ok (.bipush 97, 2) := by decide +kernel
theorem dX6_smalls_120 : decode cX6_smalls 120 = .ok (.iload_n 3, 1) := by decide +kernel
theorem dX6_smalls_121 : decode cX6_smalls 121 = .ok (.isub, 1) := by decide +kernel
theorem dX6_smalls_122 : decode cX6_smalls 122 = .ok (.iconst 1, 1) := by decide +kernel
theorem dX6_smalls_123 : decode cX6_smalls 123 = .ok (.isub, 1) := by decide +kernel
theorem dX6_smalls_124 : decode cX6_smalls 124 = .ok (.i2c, 1) := by decide +kernel
theorem dX6_smalls_125 : decode cX6_smalls 125 = .ok (.invokevirtual 110, 3) := by decide +kernel
theorem dX6_smalls_128 : decode cX6_smalls 128 = .ok (.aload_n 0, 1) := by decide +kernel
theorem dX6_smalls_129 : decode cX6_smalls 129 = .ok (.dup, 1) := by decide +kernel
theorem dX6_smalls_130 : decode cX6_smalls 130 = .ok (.getfield 107, 3) := by decide +kernel
theorem dX6_smalls_133 : decode cX6_smalls 133 = .ok (.iconst 1, 1) := by decide +kernel
theorem dX6_smalls_134 : decode cX6_smalls 134 = .ok (.iadd, 1) := by decide +kernel
theorem dX6_smalls_135 : decode cX6_smalls 135 = .ok (.putfield 107, 3) := by decide +kernel
theorem dX6_smalls_138 : decode cX6_smalls 138 = .ok (.iinc 3 1, 3) := by decide +kernel
theorem dX6_smalls_141 : decode cX6_smalls 141 = .ok (.goto (-105), 3) := by decide +kernel
theorem dX6_smalls_144 : decode cX6_smalls 144 = .ok (.return_, 1) := by decide +kernel
theorem dX6_isAhead_0 : decode cX6_isAhead 0 = .ok (.aload_n 0, 1) := by decide +kernel
theorem dX6_isAhead_1 : decode cX6_isAhead 1 = .ok (.getfield 26, 3) := by decide +kernel
theorem dX6_isAhead_4 : decode cX6_isAhead 4 = .ok (.iload_n 1, 1) := by decide +kernel
theorem dX6_isAhead_5 : decode cX6_isAhead 5 = .ok (.iaload, 1) := by decide +kernel
theorem dX6_isAhead_6 : decode cX6_isAhead 6 = .ok (.aload_n 0, 1) := by decide +kernel
theorem dX6_isAhead_7 : decode cX6_isAhead 7 = .ok (.getfield 26, 3) := by decide +kernel
theorem dX6_isAhead_10 : decode cX6_isAhead 10 = .ok (.iload_n 2, 1) := by decide +kernel
theorem dX6_isAhead_11 : decode cX6_isAhead 11 = .ok (.iaload, 1) := by decide +kernel
theorem dX6_isAhead_12 : decode cX6_isAhead 12 = .ok (.if_icmp .eq 24, 3) := by decide +kernel
theorem dX6_isAhead_15 : decode cX6_isAhead 15 = .ok (.aload_n 0, 1) := by decide +kernel
theorem dX6_isAhead_16 : decode cX6_isAhead 16 = .ok (.getfield 26, 3) := by decide +kernel
theorem dX6_isAhead_19 : decode cX6_isAhead 19 = .ok (.iload_n 1, 1) := by decide +kernel
theorem dX6_isAhead_20 : decode cX6_isAhead 20 = .ok (.iaload, 1) := by decide +kernel
theorem dX6_isAhead_21 : decode cX6_isAhead 21 = .ok (.aload_n 0, 1) := by decide +kernel
theorem dX6_isAhead_22 : decode cX6_isAhead 22 = .ok (.getfield 26, 3) := by decide +kernel
theorem dX6_isAhead_25 : decode cX6_isAhead 25 = .ok (.iload_n 2, 1) := by decide +kernel
theorem dX6_isAhead_26 : decode cX6_isAhead 26 = .ok (.iaload, 1) := by decide +kernel
theorem dX6_isAhead_27 : decode cX6_isAhead 27 = .ok (.if_icmp .ge 7, 3) := by decide +kernel
theorem dX6_isAhead_30 : decode cX6_isAhead 30 = .ok (.iconst 1, 1) := by decide +kernel
theorem dX6_isAhead_31 : decode cX6_isAhead 31 = .ok (.goto 4, 3) := by decide +kernel
theorem dX6_isAhead_34 : decode cX6_isAhead 34 = .ok (.iconst 0, 1) := by decide +kernel
theorem dX6_isAhead_35 : decode cX6_isAhead 35 = .ok (.ireturn, 1) := by decide +kernel
theorem dX6_isAhead_36 : decode cX6_isAhead 36 = .ok (.iconst 0, 1) := by decide +kernel
theorem dX6_isAhead_37 : decode cX6_isAhead 37 = .ok (.istore_n 3, 1) := by decide +kernel
theorem dX6_isAhead_38 : decode cX6_isAhead 38 = .ok (.iload_n 3, 1) := by decide +kernel
theorem dX6_isAhead_39 : decode cX6_isAhead 39 = .ok (.aload_n 0, 1) := by decide +kernel
theorem dX6_isAhead_40 : decode cX6_isAhead 40 = .ok (.getfield 26, 3) := by decide +kernel
theorem dX6_isAhead_43 : decode cX6_isAhead 43 = .ok (.iload_n 1, 1) := by decide +kernel
theorem dX6_isAhead_44 : decode cX6_isAhead 44 = .ok (.iaload, 1) := by decide +kernel
theorem dX6_isAhead_45 : decode cX6_isAhead 45 = .ok (.if_icmp .ge 34, 3) := by decide +kernel
theorem dX6_isAhead_48 : decode cX6_isAhead 48 = .ok (.aload_n 0, 1) := by decide +kernel
theorem dX6_isAhead_49 : decode cX6_isAhead 49 = .ok (.getfield 23, 3) := by decide +kernel
theorem dX6_isAhead_52 : decode cX6_isAhead 52 = .ok (.bipush 10, 2) := by decide +kernel
theorem dX6_isAhead_54 : decode cX6_isAhead 54 = .ok (.iload_n 1, 1) := by decide +kernel
theorem dX6_isAhead_55 : decode cX6_isAhead 55 = .ok (.imul, 1) := by decide +kernel
theorem dX6_isAhead_56 : decode cX6_isAhead 56 = .ok (.iload_n 3, 1) := by decide +kernel
theorem dX6_isAhead_57 : decode cX6_isAhead 57 = .ok (.iadd, 1) := by decide +kernel
theorem dX6_isAhead_58 : decode cX6_isAhead 58 = .ok (.caload, 1) := by decide +kernel
theorem dX6_isAhead_59 : decode cX6_isAhead 59 = .ok (.aload_n 0, 1) := by decide +kernel
theorem dX6_isAhead_60 : decode cX6_isAhead 60 = .ok (.getfield 23, 3) := by decide +kernel
theorem dX6_isAhead_63 : decode cX6_isAhead 63 = .ok (.bipush 10, 2) := by decide +kernel
theorem dX6_isAhead_65 : decode cX6_isAhead 65 = .ok (.iload_n 2, 1) := by decide +kernel
theorem dX6_isAhead_66 : decode cX6_isAhead 66 = .ok (.imul, 1) := by decide +kernel
theorem dX6_isAhead_67 : decode cX6_isAhead 67 = .ok (.iload_n 3, 1) := by decide +kernel
theorem dX6_isAhead_68 : decode cX6_isAhead 68 = .ok (.iadd, 1) := by decide +kernel
theorem dX6_isAhead_69 : decode cX6_isAhead 69 = .ok (.caload, 1) := by decide +kernel
theorem dX6_isAhead_70 : decode cX6_isAhead 70 = .ok (.if_icmp .ne 9, 3) := by decide +kernel
theorem dX6_isAhead_73 : decode cX6_isAhead 73 = .ok (.iinc 3 1, 3) := by decide +kernel
theorem dX6_isAhead_76 : decode cX6_isAhead 76 = .ok (.goto (-38), 3) := by decide +kernel
theorem dX6_isAhead_79 : decode cX6_isAhead 79 = .ok (.iload_n 3, 1) := by decide +kernel
theorem dX6_isAhead_80 : decode cX6_isAhead 80 = .ok (.aload_n 0, 1) := by decide +kernel
theorem dX6_isAhead_81 : decode cX6_isAhead 81 = .ok (.getfield 26, 3) := by decide +kernel
theorem dX6_isAhead_84 : decode cX6_isAhead 84 = .ok (.iload_n 1, 1) := by decide +kernel
theorem dX6_isAhead_85 : decode cX6_isAhead 85 = .ok (.iaload, 1) := by decide +kernel
theorem dX6_isAhead_86 : decode cX6_isAhead 86 = .ok (.if_icmp .ge 32, 3) := by decide +kernel
theorem dX6_isAhead_89 : decode cX6_isAhead 89 = .ok (.aload_n 0, 1) := by decide +kernel
theorem dX6_isAhead_90 : decode cX6_isAhead 90 = .ok (.getfield 23, 3) := by decide +kernel
theorem dX6_isAhead_93 : decode cX6_isAhead 93 = .ok (.bipush 10, 2) := by decide +kernel
theorem dX6_isAhead_95 : decode cX6_isAhead 95 = .ok (.iload_n 1, 1) := by decide +kernel
theorem dX6_isAhead_96 : decode cX6_isAhead 96 = .ok (.imul, 1) := by decide +kernel
theorem dX6_isAhead_97 : decode cX6_isAhead 97 = .ok (.iload_n 3, 1) := by decide +kernel
theorem dX6_isAhead_98 : decode cX6_isAhead 98 = .ok (.iadd, 1) := by decide +kernel
theorem dX6_isAhead_99 : decode cX6_isAhead 99 = .ok (.caload, 1) := by decide +kernel
theorem dX6_isAhead_100 : decode cX6_isAhead 100 = .ok (.aload_n 0, 1) := by decide +kernel
theorem dX6_isAhead_101 : decode cX6_isAhead 101 = .ok (.getfield 23, 3) := by decide +kernel
theorem dX6_isAhead_104 : decode cX6_isAhead 104 = .ok (.bipush 10, 2) := by decide +kernel
theorem dX6_isAhead_106 : decode cX6_isAhead 106 = .ok (.iload_n 2, 1) := by decide +kernel
theorem dX6_isAhead_107 : decode cX6_isAhead 107 = .ok (.imul, 1) := by decide +kernel
theorem dX6_isAhead_108 : decode cX6_isAhead 108 = .ok (.iload_n 3, 1) := by decide +kernel
theorem dX6_isAhead_109 : decode cX6_isAhead 109 = .ok (.iadd, 1) := by decide +kernel
theorem dX6_isAhead_110 : decode cX6_isAhead 110 = .ok (.caload, 1) := by decide +kernel
theorem dX6_isAhead_111 : decode cX6_isAhead 111 = .ok (.if_icmp .ge 7, 3) := by decide +kernel
theorem dX6_isAhead_114 : decode cX6_isAhead 114 = .ok (.iconst 1, 1) := by decide +kernel
theorem dX6_isAhead_115 : decode cX6_isAhead 115 = .ok (.goto 4, 3) := by decide +kernel
theorem dX6_isAhead_118 : decode cX6_isAhead 118 = .ok (.iconst 0, 1) := by decide +kernel
theorem dX6_isAhead_119 : decode cX6_isAhead 119 = .ok (.ireturn, 1) := by decide +kernel
set_option maxRecDepth 20000 in
theorem ggX6_makes_X6_begins : GoodIn wsX6_makes wsX6_begins := goodIn_r _ [7, 8, 1, 9, 10, 11, 6, 12, 13, 14, 15, 16, 17, 36, 37, 38, 39, 40, 41, 42, 43, 44, 45, 46, 47, 48, 49, 50, 51, 52, 53] (by decide +kernel) (by decide +kernel)
set_option maxRecDepth 20000 in
theorem gX6_makes_X6_begins : GoodIn wsX6_makes (wsV RX6 118 RX6 yX6_begins wsX6_begins) := goodIn_app (goodIn_of _ (by decide +kernel)) ggX6_makes_X6_begins
set_option maxRecDepth 20000 in
theorem ggX6_makes_X6_smalls : GoodIn wsX6_makes wsX6_smalls := goodIn_r _ [21, 1, 3, 4, 5, 6, 7, 8, 9, 10, 11, 12, 13, 14, 15, 16, 17, 22, 23, 24, 25, 26, 27, 28, 29, 30, 31, 36, 37, 38, 39, 40, 41, 42, 43, 44, 45, 46, 47, 48, 49, 50, 51, 52, 53] (by decide +kernel) (by decide +kernel)
set_option maxRecDepth 20000 in
theorem gX6_makes_X6_smalls : GoodIn wsX6_makes (wsV RX6 129 RX6 yX6_smalls wsX6_smalls) := goodIn_app (goodIn_of _ (by decide +kernel)) ggX6_makes_X6_smalls
set_option maxRecDepth 20000 in
theorem ggX6_makes_X6_isAhead : GoodIn wsX6_makes wsX6_isAhead := goodIn_r _ [35, 8, 17, 36, 37, 38, 39, 40, 41, 42, 43, 44, 45, 46, 47, 48, 49, 50, 51, 52, 53] (by decide +kernel) (by decide +kernel)
set_option maxRecDepth 20000 in
theorem gX6_makes_X6_isAhead : GoodIn wsX6_makes (wsV RX6 133 RX6 yX6_isAhead wsX6_isAhead) := goodIn_app (goodIn_of _ (by decide +kernel)) ggX6_makes_X6_isAhead
theorem dX6_makes_0 : decode cX6_makes 0 = .ok (.aload_n 0, 1) := by decide +kernel
theorem dX6_makes_1 : decode cX6_makes 1 = .ok (.iconst 0, 1) := by decide +kernel
theorem dX6_makes_2 : decode cX6_makes 2 = .ok (.putfield 107, 3) := by decide +kernel
theorem dX6_makes_5 : decode cX6_makes 5 = .ok (.iconst 0, 1) := by decide +kernel
theorem dX6_makes_6 : decode cX6_makes 6 = .ok (.istore_n 2, 1) := by decide +kernel
theorem dX6_makes_7 : decode cX6_makes 7 = .ok (.iload_n 2, 1) := by decide +kernel
theorem dX6_makes_8 : decode cX6_makes 8 = .ok (.bipush 39, 2) := by decide +kernel
theorem dX6_makes_10 : decode cX6_makes 10 = .ok (.if_icmp .ge 67, 3) := by decide +kernel
theorem dX6_makes_13 : decode cX6_makes 13 = .ok (.iload_n 1, 1) := by decide +kernel
theorem dX6_makes_14 : decode cX6_makes 14 = .ok (.sipush 200, 3) := by decide +kernel
theorem dX6_makes_17 : decode cX6_makes 17 = .ok (.iload_n 2, 1) := by decide +kernel
theorem dX6_makes_18 : decode cX6_makes 18 = .ok (.imul, 1) := by decide +kernel
theorem dX6_makes_19 : decode cX6_makes 19 = .ok (.isub, 1) := by decide +kernel
theorem dX6_makes_20 : decode cX6_makes 20 = .ok (.istore_n 3, 1) := by decide +kernel
theorem dX6_makes_21 : decode cX6_makes 21 = .ok (.iload_n 2, 1) := by decide +kernel
theorem dX6_makes_22 : decode cX6_makes 22 = .ok (.iconst 1, 1) := by decide +kernel
theorem dX6_makes_23 : decode cX6_makes 23 = .ok (.if_icmp .eq 26, 3) := by decide +kernel
theorem dX6_makes_26 : decode cX6_makes 26 = .ok (.iload_n 3, 1) := by decide +kernel
theorem dX6_makes_27 : decode cX6_makes 27 = .ok (.ifCond .ne 22, 3) := by decide +kernel
theorem dX6_makes_30 : decode cX6_makes 30 = .ok (.aload_n 0, 1) := by decide +kernel
theorem dX6_makes_31 : decode cX6_makes 31 = .ok (.iload_n 2, 1) := by decide +kernel
theorem dX6_makes_32 : decode cX6_makes 32 = .ok (.iconst 0, 1) := by decide +kernel
theorem dX6_makes_33 : decode cX6_makes 33 = .ok (.invokevirtual 118, 3) := by decide +kernel
theorem dX6_makes_36 : decode cX6_makes 36 = .ok (.aload_n 0, 1) := by decide +kernel
theorem dX6_makes_37 : decode cX6_makes 37 = .ok (.dup, 1) := by decide +kernel
theorem dX6_makes_38 : decode cX6_makes 38 = .ok (.getfield 107, 3) := by decide +kernel
theorem dX6_makes_41 : decode cX6_makes 41 = .ok (.iconst 1, 1) := by decide +kernel
theorem dX6_makes_42 : decode cX6_makes 42 = .ok (.iadd, 1) := by decide +kernel
theorem dX6_makes_43 : decode cX6_makes 43 = .ok (.putfield 107, 3) := by decide +kernel
theorem dX6_makes_46 : decode cX6_makes 46 = .ok (.goto 25, 3) := by decide +kernel
theorem dX6_makes_49 : decode cX6_makes 49 = .ok (.iload_n 2, 1) := by decide +kernel
theorem dX6_makes_50 : decode cX6_makes 50 = .ok (.iconst 1, 1) := by decide +kernel
theorem dX6_makes_51 : decode cX6_makes 51 = .ok (.if_icmp .eq 20, 3) := by decide +kernel
theorem dX6_makes_54 : decode cX6_makes 54 = .ok (.iload_n 3, 1) := by decide +kernel
theorem dX6_makes_55 : decode cX6_makes 55 = .ok (.ifCond .le 16, 3) := by decide +kernel
theorem dX6_makes_58 : decode cX6_makes 58 = .ok (.iload_n 3, 1) := by decide +kernel
theorem dX6_makes_59 : decode cX6_makes 59 = .ok (.sipush 400, 3) := by decide +kernel
theorem dX6_makes_62 : decode cX6_makes 62 = .ok (.if_icmp .ge 9, 3) := by decide +kernel
theorem dX6_makes_65 : decode cX6_makes 65 = .ok (.aload_n 0, 1) := by decide +kernel
theorem dX6_makes_66 : decode cX6_makes 66 = .ok (.iload_n 2, 1) := by decide +kernel
theorem dX6_makes_67 : decode cX6_makes 67 = .ok (.iload_n 3, 1) := by decide +kernel
theorem dX6_makes_68 : decode cX6_makes 68 = .ok (.invokevirtual 129, 3) := by decide +kernel
theorem dX6_makes_71 : decode cX6_makes 71 = .ok (.iinc 2 1, 3) := by decide +kernel
theorem dX6_makes_74 : decode cX6_makes 74 = .ok (.goto (-67), 3) := by decide +kernel
theorem dX6_makes_77 : decode cX6_makes 77 = .ok (.iconst 0, 1) := by decide +kernel
theorem dX6_makes_78 : decode cX6_makes 78 = .ok (.istore_n 2, 1) := by decide +kernel
theorem dX6_makes_79 : decode cX6_makes 79 = .ok (.iload_n 2, 1) := by decide +kernel
theorem dX6_makes_80 : decode cX6_makes 80 = .ok (.aload_n 0, 1) := by decide +kernel
theorem dX6_makes_81 : decode cX6_makes 81 = .ok (.getfield 107, 3) := by decide +kernel
theorem dX6_makes_84 : decode cX6_makes 84 = .ok (.if_icmp .ge 54, 3) := by decide +kernel
theorem dX6_makes_87 : decode cX6_makes 87 = .ok (.iconst 0, 1) := by decide +kernel
theorem dX6_makes_88 : decode cX6_makes 88 = .ok (.istore_n 3, 1) := by decide +kernel
theorem dX6_makes_89 : decode cX6_makes 89 = .ok (.iconst 0, 1) := by decide +kernel
theorem dX6_makes_90 : decode cX6_makes 90 = .ok (.istore 4, 2) := by decide +kernel
theorem dX6_makes_92 : decode cX6_makes 92 = .ok (.iload 4, 2) := by decide +kernel
theorem dX6_makes_94 : decode cX6_makes 94 = .ok (.aload_n 0, 1) := by decide +kernel
theorem dX6_makes_95 : decode cX6_makes 95 = .ok (.getfield 107, 3) := by decide +kernel
theorem dX6_makes_98 : decode cX6_makes 98 = .ok (.if_icmp .ge 27, 3) := by decide +kernel
theorem dX6_makes_101 : decode cX6_makes 101 = .ok (.iload_n 3, 1) := by decide +kernel
theorem dX6_makes_102 : decode cX6_makes 102 = .ok (.aload_n 0, 1) := by decide +kernel
theorem dX6_makes_103 : decode cX6_makes 103 = .ok (.iload 4, 2) := by decide +kernel
theorem dX6_makes_105 : decode cX6_makes 105 = .ok (.iload_n 2, 1) := by decide +kernel
theorem dX6_makes_106 : decode cX6_makes 106 = .ok (.invokevirtual 133, 3) := by decide +kernel
theorem dX6_makes_109 : decode cX6_makes 109 = .ok (.ifCond .eq 7, 3) := by decide +kernel
theorem dX6_makes_112 : decode cX6_makes 112 = .ok (.iconst 1, 1) := by decide +kernel
theorem dX6_makes_113 : decode cX6_makes 113 = .ok (.goto 4, 3) := by decide +kernel
theorem dX6_makes_116 : decode cX6_makes 116 = .ok (.iconst 0, 1) := by decide +kernel
theorem dX6_makes_117 : decode cX6_makes 117 = .ok (.iadd, 1) := by decide +kernel
theorem dX6_makes_118 : decode cX6_makes 118 = .ok (.istore_n 3, 1) := by decide +kernel
theorem dX6_makes_119 : decode cX6_makes 119 = .ok (.iinc 4 1, 3) := by decide +kernel
theorem dX6_makes_122 : decode cX6_makes 122 = .ok (.goto (-30), 3) := by decide +kernel
theorem dX6_makes_125 : decode cX6_makes 125 = .ok (.aload_n 0, 1) := by decide +kernel
theorem dX6_makes_126 : decode cX6_makes 126 = .ok (.getfield 29, 3) := by decide +kernel
theorem dX6_makes_129 : decode cX6_makes 129 = .ok (.iload_n 3, 1) := by decide +kernel
theorem dX6_makes_130 : decode cX6_makes 130 = .ok (.iload_n 2, 1) := by decide +kernel
theorem dX6_makes_131 : decode cX6_makes 131 = .ok (.iastore, 1) := by decide +kernel
theorem dX6_makes_132 : decode cX6_makes 132 = .ok (.iinc 2 1, 3) := by decide +kernel
theorem dX6_makes_135 : decode cX6_makes 135 = .ok (.goto (-56), 3) := by decide +kernel
theorem dX6_makes_138 : decode cX6_makes 138 = .ok (.return_, 1) := by decide +kernel
theorem dX6_says_0 : decode cX6_says 0 = .ok (.aload_n 0, 1) := by decide +kernel
theorem dX6_says_1 : decode cX6_says 1 = .ok (.getfield 29, 3) := by decide +kernel
theorem dX6_says_4 : decode cX6_says 4 = .ok (.iload_n 1, 1) := by decide +kernel
theorem dX6_says_5 : decode cX6_says 5 = .ok (.iaload, 1) := by decide +kernel
theorem dX6_says_6 : decode cX6_says 6 = .ok (.istore_n 2, 1) := by decide +kernel
theorem dX6_says_7 : decode cX6_says 7 = .ok (.iconst 0, 1) := by decide +kernel
theorem dX6_says_8 : decode cX6_says 8 = .ok (.istore_n 3, 1) := by decide +kernel
theorem dX6_says_9 : decode cX6_says 9 = .ok (.iload_n 3, 1) := by decide +kernel
theorem dX6_says_10 : decode cX6_says 10 = .ok (.aload_n 0, 1) := by decide +kernel
theorem dX6_says_11 : decode cX6_says 11 = .ok (.getfield 26, 3) := by decide +kernel
theorem dX6_says_14 : decode cX6_says 14 = .ok (.iload_n 2, 1) := by decide +kernel
theorem dX6_says_15 : decode cX6_says 15 = .ok (.iaload, 1) := by decide +kernel
theorem dX6_says_16 : decode cX6_says 16 = .ok (.if_icmp .ge 26, 3) := by decide +kernel
theorem dX6_says_19 : decode cX6_says 19 = .ok (.aload_n 0, 1) := by decide +kernel
theorem dX6_says_20 : decode cX6_says 20 = .ok (.getfield 16, 3) := by decide +kernel
theorem dX6_says_23 : decode cX6_says 23 = .ok (.iload_n 3, 1) := by decide +kernel
theorem dX6_says_24 : decode cX6_says 24 = .ok (.aload_n 0, 1) := by decide +kernel
theorem dX6_says_25 : decode cX6_says 25 = .ok (.getfield 23, 3) := by decide +kernel
theorem dX6_says_28 : decode cX6_says 28 = .ok (.bipush 10, 2) := by decide +kernel
theorem dX6_says_30 : decode cX6_says 30 = .ok (.iload_n 2, 1) := by decide +kernel
theorem dX6_says_31 : decode cX6_says 31 = .ok (.imul, 1) := by decide +kernel
theorem dX6_says_32 : decode cX6_says 32 = .ok (.iload_n 3, 1) := by decide +kernel
theorem dX6_says_33 : decode cX6_says 33 = .ok (.iadd, 1) := by decide +kernel
theorem dX6_says_34 : decode cX6_says 34 = .ok (.caload, 1) := by decide +kernel
theorem dX6_says_35 : decode cX6_says 35 = .ok (.castore, 1) := by decide +kernel
theorem dX6_says_36 : decode cX6_says 36 = .ok (.iinc 3 1, 3) := by decide +kernel
theorem dX6_says_39 : decode cX6_says 39 = .ok (.goto (-30), 3) := by decide +kernel
theorem dX6_says_42 : decode cX6_says 42 = .ok (.aload_n 0, 1) := by decide +kernel
theorem dX6_says_43 : decode cX6_says 43 = .ok (.getfield 26, 3) := by decide +kernel
theorem dX6_says_46 : decode cX6_says 46 = .ok (.iload_n 2, 1) := by decide +kernel
theorem dX6_says_47 : decode cX6_says 47 = .ok (.iaload, 1) := by decide +kernel
theorem dX6_says_48 : decode cX6_says 48 = .ok (.ireturn, 1) := by decide +kernel
theorem dX6_has_0 : decode cX6_has 0 = .ok (.iconst 0, 1) := by decide +kernel
theorem dX6_has_1 : decode cX6_has 1 = .ok (.istore_n 3, 1) := by decide +kernel
theorem dX6_has_2 : decode cX6_has 2 = .ok (.iconst 0, 1) := by decide +kernel
theorem dX6_has_3 : decode cX6_has 3 = .ok (.istore 4, 2) := by decide +kernel
theorem dX6_has_5 : decode cX6_has 5 = .ok (.iload 4, 2) := by decide +kernel
theorem dX6_has_7 : decode cX6_has 7 = .ok (.aload_n 0, 1) := by decide +kernel
theorem dX6_has_8 : decode cX6_has 8 = .ok (.getfield 26, 3) := by decide +kernel
theorem dX6_has_11 : decode cX6_has 11 = .ok (.iload_n 1, 1) := by decide +kernel
theorem dX6_has_12 : decode cX6_has 12 = .ok (.iaload, 1) := by decide +kernel
theorem dX6_has_13 : decode cX6_has 13 = .ok (.if_icmp .ge 35, 3) := by decide +kernel
theorem dX6_has_16 : decode cX6_has 16 = .ok (.iload_n 3, 1) := by decide +kernel
theorem dX6_has_17 : decode cX6_has 17 = .ok (.ifCond .ne 19, 3) := by decide +kernel
theorem dX6_has_20 : decode cX6_has 20 = .ok (.aload_n 0, 1) := by decide +kernel
theorem dX6_has_21 : decode cX6_has 21 = .ok (.getfield 23, 3) := by decide +kernel
theorem dX6_has_24 : decode cX6_has 24 = .ok (.bipush 10, 2) := by decide +kernel
theorem dX6_has_26 : decode cX6_has 26 = .ok (.iload_n 1, 1) := by decide +kernel
theorem dX6_has_27 : decode cX6_has 27 = .ok (.imul, 1) := by decide +kernel
theorem dX6_has_28 : decode cX6_has 28 = .ok (.iload 4, 2) := by decide +kernel
theorem dX6_has_30 : decode cX6_has 30 = .ok (.iadd, 1) := by decide +kernel
theorem dX6_has_31 : decode cX6_has 31 = .ok (.caload, 1) := by decide +kernel
theorem dX6_has_32 : decode cX6_has 32 = .ok (.iload_n 2, 1) := by decide +kernel
theorem dX6_has_33 : decode cX6_has 33 = .ok (.if_icmp .ne 7, 3) := by decide +kernel
theorem dX6_has_36 : decode cX6_has 36 = .ok (.iconst 1, 1) := by decide +kernel
theorem dX6_has_37 : decode cX6_has 37 = .ok (.goto 4, 3) := by decide +kernel
theorem dX6_has_40 : decode cX6_has 40 = .ok (.iconst 0, 1) := by decide +kernel
theorem dX6_has_41 : decode cX6_has 41 = .ok (.istore_n 3, 1) := by decide +kernel
theorem dX6_has_42 : decode cX6_has 42 = .ok (.iinc 4 1, 3) := by decide +kernel
theorem dX6_has_45 : decode cX6_has 45 = .ok (.goto (-40), 3) := by decide +kernel
theorem dX6_has_48 : decode cX6_has 48 = .ok (.iload_n 3, 1) := by decide +kernel
theorem dX6_has_49 : decode cX6_has 49 = .ok (.ireturn, 1) := by decide +kernel
set_option maxRecDepth 20000 in
theorem ggX6_placeOf_X6_has : GoodIn wsX6_placeOf wsX6_has := goodIn_r _ [7, 8, 9, 10, 11, 12, 13, 14, 15, 16, 17, 18, 19, 20, 21, 22, 23, 24, 25, 26, 27] (by decide +kernel) (by decide +kernel)
set_option maxRecDepth 20000 in
theorem gX6_placeOf_X6_has : GoodIn wsX6_placeOf (wsV RX6 137 RX6 yX6_has wsX6_has) := goodIn_app (goodIn_of _ (by decide +kernel)) ggX6_placeOf_X6_has
theorem dX6_placeOf_0 : decode cX6_placeOf 0 = .ok (.iload_n 1, 1) := by decide +kernel
theorem dX6_placeOf_1 : decode cX6_placeOf 1 = .ok (.ifCond .ne 7, 3) := by decide +kernel
theorem dX6_placeOf_4 : decode cX6_placeOf 4 = .ok (.iconst 0, 1) := by decide +kernel
theorem dX6_placeOf_5 : decode cX6_placeOf 5 = .ok (.goto 5, 3) := by decide +kernel
theorem dX6_placeOf_8 : decode cX6_placeOf 8 = .ok (.bipush (-5), 2) := by decide +kernel
theorem dX6_placeOf_10 : decode cX6_placeOf 10 = .ok (.istore_n 2, 1) := by decide +kernel
theorem dX6_placeOf_11 : decode cX6_placeOf 11 = .ok (.aload_n 0, 1) := by decide +kernel
theorem dX6_placeOf_12 : decode cX6_placeOf 12 = .ok (.getfield 107, 3) := by decide +kernel
theorem dX6_placeOf_15 : decode cX6_placeOf 15 = .ok (.iconst 1, 1) := by decide +kernel
theorem dX6_placeOf_16 : decode cX6_placeOf 16 = .ok (.isub, 1) := by decide +kernel
theorem dX6_placeOf_17 : decode cX6_placeOf 17 = .ok (.istore_n 3, 1) := by decide +kernel
theorem dX6_placeOf_18 : decode cX6_placeOf 18 = .ok (.iload_n 3, 1) := by decide +kernel
theorem dX6_placeOf_19 : decode cX6_placeOf 19 = .ok (.ifCond .lt 90, 3) := by decide +kernel
theorem dX6_placeOf_22 : decode cX6_placeOf 22 = .ok (.aload_n 0, 1) := by decide +kernel
theorem dX6_placeOf_23 : decode cX6_placeOf 23 = .ok (.aload_n 0, 1) := by decide +kernel
theorem dX6_placeOf_24 : decode cX6_placeOf 24 = .ok (.getfield 29, 3) := by decide +kernel
theorem dX6_placeOf_27 : decode cX6_placeOf 27 = .ok (.iload_n 3, 1) := by decide +kernel
theorem dX6_placeOf_28 : decode cX6_placeOf 28 = .ok (.iaload, 1) := by decide +kernel
theorem dX6_placeOf_29 : decode cX6_placeOf 29 = .ok (.bipush 72, 2) := by decide +kernel
theorem dX6_placeOf_31 : decode cX6_placeOf 31 = .ok (.invokevirtual 137, 3) := by decide +kernel
theorem dX6_placeOf_34 : decode cX6_placeOf 34 = .ok (.istore 4, 2) := by decide +kernel
theorem dX6_placeOf_36 : decode cX6_placeOf 36 = .ok (.aload_n 0, 1) := by decide +kernel
theorem dX6_placeOf_37 : decode cX6_placeOf 37 = .ok (.aload_n 0, 1) := by decide +kernel
theorem dX6_placeOf_38 : decode cX6_placeOf 38 = .ok (.getfield 29, 3) := by decide +kernel
theorem dX6_placeOf_41 : decode cX6_placeOf 41 = .ok (.iload_n 3, 1) := by decide +kernel
theorem dX6_placeOf_42 : decode cX6_placeOf 42 = .ok (.iaload, 1) := by decide +kernel
theorem dX6_placeOf_43 : decode cX6_placeOf 43 = .ok (.bipush 45, 2) := by decide +kernel
theorem dX6_placeOf_45 : decode cX6_placeOf 45 = .ok (.invokevirtual 137, 3) := by decide +kernel
theorem dX6_placeOf_48 : decode cX6_placeOf 48 = .ok (.istore 5, 2) := by decide +kernel
theorem dX6_placeOf_50 : decode cX6_placeOf 50 = .ok (.iload_n 1, 1) := by decide +kernel
theorem dX6_placeOf_51 : decode cX6_placeOf 51 = .ok (.iconst 1, 1) := by decide +kernel
theorem dX6_placeOf_52 : decode cX6_placeOf 52 = .ok (.if_icmp .ne 8, 3) := by decide +kernel
theorem dX6_placeOf_55 : decode cX6_placeOf 55 = .ok (.iload 4, 2) := by decide +kernel
theorem dX6_placeOf_57 : decode cX6_placeOf 57 = .ok (.goto 33, 3) := by decide +kernel
theorem dX6_placeOf_60 : decode cX6_placeOf 60 = .ok (.iload_n 1, 1) := by decide +kernel
theorem dX6_placeOf_61 : decode cX6_placeOf 61 = .ok (.iconst 2, 1) := by decide +kernel
theorem dX6_placeOf_62 : decode cX6_placeOf 62 = .ok (.if_icmp .ne 8, 3) := by decide +kernel
theorem dX6_placeOf_65 : decode cX6_placeOf 65 = .ok (.iload 5, 2) := by decide +kernel
theorem dX6_placeOf_67 : decode cX6_placeOf 67 = .ok (.goto 23, 3) := by decide +kernel
theorem dX6_placeOf_70 : decode cX6_placeOf 70 = .ok (.iload_n 1, 1) := by decide +kernel
theorem dX6_placeOf_71 : decode cX6_placeOf 71 = .ok (.iconst 3, 1) := by decide +kernel
theorem dX6_placeOf_72 : decode cX6_placeOf 72 = .ok (.if_icmp .ne 17, 3) := by decide +kernel
theorem dX6_placeOf_75 : decode cX6_placeOf 75 = .ok (.iload 4, 2) := by decide +kernel
theorem dX6_placeOf_77 : decode cX6_placeOf 77 = .ok (.ifCond .ne 12, 3) := by decide +kernel
theorem dX6_placeOf_80 : decode cX6_placeOf 80 = .ok (.iload 5, 2) := by decide +kernel
theorem dX6_placeOf_82 : decode cX6_placeOf 82 = .ok (.ifCond .ne 7, 3) := by decide +kernel
theorem dX6_placeOf_85 : decode cX6_placeOf 85 = .ok (.iconst 1, 1) := by decide +kernel
theorem dX6_placeOf_86 : decode cX6_placeOf 86 = .ok (.goto 4, 3) := by decide +kernel
theorem dX6_placeOf_89 : decode cX6_placeOf 89 = .ok (.iconst 0, 1) := by decide +kernel
theorem dX6_placeOf_90 : decode cX6_placeOf 90 = .ok (.istore 6, 2) := by decide +kernel
theorem dX6_placeOf_92 : decode cX6_placeOf 92 = .ok (.iload 6, 2) := by decide +kernel
theorem dX6_placeOf_94 : decode cX6_placeOf 94 = .ok (.ifCond .eq 7, 3) := by decide +kernel
theorem dX6_placeOf_97 : decode cX6_placeOf 97 = .ok (.iload_n 3, 1) := by decide +kernel
theorem dX6_placeOf_98 : decode cX6_placeOf 98 = .ok (.goto 4, 3) := by decide +kernel
theorem dX6_placeOf_101 : decode cX6_placeOf 101 = .ok (.iload_n 2, 1) := by decide +kernel
theorem dX6_placeOf_102 : decode cX6_placeOf 102 = .ok (.istore_n 2, 1) := by decide +kernel
theorem dX6_placeOf_103 : decode cX6_placeOf 103 = .ok (.iinc 3 (-1), 3) := by decide +kernel
theorem dX6_placeOf_106 : decode cX6_placeOf 106 = .ok (.goto (-88), 3) := by decide +kernel
theorem dX6_placeOf_109 : decode cX6_placeOf 109 = .ok (.iload_n 2, 1) := by decide +kernel
theorem dX6_placeOf_110 : decode cX6_placeOf 110 = .ok (.bipush (-5), 2) := by decide +kernel
theorem dX6_placeOf_112 : decode cX6_placeOf 112 = .ok (.if_icmp .eq 7, 3) := by decide +kernel
theorem dX6_placeOf_115 : decode cX6_placeOf 115 = .ok (.iload_n 1, 1) := by decide +kernel
theorem dX6_placeOf_116 : decode cX6_placeOf 116 = .ok (.ifCond .ne 7, 3) := by decide +kernel
theorem dX6_placeOf_119 : decode cX6_placeOf 119 = .ok (.iconst 0, 1) := by decide +kernel
theorem dX6_placeOf_120 : decode cX6_placeOf 120 = .ok (.goto 4, 3) := by decide +kernel
theorem dX6_placeOf_123 : decode cX6_placeOf 123 = .ok (.iload_n 2, 1) := by decide +kernel
theorem dX6_placeOf_124 : decode cX6_placeOf 124 = .ok (.ireturn, 1) := by decide +kernel
theorem dX6_known_0 : decode cX6_known 0 = .ok (.bipush 9, 2) := by decide +kernel
theorem dX6_known_2 : decode cX6_known 2 = .ok (.iload_n 1, 1) := by decide +kernel
theorem dX6_known_3 : decode cX6_known 3 = .ok (.imul, 1) := by decide +kernel
theorem dX6_known_4 : decode cX6_known 4 = .ok (.istore_n 2, 1) := by decide +kernel
theorem dX6_known_5 : decode cX6_known 5 = .ok (.aload_n 0, 1) := by decide +kernel
theorem dX6_known_6 : decode cX6_known 6 = .ok (.getfield 7, 3) := by decide +kernel
theorem dX6_known_9 : decode cX6_known 9 = .ok (.iload_n 2, 1) := by decide +kernel
theorem dX6_known_10 : decode cX6_known 10 = .ok (.iaload, 1) := by decide +kernel
theorem dX6_known_11 : decode cX6_known 11 = .ok (.aload_n 0, 1) := by decide +kernel
theorem dX6_known_12 : decode cX6_known 12 = .ok (.getfield 7, 3) := by decide +kernel
theorem dX6_known_15 : decode cX6_known 15 = .ok (.iload_n 2, 1) := by decide +kernel
theorem dX6_known_16 : decode cX6_known 16 = .ok (.iconst 1, 1) := by decide +kernel
theorem dX6_known_17 : decode cX6_known 17 = .ok (.iadd, 1) := by decide +kernel
theorem dX6_known_18 : decode cX6_known 18 = .ok (.iaload, 1) := by decide +kernel
theorem dX6_known_19 : decode cX6_known 19 = .ok (.iadd, 1) := by decide +kernel
theorem dX6_known_20 : decode cX6_known 20 = .ok (.aload_n 0, 1) := by decide +kernel
theorem dX6_known_21 : decode cX6_known 21 = .ok (.getfield 7, 3) := by decide +kernel
theorem dX6_known_24 : decode cX6_known 24 = .ok (.iload_n 2, 1) := by decide +kernel
theorem dX6_known_25 : decode cX6_known 25 = .ok (.iconst 2, 1) := by decide +kernel
theorem dX6_known_26 : decode cX6_known 26 = .ok (.iadd, 1) := by decide +kernel
theorem dX6_known_27 : decode cX6_known 27 = .ok (.iaload, 1) := by decide +kernel
theorem dX6_known_28 : decode cX6_known 28 = .ok (.iadd, 1) := by decide +kernel
theorem dX6_known_29 : decode cX6_known 29 = .ok (.ireturn, 1) := by decide +kernel
set_option maxRecDepth 20000 in
theorem ggX6_makesKnown_X6_isHearer : GoodIn wsX6_makesKnown wsX6_isHearer := goodIn_r _ [5, 6, 7, 4, 8] (by decide +kernel) (by decide +kernel)
set_option maxRecDepth 20000 in
theorem gX6_makesKnown_X6_isHearer : GoodIn wsX6_makesKnown (va_wsS RX6 141 yX6_isHearer wsX6_isHearer) := goodIn_app (goodIn_of _ (by decide +kernel)) ggX6_makesKnown_X6_isHearer
set_option maxRecDepth 20000 in
theorem ggX6_makesKnown_X6_in : GoodIn wsX6_makesKnown wsX6_in := goodIn_r _ [8] (by decide +kernel) (by decide +kernel)
set_option maxRecDepth 20000 in
theorem gX6_makesKnown_X6_in : GoodIn wsX6_makesKnown (va_wsS RX6 32 yX6_in wsX6_in) := goodIn_app (goodIn_of _ (by decide +kernel)) ggX6_makesKnown_X6_in
set_option maxRecDepth 20000 in
theorem ggX6_makesKnown_X6_record : GoodIn wsX6_makesKnown wsX6_record := goodIn_r _ [12, 13, 14, 1, 19, 20, 21, 22, 23, 24, 25, 26, 27, 28, 29, 30, 31, 32, 33, 34, 35, 36] (by decide +kernel) (by decide +kernel)
set_option maxRecDepth 20000 in
theorem gX6_makesKnown_X6_record : GoodIn wsX6_makesKnown (wsV RX6 144 RX6 yX6_record wsX6_record) := goodIn_app (goodIn_of _ (by decide +kernel)) ggX6_makesKnown_X6_record
set_option maxRecDepth 20000 in
theorem ggX6_makesKnown_X6_known : GoodIn wsX6_makesKnown wsX6_known := goodIn_r _ [18, 1, 19, 20, 21, 22, 23, 24, 25, 26, 27, 28, 29, 30, 31, 32, 33, 34, 35, 36] (by decide +kernel) (by decide +kernel)
set_option maxRecDepth 20000 in
theorem gX6_makesKnown_X6_known : GoodIn wsX6_makesKnown (wsV RX6 147 RX6 yX6_known wsX6_known) := goodIn_app (goodIn_of _ (by decide +kernel)) ggX6_makesKnown_X6_known
theorem dX6_makesKnown_0 : decode cX6_makesKnown 0 = .ok (.iload_n 1, 1) := by decide +kernel
theorem dX6_makesKnown_1 : decode cX6_makesKnown 1 = .ok (.invokestatic 141, 3) := by decide +kernel
theorem dX6_makesKnown_4 : decode cX6_makesKnown 4 = .ok (.ifCond .eq 12, 3) := by decide +kernel
theorem dX6_makesKnown_7 : decode cX6_makesKnown 7 = .ok (.iload_n 2, 1) := by decide +kernel
theorem dX6_makesKnown_8 : decode cX6_makesKnown 8 = .ok (.iconst 0, 1) := by decide +kernel
theorem dX6_makesKnown_9 : decode cX6_makesKnown 9 = .ok (.iconst 2, 1) := by decide +kernel
theorem dX6_makesKnown_10 : decode cX6_makesKnown 10 = .ok (.invokestatic 32, 3) := by decide +kernel
theorem dX6_makesKnown_13 : decode cX6_makesKnown 13 = .ok (.ifCond .ne 5, 3) := by decide +kernel
theorem dX6_makesKnown_16 : decode cX6_makesKnown 16 = .ok (.iconst (-1), 1) := by decide +kernel
theorem dX6_makesKnown_17 : decode cX6_makesKnown 17 = .ok (.ireturn, 1) := by decide +kernel
theorem dX6_makesKnown_18 : decode cX6_makesKnown 18 = .ok (.aload_n 0, 1) := by decide +kernel
theorem dX6_makesKnown_19 : decode cX6_makesKnown 19 = .ok (.invokevirtual 144, 3) := by decide +kernel
theorem dX6_makesKnown_22 : decode cX6_makesKnown 22 = .ok (.aload_n 0, 1) := by decide +kernel
theorem dX6_makesKnown_23 : decode cX6_makesKnown 23 = .ok (.getfield 7, 3) := by decide +kernel
theorem dX6_makesKnown_26 : decode cX6_makesKnown 26 = .ok (.bipush 9, 2) := by decide +kernel
theorem dX6_makesKnown_28 : decode cX6_makesKnown 28 = .ok (.iload_n 1, 1) := by decide +kernel
theorem dX6_makesKnown_29 : decode cX6_makesKnown 29 = .ok (.imul, 1) := by decide +kernel
theorem dX6_makesKnown_30 : decode cX6_makesKnown 30 = .ok (.iload_n 2, 1) := by decide +kernel
theorem dX6_makesKnown_31 : decode cX6_makesKnown 31 = .ok (.iadd, 1) := by decide +kernel
theorem dX6_makesKnown_32 : decode cX6_makesKnown 32 = .ok (.iload_n 3, 1) := by decide +kernel
theorem dX6_makesKnown_33 : decode cX6_makesKnown 33 = .ok (.iastore, 1) := by decide +kernel
theorem dX6_makesKnown_34 : decode cX6_makesKnown 34 = .ok (.aload_n 0, 1) := by decide +kernel
theorem dX6_makesKnown_35 : decode cX6_makesKnown 35 = .ok (.getfield 7, 3) := by decide +kernel
theorem dX6_makesKnown_38 : decode cX6_makesKnown 38 = .ok (.bipush 9, 2) := by decide +kernel
theorem dX6_makesKnown_40 : decode cX6_makesKnown 40 = .ok (.iload_n 1, 1) := by decide +kernel
theorem dX6_makesKnown_41 : decode cX6_makesKnown 41 = .ok (.imul, 1) := by decide +kernel
theorem dX6_makesKnown_42 : decode cX6_makesKnown 42 = .ok (.iconst 3, 1) := by decide +kernel
theorem dX6_makesKnown_43 : decode cX6_makesKnown 43 = .ok (.iadd, 1) := by decide +kernel
theorem dX6_makesKnown_44 : decode cX6_makesKnown 44 = .ok (.iload_n 2, 1) := by decide +kernel
theorem dX6_makesKnown_45 : decode cX6_makesKnown 45 = .ok (.iadd, 1) := by decide +kernel
theorem dX6_makesKnown_46 : decode cX6_makesKnown 46 = .ok (.iconst 0, 1) := by decide +kernel
theorem dX6_makesKnown_47 : decode cX6_makesKnown 47 = .ok (.iastore, 1) := by decide +kernel
theorem dX6_makesKnown_48 : decode cX6_makesKnown 48 = .ok (.aload_n 0, 1) := by decide +kernel
theorem dX6_makesKnown_49 : decode cX6_makesKnown 49 = .ok (.iload_n 1, 1) := by decide +kernel
theorem dX6_makesKnown_50 : decode cX6_makesKnown 50 = .ok (.invokevirtual 147, 3) := by decide +kernel
theorem dX6_makesKnown_53 : decode cX6_makesKnown 53 = .ok (.ireturn, 1) := by decide +kernel
set_option maxRecDepth 20000 in
theorem ggX6_learn_X6_makesKnown : GoodIn wsX6_learn wsX6_makesKnown := goodIn_r _ [5, 6, 7, 8, 4, 9, 10, 11, 12, 13, 14, 15, 16, 17, 18, 19, 20, 21, 22, 23, 24, 25, 26, 27, 28, 29, 30, 31, 32, 33, 34, 35, 36, 37, 38, 39, 40] (by decide +kernel) (by decide +kernel)
set_option maxRecDepth 20000 in
theorem gX6_learn_X6_makesKnown : GoodIn wsX6_learn (wsV RX6 150 RX6 yX6_makesKnown wsX6_makesKnown) := goodIn_app (goodIn_of _ (by decide +kernel)) ggX6_learn_X6_makesKnown
theorem dX6_learn_0 : decode cX6_learn 0 = .ok (.aload_n 0, 1) := by decide +kernel
theorem dX6_learn_1 : decode cX6_learn 1 = .ok (.iload_n 1, 1) := by decide +kernel
theorem dX6_learn_2 : decode cX6_learn 2 = .ok (.iload_n 2, 1) := by decide +kernel
theorem dX6_learn_3 : decode cX6_learn 3 = .ok (.iconst 1, 1) := by decide +kernel
theorem dX6_learn_4 : decode cX6_learn 4 = .ok (.invokevirtual 150, 3) := by decide +kernel
theorem dX6_learn_7 : decode cX6_learn 7 = .ok (.ireturn, 1) := by decide +kernel
set_option maxRecDepth 20000 in
theorem ggX6_unlearn_X6_makesKnown : GoodIn wsX6_unlearn wsX6_makesKnown := goodIn_r _ [5, 6, 7, 8, 4, 9, 10, 11, 12, 13, 14, 15, 16, 17, 18, 19, 20, 21, 22, 23, 24, 25, 26, 27, 28, 29, 30, 31, 32, 33, 34, 35, 36, 37, 38, 39, 40] (by decide +kernel) (by decide +kernel)
set_option maxRecDepth 20000 in
theorem gX6_unlearn_X6_makesKnown : GoodIn wsX6_unlearn (wsV RX6 150 RX6 yX6_makesKnown wsX6_makesKnown) := goodIn_app (goodIn_of _ (by decide +kernel)) ggX6_unlearn_X6_makesKnown
theorem dX6_unlearn_0 : decode cX6_unlearn 0 = .ok (.aload_n 0, 1) := by decide +kernel
theorem dX6_unlearn_1 : decode cX6_unlearn 1 = .ok (.iload_n 1, 1) := by decide +kernel
theorem dX6_unlearn_2 : decode cX6_unlearn 2 = .ok (.iload_n 2, 1) := by decide +kernel
theorem dX6_unlearn_3 : decode cX6_unlearn 3 = .ok (.iconst 0, 1) := by decide +kernel
theorem dX6_unlearn_4 : decode cX6_unlearn 4 = .ok (.invokevirtual 150, 3) := by decide +kernel
theorem dX6_unlearn_7 : decode cX6_unlearn 7 = .ok (.ireturn, 1) := by decide +kernel
set_option maxRecDepth 20000 in
theorem ggX6_attend_X6_isHearer : GoodIn wsX6_attend wsX6_isHearer := goodIn_r _ [5, 6, 7, 4, 8] (by decide +kernel) (by decide +kernel)
set_option maxRecDepth 20000 in
theorem gX6_attend_X6_isHearer : GoodIn wsX6_attend (va_wsS RX6 141 yX6_isHearer wsX6_isHearer) := goodIn_app (goodIn_of _ (by decide +kernel)) ggX6_attend_X6_isHearer
set_option maxRecDepth 20000 in
theorem ggX6_attend_X6_in : GoodIn wsX6_attend wsX6_in := goodIn_r _ [8] (by decide +kernel) (by decide +kernel)
set_option maxRecDepth 20000 in
theorem gX6_attend_X6_in : GoodIn wsX6_attend (va_wsS RX6 32 yX6_in wsX6_in) := goodIn_app (goodIn_of _ (by decide +kernel)) ggX6_attend_X6_in
set_option maxRecDepth 20000 in
theorem ggX6_attend_X6_record : GoodIn wsX6_attend wsX6_record := goodIn_r _ [12, 13, 14, 1, 15, 16, 17, 18, 19, 20, 21, 22, 23, 24, 25, 26, 27, 28, 29, 30, 31, 32] (by decide +kernel) (by decide +kernel)
set_option maxRecDepth 20000 in
theorem gX6_attend_X6_record : GoodIn wsX6_attend (wsV RX6 144 RX6 yX6_record wsX6_record) := goodIn_app (goodIn_of _ (by decide +kernel)) ggX6_attend_X6_record
theorem dX6_attend_0 : decode cX6_attend 0 = .ok (.iload_n 1, 1) := by decide +kernel
theorem dX6_attend_1 : decode cX6_attend 1 = .ok (.invokestatic 141, 3) := by decide +kernel
theorem dX6_attend_4 : decode cX6_attend 4 = .ok (.ifCond .ne 5, 3) := by decide +kernel
theorem dX6_attend_7 : decode cX6_attend 7 = .ok (.iconst (-1), 1) := by decide +kernel
theorem dX6_attend_8 : decode cX6_attend 8 = .ok (.ireturn, 1) := by decide +kernel
theorem dX6_attend_9 : decode cX6_attend 9 = .ok (.iload_n 2, 1) := by decide +kernel
theorem dX6_attend_10 : decode cX6_attend 10 = .ok (.iconst 1, 1) := by decide +kernel
theorem dX6_attend_11 : decode cX6_attend 11 = .ok (.bipush 12, 2) := by decide +kernel
theorem dX6_attend_13 : decode cX6_attend 13 = .ok (.invokestatic 32, 3) := by decide +kernel
theorem dX6_attend_16 : decode cX6_attend 16 = .ok (.ifCond .ne 6, 3) := by decide +kernel
theorem dX6_attend_19 : decode cX6_attend 19 = .ok (.bipush (-2), 2) := by decide +kernel
theorem dX6_attend_21 : decode cX6_attend 21 = .ok (.ireturn, 1) := by decide +kernel
theorem dX6_attend_22 : decode cX6_attend 22 = .ok (.aload_n 0, 1) := by decide +kernel
theorem dX6_attend_23 : decode cX6_attend 23 = .ok (.invokevirtual 144, 3) := by decide +kernel
theorem dX6_attend_26 : decode cX6_attend 26 = .ok (.aload_n 0, 1) := by decide +kernel
theorem dX6_attend_27 : decode cX6_attend 27 = .ok (.getfield 7, 3) := by decide +kernel
theorem dX6_attend_30 : decode cX6_attend 30 = .ok (.bipush 9, 2) := by decide +kernel
theorem dX6_attend_32 : decode cX6_attend 32 = .ok (.iload_n 1, 1) := by decide +kernel
theorem dX6_attend_33 : decode cX6_attend 33 = .ok (.imul, 1) := by decide +kernel
theorem dX6_attend_34 : decode cX6_attend 34 = .ok (.bipush 6, 2) := by decide +kernel
theorem dX6_attend_36 : decode cX6_attend 36 = .ok (.iadd, 1) := by decide +kernel
theorem dX6_attend_37 : decode cX6_attend 37 = .ok (.iaload, 1) := by decide +kernel
theorem dX6_attend_38 : decode cX6_attend 38 = .ok (.istore_n 3, 1) := by decide +kernel
theorem dX6_attend_39 : decode cX6_attend 39 = .ok (.aload_n 0, 1) := by decide +kernel
theorem dX6_attend_40 : decode cX6_attend 40 = .ok (.getfield 7, 3) := by decide +kernel
theorem dX6_attend_43 : decode cX6_attend 43 = .ok (.bipush 9, 2) := by decide +kernel
theorem dX6_attend_45 : decode cX6_attend 45 = .ok (.iload_n 1, 1) := by decide +kernel
theorem dX6_attend_46 : decode cX6_attend 46 = .ok (.imul, 1) := by decide +kernel
theorem dX6_attend_47 : decode cX6_attend 47 = .ok (.bipush 6, 2) := by decide +kernel
theorem dX6_attend_49 : decode cX6_attend 49 = .ok (.iadd, 1) := by decide +kernel
theorem dX6_attend_50 : decode cX6_attend 50 = .ok (.iload_n 2, 1) := by decide +kernel
theorem dX6_attend_51 : decode cX6_attend 51 = .ok (.iastore, 1) := by decide +kernel
theorem dX6_attend_52 : decode cX6_attend 52 = .ok (.iload_n 3, 1) := by decide +kernel
theorem dX6_attend_53 : decode cX6_attend 53 = .ok (.ireturn, 1) := by decide +kernel
set_option maxRecDepth 20000 in
theorem ggX6_set_X6_in : GoodIn wsX6_set wsX6_in := goodIn_r _ [5] (by decide +kernel) (by decide +kernel)
set_option maxRecDepth 20000 in
theorem gX6_set_X6_in : GoodIn wsX6_set (va_wsS RX6 32 yX6_in wsX6_in) := goodIn_app (goodIn_of _ (by decide +kernel)) ggX6_set_X6_in
set_option maxRecDepth 20000 in
theorem ggX6_set_X6_record : GoodIn wsX6_set wsX6_record := goodIn_r _ [9, 10, 11, 1, 12, 13, 14, 15, 16, 17, 18, 19, 20, 21, 22, 23, 24, 25, 26, 27, 28, 29] (by decide +kernel) (by decide +kernel)
set_option maxRecDepth 20000 in
theorem gX6_set_X6_record : GoodIn wsX6_set (wsV RX6 144 RX6 yX6_record wsX6_record) := goodIn_app (goodIn_of _ (by decide +kernel)) ggX6_set_X6_record
theorem dX6_set_0 : decode cX6_set 0 = .ok (.iload_n 1, 1) := by decide +kernel
theorem dX6_set_1 : decode cX6_set 1 = .ok (.iconst 1, 1) := by decide +kernel
theorem dX6_set_2 : decode cX6_set 2 = .ok (.bipush 9, 2) := by decide +kernel
theorem dX6_set_4 : decode cX6_set 4 = .ok (.invokestatic 32, 3) := by decide +kernel
theorem dX6_set_7 : decode cX6_set 7 = .ok (.ifCond .ne 6, 3) := by decide +kernel
theorem dX6_set_10 : decode cX6_set 10 = .ok (.bipush (-2), 2) := by decide +kernel
theorem dX6_set_12 : decode cX6_set 12 = .ok (.ireturn, 1) := by decide +kernel
theorem dX6_set_13 : decode cX6_set 13 = .ok (.aload_n 0, 1) := by decide +kernel
theorem dX6_set_14 : decode cX6_set 14 = .ok (.invokevirtual 144, 3) := by decide +kernel
theorem dX6_set_17 : decode cX6_set 17 = .ok (.aload_n 0, 1) := by decide +kernel
theorem dX6_set_18 : decode cX6_set 18 = .ok (.getfield 7, 3) := by decide +kernel
theorem dX6_set_21 : decode cX6_set 21 = .ok (.bipush 54, 2) := by decide +kernel
theorem dX6_set_23 : decode cX6_set 23 = .ok (.iaload, 1) := by decide +kernel
theorem dX6_set_24 : decode cX6_set 24 = .ok (.istore_n 2, 1) := by decide +kernel
theorem dX6_set_25 : decode cX6_set 25 = .ok (.aload_n 0, 1) := by decide +kernel
theorem dX6_set_26 : decode cX6_set 26 = .ok (.getfield 7, 3) := by decide +kernel
theorem dX6_set_29 : decode cX6_set 29 = .ok (.bipush 54, 2) := by decide +kernel
theorem dX6_set_31 : decode cX6_set 31 = .ok (.iload_n 1, 1) := by decide +kernel
theorem dX6_set_32 : decode cX6_set 32 = .ok (.iastore, 1) := by decide +kernel
theorem dX6_set_33 : decode cX6_set 33 = .ok (.iload_n 2, 1) := by decide +kernel
theorem dX6_set_34 : decode cX6_set 34 = .ok (.ireturn, 1) := by decide +kernel
theorem dX6_saysWord_0 : decode cX6_saysWord 0 = .ok (.iconst 0, 1) := by decide +kernel
theorem dX6_saysWord_1 : decode cX6_saysWord 1 = .ok (.istore_n 3, 1) := by decide +kernel
theorem dX6_saysWord_2 : decode cX6_saysWord 2 = .ok (.iconst 0, 1) := by decide +kernel
theorem dX6_saysWord_3 : decode cX6_saysWord 3 = .ok (.istore 4, 2) := by decide +kernel
theorem dX6_saysWord_5 : decode cX6_saysWord 5 = .ok (.iload 4, 2) := by decide +kernel
theorem dX6_saysWord_7 : decode cX6_saysWord 7 = .ok (.iload_n 2, 1) := by decide +kernel
theorem dX6_saysWord_8 : decode cX6_saysWord 8 = .ok (.if_icmp .ge 30, 3) := by decide +kernel
theorem dX6_saysWord_11 : decode cX6_saysWord 11 = .ok (.iload_n 3, 1) := by decide +kernel
theorem dX6_saysWord_12 : decode cX6_saysWord 12 = .ok (.ifCond .ne 14, 3) := by decide +kernel
theorem dX6_saysWord_15 : decode cX6_saysWord 15 = .ok (.aload_n 0, 1) := by decide +kernel
theorem dX6_saysWord_16 : decode cX6_saysWord 16 = .ok (.getfield 16, 3) := by decide +kernel
theorem dX6_saysWord_19 : decode cX6_saysWord 19 = .ok (.iload 4, 2) := by decide +kernel
theorem dX6_saysWord_21 : decode cX6_saysWord 21 = .ok (.caload, 1) := by decide +kernel
theorem dX6_saysWord_22 : decode cX6_saysWord 22 = .ok (.iload_n 1, 1) := by decide +kernel
theorem dX6_saysWord_23 : decode cX6_saysWord 23 = .ok (.if_icmp .ne 7, 3) := by decide +kernel
theorem dX6_saysWord_26 : decode cX6_saysWord 26 = .ok (.iconst 1, 1) := by decide +kernel
theorem dX6_saysWord_27 : decode cX6_saysWord 27 = .ok (.goto 4, 3) := by decide +kernel
theorem dX6_saysWord_30 : decode cX6_saysWord 30 = .ok (.iconst 0, 1) := by decide +kernel
theorem dX6_saysWord_31 : decode cX6_saysWord 31 = .ok (.istore_n 3, 1) := by decide +kernel
theorem dX6_saysWord_32 : decode cX6_saysWord 32 = .ok (.iinc 4 1, 3) := by decide +kernel
theorem dX6_saysWord_35 : decode cX6_saysWord 35 = .ok (.goto (-30), 3) := by decide +kernel
theorem dX6_saysWord_38 : decode cX6_saysWord 38 = .ok (.iload_n 3, 1) := by decide +kernel
theorem dX6_saysWord_39 : decode cX6_saysWord 39 = .ok (.ireturn, 1) := by decide +kernel
theorem dX6_doubts_0 : decode cX6_doubts 0 = .ok (.bipush 9, 2) := by decide +kernel
theorem dX6_doubts_2 : decode cX6_doubts 2 = .ok (.iload_n 1, 1) := by decide +kernel
theorem dX6_doubts_3 : decode cX6_doubts 3 = .ok (.imul, 1) := by decide +kernel
theorem dX6_doubts_4 : decode cX6_doubts 4 = .ok (.istore_n 3, 1) := by decide +kernel
theorem dX6_doubts_5 : decode cX6_doubts 5 = .ok (.aload_n 0, 1) := by decide +kernel
theorem dX6_doubts_6 : decode cX6_doubts 6 = .ok (.getfield 7, 3) := by decide +kernel
theorem dX6_doubts_9 : decode cX6_doubts 9 = .ok (.iload_n 3, 1) := by decide +kernel
theorem dX6_doubts_10 : decode cX6_doubts 10 = .ok (.iload_n 2, 1) := by decide +kernel
theorem dX6_doubts_11 : decode cX6_doubts 11 = .ok (.iadd, 1) := by decide +kernel
theorem dX6_doubts_12 : decode cX6_doubts 12 = .ok (.iaload, 1) := by decide +kernel
theorem dX6_doubts_13 : decode cX6_doubts 13 = .ok (.iconst 1, 1) := by decide +kernel
theorem dX6_doubts_14 : decode cX6_doubts 14 = .ok (.if_icmp .ne 5, 3) := by decide +kernel
theorem dX6_doubts_17 : decode cX6_doubts 17 = .ok (.iconst 0, 1) := by decide +kernel
theorem dX6_doubts_18 : decode cX6_doubts 18 = .ok (.ireturn, 1) := by decide +kernel
theorem dX6_doubts_19 : decode cX6_doubts 19 = .ok (.aload_n 0, 1) := by decide +kernel
theorem dX6_doubts_20 : decode cX6_doubts 20 = .ok (.getfield 7, 3) := by decide +kernel
theorem dX6_doubts_23 : decode cX6_doubts 23 = .ok (.iload_n 3, 1) := by decide +kernel
theorem dX6_doubts_24 : decode cX6_doubts 24 = .ok (.iconst 3, 1) := by decide +kernel
theorem dX6_doubts_25 : decode cX6_doubts 25 = .ok (.iadd, 1) := by decide +kernel
theorem dX6_doubts_26 : decode cX6_doubts 26 = .ok (.iload_n 2, 1) := by decide +kernel
theorem dX6_doubts_27 : decode cX6_doubts 27 = .ok (.iadd, 1) := by decide +kernel
theorem dX6_doubts_28 : decode cX6_doubts 28 = .ok (.dup2, 1) := by decide +kernel
theorem dX6_doubts_29 : decode cX6_doubts 29 = .ok (.iaload, 1) := by decide +kernel
theorem dX6_doubts_30 : decode cX6_doubts 30 = .ok (.iconst 1, 1) := by decide +kernel
theorem dX6_doubts_31 : decode cX6_doubts 31 = .ok (.iadd, 1) := by decide +kernel
theorem dX6_doubts_32 : decode cX6_doubts 32 = .ok (.iastore, 1) := by decide +kernel
theorem dX6_doubts_33 : decode cX6_doubts 33 = .ok (.aload_n 0, 1) := by decide +kernel
theorem dX6_doubts_34 : decode cX6_doubts 34 = .ok (.getfield 7, 3) := by decide +kernel
theorem dX6_doubts_37 : decode cX6_doubts 37 = .ok (.iload_n 3, 1) := by decide +kernel
theorem dX6_doubts_38 : decode cX6_doubts 38 = .ok (.iconst 3, 1) := by decide +kernel
theorem dX6_doubts_39 : decode cX6_doubts 39 = .ok (.iadd, 1) := by decide +kernel
theorem dX6_doubts_40 : decode cX6_doubts 40 = .ok (.iload_n 2, 1) := by decide +kernel
theorem dX6_doubts_41 : decode cX6_doubts 41 = .ok (.iadd, 1) := by decide +kernel
theorem dX6_doubts_42 : decode cX6_doubts 42 = .ok (.iaload, 1) := by decide +kernel
theorem dX6_doubts_43 : decode cX6_doubts 43 = .ok (.aload_n 0, 1) := by decide +kernel
theorem dX6_doubts_44 : decode cX6_doubts 44 = .ok (.getfield 7, 3) := by decide +kernel
theorem dX6_doubts_47 : decode cX6_doubts 47 = .ok (.bipush 54, 2) := by decide +kernel
theorem dX6_doubts_49 : decode cX6_doubts 49 = .ok (.iaload, 1) := by decide +kernel
theorem dX6_doubts_50 : decode cX6_doubts 50 = .ok (.if_icmp .ge 5, 3) := by decide +kernel
theorem dX6_doubts_53 : decode cX6_doubts 53 = .ok (.iconst 0, 1) := by decide +kernel
theorem dX6_doubts_54 : decode cX6_doubts 54 = .ok (.ireturn, 1) := by decide +kernel
theorem dX6_doubts_55 : decode cX6_doubts 55 = .ok (.aload_n 0, 1) := by decide +kernel
theorem dX6_doubts_56 : decode cX6_doubts 56 = .ok (.getfield 7, 3) := by decide +kernel
theorem dX6_doubts_59 : decode cX6_doubts 59 = .ok (.iload_n 3, 1) := by decide +kernel
theorem dX6_doubts_60 : decode cX6_doubts 60 = .ok (.iload_n 2, 1) := by decide +kernel
theorem dX6_doubts_61 : decode cX6_doubts 61 = .ok (.iadd, 1) := by decide +kernel
theorem dX6_doubts_62 : decode cX6_doubts 62 = .ok (.iconst 1, 1) := by decide +kernel
theorem dX6_doubts_63 : decode cX6_doubts 63 = .ok (.iastore, 1) := by decide +kernel
theorem dX6_doubts_64 : decode cX6_doubts 64 = .ok (.aload_n 0, 1) := by decide +kernel
theorem dX6_doubts_65 : decode cX6_doubts 65 = .ok (.getfield 7, 3) := by decide +kernel
theorem dX6_doubts_68 : decode cX6_doubts 68 = .ok (.iload_n 3, 1) := by decide +kernel
theorem dX6_doubts_69 : decode cX6_doubts 69 = .ok (.iconst 3, 1) := by decide +kernel
theorem dX6_doubts_70 : decode cX6_doubts 70 = .ok (.iadd, 1) := by decide +kernel
theorem dX6_doubts_71 : decode cX6_doubts 71 = .ok (.iload_n 2, 1) := by decide +kernel
theorem dX6_doubts_72 : decode cX6_doubts 72 = .ok (.iadd, 1) := by decide +kernel
theorem dX6_doubts_73 : decode cX6_doubts 73 = .ok (.iconst 0, 1) := by decide +kernel
theorem dX6_doubts_74 : decode cX6_doubts 74 = .ok (.iastore, 1) := by decide +kernel
theorem dX6_doubts_75 : decode cX6_doubts 75 = .ok (.iconst 1, 1) := by decide +kernel
theorem dX6_doubts_76 : decode cX6_doubts 76 = .ok (.ireturn, 1) := by decide +kernel
theorem dX6_logs_0 : decode cX6_logs 0 = .ok (.aload_n 0, 1) := by decide +kernel
theorem dX6_logs_1 : decode cX6_logs 1 = .ok (.getfield 7, 3) := by decide +kernel
theorem dX6_logs_4 : decode cX6_logs 4 = .ok (.bipush 55, 2) := by decide +kernel
theorem dX6_logs_6 : decode cX6_logs 6 = .ok (.iaload, 1) := by decide +kernel
theorem dX6_logs_7 : decode cX6_logs 7 = .ok (.bipush 10, 2) := by decide +kernel
theorem dX6_logs_9 : decode cX6_logs 9 = .ok (.if_icmp .ne 47, 3) := by decide +kernel
theorem dX6_logs_12 : decode cX6_logs 12 = .ok (.bipush 56, 2) := by decide +kernel
theorem dX6_logs_14 : decode cX6_logs 14 = .ok (.istore 6, 2) := by decide +kernel
theorem dX6_logs_16 : decode cX6_logs 16 = .ok (.iload 6, 2) := by decide +kernel
theorem dX6_logs_18 : decode cX6_logs 18 = .ok (.bipush 101, 2) := by decide +kernel
theorem dX6_logs_20 : decode cX6_logs 20 = .ok (.if_icmp .ge 25, 3) := by decide +kernel
theorem dX6_logs_23 : decode cX6_logs 23 = .ok (.aload_n 0, 1) := by decide +kernel
theorem dX6_logs_24 : decode cX6_logs 24 = .ok (.getfield 7, 3) := by decide +kernel
theorem dX6_logs_27 : decode cX6_logs 27 = .ok (.iload 6, 2) := by decide +kernel
theorem dX6_logs_29 : decode cX6_logs 29 = .ok (.aload_n 0, 1) := by decide +kernel
theorem dX6_logs_30 : decode cX6_logs 30 = .ok (.getfield 7, 3) := by decide +kernel
theorem dX6_logs_33 : decode cX6_logs 33 = .ok (.iload 6, 2) := by decide +kernel
theorem dX6_logs_35 : decode cX6_logs 35 = .ok (.iconst 5, 1) := by decide +kernel
theorem dX6_logs_36 : decode cX6_logs 36 = .ok (.iadd, 1) := by decide +kernel
theorem dX6_logs_37 : decode cX6_logs 37 = .ok (.iaload, 1) := by decide +kernel
theorem dX6_logs_38 : decode cX6_logs 38 = .ok (.iastore, 1) := by decide +kernel
theorem dX6_logs_39 : decode cX6_logs 39 = .ok (.iinc 6 1, 3) := by decide +kernel
theorem dX6_logs_42 : decode cX6_logs 42 = .ok (.goto (-26), 3) := by decide +kernel
theorem dX6_logs_45 : decode cX6_logs 45 = .ok (.aload_n 0, 1) := by decide +kernel
theorem dX6_logs_46 : decode cX6_logs 46 = .ok (.getfield 7, 3) := by decide +kernel
theorem dX6_logs_49 : decode cX6_logs 49 = .ok (.bipush 55, 2) := by decide +kernel
theorem dX6_logs_51 : decode cX6_logs 51 = .ok (.dup2, 1) := by decide +kernel
theorem dX6_logs_52 : decode cX6_logs 52 = .ok (.iaload, 1) := by decide +kernel
theorem dX6_logs_53 : decode cX6_logs 53 = .ok (.iconst 1, 1) := by decide +kernel
theorem dX6_logs_54 : decode cX6_logs 54 = .ok (.isub, 1) := by decide +kernel
theorem dX6_logs_55 : decode cX6_logs 55 = .ok (.iastore, 1) := by decide +kernel
theorem dX6_logs_56 : decode cX6_logs 56 = .ok (.bipush 56, 2) := by decide +kernel
theorem dX6_logs_58 : decode cX6_logs 58 = .ok (.iconst 5, 1) := by decide +kernel
theorem dX6_logs_59 : decode cX6_logs 59 = .ok (.aload_n 0, 1) := by decide +kernel
theorem dX6_logs_60 : decode cX6_logs 60 = .ok (.getfield 7, 3) := by decide +kernel
theorem dX6_logs_63 : decode cX6_logs 63 = .ok (.bipush 55, 2) := by decide +kernel
theorem dX6_logs_65 : decode cX6_logs 65 = .ok (.iaload, 1) := by decide +kernel
theorem dX6_logs_66 : decode cX6_logs 66 = .ok (.imul, 1) := by decide +kernel
theorem dX6_logs_67 : decode cX6_logs 67 = .ok (.iadd, 1) := by decide +kernel
theorem dX6_logs_68 : decode cX6_logs 68 = .ok (.istore 6, 2) := by decide +kernel
theorem dX6_logs_70 : decode cX6_logs 70 = .ok (.aload_n 0, 1) := by decide +kernel
theorem dX6_logs_71 : decode cX6_logs 71 = .ok (.getfield 7, 3) := by decide +kernel
theorem dX6_logs_74 : decode cX6_logs 74 = .ok (.iload 6, 2) := by decide +kernel
theorem dX6_logs_76 : decode cX6_logs 76 = .ok (.iload_n 1, 1) := by decide +kernel
theorem dX6_logs_77 : decode cX6_logs 77 = .ok (.iastore, 1) := by decide +kernel
theorem dX6_logs_78 : decode cX6_logs 78 = .ok (.aload_n 0, 1) := by decide +kernel
theorem dX6_logs_79 : decode cX6_logs 79 = .ok (.getfield 7, 3) := by decide +kernel
theorem dX6_logs_82 : decode cX6_logs 82 = .ok (.iload 6, 2) := by decide +kernel
theorem dX6_logs_84 : decode cX6_logs 84 = .ok (.iconst 1, 1) := by decide +kernel
theorem dX6_logs_85 : decode cX6_logs 85 = .ok (.iadd, 1) := by decide +kernel
theorem dX6_logs_86 : decode cX6_logs 86 = .ok (.iload_n 2, 1) := by decide +kernel
theorem dX6_logs_87 : decode cX6_logs 87 = .ok (.iastore, 1) := by decide +kernel
theorem dX6_logs_88 : decode cX6_logs 88 = .ok (.aload_n 0, 1) := by decide +kernel
theorem dX6_logs_89 : decode cX6_logs 89 = .ok (.getfield 7, 3) := by decide +kernel
theorem dX6_logs_92 : decode cX6_logs 92 = .ok (.iload 6, 2) := by decide +kernel
theorem dX6_logs_94 : decode cX6_logs 94 = .ok (.iconst 2, 1) := by decide +kernel
theorem dX6_logs_95 : decode cX6_logs 95 = .ok (.iadd, 1) := by decide +kernel
theorem dX6_logs_96 : decode cX6_logs 96 = .ok (.iload_n 3, 1) := by decide +kernel
theorem dX6_logs_97 : decode cX6_logs 97 = .ok (.iastore, 1) := by decide +kernel
theorem dX6_logs_98 : decode cX6_logs 98 = .ok (.aload_n 0, 1) := by decide +kernel
theorem dX6_logs_99 : decode cX6_logs 99 = .ok (.getfield 7, 3) := by decide +kernel
theorem dX6_logs_102 : decode cX6_logs 102 = .ok (.iload 6, 2) := by decide +kernel
theorem dX6_logs_104 : decode cX6_logs 104 = .ok (.iconst 3, 1) := by decide +kernel
theorem dX6_logs_105 : decode cX6_logs 105 = .ok (.iadd, 1) := by decide +kernel
theorem dX6_logs_106 : decode cX6_logs 106 = .ok (.iload 4, 2) := by decide +kernel
theorem dX6_logs_108 : decode cX6_logs 108 = .ok (.iastore, 1) := by decide +kernel
theorem dX6_logs_109 : decode cX6_logs 109 = .ok (.aload_n 0, 1) := by decide +kernel
theorem dX6_logs_110 : decode cX6_logs 110 = .ok (.getfield 7, 3) := by decide +kernel
theorem dX6_logs_113 : decode cX6_logs 113 = .ok (.iload 6, 2) := by decide +kernel
theorem dX6_logs_115 : decode cX6_logs 115 = .ok (.iconst 4, 1) := by decide +kernel
theorem dX6_logs_116 : decode cX6_logs 116 = .ok (.iadd, 1) := by decide +kernel
theorem dX6_logs_117 : decode cX6_logs 117 = .ok (.iload 5, 2) := by decide +kernel
theorem dX6_logs_119 : decode cX6_logs 119 = .ok (.ifCond .le 7, 3) := by decide +kernel
theorem dX6_logs_122 : decode cX6_logs 122 = .ok (.iconst 1, 1) := by decide +kernel
theorem dX6_logs_123 : decode cX6_logs 123 = .ok (.goto 4, 3) := by decide +kernel
theorem dX6_logs_126 : decode cX6_logs 126 = .ok (.iconst 0, 1) := by decide +kernel
theorem dX6_logs_127 : decode cX6_logs 127 = .ok (.iastore, 1) := by decide +kernel
theorem dX6_logs_128 : decode cX6_logs 128 = .ok (.aload_n 0, 1) := by decide +kernel
theorem dX6_logs_129 : decode cX6_logs 129 = .ok (.getfield 7, 3) := by decide +kernel
theorem dX6_logs_132 : decode cX6_logs 132 = .ok (.bipush 55, 2) := by decide +kernel
theorem dX6_logs_134 : decode cX6_logs 134 = .ok (.dup2, 1) := by decide +kernel
theorem dX6_logs_135 : decode cX6_logs 135 = .ok (.iaload, 1) := by decide +kernel
theorem dX6_logs_136 : decode cX6_logs 136 = .ok (.iconst 1, 1) := by decide +kernel
theorem dX6_logs_137 : decode cX6_logs 137 = .ok (.iadd, 1) := by decide +kernel
theorem dX6_logs_138 : decode cX6_logs 138 = .ok (.iastore, 1) := by decide +kernel
theorem dX6_logs_139 : decode cX6_logs 139 = .ok (.return_, 1) := by decide +kernel
set_option maxRecDepth 20000 in
theorem ggX6_tells_X6_record : GoodIn wsX6_tells wsX6_record := goodIn_r _ [6, 7, 8, 1, 82, 83, 84, 85, 86, 87, 88, 89, 90, 91, 92, 93, 94, 95, 96, 97, 98, 99] (by decide +kernel) (by decide +kernel)
set_option maxRecDepth 20000 in
theorem gX6_tells_X6_record : GoodIn wsX6_tells (wsV RX6 144 RX6 yX6_record wsX6_record) := goodIn_app (goodIn_of _ (by decide +kernel)) ggX6_tells_X6_record
set_option maxRecDepth 20000 in
theorem ggX6_tells_X6_understands : GoodIn wsX6_tells wsX6_understands := goodIn_r _ [12, 1, 13, 14, 15, 5, 16, 17, 18, 19, 20, 21, 22, 23, 24, 25, 26, 27, 28, 29, 30, 31, 32, 33, 34, 35, 36, 37, 38, 39, 40, 41, 42, 43, 44, 45, 46, 47, 48, 49, 50, 51, 52, 53, 54, 55, 56, 57, 58, 59, 60, 61, 62, 63, 64, 65, 66, 67, 68, 69, 82, 83, 84, 85, 86, 87, 88, 89, 90, 91, 92, 93, 94, 95, 96, 97, 98, 99] (by decide +kernel) (by decide +kernel)
set_option maxRecDepth 20000 in
theorem gX6_tells_X6_understands : GoodIn wsX6_tells (wsV RX6 154 RX6 yX6_understands wsX6_understands) := goodIn_app (goodIn_of _ (by decide +kernel)) ggX6_tells_X6_understands
set_option maxRecDepth 20000 in
theorem ggX6_tells_X6_saysWord : GoodIn wsX6_tells wsX6_saysWord := goodIn_r _ [73, 37, 82, 83, 84, 85, 86, 87, 88, 89, 90, 91, 92, 93, 94, 95, 96, 97, 98, 99] (by decide +kernel) (by decide +kernel)
set_option maxRecDepth 20000 in
theorem gX6_tells_X6_saysWord : GoodIn wsX6_tells (wsV RX6 158 RX6 yX6_saysWord wsX6_saysWord) := goodIn_app (goodIn_of _ (by decide +kernel)) ggX6_tells_X6_saysWord
set_option maxRecDepth 20000 in
theorem ggX6_tells_X6_doubts : GoodIn wsX6_tells wsX6_doubts := goodIn_r _ [77, 1, 82, 83, 84, 85, 86, 87, 88, 89, 90, 91, 92, 93, 94, 95, 96, 97, 98, 99] (by decide +kernel) (by decide +kernel)
set_option maxRecDepth 20000 in
theorem gX6_tells_X6_doubts : GoodIn wsX6_tells (wsV RX6 162 RX6 yX6_doubts wsX6_doubts) := goodIn_app (goodIn_of _ (by decide +kernel)) ggX6_tells_X6_doubts
set_option maxRecDepth 20000 in
theorem ggX6_tells_X6_logs : GoodIn wsX6_tells wsX6_logs := goodIn_r _ [81, 1, 82, 83, 84, 85, 86, 87, 88, 89, 90, 91, 92, 93, 94, 95, 96, 97, 98, 99] (by decide +kernel) (by decide +kernel)
set_option maxRecDepth 20000 in
theorem gX6_tells_X6_logs : GoodIn wsX6_tells (wsV RX6 165 RX6 yX6_logs wsX6_logs) := goodIn_app (goodIn_of _ (by decide +kernel)) ggX6_tells_X6_logs
theorem dX6_tells_0 : decode cX6_tells 0 = .ok (.aload_n 0, 1) := by decide +kernel
theorem dX6_tells_1 : decode cX6_tells 1 = .ok (.invokevirtual 144, 3) := by decide +kernel
theorem dX6_tells_4 : decode cX6_tells 4 = .ok (.aload_n 0, 1) := by decide +kernel
theorem dX6_tells_5 : decode cX6_tells 5 = .ok (.iload_n 1, 1) := by decide +kernel
theorem dX6_tells_6 : decode cX6_tells 6 = .ok (.iload_n 3, 1) := by decide +kernel
theorem dX6_tells_7 : decode cX6_tells 7 = .ok (.invokevirtual 154, 3) := by decide +kernel
theorem dX6_tells_10 : decode cX6_tells 10 = .ok (.istore 4, 2) := by decide +kernel
theorem dX6_tells_12 : decode cX6_tells 12 = .ok (.iconst 0, 1) := by decide +kernel
theorem dX6_tells_13 : decode cX6_tells 13 = .ok (.istore 5, 2) := by decide +kernel
theorem dX6_tells_15 : decode cX6_tells 15 = .ok (.aload_n 0, 1) := by decide +kernel
theorem dX6_tells_16 : decode cX6_tells 16 = .ok (.getfield 7, 3) := by decide +kernel
theorem dX6_tells_19 : decode cX6_tells 19 = .ok (.bipush 9, 2) := by decide +kernel
theorem dX6_tells_21 : decode cX6_tells 21 = .ok (.iload_n 1, 1) := by decide +kernel
theorem dX6_tells_22 : decode cX6_tells 22 = .ok (.imul, 1) := by decide +kernel
theorem dX6_tells_23 : decode cX6_tells 23 = .ok (.bipush 7, 2) := by decide +kernel
theorem dX6_tells_25 : decode cX6_tells 25 = .ok (.iadd, 1) := by decide +kernel
theorem dX6_tells_26 : decode cX6_tells 26 = .ok (.dup2, 1) := by decide +kernel
theorem dX6_tells_27 : decode cX6_tells 27 = .ok (.iaload, 1) := by decide +kernel
theorem dX6_tells_28 : decode cX6_tells 28 = .ok (.iconst 1, 1) := by decide +kernel
theorem dX6_tells_29 : decode cX6_tells 29 = .ok (.iadd, 1) := by decide +kernel
theorem dX6_tells_30 : decode cX6_tells 30 = .ok (.iastore, 1) := by decide +kernel
theorem dX6_tells_31 : decode cX6_tells 31 = .ok (.iload 4, 2) := by decide +kernel
theorem dX6_tells_33 : decode cX6_tells 33 = .ok (.iload_n 2, 1) := by decide +kernel
theorem dX6_tells_34 : decode cX6_tells 34 = .ok (.if_icmp .eq 94, 3) := by decide +kernel
theorem dX6_tells_37 : decode cX6_tells 37 = .ok (.aload_n 0, 1) := by decide +kernel
theorem dX6_tells_38 : decode cX6_tells 38 = .ok (.getfield 7, 3) := by decide +kernel
theorem dX6_tells_41 : decode cX6_tells 41 = .ok (.bipush 9, 2) := by decide +kernel
theorem dX6_tells_43 : decode cX6_tells 43 = .ok (.iload_n 1, 1) := by decide +kernel
theorem dX6_tells_44 : decode cX6_tells 44 = .ok (.imul, 1) := by decide +kernel
theorem dX6_tells_45 : decode cX6_tells 45 = .ok (.bipush 8, 2) := by decide +kernel
theorem dX6_tells_47 : decode cX6_tells 47 = .ok (.iadd, 1) := by decide +kernel
theorem dX6_tells_48 : decode cX6_tells 48 = .ok (.dup2, 1) := by decide +kernel
theorem dX6_tells_49 : decode cX6_tells 49 = .ok (.iaload, 1) := by decide +kernel
theorem dX6_tells_50 : decode cX6_tells 50 = .ok (.iconst 1, 1) := by decide +kernel
theorem dX6_tells_51 : decode cX6_tells 51 = .ok (.iadd, 1) := by decide +kernel
theorem dX6_tells_52 : decode cX6_tells 52 = .ok (.iastore, 1) := by decide +kernel
theorem dX6_tells_53 : decode cX6_tells 53 = .ok (.iload 5, 2) := by decide +kernel
theorem dX6_tells_55 : decode cX6_tells 55 = .ok (.aload_n 0, 1) := by decide +kernel
theorem dX6_tells_56 : decode cX6_tells 56 = .ok (.bipush 72, 2) := by decide +kernel
theorem dX6_tells_58 : decode cX6_tells 58 = .ok (.iload_n 3, 1) := by decide +kernel
theorem dX6_tells_59 : decode cX6_tells 59 = .ok (.invokevirtual 158, 3) := by decide +kernel
theorem dX6_tells_62 : decode cX6_tells 62 = .ok (.ifCond .eq 12, 3) := by decide +kernel
theorem dX6_tells_65 : decode cX6_tells 65 = .ok (.aload_n 0, 1) := by decide +kernel
theorem dX6_tells_66 : decode cX6_tells 66 = .ok (.iload_n 1, 1) := by decide +kernel
theorem dX6_tells_67 : decode cX6_tells 67 = .ok (.iconst 0, 1) := by decide +kernel
theorem dX6_tells_68 : decode cX6_tells 68 = .ok (.invokevirtual 162, 3) := by decide +kernel
theorem dX6_tells_71 : decode cX6_tells 71 = .ok (.goto 4, 3) := by decide +kernel
theorem dX6_tells_74 : decode cX6_tells 74 = .ok (.iconst 0, 1) := by decide +kernel
theorem dX6_tells_75 : decode cX6_tells 75 = .ok (.iadd, 1) := by decide +kernel
theorem dX6_tells_76 : decode cX6_tells 76 = .ok (.istore 5, 2) := by decide +kernel
theorem dX6_tells_78 : decode cX6_tells 78 = .ok (.iload 5, 2) := by decide +kernel
theorem dX6_tells_80 : decode cX6_tells 80 = .ok (.aload_n 0, 1) := by decide +kernel
theorem dX6_tells_81 : decode cX6_tells 81 = .ok (.bipush 45, 2) := by decide +kernel
theorem dX6_tells_83 : decode cX6_tells 83 = .ok (.iload_n 3, 1) := by decide +kernel
theorem dX6_tells_84 : decode cX6_tells 84 = .ok (.invokevirtual 158, 3) := by decide +kernel
theorem dX6_tells_87 : decode cX6_tells 87 = .ok (.ifCond .eq 12, 3) := by decide +kernel
theorem dX6_tells_90 : decode cX6_tells 90 = .ok (.aload_n 0, 1) := by decide +kernel
theorem dX6_tells_91 : decode cX6_tells 91 = .ok (.iload_n 1, 1) := by decide +kernel
theorem dX6_tells_92 : decode cX6_tells 92 = .ok (.iconst 1, 1) := by decide +kernel
theorem dX6_tells_93 : decode cX6_tells 93 = .ok (.invokevirtual 162, 3) := by decide +kernel
theorem dX6_tells_96 : decode cX6_tells 96 = .ok (.goto 4, 3) := by decide +kernel
theorem dX6_tells_99 : decode cX6_tells 99 = .ok (.iconst 0, 1) := by decide +kernel
theorem dX6_tells_100 : decode cX6_tells 100 = .ok (.iadd, 1) := by decide +kernel
theorem dX6_tells_101 : decode cX6_tells 101 = .ok (.istore 5, 2) := by decide +kernel
theorem dX6_tells_103 : decode cX6_tells 103 = .ok (.iload 5, 2) := by decide +kernel
theorem dX6_tells_105 : decode cX6_tells 105 = .ok (.aload_n 0, 1) := by decide +kernel
theorem dX6_tells_106 : decode cX6_tells 106 = .ok (.bipush 71, 2) := by decide +kernel
theorem dX6_tells_108 : decode cX6_tells 108 = .ok (.iload_n 3, 1) := by decide +kernel
theorem dX6_tells_109 : decode cX6_tells 109 = .ok (.invokevirtual 158, 3) := by decide +kernel
theorem dX6_tells_112 : decode cX6_tells 112 = .ok (.ifCond .eq 12, 3) := by decide +kernel
theorem dX6_tells_115 : decode cX6_tells 115 = .ok (.aload_n 0, 1) := by decide +kernel
theorem dX6_tells_116 : decode cX6_tells 116 = .ok (.iload_n 1, 1) := by decide +kernel
theorem dX6_tells_117 : decode cX6_tells 117 = .ok (.iconst 2, 1) := by decide +kernel
theorem dX6_tells_118 : decode cX6_tells 118 = .ok (.invokevirtual 162, 3) := by decide +kernel
theorem dX6_tells_121 : decode cX6_tells 121 = .ok (.goto 4, 3) := by decide +kernel
theorem dX6_tells_124 : decode cX6_tells 124 = .ok (.iconst 0, 1) := by decide +kernel
theorem dX6_tells_125 : decode cX6_tells 125 = .ok (.iadd, 1) := by decide +kernel
theorem dX6_tells_126 : decode cX6_tells 126 = .ok (.istore 5, 2) := by decide +kernel
theorem dX6_tells_128 : decode cX6_tells 128 = .ok (.aload_n 0, 1) := by decide +kernel
theorem dX6_tells_129 : decode cX6_tells 129 = .ok (.iload_n 1, 1) := by decide +kernel
theorem dX6_tells_130 : decode cX6_tells 130 = .ok (.iload_n 2, 1) := by decide +kernel
theorem dX6_tells_131 : decode cX6_tells 131 = .ok (.iload_n 3, 1) := by decide +kernel
theorem dX6_tells_132 : decode cX6_tells 132 = .ok (.iload 4, 2) := by decide +kernel
theorem dX6_tells_134 : decode cX6_tells 134 = .ok (.iload 5, 2) := by decide +kernel
theorem dX6_tells_136 : decode cX6_tells 136 = .ok (.invokevirtual 165, 3) := by decide +kernel
theorem dX6_tells_139 : decode cX6_tells 139 = .ok (.iload 4, 2) := by decide +kernel
theorem dX6_tells_141 : decode cX6_tells 141 = .ok (.iload_n 2, 1) := by decide +kernel
theorem dX6_tells_142 : decode cX6_tells 142 = .ok (.if_icmp .ne 7, 3) := by decide +kernel
theorem dX6_tells_145 : decode cX6_tells 145 = .ok (.iconst 1, 1) := by decide +kernel
theorem dX6_tells_146 : decode cX6_tells 146 = .ok (.goto 4, 3) := by decide +kernel
theorem dX6_tells_149 : decode cX6_tells 149 = .ok (.iconst 0, 1) := by decide +kernel
theorem dX6_tells_150 : decode cX6_tells 150 = .ok (.ireturn, 1) := by decide +kernel
set_option maxRecDepth 20000 in
theorem ggX6_tell_X6_isHearer : GoodIn wsX6_tell wsX6_isHearer := goodIn_r _ [4, 5, 6, 3, 7] (by decide +kernel) (by decide +kernel)
set_option maxRecDepth 20000 in
theorem gX6_tell_X6_isHearer : GoodIn wsX6_tell (va_wsS RX6 141 yX6_isHearer wsX6_isHearer) := goodIn_app (goodIn_of _ (by decide +kernel)) ggX6_tell_X6_isHearer
set_option maxRecDepth 20000 in
theorem ggX6_tell_X6_in : GoodIn wsX6_tell wsX6_in := goodIn_r _ [7] (by decide +kernel) (by decide +kernel)
set_option maxRecDepth 20000 in
theorem gX6_tell_X6_in : GoodIn wsX6_tell (va_wsS RX6 32 yX6_in wsX6_in) := goodIn_app (goodIn_of _ (by decide +kernel)) ggX6_tell_X6_in
set_option maxRecDepth 20000 in
theorem ggX6_tell_X6_isNumber : GoodIn wsX6_tell wsX6_isNumber := goodIn_r _ [10, 5, 6, 3, 7] (by decide +kernel) (by decide +kernel)
set_option maxRecDepth 20000 in
theorem gX6_tell_X6_isNumber : GoodIn wsX6_tell (va_wsS RX6 169 yX6_isNumber wsX6_isNumber) := goodIn_app (goodIn_of _ (by decide +kernel)) ggX6_tell_X6_isNumber
set_option maxRecDepth 20000 in
theorem ggX6_tell_X6_makes : GoodIn wsX6_tell wsX6_makes := goodIn_r _ [14, 15, 16, 17, 18, 19, 3, 20, 21, 22, 23, 24, 25, 26, 27, 28, 29, 30, 31, 32, 33, 34, 35, 36, 37, 5, 6, 7, 38, 39, 40, 41, 42, 43, 44, 45, 142, 143, 144, 145, 146, 147, 148, 149, 150, 151, 152, 153, 154, 155, 156, 157, 158, 159] (by decide +kernel) (by decide +kernel)
set_option maxRecDepth 20000 in
theorem gX6_tell_X6_makes : GoodIn wsX6_tell (wsV RX6 172 RX6 yX6_makes wsX6_makes) := goodIn_app (goodIn_of _ (by decide +kernel)) ggX6_tell_X6_makes
set_option maxRecDepth 20000 in
theorem ggX6_tell_X6_placeOf : GoodIn wsX6_tell wsX6_placeOf := goodIn_r _ [49, 15, 16, 50, 51, 52, 3, 53, 21, 30, 142, 143, 144, 145, 146, 147, 148, 149, 150, 151, 152, 153, 154, 155, 156, 157, 158, 159] (by decide +kernel) (by decide +kernel)
set_option maxRecDepth 20000 in
theorem gX6_tell_X6_placeOf : GoodIn wsX6_tell (wsV RX6 175 RX6 yX6_placeOf wsX6_placeOf) := goodIn_app (goodIn_of _ (by decide +kernel)) ggX6_tell_X6_placeOf
set_option maxRecDepth 20000 in
theorem ggX6_tell_X6_says : GoodIn wsX6_tell wsX6_says := goodIn_r _ [57, 16, 21, 58, 30, 142, 143, 144, 145, 146, 147, 148, 149, 150, 151, 152, 153, 154, 155, 156, 157, 158, 159] (by decide +kernel) (by decide +kernel)
set_option maxRecDepth 20000 in
theorem gX6_tell_X6_says : GoodIn wsX6_tell (wsV RX6 178 RX6 yX6_says wsX6_says) := goodIn_app (goodIn_of _ (by decide +kernel)) ggX6_tell_X6_says
set_option maxRecDepth 20000 in
theorem ggX6_tell_X6_tells : GoodIn wsX6_tell wsX6_tells := goodIn_r _ [62, 63, 64, 65, 66, 3, 67, 68, 69, 70, 71, 72, 73, 74, 75, 76, 77, 78, 79, 80, 81, 82, 83, 84, 85, 86, 87, 88, 89, 90, 91, 92, 93, 94, 95, 96, 97, 58, 98, 99, 100, 101, 102, 103, 104, 105, 106, 107, 108, 109, 110, 111, 112, 113, 114, 115, 116, 117, 118, 119, 120, 121, 122, 123, 124, 125, 126, 127, 128, 129, 130, 131, 132, 133, 134, 135, 136, 137, 138, 139, 140, 141, 142, 143, 144, 145, 146, 147, 148, 149, 150, 151, 152, 153, 154, 155, 156, 157, 158, 159] (by decide +kernel) (by decide +kernel)
set_option maxRecDepth 20000 in
theorem gX6_tell_X6_tells : GoodIn wsX6_tell (wsV RX6 181 RX6 yX6_tells wsX6_tells) := goodIn_app (goodIn_of _ (by decide +kernel)) ggX6_tell_X6_tells
theorem dX6_tell_0 : decode cX6_tell 0 = .ok (.iload_n 1, 1) := by decide +kernel
theorem dX6_tell_1 : decode cX6_tell 1 = .ok (.invokestatic 141, 3) := by decide +kernel
theorem dX6_tell_4 : decode cX6_tell 4 = .ok (.ifCond .eq 12, 3) := by decide +kernel
theorem dX6_tell_7 : decode cX6_tell 7 = .ok (.iload_n 3, 1) := by decide +kernel
theorem dX6_tell_8 : decode cX6_tell 8 = .ok (.iconst 0, 1) := by decide +kernel
theorem dX6_tell_9 : decode cX6_tell 9 = .ok (.iconst 3, 1) := by decide +kernel
theorem dX6_tell_10 : decode cX6_tell 10 = .ok (.invokestatic 32, 3) := by decide +kernel
theorem dX6_tell_13 : decode cX6_tell 13 = .ok (.ifCond .ne 5, 3) := by decide +kernel
theorem dX6_tell_16 : decode cX6_tell 16 = .ok (.iconst (-1), 1) := by decide +kernel
theorem dX6_tell_17 : decode cX6_tell 17 = .ok (.ireturn, 1) := by decide +kernel
theorem dX6_tell_18 : decode cX6_tell 18 = .ok (.iload_n 2, 1) := by decide +kernel
theorem dX6_tell_19 : decode cX6_tell 19 = .ok (.invokestatic 169, 3) := by decide +kernel
theorem dX6_tell_22 : decode cX6_tell 22 = .ok (.ifCond .ne 6, 3) := by decide +kernel
theorem dX6_tell_25 : decode cX6_tell 25 = .ok (.bipush (-2), 2) := by decide +kernel
theorem dX6_tell_27 : decode cX6_tell 27 = .ok (.ireturn, 1) := by decide +kernel
theorem dX6_tell_28 : decode cX6_tell 28 = .ok (.aload_n 0, 1) := by decide +kernel
theorem dX6_tell_29 : decode cX6_tell 29 = .ok (.iload_n 2, 1) := by decide +kernel
theorem dX6_tell_30 : decode cX6_tell 30 = .ok (.invokevirtual 172, 3) := by decide +kernel
theorem dX6_tell_33 : decode cX6_tell 33 = .ok (.aload_n 0, 1) := by decide +kernel
theorem dX6_tell_34 : decode cX6_tell 34 = .ok (.iload_n 1, 1) := by decide +kernel
theorem dX6_tell_35 : decode cX6_tell 35 = .ok (.iload_n 2, 1) := by decide +kernel
theorem dX6_tell_36 : decode cX6_tell 36 = .ok (.aload_n 0, 1) := by decide +kernel
theorem dX6_tell_37 : decode cX6_tell 37 = .ok (.aload_n 0, 1) := by decide +kernel
theorem dX6_tell_38 : decode cX6_tell 38 = .ok (.iload_n 3, 1) := by decide +kernel
theorem dX6_tell_39 : decode cX6_tell 39 = .ok (.invokevirtual 175, 3) := by decide +kernel
theorem dX6_tell_42 : decode cX6_tell 42 = .ok (.invokevirtual 178, 3) := by decide +kernel
theorem dX6_tell_45 : decode cX6_tell 45 = .ok (.invokevirtual 181, 3) := by decide +kernel
theorem dX6_tell_48 : decode cX6_tell 48 = .ok (.ireturn, 1) := by decide +kernel
set_option maxRecDepth 20000 in
theorem ggX6_textFault_X6_faultOf : GoodIn wsX6_textFault wsX6_faultOf := goodIn_r _ [8, 9, 10, 11, 12, 13, 14, 15, 16, 17, 18, 19, 7, 20, 21, 22, 23, 24, 25, 26, 27, 28, 2, 29, 30, 31, 32, 33, 34, 35, 36, 37, 38, 39, 40, 41, 42, 43, 44, 45, 46, 47, 48, 49, 50, 51, 52, 53, 54, 55, 56, 57, 58, 59, 60, 61, 62, 63, 64, 65, 66, 67, 68, 69, 70, 71, 72, 73, 74] (by decide +kernel) (by decide +kernel)
set_option maxRecDepth 20000 in
theorem gX6_textFault_X6_faultOf : GoodIn wsX6_textFault (wsV RX6 99 RX6 yX6_faultOf wsX6_faultOf) := goodIn_app (goodIn_of _ (by decide +kernel)) ggX6_textFault_X6_faultOf
theorem dX6_textFault_0 : decode cX6_textFault 0 = .ok (.iconst 0, 1) := by decide +kernel
theorem dX6_textFault_1 : decode cX6_textFault 1 = .ok (.istore_n 1, 1) := by decide +kernel
theorem dX6_textFault_2 : decode cX6_textFault 2 = .ok (.iload_n 1, 1) := by decide +kernel
theorem dX6_textFault_3 : decode cX6_textFault 3 = .ok (.aload_n 0, 1) := by decide +kernel
theorem dX6_textFault_4 : decode cX6_textFault 4 = .ok (.getfield 184, 3) := by decide +kernel
theorem dX6_textFault_7 : decode cX6_textFault 7 = .ok (.if_icmp .ge 21, 3) := by decide +kernel
theorem dX6_textFault_10 : decode cX6_textFault 10 = .ok (.aload_n 0, 1) := by decide +kernel
theorem dX6_textFault_11 : decode cX6_textFault 11 = .ok (.getfield 16, 3) := by decide +kernel
theorem dX6_textFault_14 : decode cX6_textFault 14 = .ok (.iload_n 1, 1) := by decide +kernel
theorem dX6_textFault_15 : decode cX6_textFault 15 = .ok (.aload_n 0, 1) := by decide +kernel
theorem dX6_textFault_16 : decode cX6_textFault 16 = .ok (.getfield 20, 3) := by decide +kernel
theorem dX6_textFault_19 : decode cX6_textFault 19 = .ok (.iload_n 1, 1) := by decide +kernel
theorem dX6_textFault_20 : decode cX6_textFault 20 = .ok (.caload, 1) := by decide +kernel
theorem dX6_textFault_21 : decode cX6_textFault 21 = .ok (.castore, 1) := by decide +kernel
theorem dX6_textFault_22 : decode cX6_textFault 22 = .ok (.iinc 1 1, 3) := by decide +kernel
theorem dX6_textFault_25 : decode cX6_textFault 25 = .ok (.goto (-23), 3) := by decide +kernel
theorem dX6_textFault_28 : decode cX6_textFault 28 = .ok (.aload_n 0, 1) := by decide +kernel
theorem dX6_textFault_29 : decode cX6_textFault 29 = .ok (.aload_n 0, 1) := by decide +kernel
theorem dX6_textFault_30 : decode cX6_textFault 30 = .ok (.getfield 184, 3) := by decide +kernel
theorem dX6_textFault_33 : decode cX6_textFault 33 = .ok (.invokevirtual 99, 3) := by decide +kernel
theorem dX6_textFault_36 : decode cX6_textFault 36 = .ok (.ireturn, 1) := by decide +kernel
set_option maxRecDepth 20000 in
theorem ggX6_tellText_X6_isHearer : GoodIn wsX6_tellText wsX6_isHearer := goodIn_r _ [5, 6, 7, 4, 8] (by decide +kernel) (by decide +kernel)
set_option maxRecDepth 20000 in
theorem gX6_tellText_X6_isHearer : GoodIn wsX6_tellText (va_wsS RX6 141 yX6_isHearer wsX6_isHearer) := goodIn_app (goodIn_of _ (by decide +kernel)) ggX6_tellText_X6_isHearer
set_option maxRecDepth 20000 in
theorem ggX6_tellText_X6_textFault : GoodIn wsX6_tellText wsX6_textFault := goodIn_r _ [12, 1, 13, 14, 15, 16, 17, 4, 18, 19, 20, 21, 22, 23, 24, 25, 26, 27, 28, 29, 30, 31, 32, 33, 34, 35, 36, 37, 38, 39, 40, 41, 42, 43, 44, 45, 46, 47, 48, 49, 50, 51, 52, 53, 54, 55, 56, 57, 58, 59, 60, 61, 62, 63, 64, 65, 66, 98, 99, 100, 101, 102, 103, 104, 105, 106, 107, 108, 109, 110, 111, 112, 113, 114, 115] (by decide +kernel) (by decide +kernel)
set_option maxRecDepth 20000 in
theorem gX6_tellText_X6_textFault : GoodIn wsX6_tellText (wsV RX6 187 RX6 yX6_textFault wsX6_textFault) := goodIn_app (goodIn_of _ (by decide +kernel)) ggX6_tellText_X6_textFault
set_option maxRecDepth 20000 in
theorem ggX6_tellText_X6_meaningBy : GoodIn wsX6_tellText wsX6_meaningBy := goodIn_r _ [70, 21, 24, 22, 25, 26, 23, 98, 99, 100, 101, 102, 103, 104, 105, 106, 107, 108, 109, 110, 111, 112, 113, 114, 115] (by decide +kernel) (by decide +kernel)
set_option maxRecDepth 20000 in
theorem gX6_tellText_X6_meaningBy : GoodIn wsX6_tellText (wsV RX6 103 RX6 yX6_meaningBy wsX6_meaningBy) := goodIn_app (goodIn_of _ (by decide +kernel)) ggX6_tellText_X6_meaningBy
set_option maxRecDepth 20000 in
theorem ggX6_tellText_X6_tells : GoodIn wsX6_tellText wsX6_tells := goodIn_r _ [74, 75, 76, 77, 78, 4, 79, 80, 81, 82, 83, 84, 85, 15, 16, 17, 18, 19, 20, 21, 22, 23, 24, 25, 26, 27, 28, 29, 30, 31, 32, 33, 34, 35, 36, 37, 38, 13, 39, 40, 41, 42, 43, 44, 45, 46, 47, 48, 49, 50, 51, 52, 53, 54, 55, 56, 57, 58, 59, 60, 61, 62, 63, 64, 65, 66, 67, 68, 69, 70, 86, 87, 88, 89, 90, 91, 92, 93, 94, 95, 96, 97, 98, 99, 100, 101, 102, 103, 104, 105, 106, 107, 108, 109, 110, 111, 112, 113, 114, 115] (by decide +kernel) (by decide +kernel)
set_option maxRecDepth 20000 in
theorem gX6_tellText_X6_tells : GoodIn wsX6_tellText (wsV RX6 181 RX6 yX6_tells wsX6_tells) := goodIn_app (goodIn_of _ (by decide +kernel)) ggX6_tellText_X6_tells
theorem dX6_tellText_0 : decode cX6_tellText 0 = .ok (.iload_n 1, 1) := by decide +kernel
theorem dX6_tellText_1 : decode cX6_tellText 1 = .ok (.invokestatic 141, 3) := by decide +kernel
theorem dX6_tellText_4 : decode cX6_tellText 4 = .ok (.ifCond .ne 5, 3) := by decide +kernel
theorem dX6_tellText_7 : decode cX6_tellText 7 = .ok (.iconst (-1), 1) := by decide +kernel
theorem dX6_tellText_8 : decode cX6_tellText 8 = .ok (.ireturn, 1) := by decide +kernel
theorem dX6_tellText_9 : decode cX6_tellText 9 = .ok (.aload_n 0, 1) := by decide +kernel
theorem dX6_tellText_10 : decode cX6_tellText 10 = .ok (.invokevirtual 187, 3) := by decide +kernel
theorem dX6_tellText_13 : decode cX6_tellText 13 = .ok (.ifCond .lt 6, 3) := by decide +kernel
theorem dX6_tellText_16 : decode cX6_tellText 16 = .ok (.bipush (-3), 2) := by decide +kernel
theorem dX6_tellText_18 : decode cX6_tellText 18 = .ok (.ireturn, 1) := by decide +kernel
theorem dX6_tellText_19 : decode cX6_tellText 19 = .ok (.aload_n 0, 1) := by decide +kernel
theorem dX6_tellText_20 : decode cX6_tellText 20 = .ok (.iload_n 1, 1) := by decide +kernel
theorem dX6_tellText_21 : decode cX6_tellText 21 = .ok (.aload_n 0, 1) := by decide +kernel
theorem dX6_tellText_22 : decode cX6_tellText 22 = .ok (.iconst 1, 1) := by decide +kernel
theorem dX6_tellText_23 : decode cX6_tellText 23 = .ok (.iconst 1, 1) := by decide +kernel
theorem dX6_tellText_24 : decode cX6_tellText 24 = .ok (.iconst 1, 1) := by decide +kernel
theorem dX6_tellText_25 : decode cX6_tellText 25 = .ok (.invokevirtual 103, 3) := by decide +kernel
theorem dX6_tellText_28 : decode cX6_tellText 28 = .ok (.aload_n 0, 1) := by decide +kernel
theorem dX6_tellText_29 : decode cX6_tellText 29 = .ok (.getfield 184, 3) := by decide +kernel
theorem dX6_tellText_32 : decode cX6_tellText 32 = .ok (.invokevirtual 181, 3) := by decide +kernel
theorem dX6_tellText_35 : decode cX6_tellText 35 = .ok (.ireturn, 1) := by decide +kernel
set_option maxRecDepth 20000 in
theorem ggX6_append_X6_in : GoodIn wsX6_append wsX6_in := goodIn_r _ [6] (by decide +kernel) (by decide +kernel)
set_option maxRecDepth 20000 in
theorem gX6_append_X6_in : GoodIn wsX6_append (va_wsS RX6 32 yX6_in wsX6_in) := goodIn_app (goodIn_of _ (by decide +kernel)) ggX6_append_X6_in
end
section
theorem dX6_append_0 : decode cX6_append 0 = .ok (.iload_n 1, 1) := by decide +kernel
theorem dX6_append_1 : decode cX6_append 1 = .ok (.bipush 32, 2) := by decide +kernel
theorem dX6_append_3 : decode cX6_append 3 = .ok (.bipush 126, 2) := by decide +kernel
theorem dX6_append_5 : decode cX6_append 5 = .ok (.invokestatic 32, 3) := by decide +kernel
theorem dX6_append_8 : decode cX6_append 8 = .ok (.ifCond .ne 6, 3) := by decide +kernel
theorem dX6_append_11 : decode cX6_append 11 = .ok (.bipush (-2), 2) := by decide +kernel
theorem dX6_append_13 : decode cX6_append 13 = .ok (.ireturn, 1) := by decide +kernel
theorem dX6_append_14 : decode cX6_append 14 = .ok (.aload_n 0, 1) := by decide +kernel
theorem dX6_append_15 : decode cX6_append 15 = .ok (.getfield 184, 3) := by decide +kernel
theorem dX6_append_18 : decode cX6_append 18 = .ok (.bipush 20, 2) := by decide +kernel
theorem dX6_append_20 : decode cX6_append 20 = .ok (.if_icmp .ne 6, 3) := by decide +kernel
theorem dX6_append_23 : decode cX6_append 23 = .ok (.bipush (-4), 2) := by decide +kernel
theorem dX6_append_25 : decode cX6_append 25 = .ok (.ireturn, 1) := by decide +kernel
theorem dX6_append_26 : decode cX6_append 26 = .ok (.aload_n 0, 1) := by decide +kernel
theorem dX6_append_27 : decode cX6_append 27 = .ok (.getfield 20, 3) := by decide +kernel
theorem dX6_append_30 : decode cX6_append 30 = .ok (.aload_n 0, 1) := by decide +kernel
theorem dX6_append_31 : decode cX6_append 31 = .ok (.getfield 184, 3) := by decide +kernel
theorem dX6_append_34 : decode cX6_append 34 = .ok (.iload_n 1, 1) := by decide +kernel
theorem dX6_append_35 : decode cX6_append 35 = .ok (.i2c, 1) := by decide +kernel
theorem dX6_append_36 : decode cX6_append 36 = .ok (.castore, 1) := by decide +kernel
theorem dX6_append_37 : decode cX6_append 37 = .ok (.aload_n 0, 1) := by decide +kernel
theorem dX6_append_38 : decode cX6_append 38 = .ok (.dup, 1) := by decide +kernel
theorem dX6_append_39 : decode cX6_append 39 = .ok (.getfield 184, 3) := by decide +kernel
theorem dX6_append_42 : decode cX6_append 42 = .ok (.iconst 1, 1) := by decide +kernel
theorem dX6_append_43 : decode cX6_append 43 = .ok (.iadd, 1) := by decide +kernel
theorem dX6_append_44 : decode cX6_append 44 = .ok (.putfield 184, 3) := by decide +kernel
theorem dX6_append_47 : decode cX6_append 47 = .ok (.aload_n 0, 1) := by decide +kernel
theorem dX6_append_48 : decode cX6_append 48 = .ok (.getfield 184, 3) := by decide +kernel
theorem dX6_append_51 : decode cX6_append 51 = .ok (.ireturn, 1) := by decide +kernel
theorem dX6_clearText_0 : decode cX6_clearText 0 = .ok (.aload_n 0, 1) := by decide +kernel
theorem dX6_clearText_1 : decode cX6_clearText 1 = .ok (.getfield 184, 3) := by decide +kernel
theorem dX6_clearText_4 : decode cX6_clearText 4 = .ok (.istore_n 1, 1) := by decide +kernel
theorem dX6_clearText_5 : decode cX6_clearText 5 = .ok (.aload_n 0, 1) := by decide +kernel
theorem dX6_clearText_6 : decode cX6_clearText 6 = .ok (.iconst 0, 1) := by decide +kernel
theorem dX6_clearText_7 : decode cX6_clearText 7 = .ok (.putfield 184, 3) := by decide +kernel
theorem dX6_clearText_10 : decode cX6_clearText 10 = .ok (.iload_n 1, 1) := by decide +kernel
theorem dX6_clearText_11 : decode cX6_clearText 11 = .ok (.ireturn, 1) := by decide +kernel
set_option maxRecDepth 20000 in
theorem ggX6_fault_X6_textFault : GoodIn wsX6_fault wsX6_textFault := goodIn_r _ [5, 6, 7, 8, 9, 10, 11, 4, 12, 13, 14, 15, 16, 17, 18, 19, 20, 21, 22, 23, 24, 25, 26, 27, 28, 29, 30, 31, 32, 33, 34, 35, 36, 37, 38, 39, 40, 41, 42, 43, 44, 45, 46, 47, 48, 49, 50, 51, 52, 53, 54, 55, 56, 57, 58, 59, 60, 61, 62, 63, 64, 65, 66, 67, 68, 69, 70, 71, 72, 73, 74, 75, 76, 77, 78] (by decide +kernel) (by decide +kernel)
set_option maxRecDepth 20000 in
theorem gX6_fault_X6_textFault : GoodIn wsX6_fault (wsV RX6 187 RX6 yX6_textFault wsX6_textFault) := goodIn_app (goodIn_of _ (by decide +kernel)) ggX6_fault_X6_textFault
theorem dX6_fault_0 : decode cX6_fault 0 = .ok (.aload_n 0, 1) := by decide +kernel
theorem dX6_fault_1 : decode cX6_fault 1 = .ok (.invokevirtual 187, 3) := by decide +kernel
theorem dX6_fault_4 : decode cX6_fault 4 = .ok (.istore_n 1, 1) := by decide +kernel
theorem dX6_fault_5 : decode cX6_fault 5 = .ok (.iload_n 1, 1) := by decide +kernel
theorem dX6_fault_6 : decode cX6_fault 6 = .ok (.ifCond .ge 8, 3) := by decide +kernel
theorem dX6_fault_9 : decode cX6_fault 9 = .ok (.bipush (-5), 2) := by decide +kernel
theorem dX6_fault_11 : decode cX6_fault 11 = .ok (.goto 4, 3) := by decide +kernel
theorem dX6_fault_14 : decode cX6_fault 14 = .ok (.iload_n 1, 1) := by decide +kernel
theorem dX6_fault_15 : decode cX6_fault 15 = .ok (.ireturn, 1) := by decide +kernel
set_option maxRecDepth 20000 in
theorem ggX6_meaning_X6_textFault : GoodIn wsX6_meaning wsX6_textFault := goodIn_r _ [5, 6, 7, 8, 9, 10, 11, 4, 12, 13, 14, 15, 16, 17, 18, 19, 20, 21, 22, 23, 24, 25, 26, 27, 28, 29, 30, 31, 32, 33, 34, 35, 36, 37, 38, 39, 40, 41, 42, 43, 44, 45, 46, 47, 48, 49, 50, 51, 52, 53, 54, 55, 56, 57, 58, 59, 60, 65, 66, 67, 68, 69, 70, 71, 72, 73, 74, 75, 76, 77, 78, 79, 80, 81, 82] (by decide +kernel) (by decide +kernel)
set_option maxRecDepth 20000 in
theorem gX6_meaning_X6_textFault : GoodIn wsX6_meaning (wsV RX6 187 RX6 yX6_textFault wsX6_textFault) := goodIn_app (goodIn_of _ (by decide +kernel)) ggX6_meaning_X6_textFault
set_option maxRecDepth 20000 in
theorem ggX6_meaning_X6_meaningBy : GoodIn wsX6_meaning wsX6_meaningBy := goodIn_r _ [64, 15, 18, 16, 19, 20, 17, 65, 66, 67, 68, 69, 70, 71, 72, 73, 74, 75, 76, 77, 78, 79, 80, 81, 82] (by decide +kernel) (by decide +kernel)
set_option maxRecDepth 20000 in
theorem gX6_meaning_X6_meaningBy : GoodIn wsX6_meaning (wsV RX6 103 RX6 yX6_meaningBy wsX6_meaningBy) := goodIn_app (goodIn_of _ (by decide +kernel)) ggX6_meaning_X6_meaningBy
theorem dX6_meaning_0 : decode cX6_meaning 0 = .ok (.aload_n 0, 1) := by decide +kernel
theorem dX6_meaning_1 : decode cX6_meaning 1 = .ok (.invokevirtual 187, 3) := by decide +kernel
theorem dX6_meaning_4 : decode cX6_meaning 4 = .ok (.ifCond .ge 13, 3) := by decide +kernel
theorem dX6_meaning_7 : decode cX6_meaning 7 = .ok (.aload_n 0, 1) := by decide +kernel
theorem dX6_meaning_8 : decode cX6_meaning 8 = .ok (.iconst 1, 1) := by decide +kernel
theorem dX6_meaning_9 : decode cX6_meaning 9 = .ok (.iconst 1, 1) := by decide +kernel
theorem dX6_meaning_10 : decode cX6_meaning 10 = .ok (.iconst 1, 1) := by decide +kernel
theorem dX6_meaning_11 : decode cX6_meaning 11 = .ok (.invokevirtual 103, 3) := by decide +kernel
theorem dX6_meaning_14 : decode cX6_meaning 14 = .ok (.goto 5, 3) := by decide +kernel
theorem dX6_meaning_17 : decode cX6_meaning 17 = .ok (.bipush (-3), 2) := by decide +kernel
theorem dX6_meaning_19 : decode cX6_meaning 19 = .ok (.ireturn, 1) := by decide +kernel
theorem dX6_undo_0 : decode cX6_undo 0 = .ok (.aload_n 0, 1) := by decide +kernel
theorem dX6_undo_1 : decode cX6_undo 1 = .ok (.getfield 36, 3) := by decide +kernel
theorem dX6_undo_4 : decode cX6_undo 4 = .ok (.ifCond .ne 6, 3) := by decide +kernel
theorem dX6_undo_7 : decode cX6_undo 7 = .ok (.bipush (-5), 2) := by decide +kernel
theorem dX6_undo_9 : decode cX6_undo 9 = .ok (.ireturn, 1) := by decide +kernel
theorem dX6_undo_10 : decode cX6_undo 10 = .ok (.aload_n 0, 1) := by decide +kernel
theorem dX6_undo_11 : decode cX6_undo 11 = .ok (.dup, 1) := by decide +kernel
theorem dX6_undo_12 : decode cX6_undo 12 = .ok (.getfield 36, 3) := by decide +kernel
theorem dX6_undo_15 : decode cX6_undo 15 = .ok (.iconst 1, 1) := by decide +kernel
theorem dX6_undo_16 : decode cX6_undo 16 = .ok (.isub, 1) := by decide +kernel
theorem dX6_undo_17 : decode cX6_undo 17 = .ok (.putfield 36, 3) := by decide +kernel
theorem dX6_undo_20 : decode cX6_undo 20 = .ok (.iconst 0, 1) := by decide +kernel
theorem dX6_undo_21 : decode cX6_undo 21 = .ok (.istore_n 1, 1) := by decide +kernel
theorem dX6_undo_22 : decode cX6_undo 22 = .ok (.iload_n 1, 1) := by decide +kernel
theorem dX6_undo_23 : decode cX6_undo 23 = .ok (.bipush 106, 2) := by decide +kernel
theorem dX6_undo_25 : decode cX6_undo 25 = .ok (.if_icmp .ge 29, 3) := by decide +kernel
theorem dX6_undo_28 : decode cX6_undo 28 = .ok (.aload_n 0, 1) := by decide +kernel
theorem dX6_undo_29 : decode cX6_undo 29 = .ok (.getfield 7, 3) := by decide +kernel
theorem dX6_undo_32 : decode cX6_undo 32 = .ok (.iload_n 1, 1) := by decide +kernel
theorem dX6_undo_33 : decode cX6_undo 33 = .ok (.aload_n 0, 1) := by decide +kernel
theorem dX6_undo_34 : decode cX6_undo 34 = .ok (.getfield 13, 3) := by decide +kernel
theorem dX6_undo_37 : decode cX6_undo 37 = .ok (.bipush 106, 2) := by decide +kernel
theorem dX6_undo_39 : decode cX6_undo 39 = .ok (.aload_n 0, 1) := by decide +kernel
theorem dX6_undo_40 : decode cX6_undo 40 = .ok (.getfield 36, 3) := by decide +kernel
theorem dX6_undo_43 : decode cX6_undo 43 = .ok (.imul, 1) := by decide +kernel
theorem dX6_undo_44 : decode cX6_undo 44 = .ok (.iload_n 1, 1) := by decide +kernel
theorem dX6_undo_45 : decode cX6_undo 45 = .ok (.iadd, 1) := by decide +kernel
theorem dX6_undo_46 : decode cX6_undo 46 = .ok (.iaload, 1) := by decide +kernel
theorem dX6_undo_47 : decode cX6_undo 47 = .ok (.iastore, 1) := by decide +kernel
theorem dX6_undo_48 : decode cX6_undo 48 = .ok (.iinc 1 1, 3) := by decide +kernel
theorem dX6_undo_51 : decode cX6_undo 51 = .ok (.goto (-29), 3) := by decide +kernel
theorem dX6_undo_54 : decode cX6_undo 54 = .ok (.aload_n 0, 1) := by decide +kernel
theorem dX6_undo_55 : decode cX6_undo 55 = .ok (.getfield 36, 3) := by decide +kernel
theorem dX6_undo_58 : decode cX6_undo 58 = .ok (.ireturn, 1) := by decide +kernel
set_option maxRecDepth 20000 in
theorem ggX6_ways_X6_isNumber : GoodIn wsX6_ways wsX6_isNumber := goodIn_r _ [5, 6, 7, 4, 8] (by decide +kernel) (by decide +kernel)
set_option maxRecDepth 20000 in
theorem gX6_ways_X6_isNumber : GoodIn wsX6_ways (va_wsS RX6 169 yX6_isNumber wsX6_isNumber) := goodIn_app (goodIn_of _ (by decide +kernel)) ggX6_ways_X6_isNumber
set_option maxRecDepth 20000 in
theorem ggX6_ways_X6_makes : GoodIn wsX6_ways wsX6_makes := goodIn_r _ [12, 1, 13, 14, 15, 16, 4, 17, 18, 19, 20, 21, 22, 23, 24, 25, 26, 27, 28, 29, 30, 31, 32, 33, 34, 6, 7, 8, 35, 36, 37, 38, 39, 40, 41, 42, 43, 44, 45, 46, 47, 48, 49, 50, 51, 52, 53, 54, 55, 56, 57, 58, 59, 60] (by decide +kernel) (by decide +kernel)
set_option maxRecDepth 20000 in
theorem gX6_ways_X6_makes : GoodIn wsX6_ways (wsV RX6 172 RX6 yX6_makes wsX6_makes) := goodIn_app (goodIn_of _ (by decide +kernel)) ggX6_ways_X6_makes
theorem dX6_ways_0 : decode cX6_ways 0 = .ok (.iload_n 1, 1) := by decide +kernel
theorem dX6_ways_1 : decode cX6_ways 1 = .ok (.invokestatic 169, 3) := by decide +kernel
theorem dX6_ways_4 : decode cX6_ways 4 = .ok (.ifCond .ne 6, 3) := by decide +kernel
theorem dX6_ways_7 : decode cX6_ways 7 = .ok (.bipush (-2), 2) := by decide +kernel
theorem dX6_ways_9 : decode cX6_ways 9 = .ok (.ireturn, 1) := by decide +kernel
theorem dX6_ways_10 : decode cX6_ways 10 = .ok (.aload_n 0, 1) := by decide +kernel
theorem dX6_ways_11 : decode cX6_ways 11 = .ok (.iload_n 1, 1) := by decide +kernel
theorem dX6_ways_12 : decode cX6_ways 12 = .ok (.invokevirtual 172, 3) := by decide +kernel
theorem dX6_ways_15 : decode cX6_ways 15 = .ok (.aload_n 0, 1) := by decide +kernel
theorem dX6_ways_16 : decode cX6_ways 16 = .ok (.getfield 107, 3) := by decide +kernel
theorem dX6_ways_19 : decode cX6_ways 19 = .ok (.ireturn, 1) := by decide +kernel
set_option maxRecDepth 20000 in
theorem ggX6_wayLength_X6_isNumber : GoodIn wsX6_wayLength wsX6_isNumber := goodIn_r _ [7, 8, 9, 6, 10] (by decide +kernel) (by decide +kernel)
set_option maxRecDepth 20000 in
theorem gX6_wayLength_X6_isNumber : GoodIn wsX6_wayLength (va_wsS RX6 169 yX6_isNumber wsX6_isNumber) := goodIn_app (goodIn_of _ (by decide +kernel)) ggX6_wayLength_X6_isNumber
set_option maxRecDepth 20000 in
theorem ggX6_wayLength_X6_makes : GoodIn wsX6_wayLength wsX6_makes := goodIn_r _ [14, 1, 3, 15, 16, 17, 6, 18, 2, 19, 20, 21, 22, 23, 24, 25, 26, 27, 28, 29, 30, 31, 32, 33, 34, 8, 9, 10, 35, 36, 37, 38, 39, 40, 41, 42, 43, 44, 45, 46, 47, 48, 49, 50, 51, 52, 53, 54, 55, 56, 57, 58, 59, 60] (by decide +kernel) (by decide +kernel)
set_option maxRecDepth 20000 in
theorem gX6_wayLength_X6_makes : GoodIn wsX6_wayLength (wsV RX6 172 RX6 yX6_makes wsX6_makes) := goodIn_app (goodIn_of _ (by decide +kernel)) ggX6_wayLength_X6_makes
theorem dX6_wayLength_0 : decode cX6_wayLength 0 = .ok (.iload_n 1, 1) := by decide +kernel
theorem dX6_wayLength_1 : decode cX6_wayLength 1 = .ok (.invokestatic 169, 3) := by decide +kernel
theorem dX6_wayLength_4 : decode cX6_wayLength 4 = .ok (.ifCond .eq 7, 3) := by decide +kernel
theorem dX6_wayLength_7 : decode cX6_wayLength 7 = .ok (.iload_n 2, 1) := by decide +kernel
theorem dX6_wayLength_8 : decode cX6_wayLength 8 = .ok (.ifCond .ge 6, 3) := by decide +kernel
theorem dX6_wayLength_11 : decode cX6_wayLength 11 = .ok (.bipush (-2), 2) := by decide +kernel
theorem dX6_wayLength_13 : decode cX6_wayLength 13 = .ok (.ireturn, 1) := by decide +kernel
theorem dX6_wayLength_14 : decode cX6_wayLength 14 = .ok (.aload_n 0, 1) := by decide +kernel
theorem dX6_wayLength_15 : decode cX6_wayLength 15 = .ok (.iload_n 1, 1) := by decide +kernel
theorem dX6_wayLength_16 : decode cX6_wayLength 16 = .ok (.invokevirtual 172, 3) := by decide +kernel
theorem dX6_wayLength_19 : decode cX6_wayLength 19 = .ok (.iload_n 2, 1) := by decide +kernel
theorem dX6_wayLength_20 : decode cX6_wayLength 20 = .ok (.aload_n 0, 1) := by decide +kernel
theorem dX6_wayLength_21 : decode cX6_wayLength 21 = .ok (.getfield 107, 3) := by decide +kernel
theorem dX6_wayLength_24 : decode cX6_wayLength 24 = .ok (.if_icmp .ge 17, 3) := by decide +kernel
theorem dX6_wayLength_27 : decode cX6_wayLength 27 = .ok (.aload_n 0, 1) := by decide +kernel
theorem dX6_wayLength_28 : decode cX6_wayLength 28 = .ok (.getfield 26, 3) := by decide +kernel
theorem dX6_wayLength_31 : decode cX6_wayLength 31 = .ok (.aload_n 0, 1) := by decide +kernel
theorem dX6_wayLength_32 : decode cX6_wayLength 32 = .ok (.getfield 29, 3) := by decide +kernel
theorem dX6_wayLength_35 : decode cX6_wayLength 35 = .ok (.iload_n 2, 1) := by decide +kernel
theorem dX6_wayLength_36 : decode cX6_wayLength 36 = .ok (.iaload, 1) := by decide +kernel
theorem dX6_wayLength_37 : decode cX6_wayLength 37 = .ok (.iaload, 1) := by decide +kernel
theorem dX6_wayLength_38 : decode cX6_wayLength 38 = .ok (.goto 5, 3) := by decide +kernel
theorem dX6_wayLength_41 : decode cX6_wayLength 41 = .ok (.bipush (-5), 2) := by decide +kernel
theorem dX6_wayLength_43 : decode cX6_wayLength 43 = .ok (.ireturn, 1) := by decide +kernel
set_option maxRecDepth 20000 in
theorem ggX6_wayAt_X6_isNumber : GoodIn wsX6_wayAt wsX6_isNumber := goodIn_r _ [8, 9, 10, 7, 11] (by decide +kernel) (by decide +kernel)
set_option maxRecDepth 20000 in
theorem gX6_wayAt_X6_isNumber : GoodIn wsX6_wayAt (va_wsS RX6 169 yX6_isNumber wsX6_isNumber) := goodIn_app (goodIn_of _ (by decide +kernel)) ggX6_wayAt_X6_isNumber
set_option maxRecDepth 20000 in
theorem ggX6_wayAt_X6_makes : GoodIn wsX6_wayAt wsX6_makes := goodIn_r _ [15, 1, 3, 16, 17, 18, 7, 19, 2, 20, 21, 22, 23, 24, 25, 26, 27, 4, 28, 29, 30, 31, 32, 33, 34, 9, 10, 11, 35, 36, 37, 38, 39, 40, 41, 42, 43, 44, 45, 46, 47, 48, 49, 50, 51, 52, 53, 54, 55, 56, 57, 58, 59, 60] (by decide +kernel) (by decide +kernel)
set_option maxRecDepth 20000 in
theorem gX6_wayAt_X6_makes : GoodIn wsX6_wayAt (wsV RX6 172 RX6 yX6_makes wsX6_makes) := goodIn_app (goodIn_of _ (by decide +kernel)) ggX6_wayAt_X6_makes
theorem dX6_wayAt_0 : decode cX6_wayAt 0 = .ok (.iload_n 1, 1) := by decide +kernel
theorem dX6_wayAt_1 : decode cX6_wayAt 1 = .ok (.invokestatic 169, 3) := by decide +kernel
theorem dX6_wayAt_4 : decode cX6_wayAt 4 = .ok (.ifCond .eq 11, 3) := by decide +kernel
theorem dX6_wayAt_7 : decode cX6_wayAt 7 = .ok (.iload_n 2, 1) := by decide +kernel
theorem dX6_wayAt_8 : decode cX6_wayAt 8 = .ok (.ifCond .lt 7, 3) := by decide +kernel
theorem dX6_wayAt_11 : decode cX6_wayAt 11 = .ok (.iload_n 3, 1) := by decide +kernel
theorem dX6_wayAt_12 : decode cX6_wayAt 12 = .ok (.ifCond .ge 6, 3) := by decide +kernel
theorem dX6_wayAt_15 : decode cX6_wayAt 15 = .ok (.bipush (-2), 2) := by decide +kernel
theorem dX6_wayAt_17 : decode cX6_wayAt 17 = .ok (.ireturn, 1) := by decide +kernel
theorem dX6_wayAt_18 : decode cX6_wayAt 18 = .ok (.aload_n 0, 1) := by decide +kernel
theorem dX6_wayAt_19 : decode cX6_wayAt 19 = .ok (.iload_n 1, 1) := by decide +kernel
theorem dX6_wayAt_20 : decode cX6_wayAt 20 = .ok (.invokevirtual 172, 3) := by decide +kernel
theorem dX6_wayAt_23 : decode cX6_wayAt 23 = .ok (.iload_n 2, 1) := by decide +kernel
theorem dX6_wayAt_24 : decode cX6_wayAt 24 = .ok (.aload_n 0, 1) := by decide +kernel
theorem dX6_wayAt_25 : decode cX6_wayAt 25 = .ok (.getfield 107, 3) := by decide +kernel
theorem dX6_wayAt_28 : decode cX6_wayAt 28 = .ok (.if_icmp .ge 37, 3) := by decide +kernel
theorem dX6_wayAt_31 : decode cX6_wayAt 31 = .ok (.iload_n 3, 1) := by decide +kernel
theorem dX6_wayAt_32 : decode cX6_wayAt 32 = .ok (.aload_n 0, 1) := by decide +kernel
theorem dX6_wayAt_33 : decode cX6_wayAt 33 = .ok (.getfield 26, 3) := by decide +kernel
theorem dX6_wayAt_36 : decode cX6_wayAt 36 = .ok (.aload_n 0, 1) := by decide +kernel
theorem dX6_wayAt_37 : decode cX6_wayAt 37 = .ok (.getfield 29, 3) := by decide +kernel
theorem dX6_wayAt_40 : decode cX6_wayAt 40 = .ok (.iload_n 2, 1) := by decide +kernel
theorem dX6_wayAt_41 : decode cX6_wayAt 41 = .ok (.iaload, 1) := by decide +kernel
theorem dX6_wayAt_42 : decode cX6_wayAt 42 = .ok (.iaload, 1) := by decide +kernel
theorem dX6_wayAt_43 : decode cX6_wayAt 43 = .ok (.if_icmp .ge 22, 3) := by decide +kernel
theorem dX6_wayAt_46 : decode cX6_wayAt 46 = .ok (.aload_n 0, 1) := by decide +kernel
theorem dX6_wayAt_47 : decode cX6_wayAt 47 = .ok (.getfield 23, 3) := by decide +kernel
theorem dX6_wayAt_50 : decode cX6_wayAt 50 = .ok (.bipush 10, 2) := by decide +kernel
theorem dX6_wayAt_52 : decode cX6_wayAt 52 = .ok (.aload_n 0, 1) := by decide +kernel
theorem dX6_wayAt_53 : decode cX6_wayAt 53 = .ok (.getfield 29, 3) := by decide +kernel
theorem dX6_wayAt_56 : decode cX6_wayAt 56 = .ok (.iload_n 2, 1) := by decide +kernel
theorem dX6_wayAt_57 : decode cX6_wayAt 57 = .ok (.iaload, 1) := by decide +kernel
theorem dX6_wayAt_58 : decode cX6_wayAt 58 = .ok (.imul, 1) := by decide +kernel
theorem dX6_wayAt_59 : decode cX6_wayAt 59 = .ok (.iload_n 3, 1) := by decide +kernel
theorem dX6_wayAt_60 : decode cX6_wayAt 60 = .ok (.iadd, 1) := by decide +kernel
theorem dX6_wayAt_61 : decode cX6_wayAt 61 = .ok (.caload, 1) := by decide +kernel
theorem dX6_wayAt_62 : decode cX6_wayAt 62 = .ok (.goto 5, 3) := by decide +kernel
theorem dX6_wayAt_65 : decode cX6_wayAt 65 = .ok (.bipush (-5), 2) := by decide +kernel
theorem dX6_wayAt_67 : decode cX6_wayAt 67 = .ok (.ireturn, 1) := by decide +kernel
set_option maxRecDepth 20000 in
theorem ggX6_styled_X6_in : GoodIn wsX6_styled wsX6_in := goodIn_r _ [4] (by decide +kernel) (by decide +kernel)
set_option maxRecDepth 20000 in
theorem gX6_styled_X6_in : GoodIn wsX6_styled (va_wsS RX6 32 yX6_in wsX6_in) := goodIn_app (goodIn_of _ (by decide +kernel)) ggX6_styled_X6_in
set_option maxRecDepth 20000 in
theorem ggX6_styled_X6_isNumber : GoodIn wsX6_styled wsX6_isNumber := goodIn_r _ [7, 1, 2, 3, 4] (by decide +kernel) (by decide +kernel)
set_option maxRecDepth 20000 in
theorem gX6_styled_X6_isNumber : GoodIn wsX6_styled (va_wsS RX6 169 yX6_isNumber wsX6_isNumber) := goodIn_app (goodIn_of _ (by decide +kernel)) ggX6_styled_X6_isNumber
set_option maxRecDepth 20000 in
theorem ggX6_styled_X6_makes : GoodIn wsX6_styled wsX6_makes := goodIn_r _ [11, 12, 13, 14, 15, 16, 3, 17, 18, 19, 20, 21, 22, 23, 24, 25, 26, 27, 28, 29, 30, 31, 32, 33, 34, 1, 2, 4, 35, 36, 37, 38, 39, 40, 41, 42, 51, 52, 53, 54, 55, 56, 57, 58, 59, 60, 61, 62, 63, 64, 65, 66, 67, 68] (by decide +kernel) (by decide +kernel)
set_option maxRecDepth 20000 in
theorem gX6_styled_X6_makes : GoodIn wsX6_styled (wsV RX6 172 RX6 yX6_makes wsX6_makes) := goodIn_app (goodIn_of _ (by decide +kernel)) ggX6_styled_X6_makes
set_option maxRecDepth 20000 in
theorem ggX6_styled_X6_placeOf : GoodIn wsX6_styled wsX6_placeOf := goodIn_r _ [46, 12, 13, 47, 48, 49, 3, 50, 18, 27, 51, 52, 53, 54, 55, 56, 57, 58, 59, 60, 61, 62, 63, 64, 65, 66, 67, 68] (by decide +kernel) (by decide +kernel)
set_option maxRecDepth 20000 in
theorem gX6_styled_X6_placeOf : GoodIn wsX6_styled (wsV RX6 175 RX6 yX6_placeOf wsX6_placeOf) := goodIn_app (goodIn_of _ (by decide +kernel)) ggX6_styled_X6_placeOf
theorem dX6_styled_0 : decode cX6_styled 0 = .ok (.iload_n 2, 1) := by decide +kernel
theorem dX6_styled_1 : decode cX6_styled 1 = .ok (.iconst 0, 1) := by decide +kernel
theorem dX6_styled_2 : decode cX6_styled 2 = .ok (.iconst 3, 1) := by decide +kernel
theorem dX6_styled_3 : decode cX6_styled 3 = .ok (.invokestatic 32, 3) := by decide +kernel
theorem dX6_styled_6 : decode cX6_styled 6 = .ok (.ifCond .ne 5, 3) := by decide +kernel
theorem dX6_styled_9 : decode cX6_styled 9 = .ok (.iconst (-1), 1) := by decide +kernel
theorem dX6_styled_10 : decode cX6_styled 10 = .ok (.ireturn, 1) := by decide +kernel
theorem dX6_styled_11 : decode cX6_styled 11 = .ok (.iload_n 1, 1) := by decide +kernel
theorem dX6_styled_12 : decode cX6_styled 12 = .ok (.invokestatic 169, 3) := by decide +kernel
theorem dX6_styled_15 : decode cX6_styled 15 = .ok (.ifCond .ne 6, 3) := by decide +kernel
theorem dX6_styled_18 : decode cX6_styled 18 = .ok (.bipush (-2), 2) := by decide +kernel
theorem dX6_styled_20 : decode cX6_styled 20 = .ok (.ireturn, 1) := by decide +kernel
theorem dX6_styled_21 : decode cX6_styled 21 = .ok (.aload_n 0, 1) := by decide +kernel
theorem dX6_styled_22 : decode cX6_styled 22 = .ok (.iload_n 1, 1) := by decide +kernel
theorem dX6_styled_23 : decode cX6_styled 23 = .ok (.invokevirtual 172, 3) := by decide +kernel
theorem dX6_styled_26 : decode cX6_styled 26 = .ok (.aload_n 0, 1) := by decide +kernel
theorem dX6_styled_27 : decode cX6_styled 27 = .ok (.iload_n 2, 1) := by decide +kernel
theorem dX6_styled_28 : decode cX6_styled 28 = .ok (.invokevirtual 175, 3) := by decide +kernel
theorem dX6_styled_31 : decode cX6_styled 31 = .ok (.ireturn, 1) := by decide +kernel
theorem dX6_isText_0 : decode cX6_isText 0 = .ok (.aload_n 0, 1) := by decide +kernel
theorem dX6_isText_1 : decode cX6_isText 1 = .ok (.getfield 26, 3) := by decide +kernel
theorem dX6_isText_4 : decode cX6_isText 4 = .ok (.iload_n 1, 1) := by decide +kernel
theorem dX6_isText_5 : decode cX6_isText 5 = .ok (.iaload, 1) := by decide +kernel
theorem dX6_isText_6 : decode cX6_isText 6 = .ok (.aload_n 0, 1) := by decide +kernel
theorem dX6_isText_7 : decode cX6_isText 7 = .ok (.getfield 184, 3) := by decide +kernel
theorem dX6_isText_10 : decode cX6_isText 10 = .ok (.if_icmp .ne 7, 3) := by decide +kernel
theorem dX6_isText_13 : decode cX6_isText 13 = .ok (.iconst 1, 1) := by decide +kernel
theorem dX6_isText_14 : decode cX6_isText 14 = .ok (.goto 4, 3) := by decide +kernel
theorem dX6_isText_17 : decode cX6_isText 17 = .ok (.iconst 0, 1) := by decide +kernel
theorem dX6_isText_18 : decode cX6_isText 18 = .ok (.istore_n 2, 1) := by decide +kernel
theorem dX6_isText_19 : decode cX6_isText 19 = .ok (.iconst 0, 1) := by decide +kernel
theorem dX6_isText_20 : decode cX6_isText 20 = .ok (.istore_n 3, 1) := by decide +kernel
theorem dX6_isText_21 : decode cX6_isText 21 = .ok (.iload_n 3, 1) := by decide +kernel
theorem dX6_isText_22 : decode cX6_isText 22 = .ok (.aload_n 0, 1) := by decide +kernel
theorem dX6_isText_23 : decode cX6_isText 23 = .ok (.getfield 184, 3) := by decide +kernel
theorem dX6_isText_26 : decode cX6_isText 26 = .ok (.if_icmp .ge 39, 3) := by decide +kernel
theorem dX6_isText_29 : decode cX6_isText 29 = .ok (.iload_n 2, 1) := by decide +kernel
theorem dX6_isText_30 : decode cX6_isText 30 = .ok (.ifCond .eq 35, 3) := by decide +kernel
theorem dX6_isText_33 : decode cX6_isText 33 = .ok (.aload_n 0, 1) := by decide +kernel
theorem dX6_isText_34 : decode cX6_isText 34 = .ok (.getfield 23, 3) := by decide +kernel
theorem dX6_isText_37 : decode cX6_isText 37 = .ok (.bipush 10, 2) := by decide +kernel
theorem dX6_isText_39 : decode cX6_isText 39 = .ok (.iload_n 1, 1) := by decide +kernel
theorem dX6_isText_40 : decode cX6_isText 40 = .ok (.imul, 1) := by decide +kernel
theorem dX6_isText_41 : decode cX6_isText 41 = .ok (.iload_n 3, 1) := by decide +kernel
theorem dX6_isText_42 : decode cX6_isText 42 = .ok (.iadd, 1) := by decide +kernel
theorem dX6_isText_43 : decode cX6_isText 43 = .ok (.caload, 1) := by decide +kernel
theorem dX6_isText_44 : decode cX6_isText 44 = .ok (.aload_n 0, 1) := by decide +kernel
theorem dX6_isText_45 : decode cX6_isText 45 = .ok (.getfield 20, 3) := by decide +kernel
theorem dX6_isText_48 : decode cX6_isText 48 = .ok (.iload_n 3, 1) := by decide +kernel
theorem dX6_isText_49 : decode cX6_isText 49 = .ok (.caload, 1) := by decide +kernel
theorem dX6_isText_50 : decode cX6_isText 50 = .ok (.if_icmp .ne 7, 3) := by decide +kernel
theorem dX6_isText_53 : decode cX6_isText 53 = .ok (.iconst 1, 1) := by decide +kernel
theorem dX6_isText_54 : decode cX6_isText 54 = .ok (.goto 4, 3) := by decide +kernel
theorem dX6_isText_57 : decode cX6_isText 57 = .ok (.iconst 0, 1) := by decide +kernel
theorem dX6_isText_58 : decode cX6_isText 58 = .ok (.istore_n 2, 1) := by decide +kernel
theorem dX6_isText_59 : decode cX6_isText 59 = .ok (.iinc 3 1, 3) := by decide +kernel
theorem dX6_isText_62 : decode cX6_isText 62 = .ok (.goto (-41), 3) := by decide +kernel
theorem dX6_isText_65 : decode cX6_isText 65 = .ok (.iload_n 2, 1) := by decide +kernel
theorem dX6_isText_66 : decode cX6_isText 66 = .ok (.ireturn, 1) := by decide +kernel
set_option maxRecDepth 20000 in
theorem ggX6_placeOfText_X6_textFault : GoodIn wsX6_placeOfText wsX6_textFault := goodIn_r _ [7, 8, 9, 10, 11, 12, 13, 6, 14, 15, 16, 17, 18, 19, 20, 21, 22, 23, 24, 25, 26, 27, 28, 29, 30, 31, 32, 33, 34, 35, 36, 37, 38, 39, 40, 41, 42, 43, 44, 45, 46, 47, 48, 49, 50, 51, 52, 53, 54, 55, 56, 57, 58, 59, 60, 61, 62, 107, 108, 109, 110, 111, 112, 113, 114, 115, 116, 117, 118, 119, 120, 121, 122, 123, 124] (by decide +kernel) (by decide +kernel)
set_option maxRecDepth 20000 in
theorem gX6_placeOfText_X6_textFault : GoodIn wsX6_placeOfText (wsV RX6 187 RX6 yX6_textFault wsX6_textFault) := goodIn_app (goodIn_of _ (by decide +kernel)) ggX6_placeOfText_X6_textFault
set_option maxRecDepth 20000 in
theorem ggX6_placeOfText_X6_meaningBy : GoodIn wsX6_placeOfText wsX6_meaningBy := goodIn_r _ [66, 17, 20, 18, 21, 22, 19, 107, 108, 109, 110, 111, 112, 113, 114, 115, 116, 117, 118, 119, 120, 121, 122, 123, 124] (by decide +kernel) (by decide +kernel)
set_option maxRecDepth 20000 in
theorem gX6_placeOfText_X6_meaningBy : GoodIn wsX6_placeOfText (wsV RX6 103 RX6 yX6_meaningBy wsX6_meaningBy) := goodIn_app (goodIn_of _ (by decide +kernel)) ggX6_placeOfText_X6_meaningBy
set_option maxRecDepth 20000 in
theorem ggX6_placeOfText_X6_makes : GoodIn wsX6_placeOfText wsX6_makes := goodIn_r _ [70, 1, 2, 71, 72, 73, 6, 74, 75, 76, 77, 78, 79, 80, 81, 82, 83, 84, 85, 86, 87, 88, 89, 90, 91, 92, 93, 94, 95, 96, 97, 98, 99, 100, 101, 102, 107, 108, 109, 110, 111, 112, 113, 114, 115, 116, 117, 118, 119, 120, 121, 122, 123, 124] (by decide +kernel) (by decide +kernel)
set_option maxRecDepth 20000 in
theorem gX6_placeOfText_X6_makes : GoodIn wsX6_placeOfText (wsV RX6 172 RX6 yX6_makes wsX6_makes) := goodIn_app (goodIn_of _ (by decide +kernel)) ggX6_placeOfText_X6_makes
set_option maxRecDepth 20000 in
theorem ggX6_placeOfText_X6_isText : GoodIn wsX6_placeOfText wsX6_isText := goodIn_r _ [106, 75, 8, 84, 10, 107, 108, 109, 110, 111, 112, 113, 114, 115, 116, 117, 118, 119, 120, 121, 122, 123, 124] (by decide +kernel) (by decide +kernel)
set_option maxRecDepth 20000 in
theorem gX6_placeOfText_X6_isText : GoodIn wsX6_placeOfText (wsV RX6 191 RX6 yX6_isText wsX6_isText) := goodIn_app (goodIn_of _ (by decide +kernel)) ggX6_placeOfText_X6_isText
theorem dX6_placeOfText_0 : decode cX6_placeOfText 0 = .ok (.aload_n 0, 1) := by decide +kernel
theorem dX6_placeOfText_1 : decode cX6_placeOfText 1 = .ok (.invokevirtual 187, 3) := by decide +kernel
theorem dX6_placeOfText_4 : decode cX6_placeOfText 4 = .ok (.ifCond .lt 6, 3) := by decide +kernel
theorem dX6_placeOfText_7 : decode cX6_placeOfText 7 = .ok (.bipush (-3), 2) := by decide +kernel
theorem dX6_placeOfText_9 : decode cX6_placeOfText 9 = .ok (.ireturn, 1) := by decide +kernel
theorem dX6_placeOfText_10 : decode cX6_placeOfText 10 = .ok (.aload_n 0, 1) := by decide +kernel
theorem dX6_placeOfText_11 : decode cX6_placeOfText 11 = .ok (.aload_n 0, 1) := by decide +kernel
theorem dX6_placeOfText_12 : decode cX6_placeOfText 12 = .ok (.iconst 1, 1) := by decide +kernel
theorem dX6_placeOfText_13 : decode cX6_placeOfText 13 = .ok (.iconst 1, 1) := by decide +kernel
theorem dX6_placeOfText_14 : decode cX6_placeOfText 14 = .ok (.iconst 1, 1) := by decide +kernel
theorem dX6_placeOfText_15 : decode cX6_placeOfText 15 = .ok (.invokevirtual 103, 3) := by decide +kernel
theorem dX6_placeOfText_18 : decode cX6_placeOfText 18 = .ok (.invokevirtual 172, 3) := by decide +kernel
theorem dX6_placeOfText_21 : decode cX6_placeOfText 21 = .ok (.bipush (-5), 2) := by decide +kernel
theorem dX6_placeOfText_23 : decode cX6_placeOfText 23 = .ok (.istore_n 1, 1) := by decide +kernel
theorem dX6_placeOfText_24 : decode cX6_placeOfText 24 = .ok (.iconst 0, 1) := by decide +kernel
theorem dX6_placeOfText_25 : decode cX6_placeOfText 25 = .ok (.istore_n 2, 1) := by decide +kernel
theorem dX6_placeOfText_26 : decode cX6_placeOfText 26 = .ok (.iload_n 2, 1) := by decide +kernel
theorem dX6_placeOfText_27 : decode cX6_placeOfText 27 = .ok (.aload_n 0, 1) := by decide +kernel
theorem dX6_placeOfText_28 : decode cX6_placeOfText 28 = .ok (.getfield 107, 3) := by decide +kernel
theorem dX6_placeOfText_31 : decode cX6_placeOfText 31 = .ok (.if_icmp .ge 28, 3) := by decide +kernel
theorem dX6_placeOfText_34 : decode cX6_placeOfText 34 = .ok (.aload_n 0, 1) := by decide +kernel
theorem dX6_placeOfText_35 : decode cX6_placeOfText 35 = .ok (.aload_n 0, 1) := by decide +kernel
theorem dX6_placeOfText_36 : decode cX6_placeOfText 36 = .ok (.getfield 29, 3) := by decide +kernel
theorem dX6_placeOfText_39 : decode cX6_placeOfText 39 = .ok (.iload_n 2, 1) := by decide +kernel
theorem dX6_placeOfText_40 : decode cX6_placeOfText 40 = .ok (.iaload, 1) := by decide +kernel
theorem dX6_placeOfText_41 : decode cX6_placeOfText 41 = .ok (.invokevirtual 191, 3) := by decide +kernel
theorem dX6_placeOfText_44 : decode cX6_placeOfText 44 = .ok (.ifCond .eq 7, 3) := by decide +kernel
theorem dX6_placeOfText_47 : decode cX6_placeOfText 47 = .ok (.iload_n 2, 1) := by decide +kernel
theorem dX6_placeOfText_48 : decode cX6_placeOfText 48 = .ok (.goto 4, 3) := by decide +kernel
theorem dX6_placeOfText_51 : decode cX6_placeOfText 51 = .ok (.iload_n 1, 1) := by decide +kernel
theorem dX6_placeOfText_52 : decode cX6_placeOfText 52 = .ok (.istore_n 1, 1) := by decide +kernel
theorem dX6_placeOfText_53 : decode cX6_placeOfText 53 = .ok (.iinc 2 1, 3) := by decide +kernel
theorem dX6_placeOfText_56 : decode cX6_placeOfText 56 = .ok (.goto (-30), 3) := by decide +kernel
theorem dX6_placeOfText_59 : decode cX6_placeOfText 59 = .ok (.iload_n 1, 1) := by decide +kernel
theorem dX6_placeOfText_60 : decode cX6_placeOfText 60 = .ok (.ireturn, 1) := by decide +kernel
set_option maxRecDepth 20000 in
theorem ggX6_hearer_X6_isHearer : GoodIn wsX6_hearer wsX6_isHearer := goodIn_r _ [5, 6, 7, 4, 8] (by decide +kernel) (by decide +kernel)
set_option maxRecDepth 20000 in
theorem gX6_hearer_X6_isHearer : GoodIn wsX6_hearer (va_wsS RX6 141 yX6_isHearer wsX6_isHearer) := goodIn_app (goodIn_of _ (by decide +kernel)) ggX6_hearer_X6_isHearer
set_option maxRecDepth 20000 in
theorem ggX6_hearer_X6_in : GoodIn wsX6_hearer wsX6_in := goodIn_r _ [8] (by decide +kernel) (by decide +kernel)
set_option maxRecDepth 20000 in
theorem gX6_hearer_X6_in : GoodIn wsX6_hearer (va_wsS RX6 32 yX6_in wsX6_in) := goodIn_app (goodIn_of _ (by decide +kernel)) ggX6_hearer_X6_in
theorem dX6_hearer_0 : decode cX6_hearer 0 = .ok (.iload_n 1, 1) := by decide +kernel
theorem dX6_hearer_1 : decode cX6_hearer 1 = .ok (.invokestatic 141, 3) := by decide +kernel
theorem dX6_hearer_4 : decode cX6_hearer 4 = .ok (.ifCond .ne 7, 3) := by decide +kernel
theorem dX6_hearer_7 : decode cX6_hearer 7 = .ok (.iconst (-1), 1) := by decide +kernel
theorem dX6_hearer_8 : decode cX6_hearer 8 = .ok (.goto 29, 3) := by decide +kernel
theorem dX6_hearer_11 : decode cX6_hearer 11 = .ok (.iload_n 2, 1) := by decide +kernel
theorem dX6_hearer_12 : decode cX6_hearer 12 = .ok (.iconst 0, 1) := by decide +kernel
theorem dX6_hearer_13 : decode cX6_hearer 13 = .ok (.bipush 8, 2) := by decide +kernel
theorem dX6_hearer_15 : decode cX6_hearer 15 = .ok (.invokestatic 32, 3) := by decide +kernel
theorem dX6_hearer_18 : decode cX6_hearer 18 = .ok (.ifCond .eq 17, 3) := by decide +kernel
theorem dX6_hearer_21 : decode cX6_hearer 21 = .ok (.aload_n 0, 1) := by decide +kernel
theorem dX6_hearer_22 : decode cX6_hearer 22 = .ok (.getfield 7, 3) := by decide +kernel
theorem dX6_hearer_25 : decode cX6_hearer 25 = .ok (.bipush 9, 2) := by decide +kernel
theorem dX6_hearer_27 : decode cX6_hearer 27 = .ok (.iload_n 1, 1) := by decide +kernel
theorem dX6_hearer_28 : decode cX6_hearer 28 = .ok (.imul, 1) := by decide +kernel
theorem dX6_hearer_29 : decode cX6_hearer 29 = .ok (.iload_n 2, 1) := by decide +kernel
theorem dX6_hearer_30 : decode cX6_hearer 30 = .ok (.iadd, 1) := by decide +kernel
theorem dX6_hearer_31 : decode cX6_hearer 31 = .ok (.iaload, 1) := by decide +kernel
theorem dX6_hearer_32 : decode cX6_hearer 32 = .ok (.goto 5, 3) := by decide +kernel
theorem dX6_hearer_35 : decode cX6_hearer 35 = .ok (.bipush (-2), 2) := by decide +kernel
theorem dX6_hearer_37 : decode cX6_hearer 37 = .ok (.ireturn, 1) := by decide +kernel
set_option maxRecDepth 20000 in
theorem ggX6_understood_X6_isHearer : GoodIn wsX6_understood wsX6_isHearer := goodIn_r _ [5, 6, 7, 4, 8] (by decide +kernel) (by decide +kernel)
set_option maxRecDepth 20000 in
theorem gX6_understood_X6_isHearer : GoodIn wsX6_understood (va_wsS RX6 141 yX6_isHearer wsX6_isHearer) := goodIn_app (goodIn_of _ (by decide +kernel)) ggX6_understood_X6_isHearer
set_option maxRecDepth 20000 in
theorem ggX6_understood_X6_isNumber : GoodIn wsX6_understood wsX6_isNumber := goodIn_r _ [11, 6, 7, 4, 8] (by decide +kernel) (by decide +kernel)
set_option maxRecDepth 20000 in
theorem gX6_understood_X6_isNumber : GoodIn wsX6_understood (va_wsS RX6 169 yX6_isNumber wsX6_isNumber) := goodIn_app (goodIn_of _ (by decide +kernel)) ggX6_understood_X6_isNumber
set_option maxRecDepth 20000 in
theorem ggX6_understood_X6_makes : GoodIn wsX6_understood wsX6_makes := goodIn_r _ [15, 1, 16, 17, 18, 19, 4, 20, 21, 22, 23, 24, 25, 26, 27, 28, 29, 30, 31, 32, 33, 34, 35, 36, 37, 6, 7, 8, 38, 39, 40, 41, 42, 43, 44, 45, 112, 113, 114, 115, 116, 117, 118, 119, 120, 121, 122, 123, 124, 125, 126, 127, 128, 129] (by decide +kernel) (by decide +kernel)
set_option maxRecDepth 20000 in
theorem gX6_understood_X6_makes : GoodIn wsX6_understood (wsV RX6 172 RX6 yX6_makes wsX6_makes) := goodIn_app (goodIn_of _ (by decide +kernel)) ggX6_understood_X6_makes
set_option maxRecDepth 20000 in
theorem ggX6_understood_X6_says : GoodIn wsX6_understood wsX6_says := goodIn_r _ [49, 16, 21, 50, 30, 112, 113, 114, 115, 116, 117, 118, 119, 120, 121, 122, 123, 124, 125, 126, 127, 128, 129] (by decide +kernel) (by decide +kernel)
set_option maxRecDepth 20000 in
theorem gX6_understood_X6_says : GoodIn wsX6_understood (wsV RX6 178 RX6 yX6_says wsX6_says) := goodIn_app (goodIn_of _ (by decide +kernel)) ggX6_understood_X6_says
set_option maxRecDepth 20000 in
theorem ggX6_understood_X6_understands : GoodIn wsX6_understood wsX6_understands := goodIn_r _ [54, 55, 56, 57, 58, 4, 59, 60, 61, 62, 63, 64, 65, 66, 67, 68, 69, 70, 71, 72, 73, 74, 75, 76, 77, 78, 79, 50, 80, 81, 82, 83, 84, 85, 86, 87, 88, 89, 90, 91, 92, 93, 94, 95, 96, 97, 98, 99, 100, 101, 102, 103, 104, 105, 106, 107, 108, 109, 110, 111, 112, 113, 114, 115, 116, 117, 118, 119, 120, 121, 122, 123, 124, 125, 126, 127, 128, 129] (by decide +kernel) (by decide +kernel)
set_option maxRecDepth 20000 in
theorem gX6_understood_X6_understands : GoodIn wsX6_understood (wsV RX6 154 RX6 yX6_understands wsX6_understands) := goodIn_app (goodIn_of _ (by decide +kernel)) ggX6_understood_X6_understands
theorem dX6_understood_0 : decode cX6_understood 0 = .ok (.iload_n 1, 1) := by decide +kernel
theorem dX6_understood_1 : decode cX6_understood 1 = .ok (.invokestatic 141, 3) := by decide +kernel
theorem dX6_understood_4 : decode cX6_understood 4 = .ok (.ifCond .ne 5, 3) := by decide +kernel
theorem dX6_understood_7 : decode cX6_understood 7 = .ok (.iconst (-1), 1) := by decide +kernel
theorem dX6_understood_8 : decode cX6_understood 8 = .ok (.ireturn, 1) := by decide +kernel
theorem dX6_understood_9 : decode cX6_understood 9 = .ok (.iload_n 2, 1) := by decide +kernel
theorem dX6_understood_10 : decode cX6_understood 10 = .ok (.invokestatic 169, 3) := by decide +kernel
theorem dX6_understood_13 : decode cX6_understood 13 = .ok (.ifCond .eq 7, 3) := by decide +kernel
theorem dX6_understood_16 : decode cX6_understood 16 = .ok (.iload_n 3, 1) := by decide +kernel
theorem dX6_understood_17 : decode cX6_understood 17 = .ok (.ifCond .ge 6, 3) := by decide +kernel
theorem dX6_understood_20 : decode cX6_understood 20 = .ok (.bipush (-2), 2) := by decide +kernel
theorem dX6_understood_22 : decode cX6_understood 22 = .ok (.ireturn, 1) := by decide +kernel
theorem dX6_understood_23 : decode cX6_understood 23 = .ok (.aload_n 0, 1) := by decide +kernel
theorem dX6_understood_24 : decode cX6_understood 24 = .ok (.iload_n 2, 1) := by decide +kernel
theorem dX6_understood_25 : decode cX6_understood 25 = .ok (.invokevirtual 172, 3) := by decide +kernel
theorem dX6_understood_28 : decode cX6_understood 28 = .ok (.iload_n 3, 1) := by decide +kernel
theorem dX6_understood_29 : decode cX6_understood 29 = .ok (.aload_n 0, 1) := by decide +kernel
theorem dX6_understood_30 : decode cX6_understood 30 = .ok (.getfield 107, 3) := by decide +kernel
theorem dX6_understood_33 : decode cX6_understood 33 = .ok (.if_icmp .lt 6, 3) := by decide +kernel
theorem dX6_understood_36 : decode cX6_understood 36 = .ok (.bipush (-5), 2) := by decide +kernel
theorem dX6_understood_38 : decode cX6_understood 38 = .ok (.ireturn, 1) := by decide +kernel
theorem dX6_understood_39 : decode cX6_understood 39 = .ok (.aload_n 0, 1) := by decide +kernel
theorem dX6_understood_40 : decode cX6_understood 40 = .ok (.iload_n 1, 1) := by decide +kernel
theorem dX6_understood_41 : decode cX6_understood 41 = .ok (.aload_n 0, 1) := by decide +kernel
theorem dX6_understood_42 : decode cX6_understood 42 = .ok (.iload_n 3, 1) := by decide +kernel
theorem dX6_understood_43 : decode cX6_understood 43 = .ok (.invokevirtual 178, 3) := by decide +kernel
theorem dX6_understood_46 : decode cX6_understood 46 = .ok (.invokevirtual 154, 3) := by decide +kernel
theorem dX6_understood_49 : decode cX6_understood 49 = .ok (.istore 4, 2) := by decide +kernel
theorem dX6_understood_51 : decode cX6_understood 51 = .ok (.iload 4, 2) := by decide +kernel
theorem dX6_understood_53 : decode cX6_understood 53 = .ok (.ifCond .ne 8, 3) := by decide +kernel
theorem dX6_understood_56 : decode cX6_understood 56 = .ok (.bipush (-5), 2) := by decide +kernel
theorem dX6_understood_58 : decode cX6_understood 58 = .ok (.goto 5, 3) := by decide +kernel
theorem dX6_understood_61 : decode cX6_understood 61 = .ok (.iload 4, 2) := by decide +kernel
theorem dX6_understood_63 : decode cX6_understood 63 = .ok (.ireturn, 1) := by decide +kernel
set_option maxRecDepth 20000 in
theorem ggX6_understoodText_X6_isHearer : GoodIn wsX6_understoodText wsX6_isHearer := goodIn_r _ [5, 6, 7, 4, 8] (by decide +kernel) (by decide +kernel)
set_option maxRecDepth 20000 in
theorem gX6_understoodText_X6_isHearer : GoodIn wsX6_understoodText (va_wsS RX6 141 yX6_isHearer wsX6_isHearer) := goodIn_app (goodIn_of _ (by decide +kernel)) ggX6_understoodText_X6_isHearer
set_option maxRecDepth 20000 in
theorem ggX6_understoodText_X6_textFault : GoodIn wsX6_understoodText wsX6_textFault := goodIn_r _ [12, 1, 13, 14, 15, 16, 17, 4, 18, 19, 20, 21, 22, 23, 24, 25, 26, 27, 28, 29, 30, 31, 32, 33, 34, 35, 36, 37, 38, 39, 40, 41, 42, 43, 44, 45, 46, 47, 48, 49, 50, 51, 52, 53, 54, 55, 56, 57, 58, 59, 60, 61, 62, 63, 64, 65, 66, 76, 77, 78, 79, 80, 81, 82, 83, 84, 85, 86, 87, 88, 89, 90, 91, 92, 93] (by decide +kernel) (by decide +kernel)
set_option maxRecDepth 20000 in
theorem gX6_understoodText_X6_textFault : GoodIn wsX6_understoodText (wsV RX6 187 RX6 yX6_textFault wsX6_textFault) := goodIn_app (goodIn_of _ (by decide +kernel)) ggX6_understoodText_X6_textFault
set_option maxRecDepth 20000 in
theorem ggX6_understoodText_X6_understands : GoodIn wsX6_understoodText wsX6_understands := goodIn_r _ [70, 71, 15, 16, 17, 4, 18, 19, 20, 21, 22, 23, 24, 25, 26, 27, 28, 29, 30, 31, 32, 33, 34, 35, 36, 37, 38, 13, 39, 40, 41, 42, 43, 44, 45, 46, 47, 48, 49, 50, 51, 52, 53, 54, 55, 56, 57, 58, 59, 60, 61, 62, 63, 64, 65, 66, 72, 73, 74, 75, 76, 77, 78, 79, 80, 81, 82, 83, 84, 85, 86, 87, 88, 89, 90, 91, 92, 93] (by decide +kernel) (by decide +kernel)
set_option maxRecDepth 20000 in
theorem gX6_understoodText_X6_understands : GoodIn wsX6_understoodText (wsV RX6 154 RX6 yX6_understands wsX6_understands) := goodIn_app (goodIn_of _ (by decide +kernel)) ggX6_understoodText_X6_understands
theorem dX6_understoodText_0 : decode cX6_understoodText 0 = .ok (.iload_n 1, 1) := by decide +kernel
theorem dX6_understoodText_1 : decode cX6_understoodText 1 = .ok (.invokestatic 141, 3) := by decide +kernel
theorem dX6_understoodText_4 : decode cX6_understoodText 4 = .ok (.ifCond .ne 5, 3) := by decide +kernel
theorem dX6_understoodText_7 : decode cX6_understoodText 7 = .ok (.iconst (-1), 1) := by decide +kernel
theorem dX6_understoodText_8 : decode cX6_understoodText 8 = .ok (.ireturn, 1) := by decide +kernel
theorem dX6_understoodText_9 : decode cX6_understoodText 9 = .ok (.aload_n 0, 1) := by decide +kernel
theorem dX6_understoodText_10 : decode cX6_understoodText 10 = .ok (.invokevirtual 187, 3) := by decide +kernel
theorem dX6_understoodText_13 : decode cX6_understoodText 13 = .ok (.ifCond .lt 6, 3) := by decide +kernel
theorem dX6_understoodText_16 : decode cX6_understoodText 16 = .ok (.bipush (-3), 2) := by decide +kernel
theorem dX6_understoodText_18 : decode cX6_understoodText 18 = .ok (.ireturn, 1) := by decide +kernel
theorem dX6_understoodText_19 : decode cX6_understoodText 19 = .ok (.aload_n 0, 1) := by decide +kernel
theorem dX6_understoodText_20 : decode cX6_understoodText 20 = .ok (.iload_n 1, 1) := by decide +kernel
theorem dX6_understoodText_21 : decode cX6_understoodText 21 = .ok (.aload_n 0, 1) := by decide +kernel
theorem dX6_understoodText_22 : decode cX6_understoodText 22 = .ok (.getfield 184, 3) := by decide +kernel
theorem dX6_understoodText_25 : decode cX6_understoodText 25 = .ok (.invokevirtual 154, 3) := by decide +kernel
theorem dX6_understoodText_28 : decode cX6_understoodText 28 = .ok (.istore_n 2, 1) := by decide +kernel
theorem dX6_understoodText_29 : decode cX6_understoodText 29 = .ok (.iload_n 2, 1) := by decide +kernel
theorem dX6_understoodText_30 : decode cX6_understoodText 30 = .ok (.ifCond .ne 8, 3) := by decide +kernel
theorem dX6_understoodText_33 : decode cX6_understoodText 33 = .ok (.bipush (-5), 2) := by decide +kernel
theorem dX6_understoodText_35 : decode cX6_understoodText 35 = .ok (.goto 4, 3) := by decide +kernel
theorem dX6_understoodText_38 : decode cX6_understoodText 38 = .ok (.iload_n 2, 1) := by decide +kernel
theorem dX6_understoodText_39 : decode cX6_understoodText 39 = .ok (.ireturn, 1) := by decide +kernel
set_option maxRecDepth 20000 in
theorem ggX6_best_X6_makes : GoodIn wsX6_best wsX6_makes := goodIn_r _ [6, 1, 7, 8, 9, 10, 5, 11, 12, 13, 14, 15, 16, 17, 18, 19, 20, 21, 22, 23, 24, 25, 26, 27, 28, 29, 30, 31, 32, 33, 34, 35, 36, 37, 38, 39, 106, 107, 108, 109, 110, 111, 112, 113, 114, 115, 116, 117, 118, 119, 120, 121, 122, 123] (by decide +kernel) (by decide +kernel)
set_option maxRecDepth 20000 in
theorem gX6_best_X6_makes : GoodIn wsX6_best (wsV RX6 172 RX6 yX6_makes wsX6_makes) := goodIn_app (goodIn_of _ (by decide +kernel)) ggX6_best_X6_makes
set_option maxRecDepth 20000 in
theorem ggX6_best_X6_says : GoodIn wsX6_best wsX6_says := goodIn_r _ [43, 7, 12, 44, 21, 106, 107, 108, 109, 110, 111, 112, 113, 114, 115, 116, 117, 118, 119, 120, 121, 122, 123] (by decide +kernel) (by decide +kernel)
set_option maxRecDepth 20000 in
theorem gX6_best_X6_says : GoodIn wsX6_best (wsV RX6 178 RX6 yX6_says wsX6_says) := goodIn_app (goodIn_of _ (by decide +kernel)) ggX6_best_X6_says
set_option maxRecDepth 20000 in
theorem ggX6_best_X6_understands : GoodIn wsX6_best wsX6_understands := goodIn_r _ [48, 49, 50, 51, 52, 5, 53, 54, 55, 56, 57, 58, 59, 60, 61, 62, 63, 64, 65, 66, 67, 68, 69, 70, 71, 72, 73, 44, 74, 75, 76, 77, 78, 79, 80, 81, 82, 83, 84, 85, 86, 87, 88, 89, 90, 91, 92, 93, 94, 95, 96, 97, 98, 99, 100, 101, 102, 103, 104, 105, 106, 107, 108, 109, 110, 111, 112, 113, 114, 115, 116, 117, 118, 119, 120, 121, 122, 123] (by decide +kernel) (by decide +kernel)
set_option maxRecDepth 20000 in
theorem gX6_best_X6_understands : GoodIn wsX6_best (wsV RX6 154 RX6 yX6_understands wsX6_understands) := goodIn_app (goodIn_of _ (by decide +kernel)) ggX6_best_X6_understands
theorem dX6_best_0 : decode cX6_best 0 = .ok (.aload_n 0, 1) := by decide +kernel
theorem dX6_best_1 : decode cX6_best 1 = .ok (.iload_n 2, 1) := by decide +kernel
theorem dX6_best_2 : decode cX6_best 2 = .ok (.invokevirtual 172, 3) := by decide +kernel
theorem dX6_best_5 : decode cX6_best 5 = .ok (.bipush (-5), 2) := by decide +kernel
theorem dX6_best_7 : decode cX6_best 7 = .ok (.istore_n 3, 1) := by decide +kernel
theorem dX6_best_8 : decode cX6_best 8 = .ok (.aload_n 0, 1) := by decide +kernel
theorem dX6_best_9 : decode cX6_best 9 = .ok (.getfield 107, 3) := by decide +kernel
theorem dX6_best_12 : decode cX6_best 12 = .ok (.iconst 1, 1) := by decide +kernel
theorem dX6_best_13 : decode cX6_best 13 = .ok (.isub, 1) := by decide +kernel
theorem dX6_best_14 : decode cX6_best 14 = .ok (.istore 4, 2) := by decide +kernel
theorem dX6_best_16 : decode cX6_best 16 = .ok (.iload 4, 2) := by decide +kernel
theorem dX6_best_18 : decode cX6_best 18 = .ok (.ifCond .lt 31, 3) := by decide +kernel
theorem dX6_best_21 : decode cX6_best 21 = .ok (.aload_n 0, 1) := by decide +kernel
theorem dX6_best_22 : decode cX6_best 22 = .ok (.iload_n 1, 1) := by decide +kernel
theorem dX6_best_23 : decode cX6_best 23 = .ok (.aload_n 0, 1) := by decide +kernel
theorem dX6_best_24 : decode cX6_best 24 = .ok (.iload 4, 2) := by decide +kernel
theorem dX6_best_26 : decode cX6_best 26 = .ok (.invokevirtual 178, 3) := by decide +kernel
theorem dX6_best_29 : decode cX6_best 29 = .ok (.invokevirtual 154, 3) := by decide +kernel
theorem dX6_best_32 : decode cX6_best 32 = .ok (.iload_n 2, 1) := by decide +kernel
theorem dX6_best_33 : decode cX6_best 33 = .ok (.if_icmp .ne 8, 3) := by decide +kernel
theorem dX6_best_36 : decode cX6_best 36 = .ok (.iload 4, 2) := by decide +kernel
theorem dX6_best_38 : decode cX6_best 38 = .ok (.goto 4, 3) := by decide +kernel
theorem dX6_best_41 : decode cX6_best 41 = .ok (.iload_n 3, 1) := by decide +kernel
theorem dX6_best_42 : decode cX6_best 42 = .ok (.istore_n 3, 1) := by decide +kernel
theorem dX6_best_43 : decode cX6_best 43 = .ok (.iinc 4 (-1), 3) := by decide +kernel
theorem dX6_best_46 : decode cX6_best 46 = .ok (.goto (-30), 3) := by decide +kernel
theorem dX6_best_49 : decode cX6_best 49 = .ok (.iload_n 3, 1) := by decide +kernel
theorem dX6_best_50 : decode cX6_best 50 = .ok (.ireturn, 1) := by decide +kernel
set_option maxRecDepth 20000 in
theorem ggX6_bestWay_X6_isHearer : GoodIn wsX6_bestWay wsX6_isHearer := goodIn_r _ [4, 5, 6, 3, 7] (by decide +kernel) (by decide +kernel)
set_option maxRecDepth 20000 in
theorem gX6_bestWay_X6_isHearer : GoodIn wsX6_bestWay (va_wsS RX6 141 yX6_isHearer wsX6_isHearer) := goodIn_app (goodIn_of _ (by decide +kernel)) ggX6_bestWay_X6_isHearer
set_option maxRecDepth 20000 in
theorem ggX6_bestWay_X6_isNumber : GoodIn wsX6_bestWay wsX6_isNumber := goodIn_r _ [10, 5, 6, 3, 7] (by decide +kernel) (by decide +kernel)
set_option maxRecDepth 20000 in
theorem gX6_bestWay_X6_isNumber : GoodIn wsX6_bestWay (va_wsS RX6 169 yX6_isNumber wsX6_isNumber) := goodIn_app (goodIn_of _ (by decide +kernel)) ggX6_bestWay_X6_isNumber
set_option maxRecDepth 20000 in
theorem ggX6_bestWay_X6_best : GoodIn wsX6_bestWay wsX6_best := goodIn_r _ [14, 15, 16, 17, 18, 3, 19, 20, 21, 22, 23, 24, 25, 26, 27, 28, 29, 30, 31, 32, 33, 34, 35, 36, 37, 38, 39, 40, 41, 5, 6, 7, 42, 43, 44, 45, 46, 47, 48, 49, 50, 51, 52, 53, 54, 55, 56, 57, 58, 59, 60, 61, 62, 63, 64, 65, 66, 67, 68, 69, 70, 71, 72, 73, 74, 75, 76, 77, 78, 79, 80, 81, 82, 83, 84, 85, 86, 87, 88, 89, 90, 91, 92, 93, 94, 95, 96, 97, 98, 99, 100, 101, 102, 103, 104, 105, 106, 107, 108, 109, 110, 111, 112, 113, 114, 115, 116, 117, 118, 119, 120, 121, 122, 123, 124, 125, 126, 127, 128, 129, 130, 131, 132, 133] (by decide +kernel) (by decide +kernel)
set_option maxRecDepth 20000 in
theorem gX6_bestWay_X6_best : GoodIn wsX6_bestWay (wsV RX6 194 RX6 yX6_best wsX6_best) := goodIn_app (goodIn_of _ (by decide +kernel)) ggX6_bestWay_X6_best
theorem dX6_bestWay_0 : decode cX6_bestWay 0 = .ok (.iload_n 1, 1) := by decide +kernel
theorem dX6_bestWay_1 : decode cX6_bestWay 1 = .ok (.invokestatic 141, 3) := by decide +kernel
theorem dX6_bestWay_4 : decode cX6_bestWay 4 = .ok (.ifCond .ne 7, 3) := by decide +kernel
theorem dX6_bestWay_7 : decode cX6_bestWay 7 = .ok (.iconst (-1), 1) := by decide +kernel
theorem dX6_bestWay_8 : decode cX6_bestWay 8 = .ok (.goto 21, 3) := by decide +kernel
theorem dX6_bestWay_11 : decode cX6_bestWay 11 = .ok (.iload_n 2, 1) := by decide +kernel
theorem dX6_bestWay_12 : decode cX6_bestWay 12 = .ok (.invokestatic 169, 3) := by decide +kernel
theorem dX6_bestWay_15 : decode cX6_bestWay 15 = .ok (.ifCond .eq 12, 3) := by decide +kernel
theorem dX6_bestWay_18 : decode cX6_bestWay 18 = .ok (.aload_n 0, 1) := by decide +kernel
theorem dX6_bestWay_19 : decode cX6_bestWay 19 = .ok (.iload_n 1, 1) := by decide +kernel
theorem dX6_bestWay_20 : decode cX6_bestWay 20 = .ok (.iload_n 2, 1) := by decide +kernel
theorem dX6_bestWay_21 : decode cX6_bestWay 21 = .ok (.invokevirtual 194, 3) := by decide +kernel
theorem dX6_bestWay_24 : decode cX6_bestWay 24 = .ok (.goto 5, 3) := by decide +kernel
theorem dX6_bestWay_27 : decode cX6_bestWay 27 = .ok (.bipush (-2), 2) := by decide +kernel
theorem dX6_bestWay_29 : decode cX6_bestWay 29 = .ok (.ireturn, 1) := by decide +kernel
set_option maxRecDepth 20000 in
theorem ggX6_reached_X6_says : GoodIn wsX6_reached wsX6_says := goodIn_r _ [5, 6, 7, 8, 9, 71, 72, 73, 74, 75, 76, 77, 78, 79, 80, 81, 82, 83, 84, 85, 86, 87, 88] (by decide +kernel) (by decide +kernel)
set_option maxRecDepth 20000 in
theorem gX6_reached_X6_says : GoodIn wsX6_reached (wsV RX6 178 RX6 yX6_says wsX6_says) := goodIn_app (goodIn_of _ (by decide +kernel)) ggX6_reached_X6_says
set_option maxRecDepth 20000 in
theorem ggX6_reached_X6_understands : GoodIn wsX6_reached wsX6_understands := goodIn_r _ [13, 14, 15, 16, 17, 4, 18, 19, 20, 21, 22, 23, 24, 25, 26, 27, 28, 29, 30, 31, 32, 33, 34, 35, 36, 37, 38, 8, 39, 40, 41, 42, 43, 44, 45, 46, 47, 48, 49, 50, 51, 52, 53, 54, 55, 56, 57, 58, 59, 60, 61, 62, 63, 64, 65, 66, 67, 68, 69, 70, 71, 72, 73, 74, 75, 76, 77, 78, 79, 80, 81, 82, 83, 84, 85, 86, 87, 88] (by decide +kernel) (by decide +kernel)
set_option maxRecDepth 20000 in
theorem gX6_reached_X6_understands : GoodIn wsX6_reached (wsV RX6 154 RX6 yX6_understands wsX6_understands) := goodIn_app (goodIn_of _ (by decide +kernel)) ggX6_reached_X6_understands
theorem dX6_reached_0 : decode cX6_reached 0 = .ok (.aload_n 0, 1) := by decide +kernel
theorem dX6_reached_1 : decode cX6_reached 1 = .ok (.iload_n 1, 1) := by decide +kernel
theorem dX6_reached_2 : decode cX6_reached 2 = .ok (.invokevirtual 178, 3) := by decide +kernel
theorem dX6_reached_5 : decode cX6_reached 5 = .ok (.istore_n 3, 1) := by decide +kernel
theorem dX6_reached_6 : decode cX6_reached 6 = .ok (.iconst 0, 1) := by decide +kernel
theorem dX6_reached_7 : decode cX6_reached 7 = .ok (.istore 4, 2) := by decide +kernel
theorem dX6_reached_9 : decode cX6_reached 9 = .ok (.iconst 0, 1) := by decide +kernel
theorem dX6_reached_10 : decode cX6_reached 10 = .ok (.istore 5, 2) := by decide +kernel
theorem dX6_reached_12 : decode cX6_reached 12 = .ok (.iload 5, 2) := by decide +kernel
theorem dX6_reached_14 : decode cX6_reached 14 = .ok (.bipush 6, 2) := by decide +kernel
theorem dX6_reached_16 : decode cX6_reached 16 = .ok (.if_icmp .ge 30, 3) := by decide +kernel
theorem dX6_reached_19 : decode cX6_reached 19 = .ok (.iload 4, 2) := by decide +kernel
theorem dX6_reached_21 : decode cX6_reached 21 = .ok (.aload_n 0, 1) := by decide +kernel
theorem dX6_reached_22 : decode cX6_reached 22 = .ok (.iload 5, 2) := by decide +kernel
theorem dX6_reached_24 : decode cX6_reached 24 = .ok (.iload_n 3, 1) := by decide +kernel
theorem dX6_reached_25 : decode cX6_reached 25 = .ok (.invokevirtual 154, 3) := by decide +kernel
theorem dX6_reached_28 : decode cX6_reached 28 = .ok (.iload_n 2, 1) := by decide +kernel
theorem dX6_reached_29 : decode cX6_reached 29 = .ok (.if_icmp .ne 7, 3) := by decide +kernel
theorem dX6_reached_32 : decode cX6_reached 32 = .ok (.iconst 1, 1) := by decide +kernel
theorem dX6_reached_33 : decode cX6_reached 33 = .ok (.goto 4, 3) := by decide +kernel
theorem dX6_reached_36 : decode cX6_reached 36 = .ok (.iconst 0, 1) := by decide +kernel
theorem dX6_reached_37 : decode cX6_reached 37 = .ok (.iadd, 1) := by decide +kernel
theorem dX6_reached_38 : decode cX6_reached 38 = .ok (.istore 4, 2) := by decide +kernel
theorem dX6_reached_40 : decode cX6_reached 40 = .ok (.iinc 5 1, 3) := by decide +kernel
theorem dX6_reached_43 : decode cX6_reached 43 = .ok (.goto (-31), 3) := by decide +kernel
theorem dX6_reached_46 : decode cX6_reached 46 = .ok (.iload 4, 2) := by decide +kernel
theorem dX6_reached_48 : decode cX6_reached 48 = .ok (.ireturn, 1) := by decide +kernel
set_option maxRecDepth 20000 in
theorem ggX6_commonWay_X6_isNumber : GoodIn wsX6_commonWay wsX6_isNumber := goodIn_r _ [5, 6, 7, 4, 8] (by decide +kernel) (by decide +kernel)
set_option maxRecDepth 20000 in
theorem gX6_commonWay_X6_isNumber : GoodIn wsX6_commonWay (va_wsS RX6 169 yX6_isNumber wsX6_isNumber) := goodIn_app (goodIn_of _ (by decide +kernel)) ggX6_commonWay_X6_isNumber
set_option maxRecDepth 20000 in
theorem ggX6_commonWay_X6_makes : GoodIn wsX6_commonWay wsX6_makes := goodIn_r _ [12, 1, 13, 14, 15, 16, 4, 17, 18, 19, 20, 21, 22, 23, 24, 25, 26, 27, 28, 29, 30, 31, 32, 33, 34, 6, 7, 8, 35, 36, 37, 38, 39, 40, 41, 42, 113, 114, 115, 116, 117, 118, 119, 120, 121, 122, 123, 124, 125, 126, 127, 128, 129, 130] (by decide +kernel) (by decide +kernel)
set_option maxRecDepth 20000 in
theorem gX6_commonWay_X6_makes : GoodIn wsX6_commonWay (wsV RX6 172 RX6 yX6_makes wsX6_makes) := goodIn_app (goodIn_of _ (by decide +kernel)) ggX6_commonWay_X6_makes
set_option maxRecDepth 20000 in
theorem ggX6_commonWay_X6_reached : GoodIn wsX6_commonWay wsX6_reached := goodIn_r _ [46, 47, 48, 49, 4, 50, 13, 18, 51, 27, 52, 53, 54, 55, 56, 57, 58, 59, 60, 61, 62, 63, 64, 65, 66, 67, 68, 69, 70, 71, 72, 73, 74, 75, 76, 77, 78, 79, 80, 81, 82, 83, 84, 85, 86, 87, 88, 89, 90, 91, 92, 93, 94, 95, 96, 97, 98, 99, 100, 101, 102, 103, 104, 105, 106, 107, 108, 109, 110, 111, 112, 113, 114, 115, 116, 117, 118, 119, 120, 121, 122, 123, 124, 125, 126, 127, 128, 129, 130] (by decide +kernel) (by decide +kernel)
set_option maxRecDepth 20000 in
theorem gX6_commonWay_X6_reached : GoodIn wsX6_commonWay (wsV RX6 197 RX6 yX6_reached wsX6_reached) := goodIn_app (goodIn_of _ (by decide +kernel)) ggX6_commonWay_X6_reached
theorem dX6_commonWay_0 : decode cX6_commonWay 0 = .ok (.iload_n 1, 1) := by decide +kernel
theorem dX6_commonWay_1 : decode cX6_commonWay 1 = .ok (.invokestatic 169, 3) := by decide +kernel
theorem dX6_commonWay_4 : decode cX6_commonWay 4 = .ok (.ifCond .ne 6, 3) := by decide +kernel
theorem dX6_commonWay_7 : decode cX6_commonWay 7 = .ok (.bipush (-2), 2) := by decide +kernel
theorem dX6_commonWay_9 : decode cX6_commonWay 9 = .ok (.ireturn, 1) := by decide +kernel
theorem dX6_commonWay_10 : decode cX6_commonWay 10 = .ok (.aload_n 0, 1) := by decide +kernel
theorem dX6_commonWay_11 : decode cX6_commonWay 11 = .ok (.iload_n 1, 1) := by decide +kernel
theorem dX6_commonWay_12 : decode cX6_commonWay 12 = .ok (.invokevirtual 172, 3) := by decide +kernel
theorem dX6_commonWay_15 : decode cX6_commonWay 15 = .ok (.iconst 0, 1) := by decide +kernel
theorem dX6_commonWay_16 : decode cX6_commonWay 16 = .ok (.istore_n 2, 1) := by decide +kernel
theorem dX6_commonWay_17 : decode cX6_commonWay 17 = .ok (.iconst (-1), 1) := by decide +kernel
theorem dX6_commonWay_18 : decode cX6_commonWay 18 = .ok (.istore_n 3, 1) := by decide +kernel
theorem dX6_commonWay_19 : decode cX6_commonWay 19 = .ok (.iconst 0, 1) := by decide +kernel
theorem dX6_commonWay_20 : decode cX6_commonWay 20 = .ok (.istore 4, 2) := by decide +kernel
theorem dX6_commonWay_22 : decode cX6_commonWay 22 = .ok (.iload 4, 2) := by decide +kernel
theorem dX6_commonWay_24 : decode cX6_commonWay 24 = .ok (.aload_n 0, 1) := by decide +kernel
theorem dX6_commonWay_25 : decode cX6_commonWay 25 = .ok (.getfield 107, 3) := by decide +kernel
theorem dX6_commonWay_28 : decode cX6_commonWay 28 = .ok (.if_icmp .ge 44, 3) := by decide +kernel
theorem dX6_commonWay_31 : decode cX6_commonWay 31 = .ok (.aload_n 0, 1) := by decide +kernel
theorem dX6_commonWay_32 : decode cX6_commonWay 32 = .ok (.iload 4, 2) := by decide +kernel
theorem dX6_commonWay_34 : decode cX6_commonWay 34 = .ok (.iload_n 1, 1) := by decide +kernel
theorem dX6_commonWay_35 : decode cX6_commonWay 35 = .ok (.invokevirtual 197, 3) := by decide +kernel
theorem dX6_commonWay_38 : decode cX6_commonWay 38 = .ok (.istore 5, 2) := by decide +kernel
theorem dX6_commonWay_40 : decode cX6_commonWay 40 = .ok (.iload 5, 2) := by decide +kernel
theorem dX6_commonWay_42 : decode cX6_commonWay 42 = .ok (.iload_n 3, 1) := by decide +kernel
theorem dX6_commonWay_43 : decode cX6_commonWay 43 = .ok (.if_icmp .le 8, 3) := by decide +kernel
theorem dX6_commonWay_46 : decode cX6_commonWay 46 = .ok (.iload 4, 2) := by decide +kernel
theorem dX6_commonWay_48 : decode cX6_commonWay 48 = .ok (.goto 4, 3) := by decide +kernel
theorem dX6_commonWay_51 : decode cX6_commonWay 51 = .ok (.iload_n 2, 1) := by decide +kernel
theorem dX6_commonWay_52 : decode cX6_commonWay 52 = .ok (.istore_n 2, 1) := by decide +kernel
theorem dX6_commonWay_53 : decode cX6_commonWay 53 = .ok (.iload 5, 2) := by decide +kernel
theorem dX6_commonWay_55 : decode cX6_commonWay 55 = .ok (.iload_n 3, 1) := by decide +kernel
theorem dX6_commonWay_56 : decode cX6_commonWay 56 = .ok (.if_icmp .le 8, 3) := by decide +kernel
theorem dX6_commonWay_59 : decode cX6_commonWay 59 = .ok (.iload 5, 2) := by decide +kernel
theorem dX6_commonWay_61 : decode cX6_commonWay 61 = .ok (.goto 4, 3) := by decide +kernel
theorem dX6_commonWay_64 : decode cX6_commonWay 64 = .ok (.iload_n 3, 1) := by decide +kernel
theorem dX6_commonWay_65 : decode cX6_commonWay 65 = .ok (.istore_n 3, 1) := by decide +kernel
theorem dX6_commonWay_66 : decode cX6_commonWay 66 = .ok (.iinc 4 1, 3) := by decide +kernel
theorem dX6_commonWay_69 : decode cX6_commonWay 69 = .ok (.goto (-47), 3) := by decide +kernel
theorem dX6_commonWay_72 : decode cX6_commonWay 72 = .ok (.iload_n 2, 1) := by decide +kernel
theorem dX6_commonWay_73 : decode cX6_commonWay 73 = .ok (.ireturn, 1) := by decide +kernel
set_option maxRecDepth 20000 in
theorem ggX6_reach_X6_in : GoodIn wsX6_reach wsX6_in := goodIn_r _ [4] (by decide +kernel) (by decide +kernel)
set_option maxRecDepth 20000 in
theorem gX6_reach_X6_in : GoodIn wsX6_reach (va_wsS RX6 32 yX6_in wsX6_in) := goodIn_app (goodIn_of _ (by decide +kernel)) ggX6_reach_X6_in
set_option maxRecDepth 20000 in
theorem ggX6_reach_X6_isNumber : GoodIn wsX6_reach wsX6_isNumber := goodIn_r _ [7, 1, 2, 3, 4] (by decide +kernel) (by decide +kernel)
set_option maxRecDepth 20000 in
theorem gX6_reach_X6_isNumber : GoodIn wsX6_reach (va_wsS RX6 169 yX6_isNumber wsX6_isNumber) := goodIn_app (goodIn_of _ (by decide +kernel)) ggX6_reach_X6_isNumber
set_option maxRecDepth 20000 in
theorem ggX6_reach_X6_makes : GoodIn wsX6_reach wsX6_makes := goodIn_r _ [11, 12, 13, 14, 15, 16, 3, 17, 18, 19, 20, 21, 22, 23, 24, 25, 26, 27, 28, 29, 30, 31, 32, 33, 34, 1, 2, 4, 35, 36, 37, 38, 39, 40, 41, 42, 121, 122, 123, 124, 125, 126, 127, 128, 129, 130, 131, 132, 133, 134, 135, 136, 137, 138] (by decide +kernel) (by decide +kernel)
set_option maxRecDepth 20000 in
theorem gX6_reach_X6_makes : GoodIn wsX6_reach (wsV RX6 172 RX6 yX6_makes wsX6_makes) := goodIn_app (goodIn_of _ (by decide +kernel)) ggX6_reach_X6_makes
set_option maxRecDepth 20000 in
theorem ggX6_reach_X6_placeOf : GoodIn wsX6_reach wsX6_placeOf := goodIn_r _ [46, 12, 13, 47, 48, 49, 3, 50, 18, 27, 121, 122, 123, 124, 125, 126, 127, 128, 129, 130, 131, 132, 133, 134, 135, 136, 137, 138] (by decide +kernel) (by decide +kernel)
set_option maxRecDepth 20000 in
theorem gX6_reach_X6_placeOf : GoodIn wsX6_reach (wsV RX6 175 RX6 yX6_placeOf wsX6_placeOf) := goodIn_app (goodIn_of _ (by decide +kernel)) ggX6_reach_X6_placeOf
set_option maxRecDepth 20000 in
theorem ggX6_reach_X6_reached : GoodIn wsX6_reach wsX6_reached := goodIn_r _ [54, 55, 56, 57, 3, 58, 13, 18, 59, 27, 60, 61, 62, 63, 64, 65, 66, 67, 68, 69, 70, 71, 72, 73, 74, 75, 76, 77, 78, 79, 80, 81, 82, 83, 84, 85, 86, 87, 88, 89, 90, 91, 92, 93, 94, 95, 96, 97, 98, 99, 100, 101, 102, 103, 104, 105, 106, 107, 108, 109, 110, 111, 112, 113, 114, 115, 116, 117, 118, 119, 120, 121, 122, 123, 124, 125, 126, 127, 128, 129, 130, 131, 132, 133, 134, 135, 136, 137, 138] (by decide +kernel) (by decide +kernel)
set_option maxRecDepth 20000 in
theorem gX6_reach_X6_reached : GoodIn wsX6_reach (wsV RX6 197 RX6 yX6_reached wsX6_reached) := goodIn_app (goodIn_of _ (by decide +kernel)) ggX6_reach_X6_reached
theorem dX6_reach_0 : decode cX6_reach 0 = .ok (.iload_n 2, 1) := by decide +kernel
theorem dX6_reach_1 : decode cX6_reach 1 = .ok (.iconst 0, 1) := by decide +kernel
theorem dX6_reach_2 : decode cX6_reach 2 = .ok (.iconst 3, 1) := by decide +kernel
theorem dX6_reach_3 : decode cX6_reach 3 = .ok (.invokestatic 32, 3) := by decide +kernel
theorem dX6_reach_6 : decode cX6_reach 6 = .ok (.ifCond .ne 5, 3) := by decide +kernel
theorem dX6_reach_9 : decode cX6_reach 9 = .ok (.iconst (-1), 1) := by decide +kernel
theorem dX6_reach_10 : decode cX6_reach 10 = .ok (.ireturn, 1) := by decide +kernel
theorem dX6_reach_11 : decode cX6_reach 11 = .ok (.iload_n 1, 1) := by decide +kernel
theorem dX6_reach_12 : decode cX6_reach 12 = .ok (.invokestatic 169, 3) := by decide +kernel
theorem dX6_reach_15 : decode cX6_reach 15 = .ok (.ifCond .ne 6, 3) := by decide +kernel
theorem dX6_reach_18 : decode cX6_reach 18 = .ok (.bipush (-2), 2) := by decide +kernel
theorem dX6_reach_20 : decode cX6_reach 20 = .ok (.ireturn, 1) := by decide +kernel
theorem dX6_reach_21 : decode cX6_reach 21 = .ok (.aload_n 0, 1) := by decide +kernel
theorem dX6_reach_22 : decode cX6_reach 22 = .ok (.iload_n 1, 1) := by decide +kernel
theorem dX6_reach_23 : decode cX6_reach 23 = .ok (.invokevirtual 172, 3) := by decide +kernel
theorem dX6_reach_26 : decode cX6_reach 26 = .ok (.aload_n 0, 1) := by decide +kernel
theorem dX6_reach_27 : decode cX6_reach 27 = .ok (.aload_n 0, 1) := by decide +kernel
theorem dX6_reach_28 : decode cX6_reach 28 = .ok (.iload_n 2, 1) := by decide +kernel
theorem dX6_reach_29 : decode cX6_reach 29 = .ok (.invokevirtual 175, 3) := by decide +kernel
theorem dX6_reach_32 : decode cX6_reach 32 = .ok (.iload_n 1, 1) := by decide +kernel
theorem dX6_reach_33 : decode cX6_reach 33 = .ok (.invokevirtual 197, 3) := by decide +kernel
theorem dX6_reach_36 : decode cX6_reach 36 = .ok (.ireturn, 1) := by decide +kernel
set_option maxRecDepth 20000 in
theorem ggX6_untellable_X6_isHearer : GoodIn wsX6_untellable wsX6_isHearer := goodIn_r _ [4, 5, 6, 3, 7] (by decide +kernel) (by decide +kernel)
set_option maxRecDepth 20000 in
theorem gX6_untellable_X6_isHearer : GoodIn wsX6_untellable (va_wsS RX6 141 yX6_isHearer wsX6_isHearer) := goodIn_app (goodIn_of _ (by decide +kernel)) ggX6_untellable_X6_isHearer
set_option maxRecDepth 20000 in
theorem ggX6_untellable_X6_isNumber : GoodIn wsX6_untellable wsX6_isNumber := goodIn_r _ [10, 5, 6, 3, 7] (by decide +kernel) (by decide +kernel)
set_option maxRecDepth 20000 in
theorem gX6_untellable_X6_isNumber : GoodIn wsX6_untellable (va_wsS RX6 169 yX6_isNumber wsX6_isNumber) := goodIn_app (goodIn_of _ (by decide +kernel)) ggX6_untellable_X6_isNumber
set_option maxRecDepth 20000 in
theorem ggX6_untellable_X6_in : GoodIn wsX6_untellable wsX6_in := goodIn_r _ [7] (by decide +kernel) (by decide +kernel)
set_option maxRecDepth 20000 in
theorem gX6_untellable_X6_in : GoodIn wsX6_untellable (va_wsS RX6 32 yX6_in wsX6_in) := goodIn_app (goodIn_of _ (by decide +kernel)) ggX6_untellable_X6_in
set_option maxRecDepth 20000 in
theorem ggX6_untellable_X6_best : GoodIn wsX6_untellable wsX6_best := goodIn_r _ [14, 15, 16, 17, 18, 3, 19, 20, 21, 22, 23, 24, 25, 26, 27, 28, 29, 30, 31, 32, 33, 34, 35, 36, 37, 38, 39, 40, 41, 5, 6, 7, 42, 43, 44, 45, 46, 47, 48, 49, 50, 51, 52, 53, 54, 55, 56, 57, 58, 59, 60, 61, 62, 63, 64, 65, 66, 67, 68, 69, 70, 71, 72, 73, 74, 75, 76, 77, 78, 79, 80, 81, 82, 83, 84, 85, 86, 87, 88, 89, 90, 91, 92, 93, 94, 95, 96, 97, 98, 99, 100, 101, 102, 103, 104, 105, 106, 107, 108, 109, 110, 111, 112, 113, 114, 115, 116, 117, 118, 119, 120, 121, 122, 123, 124, 125, 126, 127, 128, 129, 130, 131, 132, 133] (by decide +kernel) (by decide +kernel)
set_option maxRecDepth 20000 in
theorem gX6_untellable_X6_best : GoodIn wsX6_untellable (wsV RX6 194 RX6 yX6_best wsX6_best) := goodIn_app (goodIn_of _ (by decide +kernel)) ggX6_untellable_X6_best
theorem dX6_untellable_0 : decode cX6_untellable 0 = .ok (.iload_n 1, 1) := by decide +kernel
theorem dX6_untellable_1 : decode cX6_untellable 1 = .ok (.invokestatic 141, 3) := by decide +kernel
theorem dX6_untellable_4 : decode cX6_untellable 4 = .ok (.ifCond .ne 5, 3) := by decide +kernel
theorem dX6_untellable_7 : decode cX6_untellable 7 = .ok (.iconst (-1), 1) := by decide +kernel
theorem dX6_untellable_8 : decode cX6_untellable 8 = .ok (.ireturn, 1) := by decide +kernel
theorem dX6_untellable_9 : decode cX6_untellable 9 = .ok (.iload_n 2, 1) := by decide +kernel
theorem dX6_untellable_10 : decode cX6_untellable 10 = .ok (.invokestatic 169, 3) := by decide +kernel
theorem dX6_untellable_13 : decode cX6_untellable 13 = .ok (.ifCond .eq 13, 3) := by decide +kernel
theorem dX6_untellable_16 : decode cX6_untellable 16 = .ok (.iload_n 3, 1) := by decide +kernel
theorem dX6_untellable_17 : decode cX6_untellable 17 = .ok (.iconst 1, 1) := by decide +kernel
theorem dX6_untellable_18 : decode cX6_untellable 18 = .ok (.bipush 40, 2) := by decide +kernel
theorem dX6_untellable_20 : decode cX6_untellable 20 = .ok (.invokestatic 32, 3) := by decide +kernel
theorem dX6_untellable_23 : decode cX6_untellable 23 = .ok (.ifCond .ne 6, 3) := by decide +kernel
theorem dX6_untellable_26 : decode cX6_untellable 26 = .ok (.bipush (-2), 2) := by decide +kernel
theorem dX6_untellable_28 : decode cX6_untellable 28 = .ok (.ireturn, 1) := by decide +kernel
theorem dX6_untellable_29 : decode cX6_untellable 29 = .ok (.iconst 0, 1) := by decide +kernel
theorem dX6_untellable_30 : decode cX6_untellable 30 = .ok (.istore 4, 2) := by decide +kernel
theorem dX6_untellable_32 : decode cX6_untellable 32 = .ok (.iload_n 2, 1) := by decide +kernel
theorem dX6_untellable_33 : decode cX6_untellable 33 = .ok (.istore 5, 2) := by decide +kernel
theorem dX6_untellable_35 : decode cX6_untellable 35 = .ok (.iload 5, 2) := by decide +kernel
theorem dX6_untellable_37 : decode cX6_untellable 37 = .ok (.iload_n 2, 1) := by decide +kernel
theorem dX6_untellable_38 : decode cX6_untellable 38 = .ok (.iload_n 3, 1) := by decide +kernel
theorem dX6_untellable_39 : decode cX6_untellable 39 = .ok (.iadd, 1) := by decide +kernel
theorem dX6_untellable_40 : decode cX6_untellable 40 = .ok (.if_icmp .ge 39, 3) := by decide +kernel
theorem dX6_untellable_43 : decode cX6_untellable 43 = .ok (.iload 5, 2) := by decide +kernel
theorem dX6_untellable_45 : decode cX6_untellable 45 = .ok (.sipush 8000, 3) := by decide +kernel
theorem dX6_untellable_48 : decode cX6_untellable 48 = .ok (.if_icmp .ge 31, 3) := by decide +kernel
theorem dX6_untellable_51 : decode cX6_untellable 51 = .ok (.iload 4, 2) := by decide +kernel
theorem dX6_untellable_53 : decode cX6_untellable 53 = .ok (.aload_n 0, 1) := by decide +kernel
theorem dX6_untellable_54 : decode cX6_untellable 54 = .ok (.iload_n 1, 1) := by decide +kernel
theorem dX6_untellable_55 : decode cX6_untellable 55 = .ok (.iload 5, 2) := by decide +kernel
theorem dX6_untellable_57 : decode cX6_untellable 57 = .ok (.invokevirtual 194, 3) := by decide +kernel
theorem dX6_untellable_60 : decode cX6_untellable 60 = .ok (.bipush (-5), 2) := by decide +kernel
theorem dX6_untellable_62 : decode cX6_untellable 62 = .ok (.if_icmp .ne 7, 3) := by decide +kernel
theorem dX6_untellable_65 : decode cX6_untellable 65 = .ok (.iconst 1, 1) := by decide +kernel
theorem dX6_untellable_66 : decode cX6_untellable 66 = .ok (.goto 4, 3) := by decide +kernel
theorem dX6_untellable_69 : decode cX6_untellable 69 = .ok (.iconst 0, 1) := by decide +kernel
theorem dX6_untellable_70 : decode cX6_untellable 70 = .ok (.iadd, 1) := by decide +kernel
theorem dX6_untellable_71 : decode cX6_untellable 71 = .ok (.istore 4, 2) := by decide +kernel
theorem dX6_untellable_73 : decode cX6_untellable 73 = .ok (.iinc 5 1, 3) := by decide +kernel
theorem dX6_untellable_76 : decode cX6_untellable 76 = .ok (.goto (-41), 3) := by decide +kernel
theorem dX6_untellable_79 : decode cX6_untellable 79 = .ok (.iload 4, 2) := by decide +kernel
theorem dX6_untellable_81 : decode cX6_untellable 81 = .ok (.ireturn, 1) := by decide +kernel
set_option maxRecDepth 20000 in
theorem ggX6_log_X6_in : GoodIn wsX6_log wsX6_in := goodIn_r _ [5] (by decide +kernel) (by decide +kernel)
set_option maxRecDepth 20000 in
theorem gX6_log_X6_in : GoodIn wsX6_log (va_wsS RX6 32 yX6_in wsX6_in) := goodIn_app (goodIn_of _ (by decide +kernel)) ggX6_log_X6_in
theorem dX6_log_0 : decode cX6_log 0 = .ok (.iload_n 1, 1) := by decide +kernel
theorem dX6_log_1 : decode cX6_log 1 = .ok (.ifCond .lt 12, 3) := by decide +kernel
theorem dX6_log_4 : decode cX6_log 4 = .ok (.iload_n 2, 1) := by decide +kernel
theorem dX6_log_5 : decode cX6_log 5 = .ok (.iconst 0, 1) := by decide +kernel
theorem dX6_log_6 : decode cX6_log 6 = .ok (.iconst 4, 1) := by decide +kernel
theorem dX6_log_7 : decode cX6_log 7 = .ok (.invokestatic 32, 3) := by decide +kernel
theorem dX6_log_10 : decode cX6_log 10 = .ok (.ifCond .ne 6, 3) := by decide +kernel
theorem dX6_log_13 : decode cX6_log 13 = .ok (.bipush (-2), 2) := by decide +kernel
theorem dX6_log_15 : decode cX6_log 15 = .ok (.ireturn, 1) := by decide +kernel
theorem dX6_log_16 : decode cX6_log 16 = .ok (.iload_n 1, 1) := by decide +kernel
theorem dX6_log_17 : decode cX6_log 17 = .ok (.aload_n 0, 1) := by decide +kernel
theorem dX6_log_18 : decode cX6_log 18 = .ok (.getfield 7, 3) := by decide +kernel
theorem dX6_log_21 : decode cX6_log 21 = .ok (.bipush 55, 2) := by decide +kernel
theorem dX6_log_23 : decode cX6_log 23 = .ok (.iaload, 1) := by decide +kernel
theorem dX6_log_24 : decode cX6_log 24 = .ok (.if_icmp .ge 29, 3) := by decide +kernel
theorem dX6_log_27 : decode cX6_log 27 = .ok (.aload_n 0, 1) := by decide +kernel
theorem dX6_log_28 : decode cX6_log 28 = .ok (.getfield 7, 3) := by decide +kernel
theorem dX6_log_31 : decode cX6_log 31 = .ok (.bipush 56, 2) := by decide +kernel
theorem dX6_log_33 : decode cX6_log 33 = .ok (.iconst 5, 1) := by decide +kernel
theorem dX6_log_34 : decode cX6_log 34 = .ok (.aload_n 0, 1) := by decide +kernel
theorem dX6_log_35 : decode cX6_log 35 = .ok (.getfield 7, 3) := by decide +kernel
theorem dX6_log_38 : decode cX6_log 38 = .ok (.bipush 55, 2) := by decide +kernel
theorem dX6_log_40 : decode cX6_log 40 = .ok (.iaload, 1) := by decide +kernel
theorem dX6_log_41 : decode cX6_log 41 = .ok (.iconst 1, 1) := by decide +kernel
theorem dX6_log_42 : decode cX6_log 42 = .ok (.isub, 1) := by decide +kernel
theorem dX6_log_43 : decode cX6_log 43 = .ok (.iload_n 1, 1) := by decide +kernel
theorem dX6_log_44 : decode cX6_log 44 = .ok (.isub, 1) := by decide +kernel
theorem dX6_log_45 : decode cX6_log 45 = .ok (.imul, 1) := by decide +kernel
theorem dX6_log_46 : decode cX6_log 46 = .ok (.iadd, 1) := by decide +kernel
theorem dX6_log_47 : decode cX6_log 47 = .ok (.iload_n 2, 1) := by decide +kernel
theorem dX6_log_48 : decode cX6_log 48 = .ok (.iadd, 1) := by decide +kernel
theorem dX6_log_49 : decode cX6_log 49 = .ok (.iaload, 1) := by decide +kernel
theorem dX6_log_50 : decode cX6_log 50 = .ok (.goto 5, 3) := by decide +kernel
theorem dX6_log_53 : decode cX6_log 53 = .ok (.bipush (-5), 2) := by decide +kernel
theorem dX6_log_55 : decode cX6_log 55 = .ok (.ireturn, 1) := by decide +kernel
set_option maxRecDepth 20000 in
theorem ggX6_sumOf_X6_known : GoodIn wsX6_sumOf wsX6_known := goodIn_r _ [6, 1, 7, 8, 9, 10, 11, 12, 13, 14, 15, 16, 17, 18, 19, 20, 21, 22, 23, 24] (by decide +kernel) (by decide +kernel)
set_option maxRecDepth 20000 in
theorem gX6_sumOf_X6_known : GoodIn wsX6_sumOf (wsV RX6 147 RX6 yX6_known wsX6_known) := goodIn_app (goodIn_of _ (by decide +kernel)) ggX6_sumOf_X6_known
theorem dX6_sumOf_0 : decode cX6_sumOf 0 = .ok (.iconst 0, 1) := by decide +kernel
theorem dX6_sumOf_1 : decode cX6_sumOf 1 = .ok (.istore_n 2, 1) := by decide +kernel
theorem dX6_sumOf_2 : decode cX6_sumOf 2 = .ok (.iconst 0, 1) := by decide +kernel
theorem dX6_sumOf_3 : decode cX6_sumOf 3 = .ok (.istore_n 3, 1) := by decide +kernel
theorem dX6_sumOf_4 : decode cX6_sumOf 4 = .ok (.iload_n 3, 1) := by decide +kernel
theorem dX6_sumOf_5 : decode cX6_sumOf 5 = .ok (.bipush 6, 2) := by decide +kernel
theorem dX6_sumOf_7 : decode cX6_sumOf 7 = .ok (.if_icmp .ge 99, 3) := by decide +kernel
theorem dX6_sumOf_10 : decode cX6_sumOf 10 = .ok (.bipush 9, 2) := by decide +kernel
theorem dX6_sumOf_12 : decode cX6_sumOf 12 = .ok (.iload_n 3, 1) := by decide +kernel
theorem dX6_sumOf_13 : decode cX6_sumOf 13 = .ok (.imul, 1) := by decide +kernel
theorem dX6_sumOf_14 : decode cX6_sumOf 14 = .ok (.istore 4, 2) := by decide +kernel
theorem dX6_sumOf_16 : decode cX6_sumOf 16 = .ok (.iload_n 2, 1) := by decide +kernel
theorem dX6_sumOf_17 : decode cX6_sumOf 17 = .ok (.iload_n 1, 1) := by decide +kernel
theorem dX6_sumOf_18 : decode cX6_sumOf 18 = .ok (.ifCond .ne 16, 3) := by decide +kernel
theorem dX6_sumOf_21 : decode cX6_sumOf 21 = .ok (.aload_n 0, 1) := by decide +kernel
theorem dX6_sumOf_22 : decode cX6_sumOf 22 = .ok (.getfield 7, 3) := by decide +kernel
theorem dX6_sumOf_25 : decode cX6_sumOf 25 = .ok (.iload 4, 2) := by decide +kernel
theorem dX6_sumOf_27 : decode cX6_sumOf 27 = .ok (.bipush 7, 2) := by decide +kernel
theorem dX6_sumOf_29 : decode cX6_sumOf 29 = .ok (.iadd, 1) := by decide +kernel
theorem dX6_sumOf_30 : decode cX6_sumOf 30 = .ok (.iaload, 1) := by decide +kernel
theorem dX6_sumOf_31 : decode cX6_sumOf 31 = .ok (.goto 67, 3) := by decide +kernel
theorem dX6_sumOf_34 : decode cX6_sumOf 34 = .ok (.iload_n 1, 1) := by decide +kernel
theorem dX6_sumOf_35 : decode cX6_sumOf 35 = .ok (.iconst 1, 1) := by decide +kernel
theorem dX6_sumOf_36 : decode cX6_sumOf 36 = .ok (.if_icmp .ne 16, 3) := by decide +kernel
theorem dX6_sumOf_39 : decode cX6_sumOf 39 = .ok (.aload_n 0, 1) := by decide +kernel
theorem dX6_sumOf_40 : decode cX6_sumOf 40 = .ok (.getfield 7, 3) := by decide +kernel
theorem dX6_sumOf_43 : decode cX6_sumOf 43 = .ok (.iload 4, 2) := by decide +kernel
theorem dX6_sumOf_45 : decode cX6_sumOf 45 = .ok (.bipush 8, 2) := by decide +kernel
theorem dX6_sumOf_47 : decode cX6_sumOf 47 = .ok (.iadd, 1) := by decide +kernel
theorem dX6_sumOf_48 : decode cX6_sumOf 48 = .ok (.iaload, 1) := by decide +kernel
theorem dX6_sumOf_49 : decode cX6_sumOf 49 = .ok (.goto 49, 3) := by decide +kernel
theorem dX6_sumOf_52 : decode cX6_sumOf 52 = .ok (.iload_n 1, 1) := by decide +kernel
theorem dX6_sumOf_53 : decode cX6_sumOf 53 = .ok (.iconst 2, 1) := by decide +kernel
theorem dX6_sumOf_54 : decode cX6_sumOf 54 = .ok (.if_icmp .ne 11, 3) := by decide +kernel
theorem dX6_sumOf_57 : decode cX6_sumOf 57 = .ok (.aload_n 0, 1) := by decide +kernel
theorem dX6_sumOf_58 : decode cX6_sumOf 58 = .ok (.iload_n 3, 1) := by decide +kernel
theorem dX6_sumOf_59 : decode cX6_sumOf 59 = .ok (.invokevirtual 147, 3) := by decide +kernel
theorem dX6_sumOf_62 : decode cX6_sumOf 62 = .ok (.goto 36, 3) := by decide +kernel
theorem dX6_sumOf_65 : decode cX6_sumOf 65 = .ok (.aload_n 0, 1) := by decide +kernel
theorem dX6_sumOf_66 : decode cX6_sumOf 66 = .ok (.getfield 7, 3) := by decide +kernel
theorem dX6_sumOf_69 : decode cX6_sumOf 69 = .ok (.iload 4, 2) := by decide +kernel
theorem dX6_sumOf_71 : decode cX6_sumOf 71 = .ok (.iconst 3, 1) := by decide +kernel
theorem dX6_sumOf_72 : decode cX6_sumOf 72 = .ok (.iadd, 1) := by decide +kernel
theorem dX6_sumOf_73 : decode cX6_sumOf 73 = .ok (.iaload, 1) := by decide +kernel
theorem dX6_sumOf_74 : decode cX6_sumOf 74 = .ok (.aload_n 0, 1) := by decide +kernel
theorem dX6_sumOf_75 : decode cX6_sumOf 75 = .ok (.getfield 7, 3) := by decide +kernel
theorem dX6_sumOf_78 : decode cX6_sumOf 78 = .ok (.iload 4, 2) := by decide +kernel
theorem dX6_sumOf_80 : decode cX6_sumOf 80 = .ok (.iconst 3, 1) := by decide +kernel
theorem dX6_sumOf_81 : decode cX6_sumOf 81 = .ok (.iadd, 1) := by decide +kernel
theorem dX6_sumOf_82 : decode cX6_sumOf 82 = .ok (.iconst 1, 1) := by decide +kernel
theorem dX6_sumOf_83 : decode cX6_sumOf 83 = .ok (.iadd, 1) := by decide +kernel
theorem dX6_sumOf_84 : decode cX6_sumOf 84 = .ok (.iaload, 1) := by decide +kernel
theorem dX6_sumOf_85 : decode cX6_sumOf 85 = .ok (.iadd, 1) := by decide +kernel
theorem dX6_sumOf_86 : decode cX6_sumOf 86 = .ok (.aload_n 0, 1) := by decide +kernel
theorem dX6_sumOf_87 : decode cX6_sumOf 87 = .ok (.getfield 7, 3) := by decide +kernel
theorem dX6_sumOf_90 : decode cX6_sumOf 90 = .ok (.iload 4, 2) := by decide +kernel
theorem dX6_sumOf_92 : decode cX6_sumOf 92 = .ok (.iconst 3, 1) := by decide +kernel
theorem dX6_sumOf_93 : decode cX6_sumOf 93 = .ok (.iadd, 1) := by decide +kernel
theorem dX6_sumOf_94 : decode cX6_sumOf 94 = .ok (.iconst 2, 1) := by decide +kernel
theorem dX6_sumOf_95 : decode cX6_sumOf 95 = .ok (.iadd, 1) := by decide +kernel
theorem dX6_sumOf_96 : decode cX6_sumOf 96 = .ok (.iaload, 1) := by decide +kernel
theorem dX6_sumOf_97 : decode cX6_sumOf 97 = .ok (.iadd, 1) := by decide +kernel
theorem dX6_sumOf_98 : decode cX6_sumOf 98 = .ok (.iadd, 1) := by decide +kernel
theorem dX6_sumOf_99 : decode cX6_sumOf 99 = .ok (.istore_n 2, 1) := by decide +kernel
theorem dX6_sumOf_100 : decode cX6_sumOf 100 = .ok (.iinc 3 1, 3) := by decide +kernel
theorem dX6_sumOf_103 : decode cX6_sumOf 103 = .ok (.goto (-99), 3) := by decide +kernel
theorem dX6_sumOf_106 : decode cX6_sumOf 106 = .ok (.iload_n 2, 1) := by decide +kernel
theorem dX6_sumOf_107 : decode cX6_sumOf 107 = .ok (.ireturn, 1) := by decide +kernel
set_option maxRecDepth 20000 in
theorem ggX6_sum_X6_in : GoodIn wsX6_sum wsX6_in := goodIn_r _ [4] (by decide +kernel) (by decide +kernel)
set_option maxRecDepth 20000 in
theorem gX6_sum_X6_in : GoodIn wsX6_sum (va_wsS RX6 32 yX6_in wsX6_in) := goodIn_app (goodIn_of _ (by decide +kernel)) ggX6_sum_X6_in
set_option maxRecDepth 20000 in
theorem ggX6_sum_X6_sumOf : GoodIn wsX6_sum wsX6_sumOf := goodIn_r _ [8, 9, 10, 11, 12, 3, 13, 14, 15, 16, 17, 18, 19, 20, 21, 22, 23, 24, 25, 26, 27, 28, 29, 30, 31] (by decide +kernel) (by decide +kernel)
set_option maxRecDepth 20000 in
theorem gX6_sum_X6_sumOf : GoodIn wsX6_sum (wsV RX6 200 RX6 yX6_sumOf wsX6_sumOf) := goodIn_app (goodIn_of _ (by decide +kernel)) ggX6_sum_X6_sumOf
theorem dX6_sum_0 : decode cX6_sum 0 = .ok (.iload_n 1, 1) := by decide +kernel
theorem dX6_sum_1 : decode cX6_sum 1 = .ok (.iconst 0, 1) := by decide +kernel
theorem dX6_sum_2 : decode cX6_sum 2 = .ok (.iconst 3, 1) := by decide +kernel
theorem dX6_sum_3 : decode cX6_sum 3 = .ok (.invokestatic 32, 3) := by decide +kernel
theorem dX6_sum_6 : decode cX6_sum 6 = .ok (.ifCond .eq 11, 3) := by decide +kernel
theorem dX6_sum_9 : decode cX6_sum 9 = .ok (.aload_n 0, 1) := by decide +kernel
theorem dX6_sum_10 : decode cX6_sum 10 = .ok (.iload_n 1, 1) := by decide +kernel
theorem dX6_sum_11 : decode cX6_sum 11 = .ok (.invokevirtual 200, 3) := by decide +kernel
theorem dX6_sum_14 : decode cX6_sum 14 = .ok (.goto 5, 3) := by decide +kernel
theorem dX6_sum_17 : decode cX6_sum 17 = .ok (.bipush (-2), 2) := by decide +kernel
theorem dX6_sum_19 : decode cX6_sum 19 = .ok (.ireturn, 1) := by decide +kernel
theorem dX6_patience_0 : decode cX6_patience 0 = .ok (.aload_n 0, 1) := by decide +kernel
theorem dX6_patience_1 : decode cX6_patience 1 = .ok (.getfield 7, 3) := by decide +kernel
theorem dX6_patience_4 : decode cX6_patience 4 = .ok (.bipush 54, 2) := by decide +kernel
theorem dX6_patience_6 : decode cX6_patience 6 = .ok (.iaload, 1) := by decide +kernel
theorem dX6_patience_7 : decode cX6_patience 7 = .ok (.ireturn, 1) := by decide +kernel
set_option maxRecDepth 20000 in
theorem ggX6_share_X6_sumOf : GoodIn wsX6_share wsX6_sumOf := goodIn_r _ [5, 6, 7, 8, 9, 4, 10, 11, 12, 13, 14, 15, 16, 17, 18, 19, 20, 21, 22, 23, 24, 25, 26, 27, 28] (by decide +kernel) (by decide +kernel)
set_option maxRecDepth 20000 in
theorem gX6_share_X6_sumOf : GoodIn wsX6_share (wsV RX6 200 RX6 yX6_sumOf wsX6_sumOf) := goodIn_app (goodIn_of _ (by decide +kernel)) ggX6_share_X6_sumOf
theorem dX6_share_0 : decode cX6_share 0 = .ok (.aload_n 0, 1) := by decide +kernel
theorem dX6_share_1 : decode cX6_share 1 = .ok (.iconst 0, 1) := by decide +kernel
theorem dX6_share_2 : decode cX6_share 2 = .ok (.invokevirtual 200, 3) := by decide +kernel
theorem dX6_share_5 : decode cX6_share 5 = .ok (.istore_n 1, 1) := by decide +kernel
theorem dX6_share_6 : decode cX6_share 6 = .ok (.iload_n 1, 1) := by decide +kernel
theorem dX6_share_7 : decode cX6_share 7 = .ok (.ifCond .ne 7, 3) := by decide +kernel
theorem dX6_share_10 : decode cX6_share 10 = .ok (.fconst 1, 1) := by decide +kernel
theorem dX6_share_11 : decode cX6_share 11 = .ok (.goto 14, 3) := by decide +kernel
theorem dX6_share_14 : decode cX6_share 14 = .ok (.iload_n 1, 1) := by decide +kernel
theorem dX6_share_15 : decode cX6_share 15 = .ok (.aload_n 0, 1) := by decide +kernel
theorem dX6_share_16 : decode cX6_share 16 = .ok (.iconst 1, 1) := by decide +kernel
theorem dX6_share_17 : decode cX6_share 17 = .ok (.invokevirtual 200, 3) := by decide +kernel
theorem dX6_share_20 : decode cX6_share 20 = .ok (.isub, 1) := by decide +kernel
theorem dX6_share_21 : decode cX6_share 21 = .ok (.i2f, 1) := by decide +kernel
theorem dX6_share_22 : decode cX6_share 22 = .ok (.iload_n 1, 1) := by decide +kernel
theorem dX6_share_23 : decode cX6_share 23 = .ok (.i2f, 1) := by decide +kernel
theorem dX6_share_24 : decode cX6_share 24 = .ok (.fdiv, 1) := by decide +kernel
theorem dX6_share_25 : decode cX6_share 25 = .ok (.freturn, 1) := by decide +kernel
theorem dJ9_max_7cf53_0 : decode cJ9_max_7cf53 0 = .ok (.iload_n 0, 1) := by decide +kernel
theorem dJ9_max_7cf53_1 : decode cJ9_max_7cf53 1 = .ok (.iload_n 1, 1) := by decide +kernel
theorem dJ9_max_7cf53_2 : decode cJ9_max_7cf53 2 = .ok (.if_icmp .lt 7, 3) := by decide +kernel
theorem dJ9_max_7cf53_5 : decode cJ9_max_7cf53 5 = .ok (.iload_n 0, 1) := by decide +kernel
theorem dJ9_max_7cf53_6 : decode cJ9_max_7cf53 6 = .ok (.goto 4, 3) := by decide +kernel
theorem dJ9_max_7cf53_9 : decode cJ9_max_7cf53 9 = .ok (.iload_n 1, 1) := by decide +kernel
theorem dJ9_max_7cf53_10 : decode cJ9_max_7cf53 10 = .ok (.ireturn, 1) := by decide +kernel
theorem dJ9_min_7cf53_0 : decode cJ9_min_7cf53 0 = .ok (.iload_n 0, 1) := by decide +kernel
theorem dJ9_min_7cf53_1 : decode cJ9_min_7cf53 1 = .ok (.iload_n 1, 1) := by decide +kernel
theorem dJ9_min_7cf53_2 : decode cJ9_min_7cf53 2 = .ok (.if_icmp .gt 7, 3) := by decide +kernel
end
section
/-! ROW LAYER: GoX is W for every heap that holds the world w and every locals array that holds lv. -/
abbrev vwCl : List vw_C := [(RX0, TX0, 11), (RX1, TX1, 3), (RX3, TX3, 5), (RX4, TX4, 2), (RX5, TX5, 6), (RX6, TX6, 18)]
variable {p : Program} {l : Launch} {e : Env} {R : Room} {s : State} {m : MethodId} {args : Array Value} {below : List Frame} {meth : Method} {c : Code} {Q : State → Prop}
variable {D : va_G} {A : Nat → Prop} {tys : List (ClassId × FieldType)} {own : String} {cc : ByteArray} {nL : Nat} {ws : List Cond} {kc ks : Nat} {pc : Nat} {lv lv2 : List (Nat × Value)} {st : List Value} {w w2 : va_W}
def CxX (p : Program) (s : State) (m : MethodId) (args : Array Value) (c : Code) (D : va_G) (tys : List (ClassId × FieldType)) (own : String) (cc : ByteArray) (nL : Nat) (ws : List Cond) : Prop :=
  p.tables.exec = Jvm.exec ∧ c.code = cc ∧ c.maxLocals = nL ∧ s.vm.findClass own = some m.cls ∧ (∀ q ∈ ws, q.before args s = true) ∧ va_K D vwCl tys s
def GoX (p : Program) (l : Launch) (e : Env) (R : Room) (s : State) (m : MethodId) (args : Array Value) (below : List Frame) (meth : Method) (c : Code) (D : va_G) (A : Nat → Prop) (nL kc ks : Nat) (Q : State → Prop) (pc : Nat) (lv : List (Nat × Value)) (st : List Value) (w : va_W) : Prop :=
  ∀ (H : Heap) (locs : List Loc) (ls : Array Slot), va_P D vwCl w H → va_D A w → va_S A s.heap H locs → lv_has ls nL lv → W p l e R s m args below meth c H locs kc ks Q (F0 m pc ls st)
def OKX (D : va_G) (tys : List (ClassId × FieldType)) (w : va_W) (A : Nat → Prop) (U : State) : Prop := va_P D vwCl w U.heap ∧ va_K D vwCl tys U ∧ va_D A w
theorem OKX_blind {D : va_G} {tys : List (ClassId × FieldType)} {w : va_W} {A : Nat → Prop} {av : List Value} : FrameBlind (va_Pc av (OKX D tys w A)) := fun a U g mk q => ⟨q.1, q.2.1, va_K.moved (u := U) (U := U.calling g mk a) (Vm.Alike.refl U.vm) q.2.2.1, q.2.2.2⟩
theorem vp_lt {i : Int32} {n : Nat} (h : vp_in i n) : i.toNatClampNeg < n := Nat.not_le.mp fun q => h (Or.inr q)
abbrev lvF (i : Nat) (lv : List (Nat × Value)) : List (Nat × Value) := lv.filter (fun q => !(q.1 == i) && !(q.1 + 1 == i && q.2.category == 2))
abbrev lvF2 (i : Nat) (lv : List (Nat × Value)) : List (Nat × Value) := lv.filter (fun q => !(q.1 == i) && (!(q.1 == i + 1) && !(q.1 + 1 == i && q.2.category == 2)))
theorem g_iconst (C : CxX p s m args c D tys own cc nL ws) {z : Int} (v : Int32) (hdg : decode cc pc = .ok (.iconst z, 1)) (hv : Int32.ofInt z = v) (k : GoX p l e R s m args below meth c D A nL kc ks Q (pc + 1) lv (.int v :: st) w) : GoX p l e R s m args below meth c D A nL kc ks Q pc lv st w := by
  intro H locs ls hP hD hS hl
  exact lv_iconst C.1 C.2.1 hdg hv (k H locs ls hP hD hS hl)
theorem g_bipush (C : CxX p s m args c D tys own cc nL ws) {z : Int} (v : Int32) (hdg : decode cc pc = .ok (.bipush z, 2)) (hv : (Int8.ofInt z).toInt32 = v) (k : GoX p l e R s m args below meth c D A nL kc ks Q (pc + 2) lv (.int v :: st) w) : GoX p l e R s m args below meth c D A nL kc ks Q pc lv st w := by
  intro H locs ls hP hD hS hl
  exact lv_bipush C.1 C.2.1 hdg hv (k H locs ls hP hD hS hl)
theorem g_sipush (C : CxX p s m args c D tys own cc nL ws) {z : Int} (v : Int32) (hdg : decode cc pc = .ok (.sipush z, 3)) (hv : (Int16.ofInt z).toInt32 = v) (k : GoX p l e R s m args below meth c D A nL kc ks Q (pc + 3) lv (.int v :: st) w) : GoX p l e R s m args below meth c D A nL kc ks Q pc lv st w := by
  intro H locs ls hP hD hS hl
  exact lv_sipush C.1 C.2.1 hdg hv (k H locs ls hP hD hS hl)
theorem g_lconst (C : CxX p s m args c D tys own cc nL ws) {z : Fin 2} (v : Int64) (hdg : decode cc pc = .ok (.lconst z, 1)) (hv : Int64.ofNat (z : Nat) = v) (k : GoX p l e R s m args below meth c D A nL kc ks Q (pc + 1) lv (.long v :: st) w) : GoX p l e R s m args below meth c D A nL kc ks Q pc lv st w := by
  intro H locs ls hP hD hS hl
  exact lv_lconst C.1 C.2.1 hdg hv (k H locs ls hP hD hS hl)
theorem g_fconst1 (C : CxX p s m args c D tys own cc nL ws)  (hdg : decode cc pc = .ok (.fconst 1, 1)) (k : GoX p l e R s m args below meth c D A nL kc ks Q (pc + 1) lv (.float FP.fconst1 :: st) w) : GoX p l e R s m args below meth c D A nL kc ks Q pc lv st w := by
  intro H locs ls hP hD hS hl
  exact lv_fconst1 C.1 C.2.1 hdg (k H locs ls hP hD hS hl)
theorem g_iload_n (C : CxX p s m args c D tys own cc nL ws) {k9 : Fin 4} {i : Nat} {x : Int32} (q0 : Nat) (hdg : decode cc pc = .ok (.iload_n k9, 1)) (hi : (k9 : Nat) = i) (hk : lv[q0]? = some (i, .int x)) (k : GoX p l e R s m args below meth c D A nL kc ks Q (pc + 1) lv (.int x :: st) w) : GoX p l e R s m args below meth c D A nL kc ks Q pc lv st w := by
  intro H locs ls hP hD hS hl
  exact lv_iload_n C.1 C.2.1 hdg hi (lv_at hl q0 hk) (k H locs ls hP hD hS hl)
theorem g_iload (C : CxX p s m args c D tys own cc nL ws) {i : Nat} {x : Int32} (q0 : Nat) (hdg : decode cc pc = .ok (.iload i, 2)) (hk : lv[q0]? = some (i, .int x)) (k : GoX p l e R s m args below meth c D A nL kc ks Q (pc + 2) lv (.int x :: st) w) : GoX p l e R s m args below meth c D A nL kc ks Q pc lv st w := by
  intro H locs ls hP hD hS hl
  exact lv_iload C.1 C.2.1 hdg (lv_at hl q0 hk) (k H locs ls hP hD hS hl)
theorem g_lload_n (C : CxX p s m args c D tys own cc nL ws) {k9 : Fin 4} {i : Nat} {x : Int64} (q0 : Nat) (hdg : decode cc pc = .ok (.lload_n k9, 1)) (hi : (k9 : Nat) = i) (hk : lv[q0]? = some (i, .long x)) (k : GoX p l e R s m args below meth c D A nL kc ks Q (pc + 1) lv (.long x :: st) w) : GoX p l e R s m args below meth c D A nL kc ks Q pc lv st w := by
  intro H locs ls hP hD hS hl
  exact lv_lload_n C.1 C.2.1 hdg hi (lv_at hl q0 hk) (k H locs ls hP hD hS hl)
theorem g_lload (C : CxX p s m args c D tys own cc nL ws) {i : Nat} {x : Int64} (q0 : Nat) (hdg : decode cc pc = .ok (.lload i, 2)) (hk : lv[q0]? = some (i, .long x)) (k : GoX p l e R s m args below meth c D A nL kc ks Q (pc + 2) lv (.long x :: st) w) : GoX p l e R s m args below meth c D A nL kc ks Q pc lv st w := by
  intro H locs ls hP hD hS hl
  exact lv_lload C.1 C.2.1 hdg (lv_at hl q0 hk) (k H locs ls hP hD hS hl)
theorem g_aload_n (C : CxX p s m args c D tys own cc nL ws) {k9 : Fin 4} {i : Nat} {x : Nat} (q0 : Nat) (hdg : decode cc pc = .ok (.aload_n k9, 1)) (hi : (k9 : Nat) = i) (hk : lv[q0]? = some (i, .ref x)) (k : GoX p l e R s m args below meth c D A nL kc ks Q (pc + 1) lv (.ref x :: st) w) : GoX p l e R s m args below meth c D A nL kc ks Q pc lv st w := by
  intro H locs ls hP hD hS hl
  exact lv_aload_n C.1 C.2.1 hdg hi (lv_at hl q0 hk) (k H locs ls hP hD hS hl)
theorem g_aload (C : CxX p s m args c D tys own cc nL ws) {i : Nat} {x : Nat} (q0 : Nat) (hdg : decode cc pc = .ok (.aload i, 2)) (hk : lv[q0]? = some (i, .ref x)) (k : GoX p l e R s m args below meth c D A nL kc ks Q (pc + 2) lv (.ref x :: st) w) : GoX p l e R s m args below meth c D A nL kc ks Q pc lv st w := by
  intro H locs ls hP hD hS hl
  exact lv_aload C.1 C.2.1 hdg (lv_at hl q0 hk) (k H locs ls hP hD hS hl)
theorem g_fload_n (C : CxX p s m args c D tys own cc nL ws) {k9 : Fin 4} {i : Nat} {x : UInt32} (q0 : Nat) (hdg : decode cc pc = .ok (.fload_n k9, 1)) (hi : (k9 : Nat) = i) (hk : lv[q0]? = some (i, .float x)) (k : GoX p l e R s m args below meth c D A nL kc ks Q (pc + 1) lv (.float x :: st) w) : GoX p l e R s m args below meth c D A nL kc ks Q pc lv st w := by
  intro H locs ls hP hD hS hl
  exact lv_fload_n C.1 C.2.1 hdg hi (lv_at hl q0 hk) (k H locs ls hP hD hS hl)
theorem g_fload (C : CxX p s m args c D tys own cc nL ws) {i : Nat} {x : UInt32} (q0 : Nat) (hdg : decode cc pc = .ok (.fload i, 2)) (hk : lv[q0]? = some (i, .float x)) (k : GoX p l e R s m args below meth c D A nL kc ks Q (pc + 2) lv (.float x :: st) w) : GoX p l e R s m args below meth c D A nL kc ks Q pc lv st w := by
  intro H locs ls hP hD hS hl
  exact lv_fload C.1 C.2.1 hdg (lv_at hl q0 hk) (k H locs ls hP hD hS hl)
theorem g_dload_n (C : CxX p s m args c D tys own cc nL ws) {k9 : Fin 4} {i : Nat} {x : UInt64} (q0 : Nat) (hdg : decode cc pc = .ok (.dload_n k9, 1)) (hi : (k9 : Nat) = i) (hk : lv[q0]? = some (i, .double x)) (k : GoX p l e R s m args below meth c D A nL kc ks Q (pc + 1) lv (.double x :: st) w) : GoX p l e R s m args below meth c D A nL kc ks Q pc lv st w := by
  intro H locs ls hP hD hS hl
  exact lv_dload_n C.1 C.2.1 hdg hi (lv_at hl q0 hk) (k H locs ls hP hD hS hl)
theorem g_dload (C : CxX p s m args c D tys own cc nL ws) {i : Nat} {x : UInt64} (q0 : Nat) (hdg : decode cc pc = .ok (.dload i, 2)) (hk : lv[q0]? = some (i, .double x)) (k : GoX p l e R s m args below meth c D A nL kc ks Q (pc + 2) lv (.double x :: st) w) : GoX p l e R s m args below meth c D A nL kc ks Q pc lv st w := by
  intro H locs ls hP hD hS hl
  exact lv_dload C.1 C.2.1 hdg (lv_at hl q0 hk) (k H locs ls hP hD hS hl)
theorem g_istore_n (C : CxX p s m args c D tys own cc nL ws) {k9 : Fin 4} {i : Nat} {x : Int32} (hdg : decode cc pc = .ok (.istore_n k9, 1)) (hi : (k9 : Nat) = i) (hn : i < nL) (hv : (i, Value.int x) :: lvF i lv = lv2) (k : GoX p l e R s m args below meth c D A nL kc ks Q (pc + 1) lv2 st w) : GoX p l e R s m args below meth c D A nL kc ks Q pc lv (.int x :: st) w := by
  intro H locs ls hP hD hS hl
  exact lv_istore_n C.1 C.2.1 hdg hi hl hn hv (fun ls2 hl2 => k H locs ls2 hP hD hS hl2)
theorem g_istore (C : CxX p s m args c D tys own cc nL ws) {i : Nat} {x : Int32} (hdg : decode cc pc = .ok (.istore i, 2)) (hn : i < nL) (hv : (i, Value.int x) :: lvF i lv = lv2) (k : GoX p l e R s m args below meth c D A nL kc ks Q (pc + 2) lv2 st w) : GoX p l e R s m args below meth c D A nL kc ks Q pc lv (.int x :: st) w := by
  intro H locs ls hP hD hS hl
  exact lv_istore C.1 C.2.1 hdg hl hn hv (fun ls2 hl2 => k H locs ls2 hP hD hS hl2)
theorem g_lstore_n (C : CxX p s m args c D tys own cc nL ws) {k9 : Fin 4} {i : Nat} {x : Int64} (hdg : decode cc pc = .ok (.lstore_n k9, 1)) (hi : (k9 : Nat) = i) (hn : i + 1 < nL) (hv : (i, Value.long x) :: lvF2 i lv = lv2) (k : GoX p l e R s m args below meth c D A nL kc ks Q (pc + 1) lv2 st w) : GoX p l e R s m args below meth c D A nL kc ks Q pc lv (.long x :: st) w := by
  intro H locs ls hP hD hS hl
  exact lv_lstore_n C.1 C.2.1 hdg hi hl hn hv (fun ls2 hl2 => k H locs ls2 hP hD hS hl2)
theorem g_lstore (C : CxX p s m args c D tys own cc nL ws) {i : Nat} {x : Int64} (hdg : decode cc pc = .ok (.lstore i, 2)) (hn : i + 1 < nL) (hv : (i, Value.long x) :: lvF2 i lv = lv2) (k : GoX p l e R s m args below meth c D A nL kc ks Q (pc + 2) lv2 st w) : GoX p l e R s m args below meth c D A nL kc ks Q pc lv (.long x :: st) w := by
  intro H locs ls hP hD hS hl
  exact lv_lstore C.1 C.2.1 hdg hl hn hv (fun ls2 hl2 => k H locs ls2 hP hD hS hl2)
theorem g_astore_n (C : CxX p s m args c D tys own cc nL ws) {k9 : Fin 4} {i : Nat} {x : Nat} (hdg : decode cc pc = .ok (.astore_n k9, 1)) (hi : (k9 : Nat) = i) (hn : i < nL) (hv : (i, Value.ref x) :: lvF i lv = lv2) (k : GoX p l e R s m args below meth c D A nL kc ks Q (pc + 1) lv2 st w) : GoX p l e R s m args below meth c D A nL kc ks Q pc lv (.ref x :: st) w := by
  intro H locs ls hP hD hS hl
  exact lv_astore_n C.1 C.2.1 hdg hi hl hn hv (fun ls2 hl2 => k H locs ls2 hP hD hS hl2)
theorem g_astore (C : CxX p s m args c D tys own cc nL ws) {i : Nat} {x : Nat} (hdg : decode cc pc = .ok (.astore i, 2)) (hn : i < nL) (hv : (i, Value.ref x) :: lvF i lv = lv2) (k : GoX p l e R s m args below meth c D A nL kc ks Q (pc + 2) lv2 st w) : GoX p l e R s m args below meth c D A nL kc ks Q pc lv (.ref x :: st) w := by
  intro H locs ls hP hD hS hl
  exact lv_astore C.1 C.2.1 hdg hl hn hv (fun ls2 hl2 => k H locs ls2 hP hD hS hl2)
theorem g_dstore_n (C : CxX p s m args c D tys own cc nL ws) {k9 : Fin 4} {i : Nat} {x : UInt64} (hdg : decode cc pc = .ok (.dstore_n k9, 1)) (hi : (k9 : Nat) = i) (hn : i + 1 < nL) (hv : (i, Value.double x) :: lvF2 i lv = lv2) (k : GoX p l e R s m args below meth c D A nL kc ks Q (pc + 1) lv2 st w) : GoX p l e R s m args below meth c D A nL kc ks Q pc lv (.double x :: st) w := by
  intro H locs ls hP hD hS hl
  exact lv_dstore_n C.1 C.2.1 hdg hi hl hn hv (fun ls2 hl2 => k H locs ls2 hP hD hS hl2)
theorem g_dstore (C : CxX p s m args c D tys own cc nL ws) {i : Nat} {x : UInt64} (hdg : decode cc pc = .ok (.dstore i, 2)) (hn : i + 1 < nL) (hv : (i, Value.double x) :: lvF2 i lv = lv2) (k : GoX p l e R s m args below meth c D A nL kc ks Q (pc + 2) lv2 st w) : GoX p l e R s m args below meth c D A nL kc ks Q pc lv (.double x :: st) w := by
  intro H locs ls hP hD hS hl
  exact lv_dstore C.1 C.2.1 hdg hl hn hv (fun ls2 hl2 => k H locs ls2 hP hD hS hl2)
theorem g_iinc (C : CxX p s m args c D tys own cc nL ws) {i : Nat} {z : Int} {x v : Int32} (q0 : Nat) (hdg : decode cc pc = .ok (.iinc i z, 3)) (hk : lv[q0]? = some (i, .int x)) (hx : x + Int32.ofInt z = v) (hn : i < nL) (hv : (i, Value.int v) :: lvF i lv = lv2) (k : GoX p l e R s m args below meth c D A nL kc ks Q (pc + 3) lv2 st w) : GoX p l e R s m args below meth c D A nL kc ks Q pc lv st w := by
  intro H locs ls hP hD hS hl
  exact lv_iinc C.1 C.2.1 hdg hl hk hx hn hv (fun ls2 hl2 => k H locs ls2 hP hD hS hl2)
theorem g_iadd (C : CxX p s m args c D tys own cc nL ws) {x y : Int32} (hdg : decode cc pc = .ok (.iadd, 1)) (k : GoX p l e R s m args below meth c D A nL kc ks Q (pc + 1) lv (.int (x + y) :: st) w) : GoX p l e R s m args below meth c D A nL kc ks Q pc lv (.int y :: .int x :: st) w := by
  intro H locs ls hP hD hS hl
  exact lv_iadd C.1 C.2.1 hdg (k H locs ls hP hD hS hl)
theorem g_isub (C : CxX p s m args c D tys own cc nL ws) {x y : Int32} (hdg : decode cc pc = .ok (.isub, 1)) (k : GoX p l e R s m args below meth c D A nL kc ks Q (pc + 1) lv (.int (x - y) :: st) w) : GoX p l e R s m args below meth c D A nL kc ks Q pc lv (.int y :: .int x :: st) w := by
  intro H locs ls hP hD hS hl
  exact lv_isub C.1 C.2.1 hdg (k H locs ls hP hD hS hl)
theorem g_imul (C : CxX p s m args c D tys own cc nL ws) {x y : Int32} (hdg : decode cc pc = .ok (.imul, 1)) (k : GoX p l e R s m args below meth c D A nL kc ks Q (pc + 1) lv (.int (x * y) :: st) w) : GoX p l e R s m args below meth c D A nL kc ks Q pc lv (.int y :: .int x :: st) w := by
  intro H locs ls hP hD hS hl
  exact lv_imul C.1 C.2.1 hdg (k H locs ls hP hD hS hl)
theorem g_iand (C : CxX p s m args c D tys own cc nL ws) {x y : Int32} (hdg : decode cc pc = .ok (.iand, 1)) (k : GoX p l e R s m args below meth c D A nL kc ks Q (pc + 1) lv (.int (x &&& y) :: st) w) : GoX p l e R s m args below meth c D A nL kc ks Q pc lv (.int y :: .int x :: st) w := by
  intro H locs ls hP hD hS hl
  exact lv_iand C.1 C.2.1 hdg (k H locs ls hP hD hS hl)
theorem g_idiv (C : CxX p s m args c D tys own cc nL ws) {x y : Int32} (hdg : decode cc pc = .ok (.idiv, 1)) (hne : ¬ y = 0) (k : GoX p l e R s m args below meth c D A nL kc ks Q (pc + 1) lv (.int (x / y) :: st) w) : GoX p l e R s m args below meth c D A nL kc ks Q pc lv (.int y :: .int x :: st) w := by
  intro H locs ls hP hD hS hl
  exact lv_idiv C.1 C.2.1 hdg hne (k H locs ls hP hD hS hl)
theorem g_irem (C : CxX p s m args c D tys own cc nL ws) {x y : Int32} (hdg : decode cc pc = .ok (.irem, 1)) (hne : ¬ y = 0) (k : GoX p l e R s m args below meth c D A nL kc ks Q (pc + 1) lv (.int (x - x / y * y) :: st) w) : GoX p l e R s m args below meth c D A nL kc ks Q pc lv (.int y :: .int x :: st) w := by
  intro H locs ls hP hD hS hl
  exact lv_irem C.1 C.2.1 hdg hne (k H locs ls hP hD hS hl)
theorem g_ineg (C : CxX p s m args c D tys own cc nL ws) {x : Int32} (hdg : decode cc pc = .ok (.ineg, 1)) (k : GoX p l e R s m args below meth c D A nL kc ks Q (pc + 1) lv (.int (-x) :: st) w) : GoX p l e R s m args below meth c D A nL kc ks Q pc lv (.int x :: st) w := by
  intro H locs ls hP hD hS hl
  exact lv_ineg C.1 C.2.1 hdg (k H locs ls hP hD hS hl)
theorem g_lor (C : CxX p s m args c D tys own cc nL ws) {x y : Int64} (hdg : decode cc pc = .ok (.lor, 1)) (k : GoX p l e R s m args below meth c D A nL kc ks Q (pc + 1) lv (.long (x ||| y) :: st) w) : GoX p l e R s m args below meth c D A nL kc ks Q pc lv (.long y :: .long x :: st) w := by
  intro H locs ls hP hD hS hl
  exact lv_lor C.1 C.2.1 hdg (k H locs ls hP hD hS hl)
theorem g_i2l (C : CxX p s m args c D tys own cc nL ws) {x : Int32} (hdg : decode cc pc = .ok (.i2l, 1)) (k : GoX p l e R s m args below meth c D A nL kc ks Q (pc + 1) lv (.long x.toInt64 :: st) w) : GoX p l e R s m args below meth c D A nL kc ks Q pc lv (.int x :: st) w := by
  intro H locs ls hP hD hS hl
  exact lv_i2l C.1 C.2.1 hdg rfl (k H locs ls hP hD hS hl)
theorem g_l2i (C : CxX p s m args c D tys own cc nL ws) {x : Int64} (hdg : decode cc pc = .ok (.l2i, 1)) (k : GoX p l e R s m args below meth c D A nL kc ks Q (pc + 1) lv (.int x.toInt32 :: st) w) : GoX p l e R s m args below meth c D A nL kc ks Q pc lv (.long x :: st) w := by
  intro H locs ls hP hD hS hl
  exact lv_l2i C.1 C.2.1 hdg rfl (k H locs ls hP hD hS hl)
theorem g_i2c (C : CxX p s m args c D tys own cc nL ws) {x : Int32} (hdg : decode cc pc = .ok (.i2c, 1)) (k : GoX p l e R s m args below meth c D A nL kc ks Q (pc + 1) lv (.int (x.toUInt32 % 65536).toInt32 :: st) w) : GoX p l e R s m args below meth c D A nL kc ks Q pc lv (.int x :: st) w := by
  intro H locs ls hP hD hS hl
  exact lv_i2c C.1 C.2.1 hdg rfl (k H locs ls hP hD hS hl)
theorem g_i2f (C : CxX p s m args c D tys own cc nL ws) {x : Int32} (hdg : decode cc pc = .ok (.i2f, 1)) (k : GoX p l e R s m args below meth c D A nL kc ks Q (pc + 1) lv (.float (FP.i2f x) :: st) w) : GoX p l e R s m args below meth c D A nL kc ks Q pc lv (.int x :: st) w := by
  intro H locs ls hP hD hS hl
  exact lv_i2f C.1 C.2.1 hdg (k H locs ls hP hD hS hl)
theorem g_fdiv (C : CxX p s m args c D tys own cc nL ws) {x y : UInt32} (hdg : decode cc pc = .ok (.fdiv, 1)) (hne : vf_n32 (FP.fdiv x y)) (k : GoX p l e R s m args below meth c D A nL kc ks Q (pc + 1) lv (.float (FP.fdiv x y) :: st) w) : GoX p l e R s m args below meth c D A nL kc ks Q pc lv (.float y :: .float x :: st) w := by
  intro H locs ls hP hD hS hl
  exact lv_fdiv C.1 C.2.1 hdg hne (k H locs ls hP hD hS hl)
theorem g_f2d (C : CxX p s m args c D tys own cc nL ws) {x : UInt32} (hdg : decode cc pc = .ok (.f2d, 1)) (hne : vf_n64 (FP.f2d x)) (k : GoX p l e R s m args below meth c D A nL kc ks Q (pc + 1) lv (.double (FP.f2d x) :: st) w) : GoX p l e R s m args below meth c D A nL kc ks Q pc lv (.float x :: st) w := by
  intro H locs ls hP hD hS hl
  exact lv_f2d C.1 C.2.1 hdg hne (k H locs ls hP hD hS hl)
theorem g_dcmp (C : CxX p s m args c D tys own cc nL ws) {x y : UInt64} {op : CmpOp} (hdg : decode cc pc = .ok (.dcmp op, 1)) (k : GoX p l e R s m args below meth c D A nL kc ks Q (pc + 1) lv (.int (Op.cmpValue (FP.dcmp x y) op) :: st) w) : GoX p l e R s m args below meth c D A nL kc ks Q pc lv (.double y :: .double x :: st) w := by
  intro H locs ls hP hD hS hl
  exact lv_dcmp C.1 C.2.1 hdg (k H locs ls hP hD hS hl)
theorem g_lushr (C : CxX p s m args c D tys own cc nL ws) {x : Int64} {y : Int32} (hdg : decode cc pc = .ok (.lushr, 1)) (k : GoX p l e R s m args below meth c D A nL kc ks Q (pc + 1) lv (.long (x.toUInt64 >>> (y.toInt64.toUInt64 &&& Int64.toUInt64 63)).toInt64 :: st) w) : GoX p l e R s m args below meth c D A nL kc ks Q pc lv (.int y :: .long x :: st) w := by
  intro H locs ls hP hD hS hl
  exact lv_lushr C.1 C.2.1 hdg rfl (k H locs ls hP hD hS hl)
theorem g_lshl (C : CxX p s m args c D tys own cc nL ws) {x : Int64} {y : Int32} (hdg : decode cc pc = .ok (.lshl, 1)) (k : GoX p l e R s m args below meth c D A nL kc ks Q (pc + 1) lv (.long (x <<< (y.toInt64 &&& 63)) :: st) w) : GoX p l e R s m args below meth c D A nL kc ks Q pc lv (.int y :: .long x :: st) w := by
  intro H locs ls hP hD hS hl
  exact lv_lshl C.1 C.2.1 hdg rfl (k H locs ls hP hD hS hl)
theorem g_lcmp (C : CxX p s m args c D tys own cc nL ws) {x y : Int64} (hdg : decode cc pc = .ok (.lcmp, 1)) (k : GoX p l e R s m args below meth c D A nL kc ks Q (pc + 1) lv (.int (lg_cmp x y) :: st) w) : GoX p l e R s m args below meth c D A nL kc ks Q pc lv (.long y :: .long x :: st) w := by
  intro H locs ls hP hD hS hl
  exact W.lcmp C.1 C.2.1 hdg (k H locs ls hP hD hS hl)
theorem g_dup (C : CxX p s m args c D tys own cc nL ws) {va : Value} (hdg : decode cc pc = .ok (.dup, 1)) (hva : va.category = 1) (k : GoX p l e R s m args below meth c D A nL kc ks Q (pc + 1) lv (va :: va :: st) w) : GoX p l e R s m args below meth c D A nL kc ks Q pc lv (va :: st) w := by
  intro H locs ls hP hD hS hl
  exact lv_dup C.1 C.2.1 hdg hva (k H locs ls hP hD hS hl)
theorem g_pop (C : CxX p s m args c D tys own cc nL ws) {va : Value} (hdg : decode cc pc = .ok (.pop, 1)) (hva : va.category = 1) (k : GoX p l e R s m args below meth c D A nL kc ks Q (pc + 1) lv st w) : GoX p l e R s m args below meth c D A nL kc ks Q pc lv (va :: st) w := by
  intro H locs ls hP hD hS hl
  exact lv_pop C.1 C.2.1 hdg hva (k H locs ls hP hD hS hl)
theorem g_dup2 (C : CxX p s m args c D tys own cc nL ws) {va vb : Value} (hdg : decode cc pc = .ok (.dup2, 1)) (hva : va.category = 1) (hvb : vb.category = 1) (k : GoX p l e R s m args below meth c D A nL kc ks Q (pc + 1) lv (va :: vb :: va :: vb :: st) w) : GoX p l e R s m args below meth c D A nL kc ks Q pc lv (va :: vb :: st) w := by
  intro H locs ls hP hD hS hl
  exact lv_dup2_11 C.1 C.2.1 hdg hva hvb (k H locs ls hP hD hS hl)
theorem g_dup_x1 (C : CxX p s m args c D tys own cc nL ws) {va vb : Value} (hdg : decode cc pc = .ok (.dup_x1, 1)) (hva : va.category = 1) (hvb : vb.category = 1) (k : GoX p l e R s m args below meth c D A nL kc ks Q (pc + 1) lv (va :: vb :: va :: st) w) : GoX p l e R s m args below meth c D A nL kc ks Q pc lv (va :: vb :: st) w := by
  intro H locs ls hP hD hS hl
  exact lv_dup_x1 C.1 C.2.1 hdg hva hvb (k H locs ls hP hD hS hl)
theorem g_goto (C : CxX p s m args c D tys own cc nL ws) {off : Int} (tgt : Nat) (hdg : decode cc pc = .ok (.goto off, 3)) (ht : (pc : Int) + off = (tgt : Int)) (k : GoX p l e R s m args below meth c D A nL kc ks Q tgt lv st w) : GoX p l e R s m args below meth c D A nL kc ks Q pc lv st w := by
  intro H locs ls hP hD hS hl
  exact lv_goto C.1 C.2.1 hdg ht (k H locs ls hP hD hS hl)
theorem g_if_eq (C : CxX p s m args c D tys own cc nL ws) {x : Int32} {off : Int} (tgt : Nat) (hdg : decode cc pc = .ok (.ifCond .eq off, 3)) (ht : (pc : Int) + off = (tgt : Int)) (kt : x = 0 → GoX p l e R s m args below meth c D A nL kc ks Q tgt lv st w) (kf : ¬ x = 0 → GoX p l e R s m args below meth c D A nL kc ks Q (pc + 3) lv st w) : GoX p l e R s m args below meth c D A nL kc ks Q pc lv (.int x :: st) w := by
  intro H locs ls hP hD hS hl
  exact lv_if_eq C.1 C.2.1 hdg ht (fun q => kt q H locs ls hP hD hS hl) (fun q => kf q H locs ls hP hD hS hl)
theorem g_icmp_eq (C : CxX p s m args c D tys own cc nL ws) {x y : Int32} {off : Int} (tgt : Nat) (hdg : decode cc pc = .ok (.if_icmp .eq off, 3)) (ht : (pc : Int) + off = (tgt : Int)) (kt : x = y → GoX p l e R s m args below meth c D A nL kc ks Q tgt lv st w) (kf : ¬ x = y → GoX p l e R s m args below meth c D A nL kc ks Q (pc + 3) lv st w) : GoX p l e R s m args below meth c D A nL kc ks Q pc lv (.int y :: .int x :: st) w := by
  intro H locs ls hP hD hS hl
  exact lv_icmp_eq C.1 C.2.1 hdg ht (fun q => kt q H locs ls hP hD hS hl) (fun q => kf q H locs ls hP hD hS hl)
theorem g_if_lt (C : CxX p s m args c D tys own cc nL ws) {x : Int32} {off : Int} (tgt : Nat) (hdg : decode cc pc = .ok (.ifCond .lt off, 3)) (ht : (pc : Int) + off = (tgt : Int)) (kt : x < 0 → GoX p l e R s m args below meth c D A nL kc ks Q tgt lv st w) (kf : ¬ x < 0 → GoX p l e R s m args below meth c D A nL kc ks Q (pc + 3) lv st w) : GoX p l e R s m args below meth c D A nL kc ks Q pc lv (.int x :: st) w := by
  intro H locs ls hP hD hS hl
  exact lv_if_lt C.1 C.2.1 hdg ht (fun q => kt q H locs ls hP hD hS hl) (fun q => kf q H locs ls hP hD hS hl)
theorem g_icmp_lt (C : CxX p s m args c D tys own cc nL ws) {x y : Int32} {off : Int} (tgt : Nat) (hdg : decode cc pc = .ok (.if_icmp .lt off, 3)) (ht : (pc : Int) + off = (tgt : Int)) (kt : x < y → GoX p l e R s m args below meth c D A nL kc ks Q tgt lv st w) (kf : ¬ x < y → GoX p l e R s m args below meth c D A nL kc ks Q (pc + 3) lv st w) : GoX p l e R s m args below meth c D A nL kc ks Q pc lv (.int y :: .int x :: st) w := by
  intro H locs ls hP hD hS hl
  exact lv_icmp_lt C.1 C.2.1 hdg ht (fun q => kt q H locs ls hP hD hS hl) (fun q => kf q H locs ls hP hD hS hl)
theorem g_if_ge (C : CxX p s m args c D tys own cc nL ws) {x : Int32} {off : Int} (tgt : Nat) (hdg : decode cc pc = .ok (.ifCond .ge off, 3)) (ht : (pc : Int) + off = (tgt : Int)) (kt : 0 ≤ x → GoX p l e R s m args below meth c D A nL kc ks Q tgt lv st w) (kf : ¬ 0 ≤ x → GoX p l e R s m args below meth c D A nL kc ks Q (pc + 3) lv st w) : GoX p l e R s m args below meth c D A nL kc ks Q pc lv (.int x :: st) w := by
  intro H locs ls hP hD hS hl
  exact lv_if_ge C.1 C.2.1 hdg ht (fun q => kt q H locs ls hP hD hS hl) (fun q => kf q H locs ls hP hD hS hl)
theorem g_icmp_ge (C : CxX p s m args c D tys own cc nL ws) {x y : Int32} {off : Int} (tgt : Nat) (hdg : decode cc pc = .ok (.if_icmp .ge off, 3)) (ht : (pc : Int) + off = (tgt : Int)) (kt : y ≤ x → GoX p l e R s m args below meth c D A nL kc ks Q tgt lv st w) (kf : ¬ y ≤ x → GoX p l e R s m args below meth c D A nL kc ks Q (pc + 3) lv st w) : GoX p l e R s m args below meth c D A nL kc ks Q pc lv (.int y :: .int x :: st) w := by
  intro H locs ls hP hD hS hl
  exact lv_icmp_ge C.1 C.2.1 hdg ht (fun q => kt q H locs ls hP hD hS hl) (fun q => kf q H locs ls hP hD hS hl)
theorem g_if_gt (C : CxX p s m args c D tys own cc nL ws) {x : Int32} {off : Int} (tgt : Nat) (hdg : decode cc pc = .ok (.ifCond .gt off, 3)) (ht : (pc : Int) + off = (tgt : Int)) (kt : 0 < x → GoX p l e R s m args below meth c D A nL kc ks Q tgt lv st w) (kf : ¬ 0 < x → GoX p l e R s m args below meth c D A nL kc ks Q (pc + 3) lv st w) : GoX p l e R s m args below meth c D A nL kc ks Q pc lv (.int x :: st) w := by
  intro H locs ls hP hD hS hl
  exact lv_if_gt C.1 C.2.1 hdg ht (fun q => kt q H locs ls hP hD hS hl) (fun q => kf q H locs ls hP hD hS hl)
theorem g_icmp_gt (C : CxX p s m args c D tys own cc nL ws) {x y : Int32} {off : Int} (tgt : Nat) (hdg : decode cc pc = .ok (.if_icmp .gt off, 3)) (ht : (pc : Int) + off = (tgt : Int)) (kt : y < x → GoX p l e R s m args below meth c D A nL kc ks Q tgt lv st w) (kf : ¬ y < x → GoX p l e R s m args below meth c D A nL kc ks Q (pc + 3) lv st w) : GoX p l e R s m args below meth c D A nL kc ks Q pc lv (.int y :: .int x :: st) w := by
  intro H locs ls hP hD hS hl
  exact lv_icmp_gt C.1 C.2.1 hdg ht (fun q => kt q H locs ls hP hD hS hl) (fun q => kf q H locs ls hP hD hS hl)
theorem g_if_le (C : CxX p s m args c D tys own cc nL ws) {x : Int32} {off : Int} (tgt : Nat) (hdg : decode cc pc = .ok (.ifCond .le off, 3)) (ht : (pc : Int) + off = (tgt : Int)) (kt : x ≤ 0 → GoX p l e R s m args below meth c D A nL kc ks Q tgt lv st w) (kf : ¬ x ≤ 0 → GoX p l e R s m args below meth c D A nL kc ks Q (pc + 3) lv st w) : GoX p l e R s m args below meth c D A nL kc ks Q pc lv (.int x :: st) w := by
  intro H locs ls hP hD hS hl
  exact lv_if_le C.1 C.2.1 hdg ht (fun q => kt q H locs ls hP hD hS hl) (fun q => kf q H locs ls hP hD hS hl)
theorem g_icmp_le (C : CxX p s m args c D tys own cc nL ws) {x y : Int32} {off : Int} (tgt : Nat) (hdg : decode cc pc = .ok (.if_icmp .le off, 3)) (ht : (pc : Int) + off = (tgt : Int)) (kt : x ≤ y → GoX p l e R s m args below meth c D A nL kc ks Q tgt lv st w) (kf : ¬ x ≤ y → GoX p l e R s m args below meth c D A nL kc ks Q (pc + 3) lv st w) : GoX p l e R s m args below meth c D A nL kc ks Q pc lv (.int y :: .int x :: st) w := by
  intro H locs ls hP hD hS hl
  exact lv_icmp_le C.1 C.2.1 hdg ht (fun q => kt q H locs ls hP hD hS hl) (fun q => kf q H locs ls hP hD hS hl)
theorem g_if_ne (C : CxX p s m args c D tys own cc nL ws) {x : Int32} {off : Int} (tgt : Nat) (hdg : decode cc pc = .ok (.ifCond .ne off, 3)) (ht : (pc : Int) + off = (tgt : Int)) (kt : ¬ x = 0 → GoX p l e R s m args below meth c D A nL kc ks Q tgt lv st w) (kf : x = 0 → GoX p l e R s m args below meth c D A nL kc ks Q (pc + 3) lv st w) : GoX p l e R s m args below meth c D A nL kc ks Q pc lv (.int x :: st) w := by
  intro H locs ls hP hD hS hl
  exact lv_if_ne C.1 C.2.1 hdg ht (fun q => kt q H locs ls hP hD hS hl) (fun q => kf q H locs ls hP hD hS hl)
theorem g_icmp_ne (C : CxX p s m args c D tys own cc nL ws) {x y : Int32} {off : Int} (tgt : Nat) (hdg : decode cc pc = .ok (.if_icmp .ne off, 3)) (ht : (pc : Int) + off = (tgt : Int)) (kt : ¬ x = y → GoX p l e R s m args below meth c D A nL kc ks Q tgt lv st w) (kf : x = y → GoX p l e R s m args below meth c D A nL kc ks Q (pc + 3) lv st w) : GoX p l e R s m args below meth c D A nL kc ks Q pc lv (.int y :: .int x :: st) w := by
  intro H locs ls hP hD hS hl
  exact lv_icmp_ne C.1 C.2.1 hdg ht (fun q => kt q H locs ls hP hD hS hl) (fun q => kf q H locs ls hP hD hS hl)
theorem g_lookup (C : CxX p s m args c D tys own cc nL ws) {dflt : Int} {ps : Array (Int × Int)} {len : Nat} {x : Int32} (off : Int) (tgt : Nat) (hdg : decode cc pc = .ok (.lookupswitch dflt ps, len)) (hp : (ps.toList.zip (ps.toList.drop 1)).all (fun (a, next) => a.1 < next.1) = true) (ho : Op.lookupswitch.offset ps.toList dflt x.toInt = off) (ht : (pc : Int) + off = (tgt : Int)) (k : GoX p l e R s m args below meth c D A nL kc ks Q tgt lv st w) : GoX p l e R s m args below meth c D A nL kc ks Q pc lv (.int x :: st) w := by
  intro H locs ls hP hD hS hl
  exact lv_lookup C.1 C.2.1 hdg hp ho ht (k H locs ls hP hD hS hl)
theorem g_tableOut (C : CxX p s m args c D tys own cc nL ws) {dflt lo hi : Int} {offs : Array Int} {len : Nat} {x : Int32} (tgt : Nat) (hdg : decode cc pc = .ok (.tableswitch dflt lo hi offs, len)) (h : x.toInt < lo ∨ hi < x.toInt) (ht : (pc : Int) + dflt = (tgt : Int)) (k : GoX p l e R s m args below meth c D A nL kc ks Q tgt lv st w) : GoX p l e R s m args below meth c D A nL kc ks Q pc lv (.int x :: st) w := by
  intro H locs ls hP hD hS hl
  exact lv_tableOut C.1 C.2.1 hdg h ht (k H locs ls hP hD hS hl)
theorem g_tableIn (C : CxX p s m args c D tys own cc nL ws) {dflt lo hi : Int} {offs : Array Int} {len : Nat} {x : Int32} (off : Int) (tgt : Nat) (hdg : decode cc pc = .ok (.tableswitch dflt lo hi offs, len)) (h1 : ¬ x.toInt < lo) (h2 : ¬ hi < x.toInt) (ho : offs[(x.toInt - lo).toNat]? = some off) (ht : (pc : Int) + off = (tgt : Int)) (k : GoX p l e R s m args below meth c D A nL kc ks Q tgt lv st w) : GoX p l e R s m args below meth c D A nL kc ks Q pc lv (.int x :: st) w := by
  intro H locs ls hP hD hS hl
  exact lv_tableIn C.1 C.2.1 hdg h1 h2 ho ht (k H locs ls hP hD hS hl)
theorem g_sub (ks9 : List Nat) (hk : lv_pick lv ks9 = lv2) (k : GoX p l e R s m args below meth c D A nL kc ks Q pc lv2 st w) : GoX p l e R s m args below meth c D A nL kc ks Q pc lv st w := fun H locs ls hP hD hS hl => k H locs ls hP hD hS (lv_sub hl ks9 hk)
theorem g_world (hw : w = w2) (k : GoX p l e R s m args below meth c D A nL kc ks Q pc lv st w2) : GoX p l e R s m args below meth c D A nL kc ks Q pc lv st w := hw ▸ k
theorem g_get (C : CxX p s m args c D tys own cc nL ws) {Cn : String} {T : u_T} {N ci index a : Nat} (hin : ∀ q ∈ u_ws Cn T N, q ∈ ws) (q0 : Nat) {fs : List Value} (he : w[q0]? = some (a, .inr (ci, fs))) (hc : vwCl[ci]? = some (Cn, T, N)) (k9 : Nat) (hk9 : k9 < N) (hlink : Cond.fieldLink own index (T k9).1 (T k9).2.1 (T k9).2.2.1 ∈ ws) {v : Value} (hv : fs[k9]? = some v) (hdg : decode cc pc = .ok (.getfield index, 3)) (k : GoX p l e R s m args below meth c D A nL kc ks Q (pc + 3) lv (v :: st) w) : GoX p l e R s m args below meth c D A nL kc ks Q pc lv (.ref a :: st) w := by
  intro H locs ls hP hD hS hl
  exact va_get C.1 C.2.1 C.2.2.2.2.1 hin C.2.2.2.1 C.2.2.2.2.2 hP q0 he hc k9 hk9 (C.2.2.2.2.1 _ hlink) (fun _ h9 => h9) hv hdg (k H locs ls hP hD hS hl)
theorem g_put (C : CxX p s m args c D tys own cc nL ws) {Cn : String} {T : u_T} {N ci index a : Nat} (hin : ∀ q ∈ u_ws Cn T N, q ∈ ws) (ty0 : Nat → FieldType) (hty : ∀ k, k < N → parseFieldDescriptor (T k).2.2.1 = some (ty0 k)) (hnm : ∀ a, a < N → ∀ b, b < N → a ≠ b → (T a).2.1 ≠ (T b).2.1) (q0 : Nat) {fs : List Value} (he : w[q0]? = some (a, .inr (ci, fs))) (hc : vwCl[ci]? = some (Cn, T, N)) (k9 : Nat) (hk9 : k9 < N) (hlink : Cond.fieldLink own index (T k9).1 (T k9).2.1 (T k9).2.2.1 ∈ ws) (hfin : (T k9).2.2.2 = false) {v : Value} (hn : narrow (ty0 k9) v = v) (hfit : fits (ty0 k9) v = true) (hl9 : k9 < fs.length) (hw : w.set q0 (a, .inr (ci, fs.set k9 v)) = w2) (hdg : decode cc pc = .ok (.putfield index, 3)) (k : GoX p l e R s m args below meth c D A nL kc ks Q (pc + 3) lv st w2) : GoX p l e R s m args below meth c D A nL kc ks Q pc lv (v :: .ref a :: st) w := by
  intro H locs ls hP hD hS hl
  subst hw
  exact va_put C.1 C.2.1 C.2.2.2.2.1 hin ty0 hty hnm C.2.2.2.1 C.2.2.2.2.2 hP hD hS q0 he hc k9 hk9 (C.2.2.2.2.1 _ hlink) (fun _ h9 => h9) hfin (hty k9 hk9) hn hfit hl9 hdg (fun H1 locs1 hP1 hD1 hS1 => k H1 locs1 ls hP1 hD1 hS1 hl)
theorem g_putF (C : CxX p s m args c D tys own cc nL ws) {Cn : String} {T : u_T} {N ci index a : Nat} (hin2 : meth.name = "<init>") (hdecl : ∀ k9, k9 < N → (T k9).1 = own) (hin : ∀ q ∈ u_ws Cn T N, q ∈ ws) (ty0 : Nat → FieldType) (hty : ∀ k, k < N → parseFieldDescriptor (T k).2.2.1 = some (ty0 k)) (hnm : ∀ a, a < N → ∀ b, b < N → a ≠ b → (T a).2.1 ≠ (T b).2.1) (q0 : Nat) {fs : List Value} (he : w[q0]? = some (a, .inr (ci, fs))) (hc : vwCl[ci]? = some (Cn, T, N)) (k9 : Nat) (hk9 : k9 < N) (hlink : Cond.fieldLink own index (T k9).1 (T k9).2.1 (T k9).2.2.1 ∈ ws) (hfin : (T k9).2.2.2 = true) {v : Value} (hn : narrow (ty0 k9) v = v) (hfit : fits (ty0 k9) v = true) (hl9 : k9 < fs.length) (hw : w.set q0 (a, .inr (ci, fs.set k9 v)) = w2) (hdg : decode cc pc = .ok (.putfield index, 3)) (k : GoX p l e R s m args below meth c D A nL kc ks Q (pc + 3) lv st w2) : GoX p l e R s m args below meth c D A nL kc ks Q pc lv (v :: .ref a :: st) w := by
  intro H locs ls hP hD hS hl
  subst hw
  exact va_putF C.1 C.2.1 C.2.2.2.2.1 hin ty0 hty hnm C.2.2.2.1 C.2.2.2.2.2 hP hD hS q0 he hc k9 hk9 (C.2.2.2.2.1 _ hlink) (fun _ h9 => h9) hfin hin2 (hdecl k9 hk9) (hty k9 hk9) hn hfit hl9 hdg (fun H1 locs1 hP1 hD1 hS1 => k H1 locs1 ls hP1 hD1 hS1 hl)
theorem g_iald (C : CxX p s m args c D tys own cc nL ws) (q0 t0 : Nat) {cA : ClassId} {a n : Nat} {f : Nat → Int32} (ha : w[q0]? = some (a, .inl (cA, n, .inl f))) (ht : tys[t0]? = some (cA, .int)) {i : Int32} (hin : vp_in i n) (hdg : decode cc pc = .ok (.iaload, 1)) (k : GoX p l e R s m args below meth c D A nL kc ks Q (pc + 1) lv (.int (f i.toNatClampNeg) :: st) w) : GoX p l e R s m args below meth c D A nL kc ks Q pc lv (.int i :: .ref a :: st) w := by
  intro H locs ls hP hD hS hl
  exact va_iald C.1 C.2.1 C.2.2.2.2.2 hP q0 t0 ha ht hin hdg (k H locs ls hP hD hS hl)
theorem g_cald (C : CxX p s m args c D tys own cc nL ws) (q0 t0 : Nat) {cA : ClassId} {a n : Nat} {f : Nat → Int32} (ha : w[q0]? = some (a, .inl (cA, n, .inl f))) (ht : tys[t0]? = some (cA, .char)) {i : Int32} (hin : vp_in i n) (hdg : decode cc pc = .ok (.caload, 1)) (k : GoX p l e R s m args below meth c D A nL kc ks Q (pc + 1) lv (.int (f i.toNatClampNeg) :: st) w) : GoX p l e R s m args below meth c D A nL kc ks Q pc lv (.int i :: .ref a :: st) w := by
  intro H locs ls hP hD hS hl
  exact va_cald C.1 C.2.1 C.2.2.2.2.2 hP q0 t0 ha ht hin hdg (k H locs ls hP hD hS hl)
theorem g_lald (C : CxX p s m args c D tys own cc nL ws) (q0 t0 : Nat) {cA : ClassId} {a n : Nat} {f : Nat → Int64} (ha : w[q0]? = some (a, .inl (cA, n, .inr (.inl f)))) (ht : tys[t0]? = some (cA, .long)) {i : Int32} (hin : vp_in i n) (hdg : decode cc pc = .ok (.laload, 1)) (k : GoX p l e R s m args below meth c D A nL kc ks Q (pc + 1) lv (.long (f i.toNatClampNeg) :: st) w) : GoX p l e R s m args below meth c D A nL kc ks Q pc lv (.int i :: .ref a :: st) w := by
  intro H locs ls hP hD hS hl
  exact va_lald C.1 C.2.1 C.2.2.2.2.2 hP q0 t0 ha ht hin hdg (k H locs ls hP hD hS hl)
theorem g_iast (C : CxX p s m args c D tys own cc nL ws) (q0 t0 : Nat) {cA : ClassId} {a n : Nat} {f : Nat → Int32} (ha : w[q0]? = some (a, .inl (cA, n, .inl f))) (ht : tys[t0]? = some (cA, .int)) {i : Int32} {x : Int32} (hin : vp_in i n) (hw : w.set q0 (a, .inl (cA, n, .inl (upd f i.toNatClampNeg x))) = w2) (hdg : decode cc pc = .ok (.iastore, 1)) (k : GoX p l e R s m args below meth c D A nL kc ks Q (pc + 1) lv st w2) : GoX p l e R s m args below meth c D A nL kc ks Q pc lv (.int x :: .int i :: .ref a :: st) w := by
  intro H locs ls hP hD hS hl
  subst hw
  exact va_iast C.1 C.2.1 C.2.2.2.2.2 hP hD hS q0 t0 ha ht hin hdg (fun H1 locs1 hP1 hD1 hS1 => k H1 locs1 ls hP1 hD1 hS1 hl)
theorem g_cast (C : CxX p s m args c D tys own cc nL ws) (q0 t0 : Nat) {cA : ClassId} {a n : Nat} {f : Nat → Int32} (ha : w[q0]? = some (a, .inl (cA, n, .inl f))) (ht : tys[t0]? = some (cA, .char)) {i : Int32} {x : Int32} (hin : vp_in i n) (hw : w.set q0 (a, .inl (cA, n, .inl (upd f i.toNatClampNeg (vp_nar .char x)))) = w2) (hdg : decode cc pc = .ok (.castore, 1)) (k : GoX p l e R s m args below meth c D A nL kc ks Q (pc + 1) lv st w2) : GoX p l e R s m args below meth c D A nL kc ks Q pc lv (.int x :: .int i :: .ref a :: st) w := by
  intro H locs ls hP hD hS hl
  subst hw
  exact va_cast C.1 C.2.1 C.2.2.2.2.2 hP hD hS q0 t0 ha ht hin hdg (fun H1 locs1 hP1 hD1 hS1 => k H1 locs1 ls hP1 hD1 hS1 hl)
theorem g_last (C : CxX p s m args c D tys own cc nL ws) (q0 t0 : Nat) {cA : ClassId} {a n : Nat} {f : Nat → Int64} (ha : w[q0]? = some (a, .inl (cA, n, .inr (.inl f)))) (ht : tys[t0]? = some (cA, .long)) {i : Int32} {x : Int64} (hin : vp_in i n) (hw : w.set q0 (a, .inl (cA, n, .inr (.inl (vp_updL f i.toNatClampNeg x)))) = w2) (hdg : decode cc pc = .ok (.lastore, 1)) (k : GoX p l e R s m args below meth c D A nL kc ks Q (pc + 1) lv st w2) : GoX p l e R s m args below meth c D A nL kc ks Q pc lv (.long x :: .int i :: .ref a :: st) w := by
  intro H locs ls hP hD hS hl
  subst hw
  exact va_last C.1 C.2.1 C.2.2.2.2.2 hP hD hS q0 t0 ha ht hin hdg (fun H1 locs1 hP1 hD1 hS1 => k H1 locs1 ls hP1 hD1 hS1 hl)
theorem g_aald (C : CxX p s m args c D tys own cc nL ws) (q0 t0 : Nat) {cA : ClassId} {ty : FieldType} {a n : Nat} {f : Nat → Option Nat} (ha : w[q0]? = some (a, .inl (cA, n, .inr (.inr (.inr (.inr f)))))) (ht : tys[t0]? = some (cA, ty)) (href : ty.isReference = true) {i : Int32} (hin : vp_in i n) {v : Nat} (hv : f i.toNatClampNeg = some v) (hdg : decode cc pc = .ok (.aaload, 1)) (k : GoX p l e R s m args below meth c D A nL kc ks Q (pc + 1) lv (.ref v :: st) w) : GoX p l e R s m args below meth c D A nL kc ks Q pc lv (.int i :: .ref a :: st) w := by
  intro H locs ls hP hD hS hl
  have hlt : i.toNatClampNeg < n := vp_lt hin
  exact W.aald (v := .ref v) (ty := ty) C.1 C.2.1 (hP q0 _ ha) ((C.2.2.2.2.2.2 t0 _ ht).1 n (fun j => va_rf (f j))) href (fun q => by cases q) (by show ¬ (i < 0 ∨ (arrV _ _ _).slots.size ≤ _); rw [arrV_size]; exact hin) (by show (arrV _ _ _).slots[_]? = _; rw [arrV_read _ _ hlt, hv]; rfl) rfl rfl hdg (k H locs ls hP hD hS hl)
theorem g_alen (C : CxX p s m args c D tys own cc nL ws) (q0 t0 : Nat) {cA : ClassId} {a : Nat} {x : vp_A} (ha : w[q0]? = some (a, .inl (cA, x))) {ty : FieldType} (ht : tys[t0]? = some (cA, ty)) {v : Int32} (hv : Int32.ofNat x.1 = v) (hdg : decode cc pc = .ok (.arraylength, 1)) (k : GoX p l e R s m args below meth c D A nL kc ks Q (pc + 1) lv (.int v :: st) w) : GoX p l e R s m args below meth c D A nL kc ks Q pc lv (.ref a :: st) w := by
  intro H locs ls hP hD hS hl
  exact va_alen C.1 C.2.1 C.2.2.2.2.2 hP q0 t0 ha ht hv hdg (k H locs ls hP hD hS hl)
theorem g_copyi (C : CxX p s m args c D tys own cc nL ws) {index : Nat} (hlink : Cond.methodLink own index arraycopyName ∈ ws) (hnat : Cond.native arraycopyName ∈ ws) (hstat : Cond.static arraycopyName ∈ ws) (hini : Cond.initialized "java/lang/System" ∈ ws) (q0 q1 t0 t1 : Nat) {a a0 : Nat} {c0 c1 : ClassId} {n0 n1 : Nat} {f g : Nat → Int32} (ha0 : w[q0]? = some (a0, .inl (c0, n0, .inl f))) (ha1 : w[q1]? = some (a, .inl (c1, n1, .inl g))) (ht0 : tys[t0]? = some (c0, .int)) (ht1 : tys[t1]? = some (c1, .int))
    {sp dp n : Int32} (h1 : ¬ sp < 0) (h2 : ¬ dp < 0) (h3 : ¬ n < 0) (h4 : sp.toNatClampNeg + n.toNatClampNeg ≤ n0) (h5 : dp.toNatClampNeg + n.toNatClampNeg ≤ n1) (hframes : 1 ≤ R.frames) (hlocals : (st.map fun v => v.category).sum + (nativeFrameWords "java/lang/System" "arraycopy" 5 + 11) ≤ R.locals) (hw : w.set q1 (a, .inl (c1, n1, .inl (va_cpy f g sp.toNatClampNeg dp.toNatClampNeg n.toNatClampNeg))) = w2) (hdg : decode cc pc = .ok (.invokestatic index, 3))
    (k : GoX p l e R s m args below meth c D A nL kc ks Q (pc + 3) lv st w2) : GoX p l e R s m args below meth c D A nL kc ks Q pc lv (.int n :: .int dp :: .ref a :: .int sp :: .ref a0 :: st) w := by
  intro H locs ls hP hD hS hl
  subst hw
  exact va_copyi C.1 C.2.1 (C.2.2.1.trans hl.1.symm) C.2.2.2.1 (C.2.2.2.2.1 _ hlink) (C.2.2.2.2.1 _ hnat) (C.2.2.2.2.1 _ hstat) (C.2.2.2.2.1 _ hini) C.2.2.2.2.2 hP hD hS q0 q1 t0 t1 ha0 ha1 ht0 ht1 rfl h1 h2 h3 h4 h5 (fun _ _ => rfl) hframes hlocals hdg (fun H1 locs1 hP1 hD1 hS1 => k H1 locs1 ls hP1 hD1 hS1 hl)
theorem g_mmax (C : CxX p s m args c D tys own cc nL ws) {index : Nat} (hlink : Cond.methodLink own index Lib.Math.max.name ∈ ws) (hstat : Cond.static Lib.Math.max.name ∈ ws) (hini : Cond.initialized "java/lang/Math" ∈ ws) (hcode : Cond.code Lib.Math.max.name Lib.Math.max.code 2 (some .int) ∈ ws) (hframes : 1 ≤ R.frames) (hlocals : (st.map fun v => v.category).sum + 13 ≤ R.locals) (hkc : kc ≤ R.cells) (hks : ks ≤ R.slots) {x y : Int32} (hdg : decode cc pc = .ok (.invokestatic index, 3))
    (k : GoX p l e R s m args below meth c D A nL kc ks Q (pc + 3) lv (.int (if x < y then y else x) :: st) w) : GoX p l e R s m args below meth c D A nL kc ks Q pc lv (.int y :: .int x :: st) w := by
  intro H locs ls hP hD hS hl
  exact va_mmax C.1 C.2.1 (C.2.2.1.trans hl.1.symm) C.2.2.2.1 (C.2.2.2.2.1 _ hlink) (C.2.2.2.2.1 _ hstat) (C.2.2.2.2.1 _ hini) (C.2.2.2.2.1 _ hcode) hframes hlocals hkc hks hdg (k H locs ls hP hD hS hl)
theorem g_mmin (C : CxX p s m args c D tys own cc nL ws) {index : Nat} (hlink : Cond.methodLink own index Lib.Math.min.name ∈ ws) (hstat : Cond.static Lib.Math.min.name ∈ ws) (hini : Cond.initialized "java/lang/Math" ∈ ws) (hcode : Cond.code Lib.Math.min.name Lib.Math.min.code 2 (some .int) ∈ ws) (hframes : 1 ≤ R.frames) (hlocals : (st.map fun v => v.category).sum + 13 ≤ R.locals) (hkc : kc ≤ R.cells) (hks : ks ≤ R.slots) {x y : Int32} (hdg : decode cc pc = .ok (.invokestatic index, 3))
    (k : GoX p l e R s m args below meth c D A nL kc ks Q (pc + 3) lv (.int (if y < x then y else x) :: st) w) : GoX p l e R s m args below meth c D A nL kc ks Q pc lv (.int y :: .int x :: st) w := by
  intro H locs ls hP hD hS hl
  exact va_mmin C.1 C.2.1 (C.2.2.1.trans hl.1.symm) C.2.2.2.1 (C.2.2.2.2.1 _ hlink) (C.2.2.2.2.1 _ hstat) (C.2.2.2.2.1 _ hini) (C.2.2.2.2.1 _ hcode) hframes hlocals hkc hks hdg (k H locs ls hP hD hS hl)
section RET
variable {S : Type} {Wu : S → va_W}
theorem g_iret (C : CxX p s m args c D tys own cc nL ws) (hr : meth.sig.returnType = some .int) (hlk : meth.locks = false) {post : Int32 → S → Prop} {v : Int32} (u : S) (hw : Wu u = w) (hp : post v u) (hdg : decode cc pc = .ok (.ireturn, 1)) : GoX p l e R s m args below meth c D A nL 0 0 (MQ below (va_Qi post (fun u t => OKX D tys (Wu u) A t) A) args s 0 0 A) pc lv [.int v] w := by
  intro H locs ls hP hD hS hl
  subst hw
  exact W.iret C.1 C.2.1 hr (fun t ht hW => ⟨⟨v, u, rfl, hp, by rw [ht]; exact hP, va_K.moved hW.alike C.2.2.2.2.2, hD⟩, hS.F ht⟩) hS.2.2 hdg hlk
theorem g_lret (C : CxX p s m args c D tys own cc nL ws) (hr : meth.sig.returnType = some .long) (hlk : meth.locks = false) {post : Int64 → S → Prop} {v : Int64} (u : S) (hw : Wu u = w) (hp : post v u) (hdg : decode cc pc = .ok (.lreturn, 1)) : GoX p l e R s m args below meth c D A nL 0 0 (MQ below (va_Ql post (fun u t => OKX D tys (Wu u) A t) A) args s 0 0 A) pc lv [.long v] w := by
  intro H locs ls hP hD hS hl
  subst hw
  exact W.lret C.1 C.2.1 hr (fun t ht hW => ⟨⟨v, u, rfl, hp, by rw [ht]; exact hP, va_K.moved hW.alike C.2.2.2.2.2, hD⟩, hS.F ht⟩) hS.2.2 hdg hlk
theorem g_fret (C : CxX p s m args c D tys own cc nL ws) (hr : meth.sig.returnType = some .float) (hlk : meth.locks = false) {post : UInt32 → S → Prop} {v : UInt32} (u : S) (hw : Wu u = w) (hp : post v u) (hdg : decode cc pc = .ok (.freturn, 1)) : GoX p l e R s m args below meth c D A nL 0 0 (MQ below (va_Qf post (fun u t => OKX D tys (Wu u) A t) A) args s 0 0 A) pc lv [.float v] w := by
  intro H locs ls hP hD hS hl
  subst hw
  exact W.fret C.1 C.2.1 hr (fun t ht hW => ⟨⟨v, u, rfl, hp, by rw [ht]; exact hP, va_K.moved hW.alike C.2.2.2.2.2, hD⟩, hS.F ht⟩) hS.2.2 hdg hlk
theorem g_zret (C : CxX p s m args c D tys own cc nL ws) {ty : FieldType} (hr : meth.sig.returnType = some ty) (hlk : meth.locks = false) {post : Int32 → S → Prop} {v : Int32} (hn : narrow ty (.int v) = .int v) (u : S) (hw : Wu u = w) (hp : post v u) (hdg : decode cc pc = .ok (.ireturn, 1)) : GoX p l e R s m args below meth c D A nL 0 0 (MQ below (va_Qi post (fun u t => OKX D tys (Wu u) A t) A) args s 0 0 A) pc lv [.int v] w := by
  intro H locs ls hP hD hS hl
  subst hw
  exact W.zret C.1 C.2.1 hr hn (fun t ht hW => ⟨⟨v, u, rfl, hp, by rw [ht]; exact hP, va_K.moved hW.alike C.2.2.2.2.2, hD⟩, hS.F ht⟩) hS.2.2 hdg hlk
theorem g_vret (C : CxX p s m args c D tys own cc nL ws) (hr : meth.sig.returnType = none) (hlk : meth.locks = false) {post : S → Prop} (u : S) (hw : Wu u = w) (hp : post u) (hdg : decode cc pc = .ok (.return_, 1)) : GoX p l e R s m args below meth c D A nL 0 0 (MQ below (va_Qv post (fun u t => OKX D tys (Wu u) A t) A) args s 0 0 A) pc lv [] w := by
  intro H locs ls hP hD hS hl
  subst hw
  exact W.vret C.1 C.2.1 hr (fun t ht hW => ⟨⟨u, rfl, hp, by rw [ht]; exact hP, va_K.moved hW.alike C.2.2.2.2.2, hD⟩, hS.F ht⟩) hS.2.2 hdg hlk
theorem g_aret (C : CxX p s m args c D tys own cc nL ws) {ty : FieldType} (hr : meth.sig.returnType = some (.array ty)) (hlk : meth.locks = false) {post : S → Prop} {av : S → Nat} (u : S) (hw : Wu u = w) (hp : post u) (hdg : decode cc pc = .ok (.areturn, 1)) : GoX p l e R s m args below meth c D A nL 0 0 (MQ below (va_Qr post (fun u a t => a = av u ∧ OKX D tys (Wu u) A t) A) args s 0 0 A) pc lv [.ref (av u)] w := by
  intro H locs ls hP hD hS hl
  subst hw
  exact W.aret C.1 C.2.1 hr (Or.inr ⟨_, rfl⟩) (Or.inr ⟨_, rfl⟩) (fun t ht hW => ⟨⟨u, av u, rfl, hp, rfl, by rw [ht]; exact hP, va_K.moved hW.alike C.2.2.2.2.2, hD⟩, hS.F ht⟩) hS.2.2 hdg hlk
theorem g_callVi (C : CxX p s m args c D tys own cc nL ws) {Cn : String} {T : u_T} {N ci b : Nat} {y : MethodName} {wsy wsy2 : List Cond} {bytes : ByteArray} {maxL : Nat} {ret : Option FieldType} {rm : Room} {index : Nat} {As : List Value} {post : Int32 → S → Prop} (n9 : Nat) (hM : Met l y wsy rm (va_Pc (.ref b :: As) (OKX D tys w A)) (va_Qi post (fun u t => OKX D tys (Wu u) A t) A) 0 0 A) (hT : GoodIn ws (wsV own index Cn y wsy)) (hwy : wsy = Cond.code y bytes maxL ret :: wsy2) (hrc : rm.cells = 0) (hrs : rm.slots = 0) (hd : y.cls = Cn ∧ y.cls ≠ "java/lang/invoke/MethodHandle" ∧ y.cls ≠ "java/lang/invoke/VarHandle" ∧ (parseMethodDescriptor y.desc).map (fun d => d.parameters.length) = some n9) (hR : rm.frames + 1 ≤ R.frames ∧ 8 + (maxL + 11) + rm.locals ≤ R.locals) (q0 : Nat) {fs : List Value} (he : w[q0]? = some (b, .inr (ci, fs))) (hc : vwCl[ci]? = some (Cn, T, N)) {stk : List Value} (hst : stk = As.reverse ++ .ref b :: st) (hlen : As.length = n9) (hcat : (st.map fun v => v.category).sum ≤ 8) (hdg : decode cc pc = .ok (.invokevirtual index, 3)) (kk : ∀ (r : Int32) (u : S), post r u → GoX p l e R s m args below meth c D A nL 0 0 Q (pc + 3) lv (.int r :: st) (Wu u)) : GoX p l e R s m args below meth c D A nL 0 0 Q pc lv stk w := by
  intro H locs ls hP hD hS hl
  refine va_calli (va_runV (As := As) (rest := st) ⟨C.1, C.2.1, C.2.2.1, C.2.2.2.1, C.2.2.2.2.1⟩ hM (cwV n9 C.2.2.2.2.1 hT hwy hrc hrs hd hR) ⟨OKX_blind, va_recv C.2.2.2.2.2 hP hc he, fun U hU hW => ⟨rfl, by rw [hU]; exact hP, va_K.moved hW.alike C.2.2.2.2.2, hD⟩⟩ rfl hlen hl.1 hst (lv_room hcat) hdg ⟨Nat.zero_le _, Nat.zero_le _⟩) hS (fun _ _ h => h) (fun _ h => h) (fun r u t H1 locs1 ht hvm hp hB hz1 hk1 hS1 => ?_)
  have hB1 := hB.1
  rw [ht] at hB1
  exact kk r u hp H1 locs1 ls hB1 hB.2.2 hS1 hl
theorem g_callSi (C : CxX p s m args c D tys own cc nL ws) {y : MethodName} {wsy wsy2 : List Cond} {bytes : ByteArray} {maxL : Nat} {ret : Option FieldType} {rm : Room} {index : Nat} {As : List Value} {post : Int32 → S → Prop} (n9 : Nat) (hM : Met l y wsy rm (va_Pc As (OKX D tys w A)) (va_Qi post (fun u t => OKX D tys (Wu u) A t) A) 0 0 A) (hT : GoodIn ws (va_wsS own index y wsy)) (hwy : wsy = Cond.code y bytes maxL ret :: wsy2) (hrc : rm.cells = 0) (hrs : rm.slots = 0) (hd : y.cls ≠ "java/lang/invoke/MethodHandle" ∧ y.cls ≠ "java/lang/invoke/VarHandle" ∧ (parseMethodDescriptor y.desc).map (fun d => d.parameters.length) = some n9) (hR : rm.frames + 1 ≤ R.frames ∧ 8 + (maxL + 11) + rm.locals ≤ R.locals) {stk : List Value} (hst : stk = As.reverse ++ st) (hlen : As.length = n9) (hcat : (st.map fun v => v.category).sum ≤ 8) (hdg : decode cc pc = .ok (.invokestatic index, 3)) (kk : ∀ (r : Int32) (u : S), post r u → GoX p l e R s m args below meth c D A nL 0 0 Q (pc + 3) lv (.int r :: st) (Wu u)) : GoX p l e R s m args below meth c D A nL 0 0 Q pc lv stk w := by
  intro H locs ls hP hD hS hl
  refine va_calli (va_runS (As := As) (rest := st) ⟨C.1, C.2.1, C.2.2.1, C.2.2.2.1, C.2.2.2.2.1⟩ hM (va_cwS n9 C.2.2.2.2.1 hT hwy hrc hrs hd hR) ⟨OKX_blind, fun U hU hW => ⟨rfl, by rw [hU]; exact hP, va_K.moved hW.alike C.2.2.2.2.2, hD⟩⟩ rfl hlen hl.1 hst (lv_room hcat) hdg ⟨Nat.zero_le _, Nat.zero_le _⟩) hS (fun _ _ h => h) (fun _ h => h) (fun r u t H1 locs1 ht hvm hp hB hz1 hk1 hS1 => ?_)
  have hB1 := hB.1
  rw [ht] at hB1
  exact kk r u hp H1 locs1 ls hB1 hB.2.2 hS1 hl
theorem g_callVl (C : CxX p s m args c D tys own cc nL ws) {Cn : String} {T : u_T} {N ci b : Nat} {y : MethodName} {wsy wsy2 : List Cond} {bytes : ByteArray} {maxL : Nat} {ret : Option FieldType} {rm : Room} {index : Nat} {As : List Value} {post : Int64 → S → Prop} (n9 : Nat) (hM : Met l y wsy rm (va_Pc (.ref b :: As) (OKX D tys w A)) (va_Ql post (fun u t => OKX D tys (Wu u) A t) A) 0 0 A) (hT : GoodIn ws (wsV own index Cn y wsy)) (hwy : wsy = Cond.code y bytes maxL ret :: wsy2) (hrc : rm.cells = 0) (hrs : rm.slots = 0) (hd : y.cls = Cn ∧ y.cls ≠ "java/lang/invoke/MethodHandle" ∧ y.cls ≠ "java/lang/invoke/VarHandle" ∧ (parseMethodDescriptor y.desc).map (fun d => d.parameters.length) = some n9) (hR : rm.frames + 1 ≤ R.frames ∧ 8 + (maxL + 11) + rm.locals ≤ R.locals) (q0 : Nat) {fs : List Value} (he : w[q0]? = some (b, .inr (ci, fs))) (hc : vwCl[ci]? = some (Cn, T, N)) {stk : List Value} (hst : stk = As.reverse ++ .ref b :: st) (hlen : As.length = n9) (hcat : (st.map fun v => v.category).sum ≤ 8) (hdg : decode cc pc = .ok (.invokevirtual index, 3)) (kk : ∀ (r : Int64) (u : S), post r u → GoX p l e R s m args below meth c D A nL 0 0 Q (pc + 3) lv (.long r :: st) (Wu u)) : GoX p l e R s m args below meth c D A nL 0 0 Q pc lv stk w := by
  intro H locs ls hP hD hS hl
  refine va_calll (va_runV (As := As) (rest := st) ⟨C.1, C.2.1, C.2.2.1, C.2.2.2.1, C.2.2.2.2.1⟩ hM (cwV n9 C.2.2.2.2.1 hT hwy hrc hrs hd hR) ⟨OKX_blind, va_recv C.2.2.2.2.2 hP hc he, fun U hU hW => ⟨rfl, by rw [hU]; exact hP, va_K.moved hW.alike C.2.2.2.2.2, hD⟩⟩ rfl hlen hl.1 hst (lv_room hcat) hdg ⟨Nat.zero_le _, Nat.zero_le _⟩) hS (fun _ _ h => h) (fun _ h => h) (fun r u t H1 locs1 ht hvm hp hB hz1 hk1 hS1 => ?_)
  have hB1 := hB.1
  rw [ht] at hB1
  exact kk r u hp H1 locs1 ls hB1 hB.2.2 hS1 hl
theorem g_callSl (C : CxX p s m args c D tys own cc nL ws) {y : MethodName} {wsy wsy2 : List Cond} {bytes : ByteArray} {maxL : Nat} {ret : Option FieldType} {rm : Room} {index : Nat} {As : List Value} {post : Int64 → S → Prop} (n9 : Nat) (hM : Met l y wsy rm (va_Pc As (OKX D tys w A)) (va_Ql post (fun u t => OKX D tys (Wu u) A t) A) 0 0 A) (hT : GoodIn ws (va_wsS own index y wsy)) (hwy : wsy = Cond.code y bytes maxL ret :: wsy2) (hrc : rm.cells = 0) (hrs : rm.slots = 0) (hd : y.cls ≠ "java/lang/invoke/MethodHandle" ∧ y.cls ≠ "java/lang/invoke/VarHandle" ∧ (parseMethodDescriptor y.desc).map (fun d => d.parameters.length) = some n9) (hR : rm.frames + 1 ≤ R.frames ∧ 8 + (maxL + 11) + rm.locals ≤ R.locals) {stk : List Value} (hst : stk = As.reverse ++ st) (hlen : As.length = n9) (hcat : (st.map fun v => v.category).sum ≤ 8) (hdg : decode cc pc = .ok (.invokestatic index, 3)) (kk : ∀ (r : Int64) (u : S), post r u → GoX p l e R s m args below meth c D A nL 0 0 Q (pc + 3) lv (.long r :: st) (Wu u)) : GoX p l e R s m args below meth c D A nL 0 0 Q pc lv stk w := by
  intro H locs ls hP hD hS hl
  refine va_calll (va_runS (As := As) (rest := st) ⟨C.1, C.2.1, C.2.2.1, C.2.2.2.1, C.2.2.2.2.1⟩ hM (va_cwS n9 C.2.2.2.2.1 hT hwy hrc hrs hd hR) ⟨OKX_blind, fun U hU hW => ⟨rfl, by rw [hU]; exact hP, va_K.moved hW.alike C.2.2.2.2.2, hD⟩⟩ rfl hlen hl.1 hst (lv_room hcat) hdg ⟨Nat.zero_le _, Nat.zero_le _⟩) hS (fun _ _ h => h) (fun _ h => h) (fun r u t H1 locs1 ht hvm hp hB hz1 hk1 hS1 => ?_)
  have hB1 := hB.1
  rw [ht] at hB1
  exact kk r u hp H1 locs1 ls hB1 hB.2.2 hS1 hl
theorem g_callVf (C : CxX p s m args c D tys own cc nL ws) {Cn : String} {T : u_T} {N ci b : Nat} {y : MethodName} {wsy wsy2 : List Cond} {bytes : ByteArray} {maxL : Nat} {ret : Option FieldType} {rm : Room} {index : Nat} {As : List Value} {post : UInt32 → S → Prop} (n9 : Nat) (hM : Met l y wsy rm (va_Pc (.ref b :: As) (OKX D tys w A)) (va_Qf post (fun u t => OKX D tys (Wu u) A t) A) 0 0 A) (hT : GoodIn ws (wsV own index Cn y wsy)) (hwy : wsy = Cond.code y bytes maxL ret :: wsy2) (hrc : rm.cells = 0) (hrs : rm.slots = 0) (hd : y.cls = Cn ∧ y.cls ≠ "java/lang/invoke/MethodHandle" ∧ y.cls ≠ "java/lang/invoke/VarHandle" ∧ (parseMethodDescriptor y.desc).map (fun d => d.parameters.length) = some n9) (hR : rm.frames + 1 ≤ R.frames ∧ 8 + (maxL + 11) + rm.locals ≤ R.locals) (q0 : Nat) {fs : List Value} (he : w[q0]? = some (b, .inr (ci, fs))) (hc : vwCl[ci]? = some (Cn, T, N)) {stk : List Value} (hst : stk = As.reverse ++ .ref b :: st) (hlen : As.length = n9) (hcat : (st.map fun v => v.category).sum ≤ 8) (hdg : decode cc pc = .ok (.invokevirtual index, 3)) (kk : ∀ (r : UInt32) (u : S), post r u → GoX p l e R s m args below meth c D A nL 0 0 Q (pc + 3) lv (.float r :: st) (Wu u)) : GoX p l e R s m args below meth c D A nL 0 0 Q pc lv stk w := by
  intro H locs ls hP hD hS hl
  refine va_callf (va_runV (As := As) (rest := st) ⟨C.1, C.2.1, C.2.2.1, C.2.2.2.1, C.2.2.2.2.1⟩ hM (cwV n9 C.2.2.2.2.1 hT hwy hrc hrs hd hR) ⟨OKX_blind, va_recv C.2.2.2.2.2 hP hc he, fun U hU hW => ⟨rfl, by rw [hU]; exact hP, va_K.moved hW.alike C.2.2.2.2.2, hD⟩⟩ rfl hlen hl.1 hst (lv_room hcat) hdg ⟨Nat.zero_le _, Nat.zero_le _⟩) hS (fun _ _ h => h) (fun _ h => h) (fun r u t H1 locs1 ht hvm hp hB hz1 hk1 hS1 => ?_)
  have hB1 := hB.1
  rw [ht] at hB1
  exact kk r u hp H1 locs1 ls hB1 hB.2.2 hS1 hl
theorem g_callSf (C : CxX p s m args c D tys own cc nL ws) {y : MethodName} {wsy wsy2 : List Cond} {bytes : ByteArray} {maxL : Nat} {ret : Option FieldType} {rm : Room} {index : Nat} {As : List Value} {post : UInt32 → S → Prop} (n9 : Nat) (hM : Met l y wsy rm (va_Pc As (OKX D tys w A)) (va_Qf post (fun u t => OKX D tys (Wu u) A t) A) 0 0 A) (hT : GoodIn ws (va_wsS own index y wsy)) (hwy : wsy = Cond.code y bytes maxL ret :: wsy2) (hrc : rm.cells = 0) (hrs : rm.slots = 0) (hd : y.cls ≠ "java/lang/invoke/MethodHandle" ∧ y.cls ≠ "java/lang/invoke/VarHandle" ∧ (parseMethodDescriptor y.desc).map (fun d => d.parameters.length) = some n9) (hR : rm.frames + 1 ≤ R.frames ∧ 8 + (maxL + 11) + rm.locals ≤ R.locals) {stk : List Value} (hst : stk = As.reverse ++ st) (hlen : As.length = n9) (hcat : (st.map fun v => v.category).sum ≤ 8) (hdg : decode cc pc = .ok (.invokestatic index, 3)) (kk : ∀ (r : UInt32) (u : S), post r u → GoX p l e R s m args below meth c D A nL 0 0 Q (pc + 3) lv (.float r :: st) (Wu u)) : GoX p l e R s m args below meth c D A nL 0 0 Q pc lv stk w := by
  intro H locs ls hP hD hS hl
  refine va_callf (va_runS (As := As) (rest := st) ⟨C.1, C.2.1, C.2.2.1, C.2.2.2.1, C.2.2.2.2.1⟩ hM (va_cwS n9 C.2.2.2.2.1 hT hwy hrc hrs hd hR) ⟨OKX_blind, fun U hU hW => ⟨rfl, by rw [hU]; exact hP, va_K.moved hW.alike C.2.2.2.2.2, hD⟩⟩ rfl hlen hl.1 hst (lv_room hcat) hdg ⟨Nat.zero_le _, Nat.zero_le _⟩) hS (fun _ _ h => h) (fun _ h => h) (fun r u t H1 locs1 ht hvm hp hB hz1 hk1 hS1 => ?_)
  have hB1 := hB.1
  rw [ht] at hB1
  exact kk r u hp H1 locs1 ls hB1 hB.2.2 hS1 hl
theorem g_callVv (C : CxX p s m args c D tys own cc nL ws) {Cn : String} {T : u_T} {N ci b : Nat} {y : MethodName} {wsy wsy2 : List Cond} {bytes : ByteArray} {maxL : Nat} {ret : Option FieldType} {rm : Room} {index : Nat} {As : List Value} {post : S → Prop} (n9 : Nat) (hM : Met l y wsy rm (va_Pc (.ref b :: As) (OKX D tys w A)) (va_Qv post (fun u t => OKX D tys (Wu u) A t) A) 0 0 A) (hT : GoodIn ws (wsV own index Cn y wsy)) (hwy : wsy = Cond.code y bytes maxL ret :: wsy2) (hrc : rm.cells = 0) (hrs : rm.slots = 0) (hd : y.cls = Cn ∧ y.cls ≠ "java/lang/invoke/MethodHandle" ∧ y.cls ≠ "java/lang/invoke/VarHandle" ∧ (parseMethodDescriptor y.desc).map (fun d => d.parameters.length) = some n9) (hR : rm.frames + 1 ≤ R.frames ∧ 8 + (maxL + 11) + rm.locals ≤ R.locals) (q0 : Nat) {fs : List Value} (he : w[q0]? = some (b, .inr (ci, fs))) (hc : vwCl[ci]? = some (Cn, T, N)) {stk : List Value} (hst : stk = As.reverse ++ .ref b :: st) (hlen : As.length = n9) (hcat : (st.map fun v => v.category).sum ≤ 8) (hdg : decode cc pc = .ok (.invokevirtual index, 3)) (kk : ∀ u : S, post u → GoX p l e R s m args below meth c D A nL 0 0 Q (pc + 3) lv st (Wu u)) : GoX p l e R s m args below meth c D A nL 0 0 Q pc lv stk w := by
  intro H locs ls hP hD hS hl
  refine va_callv (va_runV (As := As) (rest := st) ⟨C.1, C.2.1, C.2.2.1, C.2.2.2.1, C.2.2.2.2.1⟩ hM (cwV n9 C.2.2.2.2.1 hT hwy hrc hrs hd hR) ⟨OKX_blind, va_recv C.2.2.2.2.2 hP hc he, fun U hU hW => ⟨rfl, by rw [hU]; exact hP, va_K.moved hW.alike C.2.2.2.2.2, hD⟩⟩ rfl hlen hl.1 hst (lv_room hcat) hdg ⟨Nat.zero_le _, Nat.zero_le _⟩) hS (fun _ _ h => h) (fun _ h => h) (fun u t H1 locs1 ht hvm hp hB hz1 hk1 hS1 => ?_)
  have hB1 := hB.1
  rw [ht] at hB1
  exact kk u hp H1 locs1 ls hB1 hB.2.2 hS1 hl
theorem g_callSv (C : CxX p s m args c D tys own cc nL ws) {y : MethodName} {wsy wsy2 : List Cond} {bytes : ByteArray} {maxL : Nat} {ret : Option FieldType} {rm : Room} {index : Nat} {As : List Value} {post : S → Prop} (n9 : Nat) (hM : Met l y wsy rm (va_Pc As (OKX D tys w A)) (va_Qv post (fun u t => OKX D tys (Wu u) A t) A) 0 0 A) (hT : GoodIn ws (va_wsS own index y wsy)) (hwy : wsy = Cond.code y bytes maxL ret :: wsy2) (hrc : rm.cells = 0) (hrs : rm.slots = 0) (hd : y.cls ≠ "java/lang/invoke/MethodHandle" ∧ y.cls ≠ "java/lang/invoke/VarHandle" ∧ (parseMethodDescriptor y.desc).map (fun d => d.parameters.length) = some n9) (hR : rm.frames + 1 ≤ R.frames ∧ 8 + (maxL + 11) + rm.locals ≤ R.locals) {stk : List Value} (hst : stk = As.reverse ++ st) (hlen : As.length = n9) (hcat : (st.map fun v => v.category).sum ≤ 8) (hdg : decode cc pc = .ok (.invokestatic index, 3)) (kk : ∀ u : S, post u → GoX p l e R s m args below meth c D A nL 0 0 Q (pc + 3) lv st (Wu u)) : GoX p l e R s m args below meth c D A nL 0 0 Q pc lv stk w := by
  intro H locs ls hP hD hS hl
  refine va_callv (va_runS (As := As) (rest := st) ⟨C.1, C.2.1, C.2.2.1, C.2.2.2.1, C.2.2.2.2.1⟩ hM (va_cwS n9 C.2.2.2.2.1 hT hwy hrc hrs hd hR) ⟨OKX_blind, fun U hU hW => ⟨rfl, by rw [hU]; exact hP, va_K.moved hW.alike C.2.2.2.2.2, hD⟩⟩ rfl hlen hl.1 hst (lv_room hcat) hdg ⟨Nat.zero_le _, Nat.zero_le _⟩) hS (fun _ _ h => h) (fun _ h => h) (fun u t H1 locs1 ht hvm hp hB hz1 hk1 hS1 => ?_)
  have hB1 := hB.1
  rw [ht] at hB1
  exact kk u hp H1 locs1 ls hB1 hB.2.2 hS1 hl
theorem g_callVr (C : CxX p s m args c D tys own cc nL ws) {Cn : String} {T : u_T} {N ci b : Nat} {y : MethodName} {wsy wsy2 : List Cond} {bytes : ByteArray} {maxL : Nat} {ret : Option FieldType} {rm : Room} {index : Nat} {As : List Value} {post : S → Prop} {av : S → Nat} (n9 : Nat) (hM : Met l y wsy rm (va_Pc (.ref b :: As) (OKX D tys w A)) (va_Qr post (fun u a t => a = av u ∧ OKX D tys (Wu u) A t) A) 0 0 A) (hT : GoodIn ws (wsV own index Cn y wsy)) (hwy : wsy = Cond.code y bytes maxL ret :: wsy2) (hrc : rm.cells = 0) (hrs : rm.slots = 0) (hd : y.cls = Cn ∧ y.cls ≠ "java/lang/invoke/MethodHandle" ∧ y.cls ≠ "java/lang/invoke/VarHandle" ∧ (parseMethodDescriptor y.desc).map (fun d => d.parameters.length) = some n9) (hR : rm.frames + 1 ≤ R.frames ∧ 8 + (maxL + 11) + rm.locals ≤ R.locals) (q0 : Nat) {fs : List Value} (he : w[q0]? = some (b, .inr (ci, fs))) (hc : vwCl[ci]? = some (Cn, T, N)) {stk : List Value} (hst : stk = As.reverse ++ .ref b :: st) (hlen : As.length = n9) (hcat : (st.map fun v => v.category).sum ≤ 8) (hdg : decode cc pc = .ok (.invokevirtual index, 3)) (kk : ∀ u : S, post u → GoX p l e R s m args below meth c D A nL 0 0 Q (pc + 3) lv (.ref (av u) :: st) (Wu u)) : GoX p l e R s m args below meth c D A nL 0 0 Q pc lv stk w := by
  intro H locs ls hP hD hS hl
  refine va_callr (va_runV (As := As) (rest := st) ⟨C.1, C.2.1, C.2.2.1, C.2.2.2.1, C.2.2.2.2.1⟩ hM (cwV n9 C.2.2.2.2.1 hT hwy hrc hrs hd hR) ⟨OKX_blind, va_recv C.2.2.2.2.2 hP hc he, fun U hU hW => ⟨rfl, by rw [hU]; exact hP, va_K.moved hW.alike C.2.2.2.2.2, hD⟩⟩ rfl hlen hl.1 hst (lv_room hcat) hdg ⟨Nat.zero_le _, Nat.zero_le _⟩) hS (fun _ _ h => h) (fun _ h => h) ?_
  intro u a t H1 locs1 ht hvm hp hB hz1 hk1 hS1
  obtain ⟨rfl, hB1, hB2, hB3⟩ := hB
  rw [ht] at hB1
  exact kk u hp H1 locs1 ls hB1 hB3 hS1 hl
theorem g_callSr (C : CxX p s m args c D tys own cc nL ws) {y : MethodName} {wsy wsy2 : List Cond} {bytes : ByteArray} {maxL : Nat} {ret : Option FieldType} {rm : Room} {index : Nat} {As : List Value} {post : S → Prop} {av : S → Nat} (n9 : Nat) (hM : Met l y wsy rm (va_Pc As (OKX D tys w A)) (va_Qr post (fun u a t => a = av u ∧ OKX D tys (Wu u) A t) A) 0 0 A) (hT : GoodIn ws (va_wsS own index y wsy)) (hwy : wsy = Cond.code y bytes maxL ret :: wsy2) (hrc : rm.cells = 0) (hrs : rm.slots = 0) (hd : y.cls ≠ "java/lang/invoke/MethodHandle" ∧ y.cls ≠ "java/lang/invoke/VarHandle" ∧ (parseMethodDescriptor y.desc).map (fun d => d.parameters.length) = some n9) (hR : rm.frames + 1 ≤ R.frames ∧ 8 + (maxL + 11) + rm.locals ≤ R.locals) {stk : List Value} (hst : stk = As.reverse ++ st) (hlen : As.length = n9) (hcat : (st.map fun v => v.category).sum ≤ 8) (hdg : decode cc pc = .ok (.invokestatic index, 3)) (kk : ∀ u : S, post u → GoX p l e R s m args below meth c D A nL 0 0 Q (pc + 3) lv (.ref (av u) :: st) (Wu u)) : GoX p l e R s m args below meth c D A nL 0 0 Q pc lv stk w := by
  intro H locs ls hP hD hS hl
  refine va_callr (va_runS (As := As) (rest := st) ⟨C.1, C.2.1, C.2.2.1, C.2.2.2.1, C.2.2.2.2.1⟩ hM (va_cwS n9 C.2.2.2.2.1 hT hwy hrc hrs hd hR) ⟨OKX_blind, fun U hU hW => ⟨rfl, by rw [hU]; exact hP, va_K.moved hW.alike C.2.2.2.2.2, hD⟩⟩ rfl hlen hl.1 hst (lv_room hcat) hdg ⟨Nat.zero_le _, Nat.zero_le _⟩) hS (fun _ _ h => h) (fun _ h => h) ?_
  intro u a t H1 locs1 ht hvm hp hB hz1 hk1 hS1
  obtain ⟨rfl, hB1, hB2, hB3⟩ := hB
  rw [ht] at hB1
  exact kk u hp H1 locs1 ls hB1 hB3 hS1 hl
end RET
theorem g_met {l : Launch} {D : va_G} {A : Nat → Prop} {tys : List (ClassId × FieldType)} {own : String} {y : MethodName} {wsy wsy2 : List Cond} {rm : Room} {cc : ByteArray} {maxL : Nat} {ret : Option FieldType} {av : List Value} {w : va_W} {Qc : Array Value → State → Outcome → State → Prop} (hy : plainName y.cls = true) (hyo : y.cls = own) (hw : wsy = Cond.code y cc maxL ret :: wsy2) (hlg : (lg_sl av).length ≤ maxL)
    (body : ∀ (p : Program) (e : Env) (s : State) (m : MethodId) (below : List Frame) (meth : Method) (c : Code), CxX p s m av.toArray c D tys own cc maxL wsy → meth.sig.returnType = ret → meth.locks = false → (s.methodNamed? y = some m ∧ s.vm.method? m = some meth) → GoX p l e rm s m av.toArray below meth c D A maxL 0 0 (MQ below Qc av.toArray s 0 0 A) 0 (lv_args 0 av) [] w) : Met l y wsy rm (va_Pc av (OKX D tys w A)) Qc 0 0 A := by
  refine Met.ofW (cc := cc) (maxL := maxL) (ret := ret) hy hw ?_
  intro p e s m args below meth c s₁ B hml hv
  obtain ⟨rfl, hP, hK, hD⟩ := hv
  have hown : s.vm.findClass own = some m.cls := by rw [← hyo]; exact findClass_of_methodNamed B.named
  have hl := lv_entry av (n := maxL) hlg
  rw [lg_entry_eq]
  exact body p e s m below meth c ⟨B.exec, B.bytes, hml, hown, atoms_spec (ws := wsy) B.pre, hK⟩ B.returns B.notSynchronized ⟨B.named, B.method⟩ s.heap [] _ hP hD va_S.rf hl
end
section
/-! WORLDS: the class's 102 cells (ad i: the address of the i-th), the reference's 8 -/
def poolX (n : Nat) (a : Nat → Nat) (f : Nat → va_E) : va_W := (List.range n).map (fun i => (a i, f i))
theorem poolX_len {n : Nat} {a : Nat → Nat} {f : Nat → va_E} : (poolX n a f).length = n := by simp [poolX]
theorem poolX_get {n i : Nat} {a : Nat → Nat} {f : Nat → va_E} (h : i < n) : (poolX n a f)[i]? = some (a i, f i) := by simp [poolX, List.getElem?_range h]
theorem poolX_set {n i : Nat} {a : Nat → Nat} {f g : Nat → va_E} {e : va_E} (h : i < n) (hg : ∀ j, j < n → g j = va_up f i e j) : (poolX n a f).set i (a i, e) = poolX n a g := by
  apply List.ext_getElem?
  intro j
  by_cases hj : j < n
  · by_cases e9 : i = j
    · subst e9
      rw [List.getElem?_set_self (by rw [poolX_len]; exact h), poolX_get h, hg i h]
      simp [va_up]
    · rw [List.getElem?_set_ne e9, poolX_get hj, poolX_get hj, hg j hj]
      simp [va_up, Ne.symm e9]
  · rw [List.getElem?_eq_none (by rw [List.length_set, poolX_len]; omega), List.getElem?_eq_none (by rw [poolX_len]; omega)]
theorem appL_get {α : Type} {a b : List α} {n i : Nat} {x : α} (hn : a.length = n) (h : b[i]? = some x) : (a ++ b)[n + i]? = some x := by
  rw [List.getElem?_append_right (by omega), hn, Nat.add_sub_cancel_left, h]
theorem appL_get0 {α : Type} {a b : List α} {i : Nat} {x : α} (h : a[i]? = some x) : (a ++ b)[i]? = some x := by
  rw [List.getElem?_append_left (List.getElem?_eq_some_iff.mp h).1, h]
theorem appL_set {α : Type} {a b b2 : List α} {n i : Nat} {x : α} (hn : a.length = n) (h : b.set i x = b2) : (a ++ b).set (n + i) x = a ++ b2 := by
  subst hn
  rw [List.set_append_right _ _ (by omega), Nat.add_sub_cancel_left, h]
theorem appL_set0 {α : Type} {a a2 b : List α} {i : Nat} {x : α} (hi : i < a.length) (h : a.set i x = a2) : (a ++ b).set i x = a2 ++ b := by
  rw [List.set_append_left _ _ hi, h]
def isBo (v : Int32) : Prop := v = 0 ∨ v = 1
theorem isBo.n {v : Int32} (h : isBo v) : narrow .boolean (.int v) = .int v := by rcases h with rfl | rfl <;> rfl
theorem isBo.f {v : Int32} (h : isBo v) : fits .boolean (.int v) = true := by rcases h with rfl | rfl <;> rfl
abbrev tysX (cA : Nat → ClassId) : List (ClassId × FieldType) := [(cA 0, .char), (cA 1, .int), (cA 2, .long), (cA 3, .object "ScoreNumbers$State"), (cA 4, .array .int)]
def pS (ad : Nat → Nat) (nw kp pt : Nat → Int32) : va_W := poolX 5 (fun k => ad (7 + k)) (fun k => .inr (2, [.ref (ad (12 + k)), .ref (ad (17 + k)), .int (nw k), .int (kp k), .int (pt k)]))
def pHO (ad : Nat → Nat) (cA : Nat → ClassId) : va_W := poolX 5 (fun k => ad (12 + k)) (fun k => .inl (cA 4, 6, .inr (.inr (.inr (.inr (fun j => some (ad (22 + (6 * k + j)))))))))
def pLO (ad : Nat → Nat) (cA : Nat → ClassId) : va_W := poolX 5 (fun k => ad (17 + k)) (fun k => .inl (cA 4, 10, .inr (.inr (.inr (.inr (fun j => some (ad (52 + (10 * k + j)))))))))
def pHR (ad : Nat → Nat) (cA : Nat → ClassId) (hr : Nat → Nat → Int32) : va_W := poolX 30 (fun n => ad (22 + n)) (fun n => .inl (cA 1, 9, .inl (hr n)))
def pLR (ad : Nat → Nat) (cA : Nat → ClassId) (lr : Nat → Nat → Int32) : va_W := poolX 50 (fun n => ad (52 + n)) (fun n => .inl (cA 1, 5, .inl (lr n)))
def fX (ad : Nat → Nat) (cA : Nat → ClassId) (tl : Int32) (tx : (Nat → Int32)) (mn : Int32) (sd : (Nat → Int64)) (e0 : Int32) (e1 : Int32) (e2 : Int32) (e3 : Int32) (e4 : Int32) (e5 : Int32) (e6 : Int32) (e7 : Int32) (e8 : Int32) (e9 : Int32) (e10 : Int32) (fr : Int32) (hd : Int32) : va_W := [(ad 0, .inr (4, [.ref (ad 7), .ref (ad 5), .ref (ad 1), .int tl, .ref (ad 2), .ref (ad 4)])), (ad 1, .inl (cA 0, 20, .inl tx)), (ad 2, .inr (3, [.ref (ad 3), .int mn])), (ad 3, .inl (cA 2, 16, .inr (.inl sd))), (ad 4, .inr (0, [.int e0, .int e1, .int e2, .int e3, .int e4, .int e5, .int e6, .int e7, .int e8, .int e9, .int e10])), (ad 5, .inr (1, [.ref (ad 6), .int fr, .int hd])), (ad 6, .inl (cA 3, 4, .inr (.inr (.inr (.inr (fun j => some (ad (7 + (1 + j)))))))))]
def WX (ad : Nat → Nat) (cA : Nat → ClassId) (tl : Int32) (tx : (Nat → Int32)) (mn : Int32) (sd : (Nat → Int64)) (e0 : Int32) (e1 : Int32) (e2 : Int32) (e3 : Int32) (e4 : Int32) (e5 : Int32) (e6 : Int32) (e7 : Int32) (e8 : Int32) (e9 : Int32) (e10 : Int32) (fr : Int32) (hd : Int32) (nw : (Nat → Int32)) (kp : (Nat → Int32)) (pt : (Nat → Int32)) (hr : (Nat → Nat → Int32)) (lr : (Nat → Nat → Int32)) : va_W := fX ad cA tl tx mn sd e0 e1 e2 e3 e4 e5 e6 e7 e8 e9 e10 fr hd ++ (pS ad nw kp pt ++ (pHO ad cA ++ (pLO ad cA ++ (pHR ad cA hr ++ pLR ad cA lr))))
def WM (ad : Nat → Nat) (cA : Nat → ClassId) (ms : (Nat → Int32)) (mb : (Nat → Int32)) (my : (Nat → Int32)) (mt : (Nat → Int32)) (mw : (Nat → Int32)) (ml : (Nat → Int32)) (mo : (Nat → Int32)) (gm : Int32) (gs : Int32) (ga : Int32) (gg : Int32) (gb : Int32) (gu : Int32) (gh : Int32) (gk : Int32) (gl : Int32) (gn : Int32) (gt : Int32) : va_W := [(ad 0, .inr (5, [.ref (ad 1), .ref (ad 2), .ref (ad 3), .ref (ad 4), .ref (ad 5), .ref (ad 6), .ref (ad 7), .int gm, .int gs, .int ga, .int gg, .int gb, .int gu, .int gh, .int gk, .int gl, .int gn, .int gt])), (ad 1, .inl (cA 1, 106, .inl ms)), (ad 2, .inl (cA 1, 424, .inl mb)), (ad 3, .inl (cA 0, 20, .inl my)), (ad 4, .inl (cA 0, 20, .inl mt)), (ad 5, .inl (cA 0, 160, .inl mw)), (ad 6, .inl (cA 1, 16, .inl ml)), (ad 7, .inl (cA 1, 16, .inl mo))]
variable {ad : Nat → Nat} {cA : Nat → ClassId} {tl : Int32} {tx : (Nat → Int32)} {mn : Int32} {sd : (Nat → Int64)} {e0 : Int32} {e1 : Int32} {e2 : Int32} {e3 : Int32} {e4 : Int32} {e5 : Int32} {e6 : Int32} {e7 : Int32} {e8 : Int32} {e9 : Int32} {e10 : Int32} {fr : Int32} {hd : Int32} {nw : (Nat → Int32)} {kp : (Nat → Int32)} {pt : (Nat → Int32)} {hr : (Nat → Nat → Int32)} {lr : (Nat → Nat → Int32)}
theorem WXg0 : (WX ad cA tl tx mn sd e0 e1 e2 e3 e4 e5 e6 e7 e8 e9 e10 fr hd nw kp pt hr lr)[0]? = some (ad 0, .inr (4, [.ref (ad 7), .ref (ad 5), .ref (ad 1), .int tl, .ref (ad 2), .ref (ad 4)])) := rfl
theorem WXg1 : (WX ad cA tl tx mn sd e0 e1 e2 e3 e4 e5 e6 e7 e8 e9 e10 fr hd nw kp pt hr lr)[1]? = some (ad 1, .inl (cA 0, 20, .inl tx)) := rfl
theorem WXg2 : (WX ad cA tl tx mn sd e0 e1 e2 e3 e4 e5 e6 e7 e8 e9 e10 fr hd nw kp pt hr lr)[2]? = some (ad 2, .inr (3, [.ref (ad 3), .int mn])) := rfl
theorem WXg3 : (WX ad cA tl tx mn sd e0 e1 e2 e3 e4 e5 e6 e7 e8 e9 e10 fr hd nw kp pt hr lr)[3]? = some (ad 3, .inl (cA 2, 16, .inr (.inl sd))) := rfl
theorem WXg4 : (WX ad cA tl tx mn sd e0 e1 e2 e3 e4 e5 e6 e7 e8 e9 e10 fr hd nw kp pt hr lr)[4]? = some (ad 4, .inr (0, [.int e0, .int e1, .int e2, .int e3, .int e4, .int e5, .int e6, .int e7, .int e8, .int e9, .int e10])) := rfl
theorem WXg5 : (WX ad cA tl tx mn sd e0 e1 e2 e3 e4 e5 e6 e7 e8 e9 e10 fr hd nw kp pt hr lr)[5]? = some (ad 5, .inr (1, [.ref (ad 6), .int fr, .int hd])) := rfl
theorem WXg6 : (WX ad cA tl tx mn sd e0 e1 e2 e3 e4 e5 e6 e7 e8 e9 e10 fr hd nw kp pt hr lr)[6]? = some (ad 6, .inl (cA 3, 4, .inr (.inr (.inr (.inr (fun j => some (ad (7 + (1 + j))))))))) := rfl
theorem WXg_ST {k : Nat} (h : k < 5) : (WX ad cA tl tx mn sd e0 e1 e2 e3 e4 e5 e6 e7 e8 e9 e10 fr hd nw kp pt hr lr)[7 + k]? = some (ad (7 + k), .inr (2, [.ref (ad (12 + k)), .ref (ad (17 + k)), .int (nw k), .int (kp k), .int (pt k)])) := appL_get rfl (appL_get0 (poolX_get h))
theorem WXg_HO {k : Nat} (h : k < 5) : (WX ad cA tl tx mn sd e0 e1 e2 e3 e4 e5 e6 e7 e8 e9 e10 fr hd nw kp pt hr lr)[12 + k]? = some (ad (12 + k), .inl (cA 4, 6, .inr (.inr (.inr (.inr (fun j => some (ad (22 + (6 * k + j))))))))) := by
  rw [show 12 + k = 7 + (5 + k) by omega]
  exact appL_get rfl (appL_get poolX_len (appL_get0 (by rw [show 7 + (5 + k) = 12 + k by omega]; exact poolX_get h)))
theorem WXg_LO {k : Nat} (h : k < 5) : (WX ad cA tl tx mn sd e0 e1 e2 e3 e4 e5 e6 e7 e8 e9 e10 fr hd nw kp pt hr lr)[17 + k]? = some (ad (17 + k), .inl (cA 4, 10, .inr (.inr (.inr (.inr (fun j => some (ad (52 + (10 * k + j))))))))) := by
  rw [show 17 + k = 7 + (5 + (5 + k)) by omega]
  exact appL_get rfl (appL_get poolX_len (appL_get poolX_len (appL_get0 (by rw [show 7 + (5 + (5 + k)) = 17 + k by omega]; exact poolX_get h))))
theorem WXg_HR {k : Nat} (h : k < 30) : (WX ad cA tl tx mn sd e0 e1 e2 e3 e4 e5 e6 e7 e8 e9 e10 fr hd nw kp pt hr lr)[22 + k]? = some (ad (22 + k), .inl (cA 1, 9, .inl (hr k))) := by
  rw [show 22 + k = 7 + (5 + (5 + (5 + k))) by omega]
  exact appL_get rfl (appL_get poolX_len (appL_get poolX_len (appL_get poolX_len (appL_get0 (by rw [show 7 + (5 + (5 + (5 + k))) = 22 + k by omega]; exact poolX_get h)))))
theorem WXg_LR {k : Nat} (h : k < 50) : (WX ad cA tl tx mn sd e0 e1 e2 e3 e4 e5 e6 e7 e8 e9 e10 fr hd nw kp pt hr lr)[52 + k]? = some (ad (52 + k), .inl (cA 1, 5, .inl (lr k))) := by
  rw [show 52 + k = 7 + (5 + (5 + (5 + (30 + k)))) by omega]
  exact appL_get rfl (appL_get poolX_len (appL_get poolX_len (appL_get poolX_len (appL_get poolX_len (by rw [show 7 + (5 + (5 + (5 + (30 + k)))) = 52 + k by omega]; exact poolX_get h)))))
theorem WXs_tl {v9 : Int32} : (WX ad cA tl tx mn sd e0 e1 e2 e3 e4 e5 e6 e7 e8 e9 e10 fr hd nw kp pt hr lr).set 0 (ad 0, .inr (4, List.set [.ref (ad 7), .ref (ad 5), .ref (ad 1), .int tl, .ref (ad 2), .ref (ad 4)] 3 (.int v9))) = WX ad cA v9 tx mn sd e0 e1 e2 e3 e4 e5 e6 e7 e8 e9 e10 fr hd nw kp pt hr lr := rfl
theorem WXs_tx {v9 : (Nat → Int32)} : (WX ad cA tl tx mn sd e0 e1 e2 e3 e4 e5 e6 e7 e8 e9 e10 fr hd nw kp pt hr lr).set 1 (ad 1, .inl (cA 0, 20, .inl v9)) = WX ad cA tl v9 mn sd e0 e1 e2 e3 e4 e5 e6 e7 e8 e9 e10 fr hd nw kp pt hr lr := rfl
theorem WXs_mn {v9 : Int32} : (WX ad cA tl tx mn sd e0 e1 e2 e3 e4 e5 e6 e7 e8 e9 e10 fr hd nw kp pt hr lr).set 2 (ad 2, .inr (3, List.set [.ref (ad 3), .int mn] 1 (.int v9))) = WX ad cA tl tx v9 sd e0 e1 e2 e3 e4 e5 e6 e7 e8 e9 e10 fr hd nw kp pt hr lr := rfl
theorem WXs_sd {v9 : (Nat → Int64)} : (WX ad cA tl tx mn sd e0 e1 e2 e3 e4 e5 e6 e7 e8 e9 e10 fr hd nw kp pt hr lr).set 3 (ad 3, .inl (cA 2, 16, .inr (.inl v9))) = WX ad cA tl tx mn v9 e0 e1 e2 e3 e4 e5 e6 e7 e8 e9 e10 fr hd nw kp pt hr lr := rfl
theorem WXs_e0 {v9 : Int32} : (WX ad cA tl tx mn sd e0 e1 e2 e3 e4 e5 e6 e7 e8 e9 e10 fr hd nw kp pt hr lr).set 4 (ad 4, .inr (0, List.set [.int e0, .int e1, .int e2, .int e3, .int e4, .int e5, .int e6, .int e7, .int e8, .int e9, .int e10] 0 (.int v9))) = WX ad cA tl tx mn sd v9 e1 e2 e3 e4 e5 e6 e7 e8 e9 e10 fr hd nw kp pt hr lr := rfl
theorem WXs_e1 {v9 : Int32} : (WX ad cA tl tx mn sd e0 e1 e2 e3 e4 e5 e6 e7 e8 e9 e10 fr hd nw kp pt hr lr).set 4 (ad 4, .inr (0, List.set [.int e0, .int e1, .int e2, .int e3, .int e4, .int e5, .int e6, .int e7, .int e8, .int e9, .int e10] 1 (.int v9))) = WX ad cA tl tx mn sd e0 v9 e2 e3 e4 e5 e6 e7 e8 e9 e10 fr hd nw kp pt hr lr := rfl
theorem WXs_e2 {v9 : Int32} : (WX ad cA tl tx mn sd e0 e1 e2 e3 e4 e5 e6 e7 e8 e9 e10 fr hd nw kp pt hr lr).set 4 (ad 4, .inr (0, List.set [.int e0, .int e1, .int e2, .int e3, .int e4, .int e5, .int e6, .int e7, .int e8, .int e9, .int e10] 2 (.int v9))) = WX ad cA tl tx mn sd e0 e1 v9 e3 e4 e5 e6 e7 e8 e9 e10 fr hd nw kp pt hr lr := rfl
theorem WXs_e3 {v9 : Int32} : (WX ad cA tl tx mn sd e0 e1 e2 e3 e4 e5 e6 e7 e8 e9 e10 fr hd nw kp pt hr lr).set 4 (ad 4, .inr (0, List.set [.int e0, .int e1, .int e2, .int e3, .int e4, .int e5, .int e6, .int e7, .int e8, .int e9, .int e10] 3 (.int v9))) = WX ad cA tl tx mn sd e0 e1 e2 v9 e4 e5 e6 e7 e8 e9 e10 fr hd nw kp pt hr lr := rfl
theorem WXs_e4 {v9 : Int32} : (WX ad cA tl tx mn sd e0 e1 e2 e3 e4 e5 e6 e7 e8 e9 e10 fr hd nw kp pt hr lr).set 4 (ad 4, .inr (0, List.set [.int e0, .int e1, .int e2, .int e3, .int e4, .int e5, .int e6, .int e7, .int e8, .int e9, .int e10] 4 (.int v9))) = WX ad cA tl tx mn sd e0 e1 e2 e3 v9 e5 e6 e7 e8 e9 e10 fr hd nw kp pt hr lr := rfl
theorem WXs_e5 {v9 : Int32} : (WX ad cA tl tx mn sd e0 e1 e2 e3 e4 e5 e6 e7 e8 e9 e10 fr hd nw kp pt hr lr).set 4 (ad 4, .inr (0, List.set [.int e0, .int e1, .int e2, .int e3, .int e4, .int e5, .int e6, .int e7, .int e8, .int e9, .int e10] 5 (.int v9))) = WX ad cA tl tx mn sd e0 e1 e2 e3 e4 v9 e6 e7 e8 e9 e10 fr hd nw kp pt hr lr := rfl
theorem WXs_e6 {v9 : Int32} : (WX ad cA tl tx mn sd e0 e1 e2 e3 e4 e5 e6 e7 e8 e9 e10 fr hd nw kp pt hr lr).set 4 (ad 4, .inr (0, List.set [.int e0, .int e1, .int e2, .int e3, .int e4, .int e5, .int e6, .int e7, .int e8, .int e9, .int e10] 6 (.int v9))) = WX ad cA tl tx mn sd e0 e1 e2 e3 e4 e5 v9 e7 e8 e9 e10 fr hd nw kp pt hr lr := rfl
theorem WXs_e7 {v9 : Int32} : (WX ad cA tl tx mn sd e0 e1 e2 e3 e4 e5 e6 e7 e8 e9 e10 fr hd nw kp pt hr lr).set 4 (ad 4, .inr (0, List.set [.int e0, .int e1, .int e2, .int e3, .int e4, .int e5, .int e6, .int e7, .int e8, .int e9, .int e10] 7 (.int v9))) = WX ad cA tl tx mn sd e0 e1 e2 e3 e4 e5 e6 v9 e8 e9 e10 fr hd nw kp pt hr lr := rfl
theorem WXs_e8 {v9 : Int32} : (WX ad cA tl tx mn sd e0 e1 e2 e3 e4 e5 e6 e7 e8 e9 e10 fr hd nw kp pt hr lr).set 4 (ad 4, .inr (0, List.set [.int e0, .int e1, .int e2, .int e3, .int e4, .int e5, .int e6, .int e7, .int e8, .int e9, .int e10] 8 (.int v9))) = WX ad cA tl tx mn sd e0 e1 e2 e3 e4 e5 e6 e7 v9 e9 e10 fr hd nw kp pt hr lr := rfl
theorem WXs_e9 {v9 : Int32} : (WX ad cA tl tx mn sd e0 e1 e2 e3 e4 e5 e6 e7 e8 e9 e10 fr hd nw kp pt hr lr).set 4 (ad 4, .inr (0, List.set [.int e0, .int e1, .int e2, .int e3, .int e4, .int e5, .int e6, .int e7, .int e8, .int e9, .int e10] 9 (.int v9))) = WX ad cA tl tx mn sd e0 e1 e2 e3 e4 e5 e6 e7 e8 v9 e10 fr hd nw kp pt hr lr := rfl
theorem WXs_e10 {v9 : Int32} : (WX ad cA tl tx mn sd e0 e1 e2 e3 e4 e5 e6 e7 e8 e9 e10 fr hd nw kp pt hr lr).set 4 (ad 4, .inr (0, List.set [.int e0, .int e1, .int e2, .int e3, .int e4, .int e5, .int e6, .int e7, .int e8, .int e9, .int e10] 10 (.int v9))) = WX ad cA tl tx mn sd e0 e1 e2 e3 e4 e5 e6 e7 e8 e9 v9 fr hd nw kp pt hr lr := rfl
theorem WXs_fr {v9 : Int32} : (WX ad cA tl tx mn sd e0 e1 e2 e3 e4 e5 e6 e7 e8 e9 e10 fr hd nw kp pt hr lr).set 5 (ad 5, .inr (1, List.set [.ref (ad 6), .int fr, .int hd] 1 (.int v9))) = WX ad cA tl tx mn sd e0 e1 e2 e3 e4 e5 e6 e7 e8 e9 e10 v9 hd nw kp pt hr lr := rfl
theorem WXs_hd {v9 : Int32} : (WX ad cA tl tx mn sd e0 e1 e2 e3 e4 e5 e6 e7 e8 e9 e10 fr hd nw kp pt hr lr).set 5 (ad 5, .inr (1, List.set [.ref (ad 6), .int fr, .int hd] 2 (.int v9))) = WX ad cA tl tx mn sd e0 e1 e2 e3 e4 e5 e6 e7 e8 e9 e10 fr v9 nw kp pt hr lr := rfl
theorem WXs_nw {k : Nat} {v9 : Int32} (h : k < 5) : (WX ad cA tl tx mn sd e0 e1 e2 e3 e4 e5 e6 e7 e8 e9 e10 fr hd nw kp pt hr lr).set (7 + k) (ad (7 + k), .inr (2, List.set [.ref (ad (12 + k)), .ref (ad (17 + k)), .int (nw k), .int (kp k), .int (pt k)] 2 (.int v9))) = WX ad cA tl tx mn sd e0 e1 e2 e3 e4 e5 e6 e7 e8 e9 e10 fr hd (va_up nw k v9) kp pt hr lr := by
  refine appL_set rfl (appL_set0 (by unfold pS; rw [poolX_len]; exact h) (poolX_set h (fun i hi => ?_)))
  by_cases e9 : i = k
  · subst e9; simp [va_up]
  · simp [va_up, e9]
theorem WXs_kp {k : Nat} {v9 : Int32} (h : k < 5) : (WX ad cA tl tx mn sd e0 e1 e2 e3 e4 e5 e6 e7 e8 e9 e10 fr hd nw kp pt hr lr).set (7 + k) (ad (7 + k), .inr (2, List.set [.ref (ad (12 + k)), .ref (ad (17 + k)), .int (nw k), .int (kp k), .int (pt k)] 3 (.int v9))) = WX ad cA tl tx mn sd e0 e1 e2 e3 e4 e5 e6 e7 e8 e9 e10 fr hd nw (va_up kp k v9) pt hr lr := by
  refine appL_set rfl (appL_set0 (by unfold pS; rw [poolX_len]; exact h) (poolX_set h (fun i hi => ?_)))
  by_cases e9 : i = k
  · subst e9; simp [va_up]
  · simp [va_up, e9]
theorem WXs_pt {k : Nat} {v9 : Int32} (h : k < 5) : (WX ad cA tl tx mn sd e0 e1 e2 e3 e4 e5 e6 e7 e8 e9 e10 fr hd nw kp pt hr lr).set (7 + k) (ad (7 + k), .inr (2, List.set [.ref (ad (12 + k)), .ref (ad (17 + k)), .int (nw k), .int (kp k), .int (pt k)] 4 (.int v9))) = WX ad cA tl tx mn sd e0 e1 e2 e3 e4 e5 e6 e7 e8 e9 e10 fr hd nw kp (va_up pt k v9) hr lr := by
  refine appL_set rfl (appL_set0 (by unfold pS; rw [poolX_len]; exact h) (poolX_set h (fun i hi => ?_)))
  by_cases e9 : i = k
  · subst e9; simp [va_up]
  · simp [va_up, e9]
theorem WXs_hr {k : Nat} {v9 : Nat → Int32} (h : k < 30) : (WX ad cA tl tx mn sd e0 e1 e2 e3 e4 e5 e6 e7 e8 e9 e10 fr hd nw kp pt hr lr).set (22 + k) (ad (22 + k), .inl (cA 1, 9, .inl v9)) = WX ad cA tl tx mn sd e0 e1 e2 e3 e4 e5 e6 e7 e8 e9 e10 fr hd nw kp pt (va_up hr k v9) lr := by
  have h88 : 22 + k = 7 + (5 + (5 + (5 + k))) := by omega
  rw [show (WX ad cA tl tx mn sd e0 e1 e2 e3 e4 e5 e6 e7 e8 e9 e10 fr hd nw kp pt hr lr).set (22 + k) = (WX ad cA tl tx mn sd e0 e1 e2 e3 e4 e5 e6 e7 e8 e9 e10 fr hd nw kp pt hr lr).set (7 + (5 + (5 + (5 + k)))) by rw [h88]]
  refine appL_set rfl (appL_set poolX_len (appL_set poolX_len (appL_set poolX_len (appL_set0 (by unfold pHR; rw [poolX_len]; exact h) (poolX_set (a := fun n => ad (22 + n)) h (fun i hi => ?_))))))
  by_cases e9 : i = k
  · subst e9; simp [va_up]
  · simp [va_up, e9]
theorem WXs_lr {k : Nat} {v9 : Nat → Int32} (h : k < 50) : (WX ad cA tl tx mn sd e0 e1 e2 e3 e4 e5 e6 e7 e8 e9 e10 fr hd nw kp pt hr lr).set (52 + k) (ad (52 + k), .inl (cA 1, 5, .inl v9)) = WX ad cA tl tx mn sd e0 e1 e2 e3 e4 e5 e6 e7 e8 e9 e10 fr hd nw kp pt hr (va_up lr k v9) := by
  have h88 : 52 + k = 7 + (5 + (5 + (5 + (30 + k)))) := by omega
  rw [show (WX ad cA tl tx mn sd e0 e1 e2 e3 e4 e5 e6 e7 e8 e9 e10 fr hd nw kp pt hr lr).set (52 + k) = (WX ad cA tl tx mn sd e0 e1 e2 e3 e4 e5 e6 e7 e8 e9 e10 fr hd nw kp pt hr lr).set (7 + (5 + (5 + (5 + (30 + k))))) by rw [h88]]
  refine appL_set rfl (appL_set poolX_len (appL_set poolX_len (appL_set poolX_len (appL_set poolX_len (poolX_set (a := fun n => ad (52 + n)) h (fun i hi => ?_))))))
  by_cases e9 : i = k
  · subst e9; simp [va_up]
  · simp [va_up, e9]
variable {ms : (Nat → Int32)} {mb : (Nat → Int32)} {my : (Nat → Int32)} {mt : (Nat → Int32)} {mw : (Nat → Int32)} {ml : (Nat → Int32)} {mo : (Nat → Int32)} {gm : Int32} {gs : Int32} {ga : Int32} {gg : Int32} {gb : Int32} {gu : Int32} {gh : Int32} {gk : Int32} {gl : Int32} {gn : Int32} {gt : Int32}
theorem WMg0 : (WM ad cA ms mb my mt mw ml mo gm gs ga gg gb gu gh gk gl gn gt)[0]? = some (ad 0, .inr (5, [.ref (ad 1), .ref (ad 2), .ref (ad 3), .ref (ad 4), .ref (ad 5), .ref (ad 6), .ref (ad 7), .int gm, .int gs, .int ga, .int gg, .int gb, .int gu, .int gh, .int gk, .int gl, .int gn, .int gt])) := rfl
theorem WMg1 : (WM ad cA ms mb my mt mw ml mo gm gs ga gg gb gu gh gk gl gn gt)[1]? = some (ad 1, .inl (cA 1, 106, .inl ms)) := rfl
theorem WMg2 : (WM ad cA ms mb my mt mw ml mo gm gs ga gg gb gu gh gk gl gn gt)[2]? = some (ad 2, .inl (cA 1, 424, .inl mb)) := rfl
theorem WMg3 : (WM ad cA ms mb my mt mw ml mo gm gs ga gg gb gu gh gk gl gn gt)[3]? = some (ad 3, .inl (cA 0, 20, .inl my)) := rfl
theorem WMg4 : (WM ad cA ms mb my mt mw ml mo gm gs ga gg gb gu gh gk gl gn gt)[4]? = some (ad 4, .inl (cA 0, 20, .inl mt)) := rfl
theorem WMg5 : (WM ad cA ms mb my mt mw ml mo gm gs ga gg gb gu gh gk gl gn gt)[5]? = some (ad 5, .inl (cA 0, 160, .inl mw)) := rfl
theorem WMg6 : (WM ad cA ms mb my mt mw ml mo gm gs ga gg gb gu gh gk gl gn gt)[6]? = some (ad 6, .inl (cA 1, 16, .inl ml)) := rfl
theorem WMg7 : (WM ad cA ms mb my mt mw ml mo gm gs ga gg gb gu gh gk gl gn gt)[7]? = some (ad 7, .inl (cA 1, 16, .inl mo)) := rfl
theorem WMs_ms {v9 : (Nat → Int32)} : (WM ad cA ms mb my mt mw ml mo gm gs ga gg gb gu gh gk gl gn gt).set 1 (ad 1, .inl (cA 1, 106, .inl v9)) = WM ad cA v9 mb my mt mw ml mo gm gs ga gg gb gu gh gk gl gn gt := rfl
theorem WMs_mb {v9 : (Nat → Int32)} : (WM ad cA ms mb my mt mw ml mo gm gs ga gg gb gu gh gk gl gn gt).set 2 (ad 2, .inl (cA 1, 424, .inl v9)) = WM ad cA ms v9 my mt mw ml mo gm gs ga gg gb gu gh gk gl gn gt := rfl
theorem WMs_my {v9 : (Nat → Int32)} : (WM ad cA ms mb my mt mw ml mo gm gs ga gg gb gu gh gk gl gn gt).set 3 (ad 3, .inl (cA 0, 20, .inl v9)) = WM ad cA ms mb v9 mt mw ml mo gm gs ga gg gb gu gh gk gl gn gt := rfl
theorem WMs_mt {v9 : (Nat → Int32)} : (WM ad cA ms mb my mt mw ml mo gm gs ga gg gb gu gh gk gl gn gt).set 4 (ad 4, .inl (cA 0, 20, .inl v9)) = WM ad cA ms mb my v9 mw ml mo gm gs ga gg gb gu gh gk gl gn gt := rfl
theorem WMs_mw {v9 : (Nat → Int32)} : (WM ad cA ms mb my mt mw ml mo gm gs ga gg gb gu gh gk gl gn gt).set 5 (ad 5, .inl (cA 0, 160, .inl v9)) = WM ad cA ms mb my mt v9 ml mo gm gs ga gg gb gu gh gk gl gn gt := rfl
theorem WMs_ml {v9 : (Nat → Int32)} : (WM ad cA ms mb my mt mw ml mo gm gs ga gg gb gu gh gk gl gn gt).set 6 (ad 6, .inl (cA 1, 16, .inl v9)) = WM ad cA ms mb my mt mw v9 mo gm gs ga gg gb gu gh gk gl gn gt := rfl
theorem WMs_mo {v9 : (Nat → Int32)} : (WM ad cA ms mb my mt mw ml mo gm gs ga gg gb gu gh gk gl gn gt).set 7 (ad 7, .inl (cA 1, 16, .inl v9)) = WM ad cA ms mb my mt mw ml v9 gm gs ga gg gb gu gh gk gl gn gt := rfl
theorem WMs_gm {v9 : Int32} : (WM ad cA ms mb my mt mw ml mo gm gs ga gg gb gu gh gk gl gn gt).set 0 (ad 0, .inr (5, List.set [.ref (ad 1), .ref (ad 2), .ref (ad 3), .ref (ad 4), .ref (ad 5), .ref (ad 6), .ref (ad 7), .int gm, .int gs, .int ga, .int gg, .int gb, .int gu, .int gh, .int gk, .int gl, .int gn, .int gt] 7 (.int v9))) = WM ad cA ms mb my mt mw ml mo v9 gs ga gg gb gu gh gk gl gn gt := rfl
theorem WMs_gs {v9 : Int32} : (WM ad cA ms mb my mt mw ml mo gm gs ga gg gb gu gh gk gl gn gt).set 0 (ad 0, .inr (5, List.set [.ref (ad 1), .ref (ad 2), .ref (ad 3), .ref (ad 4), .ref (ad 5), .ref (ad 6), .ref (ad 7), .int gm, .int gs, .int ga, .int gg, .int gb, .int gu, .int gh, .int gk, .int gl, .int gn, .int gt] 8 (.int v9))) = WM ad cA ms mb my mt mw ml mo gm v9 ga gg gb gu gh gk gl gn gt := rfl
theorem WMs_ga {v9 : Int32} : (WM ad cA ms mb my mt mw ml mo gm gs ga gg gb gu gh gk gl gn gt).set 0 (ad 0, .inr (5, List.set [.ref (ad 1), .ref (ad 2), .ref (ad 3), .ref (ad 4), .ref (ad 5), .ref (ad 6), .ref (ad 7), .int gm, .int gs, .int ga, .int gg, .int gb, .int gu, .int gh, .int gk, .int gl, .int gn, .int gt] 9 (.int v9))) = WM ad cA ms mb my mt mw ml mo gm gs v9 gg gb gu gh gk gl gn gt := rfl
theorem WMs_gg {v9 : Int32} : (WM ad cA ms mb my mt mw ml mo gm gs ga gg gb gu gh gk gl gn gt).set 0 (ad 0, .inr (5, List.set [.ref (ad 1), .ref (ad 2), .ref (ad 3), .ref (ad 4), .ref (ad 5), .ref (ad 6), .ref (ad 7), .int gm, .int gs, .int ga, .int gg, .int gb, .int gu, .int gh, .int gk, .int gl, .int gn, .int gt] 10 (.int v9))) = WM ad cA ms mb my mt mw ml mo gm gs ga v9 gb gu gh gk gl gn gt := rfl
theorem WMs_gb {v9 : Int32} : (WM ad cA ms mb my mt mw ml mo gm gs ga gg gb gu gh gk gl gn gt).set 0 (ad 0, .inr (5, List.set [.ref (ad 1), .ref (ad 2), .ref (ad 3), .ref (ad 4), .ref (ad 5), .ref (ad 6), .ref (ad 7), .int gm, .int gs, .int ga, .int gg, .int gb, .int gu, .int gh, .int gk, .int gl, .int gn, .int gt] 11 (.int v9))) = WM ad cA ms mb my mt mw ml mo gm gs ga gg v9 gu gh gk gl gn gt := rfl
theorem WMs_gu {v9 : Int32} : (WM ad cA ms mb my mt mw ml mo gm gs ga gg gb gu gh gk gl gn gt).set 0 (ad 0, .inr (5, List.set [.ref (ad 1), .ref (ad 2), .ref (ad 3), .ref (ad 4), .ref (ad 5), .ref (ad 6), .ref (ad 7), .int gm, .int gs, .int ga, .int gg, .int gb, .int gu, .int gh, .int gk, .int gl, .int gn, .int gt] 12 (.int v9))) = WM ad cA ms mb my mt mw ml mo gm gs ga gg gb v9 gh gk gl gn gt := rfl
theorem WMs_gh {v9 : Int32} : (WM ad cA ms mb my mt mw ml mo gm gs ga gg gb gu gh gk gl gn gt).set 0 (ad 0, .inr (5, List.set [.ref (ad 1), .ref (ad 2), .ref (ad 3), .ref (ad 4), .ref (ad 5), .ref (ad 6), .ref (ad 7), .int gm, .int gs, .int ga, .int gg, .int gb, .int gu, .int gh, .int gk, .int gl, .int gn, .int gt] 13 (.int v9))) = WM ad cA ms mb my mt mw ml mo gm gs ga gg gb gu v9 gk gl gn gt := rfl
theorem WMs_gk {v9 : Int32} : (WM ad cA ms mb my mt mw ml mo gm gs ga gg gb gu gh gk gl gn gt).set 0 (ad 0, .inr (5, List.set [.ref (ad 1), .ref (ad 2), .ref (ad 3), .ref (ad 4), .ref (ad 5), .ref (ad 6), .ref (ad 7), .int gm, .int gs, .int ga, .int gg, .int gb, .int gu, .int gh, .int gk, .int gl, .int gn, .int gt] 14 (.int v9))) = WM ad cA ms mb my mt mw ml mo gm gs ga gg gb gu gh v9 gl gn gt := rfl
theorem WMs_gl {v9 : Int32} : (WM ad cA ms mb my mt mw ml mo gm gs ga gg gb gu gh gk gl gn gt).set 0 (ad 0, .inr (5, List.set [.ref (ad 1), .ref (ad 2), .ref (ad 3), .ref (ad 4), .ref (ad 5), .ref (ad 6), .ref (ad 7), .int gm, .int gs, .int ga, .int gg, .int gb, .int gu, .int gh, .int gk, .int gl, .int gn, .int gt] 15 (.int v9))) = WM ad cA ms mb my mt mw ml mo gm gs ga gg gb gu gh gk v9 gn gt := rfl
theorem WMs_gn {v9 : Int32} : (WM ad cA ms mb my mt mw ml mo gm gs ga gg gb gu gh gk gl gn gt).set 0 (ad 0, .inr (5, List.set [.ref (ad 1), .ref (ad 2), .ref (ad 3), .ref (ad 4), .ref (ad 5), .ref (ad 6), .ref (ad 7), .int gm, .int gs, .int ga, .int gg, .int gb, .int gu, .int gh, .int gk, .int gl, .int gn, .int gt] 16 (.int v9))) = WM ad cA ms mb my mt mw ml mo gm gs ga gg gb gu gh gk gl v9 gt := rfl
theorem WMs_gt {v9 : Int32} : (WM ad cA ms mb my mt mw ml mo gm gs ga gg gb gu gh gk gl gn gt).set 0 (ad 0, .inr (5, List.set [.ref (ad 1), .ref (ad 2), .ref (ad 3), .ref (ad 4), .ref (ad 5), .ref (ad 6), .ref (ad 7), .int gm, .int gs, .int ga, .int gg, .int gb, .int gu, .int gh, .int gk, .int gl, .int gn, .int gt] 17 (.int v9))) = WM ad cA ms mb my mt mw ml mo gm gs ga gg gb gu gh gk gl gn v9 := rfl
end
section
variable {p : Program} {l : Launch} {e : Env} {s : State} {m : MethodId} {args : Array Value} {below : List Frame} {meth : Method} {c : Code} {D : va_G} {A : Nat → Prop} {ad : Nat → Nat} {cA : Nat → ClassId}
variable {tl : Int32} {tx : (Nat → Int32)} {mn : Int32} {sd : (Nat → Int64)} {e0 : Int32} {e1 : Int32} {e2 : Int32} {e3 : Int32} {e4 : Int32} {e5 : Int32} {e6 : Int32} {e7 : Int32} {e8 : Int32} {e9 : Int32} {e10 : Int32} {fr : Int32} {hd : Int32} {nw : (Nat → Int32)} {kp : (Nat → Int32)} {pt : (Nat → Int32)} {hr : (Nat → Nat → Int32)} {lr : (Nat → Nat → Int32)}
/-! X0_listen -/
abbrev rmX0_listen : Room := { frames := 0, cells := 0, slots := 0, locals := 0 }
abbrev QC_X0_listen (D : va_G) (A : Nat → Prop) (ad : Nat → Nat) (cA : Nat → ClassId) (tl : Int32) (tx : (Nat → Int32)) (mn : Int32) (sd : (Nat → Int64)) (fr : Int32) (hd : Int32) (nw : (Nat → Int32)) (kp : (Nat → Int32)) (pt : (Nat → Int32)) (hr : (Nat → Nat → Int32)) (lr : (Nat → Nat → Int32)) (Q : Int32 → Int32 → Int32 → Int32 → Int32 → Int32 → Int32 → Int32 → Int32 → Int32 → Int32 → Prop) : Array Value → State → Outcome → State → Prop := va_Qv (fun u : Int32 × Int32 × Int32 × Int32 × Int32 × Int32 × Int32 × Int32 × Int32 × Int32 × Int32 => Q u.1 u.2.1 u.2.2.1 u.2.2.2.1 u.2.2.2.2.1 u.2.2.2.2.2.1 u.2.2.2.2.2.2.1 u.2.2.2.2.2.2.2.1 u.2.2.2.2.2.2.2.2.1 u.2.2.2.2.2.2.2.2.2.1 u.2.2.2.2.2.2.2.2.2.2) (fun u t => OKX D (tysX cA) ((fun u : Int32 × Int32 × Int32 × Int32 × Int32 × Int32 × Int32 × Int32 × Int32 × Int32 × Int32 => WX ad cA tl tx mn sd u.1 u.2.1 u.2.2.1 u.2.2.2.1 u.2.2.2.2.1 u.2.2.2.2.2.1 u.2.2.2.2.2.2.1 u.2.2.2.2.2.2.2.1 u.2.2.2.2.2.2.2.2.1 u.2.2.2.2.2.2.2.2.2.1 u.2.2.2.2.2.2.2.2.2.2 fr hd nw kp pt hr lr) u) A t) A
abbrev QP_X0_listen (D : va_G) (A : Nat → Prop) (ad : Nat → Nat) (cA : Nat → ClassId) (tl : Int32) (tx : (Nat → Int32)) (mn : Int32) (sd : (Nat → Int64)) (fr : Int32) (hd : Int32) (nw : (Nat → Int32)) (kp : (Nat → Int32)) (pt : (Nat → Int32)) (hr : (Nat → Nat → Int32)) (lr : (Nat → Nat → Int32)) (Q : Int32 → Int32 → Int32 → Int32 → Int32 → Int32 → Int32 → Int32 → Int32 → Int32 → Int32 → Prop) (below : List Frame) (args : Array Value) (s : State) : State → Prop := MQ below (QC_X0_listen D A ad cA tl tx mn sd fr hd nw kp pt hr lr Q) args s 0 0 A
def B_X0_listen_0  (Q : Int32 → Int32 → Int32 → Int32 → Int32 → Int32 → Int32 → Int32 → Int32 → Int32 → Int32 → Prop)  (v1 : Int32) (v2 : Int32) (v3 : Int32) (e0 : Int32) (e1 : Int32) (e2 : Int32) (e3 : Int32) (e4 : Int32) (e5 : Int32) (e6 : Int32) (e7 : Int32) (e8 : Int32) (e9 : Int32) (e10 : Int32) : Prop := (isBo v1 ∧ (isBo v2 ∧ (isBo v3 ∧ (Q v1 v2 v3 (0 : Int32) (0 : Int32) (0 : Int32) (0 : Int32) (1 : Int32) (0 : Int32) (0 : Int32) (0 : Int32)))))
def F_X0_listen (v1 : Int32) (v2 : Int32) (v3 : Int32)  (e0 : Int32) (e1 : Int32) (e2 : Int32) (e3 : Int32) (e4 : Int32) (e5 : Int32) (e6 : Int32) (e7 : Int32) (e8 : Int32) (e9 : Int32) (e10 : Int32) (Q : Int32 → Int32 → Int32 → Int32 → Int32 → Int32 → Int32 → Int32 → Int32 → Int32 → Int32 → Prop) : Prop := B_X0_listen_0 Q  v1 v2 v3 e0 e1 e2 e3 e4 e5 e6 e7 e8 e9 e10
theorem lkX0_listen_41 : Cond.fieldLink RX0 41 (TX0 10).1 (TX0 10).2.1 (TX0 10).2.2.1 ∈ wsX0_listen := by decide +kernel
theorem lkX0_listen_38 : Cond.fieldLink RX0 38 (TX0 9).1 (TX0 9).2.1 (TX0 9).2.2.1 ∈ wsX0_listen := by decide +kernel
theorem lkX0_listen_35 : Cond.fieldLink RX0 35 (TX0 8).1 (TX0 8).2.1 (TX0 8).2.2.1 ∈ wsX0_listen := by decide +kernel
theorem lkX0_listen_32 : Cond.fieldLink RX0 32 (TX0 7).1 (TX0 7).2.1 (TX0 7).2.2.1 ∈ wsX0_listen := by decide +kernel
theorem lkX0_listen_29 : Cond.fieldLink RX0 29 (TX0 6).1 (TX0 6).2.1 (TX0 6).2.2.1 ∈ wsX0_listen := by decide +kernel
theorem lkX0_listen_26 : Cond.fieldLink RX0 26 (TX0 5).1 (TX0 5).2.1 (TX0 5).2.2.1 ∈ wsX0_listen := by decide +kernel
theorem lkX0_listen_23 : Cond.fieldLink RX0 23 (TX0 4).1 (TX0 4).2.1 (TX0 4).2.2.1 ∈ wsX0_listen := by decide +kernel
theorem lkX0_listen_19 : Cond.fieldLink RX0 19 (TX0 3).1 (TX0 3).2.1 (TX0 3).2.2.1 ∈ wsX0_listen := by decide +kernel
theorem lkX0_listen_16 : Cond.fieldLink RX0 16 (TX0 2).1 (TX0 2).2.1 (TX0 2).2.2.1 ∈ wsX0_listen := by decide +kernel
theorem lkX0_listen_13 : Cond.fieldLink RX0 13 (TX0 1).1 (TX0 1).2.1 (TX0 1).2.2.1 ∈ wsX0_listen := by decide +kernel
theorem lkX0_listen_7 : Cond.fieldLink RX0 7 (TX0 0).1 (TX0 0).2.1 (TX0 0).2.2.1 ∈ wsX0_listen := by decide +kernel
theorem inX0_listen_0 : ∀ q ∈ u_ws RX0 TX0 11, q ∈ wsX0_listen := by decide +kernel
set_option maxHeartbeats 4000000 in
set_option maxRecDepth 100000 in
theorem t_B_X0_listen_0  {Q : Int32 → Int32 → Int32 → Int32 → Int32 → Int32 → Int32 → Int32 → Int32 → Int32 → Int32 → Prop} (C : CxX p s m args c D (tysX cA) RX0 cX0_listen 4 wsX0_listen) (hrt9 : meth.sig.returnType = none) (hlk : meth.locks = false) (v1 : Int32) (v2 : Int32) (v3 : Int32) (e0 : Int32) (e1 : Int32) (e2 : Int32) (e3 : Int32) (e4 : Int32) (e5 : Int32) (e6 : Int32) (e7 : Int32) (e8 : Int32) (e9 : Int32) (e10 : Int32)  (h : B_X0_listen_0  Q  v1 v2 v3 e0 e1 e2 e3 e4 e5 e6 e7 e8 e9 e10) : GoX p l e rmX0_listen s m args below meth c D A 4 0 0 (QP_X0_listen D A ad cA tl tx mn sd fr hd nw kp pt hr lr Q below args s) 0 [(0, .ref (ad 4)), (1, .int v1), (2, .int v2), (3, .int v3)] [] (WX ad cA tl tx mn sd e0 e1 e2 e3 e4 e5 e6 e7 e8 e9 e10 fr hd nw kp pt hr lr) := by
  replace h : (isBo v1 ∧ (isBo v2 ∧ (isBo v3 ∧ (Q v1 v2 v3 (0 : Int32) (0 : Int32) (0 : Int32) (0 : Int32) (1 : Int32) (0 : Int32) (0 : Int32) (0 : Int32))))) := h
  refine g_aload_n C 0 dX0_listen_0 rfl rfl ?_
  refine g_iload_n C 1 dX0_listen_1 rfl rfl ?_
  refine g_put C inX0_listen_0 tyX0 tyX0_ok nmX0 4 WXg4 rfl 0 (by decide) lkX0_listen_7 rfl h.1.n h.1.f (Nat.le_of_ble_eq_true rfl) (WXs_e0) dX0_listen_2 ?_
  replace h := h.2
  refine g_aload_n C 0 dX0_listen_5 rfl rfl ?_
  refine g_iload_n C 2 dX0_listen_6 rfl rfl ?_
  refine g_put C inX0_listen_0 tyX0 tyX0_ok nmX0 4 WXg4 rfl 1 (by decide) lkX0_listen_13 rfl h.1.n h.1.f (Nat.le_of_ble_eq_true rfl) (WXs_e1) dX0_listen_7 ?_
  replace h := h.2
  refine g_aload_n C 0 dX0_listen_10 rfl rfl ?_
  refine g_iload_n C 3 dX0_listen_11 rfl rfl ?_
  refine g_put C inX0_listen_0 tyX0 tyX0_ok nmX0 4 WXg4 rfl 2 (by decide) lkX0_listen_16 rfl h.1.n h.1.f (Nat.le_of_ble_eq_true rfl) (WXs_e2) dX0_listen_12 ?_
  replace h := h.2
  refine g_aload_n C 0 dX0_listen_15 rfl rfl ?_
  refine g_iconst C (0 : Int32) dX0_listen_16 (by decide) ?_
  refine g_put C inX0_listen_0 tyX0 tyX0_ok nmX0 4 WXg4 rfl 3 (by decide) lkX0_listen_19 rfl rfl rfl (Nat.le_of_ble_eq_true rfl) (WXs_e3) dX0_listen_17 ?_
  refine g_aload_n C 0 dX0_listen_20 rfl rfl ?_
  refine g_iconst C (0 : Int32) dX0_listen_21 (by decide) ?_
  refine g_put C inX0_listen_0 tyX0 tyX0_ok nmX0 4 WXg4 rfl 4 (by decide) lkX0_listen_23 rfl rfl rfl (Nat.le_of_ble_eq_true rfl) (WXs_e4) dX0_listen_22 ?_
  refine g_aload_n C 0 dX0_listen_25 rfl rfl ?_
  refine g_iconst C (0 : Int32) dX0_listen_26 (by decide) ?_
  refine g_put C inX0_listen_0 tyX0 tyX0_ok nmX0 4 WXg4 rfl 5 (by decide) lkX0_listen_26 rfl rfl rfl (Nat.le_of_ble_eq_true rfl) (WXs_e5) dX0_listen_27 ?_
  refine g_aload_n C 0 dX0_listen_30 rfl rfl ?_
  refine g_iconst C (0 : Int32) dX0_listen_31 (by decide) ?_
  refine g_put C inX0_listen_0 tyX0 tyX0_ok nmX0 4 WXg4 rfl 6 (by decide) lkX0_listen_29 rfl rfl rfl (Nat.le_of_ble_eq_true rfl) (WXs_e6) dX0_listen_32 ?_
  refine g_aload_n C 0 dX0_listen_35 rfl rfl ?_
  refine g_iconst C (1 : Int32) dX0_listen_36 (by decide) ?_
  refine g_put C inX0_listen_0 tyX0 tyX0_ok nmX0 4 WXg4 rfl 7 (by decide) lkX0_listen_32 rfl rfl rfl (Nat.le_of_ble_eq_true rfl) (WXs_e7) dX0_listen_37 ?_
  refine g_aload_n C 0 dX0_listen_40 rfl rfl ?_
  refine g_iconst C (0 : Int32) dX0_listen_41 (by decide) ?_
  refine g_put C inX0_listen_0 tyX0 tyX0_ok nmX0 4 WXg4 rfl 8 (by decide) lkX0_listen_35 rfl rfl rfl (Nat.le_of_ble_eq_true rfl) (WXs_e8) dX0_listen_42 ?_
  refine g_aload_n C 0 dX0_listen_45 rfl rfl ?_
  refine g_iconst C (0 : Int32) dX0_listen_46 (by decide) ?_
  refine g_put C inX0_listen_0 tyX0 tyX0_ok nmX0 4 WXg4 rfl 9 (by decide) lkX0_listen_38 rfl rfl rfl (Nat.le_of_ble_eq_true rfl) (WXs_e9) dX0_listen_47 ?_
  refine g_aload_n C 0 dX0_listen_50 rfl rfl ?_
  refine g_iconst C (0 : Int32) dX0_listen_51 (by decide) ?_
  refine g_put C inX0_listen_0 tyX0 tyX0_ok nmX0 4 WXg4 rfl 10 (by decide) lkX0_listen_41 rfl rfl rfl (Nat.le_of_ble_eq_true rfl) (WXs_e10) dX0_listen_52 ?_
  exact g_vret C hrt9 hlk (u := (v1, v2, v3, (0 : Int32), (0 : Int32), (0 : Int32), (0 : Int32), (1 : Int32), (0 : Int32), (0 : Int32), (0 : Int32))) rfl h dX0_listen_55
theorem c_X0_listen (l : Launch) (D : va_G) (A : Nat → Prop) (ad : Nat → Nat) (cA : Nat → ClassId) (v1 : Int32) (v2 : Int32) (v3 : Int32) {tl : Int32} {tx : (Nat → Int32)} {mn : Int32} {sd : (Nat → Int64)} {e0 : Int32} {e1 : Int32} {e2 : Int32} {e3 : Int32} {e4 : Int32} {e5 : Int32} {e6 : Int32} {e7 : Int32} {e8 : Int32} {e9 : Int32} {e10 : Int32} {fr : Int32} {hd : Int32} {nw : (Nat → Int32)} {kp : (Nat → Int32)} {pt : (Nat → Int32)} {hr : (Nat → Nat → Int32)} {lr : (Nat → Nat → Int32)}  (Q : Int32 → Int32 → Int32 → Int32 → Int32 → Int32 → Int32 → Int32 → Int32 → Int32 → Int32 → Prop) (h : F_X0_listen v1 v2 v3 e0 e1 e2 e3 e4 e5 e6 e7 e8 e9 e10 Q) : Met l yX0_listen wsX0_listen rmX0_listen (va_Pc [.ref (ad 4), .int v1, .int v2, .int v3] (OKX D (tysX cA) (WX ad cA tl tx mn sd e0 e1 e2 e3 e4 e5 e6 e7 e8 e9 e10 fr hd nw kp pt hr lr) A)) (QC_X0_listen D A ad cA tl tx mn sd fr hd nw kp pt hr lr Q) 0 0 A :=
  g_met (own := RX0) (by decide) rfl rfl (Nat.le_of_ble_eq_true rfl) (fun p e s m below meth c C hrt9 hlk _ => g_sub [0, 1, 2, 3] rfl (t_B_X0_listen_0 C hrt9 hlk v1 v2 v3 e0 e1 e2 e3 e4 e5 e6 e7 e8 e9 e10  h))
theorem k_X0_listen {ws : List Cond} {own : String} {cc : ByteArray} {nL pc index : Nat} {lv : List (Nat × Value)} {st : List Value} {Q : State → Prop} {R : Room} {K : Int32 → Int32 → Int32 → Int32 → Int32 → Int32 → Int32 → Int32 → Int32 → Int32 → Int32 → Prop} {v1 : Int32} {v2 : Int32} {v3 : Int32} (C : CxX p s m args c D (tysX cA) own cc nL ws) (hT : GoodIn ws (wsV own index RX0 yX0_listen wsX0_listen)) (hR : rmX0_listen.frames + 1 ≤ R.frames ∧ 8 + (4 + 11) + rmX0_listen.locals ≤ R.locals) (hcat : (st.map fun v => v.category).sum ≤ 8) (hdg : decode cc pc = .ok (.invokevirtual index, 3))  (h : F_X0_listen v1 v2 v3 e0 e1 e2 e3 e4 e5 e6 e7 e8 e9 e10 K) (kk : ∀ (e0q : Int32) (e1q : Int32) (e2q : Int32) (e3q : Int32) (e4q : Int32) (e5q : Int32) (e6q : Int32) (e7q : Int32) (e8q : Int32) (e9q : Int32) (e10q : Int32), K e0q e1q e2q e3q e4q e5q e6q e7q e8q e9q e10q → GoX p l e R s m args below meth c D A nL 0 0 Q (pc + 3) lv (st) (WX ad cA tl tx mn sd e0q e1q e2q e3q e4q e5q e6q e7q e8q e9q e10q fr hd nw kp pt hr lr)) : GoX p l e R s m args below meth c D A nL 0 0 Q pc lv (.int v3 :: .int v2 :: .int v1 :: .ref (ad 4) :: st) (WX ad cA tl tx mn sd e0 e1 e2 e3 e4 e5 e6 e7 e8 e9 e10 fr hd nw kp pt hr lr) :=
  g_callVv C (As := [.int v1, .int v2, .int v3]) 3 (c_X0_listen l D A ad cA v1 v2 v3  K h) hT rfl rfl rfl (by decide +kernel) hR 4 WXg4 rfl rfl rfl hcat hdg (fun u hu => kk u.1 u.2.1 u.2.2.1 u.2.2.2.1 u.2.2.2.2.1 u.2.2.2.2.2.1 u.2.2.2.2.2.2.1 u.2.2.2.2.2.2.2.1 u.2.2.2.2.2.2.2.2.1 u.2.2.2.2.2.2.2.2.2.1 u.2.2.2.2.2.2.2.2.2.2 hu)
/-! X2_then -/
abbrev rmX2_then : Room := { frames := 0, cells := 0, slots := 0, locals := 0 }
abbrev QC_X2_then (D : va_G) (A : Nat → Prop) (ad : Nat → Nat) (cA : Nat → ClassId) (tl : Int32) (tx : (Nat → Int32)) (mn : Int32) (sd : (Nat → Int64)) (e0 : Int32) (e1 : Int32) (e2 : Int32) (e3 : Int32) (e4 : Int32) (e5 : Int32) (e6 : Int32) (e7 : Int32) (e8 : Int32) (e9 : Int32) (e10 : Int32) (fr : Int32) (hd : Int32) (nw : (Nat → Int32)) (kp : (Nat → Int32)) (pt : (Nat → Int32)) (hr : (Nat → Nat → Int32)) (lr : (Nat → Nat → Int32)) (Q : Int64 → Prop) : Array Value → State → Outcome → State → Prop := va_Ql (fun (r : Int64) (u : Unit) => Q r ) (fun u t => OKX D (tysX cA) ((fun u : Unit => WX ad cA tl tx mn sd e0 e1 e2 e3 e4 e5 e6 e7 e8 e9 e10 fr hd nw kp pt hr lr) u) A t) A
abbrev QP_X2_then (D : va_G) (A : Nat → Prop) (ad : Nat → Nat) (cA : Nat → ClassId) (tl : Int32) (tx : (Nat → Int32)) (mn : Int32) (sd : (Nat → Int64)) (e0 : Int32) (e1 : Int32) (e2 : Int32) (e3 : Int32) (e4 : Int32) (e5 : Int32) (e6 : Int32) (e7 : Int32) (e8 : Int32) (e9 : Int32) (e10 : Int32) (fr : Int32) (hd : Int32) (nw : (Nat → Int32)) (kp : (Nat → Int32)) (pt : (Nat → Int32)) (hr : (Nat → Nat → Int32)) (lr : (Nat → Nat → Int32)) (Q : Int64 → Prop) (below : List Frame) (args : Array Value) (s : State) : State → Prop := MQ below (QC_X2_then D A ad cA tl tx mn sd e0 e1 e2 e3 e4 e5 e6 e7 e8 e9 e10 fr hd nw kp pt hr lr Q) args s 0 0 A
def B_X2_then_0  (Q : Int64 → Prop)  (v0 : Int64) (v2 : Int32)  : Prop := (Q ((v0 <<< ((7 : Int32).toInt64 &&& 63)) ||| (v2.toInt64)))
def F_X2_then (v0 : Int64) (v2 : Int32)   (Q : Int64 → Prop) : Prop := B_X2_then_0 Q  v0 v2 
set_option maxHeartbeats 4000000 in
set_option maxRecDepth 100000 in
theorem t_B_X2_then_0  {Q : Int64 → Prop} (C : CxX p s m args c D (tysX cA) RX2 cX2_then 3 wsX2_then) (hrt9 : meth.sig.returnType = (some .long)) (hlk : meth.locks = false) (v0 : Int64) (v2 : Int32)   (h : B_X2_then_0  Q  v0 v2) : GoX p l e rmX2_then s m args below meth c D A 3 0 0 (QP_X2_then D A ad cA tl tx mn sd e0 e1 e2 e3 e4 e5 e6 e7 e8 e9 e10 fr hd nw kp pt hr lr Q below args s) 0 [(0, .long v0), (2, .int v2)] [] (WX ad cA tl tx mn sd e0 e1 e2 e3 e4 e5 e6 e7 e8 e9 e10 fr hd nw kp pt hr lr) := by
  replace h : (Q ((v0 <<< ((7 : Int32).toInt64 &&& 63)) ||| (v2.toInt64))) := h
  refine g_lload_n C 0 dX2_then_0 rfl rfl ?_
  refine g_bipush C (7 : Int32) dX2_then_1 (by decide) ?_
  refine g_lshl C dX2_then_3 ?_
  refine g_iload_n C 1 dX2_then_4 rfl rfl ?_
  refine g_i2l C dX2_then_5 ?_
  refine g_lor C dX2_then_6 ?_
  exact g_lret C hrt9 hlk (u := ()) rfl h dX2_then_7
theorem c_X2_then (l : Launch) (D : va_G) (A : Nat → Prop) (ad : Nat → Nat) (cA : Nat → ClassId) (v0 : Int64) (v2 : Int32) {tl : Int32} {tx : (Nat → Int32)} {mn : Int32} {sd : (Nat → Int64)} {e0 : Int32} {e1 : Int32} {e2 : Int32} {e3 : Int32} {e4 : Int32} {e5 : Int32} {e6 : Int32} {e7 : Int32} {e8 : Int32} {e9 : Int32} {e10 : Int32} {fr : Int32} {hd : Int32} {nw : (Nat → Int32)} {kp : (Nat → Int32)} {pt : (Nat → Int32)} {hr : (Nat → Nat → Int32)} {lr : (Nat → Nat → Int32)}  (Q : Int64 → Prop) (h : F_X2_then v0 v2 Q) : Met l yX2_then wsX2_then rmX2_then (va_Pc [.long v0, .int v2] (OKX D (tysX cA) (WX ad cA tl tx mn sd e0 e1 e2 e3 e4 e5 e6 e7 e8 e9 e10 fr hd nw kp pt hr lr) A)) (QC_X2_then D A ad cA tl tx mn sd e0 e1 e2 e3 e4 e5 e6 e7 e8 e9 e10 fr hd nw kp pt hr lr Q) 0 0 A :=
  g_met (own := RX2) (by decide) rfl rfl (Nat.le_of_ble_eq_true rfl) (fun p e s m below meth c C hrt9 hlk _ => g_sub [0, 1] rfl (t_B_X2_then_0 C hrt9 hlk v0 v2   h))
theorem k_X2_then {ws : List Cond} {own : String} {cc : ByteArray} {nL pc index : Nat} {lv : List (Nat × Value)} {st : List Value} {Q : State → Prop} {R : Room} {K : Int64 → Prop} {v0 : Int64} {v2 : Int32} (C : CxX p s m args c D (tysX cA) own cc nL ws) (hT : GoodIn ws (va_wsS own index yX2_then wsX2_then)) (hR : rmX2_then.frames + 1 ≤ R.frames ∧ 8 + (3 + 11) + rmX2_then.locals ≤ R.locals) (hcat : (st.map fun v => v.category).sum ≤ 8) (hdg : decode cc pc = .ok (.invokestatic index, 3))  (h : F_X2_then v0 v2 K) (kk : ∀ (r : Int64) , K r → GoX p l e R s m args below meth c D A nL 0 0 Q (pc + 3) lv (.long r :: st) (WX ad cA tl tx mn sd e0 e1 e2 e3 e4 e5 e6 e7 e8 e9 e10 fr hd nw kp pt hr lr)) : GoX p l e R s m args below meth c D A nL 0 0 Q pc lv (.int v2 :: .long v0 :: st) (WX ad cA tl tx mn sd e0 e1 e2 e3 e4 e5 e6 e7 e8 e9 e10 fr hd nw kp pt hr lr) :=
  g_callSl C (As := [.long v0, .int v2]) 2 (c_X2_then l D A ad cA v0 v2  K h) hT rfl rfl rfl (by decide +kernel) hR rfl rfl hcat hdg (fun r u hu => kk r  hu)
/-! X2_length -/
abbrev rmX2_length : Room := { frames := 0, cells := 0, slots := 0, locals := 0 }
abbrev QC_X2_length (D : va_G) (A : Nat → Prop) (ad : Nat → Nat) (cA : Nat → ClassId) (tl : Int32) (tx : (Nat → Int32)) (mn : Int32) (sd : (Nat → Int64)) (e0 : Int32) (e1 : Int32) (e2 : Int32) (e3 : Int32) (e4 : Int32) (e5 : Int32) (e6 : Int32) (e7 : Int32) (e8 : Int32) (e9 : Int32) (e10 : Int32) (fr : Int32) (hd : Int32) (nw : (Nat → Int32)) (kp : (Nat → Int32)) (pt : (Nat → Int32)) (hr : (Nat → Nat → Int32)) (lr : (Nat → Nat → Int32)) (Q : Int32 → Prop) : Array Value → State → Outcome → State → Prop := va_Qi (fun (r : Int32) (u : Unit) => Q r ) (fun u t => OKX D (tysX cA) ((fun u : Unit => WX ad cA tl tx mn sd e0 e1 e2 e3 e4 e5 e6 e7 e8 e9 e10 fr hd nw kp pt hr lr) u) A t) A
abbrev QP_X2_length (D : va_G) (A : Nat → Prop) (ad : Nat → Nat) (cA : Nat → ClassId) (tl : Int32) (tx : (Nat → Int32)) (mn : Int32) (sd : (Nat → Int64)) (e0 : Int32) (e1 : Int32) (e2 : Int32) (e3 : Int32) (e4 : Int32) (e5 : Int32) (e6 : Int32) (e7 : Int32) (e8 : Int32) (e9 : Int32) (e10 : Int32) (fr : Int32) (hd : Int32) (nw : (Nat → Int32)) (kp : (Nat → Int32)) (pt : (Nat → Int32)) (hr : (Nat → Nat → Int32)) (lr : (Nat → Nat → Int32)) (Q : Int32 → Prop) (below : List Frame) (args : Array Value) (s : State) : State → Prop := MQ below (QC_X2_length D A ad cA tl tx mn sd e0 e1 e2 e3 e4 e5 e6 e7 e8 e9 e10 fr hd nw kp pt hr lr Q) args s 0 0 A
def B_X2_length_25  (Q : Int32 → Prop)  (v2 : Int32)  : Prop := (Q v2)
noncomputable def L_X2_length_2  (Q : Int32 → Prop)  (n9 : Nat) : Int64 → Int32 → Prop := Nat.rec (motive := fun _ => Int64 → Int32 → Prop) (fun _ _ => False) (fun _ kh2 => fun v0 v2 => (((9 : Int32) ≤ v2 → (B_X2_length_25  Q  v2)) ∧ (¬ (9 : Int32) ≤ v2 → (((lg_cmp ((v0.toUInt64 >>> (((7 : Int32) * v2).toInt64.toUInt64 &&& Int64.toUInt64 63)).toInt64) (0 : Int64)) = 0 → (B_X2_length_25  Q  v2)) ∧ (¬ (lg_cmp ((v0.toUInt64 >>> (((7 : Int32) * v2).toInt64.toUInt64 &&& Int64.toUInt64 63)).toInt64) (0 : Int64)) = 0 → (kh2 v0 (v2 + (1 : Int32)))))))) n9
def B_X2_length_0  (Q : Int32 → Prop)  (v0 : Int64)  : Prop := (∃ n9 : Nat, L_X2_length_2  Q  n9 v0 (0 : Int32))
def F_X2_length (v0 : Int64)   (Q : Int32 → Prop) : Prop := B_X2_length_0 Q  v0 
set_option maxHeartbeats 4000000 in
set_option maxRecDepth 100000 in
theorem t_B_X2_length_25  {Q : Int32 → Prop} (C : CxX p s m args c D (tysX cA) RX2 cX2_length 3 wsX2_length) (hrt9 : meth.sig.returnType = (some .int)) (hlk : meth.locks = false) (v2 : Int32)   (h : B_X2_length_25  Q  v2) : GoX p l e rmX2_length s m args below meth c D A 3 0 0 (QP_X2_length D A ad cA tl tx mn sd e0 e1 e2 e3 e4 e5 e6 e7 e8 e9 e10 fr hd nw kp pt hr lr Q below args s) 25 [(2, .int v2)] [] (WX ad cA tl tx mn sd e0 e1 e2 e3 e4 e5 e6 e7 e8 e9 e10 fr hd nw kp pt hr lr) := by
  replace h : (Q v2) := h
  refine g_iload_n C 0 dX2_length_25 rfl rfl ?_
  exact g_iret C hrt9 hlk (u := ()) rfl h dX2_length_26
set_option maxHeartbeats 4000000 in
set_option maxRecDepth 100000 in
theorem t_L_X2_length_2  {Q : Int32 → Prop} (C : CxX p s m args c D (tysX cA) RX2 cX2_length 3 wsX2_length) (hrt9 : meth.sig.returnType = (some .int)) (hlk : meth.locks = false) (n9 : Nat) : ∀ (v0 : Int64) (v2 : Int32)  , L_X2_length_2  Q  n9 v0 v2 → GoX p l e rmX2_length s m args below meth c D A 3 0 0 (QP_X2_length D A ad cA tl tx mn sd e0 e1 e2 e3 e4 e5 e6 e7 e8 e9 e10 fr hd nw kp pt hr lr Q below args s) 2 [(0, .long v0), (2, .int v2)] [] (WX ad cA tl tx mn sd e0 e1 e2 e3 e4 e5 e6 e7 e8 e9 e10 fr hd nw kp pt hr lr) := by
  induction n9 with
  | zero =>
    intro v0 v2 h
    exact False.elim h
  | succ n9 Hk2 =>
    intro v0 v2 h
    replace h : (((9 : Int32) ≤ v2 → (B_X2_length_25  Q  v2)) ∧ (¬ (9 : Int32) ≤ v2 → (((lg_cmp ((v0.toUInt64 >>> (((7 : Int32) * v2).toInt64.toUInt64 &&& Int64.toUInt64 63)).toInt64) (0 : Int64)) = 0 → (B_X2_length_25  Q  v2)) ∧ (¬ (lg_cmp ((v0.toUInt64 >>> (((7 : Int32) * v2).toInt64.toUInt64 &&& Int64.toUInt64 63)).toInt64) (0 : Int64)) = 0 → ((L_X2_length_2  Q  n9) v0 (v2 + (1 : Int32))))))) := h
    refine g_iload_n C 1 dX2_length_2 rfl rfl ?_
    refine g_bipush C (9 : Int32) dX2_length_3 (by decide) ?_
    refine g_icmp_ge C 25 dX2_length_5 (by decide) (fun c_1 => ?_) (fun c_1 => ?_)
    · replace h := h.1 c_1
      exact g_sub [1] rfl (t_B_X2_length_25 C hrt9 hlk  v2  h)
    · replace h := h.2 c_1
      refine g_lload_n C 0 dX2_length_8 rfl rfl ?_
      refine g_bipush C (7 : Int32) dX2_length_9 (by decide) ?_
      refine g_iload_n C 1 dX2_length_11 rfl rfl ?_
      refine g_imul C dX2_length_12 ?_
      refine g_lushr C dX2_length_13 ?_
      refine g_lconst C (0 : Int64) dX2_length_14 (by decide) ?_
      refine g_lcmp C dX2_length_15 ?_
      refine g_if_eq C 25 dX2_length_16 (by decide) (fun c_2 => ?_) (fun c_2 => ?_)
      · replace h := h.1 c_2
        exact g_sub [1] rfl (t_B_X2_length_25 C hrt9 hlk  v2  h)
      · replace h := h.2 c_2
        refine g_iinc C (v := (v2 + (1 : Int32))) (lv2 := [(2, .int (v2 + (1 : Int32))), (0, .long v0)]) 1 dX2_length_19 rfl rfl (by decide) rfl ?_
        refine g_goto C 2 dX2_length_22 (by decide) ?_
        exact g_sub [1, 0] rfl (Hk2 v0 (v2 + (1 : Int32))  h)
set_option maxHeartbeats 4000000 in
set_option maxRecDepth 100000 in
theorem t_B_X2_length_0  {Q : Int32 → Prop} (C : CxX p s m args c D (tysX cA) RX2 cX2_length 3 wsX2_length) (hrt9 : meth.sig.returnType = (some .int)) (hlk : meth.locks = false) (v0 : Int64)   (h : B_X2_length_0  Q  v0) : GoX p l e rmX2_length s m args below meth c D A 3 0 0 (QP_X2_length D A ad cA tl tx mn sd e0 e1 e2 e3 e4 e5 e6 e7 e8 e9 e10 fr hd nw kp pt hr lr Q below args s) 0 [(0, .long v0)] [] (WX ad cA tl tx mn sd e0 e1 e2 e3 e4 e5 e6 e7 e8 e9 e10 fr hd nw kp pt hr lr) := by
  replace h : (∃ n9 : Nat, L_X2_length_2  Q  n9 v0 (0 : Int32)) := h
  refine g_iconst C (0 : Int32) dX2_length_0 (by decide) ?_
  refine g_istore_n C (lv2 := [(2, .int (0 : Int32)), (0, .long v0)]) dX2_length_1 rfl (by decide) rfl ?_
  obtain ⟨n9, h⟩ := h
  exact g_sub [1, 0] rfl (t_L_X2_length_2 C hrt9 hlk  n9 v0 (0 : Int32)  h)
theorem c_X2_length (l : Launch) (D : va_G) (A : Nat → Prop) (ad : Nat → Nat) (cA : Nat → ClassId) (v0 : Int64) {tl : Int32} {tx : (Nat → Int32)} {mn : Int32} {sd : (Nat → Int64)} {e0 : Int32} {e1 : Int32} {e2 : Int32} {e3 : Int32} {e4 : Int32} {e5 : Int32} {e6 : Int32} {e7 : Int32} {e8 : Int32} {e9 : Int32} {e10 : Int32} {fr : Int32} {hd : Int32} {nw : (Nat → Int32)} {kp : (Nat → Int32)} {pt : (Nat → Int32)} {hr : (Nat → Nat → Int32)} {lr : (Nat → Nat → Int32)}  (Q : Int32 → Prop) (h : F_X2_length v0 Q) : Met l yX2_length wsX2_length rmX2_length (va_Pc [.long v0] (OKX D (tysX cA) (WX ad cA tl tx mn sd e0 e1 e2 e3 e4 e5 e6 e7 e8 e9 e10 fr hd nw kp pt hr lr) A)) (QC_X2_length D A ad cA tl tx mn sd e0 e1 e2 e3 e4 e5 e6 e7 e8 e9 e10 fr hd nw kp pt hr lr Q) 0 0 A :=
  g_met (own := RX2) (by decide) rfl rfl (Nat.le_of_ble_eq_true rfl) (fun p e s m below meth c C hrt9 hlk _ => g_sub [0] rfl (t_B_X2_length_0 C hrt9 hlk v0   h))
theorem k_X2_length {ws : List Cond} {own : String} {cc : ByteArray} {nL pc index : Nat} {lv : List (Nat × Value)} {st : List Value} {Q : State → Prop} {R : Room} {K : Int32 → Prop} {v0 : Int64} (C : CxX p s m args c D (tysX cA) own cc nL ws) (hT : GoodIn ws (va_wsS own index yX2_length wsX2_length)) (hR : rmX2_length.frames + 1 ≤ R.frames ∧ 8 + (3 + 11) + rmX2_length.locals ≤ R.locals) (hcat : (st.map fun v => v.category).sum ≤ 8) (hdg : decode cc pc = .ok (.invokestatic index, 3))  (h : F_X2_length v0 K) (kk : ∀ (r : Int32) , K r → GoX p l e R s m args below meth c D A nL 0 0 Q (pc + 3) lv (.int r :: st) (WX ad cA tl tx mn sd e0 e1 e2 e3 e4 e5 e6 e7 e8 e9 e10 fr hd nw kp pt hr lr)) : GoX p l e R s m args below meth c D A nL 0 0 Q pc lv (.long v0 :: st) (WX ad cA tl tx mn sd e0 e1 e2 e3 e4 e5 e6 e7 e8 e9 e10 fr hd nw kp pt hr lr) :=
  g_callSi C (As := [.long v0]) 1 (c_X2_length l D A ad cA v0  K h) hT rfl rfl rfl (by decide +kernel) hR rfl rfl hcat hdg (fun r u hu => kk r  hu)
/-! X2_character -/
abbrev rmX2_character : Room := { frames := 0, cells := 0, slots := 0, locals := 0 }
abbrev QC_X2_character (D : va_G) (A : Nat → Prop) (ad : Nat → Nat) (cA : Nat → ClassId) (tl : Int32) (tx : (Nat → Int32)) (mn : Int32) (sd : (Nat → Int64)) (e0 : Int32) (e1 : Int32) (e2 : Int32) (e3 : Int32) (e4 : Int32) (e5 : Int32) (e6 : Int32) (e7 : Int32) (e8 : Int32) (e9 : Int32) (e10 : Int32) (fr : Int32) (hd : Int32) (nw : (Nat → Int32)) (kp : (Nat → Int32)) (pt : (Nat → Int32)) (hr : (Nat → Nat → Int32)) (lr : (Nat → Nat → Int32)) (Q : Int32 → Prop) : Array Value → State → Outcome → State → Prop := va_Qi (fun (r : Int32) (u : Unit) => Q r ) (fun u t => OKX D (tysX cA) ((fun u : Unit => WX ad cA tl tx mn sd e0 e1 e2 e3 e4 e5 e6 e7 e8 e9 e10 fr hd nw kp pt hr lr) u) A t) A
abbrev QP_X2_character (D : va_G) (A : Nat → Prop) (ad : Nat → Nat) (cA : Nat → ClassId) (tl : Int32) (tx : (Nat → Int32)) (mn : Int32) (sd : (Nat → Int64)) (e0 : Int32) (e1 : Int32) (e2 : Int32) (e3 : Int32) (e4 : Int32) (e5 : Int32) (e6 : Int32) (e7 : Int32) (e8 : Int32) (e9 : Int32) (e10 : Int32) (fr : Int32) (hd : Int32) (nw : (Nat → Int32)) (kp : (Nat → Int32)) (pt : (Nat → Int32)) (hr : (Nat → Nat → Int32)) (lr : (Nat → Nat → Int32)) (Q : Int32 → Prop) (below : List Frame) (args : Array Value) (s : State) : State → Prop := MQ below (QC_X2_character D A ad cA tl tx mn sd e0 e1 e2 e3 e4 e5 e6 e7 e8 e9 e10 fr hd nw kp pt hr lr Q) args s 0 0 A
def B_X2_character_24  (Q : Int32 → Prop)  (s0 : Int32)  : Prop := (Q s0)
def B_X2_character_23  (Q : Int32 → Prop)    : Prop := (B_X2_character_24  Q  (0 : Int32))
def B_X2_character_0  (Q : Int32 → Prop)  (v0 : Int64) (v2 : Int32)  : Prop := ((v2 < 0 → (B_X2_character_23  Q  )) ∧ (¬ v2 < 0 → (((9 : Int32) ≤ v2 → (B_X2_character_23  Q  )) ∧ (¬ (9 : Int32) ≤ v2 → (B_X2_character_24  Q  ((((v0.toUInt64 >>> (((7 : Int32) * v2).toInt64.toUInt64 &&& Int64.toUInt64 63)).toInt64).toInt32) &&& (127 : Int32)))))))
def F_X2_character (v0 : Int64) (v2 : Int32)   (Q : Int32 → Prop) : Prop := B_X2_character_0 Q  v0 v2 
set_option maxHeartbeats 4000000 in
set_option maxRecDepth 100000 in
theorem t_B_X2_character_24  {Q : Int32 → Prop} (C : CxX p s m args c D (tysX cA) RX2 cX2_character 3 wsX2_character) (hrt9 : meth.sig.returnType = (some .int)) (hlk : meth.locks = false) (s0 : Int32)   (h : B_X2_character_24  Q  s0) : GoX p l e rmX2_character s m args below meth c D A 3 0 0 (QP_X2_character D A ad cA tl tx mn sd e0 e1 e2 e3 e4 e5 e6 e7 e8 e9 e10 fr hd nw kp pt hr lr Q below args s) 24 [] [.int s0] (WX ad cA tl tx mn sd e0 e1 e2 e3 e4 e5 e6 e7 e8 e9 e10 fr hd nw kp pt hr lr) := by
  replace h : (Q s0) := h
  exact g_iret C hrt9 hlk (u := ()) rfl h dX2_character_24
set_option maxHeartbeats 4000000 in
set_option maxRecDepth 100000 in
theorem t_B_X2_character_23  {Q : Int32 → Prop} (C : CxX p s m args c D (tysX cA) RX2 cX2_character 3 wsX2_character) (hrt9 : meth.sig.returnType = (some .int)) (hlk : meth.locks = false)    (h : B_X2_character_23  Q  ) : GoX p l e rmX2_character s m args below meth c D A 3 0 0 (QP_X2_character D A ad cA tl tx mn sd e0 e1 e2 e3 e4 e5 e6 e7 e8 e9 e10 fr hd nw kp pt hr lr Q below args s) 23 [] [] (WX ad cA tl tx mn sd e0 e1 e2 e3 e4 e5 e6 e7 e8 e9 e10 fr hd nw kp pt hr lr) := by
  replace h : (B_X2_character_24  Q  (0 : Int32)) := h
  refine g_iconst C (0 : Int32) dX2_character_23 (by decide) ?_
  exact g_sub [] rfl (t_B_X2_character_24 C hrt9 hlk  (0 : Int32)  h)
set_option maxHeartbeats 4000000 in
set_option maxRecDepth 100000 in
theorem t_B_X2_character_0  {Q : Int32 → Prop} (C : CxX p s m args c D (tysX cA) RX2 cX2_character 3 wsX2_character) (hrt9 : meth.sig.returnType = (some .int)) (hlk : meth.locks = false) (v0 : Int64) (v2 : Int32)   (h : B_X2_character_0  Q  v0 v2) : GoX p l e rmX2_character s m args below meth c D A 3 0 0 (QP_X2_character D A ad cA tl tx mn sd e0 e1 e2 e3 e4 e5 e6 e7 e8 e9 e10 fr hd nw kp pt hr lr Q below args s) 0 [(0, .long v0), (2, .int v2)] [] (WX ad cA tl tx mn sd e0 e1 e2 e3 e4 e5 e6 e7 e8 e9 e10 fr hd nw kp pt hr lr) := by
  replace h : ((v2 < 0 → (B_X2_character_23  Q  )) ∧ (¬ v2 < 0 → (((9 : Int32) ≤ v2 → (B_X2_character_23  Q  )) ∧ (¬ (9 : Int32) ≤ v2 → (B_X2_character_24  Q  ((((v0.toUInt64 >>> (((7 : Int32) * v2).toInt64.toUInt64 &&& Int64.toUInt64 63)).toInt64).toInt32) &&& (127 : Int32))))))) := h
  refine g_iload_n C 1 dX2_character_0 rfl rfl ?_
  refine g_if_lt C 23 dX2_character_1 (by decide) (fun c_1 => ?_) (fun c_1 => ?_)
  · replace h := h.1 c_1
    exact g_sub [] rfl (t_B_X2_character_23 C hrt9 hlk    h)
  · replace h := h.2 c_1
    refine g_iload_n C 1 dX2_character_4 rfl rfl ?_
    refine g_bipush C (9 : Int32) dX2_character_5 (by decide) ?_
    refine g_icmp_ge C 23 dX2_character_7 (by decide) (fun c_2 => ?_) (fun c_2 => ?_)
    · replace h := h.1 c_2
      exact g_sub [] rfl (t_B_X2_character_23 C hrt9 hlk    h)
    · replace h := h.2 c_2
      refine g_lload_n C 0 dX2_character_10 rfl rfl ?_
      refine g_bipush C (7 : Int32) dX2_character_11 (by decide) ?_
      refine g_iload_n C 1 dX2_character_13 rfl rfl ?_
      refine g_imul C dX2_character_14 ?_
      refine g_lushr C dX2_character_15 ?_
      refine g_l2i C dX2_character_16 ?_
      refine g_bipush C (127 : Int32) dX2_character_17 (by decide) ?_
      refine g_iand C dX2_character_19 ?_
      refine g_goto C 24 dX2_character_20 (by decide) ?_
      exact g_sub [] rfl (t_B_X2_character_24 C hrt9 hlk  ((((v0.toUInt64 >>> (((7 : Int32) * v2).toInt64.toUInt64 &&& Int64.toUInt64 63)).toInt64).toInt32) &&& (127 : Int32))  h)
theorem c_X2_character (l : Launch) (D : va_G) (A : Nat → Prop) (ad : Nat → Nat) (cA : Nat → ClassId) (v0 : Int64) (v2 : Int32) {tl : Int32} {tx : (Nat → Int32)} {mn : Int32} {sd : (Nat → Int64)} {e0 : Int32} {e1 : Int32} {e2 : Int32} {e3 : Int32} {e4 : Int32} {e5 : Int32} {e6 : Int32} {e7 : Int32} {e8 : Int32} {e9 : Int32} {e10 : Int32} {fr : Int32} {hd : Int32} {nw : (Nat → Int32)} {kp : (Nat → Int32)} {pt : (Nat → Int32)} {hr : (Nat → Nat → Int32)} {lr : (Nat → Nat → Int32)}  (Q : Int32 → Prop) (h : F_X2_character v0 v2 Q) : Met l yX2_character wsX2_character rmX2_character (va_Pc [.long v0, .int v2] (OKX D (tysX cA) (WX ad cA tl tx mn sd e0 e1 e2 e3 e4 e5 e6 e7 e8 e9 e10 fr hd nw kp pt hr lr) A)) (QC_X2_character D A ad cA tl tx mn sd e0 e1 e2 e3 e4 e5 e6 e7 e8 e9 e10 fr hd nw kp pt hr lr Q) 0 0 A :=
  g_met (own := RX2) (by decide) rfl rfl (Nat.le_of_ble_eq_true rfl) (fun p e s m below meth c C hrt9 hlk _ => g_sub [0, 1] rfl (t_B_X2_character_0 C hrt9 hlk v0 v2   h))
theorem k_X2_character {ws : List Cond} {own : String} {cc : ByteArray} {nL pc index : Nat} {lv : List (Nat × Value)} {st : List Value} {Q : State → Prop} {R : Room} {K : Int32 → Prop} {v0 : Int64} {v2 : Int32} (C : CxX p s m args c D (tysX cA) own cc nL ws) (hT : GoodIn ws (va_wsS own index yX2_character wsX2_character)) (hR : rmX2_character.frames + 1 ≤ R.frames ∧ 8 + (3 + 11) + rmX2_character.locals ≤ R.locals) (hcat : (st.map fun v => v.category).sum ≤ 8) (hdg : decode cc pc = .ok (.invokestatic index, 3))  (h : F_X2_character v0 v2 K) (kk : ∀ (r : Int32) , K r → GoX p l e R s m args below meth c D A nL 0 0 Q (pc + 3) lv (.int r :: st) (WX ad cA tl tx mn sd e0 e1 e2 e3 e4 e5 e6 e7 e8 e9 e10 fr hd nw kp pt hr lr)) : GoX p l e R s m args below meth c D A nL 0 0 Q pc lv (.int v2 :: .long v0 :: st) (WX ad cA tl tx mn sd e0 e1 e2 e3 e4 e5 e6 e7 e8 e9 e10 fr hd nw kp pt hr lr) :=
  g_callSi C (As := [.long v0, .int v2]) 2 (c_X2_character l D A ad cA v0 v2  K h) hT rfl rfl rfl (by decide +kernel) hR rfl rfl hcat hdg (fun r u hu => kk r  hu)
/-! X2_has -/
abbrev rmX2_has : Room := { frames := 1, cells := 0, slots := 0, locals := 22 }
abbrev QC_X2_has (D : va_G) (A : Nat → Prop) (ad : Nat → Nat) (cA : Nat → ClassId) (tl : Int32) (tx : (Nat → Int32)) (mn : Int32) (sd : (Nat → Int64)) (e0 : Int32) (e1 : Int32) (e2 : Int32) (e3 : Int32) (e4 : Int32) (e5 : Int32) (e6 : Int32) (e7 : Int32) (e8 : Int32) (e9 : Int32) (e10 : Int32) (fr : Int32) (hd : Int32) (nw : (Nat → Int32)) (kp : (Nat → Int32)) (pt : (Nat → Int32)) (hr : (Nat → Nat → Int32)) (lr : (Nat → Nat → Int32)) (Q : Int32 → Prop) : Array Value → State → Outcome → State → Prop := va_Qi (fun (r : Int32) (u : Unit) => Q r ) (fun u t => OKX D (tysX cA) ((fun u : Unit => WX ad cA tl tx mn sd e0 e1 e2 e3 e4 e5 e6 e7 e8 e9 e10 fr hd nw kp pt hr lr) u) A t) A
abbrev QP_X2_has (D : va_G) (A : Nat → Prop) (ad : Nat → Nat) (cA : Nat → ClassId) (tl : Int32) (tx : (Nat → Int32)) (mn : Int32) (sd : (Nat → Int64)) (e0 : Int32) (e1 : Int32) (e2 : Int32) (e3 : Int32) (e4 : Int32) (e5 : Int32) (e6 : Int32) (e7 : Int32) (e8 : Int32) (e9 : Int32) (e10 : Int32) (fr : Int32) (hd : Int32) (nw : (Nat → Int32)) (kp : (Nat → Int32)) (pt : (Nat → Int32)) (hr : (Nat → Nat → Int32)) (lr : (Nat → Nat → Int32)) (Q : Int32 → Prop) (below : List Frame) (args : Array Value) (s : State) : State → Prop := MQ below (QC_X2_has D A ad cA tl tx mn sd e0 e1 e2 e3 e4 e5 e6 e7 e8 e9 e10 fr hd nw kp pt hr lr Q) args s 0 0 A
noncomputable def L_X2_has_2  (Q : Int32 → Prop)  (n9 : Nat) : Int64 → Int32 → Int32 → Prop := Nat.rec (motive := fun _ => Int64 → Int32 → Int32 → Prop) (fun _ _ _ => False) (fun _ kh2 => fun v0 v2 v3 => (((9 : Int32) ≤ v3 → (Q (0 : Int32))) ∧ (¬ (9 : Int32) ≤ v3 → (F_X2_character v0 v3 (fun r_2 => ((r_2 = v2 → (Q (1 : Int32))) ∧ (¬ r_2 = v2 → (kh2 v0 v2 (v3 + (1 : Int32)))))))))) n9
def B_X2_has_0  (Q : Int32 → Prop)  (v0 : Int64) (v2 : Int32)  : Prop := (∃ n9 : Nat, L_X2_has_2  Q  n9 v0 v2 (0 : Int32))
def F_X2_has (v0 : Int64) (v2 : Int32)   (Q : Int32 → Prop) : Prop := B_X2_has_0 Q  v0 v2 
set_option maxHeartbeats 4000000 in
set_option maxRecDepth 100000 in
theorem t_L_X2_has_2  {Q : Int32 → Prop} (C : CxX p s m args c D (tysX cA) RX2 cX2_has 4 wsX2_has) (hrt9 : meth.sig.returnType = (some .boolean)) (hlk : meth.locks = false) (n9 : Nat) : ∀ (v0 : Int64) (v2 : Int32) (v3 : Int32)  , L_X2_has_2  Q  n9 v0 v2 v3 → GoX p l e rmX2_has s m args below meth c D A 4 0 0 (QP_X2_has D A ad cA tl tx mn sd e0 e1 e2 e3 e4 e5 e6 e7 e8 e9 e10 fr hd nw kp pt hr lr Q below args s) 2 [(0, .long v0), (2, .int v2), (3, .int v3)] [] (WX ad cA tl tx mn sd e0 e1 e2 e3 e4 e5 e6 e7 e8 e9 e10 fr hd nw kp pt hr lr) := by
  induction n9 with
  | zero =>
    intro v0 v2 v3 h
    exact False.elim h
  | succ n9 Hk2 =>
    intro v0 v2 v3 h
    replace h : (((9 : Int32) ≤ v3 → (Q (0 : Int32))) ∧ (¬ (9 : Int32) ≤ v3 → (F_X2_character v0 v3 (fun r_2 => ((r_2 = v2 → (Q (1 : Int32))) ∧ (¬ r_2 = v2 → ((L_X2_has_2  Q  n9) v0 v2 (v3 + (1 : Int32))))))))) := h
    refine g_iload_n C 2 dX2_has_2 rfl rfl ?_
    refine g_bipush C (9 : Int32) dX2_has_3 (by decide) ?_
    refine g_icmp_ge C 25 dX2_has_5 (by decide) (fun c_1 => ?_) (fun c_1 => ?_)
    · replace h := h.1 c_1
      refine g_iconst C (0 : Int32) dX2_has_25 (by decide) ?_
      exact g_zret C hrt9 hlk rfl (u := ()) rfl h dX2_has_26
    · replace h := h.2 c_1
      refine g_lload_n C 0 dX2_has_8 rfl rfl ?_
      refine g_iload_n C 2 dX2_has_9 rfl rfl ?_
      refine k_X2_character C gX2_has_X2_character ⟨Nat.le_of_ble_eq_true rfl, Nat.le_of_ble_eq_true rfl⟩ (Nat.le_of_ble_eq_true rfl) dX2_has_10  h (fun r_2 h => ?_)
      refine g_iload_n C 1 dX2_has_13 rfl rfl ?_
      refine g_icmp_ne C 19 dX2_has_14 (by decide) (fun c_3 => ?_) (fun c_3 => ?_)
      · replace h := h.2 c_3
        refine g_iinc C (v := (v3 + (1 : Int32))) (lv2 := [(3, .int (v3 + (1 : Int32))), (0, .long v0), (2, .int v2)]) 2 dX2_has_19 rfl rfl (by decide) rfl ?_
        refine g_goto C 2 dX2_has_22 (by decide) ?_
        exact g_sub [1, 2, 0] rfl (Hk2 v0 v2 (v3 + (1 : Int32))  h)
      · replace h := h.1 c_3
        refine g_iconst C (1 : Int32) dX2_has_17 (by decide) ?_
        exact g_zret C hrt9 hlk rfl (u := ()) rfl h dX2_has_18
set_option maxHeartbeats 4000000 in
set_option maxRecDepth 100000 in
theorem t_B_X2_has_0  {Q : Int32 → Prop} (C : CxX p s m args c D (tysX cA) RX2 cX2_has 4 wsX2_has) (hrt9 : meth.sig.returnType = (some .boolean)) (hlk : meth.locks = false) (v0 : Int64) (v2 : Int32)   (h : B_X2_has_0  Q  v0 v2) : GoX p l e rmX2_has s m args below meth c D A 4 0 0 (QP_X2_has D A ad cA tl tx mn sd e0 e1 e2 e3 e4 e5 e6 e7 e8 e9 e10 fr hd nw kp pt hr lr Q below args s) 0 [(0, .long v0), (2, .int v2)] [] (WX ad cA tl tx mn sd e0 e1 e2 e3 e4 e5 e6 e7 e8 e9 e10 fr hd nw kp pt hr lr) := by
  replace h : (∃ n9 : Nat, L_X2_has_2  Q  n9 v0 v2 (0 : Int32)) := h
  refine g_iconst C (0 : Int32) dX2_has_0 (by decide) ?_
  refine g_istore_n C (lv2 := [(3, .int (0 : Int32)), (0, .long v0), (2, .int v2)]) dX2_has_1 rfl (by decide) rfl ?_
  obtain ⟨n9, h⟩ := h
  exact g_sub [1, 2, 0] rfl (t_L_X2_has_2 C hrt9 hlk  n9 v0 v2 (0 : Int32)  h)
theorem c_X2_has (l : Launch) (D : va_G) (A : Nat → Prop) (ad : Nat → Nat) (cA : Nat → ClassId) (v0 : Int64) (v2 : Int32) {tl : Int32} {tx : (Nat → Int32)} {mn : Int32} {sd : (Nat → Int64)} {e0 : Int32} {e1 : Int32} {e2 : Int32} {e3 : Int32} {e4 : Int32} {e5 : Int32} {e6 : Int32} {e7 : Int32} {e8 : Int32} {e9 : Int32} {e10 : Int32} {fr : Int32} {hd : Int32} {nw : (Nat → Int32)} {kp : (Nat → Int32)} {pt : (Nat → Int32)} {hr : (Nat → Nat → Int32)} {lr : (Nat → Nat → Int32)}  (Q : Int32 → Prop) (h : F_X2_has v0 v2 Q) : Met l yX2_has wsX2_has rmX2_has (va_Pc [.long v0, .int v2] (OKX D (tysX cA) (WX ad cA tl tx mn sd e0 e1 e2 e3 e4 e5 e6 e7 e8 e9 e10 fr hd nw kp pt hr lr) A)) (QC_X2_has D A ad cA tl tx mn sd e0 e1 e2 e3 e4 e5 e6 e7 e8 e9 e10 fr hd nw kp pt hr lr Q) 0 0 A :=
  g_met (own := RX2) (by decide) rfl rfl (Nat.le_of_ble_eq_true rfl) (fun p e s m below meth c C hrt9 hlk _ => g_sub [0, 1] rfl (t_B_X2_has_0 C hrt9 hlk v0 v2   h))
theorem k_X2_has {ws : List Cond} {own : String} {cc : ByteArray} {nL pc index : Nat} {lv : List (Nat × Value)} {st : List Value} {Q : State → Prop} {R : Room} {K : Int32 → Prop} {v0 : Int64} {v2 : Int32} (C : CxX p s m args c D (tysX cA) own cc nL ws) (hT : GoodIn ws (va_wsS own index yX2_has wsX2_has)) (hR : rmX2_has.frames + 1 ≤ R.frames ∧ 8 + (4 + 11) + rmX2_has.locals ≤ R.locals) (hcat : (st.map fun v => v.category).sum ≤ 8) (hdg : decode cc pc = .ok (.invokestatic index, 3))  (h : F_X2_has v0 v2 K) (kk : ∀ (r : Int32) , K r → GoX p l e R s m args below meth c D A nL 0 0 Q (pc + 3) lv (.int r :: st) (WX ad cA tl tx mn sd e0 e1 e2 e3 e4 e5 e6 e7 e8 e9 e10 fr hd nw kp pt hr lr)) : GoX p l e R s m args below meth c D A nL 0 0 Q pc lv (.int v2 :: .long v0 :: st) (WX ad cA tl tx mn sd e0 e1 e2 e3 e4 e5 e6 e7 e8 e9 e10 fr hd nw kp pt hr lr) :=
  g_callSi C (As := [.long v0, .int v2]) 2 (c_X2_has l D A ad cA v0 v2  K h) hT rfl rfl rfl (by decide +kernel) hR rfl rfl hcat hdg (fun r u hu => kk r  hu)
/-! X0_isComplete -/
abbrev rmX0_isComplete : Room := { frames := 0, cells := 0, slots := 0, locals := 0 }
abbrev QC_X0_isComplete (D : va_G) (A : Nat → Prop) (ad : Nat → Nat) (cA : Nat → ClassId) (tl : Int32) (tx : (Nat → Int32)) (mn : Int32) (sd : (Nat → Int64)) (e0 : Int32) (e1 : Int32) (e2 : Int32) (e3 : Int32) (e4 : Int32) (e5 : Int32) (e6 : Int32) (e7 : Int32) (e8 : Int32) (e9 : Int32) (e10 : Int32) (fr : Int32) (hd : Int32) (nw : (Nat → Int32)) (kp : (Nat → Int32)) (pt : (Nat → Int32)) (hr : (Nat → Nat → Int32)) (lr : (Nat → Nat → Int32)) (Q : Int32 → Prop) : Array Value → State → Outcome → State → Prop := va_Qi (fun (r : Int32) (u : Unit) => Q r ) (fun u t => OKX D (tysX cA) ((fun u : Unit => WX ad cA tl tx mn sd e0 e1 e2 e3 e4 e5 e6 e7 e8 e9 e10 fr hd nw kp pt hr lr) u) A t) A
abbrev QP_X0_isComplete (D : va_G) (A : Nat → Prop) (ad : Nat → Nat) (cA : Nat → ClassId) (tl : Int32) (tx : (Nat → Int32)) (mn : Int32) (sd : (Nat → Int64)) (e0 : Int32) (e1 : Int32) (e2 : Int32) (e3 : Int32) (e4 : Int32) (e5 : Int32) (e6 : Int32) (e7 : Int32) (e8 : Int32) (e9 : Int32) (e10 : Int32) (fr : Int32) (hd : Int32) (nw : (Nat → Int32)) (kp : (Nat → Int32)) (pt : (Nat → Int32)) (hr : (Nat → Nat → Int32)) (lr : (Nat → Nat → Int32)) (Q : Int32 → Prop) (below : List Frame) (args : Array Value) (s : State) : State → Prop := MQ below (QC_X0_isComplete D A ad cA tl tx mn sd e0 e1 e2 e3 e4 e5 e6 e7 e8 e9 e10 fr hd nw kp pt hr lr Q) args s 0 0 A
def B_X0_isComplete_47  (Q : Int32 → Prop) (e3 : Int32) (s0 : Int32)  : Prop := (isBo s0 ∧ (Q s0))
def B_X0_isComplete_42  (Q : Int32 → Prop) (e3 : Int32)   : Prop := (B_X0_isComplete_47  Q e3 (1 : Int32))
def B_X0_isComplete_0  (Q : Int32 → Prop) (e3 : Int32)   : Prop := ((e3 = (3 : Int32) → (B_X0_isComplete_42  Q e3 )) ∧ (¬ e3 = (3 : Int32) → ((e3 = (4 : Int32) → (B_X0_isComplete_42  Q e3 )) ∧ (¬ e3 = (4 : Int32) → ((e3 = (5 : Int32) → (B_X0_isComplete_42  Q e3 )) ∧ (¬ e3 = (5 : Int32) → ((e3 = (6 : Int32) → (B_X0_isComplete_42  Q e3 )) ∧ (¬ e3 = (6 : Int32) → ((e3 = (11 : Int32) → (B_X0_isComplete_42  Q e3 )) ∧ (¬ e3 = (11 : Int32) → (B_X0_isComplete_47  Q e3 (0 : Int32))))))))))))
def F_X0_isComplete  (e3 : Int32)  (Q : Int32 → Prop) : Prop := B_X0_isComplete_0 Q e3  
theorem lkX0_isComplete_19 : Cond.fieldLink RX0 19 (TX0 3).1 (TX0 3).2.1 (TX0 3).2.2.1 ∈ wsX0_isComplete := by decide +kernel
theorem inX0_isComplete_0 : ∀ q ∈ u_ws RX0 TX0 11, q ∈ wsX0_isComplete := by decide +kernel
set_option maxHeartbeats 4000000 in
set_option maxRecDepth 100000 in
theorem t_B_X0_isComplete_47  {Q : Int32 → Prop} (C : CxX p s m args c D (tysX cA) RX0 cX0_isComplete 1 wsX0_isComplete) (hrt9 : meth.sig.returnType = (some .boolean)) (hlk : meth.locks = false) (s0 : Int32)   (h : B_X0_isComplete_47  Q e3 s0) : GoX p l e rmX0_isComplete s m args below meth c D A 1 0 0 (QP_X0_isComplete D A ad cA tl tx mn sd e0 e1 e2 e3 e4 e5 e6 e7 e8 e9 e10 fr hd nw kp pt hr lr Q below args s) 47 [] [.int s0] (WX ad cA tl tx mn sd e0 e1 e2 e3 e4 e5 e6 e7 e8 e9 e10 fr hd nw kp pt hr lr) := by
  replace h : (isBo s0 ∧ (Q s0)) := h
  exact g_zret C hrt9 hlk h.1.n (u := ()) rfl h.2 dX0_isComplete_47
set_option maxHeartbeats 4000000 in
set_option maxRecDepth 100000 in
theorem t_B_X0_isComplete_42  {Q : Int32 → Prop} (C : CxX p s m args c D (tysX cA) RX0 cX0_isComplete 1 wsX0_isComplete) (hrt9 : meth.sig.returnType = (some .boolean)) (hlk : meth.locks = false)    (h : B_X0_isComplete_42  Q e3 ) : GoX p l e rmX0_isComplete s m args below meth c D A 1 0 0 (QP_X0_isComplete D A ad cA tl tx mn sd e0 e1 e2 e3 e4 e5 e6 e7 e8 e9 e10 fr hd nw kp pt hr lr Q below args s) 42 [] [] (WX ad cA tl tx mn sd e0 e1 e2 e3 e4 e5 e6 e7 e8 e9 e10 fr hd nw kp pt hr lr) := by
  replace h : (B_X0_isComplete_47  Q e3 (1 : Int32)) := h
  refine g_iconst C (1 : Int32) dX0_isComplete_42 (by decide) ?_
  refine g_goto C 47 dX0_isComplete_43 (by decide) ?_
  exact g_sub [] rfl (t_B_X0_isComplete_47 C hrt9 hlk  (1 : Int32)  h)
set_option maxHeartbeats 4000000 in
set_option maxRecDepth 100000 in
theorem t_B_X0_isComplete_0  {Q : Int32 → Prop} (C : CxX p s m args c D (tysX cA) RX0 cX0_isComplete 1 wsX0_isComplete) (hrt9 : meth.sig.returnType = (some .boolean)) (hlk : meth.locks = false)    (h : B_X0_isComplete_0  Q e3 ) : GoX p l e rmX0_isComplete s m args below meth c D A 1 0 0 (QP_X0_isComplete D A ad cA tl tx mn sd e0 e1 e2 e3 e4 e5 e6 e7 e8 e9 e10 fr hd nw kp pt hr lr Q below args s) 0 [(0, .ref (ad 4))] [] (WX ad cA tl tx mn sd e0 e1 e2 e3 e4 e5 e6 e7 e8 e9 e10 fr hd nw kp pt hr lr) := by
  replace h : ((e3 = (3 : Int32) → (B_X0_isComplete_42  Q e3 )) ∧ (¬ e3 = (3 : Int32) → ((e3 = (4 : Int32) → (B_X0_isComplete_42  Q e3 )) ∧ (¬ e3 = (4 : Int32) → ((e3 = (5 : Int32) → (B_X0_isComplete_42  Q e3 )) ∧ (¬ e3 = (5 : Int32) → ((e3 = (6 : Int32) → (B_X0_isComplete_42  Q e3 )) ∧ (¬ e3 = (6 : Int32) → ((e3 = (11 : Int32) → (B_X0_isComplete_42  Q e3 )) ∧ (¬ e3 = (11 : Int32) → (B_X0_isComplete_47  Q e3 (0 : Int32)))))))))))) := h
  refine g_aload_n C 0 dX0_isComplete_0 rfl rfl ?_
  refine g_get C inX0_isComplete_0 4 WXg4 rfl 3 (by decide) lkX0_isComplete_19 rfl dX0_isComplete_1 ?_
  refine g_iconst C (3 : Int32) dX0_isComplete_4 (by decide) ?_
  refine g_icmp_eq C 42 dX0_isComplete_5 (by decide) (fun c_1 => ?_) (fun c_1 => ?_)
  · replace h := h.1 c_1
    exact g_sub [] rfl (t_B_X0_isComplete_42 C hrt9 hlk    h)
  · replace h := h.2 c_1
    refine g_aload_n C 0 dX0_isComplete_8 rfl rfl ?_
    refine g_get C inX0_isComplete_0 4 WXg4 rfl 3 (by decide) lkX0_isComplete_19 rfl dX0_isComplete_9 ?_
    refine g_iconst C (4 : Int32) dX0_isComplete_12 (by decide) ?_
    refine g_icmp_eq C 42 dX0_isComplete_13 (by decide) (fun c_2 => ?_) (fun c_2 => ?_)
    · replace h := h.1 c_2
      exact g_sub [] rfl (t_B_X0_isComplete_42 C hrt9 hlk    h)
    · replace h := h.2 c_2
      refine g_aload_n C 0 dX0_isComplete_16 rfl rfl ?_
      refine g_get C inX0_isComplete_0 4 WXg4 rfl 3 (by decide) lkX0_isComplete_19 rfl dX0_isComplete_17 ?_
      refine g_iconst C (5 : Int32) dX0_isComplete_20 (by decide) ?_
      refine g_icmp_eq C 42 dX0_isComplete_21 (by decide) (fun c_3 => ?_) (fun c_3 => ?_)
      · replace h := h.1 c_3
        exact g_sub [] rfl (t_B_X0_isComplete_42 C hrt9 hlk    h)
      · replace h := h.2 c_3
        refine g_aload_n C 0 dX0_isComplete_24 rfl rfl ?_
        refine g_get C inX0_isComplete_0 4 WXg4 rfl 3 (by decide) lkX0_isComplete_19 rfl dX0_isComplete_25 ?_
        refine g_bipush C (6 : Int32) dX0_isComplete_28 (by decide) ?_
        refine g_icmp_eq C 42 dX0_isComplete_30 (by decide) (fun c_4 => ?_) (fun c_4 => ?_)
        · replace h := h.1 c_4
          exact g_sub [] rfl (t_B_X0_isComplete_42 C hrt9 hlk    h)
        · replace h := h.2 c_4
          refine g_aload_n C 0 dX0_isComplete_33 rfl rfl ?_
          refine g_get C inX0_isComplete_0 4 WXg4 rfl 3 (by decide) lkX0_isComplete_19 rfl dX0_isComplete_34 ?_
          refine g_bipush C (11 : Int32) dX0_isComplete_37 (by decide) ?_
          refine g_icmp_ne C 46 dX0_isComplete_39 (by decide) (fun c_5 => ?_) (fun c_5 => ?_)
          · replace h := h.2 c_5
            refine g_iconst C (0 : Int32) dX0_isComplete_46 (by decide) ?_
            exact g_sub [] rfl (t_B_X0_isComplete_47 C hrt9 hlk  (0 : Int32)  h)
          · replace h := h.1 c_5
            exact g_sub [] rfl (t_B_X0_isComplete_42 C hrt9 hlk    h)
theorem c_X0_isComplete (l : Launch) (D : va_G) (A : Nat → Prop) (ad : Nat → Nat) (cA : Nat → ClassId)  {tl : Int32} {tx : (Nat → Int32)} {mn : Int32} {sd : (Nat → Int64)} {e0 : Int32} {e1 : Int32} {e2 : Int32} {e3 : Int32} {e4 : Int32} {e5 : Int32} {e6 : Int32} {e7 : Int32} {e8 : Int32} {e9 : Int32} {e10 : Int32} {fr : Int32} {hd : Int32} {nw : (Nat → Int32)} {kp : (Nat → Int32)} {pt : (Nat → Int32)} {hr : (Nat → Nat → Int32)} {lr : (Nat → Nat → Int32)}  (Q : Int32 → Prop) (h : F_X0_isComplete e3 Q) : Met l yX0_isComplete wsX0_isComplete rmX0_isComplete (va_Pc [.ref (ad 4)] (OKX D (tysX cA) (WX ad cA tl tx mn sd e0 e1 e2 e3 e4 e5 e6 e7 e8 e9 e10 fr hd nw kp pt hr lr) A)) (QC_X0_isComplete D A ad cA tl tx mn sd e0 e1 e2 e3 e4 e5 e6 e7 e8 e9 e10 fr hd nw kp pt hr lr Q) 0 0 A :=
  g_met (own := RX0) (by decide) rfl rfl (Nat.le_of_ble_eq_true rfl) (fun p e s m below meth c C hrt9 hlk _ => g_sub [0] rfl (t_B_X0_isComplete_0 C hrt9 hlk    h))
theorem k_X0_isComplete {ws : List Cond} {own : String} {cc : ByteArray} {nL pc index : Nat} {lv : List (Nat × Value)} {st : List Value} {Q : State → Prop} {R : Room} {K : Int32 → Prop}  (C : CxX p s m args c D (tysX cA) own cc nL ws) (hT : GoodIn ws (wsV own index RX0 yX0_isComplete wsX0_isComplete)) (hR : rmX0_isComplete.frames + 1 ≤ R.frames ∧ 8 + (1 + 11) + rmX0_isComplete.locals ≤ R.locals) (hcat : (st.map fun v => v.category).sum ≤ 8) (hdg : decode cc pc = .ok (.invokevirtual index, 3))  (h : F_X0_isComplete e3 K) (kk : ∀ (r : Int32) , K r → GoX p l e R s m args below meth c D A nL 0 0 Q (pc + 3) lv (.int r :: st) (WX ad cA tl tx mn sd e0 e1 e2 e3 e4 e5 e6 e7 e8 e9 e10 fr hd nw kp pt hr lr)) : GoX p l e R s m args below meth c D A nL 0 0 Q pc lv (.ref (ad 4) :: st) (WX ad cA tl tx mn sd e0 e1 e2 e3 e4 e5 e6 e7 e8 e9 e10 fr hd nw kp pt hr lr) :=
  g_callVi C (As := []) 0 (c_X0_isComplete l D A ad cA   K h) hT rfl rfl rfl (by decide +kernel) hR 4 WXg4 rfl rfl rfl hcat hdg (fun r u hu => kk r  hu)
/-! X0_number -/
abbrev rmX0_number : Room := { frames := 0, cells := 0, slots := 0, locals := 0 }
abbrev QC_X0_number (D : va_G) (A : Nat → Prop) (ad : Nat → Nat) (cA : Nat → ClassId) (tl : Int32) (tx : (Nat → Int32)) (mn : Int32) (sd : (Nat → Int64)) (e0 : Int32) (e1 : Int32) (e2 : Int32) (e3 : Int32) (e4 : Int32) (e5 : Int32) (e6 : Int32) (e7 : Int32) (e8 : Int32) (e9 : Int32) (e10 : Int32) (fr : Int32) (hd : Int32) (nw : (Nat → Int32)) (kp : (Nat → Int32)) (pt : (Nat → Int32)) (hr : (Nat → Nat → Int32)) (lr : (Nat → Nat → Int32)) (Q : Int32 → Prop) : Array Value → State → Outcome → State → Prop := va_Qi (fun (r : Int32) (u : Unit) => Q r ) (fun u t => OKX D (tysX cA) ((fun u : Unit => WX ad cA tl tx mn sd e0 e1 e2 e3 e4 e5 e6 e7 e8 e9 e10 fr hd nw kp pt hr lr) u) A t) A
abbrev QP_X0_number (D : va_G) (A : Nat → Prop) (ad : Nat → Nat) (cA : Nat → ClassId) (tl : Int32) (tx : (Nat → Int32)) (mn : Int32) (sd : (Nat → Int64)) (e0 : Int32) (e1 : Int32) (e2 : Int32) (e3 : Int32) (e4 : Int32) (e5 : Int32) (e6 : Int32) (e7 : Int32) (e8 : Int32) (e9 : Int32) (e10 : Int32) (fr : Int32) (hd : Int32) (nw : (Nat → Int32)) (kp : (Nat → Int32)) (pt : (Nat → Int32)) (hr : (Nat → Nat → Int32)) (lr : (Nat → Nat → Int32)) (Q : Int32 → Prop) (below : List Frame) (args : Array Value) (s : State) : State → Prop := MQ below (QC_X0_number D A ad cA tl tx mn sd e0 e1 e2 e3 e4 e5 e6 e7 e8 e9 e10 fr hd nw kp pt hr lr Q) args s 0 0 A
def B_X0_number_35  (Q : Int32 → Prop) (e1 : Int32) (e6 : Int32) (e8 : Int32) (e9 : Int32) (e10 : Int32) (s0 : Int32) (s1 : Int32)  : Prop := (Q (s0 + s1))
def B_X0_number_31  (Q : Int32 → Prop) (e1 : Int32) (e6 : Int32) (e8 : Int32) (e9 : Int32) (e10 : Int32) (s0 : Int32)  : Prop := (B_X0_number_35  Q e1 e6 e8 e9 e10 s0 e10)
def B_X0_number_0  (Q : Int32 → Prop) (e1 : Int32) (e6 : Int32) (e8 : Int32) (e9 : Int32) (e10 : Int32)   : Prop := ((e6 = 0 → (B_X0_number_31  Q e1 e6 e8 e9 e10 (e8 + e9))) ∧ (¬ e6 = 0 → ((e1 = 0 → (B_X0_number_31  Q e1 e6 e8 e9 e10 (e8 + e9))) ∧ (¬ e1 = 0 → (B_X0_number_35  Q e1 e6 e8 e9 e10 (e8 + e9) (-e10))))))
def F_X0_number  (e1 : Int32) (e6 : Int32) (e8 : Int32) (e9 : Int32) (e10 : Int32)  (Q : Int32 → Prop) : Prop := B_X0_number_0 Q e1 e6 e8 e9 e10  
theorem lkX0_number_13 : Cond.fieldLink RX0 13 (TX0 1).1 (TX0 1).2.1 (TX0 1).2.2.1 ∈ wsX0_number := by decide +kernel
theorem lkX0_number_29 : Cond.fieldLink RX0 29 (TX0 6).1 (TX0 6).2.1 (TX0 6).2.2.1 ∈ wsX0_number := by decide +kernel
theorem lkX0_number_38 : Cond.fieldLink RX0 38 (TX0 9).1 (TX0 9).2.1 (TX0 9).2.2.1 ∈ wsX0_number := by decide +kernel
theorem lkX0_number_35 : Cond.fieldLink RX0 35 (TX0 8).1 (TX0 8).2.1 (TX0 8).2.2.1 ∈ wsX0_number := by decide +kernel
theorem lkX0_number_41 : Cond.fieldLink RX0 41 (TX0 10).1 (TX0 10).2.1 (TX0 10).2.2.1 ∈ wsX0_number := by decide +kernel
theorem inX0_number_0 : ∀ q ∈ u_ws RX0 TX0 11, q ∈ wsX0_number := by decide +kernel
set_option maxHeartbeats 4000000 in
set_option maxRecDepth 100000 in
theorem t_B_X0_number_35  {Q : Int32 → Prop} (C : CxX p s m args c D (tysX cA) RX0 cX0_number 1 wsX0_number) (hrt9 : meth.sig.returnType = (some .int)) (hlk : meth.locks = false) (s0 : Int32) (s1 : Int32)   (h : B_X0_number_35  Q e1 e6 e8 e9 e10 s0 s1) : GoX p l e rmX0_number s m args below meth c D A 1 0 0 (QP_X0_number D A ad cA tl tx mn sd e0 e1 e2 e3 e4 e5 e6 e7 e8 e9 e10 fr hd nw kp pt hr lr Q below args s) 35 [] [.int s1, .int s0] (WX ad cA tl tx mn sd e0 e1 e2 e3 e4 e5 e6 e7 e8 e9 e10 fr hd nw kp pt hr lr) := by
  replace h : (Q (s0 + s1)) := h
  refine g_iadd C dX0_number_35 ?_
  exact g_iret C hrt9 hlk (u := ()) rfl h dX0_number_36
set_option maxHeartbeats 4000000 in
set_option maxRecDepth 100000 in
theorem t_B_X0_number_31  {Q : Int32 → Prop} (C : CxX p s m args c D (tysX cA) RX0 cX0_number 1 wsX0_number) (hrt9 : meth.sig.returnType = (some .int)) (hlk : meth.locks = false) (s0 : Int32)   (h : B_X0_number_31  Q e1 e6 e8 e9 e10 s0) : GoX p l e rmX0_number s m args below meth c D A 1 0 0 (QP_X0_number D A ad cA tl tx mn sd e0 e1 e2 e3 e4 e5 e6 e7 e8 e9 e10 fr hd nw kp pt hr lr Q below args s) 31 [(0, .ref (ad 4))] [.int s0] (WX ad cA tl tx mn sd e0 e1 e2 e3 e4 e5 e6 e7 e8 e9 e10 fr hd nw kp pt hr lr) := by
  replace h : (B_X0_number_35  Q e1 e6 e8 e9 e10 s0 e10) := h
  refine g_aload_n C 0 dX0_number_31 rfl rfl ?_
  refine g_get C inX0_number_0 4 WXg4 rfl 10 (by decide) lkX0_number_41 rfl dX0_number_32 ?_
  exact g_sub [] rfl (t_B_X0_number_35 C hrt9 hlk  s0 e10  h)
set_option maxHeartbeats 4000000 in
set_option maxRecDepth 100000 in
theorem t_B_X0_number_0  {Q : Int32 → Prop} (C : CxX p s m args c D (tysX cA) RX0 cX0_number 1 wsX0_number) (hrt9 : meth.sig.returnType = (some .int)) (hlk : meth.locks = false)    (h : B_X0_number_0  Q e1 e6 e8 e9 e10 ) : GoX p l e rmX0_number s m args below meth c D A 1 0 0 (QP_X0_number D A ad cA tl tx mn sd e0 e1 e2 e3 e4 e5 e6 e7 e8 e9 e10 fr hd nw kp pt hr lr Q below args s) 0 [(0, .ref (ad 4))] [] (WX ad cA tl tx mn sd e0 e1 e2 e3 e4 e5 e6 e7 e8 e9 e10 fr hd nw kp pt hr lr) := by
  replace h : ((e6 = 0 → (B_X0_number_31  Q e1 e6 e8 e9 e10 (e8 + e9))) ∧ (¬ e6 = 0 → ((e1 = 0 → (B_X0_number_31  Q e1 e6 e8 e9 e10 (e8 + e9))) ∧ (¬ e1 = 0 → (B_X0_number_35  Q e1 e6 e8 e9 e10 (e8 + e9) (-e10)))))) := h
  refine g_aload_n C 0 dX0_number_0 rfl rfl ?_
  refine g_get C inX0_number_0 4 WXg4 rfl 8 (by decide) lkX0_number_35 rfl dX0_number_1 ?_
  refine g_aload_n C 0 dX0_number_4 rfl rfl ?_
  refine g_get C inX0_number_0 4 WXg4 rfl 9 (by decide) lkX0_number_38 rfl dX0_number_5 ?_
  refine g_iadd C dX0_number_8 ?_
  refine g_aload_n C 0 dX0_number_9 rfl rfl ?_
  refine g_get C inX0_number_0 4 WXg4 rfl 6 (by decide) lkX0_number_29 rfl dX0_number_10 ?_
  refine g_if_eq C 31 dX0_number_13 (by decide) (fun c_1 => ?_) (fun c_1 => ?_)
  · replace h := h.1 c_1
    exact g_sub [0] rfl (t_B_X0_number_31 C hrt9 hlk  (e8 + e9)  h)
  · replace h := h.2 c_1
    refine g_aload_n C 0 dX0_number_16 rfl rfl ?_
    refine g_get C inX0_number_0 4 WXg4 rfl 1 (by decide) lkX0_number_13 rfl dX0_number_17 ?_
    refine g_if_eq C 31 dX0_number_20 (by decide) (fun c_2 => ?_) (fun c_2 => ?_)
    · replace h := h.1 c_2
      exact g_sub [0] rfl (t_B_X0_number_31 C hrt9 hlk  (e8 + e9)  h)
    · replace h := h.2 c_2
      refine g_aload_n C 0 dX0_number_23 rfl rfl ?_
      refine g_get C inX0_number_0 4 WXg4 rfl 10 (by decide) lkX0_number_41 rfl dX0_number_24 ?_
      refine g_ineg C dX0_number_27 ?_
      refine g_goto C 35 dX0_number_28 (by decide) ?_
      exact g_sub [] rfl (t_B_X0_number_35 C hrt9 hlk  (e8 + e9) (-e10)  h)
theorem c_X0_number (l : Launch) (D : va_G) (A : Nat → Prop) (ad : Nat → Nat) (cA : Nat → ClassId)  {tl : Int32} {tx : (Nat → Int32)} {mn : Int32} {sd : (Nat → Int64)} {e0 : Int32} {e1 : Int32} {e2 : Int32} {e3 : Int32} {e4 : Int32} {e5 : Int32} {e6 : Int32} {e7 : Int32} {e8 : Int32} {e9 : Int32} {e10 : Int32} {fr : Int32} {hd : Int32} {nw : (Nat → Int32)} {kp : (Nat → Int32)} {pt : (Nat → Int32)} {hr : (Nat → Nat → Int32)} {lr : (Nat → Nat → Int32)}  (Q : Int32 → Prop) (h : F_X0_number e1 e6 e8 e9 e10 Q) : Met l yX0_number wsX0_number rmX0_number (va_Pc [.ref (ad 4)] (OKX D (tysX cA) (WX ad cA tl tx mn sd e0 e1 e2 e3 e4 e5 e6 e7 e8 e9 e10 fr hd nw kp pt hr lr) A)) (QC_X0_number D A ad cA tl tx mn sd e0 e1 e2 e3 e4 e5 e6 e7 e8 e9 e10 fr hd nw kp pt hr lr Q) 0 0 A :=
  g_met (own := RX0) (by decide) rfl rfl (Nat.le_of_ble_eq_true rfl) (fun p e s m below meth c C hrt9 hlk _ => g_sub [0] rfl (t_B_X0_number_0 C hrt9 hlk    h))
theorem k_X0_number {ws : List Cond} {own : String} {cc : ByteArray} {nL pc index : Nat} {lv : List (Nat × Value)} {st : List Value} {Q : State → Prop} {R : Room} {K : Int32 → Prop}  (C : CxX p s m args c D (tysX cA) own cc nL ws) (hT : GoodIn ws (wsV own index RX0 yX0_number wsX0_number)) (hR : rmX0_number.frames + 1 ≤ R.frames ∧ 8 + (1 + 11) + rmX0_number.locals ≤ R.locals) (hcat : (st.map fun v => v.category).sum ≤ 8) (hdg : decode cc pc = .ok (.invokevirtual index, 3))  (h : F_X0_number e1 e6 e8 e9 e10 K) (kk : ∀ (r : Int32) , K r → GoX p l e R s m args below meth c D A nL 0 0 Q (pc + 3) lv (.int r :: st) (WX ad cA tl tx mn sd e0 e1 e2 e3 e4 e5 e6 e7 e8 e9 e10 fr hd nw kp pt hr lr)) : GoX p l e R s m args below meth c D A nL 0 0 Q pc lv (.ref (ad 4) :: st) (WX ad cA tl tx mn sd e0 e1 e2 e3 e4 e5 e6 e7 e8 e9 e10 fr hd nw kp pt hr lr) :=
  g_callVi C (As := []) 0 (c_X0_number l D A ad cA   K h) hT rfl rfl rfl (by decide +kernel) hR 4 WXg4 rfl rfl rfl hcat hdg (fun r u hu => kk r  hu)
end
