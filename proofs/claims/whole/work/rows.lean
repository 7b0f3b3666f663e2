section
-- ===== PART A: goes FIRST, ahead of the names: the tables' words, and 'selects' of the private methods out of them =====
/-- a private method of a class that the tables say can be made, by its rows of tables_1 -/
def lw_okq (q : MethodName × Nat) : Prop := (q.1.cls ≠ "java/lang/invoke/MethodHandle" ∧ q.1.cls ≠ "java/lang/invoke/VarHandle") ∧ Cond.instantiable q.1.cls q.2 ∈ tables_1 ∧ Cond.privateMethod q.1 ∈ tables_1 ∧ Cond.instanceMethod q.1 ∈ tables_1
theorem lw_p0 : lw_okq (⟨"LinkPress$Program", "hasRoomFor", "(I)Z"⟩, 8) := ⟨⟨by decide +kernel, by decide +kernel⟩, List.mem_of_getElem? (i := 26) (by decide +kernel), List.mem_of_getElem? (i := 365) (by decide +kernel), List.mem_of_getElem? (i := 366) (by decide +kernel)⟩
theorem lw_p1 : lw_okq (⟨"LinkPress$Program", "makeRoomAt", "(I)V"⟩, 8) := ⟨⟨by decide +kernel, by decide +kernel⟩, List.mem_of_getElem? (i := 26) (by decide +kernel), List.mem_of_getElem? (i := 381) (by decide +kernel), List.mem_of_getElem? (i := 382) (by decide +kernel)⟩
theorem lw_p2 : lw_okq (⟨"LinkPress$Program", "hasOpenEnd", "()Z"⟩, 8) := ⟨⟨by decide +kernel, by decide +kernel⟩, List.mem_of_getElem? (i := 26) (by decide +kernel), List.mem_of_getElem? (i := 415) (by decide +kernel), List.mem_of_getElem? (i := 416) (by decide +kernel)⟩
theorem lw_p3 : lw_okq (⟨"LinkPress$Program", "goesToNoPlace", "()Z"⟩, 8) := ⟨⟨by decide +kernel, by decide +kernel⟩, List.mem_of_getElem? (i := 26) (by decide +kernel), List.mem_of_getElem? (i := 430) (by decide +kernel), List.mem_of_getElem? (i := 431) (by decide +kernel)⟩
theorem lw_p4 : lw_okq (⟨"LinkPress$Program", "tellsNoFunction", "()Z"⟩, 8) := ⟨⟨by decide +kernel, by decide +kernel⟩, List.mem_of_getElem? (i := 26) (by decide +kernel), List.mem_of_getElem? (i := 453) (by decide +kernel), List.mem_of_getElem? (i := 454) (by decide +kernel)⟩
theorem lw_p5 : lw_okq (⟨"LinkPress$Folding", "markTaken", "()V"⟩, 6) := ⟨⟨by decide +kernel, by decide +kernel⟩, List.mem_of_getElem? (i := 58) (by decide +kernel), List.mem_of_getElem? (i := 476) (by decide +kernel), List.mem_of_getElem? (i := 477) (by decide +kernel)⟩
theorem lw_p6 : lw_okq (⟨"LinkPress$Folding", "standAllTogether", "()V"⟩, 6) := ⟨⟨by decide +kernel, by decide +kernel⟩, List.mem_of_getElem? (i := 58) (by decide +kernel), List.mem_of_getElem? (i := 486) (by decide +kernel), List.mem_of_getElem? (i := 487) (by decide +kernel)⟩
theorem lw_p7 : lw_okq (⟨"LinkPress$Folding", "partOnce", "()V"⟩, 6) := ⟨⟨by decide +kernel, by decide +kernel⟩, List.mem_of_getElem? (i := 58) (by decide +kernel), List.mem_of_getElem? (i := 491) (by decide +kernel), List.mem_of_getElem? (i := 492) (by decide +kernel)⟩
theorem lw_p8 : lw_okq (⟨"LinkPress$Folding", "finerLeastOf", "(I)I"⟩, 6) := ⟨⟨by decide +kernel, by decide +kernel⟩, List.mem_of_getElem? (i := 58) (by decide +kernel), List.mem_of_getElem? (i := 499) (by decide +kernel), List.mem_of_getElem? (i := 500) (by decide +kernel)⟩
theorem lw_p9 : lw_okq (⟨"LinkPress$Folding", "areAlike", "(II)Z"⟩, 6) := ⟨⟨by decide +kernel, by decide +kernel⟩, List.mem_of_getElem? (i := 58) (by decide +kernel), List.mem_of_getElem? (i := 503) (by decide +kernel), List.mem_of_getElem? (i := 504) (by decide +kernel)⟩
theorem lw_p10 : lw_okq (⟨"LinkPress$Folding", "areAlikeSpots", "(II)Z"⟩, 6) := ⟨⟨by decide +kernel, by decide +kernel⟩, List.mem_of_getElem? (i := 58) (by decide +kernel), List.mem_of_getElem? (i := 509) (by decide +kernel), List.mem_of_getElem? (i := 510) (by decide +kernel)⟩
theorem lw_p11 : lw_okq (⟨"LinkPress$Folding", "standTogether", "(II)Z"⟩, 6) := ⟨⟨by decide +kernel, by decide +kernel⟩, List.mem_of_getElem? (i := 58) (by decide +kernel), List.mem_of_getElem? (i := 515) (by decide +kernel), List.mem_of_getElem? (i := 516) (by decide +kernel)⟩
theorem lw_p12 : lw_okq (⟨"LinkPress$RoutineSearch", "markSpots", "()V"⟩, 17) := ⟨⟨by decide +kernel, by decide +kernel⟩, List.mem_of_getElem? (i := 152) (by decide +kernel), List.mem_of_getElem? (i := 559) (by decide +kernel), List.mem_of_getElem? (i := 560) (by decide +kernel)⟩
theorem lw_p13 : lw_okq (⟨"LinkPress$RoutineSearch", "markSpotsOf", "(I)V"⟩, 17) := ⟨⟨by decide +kernel, by decide +kernel⟩, List.mem_of_getElem? (i := 152) (by decide +kernel), List.mem_of_getElem? (i := 568) (by decide +kernel), List.mem_of_getElem? (i := 569) (by decide +kernel)⟩
theorem lw_p14 : lw_okq (⟨"LinkPress$RoutineSearch", "measureReach", "()V"⟩, 17) := ⟨⟨by decide +kernel, by decide +kernel⟩, List.mem_of_getElem? (i := 152) (by decide +kernel), List.mem_of_getElem? (i := 590) (by decide +kernel), List.mem_of_getElem? (i := 591) (by decide +kernel)⟩
theorem lw_p15 : lw_okq (⟨"LinkPress$RoutineSearch", "nameRows", "()V"⟩, 17) := ⟨⟨by decide +kernel, by decide +kernel⟩, List.mem_of_getElem? (i := 152) (by decide +kernel), List.mem_of_getElem? (i := 594) (by decide +kernel), List.mem_of_getElem? (i := 595) (by decide +kernel)⟩
def lw_privs_1 : List (MethodName × Nat) := [(⟨"LinkPress$Program", "hasRoomFor", "(I)Z"⟩, 8), (⟨"LinkPress$Program", "makeRoomAt", "(I)V"⟩, 8), (⟨"LinkPress$Program", "hasOpenEnd", "()Z"⟩, 8), (⟨"LinkPress$Program", "goesToNoPlace", "()Z"⟩, 8), (⟨"LinkPress$Program", "tellsNoFunction", "()Z"⟩, 8), (⟨"LinkPress$Folding", "markTaken", "()V"⟩, 6), (⟨"LinkPress$Folding", "standAllTogether", "()V"⟩, 6), (⟨"LinkPress$Folding", "partOnce", "()V"⟩, 6), (⟨"LinkPress$Folding", "finerLeastOf", "(I)I"⟩, 6), (⟨"LinkPress$Folding", "areAlike", "(II)Z"⟩, 6), (⟨"LinkPress$Folding", "areAlikeSpots", "(II)Z"⟩, 6), (⟨"LinkPress$Folding", "standTogether", "(II)Z"⟩, 6), (⟨"LinkPress$RoutineSearch", "markSpots", "()V"⟩, 17), (⟨"LinkPress$RoutineSearch", "markSpotsOf", "(I)V"⟩, 17), (⟨"LinkPress$RoutineSearch", "measureReach", "()V"⟩, 17), (⟨"LinkPress$RoutineSearch", "nameRows", "()V"⟩, 17)]
theorem lw_r1 : ∀ q ∈ lw_privs_1, lw_okq q := List.forall_mem_cons.mpr ⟨lw_p0, List.forall_mem_cons.mpr ⟨lw_p1, List.forall_mem_cons.mpr ⟨lw_p2, List.forall_mem_cons.mpr ⟨lw_p3, List.forall_mem_cons.mpr ⟨lw_p4, List.forall_mem_cons.mpr ⟨lw_p5, List.forall_mem_cons.mpr ⟨lw_p6, List.forall_mem_cons.mpr ⟨lw_p7, List.forall_mem_cons.mpr ⟨lw_p8, List.forall_mem_cons.mpr ⟨lw_p9, List.forall_mem_cons.mpr ⟨lw_p10, List.forall_mem_cons.mpr ⟨lw_p11, List.forall_mem_cons.mpr ⟨lw_p12, List.forall_mem_cons.mpr ⟨lw_p13, List.forall_mem_cons.mpr ⟨lw_p14, List.forall_mem_cons.mpr ⟨lw_p15, fun _ h => absurd h List.not_mem_nil⟩⟩⟩⟩⟩⟩⟩⟩⟩⟩⟩⟩⟩⟩⟩⟩
theorem lw_p16 : lw_okq (⟨"LinkPress$RoutineSearch", "nameRowsOf", "(I)Z"⟩, 17) := ⟨⟨by decide +kernel, by decide +kernel⟩, List.mem_of_getElem? (i := 152) (by decide +kernel), List.mem_of_getElem? (i := 598) (by decide +kernel), List.mem_of_getElem? (i := 599) (by decide +kernel)⟩
theorem lw_p17 : lw_okq (⟨"LinkPress$RoutineSearch", "nameInChain", "(III)I"⟩, 17) := ⟨⟨by decide +kernel, by decide +kernel⟩, List.mem_of_getElem? (i := 152) (by decide +kernel), List.mem_of_getElem? (i := 607) (by decide +kernel), List.mem_of_getElem? (i := 608) (by decide +kernel)⟩
theorem lw_p18 : lw_okq (⟨"LinkPress$RoutineSearch", "haveSameLast", "(III)Z"⟩, 17) := ⟨⟨by decide +kernel, by decide +kernel⟩, List.mem_of_getElem? (i := 152) (by decide +kernel), List.mem_of_getElem? (i := 611) (by decide +kernel), List.mem_of_getElem? (i := 612) (by decide +kernel)⟩
theorem lw_p19 : lw_okq (⟨"LinkPress$RoutineSearch", "chooseBest", "()V"⟩, 17) := ⟨⟨by decide +kernel, by decide +kernel⟩, List.mem_of_getElem? (i := 152) (by decide +kernel), List.mem_of_getElem? (i := 616) (by decide +kernel), List.mem_of_getElem? (i := 617) (by decide +kernel)⟩
theorem lw_p20 : lw_okq (⟨"LinkPress$RoutineSearch", "countRowsOf", "(I)Z"⟩, 17) := ⟨⟨by decide +kernel, by decide +kernel⟩, List.mem_of_getElem? (i := 152) (by decide +kernel), List.mem_of_getElem? (i := 620) (by decide +kernel), List.mem_of_getElem? (i := 621) (by decide +kernel)⟩
theorem lw_p21 : lw_okq (⟨"LinkPress$RoutineSearch", "fitNameAt", "(II)I"⟩, 17) := ⟨⟨by decide +kernel, by decide +kernel⟩, List.mem_of_getElem? (i := 152) (by decide +kernel), List.mem_of_getElem? (i := 624) (by decide +kernel), List.mem_of_getElem? (i := 625) (by decide +kernel)⟩
theorem lw_p22 : lw_okq (⟨"LinkPress$RoutineSearch", "weighRowsOf", "(I)V"⟩, 17) := ⟨⟨by decide +kernel, by decide +kernel⟩, List.mem_of_getElem? (i := 152) (by decide +kernel), List.mem_of_getElem? (i := 628) (by decide +kernel), List.mem_of_getElem? (i := 629) (by decide +kernel)⟩
theorem lw_p23 : lw_okq (⟨"LinkPress$RoutineSearch", "takeBest", "()V"⟩, 17) := ⟨⟨by decide +kernel, by decide +kernel⟩, List.mem_of_getElem? (i := 152) (by decide +kernel), List.mem_of_getElem? (i := 635) (by decide +kernel), List.mem_of_getElem? (i := 636) (by decide +kernel)⟩
theorem lw_p24 : lw_okq (⟨"LinkPress$Linker", "layOutBody", "(II)I"⟩, 4) := ⟨⟨by decide +kernel, by decide +kernel⟩, List.mem_of_getElem? (i := 212) (by decide +kernel), List.mem_of_getElem? (i := 657) (by decide +kernel), List.mem_of_getElem? (i := 658) (by decide +kernel)⟩
theorem lw_p25 : lw_okq (⟨"LinkPress$Routines", "hasIndex", "(I)Z"⟩, 12) := ⟨⟨by decide +kernel, by decide +kernel⟩, List.mem_of_getElem? (i := 106) (by decide +kernel), List.mem_of_getElem? (i := 676) (by decide +kernel), List.mem_of_getElem? (i := 677) (by decide +kernel)⟩
theorem lw_p26 : lw_okq (⟨"LinkPress$Linker", "writeBody", "(I)V"⟩, 4) := ⟨⟨by decide +kernel, by decide +kernel⟩, List.mem_of_getElem? (i := 212) (by decide +kernel), List.mem_of_getElem? (i := 704) (by decide +kernel), List.mem_of_getElem? (i := 705) (by decide +kernel)⟩
theorem lw_p27 : lw_okq (⟨"LinkPress$Linker", "writeJump", "(II)V"⟩, 4) := ⟨⟨by decide +kernel, by decide +kernel⟩, List.mem_of_getElem? (i := 212) (by decide +kernel), List.mem_of_getElem? (i := 712) (by decide +kernel), List.mem_of_getElem? (i := 713) (by decide +kernel)⟩
theorem lw_p28 : lw_okq (⟨"LinkPress$Linker", "writeInstruction", "(II)V"⟩, 4) := ⟨⟨by decide +kernel, by decide +kernel⟩, List.mem_of_getElem? (i := 212) (by decide +kernel), List.mem_of_getElem? (i := 727) (by decide +kernel), List.mem_of_getElem? (i := 728) (by decide +kernel)⟩
theorem lw_p29 : lw_okq (⟨"LinkPress$Linker", "wordOfPlace", "(II)I"⟩, 4) := ⟨⟨by decide +kernel, by decide +kernel⟩, List.mem_of_getElem? (i := 212) (by decide +kernel), List.mem_of_getElem? (i := 732) (by decide +kernel), List.mem_of_getElem? (i := 733) (by decide +kernel)⟩
theorem lw_p30 : lw_okq (⟨"LinkPress$Linker", "writeAddress", "(II)V"⟩, 4) := ⟨⟨by decide +kernel, by decide +kernel⟩, List.mem_of_getElem? (i := 212) (by decide +kernel), List.mem_of_getElem? (i := 756) (by decide +kernel), List.mem_of_getElem? (i := 757) (by decide +kernel)⟩
theorem lw_p31 : lw_okq (⟨"LinkPress$Linker", "writeBranch", "(II)V"⟩, 4) := ⟨⟨by decide +kernel, by decide +kernel⟩, List.mem_of_getElem? (i := 212) (by decide +kernel), List.mem_of_getElem? (i := 778) (by decide +kernel), List.mem_of_getElem? (i := 779) (by decide +kernel)⟩
def lw_privs_2 : List (MethodName × Nat) := [(⟨"LinkPress$RoutineSearch", "nameRowsOf", "(I)Z"⟩, 17), (⟨"LinkPress$RoutineSearch", "nameInChain", "(III)I"⟩, 17), (⟨"LinkPress$RoutineSearch", "haveSameLast", "(III)Z"⟩, 17), (⟨"LinkPress$RoutineSearch", "chooseBest", "()V"⟩, 17), (⟨"LinkPress$RoutineSearch", "countRowsOf", "(I)Z"⟩, 17), (⟨"LinkPress$RoutineSearch", "fitNameAt", "(II)I"⟩, 17), (⟨"LinkPress$RoutineSearch", "weighRowsOf", "(I)V"⟩, 17), (⟨"LinkPress$RoutineSearch", "takeBest", "()V"⟩, 17), (⟨"LinkPress$Linker", "layOutBody", "(II)I"⟩, 4), (⟨"LinkPress$Routines", "hasIndex", "(I)Z"⟩, 12), (⟨"LinkPress$Linker", "writeBody", "(I)V"⟩, 4), (⟨"LinkPress$Linker", "writeJump", "(II)V"⟩, 4), (⟨"LinkPress$Linker", "writeInstruction", "(II)V"⟩, 4), (⟨"LinkPress$Linker", "wordOfPlace", "(II)I"⟩, 4), (⟨"LinkPress$Linker", "writeAddress", "(II)V"⟩, 4), (⟨"LinkPress$Linker", "writeBranch", "(II)V"⟩, 4)]
theorem lw_r2 : ∀ q ∈ lw_privs_2, lw_okq q := List.forall_mem_cons.mpr ⟨lw_p16, List.forall_mem_cons.mpr ⟨lw_p17, List.forall_mem_cons.mpr ⟨lw_p18, List.forall_mem_cons.mpr ⟨lw_p19, List.forall_mem_cons.mpr ⟨lw_p20, List.forall_mem_cons.mpr ⟨lw_p21, List.forall_mem_cons.mpr ⟨lw_p22, List.forall_mem_cons.mpr ⟨lw_p23, List.forall_mem_cons.mpr ⟨lw_p24, List.forall_mem_cons.mpr ⟨lw_p25, List.forall_mem_cons.mpr ⟨lw_p26, List.forall_mem_cons.mpr ⟨lw_p27, List.forall_mem_cons.mpr ⟨lw_p28, List.forall_mem_cons.mpr ⟨lw_p29, List.forall_mem_cons.mpr ⟨lw_p30, List.forall_mem_cons.mpr ⟨lw_p31, fun _ h => absurd h List.not_mem_nil⟩⟩⟩⟩⟩⟩⟩⟩⟩⟩⟩⟩⟩⟩⟩⟩
theorem lw_p32 : lw_okq (⟨"LinkPress$Linker", "writePlain", "(I)V"⟩, 4) := ⟨⟨by decide +kernel, by decide +kernel⟩, List.mem_of_getElem? (i := 212) (by decide +kernel), List.mem_of_getElem? (i := 786) (by decide +kernel), List.mem_of_getElem? (i := 787) (by decide +kernel)⟩
theorem lw_p33 : lw_okq (⟨"LinkPress$Linker", "writeRoutine", "(I)V"⟩, 4) := ⟨⟨by decide +kernel, by decide +kernel⟩, List.mem_of_getElem? (i := 212) (by decide +kernel), List.mem_of_getElem? (i := 799) (by decide +kernel), List.mem_of_getElem? (i := 800) (by decide +kernel)⟩
theorem lw_p34 : lw_okq (⟨"LinkPress", "machineOf", "(I)LLinkPress$Machine;"⟩, 8) := ⟨⟨by decide +kernel, by decide +kernel⟩, List.mem_of_getElem? (i := 18) (by decide +kernel), List.mem_of_getElem? (i := 874) (by decide +kernel), List.mem_of_getElem? (i := 875) (by decide +kernel)⟩
theorem lw_p35 : lw_okq (⟨"LinkPress$ToldMachine", "write", "(III)V"⟩, 12) := ⟨⟨by decide +kernel, by decide +kernel⟩, List.mem_of_getElem? (i := 231) (by decide +kernel), List.mem_of_getElem? (i := 908) (by decide +kernel), List.mem_of_getElem? (i := 909) (by decide +kernel)⟩
theorem lw_p36 : lw_okq (⟨"LinkPress$ImageMachine", "calculateByRegisters", "(I)I"⟩, 9) := ⟨⟨by decide +kernel, by decide +kernel⟩, List.mem_of_getElem? (i := 277) (by decide +kernel), List.mem_of_getElem? (i := 933) (by decide +kernel), List.mem_of_getElem? (i := 934) (by decide +kernel)⟩
theorem lw_p37 : lw_okq (⟨"LinkPress$ImageMachine", "firstIn", "(I)I"⟩, 9) := ⟨⟨by decide +kernel, by decide +kernel⟩, List.mem_of_getElem? (i := 277) (by decide +kernel), List.mem_of_getElem? (i := 943) (by decide +kernel), List.mem_of_getElem? (i := 944) (by decide +kernel)⟩
theorem lw_p38 : lw_okq (⟨"LinkPress$ImageMachine", "secondIn", "(I)I"⟩, 9) := ⟨⟨by decide +kernel, by decide +kernel⟩, List.mem_of_getElem? (i := 277) (by decide +kernel), List.mem_of_getElem? (i := 950) (by decide +kernel), List.mem_of_getElem? (i := 951) (by decide +kernel)⟩
theorem lw_p39 : lw_okq (⟨"LinkPress$ImageMachine", "writeAndGoOn", "(II)I"⟩, 9) := ⟨⟨by decide +kernel, by decide +kernel⟩, List.mem_of_getElem? (i := 277) (by decide +kernel), List.mem_of_getElem? (i := 964) (by decide +kernel), List.mem_of_getElem? (i := 965) (by decide +kernel)⟩
theorem lw_p40 : lw_okq (⟨"LinkPress$ImageMachine", "write", "(II)V"⟩, 9) := ⟨⟨by decide +kernel, by decide +kernel⟩, List.mem_of_getElem? (i := 277) (by decide +kernel), List.mem_of_getElem? (i := 968) (by decide +kernel), List.mem_of_getElem? (i := 969) (by decide +kernel)⟩
theorem lw_p41 : lw_okq (⟨"LinkPress$ImageMachine", "goOn", "()I"⟩, 9) := ⟨⟨by decide +kernel, by decide +kernel⟩, List.mem_of_getElem? (i := 277) (by decide +kernel), List.mem_of_getElem? (i := 974) (by decide +kernel), List.mem_of_getElem? (i := 975) (by decide +kernel)⟩
theorem lw_p42 : lw_okq (⟨"LinkPress$ImageMachine", "goTo", "(I)I"⟩, 9) := ⟨⟨by decide +kernel, by decide +kernel⟩, List.mem_of_getElem? (i := 277) (by decide +kernel), List.mem_of_getElem? (i := 978) (by decide +kernel), List.mem_of_getElem? (i := 979) (by decide +kernel)⟩
theorem lw_p43 : lw_okq (⟨"LinkPress$ImageMachine", "calculateByImmediate", "(I)I"⟩, 9) := ⟨⟨by decide +kernel, by decide +kernel⟩, List.mem_of_getElem? (i := 277) (by decide +kernel), List.mem_of_getElem? (i := 982) (by decide +kernel), List.mem_of_getElem? (i := 983) (by decide +kernel)⟩
theorem lw_p44 : lw_okq (⟨"LinkPress$ImageMachine", "load", "(I)I"⟩, 9) := ⟨⟨by decide +kernel, by decide +kernel⟩, List.mem_of_getElem? (i := 277) (by decide +kernel), List.mem_of_getElem? (i := 989) (by decide +kernel), List.mem_of_getElem? (i := 990) (by decide +kernel)⟩
theorem lw_p45 : lw_okq (⟨"LinkPress$ImageMachine", "store", "(I)I"⟩, 9) := ⟨⟨by decide +kernel, by decide +kernel⟩, List.mem_of_getElem? (i := 277) (by decide +kernel), List.mem_of_getElem? (i := 1003) (by decide +kernel), List.mem_of_getElem? (i := 1004) (by decide +kernel)⟩
theorem lw_p46 : lw_okq (⟨"LinkPress$ImageMachine", "branch", "(I)I"⟩, 9) := ⟨⟨by decide +kernel, by decide +kernel⟩, List.mem_of_getElem? (i := 277) (by decide +kernel), List.mem_of_getElem? (i := 1010) (by decide +kernel), List.mem_of_getElem? (i := 1011) (by decide +kernel)⟩
theorem lw_p47 : lw_okq (⟨"LinkPress$ImageMachine", "jump", "(II)I"⟩, 9) := ⟨⟨by decide +kernel, by decide +kernel⟩, List.mem_of_getElem? (i := 277) (by decide +kernel), List.mem_of_getElem? (i := 1024) (by decide +kernel), List.mem_of_getElem? (i := 1025) (by decide +kernel)⟩
def lw_privs_3 : List (MethodName × Nat) := [(⟨"LinkPress$Linker", "writePlain", "(I)V"⟩, 4), (⟨"LinkPress$Linker", "writeRoutine", "(I)V"⟩, 4), (⟨"LinkPress", "machineOf", "(I)LLinkPress$Machine;"⟩, 8), (⟨"LinkPress$ToldMachine", "write", "(III)V"⟩, 12), (⟨"LinkPress$ImageMachine", "calculateByRegisters", "(I)I"⟩, 9), (⟨"LinkPress$ImageMachine", "firstIn", "(I)I"⟩, 9), (⟨"LinkPress$ImageMachine", "secondIn", "(I)I"⟩, 9), (⟨"LinkPress$ImageMachine", "writeAndGoOn", "(II)I"⟩, 9), (⟨"LinkPress$ImageMachine", "write", "(II)V"⟩, 9), (⟨"LinkPress$ImageMachine", "goOn", "()I"⟩, 9), (⟨"LinkPress$ImageMachine", "goTo", "(I)I"⟩, 9), (⟨"LinkPress$ImageMachine", "calculateByImmediate", "(I)I"⟩, 9), (⟨"LinkPress$ImageMachine", "load", "(I)I"⟩, 9), (⟨"LinkPress$ImageMachine", "store", "(I)I"⟩, 9), (⟨"LinkPress$ImageMachine", "branch", "(I)I"⟩, 9), (⟨"LinkPress$ImageMachine", "jump", "(II)I"⟩, 9)]
theorem lw_r3 : ∀ q ∈ lw_privs_3, lw_okq q := List.forall_mem_cons.mpr ⟨lw_p32, List.forall_mem_cons.mpr ⟨lw_p33, List.forall_mem_cons.mpr ⟨lw_p34, List.forall_mem_cons.mpr ⟨lw_p35, List.forall_mem_cons.mpr ⟨lw_p36, List.forall_mem_cons.mpr ⟨lw_p37, List.forall_mem_cons.mpr ⟨lw_p38, List.forall_mem_cons.mpr ⟨lw_p39, List.forall_mem_cons.mpr ⟨lw_p40, List.forall_mem_cons.mpr ⟨lw_p41, List.forall_mem_cons.mpr ⟨lw_p42, List.forall_mem_cons.mpr ⟨lw_p43, List.forall_mem_cons.mpr ⟨lw_p44, List.forall_mem_cons.mpr ⟨lw_p45, List.forall_mem_cons.mpr ⟨lw_p46, List.forall_mem_cons.mpr ⟨lw_p47, fun _ h => absurd h List.not_mem_nil⟩⟩⟩⟩⟩⟩⟩⟩⟩⟩⟩⟩⟩⟩⟩⟩
theorem lw_p48 : lw_okq (⟨"LinkPress$ToldMachine", "calculate", "(II)I"⟩, 12) := ⟨⟨by decide +kernel, by decide +kernel⟩, List.mem_of_getElem? (i := 231) (by decide +kernel), List.mem_of_getElem? (i := 1040) (by decide +kernel), List.mem_of_getElem? (i := 1041) (by decide +kernel)⟩
theorem lw_p49 : lw_okq (⟨"LinkPress$ToldMachine", "sortIn", "(I)I"⟩, 12) := ⟨⟨by decide +kernel, by decide +kernel⟩, List.mem_of_getElem? (i := 231) (by decide +kernel), List.mem_of_getElem? (i := 1046) (by decide +kernel), List.mem_of_getElem? (i := 1047) (by decide +kernel)⟩
theorem lw_p50 : lw_okq (⟨"LinkPress$ToldMachine", "valueIn", "(I)I"⟩, 12) := ⟨⟨by decide +kernel, by decide +kernel⟩, List.mem_of_getElem? (i := 231) (by decide +kernel), List.mem_of_getElem? (i := 1050) (by decide +kernel), List.mem_of_getElem? (i := 1051) (by decide +kernel)⟩
theorem lw_p51 : lw_okq (⟨"LinkPress$ToldMachine", "writeAndGoOn", "(III)I"⟩, 12) := ⟨⟨by decide +kernel, by decide +kernel⟩, List.mem_of_getElem? (i := 231) (by decide +kernel), List.mem_of_getElem? (i := 1054) (by decide +kernel), List.mem_of_getElem? (i := 1055) (by decide +kernel)⟩
theorem lw_p52 : lw_okq (⟨"LinkPress$ToldMachine", "goOn", "()I"⟩, 12) := ⟨⟨by decide +kernel, by decide +kernel⟩, List.mem_of_getElem? (i := 231) (by decide +kernel), List.mem_of_getElem? (i := 1058) (by decide +kernel), List.mem_of_getElem? (i := 1059) (by decide +kernel)⟩
theorem lw_p53 : lw_okq (⟨"LinkPress$ToldMachine", "isNumber", "(I)Z"⟩, 12) := ⟨⟨by decide +kernel, by decide +kernel⟩, List.mem_of_getElem? (i := 231) (by decide +kernel), List.mem_of_getElem? (i := 1062) (by decide +kernel), List.mem_of_getElem? (i := 1063) (by decide +kernel)⟩
theorem lw_p54 : lw_okq (⟨"LinkPress$ToldMachine", "branch", "(II)I"⟩, 12) := ⟨⟨by decide +kernel, by decide +kernel⟩, List.mem_of_getElem? (i := 231) (by decide +kernel), List.mem_of_getElem? (i := 1070) (by decide +kernel), List.mem_of_getElem? (i := 1071) (by decide +kernel)⟩
theorem lw_p55 : lw_okq (⟨"LinkPress$ToldMachine", "goTo", "(II)I"⟩, 12) := ⟨⟨by decide +kernel, by decide +kernel⟩, List.mem_of_getElem? (i := 231) (by decide +kernel), List.mem_of_getElem? (i := 1075) (by decide +kernel), List.mem_of_getElem? (i := 1076) (by decide +kernel)⟩
theorem lw_p56 : lw_okq (⟨"LinkPress$ToldMachine", "load", "(I)I"⟩, 12) := ⟨⟨by decide +kernel, by decide +kernel⟩, List.mem_of_getElem? (i := 231) (by decide +kernel), List.mem_of_getElem? (i := 1079) (by decide +kernel), List.mem_of_getElem? (i := 1080) (by decide +kernel)⟩
theorem lw_p57 : lw_okq (⟨"LinkPress$ToldMachine", "memoryIndexOf", "(I)I"⟩, 12) := ⟨⟨by decide +kernel, by decide +kernel⟩, List.mem_of_getElem? (i := 231) (by decide +kernel), List.mem_of_getElem? (i := 1083) (by decide +kernel), List.mem_of_getElem? (i := 1084) (by decide +kernel)⟩
theorem lw_p58 : lw_okq (⟨"LinkPress$ToldMachine", "store", "(I)I"⟩, 12) := ⟨⟨by decide +kernel, by decide +kernel⟩, List.mem_of_getElem? (i := 231) (by decide +kernel), List.mem_of_getElem? (i := 1091) (by decide +kernel), List.mem_of_getElem? (i := 1092) (by decide +kernel)⟩
theorem lw_p59 : lw_okq (⟨"LinkPress$ToldMachine", "callFunction", "(I)I"⟩, 12) := ⟨⟨by decide +kernel, by decide +kernel⟩, List.mem_of_getElem? (i := 231) (by decide +kernel), List.mem_of_getElem? (i := 1095) (by decide +kernel), List.mem_of_getElem? (i := 1096) (by decide +kernel)⟩
theorem lw_p60 : lw_okq (⟨"LinkPress$ToldMachine", "goBack", "()I"⟩, 12) := ⟨⟨by decide +kernel, by decide +kernel⟩, List.mem_of_getElem? (i := 231) (by decide +kernel), List.mem_of_getElem? (i := 1099) (by decide +kernel), List.mem_of_getElem? (i := 1100) (by decide +kernel)⟩
theorem lw_p61 : lw_okq (⟨"LinkPress$ToldMachine", "print", "()I"⟩, 12) := ⟨⟨by decide +kernel, by decide +kernel⟩, List.mem_of_getElem? (i := 231) (by decide +kernel), List.mem_of_getElem? (i := 1103) (by decide +kernel), List.mem_of_getElem? (i := 1104) (by decide +kernel)⟩
theorem lw_p62 : lw_okq (⟨"LinkPressModel", "parts", "()I"⟩, 41) := ⟨⟨by decide +kernel, by decide +kernel⟩, List.mem_of_getElem? (i := 1216) (by decide +kernel), List.mem_of_getElem? (i := 1372) (by decide +kernel), List.mem_of_getElem? (i := 1373) (by decide +kernel)⟩
theorem lw_p63 : lw_okq (⟨"LinkPressModel", "isLike", "(II)Z"⟩, 41) := ⟨⟨by decide +kernel, by decide +kernel⟩, List.mem_of_getElem? (i := 1216) (by decide +kernel), List.mem_of_getElem? (i := 1376) (by decide +kernel), List.mem_of_getElem? (i := 1377) (by decide +kernel)⟩
def lw_privs_4 : List (MethodName × Nat) := [(⟨"LinkPress$ToldMachine", "calculate", "(II)I"⟩, 12), (⟨"LinkPress$ToldMachine", "sortIn", "(I)I"⟩, 12), (⟨"LinkPress$ToldMachine", "valueIn", "(I)I"⟩, 12), (⟨"LinkPress$ToldMachine", "writeAndGoOn", "(III)I"⟩, 12), (⟨"LinkPress$ToldMachine", "goOn", "()I"⟩, 12), (⟨"LinkPress$ToldMachine", "isNumber", "(I)Z"⟩, 12), (⟨"LinkPress$ToldMachine", "branch", "(II)I"⟩, 12), (⟨"LinkPress$ToldMachine", "goTo", "(II)I"⟩, 12), (⟨"LinkPress$ToldMachine", "load", "(I)I"⟩, 12), (⟨"LinkPress$ToldMachine", "memoryIndexOf", "(I)I"⟩, 12), (⟨"LinkPress$ToldMachine", "store", "(I)I"⟩, 12), (⟨"LinkPress$ToldMachine", "callFunction", "(I)I"⟩, 12), (⟨"LinkPress$ToldMachine", "goBack", "()I"⟩, 12), (⟨"LinkPress$ToldMachine", "print", "()I"⟩, 12), (⟨"LinkPressModel", "parts", "()I"⟩, 41), (⟨"LinkPressModel", "isLike", "(II)Z"⟩, 41)]
theorem lw_r4 : ∀ q ∈ lw_privs_4, lw_okq q := List.forall_mem_cons.mpr ⟨lw_p48, List.forall_mem_cons.mpr ⟨lw_p49, List.forall_mem_cons.mpr ⟨lw_p50, List.forall_mem_cons.mpr ⟨lw_p51, List.forall_mem_cons.mpr ⟨lw_p52, List.forall_mem_cons.mpr ⟨lw_p53, List.forall_mem_cons.mpr ⟨lw_p54, List.forall_mem_cons.mpr ⟨lw_p55, List.forall_mem_cons.mpr ⟨lw_p56, List.forall_mem_cons.mpr ⟨lw_p57, List.forall_mem_cons.mpr ⟨lw_p58, List.forall_mem_cons.mpr ⟨lw_p59, List.forall_mem_cons.mpr ⟨lw_p60, List.forall_mem_cons.mpr ⟨lw_p61, List.forall_mem_cons.mpr ⟨lw_p62, List.forall_mem_cons.mpr ⟨lw_p63, fun _ h => absurd h List.not_mem_nil⟩⟩⟩⟩⟩⟩⟩⟩⟩⟩⟩⟩⟩⟩⟩⟩
theorem lw_p64 : lw_okq (⟨"LinkPressModel", "counts", "(I)I"⟩, 41) := ⟨⟨by decide +kernel, by decide +kernel⟩, List.mem_of_getElem? (i := 1216) (by decide +kernel), List.mem_of_getElem? (i := 1383) (by decide +kernel), List.mem_of_getElem? (i := 1384) (by decide +kernel)⟩
theorem lw_p65 : lw_okq (⟨"LinkPressModel", "isSame", "(II)Z"⟩, 41) := ⟨⟨by decide +kernel, by decide +kernel⟩, List.mem_of_getElem? (i := 1216) (by decide +kernel), List.mem_of_getElem? (i := 1387) (by decide +kernel), List.mem_of_getElem? (i := 1388) (by decide +kernel)⟩
theorem lw_p66 : lw_okq (⟨"LinkPressModel", "isTaken", "(I)Z"⟩, 41) := ⟨⟨by decide +kernel, by decide +kernel⟩, List.mem_of_getElem? (i := 1216) (by decide +kernel), List.mem_of_getElem? (i := 1400) (by decide +kernel), List.mem_of_getElem? (i := 1401) (by decide +kernel)⟩
theorem lw_p67 : lw_okq (⟨"LinkPressModel", "leastOf", "(IZ)I"⟩, 41) := ⟨⟨by decide +kernel, by decide +kernel⟩, List.mem_of_getElem? (i := 1216) (by decide +kernel), List.mem_of_getElem? (i := 1404) (by decide +kernel), List.mem_of_getElem? (i := 1405) (by decide +kernel)⟩
theorem lw_p68 : lw_okq (⟨"LinkPressModel", "refusal", "()I"⟩, 41) := ⟨⟨by decide +kernel, by decide +kernel⟩, List.mem_of_getElem? (i := 1216) (by decide +kernel), List.mem_of_getElem? (i := 1412) (by decide +kernel), List.mem_of_getElem? (i := 1413) (by decide +kernel)⟩
theorem lw_p69 : lw_okq (⟨"LinkPressModel", "findRoutine", "()Z"⟩, 41) := ⟨⟨by decide +kernel, by decide +kernel⟩, List.mem_of_getElem? (i := 1216) (by decide +kernel), List.mem_of_getElem? (i := 1419) (by decide +kernel), List.mem_of_getElem? (i := 1420) (by decide +kernel)⟩
theorem lw_p70 : lw_okq (⟨"LinkPressModel", "isBody", "(I)Z"⟩, 41) := ⟨⟨by decide +kernel, by decide +kernel⟩, List.mem_of_getElem? (i := 1216) (by decide +kernel), List.mem_of_getElem? (i := 1423) (by decide +kernel), List.mem_of_getElem? (i := 1424) (by decide +kernel)⟩
theorem lw_p71 : lw_okq (⟨"LinkPressModel", "namesOne", "(I)Z"⟩, 41) := ⟨⟨by decide +kernel, by decide +kernel⟩, List.mem_of_getElem? (i := 1216) (by decide +kernel), List.mem_of_getElem? (i := 1427) (by decide +kernel), List.mem_of_getElem? (i := 1428) (by decide +kernel)⟩
theorem lw_p72 : lw_okq (⟨"LinkPressModel", "isTarget", "(II)Z"⟩, 41) := ⟨⟨by decide +kernel, by decide +kernel⟩, List.mem_of_getElem? (i := 1216) (by decide +kernel), List.mem_of_getElem? (i := 1431) (by decide +kernel), List.mem_of_getElem? (i := 1432) (by decide +kernel)⟩
theorem lw_p73 : lw_okq (⟨"LinkPressModel", "isFit", "(III)Z"⟩, 41) := ⟨⟨by decide +kernel, by decide +kernel⟩, List.mem_of_getElem? (i := 1216) (by decide +kernel), List.mem_of_getElem? (i := 1435) (by decide +kernel), List.mem_of_getElem? (i := 1436) (by decide +kernel)⟩
theorem lw_p74 : lw_okq (⟨"LinkPressModel", "occurrences", "(II)I"⟩, 41) := ⟨⟨by decide +kernel, by decide +kernel⟩, List.mem_of_getElem? (i := 1216) (by decide +kernel), List.mem_of_getElem? (i := 1439) (by decide +kernel), List.mem_of_getElem? (i := 1440) (by decide +kernel)⟩
theorem lw_p75 : lw_okq (⟨"LinkPressModel", "layOut", "()V"⟩, 41) := ⟨⟨by decide +kernel, by decide +kernel⟩, List.mem_of_getElem? (i := 1216) (by decide +kernel), List.mem_of_getElem? (i := 1443) (by decide +kernel), List.mem_of_getElem? (i := 1444) (by decide +kernel)⟩
theorem lw_p76 : lw_okq (⟨"LinkPressModel", "wordsOf", "(I)I"⟩, 41) := ⟨⟨by decide +kernel, by decide +kernel⟩, List.mem_of_getElem? (i := 1216) (by decide +kernel), List.mem_of_getElem? (i := 1447) (by decide +kernel), List.mem_of_getElem? (i := 1448) (by decide +kernel)⟩
theorem lw_p77 : lw_okq (⟨"LinkPressModel", "write", "()V"⟩, 41) := ⟨⟨by decide +kernel, by decide +kernel⟩, List.mem_of_getElem? (i := 1216) (by decide +kernel), List.mem_of_getElem? (i := 1451) (by decide +kernel), List.mem_of_getElem? (i := 1452) (by decide +kernel)⟩
theorem lw_p78 : lw_okq (⟨"LinkPressModel", "say", "(II)I"⟩, 41) := ⟨⟨by decide +kernel, by decide +kernel⟩, List.mem_of_getElem? (i := 1216) (by decide +kernel), List.mem_of_getElem? (i := 1459) (by decide +kernel), List.mem_of_getElem? (i := 1460) (by decide +kernel)⟩
theorem lw_p79 : lw_okq (⟨"LinkPressModel", "coded", "(III)I"⟩, 41) := ⟨⟨by decide +kernel, by decide +kernel⟩, List.mem_of_getElem? (i := 1216) (by decide +kernel), List.mem_of_getElem? (i := 1463) (by decide +kernel), List.mem_of_getElem? (i := 1464) (by decide +kernel)⟩
def lw_privs_5 : List (MethodName × Nat) := [(⟨"LinkPressModel", "counts", "(I)I"⟩, 41), (⟨"LinkPressModel", "isSame", "(II)Z"⟩, 41), (⟨"LinkPressModel", "isTaken", "(I)Z"⟩, 41), (⟨"LinkPressModel", "leastOf", "(IZ)I"⟩, 41), (⟨"LinkPressModel", "refusal", "()I"⟩, 41), (⟨"LinkPressModel", "findRoutine", "()Z"⟩, 41), (⟨"LinkPressModel", "isBody", "(I)Z"⟩, 41), (⟨"LinkPressModel", "namesOne", "(I)Z"⟩, 41), (⟨"LinkPressModel", "isTarget", "(II)Z"⟩, 41), (⟨"LinkPressModel", "isFit", "(III)Z"⟩, 41), (⟨"LinkPressModel", "occurrences", "(II)I"⟩, 41), (⟨"LinkPressModel", "layOut", "()V"⟩, 41), (⟨"LinkPressModel", "wordsOf", "(I)I"⟩, 41), (⟨"LinkPressModel", "write", "()V"⟩, 41), (⟨"LinkPressModel", "say", "(II)I"⟩, 41), (⟨"LinkPressModel", "coded", "(III)I"⟩, 41)]
theorem lw_r5 : ∀ q ∈ lw_privs_5, lw_okq q := List.forall_mem_cons.mpr ⟨lw_p64, List.forall_mem_cons.mpr ⟨lw_p65, List.forall_mem_cons.mpr ⟨lw_p66, List.forall_mem_cons.mpr ⟨lw_p67, List.forall_mem_cons.mpr ⟨lw_p68, List.forall_mem_cons.mpr ⟨lw_p69, List.forall_mem_cons.mpr ⟨lw_p70, List.forall_mem_cons.mpr ⟨lw_p71, List.forall_mem_cons.mpr ⟨lw_p72, List.forall_mem_cons.mpr ⟨lw_p73, List.forall_mem_cons.mpr ⟨lw_p74, List.forall_mem_cons.mpr ⟨lw_p75, List.forall_mem_cons.mpr ⟨lw_p76, List.forall_mem_cons.mpr ⟨lw_p77, List.forall_mem_cons.mpr ⟨lw_p78, List.forall_mem_cons.mpr ⟨lw_p79, fun _ h => absurd h List.not_mem_nil⟩⟩⟩⟩⟩⟩⟩⟩⟩⟩⟩⟩⟩⟩⟩⟩
theorem lw_p80 : lw_okq (⟨"LinkPressModel", "hasRoutine", "(I)Z"⟩, 41) := ⟨⟨by decide +kernel, by decide +kernel⟩, List.mem_of_getElem? (i := 1216) (by decide +kernel), List.mem_of_getElem? (i := 1484) (by decide +kernel), List.mem_of_getElem? (i := 1485) (by decide +kernel)⟩
theorem lw_p81 : lw_okq (⟨"LinkPressModel", "begin", "(I)V"⟩, 41) := ⟨⟨by decide +kernel, by decide +kernel⟩, List.mem_of_getElem? (i := 1216) (by decide +kernel), List.mem_of_getElem? (i := 1500) (by decide +kernel), List.mem_of_getElem? (i := 1501) (by decide +kernel)⟩
theorem lw_p82 : lw_okq (⟨"LinkPressModel", "runTold", "(I)I"⟩, 41) := ⟨⟨by decide +kernel, by decide +kernel⟩, List.mem_of_getElem? (i := 1216) (by decide +kernel), List.mem_of_getElem? (i := 1504) (by decide +kernel), List.mem_of_getElem? (i := 1505) (by decide +kernel)⟩
theorem lw_p83 : lw_okq (⟨"LinkPressModel", "does", "(I)Z"⟩, 41) := ⟨⟨by decide +kernel, by decide +kernel⟩, List.mem_of_getElem? (i := 1216) (by decide +kernel), List.mem_of_getElem? (i := 1508) (by decide +kernel), List.mem_of_getElem? (i := 1509) (by decide +kernel)⟩
theorem lw_p84 : lw_okq (⟨"LinkPressModel", "isNumber", "(I)Z"⟩, 41) := ⟨⟨by decide +kernel, by decide +kernel⟩, List.mem_of_getElem? (i := 1216) (by decide +kernel), List.mem_of_getElem? (i := 1512) (by decide +kernel), List.mem_of_getElem? (i := 1513) (by decide +kernel)⟩
theorem lw_p85 : lw_okq (⟨"LinkPressModel", "set", "(III)V"⟩, 41) := ⟨⟨by decide +kernel, by decide +kernel⟩, List.mem_of_getElem? (i := 1216) (by decide +kernel), List.mem_of_getElem? (i := 1523) (by decide +kernel), List.mem_of_getElem? (i := 1524) (by decide +kernel)⟩
theorem lw_p86 : lw_okq (⟨"LinkPressModel", "print", "(II)V"⟩, 41) := ⟨⟨by decide +kernel, by decide +kernel⟩, List.mem_of_getElem? (i := 1216) (by decide +kernel), List.mem_of_getElem? (i := 1535) (by decide +kernel), List.mem_of_getElem? (i := 1536) (by decide +kernel)⟩
theorem lw_p87 : lw_okq (⟨"LinkPressModel", "runImage", "(I)I"⟩, 41) := ⟨⟨by decide +kernel, by decide +kernel⟩, List.mem_of_getElem? (i := 1216) (by decide +kernel), List.mem_of_getElem? (i := 1539) (by decide +kernel), List.mem_of_getElem? (i := 1540) (by decide +kernel)⟩
theorem lw_p88 : lw_okq (⟨"LinkPressModel", "does", "(II)I"⟩, 41) := ⟨⟨by decide +kernel, by decide +kernel⟩, List.mem_of_getElem? (i := 1216) (by decide +kernel), List.mem_of_getElem? (i := 1543) (by decide +kernel), List.mem_of_getElem? (i := 1544) (by decide +kernel)⟩
theorem lw_p89 : lw_okq (⟨"LinkPressModel", "give", "(II)V"⟩, 41) := ⟨⟨by decide +kernel, by decide +kernel⟩, List.mem_of_getElem? (i := 1216) (by decide +kernel), List.mem_of_getElem? (i := 1550) (by decide +kernel), List.mem_of_getElem? (i := 1551) (by decide +kernel)⟩
theorem lw_p90 : lw_okq (⟨"LinkPressModel", "hasRun", "(I)Z"⟩, 41) := ⟨⟨by decide +kernel, by decide +kernel⟩, List.mem_of_getElem? (i := 1216) (by decide +kernel), List.mem_of_getElem? (i := 1558) (by decide +kernel), List.mem_of_getElem? (i := 1559) (by decide +kernel)⟩
def lw_privs_6 : List (MethodName × Nat) := [(⟨"LinkPressModel", "hasRoutine", "(I)Z"⟩, 41), (⟨"LinkPressModel", "begin", "(I)V"⟩, 41), (⟨"LinkPressModel", "runTold", "(I)I"⟩, 41), (⟨"LinkPressModel", "does", "(I)Z"⟩, 41), (⟨"LinkPressModel", "isNumber", "(I)Z"⟩, 41), (⟨"LinkPressModel", "set", "(III)V"⟩, 41), (⟨"LinkPressModel", "print", "(II)V"⟩, 41), (⟨"LinkPressModel", "runImage", "(I)I"⟩, 41), (⟨"LinkPressModel", "does", "(II)I"⟩, 41), (⟨"LinkPressModel", "give", "(II)V"⟩, 41), (⟨"LinkPressModel", "hasRun", "(I)Z"⟩, 41)]
theorem lw_r6 : ∀ q ∈ lw_privs_6, lw_okq q := List.forall_mem_cons.mpr ⟨lw_p80, List.forall_mem_cons.mpr ⟨lw_p81, List.forall_mem_cons.mpr ⟨lw_p82, List.forall_mem_cons.mpr ⟨lw_p83, List.forall_mem_cons.mpr ⟨lw_p84, List.forall_mem_cons.mpr ⟨lw_p85, List.forall_mem_cons.mpr ⟨lw_p86, List.forall_mem_cons.mpr ⟨lw_p87, List.forall_mem_cons.mpr ⟨lw_p88, List.forall_mem_cons.mpr ⟨lw_p89, List.forall_mem_cons.mpr ⟨lw_p90, fun _ h => absurd h List.not_mem_nil⟩⟩⟩⟩⟩⟩⟩⟩⟩⟩⟩
def lw_privs : List (MethodName × Nat) := lw_privs_1 ++ (lw_privs_2 ++ (lw_privs_3 ++ (lw_privs_4 ++ (lw_privs_5 ++ (lw_privs_6)))))
def lw_tbl : List Cond := k2_sels lw_privs ++ tables_1
theorem lw_privs_ok : ∀ q ∈ lw_privs, lw_okq q := by
  show ∀ q ∈ lw_privs_1 ++ (lw_privs_2 ++ (lw_privs_3 ++ (lw_privs_4 ++ (lw_privs_5 ++ (lw_privs_6))))), lw_okq q
  exact List.forall_mem_append.mpr ⟨lw_r1, List.forall_mem_append.mpr ⟨lw_r2, List.forall_mem_append.mpr ⟨lw_r3, List.forall_mem_append.mpr ⟨lw_r4, List.forall_mem_append.mpr ⟨lw_r5, lw_r6⟩⟩⟩⟩⟩
end
section
/-! ===== BEGIN words of one list among another's, by their places ===== -/
theorem goodIn_r {big : List Cond} (ws : List Cond) (ps : List Nat) (hp : ws = ps.filterMap (fun i => big[i]?)) (h : ws.all goodWord = true) : GoodIn big ws := by
  intro w hw
  have h1 := List.all_eq_true.mp h w hw
  rw [hp] at hw
  obtain ⟨i, -, hi⟩ := List.mem_filterMap.mp hw
  have hm : w ∈ big := by first | exact List.mem_of_getElem? hi | exact List.getElem?_mem hi
  exact ⟨hm, good_of_word h1⟩
theorem goodIn_app {big a b : List Cond} (ha : GoodIn big a) (hb : GoodIn big b) : GoodIn big (a ++ b) := fun w h => (List.mem_append.mp h).elim (ha w) (hb w)
theorem goodIn_ca {big a b : List Cond} {c : Cond} (ha : GoodIn big (c :: a)) (hb : GoodIn big b) : GoodIn big (c :: (a ++ b)) := fun w h => (List.mem_cons.mp h).elim (fun e => ha w (List.mem_cons.mpr (Or.inl e))) (fun h => (List.mem_append.mp h).elim (fun h => ha w (List.mem_cons.mpr (Or.inr h))) (hb w))
theorem goodIn_sub {big ws : List Cond} (hm : ∀ w ∈ ws, w ∈ big) (h : ws.all goodWord = true) : GoodIn big ws := fun w hw => ⟨hm w hw, good_of_word (List.all_eq_true.mp h w hw)⟩
/-! ===== END ===== -/

theorem vr_outer (c : ClassId) (N h0 : Nat) : ∀ i : Nat, Jvm.Free.Multi.outerC c N h0 i = arrV c N (fun j => va_rf (if j < i then some (h0 + 1 + j) else none))
  | 0 => by
    show ({ cls := c, slots := Array.replicate N .null, vm := .none } : Cell) = _
    rw [arrV_new]
    refine congrArg (arrV c N) (funext fun j => ?_)
    simp [va_rf]
  | i + 1 => by
    show (Jvm.Free.Multi.outerC c N h0 i).setSlot i (.ref (h0 + 1 + i)) = _
    rw [vr_outer c N h0 i, arrV_store]
    refine congrArg (arrV c N) (funext fun j => ?_)
    by_cases e : j = i
    · subst e
      simp [updV, va_rf]
    · by_cases h : j < i
      · simp [updV, e, h, Nat.lt_succ_of_lt h]
      · simp [updV, e, h, show ¬ j < i + 1 by omega]
def RX0 : String := "LinkPress$Folding"
def TX0 : u_T := fun k => match k with
  | 0 => ("LinkPress$Folding", "program", "LLinkPress$Program;", true)
  | 1 => ("LinkPress$Folding", "taken", "[Z", true)
  | 2 => ("LinkPress$Folding", "least", "[I", true)
  | 3 => ("LinkPress$Folding", "finer", "[I", true)
  | 4 => ("LinkPress$Folding", "classes", "I", false)
  | _ => ("LinkPress$Folding", "seenChanges", "I", false)
def tyX0 : Nat → FieldType := fun k => match k with
  | 0 => .object "LinkPress$Program"
  | 1 => .array .boolean
  | 2 => .array .int
  | 3 => .array .int
  | 4 => .int
  | _ => .int
abbrev wsX00 : List Cond := u_ws RX0 TX0 6
theorem nmX0 : ∀ a, a < 6 → ∀ b, b < 6 → a ≠ b → (TX0 a).2.1 ≠ (TX0 b).2.1 := by decide +kernel
theorem tyX0_ok : ∀ k, k < 6 → parseFieldDescriptor (TX0 k).2.2.1 = some (tyX0 k) := by decide +kernel
abbrev cX0_init : ByteArray := prog_2_method_1_code
def yX0_init : MethodName := ⟨RX0, "<init>", "(LLinkPress$Program;)V"⟩
abbrev cX0_refresh : ByteArray := prog_2_method_2_code
def yX0_refresh : MethodName := ⟨RX0, "refresh", "()V"⟩
abbrev cX0_isTaken : ByteArray := prog_2_method_3_code
def yX0_isTaken : MethodName := ⟨RX0, "isTaken", "(I)Z"⟩
abbrev cX0_leastOf : ByteArray := prog_2_method_4_code
def yX0_leastOf : MethodName := ⟨RX0, "leastOf", "(I)I"⟩
abbrev cX0_classes : ByteArray := prog_2_method_5_code
def yX0_classes : MethodName := ⟨RX0, "classes", "()I"⟩
abbrev cX0_bodyOf : ByteArray := prog_2_method_6_code
def yX0_bodyOf : MethodName := ⟨RX0, "bodyOf", "(I)I"⟩
abbrev cX0_markTaken : ByteArray := prog_2_method_7_code
def yX0_markTaken : MethodName := ⟨RX0, "markTaken", "()V"⟩
abbrev cX0_standAllTogether : ByteArray := prog_2_method_8_code
def yX0_standAllTogether : MethodName := ⟨RX0, "standAllTogether", "()V"⟩
abbrev cX0_partOnce : ByteArray := prog_2_method_9_code
def yX0_partOnce : MethodName := ⟨RX0, "partOnce", "()V"⟩
abbrev cX0_finerLeastOf : ByteArray := prog_2_method_10_code
def yX0_finerLeastOf : MethodName := ⟨RX0, "finerLeastOf", "(I)I"⟩
abbrev cX0_areAlike : ByteArray := prog_2_method_11_code
def yX0_areAlike : MethodName := ⟨RX0, "areAlike", "(II)Z"⟩
abbrev cX0_areAlikeSpots : ByteArray := prog_2_method_12_code
def yX0_areAlikeSpots : MethodName := ⟨RX0, "areAlikeSpots", "(II)Z"⟩
abbrev cX0_standTogether : ByteArray := prog_2_method_13_code
def yX0_standTogether : MethodName := ⟨RX0, "standTogether", "(II)Z"⟩
def RX1 : String := "LinkPress$Image"
def TX1 : u_T := fun k => match k with
  | 0 => ("LinkPress$Image", "words", "[I", true)
  | 1 => ("LinkPress$Image", "bodyOf", "[I", true)
  | 2 => ("LinkPress$Image", "firstWord", "[I", true)
  | 3 => ("LinkPress$Image", "size", "I", false)
  | _ => ("LinkPress$Image", "functions", "I", false)
def tyX1 : Nat → FieldType := fun k => match k with
  | 0 => .array .int
  | 1 => .array .int
  | 2 => .array .int
  | 3 => .int
  | _ => .int
abbrev wsX10 : List Cond := u_ws RX1 TX1 5
theorem nmX1 : ∀ a, a < 5 → ∀ b, b < 5 → a ≠ b → (TX1 a).2.1 ≠ (TX1 b).2.1 := by decide +kernel
theorem tyX1_ok : ∀ k, k < 5 → parseFieldDescriptor (TX1 k).2.2.1 = some (tyX1 k) := by decide +kernel
abbrev cX1_init : ByteArray := prog_3_method_1_code
def yX1_init : MethodName := ⟨RX1, "<init>", "()V"⟩
abbrev cX1_drop : ByteArray := prog_3_method_2_code
def yX1_drop : MethodName := ⟨RX1, "drop", "()V"⟩
abbrev cX1_begin : ByteArray := prog_3_method_3_code
def yX1_begin : MethodName := ⟨RX1, "begin", "(I)V"⟩
abbrev cX1_size : ByteArray := prog_3_method_4_code
def yX1_size : MethodName := ⟨RX1, "size", "()I"⟩
abbrev cX1_hasFunction : ByteArray := prog_3_method_5_code
def yX1_hasFunction : MethodName := ⟨RX1, "hasFunction", "(I)Z"⟩
abbrev cX1_setBody : ByteArray := prog_3_method_6_code
def yX1_setBody : MethodName := ⟨RX1, "setBody", "(II)V"⟩
abbrev cX1_setFirstWord : ByteArray := prog_3_method_7_code
def yX1_setFirstWord : MethodName := ⟨RX1, "setFirstWord", "(II)V"⟩
abbrev cX1_bodyOf : ByteArray := prog_3_method_8_code
def yX1_bodyOf : MethodName := ⟨RX1, "bodyOf", "(I)I"⟩
abbrev cX1_isBody : ByteArray := prog_3_method_9_code
def yX1_isBody : MethodName := ⟨RX1, "isBody", "(I)Z"⟩
abbrev cX1_bodies : ByteArray := prog_3_method_10_code
def yX1_bodies : MethodName := ⟨RX1, "bodies", "()I"⟩
abbrev cX1_firstWordOf : ByteArray := prog_3_method_11_code
def yX1_firstWordOf : MethodName := ⟨RX1, "firstWordOf", "(I)I"⟩
abbrev cX1_addressOf : ByteArray := prog_3_method_12_code
def yX1_addressOf : MethodName := ⟨RX1, "addressOf", "(I)I"⟩
abbrev cX1_address : ByteArray := prog_3_method_13_code
def yX1_address : MethodName := ⟨RX1, "address", "(I)I"⟩
abbrev cX1_indexAt : ByteArray := prog_3_method_14_code
def yX1_indexAt : MethodName := ⟨RX1, "indexAt", "(I)I"⟩
abbrev cX1_wordAt : ByteArray := prog_3_method_15_code
def yX1_wordAt : MethodName := ⟨RX1, "wordAt", "(I)I"⟩
abbrev cX1_append : ByteArray := prog_3_method_16_code
def yX1_append : MethodName := ⟨RX1, "append", "(I)V"⟩
def RX2 : String := "LinkPress$ImageMachine"
def TX2 : u_T := fun k => match k with
  | 0 => ("LinkPress$Machine", "kept", "[I", true)
  | 1 => ("LinkPress$Machine", "hasRun", "Z", false)
  | 2 => ("LinkPress$Machine", "outcome", "I", false)
  | 3 => ("LinkPress$Machine", "steps", "I", false)
  | 4 => ("LinkPress$Machine", "prints", "I", false)
  | 5 => ("LinkPress$ImageMachine", "image", "LLinkPress$Image;", true)
  | 6 => ("LinkPress$ImageMachine", "registers", "[I", true)
  | 7 => ("LinkPress$ImageMachine", "memoryWords", "[I", true)
  | _ => ("LinkPress$ImageMachine", "pc", "I", false)
def tyX2 : Nat → FieldType := fun k => match k with
  | 0 => .array .int
  | 1 => .boolean
  | 2 => .int
  | 3 => .int
  | 4 => .int
  | 5 => .object "LinkPress$Image"
  | 6 => .array .int
  | 7 => .array .int
  | _ => .int
abbrev wsX20 : List Cond := u_ws RX2 TX2 9
theorem nmX2 : ∀ a, a < 9 → ∀ b, b < 9 → a ≠ b → (TX2 a).2.1 ≠ (TX2 b).2.1 := by decide +kernel
theorem tyX2_ok : ∀ k, k < 9 → parseFieldDescriptor (TX2 k).2.2.1 = some (tyX2 k) := by decide +kernel
abbrev cX2_init : ByteArray := prog_4_method_1_code
def yX2_init : MethodName := ⟨RX2, "<init>", "(LLinkPress$Image;)V"⟩
abbrev cX2_isReady : ByteArray := prog_4_method_2_code
def yX2_isReady : MethodName := ⟨RX2, "isReady", "()Z"⟩
abbrev cX2_restart : ByteArray := prog_4_method_3_code
def yX2_restart : MethodName := ⟨RX2, "restart", "()V"⟩
abbrev cX2_where : ByteArray := prog_4_method_4_code
def yX2_where : MethodName := ⟨RX2, "where", "()I"⟩
abbrev cX2_whichPlace : ByteArray := prog_4_method_5_code
def yX2_whichPlace : MethodName := ⟨RX2, "whichPlace", "()I"⟩
abbrev cX2_registerAt : ByteArray := prog_4_method_6_code
def yX2_registerAt : MethodName := ⟨RX2, "registerAt", "(I)I"⟩
abbrev cX2_memoryAt : ByteArray := prog_4_method_7_code
def yX2_memoryAt : MethodName := ⟨RX2, "memoryAt", "(I)I"⟩
abbrev cX2_step : ByteArray := prog_4_method_8_code
def yX2_step : MethodName := ⟨RX2, "step", "()I"⟩
abbrev cX2_calculateByRegisters : ByteArray := prog_4_method_9_code
def yX2_calculateByRegisters : MethodName := ⟨RX2, "calculateByRegisters", "(I)I"⟩
abbrev cX2_calculateByImmediate : ByteArray := prog_4_method_10_code
def yX2_calculateByImmediate : MethodName := ⟨RX2, "calculateByImmediate", "(I)I"⟩
abbrev cX2_load : ByteArray := prog_4_method_11_code
def yX2_load : MethodName := ⟨RX2, "load", "(I)I"⟩
abbrev cX2_store : ByteArray := prog_4_method_12_code
def yX2_store : MethodName := ⟨RX2, "store", "(I)I"⟩
abbrev cX2_branch : ByteArray := prog_4_method_13_code
def yX2_branch : MethodName := ⟨RX2, "branch", "(I)I"⟩
abbrev cX2_jump : ByteArray := prog_4_method_14_code
def yX2_jump : MethodName := ⟨RX2, "jump", "(II)I"⟩
abbrev cX2_goTo : ByteArray := prog_4_method_15_code
def yX2_goTo : MethodName := ⟨RX2, "goTo", "(I)I"⟩
abbrev cX2_goOn : ByteArray := prog_4_method_16_code
def yX2_goOn : MethodName := ⟨RX2, "goOn", "()I"⟩
abbrev cX2_writeAndGoOn : ByteArray := prog_4_method_17_code
def yX2_writeAndGoOn : MethodName := ⟨RX2, "writeAndGoOn", "(II)I"⟩
abbrev cX2_write : ByteArray := prog_4_method_18_code
def yX2_write : MethodName := ⟨RX2, "write", "(II)V"⟩
abbrev cX2_firstIn : ByteArray := prog_4_method_19_code
def yX2_firstIn : MethodName := ⟨RX2, "firstIn", "(I)I"⟩
abbrev cX2_secondIn : ByteArray := prog_4_method_20_code
def yX2_secondIn : MethodName := ⟨RX2, "secondIn", "(I)I"⟩
def RX3 : String := "LinkPress$Linker"
def TX3 : u_T := fun k => match k with
  | 0 => ("LinkPress$Linker", "program", "LLinkPress$Program;", true)
  | 1 => ("LinkPress$Linker", "image", "LLinkPress$Image;", true)
  | 2 => ("LinkPress$Linker", "routines", "LLinkPress$Routines;", true)
  | _ => ("LinkPress$Linker", "wordOf", "[I", true)
def tyX3 : Nat → FieldType := fun k => match k with
  | 0 => .object "LinkPress$Program"
  | 1 => .object "LinkPress$Image"
  | 2 => .object "LinkPress$Routines"
  | _ => .array .int
abbrev wsX30 : List Cond := u_ws RX3 TX3 4
theorem nmX3 : ∀ a, a < 4 → ∀ b, b < 4 → a ≠ b → (TX3 a).2.1 ≠ (TX3 b).2.1 := by decide +kernel
theorem tyX3_ok : ∀ k, k < 4 → parseFieldDescriptor (TX3 k).2.2.1 = some (tyX3 k) := by decide +kernel
abbrev cX3_init : ByteArray := prog_5_method_1_code
def yX3_init : MethodName := ⟨RX3, "<init>", "(LLinkPress$Program;LLinkPress$Image;LLinkPress$Routines;)V"⟩
abbrev cX3_link : ByteArray := prog_5_method_2_code
def yX3_link : MethodName := ⟨RX3, "link", "()V"⟩
abbrev cX3_layOutBody : ByteArray := prog_5_method_3_code
def yX3_layOutBody : MethodName := ⟨RX3, "layOutBody", "(II)I"⟩
abbrev cX3_writeBody : ByteArray := prog_5_method_4_code
def yX3_writeBody : MethodName := ⟨RX3, "writeBody", "(I)V"⟩
abbrev cX3_writeRoutine : ByteArray := prog_5_method_5_code
def yX3_writeRoutine : MethodName := ⟨RX3, "writeRoutine", "(I)V"⟩
abbrev cX3_writeInstruction : ByteArray := prog_5_method_6_code
def yX3_writeInstruction : MethodName := ⟨RX3, "writeInstruction", "(II)V"⟩
abbrev cX3_writePlain : ByteArray := prog_5_method_7_code
def yX3_writePlain : MethodName := ⟨RX3, "writePlain", "(I)V"⟩
abbrev cX3_wordOfPlace : ByteArray := prog_5_method_8_code
def yX3_wordOfPlace : MethodName := ⟨RX3, "wordOfPlace", "(II)I"⟩
abbrev cX3_writeBranch : ByteArray := prog_5_method_9_code
def yX3_writeBranch : MethodName := ⟨RX3, "writeBranch", "(II)V"⟩
abbrev cX3_writeJump : ByteArray := prog_5_method_10_code
def yX3_writeJump : MethodName := ⟨RX3, "writeJump", "(II)V"⟩
abbrev cX3_writeAddress : ByteArray := prog_5_method_11_code
def yX3_writeAddress : MethodName := ⟨RX3, "writeAddress", "(II)V"⟩
def RX4 : String := "LinkPress$Machine"
def TX4 : u_T := fun k => match k with
  | _ => ("", "", "", false)
def tyX4 : Nat → FieldType := fun k => match k with
  | _ => .int
abbrev wsX40 : List Cond := u_ws RX4 TX4 0
theorem nmX4 : ∀ a, a < 0 → ∀ b, b < 0 → a ≠ b → (TX4 a).2.1 ≠ (TX4 b).2.1 := by decide +kernel
theorem tyX4_ok : ∀ k, k < 0 → parseFieldDescriptor (TX4 k).2.2.1 = some (tyX4 k) := by decide +kernel
abbrev cX4_init : ByteArray := prog_6_method_1_code
def yX4_init : MethodName := ⟨RX4, "<init>", "()V"⟩
abbrev cX4_drive : ByteArray := prog_6_method_9_code
def yX4_drive : MethodName := ⟨RX4, "drive", "(I)I"⟩
abbrev cX4_hasRun : ByteArray := prog_6_method_10_code
def yX4_hasRun : MethodName := ⟨RX4, "hasRun", "()Z"⟩
abbrev cX4_outcome : ByteArray := prog_6_method_11_code
def yX4_outcome : MethodName := ⟨RX4, "outcome", "()I"⟩
abbrev cX4_steps : ByteArray := prog_6_method_12_code
def yX4_steps : MethodName := ⟨RX4, "steps", "()I"⟩
abbrev cX4_prints : ByteArray := prog_6_method_13_code
def yX4_prints : MethodName := ⟨RX4, "prints", "()I"⟩
abbrev cX4_printAt : ByteArray := prog_6_method_14_code
def yX4_printAt : MethodName := ⟨RX4, "printAt", "(I)I"⟩
abbrev cX4_keepPrint : ByteArray := prog_6_method_15_code
def yX4_keepPrint : MethodName := ⟨RX4, "keepPrint", "(I)V"⟩
abbrev cX4_isRegister : ByteArray := prog_6_method_16_code
def yX4_isRegister : MethodName := ⟨RX4, "isRegister", "(I)Z"⟩
abbrev cX4_isMemoryWord : ByteArray := prog_6_method_17_code
def yX4_isMemoryWord : MethodName := ⟨RX4, "isMemoryWord", "(I)Z"⟩
abbrev cX4_memoryIndex : ByteArray := prog_6_method_18_code
def yX4_memoryIndex : MethodName := ⟨RX4, "memoryIndex", "(I)I"⟩
def RX5 : String := "LinkPress$Program"
def TX5 : u_T := fun k => match k with
  | 0 => ("LinkPress$Program", "numbers", "[I", true)
  | 1 => ("LinkPress$Program", "as", "[I", true)
  | 2 => ("LinkPress$Program", "bs", "[I", true)
  | 3 => ("LinkPress$Program", "cs", "[I", true)
  | 4 => ("LinkPress$Program", "starts", "[I", true)
  | 5 => ("LinkPress$Program", "functions", "I", false)
  | 6 => ("LinkPress$Program", "size", "I", false)
  | _ => ("LinkPress$Program", "changes", "I", false)
def tyX5 : Nat → FieldType := fun k => match k with
  | 0 => .array .int
  | 1 => .array .int
  | 2 => .array .int
  | 3 => .array .int
  | 4 => .array .int
  | 5 => .int
  | 6 => .int
  | _ => .int
abbrev wsX50 : List Cond := u_ws RX5 TX5 8
theorem nmX5 : ∀ a, a < 8 → ∀ b, b < 8 → a ≠ b → (TX5 a).2.1 ≠ (TX5 b).2.1 := by decide +kernel
theorem tyX5_ok : ∀ k, k < 8 → parseFieldDescriptor (TX5 k).2.2.1 = some (tyX5 k) := by decide +kernel
abbrev cX5_init : ByteArray := prog_7_method_1_code
def yX5_init : MethodName := ⟨RX5, "<init>", "()V"⟩
abbrev cX5_functions : ByteArray := prog_7_method_2_code
def yX5_functions : MethodName := ⟨RX5, "functions", "()I"⟩
abbrev cX5_size : ByteArray := prog_7_method_3_code
def yX5_size : MethodName := ⟨RX5, "size", "()I"⟩
abbrev cX5_changes : ByteArray := prog_7_method_4_code
def yX5_changes : MethodName := ⟨RX5, "changes", "()I"⟩
abbrev cX5_hasFunction : ByteArray := prog_7_method_5_code
def yX5_hasFunction : MethodName := ⟨RX5, "hasFunction", "(I)Z"⟩
abbrev cX5_hasSpot : ByteArray := prog_7_method_6_code
def yX5_hasSpot : MethodName := ⟨RX5, "hasSpot", "(I)Z"⟩
abbrev cX5_startOf : ByteArray := prog_7_method_7_code
def yX5_startOf : MethodName := ⟨RX5, "startOf", "(I)I"⟩
abbrev cX5_lengthOf : ByteArray := prog_7_method_8_code
def yX5_lengthOf : MethodName := ⟨RX5, "lengthOf", "(I)I"⟩
abbrev cX5_endOf : ByteArray := prog_7_method_9_code
def yX5_endOf : MethodName := ⟨RX5, "endOf", "(I)I"⟩
abbrev cX5_spotOf : ByteArray := prog_7_method_10_code
def yX5_spotOf : MethodName := ⟨RX5, "spotOf", "(II)I"⟩
abbrev cX5_functionAt : ByteArray := prog_7_method_11_code
def yX5_functionAt : MethodName := ⟨RX5, "functionAt", "(I)I"⟩
abbrev cX5_numberAt : ByteArray := prog_7_method_12_code
def yX5_numberAt : MethodName := ⟨RX5, "numberAt", "(I)I"⟩
abbrev cX5_aAt : ByteArray := prog_7_method_13_code
def yX5_aAt : MethodName := ⟨RX5, "aAt", "(I)I"⟩
abbrev cX5_bAt : ByteArray := prog_7_method_14_code
def yX5_bAt : MethodName := ⟨RX5, "bAt", "(I)I"⟩
abbrev cX5_cAt : ByteArray := prog_7_method_15_code
def yX5_cAt : MethodName := ⟨RX5, "cAt", "(I)I"⟩
abbrev cX5_placeTold : ByteArray := prog_7_method_16_code
def yX5_placeTold : MethodName := ⟨RX5, "placeTold", "(I)I"⟩
abbrev cX5_functionTold : ByteArray := prog_7_method_17_code
def yX5_functionTold : MethodName := ⟨RX5, "functionTold", "(I)I"⟩
abbrev cX5_isSame : ByteArray := prog_7_method_18_code
def yX5_isSame : MethodName := ⟨RX5, "isSame", "(II)Z"⟩
abbrev cX5_mixAt : ByteArray := prog_7_method_19_code
def yX5_mixAt : MethodName := ⟨RX5, "mixAt", "(I)I"⟩
abbrev cX5_namesReturnRegister : ByteArray := prog_7_method_20_code
def yX5_namesReturnRegister : MethodName := ⟨RX5, "namesReturnRegister", "(I)Z"⟩
abbrev cX5_addFunction : ByteArray := prog_7_method_21_code
def yX5_addFunction : MethodName := ⟨RX5, "addFunction", "()I"⟩
abbrev cX5_addInstruction : ByteArray := prog_7_method_22_code
def yX5_addInstruction : MethodName := ⟨RX5, "addInstruction", "(IIIII)I"⟩
abbrev cX5_hasRoomFor : ByteArray := prog_7_method_23_code
def yX5_hasRoomFor : MethodName := ⟨RX5, "hasRoomFor", "(I)Z"⟩
abbrev cX5_makeRoomAt : ByteArray := prog_7_method_24_code
def yX5_makeRoomAt : MethodName := ⟨RX5, "makeRoomAt", "(I)V"⟩
abbrev cX5_drop : ByteArray := prog_7_method_25_code
def yX5_drop : MethodName := ⟨RX5, "drop", "()I"⟩
abbrev cX5_refusal : ByteArray := prog_7_method_26_code
def yX5_refusal : MethodName := ⟨RX5, "refusal", "()I"⟩
abbrev cX5_hasOpenEnd : ByteArray := prog_7_method_27_code
def yX5_hasOpenEnd : MethodName := ⟨RX5, "hasOpenEnd", "()Z"⟩
abbrev cX5_goesToNoPlace : ByteArray := prog_7_method_28_code
def yX5_goesToNoPlace : MethodName := ⟨RX5, "goesToNoPlace", "()Z"⟩
abbrev cX5_tellsNoFunction : ByteArray := prog_7_method_29_code
def yX5_tellsNoFunction : MethodName := ⟨RX5, "tellsNoFunction", "()Z"⟩
def RX6 : String := "LinkPress$RoutineSearch"
def TX6 : u_T := fun k => match k with
  | 0 => ("LinkPress$RoutineSearch", "program", "LLinkPress$Program;", true)
  | 1 => ("LinkPress$RoutineSearch", "image", "LLinkPress$Image;", true)
  | 2 => ("LinkPress$RoutineSearch", "routines", "LLinkPress$Routines;", true)
  | 3 => ("LinkPress$RoutineSearch", "open", "[Z", true)
  | 4 => ("LinkPress$RoutineSearch", "entered", "[Z", true)
  | 5 => ("LinkPress$RoutineSearch", "reach", "[I", true)
  | 6 => ("LinkPress$RoutineSearch", "names", "[[I", true)
  | 7 => ("LinkPress$RoutineSearch", "heads", "[I", true)
  | 8 => ("LinkPress$RoutineSearch", "nexts", "[I", true)
  | 9 => ("LinkPress$RoutineSearch", "times", "[I", true)
  | 10 => ("LinkPress$RoutineSearch", "firsts", "[I", true)
  | 11 => ("LinkPress$RoutineSearch", "ends", "[I", true)
  | 12 => ("LinkPress$RoutineSearch", "size", "I", false)
  | 13 => ("LinkPress$RoutineSearch", "longestTwice", "I", false)
  | 14 => ("LinkPress$RoutineSearch", "bestSaves", "I", false)
  | 15 => ("LinkPress$RoutineSearch", "bestLength", "I", false)
  | _ => ("LinkPress$RoutineSearch", "bestSpot", "I", false)
def tyX6 : Nat → FieldType := fun k => match k with
  | 0 => .object "LinkPress$Program"
  | 1 => .object "LinkPress$Image"
  | 2 => .object "LinkPress$Routines"
  | 3 => .array .boolean
  | 4 => .array .boolean
  | 5 => .array .int
  | 6 => .array (.array .int)
  | 7 => .array .int
  | 8 => .array .int
  | 9 => .array .int
  | 10 => .array .int
  | 11 => .array .int
  | 12 => .int
  | 13 => .int
  | 14 => .int
  | 15 => .int
  | _ => .int
abbrev wsX60 : List Cond := u_ws RX6 TX6 17
theorem nmX6 : ∀ a, a < 17 → ∀ b, b < 17 → a ≠ b → (TX6 a).2.1 ≠ (TX6 b).2.1 := by decide +kernel
theorem tyX6_ok : ∀ k, k < 17 → parseFieldDescriptor (TX6 k).2.2.1 = some (tyX6 k) := by decide +kernel
abbrev cX6_init : ByteArray := prog_8_method_1_code
def yX6_init : MethodName := ⟨RX6, "<init>", "(LLinkPress$Program;LLinkPress$Image;LLinkPress$Routines;)V"⟩
abbrev cX6_findAll : ByteArray := prog_8_method_2_code
def yX6_findAll : MethodName := ⟨RX6, "findAll", "()V"⟩
abbrev cX6_markSpots : ByteArray := prog_8_method_3_code
def yX6_markSpots : MethodName := ⟨RX6, "markSpots", "()V"⟩
abbrev cX6_markSpotsOf : ByteArray := prog_8_method_4_code
def yX6_markSpotsOf : MethodName := ⟨RX6, "markSpotsOf", "(I)V"⟩
abbrev cX6_measureReach : ByteArray := prog_8_method_5_code
def yX6_measureReach : MethodName := ⟨RX6, "measureReach", "()V"⟩
abbrev cX6_nameRows : ByteArray := prog_8_method_6_code
def yX6_nameRows : MethodName := ⟨RX6, "nameRows", "()V"⟩
abbrev cX6_nameRowsOf : ByteArray := prog_8_method_7_code
def yX6_nameRowsOf : MethodName := ⟨RX6, "nameRowsOf", "(I)Z"⟩
abbrev cX6_nameInChain : ByteArray := prog_8_method_8_code
def yX6_nameInChain : MethodName := ⟨RX6, "nameInChain", "(III)I"⟩
abbrev cX6_haveSameLast : ByteArray := prog_8_method_9_code
def yX6_haveSameLast : MethodName := ⟨RX6, "haveSameLast", "(III)Z"⟩
abbrev cX6_chooseBest : ByteArray := prog_8_method_10_code
def yX6_chooseBest : MethodName := ⟨RX6, "chooseBest", "()V"⟩
abbrev cX6_fitNameAt : ByteArray := prog_8_method_11_code
def yX6_fitNameAt : MethodName := ⟨RX6, "fitNameAt", "(II)I"⟩
abbrev cX6_countRowsOf : ByteArray := prog_8_method_12_code
def yX6_countRowsOf : MethodName := ⟨RX6, "countRowsOf", "(I)Z"⟩
abbrev cX6_weighRowsOf : ByteArray := prog_8_method_13_code
def yX6_weighRowsOf : MethodName := ⟨RX6, "weighRowsOf", "(I)V"⟩
abbrev cX6_takeBest : ByteArray := prog_8_method_14_code
def yX6_takeBest : MethodName := ⟨RX6, "takeBest", "()V"⟩
def RX7 : String := "LinkPress$Routines"
def TX7 : u_T := fun k => match k with
  | 0 => ("LinkPress$Routines", "spots", "[I", true)
  | 1 => ("LinkPress$Routines", "lengths", "[I", true)
  | 2 => ("LinkPress$Routines", "firsts", "[I", true)
  | 3 => ("LinkPress$Routines", "times", "[I", true)
  | 4 => ("LinkPress$Routines", "firstWords", "[I", true)
  | 5 => ("LinkPress$Routines", "owners", "[I", true)
  | 6 => ("LinkPress$Routines", "bodies", "[I", true)
  | 7 => ("LinkPress$Routines", "places", "[I", true)
  | 8 => ("LinkPress$Routines", "words", "[I", true)
  | 9 => ("LinkPress$Routines", "occurrenceAt", "[I", true)
  | 10 => ("LinkPress$Routines", "size", "I", false)
  | _ => ("LinkPress$Routines", "occurrences", "I", false)
def tyX7 : Nat → FieldType := fun k => match k with
  | 0 => .array .int
  | 1 => .array .int
  | 2 => .array .int
  | 3 => .array .int
  | 4 => .array .int
  | 5 => .array .int
  | 6 => .array .int
  | 7 => .array .int
  | 8 => .array .int
  | 9 => .array .int
  | 10 => .int
  | _ => .int
abbrev wsX70 : List Cond := u_ws RX7 TX7 12
theorem nmX7 : ∀ a, a < 12 → ∀ b, b < 12 → a ≠ b → (TX7 a).2.1 ≠ (TX7 b).2.1 := by decide +kernel
theorem tyX7_ok : ∀ k, k < 12 → parseFieldDescriptor (TX7 k).2.2.1 = some (tyX7 k) := by decide +kernel
abbrev cX7_init : ByteArray := prog_9_method_1_code
def yX7_init : MethodName := ⟨RX7, "<init>", "()V"⟩
abbrev cX7_drop : ByteArray := prog_9_method_2_code
def yX7_drop : MethodName := ⟨RX7, "drop", "()V"⟩
abbrev cX7_size : ByteArray := prog_9_method_3_code
def yX7_size : MethodName := ⟨RX7, "size", "()I"⟩
abbrev cX7_has : ByteArray := prog_9_method_4_code
def yX7_has : MethodName := ⟨RX7, "has", "(I)Z"⟩
abbrev cX7_addRoutine : ByteArray := prog_9_method_5_code
def yX7_addRoutine : MethodName := ⟨RX7, "addRoutine", "(II)V"⟩
abbrev cX7_addOccurrence : ByteArray := prog_9_method_6_code
def yX7_addOccurrence : MethodName := ⟨RX7, "addOccurrence", "(III)V"⟩
abbrev cX7_spotOf : ByteArray := prog_9_method_7_code
def yX7_spotOf : MethodName := ⟨RX7, "spotOf", "(I)I"⟩
abbrev cX7_lengthOf : ByteArray := prog_9_method_8_code
def yX7_lengthOf : MethodName := ⟨RX7, "lengthOf", "(I)I"⟩
abbrev cX7_timesOf : ByteArray := prog_9_method_9_code
def yX7_timesOf : MethodName := ⟨RX7, "timesOf", "(I)I"⟩
abbrev cX7_savesOf : ByteArray := prog_9_method_10_code
def yX7_savesOf : MethodName := ⟨RX7, "savesOf", "(I)I"⟩
abbrev cX7_savesInAll : ByteArray := prog_9_method_11_code
def yX7_savesInAll : MethodName := ⟨RX7, "savesInAll", "()I"⟩
abbrev cX7_savedBytes : ByteArray := prog_9_method_12_code
def yX7_savedBytes : MethodName := ⟨RX7, "savedBytes", "(II)I"⟩
abbrev cX7_setFirstWord : ByteArray := prog_9_method_13_code
def yX7_setFirstWord : MethodName := ⟨RX7, "setFirstWord", "(II)V"⟩
abbrev cX7_firstWordOf : ByteArray := prog_9_method_14_code
def yX7_firstWordOf : MethodName := ⟨RX7, "firstWordOf", "(I)I"⟩
abbrev cX7_addressOf : ByteArray := prog_9_method_15_code
def yX7_addressOf : MethodName := ⟨RX7, "addressOf", "(I)I"⟩
abbrev cX7_indexOf : ByteArray := prog_9_method_16_code
def yX7_indexOf : MethodName := ⟨RX7, "indexOf", "(II)I"⟩
abbrev cX7_beginningAt : ByteArray := prog_9_method_17_code
def yX7_beginningAt : MethodName := ⟨RX7, "beginningAt", "(I)I"⟩
abbrev cX7_hasIndex : ByteArray := prog_9_method_18_code
def yX7_hasIndex : MethodName := ⟨RX7, "hasIndex", "(I)Z"⟩
abbrev cX7_ownerAt : ByteArray := prog_9_method_19_code
def yX7_ownerAt : MethodName := ⟨RX7, "ownerAt", "(I)I"⟩
abbrev cX7_bodyAt : ByteArray := prog_9_method_20_code
def yX7_bodyAt : MethodName := ⟨RX7, "bodyAt", "(I)I"⟩
abbrev cX7_placeAt : ByteArray := prog_9_method_21_code
def yX7_placeAt : MethodName := ⟨RX7, "placeAt", "(I)I"⟩
abbrev cX7_setWord : ByteArray := prog_9_method_22_code
def yX7_setWord : MethodName := ⟨RX7, "setWord", "(II)V"⟩
abbrev cX7_wordAddressAt : ByteArray := prog_9_method_23_code
def yX7_wordAddressAt : MethodName := ⟨RX7, "wordAddressAt", "(I)I"⟩
def RX8 : String := "LinkPress$Rv32"
def TX8 : u_T := fun k => match k with
  | _ => ("", "", "", false)
def tyX8 : Nat → FieldType := fun k => match k with
  | _ => .int
abbrev wsX80 : List Cond := u_ws RX8 TX8 0
theorem nmX8 : ∀ a, a < 0 → ∀ b, b < 0 → a ≠ b → (TX8 a).2.1 ≠ (TX8 b).2.1 := by decide +kernel
theorem tyX8_ok : ∀ k, k < 0 → parseFieldDescriptor (TX8 k).2.2.1 = some (tyX8 k) := by decide +kernel
abbrev cX8_selectorOf : ByteArray := prog_10_method_2_code
def yX8_selectorOf : MethodName := ⟨RX8, "selectorOf", "(I)I"⟩
abbrev cX8_isOther : ByteArray := prog_10_method_3_code
def yX8_isOther : MethodName := ⟨RX8, "isOther", "(I)Z"⟩
abbrev cX8_calculate : ByteArray := prog_10_method_4_code
def yX8_calculate : MethodName := ⟨RX8, "calculate", "(IZII)I"⟩
abbrev cX8_branches : ByteArray := prog_10_method_5_code
def yX8_branches : MethodName := ⟨RX8, "branches", "(III)Z"⟩
abbrev cX8_isBelow : ByteArray := prog_10_method_6_code
def yX8_isBelow : MethodName := ⟨RX8, "isBelow", "(II)Z"⟩
abbrev cX8_registersWord : ByteArray := prog_10_method_7_code
def yX8_registersWord : MethodName := ⟨RX8, "registersWord", "(IIII)I"⟩
abbrev cX8_immediateWord : ByteArray := prog_10_method_8_code
def yX8_immediateWord : MethodName := ⟨RX8, "immediateWord", "(IIII)I"⟩
abbrev cX8_upperWord : ByteArray := prog_10_method_9_code
def yX8_upperWord : MethodName := ⟨RX8, "upperWord", "(II)I"⟩
abbrev cX8_loadWord : ByteArray := prog_10_method_10_code
def yX8_loadWord : MethodName := ⟨RX8, "loadWord", "(III)I"⟩
abbrev cX8_storeWord : ByteArray := prog_10_method_11_code
def yX8_storeWord : MethodName := ⟨RX8, "storeWord", "(III)I"⟩
abbrev cX8_branchWord : ByteArray := prog_10_method_12_code
def yX8_branchWord : MethodName := ⟨RX8, "branchWord", "(IIII)I"⟩
abbrev cX8_jumpWord : ByteArray := prog_10_method_13_code
def yX8_jumpWord : MethodName := ⟨RX8, "jumpWord", "(II)I"⟩
abbrev cX8_jumpRegisterWord : ByteArray := prog_10_method_14_code
def yX8_jumpRegisterWord : MethodName := ⟨RX8, "jumpRegisterWord", "(II)I"⟩
abbrev cX8_codeOf : ByteArray := prog_10_method_15_code
def yX8_codeOf : MethodName := ⟨RX8, "codeOf", "(I)I"⟩
abbrev cX8_targetOf : ByteArray := prog_10_method_16_code
def yX8_targetOf : MethodName := ⟨RX8, "targetOf", "(I)I"⟩
abbrev cX8_firstOf : ByteArray := prog_10_method_17_code
def yX8_firstOf : MethodName := ⟨RX8, "firstOf", "(I)I"⟩
abbrev cX8_secondOf : ByteArray := prog_10_method_18_code
def yX8_secondOf : MethodName := ⟨RX8, "secondOf", "(I)I"⟩
abbrev cX8_selectorIn : ByteArray := prog_10_method_19_code
def yX8_selectorIn : MethodName := ⟨RX8, "selectorIn", "(I)I"⟩
abbrev cX8_isOtherIn : ByteArray := prog_10_method_20_code
def yX8_isOtherIn : MethodName := ⟨RX8, "isOtherIn", "(I)Z"⟩
abbrev cX8_immediateOf : ByteArray := prog_10_method_21_code
def yX8_immediateOf : MethodName := ⟨RX8, "immediateOf", "(I)I"⟩
abbrev cX8_storeOffsetOf : ByteArray := prog_10_method_22_code
def yX8_storeOffsetOf : MethodName := ⟨RX8, "storeOffsetOf", "(I)I"⟩
abbrev cX8_branchOffsetOf : ByteArray := prog_10_method_23_code
def yX8_branchOffsetOf : MethodName := ⟨RX8, "branchOffsetOf", "(I)I"⟩
abbrev cX8_jumpOffsetOf : ByteArray := prog_10_method_24_code
def yX8_jumpOffsetOf : MethodName := ⟨RX8, "jumpOffsetOf", "(I)I"⟩
def RX9 : String := "LinkPress$Signs"
def TX9 : u_T := fun k => match k with
  | _ => ("", "", "", false)
def tyX9 : Nat → FieldType := fun k => match k with
  | _ => .int
abbrev wsX90 : List Cond := u_ws RX9 TX9 0
theorem nmX9 : ∀ a, a < 0 → ∀ b, b < 0 → a ≠ b → (TX9 a).2.1 ≠ (TX9 b).2.1 := by decide +kernel
theorem tyX9_ok : ∀ k, k < 0 → parseFieldDescriptor (TX9 k).2.2.1 = some (tyX9 k) := by decide +kernel
abbrev cX9_isNumber : ByteArray := prog_11_method_2_code
def yX9_isNumber : MethodName := ⟨RX9, "isNumber", "(I)Z"⟩
abbrev cX9_kindOfA : ByteArray := prog_11_method_3_code
def yX9_kindOfA : MethodName := ⟨RX9, "kindOfA", "(I)I"⟩
abbrev cX9_kindOfB : ByteArray := prog_11_method_4_code
def yX9_kindOfB : MethodName := ⟨RX9, "kindOfB", "(I)I"⟩
abbrev cX9_kindOfC : ByteArray := prog_11_method_5_code
def yX9_kindOfC : MethodName := ⟨RX9, "kindOfC", "(I)I"⟩
abbrev cX9_suits : ByteArray := prog_11_method_6_code
def yX9_suits : MethodName := ⟨RX9, "suits", "(II)Z"⟩
abbrev cX9_kept : ByteArray := prog_11_method_7_code
def yX9_kept : MethodName := ⟨RX9, "kept", "(II)I"⟩
abbrev cX9_isReturnRegister : ByteArray := prog_11_method_8_code
def yX9_isReturnRegister : MethodName := ⟨RX9, "isReturnRegister", "(II)Z"⟩
abbrev cX9_isBranch : ByteArray := prog_11_method_9_code
def yX9_isBranch : MethodName := ⟨RX9, "isBranch", "(I)Z"⟩
abbrev cX9_isCallOrTail : ByteArray := prog_11_method_10_code
def yX9_isCallOrTail : MethodName := ⟨RX9, "isCallOrTail", "(I)Z"⟩
abbrev cX9_isClosing : ByteArray := prog_11_method_11_code
def yX9_isClosing : MethodName := ⟨RX9, "isClosing", "(I)Z"⟩
abbrev cX9_mayBeInRow : ByteArray := prog_11_method_12_code
def yX9_mayBeInRow : MethodName := ⟨RX9, "mayBeInRow", "(I)Z"⟩
def RX10 : String := "LinkPress$ToldMachine"
def TX10 : u_T := fun k => match k with
  | 0 => ("LinkPress$Machine", "kept", "[I", true)
  | 1 => ("LinkPress$Machine", "hasRun", "Z", false)
  | 2 => ("LinkPress$Machine", "outcome", "I", false)
  | 3 => ("LinkPress$Machine", "steps", "I", false)
  | 4 => ("LinkPress$Machine", "prints", "I", false)
  | 5 => ("LinkPress$ToldMachine", "program", "LLinkPress$Program;", true)
  | 6 => ("LinkPress$ToldMachine", "sorts", "[I", true)
  | 7 => ("LinkPress$ToldMachine", "values", "[I", true)
  | 8 => ("LinkPress$ToldMachine", "memorySorts", "[I", true)
  | 9 => ("LinkPress$ToldMachine", "memoryValues", "[I", true)
  | 10 => ("LinkPress$ToldMachine", "function", "I", false)
  | _ => ("LinkPress$ToldMachine", "place", "I", false)
def tyX10 : Nat → FieldType := fun k => match k with
  | 0 => .array .int
  | 1 => .boolean
  | 2 => .int
  | 3 => .int
  | 4 => .int
  | 5 => .object "LinkPress$Program"
  | 6 => .array .int
  | 7 => .array .int
  | 8 => .array .int
  | 9 => .array .int
  | 10 => .int
  | _ => .int
abbrev wsX100 : List Cond := u_ws RX10 TX10 12
theorem nmX10 : ∀ a, a < 12 → ∀ b, b < 12 → a ≠ b → (TX10 a).2.1 ≠ (TX10 b).2.1 := by decide +kernel
theorem tyX10_ok : ∀ k, k < 12 → parseFieldDescriptor (TX10 k).2.2.1 = some (tyX10 k) := by decide +kernel
abbrev cX10_init : ByteArray := prog_12_method_1_code
def yX10_init : MethodName := ⟨RX10, "<init>", "(LLinkPress$Program;)V"⟩
abbrev cX10_isReady : ByteArray := prog_12_method_2_code
def yX10_isReady : MethodName := ⟨RX10, "isReady", "()Z"⟩
abbrev cX10_restart : ByteArray := prog_12_method_3_code
def yX10_restart : MethodName := ⟨RX10, "restart", "()V"⟩
abbrev cX10_where : ByteArray := prog_12_method_4_code
def yX10_where : MethodName := ⟨RX10, "where", "()I"⟩
abbrev cX10_whichPlace : ByteArray := prog_12_method_5_code
def yX10_whichPlace : MethodName := ⟨RX10, "whichPlace", "()I"⟩
abbrev cX10_registerAt : ByteArray := prog_12_method_6_code
def yX10_registerAt : MethodName := ⟨RX10, "registerAt", "(I)I"⟩
abbrev cX10_memoryAt : ByteArray := prog_12_method_7_code
def yX10_memoryAt : MethodName := ⟨RX10, "memoryAt", "(I)I"⟩
abbrev cX10_step : ByteArray := prog_12_method_8_code
def yX10_step : MethodName := ⟨RX10, "step", "()I"⟩
abbrev cX10_calculate : ByteArray := prog_12_method_9_code
def yX10_calculate : MethodName := ⟨RX10, "calculate", "(II)I"⟩
abbrev cX10_branch : ByteArray := prog_12_method_10_code
def yX10_branch : MethodName := ⟨RX10, "branch", "(II)I"⟩
abbrev cX10_load : ByteArray := prog_12_method_11_code
def yX10_load : MethodName := ⟨RX10, "load", "(I)I"⟩
abbrev cX10_store : ByteArray := prog_12_method_12_code
def yX10_store : MethodName := ⟨RX10, "store", "(I)I"⟩
abbrev cX10_memoryIndexOf : ByteArray := prog_12_method_13_code
def yX10_memoryIndexOf : MethodName := ⟨RX10, "memoryIndexOf", "(I)I"⟩
abbrev cX10_callFunction : ByteArray := prog_12_method_14_code
def yX10_callFunction : MethodName := ⟨RX10, "callFunction", "(I)I"⟩
abbrev cX10_goBack : ByteArray := prog_12_method_15_code
def yX10_goBack : MethodName := ⟨RX10, "goBack", "()I"⟩
abbrev cX10_print : ByteArray := prog_12_method_16_code
def yX10_print : MethodName := ⟨RX10, "print", "()I"⟩
abbrev cX10_goTo : ByteArray := prog_12_method_17_code
def yX10_goTo : MethodName := ⟨RX10, "goTo", "(II)I"⟩
abbrev cX10_goOn : ByteArray := prog_12_method_18_code
def yX10_goOn : MethodName := ⟨RX10, "goOn", "()I"⟩
abbrev cX10_writeAndGoOn : ByteArray := prog_12_method_19_code
def yX10_writeAndGoOn : MethodName := ⟨RX10, "writeAndGoOn", "(III)I"⟩
abbrev cX10_write : ByteArray := prog_12_method_20_code
def yX10_write : MethodName := ⟨RX10, "write", "(III)V"⟩
abbrev cX10_sortIn : ByteArray := prog_12_method_21_code
def yX10_sortIn : MethodName := ⟨RX10, "sortIn", "(I)I"⟩
abbrev cX10_valueIn : ByteArray := prog_12_method_22_code
def yX10_valueIn : MethodName := ⟨RX10, "valueIn", "(I)I"⟩
abbrev cX10_isNumber : ByteArray := prog_12_method_23_code
def yX10_isNumber : MethodName := ⟨RX10, "isNumber", "(I)Z"⟩
def RX11 : String := "LinkPress"
def TX11 : u_T := fun k => match k with
  | 0 => ("LinkPress", "program", "LLinkPress$Program;", true)
  | 1 => ("LinkPress", "folding", "LLinkPress$Folding;", true)
  | 2 => ("LinkPress", "image", "LLinkPress$Image;", true)
  | 3 => ("LinkPress", "routineList", "LLinkPress$Routines;", true)
  | 4 => ("LinkPress", "search", "LLinkPress$RoutineSearch;", true)
  | 5 => ("LinkPress", "linker", "LLinkPress$Linker;", true)
  | 6 => ("LinkPress", "toldMachine", "LLinkPress$ToldMachine;", true)
  | _ => ("LinkPress", "imageMachine", "LLinkPress$ImageMachine;", true)
def tyX11 : Nat → FieldType := fun k => match k with
  | 0 => .object "LinkPress$Program"
  | 1 => .object "LinkPress$Folding"
  | 2 => .object "LinkPress$Image"
  | 3 => .object "LinkPress$Routines"
  | 4 => .object "LinkPress$RoutineSearch"
  | 5 => .object "LinkPress$Linker"
  | 6 => .object "LinkPress$ToldMachine"
  | _ => .object "LinkPress$ImageMachine"
abbrev wsX110 : List Cond := u_ws RX11 TX11 8
theorem nmX11 : ∀ a, a < 8 → ∀ b, b < 8 → a ≠ b → (TX11 a).2.1 ≠ (TX11 b).2.1 := by decide +kernel
theorem tyX11_ok : ∀ k, k < 8 → parseFieldDescriptor (TX11 k).2.2.1 = some (tyX11 k) := by decide +kernel
abbrev cX11_init : ByteArray := prog_1_method_1_code
def yX11_init : MethodName := ⟨RX11, "<init>", "()V"⟩
abbrev cX11_function : ByteArray := prog_1_method_2_code
def yX11_function : MethodName := ⟨RX11, "function", "()I"⟩
abbrev cX11_put : ByteArray := prog_1_method_3_code
def yX11_put : MethodName := ⟨RX11, "put", "(IIIII)I"⟩
abbrev cX11_clear : ByteArray := prog_1_method_4_code
def yX11_clear : MethodName := ⟨RX11, "clear", "()I"⟩
abbrev cX11_press : ByteArray := prog_1_method_5_code
def yX11_press : MethodName := ⟨RX11, "press", "(ZZ)I"⟩
abbrev cX11_about : ByteArray := prog_1_method_6_code
def yX11_about : MethodName := ⟨RX11, "about", "(II)I"⟩
abbrev cX11_body : ByteArray := prog_1_method_7_code
def yX11_body : MethodName := ⟨RX11, "body", "(II)I"⟩
abbrev cX11_routine : ByteArray := prog_1_method_8_code
def yX11_routine : MethodName := ⟨RX11, "routine", "(II)I"⟩
abbrev cX11_occurrence : ByteArray := prog_1_method_9_code
def yX11_occurrence : MethodName := ⟨RX11, "occurrence", "(III)I"⟩
abbrev cX11_word : ByteArray := prog_1_method_10_code
def yX11_word : MethodName := ⟨RX11, "word", "(I)I"⟩
abbrev cX11_run : ByteArray := prog_1_method_11_code
def yX11_run : MethodName := ⟨RX11, "run", "(II)I"⟩
abbrev cX11_ran : ByteArray := prog_1_method_12_code
def yX11_ran : MethodName := ⟨RX11, "ran", "(II)I"⟩
abbrev cX11_printed : ByteArray := prog_1_method_13_code
def yX11_printed : MethodName := ⟨RX11, "printed", "(II)I"⟩
abbrev cX11_register : ByteArray := prog_1_method_14_code
def yX11_register : MethodName := ⟨RX11, "register", "(II)I"⟩
abbrev cX11_memory : ByteArray := prog_1_method_15_code
def yX11_memory : MethodName := ⟨RX11, "memory", "(II)I"⟩
abbrev cX11_count : ByteArray := prog_1_method_16_code
def yX11_count : MethodName := ⟨RX11, "count", "(I)I"⟩
abbrev cX11_machineOf : ByteArray := prog_1_method_17_code
def yX11_machineOf : MethodName := ⟨RX11, "machineOf", "(I)LLinkPress$Machine;"⟩
def RX12 : String := "LinkPressModel"
def TX12 : u_T := fun k => match k with
  | 0 => ("LinkPressModel", "thrown", "I", false)
  | 1 => ("LinkPressModel", "functions", "I", false)
  | 2 => ("LinkPressModel", "instructions", "I", false)
  | 3 => ("LinkPressModel", "size", "[I", true)
  | 4 => ("LinkPressModel", "op", "[I", true)
  | 5 => ("LinkPressModel", "fa", "[I", true)
  | 6 => ("LinkPressModel", "fb", "[I", true)
  | 7 => ("LinkPressModel", "fc", "[I", true)
  | 8 => ("LinkPressModel", "part", "[I", true)
  | 9 => ("LinkPressModel", "next", "[I", true)
  | 10 => ("LinkPressModel", "hasImage", "Z", false)
  | 11 => ("LinkPressModel", "imageFunctions", "I", false)
  | 12 => ("LinkPressModel", "words", "I", false)
  | 13 => ("LinkPressModel", "routines", "I", false)
  | 14 => ("LinkPressModel", "bodyOf", "[I", true)
  | 15 => ("LinkPressModel", "addressOf", "[I", true)
  | 16 => ("LinkPressModel", "word", "[I", true)
  | 17 => ("LinkPressModel", "length", "[I", true)
  | 18 => ("LinkPressModel", "many", "[I", true)
  | 19 => ("LinkPressModel", "saves", "[I", true)
  | 20 => ("LinkPressModel", "routineAt", "[I", true)
  | 21 => ("LinkPressModel", "rowOf", "[I", true)
  | 22 => ("LinkPressModel", "placed", "[I", true)
  | 23 => ("LinkPressModel", "placedAt", "[I", true)
  | 24 => ("LinkPressModel", "inRoutine", "[I", true)
  | 25 => ("LinkPressModel", "addressAt", "[I", true)
  | 26 => ("LinkPressModel", "begins", "[Z", true)
  | 27 => ("LinkPressModel", "may", "[Z", true)
  | 28 => ("LinkPressModel", "target", "[Z", true)
  | 29 => ("LinkPressModel", "found", "[I", true)
  | 30 => ("LinkPressModel", "ended", "[I", true)
  | 31 => ("LinkPressModel", "steps", "[I", true)
  | 32 => ("LinkPressModel", "printed", "[I", true)
  | 33 => ("LinkPressModel", "where", "[I", true)
  | 34 => ("LinkPressModel", "spot", "[I", true)
  | 35 => ("LinkPressModel", "prints", "[[I", true)
  | 36 => ("LinkPressModel", "regs", "[[I", true)
  | 37 => ("LinkPressModel", "cells", "[[I", true)
  | 38 => ("LinkPressModel", "sort", "[I", true)
  | 39 => ("LinkPressModel", "cellSort", "[I", true)
  | _ => ("LinkPressModel", "goes", "Z", false)
def tyX12 : Nat → FieldType := fun k => match k with
  | 0 => .int
  | 1 => .int
  | 2 => .int
  | 3 => .array .int
  | 4 => .array .int
  | 5 => .array .int
  | 6 => .array .int
  | 7 => .array .int
  | 8 => .array .int
  | 9 => .array .int
  | 10 => .boolean
  | 11 => .int
  | 12 => .int
  | 13 => .int
  | 14 => .array .int
  | 15 => .array .int
  | 16 => .array .int
  | 17 => .array .int
  | 18 => .array .int
  | 19 => .array .int
  | 20 => .array .int
  | 21 => .array .int
  | 22 => .array .int
  | 23 => .array .int
  | 24 => .array .int
  | 25 => .array .int
  | 26 => .array .boolean
  | 27 => .array .boolean
  | 28 => .array .boolean
  | 29 => .array .int
  | 30 => .array .int
  | 31 => .array .int
  | 32 => .array .int
  | 33 => .array .int
  | 34 => .array .int
  | 35 => .array (.array .int)
  | 36 => .array (.array .int)
  | 37 => .array (.array .int)
  | 38 => .array .int
  | 39 => .array .int
  | _ => .boolean
abbrev wsX120 : List Cond := u_ws RX12 TX12 41
theorem nmX12 : ∀ a, a < 41 → ∀ b, b < 41 → a ≠ b → (TX12 a).2.1 ≠ (TX12 b).2.1 := by decide +kernel
theorem tyX12_ok : ∀ k, k < 41 → parseFieldDescriptor (TX12 k).2.2.1 = some (tyX12 k) := by decide +kernel
abbrev cX12_init : ByteArray := prog_14_method_1_code
def yX12_init : MethodName := ⟨RX12, "<init>", "()V"⟩
abbrev cX12_function : ByteArray := prog_14_method_3_code
def yX12_function : MethodName := ⟨RX12, "function", "()I"⟩
abbrev cX12_in : ByteArray := prog_14_method_4_code
def yX12_in : MethodName := ⟨RX12, "in", "(III)Z"⟩
abbrev cX12_isRegister : ByteArray := prog_14_method_5_code
def yX12_isRegister : MethodName := ⟨RX12, "isRegister", "(I)Z"⟩
abbrev cX12_isGood : ByteArray := prog_14_method_6_code
def yX12_isGood : MethodName := ⟨RX12, "isGood", "(IIII)Z"⟩
abbrev cX12_put : ByteArray := prog_14_method_7_code
def yX12_put : MethodName := ⟨RX12, "put", "(IIIII)I"⟩
abbrev cX12_clear : ByteArray := prog_14_method_8_code
def yX12_clear : MethodName := ⟨RX12, "clear", "()I"⟩
abbrev cX12_tellsA : ByteArray := prog_14_method_9_code
def yX12_tellsA : MethodName := ⟨RX12, "tellsA", "(I)Z"⟩
abbrev cX12_tellsB : ByteArray := prog_14_method_10_code
def yX12_tellsB : MethodName := ⟨RX12, "tellsB", "(I)Z"⟩
abbrev cX12_tellsC : ByteArray := prog_14_method_11_code
def yX12_tellsC : MethodName := ⟨RX12, "tellsC", "(I)Z"⟩
abbrev cX12_isSame : ByteArray := prog_14_method_12_code
def yX12_isSame : MethodName := ⟨RX12, "isSame", "(II)Z"⟩
abbrev cX12_isCall : ByteArray := prog_14_method_13_code
def yX12_isCall : MethodName := ⟨RX12, "isCall", "(I)Z"⟩
abbrev cX12_isBranch : ByteArray := prog_14_method_14_code
def yX12_isBranch : MethodName := ⟨RX12, "isBranch", "(I)Z"⟩
abbrev cX12_counts : ByteArray := prog_14_method_15_code
def yX12_counts : MethodName := ⟨RX12, "counts", "(I)I"⟩
abbrev cX12_isLike : ByteArray := prog_14_method_16_code
def yX12_isLike : MethodName := ⟨RX12, "isLike", "(II)Z"⟩
abbrev cX12_parts : ByteArray := prog_14_method_17_code
def yX12_parts : MethodName := ⟨RX12, "parts", "()I"⟩
abbrev cX12_isTaken : ByteArray := prog_14_method_18_code
def yX12_isTaken : MethodName := ⟨RX12, "isTaken", "(I)Z"⟩
abbrev cX12_leastOf : ByteArray := prog_14_method_19_code
def yX12_leastOf : MethodName := ⟨RX12, "leastOf", "(IZ)I"⟩
abbrev cX12_about : ByteArray := prog_14_method_20_code
def yX12_about : MethodName := ⟨RX12, "about", "(II)I"⟩
abbrev cX12_refusal : ByteArray := prog_14_method_21_code
def yX12_refusal : MethodName := ⟨RX12, "refusal", "()I"⟩
abbrev cX12_press : ByteArray := prog_14_method_22_code
def yX12_press : MethodName := ⟨RX12, "press", "(ZZ)I"⟩
abbrev cX12_isBody : ByteArray := prog_14_method_23_code
def yX12_isBody : MethodName := ⟨RX12, "isBody", "(I)Z"⟩
abbrev cX12_namesOne : ByteArray := prog_14_method_24_code
def yX12_namesOne : MethodName := ⟨RX12, "namesOne", "(I)Z"⟩
abbrev cX12_isTarget : ByteArray := prog_14_method_25_code
def yX12_isTarget : MethodName := ⟨RX12, "isTarget", "(II)Z"⟩
abbrev cX12_isFit : ByteArray := prog_14_method_26_code
def yX12_isFit : MethodName := ⟨RX12, "isFit", "(III)Z"⟩
abbrev cX12_occurrences : ByteArray := prog_14_method_27_code
def yX12_occurrences : MethodName := ⟨RX12, "occurrences", "(II)I"⟩
abbrev cX12_findRoutine : ByteArray := prog_14_method_28_code
def yX12_findRoutine : MethodName := ⟨RX12, "findRoutine", "()Z"⟩
abbrev cX12_wordsOf : ByteArray := prog_14_method_29_code
def yX12_wordsOf : MethodName := ⟨RX12, "wordsOf", "(I)I"⟩
abbrev cX12_layOut : ByteArray := prog_14_method_30_code
def yX12_layOut : MethodName := ⟨RX12, "layOut", "()V"⟩
abbrev cX12_write : ByteArray := prog_14_method_31_code
def yX12_write : MethodName := ⟨RX12, "write", "()V"⟩
abbrev cX12_say : ByteArray := prog_14_method_32_code
def yX12_say : MethodName := ⟨RX12, "say", "(II)I"⟩
abbrev cX12_jal : ByteArray := prog_14_method_33_code
def yX12_jal : MethodName := ⟨RX12, "jal", "(II)I"⟩
abbrev cX12_branch : ByteArray := prog_14_method_34_code
def yX12_branch : MethodName := ⟨RX12, "branch", "(IIII)I"⟩
abbrev cX12_f3Of : ByteArray := prog_14_method_35_code
def yX12_f3Of : MethodName := ⟨RX12, "f3Of", "(I)I"⟩
abbrev cX12_coded : ByteArray := prog_14_method_36_code
def yX12_coded : MethodName := ⟨RX12, "coded", "(III)I"⟩
abbrev cX12_body : ByteArray := prog_14_method_37_code
def yX12_body : MethodName := ⟨RX12, "body", "(II)I"⟩
abbrev cX12_hasRoutine : ByteArray := prog_14_method_38_code
def yX12_hasRoutine : MethodName := ⟨RX12, "hasRoutine", "(I)Z"⟩
abbrev cX12_routine : ByteArray := prog_14_method_39_code
def yX12_routine : MethodName := ⟨RX12, "routine", "(II)I"⟩
abbrev cX12_occurrence : ByteArray := prog_14_method_40_code
def yX12_occurrence : MethodName := ⟨RX12, "occurrence", "(III)I"⟩
abbrev cX12_word : ByteArray := prog_14_method_41_code
def yX12_word : MethodName := ⟨RX12, "word", "(I)I"⟩
abbrev cX12_begin : ByteArray := prog_14_method_42_code
def yX12_begin : MethodName := ⟨RX12, "begin", "(I)V"⟩
abbrev cX12_print : ByteArray := prog_14_method_43_code
def yX12_print : MethodName := ⟨RX12, "print", "(II)V"⟩
abbrev cX12_run : ByteArray := prog_14_method_44_code
def yX12_run : MethodName := ⟨RX12, "run", "(II)I"⟩
abbrev cX12_runTold : ByteArray := prog_14_method_45_code
def yX12_runTold : MethodName := ⟨RX12, "runTold", "(I)I"⟩
abbrev cX12_isNumber : ByteArray := prog_14_method_46_code
def yX12_isNumber : MethodName := ⟨RX12, "isNumber", "(I)Z"⟩
abbrev cX12_set : ByteArray := prog_14_method_47_code
def yX12_set : MethodName := ⟨RX12, "set", "(III)V"⟩
abbrev cX12_isBelow : ByteArray := prog_14_method_48_code
def yX12_isBelow : MethodName := ⟨RX12, "isBelow", "(II)Z"⟩
abbrev cX12_reckoned : ByteArray := prog_14_method_49_code
def yX12_reckoned : MethodName := ⟨RX12, "reckoned", "(III)I"⟩
abbrev cX12_holds : ByteArray := prog_14_method_50_code
def yX12_holds : MethodName := ⟨RX12, "holds", "(III)Z"⟩
abbrev cX12_isCell : ByteArray := prog_14_method_51_code
def yX12_isCell : MethodName := ⟨RX12, "isCell", "(I)Z"⟩
abbrev cX12_does : ByteArray := prog_14_method_52_code
def yX12_does : MethodName := ⟨RX12, "does", "(I)Z"⟩
abbrev cX12_runImage : ByteArray := prog_14_method_53_code
def yX12_runImage : MethodName := ⟨RX12, "runImage", "(I)I"⟩
abbrev cX12_give : ByteArray := prog_14_method_54_code
def yX12_give : MethodName := ⟨RX12, "give", "(II)V"⟩
abbrev cX12_does_ : ByteArray := prog_14_method_55_code
def yX12_does_ : MethodName := ⟨RX12, "does", "(II)I"⟩
abbrev cX12_made : ByteArray := prog_14_method_56_code
def yX12_made : MethodName := ⟨RX12, "made", "(IIII)I"⟩
abbrev cX12_hasRun : ByteArray := prog_14_method_57_code
def yX12_hasRun : MethodName := ⟨RX12, "hasRun", "(I)Z"⟩
abbrev cX12_ran : ByteArray := prog_14_method_58_code
def yX12_ran : MethodName := ⟨RX12, "ran", "(II)I"⟩
abbrev cX12_printed : ByteArray := prog_14_method_59_code
def yX12_printed : MethodName := ⟨RX12, "printed", "(II)I"⟩
abbrev cX12_register : ByteArray := prog_14_method_60_code
def yX12_register : MethodName := ⟨RX12, "register", "(II)I"⟩
abbrev cX12_memory : ByteArray := prog_14_method_61_code
def yX12_memory : MethodName := ⟨RX12, "memory", "(II)I"⟩
abbrev cX12_count : ByteArray := prog_14_method_62_code
def yX12_count : MethodName := ⟨RX12, "count", "(I)I"⟩
def RJ9 : String := "java/lang/Math"
abbrev cJ9_max_7cf53 : ByteArray := prog_15_method_65_code
def yJ9_max_7cf53 : MethodName := ⟨RJ9, "max", "(II)I"⟩
abbrev cJ9_min_7cf53 : ByteArray := prog_15_method_69_code
def yJ9_min_7cf53 : MethodName := ⟨RJ9, "min", "(II)I"⟩
def RJ10 : String := "java/lang/System"
def RJ7 : String := "java/util/Arrays"
abbrev cJ7_fill_53178 : ByteArray := prog_17_method_103_code
def yJ7_fill_53178 : MethodName := ⟨RJ7, "fill", "([II)V"⟩
def RL : String := "LinkPressLaw"
abbrev vwCl : List vw_C := [(RX0, TX0, 6), (RX1, TX1, 5), (RX2, TX2, 9), (RX3, TX3, 4), (RX5, TX5, 8), (RX6, TX6, 17), (RX7, TX7, 12), (RX10, TX10, 12), (RX11, TX11, 8), (RX12, TX12, 41)]
theorem inX0 : ∀ w ∈ wsX00, w ∈ lw_tbl := by decide +kernel
theorem inX1 : ∀ w ∈ wsX10, w ∈ lw_tbl := by decide +kernel
theorem inX2 : ∀ w ∈ wsX20, w ∈ lw_tbl := by decide +kernel
theorem inX3 : ∀ w ∈ wsX30, w ∈ lw_tbl := by decide +kernel
theorem inX5 : ∀ w ∈ wsX50, w ∈ lw_tbl := by decide +kernel
theorem inX6 : ∀ w ∈ wsX60, w ∈ lw_tbl := by decide +kernel
theorem inX7 : ∀ w ∈ wsX70, w ∈ lw_tbl := by decide +kernel
theorem inX10 : ∀ w ∈ wsX100, w ∈ lw_tbl := by decide +kernel
theorem inX11 : ∀ w ∈ wsX110, w ∈ lw_tbl := by decide +kernel
theorem inX12 : ∀ w ∈ wsX120, w ∈ lw_tbl := by decide +kernel
end
section
/-! THE ABSTRACT MACHINE: cells by numbers, refs as numbers, ints as they are; one step a function; the whole run a least fixed point ('am_Go') -/
abbrev am_S : Type := Nat ⊕ (Nat × Nat)
/-- shapes (an object of a class | an array: tag, length), refs, ints, how many cells, the tables that nobody writes -/
abbrev am_H : Type := (Nat → am_S) × (Nat → Nat → Option Nat) × (Nat → Nat → Int32) × Nat × (Nat → Nat × (Nat → Int32))
/-- a method: name, bytes, locals, answer, code, fields by pool number (slot, classes), constants, static tables, room -/
abbrev am_M : Type := MethodName × ByteArray × Nat × Option FieldType × List (Nat × Instr × Nat) × List (Nat × Nat × List Nat) × List (Nat × Int32) × List (Nat × Nat) × Room
abbrev am_F : Type := Nat × List Value × List Value × am_H
abbrev am_Q : Type := Option Value → am_H → Prop
def am_y (M : am_M) : MethodName := M.1
def am_cc (M : am_M) : ByteArray := M.2.1
def am_ml (M : am_M) : Nat := M.2.2.1
def am_ret (M : am_M) : Option FieldType := M.2.2.2.1
def am_code (M : am_M) : List (Nat × Instr × Nat) := M.2.2.2.2.1
def am_fls (M : am_M) : List (Nat × Nat × List Nat) := M.2.2.2.2.2.1
def am_cns (M : am_M) : List (Nat × Int32) := M.2.2.2.2.2.2.1
def am_sts (M : am_M) : List (Nat × Nat) := M.2.2.2.2.2.2.2.1
def am_rm (M : am_M) : Room := M.2.2.2.2.2.2.2.2
/-- look up by number -/
def am_lk {α : Type} (i : Nat) : List (Nat × α) → Option α
  | [] => none
  | q :: r => match Nat.beq i q.1 with
    | true => some q.2
    | false => am_lk i r
def am_kd : List (List Nat) := [[2, 2, 2, 2, 0, 0], [2, 2, 2, 0, 0], [2, 1, 0, 0, 0, 2, 2, 2, 0], [2, 2, 2, 2], [2, 2, 2, 2, 2, 0, 0, 0], [2, 2, 2, 2, 2, 2, 2, 2, 2, 2, 2, 2, 0, 0, 0, 0, 0], [2, 2, 2, 2, 2, 2, 2, 2, 2, 2, 0, 0], [2, 1, 0, 0, 0, 2, 2, 2, 2, 2, 0, 0], [2, 2, 2, 2, 2, 2, 2, 2], [0, 0, 0, 2, 2, 2, 2, 2, 2, 2, 1, 0, 0, 0, 2, 2, 2, 2, 2, 2, 2, 2, 2, 2, 2, 2, 2, 2, 2, 2, 2, 2, 2, 2, 2, 2, 2, 2, 2, 2, 1]]
def am_k (ci k : Nat) : Nat := (am_kd.getD ci []).getD k 0
def am_u (D : Nat → Nat → Int32) (o k : Nat) (v : Int32) : Nat → Nat → Int32 := fun i j => if i = o ∧ j = k then v else D i j
def am_ur (D : Nat → Nat → Option Nat) (o k : Nat) (v : Option Nat) : Nat → Nat → Option Nat := fun i j => if i = o ∧ j = k then v else D i j
def am_us (D : Nat → am_S) (o : Nat) (v : am_S) : Nat → am_S := fun i => if i = o then v else D i
def am_vr (r : Option Nat) : Value := match r with
  | some i => .ref i
  | none => .null
def am_fv (h : am_H) (o ci k : Nat) : Value := match Nat.beq (am_k ci k) 2 with
  | true => am_vr (h.2.1 o k)
  | false => .int (h.2.2.1 o k)
def am_fl (M : am_M) (idx ci : Nat) : Option Nat := match am_lk idx (am_fls M) with
  | some (k, cs) => match cs.contains ci with
    | true => some k
    | false => none
  | none => none
def am_tg (pc : Nat) (off : Int) : Nat := ((pc : Int) + off).toNat
def am_il (i len pc : Nat) (ls st : List Value) (h : am_H) : Option am_F := match ls[i]? with
  | some (.int x) => some (pc + len, ls, .int x :: st, h)
  | _ => none
def am_al (i len pc : Nat) (ls st : List Value) (h : am_H) : Option am_F := match ls[i]? with
  | some (.ref x) => some (pc + len, ls, .ref x :: st, h)
  | some (.retAddr x) => some (pc + len, ls, .retAddr x :: st, h)
  | some .null => some (pc + len, ls, .null :: st, h)
  | _ => none
def am_is (i len pc : Nat) (ls st : List Value) (h : am_H) : Option am_F := match st with
  | .int x :: r => match Nat.ble (i + 1) ls.length with
    | true => some (pc + len, ls.set i (.int x), r, h)
    | false => none
  | _ => none
def am_as (i len pc : Nat) (ls st : List Value) (h : am_H) : Option am_F := match st with
  | .ref x :: r => match Nat.ble (i + 1) ls.length with
    | true => some (pc + len, ls.set i (.ref x), r, h)
    | false => none
  | .retAddr x :: r => match Nat.ble (i + 1) ls.length with
    | true => some (pc + len, ls.set i (.retAddr x), r, h)
    | false => none
  | .null :: r => match Nat.ble (i + 1) ls.length with
    | true => some (pc + len, ls.set i .null, r, h)
    | false => none
  | _ => none
def am_ii (i : Nat) (n : Int) (pc : Nat) (ls st : List Value) (h : am_H) : Option am_F := match ls[i]? with
  | some (.int x) => some (pc + 3, ls.set i (.int (x + Int32.ofInt n)), st, h)
  | _ => none
def am_bin (f : Int32 → Int32 → Int32) (pc : Nat) (ls st : List Value) (h : am_H) : Option am_F := match st with
  | .int y :: .int x :: r => some (pc + 1, ls, .int (f x y) :: r, h)
  | _ => none
def am_ldc (M : am_M) (k len pc : Nat) (ls st : List Value) (h : am_H) : Option am_F := match am_lk k (am_cns M) with
  | some v => some (pc + len, ls, .int v :: st, h)
  | none => none
def am_dup (pc : Nat) (ls st : List Value) (h : am_H) : Option am_F := match st with
  | .int v :: r => some (pc + 1, ls, .int v :: .int v :: r, h)
  | .ref v :: r => some (pc + 1, ls, .ref v :: .ref v :: r, h)
  | _ => none
def am_dup2 (pc : Nat) (ls st : List Value) (h : am_H) : Option am_F := match st with
  | .int v :: .ref w :: r => some (pc + 1, ls, .int v :: .ref w :: .int v :: .ref w :: r, h)
  | _ => none
def am_pop (pc : Nat) (ls st : List Value) (h : am_H) : Option am_F := match st with
  | .int _ :: r => some (pc + 1, ls, r, h)
  | .ref _ :: r => some (pc + 1, ls, r, h)
  | _ => none
def am_neg (pc : Nat) (ls st : List Value) (h : am_H) : Option am_F := match st with
  | .int x :: r => some (pc + 1, ls, .int (-x) :: r, h)
  | _ => none
def am_if (cond : Jvm.ClassFile.Cond) (off : Int) (pc : Nat) (ls st : List Value) (h : am_H) : Option am_F := match st with
  | .int x :: r => match cond with
    | .eq => some (if x = 0 then am_tg pc off else pc + 3, ls, r, h)
    | .ne => some (if x = 0 then pc + 3 else am_tg pc off, ls, r, h)
    | .lt => some (if x < 0 then am_tg pc off else pc + 3, ls, r, h)
    | .ge => some (if x < 0 then pc + 3 else am_tg pc off, ls, r, h)
    | .gt => some (if 0 < x then am_tg pc off else pc + 3, ls, r, h)
    | .le => some (if 0 < x then pc + 3 else am_tg pc off, ls, r, h)
  | _ => none
def am_ic (cond : Jvm.ClassFile.Cond) (off : Int) (pc : Nat) (ls st : List Value) (h : am_H) : Option am_F := match st with
  | .int y :: .int x :: r => match cond with
    | .eq => some (if x = y then am_tg pc off else pc + 3, ls, r, h)
    | .ne => some (if x = y then pc + 3 else am_tg pc off, ls, r, h)
    | .lt => some (if x < y then am_tg pc off else pc + 3, ls, r, h)
    | .ge => some (if x < y then pc + 3 else am_tg pc off, ls, r, h)
    | .gt => some (if y < x then am_tg pc off else pc + 3, ls, r, h)
    | .le => some (if y < x then pc + 3 else am_tg pc off, ls, r, h)
  | _ => none
def am_nn (isnull : Bool) (off : Int) (pc : Nat) (ls st : List Value) (h : am_H) : Option am_F := match st with
  | .ref _ :: r => some (match isnull with | true => pc + 3 | false => am_tg pc off, ls, r, h)
  | .null :: r => some (match isnull with | true => am_tg pc off | false => pc + 3, ls, r, h)
  | _ => none
def am_tsel (pc : Nat) (d : Int) (x : Int32) : Int → List Int → Nat
  | _, [] => am_tg pc d
  | k, o :: r => if x = Int32.ofInt k then am_tg pc o else am_tsel pc d x (k + 1) r
def am_lsel (pc : Nat) (d : Int) (x : Int32) : List (Int × Int) → Nat
  | [] => am_tg pc d
  | q :: r => if x = Int32.ofInt q.1 then am_tg pc q.2 else am_lsel pc d x r
def am_ts (d lo : Int) (offs : Array Int) (pc : Nat) (ls st : List Value) (h : am_H) : Option am_F := match st with
  | .int x :: r => some (am_tsel pc d x lo offs.toList, ls, r, h)
  | _ => none
def am_lsw (d : Int) (ps : Array (Int × Int)) (pc : Nat) (ls st : List Value) (h : am_H) : Option am_F := match st with
  | .int x :: r => some (am_lsel pc d x ps.toList, ls, r, h)
  | _ => none
def am_gf (M : am_M) (idx pc : Nat) (ls st : List Value) (h : am_H) : Option am_F := match st with
  | .ref o :: r => match h.1 o with
    | .inl ci => match am_fl M idx ci with
      | some k => some (pc + 3, ls, am_fv h o ci k :: r, h)
      | none => none
    | .inr _ => none
  | _ => none
def am_gs (M : am_M) (idx pc : Nat) (ls st : List Value) (h : am_H) : Option am_F := match am_lk idx (am_sts M) with
  | some j => some (pc + 3, ls, .retAddr j :: st, h)
  | none => none
def am_len (pc : Nat) (ls st : List Value) (h : am_H) : Option am_F := match st with
  | .ref o :: r => match h.1 o with
    | .inr q => some (pc + 1, ls, .int (Int32.ofNat q.2) :: r, h)
    | .inl _ => none
  | .retAddr j :: r => match Nat.ble (j + 1) 6 with
    | true => some (pc + 1, ls, .int (Int32.ofNat (h.2.2.2.2 j).1) :: r, h)
    | false => none
  | _ => none
def am_pf (M : am_M) (idx pc : Nat) (ls st : List Value) (h : am_H) : Option am_F := match st with
  | .int v :: .ref o :: r => match h.1 o with
    | .inl ci => match am_fl M idx ci with
      | some k => match am_k ci k with
        | 0 => some (pc + 3, ls, r, (h.1, h.2.1, am_u h.2.2.1 o k v, h.2.2.2))
        | _ => none
      | none => none
    | .inr _ => none
  | .ref v :: .ref o :: r => match h.1 o with
    | .inl ci => match am_fl M idx ci with
      | some k => match Nat.beq (am_k ci k) 2 with
        | true => some (pc + 3, ls, r, (h.1, am_ur h.2.1 o k (some v), h.2.2))
        | false => none
      | none => none
    | .inr _ => none
  | _ => none
/-- a step that asks nothing -/
def am_step (M : am_M) (i : Instr) (pc : Nat) (ls st : List Value) (h : am_H) : Option am_F := match i with
  | .iload_n k => am_il k.val 1 pc ls st h
  | .iload k => am_il k 2 pc ls st h
  | .aload_n k => am_al k.val 1 pc ls st h
  | .aload k => am_al k 2 pc ls st h
  | .istore_n k => am_is k.val 1 pc ls st h
  | .istore k => am_is k 2 pc ls st h
  | .astore_n k => am_as k.val 1 pc ls st h
  | .astore k => am_as k 2 pc ls st h
  | .iinc k n => am_ii k n pc ls st h
  | .iconst n => some (pc + 1, ls, .int (Int32.ofInt n) :: st, h)
  | .bipush n => some (pc + 2, ls, .int ((Int8.ofInt n).toInt32) :: st, h)
  | .sipush n => some (pc + 3, ls, .int ((Int16.ofInt n).toInt32) :: st, h)
  | .ldc k => am_ldc M k 2 pc ls st h
  | .ldc_w k => am_ldc M k 3 pc ls st h
  | .aconst_null => some (pc + 1, ls, .null :: st, h)
  | .dup => am_dup pc ls st h
  | .dup2 => am_dup2 pc ls st h
  | .pop => am_pop pc ls st h
  | .iadd => am_bin (fun x y => x + y) pc ls st h
  | .isub => am_bin (fun x y => x - y) pc ls st h
  | .imul => am_bin (fun x y => x * y) pc ls st h
  | .iand => am_bin (fun x y => x &&& y) pc ls st h
  | .ior => am_bin (fun x y => x ||| y) pc ls st h
  | .ixor => am_bin (fun x y => x ^^^ y) pc ls st h
  | .ishl => am_bin (fun x y => x <<< (y &&& 31)) pc ls st h
  | .ishr => am_bin (fun x y => x >>> (y &&& 31)) pc ls st h
  | .iushr => am_bin (fun x y => (x.toUInt32 >>> (y.toUInt32 &&& Int32.toUInt32 31)).toInt32) pc ls st h
  | .ineg => am_neg pc ls st h
  | .ifCond cd off => am_if cd off pc ls st h
  | .if_icmp cd off => am_ic cd off pc ls st h
  | .ifnull off => am_nn true off pc ls st h
  | .ifnonnull off => am_nn false off pc ls st h
  | .goto off => some (am_tg pc off, ls, st, h)
  | .tableswitch d lo _ offs => am_ts d lo offs pc ls st h
  | .lookupswitch d ps => am_lsw d ps pc ls st h
  | .getfield k => am_gf M k pc ls st h
  | .getstatic k => am_gs M k pc ls st h
  | .arraylength => am_len pc ls st h
  | .putfield k => am_pf M k pc ls st h
  | _ => none
/-- a step that asks something: an index in its row, a divisor that isn't 0, a boolean that is 0 or 1 -/
def am_mem (M : am_M) (i : Instr) (pc : Nat) (ls st : List Value) (h : am_H) : Option (Prop × am_F) := match i with
  | .iaload => match st with
    | .int x :: .ref o :: r => match h.1 o with
      | .inr (0, n) => some (vp_in x n, pc + 1, ls, .int (h.2.2.1 o x.toNatClampNeg) :: r, h)
      | _ => none
    | .int x :: .retAddr j :: r => match Nat.ble (j + 1) 6 with
      | true => some (vp_in x (h.2.2.2.2 j).1, pc + 1, ls, .int ((h.2.2.2.2 j).2 x.toNatClampNeg) :: r, h)
      | false => none
    | _ => none
  | .baload => match st with
    | .int x :: .ref o :: r => match h.1 o with
      | .inr (1, n) => some (vp_in x n, pc + 1, ls, .int (h.2.2.1 o x.toNatClampNeg) :: r, h)
      | _ => none
    | _ => none
  | .aaload => match st with
    | .int x :: .ref o :: r => match h.1 o with
      | .inr (2, n) => some (vp_in x n, pc + 1, ls, am_vr (h.2.1 o x.toNatClampNeg) :: r, h)
      | _ => none
    | _ => none
  | .iastore => match st with
    | .int v :: .int x :: .ref o :: r => match h.1 o with
      | .inr (0, n) => some (vp_in x n, pc + 1, ls, r, (h.1, h.2.1, am_u h.2.2.1 o x.toNatClampNeg v, h.2.2.2))
      | _ => none
    | _ => none
  | .bastore => match st with
    | .int v :: .int x :: .ref o :: r => match h.1 o with
      | .inr (1, n) => some (vp_in x n, pc + 1, ls, r, (h.1, h.2.1, am_u h.2.2.1 o x.toNatClampNeg (v &&& 1), h.2.2.2))
      | _ => none
    | _ => none
  | .idiv => match st with
    | .int y :: .int x :: r => some (¬ y = 0, pc + 1, ls, .int (x / y) :: r, h)
    | _ => none
  | .irem => match st with
    | .int y :: .int x :: r => some (¬ y = 0, pc + 1, ls, .int (x - x / y * y) :: r, h)
    | _ => none
  | .putfield idx => match st with
    | .int v :: .ref o :: r => match h.1 o with
      | .inl ci => match am_fl M idx ci with
        | some k => match am_k ci k with
          | 1 => some (v = 0 ∨ v = 1, pc + 3, ls, r, (h.1, h.2.1, am_u h.2.2.1 o k v, h.2.2.2))
          | _ => none
        | none => none
      | .inr _ => none
    | _ => none
  | _ => none
def am_ent (M : am_M) (as : List Value) : List Value := as ++ List.replicate (am_ml M - as.length) (.long 0)
/-- words of the tables: those that stay -/
def am_gw (w : Jvm.Cond) : Bool := goodWord w || (match w with
  | .declares _ => true
  | .methodLinkNest _ _ _ _ => true
  | .arrayOver (.array _) => true
  | _ => false)
def lw_g : List Jvm.Cond := lw_tbl.filter am_gw
def am_in (w : Jvm.Cond) : Prop := w ∈ lw_g
theorem am_in.of (i : Nat) {w : Jvm.Cond} (h : lw_tbl[i]? = some w) (hg : am_gw w = true) : am_in w := List.mem_filter.mpr ⟨List.mem_of_getElem? h, hg⟩
def am_own (M : am_M) : String := (am_y M).cls
def am_word (M : am_M) : Jvm.Cond := .code (am_y M) (am_cc M) (am_ml M) (am_ret M)
/-- the callee's room in the caller's -/
def am_fit (M M' : am_M) : Prop := (am_rm M').frames + 1 ≤ (am_rm M).frames ∧ 8 + (am_ml M' + 11) + (am_rm M').locals ≤ (am_rm M).locals
def am_nm (x : MethodName) (n : Nat) : Prop := (parseMethodDescriptor x.desc).map (fun d => d.parameters.length) = some n
def am_pl (s : String) : Prop := s ≠ "java/lang/invoke/MethodHandle" ∧ s ≠ "java/lang/invoke/VarHandle"
/-- a call by class: the method named is the one run -/
def am_CV (M M' : am_M) (idx ci n : Nat) : Prop := ∃ r : vw_C, vwCl[ci]? = some r ∧ (am_y M').cls = r.1 ∧ am_pl (am_y M').cls ∧ am_nm (am_y M') n ∧ am_fit M M' ∧ am_in (.methodLink (am_own M) idx (am_y M')) ∧ am_in (.instanceMethod (am_y M')) ∧ am_in (.selects r.1 (am_y M') (am_y M')) ∧ am_in (.initialized r.1) ∧ am_in (am_word M')
/-- a call of an inherited, an overriding or an abstract method -/
def am_CU (M M' : am_M) (idx ci n : Nat) : Prop := ∃ (r : vw_C) (x : MethodName) (owner : String), vwCl[ci]? = some r ∧ am_pl owner ∧ am_nm x n ∧ am_fit M M' ∧ am_in (.methodLink (am_own M) idx x) ∧ am_in (.sameMethod x.cls owner x.name x.desc) ∧ am_in (.selects r.1 x (am_y M')) ∧ am_in (.instanceMethod (am_y M')) ∧ am_in (.initialized (am_y M').cls) ∧ am_in (am_word M') ∧ (am_y M' = ⟨owner, x.name, x.desc⟩ ∨ am_in (.declares ⟨owner, x.name, x.desc⟩))
/-- a static call -/
def am_CS (M M' : am_M) (idx n : Nat) : Prop := am_pl (am_y M').cls ∧ am_nm (am_y M') n ∧ am_fit M M' ∧ (am_in (.methodLink (am_own M) idx (am_y M')) ∨ ∃ x : String, am_pl x ∧ am_in (.methodLink (am_own M) idx ⟨x, (am_y M').name, (am_y M').desc⟩) ∧ am_in (.sameMethod x (am_y M').cls (am_y M').name (am_y M').desc)) ∧ am_in (.static (am_y M')) ∧ am_in (.initialized (am_y M').cls) ∧ am_in (am_word M')
/-- a constructor's call -/
def am_CI (M M' : am_M) (idx n : Nat) : Prop := am_pl (am_y M').cls ∧ am_nm (am_y M') n ∧ am_fit M M' ∧ (am_in (.methodLink (am_own M) idx (am_y M')) ∨ ∃ host : String, am_in (.methodLinkNest (am_own M) idx (am_y M') host)) ∧ am_in (.instanceMethod (am_y M')) ∧ am_in (.initialized (am_y M').cls) ∧ am_in (am_word M') ∧ (am_y M').name = "<init>" ∧ am_ret M' = none
/-- what a method must be -/
def am_chk1 (M : am_M) (pc : Nat) (i : Instr) : Bool := match i with
  | .ifCond _ off => decide (0 ≤ (pc : Int) + off)
  | .if_icmp _ off => decide (0 ≤ (pc : Int) + off)
  | .ifnull off => decide (0 ≤ (pc : Int) + off)
  | .ifnonnull off => decide (0 ≤ (pc : Int) + off)
  | .goto off => decide (0 ≤ (pc : Int) + off)
  | .tableswitch d lo hi offs => decide (0 ≤ (pc : Int) + d) && offs.toList.all (fun o => decide (0 ≤ (pc : Int) + o)) && decide (lo + offs.toList.length = hi + 1) && decide (-2147483648 ≤ lo) && decide (hi ≤ 2147483647) && decide (lo ≤ hi)
  | .lookupswitch d ps => decide (0 ≤ (pc : Int) + d) && ps.toList.all (fun q => decide (0 ≤ (pc : Int) + q.2) && decide (-2147483648 ≤ q.1) && decide (q.1 ≤ 2147483647)) && (ps.toList.zip (ps.toList.drop 1)).all (fun (a, next) => a.1 < next.1)
  | .putfield idx => match am_lk idx (am_fls M) with
    | some (k, cs) => cs.all (fun ci => match vwCl[ci]? with
      | some r => !(r.2.1 k).2.2.2 || ((am_y M).name == "<init>" && (r.2.1 k).1 == (am_y M).cls)
      | none => false)
    | none => true
  | _ => true
def am_elen : Instr → Nat
  | .iload _ | .aload _ | .istore _ | .astore _ | .bipush _ | .ldc _ | .newarray _ => 2
  | .iinc _ _ | .sipush _ | .ldc_w _ | .getfield _ | .putfield _ | .getstatic _ | .ifCond _ _ | .if_icmp _ _ | .ifnull _ | .ifnonnull _ | .goto _ | .invokevirtual _ | .invokestatic _ | .invokespecial _ | .new _ => 3
  | .multianewarray _ _ => 4
  | .tableswitch _ _ _ _ | .lookupswitch _ _ => 0
  | _ => 1
def am_Fok (M : am_M) (idx k ci : Nat) : Prop := ∃ r : vw_C, vwCl[ci]? = some r ∧ k < r.2.2 ∧ am_in (.fieldLink (am_own M) idx (r.2.1 k).1 (r.2.1 k).2.1 (r.2.1 k).2.2.1)
def am_stn : List (String × String) := [("LinkPress$Signs", "KIND_OF_A"), ("LinkPress$Signs", "KIND_OF_B"), ("LinkPress$Signs", "KIND_OF_C"), ("LinkPress$Rv32", "SELECTOR"), ("LinkPress$Rv32", "OTHER")]
def am_Mok (M : am_M) : Prop :=
  plainName (am_y M).cls = true ∧ True ∧
  (∀ q ∈ am_code M, decode (am_cc M) q.1 = .ok q.2 ∧ am_chk1 M q.1 q.2.1 = true ∧ (am_elen q.2.1 = 0 ∨ q.2.2 = am_elen q.2.1)) ∧
  (∀ q ∈ am_fls M, ∀ ci ∈ q.2.2, am_Fok M q.1 q.2.1 ci) ∧
  (∀ q ∈ am_cns M, am_in (.constant (am_own M) q.1 q.2)) ∧
  (∀ q ∈ am_sts M, ∃ z, am_stn[q.2]? = some z ∧ am_in (.fieldLink (am_own M) q.1 z.1 z.2 "[I"))
/-- an object's fields at its start -/
def am_dz (D : Nat → Nat → Int32) (o : Nat) : Nat → Nat → Int32 := fun i j => if i = o then 0 else D i j
def am_rz (D : Nat → Nat → Option Nat) (o : Nat) : Nat → Nat → Option Nat := fun i j => if i = o then none else D i j
def am_new (h : am_H) (s : am_S) : am_H := (am_us h.1 h.2.2.2.1 s, am_rz h.2.1 h.2.2.2.1, am_dz h.2.2.1 h.2.2.2.1, h.2.2.2.1 + 1, h.2.2.2.2)
/-- new int[n][k] -/
def am_new2 (h : am_H) (n k : Nat) : am_H := (fun i => if i = h.2.2.2.1 then .inr (2, n) else if h.2.2.2.1 < i ∧ i ≤ h.2.2.2.1 + n then .inr (0, k) else h.1 i,
  fun i j => if i = h.2.2.2.1 then (if j < n then some (h.2.2.2.1 + 1 + j) else none) else h.2.1 i j,
  fun i j => if h.2.2.2.1 < i ∧ i ≤ h.2.2.2.1 + n then 0 else h.2.2.1 i j, h.2.2.2.1 + 1 + n, h.2.2.2.2)
abbrev am_K : Type := am_M × Nat × List Value × List Value × am_H × Nat × Nat × am_Q
def am_arr : ArrayType → Option Nat
  | .int => some 0
  | .boolean => some 1
  | _ => none
/-- one turn of the run -/
def am_Phi (X : am_K → Prop) : am_K → Prop := fun (M, pc, ls, st, h, kc, ks, Q) => ∃ (i : Instr) (len : Nat), am_lk pc (am_code M) = some (i, len) ∧
  ((∃ pc' ls' st' h', am_step M i pc ls st h = some (pc', ls', st', h') ∧ X (M, pc', ls', st', h', kc, ks, Q)) ∨
  (∃ P pc' ls' st' h', am_mem M i pc ls st h = some (P, pc', ls', st', h') ∧ P ∧ X (M, pc', ls', st', h', kc, ks, Q)) ∨
  (i = .ireturn ∧ ∃ v, st = [.int v] ∧ (am_ret M = some .int ∨ am_ret M = some .boolean ∧ (v = 0 ∨ v = 1)) ∧ Q (some (.int v)) h) ∨
  (i = .areturn ∧ ∃ v n, st = [v] ∧ (v = .null ∨ ∃ a, v = .ref a) ∧ am_ret M = some (.object n) ∧ Q (some v) h) ∨
  (i = .return_ ∧ st = [] ∧ am_ret M = none ∧ Q none h) ∨
  (∃ idx M' ci o as rest Q1, i = .invokevirtual idx ∧ st = as.reverse ++ .ref o :: rest ∧ h.1 o = .inl ci ∧ (am_CV M M' idx ci as.length ∨ am_CU M M' idx ci as.length) ∧ am_Mok M' ∧ rest.length ≤ 8 ∧ (∀ v ∈ rest, v.category = 1) ∧ (∀ v ∈ as, v.category = 1) ∧ as.length + 1 ≤ am_ml M' ∧ (am_rm M').cells ≤ kc ∧ (am_rm M').slots ≤ ks ∧
    X (M', 0, am_ent M' (.ref o :: as), [], h, (am_rm M').cells, (am_rm M').slots, Q1) ∧ ∀ r h1, Q1 r h1 → X (M, pc + 3, ls, r.toList ++ rest, h1, kc - (am_rm M').cells, ks - (am_rm M').slots, Q)) ∨
  (∃ idx M' as rest Q1, i = .invokestatic idx ∧ st = as.reverse ++ rest ∧ am_CS M M' idx as.length ∧ am_Mok M' ∧ rest.length ≤ 8 ∧ (∀ v ∈ rest, v.category = 1) ∧ (∀ v ∈ as, v.category = 1) ∧ as.length ≤ am_ml M' ∧ (am_rm M').cells ≤ kc ∧ (am_rm M').slots ≤ ks ∧
    X (M', 0, am_ent M' as, [], h, (am_rm M').cells, (am_rm M').slots, Q1) ∧ ∀ r h1, Q1 r h1 → X (M, pc + 3, ls, r.toList ++ rest, h1, kc - (am_rm M').cells, ks - (am_rm M').slots, Q)) ∨
  (∃ idx M' o as rest Q1, i = .invokespecial idx ∧ st = as.reverse ++ .ref o :: rest ∧ am_CI M M' idx as.length ∧ am_Mok M' ∧ rest.length ≤ 8 ∧ (∀ v ∈ rest, v.category = 1) ∧ (∀ v ∈ as, v.category = 1) ∧ as.length + 1 ≤ am_ml M' ∧ (am_rm M').cells ≤ kc ∧ (am_rm M').slots ≤ ks ∧
    X (M', 0, am_ent M' (.ref o :: as), [], h, (am_rm M').cells, (am_rm M').slots, Q1) ∧ ∀ r h1, Q1 r h1 → X (M, pc + 3, ls, r.toList ++ rest, h1, kc - (am_rm M').cells, ks - (am_rm M').slots, Q)) ∨
  (∃ idx o rest, i = .invokespecial idx ∧ st = .ref o :: rest ∧ am_in (.methodLink (am_own M) idx objectInit) ∧ 1 ≤ (am_rm M).frames ∧ rest.length + 12 ≤ (am_rm M).locals ∧ (∀ v ∈ rest, v.category = 1) ∧ X (M, pc + 3, ls, rest, h, kc, ks, Q)) ∨
  (∃ idx x dp o sp o0 rest n0 n1, i = .invokestatic idx ∧ st = .int x :: .int dp :: .ref o :: .int sp :: .ref o0 :: rest ∧ am_in (.methodLink (am_own M) idx arraycopyName) ∧ h.1 o0 = .inr (0, n0) ∧ h.1 o = .inr (0, n1) ∧ ¬ sp < 0 ∧ ¬ dp < 0 ∧ ¬ x < 0 ∧ sp.toNatClampNeg + x.toNatClampNeg ≤ n0 ∧ dp.toNatClampNeg + x.toNatClampNeg ≤ n1 ∧ 1 ≤ (am_rm M).frames ∧ rest.length + 30 ≤ (am_rm M).locals ∧ (∀ v ∈ rest, v.category = 1) ∧
    X (M, pc + 3, ls, rest, (h.1, h.2.1, (fun i j => if i = o then va_cpy (h.2.2.1 o0) (h.2.2.1 o) sp.toNatClampNeg dp.toNatClampNeg x.toNatClampNeg j else h.2.2.1 i j), h.2.2.2), kc, ks, Q)) ∨
  (∃ idx ci r, i = .new idx ∧ vwCl[ci]? = some r ∧ am_in (.classLink (am_own M) idx r.1) ∧ am_in (.instantiable r.1 r.2.2) ∧ am_in (.initialized r.1) ∧ 1 ≤ kc ∧ r.2.2 ≤ ks ∧ X (M, pc + 3, ls, .ref h.2.2.2.1 :: st, am_new h (.inl ci), kc - 1, ks - r.2.2, Q)) ∨
  (∃ at' t x rest, i = .newarray at' ∧ am_arr at' = some t ∧ st = .int x :: rest ∧ ¬ x < 0 ∧ x.toNatClampNeg ≤ 100000 ∧ 1 ≤ kc ∧ x.toNatClampNeg ≤ ks ∧ X (M, pc + 2, ls, .ref h.2.2.2.1 :: rest, am_new h (.inr (t, x.toNatClampNeg)), kc - 1, ks - x.toNatClampNeg, Q)) ∨
  (∃ idx x y rest, i = .multianewarray idx 2 ∧ st = .int y :: .int x :: rest ∧ ¬ x < 0 ∧ ¬ y < 0 ∧ x.toNatClampNeg ≤ 10000 ∧ y.toNatClampNeg ≤ 10000 ∧ am_in (.classLink (am_own M) idx "[[I") ∧ 1 + x.toNatClampNeg ≤ kc ∧ x.toNatClampNeg + x.toNatClampNeg * y.toNatClampNeg ≤ ks ∧
    X (M, pc + 4, ls, .ref h.2.2.2.1 :: rest, am_new2 h x.toNatClampNeg y.toNatClampNeg, kc - (1 + x.toNatClampNeg), ks - (x.toNatClampNeg + x.toNatClampNeg * y.toNatClampNeg), Q)) ∨
  (∃ idx x y z rest, i = .invokestatic idx ∧ st = .int y :: .int x :: rest ∧ ((am_in (.methodLink (am_own M) idx Lib.Math.max.name) ∧ z = if x < y then y else x) ∨ (am_in (.methodLink (am_own M) idx Lib.Math.min.name) ∧ z = if y < x then y else x)) ∧ 1 ≤ (am_rm M).frames ∧ rest.length + 13 ≤ (am_rm M).locals ∧ (∀ v ∈ rest, v.category = 1) ∧ X (M, pc + 3, ls, .int z :: rest, h, kc, ks, Q)))
/-- THE RUN COMES TO ITS END WITH Q -/
def am_Go (k : am_K) : Prop := ∀ X : am_K → Prop, (∀ k, am_Phi X k → X k) → X k
theorem am_Phi_mono {X Y : am_K → Prop} (h : ∀ k, X k → Y k) : ∀ k, am_Phi X k → am_Phi Y k := by
  rintro ⟨M, pc, ls, st, hh, kc, ks, Q⟩ ⟨i, len, hi, H⟩
  refine ⟨i, len, hi, ?_⟩
  rcases H with H | H | H | H | H | H | H | H | H | H | H | H | H | H
  · obtain ⟨a, b, c, d, e, f⟩ := H; exact Or.inl ⟨a, b, c, d, e, h _ f⟩
  · obtain ⟨a, b, c, d, e, f, g, z⟩ := H; exact Or.inr (Or.inl ⟨a, b, c, d, e, f, g, h _ z⟩)
  · exact Or.inr (Or.inr (Or.inl H))
  · exact Or.inr (Or.inr (Or.inr (Or.inl H)))
  · exact Or.inr (Or.inr (Or.inr (Or.inr (Or.inl H))))
  · obtain ⟨a1, a2, a3, a4, a5, a6, a7, b1, b2, b3, b4, b5, b6, b7, b8, b9, c1, c2, c3, c4⟩ := H
    exact Or.inr (Or.inr (Or.inr (Or.inr (Or.inr (Or.inl ⟨a1, a2, a3, a4, a5, a6, a7, b1, b2, b3, b4, b5, b6, b7, b8, b9, c1, c2, h _ c3, fun r h1 q => h _ (c4 r h1 q)⟩)))))
  · obtain ⟨a1, a2, a5, a6, a7, b1, b2, b4, b5, b6, b7, b8, b9, c1, c2, c3, c4⟩ := H
    exact Or.inr (Or.inr (Or.inr (Or.inr (Or.inr (Or.inr (Or.inl ⟨a1, a2, a5, a6, a7, b1, b2, b4, b5, b6, b7, b8, b9, c1, c2, h _ c3, fun r h1 q => h _ (c4 r h1 q)⟩))))))
  · obtain ⟨a1, a2, a3, a5, a6, a7, b1, b2, b4, b5, b6, b7, b8, b9, c1, c2, c3, c4⟩ := H
    exact Or.inr (Or.inr (Or.inr (Or.inr (Or.inr (Or.inr (Or.inr (Or.inl ⟨a1, a2, a3, a5, a6, a7, b1, b2, b4, b5, b6, b7, b8, b9, c1, c2, h _ c3, fun r h1 q => h _ (c4 r h1 q)⟩)))))))
  · obtain ⟨a1, a2, a3, a4, a5, a6, a7, a8, a9, b1⟩ := H
    exact Or.inr (Or.inr (Or.inr (Or.inr (Or.inr (Or.inr (Or.inr (Or.inr (Or.inl ⟨a1, a2, a3, a4, a5, a6, a7, a8, a9, h _ b1⟩))))))))
  · obtain ⟨a1, a2, a3, a4, a5, a6, a7, a8, a9, b1, b2, b3, b4, b5, b6, b7, b8, b9, c1, c2, c3, c4, c5⟩ := H
    exact Or.inr (Or.inr (Or.inr (Or.inr (Or.inr (Or.inr (Or.inr (Or.inr (Or.inr (Or.inl ⟨a1, a2, a3, a4, a5, a6, a7, a8, a9, b1, b2, b3, b4, b5, b6, b7, b8, b9, c1, c2, c3, c4, h _ c5⟩)))))))))
  · obtain ⟨a1, a2, a3, a4, a5, a6, a7, a8, a9, b1, b2⟩ := H
    exact Or.inr (Or.inr (Or.inr (Or.inr (Or.inr (Or.inr (Or.inr (Or.inr (Or.inr (Or.inr (Or.inl ⟨a1, a2, a3, a4, a5, a6, a7, a8, a9, b1, h _ b2⟩))))))))))
  · obtain ⟨a1, a2, a3, a4, a5, a6, a7, a8, a9, b1, b2, b3⟩ := H
    exact Or.inr (Or.inr (Or.inr (Or.inr (Or.inr (Or.inr (Or.inr (Or.inr (Or.inr (Or.inr (Or.inr (Or.inl ⟨a1, a2, a3, a4, a5, a6, a7, a8, a9, b1, b2, h _ b3⟩)))))))))))
  · obtain ⟨a1, a2, a3, a4, a5, a6, a7, a8, a9, b1, b2, b3, b4, b5⟩ := H
    exact Or.inr (Or.inr (Or.inr (Or.inr (Or.inr (Or.inr (Or.inr (Or.inr (Or.inr (Or.inr (Or.inr (Or.inr (Or.inl ⟨a1, a2, a3, a4, a5, a6, a7, a8, a9, b1, b2, b3, b4, h _ b5⟩))))))))))))
  · obtain ⟨a1, a2, a3, a4, a5, a6, a7, a8, a9, b1, b2, b3⟩ := H
    exact Or.inr (Or.inr (Or.inr (Or.inr (Or.inr (Or.inr (Or.inr (Or.inr (Or.inr (Or.inr (Or.inr (Or.inr (Or.inr ⟨a1, a2, a3, a4, a5, a6, a7, a8, a9, b1, b2, h _ b3⟩))))))))))))
theorem am_Go.intro {k : am_K} (h : am_Phi am_Go k) : am_Go k := fun X hX => hX k (am_Phi_mono (fun _ g => g X hX) k h)
theorem am_Go.ind {X : am_K → Prop} (hX : ∀ k, am_Phi X k → X k) {k : am_K} (h : am_Go k) : X k := h X hX
end
section
/-! THE ABSTRACT MACHINE IS THE MACHINE: what 'am_Go' says of a method, 'Met' says -/
abbrev am_G : Type := va_G × (Nat → ClassId) × Nat × (Nat → Nat)
def am_b (G : am_G) : Nat := G.2.2.1
def am_tv (G : am_G) : Value → Value
  | .ref i => .ref (G.2.2.1 + i)
  | .retAddr j => .ref (G.2.2.2 j)
  | v => v
def am_A (G : am_G) : Nat → Prop := fun q => G.2.2.1 ≤ q
def am_tys (G : am_G) : List (ClassId × FieldType) := [(G.2.1 0, .int), (G.2.1 1, .boolean), (G.2.1 2, .array .int)]
def am_arrv (G : am_G) (h : am_H) (i t : Nat) : (Nat → Int32) ⊕ (Nat → Int64) ⊕ (Nat → UInt32) ⊕ (Nat → UInt64) ⊕ (Nat → Option Nat) := match Nat.beq t 2 with
  | true => .inr (.inr (.inr (.inr (fun j => (h.2.1 i j).map (fun q => G.2.2.1 + q)))))
  | false => .inl (h.2.2.1 i)
def am_cell (G : am_G) (h : am_H) (i : Nat) : va_E := match h.1 i with
  | .inl ci => .inr (ci, (List.range (am_kd.getD ci []).length).map (fun k => am_tv G (am_fv h i ci k)))
  | .inr q => .inl (G.2.1 q.1, q.2, am_arrv G h i q.1)
def am_Hp (G : am_G) (h : am_H) (H : Heap) : Prop := H.size = G.2.2.1 + h.2.2.2.1 ∧ (∀ i, i < h.2.2.2.1 → va_at G.1 vwCl (G.2.2.1 + i, am_cell G h i) H) ∧ (∀ i, h.2.2.2.1 ≤ i → h.1 i = .inl 999) ∧ (∀ i t n, h.1 i = .inr (t, n) → t < 3)
def am_Lo (G : am_G) (lsC : Array Slot) (nL : Nat) (ls : List Value) : Prop := lsC.size = nL ∧ lv_wf lsC ∧ ls.length = nL ∧ ∀ (i : Nat) (v : Value), ls[i]? = some v → v.category = 1 → lsC[i]? = some (Slot.val (am_tv G v))
def am_T (G : am_G) (tb : Nat → Nat × (Nat → Int32)) (s : State) : Prop := (∀ j, j < 6 → va_T .int (G.2.2.2 j) (tb j).1 (fun k => .int ((tb j).2 k)) (am_A G) s s.heap) ∧ (∀ (j : Nat) (z : String × String), am_stn[j]? = some z → va_Z z.1 z.2 "[I" (.ref (G.2.2.2 j)) (am_A G) s s.heap)
def am_Cx (G : am_G) (M : am_M) (tb : Nat → Nat × (Nat → Int32)) (p : Program) (s : State) (m : MethodId) (args : Array Value) (meth : Method) (c : Code) : Prop :=
  p.tables.exec = Jvm.exec ∧ c.code = am_cc M ∧ meth.sig.returnType = am_ret M ∧ c.maxLocals = am_ml M ∧ s.vm.findClass (am_own M) = some m.cls ∧ (∀ w ∈ lw_g, w.before args s = true) ∧ meth.locks = false ∧ meth.name = (am_y M).name ∧ va_K G.1 vwCl (am_tys G) s ∧ am_T G tb s ∧ G.2.2.1 ≤ s.heap.size
def am_W (l : Launch) (G : am_G) (p : Program) (e : Env) (R : Room) (s : State) (m : MethodId) (args : Array Value) (below : List Frame) (meth : Method) (c : Code) (Z : State → Prop) (M : am_M) (cells slots : Nat) (pc : Nat) (ls st : List Value) (h : am_H) : Prop :=
  ∀ (lsC : Array Slot) (H : Heap) (locs : List Loc), am_Lo G lsC (am_ml M) ls → am_Hp G h H → va_S (am_A G) s.heap H locs → W p l e R s m args below meth c H locs cells slots Z (F0 m pc lsC (st.map (am_tv G)))
/-! the words of the tables stay -/
theorem am_stay {w : Jvm.Cond} (hw : am_gw w = true) {args a' : Array Value} {s U : State} (hW : s.WarmedH U.vm) (h : w.before args s = true) : w.before a' U = true := by
  unfold am_gw at hw
  rw [Bool.or_eq_true] at hw
  rcases hw with hw | hw
  · exact word_at hW (good_of_word hw) h
  · split at hw
    · exact va_Nw.use rfl (va_Nw.warmD hW (va_Nw.of rfl h))
    · exact va_Nw.use rfl (va_Nw.warmM hW (va_Nw.of rfl h))
    · exact over_moved hW.alike h
    · cases hw
theorem am_stays {args a' : Array Value} {s U : State} (hW : s.WarmedH U.vm) (h : ∀ w ∈ lw_g, w.before args s = true) : ∀ w ∈ lw_g, w.before a' U = true := fun w hw => am_stay (List.mem_filter.mp hw).2 hW (h w hw)
theorem am_lays {C : String} {T : u_T} {N : Nat} (h : ∀ w ∈ u_ws C T N, w ∈ lw_tbl) (hg : (u_ws C T N).all am_gw = true) : ∀ w ∈ u_ws C T N, w ∈ lw_g := fun w hw => List.mem_filter.mpr ⟨h w hw, List.all_eq_true.mp hg w hw⟩
def am_ti : Nat → Nat → FieldType := fun c => match c with
  | 0 => tyX0
  | 1 => tyX1
  | 2 => tyX2
  | 3 => tyX3
  | 4 => tyX5
  | 5 => tyX6
  | 6 => tyX7
  | 7 => tyX10
  | 8 => tyX11
  | _ => tyX12
def am_kb (ci k : Nat) : Bool := match am_k ci k, am_ti ci k with
  | 0, .int => true
  | 1, .boolean => true
  | 2, .object _ => true
  | 2, .array _ => true
  | _, _ => false
theorem am_kb_of {ci k : Nat} (h : am_kb ci k = true) : (am_k ci k = 0 ∧ am_ti ci k = .int) ∨ (am_k ci k = 1 ∧ am_ti ci k = .boolean) ∨ (am_k ci k = 2 ∧ ((∃ n, am_ti ci k = .object n) ∨ ∃ n, am_ti ci k = .array n)) := by
  unfold am_kb at h
  split at h
  · rename_i h1 h2; exact Or.inl ⟨h1, h2⟩
  · rename_i h1 h2; exact Or.inr (Or.inl ⟨h1, h2⟩)
  · rename_i n h1 h2; exact Or.inr (Or.inr ⟨h1, Or.inl ⟨n, h2⟩⟩)
  · rename_i n h1 h2; exact Or.inr (Or.inr ⟨h1, Or.inr ⟨n, h2⟩⟩)
  · cases h
/-- what the tables say of each class -/
theorem am_cls {ci : Nat} {r : vw_C} (h : vwCl[ci]? = some r) : (∀ w ∈ u_ws r.1 r.2.1 r.2.2, w ∈ lw_g) ∧ (∀ k, k < r.2.2 → parseFieldDescriptor (r.2.1 k).2.2.1 = some (am_ti ci k)) ∧ (∀ a, a < r.2.2 → ∀ b, b < r.2.2 → a ≠ b → (r.2.1 a).2.1 ≠ (r.2.1 b).2.1) ∧ (am_kd.getD ci []).length = r.2.2 ∧ ∀ k, k < r.2.2 → am_kb ci k = true := by
  match ci, h with
  | 0, h => cases h; exact ⟨am_lays inX0 (by decide +kernel), tyX0_ok, nmX0, rfl, by decide +kernel⟩
  | 1, h => cases h; exact ⟨am_lays inX1 (by decide +kernel), tyX1_ok, nmX1, rfl, by decide +kernel⟩
  | 2, h => cases h; exact ⟨am_lays inX2 (by decide +kernel), tyX2_ok, nmX2, rfl, by decide +kernel⟩
  | 3, h => cases h; exact ⟨am_lays inX3 (by decide +kernel), tyX3_ok, nmX3, rfl, by decide +kernel⟩
  | 4, h => cases h; exact ⟨am_lays inX5 (by decide +kernel), tyX5_ok, nmX5, rfl, by decide +kernel⟩
  | 5, h => cases h; exact ⟨am_lays inX6 (by decide +kernel), tyX6_ok, nmX6, rfl, by decide +kernel⟩
  | 6, h => cases h; exact ⟨am_lays inX7 (by decide +kernel), tyX7_ok, nmX7, rfl, by decide +kernel⟩
  | 7, h => cases h; exact ⟨am_lays inX10 (by decide +kernel), tyX10_ok, nmX10, rfl, by decide +kernel⟩
  | 8, h => cases h; exact ⟨am_lays inX11 (by decide +kernel), tyX11_ok, nmX11, rfl, by decide +kernel⟩
  | 9, h => cases h; exact ⟨am_lays inX12 (by decide +kernel), tyX12_ok, nmX12, rfl, by decide +kernel⟩
  | k + 10, h => simp at h
/-! locals -/
theorem am_tv_cat (G : am_G) (v : Value) (h : v.category = 1) : (am_tv G v).category = 1 := by
  cases v <;> first | rfl | exact h
def am_ll (G : am_G) (ls : List Value) : List (Nat × Value) := (List.range ls.length).filterMap (fun i => match ls[i]? with
  | some v => if v.category = 1 then some (i, am_tv G v) else none
  | none => none)
theorem am_ll_mem {G : am_G} {ls : List Value} {i : Nat} {v : Value} (h : ls[i]? = some v) (hc : v.category = 1) : (i, am_tv G v) ∈ am_ll G ls := by
  refine List.mem_filterMap.mpr ⟨i, List.mem_range.mpr (List.getElem?_eq_some_iff.mp h).1, ?_⟩
  rw [h]
  simp [hc]
theorem am_Lo.has {G : am_G} {lsC : Array Slot} {nL : Nat} {ls : List Value} (h : am_Lo G lsC nL ls) : lv_has lsC nL (am_ll G ls) := by
  refine ⟨h.1, h.2.1, fun q hq => ?_⟩
  obtain ⟨i, -, hi⟩ := List.mem_filterMap.mp hq
  split at hi
  · rename_i v hv
    split at hi
    · rename_i hc
      cases hi
      exact h.2.2.2 i v hv hc
    · cases hi
  · cases hi
theorem am_Lo.set {G : am_G} {lsC lsC' : Array Slot} {nL : Nat} {ls : List Value} {i : Nat} {v : Value} (h : am_Lo G lsC nL ls) (hi : i < nL) (hc : v.category = 1) (hn : lv_has lsC' nL ((i, am_tv G v) :: (am_ll G ls).filter (fun q => !(q.1 == i) && !(q.1 + 1 == i && q.2.category == 2)))) : am_Lo G lsC' nL (ls.set i v) := by
  refine ⟨hn.1, hn.2.1, by rw [List.length_set]; exact h.2.2.1, fun j w hj hw => ?_⟩
  by_cases e : i = j
  · subst e
    rw [List.getElem?_set_self (by rw [h.2.2.1]; exact hi)] at hj
    cases hj
    exact hn.2.2 _ (List.mem_cons_self)
  · rw [List.getElem?_set_ne e] at hj
    refine hn.2.2 (j, am_tv G w) (List.mem_cons_of_mem _ (List.mem_filter.mpr ⟨am_ll_mem hj hw, ?_⟩))
    have h1 : (j == i) = false := by simp [Ne.symm e]
    have h2 : ((am_tv G w).category == 2) = false := by rw [am_tv_cat G w hw]; rfl
    simp [h1, h2]
/-! switches -/
theorem am_ofInt_eq {x : Int32} {k : Int} (h1 : -2147483648 ≤ k) (h2 : k ≤ 2147483647) : x = Int32.ofInt k ↔ x.toInt = k := by
  constructor
  · intro h
    rw [h, Int32.toInt_ofInt]
    have e : (Int32.size : Int) = 4294967296 := rfl
    exact Int.bmod_eq_of_le (by omega) (by omega)
  · intro h
    rw [← h, Int32.ofInt_toInt]
theorem am_tsel_eq (pc : Nat) (d : Int) (x : Int32) : ∀ (os : List Int) (k : Int), -2147483648 ≤ k → k + os.length ≤ 2147483648 → am_tsel pc d x k os = am_tg pc (if k ≤ x.toInt ∧ x.toInt < k + os.length then os.getD (x.toInt - k).toNat d else d)
  | [], k, _, _ => by
    simp only [List.getD_nil, ite_self]
    rfl
  | o :: r, k, h1, h2 => by
    simp only [List.length_cons] at h2 ⊢
    unfold am_tsel
    by_cases hx : x.toInt = k
    · rw [if_pos ((am_ofInt_eq h1 (by omega)).mpr hx), if_pos (by omega), hx]
      simp
    · rw [if_neg (fun q => hx ((am_ofInt_eq h1 (by omega)).mp q)), am_tsel_eq pc d x r (k + 1) (by omega) (by omega)]
      by_cases hr : k ≤ x.toInt ∧ x.toInt < k + ((r.length + 1 : Nat) : Int)
      · rw [if_pos (by omega), if_pos hr]
        congr 1
        have e1 : (x.toInt - k).toNat = (x.toInt - (k + 1)).toNat + 1 := by omega
        rw [e1]
        simp
      · rw [if_neg (by omega), if_neg hr]
theorem am_lsel_eq (pc : Nat) (d : Int) (x : Int32) : ∀ (ps : List (Int × Int)), (∀ q ∈ ps, -2147483648 ≤ q.1 ∧ q.1 ≤ 2147483647) → am_lsel pc d x ps = am_tg pc (Op.lookupswitch.offset ps d x.toInt)
  | [], _ => rfl
  | q :: r, h => by
    have hq := h q List.mem_cons_self
    unfold am_lsel
    rw [am_lsel_eq pc d x r (fun z hz => h z (List.mem_cons_of_mem _ hz))]
    obtain ⟨a, b⟩ := q
    by_cases hx : x.toInt = a
    · rw [if_pos ((am_ofInt_eq hq.1 hq.2).mpr hx)]
      simp [Op.lookupswitch.offset, hx]
    · rw [if_neg (fun z => hx ((am_ofInt_eq hq.1 hq.2).mp z))]
      simp [Op.lookupswitch.offset, Ne.symm hx]
end
section
section AMS
variable {l : Launch} {G : am_G} {p : Program} {e : Env} {R : Room} {s : State} {m : MethodId} {args : Array Value} {below : List Frame} {meth : Method} {c : Code} {Z : State → Prop} {M : am_M} {cells slots : Nat} {tb : Nat → Nat × (Nat → Int32)}
/-- a field that the tables know, of an object that is there -/
theorem am_obj {h : am_H} {H : Heap} (hH : am_Hp G h H) {o ci : Nat} {r : vw_C} (ho : h.1 o = .inl ci) (hr : vwCl[ci]? = some r) : o < h.2.2.2.1 ∧ t_OB (G.2.2.1 + o) (G.1.1 ci) r.2.2 (G.1.2 ci) H (vp_V ((List.range (am_kd.getD ci []).length).map (fun k => am_tv G (am_fv h o ci k)))) := by
  have hlt : o < h.2.2.2.1 := by
    rcases Nat.lt_or_ge o h.2.2.2.1 with q | q
    · exact q
    · have := hH.2.2.1 o q
      rw [ho] at this
      cases this
      simp at hr
  refine ⟨hlt, ?_⟩
  have h1 := hH.2.1 o hlt
  unfold am_cell at h1
  rw [ho] at h1
  obtain ⟨r', e1, e2⟩ := h1
  have e1 : vwCl[ci]? = some r' := e1
  rw [hr] at e1
  cases e1
  exact e2
theorem am_lk_mem {α : Type} {i : Nat} {a : α} : ∀ {l : List (Nat × α)}, am_lk i l = some a → (i, a) ∈ l
  | [], h => by cases h
  | q :: r, h => by
    unfold am_lk at h
    split at h
    · rename_i hb
      have e1 := Nat.eq_of_beq_eq_true hb
      have e2 := Option.some.inj h
      subst e1
      subst e2
      exact List.mem_cons_self
    · exact List.mem_cons_of_mem _ (am_lk_mem h)
theorem am_Fof (hM : am_Mok M) {idx ci k : Nat} (h : am_fl M idx ci = some k) : am_Fok M idx k ci := by
  unfold am_fl at h
  split at h
  · rename_i k0 cs hlk
    split at h
    · rename_i hc
      cases h
      exact hM.2.2.2.1 (idx, k, cs) (am_lk_mem hlk) ci (by simpa using hc)
    · cases h
  · cases h
theorem am_fs_len {h : am_H} {o ci : Nat} {r : vw_C} (hr : vwCl[ci]? = some r) : ((List.range (am_kd.getD ci []).length).map (fun k => am_tv G (am_fv h o ci k))).length = r.2.2 := by
  rw [List.length_map, List.length_range]; exact (am_cls hr).2.2.2.1
theorem am_fs_get {h : am_H} {o ci k : Nat} {r : vw_C} (hr : vwCl[ci]? = some r) (hk : k < r.2.2) : ((List.range (am_kd.getD ci []).length).map (fun k => am_tv G (am_fv h o ci k)))[k]? = some (am_tv G (am_fv h o ci k)) := by
  rw [List.getElem?_map, List.getElem?_range (by rw [(am_cls hr).2.2.2.1]; exact hk)]
  rfl
set_option maxHeartbeats 4000000 in
theorem am_gf_s (cx : am_Cx G M tb p s m args meth c) (hM : am_Mok M) {idx pc : Nat} (hd : decode (am_cc M) pc = .ok (.getfield idx, 3)) {ls st ls' st' : List Value} {pc' : Nat} {h h' : am_H} (hs : am_gf M idx pc ls st h = some (pc', ls', st', h')) (K : am_W l G p e R s m args below meth c Z M cells slots pc' ls' st' h') : am_W l G p e R s m args below meth c Z M cells slots pc ls st h := by
  obtain ⟨hx, hb, hr, hml, hown, hts, hlocks, hnm, hK, hT, hbase⟩ := cx
  unfold am_gf at hs
  split at hs
  · rename_i o rest
    split at hs
    · rename_i ci ho
      split at hs
      · rename_i k hk
        cases hs
        obtain ⟨r, hr1, hkN, hlink⟩ := am_Fof hM hk
        intro lsC H locs hL hH hS
        obtain ⟨hlt, hob⟩ := am_obj hH ho hr1
        exact va_get (D := G.1) (ci := ci) (cl := vwCl) (ws := [(G.2.2.1 + o, .inr (ci, (List.range (am_kd.getD ci []).length).map (fun k => am_tv G (am_fv h o ci k))))]) (C := r.1) (T := r.2.1) (N := r.2.2) hx hb hts (am_cls hr1).1 hown hK (fun q z hz => by
          cases q with
          | zero => cases hz; exact ⟨r, hr1, hob⟩
          | succ q => simp at hz) 0 rfl hr1 k hkN (hts _ hlink) (fun _ h9 => h9) (am_fs_get hr1 hkN) hd (K lsC H locs hL hH hS)
      · cases hs
    · cases hs
  · cases hs
/-- stores of one int in the heap -/
theorem am_tgt {pc : Nat} {off : Int} (h : decide (0 ≤ (pc : Int) + off) = true) : (pc : Int) + off = ((am_tg pc off : Nat) : Int) := by
  have := of_decide_eq_true h
  unfold am_tg
  omega
theorem am_lt_not {x y : Int32} : y ≤ x ↔ ¬ x < y := ⟨fun h => Int32.not_lt.mpr h, fun h => Int32.not_lt.mp h⟩
theorem am_brk {c0 : Prop} [Decidable c0] {a b : Nat} {ls st : List Value} {h : am_H} (K : am_W l G p e R s m args below meth c Z M cells slots (if c0 then a else b) ls st h) : (c0 → am_W l G p e R s m args below meth c Z M cells slots a ls st h) ∧ (¬ c0 → am_W l G p e R s m args below meth c Z M cells slots b ls st h) := ⟨fun hc => by rw [if_pos hc] at K; exact K, fun hc => by rw [if_neg hc] at K; exact K⟩
set_option maxHeartbeats 4000000 in
theorem am_if_s (cx : am_Cx G M tb p s m args meth c) {cd : Jvm.ClassFile.Cond} {off : Int} {pc : Nat} (hd : decode (am_cc M) pc = .ok (.ifCond cd off, 3)) (ht : decide (0 ≤ (pc : Int) + off) = true) {ls st ls' st' : List Value} {pc' : Nat} {h h' : am_H} (hs : am_if cd off pc ls st h = some (pc', ls', st', h')) (K : am_W l G p e R s m args below meth c Z M cells slots pc' ls' st' h') : am_W l G p e R s m args below meth c Z M cells slots pc ls st h := by
  obtain ⟨hx, hb, hr, hml, hown, hts, hlocks, hnm, hK, hT, hbase⟩ := cx
  unfold am_if at hs
  split at hs
  · rename_i x rest
    intro lsC H locs hL hH hS
    cases cd with
    | eq => cases hs; exact lv_if_eq hx hb hd (am_tgt ht) (fun q => (am_brk K).1 q lsC H locs hL hH hS) (fun q => (am_brk K).2 q lsC H locs hL hH hS)
    | ne => cases hs; exact lv_if_ne hx hb hd (am_tgt ht) (fun q => (am_brk K).2 q lsC H locs hL hH hS) (fun q => (am_brk K).1 q lsC H locs hL hH hS)
    | lt => cases hs; exact lv_if_lt hx hb hd (am_tgt ht) (fun q => (am_brk K).1 q lsC H locs hL hH hS) (fun q => (am_brk K).2 q lsC H locs hL hH hS)
    | ge => cases hs; exact lv_if_ge hx hb hd (am_tgt ht) (fun q => (am_brk K).2 (am_lt_not.mp q) lsC H locs hL hH hS) (fun q => (am_brk K).1 (Classical.byContradiction fun z => q (am_lt_not.mpr z)) lsC H locs hL hH hS)
    | gt => cases hs; exact lv_if_gt hx hb hd (am_tgt ht) (fun q => (am_brk K).1 q lsC H locs hL hH hS) (fun q => (am_brk K).2 q lsC H locs hL hH hS)
    | le => cases hs; exact lv_if_le hx hb hd (am_tgt ht) (fun q => (am_brk K).2 (am_lt_not.mp q) lsC H locs hL hH hS) (fun q => (am_brk K).1 (Classical.byContradiction fun z => q (am_lt_not.mpr z)) lsC H locs hL hH hS)
  · cases hs
set_option maxHeartbeats 4000000 in
theorem am_ic_s (cx : am_Cx G M tb p s m args meth c) {cd : Jvm.ClassFile.Cond} {off : Int} {pc : Nat} (hd : decode (am_cc M) pc = .ok (.if_icmp cd off, 3)) (ht : decide (0 ≤ (pc : Int) + off) = true) {ls st ls' st' : List Value} {pc' : Nat} {h h' : am_H} (hs : am_ic cd off pc ls st h = some (pc', ls', st', h')) (K : am_W l G p e R s m args below meth c Z M cells slots pc' ls' st' h') : am_W l G p e R s m args below meth c Z M cells slots pc ls st h := by
  obtain ⟨hx, hb, hr, hml, hown, hts, hlocks, hnm, hK, hT, hbase⟩ := cx
  unfold am_ic at hs
  split at hs
  · rename_i y x rest
    intro lsC H locs hL hH hS
    cases cd with
    | eq => cases hs; exact lv_icmp_eq hx hb hd (am_tgt ht) (fun q => (am_brk K).1 q lsC H locs hL hH hS) (fun q => (am_brk K).2 q lsC H locs hL hH hS)
    | ne => cases hs; exact lv_icmp_ne hx hb hd (am_tgt ht) (fun q => (am_brk K).2 q lsC H locs hL hH hS) (fun q => (am_brk K).1 q lsC H locs hL hH hS)
    | lt => cases hs; exact lv_icmp_lt hx hb hd (am_tgt ht) (fun q => (am_brk K).1 q lsC H locs hL hH hS) (fun q => (am_brk K).2 q lsC H locs hL hH hS)
    | ge => cases hs; exact lv_icmp_ge hx hb hd (am_tgt ht) (fun q => (am_brk K).2 (am_lt_not.mp q) lsC H locs hL hH hS) (fun q => (am_brk K).1 (Classical.byContradiction fun z => q (am_lt_not.mpr z)) lsC H locs hL hH hS)
    | gt => cases hs; exact lv_icmp_gt hx hb hd (am_tgt ht) (fun q => (am_brk K).1 q lsC H locs hL hH hS) (fun q => (am_brk K).2 q lsC H locs hL hH hS)
    | le => cases hs; exact lv_icmp_le hx hb hd (am_tgt ht) (fun q => (am_brk K).2 (am_lt_not.mp q) lsC H locs hL hH hS) (fun q => (am_brk K).1 (Classical.byContradiction fun z => q (am_lt_not.mpr z)) lsC H locs hL hH hS)
  · cases hs
set_option maxHeartbeats 4000000 in
theorem am_ts_s (cx : am_Cx G M tb p s m args meth c) {d lo hi : Int} {offs : Array Int} {pc len : Nat} (hd : decode (am_cc M) pc = .ok (.tableswitch d lo hi offs, len)) (ht : am_chk1 M pc (.tableswitch d lo hi offs) = true) {ls st ls' st' : List Value} {pc' : Nat} {h h' : am_H} (hs : am_ts d lo offs pc ls st h = some (pc', ls', st', h')) (K : am_W l G p e R s m args below meth c Z M cells slots pc' ls' st' h') : am_W l G p e R s m args below meth c Z M cells slots pc ls st h := by
  obtain ⟨hx, hb, hr, hml, hown, hts, hlocks, hnm, hK, hT, hbase⟩ := cx
  unfold am_chk1 at ht
  simp only [Bool.and_eq_true, List.all_eq_true, decide_eq_true_eq] at ht
  obtain ⟨⟨⟨⟨⟨t1, t2⟩, t3⟩, t4⟩, t5⟩, t6⟩ := ht
  unfold am_ts at hs
  split at hs
  · rename_i x rest
    cases hs
    intro lsC H locs hL hH hS
    rw [am_tsel_eq pc d x offs.toList lo t4 (by omega)] at K
    by_cases hc : lo ≤ x.toInt ∧ x.toInt < lo + offs.toList.length
    · rw [if_pos hc] at K
      have hlt : (x.toInt - lo).toNat < offs.toList.length := by omega
      have hget : offs.toList[(x.toInt - lo).toNat]? = some (offs.toList.getD (x.toInt - lo).toNat d) := by
        rw [List.getD_eq_getElem?_getD, List.getElem?_eq_getElem hlt]; rfl
      refine lv_tableIn hx hb hd (by omega) (by omega) (off := offs.toList.getD (x.toInt - lo).toNat d) (by rw [← Array.getElem?_toList]; exact hget) (am_tgt (decide_eq_true (t2 _ (List.mem_of_getElem? hget)))) (K lsC H locs hL hH hS)
    · rw [if_neg hc] at K
      exact lv_tableOut hx hb hd (by omega) (am_tgt (decide_eq_true t1)) (K lsC H locs hL hH hS)
  · cases hs
theorem am_lk_off {P : Int → Prop} {d x : Int} : ∀ {ps : List (Int × Int)}, P d → (∀ q ∈ ps, P q.2) → P (Op.lookupswitch.offset ps d x)
  | [], h, _ => h
  | q :: r, h, hq => by
    obtain ⟨a, b⟩ := q
    by_cases e : a = x
    · have : Op.lookupswitch.offset ((a, b) :: r) d x = b := by simp [Op.lookupswitch.offset, e]
      rw [this]
      exact hq (a, b) List.mem_cons_self
    · have : Op.lookupswitch.offset ((a, b) :: r) d x = Op.lookupswitch.offset r d x := by simp [Op.lookupswitch.offset, e]
      rw [this]
      exact am_lk_off h (fun z hz => hq z (List.mem_cons_of_mem _ hz))
set_option maxHeartbeats 4000000 in
theorem am_lsw_s (cx : am_Cx G M tb p s m args meth c) {d : Int} {ps : Array (Int × Int)} {pc len : Nat} (hd : decode (am_cc M) pc = .ok (.lookupswitch d ps, len)) (ht : am_chk1 M pc (.lookupswitch d ps) = true) {ls st ls' st' : List Value} {pc' : Nat} {h h' : am_H} (hs : am_lsw d ps pc ls st h = some (pc', ls', st', h')) (K : am_W l G p e R s m args below meth c Z M cells slots pc' ls' st' h') : am_W l G p e R s m args below meth c Z M cells slots pc ls st h := by
  obtain ⟨hx, hb, hr, hml, hown, hts, hlocks, hnm, hK, hT, hbase⟩ := cx
  unfold am_chk1 at ht
  rw [Bool.and_eq_true, Bool.and_eq_true, List.all_eq_true] at ht
  obtain ⟨⟨t1, t2⟩, t3⟩ := ht
  have t2' : ∀ q ∈ ps.toList, 0 ≤ (pc : Int) + q.2 ∧ -2147483648 ≤ q.1 ∧ q.1 ≤ 2147483647 := fun q hq => by
    have := t2 q hq
    simp only [Bool.and_eq_true, decide_eq_true_eq] at this
    exact ⟨this.1.1, this.1.2, this.2⟩
  unfold am_lsw at hs
  split at hs
  · rename_i x rest
    cases hs
    intro lsC H locs hL hH hS
    rw [am_lsel_eq pc d x ps.toList (fun q hq => (t2' q hq).2)] at K
    refine lv_lookup hx hb hd t3 rfl (am_tgt ?_) (K lsC H locs hL hH hS)
    exact am_lk_off (P := fun o => decide (0 ≤ (pc : Int) + o) = true) t1 (fun q hq => decide_eq_true (t2' q hq).1)
  · cases hs
end AMS
end
section
section AMT
variable {l : Launch} {G : am_G} {p : Program} {e : Env} {R : Room} {s : State} {m : MethodId} {args : Array Value} {below : List Frame} {meth : Method} {c : Code} {Z : State → Prop} {M : am_M} {cells slots : Nat} {tb : Nat → Nat × (Nat → Int32)}
theorem am_ary {h : am_H} {H : Heap} (hH : am_Hp G h H) {o t n : Nat} (ho : h.1 o = .inr (t, n)) : o < h.2.2.2.1 ∧ H[G.2.2.1 + o]? = some (vp_cell (G.2.1 t) (n, am_arrv G h o t)) := by
  have hlt : o < h.2.2.2.1 := by
    rcases Nat.lt_or_ge o h.2.2.2.1 with q | q
    · exact q
    · have := hH.2.2.1 o q
      rw [ho] at this
      cases this
  refine ⟨hlt, ?_⟩
  have h1 := hH.2.1 o hlt
  unfold am_cell at h1
  rw [ho] at h1
  exact h1
theorem am_tyof (hK : va_K G.1 vwCl (am_tys G) s) {t : Nat} (ht : t < 3) : ∃ ty, am_tys G = am_tys G ∧ (am_tys G)[t]? = some (G.2.1 t, ty) ∧ ArrOfT s (G.2.1 t) ty := by
  match t, ht with
  | 0, _ => exact ⟨.int, rfl, rfl, (hK.2 0 _ rfl).1⟩
  | 1, _ => exact ⟨.boolean, rfl, rfl, (hK.2 1 _ rfl).1⟩
  | 2, _ => exact ⟨.array .int, rfl, rfl, (hK.2 2 _ rfl).1⟩
theorem am_isArr (hK : va_K G.1 vwCl (am_tys G) s) {h : am_H} {o t n : Nat} (ht : t < 3) : ∃ ty, s.isArrayOf (vp_cell (G.2.1 t) (n, am_arrv G h o t)) ty := by
  obtain ⟨ty, -, -, ha⟩ := am_tyof hK ht
  refine ⟨ty, ?_⟩
  unfold am_arrv
  split
  · exact ha n _
  · exact ha n _
theorem am_csz {h : am_H} {o t n : Nat} : (vp_cell (G.2.1 t) (n, am_arrv G h o t)).slots.size = n := by
  unfold am_arrv
  split
  · exact arrV_size _ _ _
  · exact arrV_size _ _ _
theorem am_cvm {h : am_H} {o t n : Nat} : (vp_cell (G.2.1 t) (n, am_arrv G h o t)).vm ≠ .unknown := by
  unfold am_arrv
  split <;> (intro q; cases q)
theorem am_rest {h h' : am_H} {H H1 : Heap} {o : Nat} (hH : am_Hp G h H) (h1 : h'.1 = h.1) (h2 : h'.2.2.2 = h.2.2.2) (hc : ∀ i, i ≠ o → am_cell G h' i = am_cell G h i) (ho : o < h.2.2.2.1 → va_at G.1 vwCl (G.2.2.1 + o, am_cell G h' o) H1) (hz : H1.size = H.size) (hq : ∀ q : Nat, q ≠ G.2.2.1 + o → H1[q]? = H[q]?) : am_Hp G h' H1 := by
  refine ⟨by rw [hz, hH.1, h2], fun i hi => ?_, fun i hi => ?_, fun i t n hi => ?_⟩
  · rw [h2] at hi
    by_cases e : i = o
    · subst e; exact ho hi
    · rw [hc i e]
      exact (hH.2.1 i hi).kept (hq _ (fun z => e (Nat.add_left_cancel z)))
  · rw [h2] at hi; rw [h1]; exact hH.2.2.1 i hi
  · rw [h1] at hi; exact hH.2.2.2 i t n hi
theorem am_Sput {H H1 : Heap} {locs : List Loc} {o k : Nat} (hS : va_S (am_A G) s.heap H locs) (hz : H1.size = H.size) (hq : ∀ q : Nat, q ≠ G.2.2.1 + o → H1[q]? = H[q]?) : va_S (am_A G) s.heap H1 (locs ++ [⟨G.2.2.1 + o, k⟩]) := hS.put hz hq (Nat.le_add_right _ _)
theorem am_chkF {pc idx k ci : Nat} (hk : am_fl M idx ci = some k) (hchk : am_chk1 M pc (.putfield idx) = true) {r : vw_C} (hr : vwCl[ci]? = some r) : (r.2.1 k).2.2.2 = false ∨ ((am_y M).name = "<init>" ∧ (r.2.1 k).1 = (am_y M).cls) := by
  unfold am_fl at hk
  split at hk
  · rename_i k0 cs hlk
    split at hk
    · rename_i hc
      cases hk
      unfold am_chk1 at hchk
      dsimp only at hchk
      rw [hlk] at hchk
      dsimp only at hchk
      have hm : ci ∈ cs := by simpa using hc
      have := List.all_eq_true.mp hchk ci hm
      rw [hr] at this
      dsimp only at this
      rw [Bool.or_eq_true, Bool.and_eq_true] at this
      rcases this with q | q
      · exact Or.inl (by simpa using q)
      · exact Or.inr ⟨by simpa using q.1, by simpa using q.2⟩
    · cases hk
  · cases hk
set_option maxHeartbeats 4000000 in
theorem am_putW (cx : am_Cx G M tb p s m args meth c) (hM : am_Mok M) {idx pc ci k o : Nat} (hk : am_fl M idx ci = some k) {h h' : am_H} (ho : h.1 o = .inl ci) {v : Value} (hn : narrow (am_ti ci k) v = v) (hfit : fits (am_ti ci k) v = true) (hd : decode (am_cc M) pc = .ok (.putfield idx, 3)) (hchk : am_chk1 M pc (.putfield idx) = true)
    (h1 : h'.1 = h.1) (h2 : h'.2.2.2 = h.2.2.2) (hc : ∀ i, i ≠ o → am_cell G h' i = am_cell G h i) (hco : ∀ j, am_tv G (am_fv h' o ci j) = if j = k then v else am_tv G (am_fv h o ci j))
    {lsC : Array Slot} {H : Heap} {locs : List Loc} {rest : List Value} (hH : am_Hp G h H) (hS : va_S (am_A G) s.heap H locs)
    (kk : ∀ (H1 : Heap) (locs1 : List Loc), am_Hp G h' H1 → va_S (am_A G) s.heap H1 locs1 → W p l e R s m args below meth c H1 locs1 cells slots Z (F0 m (pc + 3) lsC rest)) : W p l e R s m args below meth c H locs cells slots Z (F0 m pc lsC (v :: .ref (G.2.2.1 + o) :: rest)) := by
  obtain ⟨hx, hb, hr, hml, hown, hts, hlocks, hnm, hK, hT, hbase⟩ := cx
  obtain ⟨r, hr1, hkN, hlink⟩ := am_Fof hM hk
  obtain ⟨hlt, cell, q1, q2, q3, q4⟩ := am_obj hH ho hr1
  obtain ⟨hin, hty, hnmx, hlen, -⟩ := am_cls hr1
  have hap := va_apart (own := am_own M) hts hin (am_ti ci) hty hnmx hK hr1
  obtain ⟨hSl, hfc, kC, hkC, hkind⟩ := hK.1 ci _ hr1
  obtain ⟨cf, kf, fi, f, hi, hsl⟩ := hSl k hkN
  have hlay := hts _ (hin _ (u_in_lay hkN))
  have hst := (u_facts hfc hkC (u_lays hts hin hkN) hi).1
  have fin : ∀ H' : Heap, H'[G.2.2.1 + o]? = some (cell.setSlot (G.1.2 ci k) v) → H'.size = H.size → (∀ q : Nat, q ≠ G.2.2.1 + o → H'[q]? = H[q]?) → am_Hp G h' H' := by
    intro H' e1 e2 e3
    refine am_rest hH h1 h2 hc (fun _ => ?_) e2 e3
    have e4 : am_cell G h' o = .inr (ci, (List.range (am_kd.getD ci []).length).map (fun k => am_tv G (am_fv h' o ci k))) := by
      unfold am_cell
      rw [h1, ho]
    rw [e4]
    refine ⟨r, hr1, t_OB.to (V := updV (vp_V ((List.range (am_kd.getD ci []).length).map (fun k => am_tv G (am_fv h o ci k)))) k v) ⟨_, e1, q2, q3, t_set q4 hap hkN v⟩ (fun j hj => ?_)⟩
    have g1 : ∀ hh : am_H, vp_V ((List.range (am_kd.getD ci []).length).map (fun k => am_tv G (am_fv hh o ci k))) j = am_tv G (am_fv hh o ci j) := fun hh => by
      unfold vp_V
      rw [List.getD_eq_getElem?_getD, am_fs_get hr1 hj]
      rfl
    rw [g1, hco]
    unfold updV
    split
    · rfl
    · exact g1 h
  unfold u_lay at hlay
  rcases am_chkF hk hchk hr1 with hf | ⟨hf1, hf2⟩
  · rw [if_neg (by rw [hf]; decide)] at hlay
    have h6 := u_store hfc hkC hkind hlay hi (hty k hkN) hn hfit
    refine W.putK hx hb (f := f) ⟨hown, hts _ hlink, ⟨_, _, _, hi⟩, hst⟩ (by rw [q2]; exact h6) q1 q3 (by rw [hsl]; exact k2_hasslot (q4 k hkN)) rfl rfl hd fun H' e1 e2 e3 => ?_
    rw [hsl] at e1 ⊢
    exact kk H' _ (fin H' e1 e2 e3) (am_Sput hS e2 e3)
  · by_cases hf : (r.2.1 k).2.2.2 = true
    · rw [if_pos hf] at hlay
      have hcf : m.cls = cf := by
        obtain ⟨_, _, c', _, _, _, -, -, hf', -, -, -, hown2, -⟩ := Cond.laysFinal_spec hlay
        have e1 : c' = cf := by have := hi.symm.trans hf'; simp at this; exact this.1.symm
        rw [hf2] at hown2
        rw [← e1]; exact Option.some.inj (hown.symm.trans hown2)
      have h6 := u_fits hfc hkC hkind (Or.inr hlay) hi (hty k hkN) hn hfit
      refine W.putFinK hx hb hown (hts _ hlink) hi hst hcf (hnm.trans hf1) (by rw [q2]; exact h6) q1 q3 (by rw [hsl]; exact k2_hasslot (q4 k hkN)) rfl rfl hd fun H' e1 e2 e3 => ?_
      rw [hsl] at e1 ⊢
      exact kk H' _ (fin H' e1 e2 e3) (am_Sput hS e2 e3)
    · have hf : (r.2.1 k).2.2.2 = false := by simpa using hf
      rw [if_neg (by rw [hf]; decide)] at hlay
      have h6 := u_store hfc hkC hkind hlay hi (hty k hkN) hn hfit
      refine W.putK hx hb (f := f) ⟨hown, hts _ hlink, ⟨_, _, _, hi⟩, hst⟩ (by rw [q2]; exact h6) q1 q3 (by rw [hsl]; exact k2_hasslot (q4 k hkN)) rfl rfl hd fun H' e1 e2 e3 => ?_
      rw [hsl] at e1 ⊢
      exact kk H' _ (fin H' e1 e2 e3) (am_Sput hS e2 e3)
/-- an int written in the abstract heap: which cells change -/
theorem am_cell_u {h : am_H} {o k : Nat} {v : Int32} : ∀ i, i ≠ o → am_cell G (h.1, h.2.1, am_u h.2.2.1 o k v, h.2.2.2) i = am_cell G h i := by
  intro i hi
  have e1 : am_u h.2.2.1 o k v i = h.2.2.1 i := by
    funext j
    unfold am_u
    rw [if_neg (fun q => hi q.1)]
  unfold am_cell am_arrv am_fv
  dsimp only
  rw [e1]
theorem am_cell_r {h : am_H} {o k : Nat} {v : Option Nat} : ∀ i, i ≠ o → am_cell G (h.1, am_ur h.2.1 o k v, h.2.2) i = am_cell G h i := by
  intro i hi
  have e1 : am_ur h.2.1 o k v i = h.2.1 i := by
    funext j
    unfold am_ur
    rw [if_neg (fun q => hi q.1)]
  unfold am_cell am_arrv am_fv
  dsimp only
  rw [e1]
theorem am_fv_u {h : am_H} {o ci k : Nat} {v : Int32} (hk : am_k ci k ≠ 2) (j : Nat) : am_tv G (am_fv (h.1, h.2.1, am_u h.2.2.1 o k v, h.2.2.2) o ci j) = if j = k then .int v else am_tv G (am_fv h o ci j) := by
  unfold am_fv am_u
  dsimp only
  by_cases e : j = k
  · subst e
    have : Nat.beq (am_k ci j) 2 = false := by
      cases q : Nat.beq (am_k ci j) 2
      · rfl
      · exact absurd (Nat.eq_of_beq_eq_true q) hk
    rw [this]
    simp [am_tv]
  · simp [e]
theorem am_fv_r {h : am_H} {o ci k v : Nat} (hk : am_k ci k = 2) (j : Nat) : am_tv G (am_fv (h.1, am_ur h.2.1 o k (some v), h.2.2) o ci j) = if j = k then .ref (G.2.2.1 + v) else am_tv G (am_fv h o ci j) := by
  unfold am_fv am_ur
  dsimp only
  by_cases e : j = k
  · subst e
    rw [hk]
    simp [am_tv, am_vr]
  · simp [e]
set_option maxHeartbeats 4000000 in
theorem am_pf_s (cx : am_Cx G M tb p s m args meth c) (hM : am_Mok M) {idx pc : Nat} (hd : decode (am_cc M) pc = .ok (.putfield idx, 3)) (hchk : am_chk1 M pc (.putfield idx) = true) {ls st ls' st' : List Value} {pc' : Nat} {h h' : am_H} (hs : am_pf M idx pc ls st h = some (pc', ls', st', h')) (K : am_W l G p e R s m args below meth c Z M cells slots pc' ls' st' h') : am_W l G p e R s m args below meth c Z M cells slots pc ls st h := by
  unfold am_pf at hs
  split at hs
  · rename_i v o rest
    split at hs
    · rename_i ci ho
      split at hs
      · rename_i k hk
        split at hs
        · rename_i hk0
          cases hs
          obtain ⟨r, hr1, hkN, hlink⟩ := am_Fof hM hk
          have hty : am_ti ci k = .int := by
            rcases am_kb_of ((am_cls hr1).2.2.2.2 k hkN) with q | q | q
            · exact q.2
            · rw [hk0] at q; cases q.1
            · rw [hk0] at q; cases q.1
          intro lsC H locs hL hH hS
          exact am_putW (h' := (h.1, h.2.1, am_u h.2.2.1 o k v, h.2.2.2)) cx hM hk ho (v := .int v) (by rw [hty]; rfl) (by rw [hty]; rfl) hd hchk rfl rfl am_cell_u (am_fv_u (by rw [hk0]; decide)) hH hS (fun H1 locs1 g1 g2 => K lsC H1 locs1 hL g1 g2)
        · cases hs
      · cases hs
    · cases hs
  · rename_i v o rest
    split at hs
    · rename_i ci ho
      split at hs
      · rename_i k hk
        split at hs
        · rename_i hk0
          have hk0 := Nat.eq_of_beq_eq_true hk0
          cases hs
          obtain ⟨r, hr1, hkN, hlink⟩ := am_Fof hM hk
          have hty : (∃ n, am_ti ci k = .object n) ∨ ∃ n, am_ti ci k = .array n := by
            rcases am_kb_of ((am_cls hr1).2.2.2.2 k hkN) with q | q | q
            · rw [hk0] at q; cases q.1
            · rw [hk0] at q; cases q.1
            · exact q.2
          intro lsC H locs hL hH hS
          exact am_putW (h' := (h.1, am_ur h.2.1 o k (some v), h.2.2)) cx hM hk ho (v := .ref (G.2.2.1 + v)) (by rcases hty with ⟨n, q⟩ | ⟨n, q⟩ <;> rw [q] <;> rfl) (by rcases hty with ⟨n, q⟩ | ⟨n, q⟩ <;> rw [q] <;> rfl) hd hchk rfl rfl am_cell_r (am_fv_r hk0) hH hS (fun H1 locs1 g1 g2 => K lsC H1 locs1 hL g1 g2)
        · cases hs
      · cases hs
    · cases hs
  · cases hs
theorem am_len_s (cx : am_Cx G M tb p s m args meth c) {pc : Nat} (hd : decode (am_cc M) pc = .ok (.arraylength, 1)) {ls st ls' st' : List Value} {pc' : Nat} {h h' : am_H} (htb : h.2.2.2.2 = tb) (hs : am_len pc ls st h = some (pc', ls', st', h')) (K : am_W l G p e R s m args below meth c Z M cells slots pc' ls' st' h') : am_W l G p e R s m args below meth c Z M cells slots pc ls st h := by
  obtain ⟨hx, hb, hr, hml, hown, hts, hlocks, hnm, hK, hT, hbase⟩ := cx
  unfold am_len at hs
  split at hs
  · rename_i o rest
    split at hs
    · rename_i q ho
      obtain ⟨t, n⟩ := q
      cases hs
      intro lsC H locs hL hH hS
      obtain ⟨hlt, hcell⟩ := am_ary hH ho
      obtain ⟨ty, ha⟩ := am_isArr (h := h) (o := o) (n := n) hK (hH.2.2.2 o t n ho)
      exact W.alen hx hb hcell ha (by rw [am_csz]) rfl rfl hd (K lsC H locs hL hH hS)
    · cases hs
  · rename_i j rest
    split at hs
    · rename_i hj
      cases hs
      intro lsC H locs hL hH hS
      subst htb
      exact va_tlen hx hb (hT.1 j (Nat.le_of_ble_eq_true hj)) hS rfl hd (K lsC H locs hL hH hS)
    · cases hs
  · cases hs
set_option maxHeartbeats 16000000 in
/-- A STEP THAT ASKS NOTHING -/
theorem am_step_s (cx : am_Cx G M tb p s m args meth c) (hM : am_Mok M) {i : Instr} {len pc : Nat} (hd : decode (am_cc M) pc = .ok (i, len)) (hchk : am_chk1 M pc i = true) (hl0 : am_elen i = 0 ∨ len = am_elen i) {ls st ls' st' : List Value} {pc' : Nat} {h h' : am_H} (htb : h.2.2.2.2 = tb) (hs : am_step M i pc ls st h = some (pc', ls', st', h')) (K : am_W l G p e R s m args below meth c Z M cells slots pc' ls' st' h') : am_W l G p e R s m args below meth c Z M cells slots pc ls st h := by
  have cx0 := cx
  obtain ⟨hx, hb, hr, hml, hown, hts, hlocks, hnm, hK, hT, hbase⟩ := cx
  have hlen : am_elen i ≠ 0 → len = am_elen i := fun q => hl0.resolve_left q
  clear hl0
  unfold am_step at hs
  split at hs
  · rename_i k
    obtain rfl := hlen (Nat.succ_ne_zero _)
    unfold am_il at hs
    split at hs
    · rename_i x hl
      cases hs
      intro lsC H locs hL hH hS
      exact lv_iload_n hx hb hd rfl (hL.2.2.2 _ _ hl rfl) (K lsC H locs hL hH hS)
    · cases hs
  · rename_i k
    obtain rfl := hlen (Nat.succ_ne_zero _)
    unfold am_il at hs
    split at hs
    · rename_i x hl
      cases hs
      intro lsC H locs hL hH hS
      exact lv_iload hx hb hd (hL.2.2.2 _ _ hl rfl) (K lsC H locs hL hH hS)
    · cases hs
  · rename_i k
    obtain rfl := hlen (Nat.succ_ne_zero _)
    unfold am_al at hs
    split at hs
    · rename_i x hl
      cases hs
      intro lsC H locs hL hH hS
      exact lv_aload_n hx hb hd rfl (hL.2.2.2 _ _ hl rfl) (K lsC H locs hL hH hS)
    · rename_i x hl
      cases hs
      intro lsC H locs hL hH hS
      exact lv_aload_n hx hb hd rfl (hL.2.2.2 _ _ hl rfl) (K lsC H locs hL hH hS)
    · rename_i hl
      cases hs
      intro lsC H locs hL hH hS
      exact lv_aload_nN hx hb hd rfl (hL.2.2.2 _ _ hl rfl) (K lsC H locs hL hH hS)
    · cases hs
  · rename_i k
    obtain rfl := hlen (Nat.succ_ne_zero _)
    unfold am_al at hs
    split at hs
    · rename_i x hl
      cases hs
      intro lsC H locs hL hH hS
      exact lv_aload hx hb hd (hL.2.2.2 _ _ hl rfl) (K lsC H locs hL hH hS)
    · rename_i x hl
      cases hs
      intro lsC H locs hL hH hS
      exact lv_aload hx hb hd (hL.2.2.2 _ _ hl rfl) (K lsC H locs hL hH hS)
    · rename_i hl
      cases hs
      intro lsC H locs hL hH hS
      exact lv_aloadN hx hb hd (hL.2.2.2 _ _ hl rfl) (K lsC H locs hL hH hS)
    · cases hs
  · rename_i k
    obtain rfl := hlen (Nat.succ_ne_zero _)
    unfold am_is at hs
    split at hs
    · rename_i x rest
      split at hs
      · rename_i hn
        cases hs
        intro lsC H locs hL hH hS
        have hn : k.val < am_ml M := by rw [← hL.2.2.1]; exact Nat.le_of_ble_eq_true hn
        exact lv_istore_n hx hb hd rfl hL.has hn rfl (fun ls' hl => K ls' H locs (hL.set hn rfl hl) hH hS)
      · cases hs
    · cases hs
  · rename_i k
    obtain rfl := hlen (Nat.succ_ne_zero _)
    unfold am_is at hs
    split at hs
    · rename_i x rest
      split at hs
      · rename_i hn
        cases hs
        intro lsC H locs hL hH hS
        have hn : k < am_ml M := by rw [← hL.2.2.1]; exact Nat.le_of_ble_eq_true hn
        exact lv_istore hx hb hd hL.has hn rfl (fun ls' hl => K ls' H locs (hL.set hn rfl hl) hH hS)
      · cases hs
    · cases hs
  · rename_i k
    obtain rfl := hlen (Nat.succ_ne_zero _)
    unfold am_as at hs
    split at hs
    · rename_i x rest
      split at hs
      · rename_i hn
        cases hs
        intro lsC H locs hL hH hS
        have hn : k.val < am_ml M := by rw [← hL.2.2.1]; exact Nat.le_of_ble_eq_true hn
        exact lv_astore_n hx hb hd rfl hL.has hn rfl (fun ls' hl => K ls' H locs (hL.set (v := .ref x) hn rfl hl) hH hS)
      · cases hs
    · rename_i x rest
      split at hs
      · rename_i hn
        cases hs
        intro lsC H locs hL hH hS
        have hn : k.val < am_ml M := by rw [← hL.2.2.1]; exact Nat.le_of_ble_eq_true hn
        exact lv_astore_n hx hb hd rfl hL.has hn rfl (fun ls' hl => K ls' H locs (hL.set (v := .retAddr x) hn rfl hl) hH hS)
      · cases hs
    · rename_i rest
      split at hs
      · rename_i hn
        cases hs
        intro lsC H locs hL hH hS
        have hn : k.val < am_ml M := by rw [← hL.2.2.1]; exact Nat.le_of_ble_eq_true hn
        exact lv_astore_nN hx hb hd rfl hL.has hn rfl (fun ls' hl => K ls' H locs (hL.set (v := .null) hn rfl hl) hH hS)
      · cases hs
    · cases hs
  · rename_i k
    obtain rfl := hlen (Nat.succ_ne_zero _)
    unfold am_as at hs
    split at hs
    · rename_i x rest
      split at hs
      · rename_i hn
        cases hs
        intro lsC H locs hL hH hS
        have hn : k < am_ml M := by rw [← hL.2.2.1]; exact Nat.le_of_ble_eq_true hn
        exact lv_astore hx hb hd hL.has hn rfl (fun ls' hl => K ls' H locs (hL.set (v := .ref x) hn rfl hl) hH hS)
      · cases hs
    · rename_i x rest
      split at hs
      · rename_i hn
        cases hs
        intro lsC H locs hL hH hS
        have hn : k < am_ml M := by rw [← hL.2.2.1]; exact Nat.le_of_ble_eq_true hn
        exact lv_astore hx hb hd hL.has hn rfl (fun ls' hl => K ls' H locs (hL.set (v := .retAddr x) hn rfl hl) hH hS)
      · cases hs
    · rename_i rest
      split at hs
      · rename_i hn
        cases hs
        intro lsC H locs hL hH hS
        have hn : k < am_ml M := by rw [← hL.2.2.1]; exact Nat.le_of_ble_eq_true hn
        exact lv_astoreN hx hb hd hL.has hn rfl (fun ls' hl => K ls' H locs (hL.set (v := .null) hn rfl hl) hH hS)
      · cases hs
    · cases hs
  · rename_i k n
    obtain rfl := hlen (Nat.succ_ne_zero _)
    unfold am_ii at hs
    split at hs
    · rename_i x hl
      cases hs
      intro lsC H locs hL hH hS
      have hn : k < am_ml M := by rw [← hL.2.2.1]; exact (List.getElem?_eq_some_iff.mp hl).1
      obtain ⟨k0, hk0⟩ := List.getElem?_of_mem (am_ll_mem (G := G) hl rfl)
      exact lv_iinc hx hb hd hL.has hk0 rfl hn rfl (fun ls' hl2 => K ls' H locs (hL.set hn rfl hl2) hH hS)
    · cases hs
  · obtain rfl := hlen (Nat.succ_ne_zero _)
    cases hs
    intro lsC H locs hL hH hS
    exact lv_iconst hx hb hd rfl (K lsC H locs hL hH hS)
  · obtain rfl := hlen (Nat.succ_ne_zero _)
    cases hs
    intro lsC H locs hL hH hS
    exact lv_bipush hx hb hd rfl (K lsC H locs hL hH hS)
  · obtain rfl := hlen (Nat.succ_ne_zero _)
    cases hs
    intro lsC H locs hL hH hS
    exact lv_sipush hx hb hd rfl (K lsC H locs hL hH hS)
  · obtain rfl := hlen (Nat.succ_ne_zero _)
    unfold am_ldc at hs
    split at hs
    · rename_i v hl
      cases hs
      intro lsC H locs hL hH hS
      exact lv_ldc hx hb hown (hts _ (hM.2.2.2.2.1 _ (am_lk_mem hl))) hd (K lsC H locs hL hH hS)
    · cases hs
  · obtain rfl := hlen (Nat.succ_ne_zero _)
    unfold am_ldc at hs
    split at hs
    · rename_i v hl
      cases hs
      intro lsC H locs hL hH hS
      exact lv_ldcw hx hb hown (hts _ (hM.2.2.2.2.1 _ (am_lk_mem hl))) hd (K lsC H locs hL hH hS)
    · cases hs
  · obtain rfl := hlen (Nat.succ_ne_zero _)
    cases hs
    intro lsC H locs hL hH hS
    exact lv_null hx hb hd (K lsC H locs hL hH hS)
  · obtain rfl := hlen (Nat.succ_ne_zero _)
    unfold am_dup at hs
    split at hs
    · cases hs
      intro lsC H locs hL hH hS
      exact lv_dup hx hb hd rfl (K lsC H locs hL hH hS)
    · cases hs
      intro lsC H locs hL hH hS
      exact lv_dup hx hb hd rfl (K lsC H locs hL hH hS)
    · cases hs
  · obtain rfl := hlen (Nat.succ_ne_zero _)
    unfold am_dup2 at hs
    split at hs
    · cases hs
      intro lsC H locs hL hH hS
      exact lv_dup2_11 hx hb hd rfl rfl (K lsC H locs hL hH hS)
    · cases hs
  · obtain rfl := hlen (Nat.succ_ne_zero _)
    unfold am_pop at hs
    split at hs
    · cases hs
      intro lsC H locs hL hH hS
      exact lv_pop hx hb hd rfl (K lsC H locs hL hH hS)
    · cases hs
      intro lsC H locs hL hH hS
      exact lv_pop hx hb hd rfl (K lsC H locs hL hH hS)
    · cases hs
  · obtain rfl := hlen (Nat.succ_ne_zero _)
    unfold am_bin at hs
    split at hs
    · cases hs
      intro lsC H locs hL hH hS
      exact lv_iadd hx hb hd (K lsC H locs hL hH hS)
    · cases hs
  · obtain rfl := hlen (Nat.succ_ne_zero _)
    unfold am_bin at hs
    split at hs
    · cases hs
      intro lsC H locs hL hH hS
      exact lv_isub hx hb hd (K lsC H locs hL hH hS)
    · cases hs
  · obtain rfl := hlen (Nat.succ_ne_zero _)
    unfold am_bin at hs
    split at hs
    · cases hs
      intro lsC H locs hL hH hS
      exact lv_imul hx hb hd (K lsC H locs hL hH hS)
    · cases hs
  · obtain rfl := hlen (Nat.succ_ne_zero _)
    unfold am_bin at hs
    split at hs
    · cases hs
      intro lsC H locs hL hH hS
      exact lv_iand hx hb hd (K lsC H locs hL hH hS)
    · cases hs
  · obtain rfl := hlen (Nat.succ_ne_zero _)
    unfold am_bin at hs
    split at hs
    · cases hs
      intro lsC H locs hL hH hS
      exact lv_ior hx hb hd (K lsC H locs hL hH hS)
    · cases hs
  · obtain rfl := hlen (Nat.succ_ne_zero _)
    unfold am_bin at hs
    split at hs
    · cases hs
      intro lsC H locs hL hH hS
      exact lv_ixor hx hb hd (K lsC H locs hL hH hS)
    · cases hs
  · obtain rfl := hlen (Nat.succ_ne_zero _)
    unfold am_bin at hs
    split at hs
    · cases hs
      intro lsC H locs hL hH hS
      exact lv_ishl hx hb hd (K lsC H locs hL hH hS)
    · cases hs
  · obtain rfl := hlen (Nat.succ_ne_zero _)
    unfold am_bin at hs
    split at hs
    · cases hs
      intro lsC H locs hL hH hS
      exact lv_ishr hx hb hd (K lsC H locs hL hH hS)
    · cases hs
  · obtain rfl := hlen (Nat.succ_ne_zero _)
    unfold am_bin at hs
    split at hs
    · cases hs
      intro lsC H locs hL hH hS
      exact lv_iushr hx hb hd rfl (K lsC H locs hL hH hS)
    · cases hs
  · obtain rfl := hlen (Nat.succ_ne_zero _)
    unfold am_neg at hs
    split at hs
    · cases hs
      intro lsC H locs hL hH hS
      exact lv_ineg hx hb hd (K lsC H locs hL hH hS)
    · cases hs
  · obtain rfl := hlen (Nat.succ_ne_zero _)
    exact am_if_s cx0 hd hchk hs K
  · obtain rfl := hlen (Nat.succ_ne_zero _)
    exact am_ic_s cx0 hd hchk hs K
  · obtain rfl := hlen (Nat.succ_ne_zero _)
    unfold am_nn at hs
    split at hs
    · cases hs
      intro lsC H locs hL hH hS
      exact lv_ifnull hx hb hd (K lsC H locs hL hH hS)
    · cases hs
      intro lsC H locs hL hH hS
      exact lv_ifnullN hx hb hd (am_tgt hchk) (K lsC H locs hL hH hS)
    · cases hs
  · obtain rfl := hlen (Nat.succ_ne_zero _)
    unfold am_nn at hs
    split at hs
    · cases hs
      intro lsC H locs hL hH hS
      exact lv_ifnonnull hx hb hd (am_tgt hchk) (K lsC H locs hL hH hS)
    · cases hs
      intro lsC H locs hL hH hS
      exact lv_ifnonnullN hx hb hd (K lsC H locs hL hH hS)
    · cases hs
  · obtain rfl := hlen (Nat.succ_ne_zero _)
    cases hs
    intro lsC H locs hL hH hS
    exact lv_goto hx hb hd (am_tgt hchk) (K lsC H locs hL hH hS)
  · exact am_ts_s cx0 hd hchk hs K
  · exact am_lsw_s cx0 hd hchk hs K
  · obtain rfl := hlen (Nat.succ_ne_zero _)
    exact am_gf_s cx0 hM hd hs K
  · obtain rfl := hlen (Nat.succ_ne_zero _)
    unfold am_gs at hs
    split at hs
    · rename_i j hj
      cases hs
      intro lsC H locs hL hH hS
      obtain ⟨z, hz, hlink⟩ := hM.2.2.2.2.2 _ (am_lk_mem hj)
      exact va_gets hx hb (hT.2 j z hz) hS hown (hts _ hlink) (fun _ h9 => h9) hd (K lsC H locs hL hH hS)
    · cases hs
  · obtain rfl := hlen (Nat.succ_ne_zero _)
    exact am_len_s cx0 hd htb hs K
  · obtain rfl := hlen (Nat.succ_ne_zero _)
    exact am_pf_s cx0 hM hd hchk hs K
  · cases hs
end AMT
end
section
section AMU
variable {l : Launch} {G : am_G} {p : Program} {e : Env} {R : Room} {s : State} {m : MethodId} {args : Array Value} {below : List Frame} {meth : Method} {c : Code} {Z : State → Prop} {M : am_M} {cells slots : Nat} {tb : Nat → Nat × (Nat → Int32)}
theorem am_one {D : va_G} {cl : List vw_C} {q : Nat × va_E} {H : Heap} (h : va_at D cl q H) : va_P D cl [q] H := fun k z hz => by
  cases k with
  | zero => cases hz; exact h
  | succ k => simp at hz
theorem am_tv_vr (G : am_G) (x : Option Nat) : am_tv G (am_vr x) = va_rf (x.map (fun q => G.2.2.1 + q)) := by cases x <;> rfl
theorem am_lt {x : Int32} {n : Nat} (h : vp_in x n) : x.toNatClampNeg < n := Nat.not_le.mp fun q => h (Or.inr q)
theorem am_cell_st {h : am_H} {o t n k : Nat} {v : Int32} (ho : h.1 o = .inr (t, n)) (ht : Nat.beq t 2 = false) : am_cell G (h.1, h.2.1, am_u h.2.2.1 o k v, h.2.2.2) o = .inl (G.2.1 t, n, .inl (upd (h.2.2.1 o) k v)) := by
  unfold am_cell am_arrv
  dsimp only
  rw [ho]
  dsimp only
  rw [ht]
  dsimp only
  have e1 : am_u h.2.2.1 o k v o = upd (h.2.2.1 o) k v := by
    funext j
    unfold am_u upd
    simp
  rw [e1]
theorem am_upd_cell {cA : ClassId} {n k : Nat} {f : Nat → Int32} {v : Int32} : (vp_cell cA (n, .inl f)).setSlot k (.int v) = vp_cell cA (n, .inl (upd f k v)) := by
  show (arrV cA n (fun j => .int (f j))).setSlot k (.int v) = arrV cA n (fun j => .int (upd f k v j))
  rw [arrV_store]
  refine congrArg (arrV cA n) (funext fun j => ?_)
  unfold updV upd
  split <;> rfl
set_option maxHeartbeats 16000000 in
/-- A STEP THAT ASKS SOMETHING -/
theorem am_mem_s (cx : am_Cx G M tb p s m args meth c) (hM : am_Mok M) {i : Instr} {len pc : Nat} (hd : decode (am_cc M) pc = .ok (i, len)) (hchk : am_chk1 M pc i = true) (hl0 : am_elen i = 0 ∨ len = am_elen i) {P : Prop} {ls st ls' st' : List Value} {pc' : Nat} {h h' : am_H} (htb : h.2.2.2.2 = tb) (hs : am_mem M i pc ls st h = some (P, pc', ls', st', h')) (hP : P) (K : am_W l G p e R s m args below meth c Z M cells slots pc' ls' st' h') : am_W l G p e R s m args below meth c Z M cells slots pc ls st h := by
  have cx0 := cx
  obtain ⟨hx, hb, hr, hml, hown, hts, hlocks, hnm, hK, hT, hbase⟩ := cx
  have hlen : am_elen i ≠ 0 → len = am_elen i := fun q => hl0.resolve_left q
  clear hl0
  unfold am_mem at hs
  split at hs
  · obtain rfl := hlen (Nat.succ_ne_zero _)
    split at hs
    · rename_i x o rest
      split at hs
      · rename_i n ho
        cases hs
        intro lsC H locs hL hH hS
        exact va_iald hx hb hK (am_one (q := (G.2.2.1 + o, .inl (G.2.1 0, n, .inl (h.2.2.1 o)))) (am_ary hH ho).2) 0 0 rfl rfl hP hd (K lsC H locs hL hH hS)
      · cases hs
    · rename_i x j rest
      split at hs
      · rename_i hj
        cases hs
        intro lsC H locs hL hH hS
        subst htb
        exact va_ti hx hb (hT.1 j (Nat.le_of_ble_eq_true hj)) hS hP rfl hd (K lsC H locs hL hH hS)
      · cases hs
    · cases hs
  · obtain rfl := hlen (Nat.succ_ne_zero _)
    split at hs
    · rename_i x o rest
      split at hs
      · rename_i n ho
        cases hs
        intro lsC H locs hL hH hS
        exact va_zald hx hb hK (am_one (q := (G.2.2.1 + o, .inl (G.2.1 1, n, .inl (h.2.2.1 o)))) (am_ary hH ho).2) 0 1 rfl rfl hP hd (K lsC H locs hL hH hS)
      · cases hs
    · cases hs
  · obtain rfl := hlen (Nat.succ_ne_zero _)
    split at hs
    · rename_i x o rest
      split at hs
      · rename_i n ho
        cases hs
        intro lsC H locs hL hH hS
        obtain ⟨hlt, hcell⟩ := am_ary hH ho
        have K1 := K lsC H locs hL hH hS
        rw [List.map_cons, am_tv_vr] at K1
        have hcell : H[G.2.2.1 + o]? = some (arrV (G.2.1 2) n (fun j => va_rf ((h.2.1 o j).map (fun q => G.2.2.1 + q)))) := hcell
        exact W.aald hx hb hcell ((hK.2 2 _ rfl).1 n _) rfl (fun q => by cases q) (by rw [arrV_size]; exact hP) (arrV_read _ _ (am_lt hP)) rfl rfl hd K1
      · cases hs
    · cases hs
  · obtain rfl := hlen (Nat.succ_ne_zero _)
    split at hs
    · rename_i v x o rest
      split at hs
      · rename_i n ho
        cases hs
        intro lsC H locs hL hH hS
        obtain ⟨hlt, hcell⟩ := am_ary hH ho
        have hcell : H[G.2.2.1 + o]? = some (vp_cell (G.2.1 0) (n, .inl (h.2.2.1 o))) := hcell
        refine W.iast hx hb hcell ((hK.2 0 _ rfl).1 n _) (fun q => by cases q) (by show ¬ (x < 0 ∨ (arrV _ n _).slots.size ≤ _); rw [arrV_size]; exact hP) rfl rfl hd (fun H1 e1 e2 e3 => ?_)
        rw [am_upd_cell] at e1
        exact K lsC H1 _ hL (am_rest hH rfl rfl am_cell_u (fun _ => by rw [am_cell_st ho rfl]; exact e1) e2 e3) (am_Sput hS e2 e3)
      · cases hs
    · cases hs
  · obtain rfl := hlen (Nat.succ_ne_zero _)
    split at hs
    · rename_i v x o rest
      split at hs
      · rename_i n ho
        cases hs
        intro lsC H locs hL hH hS
        obtain ⟨hlt, hcell⟩ := am_ary hH ho
        have hcell : H[G.2.2.1 + o]? = some (vp_cell (G.2.1 1) (n, .inl (h.2.2.1 o))) := hcell
        refine W.zast hx hb hcell ((hK.2 1 _ rfl).1 n _) (fun q => by cases q) (by show ¬ (x < 0 ∨ (arrV _ n _).slots.size ≤ _); rw [arrV_size]; exact hP) rfl rfl hd (fun H1 e1 e2 e3 => ?_)
        have e1 : H1[G.2.2.1 + o]? = some ((vp_cell (G.2.1 1) (n, .inl (h.2.2.1 o))).setSlot x.toNatClampNeg (.int (v &&& 1))) := e1
        rw [am_upd_cell] at e1
        exact K lsC H1 _ hL (am_rest hH rfl rfl am_cell_u (fun _ => by rw [am_cell_st ho rfl]; exact e1) e2 e3) (am_Sput hS e2 e3)
      · cases hs
    · cases hs
  · obtain rfl := hlen (Nat.succ_ne_zero _)
    split at hs
    · cases hs
      intro lsC H locs hL hH hS
      exact lv_idiv hx hb hd hP (K lsC H locs hL hH hS)
    · cases hs
  · obtain rfl := hlen (Nat.succ_ne_zero _)
    split at hs
    · cases hs
      intro lsC H locs hL hH hS
      exact lv_irem hx hb hd hP (K lsC H locs hL hH hS)
    · cases hs
  · obtain rfl := hlen (Nat.succ_ne_zero _)
    split at hs
    · rename_i v o rest
      split at hs
      · rename_i ci ho
        split at hs
        · rename_i k hk
          split at hs
          · rename_i hk0
            cases hs
            obtain ⟨r, hr1, hkN, hlink⟩ := am_Fof hM hk
            have hty : am_ti ci k = .boolean := by
              rcases am_kb_of ((am_cls hr1).2.2.2.2 k hkN) with q | q | q
              · rw [hk0] at q; cases q.1
              · exact q.2
              · rw [hk0] at q; cases q.1
            intro lsC H locs hL hH hS
            exact am_putW (h' := (h.1, h.2.1, am_u h.2.2.1 o k v, h.2.2.2)) cx0 hM hk ho (v := .int v) (by rw [hty]; rcases hP with rfl | rfl <;> rfl) (by rw [hty]; rcases hP with rfl | rfl <;> rfl) hd hchk rfl rfl am_cell_u (am_fv_u (by rw [hk0]; decide)) hH hS (fun H1 locs1 g1 g2 => K lsC H1 locs1 hL g1 g2)
          · cases hs
        · cases hs
      · cases hs
    · cases hs
  · cases hs
/-! calls -/
def am_Qc (G : am_G) (tb : Nat → Nat × (Nat → Int32)) (Q : am_Q) : Array Value → State → Outcome → State → Prop := fun _ st o t => (∃ (r : Option Value) (h1 : am_H), o = .returned (r.map (am_tv G)) ∧ Q r h1 ∧ am_Hp G h1 t.heap ∧ h1.2.2.2.2 = tb) ∧ va_F (am_A G) st t
def am_Pc (G : am_G) (tb : Nat → Nat × (Nat → Int32)) (h : am_H) (as : List Value) : Array Value → State → Prop := fun v U => v = (as.map (am_tv G)).toArray ∧ am_Hp G h U.heap ∧ va_K G.1 vwCl (am_tys G) U ∧ am_T G tb U
theorem am_T.to {U : State} {H : Heap} {locs : List Loc} (h : am_T G tb s) (hS : va_S (am_A G) s.heap H locs) (hU : U.heap = H) (hvm : s.vm.Alike U.vm) : am_T G tb U := by
  refine ⟨fun j hj => ?_, fun j z hz => ?_⟩
  · exact va_T.moved hvm (by rw [hU]; exact (h.1 j hj).kept (fun a h1 h2 => hS.2.1 a h1 h2))
  · exact va_Z.moved hvm (by rw [hU]; exact (h.2 j z hz).kept (fun a h1 h2 => hS.2.1 a h1 h2))
theorem am_blind {h : am_H} {as : List Value} : FrameBlind (am_Pc G tb h as) := by
  intro a U g mk ⟨q1, q2, q3, q4⟩
  refine ⟨q1, q2, va_K.moved (u := U) (U := U.calling g mk a) (Vm.Alike.refl U.vm) q3, ⟨fun j hj => va_T.moved (u := U) (U := U.calling g mk a) (Vm.Alike.refl U.vm) (q4.1 j hj), fun j z hz => va_Z.moved (u := U) (U := U.calling g mk a) (Vm.Alike.refl U.vm) (q4.2 j z hz)⟩⟩
theorem am_call {pc : Nat} {lsC : Array Slot} {rest st0 : List Value} {a : Array Value} {H : Heap} {locs : List Loc} {mc ms : Nat} {Q1 : am_Q} (hr : va_Run p l e R s m args below meth c H locs cells slots mc ms (F0 m pc lsC st0) rest (am_Qc G tb Q1 a) (am_A G)) (hS : va_S (am_A G) s.heap H locs)
    (kk : ∀ (r : Option Value) (h1 : am_H) (H1 : Heap) (locs1 : List Loc), Q1 r h1 → am_Hp G h1 H1 → h1.2.2.2.2 = tb → va_S (am_A G) s.heap H1 locs1 → W p l e R s m args below meth c H1 locs1 (cells + mc) (slots + ms) Z (F0 m (pc + 3) lsC ((r.map (am_tv G)).toList ++ rest))) : W p l e R s m args below meth c H locs cells slots Z (F0 m pc lsC st0) := by
  intro T hT X
  obtain ⟨v, st₀, t, T', L, h0, X', hL, e1, e2, ⟨⟨r, h1, hv, hq, hH1, htb⟩, hz, hk⟩, st⟩ := hr T hT X
  have hv : v = r.map (am_tv G) := by injection hv
  rw [h0] at hz hk
  subst hv
  obtain ⟨t2, a1, b1⟩ := kk r h1 T'.heap (locs ++ L) hq (by rw [e1]; exact hH1) htb
    ⟨Nat.le_trans hS.1 (by rw [e1]; exact hz), fun q g1 g2 => by rw [e1, hk q (Nat.lt_of_lt_of_le g1 hS.1) g2]; exact hS.2.1 q g1 g2, fun q hq => by
      rcases List.mem_append.mp hq with h | h
      · exact hS.2.2 q h
      · exact hL q h⟩ T' rfl X'
  exact ⟨t2, st t2 a1, b1⟩
theorem am_sl : ∀ (vs : List Value), (∀ v ∈ vs, v.category = 1) → (lg_sl vs).length = vs.length
  | [], _ => rfl
  | v :: vs, h => by
    have h1 := h v List.mem_cons_self
    have e : lg_sl (v :: vs) = [Slot.val v] ++ lg_sl vs := by
      unfold lg_sl
      rw [List.flatMap_cons, if_neg (by rw [h1]; decide)]
    rw [e, List.length_append, am_sl vs (fun w hw => h w (List.mem_cons_of_mem _ hw))]
    simp
    omega
theorem am_args : ∀ (vs : List Value) (k i : Nat) (v : Value), (∀ v ∈ vs, v.category = 1) → vs[i]? = some v → (k + i, v) ∈ lv_args k vs
  | [], _, _, _, _, h => by simp at h
  | w :: vs, k, i, v, hc, h => by
    unfold lv_args
    cases i with
    | zero => cases h; exact List.mem_cons_self
    | succ i =>
      rw [if_neg (by rw [hc w List.mem_cons_self]; decide)]
      have := am_args vs (k + 1) i v (fun w hw => hc w (List.mem_cons_of_mem _ hw)) h
      rw [show k + (i + 1) = k + 1 + i by omega]
      exact List.mem_cons_of_mem _ this
theorem am_met {M' : am_M} (hM' : am_Mok M') {as : List Value} {h : am_H} {Q1 : am_Q} (hc : ∀ v ∈ as, v.category = 1) (hn : as.length ≤ am_ml M')
    (hX : ∀ (p : Program) (e : Env) (s : State) (m : MethodId) (args : Array Value) (below : List Frame) (meth : Method) (c : Code), am_Cx G M' tb p s m args meth c → am_W l G p e (am_rm M') s m args below meth c (MQ below (am_Qc G tb Q1) args s (am_rm M').cells (am_rm M').slots (am_A G)) M' 0 0 0 (am_ent M' as) [] h) :
    Met l (am_y M') (am_word M' :: lw_g) (am_rm M') (am_Pc G tb h as) (am_Qc G tb Q1) (am_rm M').cells (am_rm M').slots (am_A G) := by
  refine Met.ofW (cc := am_cc M') (maxL := am_ml M') (ret := am_ret M') hM'.1 rfl ?_
  intro p e s m args below meth c s₁ B hml hv
  obtain ⟨rfl, hH, hK, hT⟩ := hv
  have hts := atoms_spec (ws := am_word M' :: lw_g) B.pre
  have hown : s.vm.findClass (am_own M') = some m.cls := findClass_of_methodNamed B.named
  have W0 := hX p e s m _ below meth c ⟨B.exec, B.bytes, B.returns, hml, hown, fun w hw => hts w (List.mem_cons_of_mem _ hw), B.notSynchronized, (name_of_methodNamed B.named B.method).1, hK, hT, by rw [hH.1]; exact Nat.le_add_right _ _⟩
  have hc' : ∀ v ∈ as.map (am_tv G), v.category = 1 := fun v hv => by
    obtain ⟨w, hw, rfl⟩ := List.mem_map.mp hv
    exact am_tv_cat G w (hc w hw)
  have hl := lv_entry (as.map (am_tv G)) (n := am_ml M') (by rw [am_sl _ hc', List.length_map]; exact hn)
  rw [lg_entry_eq]
  refine W0 _ s.heap [] ⟨hl.1, hl.2.1, ?_, fun i v hi hv => ?_⟩ hH va_S.rf
  · unfold am_ent
    rw [List.length_append, List.length_replicate]
    omega
  · unfold am_ent at hi
    by_cases hlt : i < as.length
    · rw [List.getElem?_append_left hlt] at hi
      have := am_args (as.map (am_tv G)) 0 i (am_tv G v) hc' (by rw [List.getElem?_map, hi]; rfl)
      rw [Nat.zero_add] at this
      exact hl.2.2 _ this
    · rw [List.getElem?_append_right (by omega)] at hi
      have := List.eq_of_mem_replicate (List.mem_of_getElem? hi)
      rw [this] at hv
      cases hv
end AMU
end
section
section AMV
variable {l : Launch} {G : am_G} {p : Program} {e : Env} {R : Room} {s : State} {m : MethodId} {args : Array Value} {below : List Frame} {meth : Method} {c : Code} {Z : State → Prop} {M : am_M} {cells slots : Nat} {tb : Nat → Nat × (Nat → Int32)}
theorem am_iaI : am_in (.arrayClass .int) := by unfold am_in; decide +kernel
theorem am_iaZ : am_in (.arrayClass .boolean) := by unfold am_in; decide +kernel
theorem am_iaO : am_in (.arrayOver (.array .int)) := by unfold am_in; decide +kernel
theorem am_ioI : am_in (.instanceMethod objectInit) := by unfold am_in; decide +kernel
theorem am_ioC : am_in (.code objectInit ⟨#[0xb1]⟩ 1 none) := by unfold am_in; decide +kernel
theorem am_icN : am_in (.native arraycopyName) := by unfold am_in; decide +kernel
theorem am_icS : am_in (.static arraycopyName) := by unfold am_in; decide +kernel
theorem am_icI : am_in (.initialized "java/lang/System") := by unfold am_in; decide +kernel
/-- a new cell at the end -/
theorem am_Hnew {h : am_H} {H H1 : Heap} {sp : am_S} (hH : am_Hp G h H) (hz : H1.size = H.size + 1) (hq : ∀ q, q < H.size → H1[q]? = H[q]?) (hnew : va_at G.1 vwCl (G.2.2.1 + h.2.2.2.1, am_cell G (am_new h sp) h.2.2.2.1) H1) (ht : ∀ t n, sp = .inr (t, n) → t < 3) : am_Hp G (am_new h sp) H1 := by
  refine ⟨by rw [hz, hH.1]; rfl, fun i hi => ?_, fun i hi => ?_, fun i t n hi => ?_⟩
  · have hi : i < h.2.2.2.1 + 1 := hi
    by_cases e : i = h.2.2.2.1
    · subst e; exact hnew
    · have hc : am_cell G (am_new h sp) i = am_cell G h i := by
        have e1 : am_us h.1 h.2.2.2.1 sp i = h.1 i := by unfold am_us; rw [if_neg e]
        have e2 : am_rz h.2.1 h.2.2.2.1 i = h.2.1 i := by funext j; unfold am_rz; rw [if_neg e]
        have e3 : am_dz h.2.2.1 h.2.2.2.1 i = h.2.2.1 i := by funext j; unfold am_dz; rw [if_neg e]
        unfold am_cell am_arrv am_fv am_new
        dsimp only
        rw [e1, e2, e3]
      rw [hc]
      exact (hH.2.1 i (by omega)).kept (hq _ (by show G.2.2.1 + i < H.size; rw [hH.1]; omega))
  · have hi : h.2.2.2.1 + 1 ≤ i := hi
    show am_us h.1 h.2.2.2.1 sp i = _
    unfold am_us
    rw [if_neg (by omega)]
    exact hH.2.2.1 i (by omega)
  · have hi : am_us h.1 h.2.2.2.1 sp i = .inr (t, n) := hi
    unfold am_us at hi
    split at hi
    · exact ht t n hi
    · exact hH.2.2.2 i t n hi
theorem am_Snew {H H1 : Heap} {locs : List Loc} (hS : va_S (am_A G) s.heap H locs) (hz : H.size ≤ H1.size) (hq : ∀ q, q < H.size → H1[q]? = H[q]?) : va_S (am_A G) s.heap H1 locs := ⟨Nat.le_trans hS.1 hz, fun x h1 h2 => (hq x (Nat.lt_of_lt_of_le h1 hS.1)).trans (hS.2.1 x h1 h2), hS.2.2⟩
set_option maxHeartbeats 4000000 in
theorem am_new_s (cx : am_Cx G M tb p s m args meth c) {idx pc ci : Nat} {r : vw_C} (hr1 : vwCl[ci]? = some r) (h1 : am_in (.classLink (am_own M) idx r.1)) (h2 : am_in (.instantiable r.1 r.2.2)) (h3 : am_in (.initialized r.1)) (hd : decode (am_cc M) pc = .ok (.new idx, 3)) {ls st : List Value} {h : am_H} (hc : cells + 1 ≤ R.cells) (hs : slots + r.2.2 ≤ R.slots)
    (K : am_W l G p e R s m args below meth c Z M (cells + 1) (slots + r.2.2) (pc + 3) ls (.ref h.2.2.2.1 :: st) (am_new h (.inl ci))) : am_W l G p e R s m args below meth c Z M cells slots pc ls st h := by
  obtain ⟨hx, hb, hr, hml, hown, hts, hlocks, hnm, hK, hT, hbase⟩ := cx
  intro lsC H locs hL hH hS
  obtain ⟨hin, hty, hnmx, hlen, hkb⟩ := am_cls hr1
  have hKn := hK.1 ci _ hr1
  refine W.newcK hx hb hown (hts _ h1) (hts _ h2) (hts _ h3) rfl hd hc hs hKn.2.1 rfl fun H1 kC hkC e1 z1 o1 => ?_
  rw [hH.1] at e1 ⊢
  refine K lsC H1 locs hL (am_Hnew hH z1 o1 ?_ (fun t n q => by cases q)) (am_Snew hS (by omega) o1)
  have e4 : am_cell G (am_new h (.inl ci)) h.2.2.2.1 = .inr (ci, (List.range (am_kd.getD ci []).length).map (fun k => am_tv G (am_fv (am_new h (.inl ci)) h.2.2.2.1 ci k))) := by
    unfold am_cell
    have : (am_new h (.inl ci)).1 h.2.2.2.1 = .inl ci := by
      show am_us h.1 h.2.2.2.1 (.inl ci) h.2.2.2.1 = _
      unfold am_us
      rw [if_pos rfl]
    rw [this]
  rw [e4]
  refine ⟨r, hr1, (u_born (am_ti ci) hts hin hKn hkC e1 hty).to (fun k hk => ?_)⟩
  unfold vp_V
  rw [List.getD_eq_getElem?_getD, am_fs_get hr1 hk]
  show _ = am_tv G (am_fv (am_new h (.inl ci)) h.2.2.2.1 ci k)
  have f1 : (am_new h (.inl ci)).2.1 h.2.2.2.1 k = none := by
    show am_rz h.2.1 h.2.2.2.1 h.2.2.2.1 k = none
    unfold am_rz; rw [if_pos rfl]
  have f2 : (am_new h (.inl ci)).2.2.1 h.2.2.2.1 k = 0 := by
    show am_dz h.2.2.1 h.2.2.2.1 h.2.2.2.1 k = 0
    unfold am_dz; rw [if_pos rfl]
  unfold am_fv
  rw [f1, f2]
  rcases am_kb_of (hkb k hk) with ⟨g1, g2⟩ | ⟨g1, g2⟩ | ⟨g1, ⟨n, g2⟩ | ⟨n, g2⟩⟩ <;> rw [g1, g2] <;> rfl
theorem am_zcell {h : am_H} {t n : Nat} (ht : Nat.beq t 2 = false) : am_cell G (am_new h (.inr (t, n))) h.2.2.2.1 = .inl (G.2.1 t, n, .inl (fun _ => 0)) := by
  have e1 : (am_new h (.inr (t, n))).1 h.2.2.2.1 = .inr (t, n) := by
    show am_us h.1 h.2.2.2.1 _ h.2.2.2.1 = _
    unfold am_us
    rw [if_pos rfl]
  have e2 : (am_new h (.inr (t, n))).2.2.1 h.2.2.2.1 = fun _ => 0 := by
    funext j
    show am_dz h.2.2.1 h.2.2.2.1 h.2.2.2.1 j = 0
    unfold am_dz
    rw [if_pos rfl]
  unfold am_cell am_arrv
  rw [e1]
  dsimp only
  rw [ht, e2]
set_option maxHeartbeats 4000000 in
theorem am_newa_s (cx : am_Cx G M tb p s m args meth c) {pc t : Nat} {at' : ArrayType} (ha : am_arr at' = some t) (hd : decode (am_cc M) pc = .ok (.newarray at', 2)) {ls rest : List Value} {h : am_H} {x : Int32} (hx0 : ¬ x < 0) (hx1 : x.toNatClampNeg ≤ 100000) (hc : cells + 1 ≤ R.cells) (hs : slots + x.toNatClampNeg ≤ R.slots)
    (K : am_W l G p e R s m args below meth c Z M (cells + 1) (slots + x.toNatClampNeg) (pc + 2) ls (.ref h.2.2.2.1 :: rest) (am_new h (.inr (t, x.toNatClampNeg)))) : am_W l G p e R s m args below meth c Z M cells slots pc ls (.int x :: rest) h := by
  obtain ⟨hx, hb, hr, hml, hown, hts, hlocks, hnm, hK, hT, hbase⟩ := cx
  intro lsC H locs hL hH hS
  cases at' with
  | int =>
    cases ha
    refine va_newaK (atype := .int) hx hb (hts _ am_iaI) rfl hd rfl hx0 rfl (by show _ * 4 ≤ _; omega) hc hs rfl fun H1 cA e1 z1 o1 hAr hNm => ?_
    have hcA : cA = G.2.1 0 := by
      have := (hK.2 0 _ rfl).2
      exact Option.some.inj (hNm.symm.trans this)
    subst hcA
    rw [hH.1] at e1 ⊢
    refine K lsC H1 locs hL (am_Hnew hH z1 o1 ?_ (fun t n q => by cases q; decide)) (am_Snew hS (by omega) o1)
    rw [am_zcell rfl]
    exact e1
  | boolean =>
    cases ha
    refine va_newaK (atype := .boolean) hx hb (hts _ am_iaZ) rfl hd rfl hx0 rfl (by show _ * 1 ≤ _; omega) hc hs rfl fun H1 cA e1 z1 o1 hAr hNm => ?_
    have hcA : cA = G.2.1 1 := by
      have := (hK.2 1 _ rfl).2
      exact Option.some.inj (hNm.symm.trans this)
    subst hcA
    rw [hH.1] at e1 ⊢
    refine K lsC H1 locs hL (am_Hnew hH z1 o1 ?_ (fun t n q => by cases q; decide)) (am_Snew hS (by omega) o1)
    rw [am_zcell rfl]
    exact e1
  | _ => cases ha
set_option maxHeartbeats 4000000 in
theorem am_mna_s (cx : am_Cx G M tb p s m args meth c) {pc idx : Nat} (hcl : am_in (.classLink (am_own M) idx "[[I")) (hd : decode (am_cc M) pc = .ok (.multianewarray idx 2, 4)) {ls rest : List Value} {h : am_H} {x y : Int32} (hx0 : ¬ x < 0) (hy0 : ¬ y < 0) (hx1 : x.toNatClampNeg ≤ 10000) (hy1 : y.toNatClampNeg ≤ 10000) (hc : cells + (1 + x.toNatClampNeg) ≤ R.cells) (hs : slots + (x.toNatClampNeg + x.toNatClampNeg * y.toNatClampNeg) ≤ R.slots)
    (K : am_W l G p e R s m args below meth c Z M (cells + 1 + x.toNatClampNeg) (slots + x.toNatClampNeg + x.toNatClampNeg * y.toNatClampNeg) (pc + 4) ls (.ref h.2.2.2.1 :: rest) (am_new2 h x.toNatClampNeg y.toNatClampNeg)) : am_W l G p e R s m args below meth c Z M cells slots pc ls (.int y :: .int x :: rest) h := by
  obtain ⟨hx, hb, hr, hml, hown, hts, hlocks, hnm, hK, hT, hbase⟩ := cx
  intro lsC H locs hL hH hS T hT0 Xs
  obtain ⟨vm₁, cA, comp, -, fA, fC, hO, -, X', step⟩ := Xs.multianewarray2F hx (ty := .int) hown (hts _ hcl) (hts _ am_iaO) (hts _ am_iaI) (g := F0 m pc lsC ((Value.int y :: .int x :: rest).map (am_tv G))) rfl (by rw [hb]; exact hd) rfl hx0 hy0 (by omega) (by show _ * 4 ≤ _; omega) (by omega) rfl rfl hc hs
  have eI : comp = G.2.1 0 := by
    have := (hK.2 0 _ rfl).2
    exact Option.some.inj (fC.symm.trans this)
  have eA : cA = G.2.1 2 := by
    have := (hK.2 2 _ rfl).2
    exact Option.some.inj (fA.symm.trans this)
  subst eI
  subst eA
  generalize hF : Jvm.Free.Multi.fill (T.setVm vm₁) (G.2.1 2) (G.2.1 0) x.toNatClampNeg y.toNatClampNeg (defaultValue .int) x.toNatClampNeg = F at X' step
  have hTh : (T.setVm vm₁).heap = H := hT0
  obtain ⟨f1, f2, -, -⟩ := Jvm.Free.Multi.fill_facts (T.setVm vm₁) (G.2.1 2) (G.2.1 0) x.toNatClampNeg y.toNatClampNeg (defaultValue .int) x.toNatClampNeg
  rw [hF, hTh] at f1 f2
  have hold : ∀ q : Nat, q < H.size → F.heap[q]? = H[q]? := fun q hq => by
    have := Jvm.Free.Multi.fill_old (T.setVm vm₁) (G.2.1 2) (G.2.1 0) x.toNatClampNeg y.toNatClampNeg (defaultValue .int) (a := q) (by rw [hTh]; exact hq) x.toNatClampNeg
    rw [hF, hTh] at this
    exact this
  have hrow : ∀ j : Nat, j < x.toNatClampNeg → F.heap[H.size + 1 + j]? = some (vp_cell (G.2.1 0) (y.toNatClampNeg, .inl (fun _ => 0))) := fun j hj => by
    have := Jvm.Free.Multi.fill_inner (T.setVm vm₁) (G.2.1 2) (G.2.1 0) x.toNatClampNeg y.toNatClampNeg (defaultValue .int) x.toNatClampNeg j hj
    rw [hF, hTh] at this
    rw [this]
    show some ({ cls := _, slots := Array.replicate _ _, vm := .none } : Cell) = _
    rw [arrV_new]
    rfl
  rw [vr_outer] at f2
  have e : T.heap.size = H.size := by rw [hT0]
  have hH1 : am_Hp G (am_new2 h x.toNatClampNeg y.toNatClampNeg) F.heap := by
    refine ⟨by rw [f1, hH.1]; show _ = G.2.2.1 + (h.2.2.2.1 + 1 + _); omega, fun i hi => ?_, fun i hi => ?_, fun i t n hi => ?_⟩
    · have hi : i < h.2.2.2.1 + 1 + x.toNatClampNeg := hi
      by_cases e1 : i = h.2.2.2.1
      · subst e1
        have e5 : am_cell G (am_new2 h x.toNatClampNeg y.toNatClampNeg) h.2.2.2.1 = .inl (G.2.1 2, x.toNatClampNeg, .inr (.inr (.inr (.inr (fun j => (if j < x.toNatClampNeg then some (h.2.2.2.1 + 1 + j) else none).map (fun q => G.2.2.1 + q)))))) := by
          unfold am_cell am_new2
          simp only [↓reduceIte]
          unfold am_arrv
          simp
        rw [e5]
        show F.heap[G.2.2.1 + h.2.2.2.1]? = some (vp_cell _ _)
        rw [← hH.1, f2]
        show some _ = some (arrV (G.2.1 2) x.toNatClampNeg (fun j => va_rf ((if j < x.toNatClampNeg then some (h.2.2.2.1 + 1 + j) else none).map (fun q => G.2.2.1 + q))))
        refine congrArg some (congrArg (arrV (G.2.1 2) x.toNatClampNeg) (funext fun j => ?_))
        rw [hH.1]
        by_cases hj : j < x.toNatClampNeg
        · simp only [hj, ↓reduceIte, Option.map_some]
          exact congrArg Value.ref (show (G.2.2.1 + h.2.2.2.1 + 1 + j : Nat) = G.2.2.1 + (h.2.2.2.1 + 1 + j) by omega)
        · simp only [hj, ↓reduceIte, Option.map_none]
      · by_cases e2 : h.2.2.2.1 < i
        · have e3 : h.2.2.2.1 < i ∧ i ≤ h.2.2.2.1 + x.toNatClampNeg := ⟨e2, by omega⟩
          have e5 : am_cell G (am_new2 h x.toNatClampNeg y.toNatClampNeg) i = .inl (G.2.1 0, y.toNatClampNeg, .inl (fun _ => 0)) := by
            unfold am_cell am_new2
            simp only [e1, e3, and_self, ↓reduceIte]
            unfold am_arrv
            simp [e3]
          rw [e5]
          show F.heap[G.2.2.1 + i]? = some (vp_cell _ _)
          have := hrow (i - h.2.2.2.1 - 1) (by omega)
          rw [hH.1, show G.2.2.1 + h.2.2.2.1 + 1 + (i - h.2.2.2.1 - 1) = G.2.2.1 + i by omega] at this
          exact this
        · have e3 : ¬ (h.2.2.2.1 < i ∧ i ≤ h.2.2.2.1 + x.toNatClampNeg) := fun q => e2 q.1
          have e5 : am_cell G (am_new2 h x.toNatClampNeg y.toNatClampNeg) i = am_cell G h i := by
            unfold am_cell am_new2 am_arrv am_fv
            simp only [e1, e3, ↓reduceIte]
          rw [e5]
          exact (hH.2.1 i (by omega)).kept (hold _ (by show G.2.2.1 + i < H.size; rw [hH.1]; omega))
    · have hi : h.2.2.2.1 + 1 + x.toNatClampNeg ≤ i := hi
      unfold am_new2
      simp only
      rw [if_neg (by omega), if_neg (by omega)]
      exact hH.2.2.1 i (by omega)
    · unfold am_new2 at hi
      simp only at hi
      split at hi
      · cases hi; decide
      · split at hi
        · cases hi; decide
        · exact hH.2.2.2 i t n hi
  obtain ⟨t, a1, b1⟩ := K lsC F.heap locs hL hH1 (am_Snew hS (by omega) hold) F rfl X'
  refine ⟨t, step t ?_, b1⟩
  rw [e, hH.1]
  exact a1
end AMV
end
section
section AMX
variable {l : Launch} {G : am_G} {p : Program} {e : Env} {R : Room} {s : State} {m : MethodId} {args : Array Value} {below : List Frame} {meth : Method} {c : Code} {Z : State → Prop} {M : am_M} {cells slots : Nat} {tb : Nat → Nat × (Nat → Int32)}
set_option maxHeartbeats 4000000 in
theorem am_cpy_s (cx : am_Cx G M tb p s m args meth c) {pc idx : Nat} (hlk : am_in (.methodLink (am_own M) idx arraycopyName)) (hd : decode (am_cc M) pc = .ok (.invokestatic idx, 3)) {ls rest : List Value} {h : am_H} {x dp sp : Int32} {o o0 n0 n1 : Nat} (g0 : h.1 o0 = .inr (0, n0)) (g1 : h.1 o = .inr (0, n1)) (h1 : ¬ sp < 0) (h2 : ¬ dp < 0) (h3 : ¬ x < 0) (h4 : sp.toNatClampNeg + x.toNatClampNeg ≤ n0) (h5 : dp.toNatClampNeg + x.toNatClampNeg ≤ n1) (hfr : 1 ≤ R.frames) (hlo : rest.length + 30 ≤ R.locals) (hcat : ∀ v ∈ rest, v.category = 1)
    (K : am_W l G p e R s m args below meth c Z M cells slots (pc + 3) ls rest (h.1, h.2.1, (fun i j => if i = o then va_cpy (h.2.2.1 o0) (h.2.2.1 o) sp.toNatClampNeg dp.toNatClampNeg x.toNatClampNeg j else h.2.2.1 i j), h.2.2.2)) : am_W l G p e R s m args below meth c Z M cells slots pc ls (.int x :: .int dp :: .ref o :: .int sp :: .ref o0 :: rest) h := by
  obtain ⟨hx, hb, hr, hml, hown, hts, hlocks, hnm, hK, hT, hbase⟩ := cx
  have nn : ∀ z : Int32, ¬ z < 0 → z.toInt = (z.toNatClampNeg : Int) := by
    intro z hz
    have hz0 : (0 : Int) ≤ z.toInt := by
      have := Int32.not_lt.mp hz
      simpa using Int32.le_iff_toInt_le.mp this
    show z.toInt = ((z.toInt.toNat : Nat) : Int)
    omega
  intro lsC H locs hL hH hS T hT0 X
  have hc0 : H[G.2.2.1 + o0]? = some (vp_cell (G.2.1 0) (n0, .inl (h.2.2.1 o0))) := (am_ary hH g0).2
  have hc1 : H[G.2.2.1 + o]? = some (vp_cell (G.2.1 0) (n1, .inl (h.2.2.1 o))) := (am_ary hH g1).2
  obtain ⟨-, k0, hk0, cm0, hkk0⟩ := (hK.2 0 _ rfl).1 n0 (fun j => .int (h.2.2.1 o0 j))
  obtain ⟨-, k1, hk1, cm1, hkk1⟩ := (hK.2 0 _ rfl).1 n1 (fun j => .int (h.2.2.1 o j))
  have hsum : ∀ (r : List Value), (∀ v ∈ r, v.category = 1) → ((r.map (am_tv G)).map fun v => v.category).sum = r.length := by
    intro r
    induction r with
    | nil => intro _; rfl
    | cons v r ih =>
      intro hv
      rw [List.map_cons, List.map_cons, List.sum_cons, ih (fun w hw => hv w (List.mem_cons_of_mem _ hw)), am_tv_cat G v (hv v List.mem_cons_self), List.length_cons]
      omega
  have hnf : nativeFrameWords "java/lang/System" "arraycopy" 5 ≤ 19 := by decide
  have hlo1 : 2 * 0 + ((rest.map (am_tv G)).map fun v => v.category).sum + (nativeFrameWords "java/lang/System" "arraycopy" 5 + 11) ≤ R.locals := by
    rw [hsum rest hcat]
    omega
  obtain ⟨vm', X', step⟩ := X.arraycopy hx hown (hts _ hlk) (hts _ am_icN) (hts _ am_icS) (hts _ am_icI) (src := G.2.2.1 + o0) (dst := G.2.2.1 + o) (cs := vp_cell (G.2.1 0) (n0, .inl (h.2.2.1 o0))) (cd := vp_cell (G.2.1 0) (n1, .inl (h.2.2.1 o))) (srcPos := sp) (destPos := dp) (n := x) (by rw [hT0]; exact hc0) (by rw [hT0]; exact hc1)
    (fun _ h => by cases h) (fun _ h => by cases h) (fun h => by cases h) (fun h => by cases h) hk0 hk1 hkk0 hkk1 (by simp [refKind]) h1 h2 h3
    (by rw [nn sp h1, nn x h3]; show ¬ _ > ((arrV (G.2.1 0) n0 (fun j => .int (h.2.2.1 o0 j))).slots.size : Int); rw [arrV_size]; omega)
    (by rw [nn dp h2, nn x h3]; show ¬ _ > ((arrV (G.2.1 0) n1 (fun j => .int (h.2.2.1 o j))).slots.size : Int); rw [arrV_size]; omega)
    (fun vm₁ _ i hi => by
      have e : (vp_cell (G.2.1 0) (n0, .inl (h.2.2.1 o0))).slots.getD (sp.toNatClampNeg + i) .null = .int (h.2.2.1 o0 (sp.toNatClampNeg + i)) := by
        show (arrV (G.2.1 0) n0 (fun j => .int (h.2.2.1 o0 j))).slots.getD _ _ = _
        rw [Array.getD_eq_getD_getElem?, arrV_read _ _ (by omega)]
        rfl
      refine ⟨?_, ?_⟩
      · rw [e]
        rfl
      · rw [e]
        exact trivial)
    (g := F0 m pc lsC ((Value.int x :: .int dp :: .ref o :: .int sp :: .ref o0 :: rest).map (am_tv G))) rfl (by rw [hml]; exact hL.1) (rest := rest.map (am_tv G)) rfl (by rw [hb]; exact hd) hfr hlo1
  have e1 : copied (vp_cell (G.2.1 0) (n0, .inl (h.2.2.1 o0))) (vp_cell (G.2.1 0) (n1, .inl (h.2.2.1 o))) sp dp x = vp_cell (G.2.1 0) (n1, .inl (va_cpy (h.2.2.1 o0) (h.2.2.1 o) sp.toNatClampNeg dp.toNatClampNeg x.toNatClampNeg)) := va_copied (fun z => .int z) (G.2.1 0) (G.2.1 0) (h.2.2.1 o0) (h.2.2.1 o) h4
  rw [e1] at X' step
  generalize hcl : vp_cell (G.2.1 0) (n1, .inl (va_cpy (h.2.2.1 o0) (h.2.2.1 o) sp.toNatClampNeg dp.toNatClampNeg x.toNatClampNeg)) = cl at X' step
  have hl : G.2.2.1 + o < H.size := (Array.getElem?_eq_some_iff.mp hc1).1
  have hheap : ((T.setVm vm').setCell (G.2.2.1 + o) cl).heap = H.setIfInBounds (G.2.2.1 + o) cl := by rw [← hT0]; rfl
  have oq : ∀ q : Nat, q ≠ G.2.2.1 + o → (H.setIfInBounds (G.2.2.1 + o) cl)[q]? = H[q]? := fun q hq => by simp [Array.getElem?_setIfInBounds, Ne.symm hq]
  have hcell : ∀ i, i ≠ o → am_cell G (h.1, h.2.1, (fun i j => if i = o then va_cpy (h.2.2.1 o0) (h.2.2.1 o) sp.toNatClampNeg dp.toNatClampNeg x.toNatClampNeg j else h.2.2.1 i j), h.2.2.2) i = am_cell G h i := by
    intro i hi
    unfold am_cell am_arrv am_fv
    simp only [hi, ↓reduceIte]
  have hco : am_cell G (h.1, h.2.1, (fun i j => if i = o then va_cpy (h.2.2.1 o0) (h.2.2.1 o) sp.toNatClampNeg dp.toNatClampNeg x.toNatClampNeg j else h.2.2.1 i j), h.2.2.2) o = .inl (G.2.1 0, n1, .inl (va_cpy (h.2.2.1 o0) (h.2.2.1 o) sp.toNatClampNeg dp.toNatClampNeg x.toNatClampNeg)) := by
    unfold am_cell am_arrv
    simp only [g1, ↓reduceIte]
  obtain ⟨t, a1, b1⟩ := K lsC _ _ hL (am_rest hH rfl rfl hcell (fun _ => by rw [hco]; show (H.setIfInBounds (G.2.2.1 + o) cl)[G.2.2.1 + o]? = some _; rw [← hcl]; simp [Array.getElem?_setIfInBounds, hl]) (by simp) oq) ⟨by simp; exact hS.1, fun q g1 g2 => by
      rw [oq q (fun e => g2 (by rw [e]; exact Nat.le_add_right _ _))]
      exact hS.2.1 q g1 g2, fun q hq => by
      rcases List.mem_append.mp hq with h | h
      · exact hS.2.2 q h
      · obtain ⟨z, -, hz⟩ := List.mem_map.mp h
        rw [← hz]
        exact Nat.le_add_right _ _⟩ _ hheap X'
  exact ⟨t, step t a1, b1⟩
theorem am_step_tb {i : Instr} {pc pc' : Nat} {ls st ls' st' : List Value} {h h' : am_H} (hs : am_step M i pc ls st h = some (pc', ls', st', h')) : h'.2.2.2.2 = h.2.2.2.2 := by
  unfold am_step at hs
  split at hs
  all_goals first
    | (cases hs; rfl)
    | (unfold am_il at hs; split at hs <;> cases hs <;> rfl)
    | (unfold am_al at hs; split at hs <;> cases hs <;> rfl)
    | (unfold am_is at hs; split at hs <;> (try split at hs) <;> cases hs <;> rfl)
    | (unfold am_as at hs; split at hs <;> (try split at hs) <;> cases hs <;> rfl)
    | (unfold am_ii at hs; split at hs <;> cases hs <;> rfl)
    | (unfold am_ldc at hs; split at hs <;> cases hs <;> rfl)
    | (unfold am_dup at hs; split at hs <;> cases hs <;> rfl)
    | (unfold am_dup2 at hs; split at hs <;> cases hs <;> rfl)
    | (unfold am_pop at hs; split at hs <;> cases hs <;> rfl)
    | (unfold am_bin at hs; split at hs <;> cases hs <;> rfl)
    | (unfold am_neg at hs; split at hs <;> cases hs <;> rfl)
    | (unfold am_if at hs; split at hs <;> (try split at hs) <;> cases hs <;> rfl)
    | (unfold am_ic at hs; split at hs <;> (try split at hs) <;> cases hs <;> rfl)
    | (unfold am_nn at hs; split at hs <;> cases hs <;> rfl)
    | (unfold am_ts at hs; split at hs <;> cases hs <;> rfl)
    | (unfold am_lsw at hs; split at hs <;> cases hs <;> rfl)
    | (unfold am_gf at hs; split at hs <;> (try split at hs) <;> (try split at hs) <;> cases hs <;> rfl)
    | (unfold am_gs at hs; split at hs <;> cases hs <;> rfl)
    | (unfold am_len at hs; split at hs <;> (try split at hs) <;> cases hs <;> rfl)
    | (unfold am_pf at hs; split at hs <;> (try split at hs) <;> (try split at hs) <;> (try split at hs) <;> cases hs <;> rfl)
    | (exact absurd hs (by simp))
theorem am_mem_tb {i : Instr} {P : Prop} {pc pc' : Nat} {ls st ls' st' : List Value} {h h' : am_H} (hs : am_mem M i pc ls st h = some (P, pc', ls', st', h')) : h'.2.2.2.2 = h.2.2.2.2 := by
  unfold am_mem at hs
  split at hs <;> (try split at hs) <;> (try split at hs) <;> (try split at hs) <;> (try split at hs) <;> cases hs <;> rfl
def am_X (l : Launch) : am_K → Prop := fun (M, pc, ls, st, h, kc, ks, Q) => am_Mok M → kc ≤ (am_rm M).cells → ks ≤ (am_rm M).slots → ∀ (G : am_G) (tb : Nat → Nat × (Nat → Int32)) (p : Program) (e : Env) (s : State) (m : MethodId) (args : Array Value) (below : List Frame) (meth : Method) (c : Code), h.2.2.2.2 = tb → am_Cx G M tb p s m args meth c →
  am_W l G p e (am_rm M) s m args below meth c (MQ below (am_Qc G tb Q) args s (am_rm M).cells (am_rm M).slots (am_A G)) M ((am_rm M).cells - kc) ((am_rm M).slots - ks) pc ls st h
theorem am_sum1 : ∀ (r : List Value), (∀ v ∈ r, v.category = 1) → ((r.map (am_tv G)).map fun v => v.category).sum = r.length
  | [], _ => rfl
  | v :: r, hv => by
    rw [List.map_cons, List.map_cons, List.sum_cons, am_sum1 r (fun w hw => hv w (List.mem_cons_of_mem _ hw)), am_tv_cat G v (hv v List.mem_cons_self), List.length_cons]
    omega
theorem am_Wcs {cells' slots' pc : Nat} {ls st : List Value} {h : am_H} (h1 : cells = cells') (h2 : slots = slots') (K : am_W l G p e R s m args below meth c Z M cells' slots' pc ls st h) : am_W l G p e R s m args below meth c Z M cells slots pc ls st h := by
  subst h1; subst h2; exact K
theorem am_pre {h : am_H} {as : List Value} {H : Heap} {locs : List Loc} (cx : am_Cx G M tb p s m args meth c) (hH : am_Hp G h H) (hS : va_S (am_A G) s.heap H locs) : PreS s H (am_Pc G tb h as) (as.map (am_tv G)) := by
  obtain ⟨hx, hb, hr, hml, hown, hts, hlocks, hnm, hK, hT, hbase⟩ := cx
  exact ⟨am_blind, fun U hU hW => ⟨rfl, by rw [hU]; exact hH, va_K.moved hW.alike hK, hT.to hS hU hW.alike⟩⟩
/-- behind a call the run goes on -/
theorem am_back {pc : Nat} {ls rest : List Value} {lsC : Array Slot} {Q1 : am_Q} {M' : am_M} {kc ks : Nat} (hL : am_Lo G lsC (am_ml M) ls) (hkc : kc ≤ (am_rm M).cells) (hks : ks ≤ (am_rm M).slots) (h1 : (am_rm M').cells ≤ kc) (h2 : (am_rm M').slots ≤ ks)
    (kk : ∀ (r : Option Value) (h1 : am_H), Q1 r h1 → h1.2.2.2.2 = tb → am_W l G p e R s m args below meth c Z M ((am_rm M).cells - (kc - (am_rm M').cells)) ((am_rm M).slots - (ks - (am_rm M').slots)) (pc + 3) ls (r.toList ++ rest) h1) :
    ∀ (r : Option Value) (h1 : am_H) (H1 : Heap) (locs1 : List Loc), Q1 r h1 → am_Hp G h1 H1 → h1.2.2.2.2 = tb → va_S (am_A G) s.heap H1 locs1 → W p l e R s m args below meth c H1 locs1 ((am_rm M).cells - kc + (am_rm M').cells) ((am_rm M).slots - ks + (am_rm M').slots) Z (F0 m (pc + 3) lsC ((r.map (am_tv G)).toList ++ rest.map (am_tv G))) := by
  intro r h1 H1 locs1 hq hH1 ht hS1
  have := kk r h1 hq ht lsC H1 locs1 hL hH1 hS1
  rw [show (am_rm M).cells - (kc - (am_rm M').cells) = (am_rm M).cells - kc + (am_rm M').cells by omega, show (am_rm M).slots - (ks - (am_rm M').slots) = (am_rm M).slots - ks + (am_rm M').slots by omega] at this
  cases r <;> exact this
end AMX
end
section
/-! a static method called by a subclass's name (javac writes the qualifying class): the kit has no row for it -/
section AMUP
variable {Q : Unit → Pre} {E : CtlPost} {e : Env} {d : Bool} {acts : List Action} {s s₀ : State} {f : JFrame}
theorem am_wp_coldUp {index ci n cn : Nat} {m : MethodId} {dk ck : Class} {cf : ClassFile} {name desc : String} {via : Bool} (hs : s.topJava?.isSome) (hp : e.platform.polymorphicOnlyByInvokevirtual = true)
    (hW : s₀.WarmedH s.vm) (hE : s₀.MethodEntryUp e s.vm f.method.cls index cn m ci) (h1 : s₀.vm.classes[f.method.cls]? = some dk) (h2 : dk.cf = some cf)
    (h3 : cf.constantPool[index]? = some (if via then .interfaceMethodref ci n else .methodref ci n)) (h4 : cf.constantPool.nameAndType? n = some (name, desc))
    (hck : s₀.vm.classes[cn]? = some ck) (hnone : (ck.methods.any fun x => x.name == name && !x.isStatic && signaturePolymorphic ck x) = false) :
    wp (Op.invokestatic.sem index) Q E e d acts (s.setTop f) ↔ wp (Op.invokestatic.sem index) Q E e d acts ((s.setVm (s.vm.calledUp f.method.cls ci index cn m)).setTop f) := by
  obtain ⟨hgc, hrc, hW₁, hgm⟩ := hE.classFirst
  obtain ⟨k₀, hk₀, he₀⟩ := hW.alike.2.2 _ _ h1
  obtain ⟨k₂, hk₂, he₂⟩ := hE.warmed.alike.2.2 _ _ h1
  obtain ⟨c₁, hc₁, hec₁⟩ := hW₁.alike.2.2 _ _ hck
  obtain ⟨c₂, hc₂, hec₂⟩ := hE.warmed.alike.2.2 _ _ hck
  have hb₀ := memberRef_ask_via (e := e) hk₀ (by rw [he₀]; exact h2) h3 h4
  have hb₂ := memberRef_ask_via (e := e) hk₂ (by rw [he₂]; exact h2) h3 h4
  have hn₁ : (c₁.methods.any fun x => x.name == name && !x.isStatic && signaturePolymorphic c₁ x) = false := by rw [hec₁]; exact hnone
  have hn₂ : (c₂.methods.any fun x => x.name == name && !x.isStatic && signaturePolymorphic c₂ x) = false := by rw [hec₂]; exact hnone
  have hs₁ : (s.setVm (s.vm.noted f.method.cls ci (.cls cn))).topJava?.isSome := hs
  have hs₂ : (s.setVm (s.vm.calledUp f.method.cls ci index cn m)).topJava?.isSome := hs
  have hL : ∀ {Q' : ClassId → Pre} {d' : Bool} {acts' : List Action}, wp (Jvm.resolveClassAt ci) Q' E e d' acts' (s.setTop f) ↔ Q' cn d' acts' ((s.setVm (s.vm.noted f.method.cls ci (.cls cn))).setTop f) :=
    W.resolveClassAt_links (t := s.setTop f) (State.method?_setTop f hs) hgc
  have hM : ∀ {Q' : MethodId → Pre} {d' : Bool} {acts' : List Action}, wp (Jvm.resolveMethodAt index) Q' E e d' acts' ((s.setVm (s.vm.noted f.method.cls ci (.cls cn))).setTop f) ↔ Q' m d' acts' ((s.setVm (s.vm.calledUp f.method.cls ci index cn m)).setTop f) :=
    W.resolveMethodAt_links (t := (s.setVm (s.vm.noted f.method.cls ci (.cls cn))).setTop f) (State.method?_setTop f hs₁) hgm
  simp [Op.invokestatic.sem, hp, Seam.memberRefOf, State.method?_setTop f hs, State.method?_setTop f hs₂, hb₀, hb₂, hL, W.resolveClassAt_ready (s := (s.setVm (s.vm.calledUp f.method.cls ci index cn m)).setTop f) (State.method?_setTop f hs₂) hE.classReady,
    hc₁, hc₂, hn₁, hn₂, hM, W.resolveMethodAt_ready (s := (s.setVm (s.vm.calledUp f.method.cls ci index cn m)).setTop f) (State.method?_setTop f hs₂) hE.ready, -Array.any_eq_true]
end AMUP
section AMUQ
variable {p : Program} {l : Launch} {e : Env} {R : Room} {s : State} {m : MethodId} {args : Array Value} {below : List Frame} {meth : Method} {c : Code} {T : State} {locs : List Loc} {cells slots : Nat}
theorem am_invokestaticUp (X : Stand p l e R s m args below meth c T locs cells slots) (hexec : p.tables.exec = Jvm.exec)
    {own owner : String} {index : Nat} {x : MethodName} (hown : s.vm.findClass own = some m.cls) (hlink : (Cond.methodLink own index x).before args s = true)
    (hsame : (Cond.sameMethod x.cls owner x.name x.desc).before args s = true) (howner : owner ≠ "java/lang/invoke/MethodHandle" ∧ owner ≠ "java/lang/invoke/VarHandle") (hxc : x.cls ≠ "java/lang/invoke/MethodHandle" ∧ x.cls ≠ "java/lang/invoke/VarHandle")
    {m' : MethodId} {meth' : Method} {k' : Class} (hn : s.methodNamed? ⟨owner, x.name, x.desc⟩ = some m') (hm' : s.vm.method? m' = some meth') (hstatic : meth'.isStatic = true)
    (hk' : s.vm.classes[m'.cls]? = some k') (hinit : k'.init = .initialized)
    {g : JFrame} (hg : g.method = m) {argsL rest : List Value} (hlen : argsL.length = meth'.sig.parameters.length) (hstack : g.stack = argsL.reverse ++ rest)
    (hdg : decode c.code g.pc = .ok (.invokestatic index, 3)) :
    ∃ vm', Stand p l e R s m args below meth c (T.setVm vm') locs cells slots ∧
      ∀ target, (∀ acts, Steps p.tables e below (doInvoke e ((T.setVm vm').setTop { g with stack := rest }) acts m' argsL.toArray).1 target) → Steps p.tables e below (T.setTop g) target := by
  have hpl : e.platform.magicAccessors = ({} : Platform).magicAccessors := by rw [X.admits.platform]
  have hpv : e.platform.polymorphicOnlyByInvokevirtual = true := by rw [X.admits.platform]
  obtain ⟨cn, ck, r1, hcn, hck, hni, hf, hn1⟩ := Cond.sameMethod_found hsame
  cases hn.symm.trans hn1
  obtain ⟨ci, hl, hright⟩ := Cond.methodLink_specUp hown hcn hck hni hf hlink e.platform hpl (by rw [X.admits.platform])
  have hE : s.MethodEntryUp e T.vm m.cls index cn m' ci := State.methodEntryUp X.warmed hl hright
  obtain ⟨kx, hkx, hnx⟩ := className_of_methodNamed hn
  cases hk'.symm.trans hkx
  obtain ⟨kcn, hkcn, hncn⟩ := Vm.findClass_spec hcn
  cases hck.symm.trans hkcn
  obtain ⟨dk, cfile, nt, mname, mdesc, ckk, x6, x7, hd, hcf, hcp, hnt, -⟩ := hl.here
  have alike := hE.warmed.alike
  obtain ⟨dk₂, hdk₂, hed₂⟩ := alike.2.2 _ _ hd
  obtain ⟨k₂, hk₂, he₂⟩ := alike.2.2 _ _ hk'
  obtain ⟨ck₂, hck₂, hec₂⟩ := alike.2.2 _ _ hck
  have hnp : ∀ y, signaturePolymorphic ck y = false := signaturePolymorphic_of_name (by rw [hncn]; exact hxc)
  have hnp' : ∀ y, signaturePolymorphic k' y = false := signaturePolymorphic_of_name (by rw [hnx]; exact howner)
  have hnone : (ck.methods.any fun y => y.name == mname && !y.isStatic && signaturePolymorphic ck y) = false := by simp [hnp]
  have hnone₂ : (ck₂.methods.any fun y => y.name == mname && !y.isStatic && signaturePolymorphic ck₂ y) = false := by rw [hec₂]; exact hnone
  refine ⟨T.vm.calledUp m.cls ci index cn m', X.noted hE.warmed, fun target hrest => ?_⟩
  subst hg
  jvm_step X.here [hexec, hdg, am_wp_coldUp (e := e) (s := T) (s₀ := s) (f := g) (via := false) X.here.top hpv X.warmed hE hd hcf hcp hnt hck hnone,
    Op.invokestatic.wp_ready (e := e) (s := T.setVm (T.vm.calledUp g.method.cls ci index cn m')) (k := k₂) (meth := meth') (m := m') (args := argsL) (rest := rest) (f := g)
      X.here.top ⟨ci, mname, mdesc, false, cn, ck₂, memberRef_ask_via (e := e) (via := false) hdk₂ (by rw [hed₂]; exact hcf) hcp hnt, hE.classReady, hck₂, hnone₂⟩ hE.ready hk₂
      (by show (T.vm.calledUp g.method.cls ci index cn m').method? m' = some meth'; rw [alike.method?]; exact hm') (by rw [he₂]; exact hnp' meth') hstatic (by rw [he₂]; exact hinit) hlen hstack]
  exact fun acts => hrest _
theorem am_runSUp {y : MethodName} {bytes cc : ByteArray} {maxL nL mc ms n index : Nat} {ret : Option FieldType} {ws : List Cond} {rm : Room} {Pc : Array Value → State → Prop} {Qc : Array Value → State → Outcome → State → Prop} {free : Addr → Prop} {Ts : List Cond} {own xc : String} {H : Heap} {As rest : List Value} {g : JFrame}
    (S : CallFix p m c cc nL s args Ts own) (hM : Met l y ws rm Pc Qc mc ms free) (hrc : rm.cells = mc) (hrs : rm.slots = ms) (hfr : rm.frames + 1 ≤ R.frames) (hlo : 8 + (maxL + 11) + rm.locals ≤ R.locals) (hws : ∀ w ∈ ws, ∀ (a' : Array Value) (U : State), s.WarmedH U.vm → w.before a' U = true) (hcw : Cond.code y bytes maxL ret ∈ ws)
    (hcode : (Cond.code y bytes maxL ret).before args s = true) (hini : (Cond.initialized y.cls).before args s = true) (hy : y.cls ≠ "java/lang/invoke/MethodHandle" ∧ y.cls ≠ "java/lang/invoke/VarHandle") (hxc : xc ≠ "java/lang/invoke/MethodHandle" ∧ xc ≠ "java/lang/invoke/VarHandle") (hlen : ∀ sig, parseMethodDescriptor y.desc = some sig → n = sig.parameters.length)
    (hlink : (Cond.methodLink own index ⟨xc, y.name, y.desc⟩).before args s = true) (hsame : (Cond.sameMethod xc y.cls y.name y.desc).before args s = true) (hstat : (Cond.static y).before args s = true) (hp : PreS s H Pc As)
    (hg : g.method = m) (hn : As.length = n) (hsize : g.locals.size = nL) (hstack : g.stack = As.reverse ++ rest) (hW : 2 * g.monitorRoom + (rest.map fun v => v.category).sum ≤ 8) (hdg : decode cc g.pc = .ok (.invokestatic index, 3)) (hf : cells + mc ≤ R.cells ∧ slots + ms ≤ R.slots) :
    va_Run p l e R s m args below meth c H locs cells slots mc ms g rest (Qc As.toArray) (free) := by
  have hK : Back l R p e below s args y 3 8 (PreOf R mc ms Pc) (PostOf Qc mc ms free) := back_of (bytes := bytes) (maxL := maxL) (ret := ret) hM hp.1 hrc hrs hfr hlo hws hcw (fun a' U hW => word_at hW (Or.inl (by first | rfl | simp [Cond.onTables, Cond.keeps, Cond.steady])) hini)
  obtain ⟨hx, hb, hml, ho, -⟩ := S
  obtain ⟨-, hPc⟩ := hp
  intro T hT X
  obtain ⟨mk, hnamed⟩ := Cond.code_named hcode
  obtain ⟨methM, cM, hmethM, -, -, -, -, -, -, hsigM⟩ := Cond.code_spec hnamed hcode
  have hstatic : methM.isStatic = true := Cond.static_spec hnamed hmethM hstat
  obtain ⟨kP, hkP, -⟩ := className_of_methodNamed hnamed
  have hinitP : kP.init = .initialized := Cond.initialized_spec (findClass_of_methodNamed hnamed) hkP hini
  obtain ⟨vm₁, X₁, hstep₁⟩ := am_invokestaticUp X hx (x := ⟨xc, y.name, y.desc⟩) (owner := y.cls) ho hlink hsame hy hxc hnamed hmethM hstatic hkP hinitP (g := g) hg (argsL := As) (rest := rest) (hn.trans (hlen _ hsigM)) hstack (by rw [hb]; exact hdg)
  obtain ⟨v, ⟨U', l2, c2, s2⟩, X', ⟨g', mk', t, L, e1, e2, hq, h1, hL, h2, h3⟩, hsteps⟩ := hK m meth c ⟨T.setVm vm₁, locs, cells, slots⟩ { g with stack := rest } (.invokestatic index) mk As.toArray X₁ hg (hsize.trans hml.symm) (by rw [hb]; exact hdg) hW (X₁.named hnamed) ⟨hf.1, hf.2, hPc (T.setVm vm₁) hT X₁.warmed⟩
  dsimp only [Pt.U, Pt.locs, Pt.cells, Pt.slots] at X' e1 e2 h1 h2 h3 hsteps
  subst h1; subst h2; subst h3
  exact ⟨v, (T.setVm vm₁).calling g' mk' As.toArray, t, U', L, hT, X', hL, e1, e2, hq, fun target h => hstep₁ _ fun acts => by rw [doInvoke_state]; exact hsteps.trans h⟩
end AMUQ
end
section
theorem am_mxS : am_in (.static Lib.Math.max.name) := by unfold am_in; decide +kernel
theorem am_mnS : am_in (.static Lib.Math.min.name) := by unfold am_in; decide +kernel
theorem am_mxI : am_in (.initialized "java/lang/Math") := by unfold am_in; decide +kernel
theorem am_mxC : am_in (.code Lib.Math.max.name Lib.Math.max.code 2 (some .int)) := by unfold am_in; decide +kernel
theorem am_mnC : am_in (.code Lib.Math.min.name Lib.Math.min.code 2 (some .int)) := by unfold am_in; decide +kernel
set_option maxHeartbeats 16000000 in
set_option maxRecDepth 20000 in
/-- THE ABSTRACT RUN IS THE MACHINE'S -/
theorem am_sound (l : Launch) : ∀ k, am_Go k → am_X l k := by
  intro k hk
  refine am_Go.ind ?_ hk
  clear hk k
  rintro ⟨M, pc, ls, st, h, kc, ks, Q⟩ ⟨i, len, hi, H⟩
  intro hM hkc hks G tb p e s m args below meth c htb cx
  obtain ⟨hdec, hchk, hlen⟩ := hM.2.2.1 _ (am_lk_mem hi)
  dsimp only at hdec hchk hlen
  have hd : decode (am_cc M) pc = .ok (i, len) := hdec
  have cx0 := cx
  obtain ⟨hx, hb, hr, hml, hown, hts, hlocks, hnm, hK, hT, hbase⟩ := cx
  have hl1 : am_elen i ≠ 0 → len = am_elen i := fun q => hlen.resolve_left q
  rcases H with H | H | H | H | H | H | H | H | H | H | H | H | H | H
  · obtain ⟨pc', ls', st', h', hs, X⟩ := H
    exact am_step_s cx0 hM hd hchk hlen htb hs (X hM hkc hks G tb p e s m args below meth c ((am_step_tb hs).trans htb) cx0)
  · obtain ⟨P, pc', ls', st', h', hs, hP, X⟩ := H
    exact am_mem_s cx0 hM hd hchk hlen htb hs hP (X hM hkc hks G tb p e s m args below meth c ((am_mem_tb hs).trans htb) cx0)
  · obtain ⟨rfl, v, rfl, hret, hQ⟩ := H
    obtain rfl := hl1 (Nat.succ_ne_zero _)
    intro lsC HH locs hL hH hS
    refine W.widen (Nat.sub_le _ _) (Nat.sub_le _ _) ?_
    rcases hret with hret | ⟨hret, hv⟩
    · exact W.iret hx hb (hr.trans hret) (fun t ht hW => ⟨⟨some (.int v), h, rfl, hQ, by rw [ht]; exact hH, htb⟩, hS.F ht⟩) hS.2.2 hd hlocks
    · exact W.zret hx hb (hr.trans hret) (by rcases hv with rfl | rfl <;> rfl) (fun t ht hW => ⟨⟨some (.int v), h, rfl, hQ, by rw [ht]; exact hH, htb⟩, hS.F ht⟩) hS.2.2 hd hlocks
  · obtain ⟨rfl, v, n, rfl, hv, hret, hQ⟩ := H
    obtain rfl := hl1 (Nat.succ_ne_zero _)
    intro lsC HH locs hL hH hS
    refine W.widen (Nat.sub_le _ _) (Nat.sub_le _ _) ?_
    exact W.aret hx hb (hr.trans hret) (Or.inl ⟨n, rfl⟩) (by rcases hv with rfl | ⟨a, rfl⟩; exact Or.inl rfl; exact Or.inr ⟨_, rfl⟩) (fun t ht hW => ⟨⟨some v, h, rfl, hQ, by rw [ht]; exact hH, htb⟩, hS.F ht⟩) hS.2.2 hd hlocks
  · obtain ⟨rfl, rfl, hret, hQ⟩ := H
    obtain rfl := hl1 (Nat.succ_ne_zero _)
    intro lsC HH locs hL hH hS
    refine W.widen (Nat.sub_le _ _) (Nat.sub_le _ _) ?_
    exact W.vret hx hb (hr.trans hret) (fun t ht hW => ⟨⟨none, h, rfl, hQ, by rw [ht]; exact hH, htb⟩, hS.F ht⟩) hS.2.2 hd hlocks
  · obtain ⟨idx, M', ci, o, as, rest, Q1, rfl, rfl, ho, hcall, hM', hr8, hrc, hac, hal, hmc, hms, X1, X2⟩ := H
    obtain rfl := hl1 (Nat.succ_ne_zero _)
    intro lsC HH locs hL hH hS
    have hmet := am_met (l := l) (G := G) (tb := tb) hM' (as := .ref o :: as) (h := h) (Q1 := Q1) (fun v hv => by
      rcases List.mem_cons.mp hv with rfl | q
      · rfl
      · exact hac v q) hal (fun p e s m args below meth c cx1 => am_Wcs (by omega) (by omega) (X1 hM' (Nat.le_refl _) (Nat.le_refl _) G tb p e s m args below meth c htb cx1))
    have hstk : (as.reverse ++ Value.ref o :: rest).map (am_tv G) = (as.map (am_tv G)).reverse ++ .ref (G.2.2.1 + o) :: rest.map (am_tv G) := by
      rw [List.map_append, List.map_reverse]
      rfl
    have hst : ∀ w ∈ am_word M' :: lw_g, ∀ (a' : Array Value) (U : State), s.WarmedH U.vm → w.before a' U = true := fun w hw a' U hW => by
      rcases hcall with ⟨r, -, -, -, -, -, -, -, -, -, hwd⟩ | ⟨r, x, owner, -, -, -, -, -, -, -, -, -, hwd, -⟩
      · rcases List.mem_cons.mp hw with rfl | q
        · exact am_stays hW hts _ hwd
        · exact am_stays hW hts _ q
      · rcases List.mem_cons.mp hw with rfl | q
        · exact am_stays hW hts _ hwd
        · exact am_stays hW hts _ q
    obtain ⟨hb1, hb2⟩ := am_pre (as := .ref o :: as) cx0 hH hS
    rcases hcall with ⟨r, hr1, hcls, hpl, hnmx, hfit, w1, w2, w3, w4, w5⟩ | ⟨r, x, owner, hr1, hpl, hnmx, hfit, w1, w2, w3, w4, w5, w6, w7⟩
    · have hcell := va_recv (ws := [(G.2.2.1 + o, .inr (ci, (List.range (am_kd.getD ci []).length).map (fun k => am_tv G (am_fv h o ci k))))]) (q0 := 0) hK (am_one ⟨r, hr1, (am_obj hH ho hr1).2⟩) hr1 rfl
      refine am_call (rest := rest.map (am_tv G)) (va_runV (b := G.2.2.1 + o) (As := as.map (am_tv G)) (C := r.1) (n := as.length) (bytes := am_cc M') (maxL := am_ml M') (ret := am_ret M') (index := idx) (Ts := lw_g) ⟨hx, hb, hml, hown, hts⟩ hmet ⟨⟨rfl, rfl, hfit.1, hfit.2, hst, List.mem_cons_self, hts _ w5, by rw [hcls]; exact hts _ w4, hpl, fun sig q => ?_, hts _ w1⟩, hts _ w2, hts _ w3⟩ ⟨hb1, hcell, hb2⟩ rfl (by rw [List.length_map]) hL.1 hstk (lv_room (by rw [am_sum1 rest hrc]; exact hr8)) hd ⟨by omega, by omega⟩) hS ?_
      · have := hnmx; unfold am_nm at this; rw [q] at this; exact (Option.some.inj this).symm
      · exact am_back hL hkc hks hmc hms (fun r h1 q1 q2 => X2 r h1 q1 hM (by omega) (by omega) G tb p e s m args below meth c q2 cx0)
    · have hcell := va_recv (ws := [(G.2.2.1 + o, .inr (ci, (List.range (am_kd.getD ci []).length).map (fun k => am_tv G (am_fv h o ci k))))]) (q0 := 0) hK (am_one ⟨r, hr1, (am_obj hH ho hr1).2⟩) hr1 rfl
      refine am_call (rest := rest.map (am_tv G)) (va_runU (b := G.2.2.1 + o) (As := as.map (am_tv G)) (C := r.1) (x := x) (owner := owner) (n := as.length) (bytes := am_cc M') (maxL := am_ml M') (ret := am_ret M') (index := idx) (Ts := lw_g) ⟨hx, hb, hml, hown, hts⟩ hmet ⟨⟨rfl, rfl, hfit.1, hfit.2, hst, List.mem_cons_self⟩, hts _ w6, hts _ w5, hpl, fun sig q => ?_, hts _ w1, hts _ w2, ?_, hts _ w3, hts _ w4⟩ ⟨hb1, hcell, hb2⟩ rfl (by rw [List.length_map]) hL.1 hstk (lv_room (by rw [am_sum1 rest hrc]; exact hr8)) hd ⟨by omega, by omega⟩) hS ?_
      · have := hnmx; unfold am_nm at this; rw [q] at this; exact (Option.some.inj this).symm
      · rcases w7 with q | q
        · rw [← q]; exact va_Decl.of (hts _ w4) (hts _ w6)
        · exact va_Decl.abs (va_Nw.of rfl (hts _ q))
      · exact am_back hL hkc hks hmc hms (fun r h1 q1 q2 => X2 r h1 q1 hM (by omega) (by omega) G tb p e s m args below meth c q2 cx0)
  · obtain ⟨idx, M', as, rest, Q1, rfl, rfl, hcall, hM', hr8, hrc, hac, hal, hmc, hms, X1, X2⟩ := H
    obtain rfl := hl1 (Nat.succ_ne_zero _)
    intro lsC HH locs hL hH hS
    have hmet := am_met (l := l) (G := G) (tb := tb) hM' (as := as) (h := h) (Q1 := Q1) hac hal (fun p e s m args below meth c cx1 => am_Wcs (by omega) (by omega) (X1 hM' (Nat.le_refl _) (Nat.le_refl _) G tb p e s m args below meth c htb cx1))
    have hstk : (as.reverse ++ rest).map (am_tv G) = (as.map (am_tv G)).reverse ++ rest.map (am_tv G) := by
      rw [List.map_append, List.map_reverse]
    obtain ⟨hpl, hnmx, hfit, w1, w2, w3, w4⟩ := hcall
    have hst : ∀ w ∈ am_word M' :: lw_g, ∀ (a' : Array Value) (U : State), s.WarmedH U.vm → w.before a' U = true := fun w hw a' U hW => by
      rcases List.mem_cons.mp hw with rfl | q
      · exact am_stays hW hts _ w4
      · exact am_stays hW hts _ q
    have hlen1 : ∀ sig, parseMethodDescriptor (am_y M').desc = some sig → as.length = sig.parameters.length := fun sig q => by
      have := hnmx; unfold am_nm at this; rw [q] at this; exact (Option.some.inj this).symm
    have fin := am_back (Q1 := Q1) (M' := M') (rest := rest) (pc := pc) (tb := tb) (p := p) (l := l) (e := e) (R := am_rm M) (s := s) (m := m) (args := args) (below := below) (meth := meth) (c := c) (Z := MQ below (am_Qc G tb Q) args s (am_rm M).cells (am_rm M).slots (am_A G)) hL hkc hks hmc hms (fun r h1 q1 q2 => X2 r h1 q1 hM (by omega) (by omega) G tb p e s m args below meth c q2 cx0)
    rcases w1 with w1 | ⟨xc, hxc, w1, w1s⟩
    · exact am_call (rest := rest.map (am_tv G)) (va_runS (As := as.map (am_tv G)) (n := as.length) (bytes := am_cc M') (maxL := am_ml M') (ret := am_ret M') (index := idx) (Ts := lw_g) ⟨hx, hb, hml, hown, hts⟩ hmet ⟨⟨rfl, rfl, hfit.1, hfit.2, hst, List.mem_cons_self, hts _ w4, hts _ w3, hpl, hlen1, hts _ w1⟩, hts _ w2⟩ (am_pre cx0 hH hS) rfl (by rw [List.length_map]) hL.1 hstk (lv_room (by rw [am_sum1 rest hrc]; exact hr8)) hd ⟨by omega, by omega⟩) hS fin
    · exact am_call (rest := rest.map (am_tv G)) (am_runSUp (As := as.map (am_tv G)) (n := as.length) (bytes := am_cc M') (maxL := am_ml M') (ret := am_ret M') (index := idx) (Ts := lw_g) (xc := xc) ⟨hx, hb, hml, hown, hts⟩ hmet rfl rfl hfit.1 hfit.2 hst List.mem_cons_self (hts _ w4) (hts _ w3) hpl hxc hlen1 (hts _ w1) (hts _ w1s) (hts _ w2) (am_pre cx0 hH hS) rfl (by rw [List.length_map]) hL.1 hstk (lv_room (by rw [am_sum1 rest hrc]; exact hr8)) hd ⟨by omega, by omega⟩) hS fin
  · obtain ⟨idx, M', o, as, rest, Q1, rfl, rfl, hcall, hM', hr8, hrc, hac, hal, hmc, hms, X1, X2⟩ := H
    obtain rfl := hl1 (Nat.succ_ne_zero _)
    intro lsC HH locs hL hH hS
    have hmet := am_met (l := l) (G := G) (tb := tb) hM' (as := .ref o :: as) (h := h) (Q1 := Q1) (fun v hv => by
      rcases List.mem_cons.mp hv with rfl | q
      · rfl
      · exact hac v q) hal (fun p e s m args below meth c cx1 => am_Wcs (by omega) (by omega) (X1 hM' (Nat.le_refl _) (Nat.le_refl _) G tb p e s m args below meth c htb cx1))
    have hstk : (as.reverse ++ Value.ref o :: rest).map (am_tv G) = (as.map (am_tv G)).reverse ++ .ref (G.2.2.1 + o) :: rest.map (am_tv G) := by
      rw [List.map_append, List.map_reverse]
      rfl
    obtain ⟨hpl, hnmx, hfit, w1, w2, w3, w4, hini, hrn⟩ := hcall
    have hst : ∀ w ∈ am_word M' :: lw_g, ∀ (a' : Array Value) (U : State), s.WarmedH U.vm → w.before a' U = true := fun w hw a' U hW => by
      rcases List.mem_cons.mp hw with rfl | q
      · exact am_stays hW hts _ w4
      · exact am_stays hW hts _ q
    have hwd : am_word M' = .code (am_y M') (am_cc M') (am_ml M') none := by unfold am_word; rw [hrn]
    have hlen1 : ∀ sig, parseMethodDescriptor (am_y M').desc = some sig → as.length = sig.parameters.length := fun sig q => by
      have := hnmx; unfold am_nm at this; rw [q] at this; exact (Option.some.inj this).symm
    have hwm : Jvm.Cond.code (am_y M') (am_cc M') (am_ml M') none ∈ am_word M' :: lw_g := by rw [← hwd]; exact List.mem_cons_self
    have hcb : (Jvm.Cond.code (am_y M') (am_cc M') (am_ml M') none).before args s = true := by rw [← hwd]; exact hts _ w4
    have fin := am_back (Q1 := Q1) (M' := M') (rest := rest) (pc := pc) (tb := tb) (p := p) (l := l) (e := e) (R := am_rm M) (s := s) (m := m) (args := args) (below := below) (meth := meth) (c := c) (Z := MQ below (am_Qc G tb Q) args s (am_rm M).cells (am_rm M).slots (am_A G)) hL hkc hks hmc hms (fun r h1 q1 q2 => X2 r h1 q1 hM (by omega) (by omega) G tb p e s m args below meth c q2 cx0)
    rcases w1 with w1 | ⟨host, w1⟩
    · exact am_call (rest := rest.map (am_tv G)) (va_runI (b := G.2.2.1 + o) (As := as.map (am_tv G)) (n := as.length) (bytes := am_cc M') (maxL := am_ml M') (index := idx) (Ts := lw_g) ⟨hx, hb, hml, hown, hts⟩ hmet ⟨⟨rfl, rfl, hfit.1, hfit.2, hst, hwm, hcb, hts _ w3, hpl, hlen1, hts _ w1⟩, hini, hts _ w2⟩ (am_pre (as := .ref o :: as) cx0 hH hS) rfl (by rw [List.length_map]) hL.1 hstk (lv_room (by rw [am_sum1 rest hrc]; exact hr8)) hd ⟨by omega, by omega⟩) hS fin
    · exact am_call (rest := rest.map (am_tv G)) (va_runIN (b := G.2.2.1 + o) (host := host) (As := as.map (am_tv G)) (n := as.length) (bytes := am_cc M') (maxL := am_ml M') (index := idx) (Ts := lw_g) ⟨hx, hb, hml, hown, hts⟩ hmet ⟨⟨⟨rfl, rfl, hfit.1, hfit.2, hst, hwm⟩, hcb, hts _ w3, hpl, hlen1, hts _ w1⟩, hini, hts _ w2⟩ (am_pre (as := .ref o :: as) cx0 hH hS) rfl (by rw [List.length_map]) hL.1 hstk (lv_room (by rw [am_sum1 rest hrc]; exact hr8)) hd ⟨by omega, by omega⟩) hS fin
  · obtain ⟨idx, o, rest, rfl, rfl, w1, hf1, hl2, hrc, X⟩ := H
    obtain rfl := hl1 (Nat.succ_ne_zero _)
    intro lsC HH locs hL hH hS
    refine W.objInit hx hb hown (hts _ w1) (hts _ am_ioI) (hts _ am_ioC) rfl (by rw [hml]; exact hL.1) rfl hd hf1 ?_ (X hM hkc hks G tb p e s m args below meth c htb cx0 lsC HH locs hL hH hS)
    show 2 * 0 + ((rest.map (am_tv G)).map fun v => v.category).sum + 12 ≤ _
    rw [am_sum1 rest hrc]
    omega
  · obtain ⟨idx, x, dp, o, sp, o0, rest, n0, n1, rfl, rfl, w1, g0, g1, z1, z2, z3, z4, z5, hf1, hl2, hrc, X⟩ := H
    obtain rfl := hl1 (Nat.succ_ne_zero _)
    exact am_cpy_s cx0 w1 hd g0 g1 z1 z2 z3 z4 z5 hf1 hl2 hrc (X hM hkc hks G tb p e s m args below meth c htb cx0)
  · obtain ⟨idx, ci, r, rfl, hr1, w1, w2, w3, q1, q2, X⟩ := H
    obtain rfl := hl1 (Nat.succ_ne_zero _)
    exact am_new_s cx0 hr1 w1 w2 w3 hd (by omega) (by omega) (am_Wcs (by omega) (by omega) (X hM (by omega) (by omega) G tb p e s m args below meth c htb cx0))
  · obtain ⟨at', t, x, rest, rfl, ha, rfl, z1, z2, q1, q2, X⟩ := H
    obtain rfl := hl1 (Nat.succ_ne_zero _)
    exact am_newa_s cx0 ha hd z1 z2 (by omega) (by omega) (am_Wcs (by omega) (by omega) (X hM (by omega) (by omega) G tb p e s m args below meth c htb cx0))
  · obtain ⟨idx, x, y, rest, rfl, rfl, z1, z2, z3, z4, w1, q1, q2, X⟩ := H
    obtain rfl := hl1 (Nat.succ_ne_zero _)
    exact am_mna_s cx0 w1 hd z1 z2 z3 z4 (by omega) (by omega) (am_Wcs (by omega) (by omega) (X hM (by omega) (by omega) G tb p e s m args below meth c htb cx0))
  · obtain ⟨idx, x, y, z, rest, rfl, rfl, hw, hf1, hl2, hrc, X⟩ := H
    obtain rfl := hl1 (Nat.succ_ne_zero _)
    intro lsC HH locs hL hH hS
    have K := X hM hkc hks G tb p e s m args below meth c htb cx0 lsC HH locs hL hH hS
    have hsum : ((rest.map (am_tv G)).map fun v => v.category).sum + 13 ≤ (am_rm M).locals := by rw [am_sum1 rest hrc]; exact hl2
    rcases hw with ⟨w1, rfl⟩ | ⟨w1, rfl⟩
    · exact va_mmax hx hb (hml.trans hL.1.symm) hown (hts _ w1) (hts _ am_mxS) (hts _ am_mxI) (hts _ am_mxC) hf1 hsum (Nat.sub_le _ _) (Nat.sub_le _ _) hd K
    · exact va_mmin hx hb (hml.trans hL.1.symm) hown (hts _ w1) (hts _ am_mnS) (hts _ am_mxI) (hts _ am_mnC) hf1 hsum (Nat.sub_le _ _) (Nat.sub_le _ _) hd K
end
section
/-- what am_Mok asks, by program: the places of the words in lw_tbl are given -/
def am_fw (M : am_M) (q : Nat × Nat × List Nat) (i : Nat) : Bool := q.2.2.all (fun ci => match vwCl[ci]? with
  | some r => decide (q.2.1 < r.2.2) && decide (lw_tbl[i]? = some (.fieldLink (am_own M) q.1 (r.2.1 q.2.1).1 (r.2.1 q.2.1).2.1 (r.2.1 q.2.1).2.2.1))
  | none => false)
def am_z2 {α : Type} (f : α → Nat → Bool) : List α → List Nat → Bool
  | [], _ => true
  | a :: r, i :: s => f a i && am_z2 f r s
  | _ :: _, [] => false
theorem am_z2_of {α : Type} {f : α → Nat → Bool} : ∀ {l : List α} {s : List Nat}, am_z2 f l s = true → ∀ a ∈ l, ∃ i, f a i = true
  | [], _, _, _, ha => by cases ha
  | a :: r, i :: s, h, b, hb => by
    unfold am_z2 at h
    rw [Bool.and_eq_true] at h
    rcases List.mem_cons.mp hb with rfl | q
    · exact ⟨i, h.1⟩
    · exact am_z2_of h.2 b q
  | _ :: _, [], h, _, _ => by cases h
def am_mok (M : am_M) (fi ci si : List Nat) : Bool :=
  plainName (am_y M).cls && (am_code M).all (fun q => decide (decode (am_cc M) q.1 = .ok q.2) && am_chk1 M q.1 q.2.1 && (decide (am_elen q.2.1 = 0) || decide (q.2.2 = am_elen q.2.1))) &&
  am_z2 (am_fw M) (am_fls M) fi && am_z2 (fun q i => decide (lw_tbl[i]? = some (.constant (am_own M) q.1 q.2))) (am_cns M) ci &&
  am_z2 (fun q i => match am_stn[q.2]? with | some z => decide (lw_tbl[i]? = some (.fieldLink (am_own M) q.1 z.1 z.2 "[I")) | none => false) (am_sts M) si
theorem am_Mok.of {M : am_M} (fi ci si : List Nat) (h : am_mok M fi ci si = true) : am_Mok M := by
  unfold am_mok at h
  simp only [Bool.and_eq_true] at h
  obtain ⟨⟨⟨⟨h1, h2⟩, h3⟩, h4⟩, h5⟩ := h
  refine ⟨h1, trivial, fun q hq => ?_, fun q hq cc hcc => ?_, fun q hq => ?_, fun q hq => ?_⟩
  · have := List.all_eq_true.mp h2 q hq
    simp only [Bool.and_eq_true, Bool.or_eq_true, decide_eq_true_eq] at this
    exact ⟨this.1.1, this.1.2, this.2⟩
  · obtain ⟨i, hi⟩ := am_z2_of h3 q hq
    have := List.all_eq_true.mp hi cc hcc
    split at this
    · rename_i r hr
      simp only [Bool.and_eq_true, decide_eq_true_eq] at this
      exact ⟨r, hr, this.1, am_in.of i this.2 rfl⟩
    · cases this
  · obtain ⟨i, hi⟩ := am_z2_of h4 q hq
    exact am_in.of i (of_decide_eq_true hi) rfl
  · obtain ⟨i, hi⟩ := am_z2_of h5 q hq
    split at hi
    · rename_i z hz
      exact ⟨z, hz, am_in.of i (of_decide_eq_true hi) rfl⟩
    · cases hi
/-! calls, by program -/
def am_plb (s : String) : Bool := decide (s ≠ "java/lang/invoke/MethodHandle") && decide (s ≠ "java/lang/invoke/VarHandle")
theorem am_pl.of {s : String} (h : am_plb s = true) : am_pl s := by
  unfold am_plb at h
  simp only [Bool.and_eq_true, decide_eq_true_eq] at h
  exact h
def am_nmb (x : MethodName) (n : Nat) : Bool := decide ((parseMethodDescriptor x.desc).map (fun d => d.parameters.length) = some n)
theorem am_nm.of {x : MethodName} {n : Nat} (h : am_nmb x n = true) : am_nm x n := by unfold am_nmb at h; unfold am_nm; exact of_decide_eq_true h
def am_fitb (M M' : am_M) : Bool := decide ((am_rm M').frames + 1 ≤ (am_rm M).frames) && decide (8 + (am_ml M' + 11) + (am_rm M').locals ≤ (am_rm M).locals)
theorem am_fit.of {M M' : am_M} (h : am_fitb M M' = true) : am_fit M M' := by
  unfold am_fitb at h
  simp only [Bool.and_eq_true, decide_eq_true_eq] at h
  exact h
def am_cvb (M M' : am_M) (idx ci n i1 i2 i3 i4 i5 : Nat) : Bool := match vwCl[ci]? with
  | some r => decide ((am_y M').cls = r.1) && am_plb (am_y M').cls && am_nmb (am_y M') n && am_fitb M M' && decide (lw_tbl[i1]? = some (.methodLink (am_own M) idx (am_y M'))) && decide (lw_tbl[i2]? = some (.instanceMethod (am_y M'))) && decide (lw_tbl[i3]? = some (.selects r.1 (am_y M') (am_y M'))) && decide (lw_tbl[i4]? = some (.initialized r.1)) && decide (lw_tbl[i5]? = some (am_word M'))
  | none => false
theorem am_CV.of {M M' : am_M} {idx ci n : Nat} (i1 i2 i3 i4 i5 : Nat) (h : am_cvb M M' idx ci n i1 i2 i3 i4 i5 = true) : am_CV M M' idx ci n := by
  unfold am_cvb at h
  split at h
  · rename_i r hr
    simp only [Bool.and_eq_true, decide_eq_true_eq] at h
    obtain ⟨⟨⟨⟨⟨⟨⟨⟨h1, h2⟩, h3⟩, h4⟩, h5⟩, h6⟩, h7⟩, h8⟩, h9⟩ := h
    exact ⟨r, hr, h1, am_pl.of h2, am_nm.of h3, am_fit.of h4, am_in.of _ h5 rfl, am_in.of _ h6 rfl, am_in.of _ h7 rfl, am_in.of _ h8 rfl, am_in.of _ h9 rfl⟩
  · cases h
def am_cub (M M' : am_M) (idx ci n : Nat) (xc owner : String) (i1 i2 i3 i4 i5 i6 i7 : Nat) : Bool := match vwCl[ci]? with
  | some r => am_plb owner && am_nmb ⟨xc, (am_y M').name, (am_y M').desc⟩ n && am_fitb M M' && decide (lw_tbl[i1]? = some (.methodLink (am_own M) idx ⟨xc, (am_y M').name, (am_y M').desc⟩)) && decide (lw_tbl[i2]? = some (.sameMethod xc owner (am_y M').name (am_y M').desc)) && decide (lw_tbl[i3]? = some (.selects r.1 ⟨xc, (am_y M').name, (am_y M').desc⟩ (am_y M'))) && decide (lw_tbl[i4]? = some (.instanceMethod (am_y M'))) && decide (lw_tbl[i5]? = some (.initialized (am_y M').cls)) && decide (lw_tbl[i6]? = some (am_word M')) && (decide (am_y M' = ⟨owner, (am_y M').name, (am_y M').desc⟩) || decide (lw_tbl[i7]? = some (.declares ⟨owner, (am_y M').name, (am_y M').desc⟩)))
  | none => false
theorem am_CU.of {M M' : am_M} {idx ci n : Nat} (xc owner : String) (i1 i2 i3 i4 i5 i6 i7 : Nat) (h : am_cub M M' idx ci n xc owner i1 i2 i3 i4 i5 i6 i7 = true) : am_CU M M' idx ci n := by
  unfold am_cub at h
  split at h
  · rename_i r hr
    simp only [Bool.and_eq_true, Bool.or_eq_true, decide_eq_true_eq] at h
    obtain ⟨⟨⟨⟨⟨⟨⟨⟨⟨h1, h2⟩, h3⟩, h4⟩, h5⟩, h6⟩, h7⟩, h8⟩, h9⟩, h10⟩ := h
    refine ⟨r, ⟨xc, (am_y M').name, (am_y M').desc⟩, owner, hr, am_pl.of h1, am_nm.of h2, am_fit.of h3, am_in.of _ h4 rfl, am_in.of _ h5 rfl, am_in.of _ h6 rfl, am_in.of _ h7 rfl, am_in.of _ h8 rfl, am_in.of _ h9 rfl, ?_⟩
    rcases h10 with q | q
    · exact Or.inl q
    · exact Or.inr (am_in.of _ q rfl)
  · cases h
def am_csb (M M' : am_M) (idx n : Nat) (xc : String) (i1 i2 i3 i4 i5 : Nat) : Bool := am_plb (am_y M').cls && am_nmb (am_y M') n && am_fitb M M' && ((decide (xc = "") && decide (lw_tbl[i1]? = some (.methodLink (am_own M) idx (am_y M')))) || (am_plb xc && decide (lw_tbl[i1]? = some (.methodLink (am_own M) idx ⟨xc, (am_y M').name, (am_y M').desc⟩)) && decide (lw_tbl[i2]? = some (.sameMethod xc (am_y M').cls (am_y M').name (am_y M').desc)))) && decide (lw_tbl[i3]? = some (.static (am_y M'))) && decide (lw_tbl[i4]? = some (.initialized (am_y M').cls)) && decide (lw_tbl[i5]? = some (am_word M'))
theorem am_CS.of {M M' : am_M} {idx n : Nat} (xc : String) (i1 i2 i3 i4 i5 : Nat) (h : am_csb M M' idx n xc i1 i2 i3 i4 i5 = true) : am_CS M M' idx n := by
  unfold am_csb at h
  simp only [Bool.and_eq_true, Bool.or_eq_true, decide_eq_true_eq] at h
  obtain ⟨⟨⟨⟨⟨⟨h1, h2⟩, h3⟩, h4⟩, h5⟩, h6⟩, h7⟩ := h
  refine ⟨am_pl.of h1, am_nm.of h2, am_fit.of h3, ?_, am_in.of _ h5 rfl, am_in.of _ h6 rfl, am_in.of _ h7 rfl⟩
  rcases h4 with q | q
  · exact Or.inl (am_in.of _ q.2 rfl)
  · exact Or.inr ⟨xc, am_pl.of q.1.1, am_in.of _ q.1.2 rfl, am_in.of _ q.2 rfl⟩
def am_cib (M M' : am_M) (idx n : Nat) (host : String) (i1 i2 i3 i4 : Nat) : Bool := am_plb (am_y M').cls && am_nmb (am_y M') n && am_fitb M M' && ((decide (host = "") && decide (lw_tbl[i1]? = some (.methodLink (am_own M) idx (am_y M')))) || decide (lw_tbl[i1]? = some (.methodLinkNest (am_own M) idx (am_y M') host))) && decide (lw_tbl[i2]? = some (.instanceMethod (am_y M'))) && decide (lw_tbl[i3]? = some (.initialized (am_y M').cls)) && decide (lw_tbl[i4]? = some (am_word M')) && decide ((am_y M').name = "<init>") && decide (am_ret M' = none)
theorem am_CI.of {M M' : am_M} {idx n : Nat} (host : String) (i1 i2 i3 i4 : Nat) (h : am_cib M M' idx n host i1 i2 i3 i4 = true) : am_CI M M' idx n := by
  unfold am_cib at h
  simp only [Bool.and_eq_true, Bool.or_eq_true, decide_eq_true_eq] at h
  obtain ⟨⟨⟨⟨⟨⟨⟨⟨h1, h2⟩, h3⟩, h4⟩, h5⟩, h6⟩, h7⟩, h8⟩, h9⟩ := h
  refine ⟨am_pl.of h1, am_nm.of h2, am_fit.of h3, ?_, am_in.of _ h5 rfl, am_in.of _ h6 rfl, am_in.of _ h7 rfl, h8, h9⟩
  rcases h4 with q | q
  · exact Or.inl (am_in.of _ q.2 rfl)
  · exact Or.inr ⟨host, am_in.of _ q rfl⟩
/-! the rules of the abstract run, as they are used -/
section GO
variable {M : am_M} {pc kc ks : Nat} {ls st : List Value} {h : am_H} {Q : am_Q}
def am_run (M : am_M) : Nat → Nat → List Value → List Value → am_H → Option am_F
  | 0, pc, ls, st, h => some (pc, ls, st, h)
  | n + 1, pc, ls, st, h => match am_lk pc (am_code M) with
    | some (i, _) => match am_step M i pc ls st h with
      | some (pc', ls', st', h') => am_run M n pc' ls' st' h'
      | none => none
    | none => none
theorem go_s (n : Nat) {pc' : Nat} {ls' st' : List Value} {h' : am_H} (hr : am_run M n pc ls st h = some (pc', ls', st', h')) (g : am_Go (M, pc', ls', st', h', kc, ks, Q)) : am_Go (M, pc, ls, st, h, kc, ks, Q) := by
  induction n generalizing pc ls st h with
  | zero => cases hr; exact g
  | succ n ih =>
    unfold am_run at hr
    split at hr
    · rename_i i len hi
      split at hr
      · rename_i pc1 ls1 st1 h1 hs
        exact am_Go.intro ⟨i, len, hi, Or.inl ⟨pc1, ls1, st1, h1, hs, ih hr⟩⟩
      · cases hr
    · cases hr
theorem go_m {i : Instr} {len : Nat} {P : Prop} {pc' : Nat} {ls' st' : List Value} {h' : am_H} (hi : am_lk pc (am_code M) = some (i, len)) (hm : am_mem M i pc ls st h = some (P, pc', ls', st', h')) (hP : P) (g : am_Go (M, pc', ls', st', h', kc, ks, Q)) : am_Go (M, pc, ls, st, h, kc, ks, Q) :=
  am_Go.intro ⟨i, len, hi, Or.inr (Or.inl ⟨P, pc', ls', st', h', hm, hP, g⟩)⟩
theorem go_if {c : Prop} [Decidable c] {a b : Nat} (t : c → am_Go (M, a, ls, st, h, kc, ks, Q)) (f : ¬ c → am_Go (M, b, ls, st, h, kc, ks, Q)) : am_Go (M, (if c then a else b), ls, st, h, kc, ks, Q) := by
  by_cases q : c
  · rw [if_pos q]; exact t q
  · rw [if_neg q]; exact f q
theorem go_ret {len : Nat} {v : Int32} (hi : am_lk pc (am_code M) = some (.ireturn, len)) (hr : am_ret M = some .int) (q : Q (some (.int v)) h) : am_Go (M, pc, ls, [.int v], h, kc, ks, Q) :=
  am_Go.intro ⟨.ireturn, len, hi, Or.inr (Or.inr (Or.inl ⟨rfl, v, rfl, Or.inl hr, q⟩))⟩
theorem go_retz {len : Nat} {v : Int32} (hi : am_lk pc (am_code M) = some (.ireturn, len)) (hr : am_ret M = some .boolean) (hv : v = 0 ∨ v = 1) (q : Q (some (.int v)) h) : am_Go (M, pc, ls, [.int v], h, kc, ks, Q) :=
  am_Go.intro ⟨.ireturn, len, hi, Or.inr (Or.inr (Or.inl ⟨rfl, v, rfl, Or.inr ⟨hr, hv⟩, q⟩))⟩
theorem go_reta {len : Nat} {v : Value} {n : String} (hi : am_lk pc (am_code M) = some (.areturn, len)) (hr : am_ret M = some (.object n)) (hv : v = .null ∨ ∃ a, v = .ref a) (q : Q (some v) h) : am_Go (M, pc, ls, [v], h, kc, ks, Q) :=
  am_Go.intro ⟨.areturn, len, hi, Or.inr (Or.inr (Or.inr (Or.inl ⟨rfl, v, n, rfl, hv, hr, q⟩)))⟩
theorem go_retv {len : Nat} (hi : am_lk pc (am_code M) = some (.return_, len)) (hr : am_ret M = none) (q : Q none h) : am_Go (M, pc, ls, [], h, kc, ks, Q) :=
  am_Go.intro ⟨.return_, len, hi, Or.inr (Or.inr (Or.inr (Or.inr (Or.inl ⟨rfl, rfl, hr, q⟩))))⟩
def am_c1 (l : List Value) : Bool := l.all (fun v => match v with | .long _ => false | .double _ => false | _ => true)
theorem am_c1_of {l : List Value} (h : am_c1 l = true) : ∀ v ∈ l, v.category = 1 := fun v hv => by
  have := List.all_eq_true.mp h v hv
  cases v <;> first | rfl | cases this
theorem go_cv {idx len : Nat} {M' : am_M} (ci o : Nat) (as rest : List Value) (hi : am_lk pc (am_code M) = some (.invokevirtual idx, len)) (ho : h.1 o = .inl ci) (hc : am_CV M M' idx ci as.length) (hM : am_Mok M') (hb : (Nat.ble rest.length 8 && am_c1 rest && am_c1 as && Nat.ble (as.length + 1) (am_ml M')) = true) (h1 : (am_rm M').cells ≤ kc) (h2 : (am_rm M').slots ≤ ks)
    (g : am_Go (M', 0, am_ent M' (.ref o :: as), [], h, (am_rm M').cells, (am_rm M').slots, fun r h1 => am_Go (M, pc + 3, ls, r.toList ++ rest, h1, kc - (am_rm M').cells, ks - (am_rm M').slots, Q))) (hst : st = as.reverse ++ .ref o :: rest := by rfl) : am_Go (M, pc, ls, st, h, kc, ks, Q) := by
  simp only [Bool.and_eq_true] at hb
  obtain ⟨⟨⟨b1, b2⟩, b3⟩, b4⟩ := hb
  exact am_Go.intro ⟨.invokevirtual idx, len, hi, Or.inr (Or.inr (Or.inr (Or.inr (Or.inr (Or.inl ⟨idx, M', ci, o, as, rest, _, rfl, hst, ho, Or.inl hc, hM, Nat.le_of_ble_eq_true b1, am_c1_of b2, am_c1_of b3, Nat.le_of_ble_eq_true b4, h1, h2, g, fun r h1 q => q⟩)))))⟩
theorem go_cu {idx len : Nat} {M' : am_M} (ci o : Nat) (as rest : List Value) (hi : am_lk pc (am_code M) = some (.invokevirtual idx, len)) (ho : h.1 o = .inl ci) (hc : am_CU M M' idx ci as.length) (hM : am_Mok M') (hb : (Nat.ble rest.length 8 && am_c1 rest && am_c1 as && Nat.ble (as.length + 1) (am_ml M')) = true) (h1 : (am_rm M').cells ≤ kc) (h2 : (am_rm M').slots ≤ ks)
    (g : am_Go (M', 0, am_ent M' (.ref o :: as), [], h, (am_rm M').cells, (am_rm M').slots, fun r h1 => am_Go (M, pc + 3, ls, r.toList ++ rest, h1, kc - (am_rm M').cells, ks - (am_rm M').slots, Q))) (hst : st = as.reverse ++ .ref o :: rest := by rfl) : am_Go (M, pc, ls, st, h, kc, ks, Q) := by
  simp only [Bool.and_eq_true] at hb
  obtain ⟨⟨⟨b1, b2⟩, b3⟩, b4⟩ := hb
  exact am_Go.intro ⟨.invokevirtual idx, len, hi, Or.inr (Or.inr (Or.inr (Or.inr (Or.inr (Or.inl ⟨idx, M', ci, o, as, rest, _, rfl, hst, ho, Or.inr hc, hM, Nat.le_of_ble_eq_true b1, am_c1_of b2, am_c1_of b3, Nat.le_of_ble_eq_true b4, h1, h2, g, fun r h1 q => q⟩)))))⟩
theorem go_cs {idx len : Nat} {M' : am_M} (as rest : List Value) (hi : am_lk pc (am_code M) = some (.invokestatic idx, len)) (hc : am_CS M M' idx as.length) (hM : am_Mok M') (hb : (Nat.ble rest.length 8 && am_c1 rest && am_c1 as && Nat.ble as.length (am_ml M')) = true) (h1 : (am_rm M').cells ≤ kc) (h2 : (am_rm M').slots ≤ ks)
    (g : am_Go (M', 0, am_ent M' as, [], h, (am_rm M').cells, (am_rm M').slots, fun r h1 => am_Go (M, pc + 3, ls, r.toList ++ rest, h1, kc - (am_rm M').cells, ks - (am_rm M').slots, Q))) (hst : st = as.reverse ++ rest := by rfl) : am_Go (M, pc, ls, st, h, kc, ks, Q) := by
  simp only [Bool.and_eq_true] at hb
  obtain ⟨⟨⟨b1, b2⟩, b3⟩, b4⟩ := hb
  exact am_Go.intro ⟨.invokestatic idx, len, hi, Or.inr (Or.inr (Or.inr (Or.inr (Or.inr (Or.inr (Or.inl ⟨idx, M', as, rest, _, rfl, hst, hc, hM, Nat.le_of_ble_eq_true b1, am_c1_of b2, am_c1_of b3, Nat.le_of_ble_eq_true b4, h1, h2, g, fun r h1 q => q⟩))))))⟩
theorem go_ci {idx len : Nat} {M' : am_M} (o : Nat) (as rest : List Value) (hi : am_lk pc (am_code M) = some (.invokespecial idx, len)) (hc : am_CI M M' idx as.length) (hM : am_Mok M') (hb : (Nat.ble rest.length 8 && am_c1 rest && am_c1 as && Nat.ble (as.length + 1) (am_ml M')) = true) (h1 : (am_rm M').cells ≤ kc) (h2 : (am_rm M').slots ≤ ks)
    (g : am_Go (M', 0, am_ent M' (.ref o :: as), [], h, (am_rm M').cells, (am_rm M').slots, fun r h1 => am_Go (M, pc + 3, ls, r.toList ++ rest, h1, kc - (am_rm M').cells, ks - (am_rm M').slots, Q))) (hst : st = as.reverse ++ .ref o :: rest := by rfl) : am_Go (M, pc, ls, st, h, kc, ks, Q) := by
  simp only [Bool.and_eq_true] at hb
  obtain ⟨⟨⟨b1, b2⟩, b3⟩, b4⟩ := hb
  exact am_Go.intro ⟨.invokespecial idx, len, hi, Or.inr (Or.inr (Or.inr (Or.inr (Or.inr (Or.inr (Or.inr (Or.inl ⟨idx, M', o, as, rest, _, rfl, hst, hc, hM, Nat.le_of_ble_eq_true b1, am_c1_of b2, am_c1_of b3, Nat.le_of_ble_eq_true b4, h1, h2, g, fun r h1 q => q⟩)))))))⟩
theorem go_obj {idx len : Nat} (i : Nat) {o : Nat} {rest : List Value} (hi : am_lk pc (am_code M) = some (.invokespecial idx, len)) (hl : lw_tbl[i]? = some (.methodLink (am_own M) idx objectInit)) (hb : (Nat.ble 1 (am_rm M).frames && Nat.ble (rest.length + 12) (am_rm M).locals && am_c1 rest) = true)
    (g : am_Go (M, pc + 3, ls, rest, h, kc, ks, Q)) : am_Go (M, pc, ls, .ref o :: rest, h, kc, ks, Q) := by
  simp only [Bool.and_eq_true] at hb
  obtain ⟨⟨b1, b2⟩, b3⟩ := hb
  exact am_Go.intro ⟨.invokespecial idx, len, hi, Or.inr (Or.inr (Or.inr (Or.inr (Or.inr (Or.inr (Or.inr (Or.inr (Or.inl ⟨idx, o, rest, rfl, rfl, am_in.of i hl rfl, Nat.le_of_ble_eq_true b1, Nat.le_of_ble_eq_true b2, am_c1_of b3, g⟩))))))))⟩
theorem go_cpy {idx len : Nat} (i : Nat) {x dp sp : Int32} {o o0 n0 n1 : Nat} {rest : List Value} (hi : am_lk pc (am_code M) = some (.invokestatic idx, len)) (hl : lw_tbl[i]? = some (.methodLink (am_own M) idx arraycopyName)) (g0 : h.1 o0 = .inr (0, n0)) (g1 : h.1 o = .inr (0, n1)) (z1 : ¬ sp < 0) (z2 : ¬ dp < 0) (z3 : ¬ x < 0) (z4 : sp.toNatClampNeg + x.toNatClampNeg ≤ n0) (z5 : dp.toNatClampNeg + x.toNatClampNeg ≤ n1) (hb : (Nat.ble 1 (am_rm M).frames && Nat.ble (rest.length + 30) (am_rm M).locals && am_c1 rest) = true)
    (g : am_Go (M, pc + 3, ls, rest, (h.1, h.2.1, (fun i j => if i = o then va_cpy (h.2.2.1 o0) (h.2.2.1 o) sp.toNatClampNeg dp.toNatClampNeg x.toNatClampNeg j else h.2.2.1 i j), h.2.2.2), kc, ks, Q)) : am_Go (M, pc, ls, .int x :: .int dp :: .ref o :: .int sp :: .ref o0 :: rest, h, kc, ks, Q) := by
  simp only [Bool.and_eq_true] at hb
  obtain ⟨⟨b1, b2⟩, b3⟩ := hb
  exact am_Go.intro ⟨.invokestatic idx, len, hi, Or.inr (Or.inr (Or.inr (Or.inr (Or.inr (Or.inr (Or.inr (Or.inr (Or.inr (Or.inl ⟨idx, x, dp, o, sp, o0, rest, n0, n1, rfl, rfl, am_in.of i hl rfl, g0, g1, z1, z2, z3, z4, z5, Nat.le_of_ble_eq_true b1, Nat.le_of_ble_eq_true b2, am_c1_of b3, g⟩)))))))))⟩
theorem go_new {idx len : Nat} (ci i1 i2 i3 : Nat) {r : vw_C} (hi : am_lk pc (am_code M) = some (.new idx, len)) (hr : vwCl[ci]? = some r) (h1 : lw_tbl[i1]? = some (.classLink (am_own M) idx r.1)) (h2 : lw_tbl[i2]? = some (.instantiable r.1 r.2.2)) (h3 : lw_tbl[i3]? = some (.initialized r.1)) (hk1 : 1 ≤ kc) (hk2 : r.2.2 ≤ ks)
    (g : am_Go (M, pc + 3, ls, .ref h.2.2.2.1 :: st, am_new h (.inl ci), kc - 1, ks - r.2.2, Q)) : am_Go (M, pc, ls, st, h, kc, ks, Q) :=
  am_Go.intro ⟨.new idx, len, hi, Or.inr (Or.inr (Or.inr (Or.inr (Or.inr (Or.inr (Or.inr (Or.inr (Or.inr (Or.inr (Or.inl ⟨idx, ci, r, rfl, hr, am_in.of i1 h1 rfl, am_in.of i2 h2 rfl, am_in.of i3 h3 rfl, hk1, hk2, g⟩))))))))))⟩
theorem go_newa {len t : Nat} {at' : ArrayType} {x : Int32} {rest : List Value} (n : Nat) (hi : am_lk pc (am_code M) = some (.newarray at', len)) (ha : am_arr at' = some t) (hn : x = nI n) (hb : (Nat.ble n 100000 && Nat.ble 1 kc && Nat.ble n ks) = true)
    (g : am_Go (M, pc + 2, ls, .ref h.2.2.2.1 :: rest, am_new h (.inr (t, n)), kc - 1, ks - n, Q)) : am_Go (M, pc, ls, .int x :: rest, h, kc, ks, Q) := by
  simp only [Bool.and_eq_true] at hb
  obtain ⟨⟨b1, b2⟩, b3⟩ := hb
  have b1 := Nat.le_of_ble_eq_true b1
  have hc : x.toNatClampNeg = n := by rw [hn]; exact nI_clamp (by omega)
  refine am_Go.intro ⟨.newarray at', len, hi, Or.inr (Or.inr (Or.inr (Or.inr (Or.inr (Or.inr (Or.inr (Or.inr (Or.inr (Or.inr (Or.inr (Or.inl ⟨at', t, x, rest, rfl, ha, rfl, by rw [hn]; exact nI_pos (by omega), by rw [hc]; exact b1, Nat.le_of_ble_eq_true b2, by rw [hc]; exact Nat.le_of_ble_eq_true b3, ?_⟩)))))))))))⟩
  rw [hc]; exact g
theorem go_mna {idx len : Nat} (i : Nat) {x y : Int32} {rest : List Value} (n k : Nat) (hi : am_lk pc (am_code M) = some (.multianewarray idx 2, len)) (hl : lw_tbl[i]? = some (.classLink (am_own M) idx "[[I")) (hn : x = nI n) (hm : y = nI k) (hb : (Nat.ble n 10000 && Nat.ble k 10000 && Nat.ble (1 + n) kc && Nat.ble (n + n * k) ks) = true)
    (g : am_Go (M, pc + 4, ls, .ref h.2.2.2.1 :: rest, am_new2 h n k, kc - (1 + n), ks - (n + n * k), Q)) : am_Go (M, pc, ls, .int y :: .int x :: rest, h, kc, ks, Q) := by
  simp only [Bool.and_eq_true] at hb
  obtain ⟨⟨⟨b1, b2⟩, b3⟩, b4⟩ := hb
  have b1 := Nat.le_of_ble_eq_true b1
  have b2 := Nat.le_of_ble_eq_true b2
  have hc : x.toNatClampNeg = n := by rw [hn]; exact nI_clamp (by omega)
  have hd : y.toNatClampNeg = k := by rw [hm]; exact nI_clamp (by omega)
  refine am_Go.intro ⟨.multianewarray idx 2, len, hi, Or.inr (Or.inr (Or.inr (Or.inr (Or.inr (Or.inr (Or.inr (Or.inr (Or.inr (Or.inr (Or.inr (Or.inr (Or.inl ⟨idx, x, y, rest, rfl, rfl, by rw [hn]; exact nI_pos (by omega), by rw [hm]; exact nI_pos (by omega), by rw [hc]; exact b1, by rw [hd]; exact b2, am_in.of i hl rfl, by rw [hc]; exact Nat.le_of_ble_eq_true b3, by rw [hc, hd]; exact Nat.le_of_ble_eq_true b4, ?_⟩))))))))))))⟩
  rw [hc, hd]; exact g
theorem go_max {idx len : Nat} (i : Nat) {x y : Int32} {rest : List Value} (hi : am_lk pc (am_code M) = some (.invokestatic idx, len)) (hl : lw_tbl[i]? = some (.methodLink (am_own M) idx Lib.Math.max.name)) (hb : (Nat.ble 1 (am_rm M).frames && Nat.ble (rest.length + 13) (am_rm M).locals && am_c1 rest) = true)
    (g : am_Go (M, pc + 3, ls, .int (if x < y then y else x) :: rest, h, kc, ks, Q)) : am_Go (M, pc, ls, .int y :: .int x :: rest, h, kc, ks, Q) := by
  simp only [Bool.and_eq_true] at hb
  obtain ⟨⟨b1, b2⟩, b3⟩ := hb
  exact am_Go.intro ⟨.invokestatic idx, len, hi, Or.inr (Or.inr (Or.inr (Or.inr (Or.inr (Or.inr (Or.inr (Or.inr (Or.inr (Or.inr (Or.inr (Or.inr (Or.inr ⟨idx, x, y, _, rest, rfl, rfl, Or.inl ⟨am_in.of i hl rfl, rfl⟩, Nat.le_of_ble_eq_true b1, Nat.le_of_ble_eq_true b2, am_c1_of b3, g⟩))))))))))))⟩
theorem go_min {idx len : Nat} (i : Nat) {x y : Int32} {rest : List Value} (hi : am_lk pc (am_code M) = some (.invokestatic idx, len)) (hl : lw_tbl[i]? = some (.methodLink (am_own M) idx Lib.Math.min.name)) (hb : (Nat.ble 1 (am_rm M).frames && Nat.ble (rest.length + 13) (am_rm M).locals && am_c1 rest) = true)
    (g : am_Go (M, pc + 3, ls, .int (if y < x then y else x) :: rest, h, kc, ks, Q)) : am_Go (M, pc, ls, .int y :: .int x :: rest, h, kc, ks, Q) := by
  simp only [Bool.and_eq_true] at hb
  obtain ⟨⟨b1, b2⟩, b3⟩ := hb
  exact am_Go.intro ⟨.invokestatic idx, len, hi, Or.inr (Or.inr (Or.inr (Or.inr (Or.inr (Or.inr (Or.inr (Or.inr (Or.inr (Or.inr (Or.inr (Or.inr (Or.inr ⟨idx, x, y, _, rest, rfl, rfl, Or.inr ⟨am_in.of i hl rfl, rfl⟩, Nat.le_of_ble_eq_true b1, Nat.le_of_ble_eq_true b2, am_c1_of b3, g⟩))))))))))))⟩
end GO
end
