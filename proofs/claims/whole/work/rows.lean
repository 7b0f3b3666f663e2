section
-- ===== PART A: goes FIRST, ahead of the names: the tables' words, and 'selects' of the private methods out of them =====
/-- a private method of a class that the tables say can be made, by its rows of tables_1 -/
def lw_okq (q : MethodName × Nat) : Prop := (q.1.cls ≠ "java/lang/invoke/MethodHandle" ∧ q.1.cls ≠ "java/lang/invoke/VarHandle") ∧ Cond.instantiable q.1.cls q.2 ∈ tables_1 ∧ Cond.privateMethod q.1 ∈ tables_1 ∧ Cond.instanceMethod q.1 ∈ tables_1
theorem lw_p0 : lw_okq (⟨"LinkPress$Program", "hasRoomFor", "(I)Z"⟩, 8) := ⟨⟨by decide +kernel, by decide +kernel⟩, List.mem_of_getElem? (i := 26) (by decide +kernel), List.mem_of_getElem? (i := 365) (by decide +kernel), List.mem_of_getElem? (i := 366) (by decide +kernel)⟩
theorem lw_p1 : lw_okq (⟨"LinkPress$Program", "makeRoomAt", "(I)V"⟩, 8) := ⟨⟨by decide +kernel, by decide +kernel⟩, List.mem_of_getElem? (i := 26) (by decide +kernel), List.mem_of_getElem? (i := 381) (by decide +kernel), List.mem_of_getElem? (i := 382) (by decide +kernel)⟩
theorem lw_p2 : lw_okq (⟨"LinkPress$Program", "hasOpenEnd", "()Z"⟩, 8) := ⟨⟨by decide +kernel, by decide +kernel⟩, List.mem_of_getElem? (i := 26) (by decide +kernel), List.mem_of_getElem? (i := 415) (by decide +kernel), List.mem_of_getElem? (i := 416) (by decide +kernel)⟩
theorem lw_p3 : lw_okq (⟨"LinkPress$Program", "goesToNoPlace", "()Z"⟩, 8) := ⟨⟨by decide +kernel, by decide +kernel⟩, List.mem_of_getElem? (i := 26) (by decide +kernel), List.mem_of_getElem? (i := 430) (by decide +kernel), List.mem_of_getElem? (i := 431) (by decide +kernel)⟩
theorem lw_p4 : lw_okq (⟨"LinkPress$Program", "tellsNoFunction", "()Z"⟩, 8) := ⟨⟨by decide +kernel, by decide +kernel⟩, List.mem_of_getElem? (i := 26) (by decide +kernel), List.mem_of_getElem? (i := 453) (by decide +kernel), List.mem_of_getElem? (i := 454) (by decide +kernel)⟩
theorem lw_p5 : lw_okq (⟨"LinkPress$Folding", "markTaken", "()V"⟩, 6) := ⟨⟨by decide +kernel, by decide +kernel⟩, List.mem_of_getElem? (i := 58) (by decide +kernel), List.mem_of_getElem? (i := 476) (by decide +kernel), List.mem_of_getElem? (i := 477) (by decide +kernel)⟩
theorem lw_p6 : lw_okq (⟨"LinkPress$Folding", "standAllTogether", "()V"⟩, 6) := ⟨⟨by decide +kernel, by decide +kernel⟩, List.mem_of_getElem? (i := 58) (by decide +kernel), List.mem_of_getElem? (i := 486) (by decide +kernel), List.mem_of_getElem? (i := 487) (by decide +kernel)⟩
theorem lw_p7 : lw_okq (⟨"LinkPress$Folding", "partOnce", "()V"⟩, 6) := ⟨⟨by decide +kernel, by decide +kernel⟩, List.mem_of_getElem? (i := 58) (by decide +kernel), List.mem_of_getElem? (i := 491) (by decide +kernel), List.mem_of_getElem? (i := 492) (by decide +kernel)⟩
theorem lw_p8 : lw_okq (⟨"LinkPress$Folding", "finerLeastOf", "(I)I"⟩, 6) := ⟨⟨by decide +kernel, by decide +kernel⟩, List.mem_of_getElem? (i := 58) (by decide +kernel), List.mem_of_getElem? (i := 499) (by decide +kernel), List.mem_of_getElem? (i := 500) (by decide +kernel)⟩
theorem lw_p9 : lw_okq (⟨"LinkPress$Folding", "areAlike", "(II)Z"⟩, 6) := ⟨⟨by decide +kernel, by decide +kernel⟩, List.mem_of_getElem? (i := 58) (by decide +kernel), List.mem_of_getElem? (i := 503) (by decide +kernel), List.mem_of_getElem? (i := 504) (by decide +kernel)⟩
theorem lw_p10 : lw_okq (⟨"LinkPress$Folding", "areAlikeSpots", "(II)Z"⟩, 6) := ⟨⟨by decide +kernel, by decide +kernel⟩, List.mem_of_getElem? (i := 58) (by decide +kernel), List.mem_of_getElem? (i := 509) (by decide +kernel), List.mem_of_getElem? (i := 510) (by decide +kernel)⟩
theorem lw_p11 : lw_okq (⟨"LinkPress$Folding", "standTogether", "(II)Z"⟩, 6) := ⟨⟨by decide +kernel, by decide +kernel⟩, List.mem_of_getElem? (i := 58) (by decide +kernel), List.mem_of_getElem? (i := 515) (by decide +kernel), List.mem_of_getElem? (i := 516) (by decide +kernel)⟩
theorem lw_p12 : lw_okq (⟨"LinkPress$RoutineSearch", "markSpots", "()V"⟩, 17) := ⟨⟨by decide +kernel, by decide +kernel⟩, List.mem_of_getElem? (i := 152) (by decide +kernel), List.mem_of_getElem? (i := 559) (by decide +kernel), List.mem_of_getElem? (i := 560) (by decide +kernel)⟩
theorem lw_p13 : lw_okq (⟨"LinkPress$RoutineSearch", "markSpotsOf", "(I)V"⟩, 17) := ⟨⟨by decide +kernel, by decide +kernel⟩, List.mem_of_getElem? (i := 152) (by decide +kernel), List.mem_of_getElem? (i := 568) (by decide +kernel), List.mem_of_getElem? (i := 569) (by decide +kernel)⟩
theorem lw_p14 : lw_okq (⟨"LinkPress$RoutineSearch", "measureReach", "()V"⟩, 17) := ⟨⟨by decide +kernel, by decide +kernel⟩, List.mem_of_getElem? (i := 152) (by decide +kernel), List.mem_of_getElem? (i := 590) (by decide +kernel), List.mem_of_getElem? (i := 591) (by decide +kernel)⟩
theorem lw_p15 : lw_okq (⟨"LinkPress$RoutineSearch", "nameRows", "()V"⟩, 17) := ⟨⟨by decide +kernel, by decide +kernel⟩, List.mem_of_getElem? (i := 152) (by decide +kernel), List.mem_of_getElem? (i := 594) (by decide +kernel), List.mem_of_getElem? (i := 595) (by decide +kernel)⟩
def lw_privs_1 : List (MethodName × Nat) := [(⟨"LinkPress$Program", "hasRoomFor", "(I)Z"⟩, 8), (⟨"LinkPress$Program", "makeRoomAt", "(I)V"⟩, 8), (⟨"LinkPress$Program", "hasOpenEnd", "()Z"⟩, 8), (⟨"LinkPress$Program", "goesToNoPlace", "()Z"⟩, 8), (⟨"LinkPress$Program", "tellsNoFunction", "()Z"⟩, 8), (⟨"LinkPress$Folding", "markTaken", "()V"⟩, 6), (⟨"LinkPress$Folding", "standAllTogether", "()V"⟩, 6), (⟨"LinkPress$Folding", "partOnce", "()V"⟩, 6), (⟨"LinkPress$Folding", "finerLeastOf", "(I)I"⟩, 6), (⟨"LinkPress$Folding", "areAlike", "(II)Z"⟩, 6), (⟨"LinkPress$Folding", "areAlikeSpots", "(II)Z"⟩, 6), (⟨"LinkPress$Folding", "standTogether", "(II)Z"⟩, 6), (⟨"LinkPress$RoutineSearch", "markSpots", "()V"⟩, 17), (⟨"LinkPress$RoutineSearch", "markSpotsOf", "(I)V"⟩, 17), (⟨"LinkPress$RoutineSearch", "measureReach", "()V"⟩, 17), (⟨"LinkPress$RoutineSearch", "nameRows", "()V"⟩, 17)]
theorem lw_r1 : ∀ q ∈ lw_privs_1, lw_okq q := List.forall_mem_cons.mpr ⟨lw_p0, List.forall_mem_cons.mpr ⟨lw_p1, List.forall_mem_cons.mpr ⟨lw_p2, List.forall_mem_cons.mpr ⟨lw_p3, List.forall_mem_cons.mpr ⟨lw_p4, List.forall_mem_cons.mpr ⟨lw_p5, List.forall_mem_cons.mpr ⟨lw_p6, List.forall_mem_cons.mpr ⟨lw_p7, List.forall_mem_cons.mpr ⟨lw_p8, List.forall_mem_cons.mpr ⟨lw_p9, List.forall_mem_cons.mpr ⟨lw_p10, List.forall_mem_cons.mpr ⟨lw_p11, List.forall_mem_cons.mpr ⟨lw_p12, List.forall_mem_cons.mpr ⟨lw_p13, List.forall_mem_cons.mpr ⟨lw_p14, List.forall_mem_cons.mpr ⟨lw_p15, fun _ h => absurd h List.not_mem_nil⟩⟩⟩⟩⟩⟩⟩⟩⟩⟩⟩⟩⟩⟩⟩⟩
theorem lw_p16 : lw_okq (⟨"LinkPress$RoutineSearch", "nameRowsOf", "(I)Z"⟩, 17) := ⟨⟨by decide +kernel, by decide +kernel⟩, List.mem_of_getElem? (i := 152) (by decide +kernel), List.mem_of_getElem? (i := 598) (by decide +kernel), List.mem_of_getElem? (i := 599) (by decide +kernel)⟩
theorem lw_p17 : lw_okq (⟨"LinkPress$RoutineSearch", "nameInChain", "(III)I"⟩, 17) := ⟨⟨by decide +kernel, by decide +kernel⟩, List.mem_of_getElem? (i := 152) (by decide +kernel), List.mem_of_getElem? (i := 607) (by decide +kernel), List.mem_of_getElem? (i := 608) (by decide +kernel)⟩
theorem lw_p18 : lw_okq (⟨"LinkPress$RoutineSearch", "haveSameLast", "(III)Z"⟩, 17) := ⟨⟨by decide +kernel, by decide +kernel⟩, List.mem_of_getElem? (i := 152) (by decide +kernel), List.mem_of_getElem? (i := 611) (by decide +kernel), List.mem_of_getElem? (i := 612) (by decide +kernel)⟩
theorem lw_p19 : lw_okq (⟨"LinkPress$RoutineSearch", "chooseBest", "()V"⟩, 17) := ⟨⟨by decide +kernel, by decide +kernel⟩, List.mem_of_getElem? (i := 152) (by decide +kernel), List.mem_of_getElem? (i := 616) (by decide +kernel), List.mem_of_getElem? (i := 617) (by decide +kernel)⟩
theorem lw_p20 : lw_okq (⟨"LinkPress$RoutineSearch", "countRowsOf", "(I)Z"⟩, 17) := ⟨⟨by decide +kernel, by decide +kernel⟩, List.mem_of_getElem? (i := 152) (by decide +kernel), List.mem_of_getElem? (i := 620) (by decide +kernel), List.mem_of_getElem? (i := 621) (by decide +kernel)⟩
theorem lw_p21 : lw_okq (⟨"LinkPress$RoutineSearch", "fitNameAt", "(II)I"⟩, 17) := ⟨⟨by decide +kernel, by decide +kernel⟩, List.mem_of_getElem? (i := 152) (by decide +kernel), List.mem_of_getElem? (i := 624) (by decide +kernel), List.mem_of_getElem? (i := 625) (by decide +kernel)⟩
theorem lw_p22 : lw_okq (⟨"LinkPress$RoutineSearch", "weighRowsOf", "(I)V"⟩, 17) := ⟨⟨by decide +kernel, by decide +kernel⟩, List.mem_of_getElem? (i := 152) (by decide +kernel), List.mem_of_getElem? (i := 628) (by decide +kernel), List.mem_of_getElem? (i := 629) (by decide +kernel)⟩
theorem lw_p23 : lw_okq (⟨"LinkPress$RoutineSearch", "takeBest", "()V"⟩, 17) := ⟨⟨by decide +kernel, by decide +kernel⟩, List.mem_of_getElem? (i := 152) (by decide +kernel), List.mem_of_getElem? (i := 635) (by decide +kernel), List.mem_of_getElem? (i := 636) (by decide +kernel)⟩
theorem lw_p24 : lw_okq (⟨"LinkPress$Linker", "layOutBody", "(II)I"⟩, 4) := ⟨⟨by decide +kernel, by decide +kernel⟩, List.mem_of_getElem? (i := 212) (by decide +kernel), List.mem_of_getElem? (i := 657) (by decide +kernel), List.mem_of_getElem? (i := 658) (by decide +kernel)⟩
theorem lw_p25 : lw_okq (⟨"LinkPress$Routines", "hasIndex", "(I)Z"⟩, 12) := ⟨⟨by decide +kernel, by decide +kernel⟩, List.mem_of_getElem? (i := 106) (by decide +kernel), List.mem_of_getElem? (i := 676) (by decide +kernel), List.mem_of_getElem? (i := 677) (by decide +kernel)⟩
theorem lw_p26 : lw_okq (⟨"LinkPress$Linker", "writeBody", "(I)V"⟩, 4) := ⟨⟨by decide +kernel, by decide +kernel⟩, List.mem_of_getElem? (i := 212) (by decide +kernel), List.mem_of_getElem? (i := 704) (by decide +kernel), List.mem_of_getElem? (i := 705) (by decide +kernel)⟩
theorem lw_p27 : lw_okq (⟨"LinkPress$Linker", "writeJump", "(II)V"⟩, 4) := ⟨⟨by decide +kernel, by decide +kernel⟩, List.mem_of_getElem? (i := 212) (by decide +kernel), List.mem_of_getElem? (i := 712) (by decide +kernel), List.mem_of_getElem? (i := 713) (by decide +kernel)⟩
theorem lw_p28 : lw_okq (⟨"LinkPress$Linker", "writeInstruction", "(II)V"⟩, 4) := ⟨⟨by decide +kernel, by decide +kernel⟩, List.mem_of_getElem? (i := 212) (by decide +kernel), List.mem_of_getElem? (i := 727) (by decide +kernel), List.mem_of_getElem? (i := 728) (by decide +kernel)⟩
theorem lw_p29 : lw_okq (⟨"LinkPress$Linker", "wordOfPlace", "(II)I"⟩, 4) := ⟨⟨by decide +kernel, by decide +kernel⟩, List.mem_of_getElem? (i := 212) (by decide +kernel), List.mem_of_getElem? (i := 732) (by decide +kernel), List.mem_of_getElem? (i := 733) (by decide +kernel)⟩
theorem lw_p30 : lw_okq (⟨"LinkPress$Linker", "writeAddress", "(II)V"⟩, 4) := ⟨⟨by decide +kernel, by decide +kernel⟩, List.mem_of_getElem? (i := 212) (by decide +kernel), List.mem_of_getElem? (i := 756) (by decide +kernel), List.mem_of_getElem? (i := 757) (by decide +kernel)⟩
theorem lw_p31 : lw_okq (⟨"LinkPress$Linker", "writeBranch", "(II)V"⟩, 4) := ⟨⟨by decide +kernel, by decide +kernel⟩, List.mem_of_getElem? (i := 212) (by decide +kernel), List.mem_of_getElem? (i := 778) (by decide +kernel), List.mem_of_getElem? (i := 779) (by decide +kernel)⟩
def lw_privs_2 : List (MethodName × Nat) := [(⟨"LinkPress$RoutineSearch", "nameRowsOf", "(I)Z"⟩, 17), (⟨"LinkPress$RoutineSearch", "nameInChain", "(III)I"⟩, 17), (⟨"LinkPress$RoutineSearch", "haveSameLast", "(III)Z"⟩, 17), (⟨"LinkPress$RoutineSearch", "chooseBest", "()V"⟩, 17), (⟨"LinkPress$RoutineSearch", "countRowsOf", "(I)Z"⟩, 17), (⟨"LinkPress$RoutineSearch", "fitNameAt", "(II)I"⟩, 17), (⟨"LinkPress$RoutineSearch", "weighRowsOf", "(I)V"⟩, 17), (⟨"LinkPress$RoutineSearch", "takeBest", "()V"⟩, 17), (⟨"LinkPress$Linker", "layOutBody", "(II)I"⟩, 4), (⟨"LinkPress$Routines", "hasIndex", "(I)Z"⟩, 12), (⟨"LinkPress$Linker", "writeBody", "(I)V"⟩, 4), (⟨"LinkPress$Linker", "writeJump", "(II)V"⟩, 4), (⟨"LinkPress$Linker", "writeInstruction", "(II)V"⟩, 4), (⟨"LinkPress$Linker", "wordOfPlace", "(II)I"⟩, 4), (⟨"LinkPress$Linker", "writeAddress", "(II)V"⟩, 4), (⟨"LinkPress$Linker", "writeBranch", "(II)V"⟩, 4)]
theorem lw_r2 : ∀ q ∈ lw_privs_2, lw_okq q := List.forall_mem_cons.mpr ⟨lw_p16, List.forall_mem_cons.mpr ⟨lw_p17, List.forall_mem_cons.mpr ⟨lw_p18, List.forall_mem_cons.mpr ⟨lw_p19, List.forall_mem_cons.mpr ⟨lw_p20, List.forall_mem_cons.mpr ⟨lw_p21, List.forall_mem_cons.mpr ⟨lw_p22, List.forall_mem_cons.mpr ⟨lw_p23, List.forall_mem_cons.mpr ⟨lw_p24, List.forall_mem_cons.mpr ⟨lw_p25, List.forall_mem_cons.mpr ⟨lw_p26, List.forall_mem_cons.mpr ⟨lw_p27, List.forall_mem_cons.mpr ⟨lw_p28, List.forall_mem_cons.mpr ⟨lw_p29, List.forall_mem_cons.mpr ⟨lw_p30, List.forall_mem_cons.mpr ⟨lw_p31, fun _ h => absurd h List.not_mem_nil⟩⟩⟩⟩⟩⟩⟩⟩⟩⟩⟩⟩⟩⟩⟩⟩
theorem lw_p32 : lw_okq (⟨"LinkPress$Linker", "writePlain", "(I)V"⟩, 4) := ⟨⟨by decide +kernel, by decide +kernel⟩, List.mem_of_getElem? (i := 212) (by decide +kernel), List.mem_of_getElem? (i := 786) (by decide +kernel), List.mem_of_getElem? (i := 787) (by decide +kernel)⟩
theorem lw_p33 : lw_okq (⟨"LinkPress$Linker", "writeRoutine", "(I)V"⟩, 4) := ⟨⟨by decide +kernel, by decide +kernel⟩, List.mem_of_getElem? (i := 212) (by decide +kernel), List.mem_of_getElem? (i := 799) (by decide +kernel), List.mem_of_getElem? (i := 800) (by decide +kernel)⟩
theorem lw_p34 : lw_okq (⟨"LinkPress", "machineOf", "(I)LLinkPress$Machine;"⟩, 8) := ⟨⟨by decide +kernel, by decide +kernel⟩, List.mem_of_getElem? (i := 18) (by decide +kernel), List.mem_of_getElem? (i := 874) (by decide +kernel), List.mem_of_getElem? (i := 875) (by decide +kernel)⟩
theorem lw_p35 : lw_okq (⟨"LinkPress$ToldMachine", "write", "(III)V"⟩, 12) := ⟨⟨by decide +kernel, by decide +kernel⟩, List.mem_of_getElem? (i := 231) (by decide +kernel), List.mem_of_getElem? (i := 908) (by decide +kernel), List.mem_of_getElem? (i := 909) (by decide +kernel)⟩
theorem lw_p36 : lw_okq (⟨"LinkPress$ImageMachine", "calculateByRegisters", "(I)I"⟩, 9) := ⟨⟨by decide +kernel, by decide +kernel⟩, List.mem_of_getElem? (i := 277) (by decide +kernel), List.mem_of_getElem? (i := 933) (by decide +kernel), List.mem_of_getElem? (i := 934) (by decide +kernel)⟩
theorem lw_p37 : lw_okq (⟨"LinkPress$ImageMachine", "firstIn", "(I)I"⟩, 9) := ⟨⟨by decide +kernel, by decide +kernel⟩, List.mem_of_getElem? (i := 277) (by decide +kernel), List.mem_of_getElem? (i := 943) (by decide +kernel), List.mem_of_getElem? (i := 944) (by decide +kernel)⟩
theorem lw_p38 : lw_okq (⟨"LinkPress$ImageMachine", "secondIn", "(I)I"⟩, 9) := ⟨⟨by decide +kernel, by decide +kernel⟩, List.mem_of_getElem? (i := 277) (by decide +kernel), List.mem_of_getElem? (i := 950) (by decide +kernel), List.mem_of_getElem? (i := 951) (by decide +kernel)⟩
theorem lw_p39 : lw_okq (⟨"LinkPress$ImageMachine", "writeAndGoOn", "(II)I"⟩, 9) := ⟨⟨by decide +kernel, by decide +kernel⟩, List.mem_of_getElem? (i := 277) (by decide +kernel), List.mem_of_getElem? (i := 964) (by decide +kernel), List.mem_of_getElem? (i := 965) (by decide +kernel)⟩
theorem lw_p40 : lw_okq (⟨"LinkPress$ImageMachine", "write", "(II)V"⟩, 9) := ⟨⟨by decide +kernel, by decide +kernel⟩, List.mem_of_getElem? (i := 277) (by decide +kernel), List.mem_of_getElem? (i := 968) (by decide +kernel), List.mem_of_getElem? (i := 969) (by decide +kernel)⟩
theorem lw_p41 : lw_okq (⟨"LinkPress$ImageMachine", "goOn", "()I"⟩, 9) := ⟨⟨by decide +kernel, by decide +kernel⟩, List.mem_of_getElem? (i := 277) (by decide +kernel), List.mem_of_getElem? (i := 974) (by decide +kernel), List.mem_of_getElem? (i := 975) (by decide +kernel)⟩
theorem lw_p42 : lw_okq (⟨"LinkPress$ImageMachine", "goTo", "(I)I"⟩, 9) := ⟨⟨by decide +kernel, by decide +kernel⟩, List.mem_of_getElem? (i := 277) (by decide +kernel), List.mem_of_getElem? (i := 978) (by decide +kernel), List.mem_of_getElem? (i := 979) (by decide +kernel)⟩
theorem lw_p43 : lw_okq (⟨"LinkPress$ImageMachine", "calculateByImmediate", "(I)I"⟩, 9) := ⟨⟨by decide +kernel, by decide +kernel⟩, List.mem_of_getElem? (i := 277) (by decide +kernel), List.mem_of_getElem? (i := 982) (by decide +kernel), List.mem_of_getElem? (i := 983) (by decide +kernel)⟩
theorem lw_p44 : lw_okq (⟨"LinkPress$ImageMachine", "load", "(I)I"⟩, 9) := ⟨⟨by decide +kernel, by decide +kernel⟩, List.mem_of_getElem? (i := 277) (by decide +kernel), List.mem_of_getElem? (i := 989) (by decide +kernel), List.mem_of_getElem? (i := 990) (by decide +kernel)⟩
theorem lw_p45 : lw_okq (⟨"LinkPress$ImageMachine", "store", "(I)I"⟩, 9) := ⟨⟨by decide +kernel, by decide +kernel⟩, List.mem_of_getElem? (i := 277) (by decide +kernel), List.mem_of_getElem? (i := 1003) (by decide +kernel), List.mem_of_getElem? (i := 1004) (by decide +kernel)⟩
theorem lw_p46 : lw_okq (⟨"LinkPress$ImageMachine", "branch", "(I)I"⟩, 9) := ⟨⟨by decide +kernel, by decide +kernel⟩, List.mem_of_getElem? (i := 277) (by decide +kernel), List.mem_of_getElem? (i := 1010) (by decide +kernel), List.mem_of_getElem? (i := 1011) (by decide +kernel)⟩
theorem lw_p47 : lw_okq (⟨"LinkPress$ImageMachine", "jump", "(II)I"⟩, 9) := ⟨⟨by decide +kernel, by decide +kernel⟩, List.mem_of_getElem? (i := 277) (by decide +kernel), List.mem_of_getElem? (i := 1024) (by decide +kernel), List.mem_of_getElem? (i := 1025) (by decide +kernel)⟩
def lw_privs_3 : List (MethodName × Nat) := [(⟨"LinkPress$Linker", "writePlain", "(I)V"⟩, 4), (⟨"LinkPress$Linker", "writeRoutine", "(I)V"⟩, 4), (⟨"LinkPress", "machineOf", "(I)LLinkPress$Machine;"⟩, 8), (⟨"LinkPress$ToldMachine", "write", "(III)V"⟩, 12), (⟨"LinkPress$ImageMachine", "calculateByRegisters", "(I)I"⟩, 9), (⟨"LinkPress$ImageMachine", "firstIn", "(I)I"⟩, 9), (⟨"LinkPress$ImageMachine", "secondIn", "(I)I"⟩, 9), (⟨"LinkPress$ImageMachine", "writeAndGoOn", "(II)I"⟩, 9), (⟨"LinkPress$ImageMachine", "write", "(II)V"⟩, 9), (⟨"LinkPress$ImageMachine", "goOn", "()I"⟩, 9), (⟨"LinkPress$ImageMachine", "goTo", "(I)I"⟩, 9), (⟨"LinkPress$ImageMachine", "calculateByImmediate", "(I)I"⟩, 9), (⟨"LinkPress$ImageMachine", "load", "(I)I"⟩, 9), (⟨"LinkPress$ImageMachine", "store", "(I)I"⟩, 9), (⟨"LinkPress$ImageMachine", "branch", "(I)I"⟩, 9), (⟨"LinkPress$ImageMachine", "jump", "(II)I"⟩, 9)]
theorem lw_r3 : ∀ q ∈ lw_privs_3, lw_okq q := List.forall_mem_cons.mpr ⟨lw_p32, List.forall_mem_cons.mpr ⟨lw_p33, List.forall_mem_cons.mpr ⟨lw_p34, List.forall_mem_cons.mpr ⟨lw_p35, List.forall_mem_cons.mpr ⟨lw_p36, List.forall_mem_cons.mpr ⟨lw_p37, List.forall_mem_cons.mpr ⟨lw_p38, List.forall_mem_cons.mpr ⟨lw_p39, List.forall_mem_cons.mpr ⟨lw_p40, List.forall_mem_cons.mpr ⟨lw_p41, List.forall_mem_cons.mpr ⟨lw_p42, List.forall_mem_cons.mpr ⟨lw_p43, List.forall_mem_cons.mpr ⟨lw_p44, List.forall_mem_cons.mpr ⟨lw_p45, List.forall_mem_cons.mpr ⟨lw_p46, List.forall_mem_cons.mpr ⟨lw_p47, fun _ h => absurd h List.not_mem_nil⟩⟩⟩⟩⟩⟩⟩⟩⟩⟩⟩⟩⟩⟩⟩⟩
theorem lw_p48 : lw_okq (⟨"LinkPress$ToldMachine", "calculate", "(II)I"⟩, 12) := ⟨⟨by decide +kernel, by decide +kernel⟩, List.mem_of_getElem? (i := 231) (by decide +kernel), List.mem_of_getElem? (i := 1040) (by decide +kernel), List.mem_of_getElem? (i := 1041) (by decide +kernel)⟩
theorem lw_p49 : lw_okq (⟨"LinkPress$ToldMachine", "sortIn", "(I)I"⟩, 12) := ⟨⟨by decide +kernel, by decide +kernel⟩, List.mem_of_getElem? (i := 231) (by decide +kernel), List.mem_of_getElem? (i := 1046) (by decide +kernel), List.mem_of_getElem? (i := 1047) (by decide +kernel)⟩
theorem lw_p50 : lw_okq (⟨"LinkPress$ToldMachine", "valueIn", "(I)I"⟩, 12) := ⟨⟨by decide +kernel, by decide +kernel⟩, List.mem_of_getElem? (i := 231) (by decide +kernel), List.mem_of_getElem? (i := 1050) (by decide +kernel), List.mem_of_getElem? (i := 1051) (by decide +kernel)⟩
theorem lw_p51 : lw_okq (⟨"LinkPress$ToldMachine", "writeAndGoOn", "(III)I"⟩, 12) := ⟨⟨by decide +kernel, by decide +kernel⟩, List.mem_of_getElem? (i := 231) (by decide +kernel), List.mem_of_getElem? (i := 1054) (by decide +kernel), List.mem_of_getElem? (i := 1055) (by decide +kernel)⟩
theorem lw_p52 : lw_okq (⟨"LinkPress$ToldMachine", "goOn", "()I"⟩, 12) := ⟨⟨by decide +kernel, by decide +kernel⟩, List.mem_of_getElem? (i := 231) (by decide +kernel), List.mem_of_getElem? (i := 1058) (by decide +kernel), List.mem_of_getElem? (i := 1059) (by decide +kernel)⟩
theorem lw_p53 : lw_okq (⟨"LinkPress$ToldMachine", "isNumber", "(I)Z"⟩, 12) := ⟨⟨by decide +kernel, by decide +kernel⟩, List.mem_of_getElem? (i := 231) (by decide +kernel), List.mem_of_getElem? (i := 1062) (by decide +kernel), List.mem_of_getElem? (i := 1063) (by decide +kernel)⟩
theorem lw_p54 : lw_okq (⟨"LinkPress$ToldMachine", "branch", "(II)I"⟩, 12) := ⟨⟨by decide +kernel, by decide +kernel⟩, List.mem_of_getElem? (i := 231) (by decide +kernel), List.mem_of_getElem? (i := 1070) (by decide +kernel), List.mem_of_getElem? (i := 1071) (by decide +kernel)⟩
theorem lw_p55 : lw_okq (⟨"LinkPress$ToldMachine", "goTo", "(II)I"⟩, 12) := ⟨⟨by decide +kernel, by decide +kernel⟩, List.mem_of_getElem? (i := 231) (by decide +kernel), List.mem_of_getElem? (i := 1075) (by decide +kernel), List.mem_of_getElem? (i := 1076) (by decide +kernel)⟩
theorem lw_p56 : lw_okq (⟨"LinkPress$ToldMachine", "load", "(I)I"⟩, 12) := ⟨⟨by decide +kernel, by decide +kernel⟩, List.mem_of_getElem? (i := 231) (by decide +kernel), List.mem_of_getElem? (i := 1079) (by decide +kernel), List.mem_of_getElem? (i := 1080) (by decide +kernel)⟩
theorem lw_p57 : lw_okq (⟨"LinkPress$ToldMachine", "memoryIndexOf", "(I)I"⟩, 12) := ⟨⟨by decide +kernel, by decide +kernel⟩, List.mem_of_getElem? (i := 231) (by decide +kernel), List.mem_of_getElem? (i := 1083) (by decide +kernel), List.mem_of_getElem? (i := 1084) (by decide +kernel)⟩
theorem lw_p58 : lw_okq (⟨"LinkPress$ToldMachine", "store", "(I)I"⟩, 12) := ⟨⟨by decide +kernel, by decide +kernel⟩, List.mem_of_getElem? (i := 231) (by decide +kernel), List.mem_of_getElem? (i := 1091) (by decide +kernel), List.mem_of_getElem? (i := 1092) (by decide +kernel)⟩
theorem lw_p59 : lw_okq (⟨"LinkPress$ToldMachine", "callFunction", "(I)I"⟩, 12) := ⟨⟨by decide +kernel, by decide +kernel⟩, List.mem_of_getElem? (i := 231) (by decide +kernel), List.mem_of_getElem? (i := 1095) (by decide +kernel), List.mem_of_getElem? (i := 1096) (by decide +kernel)⟩
theorem lw_p60 : lw_okq (⟨"LinkPress$ToldMachine", "goBack", "()I"⟩, 12) := ⟨⟨by decide +kernel, by decide +kernel⟩, List.mem_of_getElem? (i := 231) (by decide +kernel), List.mem_of_getElem? (i := 1099) (by decide +kernel), List.mem_of_getElem? (i := 1100) (by decide +kernel)⟩
theorem lw_p61 : lw_okq (⟨"LinkPress$ToldMachine", "print", "()I"⟩, 12) := ⟨⟨by decide +kernel, by decide +kernel⟩, List.mem_of_getElem? (i := 231) (by decide +kernel), List.mem_of_getElem? (i := 1103) (by decide +kernel), List.mem_of_getElem? (i := 1104) (by decide +kernel)⟩
theorem lw_p62 : lw_okq (⟨"LinkPressModel", "parts", "()I"⟩, 41) := ⟨⟨by decide +kernel, by decide +kernel⟩, List.mem_of_getElem? (i := 1216) (by decide +kernel), List.mem_of_getElem? (i := 1372) (by decide +kernel), List.mem_of_getElem? (i := 1373) (by decide +kernel)⟩
theorem lw_p63 : lw_okq (⟨"LinkPressModel", "isLike", "(II)Z"⟩, 41) := ⟨⟨by decide +kernel, by decide +kernel⟩, List.mem_of_getElem? (i := 1216) (by decide +kernel), List.mem_of_getElem? (i := 1376) (by decide +kernel), List.mem_of_getElem? (i := 1377) (by decide +kernel)⟩
def lw_privs_4 : List (MethodName × Nat) := [(⟨"LinkPress$ToldMachine", "calculate", "(II)I"⟩, 12), (⟨"LinkPress$ToldMachine", "sortIn", "(I)I"⟩, 12), (⟨"LinkPress$ToldMachine", "valueIn", "(I)I"⟩, 12), (⟨"LinkPress$ToldMachine", "writeAndGoOn", "(III)I"⟩, 12), (⟨"LinkPress$ToldMachine", "goOn", "()I"⟩, 12), (⟨"LinkPress$ToldMachine", "isNumber", "(I)Z"⟩, 12), (⟨"LinkPress$ToldMachine", "branch", "(II)I"⟩, 12), (⟨"LinkPress$ToldMachine", "goTo", "(II)I"⟩, 12), (⟨"LinkPress$ToldMachine", "load", "(I)I"⟩, 12), (⟨"LinkPress$ToldMachine", "memoryIndexOf", "(I)I"⟩, 12), (⟨"LinkPress$ToldMachine", "store", "(I)I"⟩, 12), (⟨"LinkPress$ToldMachine", "callFunction", "(I)I"⟩, 12), (⟨"LinkPress$ToldMachine", "goBack", "()I"⟩, 12), (⟨"LinkPress$ToldMachine", "print", "()I"⟩, 12), (⟨"LinkPressModel", "parts", "()I"⟩, 41), (⟨"LinkPressModel", "isLike", "(II)Z"⟩, 41)]
theorem lw_r4 : ∀ q ∈ lw_privs_4, lw_okq q := List.forall_mem_cons.mpr ⟨lw_p48, List.forall_mem_cons.mpr ⟨lw_p49, List.forall_mem_cons.mpr ⟨lw_p50, List.forall_mem_cons.mpr ⟨lw_p51, List.forall_mem_cons.mpr ⟨lw_p52, List.forall_mem_cons.mpr ⟨lw_p53, List.forall_mem_cons.mpr ⟨lw_p54, List.forall_mem_cons.mpr ⟨lw_p55, List.forall_mem_cons.mpr ⟨lw_p56, List.forall_mem_cons.mpr ⟨lw_p57, List.forall_mem_cons.mpr ⟨lw_p58, List.forall_mem_cons.mpr ⟨lw_p59, List.forall_mem_cons.mpr ⟨lw_p60, List.forall_mem_cons.mpr ⟨lw_p61, List.forall_mem_cons.mpr ⟨lw_p62, List.forall_mem_cons.mpr ⟨lw_p63, fun _ h => absurd h List.not_mem_nil⟩⟩⟩⟩⟩⟩⟩⟩⟩⟩⟩⟩⟩⟩⟩⟩
theorem lw_p64 : lw_okq (⟨"LinkPressModel", "counts", "(I)I"⟩, 41) := ⟨⟨by decide +kernel, by decide +kernel⟩, List.mem_of_getElem? (i := 1216) (by decide +kernel), List.mem_of_getElem? (i := 1383) (by decide +kernel), List.mem_of_getElem? (i := 1384) (by decide +kernel)⟩
theorem lw_p65 : lw_okq (⟨"LinkPressModel", "isSame", "(II)Z"⟩, 41) := ⟨⟨by decide +kernel, by decide +kernel⟩, List.mem_of_getElem? (i := 1216) (by decide +kernel), List.mem_of_getElem? (i := 1387) (by decide +kernel), List.mem_of_getElem? (i := 1388) (by decide +kernel)⟩
theorem lw_p66 : lw_okq (⟨"LinkPressModel", "isTaken", "(I)Z"⟩, 41) := ⟨⟨by decide +kernel, by decide +kernel⟩, List.mem_of_getElem? (i := 1216) (by decide +kernel), List.mem_of_getElem? (i := 1400) (by decide +kernel), List.mem_of_getElem? (i := 1401) (by decide +kernel)⟩
theorem lw_p67 : lw_okq (⟨"LinkPressModel", "leastOf", "(IZ)I"⟩, 41) := ⟨⟨by decide +kernel, by decide +kernel⟩, List.mem_of_getElem? (i := 1216) (by decide +kernel), List.mem_of_getElem? (i := 1404) (by decide +kernel), List.mem_of_getElem? (i := 1405) (by decide +kernel)⟩
theorem lw_p68 : lw_okq (⟨"LinkPressModel", "refusal", "()I"⟩, 41) := ⟨⟨by decide +kernel, by decide +kernel⟩, List.mem_of_getElem? (i := 1216) (by decide +kernel), List.mem_of_getElem? (i := 1412) (by decide +kernel), List.mem_of_getElem? (i := 1413) (by decide +kernel)⟩
theorem lw_p69 : lw_okq (⟨"LinkPressModel", "findRoutine", "()Z"⟩, 41) := ⟨⟨by decide +kernel, by decide +kernel⟩, List.mem_of_getElem? (i := 1216) (by decide +kernel), List.mem_of_getElem? (i := 1419) (by decide +kernel), List.mem_of_getElem? (i := 1420) (by decide +kernel)⟩
theorem lw_p70 : lw_okq (⟨"LinkPressModel", "isBody", "(I)Z"⟩, 41) := ⟨⟨by decide +kernel, by decide +kernel⟩, List.mem_of_getElem? (i := 1216) (by decide +kernel), List.mem_of_getElem? (i := 1423) (by decide +kernel), List.mem_of_getElem? (i := 1424) (by decide +kernel)⟩
theorem lw_p71 : lw_okq (⟨"LinkPressModel", "namesOne", "(I)Z"⟩, 41) := ⟨⟨by decide +kernel, by decide +kernel⟩, List.mem_of_getElem? (i := 1216) (by decide +kernel), List.mem_of_getElem? (i := 1427) (by decide +kernel), List.mem_of_getElem? (i := 1428) (by decide +kernel)⟩
theorem lw_p72 : lw_okq (⟨"LinkPressModel", "isTarget", "(II)Z"⟩, 41) := ⟨⟨by decide +kernel, by decide +kernel⟩, List.mem_of_getElem? (i := 1216) (by decide +kernel), List.mem_of_getElem? (i := 1431) (by decide +kernel), List.mem_of_getElem? (i := 1432) (by decide +kernel)⟩
theorem lw_p73 : lw_okq (⟨"LinkPressModel", "isFit", "(III)Z"⟩, 41) := ⟨⟨by decide +kernel, by decide +kernel⟩, List.mem_of_getElem? (i := 1216) (by decide +kernel), List.mem_of_getElem? (i := 1435) (by decide +kernel), List.mem_of_getElem? (i := 1436) (by decide +kernel)⟩
theorem lw_p74 : lw_okq (⟨"LinkPressModel", "occurrences", "(II)I"⟩, 41) := ⟨⟨by decide +kernel, by decide +kernel⟩, List.mem_of_getElem? (i := 1216) (by decide +kernel), List.mem_of_getElem? (i := 1439) (by decide +kernel), List.mem_of_getElem? (i := 1440) (by decide +kernel)⟩
theorem lw_p75 : lw_okq (⟨"LinkPressModel", "layOut", "()V"⟩, 41) := ⟨⟨by decide +kernel, by decide +kernel⟩, List.mem_of_getElem? (i := 1216) (by decide +kernel), List.mem_of_getElem? (i := 1443) (by decide +kernel), List.mem_of_getElem? (i := 1444) (by decide +kernel)⟩
theorem lw_p76 : lw_okq (⟨"LinkPressModel", "wordsOf", "(I)I"⟩, 41) := ⟨⟨by decide +kernel, by decide +kernel⟩, List.mem_of_getElem? (i := 1216) (by decide +kernel), List.mem_of_getElem? (i := 1447) (by decide +kernel), List.mem_of_getElem? (i := 1448) (by decide +kernel)⟩
theorem lw_p77 : lw_okq (⟨"LinkPressModel", "write", "()V"⟩, 41) := ⟨⟨by decide +kernel, by decide +kernel⟩, List.mem_of_getElem? (i := 1216) (by decide +kernel), List.mem_of_getElem? (i := 1451) (by decide +kernel), List.mem_of_getElem? (i := 1452) (by decide +kernel)⟩
theorem lw_p78 : lw_okq (⟨"LinkPressModel", "say", "(II)I"⟩, 41) := ⟨⟨by decide +kernel, by decide +kernel⟩, List.mem_of_getElem? (i := 1216) (by decide +kernel), List.mem_of_getElem? (i := 1459) (by decide +kernel), List.mem_of_getElem? (i := 1460) (by decide +kernel)⟩
theorem lw_p79 : lw_okq (⟨"LinkPressModel", "coded", "(III)I"⟩, 41) := ⟨⟨by decide +kernel, by decide +kernel⟩, List.mem_of_getElem? (i := 1216) (by decide +kernel), List.mem_of_getElem? (i := 1463) (by decide +kernel), List.mem_of_getElem? (i := 1464) (by decide +kernel)⟩
def lw_privs_5 : List (MethodName × Nat) := [(⟨"LinkPressModel", "counts", "(I)I"⟩, 41), (⟨"LinkPressModel", "isSame", "(II)Z"⟩, 41), (⟨"LinkPressModel", "isTaken", "(I)Z"⟩, 41), (⟨"LinkPressModel", "leastOf", "(IZ)I"⟩, 41), (⟨"LinkPressModel", "refusal", "()I"⟩, 41), (⟨"LinkPressModel", "findRoutine", "()Z"⟩, 41), (⟨"LinkPressModel", "isBody", "(I)Z"⟩, 41), (⟨"LinkPressModel", "namesOne", "(I)Z"⟩, 41), (⟨"LinkPressModel", "isTarget", "(II)Z"⟩, 41), (⟨"LinkPressModel", "isFit", "(III)Z"⟩, 41), (⟨"LinkPressModel", "occurrences", "(II)I"⟩, 41), (⟨"LinkPressModel", "layOut", "()V"⟩, 41), (⟨"LinkPressModel", "wordsOf", "(I)I"⟩, 41), (⟨"LinkPressModel", "write", "()V"⟩, 41), (⟨"LinkPressModel", "say", "(II)I"⟩, 41), (⟨"LinkPressModel", "coded", "(III)I"⟩, 41)]
theorem lw_r5 : ∀ q ∈ lw_privs_5, lw_okq q := List.forall_mem_cons.mpr ⟨lw_p64, List.forall_mem_cons.mpr ⟨lw_p65, List.forall_mem_cons.mpr ⟨lw_p66, List.forall_mem_cons.mpr ⟨lw_p67, List.forall_mem_cons.mpr ⟨lw_p68, List.forall_mem_cons.mpr ⟨lw_p69, List.forall_mem_cons.mpr ⟨lw_p70, List.forall_mem_cons.mpr ⟨lw_p71, List.forall_mem_cons.mpr ⟨lw_p72, List.forall_mem_cons.mpr ⟨lw_p73, List.forall_mem_cons.mpr ⟨lw_p74, List.forall_mem_cons.mpr ⟨lw_p75, List.forall_mem_cons.mpr ⟨lw_p76, List.forall_mem_cons.mpr ⟨lw_p77, List.forall_mem_cons.mpr ⟨lw_p78, List.forall_mem_cons.mpr ⟨lw_p79, fun _ h => absurd h List.not_mem_nil⟩⟩⟩⟩⟩⟩⟩⟩⟩⟩⟩⟩⟩⟩⟩⟩
theorem lw_p80 : lw_okq (⟨"LinkPressModel", "hasRoutine", "(I)Z"⟩, 41) := ⟨⟨by decide +kernel, by decide +kernel⟩, List.mem_of_getElem? (i := 1216) (by decide +kernel), List.mem_of_getElem? (i := 1484) (by decide +kernel), List.mem_of_getElem? (i := 1485) (by decide +kernel)⟩
theorem lw_p81 : lw_okq (⟨"LinkPressModel", "begin", "(I)V"⟩, 41) := ⟨⟨by decide +kernel, by decide +kernel⟩, List.mem_of_getElem? (i := 1216) (by decide +kernel), List.mem_of_getElem? (i := 1500) (by decide +kernel), List.mem_of_getElem? (i := 1501) (by decide +kernel)⟩
theorem lw_p82 : lw_okq (⟨"LinkPressModel", "runTold", "(I)I"⟩, 41) := ⟨⟨by decide +kernel, by decide +kernel⟩, List.mem_of_getElem? (i := 1216) (by decide +kernel), List.mem_of_getElem? (i := 1504) (by decide +kernel), List.mem_of_getElem? (i := 1505) (by decide +kernel)⟩
theorem lw_p83 : lw_okq (⟨"LinkPressModel", "does", "(I)Z"⟩, 41) := ⟨⟨by decide +kernel, by decide +kernel⟩, List.mem_of_getElem? (i := 1216) (by decide +kernel), List.mem_of_getElem? (i := 1508) (by decide +kernel), List.mem_of_getElem? (i := 1509) (by decide +kernel)⟩
theorem lw_p84 : lw_okq (⟨"LinkPressModel", "isNumber", "(I)Z"⟩, 41) := ⟨⟨by decide +kernel, by decide +kernel⟩, List.mem_of_getElem? (i := 1216) (by decide +kernel), List.mem_of_getElem? (i := 1512) (by decide +kernel), List.mem_of_getElem? (i := 1513) (by decide +kernel)⟩
theorem lw_p85 : lw_okq (⟨"LinkPressModel", "set", "(III)V"⟩, 41) := ⟨⟨by decide +kernel, by decide +kernel⟩, List.mem_of_getElem? (i := 1216) (by decide +kernel), List.mem_of_getElem? (i := 1523) (by decide +kernel), List.mem_of_getElem? (i := 1524) (by decide +kernel)⟩
theorem lw_p86 : lw_okq (⟨"LinkPressModel", "print", "(II)V"⟩, 41) := ⟨⟨by decide +kernel, by decide +kernel⟩, List.mem_of_getElem? (i := 1216) (by decide +kernel), List.mem_of_getElem? (i := 1535) (by decide +kernel), List.mem_of_getElem? (i := 1536) (by decide +kernel)⟩
theorem lw_p87 : lw_okq (⟨"LinkPressModel", "runImage", "(I)I"⟩, 41) := ⟨⟨by decide +kernel, by decide +kernel⟩, List.mem_of_getElem? (i := 1216) (by decide +kernel), List.mem_of_getElem? (i := 1539) (by decide +kernel), List.mem_of_getElem? (i := 1540) (by decide +kernel)⟩
theorem lw_p88 : lw_okq (⟨"LinkPressModel", "does", "(II)I"⟩, 41) := ⟨⟨by decide +kernel, by decide +kernel⟩, List.mem_of_getElem? (i := 1216) (by decide +kernel), List.mem_of_getElem? (i := 1543) (by decide +kernel), List.mem_of_getElem? (i := 1544) (by decide +kernel)⟩
theorem lw_p89 : lw_okq (⟨"LinkPressModel", "give", "(II)V"⟩, 41) := ⟨⟨by decide +kernel, by decide +kernel⟩, List.mem_of_getElem? (i := 1216) (by decide +kernel), List.mem_of_getElem? (i := 1550) (by decide +kernel), List.mem_of_getElem? (i := 1551) (by decide +kernel)⟩
theorem lw_p90 : lw_okq (⟨"LinkPressModel", "hasRun", "(I)Z"⟩, 41) := ⟨⟨by decide +kernel, by decide +kernel⟩, List.mem_of_getElem? (i := 1216) (by decide +kernel), List.mem_of_getElem? (i := 1558) (by decide +kernel), List.mem_of_getElem? (i := 1559) (by decide +kernel)⟩
def lw_privs_6 : List (MethodName × Nat) := [(⟨"LinkPressModel", "hasRoutine", "(I)Z"⟩, 41), (⟨"LinkPressModel", "begin", "(I)V"⟩, 41), (⟨"LinkPressModel", "runTold", "(I)I"⟩, 41), (⟨"LinkPressModel", "does", "(I)Z"⟩, 41), (⟨"LinkPressModel", "isNumber", "(I)Z"⟩, 41), (⟨"LinkPressModel", "set", "(III)V"⟩, 41), (⟨"LinkPressModel", "print", "(II)V"⟩, 41), (⟨"LinkPressModel", "runImage", "(I)I"⟩, 41), (⟨"LinkPressModel", "does", "(II)I"⟩, 41), (⟨"LinkPressModel", "give", "(II)V"⟩, 41), (⟨"LinkPressModel", "hasRun", "(I)Z"⟩, 41)]
theorem lw_r6 : ∀ q ∈ lw_privs_6, lw_okq q := List.forall_mem_cons.mpr ⟨lw_p80, List.forall_mem_cons.mpr ⟨lw_p81, List.forall_mem_cons.mpr ⟨lw_p82, List.forall_mem_cons.mpr ⟨lw_p83, List.forall_mem_cons.mpr ⟨lw_p84, List.forall_mem_cons.mpr ⟨lw_p85, List.forall_mem_cons.mpr ⟨lw_p86, List.forall_mem_cons.mpr ⟨lw_p87, List.forall_mem_cons.mpr ⟨lw_p88, List.forall_mem_cons.mpr ⟨lw_p89, List.forall_mem_cons.mpr ⟨lw_p90, fun _ h => absurd h List.not_mem_nil⟩⟩⟩⟩⟩⟩⟩⟩⟩⟩⟩
def lw_privs : List (MethodName × Nat) := lw_privs_1 ++ (lw_privs_2 ++ (lw_privs_3 ++ (lw_privs_4 ++ (lw_privs_5 ++ (lw_privs_6)))))
def lw_tbl : List Cond := k2_sels lw_privs ++ tables_1
theorem lw_privs_ok : ∀ q ∈ lw_privs, lw_okq q := by
  show ∀ q ∈ lw_privs_1 ++ (lw_privs_2 ++ (lw_privs_3 ++ (lw_privs_4 ++ (lw_privs_5 ++ (lw_privs_6))))), lw_okq q
  exact List.forall_mem_append.mpr ⟨lw_r1, List.forall_mem_append.mpr ⟨lw_r2, List.forall_mem_append.mpr ⟨lw_r3, List.forall_mem_append.mpr ⟨lw_r4, List.forall_mem_append.mpr ⟨lw_r5, lw_r6⟩⟩⟩⟩⟩
end
section
/-! ===== BEGIN words of one list among another's, by their places ===== -/
theorem goodIn_r {big : List Cond} (ws : List Cond) (ps : List Nat) (hp : ws = ps.filterMap (fun i => big[i]?)) (h : ws.all goodWord = true) : GoodIn big ws := by
  intro w hw
  have h1 := List.all_eq_true.mp h w hw
  rw [hp] at hw
  obtain ⟨i, -, hi⟩ := List.mem_filterMap.mp hw
  have hm : w ∈ big := by first | exact List.mem_of_getElem? hi | exact List.getElem?_mem hi
  exact ⟨hm, good_of_word h1⟩
theorem goodIn_app {big a b : List Cond} (ha : GoodIn big a) (hb : GoodIn big b) : GoodIn big (a ++ b) := fun w h => (List.mem_append.mp h).elim (ha w) (hb w)
theorem goodIn_ca {big a b : List Cond} {c : Cond} (ha : GoodIn big (c :: a)) (hb : GoodIn big b) : GoodIn big (c :: (a ++ b)) := fun w h => (List.mem_cons.mp h).elim (fun e => ha w (List.mem_cons.mpr (Or.inl e))) (fun h => (List.mem_append.mp h).elim (fun h => ha w (List.mem_cons.mpr (Or.inr h))) (hb w))
theorem goodIn_sub {big ws : List Cond} (hm : ∀ w ∈ ws, w ∈ big) (h : ws.all goodWord = true) : GoodIn big ws := fun w hw => ⟨hm w hw, good_of_word (List.all_eq_true.mp h w hw)⟩
/-! ===== END ===== -/

theorem vr_outer (c : ClassId) (N h0 : Nat) : ∀ i : Nat, Jvm.Free.Multi.outerC c N h0 i = arrV c N (fun j => va_rf (if j < i then some (h0 + 1 + j) else none))
  | 0 => by
    show ({ cls := c, slots := Array.replicate N .null, vm := .none } : Cell) = _
    rw [arrV_new]
    refine congrArg (arrV c N) (funext fun j => ?_)
    simp [va_rf]
  | i + 1 => by
    show (Jvm.Free.Multi.outerC c N h0 i).setSlot i (.ref (h0 + 1 + i)) = _
    rw [vr_outer c N h0 i, arrV_store]
    refine congrArg (arrV c N) (funext fun j => ?_)
    by_cases e : j = i
    · subst e
      simp [updV, va_rf]
    · by_cases h : j < i
      · simp [updV, e, h, Nat.lt_succ_of_lt h]
      · simp [updV, e, h, show ¬ j < i + 1 by omega]
def RX0 : String := "LinkPress$Folding"
def TX0 : u_T := fun k => match k with
  | 0 => ("LinkPress$Folding", "program", "LLinkPress$Program;", true)
  | 1 => ("LinkPress$Folding", "taken", "[Z", true)
  | 2 => ("LinkPress$Folding", "least", "[I", true)
  | 3 => ("LinkPress$Folding", "finer", "[I", true)
  | 4 => ("LinkPress$Folding", "classes", "I", false)
  | _ => ("LinkPress$Folding", "seenChanges", "I", false)
def tyX0 : Nat → FieldType := fun k => match k with
  | 0 => .object "LinkPress$Program"
  | 1 => .array .boolean
  | 2 => .array .int
  | 3 => .array .int
  | 4 => .int
  | _ => .int
abbrev wsX00 : List Cond := u_ws RX0 TX0 6
theorem nmX0 : ∀ a, a < 6 → ∀ b, b < 6 → a ≠ b → (TX0 a).2.1 ≠ (TX0 b).2.1 := by decide +kernel
theorem tyX0_ok : ∀ k, k < 6 → parseFieldDescriptor (TX0 k).2.2.1 = some (tyX0 k) := by decide +kernel
abbrev cX0_init : ByteArray := prog_2_method_1_code
def yX0_init : MethodName := ⟨RX0, "<init>", "(LLinkPress$Program;)V"⟩
abbrev cX0_refresh : ByteArray := prog_2_method_2_code
def yX0_refresh : MethodName := ⟨RX0, "refresh", "()V"⟩
abbrev cX0_isTaken : ByteArray := prog_2_method_3_code
def yX0_isTaken : MethodName := ⟨RX0, "isTaken", "(I)Z"⟩
abbrev cX0_leastOf : ByteArray := prog_2_method_4_code
def yX0_leastOf : MethodName := ⟨RX0, "leastOf", "(I)I"⟩
abbrev cX0_classes : ByteArray := prog_2_method_5_code
def yX0_classes : MethodName := ⟨RX0, "classes", "()I"⟩
abbrev cX0_bodyOf : ByteArray := prog_2_method_6_code
def yX0_bodyOf : MethodName := ⟨RX0, "bodyOf", "(I)I"⟩
abbrev cX0_markTaken : ByteArray := prog_2_method_7_code
def yX0_markTaken : MethodName := ⟨RX0, "markTaken", "()V"⟩
abbrev cX0_standAllTogether : ByteArray := prog_2_method_8_code
def yX0_standAllTogether : MethodName := ⟨RX0, "standAllTogether", "()V"⟩
abbrev cX0_partOnce : ByteArray := prog_2_method_9_code
def yX0_partOnce : MethodName := ⟨RX0, "partOnce", "()V"⟩
abbrev cX0_finerLeastOf : ByteArray := prog_2_method_10_code
def yX0_finerLeastOf : MethodName := ⟨RX0, "finerLeastOf", "(I)I"⟩
abbrev cX0_areAlike : ByteArray := prog_2_method_11_code
def yX0_areAlike : MethodName := ⟨RX0, "areAlike", "(II)Z"⟩
abbrev cX0_areAlikeSpots : ByteArray := prog_2_method_12_code
def yX0_areAlikeSpots : MethodName := ⟨RX0, "areAlikeSpots", "(II)Z"⟩
abbrev cX0_standTogether : ByteArray := prog_2_method_13_code
def yX0_standTogether : MethodName := ⟨RX0, "standTogether", "(II)Z"⟩
def RX1 : String := "LinkPress$Image"
def TX1 : u_T := fun k => match k with
  | 0 => ("LinkPress$Image", "words", "[I", true)
  | 1 => ("LinkPress$Image", "bodyOf", "[I", true)
  | 2 => ("LinkPress$Image", "firstWord", "[I", true)
  | 3 => ("LinkPress$Image", "size", "I", false)
  | _ => ("LinkPress$Image", "functions", "I", false)
def tyX1 : Nat → FieldType := fun k => match k with
  | 0 => .array .int
  | 1 => .array .int
  | 2 => .array .int
  | 3 => .int
  | _ => .int
abbrev wsX10 : List Cond := u_ws RX1 TX1 5
theorem nmX1 : ∀ a, a < 5 → ∀ b, b < 5 → a ≠ b → (TX1 a).2.1 ≠ (TX1 b).2.1 := by decide +kernel
theorem tyX1_ok : ∀ k, k < 5 → parseFieldDescriptor (TX1 k).2.2.1 = some (tyX1 k) := by decide +kernel
abbrev cX1_init : ByteArray := prog_3_method_1_code
def yX1_init : MethodName := ⟨RX1, "<init>", "()V"⟩
abbrev cX1_drop : ByteArray := prog_3_method_2_code
def yX1_drop : MethodName := ⟨RX1, "drop", "()V"⟩
abbrev cX1_begin : ByteArray := prog_3_method_3_code
def yX1_begin : MethodName := ⟨RX1, "begin", "(I)V"⟩
abbrev cX1_size : ByteArray := prog_3_method_4_code
def yX1_size : MethodName := ⟨RX1, "size", "()I"⟩
abbrev cX1_hasFunction : ByteArray := prog_3_method_5_code
def yX1_hasFunction : MethodName := ⟨RX1, "hasFunction", "(I)Z"⟩
abbrev cX1_setBody : ByteArray := prog_3_method_6_code
def yX1_setBody : MethodName := ⟨RX1, "setBody", "(II)V"⟩
abbrev cX1_setFirstWord : ByteArray := prog_3_method_7_code
def yX1_setFirstWord : MethodName := ⟨RX1, "setFirstWord", "(II)V"⟩
abbrev cX1_bodyOf : ByteArray := prog_3_method_8_code
def yX1_bodyOf : MethodName := ⟨RX1, "bodyOf", "(I)I"⟩
abbrev cX1_isBody : ByteArray := prog_3_method_9_code
def yX1_isBody : MethodName := ⟨RX1, "isBody", "(I)Z"⟩
abbrev cX1_bodies : ByteArray := prog_3_method_10_code
def yX1_bodies : MethodName := ⟨RX1, "bodies", "()I"⟩
abbrev cX1_firstWordOf : ByteArray := prog_3_method_11_code
def yX1_firstWordOf : MethodName := ⟨RX1, "firstWordOf", "(I)I"⟩
abbrev cX1_addressOf : ByteArray := prog_3_method_12_code
def yX1_addressOf : MethodName := ⟨RX1, "addressOf", "(I)I"⟩
abbrev cX1_address : ByteArray := prog_3_method_13_code
def yX1_address : MethodName := ⟨RX1, "address", "(I)I"⟩
abbrev cX1_indexAt : ByteArray := prog_3_method_14_code
def yX1_indexAt : MethodName := ⟨RX1, "indexAt", "(I)I"⟩
abbrev cX1_wordAt : ByteArray := prog_3_method_15_code
def yX1_wordAt : MethodName := ⟨RX1, "wordAt", "(I)I"⟩
abbrev cX1_append : ByteArray := prog_3_method_16_code
def yX1_append : MethodName := ⟨RX1, "append", "(I)V"⟩
def RX2 : String := "LinkPress$ImageMachine"
def TX2 : u_T := fun k => match k with
  | 0 => ("LinkPress$Machine", "kept", "[I", true)
  | 1 => ("LinkPress$Machine", "hasRun", "Z", false)
  | 2 => ("LinkPress$Machine", "outcome", "I", false)
  | 3 => ("LinkPress$Machine", "steps", "I", false)
  | 4 => ("LinkPress$Machine", "prints", "I", false)
  | 5 => ("LinkPress$ImageMachine", "image", "LLinkPress$Image;", true)
  | 6 => ("LinkPress$ImageMachine", "registers", "[I", true)
  | 7 => ("LinkPress$ImageMachine", "memoryWords", "[I", true)
  | _ => ("LinkPress$ImageMachine", "pc", "I", false)
def tyX2 : Nat → FieldType := fun k => match k with
  | 0 => .array .int
  | 1 => .boolean
  | 2 => .int
  | 3 => .int
  | 4 => .int
  | 5 => .object "LinkPress$Image"
  | 6 => .array .int
  | 7 => .array .int
  | _ => .int
abbrev wsX20 : List Cond := u_ws RX2 TX2 9
theorem nmX2 : ∀ a, a < 9 → ∀ b, b < 9 → a ≠ b → (TX2 a).2.1 ≠ (TX2 b).2.1 := by decide +kernel
theorem tyX2_ok : ∀ k, k < 9 → parseFieldDescriptor (TX2 k).2.2.1 = some (tyX2 k) := by decide +kernel
abbrev cX2_init : ByteArray := prog_4_method_1_code
def yX2_init : MethodName := ⟨RX2, "<init>", "(LLinkPress$Image;)V"⟩
abbrev cX2_isReady : ByteArray := prog_4_method_2_code
def yX2_isReady : MethodName := ⟨RX2, "isReady", "()Z"⟩
abbrev cX2_restart : ByteArray := prog_4_method_3_code
def yX2_restart : MethodName := ⟨RX2, "restart", "()V"⟩
abbrev cX2_where : ByteArray := prog_4_method_4_code
def yX2_where : MethodName := ⟨RX2, "where", "()I"⟩
abbrev cX2_whichPlace : ByteArray := prog_4_method_5_code
def yX2_whichPlace : MethodName := ⟨RX2, "whichPlace", "()I"⟩
abbrev cX2_registerAt : ByteArray := prog_4_method_6_code
def yX2_registerAt : MethodName := ⟨RX2, "registerAt", "(I)I"⟩
abbrev cX2_memoryAt : ByteArray := prog_4_method_7_code
def yX2_memoryAt : MethodName := ⟨RX2, "memoryAt", "(I)I"⟩
abbrev cX2_step : ByteArray := prog_4_method_8_code
def yX2_step : MethodName := ⟨RX2, "step", "()I"⟩
abbrev cX2_calculateByRegisters : ByteArray := prog_4_method_9_code
def yX2_calculateByRegisters : MethodName := ⟨RX2, "calculateByRegisters", "(I)I"⟩
abbrev cX2_calculateByImmediate : ByteArray := prog_4_method_10_code
def yX2_calculateByImmediate : MethodName := ⟨RX2, "calculateByImmediate", "(I)I"⟩
abbrev cX2_load : ByteArray := prog_4_method_11_code
def yX2_load : MethodName := ⟨RX2, "load", "(I)I"⟩
abbrev cX2_store : ByteArray := prog_4_method_12_code
def yX2_store : MethodName := ⟨RX2, "store", "(I)I"⟩
abbrev cX2_branch : ByteArray := prog_4_method_13_code
def yX2_branch : MethodName := ⟨RX2, "branch", "(I)I"⟩
abbrev cX2_jump : ByteArray := prog_4_method_14_code
def yX2_jump : MethodName := ⟨RX2, "jump", "(II)I"⟩
abbrev cX2_goTo : ByteArray := prog_4_method_15_code
def yX2_goTo : MethodName := ⟨RX2, "goTo", "(I)I"⟩
abbrev cX2_goOn : ByteArray := prog_4_method_16_code
def yX2_goOn : MethodName := ⟨RX2, "goOn", "()I"⟩
abbrev cX2_writeAndGoOn : ByteArray := prog_4_method_17_code
def yX2_writeAndGoOn : MethodName := ⟨RX2, "writeAndGoOn", "(II)I"⟩
abbrev cX2_write : ByteArray := prog_4_method_18_code
def yX2_write : MethodName := ⟨RX2, "write", "(II)V"⟩
abbrev cX2_firstIn : ByteArray := prog_4_method_19_code
def yX2_firstIn : MethodName := ⟨RX2, "firstIn", "(I)I"⟩
abbrev cX2_secondIn : ByteArray := prog_4_method_20_code
def yX2_secondIn : MethodName := ⟨RX2, "secondIn", "(I)I"⟩
def RX3 : String := "LinkPress$Linker"
def TX3 : u_T := fun k => match k with
  | 0 => ("LinkPress$Linker", "program", "LLinkPress$Program;", true)
  | 1 => ("LinkPress$Linker", "image", "LLinkPress$Image;", true)
  | 2 => ("LinkPress$Linker", "routines", "LLinkPress$Routines;", true)
  | _ => ("LinkPress$Linker", "wordOf", "[I", true)
def tyX3 : Nat → FieldType := fun k => match k with
  | 0 => .object "LinkPress$Program"
  | 1 => .object "LinkPress$Image"
  | 2 => .object "LinkPress$Routines"
  | _ => .array .int
abbrev wsX30 : List Cond := u_ws RX3 TX3 4
theorem nmX3 : ∀ a, a < 4 → ∀ b, b < 4 → a ≠ b → (TX3 a).2.1 ≠ (TX3 b).2.1 := by decide +kernel
theorem tyX3_ok : ∀ k, k < 4 → parseFieldDescriptor (TX3 k).2.2.1 = some (tyX3 k) := by decide +kernel
abbrev cX3_init : ByteArray := prog_5_method_1_code
def yX3_init : MethodName := ⟨RX3, "<init>", "(LLinkPress$Program;LLinkPress$Image;LLinkPress$Routines;)V"⟩
abbrev cX3_link : ByteArray := prog_5_method_2_code
def yX3_link : MethodName := ⟨RX3, "link", "()V"⟩
abbrev cX3_layOutBody : ByteArray := prog_5_method_3_code
def yX3_layOutBody : MethodName := ⟨RX3, "layOutBody", "(II)I"⟩
abbrev cX3_writeBody : ByteArray := prog_5_method_4_code
def yX3_writeBody : MethodName := ⟨RX3, "writeBody", "(I)V"⟩
abbrev cX3_writeRoutine : ByteArray := prog_5_method_5_code
def yX3_writeRoutine : MethodName := ⟨RX3, "writeRoutine", "(I)V"⟩
abbrev cX3_writeInstruction : ByteArray := prog_5_method_6_code
def yX3_writeInstruction : MethodName := ⟨RX3, "writeInstruction", "(II)V"⟩
abbrev cX3_writePlain : ByteArray := prog_5_method_7_code
def yX3_writePlain : MethodName := ⟨RX3, "writePlain", "(I)V"⟩
abbrev cX3_wordOfPlace : ByteArray := prog_5_method_8_code
def yX3_wordOfPlace : MethodName := ⟨RX3, "wordOfPlace", "(II)I"⟩
abbrev cX3_writeBranch : ByteArray := prog_5_method_9_code
def yX3_writeBranch : MethodName := ⟨RX3, "writeBranch", "(II)V"⟩
abbrev cX3_writeJump : ByteArray := prog_5_method_10_code
def yX3_writeJump : MethodName := ⟨RX3, "writeJump", "(II)V"⟩
abbrev cX3_writeAddress : ByteArray := prog_5_method_11_code
def yX3_writeAddress : MethodName := ⟨RX3, "writeAddress", "(II)V"⟩
def RX4 : String := "LinkPress$Machine"
def TX4 : u_T := fun k => match k with
  | _ => ("", "", "", false)
def tyX4 : Nat → FieldType := fun k => match k with
  | _ => .int
abbrev wsX40 : List Cond := u_ws RX4 TX4 0
theorem nmX4 : ∀ a, a < 0 → ∀ b, b < 0 → a ≠ b → (TX4 a).2.1 ≠ (TX4 b).2.1 := by decide +kernel
theorem tyX4_ok : ∀ k, k < 0 → parseFieldDescriptor (TX4 k).2.2.1 = some (tyX4 k) := by decide +kernel
abbrev cX4_init : ByteArray := prog_6_method_1_code
def yX4_init : MethodName := ⟨RX4, "<init>", "()V"⟩
abbrev cX4_drive : ByteArray := prog_6_method_9_code
def yX4_drive : MethodName := ⟨RX4, "drive", "(I)I"⟩
abbrev cX4_hasRun : ByteArray := prog_6_method_10_code
def yX4_hasRun : MethodName := ⟨RX4, "hasRun", "()Z"⟩
abbrev cX4_outcome : ByteArray := prog_6_method_11_code
def yX4_outcome : MethodName := ⟨RX4, "outcome", "()I"⟩
abbrev cX4_steps : ByteArray := prog_6_method_12_code
def yX4_steps : MethodName := ⟨RX4, "steps", "()I"⟩
abbrev cX4_prints : ByteArray := prog_6_method_13_code
def yX4_prints : MethodName := ⟨RX4, "prints", "()I"⟩
abbrev cX4_printAt : ByteArray := prog_6_method_14_code
def yX4_printAt : MethodName := ⟨RX4, "printAt", "(I)I"⟩
abbrev cX4_keepPrint : ByteArray := prog_6_method_15_code
def yX4_keepPrint : MethodName := ⟨RX4, "keepPrint", "(I)V"⟩
abbrev cX4_isRegister : ByteArray := prog_6_method_16_code
def yX4_isRegister : MethodName := ⟨RX4, "isRegister", "(I)Z"⟩
abbrev cX4_isMemoryWord : ByteArray := prog_6_method_17_code
def yX4_isMemoryWord : MethodName := ⟨RX4, "isMemoryWord", "(I)Z"⟩
abbrev cX4_memoryIndex : ByteArray := prog_6_method_18_code
def yX4_memoryIndex : MethodName := ⟨RX4, "memoryIndex", "(I)I"⟩
def RX5 : String := "LinkPress$Program"
def TX5 : u_T := fun k => match k with
  | 0 => ("LinkPress$Program", "numbers", "[I", true)
  | 1 => ("LinkPress$Program", "as", "[I", true)
  | 2 => ("LinkPress$Program", "bs", "[I", true)
  | 3 => ("LinkPress$Program", "cs", "[I", true)
  | 4 => ("LinkPress$Program", "starts", "[I", true)
  | 5 => ("LinkPress$Program", "functions", "I", false)
  | 6 => ("LinkPress$Program", "size", "I", false)
  | _ => ("LinkPress$Program", "changes", "I", false)
def tyX5 : Nat → FieldType := fun k => match k with
  | 0 => .array .int
  | 1 => .array .int
  | 2 => .array .int
  | 3 => .array .int
  | 4 => .array .int
  | 5 => .int
  | 6 => .int
  | _ => .int
abbrev wsX50 : List Cond := u_ws RX5 TX5 8
theorem nmX5 : ∀ a, a < 8 → ∀ b, b < 8 → a ≠ b → (TX5 a).2.1 ≠ (TX5 b).2.1 := by decide +kernel
theorem tyX5_ok : ∀ k, k < 8 → parseFieldDescriptor (TX5 k).2.2.1 = some (tyX5 k) := by decide +kernel
abbrev cX5_init : ByteArray := prog_7_method_1_code
def yX5_init : MethodName := ⟨RX5, "<init>", "()V"⟩
abbrev cX5_functions : ByteArray := prog_7_method_2_code
def yX5_functions : MethodName := ⟨RX5, "functions", "()I"⟩
abbrev cX5_size : ByteArray := prog_7_method_3_code
def yX5_size : MethodName := ⟨RX5, "size", "()I"⟩
abbrev cX5_changes : ByteArray := prog_7_method_4_code
def yX5_changes : MethodName := ⟨RX5, "changes", "()I"⟩
abbrev cX5_hasFunction : ByteArray := prog_7_method_5_code
def yX5_hasFunction : MethodName := ⟨RX5, "hasFunction", "(I)Z"⟩
abbrev cX5_hasSpot : ByteArray := prog_7_method_6_code
def yX5_hasSpot : MethodName := ⟨RX5, "hasSpot", "(I)Z"⟩
abbrev cX5_startOf : ByteArray := prog_7_method_7_code
def yX5_startOf : MethodName := ⟨RX5, "startOf", "(I)I"⟩
abbrev cX5_lengthOf : ByteArray := prog_7_method_8_code
def yX5_lengthOf : MethodName := ⟨RX5, "lengthOf", "(I)I"⟩
abbrev cX5_endOf : ByteArray := prog_7_method_9_code
def yX5_endOf : MethodName := ⟨RX5, "endOf", "(I)I"⟩
abbrev cX5_spotOf : ByteArray := prog_7_method_10_code
def yX5_spotOf : MethodName := ⟨RX5, "spotOf", "(II)I"⟩
abbrev cX5_functionAt : ByteArray := prog_7_method_11_code
def yX5_functionAt : MethodName := ⟨RX5, "functionAt", "(I)I"⟩
abbrev cX5_numberAt : ByteArray := prog_7_method_12_code
def yX5_numberAt : MethodName := ⟨RX5, "numberAt", "(I)I"⟩
abbrev cX5_aAt : ByteArray := prog_7_method_13_code
def yX5_aAt : MethodName := ⟨RX5, "aAt", "(I)I"⟩
abbrev cX5_bAt : ByteArray := prog_7_method_14_code
def yX5_bAt : MethodName := ⟨RX5, "bAt", "(I)I"⟩
abbrev cX5_cAt : ByteArray := prog_7_method_15_code
def yX5_cAt : MethodName := ⟨RX5, "cAt", "(I)I"⟩
abbrev cX5_placeTold : ByteArray := prog_7_method_16_code
def yX5_placeTold : MethodName := ⟨RX5, "placeTold", "(I)I"⟩
abbrev cX5_functionTold : ByteArray := prog_7_method_17_code
def yX5_functionTold : MethodName := ⟨RX5, "functionTold", "(I)I"⟩
abbrev cX5_isSame : ByteArray := prog_7_method_18_code
def yX5_isSame : MethodName := ⟨RX5, "isSame", "(II)Z"⟩
abbrev cX5_mixAt : ByteArray := prog_7_method_19_code
def yX5_mixAt : MethodName := ⟨RX5, "mixAt", "(I)I"⟩
abbrev cX5_namesReturnRegister : ByteArray := prog_7_method_20_code
def yX5_namesReturnRegister : MethodName := ⟨RX5, "namesReturnRegister", "(I)Z"⟩
abbrev cX5_addFunction : ByteArray := prog_7_method_21_code
def yX5_addFunction : MethodName := ⟨RX5, "addFunction", "()I"⟩
abbrev cX5_addInstruction : ByteArray := prog_7_method_22_code
def yX5_addInstruction : MethodName := ⟨RX5, "addInstruction", "(IIIII)I"⟩
abbrev cX5_hasRoomFor : ByteArray := prog_7_method_23_code
def yX5_hasRoomFor : MethodName := ⟨RX5, "hasRoomFor", "(I)Z"⟩
abbrev cX5_makeRoomAt : ByteArray := prog_7_method_24_code
def yX5_makeRoomAt : MethodName := ⟨RX5, "makeRoomAt", "(I)V"⟩
abbrev cX5_drop : ByteArray := prog_7_method_25_code
def yX5_drop : MethodName := ⟨RX5, "drop", "()I"⟩
abbrev cX5_refusal : ByteArray := prog_7_method_26_code
def yX5_refusal : MethodName := ⟨RX5, "refusal", "()I"⟩
abbrev cX5_hasOpenEnd : ByteArray := prog_7_method_27_code
def yX5_hasOpenEnd : MethodName := ⟨RX5, "hasOpenEnd", "()Z"⟩
abbrev cX5_goesToNoPlace : ByteArray := prog_7_method_28_code
def yX5_goesToNoPlace : MethodName := ⟨RX5, "goesToNoPlace", "()Z"⟩
abbrev cX5_tellsNoFunction : ByteArray := prog_7_method_29_code
def yX5_tellsNoFunction : MethodName := ⟨RX5, "tellsNoFunction", "()Z"⟩
def RX6 : String := "LinkPress$RoutineSearch"
def TX6 : u_T := fun k => match k with
  | 0 => ("LinkPress$RoutineSearch", "program", "LLinkPress$Program;", true)
  | 1 => ("LinkPress$RoutineSearch", "image", "LLinkPress$Image;", true)
  | 2 => ("LinkPress$RoutineSearch", "routines", "LLinkPress$Routines;", true)
  | 3 => ("LinkPress$RoutineSearch", "open", "[Z", true)
  | 4 => ("LinkPress$RoutineSearch", "entered", "[Z", true)
  | 5 => ("LinkPress$RoutineSearch", "reach", "[I", true)
  | 6 => ("LinkPress$RoutineSearch", "names", "[[I", true)
  | 7 => ("LinkPress$RoutineSearch", "heads", "[I", true)
  | 8 => ("LinkPress$RoutineSearch", "nexts", "[I", true)
  | 9 => ("LinkPress$RoutineSearch", "times", "[I", true)
  | 10 => ("LinkPress$RoutineSearch", "firsts", "[I", true)
  | 11 => ("LinkPress$RoutineSearch", "ends", "[I", true)
  | 12 => ("LinkPress$RoutineSearch", "size", "I", false)
  | 13 => ("LinkPress$RoutineSearch", "longestTwice", "I", false)
  | 14 => ("LinkPress$RoutineSearch", "bestSaves", "I", false)
  | 15 => ("LinkPress$RoutineSearch", "bestLength", "I", false)
  | _ => ("LinkPress$RoutineSearch", "bestSpot", "I", false)
def tyX6 : Nat → FieldType := fun k => match k with
  | 0 => .object "LinkPress$Program"
  | 1 => .object "LinkPress$Image"
  | 2 => .object "LinkPress$Routines"
  | 3 => .array .boolean
  | 4 => .array .boolean
  | 5 => .array .int
  | 6 => .array (.array .int)
  | 7 => .array .int
  | 8 => .array .int
  | 9 => .array .int
  | 10 => .array .int
  | 11 => .array .int
  | 12 => .int
  | 13 => .int
  | 14 => .int
  | 15 => .int
  | _ => .int
abbrev wsX60 : List Cond := u_ws RX6 TX6 17
theorem nmX6 : ∀ a, a < 17 → ∀ b, b < 17 → a ≠ b → (TX6 a).2.1 ≠ (TX6 b).2.1 := by decide +kernel
theorem tyX6_ok : ∀ k, k < 17 → parseFieldDescriptor (TX6 k).2.2.1 = some (tyX6 k) := by decide +kernel
abbrev cX6_init : ByteArray := prog_8_method_1_code
def yX6_init : MethodName := ⟨RX6, "<init>", "(LLinkPress$Program;LLinkPress$Image;LLinkPress$Routines;)V"⟩
abbrev cX6_findAll : ByteArray := prog_8_method_2_code
def yX6_findAll : MethodName := ⟨RX6, "findAll", "()V"⟩
abbrev cX6_markSpots : ByteArray := prog_8_method_3_code
def yX6_markSpots : MethodName := ⟨RX6, "markSpots", "()V"⟩
abbrev cX6_markSpotsOf : ByteArray := prog_8_method_4_code
def yX6_markSpotsOf : MethodName := ⟨RX6, "markSpotsOf", "(I)V"⟩
abbrev cX6_measureReach : ByteArray := prog_8_method_5_code
def yX6_measureReach : MethodName := ⟨RX6, "measureReach", "()V"⟩
abbrev cX6_nameRows : ByteArray := prog_8_method_6_code
def yX6_nameRows : MethodName := ⟨RX6, "nameRows", "()V"⟩
abbrev cX6_nameRowsOf : ByteArray := prog_8_method_7_code
def yX6_nameRowsOf : MethodName := ⟨RX6, "nameRowsOf", "(I)Z"⟩
abbrev cX6_nameInChain : ByteArray := prog_8_method_8_code
def yX6_nameInChain : MethodName := ⟨RX6, "nameInChain", "(III)I"⟩
abbrev cX6_haveSameLast : ByteArray := prog_8_method_9_code
def yX6_haveSameLast : MethodName := ⟨RX6, "haveSameLast", "(III)Z"⟩
abbrev cX6_chooseBest : ByteArray := prog_8_method_10_code
def yX6_chooseBest : MethodName := ⟨RX6, "chooseBest", "()V"⟩
abbrev cX6_fitNameAt : ByteArray := prog_8_method_11_code
def yX6_fitNameAt : MethodName := ⟨RX6, "fitNameAt", "(II)I"⟩
abbrev cX6_countRowsOf : ByteArray := prog_8_method_12_code
def yX6_countRowsOf : MethodName := ⟨RX6, "countRowsOf", "(I)Z"⟩
abbrev cX6_weighRowsOf : ByteArray := prog_8_method_13_code
def yX6_weighRowsOf : MethodName := ⟨RX6, "weighRowsOf", "(I)V"⟩
abbrev cX6_takeBest : ByteArray := prog_8_method_14_code
def yX6_takeBest : MethodName := ⟨RX6, "takeBest", "()V"⟩
def RX7 : String := "LinkPress$Routines"
def TX7 : u_T := fun k => match k with
  | 0 => ("LinkPress$Routines", "spots", "[I", true)
  | 1 => ("LinkPress$Routines", "lengths", "[I", true)
  | 2 => ("LinkPress$Routines", "firsts", "[I", true)
  | 3 => ("LinkPress$Routines", "times", "[I", true)
  | 4 => ("LinkPress$Routines", "firstWords", "[I", true)
  | 5 => ("LinkPress$Routines", "owners", "[I", true)
  | 6 => ("LinkPress$Routines", "bodies", "[I", true)
  | 7 => ("LinkPress$Routines", "places", "[I", true)
  | 8 => ("LinkPress$Routines", "words", "[I", true)
  | 9 => ("LinkPress$Routines", "occurrenceAt", "[I", true)
  | 10 => ("LinkPress$Routines", "size", "I", false)
  | _ => ("LinkPress$Routines", "occurrences", "I", false)
def tyX7 : Nat → FieldType := fun k => match k with
  | 0 => .array .int
  | 1 => .array .int
  | 2 => .array .int
  | 3 => .array .int
  | 4 => .array .int
  | 5 => .array .int
  | 6 => .array .int
  | 7 => .array .int
  | 8 => .array .int
  | 9 => .array .int
  | 10 => .int
  | _ => .int
abbrev wsX70 : List Cond := u_ws RX7 TX7 12
theorem nmX7 : ∀ a, a < 12 → ∀ b, b < 12 → a ≠ b → (TX7 a).2.1 ≠ (TX7 b).2.1 := by decide +kernel
theorem tyX7_ok : ∀ k, k < 12 → parseFieldDescriptor (TX7 k).2.2.1 = some (tyX7 k) := by decide +kernel
abbrev cX7_init : ByteArray := prog_9_method_1_code
def yX7_init : MethodName := ⟨RX7, "<init>", "()V"⟩
abbrev cX7_drop : ByteArray := prog_9_method_2_code
def yX7_drop : MethodName := ⟨RX7, "drop", "()V"⟩
abbrev cX7_size : ByteArray := prog_9_method_3_code
def yX7_size : MethodName := ⟨RX7, "size", "()I"⟩
abbrev cX7_has : ByteArray := prog_9_method_4_code
def yX7_has : MethodName := ⟨RX7, "has", "(I)Z"⟩
abbrev cX7_addRoutine : ByteArray := prog_9_method_5_code
def yX7_addRoutine : MethodName := ⟨RX7, "addRoutine", "(II)V"⟩
abbrev cX7_addOccurrence : ByteArray := prog_9_method_6_code
def yX7_addOccurrence : MethodName := ⟨RX7, "addOccurrence", "(III)V"⟩
abbrev cX7_spotOf : ByteArray := prog_9_method_7_code
def yX7_spotOf : MethodName := ⟨RX7, "spotOf", "(I)I"⟩
abbrev cX7_lengthOf : ByteArray := prog_9_method_8_code
def yX7_lengthOf : MethodName := ⟨RX7, "lengthOf", "(I)I"⟩
abbrev cX7_timesOf : ByteArray := prog_9_method_9_code
def yX7_timesOf : MethodName := ⟨RX7, "timesOf", "(I)I"⟩
abbrev cX7_savesOf : ByteArray := prog_9_method_10_code
def yX7_savesOf : MethodName := ⟨RX7, "savesOf", "(I)I"⟩
abbrev cX7_savesInAll : ByteArray := prog_9_method_11_code
def yX7_savesInAll : MethodName := ⟨RX7, "savesInAll", "()I"⟩
abbrev cX7_savedBytes : ByteArray := prog_9_method_12_code
def yX7_savedBytes : MethodName := ⟨RX7, "savedBytes", "(II)I"⟩
abbrev cX7_setFirstWord : ByteArray := prog_9_method_13_code
def yX7_setFirstWord : MethodName := ⟨RX7, "setFirstWord", "(II)V"⟩
abbrev cX7_firstWordOf : ByteArray := prog_9_method_14_code
def yX7_firstWordOf : MethodName := ⟨RX7, "firstWordOf", "(I)I"⟩
abbrev cX7_addressOf : ByteArray := prog_9_method_15_code
def yX7_addressOf : MethodName := ⟨RX7, "addressOf", "(I)I"⟩
abbrev cX7_indexOf : ByteArray := prog_9_method_16_code
def yX7_indexOf : MethodName := ⟨RX7, "indexOf", "(II)I"⟩
abbrev cX7_beginningAt : ByteArray := prog_9_method_17_code
def yX7_beginningAt : MethodName := ⟨RX7, "beginningAt", "(I)I"⟩
abbrev cX7_hasIndex : ByteArray := prog_9_method_18_code
def yX7_hasIndex : MethodName := ⟨RX7, "hasIndex", "(I)Z"⟩
abbrev cX7_ownerAt : ByteArray := prog_9_method_19_code
def yX7_ownerAt : MethodName := ⟨RX7, "ownerAt", "(I)I"⟩
abbrev cX7_bodyAt : ByteArray := prog_9_method_20_code
def yX7_bodyAt : MethodName := ⟨RX7, "bodyAt", "(I)I"⟩
abbrev cX7_placeAt : ByteArray := prog_9_method_21_code
def yX7_placeAt : MethodName := ⟨RX7, "placeAt", "(I)I"⟩
abbrev cX7_setWord : ByteArray := prog_9_method_22_code
def yX7_setWord : MethodName := ⟨RX7, "setWord", "(II)V"⟩
abbrev cX7_wordAddressAt : ByteArray := prog_9_method_23_code
def yX7_wordAddressAt : MethodName := ⟨RX7, "wordAddressAt", "(I)I"⟩
def RX8 : String := "LinkPress$Rv32"
def TX8 : u_T := fun k => match k with
  | _ => ("", "", "", false)
def tyX8 : Nat → FieldType := fun k => match k with
  | _ => .int
abbrev wsX80 : List Cond := u_ws RX8 TX8 0
theorem nmX8 : ∀ a, a < 0 → ∀ b, b < 0 → a ≠ b → (TX8 a).2.1 ≠ (TX8 b).2.1 := by decide +kernel
theorem tyX8_ok : ∀ k, k < 0 → parseFieldDescriptor (TX8 k).2.2.1 = some (tyX8 k) := by decide +kernel
abbrev cX8_selectorOf : ByteArray := prog_10_method_2_code
def yX8_selectorOf : MethodName := ⟨RX8, "selectorOf", "(I)I"⟩
abbrev cX8_isOther : ByteArray := prog_10_method_3_code
def yX8_isOther : MethodName := ⟨RX8, "isOther", "(I)Z"⟩
abbrev cX8_calculate : ByteArray := prog_10_method_4_code
def yX8_calculate : MethodName := ⟨RX8, "calculate", "(IZII)I"⟩
abbrev cX8_branches : ByteArray := prog_10_method_5_code
def yX8_branches : MethodName := ⟨RX8, "branches", "(III)Z"⟩
abbrev cX8_isBelow : ByteArray := prog_10_method_6_code
def yX8_isBelow : MethodName := ⟨RX8, "isBelow", "(II)Z"⟩
abbrev cX8_registersWord : ByteArray := prog_10_method_7_code
def yX8_registersWord : MethodName := ⟨RX8, "registersWord", "(IIII)I"⟩
abbrev cX8_immediateWord : ByteArray := prog_10_method_8_code
def yX8_immediateWord : MethodName := ⟨RX8, "immediateWord", "(IIII)I"⟩
abbrev cX8_upperWord : ByteArray := prog_10_method_9_code
def yX8_upperWord : MethodName := ⟨RX8, "upperWord", "(II)I"⟩
abbrev cX8_loadWord : ByteArray := prog_10_method_10_code
def yX8_loadWord : MethodName := ⟨RX8, "loadWord", "(III)I"⟩
abbrev cX8_storeWord : ByteArray := prog_10_method_11_code
def yX8_storeWord : MethodName := ⟨RX8, "storeWord", "(III)I"⟩
abbrev cX8_branchWord : ByteArray := prog_10_method_12_code
def yX8_branchWord : MethodName := ⟨RX8, "branchWord", "(IIII)I"⟩
abbrev cX8_jumpWord : ByteArray := prog_10_method_13_code
def yX8_jumpWord : MethodName := ⟨RX8, "jumpWord", "(II)I"⟩
abbrev cX8_jumpRegisterWord : ByteArray := prog_10_method_14_code
def yX8_jumpRegisterWord : MethodName := ⟨RX8, "jumpRegisterWord", "(II)I"⟩
abbrev cX8_codeOf : ByteArray := prog_10_method_15_code
def yX8_codeOf : MethodName := ⟨RX8, "codeOf", "(I)I"⟩
abbrev cX8_targetOf : ByteArray := prog_10_method_16_code
def yX8_targetOf : MethodName := ⟨RX8, "targetOf", "(I)I"⟩
abbrev cX8_firstOf : ByteArray := prog_10_method_17_code
def yX8_firstOf : MethodName := ⟨RX8, "firstOf", "(I)I"⟩
abbrev cX8_secondOf : ByteArray := prog_10_method_18_code
def yX8_secondOf : MethodName := ⟨RX8, "secondOf", "(I)I"⟩
abbrev cX8_selectorIn : ByteArray := prog_10_method_19_code
def yX8_selectorIn : MethodName := ⟨RX8, "selectorIn", "(I)I"⟩
abbrev cX8_isOtherIn : ByteArray := prog_10_method_20_code
def yX8_isOtherIn : MethodName := ⟨RX8, "isOtherIn", "(I)Z"⟩
abbrev cX8_immediateOf : ByteArray := prog_10_method_21_code
def yX8_immediateOf : MethodName := ⟨RX8, "immediateOf", "(I)I"⟩
abbrev cX8_storeOffsetOf : ByteArray := prog_10_method_22_code
def yX8_storeOffsetOf : MethodName := ⟨RX8, "storeOffsetOf", "(I)I"⟩
abbrev cX8_branchOffsetOf : ByteArray := prog_10_method_23_code
def yX8_branchOffsetOf : MethodName := ⟨RX8, "branchOffsetOf", "(I)I"⟩
abbrev cX8_jumpOffsetOf : ByteArray := prog_10_method_24_code
def yX8_jumpOffsetOf : MethodName := ⟨RX8, "jumpOffsetOf", "(I)I"⟩
def RX9 : String := "LinkPress$Signs"
def TX9 : u_T := fun k => match k with
  | _ => ("", "", "", false)
def tyX9 : Nat → FieldType := fun k => match k with
  | _ => .int
abbrev wsX90 : List Cond := u_ws RX9 TX9 0
theorem nmX9 : ∀ a, a < 0 → ∀ b, b < 0 → a ≠ b → (TX9 a).2.1 ≠ (TX9 b).2.1 := by decide +kernel
theorem tyX9_ok : ∀ k, k < 0 → parseFieldDescriptor (TX9 k).2.2.1 = some (tyX9 k) := by decide +kernel
abbrev cX9_isNumber : ByteArray := prog_11_method_2_code
def yX9_isNumber : MethodName := ⟨RX9, "isNumber", "(I)Z"⟩
abbrev cX9_kindOfA : ByteArray := prog_11_method_3_code
def yX9_kindOfA : MethodName := ⟨RX9, "kindOfA", "(I)I"⟩
abbrev cX9_kindOfB : ByteArray := prog_11_method_4_code
def yX9_kindOfB : MethodName := ⟨RX9, "kindOfB", "(I)I"⟩
abbrev cX9_kindOfC : ByteArray := prog_11_method_5_code
def yX9_kindOfC : MethodName := ⟨RX9, "kindOfC", "(I)I"⟩
abbrev cX9_suits : ByteArray := prog_11_method_6_code
def yX9_suits : MethodName := ⟨RX9, "suits", "(II)Z"⟩
abbrev cX9_kept : ByteArray := prog_11_method_7_code
def yX9_kept : MethodName := ⟨RX9, "kept", "(II)I"⟩
abbrev cX9_isReturnRegister : ByteArray := prog_11_method_8_code
def yX9_isReturnRegister : MethodName := ⟨RX9, "isReturnRegister", "(II)Z"⟩
abbrev cX9_isBranch : ByteArray := prog_11_method_9_code
def yX9_isBranch : MethodName := ⟨RX9, "isBranch", "(I)Z"⟩
abbrev cX9_isCallOrTail : ByteArray := prog_11_method_10_code
def yX9_isCallOrTail : MethodName := ⟨RX9, "isCallOrTail", "(I)Z"⟩
abbrev cX9_isClosing : ByteArray := prog_11_method_11_code
def yX9_isClosing : MethodName := ⟨RX9, "isClosing", "(I)Z"⟩
abbrev cX9_mayBeInRow : ByteArray := prog_11_method_12_code
def yX9_mayBeInRow : MethodName := ⟨RX9, "mayBeInRow", "(I)Z"⟩
def RX10 : String := "LinkPress$ToldMachine"
def TX10 : u_T := fun k => match k with
  | 0 => ("LinkPress$Machine", "kept", "[I", true)
  | 1 => ("LinkPress$Machine", "hasRun", "Z", false)
  | 2 => ("LinkPress$Machine", "outcome", "I", false)
  | 3 => ("LinkPress$Machine", "steps", "I", false)
  | 4 => ("LinkPress$Machine", "prints", "I", false)
  | 5 => ("LinkPress$ToldMachine", "program", "LLinkPress$Program;", true)
  | 6 => ("LinkPress$ToldMachine", "sorts", "[I", true)
  | 7 => ("LinkPress$ToldMachine", "values", "[I", true)
  | 8 => ("LinkPress$ToldMachine", "memorySorts", "[I", true)
  | 9 => ("LinkPress$ToldMachine", "memoryValues", "[I", true)
  | 10 => ("LinkPress$ToldMachine", "function", "I", false)
  | _ => ("LinkPress$ToldMachine", "place", "I", false)
def tyX10 : Nat → FieldType := fun k => match k with
  | 0 => .array .int
  | 1 => .boolean
  | 2 => .int
  | 3 => .int
  | 4 => .int
  | 5 => .object "LinkPress$Program"
  | 6 => .array .int
  | 7 => .array .int
  | 8 => .array .int
  | 9 => .array .int
  | 10 => .int
  | _ => .int
abbrev wsX100 : List Cond := u_ws RX10 TX10 12
theorem nmX10 : ∀ a, a < 12 → ∀ b, b < 12 → a ≠ b → (TX10 a).2.1 ≠ (TX10 b).2.1 := by decide +kernel
theorem tyX10_ok : ∀ k, k < 12 → parseFieldDescriptor (TX10 k).2.2.1 = some (tyX10 k) := by decide +kernel
abbrev cX10_init : ByteArray := prog_12_method_1_code
def yX10_init : MethodName := ⟨RX10, "<init>", "(LLinkPress$Program;)V"⟩
abbrev cX10_isReady : ByteArray := prog_12_method_2_code
def yX10_isReady : MethodName := ⟨RX10, "isReady", "()Z"⟩
abbrev cX10_restart : ByteArray := prog_12_method_3_code
def yX10_restart : MethodName := ⟨RX10, "restart", "()V"⟩
abbrev cX10_where : ByteArray := prog_12_method_4_code
def yX10_where : MethodName := ⟨RX10, "where", "()I"⟩
abbrev cX10_whichPlace : ByteArray := prog_12_method_5_code
def yX10_whichPlace : MethodName := ⟨RX10, "whichPlace", "()I"⟩
abbrev cX10_registerAt : ByteArray := prog_12_method_6_code
def yX10_registerAt : MethodName := ⟨RX10, "registerAt", "(I)I"⟩
abbrev cX10_memoryAt : ByteArray := prog_12_method_7_code
def yX10_memoryAt : MethodName := ⟨RX10, "memoryAt", "(I)I"⟩
abbrev cX10_step : ByteArray := prog_12_method_8_code
def yX10_step : MethodName := ⟨RX10, "step", "()I"⟩
abbrev cX10_calculate : ByteArray := prog_12_method_9_code
def yX10_calculate : MethodName := ⟨RX10, "calculate", "(II)I"⟩
abbrev cX10_branch : ByteArray := prog_12_method_10_code
def yX10_branch : MethodName := ⟨RX10, "branch", "(II)I"⟩
abbrev cX10_load : ByteArray := prog_12_method_11_code
def yX10_load : MethodName := ⟨RX10, "load", "(I)I"⟩
abbrev cX10_store : ByteArray := prog_12_method_12_code
def yX10_store : MethodName := ⟨RX10, "store", "(I)I"⟩
abbrev cX10_memoryIndexOf : ByteArray := prog_12_method_13_code
def yX10_memoryIndexOf : MethodName := ⟨RX10, "memoryIndexOf", "(I)I"⟩
abbrev cX10_callFunction : ByteArray := prog_12_method_14_code
def yX10_callFunction : MethodName := ⟨RX10, "callFunction", "(I)I"⟩
abbrev cX10_goBack : ByteArray := prog_12_method_15_code
def yX10_goBack : MethodName := ⟨RX10, "goBack", "()I"⟩
abbrev cX10_print : ByteArray := prog_12_method_16_code
def yX10_print : MethodName := ⟨RX10, "print", "()I"⟩
abbrev cX10_goTo : ByteArray := prog_12_method_17_code
def yX10_goTo : MethodName := ⟨RX10, "goTo", "(II)I"⟩
abbrev cX10_goOn : ByteArray := prog_12_method_18_code
def yX10_goOn : MethodName := ⟨RX10, "goOn", "()I"⟩
abbrev cX10_writeAndGoOn : ByteArray := prog_12_method_19_code
def yX10_writeAndGoOn : MethodName := ⟨RX10, "writeAndGoOn", "(III)I"⟩
abbrev cX10_write : ByteArray := prog_12_method_20_code
def yX10_write : MethodName := ⟨RX10, "write", "(III)V"⟩
abbrev cX10_sortIn : ByteArray := prog_12_method_21_code
def yX10_sortIn : MethodName := ⟨RX10, "sortIn", "(I)I"⟩
abbrev cX10_valueIn : ByteArray := prog_12_method_22_code
def yX10_valueIn : MethodName := ⟨RX10, "valueIn", "(I)I"⟩
abbrev cX10_isNumber : ByteArray := prog_12_method_23_code
def yX10_isNumber : MethodName := ⟨RX10, "isNumber", "(I)Z"⟩
def RX11 : String := "LinkPress"
def TX11 : u_T := fun k => match k with
  | 0 => ("LinkPress", "program", "LLinkPress$Program;", true)
  | 1 => ("LinkPress", "folding", "LLinkPress$Folding;", true)
  | 2 => ("LinkPress", "image", "LLinkPress$Image;", true)
  | 3 => ("LinkPress", "routineList", "LLinkPress$Routines;", true)
  | 4 => ("LinkPress", "search", "LLinkPress$RoutineSearch;", true)
  | 5 => ("LinkPress", "linker", "LLinkPress$Linker;", true)
  | 6 => ("LinkPress", "toldMachine", "LLinkPress$ToldMachine;", true)
  | _ => ("LinkPress", "imageMachine", "LLinkPress$ImageMachine;", true)
def tyX11 : Nat → FieldType := fun k => match k with
  | 0 => .object "LinkPress$Program"
  | 1 => .object "LinkPress$Folding"
  | 2 => .object "LinkPress$Image"
  | 3 => .object "LinkPress$Routines"
  | 4 => .object "LinkPress$RoutineSearch"
  | 5 => .object "LinkPress$Linker"
  | 6 => .object "LinkPress$ToldMachine"
  | _ => .object "LinkPress$ImageMachine"
abbrev wsX110 : List Cond := u_ws RX11 TX11 8
theorem nmX11 : ∀ a, a < 8 → ∀ b, b < 8 → a ≠ b → (TX11 a).2.1 ≠ (TX11 b).2.1 := by decide +kernel
theorem tyX11_ok : ∀ k, k < 8 → parseFieldDescriptor (TX11 k).2.2.1 = some (tyX11 k) := by decide +kernel
abbrev cX11_init : ByteArray := prog_1_method_1_code
def yX11_init : MethodName := ⟨RX11, "<init>", "()V"⟩
abbrev cX11_function : ByteArray := prog_1_method_2_code
def yX11_function : MethodName := ⟨RX11, "function", "()I"⟩
abbrev cX11_put : ByteArray := prog_1_method_3_code
def yX11_put : MethodName := ⟨RX11, "put", "(IIIII)I"⟩
abbrev cX11_clear : ByteArray := prog_1_method_4_code
def yX11_clear : MethodName := ⟨RX11, "clear", "()I"⟩
abbrev cX11_press : ByteArray := prog_1_method_5_code
def yX11_press : MethodName := ⟨RX11, "press", "(ZZ)I"⟩
abbrev cX11_about : ByteArray := prog_1_method_6_code
def yX11_about : MethodName := ⟨RX11, "about", "(II)I"⟩
abbrev cX11_body : ByteArray := prog_1_method_7_code
def yX11_body : MethodName := ⟨RX11, "body", "(II)I"⟩
abbrev cX11_routine : ByteArray := prog_1_method_8_code
def yX11_routine : MethodName := ⟨RX11, "routine", "(II)I"⟩
abbrev cX11_occurrence : ByteArray := prog_1_method_9_code
def yX11_occurrence : MethodName := ⟨RX11, "occurrence", "(III)I"⟩
abbrev cX11_word : ByteArray := prog_1_method_10_code
def yX11_word : MethodName := ⟨RX11, "word", "(I)I"⟩
abbrev cX11_run : ByteArray := prog_1_method_11_code
def yX11_run : MethodName := ⟨RX11, "run", "(II)I"⟩
abbrev cX11_ran : ByteArray := prog_1_method_12_code
def yX11_ran : MethodName := ⟨RX11, "ran", "(II)I"⟩
abbrev cX11_printed : ByteArray := prog_1_method_13_code
def yX11_printed : MethodName := ⟨RX11, "printed", "(II)I"⟩
abbrev cX11_register : ByteArray := prog_1_method_14_code
def yX11_register : MethodName := ⟨RX11, "register", "(II)I"⟩
abbrev cX11_memory : ByteArray := prog_1_method_15_code
def yX11_memory : MethodName := ⟨RX11, "memory", "(II)I"⟩
abbrev cX11_count : ByteArray := prog_1_method_16_code
def yX11_count : MethodName := ⟨RX11, "count", "(I)I"⟩
abbrev cX11_machineOf : ByteArray := prog_1_method_17_code
def yX11_machineOf : MethodName := ⟨RX11, "machineOf", "(I)LLinkPress$Machine;"⟩
def RX12 : String := "LinkPressModel"
def TX12 : u_T := fun k => match k with
  | 0 => ("LinkPressModel", "thrown", "I", false)
  | 1 => ("LinkPressModel", "functions", "I", false)
  | 2 => ("LinkPressModel", "instructions", "I", false)
  | 3 => ("LinkPressModel", "size", "[I", true)
  | 4 => ("LinkPressModel", "op", "[I", true)
  | 5 => ("LinkPressModel", "fa", "[I", true)
  | 6 => ("LinkPressModel", "fb", "[I", true)
  | 7 => ("LinkPressModel", "fc", "[I", true)
  | 8 => ("LinkPressModel", "part", "[I", true)
  | 9 => ("LinkPressModel", "next", "[I", true)
  | 10 => ("LinkPressModel", "hasImage", "Z", false)
  | 11 => ("LinkPressModel", "imageFunctions", "I", false)
  | 12 => ("LinkPressModel", "words", "I", false)
  | 13 => ("LinkPressModel", "routines", "I", false)
  | 14 => ("LinkPressModel", "bodyOf", "[I", true)
  | 15 => ("LinkPressModel", "addressOf", "[I", true)
  | 16 => ("LinkPressModel", "word", "[I", true)
  | 17 => ("LinkPressModel", "length", "[I", true)
  | 18 => ("LinkPressModel", "many", "[I", true)
  | 19 => ("LinkPressModel", "saves", "[I", true)
  | 20 => ("LinkPressModel", "routineAt", "[I", true)
  | 21 => ("LinkPressModel", "rowOf", "[I", true)
  | 22 => ("LinkPressModel", "placed", "[I", true)
  | 23 => ("LinkPressModel", "placedAt", "[I", true)
  | 24 => ("LinkPressModel", "inRoutine", "[I", true)
  | 25 => ("LinkPressModel", "addressAt", "[I", true)
  | 26 => ("LinkPressModel", "begins", "[Z", true)
  | 27 => ("LinkPressModel", "may", "[Z", true)
  | 28 => ("LinkPressModel", "target", "[Z", true)
  | 29 => ("LinkPressModel", "found", "[I", true)
  | 30 => ("LinkPressModel", "ended", "[I", true)
  | 31 => ("LinkPressModel", "steps", "[I", true)
  | 32 => ("LinkPressModel", "printed", "[I", true)
  | 33 => ("LinkPressModel", "where", "[I", true)
  | 34 => ("LinkPressModel", "spot", "[I", true)
  | 35 => ("LinkPressModel", "prints", "[[I", true)
  | 36 => ("LinkPressModel", "regs", "[[I", true)
  | 37 => ("LinkPressModel", "cells", "[[I", true)
  | 38 => ("LinkPressModel", "sort", "[I", true)
  | 39 => ("LinkPressModel", "cellSort", "[I", true)
  | _ => ("LinkPressModel", "goes", "Z", false)
def tyX12 : Nat → FieldType := fun k => match k with
  | 0 => .int
  | 1 => .int
  | 2 => .int
  | 3 => .array .int
  | 4 => .array .int
  | 5 => .array .int
  | 6 => .array .int
  | 7 => .array .int
  | 8 => .array .int
  | 9 => .array .int
  | 10 => .boolean
  | 11 => .int
  | 12 => .int
  | 13 => .int
  | 14 => .array .int
  | 15 => .array .int
  | 16 => .array .int
  | 17 => .array .int
  | 18 => .array .int
  | 19 => .array .int
  | 20 => .array .int
  | 21 => .array .int
  | 22 => .array .int
  | 23 => .array .int
  | 24 => .array .int
  | 25 => .array .int
  | 26 => .array .boolean
  | 27 => .array .boolean
  | 28 => .array .boolean
  | 29 => .array .int
  | 30 => .array .int
  | 31 => .array .int
  | 32 => .array .int
  | 33 => .array .int
  | 34 => .array .int
  | 35 => .array (.array .int)
  | 36 => .array (.array .int)
  | 37 => .array (.array .int)
  | 38 => .array .int
  | 39 => .array .int
  | _ => .boolean
abbrev wsX120 : List Cond := u_ws RX12 TX12 41
theorem nmX12 : ∀ a, a < 41 → ∀ b, b < 41 → a ≠ b → (TX12 a).2.1 ≠ (TX12 b).2.1 := by decide +kernel
theorem tyX12_ok : ∀ k, k < 41 → parseFieldDescriptor (TX12 k).2.2.1 = some (tyX12 k) := by decide +kernel
abbrev cX12_init : ByteArray := prog_14_method_1_code
def yX12_init : MethodName := ⟨RX12, "<init>", "()V"⟩
abbrev cX12_function : ByteArray := prog_14_method_3_code
def yX12_function : MethodName := ⟨RX12, "function", "()I"⟩
abbrev cX12_in : ByteArray := prog_14_method_4_code
def yX12_in : MethodName := ⟨RX12, "in", "(III)Z"⟩
abbrev cX12_isRegister : ByteArray := prog_14_method_5_code
def yX12_isRegister : MethodName := ⟨RX12, "isRegister", "(I)Z"⟩
abbrev cX12_isGood : ByteArray := prog_14_method_6_code
def yX12_isGood : MethodName := ⟨RX12, "isGood", "(IIII)Z"⟩
abbrev cX12_put : ByteArray := prog_14_method_7_code
def yX12_put : MethodName := ⟨RX12, "put", "(IIIII)I"⟩
abbrev cX12_clear : ByteArray := prog_14_method_8_code
def yX12_clear : MethodName := ⟨RX12, "clear", "()I"⟩
abbrev cX12_tellsA : ByteArray := prog_14_method_9_code
def yX12_tellsA : MethodName := ⟨RX12, "tellsA", "(I)Z"⟩
abbrev cX12_tellsB : ByteArray := prog_14_method_10_code
def yX12_tellsB : MethodName := ⟨RX12, "tellsB", "(I)Z"⟩
abbrev cX12_tellsC : ByteArray := prog_14_method_11_code
def yX12_tellsC : MethodName := ⟨RX12, "tellsC", "(I)Z"⟩
abbrev cX12_isSame : ByteArray := prog_14_method_12_code
def yX12_isSame : MethodName := ⟨RX12, "isSame", "(II)Z"⟩
abbrev cX12_isCall : ByteArray := prog_14_method_13_code
def yX12_isCall : MethodName := ⟨RX12, "isCall", "(I)Z"⟩
abbrev cX12_isBranch : ByteArray := prog_14_method_14_code
def yX12_isBranch : MethodName := ⟨RX12, "isBranch", "(I)Z"⟩
abbrev cX12_counts : ByteArray := prog_14_method_15_code
def yX12_counts : MethodName := ⟨RX12, "counts", "(I)I"⟩
abbrev cX12_isLike : ByteArray := prog_14_method_16_code
def yX12_isLike : MethodName := ⟨RX12, "isLike", "(II)Z"⟩
abbrev cX12_parts : ByteArray := prog_14_method_17_code
def yX12_parts : MethodName := ⟨RX12, "parts", "()I"⟩
abbrev cX12_isTaken : ByteArray := prog_14_method_18_code
def yX12_isTaken : MethodName := ⟨RX12, "isTaken", "(I)Z"⟩
abbrev cX12_leastOf : ByteArray := prog_14_method_19_code
def yX12_leastOf : MethodName := ⟨RX12, "leastOf", "(IZ)I"⟩
abbrev cX12_about : ByteArray := prog_14_method_20_code
def yX12_about : MethodName := ⟨RX12, "about", "(II)I"⟩
abbrev cX12_refusal : ByteArray := prog_14_method_21_code
def yX12_refusal : MethodName := ⟨RX12, "refusal", "()I"⟩
abbrev cX12_press : ByteArray := prog_14_method_22_code
def yX12_press : MethodName := ⟨RX12, "press", "(ZZ)I"⟩
abbrev cX12_isBody : ByteArray := prog_14_method_23_code
def yX12_isBody : MethodName := ⟨RX12, "isBody", "(I)Z"⟩
abbrev cX12_namesOne : ByteArray := prog_14_method_24_code
def yX12_namesOne : MethodName := ⟨RX12, "namesOne", "(I)Z"⟩
abbrev cX12_isTarget : ByteArray := prog_14_method_25_code
def yX12_isTarget : MethodName := ⟨RX12, "isTarget", "(II)Z"⟩
abbrev cX12_isFit : ByteArray := prog_14_method_26_code
def yX12_isFit : MethodName := ⟨RX12, "isFit", "(III)Z"⟩
abbrev cX12_occurrences : ByteArray := prog_14_method_27_code
def yX12_occurrences : MethodName := ⟨RX12, "occurrences", "(II)I"⟩
abbrev cX12_findRoutine : ByteArray := prog_14_method_28_code
def yX12_findRoutine : MethodName := ⟨RX12, "findRoutine", "()Z"⟩
abbrev cX12_wordsOf : ByteArray := prog_14_method_29_code
def yX12_wordsOf : MethodName := ⟨RX12, "wordsOf", "(I)I"⟩
abbrev cX12_layOut : ByteArray := prog_14_method_30_code
def yX12_layOut : MethodName := ⟨RX12, "layOut", "()V"⟩
abbrev cX12_write : ByteArray := prog_14_method_31_code
def yX12_write : MethodName := ⟨RX12, "write", "()V"⟩
abbrev cX12_say : ByteArray := prog_14_method_32_code
def yX12_say : MethodName := ⟨RX12, "say", "(II)I"⟩
abbrev cX12_jal : ByteArray := prog_14_method_33_code
def yX12_jal : MethodName := ⟨RX12, "jal", "(II)I"⟩
abbrev cX12_branch : ByteArray := prog_14_method_34_code
def yX12_branch : MethodName := ⟨RX12, "branch", "(IIII)I"⟩
abbrev cX12_f3Of : ByteArray := prog_14_method_35_code
def yX12_f3Of : MethodName := ⟨RX12, "f3Of", "(I)I"⟩
abbrev cX12_coded : ByteArray := prog_14_method_36_code
def yX12_coded : MethodName := ⟨RX12, "coded", "(III)I"⟩
abbrev cX12_body : ByteArray := prog_14_method_37_code
def yX12_body : MethodName := ⟨RX12, "body", "(II)I"⟩
abbrev cX12_hasRoutine : ByteArray := prog_14_method_38_code
def yX12_hasRoutine : MethodName := ⟨RX12, "hasRoutine", "(I)Z"⟩
abbrev cX12_routine : ByteArray := prog_14_method_39_code
def yX12_routine : MethodName := ⟨RX12, "routine", "(II)I"⟩
abbrev cX12_occurrence : ByteArray := prog_14_method_40_code
def yX12_occurrence : MethodName := ⟨RX12, "occurrence", "(III)I"⟩
abbrev cX12_word : ByteArray := prog_14_method_41_code
def yX12_word : MethodName := ⟨RX12, "word", "(I)I"⟩
abbrev cX12_begin : ByteArray := prog_14_method_42_code
def yX12_begin : MethodName := ⟨RX12, "begin", "(I)V"⟩
abbrev cX12_print : ByteArray := prog_14_method_43_code
def yX12_print : MethodName := ⟨RX12, "print", "(II)V"⟩
abbrev cX12_run : ByteArray := prog_14_method_44_code
def yX12_run : MethodName := ⟨RX12, "run", "(II)I"⟩
abbrev cX12_runTold : ByteArray := prog_14_method_45_code
def yX12_runTold : MethodName := ⟨RX12, "runTold", "(I)I"⟩
abbrev cX12_isNumber : ByteArray := prog_14_method_46_code
def yX12_isNumber : MethodName := ⟨RX12, "isNumber", "(I)Z"⟩
abbrev cX12_set : ByteArray := prog_14_method_47_code
def yX12_set : MethodName := ⟨RX12, "set", "(III)V"⟩
abbrev cX12_isBelow : ByteArray := prog_14_method_48_code
def yX12_isBelow : MethodName := ⟨RX12, "isBelow", "(II)Z"⟩
abbrev cX12_reckoned : ByteArray := prog_14_method_49_code
def yX12_reckoned : MethodName := ⟨RX12, "reckoned", "(III)I"⟩
abbrev cX12_holds : ByteArray := prog_14_method_50_code
def yX12_holds : MethodName := ⟨RX12, "holds", "(III)Z"⟩
abbrev cX12_isCell : ByteArray := prog_14_method_51_code
def yX12_isCell : MethodName := ⟨RX12, "isCell", "(I)Z"⟩
abbrev cX12_does : ByteArray := prog_14_method_52_code
def yX12_does : MethodName := ⟨RX12, "does", "(I)Z"⟩
abbrev cX12_runImage : ByteArray := prog_14_method_53_code
def yX12_runImage : MethodName := ⟨RX12, "runImage", "(I)I"⟩
abbrev cX12_give : ByteArray := prog_14_method_54_code
def yX12_give : MethodName := ⟨RX12, "give", "(II)V"⟩
abbrev cX12_does_ : ByteArray := prog_14_method_55_code
def yX12_does_ : MethodName := ⟨RX12, "does", "(II)I"⟩
abbrev cX12_made : ByteArray := prog_14_method_56_code
def yX12_made : MethodName := ⟨RX12, "made", "(IIII)I"⟩
abbrev cX12_hasRun : ByteArray := prog_14_method_57_code
def yX12_hasRun : MethodName := ⟨RX12, "hasRun", "(I)Z"⟩
abbrev cX12_ran : ByteArray := prog_14_method_58_code
def yX12_ran : MethodName := ⟨RX12, "ran", "(II)I"⟩
abbrev cX12_printed : ByteArray := prog_14_method_59_code
def yX12_printed : MethodName := ⟨RX12, "printed", "(II)I"⟩
abbrev cX12_register : ByteArray := prog_14_method_60_code
def yX12_register : MethodName := ⟨RX12, "register", "(II)I"⟩
abbrev cX12_memory : ByteArray := prog_14_method_61_code
def yX12_memory : MethodName := ⟨RX12, "memory", "(II)I"⟩
abbrev cX12_count : ByteArray := prog_14_method_62_code
def yX12_count : MethodName := ⟨RX12, "count", "(I)I"⟩
def RJ9 : String := "java/lang/Math"
abbrev cJ9_max_7cf53 : ByteArray := prog_15_method_65_code
def yJ9_max_7cf53 : MethodName := ⟨RJ9, "max", "(II)I"⟩
abbrev cJ9_min_7cf53 : ByteArray := prog_15_method_69_code
def yJ9_min_7cf53 : MethodName := ⟨RJ9, "min", "(II)I"⟩
def RJ10 : String := "java/lang/System"
def RJ7 : String := "java/util/Arrays"
abbrev cJ7_fill_53178 : ByteArray := prog_17_method_103_code
def yJ7_fill_53178 : MethodName := ⟨RJ7, "fill", "([II)V"⟩
def RL : String := "LinkPressLaw"
abbrev vwCl : List vw_C := [(RX0, TX0, 6), (RX1, TX1, 5), (RX2, TX2, 9), (RX3, TX3, 4), (RX5, TX5, 8), (RX6, TX6, 17), (RX7, TX7, 12), (RX10, TX10, 12), (RX11, TX11, 8), (RX12, TX12, 41)]
theorem inX0 : ∀ w ∈ wsX00, w ∈ lw_tbl := by decide +kernel
theorem inX1 : ∀ w ∈ wsX10, w ∈ lw_tbl := by decide +kernel
theorem inX2 : ∀ w ∈ wsX20, w ∈ lw_tbl := by decide +kernel
theorem inX3 : ∀ w ∈ wsX30, w ∈ lw_tbl := by decide +kernel
theorem inX5 : ∀ w ∈ wsX50, w ∈ lw_tbl := by decide +kernel
theorem inX6 : ∀ w ∈ wsX60, w ∈ lw_tbl := by decide +kernel
theorem inX7 : ∀ w ∈ wsX70, w ∈ lw_tbl := by decide +kernel
theorem inX10 : ∀ w ∈ wsX100, w ∈ lw_tbl := by decide +kernel
theorem inX11 : ∀ w ∈ wsX110, w ∈ lw_tbl := by decide +kernel
theorem inX12 : ∀ w ∈ wsX120, w ∈ lw_tbl := by decide +kernel
end
section
/-! THE ABSTRACT MACHINE: cells by numbers, refs as numbers, ints as they are; one step a function; the whole run a least fixed point ('am_Go') -/
abbrev am_S : Type := Nat ⊕ (Nat × Nat)
/-- shapes (an object of a class | an array: tag, length), refs, ints, how many cells, the tables that nobody writes -/
abbrev am_H : Type := (Nat → am_S) × (Nat → Nat → Option Nat) × (Nat → Nat → Int32) × Nat × (Nat → Nat × (Nat → Int32))
/-- a method: name, bytes, locals, answer, code, fields by pool number (slot, classes), constants, static tables, room -/
abbrev am_M : Type := MethodName × ByteArray × Nat × Option FieldType × List (Nat × Instr × Nat) × List (Nat × Nat × List Nat) × List (Nat × Int32) × List (Nat × Nat) × Room
abbrev am_F : Type := Nat × List Value × List Value × am_H
abbrev am_Q : Type := Option Value → am_H → Prop
def am_y (M : am_M) : MethodName := M.1
def am_cc (M : am_M) : ByteArray := M.2.1
def am_ml (M : am_M) : Nat := M.2.2.1
def am_ret (M : am_M) : Option FieldType := M.2.2.2.1
def am_code (M : am_M) : List (Nat × Instr × Nat) := M.2.2.2.2.1
def am_fls (M : am_M) : List (Nat × Nat × List Nat) := M.2.2.2.2.2.1
def am_cns (M : am_M) : List (Nat × Int32) := M.2.2.2.2.2.2.1
def am_sts (M : am_M) : List (Nat × Nat) := M.2.2.2.2.2.2.2.1
def am_rm (M : am_M) : Room := M.2.2.2.2.2.2.2.2
/-- look up by number -/
def am_lk {α : Type} (i : Nat) : List (Nat × α) → Option α
  | [] => none
  | q :: r => match Nat.beq i q.1 with
    | true => some q.2
    | false => am_lk i r
def am_kd : List (List Nat) := [[2, 2, 2, 2, 0, 0], [2, 2, 2, 0, 0], [2, 1, 0, 0, 0, 2, 2, 2, 0], [2, 2, 2, 2], [2, 2, 2, 2, 2, 0, 0, 0], [2, 2, 2, 2, 2, 2, 2, 2, 2, 2, 2, 2, 0, 0, 0, 0, 0], [2, 2, 2, 2, 2, 2, 2, 2, 2, 2, 0, 0], [2, 1, 0, 0, 0, 2, 2, 2, 2, 2, 0, 0], [2, 2, 2, 2, 2, 2, 2, 2], [0, 0, 0, 2, 2, 2, 2, 2, 2, 2, 1, 0, 0, 0, 2, 2, 2, 2, 2, 2, 2, 2, 2, 2, 2, 2, 2, 2, 2, 2, 2, 2, 2, 2, 2, 2, 2, 2, 2, 2, 1]]
def am_k (ci k : Nat) : Nat := (am_kd.getD ci []).getD k 0
def am_u (D : Nat → Nat → Int32) (o k : Nat) (v : Int32) : Nat → Nat → Int32 := fun i j => if i = o ∧ j = k then v else D i j
def am_ur (D : Nat → Nat → Option Nat) (o k : Nat) (v : Option Nat) : Nat → Nat → Option Nat := fun i j => if i = o ∧ j = k then v else D i j
def am_us (D : Nat → am_S) (o : Nat) (v : am_S) : Nat → am_S := fun i => if i = o then v else D i
def am_vr (r : Option Nat) : Value := match r with
  | some i => .ref i
  | none => .null
def am_fv (h : am_H) (o ci k : Nat) : Value := match Nat.beq (am_k ci k) 2 with
  | true => am_vr (h.2.1 o k)
  | false => .int (h.2.2.1 o k)
def am_fl (M : am_M) (idx ci : Nat) : Option Nat := match am_lk idx (am_fls M) with
  | some (k, cs) => match cs.contains ci with
    | true => some k
    | false => none
  | none => none
def am_tg (pc : Nat) (off : Int) : Nat := ((pc : Int) + off).toNat
def am_il (i len pc : Nat) (ls st : List Value) (h : am_H) : Option am_F := match ls[i]? with
  | some (.int x) => some (pc + len, ls, .int x :: st, h)
  | _ => none
def am_al (i len pc : Nat) (ls st : List Value) (h : am_H) : Option am_F := match ls[i]? with
  | some (.ref x) => some (pc + len, ls, .ref x :: st, h)
  | some (.retAddr x) => some (pc + len, ls, .retAddr x :: st, h)
  | some .null => some (pc + len, ls, .null :: st, h)
  | _ => none
def am_is (i len pc : Nat) (ls st : List Value) (h : am_H) : Option am_F := match st with
  | .int x :: r => match Nat.ble (i + 1) ls.length with
    | true => some (pc + len, ls.set i (.int x), r, h)
    | false => none
  | _ => none
def am_as (i len pc : Nat) (ls st : List Value) (h : am_H) : Option am_F := match st with
  | .ref x :: r => match Nat.ble (i + 1) ls.length with
    | true => some (pc + len, ls.set i (.ref x), r, h)
    | false => none
  | .retAddr x :: r => match Nat.ble (i + 1) ls.length with
    | true => some (pc + len, ls.set i (.retAddr x), r, h)
    | false => none
  | .null :: r => match Nat.ble (i + 1) ls.length with
    | true => some (pc + len, ls.set i .null, r, h)
    | false => none
  | _ => none
def am_ii (i : Nat) (n : Int) (pc : Nat) (ls st : List Value) (h : am_H) : Option am_F := match ls[i]? with
  | some (.int x) => some (pc + 3, ls.set i (.int (x + Int32.ofInt n)), st, h)
  | _ => none
def am_bin (f : Int32 → Int32 → Int32) (pc : Nat) (ls st : List Value) (h : am_H) : Option am_F := match st with
  | .int y :: .int x :: r => some (pc + 1, ls, .int (f x y) :: r, h)
  | _ => none
def am_ldc (M : am_M) (k len pc : Nat) (ls st : List Value) (h : am_H) : Option am_F := match am_lk k (am_cns M) with
  | some v => some (pc + len, ls, .int v :: st, h)
  | none => none
def am_dup (pc : Nat) (ls st : List Value) (h : am_H) : Option am_F := match st with
  | .int v :: r => some (pc + 1, ls, .int v :: .int v :: r, h)
  | .ref v :: r => some (pc + 1, ls, .ref v :: .ref v :: r, h)
  | _ => none
def am_dup2 (pc : Nat) (ls st : List Value) (h : am_H) : Option am_F := match st with
  | .int v :: .ref w :: r => some (pc + 1, ls, .int v :: .ref w :: .int v :: .ref w :: r, h)
  | _ => none
def am_pop (pc : Nat) (ls st : List Value) (h : am_H) : Option am_F := match st with
  | .int _ :: r => some (pc + 1, ls, r, h)
  | .ref _ :: r => some (pc + 1, ls, r, h)
  | _ => none
def am_neg (pc : Nat) (ls st : List Value) (h : am_H) : Option am_F := match st with
  | .int x :: r => some (pc + 1, ls, .int (-x) :: r, h)
  | _ => none
def am_if (cond : Jvm.ClassFile.Cond) (off : Int) (pc : Nat) (ls st : List Value) (h : am_H) : Option am_F := match st with
  | .int x :: r => match cond with
    | .eq => some (if x = 0 then am_tg pc off else pc + 3, ls, r, h)
    | .ne => some (if x = 0 then pc + 3 else am_tg pc off, ls, r, h)
    | .lt => some (if x < 0 then am_tg pc off else pc + 3, ls, r, h)
    | .ge => some (if x < 0 then pc + 3 else am_tg pc off, ls, r, h)
    | .gt => some (if 0 < x then am_tg pc off else pc + 3, ls, r, h)
    | .le => some (if 0 < x then pc + 3 else am_tg pc off, ls, r, h)
  | _ => none
def am_ic (cond : Jvm.ClassFile.Cond) (off : Int) (pc : Nat) (ls st : List Value) (h : am_H) : Option am_F := match st with
  | .int y :: .int x :: r => match cond with
    | .eq => some (if x = y then am_tg pc off else pc + 3, ls, r, h)
    | .ne => some (if x = y then pc + 3 else am_tg pc off, ls, r, h)
    | .lt => some (if x < y then am_tg pc off else pc + 3, ls, r, h)
    | .ge => some (if x < y then pc + 3 else am_tg pc off, ls, r, h)
    | .gt => some (if y < x then am_tg pc off else pc + 3, ls, r, h)
    | .le => some (if y < x then pc + 3 else am_tg pc off, ls, r, h)
  | _ => none
def am_nn (isnull : Bool) (off : Int) (pc : Nat) (ls st : List Value) (h : am_H) : Option am_F := match st with
  | .ref _ :: r => some (match isnull with | true => pc + 3 | false => am_tg pc off, ls, r, h)
  | .null :: r => some (match isnull with | true => am_tg pc off | false => pc + 3, ls, r, h)
  | _ => none
def am_tsel (pc : Nat) (d : Int) (x : Int32) : Int → List Int → Nat
  | _, [] => am_tg pc d
  | k, o :: r => if x = Int32.ofInt k then am_tg pc o else am_tsel pc d x (k + 1) r
def am_lsel (pc : Nat) (d : Int) (x : Int32) : List (Int × Int) → Nat
  | [] => am_tg pc d
  | q :: r => if x = Int32.ofInt q.1 then am_tg pc q.2 else am_lsel pc d x r
def am_ts (d lo : Int) (offs : Array Int) (pc : Nat) (ls st : List Value) (h : am_H) : Option am_F := match st with
  | .int x :: r => some (am_tsel pc d x lo offs.toList, ls, r, h)
  | _ => none
def am_lsw (d : Int) (ps : Array (Int × Int)) (pc : Nat) (ls st : List Value) (h : am_H) : Option am_F := match st with
  | .int x :: r => some (am_lsel pc d x ps.toList, ls, r, h)
  | _ => none
def am_gf (M : am_M) (idx pc : Nat) (ls st : List Value) (h : am_H) : Option am_F := match st with
  | .ref o :: r => match h.1 o with
    | .inl ci => match am_fl M idx ci with
      | some k => some (pc + 3, ls, am_fv h o ci k :: r, h)
      | none => none
    | .inr _ => none
  | _ => none
def am_gs (M : am_M) (idx pc : Nat) (ls st : List Value) (h : am_H) : Option am_F := match am_lk idx (am_sts M) with
  | some j => some (pc + 3, ls, .retAddr j :: st, h)
  | none => none
def am_len (pc : Nat) (ls st : List Value) (h : am_H) : Option am_F := match st with
  | .ref o :: r => match h.1 o with
    | .inr q => some (pc + 1, ls, .int (Int32.ofNat q.2) :: r, h)
    | .inl _ => none
  | .retAddr j :: r => match Nat.ble (j + 1) 6 with
    | true => some (pc + 1, ls, .int (Int32.ofNat (h.2.2.2.2 j).1) :: r, h)
    | false => none
  | _ => none
def am_pf (M : am_M) (idx pc : Nat) (ls st : List Value) (h : am_H) : Option am_F := match st with
  | .int v :: .ref o :: r => match h.1 o with
    | .inl ci => match am_fl M idx ci with
      | some k => match am_k ci k with
        | 0 => some (pc + 3, ls, r, (h.1, h.2.1, am_u h.2.2.1 o k v, h.2.2.2))
        | _ => none
      | none => none
    | .inr _ => none
  | .ref v :: .ref o :: r => match h.1 o with
    | .inl ci => match am_fl M idx ci with
      | some k => match Nat.beq (am_k ci k) 2 with
        | true => some (pc + 3, ls, r, (h.1, am_ur h.2.1 o k (some v), h.2.2))
        | false => none
      | none => none
    | .inr _ => none
  | _ => none
/-- a step that asks nothing -/
def am_step (M : am_M) (i : Instr) (pc : Nat) (ls st : List Value) (h : am_H) : Option am_F := match i with
  | .iload_n k => am_il k.val 1 pc ls st h
  | .iload k => am_il k 2 pc ls st h
  | .aload_n k => am_al k.val 1 pc ls st h
  | .aload k => am_al k 2 pc ls st h
  | .istore_n k => am_is k.val 1 pc ls st h
  | .istore k => am_is k 2 pc ls st h
  | .astore_n k => am_as k.val 1 pc ls st h
  | .astore k => am_as k 2 pc ls st h
  | .iinc k n => am_ii k n pc ls st h
  | .iconst n => some (pc + 1, ls, .int (Int32.ofInt n) :: st, h)
  | .bipush n => some (pc + 2, ls, .int ((Int8.ofInt n).toInt32) :: st, h)
  | .sipush n => some (pc + 3, ls, .int ((Int16.ofInt n).toInt32) :: st, h)
  | .ldc k => am_ldc M k 2 pc ls st h
  | .ldc_w k => am_ldc M k 3 pc ls st h
  | .aconst_null => some (pc + 1, ls, .null :: st, h)
  | .dup => am_dup pc ls st h
  | .dup2 => am_dup2 pc ls st h
  | .pop => am_pop pc ls st h
  | .iadd => am_bin (fun x y => x + y) pc ls st h
  | .isub => am_bin (fun x y => x - y) pc ls st h
  | .imul => am_bin (fun x y => x * y) pc ls st h
  | .iand => am_bin (fun x y => x &&& y) pc ls st h
  | .ior => am_bin (fun x y => x ||| y) pc ls st h
  | .ixor => am_bin (fun x y => x ^^^ y) pc ls st h
  | .ishl => am_bin (fun x y => x <<< (y &&& 31)) pc ls st h
  | .ishr => am_bin (fun x y => x >>> (y &&& 31)) pc ls st h
  | .iushr => am_bin (fun x y => (x.toUInt32 >>> (y.toUInt32 &&& Int32.toUInt32 31)).toInt32) pc ls st h
  | .ineg => am_neg pc ls st h
  | .ifCond cd off => am_if cd off pc ls st h
  | .if_icmp cd off => am_ic cd off pc ls st h
  | .ifnull off => am_nn true off pc ls st h
  | .ifnonnull off => am_nn false off pc ls st h
  | .goto off => some (am_tg pc off, ls, st, h)
  | .tableswitch d lo _ offs => am_ts d lo offs pc ls st h
  | .lookupswitch d ps => am_lsw d ps pc ls st h
  | .getfield k => am_gf M k pc ls st h
  | .getstatic k => am_gs M k pc ls st h
  | .arraylength => am_len pc ls st h
  | .putfield k => am_pf M k pc ls st h
  | _ => none
/-- a step that asks something: an index in its row, a divisor that isn't 0, a boolean that is 0 or 1 -/
def am_mem (M : am_M) (i : Instr) (pc : Nat) (ls st : List Value) (h : am_H) : Option (Prop × am_F) := match i with
  | .iaload => match st with
    | .int x :: .ref o :: r => match h.1 o with
      | .inr (0, n) => some (vp_in x n, pc + 1, ls, .int (h.2.2.1 o x.toNatClampNeg) :: r, h)
      | _ => none
    | .int x :: .retAddr j :: r => match Nat.ble (j + 1) 6 with
      | true => some (vp_in x (h.2.2.2.2 j).1, pc + 1, ls, .int ((h.2.2.2.2 j).2 x.toNatClampNeg) :: r, h)
      | false => none
    | _ => none
  | .baload => match st with
    | .int x :: .ref o :: r => match h.1 o with
      | .inr (1, n) => some (vp_in x n, pc + 1, ls, .int (h.2.2.1 o x.toNatClampNeg) :: r, h)
      | _ => none
    | _ => none
  | .aaload => match st with
    | .int x :: .ref o :: r => match h.1 o with
      | .inr (2, n) => some (vp_in x n, pc + 1, ls, am_vr (h.2.1 o x.toNatClampNeg) :: r, h)
      | _ => none
    | _ => none
  | .iastore => match st with
    | .int v :: .int x :: .ref o :: r => match h.1 o with
      | .inr (0, n) => some (vp_in x n, pc + 1, ls, r, (h.1, h.2.1, am_u h.2.2.1 o x.toNatClampNeg v, h.2.2.2))
      | _ => none
    | _ => none
  | .bastore => match st with
    | .int v :: .int x :: .ref o :: r => match h.1 o with
      | .inr (1, n) => some (vp_in x n, pc + 1, ls, r, (h.1, h.2.1, am_u h.2.2.1 o x.toNatClampNeg (v &&& 1), h.2.2.2))
      | _ => none
    | _ => none
  | .idiv => match st with
    | .int y :: .int x :: r => some (¬ y = 0, pc + 1, ls, .int (x / y) :: r, h)
    | _ => none
  | .irem => match st with
    | .int y :: .int x :: r => some (¬ y = 0, pc + 1, ls, .int (x - x / y * y) :: r, h)
    | _ => none
  | .putfield idx => match st with
    | .int v :: .ref o :: r => match h.1 o with
      | .inl ci => match am_fl M idx ci with
        | some k => match am_k ci k with
          | 1 => some (v = 0 ∨ v = 1, pc + 3, ls, r, (h.1, h.2.1, am_u h.2.2.1 o k v, h.2.2.2))
          | _ => none
        | none => none
      | .inr _ => none
    | _ => none
  | _ => none
def am_ent (M : am_M) (as : List Value) : List Value := as ++ List.replicate (am_ml M - as.length) (.long 0)
/-- words of the tables: those that stay -/
def am_gw (w : Jvm.Cond) : Bool := goodWord w || (match w with
  | .declares _ => true
  | .methodLinkNest _ _ _ _ => true
  | .arrayOver (.array _) => true
  | _ => false)
def lw_g : List Jvm.Cond := lw_tbl.filter am_gw
def am_in (w : Jvm.Cond) : Prop := w ∈ lw_g
theorem am_in.of (i : Nat) {w : Jvm.Cond} (h : lw_tbl[i]? = some w) (hg : am_gw w = true) : am_in w := List.mem_filter.mpr ⟨List.mem_of_getElem? h, hg⟩
def am_own (M : am_M) : String := (am_y M).cls
def am_word (M : am_M) : Jvm.Cond := .code (am_y M) (am_cc M) (am_ml M) (am_ret M)
/-- the callee's room in the caller's -/
def am_fit (M M' : am_M) : Prop := (am_rm M').frames + 1 ≤ (am_rm M).frames ∧ 8 + (am_ml M' + 11) + (am_rm M').locals ≤ (am_rm M).locals
def am_nm (x : MethodName) (n : Nat) : Prop := (parseMethodDescriptor x.desc).map (fun d => d.parameters.length) = some n
def am_pl (s : String) : Prop := s ≠ "java/lang/invoke/MethodHandle" ∧ s ≠ "java/lang/invoke/VarHandle"
/-- a call by class: the method named is the one run -/
def am_CV (M M' : am_M) (idx ci n : Nat) : Prop := ∃ r : vw_C, vwCl[ci]? = some r ∧ (am_y M').cls = r.1 ∧ am_pl (am_y M').cls ∧ am_nm (am_y M') n ∧ am_fit M M' ∧ am_in (.methodLink (am_own M) idx (am_y M')) ∧ am_in (.instanceMethod (am_y M')) ∧ am_in (.selects r.1 (am_y M') (am_y M')) ∧ am_in (.initialized r.1) ∧ am_in (am_word M')
/-- a call of an inherited, an overriding or an abstract method -/
def am_CU (M M' : am_M) (idx ci n : Nat) : Prop := ∃ (r : vw_C) (x : MethodName) (owner : String), vwCl[ci]? = some r ∧ am_pl owner ∧ am_nm x n ∧ am_fit M M' ∧ am_in (.methodLink (am_own M) idx x) ∧ am_in (.sameMethod x.cls owner x.name x.desc) ∧ am_in (.selects r.1 x (am_y M')) ∧ am_in (.instanceMethod (am_y M')) ∧ am_in (.initialized (am_y M').cls) ∧ am_in (am_word M') ∧ (am_y M' = ⟨owner, x.name, x.desc⟩ ∨ am_in (.declares ⟨owner, x.name, x.desc⟩))
/-- a static call -/
def am_CS (M M' : am_M) (idx n : Nat) : Prop := am_pl (am_y M').cls ∧ am_nm (am_y M') n ∧ am_fit M M' ∧ (am_in (.methodLink (am_own M) idx (am_y M')) ∨ ∃ x : String, am_pl x ∧ am_in (.methodLink (am_own M) idx ⟨x, (am_y M').name, (am_y M').desc⟩) ∧ am_in (.sameMethod x (am_y M').cls (am_y M').name (am_y M').desc)) ∧ am_in (.static (am_y M')) ∧ am_in (.initialized (am_y M').cls) ∧ am_in (am_word M')
/-- a constructor's call -/
def am_CI (M M' : am_M) (idx n : Nat) : Prop := am_pl (am_y M').cls ∧ am_nm (am_y M') n ∧ am_fit M M' ∧ (am_in (.methodLink (am_own M) idx (am_y M')) ∨ ∃ host : String, am_in (.methodLinkNest (am_own M) idx (am_y M') host)) ∧ am_in (.instanceMethod (am_y M')) ∧ am_in (.initialized (am_y M').cls) ∧ am_in (am_word M') ∧ (am_y M').name = "<init>" ∧ am_ret M' = none
/-- what a method must be -/
def am_chk1 (M : am_M) (pc : Nat) (i : Instr) : Bool := match i with
  | .ifCond _ off => decide (0 ≤ (pc : Int) + off)
  | .if_icmp _ off => decide (0 ≤ (pc : Int) + off)
  | .ifnull off => decide (0 ≤ (pc : Int) + off)
  | .ifnonnull off => decide (0 ≤ (pc : Int) + off)
  | .goto off => decide (0 ≤ (pc : Int) + off)
  | .tableswitch d lo hi offs => decide (0 ≤ (pc : Int) + d) && offs.toList.all (fun o => decide (0 ≤ (pc : Int) + o)) && decide (lo + offs.toList.length = hi + 1) && decide (-2147483648 ≤ lo) && decide (hi ≤ 2147483647) && decide (lo ≤ hi)
  | .lookupswitch d ps => decide (0 ≤ (pc : Int) + d) && ps.toList.all (fun q => decide (0 ≤ (pc : Int) + q.2) && decide (-2147483648 ≤ q.1) && decide (q.1 ≤ 2147483647)) && (ps.toList.zip (ps.toList.drop 1)).all (fun (a, next) => a.1 < next.1)
  | .putfield idx => match am_lk idx (am_fls M) with
    | some (k, cs) => cs.all (fun ci => match vwCl[ci]? with
      | some r => !(r.2.1 k).2.2.2 || ((am_y M).name == "<init>" && (r.2.1 k).1 == (am_y M).cls)
      | none => false)
    | none => true
  | _ => true
def am_elen : Instr → Nat
  | .iload _ | .aload _ | .istore _ | .astore _ | .bipush _ | .ldc _ | .newarray _ => 2
  | .iinc _ _ | .sipush _ | .ldc_w _ | .getfield _ | .putfield _ | .getstatic _ | .ifCond _ _ | .if_icmp _ _ | .ifnull _ | .ifnonnull _ | .goto _ | .invokevirtual _ | .invokestatic _ | .invokespecial _ | .new _ => 3
  | .multianewarray _ _ => 4
  | .tableswitch _ _ _ _ | .lookupswitch _ _ => 0
  | _ => 1
def am_Fok (M : am_M) (idx k ci : Nat) : Prop := ∃ r : vw_C, vwCl[ci]? = some r ∧ k < r.2.2 ∧ am_in (.fieldLink (am_own M) idx (r.2.1 k).1 (r.2.1 k).2.1 (r.2.1 k).2.2.1)
def am_stn : List (String × String) := [("LinkPress$Signs", "KIND_OF_A"), ("LinkPress$Signs", "KIND_OF_B"), ("LinkPress$Signs", "KIND_OF_C"), ("LinkPress$Rv32", "SELECTOR"), ("LinkPress$Rv32", "OTHER")]
def am_Mok (M : am_M) : Prop :=
  plainName (am_y M).cls = true ∧ True ∧
  (∀ q ∈ am_code M, decode (am_cc M) q.1 = .ok q.2 ∧ am_chk1 M q.1 q.2.1 = true ∧ (am_elen q.2.1 = 0 ∨ q.2.2 = am_elen q.2.1)) ∧
  (∀ q ∈ am_fls M, ∀ ci ∈ q.2.2, am_Fok M q.1 q.2.1 ci) ∧
  (∀ q ∈ am_cns M, am_in (.constant (am_own M) q.1 q.2)) ∧
  (∀ q ∈ am_sts M, ∃ z, am_stn[q.2]? = some z ∧ am_in (.fieldLink (am_own M) q.1 z.1 z.2 "[I"))
/-- an object's fields at its start -/
def am_dz (D : Nat → Nat → Int32) (o : Nat) : Nat → Nat → Int32 := fun i j => if i = o then 0 else D i j
def am_rz (D : Nat → Nat → Option Nat) (o : Nat) : Nat → Nat → Option Nat := fun i j => if i = o then none else D i j
def am_new (h : am_H) (s : am_S) : am_H := (am_us h.1 h.2.2.2.1 s, am_rz h.2.1 h.2.2.2.1, am_dz h.2.2.1 h.2.2.2.1, h.2.2.2.1 + 1, h.2.2.2.2)
/-- new int[n][k] -/
def am_new2 (h : am_H) (n k : Nat) : am_H := (fun i => if i = h.2.2.2.1 then .inr (2, n) else if h.2.2.2.1 < i ∧ i ≤ h.2.2.2.1 + n then .inr (0, k) else h.1 i,
  fun i j => if i = h.2.2.2.1 then (if j < n then some (h.2.2.2.1 + 1 + j) else none) else h.2.1 i j,
  fun i j => if h.2.2.2.1 < i ∧ i ≤ h.2.2.2.1 + n then 0 else h.2.2.1 i j, h.2.2.2.1 + 1 + n, h.2.2.2.2)
abbrev am_K : Type := am_M × Nat × List Value × List Value × am_H × Nat × Nat × am_Q
def am_arr : ArrayType → Option Nat
  | .int => some 0
  | .boolean => some 1
  | _ => none
/-- one turn of the run -/
def am_Phi (X : am_K → Prop) : am_K → Prop := fun (M, pc, ls, st, h, kc, ks, Q) => ∃ (i : Instr) (len : Nat), am_lk pc (am_code M) = some (i, len) ∧
  ((∃ pc' ls' st' h', am_step M i pc ls st h = some (pc', ls', st', h') ∧ X (M, pc', ls', st', h', kc, ks, Q)) ∨
  (∃ P pc' ls' st' h', am_mem M i pc ls st h = some (P, pc', ls', st', h') ∧ P ∧ X (M, pc', ls', st', h', kc, ks, Q)) ∨
  (i = .ireturn ∧ ∃ v, st = [.int v] ∧ (am_ret M = some .int ∨ am_ret M = some .boolean ∧ (v = 0 ∨ v = 1)) ∧ Q (some (.int v)) h) ∨
  (i = .areturn ∧ ∃ v n, st = [v] ∧ (v = .null ∨ ∃ a, v = .ref a) ∧ am_ret M = some (.object n) ∧ Q (some v) h) ∨
  (i = .return_ ∧ st = [] ∧ am_ret M = none ∧ Q none h) ∨
  (∃ idx M' ci o as rest Q1, i = .invokevirtual idx ∧ st = as.reverse ++ .ref o :: rest ∧ h.1 o = .inl ci ∧ (am_CV M M' idx ci as.length ∨ am_CU M M' idx ci as.length) ∧ am_Mok M' ∧ rest.length ≤ 8 ∧ (∀ v ∈ rest, v.category = 1) ∧ (∀ v ∈ as, v.category = 1) ∧ as.length + 1 ≤ am_ml M' ∧ (am_rm M').cells ≤ kc ∧ (am_rm M').slots ≤ ks ∧
    X (M', 0, am_ent M' (.ref o :: as), [], h, (am_rm M').cells, (am_rm M').slots, Q1) ∧ ∀ r h1, Q1 r h1 → X (M, pc + 3, ls, r.toList ++ rest, h1, kc - (am_rm M').cells, ks - (am_rm M').slots, Q)) ∨
  (∃ idx M' as rest Q1, i = .invokestatic idx ∧ st = as.reverse ++ rest ∧ am_CS M M' idx as.length ∧ am_Mok M' ∧ rest.length ≤ 8 ∧ (∀ v ∈ rest, v.category = 1) ∧ (∀ v ∈ as, v.category = 1) ∧ as.length ≤ am_ml M' ∧ (am_rm M').cells ≤ kc ∧ (am_rm M').slots ≤ ks ∧
    X (M', 0, am_ent M' as, [], h, (am_rm M').cells, (am_rm M').slots, Q1) ∧ ∀ r h1, Q1 r h1 → X (M, pc + 3, ls, r.toList ++ rest, h1, kc - (am_rm M').cells, ks - (am_rm M').slots, Q)) ∨
  (∃ idx M' o as rest Q1, i = .invokespecial idx ∧ st = as.reverse ++ .ref o :: rest ∧ am_CI M M' idx as.length ∧ am_Mok M' ∧ rest.length ≤ 8 ∧ (∀ v ∈ rest, v.category = 1) ∧ (∀ v ∈ as, v.category = 1) ∧ as.length + 1 ≤ am_ml M' ∧ (am_rm M').cells ≤ kc ∧ (am_rm M').slots ≤ ks ∧
    X (M', 0, am_ent M' (.ref o :: as), [], h, (am_rm M').cells, (am_rm M').slots, Q1) ∧ ∀ r h1, Q1 r h1 → X (M, pc + 3, ls, r.toList ++ rest, h1, kc - (am_rm M').cells, ks - (am_rm M').slots, Q)) ∨
  (∃ idx o rest, i = .invokespecial idx ∧ st = .ref o :: rest ∧ am_in (.methodLink (am_own M) idx objectInit) ∧ 1 ≤ (am_rm M).frames ∧ rest.length + 12 ≤ (am_rm M).locals ∧ (∀ v ∈ rest, v.category = 1) ∧ X (M, pc + 3, ls, rest, h, kc, ks, Q)) ∨
  (∃ idx x dp o sp o0 rest n0 n1, i = .invokestatic idx ∧ st = .int x :: .int dp :: .ref o :: .int sp :: .ref o0 :: rest ∧ am_in (.methodLink (am_own M) idx arraycopyName) ∧ h.1 o0 = .inr (0, n0) ∧ h.1 o = .inr (0, n1) ∧ ¬ sp < 0 ∧ ¬ dp < 0 ∧ ¬ x < 0 ∧ sp.toNatClampNeg + x.toNatClampNeg ≤ n0 ∧ dp.toNatClampNeg + x.toNatClampNeg ≤ n1 ∧ 1 ≤ (am_rm M).frames ∧ rest.length + 30 ≤ (am_rm M).locals ∧ (∀ v ∈ rest, v.category = 1) ∧
    X (M, pc + 3, ls, rest, (h.1, h.2.1, (fun i j => if i = o then va_cpy (h.2.2.1 o0) (h.2.2.1 o) sp.toNatClampNeg dp.toNatClampNeg x.toNatClampNeg j else h.2.2.1 i j), h.2.2.2), kc, ks, Q)) ∨
  (∃ idx ci r, i = .new idx ∧ vwCl[ci]? = some r ∧ am_in (.classLink (am_own M) idx r.1) ∧ am_in (.instantiable r.1 r.2.2) ∧ am_in (.initialized r.1) ∧ 1 ≤ kc ∧ r.2.2 ≤ ks ∧ X (M, pc + 3, ls, .ref h.2.2.2.1 :: st, am_new h (.inl ci), kc - 1, ks - r.2.2, Q)) ∨
  (∃ at' t x rest, i = .newarray at' ∧ am_arr at' = some t ∧ st = .int x :: rest ∧ ¬ x < 0 ∧ x.toNatClampNeg ≤ 100000 ∧ 1 ≤ kc ∧ x.toNatClampNeg ≤ ks ∧ X (M, pc + 2, ls, .ref h.2.2.2.1 :: rest, am_new h (.inr (t, x.toNatClampNeg)), kc - 1, ks - x.toNatClampNeg, Q)) ∨
  (∃ idx x y rest, i = .multianewarray idx 2 ∧ st = .int y :: .int x :: rest ∧ ¬ x < 0 ∧ ¬ y < 0 ∧ x.toNatClampNeg ≤ 10000 ∧ y.toNatClampNeg ≤ 10000 ∧ am_in (.classLink (am_own M) idx "[[I") ∧ 1 + x.toNatClampNeg ≤ kc ∧ x.toNatClampNeg + x.toNatClampNeg * y.toNatClampNeg ≤ ks ∧
    X (M, pc + 4, ls, .ref h.2.2.2.1 :: rest, am_new2 h x.toNatClampNeg y.toNatClampNeg, kc - (1 + x.toNatClampNeg), ks - (x.toNatClampNeg + x.toNatClampNeg * y.toNatClampNeg), Q)) ∨
  (∃ idx x y z rest, i = .invokestatic idx ∧ st = .int y :: .int x :: rest ∧ ((am_in (.methodLink (am_own M) idx Lib.Math.max.name) ∧ z = if x < y then y else x) ∨ (am_in (.methodLink (am_own M) idx Lib.Math.min.name) ∧ z = if y < x then y else x)) ∧ 1 ≤ (am_rm M).frames ∧ rest.length + 13 ≤ (am_rm M).locals ∧ (∀ v ∈ rest, v.category = 1) ∧ X (M, pc + 3, ls, .int z :: rest, h, kc, ks, Q)))
/-- THE RUN COMES TO ITS END WITH Q -/
def am_Go (k : am_K) : Prop := ∀ X : am_K → Prop, (∀ k, am_Phi X k → X k) → X k
theorem am_Phi_mono {X Y : am_K → Prop} (h : ∀ k, X k → Y k) : ∀ k, am_Phi X k → am_Phi Y k := by
  rintro ⟨M, pc, ls, st, hh, kc, ks, Q⟩ ⟨i, len, hi, H⟩
  refine ⟨i, len, hi, ?_⟩
  rcases H with H | H | H | H | H | H | H | H | H | H | H | H | H | H
  · obtain ⟨a, b, c, d, e, f⟩ := H; exact Or.inl ⟨a, b, c, d, e, h _ f⟩
  · obtain ⟨a, b, c, d, e, f, g, z⟩ := H; exact Or.inr (Or.inl ⟨a, b, c, d, e, f, g, h _ z⟩)
  · exact Or.inr (Or.inr (Or.inl H))
  · exact Or.inr (Or.inr (Or.inr (Or.inl H)))
  · exact Or.inr (Or.inr (Or.inr (Or.inr (Or.inl H))))
  · obtain ⟨a1, a2, a3, a4, a5, a6, a7, b1, b2, b3, b4, b5, b6, b7, b8, b9, c1, c2, c3, c4⟩ := H
    exact Or.inr (Or.inr (Or.inr (Or.inr (Or.inr (Or.inl ⟨a1, a2, a3, a4, a5, a6, a7, b1, b2, b3, b4, b5, b6, b7, b8, b9, c1, c2, h _ c3, fun r h1 q => h _ (c4 r h1 q)⟩)))))
  · obtain ⟨a1, a2, a5, a6, a7, b1, b2, b4, b5, b6, b7, b8, b9, c1, c2, c3, c4⟩ := H
    exact Or.inr (Or.inr (Or.inr (Or.inr (Or.inr (Or.inr (Or.inl ⟨a1, a2, a5, a6, a7, b1, b2, b4, b5, b6, b7, b8, b9, c1, c2, h _ c3, fun r h1 q => h _ (c4 r h1 q)⟩))))))
  · obtain ⟨a1, a2, a3, a5, a6, a7, b1, b2, b4, b5, b6, b7, b8, b9, c1, c2, c3, c4⟩ := H
    exact Or.inr (Or.inr (Or.inr (Or.inr (Or.inr (Or.inr (Or.inr (Or.inl ⟨a1, a2, a3, a5, a6, a7, b1, b2, b4, b5, b6, b7, b8, b9, c1, c2, h _ c3, fun r h1 q => h _ (c4 r h1 q)⟩)))))))
  · obtain ⟨a1, a2, a3, a4, a5, a6, a7, a8, a9, b1⟩ := H
    exact Or.inr (Or.inr (Or.inr (Or.inr (Or.inr (Or.inr (Or.inr (Or.inr (Or.inl ⟨a1, a2, a3, a4, a5, a6, a7, a8, a9, h _ b1⟩))))))))
  · obtain ⟨a1, a2, a3, a4, a5, a6, a7, a8, a9, b1, b2, b3, b4, b5, b6, b7, b8, b9, c1, c2, c3, c4, c5⟩ := H
    exact Or.inr (Or.inr (Or.inr (Or.inr (Or.inr (Or.inr (Or.inr (Or.inr (Or.inr (Or.inl ⟨a1, a2, a3, a4, a5, a6, a7, a8, a9, b1, b2, b3, b4, b5, b6, b7, b8, b9, c1, c2, c3, c4, h _ c5⟩)))))))))
  · obtain ⟨a1, a2, a3, a4, a5, a6, a7, a8, a9, b1, b2⟩ := H
    exact Or.inr (Or.inr (Or.inr (Or.inr (Or.inr (Or.inr (Or.inr (Or.inr (Or.inr (Or.inr (Or.inl ⟨a1, a2, a3, a4, a5, a6, a7, a8, a9, b1, h _ b2⟩))))))))))
  · obtain ⟨a1, a2, a3, a4, a5, a6, a7, a8, a9, b1, b2, b3⟩ := H
    exact Or.inr (Or.inr (Or.inr (Or.inr (Or.inr (Or.inr (Or.inr (Or.inr (Or.inr (Or.inr (Or.inr (Or.inl ⟨a1, a2, a3, a4, a5, a6, a7, a8, a9, b1, b2, h _ b3⟩)))))))))))
  · obtain ⟨a1, a2, a3, a4, a5, a6, a7, a8, a9, b1, b2, b3, b4, b5⟩ := H
    exact Or.inr (Or.inr (Or.inr (Or.inr (Or.inr (Or.inr (Or.inr (Or.inr (Or.inr (Or.inr (Or.inr (Or.inr (Or.inl ⟨a1, a2, a3, a4, a5, a6, a7, a8, a9, b1, b2, b3, b4, h _ b5⟩))))))))))))
  · obtain ⟨a1, a2, a3, a4, a5, a6, a7, a8, a9, b1, b2, b3⟩ := H
    exact Or.inr (Or.inr (Or.inr (Or.inr (Or.inr (Or.inr (Or.inr (Or.inr (Or.inr (Or.inr (Or.inr (Or.inr (Or.inr ⟨a1, a2, a3, a4, a5, a6, a7, a8, a9, b1, b2, h _ b3⟩))))))))))))
theorem am_Go.intro {k : am_K} (h : am_Phi am_Go k) : am_Go k := fun X hX => hX k (am_Phi_mono (fun _ g => g X hX) k h)
theorem am_Go.ind {X : am_K → Prop} (hX : ∀ k, am_Phi X k → X k) {k : am_K} (h : am_Go k) : X k := h X hX
end
section
/-! THE ABSTRACT MACHINE IS THE MACHINE: what 'am_Go' says of a method, 'Met' says -/
abbrev am_G : Type := va_G × (Nat → ClassId) × Nat × (Nat → Nat)
def am_b (G : am_G) : Nat := G.2.2.1
def am_tv (G : am_G) : Value → Value
  | .ref i => .ref (G.2.2.1 + i)
  | .retAddr j => .ref (G.2.2.2 j)
  | v => v
def am_A (G : am_G) : Nat → Prop := fun q => G.2.2.1 ≤ q
def am_tys (G : am_G) : List (ClassId × FieldType) := [(G.2.1 0, .int), (G.2.1 1, .boolean), (G.2.1 2, .array .int)]
def am_arrv (G : am_G) (h : am_H) (i t : Nat) : (Nat → Int32) ⊕ (Nat → Int64) ⊕ (Nat → UInt32) ⊕ (Nat → UInt64) ⊕ (Nat → Option Nat) := match Nat.beq t 2 with
  | true => .inr (.inr (.inr (.inr (fun j => (h.2.1 i j).map (fun q => G.2.2.1 + q)))))
  | false => .inl (h.2.2.1 i)
def am_cell (G : am_G) (h : am_H) (i : Nat) : va_E := match h.1 i with
  | .inl ci => .inr (ci, (List.range (am_kd.getD ci []).length).map (fun k => am_tv G (am_fv h i ci k)))
  | .inr q => .inl (G.2.1 q.1, q.2, am_arrv G h i q.1)
def am_Hp (G : am_G) (h : am_H) (H : Heap) : Prop := H.size = G.2.2.1 + h.2.2.2.1 ∧ (∀ i, i < h.2.2.2.1 → va_at G.1 vwCl (G.2.2.1 + i, am_cell G h i) H) ∧ (∀ i, h.2.2.2.1 ≤ i → h.1 i = .inl 999) ∧ (∀ i t n, h.1 i = .inr (t, n) → t < 3)
def am_Lo (G : am_G) (lsC : Array Slot) (nL : Nat) (ls : List Value) : Prop := lsC.size = nL ∧ lv_wf lsC ∧ ls.length = nL ∧ ∀ (i : Nat) (v : Value), ls[i]? = some v → v.category = 1 → lsC[i]? = some (Slot.val (am_tv G v))
def am_T (G : am_G) (tb : Nat → Nat × (Nat → Int32)) (s : State) : Prop := (∀ j, j < 6 → va_T .int (G.2.2.2 j) (tb j).1 (fun k => .int ((tb j).2 k)) (am_A G) s s.heap) ∧ (∀ (j : Nat) (z : String × String), am_stn[j]? = some z → va_Z z.1 z.2 "[I" (.ref (G.2.2.2 j)) (am_A G) s s.heap)
def am_Cx (G : am_G) (M : am_M) (tb : Nat → Nat × (Nat → Int32)) (p : Program) (s : State) (m : MethodId) (args : Array Value) (meth : Method) (c : Code) : Prop :=
  p.tables.exec = Jvm.exec ∧ c.code = am_cc M ∧ meth.sig.returnType = am_ret M ∧ c.maxLocals = am_ml M ∧ s.vm.findClass (am_own M) = some m.cls ∧ (∀ w ∈ lw_g, w.before args s = true) ∧ meth.locks = false ∧ meth.name = (am_y M).name ∧ va_K G.1 vwCl (am_tys G) s ∧ am_T G tb s ∧ G.2.2.1 ≤ s.heap.size
def am_W (l : Launch) (G : am_G) (p : Program) (e : Env) (R : Room) (s : State) (m : MethodId) (args : Array Value) (below : List Frame) (meth : Method) (c : Code) (Z : State → Prop) (M : am_M) (cells slots : Nat) (pc : Nat) (ls st : List Value) (h : am_H) : Prop :=
  ∀ (lsC : Array Slot) (H : Heap) (locs : List Loc), am_Lo G lsC (am_ml M) ls → am_Hp G h H → va_S (am_A G) s.heap H locs → W p l e R s m args below meth c H locs cells slots Z (F0 m pc lsC (st.map (am_tv G)))
/-! the words of the tables stay -/
theorem am_stay {w : Jvm.Cond} (hw : am_gw w = true) {args a' : Array Value} {s U : State} (hW : s.WarmedH U.vm) (h : w.before args s = true) : w.before a' U = true := by
  unfold am_gw at hw
  rw [Bool.or_eq_true] at hw
  rcases hw with hw | hw
  · exact word_at hW (good_of_word hw) h
  · split at hw
    · exact va_Nw.use rfl (va_Nw.warmD hW (va_Nw.of rfl h))
    · exact va_Nw.use rfl (va_Nw.warmM hW (va_Nw.of rfl h))
    · exact over_moved hW.alike h
    · cases hw
theorem am_stays {args a' : Array Value} {s U : State} (hW : s.WarmedH U.vm) (h : ∀ w ∈ lw_g, w.before args s = true) : ∀ w ∈ lw_g, w.before a' U = true := fun w hw => am_stay (List.mem_filter.mp hw).2 hW (h w hw)
theorem am_lays {C : String} {T : u_T} {N : Nat} (h : ∀ w ∈ u_ws C T N, w ∈ lw_tbl) (hg : (u_ws C T N).all am_gw = true) : ∀ w ∈ u_ws C T N, w ∈ lw_g := fun w hw => List.mem_filter.mpr ⟨h w hw, List.all_eq_true.mp hg w hw⟩
def am_ti : Nat → Nat → FieldType := fun c => match c with
  | 0 => tyX0
  | 1 => tyX1
  | 2 => tyX2
  | 3 => tyX3
  | 4 => tyX5
  | 5 => tyX6
  | 6 => tyX7
  | 7 => tyX10
  | 8 => tyX11
  | _ => tyX12
def am_kb (ci k : Nat) : Bool := match am_k ci k, am_ti ci k with
  | 0, .int => true
  | 1, .boolean => true
  | 2, .object _ => true
  | 2, .array _ => true
  | _, _ => false
theorem am_kb_of {ci k : Nat} (h : am_kb ci k = true) : (am_k ci k = 0 ∧ am_ti ci k = .int) ∨ (am_k ci k = 1 ∧ am_ti ci k = .boolean) ∨ (am_k ci k = 2 ∧ ((∃ n, am_ti ci k = .object n) ∨ ∃ n, am_ti ci k = .array n)) := by
  unfold am_kb at h
  split at h
  · rename_i h1 h2; exact Or.inl ⟨h1, h2⟩
  · rename_i h1 h2; exact Or.inr (Or.inl ⟨h1, h2⟩)
  · rename_i n h1 h2; exact Or.inr (Or.inr ⟨h1, Or.inl ⟨n, h2⟩⟩)
  · rename_i n h1 h2; exact Or.inr (Or.inr ⟨h1, Or.inr ⟨n, h2⟩⟩)
  · cases h
/-- what the tables say of each class -/
theorem am_cls {ci : Nat} {r : vw_C} (h : vwCl[ci]? = some r) : (∀ w ∈ u_ws r.1 r.2.1 r.2.2, w ∈ lw_g) ∧ (∀ k, k < r.2.2 → parseFieldDescriptor (r.2.1 k).2.2.1 = some (am_ti ci k)) ∧ (∀ a, a < r.2.2 → ∀ b, b < r.2.2 → a ≠ b → (r.2.1 a).2.1 ≠ (r.2.1 b).2.1) ∧ (am_kd.getD ci []).length = r.2.2 ∧ ∀ k, k < r.2.2 → am_kb ci k = true := by
  match ci, h with
  | 0, h => cases h; exact ⟨am_lays inX0 (by decide +kernel), tyX0_ok, nmX0, rfl, by decide +kernel⟩
  | 1, h => cases h; exact ⟨am_lays inX1 (by decide +kernel), tyX1_ok, nmX1, rfl, by decide +kernel⟩
  | 2, h => cases h; exact ⟨am_lays inX2 (by decide +kernel), tyX2_ok, nmX2, rfl, by decide +kernel⟩
  | 3, h => cases h; exact ⟨am_lays inX3 (by decide +kernel), tyX3_ok, nmX3, rfl, by decide +kernel⟩
  | 4, h => cases h; exact ⟨am_lays inX5 (by decide +kernel), tyX5_ok, nmX5, rfl, by decide +kernel⟩
  | 5, h => cases h; exact ⟨am_lays inX6 (by decide +kernel), tyX6_ok, nmX6, rfl, by decide +kernel⟩
  | 6, h => cases h; exact ⟨am_lays inX7 (by decide +kernel), tyX7_ok, nmX7, rfl, by decide +kernel⟩
  | 7, h => cases h; exact ⟨am_lays inX10 (by decide +kernel), tyX10_ok, nmX10, rfl, by decide +kernel⟩
  | 8, h => cases h; exact ⟨am_lays inX11 (by decide +kernel), tyX11_ok, nmX11, rfl, by decide +kernel⟩
  | 9, h => cases h; exact ⟨am_lays inX12 (by decide +kernel), tyX12_ok, nmX12, rfl, by decide +kernel⟩
  | k + 10, h => simp at h
/-! locals -/
theorem am_tv_cat (G : am_G) (v : Value) (h : v.category = 1) : (am_tv G v).category = 1 := by
  cases v <;> first | rfl | exact h
def am_ll (G : am_G) (ls : List Value) : List (Nat × Value) := (List.range ls.length).filterMap (fun i => match ls[i]? with
  | some v => if v.category = 1 then some (i, am_tv G v) else none
  | none => none)
theorem am_ll_mem {G : am_G} {ls : List Value} {i : Nat} {v : Value} (h : ls[i]? = some v) (hc : v.category = 1) : (i, am_tv G v) ∈ am_ll G ls := by
  refine List.mem_filterMap.mpr ⟨i, List.mem_range.mpr (List.getElem?_eq_some_iff.mp h).1, ?_⟩
  rw [h]
  simp [hc]
theorem am_Lo.has {G : am_G} {lsC : Array Slot} {nL : Nat} {ls : List Value} (h : am_Lo G lsC nL ls) : lv_has lsC nL (am_ll G ls) := by
  refine ⟨h.1, h.2.1, fun q hq => ?_⟩
  obtain ⟨i, -, hi⟩ := List.mem_filterMap.mp hq
  split at hi
  · rename_i v hv
    split at hi
    · rename_i hc
      cases hi
      exact h.2.2.2 i v hv hc
    · cases hi
  · cases hi
theorem am_Lo.set {G : am_G} {lsC lsC' : Array Slot} {nL : Nat} {ls : List Value} {i : Nat} {v : Value} (h : am_Lo G lsC nL ls) (hi : i < nL) (hc : v.category = 1) (hn : lv_has lsC' nL ((i, am_tv G v) :: (am_ll G ls).filter (fun q => !(q.1 == i) && !(q.1 + 1 == i && q.2.category == 2)))) : am_Lo G lsC' nL (ls.set i v) := by
  refine ⟨hn.1, hn.2.1, by rw [List.length_set]; exact h.2.2.1, fun j w hj hw => ?_⟩
  by_cases e : i = j
  · subst e
    rw [List.getElem?_set_self (by rw [h.2.2.1]; exact hi)] at hj
    cases hj
    exact hn.2.2 _ (List.mem_cons_self)
  · rw [List.getElem?_set_ne e] at hj
    refine hn.2.2 (j, am_tv G w) (List.mem_cons_of_mem _ (List.mem_filter.mpr ⟨am_ll_mem hj hw, ?_⟩))
    have h1 : (j == i) = false := by simp [Ne.symm e]
    have h2 : ((am_tv G w).category == 2) = false := by rw [am_tv_cat G w hw]; rfl
    simp [h1, h2]
/-! switches -/
theorem am_ofInt_eq {x : Int32} {k : Int} (h1 : -2147483648 ≤ k) (h2 : k ≤ 2147483647) : x = Int32.ofInt k ↔ x.toInt = k := by
  constructor
  · intro h
    rw [h, Int32.toInt_ofInt]
    have e : (Int32.size : Int) = 4294967296 := rfl
    exact Int.bmod_eq_of_le (by omega) (by omega)
  · intro h
    rw [← h, Int32.ofInt_toInt]
theorem am_tsel_eq (pc : Nat) (d : Int) (x : Int32) : ∀ (os : List Int) (k : Int), -2147483648 ≤ k → k + os.length ≤ 2147483648 → am_tsel pc d x k os = am_tg pc (if k ≤ x.toInt ∧ x.toInt < k + os.length then os.getD (x.toInt - k).toNat d else d)
  | [], k, _, _ => by
    simp only [List.getD_nil, ite_self]
    rfl
  | o :: r, k, h1, h2 => by
    simp only [List.length_cons] at h2 ⊢
    unfold am_tsel
    by_cases hx : x.toInt = k
    · rw [if_pos ((am_ofInt_eq h1 (by omega)).mpr hx), if_pos (by omega), hx]
      simp
    · rw [if_neg (fun q => hx ((am_ofInt_eq h1 (by omega)).mp q)), am_tsel_eq pc d x r (k + 1) (by omega) (by omega)]
      by_cases hr : k ≤ x.toInt ∧ x.toInt < k + ((r.length + 1 : Nat) : Int)
      · rw [if_pos (by omega), if_pos hr]
        congr 1
        have e1 : (x.toInt - k).toNat = (x.toInt - (k + 1)).toNat + 1 := by omega
        rw [e1]
        simp
      · rw [if_neg (by omega), if_neg hr]
theorem am_lsel_eq (pc : Nat) (d : Int) (x : Int32) : ∀ (ps : List (Int × Int)), (∀ q ∈ ps, -2147483648 ≤ q.1 ∧ q.1 ≤ 2147483647) → am_lsel pc d x ps = am_tg pc (Op.lookupswitch.offset ps d x.toInt)
  | [], _ => rfl
  | q :: r, h => by
    have hq := h q List.mem_cons_self
    unfold am_lsel
    rw [am_lsel_eq pc d x r (fun z hz => h z (List.mem_cons_of_mem _ hz))]
    obtain ⟨a, b⟩ := q
    by_cases hx : x.toInt = a
    · rw [if_pos ((am_ofInt_eq hq.1 hq.2).mpr hx)]
      simp [Op.lookupswitch.offset, hx]
    · rw [if_neg (fun z => hx ((am_ofInt_eq hq.1 hq.2).mp z))]
      simp [Op.lookupswitch.offset, Ne.symm hx]
end
section
section AMS
variable {l : Launch} {G : am_G} {p : Program} {e : Env} {R : Room} {s : State} {m : MethodId} {args : Array Value} {below : List Frame} {meth : Method} {c : Code} {Z : State → Prop} {M : am_M} {cells slots : Nat} {tb : Nat → Nat × (Nat → Int32)}
/-- a field that the tables know, of an object that is there -/
theorem am_obj {h : am_H} {H : Heap} (hH : am_Hp G h H) {o ci : Nat} {r : vw_C} (ho : h.1 o = .inl ci) (hr : vwCl[ci]? = some r) : o < h.2.2.2.1 ∧ t_OB (G.2.2.1 + o) (G.1.1 ci) r.2.2 (G.1.2 ci) H (vp_V ((List.range (am_kd.getD ci []).length).map (fun k => am_tv G (am_fv h o ci k)))) := by
  have hlt : o < h.2.2.2.1 := by
    rcases Nat.lt_or_ge o h.2.2.2.1 with q | q
    · exact q
    · have := hH.2.2.1 o q
      rw [ho] at this
      cases this
      simp at hr
  refine ⟨hlt, ?_⟩
  have h1 := hH.2.1 o hlt
  unfold am_cell at h1
  rw [ho] at h1
  obtain ⟨r', e1, e2⟩ := h1
  have e1 : vwCl[ci]? = some r' := e1
  rw [hr] at e1
  cases e1
  exact e2
theorem am_lk_mem {α : Type} {i : Nat} {a : α} : ∀ {l : List (Nat × α)}, am_lk i l = some a → (i, a) ∈ l
  | [], h => by cases h
  | q :: r, h => by
    unfold am_lk at h
    split at h
    · rename_i hb
      have e1 := Nat.eq_of_beq_eq_true hb
      have e2 := Option.some.inj h
      subst e1
      subst e2
      exact List.mem_cons_self
    · exact List.mem_cons_of_mem _ (am_lk_mem h)
theorem am_Fof (hM : am_Mok M) {idx ci k : Nat} (h : am_fl M idx ci = some k) : am_Fok M idx k ci := by
  unfold am_fl at h
  split at h
  · rename_i k0 cs hlk
    split at h
    · rename_i hc
      cases h
      exact hM.2.2.2.1 (idx, k, cs) (am_lk_mem hlk) ci (by simpa using hc)
    · cases h
  · cases h
theorem am_fs_len {h : am_H} {o ci : Nat} {r : vw_C} (hr : vwCl[ci]? = some r) : ((List.range (am_kd.getD ci []).length).map (fun k => am_tv G (am_fv h o ci k))).length = r.2.2 := by
  rw [List.length_map, List.length_range]; exact (am_cls hr).2.2.2.1
theorem am_fs_get {h : am_H} {o ci k : Nat} {r : vw_C} (hr : vwCl[ci]? = some r) (hk : k < r.2.2) : ((List.range (am_kd.getD ci []).length).map (fun k => am_tv G (am_fv h o ci k)))[k]? = some (am_tv G (am_fv h o ci k)) := by
  rw [List.getElem?_map, List.getElem?_range (by rw [(am_cls hr).2.2.2.1]; exact hk)]
  rfl
set_option maxHeartbeats 4000000 in
theorem am_gf_s (cx : am_Cx G M tb p s m args meth c) (hM : am_Mok M) {idx pc : Nat} (hd : decode (am_cc M) pc = .ok (.getfield idx, 3)) {ls st ls' st' : List Value} {pc' : Nat} {h h' : am_H} (hs : am_gf M idx pc ls st h = some (pc', ls', st', h')) (K : am_W l G p e R s m args below meth c Z M cells slots pc' ls' st' h') : am_W l G p e R s m args below meth c Z M cells slots pc ls st h := by
  obtain ⟨hx, hb, hr, hml, hown, hts, hlocks, hnm, hK, hT, hbase⟩ := cx
  unfold am_gf at hs
  split at hs
  · rename_i o rest
    split at hs
    · rename_i ci ho
      split at hs
      · rename_i k hk
        cases hs
        obtain ⟨r, hr1, hkN, hlink⟩ := am_Fof hM hk
        intro lsC H locs hL hH hS
        obtain ⟨hlt, hob⟩ := am_obj hH ho hr1
        exact va_get (D := G.1) (ci := ci) (cl := vwCl) (ws := [(G.2.2.1 + o, .inr (ci, (List.range (am_kd.getD ci []).length).map (fun k => am_tv G (am_fv h o ci k))))]) (C := r.1) (T := r.2.1) (N := r.2.2) hx hb hts (am_cls hr1).1 hown hK (fun q z hz => by
          cases q with
          | zero => cases hz; exact ⟨r, hr1, hob⟩
          | succ q => simp at hz) 0 rfl hr1 k hkN (hts _ hlink) (fun _ h9 => h9) (am_fs_get hr1 hkN) hd (K lsC H locs hL hH hS)
      · cases hs
    · cases hs
  · cases hs
/-- stores of one int in the heap -/
theorem am_tgt {pc : Nat} {off : Int} (h : decide (0 ≤ (pc : Int) + off) = true) : (pc : Int) + off = ((am_tg pc off : Nat) : Int) := by
  have := of_decide_eq_true h
  unfold am_tg
  omega
theorem am_lt_not {x y : Int32} : y ≤ x ↔ ¬ x < y := ⟨fun h => Int32.not_lt.mpr h, fun h => Int32.not_lt.mp h⟩
theorem am_brk {c0 : Prop} [Decidable c0] {a b : Nat} {ls st : List Value} {h : am_H} (K : am_W l G p e R s m args below meth c Z M cells slots (if c0 then a else b) ls st h) : (c0 → am_W l G p e R s m args below meth c Z M cells slots a ls st h) ∧ (¬ c0 → am_W l G p e R s m args below meth c Z M cells slots b ls st h) := ⟨fun hc => by rw [if_pos hc] at K; exact K, fun hc => by rw [if_neg hc] at K; exact K⟩
set_option maxHeartbeats 4000000 in
theorem am_if_s (cx : am_Cx G M tb p s m args meth c) {cd : Jvm.ClassFile.Cond} {off : Int} {pc : Nat} (hd : decode (am_cc M) pc = .ok (.ifCond cd off, 3)) (ht : decide (0 ≤ (pc : Int) + off) = true) {ls st ls' st' : List Value} {pc' : Nat} {h h' : am_H} (hs : am_if cd off pc ls st h = some (pc', ls', st', h')) (K : am_W l G p e R s m args below meth c Z M cells slots pc' ls' st' h') : am_W l G p e R s m args below meth c Z M cells slots pc ls st h := by
  obtain ⟨hx, hb, hr, hml, hown, hts, hlocks, hnm, hK, hT, hbase⟩ := cx
  unfold am_if at hs
  split at hs
  · rename_i x rest
    intro lsC H locs hL hH hS
    cases cd with
    | eq => cases hs; exact lv_if_eq hx hb hd (am_tgt ht) (fun q => (am_brk K).1 q lsC H locs hL hH hS) (fun q => (am_brk K).2 q lsC H locs hL hH hS)
    | ne => cases hs; exact lv_if_ne hx hb hd (am_tgt ht) (fun q => (am_brk K).2 q lsC H locs hL hH hS) (fun q => (am_brk K).1 q lsC H locs hL hH hS)
    | lt => cases hs; exact lv_if_lt hx hb hd (am_tgt ht) (fun q => (am_brk K).1 q lsC H locs hL hH hS) (fun q => (am_brk K).2 q lsC H locs hL hH hS)
    | ge => cases hs; exact lv_if_ge hx hb hd (am_tgt ht) (fun q => (am_brk K).2 (am_lt_not.mp q) lsC H locs hL hH hS) (fun q => (am_brk K).1 (Classical.byContradiction fun z => q (am_lt_not.mpr z)) lsC H locs hL hH hS)
    | gt => cases hs; exact lv_if_gt hx hb hd (am_tgt ht) (fun q => (am_brk K).1 q lsC H locs hL hH hS) (fun q => (am_brk K).2 q lsC H locs hL hH hS)
    | le => cases hs; exact lv_if_le hx hb hd (am_tgt ht) (fun q => (am_brk K).2 (am_lt_not.mp q) lsC H locs hL hH hS) (fun q => (am_brk K).1 (Classical.byContradiction fun z => q (am_lt_not.mpr z)) lsC H locs hL hH hS)
  · cases hs
set_option maxHeartbeats 4000000 in
theorem am_ic_s (cx : am_Cx G M tb p s m args meth c) {cd : Jvm.ClassFile.Cond} {off : Int} {pc : Nat} (hd : decode (am_cc M) pc = .ok (.if_icmp cd off, 3)) (ht : decide (0 ≤ (pc : Int) + off) = true) {ls st ls' st' : List Value} {pc' : Nat} {h h' : am_H} (hs : am_ic cd off pc ls st h = some (pc', ls', st', h')) (K : am_W l G p e R s m args below meth c Z M cells slots pc' ls' st' h') : am_W l G p e R s m args below meth c Z M cells slots pc ls st h := by
  obtain ⟨hx, hb, hr, hml, hown, hts, hlocks, hnm, hK, hT, hbase⟩ := cx
  unfold am_ic at hs
  split at hs
  · rename_i y x rest
    intro lsC H locs hL hH hS
    cases cd with
    | eq => cases hs; exact lv_icmp_eq hx hb hd (am_tgt ht) (fun q => (am_brk K).1 q lsC H locs hL hH hS) (fun q => (am_brk K).2 q lsC H locs hL hH hS)
    | ne => cases hs; exact lv_icmp_ne hx hb hd (am_tgt ht) (fun q => (am_brk K).2 q lsC H locs hL hH hS) (fun q => (am_brk K).1 q lsC H locs hL hH hS)
    | lt => cases hs; exact lv_icmp_lt hx hb hd (am_tgt ht) (fun q => (am_brk K).1 q lsC H locs hL hH hS) (fun q => (am_brk K).2 q lsC H locs hL hH hS)
    | ge => cases hs; exact lv_icmp_ge hx hb hd (am_tgt ht) (fun q => (am_brk K).2 (am_lt_not.mp q) lsC H locs hL hH hS) (fun q => (am_brk K).1 (Classical.byContradiction fun z => q (am_lt_not.mpr z)) lsC H locs hL hH hS)
    | gt => cases hs; exact lv_icmp_gt hx hb hd (am_tgt ht) (fun q => (am_brk K).1 q lsC H locs hL hH hS) (fun q => (am_brk K).2 q lsC H locs hL hH hS)
    | le => cases hs; exact lv_icmp_le hx hb hd (am_tgt ht) (fun q => (am_brk K).2 (am_lt_not.mp q) lsC H locs hL hH hS) (fun q => (am_brk K).1 (Classical.byContradiction fun z => q (am_lt_not.mpr z)) lsC H locs hL hH hS)
  · cases hs
set_option maxHeartbeats 4000000 in
theorem am_ts_s (cx : am_Cx G M tb p s m args meth c) {d lo hi : Int} {offs : Array Int} {pc len : Nat} (hd : decode (am_cc M) pc = .ok (.tableswitch d lo hi offs, len)) (ht : am_chk1 M pc (.tableswitch d lo hi offs) = true) {ls st ls' st' : List Value} {pc' : Nat} {h h' : am_H} (hs : am_ts d lo offs pc ls st h = some (pc', ls', st', h')) (K : am_W l G p e R s m args below meth c Z M cells slots pc' ls' st' h') : am_W l G p e R s m args below meth c Z M cells slots pc ls st h := by
  obtain ⟨hx, hb, hr, hml, hown, hts, hlocks, hnm, hK, hT, hbase⟩ := cx
  unfold am_chk1 at ht
  simp only [Bool.and_eq_true, List.all_eq_true, decide_eq_true_eq] at ht
  obtain ⟨⟨⟨⟨⟨t1, t2⟩, t3⟩, t4⟩, t5⟩, t6⟩ := ht
  unfold am_ts at hs
  split at hs
  · rename_i x rest
    cases hs
    intro lsC H locs hL hH hS
    rw [am_tsel_eq pc d x offs.toList lo t4 (by omega)] at K
    by_cases hc : lo ≤ x.toInt ∧ x.toInt < lo + offs.toList.length
    · rw [if_pos hc] at K
      have hlt : (x.toInt - lo).toNat < offs.toList.length := by omega
      have hget : offs.toList[(x.toInt - lo).toNat]? = some (offs.toList.getD (x.toInt - lo).toNat d) := by
        rw [List.getD_eq_getElem?_getD, List.getElem?_eq_getElem hlt]; rfl
      refine lv_tableIn hx hb hd (by omega) (by omega) (off := offs.toList.getD (x.toInt - lo).toNat d) (by rw [← Array.getElem?_toList]; exact hget) (am_tgt (decide_eq_true (t2 _ (List.mem_of_getElem? hget)))) (K lsC H locs hL hH hS)
    · rw [if_neg hc] at K
      exact lv_tableOut hx hb hd (by omega) (am_tgt (decide_eq_true t1)) (K lsC H locs hL hH hS)
  · cases hs
theorem am_lk_off {P : Int → Prop} {d x : Int} : ∀ {ps : List (Int × Int)}, P d → (∀ q ∈ ps, P q.2) → P (Op.lookupswitch.offset ps d x)
  | [], h, _ => h
  | q :: r, h, hq => by
    obtain ⟨a, b⟩ := q
    by_cases e : a = x
    · have : Op.lookupswitch.offset ((a, b) :: r) d x = b := by simp [Op.lookupswitch.offset, e]
      rw [this]
      exact hq (a, b) List.mem_cons_self
    · have : Op.lookupswitch.offset ((a, b) :: r) d x = Op.lookupswitch.offset r d x := by simp [Op.lookupswitch.offset, e]
      rw [this]
      exact am_lk_off h (fun z hz => hq z (List.mem_cons_of_mem _ hz))
set_option maxHeartbeats 4000000 in
theorem am_lsw_s (cx : am_Cx G M tb p s m args meth c) {d : Int} {ps : Array (Int × Int)} {pc len : Nat} (hd : decode (am_cc M) pc = .ok (.lookupswitch d ps, len)) (ht : am_chk1 M pc (.lookupswitch d ps) = true) {ls st ls' st' : List Value} {pc' : Nat} {h h' : am_H} (hs : am_lsw d ps pc ls st h = some (pc', ls', st', h')) (K : am_W l G p e R s m args below meth c Z M cells slots pc' ls' st' h') : am_W l G p e R s m args below meth c Z M cells slots pc ls st h := by
  obtain ⟨hx, hb, hr, hml, hown, hts, hlocks, hnm, hK, hT, hbase⟩ := cx
  unfold am_chk1 at ht
  rw [Bool.and_eq_true, Bool.and_eq_true, List.all_eq_true] at ht
  obtain ⟨⟨t1, t2⟩, t3⟩ := ht
  have t2' : ∀ q ∈ ps.toList, 0 ≤ (pc : Int) + q.2 ∧ -2147483648 ≤ q.1 ∧ q.1 ≤ 2147483647 := fun q hq => by
    have := t2 q hq
    simp only [Bool.and_eq_true, decide_eq_true_eq] at this
    exact ⟨this.1.1, this.1.2, this.2⟩
  unfold am_lsw at hs
  split at hs
  · rename_i x rest
    cases hs
    intro lsC H locs hL hH hS
    rw [am_lsel_eq pc d x ps.toList (fun q hq => (t2' q hq).2)] at K
    refine lv_lookup hx hb hd t3 rfl (am_tgt ?_) (K lsC H locs hL hH hS)
    exact am_lk_off (P := fun o => decide (0 ≤ (pc : Int) + o) = true) t1 (fun q hq => decide_eq_true (t2' q hq).1)
  · cases hs
end AMS
end
section
section AMT
variable {l : Launch} {G : am_G} {p : Program} {e : Env} {R : Room} {s : State} {m : MethodId} {args : Array Value} {below : List Frame} {meth : Method} {c : Code} {Z : State → Prop} {M : am_M} {cells slots : Nat} {tb : Nat → Nat × (Nat → Int32)}
theorem am_ary {h : am_H} {H : Heap} (hH : am_Hp G h H) {o t n : Nat} (ho : h.1 o = .inr (t, n)) : o < h.2.2.2.1 ∧ H[G.2.2.1 + o]? = some (vp_cell (G.2.1 t) (n, am_arrv G h o t)) := by
  have hlt : o < h.2.2.2.1 := by
    rcases Nat.lt_or_ge o h.2.2.2.1 with q | q
    · exact q
    · have := hH.2.2.1 o q
      rw [ho] at this
      cases this
  refine ⟨hlt, ?_⟩
  have h1 := hH.2.1 o hlt
  unfold am_cell at h1
  rw [ho] at h1
  exact h1
theorem am_tyof (hK : va_K G.1 vwCl (am_tys G) s) {t : Nat} (ht : t < 3) : ∃ ty, am_tys G = am_tys G ∧ (am_tys G)[t]? = some (G.2.1 t, ty) ∧ ArrOfT s (G.2.1 t) ty := by
  match t, ht with
  | 0, _ => exact ⟨.int, rfl, rfl, (hK.2 0 _ rfl).1⟩
  | 1, _ => exact ⟨.boolean, rfl, rfl, (hK.2 1 _ rfl).1⟩
  | 2, _ => exact ⟨.array .int, rfl, rfl, (hK.2 2 _ rfl).1⟩
theorem am_isArr (hK : va_K G.1 vwCl (am_tys G) s) {h : am_H} {o t n : Nat} (ht : t < 3) : ∃ ty, s.isArrayOf (vp_cell (G.2.1 t) (n, am_arrv G h o t)) ty := by
  obtain ⟨ty, -, -, ha⟩ := am_tyof hK ht
  refine ⟨ty, ?_⟩
  unfold am_arrv
  split
  · exact ha n _
  · exact ha n _
theorem am_csz {h : am_H} {o t n : Nat} : (vp_cell (G.2.1 t) (n, am_arrv G h o t)).slots.size = n := by
  unfold am_arrv
  split
  · exact arrV_size _ _ _
  · exact arrV_size _ _ _
theorem am_cvm {h : am_H} {o t n : Nat} : (vp_cell (G.2.1 t) (n, am_arrv G h o t)).vm ≠ .unknown := by
  unfold am_arrv
  split <;> (intro q; cases q)
theorem am_rest {h h' : am_H} {H H1 : Heap} {o : Nat} (hH : am_Hp G h H) (h1 : h'.1 = h.1) (h2 : h'.2.2.2 = h.2.2.2) (hc : ∀ i, i ≠ o → am_cell G h' i = am_cell G h i) (ho : o < h.2.2.2.1 → va_at G.1 vwCl (G.2.2.1 + o, am_cell G h' o) H1) (hz : H1.size = H.size) (hq : ∀ q : Nat, q ≠ G.2.2.1 + o → H1[q]? = H[q]?) : am_Hp G h' H1 := by
  refine ⟨by rw [hz, hH.1, h2], fun i hi => ?_, fun i hi => ?_, fun i t n hi => ?_⟩
  · rw [h2] at hi
    by_cases e : i = o
    · subst e; exact ho hi
    · rw [hc i e]
      exact (hH.2.1 i hi).kept (hq _ (fun z => e (Nat.add_left_cancel z)))
  · rw [h2] at hi; rw [h1]; exact hH.2.2.1 i hi
  · rw [h1] at hi; exact hH.2.2.2 i t n hi
theorem am_Sput {H H1 : Heap} {locs : List Loc} {o k : Nat} (hS : va_S (am_A G) s.heap H locs) (hz : H1.size = H.size) (hq : ∀ q : Nat, q ≠ G.2.2.1 + o → H1[q]? = H[q]?) : va_S (am_A G) s.heap H1 (locs ++ [⟨G.2.2.1 + o, k⟩]) := hS.put hz hq (Nat.le_add_right _ _)
theorem am_chkF {pc idx k ci : Nat} (hk : am_fl M idx ci = some k) (hchk : am_chk1 M pc (.putfield idx) = true) {r : vw_C} (hr : vwCl[ci]? = some r) : (r.2.1 k).2.2.2 = false ∨ ((am_y M).name = "<init>" ∧ (r.2.1 k).1 = (am_y M).cls) := by
  unfold am_fl at hk
  split at hk
  · rename_i k0 cs hlk
    split at hk
    · rename_i hc
      cases hk
      unfold am_chk1 at hchk
      dsimp only at hchk
      rw [hlk] at hchk
      dsimp only at hchk
      have hm : ci ∈ cs := by simpa using hc
      have := List.all_eq_true.mp hchk ci hm
      rw [hr] at this
      dsimp only at this
      rw [Bool.or_eq_true, Bool.and_eq_true] at this
      rcases this with q | q
      · exact Or.inl (by simpa using q)
      · exact Or.inr ⟨by simpa using q.1, by simpa using q.2⟩
    · cases hk
  · cases hk
set_option maxHeartbeats 4000000 in
theorem am_putW (cx : am_Cx G M tb p s m args meth c) (hM : am_Mok M) {idx pc ci k o : Nat} (hk : am_fl M idx ci = some k) {h h' : am_H} (ho : h.1 o = .inl ci) {v : Value} (hn : narrow (am_ti ci k) v = v) (hfit : fits (am_ti ci k) v = true) (hd : decode (am_cc M) pc = .ok (.putfield idx, 3)) (hchk : am_chk1 M pc (.putfield idx) = true)
    (h1 : h'.1 = h.1) (h2 : h'.2.2.2 = h.2.2.2) (hc : ∀ i, i ≠ o → am_cell G h' i = am_cell G h i) (hco : ∀ j, am_tv G (am_fv h' o ci j) = if j = k then v else am_tv G (am_fv h o ci j))
    {lsC : Array Slot} {H : Heap} {locs : List Loc} {rest : List Value} (hH : am_Hp G h H) (hS : va_S (am_A G) s.heap H locs)
    (kk : ∀ (H1 : Heap) (locs1 : List Loc), am_Hp G h' H1 → va_S (am_A G) s.heap H1 locs1 → W p l e R s m args below meth c H1 locs1 cells slots Z (F0 m (pc + 3) lsC rest)) : W p l e R s m args below meth c H locs cells slots Z (F0 m pc lsC (v :: .ref (G.2.2.1 + o) :: rest)) := by
  obtain ⟨hx, hb, hr, hml, hown, hts, hlocks, hnm, hK, hT, hbase⟩ := cx
  obtain ⟨r, hr1, hkN, hlink⟩ := am_Fof hM hk
  obtain ⟨hlt, cell, q1, q2, q3, q4⟩ := am_obj hH ho hr1
  obtain ⟨hin, hty, hnmx, hlen, -⟩ := am_cls hr1
  have hap := va_apart (own := am_own M) hts hin (am_ti ci) hty hnmx hK hr1
  obtain ⟨hSl, hfc, kC, hkC, hkind⟩ := hK.1 ci _ hr1
  obtain ⟨cf, kf, fi, f, hi, hsl⟩ := hSl k hkN
  have hlay := hts _ (hin _ (u_in_lay hkN))
  have hst := (u_facts hfc hkC (u_lays hts hin hkN) hi).1
  have fin : ∀ H' : Heap, H'[G.2.2.1 + o]? = some (cell.setSlot (G.1.2 ci k) v) → H'.size = H.size → (∀ q : Nat, q ≠ G.2.2.1 + o → H'[q]? = H[q]?) → am_Hp G h' H' := by
    intro H' e1 e2 e3
    refine am_rest hH h1 h2 hc (fun _ => ?_) e2 e3
    have e4 : am_cell G h' o = .inr (ci, (List.range (am_kd.getD ci []).length).map (fun k => am_tv G (am_fv h' o ci k))) := by
      unfold am_cell
      rw [h1, ho]
    rw [e4]
    refine ⟨r, hr1, t_OB.to (V := updV (vp_V ((List.range (am_kd.getD ci []).length).map (fun k => am_tv G (am_fv h o ci k)))) k v) ⟨_, e1, q2, q3, t_set q4 hap hkN v⟩ (fun j hj => ?_)⟩
    have g1 : ∀ hh : am_H, vp_V ((List.range (am_kd.getD ci []).length).map (fun k => am_tv G (am_fv hh o ci k))) j = am_tv G (am_fv hh o ci j) := fun hh => by
      unfold vp_V
      rw [List.getD_eq_getElem?_getD, am_fs_get hr1 hj]
      rfl
    rw [g1, hco]
    unfold updV
    split
    · rfl
    · exact g1 h
  unfold u_lay at hlay
  rcases am_chkF hk hchk hr1 with hf | ⟨hf1, hf2⟩
  · rw [if_neg (by rw [hf]; decide)] at hlay
    have h6 := u_store hfc hkC hkind hlay hi (hty k hkN) hn hfit
    refine W.putK hx hb (f := f) ⟨hown, hts _ hlink, ⟨_, _, _, hi⟩, hst⟩ (by rw [q2]; exact h6) q1 q3 (by rw [hsl]; exact k2_hasslot (q4 k hkN)) rfl rfl hd fun H' e1 e2 e3 => ?_
    rw [hsl] at e1 ⊢
    exact kk H' _ (fin H' e1 e2 e3) (am_Sput hS e2 e3)
  · by_cases hf : (r.2.1 k).2.2.2 = true
    · rw [if_pos hf] at hlay
      have hcf : m.cls = cf := by
        obtain ⟨_, _, c', _, _, _, -, -, hf', -, -, -, hown2, -⟩ := Cond.laysFinal_spec hlay
        have e1 : c' = cf := by have := hi.symm.trans hf'; simp at this; exact this.1.symm
        rw [hf2] at hown2
        rw [← e1]; exact Option.some.inj (hown.symm.trans hown2)
      have h6 := u_fits hfc hkC hkind (Or.inr hlay) hi (hty k hkN) hn hfit
      refine W.putFinK hx hb hown (hts _ hlink) hi hst hcf (hnm.trans hf1) (by rw [q2]; exact h6) q1 q3 (by rw [hsl]; exact k2_hasslot (q4 k hkN)) rfl rfl hd fun H' e1 e2 e3 => ?_
      rw [hsl] at e1 ⊢
      exact kk H' _ (fin H' e1 e2 e3) (am_Sput hS e2 e3)
    · have hf : (r.2.1 k).2.2.2 = false := by simpa using hf
      rw [if_neg (by rw [hf]; decide)] at hlay
      have h6 := u_store hfc hkC hkind hlay hi (hty k hkN) hn hfit
      refine W.putK hx hb (f := f) ⟨hown, hts _ hlink, ⟨_, _, _, hi⟩, hst⟩ (by rw [q2]; exact h6) q1 q3 (by rw [hsl]; exact k2_hasslot (q4 k hkN)) rfl rfl hd fun H' e1 e2 e3 => ?_
      rw [hsl] at e1 ⊢
      exact kk H' _ (fin H' e1 e2 e3) (am_Sput hS e2 e3)
/-- an int written in the abstract heap: which cells change -/
theorem am_cell_u {h : am_H} {o k : Nat} {v : Int32} : ∀ i, i ≠ o → am_cell G (h.1, h.2.1, am_u h.2.2.1 o k v, h.2.2.2) i = am_cell G h i := by
  intro i hi
  have e1 : am_u h.2.2.1 o k v i = h.2.2.1 i := by
    funext j
    unfold am_u
    rw [if_neg (fun q => hi q.1)]
  unfold am_cell am_arrv am_fv
  dsimp only
  rw [e1]
theorem am_cell_r {h : am_H} {o k : Nat} {v : Option Nat} : ∀ i, i ≠ o → am_cell G (h.1, am_ur h.2.1 o k v, h.2.2) i = am_cell G h i := by
  intro i hi
  have e1 : am_ur h.2.1 o k v i = h.2.1 i := by
    funext j
    unfold am_ur
    rw [if_neg (fun q => hi q.1)]
  unfold am_cell am_arrv am_fv
  dsimp only
  rw [e1]
theorem am_fv_u {h : am_H} {o ci k : Nat} {v : Int32} (hk : am_k ci k ≠ 2) (j : Nat) : am_tv G (am_fv (h.1, h.2.1, am_u h.2.2.1 o k v, h.2.2.2) o ci j) = if j = k then .int v else am_tv G (am_fv h o ci j) := by
  unfold am_fv am_u
  dsimp only
  by_cases e : j = k
  · subst e
    have : Nat.beq (am_k ci j) 2 = false := by
      cases q : Nat.beq (am_k ci j) 2
      · rfl
      · exact absurd (Nat.eq_of_beq_eq_true q) hk
    rw [this]
    simp [am_tv]
  · simp [e]
theorem am_fv_r {h : am_H} {o ci k v : Nat} (hk : am_k ci k = 2) (j : Nat) : am_tv G (am_fv (h.1, am_ur h.2.1 o k (some v), h.2.2) o ci j) = if j = k then .ref (G.2.2.1 + v) else am_tv G (am_fv h o ci j) := by
  unfold am_fv am_ur
  dsimp only
  by_cases e : j = k
  · subst e
    rw [hk]
    simp [am_tv, am_vr]
  · simp [e]
set_option maxHeartbeats 4000000 in
theorem am_pf_s (cx : am_Cx G M tb p s m args meth c) (hM : am_Mok M) {idx pc : Nat} (hd : decode (am_cc M) pc = .ok (.putfield idx, 3)) (hchk : am_chk1 M pc (.putfield idx) = true) {ls st ls' st' : List Value} {pc' : Nat} {h h' : am_H} (hs : am_pf M idx pc ls st h = some (pc', ls', st', h')) (K : am_W l G p e R s m args below meth c Z M cells slots pc' ls' st' h') : am_W l G p e R s m args below meth c Z M cells slots pc ls st h := by
  unfold am_pf at hs
  split at hs
  · rename_i v o rest
    split at hs
    · rename_i ci ho
      split at hs
      · rename_i k hk
        split at hs
        · rename_i hk0
          cases hs
          obtain ⟨r, hr1, hkN, hlink⟩ := am_Fof hM hk
          have hty : am_ti ci k = .int := by
            rcases am_kb_of ((am_cls hr1).2.2.2.2 k hkN) with q | q | q
            · exact q.2
            · rw [hk0] at q; cases q.1
            · rw [hk0] at q; cases q.1
          intro lsC H locs hL hH hS
          exact am_putW (h' := (h.1, h.2.1, am_u h.2.2.1 o k v, h.2.2.2)) cx hM hk ho (v := .int v) (by rw [hty]; rfl) (by rw [hty]; rfl) hd hchk rfl rfl am_cell_u (am_fv_u (by rw [hk0]; decide)) hH hS (fun H1 locs1 g1 g2 => K lsC H1 locs1 hL g1 g2)
        · cases hs
      · cases hs
    · cases hs
  · rename_i v o rest
    split at hs
    · rename_i ci ho
      split at hs
      · rename_i k hk
        split at hs
        · rename_i hk0
          have hk0 := Nat.eq_of_beq_eq_true hk0
          cases hs
          obtain ⟨r, hr1, hkN, hlink⟩ := am_Fof hM hk
          have hty : (∃ n, am_ti ci k = .object n) ∨ ∃ n, am_ti ci k = .array n := by
            rcases am_kb_of ((am_cls hr1).2.2.2.2 k hkN) with q | q | q
            · rw [hk0] at q; cases q.1
            · rw [hk0] at q; cases q.1
            · exact q.2
          intro lsC H locs hL hH hS
          exact am_putW (h' := (h.1, am_ur h.2.1 o k (some v), h.2.2)) cx hM hk ho (v := .ref (G.2.2.1 + v)) (by rcases hty with ⟨n, q⟩ | ⟨n, q⟩ <;> rw [q] <;> rfl) (by rcases hty with ⟨n, q⟩ | ⟨n, q⟩ <;> rw [q] <;> rfl) hd hchk rfl rfl am_cell_r (am_fv_r hk0) hH hS (fun H1 locs1 g1 g2 => K lsC H1 locs1 hL g1 g2)
        · cases hs
      · cases hs
    · cases hs
  · cases hs
theorem am_len_s (cx : am_Cx G M tb p s m args meth c) {pc : Nat} (hd : decode (am_cc M) pc = .ok (.arraylength, 1)) {ls st ls' st' : List Value} {pc' : Nat} {h h' : am_H} (htb : h.2.2.2.2 = tb) (hs : am_len pc ls st h = some (pc', ls', st', h')) (K : am_W l G p e R s m args below meth c Z M cells slots pc' ls' st' h') : am_W l G p e R s m args below meth c Z M cells slots pc ls st h := by
  obtain ⟨hx, hb, hr, hml, hown, hts, hlocks, hnm, hK, hT, hbase⟩ := cx
  unfold am_len at hs
  split at hs
  · rename_i o rest
    split at hs
    · rename_i q ho
      obtain ⟨t, n⟩ := q
      cases hs
      intro lsC H locs hL hH hS
      obtain ⟨hlt, hcell⟩ := am_ary hH ho
      obtain ⟨ty, ha⟩ := am_isArr (h := h) (o := o) (n := n) hK (hH.2.2.2 o t n ho)
      exact W.alen hx hb hcell ha (by rw [am_csz]) rfl rfl hd (K lsC H locs hL hH hS)
    · cases hs
  · rename_i j rest
    split at hs
    · rename_i hj
      cases hs
      intro lsC H locs hL hH hS
      subst htb
      exact va_tlen hx hb (hT.1 j (Nat.le_of_ble_eq_true hj)) hS rfl hd (K lsC H locs hL hH hS)
    · cases hs
  · cases hs
set_option maxHeartbeats 16000000 in
/-- A STEP THAT ASKS NOTHING -/
theorem am_step_s (cx : am_Cx G M tb p s m args meth c) (hM : am_Mok M) {i : Instr} {len pc : Nat} (hd : decode (am_cc M) pc = .ok (i, len)) (hchk : am_chk1 M pc i = true) (hl0 : am_elen i = 0 ∨ len = am_elen i) {ls st ls' st' : List Value} {pc' : Nat} {h h' : am_H} (htb : h.2.2.2.2 = tb) (hs : am_step M i pc ls st h = some (pc', ls', st', h')) (K : am_W l G p e R s m args below meth c Z M cells slots pc' ls' st' h') : am_W l G p e R s m args below meth c Z M cells slots pc ls st h := by
  have cx0 := cx
  obtain ⟨hx, hb, hr, hml, hown, hts, hlocks, hnm, hK, hT, hbase⟩ := cx
  have hlen : am_elen i ≠ 0 → len = am_elen i := fun q => hl0.resolve_left q
  clear hl0
  unfold am_step at hs
  split at hs
  · rename_i k
    obtain rfl := hlen (Nat.succ_ne_zero _)
    unfold am_il at hs
    split at hs
    · rename_i x hl
      cases hs
      intro lsC H locs hL hH hS
      exact lv_iload_n hx hb hd rfl (hL.2.2.2 _ _ hl rfl) (K lsC H locs hL hH hS)
    · cases hs
  · rename_i k
    obtain rfl := hlen (Nat.succ_ne_zero _)
    unfold am_il at hs
    split at hs
    · rename_i x hl
      cases hs
      intro lsC H locs hL hH hS
      exact lv_iload hx hb hd (hL.2.2.2 _ _ hl rfl) (K lsC H locs hL hH hS)
    · cases hs
  · rename_i k
    obtain rfl := hlen (Nat.succ_ne_zero _)
    unfold am_al at hs
    split at hs
    · rename_i x hl
      cases hs
      intro lsC H locs hL hH hS
      exact lv_aload_n hx hb hd rfl (hL.2.2.2 _ _ hl rfl) (K lsC H locs hL hH hS)
    · rename_i x hl
      cases hs
      intro lsC H locs hL hH hS
      exact lv_aload_n hx hb hd rfl (hL.2.2.2 _ _ hl rfl) (K lsC H locs hL hH hS)
    · rename_i hl
      cases hs
      intro lsC H locs hL hH hS
      exact lv_aload_nN hx hb hd rfl (hL.2.2.2 _ _ hl rfl) (K lsC H locs hL hH hS)
    · cases hs
  · rename_i k
    obtain rfl := hlen (Nat.succ_ne_zero _)
    unfold am_al at hs
    split at hs
    · rename_i x hl
      cases hs
      intro lsC H locs hL hH hS
      exact lv_aload hx hb hd (hL.2.2.2 _ _ hl rfl) (K lsC H locs hL hH hS)
    · rename_i x hl
      cases hs
      intro lsC H locs hL hH hS
      exact lv_aload hx hb hd (hL.2.2.2 _ _ hl rfl) (K lsC H locs hL hH hS)
    · rename_i hl
      cases hs
      intro lsC H locs hL hH hS
      exact lv_aloadN hx hb hd (hL.2.2.2 _ _ hl rfl) (K lsC H locs hL hH hS)
    · cases hs
  · rename_i k
    obtain rfl := hlen (Nat.succ_ne_zero _)
    unfold am_is at hs
    split at hs
    · rename_i x rest
      split at hs
      · rename_i hn
        cases hs
        intro lsC H locs hL hH hS
        have hn : k.val < am_ml M := by rw [← hL.2.2.1]; exact Nat.le_of_ble_eq_true hn
        exact lv_istore_n hx hb hd rfl hL.has hn rfl (fun ls' hl => K ls' H locs (hL.set hn rfl hl) hH hS)
      · cases hs
    · cases hs
  · rename_i k
    obtain rfl := hlen (Nat.succ_ne_zero _)
    unfold am_is at hs
    split at hs
    · rename_i x rest
      split at hs
      · rename_i hn
        cases hs
        intro lsC H locs hL hH hS
        have hn : k < am_ml M := by rw [← hL.2.2.1]; exact Nat.le_of_ble_eq_true hn
        exact lv_istore hx hb hd hL.has hn rfl (fun ls' hl => K ls' H locs (hL.set hn rfl hl) hH hS)
      · cases hs
    · cases hs
  · rename_i k
    obtain rfl := hlen (Nat.succ_ne_zero _)
    unfold am_as at hs
    split at hs
    · rename_i x rest
      split at hs
      · rename_i hn
        cases hs
        intro lsC H locs hL hH hS
        have hn : k.val < am_ml M := by rw [← hL.2.2.1]; exact Nat.le_of_ble_eq_true hn
        exact lv_astore_n hx hb hd rfl hL.has hn rfl (fun ls' hl => K ls' H locs (hL.set (v := .ref x) hn rfl hl) hH hS)
      · cases hs
    · rename_i x rest
      split at hs
      · rename_i hn
        cases hs
        intro lsC H locs hL hH hS
        have hn : k.val < am_ml M := by rw [← hL.2.2.1]; exact Nat.le_of_ble_eq_true hn
        exact lv_astore_n hx hb hd rfl hL.has hn rfl (fun ls' hl => K ls' H locs (hL.set (v := .retAddr x) hn rfl hl) hH hS)
      · cases hs
    · rename_i rest
      split at hs
      · rename_i hn
        cases hs
        intro lsC H locs hL hH hS
        have hn : k.val < am_ml M := by rw [← hL.2.2.1]; exact Nat.le_of_ble_eq_true hn
        exact lv_astore_nN hx hb hd rfl hL.has hn rfl (fun ls' hl => K ls' H locs (hL.set (v := .null) hn rfl hl) hH hS)
      · cases hs
    · cases hs
  · rename_i k
    obtain rfl := hlen (Nat.succ_ne_zero _)
    unfold am_as at hs
    split at hs
    · rename_i x rest
      split at hs
      · rename_i hn
        cases hs
        intro lsC H locs hL hH hS
        have hn : k < am_ml M := by rw [← hL.2.2.1]; exact Nat.le_of_ble_eq_true hn
        exact lv_astore hx hb hd hL.has hn rfl (fun ls' hl => K ls' H locs (hL.set (v := .ref x) hn rfl hl) hH hS)
      · cases hs
    · rename_i x rest
      split at hs
      · rename_i hn
        cases hs
        intro lsC H locs hL hH hS
        have hn : k < am_ml M := by rw [← hL.2.2.1]; exact Nat.le_of_ble_eq_true hn
        exact lv_astore hx hb hd hL.has hn rfl (fun ls' hl => K ls' H locs (hL.set (v := .retAddr x) hn rfl hl) hH hS)
      · cases hs
    · rename_i rest
      split at hs
      · rename_i hn
        cases hs
        intro lsC H locs hL hH hS
        have hn : k < am_ml M := by rw [← hL.2.2.1]; exact Nat.le_of_ble_eq_true hn
        exact lv_astoreN hx hb hd hL.has hn rfl (fun ls' hl => K ls' H locs (hL.set (v := .null) hn rfl hl) hH hS)
      · cases hs
    · cases hs
  · rename_i k n
    obtain rfl := hlen (Nat.succ_ne_zero _)
    unfold am_ii at hs
    split at hs
    · rename_i x hl
      cases hs
      intro lsC H locs hL hH hS
      have hn : k < am_ml M := by rw [← hL.2.2.1]; exact (List.getElem?_eq_some_iff.mp hl).1
      obtain ⟨k0, hk0⟩ := List.getElem?_of_mem (am_ll_mem (G := G) hl rfl)
      exact lv_iinc hx hb hd hL.has hk0 rfl hn rfl (fun ls' hl2 => K ls' H locs (hL.set hn rfl hl2) hH hS)
    · cases hs
  · obtain rfl := hlen (Nat.succ_ne_zero _)
    cases hs
    intro lsC H locs hL hH hS
    exact lv_iconst hx hb hd rfl (K lsC H locs hL hH hS)
  · obtain rfl := hlen (Nat.succ_ne_zero _)
    cases hs
    intro lsC H locs hL hH hS
    exact lv_bipush hx hb hd rfl (K lsC H locs hL hH hS)
  · obtain rfl := hlen (Nat.succ_ne_zero _)
    cases hs
    intro lsC H locs hL hH hS
    exact lv_sipush hx hb hd rfl (K lsC H locs hL hH hS)
  · obtain rfl := hlen (Nat.succ_ne_zero _)
    unfold am_ldc at hs
    split at hs
    · rename_i v hl
      cases hs
      intro lsC H locs hL hH hS
      exact lv_ldc hx hb hown (hts _ (hM.2.2.2.2.1 _ (am_lk_mem hl))) hd (K lsC H locs hL hH hS)
    · cases hs
  · obtain rfl := hlen (Nat.succ_ne_zero _)
    unfold am_ldc at hs
    split at hs
    · rename_i v hl
      cases hs
      intro lsC H locs hL hH hS
      exact lv_ldcw hx hb hown (hts _ (hM.2.2.2.2.1 _ (am_lk_mem hl))) hd (K lsC H locs hL hH hS)
    · cases hs
  · obtain rfl := hlen (Nat.succ_ne_zero _)
    cases hs
    intro lsC H locs hL hH hS
    exact lv_null hx hb hd (K lsC H locs hL hH hS)
  · obtain rfl := hlen (Nat.succ_ne_zero _)
    unfold am_dup at hs
    split at hs
    · cases hs
      intro lsC H locs hL hH hS
      exact lv_dup hx hb hd rfl (K lsC H locs hL hH hS)
    · cases hs
      intro lsC H locs hL hH hS
      exact lv_dup hx hb hd rfl (K lsC H locs hL hH hS)
    · cases hs
  · obtain rfl := hlen (Nat.succ_ne_zero _)
    unfold am_dup2 at hs
    split at hs
    · cases hs
      intro lsC H locs hL hH hS
      exact lv_dup2_11 hx hb hd rfl rfl (K lsC H locs hL hH hS)
    · cases hs
  · obtain rfl := hlen (Nat.succ_ne_zero _)
    unfold am_pop at hs
    split at hs
    · cases hs
      intro lsC H locs hL hH hS
      exact lv_pop hx hb hd rfl (K lsC H locs hL hH hS)
    · cases hs
      intro lsC H locs hL hH hS
      exact lv_pop hx hb hd rfl (K lsC H locs hL hH hS)
    · cases hs
  · obtain rfl := hlen (Nat.succ_ne_zero _)
    unfold am_bin at hs
    split at hs
    · cases hs
      intro lsC H locs hL hH hS
      exact lv_iadd hx hb hd (K lsC H locs hL hH hS)
    · cases hs
  · obtain rfl := hlen (Nat.succ_ne_zero _)
    unfold am_bin at hs
    split at hs
    · cases hs
      intro lsC H locs hL hH hS
      exact lv_isub hx hb hd (K lsC H locs hL hH hS)
    · cases hs
  · obtain rfl := hlen (Nat.succ_ne_zero _)
    unfold am_bin at hs
    split at hs
    · cases hs
      intro lsC H locs hL hH hS
      exact lv_imul hx hb hd (K lsC H locs hL hH hS)
    · cases hs
  · obtain rfl := hlen (Nat.succ_ne_zero _)
    unfold am_bin at hs
    split at hs
    · cases hs
      intro lsC H locs hL hH hS
      exact lv_iand hx hb hd (K lsC H locs hL hH hS)
    · cases hs
  · obtain rfl := hlen (Nat.succ_ne_zero _)
    unfold am_bin at hs
    split at hs
    · cases hs
      intro lsC H locs hL hH hS
      exact lv_ior hx hb hd (K lsC H locs hL hH hS)
    · cases hs
  · obtain rfl := hlen (Nat.succ_ne_zero _)
    unfold am_bin at hs
    split at hs
    · cases hs
      intro lsC H locs hL hH hS
      exact lv_ixor hx hb hd (K lsC H locs hL hH hS)
    · cases hs
  · obtain rfl := hlen (Nat.succ_ne_zero _)
    unfold am_bin at hs
    split at hs
    · cases hs
      intro lsC H locs hL hH hS
      exact lv_ishl hx hb hd (K lsC H locs hL hH hS)
    · cases hs
  · obtain rfl := hlen (Nat.succ_ne_zero _)
    unfold am_bin at hs
    split at hs
    · cases hs
      intro lsC H locs hL hH hS
      exact lv_ishr hx hb hd (K lsC H locs hL hH hS)
    · cases hs
  · obtain rfl := hlen (Nat.succ_ne_zero _)
    unfold am_bin at hs
    split at hs
    · cases hs
      intro lsC H locs hL hH hS
      exact lv_iushr hx hb hd rfl (K lsC H locs hL hH hS)
    · cases hs
  · obtain rfl := hlen (Nat.succ_ne_zero _)
    unfold am_neg at hs
    split at hs
    · cases hs
      intro lsC H locs hL hH hS
      exact lv_ineg hx hb hd (K lsC H locs hL hH hS)
    · cases hs
  · obtain rfl := hlen (Nat.succ_ne_zero _)
    exact am_if_s cx0 hd hchk hs K
  · obtain rfl := hlen (Nat.succ_ne_zero _)
    exact am_ic_s cx0 hd hchk hs K
  · obtain rfl := hlen (Nat.succ_ne_zero _)
    unfold am_nn at hs
    split at hs
    · cases hs
      intro lsC H locs hL hH hS
      exact lv_ifnull hx hb hd (K lsC H locs hL hH hS)
    · cases hs
      intro lsC H locs hL hH hS
      exact lv_ifnullN hx hb hd (am_tgt hchk) (K lsC H locs hL hH hS)
    · cases hs
  · obtain rfl := hlen (Nat.succ_ne_zero _)
    unfold am_nn at hs
    split at hs
    · cases hs
      intro lsC H locs hL hH hS
      exact lv_ifnonnull hx hb hd (am_tgt hchk) (K lsC H locs hL hH hS)
    · cases hs
      intro lsC H locs hL hH hS
      exact lv_ifnonnullN hx hb hd (K lsC H locs hL hH hS)
    · cases hs
  · obtain rfl := hlen (Nat.succ_ne_zero _)
    cases hs
    intro lsC H locs hL hH hS
    exact lv_goto hx hb hd (am_tgt hchk) (K lsC H locs hL hH hS)
  · exact am_ts_s cx0 hd hchk hs K
  · exact am_lsw_s cx0 hd hchk hs K
  · obtain rfl := hlen (Nat.succ_ne_zero _)
    exact am_gf_s cx0 hM hd hs K
  · obtain rfl := hlen (Nat.succ_ne_zero _)
    unfold am_gs at hs
    split at hs
    · rename_i j hj
      cases hs
      intro lsC H locs hL hH hS
      obtain ⟨z, hz, hlink⟩ := hM.2.2.2.2.2 _ (am_lk_mem hj)
      exact va_gets hx hb (hT.2 j z hz) hS hown (hts _ hlink) (fun _ h9 => h9) hd (K lsC H locs hL hH hS)
    · cases hs
  · obtain rfl := hlen (Nat.succ_ne_zero _)
    exact am_len_s cx0 hd htb hs K
  · obtain rfl := hlen (Nat.succ_ne_zero _)
    exact am_pf_s cx0 hM hd hchk hs K
  · cases hs
end AMT
end
section
section AMU
variable {l : Launch} {G : am_G} {p : Program} {e : Env} {R : Room} {s : State} {m : MethodId} {args : Array Value} {below : List Frame} {meth : Method} {c : Code} {Z : State → Prop} {M : am_M} {cells slots : Nat} {tb : Nat → Nat × (Nat → Int32)}
theorem am_one {D : va_G} {cl : List vw_C} {q : Nat × va_E} {H : Heap} (h : va_at D cl q H) : va_P D cl [q] H := fun k z hz => by
  cases k with
  | zero => cases hz; exact h
  | succ k => simp at hz
theorem am_tv_vr (G : am_G) (x : Option Nat) : am_tv G (am_vr x) = va_rf (x.map (fun q => G.2.2.1 + q)) := by cases x <;> rfl
theorem am_lt {x : Int32} {n : Nat} (h : vp_in x n) : x.toNatClampNeg < n := Nat.not_le.mp fun q => h (Or.inr q)
theorem am_cell_st {h : am_H} {o t n k : Nat} {v : Int32} (ho : h.1 o = .inr (t, n)) (ht : Nat.beq t 2 = false) : am_cell G (h.1, h.2.1, am_u h.2.2.1 o k v, h.2.2.2) o = .inl (G.2.1 t, n, .inl (upd (h.2.2.1 o) k v)) := by
  unfold am_cell am_arrv
  dsimp only
  rw [ho]
  dsimp only
  rw [ht]
  dsimp only
  have e1 : am_u h.2.2.1 o k v o = upd (h.2.2.1 o) k v := by
    funext j
    unfold am_u upd
    simp
  rw [e1]
theorem am_upd_cell {cA : ClassId} {n k : Nat} {f : Nat → Int32} {v : Int32} : (vp_cell cA (n, .inl f)).setSlot k (.int v) = vp_cell cA (n, .inl (upd f k v)) := by
  show (arrV cA n (fun j => .int (f j))).setSlot k (.int v) = arrV cA n (fun j => .int (upd f k v j))
  rw [arrV_store]
  refine congrArg (arrV cA n) (funext fun j => ?_)
  unfold updV upd
  split <;> rfl
set_option maxHeartbeats 16000000 in
/-- A STEP THAT ASKS SOMETHING -/
theorem am_mem_s (cx : am_Cx G M tb p s m args meth c) (hM : am_Mok M) {i : Instr} {len pc : Nat} (hd : decode (am_cc M) pc = .ok (i, len)) (hchk : am_chk1 M pc i = true) (hl0 : am_elen i = 0 ∨ len = am_elen i) {P : Prop} {ls st ls' st' : List Value} {pc' : Nat} {h h' : am_H} (htb : h.2.2.2.2 = tb) (hs : am_mem M i pc ls st h = some (P, pc', ls', st', h')) (hP : P) (K : am_W l G p e R s m args below meth c Z M cells slots pc' ls' st' h') : am_W l G p e R s m args below meth c Z M cells slots pc ls st h := by
  have cx0 := cx
  obtain ⟨hx, hb, hr, hml, hown, hts, hlocks, hnm, hK, hT, hbase⟩ := cx
  have hlen : am_elen i ≠ 0 → len = am_elen i := fun q => hl0.resolve_left q
  clear hl0
  unfold am_mem at hs
  split at hs
  · obtain rfl := hlen (Nat.succ_ne_zero _)
    split at hs
    · rename_i x o rest
      split at hs
      · rename_i n ho
        cases hs
        intro lsC H locs hL hH hS
        exact va_iald hx hb hK (am_one (q := (G.2.2.1 + o, .inl (G.2.1 0, n, .inl (h.2.2.1 o)))) (am_ary hH ho).2) 0 0 rfl rfl hP hd (K lsC H locs hL hH hS)
      · cases hs
    · rename_i x j rest
      split at hs
      · rename_i hj
        cases hs
        intro lsC H locs hL hH hS
        subst htb
        exact va_ti hx hb (hT.1 j (Nat.le_of_ble_eq_true hj)) hS hP rfl hd (K lsC H locs hL hH hS)
      · cases hs
    · cases hs
  · obtain rfl := hlen (Nat.succ_ne_zero _)
    split at hs
    · rename_i x o rest
      split at hs
      · rename_i n ho
        cases hs
        intro lsC H locs hL hH hS
        exact va_zald hx hb hK (am_one (q := (G.2.2.1 + o, .inl (G.2.1 1, n, .inl (h.2.2.1 o)))) (am_ary hH ho).2) 0 1 rfl rfl hP hd (K lsC H locs hL hH hS)
      · cases hs
    · cases hs
  · obtain rfl := hlen (Nat.succ_ne_zero _)
    split at hs
    · rename_i x o rest
      split at hs
      · rename_i n ho
        cases hs
        intro lsC H locs hL hH hS
        obtain ⟨hlt, hcell⟩ := am_ary hH ho
        have K1 := K lsC H locs hL hH hS
        rw [List.map_cons, am_tv_vr] at K1
        have hcell : H[G.2.2.1 + o]? = some (arrV (G.2.1 2) n (fun j => va_rf ((h.2.1 o j).map (fun q => G.2.2.1 + q)))) := hcell
        exact W.aald hx hb hcell ((hK.2 2 _ rfl).1 n _) rfl (fun q => by cases q) (by rw [arrV_size]; exact hP) (arrV_read _ _ (am_lt hP)) rfl rfl hd K1
      · cases hs
    · cases hs
  · obtain rfl := hlen (Nat.succ_ne_zero _)
    split at hs
    · rename_i v x o rest
      split at hs
      · rename_i n ho
        cases hs
        intro lsC H locs hL hH hS
        obtain ⟨hlt, hcell⟩ := am_ary hH ho
        have hcell : H[G.2.2.1 + o]? = some (vp_cell (G.2.1 0) (n, .inl (h.2.2.1 o))) := hcell
        refine W.iast hx hb hcell ((hK.2 0 _ rfl).1 n _) (fun q => by cases q) (by show ¬ (x < 0 ∨ (arrV _ n _).slots.size ≤ _); rw [arrV_size]; exact hP) rfl rfl hd (fun H1 e1 e2 e3 => ?_)
        rw [am_upd_cell] at e1
        exact K lsC H1 _ hL (am_rest hH rfl rfl am_cell_u (fun _ => by rw [am_cell_st ho rfl]; exact e1) e2 e3) (am_Sput hS e2 e3)
      · cases hs
    · cases hs
  · obtain rfl := hlen (Nat.succ_ne_zero _)
    split at hs
    · rename_i v x o rest
      split at hs
      · rename_i n ho
        cases hs
        intro lsC H locs hL hH hS
        obtain ⟨hlt, hcell⟩ := am_ary hH ho
        have hcell : H[G.2.2.1 + o]? = some (vp_cell (G.2.1 1) (n, .inl (h.2.2.1 o))) := hcell
        refine W.zast hx hb hcell ((hK.2 1 _ rfl).1 n _) (fun q => by cases q) (by show ¬ (x < 0 ∨ (arrV _ n _).slots.size ≤ _); rw [arrV_size]; exact hP) rfl rfl hd (fun H1 e1 e2 e3 => ?_)
        have e1 : H1[G.2.2.1 + o]? = some ((vp_cell (G.2.1 1) (n, .inl (h.2.2.1 o))).setSlot x.toNatClampNeg (.int (v &&& 1))) := e1
        rw [am_upd_cell] at e1
        exact K lsC H1 _ hL (am_rest hH rfl rfl am_cell_u (fun _ => by rw [am_cell_st ho rfl]; exact e1) e2 e3) (am_Sput hS e2 e3)
      · cases hs
    · cases hs
  · obtain rfl := hlen (Nat.succ_ne_zero _)
    split at hs
    · cases hs
      intro lsC H locs hL hH hS
      exact lv_idiv hx hb hd hP (K lsC H locs hL hH hS)
    · cases hs
  · obtain rfl := hlen (Nat.succ_ne_zero _)
    split at hs
    · cases hs
      intro lsC H locs hL hH hS
      exact lv_irem hx hb hd hP (K lsC H locs hL hH hS)
    · cases hs
  · obtain rfl := hlen (Nat.succ_ne_zero _)
    split at hs
    · rename_i v o rest
      split at hs
      · rename_i ci ho
        split at hs
        · rename_i k hk
          split at hs
          · rename_i hk0
            cases hs
            obtain ⟨r, hr1, hkN, hlink⟩ := am_Fof hM hk
            have hty : am_ti ci k = .boolean := by
              rcases am_kb_of ((am_cls hr1).2.2.2.2 k hkN) with q | q | q
              · rw [hk0] at q; cases q.1
              · exact q.2
              · rw [hk0] at q; cases q.1
            intro lsC H locs hL hH hS
            exact am_putW (h' := (h.1, h.2.1, am_u h.2.2.1 o k v, h.2.2.2)) cx0 hM hk ho (v := .int v) (by rw [hty]; rcases hP with rfl | rfl <;> rfl) (by rw [hty]; rcases hP with rfl | rfl <;> rfl) hd hchk rfl rfl am_cell_u (am_fv_u (by rw [hk0]; decide)) hH hS (fun H1 locs1 g1 g2 => K lsC H1 locs1 hL g1 g2)
          · cases hs
        · cases hs
      · cases hs
    · cases hs
  · cases hs
/-! calls -/
def am_Qc (G : am_G) (tb : Nat → Nat × (Nat → Int32)) (Q : am_Q) : Array Value → State → Outcome → State → Prop := fun _ st o t => (∃ (r : Option Value) (h1 : am_H), o = .returned (r.map (am_tv G)) ∧ Q r h1 ∧ am_Hp G h1 t.heap ∧ h1.2.2.2.2 = tb) ∧ va_F (am_A G) st t
def am_Pc (G : am_G) (tb : Nat → Nat × (Nat → Int32)) (h : am_H) (as : List Value) : Array Value → State → Prop := fun v U => v = (as.map (am_tv G)).toArray ∧ am_Hp G h U.heap ∧ va_K G.1 vwCl (am_tys G) U ∧ am_T G tb U
theorem am_T.to {U : State} {H : Heap} {locs : List Loc} (h : am_T G tb s) (hS : va_S (am_A G) s.heap H locs) (hU : U.heap = H) (hvm : s.vm.Alike U.vm) : am_T G tb U := by
  refine ⟨fun j hj => ?_, fun j z hz => ?_⟩
  · exact va_T.moved hvm (by rw [hU]; exact (h.1 j hj).kept (fun a h1 h2 => hS.2.1 a h1 h2))
  · exact va_Z.moved hvm (by rw [hU]; exact (h.2 j z hz).kept (fun a h1 h2 => hS.2.1 a h1 h2))
theorem am_blind {h : am_H} {as : List Value} : FrameBlind (am_Pc G tb h as) := by
  intro a U g mk ⟨q1, q2, q3, q4⟩
  refine ⟨q1, q2, va_K.moved (u := U) (U := U.calling g mk a) (Vm.Alike.refl U.vm) q3, ⟨fun j hj => va_T.moved (u := U) (U := U.calling g mk a) (Vm.Alike.refl U.vm) (q4.1 j hj), fun j z hz => va_Z.moved (u := U) (U := U.calling g mk a) (Vm.Alike.refl U.vm) (q4.2 j z hz)⟩⟩
theorem am_call {pc : Nat} {lsC : Array Slot} {rest st0 : List Value} {a : Array Value} {H : Heap} {locs : List Loc} {mc ms : Nat} {Q1 : am_Q} (hr : va_Run p l e R s m args below meth c H locs cells slots mc ms (F0 m pc lsC st0) rest (am_Qc G tb Q1 a) (am_A G)) (hS : va_S (am_A G) s.heap H locs)
    (kk : ∀ (r : Option Value) (h1 : am_H) (H1 : Heap) (locs1 : List Loc), Q1 r h1 → am_Hp G h1 H1 → h1.2.2.2.2 = tb → va_S (am_A G) s.heap H1 locs1 → W p l e R s m args below meth c H1 locs1 (cells + mc) (slots + ms) Z (F0 m (pc + 3) lsC ((r.map (am_tv G)).toList ++ rest))) : W p l e R s m args below meth c H locs cells slots Z (F0 m pc lsC st0) := by
  intro T hT X
  obtain ⟨v, st₀, t, T', L, h0, X', hL, e1, e2, ⟨⟨r, h1, hv, hq, hH1, htb⟩, hz, hk⟩, st⟩ := hr T hT X
  have hv : v = r.map (am_tv G) := by injection hv
  rw [h0] at hz hk
  subst hv
  obtain ⟨t2, a1, b1⟩ := kk r h1 T'.heap (locs ++ L) hq (by rw [e1]; exact hH1) htb
    ⟨Nat.le_trans hS.1 (by rw [e1]; exact hz), fun q g1 g2 => by rw [e1, hk q (Nat.lt_of_lt_of_le g1 hS.1) g2]; exact hS.2.1 q g1 g2, fun q hq => by
      rcases List.mem_append.mp hq with h | h
      · exact hS.2.2 q h
      · exact hL q h⟩ T' rfl X'
  exact ⟨t2, st t2 a1, b1⟩
theorem am_sl : ∀ (vs : List Value), (∀ v ∈ vs, v.category = 1) → (lg_sl vs).length = vs.length
  | [], _ => rfl
  | v :: vs, h => by
    have h1 := h v List.mem_cons_self
    have e : lg_sl (v :: vs) = [Slot.val v] ++ lg_sl vs := by
      unfold lg_sl
      rw [List.flatMap_cons, if_neg (by rw [h1]; decide)]
    rw [e, List.length_append, am_sl vs (fun w hw => h w (List.mem_cons_of_mem _ hw))]
    simp
    omega
theorem am_args : ∀ (vs : List Value) (k i : Nat) (v : Value), (∀ v ∈ vs, v.category = 1) → vs[i]? = some v → (k + i, v) ∈ lv_args k vs
  | [], _, _, _, _, h => by simp at h
  | w :: vs, k, i, v, hc, h => by
    unfold lv_args
    cases i with
    | zero => cases h; exact List.mem_cons_self
    | succ i =>
      rw [if_neg (by rw [hc w List.mem_cons_self]; decide)]
      have := am_args vs (k + 1) i v (fun w hw => hc w (List.mem_cons_of_mem _ hw)) h
      rw [show k + (i + 1) = k + 1 + i by omega]
      exact List.mem_cons_of_mem _ this
theorem am_met {M' : am_M} (hM' : am_Mok M') {as : List Value} {h : am_H} {Q1 : am_Q} (hc : ∀ v ∈ as, v.category = 1) (hn : as.length ≤ am_ml M')
    (hX : ∀ (p : Program) (e : Env) (s : State) (m : MethodId) (args : Array Value) (below : List Frame) (meth : Method) (c : Code), am_Cx G M' tb p s m args meth c → am_W l G p e (am_rm M') s m args below meth c (MQ below (am_Qc G tb Q1) args s (am_rm M').cells (am_rm M').slots (am_A G)) M' 0 0 0 (am_ent M' as) [] h) :
    Met l (am_y M') (am_word M' :: lw_g) (am_rm M') (am_Pc G tb h as) (am_Qc G tb Q1) (am_rm M').cells (am_rm M').slots (am_A G) := by
  refine Met.ofW (cc := am_cc M') (maxL := am_ml M') (ret := am_ret M') hM'.1 rfl ?_
  intro p e s m args below meth c s₁ B hml hv
  obtain ⟨rfl, hH, hK, hT⟩ := hv
  have hts := atoms_spec (ws := am_word M' :: lw_g) B.pre
  have hown : s.vm.findClass (am_own M') = some m.cls := findClass_of_methodNamed B.named
  have W0 := hX p e s m _ below meth c ⟨B.exec, B.bytes, B.returns, hml, hown, fun w hw => hts w (List.mem_cons_of_mem _ hw), B.notSynchronized, (name_of_methodNamed B.named B.method).1, hK, hT, by rw [hH.1]; exact Nat.le_add_right _ _⟩
  have hc' : ∀ v ∈ as.map (am_tv G), v.category = 1 := fun v hv => by
    obtain ⟨w, hw, rfl⟩ := List.mem_map.mp hv
    exact am_tv_cat G w (hc w hw)
  have hl := lv_entry (as.map (am_tv G)) (n := am_ml M') (by rw [am_sl _ hc', List.length_map]; exact hn)
  rw [lg_entry_eq]
  refine W0 _ s.heap [] ⟨hl.1, hl.2.1, ?_, fun i v hi hv => ?_⟩ hH va_S.rf
  · unfold am_ent
    rw [List.length_append, List.length_replicate]
    omega
  · unfold am_ent at hi
    by_cases hlt : i < as.length
    · rw [List.getElem?_append_left hlt] at hi
      have := am_args (as.map (am_tv G)) 0 i (am_tv G v) hc' (by rw [List.getElem?_map, hi]; rfl)
      rw [Nat.zero_add] at this
      exact hl.2.2 _ this
    · rw [List.getElem?_append_right (by omega)] at hi
      have := List.eq_of_mem_replicate (List.mem_of_getElem? hi)
      rw [this] at hv
      cases hv
end AMU
end
section
section AMV
variable {l : Launch} {G : am_G} {p : Program} {e : Env} {R : Room} {s : State} {m : MethodId} {args : Array Value} {below : List Frame} {meth : Method} {c : Code} {Z : State → Prop} {M : am_M} {cells slots : Nat} {tb : Nat → Nat × (Nat → Int32)}
theorem am_iaI : am_in (.arrayClass .int) := by unfold am_in; decide +kernel
theorem am_iaZ : am_in (.arrayClass .boolean) := by unfold am_in; decide +kernel
theorem am_iaO : am_in (.arrayOver (.array .int)) := by unfold am_in; decide +kernel
theorem am_ioI : am_in (.instanceMethod objectInit) := by unfold am_in; decide +kernel
theorem am_ioC : am_in (.code objectInit ⟨#[0xb1]⟩ 1 none) := by unfold am_in; decide +kernel
theorem am_icN : am_in (.native arraycopyName) := by unfold am_in; decide +kernel
theorem am_icS : am_in (.static arraycopyName) := by unfold am_in; decide +kernel
theorem am_icI : am_in (.initialized "java/lang/System") := by unfold am_in; decide +kernel
/-- a new cell at the end -/
theorem am_Hnew {h : am_H} {H H1 : Heap} {sp : am_S} (hH : am_Hp G h H) (hz : H1.size = H.size + 1) (hq : ∀ q, q < H.size → H1[q]? = H[q]?) (hnew : va_at G.1 vwCl (G.2.2.1 + h.2.2.2.1, am_cell G (am_new h sp) h.2.2.2.1) H1) (ht : ∀ t n, sp = .inr (t, n) → t < 3) : am_Hp G (am_new h sp) H1 := by
  refine ⟨by rw [hz, hH.1]; rfl, fun i hi => ?_, fun i hi => ?_, fun i t n hi => ?_⟩
  · have hi : i < h.2.2.2.1 + 1 := hi
    by_cases e : i = h.2.2.2.1
    · subst e; exact hnew
    · have hc : am_cell G (am_new h sp) i = am_cell G h i := by
        have e1 : am_us h.1 h.2.2.2.1 sp i = h.1 i := by unfold am_us; rw [if_neg e]
        have e2 : am_rz h.2.1 h.2.2.2.1 i = h.2.1 i := by funext j; unfold am_rz; rw [if_neg e]
        have e3 : am_dz h.2.2.1 h.2.2.2.1 i = h.2.2.1 i := by funext j; unfold am_dz; rw [if_neg e]
        unfold am_cell am_arrv am_fv am_new
        dsimp only
        rw [e1, e2, e3]
      rw [hc]
      exact (hH.2.1 i (by omega)).kept (hq _ (by show G.2.2.1 + i < H.size; rw [hH.1]; omega))
  · have hi : h.2.2.2.1 + 1 ≤ i := hi
    show am_us h.1 h.2.2.2.1 sp i = _
    unfold am_us
    rw [if_neg (by omega)]
    exact hH.2.2.1 i (by omega)
  · have hi : am_us h.1 h.2.2.2.1 sp i = .inr (t, n) := hi
    unfold am_us at hi
    split at hi
    · exact ht t n hi
    · exact hH.2.2.2 i t n hi
theorem am_Snew {H H1 : Heap} {locs : List Loc} (hS : va_S (am_A G) s.heap H locs) (hz : H.size ≤ H1.size) (hq : ∀ q, q < H.size → H1[q]? = H[q]?) : va_S (am_A G) s.heap H1 locs := ⟨Nat.le_trans hS.1 hz, fun x h1 h2 => (hq x (Nat.lt_of_lt_of_le h1 hS.1)).trans (hS.2.1 x h1 h2), hS.2.2⟩
set_option maxHeartbeats 4000000 in
theorem am_new_s (cx : am_Cx G M tb p s m args meth c) {idx pc ci : Nat} {r : vw_C} (hr1 : vwCl[ci]? = some r) (h1 : am_in (.classLink (am_own M) idx r.1)) (h2 : am_in (.instantiable r.1 r.2.2)) (h3 : am_in (.initialized r.1)) (hd : decode (am_cc M) pc = .ok (.new idx, 3)) {ls st : List Value} {h : am_H} (hc : cells + 1 ≤ R.cells) (hs : slots + r.2.2 ≤ R.slots)
    (K : am_W l G p e R s m args below meth c Z M (cells + 1) (slots + r.2.2) (pc + 3) ls (.ref h.2.2.2.1 :: st) (am_new h (.inl ci))) : am_W l G p e R s m args below meth c Z M cells slots pc ls st h := by
  obtain ⟨hx, hb, hr, hml, hown, hts, hlocks, hnm, hK, hT, hbase⟩ := cx
  intro lsC H locs hL hH hS
  obtain ⟨hin, hty, hnmx, hlen, hkb⟩ := am_cls hr1
  have hKn := hK.1 ci _ hr1
  refine W.newcK hx hb hown (hts _ h1) (hts _ h2) (hts _ h3) rfl hd hc hs hKn.2.1 rfl fun H1 kC hkC e1 z1 o1 => ?_
  rw [hH.1] at e1 ⊢
  refine K lsC H1 locs hL (am_Hnew hH z1 o1 ?_ (fun t n q => by cases q)) (am_Snew hS (by omega) o1)
  have e4 : am_cell G (am_new h (.inl ci)) h.2.2.2.1 = .inr (ci, (List.range (am_kd.getD ci []).length).map (fun k => am_tv G (am_fv (am_new h (.inl ci)) h.2.2.2.1 ci k))) := by
    unfold am_cell
    have : (am_new h (.inl ci)).1 h.2.2.2.1 = .inl ci := by
      show am_us h.1 h.2.2.2.1 (.inl ci) h.2.2.2.1 = _
      unfold am_us
      rw [if_pos rfl]
    rw [this]
  rw [e4]
  refine ⟨r, hr1, (u_born (am_ti ci) hts hin hKn hkC e1 hty).to (fun k hk => ?_)⟩
  unfold vp_V
  rw [List.getD_eq_getElem?_getD, am_fs_get hr1 hk]
  show _ = am_tv G (am_fv (am_new h (.inl ci)) h.2.2.2.1 ci k)
  have f1 : (am_new h (.inl ci)).2.1 h.2.2.2.1 k = none := by
    show am_rz h.2.1 h.2.2.2.1 h.2.2.2.1 k = none
    unfold am_rz; rw [if_pos rfl]
  have f2 : (am_new h (.inl ci)).2.2.1 h.2.2.2.1 k = 0 := by
    show am_dz h.2.2.1 h.2.2.2.1 h.2.2.2.1 k = 0
    unfold am_dz; rw [if_pos rfl]
  unfold am_fv
  rw [f1, f2]
  rcases am_kb_of (hkb k hk) with ⟨g1, g2⟩ | ⟨g1, g2⟩ | ⟨g1, ⟨n, g2⟩ | ⟨n, g2⟩⟩ <;> rw [g1, g2] <;> rfl
theorem am_zcell {h : am_H} {t n : Nat} (ht : Nat.beq t 2 = false) : am_cell G (am_new h (.inr (t, n))) h.2.2.2.1 = .inl (G.2.1 t, n, .inl (fun _ => 0)) := by
  have e1 : (am_new h (.inr (t, n))).1 h.2.2.2.1 = .inr (t, n) := by
    show am_us h.1 h.2.2.2.1 _ h.2.2.2.1 = _
    unfold am_us
    rw [if_pos rfl]
  have e2 : (am_new h (.inr (t, n))).2.2.1 h.2.2.2.1 = fun _ => 0 := by
    funext j
    show am_dz h.2.2.1 h.2.2.2.1 h.2.2.2.1 j = 0
    unfold am_dz
    rw [if_pos rfl]
  unfold am_cell am_arrv
  rw [e1]
  dsimp only
  rw [ht, e2]
set_option maxHeartbeats 4000000 in
theorem am_newa_s (cx : am_Cx G M tb p s m args meth c) {pc t : Nat} {at' : ArrayType} (ha : am_arr at' = some t) (hd : decode (am_cc M) pc = .ok (.newarray at', 2)) {ls rest : List Value} {h : am_H} {x : Int32} (hx0 : ¬ x < 0) (hx1 : x.toNatClampNeg ≤ 100000) (hc : cells + 1 ≤ R.cells) (hs : slots + x.toNatClampNeg ≤ R.slots)
    (K : am_W l G p e R s m args below meth c Z M (cells + 1) (slots + x.toNatClampNeg) (pc + 2) ls (.ref h.2.2.2.1 :: rest) (am_new h (.inr (t, x.toNatClampNeg)))) : am_W l G p e R s m args below meth c Z M cells slots pc ls (.int x :: rest) h := by
  obtain ⟨hx, hb, hr, hml, hown, hts, hlocks, hnm, hK, hT, hbase⟩ := cx
  intro lsC H locs hL hH hS
  cases at' with
  | int =>
    cases ha
    refine va_newaK (atype := .int) hx hb (hts _ am_iaI) rfl hd rfl hx0 rfl (by show _ * 4 ≤ _; omega) hc hs rfl fun H1 cA e1 z1 o1 hAr hNm => ?_
    have hcA : cA = G.2.1 0 := by
      have := (hK.2 0 _ rfl).2
      exact Option.some.inj (hNm.symm.trans this)
    subst hcA
    rw [hH.1] at e1 ⊢
    refine K lsC H1 locs hL (am_Hnew hH z1 o1 ?_ (fun t n q => by cases q; decide)) (am_Snew hS (by omega) o1)
    rw [am_zcell rfl]
    exact e1
  | boolean =>
    cases ha
    refine va_newaK (atype := .boolean) hx hb (hts _ am_iaZ) rfl hd rfl hx0 rfl (by show _ * 1 ≤ _; omega) hc hs rfl fun H1 cA e1 z1 o1 hAr hNm => ?_
    have hcA : cA = G.2.1 1 := by
      have := (hK.2 1 _ rfl).2
      exact Option.some.inj (hNm.symm.trans this)
    subst hcA
    rw [hH.1] at e1 ⊢
    refine K lsC H1 locs hL (am_Hnew hH z1 o1 ?_ (fun t n q => by cases q; decide)) (am_Snew hS (by omega) o1)
    rw [am_zcell rfl]
    exact e1
  | _ => cases ha
set_option maxHeartbeats 4000000 in
theorem am_mna_s (cx : am_Cx G M tb p s m args meth c) {pc idx : Nat} (hcl : am_in (.classLink (am_own M) idx "[[I")) (hd : decode (am_cc M) pc = .ok (.multianewarray idx 2, 4)) {ls rest : List Value} {h : am_H} {x y : Int32} (hx0 : ¬ x < 0) (hy0 : ¬ y < 0) (hx1 : x.toNatClampNeg ≤ 10000) (hy1 : y.toNatClampNeg ≤ 10000) (hc : cells + (1 + x.toNatClampNeg) ≤ R.cells) (hs : slots + (x.toNatClampNeg + x.toNatClampNeg * y.toNatClampNeg) ≤ R.slots)
    (K : am_W l G p e R s m args below meth c Z M (cells + 1 + x.toNatClampNeg) (slots + x.toNatClampNeg + x.toNatClampNeg * y.toNatClampNeg) (pc + 4) ls (.ref h.2.2.2.1 :: rest) (am_new2 h x.toNatClampNeg y.toNatClampNeg)) : am_W l G p e R s m args below meth c Z M cells slots pc ls (.int y :: .int x :: rest) h := by
  obtain ⟨hx, hb, hr, hml, hown, hts, hlocks, hnm, hK, hT, hbase⟩ := cx
  intro lsC H locs hL hH hS T hT0 Xs
  obtain ⟨vm₁, cA, comp, -, fA, fC, hO, -, X', step⟩ := Xs.multianewarray2F hx (ty := .int) hown (hts _ hcl) (hts _ am_iaO) (hts _ am_iaI) (g := F0 m pc lsC ((Value.int y :: .int x :: rest).map (am_tv G))) rfl (by rw [hb]; exact hd) rfl hx0 hy0 (by omega) (by show _ * 4 ≤ _; omega) (by omega) rfl rfl hc hs
  have eI : comp = G.2.1 0 := by
    have := (hK.2 0 _ rfl).2
    exact Option.some.inj (fC.symm.trans this)
  have eA : cA = G.2.1 2 := by
    have := (hK.2 2 _ rfl).2
    exact Option.some.inj (fA.symm.trans this)
  subst eI
  subst eA
  generalize hF : Jvm.Free.Multi.fill (T.setVm vm₁) (G.2.1 2) (G.2.1 0) x.toNatClampNeg y.toNatClampNeg (defaultValue .int) x.toNatClampNeg = F at X' step
  have hTh : (T.setVm vm₁).heap = H := hT0
  obtain ⟨f1, f2, -, -⟩ := Jvm.Free.Multi.fill_facts (T.setVm vm₁) (G.2.1 2) (G.2.1 0) x.toNatClampNeg y.toNatClampNeg (defaultValue .int) x.toNatClampNeg
  rw [hF, hTh] at f1 f2
  have hold : ∀ q : Nat, q < H.size → F.heap[q]? = H[q]? := fun q hq => by
    have := Jvm.Free.Multi.fill_old (T.setVm vm₁) (G.2.1 2) (G.2.1 0) x.toNatClampNeg y.toNatClampNeg (defaultValue .int) (a := q) (by rw [hTh]; exact hq) x.toNatClampNeg
    rw [hF, hTh] at this
    exact this
  have hrow : ∀ j : Nat, j < x.toNatClampNeg → F.heap[H.size + 1 + j]? = some (vp_cell (G.2.1 0) (y.toNatClampNeg, .inl (fun _ => 0))) := fun j hj => by
    have := Jvm.Free.Multi.fill_inner (T.setVm vm₁) (G.2.1 2) (G.2.1 0) x.toNatClampNeg y.toNatClampNeg (defaultValue .int) x.toNatClampNeg j hj
    rw [hF, hTh] at this
    rw [this]
    show some ({ cls := _, slots := Array.replicate _ _, vm := .none } : Cell) = _
    rw [arrV_new]
    rfl
  rw [vr_outer] at f2
  have e : T.heap.size = H.size := by rw [hT0]
  have hH1 : am_Hp G (am_new2 h x.toNatClampNeg y.toNatClampNeg) F.heap := by
    refine ⟨by rw [f1, hH.1]; show _ = G.2.2.1 + (h.2.2.2.1 + 1 + _); omega, fun i hi => ?_, fun i hi => ?_, fun i t n hi => ?_⟩
    · have hi : i < h.2.2.2.1 + 1 + x.toNatClampNeg := hi
      by_cases e1 : i = h.2.2.2.1
      · subst e1
        have e5 : am_cell G (am_new2 h x.toNatClampNeg y.toNatClampNeg) h.2.2.2.1 = .inl (G.2.1 2, x.toNatClampNeg, .inr (.inr (.inr (.inr (fun j => (if j < x.toNatClampNeg then some (h.2.2.2.1 + 1 + j) else none).map (fun q => G.2.2.1 + q)))))) := by
          unfold am_cell am_new2
          simp only [↓reduceIte]
          unfold am_arrv
          simp
        rw [e5]
        show F.heap[G.2.2.1 + h.2.2.2.1]? = some (vp_cell _ _)
        rw [← hH.1, f2]
        show some _ = some (arrV (G.2.1 2) x.toNatClampNeg (fun j => va_rf ((if j < x.toNatClampNeg then some (h.2.2.2.1 + 1 + j) else none).map (fun q => G.2.2.1 + q))))
        refine congrArg some (congrArg (arrV (G.2.1 2) x.toNatClampNeg) (funext fun j => ?_))
        rw [hH.1]
        by_cases hj : j < x.toNatClampNeg
        · simp only [hj, ↓reduceIte, Option.map_some]
          exact congrArg Value.ref (show (G.2.2.1 + h.2.2.2.1 + 1 + j : Nat) = G.2.2.1 + (h.2.2.2.1 + 1 + j) by omega)
        · simp only [hj, ↓reduceIte, Option.map_none]
      · by_cases e2 : h.2.2.2.1 < i
        · have e3 : h.2.2.2.1 < i ∧ i ≤ h.2.2.2.1 + x.toNatClampNeg := ⟨e2, by omega⟩
          have e5 : am_cell G (am_new2 h x.toNatClampNeg y.toNatClampNeg) i = .inl (G.2.1 0, y.toNatClampNeg, .inl (fun _ => 0)) := by
            unfold am_cell am_new2
            simp only [e1, e3, and_self, ↓reduceIte]
            unfold am_arrv
            simp [e3]
          rw [e5]
          show F.heap[G.2.2.1 + i]? = some (vp_cell _ _)
          have := hrow (i - h.2.2.2.1 - 1) (by omega)
          rw [hH.1, show G.2.2.1 + h.2.2.2.1 + 1 + (i - h.2.2.2.1 - 1) = G.2.2.1 + i by omega] at this
          exact this
        · have e3 : ¬ (h.2.2.2.1 < i ∧ i ≤ h.2.2.2.1 + x.toNatClampNeg) := fun q => e2 q.1
          have e5 : am_cell G (am_new2 h x.toNatClampNeg y.toNatClampNeg) i = am_cell G h i := by
            unfold am_cell am_new2 am_arrv am_fv
            simp only [e1, e3, ↓reduceIte]
          rw [e5]
          exact (hH.2.1 i (by omega)).kept (hold _ (by show G.2.2.1 + i < H.size; rw [hH.1]; omega))
    · have hi : h.2.2.2.1 + 1 + x.toNatClampNeg ≤ i := hi
      unfold am_new2
      simp only
      rw [if_neg (by omega), if_neg (by omega)]
      exact hH.2.2.1 i (by omega)
    · unfold am_new2 at hi
      simp only at hi
      split at hi
      · cases hi; decide
      · split at hi
        · cases hi; decide
        · exact hH.2.2.2 i t n hi
  obtain ⟨t, a1, b1⟩ := K lsC F.heap locs hL hH1 (am_Snew hS (by omega) hold) F rfl X'
  refine ⟨t, step t ?_, b1⟩
  rw [e, hH.1]
  exact a1
end AMV
end
section
section AMX
variable {l : Launch} {G : am_G} {p : Program} {e : Env} {R : Room} {s : State} {m : MethodId} {args : Array Value} {below : List Frame} {meth : Method} {c : Code} {Z : State → Prop} {M : am_M} {cells slots : Nat} {tb : Nat → Nat × (Nat → Int32)}
set_option maxHeartbeats 4000000 in
theorem am_cpy_s (cx : am_Cx G M tb p s m args meth c) {pc idx : Nat} (hlk : am_in (.methodLink (am_own M) idx arraycopyName)) (hd : decode (am_cc M) pc = .ok (.invokestatic idx, 3)) {ls rest : List Value} {h : am_H} {x dp sp : Int32} {o o0 n0 n1 : Nat} (g0 : h.1 o0 = .inr (0, n0)) (g1 : h.1 o = .inr (0, n1)) (h1 : ¬ sp < 0) (h2 : ¬ dp < 0) (h3 : ¬ x < 0) (h4 : sp.toNatClampNeg + x.toNatClampNeg ≤ n0) (h5 : dp.toNatClampNeg + x.toNatClampNeg ≤ n1) (hfr : 1 ≤ R.frames) (hlo : rest.length + 30 ≤ R.locals) (hcat : ∀ v ∈ rest, v.category = 1)
    (K : am_W l G p e R s m args below meth c Z M cells slots (pc + 3) ls rest (h.1, h.2.1, (fun i j => if i = o then va_cpy (h.2.2.1 o0) (h.2.2.1 o) sp.toNatClampNeg dp.toNatClampNeg x.toNatClampNeg j else h.2.2.1 i j), h.2.2.2)) : am_W l G p e R s m args below meth c Z M cells slots pc ls (.int x :: .int dp :: .ref o :: .int sp :: .ref o0 :: rest) h := by
  obtain ⟨hx, hb, hr, hml, hown, hts, hlocks, hnm, hK, hT, hbase⟩ := cx
  have nn : ∀ z : Int32, ¬ z < 0 → z.toInt = (z.toNatClampNeg : Int) := by
    intro z hz
    have hz0 : (0 : Int) ≤ z.toInt := by
      have := Int32.not_lt.mp hz
      simpa using Int32.le_iff_toInt_le.mp this
    show z.toInt = ((z.toInt.toNat : Nat) : Int)
    omega
  intro lsC H locs hL hH hS T hT0 X
  have hc0 : H[G.2.2.1 + o0]? = some (vp_cell (G.2.1 0) (n0, .inl (h.2.2.1 o0))) := (am_ary hH g0).2
  have hc1 : H[G.2.2.1 + o]? = some (vp_cell (G.2.1 0) (n1, .inl (h.2.2.1 o))) := (am_ary hH g1).2
  obtain ⟨-, k0, hk0, cm0, hkk0⟩ := (hK.2 0 _ rfl).1 n0 (fun j => .int (h.2.2.1 o0 j))
  obtain ⟨-, k1, hk1, cm1, hkk1⟩ := (hK.2 0 _ rfl).1 n1 (fun j => .int (h.2.2.1 o j))
  have hsum : ∀ (r : List Value), (∀ v ∈ r, v.category = 1) → ((r.map (am_tv G)).map fun v => v.category).sum = r.length := by
    intro r
    induction r with
    | nil => intro _; rfl
    | cons v r ih =>
      intro hv
      rw [List.map_cons, List.map_cons, List.sum_cons, ih (fun w hw => hv w (List.mem_cons_of_mem _ hw)), am_tv_cat G v (hv v List.mem_cons_self), List.length_cons]
      omega
  have hnf : nativeFrameWords "java/lang/System" "arraycopy" 5 ≤ 19 := by decide
  have hlo1 : 2 * 0 + ((rest.map (am_tv G)).map fun v => v.category).sum + (nativeFrameWords "java/lang/System" "arraycopy" 5 + 11) ≤ R.locals := by
    rw [hsum rest hcat]
    omega
  obtain ⟨vm', X', step⟩ := X.arraycopy hx hown (hts _ hlk) (hts _ am_icN) (hts _ am_icS) (hts _ am_icI) (src := G.2.2.1 + o0) (dst := G.2.2.1 + o) (cs := vp_cell (G.2.1 0) (n0, .inl (h.2.2.1 o0))) (cd := vp_cell (G.2.1 0) (n1, .inl (h.2.2.1 o))) (srcPos := sp) (destPos := dp) (n := x) (by rw [hT0]; exact hc0) (by rw [hT0]; exact hc1)
    (fun _ h => by cases h) (fun _ h => by cases h) (fun h => by cases h) (fun h => by cases h) hk0 hk1 hkk0 hkk1 (by simp [refKind]) h1 h2 h3
    (by rw [nn sp h1, nn x h3]; show ¬ _ > ((arrV (G.2.1 0) n0 (fun j => .int (h.2.2.1 o0 j))).slots.size : Int); rw [arrV_size]; omega)
    (by rw [nn dp h2, nn x h3]; show ¬ _ > ((arrV (G.2.1 0) n1 (fun j => .int (h.2.2.1 o j))).slots.size : Int); rw [arrV_size]; omega)
    (fun vm₁ _ i hi => by
      have e : (vp_cell (G.2.1 0) (n0, .inl (h.2.2.1 o0))).slots.getD (sp.toNatClampNeg + i) .null = .int (h.2.2.1 o0 (sp.toNatClampNeg + i)) := by
        show (arrV (G.2.1 0) n0 (fun j => .int (h.2.2.1 o0 j))).slots.getD _ _ = _
        rw [Array.getD_eq_getD_getElem?, arrV_read _ _ (by omega)]
        rfl
      refine ⟨?_, ?_⟩
      · rw [e]
        rfl
      · rw [e]
        exact trivial)
    (g := F0 m pc lsC ((Value.int x :: .int dp :: .ref o :: .int sp :: .ref o0 :: rest).map (am_tv G))) rfl (by rw [hml]; exact hL.1) (rest := rest.map (am_tv G)) rfl (by rw [hb]; exact hd) hfr hlo1
  have e1 : copied (vp_cell (G.2.1 0) (n0, .inl (h.2.2.1 o0))) (vp_cell (G.2.1 0) (n1, .inl (h.2.2.1 o))) sp dp x = vp_cell (G.2.1 0) (n1, .inl (va_cpy (h.2.2.1 o0) (h.2.2.1 o) sp.toNatClampNeg dp.toNatClampNeg x.toNatClampNeg)) := va_copied (fun z => .int z) (G.2.1 0) (G.2.1 0) (h.2.2.1 o0) (h.2.2.1 o) h4
  rw [e1] at X' step
  generalize hcl : vp_cell (G.2.1 0) (n1, .inl (va_cpy (h.2.2.1 o0) (h.2.2.1 o) sp.toNatClampNeg dp.toNatClampNeg x.toNatClampNeg)) = cl at X' step
  have hl : G.2.2.1 + o < H.size := (Array.getElem?_eq_some_iff.mp hc1).1
  have hheap : ((T.setVm vm').setCell (G.2.2.1 + o) cl).heap = H.setIfInBounds (G.2.2.1 + o) cl := by rw [← hT0]; rfl
  have oq : ∀ q : Nat, q ≠ G.2.2.1 + o → (H.setIfInBounds (G.2.2.1 + o) cl)[q]? = H[q]? := fun q hq => by simp [Array.getElem?_setIfInBounds, Ne.symm hq]
  have hcell : ∀ i, i ≠ o → am_cell G (h.1, h.2.1, (fun i j => if i = o then va_cpy (h.2.2.1 o0) (h.2.2.1 o) sp.toNatClampNeg dp.toNatClampNeg x.toNatClampNeg j else h.2.2.1 i j), h.2.2.2) i = am_cell G h i := by
    intro i hi
    unfold am_cell am_arrv am_fv
    simp only [hi, ↓reduceIte]
  have hco : am_cell G (h.1, h.2.1, (fun i j => if i = o then va_cpy (h.2.2.1 o0) (h.2.2.1 o) sp.toNatClampNeg dp.toNatClampNeg x.toNatClampNeg j else h.2.2.1 i j), h.2.2.2) o = .inl (G.2.1 0, n1, .inl (va_cpy (h.2.2.1 o0) (h.2.2.1 o) sp.toNatClampNeg dp.toNatClampNeg x.toNatClampNeg)) := by
    unfold am_cell am_arrv
    simp only [g1, ↓reduceIte]
  obtain ⟨t, a1, b1⟩ := K lsC _ _ hL (am_rest hH rfl rfl hcell (fun _ => by rw [hco]; show (H.setIfInBounds (G.2.2.1 + o) cl)[G.2.2.1 + o]? = some _; rw [← hcl]; simp [Array.getElem?_setIfInBounds, hl]) (by simp) oq) ⟨by simp; exact hS.1, fun q g1 g2 => by
      rw [oq q (fun e => g2 (by rw [e]; exact Nat.le_add_right _ _))]
      exact hS.2.1 q g1 g2, fun q hq => by
      rcases List.mem_append.mp hq with h | h
      · exact hS.2.2 q h
      · obtain ⟨z, -, hz⟩ := List.mem_map.mp h
        rw [← hz]
        exact Nat.le_add_right _ _⟩ _ hheap X'
  exact ⟨t, step t a1, b1⟩
theorem am_step_tb {i : Instr} {pc pc' : Nat} {ls st ls' st' : List Value} {h h' : am_H} (hs : am_step M i pc ls st h = some (pc', ls', st', h')) : h'.2.2.2.2 = h.2.2.2.2 := by
  unfold am_step at hs
  split at hs
  all_goals first
    | (cases hs; rfl)
    | (unfold am_il at hs; split at hs <;> cases hs <;> rfl)
    | (unfold am_al at hs; split at hs <;> cases hs <;> rfl)
    | (unfold am_is at hs; split at hs <;> (try split at hs) <;> cases hs <;> rfl)
    | (unfold am_as at hs; split at hs <;> (try split at hs) <;> cases hs <;> rfl)
    | (unfold am_ii at hs; split at hs <;> cases hs <;> rfl)
    | (unfold am_ldc at hs; split at hs <;> cases hs <;> rfl)
    | (unfold am_dup at hs; split at hs <;> cases hs <;> rfl)
    | (unfold am_dup2 at hs; split at hs <;> cases hs <;> rfl)
    | (unfold am_pop at hs; split at hs <;> cases hs <;> rfl)
    | (unfold am_bin at hs; split at hs <;> cases hs <;> rfl)
    | (unfold am_neg at hs; split at hs <;> cases hs <;> rfl)
    | (unfold am_if at hs; split at hs <;> (try split at hs) <;> cases hs <;> rfl)
    | (unfold am_ic at hs; split at hs <;> (try split at hs) <;> cases hs <;> rfl)
    | (unfold am_nn at hs; split at hs <;> cases hs <;> rfl)
    | (unfold am_ts at hs; split at hs <;> cases hs <;> rfl)
    | (unfold am_lsw at hs; split at hs <;> cases hs <;> rfl)
    | (unfold am_gf at hs; split at hs <;> (try split at hs) <;> (try split at hs) <;> cases hs <;> rfl)
    | (unfold am_gs at hs; split at hs <;> cases hs <;> rfl)
    | (unfold am_len at hs; split at hs <;> (try split at hs) <;> cases hs <;> rfl)
    | (unfold am_pf at hs; split at hs <;> (try split at hs) <;> (try split at hs) <;> (try split at hs) <;> cases hs <;> rfl)
    | (exact absurd hs (by simp))
theorem am_mem_tb {i : Instr} {P : Prop} {pc pc' : Nat} {ls st ls' st' : List Value} {h h' : am_H} (hs : am_mem M i pc ls st h = some (P, pc', ls', st', h')) : h'.2.2.2.2 = h.2.2.2.2 := by
  unfold am_mem at hs
  split at hs <;> (try split at hs) <;> (try split at hs) <;> (try split at hs) <;> (try split at hs) <;> cases hs <;> rfl
def am_X (l : Launch) : am_K → Prop := fun (M, pc, ls, st, h, kc, ks, Q) => am_Mok M → kc ≤ (am_rm M).cells → ks ≤ (am_rm M).slots → ∀ (G : am_G) (tb : Nat → Nat × (Nat → Int32)) (p : Program) (e : Env) (s : State) (m : MethodId) (args : Array Value) (below : List Frame) (meth : Method) (c : Code), h.2.2.2.2 = tb → am_Cx G M tb p s m args meth c →
  am_W l G p e (am_rm M) s m args below meth c (MQ below (am_Qc G tb Q) args s (am_rm M).cells (am_rm M).slots (am_A G)) M ((am_rm M).cells - kc) ((am_rm M).slots - ks) pc ls st h
theorem am_sum1 : ∀ (r : List Value), (∀ v ∈ r, v.category = 1) → ((r.map (am_tv G)).map fun v => v.category).sum = r.length
  | [], _ => rfl
  | v :: r, hv => by
    rw [List.map_cons, List.map_cons, List.sum_cons, am_sum1 r (fun w hw => hv w (List.mem_cons_of_mem _ hw)), am_tv_cat G v (hv v List.mem_cons_self), List.length_cons]
    omega
theorem am_Wcs {cells' slots' pc : Nat} {ls st : List Value} {h : am_H} (h1 : cells = cells') (h2 : slots = slots') (K : am_W l G p e R s m args below meth c Z M cells' slots' pc ls st h) : am_W l G p e R s m args below meth c Z M cells slots pc ls st h := by
  subst h1; subst h2; exact K
theorem am_pre {h : am_H} {as : List Value} {H : Heap} {locs : List Loc} (cx : am_Cx G M tb p s m args meth c) (hH : am_Hp G h H) (hS : va_S (am_A G) s.heap H locs) : PreS s H (am_Pc G tb h as) (as.map (am_tv G)) := by
  obtain ⟨hx, hb, hr, hml, hown, hts, hlocks, hnm, hK, hT, hbase⟩ := cx
  exact ⟨am_blind, fun U hU hW => ⟨rfl, by rw [hU]; exact hH, va_K.moved hW.alike hK, hT.to hS hU hW.alike⟩⟩
/-- behind a call the run goes on -/
theorem am_back {pc : Nat} {ls rest : List Value} {lsC : Array Slot} {Q1 : am_Q} {M' : am_M} {kc ks : Nat} (hL : am_Lo G lsC (am_ml M) ls) (hkc : kc ≤ (am_rm M).cells) (hks : ks ≤ (am_rm M).slots) (h1 : (am_rm M').cells ≤ kc) (h2 : (am_rm M').slots ≤ ks)
    (kk : ∀ (r : Option Value) (h1 : am_H), Q1 r h1 → h1.2.2.2.2 = tb → am_W l G p e R s m args below meth c Z M ((am_rm M).cells - (kc - (am_rm M').cells)) ((am_rm M).slots - (ks - (am_rm M').slots)) (pc + 3) ls (r.toList ++ rest) h1) :
    ∀ (r : Option Value) (h1 : am_H) (H1 : Heap) (locs1 : List Loc), Q1 r h1 → am_Hp G h1 H1 → h1.2.2.2.2 = tb → va_S (am_A G) s.heap H1 locs1 → W p l e R s m args below meth c H1 locs1 ((am_rm M).cells - kc + (am_rm M').cells) ((am_rm M).slots - ks + (am_rm M').slots) Z (F0 m (pc + 3) lsC ((r.map (am_tv G)).toList ++ rest.map (am_tv G))) := by
  intro r h1 H1 locs1 hq hH1 ht hS1
  have := kk r h1 hq ht lsC H1 locs1 hL hH1 hS1
  rw [show (am_rm M).cells - (kc - (am_rm M').cells) = (am_rm M).cells - kc + (am_rm M').cells by omega, show (am_rm M).slots - (ks - (am_rm M').slots) = (am_rm M).slots - ks + (am_rm M').slots by omega] at this
  cases r <;> exact this
end AMX
end
section
/-! a static method called by a subclass's name (javac writes the qualifying class): the kit has no row for it -/
section AMUP
variable {Q : Unit → Pre} {E : CtlPost} {e : Env} {d : Bool} {acts : List Action} {s s₀ : State} {f : JFrame}
theorem am_wp_coldUp {index ci n cn : Nat} {m : MethodId} {dk ck : Class} {cf : ClassFile} {name desc : String} {via : Bool} (hs : s.topJava?.isSome) (hp : e.platform.polymorphicOnlyByInvokevirtual = true)
    (hW : s₀.WarmedH s.vm) (hE : s₀.MethodEntryUp e s.vm f.method.cls index cn m ci) (h1 : s₀.vm.classes[f.method.cls]? = some dk) (h2 : dk.cf = some cf)
    (h3 : cf.constantPool[index]? = some (if via then .interfaceMethodref ci n else .methodref ci n)) (h4 : cf.constantPool.nameAndType? n = some (name, desc))
    (hck : s₀.vm.classes[cn]? = some ck) (hnone : (ck.methods.any fun x => x.name == name && !x.isStatic && signaturePolymorphic ck x) = false) :
    wp (Op.invokestatic.sem index) Q E e d acts (s.setTop f) ↔ wp (Op.invokestatic.sem index) Q E e d acts ((s.setVm (s.vm.calledUp f.method.cls ci index cn m)).setTop f) := by
  obtain ⟨hgc, hrc, hW₁, hgm⟩ := hE.classFirst
  obtain ⟨k₀, hk₀, he₀⟩ := hW.alike.2.2 _ _ h1
  obtain ⟨k₂, hk₂, he₂⟩ := hE.warmed.alike.2.2 _ _ h1
  obtain ⟨c₁, hc₁, hec₁⟩ := hW₁.alike.2.2 _ _ hck
  obtain ⟨c₂, hc₂, hec₂⟩ := hE.warmed.alike.2.2 _ _ hck
  have hb₀ := memberRef_ask_via (e := e) hk₀ (by rw [he₀]; exact h2) h3 h4
  have hb₂ := memberRef_ask_via (e := e) hk₂ (by rw [he₂]; exact h2) h3 h4
  have hn₁ : (c₁.methods.any fun x => x.name == name && !x.isStatic && signaturePolymorphic c₁ x) = false := by rw [hec₁]; exact hnone
  have hn₂ : (c₂.methods.any fun x => x.name == name && !x.isStatic && signaturePolymorphic c₂ x) = false := by rw [hec₂]; exact hnone
  have hs₁ : (s.setVm (s.vm.noted f.method.cls ci (.cls cn))).topJava?.isSome := hs
  have hs₂ : (s.setVm (s.vm.calledUp f.method.cls ci index cn m)).topJava?.isSome := hs
  have hL : ∀ {Q' : ClassId → Pre} {d' : Bool} {acts' : List Action}, wp (Jvm.resolveClassAt ci) Q' E e d' acts' (s.setTop f) ↔ Q' cn d' acts' ((s.setVm (s.vm.noted f.method.cls ci (.cls cn))).setTop f) :=
    W.resolveClassAt_links (t := s.setTop f) (State.method?_setTop f hs) hgc
  have hM : ∀ {Q' : MethodId → Pre} {d' : Bool} {acts' : List Action}, wp (Jvm.resolveMethodAt index) Q' E e d' acts' ((s.setVm (s.vm.noted f.method.cls ci (.cls cn))).setTop f) ↔ Q' m d' acts' ((s.setVm (s.vm.calledUp f.method.cls ci index cn m)).setTop f) :=
    W.resolveMethodAt_links (t := (s.setVm (s.vm.noted f.method.cls ci (.cls cn))).setTop f) (State.method?_setTop f hs₁) hgm
  simp [Op.invokestatic.sem, hp, Seam.memberRefOf, State.method?_setTop f hs, State.method?_setTop f hs₂, hb₀, hb₂, hL, W.resolveClassAt_ready (s := (s.setVm (s.vm.calledUp f.method.cls ci index cn m)).setTop f) (State.method?_setTop f hs₂) hE.classReady,
    hc₁, hc₂, hn₁, hn₂, hM, W.resolveMethodAt_ready (s := (s.setVm (s.vm.calledUp f.method.cls ci index cn m)).setTop f) (State.method?_setTop f hs₂) hE.ready, -Array.any_eq_true]
end AMUP
section AMUQ
variable {p : Program} {l : Launch} {e : Env} {R : Room} {s : State} {m : MethodId} {args : Array Value} {below : List Frame} {meth : Method} {c : Code} {T : State} {locs : List Loc} {cells slots : Nat}
theorem am_invokestaticUp (X : Stand p l e R s m args below meth c T locs cells slots) (hexec : p.tables.exec = Jvm.exec)
    {own owner : String} {index : Nat} {x : MethodName} (hown : s.vm.findClass own = some m.cls) (hlink : (Cond.methodLink own index x).before args s = true)
    (hsame : (Cond.sameMethod x.cls owner x.name x.desc).before args s = true) (howner : owner ≠ "java/lang/invoke/MethodHandle" ∧ owner ≠ "java/lang/invoke/VarHandle") (hxc : x.cls ≠ "java/lang/invoke/MethodHandle" ∧ x.cls ≠ "java/lang/invoke/VarHandle")
    {m' : MethodId} {meth' : Method} {k' : Class} (hn : s.methodNamed? ⟨owner, x.name, x.desc⟩ = some m') (hm' : s.vm.method? m' = some meth') (hstatic : meth'.isStatic = true)
    (hk' : s.vm.classes[m'.cls]? = some k') (hinit : k'.init = .initialized)
    {g : JFrame} (hg : g.method = m) {argsL rest : List Value} (hlen : argsL.length = meth'.sig.parameters.length) (hstack : g.stack = argsL.reverse ++ rest)
    (hdg : decode c.code g.pc = .ok (.invokestatic index, 3)) :
    ∃ vm', Stand p l e R s m args below meth c (T.setVm vm') locs cells slots ∧
      ∀ target, (∀ acts, Steps p.tables e below (doInvoke e ((T.setVm vm').setTop { g with stack := rest }) acts m' argsL.toArray).1 target) → Steps p.tables e below (T.setTop g) target := by
  have hpl : e.platform.magicAccessors = ({} : Platform).magicAccessors := by rw [X.admits.platform]
  have hpv : e.platform.polymorphicOnlyByInvokevirtual = true := by rw [X.admits.platform]
  obtain ⟨cn, ck, r1, hcn, hck, hni, hf, hn1⟩ := Cond.sameMethod_found hsame
  cases hn.symm.trans hn1
  obtain ⟨ci, hl, hright⟩ := Cond.methodLink_specUp hown hcn hck hni hf hlink e.platform hpl (by rw [X.admits.platform])
  have hE : s.MethodEntryUp e T.vm m.cls index cn m' ci := State.methodEntryUp X.warmed hl hright
  obtain ⟨kx, hkx, hnx⟩ := className_of_methodNamed hn
  cases hk'.symm.trans hkx
  obtain ⟨kcn, hkcn, hncn⟩ := Vm.findClass_spec hcn
  cases hck.symm.trans hkcn
  obtain ⟨dk, cfile, nt, mname, mdesc, ckk, x6, x7, hd, hcf, hcp, hnt, -⟩ := hl.here
  have alike := hE.warmed.alike
  obtain ⟨dk₂, hdk₂, hed₂⟩ := alike.2.2 _ _ hd
  obtain ⟨k₂, hk₂, he₂⟩ := alike.2.2 _ _ hk'
  obtain ⟨ck₂, hck₂, hec₂⟩ := alike.2.2 _ _ hck
  have hnp : ∀ y, signaturePolymorphic ck y = false := signaturePolymorphic_of_name (by rw [hncn]; exact hxc)
  have hnp' : ∀ y, signaturePolymorphic k' y = false := signaturePolymorphic_of_name (by rw [hnx]; exact howner)
  have hnone : (ck.methods.any fun y => y.name == mname && !y.isStatic && signaturePolymorphic ck y) = false := by simp [hnp]
  have hnone₂ : (ck₂.methods.any fun y => y.name == mname && !y.isStatic && signaturePolymorphic ck₂ y) = false := by rw [hec₂]; exact hnone
  refine ⟨T.vm.calledUp m.cls ci index cn m', X.noted hE.warmed, fun target hrest => ?_⟩
  subst hg
  jvm_step X.here [hexec, hdg, am_wp_coldUp (e := e) (s := T) (s₀ := s) (f := g) (via := false) X.here.top hpv X.warmed hE hd hcf hcp hnt hck hnone,
    Op.invokestatic.wp_ready (e := e) (s := T.setVm (T.vm.calledUp g.method.cls ci index cn m')) (k := k₂) (meth := meth') (m := m') (args := argsL) (rest := rest) (f := g)
      X.here.top ⟨ci, mname, mdesc, false, cn, ck₂, memberRef_ask_via (e := e) (via := false) hdk₂ (by rw [hed₂]; exact hcf) hcp hnt, hE.classReady, hck₂, hnone₂⟩ hE.ready hk₂
      (by show (T.vm.calledUp g.method.cls ci index cn m').method? m' = some meth'; rw [alike.method?]; exact hm') (by rw [he₂]; exact hnp' meth') hstatic (by rw [he₂]; exact hinit) hlen hstack]
  exact fun acts => hrest _
theorem am_runSUp {y : MethodName} {bytes cc : ByteArray} {maxL nL mc ms n index : Nat} {ret : Option FieldType} {ws : List Cond} {rm : Room} {Pc : Array Value → State → Prop} {Qc : Array Value → State → Outcome → State → Prop} {free : Addr → Prop} {Ts : List Cond} {own xc : String} {H : Heap} {As rest : List Value} {g : JFrame}
    (S : CallFix p m c cc nL s args Ts own) (hM : Met l y ws rm Pc Qc mc ms free) (hrc : rm.cells = mc) (hrs : rm.slots = ms) (hfr : rm.frames + 1 ≤ R.frames) (hlo : 8 + (maxL + 11) + rm.locals ≤ R.locals) (hws : ∀ w ∈ ws, ∀ (a' : Array Value) (U : State), s.WarmedH U.vm → w.before a' U = true) (hcw : Cond.code y bytes maxL ret ∈ ws)
    (hcode : (Cond.code y bytes maxL ret).before args s = true) (hini : (Cond.initialized y.cls).before args s = true) (hy : y.cls ≠ "java/lang/invoke/MethodHandle" ∧ y.cls ≠ "java/lang/invoke/VarHandle") (hxc : xc ≠ "java/lang/invoke/MethodHandle" ∧ xc ≠ "java/lang/invoke/VarHandle") (hlen : ∀ sig, parseMethodDescriptor y.desc = some sig → n = sig.parameters.length)
    (hlink : (Cond.methodLink own index ⟨xc, y.name, y.desc⟩).before args s = true) (hsame : (Cond.sameMethod xc y.cls y.name y.desc).before args s = true) (hstat : (Cond.static y).before args s = true) (hp : PreS s H Pc As)
    (hg : g.method = m) (hn : As.length = n) (hsize : g.locals.size = nL) (hstack : g.stack = As.reverse ++ rest) (hW : 2 * g.monitorRoom + (rest.map fun v => v.category).sum ≤ 8) (hdg : decode cc g.pc = .ok (.invokestatic index, 3)) (hf : cells + mc ≤ R.cells ∧ slots + ms ≤ R.slots) :
    va_Run p l e R s m args below meth c H locs cells slots mc ms g rest (Qc As.toArray) (free) := by
  have hK : Back l R p e below s args y 3 8 (PreOf R mc ms Pc) (PostOf Qc mc ms free) := back_of (bytes := bytes) (maxL := maxL) (ret := ret) hM hp.1 hrc hrs hfr hlo hws hcw (fun a' U hW => word_at hW (Or.inl (by first | rfl | simp [Cond.onTables, Cond.keeps, Cond.steady])) hini)
  obtain ⟨hx, hb, hml, ho, -⟩ := S
  obtain ⟨-, hPc⟩ := hp
  intro T hT X
  obtain ⟨mk, hnamed⟩ := Cond.code_named hcode
  obtain ⟨methM, cM, hmethM, -, -, -, -, -, -, hsigM⟩ := Cond.code_spec hnamed hcode
  have hstatic : methM.isStatic = true := Cond.static_spec hnamed hmethM hstat
  obtain ⟨kP, hkP, -⟩ := className_of_methodNamed hnamed
  have hinitP : kP.init = .initialized := Cond.initialized_spec (findClass_of_methodNamed hnamed) hkP hini
  obtain ⟨vm₁, X₁, hstep₁⟩ := am_invokestaticUp X hx (x := ⟨xc, y.name, y.desc⟩) (owner := y.cls) ho hlink hsame hy hxc hnamed hmethM hstatic hkP hinitP (g := g) hg (argsL := As) (rest := rest) (hn.trans (hlen _ hsigM)) hstack (by rw [hb]; exact hdg)
  obtain ⟨v, ⟨U', l2, c2, s2⟩, X', ⟨g', mk', t, L, e1, e2, hq, h1, hL, h2, h3⟩, hsteps⟩ := hK m meth c ⟨T.setVm vm₁, locs, cells, slots⟩ { g with stack := rest } (.invokestatic index) mk As.toArray X₁ hg (hsize.trans hml.symm) (by rw [hb]; exact hdg) hW (X₁.named hnamed) ⟨hf.1, hf.2, hPc (T.setVm vm₁) hT X₁.warmed⟩
  dsimp only [Pt.U, Pt.locs, Pt.cells, Pt.slots] at X' e1 e2 h1 h2 h3 hsteps
  subst h1; subst h2; subst h3
  exact ⟨v, (T.setVm vm₁).calling g' mk' As.toArray, t, U', L, hT, X', hL, e1, e2, hq, fun target h => hstep₁ _ fun acts => by rw [doInvoke_state]; exact hsteps.trans h⟩
end AMUQ
end
section
theorem am_mxS : am_in (.static Lib.Math.max.name) := by unfold am_in; decide +kernel
theorem am_mnS : am_in (.static Lib.Math.min.name) := by unfold am_in; decide +kernel
theorem am_mxI : am_in (.initialized "java/lang/Math") := by unfold am_in; decide +kernel
theorem am_mxC : am_in (.code Lib.Math.max.name Lib.Math.max.code 2 (some .int)) := by unfold am_in; decide +kernel
theorem am_mnC : am_in (.code Lib.Math.min.name Lib.Math.min.code 2 (some .int)) := by unfold am_in; decide +kernel
set_option maxHeartbeats 16000000 in
set_option maxRecDepth 20000 in
/-- THE ABSTRACT RUN IS THE MACHINE'S -/
theorem am_sound (l : Launch) : ∀ k, am_Go k → am_X l k := by
  intro k hk
  refine am_Go.ind ?_ hk
  clear hk k
  rintro ⟨M, pc, ls, st, h, kc, ks, Q⟩ ⟨i, len, hi, H⟩
  intro hM hkc hks G tb p e s m args below meth c htb cx
  obtain ⟨hdec, hchk, hlen⟩ := hM.2.2.1 _ (am_lk_mem hi)
  dsimp only at hdec hchk hlen
  have hd : decode (am_cc M) pc = .ok (i, len) := hdec
  have cx0 := cx
  obtain ⟨hx, hb, hr, hml, hown, hts, hlocks, hnm, hK, hT, hbase⟩ := cx
  have hl1 : am_elen i ≠ 0 → len = am_elen i := fun q => hlen.resolve_left q
  rcases H with H | H | H | H | H | H | H | H | H | H | H | H | H | H
  · obtain ⟨pc', ls', st', h', hs, X⟩ := H
    exact am_step_s cx0 hM hd hchk hlen htb hs (X hM hkc hks G tb p e s m args below meth c ((am_step_tb hs).trans htb) cx0)
  · obtain ⟨P, pc', ls', st', h', hs, hP, X⟩ := H
    exact am_mem_s cx0 hM hd hchk hlen htb hs hP (X hM hkc hks G tb p e s m args below meth c ((am_mem_tb hs).trans htb) cx0)
  · obtain ⟨rfl, v, rfl, hret, hQ⟩ := H
    obtain rfl := hl1 (Nat.succ_ne_zero _)
    intro lsC HH locs hL hH hS
    refine W.widen (Nat.sub_le _ _) (Nat.sub_le _ _) ?_
    rcases hret with hret | ⟨hret, hv⟩
    · exact W.iret hx hb (hr.trans hret) (fun t ht hW => ⟨⟨some (.int v), h, rfl, hQ, by rw [ht]; exact hH, htb⟩, hS.F ht⟩) hS.2.2 hd hlocks
    · exact W.zret hx hb (hr.trans hret) (by rcases hv with rfl | rfl <;> rfl) (fun t ht hW => ⟨⟨some (.int v), h, rfl, hQ, by rw [ht]; exact hH, htb⟩, hS.F ht⟩) hS.2.2 hd hlocks
  · obtain ⟨rfl, v, n, rfl, hv, hret, hQ⟩ := H
    obtain rfl := hl1 (Nat.succ_ne_zero _)
    intro lsC HH locs hL hH hS
    refine W.widen (Nat.sub_le _ _) (Nat.sub_le _ _) ?_
    exact W.aret hx hb (hr.trans hret) (Or.inl ⟨n, rfl⟩) (by rcases hv with rfl | ⟨a, rfl⟩; exact Or.inl rfl; exact Or.inr ⟨_, rfl⟩) (fun t ht hW => ⟨⟨some v, h, rfl, hQ, by rw [ht]; exact hH, htb⟩, hS.F ht⟩) hS.2.2 hd hlocks
  · obtain ⟨rfl, rfl, hret, hQ⟩ := H
    obtain rfl := hl1 (Nat.succ_ne_zero _)
    intro lsC HH locs hL hH hS
    refine W.widen (Nat.sub_le _ _) (Nat.sub_le _ _) ?_
    exact W.vret hx hb (hr.trans hret) (fun t ht hW => ⟨⟨none, h, rfl, hQ, by rw [ht]; exact hH, htb⟩, hS.F ht⟩) hS.2.2 hd hlocks
  · obtain ⟨idx, M', ci, o, as, rest, Q1, rfl, rfl, ho, hcall, hM', hr8, hrc, hac, hal, hmc, hms, X1, X2⟩ := H
    obtain rfl := hl1 (Nat.succ_ne_zero _)
    intro lsC HH locs hL hH hS
    have hmet := am_met (l := l) (G := G) (tb := tb) hM' (as := .ref o :: as) (h := h) (Q1 := Q1) (fun v hv => by
      rcases List.mem_cons.mp hv with rfl | q
      · rfl
      · exact hac v q) hal (fun p e s m args below meth c cx1 => am_Wcs (by omega) (by omega) (X1 hM' (Nat.le_refl _) (Nat.le_refl _) G tb p e s m args below meth c htb cx1))
    have hstk : (as.reverse ++ Value.ref o :: rest).map (am_tv G) = (as.map (am_tv G)).reverse ++ .ref (G.2.2.1 + o) :: rest.map (am_tv G) := by
      rw [List.map_append, List.map_reverse]
      rfl
    have hst : ∀ w ∈ am_word M' :: lw_g, ∀ (a' : Array Value) (U : State), s.WarmedH U.vm → w.before a' U = true := fun w hw a' U hW => by
      rcases hcall with ⟨r, -, -, -, -, -, -, -, -, -, hwd⟩ | ⟨r, x, owner, -, -, -, -, -, -, -, -, -, hwd, -⟩
      · rcases List.mem_cons.mp hw with rfl | q
        · exact am_stays hW hts _ hwd
        · exact am_stays hW hts _ q
      · rcases List.mem_cons.mp hw with rfl | q
        · exact am_stays hW hts _ hwd
        · exact am_stays hW hts _ q
    obtain ⟨hb1, hb2⟩ := am_pre (as := .ref o :: as) cx0 hH hS
    rcases hcall with ⟨r, hr1, hcls, hpl, hnmx, hfit, w1, w2, w3, w4, w5⟩ | ⟨r, x, owner, hr1, hpl, hnmx, hfit, w1, w2, w3, w4, w5, w6, w7⟩
    · have hcell := va_recv (ws := [(G.2.2.1 + o, .inr (ci, (List.range (am_kd.getD ci []).length).map (fun k => am_tv G (am_fv h o ci k))))]) (q0 := 0) hK (am_one ⟨r, hr1, (am_obj hH ho hr1).2⟩) hr1 rfl
      refine am_call (rest := rest.map (am_tv G)) (va_runV (b := G.2.2.1 + o) (As := as.map (am_tv G)) (C := r.1) (n := as.length) (bytes := am_cc M') (maxL := am_ml M') (ret := am_ret M') (index := idx) (Ts := lw_g) ⟨hx, hb, hml, hown, hts⟩ hmet ⟨⟨rfl, rfl, hfit.1, hfit.2, hst, List.mem_cons_self, hts _ w5, by rw [hcls]; exact hts _ w4, hpl, fun sig q => ?_, hts _ w1⟩, hts _ w2, hts _ w3⟩ ⟨hb1, hcell, hb2⟩ rfl (by rw [List.length_map]) hL.1 hstk (lv_room (by rw [am_sum1 rest hrc]; exact hr8)) hd ⟨by omega, by omega⟩) hS ?_
      · have := hnmx; unfold am_nm at this; rw [q] at this; exact (Option.some.inj this).symm
      · exact am_back hL hkc hks hmc hms (fun r h1 q1 q2 => X2 r h1 q1 hM (by omega) (by omega) G tb p e s m args below meth c q2 cx0)
    · have hcell := va_recv (ws := [(G.2.2.1 + o, .inr (ci, (List.range (am_kd.getD ci []).length).map (fun k => am_tv G (am_fv h o ci k))))]) (q0 := 0) hK (am_one ⟨r, hr1, (am_obj hH ho hr1).2⟩) hr1 rfl
      refine am_call (rest := rest.map (am_tv G)) (va_runU (b := G.2.2.1 + o) (As := as.map (am_tv G)) (C := r.1) (x := x) (owner := owner) (n := as.length) (bytes := am_cc M') (maxL := am_ml M') (ret := am_ret M') (index := idx) (Ts := lw_g) ⟨hx, hb, hml, hown, hts⟩ hmet ⟨⟨rfl, rfl, hfit.1, hfit.2, hst, List.mem_cons_self⟩, hts _ w6, hts _ w5, hpl, fun sig q => ?_, hts _ w1, hts _ w2, ?_, hts _ w3, hts _ w4⟩ ⟨hb1, hcell, hb2⟩ rfl (by rw [List.length_map]) hL.1 hstk (lv_room (by rw [am_sum1 rest hrc]; exact hr8)) hd ⟨by omega, by omega⟩) hS ?_
      · have := hnmx; unfold am_nm at this; rw [q] at this; exact (Option.some.inj this).symm
      · rcases w7 with q | q
        · rw [← q]; exact va_Decl.of (hts _ w4) (hts _ w6)
        · exact va_Decl.abs (va_Nw.of rfl (hts _ q))
      · exact am_back hL hkc hks hmc hms (fun r h1 q1 q2 => X2 r h1 q1 hM (by omega) (by omega) G tb p e s m args below meth c q2 cx0)
  · obtain ⟨idx, M', as, rest, Q1, rfl, rfl, hcall, hM', hr8, hrc, hac, hal, hmc, hms, X1, X2⟩ := H
    obtain rfl := hl1 (Nat.succ_ne_zero _)
    intro lsC HH locs hL hH hS
    have hmet := am_met (l := l) (G := G) (tb := tb) hM' (as := as) (h := h) (Q1 := Q1) hac hal (fun p e s m args below meth c cx1 => am_Wcs (by omega) (by omega) (X1 hM' (Nat.le_refl _) (Nat.le_refl _) G tb p e s m args below meth c htb cx1))
    have hstk : (as.reverse ++ rest).map (am_tv G) = (as.map (am_tv G)).reverse ++ rest.map (am_tv G) := by
      rw [List.map_append, List.map_reverse]
    obtain ⟨hpl, hnmx, hfit, w1, w2, w3, w4⟩ := hcall
    have hst : ∀ w ∈ am_word M' :: lw_g, ∀ (a' : Array Value) (U : State), s.WarmedH U.vm → w.before a' U = true := fun w hw a' U hW => by
      rcases List.mem_cons.mp hw with rfl | q
      · exact am_stays hW hts _ w4
      · exact am_stays hW hts _ q
    have hlen1 : ∀ sig, parseMethodDescriptor (am_y M').desc = some sig → as.length = sig.parameters.length := fun sig q => by
      have := hnmx; unfold am_nm at this; rw [q] at this; exact (Option.some.inj this).symm
    have fin := am_back (Q1 := Q1) (M' := M') (rest := rest) (pc := pc) (tb := tb) (p := p) (l := l) (e := e) (R := am_rm M) (s := s) (m := m) (args := args) (below := below) (meth := meth) (c := c) (Z := MQ below (am_Qc G tb Q) args s (am_rm M).cells (am_rm M).slots (am_A G)) hL hkc hks hmc hms (fun r h1 q1 q2 => X2 r h1 q1 hM (by omega) (by omega) G tb p e s m args below meth c q2 cx0)
    rcases w1 with w1 | ⟨xc, hxc, w1, w1s⟩
    · exact am_call (rest := rest.map (am_tv G)) (va_runS (As := as.map (am_tv G)) (n := as.length) (bytes := am_cc M') (maxL := am_ml M') (ret := am_ret M') (index := idx) (Ts := lw_g) ⟨hx, hb, hml, hown, hts⟩ hmet ⟨⟨rfl, rfl, hfit.1, hfit.2, hst, List.mem_cons_self, hts _ w4, hts _ w3, hpl, hlen1, hts _ w1⟩, hts _ w2⟩ (am_pre cx0 hH hS) rfl (by rw [List.length_map]) hL.1 hstk (lv_room (by rw [am_sum1 rest hrc]; exact hr8)) hd ⟨by omega, by omega⟩) hS fin
    · exact am_call (rest := rest.map (am_tv G)) (am_runSUp (As := as.map (am_tv G)) (n := as.length) (bytes := am_cc M') (maxL := am_ml M') (ret := am_ret M') (index := idx) (Ts := lw_g) (xc := xc) ⟨hx, hb, hml, hown, hts⟩ hmet rfl rfl hfit.1 hfit.2 hst List.mem_cons_self (hts _ w4) (hts _ w3) hpl hxc hlen1 (hts _ w1) (hts _ w1s) (hts _ w2) (am_pre cx0 hH hS) rfl (by rw [List.length_map]) hL.1 hstk (lv_room (by rw [am_sum1 rest hrc]; exact hr8)) hd ⟨by omega, by omega⟩) hS fin
  · obtain ⟨idx, M', o, as, rest, Q1, rfl, rfl, hcall, hM', hr8, hrc, hac, hal, hmc, hms, X1, X2⟩ := H
    obtain rfl := hl1 (Nat.succ_ne_zero _)
    intro lsC HH locs hL hH hS
    have hmet := am_met (l := l) (G := G) (tb := tb) hM' (as := .ref o :: as) (h := h) (Q1 := Q1) (fun v hv => by
      rcases List.mem_cons.mp hv with rfl | q
      · rfl
      · exact hac v q) hal (fun p e s m args below meth c cx1 => am_Wcs (by omega) (by omega) (X1 hM' (Nat.le_refl _) (Nat.le_refl _) G tb p e s m args below meth c htb cx1))
    have hstk : (as.reverse ++ Value.ref o :: rest).map (am_tv G) = (as.map (am_tv G)).reverse ++ .ref (G.2.2.1 + o) :: rest.map (am_tv G) := by
      rw [List.map_append, List.map_reverse]
      rfl
    obtain ⟨hpl, hnmx, hfit, w1, w2, w3, w4, hini, hrn⟩ := hcall
    have hst : ∀ w ∈ am_word M' :: lw_g, ∀ (a' : Array Value) (U : State), s.WarmedH U.vm → w.before a' U = true := fun w hw a' U hW => by
      rcases List.mem_cons.mp hw with rfl | q
      · exact am_stays hW hts _ w4
      · exact am_stays hW hts _ q
    have hwd : am_word M' = .code (am_y M') (am_cc M') (am_ml M') none := by unfold am_word; rw [hrn]
    have hlen1 : ∀ sig, parseMethodDescriptor (am_y M').desc = some sig → as.length = sig.parameters.length := fun sig q => by
      have := hnmx; unfold am_nm at this; rw [q] at this; exact (Option.some.inj this).symm
    have hwm : Jvm.Cond.code (am_y M') (am_cc M') (am_ml M') none ∈ am_word M' :: lw_g := by rw [← hwd]; exact List.mem_cons_self
    have hcb : (Jvm.Cond.code (am_y M') (am_cc M') (am_ml M') none).before args s = true := by rw [← hwd]; exact hts _ w4
    have fin := am_back (Q1 := Q1) (M' := M') (rest := rest) (pc := pc) (tb := tb) (p := p) (l := l) (e := e) (R := am_rm M) (s := s) (m := m) (args := args) (below := below) (meth := meth) (c := c) (Z := MQ below (am_Qc G tb Q) args s (am_rm M).cells (am_rm M).slots (am_A G)) hL hkc hks hmc hms (fun r h1 q1 q2 => X2 r h1 q1 hM (by omega) (by omega) G tb p e s m args below meth c q2 cx0)
    rcases w1 with w1 | ⟨host, w1⟩
    · exact am_call (rest := rest.map (am_tv G)) (va_runI (b := G.2.2.1 + o) (As := as.map (am_tv G)) (n := as.length) (bytes := am_cc M') (maxL := am_ml M') (index := idx) (Ts := lw_g) ⟨hx, hb, hml, hown, hts⟩ hmet ⟨⟨rfl, rfl, hfit.1, hfit.2, hst, hwm, hcb, hts _ w3, hpl, hlen1, hts _ w1⟩, hini, hts _ w2⟩ (am_pre (as := .ref o :: as) cx0 hH hS) rfl (by rw [List.length_map]) hL.1 hstk (lv_room (by rw [am_sum1 rest hrc]; exact hr8)) hd ⟨by omega, by omega⟩) hS fin
    · exact am_call (rest := rest.map (am_tv G)) (va_runIN (b := G.2.2.1 + o) (host := host) (As := as.map (am_tv G)) (n := as.length) (bytes := am_cc M') (maxL := am_ml M') (index := idx) (Ts := lw_g) ⟨hx, hb, hml, hown, hts⟩ hmet ⟨⟨⟨rfl, rfl, hfit.1, hfit.2, hst, hwm⟩, hcb, hts _ w3, hpl, hlen1, hts _ w1⟩, hini, hts _ w2⟩ (am_pre (as := .ref o :: as) cx0 hH hS) rfl (by rw [List.length_map]) hL.1 hstk (lv_room (by rw [am_sum1 rest hrc]; exact hr8)) hd ⟨by omega, by omega⟩) hS fin
  · obtain ⟨idx, o, rest, rfl, rfl, w1, hf1, hl2, hrc, X⟩ := H
    obtain rfl := hl1 (Nat.succ_ne_zero _)
    intro lsC HH locs hL hH hS
    refine W.objInit hx hb hown (hts _ w1) (hts _ am_ioI) (hts _ am_ioC) rfl (by rw [hml]; exact hL.1) rfl hd hf1 ?_ (X hM hkc hks G tb p e s m args below meth c htb cx0 lsC HH locs hL hH hS)
    show 2 * 0 + ((rest.map (am_tv G)).map fun v => v.category).sum + 12 ≤ _
    rw [am_sum1 rest hrc]
    omega
  · obtain ⟨idx, x, dp, o, sp, o0, rest, n0, n1, rfl, rfl, w1, g0, g1, z1, z2, z3, z4, z5, hf1, hl2, hrc, X⟩ := H
    obtain rfl := hl1 (Nat.succ_ne_zero _)
    exact am_cpy_s cx0 w1 hd g0 g1 z1 z2 z3 z4 z5 hf1 hl2 hrc (X hM hkc hks G tb p e s m args below meth c htb cx0)
  · obtain ⟨idx, ci, r, rfl, hr1, w1, w2, w3, q1, q2, X⟩ := H
    obtain rfl := hl1 (Nat.succ_ne_zero _)
    exact am_new_s cx0 hr1 w1 w2 w3 hd (by omega) (by omega) (am_Wcs (by omega) (by omega) (X hM (by omega) (by omega) G tb p e s m args below meth c htb cx0))
  · obtain ⟨at', t, x, rest, rfl, ha, rfl, z1, z2, q1, q2, X⟩ := H
    obtain rfl := hl1 (Nat.succ_ne_zero _)
    exact am_newa_s cx0 ha hd z1 z2 (by omega) (by omega) (am_Wcs (by omega) (by omega) (X hM (by omega) (by omega) G tb p e s m args below meth c htb cx0))
  · obtain ⟨idx, x, y, rest, rfl, rfl, z1, z2, z3, z4, w1, q1, q2, X⟩ := H
    obtain rfl := hl1 (Nat.succ_ne_zero _)
    exact am_mna_s cx0 w1 hd z1 z2 z3 z4 (by omega) (by omega) (am_Wcs (by omega) (by omega) (X hM (by omega) (by omega) G tb p e s m args below meth c htb cx0))
  · obtain ⟨idx, x, y, z, rest, rfl, rfl, hw, hf1, hl2, hrc, X⟩ := H
    obtain rfl := hl1 (Nat.succ_ne_zero _)
    intro lsC HH locs hL hH hS
    have K := X hM hkc hks G tb p e s m args below meth c htb cx0 lsC HH locs hL hH hS
    have hsum : ((rest.map (am_tv G)).map fun v => v.category).sum + 13 ≤ (am_rm M).locals := by rw [am_sum1 rest hrc]; exact hl2
    rcases hw with ⟨w1, rfl⟩ | ⟨w1, rfl⟩
    · exact va_mmax hx hb (hml.trans hL.1.symm) hown (hts _ w1) (hts _ am_mxS) (hts _ am_mxI) (hts _ am_mxC) hf1 hsum (Nat.sub_le _ _) (Nat.sub_le _ _) hd K
    · exact va_mmin hx hb (hml.trans hL.1.symm) hown (hts _ w1) (hts _ am_mnS) (hts _ am_mxI) (hts _ am_mnC) hf1 hsum (Nat.sub_le _ _) (Nat.sub_le _ _) hd K
end
section
/-- what am_Mok asks, by program: the places of the words in lw_tbl are given -/
def am_fw (M : am_M) (q : Nat × Nat × List Nat) (i : Nat) : Bool := q.2.2.all (fun ci => match vwCl[ci]? with
  | some r => decide (q.2.1 < r.2.2) && decide (lw_tbl[i]? = some (.fieldLink (am_own M) q.1 (r.2.1 q.2.1).1 (r.2.1 q.2.1).2.1 (r.2.1 q.2.1).2.2.1))
  | none => false)
def am_z2 {α : Type} (f : α → Nat → Bool) : List α → List Nat → Bool
  | [], _ => true
  | a :: r, i :: s => f a i && am_z2 f r s
  | _ :: _, [] => false
theorem am_z2_of {α : Type} {f : α → Nat → Bool} : ∀ {l : List α} {s : List Nat}, am_z2 f l s = true → ∀ a ∈ l, ∃ i, f a i = true
  | [], _, _, _, ha => by cases ha
  | a :: r, i :: s, h, b, hb => by
    unfold am_z2 at h
    rw [Bool.and_eq_true] at h
    rcases List.mem_cons.mp hb with rfl | q
    · exact ⟨i, h.1⟩
    · exact am_z2_of h.2 b q
  | _ :: _, [], h, _, _ => by cases h
def am_mok (M : am_M) (fi ci si : List Nat) : Bool :=
  plainName (am_y M).cls && (am_code M).all (fun q => decide (decode (am_cc M) q.1 = .ok q.2) && am_chk1 M q.1 q.2.1 && (decide (am_elen q.2.1 = 0) || decide (q.2.2 = am_elen q.2.1))) &&
  am_z2 (am_fw M) (am_fls M) fi && am_z2 (fun q i => decide (lw_tbl[i]? = some (.constant (am_own M) q.1 q.2))) (am_cns M) ci &&
  am_z2 (fun q i => match am_stn[q.2]? with | some z => decide (lw_tbl[i]? = some (.fieldLink (am_own M) q.1 z.1 z.2 "[I")) | none => false) (am_sts M) si
theorem am_Mok.of {M : am_M} (fi ci si : List Nat) (h : am_mok M fi ci si = true) : am_Mok M := by
  unfold am_mok at h
  simp only [Bool.and_eq_true] at h
  obtain ⟨⟨⟨⟨h1, h2⟩, h3⟩, h4⟩, h5⟩ := h
  refine ⟨h1, trivial, fun q hq => ?_, fun q hq cc hcc => ?_, fun q hq => ?_, fun q hq => ?_⟩
  · have := List.all_eq_true.mp h2 q hq
    simp only [Bool.and_eq_true, Bool.or_eq_true, decide_eq_true_eq] at this
    exact ⟨this.1.1, this.1.2, this.2⟩
  · obtain ⟨i, hi⟩ := am_z2_of h3 q hq
    have := List.all_eq_true.mp hi cc hcc
    split at this
    · rename_i r hr
      simp only [Bool.and_eq_true, decide_eq_true_eq] at this
      exact ⟨r, hr, this.1, am_in.of i this.2 rfl⟩
    · cases this
  · obtain ⟨i, hi⟩ := am_z2_of h4 q hq
    exact am_in.of i (of_decide_eq_true hi) rfl
  · obtain ⟨i, hi⟩ := am_z2_of h5 q hq
    split at hi
    · rename_i z hz
      exact ⟨z, hz, am_in.of i (of_decide_eq_true hi) rfl⟩
    · cases hi
/-! calls, by program -/
def am_plb (s : String) : Bool := decide (s ≠ "java/lang/invoke/MethodHandle") && decide (s ≠ "java/lang/invoke/VarHandle")
theorem am_pl.of {s : String} (h : am_plb s = true) : am_pl s := by
  unfold am_plb at h
  simp only [Bool.and_eq_true, decide_eq_true_eq] at h
  exact h
def am_nmb (x : MethodName) (n : Nat) : Bool := decide ((parseMethodDescriptor x.desc).map (fun d => d.parameters.length) = some n)
theorem am_nm.of {x : MethodName} {n : Nat} (h : am_nmb x n = true) : am_nm x n := by unfold am_nmb at h; unfold am_nm; exact of_decide_eq_true h
def am_fitb (M M' : am_M) : Bool := decide ((am_rm M').frames + 1 ≤ (am_rm M).frames) && decide (8 + (am_ml M' + 11) + (am_rm M').locals ≤ (am_rm M).locals)
theorem am_fit.of {M M' : am_M} (h : am_fitb M M' = true) : am_fit M M' := by
  unfold am_fitb at h
  simp only [Bool.and_eq_true, decide_eq_true_eq] at h
  exact h
def am_cvb (M M' : am_M) (idx ci n i1 i2 i3 i4 i5 : Nat) : Bool := match vwCl[ci]? with
  | some r => decide ((am_y M').cls = r.1) && am_plb (am_y M').cls && am_nmb (am_y M') n && am_fitb M M' && decide (lw_tbl[i1]? = some (.methodLink (am_own M) idx (am_y M'))) && decide (lw_tbl[i2]? = some (.instanceMethod (am_y M'))) && decide (lw_tbl[i3]? = some (.selects r.1 (am_y M') (am_y M'))) && decide (lw_tbl[i4]? = some (.initialized r.1)) && decide (lw_tbl[i5]? = some (am_word M'))
  | none => false
theorem am_CV.of {M M' : am_M} {idx ci n : Nat} (i1 i2 i3 i4 i5 : Nat) (h : am_cvb M M' idx ci n i1 i2 i3 i4 i5 = true) : am_CV M M' idx ci n := by
  unfold am_cvb at h
  split at h
  · rename_i r hr
    simp only [Bool.and_eq_true, decide_eq_true_eq] at h
    obtain ⟨⟨⟨⟨⟨⟨⟨⟨h1, h2⟩, h3⟩, h4⟩, h5⟩, h6⟩, h7⟩, h8⟩, h9⟩ := h
    exact ⟨r, hr, h1, am_pl.of h2, am_nm.of h3, am_fit.of h4, am_in.of _ h5 rfl, am_in.of _ h6 rfl, am_in.of _ h7 rfl, am_in.of _ h8 rfl, am_in.of _ h9 rfl⟩
  · cases h
def am_cub (M M' : am_M) (idx ci n : Nat) (xc owner : String) (i1 i2 i3 i4 i5 i6 i7 : Nat) : Bool := match vwCl[ci]? with
  | some r => am_plb owner && am_nmb ⟨xc, (am_y M').name, (am_y M').desc⟩ n && am_fitb M M' && decide (lw_tbl[i1]? = some (.methodLink (am_own M) idx ⟨xc, (am_y M').name, (am_y M').desc⟩)) && decide (lw_tbl[i2]? = some (.sameMethod xc owner (am_y M').name (am_y M').desc)) && decide (lw_tbl[i3]? = some (.selects r.1 ⟨xc, (am_y M').name, (am_y M').desc⟩ (am_y M'))) && decide (lw_tbl[i4]? = some (.instanceMethod (am_y M'))) && decide (lw_tbl[i5]? = some (.initialized (am_y M').cls)) && decide (lw_tbl[i6]? = some (am_word M')) && (decide (am_y M' = ⟨owner, (am_y M').name, (am_y M').desc⟩) || decide (lw_tbl[i7]? = some (.declares ⟨owner, (am_y M').name, (am_y M').desc⟩)))
  | none => false
theorem am_CU.of {M M' : am_M} {idx ci n : Nat} (xc owner : String) (i1 i2 i3 i4 i5 i6 i7 : Nat) (h : am_cub M M' idx ci n xc owner i1 i2 i3 i4 i5 i6 i7 = true) : am_CU M M' idx ci n := by
  unfold am_cub at h
  split at h
  · rename_i r hr
    simp only [Bool.and_eq_true, Bool.or_eq_true, decide_eq_true_eq] at h
    obtain ⟨⟨⟨⟨⟨⟨⟨⟨⟨h1, h2⟩, h3⟩, h4⟩, h5⟩, h6⟩, h7⟩, h8⟩, h9⟩, h10⟩ := h
    refine ⟨r, ⟨xc, (am_y M').name, (am_y M').desc⟩, owner, hr, am_pl.of h1, am_nm.of h2, am_fit.of h3, am_in.of _ h4 rfl, am_in.of _ h5 rfl, am_in.of _ h6 rfl, am_in.of _ h7 rfl, am_in.of _ h8 rfl, am_in.of _ h9 rfl, ?_⟩
    rcases h10 with q | q
    · exact Or.inl q
    · exact Or.inr (am_in.of _ q rfl)
  · cases h
def am_csb (M M' : am_M) (idx n : Nat) (xc : String) (i1 i2 i3 i4 i5 : Nat) : Bool := am_plb (am_y M').cls && am_nmb (am_y M') n && am_fitb M M' && ((decide (xc = "") && decide (lw_tbl[i1]? = some (.methodLink (am_own M) idx (am_y M')))) || (am_plb xc && decide (lw_tbl[i1]? = some (.methodLink (am_own M) idx ⟨xc, (am_y M').name, (am_y M').desc⟩)) && decide (lw_tbl[i2]? = some (.sameMethod xc (am_y M').cls (am_y M').name (am_y M').desc)))) && decide (lw_tbl[i3]? = some (.static (am_y M'))) && decide (lw_tbl[i4]? = some (.initialized (am_y M').cls)) && decide (lw_tbl[i5]? = some (am_word M'))
theorem am_CS.of {M M' : am_M} {idx n : Nat} (xc : String) (i1 i2 i3 i4 i5 : Nat) (h : am_csb M M' idx n xc i1 i2 i3 i4 i5 = true) : am_CS M M' idx n := by
  unfold am_csb at h
  simp only [Bool.and_eq_true, Bool.or_eq_true, decide_eq_true_eq] at h
  obtain ⟨⟨⟨⟨⟨⟨h1, h2⟩, h3⟩, h4⟩, h5⟩, h6⟩, h7⟩ := h
  refine ⟨am_pl.of h1, am_nm.of h2, am_fit.of h3, ?_, am_in.of _ h5 rfl, am_in.of _ h6 rfl, am_in.of _ h7 rfl⟩
  rcases h4 with q | q
  · exact Or.inl (am_in.of _ q.2 rfl)
  · exact Or.inr ⟨xc, am_pl.of q.1.1, am_in.of _ q.1.2 rfl, am_in.of _ q.2 rfl⟩
def am_cib (M M' : am_M) (idx n : Nat) (host : String) (i1 i2 i3 i4 : Nat) : Bool := am_plb (am_y M').cls && am_nmb (am_y M') n && am_fitb M M' && ((decide (host = "") && decide (lw_tbl[i1]? = some (.methodLink (am_own M) idx (am_y M')))) || decide (lw_tbl[i1]? = some (.methodLinkNest (am_own M) idx (am_y M') host))) && decide (lw_tbl[i2]? = some (.instanceMethod (am_y M'))) && decide (lw_tbl[i3]? = some (.initialized (am_y M').cls)) && decide (lw_tbl[i4]? = some (am_word M')) && decide ((am_y M').name = "<init>") && decide (am_ret M' = none)
theorem am_CI.of {M M' : am_M} {idx n : Nat} (host : String) (i1 i2 i3 i4 : Nat) (h : am_cib M M' idx n host i1 i2 i3 i4 = true) : am_CI M M' idx n := by
  unfold am_cib at h
  simp only [Bool.and_eq_true, Bool.or_eq_true, decide_eq_true_eq] at h
  obtain ⟨⟨⟨⟨⟨⟨⟨⟨h1, h2⟩, h3⟩, h4⟩, h5⟩, h6⟩, h7⟩, h8⟩, h9⟩ := h
  refine ⟨am_pl.of h1, am_nm.of h2, am_fit.of h3, ?_, am_in.of _ h5 rfl, am_in.of _ h6 rfl, am_in.of _ h7 rfl, h8, h9⟩
  rcases h4 with q | q
  · exact Or.inl (am_in.of _ q.2 rfl)
  · exact Or.inr ⟨host, am_in.of _ q rfl⟩
/-! the rules of the abstract run, as they are used -/
section GO
variable {M : am_M} {pc kc ks : Nat} {ls st : List Value} {h : am_H} {Q : am_Q}
def am_run (M : am_M) : Nat → Nat → List Value → List Value → am_H → Option am_F
  | 0, pc, ls, st, h => some (pc, ls, st, h)
  | n + 1, pc, ls, st, h => match am_lk pc (am_code M) with
    | some (i, _) => match am_step M i pc ls st h with
      | some (pc', ls', st', h') => am_run M n pc' ls' st' h'
      | none => none
    | none => none
theorem go_s (n : Nat) {pc' : Nat} {ls' st' : List Value} {h' : am_H} (hr : am_run M n pc ls st h = some (pc', ls', st', h')) (g : am_Go (M, pc', ls', st', h', kc, ks, Q)) : am_Go (M, pc, ls, st, h, kc, ks, Q) := by
  induction n generalizing pc ls st h with
  | zero => cases hr; exact g
  | succ n ih =>
    unfold am_run at hr
    split at hr
    · rename_i i len hi
      split at hr
      · rename_i pc1 ls1 st1 h1 hs
        exact am_Go.intro ⟨i, len, hi, Or.inl ⟨pc1, ls1, st1, h1, hs, ih hr⟩⟩
      · cases hr
    · cases hr
theorem go_m {i : Instr} {len : Nat} {P : Prop} {pc' : Nat} {ls' st' : List Value} {h' : am_H} (hi : am_lk pc (am_code M) = some (i, len)) (hm : am_mem M i pc ls st h = some (P, pc', ls', st', h')) (hP : P) (g : am_Go (M, pc', ls', st', h', kc, ks, Q)) : am_Go (M, pc, ls, st, h, kc, ks, Q) :=
  am_Go.intro ⟨i, len, hi, Or.inr (Or.inl ⟨P, pc', ls', st', h', hm, hP, g⟩)⟩
theorem go_if {c : Prop} [Decidable c] {a b : Nat} (t : c → am_Go (M, a, ls, st, h, kc, ks, Q)) (f : ¬ c → am_Go (M, b, ls, st, h, kc, ks, Q)) : am_Go (M, (if c then a else b), ls, st, h, kc, ks, Q) := by
  by_cases q : c
  · rw [if_pos q]; exact t q
  · rw [if_neg q]; exact f q
theorem go_ret {len : Nat} {v : Int32} (hi : am_lk pc (am_code M) = some (.ireturn, len)) (hr : am_ret M = some .int) (q : Q (some (.int v)) h) : am_Go (M, pc, ls, [.int v], h, kc, ks, Q) :=
  am_Go.intro ⟨.ireturn, len, hi, Or.inr (Or.inr (Or.inl ⟨rfl, v, rfl, Or.inl hr, q⟩))⟩
theorem go_retz {len : Nat} {v : Int32} (hi : am_lk pc (am_code M) = some (.ireturn, len)) (hr : am_ret M = some .boolean) (hv : v = 0 ∨ v = 1) (q : Q (some (.int v)) h) : am_Go (M, pc, ls, [.int v], h, kc, ks, Q) :=
  am_Go.intro ⟨.ireturn, len, hi, Or.inr (Or.inr (Or.inl ⟨rfl, v, rfl, Or.inr ⟨hr, hv⟩, q⟩))⟩
theorem go_reta {len : Nat} {v : Value} {n : String} (hi : am_lk pc (am_code M) = some (.areturn, len)) (hr : am_ret M = some (.object n)) (hv : v = .null ∨ ∃ a, v = .ref a) (q : Q (some v) h) : am_Go (M, pc, ls, [v], h, kc, ks, Q) :=
  am_Go.intro ⟨.areturn, len, hi, Or.inr (Or.inr (Or.inr (Or.inl ⟨rfl, v, n, rfl, hv, hr, q⟩)))⟩
theorem go_retv {len : Nat} (hi : am_lk pc (am_code M) = some (.return_, len)) (hr : am_ret M = none) (q : Q none h) : am_Go (M, pc, ls, [], h, kc, ks, Q) :=
  am_Go.intro ⟨.return_, len, hi, Or.inr (Or.inr (Or.inr (Or.inr (Or.inl ⟨rfl, rfl, hr, q⟩))))⟩
def am_c1 (l : List Value) : Bool := l.all (fun v => match v with | .long _ => false | .double _ => false | _ => true)
theorem am_c1_of {l : List Value} (h : am_c1 l = true) : ∀ v ∈ l, v.category = 1 := fun v hv => by
  have := List.all_eq_true.mp h v hv
  cases v <;> first | rfl | cases this
theorem go_cv {idx len : Nat} {M' : am_M} (ci o : Nat) (as rest : List Value) (hi : am_lk pc (am_code M) = some (.invokevirtual idx, len)) (ho : h.1 o = .inl ci) (hc : am_CV M M' idx ci as.length) (hM : am_Mok M') (hb : (Nat.ble rest.length 8 && am_c1 rest && am_c1 as && Nat.ble (as.length + 1) (am_ml M')) = true) (h1 : (am_rm M').cells ≤ kc) (h2 : (am_rm M').slots ≤ ks)
    (g : am_Go (M', 0, am_ent M' (.ref o :: as), [], h, (am_rm M').cells, (am_rm M').slots, fun r h1 => am_Go (M, pc + 3, ls, r.toList ++ rest, h1, kc - (am_rm M').cells, ks - (am_rm M').slots, Q))) (hst : st = as.reverse ++ .ref o :: rest := by rfl) : am_Go (M, pc, ls, st, h, kc, ks, Q) := by
  simp only [Bool.and_eq_true] at hb
  obtain ⟨⟨⟨b1, b2⟩, b3⟩, b4⟩ := hb
  exact am_Go.intro ⟨.invokevirtual idx, len, hi, Or.inr (Or.inr (Or.inr (Or.inr (Or.inr (Or.inl ⟨idx, M', ci, o, as, rest, _, rfl, hst, ho, Or.inl hc, hM, Nat.le_of_ble_eq_true b1, am_c1_of b2, am_c1_of b3, Nat.le_of_ble_eq_true b4, h1, h2, g, fun r h1 q => q⟩)))))⟩
theorem go_cu {idx len : Nat} {M' : am_M} (ci o : Nat) (as rest : List Value) (hi : am_lk pc (am_code M) = some (.invokevirtual idx, len)) (ho : h.1 o = .inl ci) (hc : am_CU M M' idx ci as.length) (hM : am_Mok M') (hb : (Nat.ble rest.length 8 && am_c1 rest && am_c1 as && Nat.ble (as.length + 1) (am_ml M')) = true) (h1 : (am_rm M').cells ≤ kc) (h2 : (am_rm M').slots ≤ ks)
    (g : am_Go (M', 0, am_ent M' (.ref o :: as), [], h, (am_rm M').cells, (am_rm M').slots, fun r h1 => am_Go (M, pc + 3, ls, r.toList ++ rest, h1, kc - (am_rm M').cells, ks - (am_rm M').slots, Q))) (hst : st = as.reverse ++ .ref o :: rest := by rfl) : am_Go (M, pc, ls, st, h, kc, ks, Q) := by
  simp only [Bool.and_eq_true] at hb
  obtain ⟨⟨⟨b1, b2⟩, b3⟩, b4⟩ := hb
  exact am_Go.intro ⟨.invokevirtual idx, len, hi, Or.inr (Or.inr (Or.inr (Or.inr (Or.inr (Or.inl ⟨idx, M', ci, o, as, rest, _, rfl, hst, ho, Or.inr hc, hM, Nat.le_of_ble_eq_true b1, am_c1_of b2, am_c1_of b3, Nat.le_of_ble_eq_true b4, h1, h2, g, fun r h1 q => q⟩)))))⟩
theorem go_cs {idx len : Nat} {M' : am_M} (as rest : List Value) (hi : am_lk pc (am_code M) = some (.invokestatic idx, len)) (hc : am_CS M M' idx as.length) (hM : am_Mok M') (hb : (Nat.ble rest.length 8 && am_c1 rest && am_c1 as && Nat.ble as.length (am_ml M')) = true) (h1 : (am_rm M').cells ≤ kc) (h2 : (am_rm M').slots ≤ ks)
    (g : am_Go (M', 0, am_ent M' as, [], h, (am_rm M').cells, (am_rm M').slots, fun r h1 => am_Go (M, pc + 3, ls, r.toList ++ rest, h1, kc - (am_rm M').cells, ks - (am_rm M').slots, Q))) (hst : st = as.reverse ++ rest := by rfl) : am_Go (M, pc, ls, st, h, kc, ks, Q) := by
  simp only [Bool.and_eq_true] at hb
  obtain ⟨⟨⟨b1, b2⟩, b3⟩, b4⟩ := hb
  exact am_Go.intro ⟨.invokestatic idx, len, hi, Or.inr (Or.inr (Or.inr (Or.inr (Or.inr (Or.inr (Or.inl ⟨idx, M', as, rest, _, rfl, hst, hc, hM, Nat.le_of_ble_eq_true b1, am_c1_of b2, am_c1_of b3, Nat.le_of_ble_eq_true b4, h1, h2, g, fun r h1 q => q⟩))))))⟩
theorem go_ci {idx len : Nat} {M' : am_M} (o : Nat) (as rest : List Value) (hi : am_lk pc (am_code M) = some (.invokespecial idx, len)) (hc : am_CI M M' idx as.length) (hM : am_Mok M') (hb : (Nat.ble rest.length 8 && am_c1 rest && am_c1 as && Nat.ble (as.length + 1) (am_ml M')) = true) (h1 : (am_rm M').cells ≤ kc) (h2 : (am_rm M').slots ≤ ks)
    (g : am_Go (M', 0, am_ent M' (.ref o :: as), [], h, (am_rm M').cells, (am_rm M').slots, fun r h1 => am_Go (M, pc + 3, ls, r.toList ++ rest, h1, kc - (am_rm M').cells, ks - (am_rm M').slots, Q))) (hst : st = as.reverse ++ .ref o :: rest := by rfl) : am_Go (M, pc, ls, st, h, kc, ks, Q) := by
  simp only [Bool.and_eq_true] at hb
  obtain ⟨⟨⟨b1, b2⟩, b3⟩, b4⟩ := hb
  exact am_Go.intro ⟨.invokespecial idx, len, hi, Or.inr (Or.inr (Or.inr (Or.inr (Or.inr (Or.inr (Or.inr (Or.inl ⟨idx, M', o, as, rest, _, rfl, hst, hc, hM, Nat.le_of_ble_eq_true b1, am_c1_of b2, am_c1_of b3, Nat.le_of_ble_eq_true b4, h1, h2, g, fun r h1 q => q⟩)))))))⟩
theorem go_obj {idx len : Nat} (i : Nat) {o : Nat} {rest : List Value} (hi : am_lk pc (am_code M) = some (.invokespecial idx, len)) (hl : lw_tbl[i]? = some (.methodLink (am_own M) idx objectInit)) (hb : (Nat.ble 1 (am_rm M).frames && Nat.ble (rest.length + 12) (am_rm M).locals && am_c1 rest) = true)
    (g : am_Go (M, pc + 3, ls, rest, h, kc, ks, Q)) : am_Go (M, pc, ls, .ref o :: rest, h, kc, ks, Q) := by
  simp only [Bool.and_eq_true] at hb
  obtain ⟨⟨b1, b2⟩, b3⟩ := hb
  exact am_Go.intro ⟨.invokespecial idx, len, hi, Or.inr (Or.inr (Or.inr (Or.inr (Or.inr (Or.inr (Or.inr (Or.inr (Or.inl ⟨idx, o, rest, rfl, rfl, am_in.of i hl rfl, Nat.le_of_ble_eq_true b1, Nat.le_of_ble_eq_true b2, am_c1_of b3, g⟩))))))))⟩
theorem go_cpy {idx len : Nat} (i : Nat) {x dp sp : Int32} {o o0 n0 n1 : Nat} {rest : List Value} (hi : am_lk pc (am_code M) = some (.invokestatic idx, len)) (hl : lw_tbl[i]? = some (.methodLink (am_own M) idx arraycopyName)) (g0 : h.1 o0 = .inr (0, n0)) (g1 : h.1 o = .inr (0, n1)) (z1 : ¬ sp < 0) (z2 : ¬ dp < 0) (z3 : ¬ x < 0) (z4 : sp.toNatClampNeg + x.toNatClampNeg ≤ n0) (z5 : dp.toNatClampNeg + x.toNatClampNeg ≤ n1) (hb : (Nat.ble 1 (am_rm M).frames && Nat.ble (rest.length + 30) (am_rm M).locals && am_c1 rest) = true)
    (g : am_Go (M, pc + 3, ls, rest, (h.1, h.2.1, (fun i j => if i = o then va_cpy (h.2.2.1 o0) (h.2.2.1 o) sp.toNatClampNeg dp.toNatClampNeg x.toNatClampNeg j else h.2.2.1 i j), h.2.2.2), kc, ks, Q)) : am_Go (M, pc, ls, .int x :: .int dp :: .ref o :: .int sp :: .ref o0 :: rest, h, kc, ks, Q) := by
  simp only [Bool.and_eq_true] at hb
  obtain ⟨⟨b1, b2⟩, b3⟩ := hb
  exact am_Go.intro ⟨.invokestatic idx, len, hi, Or.inr (Or.inr (Or.inr (Or.inr (Or.inr (Or.inr (Or.inr (Or.inr (Or.inr (Or.inl ⟨idx, x, dp, o, sp, o0, rest, n0, n1, rfl, rfl, am_in.of i hl rfl, g0, g1, z1, z2, z3, z4, z5, Nat.le_of_ble_eq_true b1, Nat.le_of_ble_eq_true b2, am_c1_of b3, g⟩)))))))))⟩
theorem go_new {idx len : Nat} (ci i1 i2 i3 : Nat) {r : vw_C} (hi : am_lk pc (am_code M) = some (.new idx, len)) (hr : vwCl[ci]? = some r) (h1 : lw_tbl[i1]? = some (.classLink (am_own M) idx r.1)) (h2 : lw_tbl[i2]? = some (.instantiable r.1 r.2.2)) (h3 : lw_tbl[i3]? = some (.initialized r.1)) (hk1 : 1 ≤ kc) (hk2 : r.2.2 ≤ ks)
    (g : am_Go (M, pc + 3, ls, .ref h.2.2.2.1 :: st, am_new h (.inl ci), kc - 1, ks - r.2.2, Q)) : am_Go (M, pc, ls, st, h, kc, ks, Q) :=
  am_Go.intro ⟨.new idx, len, hi, Or.inr (Or.inr (Or.inr (Or.inr (Or.inr (Or.inr (Or.inr (Or.inr (Or.inr (Or.inr (Or.inl ⟨idx, ci, r, rfl, hr, am_in.of i1 h1 rfl, am_in.of i2 h2 rfl, am_in.of i3 h3 rfl, hk1, hk2, g⟩))))))))))⟩
theorem go_newa {len t : Nat} {at' : ArrayType} {x : Int32} {rest : List Value} (n : Nat) (hi : am_lk pc (am_code M) = some (.newarray at', len)) (ha : am_arr at' = some t) (hn : x = nI n) (hb : (Nat.ble n 100000 && Nat.ble 1 kc && Nat.ble n ks) = true)
    (g : am_Go (M, pc + 2, ls, .ref h.2.2.2.1 :: rest, am_new h (.inr (t, n)), kc - 1, ks - n, Q)) : am_Go (M, pc, ls, .int x :: rest, h, kc, ks, Q) := by
  simp only [Bool.and_eq_true] at hb
  obtain ⟨⟨b1, b2⟩, b3⟩ := hb
  have b1 := Nat.le_of_ble_eq_true b1
  have hc : x.toNatClampNeg = n := by rw [hn]; exact nI_clamp (by omega)
  refine am_Go.intro ⟨.newarray at', len, hi, Or.inr (Or.inr (Or.inr (Or.inr (Or.inr (Or.inr (Or.inr (Or.inr (Or.inr (Or.inr (Or.inr (Or.inl ⟨at', t, x, rest, rfl, ha, rfl, by rw [hn]; exact nI_pos (by omega), by rw [hc]; exact b1, Nat.le_of_ble_eq_true b2, by rw [hc]; exact Nat.le_of_ble_eq_true b3, ?_⟩)))))))))))⟩
  rw [hc]; exact g
theorem go_mna {idx len : Nat} (i : Nat) {x y : Int32} {rest : List Value} (n k : Nat) (hi : am_lk pc (am_code M) = some (.multianewarray idx 2, len)) (hl : lw_tbl[i]? = some (.classLink (am_own M) idx "[[I")) (hn : x = nI n) (hm : y = nI k) (hb : (Nat.ble n 10000 && Nat.ble k 10000 && Nat.ble (1 + n) kc && Nat.ble (n + n * k) ks) = true)
    (g : am_Go (M, pc + 4, ls, .ref h.2.2.2.1 :: rest, am_new2 h n k, kc - (1 + n), ks - (n + n * k), Q)) : am_Go (M, pc, ls, .int y :: .int x :: rest, h, kc, ks, Q) := by
  simp only [Bool.and_eq_true] at hb
  obtain ⟨⟨⟨b1, b2⟩, b3⟩, b4⟩ := hb
  have b1 := Nat.le_of_ble_eq_true b1
  have b2 := Nat.le_of_ble_eq_true b2
  have hc : x.toNatClampNeg = n := by rw [hn]; exact nI_clamp (by omega)
  have hd : y.toNatClampNeg = k := by rw [hm]; exact nI_clamp (by omega)
  refine am_Go.intro ⟨.multianewarray idx 2, len, hi, Or.inr (Or.inr (Or.inr (Or.inr (Or.inr (Or.inr (Or.inr (Or.inr (Or.inr (Or.inr (Or.inr (Or.inr (Or.inl ⟨idx, x, y, rest, rfl, rfl, by rw [hn]; exact nI_pos (by omega), by rw [hm]; exact nI_pos (by omega), by rw [hc]; exact b1, by rw [hd]; exact b2, am_in.of i hl rfl, by rw [hc]; exact Nat.le_of_ble_eq_true b3, by rw [hc, hd]; exact Nat.le_of_ble_eq_true b4, ?_⟩))))))))))))⟩
  rw [hc, hd]; exact g
theorem go_max {idx len : Nat} (i : Nat) {x y : Int32} {rest : List Value} (hi : am_lk pc (am_code M) = some (.invokestatic idx, len)) (hl : lw_tbl[i]? = some (.methodLink (am_own M) idx Lib.Math.max.name)) (hb : (Nat.ble 1 (am_rm M).frames && Nat.ble (rest.length + 13) (am_rm M).locals && am_c1 rest) = true)
    (g : am_Go (M, pc + 3, ls, .int (if x < y then y else x) :: rest, h, kc, ks, Q)) : am_Go (M, pc, ls, .int y :: .int x :: rest, h, kc, ks, Q) := by
  simp only [Bool.and_eq_true] at hb
  obtain ⟨⟨b1, b2⟩, b3⟩ := hb
  exact am_Go.intro ⟨.invokestatic idx, len, hi, Or.inr (Or.inr (Or.inr (Or.inr (Or.inr (Or.inr (Or.inr (Or.inr (Or.inr (Or.inr (Or.inr (Or.inr (Or.inr ⟨idx, x, y, _, rest, rfl, rfl, Or.inl ⟨am_in.of i hl rfl, rfl⟩, Nat.le_of_ble_eq_true b1, Nat.le_of_ble_eq_true b2, am_c1_of b3, g⟩))))))))))))⟩
theorem go_min {idx len : Nat} (i : Nat) {x y : Int32} {rest : List Value} (hi : am_lk pc (am_code M) = some (.invokestatic idx, len)) (hl : lw_tbl[i]? = some (.methodLink (am_own M) idx Lib.Math.min.name)) (hb : (Nat.ble 1 (am_rm M).frames && Nat.ble (rest.length + 13) (am_rm M).locals && am_c1 rest) = true)
    (g : am_Go (M, pc + 3, ls, .int (if y < x then y else x) :: rest, h, kc, ks, Q)) : am_Go (M, pc, ls, .int y :: .int x :: rest, h, kc, ks, Q) := by
  simp only [Bool.and_eq_true] at hb
  obtain ⟨⟨b1, b2⟩, b3⟩ := hb
  exact am_Go.intro ⟨.invokestatic idx, len, hi, Or.inr (Or.inr (Or.inr (Or.inr (Or.inr (Or.inr (Or.inr (Or.inr (Or.inr (Or.inr (Or.inr (Or.inr (Or.inr ⟨idx, x, y, _, rest, rfl, rfl, Or.inr ⟨am_in.of i hl rfl, rfl⟩, Nat.le_of_ble_eq_true b1, Nat.le_of_ble_eq_true b2, am_c1_of b3, g⟩))))))))))))⟩
end GO
end
section
def mJ7_fill_53178 : am_M := (yJ7_fill_53178, cJ7_fill_53178, 4, (Option.none : Option Jvm.ClassFile.FieldType),
  [(0, .iconst 0, 1),
  (1, .istore_n 2, 1),
  (2, .aload_n 0, 1),
  (3, .arraylength, 1),
  (4, .istore_n 3, 1),
  (5, .iload_n 2, 1),
  (6, .iload_n 3, 1),
  (7, .if_icmp .ge 13, 3),
  (10, .aload_n 0, 1),
  (11, .iload_n 2, 1),
  (12, .iload_n 1, 1),
  (13, .iastore, 1),
  (14, .iinc 2 1, 3),
  (17, .goto (-12), 3),
  (20, .return_, 1)],
  [], [], [], ⟨0, 0, 0, 0⟩)
theorem okJ7_fill_53178 : am_Mok mJ7_fill_53178 := am_Mok.of [] [] [] (by decide +kernel)
end
section
def mL_law : am_M := (x, code, 4, ret,
  [(0, .new 7, 3),
  (3, .dup, 1),
  (4, .invokespecial 9, 3),
  (7, .astore_n 1, 1),
  (8, .new 10, 3),
  (11, .dup, 1),
  (12, .invokespecial 12, 3),
  (15, .astore_n 2, 1),
  (16, .iconst 0, 1),
  (17, .istore_n 3, 1),
  (18, .iload_n 3, 1),
  (19, .aload_n 0, 1),
  (20, .arraylength, 1),
  (21, .bipush 6, 2),
  (23, .isub, 1),
  (24, .if_icmp .gt 597, 3),
  (27, .aload_n 0, 1),
  (28, .iload_n 3, 1),
  (29, .iaload, 1),
  (30, .bipush 15, 2),
  (32, .iand, 1),
  (33, .tableswitch 582 0 14 #[75, 88, 151, 164, 229, 262, 295, 328, 371, 394, 427, 460, 493, 526, 559], 75),
  (108, .aload_n 1, 1),
  (109, .invokevirtual 13, 3),
  (112, .aload_n 2, 1),
  (113, .invokevirtual 17, 3),
  (116, .if_icmp .eq 499, 3),
  (119, .iconst 0, 1),
  (120, .ireturn, 1),
  (121, .aload_n 1, 1),
  (122, .aload_n 0, 1),
  (123, .iload_n 3, 1),
  (124, .iconst 1, 1),
  (125, .iadd, 1),
  (126, .iaload, 1),
  (127, .aload_n 0, 1),
  (128, .iload_n 3, 1),
  (129, .iconst 2, 1),
  (130, .iadd, 1),
  (131, .iaload, 1),
  (132, .aload_n 0, 1),
  (133, .iload_n 3, 1),
  (134, .iconst 3, 1),
  (135, .iadd, 1),
  (136, .iaload, 1),
  (137, .aload_n 0, 1),
  (138, .iload_n 3, 1),
  (139, .iconst 4, 1),
  (140, .iadd, 1),
  (141, .iaload, 1),
  (142, .aload_n 0, 1),
  (143, .iload_n 3, 1),
  (144, .iconst 5, 1),
  (145, .iadd, 1),
  (146, .iaload, 1),
  (147, .invokevirtual 18, 3),
  (150, .aload_n 2, 1),
  (151, .aload_n 0, 1),
  (152, .iload_n 3, 1),
  (153, .iconst 1, 1),
  (154, .iadd, 1),
  (155, .iaload, 1),
  (156, .aload_n 0, 1),
  (157, .iload_n 3, 1),
  (158, .iconst 2, 1),
  (159, .iadd, 1),
  (160, .iaload, 1),
  (161, .aload_n 0, 1),
  (162, .iload_n 3, 1),
  (163, .iconst 3, 1),
  (164, .iadd, 1),
  (165, .iaload, 1),
  (166, .aload_n 0, 1),
  (167, .iload_n 3, 1),
  (168, .iconst 4, 1),
  (169, .iadd, 1),
  (170, .iaload, 1),
  (171, .aload_n 0, 1),
  (172, .iload_n 3, 1),
  (173, .iconst 5, 1),
  (174, .iadd, 1),
  (175, .iaload, 1),
  (176, .invokevirtual 22, 3),
  (179, .if_icmp .eq 436, 3),
  (182, .iconst 0, 1),
  (183, .ireturn, 1),
  (184, .aload_n 1, 1),
  (185, .invokevirtual 23, 3),
  (188, .aload_n 2, 1),
  (189, .invokevirtual 26, 3),
  (192, .if_icmp .eq 423, 3),
  (195, .iconst 0, 1),
  (196, .ireturn, 1),
  (197, .aload_n 1, 1),
  (198, .aload_n 0, 1),
  (199, .iload_n 3, 1),
  (200, .iconst 1, 1),
  (201, .iadd, 1),
  (202, .iaload, 1),
  (203, .ifCond .eq 7, 3),
  (206, .iconst 1, 1),
  (207, .goto 4, 3),
  (210, .iconst 0, 1),
  (211, .aload_n 0, 1),
  (212, .iload_n 3, 1),
  (213, .iconst 2, 1),
  (214, .iadd, 1),
  (215, .iaload, 1),
  (216, .ifCond .eq 7, 3),
  (219, .iconst 1, 1),
  (220, .goto 4, 3),
  (223, .iconst 0, 1),
  (224, .invokevirtual 27, 3),
  (227, .aload_n 2, 1),
  (228, .aload_n 0, 1),
  (229, .iload_n 3, 1),
  (230, .iconst 1, 1),
  (231, .iadd, 1),
  (232, .iaload, 1),
  (233, .ifCond .eq 7, 3),
  (236, .iconst 1, 1),
  (237, .goto 4, 3),
  (240, .iconst 0, 1),
  (241, .aload_n 0, 1),
  (242, .iload_n 3, 1),
  (243, .iconst 2, 1),
  (244, .iadd, 1),
  (245, .iaload, 1),
  (246, .ifCond .eq 7, 3),
  (249, .iconst 1, 1),
  (250, .goto 4, 3),
  (253, .iconst 0, 1),
  (254, .invokevirtual 31, 3),
  (257, .if_icmp .eq 358, 3),
  (260, .iconst 0, 1),
  (261, .ireturn, 1),
  (262, .aload_n 1, 1),
  (263, .aload_n 0, 1),
  (264, .iload_n 3, 1),
  (265, .iconst 1, 1),
  (266, .iadd, 1),
  (267, .iaload, 1),
  (268, .aload_n 0, 1),
  (269, .iload_n 3, 1),
  (270, .iconst 2, 1),
  (271, .iadd, 1),
  (272, .iaload, 1),
  (273, .invokevirtual 32, 3),
  (276, .aload_n 2, 1),
  (277, .aload_n 0, 1),
  (278, .iload_n 3, 1),
  (279, .iconst 1, 1),
  (280, .iadd, 1),
  (281, .iaload, 1),
  (282, .aload_n 0, 1),
  (283, .iload_n 3, 1),
  (284, .iconst 2, 1),
  (285, .iadd, 1),
  (286, .iaload, 1),
  (287, .invokevirtual 36, 3),
  (290, .if_icmp .eq 325, 3),
  (293, .iconst 0, 1),
  (294, .ireturn, 1),
  (295, .aload_n 1, 1),
  (296, .aload_n 0, 1),
  (297, .iload_n 3, 1),
  (298, .iconst 1, 1),
  (299, .iadd, 1),
  (300, .iaload, 1),
  (301, .aload_n 0, 1),
  (302, .iload_n 3, 1),
  (303, .iconst 2, 1),
  (304, .iadd, 1),
  (305, .iaload, 1),
  (306, .invokevirtual 37, 3),
  (309, .aload_n 2, 1),
  (310, .aload_n 0, 1),
  (311, .iload_n 3, 1),
  (312, .iconst 1, 1),
  (313, .iadd, 1),
  (314, .iaload, 1),
  (315, .aload_n 0, 1),
  (316, .iload_n 3, 1),
  (317, .iconst 2, 1),
  (318, .iadd, 1),
  (319, .iaload, 1),
  (320, .invokevirtual 40, 3),
  (323, .if_icmp .eq 292, 3),
  (326, .iconst 0, 1),
  (327, .ireturn, 1),
  (328, .aload_n 1, 1),
  (329, .aload_n 0, 1),
  (330, .iload_n 3, 1),
  (331, .iconst 1, 1),
  (332, .iadd, 1),
  (333, .iaload, 1),
  (334, .aload_n 0, 1),
  (335, .iload_n 3, 1),
  (336, .iconst 2, 1),
  (337, .iadd, 1),
  (338, .iaload, 1),
  (339, .invokevirtual 41, 3),
  (342, .aload_n 2, 1),
  (343, .aload_n 0, 1),
  (344, .iload_n 3, 1),
  (345, .iconst 1, 1),
  (346, .iadd, 1),
  (347, .iaload, 1),
  (348, .aload_n 0, 1),
  (349, .iload_n 3, 1),
  (350, .iconst 2, 1),
  (351, .iadd, 1),
  (352, .iaload, 1),
  (353, .invokevirtual 44, 3),
  (356, .if_icmp .eq 259, 3),
  (359, .iconst 0, 1),
  (360, .ireturn, 1),
  (361, .aload_n 1, 1),
  (362, .aload_n 0, 1),
  (363, .iload_n 3, 1),
  (364, .iconst 1, 1),
  (365, .iadd, 1),
  (366, .iaload, 1),
  (367, .aload_n 0, 1),
  (368, .iload_n 3, 1),
  (369, .iconst 2, 1),
  (370, .iadd, 1),
  (371, .iaload, 1),
  (372, .aload_n 0, 1),
  (373, .iload_n 3, 1),
  (374, .iconst 3, 1),
  (375, .iadd, 1),
  (376, .iaload, 1),
  (377, .invokevirtual 45, 3),
  (380, .aload_n 2, 1),
  (381, .aload_n 0, 1),
  (382, .iload_n 3, 1),
  (383, .iconst 1, 1),
  (384, .iadd, 1),
  (385, .iaload, 1),
  (386, .aload_n 0, 1),
  (387, .iload_n 3, 1),
  (388, .iconst 2, 1),
  (389, .iadd, 1),
  (390, .iaload, 1),
  (391, .aload_n 0, 1),
  (392, .iload_n 3, 1),
  (393, .iconst 3, 1),
  (394, .iadd, 1),
  (395, .iaload, 1),
  (396, .invokevirtual 49, 3),
  (399, .if_icmp .eq 216, 3),
  (402, .iconst 0, 1),
  (403, .ireturn, 1),
  (404, .aload_n 1, 1),
  (405, .aload_n 0, 1),
  (406, .iload_n 3, 1),
  (407, .iconst 1, 1),
  (408, .iadd, 1),
  (409, .iaload, 1),
  (410, .invokevirtual 50, 3),
  (413, .aload_n 2, 1),
  (414, .aload_n 0, 1),
  (415, .iload_n 3, 1),
  (416, .iconst 1, 1),
  (417, .iadd, 1),
  (418, .iaload, 1),
  (419, .invokevirtual 54, 3),
  (422, .if_icmp .eq 193, 3),
  (425, .iconst 0, 1),
  (426, .ireturn, 1),
  (427, .aload_n 1, 1),
  (428, .aload_n 0, 1),
  (429, .iload_n 3, 1),
  (430, .iconst 1, 1),
  (431, .iadd, 1),
  (432, .iaload, 1),
  (433, .aload_n 0, 1),
  (434, .iload_n 3, 1),
  (435, .iconst 2, 1),
  (436, .iadd, 1),
  (437, .iaload, 1),
  (438, .invokevirtual 55, 3),
  (441, .aload_n 2, 1),
  (442, .aload_n 0, 1),
  (443, .iload_n 3, 1),
  (444, .iconst 1, 1),
  (445, .iadd, 1),
  (446, .iaload, 1),
  (447, .aload_n 0, 1),
  (448, .iload_n 3, 1),
  (449, .iconst 2, 1),
  (450, .iadd, 1),
  (451, .iaload, 1),
  (452, .invokevirtual 58, 3),
  (455, .if_icmp .eq 160, 3),
  (458, .iconst 0, 1),
  (459, .ireturn, 1),
  (460, .aload_n 1, 1),
  (461, .aload_n 0, 1),
  (462, .iload_n 3, 1),
  (463, .iconst 1, 1),
  (464, .iadd, 1),
  (465, .iaload, 1),
  (466, .aload_n 0, 1),
  (467, .iload_n 3, 1),
  (468, .iconst 2, 1),
  (469, .iadd, 1),
  (470, .iaload, 1),
  (471, .invokevirtual 59, 3),
  (474, .aload_n 2, 1),
  (475, .aload_n 0, 1),
  (476, .iload_n 3, 1),
  (477, .iconst 1, 1),
  (478, .iadd, 1),
  (479, .iaload, 1),
  (480, .aload_n 0, 1),
  (481, .iload_n 3, 1),
  (482, .iconst 2, 1),
  (483, .iadd, 1),
  (484, .iaload, 1),
  (485, .invokevirtual 62, 3),
  (488, .if_icmp .eq 127, 3),
  (491, .iconst 0, 1),
  (492, .ireturn, 1),
  (493, .aload_n 1, 1),
  (494, .aload_n 0, 1),
  (495, .iload_n 3, 1),
  (496, .iconst 1, 1),
  (497, .iadd, 1),
  (498, .iaload, 1),
  (499, .aload_n 0, 1),
  (500, .iload_n 3, 1),
  (501, .iconst 2, 1),
  (502, .iadd, 1),
  (503, .iaload, 1),
  (504, .invokevirtual 63, 3),
  (507, .aload_n 2, 1),
  (508, .aload_n 0, 1),
  (509, .iload_n 3, 1),
  (510, .iconst 1, 1),
  (511, .iadd, 1),
  (512, .iaload, 1),
  (513, .aload_n 0, 1),
  (514, .iload_n 3, 1),
  (515, .iconst 2, 1),
  (516, .iadd, 1),
  (517, .iaload, 1),
  (518, .invokevirtual 66, 3),
  (521, .if_icmp .eq 94, 3),
  (524, .iconst 0, 1),
  (525, .ireturn, 1),
  (526, .aload_n 1, 1),
  (527, .aload_n 0, 1),
  (528, .iload_n 3, 1),
  (529, .iconst 1, 1),
  (530, .iadd, 1),
  (531, .iaload, 1),
  (532, .aload_n 0, 1),
  (533, .iload_n 3, 1),
  (534, .iconst 2, 1),
  (535, .iadd, 1),
  (536, .iaload, 1),
  (537, .invokevirtual 67, 3),
  (540, .aload_n 2, 1),
  (541, .aload_n 0, 1),
  (542, .iload_n 3, 1),
  (543, .iconst 1, 1),
  (544, .iadd, 1),
  (545, .iaload, 1),
  (546, .aload_n 0, 1),
  (547, .iload_n 3, 1),
  (548, .iconst 2, 1),
  (549, .iadd, 1),
  (550, .iaload, 1),
  (551, .invokevirtual 70, 3),
  (554, .if_icmp .eq 61, 3),
  (557, .iconst 0, 1),
  (558, .ireturn, 1),
  (559, .aload_n 1, 1),
  (560, .aload_n 0, 1),
  (561, .iload_n 3, 1),
  (562, .iconst 1, 1),
  (563, .iadd, 1),
  (564, .iaload, 1),
  (565, .aload_n 0, 1),
  (566, .iload_n 3, 1),
  (567, .iconst 2, 1),
  (568, .iadd, 1),
  (569, .iaload, 1),
  (570, .invokevirtual 71, 3),
  (573, .aload_n 2, 1),
  (574, .aload_n 0, 1),
  (575, .iload_n 3, 1),
  (576, .iconst 1, 1),
  (577, .iadd, 1),
  (578, .iaload, 1),
  (579, .aload_n 0, 1),
  (580, .iload_n 3, 1),
  (581, .iconst 2, 1),
  (582, .iadd, 1),
  (583, .iaload, 1),
  (584, .invokevirtual 74, 3),
  (587, .if_icmp .eq 28, 3),
  (590, .iconst 0, 1),
  (591, .ireturn, 1),
  (592, .aload_n 1, 1),
  (593, .aload_n 0, 1),
  (594, .iload_n 3, 1),
  (595, .iconst 1, 1),
  (596, .iadd, 1),
  (597, .iaload, 1),
  (598, .invokevirtual 75, 3),
  (601, .aload_n 2, 1),
  (602, .aload_n 0, 1),
  (603, .iload_n 3, 1),
  (604, .iconst 1, 1),
  (605, .iadd, 1),
  (606, .iaload, 1),
  (607, .invokevirtual 78, 3),
  (610, .if_icmp .eq 5, 3),
  (613, .iconst 0, 1),
  (614, .ireturn, 1),
  (615, .iinc 3 6, 3),
  (618, .goto (-600), 3),
  (621, .iconst 1, 1),
  (622, .ireturn, 1)],
  [], [], [], room_1)
theorem okL_law : am_Mok mL_law := am_Mok.of [] [] [] (by decide +kernel)
end
section
def mX0_init : am_M := (yX0_init, cX0_init, 2, (Option.none : Option Jvm.ClassFile.FieldType),
  [(0, .aload_n 0, 1),
  (1, .invokespecial 3, 3),
  (4, .aload_n 0, 1),
  (5, .bipush 24, 2),
  (7, .newarray .boolean, 2),
  (9, .putfield 11, 3),
  (12, .aload_n 0, 1),
  (13, .bipush 24, 2),
  (15, .newarray .int, 2),
  (17, .putfield 17, 3),
  (20, .aload_n 0, 1),
  (21, .bipush 24, 2),
  (23, .newarray .int, 2),
  (25, .putfield 21, 3),
  (28, .aload_n 0, 1),
  (29, .iconst (-1), 1),
  (30, .putfield 24, 3),
  (33, .aload_n 0, 1),
  (34, .aload_n 1, 1),
  (35, .putfield 28, 3),
  (38, .return_, 1)],
  [(11, 1, [0]), (17, 2, [0]), (21, 3, [0]), (24, 5, [0]), (28, 0, [0])], [], [], ⟨1, 3, 72, 16⟩)
theorem okX0_init : am_Mok mX0_init := am_Mok.of [155, 156, 157, 159, 154] [] [] (by decide +kernel)
def mX0_refresh : am_M := (yX0_refresh, cX0_refresh, 4, (Option.none : Option Jvm.ClassFile.FieldType),
  [(0, .aload_n 0, 1),
  (1, .getfield 24, 3),
  (4, .aload_n 0, 1),
  (5, .getfield 28, 3),
  (8, .invokevirtual 32, 3),
  (11, .if_icmp .ne 4, 3),
  (14, .return_, 1),
  (15, .aload_n 0, 1),
  (16, .aload_n 0, 1),
  (17, .getfield 28, 3),
  (20, .invokevirtual 32, 3),
  (23, .putfield 24, 3),
  (26, .aload_n 0, 1),
  (27, .invokevirtual 36, 3),
  (30, .aload_n 0, 1),
  (31, .invokevirtual 39, 3),
  (34, .iconst 1, 1),
  (35, .istore_n 1, 1),
  (36, .iconst 0, 1),
  (37, .istore_n 2, 1),
  (38, .iload_n 1, 1),
  (39, .ifCond .eq 38, 3),
  (42, .iload_n 2, 1),
  (43, .bipush 24, 2),
  (45, .if_icmp .gt 32, 3),
  (48, .aload_n 0, 1),
  (49, .getfield 42, 3),
  (52, .istore_n 3, 1),
  (53, .aload_n 0, 1),
  (54, .invokevirtual 45, 3),
  (57, .aload_n 0, 1),
  (58, .getfield 42, 3),
  (61, .iload_n 3, 1),
  (62, .if_icmp .eq 7, 3),
  (65, .iconst 1, 1),
  (66, .goto 4, 3),
  (69, .iconst 0, 1),
  (70, .istore_n 1, 1),
  (71, .iinc 2 1, 3),
  (74, .goto (-36), 3),
  (77, .return_, 1)],
  [(24, 5, [0]), (28, 0, [0]), (42, 4, [0])], [], [], ⟨6, 0, 0, 135⟩)
theorem okX0_refresh : am_Mok mX0_refresh := am_Mok.of [159, 154, 158] [] [] (by decide +kernel)
def mX0_isTaken : am_M := (yX0_isTaken, cX0_isTaken, 2, (Option.some Jvm.ClassFile.FieldType.boolean),
  [(0, .aload_n 0, 1),
  (1, .getfield 28, 3),
  (4, .iload_n 1, 1),
  (5, .invokevirtual 48, 3),
  (8, .ifCond .eq 16, 3),
  (11, .aload_n 0, 1),
  (12, .getfield 11, 3),
  (15, .iload_n 1, 1),
  (16, .baload, 1),
  (17, .ifCond .eq 7, 3),
  (20, .iconst 1, 1),
  (21, .goto 4, 3),
  (24, .iconst 0, 1),
  (25, .ireturn, 1)],
  [(28, 0, [0]), (11, 1, [0])], [], [], ⟨1, 0, 0, 21⟩)
theorem okX0_isTaken : am_Mok mX0_isTaken := am_Mok.of [154, 155] [] [] (by decide +kernel)
def mX0_leastOf : am_M := (yX0_leastOf, cX0_leastOf, 2, (Option.some Jvm.ClassFile.FieldType.int),
  [(0, .aload_n 0, 1),
  (1, .getfield 28, 3),
  (4, .iload_n 1, 1),
  (5, .invokevirtual 48, 3),
  (8, .ifCond .eq 12, 3),
  (11, .aload_n 0, 1),
  (12, .getfield 17, 3),
  (15, .iload_n 1, 1),
  (16, .iaload, 1),
  (17, .goto 4, 3),
  (20, .iconst (-1), 1),
  (21, .ireturn, 1)],
  [(28, 0, [0]), (17, 2, [0])], [], [], ⟨1, 0, 0, 21⟩)
theorem okX0_leastOf : am_Mok mX0_leastOf := am_Mok.of [154, 156] [] [] (by decide +kernel)
def mX0_classes : am_M := (yX0_classes, cX0_classes, 1, (Option.some Jvm.ClassFile.FieldType.int),
  [(0, .aload_n 0, 1),
  (1, .getfield 42, 3),
  (4, .ireturn, 1)],
  [(42, 4, [0])], [], [], ⟨0, 0, 0, 0⟩)
theorem okX0_classes : am_Mok mX0_classes := am_Mok.of [158] [] [] (by decide +kernel)
def mX0_bodyOf : am_M := (yX0_bodyOf, cX0_bodyOf, 3, (Option.some Jvm.ClassFile.FieldType.int),
  [(0, .aload_n 0, 1),
  (1, .iload_n 1, 1),
  (2, .invokevirtual 52, 3),
  (5, .ifCond .eq 5, 3),
  (8, .iload_n 1, 1),
  (9, .ireturn, 1),
  (10, .iconst 0, 1),
  (11, .istore_n 2, 1),
  (12, .iload_n 2, 1),
  (13, .aload_n 0, 1),
  (14, .getfield 28, 3),
  (17, .invokevirtual 55, 3),
  (20, .if_icmp .ge 32, 3),
  (23, .aload_n 0, 1),
  (24, .iload_n 2, 1),
  (25, .invokevirtual 52, 3),
  (28, .ifCond .eq 18, 3),
  (31, .aload_n 0, 1),
  (32, .iload_n 2, 1),
  (33, .invokevirtual 58, 3),
  (36, .aload_n 0, 1),
  (37, .iload_n 1, 1),
  (38, .invokevirtual 58, 3),
  (41, .if_icmp .ne 5, 3),
  (44, .iload_n 2, 1),
  (45, .ireturn, 1),
  (46, .iinc 2 1, 3),
  (49, .goto (-37), 3),
  (52, .aload_n 0, 1),
  (53, .iload_n 1, 1),
  (54, .invokevirtual 58, 3),
  (57, .ireturn, 1)],
  [(28, 0, [0])], [], [], ⟨2, 0, 0, 42⟩)
theorem okX0_bodyOf : am_Mok mX0_bodyOf := am_Mok.of [154] [] [] (by decide +kernel)
def mX0_markTaken : am_M := (yX0_markTaken, cX0_markTaken, 3, (Option.none : Option Jvm.ClassFile.FieldType),
  [(0, .iconst 0, 1),
  (1, .istore_n 1, 1),
  (2, .iload_n 1, 1),
  (3, .aload_n 0, 1),
  (4, .getfield 11, 3),
  (7, .arraylength, 1),
  (8, .if_icmp .ge 16, 3),
  (11, .aload_n 0, 1),
  (12, .getfield 11, 3),
  (15, .iload_n 1, 1),
  (16, .iconst 0, 1),
  (17, .bastore, 1),
  (18, .iinc 1 1, 3),
  (21, .goto (-19), 3),
  (24, .iconst 0, 1),
  (25, .istore_n 1, 1),
  (26, .iload_n 1, 1),
  (27, .aload_n 0, 1),
  (28, .getfield 28, 3),
  (31, .invokevirtual 62, 3),
  (34, .if_icmp .ge 51, 3),
  (37, .aload_n 0, 1),
  (38, .getfield 28, 3),
  (41, .iload_n 1, 1),
  (42, .invokevirtual 65, 3),
  (45, .bipush 32, 2),
  (47, .if_icmp .ne 32, 3),
  (50, .aload_n 0, 1),
  (51, .getfield 28, 3),
  (54, .iload_n 1, 1),
  (55, .invokevirtual 70, 3),
  (58, .istore_n 2, 1),
  (59, .iload_n 2, 1),
  (60, .ifCond .lt 19, 3),
  (63, .iload_n 2, 1),
  (64, .aload_n 0, 1),
  (65, .getfield 11, 3),
  (68, .arraylength, 1),
  (69, .if_icmp .ge 10, 3),
  (72, .aload_n 0, 1),
  (73, .getfield 11, 3),
  (76, .iload_n 2, 1),
  (77, .iconst 1, 1),
  (78, .bastore, 1),
  (79, .iinc 1 1, 3),
  (82, .goto (-56), 3),
  (85, .return_, 1)],
  [(11, 1, [0]), (28, 0, [0])], [], [], ⟨2, 0, 0, 42⟩)
theorem okX0_markTaken : am_Mok mX0_markTaken := am_Mok.of [155, 154] [] [] (by decide +kernel)
def mX0_standAllTogether : am_M := (yX0_standAllTogether, cX0_standAllTogether, 1, (Option.none : Option Jvm.ClassFile.FieldType),
  [(0, .aload_n 0, 1),
  (1, .getfield 17, 3),
  (4, .iconst 0, 1),
  (5, .invokestatic 73, 3),
  (8, .aload_n 0, 1),
  (9, .iconst 0, 1),
  (10, .putfield 42, 3),
  (13, .return_, 1)],
  [(17, 2, [0]), (42, 4, [0])], [], [], ⟨1, 0, 0, 23⟩)
theorem okX0_standAllTogether : am_Mok mX0_standAllTogether := am_Mok.of [156, 158] [] [] (by decide +kernel)
def mX0_partOnce : am_M := (yX0_partOnce, cX0_partOnce, 2, (Option.none : Option Jvm.ClassFile.FieldType),
  [(0, .aload_n 0, 1),
  (1, .iconst 0, 1),
  (2, .putfield 42, 3),
  (5, .iconst 0, 1),
  (6, .istore_n 1, 1),
  (7, .iload_n 1, 1),
  (8, .aload_n 0, 1),
  (9, .getfield 28, 3),
  (12, .invokevirtual 55, 3),
  (15, .if_icmp .ge 40, 3),
  (18, .aload_n 0, 1),
  (19, .getfield 21, 3),
  (22, .iload_n 1, 1),
  (23, .aload_n 0, 1),
  (24, .iload_n 1, 1),
  (25, .invokevirtual 79, 3),
  (28, .iastore, 1),
  (29, .aload_n 0, 1),
  (30, .getfield 21, 3),
  (33, .iload_n 1, 1),
  (34, .iaload, 1),
  (35, .iload_n 1, 1),
  (36, .if_icmp .ne 13, 3),
  (39, .aload_n 0, 1),
  (40, .dup, 1),
  (41, .getfield 42, 3),
  (44, .iconst 1, 1),
  (45, .iadd, 1),
  (46, .putfield 42, 3),
  (49, .iinc 1 1, 3),
  (52, .goto (-45), 3),
  (55, .aload_n 0, 1),
  (56, .getfield 21, 3),
  (59, .iconst 0, 1),
  (60, .aload_n 0, 1),
  (61, .getfield 17, 3),
  (64, .iconst 0, 1),
  (65, .aload_n 0, 1),
  (66, .getfield 28, 3),
  (69, .invokevirtual 55, 3),
  (72, .invokestatic 82, 3),
  (75, .return_, 1)],
  [(42, 4, [0]), (28, 0, [0]), (21, 3, [0]), (17, 2, [0])], [], [], ⟨5, 0, 0, 114⟩)
theorem okX0_partOnce : am_Mok mX0_partOnce := am_Mok.of [158, 154, 157, 156] [] [] (by decide +kernel)
def mX0_finerLeastOf : am_M := (yX0_finerLeastOf, cX0_finerLeastOf, 3, (Option.some Jvm.ClassFile.FieldType.int),
  [(0, .iconst 0, 1),
  (1, .istore_n 2, 1),
  (2, .iload_n 2, 1),
  (3, .iload_n 1, 1),
  (4, .if_icmp .ge 45, 3),
  (7, .aload_n 0, 1),
  (8, .getfield 21, 3),
  (11, .iload_n 2, 1),
  (12, .iaload, 1),
  (13, .iload_n 2, 1),
  (14, .if_icmp .ne 29, 3),
  (17, .aload_n 0, 1),
  (18, .getfield 17, 3),
  (21, .iload_n 2, 1),
  (22, .iaload, 1),
  (23, .aload_n 0, 1),
  (24, .getfield 17, 3),
  (27, .iload_n 1, 1),
  (28, .iaload, 1),
  (29, .if_icmp .ne 14, 3),
  (32, .aload_n 0, 1),
  (33, .iload_n 2, 1),
  (34, .iload_n 1, 1),
  (35, .invokevirtual 88, 3),
  (38, .ifCond .eq 5, 3),
  (41, .iload_n 2, 1),
  (42, .ireturn, 1),
  (43, .iinc 2 1, 3),
  (46, .goto (-44), 3),
  (49, .iload_n 1, 1),
  (50, .ireturn, 1)],
  [(21, 3, [0]), (17, 2, [0])], [], [], ⟨4, 0, 0, 92⟩)
theorem okX0_finerLeastOf : am_Mok mX0_finerLeastOf := am_Mok.of [157, 156] [] [] (by decide +kernel)
def mX0_areAlike : am_M := (yX0_areAlike, cX0_areAlike, 7, (Option.some Jvm.ClassFile.FieldType.boolean),
  [(0, .aload_n 0, 1),
  (1, .getfield 28, 3),
  (4, .iload_n 1, 1),
  (5, .invokevirtual 92, 3),
  (8, .istore_n 3, 1),
  (9, .iload_n 3, 1),
  (10, .aload_n 0, 1),
  (11, .getfield 28, 3),
  (14, .iload_n 2, 1),
  (15, .invokevirtual 92, 3),
  (18, .if_icmp .eq 5, 3),
  (21, .iconst 0, 1),
  (22, .ireturn, 1),
  (23, .aload_n 0, 1),
  (24, .getfield 28, 3),
  (27, .iload_n 1, 1),
  (28, .invokevirtual 95, 3),
  (31, .istore 4, 2),
  (33, .aload_n 0, 1),
  (34, .getfield 28, 3),
  (37, .iload_n 2, 1),
  (38, .invokevirtual 95, 3),
  (41, .istore 5, 2),
  (43, .iconst 0, 1),
  (44, .istore 6, 2),
  (46, .iload 6, 2),
  (48, .iload_n 3, 1),
  (49, .if_icmp .ge 28, 3),
  (52, .aload_n 0, 1),
  (53, .iload 4, 2),
  (55, .iload 6, 2),
  (57, .iadd, 1),
  (58, .iload 5, 2),
  (60, .iload 6, 2),
  (62, .iadd, 1),
  (63, .invokevirtual 98, 3),
  (66, .ifCond .ne 5, 3),
  (69, .iconst 0, 1),
  (70, .ireturn, 1),
  (71, .iinc 6 1, 3),
  (74, .goto (-28), 3),
  (77, .iconst 1, 1),
  (78, .ireturn, 1)],
  [(28, 0, [0])], [], [], ⟨3, 0, 0, 66⟩)
theorem okX0_areAlike : am_Mok mX0_areAlike := am_Mok.of [154] [] [] (by decide +kernel)
def mX0_areAlikeSpots : am_M := (yX0_areAlikeSpots, cX0_areAlikeSpots, 4, (Option.some Jvm.ClassFile.FieldType.boolean),
  [(0, .aload_n 0, 1),
  (1, .getfield 28, 3),
  (4, .iload_n 1, 1),
  (5, .invokevirtual 65, 3),
  (8, .istore_n 3, 1),
  (9, .iload_n 3, 1),
  (10, .invokestatic 101, 3),
  (13, .ifCond .eq 44, 3),
  (16, .iload_n 3, 1),
  (17, .aload_n 0, 1),
  (18, .getfield 28, 3),
  (21, .iload_n 2, 1),
  (22, .invokevirtual 65, 3),
  (25, .if_icmp .ne 30, 3),
  (28, .aload_n 0, 1),
  (29, .aload_n 0, 1),
  (30, .getfield 28, 3),
  (33, .iload_n 1, 1),
  (34, .invokevirtual 104, 3),
  (37, .aload_n 0, 1),
  (38, .getfield 28, 3),
  (41, .iload_n 2, 1),
  (42, .invokevirtual 104, 3),
  (45, .invokevirtual 107, 3),
  (48, .ifCond .eq 7, 3),
  (51, .iconst 1, 1),
  (52, .goto 4, 3),
  (55, .iconst 0, 1),
  (56, .ireturn, 1),
  (57, .aload_n 0, 1),
  (58, .getfield 28, 3),
  (61, .iload_n 1, 1),
  (62, .iload_n 2, 1),
  (63, .invokevirtual 110, 3),
  (66, .ireturn, 1)],
  [(28, 0, [0])], [], [], ⟨2, 0, 0, 43⟩)
theorem okX0_areAlikeSpots : am_Mok mX0_areAlikeSpots := am_Mok.of [154] [] [] (by decide +kernel)
def mX0_standTogether : am_M := (yX0_standTogether, cX0_standTogether, 3, (Option.some Jvm.ClassFile.FieldType.boolean),
  [(0, .iload_n 1, 1),
  (1, .iload_n 2, 1),
  (2, .if_icmp .eq 40, 3),
  (5, .aload_n 0, 1),
  (6, .getfield 28, 3),
  (9, .iload_n 1, 1),
  (10, .invokevirtual 48, 3),
  (13, .ifCond .eq 33, 3),
  (16, .aload_n 0, 1),
  (17, .getfield 28, 3),
  (20, .iload_n 2, 1),
  (21, .invokevirtual 48, 3),
  (24, .ifCond .eq 22, 3),
  (27, .aload_n 0, 1),
  (28, .getfield 17, 3),
  (31, .iload_n 1, 1),
  (32, .iaload, 1),
  (33, .aload_n 0, 1),
  (34, .getfield 17, 3),
  (37, .iload_n 2, 1),
  (38, .iaload, 1),
  (39, .if_icmp .ne 7, 3),
  (42, .iconst 1, 1),
  (43, .goto 4, 3),
  (46, .iconst 0, 1),
  (47, .ireturn, 1)],
  [(28, 0, [0]), (17, 2, [0])], [], [], ⟨1, 0, 0, 21⟩)
theorem okX0_standTogether : am_Mok mX0_standTogether := am_Mok.of [154, 156] [] [] (by decide +kernel)
end
section
def mX10_init : am_M := (yX10_init, cX10_init, 2, (Option.none : Option Jvm.ClassFile.FieldType),
  [(0, .aload_n 0, 1),
  (1, .invokespecial 3, 3),
  (4, .aload_n 0, 1),
  (5, .bipush 32, 2),
  (7, .newarray .int, 2),
  (9, .putfield 11, 3),
  (12, .aload_n 0, 1),
  (13, .bipush 32, 2),
  (15, .newarray .int, 2),
  (17, .putfield 17, 3),
  (20, .aload_n 0, 1),
  (21, .bipush 64, 2),
  (23, .newarray .int, 2),
  (25, .putfield 20, 3),
  (28, .aload_n 0, 1),
  (29, .bipush 64, 2),
  (31, .newarray .int, 2),
  (33, .putfield 23, 3),
  (36, .aload_n 0, 1),
  (37, .aload_n 1, 1),
  (38, .putfield 26, 3),
  (41, .return_, 1)],
  [(11, 6, [7]), (17, 7, [7]), (20, 8, [7]), (23, 9, [7]), (26, 5, [7])], [], [], ⟨2, 5, 392, 36⟩)
theorem okX10_init : am_Mok mX10_init := am_Mok.of [331, 332, 333, 334, 330] [] [] (by decide +kernel)
def mX10_isReady : am_M := (yX10_isReady, cX10_isReady, 1, (Option.some Jvm.ClassFile.FieldType.boolean),
  [(0, .aload_n 0, 1),
  (1, .getfield 26, 3),
  (4, .iconst 0, 1),
  (5, .invokevirtual 30, 3),
  (8, .ireturn, 1)],
  [(26, 5, [7])], [], [], ⟨1, 0, 0, 21⟩)
theorem okX10_isReady : am_Mok mX10_isReady := am_Mok.of [330] [] [] (by decide +kernel)
def mX10_restart : am_M := (yX10_restart, cX10_restart, 1, (Option.none : Option Jvm.ClassFile.FieldType),
  [(0, .aload_n 0, 1),
  (1, .getfield 11, 3),
  (4, .iconst 0, 1),
  (5, .invokestatic 36, 3),
  (8, .aload_n 0, 1),
  (9, .getfield 17, 3),
  (12, .iconst 0, 1),
  (13, .invokestatic 36, 3),
  (16, .aload_n 0, 1),
  (17, .getfield 20, 3),
  (20, .iconst 0, 1),
  (21, .invokestatic 36, 3),
  (24, .aload_n 0, 1),
  (25, .getfield 23, 3),
  (28, .iconst 0, 1),
  (29, .invokestatic 36, 3),
  (32, .aload_n 0, 1),
  (33, .iconst 1, 1),
  (34, .iconst 2, 1),
  (35, .iconst (-1), 1),
  (36, .invokevirtual 42, 3),
  (39, .aload_n 0, 1),
  (40, .iconst 0, 1),
  (41, .putfield 46, 3),
  (44, .aload_n 0, 1),
  (45, .iconst 0, 1),
  (46, .putfield 50, 3),
  (49, .return_, 1)],
  [(11, 6, [7]), (17, 7, [7]), (20, 8, [7]), (23, 9, [7]), (46, 10, [7]), (50, 11, [7])], [], [], ⟨2, 0, 0, 43⟩)
theorem okX10_restart : am_Mok mX10_restart := am_Mok.of [331, 332, 333, 334, 335, 336] [] [] (by decide +kernel)
def mX10_where : am_M := (yX10_where, cX10_where, 1, (Option.some Jvm.ClassFile.FieldType.int),
  [(0, .aload_n 0, 1),
  (1, .invokevirtual 53, 3),
  (4, .ifCond .ne 7, 3),
  (7, .iconst (-1), 1),
  (8, .goto 7, 3),
  (11, .aload_n 0, 1),
  (12, .getfield 46, 3),
  (15, .ireturn, 1)],
  [(46, 10, [7])], [], [], ⟨1, 0, 0, 20⟩)
theorem okX10_where : am_Mok mX10_where := am_Mok.of [335] [] [] (by decide +kernel)
def mX10_whichPlace : am_M := (yX10_whichPlace, cX10_whichPlace, 1, (Option.some Jvm.ClassFile.FieldType.int),
  [(0, .aload_n 0, 1),
  (1, .invokevirtual 53, 3),
  (4, .ifCond .ne 7, 3),
  (7, .iconst (-1), 1),
  (8, .goto 7, 3),
  (11, .aload_n 0, 1),
  (12, .getfield 50, 3),
  (15, .ireturn, 1)],
  [(50, 11, [7])], [], [], ⟨1, 0, 0, 20⟩)
theorem okX10_whichPlace : am_Mok mX10_whichPlace := am_Mok.of [336] [] [] (by decide +kernel)
def mX10_registerAt : am_M := (yX10_registerAt, cX10_registerAt, 2, (Option.some Jvm.ClassFile.FieldType.int),
  [(0, .aload_n 0, 1),
  (1, .iload_n 1, 1),
  (2, .invokevirtual 57, 3),
  (5, .ifCond .eq 11, 3),
  (8, .aload_n 0, 1),
  (9, .iload_n 1, 1),
  (10, .invokevirtual 60, 3),
  (13, .goto 4, 3),
  (16, .iconst 0, 1),
  (17, .ireturn, 1)],
  [], [], [], ⟨2, 0, 0, 42⟩)
theorem okX10_registerAt : am_Mok mX10_registerAt := am_Mok.of [] [] [] (by decide +kernel)
def mX10_memoryAt : am_M := (yX10_memoryAt, cX10_memoryAt, 2, (Option.some Jvm.ClassFile.FieldType.int),
  [(0, .iload_n 1, 1),
  (1, .invokestatic 64, 3),
  (4, .ifCond .eq 21, 3),
  (7, .aload_n 0, 1),
  (8, .getfield 20, 3),
  (11, .iload_n 1, 1),
  (12, .iaload, 1),
  (13, .ifCond .ne 12, 3),
  (16, .aload_n 0, 1),
  (17, .getfield 23, 3),
  (20, .iload_n 1, 1),
  (21, .iaload, 1),
  (22, .goto 4, 3),
  (25, .iconst 0, 1),
  (26, .ireturn, 1)],
  [(20, 8, [7]), (23, 9, [7])], [], [], ⟨1, 0, 0, 20⟩)
theorem okX10_memoryAt : am_Mok mX10_memoryAt := am_Mok.of [333, 334] [] [] (by decide +kernel)
def mX10_step : am_M := (yX10_step, cX10_step, 4, (Option.some Jvm.ClassFile.FieldType.int),
  [(0, .aload_n 0, 1),
  (1, .getfield 26, 3),
  (4, .aload_n 0, 1),
  (5, .getfield 46, 3),
  (8, .aload_n 0, 1),
  (9, .getfield 50, 3),
  (12, .invokevirtual 67, 3),
  (15, .istore_n 1, 1),
  (16, .iload_n 1, 1),
  (17, .iconst (-1), 1),
  (18, .if_icmp .ne 5, 3),
  (21, .iconst 2, 1),
  (22, .ireturn, 1),
  (23, .aload_n 0, 1),
  (24, .getfield 26, 3),
  (27, .iload_n 1, 1),
  (28, .invokevirtual 71, 3),
  (31, .istore_n 2, 1),
  (32, .aload_n 0, 1),
  (33, .getfield 26, 3),
  (36, .iload_n 1, 1),
  (37, .invokevirtual 74, 3),
  (40, .istore_n 3, 1),
  (41, .iload_n 2, 1),
  (42, .bipush 18, 2),
  (44, .if_icmp .gt 10, 3),
  (47, .aload_n 0, 1),
  (48, .iload_n 1, 1),
  (49, .iload_n 2, 1),
  (50, .invokevirtual 77, 3),
  (53, .ireturn, 1),
  (54, .iload_n 2, 1),
  (55, .invokestatic 80, 3),
  (58, .ifCond .eq 10, 3),
  (61, .aload_n 0, 1),
  (62, .iload_n 1, 1),
  (63, .iload_n 2, 1),
  (64, .invokevirtual 83, 3),
  (67, .ireturn, 1),
  (68, .iload_n 2, 1),
  (69, .tableswitch 180 19 34 #[79, 97, 103, 180, 180, 180, 180, 180, 180, 109, 119, 125, 132, 137, 152, 175], 79),
  (148, .aload_n 0, 1),
  (149, .iload_n 3, 1),
  (150, .iconst 0, 1),
  (151, .aload_n 0, 1),
  (152, .getfield 26, 3),
  (155, .iload_n 1, 1),
  (156, .invokevirtual 86, 3),
  (159, .bipush 12, 2),
  (161, .ishl, 1),
  (162, .invokevirtual 89, 3),
  (165, .ireturn, 1),
  (166, .aload_n 0, 1),
  (167, .iload_n 1, 1),
  (168, .invokevirtual 93, 3),
  (171, .ireturn, 1),
  (172, .aload_n 0, 1),
  (173, .iload_n 1, 1),
  (174, .invokevirtual 96, 3),
  (177, .ireturn, 1),
  (178, .aload_n 0, 1),
  (179, .aload_n 0, 1),
  (180, .getfield 46, 3),
  (183, .iload_n 3, 1),
  (184, .invokevirtual 99, 3),
  (187, .ireturn, 1),
  (188, .aload_n 0, 1),
  (189, .iload_n 3, 1),
  (190, .invokevirtual 102, 3),
  (193, .ireturn, 1),
  (194, .aload_n 0, 1),
  (195, .iload_n 3, 1),
  (196, .iconst 0, 1),
  (197, .invokevirtual 99, 3),
  (200, .ireturn, 1),
  (201, .aload_n 0, 1),
  (202, .invokevirtual 105, 3),
  (205, .ireturn, 1),
  (206, .aload_n 0, 1),
  (207, .iload_n 3, 1),
  (208, .iconst 1, 1),
  (209, .aload_n 0, 1),
  (210, .getfield 26, 3),
  (213, .iload_n 1, 1),
  (214, .invokevirtual 86, 3),
  (217, .invokevirtual 89, 3),
  (220, .ireturn, 1),
  (221, .aload_n 0, 1),
  (222, .iload_n 3, 1),
  (223, .invokevirtual 108, 3),
  (226, .iconst 1, 1),
  (227, .if_icmp .ne 15, 3),
  (230, .aload_n 0, 1),
  (231, .aload_n 0, 1),
  (232, .iload_n 3, 1),
  (233, .invokevirtual 60, 3),
  (236, .invokevirtual 102, 3),
  (239, .goto 4, 3),
  (242, .iconst 2, 1),
  (243, .ireturn, 1),
  (244, .aload_n 0, 1),
  (245, .invokevirtual 111, 3),
  (248, .ireturn, 1),
  (249, .iconst 2, 1),
  (250, .ireturn, 1)],
  [(26, 5, [7]), (46, 10, [7]), (50, 11, [7])], [], [], ⟨4, 0, 0, 95⟩)
theorem okX10_step : am_Mok mX10_step := am_Mok.of [330, 335, 336] [] [] (by decide +kernel)
def mX10_calculate : am_M := (yX10_calculate, cX10_calculate, 10, (Option.some Jvm.ClassFile.FieldType.int),
  [(0, .aload_n 0, 1),
  (1, .getfield 26, 3),
  (4, .iload_n 1, 1),
  (5, .invokevirtual 74, 3),
  (8, .istore_n 3, 1),
  (9, .aload_n 0, 1),
  (10, .getfield 26, 3),
  (13, .iload_n 1, 1),
  (14, .invokevirtual 86, 3),
  (17, .istore 4, 2),
  (19, .aload_n 0, 1),
  (20, .getfield 26, 3),
  (23, .iload_n 1, 1),
  (24, .invokevirtual 114, 3),
  (27, .istore 5, 2),
  (29, .iload_n 2, 1),
  (30, .bipush 10, 2),
  (32, .if_icmp .ne 26, 3),
  (35, .iload 5, 2),
  (37, .ifCond .ne 21, 3),
  (40, .aload_n 0, 1),
  (41, .iload_n 3, 1),
  (42, .aload_n 0, 1),
  (43, .iload 4, 2),
  (45, .invokevirtual 108, 3),
  (48, .aload_n 0, 1),
  (49, .iload 4, 2),
  (51, .invokevirtual 60, 3),
  (54, .invokevirtual 89, 3),
  (57, .ireturn, 1),
  (58, .iload_n 2, 1),
  (59, .bipush 10, 2),
  (61, .if_icmp .ge 7, 3),
  (64, .iconst 1, 1),
  (65, .goto 4, 3),
  (68, .iconst 0, 1),
  (69, .istore 6, 2),
  (71, .aload_n 0, 1),
  (72, .iload 4, 2),
  (74, .invokevirtual 57, 3),
  (77, .ifCond .eq 17, 3),
  (80, .iload 6, 2),
  (82, .ifCond .eq 14, 3),
  (85, .aload_n 0, 1),
  (86, .iload 5, 2),
  (88, .invokevirtual 57, 3),
  (91, .ifCond .ne 5, 3),
  (94, .iconst 2, 1),
  (95, .ireturn, 1),
  (96, .iload 6, 2),
  (98, .ifCond .eq 12, 3),
  (101, .aload_n 0, 1),
  (102, .iload 5, 2),
  (104, .invokevirtual 60, 3),
  (107, .goto 5, 3),
  (110, .iload 5, 2),
  (112, .istore 7, 2),
  (114, .iload_n 2, 1),
  (115, .invokestatic 117, 3),
  (118, .istore 8, 2),
  (120, .iload 8, 2),
  (122, .iload_n 2, 1),
  (123, .invokestatic 122, 3),
  (126, .aload_n 0, 1),
  (127, .iload 4, 2),
  (129, .invokevirtual 60, 3),
  (132, .iload 7, 2),
  (134, .invokestatic 125, 3),
  (137, .istore 9, 2),
  (139, .aload_n 0, 1),
  (140, .iload_n 3, 1),
  (141, .iconst 0, 1),
  (142, .iload 9, 2),
  (144, .invokevirtual 89, 3),
  (147, .ireturn, 1)],
  [(26, 5, [7])], [], [], ⟨3, 0, 0, 66⟩)
theorem okX10_calculate : am_Mok mX10_calculate := am_Mok.of [330] [] [] (by decide +kernel)
def mX10_branch : am_M := (yX10_branch, cX10_branch, 8, (Option.some Jvm.ClassFile.FieldType.int),
  [(0, .aload_n 0, 1),
  (1, .getfield 26, 3),
  (4, .iload_n 1, 1),
  (5, .invokevirtual 74, 3),
  (8, .istore_n 3, 1),
  (9, .aload_n 0, 1),
  (10, .getfield 26, 3),
  (13, .iload_n 1, 1),
  (14, .invokevirtual 86, 3),
  (17, .istore 4, 2),
  (19, .aload_n 0, 1),
  (20, .iload_n 3, 1),
  (21, .invokevirtual 57, 3),
  (24, .ifCond .eq 16, 3),
  (27, .aload_n 0, 1),
  (28, .iload 4, 2),
  (30, .invokevirtual 57, 3),
  (33, .ifCond .eq 7, 3),
  (36, .iconst 1, 1),
  (37, .goto 4, 3),
  (40, .iconst 0, 1),
  (41, .istore 5, 2),
  (43, .aload_n 0, 1),
  (44, .iload_n 3, 1),
  (45, .invokevirtual 108, 3),
  (48, .iconst 1, 1),
  (49, .if_icmp .ne 17, 3),
  (52, .aload_n 0, 1),
  (53, .iload 4, 2),
  (55, .invokevirtual 108, 3),
  (58, .iconst 1, 1),
  (59, .if_icmp .ne 7, 3),
  (62, .iconst 1, 1),
  (63, .goto 4, 3),
  (66, .iconst 0, 1),
  (67, .istore 6, 2),
  (69, .iload_n 2, 1),
  (70, .bipush 22, 2),
  (72, .if_icmp .eq 9, 3),
  (75, .iload_n 2, 1),
  (76, .bipush 23, 2),
  (78, .if_icmp .ne 7, 3),
  (81, .iconst 1, 1),
  (82, .goto 4, 3),
  (85, .iconst 0, 1),
  (86, .istore 7, 2),
  (88, .iload 5, 2),
  (90, .ifCond .ne 15, 3),
  (93, .iload 6, 2),
  (95, .ifCond .eq 8, 3),
  (98, .iload 7, 2),
  (100, .ifCond .ne 5, 3),
  (103, .iconst 2, 1),
  (104, .ireturn, 1),
  (105, .iload_n 2, 1),
  (106, .invokestatic 117, 3),
  (109, .aload_n 0, 1),
  (110, .iload_n 3, 1),
  (111, .invokevirtual 60, 3),
  (114, .aload_n 0, 1),
  (115, .iload 4, 2),
  (117, .invokevirtual 60, 3),
  (120, .invokestatic 128, 3),
  (123, .ifCond .eq 20, 3),
  (126, .aload_n 0, 1),
  (127, .aload_n 0, 1),
  (128, .getfield 46, 3),
  (131, .aload_n 0, 1),
  (132, .getfield 26, 3),
  (135, .iload_n 1, 1),
  (136, .invokevirtual 114, 3),
  (139, .invokevirtual 99, 3),
  (142, .ireturn, 1),
  (143, .aload_n 0, 1),
  (144, .invokevirtual 132, 3),
  (147, .ireturn, 1)],
  [(26, 5, [7]), (46, 10, [7])], [], [], ⟨2, 0, 0, 43⟩)
theorem okX10_branch : am_Mok mX10_branch := am_Mok.of [330, 335] [] [] (by decide +kernel)
def mX10_load : am_M := (yX10_load, cX10_load, 3, (Option.some Jvm.ClassFile.FieldType.int),
  [(0, .aload_n 0, 1),
  (1, .iload_n 1, 1),
  (2, .invokevirtual 135, 3),
  (5, .istore_n 2, 1),
  (6, .iload_n 2, 1),
  (7, .invokestatic 64, 3),
  (10, .ifCond .ne 5, 3),
  (13, .iconst 2, 1),
  (14, .ireturn, 1),
  (15, .aload_n 0, 1),
  (16, .aload_n 0, 1),
  (17, .getfield 26, 3),
  (20, .iload_n 1, 1),
  (21, .invokevirtual 74, 3),
  (24, .aload_n 0, 1),
  (25, .getfield 20, 3),
  (28, .iload_n 2, 1),
  (29, .iaload, 1),
  (30, .aload_n 0, 1),
  (31, .getfield 23, 3),
  (34, .iload_n 2, 1),
  (35, .iaload, 1),
  (36, .invokevirtual 89, 3),
  (39, .ireturn, 1)],
  [(26, 5, [7]), (20, 8, [7]), (23, 9, [7])], [], [], ⟨3, 0, 0, 66⟩)
theorem okX10_load : am_Mok mX10_load := am_Mok.of [330, 333, 334] [] [] (by decide +kernel)
def mX10_store : am_M := (yX10_store, cX10_store, 3, (Option.some Jvm.ClassFile.FieldType.int),
  [(0, .aload_n 0, 1),
  (1, .iload_n 1, 1),
  (2, .invokevirtual 135, 3),
  (5, .istore_n 2, 1),
  (6, .iload_n 2, 1),
  (7, .invokestatic 64, 3),
  (10, .ifCond .ne 5, 3),
  (13, .iconst 2, 1),
  (14, .ireturn, 1),
  (15, .aload_n 0, 1),
  (16, .getfield 20, 3),
  (19, .iload_n 2, 1),
  (20, .aload_n 0, 1),
  (21, .aload_n 0, 1),
  (22, .getfield 26, 3),
  (25, .iload_n 1, 1),
  (26, .invokevirtual 74, 3),
  (29, .invokevirtual 108, 3),
  (32, .iastore, 1),
  (33, .aload_n 0, 1),
  (34, .getfield 23, 3),
  (37, .iload_n 2, 1),
  (38, .aload_n 0, 1),
  (39, .aload_n 0, 1),
  (40, .getfield 26, 3),
  (43, .iload_n 1, 1),
  (44, .invokevirtual 74, 3),
  (47, .invokevirtual 60, 3),
  (50, .iastore, 1),
  (51, .aload_n 0, 1),
  (52, .invokevirtual 132, 3),
  (55, .ireturn, 1)],
  [(20, 8, [7]), (26, 5, [7]), (23, 9, [7])], [], [], ⟨3, 0, 0, 64⟩)
theorem okX10_store : am_Mok mX10_store := am_Mok.of [333, 330, 334] [] [] (by decide +kernel)
def mX10_memoryIndexOf : am_M := (yX10_memoryIndexOf, cX10_memoryIndexOf, 3, (Option.some Jvm.ClassFile.FieldType.int),
  [(0, .aload_n 0, 1),
  (1, .getfield 26, 3),
  (4, .iload_n 1, 1),
  (5, .invokevirtual 86, 3),
  (8, .istore_n 2, 1),
  (9, .aload_n 0, 1),
  (10, .iload_n 2, 1),
  (11, .invokevirtual 57, 3),
  (14, .ifCond .eq 23, 3),
  (17, .aload_n 0, 1),
  (18, .iload_n 2, 1),
  (19, .invokevirtual 60, 3),
  (22, .aload_n 0, 1),
  (23, .getfield 26, 3),
  (26, .iload_n 1, 1),
  (27, .invokevirtual 114, 3),
  (30, .iadd, 1),
  (31, .invokestatic 138, 3),
  (34, .goto 4, 3),
  (37, .iconst (-1), 1),
  (38, .ireturn, 1)],
  [(26, 5, [7])], [], [], ⟨2, 0, 0, 42⟩)
theorem okX10_memoryIndexOf : am_Mok mX10_memoryIndexOf := am_Mok.of [330] [] [] (by decide +kernel)
def mX10_callFunction : am_M := (yX10_callFunction, cX10_callFunction, 2, (Option.some Jvm.ClassFile.FieldType.int),
  [(0, .aload_n 0, 1),
  (1, .iconst 1, 1),
  (2, .iconst 2, 1),
  (3, .aload_n 0, 1),
  (4, .getfield 46, 3),
  (7, .bipush 6, 2),
  (9, .ishl, 1),
  (10, .aload_n 0, 1),
  (11, .getfield 50, 3),
  (14, .iconst 1, 1),
  (15, .iadd, 1),
  (16, .ior, 1),
  (17, .invokevirtual 42, 3),
  (20, .aload_n 0, 1),
  (21, .iload_n 1, 1),
  (22, .iconst 0, 1),
  (23, .invokevirtual 99, 3),
  (26, .ireturn, 1)],
  [(46, 10, [7]), (50, 11, [7])], [], [], ⟨2, 0, 0, 43⟩)
theorem okX10_callFunction : am_Mok mX10_callFunction := am_Mok.of [335, 336] [] [] (by decide +kernel)
def mX10_goBack : am_M := (yX10_goBack, cX10_goBack, 2, (Option.some Jvm.ClassFile.FieldType.int),
  [(0, .aload_n 0, 1),
  (1, .iconst 1, 1),
  (2, .invokevirtual 108, 3),
  (5, .iconst 2, 1),
  (6, .if_icmp .eq 5, 3),
  (9, .iconst 2, 1),
  (10, .ireturn, 1),
  (11, .aload_n 0, 1),
  (12, .iconst 1, 1),
  (13, .invokevirtual 60, 3),
  (16, .istore_n 1, 1),
  (17, .iload_n 1, 1),
  (18, .iconst (-1), 1),
  (19, .if_icmp .ne 7, 3),
  (22, .iconst 0, 1),
  (23, .goto 15, 3),
  (26, .aload_n 0, 1),
  (27, .iload_n 1, 1),
  (28, .bipush 6, 2),
  (30, .ishr, 1),
  (31, .iload_n 1, 1),
  (32, .bipush 63, 2),
  (34, .iand, 1),
  (35, .invokevirtual 99, 3),
  (38, .ireturn, 1)],
  [], [], [], ⟨1, 0, 0, 22⟩)
theorem okX10_goBack : am_Mok mX10_goBack := am_Mok.of [] [] [] (by decide +kernel)
def mX10_print : am_M := (yX10_print, cX10_print, 1, (Option.some Jvm.ClassFile.FieldType.int),
  [(0, .aload_n 0, 1),
  (1, .bipush 10, 2),
  (3, .invokevirtual 57, 3),
  (6, .ifCond .ne 5, 3),
  (9, .iconst 2, 1),
  (10, .ireturn, 1),
  (11, .aload_n 0, 1),
  (12, .aload_n 0, 1),
  (13, .bipush 10, 2),
  (15, .invokevirtual 60, 3),
  (18, .invokevirtual 141, 3),
  (21, .aload_n 0, 1),
  (22, .invokevirtual 132, 3),
  (25, .ireturn, 1)],
  [], [], [], ⟨2, 0, 0, 42⟩)
theorem okX10_print : am_Mok mX10_print := am_Mok.of [] [] [] (by decide +kernel)
def mX10_goTo : am_M := (yX10_goTo, cX10_goTo, 3, (Option.some Jvm.ClassFile.FieldType.int),
  [(0, .aload_n 0, 1),
  (1, .iload_n 1, 1),
  (2, .putfield 46, 3),
  (5, .aload_n 0, 1),
  (6, .iload_n 2, 1),
  (7, .putfield 50, 3),
  (10, .iconst 3, 1),
  (11, .ireturn, 1)],
  [(46, 10, [7]), (50, 11, [7])], [], [], ⟨0, 0, 0, 0⟩)
theorem okX10_goTo : am_Mok mX10_goTo := am_Mok.of [335, 336] [] [] (by decide +kernel)
def mX10_goOn : am_M := (yX10_goOn, cX10_goOn, 1, (Option.some Jvm.ClassFile.FieldType.int),
  [(0, .aload_n 0, 1),
  (1, .dup, 1),
  (2, .getfield 50, 3),
  (5, .iconst 1, 1),
  (6, .iadd, 1),
  (7, .putfield 50, 3),
  (10, .iconst 3, 1),
  (11, .ireturn, 1)],
  [(50, 11, [7])], [], [], ⟨0, 0, 0, 0⟩)
theorem okX10_goOn : am_Mok mX10_goOn := am_Mok.of [336] [] [] (by decide +kernel)
def mX10_writeAndGoOn : am_M := (yX10_writeAndGoOn, cX10_writeAndGoOn, 4, (Option.some Jvm.ClassFile.FieldType.int),
  [(0, .aload_n 0, 1),
  (1, .iload_n 1, 1),
  (2, .iload_n 2, 1),
  (3, .iload_n 3, 1),
  (4, .invokevirtual 42, 3),
  (7, .aload_n 0, 1),
  (8, .invokevirtual 132, 3),
  (11, .ireturn, 1)],
  [], [], [], ⟨2, 0, 0, 43⟩)
theorem okX10_writeAndGoOn : am_Mok mX10_writeAndGoOn := am_Mok.of [] [] [] (by decide +kernel)
def mX10_write : am_M := (yX10_write, cX10_write, 4, (Option.none : Option Jvm.ClassFile.FieldType),
  [(0, .iload_n 1, 1),
  (1, .ifCond .eq 24, 3),
  (4, .iload_n 1, 1),
  (5, .invokestatic 145, 3),
  (8, .ifCond .eq 17, 3),
  (11, .aload_n 0, 1),
  (12, .getfield 11, 3),
  (15, .iload_n 1, 1),
  (16, .iload_n 2, 1),
  (17, .iastore, 1),
  (18, .aload_n 0, 1),
  (19, .getfield 17, 3),
  (22, .iload_n 1, 1),
  (23, .iload_n 3, 1),
  (24, .iastore, 1),
  (25, .return_, 1)],
  [(11, 6, [7]), (17, 7, [7])], [], [], ⟨1, 0, 0, 20⟩)
theorem okX10_write : am_Mok mX10_write := am_Mok.of [331, 332] [] [] (by decide +kernel)
def mX10_sortIn : am_M := (yX10_sortIn, cX10_sortIn, 2, (Option.some Jvm.ClassFile.FieldType.int),
  [(0, .iload_n 1, 1),
  (1, .ifCond .lt 21, 3),
  (4, .iload_n 1, 1),
  (5, .aload_n 0, 1),
  (6, .getfield 11, 3),
  (9, .arraylength, 1),
  (10, .if_icmp .ge 12, 3),
  (13, .aload_n 0, 1),
  (14, .getfield 11, 3),
  (17, .iload_n 1, 1),
  (18, .iaload, 1),
  (19, .goto 4, 3),
  (22, .iconst 0, 1),
  (23, .ireturn, 1)],
  [(11, 6, [7])], [], [], ⟨0, 0, 0, 0⟩)
theorem okX10_sortIn : am_Mok mX10_sortIn := am_Mok.of [331] [] [] (by decide +kernel)
def mX10_valueIn : am_M := (yX10_valueIn, cX10_valueIn, 2, (Option.some Jvm.ClassFile.FieldType.int),
  [(0, .iload_n 1, 1),
  (1, .ifCond .lt 21, 3),
  (4, .iload_n 1, 1),
  (5, .aload_n 0, 1),
  (6, .getfield 17, 3),
  (9, .arraylength, 1),
  (10, .if_icmp .ge 12, 3),
  (13, .aload_n 0, 1),
  (14, .getfield 17, 3),
  (17, .iload_n 1, 1),
  (18, .iaload, 1),
  (19, .goto 4, 3),
  (22, .iconst 0, 1),
  (23, .ireturn, 1)],
  [(17, 7, [7])], [], [], ⟨0, 0, 0, 0⟩)
theorem okX10_valueIn : am_Mok mX10_valueIn := am_Mok.of [332] [] [] (by decide +kernel)
def mX10_isNumber : am_M := (yX10_isNumber, cX10_isNumber, 2, (Option.some Jvm.ClassFile.FieldType.boolean),
  [(0, .aload_n 0, 1),
  (1, .iload_n 1, 1),
  (2, .invokevirtual 108, 3),
  (5, .ifCond .ne 7, 3),
  (8, .iconst 1, 1),
  (9, .goto 4, 3),
  (12, .iconst 0, 1),
  (13, .ireturn, 1)],
  [], [], [], ⟨1, 0, 0, 21⟩)
theorem okX10_isNumber : am_Mok mX10_isNumber := am_Mok.of [] [] [] (by decide +kernel)
end
section
def mX11_init : am_M := (yX11_init, cX11_init, 1, (Option.none : Option Jvm.ClassFile.FieldType),
  [(0, .aload_n 0, 1),
  (1, .invokespecial 1, 3),
  (4, .aload_n 0, 1),
  (5, .new 7, 3),
  (8, .dup, 1),
  (9, .invokespecial 9, 3),
  (12, .putfield 10, 3),
  (15, .aload_n 0, 1),
  (16, .new 16, 3),
  (19, .dup, 1),
  (20, .aload_n 0, 1),
  (21, .getfield 10, 3),
  (24, .invokespecial 18, 3),
  (27, .putfield 21, 3),
  (30, .aload_n 0, 1),
  (31, .new 25, 3),
  (34, .dup, 1),
  (35, .invokespecial 27, 3),
  (38, .putfield 28, 3),
  (41, .aload_n 0, 1),
  (42, .new 32, 3),
  (45, .dup, 1),
  (46, .invokespecial 34, 3),
  (49, .putfield 35, 3),
  (52, .aload_n 0, 1),
  (53, .new 39, 3),
  (56, .dup, 1),
  (57, .aload_n 0, 1),
  (58, .getfield 10, 3),
  (61, .aload_n 0, 1),
  (62, .getfield 28, 3),
  (65, .aload_n 0, 1),
  (66, .getfield 35, 3),
  (69, .invokespecial 41, 3),
  (72, .putfield 44, 3),
  (75, .aload_n 0, 1),
  (76, .new 48, 3),
  (79, .dup, 1),
  (80, .aload_n 0, 1),
  (81, .getfield 10, 3),
  (84, .aload_n 0, 1),
  (85, .getfield 28, 3),
  (88, .aload_n 0, 1),
  (89, .getfield 35, 3),
  (92, .invokespecial 50, 3),
  (95, .putfield 51, 3),
  (98, .aload_n 0, 1),
  (99, .new 55, 3),
  (102, .dup, 1),
  (103, .aload_n 0, 1),
  (104, .getfield 10, 3),
  (107, .invokespecial 57, 3),
  (110, .putfield 58, 3),
  (113, .aload_n 0, 1),
  (114, .new 62, 3),
  (117, .dup, 1),
  (118, .aload_n 0, 1),
  (119, .getfield 28, 3),
  (122, .invokespecial 64, 3),
  (125, .putfield 67, 3),
  (128, .return_, 1)],
  [(10, 0, [8]), (21, 1, [8]), (28, 2, [8]), (35, 3, [8]), (44, 4, [8]), (51, 5, [8]), (58, 6, [8]), (67, 7, [8])], [], [], ⟨3, 68, 12927, 57⟩)
theorem okX11_init : am_Mok mX11_init := am_Mok.of [391, 392, 393, 394, 395, 396, 397, 398] [] [] (by decide +kernel)
def mX11_function : am_M := (yX11_function, cX11_function, 1, (Option.some Jvm.ClassFile.FieldType.int),
  [(0, .aload_n 0, 1),
  (1, .getfield 10, 3),
  (4, .invokevirtual 71, 3),
  (7, .ireturn, 1)],
  [(10, 0, [8])], [], [], ⟨1, 0, 0, 20⟩)
theorem okX11_function : am_Mok mX11_function := am_Mok.of [391] [] [] (by decide +kernel)
def mX11_put : am_M := (yX11_put, cX11_put, 6, (Option.some Jvm.ClassFile.FieldType.int),
  [(0, .aload_n 0, 1),
  (1, .getfield 10, 3),
  (4, .iload_n 1, 1),
  (5, .iload_n 2, 1),
  (6, .iload_n 3, 1),
  (7, .iload 4, 2),
  (9, .iload 5, 2),
  (11, .invokevirtual 75, 3),
  (14, .ireturn, 1)],
  [(10, 0, [8])], [], [], ⟨4, 0, 0, 93⟩)
theorem okX11_put : am_Mok mX11_put := am_Mok.of [391] [] [] (by decide +kernel)
def mX11_clear : am_M := (yX11_clear, cX11_clear, 1, (Option.some Jvm.ClassFile.FieldType.int),
  [(0, .aload_n 0, 1),
  (1, .getfield 28, 3),
  (4, .invokevirtual 79, 3),
  (7, .aload_n 0, 1),
  (8, .getfield 35, 3),
  (11, .invokevirtual 82, 3),
  (14, .aload_n 0, 1),
  (15, .getfield 10, 3),
  (18, .invokevirtual 83, 3),
  (21, .ireturn, 1)],
  [(28, 2, [8]), (35, 3, [8]), (10, 0, [8])], [], [], ⟨2, 0, 0, 43⟩)
theorem okX11_clear : am_Mok mX11_clear := am_Mok.of [393, 394, 391] [] [] (by decide +kernel)
def mX11_press : am_M := (yX11_press, cX11_press, 5, (Option.some Jvm.ClassFile.FieldType.int),
  [(0, .aload_n 0, 1),
  (1, .getfield 10, 3),
  (4, .invokevirtual 85, 3),
  (7, .istore_n 3, 1),
  (8, .iload_n 3, 1),
  (9, .ifCond .eq 6, 3),
  (12, .iload_n 3, 1),
  (13, .ineg, 1),
  (14, .ireturn, 1),
  (15, .aload_n 0, 1),
  (16, .getfield 21, 3),
  (19, .invokevirtual 88, 3),
  (22, .aload_n 0, 1),
  (23, .getfield 28, 3),
  (26, .aload_n 0, 1),
  (27, .getfield 10, 3),
  (30, .invokevirtual 91, 3),
  (33, .invokevirtual 94, 3),
  (36, .iconst 0, 1),
  (37, .istore 4, 2),
  (39, .iload 4, 2),
  (41, .aload_n 0, 1),
  (42, .getfield 10, 3),
  (45, .invokevirtual 91, 3),
  (48, .if_icmp .ge 36, 3),
  (51, .aload_n 0, 1),
  (52, .getfield 28, 3),
  (55, .iload 4, 2),
  (57, .iload_n 1, 1),
  (58, .ifCond .eq 15, 3),
  (61, .aload_n 0, 1),
  (62, .getfield 21, 3),
  (65, .iload 4, 2),
  (67, .invokevirtual 98, 3),
  (70, .goto 5, 3),
  (73, .iload 4, 2),
  (75, .invokevirtual 102, 3),
  (78, .iinc 4 1, 3),
  (81, .goto (-42), 3),
  (84, .aload_n 0, 1),
  (85, .getfield 35, 3),
  (88, .invokevirtual 82, 3),
  (91, .iload_n 2, 1),
  (92, .ifCond .eq 10, 3),
  (95, .aload_n 0, 1),
  (96, .getfield 44, 3),
  (99, .invokevirtual 106, 3),
  (102, .aload_n 0, 1),
  (103, .getfield 51, 3),
  (106, .invokevirtual 109, 3),
  (109, .aload_n 0, 1),
  (110, .getfield 28, 3),
  (113, .invokevirtual 112, 3),
  (116, .ireturn, 1)],
  [(10, 0, [8]), (21, 1, [8]), (28, 2, [8]), (35, 3, [8]), (44, 4, [8]), (51, 5, [8])], [], [], ⟨7, 0, 0, 162⟩)
theorem okX11_press : am_Mok mX11_press := am_Mok.of [391, 392, 393, 394, 395, 396] [] [] (by decide +kernel)
def mX11_about : am_M := (yX11_about, cX11_about, 3, (Option.some Jvm.ClassFile.FieldType.int),
  [(0, .aload_n 0, 1),
  (1, .getfield 10, 3),
  (4, .iload_n 1, 1),
  (5, .invokevirtual 115, 3),
  (8, .ifCond .ne 5, 3),
  (11, .iconst (-1), 1),
  (12, .ireturn, 1),
  (13, .iload_n 2, 1),
  (14, .tableswitch 75 0 2 #[26, 35, 59], 26),
  (40, .aload_n 0, 1),
  (41, .getfield 10, 3),
  (44, .iload_n 1, 1),
  (45, .invokevirtual 119, 3),
  (48, .ireturn, 1),
  (49, .aload_n 0, 1),
  (50, .getfield 21, 3),
  (53, .invokevirtual 88, 3),
  (56, .aload_n 0, 1),
  (57, .getfield 21, 3),
  (60, .iload_n 1, 1),
  (61, .invokevirtual 122, 3),
  (64, .ifCond .eq 7, 3),
  (67, .iconst 1, 1),
  (68, .goto 4, 3),
  (71, .iconst 0, 1),
  (72, .ireturn, 1),
  (73, .aload_n 0, 1),
  (74, .getfield 21, 3),
  (77, .invokevirtual 88, 3),
  (80, .aload_n 0, 1),
  (81, .getfield 21, 3),
  (84, .iload_n 1, 1),
  (85, .invokevirtual 125, 3),
  (88, .ireturn, 1),
  (89, .iconst (-1), 1),
  (90, .ireturn, 1)],
  [(10, 0, [8]), (21, 1, [8])], [], [], ⟨7, 0, 0, 158⟩)
theorem okX11_about : am_Mok mX11_about := am_Mok.of [391, 392] [] [] (by decide +kernel)
def mX11_body : am_M := (yX11_body, cX11_body, 4, (Option.some Jvm.ClassFile.FieldType.int),
  [(0, .aload_n 0, 1),
  (1, .getfield 28, 3),
  (4, .iload_n 1, 1),
  (5, .invokevirtual 128, 3),
  (8, .istore_n 3, 1),
  (9, .iload_n 2, 1),
  (10, .lookupswitch 37 #[(0, 26), (1, 28)], 26),
  (36, .iload_n 3, 1),
  (37, .ireturn, 1),
  (38, .aload_n 0, 1),
  (39, .getfield 28, 3),
  (42, .iload_n 3, 1),
  (43, .invokevirtual 129, 3),
  (46, .ireturn, 1),
  (47, .iconst (-1), 1),
  (48, .ireturn, 1)],
  [(28, 2, [8])], [], [], ⟨2, 0, 0, 42⟩)
theorem okX11_body : am_Mok mX11_body := am_Mok.of [393] [] [] (by decide +kernel)
def mX11_routine : am_M := (yX11_routine, cX11_routine, 3, (Option.some Jvm.ClassFile.FieldType.int),
  [(0, .aload_n 0, 1),
  (1, .getfield 35, 3),
  (4, .iload_n 1, 1),
  (5, .invokevirtual 132, 3),
  (8, .ifCond .ne 5, 3),
  (11, .iconst (-1), 1),
  (12, .ireturn, 1),
  (13, .iload_n 2, 1),
  (14, .tableswitch 66 0 3 #[30, 39, 48, 57], 30),
  (44, .aload_n 0, 1),
  (45, .getfield 35, 3),
  (48, .iload_n 1, 1),
  (49, .invokevirtual 135, 3),
  (52, .ireturn, 1),
  (53, .aload_n 0, 1),
  (54, .getfield 35, 3),
  (57, .iload_n 1, 1),
  (58, .invokevirtual 136, 3),
  (61, .ireturn, 1),
  (62, .aload_n 0, 1),
  (63, .getfield 35, 3),
  (66, .iload_n 1, 1),
  (67, .invokevirtual 139, 3),
  (70, .ireturn, 1),
  (71, .aload_n 0, 1),
  (72, .getfield 35, 3),
  (75, .iload_n 1, 1),
  (76, .invokevirtual 142, 3),
  (79, .ireturn, 1),
  (80, .iconst (-1), 1),
  (81, .ireturn, 1)],
  [(35, 3, [8])], [], [], ⟨2, 0, 0, 42⟩)
theorem okX11_routine : am_Mok mX11_routine := am_Mok.of [394] [] [] (by decide +kernel)
def mX11_occurrence : am_M := (yX11_occurrence, cX11_occurrence, 5, (Option.some Jvm.ClassFile.FieldType.int),
  [(0, .aload_n 0, 1),
  (1, .getfield 35, 3),
  (4, .iload_n 1, 1),
  (5, .iload_n 2, 1),
  (6, .invokevirtual 143, 3),
  (9, .istore 4, 2),
  (11, .iload 4, 2),
  (13, .iconst (-1), 1),
  (14, .if_icmp .ne 5, 3),
  (17, .iconst (-1), 1),
  (18, .ireturn, 1),
  (19, .iload_n 3, 1),
  (20, .tableswitch 58 0 2 #[28, 38, 48], 28),
  (48, .aload_n 0, 1),
  (49, .getfield 35, 3),
  (52, .iload 4, 2),
  (54, .invokevirtual 147, 3),
  (57, .ireturn, 1),
  (58, .aload_n 0, 1),
  (59, .getfield 35, 3),
  (62, .iload 4, 2),
  (64, .invokevirtual 150, 3),
  (67, .ireturn, 1),
  (68, .aload_n 0, 1),
  (69, .getfield 35, 3),
  (72, .iload 4, 2),
  (74, .invokevirtual 153, 3),
  (77, .ireturn, 1),
  (78, .iconst (-1), 1),
  (79, .ireturn, 1)],
  [(35, 3, [8])], [], [], ⟨2, 0, 0, 43⟩)
theorem okX11_occurrence : am_Mok mX11_occurrence := am_Mok.of [394] [] [] (by decide +kernel)
def mX11_word : am_M := (yX11_word, cX11_word, 2, (Option.some Jvm.ClassFile.FieldType.int),
  [(0, .aload_n 0, 1),
  (1, .getfield 28, 3),
  (4, .iload_n 1, 1),
  (5, .invokevirtual 156, 3),
  (8, .ireturn, 1)],
  [(28, 2, [8])], [], [], ⟨1, 0, 0, 21⟩)
theorem okX11_word : am_Mok mX11_word := am_Mok.of [393] [] [] (by decide +kernel)
def mX11_run : am_M := (yX11_run, cX11_run, 4, (Option.some Jvm.ClassFile.FieldType.int),
  [(0, .aload_n 0, 1),
  (1, .iload_n 1, 1),
  (2, .invokevirtual 159, 3),
  (5, .astore_n 3, 1),
  (6, .aload_n 3, 1),
  (7, .ifnull 22, 3),
  (10, .iload_n 2, 1),
  (11, .iconst 1, 1),
  (12, .if_icmp .lt 17, 3),
  (15, .iload_n 2, 1),
  (16, .sipush 20000, 3),
  (19, .if_icmp .gt 10, 3),
  (22, .aload_n 3, 1),
  (23, .invokevirtual 165, 3),
  (26, .ifCond .ne 5, 3),
  (29, .iconst (-1), 1),
  (30, .ireturn, 1),
  (31, .aload_n 3, 1),
  (32, .iload_n 2, 1),
  (33, .invokevirtual 169, 3),
  (36, .ireturn, 1)],
  [], [], [], ⟨6, 0, 0, 142⟩)
theorem okX11_run : am_Mok mX11_run := am_Mok.of [] [] [] (by decide +kernel)
def mX11_ran : am_M := (yX11_ran, cX11_ran, 4, (Option.some Jvm.ClassFile.FieldType.int),
  [(0, .aload_n 0, 1),
  (1, .iload_n 1, 1),
  (2, .invokevirtual 159, 3),
  (5, .astore_n 3, 1),
  (6, .aload_n 3, 1),
  (7, .ifnull 10, 3),
  (10, .aload_n 3, 1),
  (11, .invokevirtual 172, 3),
  (14, .ifCond .ne 5, 3),
  (17, .iconst (-1), 1),
  (18, .ireturn, 1),
  (19, .iload_n 2, 1),
  (20, .tableswitch 61 0 4 #[36, 41, 46, 51, 56], 36),
  (56, .aload_n 3, 1),
  (57, .invokevirtual 175, 3),
  (60, .ireturn, 1),
  (61, .aload_n 3, 1),
  (62, .invokevirtual 178, 3),
  (65, .ireturn, 1),
  (66, .aload_n 3, 1),
  (67, .invokevirtual 181, 3),
  (70, .ireturn, 1),
  (71, .aload_n 3, 1),
  (72, .invokevirtual 184, 3),
  (75, .ireturn, 1),
  (76, .aload_n 3, 1),
  (77, .invokevirtual 187, 3),
  (80, .ireturn, 1),
  (81, .iconst (-1), 1),
  (82, .ireturn, 1)],
  [], [], [], ⟨2, 0, 0, 40⟩)
theorem okX11_ran : am_Mok mX11_ran := am_Mok.of [] [] [] (by decide +kernel)
def mX11_printed : am_M := (yX11_printed, cX11_printed, 4, (Option.some Jvm.ClassFile.FieldType.int),
  [(0, .aload_n 0, 1),
  (1, .iload_n 1, 1),
  (2, .invokevirtual 159, 3),
  (5, .astore_n 3, 1),
  (6, .aload_n 3, 1),
  (7, .ifnonnull 7, 3),
  (10, .iconst 0, 1),
  (11, .goto 8, 3),
  (14, .aload_n 3, 1),
  (15, .iload_n 2, 1),
  (16, .invokevirtual 190, 3),
  (19, .ireturn, 1)],
  [], [], [], ⟨1, 0, 0, 21⟩)
theorem okX11_printed : am_Mok mX11_printed := am_Mok.of [] [] [] (by decide +kernel)
def mX11_register : am_M := (yX11_register, cX11_register, 4, (Option.some Jvm.ClassFile.FieldType.int),
  [(0, .aload_n 0, 1),
  (1, .iload_n 1, 1),
  (2, .invokevirtual 159, 3),
  (5, .astore_n 3, 1),
  (6, .aload_n 3, 1),
  (7, .ifnonnull 7, 3),
  (10, .iconst 0, 1),
  (11, .goto 8, 3),
  (14, .aload_n 3, 1),
  (15, .iload_n 2, 1),
  (16, .invokevirtual 193, 3),
  (19, .ireturn, 1)],
  [], [], [], ⟨3, 0, 0, 63⟩)
theorem okX11_register : am_Mok mX11_register := am_Mok.of [] [] [] (by decide +kernel)
def mX11_memory : am_M := (yX11_memory, cX11_memory, 4, (Option.some Jvm.ClassFile.FieldType.int),
  [(0, .aload_n 0, 1),
  (1, .iload_n 1, 1),
  (2, .invokevirtual 159, 3),
  (5, .astore_n 3, 1),
  (6, .aload_n 3, 1),
  (7, .ifnonnull 7, 3),
  (10, .iconst 0, 1),
  (11, .goto 8, 3),
  (14, .aload_n 3, 1),
  (15, .iload_n 2, 1),
  (16, .invokevirtual 196, 3),
  (19, .ireturn, 1)],
  [], [], [], ⟨2, 0, 0, 41⟩)
theorem okX11_memory : am_Mok mX11_memory := am_Mok.of [] [] [] (by decide +kernel)
def mX11_count : am_M := (yX11_count, cX11_count, 2, (Option.some Jvm.ClassFile.FieldType.int),
  [(0, .iload_n 1, 1),
  (1, .tableswitch 106 0 6 #[43, 51, 59, 74, 82, 90, 98], 43),
  (44, .aload_n 0, 1),
  (45, .getfield 10, 3),
  (48, .invokevirtual 91, 3),
  (51, .ireturn, 1),
  (52, .aload_n 0, 1),
  (53, .getfield 10, 3),
  (56, .invokevirtual 199, 3),
  (59, .ireturn, 1),
  (60, .aload_n 0, 1),
  (61, .getfield 21, 3),
  (64, .invokevirtual 88, 3),
  (67, .aload_n 0, 1),
  (68, .getfield 21, 3),
  (71, .invokevirtual 200, 3),
  (74, .ireturn, 1),
  (75, .aload_n 0, 1),
  (76, .getfield 28, 3),
  (79, .invokevirtual 112, 3),
  (82, .ireturn, 1),
  (83, .aload_n 0, 1),
  (84, .getfield 28, 3),
  (87, .invokevirtual 203, 3),
  (90, .ireturn, 1),
  (91, .aload_n 0, 1),
  (92, .getfield 35, 3),
  (95, .invokevirtual 206, 3),
  (98, .ireturn, 1),
  (99, .aload_n 0, 1),
  (100, .getfield 35, 3),
  (103, .invokevirtual 207, 3),
  (106, .ireturn, 1),
  (107, .iconst (-1), 1),
  (108, .ireturn, 1)],
  [(10, 0, [8]), (21, 1, [8]), (28, 2, [8]), (35, 3, [8])], [], [], ⟨7, 0, 0, 158⟩)
theorem okX11_count : am_Mok mX11_count := am_Mok.of [391, 392, 393, 394] [] [] (by decide +kernel)
def mX11_machineOf : am_M := (yX11_machineOf, cX11_machineOf, 2, (Option.some (Jvm.ClassFile.FieldType.object "LinkPress$Machine")),
  [(0, .iload_n 1, 1),
  (1, .lookupswitch 37 #[(0, 27), (1, 32)], 27),
  (28, .aload_n 0, 1),
  (29, .getfield 58, 3),
  (32, .areturn, 1),
  (33, .aload_n 0, 1),
  (34, .getfield 67, 3),
  (37, .areturn, 1),
  (38, .aconst_null, 1),
  (39, .areturn, 1)],
  [(58, 6, [8]), (67, 7, [8])], [], [], ⟨0, 0, 0, 0⟩)
theorem okX11_machineOf : am_Mok mX11_machineOf := am_Mok.of [397, 398] [] [] (by decide +kernel)
end
section
def mX12_init : am_M := (yX12_init, cX12_init, 1, (Option.none : Option Jvm.ClassFile.FieldType),
  [(0, .aload_n 0, 1),
  (1, .invokespecial 1, 3),
  (4, .aload_n 0, 1),
  (5, .bipush 24, 2),
  (7, .newarray .int, 2),
  (9, .putfield 7, 3),
  (12, .aload_n 0, 1),
  (13, .sipush 960, 3),
  (16, .newarray .int, 2),
  (18, .putfield 13, 3),
  (21, .aload_n 0, 1),
  (22, .sipush 960, 3),
  (25, .newarray .int, 2),
  (27, .putfield 16, 3),
  (30, .aload_n 0, 1),
  (31, .sipush 960, 3),
  (34, .newarray .int, 2),
  (36, .putfield 19, 3),
  (39, .aload_n 0, 1),
  (40, .sipush 960, 3),
  (43, .newarray .int, 2),
  (45, .putfield 22, 3),
  (48, .aload_n 0, 1),
  (49, .bipush 24, 2),
  (51, .newarray .int, 2),
  (53, .putfield 25, 3),
  (56, .aload_n 0, 1),
  (57, .bipush 24, 2),
  (59, .newarray .int, 2),
  (61, .putfield 28, 3),
  (64, .aload_n 0, 1),
  (65, .bipush 24, 2),
  (67, .newarray .int, 2),
  (69, .putfield 31, 3),
  (72, .aload_n 0, 1),
  (73, .bipush 24, 2),
  (75, .newarray .int, 2),
  (77, .putfield 34, 3),
  (80, .aload_n 0, 1),
  (81, .sipush 1000, 3),
  (84, .newarray .int, 2),
  (86, .putfield 37, 3),
  (89, .aload_n 0, 1),
  (90, .bipush 60, 2),
  (92, .newarray .int, 2),
  (94, .putfield 40, 3),
  (97, .aload_n 0, 1),
  (98, .bipush 60, 2),
  (100, .newarray .int, 2),
  (102, .putfield 43, 3),
  (105, .aload_n 0, 1),
  (106, .bipush 60, 2),
  (108, .newarray .int, 2),
  (110, .putfield 46, 3),
  (113, .aload_n 0, 1),
  (114, .bipush 60, 2),
  (116, .newarray .int, 2),
  (118, .putfield 49, 3),
  (121, .aload_n 0, 1),
  (122, .bipush 60, 2),
  (124, .newarray .int, 2),
  (126, .putfield 52, 3),
  (129, .aload_n 0, 1),
  (130, .sipush 9000, 3),
  (133, .newarray .int, 2),
  (135, .putfield 55, 3),
  (138, .aload_n 0, 1),
  (139, .sipush 9000, 3),
  (142, .newarray .int, 2),
  (144, .putfield 58, 3),
  (147, .aload_n 0, 1),
  (148, .sipush 960, 3),
  (151, .newarray .int, 2),
  (153, .putfield 61, 3),
  (156, .aload_n 0, 1),
  (157, .sipush 960, 3),
  (160, .newarray .int, 2),
  (162, .putfield 64, 3),
  (165, .aload_n 0, 1),
  (166, .sipush 960, 3),
  (169, .newarray .boolean, 2),
  (171, .putfield 67, 3),
  (174, .aload_n 0, 1),
  (175, .sipush 960, 3),
  (178, .newarray .boolean, 2),
  (180, .putfield 71, 3),
  (183, .aload_n 0, 1),
  (184, .sipush 960, 3),
  (187, .newarray .boolean, 2),
  (189, .putfield 74, 3),
  (192, .aload_n 0, 1),
  (193, .sipush 150, 3),
  (196, .newarray .int, 2),
  (198, .putfield 77, 3),
  (201, .aload_n 0, 1),
  (202, .iconst 2, 1),
  (203, .newarray .int, 2),
  (205, .dup, 1),
  (206, .iconst 0, 1),
  (207, .iconst (-1), 1),
  (208, .iastore, 1),
  (209, .dup, 1),
  (210, .iconst 1, 1),
  (211, .iconst (-1), 1),
  (212, .iastore, 1),
  (213, .putfield 80, 3),
  (216, .aload_n 0, 1),
  (217, .iconst 2, 1),
  (218, .newarray .int, 2),
  (220, .putfield 83, 3),
  (223, .aload_n 0, 1),
  (224, .iconst 2, 1),
  (225, .newarray .int, 2),
  (227, .putfield 86, 3),
  (230, .aload_n 0, 1),
  (231, .iconst 2, 1),
  (232, .newarray .int, 2),
  (234, .putfield 89, 3),
  (237, .aload_n 0, 1),
  (238, .iconst 2, 1),
  (239, .newarray .int, 2),
  (241, .putfield 92, 3),
  (244, .aload_n 0, 1),
  (245, .iconst 2, 1),
  (246, .sipush 200, 3),
  (249, .multianewarray 95 2, 4),
  (253, .putfield 97, 3),
  (256, .aload_n 0, 1),
  (257, .iconst 2, 1),
  (258, .bipush 32, 2),
  (260, .multianewarray 95 2, 4),
  (264, .putfield 100, 3),
  (267, .aload_n 0, 1),
  (268, .iconst 2, 1),
  (269, .bipush 64, 2),
  (271, .multianewarray 95 2, 4),
  (275, .putfield 103, 3),
  (278, .aload_n 0, 1),
  (279, .bipush 32, 2),
  (281, .newarray .int, 2),
  (283, .putfield 106, 3),
  (286, .aload_n 0, 1),
  (287, .bipush 64, 2),
  (289, .newarray .int, 2),
  (291, .putfield 109, 3),
  (294, .return_, 1)],
  [(7, 3, [9]), (13, 4, [9]), (16, 5, [9]), (19, 6, [9]), (22, 7, [9]), (25, 8, [9]), (28, 9, [9]), (31, 14, [9]), (34, 15, [9]), (37, 16, [9]), (40, 17, [9]), (43, 18, [9]), (46, 19, [9]), (49, 20, [9]), (52, 21, [9]), (55, 22, [9]), (58, 23, [9]), (61, 24, [9]), (64, 25, [9]), (67, 26, [9]), (71, 27, [9]), (74, 28, [9]), (77, 29, [9]), (80, 30, [9]), (83, 31, [9]), (86, 32, [9]), (89, 33, [9]), (92, 34, [9]), (97, 35, [9]), (100, 36, [9]), (103, 37, [9]), (106, 38, [9]), (109, 39, [9])], [], [], ⟨1, 39, 28914, 16⟩)
theorem okX12_init : am_Mok mX12_init := am_Mok.of [1315, 1316, 1317, 1318, 1319, 1320, 1321, 1326, 1327, 1328, 1329, 1330, 1331, 1332, 1333, 1334, 1335, 1336, 1337, 1338, 1339, 1340, 1341, 1342, 1343, 1344, 1345, 1346, 1347, 1348, 1349, 1350, 1351] [] [] (by decide +kernel)
def mX12_function : am_M := (yX12_function, cX12_function, 1, (Option.some Jvm.ClassFile.FieldType.int),
  [(0, .aload_n 0, 1),
  (1, .getfield 116, 3),
  (4, .bipush 24, 2),
  (6, .if_icmp .ne 5, 3),
  (9, .iconst (-1), 1),
  (10, .ireturn, 1),
  (11, .aload_n 0, 1),
  (12, .getfield 7, 3),
  (15, .aload_n 0, 1),
  (16, .getfield 116, 3),
  (19, .iconst 0, 1),
  (20, .iastore, 1),
  (21, .aload_n 0, 1),
  (22, .dup, 1),
  (23, .getfield 116, 3),
  (26, .iconst 1, 1),
  (27, .iadd, 1),
  (28, .putfield 116, 3),
  (31, .aload_n 0, 1),
  (32, .getfield 116, 3),
  (35, .iconst 1, 1),
  (36, .isub, 1),
  (37, .ireturn, 1)],
  [(116, 1, [9]), (7, 3, [9])], [], [], ⟨0, 0, 0, 0⟩)
theorem okX12_function : am_Mok mX12_function := am_Mok.of [1313, 1315] [] [] (by decide +kernel)
def mX12_in : am_M := (yX12_in, cX12_in, 3, (Option.some Jvm.ClassFile.FieldType.boolean),
  [(0, .iload_n 0, 1),
  (1, .iload_n 1, 1),
  (2, .if_icmp .lt 12, 3),
  (5, .iload_n 0, 1),
  (6, .iload_n 2, 1),
  (7, .if_icmp .gt 7, 3),
  (10, .iconst 1, 1),
  (11, .goto 4, 3),
  (14, .iconst 0, 1),
  (15, .ireturn, 1)],
  [], [], [], ⟨0, 0, 0, 0⟩)
theorem okX12_in : am_Mok mX12_in := am_Mok.of [] [] [] (by decide +kernel)
def mX12_isRegister : am_M := (yX12_isRegister, cX12_isRegister, 1, (Option.some Jvm.ClassFile.FieldType.boolean),
  [(0, .iload_n 0, 1),
  (1, .iconst 0, 1),
  (2, .bipush 31, 2),
  (4, .invokestatic 119, 3),
  (7, .ifCond .eq 12, 3),
  (10, .iload_n 0, 1),
  (11, .iconst 5, 1),
  (12, .if_icmp .eq 7, 3),
  (15, .iconst 1, 1),
  (16, .goto 4, 3),
  (19, .iconst 0, 1),
  (20, .ireturn, 1)],
  [], [], [], ⟨1, 0, 0, 22⟩)
theorem okX12_isRegister : am_Mok mX12_isRegister := am_Mok.of [] [] [] (by decide +kernel)
def mX12_isGood : am_M := (yX12_isGood, cX12_isGood, 4, (Option.some Jvm.ClassFile.FieldType.boolean),
  [(0, .iload_n 0, 1),
  (1, .iconst 0, 1),
  (2, .bipush 34, 2),
  (4, .invokestatic 119, 3),
  (7, .ifCond .ne 5, 3),
  (10, .iconst 0, 1),
  (11, .ireturn, 1),
  (12, .iload_n 0, 1),
  (13, .bipush 9, 2),
  (15, .if_icmp .gt 30, 3),
  (18, .iload_n 1, 1),
  (19, .invokestatic 123, 3),
  (22, .ifCond .eq 21, 3),
  (25, .iload_n 2, 1),
  (26, .invokestatic 123, 3),
  (29, .ifCond .eq 14, 3),
  (32, .iload_n 3, 1),
  (33, .invokestatic 123, 3),
  (36, .ifCond .eq 7, 3),
  (39, .iconst 1, 1),
  (40, .goto 4, 3),
  (43, .iconst 0, 1),
  (44, .ireturn, 1),
  (45, .iload_n 0, 1),
  (46, .bipush 18, 2),
  (48, .if_icmp .le 15, 3),
  (51, .iload_n 0, 1),
  (52, .bipush 20, 2),
  (54, .if_icmp .eq 9, 3),
  (57, .iload_n 0, 1),
  (58, .bipush 21, 2),
  (60, .if_icmp .ne 60, 3),
  (63, .iload_n 1, 1),
  (64, .invokestatic 123, 3),
  (67, .ifCond .eq 51, 3),
  (70, .iload_n 2, 1),
  (71, .invokestatic 123, 3),
  (74, .ifCond .eq 44, 3),
  (77, .iload_n 0, 1),
  (78, .bipush 16, 2),
  (80, .bipush 18, 2),
  (82, .invokestatic 119, 3),
  (85, .ifCond .eq 16, 3),
  (88, .iload_n 3, 1),
  (89, .iconst 0, 1),
  (90, .bipush 31, 2),
  (92, .invokestatic 119, 3),
  (95, .ifCond .eq 23, 3),
  (98, .goto 16, 3),
  (101, .iload_n 3, 1),
  (102, .sipush (-2048), 3),
  (105, .sipush 2047, 3),
  (108, .invokestatic 119, 3),
  (111, .ifCond .eq 7, 3),
  (114, .iconst 1, 1),
  (115, .goto 4, 3),
  (118, .iconst 0, 1),
  (119, .ireturn, 1),
  (120, .iload_n 0, 1),
  (121, .bipush 19, 2),
  (123, .if_icmp .ne 26, 3),
  (126, .iload_n 1, 1),
  (127, .invokestatic 123, 3),
  (130, .ifCond .eq 17, 3),
  (133, .iload_n 2, 1),
  (134, .iconst 0, 1),
  (135, .ldc 127, 2),
  (137, .invokestatic 119, 3),
  (140, .ifCond .eq 7, 3),
  (143, .iconst 1, 1),
  (144, .goto 4, 3),
  (147, .iconst 0, 1),
  (148, .ireturn, 1),
  (149, .iload_n 0, 1),
  (150, .bipush 27, 2),
  (152, .if_icmp .gt 33, 3),
  (155, .iload_n 1, 1),
  (156, .invokestatic 123, 3),
  (159, .ifCond .eq 24, 3),
  (162, .iload_n 2, 1),
  (163, .invokestatic 123, 3),
  (166, .ifCond .eq 17, 3),
  (169, .iload_n 3, 1),
  (170, .iconst 0, 1),
  (171, .bipush 39, 2),
  (173, .invokestatic 119, 3),
  (176, .ifCond .eq 7, 3),
  (179, .iconst 1, 1),
  (180, .goto 4, 3),
  (183, .iconst 0, 1),
  (184, .ireturn, 1),
  (185, .iload_n 0, 1),
  (186, .bipush 28, 2),
  (188, .if_icmp .ne 11, 3),
  (191, .iload_n 1, 1),
  (192, .iconst 0, 1),
  (193, .bipush 39, 2),
  (195, .invokestatic 119, 3),
  (198, .ireturn, 1),
  (199, .iload_n 0, 1),
  (200, .bipush 29, 2),
  (202, .if_icmp .eq 9, 3),
  (205, .iload_n 0, 1),
  (206, .bipush 30, 2),
  (208, .if_icmp .ne 11, 3),
  (211, .iload_n 1, 1),
  (212, .iconst 0, 1),
  (213, .bipush 23, 2),
  (215, .invokestatic 119, 3),
  (218, .ireturn, 1),
  (219, .iload_n 0, 1),
  (220, .bipush 32, 2),
  (222, .if_icmp .ne 26, 3),
  (225, .iload_n 1, 1),
  (226, .invokestatic 123, 3),
  (229, .ifCond .eq 17, 3),
  (232, .iload_n 2, 1),
  (233, .iconst 0, 1),
  (234, .bipush 23, 2),
  (236, .invokestatic 119, 3),
  (239, .ifCond .eq 7, 3),
  (242, .iconst 1, 1),
  (243, .goto 4, 3),
  (246, .iconst 0, 1),
  (247, .ireturn, 1),
  (248, .iload_n 0, 1),
  (249, .bipush 33, 2),
  (251, .if_icmp .ne 10, 3),
  (254, .iload_n 1, 1),
  (255, .invokestatic 123, 3),
  (258, .ifCond .eq 7, 3),
  (261, .iconst 1, 1),
  (262, .goto 4, 3),
  (265, .iconst 0, 1),
  (266, .ireturn, 1)],
  [], [(127, 1048575)], [], ⟨2, 0, 0, 42⟩)
theorem okX12_isGood : am_Mok mX12_isGood := am_Mok.of [] [1453] [] (by decide +kernel)
def mX12_put : am_M := (yX12_put, cX12_put, 7, (Option.some Jvm.ClassFile.FieldType.int),
  [(0, .iload_n 1, 1),
  (1, .iconst 0, 1),
  (2, .aload_n 0, 1),
  (3, .getfield 116, 3),
  (6, .iconst 1, 1),
  (7, .isub, 1),
  (8, .invokestatic 119, 3),
  (11, .ifCond .eq 36, 3),
  (14, .iload_n 2, 1),
  (15, .iload_n 3, 1),
  (16, .iload 4, 2),
  (18, .iload 5, 2),
  (20, .invokestatic 128, 3),
  (23, .ifCond .eq 24, 3),
  (26, .aload_n 0, 1),
  (27, .getfield 7, 3),
  (30, .iload_n 1, 1),
  (31, .iaload, 1),
  (32, .bipush 40, 2),
  (34, .if_icmp .eq 13, 3),
  (37, .aload_n 0, 1),
  (38, .getfield 132, 3),
  (41, .sipush 300, 3),
  (44, .if_icmp .ne 5, 3),
  (47, .iconst (-1), 1),
  (48, .ireturn, 1),
  (49, .bipush 40, 2),
  (51, .iload_n 1, 1),
  (52, .imul, 1),
  (53, .aload_n 0, 1),
  (54, .getfield 7, 3),
  (57, .iload_n 1, 1),
  (58, .iaload, 1),
  (59, .iadd, 1),
  (60, .istore 6, 2),
  (62, .aload_n 0, 1),
  (63, .getfield 13, 3),
  (66, .iload 6, 2),
  (68, .iload_n 2, 1),
  (69, .iastore, 1),
  (70, .aload_n 0, 1),
  (71, .getfield 16, 3),
  (74, .iload 6, 2),
  (76, .iload_n 3, 1),
  (77, .iastore, 1),
  (78, .aload_n 0, 1),
  (79, .getfield 19, 3),
  (82, .iload 6, 2),
  (84, .iload 4, 2),
  (86, .iastore, 1),
  (87, .aload_n 0, 1),
  (88, .getfield 22, 3),
  (91, .iload 6, 2),
  (93, .iload 5, 2),
  (95, .iastore, 1),
  (96, .aload_n 0, 1),
  (97, .getfield 7, 3),
  (100, .iload_n 1, 1),
  (101, .dup2, 1),
  (102, .iaload, 1),
  (103, .iconst 1, 1),
  (104, .iadd, 1),
  (105, .iastore, 1),
  (106, .aload_n 0, 1),
  (107, .dup, 1),
  (108, .getfield 132, 3),
  (111, .iconst 1, 1),
  (112, .iadd, 1),
  (113, .putfield 132, 3),
  (116, .aload_n 0, 1),
  (117, .getfield 7, 3),
  (120, .iload_n 1, 1),
  (121, .iaload, 1),
  (122, .iconst 1, 1),
  (123, .isub, 1),
  (124, .ireturn, 1)],
  [(116, 1, [9]), (7, 3, [9]), (132, 2, [9]), (13, 4, [9]), (16, 5, [9]), (19, 6, [9]), (22, 7, [9])], [], [], ⟨3, 0, 0, 65⟩)
theorem okX12_put : am_Mok mX12_put := am_Mok.of [1313, 1315, 1314, 1316, 1317, 1318, 1319] [] [] (by decide +kernel)
def mX12_clear : am_M := (yX12_clear, cX12_clear, 2, (Option.some Jvm.ClassFile.FieldType.int),
  [(0, .aload_n 0, 1),
  (1, .getfield 116, 3),
  (4, .istore_n 1, 1),
  (5, .aload_n 0, 1),
  (6, .iconst 0, 1),
  (7, .putfield 116, 3),
  (10, .aload_n 0, 1),
  (11, .iconst 0, 1),
  (12, .putfield 132, 3),
  (15, .aload_n 0, 1),
  (16, .iconst 0, 1),
  (17, .putfield 135, 3),
  (20, .iload_n 1, 1),
  (21, .ireturn, 1)],
  [(116, 1, [9]), (132, 2, [9]), (135, 10, [9])], [], [], ⟨0, 0, 0, 0⟩)
theorem okX12_clear : am_Mok mX12_clear := am_Mok.of [1313, 1314, 1322] [] [] (by decide +kernel)
def mX12_tellsA : am_M := (yX12_tellsA, cX12_tellsA, 1, (Option.some Jvm.ClassFile.FieldType.boolean),
  [(0, .iload_n 0, 1),
  (1, .bipush 31, 2),
  (3, .if_icmp .eq 13, 3),
  (6, .iload_n 0, 1),
  (7, .bipush 34, 2),
  (9, .if_icmp .eq 7, 3),
  (12, .iconst 1, 1),
  (13, .goto 4, 3),
  (16, .iconst 0, 1),
  (17, .ireturn, 1)],
  [], [], [], ⟨0, 0, 0, 0⟩)
theorem okX12_tellsA : am_Mok mX12_tellsA := am_Mok.of [] [] [] (by decide +kernel)
def mX12_tellsB : am_M := (yX12_tellsB, cX12_tellsB, 1, (Option.some Jvm.ClassFile.FieldType.boolean),
  [(0, .iload_n 0, 1),
  (1, .bipush 27, 2),
  (3, .if_icmp .le 9, 3),
  (6, .iload_n 0, 1),
  (7, .bipush 32, 2),
  (9, .if_icmp .ne 7, 3),
  (12, .iconst 1, 1),
  (13, .goto 4, 3),
  (16, .iconst 0, 1),
  (17, .ireturn, 1)],
  [], [], [], ⟨0, 0, 0, 0⟩)
theorem okX12_tellsB : am_Mok mX12_tellsB := am_Mok.of [] [] [] (by decide +kernel)
def mX12_tellsC : am_M := (yX12_tellsC, cX12_tellsC, 1, (Option.some Jvm.ClassFile.FieldType.boolean),
  [(0, .iload_n 0, 1),
  (1, .bipush 27, 2),
  (3, .if_icmp .gt 13, 3),
  (6, .iload_n 0, 1),
  (7, .bipush 19, 2),
  (9, .if_icmp .eq 7, 3),
  (12, .iconst 1, 1),
  (13, .goto 4, 3),
  (16, .iconst 0, 1),
  (17, .ireturn, 1)],
  [], [], [], ⟨0, 0, 0, 0⟩)
theorem okX12_tellsC : am_Mok mX12_tellsC := am_Mok.of [] [] [] (by decide +kernel)
def mX12_isSame : am_M := (yX12_isSame, cX12_isSame, 4, (Option.some Jvm.ClassFile.FieldType.boolean),
  [(0, .aload_n 0, 1),
  (1, .getfield 13, 3),
  (4, .iload_n 1, 1),
  (5, .iaload, 1),
  (6, .istore_n 3, 1),
  (7, .iload_n 3, 1),
  (8, .aload_n 0, 1),
  (9, .getfield 13, 3),
  (12, .iload_n 2, 1),
  (13, .iaload, 1),
  (14, .if_icmp .ne 73, 3),
  (17, .iload_n 3, 1),
  (18, .invokestatic 139, 3),
  (21, .ifCond .eq 18, 3),
  (24, .aload_n 0, 1),
  (25, .getfield 16, 3),
  (28, .iload_n 1, 1),
  (29, .iaload, 1),
  (30, .aload_n 0, 1),
  (31, .getfield 16, 3),
  (34, .iload_n 2, 1),
  (35, .iaload, 1),
  (36, .if_icmp .ne 51, 3),
  (39, .iload_n 3, 1),
  (40, .invokestatic 142, 3),
  (43, .ifCond .eq 18, 3),
  (46, .aload_n 0, 1),
  (47, .getfield 19, 3),
  (50, .iload_n 1, 1),
  (51, .iaload, 1),
  (52, .aload_n 0, 1),
  (53, .getfield 19, 3),
  (56, .iload_n 2, 1),
  (57, .iaload, 1),
  (58, .if_icmp .ne 29, 3),
  (61, .iload_n 3, 1),
  (62, .invokestatic 145, 3),
  (65, .ifCond .eq 18, 3),
  (68, .aload_n 0, 1),
  (69, .getfield 22, 3),
  (72, .iload_n 1, 1),
  (73, .iaload, 1),
  (74, .aload_n 0, 1),
  (75, .getfield 22, 3),
  (78, .iload_n 2, 1),
  (79, .iaload, 1),
  (80, .if_icmp .ne 7, 3),
  (83, .iconst 1, 1),
  (84, .goto 4, 3),
  (87, .iconst 0, 1),
  (88, .ireturn, 1)],
  [(13, 4, [9]), (16, 5, [9]), (19, 6, [9]), (22, 7, [9])], [], [], ⟨1, 0, 0, 20⟩)
theorem okX12_isSame : am_Mok mX12_isSame := am_Mok.of [1316, 1317, 1318, 1319] [] [] (by decide +kernel)
def mX12_isCall : am_M := (yX12_isCall, cX12_isCall, 1, (Option.some Jvm.ClassFile.FieldType.boolean),
  [(0, .iload_n 0, 1),
  (1, .bipush 29, 2),
  (3, .if_icmp .eq 9, 3),
  (6, .iload_n 0, 1),
  (7, .bipush 30, 2),
  (9, .if_icmp .ne 7, 3),
  (12, .iconst 1, 1),
  (13, .goto 4, 3),
  (16, .iconst 0, 1),
  (17, .ireturn, 1)],
  [], [], [], ⟨0, 0, 0, 0⟩)
theorem okX12_isCall : am_Mok mX12_isCall := am_Mok.of [] [] [] (by decide +kernel)
def mX12_isBranch : am_M := (yX12_isBranch, cX12_isBranch, 1, (Option.some Jvm.ClassFile.FieldType.boolean),
  [(0, .iload_n 0, 1),
  (1, .bipush 22, 2),
  (3, .bipush 27, 2),
  (5, .invokestatic 119, 3),
  (8, .ireturn, 1)],
  [], [], [], ⟨1, 0, 0, 22⟩)
theorem okX12_isBranch : am_Mok mX12_isBranch := am_Mok.of [] [] [] (by decide +kernel)
def mX12_counts : am_M := (yX12_counts, cX12_counts, 2, (Option.some Jvm.ClassFile.FieldType.int),
  [(0, .iload_n 1, 1),
  (1, .aload_n 0, 1),
  (2, .getfield 116, 3),
  (5, .if_icmp .ge 12, 3),
  (8, .aload_n 0, 1),
  (9, .getfield 25, 3),
  (12, .iload_n 1, 1),
  (13, .iaload, 1),
  (14, .goto 7, 3),
  (17, .bipush 100, 2),
  (19, .iload_n 1, 1),
  (20, .iadd, 1),
  (21, .ireturn, 1)],
  [(116, 1, [9]), (25, 8, [9])], [], [], ⟨0, 0, 0, 0⟩)
theorem okX12_counts : am_Mok mX12_counts := am_Mok.of [1313, 1320] [] [] (by decide +kernel)
def mX12_isLike : am_M := (yX12_isLike, cX12_isLike, 7, (Option.some Jvm.ClassFile.FieldType.boolean),
  [(0, .aload_n 0, 1),
  (1, .getfield 7, 3),
  (4, .iload_n 1, 1),
  (5, .iaload, 1),
  (6, .aload_n 0, 1),
  (7, .getfield 7, 3),
  (10, .iload_n 2, 1),
  (11, .iaload, 1),
  (12, .if_icmp .ne 22, 3),
  (15, .aload_n 0, 1),
  (16, .getfield 25, 3),
  (19, .iload_n 1, 1),
  (20, .iaload, 1),
  (21, .aload_n 0, 1),
  (22, .getfield 25, 3),
  (25, .iload_n 2, 1),
  (26, .iaload, 1),
  (27, .if_icmp .ne 7, 3),
  (30, .iconst 1, 1),
  (31, .goto 4, 3),
  (34, .iconst 0, 1),
  (35, .istore_n 3, 1),
  (36, .iconst 0, 1),
  (37, .istore 4, 2),
  (39, .iload 4, 2),
  (41, .aload_n 0, 1),
  (42, .getfield 7, 3),
  (45, .iload_n 1, 1),
  (46, .iaload, 1),
  (47, .if_icmp .ge 103, 3),
  (50, .iload_n 3, 1),
  (51, .ifCond .eq 99, 3),
  (54, .bipush 40, 2),
  (56, .iload_n 1, 1),
  (57, .imul, 1),
  (58, .iload 4, 2),
  (60, .iadd, 1),
  (61, .istore 5, 2),
  (63, .bipush 40, 2),
  (65, .iload_n 2, 1),
  (66, .imul, 1),
  (67, .iload 4, 2),
  (69, .iadd, 1),
  (70, .istore 6, 2),
  (72, .aload_n 0, 1),
  (73, .getfield 13, 3),
  (76, .iload 5, 2),
  (78, .iaload, 1),
  (79, .invokestatic 148, 3),
  (82, .ifCond .eq 53, 3),
  (85, .aload_n 0, 1),
  (86, .getfield 13, 3),
  (89, .iload 5, 2),
  (91, .iaload, 1),
  (92, .aload_n 0, 1),
  (93, .getfield 13, 3),
  (96, .iload 6, 2),
  (98, .iaload, 1),
  (99, .if_icmp .ne 36, 3),
  (102, .aload_n 0, 1),
  (103, .aload_n 0, 1),
  (104, .getfield 16, 3),
  (107, .iload 5, 2),
  (109, .iaload, 1),
  (110, .invokevirtual 151, 3),
  (113, .aload_n 0, 1),
  (114, .aload_n 0, 1),
  (115, .getfield 16, 3),
  (118, .iload 6, 2),
  (120, .iaload, 1),
  (121, .invokevirtual 151, 3),
  (124, .if_icmp .ne 7, 3),
  (127, .iconst 1, 1),
  (128, .goto 15, 3),
  (131, .iconst 0, 1),
  (132, .goto 11, 3),
  (135, .aload_n 0, 1),
  (136, .iload 5, 2),
  (138, .iload 6, 2),
  (140, .invokevirtual 155, 3),
  (143, .istore_n 3, 1),
  (144, .iinc 4 1, 3),
  (147, .goto (-108), 3),
  (150, .iload_n 3, 1),
  (151, .ireturn, 1)],
  [(7, 3, [9]), (25, 8, [9]), (13, 4, [9]), (16, 5, [9])], [], [], ⟨2, 0, 0, 43⟩)
theorem okX12_isLike : am_Mok mX12_isLike := am_Mok.of [1315, 1320, 1316, 1317] [] [] (by decide +kernel)
def mX12_parts : am_M := (yX12_parts, cX12_parts, 5, (Option.some Jvm.ClassFile.FieldType.int),
  [(0, .iconst 0, 1),
  (1, .istore_n 1, 1),
  (2, .aload_n 0, 1),
  (3, .getfield 116, 3),
  (6, .ifCond .ne 7, 3),
  (9, .iconst 0, 1),
  (10, .goto 4, 3),
  (13, .iconst 1, 1),
  (14, .istore_n 2, 1),
  (15, .iconst 0, 1),
  (16, .istore_n 3, 1),
  (17, .iload_n 3, 1),
  (18, .aload_n 0, 1),
  (19, .getfield 116, 3),
  (22, .if_icmp .ge 16, 3),
  (25, .aload_n 0, 1),
  (26, .getfield 25, 3),
  (29, .iload_n 3, 1),
  (30, .iconst 0, 1),
  (31, .iastore, 1),
  (32, .iinc 3 1, 3),
  (35, .goto (-18), 3),
  (38, .iload_n 1, 1),
  (39, .iload_n 2, 1),
  (40, .if_icmp .eq 116, 3),
  (43, .iload_n 2, 1),
  (44, .istore_n 1, 1),
  (45, .iconst 0, 1),
  (46, .istore_n 2, 1),
  (47, .iconst 0, 1),
  (48, .istore_n 3, 1),
  (49, .iload_n 3, 1),
  (50, .aload_n 0, 1),
  (51, .getfield 116, 3),
  (54, .if_icmp .ge 71, 3),
  (57, .iconst 0, 1),
  (58, .istore 4, 2),
  (60, .iload 4, 2),
  (62, .iload_n 3, 1),
  (63, .if_icmp .ge 19, 3),
  (66, .aload_n 0, 1),
  (67, .iload 4, 2),
  (69, .iload_n 3, 1),
  (70, .invokevirtual 159, 3),
  (73, .ifCond .ne 9, 3),
  (76, .iinc 4 1, 3),
  (79, .goto (-19), 3),
  (82, .aload_n 0, 1),
  (83, .getfield 28, 3),
  (86, .iload_n 3, 1),
  (87, .iload 4, 2),
  (89, .iload_n 3, 1),
  (90, .if_icmp .ge 13, 3),
  (93, .aload_n 0, 1),
  (94, .getfield 28, 3),
  (97, .iload 4, 2),
  (99, .iaload, 1),
  (100, .goto 4, 3),
  (103, .iload_n 2, 1),
  (104, .iastore, 1),
  (105, .iload_n 2, 1),
  (106, .iload 4, 2),
  (108, .iload_n 3, 1),
  (109, .if_icmp .ne 7, 3),
  (112, .iconst 1, 1),
  (113, .goto 4, 3),
  (116, .iconst 0, 1),
  (117, .iadd, 1),
  (118, .istore_n 2, 1),
  (119, .iinc 3 1, 3),
  (122, .goto (-73), 3),
  (125, .iconst 0, 1),
  (126, .istore_n 3, 1),
  (127, .iload_n 3, 1),
  (128, .aload_n 0, 1),
  (129, .getfield 116, 3),
  (132, .if_icmp .ge 21, 3),
  (135, .aload_n 0, 1),
  (136, .getfield 25, 3),
  (139, .iload_n 3, 1),
  (140, .aload_n 0, 1),
  (141, .getfield 28, 3),
  (144, .iload_n 3, 1),
  (145, .iaload, 1),
  (146, .iastore, 1),
  (147, .iinc 3 1, 3),
  (150, .goto (-23), 3),
  (153, .goto (-115), 3),
  (156, .iload_n 2, 1),
  (157, .ireturn, 1)],
  [(116, 1, [9]), (25, 8, [9]), (28, 9, [9])], [], [], ⟨3, 0, 0, 69⟩)
theorem okX12_parts : am_Mok mX12_parts := am_Mok.of [1313, 1320, 1321] [] [] (by decide +kernel)
def mX12_isTaken : am_M := (yX12_isTaken, cX12_isTaken, 4, (Option.some Jvm.ClassFile.FieldType.boolean),
  [(0, .iconst 0, 1),
  (1, .istore_n 2, 1),
  (2, .iload_n 2, 1),
  (3, .aload_n 0, 1),
  (4, .getfield 116, 3),
  (7, .if_icmp .ge 60, 3),
  (10, .iconst 0, 1),
  (11, .istore_n 3, 1),
  (12, .iload_n 3, 1),
  (13, .aload_n 0, 1),
  (14, .getfield 7, 3),
  (17, .iload_n 2, 1),
  (18, .iaload, 1),
  (19, .if_icmp .ge 42, 3),
  (22, .aload_n 0, 1),
  (23, .getfield 13, 3),
  (26, .bipush 40, 2),
  (28, .iload_n 2, 1),
  (29, .imul, 1),
  (30, .iload_n 3, 1),
  (31, .iadd, 1),
  (32, .iaload, 1),
  (33, .bipush 32, 2),
  (35, .if_icmp .ne 20, 3),
  (38, .aload_n 0, 1),
  (39, .getfield 19, 3),
  (42, .bipush 40, 2),
  (44, .iload_n 2, 1),
  (45, .imul, 1),
  (46, .iload_n 3, 1),
  (47, .iadd, 1),
  (48, .iaload, 1),
  (49, .iload_n 1, 1),
  (50, .if_icmp .ne 5, 3),
  (53, .iconst 1, 1),
  (54, .ireturn, 1),
  (55, .iinc 3 1, 3),
  (58, .goto (-46), 3),
  (61, .iinc 2 1, 3),
  (64, .goto (-62), 3),
  (67, .iconst 0, 1),
  (68, .ireturn, 1)],
  [(116, 1, [9]), (7, 3, [9]), (13, 4, [9]), (19, 6, [9])], [], [], ⟨0, 0, 0, 0⟩)
theorem okX12_isTaken : am_Mok mX12_isTaken := am_Mok.of [1313, 1315, 1316, 1318] [] [] (by decide +kernel)
def mX12_leastOf : am_M := (yX12_leastOf, cX12_leastOf, 4, (Option.some Jvm.ClassFile.FieldType.int),
  [(0, .iconst 0, 1),
  (1, .istore_n 3, 1),
  (2, .iload_n 3, 1),
  (3, .aload_n 0, 1),
  (4, .getfield 116, 3),
  (7, .if_icmp .ge 38, 3),
  (10, .aload_n 0, 1),
  (11, .getfield 25, 3),
  (14, .iload_n 3, 1),
  (15, .iaload, 1),
  (16, .aload_n 0, 1),
  (17, .getfield 25, 3),
  (20, .iload_n 1, 1),
  (21, .iaload, 1),
  (22, .if_icmp .ne 17, 3),
  (25, .iload_n 2, 1),
  (26, .ifCond .eq 11, 3),
  (29, .aload_n 0, 1),
  (30, .iload_n 3, 1),
  (31, .invokevirtual 162, 3),
  (34, .ifCond .eq 5, 3),
  (37, .iload_n 3, 1),
  (38, .ireturn, 1),
  (39, .iinc 3 1, 3),
  (42, .goto (-40), 3),
  (45, .iconst (-1), 1),
  (46, .ireturn, 1)],
  [(116, 1, [9]), (25, 8, [9])], [], [], ⟨1, 0, 0, 23⟩)
theorem okX12_leastOf : am_Mok mX12_leastOf := am_Mok.of [1313, 1320] [] [] (by decide +kernel)
def mX12_about : am_M := (yX12_about, cX12_about, 3, (Option.some Jvm.ClassFile.FieldType.int),
  [(0, .iload_n 1, 1),
  (1, .iconst 0, 1),
  (2, .aload_n 0, 1),
  (3, .getfield 116, 3),
  (6, .iconst 1, 1),
  (7, .isub, 1),
  (8, .invokestatic 119, 3),
  (11, .ifCond .ne 5, 3),
  (14, .iconst (-1), 1),
  (15, .ireturn, 1),
  (16, .aload_n 0, 1),
  (17, .invokevirtual 165, 3),
  (20, .pop, 1),
  (21, .iload_n 2, 1),
  (22, .ifCond .ne 12, 3),
  (25, .aload_n 0, 1),
  (26, .getfield 7, 3),
  (29, .iload_n 1, 1),
  (30, .iaload, 1),
  (31, .goto 39, 3),
  (34, .iload_n 2, 1),
  (35, .iconst 1, 1),
  (36, .if_icmp .ne 19, 3),
  (39, .aload_n 0, 1),
  (40, .iload_n 1, 1),
  (41, .invokevirtual 162, 3),
  (44, .ifCond .eq 7, 3),
  (47, .iconst 1, 1),
  (48, .goto 22, 3),
  (51, .iconst 0, 1),
  (52, .goto 18, 3),
  (55, .iload_n 2, 1),
  (56, .iconst 2, 1),
  (57, .if_icmp .ne 12, 3),
  (60, .aload_n 0, 1),
  (61, .iload_n 1, 1),
  (62, .iconst 0, 1),
  (63, .invokevirtual 169, 3),
  (66, .goto 4, 3),
  (69, .iconst (-1), 1),
  (70, .ireturn, 1)],
  [(116, 1, [9]), (7, 3, [9])], [], [], ⟨4, 0, 0, 93⟩)
theorem okX12_about : am_Mok mX12_about := am_Mok.of [1313, 1315] [] [] (by decide +kernel)
end
section
def mX12_refusal : am_M := (yX12_refusal, cX12_refusal, 5, (Option.some Jvm.ClassFile.FieldType.int),
  [(0, .aload_n 0, 1),
  (1, .getfield 116, 3),
  (4, .ifCond .ne 5, 3),
  (7, .iconst (-1), 1),
  (8, .ireturn, 1),
  (9, .iconst 5, 1),
  (10, .newarray .boolean, 2),
  (12, .astore_n 1, 1),
  (13, .iconst 0, 1),
  (14, .istore_n 2, 1),
  (15, .iload_n 2, 1),
  (16, .aload_n 0, 1),
  (17, .getfield 116, 3),
  (20, .if_icmp .ge 239, 3),
  (23, .aload_n 0, 1),
  (24, .getfield 7, 3),
  (27, .iload_n 2, 1),
  (28, .iaload, 1),
  (29, .ifCond .ne 7, 3),
  (32, .iconst (-1), 1),
  (33, .goto 21, 3),
  (36, .aload_n 0, 1),
  (37, .getfield 13, 3),
  (40, .bipush 40, 2),
  (42, .iload_n 2, 1),
  (43, .imul, 1),
  (44, .aload_n 0, 1),
  (45, .getfield 7, 3),
  (48, .iload_n 2, 1),
  (49, .iaload, 1),
  (50, .iadd, 1),
  (51, .iconst 1, 1),
  (52, .isub, 1),
  (53, .iaload, 1),
  (54, .istore_n 3, 1),
  (55, .aload_n 1, 1),
  (56, .iconst 2, 1),
  (57, .aload_n 1, 1),
  (58, .iconst 2, 1),
  (59, .baload, 1),
  (60, .ifCond .ne 21, 3),
  (63, .iload_n 3, 1),
  (64, .bipush 28, 2),
  (66, .if_icmp .eq 19, 3),
  (69, .iload_n 3, 1),
  (70, .bipush 30, 2),
  (72, .if_icmp .eq 13, 3),
  (75, .iload_n 3, 1),
  (76, .bipush 31, 2),
  (78, .if_icmp .eq 7, 3),
  (81, .iconst 1, 1),
  (82, .goto 4, 3),
  (85, .iconst 0, 1),
  (86, .bastore, 1),
  (87, .bipush 40, 2),
  (89, .iload_n 2, 1),
  (90, .imul, 1),
  (91, .istore 4, 2),
  (93, .iload 4, 2),
  (95, .bipush 40, 2),
  (97, .iload_n 2, 1),
  (98, .imul, 1),
  (99, .aload_n 0, 1),
  (100, .getfield 7, 3),
  (103, .iload_n 2, 1),
  (104, .iaload, 1),
  (105, .iadd, 1),
  (106, .if_icmp .ge 147, 3),
  (109, .aload_n 1, 1),
  (110, .iconst 3, 1),
  (111, .aload_n 1, 1),
  (112, .iconst 3, 1),
  (113, .baload, 1),
  (114, .ifCond .ne 60, 3),
  (117, .aload_n 0, 1),
  (118, .getfield 13, 3),
  (121, .iload 4, 2),
  (123, .iaload, 1),
  (124, .invokestatic 173, 3),
  (127, .ifCond .eq 19, 3),
  (130, .aload_n 0, 1),
  (131, .getfield 22, 3),
  (134, .iload 4, 2),
  (136, .iaload, 1),
  (137, .aload_n 0, 1),
  (138, .getfield 7, 3),
  (141, .iload_n 2, 1),
  (142, .iaload, 1),
  (143, .if_icmp .ge 31, 3),
  (146, .aload_n 0, 1),
  (147, .getfield 13, 3),
  (150, .iload 4, 2),
  (152, .iaload, 1),
  (153, .bipush 28, 2),
  (155, .if_icmp .ne 23, 3),
  (158, .aload_n 0, 1),
  (159, .getfield 16, 3),
  (162, .iload 4, 2),
  (164, .iaload, 1),
  (165, .aload_n 0, 1),
  (166, .getfield 7, 3),
  (169, .iload_n 2, 1),
  (170, .iaload, 1),
  (171, .if_icmp .lt 7, 3),
  (174, .iconst 1, 1),
  (175, .goto 4, 3),
  (178, .iconst 0, 1),
  (179, .bastore, 1),
  (180, .aload_n 1, 1),
  (181, .iconst 4, 1),
  (182, .aload_n 1, 1),
  (183, .iconst 4, 1),
  (184, .baload, 1),
  (185, .ifCond .ne 56, 3),
  (188, .aload_n 0, 1),
  (189, .getfield 13, 3),
  (192, .iload 4, 2),
  (194, .iaload, 1),
  (195, .invokestatic 148, 3),
  (198, .ifCond .eq 17, 3),
  (201, .aload_n 0, 1),
  (202, .getfield 16, 3),
  (205, .iload 4, 2),
  (207, .iaload, 1),
  (208, .aload_n 0, 1),
  (209, .getfield 116, 3),
  (212, .if_icmp .ge 29, 3),
  (215, .aload_n 0, 1),
  (216, .getfield 13, 3),
  (219, .iload 4, 2),
  (221, .iaload, 1),
  (222, .bipush 32, 2),
  (224, .if_icmp .ne 21, 3),
  (227, .aload_n 0, 1),
  (228, .getfield 19, 3),
  (231, .iload 4, 2),
  (233, .iaload, 1),
  (234, .aload_n 0, 1),
  (235, .getfield 116, 3),
  (238, .if_icmp .lt 7, 3),
  (241, .iconst 1, 1),
  (242, .goto 4, 3),
  (245, .iconst 0, 1),
  (246, .bastore, 1),
  (247, .iinc 4 1, 3),
  (250, .goto (-157), 3),
  (253, .iinc 2 1, 3),
  (256, .goto (-241), 3),
  (259, .aload_n 1, 1),
  (260, .iconst 2, 1),
  (261, .baload, 1),
  (262, .ifCond .eq 8, 3),
  (265, .bipush (-2), 2),
  (267, .goto 26, 3),
  (270, .aload_n 1, 1),
  (271, .iconst 3, 1),
  (272, .baload, 1),
  (273, .ifCond .eq 8, 3),
  (276, .bipush (-3), 2),
  (278, .goto 15, 3),
  (281, .aload_n 1, 1),
  (282, .iconst 4, 1),
  (283, .baload, 1),
  (284, .ifCond .eq 8, 3),
  (287, .bipush (-4), 2),
  (289, .goto 4, 3),
  (292, .iconst 0, 1),
  (293, .ireturn, 1)],
  [(116, 1, [9]), (7, 3, [9]), (13, 4, [9]), (22, 7, [9]), (16, 5, [9]), (19, 6, [9])], [], [], ⟨2, 1, 5, 42⟩)
theorem okX12_refusal : am_Mok mX12_refusal := am_Mok.of [1313, 1315, 1316, 1319, 1317, 1318] [] [] (by decide +kernel)
def mX12_press : am_M := (yX12_press, cX12_press, 6, (Option.some Jvm.ClassFile.FieldType.int),
  [(0, .aload_n 0, 1),
  (1, .invokevirtual 176, 3),
  (4, .istore_n 3, 1),
  (5, .iload_n 3, 1),
  (6, .ifCond .ge 5, 3),
  (9, .iload_n 3, 1),
  (10, .ireturn, 1),
  (11, .aload_n 0, 1),
  (12, .iconst 1, 1),
  (13, .putfield 135, 3),
  (16, .aload_n 0, 1),
  (17, .aload_n 0, 1),
  (18, .getfield 116, 3),
  (21, .putfield 179, 3),
  (24, .aload_n 0, 1),
  (25, .invokevirtual 165, 3),
  (28, .pop, 1),
  (29, .iconst 0, 1),
  (30, .istore 4, 2),
  (32, .iload 4, 2),
  (34, .aload_n 0, 1),
  (35, .getfield 116, 3),
  (38, .if_icmp .ge 61, 3),
  (41, .aload_n 0, 1),
  (42, .iload 4, 2),
  (44, .iconst 1, 1),
  (45, .invokevirtual 169, 3),
  (48, .istore 5, 2),
  (50, .aload_n 0, 1),
  (51, .getfield 31, 3),
  (54, .iload 4, 2),
  (56, .iload_n 1, 1),
  (57, .ifCond .eq 12, 3),
  (60, .aload_n 0, 1),
  (61, .iload 4, 2),
  (63, .invokevirtual 162, 3),
  (66, .ifCond .eq 8, 3),
  (69, .iload 4, 2),
  (71, .goto 21, 3),
  (74, .iload 5, 2),
  (76, .iconst (-1), 1),
  (77, .if_icmp .eq 8, 3),
  (80, .iload 5, 2),
  (82, .goto 10, 3),
  (85, .aload_n 0, 1),
  (86, .iload 4, 2),
  (88, .iconst 0, 1),
  (89, .invokevirtual 169, 3),
  (92, .iastore, 1),
  (93, .iinc 4 1, 3),
  (96, .goto (-64), 3),
  (99, .iconst 0, 1),
  (100, .istore 4, 2),
  (102, .iload 4, 2),
  (104, .sipush 960, 3),
  (107, .if_icmp .ge 25, 3),
  (110, .aload_n 0, 1),
  (111, .getfield 61, 3),
  (114, .iload 4, 2),
  (116, .iconst (-1), 1),
  (117, .iastore, 1),
  (118, .aload_n 0, 1),
  (119, .getfield 67, 3),
  (122, .iload 4, 2),
  (124, .iconst 0, 1),
  (125, .bastore, 1),
  (126, .iinc 4 1, 3),
  (129, .goto (-27), 3),
  (132, .aload_n 0, 1),
  (133, .iconst 0, 1),
  (134, .putfield 182, 3),
  (137, .iload_n 2, 1),
  (138, .ifCond .eq 32, 3),
  (141, .aload_n 0, 1),
  (142, .getfield 182, 3),
  (145, .bipush 60, 2),
  (147, .if_icmp .ge 23, 3),
  (150, .aload_n 0, 1),
  (151, .invokevirtual 185, 3),
  (154, .ifCond .eq 16, 3),
  (157, .aload_n 0, 1),
  (158, .dup, 1),
  (159, .getfield 182, 3),
  (162, .iconst 1, 1),
  (163, .iadd, 1),
  (164, .putfield 182, 3),
  (167, .goto (-30), 3),
  (170, .aload_n 0, 1),
  (171, .invokevirtual 189, 3),
  (174, .aload_n 0, 1),
  (175, .invokevirtual 192, 3),
  (178, .aload_n 0, 1),
  (179, .getfield 195, 3),
  (182, .ireturn, 1)],
  [(135, 10, [9]), (116, 1, [9]), (179, 11, [9]), (31, 14, [9]), (61, 24, [9]), (67, 26, [9]), (182, 13, [9]), (195, 12, [9])], [], [], ⟨4, 1, 5, 98⟩)
theorem okX12_press : am_Mok mX12_press := am_Mok.of [1322, 1313, 1323, 1326, 1336, 1338, 1325, 1324] [] [] (by decide +kernel)
def mX12_isBody : am_M := (yX12_isBody, cX12_isBody, 2, (Option.some Jvm.ClassFile.FieldType.boolean),
  [(0, .aload_n 0, 1),
  (1, .getfield 31, 3),
  (4, .iload_n 1, 1),
  (5, .iaload, 1),
  (6, .iload_n 1, 1),
  (7, .if_icmp .ne 7, 3),
  (10, .iconst 1, 1),
  (11, .goto 4, 3),
  (14, .iconst 0, 1),
  (15, .ireturn, 1)],
  [(31, 14, [9])], [], [], ⟨0, 0, 0, 0⟩)
theorem okX12_isBody : am_Mok mX12_isBody := am_Mok.of [1326] [] [] (by decide +kernel)
def mX12_namesOne : am_M := (yX12_namesOne, cX12_namesOne, 6, (Option.some Jvm.ClassFile.FieldType.boolean),
  [(0, .aload_n 0, 1),
  (1, .getfield 13, 3),
  (4, .iload_n 1, 1),
  (5, .iaload, 1),
  (6, .istore_n 2, 1),
  (7, .iload_n 2, 1),
  (8, .bipush 34, 2),
  (10, .if_icmp .ne 5, 3),
  (13, .iconst 0, 1),
  (14, .ireturn, 1),
  (15, .aload_n 0, 1),
  (16, .getfield 16, 3),
  (19, .iload_n 1, 1),
  (20, .iaload, 1),
  (21, .iconst 1, 1),
  (22, .if_icmp .ne 7, 3),
  (25, .iconst 1, 1),
  (26, .goto 4, 3),
  (29, .iconst 0, 1),
  (30, .istore_n 3, 1),
  (31, .iload_n 2, 1),
  (32, .bipush 19, 2),
  (34, .if_icmp .eq 17, 3),
  (37, .aload_n 0, 1),
  (38, .getfield 19, 3),
  (41, .iload_n 1, 1),
  (42, .iaload, 1),
  (43, .iconst 1, 1),
  (44, .if_icmp .ne 7, 3),
  (47, .iconst 1, 1),
  (48, .goto 4, 3),
  (51, .iconst 0, 1),
  (52, .istore 4, 2),
  (54, .iload_n 2, 1),
  (55, .bipush 9, 2),
  (57, .if_icmp .gt 17, 3),
  (60, .aload_n 0, 1),
  (61, .getfield 22, 3),
  (64, .iload_n 1, 1),
  (65, .iaload, 1),
  (66, .iconst 1, 1),
  (67, .if_icmp .ne 7, 3),
  (70, .iconst 1, 1),
  (71, .goto 4, 3),
  (74, .iconst 0, 1),
  (75, .istore 5, 2),
  (77, .iload_n 3, 1),
  (78, .ifCond .ne 13, 3),
  (81, .iload 4, 2),
  (83, .ifCond .ne 8, 3),
  (86, .iload 5, 2),
  (88, .ifCond .eq 7, 3),
  (91, .iconst 1, 1),
  (92, .goto 4, 3),
  (95, .iconst 0, 1),
  (96, .ireturn, 1)],
  [(13, 4, [9]), (16, 5, [9]), (19, 6, [9]), (22, 7, [9])], [], [], ⟨0, 0, 0, 0⟩)
theorem okX12_namesOne : am_Mok mX12_namesOne := am_Mok.of [1316, 1317, 1318, 1319] [] [] (by decide +kernel)
def mX12_isTarget : am_M := (yX12_isTarget, cX12_isTarget, 4, (Option.some Jvm.ClassFile.FieldType.boolean),
  [(0, .bipush 40, 2),
  (2, .iload_n 1, 1),
  (3, .imul, 1),
  (4, .istore_n 3, 1),
  (5, .iload_n 3, 1),
  (6, .bipush 40, 2),
  (8, .iload_n 1, 1),
  (9, .imul, 1),
  (10, .aload_n 0, 1),
  (11, .getfield 7, 3),
  (14, .iload_n 1, 1),
  (15, .iaload, 1),
  (16, .iadd, 1),
  (17, .if_icmp .ge 54, 3),
  (20, .aload_n 0, 1),
  (21, .getfield 13, 3),
  (24, .iload_n 3, 1),
  (25, .iaload, 1),
  (26, .invokestatic 173, 3),
  (29, .ifCond .eq 13, 3),
  (32, .aload_n 0, 1),
  (33, .getfield 22, 3),
  (36, .iload_n 3, 1),
  (37, .iaload, 1),
  (38, .iload_n 2, 1),
  (39, .if_icmp .eq 24, 3),
  (42, .aload_n 0, 1),
  (43, .getfield 13, 3),
  (46, .iload_n 3, 1),
  (47, .iaload, 1),
  (48, .bipush 28, 2),
  (50, .if_icmp .ne 15, 3),
  (53, .aload_n 0, 1),
  (54, .getfield 16, 3),
  (57, .iload_n 3, 1),
  (58, .iaload, 1),
  (59, .iload_n 2, 1),
  (60, .if_icmp .ne 5, 3),
  (63, .iconst 1, 1),
  (64, .ireturn, 1),
  (65, .iinc 3 1, 3),
  (68, .goto (-63), 3),
  (71, .iconst 0, 1),
  (72, .ireturn, 1)],
  [(7, 3, [9]), (13, 4, [9]), (22, 7, [9]), (16, 5, [9])], [], [], ⟨2, 0, 0, 42⟩)
theorem okX12_isTarget : am_Mok mX12_isTarget := am_Mok.of [1315, 1316, 1319, 1317] [] [] (by decide +kernel)
def mX12_isFit : am_M := (yX12_isFit, cX12_isFit, 6, (Option.some Jvm.ClassFile.FieldType.boolean),
  [(0, .iload_n 2, 1),
  (1, .iload_n 3, 1),
  (2, .iadd, 1),
  (3, .aload_n 0, 1),
  (4, .getfield 7, 3),
  (7, .iload_n 1, 1),
  (8, .iaload, 1),
  (9, .if_icmp .le 5, 3),
  (12, .iconst 0, 1),
  (13, .ireturn, 1),
  (14, .iconst 1, 1),
  (15, .istore 4, 2),
  (17, .iconst 0, 1),
  (18, .istore 5, 2),
  (20, .iload 5, 2),
  (22, .iload_n 3, 1),
  (23, .if_icmp .ge 60, 3),
  (26, .iload 4, 2),
  (28, .ifCond .eq 55, 3),
  (31, .aload_n 0, 1),
  (32, .getfield 71, 3),
  (35, .bipush 40, 2),
  (37, .iload_n 1, 1),
  (38, .imul, 1),
  (39, .iload_n 2, 1),
  (40, .iadd, 1),
  (41, .iload 5, 2),
  (43, .iadd, 1),
  (44, .baload, 1),
  (45, .ifCond .eq 29, 3),
  (48, .iload 5, 2),
  (50, .ifCond .eq 20, 3),
  (53, .aload_n 0, 1),
  (54, .getfield 74, 3),
  (57, .bipush 40, 2),
  (59, .iload_n 1, 1),
  (60, .imul, 1),
  (61, .iload_n 2, 1),
  (62, .iadd, 1),
  (63, .iload 5, 2),
  (65, .iadd, 1),
  (66, .baload, 1),
  (67, .ifCond .ne 7, 3),
  (70, .iconst 1, 1),
  (71, .goto 4, 3),
  (74, .iconst 0, 1),
  (75, .istore 4, 2),
  (77, .iinc 5 1, 3),
  (80, .goto (-60), 3),
  (83, .iload 4, 2),
  (85, .ireturn, 1)],
  [(7, 3, [9]), (71, 27, [9]), (74, 28, [9])], [], [], ⟨0, 0, 0, 0⟩)
theorem okX12_isFit : am_Mok mX12_isFit := am_Mok.of [1315, 1339, 1340] [] [] (by decide +kernel)
def mX12_occurrences : am_M := (yX12_occurrences, cX12_occurrences, 8, (Option.some Jvm.ClassFile.FieldType.int),
  [(0, .iconst 0, 1),
  (1, .istore_n 3, 1),
  (2, .iconst 0, 1),
  (3, .istore 4, 2),
  (5, .iload 4, 2),
  (7, .aload_n 0, 1),
  (8, .getfield 116, 3),
  (11, .if_icmp .ge 151, 3),
  (14, .iconst 0, 1),
  (15, .istore 5, 2),
  (17, .aload_n 0, 1),
  (18, .iload 4, 2),
  (20, .invokevirtual 198, 3),
  (23, .ifCond .eq 133, 3),
  (26, .iload 5, 2),
  (28, .iload_n 2, 1),
  (29, .iadd, 1),
  (30, .aload_n 0, 1),
  (31, .getfield 7, 3),
  (34, .iload 4, 2),
  (36, .iaload, 1),
  (37, .if_icmp .gt 119, 3),
  (40, .aload_n 0, 1),
  (41, .iload_n 1, 1),
  (42, .bipush 40, 2),
  (44, .iload 4, 2),
  (46, .imul, 1),
  (47, .iload 5, 2),
  (49, .iadd, 1),
  (50, .invokevirtual 155, 3),
  (53, .ifCond .eq 19, 3),
  (56, .aload_n 0, 1),
  (57, .iload 4, 2),
  (59, .iload 5, 2),
  (61, .iload_n 2, 1),
  (62, .invokevirtual 201, 3),
  (65, .ifCond .eq 7, 3),
  (68, .iconst 1, 1),
  (69, .goto 4, 3),
  (72, .iconst 0, 1),
  (73, .istore 6, 2),
  (75, .iconst 1, 1),
  (76, .istore 7, 2),
  (78, .iload 7, 2),
  (80, .iload_n 2, 1),
  (81, .if_icmp .ge 35, 3),
  (84, .iload 6, 2),
  (86, .ifCond .eq 30, 3),
  (89, .aload_n 0, 1),
  (90, .iload_n 1, 1),
  (91, .iload 7, 2),
  (93, .iadd, 1),
  (94, .bipush 40, 2),
  (96, .iload 4, 2),
  (98, .imul, 1),
  (99, .iload 5, 2),
  (101, .iadd, 1),
  (102, .iload 7, 2),
  (104, .iadd, 1),
  (105, .invokevirtual 155, 3),
  (108, .istore 6, 2),
  (110, .iinc 7 1, 3),
  (113, .goto (-35), 3),
  (116, .iload 6, 2),
  (118, .ifCond .eq 20, 3),
  (121, .aload_n 0, 1),
  (122, .getfield 77, 3),
  (125, .iload_n 3, 1),
  (126, .bipush 40, 2),
  (128, .iload 4, 2),
  (130, .imul, 1),
  (131, .iload 5, 2),
  (133, .iadd, 1),
  (134, .iastore, 1),
  (135, .iinc 3 1, 3),
  (138, .iload 5, 2),
  (140, .iload 6, 2),
  (142, .ifCond .eq 7, 3),
  (145, .iload_n 2, 1),
  (146, .goto 4, 3),
  (149, .iconst 1, 1),
  (150, .iadd, 1),
  (151, .istore 5, 2),
  (153, .goto (-136), 3),
  (156, .iinc 4 1, 3),
  (159, .goto (-154), 3),
  (162, .iload_n 3, 1),
  (163, .ireturn, 1)],
  [(116, 1, [9]), (7, 3, [9]), (77, 29, [9])], [], [], ⟨2, 0, 0, 43⟩)
theorem okX12_occurrences : am_Mok mX12_occurrences := am_Mok.of [1313, 1315, 1341] [] [] (by decide +kernel)
def mX12_findRoutine : am_M := (yX12_findRoutine, cX12_findRoutine, 9, (Option.some Jvm.ClassFile.FieldType.boolean),
  [(0, .iconst 0, 1),
  (1, .istore_n 1, 1),
  (2, .iload_n 1, 1),
  (3, .aload_n 0, 1),
  (4, .getfield 116, 3),
  (7, .if_icmp .ge 105, 3),
  (10, .iconst 0, 1),
  (11, .istore_n 2, 1),
  (12, .iload_n 2, 1),
  (13, .aload_n 0, 1),
  (14, .getfield 7, 3),
  (17, .iload_n 1, 1),
  (18, .iaload, 1),
  (19, .if_icmp .ge 87, 3),
  (22, .bipush 40, 2),
  (24, .iload_n 1, 1),
  (25, .imul, 1),
  (26, .iload_n 2, 1),
  (27, .iadd, 1),
  (28, .istore_n 3, 1),
  (29, .aload_n 0, 1),
  (30, .getfield 71, 3),
  (33, .iload_n 3, 1),
  (34, .aload_n 0, 1),
  (35, .iload_n 1, 1),
  (36, .invokevirtual 198, 3),
  (39, .ifCond .eq 47, 3),
  (42, .aload_n 0, 1),
  (43, .getfield 13, 3),
  (46, .iload_n 3, 1),
  (47, .iaload, 1),
  (48, .bipush 21, 2),
  (50, .if_icmp .le 14, 3),
  (53, .aload_n 0, 1),
  (54, .getfield 13, 3),
  (57, .iload_n 3, 1),
  (58, .iaload, 1),
  (59, .bipush 34, 2),
  (61, .if_icmp .ne 25, 3),
  (64, .aload_n 0, 1),
  (65, .iload_n 3, 1),
  (66, .invokevirtual 204, 3),
  (69, .ifCond .ne 17, 3),
  (72, .aload_n 0, 1),
  (73, .getfield 61, 3),
  (76, .iload_n 3, 1),
  (77, .iaload, 1),
  (78, .iconst (-1), 1),
  (79, .if_icmp .ne 7, 3),
  (82, .iconst 1, 1),
  (83, .goto 4, 3),
  (86, .iconst 0, 1),
  (87, .bastore, 1),
  (88, .aload_n 0, 1),
  (89, .getfield 74, 3),
  (92, .iload_n 3, 1),
  (93, .aload_n 0, 1),
  (94, .iload_n 1, 1),
  (95, .iload_n 2, 1),
  (96, .invokevirtual 207, 3),
  (99, .bastore, 1),
  (100, .iinc 2 1, 3),
  (103, .goto (-91), 3),
  (106, .iinc 1 1, 3),
  (109, .goto (-107), 3),
  (112, .iconst 0, 1),
  (113, .istore_n 1, 1),
  (114, .iconst (-1), 1),
  (115, .istore_n 2, 1),
  (116, .iconst 0, 1),
  (117, .istore_n 3, 1),
  (118, .iconst 0, 1),
  (119, .istore 4, 2),
  (121, .iload 4, 2),
  (123, .aload_n 0, 1),
  (124, .getfield 116, 3),
  (127, .if_icmp .ge 138, 3),
  (130, .iconst 0, 1),
  (131, .istore 5, 2),
  (133, .iload 5, 2),
  (135, .aload_n 0, 1),
  (136, .getfield 7, 3),
  (139, .iload 4, 2),
  (141, .iaload, 1),
  (142, .if_icmp .ge 117, 3),
  (145, .iconst 2, 1),
  (146, .istore 6, 2),
  (148, .iconst 2, 1),
  (149, .istore 7, 2),
  (151, .iload 7, 2),
  (153, .bipush 20, 2),
  (155, .if_icmp .gt 98, 3),
  (158, .iload 6, 2),
  (160, .iconst 1, 1),
  (161, .if_icmp .le 92, 3),
  (164, .aload_n 0, 1),
  (165, .iload 4, 2),
  (167, .iload 5, 2),
  (169, .iload 7, 2),
  (171, .invokevirtual 201, 3),
  (174, .ifCond .eq 79, 3),
  (177, .aload_n 0, 1),
  (178, .bipush 40, 2),
  (180, .iload 4, 2),
  (182, .imul, 1),
  (183, .iload 5, 2),
  (185, .iadd, 1),
  (186, .iload 7, 2),
  (188, .invokevirtual 210, 3),
  (191, .istore 6, 2),
  (193, .iconst 4, 1),
  (194, .iload 6, 2),
  (196, .iconst 1, 1),
  (197, .isub, 1),
  (198, .iload 7, 2),
  (200, .imul, 1),
  (201, .iconst 1, 1),
  (202, .isub, 1),
  (203, .iload 6, 2),
  (205, .isub, 1),
  (206, .imul, 1),
  (207, .istore 8, 2),
  (209, .iload 8, 2),
  (211, .iload_n 1, 1),
  (212, .if_icmp .gt 20, 3),
  (215, .iload 8, 2),
  (217, .iload_n 1, 1),
  (218, .if_icmp .ne 29, 3),
  (221, .iload 8, 2),
  (223, .ifCond .le 24, 3),
  (226, .iload 7, 2),
  (228, .iload_n 3, 1),
  (229, .if_icmp .le 18, 3),
  (232, .iload 8, 2),
  (234, .istore_n 1, 1),
  (235, .bipush 40, 2),
  (237, .iload 4, 2),
  (239, .imul, 1),
  (240, .iload 5, 2),
  (242, .iadd, 1),
  (243, .istore_n 2, 1),
  (244, .iload 7, 2),
  (246, .istore_n 3, 1),
  (247, .iinc 7 1, 3),
  (250, .goto (-99), 3),
  (253, .iinc 5 1, 3),
  (256, .goto (-123), 3),
  (259, .iinc 4 1, 3),
  (262, .goto (-141), 3),
  (265, .iload_n 2, 1),
  (266, .iconst (-1), 1),
  (267, .if_icmp .ne 5, 3),
  (270, .iconst 0, 1),
  (271, .ireturn, 1),
  (272, .aload_n 0, 1),
  (273, .iload_n 2, 1),
  (274, .iload_n 3, 1),
  (275, .invokevirtual 210, 3),
  (278, .istore 4, 2),
  (280, .aload_n 0, 1),
  (281, .getfield 40, 3),
  (284, .aload_n 0, 1),
  (285, .getfield 182, 3),
  (288, .iload_n 3, 1),
  (289, .iastore, 1),
  (290, .aload_n 0, 1),
  (291, .getfield 43, 3),
  (294, .aload_n 0, 1),
  (295, .getfield 182, 3),
  (298, .iload 4, 2),
  (300, .iastore, 1),
  (301, .aload_n 0, 1),
  (302, .getfield 46, 3),
  (305, .aload_n 0, 1),
  (306, .getfield 182, 3),
  (309, .iload_n 1, 1),
  (310, .iastore, 1),
  (311, .aload_n 0, 1),
  (312, .getfield 52, 3),
  (315, .aload_n 0, 1),
  (316, .getfield 182, 3),
  (319, .iload_n 2, 1),
  (320, .iastore, 1),
  (321, .iconst 0, 1),
  (322, .istore 5, 2),
  (324, .iload 5, 2),
  (326, .iload 4, 2),
  (328, .if_icmp .ge 79, 3),
  (331, .aload_n 0, 1),
  (332, .getfield 55, 3),
  (335, .sipush 150, 3),
  (338, .aload_n 0, 1),
  (339, .getfield 182, 3),
  (342, .imul, 1),
  (343, .iload 5, 2),
  (345, .iadd, 1),
  (346, .aload_n 0, 1),
  (347, .getfield 77, 3),
  (350, .iload 5, 2),
  (352, .iaload, 1),
  (353, .iastore, 1),
  (354, .aload_n 0, 1),
  (355, .getfield 67, 3),
  (358, .aload_n 0, 1),
  (359, .getfield 77, 3),
  (362, .iload 5, 2),
  (364, .iaload, 1),
  (365, .iconst 1, 1),
  (366, .bastore, 1),
  (367, .iconst 0, 1),
  (368, .istore 6, 2),
  (370, .iload 6, 2),
  (372, .iload_n 3, 1),
  (373, .if_icmp .ge 28, 3),
  (376, .aload_n 0, 1),
  (377, .getfield 61, 3),
  (380, .aload_n 0, 1),
  (381, .getfield 77, 3),
  (384, .iload 5, 2),
  (386, .iaload, 1),
  (387, .iload 6, 2),
  (389, .iadd, 1),
  (390, .aload_n 0, 1),
  (391, .getfield 182, 3),
  (394, .iastore, 1),
  (395, .iinc 6 1, 3),
  (398, .goto (-28), 3),
  (401, .iinc 5 1, 3),
  (404, .goto (-80), 3),
  (407, .iconst 1, 1),
  (408, .ireturn, 1)],
  [(116, 1, [9]), (7, 3, [9]), (71, 27, [9]), (13, 4, [9]), (61, 24, [9]), (74, 28, [9]), (40, 17, [9]), (182, 13, [9]), (43, 18, [9]), (46, 19, [9]), (52, 21, [9]), (55, 22, [9]), (77, 29, [9]), (67, 26, [9])], [], [], ⟨3, 0, 0, 70⟩)
theorem okX12_findRoutine : am_Mok mX12_findRoutine := am_Mok.of [1313, 1315, 1339, 1316, 1336, 1340, 1329, 1325, 1330, 1331, 1333, 1334, 1341, 1338] [] [] (by decide +kernel)
def mX12_wordsOf : am_M := (yX12_wordsOf, cX12_wordsOf, 2, (Option.some Jvm.ClassFile.FieldType.int),
  [(0, .aload_n 0, 1),
  (1, .getfield 61, 3),
  (4, .iload_n 1, 1),
  (5, .iaload, 1),
  (6, .iconst (-1), 1),
  (7, .if_icmp .eq 20, 3),
  (10, .aload_n 0, 1),
  (11, .getfield 67, 3),
  (14, .iload_n 1, 1),
  (15, .baload, 1),
  (16, .ifCond .eq 7, 3),
  (19, .iconst 1, 1),
  (20, .goto 23, 3),
  (23, .iconst 0, 1),
  (24, .goto 19, 3),
  (27, .aload_n 0, 1),
  (28, .getfield 13, 3),
  (31, .iload_n 1, 1),
  (32, .iaload, 1),
  (33, .bipush 32, 2),
  (35, .if_icmp .ne 7, 3),
  (38, .iconst 2, 1),
  (39, .goto 4, 3),
  (42, .iconst 1, 1),
  (43, .ireturn, 1)],
  [(61, 24, [9]), (67, 26, [9]), (13, 4, [9])], [], [], ⟨0, 0, 0, 0⟩)
theorem okX12_wordsOf : am_Mok mX12_wordsOf := am_Mok.of [1336, 1338, 1316] [] [] (by decide +kernel)
def mX12_layOut : am_M := (yX12_layOut, cX12_layOut, 4, (Option.none : Option Jvm.ClassFile.FieldType),
  [(0, .sipush 4096, 3),
  (3, .istore_n 1, 1),
  (4, .iconst 0, 1),
  (5, .istore_n 2, 1),
  (6, .iload_n 2, 1),
  (7, .aload_n 0, 1),
  (8, .getfield 116, 3),
  (11, .if_icmp .ge 70, 3),
  (14, .aload_n 0, 1),
  (15, .iload_n 2, 1),
  (16, .invokevirtual 198, 3),
  (19, .ifCond .ne 6, 3),
  (22, .goto 53, 3),
  (25, .aload_n 0, 1),
  (26, .getfield 34, 3),
  (29, .iload_n 2, 1),
  (30, .iload_n 1, 1),
  (31, .iastore, 1),
  (32, .bipush 40, 2),
  (34, .iload_n 2, 1),
  (35, .imul, 1),
  (36, .istore_n 3, 1),
  (37, .iload_n 3, 1),
  (38, .bipush 40, 2),
  (40, .iload_n 2, 1),
  (41, .imul, 1),
  (42, .aload_n 0, 1),
  (43, .getfield 7, 3),
  (46, .iload_n 2, 1),
  (47, .iaload, 1),
  (48, .iadd, 1),
  (49, .if_icmp .ge 26, 3),
  (52, .aload_n 0, 1),
  (53, .getfield 64, 3),
  (56, .iload_n 3, 1),
  (57, .iload_n 1, 1),
  (58, .iastore, 1),
  (59, .iload_n 1, 1),
  (60, .iconst 4, 1),
  (61, .aload_n 0, 1),
  (62, .iload_n 3, 1),
  (63, .invokevirtual 214, 3),
  (66, .imul, 1),
  (67, .iadd, 1),
  (68, .istore_n 1, 1),
  (69, .iinc 3 1, 3),
  (72, .goto (-35), 3),
  (75, .iinc 2 1, 3),
  (78, .goto (-72), 3),
  (81, .iconst 0, 1),
  (82, .istore_n 2, 1),
  (83, .iload_n 2, 1),
  (84, .aload_n 0, 1),
  (85, .getfield 182, 3),
  (88, .if_icmp .ge 76, 3),
  (91, .aload_n 0, 1),
  (92, .getfield 49, 3),
  (95, .iload_n 2, 1),
  (96, .iload_n 1, 1),
  (97, .iastore, 1),
  (98, .iload_n 1, 1),
  (99, .iconst 4, 1),
  (100, .aload_n 0, 1),
  (101, .getfield 40, 3),
  (104, .iload_n 2, 1),
  (105, .iaload, 1),
  (106, .iconst 1, 1),
  (107, .iadd, 1),
  (108, .imul, 1),
  (109, .iadd, 1),
  (110, .istore_n 1, 1),
  (111, .iconst 0, 1),
  (112, .istore_n 3, 1),
  (113, .iload_n 3, 1),
  (114, .aload_n 0, 1),
  (115, .getfield 43, 3),
  (118, .iload_n 2, 1),
  (119, .iaload, 1),
  (120, .if_icmp .ge 38, 3),
  (123, .aload_n 0, 1),
  (124, .getfield 58, 3),
  (127, .sipush 150, 3),
  (130, .iload_n 2, 1),
  (131, .imul, 1),
  (132, .iload_n 3, 1),
  (133, .iadd, 1),
  (134, .aload_n 0, 1),
  (135, .getfield 64, 3),
  (138, .aload_n 0, 1),
  (139, .getfield 55, 3),
  (142, .sipush 150, 3),
  (145, .iload_n 2, 1),
  (146, .imul, 1),
  (147, .iload_n 3, 1),
  (148, .iadd, 1),
  (149, .iaload, 1),
  (150, .iaload, 1),
  (151, .iastore, 1),
  (152, .iinc 3 1, 3),
  (155, .goto (-42), 3),
  (158, .iinc 2 1, 3),
  (161, .goto (-78), 3),
  (164, .aload_n 0, 1),
  (165, .iload_n 1, 1),
  (166, .sipush 4096, 3),
  (169, .isub, 1),
  (170, .iconst 4, 1),
  (171, .idiv, 1),
  (172, .putfield 195, 3),
  (175, .iconst 0, 1),
  (176, .istore_n 2, 1),
  (177, .iload_n 2, 1),
  (178, .aload_n 0, 1),
  (179, .getfield 116, 3),
  (182, .if_icmp .ge 26, 3),
  (185, .aload_n 0, 1),
  (186, .getfield 34, 3),
  (189, .iload_n 2, 1),
  (190, .aload_n 0, 1),
  (191, .getfield 34, 3),
  (194, .aload_n 0, 1),
  (195, .getfield 31, 3),
  (198, .iload_n 2, 1),
  (199, .iaload, 1),
  (200, .iaload, 1),
  (201, .iastore, 1),
  (202, .iinc 2 1, 3),
  (205, .goto (-28), 3),
  (208, .return_, 1)],
  [(116, 1, [9]), (34, 15, [9]), (7, 3, [9]), (64, 25, [9]), (182, 13, [9]), (49, 20, [9]), (40, 17, [9]), (43, 18, [9]), (58, 23, [9]), (55, 22, [9]), (195, 12, [9]), (31, 14, [9])], [], [], ⟨1, 0, 0, 21⟩)
theorem okX12_layOut : am_Mok mX12_layOut := am_Mok.of [1313, 1327, 1315, 1337, 1325, 1332, 1329, 1330, 1335, 1334, 1324, 1326] [] [] (by decide +kernel)
end
section
def mX12_write : am_M := (yX12_write, cX12_write, 5, (Option.none : Option Jvm.ClassFile.FieldType),
  [(0, .sipush 4096, 3),
  (3, .istore_n 1, 1),
  (4, .iconst 0, 1),
  (5, .istore_n 2, 1),
  (6, .iload_n 2, 1),
  (7, .aload_n 0, 1),
  (8, .getfield 116, 3),
  (11, .if_icmp .ge 191, 3),
  (14, .bipush 40, 2),
  (16, .iload_n 2, 1),
  (17, .imul, 1),
  (18, .istore_n 3, 1),
  (19, .aload_n 0, 1),
  (20, .iload_n 2, 1),
  (21, .invokevirtual 198, 3),
  (24, .ifCond .eq 172, 3),
  (27, .iload_n 3, 1),
  (28, .bipush 40, 2),
  (30, .iload_n 2, 1),
  (31, .imul, 1),
  (32, .aload_n 0, 1),
  (33, .getfield 7, 3),
  (36, .iload_n 2, 1),
  (37, .iaload, 1),
  (38, .iadd, 1),
  (39, .if_icmp .ge 157, 3),
  (42, .aload_n 0, 1),
  (43, .getfield 61, 3),
  (46, .iload_n 3, 1),
  (47, .iaload, 1),
  (48, .iconst (-1), 1),
  (49, .if_icmp .eq 38, 3),
  (52, .aload_n 0, 1),
  (53, .getfield 67, 3),
  (56, .iload_n 3, 1),
  (57, .baload, 1),
  (58, .ifCond .eq 132, 3),
  (61, .aload_n 0, 1),
  (62, .iload_n 1, 1),
  (63, .iconst 5, 1),
  (64, .aload_n 0, 1),
  (65, .getfield 49, 3),
  (68, .aload_n 0, 1),
  (69, .getfield 61, 3),
  (72, .iload_n 3, 1),
  (73, .iaload, 1),
  (74, .iaload, 1),
  (75, .iload_n 1, 1),
  (76, .isub, 1),
  (77, .invokestatic 217, 3),
  (80, .invokevirtual 220, 3),
  (83, .istore_n 1, 1),
  (84, .goto 106, 3),
  (87, .aload_n 0, 1),
  (88, .getfield 13, 3),
  (91, .iload_n 3, 1),
  (92, .iaload, 1),
  (93, .bipush 32, 2),
  (95, .if_icmp .ne 82, 3),
  (98, .aload_n 0, 1),
  (99, .getfield 34, 3),
  (102, .aload_n 0, 1),
  (103, .getfield 19, 3),
  (106, .iload_n 3, 1),
  (107, .iaload, 1),
  (108, .iaload, 1),
  (109, .istore 4, 2),
  (111, .aload_n 0, 1),
  (112, .iload_n 1, 1),
  (113, .iload 4, 2),
  (115, .sipush 2048, 3),
  (118, .iadd, 1),
  (119, .sipush (-4096), 3),
  (122, .iand, 1),
  (123, .aload_n 0, 1),
  (124, .getfield 16, 3),
  (127, .iload_n 3, 1),
  (128, .iaload, 1),
  (129, .bipush 7, 2),
  (131, .ishl, 1),
  (132, .ior, 1),
  (133, .bipush 55, 2),
  (135, .ior, 1),
  (136, .invokevirtual 220, 3),
  (139, .istore_n 1, 1),
  (140, .aload_n 0, 1),
  (141, .iload_n 1, 1),
  (142, .iload 4, 2),
  (144, .bipush 20, 2),
  (146, .ishl, 1),
  (147, .aload_n 0, 1),
  (148, .getfield 16, 3),
  (151, .iload_n 3, 1),
  (152, .iaload, 1),
  (153, .bipush 15, 2),
  (155, .ishl, 1),
  (156, .ior, 1),
  (157, .aload_n 0, 1),
  (158, .getfield 16, 3),
  (161, .iload_n 3, 1),
  (162, .iaload, 1),
  (163, .bipush 7, 2),
  (165, .ishl, 1),
  (166, .ior, 1),
  (167, .bipush 19, 2),
  (169, .ior, 1),
  (170, .invokevirtual 220, 3),
  (173, .istore_n 1, 1),
  (174, .goto 16, 3),
  (177, .aload_n 0, 1),
  (178, .iload_n 1, 1),
  (179, .aload_n 0, 1),
  (180, .iload_n 2, 1),
  (181, .iload_n 3, 1),
  (182, .iload_n 1, 1),
  (183, .invokevirtual 223, 3),
  (186, .invokevirtual 220, 3),
  (189, .istore_n 1, 1),
  (190, .iinc 3 1, 3),
  (193, .goto (-174), 3),
  (196, .iinc 2 1, 3),
  (199, .goto (-193), 3),
  (202, .iconst 0, 1),
  (203, .istore_n 2, 1),
  (204, .iload_n 2, 1),
  (205, .aload_n 0, 1),
  (206, .getfield 182, 3),
  (209, .if_icmp .ge 55, 3),
  (212, .iconst 0, 1),
  (213, .istore_n 3, 1),
  (214, .iload_n 3, 1),
  (215, .aload_n 0, 1),
  (216, .getfield 40, 3),
  (219, .iload_n 2, 1),
  (220, .iaload, 1),
  (221, .if_icmp .ge 29, 3),
  (224, .aload_n 0, 1),
  (225, .iload_n 1, 1),
  (226, .aload_n 0, 1),
  (227, .iconst 0, 1),
  (228, .aload_n 0, 1),
  (229, .getfield 52, 3),
  (232, .iload_n 2, 1),
  (233, .iaload, 1),
  (234, .iload_n 3, 1),
  (235, .iadd, 1),
  (236, .iload_n 1, 1),
  (237, .invokevirtual 223, 3),
  (240, .invokevirtual 220, 3),
  (243, .istore_n 1, 1),
  (244, .iinc 3 1, 3),
  (247, .goto (-33), 3),
  (250, .aload_n 0, 1),
  (251, .iload_n 1, 1),
  (252, .ldc 227, 2),
  (254, .invokevirtual 220, 3),
  (257, .istore_n 1, 1),
  (258, .iinc 2 1, 3),
  (261, .goto (-57), 3),
  (264, .return_, 1)],
  [(116, 1, [9]), (7, 3, [9]), (61, 24, [9]), (67, 26, [9]), (49, 20, [9]), (13, 4, [9]), (34, 15, [9]), (19, 6, [9]), (16, 5, [9]), (182, 13, [9]), (40, 17, [9]), (52, 21, [9])], [(227, 163943)], [], ⟨2, 0, 0, 50⟩)
theorem okX12_write : am_Mok mX12_write := am_Mok.of [1313, 1315, 1336, 1338, 1332, 1316, 1327, 1318, 1317, 1325, 1329, 1333] [1565] [] (by decide +kernel)
def mX12_say : am_M := (yX12_say, cX12_say, 3, (Option.some Jvm.ClassFile.FieldType.int),
  [(0, .aload_n 0, 1),
  (1, .getfield 37, 3),
  (4, .iload_n 1, 1),
  (5, .sipush 4096, 3),
  (8, .isub, 1),
  (9, .iconst 4, 1),
  (10, .idiv, 1),
  (11, .iload_n 2, 1),
  (12, .iastore, 1),
  (13, .iload_n 1, 1),
  (14, .iconst 4, 1),
  (15, .iadd, 1),
  (16, .ireturn, 1)],
  [(37, 16, [9])], [], [], ⟨0, 0, 0, 0⟩)
theorem okX12_say : am_Mok mX12_say := am_Mok.of [1328] [] [] (by decide +kernel)
def mX12_jal : am_M := (yX12_jal, cX12_jal, 2, (Option.some Jvm.ClassFile.FieldType.int),
  [(0, .iload_n 1, 1),
  (1, .bipush 20, 2),
  (3, .ishr, 1),
  (4, .iconst 1, 1),
  (5, .iand, 1),
  (6, .bipush 31, 2),
  (8, .ishl, 1),
  (9, .iload_n 1, 1),
  (10, .iconst 1, 1),
  (11, .ishr, 1),
  (12, .sipush 1023, 3),
  (15, .iand, 1),
  (16, .bipush 21, 2),
  (18, .ishl, 1),
  (19, .ior, 1),
  (20, .iload_n 1, 1),
  (21, .bipush 11, 2),
  (23, .ishr, 1),
  (24, .iconst 1, 1),
  (25, .iand, 1),
  (26, .bipush 20, 2),
  (28, .ishl, 1),
  (29, .ior, 1),
  (30, .iload_n 1, 1),
  (31, .ldc 228, 2),
  (33, .iand, 1),
  (34, .ior, 1),
  (35, .iload_n 0, 1),
  (36, .bipush 7, 2),
  (38, .ishl, 1),
  (39, .ior, 1),
  (40, .bipush 111, 2),
  (42, .ior, 1),
  (43, .ireturn, 1)],
  [], [(228, 1044480)], [], ⟨0, 0, 0, 0⟩)
theorem okX12_jal : am_Mok mX12_jal := am_Mok.of [] [1548] [] (by decide +kernel)
def mX12_branch : am_M := (yX12_branch, cX12_branch, 4, (Option.some Jvm.ClassFile.FieldType.int),
  [(0, .iload_n 3, 1),
  (1, .bipush 12, 2),
  (3, .ishr, 1),
  (4, .iconst 1, 1),
  (5, .iand, 1),
  (6, .bipush 31, 2),
  (8, .ishl, 1),
  (9, .iload_n 3, 1),
  (10, .iconst 5, 1),
  (11, .ishr, 1),
  (12, .bipush 63, 2),
  (14, .iand, 1),
  (15, .bipush 25, 2),
  (17, .ishl, 1),
  (18, .ior, 1),
  (19, .iload_n 2, 1),
  (20, .bipush 20, 2),
  (22, .ishl, 1),
  (23, .ior, 1),
  (24, .iload_n 1, 1),
  (25, .bipush 15, 2),
  (27, .ishl, 1),
  (28, .ior, 1),
  (29, .iload_n 0, 1),
  (30, .bipush 12, 2),
  (32, .ishl, 1),
  (33, .ior, 1),
  (34, .iload_n 3, 1),
  (35, .iconst 1, 1),
  (36, .ishr, 1),
  (37, .bipush 15, 2),
  (39, .iand, 1),
  (40, .bipush 8, 2),
  (42, .ishl, 1),
  (43, .ior, 1),
  (44, .iload_n 3, 1),
  (45, .bipush 11, 2),
  (47, .ishr, 1),
  (48, .iconst 1, 1),
  (49, .iand, 1),
  (50, .bipush 7, 2),
  (52, .ishl, 1),
  (53, .ior, 1),
  (54, .bipush 99, 2),
  (56, .ior, 1),
  (57, .ireturn, 1)],
  [], [], [], ⟨0, 0, 0, 0⟩)
theorem okX12_branch : am_Mok mX12_branch := am_Mok.of [] [] [] (by decide +kernel)
def mX12_f3Of : am_M := (yX12_f3Of, cX12_f3Of, 1, (Option.some Jvm.ClassFile.FieldType.int),
  [(0, .iload_n 0, 1),
  (1, .tableswitch 106 0 18 #[91, 91, 106, 103, 99, 93, 101, 101, 95, 97, 91, 106, 103, 99, 95, 97, 93, 101, 101], 91),
  (92, .iconst 0, 1),
  (93, .ireturn, 1),
  (94, .iconst 1, 1),
  (95, .ireturn, 1),
  (96, .iconst 2, 1),
  (97, .ireturn, 1),
  (98, .iconst 3, 1),
  (99, .ireturn, 1),
  (100, .iconst 4, 1),
  (101, .ireturn, 1),
  (102, .iconst 5, 1),
  (103, .ireturn, 1),
  (104, .bipush 6, 2),
  (106, .ireturn, 1),
  (107, .bipush 7, 2),
  (109, .ireturn, 1)],
  [], [], [], ⟨0, 0, 0, 0⟩)
theorem okX12_f3Of : am_Mok mX12_f3Of := am_Mok.of [] [] [] (by decide +kernel)
def mX12_coded : am_M := (yX12_coded, cX12_coded, 8, (Option.some Jvm.ClassFile.FieldType.int),
  [(0, .aload_n 0, 1),
  (1, .getfield 13, 3),
  (4, .iload_n 2, 1),
  (5, .iaload, 1),
  (6, .istore 4, 2),
  (8, .aload_n 0, 1),
  (9, .getfield 16, 3),
  (12, .iload_n 2, 1),
  (13, .iaload, 1),
  (14, .istore 5, 2),
  (16, .aload_n 0, 1),
  (17, .getfield 19, 3),
  (20, .iload_n 2, 1),
  (21, .iaload, 1),
  (22, .istore 6, 2),
  (24, .aload_n 0, 1),
  (25, .getfield 22, 3),
  (28, .iload_n 2, 1),
  (29, .iaload, 1),
  (30, .istore 7, 2),
  (32, .iload 4, 2),
  (34, .bipush 9, 2),
  (36, .if_icmp .gt 53, 3),
  (39, .iload 4, 2),
  (41, .iconst 1, 1),
  (42, .if_icmp .eq 10, 3),
  (45, .iload 4, 2),
  (47, .bipush 7, 2),
  (49, .if_icmp .ne 8, 3),
  (52, .ldc 229, 2),
  (54, .goto 4, 3),
  (57, .iconst 0, 1),
  (58, .iload 7, 2),
  (60, .bipush 20, 2),
  (62, .ishl, 1),
  (63, .ior, 1),
  (64, .iload 6, 2),
  (66, .bipush 15, 2),
  (68, .ishl, 1),
  (69, .ior, 1),
  (70, .iload 4, 2),
  (72, .invokestatic 230, 3),
  (75, .bipush 12, 2),
  (77, .ishl, 1),
  (78, .ior, 1),
  (79, .iload 5, 2),
  (81, .bipush 7, 2),
  (83, .ishl, 1),
  (84, .ior, 1),
  (85, .bipush 51, 2),
  (87, .ior, 1),
  (88, .ireturn, 1),
  (89, .iload 4, 2),
  (91, .bipush 15, 2),
  (93, .if_icmp .gt 33, 3),
  (96, .iload 7, 2),
  (98, .bipush 20, 2),
  (100, .ishl, 1),
  (101, .iload 6, 2),
  (103, .bipush 15, 2),
  (105, .ishl, 1),
  (106, .ior, 1),
  (107, .iload 4, 2),
  (109, .invokestatic 230, 3),
  (112, .bipush 12, 2),
  (114, .ishl, 1),
  (115, .ior, 1),
  (116, .iload 5, 2),
  (118, .bipush 7, 2),
  (120, .ishl, 1),
  (121, .ior, 1),
  (122, .bipush 19, 2),
  (124, .ior, 1),
  (125, .ireturn, 1),
  (126, .iload 4, 2),
  (128, .bipush 18, 2),
  (130, .if_icmp .gt 47, 3),
  (133, .iload 4, 2),
  (135, .bipush 18, 2),
  (137, .if_icmp .ne 8, 3),
  (140, .ldc 229, 2),
  (142, .goto 4, 3),
  (145, .iconst 0, 1),
  (146, .iload 7, 2),
  (148, .bipush 20, 2),
  (150, .ishl, 1),
  (151, .ior, 1),
  (152, .iload 6, 2),
  (154, .bipush 15, 2),
  (156, .ishl, 1),
  (157, .ior, 1),
  (158, .iload 4, 2),
  (160, .invokestatic 230, 3),
  (163, .bipush 12, 2),
  (165, .ishl, 1),
  (166, .ior, 1),
  (167, .iload 5, 2),
  (169, .bipush 7, 2),
  (171, .ishl, 1),
  (172, .ior, 1),
  (173, .bipush 19, 2),
  (175, .ior, 1),
  (176, .ireturn, 1),
  (177, .iload 4, 2),
  (179, .tableswitch 268 19 33 #[73, 88, 112, 151, 151, 178, 178, 178, 178, 205, 224, 238, 252, 268, 255], 73),
  (252, .iload 6, 2),
  (254, .bipush 12, 2),
  (256, .ishl, 1),
  (257, .iload 5, 2),
  (259, .bipush 7, 2),
  (261, .ishl, 1),
  (262, .ior, 1),
  (263, .bipush 55, 2),
  (265, .ior, 1),
  (266, .ireturn, 1),
  (267, .iload 7, 2),
  (269, .bipush 20, 2),
  (271, .ishl, 1),
  (272, .iload 6, 2),
  (274, .bipush 15, 2),
  (276, .ishl, 1),
  (277, .ior, 1),
  (278, .sipush 8192, 3),
  (281, .ior, 1),
  (282, .iload 5, 2),
  (284, .bipush 7, 2),
  (286, .ishl, 1),
  (287, .ior, 1),
  (288, .iconst 3, 1),
  (289, .ior, 1),
  (290, .ireturn, 1),
  (291, .iload 7, 2),
  (293, .iconst 5, 1),
  (294, .ishr, 1),
  (295, .bipush 127, 2),
  (297, .iand, 1),
  (298, .bipush 25, 2),
  (300, .ishl, 1),
  (301, .iload 5, 2),
  (303, .bipush 20, 2),
  (305, .ishl, 1),
  (306, .ior, 1),
  (307, .iload 6, 2),
  (309, .bipush 15, 2),
  (311, .ishl, 1),
  (312, .ior, 1),
  (313, .sipush 8192, 3),
  (316, .ior, 1),
  (317, .iload 7, 2),
  (319, .bipush 31, 2),
  (321, .iand, 1),
  (322, .bipush 7, 2),
  (324, .ishl, 1),
  (325, .ior, 1),
  (326, .bipush 35, 2),
  (328, .ior, 1),
  (329, .ireturn, 1),
  (330, .iload 4, 2),
  (332, .bipush 22, 2),
  (334, .isub, 1),
  (335, .iload 5, 2),
  (337, .iload 6, 2),
  (339, .aload_n 0, 1),
  (340, .getfield 64, 3),
  (343, .bipush 40, 2),
  (345, .iload_n 1, 1),
  (346, .imul, 1),
  (347, .iload 7, 2),
  (349, .iadd, 1),
  (350, .iaload, 1),
  (351, .iload_n 3, 1),
  (352, .isub, 1),
  (353, .invokestatic 233, 3),
  (356, .ireturn, 1),
  (357, .iload 4, 2),
  (359, .bipush 20, 2),
  (361, .isub, 1),
  (362, .iload 5, 2),
  (364, .iload 6, 2),
  (366, .aload_n 0, 1),
  (367, .getfield 64, 3),
  (370, .bipush 40, 2),
  (372, .iload_n 1, 1),
  (373, .imul, 1),
  (374, .iload 7, 2),
  (376, .iadd, 1),
  (377, .iaload, 1),
  (378, .iload_n 3, 1),
  (379, .isub, 1),
  (380, .invokestatic 233, 3),
  (383, .ireturn, 1),
  (384, .iconst 0, 1),
  (385, .aload_n 0, 1),
  (386, .getfield 64, 3),
  (389, .bipush 40, 2),
  (391, .iload_n 1, 1),
  (392, .imul, 1),
  (393, .iload 5, 2),
  (395, .iadd, 1),
  (396, .iaload, 1),
  (397, .iload_n 3, 1),
  (398, .isub, 1),
  (399, .invokestatic 217, 3),
  (402, .ireturn, 1),
  (403, .iconst 1, 1),
  (404, .aload_n 0, 1),
  (405, .getfield 34, 3),
  (408, .iload 5, 2),
  (410, .iaload, 1),
  (411, .iload_n 3, 1),
  (412, .isub, 1),
  (413, .invokestatic 217, 3),
  (416, .ireturn, 1),
  (417, .iconst 0, 1),
  (418, .aload_n 0, 1),
  (419, .getfield 34, 3),
  (422, .iload 5, 2),
  (424, .iaload, 1),
  (425, .iload_n 3, 1),
  (426, .isub, 1),
  (427, .invokestatic 217, 3),
  (430, .ireturn, 1),
  (431, .ldc 237, 2),
  (433, .ireturn, 1),
  (434, .iload 5, 2),
  (436, .bipush 15, 2),
  (438, .ishl, 1),
  (439, .sipush 128, 3),
  (442, .ior, 1),
  (443, .bipush 103, 2),
  (445, .ior, 1),
  (446, .ireturn, 1),
  (447, .bipush 115, 2),
  (449, .ireturn, 1)],
  [(13, 4, [9]), (16, 5, [9]), (19, 6, [9]), (22, 7, [9]), (64, 25, [9]), (34, 15, [9])], [(229, 1073741824), (237, 32871)], [], ⟨1, 0, 0, 23⟩)
theorem okX12_coded : am_Mok mX12_coded := am_Mok.of [1316, 1317, 1318, 1319, 1337, 1327] [1557, 1564] [] (by decide +kernel)
def mX12_body : am_M := (yX12_body, cX12_body, 3, (Option.some Jvm.ClassFile.FieldType.int),
  [(0, .aload_n 0, 1),
  (1, .getfield 135, 3),
  (4, .ifCond .eq 17, 3),
  (7, .iload_n 1, 1),
  (8, .iconst 0, 1),
  (9, .aload_n 0, 1),
  (10, .getfield 179, 3),
  (13, .iconst 1, 1),
  (14, .isub, 1),
  (15, .invokestatic 119, 3),
  (18, .ifCond .ne 5, 3),
  (21, .iconst (-1), 1),
  (22, .ireturn, 1),
  (23, .iload_n 2, 1),
  (24, .ifCond .ne 12, 3),
  (27, .aload_n 0, 1),
  (28, .getfield 31, 3),
  (31, .iload_n 1, 1),
  (32, .iaload, 1),
  (33, .goto 18, 3),
  (36, .iload_n 2, 1),
  (37, .iconst 1, 1),
  (38, .if_icmp .ne 12, 3),
  (41, .aload_n 0, 1),
  (42, .getfield 34, 3),
  (45, .iload_n 1, 1),
  (46, .iaload, 1),
  (47, .goto 4, 3),
  (50, .iconst (-1), 1),
  (51, .ireturn, 1)],
  [(135, 10, [9]), (179, 11, [9]), (31, 14, [9]), (34, 15, [9])], [], [], ⟨1, 0, 0, 22⟩)
theorem okX12_body : am_Mok mX12_body := am_Mok.of [1322, 1323, 1326, 1327] [] [] (by decide +kernel)
def mX12_hasRoutine : am_M := (yX12_hasRoutine, cX12_hasRoutine, 2, (Option.some Jvm.ClassFile.FieldType.boolean),
  [(0, .aload_n 0, 1),
  (1, .getfield 135, 3),
  (4, .ifCond .eq 21, 3),
  (7, .iload_n 1, 1),
  (8, .iconst 0, 1),
  (9, .aload_n 0, 1),
  (10, .getfield 182, 3),
  (13, .iconst 1, 1),
  (14, .isub, 1),
  (15, .invokestatic 119, 3),
  (18, .ifCond .eq 7, 3),
  (21, .iconst 1, 1),
  (22, .goto 4, 3),
  (25, .iconst 0, 1),
  (26, .ireturn, 1)],
  [(135, 10, [9]), (182, 13, [9])], [], [], ⟨1, 0, 0, 22⟩)
theorem okX12_hasRoutine : am_Mok mX12_hasRoutine := am_Mok.of [1322, 1325] [] [] (by decide +kernel)
def mX12_routine : am_M := (yX12_routine, cX12_routine, 3, (Option.some Jvm.ClassFile.FieldType.int),
  [(0, .aload_n 0, 1),
  (1, .iload_n 1, 1),
  (2, .invokevirtual 238, 3),
  (5, .ifCond .ne 5, 3),
  (8, .iconst (-1), 1),
  (9, .ireturn, 1),
  (10, .iload_n 2, 1),
  (11, .tableswitch 57 0 3 #[29, 36, 43, 50], 29),
  (40, .aload_n 0, 1),
  (41, .getfield 40, 3),
  (44, .iload_n 1, 1),
  (45, .iaload, 1),
  (46, .ireturn, 1),
  (47, .aload_n 0, 1),
  (48, .getfield 43, 3),
  (51, .iload_n 1, 1),
  (52, .iaload, 1),
  (53, .ireturn, 1),
  (54, .aload_n 0, 1),
  (55, .getfield 46, 3),
  (58, .iload_n 1, 1),
  (59, .iaload, 1),
  (60, .ireturn, 1),
  (61, .aload_n 0, 1),
  (62, .getfield 49, 3),
  (65, .iload_n 1, 1),
  (66, .iaload, 1),
  (67, .ireturn, 1),
  (68, .iconst (-1), 1),
  (69, .ireturn, 1)],
  [(40, 17, [9]), (43, 18, [9]), (46, 19, [9]), (49, 20, [9])], [], [], ⟨2, 0, 0, 43⟩)
theorem okX12_routine : am_Mok mX12_routine := am_Mok.of [1329, 1330, 1331, 1332] [] [] (by decide +kernel)
def mX12_occurrence : am_M := (yX12_occurrence, cX12_occurrence, 5, (Option.some Jvm.ClassFile.FieldType.int),
  [(0, .aload_n 0, 1),
  (1, .iload_n 1, 1),
  (2, .invokevirtual 238, 3),
  (5, .ifCond .eq 19, 3),
  (8, .iload_n 2, 1),
  (9, .iconst 0, 1),
  (10, .aload_n 0, 1),
  (11, .getfield 43, 3),
  (14, .iload_n 1, 1),
  (15, .iaload, 1),
  (16, .iconst 1, 1),
  (17, .isub, 1),
  (18, .invokestatic 119, 3),
  (21, .ifCond .ne 5, 3),
  (24, .iconst (-1), 1),
  (25, .ireturn, 1),
  (26, .aload_n 0, 1),
  (27, .getfield 55, 3),
  (30, .sipush 150, 3),
  (33, .iload_n 1, 1),
  (34, .imul, 1),
  (35, .iload_n 2, 1),
  (36, .iadd, 1),
  (37, .iaload, 1),
  (38, .istore 4, 2),
  (40, .iload_n 3, 1),
  (41, .ifCond .ne 11, 3),
  (44, .iload 4, 2),
  (46, .bipush 40, 2),
  (48, .idiv, 1),
  (49, .goto 37, 3),
  (52, .iload_n 3, 1),
  (53, .iconst 1, 1),
  (54, .if_icmp .ne 11, 3),
  (57, .iload 4, 2),
  (59, .bipush 40, 2),
  (61, .irem, 1),
  (62, .goto 24, 3),
  (65, .iload_n 3, 1),
  (66, .iconst 2, 1),
  (67, .if_icmp .ne 18, 3),
  (70, .aload_n 0, 1),
  (71, .getfield 58, 3),
  (74, .sipush 150, 3),
  (77, .iload_n 1, 1),
  (78, .imul, 1),
  (79, .iload_n 2, 1),
  (80, .iadd, 1),
  (81, .iaload, 1),
  (82, .goto 4, 3),
  (85, .iconst (-1), 1),
  (86, .ireturn, 1)],
  [(43, 18, [9]), (55, 22, [9]), (58, 23, [9])], [], [], ⟨2, 0, 0, 43⟩)
theorem okX12_occurrence : am_Mok mX12_occurrence := am_Mok.of [1330, 1334, 1335] [] [] (by decide +kernel)
def mX12_word : am_M := (yX12_word, cX12_word, 2, (Option.some Jvm.ClassFile.FieldType.int),
  [(0, .aload_n 0, 1),
  (1, .getfield 135, 3),
  (4, .ifCond .eq 26, 3),
  (7, .iload_n 1, 1),
  (8, .iconst 0, 1),
  (9, .aload_n 0, 1),
  (10, .getfield 195, 3),
  (13, .iconst 1, 1),
  (14, .isub, 1),
  (15, .invokestatic 119, 3),
  (18, .ifCond .eq 12, 3),
  (21, .aload_n 0, 1),
  (22, .getfield 37, 3),
  (25, .iload_n 1, 1),
  (26, .iaload, 1),
  (27, .goto 4, 3),
  (30, .iconst 0, 1),
  (31, .ireturn, 1)],
  [(135, 10, [9]), (195, 12, [9]), (37, 16, [9])], [], [], ⟨1, 0, 0, 22⟩)
theorem okX12_word : am_Mok mX12_word := am_Mok.of [1322, 1324, 1328] [] [] (by decide +kernel)
def mX12_begin : am_M := (yX12_begin, cX12_begin, 3, (Option.none : Option Jvm.ClassFile.FieldType),
  [(0, .aload_n 0, 1),
  (1, .getfield 83, 3),
  (4, .iload_n 1, 1),
  (5, .iconst 0, 1),
  (6, .iastore, 1),
  (7, .aload_n 0, 1),
  (8, .getfield 86, 3),
  (11, .iload_n 1, 1),
  (12, .iconst 0, 1),
  (13, .iastore, 1),
  (14, .aload_n 0, 1),
  (15, .getfield 92, 3),
  (18, .iload_n 1, 1),
  (19, .iconst (-1), 1),
  (20, .iastore, 1),
  (21, .iconst 0, 1),
  (22, .istore_n 2, 1),
  (23, .iload_n 2, 1),
  (24, .bipush 32, 2),
  (26, .if_icmp .ge 38, 3),
  (29, .aload_n 0, 1),
  (30, .getfield 100, 3),
  (33, .iload_n 1, 1),
  (34, .aaload, 1),
  (35, .iload_n 2, 1),
  (36, .iconst 0, 1),
  (37, .iastore, 1),
  (38, .aload_n 0, 1),
  (39, .getfield 106, 3),
  (42, .iload_n 2, 1),
  (43, .iload_n 1, 1),
  (44, .ifCond .ne 7, 3),
  (47, .iconst 0, 1),
  (48, .goto 9, 3),
  (51, .aload_n 0, 1),
  (52, .getfield 106, 3),
  (55, .iload_n 2, 1),
  (56, .iaload, 1),
  (57, .iastore, 1),
  (58, .iinc 2 1, 3),
  (61, .goto (-38), 3),
  (64, .iconst 0, 1),
  (65, .istore_n 2, 1),
  (66, .iload_n 2, 1),
  (67, .bipush 64, 2),
  (69, .if_icmp .ge 38, 3),
  (72, .aload_n 0, 1),
  (73, .getfield 103, 3),
  (76, .iload_n 1, 1),
  (77, .aaload, 1),
  (78, .iload_n 2, 1),
  (79, .iconst 0, 1),
  (80, .iastore, 1),
  (81, .aload_n 0, 1),
  (82, .getfield 109, 3),
  (85, .iload_n 2, 1),
  (86, .iload_n 1, 1),
  (87, .ifCond .ne 7, 3),
  (90, .iconst 0, 1),
  (91, .goto 9, 3),
  (94, .aload_n 0, 1),
  (95, .getfield 109, 3),
  (98, .iload_n 2, 1),
  (99, .iaload, 1),
  (100, .iastore, 1),
  (101, .iinc 2 1, 3),
  (104, .goto (-38), 3),
  (107, .return_, 1)],
  [(83, 31, [9]), (86, 32, [9]), (92, 34, [9]), (100, 36, [9]), (106, 38, [9]), (103, 37, [9]), (109, 39, [9])], [], [], ⟨0, 0, 0, 0⟩)
theorem okX12_begin : am_Mok mX12_begin := am_Mok.of [1343, 1344, 1346, 1348, 1350, 1349, 1351] [] [] (by decide +kernel)
def mX12_print : am_M := (yX12_print, cX12_print, 3, (Option.none : Option Jvm.ClassFile.FieldType),
  [(0, .aload_n 0, 1),
  (1, .getfield 86, 3),
  (4, .iload_n 1, 1),
  (5, .iaload, 1),
  (6, .sipush 200, 3),
  (9, .if_icmp .ge 17, 3),
  (12, .aload_n 0, 1),
  (13, .getfield 97, 3),
  (16, .iload_n 1, 1),
  (17, .aaload, 1),
  (18, .aload_n 0, 1),
  (19, .getfield 86, 3),
  (22, .iload_n 1, 1),
  (23, .iaload, 1),
  (24, .iload_n 2, 1),
  (25, .iastore, 1),
  (26, .aload_n 0, 1),
  (27, .getfield 86, 3),
  (30, .iload_n 1, 1),
  (31, .dup2, 1),
  (32, .iaload, 1),
  (33, .iconst 1, 1),
  (34, .iadd, 1),
  (35, .iastore, 1),
  (36, .return_, 1)],
  [(86, 32, [9]), (97, 35, [9])], [], [], ⟨0, 0, 0, 0⟩)
theorem okX12_print : am_Mok mX12_print := am_Mok.of [1344, 1347] [] [] (by decide +kernel)
def mX12_run : am_M := (yX12_run, cX12_run, 3, (Option.some Jvm.ClassFile.FieldType.int),
  [(0, .iload_n 1, 1),
  (1, .iconst 0, 1),
  (2, .iconst 1, 1),
  (3, .invokestatic 119, 3),
  (6, .ifCond .eq 35, 3),
  (9, .iload_n 2, 1),
  (10, .iconst 1, 1),
  (11, .sipush 20000, 3),
  (14, .invokestatic 119, 3),
  (17, .ifCond .eq 24, 3),
  (20, .iload_n 1, 1),
  (21, .ifCond .ne 13, 3),
  (24, .aload_n 0, 1),
  (25, .getfield 116, 3),
  (28, .ifCond .ne 15, 3),
  (31, .goto 10, 3),
  (34, .aload_n 0, 1),
  (35, .getfield 135, 3),
  (38, .ifCond .ne 5, 3),
  (41, .iconst (-1), 1),
  (42, .ireturn, 1),
  (43, .aload_n 0, 1),
  (44, .iload_n 1, 1),
  (45, .invokevirtual 241, 3),
  (48, .aload_n 0, 1),
  (49, .getfield 80, 3),
  (52, .iload_n 1, 1),
  (53, .iload_n 1, 1),
  (54, .ifCond .ne 11, 3),
  (57, .aload_n 0, 1),
  (58, .iload_n 2, 1),
  (59, .invokevirtual 245, 3),
  (62, .goto 8, 3),
  (65, .aload_n 0, 1),
  (66, .iload_n 2, 1),
  (67, .invokevirtual 248, 3),
  (70, .iastore, 1),
  (71, .aload_n 0, 1),
  (72, .getfield 80, 3),
  (75, .iload_n 1, 1),
  (76, .iaload, 1),
  (77, .ireturn, 1)],
  [(116, 1, [9]), (135, 10, [9]), (80, 30, [9])], [], [], ⟨4, 0, 0, 97⟩)
theorem okX12_run : am_Mok mX12_run := am_Mok.of [1313, 1322, 1342] [] [] (by decide +kernel)
end
section
def mX12_runTold : am_M := (yX12_runTold, cX12_runTold, 7, (Option.some Jvm.ClassFile.FieldType.int),
  [(0, .aload_n 0, 1),
  (1, .getfield 100, 3),
  (4, .iconst 0, 1),
  (5, .aaload, 1),
  (6, .iconst 1, 1),
  (7, .iconst (-1), 1),
  (8, .iastore, 1),
  (9, .aload_n 0, 1),
  (10, .getfield 106, 3),
  (13, .iconst 1, 1),
  (14, .iconst 2, 1),
  (15, .iastore, 1),
  (16, .iconst 0, 1),
  (17, .istore_n 2, 1),
  (18, .iconst 0, 1),
  (19, .istore_n 3, 1),
  (20, .aload_n 0, 1),
  (21, .getfield 83, 3),
  (24, .iconst 0, 1),
  (25, .iaload, 1),
  (26, .iload_n 1, 1),
  (27, .if_icmp .ge 293, 3),
  (30, .aload_n 0, 1),
  (31, .getfield 89, 3),
  (34, .iconst 0, 1),
  (35, .iload_n 2, 1),
  (36, .iastore, 1),
  (37, .aload_n 0, 1),
  (38, .getfield 92, 3),
  (41, .iconst 0, 1),
  (42, .iload_n 3, 1),
  (43, .iastore, 1),
  (44, .iload_n 2, 1),
  (45, .aload_n 0, 1),
  (46, .getfield 116, 3),
  (49, .if_icmp .ge 13, 3),
  (52, .iload_n 3, 1),
  (53, .aload_n 0, 1),
  (54, .getfield 7, 3),
  (57, .iload_n 2, 1),
  (58, .iaload, 1),
  (59, .if_icmp .lt 5, 3),
  (62, .iconst 2, 1),
  (63, .ireturn, 1),
  (64, .bipush 40, 2),
  (66, .iload_n 2, 1),
  (67, .imul, 1),
  (68, .iload_n 3, 1),
  (69, .iadd, 1),
  (70, .istore 4, 2),
  (72, .aload_n 0, 1),
  (73, .getfield 13, 3),
  (76, .iload 4, 2),
  (78, .iaload, 1),
  (79, .istore 5, 2),
  (81, .aload_n 0, 1),
  (82, .iload 4, 2),
  (84, .invokevirtual 251, 3),
  (87, .ifCond .ne 5, 3),
  (90, .iconst 2, 1),
  (91, .ireturn, 1),
  (92, .aload_n 0, 1),
  (93, .getfield 83, 3),
  (96, .iconst 0, 1),
  (97, .dup2, 1),
  (98, .iaload, 1),
  (99, .iconst 1, 1),
  (100, .iadd, 1),
  (101, .iastore, 1),
  (102, .iinc 3 1, 3),
  (105, .iload 5, 2),
  (107, .invokestatic 173, 3),
  (110, .ifCond .eq 21, 3),
  (113, .aload_n 0, 1),
  (114, .getfield 254, 3),
  (117, .ifCond .eq 14, 3),
  (120, .aload_n 0, 1),
  (121, .getfield 22, 3),
  (124, .iload 4, 2),
  (126, .iaload, 1),
  (127, .istore_n 3, 1),
  (128, .goto 175, 3),
  (131, .iload 5, 2),
  (133, .bipush 28, 2),
  (135, .if_icmp .ne 14, 3),
  (138, .aload_n 0, 1),
  (139, .getfield 16, 3),
  (142, .iload 4, 2),
  (144, .iaload, 1),
  (145, .istore_n 3, 1),
  (146, .goto 157, 3),
  (149, .iload 5, 2),
  (151, .invokestatic 148, 3),
  (154, .ifCond .ne 10, 3),
  (157, .iload 5, 2),
  (159, .bipush 33, 2),
  (161, .if_icmp .ne 83, 3),
  (164, .iload 5, 2),
  (166, .bipush 30, 2),
  (168, .if_icmp .eq 63, 3),
  (171, .bipush 64, 2),
  (173, .iload_n 2, 1),
  (174, .imul, 1),
  (175, .iload_n 3, 1),
  (176, .iadd, 1),
  (177, .istore 6, 2),
  (179, .iload 5, 2),
  (181, .bipush 29, 2),
  (183, .if_icmp .ne 13, 3),
  (186, .aload_n 0, 1),
  (187, .getfield 16, 3),
  (190, .iload 4, 2),
  (192, .iaload, 1),
  (193, .goto 17, 3),
  (196, .aload_n 0, 1),
  (197, .getfield 100, 3),
  (200, .iconst 0, 1),
  (201, .aaload, 1),
  (202, .aload_n 0, 1),
  (203, .getfield 16, 3),
  (206, .iload 4, 2),
  (208, .iaload, 1),
  (209, .iaload, 1),
  (210, .istore_n 2, 1),
  (211, .aload_n 0, 1),
  (212, .getfield 100, 3),
  (215, .iconst 0, 1),
  (216, .aaload, 1),
  (217, .iconst 1, 1),
  (218, .iload 6, 2),
  (220, .iastore, 1),
  (221, .aload_n 0, 1),
  (222, .getfield 106, 3),
  (225, .iconst 1, 1),
  (226, .iconst 2, 1),
  (227, .iastore, 1),
  (228, .goto 11, 3),
  (231, .aload_n 0, 1),
  (232, .getfield 16, 3),
  (235, .iload 4, 2),
  (237, .iaload, 1),
  (238, .istore_n 2, 1),
  (239, .iconst 0, 1),
  (240, .istore_n 3, 1),
  (241, .goto 62, 3),
  (244, .iload 5, 2),
  (246, .bipush 31, 2),
  (248, .if_icmp .ne 55, 3),
  (251, .aload_n 0, 1),
  (252, .getfield 100, 3),
  (255, .iconst 0, 1),
  (256, .aaload, 1),
  (257, .iconst 1, 1),
  (258, .iaload, 1),
  (259, .iconst (-1), 1),
  (260, .if_icmp .ne 19, 3),
  (263, .aload_n 0, 1),
  (264, .getfield 89, 3),
  (267, .iconst 0, 1),
  (268, .iconst (-1), 1),
  (269, .iastore, 1),
  (270, .aload_n 0, 1),
  (271, .getfield 92, 3),
  (274, .iconst 0, 1),
  (275, .iconst (-1), 1),
  (276, .iastore, 1),
  (277, .iconst 0, 1),
  (278, .ireturn, 1),
  (279, .aload_n 0, 1),
  (280, .getfield 100, 3),
  (283, .iconst 0, 1),
  (284, .aaload, 1),
  (285, .iconst 1, 1),
  (286, .iaload, 1),
  (287, .bipush 64, 2),
  (289, .idiv, 1),
  (290, .istore_n 2, 1),
  (291, .aload_n 0, 1),
  (292, .getfield 100, 3),
  (295, .iconst 0, 1),
  (296, .aaload, 1),
  (297, .iconst 1, 1),
  (298, .iaload, 1),
  (299, .bipush 64, 2),
  (301, .irem, 1),
  (302, .istore_n 3, 1),
  (303, .aload_n 0, 1),
  (304, .getfield 89, 3),
  (307, .iconst 0, 1),
  (308, .iload_n 2, 1),
  (309, .iastore, 1),
  (310, .aload_n 0, 1),
  (311, .getfield 92, 3),
  (314, .iconst 0, 1),
  (315, .iload_n 3, 1),
  (316, .iastore, 1),
  (317, .goto (-297), 3),
  (320, .iconst 1, 1),
  (321, .ireturn, 1)],
  [(100, 36, [9]), (106, 38, [9]), (83, 31, [9]), (89, 33, [9]), (92, 34, [9]), (116, 1, [9]), (7, 3, [9]), (13, 4, [9]), (254, 40, [9]), (22, 7, [9]), (16, 5, [9])], [], [], ⟨3, 0, 0, 70⟩)
theorem okX12_runTold : am_Mok mX12_runTold := am_Mok.of [1348, 1350, 1343, 1345, 1346, 1313, 1315, 1316, 1352, 1319, 1317] [] [] (by decide +kernel)
def mX12_isNumber : am_M := (yX12_isNumber, cX12_isNumber, 2, (Option.some Jvm.ClassFile.FieldType.boolean),
  [(0, .aload_n 0, 1),
  (1, .getfield 106, 3),
  (4, .iload_n 1, 1),
  (5, .iaload, 1),
  (6, .ifCond .ne 7, 3),
  (9, .iconst 1, 1),
  (10, .goto 4, 3),
  (13, .iconst 0, 1),
  (14, .ireturn, 1)],
  [(106, 38, [9])], [], [], ⟨0, 0, 0, 0⟩)
theorem okX12_isNumber : am_Mok mX12_isNumber := am_Mok.of [1350] [] [] (by decide +kernel)
def mX12_set : am_M := (yX12_set, cX12_set, 4, (Option.none : Option Jvm.ClassFile.FieldType),
  [(0, .iload_n 1, 1),
  (1, .ifCond .eq 19, 3),
  (4, .aload_n 0, 1),
  (5, .getfield 100, 3),
  (8, .iconst 0, 1),
  (9, .aaload, 1),
  (10, .iload_n 1, 1),
  (11, .iload_n 3, 1),
  (12, .iastore, 1),
  (13, .aload_n 0, 1),
  (14, .getfield 106, 3),
  (17, .iload_n 1, 1),
  (18, .iload_n 2, 1),
  (19, .iastore, 1),
  (20, .return_, 1)],
  [(100, 36, [9]), (106, 38, [9])], [], [], ⟨0, 0, 0, 0⟩)
theorem okX12_set : am_Mok mX12_set := am_Mok.of [1348, 1350] [] [] (by decide +kernel)
def mX12_isBelow : am_M := (yX12_isBelow, cX12_isBelow, 2, (Option.some Jvm.ClassFile.FieldType.boolean),
  [(0, .iload_n 0, 1),
  (1, .ldc_w 257, 3),
  (4, .iadd, 1),
  (5, .iload_n 1, 1),
  (6, .ldc_w 257, 3),
  (9, .iadd, 1),
  (10, .if_icmp .ge 7, 3),
  (13, .iconst 1, 1),
  (14, .goto 4, 3),
  (17, .iconst 0, 1),
  (18, .ireturn, 1)],
  [], [(257, -2147483648)], [], ⟨0, 0, 0, 0⟩)
theorem okX12_isBelow : am_Mok mX12_isBelow := am_Mok.of [] [1612] [] (by decide +kernel)
def mX12_reckoned : am_M := (yX12_reckoned, cX12_reckoned, 3, (Option.some Jvm.ClassFile.FieldType.int),
  [(0, .iload_n 0, 1),
  (1, .tableswitch 143 0 18 #[91, 95, 99, 103, 107, 111, 118, 125, 132, 143, 91, 99, 103, 107, 132, 143, 111, 118, 125], 91),
  (92, .iload_n 1, 1),
  (93, .iload_n 2, 1),
  (94, .iadd, 1),
  (95, .ireturn, 1),
  (96, .iload_n 1, 1),
  (97, .iload_n 2, 1),
  (98, .isub, 1),
  (99, .ireturn, 1),
  (100, .iload_n 1, 1),
  (101, .iload_n 2, 1),
  (102, .iand, 1),
  (103, .ireturn, 1),
  (104, .iload_n 1, 1),
  (105, .iload_n 2, 1),
  (106, .ior, 1),
  (107, .ireturn, 1),
  (108, .iload_n 1, 1),
  (109, .iload_n 2, 1),
  (110, .ixor, 1),
  (111, .ireturn, 1),
  (112, .iload_n 1, 1),
  (113, .iload_n 2, 1),
  (114, .bipush 31, 2),
  (116, .iand, 1),
  (117, .ishl, 1),
  (118, .ireturn, 1),
  (119, .iload_n 1, 1),
  (120, .iload_n 2, 1),
  (121, .bipush 31, 2),
  (123, .iand, 1),
  (124, .iushr, 1),
  (125, .ireturn, 1),
  (126, .iload_n 1, 1),
  (127, .iload_n 2, 1),
  (128, .bipush 31, 2),
  (130, .iand, 1),
  (131, .ishr, 1),
  (132, .ireturn, 1),
  (133, .iload_n 1, 1),
  (134, .iload_n 2, 1),
  (135, .if_icmp .ge 7, 3),
  (138, .iconst 1, 1),
  (139, .goto 4, 3),
  (142, .iconst 0, 1),
  (143, .ireturn, 1),
  (144, .iload_n 1, 1),
  (145, .iload_n 2, 1),
  (146, .invokestatic 258, 3),
  (149, .ifCond .eq 7, 3),
  (152, .iconst 1, 1),
  (153, .goto 4, 3),
  (156, .iconst 0, 1),
  (157, .ireturn, 1)],
  [], [], [], ⟨1, 0, 0, 21⟩)
theorem okX12_reckoned : am_Mok mX12_reckoned := am_Mok.of [] [] [] (by decide +kernel)
def mX12_holds : am_M := (yX12_holds, cX12_holds, 3, (Option.some Jvm.ClassFile.FieldType.boolean),
  [(0, .iload_n 0, 1),
  (1, .tableswitch 93 0 6 #[43, 54, 93, 93, 65, 76, 87], 43),
  (44, .iload_n 1, 1),
  (45, .iload_n 2, 1),
  (46, .if_icmp .ne 7, 3),
  (49, .iconst 1, 1),
  (50, .goto 4, 3),
  (53, .iconst 0, 1),
  (54, .ireturn, 1),
  (55, .iload_n 1, 1),
  (56, .iload_n 2, 1),
  (57, .if_icmp .eq 7, 3),
  (60, .iconst 1, 1),
  (61, .goto 4, 3),
  (64, .iconst 0, 1),
  (65, .ireturn, 1),
  (66, .iload_n 1, 1),
  (67, .iload_n 2, 1),
  (68, .if_icmp .ge 7, 3),
  (71, .iconst 1, 1),
  (72, .goto 4, 3),
  (75, .iconst 0, 1),
  (76, .ireturn, 1),
  (77, .iload_n 1, 1),
  (78, .iload_n 2, 1),
  (79, .if_icmp .lt 7, 3),
  (82, .iconst 1, 1),
  (83, .goto 4, 3),
  (86, .iconst 0, 1),
  (87, .ireturn, 1),
  (88, .iload_n 1, 1),
  (89, .iload_n 2, 1),
  (90, .invokestatic 258, 3),
  (93, .ireturn, 1),
  (94, .iload_n 1, 1),
  (95, .iload_n 2, 1),
  (96, .invokestatic 258, 3),
  (99, .ifCond .ne 7, 3),
  (102, .iconst 1, 1),
  (103, .goto 4, 3),
  (106, .iconst 0, 1),
  (107, .ireturn, 1)],
  [], [], [], ⟨1, 0, 0, 21⟩)
theorem okX12_holds : am_Mok mX12_holds := am_Mok.of [] [] [] (by decide +kernel)
def mX12_isCell : am_M := (yX12_isCell, cX12_isCell, 1, (Option.some Jvm.ClassFile.FieldType.boolean),
  [(0, .iload_n 0, 1),
  (1, .iconst 4, 1),
  (2, .irem, 1),
  (3, .ifCond .ne 20, 3),
  (6, .iload_n 0, 1),
  (7, .ldc_w 261, 3),
  (10, .ldc_w 262, 3),
  (13, .invokestatic 119, 3),
  (16, .ifCond .eq 7, 3),
  (19, .iconst 1, 1),
  (20, .goto 4, 3),
  (23, .iconst 0, 1),
  (24, .ireturn, 1)],
  [], [(261, 65536), (262, 65788)], [], ⟨1, 0, 0, 22⟩)
theorem okX12_isCell : am_Mok mX12_isCell := am_Mok.of [] [1620, 1621] [] (by decide +kernel)
def mX12_does : am_M := (yX12_does, cX12_does, 8, (Option.some Jvm.ClassFile.FieldType.boolean),
  [(0, .aload_n 0, 1),
  (1, .getfield 13, 3),
  (4, .iload_n 1, 1),
  (5, .iaload, 1),
  (6, .istore_n 2, 1),
  (7, .aload_n 0, 1),
  (8, .getfield 16, 3),
  (11, .iload_n 1, 1),
  (12, .iaload, 1),
  (13, .istore_n 3, 1),
  (14, .aload_n 0, 1),
  (15, .getfield 19, 3),
  (18, .iload_n 1, 1),
  (19, .iaload, 1),
  (20, .istore 4, 2),
  (22, .aload_n 0, 1),
  (23, .getfield 22, 3),
  (26, .iload_n 1, 1),
  (27, .iaload, 1),
  (28, .istore 5, 2),
  (30, .aload_n 0, 1),
  (31, .getfield 100, 3),
  (34, .iconst 0, 1),
  (35, .aaload, 1),
  (36, .astore 6, 2),
  (38, .iload_n 2, 1),
  (39, .bipush 9, 2),
  (41, .if_icmp .gt 45, 3),
  (44, .aload_n 0, 1),
  (45, .iload 4, 2),
  (47, .invokevirtual 263, 3),
  (50, .ifCond .eq 12, 3),
  (53, .aload_n 0, 1),
  (54, .iload 5, 2),
  (56, .invokevirtual 263, 3),
  (59, .ifCond .ne 5, 3),
  (62, .iconst 0, 1),
  (63, .ireturn, 1),
  (64, .aload_n 0, 1),
  (65, .iload_n 3, 1),
  (66, .iconst 0, 1),
  (67, .iload_n 2, 1),
  (68, .aload 6, 2),
  (70, .iload 4, 2),
  (72, .iaload, 1),
  (73, .aload 6, 2),
  (75, .iload 5, 2),
  (77, .iaload, 1),
  (78, .invokestatic 266, 3),
  (81, .invokevirtual 269, 3),
  (84, .iconst 1, 1),
  (85, .ireturn, 1),
  (86, .iload_n 2, 1),
  (87, .bipush 18, 2),
  (89, .if_icmp .gt 63, 3),
  (92, .iload_n 2, 1),
  (93, .bipush 10, 2),
  (95, .if_icmp .ne 27, 3),
  (98, .iload 5, 2),
  (100, .ifCond .ne 22, 3),
  (103, .aload_n 0, 1),
  (104, .iload_n 3, 1),
  (105, .aload_n 0, 1),
  (106, .getfield 106, 3),
  (109, .iload 4, 2),
  (111, .iaload, 1),
  (112, .aload 6, 2),
  (114, .iload 4, 2),
  (116, .iaload, 1),
  (117, .invokevirtual 269, 3),
  (120, .iconst 1, 1),
  (121, .ireturn, 1),
  (122, .aload_n 0, 1),
  (123, .iload 4, 2),
  (125, .invokevirtual 263, 3),
  (128, .ifCond .ne 5, 3),
  (131, .iconst 0, 1),
  (132, .ireturn, 1),
  (133, .aload_n 0, 1),
  (134, .iload_n 3, 1),
  (135, .iconst 0, 1),
  (136, .iload_n 2, 1),
  (137, .aload 6, 2),
  (139, .iload 4, 2),
  (141, .iaload, 1),
  (142, .iload 5, 2),
  (144, .invokestatic 266, 3),
  (147, .invokevirtual 269, 3),
  (150, .iconst 1, 1),
  (151, .ireturn, 1),
  (152, .iload_n 2, 1),
  (153, .bipush 19, 2),
  (155, .if_icmp .ne 16, 3),
  (158, .aload_n 0, 1),
  (159, .iload_n 3, 1),
  (160, .iconst 0, 1),
  (161, .iload 4, 2),
  (163, .bipush 12, 2),
  (165, .ishl, 1),
  (166, .invokevirtual 269, 3),
  (169, .iconst 1, 1),
  (170, .ireturn, 1),
  (171, .iload_n 2, 1),
  (172, .bipush 21, 2),
  (174, .if_icmp .gt 102, 3),
  (177, .aload_n 0, 1),
  (178, .iload 4, 2),
  (180, .invokevirtual 263, 3),
  (183, .ifCond .eq 17, 3),
  (186, .aload 6, 2),
  (188, .iload 4, 2),
  (190, .iaload, 1),
  (191, .iload 5, 2),
  (193, .iadd, 1),
  (194, .invokestatic 273, 3),
  (197, .ifCond .ne 5, 3),
  (200, .iconst 0, 1),
  (201, .ireturn, 1),
  (202, .aload 6, 2),
  (204, .iload 4, 2),
  (206, .iaload, 1),
  (207, .iload 5, 2),
  (209, .iadd, 1),
  (210, .ldc_w 261, 3),
  (213, .isub, 1),
  (214, .iconst 4, 1),
  (215, .idiv, 1),
  (216, .istore 7, 2),
  (218, .iload_n 2, 1),
  (219, .bipush 20, 2),
  (221, .if_icmp .ne 27, 3),
  (224, .aload_n 0, 1),
  (225, .iload_n 3, 1),
  (226, .aload_n 0, 1),
  (227, .getfield 109, 3),
  (230, .iload 7, 2),
  (232, .iaload, 1),
  (233, .aload_n 0, 1),
  (234, .getfield 103, 3),
  (237, .iconst 0, 1),
  (238, .aaload, 1),
  (239, .iload 7, 2),
  (241, .iaload, 1),
  (242, .invokevirtual 269, 3),
  (245, .goto 29, 3),
  (248, .aload_n 0, 1),
  (249, .getfield 103, 3),
  (252, .iconst 0, 1),
  (253, .aaload, 1),
  (254, .iload 7, 2),
  (256, .aload 6, 2),
  (258, .iload_n 3, 1),
  (259, .iaload, 1),
  (260, .iastore, 1),
  (261, .aload_n 0, 1),
  (262, .getfield 109, 3),
  (265, .iload 7, 2),
  (267, .aload_n 0, 1),
  (268, .getfield 106, 3),
  (271, .iload_n 3, 1),
  (272, .iaload, 1),
  (273, .iastore, 1),
  (274, .iconst 1, 1),
  (275, .ireturn, 1),
  (276, .iload_n 2, 1),
  (277, .invokestatic 173, 3),
  (280, .ifCond .eq 96, 3),
  (283, .iload_n 2, 1),
  (284, .bipush 24, 2),
  (286, .if_icmp .ge 28, 3),
  (289, .aload_n 0, 1),
  (290, .getfield 106, 3),
  (293, .iload_n 3, 1),
  (294, .iaload, 1),
  (295, .iconst 1, 1),
  (296, .if_icmp .ne 18, 3),
  (299, .aload_n 0, 1),
  (300, .getfield 106, 3),
  (303, .iload 4, 2),
  (305, .iaload, 1),
  (306, .iconst 1, 1),
  (307, .if_icmp .ne 7, 3),
  (310, .iconst 1, 1),
  (311, .goto 4, 3),
  (314, .iconst 0, 1),
  (315, .istore 7, 2),
  (317, .iload 7, 2),
  (319, .ifCond .ne 22, 3),
  (322, .aload_n 0, 1),
  (323, .iload_n 3, 1),
  (324, .invokevirtual 263, 3),
  (327, .ifCond .eq 12, 3),
  (330, .aload_n 0, 1),
  (331, .iload 4, 2),
  (333, .invokevirtual 263, 3),
  (336, .ifCond .ne 5, 3),
  (339, .iconst 0, 1),
  (340, .ireturn, 1),
  (341, .aload_n 0, 1),
  (342, .iload_n 2, 1),
  (343, .bipush 24, 2),
  (345, .if_icmp .ge 10, 3),
  (348, .iload_n 2, 1),
  (349, .bipush 22, 2),
  (351, .isub, 1),
  (352, .goto 7, 3),
  (355, .iload_n 2, 1),
  (356, .bipush 20, 2),
  (358, .isub, 1),
  (359, .aload 6, 2),
  (361, .iload_n 3, 1),
  (362, .iaload, 1),
  (363, .aload 6, 2),
  (365, .iload 4, 2),
  (367, .iaload, 1),
  (368, .invokestatic 276, 3),
  (371, .putfield 254, 3),
  (374, .iconst 1, 1),
  (375, .ireturn, 1),
  (376, .iload_n 2, 1),
  (377, .tableswitch 96 31 34 #[31, 47, 57, 73], 31),
  (408, .aload_n 0, 1),
  (409, .getfield 106, 3),
  (412, .iconst 1, 1),
  (413, .iaload, 1),
  (414, .iconst 2, 1),
  (415, .if_icmp .ne 7, 3),
  (418, .iconst 1, 1),
  (419, .goto 4, 3),
  (422, .iconst 0, 1),
  (423, .ireturn, 1),
  (424, .aload_n 0, 1),
  (425, .iload_n 3, 1),
  (426, .iconst 1, 1),
  (427, .iload 4, 2),
  (429, .invokevirtual 269, 3),
  (432, .iconst 1, 1),
  (433, .ireturn, 1),
  (434, .aload_n 0, 1),
  (435, .getfield 106, 3),
  (438, .iload_n 3, 1),
  (439, .iaload, 1),
  (440, .iconst 1, 1),
  (441, .if_icmp .ne 7, 3),
  (444, .iconst 1, 1),
  (445, .goto 4, 3),
  (448, .iconst 0, 1),
  (449, .ireturn, 1),
  (450, .aload_n 0, 1),
  (451, .bipush 10, 2),
  (453, .invokevirtual 263, 3),
  (456, .ifCond .ne 5, 3),
  (459, .iconst 0, 1),
  (460, .ireturn, 1),
  (461, .aload_n 0, 1),
  (462, .iconst 0, 1),
  (463, .aload 6, 2),
  (465, .bipush 10, 2),
  (467, .iaload, 1),
  (468, .invokevirtual 279, 3),
  (471, .iconst 1, 1),
  (472, .ireturn, 1),
  (473, .iconst 1, 1),
  (474, .ireturn, 1)],
  [(13, 4, [9]), (16, 5, [9]), (19, 6, [9]), (22, 7, [9]), (100, 36, [9]), (106, 38, [9]), (109, 39, [9]), (103, 37, [9]), (254, 40, [9])], [(261, 65536)], [], ⟨2, 0, 0, 43⟩)
theorem okX12_does : am_Mok mX12_does := am_Mok.of [1316, 1317, 1318, 1319, 1348, 1350, 1351, 1349, 1352] [1620] [] (by decide +kernel)
def mX12_runImage : am_M := (yX12_runImage, cX12_runImage, 5, (Option.some Jvm.ClassFile.FieldType.int),
  [(0, .aload_n 0, 1),
  (1, .getfield 34, 3),
  (4, .iconst 0, 1),
  (5, .iaload, 1),
  (6, .istore_n 2, 1),
  (7, .aload_n 0, 1),
  (8, .getfield 89, 3),
  (11, .iconst 1, 1),
  (12, .iload_n 2, 1),
  (13, .iastore, 1),
  (14, .aload_n 0, 1),
  (15, .getfield 83, 3),
  (18, .iconst 1, 1),
  (19, .iaload, 1),
  (20, .iload_n 1, 1),
  (21, .if_icmp .ge 84, 3),
  (24, .iload_n 2, 1),
  (25, .sipush 4096, 3),
  (28, .isub, 1),
  (29, .iconst 4, 1),
  (30, .idiv, 1),
  (31, .istore_n 3, 1),
  (32, .iload_n 2, 1),
  (33, .iconst 4, 1),
  (34, .irem, 1),
  (35, .ifCond .ne 18, 3),
  (38, .iload_n 2, 1),
  (39, .sipush 4096, 3),
  (42, .if_icmp .lt 11, 3),
  (45, .iload_n 3, 1),
  (46, .aload_n 0, 1),
  (47, .getfield 195, 3),
  (50, .if_icmp .lt 5, 3),
  (53, .iconst 2, 1),
  (54, .ireturn, 1),
  (55, .aload_n 0, 1),
  (56, .iload_n 2, 1),
  (57, .aload_n 0, 1),
  (58, .getfield 37, 3),
  (61, .iload_n 3, 1),
  (62, .iaload, 1),
  (63, .invokevirtual 283, 3),
  (66, .istore 4, 2),
  (68, .iload 4, 2),
  (70, .iconst (-1), 1),
  (71, .if_icmp .ne 5, 3),
  (74, .iconst 2, 1),
  (75, .ireturn, 1),
  (76, .aload_n 0, 1),
  (77, .getfield 83, 3),
  (80, .iconst 1, 1),
  (81, .dup2, 1),
  (82, .iaload, 1),
  (83, .iconst 1, 1),
  (84, .iadd, 1),
  (85, .iastore, 1),
  (86, .iload 4, 2),
  (88, .istore_n 2, 1),
  (89, .aload_n 0, 1),
  (90, .getfield 89, 3),
  (93, .iconst 1, 1),
  (94, .iload_n 2, 1),
  (95, .iastore, 1),
  (96, .iload_n 2, 1),
  (97, .ifCond .ne 5, 3),
  (100, .iconst 0, 1),
  (101, .ireturn, 1),
  (102, .goto (-88), 3),
  (105, .iconst 1, 1),
  (106, .ireturn, 1)],
  [(34, 15, [9]), (89, 33, [9]), (83, 31, [9]), (195, 12, [9]), (37, 16, [9])], [], [], ⟨3, 0, 0, 73⟩)
theorem okX12_runImage : am_Mok mX12_runImage := am_Mok.of [1327, 1345, 1343, 1324, 1328] [] [] (by decide +kernel)
def mX12_give : am_M := (yX12_give, cX12_give, 3, (Option.none : Option Jvm.ClassFile.FieldType),
  [(0, .iload_n 1, 1),
  (1, .ifCond .eq 12, 3),
  (4, .aload_n 0, 1),
  (5, .getfield 100, 3),
  (8, .iconst 1, 1),
  (9, .aaload, 1),
  (10, .iload_n 1, 1),
  (11, .iload_n 2, 1),
  (12, .iastore, 1),
  (13, .return_, 1)],
  [(100, 36, [9])], [], [], ⟨0, 0, 0, 0⟩)
theorem okX12_give : am_Mok mX12_give := am_Mok.of [1348] [] [] (by decide +kernel)
end
section
def mX12_does_ : am_M := (yX12_does_, cX12_does_, 10, (Option.some Jvm.ClassFile.FieldType.int),
  [(0, .aload_n 0, 1),
  (1, .getfield 100, 3),
  (4, .iconst 1, 1),
  (5, .aaload, 1),
  (6, .astore_n 3, 1),
  (7, .iload_n 2, 1),
  (8, .bipush 7, 2),
  (10, .ishr, 1),
  (11, .bipush 31, 2),
  (13, .iand, 1),
  (14, .istore 4, 2),
  (16, .aload_n 3, 1),
  (17, .iload_n 2, 1),
  (18, .bipush 15, 2),
  (20, .ishr, 1),
  (21, .bipush 31, 2),
  (23, .iand, 1),
  (24, .iaload, 1),
  (25, .istore 5, 2),
  (27, .aload_n 3, 1),
  (28, .iload_n 2, 1),
  (29, .bipush 20, 2),
  (31, .ishr, 1),
  (32, .bipush 31, 2),
  (34, .iand, 1),
  (35, .iaload, 1),
  (36, .istore 6, 2),
  (38, .iload_n 2, 1),
  (39, .bipush 12, 2),
  (41, .ishr, 1),
  (42, .bipush 7, 2),
  (44, .iand, 1),
  (45, .istore 7, 2),
  (47, .iload_n 1, 1),
  (48, .iconst 4, 1),
  (49, .iadd, 1),
  (50, .istore 8, 2),
  (52, .iload_n 2, 1),
  (53, .bipush 127, 2),
  (55, .iand, 1),
  (56, .lookupswitch 353 #[(3, 150), (19, 100), (35, 193), (51, 76), (55, 136), (99, 237), (103, 330), (111, 289)], 76),
  (132, .aload_n 0, 1),
  (133, .iload 4, 2),
  (135, .iload 7, 2),
  (137, .iload_n 2, 1),
  (138, .bipush 30, 2),
  (140, .iushr, 1),
  (141, .iconst 1, 1),
  (142, .iand, 1),
  (143, .iload 5, 2),
  (145, .iload 6, 2),
  (147, .invokestatic 285, 3),
  (150, .invokevirtual 288, 3),
  (153, .iload 8, 2),
  (155, .ireturn, 1),
  (156, .aload_n 0, 1),
  (157, .iload 4, 2),
  (159, .iload 7, 2),
  (161, .iload 7, 2),
  (163, .iconst 5, 1),
  (164, .if_icmp .ne 12, 3),
  (167, .iload_n 2, 1),
  (168, .bipush 30, 2),
  (170, .iushr, 1),
  (171, .iconst 1, 1),
  (172, .iand, 1),
  (173, .goto 4, 3),
  (176, .iconst 0, 1),
  (177, .iload 5, 2),
  (179, .iload_n 2, 1),
  (180, .bipush 20, 2),
  (182, .ishr, 1),
  (183, .invokestatic 285, 3),
  (186, .invokevirtual 288, 3),
  (189, .iload 8, 2),
  (191, .ireturn, 1),
  (192, .aload_n 0, 1),
  (193, .iload 4, 2),
  (195, .iload_n 2, 1),
  (196, .sipush (-4096), 3),
  (199, .iand, 1),
  (200, .invokevirtual 288, 3),
  (203, .iload 8, 2),
  (205, .ireturn, 1),
  (206, .iload 5, 2),
  (208, .iload_n 2, 1),
  (209, .bipush 20, 2),
  (211, .ishr, 1),
  (212, .iadd, 1),
  (213, .istore 9, 2),
  (215, .iload 9, 2),
  (217, .invokestatic 273, 3),
  (220, .ifCond .ne 5, 3),
  (223, .iconst (-1), 1),
  (224, .ireturn, 1),
  (225, .aload_n 0, 1),
  (226, .iload 4, 2),
  (228, .aload_n 0, 1),
  (229, .getfield 103, 3),
  (232, .iconst 1, 1),
  (233, .aaload, 1),
  (234, .iload 9, 2),
  (236, .ldc_w 261, 3),
  (239, .isub, 1),
  (240, .iconst 4, 1),
  (241, .idiv, 1),
  (242, .iaload, 1),
  (243, .invokevirtual 288, 3),
  (246, .iload 8, 2),
  (248, .ireturn, 1),
  (249, .iload 5, 2),
  (251, .iload_n 2, 1),
  (252, .bipush 25, 2),
  (254, .ishr, 1),
  (255, .iconst 5, 1),
  (256, .ishl, 1),
  (257, .iload 4, 2),
  (259, .ior, 1),
  (260, .iadd, 1),
  (261, .istore 9, 2),
  (263, .iload 9, 2),
  (265, .invokestatic 273, 3),
  (268, .ifCond .ne 5, 3),
  (271, .iconst (-1), 1),
  (272, .ireturn, 1),
  (273, .aload_n 0, 1),
  (274, .getfield 103, 3),
  (277, .iconst 1, 1),
  (278, .aaload, 1),
  (279, .iload 9, 2),
  (281, .ldc_w 261, 3),
  (284, .isub, 1),
  (285, .iconst 4, 1),
  (286, .idiv, 1),
  (287, .iload 6, 2),
  (289, .iastore, 1),
  (290, .iload 8, 2),
  (292, .ireturn, 1),
  (293, .iload 7, 2),
  (295, .iload 5, 2),
  (297, .iload 6, 2),
  (299, .invokestatic 276, 3),
  (302, .ifCond .eq 40, 3),
  (305, .iload_n 1, 1),
  (306, .iload_n 2, 1),
  (307, .bipush 31, 2),
  (309, .ishr, 1),
  (310, .bipush 12, 2),
  (312, .ishl, 1),
  (313, .iload_n 2, 1),
  (314, .iconst 4, 1),
  (315, .ishl, 1),
  (316, .sipush 2048, 3),
  (319, .iand, 1),
  (320, .ior, 1),
  (321, .iload_n 2, 1),
  (322, .bipush 20, 2),
  (324, .ishr, 1),
  (325, .sipush 2016, 3),
  (328, .iand, 1),
  (329, .ior, 1),
  (330, .iload_n 2, 1),
  (331, .bipush 7, 2),
  (333, .ishr, 1),
  (334, .bipush 30, 2),
  (336, .iand, 1),
  (337, .ior, 1),
  (338, .iadd, 1),
  (339, .goto 5, 3),
  (342, .iload 8, 2),
  (344, .ireturn, 1),
  (345, .aload_n 0, 1),
  (346, .iload 4, 2),
  (348, .iload 8, 2),
  (350, .invokevirtual 288, 3),
  (353, .iload_n 1, 1),
  (354, .iload_n 2, 1),
  (355, .bipush 31, 2),
  (357, .ishr, 1),
  (358, .bipush 20, 2),
  (360, .ishl, 1),
  (361, .iload_n 2, 1),
  (362, .ldc 228, 2),
  (364, .iand, 1),
  (365, .ior, 1),
  (366, .iload_n 2, 1),
  (367, .bipush 9, 2),
  (369, .ishr, 1),
  (370, .sipush 2048, 3),
  (373, .iand, 1),
  (374, .ior, 1),
  (375, .iload_n 2, 1),
  (376, .bipush 20, 2),
  (378, .ishr, 1),
  (379, .sipush 2046, 3),
  (382, .iand, 1),
  (383, .ior, 1),
  (384, .iadd, 1),
  (385, .ireturn, 1),
  (386, .iload 5, 2),
  (388, .iload_n 2, 1),
  (389, .bipush 20, 2),
  (391, .ishr, 1),
  (392, .iadd, 1),
  (393, .bipush (-2), 2),
  (395, .iand, 1),
  (396, .istore 9, 2),
  (398, .aload_n 0, 1),
  (399, .iload 4, 2),
  (401, .iload 8, 2),
  (403, .invokevirtual 288, 3),
  (406, .iload 9, 2),
  (408, .ireturn, 1),
  (409, .aload_n 0, 1),
  (410, .iconst 1, 1),
  (411, .aload_n 3, 1),
  (412, .bipush 10, 2),
  (414, .iaload, 1),
  (415, .invokevirtual 279, 3),
  (418, .iload 8, 2),
  (420, .ireturn, 1)],
  [(100, 36, [9]), (103, 37, [9])], [(261, 65536), (228, 1044480)], [], ⟨2, 0, 0, 44⟩)
theorem okX12_does_ : am_Mok mX12_does_ := am_Mok.of [1348, 1349] [1620, 1548] [] (by decide +kernel)
def mX12_made : am_M := (yX12_made, cX12_made, 4, (Option.some Jvm.ClassFile.FieldType.int),
  [(0, .iload_n 0, 1),
  (1, .tableswitch 119 0 6 #[43, 58, 65, 76, 90, 94, 115], 43),
  (44, .iload_n 1, 1),
  (45, .iconst 1, 1),
  (46, .if_icmp .ne 9, 3),
  (49, .iload_n 2, 1),
  (50, .iload_n 3, 1),
  (51, .isub, 1),
  (52, .goto 6, 3),
  (55, .iload_n 2, 1),
  (56, .iload_n 3, 1),
  (57, .iadd, 1),
  (58, .ireturn, 1),
  (59, .iload_n 2, 1),
  (60, .iload_n 3, 1),
  (61, .bipush 31, 2),
  (63, .iand, 1),
  (64, .ishl, 1),
  (65, .ireturn, 1),
  (66, .iload_n 2, 1),
  (67, .iload_n 3, 1),
  (68, .if_icmp .ge 7, 3),
  (71, .iconst 1, 1),
  (72, .goto 4, 3),
  (75, .iconst 0, 1),
  (76, .ireturn, 1),
  (77, .iload_n 2, 1),
  (78, .iload_n 3, 1),
  (79, .invokestatic 258, 3),
  (82, .ifCond .eq 7, 3),
  (85, .iconst 1, 1),
  (86, .goto 4, 3),
  (89, .iconst 0, 1),
  (90, .ireturn, 1),
  (91, .iload_n 2, 1),
  (92, .iload_n 3, 1),
  (93, .ixor, 1),
  (94, .ireturn, 1),
  (95, .iload_n 1, 1),
  (96, .iconst 1, 1),
  (97, .if_icmp .ne 12, 3),
  (100, .iload_n 2, 1),
  (101, .iload_n 3, 1),
  (102, .bipush 31, 2),
  (104, .iand, 1),
  (105, .ishr, 1),
  (106, .goto 9, 3),
  (109, .iload_n 2, 1),
  (110, .iload_n 3, 1),
  (111, .bipush 31, 2),
  (113, .iand, 1),
  (114, .iushr, 1),
  (115, .ireturn, 1),
  (116, .iload_n 2, 1),
  (117, .iload_n 3, 1),
  (118, .ior, 1),
  (119, .ireturn, 1),
  (120, .iload_n 2, 1),
  (121, .iload_n 3, 1),
  (122, .iand, 1),
  (123, .ireturn, 1)],
  [], [], [], ⟨1, 0, 0, 21⟩)
theorem okX12_made : am_Mok mX12_made := am_Mok.of [] [] [] (by decide +kernel)
def mX12_hasRun : am_M := (yX12_hasRun, cX12_hasRun, 2, (Option.some Jvm.ClassFile.FieldType.boolean),
  [(0, .iload_n 1, 1),
  (1, .iconst 0, 1),
  (2, .iconst 1, 1),
  (3, .invokestatic 119, 3),
  (6, .ifCond .eq 17, 3),
  (9, .aload_n 0, 1),
  (10, .getfield 80, 3),
  (13, .iload_n 1, 1),
  (14, .iaload, 1),
  (15, .iconst (-1), 1),
  (16, .if_icmp .eq 7, 3),
  (19, .iconst 1, 1),
  (20, .goto 4, 3),
  (23, .iconst 0, 1),
  (24, .ireturn, 1)],
  [(80, 30, [9])], [], [], ⟨1, 0, 0, 22⟩)
theorem okX12_hasRun : am_Mok mX12_hasRun := am_Mok.of [1342] [] [] (by decide +kernel)
def mX12_ran : am_M := (yX12_ran, cX12_ran, 3, (Option.some Jvm.ClassFile.FieldType.int),
  [(0, .aload_n 0, 1),
  (1, .iload_n 1, 1),
  (2, .invokevirtual 291, 3),
  (5, .ifCond .ne 5, 3),
  (8, .iconst (-1), 1),
  (9, .ireturn, 1),
  (10, .iload_n 2, 1),
  (11, .tableswitch 76 0 4 #[33, 40, 47, 54, 61], 33),
  (44, .aload_n 0, 1),
  (45, .getfield 80, 3),
  (48, .iload_n 1, 1),
  (49, .iaload, 1),
  (50, .ireturn, 1),
  (51, .aload_n 0, 1),
  (52, .getfield 83, 3),
  (55, .iload_n 1, 1),
  (56, .iaload, 1),
  (57, .ireturn, 1),
  (58, .aload_n 0, 1),
  (59, .getfield 86, 3),
  (62, .iload_n 1, 1),
  (63, .iaload, 1),
  (64, .ireturn, 1),
  (65, .aload_n 0, 1),
  (66, .getfield 89, 3),
  (69, .iload_n 1, 1),
  (70, .iaload, 1),
  (71, .ireturn, 1),
  (72, .iload_n 1, 1),
  (73, .ifCond .ne 12, 3),
  (76, .aload_n 0, 1),
  (77, .getfield 92, 3),
  (80, .iconst 0, 1),
  (81, .iaload, 1),
  (82, .goto 4, 3),
  (85, .iconst (-1), 1),
  (86, .ireturn, 1),
  (87, .iconst (-1), 1),
  (88, .ireturn, 1)],
  [(80, 30, [9]), (83, 31, [9]), (86, 32, [9]), (89, 33, [9]), (92, 34, [9])], [], [], ⟨2, 0, 0, 43⟩)
theorem okX12_ran : am_Mok mX12_ran := am_Mok.of [1342, 1343, 1344, 1345, 1346] [] [] (by decide +kernel)
def mX12_printed : am_M := (yX12_printed, cX12_printed, 3, (Option.some Jvm.ClassFile.FieldType.int),
  [(0, .aload_n 0, 1),
  (1, .iload_n 1, 1),
  (2, .invokevirtual 291, 3),
  (5, .ifCond .eq 35, 3),
  (8, .iload_n 2, 1),
  (9, .ifCond .lt 31, 3),
  (12, .iload_n 2, 1),
  (13, .sipush 200, 3),
  (16, .if_icmp .ge 24, 3),
  (19, .iload_n 2, 1),
  (20, .aload_n 0, 1),
  (21, .getfield 86, 3),
  (24, .iload_n 1, 1),
  (25, .iaload, 1),
  (26, .if_icmp .ge 14, 3),
  (29, .aload_n 0, 1),
  (30, .getfield 97, 3),
  (33, .iload_n 1, 1),
  (34, .aaload, 1),
  (35, .iload_n 2, 1),
  (36, .iaload, 1),
  (37, .goto 4, 3),
  (40, .iconst 0, 1),
  (41, .ireturn, 1)],
  [(86, 32, [9]), (97, 35, [9])], [], [], ⟨2, 0, 0, 43⟩)
theorem okX12_printed : am_Mok mX12_printed := am_Mok.of [1344, 1347] [] [] (by decide +kernel)
def mX12_register : am_M := (yX12_register, cX12_register, 3, (Option.some Jvm.ClassFile.FieldType.int),
  [(0, .aload_n 0, 1),
  (1, .iload_n 1, 1),
  (2, .invokevirtual 291, 3),
  (5, .ifCond .eq 26, 3),
  (8, .iload_n 2, 1),
  (9, .iconst 0, 1),
  (10, .bipush 31, 2),
  (12, .invokestatic 119, 3),
  (15, .ifCond .eq 16, 3),
  (18, .iload_n 1, 1),
  (19, .ifCond .ne 14, 3),
  (22, .aload_n 0, 1),
  (23, .getfield 106, 3),
  (26, .iload_n 2, 1),
  (27, .iaload, 1),
  (28, .ifCond .eq 5, 3),
  (31, .iconst 0, 1),
  (32, .ireturn, 1),
  (33, .aload_n 0, 1),
  (34, .getfield 100, 3),
  (37, .iload_n 1, 1),
  (38, .aaload, 1),
  (39, .iload_n 2, 1),
  (40, .iaload, 1),
  (41, .ireturn, 1)],
  [(106, 38, [9]), (100, 36, [9])], [], [], ⟨2, 0, 0, 43⟩)
theorem okX12_register : am_Mok mX12_register := am_Mok.of [1350, 1348] [] [] (by decide +kernel)
def mX12_memory : am_M := (yX12_memory, cX12_memory, 3, (Option.some Jvm.ClassFile.FieldType.int),
  [(0, .aload_n 0, 1),
  (1, .iload_n 1, 1),
  (2, .invokevirtual 291, 3),
  (5, .ifCond .eq 26, 3),
  (8, .iload_n 2, 1),
  (9, .iconst 0, 1),
  (10, .bipush 63, 2),
  (12, .invokestatic 119, 3),
  (15, .ifCond .eq 16, 3),
  (18, .iload_n 1, 1),
  (19, .ifCond .ne 14, 3),
  (22, .aload_n 0, 1),
  (23, .getfield 109, 3),
  (26, .iload_n 2, 1),
  (27, .iaload, 1),
  (28, .ifCond .eq 5, 3),
  (31, .iconst 0, 1),
  (32, .ireturn, 1),
  (33, .aload_n 0, 1),
  (34, .getfield 103, 3),
  (37, .iload_n 1, 1),
  (38, .aaload, 1),
  (39, .iload_n 2, 1),
  (40, .iaload, 1),
  (41, .ireturn, 1)],
  [(109, 39, [9]), (103, 37, [9])], [], [], ⟨2, 0, 0, 43⟩)
theorem okX12_memory : am_Mok mX12_memory := am_Mok.of [1351, 1349] [] [] (by decide +kernel)
def mX12_count : am_M := (yX12_count, cX12_count, 4, (Option.some Jvm.ClassFile.FieldType.int),
  [(0, .iconst 0, 1),
  (1, .istore_n 2, 1),
  (2, .iload_n 1, 1),
  (3, .tableswitch 165 0 6 #[41, 46, 51, 56, 72, 115, 131], 41),
  (44, .aload_n 0, 1),
  (45, .getfield 116, 3),
  (48, .ireturn, 1),
  (49, .aload_n 0, 1),
  (50, .getfield 132, 3),
  (53, .ireturn, 1),
  (54, .aload_n 0, 1),
  (55, .invokevirtual 165, 3),
  (58, .ireturn, 1),
  (59, .aload_n 0, 1),
  (60, .getfield 135, 3),
  (63, .ifCond .eq 10, 3),
  (66, .aload_n 0, 1),
  (67, .getfield 195, 3),
  (70, .goto 4, 3),
  (73, .iconst 0, 1),
  (74, .ireturn, 1),
  (75, .iconst 0, 1),
  (76, .istore_n 3, 1),
  (77, .aload_n 0, 1),
  (78, .getfield 135, 3),
  (81, .ifCond .eq 35, 3),
  (84, .iload_n 3, 1),
  (85, .aload_n 0, 1),
  (86, .getfield 179, 3),
  (89, .if_icmp .ge 27, 3),
  (92, .iload_n 2, 1),
  (93, .aload_n 0, 1),
  (94, .getfield 31, 3),
  (97, .iload_n 3, 1),
  (98, .iaload, 1),
  (99, .iload_n 3, 1),
  (100, .if_icmp .ne 7, 3),
  (103, .iconst 1, 1),
  (104, .goto 4, 3),
  (107, .iconst 0, 1),
  (108, .iadd, 1),
  (109, .istore_n 2, 1),
  (110, .iinc 3 1, 3),
  (113, .goto (-36), 3),
  (116, .iload_n 2, 1),
  (117, .ireturn, 1),
  (118, .aload_n 0, 1),
  (119, .getfield 135, 3),
  (122, .ifCond .eq 10, 3),
  (125, .aload_n 0, 1),
  (126, .getfield 182, 3),
  (129, .goto 4, 3),
  (132, .iconst 0, 1),
  (133, .ireturn, 1),
  (134, .iconst 0, 1),
  (135, .istore_n 3, 1),
  (136, .aload_n 0, 1),
  (137, .getfield 135, 3),
  (140, .ifCond .eq 26, 3),
  (143, .iload_n 3, 1),
  (144, .aload_n 0, 1),
  (145, .getfield 182, 3),
  (148, .if_icmp .ge 18, 3),
  (151, .iload_n 2, 1),
  (152, .aload_n 0, 1),
  (153, .getfield 46, 3),
  (156, .iload_n 3, 1),
  (157, .iaload, 1),
  (158, .iadd, 1),
  (159, .istore_n 2, 1),
  (160, .iinc 3 1, 3),
  (163, .goto (-27), 3),
  (166, .iload_n 2, 1),
  (167, .ireturn, 1),
  (168, .iconst (-1), 1),
  (169, .ireturn, 1)],
  [(116, 1, [9]), (132, 2, [9]), (135, 10, [9]), (195, 12, [9]), (179, 11, [9]), (31, 14, [9]), (182, 13, [9]), (46, 19, [9])], [], [], ⟨4, 0, 0, 93⟩)
theorem okX12_count : am_Mok mX12_count := am_Mok.of [1313, 1314, 1322, 1324, 1323, 1326, 1325, 1331] [] [] (by decide +kernel)
end
section
def mX1_init : am_M := (yX1_init, cX1_init, 1, (Option.none : Option Jvm.ClassFile.FieldType),
  [(0, .aload_n 0, 1),
  (1, .invokespecial 5, 3),
  (4, .aload_n 0, 1),
  (5, .sipush 600, 3),
  (8, .newarray .int, 2),
  (10, .putfield 13, 3),
  (13, .aload_n 0, 1),
  (14, .bipush 24, 2),
  (16, .newarray .int, 2),
  (18, .putfield 17, 3),
  (21, .aload_n 0, 1),
  (22, .bipush 24, 2),
  (24, .newarray .int, 2),
  (26, .putfield 20, 3),
  (29, .return_, 1)],
  [(13, 0, [1]), (17, 1, [1]), (20, 2, [1])], [], [], ⟨1, 3, 648, 16⟩)
theorem okX1_init : am_Mok mX1_init := am_Mok.of [180, 181, 182] [] [] (by decide +kernel)
def mX1_drop : am_M := (yX1_drop, cX1_drop, 1, (Option.none : Option Jvm.ClassFile.FieldType),
  [(0, .aload_n 0, 1),
  (1, .iconst 0, 1),
  (2, .putfield 23, 3),
  (5, .aload_n 0, 1),
  (6, .iconst 0, 1),
  (7, .putfield 27, 3),
  (10, .return_, 1)],
  [(23, 3, [1]), (27, 4, [1])], [], [], ⟨0, 0, 0, 0⟩)
theorem okX1_drop : am_Mok mX1_drop := am_Mok.of [183, 184] [] [] (by decide +kernel)
def mX1_begin : am_M := (yX1_begin, cX1_begin, 2, (Option.none : Option Jvm.ClassFile.FieldType),
  [(0, .aload_n 0, 1),
  (1, .iconst 0, 1),
  (2, .putfield 23, 3),
  (5, .aload_n 0, 1),
  (6, .iload_n 1, 1),
  (7, .bipush 24, 2),
  (9, .invokestatic 30, 3),
  (12, .putfield 27, 3),
  (15, .return_, 1)],
  [(23, 3, [1]), (27, 4, [1])], [], [], ⟨1, 0, 0, 17⟩)
theorem okX1_begin : am_Mok mX1_begin := am_Mok.of [183, 184] [] [] (by decide +kernel)
def mX1_size : am_M := (yX1_size, cX1_size, 1, (Option.some Jvm.ClassFile.FieldType.int),
  [(0, .aload_n 0, 1),
  (1, .getfield 23, 3),
  (4, .ireturn, 1)],
  [(23, 3, [1])], [], [], ⟨0, 0, 0, 0⟩)
theorem okX1_size : am_Mok mX1_size := am_Mok.of [183] [] [] (by decide +kernel)
def mX1_hasFunction : am_M := (yX1_hasFunction, cX1_hasFunction, 2, (Option.some Jvm.ClassFile.FieldType.boolean),
  [(0, .iload_n 1, 1),
  (1, .ifCond .lt 15, 3),
  (4, .iload_n 1, 1),
  (5, .aload_n 0, 1),
  (6, .getfield 27, 3),
  (9, .if_icmp .ge 7, 3),
  (12, .iconst 1, 1),
  (13, .goto 4, 3),
  (16, .iconst 0, 1),
  (17, .ireturn, 1)],
  [(27, 4, [1])], [], [], ⟨0, 0, 0, 0⟩)
theorem okX1_hasFunction : am_Mok mX1_hasFunction := am_Mok.of [184] [] [] (by decide +kernel)
def mX1_setBody : am_M := (yX1_setBody, cX1_setBody, 3, (Option.none : Option Jvm.ClassFile.FieldType),
  [(0, .aload_n 0, 1),
  (1, .iload_n 1, 1),
  (2, .invokevirtual 36, 3),
  (5, .ifCond .eq 10, 3),
  (8, .aload_n 0, 1),
  (9, .getfield 17, 3),
  (12, .iload_n 1, 1),
  (13, .iload_n 2, 1),
  (14, .iastore, 1),
  (15, .return_, 1)],
  [(17, 1, [1])], [], [], ⟨1, 0, 0, 21⟩)
theorem okX1_setBody : am_Mok mX1_setBody := am_Mok.of [181] [] [] (by decide +kernel)
def mX1_setFirstWord : am_M := (yX1_setFirstWord, cX1_setFirstWord, 3, (Option.none : Option Jvm.ClassFile.FieldType),
  [(0, .aload_n 0, 1),
  (1, .iload_n 1, 1),
  (2, .invokevirtual 36, 3),
  (5, .ifCond .eq 10, 3),
  (8, .aload_n 0, 1),
  (9, .getfield 20, 3),
  (12, .iload_n 1, 1),
  (13, .iload_n 2, 1),
  (14, .iastore, 1),
  (15, .return_, 1)],
  [(20, 2, [1])], [], [], ⟨1, 0, 0, 21⟩)
theorem okX1_setFirstWord : am_Mok mX1_setFirstWord := am_Mok.of [182] [] [] (by decide +kernel)
def mX1_bodyOf : am_M := (yX1_bodyOf, cX1_bodyOf, 2, (Option.some Jvm.ClassFile.FieldType.int),
  [(0, .aload_n 0, 1),
  (1, .iload_n 1, 1),
  (2, .invokevirtual 36, 3),
  (5, .ifCond .eq 12, 3),
  (8, .aload_n 0, 1),
  (9, .getfield 17, 3),
  (12, .iload_n 1, 1),
  (13, .iaload, 1),
  (14, .goto 4, 3),
  (17, .iconst (-1), 1),
  (18, .ireturn, 1)],
  [(17, 1, [1])], [], [], ⟨1, 0, 0, 21⟩)
theorem okX1_bodyOf : am_Mok mX1_bodyOf := am_Mok.of [181] [] [] (by decide +kernel)
def mX1_isBody : am_M := (yX1_isBody, cX1_isBody, 2, (Option.some Jvm.ClassFile.FieldType.boolean),
  [(0, .aload_n 0, 1),
  (1, .iload_n 1, 1),
  (2, .invokevirtual 36, 3),
  (5, .ifCond .eq 17, 3),
  (8, .aload_n 0, 1),
  (9, .getfield 17, 3),
  (12, .iload_n 1, 1),
  (13, .iaload, 1),
  (14, .iload_n 1, 1),
  (15, .if_icmp .ne 7, 3),
  (18, .iconst 1, 1),
  (19, .goto 4, 3),
  (22, .iconst 0, 1),
  (23, .ireturn, 1)],
  [(17, 1, [1])], [], [], ⟨1, 0, 0, 21⟩)
theorem okX1_isBody : am_Mok mX1_isBody := am_Mok.of [181] [] [] (by decide +kernel)
def mX1_bodies : am_M := (yX1_bodies, cX1_bodies, 3, (Option.some Jvm.ClassFile.FieldType.int),
  [(0, .iconst 0, 1),
  (1, .istore_n 1, 1),
  (2, .iconst 0, 1),
  (3, .istore_n 2, 1),
  (4, .iload_n 2, 1),
  (5, .aload_n 0, 1),
  (6, .getfield 27, 3),
  (9, .if_icmp .ge 20, 3),
  (12, .aload_n 0, 1),
  (13, .iload_n 2, 1),
  (14, .invokevirtual 40, 3),
  (17, .ifCond .eq 6, 3),
  (20, .iinc 1 1, 3),
  (23, .iinc 2 1, 3),
  (26, .goto (-22), 3),
  (29, .iload_n 1, 1),
  (30, .ireturn, 1)],
  [(27, 4, [1])], [], [], ⟨2, 0, 0, 42⟩)
theorem okX1_bodies : am_Mok mX1_bodies := am_Mok.of [184] [] [] (by decide +kernel)
def mX1_firstWordOf : am_M := (yX1_firstWordOf, cX1_firstWordOf, 2, (Option.some Jvm.ClassFile.FieldType.int),
  [(0, .aload_n 0, 1),
  (1, .iload_n 1, 1),
  (2, .invokevirtual 36, 3),
  (5, .ifCond .eq 12, 3),
  (8, .aload_n 0, 1),
  (9, .getfield 20, 3),
  (12, .iload_n 1, 1),
  (13, .iaload, 1),
  (14, .goto 4, 3),
  (17, .iconst (-1), 1),
  (18, .ireturn, 1)],
  [(20, 2, [1])], [], [], ⟨1, 0, 0, 21⟩)
theorem okX1_firstWordOf : am_Mok mX1_firstWordOf := am_Mok.of [182] [] [] (by decide +kernel)
def mX1_addressOf : am_M := (yX1_addressOf, cX1_addressOf, 2, (Option.some Jvm.ClassFile.FieldType.int),
  [(0, .aload_n 0, 1),
  (1, .iload_n 1, 1),
  (2, .invokevirtual 36, 3),
  (5, .ifCond .eq 15, 3),
  (8, .aload_n 0, 1),
  (9, .getfield 20, 3),
  (12, .iload_n 1, 1),
  (13, .iaload, 1),
  (14, .invokestatic 43, 3),
  (17, .goto 4, 3),
  (20, .iconst (-1), 1),
  (21, .ireturn, 1)],
  [(20, 2, [1])], [], [], ⟨1, 0, 0, 21⟩)
theorem okX1_addressOf : am_Mok mX1_addressOf := am_Mok.of [182] [] [] (by decide +kernel)
def mX1_address : am_M := (yX1_address, cX1_address, 1, (Option.some Jvm.ClassFile.FieldType.int),
  [(0, .sipush 4096, 3),
  (3, .iconst 4, 1),
  (4, .iload_n 0, 1),
  (5, .imul, 1),
  (6, .iadd, 1),
  (7, .ireturn, 1)],
  [], [], [], ⟨0, 0, 0, 0⟩)
theorem okX1_address : am_Mok mX1_address := am_Mok.of [] [] [] (by decide +kernel)
def mX1_indexAt : am_M := (yX1_indexAt, cX1_indexAt, 3, (Option.some Jvm.ClassFile.FieldType.int),
  [(0, .iload_n 1, 1),
  (1, .sipush 4096, 3),
  (4, .isub, 1),
  (5, .iconst 2, 1),
  (6, .ishr, 1),
  (7, .istore_n 2, 1),
  (8, .iload_n 1, 1),
  (9, .iconst 3, 1),
  (10, .iand, 1),
  (11, .ifCond .ne 19, 3),
  (14, .iload_n 2, 1),
  (15, .ifCond .lt 15, 3),
  (18, .iload_n 2, 1),
  (19, .aload_n 0, 1),
  (20, .getfield 23, 3),
  (23, .if_icmp .ge 7, 3),
  (26, .iload_n 2, 1),
  (27, .goto 4, 3),
  (30, .iconst (-1), 1),
  (31, .ireturn, 1)],
  [(23, 3, [1])], [], [], ⟨0, 0, 0, 0⟩)
theorem okX1_indexAt : am_Mok mX1_indexAt := am_Mok.of [183] [] [] (by decide +kernel)
def mX1_wordAt : am_M := (yX1_wordAt, cX1_wordAt, 2, (Option.some Jvm.ClassFile.FieldType.int),
  [(0, .iload_n 1, 1),
  (1, .ifCond .lt 20, 3),
  (4, .iload_n 1, 1),
  (5, .aload_n 0, 1),
  (6, .getfield 23, 3),
  (9, .if_icmp .ge 12, 3),
  (12, .aload_n 0, 1),
  (13, .getfield 13, 3),
  (16, .iload_n 1, 1),
  (17, .iaload, 1),
  (18, .goto 4, 3),
  (21, .iconst 0, 1),
  (22, .ireturn, 1)],
  [(23, 3, [1]), (13, 0, [1])], [], [], ⟨0, 0, 0, 0⟩)
theorem okX1_wordAt : am_Mok mX1_wordAt := am_Mok.of [183, 180] [] [] (by decide +kernel)
def mX1_append : am_M := (yX1_append, cX1_append, 2, (Option.none : Option Jvm.ClassFile.FieldType),
  [(0, .aload_n 0, 1),
  (1, .getfield 23, 3),
  (4, .sipush 600, 3),
  (7, .if_icmp .ge 23, 3),
  (10, .aload_n 0, 1),
  (11, .getfield 13, 3),
  (14, .aload_n 0, 1),
  (15, .getfield 23, 3),
  (18, .iload_n 1, 1),
  (19, .iastore, 1),
  (20, .aload_n 0, 1),
  (21, .dup, 1),
  (22, .getfield 23, 3),
  (25, .iconst 1, 1),
  (26, .iadd, 1),
  (27, .putfield 23, 3),
  (30, .return_, 1)],
  [(23, 3, [1]), (13, 0, [1])], [], [], ⟨0, 0, 0, 0⟩)
theorem okX1_append : am_Mok mX1_append := am_Mok.of [183, 180] [] [] (by decide +kernel)
end
section
def mX2_init : am_M := (yX2_init, cX2_init, 2, (Option.none : Option Jvm.ClassFile.FieldType),
  [(0, .aload_n 0, 1),
  (1, .invokespecial 3, 3),
  (4, .aload_n 0, 1),
  (5, .bipush 32, 2),
  (7, .newarray .int, 2),
  (9, .putfield 11, 3),
  (12, .aload_n 0, 1),
  (13, .bipush 64, 2),
  (15, .newarray .int, 2),
  (17, .putfield 17, 3),
  (20, .aload_n 0, 1),
  (21, .aload_n 1, 1),
  (22, .putfield 20, 3),
  (25, .return_, 1)],
  [(11, 6, [2]), (17, 7, [2]), (20, 5, [2])], [], [], ⟨2, 3, 296, 36⟩)
theorem okX2_init : am_Mok mX2_init := am_Mok.of [374, 375, 373] [] [] (by decide +kernel)
def mX2_isReady : am_M := (yX2_isReady, cX2_isReady, 1, (Option.some Jvm.ClassFile.FieldType.boolean),
  [(0, .aload_n 0, 1),
  (1, .getfield 20, 3),
  (4, .invokevirtual 24, 3),
  (7, .ifCond .le 7, 3),
  (10, .iconst 1, 1),
  (11, .goto 4, 3),
  (14, .iconst 0, 1),
  (15, .ireturn, 1)],
  [(20, 5, [2])], [], [], ⟨1, 0, 0, 20⟩)
theorem okX2_isReady : am_Mok mX2_isReady := am_Mok.of [373] [] [] (by decide +kernel)
def mX2_restart : am_M := (yX2_restart, cX2_restart, 1, (Option.none : Option Jvm.ClassFile.FieldType),
  [(0, .aload_n 0, 1),
  (1, .getfield 11, 3),
  (4, .iconst 0, 1),
  (5, .invokestatic 30, 3),
  (8, .aload_n 0, 1),
  (9, .getfield 17, 3),
  (12, .iconst 0, 1),
  (13, .invokestatic 30, 3),
  (16, .aload_n 0, 1),
  (17, .aload_n 0, 1),
  (18, .getfield 20, 3),
  (21, .aload_n 0, 1),
  (22, .getfield 20, 3),
  (25, .iconst 0, 1),
  (26, .invokevirtual 36, 3),
  (29, .invokevirtual 40, 3),
  (32, .putfield 43, 3),
  (35, .return_, 1)],
  [(11, 6, [2]), (17, 7, [2]), (20, 5, [2]), (43, 8, [2])], [], [], ⟨2, 0, 0, 42⟩)
theorem okX2_restart : am_Mok mX2_restart := am_Mok.of [374, 375, 373, 376] [] [] (by decide +kernel)
def mX2_where : am_M := (yX2_where, cX2_where, 1, (Option.some Jvm.ClassFile.FieldType.int),
  [(0, .aload_n 0, 1),
  (1, .getfield 43, 3),
  (4, .ireturn, 1)],
  [(43, 8, [2])], [], [], ⟨0, 0, 0, 0⟩)
theorem okX2_where : am_Mok mX2_where := am_Mok.of [376] [] [] (by decide +kernel)
def mX2_whichPlace : am_M := (yX2_whichPlace, cX2_whichPlace, 1, (Option.some Jvm.ClassFile.FieldType.int),
  [(0, .iconst (-1), 1),
  (1, .ireturn, 1)],
  [], [], [], ⟨0, 0, 0, 0⟩)
theorem okX2_whichPlace : am_Mok mX2_whichPlace := am_Mok.of [] [] [] (by decide +kernel)
def mX2_registerAt : am_M := (yX2_registerAt, cX2_registerAt, 2, (Option.some Jvm.ClassFile.FieldType.int),
  [(0, .iload_n 1, 1),
  (1, .invokestatic 47, 3),
  (4, .ifCond .eq 12, 3),
  (7, .aload_n 0, 1),
  (8, .getfield 11, 3),
  (11, .iload_n 1, 1),
  (12, .iaload, 1),
  (13, .goto 4, 3),
  (16, .iconst 0, 1),
  (17, .ireturn, 1)],
  [(11, 6, [2])], [], [], ⟨1, 0, 0, 20⟩)
theorem okX2_registerAt : am_Mok mX2_registerAt := am_Mok.of [374] [] [] (by decide +kernel)
def mX2_memoryAt : am_M := (yX2_memoryAt, cX2_memoryAt, 2, (Option.some Jvm.ClassFile.FieldType.int),
  [(0, .iload_n 1, 1),
  (1, .invokestatic 51, 3),
  (4, .ifCond .eq 12, 3),
  (7, .aload_n 0, 1),
  (8, .getfield 17, 3),
  (11, .iload_n 1, 1),
  (12, .iaload, 1),
  (13, .goto 4, 3),
  (16, .iconst 0, 1),
  (17, .ireturn, 1)],
  [(17, 7, [2])], [], [], ⟨1, 0, 0, 20⟩)
theorem okX2_memoryAt : am_Mok mX2_memoryAt := am_Mok.of [375] [] [] (by decide +kernel)
def mX2_step : am_M := (yX2_step, cX2_step, 4, (Option.some Jvm.ClassFile.FieldType.int),
  [(0, .aload_n 0, 1),
  (1, .getfield 20, 3),
  (4, .aload_n 0, 1),
  (5, .getfield 43, 3),
  (8, .invokevirtual 54, 3),
  (11, .istore_n 1, 1),
  (12, .iload_n 1, 1),
  (13, .iconst (-1), 1),
  (14, .if_icmp .ne 5, 3),
  (17, .iconst 2, 1),
  (18, .ireturn, 1),
  (19, .aload_n 0, 1),
  (20, .getfield 20, 3),
  (23, .iload_n 1, 1),
  (24, .invokevirtual 57, 3),
  (27, .istore_n 2, 1),
  (28, .iload_n 2, 1),
  (29, .invokestatic 60, 3),
  (32, .istore_n 3, 1),
  (33, .iload_n 2, 1),
  (34, .invokestatic 65, 3),
  (37, .lookupswitch 184 #[(3, 116), (19, 94), (35, 122), (51, 83), (55, 105), (99, 128), (103, 149), (111, 134), (115, 168)], 83),
  (120, .aload_n 0, 1),
  (121, .iload_n 3, 1),
  (122, .aload_n 0, 1),
  (123, .iload_n 2, 1),
  (124, .invokevirtual 68, 3),
  (127, .invokevirtual 71, 3),
  (130, .ireturn, 1),
  (131, .aload_n 0, 1),
  (132, .iload_n 3, 1),
  (133, .aload_n 0, 1),
  (134, .iload_n 2, 1),
  (135, .invokevirtual 75, 3),
  (138, .invokevirtual 71, 3),
  (141, .ireturn, 1),
  (142, .aload_n 0, 1),
  (143, .iload_n 3, 1),
  (144, .iload_n 2, 1),
  (145, .sipush (-4096), 3),
  (148, .iand, 1),
  (149, .invokevirtual 71, 3),
  (152, .ireturn, 1),
  (153, .aload_n 0, 1),
  (154, .iload_n 2, 1),
  (155, .invokevirtual 78, 3),
  (158, .ireturn, 1),
  (159, .aload_n 0, 1),
  (160, .iload_n 2, 1),
  (161, .invokevirtual 81, 3),
  (164, .ireturn, 1),
  (165, .aload_n 0, 1),
  (166, .iload_n 2, 1),
  (167, .invokevirtual 84, 3),
  (170, .ireturn, 1),
  (171, .aload_n 0, 1),
  (172, .iload_n 3, 1),
  (173, .aload_n 0, 1),
  (174, .getfield 43, 3),
  (177, .iload_n 2, 1),
  (178, .invokestatic 87, 3),
  (181, .iadd, 1),
  (182, .invokevirtual 90, 3),
  (185, .ireturn, 1),
  (186, .aload_n 0, 1),
  (187, .iload_n 3, 1),
  (188, .aload_n 0, 1),
  (189, .iload_n 2, 1),
  (190, .invokevirtual 93, 3),
  (193, .iload_n 2, 1),
  (194, .invokestatic 96, 3),
  (197, .iadd, 1),
  (198, .bipush (-2), 2),
  (200, .iand, 1),
  (201, .invokevirtual 90, 3),
  (204, .ireturn, 1),
  (205, .aload_n 0, 1),
  (206, .aload_n 0, 1),
  (207, .getfield 11, 3),
  (210, .bipush 10, 2),
  (212, .iaload, 1),
  (213, .invokevirtual 99, 3),
  (216, .aload_n 0, 1),
  (217, .invokevirtual 103, 3),
  (220, .ireturn, 1),
  (221, .iconst 2, 1),
  (222, .ireturn, 1)],
  [(20, 5, [2]), (43, 8, [2]), (11, 6, [2])], [], [], ⟨4, 0, 0, 86⟩)
theorem okX2_step : am_Mok mX2_step := am_Mok.of [373, 376, 374] [] [] (by decide +kernel)
def mX2_calculateByRegisters : am_M := (yX2_calculateByRegisters, cX2_calculateByRegisters, 3, (Option.some Jvm.ClassFile.FieldType.int),
  [(0, .iload_n 1, 1),
  (1, .invokestatic 106, 3),
  (4, .istore_n 2, 1),
  (5, .iload_n 2, 1),
  (6, .iload_n 1, 1),
  (7, .invokestatic 109, 3),
  (10, .aload_n 0, 1),
  (11, .iload_n 1, 1),
  (12, .invokevirtual 93, 3),
  (15, .aload_n 0, 1),
  (16, .iload_n 1, 1),
  (17, .invokevirtual 112, 3),
  (20, .invokestatic 115, 3),
  (23, .ireturn, 1)],
  [], [], [], ⟨2, 0, 0, 44⟩)
theorem okX2_calculateByRegisters : am_Mok mX2_calculateByRegisters := am_Mok.of [] [] [] (by decide +kernel)
def mX2_calculateByImmediate : am_M := (yX2_calculateByImmediate, cX2_calculateByImmediate, 4, (Option.some Jvm.ClassFile.FieldType.int),
  [(0, .iload_n 1, 1),
  (1, .invokestatic 106, 3),
  (4, .istore_n 2, 1),
  (5, .iload_n 2, 1),
  (6, .iconst 5, 1),
  (7, .if_icmp .ne 14, 3),
  (10, .iload_n 1, 1),
  (11, .invokestatic 109, 3),
  (14, .ifCond .eq 7, 3),
  (17, .iconst 1, 1),
  (18, .goto 4, 3),
  (21, .iconst 0, 1),
  (22, .istore_n 3, 1),
  (23, .iload_n 2, 1),
  (24, .iload_n 3, 1),
  (25, .aload_n 0, 1),
  (26, .iload_n 1, 1),
  (27, .invokevirtual 93, 3),
  (30, .iload_n 1, 1),
  (31, .invokestatic 96, 3),
  (34, .invokestatic 115, 3),
  (37, .ireturn, 1)],
  [], [], [], ⟨2, 0, 0, 44⟩)
theorem okX2_calculateByImmediate : am_Mok mX2_calculateByImmediate := am_Mok.of [] [] [] (by decide +kernel)
def mX2_load : am_M := (yX2_load, cX2_load, 3, (Option.some Jvm.ClassFile.FieldType.int),
  [(0, .aload_n 0, 1),
  (1, .iload_n 1, 1),
  (2, .invokevirtual 93, 3),
  (5, .iload_n 1, 1),
  (6, .invokestatic 96, 3),
  (9, .iadd, 1),
  (10, .invokestatic 119, 3),
  (13, .istore_n 2, 1),
  (14, .iload_n 2, 1),
  (15, .invokestatic 51, 3),
  (18, .ifCond .ne 5, 3),
  (21, .iconst 2, 1),
  (22, .ireturn, 1),
  (23, .aload_n 0, 1),
  (24, .iload_n 1, 1),
  (25, .invokestatic 60, 3),
  (28, .aload_n 0, 1),
  (29, .getfield 17, 3),
  (32, .iload_n 2, 1),
  (33, .iaload, 1),
  (34, .invokevirtual 71, 3),
  (37, .ireturn, 1)],
  [(17, 7, [2])], [], [], ⟨3, 0, 0, 64⟩)
theorem okX2_load : am_Mok mX2_load := am_Mok.of [375] [] [] (by decide +kernel)
def mX2_store : am_M := (yX2_store, cX2_store, 3, (Option.some Jvm.ClassFile.FieldType.int),
  [(0, .aload_n 0, 1),
  (1, .iload_n 1, 1),
  (2, .invokevirtual 93, 3),
  (5, .iload_n 1, 1),
  (6, .invokestatic 122, 3),
  (9, .iadd, 1),
  (10, .invokestatic 119, 3),
  (13, .istore_n 2, 1),
  (14, .iload_n 2, 1),
  (15, .invokestatic 51, 3),
  (18, .ifCond .ne 5, 3),
  (21, .iconst 2, 1),
  (22, .ireturn, 1),
  (23, .aload_n 0, 1),
  (24, .getfield 17, 3),
  (27, .iload_n 2, 1),
  (28, .aload_n 0, 1),
  (29, .iload_n 1, 1),
  (30, .invokevirtual 112, 3),
  (33, .iastore, 1),
  (34, .aload_n 0, 1),
  (35, .invokevirtual 103, 3),
  (38, .ireturn, 1)],
  [(17, 7, [2])], [], [], ⟨2, 0, 0, 41⟩)
theorem okX2_store : am_Mok mX2_store := am_Mok.of [375] [] [] (by decide +kernel)
def mX2_branch : am_M := (yX2_branch, cX2_branch, 2, (Option.some Jvm.ClassFile.FieldType.int),
  [(0, .iload_n 1, 1),
  (1, .invokestatic 106, 3),
  (4, .aload_n 0, 1),
  (5, .iload_n 1, 1),
  (6, .invokevirtual 93, 3),
  (9, .aload_n 0, 1),
  (10, .iload_n 1, 1),
  (11, .invokevirtual 112, 3),
  (14, .invokestatic 125, 3),
  (17, .ifCond .eq 17, 3),
  (20, .aload_n 0, 1),
  (21, .aload_n 0, 1),
  (22, .getfield 43, 3),
  (25, .iload_n 1, 1),
  (26, .invokestatic 129, 3),
  (29, .iadd, 1),
  (30, .invokevirtual 132, 3),
  (33, .ireturn, 1),
  (34, .aload_n 0, 1),
  (35, .invokevirtual 103, 3),
  (38, .ireturn, 1)],
  [(43, 8, [2])], [], [], ⟨2, 0, 0, 43⟩)
theorem okX2_branch : am_Mok mX2_branch := am_Mok.of [376] [] [] (by decide +kernel)
def mX2_jump : am_M := (yX2_jump, cX2_jump, 3, (Option.some Jvm.ClassFile.FieldType.int),
  [(0, .aload_n 0, 1),
  (1, .iload_n 1, 1),
  (2, .aload_n 0, 1),
  (3, .getfield 43, 3),
  (6, .iconst 4, 1),
  (7, .iadd, 1),
  (8, .invokevirtual 135, 3),
  (11, .aload_n 0, 1),
  (12, .iload_n 2, 1),
  (13, .invokevirtual 132, 3),
  (16, .ireturn, 1)],
  [(43, 8, [2])], [], [], ⟨2, 0, 0, 42⟩)
theorem okX2_jump : am_Mok mX2_jump := am_Mok.of [376] [] [] (by decide +kernel)
def mX2_goTo : am_M := (yX2_goTo, cX2_goTo, 2, (Option.some Jvm.ClassFile.FieldType.int),
  [(0, .aload_n 0, 1),
  (1, .iload_n 1, 1),
  (2, .putfield 43, 3),
  (5, .aload_n 0, 1),
  (6, .getfield 43, 3),
  (9, .ifCond .ne 7, 3),
  (12, .iconst 0, 1),
  (13, .goto 4, 3),
  (16, .iconst 3, 1),
  (17, .ireturn, 1)],
  [(43, 8, [2])], [], [], ⟨0, 0, 0, 0⟩)
theorem okX2_goTo : am_Mok mX2_goTo := am_Mok.of [376] [] [] (by decide +kernel)
def mX2_goOn : am_M := (yX2_goOn, cX2_goOn, 1, (Option.some Jvm.ClassFile.FieldType.int),
  [(0, .aload_n 0, 1),
  (1, .aload_n 0, 1),
  (2, .getfield 43, 3),
  (5, .iconst 4, 1),
  (6, .iadd, 1),
  (7, .invokevirtual 132, 3),
  (10, .ireturn, 1)],
  [(43, 8, [2])], [], [], ⟨1, 0, 0, 21⟩)
theorem okX2_goOn : am_Mok mX2_goOn := am_Mok.of [376] [] [] (by decide +kernel)
def mX2_writeAndGoOn : am_M := (yX2_writeAndGoOn, cX2_writeAndGoOn, 3, (Option.some Jvm.ClassFile.FieldType.int),
  [(0, .aload_n 0, 1),
  (1, .iload_n 1, 1),
  (2, .iload_n 2, 1),
  (3, .invokevirtual 135, 3),
  (6, .aload_n 0, 1),
  (7, .invokevirtual 103, 3),
  (10, .ireturn, 1)],
  [], [], [], ⟨2, 0, 0, 42⟩)
theorem okX2_writeAndGoOn : am_Mok mX2_writeAndGoOn := am_Mok.of [] [] [] (by decide +kernel)
def mX2_write : am_M := (yX2_write, cX2_write, 3, (Option.none : Option Jvm.ClassFile.FieldType),
  [(0, .iload_n 1, 1),
  (1, .ifCond .eq 17, 3),
  (4, .iload_n 1, 1),
  (5, .invokestatic 47, 3),
  (8, .ifCond .eq 10, 3),
  (11, .aload_n 0, 1),
  (12, .getfield 11, 3),
  (15, .iload_n 1, 1),
  (16, .iload_n 2, 1),
  (17, .iastore, 1),
  (18, .return_, 1)],
  [(11, 6, [2])], [], [], ⟨1, 0, 0, 20⟩)
theorem okX2_write : am_Mok mX2_write := am_Mok.of [374] [] [] (by decide +kernel)
def mX2_firstIn : am_M := (yX2_firstIn, cX2_firstIn, 2, (Option.some Jvm.ClassFile.FieldType.int),
  [(0, .aload_n 0, 1),
  (1, .getfield 11, 3),
  (4, .iload_n 1, 1),
  (5, .invokestatic 139, 3),
  (8, .iaload, 1),
  (9, .ireturn, 1)],
  [(11, 6, [2])], [], [], ⟨1, 0, 0, 20⟩)
theorem okX2_firstIn : am_Mok mX2_firstIn := am_Mok.of [374] [] [] (by decide +kernel)
def mX2_secondIn : am_M := (yX2_secondIn, cX2_secondIn, 2, (Option.some Jvm.ClassFile.FieldType.int),
  [(0, .aload_n 0, 1),
  (1, .getfield 11, 3),
  (4, .iload_n 1, 1),
  (5, .invokestatic 142, 3),
  (8, .iaload, 1),
  (9, .ireturn, 1)],
  [(11, 6, [2])], [], [], ⟨1, 0, 0, 20⟩)
theorem okX2_secondIn : am_Mok mX2_secondIn := am_Mok.of [374] [] [] (by decide +kernel)
end
section
def mX3_init : am_M := (yX3_init, cX3_init, 4, (Option.none : Option Jvm.ClassFile.FieldType),
  [(0, .aload_n 0, 1),
  (1, .invokespecial 3, 3),
  (4, .aload_n 0, 1),
  (5, .sipush 300, 3),
  (8, .newarray .int, 2),
  (10, .putfield 11, 3),
  (13, .aload_n 0, 1),
  (14, .aload_n 1, 1),
  (15, .putfield 17, 3),
  (18, .aload_n 0, 1),
  (19, .aload_n 2, 1),
  (20, .putfield 21, 3),
  (23, .aload_n 0, 1),
  (24, .aload_n 3, 1),
  (25, .putfield 25, 3),
  (28, .return_, 1)],
  [(11, 3, [3]), (17, 0, [3]), (21, 1, [3]), (25, 2, [3])], [], [], ⟨1, 1, 300, 16⟩)
theorem okX3_init : am_Mok mX3_init := am_Mok.of [311, 308, 309, 310] [] [] (by decide +kernel)
def mX3_link : am_M := (yX3_link, cX3_link, 3, (Option.none : Option Jvm.ClassFile.FieldType),
  [(0, .iconst 0, 1),
  (1, .istore_n 1, 1),
  (2, .iconst 0, 1),
  (3, .istore_n 2, 1),
  (4, .iload_n 2, 1),
  (5, .aload_n 0, 1),
  (6, .getfield 17, 3),
  (9, .invokevirtual 29, 3),
  (12, .if_icmp .ge 27, 3),
  (15, .aload_n 0, 1),
  (16, .getfield 21, 3),
  (19, .iload_n 2, 1),
  (20, .invokevirtual 33, 3),
  (23, .ifCond .eq 10, 3),
  (26, .aload_n 0, 1),
  (27, .iload_n 2, 1),
  (28, .iload_n 1, 1),
  (29, .invokevirtual 39, 3),
  (32, .istore_n 1, 1),
  (33, .iinc 2 1, 3),
  (36, .goto (-32), 3),
  (39, .iconst 0, 1),
  (40, .istore_n 2, 1),
  (41, .iload_n 2, 1),
  (42, .aload_n 0, 1),
  (43, .getfield 25, 3),
  (46, .invokevirtual 43, 3),
  (49, .if_icmp .ge 31, 3),
  (52, .aload_n 0, 1),
  (53, .getfield 25, 3),
  (56, .iload_n 2, 1),
  (57, .iload_n 1, 1),
  (58, .invokevirtual 48, 3),
  (61, .iload_n 1, 1),
  (62, .aload_n 0, 1),
  (63, .getfield 25, 3),
  (66, .iload_n 2, 1),
  (67, .invokevirtual 52, 3),
  (70, .iconst 1, 1),
  (71, .iadd, 1),
  (72, .iadd, 1),
  (73, .istore_n 1, 1),
  (74, .iinc 2 1, 3),
  (77, .goto (-36), 3),
  (80, .iconst 0, 1),
  (81, .istore_n 2, 1),
  (82, .iload_n 2, 1),
  (83, .aload_n 0, 1),
  (84, .getfield 17, 3),
  (87, .invokevirtual 29, 3),
  (90, .if_icmp .ge 25, 3),
  (93, .aload_n 0, 1),
  (94, .getfield 21, 3),
  (97, .iload_n 2, 1),
  (98, .invokevirtual 33, 3),
  (101, .ifCond .eq 8, 3),
  (104, .aload_n 0, 1),
  (105, .iload_n 2, 1),
  (106, .invokevirtual 56, 3),
  (109, .iinc 2 1, 3),
  (112, .goto (-30), 3),
  (115, .iconst 0, 1),
  (116, .istore_n 2, 1),
  (117, .iload_n 2, 1),
  (118, .aload_n 0, 1),
  (119, .getfield 25, 3),
  (122, .invokevirtual 43, 3),
  (125, .if_icmp .ge 14, 3),
  (128, .aload_n 0, 1),
  (129, .iload_n 2, 1),
  (130, .invokevirtual 60, 3),
  (133, .iinc 2 1, 3),
  (136, .goto (-19), 3),
  (139, .return_, 1)],
  [(17, 0, [3]), (21, 1, [3]), (25, 2, [3])], [], [], ⟨5, 0, 0, 119⟩)
theorem okX3_link : am_Mok mX3_link := am_Mok.of [308, 309, 310] [] [] (by decide +kernel)
def mX3_layOutBody : am_M := (yX3_layOutBody, cX3_layOutBody, 8, (Option.some Jvm.ClassFile.FieldType.int),
  [(0, .aload_n 0, 1),
  (1, .getfield 21, 3),
  (4, .iload_n 1, 1),
  (5, .iload_n 2, 1),
  (6, .invokevirtual 63, 3),
  (9, .iload_n 2, 1),
  (10, .istore_n 3, 1),
  (11, .aload_n 0, 1),
  (12, .getfield 17, 3),
  (15, .iload_n 1, 1),
  (16, .invokevirtual 64, 3),
  (19, .aload_n 0, 1),
  (20, .getfield 11, 3),
  (23, .arraylength, 1),
  (24, .invokestatic 67, 3),
  (27, .istore 4, 2),
  (29, .iconst 0, 1),
  (30, .istore 5, 2),
  (32, .aload_n 0, 1),
  (33, .getfield 17, 3),
  (36, .iload_n 1, 1),
  (37, .invokevirtual 72, 3),
  (40, .istore 6, 2),
  (42, .iload 6, 2),
  (44, .iload 4, 2),
  (46, .if_icmp .ge 113, 3),
  (49, .aload_n 0, 1),
  (50, .getfield 25, 3),
  (53, .iload 6, 2),
  (55, .invokevirtual 75, 3),
  (58, .istore 7, 2),
  (60, .iload 7, 2),
  (62, .iconst (-1), 1),
  (63, .if_icmp .eq 45, 3),
  (66, .aload_n 0, 1),
  (67, .getfield 25, 3),
  (70, .aload_n 0, 1),
  (71, .getfield 25, 3),
  (74, .iload 7, 2),
  (76, .invokevirtual 78, 3),
  (79, .invokevirtual 52, 3),
  (82, .istore 5, 2),
  (84, .aload_n 0, 1),
  (85, .getfield 25, 3),
  (88, .iload 7, 2),
  (90, .iload_n 3, 1),
  (91, .invokevirtual 81, 3),
  (94, .aload_n 0, 1),
  (95, .getfield 11, 3),
  (98, .iload 6, 2),
  (100, .iload_n 3, 1),
  (101, .iastore, 1),
  (102, .iinc 3 1, 3),
  (105, .goto 38, 3),
  (108, .iload 5, 2),
  (110, .ifCond .ne 33, 3),
  (113, .aload_n 0, 1),
  (114, .getfield 11, 3),
  (117, .iload 6, 2),
  (119, .iload_n 3, 1),
  (120, .iastore, 1),
  (121, .iload_n 3, 1),
  (122, .aload_n 0, 1),
  (123, .getfield 17, 3),
  (126, .iload 6, 2),
  (128, .invokevirtual 84, 3),
  (131, .bipush 32, 2),
  (133, .if_icmp .ne 7, 3),
  (136, .iconst 2, 1),
  (137, .goto 4, 3),
  (140, .iconst 1, 1),
  (141, .iadd, 1),
  (142, .istore_n 3, 1),
  (143, .iload 5, 2),
  (145, .iconst 1, 1),
  (146, .isub, 1),
  (147, .iconst 0, 1),
  (148, .invokestatic 89, 3),
  (151, .istore 5, 2),
  (153, .iinc 6 1, 3),
  (156, .goto (-114), 3),
  (159, .iload_n 3, 1),
  (160, .ireturn, 1)],
  [(21, 1, [3]), (17, 0, [3]), (11, 3, [3]), (25, 2, [3])], [], [], ⟨2, 0, 0, 43⟩)
theorem okX3_layOutBody : am_Mok mX3_layOutBody := am_Mok.of [309, 308, 311, 310] [] [] (by decide +kernel)
def mX3_writeBody : am_M := (yX3_writeBody, cX3_writeBody, 6, (Option.none : Option Jvm.ClassFile.FieldType),
  [(0, .iconst 0, 1),
  (1, .istore_n 2, 1),
  (2, .aload_n 0, 1),
  (3, .getfield 17, 3),
  (6, .iload_n 1, 1),
  (7, .invokevirtual 72, 3),
  (10, .istore_n 3, 1),
  (11, .iload_n 3, 1),
  (12, .aload_n 0, 1),
  (13, .getfield 17, 3),
  (16, .iload_n 1, 1),
  (17, .invokevirtual 64, 3),
  (20, .if_icmp .ge 81, 3),
  (23, .aload_n 0, 1),
  (24, .getfield 25, 3),
  (27, .iload_n 3, 1),
  (28, .invokevirtual 75, 3),
  (31, .istore 4, 2),
  (33, .iload 4, 2),
  (35, .iconst (-1), 1),
  (36, .if_icmp .eq 41, 3),
  (39, .aload_n 0, 1),
  (40, .getfield 25, 3),
  (43, .iload 4, 2),
  (45, .invokevirtual 78, 3),
  (48, .istore 5, 2),
  (50, .aload_n 0, 1),
  (51, .getfield 25, 3),
  (54, .iload 5, 2),
  (56, .invokevirtual 52, 3),
  (59, .istore_n 2, 1),
  (60, .aload_n 0, 1),
  (61, .iconst 5, 1),
  (62, .aload_n 0, 1),
  (63, .getfield 25, 3),
  (66, .iload 5, 2),
  (68, .invokevirtual 92, 3),
  (71, .invokevirtual 95, 3),
  (74, .goto 13, 3),
  (77, .iload_n 2, 1),
  (78, .ifCond .ne 9, 3),
  (81, .aload_n 0, 1),
  (82, .iload_n 1, 1),
  (83, .iload_n 3, 1),
  (84, .invokevirtual 98, 3),
  (87, .iload_n 2, 1),
  (88, .iconst 1, 1),
  (89, .isub, 1),
  (90, .iconst 0, 1),
  (91, .invokestatic 89, 3),
  (94, .istore_n 2, 1),
  (95, .iinc 3 1, 3),
  (98, .goto (-87), 3),
  (101, .return_, 1)],
  [(17, 0, [3]), (25, 2, [3])], [], [], ⟨4, 0, 0, 94⟩)
theorem okX3_writeBody : am_Mok mX3_writeBody := am_Mok.of [308, 310] [] [] (by decide +kernel)
def mX3_writeRoutine : am_M := (yX3_writeRoutine, cX3_writeRoutine, 4, (Option.none : Option Jvm.ClassFile.FieldType),
  [(0, .aload_n 0, 1),
  (1, .getfield 25, 3),
  (4, .iload_n 1, 1),
  (5, .invokevirtual 101, 3),
  (8, .istore_n 2, 1),
  (9, .iconst 0, 1),
  (10, .istore_n 3, 1),
  (11, .iload_n 3, 1),
  (12, .aload_n 0, 1),
  (13, .getfield 25, 3),
  (16, .iload_n 1, 1),
  (17, .invokevirtual 52, 3),
  (20, .if_icmp .ge 16, 3),
  (23, .aload_n 0, 1),
  (24, .iload_n 2, 1),
  (25, .iload_n 3, 1),
  (26, .iadd, 1),
  (27, .invokevirtual 104, 3),
  (30, .iinc 3 1, 3),
  (33, .goto (-22), 3),
  (36, .aload_n 0, 1),
  (37, .getfield 21, 3),
  (40, .iconst 0, 1),
  (41, .iconst 5, 1),
  (42, .invokestatic 107, 3),
  (45, .invokevirtual 112, 3),
  (48, .return_, 1)],
  [(25, 2, [3]), (21, 1, [3])], [], [], ⟨3, 0, 0, 69⟩)
theorem okX3_writeRoutine : am_Mok mX3_writeRoutine := am_Mok.of [310, 309] [] [] (by decide +kernel)
def mX3_writeInstruction : am_M := (yX3_writeInstruction, cX3_writeInstruction, 5, (Option.none : Option Jvm.ClassFile.FieldType),
  [(0, .aload_n 0, 1),
  (1, .getfield 17, 3),
  (4, .iload_n 2, 1),
  (5, .invokevirtual 115, 3),
  (8, .istore_n 3, 1),
  (9, .aload_n 0, 1),
  (10, .getfield 17, 3),
  (13, .iload_n 2, 1),
  (14, .invokevirtual 84, 3),
  (17, .istore 4, 2),
  (19, .iload 4, 2),
  (21, .tableswitch 159 28 33 #[39, 53, 76, 99, 114, 144], 39),
  (60, .aload_n 0, 1),
  (61, .iconst 0, 1),
  (62, .aload_n 0, 1),
  (63, .iload_n 1, 1),
  (64, .iload_n 3, 1),
  (65, .invokevirtual 118, 3),
  (68, .invokevirtual 95, 3),
  (71, .goto 131, 3),
  (74, .aload_n 0, 1),
  (75, .iconst 1, 1),
  (76, .aload_n 0, 1),
  (77, .getfield 21, 3),
  (80, .aload_n 0, 1),
  (81, .getfield 21, 3),
  (84, .iload_n 3, 1),
  (85, .invokevirtual 121, 3),
  (88, .invokevirtual 124, 3),
  (91, .invokevirtual 95, 3),
  (94, .goto 108, 3),
  (97, .aload_n 0, 1),
  (98, .iconst 0, 1),
  (99, .aload_n 0, 1),
  (100, .getfield 21, 3),
  (103, .aload_n 0, 1),
  (104, .getfield 21, 3),
  (107, .iload_n 3, 1),
  (108, .invokevirtual 121, 3),
  (111, .invokevirtual 124, 3),
  (114, .invokevirtual 95, 3),
  (117, .goto 85, 3),
  (120, .aload_n 0, 1),
  (121, .getfield 21, 3),
  (124, .iconst 0, 1),
  (125, .iconst 1, 1),
  (126, .invokestatic 107, 3),
  (129, .invokevirtual 112, 3),
  (132, .goto 70, 3),
  (135, .aload_n 0, 1),
  (136, .iload_n 3, 1),
  (137, .aload_n 0, 1),
  (138, .getfield 21, 3),
  (141, .aload_n 0, 1),
  (142, .getfield 21, 3),
  (145, .aload_n 0, 1),
  (146, .getfield 17, 3),
  (149, .iload_n 2, 1),
  (150, .invokevirtual 125, 3),
  (153, .invokevirtual 121, 3),
  (156, .invokevirtual 128, 3),
  (159, .invokevirtual 131, 3),
  (162, .goto 40, 3),
  (165, .aload_n 0, 1),
  (166, .getfield 21, 3),
  (169, .iconst 1, 1),
  (170, .iload_n 3, 1),
  (171, .invokestatic 107, 3),
  (174, .invokevirtual 112, 3),
  (177, .goto 25, 3),
  (180, .iload 4, 2),
  (182, .invokestatic 134, 3),
  (185, .ifCond .eq 12, 3),
  (188, .aload_n 0, 1),
  (189, .iload_n 1, 1),
  (190, .iload_n 2, 1),
  (191, .invokevirtual 137, 3),
  (194, .goto 8, 3),
  (197, .aload_n 0, 1),
  (198, .iload_n 2, 1),
  (199, .invokevirtual 104, 3),
  (202, .return_, 1)],
  [(17, 0, [3]), (21, 1, [3])], [], [], ⟨3, 0, 0, 70⟩)
theorem okX3_writeInstruction : am_Mok mX3_writeInstruction := am_Mok.of [308, 309] [] [] (by decide +kernel)
def mX3_writePlain : am_M := (yX3_writePlain, cX3_writePlain, 6, (Option.none : Option Jvm.ClassFile.FieldType),
  [(0, .aload_n 0, 1),
  (1, .getfield 17, 3),
  (4, .iload_n 1, 1),
  (5, .invokevirtual 84, 3),
  (8, .istore_n 2, 1),
  (9, .aload_n 0, 1),
  (10, .getfield 17, 3),
  (13, .iload_n 1, 1),
  (14, .invokevirtual 115, 3),
  (17, .istore_n 3, 1),
  (18, .aload_n 0, 1),
  (19, .getfield 17, 3),
  (22, .iload_n 1, 1),
  (23, .invokevirtual 125, 3),
  (26, .istore 4, 2),
  (28, .aload_n 0, 1),
  (29, .getfield 17, 3),
  (32, .iload_n 1, 1),
  (33, .invokevirtual 140, 3),
  (36, .istore 5, 2),
  (38, .iload_n 2, 1),
  (39, .lookupswitch 105 #[(19, 41), (20, 57), (21, 75), (34, 93)], 41),
  (80, .aload_n 0, 1),
  (81, .getfield 21, 3),
  (84, .iload_n 3, 1),
  (85, .iload 4, 2),
  (87, .invokestatic 143, 3),
  (90, .invokevirtual 112, 3),
  (93, .goto 85, 3),
  (96, .aload_n 0, 1),
  (97, .getfield 21, 3),
  (100, .iload_n 3, 1),
  (101, .iload 4, 2),
  (103, .iload 5, 2),
  (105, .invokestatic 146, 3),
  (108, .invokevirtual 112, 3),
  (111, .goto 67, 3),
  (114, .aload_n 0, 1),
  (115, .getfield 21, 3),
  (118, .iload_n 3, 1),
  (119, .iload 4, 2),
  (121, .iload 5, 2),
  (123, .invokestatic 150, 3),
  (126, .invokevirtual 112, 3),
  (129, .goto 49, 3),
  (132, .aload_n 0, 1),
  (133, .getfield 21, 3),
  (136, .bipush 115, 2),
  (138, .invokevirtual 112, 3),
  (141, .goto 37, 3),
  (144, .aload_n 0, 1),
  (145, .getfield 21, 3),
  (148, .iload_n 2, 1),
  (149, .bipush 10, 2),
  (151, .if_icmp .ge 15, 3),
  (154, .iload_n 2, 1),
  (155, .iload_n 3, 1),
  (156, .iload 4, 2),
  (158, .iload 5, 2),
  (160, .invokestatic 153, 3),
  (163, .goto 12, 3),
  (166, .iload_n 2, 1),
  (167, .iload_n 3, 1),
  (168, .iload 4, 2),
  (170, .iload 5, 2),
  (172, .invokestatic 157, 3),
  (175, .invokevirtual 112, 3),
  (178, .return_, 1)],
  [(17, 0, [3]), (21, 1, [3])], [], [], ⟨2, 0, 0, 44⟩)
theorem okX3_writePlain : am_Mok mX3_writePlain := am_Mok.of [308, 309] [] [] (by decide +kernel)
def mX3_wordOfPlace : am_M := (yX3_wordOfPlace, cX3_wordOfPlace, 4, (Option.some Jvm.ClassFile.FieldType.int),
  [(0, .aload_n 0, 1),
  (1, .getfield 17, 3),
  (4, .iload_n 1, 1),
  (5, .iload_n 2, 1),
  (6, .invokevirtual 160, 3),
  (9, .istore_n 3, 1),
  (10, .iload_n 3, 1),
  (11, .ifCond .lt 21, 3),
  (14, .iload_n 3, 1),
  (15, .aload_n 0, 1),
  (16, .getfield 11, 3),
  (19, .arraylength, 1),
  (20, .if_icmp .ge 12, 3),
  (23, .aload_n 0, 1),
  (24, .getfield 11, 3),
  (27, .iload_n 3, 1),
  (28, .iaload, 1),
  (29, .goto 4, 3),
  (32, .iconst 0, 1),
  (33, .ireturn, 1)],
  [(17, 0, [3]), (11, 3, [3])], [], [], ⟨1, 0, 0, 23⟩)
theorem okX3_wordOfPlace : am_Mok mX3_wordOfPlace := am_Mok.of [308, 311] [] [] (by decide +kernel)
def mX3_writeBranch : am_M := (yX3_writeBranch, cX3_writeBranch, 5, (Option.none : Option Jvm.ClassFile.FieldType),
  [(0, .iconst 4, 1),
  (1, .aload_n 0, 1),
  (2, .iload_n 1, 1),
  (3, .aload_n 0, 1),
  (4, .getfield 17, 3),
  (7, .iload_n 2, 1),
  (8, .invokevirtual 140, 3),
  (11, .invokevirtual 118, 3),
  (14, .aload_n 0, 1),
  (15, .getfield 21, 3),
  (18, .invokevirtual 162, 3),
  (21, .isub, 1),
  (22, .imul, 1),
  (23, .istore_n 3, 1),
  (24, .aload_n 0, 1),
  (25, .getfield 17, 3),
  (28, .iload_n 2, 1),
  (29, .invokevirtual 84, 3),
  (32, .istore 4, 2),
  (34, .aload_n 0, 1),
  (35, .getfield 21, 3),
  (38, .iload 4, 2),
  (40, .aload_n 0, 1),
  (41, .getfield 17, 3),
  (44, .iload_n 2, 1),
  (45, .invokevirtual 115, 3),
  (48, .aload_n 0, 1),
  (49, .getfield 17, 3),
  (52, .iload_n 2, 1),
  (53, .invokevirtual 125, 3),
  (56, .iload_n 3, 1),
  (57, .invokestatic 163, 3),
  (60, .invokevirtual 112, 3),
  (63, .return_, 1)],
  [(17, 0, [3]), (21, 1, [3])], [], [], ⟨2, 0, 0, 46⟩)
theorem okX3_writeBranch : am_Mok mX3_writeBranch := am_Mok.of [308, 309] [] [] (by decide +kernel)
def mX3_writeJump : am_M := (yX3_writeJump, cX3_writeJump, 3, (Option.none : Option Jvm.ClassFile.FieldType),
  [(0, .aload_n 0, 1),
  (1, .getfield 21, 3),
  (4, .iload_n 1, 1),
  (5, .iconst 4, 1),
  (6, .iload_n 2, 1),
  (7, .aload_n 0, 1),
  (8, .getfield 21, 3),
  (11, .invokevirtual 162, 3),
  (14, .isub, 1),
  (15, .imul, 1),
  (16, .invokestatic 166, 3),
  (19, .invokevirtual 112, 3),
  (22, .return_, 1)],
  [(21, 1, [3])], [], [], ⟨1, 0, 0, 23⟩)
theorem okX3_writeJump : am_Mok mX3_writeJump := am_Mok.of [309] [] [] (by decide +kernel)
def mX3_writeAddress : am_M := (yX3_writeAddress, cX3_writeAddress, 5, (Option.none : Option Jvm.ClassFile.FieldType),
  [(0, .iload_n 2, 1),
  (1, .bipush 20, 2),
  (3, .ishl, 1),
  (4, .bipush 20, 2),
  (6, .ishr, 1),
  (7, .istore_n 3, 1),
  (8, .iload_n 2, 1),
  (9, .iload_n 3, 1),
  (10, .isub, 1),
  (11, .bipush 12, 2),
  (13, .iushr, 1),
  (14, .istore 4, 2),
  (16, .aload_n 0, 1),
  (17, .getfield 21, 3),
  (20, .iload_n 1, 1),
  (21, .iload 4, 2),
  (23, .invokestatic 143, 3),
  (26, .invokevirtual 112, 3),
  (29, .aload_n 0, 1),
  (30, .getfield 21, 3),
  (33, .bipush 10, 2),
  (35, .iload_n 1, 1),
  (36, .iload_n 1, 1),
  (37, .iload_n 3, 1),
  (38, .invokestatic 157, 3),
  (41, .invokevirtual 112, 3),
  (44, .return_, 1)],
  [(21, 1, [3])], [], [], ⟨2, 0, 0, 44⟩)
theorem okX3_writeAddress : am_Mok mX3_writeAddress := am_Mok.of [309] [] [] (by decide +kernel)
end
section
def mX4_init : am_M := (yX4_init, cX4_init, 1, (Option.none : Option Jvm.ClassFile.FieldType),
  [(0, .aload_n 0, 1),
  (1, .invokespecial 3, 3),
  (4, .aload_n 0, 1),
  (5, .sipush 200, 3),
  (8, .newarray .int, 2),
  (10, .putfield 11, 3),
  (13, .return_, 1)],
  [(11, 0, [2, 7])], [], [], ⟨1, 1, 200, 16⟩)
theorem okX4_init : am_Mok mX4_init := am_Mok.of [337] [] [] (by decide +kernel)
def mX4_drive : am_M := (yX4_drive, cX4_drive, 5, (Option.some Jvm.ClassFile.FieldType.int),
  [(0, .aload_n 0, 1),
  (1, .iconst 1, 1),
  (2, .putfield 15, 3),
  (5, .aload_n 0, 1),
  (6, .iconst 0, 1),
  (7, .putfield 19, 3),
  (10, .aload_n 0, 1),
  (11, .invokevirtual 23, 3),
  (14, .iconst 3, 1),
  (15, .istore_n 2, 1),
  (16, .iconst 0, 1),
  (17, .istore_n 3, 1),
  (18, .iconst 0, 1),
  (19, .istore 4, 2),
  (21, .iload 4, 2),
  (23, .iload_n 1, 1),
  (24, .if_icmp .ge 27, 3),
  (27, .iload_n 2, 1),
  (28, .iconst 3, 1),
  (29, .if_icmp .ne 22, 3),
  (32, .aload_n 0, 1),
  (33, .invokevirtual 26, 3),
  (36, .istore_n 2, 1),
  (37, .iload_n 2, 1),
  (38, .iconst 2, 1),
  (39, .if_icmp .eq 6, 3),
  (42, .iinc 3 1, 3),
  (45, .iinc 4 1, 3),
  (48, .goto (-27), 3),
  (51, .aload_n 0, 1),
  (52, .iload_n 3, 1),
  (53, .putfield 30, 3),
  (56, .aload_n 0, 1),
  (57, .iload_n 2, 1),
  (58, .iconst 3, 1),
  (59, .if_icmp .ne 7, 3),
  (62, .iconst 1, 1),
  (63, .goto 4, 3),
  (66, .iload_n 2, 1),
  (67, .putfield 33, 3),
  (70, .aload_n 0, 1),
  (71, .getfield 33, 3),
  (74, .ireturn, 1)],
  [(15, 1, [2, 7]), (19, 4, [2, 7]), (30, 3, [2, 7]), (33, 2, [2, 7])], [], [], ⟨5, 0, 0, 118⟩)
theorem okX4_drive : am_Mok mX4_drive := am_Mok.of [338, 341, 340, 339] [] [] (by decide +kernel)
def mX4_hasRun : am_M := (yX4_hasRun, cX4_hasRun, 1, (Option.some Jvm.ClassFile.FieldType.boolean),
  [(0, .aload_n 0, 1),
  (1, .getfield 15, 3),
  (4, .ireturn, 1)],
  [(15, 1, [2, 7])], [], [], ⟨0, 0, 0, 0⟩)
theorem okX4_hasRun : am_Mok mX4_hasRun := am_Mok.of [338] [] [] (by decide +kernel)
def mX4_outcome : am_M := (yX4_outcome, cX4_outcome, 1, (Option.some Jvm.ClassFile.FieldType.int),
  [(0, .aload_n 0, 1),
  (1, .getfield 33, 3),
  (4, .ireturn, 1)],
  [(33, 2, [2, 7])], [], [], ⟨0, 0, 0, 0⟩)
theorem okX4_outcome : am_Mok mX4_outcome := am_Mok.of [339] [] [] (by decide +kernel)
def mX4_steps : am_M := (yX4_steps, cX4_steps, 1, (Option.some Jvm.ClassFile.FieldType.int),
  [(0, .aload_n 0, 1),
  (1, .getfield 30, 3),
  (4, .ireturn, 1)],
  [(30, 3, [2, 7])], [], [], ⟨0, 0, 0, 0⟩)
theorem okX4_steps : am_Mok mX4_steps := am_Mok.of [340] [] [] (by decide +kernel)
def mX4_prints : am_M := (yX4_prints, cX4_prints, 1, (Option.some Jvm.ClassFile.FieldType.int),
  [(0, .aload_n 0, 1),
  (1, .getfield 19, 3),
  (4, .ireturn, 1)],
  [(19, 4, [2, 7])], [], [], ⟨0, 0, 0, 0⟩)
theorem okX4_prints : am_Mok mX4_prints := am_Mok.of [341] [] [] (by decide +kernel)
def mX4_printAt : am_M := (yX4_printAt, cX4_printAt, 2, (Option.some Jvm.ClassFile.FieldType.int),
  [(0, .iload_n 1, 1),
  (1, .ifCond .lt 27, 3),
  (4, .iload_n 1, 1),
  (5, .aload_n 0, 1),
  (6, .getfield 19, 3),
  (9, .if_icmp .ge 19, 3),
  (12, .iload_n 1, 1),
  (13, .sipush 200, 3),
  (16, .if_icmp .ge 12, 3),
  (19, .aload_n 0, 1),
  (20, .getfield 11, 3),
  (23, .iload_n 1, 1),
  (24, .iaload, 1),
  (25, .goto 4, 3),
  (28, .iconst 0, 1),
  (29, .ireturn, 1)],
  [(19, 4, [2, 7]), (11, 0, [2, 7])], [], [], ⟨0, 0, 0, 0⟩)
theorem okX4_printAt : am_Mok mX4_printAt := am_Mok.of [341, 337] [] [] (by decide +kernel)
def mX4_keepPrint : am_M := (yX4_keepPrint, cX4_keepPrint, 2, (Option.none : Option Jvm.ClassFile.FieldType),
  [(0, .aload_n 0, 1),
  (1, .getfield 19, 3),
  (4, .ifCond .lt 23, 3),
  (7, .aload_n 0, 1),
  (8, .getfield 19, 3),
  (11, .sipush 200, 3),
  (14, .if_icmp .ge 13, 3),
  (17, .aload_n 0, 1),
  (18, .getfield 11, 3),
  (21, .aload_n 0, 1),
  (22, .getfield 19, 3),
  (25, .iload_n 1, 1),
  (26, .iastore, 1),
  (27, .aload_n 0, 1),
  (28, .dup, 1),
  (29, .getfield 19, 3),
  (32, .iconst 1, 1),
  (33, .iadd, 1),
  (34, .putfield 19, 3),
  (37, .return_, 1)],
  [(19, 4, [2, 7]), (11, 0, [2, 7])], [], [], ⟨0, 0, 0, 0⟩)
theorem okX4_keepPrint : am_Mok mX4_keepPrint := am_Mok.of [341, 337] [] [] (by decide +kernel)
def mX4_isRegister : am_M := (yX4_isRegister, cX4_isRegister, 1, (Option.some Jvm.ClassFile.FieldType.boolean),
  [(0, .iload_n 0, 1),
  (1, .ifCond .lt 13, 3),
  (4, .iload_n 0, 1),
  (5, .bipush 32, 2),
  (7, .if_icmp .ge 7, 3),
  (10, .iconst 1, 1),
  (11, .goto 4, 3),
  (14, .iconst 0, 1),
  (15, .ireturn, 1)],
  [], [], [], ⟨0, 0, 0, 0⟩)
theorem okX4_isRegister : am_Mok mX4_isRegister := am_Mok.of [] [] [] (by decide +kernel)
def mX4_isMemoryWord : am_M := (yX4_isMemoryWord, cX4_isMemoryWord, 1, (Option.some Jvm.ClassFile.FieldType.boolean),
  [(0, .iload_n 0, 1),
  (1, .ifCond .lt 13, 3),
  (4, .iload_n 0, 1),
  (5, .bipush 64, 2),
  (7, .if_icmp .ge 7, 3),
  (10, .iconst 1, 1),
  (11, .goto 4, 3),
  (14, .iconst 0, 1),
  (15, .ireturn, 1)],
  [], [], [], ⟨0, 0, 0, 0⟩)
theorem okX4_isMemoryWord : am_Mok mX4_isMemoryWord := am_Mok.of [] [] [] (by decide +kernel)
def mX4_memoryIndex : am_M := (yX4_memoryIndex, cX4_memoryIndex, 2, (Option.some Jvm.ClassFile.FieldType.int),
  [(0, .iload_n 0, 1),
  (1, .ldc 38, 2),
  (3, .isub, 1),
  (4, .iconst 2, 1),
  (5, .ishr, 1),
  (6, .istore_n 1, 1),
  (7, .iload_n 0, 1),
  (8, .iconst 3, 1),
  (9, .iand, 1),
  (10, .ifCond .ne 14, 3),
  (13, .iload_n 1, 1),
  (14, .invokestatic 39, 3),
  (17, .ifCond .eq 7, 3),
  (20, .iload_n 1, 1),
  (21, .goto 4, 3),
  (24, .iconst (-1), 1),
  (25, .ireturn, 1)],
  [], [(38, 65536)], [], ⟨1, 0, 0, 20⟩)
theorem okX4_memoryIndex : am_Mok mX4_memoryIndex := am_Mok.of [] [1087] [] (by decide +kernel)
end
section
def mX5_init : am_M := (yX5_init, cX5_init, 1, (Option.none : Option Jvm.ClassFile.FieldType),
  [(0, .aload_n 0, 1),
  (1, .invokespecial 3, 3),
  (4, .aload_n 0, 1),
  (5, .sipush 300, 3),
  (8, .newarray .int, 2),
  (10, .putfield 11, 3),
  (13, .aload_n 0, 1),
  (14, .sipush 300, 3),
  (17, .newarray .int, 2),
  (19, .putfield 15, 3),
  (22, .aload_n 0, 1),
  (23, .sipush 300, 3),
  (26, .newarray .int, 2),
  (28, .putfield 18, 3),
  (31, .aload_n 0, 1),
  (32, .sipush 300, 3),
  (35, .newarray .int, 2),
  (37, .putfield 21, 3),
  (40, .aload_n 0, 1),
  (41, .bipush 25, 2),
  (43, .newarray .int, 2),
  (45, .putfield 24, 3),
  (48, .return_, 1)],
  [(11, 0, [4]), (15, 1, [4]), (18, 2, [4]), (21, 3, [4]), (24, 4, [4])], [], [], ⟨1, 5, 1225, 16⟩)
theorem okX5_init : am_Mok mX5_init := am_Mok.of [122, 123, 124, 125, 126] [] [] (by decide +kernel)
def mX5_functions : am_M := (yX5_functions, cX5_functions, 1, (Option.some Jvm.ClassFile.FieldType.int),
  [(0, .aload_n 0, 1),
  (1, .getfield 27, 3),
  (4, .ireturn, 1)],
  [(27, 5, [4])], [], [], ⟨0, 0, 0, 0⟩)
theorem okX5_functions : am_Mok mX5_functions := am_Mok.of [127] [] [] (by decide +kernel)
def mX5_size : am_M := (yX5_size, cX5_size, 1, (Option.some Jvm.ClassFile.FieldType.int),
  [(0, .aload_n 0, 1),
  (1, .getfield 31, 3),
  (4, .ireturn, 1)],
  [(31, 6, [4])], [], [], ⟨0, 0, 0, 0⟩)
theorem okX5_size : am_Mok mX5_size := am_Mok.of [128] [] [] (by decide +kernel)
def mX5_changes : am_M := (yX5_changes, cX5_changes, 1, (Option.some Jvm.ClassFile.FieldType.int),
  [(0, .aload_n 0, 1),
  (1, .getfield 34, 3),
  (4, .ireturn, 1)],
  [(34, 7, [4])], [], [], ⟨0, 0, 0, 0⟩)
theorem okX5_changes : am_Mok mX5_changes := am_Mok.of [129] [] [] (by decide +kernel)
def mX5_hasFunction : am_M := (yX5_hasFunction, cX5_hasFunction, 2, (Option.some Jvm.ClassFile.FieldType.boolean),
  [(0, .iload_n 1, 1),
  (1, .ifCond .lt 15, 3),
  (4, .iload_n 1, 1),
  (5, .aload_n 0, 1),
  (6, .getfield 27, 3),
  (9, .if_icmp .ge 7, 3),
  (12, .iconst 1, 1),
  (13, .goto 4, 3),
  (16, .iconst 0, 1),
  (17, .ireturn, 1)],
  [(27, 5, [4])], [], [], ⟨0, 0, 0, 0⟩)
theorem okX5_hasFunction : am_Mok mX5_hasFunction := am_Mok.of [127] [] [] (by decide +kernel)
def mX5_hasSpot : am_M := (yX5_hasSpot, cX5_hasSpot, 2, (Option.some Jvm.ClassFile.FieldType.boolean),
  [(0, .iload_n 1, 1),
  (1, .ifCond .lt 15, 3),
  (4, .iload_n 1, 1),
  (5, .aload_n 0, 1),
  (6, .getfield 31, 3),
  (9, .if_icmp .ge 7, 3),
  (12, .iconst 1, 1),
  (13, .goto 4, 3),
  (16, .iconst 0, 1),
  (17, .ireturn, 1)],
  [(31, 6, [4])], [], [], ⟨0, 0, 0, 0⟩)
theorem okX5_hasSpot : am_Mok mX5_hasSpot := am_Mok.of [128] [] [] (by decide +kernel)
def mX5_startOf : am_M := (yX5_startOf, cX5_startOf, 2, (Option.some Jvm.ClassFile.FieldType.int),
  [(0, .aload_n 0, 1),
  (1, .iload_n 1, 1),
  (2, .invokevirtual 37, 3),
  (5, .ifCond .eq 12, 3),
  (8, .aload_n 0, 1),
  (9, .getfield 24, 3),
  (12, .iload_n 1, 1),
  (13, .iaload, 1),
  (14, .goto 4, 3),
  (17, .iconst 0, 1),
  (18, .ireturn, 1)],
  [(24, 4, [4])], [], [], ⟨1, 0, 0, 21⟩)
theorem okX5_startOf : am_Mok mX5_startOf := am_Mok.of [126] [] [] (by decide +kernel)
def mX5_lengthOf : am_M := (yX5_lengthOf, cX5_lengthOf, 2, (Option.some Jvm.ClassFile.FieldType.int),
  [(0, .aload_n 0, 1),
  (1, .iload_n 1, 1),
  (2, .invokevirtual 37, 3),
  (5, .ifCond .eq 21, 3),
  (8, .aload_n 0, 1),
  (9, .getfield 24, 3),
  (12, .iload_n 1, 1),
  (13, .iconst 1, 1),
  (14, .iadd, 1),
  (15, .iaload, 1),
  (16, .aload_n 0, 1),
  (17, .getfield 24, 3),
  (20, .iload_n 1, 1),
  (21, .iaload, 1),
  (22, .isub, 1),
  (23, .goto 4, 3),
  (26, .iconst 0, 1),
  (27, .ireturn, 1)],
  [(24, 4, [4])], [], [], ⟨1, 0, 0, 21⟩)
theorem okX5_lengthOf : am_Mok mX5_lengthOf := am_Mok.of [126] [] [] (by decide +kernel)
def mX5_endOf : am_M := (yX5_endOf, cX5_endOf, 2, (Option.some Jvm.ClassFile.FieldType.int),
  [(0, .aload_n 0, 1),
  (1, .iload_n 1, 1),
  (2, .invokevirtual 37, 3),
  (5, .ifCond .eq 14, 3),
  (8, .aload_n 0, 1),
  (9, .getfield 24, 3),
  (12, .iload_n 1, 1),
  (13, .iconst 1, 1),
  (14, .iadd, 1),
  (15, .iaload, 1),
  (16, .goto 4, 3),
  (19, .iconst 0, 1),
  (20, .ireturn, 1)],
  [(24, 4, [4])], [], [], ⟨1, 0, 0, 21⟩)
theorem okX5_endOf : am_Mok mX5_endOf := am_Mok.of [126] [] [] (by decide +kernel)
def mX5_spotOf : am_M := (yX5_spotOf, cX5_spotOf, 4, (Option.some Jvm.ClassFile.FieldType.int),
  [(0, .iload_n 1, 1),
  (1, .ifCond .lt 15, 3),
  (4, .iload_n 1, 1),
  (5, .aload_n 0, 1),
  (6, .getfield 27, 3),
  (9, .if_icmp .ge 7, 3),
  (12, .iload_n 2, 1),
  (13, .ifCond .ge 5, 3),
  (16, .iconst (-1), 1),
  (17, .ireturn, 1),
  (18, .aload_n 0, 1),
  (19, .getfield 24, 3),
  (22, .iload_n 1, 1),
  (23, .iaload, 1),
  (24, .iload_n 2, 1),
  (25, .iadd, 1),
  (26, .istore_n 3, 1),
  (27, .iload_n 3, 1),
  (28, .aload_n 0, 1),
  (29, .getfield 24, 3),
  (32, .iload_n 1, 1),
  (33, .iconst 1, 1),
  (34, .iadd, 1),
  (35, .iaload, 1),
  (36, .if_icmp .ge 7, 3),
  (39, .iload_n 3, 1),
  (40, .goto 4, 3),
  (43, .iconst (-1), 1),
  (44, .ireturn, 1)],
  [(27, 5, [4]), (24, 4, [4])], [], [], ⟨0, 0, 0, 0⟩)
theorem okX5_spotOf : am_Mok mX5_spotOf := am_Mok.of [127, 126] [] [] (by decide +kernel)
def mX5_functionAt : am_M := (yX5_functionAt, cX5_functionAt, 3, (Option.some Jvm.ClassFile.FieldType.int),
  [(0, .iconst 0, 1),
  (1, .istore_n 2, 1),
  (2, .iload_n 2, 1),
  (3, .aload_n 0, 1),
  (4, .getfield 27, 3),
  (7, .if_icmp .ge 33, 3),
  (10, .iload_n 1, 1),
  (11, .aload_n 0, 1),
  (12, .getfield 24, 3),
  (15, .iload_n 2, 1),
  (16, .iaload, 1),
  (17, .if_icmp .lt 17, 3),
  (20, .iload_n 1, 1),
  (21, .aload_n 0, 1),
  (22, .getfield 24, 3),
  (25, .iload_n 2, 1),
  (26, .iconst 1, 1),
  (27, .iadd, 1),
  (28, .iaload, 1),
  (29, .if_icmp .ge 5, 3),
  (32, .iload_n 2, 1),
  (33, .ireturn, 1),
  (34, .iinc 2 1, 3),
  (37, .goto (-35), 3),
  (40, .iconst (-1), 1),
  (41, .ireturn, 1)],
  [(27, 5, [4]), (24, 4, [4])], [], [], ⟨0, 0, 0, 0⟩)
theorem okX5_functionAt : am_Mok mX5_functionAt := am_Mok.of [127, 126] [] [] (by decide +kernel)
def mX5_numberAt : am_M := (yX5_numberAt, cX5_numberAt, 2, (Option.some Jvm.ClassFile.FieldType.int),
  [(0, .aload_n 0, 1),
  (1, .iload_n 1, 1),
  (2, .invokevirtual 41, 3),
  (5, .ifCond .eq 12, 3),
  (8, .aload_n 0, 1),
  (9, .getfield 11, 3),
  (12, .iload_n 1, 1),
  (13, .iaload, 1),
  (14, .goto 4, 3),
  (17, .iconst (-1), 1),
  (18, .ireturn, 1)],
  [(11, 0, [4])], [], [], ⟨1, 0, 0, 21⟩)
theorem okX5_numberAt : am_Mok mX5_numberAt := am_Mok.of [122] [] [] (by decide +kernel)
def mX5_aAt : am_M := (yX5_aAt, cX5_aAt, 2, (Option.some Jvm.ClassFile.FieldType.int),
  [(0, .aload_n 0, 1),
  (1, .iload_n 1, 1),
  (2, .invokevirtual 41, 3),
  (5, .ifCond .eq 12, 3),
  (8, .aload_n 0, 1),
  (9, .getfield 15, 3),
  (12, .iload_n 1, 1),
  (13, .iaload, 1),
  (14, .goto 4, 3),
  (17, .iconst 0, 1),
  (18, .ireturn, 1)],
  [(15, 1, [4])], [], [], ⟨1, 0, 0, 21⟩)
theorem okX5_aAt : am_Mok mX5_aAt := am_Mok.of [123] [] [] (by decide +kernel)
def mX5_bAt : am_M := (yX5_bAt, cX5_bAt, 2, (Option.some Jvm.ClassFile.FieldType.int),
  [(0, .aload_n 0, 1),
  (1, .iload_n 1, 1),
  (2, .invokevirtual 41, 3),
  (5, .ifCond .eq 12, 3),
  (8, .aload_n 0, 1),
  (9, .getfield 18, 3),
  (12, .iload_n 1, 1),
  (13, .iaload, 1),
  (14, .goto 4, 3),
  (17, .iconst 0, 1),
  (18, .ireturn, 1)],
  [(18, 2, [4])], [], [], ⟨1, 0, 0, 21⟩)
theorem okX5_bAt : am_Mok mX5_bAt := am_Mok.of [124] [] [] (by decide +kernel)
def mX5_cAt : am_M := (yX5_cAt, cX5_cAt, 2, (Option.some Jvm.ClassFile.FieldType.int),
  [(0, .aload_n 0, 1),
  (1, .iload_n 1, 1),
  (2, .invokevirtual 41, 3),
  (5, .ifCond .eq 12, 3),
  (8, .aload_n 0, 1),
  (9, .getfield 21, 3),
  (12, .iload_n 1, 1),
  (13, .iaload, 1),
  (14, .goto 4, 3),
  (17, .iconst 0, 1),
  (18, .ireturn, 1)],
  [(21, 3, [4])], [], [], ⟨1, 0, 0, 21⟩)
theorem okX5_cAt : am_Mok mX5_cAt := am_Mok.of [125] [] [] (by decide +kernel)
def mX5_placeTold : am_M := (yX5_placeTold, cX5_placeTold, 3, (Option.some Jvm.ClassFile.FieldType.int),
  [(0, .aload_n 0, 1),
  (1, .iload_n 1, 1),
  (2, .invokevirtual 44, 3),
  (5, .istore_n 2, 1),
  (6, .iload_n 2, 1),
  (7, .invokestatic 48, 3),
  (10, .ifCond .eq 9, 3),
  (13, .aload_n 0, 1),
  (14, .iload_n 1, 1),
  (15, .invokevirtual 53, 3),
  (18, .ireturn, 1),
  (19, .iload_n 2, 1),
  (20, .bipush 28, 2),
  (22, .if_icmp .ne 11, 3),
  (25, .aload_n 0, 1),
  (26, .iload_n 1, 1),
  (27, .invokevirtual 56, 3),
  (30, .goto 4, 3),
  (33, .iconst (-1), 1),
  (34, .ireturn, 1)],
  [], [], [], ⟨2, 0, 0, 42⟩)
theorem okX5_placeTold : am_Mok mX5_placeTold := am_Mok.of [] [] [] (by decide +kernel)
def mX5_functionTold : am_M := (yX5_functionTold, cX5_functionTold, 3, (Option.some Jvm.ClassFile.FieldType.int),
  [(0, .aload_n 0, 1),
  (1, .iload_n 1, 1),
  (2, .invokevirtual 44, 3),
  (5, .istore_n 2, 1),
  (6, .iload_n 2, 1),
  (7, .invokestatic 59, 3),
  (10, .ifCond .eq 9, 3),
  (13, .aload_n 0, 1),
  (14, .iload_n 1, 1),
  (15, .invokevirtual 56, 3),
  (18, .ireturn, 1),
  (19, .iload_n 2, 1),
  (20, .bipush 32, 2),
  (22, .if_icmp .ne 11, 3),
  (25, .aload_n 0, 1),
  (26, .iload_n 1, 1),
  (27, .invokevirtual 62, 3),
  (30, .goto 4, 3),
  (33, .iconst (-1), 1),
  (34, .ireturn, 1)],
  [], [], [], ⟨2, 0, 0, 42⟩)
theorem okX5_functionTold : am_Mok mX5_functionTold := am_Mok.of [] [] [] (by decide +kernel)
def mX5_isSame : am_M := (yX5_isSame, cX5_isSame, 3, (Option.some Jvm.ClassFile.FieldType.boolean),
  [(0, .aload_n 0, 1),
  (1, .iload_n 1, 1),
  (2, .invokevirtual 41, 3),
  (5, .ifCond .eq 75, 3),
  (8, .aload_n 0, 1),
  (9, .iload_n 2, 1),
  (10, .invokevirtual 41, 3),
  (13, .ifCond .eq 67, 3),
  (16, .aload_n 0, 1),
  (17, .getfield 11, 3),
  (20, .iload_n 1, 1),
  (21, .iaload, 1),
  (22, .aload_n 0, 1),
  (23, .getfield 11, 3),
  (26, .iload_n 2, 1),
  (27, .iaload, 1),
  (28, .if_icmp .ne 52, 3),
  (31, .aload_n 0, 1),
  (32, .getfield 15, 3),
  (35, .iload_n 1, 1),
  (36, .iaload, 1),
  (37, .aload_n 0, 1),
  (38, .getfield 15, 3),
  (41, .iload_n 2, 1),
  (42, .iaload, 1),
  (43, .if_icmp .ne 37, 3),
  (46, .aload_n 0, 1),
  (47, .getfield 18, 3),
  (50, .iload_n 1, 1),
  (51, .iaload, 1),
  (52, .aload_n 0, 1),
  (53, .getfield 18, 3),
  (56, .iload_n 2, 1),
  (57, .iaload, 1),
  (58, .if_icmp .ne 22, 3),
  (61, .aload_n 0, 1),
  (62, .getfield 21, 3),
  (65, .iload_n 1, 1),
  (66, .iaload, 1),
  (67, .aload_n 0, 1),
  (68, .getfield 21, 3),
  (71, .iload_n 2, 1),
  (72, .iaload, 1),
  (73, .if_icmp .ne 7, 3),
  (76, .iconst 1, 1),
  (77, .goto 4, 3),
  (80, .iconst 0, 1),
  (81, .ireturn, 1)],
  [(11, 0, [4]), (15, 1, [4]), (18, 2, [4]), (21, 3, [4])], [], [], ⟨1, 0, 0, 21⟩)
theorem okX5_isSame : am_Mok mX5_isSame := am_Mok.of [122, 123, 124, 125] [] [] (by decide +kernel)
def mX5_mixAt : am_M := (yX5_mixAt, cX5_mixAt, 2, (Option.some Jvm.ClassFile.FieldType.int),
  [(0, .aload_n 0, 1),
  (1, .iload_n 1, 1),
  (2, .invokevirtual 41, 3),
  (5, .ifCond .ne 5, 3),
  (8, .iconst 0, 1),
  (9, .ireturn, 1),
  (10, .aload_n 0, 1),
  (11, .getfield 11, 3),
  (14, .iload_n 1, 1),
  (15, .iaload, 1),
  (16, .bipush 7, 2),
  (18, .imul, 1),
  (19, .aload_n 0, 1),
  (20, .getfield 15, 3),
  (23, .iload_n 1, 1),
  (24, .iaload, 1),
  (25, .bipush 13, 2),
  (27, .imul, 1),
  (28, .iadd, 1),
  (29, .aload_n 0, 1),
  (30, .getfield 18, 3),
  (33, .iload_n 1, 1),
  (34, .iaload, 1),
  (35, .bipush 31, 2),
  (37, .imul, 1),
  (38, .iadd, 1),
  (39, .aload_n 0, 1),
  (40, .getfield 21, 3),
  (43, .iload_n 1, 1),
  (44, .iaload, 1),
  (45, .bipush 67, 2),
  (47, .imul, 1),
  (48, .iadd, 1),
  (49, .sipush 255, 3),
  (52, .iand, 1),
  (53, .ireturn, 1)],
  [(11, 0, [4]), (15, 1, [4]), (18, 2, [4]), (21, 3, [4])], [], [], ⟨1, 0, 0, 21⟩)
theorem okX5_mixAt : am_Mok mX5_mixAt := am_Mok.of [122, 123, 124, 125] [] [] (by decide +kernel)
def mX5_namesReturnRegister : am_M := (yX5_namesReturnRegister, cX5_namesReturnRegister, 3, (Option.some Jvm.ClassFile.FieldType.boolean),
  [(0, .aload_n 0, 1),
  (1, .iload_n 1, 1),
  (2, .invokevirtual 44, 3),
  (5, .istore_n 2, 1),
  (6, .iload_n 2, 1),
  (7, .invokestatic 65, 3),
  (10, .aload_n 0, 1),
  (11, .iload_n 1, 1),
  (12, .invokevirtual 56, 3),
  (15, .invokestatic 68, 3),
  (18, .ifCond .ne 33, 3),
  (21, .iload_n 2, 1),
  (22, .invokestatic 72, 3),
  (25, .aload_n 0, 1),
  (26, .iload_n 1, 1),
  (27, .invokevirtual 62, 3),
  (30, .invokestatic 68, 3),
  (33, .ifCond .ne 18, 3),
  (36, .iload_n 2, 1),
  (37, .invokestatic 75, 3),
  (40, .aload_n 0, 1),
  (41, .iload_n 1, 1),
  (42, .invokevirtual 53, 3),
  (45, .invokestatic 68, 3),
  (48, .ifCond .eq 7, 3),
  (51, .iconst 1, 1),
  (52, .goto 4, 3),
  (55, .iconst 0, 1),
  (56, .ireturn, 1)],
  [], [], [], ⟨2, 0, 0, 42⟩)
theorem okX5_namesReturnRegister : am_Mok mX5_namesReturnRegister := am_Mok.of [] [] [] (by decide +kernel)
def mX5_addFunction : am_M := (yX5_addFunction, cX5_addFunction, 1, (Option.some Jvm.ClassFile.FieldType.int),
  [(0, .aload_n 0, 1),
  (1, .getfield 27, 3),
  (4, .bipush 24, 2),
  (6, .if_icmp .lt 5, 3),
  (9, .iconst (-1), 1),
  (10, .ireturn, 1),
  (11, .aload_n 0, 1),
  (12, .getfield 24, 3),
  (15, .aload_n 0, 1),
  (16, .getfield 27, 3),
  (19, .iconst 1, 1),
  (20, .iadd, 1),
  (21, .aload_n 0, 1),
  (22, .getfield 24, 3),
  (25, .aload_n 0, 1),
  (26, .getfield 27, 3),
  (29, .iaload, 1),
  (30, .iastore, 1),
  (31, .aload_n 0, 1),
  (32, .dup, 1),
  (33, .getfield 27, 3),
  (36, .iconst 1, 1),
  (37, .iadd, 1),
  (38, .putfield 27, 3),
  (41, .aload_n 0, 1),
  (42, .dup, 1),
  (43, .getfield 34, 3),
  (46, .iconst 1, 1),
  (47, .iadd, 1),
  (48, .putfield 34, 3),
  (51, .aload_n 0, 1),
  (52, .getfield 27, 3),
  (55, .iconst 1, 1),
  (56, .isub, 1),
  (57, .ireturn, 1)],
  [(27, 5, [4]), (24, 4, [4]), (34, 7, [4])], [], [], ⟨0, 0, 0, 0⟩)
theorem okX5_addFunction : am_Mok mX5_addFunction := am_Mok.of [127, 126, 129] [] [] (by decide +kernel)
def mX5_addInstruction : am_M := (yX5_addInstruction, cX5_addInstruction, 11, (Option.some Jvm.ClassFile.FieldType.int),
  [(0, .iload_n 2, 1),
  (1, .invokestatic 65, 3),
  (4, .istore 6, 2),
  (6, .iload_n 2, 1),
  (7, .invokestatic 72, 3),
  (10, .istore 7, 2),
  (12, .iload_n 2, 1),
  (13, .invokestatic 75, 3),
  (16, .istore 8, 2),
  (18, .iload_n 2, 1),
  (19, .invokestatic 78, 3),
  (22, .ifCond .eq 40, 3),
  (25, .iload 6, 2),
  (27, .iload_n 3, 1),
  (28, .invokestatic 81, 3),
  (31, .ifCond .eq 31, 3),
  (34, .iload 7, 2),
  (36, .iload 4, 2),
  (38, .invokestatic 81, 3),
  (41, .ifCond .eq 21, 3),
  (44, .iload 8, 2),
  (46, .iload 5, 2),
  (48, .invokestatic 81, 3),
  (51, .ifCond .eq 11, 3),
  (54, .aload_n 0, 1),
  (55, .iload_n 1, 1),
  (56, .invokevirtual 84, 3),
  (59, .ifCond .ne 5, 3),
  (62, .iconst (-1), 1),
  (63, .ireturn, 1),
  (64, .aload_n 0, 1),
  (65, .iload_n 1, 1),
  (66, .invokevirtual 87, 3),
  (69, .istore 9, 2),
  (71, .aload_n 0, 1),
  (72, .iload 9, 2),
  (74, .invokevirtual 90, 3),
  (77, .aload_n 0, 1),
  (78, .getfield 11, 3),
  (81, .iload 9, 2),
  (83, .iload_n 2, 1),
  (84, .iastore, 1),
  (85, .aload_n 0, 1),
  (86, .getfield 15, 3),
  (89, .iload 9, 2),
  (91, .iload 6, 2),
  (93, .iload_n 3, 1),
  (94, .invokestatic 94, 3),
  (97, .iastore, 1),
  (98, .aload_n 0, 1),
  (99, .getfield 18, 3),
  (102, .iload 9, 2),
  (104, .iload 7, 2),
  (106, .iload 4, 2),
  (108, .invokestatic 94, 3),
  (111, .iastore, 1),
  (112, .aload_n 0, 1),
  (113, .getfield 21, 3),
  (116, .iload 9, 2),
  (118, .iload 8, 2),
  (120, .iload 5, 2),
  (122, .invokestatic 94, 3),
  (125, .iastore, 1),
  (126, .iload_n 1, 1),
  (127, .iconst 1, 1),
  (128, .iadd, 1),
  (129, .istore 10, 2),
  (131, .iload 10, 2),
  (133, .aload_n 0, 1),
  (134, .getfield 27, 3),
  (137, .if_icmp .gt 20, 3),
  (140, .aload_n 0, 1),
  (141, .getfield 24, 3),
  (144, .iload 10, 2),
  (146, .dup2, 1),
  (147, .iaload, 1),
  (148, .iconst 1, 1),
  (149, .iadd, 1),
  (150, .iastore, 1),
  (151, .iinc 10 1, 3),
  (154, .goto (-23), 3),
  (157, .aload_n 0, 1),
  (158, .dup, 1),
  (159, .getfield 31, 3),
  (162, .iconst 1, 1),
  (163, .iadd, 1),
  (164, .putfield 31, 3),
  (167, .aload_n 0, 1),
  (168, .dup, 1),
  (169, .getfield 34, 3),
  (172, .iconst 1, 1),
  (173, .iadd, 1),
  (174, .putfield 34, 3),
  (177, .iload 9, 2),
  (179, .aload_n 0, 1),
  (180, .getfield 24, 3),
  (183, .iload_n 1, 1),
  (184, .iaload, 1),
  (185, .isub, 1),
  (186, .ireturn, 1)],
  [(11, 0, [4]), (15, 1, [4]), (18, 2, [4]), (21, 3, [4]), (27, 5, [4]), (24, 4, [4]), (31, 6, [4]), (34, 7, [4])], [], [], ⟨3, 0, 0, 63⟩)
theorem okX5_addInstruction : am_Mok mX5_addInstruction := am_Mok.of [122, 123, 124, 125, 127, 126, 128, 129] [] [] (by decide +kernel)
def mX5_hasRoomFor : am_M := (yX5_hasRoomFor, cX5_hasRoomFor, 2, (Option.some Jvm.ClassFile.FieldType.boolean),
  [(0, .aload_n 0, 1),
  (1, .iload_n 1, 1),
  (2, .invokevirtual 37, 3),
  (5, .ifCond .eq 27, 3),
  (8, .aload_n 0, 1),
  (9, .iload_n 1, 1),
  (10, .invokevirtual 98, 3),
  (13, .bipush 40, 2),
  (15, .if_icmp .ge 17, 3),
  (18, .aload_n 0, 1),
  (19, .getfield 31, 3),
  (22, .sipush 300, 3),
  (25, .if_icmp .ge 7, 3),
  (28, .iconst 1, 1),
  (29, .goto 4, 3),
  (32, .iconst 0, 1),
  (33, .ireturn, 1)],
  [(31, 6, [4])], [], [], ⟨2, 0, 0, 42⟩)
theorem okX5_hasRoomFor : am_Mok mX5_hasRoomFor := am_Mok.of [128] [] [] (by decide +kernel)
def mX5_makeRoomAt : am_M := (yX5_makeRoomAt, cX5_makeRoomAt, 3, (Option.none : Option Jvm.ClassFile.FieldType),
  [(0, .aload_n 0, 1),
  (1, .getfield 31, 3),
  (4, .iload_n 1, 1),
  (5, .isub, 1),
  (6, .istore_n 2, 1),
  (7, .iload_n 2, 1),
  (8, .ifCond .le 67, 3),
  (11, .aload_n 0, 1),
  (12, .getfield 11, 3),
  (15, .iload_n 1, 1),
  (16, .aload_n 0, 1),
  (17, .getfield 11, 3),
  (20, .iload_n 1, 1),
  (21, .iconst 1, 1),
  (22, .iadd, 1),
  (23, .iload_n 2, 1),
  (24, .invokestatic 101, 3),
  (27, .aload_n 0, 1),
  (28, .getfield 15, 3),
  (31, .iload_n 1, 1),
  (32, .aload_n 0, 1),
  (33, .getfield 15, 3),
  (36, .iload_n 1, 1),
  (37, .iconst 1, 1),
  (38, .iadd, 1),
  (39, .iload_n 2, 1),
  (40, .invokestatic 101, 3),
  (43, .aload_n 0, 1),
  (44, .getfield 18, 3),
  (47, .iload_n 1, 1),
  (48, .aload_n 0, 1),
  (49, .getfield 18, 3),
  (52, .iload_n 1, 1),
  (53, .iconst 1, 1),
  (54, .iadd, 1),
  (55, .iload_n 2, 1),
  (56, .invokestatic 101, 3),
  (59, .aload_n 0, 1),
  (60, .getfield 21, 3),
  (63, .iload_n 1, 1),
  (64, .aload_n 0, 1),
  (65, .getfield 21, 3),
  (68, .iload_n 1, 1),
  (69, .iconst 1, 1),
  (70, .iadd, 1),
  (71, .iload_n 2, 1),
  (72, .invokestatic 101, 3),
  (75, .return_, 1)],
  [(31, 6, [4]), (11, 0, [4]), (15, 1, [4]), (18, 2, [4]), (21, 3, [4])], [], [], ⟨1, 0, 0, 34⟩)
theorem okX5_makeRoomAt : am_Mok mX5_makeRoomAt := am_Mok.of [128, 122, 123, 124, 125] [] [] (by decide +kernel)
def mX5_drop : am_M := (yX5_drop, cX5_drop, 2, (Option.some Jvm.ClassFile.FieldType.int),
  [(0, .aload_n 0, 1),
  (1, .getfield 27, 3),
  (4, .istore_n 1, 1),
  (5, .aload_n 0, 1),
  (6, .iconst 0, 1),
  (7, .putfield 27, 3),
  (10, .aload_n 0, 1),
  (11, .iconst 0, 1),
  (12, .putfield 31, 3),
  (15, .aload_n 0, 1),
  (16, .dup, 1),
  (17, .getfield 34, 3),
  (20, .iconst 1, 1),
  (21, .iadd, 1),
  (22, .putfield 34, 3),
  (25, .iload_n 1, 1),
  (26, .ireturn, 1)],
  [(27, 5, [4]), (31, 6, [4]), (34, 7, [4])], [], [], ⟨0, 0, 0, 0⟩)
theorem okX5_drop : am_Mok mX5_drop := am_Mok.of [127, 128, 129] [] [] (by decide +kernel)
def mX5_refusal : am_M := (yX5_refusal, cX5_refusal, 1, (Option.some Jvm.ClassFile.FieldType.int),
  [(0, .aload_n 0, 1),
  (1, .getfield 27, 3),
  (4, .ifCond .ne 5, 3),
  (7, .iconst 1, 1),
  (8, .ireturn, 1),
  (9, .aload_n 0, 1),
  (10, .invokevirtual 107, 3),
  (13, .ifCond .eq 5, 3),
  (16, .iconst 2, 1),
  (17, .ireturn, 1),
  (18, .aload_n 0, 1),
  (19, .invokevirtual 111, 3),
  (22, .ifCond .eq 5, 3),
  (25, .iconst 3, 1),
  (26, .ireturn, 1),
  (27, .aload_n 0, 1),
  (28, .invokevirtual 114, 3),
  (31, .ifCond .eq 7, 3),
  (34, .iconst 4, 1),
  (35, .goto 4, 3),
  (38, .iconst 0, 1),
  (39, .ireturn, 1)],
  [(27, 5, [4])], [], [], ⟨4, 0, 0, 86⟩)
theorem okX5_refusal : am_Mok mX5_refusal := am_Mok.of [127] [] [] (by decide +kernel)
def mX5_hasOpenEnd : am_M := (yX5_hasOpenEnd, cX5_hasOpenEnd, 2, (Option.some Jvm.ClassFile.FieldType.boolean),
  [(0, .iconst 0, 1),
  (1, .istore_n 1, 1),
  (2, .iload_n 1, 1),
  (3, .aload_n 0, 1),
  (4, .getfield 27, 3),
  (7, .if_icmp .ge 36, 3),
  (10, .aload_n 0, 1),
  (11, .iload_n 1, 1),
  (12, .invokevirtual 98, 3),
  (15, .ifCond .eq 20, 3),
  (18, .aload_n 0, 1),
  (19, .aload_n 0, 1),
  (20, .iload_n 1, 1),
  (21, .invokevirtual 87, 3),
  (24, .iconst 1, 1),
  (25, .isub, 1),
  (26, .invokevirtual 44, 3),
  (29, .invokestatic 117, 3),
  (32, .ifCond .ne 5, 3),
  (35, .iconst 1, 1),
  (36, .ireturn, 1),
  (37, .iinc 1 1, 3),
  (40, .goto (-38), 3),
  (43, .iconst 0, 1),
  (44, .ireturn, 1)],
  [(27, 5, [4])], [], [], ⟨2, 0, 0, 42⟩)
theorem okX5_hasOpenEnd : am_Mok mX5_hasOpenEnd := am_Mok.of [127] [] [] (by decide +kernel)
def mX5_goesToNoPlace : am_M := (yX5_goesToNoPlace, cX5_goesToNoPlace, 3, (Option.some Jvm.ClassFile.FieldType.boolean),
  [(0, .iconst 0, 1),
  (1, .istore_n 1, 1),
  (2, .iload_n 1, 1),
  (3, .aload_n 0, 1),
  (4, .getfield 27, 3),
  (7, .if_icmp .ge 45, 3),
  (10, .aload_n 0, 1),
  (11, .iload_n 1, 1),
  (12, .invokevirtual 120, 3),
  (15, .istore_n 2, 1),
  (16, .iload_n 2, 1),
  (17, .aload_n 0, 1),
  (18, .iload_n 1, 1),
  (19, .invokevirtual 87, 3),
  (22, .if_icmp .ge 24, 3),
  (25, .aload_n 0, 1),
  (26, .iload_n 2, 1),
  (27, .invokevirtual 123, 3),
  (30, .aload_n 0, 1),
  (31, .iload_n 1, 1),
  (32, .invokevirtual 98, 3),
  (35, .if_icmp .lt 5, 3),
  (38, .iconst 1, 1),
  (39, .ireturn, 1),
  (40, .iinc 2 1, 3),
  (43, .goto (-27), 3),
  (46, .iinc 1 1, 3),
  (49, .goto (-47), 3),
  (52, .iconst 0, 1),
  (53, .ireturn, 1)],
  [(27, 5, [4])], [], [], ⟨3, 0, 0, 64⟩)
theorem okX5_goesToNoPlace : am_Mok mX5_goesToNoPlace := am_Mok.of [127] [] [] (by decide +kernel)
def mX5_tellsNoFunction : am_M := (yX5_tellsNoFunction, cX5_tellsNoFunction, 2, (Option.some Jvm.ClassFile.FieldType.boolean),
  [(0, .iconst 0, 1),
  (1, .istore_n 1, 1),
  (2, .iload_n 1, 1),
  (3, .aload_n 0, 1),
  (4, .getfield 31, 3),
  (7, .if_icmp .ge 23, 3),
  (10, .aload_n 0, 1),
  (11, .iload_n 1, 1),
  (12, .invokevirtual 126, 3),
  (15, .aload_n 0, 1),
  (16, .getfield 27, 3),
  (19, .if_icmp .lt 5, 3),
  (22, .iconst 1, 1),
  (23, .ireturn, 1),
  (24, .iinc 1 1, 3),
  (27, .goto (-25), 3),
  (30, .iconst 0, 1),
  (31, .ireturn, 1)],
  [(31, 6, [4]), (27, 5, [4])], [], [], ⟨3, 0, 0, 64⟩)
theorem okX5_tellsNoFunction : am_Mok mX5_tellsNoFunction := am_Mok.of [128, 127] [] [] (by decide +kernel)
end
section
def mX6_init : am_M := (yX6_init, cX6_init, 4, (Option.none : Option Jvm.ClassFile.FieldType),
  [(0, .aload_n 0, 1),
  (1, .invokespecial 5, 3),
  (4, .aload_n 0, 1),
  (5, .sipush 300, 3),
  (8, .newarray .boolean, 2),
  (10, .putfield 13, 3),
  (13, .aload_n 0, 1),
  (14, .sipush 300, 3),
  (17, .newarray .boolean, 2),
  (19, .putfield 17, 3),
  (22, .aload_n 0, 1),
  (23, .sipush 300, 3),
  (26, .newarray .int, 2),
  (28, .putfield 20, 3),
  (31, .aload_n 0, 1),
  (32, .bipush 21, 2),
  (34, .sipush 300, 3),
  (37, .multianewarray 24 2, 4),
  (41, .putfield 26, 3),
  (44, .aload_n 0, 1),
  (45, .sipush 300, 3),
  (48, .newarray .int, 2),
  (50, .putfield 29, 3),
  (53, .aload_n 0, 1),
  (54, .sipush 300, 3),
  (57, .newarray .int, 2),
  (59, .putfield 32, 3),
  (62, .aload_n 0, 1),
  (63, .sipush 300, 3),
  (66, .newarray .int, 2),
  (68, .putfield 35, 3),
  (71, .aload_n 0, 1),
  (72, .sipush 300, 3),
  (75, .newarray .int, 2),
  (77, .putfield 38, 3),
  (80, .aload_n 0, 1),
  (81, .sipush 300, 3),
  (84, .newarray .int, 2),
  (86, .putfield 41, 3),
  (89, .aload_n 0, 1),
  (90, .aload_n 1, 1),
  (91, .putfield 44, 3),
  (94, .aload_n 0, 1),
  (95, .aload_n 2, 1),
  (96, .putfield 48, 3),
  (99, .aload_n 0, 1),
  (100, .aload_n 3, 1),
  (101, .putfield 52, 3),
  (104, .return_, 1)],
  [(13, 3, [5]), (17, 4, [5]), (20, 5, [5]), (26, 6, [5]), (29, 7, [5]), (32, 8, [5]), (35, 9, [5]), (38, 10, [5]), (41, 11, [5]), (44, 0, [5]), (48, 1, [5]), (52, 2, [5])], [], [], ⟨1, 30, 8721, 16⟩)
theorem okX6_init : am_Mok mX6_init := am_Mok.of [253, 254, 255, 256, 257, 258, 259, 260, 261, 250, 251, 252] [] [] (by decide +kernel)
def mX6_findAll : am_M := (yX6_findAll, cX6_findAll, 3, (Option.none : Option Jvm.ClassFile.FieldType),
  [(0, .aload_n 0, 1),
  (1, .aload_n 0, 1),
  (2, .getfield 44, 3),
  (5, .invokevirtual 56, 3),
  (8, .sipush 300, 3),
  (11, .invokestatic 60, 3),
  (14, .putfield 66, 3),
  (17, .aload_n 0, 1),
  (18, .invokevirtual 69, 3),
  (21, .aload_n 0, 1),
  (22, .invokevirtual 72, 3),
  (25, .aload_n 0, 1),
  (26, .invokevirtual 75, 3),
  (29, .iconst 1, 1),
  (30, .istore_n 1, 1),
  (31, .iconst 0, 1),
  (32, .istore_n 2, 1),
  (33, .iload_n 1, 1),
  (34, .ifCond .eq 44, 3),
  (37, .iload_n 2, 1),
  (38, .bipush 60, 2),
  (40, .if_icmp .ge 38, 3),
  (43, .aload_n 0, 1),
  (44, .invokevirtual 80, 3),
  (47, .aload_n 0, 1),
  (48, .getfield 83, 3),
  (51, .ifCond .le 7, 3),
  (54, .iconst 1, 1),
  (55, .goto 4, 3),
  (58, .iconst 0, 1),
  (59, .istore_n 1, 1),
  (60, .iload_n 1, 1),
  (61, .ifCond .eq 11, 3),
  (64, .aload_n 0, 1),
  (65, .invokevirtual 86, 3),
  (68, .aload_n 0, 1),
  (69, .invokevirtual 72, 3),
  (72, .iinc 2 1, 3),
  (75, .goto (-42), 3),
  (78, .return_, 1)],
  [(44, 0, [5]), (66, 12, [5]), (83, 14, [5])], [], [], ⟨6, 0, 0, 140⟩)
theorem okX6_findAll : am_Mok mX6_findAll := am_Mok.of [250, 262, 264] [] [] (by decide +kernel)
def mX6_markSpots : am_M := (yX6_markSpots, cX6_markSpots, 2, (Option.none : Option Jvm.ClassFile.FieldType),
  [(0, .iconst 0, 1),
  (1, .istore_n 1, 1),
  (2, .iload_n 1, 1),
  (3, .aload_n 0, 1),
  (4, .getfield 66, 3),
  (7, .if_icmp .ge 23, 3),
  (10, .aload_n 0, 1),
  (11, .getfield 13, 3),
  (14, .iload_n 1, 1),
  (15, .iconst 0, 1),
  (16, .bastore, 1),
  (17, .aload_n 0, 1),
  (18, .getfield 17, 3),
  (21, .iload_n 1, 1),
  (22, .iconst 0, 1),
  (23, .bastore, 1),
  (24, .iinc 1 1, 3),
  (27, .goto (-25), 3),
  (30, .iconst 0, 1),
  (31, .istore_n 1, 1),
  (32, .iload_n 1, 1),
  (33, .aload_n 0, 1),
  (34, .getfield 44, 3),
  (37, .invokevirtual 89, 3),
  (40, .if_icmp .ge 25, 3),
  (43, .aload_n 0, 1),
  (44, .getfield 48, 3),
  (47, .iload_n 1, 1),
  (48, .invokevirtual 92, 3),
  (51, .ifCond .eq 8, 3),
  (54, .aload_n 0, 1),
  (55, .iload_n 1, 1),
  (56, .invokevirtual 98, 3),
  (59, .iinc 1 1, 3),
  (62, .goto (-30), 3),
  (65, .return_, 1)],
  [(66, 12, [5]), (13, 3, [5]), (17, 4, [5]), (44, 0, [5]), (48, 1, [5])], [], [], ⟨4, 0, 0, 88⟩)
theorem okX6_markSpots : am_Mok mX6_markSpots := am_Mok.of [262, 253, 254, 250, 251] [] [] (by decide +kernel)
def mX6_markSpotsOf : am_M := (yX6_markSpotsOf, cX6_markSpotsOf, 5, (Option.none : Option Jvm.ClassFile.FieldType),
  [(0, .aload_n 0, 1),
  (1, .getfield 44, 3),
  (4, .iload_n 1, 1),
  (5, .invokevirtual 102, 3),
  (8, .aload_n 0, 1),
  (9, .getfield 66, 3),
  (12, .invokestatic 60, 3),
  (15, .istore_n 2, 1),
  (16, .aload_n 0, 1),
  (17, .getfield 44, 3),
  (20, .iload_n 1, 1),
  (21, .invokevirtual 106, 3),
  (24, .istore_n 3, 1),
  (25, .iload_n 3, 1),
  (26, .iload_n 2, 1),
  (27, .if_icmp .ge 85, 3),
  (30, .aload_n 0, 1),
  (31, .getfield 13, 3),
  (34, .iload_n 3, 1),
  (35, .aload_n 0, 1),
  (36, .getfield 44, 3),
  (39, .iload_n 3, 1),
  (40, .invokevirtual 109, 3),
  (43, .invokestatic 112, 3),
  (46, .ifCond .eq 18, 3),
  (49, .aload_n 0, 1),
  (50, .getfield 44, 3),
  (53, .iload_n 3, 1),
  (54, .invokevirtual 117, 3),
  (57, .ifCond .ne 7, 3),
  (60, .iconst 1, 1),
  (61, .goto 4, 3),
  (64, .iconst 0, 1),
  (65, .bastore, 1),
  (66, .aload_n 0, 1),
  (67, .getfield 44, 3),
  (70, .iload_n 1, 1),
  (71, .aload_n 0, 1),
  (72, .getfield 44, 3),
  (75, .iload_n 3, 1),
  (76, .invokevirtual 120, 3),
  (79, .invokevirtual 123, 3),
  (82, .istore 4, 2),
  (84, .iload 4, 2),
  (86, .ifCond .lt 20, 3),
  (89, .iload 4, 2),
  (91, .aload_n 0, 1),
  (92, .getfield 66, 3),
  (95, .if_icmp .ge 11, 3),
  (98, .aload_n 0, 1),
  (99, .getfield 17, 3),
  (102, .iload 4, 2),
  (104, .iconst 1, 1),
  (105, .bastore, 1),
  (106, .iinc 3 1, 3),
  (109, .goto (-84), 3),
  (112, .return_, 1)],
  [(44, 0, [5]), (66, 12, [5]), (13, 3, [5]), (17, 4, [5])], [], [], ⟨3, 0, 0, 64⟩)
theorem okX6_markSpotsOf : am_Mok mX6_markSpotsOf := am_Mok.of [250, 262, 253, 254] [] [] (by decide +kernel)
def mX6_measureReach : am_M := (yX6_measureReach, cX6_measureReach, 3, (Option.none : Option Jvm.ClassFile.FieldType),
  [(0, .iconst 0, 1),
  (1, .istore_n 1, 1),
  (2, .aload_n 0, 1),
  (3, .getfield 66, 3),
  (6, .iconst 1, 1),
  (7, .isub, 1),
  (8, .istore_n 2, 1),
  (9, .iload_n 2, 1),
  (10, .ifCond .lt 56, 3),
  (13, .aload_n 0, 1),
  (14, .getfield 20, 3),
  (17, .iload_n 2, 1),
  (18, .aload_n 0, 1),
  (19, .getfield 13, 3),
  (22, .iload_n 2, 1),
  (23, .baload, 1),
  (24, .ifCond .eq 14, 3),
  (27, .iload_n 1, 1),
  (28, .iconst 1, 1),
  (29, .iadd, 1),
  (30, .bipush 20, 2),
  (32, .invokestatic 60, 3),
  (35, .goto 4, 3),
  (38, .iconst 0, 1),
  (39, .iastore, 1),
  (40, .aload_n 0, 1),
  (41, .getfield 17, 3),
  (44, .iload_n 2, 1),
  (45, .baload, 1),
  (46, .ifCond .eq 7, 3),
  (49, .iconst 0, 1),
  (50, .goto 9, 3),
  (53, .aload_n 0, 1),
  (54, .getfield 20, 3),
  (57, .iload_n 2, 1),
  (58, .iaload, 1),
  (59, .istore_n 1, 1),
  (60, .iinc 2 (-1), 3),
  (63, .goto (-54), 3),
  (66, .return_, 1)],
  [(66, 12, [5]), (20, 5, [5]), (13, 3, [5]), (17, 4, [5])], [], [], ⟨1, 0, 0, 17⟩)
theorem okX6_measureReach : am_Mok mX6_measureReach := am_Mok.of [262, 255, 253, 254] [] [] (by decide +kernel)
def mX6_nameRows : am_M := (yX6_nameRows, cX6_nameRows, 3, (Option.none : Option Jvm.ClassFile.FieldType),
  [(0, .aload_n 0, 1),
  (1, .iconst 0, 1),
  (2, .putfield 126, 3),
  (5, .iconst 1, 1),
  (6, .istore_n 1, 1),
  (7, .iconst 1, 1),
  (8, .istore_n 2, 1),
  (9, .iload_n 1, 1),
  (10, .ifCond .eq 30, 3),
  (13, .iload_n 2, 1),
  (14, .bipush 20, 2),
  (16, .if_icmp .gt 24, 3),
  (19, .aload_n 0, 1),
  (20, .iload_n 2, 1),
  (21, .invokevirtual 129, 3),
  (24, .istore_n 1, 1),
  (25, .iload_n 1, 1),
  (26, .ifCond .eq 8, 3),
  (29, .aload_n 0, 1),
  (30, .iload_n 2, 1),
  (31, .putfield 126, 3),
  (34, .iinc 2 1, 3),
  (37, .goto (-28), 3),
  (40, .return_, 1)],
  [(126, 13, [5])], [], [], ⟨5, 0, 0, 118⟩)
theorem okX6_nameRows : am_Mok mX6_nameRows := am_Mok.of [263] [] [] (by decide +kernel)
def mX6_nameRowsOf : am_M := (yX6_nameRowsOf, cX6_nameRowsOf, 6, (Option.some Jvm.ClassFile.FieldType.boolean),
  [(0, .iconst 0, 1),
  (1, .istore_n 2, 1),
  (2, .aload_n 0, 1),
  (3, .getfield 29, 3),
  (6, .iconst (-1), 1),
  (7, .invokestatic 132, 3),
  (10, .iconst 0, 1),
  (11, .istore_n 3, 1),
  (12, .iload_n 3, 1),
  (13, .aload_n 0, 1),
  (14, .getfield 66, 3),
  (17, .if_icmp .ge 90, 3),
  (20, .iconst (-1), 1),
  (21, .istore 4, 2),
  (23, .aload_n 0, 1),
  (24, .getfield 20, 3),
  (27, .iload_n 3, 1),
  (28, .iaload, 1),
  (29, .iload_n 1, 1),
  (30, .if_icmp .lt 41, 3),
  (33, .iload_n 1, 1),
  (34, .iconst 1, 1),
  (35, .if_icmp .ne 14, 3),
  (38, .aload_n 0, 1),
  (39, .getfield 44, 3),
  (42, .iload_n 3, 1),
  (43, .invokevirtual 138, 3),
  (46, .goto 13, 3),
  (49, .aload_n 0, 1),
  (50, .getfield 26, 3),
  (53, .iload_n 1, 1),
  (54, .iconst 1, 1),
  (55, .isub, 1),
  (56, .aaload, 1),
  (57, .iload_n 3, 1),
  (58, .iaload, 1),
  (59, .istore 5, 2),
  (61, .aload_n 0, 1),
  (62, .iload 5, 2),
  (64, .iload_n 3, 1),
  (65, .iload_n 1, 1),
  (66, .invokevirtual 141, 3),
  (69, .istore 4, 2),
  (71, .aload_n 0, 1),
  (72, .getfield 26, 3),
  (75, .iload_n 1, 1),
  (76, .aaload, 1),
  (77, .iload_n 3, 1),
  (78, .iload 4, 2),
  (80, .iastore, 1),
  (81, .iload_n 2, 1),
  (82, .iload 4, 2),
  (84, .iconst (-1), 1),
  (85, .if_icmp .eq 13, 3),
  (88, .iload 4, 2),
  (90, .iload_n 3, 1),
  (91, .if_icmp .eq 7, 3),
  (94, .iconst 1, 1),
  (95, .goto 4, 3),
  (98, .iconst 0, 1),
  (99, .ior, 1),
  (100, .istore_n 2, 1),
  (101, .iinc 3 1, 3),
  (104, .goto (-92), 3),
  (107, .iload_n 2, 1),
  (108, .ireturn, 1)],
  [(29, 7, [5]), (66, 12, [5]), (20, 5, [5]), (44, 0, [5]), (26, 6, [5])], [], [], ⟨4, 0, 0, 93⟩)
theorem okX6_nameRowsOf : am_Mok mX6_nameRowsOf := am_Mok.of [257, 262, 255, 250, 256] [] [] (by decide +kernel)
def mX6_nameInChain : am_M := (yX6_nameInChain, cX6_nameInChain, 6, (Option.some Jvm.ClassFile.FieldType.int),
  [(0, .iload_n 1, 1),
  (1, .ifCond .lt 10, 3),
  (4, .iload_n 1, 1),
  (5, .sipush 300, 3),
  (8, .if_icmp .lt 5, 3),
  (11, .iconst (-1), 1),
  (12, .ireturn, 1),
  (13, .aload_n 0, 1),
  (14, .getfield 29, 3),
  (17, .iload_n 1, 1),
  (18, .iaload, 1),
  (19, .istore 4, 2),
  (21, .iconst 0, 1),
  (22, .istore 5, 2),
  (24, .iload 5, 2),
  (26, .sipush 300, 3),
  (29, .if_icmp .ge 45, 3),
  (32, .iload 4, 2),
  (34, .ifCond .lt 40, 3),
  (37, .iload 4, 2),
  (39, .sipush 300, 3),
  (42, .if_icmp .ge 32, 3),
  (45, .aload_n 0, 1),
  (46, .iload 4, 2),
  (48, .iload_n 2, 1),
  (49, .iload_n 3, 1),
  (50, .invokevirtual 145, 3),
  (53, .ifCond .eq 6, 3),
  (56, .iload 4, 2),
  (58, .ireturn, 1),
  (59, .aload_n 0, 1),
  (60, .getfield 32, 3),
  (63, .iload 4, 2),
  (65, .iaload, 1),
  (66, .istore 4, 2),
  (68, .iinc 5 1, 3),
  (71, .goto (-47), 3),
  (74, .aload_n 0, 1),
  (75, .getfield 32, 3),
  (78, .iload_n 2, 1),
  (79, .aload_n 0, 1),
  (80, .getfield 29, 3),
  (83, .iload_n 1, 1),
  (84, .iaload, 1),
  (85, .iastore, 1),
  (86, .aload_n 0, 1),
  (87, .getfield 29, 3),
  (90, .iload_n 1, 1),
  (91, .iload_n 2, 1),
  (92, .iastore, 1),
  (93, .iload_n 2, 1),
  (94, .ireturn, 1)],
  [(29, 7, [5]), (32, 8, [5])], [], [], ⟨3, 0, 0, 68⟩)
theorem okX6_nameInChain : am_Mok mX6_nameInChain := am_Mok.of [257, 258] [] [] (by decide +kernel)
def mX6_haveSameLast : am_M := (yX6_haveSameLast, cX6_haveSameLast, 6, (Option.some Jvm.ClassFile.FieldType.boolean),
  [(0, .iload_n 3, 1),
  (1, .iconst 1, 1),
  (2, .if_icmp .ne 13, 3),
  (5, .aload_n 0, 1),
  (6, .getfield 44, 3),
  (9, .iload_n 1, 1),
  (10, .iload_n 2, 1),
  (11, .invokevirtual 149, 3),
  (14, .ireturn, 1),
  (15, .iload_n 1, 1),
  (16, .iload_n 3, 1),
  (17, .iadd, 1),
  (18, .iconst 1, 1),
  (19, .isub, 1),
  (20, .istore 4, 2),
  (22, .iload_n 2, 1),
  (23, .iload_n 3, 1),
  (24, .iadd, 1),
  (25, .iconst 1, 1),
  (26, .isub, 1),
  (27, .istore 5, 2),
  (29, .iload 4, 2),
  (31, .aload_n 0, 1),
  (32, .getfield 66, 3),
  (35, .if_icmp .ge 37, 3),
  (38, .iload 5, 2),
  (40, .aload_n 0, 1),
  (41, .getfield 66, 3),
  (44, .if_icmp .ge 28, 3),
  (47, .aload_n 0, 1),
  (48, .getfield 26, 3),
  (51, .iconst 1, 1),
  (52, .aaload, 1),
  (53, .iload 4, 2),
  (55, .iaload, 1),
  (56, .aload_n 0, 1),
  (57, .getfield 26, 3),
  (60, .iconst 1, 1),
  (61, .aaload, 1),
  (62, .iload 5, 2),
  (64, .iaload, 1),
  (65, .if_icmp .ne 7, 3),
  (68, .iconst 1, 1),
  (69, .goto 4, 3),
  (72, .iconst 0, 1),
  (73, .ireturn, 1)],
  [(44, 0, [5]), (66, 12, [5]), (26, 6, [5])], [], [], ⟨2, 0, 0, 43⟩)
theorem okX6_haveSameLast : am_Mok mX6_haveSameLast := am_Mok.of [250, 262, 256] [] [] (by decide +kernel)
def mX6_chooseBest : am_M := (yX6_chooseBest, cX6_chooseBest, 2, (Option.none : Option Jvm.ClassFile.FieldType),
  [(0, .aload_n 0, 1),
  (1, .iconst 0, 1),
  (2, .putfield 83, 3),
  (5, .aload_n 0, 1),
  (6, .getfield 126, 3),
  (9, .istore_n 1, 1),
  (10, .iload_n 1, 1),
  (11, .iconst 2, 1),
  (12, .if_icmp .lt 32, 3),
  (15, .aload_n 0, 1),
  (16, .iload_n 1, 1),
  (17, .invokevirtual 153, 3),
  (20, .ifCond .eq 11, 3),
  (23, .aload_n 0, 1),
  (24, .iload_n 1, 1),
  (25, .invokevirtual 156, 3),
  (28, .goto 10, 3),
  (31, .aload_n 0, 1),
  (32, .iload_n 1, 1),
  (33, .iconst 1, 1),
  (34, .isub, 1),
  (35, .putfield 126, 3),
  (38, .iinc 1 (-1), 3),
  (41, .goto (-31), 3),
  (44, .return_, 1)],
  [(83, 14, [5]), (126, 13, [5])], [], [], ⟨2, 0, 0, 47⟩)
theorem okX6_chooseBest : am_Mok mX6_chooseBest := am_Mok.of [264, 263] [] [] (by decide +kernel)
def mX6_fitNameAt : am_M := (yX6_fitNameAt, cX6_fitNameAt, 3, (Option.some Jvm.ClassFile.FieldType.int),
  [(0, .aload_n 0, 1),
  (1, .getfield 20, 3),
  (4, .iload_n 1, 1),
  (5, .iaload, 1),
  (6, .iload_n 2, 1),
  (7, .if_icmp .lt 14, 3),
  (10, .aload_n 0, 1),
  (11, .getfield 26, 3),
  (14, .iload_n 2, 1),
  (15, .aaload, 1),
  (16, .iload_n 1, 1),
  (17, .iaload, 1),
  (18, .goto 4, 3),
  (21, .iconst (-1), 1),
  (22, .ireturn, 1)],
  [(20, 5, [5]), (26, 6, [5])], [], [], ⟨0, 0, 0, 0⟩)
theorem okX6_fitNameAt : am_Mok mX6_fitNameAt := am_Mok.of [255, 256] [] [] (by decide +kernel)
def mX6_countRowsOf : am_M := (yX6_countRowsOf, cX6_countRowsOf, 5, (Option.some Jvm.ClassFile.FieldType.boolean),
  [(0, .iconst 0, 1),
  (1, .istore_n 2, 1),
  (2, .aload_n 0, 1),
  (3, .getfield 35, 3),
  (6, .iconst 0, 1),
  (7, .invokestatic 132, 3),
  (10, .iconst 0, 1),
  (11, .istore_n 3, 1),
  (12, .iload_n 3, 1),
  (13, .aload_n 0, 1),
  (14, .getfield 66, 3),
  (17, .if_icmp .ge 103, 3),
  (20, .aload_n 0, 1),
  (21, .iload_n 3, 1),
  (22, .iload_n 1, 1),
  (23, .invokevirtual 159, 3),
  (26, .istore 4, 2),
  (28, .iload 4, 2),
  (30, .ifCond .lt 84, 3),
  (33, .iload 4, 2),
  (35, .sipush 300, 3),
  (38, .if_icmp .ge 76, 3),
  (41, .aload_n 0, 1),
  (42, .getfield 35, 3),
  (45, .iload 4, 2),
  (47, .iaload, 1),
  (48, .ifCond .ne 32, 3),
  (51, .aload_n 0, 1),
  (52, .getfield 38, 3),
  (55, .iload 4, 2),
  (57, .iload_n 3, 1),
  (58, .iastore, 1),
  (59, .aload_n 0, 1),
  (60, .getfield 35, 3),
  (63, .iload 4, 2),
  (65, .iconst 1, 1),
  (66, .iastore, 1),
  (67, .aload_n 0, 1),
  (68, .getfield 41, 3),
  (71, .iload 4, 2),
  (73, .iload_n 3, 1),
  (74, .iload_n 1, 1),
  (75, .iadd, 1),
  (76, .iastore, 1),
  (77, .goto 37, 3),
  (80, .iload_n 3, 1),
  (81, .aload_n 0, 1),
  (82, .getfield 41, 3),
  (85, .iload 4, 2),
  (87, .iaload, 1),
  (88, .if_icmp .lt 26, 3),
  (91, .iconst 1, 1),
  (92, .istore_n 2, 1),
  (93, .aload_n 0, 1),
  (94, .getfield 35, 3),
  (97, .iload 4, 2),
  (99, .dup2, 1),
  (100, .iaload, 1),
  (101, .iconst 1, 1),
  (102, .iadd, 1),
  (103, .iastore, 1),
  (104, .aload_n 0, 1),
  (105, .getfield 41, 3),
  (108, .iload 4, 2),
  (110, .iload_n 3, 1),
  (111, .iload_n 1, 1),
  (112, .iadd, 1),
  (113, .iastore, 1),
  (114, .iinc 3 1, 3),
  (117, .goto (-105), 3),
  (120, .iload_n 2, 1),
  (121, .ireturn, 1)],
  [(35, 9, [5]), (66, 12, [5]), (38, 10, [5]), (41, 11, [5])], [], [], ⟨1, 0, 0, 23⟩)
theorem okX6_countRowsOf : am_Mok mX6_countRowsOf := am_Mok.of [259, 262, 260, 261] [] [] (by decide +kernel)
def mX6_weighRowsOf : am_M := (yX6_weighRowsOf, cX6_weighRowsOf, 5, (Option.none : Option Jvm.ClassFile.FieldType),
  [(0, .iconst 0, 1),
  (1, .istore_n 2, 1),
  (2, .iload_n 2, 1),
  (3, .aload_n 0, 1),
  (4, .getfield 66, 3),
  (7, .if_icmp .ge 74, 3),
  (10, .aload_n 0, 1),
  (11, .iload_n 2, 1),
  (12, .iload_n 1, 1),
  (13, .invokevirtual 159, 3),
  (16, .istore_n 3, 1),
  (17, .iload_n 3, 1),
  (18, .ifCond .lt 57, 3),
  (21, .iload_n 3, 1),
  (22, .sipush 300, 3),
  (25, .if_icmp .ge 50, 3),
  (28, .aload_n 0, 1),
  (29, .getfield 38, 3),
  (32, .iload_n 3, 1),
  (33, .iaload, 1),
  (34, .iload_n 2, 1),
  (35, .if_icmp .ne 40, 3),
  (38, .iload_n 1, 1),
  (39, .aload_n 0, 1),
  (40, .getfield 35, 3),
  (43, .iload_n 3, 1),
  (44, .iaload, 1),
  (45, .invokestatic 162, 3),
  (48, .istore 4, 2),
  (50, .iload 4, 2),
  (52, .aload_n 0, 1),
  (53, .getfield 83, 3),
  (56, .if_icmp .le 19, 3),
  (59, .aload_n 0, 1),
  (60, .iload 4, 2),
  (62, .putfield 83, 3),
  (65, .aload_n 0, 1),
  (66, .iload_n 1, 1),
  (67, .putfield 165, 3),
  (70, .aload_n 0, 1),
  (71, .iload_n 2, 1),
  (72, .putfield 168, 3),
  (75, .iinc 2 1, 3),
  (78, .goto (-76), 3),
  (81, .return_, 1)],
  [(66, 12, [5]), (38, 10, [5]), (35, 9, [5]), (83, 14, [5]), (165, 15, [5]), (168, 16, [5])], [], [], ⟨1, 0, 0, 22⟩)
theorem okX6_weighRowsOf : am_Mok mX6_weighRowsOf := am_Mok.of [262, 260, 259, 264, 265, 266] [] [] (by decide +kernel)
def mX6_takeBest : am_M := (yX6_takeBest, cX6_takeBest, 5, (Option.none : Option Jvm.ClassFile.FieldType),
  [(0, .aload_n 0, 1),
  (1, .getfield 52, 3),
  (4, .aload_n 0, 1),
  (5, .getfield 168, 3),
  (8, .aload_n 0, 1),
  (9, .getfield 165, 3),
  (12, .invokevirtual 171, 3),
  (15, .aload_n 0, 1),
  (16, .aload_n 0, 1),
  (17, .getfield 168, 3),
  (20, .aload_n 0, 1),
  (21, .getfield 165, 3),
  (24, .invokevirtual 159, 3),
  (27, .istore_n 1, 1),
  (28, .aload_n 0, 1),
  (29, .getfield 168, 3),
  (32, .istore_n 2, 1),
  (33, .aload_n 0, 1),
  (34, .getfield 168, 3),
  (37, .istore_n 3, 1),
  (38, .iload_n 3, 1),
  (39, .aload_n 0, 1),
  (40, .getfield 66, 3),
  (43, .if_icmp .ge 77, 3),
  (46, .iload_n 3, 1),
  (47, .iload_n 2, 1),
  (48, .if_icmp .lt 54, 3),
  (51, .aload_n 0, 1),
  (52, .iload_n 3, 1),
  (53, .aload_n 0, 1),
  (54, .getfield 165, 3),
  (57, .invokevirtual 159, 3),
  (60, .iload_n 1, 1),
  (61, .if_icmp .ne 41, 3),
  (64, .aload_n 0, 1),
  (65, .getfield 44, 3),
  (68, .iload_n 3, 1),
  (69, .invokevirtual 175, 3),
  (72, .istore 4, 2),
  (74, .aload_n 0, 1),
  (75, .getfield 52, 3),
  (78, .iload_n 3, 1),
  (79, .iload 4, 2),
  (81, .iload_n 3, 1),
  (82, .aload_n 0, 1),
  (83, .getfield 44, 3),
  (86, .iload 4, 2),
  (88, .invokevirtual 106, 3),
  (91, .isub, 1),
  (92, .invokevirtual 178, 3),
  (95, .iload_n 3, 1),
  (96, .aload_n 0, 1),
  (97, .getfield 165, 3),
  (100, .iadd, 1),
  (101, .istore_n 2, 1),
  (102, .iload_n 3, 1),
  (103, .iload_n 2, 1),
  (104, .if_icmp .ge 10, 3),
  (107, .aload_n 0, 1),
  (108, .getfield 13, 3),
  (111, .iload_n 3, 1),
  (112, .iconst 0, 1),
  (113, .bastore, 1),
  (114, .iinc 3 1, 3),
  (117, .goto (-79), 3),
  (120, .return_, 1)],
  [(52, 2, [5]), (168, 16, [5]), (165, 15, [5]), (66, 12, [5]), (44, 0, [5]), (13, 3, [5])], [], [], ⟨2, 0, 0, 42⟩)
theorem okX6_takeBest : am_Mok mX6_takeBest := am_Mok.of [252, 266, 265, 262, 250, 253] [] [] (by decide +kernel)
end
section
def mX7_init : am_M := (yX7_init, cX7_init, 1, (Option.none : Option Jvm.ClassFile.FieldType),
  [(0, .aload_n 0, 1),
  (1, .invokespecial 5, 3),
  (4, .aload_n 0, 1),
  (5, .bipush 60, 2),
  (7, .newarray .int, 2),
  (9, .putfield 13, 3),
  (12, .aload_n 0, 1),
  (13, .bipush 60, 2),
  (15, .newarray .int, 2),
  (17, .putfield 17, 3),
  (20, .aload_n 0, 1),
  (21, .bipush 60, 2),
  (23, .newarray .int, 2),
  (25, .putfield 20, 3),
  (28, .aload_n 0, 1),
  (29, .bipush 60, 2),
  (31, .newarray .int, 2),
  (33, .putfield 23, 3),
  (36, .aload_n 0, 1),
  (37, .bipush 60, 2),
  (39, .newarray .int, 2),
  (41, .putfield 26, 3),
  (44, .aload_n 0, 1),
  (45, .sipush 150, 3),
  (48, .newarray .int, 2),
  (50, .putfield 29, 3),
  (53, .aload_n 0, 1),
  (54, .sipush 150, 3),
  (57, .newarray .int, 2),
  (59, .putfield 32, 3),
  (62, .aload_n 0, 1),
  (63, .sipush 150, 3),
  (66, .newarray .int, 2),
  (68, .putfield 35, 3),
  (71, .aload_n 0, 1),
  (72, .sipush 150, 3),
  (75, .newarray .int, 2),
  (77, .putfield 38, 3),
  (80, .aload_n 0, 1),
  (81, .sipush 300, 3),
  (84, .newarray .int, 2),
  (86, .putfield 41, 3),
  (89, .aload_n 0, 1),
  (90, .getfield 41, 3),
  (93, .iconst (-1), 1),
  (94, .invokestatic 44, 3),
  (97, .return_, 1)],
  [(13, 0, [6]), (17, 1, [6]), (20, 2, [6]), (23, 3, [6]), (26, 4, [6]), (29, 5, [6]), (32, 6, [6]), (35, 7, [6]), (38, 8, [6]), (41, 9, [6])], [], [], ⟨1, 10, 1200, 23⟩)
theorem okX7_init : am_Mok mX7_init := am_Mok.of [205, 206, 207, 208, 209, 210, 211, 212, 213, 214] [] [] (by decide +kernel)
def mX7_drop : am_M := (yX7_drop, cX7_drop, 1, (Option.none : Option Jvm.ClassFile.FieldType),
  [(0, .aload_n 0, 1),
  (1, .getfield 41, 3),
  (4, .iconst (-1), 1),
  (5, .invokestatic 44, 3),
  (8, .aload_n 0, 1),
  (9, .iconst 0, 1),
  (10, .putfield 50, 3),
  (13, .aload_n 0, 1),
  (14, .iconst 0, 1),
  (15, .putfield 54, 3),
  (18, .return_, 1)],
  [(41, 9, [6]), (50, 10, [6]), (54, 11, [6])], [], [], ⟨1, 0, 0, 23⟩)
theorem okX7_drop : am_Mok mX7_drop := am_Mok.of [214, 215, 216] [] [] (by decide +kernel)
def mX7_size : am_M := (yX7_size, cX7_size, 1, (Option.some Jvm.ClassFile.FieldType.int),
  [(0, .aload_n 0, 1),
  (1, .getfield 50, 3),
  (4, .ireturn, 1)],
  [(50, 10, [6])], [], [], ⟨0, 0, 0, 0⟩)
theorem okX7_size : am_Mok mX7_size := am_Mok.of [215] [] [] (by decide +kernel)
def mX7_has : am_M := (yX7_has, cX7_has, 2, (Option.some Jvm.ClassFile.FieldType.boolean),
  [(0, .iload_n 1, 1),
  (1, .ifCond .lt 15, 3),
  (4, .iload_n 1, 1),
  (5, .aload_n 0, 1),
  (6, .getfield 50, 3),
  (9, .if_icmp .ge 7, 3),
  (12, .iconst 1, 1),
  (13, .goto 4, 3),
  (16, .iconst 0, 1),
  (17, .ireturn, 1)],
  [(50, 10, [6])], [], [], ⟨0, 0, 0, 0⟩)
theorem okX7_has : am_Mok mX7_has := am_Mok.of [215] [] [] (by decide +kernel)
def mX7_addRoutine : am_M := (yX7_addRoutine, cX7_addRoutine, 3, (Option.none : Option Jvm.ClassFile.FieldType),
  [(0, .aload_n 0, 1),
  (1, .getfield 50, 3),
  (4, .bipush 60, 2),
  (6, .if_icmp .ge 66, 3),
  (9, .aload_n 0, 1),
  (10, .getfield 13, 3),
  (13, .aload_n 0, 1),
  (14, .getfield 50, 3),
  (17, .iload_n 1, 1),
  (18, .iastore, 1),
  (19, .aload_n 0, 1),
  (20, .getfield 17, 3),
  (23, .aload_n 0, 1),
  (24, .getfield 50, 3),
  (27, .iload_n 2, 1),
  (28, .iastore, 1),
  (29, .aload_n 0, 1),
  (30, .getfield 20, 3),
  (33, .aload_n 0, 1),
  (34, .getfield 50, 3),
  (37, .aload_n 0, 1),
  (38, .getfield 54, 3),
  (41, .iastore, 1),
  (42, .aload_n 0, 1),
  (43, .getfield 23, 3),
  (46, .aload_n 0, 1),
  (47, .getfield 50, 3),
  (50, .iconst 0, 1),
  (51, .iastore, 1),
  (52, .aload_n 0, 1),
  (53, .getfield 26, 3),
  (56, .aload_n 0, 1),
  (57, .getfield 50, 3),
  (60, .iconst 0, 1),
  (61, .iastore, 1),
  (62, .aload_n 0, 1),
  (63, .dup, 1),
  (64, .getfield 50, 3),
  (67, .iconst 1, 1),
  (68, .iadd, 1),
  (69, .putfield 50, 3),
  (72, .return_, 1)],
  [(50, 10, [6]), (13, 0, [6]), (17, 1, [6]), (20, 2, [6]), (54, 11, [6]), (23, 3, [6]), (26, 4, [6])], [], [], ⟨0, 0, 0, 0⟩)
theorem okX7_addRoutine : am_Mok mX7_addRoutine := am_Mok.of [215, 205, 206, 207, 216, 208, 209] [] [] (by decide +kernel)
def mX7_addOccurrence : am_M := (yX7_addOccurrence, cX7_addOccurrence, 5, (Option.none : Option Jvm.ClassFile.FieldType),
  [(0, .aload_n 0, 1),
  (1, .getfield 50, 3),
  (4, .iconst 1, 1),
  (5, .isub, 1),
  (6, .istore 4, 2),
  (8, .iload 4, 2),
  (10, .ifCond .lt 96, 3),
  (13, .aload_n 0, 1),
  (14, .getfield 54, 3),
  (17, .sipush 150, 3),
  (20, .if_icmp .ge 86, 3),
  (23, .iload_n 1, 1),
  (24, .ifCond .lt 82, 3),
  (27, .iload_n 1, 1),
  (28, .sipush 300, 3),
  (31, .if_icmp .ge 75, 3),
  (34, .aload_n 0, 1),
  (35, .getfield 29, 3),
  (38, .aload_n 0, 1),
  (39, .getfield 54, 3),
  (42, .iload 4, 2),
  (44, .iastore, 1),
  (45, .aload_n 0, 1),
  (46, .getfield 32, 3),
  (49, .aload_n 0, 1),
  (50, .getfield 54, 3),
  (53, .iload_n 2, 1),
  (54, .iastore, 1),
  (55, .aload_n 0, 1),
  (56, .getfield 35, 3),
  (59, .aload_n 0, 1),
  (60, .getfield 54, 3),
  (63, .iload_n 3, 1),
  (64, .iastore, 1),
  (65, .aload_n 0, 1),
  (66, .getfield 38, 3),
  (69, .aload_n 0, 1),
  (70, .getfield 54, 3),
  (73, .iconst 0, 1),
  (74, .iastore, 1),
  (75, .aload_n 0, 1),
  (76, .getfield 41, 3),
  (79, .iload_n 1, 1),
  (80, .aload_n 0, 1),
  (81, .getfield 54, 3),
  (84, .iastore, 1),
  (85, .aload_n 0, 1),
  (86, .dup, 1),
  (87, .getfield 54, 3),
  (90, .iconst 1, 1),
  (91, .iadd, 1),
  (92, .putfield 54, 3),
  (95, .aload_n 0, 1),
  (96, .getfield 23, 3),
  (99, .iload 4, 2),
  (101, .dup2, 1),
  (102, .iaload, 1),
  (103, .iconst 1, 1),
  (104, .iadd, 1),
  (105, .iastore, 1),
  (106, .return_, 1)],
  [(50, 10, [6]), (54, 11, [6]), (29, 5, [6]), (32, 6, [6]), (35, 7, [6]), (38, 8, [6]), (41, 9, [6]), (23, 3, [6])], [], [], ⟨0, 0, 0, 0⟩)
theorem okX7_addOccurrence : am_Mok mX7_addOccurrence := am_Mok.of [215, 216, 210, 211, 212, 213, 214, 208] [] [] (by decide +kernel)
def mX7_spotOf : am_M := (yX7_spotOf, cX7_spotOf, 2, (Option.some Jvm.ClassFile.FieldType.int),
  [(0, .aload_n 0, 1),
  (1, .iload_n 1, 1),
  (2, .invokevirtual 57, 3),
  (5, .ifCond .eq 12, 3),
  (8, .aload_n 0, 1),
  (9, .getfield 13, 3),
  (12, .iload_n 1, 1),
  (13, .iaload, 1),
  (14, .goto 4, 3),
  (17, .iconst (-1), 1),
  (18, .ireturn, 1)],
  [(13, 0, [6])], [], [], ⟨1, 0, 0, 21⟩)
theorem okX7_spotOf : am_Mok mX7_spotOf := am_Mok.of [205] [] [] (by decide +kernel)
def mX7_lengthOf : am_M := (yX7_lengthOf, cX7_lengthOf, 2, (Option.some Jvm.ClassFile.FieldType.int),
  [(0, .aload_n 0, 1),
  (1, .iload_n 1, 1),
  (2, .invokevirtual 57, 3),
  (5, .ifCond .eq 12, 3),
  (8, .aload_n 0, 1),
  (9, .getfield 17, 3),
  (12, .iload_n 1, 1),
  (13, .iaload, 1),
  (14, .goto 4, 3),
  (17, .iconst 0, 1),
  (18, .ireturn, 1)],
  [(17, 1, [6])], [], [], ⟨1, 0, 0, 21⟩)
theorem okX7_lengthOf : am_Mok mX7_lengthOf := am_Mok.of [206] [] [] (by decide +kernel)
def mX7_timesOf : am_M := (yX7_timesOf, cX7_timesOf, 2, (Option.some Jvm.ClassFile.FieldType.int),
  [(0, .aload_n 0, 1),
  (1, .iload_n 1, 1),
  (2, .invokevirtual 57, 3),
  (5, .ifCond .eq 12, 3),
  (8, .aload_n 0, 1),
  (9, .getfield 23, 3),
  (12, .iload_n 1, 1),
  (13, .iaload, 1),
  (14, .goto 4, 3),
  (17, .iconst 0, 1),
  (18, .ireturn, 1)],
  [(23, 3, [6])], [], [], ⟨1, 0, 0, 21⟩)
theorem okX7_timesOf : am_Mok mX7_timesOf := am_Mok.of [208] [] [] (by decide +kernel)
def mX7_savesOf : am_M := (yX7_savesOf, cX7_savesOf, 2, (Option.some Jvm.ClassFile.FieldType.int),
  [(0, .aload_n 0, 1),
  (1, .iload_n 1, 1),
  (2, .invokevirtual 57, 3),
  (5, .ifCond .eq 21, 3),
  (8, .aload_n 0, 1),
  (9, .getfield 17, 3),
  (12, .iload_n 1, 1),
  (13, .iaload, 1),
  (14, .aload_n 0, 1),
  (15, .getfield 23, 3),
  (18, .iload_n 1, 1),
  (19, .iaload, 1),
  (20, .invokestatic 61, 3),
  (23, .goto 4, 3),
  (26, .iconst 0, 1),
  (27, .ireturn, 1)],
  [(17, 1, [6]), (23, 3, [6])], [], [], ⟨1, 0, 0, 21⟩)
theorem okX7_savesOf : am_Mok mX7_savesOf := am_Mok.of [206, 208] [] [] (by decide +kernel)
def mX7_savesInAll : am_M := (yX7_savesInAll, cX7_savesInAll, 3, (Option.some Jvm.ClassFile.FieldType.int),
  [(0, .iconst 0, 1),
  (1, .istore_n 1, 1),
  (2, .iconst 0, 1),
  (3, .istore_n 2, 1),
  (4, .iload_n 2, 1),
  (5, .aload_n 0, 1),
  (6, .getfield 50, 3),
  (9, .if_icmp .ge 17, 3),
  (12, .iload_n 1, 1),
  (13, .aload_n 0, 1),
  (14, .iload_n 2, 1),
  (15, .invokevirtual 65, 3),
  (18, .iadd, 1),
  (19, .istore_n 1, 1),
  (20, .iinc 2 1, 3),
  (23, .goto (-19), 3),
  (26, .iload_n 1, 1),
  (27, .ireturn, 1)],
  [(50, 10, [6])], [], [], ⟨2, 0, 0, 42⟩)
theorem okX7_savesInAll : am_Mok mX7_savesInAll := am_Mok.of [215] [] [] (by decide +kernel)
def mX7_savedBytes : am_M := (yX7_savedBytes, cX7_savedBytes, 2, (Option.some Jvm.ClassFile.FieldType.int),
  [(0, .iconst 4, 1),
  (1, .iload_n 1, 1),
  (2, .iconst 1, 1),
  (3, .isub, 1),
  (4, .iload_n 0, 1),
  (5, .imul, 1),
  (6, .iconst 1, 1),
  (7, .isub, 1),
  (8, .iload_n 1, 1),
  (9, .isub, 1),
  (10, .imul, 1),
  (11, .ireturn, 1)],
  [], [], [], ⟨0, 0, 0, 0⟩)
theorem okX7_savedBytes : am_Mok mX7_savedBytes := am_Mok.of [] [] [] (by decide +kernel)
def mX7_setFirstWord : am_M := (yX7_setFirstWord, cX7_setFirstWord, 3, (Option.none : Option Jvm.ClassFile.FieldType),
  [(0, .aload_n 0, 1),
  (1, .iload_n 1, 1),
  (2, .invokevirtual 57, 3),
  (5, .ifCond .eq 10, 3),
  (8, .aload_n 0, 1),
  (9, .getfield 26, 3),
  (12, .iload_n 1, 1),
  (13, .iload_n 2, 1),
  (14, .iastore, 1),
  (15, .return_, 1)],
  [(26, 4, [6])], [], [], ⟨1, 0, 0, 21⟩)
theorem okX7_setFirstWord : am_Mok mX7_setFirstWord := am_Mok.of [209] [] [] (by decide +kernel)
def mX7_firstWordOf : am_M := (yX7_firstWordOf, cX7_firstWordOf, 2, (Option.some Jvm.ClassFile.FieldType.int),
  [(0, .aload_n 0, 1),
  (1, .iload_n 1, 1),
  (2, .invokevirtual 57, 3),
  (5, .ifCond .eq 12, 3),
  (8, .aload_n 0, 1),
  (9, .getfield 26, 3),
  (12, .iload_n 1, 1),
  (13, .iaload, 1),
  (14, .goto 4, 3),
  (17, .iconst (-1), 1),
  (18, .ireturn, 1)],
  [(26, 4, [6])], [], [], ⟨1, 0, 0, 21⟩)
theorem okX7_firstWordOf : am_Mok mX7_firstWordOf := am_Mok.of [209] [] [] (by decide +kernel)
def mX7_addressOf : am_M := (yX7_addressOf, cX7_addressOf, 2, (Option.some Jvm.ClassFile.FieldType.int),
  [(0, .aload_n 0, 1),
  (1, .iload_n 1, 1),
  (2, .invokevirtual 57, 3),
  (5, .ifCond .eq 15, 3),
  (8, .aload_n 0, 1),
  (9, .getfield 26, 3),
  (12, .iload_n 1, 1),
  (13, .iaload, 1),
  (14, .invokestatic 69, 3),
  (17, .goto 4, 3),
  (20, .iconst (-1), 1),
  (21, .ireturn, 1)],
  [(26, 4, [6])], [], [], ⟨1, 0, 0, 21⟩)
theorem okX7_addressOf : am_Mok mX7_addressOf := am_Mok.of [209] [] [] (by decide +kernel)
def mX7_indexOf : am_M := (yX7_indexOf, cX7_indexOf, 3, (Option.some Jvm.ClassFile.FieldType.int),
  [(0, .aload_n 0, 1),
  (1, .iload_n 1, 1),
  (2, .invokevirtual 57, 3),
  (5, .ifCond .eq 28, 3),
  (8, .iload_n 2, 1),
  (9, .ifCond .lt 24, 3),
  (12, .iload_n 2, 1),
  (13, .aload_n 0, 1),
  (14, .getfield 23, 3),
  (17, .iload_n 1, 1),
  (18, .iaload, 1),
  (19, .if_icmp .ge 14, 3),
  (22, .aload_n 0, 1),
  (23, .getfield 20, 3),
  (26, .iload_n 1, 1),
  (27, .iaload, 1),
  (28, .iload_n 2, 1),
  (29, .iadd, 1),
  (30, .goto 4, 3),
  (33, .iconst (-1), 1),
  (34, .ireturn, 1)],
  [(23, 3, [6]), (20, 2, [6])], [], [], ⟨1, 0, 0, 21⟩)
theorem okX7_indexOf : am_Mok mX7_indexOf := am_Mok.of [208, 207] [] [] (by decide +kernel)
def mX7_beginningAt : am_M := (yX7_beginningAt, cX7_beginningAt, 2, (Option.some Jvm.ClassFile.FieldType.int),
  [(0, .iload_n 1, 1),
  (1, .ifCond .lt 21, 3),
  (4, .iload_n 1, 1),
  (5, .aload_n 0, 1),
  (6, .getfield 41, 3),
  (9, .arraylength, 1),
  (10, .if_icmp .ge 12, 3),
  (13, .aload_n 0, 1),
  (14, .getfield 41, 3),
  (17, .iload_n 1, 1),
  (18, .iaload, 1),
  (19, .goto 4, 3),
  (22, .iconst (-1), 1),
  (23, .ireturn, 1)],
  [(41, 9, [6])], [], [], ⟨0, 0, 0, 0⟩)
theorem okX7_beginningAt : am_Mok mX7_beginningAt := am_Mok.of [214] [] [] (by decide +kernel)
def mX7_hasIndex : am_M := (yX7_hasIndex, cX7_hasIndex, 2, (Option.some Jvm.ClassFile.FieldType.boolean),
  [(0, .iload_n 1, 1),
  (1, .ifCond .lt 15, 3),
  (4, .iload_n 1, 1),
  (5, .aload_n 0, 1),
  (6, .getfield 54, 3),
  (9, .if_icmp .ge 7, 3),
  (12, .iconst 1, 1),
  (13, .goto 4, 3),
  (16, .iconst 0, 1),
  (17, .ireturn, 1)],
  [(54, 11, [6])], [], [], ⟨0, 0, 0, 0⟩)
theorem okX7_hasIndex : am_Mok mX7_hasIndex := am_Mok.of [216] [] [] (by decide +kernel)
def mX7_ownerAt : am_M := (yX7_ownerAt, cX7_ownerAt, 2, (Option.some Jvm.ClassFile.FieldType.int),
  [(0, .aload_n 0, 1),
  (1, .iload_n 1, 1),
  (2, .invokevirtual 74, 3),
  (5, .ifCond .eq 12, 3),
  (8, .aload_n 0, 1),
  (9, .getfield 29, 3),
  (12, .iload_n 1, 1),
  (13, .iaload, 1),
  (14, .goto 4, 3),
  (17, .iconst (-1), 1),
  (18, .ireturn, 1)],
  [(29, 5, [6])], [], [], ⟨1, 0, 0, 21⟩)
theorem okX7_ownerAt : am_Mok mX7_ownerAt := am_Mok.of [210] [] [] (by decide +kernel)
def mX7_bodyAt : am_M := (yX7_bodyAt, cX7_bodyAt, 2, (Option.some Jvm.ClassFile.FieldType.int),
  [(0, .aload_n 0, 1),
  (1, .iload_n 1, 1),
  (2, .invokevirtual 74, 3),
  (5, .ifCond .eq 12, 3),
  (8, .aload_n 0, 1),
  (9, .getfield 32, 3),
  (12, .iload_n 1, 1),
  (13, .iaload, 1),
  (14, .goto 4, 3),
  (17, .iconst (-1), 1),
  (18, .ireturn, 1)],
  [(32, 6, [6])], [], [], ⟨1, 0, 0, 21⟩)
theorem okX7_bodyAt : am_Mok mX7_bodyAt := am_Mok.of [211] [] [] (by decide +kernel)
def mX7_placeAt : am_M := (yX7_placeAt, cX7_placeAt, 2, (Option.some Jvm.ClassFile.FieldType.int),
  [(0, .aload_n 0, 1),
  (1, .iload_n 1, 1),
  (2, .invokevirtual 74, 3),
  (5, .ifCond .eq 12, 3),
  (8, .aload_n 0, 1),
  (9, .getfield 35, 3),
  (12, .iload_n 1, 1),
  (13, .iaload, 1),
  (14, .goto 4, 3),
  (17, .iconst (-1), 1),
  (18, .ireturn, 1)],
  [(35, 7, [6])], [], [], ⟨1, 0, 0, 21⟩)
theorem okX7_placeAt : am_Mok mX7_placeAt := am_Mok.of [212] [] [] (by decide +kernel)
def mX7_setWord : am_M := (yX7_setWord, cX7_setWord, 3, (Option.none : Option Jvm.ClassFile.FieldType),
  [(0, .aload_n 0, 1),
  (1, .iload_n 1, 1),
  (2, .invokevirtual 74, 3),
  (5, .ifCond .eq 10, 3),
  (8, .aload_n 0, 1),
  (9, .getfield 38, 3),
  (12, .iload_n 1, 1),
  (13, .iload_n 2, 1),
  (14, .iastore, 1),
  (15, .return_, 1)],
  [(38, 8, [6])], [], [], ⟨1, 0, 0, 21⟩)
theorem okX7_setWord : am_Mok mX7_setWord := am_Mok.of [213] [] [] (by decide +kernel)
def mX7_wordAddressAt : am_M := (yX7_wordAddressAt, cX7_wordAddressAt, 2, (Option.some Jvm.ClassFile.FieldType.int),
  [(0, .aload_n 0, 1),
  (1, .iload_n 1, 1),
  (2, .invokevirtual 74, 3),
  (5, .ifCond .eq 15, 3),
  (8, .aload_n 0, 1),
  (9, .getfield 38, 3),
  (12, .iload_n 1, 1),
  (13, .iaload, 1),
  (14, .invokestatic 69, 3),
  (17, .goto 4, 3),
  (20, .iconst (-1), 1),
  (21, .ireturn, 1)],
  [(38, 8, [6])], [], [], ⟨1, 0, 0, 21⟩)
theorem okX7_wordAddressAt : am_Mok mX7_wordAddressAt := am_Mok.of [213] [] [] (by decide +kernel)
end
section
def mX8_selectorOf : am_M := (yX8_selectorOf, cX8_selectorOf, 1, (Option.some Jvm.ClassFile.FieldType.int),
  [(0, .iload_n 0, 1),
  (1, .ifCond .lt 19, 3),
  (4, .iload_n 0, 1),
  (5, .getstatic 7, 3),
  (8, .arraylength, 1),
  (9, .if_icmp .ge 11, 3),
  (12, .getstatic 7, 3),
  (15, .iload_n 0, 1),
  (16, .iaload, 1),
  (17, .goto 4, 3),
  (20, .iconst 0, 1),
  (21, .ireturn, 1)],
  [], [], [(7, 3)], ⟨0, 0, 0, 0⟩)
theorem okX8_selectorOf : am_Mok mX8_selectorOf := am_Mok.of [] [] [865] (by decide +kernel)
def mX8_isOther : am_M := (yX8_isOther, cX8_isOther, 1, (Option.some Jvm.ClassFile.FieldType.boolean),
  [(0, .iload_n 0, 1),
  (1, .ifCond .lt 24, 3),
  (4, .iload_n 0, 1),
  (5, .getstatic 13, 3),
  (8, .arraylength, 1),
  (9, .if_icmp .ge 16, 3),
  (12, .getstatic 13, 3),
  (15, .iload_n 0, 1),
  (16, .iaload, 1),
  (17, .iconst 1, 1),
  (18, .if_icmp .ne 7, 3),
  (21, .iconst 1, 1),
  (22, .goto 4, 3),
  (25, .iconst 0, 1),
  (26, .ireturn, 1)],
  [], [], [(13, 4)], ⟨0, 0, 0, 0⟩)
theorem okX8_isOther : am_Mok mX8_isOther := am_Mok.of [] [] [859] (by decide +kernel)
def mX8_calculate : am_M := (yX8_calculate, cX8_calculate, 4, (Option.some Jvm.ClassFile.FieldType.int),
  [(0, .iload_n 0, 1),
  (1, .tableswitch 117 0 6 #[43, 57, 64, 75, 89, 93, 113], 43),
  (44, .iload_n 1, 1),
  (45, .ifCond .eq 9, 3),
  (48, .iload_n 2, 1),
  (49, .iload_n 3, 1),
  (50, .isub, 1),
  (51, .goto 6, 3),
  (54, .iload_n 2, 1),
  (55, .iload_n 3, 1),
  (56, .iadd, 1),
  (57, .ireturn, 1),
  (58, .iload_n 2, 1),
  (59, .iload_n 3, 1),
  (60, .bipush 31, 2),
  (62, .iand, 1),
  (63, .ishl, 1),
  (64, .ireturn, 1),
  (65, .iload_n 2, 1),
  (66, .iload_n 3, 1),
  (67, .if_icmp .ge 7, 3),
  (70, .iconst 1, 1),
  (71, .goto 4, 3),
  (74, .iconst 0, 1),
  (75, .ireturn, 1),
  (76, .iload_n 2, 1),
  (77, .iload_n 3, 1),
  (78, .invokestatic 16, 3),
  (81, .ifCond .eq 7, 3),
  (84, .iconst 1, 1),
  (85, .goto 4, 3),
  (88, .iconst 0, 1),
  (89, .ireturn, 1),
  (90, .iload_n 2, 1),
  (91, .iload_n 3, 1),
  (92, .ixor, 1),
  (93, .ireturn, 1),
  (94, .iload_n 1, 1),
  (95, .ifCond .eq 12, 3),
  (98, .iload_n 2, 1),
  (99, .iload_n 3, 1),
  (100, .bipush 31, 2),
  (102, .iand, 1),
  (103, .ishr, 1),
  (104, .goto 9, 3),
  (107, .iload_n 2, 1),
  (108, .iload_n 3, 1),
  (109, .bipush 31, 2),
  (111, .iand, 1),
  (112, .iushr, 1),
  (113, .ireturn, 1),
  (114, .iload_n 2, 1),
  (115, .iload_n 3, 1),
  (116, .ior, 1),
  (117, .ireturn, 1),
  (118, .iload_n 2, 1),
  (119, .iload_n 3, 1),
  (120, .iand, 1),
  (121, .ireturn, 1)],
  [], [], [], ⟨1, 0, 0, 21⟩)
theorem okX8_calculate : am_Mok mX8_calculate := am_Mok.of [] [] [] (by decide +kernel)
def mX8_branches : am_M := (yX8_branches, cX8_branches, 3, (Option.some Jvm.ClassFile.FieldType.boolean),
  [(0, .iload_n 0, 1),
  (1, .tableswitch 93 0 6 #[43, 54, 93, 93, 65, 76, 87], 43),
  (44, .iload_n 1, 1),
  (45, .iload_n 2, 1),
  (46, .if_icmp .ne 7, 3),
  (49, .iconst 1, 1),
  (50, .goto 4, 3),
  (53, .iconst 0, 1),
  (54, .ireturn, 1),
  (55, .iload_n 1, 1),
  (56, .iload_n 2, 1),
  (57, .if_icmp .eq 7, 3),
  (60, .iconst 1, 1),
  (61, .goto 4, 3),
  (64, .iconst 0, 1),
  (65, .ireturn, 1),
  (66, .iload_n 1, 1),
  (67, .iload_n 2, 1),
  (68, .if_icmp .ge 7, 3),
  (71, .iconst 1, 1),
  (72, .goto 4, 3),
  (75, .iconst 0, 1),
  (76, .ireturn, 1),
  (77, .iload_n 1, 1),
  (78, .iload_n 2, 1),
  (79, .if_icmp .lt 7, 3),
  (82, .iconst 1, 1),
  (83, .goto 4, 3),
  (86, .iconst 0, 1),
  (87, .ireturn, 1),
  (88, .iload_n 1, 1),
  (89, .iload_n 2, 1),
  (90, .invokestatic 16, 3),
  (93, .ireturn, 1),
  (94, .iload_n 1, 1),
  (95, .iload_n 2, 1),
  (96, .invokestatic 16, 3),
  (99, .ifCond .ne 7, 3),
  (102, .iconst 1, 1),
  (103, .goto 4, 3),
  (106, .iconst 0, 1),
  (107, .ireturn, 1)],
  [], [], [], ⟨1, 0, 0, 21⟩)
theorem okX8_branches : am_Mok mX8_branches := am_Mok.of [] [] [] (by decide +kernel)
def mX8_isBelow : am_M := (yX8_isBelow, cX8_isBelow, 2, (Option.some Jvm.ClassFile.FieldType.boolean),
  [(0, .iload_n 0, 1),
  (1, .ldc 20, 2),
  (3, .ixor, 1),
  (4, .iload_n 1, 1),
  (5, .ldc 20, 2),
  (7, .ixor, 1),
  (8, .if_icmp .ge 7, 3),
  (11, .iconst 1, 1),
  (12, .goto 4, 3),
  (15, .iconst 0, 1),
  (16, .ireturn, 1)],
  [], [(20, -2147483648)], [], ⟨0, 0, 0, 0⟩)
theorem okX8_isBelow : am_Mok mX8_isBelow := am_Mok.of [] [1053] [] (by decide +kernel)
def mX8_registersWord : am_M := (yX8_registersWord, cX8_registersWord, 5, (Option.some Jvm.ClassFile.FieldType.int),
  [(0, .iload_n 0, 1),
  (1, .invokestatic 21, 3),
  (4, .ifCond .eq 8, 3),
  (7, .ldc 25, 2),
  (9, .goto 4, 3),
  (12, .iconst 0, 1),
  (13, .istore 4, 2),
  (15, .iload 4, 2),
  (17, .iload_n 3, 1),
  (18, .bipush 20, 2),
  (20, .ishl, 1),
  (21, .ior, 1),
  (22, .iload_n 2, 1),
  (23, .bipush 15, 2),
  (25, .ishl, 1),
  (26, .ior, 1),
  (27, .iload_n 0, 1),
  (28, .invokestatic 26, 3),
  (31, .bipush 12, 2),
  (33, .ishl, 1),
  (34, .ior, 1),
  (35, .iload_n 1, 1),
  (36, .bipush 7, 2),
  (38, .ishl, 1),
  (39, .ior, 1),
  (40, .bipush 51, 2),
  (42, .ior, 1),
  (43, .ireturn, 1)],
  [], [(25, 1073741824)], [], ⟨1, 0, 0, 20⟩)
theorem okX8_registersWord : am_Mok mX8_registersWord := am_Mok.of [] [861] [] (by decide +kernel)
def mX8_immediateWord : am_M := (yX8_immediateWord, cX8_immediateWord, 5, (Option.some Jvm.ClassFile.FieldType.int),
  [(0, .iload_n 0, 1),
  (1, .invokestatic 21, 3),
  (4, .ifCond .eq 8, 3),
  (7, .ldc 25, 2),
  (9, .goto 4, 3),
  (12, .iconst 0, 1),
  (13, .istore 4, 2),
  (15, .iload 4, 2),
  (17, .iload_n 3, 1),
  (18, .bipush 20, 2),
  (20, .ishl, 1),
  (21, .ior, 1),
  (22, .iload_n 2, 1),
  (23, .bipush 15, 2),
  (25, .ishl, 1),
  (26, .ior, 1),
  (27, .iload_n 0, 1),
  (28, .invokestatic 26, 3),
  (31, .bipush 12, 2),
  (33, .ishl, 1),
  (34, .ior, 1),
  (35, .iload_n 1, 1),
  (36, .bipush 7, 2),
  (38, .ishl, 1),
  (39, .ior, 1),
  (40, .bipush 19, 2),
  (42, .ior, 1),
  (43, .ireturn, 1)],
  [], [(25, 1073741824)], [], ⟨1, 0, 0, 20⟩)
theorem okX8_immediateWord : am_Mok mX8_immediateWord := am_Mok.of [] [861] [] (by decide +kernel)
def mX8_upperWord : am_M := (yX8_upperWord, cX8_upperWord, 2, (Option.some Jvm.ClassFile.FieldType.int),
  [(0, .iload_n 1, 1),
  (1, .bipush 12, 2),
  (3, .ishl, 1),
  (4, .iload_n 0, 1),
  (5, .bipush 7, 2),
  (7, .ishl, 1),
  (8, .ior, 1),
  (9, .bipush 55, 2),
  (11, .ior, 1),
  (12, .ireturn, 1)],
  [], [], [], ⟨0, 0, 0, 0⟩)
theorem okX8_upperWord : am_Mok mX8_upperWord := am_Mok.of [] [] [] (by decide +kernel)
def mX8_loadWord : am_M := (yX8_loadWord, cX8_loadWord, 3, (Option.some Jvm.ClassFile.FieldType.int),
  [(0, .iload_n 2, 1),
  (1, .bipush 20, 2),
  (3, .ishl, 1),
  (4, .iload_n 1, 1),
  (5, .bipush 15, 2),
  (7, .ishl, 1),
  (8, .ior, 1),
  (9, .sipush 8192, 3),
  (12, .ior, 1),
  (13, .iload_n 0, 1),
  (14, .bipush 7, 2),
  (16, .ishl, 1),
  (17, .ior, 1),
  (18, .iconst 3, 1),
  (19, .ior, 1),
  (20, .ireturn, 1)],
  [], [], [], ⟨0, 0, 0, 0⟩)
theorem okX8_loadWord : am_Mok mX8_loadWord := am_Mok.of [] [] [] (by decide +kernel)
def mX8_storeWord : am_M := (yX8_storeWord, cX8_storeWord, 3, (Option.some Jvm.ClassFile.FieldType.int),
  [(0, .iload_n 2, 1),
  (1, .iconst 5, 1),
  (2, .ishr, 1),
  (3, .bipush 25, 2),
  (5, .ishl, 1),
  (6, .iload_n 0, 1),
  (7, .bipush 20, 2),
  (9, .ishl, 1),
  (10, .ior, 1),
  (11, .iload_n 1, 1),
  (12, .bipush 15, 2),
  (14, .ishl, 1),
  (15, .ior, 1),
  (16, .sipush 8192, 3),
  (19, .ior, 1),
  (20, .iload_n 2, 1),
  (21, .bipush 31, 2),
  (23, .iand, 1),
  (24, .bipush 7, 2),
  (26, .ishl, 1),
  (27, .ior, 1),
  (28, .bipush 35, 2),
  (30, .ior, 1),
  (31, .ireturn, 1)],
  [], [], [], ⟨0, 0, 0, 0⟩)
theorem okX8_storeWord : am_Mok mX8_storeWord := am_Mok.of [] [] [] (by decide +kernel)
def mX8_branchWord : am_M := (yX8_branchWord, cX8_branchWord, 6, (Option.some Jvm.ClassFile.FieldType.int),
  [(0, .iload_n 3, 1),
  (1, .bipush 12, 2),
  (3, .ishr, 1),
  (4, .iconst 1, 1),
  (5, .iand, 1),
  (6, .bipush 31, 2),
  (8, .ishl, 1),
  (9, .iload_n 3, 1),
  (10, .iconst 5, 1),
  (11, .ishr, 1),
  (12, .bipush 63, 2),
  (14, .iand, 1),
  (15, .bipush 25, 2),
  (17, .ishl, 1),
  (18, .ior, 1),
  (19, .istore 4, 2),
  (21, .iload_n 3, 1),
  (22, .iconst 1, 1),
  (23, .ishr, 1),
  (24, .bipush 15, 2),
  (26, .iand, 1),
  (27, .bipush 8, 2),
  (29, .ishl, 1),
  (30, .iload_n 3, 1),
  (31, .bipush 11, 2),
  (33, .ishr, 1),
  (34, .iconst 1, 1),
  (35, .iand, 1),
  (36, .bipush 7, 2),
  (38, .ishl, 1),
  (39, .ior, 1),
  (40, .istore 5, 2),
  (42, .iload 4, 2),
  (44, .iload_n 2, 1),
  (45, .bipush 20, 2),
  (47, .ishl, 1),
  (48, .ior, 1),
  (49, .iload_n 1, 1),
  (50, .bipush 15, 2),
  (52, .ishl, 1),
  (53, .ior, 1),
  (54, .iload_n 0, 1),
  (55, .invokestatic 26, 3),
  (58, .bipush 12, 2),
  (60, .ishl, 1),
  (61, .ior, 1),
  (62, .iload 5, 2),
  (64, .ior, 1),
  (65, .bipush 99, 2),
  (67, .ior, 1),
  (68, .ireturn, 1)],
  [], [], [], ⟨1, 0, 0, 20⟩)
theorem okX8_branchWord : am_Mok mX8_branchWord := am_Mok.of [] [] [] (by decide +kernel)
def mX8_jumpWord : am_M := (yX8_jumpWord, cX8_jumpWord, 4, (Option.some Jvm.ClassFile.FieldType.int),
  [(0, .iload_n 1, 1),
  (1, .bipush 20, 2),
  (3, .ishr, 1),
  (4, .iconst 1, 1),
  (5, .iand, 1),
  (6, .bipush 31, 2),
  (8, .ishl, 1),
  (9, .iload_n 1, 1),
  (10, .iconst 1, 1),
  (11, .ishr, 1),
  (12, .sipush 1023, 3),
  (15, .iand, 1),
  (16, .bipush 21, 2),
  (18, .ishl, 1),
  (19, .ior, 1),
  (20, .istore_n 2, 1),
  (21, .iload_n 1, 1),
  (22, .bipush 11, 2),
  (24, .ishr, 1),
  (25, .iconst 1, 1),
  (26, .iand, 1),
  (27, .bipush 20, 2),
  (29, .ishl, 1),
  (30, .iload_n 1, 1),
  (31, .bipush 12, 2),
  (33, .ishr, 1),
  (34, .sipush 255, 3),
  (37, .iand, 1),
  (38, .bipush 12, 2),
  (40, .ishl, 1),
  (41, .ior, 1),
  (42, .istore_n 3, 1),
  (43, .iload_n 2, 1),
  (44, .iload_n 3, 1),
  (45, .ior, 1),
  (46, .iload_n 0, 1),
  (47, .bipush 7, 2),
  (49, .ishl, 1),
  (50, .ior, 1),
  (51, .bipush 111, 2),
  (53, .ior, 1),
  (54, .ireturn, 1)],
  [], [], [], ⟨0, 0, 0, 0⟩)
theorem okX8_jumpWord : am_Mok mX8_jumpWord := am_Mok.of [] [] [] (by decide +kernel)
def mX8_jumpRegisterWord : am_M := (yX8_jumpRegisterWord, cX8_jumpRegisterWord, 2, (Option.some Jvm.ClassFile.FieldType.int),
  [(0, .iload_n 1, 1),
  (1, .bipush 15, 2),
  (3, .ishl, 1),
  (4, .iload_n 0, 1),
  (5, .bipush 7, 2),
  (7, .ishl, 1),
  (8, .ior, 1),
  (9, .bipush 103, 2),
  (11, .ior, 1),
  (12, .ireturn, 1)],
  [], [], [], ⟨0, 0, 0, 0⟩)
theorem okX8_jumpRegisterWord : am_Mok mX8_jumpRegisterWord := am_Mok.of [] [] [] (by decide +kernel)
def mX8_codeOf : am_M := (yX8_codeOf, cX8_codeOf, 1, (Option.some Jvm.ClassFile.FieldType.int),
  [(0, .iload_n 0, 1),
  (1, .bipush 127, 2),
  (3, .iand, 1),
  (4, .ireturn, 1)],
  [], [], [], ⟨0, 0, 0, 0⟩)
theorem okX8_codeOf : am_Mok mX8_codeOf := am_Mok.of [] [] [] (by decide +kernel)
def mX8_targetOf : am_M := (yX8_targetOf, cX8_targetOf, 1, (Option.some Jvm.ClassFile.FieldType.int),
  [(0, .iload_n 0, 1),
  (1, .bipush 7, 2),
  (3, .ishr, 1),
  (4, .bipush 31, 2),
  (6, .iand, 1),
  (7, .ireturn, 1)],
  [], [], [], ⟨0, 0, 0, 0⟩)
theorem okX8_targetOf : am_Mok mX8_targetOf := am_Mok.of [] [] [] (by decide +kernel)
def mX8_firstOf : am_M := (yX8_firstOf, cX8_firstOf, 1, (Option.some Jvm.ClassFile.FieldType.int),
  [(0, .iload_n 0, 1),
  (1, .bipush 15, 2),
  (3, .ishr, 1),
  (4, .bipush 31, 2),
  (6, .iand, 1),
  (7, .ireturn, 1)],
  [], [], [], ⟨0, 0, 0, 0⟩)
theorem okX8_firstOf : am_Mok mX8_firstOf := am_Mok.of [] [] [] (by decide +kernel)
def mX8_secondOf : am_M := (yX8_secondOf, cX8_secondOf, 1, (Option.some Jvm.ClassFile.FieldType.int),
  [(0, .iload_n 0, 1),
  (1, .bipush 20, 2),
  (3, .ishr, 1),
  (4, .bipush 31, 2),
  (6, .iand, 1),
  (7, .ireturn, 1)],
  [], [], [], ⟨0, 0, 0, 0⟩)
theorem okX8_secondOf : am_Mok mX8_secondOf := am_Mok.of [] [] [] (by decide +kernel)
def mX8_selectorIn : am_M := (yX8_selectorIn, cX8_selectorIn, 1, (Option.some Jvm.ClassFile.FieldType.int),
  [(0, .iload_n 0, 1),
  (1, .bipush 12, 2),
  (3, .ishr, 1),
  (4, .bipush 7, 2),
  (6, .iand, 1),
  (7, .ireturn, 1)],
  [], [], [], ⟨0, 0, 0, 0⟩)
theorem okX8_selectorIn : am_Mok mX8_selectorIn := am_Mok.of [] [] [] (by decide +kernel)
def mX8_isOtherIn : am_M := (yX8_isOtherIn, cX8_isOtherIn, 1, (Option.some Jvm.ClassFile.FieldType.boolean),
  [(0, .iload_n 0, 1),
  (1, .ldc 25, 2),
  (3, .iand, 1),
  (4, .ifCond .eq 7, 3),
  (7, .iconst 1, 1),
  (8, .goto 4, 3),
  (11, .iconst 0, 1),
  (12, .ireturn, 1)],
  [], [(25, 1073741824)], [], ⟨0, 0, 0, 0⟩)
theorem okX8_isOtherIn : am_Mok mX8_isOtherIn := am_Mok.of [] [861] [] (by decide +kernel)
def mX8_immediateOf : am_M := (yX8_immediateOf, cX8_immediateOf, 1, (Option.some Jvm.ClassFile.FieldType.int),
  [(0, .iload_n 0, 1),
  (1, .bipush 20, 2),
  (3, .ishr, 1),
  (4, .ireturn, 1)],
  [], [], [], ⟨0, 0, 0, 0⟩)
theorem okX8_immediateOf : am_Mok mX8_immediateOf := am_Mok.of [] [] [] (by decide +kernel)
def mX8_storeOffsetOf : am_M := (yX8_storeOffsetOf, cX8_storeOffsetOf, 1, (Option.some Jvm.ClassFile.FieldType.int),
  [(0, .iload_n 0, 1),
  (1, .bipush 25, 2),
  (3, .ishr, 1),
  (4, .iconst 5, 1),
  (5, .ishl, 1),
  (6, .iload_n 0, 1),
  (7, .bipush 7, 2),
  (9, .ishr, 1),
  (10, .bipush 31, 2),
  (12, .iand, 1),
  (13, .ior, 1),
  (14, .ireturn, 1)],
  [], [], [], ⟨0, 0, 0, 0⟩)
theorem okX8_storeOffsetOf : am_Mok mX8_storeOffsetOf := am_Mok.of [] [] [] (by decide +kernel)
def mX8_branchOffsetOf : am_M := (yX8_branchOffsetOf, cX8_branchOffsetOf, 1, (Option.some Jvm.ClassFile.FieldType.int),
  [(0, .iload_n 0, 1),
  (1, .bipush 31, 2),
  (3, .ishr, 1),
  (4, .bipush 12, 2),
  (6, .ishl, 1),
  (7, .iload_n 0, 1),
  (8, .bipush 7, 2),
  (10, .ishr, 1),
  (11, .iconst 1, 1),
  (12, .iand, 1),
  (13, .bipush 11, 2),
  (15, .ishl, 1),
  (16, .ior, 1),
  (17, .iload_n 0, 1),
  (18, .bipush 25, 2),
  (20, .ishr, 1),
  (21, .bipush 63, 2),
  (23, .iand, 1),
  (24, .iconst 5, 1),
  (25, .ishl, 1),
  (26, .ior, 1),
  (27, .iload_n 0, 1),
  (28, .bipush 8, 2),
  (30, .ishr, 1),
  (31, .bipush 15, 2),
  (33, .iand, 1),
  (34, .iconst 1, 1),
  (35, .ishl, 1),
  (36, .ior, 1),
  (37, .ireturn, 1)],
  [], [], [], ⟨0, 0, 0, 0⟩)
theorem okX8_branchOffsetOf : am_Mok mX8_branchOffsetOf := am_Mok.of [] [] [] (by decide +kernel)
def mX8_jumpOffsetOf : am_M := (yX8_jumpOffsetOf, cX8_jumpOffsetOf, 1, (Option.some Jvm.ClassFile.FieldType.int),
  [(0, .iload_n 0, 1),
  (1, .bipush 31, 2),
  (3, .ishr, 1),
  (4, .bipush 20, 2),
  (6, .ishl, 1),
  (7, .iload_n 0, 1),
  (8, .ldc 30, 2),
  (10, .iand, 1),
  (11, .ior, 1),
  (12, .iload_n 0, 1),
  (13, .bipush 20, 2),
  (15, .ishr, 1),
  (16, .iconst 1, 1),
  (17, .iand, 1),
  (18, .bipush 11, 2),
  (20, .ishl, 1),
  (21, .ior, 1),
  (22, .iload_n 0, 1),
  (23, .bipush 21, 2),
  (25, .ishr, 1),
  (26, .sipush 1023, 3),
  (29, .iand, 1),
  (30, .iconst 1, 1),
  (31, .ishl, 1),
  (32, .ior, 1),
  (33, .ireturn, 1)],
  [], [(30, 1044480)], [], ⟨0, 0, 0, 0⟩)
theorem okX8_jumpOffsetOf : am_Mok mX8_jumpOffsetOf := am_Mok.of [] [1113] [] (by decide +kernel)
end
section
def mX9_isNumber : am_M := (yX9_isNumber, cX9_isNumber, 1, (Option.some Jvm.ClassFile.FieldType.boolean),
  [(0, .iload_n 0, 1),
  (1, .ifCond .lt 13, 3),
  (4, .iload_n 0, 1),
  (5, .bipush 35, 2),
  (7, .if_icmp .ge 7, 3),
  (10, .iconst 1, 1),
  (11, .goto 4, 3),
  (14, .iconst 0, 1),
  (15, .ireturn, 1)],
  [], [], [], ⟨0, 0, 0, 0⟩)
theorem okX9_isNumber : am_Mok mX9_isNumber := am_Mok.of [] [] [] (by decide +kernel)
def mX9_kindOfA : am_M := (yX9_kindOfA, cX9_kindOfA, 1, (Option.some Jvm.ClassFile.FieldType.int),
  [(0, .iload_n 0, 1),
  (1, .invokestatic 9, 3),
  (4, .ifCond .eq 11, 3),
  (7, .getstatic 13, 3),
  (10, .iload_n 0, 1),
  (11, .iaload, 1),
  (12, .goto 4, 3),
  (15, .iconst 0, 1),
  (16, .ireturn, 1)],
  [], [], [(13, 0)], ⟨1, 0, 0, 20⟩)
theorem okX9_kindOfA : am_Mok mX9_kindOfA := am_Mok.of [] [] [438] (by decide +kernel)
def mX9_kindOfB : am_M := (yX9_kindOfB, cX9_kindOfB, 1, (Option.some Jvm.ClassFile.FieldType.int),
  [(0, .iload_n 0, 1),
  (1, .invokestatic 9, 3),
  (4, .ifCond .eq 11, 3),
  (7, .getstatic 17, 3),
  (10, .iload_n 0, 1),
  (11, .iaload, 1),
  (12, .goto 4, 3),
  (15, .iconst 0, 1),
  (16, .ireturn, 1)],
  [], [], [(17, 1)], ⟨1, 0, 0, 20⟩)
theorem okX9_kindOfB : am_Mok mX9_kindOfB := am_Mok.of [] [] [443] (by decide +kernel)
def mX9_kindOfC : am_M := (yX9_kindOfC, cX9_kindOfC, 1, (Option.some Jvm.ClassFile.FieldType.int),
  [(0, .iload_n 0, 1),
  (1, .invokestatic 9, 3),
  (4, .ifCond .eq 11, 3),
  (7, .getstatic 20, 3),
  (10, .iload_n 0, 1),
  (11, .iaload, 1),
  (12, .goto 4, 3),
  (15, .iconst 0, 1),
  (16, .ireturn, 1)],
  [], [], [(20, 2)], ⟨1, 0, 0, 20⟩)
theorem okX9_kindOfC : am_Mok mX9_kindOfC := am_Mok.of [] [] [448] (by decide +kernel)
def mX9_suits : am_M := (yX9_suits, cX9_suits, 2, (Option.some Jvm.ClassFile.FieldType.boolean),
  [(0, .iload_n 0, 1),
  (1, .tableswitch 144 1 6 #[39, 60, 80, 96, 112, 128], 39),
  (40, .iload_n 1, 1),
  (41, .ifCond .lt 18, 3),
  (44, .iload_n 1, 1),
  (45, .bipush 32, 2),
  (47, .if_icmp .ge 12, 3),
  (50, .iload_n 1, 1),
  (51, .iconst 5, 1),
  (52, .if_icmp .eq 7, 3),
  (55, .iconst 1, 1),
  (56, .goto 4, 3),
  (59, .iconst 0, 1),
  (60, .ireturn, 1),
  (61, .iload_n 1, 1),
  (62, .sipush (-2048), 3),
  (65, .if_icmp .lt 14, 3),
  (68, .iload_n 1, 1),
  (69, .sipush 2047, 3),
  (72, .if_icmp .gt 7, 3),
  (75, .iconst 1, 1),
  (76, .goto 4, 3),
  (79, .iconst 0, 1),
  (80, .ireturn, 1),
  (81, .iload_n 1, 1),
  (82, .ifCond .lt 13, 3),
  (85, .iload_n 1, 1),
  (86, .bipush 31, 2),
  (88, .if_icmp .gt 7, 3),
  (91, .iconst 1, 1),
  (92, .goto 4, 3),
  (95, .iconst 0, 1),
  (96, .ireturn, 1),
  (97, .iload_n 1, 1),
  (98, .ifCond .lt 13, 3),
  (101, .iload_n 1, 1),
  (102, .ldc 23, 2),
  (104, .if_icmp .gt 7, 3),
  (107, .iconst 1, 1),
  (108, .goto 4, 3),
  (111, .iconst 0, 1),
  (112, .ireturn, 1),
  (113, .iload_n 1, 1),
  (114, .ifCond .lt 13, 3),
  (117, .iload_n 1, 1),
  (118, .bipush 40, 2),
  (120, .if_icmp .ge 7, 3),
  (123, .iconst 1, 1),
  (124, .goto 4, 3),
  (127, .iconst 0, 1),
  (128, .ireturn, 1),
  (129, .iload_n 1, 1),
  (130, .ifCond .lt 13, 3),
  (133, .iload_n 1, 1),
  (134, .bipush 24, 2),
  (136, .if_icmp .ge 7, 3),
  (139, .iconst 1, 1),
  (140, .goto 4, 3),
  (143, .iconst 0, 1),
  (144, .ireturn, 1),
  (145, .iconst 1, 1),
  (146, .ireturn, 1)],
  [], [(23, 1048575)], [], ⟨0, 0, 0, 0⟩)
theorem okX9_suits : am_Mok mX9_suits := am_Mok.of [] [454] [] (by decide +kernel)
def mX9_kept : am_M := (yX9_kept, cX9_kept, 2, (Option.some Jvm.ClassFile.FieldType.int),
  [(0, .iload_n 0, 1),
  (1, .ifCond .ne 7, 3),
  (4, .iconst 0, 1),
  (5, .goto 4, 3),
  (8, .iload_n 1, 1),
  (9, .ireturn, 1)],
  [], [], [], ⟨0, 0, 0, 0⟩)
theorem okX9_kept : am_Mok mX9_kept := am_Mok.of [] [] [] (by decide +kernel)
def mX9_isReturnRegister : am_M := (yX9_isReturnRegister, cX9_isReturnRegister, 2, (Option.some Jvm.ClassFile.FieldType.boolean),
  [(0, .iload_n 0, 1),
  (1, .iconst 1, 1),
  (2, .if_icmp .ne 12, 3),
  (5, .iload_n 1, 1),
  (6, .iconst 1, 1),
  (7, .if_icmp .ne 7, 3),
  (10, .iconst 1, 1),
  (11, .goto 4, 3),
  (14, .iconst 0, 1),
  (15, .ireturn, 1)],
  [], [], [], ⟨0, 0, 0, 0⟩)
theorem okX9_isReturnRegister : am_Mok mX9_isReturnRegister := am_Mok.of [] [] [] (by decide +kernel)
def mX9_isBranch : am_M := (yX9_isBranch, cX9_isBranch, 1, (Option.some Jvm.ClassFile.FieldType.boolean),
  [(0, .iload_n 0, 1),
  (1, .bipush 22, 2),
  (3, .if_icmp .lt 13, 3),
  (6, .iload_n 0, 1),
  (7, .bipush 27, 2),
  (9, .if_icmp .gt 7, 3),
  (12, .iconst 1, 1),
  (13, .goto 4, 3),
  (16, .iconst 0, 1),
  (17, .ireturn, 1)],
  [], [], [], ⟨0, 0, 0, 0⟩)
theorem okX9_isBranch : am_Mok mX9_isBranch := am_Mok.of [] [] [] (by decide +kernel)
def mX9_isCallOrTail : am_M := (yX9_isCallOrTail, cX9_isCallOrTail, 1, (Option.some Jvm.ClassFile.FieldType.boolean),
  [(0, .iload_n 0, 1),
  (1, .bipush 29, 2),
  (3, .if_icmp .eq 9, 3),
  (6, .iload_n 0, 1),
  (7, .bipush 30, 2),
  (9, .if_icmp .ne 7, 3),
  (12, .iconst 1, 1),
  (13, .goto 4, 3),
  (16, .iconst 0, 1),
  (17, .ireturn, 1)],
  [], [], [], ⟨0, 0, 0, 0⟩)
theorem okX9_isCallOrTail : am_Mok mX9_isCallOrTail := am_Mok.of [] [] [] (by decide +kernel)
def mX9_isClosing : am_M := (yX9_isClosing, cX9_isClosing, 1, (Option.some Jvm.ClassFile.FieldType.boolean),
  [(0, .iload_n 0, 1),
  (1, .bipush 28, 2),
  (3, .if_icmp .eq 15, 3),
  (6, .iload_n 0, 1),
  (7, .bipush 30, 2),
  (9, .if_icmp .eq 9, 3),
  (12, .iload_n 0, 1),
  (13, .bipush 31, 2),
  (15, .if_icmp .ne 7, 3),
  (18, .iconst 1, 1),
  (19, .goto 4, 3),
  (22, .iconst 0, 1),
  (23, .ireturn, 1)],
  [], [], [], ⟨0, 0, 0, 0⟩)
theorem okX9_isClosing : am_Mok mX9_isClosing := am_Mok.of [] [] [] (by decide +kernel)
def mX9_mayBeInRow : am_M := (yX9_mayBeInRow, cX9_mayBeInRow, 1, (Option.some Jvm.ClassFile.FieldType.boolean),
  [(0, .iload_n 0, 1),
  (1, .ifCond .lt 9, 3),
  (4, .iload_n 0, 1),
  (5, .bipush 21, 2),
  (7, .if_icmp .le 9, 3),
  (10, .iload_n 0, 1),
  (11, .bipush 34, 2),
  (13, .if_icmp .ne 7, 3),
  (16, .iconst 1, 1),
  (17, .goto 4, 3),
  (20, .iconst 0, 1),
  (21, .ireturn, 1)],
  [], [], [], ⟨0, 0, 0, 0⟩)
theorem okX9_mayBeInRow : am_Mok mX9_mayBeInRow := am_Mok.of [] [] [] (by decide +kernel)
end
section
theorem kL_law_4 : am_CI mL_law mX11_init 9 0 := am_CI.of "" 110 111 92 112 (by decide +kernel)
theorem kL_law_12 : am_CI mL_law mX12_init 12 0 := am_CI.of "" 1308 1309 103 1310 (by decide +kernel)
theorem kL_law_109 : am_CV mL_law mX11_function 13 8 0 := am_CV.of 416 417 418 92 419 (by decide +kernel)
theorem kL_law_113 : am_CV mL_law mX12_function 17 9 0 := am_CV.of 1436 1437 1438 103 1439 (by decide +kernel)
theorem kL_law_147 : am_CV mL_law mX11_put 18 8 5 := am_CV.of 424 425 426 92 427 (by decide +kernel)
theorem kL_law_176 : am_CV mL_law mX12_put 22 9 5 := am_CV.of 1440 1441 1442 103 1443 (by decide +kernel)
theorem kL_law_185 : am_CV mL_law mX11_clear 23 8 0 := am_CV.of 481 482 483 92 484 (by decide +kernel)
theorem kL_law_189 : am_CV mL_law mX12_clear 26 9 0 := am_CV.of 1454 1455 1456 103 1457 (by decide +kernel)
theorem kL_law_224 : am_CV mL_law mX11_press 27 8 2 := am_CV.of 497 498 499 92 500 (by decide +kernel)
theorem kL_law_254 : am_CV mL_law mX12_press 31 9 2 := am_CV.of 1498 1499 1500 103 1501 (by decide +kernel)
theorem kL_law_273 : am_CV mL_law mX11_about 32 8 2 := am_CV.of 898 899 900 92 901 (by decide +kernel)
theorem kL_law_287 : am_CV mL_law mX12_about 36 9 2 := am_CV.of 1458 1459 1460 103 1461 (by decide +kernel)
theorem kL_law_306 : am_CV mL_law mX11_body 37 8 2 := am_CV.of 906 907 908 92 909 (by decide +kernel)
theorem kL_law_320 : am_CV mL_law mX12_body 40 9 2 := am_CV.of 1566 1567 1568 103 1569 (by decide +kernel)
theorem kL_law_339 : am_CV mL_law mX11_routine 41 8 2 := am_CV.of 912 913 914 92 915 (by decide +kernel)
theorem kL_law_353 : am_CV mL_law mX12_routine 44 9 2 := am_CV.of 1570 1571 1572 103 1573 (by decide +kernel)
theorem kL_law_377 : am_CV mL_law mX11_occurrence 45 8 3 := am_CV.of 932 933 934 92 935 (by decide +kernel)
theorem kL_law_396 : am_CV mL_law mX12_occurrence 49 9 3 := am_CV.of 1578 1579 1580 103 1581 (by decide +kernel)
theorem kL_law_410 : am_CV mL_law mX11_word 50 8 1 := am_CV.of 952 953 954 92 955 (by decide +kernel)
theorem kL_law_419 : am_CV mL_law mX12_word 54 9 1 := am_CV.of 1582 1583 1584 103 1585 (by decide +kernel)
theorem kL_law_438 : am_CV mL_law mX11_run 55 8 2 := am_CV.of 960 961 962 92 963 (by decide +kernel)
theorem kL_law_452 : am_CV mL_law mX12_run 58 9 2 := am_CV.of 1586 1587 1588 103 1589 (by decide +kernel)
theorem kL_law_471 : am_CV mL_law mX11_ran 59 8 2 := am_CV.of 1200 1201 1202 92 1203 (by decide +kernel)
theorem kL_law_485 : am_CV mL_law mX12_ran 62 9 2 := am_CV.of 1644 1645 1646 103 1647 (by decide +kernel)
theorem kL_law_504 : am_CV mL_law mX11_printed 63 8 2 := am_CV.of 1250 1251 1252 92 1253 (by decide +kernel)
theorem kL_law_518 : am_CV mL_law mX12_printed 66 9 2 := am_CV.of 1652 1653 1654 103 1655 (by decide +kernel)
theorem kL_law_537 : am_CV mL_law mX11_register 67 8 2 := am_CV.of 1260 1261 1262 92 1263 (by decide +kernel)
theorem kL_law_551 : am_CV mL_law mX12_register 70 9 2 := am_CV.of 1656 1657 1658 103 1659 (by decide +kernel)
theorem kL_law_570 : am_CV mL_law mX11_memory 71 8 2 := am_CV.of 1273 1274 1275 92 1276 (by decide +kernel)
theorem kL_law_584 : am_CV mL_law mX12_memory 74 9 2 := am_CV.of 1660 1661 1662 103 1663 (by decide +kernel)
theorem kL_law_598 : am_CV mL_law mX11_count 75 8 1 := am_CV.of 1286 1287 1288 92 1289 (by decide +kernel)
theorem kL_law_607 : am_CV mL_law mX12_count 78 9 1 := am_CV.of 1664 1665 1666 103 1667 (by decide +kernel)
end
section
theorem kX0_refresh_8 : am_CV mX0_refresh mX5_changes 32 4 0 := am_CV.of 562 563 564 93 565 (by decide +kernel)
theorem kX0_refresh_20 : am_CV mX0_refresh mX5_changes 32 4 0 := am_CV.of 562 563 564 93 565 (by decide +kernel)
theorem kX0_refresh_27 : am_CV mX0_refresh mX0_markTaken 36 0 0 := am_CV.of 566 568 5 94 569 (by decide +kernel)
theorem kX0_refresh_31 : am_CV mX0_refresh mX0_standAllTogether 39 0 0 := am_CV.of 576 578 6 94 579 (by decide +kernel)
theorem kX0_refresh_54 : am_CV mX0_refresh mX0_partOnce 45 0 0 := am_CV.of 581 583 7 94 584 (by decide +kernel)
theorem kX0_isTaken_5 : am_CV mX0_isTaken mX5_hasFunction 48 4 1 := am_CV.of 609 460 461 93 462 (by decide +kernel)
theorem kX0_leastOf_5 : am_CV mX0_leastOf mX5_hasFunction 48 4 1 := am_CV.of 609 460 461 93 462 (by decide +kernel)
theorem kX0_bodyOf_2 : am_CV mX0_bodyOf mX0_isTaken 52 0 1 := am_CV.of 627 628 629 94 630 (by decide +kernel)
theorem kX0_bodyOf_17 : am_CV mX0_bodyOf mX5_functions 55 4 0 := am_CV.of 585 586 587 93 588 (by decide +kernel)
theorem kX0_bodyOf_25 : am_CV mX0_bodyOf mX0_isTaken 52 0 1 := am_CV.of 627 628 629 94 630 (by decide +kernel)
theorem kX0_bodyOf_33 : am_CV mX0_bodyOf mX0_leastOf 58 0 1 := am_CV.of 631 632 633 94 634 (by decide +kernel)
theorem kX0_bodyOf_38 : am_CV mX0_bodyOf mX0_leastOf 58 0 1 := am_CV.of 631 632 633 94 634 (by decide +kernel)
theorem kX0_bodyOf_54 : am_CV mX0_bodyOf mX0_leastOf 58 0 1 := am_CV.of 631 632 633 94 634 (by decide +kernel)
theorem kX0_markTaken_31 : am_CV mX0_markTaken mX5_size 62 4 0 := am_CV.of 570 571 572 93 573 (by decide +kernel)
theorem kX0_markTaken_42 : am_CV mX0_markTaken mX5_numberAt 65 4 1 := am_CV.of 574 510 511 93 512 (by decide +kernel)
theorem kX0_markTaken_55 : am_CV mX0_markTaken mX5_bAt 70 4 1 := am_CV.of 575 555 556 93 557 (by decide +kernel)
theorem kX0_standAllTogether_5 : am_CS mX0_standAllTogether mJ7_fill_53178 73 2 := am_CS.of "" 580 0 203 97 204 (by decide +kernel)
theorem kX0_partOnce_12 : am_CV mX0_partOnce mX5_functions 55 4 0 := am_CV.of 585 586 587 93 588 (by decide +kernel)
theorem kX0_partOnce_25 : am_CV mX0_partOnce mX0_finerLeastOf 79 0 1 := am_CV.of 589 591 8 94 592 (by decide +kernel)
theorem kX0_partOnce_69 : am_CV mX0_partOnce mX5_functions 55 4 0 := am_CV.of 585 586 587 93 588 (by decide +kernel)
theorem kX0_finerLeastOf_35 : am_CV mX0_finerLeastOf mX0_areAlike 88 0 2 := am_CV.of 593 595 9 94 596 (by decide +kernel)
theorem kX0_areAlike_5 : am_CV mX0_areAlike mX5_lengthOf 92 4 1 := am_CV.of 597 464 465 93 466 (by decide +kernel)
theorem kX0_areAlike_15 : am_CV mX0_areAlike mX5_lengthOf 92 4 1 := am_CV.of 597 464 465 93 466 (by decide +kernel)
theorem kX0_areAlike_28 : am_CV mX0_areAlike mX5_startOf 95 4 1 := am_CV.of 598 525 526 93 527 (by decide +kernel)
theorem kX0_areAlike_38 : am_CV mX0_areAlike mX5_startOf 95 4 1 := am_CV.of 598 525 526 93 527 (by decide +kernel)
theorem kX0_areAlike_63 : am_CV mX0_areAlike mX0_areAlikeSpots 98 0 2 := am_CV.of 599 601 10 94 602 (by decide +kernel)
theorem kX0_areAlikeSpots_5 : am_CV mX0_areAlikeSpots mX5_numberAt 65 4 1 := am_CV.of 574 510 511 93 512 (by decide +kernel)
theorem kX0_areAlikeSpots_10 : am_CS mX0_areAlikeSpots mX9_isCallOrTail 101 1 := am_CS.of "" 603 0 552 104 553 (by decide +kernel)
theorem kX0_areAlikeSpots_22 : am_CV mX0_areAlikeSpots mX5_numberAt 65 4 1 := am_CV.of 574 510 511 93 512 (by decide +kernel)
theorem kX0_areAlikeSpots_34 : am_CV mX0_areAlikeSpots mX5_aAt 104 4 1 := am_CV.of 604 540 541 93 542 (by decide +kernel)
theorem kX0_areAlikeSpots_42 : am_CV mX0_areAlikeSpots mX5_aAt 104 4 1 := am_CV.of 604 540 541 93 542 (by decide +kernel)
theorem kX0_areAlikeSpots_45 : am_CV mX0_areAlikeSpots mX0_standTogether 107 0 2 := am_CV.of 605 607 11 94 608 (by decide +kernel)
theorem kX0_areAlikeSpots_63 : am_CV mX0_areAlikeSpots mX5_isSame 110 4 2 := am_CV.of 610 611 612 93 613 (by decide +kernel)
theorem kX0_standTogether_10 : am_CV mX0_standTogether mX5_hasFunction 48 4 1 := am_CV.of 609 460 461 93 462 (by decide +kernel)
theorem kX0_standTogether_21 : am_CV mX0_standTogether mX5_hasFunction 48 4 1 := am_CV.of 609 460 461 93 462 (by decide +kernel)
end
section
theorem kX1_setBody_2 : am_CV mX1_setBody mX1_hasFunction 36 1 1 := am_CV.of 639 640 641 95 642 (by decide +kernel)
theorem kX1_setFirstWord_2 : am_CV mX1_setFirstWord mX1_hasFunction 36 1 1 := am_CV.of 639 640 641 95 642 (by decide +kernel)
theorem kX1_bodyOf_2 : am_CV mX1_bodyOf mX1_hasFunction 36 1 1 := am_CV.of 639 640 641 95 642 (by decide +kernel)
theorem kX1_isBody_2 : am_CV mX1_isBody mX1_hasFunction 36 1 1 := am_CV.of 639 640 641 95 642 (by decide +kernel)
theorem kX1_bodies_14 : am_CV mX1_bodies mX1_isBody 40 1 1 := am_CV.of 1299 655 656 95 657 (by decide +kernel)
theorem kX1_firstWordOf_2 : am_CV mX1_firstWordOf mX1_hasFunction 36 1 1 := am_CV.of 639 640 641 95 642 (by decide +kernel)
theorem kX1_addressOf_2 : am_CV mX1_addressOf mX1_hasFunction 36 1 1 := am_CV.of 639 640 641 95 642 (by decide +kernel)
theorem kX1_addressOf_14 : am_CS mX1_addressOf mX1_address 43 1 := am_CS.of "" 843 0 844 95 845 (by decide +kernel)
end
section
theorem kX10_init_1 : am_CI mX10_init mX4_init 3 0 := am_CI.of "LinkPress" 326 327 100 328 (by decide +kernel)
theorem kX10_isReady_5 : am_CV mX10_isReady mX5_hasFunction 30 4 1 := am_CV.of 978 460 461 93 462 (by decide +kernel)
theorem kX10_restart_5 : am_CS mX10_restart mJ7_fill_53178 36 2 := am_CS.of "" 997 0 203 97 204 (by decide +kernel)
theorem kX10_restart_13 : am_CS mX10_restart mJ7_fill_53178 36 2 := am_CS.of "" 997 0 203 97 204 (by decide +kernel)
theorem kX10_restart_21 : am_CS mX10_restart mJ7_fill_53178 36 2 := am_CS.of "" 997 0 203 97 204 (by decide +kernel)
theorem kX10_restart_29 : am_CS mX10_restart mJ7_fill_53178 36 2 := am_CS.of "" 997 0 203 97 204 (by decide +kernel)
theorem kX10_restart_36 : am_CV mX10_restart mX10_write 42 7 3 := am_CV.of 998 1000 35 101 1001 (by decide +kernel)
theorem kX10_where_1_7 : am_CU mX10_where mX4_outcome 53 7 0 := am_CU.of "LinkPress$ToldMachine" "LinkPress$Machine" 1237 1238 1240 1211 100 1215 1239 (by decide +kernel)
theorem kX10_whichPlace_1_7 : am_CU mX10_whichPlace mX4_outcome 53 7 0 := am_CU.of "LinkPress$ToldMachine" "LinkPress$Machine" 1237 1238 1240 1211 100 1215 1239 (by decide +kernel)
theorem kX10_registerAt_2 : am_CV mX10_registerAt mX10_isNumber 57 7 1 := am_CV.of 1152 1154 53 101 1155 (by decide +kernel)
theorem kX10_registerAt_10 : am_CV mX10_registerAt mX10_valueIn 60 7 1 := am_CV.of 1140 1142 50 101 1143 (by decide +kernel)
theorem kX10_memoryAt_1 : am_CS mX10_memoryAt mX4_isMemoryWord 64 1 := am_CS.of "LinkPress$ToldMachine" 1179 1180 1089 100 1090 (by decide +kernel)
theorem kX10_step_12 : am_CV mX10_step mX5_spotOf 67 4 2 := am_CV.of 1127 677 678 93 679 (by decide +kernel)
theorem kX10_step_28 : am_CV mX10_step mX5_numberAt 71 4 1 := am_CV.of 1128 510 511 93 512 (by decide +kernel)
theorem kX10_step_37 : am_CV mX10_step mX5_aAt 74 4 1 := am_CV.of 1129 540 541 93 542 (by decide +kernel)
theorem kX10_step_50 : am_CV mX10_step mX10_calculate 77 7 2 := am_CV.of 1130 1132 48 101 1133 (by decide +kernel)
theorem kX10_step_55 : am_CS mX10_step mX9_isBranch 80 1 := am_CS.of "" 1159 0 533 104 534 (by decide +kernel)
theorem kX10_step_64 : am_CV mX10_step mX10_branch 83 7 2 := am_CV.of 1160 1162 54 101 1163 (by decide +kernel)
theorem kX10_step_156 : am_CV mX10_step mX5_bAt 86 4 1 := am_CV.of 1134 555 556 93 557 (by decide +kernel)
theorem kX10_step_162 : am_CV mX10_step mX10_writeAndGoOn 89 7 3 := am_CV.of 1144 1146 51 101 1147 (by decide +kernel)
theorem kX10_step_168 : am_CV mX10_step mX10_load 93 7 1 := am_CV.of 1169 1171 56 101 1172 (by decide +kernel)
theorem kX10_step_174 : am_CV mX10_step mX10_store 96 7 1 := am_CV.of 1181 1183 58 101 1184 (by decide +kernel)
theorem kX10_step_184 : am_CV mX10_step mX10_goTo 99 7 2 := am_CV.of 1165 1167 55 101 1168 (by decide +kernel)
theorem kX10_step_190 : am_CV mX10_step mX10_callFunction 102 7 1 := am_CV.of 1185 1187 59 101 1188 (by decide +kernel)
theorem kX10_step_197 : am_CV mX10_step mX10_goTo 99 7 2 := am_CV.of 1165 1167 55 101 1168 (by decide +kernel)
theorem kX10_step_202 : am_CV mX10_step mX10_goBack 105 7 0 := am_CV.of 1189 1191 60 101 1192 (by decide +kernel)
theorem kX10_step_214 : am_CV mX10_step mX5_bAt 86 4 1 := am_CV.of 1134 555 556 93 557 (by decide +kernel)
theorem kX10_step_217 : am_CV mX10_step mX10_writeAndGoOn 89 7 3 := am_CV.of 1144 1146 51 101 1147 (by decide +kernel)
theorem kX10_step_223 : am_CV mX10_step mX10_sortIn 108 7 1 := am_CV.of 1136 1138 49 101 1139 (by decide +kernel)
theorem kX10_step_233 : am_CV mX10_step mX10_valueIn 60 7 1 := am_CV.of 1140 1142 50 101 1143 (by decide +kernel)
theorem kX10_step_236 : am_CV mX10_step mX10_callFunction 102 7 1 := am_CV.of 1185 1187 59 101 1188 (by decide +kernel)
theorem kX10_step_245 : am_CV mX10_step mX10_print 111 7 0 := am_CV.of 1193 1195 61 101 1196 (by decide +kernel)
theorem kX10_calculate_5 : am_CV mX10_calculate mX5_aAt 74 4 1 := am_CV.of 1129 540 541 93 542 (by decide +kernel)
theorem kX10_calculate_14 : am_CV mX10_calculate mX5_bAt 86 4 1 := am_CV.of 1134 555 556 93 557 (by decide +kernel)
theorem kX10_calculate_24 : am_CV mX10_calculate mX5_cAt 114 4 1 := am_CV.of 1135 536 537 93 538 (by decide +kernel)
theorem kX10_calculate_45 : am_CV mX10_calculate mX10_sortIn 108 7 1 := am_CV.of 1136 1138 49 101 1139 (by decide +kernel)
theorem kX10_calculate_51 : am_CV mX10_calculate mX10_valueIn 60 7 1 := am_CV.of 1140 1142 50 101 1143 (by decide +kernel)
theorem kX10_calculate_54 : am_CV mX10_calculate mX10_writeAndGoOn 89 7 3 := am_CV.of 1144 1146 51 101 1147 (by decide +kernel)
theorem kX10_calculate_74 : am_CV mX10_calculate mX10_isNumber 57 7 1 := am_CV.of 1152 1154 53 101 1155 (by decide +kernel)
theorem kX10_calculate_88 : am_CV mX10_calculate mX10_isNumber 57 7 1 := am_CV.of 1152 1154 53 101 1155 (by decide +kernel)
theorem kX10_calculate_104 : am_CV mX10_calculate mX10_valueIn 60 7 1 := am_CV.of 1140 1142 50 101 1143 (by decide +kernel)
theorem kX10_calculate_115 : am_CS mX10_calculate mX8_selectorOf 117 1 := am_CS.of "" 1156 0 863 107 864 (by decide +kernel)
theorem kX10_calculate_123 : am_CS mX10_calculate mX8_isOther 122 1 := am_CS.of "" 1157 0 857 107 858 (by decide +kernel)
theorem kX10_calculate_129 : am_CV mX10_calculate mX10_valueIn 60 7 1 := am_CV.of 1140 1142 50 101 1143 (by decide +kernel)
theorem kX10_calculate_134 : am_CS mX10_calculate mX8_calculate 125 4 := am_CS.of "" 1158 0 1048 107 1049 (by decide +kernel)
theorem kX10_calculate_144 : am_CV mX10_calculate mX10_writeAndGoOn 89 7 3 := am_CV.of 1144 1146 51 101 1147 (by decide +kernel)
theorem kX10_branch_5 : am_CV mX10_branch mX5_aAt 74 4 1 := am_CV.of 1129 540 541 93 542 (by decide +kernel)
theorem kX10_branch_14 : am_CV mX10_branch mX5_bAt 86 4 1 := am_CV.of 1134 555 556 93 557 (by decide +kernel)
theorem kX10_branch_21 : am_CV mX10_branch mX10_isNumber 57 7 1 := am_CV.of 1152 1154 53 101 1155 (by decide +kernel)
theorem kX10_branch_30 : am_CV mX10_branch mX10_isNumber 57 7 1 := am_CV.of 1152 1154 53 101 1155 (by decide +kernel)
theorem kX10_branch_45 : am_CV mX10_branch mX10_sortIn 108 7 1 := am_CV.of 1136 1138 49 101 1139 (by decide +kernel)
theorem kX10_branch_55 : am_CV mX10_branch mX10_sortIn 108 7 1 := am_CV.of 1136 1138 49 101 1139 (by decide +kernel)
theorem kX10_branch_106 : am_CS mX10_branch mX8_selectorOf 117 1 := am_CS.of "" 1156 0 863 107 864 (by decide +kernel)
theorem kX10_branch_111 : am_CV mX10_branch mX10_valueIn 60 7 1 := am_CV.of 1140 1142 50 101 1143 (by decide +kernel)
theorem kX10_branch_117 : am_CV mX10_branch mX10_valueIn 60 7 1 := am_CV.of 1140 1142 50 101 1143 (by decide +kernel)
theorem kX10_branch_120 : am_CS mX10_branch mX8_branches 128 3 := am_CS.of "" 1164 0 1105 107 1106 (by decide +kernel)
theorem kX10_branch_136 : am_CV mX10_branch mX5_cAt 114 4 1 := am_CV.of 1135 536 537 93 538 (by decide +kernel)
theorem kX10_branch_139 : am_CV mX10_branch mX10_goTo 99 7 2 := am_CV.of 1165 1167 55 101 1168 (by decide +kernel)
theorem kX10_branch_144 : am_CV mX10_branch mX10_goOn 132 7 0 := am_CV.of 1148 1150 52 101 1151 (by decide +kernel)
theorem kX10_load_2 : am_CV mX10_load mX10_memoryIndexOf 135 7 1 := am_CV.of 1173 1175 57 101 1176 (by decide +kernel)
theorem kX10_load_7 : am_CS mX10_load mX4_isMemoryWord 64 1 := am_CS.of "LinkPress$ToldMachine" 1179 1180 1089 100 1090 (by decide +kernel)
theorem kX10_load_21 : am_CV mX10_load mX5_aAt 74 4 1 := am_CV.of 1129 540 541 93 542 (by decide +kernel)
theorem kX10_load_36 : am_CV mX10_load mX10_writeAndGoOn 89 7 3 := am_CV.of 1144 1146 51 101 1147 (by decide +kernel)
theorem kX10_store_2 : am_CV mX10_store mX10_memoryIndexOf 135 7 1 := am_CV.of 1173 1175 57 101 1176 (by decide +kernel)
theorem kX10_store_7 : am_CS mX10_store mX4_isMemoryWord 64 1 := am_CS.of "LinkPress$ToldMachine" 1179 1180 1089 100 1090 (by decide +kernel)
theorem kX10_store_26 : am_CV mX10_store mX5_aAt 74 4 1 := am_CV.of 1129 540 541 93 542 (by decide +kernel)
theorem kX10_store_29 : am_CV mX10_store mX10_sortIn 108 7 1 := am_CV.of 1136 1138 49 101 1139 (by decide +kernel)
theorem kX10_store_44 : am_CV mX10_store mX5_aAt 74 4 1 := am_CV.of 1129 540 541 93 542 (by decide +kernel)
theorem kX10_store_47 : am_CV mX10_store mX10_valueIn 60 7 1 := am_CV.of 1140 1142 50 101 1143 (by decide +kernel)
theorem kX10_store_52 : am_CV mX10_store mX10_goOn 132 7 0 := am_CV.of 1148 1150 52 101 1151 (by decide +kernel)
theorem kX10_memoryIndexOf_5 : am_CV mX10_memoryIndexOf mX5_bAt 86 4 1 := am_CV.of 1134 555 556 93 557 (by decide +kernel)
theorem kX10_memoryIndexOf_11 : am_CV mX10_memoryIndexOf mX10_isNumber 57 7 1 := am_CV.of 1152 1154 53 101 1155 (by decide +kernel)
theorem kX10_memoryIndexOf_19 : am_CV mX10_memoryIndexOf mX10_valueIn 60 7 1 := am_CV.of 1140 1142 50 101 1143 (by decide +kernel)
theorem kX10_memoryIndexOf_27 : am_CV mX10_memoryIndexOf mX5_cAt 114 4 1 := am_CV.of 1135 536 537 93 538 (by decide +kernel)
theorem kX10_memoryIndexOf_31 : am_CS mX10_memoryIndexOf mX4_memoryIndex 138 1 := am_CS.of "LinkPress$ToldMachine" 1177 1178 1085 100 1086 (by decide +kernel)
theorem kX10_callFunction_17 : am_CV mX10_callFunction mX10_write 42 7 3 := am_CV.of 998 1000 35 101 1001 (by decide +kernel)
theorem kX10_callFunction_23 : am_CV mX10_callFunction mX10_goTo 99 7 2 := am_CV.of 1165 1167 55 101 1168 (by decide +kernel)
theorem kX10_goBack_2 : am_CV mX10_goBack mX10_sortIn 108 7 1 := am_CV.of 1136 1138 49 101 1139 (by decide +kernel)
theorem kX10_goBack_13 : am_CV mX10_goBack mX10_valueIn 60 7 1 := am_CV.of 1140 1142 50 101 1143 (by decide +kernel)
theorem kX10_goBack_35 : am_CV mX10_goBack mX10_goTo 99 7 2 := am_CV.of 1165 1167 55 101 1168 (by decide +kernel)
theorem kX10_print_3 : am_CV mX10_print mX10_isNumber 57 7 1 := am_CV.of 1152 1154 53 101 1155 (by decide +kernel)
theorem kX10_print_15 : am_CV mX10_print mX10_valueIn 60 7 1 := am_CV.of 1140 1142 50 101 1143 (by decide +kernel)
theorem kX10_print_18_7 : am_CU mX10_print mX4_keepPrint 141 7 1 := am_CU.of "LinkPress$ToldMachine" "LinkPress$Machine" 1197 1198 1199 1122 100 1123 1120 (by decide +kernel)
theorem kX10_print_22 : am_CV mX10_print mX10_goOn 132 7 0 := am_CV.of 1148 1150 52 101 1151 (by decide +kernel)
theorem kX10_writeAndGoOn_4 : am_CV mX10_writeAndGoOn mX10_write 42 7 3 := am_CV.of 998 1000 35 101 1001 (by decide +kernel)
theorem kX10_writeAndGoOn_8 : am_CV mX10_writeAndGoOn mX10_goOn 132 7 0 := am_CV.of 1148 1150 52 101 1151 (by decide +kernel)
theorem kX10_write_5 : am_CS mX10_write mX4_isRegister 145 1 := am_CS.of "LinkPress$ToldMachine" 1002 1003 1004 100 1005 (by decide +kernel)
theorem kX10_isNumber_2 : am_CV mX10_isNumber mX10_sortIn 108 7 1 := am_CV.of 1136 1138 49 101 1139 (by decide +kernel)
end
section
theorem kX11_init_9 : am_CI mX11_init mX5_init 9 0 := am_CI.of "LinkPress" 118 119 93 120 (by decide +kernel)
theorem kX11_init_24 : am_CI mX11_init mX0_init 18 1 := am_CI.of "" 150 151 94 152 (by decide +kernel)
theorem kX11_init_35 : am_CI mX11_init mX1_init 27 0 := am_CI.of "LinkPress" 176 177 95 178 (by decide +kernel)
theorem kX11_init_46 : am_CI mX11_init mX7_init 34 0 := am_CI.of "" 198 199 96 200 (by decide +kernel)
theorem kX11_init_69 : am_CI mX11_init mX6_init 41 3 := am_CI.of "" 244 245 98 246 (by decide +kernel)
theorem kX11_init_92 : am_CI mX11_init mX3_init 50 3 := am_CI.of "" 304 305 99 306 (by decide +kernel)
theorem kX11_init_107 : am_CI mX11_init mX10_init 57 1 := am_CI.of "" 323 324 101 325 (by decide +kernel)
theorem kX11_init_122 : am_CI mX11_init mX2_init 64 1 := am_CI.of "" 369 370 102 371 (by decide +kernel)
theorem kX11_function_4 : am_CV mX11_function mX5_addFunction 71 4 0 := am_CV.of 420 421 422 93 423 (by decide +kernel)
theorem kX11_put_11 : am_CV mX11_put mX5_addInstruction 75 4 5 := am_CV.of 428 429 430 93 431 (by decide +kernel)
theorem kX11_clear_4 : am_CV mX11_clear mX1_drop 79 1 0 := am_CV.of 485 486 487 95 488 (by decide +kernel)
theorem kX11_clear_11 : am_CV mX11_clear mX7_drop 82 6 0 := am_CV.of 489 490 491 96 492 (by decide +kernel)
theorem kX11_clear_18 : am_CV mX11_clear mX5_drop 83 4 0 := am_CV.of 493 494 495 93 496 (by decide +kernel)
theorem kX11_press_4 : am_CV mX11_press mX5_refusal 85 4 0 := am_CV.of 501 502 503 93 504 (by decide +kernel)
theorem kX11_press_19 : am_CV mX11_press mX0_refresh 88 0 0 := am_CV.of 558 559 560 94 561 (by decide +kernel)
theorem kX11_press_30 : am_CV mX11_press mX5_functions 91 4 0 := am_CV.of 615 586 587 93 588 (by decide +kernel)
theorem kX11_press_33 : am_CV mX11_press mX1_begin 94 1 1 := am_CV.of 616 617 618 95 619 (by decide +kernel)
theorem kX11_press_45 : am_CV mX11_press mX5_functions 91 4 0 := am_CV.of 615 586 587 93 588 (by decide +kernel)
theorem kX11_press_67 : am_CV mX11_press mX0_bodyOf 98 0 1 := am_CV.of 623 624 625 94 626 (by decide +kernel)
theorem kX11_press_75 : am_CV mX11_press mX1_setBody 102 1 2 := am_CV.of 635 636 637 95 638 (by decide +kernel)
theorem kX11_press_88 : am_CV mX11_press mX7_drop 82 6 0 := am_CV.of 489 490 491 96 492 (by decide +kernel)
theorem kX11_press_99 : am_CV mX11_press mX6_findAll 106 5 0 := am_CV.of 643 644 645 98 646 (by decide +kernel)
theorem kX11_press_106 : am_CV mX11_press mX3_link 109 3 0 := am_CV.of 741 742 743 99 744 (by decide +kernel)
theorem kX11_press_113 : am_CV mX11_press mX1_size 112 1 0 := am_CV.of 897 807 808 95 809 (by decide +kernel)
theorem kX11_about_5 : am_CV mX11_about mX5_hasFunction 115 4 1 := am_CV.of 902 460 461 93 462 (by decide +kernel)
theorem kX11_about_45 : am_CV mX11_about mX5_lengthOf 119 4 1 := am_CV.of 903 464 465 93 466 (by decide +kernel)
theorem kX11_about_53 : am_CV mX11_about mX0_refresh 88 0 0 := am_CV.of 558 559 560 94 561 (by decide +kernel)
theorem kX11_about_61 : am_CV mX11_about mX0_isTaken 122 0 1 := am_CV.of 904 628 629 94 630 (by decide +kernel)
theorem kX11_about_77 : am_CV mX11_about mX0_refresh 88 0 0 := am_CV.of 558 559 560 94 561 (by decide +kernel)
theorem kX11_about_85 : am_CV mX11_about mX0_leastOf 125 0 1 := am_CV.of 905 632 633 94 634 (by decide +kernel)
theorem kX11_body_5 : am_CV mX11_body mX1_bodyOf 128 1 1 := am_CV.of 910 828 829 95 830 (by decide +kernel)
theorem kX11_body_43 : am_CV mX11_body mX1_addressOf 129 1 1 := am_CV.of 911 840 841 95 842 (by decide +kernel)
theorem kX11_routine_5 : am_CV mX11_routine mX7_has 132 6 1 := am_CV.of 916 775 776 96 777 (by decide +kernel)
theorem kX11_routine_49 : am_CV mX11_routine mX7_lengthOf 135 6 1 := am_CV.of 917 771 772 96 773 (by decide +kernel)
theorem kX11_routine_58 : am_CV mX11_routine mX7_timesOf 136 6 1 := am_CV.of 918 919 920 96 921 (by decide +kernel)
theorem kX11_routine_67 : am_CV mX11_routine mX7_savesOf 139 6 1 := am_CV.of 922 923 924 96 925 (by decide +kernel)
theorem kX11_routine_76 : am_CV mX11_routine mX7_addressOf 142 6 1 := am_CV.of 927 928 929 96 930 (by decide +kernel)
theorem kX11_occurrence_6 : am_CV mX11_occurrence mX7_indexOf 143 6 2 := am_CV.of 936 937 938 96 939 (by decide +kernel)
theorem kX11_occurrence_54 : am_CV mX11_occurrence mX7_bodyAt 147 6 1 := am_CV.of 940 941 942 96 943 (by decide +kernel)
theorem kX11_occurrence_64 : am_CV mX11_occurrence mX7_placeAt 150 6 1 := am_CV.of 944 945 946 96 947 (by decide +kernel)
theorem kX11_occurrence_74 : am_CV mX11_occurrence mX7_wordAddressAt 153 6 1 := am_CV.of 948 949 950 96 951 (by decide +kernel)
theorem kX11_word_5 : am_CV mX11_word mX1_wordAt 156 1 1 := am_CV.of 956 957 958 95 959 (by decide +kernel)
theorem kX11_run_2 : am_CV mX11_run mX11_machineOf 159 8 1 := am_CV.of 964 966 34 92 967 (by decide +kernel)
theorem kX11_run_23_2 : am_CU mX11_run mX2_isReady 165 2 0 := am_CU.of "LinkPress$Machine" "LinkPress$Machine" 968 970 971 972 102 973 969 (by decide +kernel)
theorem kX11_run_23_7 : am_CU mX11_run mX10_isReady 165 7 0 := am_CU.of "LinkPress$Machine" "LinkPress$Machine" 968 970 975 976 101 977 969 (by decide +kernel)
theorem kX11_run_33_2 : am_CU mX11_run mX4_drive 169 2 1 := am_CU.of "LinkPress$Machine" "LinkPress$Machine" 979 981 982 980 100 984 0 (by decide +kernel)
theorem kX11_run_33_7 : am_CU mX11_run mX4_drive 169 7 1 := am_CU.of "LinkPress$Machine" "LinkPress$Machine" 979 981 983 980 100 984 0 (by decide +kernel)
theorem kX11_ran_2 : am_CV mX11_ran mX11_machineOf 159 8 1 := am_CV.of 964 966 34 92 967 (by decide +kernel)
theorem kX11_ran_11_2 : am_CU mX11_ran mX4_hasRun 172 2 0 := am_CU.of "LinkPress$Machine" "LinkPress$Machine" 1204 1206 1207 1205 100 1209 0 (by decide +kernel)
theorem kX11_ran_11_7 : am_CU mX11_ran mX4_hasRun 172 7 0 := am_CU.of "LinkPress$Machine" "LinkPress$Machine" 1204 1206 1208 1205 100 1209 0 (by decide +kernel)
theorem kX11_ran_57_2 : am_CU mX11_ran mX4_outcome 175 2 0 := am_CU.of "LinkPress$Machine" "LinkPress$Machine" 1210 1212 1213 1211 100 1215 1239 (by decide +kernel)
theorem kX11_ran_57_7 : am_CU mX11_ran mX4_outcome 175 7 0 := am_CU.of "LinkPress$Machine" "LinkPress$Machine" 1210 1212 1214 1211 100 1215 1239 (by decide +kernel)
theorem kX11_ran_62_2 : am_CU mX11_ran mX4_steps 178 2 0 := am_CU.of "LinkPress$Machine" "LinkPress$Machine" 1216 1218 1219 1217 100 1221 0 (by decide +kernel)
theorem kX11_ran_62_7 : am_CU mX11_ran mX4_steps 178 7 0 := am_CU.of "LinkPress$Machine" "LinkPress$Machine" 1216 1218 1220 1217 100 1221 0 (by decide +kernel)
theorem kX11_ran_67_2 : am_CU mX11_ran mX4_prints 181 2 0 := am_CU.of "LinkPress$Machine" "LinkPress$Machine" 1222 1224 1225 1223 100 1227 0 (by decide +kernel)
theorem kX11_ran_67_7 : am_CU mX11_ran mX4_prints 181 7 0 := am_CU.of "LinkPress$Machine" "LinkPress$Machine" 1222 1224 1226 1223 100 1227 0 (by decide +kernel)
theorem kX11_ran_72_2 : am_CU mX11_ran mX2_where 184 2 0 := am_CU.of "LinkPress$Machine" "LinkPress$Machine" 1228 1230 1231 1232 102 1233 1229 (by decide +kernel)
theorem kX11_ran_72_7 : am_CU mX11_ran mX10_where 184 7 0 := am_CU.of "LinkPress$Machine" "LinkPress$Machine" 1228 1230 1234 1235 101 1236 1229 (by decide +kernel)
theorem kX11_ran_77_2 : am_CU mX11_ran mX2_whichPlace 187 2 0 := am_CU.of "LinkPress$Machine" "LinkPress$Machine" 1241 1243 1244 1245 102 1246 1242 (by decide +kernel)
theorem kX11_ran_77_7 : am_CU mX11_ran mX10_whichPlace 187 7 0 := am_CU.of "LinkPress$Machine" "LinkPress$Machine" 1241 1243 1247 1248 101 1249 1242 (by decide +kernel)
theorem kX11_printed_2 : am_CV mX11_printed mX11_machineOf 159 8 1 := am_CV.of 964 966 34 92 967 (by decide +kernel)
theorem kX11_printed_16_2 : am_CU mX11_printed mX4_printAt 190 2 1 := am_CU.of "LinkPress$Machine" "LinkPress$Machine" 1254 1256 1257 1255 100 1259 0 (by decide +kernel)
theorem kX11_printed_16_7 : am_CU mX11_printed mX4_printAt 190 7 1 := am_CU.of "LinkPress$Machine" "LinkPress$Machine" 1254 1256 1258 1255 100 1259 0 (by decide +kernel)
theorem kX11_register_2 : am_CV mX11_register mX11_machineOf 159 8 1 := am_CV.of 964 966 34 92 967 (by decide +kernel)
theorem kX11_register_16_2 : am_CU mX11_register mX2_registerAt 193 2 1 := am_CU.of "LinkPress$Machine" "LinkPress$Machine" 1264 1266 1267 1268 102 1269 1265 (by decide +kernel)
theorem kX11_register_16_7 : am_CU mX11_register mX10_registerAt 193 7 1 := am_CU.of "LinkPress$Machine" "LinkPress$Machine" 1264 1266 1270 1271 101 1272 1265 (by decide +kernel)
theorem kX11_memory_2 : am_CV mX11_memory mX11_machineOf 159 8 1 := am_CV.of 964 966 34 92 967 (by decide +kernel)
theorem kX11_memory_16_2 : am_CU mX11_memory mX2_memoryAt 196 2 1 := am_CU.of "LinkPress$Machine" "LinkPress$Machine" 1277 1279 1280 1281 102 1282 1278 (by decide +kernel)
theorem kX11_memory_16_7 : am_CU mX11_memory mX10_memoryAt 196 7 1 := am_CU.of "LinkPress$Machine" "LinkPress$Machine" 1277 1279 1283 1284 101 1285 1278 (by decide +kernel)
theorem kX11_count_48 : am_CV mX11_count mX5_functions 91 4 0 := am_CV.of 615 586 587 93 588 (by decide +kernel)
theorem kX11_count_56 : am_CV mX11_count mX5_size 199 4 0 := am_CV.of 1290 571 572 93 573 (by decide +kernel)
theorem kX11_count_64 : am_CV mX11_count mX0_refresh 88 0 0 := am_CV.of 558 559 560 94 561 (by decide +kernel)
theorem kX11_count_71 : am_CV mX11_count mX0_classes 200 0 0 := am_CV.of 1291 1292 1293 94 1294 (by decide +kernel)
theorem kX11_count_79 : am_CV mX11_count mX1_size 112 1 0 := am_CV.of 897 807 808 95 809 (by decide +kernel)
theorem kX11_count_87 : am_CV mX11_count mX1_bodies 203 1 0 := am_CV.of 1295 1296 1297 95 1298 (by decide +kernel)
theorem kX11_count_95 : am_CV mX11_count mX7_size 206 6 0 := am_CV.of 1300 787 788 96 789 (by decide +kernel)
theorem kX11_count_103 : am_CV mX11_count mX7_savesInAll 207 6 0 := am_CV.of 1301 1302 1303 96 1304 (by decide +kernel)
end
section
theorem kX12_isRegister_4 : am_CS mX12_isRegister mX12_in 119 3 := am_CS.of "" 1444 0 1445 103 1446 (by decide +kernel)
theorem kX12_isGood_4 : am_CS mX12_isGood mX12_in 119 3 := am_CS.of "" 1444 0 1445 103 1446 (by decide +kernel)
theorem kX12_isGood_19 : am_CS mX12_isGood mX12_isRegister 123 1 := am_CS.of "" 1450 0 1451 103 1452 (by decide +kernel)
theorem kX12_isGood_26 : am_CS mX12_isGood mX12_isRegister 123 1 := am_CS.of "" 1450 0 1451 103 1452 (by decide +kernel)
theorem kX12_isGood_33 : am_CS mX12_isGood mX12_isRegister 123 1 := am_CS.of "" 1450 0 1451 103 1452 (by decide +kernel)
theorem kX12_isGood_64 : am_CS mX12_isGood mX12_isRegister 123 1 := am_CS.of "" 1450 0 1451 103 1452 (by decide +kernel)
theorem kX12_isGood_71 : am_CS mX12_isGood mX12_isRegister 123 1 := am_CS.of "" 1450 0 1451 103 1452 (by decide +kernel)
theorem kX12_isGood_82 : am_CS mX12_isGood mX12_in 119 3 := am_CS.of "" 1444 0 1445 103 1446 (by decide +kernel)
theorem kX12_isGood_92 : am_CS mX12_isGood mX12_in 119 3 := am_CS.of "" 1444 0 1445 103 1446 (by decide +kernel)
theorem kX12_isGood_108 : am_CS mX12_isGood mX12_in 119 3 := am_CS.of "" 1444 0 1445 103 1446 (by decide +kernel)
theorem kX12_isGood_127 : am_CS mX12_isGood mX12_isRegister 123 1 := am_CS.of "" 1450 0 1451 103 1452 (by decide +kernel)
theorem kX12_isGood_137 : am_CS mX12_isGood mX12_in 119 3 := am_CS.of "" 1444 0 1445 103 1446 (by decide +kernel)
theorem kX12_isGood_156 : am_CS mX12_isGood mX12_isRegister 123 1 := am_CS.of "" 1450 0 1451 103 1452 (by decide +kernel)
theorem kX12_isGood_163 : am_CS mX12_isGood mX12_isRegister 123 1 := am_CS.of "" 1450 0 1451 103 1452 (by decide +kernel)
theorem kX12_isGood_173 : am_CS mX12_isGood mX12_in 119 3 := am_CS.of "" 1444 0 1445 103 1446 (by decide +kernel)
theorem kX12_isGood_195 : am_CS mX12_isGood mX12_in 119 3 := am_CS.of "" 1444 0 1445 103 1446 (by decide +kernel)
theorem kX12_isGood_215 : am_CS mX12_isGood mX12_in 119 3 := am_CS.of "" 1444 0 1445 103 1446 (by decide +kernel)
theorem kX12_isGood_226 : am_CS mX12_isGood mX12_isRegister 123 1 := am_CS.of "" 1450 0 1451 103 1452 (by decide +kernel)
theorem kX12_isGood_236 : am_CS mX12_isGood mX12_in 119 3 := am_CS.of "" 1444 0 1445 103 1446 (by decide +kernel)
theorem kX12_isGood_255 : am_CS mX12_isGood mX12_isRegister 123 1 := am_CS.of "" 1450 0 1451 103 1452 (by decide +kernel)
theorem kX12_put_8 : am_CS mX12_put mX12_in 119 3 := am_CS.of "" 1444 0 1445 103 1446 (by decide +kernel)
theorem kX12_put_20 : am_CS mX12_put mX12_isGood 128 4 := am_CS.of "" 1447 0 1448 103 1449 (by decide +kernel)
theorem kX12_isSame_18 : am_CS mX12_isSame mX12_tellsA 139 1 := am_CS.of "" 1481 0 1482 103 1483 (by decide +kernel)
theorem kX12_isSame_40 : am_CS mX12_isSame mX12_tellsB 142 1 := am_CS.of "" 1484 0 1485 103 1486 (by decide +kernel)
theorem kX12_isSame_62 : am_CS mX12_isSame mX12_tellsC 145 1 := am_CS.of "" 1487 0 1488 103 1489 (by decide +kernel)
theorem kX12_isBranch_5 : am_CS mX12_isBranch mX12_in 119 3 := am_CS.of "" 1444 0 1445 103 1446 (by decide +kernel)
theorem kX12_isLike_79 : am_CS mX12_isLike mX12_isCall 148 1 := am_CS.of "" 1470 0 1471 103 1472 (by decide +kernel)
theorem kX12_isLike_110 : am_CV mX12_isLike mX12_counts 151 9 1 := am_CV.of 1473 1475 64 103 1476 (by decide +kernel)
theorem kX12_isLike_121 : am_CV mX12_isLike mX12_counts 151 9 1 := am_CV.of 1473 1475 64 103 1476 (by decide +kernel)
theorem kX12_isLike_140 : am_CV mX12_isLike mX12_isSame 155 9 2 := am_CV.of 1477 1479 65 103 1480 (by decide +kernel)
theorem kX12_parts_70 : am_CV mX12_parts mX12_isLike 159 9 2 := am_CV.of 1466 1468 63 103 1469 (by decide +kernel)
theorem kX12_leastOf_31 : am_CV mX12_leastOf mX12_isTaken 162 9 1 := am_CV.of 1490 1492 66 103 1493 (by decide +kernel)
theorem kX12_about_8 : am_CS mX12_about mX12_in 119 3 := am_CS.of "" 1444 0 1445 103 1446 (by decide +kernel)
theorem kX12_about_17 : am_CV mX12_about mX12_parts 165 9 0 := am_CV.of 1462 1464 62 103 1465 (by decide +kernel)
theorem kX12_about_41 : am_CV mX12_about mX12_isTaken 162 9 1 := am_CV.of 1490 1492 66 103 1493 (by decide +kernel)
theorem kX12_about_63 : am_CV mX12_about mX12_leastOf 169 9 2 := am_CV.of 1494 1496 67 103 1497 (by decide +kernel)
theorem kX12_refusal_124 : am_CS mX12_refusal mX12_isBranch 173 1 := am_CS.of "" 1506 0 1507 103 1508 (by decide +kernel)
theorem kX12_refusal_195 : am_CS mX12_refusal mX12_isCall 148 1 := am_CS.of "" 1470 0 1471 103 1472 (by decide +kernel)
theorem kX12_press_1 : am_CV mX12_press mX12_refusal 176 9 0 := am_CV.of 1502 1504 68 103 1505 (by decide +kernel)
theorem kX12_press_25 : am_CV mX12_press mX12_parts 165 9 0 := am_CV.of 1462 1464 62 103 1465 (by decide +kernel)
theorem kX12_press_45 : am_CV mX12_press mX12_leastOf 169 9 2 := am_CV.of 1494 1496 67 103 1497 (by decide +kernel)
theorem kX12_press_63 : am_CV mX12_press mX12_isTaken 162 9 1 := am_CV.of 1490 1492 66 103 1493 (by decide +kernel)
theorem kX12_press_89 : am_CV mX12_press mX12_leastOf 169 9 2 := am_CV.of 1494 1496 67 103 1497 (by decide +kernel)
theorem kX12_press_151 : am_CV mX12_press mX12_findRoutine 185 9 0 := am_CV.of 1509 1511 69 103 1512 (by decide +kernel)
theorem kX12_press_171 : am_CV mX12_press mX12_layOut 189 9 0 := am_CV.of 1533 1535 75 103 1536 (by decide +kernel)
theorem kX12_press_175 : am_CV mX12_press mX12_write 192 9 0 := am_CV.of 1541 1543 77 103 1544 (by decide +kernel)
theorem kX12_isTarget_26 : am_CS mX12_isTarget mX12_isBranch 173 1 := am_CS.of "" 1506 0 1507 103 1508 (by decide +kernel)
theorem kX12_occurrences_20 : am_CV mX12_occurrences mX12_isBody 198 9 1 := am_CV.of 1513 1515 70 103 1516 (by decide +kernel)
theorem kX12_occurrences_50 : am_CV mX12_occurrences mX12_isSame 155 9 2 := am_CV.of 1477 1479 65 103 1480 (by decide +kernel)
theorem kX12_occurrences_62 : am_CV mX12_occurrences mX12_isFit 201 9 3 := am_CV.of 1525 1527 73 103 1528 (by decide +kernel)
theorem kX12_occurrences_105 : am_CV mX12_occurrences mX12_isSame 155 9 2 := am_CV.of 1477 1479 65 103 1480 (by decide +kernel)
theorem kX12_findRoutine_36 : am_CV mX12_findRoutine mX12_isBody 198 9 1 := am_CV.of 1513 1515 70 103 1516 (by decide +kernel)
theorem kX12_findRoutine_66 : am_CV mX12_findRoutine mX12_namesOne 204 9 1 := am_CV.of 1517 1519 71 103 1520 (by decide +kernel)
theorem kX12_findRoutine_96 : am_CV mX12_findRoutine mX12_isTarget 207 9 2 := am_CV.of 1521 1523 72 103 1524 (by decide +kernel)
theorem kX12_findRoutine_171 : am_CV mX12_findRoutine mX12_isFit 201 9 3 := am_CV.of 1525 1527 73 103 1528 (by decide +kernel)
theorem kX12_findRoutine_188 : am_CV mX12_findRoutine mX12_occurrences 210 9 2 := am_CV.of 1529 1531 74 103 1532 (by decide +kernel)
theorem kX12_findRoutine_275 : am_CV mX12_findRoutine mX12_occurrences 210 9 2 := am_CV.of 1529 1531 74 103 1532 (by decide +kernel)
theorem kX12_layOut_16 : am_CV mX12_layOut mX12_isBody 198 9 1 := am_CV.of 1513 1515 70 103 1516 (by decide +kernel)
theorem kX12_layOut_63 : am_CV mX12_layOut mX12_wordsOf 214 9 1 := am_CV.of 1537 1539 76 103 1540 (by decide +kernel)
theorem kX12_write_21 : am_CV mX12_write mX12_isBody 198 9 1 := am_CV.of 1513 1515 70 103 1516 (by decide +kernel)
theorem kX12_write_77 : am_CS mX12_write mX12_jal 217 2 := am_CS.of "" 1545 0 1546 103 1547 (by decide +kernel)
theorem kX12_write_80 : am_CV mX12_write mX12_say 220 9 2 := am_CV.of 1549 1551 78 103 1552 (by decide +kernel)
theorem kX12_write_136 : am_CV mX12_write mX12_say 220 9 2 := am_CV.of 1549 1551 78 103 1552 (by decide +kernel)
theorem kX12_write_170 : am_CV mX12_write mX12_say 220 9 2 := am_CV.of 1549 1551 78 103 1552 (by decide +kernel)
theorem kX12_write_183 : am_CV mX12_write mX12_coded 223 9 3 := am_CV.of 1553 1555 79 103 1556 (by decide +kernel)
theorem kX12_write_186 : am_CV mX12_write mX12_say 220 9 2 := am_CV.of 1549 1551 78 103 1552 (by decide +kernel)
theorem kX12_write_237 : am_CV mX12_write mX12_coded 223 9 3 := am_CV.of 1553 1555 79 103 1556 (by decide +kernel)
theorem kX12_write_240 : am_CV mX12_write mX12_say 220 9 2 := am_CV.of 1549 1551 78 103 1552 (by decide +kernel)
theorem kX12_write_254 : am_CV mX12_write mX12_say 220 9 2 := am_CV.of 1549 1551 78 103 1552 (by decide +kernel)
theorem kX12_coded_72 : am_CS mX12_coded mX12_f3Of 230 1 := am_CS.of "" 1558 0 1559 103 1560 (by decide +kernel)
theorem kX12_coded_109 : am_CS mX12_coded mX12_f3Of 230 1 := am_CS.of "" 1558 0 1559 103 1560 (by decide +kernel)
theorem kX12_coded_160 : am_CS mX12_coded mX12_f3Of 230 1 := am_CS.of "" 1558 0 1559 103 1560 (by decide +kernel)
theorem kX12_coded_353 : am_CS mX12_coded mX12_branch 233 4 := am_CS.of "" 1561 0 1562 103 1563 (by decide +kernel)
theorem kX12_coded_380 : am_CS mX12_coded mX12_branch 233 4 := am_CS.of "" 1561 0 1562 103 1563 (by decide +kernel)
theorem kX12_coded_399 : am_CS mX12_coded mX12_jal 217 2 := am_CS.of "" 1545 0 1546 103 1547 (by decide +kernel)
theorem kX12_coded_413 : am_CS mX12_coded mX12_jal 217 2 := am_CS.of "" 1545 0 1546 103 1547 (by decide +kernel)
theorem kX12_coded_427 : am_CS mX12_coded mX12_jal 217 2 := am_CS.of "" 1545 0 1546 103 1547 (by decide +kernel)
theorem kX12_body_15 : am_CS mX12_body mX12_in 119 3 := am_CS.of "" 1444 0 1445 103 1446 (by decide +kernel)
theorem kX12_hasRoutine_15 : am_CS mX12_hasRoutine mX12_in 119 3 := am_CS.of "" 1444 0 1445 103 1446 (by decide +kernel)
theorem kX12_routine_2 : am_CV mX12_routine mX12_hasRoutine 238 9 1 := am_CV.of 1574 1576 80 103 1577 (by decide +kernel)
theorem kX12_occurrence_2 : am_CV mX12_occurrence mX12_hasRoutine 238 9 1 := am_CV.of 1574 1576 80 103 1577 (by decide +kernel)
theorem kX12_occurrence_18 : am_CS mX12_occurrence mX12_in 119 3 := am_CS.of "" 1444 0 1445 103 1446 (by decide +kernel)
theorem kX12_word_15 : am_CS mX12_word mX12_in 119 3 := am_CS.of "" 1444 0 1445 103 1446 (by decide +kernel)
theorem kX12_run_3 : am_CS mX12_run mX12_in 119 3 := am_CS.of "" 1444 0 1445 103 1446 (by decide +kernel)
theorem kX12_run_14 : am_CS mX12_run mX12_in 119 3 := am_CS.of "" 1444 0 1445 103 1446 (by decide +kernel)
theorem kX12_run_45 : am_CV mX12_run mX12_begin 241 9 1 := am_CV.of 1590 1592 81 103 1593 (by decide +kernel)
theorem kX12_run_59 : am_CV mX12_run mX12_runTold 245 9 1 := am_CV.of 1594 1596 82 103 1597 (by decide +kernel)
theorem kX12_run_67 : am_CV mX12_run mX12_runImage 248 9 1 := am_CV.of 1629 1631 87 103 1632 (by decide +kernel)
theorem kX12_runTold_84 : am_CV mX12_runTold mX12_does 251 9 1 := am_CV.of 1598 1600 83 103 1601 (by decide +kernel)
theorem kX12_runTold_107 : am_CS mX12_runTold mX12_isBranch 173 1 := am_CS.of "" 1506 0 1507 103 1508 (by decide +kernel)
theorem kX12_runTold_151 : am_CS mX12_runTold mX12_isCall 148 1 := am_CS.of "" 1470 0 1471 103 1472 (by decide +kernel)
theorem kX12_reckoned_146 : am_CS mX12_reckoned mX12_isBelow 258 2 := am_CS.of "" 1609 0 1610 103 1611 (by decide +kernel)
theorem kX12_holds_90 : am_CS mX12_holds mX12_isBelow 258 2 := am_CS.of "" 1609 0 1610 103 1611 (by decide +kernel)
theorem kX12_holds_96 : am_CS mX12_holds mX12_isBelow 258 2 := am_CS.of "" 1609 0 1610 103 1611 (by decide +kernel)
theorem kX12_isCell_13 : am_CS mX12_isCell mX12_in 119 3 := am_CS.of "" 1444 0 1445 103 1446 (by decide +kernel)
theorem kX12_does_47 : am_CV mX12_does mX12_isNumber 263 9 1 := am_CV.of 1602 1604 84 103 1605 (by decide +kernel)
theorem kX12_does_56 : am_CV mX12_does mX12_isNumber 263 9 1 := am_CV.of 1602 1604 84 103 1605 (by decide +kernel)
theorem kX12_does_78 : am_CS mX12_does mX12_reckoned 266 3 := am_CS.of "" 1606 0 1607 103 1608 (by decide +kernel)
theorem kX12_does_81 : am_CV mX12_does mX12_set 269 9 3 := am_CV.of 1613 1615 85 103 1616 (by decide +kernel)
theorem kX12_does_117 : am_CV mX12_does mX12_set 269 9 3 := am_CV.of 1613 1615 85 103 1616 (by decide +kernel)
theorem kX12_does_125 : am_CV mX12_does mX12_isNumber 263 9 1 := am_CV.of 1602 1604 84 103 1605 (by decide +kernel)
theorem kX12_does_144 : am_CS mX12_does mX12_reckoned 266 3 := am_CS.of "" 1606 0 1607 103 1608 (by decide +kernel)
theorem kX12_does_147 : am_CV mX12_does mX12_set 269 9 3 := am_CV.of 1613 1615 85 103 1616 (by decide +kernel)
theorem kX12_does_166 : am_CV mX12_does mX12_set 269 9 3 := am_CV.of 1613 1615 85 103 1616 (by decide +kernel)
theorem kX12_does_180 : am_CV mX12_does mX12_isNumber 263 9 1 := am_CV.of 1602 1604 84 103 1605 (by decide +kernel)
theorem kX12_does_194 : am_CS mX12_does mX12_isCell 273 1 := am_CS.of "" 1617 0 1618 103 1619 (by decide +kernel)
theorem kX12_does_242 : am_CV mX12_does mX12_set 269 9 3 := am_CV.of 1613 1615 85 103 1616 (by decide +kernel)
theorem kX12_does_277 : am_CS mX12_does mX12_isBranch 173 1 := am_CS.of "" 1506 0 1507 103 1508 (by decide +kernel)
theorem kX12_does_324 : am_CV mX12_does mX12_isNumber 263 9 1 := am_CV.of 1602 1604 84 103 1605 (by decide +kernel)
theorem kX12_does_333 : am_CV mX12_does mX12_isNumber 263 9 1 := am_CV.of 1602 1604 84 103 1605 (by decide +kernel)
theorem kX12_does_368 : am_CS mX12_does mX12_holds 276 3 := am_CS.of "" 1622 0 1623 103 1624 (by decide +kernel)
theorem kX12_does_429 : am_CV mX12_does mX12_set 269 9 3 := am_CV.of 1613 1615 85 103 1616 (by decide +kernel)
theorem kX12_does_453 : am_CV mX12_does mX12_isNumber 263 9 1 := am_CV.of 1602 1604 84 103 1605 (by decide +kernel)
theorem kX12_does_468 : am_CV mX12_does mX12_print 279 9 2 := am_CV.of 1625 1627 86 103 1628 (by decide +kernel)
theorem kX12_runImage_63 : am_CV mX12_runImage mX12_does_ 283 9 2 := am_CV.of 1633 1635 88 103 1636 (by decide +kernel)
theorem kX12_does__147 : am_CS mX12_does_ mX12_made 285 4 := am_CS.of "" 1637 0 1638 103 1639 (by decide +kernel)
theorem kX12_does__150 : am_CV mX12_does_ mX12_give 288 9 2 := am_CV.of 1640 1642 89 103 1643 (by decide +kernel)
theorem kX12_does__183 : am_CS mX12_does_ mX12_made 285 4 := am_CS.of "" 1637 0 1638 103 1639 (by decide +kernel)
theorem kX12_does__186 : am_CV mX12_does_ mX12_give 288 9 2 := am_CV.of 1640 1642 89 103 1643 (by decide +kernel)
theorem kX12_does__200 : am_CV mX12_does_ mX12_give 288 9 2 := am_CV.of 1640 1642 89 103 1643 (by decide +kernel)
theorem kX12_does__217 : am_CS mX12_does_ mX12_isCell 273 1 := am_CS.of "" 1617 0 1618 103 1619 (by decide +kernel)
theorem kX12_does__243 : am_CV mX12_does_ mX12_give 288 9 2 := am_CV.of 1640 1642 89 103 1643 (by decide +kernel)
theorem kX12_does__265 : am_CS mX12_does_ mX12_isCell 273 1 := am_CS.of "" 1617 0 1618 103 1619 (by decide +kernel)
theorem kX12_does__299 : am_CS mX12_does_ mX12_holds 276 3 := am_CS.of "" 1622 0 1623 103 1624 (by decide +kernel)
theorem kX12_does__350 : am_CV mX12_does_ mX12_give 288 9 2 := am_CV.of 1640 1642 89 103 1643 (by decide +kernel)
theorem kX12_does__403 : am_CV mX12_does_ mX12_give 288 9 2 := am_CV.of 1640 1642 89 103 1643 (by decide +kernel)
theorem kX12_does__415 : am_CV mX12_does_ mX12_print 279 9 2 := am_CV.of 1625 1627 86 103 1628 (by decide +kernel)
theorem kX12_made_79 : am_CS mX12_made mX12_isBelow 258 2 := am_CS.of "" 1609 0 1610 103 1611 (by decide +kernel)
theorem kX12_hasRun_3 : am_CS mX12_hasRun mX12_in 119 3 := am_CS.of "" 1444 0 1445 103 1446 (by decide +kernel)
theorem kX12_ran_2 : am_CV mX12_ran mX12_hasRun 291 9 1 := am_CV.of 1648 1650 90 103 1651 (by decide +kernel)
theorem kX12_printed_2 : am_CV mX12_printed mX12_hasRun 291 9 1 := am_CV.of 1648 1650 90 103 1651 (by decide +kernel)
theorem kX12_register_2 : am_CV mX12_register mX12_hasRun 291 9 1 := am_CV.of 1648 1650 90 103 1651 (by decide +kernel)
theorem kX12_register_12 : am_CS mX12_register mX12_in 119 3 := am_CS.of "" 1444 0 1445 103 1446 (by decide +kernel)
theorem kX12_memory_2 : am_CV mX12_memory mX12_hasRun 291 9 1 := am_CV.of 1648 1650 90 103 1651 (by decide +kernel)
theorem kX12_memory_12 : am_CS mX12_memory mX12_in 119 3 := am_CS.of "" 1444 0 1445 103 1446 (by decide +kernel)
theorem kX12_count_55 : am_CV mX12_count mX12_parts 165 9 0 := am_CV.of 1462 1464 62 103 1465 (by decide +kernel)
end
section
theorem kX2_init_1 : am_CI mX2_init mX4_init 3 0 := am_CI.of "LinkPress" 372 327 100 328 (by decide +kernel)
theorem kX2_isReady_4 : am_CV mX2_isReady mX1_size 24 1 0 := am_CV.of 974 807 808 95 809 (by decide +kernel)
theorem kX2_restart_5 : am_CS mX2_restart mJ7_fill_53178 30 2 := am_CS.of "" 991 0 203 97 204 (by decide +kernel)
theorem kX2_restart_13 : am_CS mX2_restart mJ7_fill_53178 30 2 := am_CS.of "" 991 0 203 97 204 (by decide +kernel)
theorem kX2_restart_26 : am_CV mX2_restart mX1_bodyOf 36 1 1 := am_CV.of 992 828 829 95 830 (by decide +kernel)
theorem kX2_restart_29 : am_CV mX2_restart mX1_addressOf 40 1 1 := am_CV.of 993 840 841 95 842 (by decide +kernel)
theorem kX2_registerAt_1 : am_CS mX2_registerAt mX4_isRegister 47 1 := am_CS.of "LinkPress$ImageMachine" 1062 1063 1004 100 1005 (by decide +kernel)
theorem kX2_memoryAt_1 : am_CS mX2_memoryAt mX4_isMemoryWord 51 1 := am_CS.of "LinkPress$ImageMachine" 1091 1092 1089 100 1090 (by decide +kernel)
theorem kX2_step_8 : am_CV mX2_step mX1_indexAt 54 1 1 := am_CV.of 1012 1013 1014 95 1015 (by decide +kernel)
theorem kX2_step_24 : am_CV mX2_step mX1_wordAt 57 1 1 := am_CV.of 1016 957 958 95 959 (by decide +kernel)
theorem kX2_step_29 : am_CS mX2_step mX8_targetOf 60 1 := am_CS.of "" 1017 0 1018 107 1019 (by decide +kernel)
theorem kX2_step_34 : am_CS mX2_step mX8_codeOf 65 1 := am_CS.of "" 1020 0 1021 107 1022 (by decide +kernel)
theorem kX2_step_124 : am_CV mX2_step mX2_calculateByRegisters 68 2 1 := am_CV.of 1023 1025 36 102 1026 (by decide +kernel)
theorem kX2_step_127 : am_CV mX2_step mX2_writeAndGoOn 71 2 2 := am_CV.of 1054 1056 39 102 1057 (by decide +kernel)
theorem kX2_step_135 : am_CV mX2_step mX2_calculateByImmediate 75 2 1 := am_CV.of 1072 1074 43 102 1075 (by decide +kernel)
theorem kX2_step_138 : am_CV mX2_step mX2_writeAndGoOn 71 2 2 := am_CV.of 1054 1056 39 102 1057 (by decide +kernel)
theorem kX2_step_149 : am_CV mX2_step mX2_writeAndGoOn 71 2 2 := am_CV.of 1054 1056 39 102 1057 (by decide +kernel)
theorem kX2_step_155 : am_CV mX2_step mX2_load 78 2 1 := am_CV.of 1079 1081 44 102 1082 (by decide +kernel)
theorem kX2_step_161 : am_CV mX2_step mX2_store 81 2 1 := am_CV.of 1093 1095 45 102 1096 (by decide +kernel)
theorem kX2_step_167 : am_CV mX2_step mX2_branch 84 2 1 := am_CV.of 1100 1102 46 102 1103 (by decide +kernel)
theorem kX2_step_178 : am_CS mX2_step mX8_jumpOffsetOf 87 1 := am_CS.of "" 1110 0 1111 107 1112 (by decide +kernel)
theorem kX2_step_182 : am_CV mX2_step mX2_jump 90 2 2 := am_CV.of 1114 1116 47 102 1117 (by decide +kernel)
theorem kX2_step_190 : am_CV mX2_step mX2_firstIn 93 2 1 := am_CV.of 1033 1035 37 102 1036 (by decide +kernel)
theorem kX2_step_194 : am_CS mX2_step mX8_immediateOf 96 1 := am_CS.of "" 1076 0 1077 107 1078 (by decide +kernel)
theorem kX2_step_201 : am_CV mX2_step mX2_jump 90 2 2 := am_CV.of 1114 1116 47 102 1117 (by decide +kernel)
theorem kX2_step_213_2 : am_CU mX2_step mX4_keepPrint 99 2 1 := am_CU.of "LinkPress$ImageMachine" "LinkPress$Machine" 1118 1119 1121 1122 100 1123 1120 (by decide +kernel)
theorem kX2_step_217 : am_CV mX2_step mX2_goOn 103 2 0 := am_CV.of 1064 1066 41 102 1067 (by decide +kernel)
theorem kX2_calculateByRegisters_1 : am_CS mX2_calculateByRegisters mX8_selectorIn 106 1 := am_CS.of "" 1027 0 1028 107 1029 (by decide +kernel)
theorem kX2_calculateByRegisters_7 : am_CS mX2_calculateByRegisters mX8_isOtherIn 109 1 := am_CS.of "" 1030 0 1031 107 1032 (by decide +kernel)
theorem kX2_calculateByRegisters_12 : am_CV mX2_calculateByRegisters mX2_firstIn 93 2 1 := am_CV.of 1033 1035 37 102 1036 (by decide +kernel)
theorem kX2_calculateByRegisters_17 : am_CV mX2_calculateByRegisters mX2_secondIn 112 2 1 := am_CV.of 1040 1042 38 102 1043 (by decide +kernel)
theorem kX2_calculateByRegisters_20 : am_CS mX2_calculateByRegisters mX8_calculate 115 4 := am_CS.of "" 1047 0 1048 107 1049 (by decide +kernel)
theorem kX2_calculateByImmediate_1 : am_CS mX2_calculateByImmediate mX8_selectorIn 106 1 := am_CS.of "" 1027 0 1028 107 1029 (by decide +kernel)
theorem kX2_calculateByImmediate_11 : am_CS mX2_calculateByImmediate mX8_isOtherIn 109 1 := am_CS.of "" 1030 0 1031 107 1032 (by decide +kernel)
theorem kX2_calculateByImmediate_27 : am_CV mX2_calculateByImmediate mX2_firstIn 93 2 1 := am_CV.of 1033 1035 37 102 1036 (by decide +kernel)
theorem kX2_calculateByImmediate_31 : am_CS mX2_calculateByImmediate mX8_immediateOf 96 1 := am_CS.of "" 1076 0 1077 107 1078 (by decide +kernel)
theorem kX2_calculateByImmediate_34 : am_CS mX2_calculateByImmediate mX8_calculate 115 4 := am_CS.of "" 1047 0 1048 107 1049 (by decide +kernel)
theorem kX2_load_2 : am_CV mX2_load mX2_firstIn 93 2 1 := am_CV.of 1033 1035 37 102 1036 (by decide +kernel)
theorem kX2_load_6 : am_CS mX2_load mX8_immediateOf 96 1 := am_CS.of "" 1076 0 1077 107 1078 (by decide +kernel)
theorem kX2_load_10 : am_CS mX2_load mX4_memoryIndex 119 1 := am_CS.of "LinkPress$ImageMachine" 1083 1084 1085 100 1086 (by decide +kernel)
theorem kX2_load_15 : am_CS mX2_load mX4_isMemoryWord 51 1 := am_CS.of "LinkPress$ImageMachine" 1091 1092 1089 100 1090 (by decide +kernel)
theorem kX2_load_25 : am_CS mX2_load mX8_targetOf 60 1 := am_CS.of "" 1017 0 1018 107 1019 (by decide +kernel)
theorem kX2_load_34 : am_CV mX2_load mX2_writeAndGoOn 71 2 2 := am_CV.of 1054 1056 39 102 1057 (by decide +kernel)
theorem kX2_store_2 : am_CV mX2_store mX2_firstIn 93 2 1 := am_CV.of 1033 1035 37 102 1036 (by decide +kernel)
theorem kX2_store_6 : am_CS mX2_store mX8_storeOffsetOf 122 1 := am_CS.of "" 1097 0 1098 107 1099 (by decide +kernel)
theorem kX2_store_10 : am_CS mX2_store mX4_memoryIndex 119 1 := am_CS.of "LinkPress$ImageMachine" 1083 1084 1085 100 1086 (by decide +kernel)
theorem kX2_store_15 : am_CS mX2_store mX4_isMemoryWord 51 1 := am_CS.of "LinkPress$ImageMachine" 1091 1092 1089 100 1090 (by decide +kernel)
theorem kX2_store_30 : am_CV mX2_store mX2_secondIn 112 2 1 := am_CV.of 1040 1042 38 102 1043 (by decide +kernel)
theorem kX2_store_35 : am_CV mX2_store mX2_goOn 103 2 0 := am_CV.of 1064 1066 41 102 1067 (by decide +kernel)
theorem kX2_branch_1 : am_CS mX2_branch mX8_selectorIn 106 1 := am_CS.of "" 1027 0 1028 107 1029 (by decide +kernel)
theorem kX2_branch_6 : am_CV mX2_branch mX2_firstIn 93 2 1 := am_CV.of 1033 1035 37 102 1036 (by decide +kernel)
theorem kX2_branch_11 : am_CV mX2_branch mX2_secondIn 112 2 1 := am_CV.of 1040 1042 38 102 1043 (by decide +kernel)
theorem kX2_branch_14 : am_CS mX2_branch mX8_branches 125 3 := am_CS.of "" 1104 0 1105 107 1106 (by decide +kernel)
theorem kX2_branch_26 : am_CS mX2_branch mX8_branchOffsetOf 129 1 := am_CS.of "" 1107 0 1108 107 1109 (by decide +kernel)
theorem kX2_branch_30 : am_CV mX2_branch mX2_goTo 132 2 1 := am_CV.of 1068 1070 42 102 1071 (by decide +kernel)
theorem kX2_branch_35 : am_CV mX2_branch mX2_goOn 103 2 0 := am_CV.of 1064 1066 41 102 1067 (by decide +kernel)
theorem kX2_jump_8 : am_CV mX2_jump mX2_write 135 2 2 := am_CV.of 1058 1060 40 102 1061 (by decide +kernel)
theorem kX2_jump_13 : am_CV mX2_jump mX2_goTo 132 2 1 := am_CV.of 1068 1070 42 102 1071 (by decide +kernel)
theorem kX2_goOn_7 : am_CV mX2_goOn mX2_goTo 132 2 1 := am_CV.of 1068 1070 42 102 1071 (by decide +kernel)
theorem kX2_writeAndGoOn_3 : am_CV mX2_writeAndGoOn mX2_write 135 2 2 := am_CV.of 1058 1060 40 102 1061 (by decide +kernel)
theorem kX2_writeAndGoOn_7 : am_CV mX2_writeAndGoOn mX2_goOn 103 2 0 := am_CV.of 1064 1066 41 102 1067 (by decide +kernel)
theorem kX2_write_5 : am_CS mX2_write mX4_isRegister 47 1 := am_CS.of "LinkPress$ImageMachine" 1062 1063 1004 100 1005 (by decide +kernel)
theorem kX2_firstIn_5 : am_CS mX2_firstIn mX8_firstOf 139 1 := am_CS.of "" 1037 0 1038 107 1039 (by decide +kernel)
theorem kX2_secondIn_5 : am_CS mX2_secondIn mX8_secondOf 142 1 := am_CS.of "" 1044 0 1045 107 1046 (by decide +kernel)
end
section
theorem kX3_link_9 : am_CV mX3_link mX5_functions 29 4 0 := am_CV.of 745 586 587 93 588 (by decide +kernel)
theorem kX3_link_20 : am_CV mX3_link mX1_isBody 33 1 1 := am_CV.of 746 655 656 95 657 (by decide +kernel)
theorem kX3_link_29 : am_CV mX3_link mX3_layOutBody 39 3 2 := am_CV.of 747 749 24 99 750 (by decide +kernel)
theorem kX3_link_46 : am_CV mX3_link mX7_size 43 6 0 := am_CV.of 786 787 788 96 789 (by decide +kernel)
theorem kX3_link_58 : am_CV mX3_link mX7_setFirstWord 48 6 2 := am_CV.of 790 791 792 96 793 (by decide +kernel)
theorem kX3_link_67 : am_CV mX3_link mX7_lengthOf 52 6 1 := am_CV.of 770 771 772 96 773 (by decide +kernel)
theorem kX3_link_87 : am_CV mX3_link mX5_functions 29 4 0 := am_CV.of 745 586 587 93 588 (by decide +kernel)
theorem kX3_link_98 : am_CV mX3_link mX1_isBody 33 1 1 := am_CV.of 746 655 656 95 657 (by decide +kernel)
theorem kX3_link_106 : am_CV mX3_link mX3_writeBody 56 3 1 := am_CV.of 794 796 26 99 797 (by decide +kernel)
theorem kX3_link_122 : am_CV mX3_link mX7_size 43 6 0 := am_CV.of 786 787 788 96 789 (by decide +kernel)
theorem kX3_link_130 : am_CV mX3_link mX3_writeRoutine 60 3 1 := am_CV.of 889 891 33 99 892 (by decide +kernel)
theorem kX3_layOutBody_6 : am_CV mX3_layOutBody mX1_setFirstWord 63 1 2 := am_CV.of 751 752 753 95 754 (by decide +kernel)
theorem kX3_layOutBody_16 : am_CV mX3_layOutBody mX5_endOf 64 4 1 := am_CV.of 755 468 469 93 470 (by decide +kernel)
theorem kX3_layOutBody_37 : am_CV mX3_layOutBody mX5_startOf 72 4 1 := am_CV.of 757 525 526 93 527 (by decide +kernel)
theorem kX3_layOutBody_55 : am_CV mX3_layOutBody mX7_beginningAt 75 6 1 := am_CV.of 758 759 760 96 761 (by decide +kernel)
theorem kX3_layOutBody_76 : am_CV mX3_layOutBody mX7_ownerAt 78 6 1 := am_CV.of 762 763 764 96 765 (by decide +kernel)
theorem kX3_layOutBody_79 : am_CV mX3_layOutBody mX7_lengthOf 52 6 1 := am_CV.of 770 771 772 96 773 (by decide +kernel)
theorem kX3_layOutBody_91 : am_CV mX3_layOutBody mX7_setWord 81 6 2 := am_CV.of 778 779 780 96 781 (by decide +kernel)
theorem kX3_layOutBody_128 : am_CV mX3_layOutBody mX5_numberAt 84 4 1 := am_CV.of 782 510 511 93 512 (by decide +kernel)
theorem kX3_writeBody_7 : am_CV mX3_writeBody mX5_startOf 72 4 1 := am_CV.of 757 525 526 93 527 (by decide +kernel)
theorem kX3_writeBody_17 : am_CV mX3_writeBody mX5_endOf 64 4 1 := am_CV.of 755 468 469 93 470 (by decide +kernel)
theorem kX3_writeBody_28 : am_CV mX3_writeBody mX7_beginningAt 75 6 1 := am_CV.of 758 759 760 96 761 (by decide +kernel)
theorem kX3_writeBody_45 : am_CV mX3_writeBody mX7_ownerAt 78 6 1 := am_CV.of 762 763 764 96 765 (by decide +kernel)
theorem kX3_writeBody_56 : am_CV mX3_writeBody mX7_lengthOf 52 6 1 := am_CV.of 770 771 772 96 773 (by decide +kernel)
theorem kX3_writeBody_68 : am_CV mX3_writeBody mX7_firstWordOf 92 6 1 := am_CV.of 798 799 800 96 801 (by decide +kernel)
theorem kX3_writeBody_71 : am_CV mX3_writeBody mX3_writeJump 95 3 2 := am_CV.of 802 804 27 99 805 (by decide +kernel)
theorem kX3_writeBody_84 : am_CV mX3_writeBody mX3_writeInstruction 98 3 2 := am_CV.of 817 819 28 99 820 (by decide +kernel)
theorem kX3_writeRoutine_5 : am_CV mX3_writeRoutine mX7_spotOf 101 6 1 := am_CV.of 893 894 895 96 896 (by decide +kernel)
theorem kX3_writeRoutine_17 : am_CV mX3_writeRoutine mX7_lengthOf 52 6 1 := am_CV.of 770 771 772 96 773 (by decide +kernel)
theorem kX3_writeRoutine_27 : am_CV mX3_writeRoutine mX3_writePlain 104 3 1 := am_CV.of 876 878 32 99 879 (by decide +kernel)
theorem kX3_writeRoutine_42 : am_CS mX3_writeRoutine mX8_jumpRegisterWord 107 2 := am_CS.of "" 835 0 836 107 837 (by decide +kernel)
theorem kX3_writeRoutine_45 : am_CV mX3_writeRoutine mX1_append 112 1 1 := am_CV.of 813 814 815 95 816 (by decide +kernel)
theorem kX3_writeInstruction_5 : am_CV mX3_writeInstruction mX5_aAt 115 4 1 := am_CV.of 821 540 541 93 542 (by decide +kernel)
theorem kX3_writeInstruction_14 : am_CV mX3_writeInstruction mX5_numberAt 84 4 1 := am_CV.of 782 510 511 93 512 (by decide +kernel)
theorem kX3_writeInstruction_65 : am_CV mX3_writeInstruction mX3_wordOfPlace 118 3 2 := am_CV.of 822 824 29 99 825 (by decide +kernel)
theorem kX3_writeInstruction_68 : am_CV mX3_writeInstruction mX3_writeJump 95 3 2 := am_CV.of 802 804 27 99 805 (by decide +kernel)
theorem kX3_writeInstruction_85 : am_CV mX3_writeInstruction mX1_bodyOf 121 1 1 := am_CV.of 827 828 829 95 830 (by decide +kernel)
theorem kX3_writeInstruction_88 : am_CV mX3_writeInstruction mX1_firstWordOf 124 1 1 := am_CV.of 831 832 833 95 834 (by decide +kernel)
theorem kX3_writeInstruction_91 : am_CV mX3_writeInstruction mX3_writeJump 95 3 2 := am_CV.of 802 804 27 99 805 (by decide +kernel)
theorem kX3_writeInstruction_108 : am_CV mX3_writeInstruction mX1_bodyOf 121 1 1 := am_CV.of 827 828 829 95 830 (by decide +kernel)
theorem kX3_writeInstruction_111 : am_CV mX3_writeInstruction mX1_firstWordOf 124 1 1 := am_CV.of 831 832 833 95 834 (by decide +kernel)
theorem kX3_writeInstruction_114 : am_CV mX3_writeInstruction mX3_writeJump 95 3 2 := am_CV.of 802 804 27 99 805 (by decide +kernel)
theorem kX3_writeInstruction_126 : am_CS mX3_writeInstruction mX8_jumpRegisterWord 107 2 := am_CS.of "" 835 0 836 107 837 (by decide +kernel)
theorem kX3_writeInstruction_129 : am_CV mX3_writeInstruction mX1_append 112 1 1 := am_CV.of 813 814 815 95 816 (by decide +kernel)
theorem kX3_writeInstruction_150 : am_CV mX3_writeInstruction mX5_bAt 125 4 1 := am_CV.of 838 555 556 93 557 (by decide +kernel)
theorem kX3_writeInstruction_153 : am_CV mX3_writeInstruction mX1_bodyOf 121 1 1 := am_CV.of 827 828 829 95 830 (by decide +kernel)
theorem kX3_writeInstruction_156 : am_CV mX3_writeInstruction mX1_addressOf 128 1 1 := am_CV.of 839 840 841 95 842 (by decide +kernel)
theorem kX3_writeInstruction_159 : am_CV mX3_writeInstruction mX3_writeAddress 131 3 2 := am_CV.of 846 848 30 99 849 (by decide +kernel)
theorem kX3_writeInstruction_171 : am_CS mX3_writeInstruction mX8_jumpRegisterWord 107 2 := am_CS.of "" 835 0 836 107 837 (by decide +kernel)
theorem kX3_writeInstruction_174 : am_CV mX3_writeInstruction mX1_append 112 1 1 := am_CV.of 813 814 815 95 816 (by decide +kernel)
theorem kX3_writeInstruction_182 : am_CS mX3_writeInstruction mX9_isBranch 134 1 := am_CS.of "" 867 0 533 104 534 (by decide +kernel)
theorem kX3_writeInstruction_191 : am_CV mX3_writeInstruction mX3_writeBranch 137 3 2 := am_CV.of 868 870 31 99 871 (by decide +kernel)
theorem kX3_writeInstruction_199 : am_CV mX3_writeInstruction mX3_writePlain 104 3 1 := am_CV.of 876 878 32 99 879 (by decide +kernel)
theorem kX3_writePlain_5 : am_CV mX3_writePlain mX5_numberAt 84 4 1 := am_CV.of 782 510 511 93 512 (by decide +kernel)
theorem kX3_writePlain_14 : am_CV mX3_writePlain mX5_aAt 115 4 1 := am_CV.of 821 540 541 93 542 (by decide +kernel)
theorem kX3_writePlain_23 : am_CV mX3_writePlain mX5_bAt 125 4 1 := am_CV.of 838 555 556 93 557 (by decide +kernel)
theorem kX3_writePlain_33 : am_CV mX3_writePlain mX5_cAt 140 4 1 := am_CV.of 872 536 537 93 538 (by decide +kernel)
theorem kX3_writePlain_87 : am_CS mX3_writePlain mX8_upperWord 143 2 := am_CS.of "" 850 0 851 107 852 (by decide +kernel)
theorem kX3_writePlain_90 : am_CV mX3_writePlain mX1_append 112 1 1 := am_CV.of 813 814 815 95 816 (by decide +kernel)
theorem kX3_writePlain_105 : am_CS mX3_writePlain mX8_loadWord 146 3 := am_CS.of "" 880 0 881 107 882 (by decide +kernel)
theorem kX3_writePlain_108 : am_CV mX3_writePlain mX1_append 112 1 1 := am_CV.of 813 814 815 95 816 (by decide +kernel)
theorem kX3_writePlain_123 : am_CS mX3_writePlain mX8_storeWord 150 3 := am_CS.of "" 883 0 884 107 885 (by decide +kernel)
theorem kX3_writePlain_126 : am_CV mX3_writePlain mX1_append 112 1 1 := am_CV.of 813 814 815 95 816 (by decide +kernel)
theorem kX3_writePlain_138 : am_CV mX3_writePlain mX1_append 112 1 1 := am_CV.of 813 814 815 95 816 (by decide +kernel)
theorem kX3_writePlain_160 : am_CS mX3_writePlain mX8_registersWord 153 4 := am_CS.of "" 886 0 887 107 888 (by decide +kernel)
theorem kX3_writePlain_172 : am_CS mX3_writePlain mX8_immediateWord 157 4 := am_CS.of "" 853 0 854 107 855 (by decide +kernel)
theorem kX3_writePlain_175 : am_CV mX3_writePlain mX1_append 112 1 1 := am_CV.of 813 814 815 95 816 (by decide +kernel)
theorem kX3_wordOfPlace_6 : am_CV mX3_wordOfPlace mX5_spotOf 160 4 2 := am_CV.of 826 677 678 93 679 (by decide +kernel)
theorem kX3_writeBranch_8 : am_CV mX3_writeBranch mX5_cAt 140 4 1 := am_CV.of 872 536 537 93 538 (by decide +kernel)
theorem kX3_writeBranch_11 : am_CV mX3_writeBranch mX3_wordOfPlace 118 3 2 := am_CV.of 822 824 29 99 825 (by decide +kernel)
theorem kX3_writeBranch_18 : am_CV mX3_writeBranch mX1_size 162 1 0 := am_CV.of 806 807 808 95 809 (by decide +kernel)
theorem kX3_writeBranch_29 : am_CV mX3_writeBranch mX5_numberAt 84 4 1 := am_CV.of 782 510 511 93 512 (by decide +kernel)
theorem kX3_writeBranch_45 : am_CV mX3_writeBranch mX5_aAt 115 4 1 := am_CV.of 821 540 541 93 542 (by decide +kernel)
theorem kX3_writeBranch_53 : am_CV mX3_writeBranch mX5_bAt 125 4 1 := am_CV.of 838 555 556 93 557 (by decide +kernel)
theorem kX3_writeBranch_57 : am_CS mX3_writeBranch mX8_branchWord 163 4 := am_CS.of "" 873 0 874 107 875 (by decide +kernel)
theorem kX3_writeBranch_60 : am_CV mX3_writeBranch mX1_append 112 1 1 := am_CV.of 813 814 815 95 816 (by decide +kernel)
theorem kX3_writeJump_11 : am_CV mX3_writeJump mX1_size 162 1 0 := am_CV.of 806 807 808 95 809 (by decide +kernel)
theorem kX3_writeJump_16 : am_CS mX3_writeJump mX8_jumpWord 166 2 := am_CS.of "" 810 0 811 107 812 (by decide +kernel)
theorem kX3_writeJump_19 : am_CV mX3_writeJump mX1_append 112 1 1 := am_CV.of 813 814 815 95 816 (by decide +kernel)
theorem kX3_writeAddress_23 : am_CS mX3_writeAddress mX8_upperWord 143 2 := am_CS.of "" 850 0 851 107 852 (by decide +kernel)
theorem kX3_writeAddress_26 : am_CV mX3_writeAddress mX1_append 112 1 1 := am_CV.of 813 814 815 95 816 (by decide +kernel)
theorem kX3_writeAddress_38 : am_CS mX3_writeAddress mX8_immediateWord 157 4 := am_CS.of "" 853 0 854 107 855 (by decide +kernel)
theorem kX3_writeAddress_41 : am_CV mX3_writeAddress mX1_append 112 1 1 := am_CV.of 813 814 815 95 816 (by decide +kernel)
end
section
theorem kX4_drive_11_2 : am_CU mX4_drive mX2_restart 23 2 0 := am_CU.of "LinkPress$Machine" "LinkPress$Machine" 985 987 988 989 102 990 986 (by decide +kernel)
theorem kX4_drive_11_7 : am_CU mX4_drive mX10_restart 23 7 0 := am_CU.of "LinkPress$Machine" "LinkPress$Machine" 985 987 994 995 101 996 986 (by decide +kernel)
theorem kX4_drive_33_2 : am_CU mX4_drive mX2_step 26 2 0 := am_CU.of "LinkPress$Machine" "LinkPress$Machine" 1006 1008 1009 1010 102 1011 1007 (by decide +kernel)
theorem kX4_drive_33_7 : am_CU mX4_drive mX10_step 26 7 0 := am_CU.of "LinkPress$Machine" "LinkPress$Machine" 1006 1008 1124 1125 101 1126 1007 (by decide +kernel)
theorem kX4_memoryIndex_14 : am_CS mX4_memoryIndex mX4_isMemoryWord 39 1 := am_CS.of "" 1088 0 1089 100 1090 (by decide +kernel)
end
section
theorem kX5_startOf_2 : am_CV mX5_startOf mX5_hasFunction 37 4 1 := am_CV.of 459 460 461 93 462 (by decide +kernel)
theorem kX5_lengthOf_2 : am_CV mX5_lengthOf mX5_hasFunction 37 4 1 := am_CV.of 459 460 461 93 462 (by decide +kernel)
theorem kX5_endOf_2 : am_CV mX5_endOf mX5_hasFunction 37 4 1 := am_CV.of 459 460 461 93 462 (by decide +kernel)
theorem kX5_numberAt_2 : am_CV mX5_numberAt mX5_hasSpot 41 4 1 := am_CV.of 513 514 515 93 516 (by decide +kernel)
theorem kX5_aAt_2 : am_CV mX5_aAt mX5_hasSpot 41 4 1 := am_CV.of 513 514 515 93 516 (by decide +kernel)
theorem kX5_bAt_2 : am_CV mX5_bAt mX5_hasSpot 41 4 1 := am_CV.of 513 514 515 93 516 (by decide +kernel)
theorem kX5_cAt_2 : am_CV mX5_cAt mX5_hasSpot 41 4 1 := am_CV.of 513 514 515 93 516 (by decide +kernel)
theorem kX5_placeTold_2 : am_CV mX5_placeTold mX5_numberAt 44 4 1 := am_CV.of 509 510 511 93 512 (by decide +kernel)
theorem kX5_placeTold_7 : am_CS mX5_placeTold mX9_isBranch 48 1 := am_CS.of "" 532 0 533 104 534 (by decide +kernel)
theorem kX5_placeTold_15 : am_CV mX5_placeTold mX5_cAt 53 4 1 := am_CV.of 535 536 537 93 538 (by decide +kernel)
theorem kX5_placeTold_27 : am_CV mX5_placeTold mX5_aAt 56 4 1 := am_CV.of 539 540 541 93 542 (by decide +kernel)
theorem kX5_functionTold_2 : am_CV mX5_functionTold mX5_numberAt 44 4 1 := am_CV.of 509 510 511 93 512 (by decide +kernel)
theorem kX5_functionTold_7 : am_CS mX5_functionTold mX9_isCallOrTail 59 1 := am_CS.of "" 551 0 552 104 553 (by decide +kernel)
theorem kX5_functionTold_15 : am_CV mX5_functionTold mX5_aAt 56 4 1 := am_CV.of 539 540 541 93 542 (by decide +kernel)
theorem kX5_functionTold_27 : am_CV mX5_functionTold mX5_bAt 62 4 1 := am_CV.of 554 555 556 93 557 (by decide +kernel)
theorem kX5_isSame_2 : am_CV mX5_isSame mX5_hasSpot 41 4 1 := am_CV.of 513 514 515 93 516 (by decide +kernel)
theorem kX5_isSame_10 : am_CV mX5_isSame mX5_hasSpot 41 4 1 := am_CV.of 513 514 515 93 516 (by decide +kernel)
theorem kX5_mixAt_2 : am_CV mX5_mixAt mX5_hasSpot 41 4 1 := am_CV.of 513 514 515 93 516 (by decide +kernel)
theorem kX5_namesReturnRegister_2 : am_CV mX5_namesReturnRegister mX5_numberAt 44 4 1 := am_CV.of 509 510 511 93 512 (by decide +kernel)
theorem kX5_namesReturnRegister_7 : am_CS mX5_namesReturnRegister mX9_kindOfA 65 1 := am_CS.of "" 432 0 433 104 434 (by decide +kernel)
theorem kX5_namesReturnRegister_12 : am_CV mX5_namesReturnRegister mX5_aAt 56 4 1 := am_CV.of 539 540 541 93 542 (by decide +kernel)
theorem kX5_namesReturnRegister_15 : am_CS mX5_namesReturnRegister mX9_isReturnRegister 68 2 := am_CS.of "" 672 0 673 104 674 (by decide +kernel)
theorem kX5_namesReturnRegister_22 : am_CS mX5_namesReturnRegister mX9_kindOfB 72 1 := am_CS.of "" 440 0 441 104 442 (by decide +kernel)
theorem kX5_namesReturnRegister_27 : am_CV mX5_namesReturnRegister mX5_bAt 62 4 1 := am_CV.of 554 555 556 93 557 (by decide +kernel)
theorem kX5_namesReturnRegister_30 : am_CS mX5_namesReturnRegister mX9_isReturnRegister 68 2 := am_CS.of "" 672 0 673 104 674 (by decide +kernel)
theorem kX5_namesReturnRegister_37 : am_CS mX5_namesReturnRegister mX9_kindOfC 75 1 := am_CS.of "" 445 0 446 104 447 (by decide +kernel)
theorem kX5_namesReturnRegister_42 : am_CV mX5_namesReturnRegister mX5_cAt 53 4 1 := am_CV.of 535 536 537 93 538 (by decide +kernel)
theorem kX5_namesReturnRegister_45 : am_CS mX5_namesReturnRegister mX9_isReturnRegister 68 2 := am_CS.of "" 672 0 673 104 674 (by decide +kernel)
theorem kX5_addInstruction_1 : am_CS mX5_addInstruction mX9_kindOfA 65 1 := am_CS.of "" 432 0 433 104 434 (by decide +kernel)
theorem kX5_addInstruction_7 : am_CS mX5_addInstruction mX9_kindOfB 72 1 := am_CS.of "" 440 0 441 104 442 (by decide +kernel)
theorem kX5_addInstruction_13 : am_CS mX5_addInstruction mX9_kindOfC 75 1 := am_CS.of "" 445 0 446 104 447 (by decide +kernel)
theorem kX5_addInstruction_19 : am_CS mX5_addInstruction mX9_isNumber 78 1 := am_CS.of "" 450 0 436 104 437 (by decide +kernel)
theorem kX5_addInstruction_28 : am_CS mX5_addInstruction mX9_suits 81 2 := am_CS.of "" 451 0 452 104 453 (by decide +kernel)
theorem kX5_addInstruction_38 : am_CS mX5_addInstruction mX9_suits 81 2 := am_CS.of "" 451 0 452 104 453 (by decide +kernel)
theorem kX5_addInstruction_48 : am_CS mX5_addInstruction mX9_suits 81 2 := am_CS.of "" 451 0 452 104 453 (by decide +kernel)
theorem kX5_addInstruction_56 : am_CV mX5_addInstruction mX5_hasRoomFor 84 4 1 := am_CV.of 455 457 0 93 458 (by decide +kernel)
theorem kX5_addInstruction_66 : am_CV mX5_addInstruction mX5_endOf 87 4 1 := am_CV.of 467 468 469 93 470 (by decide +kernel)
theorem kX5_addInstruction_74 : am_CV mX5_addInstruction mX5_makeRoomAt 90 4 1 := am_CV.of 471 473 1 93 474 (by decide +kernel)
theorem kX5_addInstruction_94 : am_CS mX5_addInstruction mX9_kept 94 2 := am_CS.of "" 478 0 479 104 480 (by decide +kernel)
theorem kX5_addInstruction_108 : am_CS mX5_addInstruction mX9_kept 94 2 := am_CS.of "" 478 0 479 104 480 (by decide +kernel)
theorem kX5_addInstruction_122 : am_CS mX5_addInstruction mX9_kept 94 2 := am_CS.of "" 478 0 479 104 480 (by decide +kernel)
theorem kX5_hasRoomFor_2 : am_CV mX5_hasRoomFor mX5_hasFunction 37 4 1 := am_CV.of 459 460 461 93 462 (by decide +kernel)
theorem kX5_hasRoomFor_10 : am_CV mX5_hasRoomFor mX5_lengthOf 98 4 1 := am_CV.of 463 464 465 93 466 (by decide +kernel)
theorem kX5_refusal_10 : am_CV mX5_refusal mX5_hasOpenEnd 107 4 0 := am_CV.of 505 507 2 93 508 (by decide +kernel)
theorem kX5_refusal_19 : am_CV mX5_refusal mX5_goesToNoPlace 111 4 0 := am_CV.of 520 522 3 93 523 (by decide +kernel)
theorem kX5_refusal_28 : am_CV mX5_refusal mX5_tellsNoFunction 114 4 0 := am_CV.of 543 545 4 93 546 (by decide +kernel)
theorem kX5_hasOpenEnd_12 : am_CV mX5_hasOpenEnd mX5_lengthOf 98 4 1 := am_CV.of 463 464 465 93 466 (by decide +kernel)
theorem kX5_hasOpenEnd_21 : am_CV mX5_hasOpenEnd mX5_endOf 87 4 1 := am_CV.of 467 468 469 93 470 (by decide +kernel)
theorem kX5_hasOpenEnd_26 : am_CV mX5_hasOpenEnd mX5_numberAt 44 4 1 := am_CV.of 509 510 511 93 512 (by decide +kernel)
theorem kX5_hasOpenEnd_29 : am_CS mX5_hasOpenEnd mX9_isClosing 117 1 := am_CS.of "" 517 0 518 104 519 (by decide +kernel)
theorem kX5_goesToNoPlace_12 : am_CV mX5_goesToNoPlace mX5_startOf 120 4 1 := am_CV.of 524 525 526 93 527 (by decide +kernel)
theorem kX5_goesToNoPlace_19 : am_CV mX5_goesToNoPlace mX5_endOf 87 4 1 := am_CV.of 467 468 469 93 470 (by decide +kernel)
theorem kX5_goesToNoPlace_27 : am_CV mX5_goesToNoPlace mX5_placeTold 123 4 1 := am_CV.of 528 529 530 93 531 (by decide +kernel)
theorem kX5_goesToNoPlace_32 : am_CV mX5_goesToNoPlace mX5_lengthOf 98 4 1 := am_CV.of 463 464 465 93 466 (by decide +kernel)
theorem kX5_tellsNoFunction_12 : am_CV mX5_tellsNoFunction mX5_functionTold 126 4 1 := am_CV.of 547 548 549 93 550 (by decide +kernel)
end
section
theorem kX6_findAll_5 : am_CV mX6_findAll mX5_size 56 4 0 := am_CV.of 647 571 572 93 573 (by decide +kernel)
theorem kX6_findAll_18 : am_CV mX6_findAll mX6_markSpots 69 5 0 := am_CV.of 649 651 12 98 652 (by decide +kernel)
theorem kX6_findAll_22 : am_CV mX6_findAll mX6_measureReach 72 5 0 := am_CV.of 680 682 14 98 683 (by decide +kernel)
theorem kX6_findAll_26 : am_CV mX6_findAll mX6_nameRows 75 5 0 := am_CV.of 684 686 15 98 687 (by decide +kernel)
theorem kX6_findAll_44 : am_CV mX6_findAll mX6_chooseBest 80 5 0 := am_CV.of 706 708 19 98 709 (by decide +kernel)
theorem kX6_findAll_65 : am_CV mX6_findAll mX6_takeBest 86 5 0 := am_CV.of 725 727 23 98 728 (by decide +kernel)
theorem kX6_findAll_69 : am_CV mX6_findAll mX6_measureReach 72 5 0 := am_CV.of 680 682 14 98 683 (by decide +kernel)
theorem kX6_markSpots_37 : am_CV mX6_markSpots mX5_functions 89 4 0 := am_CV.of 653 586 587 93 588 (by decide +kernel)
theorem kX6_markSpots_48 : am_CV mX6_markSpots mX1_isBody 92 1 1 := am_CV.of 654 655 656 95 657 (by decide +kernel)
theorem kX6_markSpots_56 : am_CV mX6_markSpots mX6_markSpotsOf 98 5 1 := am_CV.of 658 660 13 98 661 (by decide +kernel)
theorem kX6_markSpotsOf_5 : am_CV mX6_markSpotsOf mX5_endOf 102 4 1 := am_CV.of 662 468 469 93 470 (by decide +kernel)
theorem kX6_markSpotsOf_21 : am_CV mX6_markSpotsOf mX5_startOf 106 4 1 := am_CV.of 663 525 526 93 527 (by decide +kernel)
theorem kX6_markSpotsOf_40 : am_CV mX6_markSpotsOf mX5_numberAt 109 4 1 := am_CV.of 664 510 511 93 512 (by decide +kernel)
theorem kX6_markSpotsOf_43 : am_CS mX6_markSpotsOf mX9_mayBeInRow 112 1 := am_CS.of "" 665 0 666 104 667 (by decide +kernel)
theorem kX6_markSpotsOf_54 : am_CV mX6_markSpotsOf mX5_namesReturnRegister 117 4 1 := am_CV.of 668 669 670 93 671 (by decide +kernel)
theorem kX6_markSpotsOf_76 : am_CV mX6_markSpotsOf mX5_placeTold 120 4 1 := am_CV.of 675 529 530 93 531 (by decide +kernel)
theorem kX6_markSpotsOf_79 : am_CV mX6_markSpotsOf mX5_spotOf 123 4 2 := am_CV.of 676 677 678 93 679 (by decide +kernel)
theorem kX6_nameRows_21 : am_CV mX6_nameRows mX6_nameRowsOf 129 5 1 := am_CV.of 688 690 16 98 691 (by decide +kernel)
theorem kX6_nameRowsOf_7 : am_CS mX6_nameRowsOf mJ7_fill_53178 132 2 := am_CS.of "" 692 0 203 97 204 (by decide +kernel)
theorem kX6_nameRowsOf_43 : am_CV mX6_nameRowsOf mX5_mixAt 138 4 1 := am_CV.of 693 694 695 93 696 (by decide +kernel)
theorem kX6_nameRowsOf_66 : am_CV mX6_nameRowsOf mX6_nameInChain 141 5 3 := am_CV.of 697 699 17 98 700 (by decide +kernel)
theorem kX6_nameInChain_50 : am_CV mX6_nameInChain mX6_haveSameLast 145 5 3 := am_CV.of 701 703 18 98 704 (by decide +kernel)
theorem kX6_haveSameLast_11 : am_CV mX6_haveSameLast mX5_isSame 149 4 2 := am_CV.of 705 611 612 93 613 (by decide +kernel)
theorem kX6_chooseBest_17 : am_CV mX6_chooseBest mX6_countRowsOf 153 5 1 := am_CV.of 710 712 20 98 713 (by decide +kernel)
theorem kX6_chooseBest_25 : am_CV mX6_chooseBest mX6_weighRowsOf 156 5 1 := am_CV.of 718 720 22 98 721 (by decide +kernel)
theorem kX6_countRowsOf_7 : am_CS mX6_countRowsOf mJ7_fill_53178 132 2 := am_CS.of "" 692 0 203 97 204 (by decide +kernel)
theorem kX6_countRowsOf_23 : am_CV mX6_countRowsOf mX6_fitNameAt 159 5 2 := am_CV.of 714 716 21 98 717 (by decide +kernel)
theorem kX6_weighRowsOf_13 : am_CV mX6_weighRowsOf mX6_fitNameAt 159 5 2 := am_CV.of 714 716 21 98 717 (by decide +kernel)
theorem kX6_weighRowsOf_45 : am_CS mX6_weighRowsOf mX7_savedBytes 162 2 := am_CS.of "" 722 0 723 96 724 (by decide +kernel)
theorem kX6_takeBest_12 : am_CV mX6_takeBest mX7_addRoutine 171 6 2 := am_CV.of 729 730 731 96 732 (by decide +kernel)
theorem kX6_takeBest_24 : am_CV mX6_takeBest mX6_fitNameAt 159 5 2 := am_CV.of 714 716 21 98 717 (by decide +kernel)
theorem kX6_takeBest_57 : am_CV mX6_takeBest mX6_fitNameAt 159 5 2 := am_CV.of 714 716 21 98 717 (by decide +kernel)
theorem kX6_takeBest_69 : am_CV mX6_takeBest mX5_functionAt 175 4 1 := am_CV.of 733 734 735 93 736 (by decide +kernel)
theorem kX6_takeBest_88 : am_CV mX6_takeBest mX5_startOf 106 4 1 := am_CV.of 663 525 526 93 527 (by decide +kernel)
theorem kX6_takeBest_92 : am_CV mX6_takeBest mX7_addOccurrence 178 6 3 := am_CV.of 737 738 739 96 740 (by decide +kernel)
end
section
theorem kX7_init_94 : am_CS mX7_init mJ7_fill_53178 44 2 := am_CS.of "" 202 0 203 97 204 (by decide +kernel)
theorem kX7_drop_5 : am_CS mX7_drop mJ7_fill_53178 44 2 := am_CS.of "" 202 0 203 97 204 (by decide +kernel)
theorem kX7_spotOf_2 : am_CV mX7_spotOf mX7_has 57 6 1 := am_CV.of 774 775 776 96 777 (by decide +kernel)
theorem kX7_lengthOf_2 : am_CV mX7_lengthOf mX7_has 57 6 1 := am_CV.of 774 775 776 96 777 (by decide +kernel)
theorem kX7_timesOf_2 : am_CV mX7_timesOf mX7_has 57 6 1 := am_CV.of 774 775 776 96 777 (by decide +kernel)
theorem kX7_savesOf_2 : am_CV mX7_savesOf mX7_has 57 6 1 := am_CV.of 774 775 776 96 777 (by decide +kernel)
theorem kX7_savesOf_20 : am_CS mX7_savesOf mX7_savedBytes 61 2 := am_CS.of "" 926 0 723 96 724 (by decide +kernel)
theorem kX7_savesInAll_15 : am_CV mX7_savesInAll mX7_savesOf 65 6 1 := am_CV.of 1305 923 924 96 925 (by decide +kernel)
theorem kX7_setFirstWord_2 : am_CV mX7_setFirstWord mX7_has 57 6 1 := am_CV.of 774 775 776 96 777 (by decide +kernel)
theorem kX7_firstWordOf_2 : am_CV mX7_firstWordOf mX7_has 57 6 1 := am_CV.of 774 775 776 96 777 (by decide +kernel)
theorem kX7_addressOf_2 : am_CV mX7_addressOf mX7_has 57 6 1 := am_CV.of 774 775 776 96 777 (by decide +kernel)
theorem kX7_addressOf_14 : am_CS mX7_addressOf mX1_address 69 1 := am_CS.of "" 931 0 844 95 845 (by decide +kernel)
theorem kX7_indexOf_2 : am_CV mX7_indexOf mX7_has 57 6 1 := am_CV.of 774 775 776 96 777 (by decide +kernel)
theorem kX7_ownerAt_2 : am_CV mX7_ownerAt mX7_hasIndex 74 6 1 := am_CV.of 766 768 25 96 769 (by decide +kernel)
theorem kX7_bodyAt_2 : am_CV mX7_bodyAt mX7_hasIndex 74 6 1 := am_CV.of 766 768 25 96 769 (by decide +kernel)
theorem kX7_placeAt_2 : am_CV mX7_placeAt mX7_hasIndex 74 6 1 := am_CV.of 766 768 25 96 769 (by decide +kernel)
theorem kX7_setWord_2 : am_CV mX7_setWord mX7_hasIndex 74 6 1 := am_CV.of 766 768 25 96 769 (by decide +kernel)
theorem kX7_wordAddressAt_2 : am_CV mX7_wordAddressAt mX7_hasIndex 74 6 1 := am_CV.of 766 768 25 96 769 (by decide +kernel)
theorem kX7_wordAddressAt_14 : am_CS mX7_wordAddressAt mX1_address 69 1 := am_CS.of "" 931 0 844 95 845 (by decide +kernel)
end
section
theorem kX8_calculate_78 : am_CS mX8_calculate mX8_isBelow 16 2 := am_CS.of "" 1050 0 1051 107 1052 (by decide +kernel)
theorem kX8_branches_90 : am_CS mX8_branches mX8_isBelow 16 2 := am_CS.of "" 1050 0 1051 107 1052 (by decide +kernel)
theorem kX8_branches_96 : am_CS mX8_branches mX8_isBelow 16 2 := am_CS.of "" 1050 0 1051 107 1052 (by decide +kernel)
theorem kX8_registersWord_1 : am_CS mX8_registersWord mX8_isOther 21 1 := am_CS.of "" 856 0 857 107 858 (by decide +kernel)
theorem kX8_registersWord_28 : am_CS mX8_registersWord mX8_selectorOf 26 1 := am_CS.of "" 862 0 863 107 864 (by decide +kernel)
theorem kX8_immediateWord_1 : am_CS mX8_immediateWord mX8_isOther 21 1 := am_CS.of "" 856 0 857 107 858 (by decide +kernel)
theorem kX8_immediateWord_28 : am_CS mX8_immediateWord mX8_selectorOf 26 1 := am_CS.of "" 862 0 863 107 864 (by decide +kernel)
theorem kX8_branchWord_55 : am_CS mX8_branchWord mX8_selectorOf 26 1 := am_CS.of "" 862 0 863 107 864 (by decide +kernel)
end
section
theorem kX9_kindOfA_1 : am_CS mX9_kindOfA mX9_isNumber 9 1 := am_CS.of "" 435 0 436 104 437 (by decide +kernel)
theorem kX9_kindOfB_1 : am_CS mX9_kindOfB mX9_isNumber 9 1 := am_CS.of "" 435 0 436 104 437 (by decide +kernel)
theorem kX9_kindOfC_1 : am_CS mX9_kindOfC mX9_isNumber 9 1 := am_CS.of "" 435 0 436 104 437 (by decide +kernel)
end
section
/-! the heap of a press and a model, made one behind the other -/
def am_sh0 : List am_S := [.inl 8, .inl 4, .inr (0, 300), .inr (0, 300), .inr (0, 300), .inr (0, 300), .inr (0, 25), .inl 0, .inr (1, 24), .inr (0, 24), .inr (0, 24), .inl 1, .inr (0, 600), .inr (0, 24), .inr (0, 24), .inl 6, .inr (0, 60), .inr (0, 60), .inr (0, 60), .inr (0, 60), .inr (0, 60), .inr (0, 150), .inr (0, 150), .inr (0, 150), .inr (0, 150), .inr (0, 300), .inl 5, .inr (1, 300), .inr (1, 300), .inr (0, 300), .inr (2, 21), .inr (0, 300), .inr (0, 300), .inr (0, 300), .inr (0, 300), .inr (0, 300), .inr (0, 300), .inr (0, 300), .inr (0, 300), .inr (0, 300), .inr (0, 300), .inr (0, 300), .inr (0, 300), .inr (0, 300), .inr (0, 300), .inr (0, 300), .inr (0, 300), .inr (0, 300), .inr (0, 300), .inr (0, 300), .inr (0, 300), .inr (0, 300), .inr (0, 300), .inr (0, 300), .inr (0, 300), .inr (0, 300), .inr (0, 300), .inl 3, .inr (0, 300), .inl 7, .inr (0, 200), .inr (0, 32), .inr (0, 32), .inr (0, 64), .inr (0, 64), .inl 2, .inr (0, 200), .inr (0, 32), .inr (0, 64), .inl 9, .inr (0, 24), .inr (0, 960), .inr (0, 960), .inr (0, 960), .inr (0, 960), .inr (0, 24), .inr (0, 24), .inr (0, 24), .inr (0, 24), .inr (0, 1000), .inr (0, 60), .inr (0, 60), .inr (0, 60), .inr (0, 60), .inr (0, 60), .inr (0, 9000), .inr (0, 9000), .inr (0, 960), .inr (0, 960), .inr (1, 960), .inr (1, 960), .inr (1, 960), .inr (0, 150), .inr (0, 2), .inr (0, 2), .inr (0, 2), .inr (0, 2), .inr (0, 2), .inr (2, 2), .inr (0, 200), .inr (0, 200), .inr (2, 2), .inr (0, 32), .inr (0, 32), .inr (2, 2), .inr (0, 64), .inr (0, 64), .inr (0, 32), .inr (0, 64)]
def am_rfl : List (List (Option Nat)) := [[some 1, some 7, some 11, some 15, some 26, some 57, some 59, some 65], [some 2, some 3, some 4, some 5, some 6, none, none, none], [], [], [], [], [], [some 1, some 8, some 9, some 10, none, none], [], [], [], [some 12, some 13, some 14, none, none], [], [], [], [some 16, some 17, some 18, some 19, some 20, some 21, some 22, some 23, some 24, some 25, none, none], [], [], [], [], [], [], [], [], [], [], [some 1, some 11, some 15, some 27, some 28, some 29, some 30, some 52, some 53, some 54, some 55, some 56, none, none, none, none, none], [], [], [], [some 31, some 32, some 33, some 34, some 35, some 36, some 37, some 38, some 39, some 40, some 41, some 42, some 43, some 44, some 45, some 46, some 47, some 48, some 49, some 50, some 51], [], [], [], [], [], [], [], [], [], [], [], [], [], [], [], [], [], [], [], [], [], [], [], [], [], [], [some 1, some 11, some 15, some 58], [], [some 60, none, none, none, none, some 1, some 61, some 62, some 63, some 64, none, none], [], [], [], [], [], [some 66, none, none, none, none, some 11, some 67, some 68, none], [], [], [], [none, none, none, some 70, some 71, some 72, some 73, some 74, some 75, some 76, none, none, none, none, some 77, some 78, some 79, some 80, some 81, some 82, some 83, some 84, some 85, some 86, some 87, some 88, some 89, some 90, some 91, some 92, some 93, some 94, some 95, some 96, some 97, some 98, some 101, some 104, some 107, some 108, none], [], [], [], [], [], [], [], [], [], [], [], [], [], [], [], [], [], [], [], [], [], [], [], [], [], [], [], [], [some 99, some 100], [], [], [some 102, some 103], [], [], [some 105, some 106], [], [], [], []]
def am_rf0 (i k : Nat) : Option Nat := (am_rfl.getD i []).getD k none
def am_t0 : List Int32 := [1, 1, 1, 1, 1, 1, 1, 1, 1, 1, 1, 1, 1, 1, 1, 1, 1, 1, 1, 1, 1, 1, 1, 1, 1, 1, 1, 1, 5, 6, 6, 0, 1, 1, 0]
def am_t1 : List Int32 := [1, 1, 1, 1, 1, 1, 1, 1, 1, 1, 1, 1, 1, 1, 1, 1, 1, 1, 1, 4, 1, 1, 1, 1, 1, 1, 1, 1, 0, 0, 0, 0, 6, 0, 0]
def am_t2 : List Int32 := [1, 1, 1, 1, 1, 1, 1, 1, 1, 1, 2, 2, 2, 2, 2, 2, 3, 3, 3, 0, 2, 2, 5, 5, 5, 5, 5, 5, 0, 0, 0, 0, 0, 0, 0]
def am_t3 : List Int32 := [0, 0, 7, 6, 4, 1, 5, 5, 2, 3, 0, 7, 6, 4, 2, 3, 1, 5, 5, 0, 2, 2, 0, 1, 4, 5, 6, 7]
def am_t4 : List Int32 := [0, 1, 0, 0, 0, 0, 0, 1, 0, 0, 0, 0, 0, 0, 0, 0, 0, 0, 1, 0, 0, 0, 0, 0, 0, 0, 0, 0]
def am_tb (L : Nat) (xs : Nat → Int32) : Nat → Nat × (Nat → Int32) := fun j => match j with
  | 0 => (35, fun k => am_t0.getD k 0)
  | 1 => (35, fun k => am_t1.getD k 0)
  | 2 => (35, fun k => am_t2.getD k 0)
  | 3 => (28, fun k => am_t3.getD k 0)
  | 4 => (28, fun k => am_t4.getD k 0)
  | _ => (L, xs)
/-- what doesn't matter to a method: the cells behind the first 109, how many there are, the script -/
abbrev am_E : Type := (Nat → am_S) × Nat × Nat × (Nat → Int32)
def hp (D : Nat → Nat → Int32) (e : am_E) : am_H := (fun i => am_sh0.getD i (e.1 i), am_rf0, D, e.2.1, am_tb e.2.2.1 e.2.2.2)
def zb (p : Prop) [Decidable p] : Int32 := if p then 1 else 0
theorem zb_t {p : Prop} [Decidable p] (h : p) : zb p = 1 := if_pos h
theorem zb_f {p : Prop} [Decidable p] (h : ¬ p) : zb p = 0 := if_neg h
theorem zb_0 {p : Prop} [Decidable p] : zb p = 0 ↔ ¬ p := by
  unfold zb; split <;> simp_all
theorem zb_01 {p : Prop} [Decidable p] : zb p = 0 ∨ zb p = 1 := by
  unfold zb; split <;> simp
theorem am_qi {Q : am_Q} {a b : Int32} {h h' : am_H} (q : Q (some (.int a)) h) (e1 : b = a) (e2 : h' = h) : Q (some (.int b)) h' := by
  subst e1; subst e2; exact q
theorem am_qv {Q : am_Q} {h h' : am_H} (q : Q none h) (e2 : h' = h) : Q none h' := by
  subst e2; exact q
theorem am_hD {D D' : Nat → Nat → Int32} {e : am_E} (h : D' = D) : hp D' e = hp D e := by rw [h]
/-- take n from the stack, the last first -/
def am_pops : Nat → List Value → List Value → Option (List Value × List Value)
  | 0, as, st => some (as, st)
  | n + 1, as, v :: st => am_pops n (v :: as) st
  | _ + 1, _, [] => none
theorem am_pops_eq : ∀ (n : Nat) (as st as' st' : List Value), am_pops n as st = some (as', st') → as.reverse ++ st = as'.reverse ++ st' ∧ as'.length = as.length + n
  | 0, as, st, as', st', h => by cases h; exact ⟨rfl, rfl⟩
  | n + 1, as, v :: st, as', st', h => by
    have := am_pops_eq n (v :: as) st as' st' h
    refine ⟨?_, by rw [this.2]; simp; omega⟩
    rw [← this.1]
    simp
  | _ + 1, _, [], _, _, h => by cases h
section GO2
variable {M M' : am_M} {pc kc ks idx len n ci o : Nat} {ls st as rest : List Value} {h : am_H} {Q : am_Q}
theorem go_v (hc : am_CV M M' idx ci n) (hM : am_Mok M') (hi : am_lk pc (am_code M) = some (.invokevirtual idx, len)) (hp : am_pops n [] st = some (as, .ref o :: rest)) (ho : h.1 o = .inl ci) (hb : (Nat.ble rest.length 8 && am_c1 rest && am_c1 as && Nat.ble (as.length + 1) (am_ml M')) = true) (h1 : (am_rm M').cells ≤ kc) (h2 : (am_rm M').slots ≤ ks)
    (g : am_Go (M', 0, am_ent M' (.ref o :: as), [], h, (am_rm M').cells, (am_rm M').slots, fun r h1 => am_Go (M, pc + 3, ls, r.toList ++ rest, h1, kc - (am_rm M').cells, ks - (am_rm M').slots, Q))) : am_Go (M, pc, ls, st, h, kc, ks, Q) := by
  obtain ⟨e1, e2⟩ := am_pops_eq n [] st as _ hp
  have e2 : as.length = n := by rw [e2]; simp
  exact go_cv ci o as rest hi ho (by rw [e2]; exact hc) hM hb h1 h2 g e1
theorem go_u (hc : am_CU M M' idx ci n) (hM : am_Mok M') (hi : am_lk pc (am_code M) = some (.invokevirtual idx, len)) (hp : am_pops n [] st = some (as, .ref o :: rest)) (ho : h.1 o = .inl ci) (hb : (Nat.ble rest.length 8 && am_c1 rest && am_c1 as && Nat.ble (as.length + 1) (am_ml M')) = true) (h1 : (am_rm M').cells ≤ kc) (h2 : (am_rm M').slots ≤ ks)
    (g : am_Go (M', 0, am_ent M' (.ref o :: as), [], h, (am_rm M').cells, (am_rm M').slots, fun r h1 => am_Go (M, pc + 3, ls, r.toList ++ rest, h1, kc - (am_rm M').cells, ks - (am_rm M').slots, Q))) : am_Go (M, pc, ls, st, h, kc, ks, Q) := by
  obtain ⟨e1, e2⟩ := am_pops_eq n [] st as _ hp
  have e2 : as.length = n := by rw [e2]; simp
  exact go_cu ci o as rest hi ho (by rw [e2]; exact hc) hM hb h1 h2 g e1
theorem go_st (hc : am_CS M M' idx n) (hM : am_Mok M') (hi : am_lk pc (am_code M) = some (.invokestatic idx, len)) (hp : am_pops n [] st = some (as, rest)) (hb : (Nat.ble rest.length 8 && am_c1 rest && am_c1 as && Nat.ble as.length (am_ml M')) = true) (h1 : (am_rm M').cells ≤ kc) (h2 : (am_rm M').slots ≤ ks)
    (g : am_Go (M', 0, am_ent M' as, [], h, (am_rm M').cells, (am_rm M').slots, fun r h1 => am_Go (M, pc + 3, ls, r.toList ++ rest, h1, kc - (am_rm M').cells, ks - (am_rm M').slots, Q))) : am_Go (M, pc, ls, st, h, kc, ks, Q) := by
  obtain ⟨e1, e2⟩ := am_pops_eq n [] st as _ hp
  have e2 : as.length = n := by rw [e2]; simp
  exact go_cs as rest hi (by rw [e2]; exact hc) hM hb h1 h2 g e1
theorem go_sp (hc : am_CI M M' idx n) (hM : am_Mok M') (hi : am_lk pc (am_code M) = some (.invokespecial idx, len)) (hp : am_pops n [] st = some (as, .ref o :: rest)) (hb : (Nat.ble rest.length 8 && am_c1 rest && am_c1 as && Nat.ble (as.length + 1) (am_ml M')) = true) (h1 : (am_rm M').cells ≤ kc) (h2 : (am_rm M').slots ≤ ks)
    (g : am_Go (M', 0, am_ent M' (.ref o :: as), [], h, (am_rm M').cells, (am_rm M').slots, fun r h1 => am_Go (M, pc + 3, ls, r.toList ++ rest, h1, kc - (am_rm M').cells, ks - (am_rm M').slots, Q))) : am_Go (M, pc, ls, st, h, kc, ks, Q) := by
  obtain ⟨e1, e2⟩ := am_pops_eq n [] st as _ hp
  have e2 : as.length = n := by rw [e2]; simp
  exact go_ci o as rest hi (by rw [e2]; exact hc) hM hb h1 h2 g e1
end GO2
end
section
theorem vpl {x y : Int32} {N : Nat} (h : ¬ zb (0 ≤ x ∧ x < y) = 0) (hy : y.toInt ≤ N) : vp_in x N := by
  have h := Classical.not_not.mp (fun z => h (zb_0.mpr z))
  rw [vp_in_iff]
  have h1 := Int32.le_iff_toInt_le.mp h.1
  have h2 := Int32.lt_iff_toInt_lt.mp h.2
  simp at h1
  omega
theorem am_toInt1 {x : Int32} (h : x.toInt < 2147483647) : (x + 1).toInt = x.toInt + 1 := by
  have h0 := Int32.le_toInt x
  rw [Int32.toInt_add]
  simp only [Int32.toInt_one]
  exact Int.bmod_eq_of_le (by omega) (by omega)
theorem vpl1 {x y : Int32} {N : Nat} (h : ¬ zb (0 ≤ x ∧ x < y) = 0) (hy : y.toInt + 1 ≤ N) : vp_in (x + 1) N := by
  have h := Classical.not_not.mp (fun z => h (zb_0.mpr z))
  rw [vp_in_iff]
  have h1 := Int32.le_iff_toInt_le.mp h.1
  have h2 := Int32.lt_iff_toInt_lt.mp h.2
  have h3 := Int32.toInt_lt y
  simp at h1
  rw [am_toInt1 (by omega)]
  omega
theorem vpn {x y : Int32} {N : Nat} (h0 : ¬ x < 0) (h1 : x < y) (hy : y.toInt ≤ N) : vp_in x N := by
  rw [vp_in_iff]
  have h1 := Int32.lt_iff_toInt_lt.mp h1
  have h0 := Int32.le_iff_toInt_le.mp (Int32.not_lt.mp h0)
  simp at h0
  omega
theorem vpn1 {x y : Int32} {N : Nat} (h0 : ¬ x < 0) (h1 : x < y) (hy : y.toInt + 1 ≤ N) : vp_in (x + 1) N := by
  rw [vp_in_iff]
  have h1 := Int32.lt_iff_toInt_lt.mp h1
  have h0 := Int32.le_iff_toInt_le.mp (Int32.not_lt.mp h0)
  have h3 := Int32.toInt_lt y
  simp at h0
  rw [am_toInt1 (by omega)]
  omega
theorem zb_ne {p : Prop} [Decidable p] : ¬ zb p = 0 ↔ p := by
  rw [zb_0]; exact Classical.not_not
end
section
/-- Arrays.fill -/
def am_fil (D : Nat → Nat → Int32) (o n : Nat) (v : Int32) : Nat → Nat → Int32 := fun i j => if i = o ∧ j < n then v else D i j
theorem am_fil_s (D : Nat → Nat → Int32) (o k : Nat) (v : Int32) : am_u (am_fil D o k v) o k v = am_fil D o (k + 1) v := by
  funext i j
  unfold am_u am_fil
  by_cases h1 : i = o <;> by_cases h2 : j = k <;> by_cases h3 : j < k <;> simp [h1, h2, h3] <;> omega
theorem c_fill_loop {h : am_H} {o n : Nat} {v : Int32} {kc ks : Nat} {Q : am_Q} (hn : n < 2 ^ 31) (ho : h.1 o = .inr (0, n)) (q : Q none (h.1, h.2.1, am_fil h.2.2.1 o n v, h.2.2.2)) : ∀ (d k : Nat), d + k = n → am_Go (mJ7_fill_53178, 5, [.ref o, .int v, .int (nI k), .int (nI n)], [], (h.1, h.2.1, am_fil h.2.2.1 o k v, h.2.2.2), kc, ks, Q) := by
  intro d
  induction d with
  | zero =>
    intro k hk
    have hk : k = n := by omega
    subst hk
    refine go_s 3 rfl ?_
    refine go_if (fun c => absurd c (nI_nlt (Nat.le_refl k) hn)) (fun c => ?_)
    exact go_retv rfl rfl q
  | succ d ih =>
    intro k hk
    refine go_s 3 rfl ?_
    refine go_if (fun c => ?_) (fun c => absurd (nI_lt (by omega) hn) c)
    refine go_s 3 rfl ?_
    refine go_m (P := vp_in (nI k) n) (pc' := 14) (st' := []) (ls' := [.ref o, .int v, .int (nI k), .int (nI n)]) (h' := (h.1, h.2.1, am_u (am_fil h.2.2.1 o k v) o (nI k).toNatClampNeg v, h.2.2.2)) rfl (by show (match h.1 o with | .inr (0, n) => _ | _ => _) = _; rw [ho]; rfl) (vp_in_nI (by omega) hn) ?_
    rw [nI_clamp (by omega), am_fil_s]
    refine go_s 2 (pc' := 5) (ls' := [.ref o, .int v, .int (nI (k + 1)), .int (nI n)]) (st' := []) (h' := (h.1, h.2.1, am_fil h.2.2.1 o (k + 1) v, h.2.2.2)) (by rw [← nI_1]; rfl) ?_
    exact ih (k + 1) (by omega)
theorem c_fill {h : am_H} {o n : Nat} {v : Int32} {kc ks : Nat} {Q : am_Q} (hn : n < 2 ^ 31) (ho : h.1 o = .inr (0, n)) (q : Q none (h.1, h.2.1, am_fil h.2.2.1 o n v, h.2.2.2)) : am_Go (mJ7_fill_53178, 0, am_ent mJ7_fill_53178 [.ref o, .int v], [], h, kc, ks, Q) := by
  have e0 : h = (h.1, h.2.1, am_fil h.2.2.1 o 0 v, h.2.2.2) := by
    have : am_fil h.2.2.1 o 0 v = h.2.2.1 := by funext i j; simp [am_fil]
    rw [this]
  refine go_s 3 (pc' := 3) (ls' := [.ref o, .int v, .int 0, .long 0]) (st' := [.ref o]) (h' := h) rfl ?_
  refine am_Go.intro ⟨.arraylength, 1, rfl, Or.inl ⟨4, [.ref o, .int v, .int 0, .long 0], [.int (nI n)], h, ?_, ?_⟩⟩
  · show am_len 3 _ [.ref o] h = _
    unfold am_len
    dsimp only
    rw [ho]
    rfl
  refine go_s 1 (pc' := 5) (ls' := [.ref o, .int v, .int 0, .int (nI n)]) (st' := []) (h' := h) rfl ?_
  have := c_fill_loop (kc := kc) (ks := ks) hn ho q n 0 (by omega)
  rw [← e0, nI_0] at this
  exact this
theorem c_J7_fill_53178 {D : Nat → Nat → Int32} {e : am_E} {kc ks : Nat} {Q : am_Q} {o n : Nat} {v : Int32} (ho : (hp D e).1 o = .inr (0, n)) (hn : n < 2 ^ 31) (q : Q none (hp (am_fil D o n v) e)) : am_Go (mJ7_fill_53178, 0, am_ent mJ7_fill_53178 [.ref o, .int v], [], hp D e, kc, ks, Q) := c_fill hn ho q
end
section
theorem c_X9_isNumber {D : Nat → Nat → Int32} {e : am_E} {kc ks : Nat} {Q : am_Q} {n : Int32}  (q : Q (some (.int (zb (0 ≤ n ∧ n < 35)))) (hp D e)) : am_Go (mX9_isNumber, 0, am_ent mX9_isNumber [.int n], [], hp D e, kc, ks, Q) := by
  refine go_s 2 rfl ?_
  refine go_if (fun c1 => ?_) (fun c1 => ?_)
  · refine go_s 1 rfl ?_
    exact go_retz rfl rfl (by first | exact Or.inl rfl | exact Or.inr rfl | exact zb_01) (am_qi q (by simp_all [zb, ← Int32.not_lt]) (by rfl))
  · refine go_s 3 rfl ?_
    refine go_if (fun c7 => ?_) (fun c7 => ?_)
    · refine go_s 2 rfl ?_
      exact go_retz rfl rfl (by first | exact Or.inl rfl | exact Or.inr rfl | exact zb_01) (am_qi q (by simp_all [zb, ← Int32.not_lt]) (by rfl))
    · refine go_s 1 rfl ?_
      exact go_retz rfl rfl (by first | exact Or.inl rfl | exact Or.inr rfl | exact zb_01) (am_qi q (by simp_all [zb, ← Int32.not_lt]) (by rfl))
theorem c_X9_kindOfA {D : Nat → Nat → Int32} {e : am_E} {kc ks : Nat} {Q : am_Q} {n : Int32}  (q : Q (some (.int (if 0 ≤ n ∧ n < 35 then am_t0.getD n.toNatClampNeg 0 else 0))) (hp D e)) : am_Go (mX9_kindOfA, 0, am_ent mX9_kindOfA [.int n], [], hp D e, kc, ks, Q) := by
  refine go_s 1 rfl ?_
  refine go_st kX9_kindOfA_1 okX9_isNumber rfl rfl rfl (Nat.zero_le _) (Nat.zero_le _) ?_
  refine c_X9_isNumber ?_
  refine go_s 1 rfl ?_
  refine go_if (fun c4 => ?_) (fun c4 => ?_)
  · refine go_s 1 rfl ?_
    exact go_ret rfl rfl (am_qi q (by first | (rw [if_neg (zb_0.mp c4)]; rfl) | (rw [if_pos (zb_ne.mp c4)]; rfl)) (by rfl))
  · refine go_s 2 rfl ?_
    refine go_m rfl rfl (show vp_in _ 35 from vpl c4 (by decide)) ?_
    refine go_s 1 rfl ?_
    exact go_ret rfl rfl (am_qi q (by first | (rw [if_neg (zb_0.mp c4)]; rfl) | (rw [if_pos (zb_ne.mp c4)]; rfl)) (by rfl))
theorem c_X9_kindOfB {D : Nat → Nat → Int32} {e : am_E} {kc ks : Nat} {Q : am_Q} {n : Int32}  (q : Q (some (.int (if 0 ≤ n ∧ n < 35 then am_t1.getD n.toNatClampNeg 0 else 0))) (hp D e)) : am_Go (mX9_kindOfB, 0, am_ent mX9_kindOfB [.int n], [], hp D e, kc, ks, Q) := by
  refine go_s 1 rfl ?_
  refine go_st kX9_kindOfB_1 okX9_isNumber rfl rfl rfl (Nat.zero_le _) (Nat.zero_le _) ?_
  refine c_X9_isNumber ?_
  refine go_s 1 rfl ?_
  refine go_if (fun c4 => ?_) (fun c4 => ?_)
  · refine go_s 1 rfl ?_
    exact go_ret rfl rfl (am_qi q (by first | (rw [if_neg (zb_0.mp c4)]; rfl) | (rw [if_pos (zb_ne.mp c4)]; rfl)) (by rfl))
  · refine go_s 2 rfl ?_
    refine go_m rfl rfl (show vp_in _ 35 from vpl c4 (by decide)) ?_
    refine go_s 1 rfl ?_
    exact go_ret rfl rfl (am_qi q (by first | (rw [if_neg (zb_0.mp c4)]; rfl) | (rw [if_pos (zb_ne.mp c4)]; rfl)) (by rfl))
theorem c_X9_kindOfC {D : Nat → Nat → Int32} {e : am_E} {kc ks : Nat} {Q : am_Q} {n : Int32}  (q : Q (some (.int (if 0 ≤ n ∧ n < 35 then am_t2.getD n.toNatClampNeg 0 else 0))) (hp D e)) : am_Go (mX9_kindOfC, 0, am_ent mX9_kindOfC [.int n], [], hp D e, kc, ks, Q) := by
  refine go_s 1 rfl ?_
  refine go_st kX9_kindOfC_1 okX9_isNumber rfl rfl rfl (Nat.zero_le _) (Nat.zero_le _) ?_
  refine c_X9_isNumber ?_
  refine go_s 1 rfl ?_
  refine go_if (fun c4 => ?_) (fun c4 => ?_)
  · refine go_s 1 rfl ?_
    exact go_ret rfl rfl (am_qi q (by first | (rw [if_neg (zb_0.mp c4)]; rfl) | (rw [if_pos (zb_ne.mp c4)]; rfl)) (by rfl))
  · refine go_s 2 rfl ?_
    refine go_m rfl rfl (show vp_in _ 35 from vpl c4 (by decide)) ?_
    refine go_s 1 rfl ?_
    exact go_ret rfl rfl (am_qi q (by first | (rw [if_neg (zb_0.mp c4)]; rfl) | (rw [if_pos (zb_ne.mp c4)]; rfl)) (by rfl))
theorem c_X9_kept {D : Nat → Nat → Int32} {e : am_E} {kc ks : Nat} {Q : am_Q} {k v : Int32}  (q : Q (some (.int (if k = 0 then 0 else v))) (hp D e)) : am_Go (mX9_kept, 0, am_ent mX9_kept [.int k, .int v], [], hp D e, kc, ks, Q) := by
  refine go_s 2 rfl ?_
  refine go_if (fun c1 => ?_) (fun c1 => ?_)
  · refine go_s 2 rfl ?_
    exact go_ret rfl rfl (am_qi q (by simp_all [zb]) (by rfl))
  · refine go_s 1 rfl ?_
    exact go_ret rfl rfl (am_qi q (by simp_all [zb]) (by rfl))
theorem c_X9_isReturnRegister {D : Nat → Nat → Int32} {e : am_E} {kc ks : Nat} {Q : am_Q} {k v : Int32}  (q : Q (some (.int (zb (k = 1 ∧ v = 1)))) (hp D e)) : am_Go (mX9_isReturnRegister, 0, am_ent mX9_isReturnRegister [.int k, .int v], [], hp D e, kc, ks, Q) := by
  refine go_s 3 rfl ?_
  refine go_if (fun c2 => ?_) (fun c2 => ?_)
  · refine go_s 3 rfl ?_
    refine go_if (fun c7 => ?_) (fun c7 => ?_)
    · refine go_s 2 rfl ?_
      exact go_retz rfl rfl (by first | exact Or.inl rfl | exact Or.inr rfl | exact zb_01) (am_qi q (by simp_all [zb]) (by rfl))
    · refine go_s 1 rfl ?_
      exact go_retz rfl rfl (by first | exact Or.inl rfl | exact Or.inr rfl | exact zb_01) (am_qi q (by simp_all [zb]) (by rfl))
  · refine go_s 1 rfl ?_
    exact go_retz rfl rfl (by first | exact Or.inl rfl | exact Or.inr rfl | exact zb_01) (am_qi q (by simp_all [zb]) (by rfl))
theorem c_X9_isBranch {D : Nat → Nat → Int32} {e : am_E} {kc ks : Nat} {Q : am_Q} {n : Int32}  (q : Q (some (.int (zb (¬ n < 22 ∧ ¬ 27 < n)))) (hp D e)) : am_Go (mX9_isBranch, 0, am_ent mX9_isBranch [.int n], [], hp D e, kc, ks, Q) := by
  refine go_s 3 rfl ?_
  refine go_if (fun c3 => ?_) (fun c3 => ?_)
  · refine go_s 1 rfl ?_
    exact go_retz rfl rfl (by first | exact Or.inl rfl | exact Or.inr rfl | exact zb_01) (am_qi q (by simp_all [zb]) (by rfl))
  · refine go_s 3 rfl ?_
    refine go_if (fun c9 => ?_) (fun c9 => ?_)
    · refine go_s 1 rfl ?_
      exact go_retz rfl rfl (by first | exact Or.inl rfl | exact Or.inr rfl | exact zb_01) (am_qi q (by simp_all [zb]) (by rfl))
    · refine go_s 2 rfl ?_
      exact go_retz rfl rfl (by first | exact Or.inl rfl | exact Or.inr rfl | exact zb_01) (am_qi q (by simp_all [zb]) (by rfl))
theorem c_X9_isCallOrTail {D : Nat → Nat → Int32} {e : am_E} {kc ks : Nat} {Q : am_Q} {n : Int32}  (q : Q (some (.int (zb (n = 29 ∨ n = 30)))) (hp D e)) : am_Go (mX9_isCallOrTail, 0, am_ent mX9_isCallOrTail [.int n], [], hp D e, kc, ks, Q) := by
  refine go_s 3 rfl ?_
  refine go_if (fun c3 => ?_) (fun c3 => ?_)
  · refine go_s 2 rfl ?_
    exact go_retz rfl rfl (by first | exact Or.inl rfl | exact Or.inr rfl | exact zb_01) (am_qi q (by simp_all [zb]) (by rfl))
  · refine go_s 3 rfl ?_
    refine go_if (fun c9 => ?_) (fun c9 => ?_)
    · refine go_s 2 rfl ?_
      exact go_retz rfl rfl (by first | exact Or.inl rfl | exact Or.inr rfl | exact zb_01) (am_qi q (by simp_all [zb]) (by rfl))
    · refine go_s 1 rfl ?_
      exact go_retz rfl rfl (by first | exact Or.inl rfl | exact Or.inr rfl | exact zb_01) (am_qi q (by simp_all [zb]) (by rfl))
theorem c_X9_isClosing {D : Nat → Nat → Int32} {e : am_E} {kc ks : Nat} {Q : am_Q} {n : Int32}  (q : Q (some (.int (zb (n = 28 ∨ n = 30 ∨ n = 31)))) (hp D e)) : am_Go (mX9_isClosing, 0, am_ent mX9_isClosing [.int n], [], hp D e, kc, ks, Q) := by
  refine go_s 3 rfl ?_
  refine go_if (fun c3 => ?_) (fun c3 => ?_)
  · refine go_s 2 rfl ?_
    exact go_retz rfl rfl (by first | exact Or.inl rfl | exact Or.inr rfl | exact zb_01) (am_qi q (by simp_all [zb]) (by rfl))
  · refine go_s 3 rfl ?_
    refine go_if (fun c9 => ?_) (fun c9 => ?_)
    · refine go_s 2 rfl ?_
      exact go_retz rfl rfl (by first | exact Or.inl rfl | exact Or.inr rfl | exact zb_01) (am_qi q (by simp_all [zb]) (by rfl))
    · refine go_s 3 rfl ?_
      refine go_if (fun c15 => ?_) (fun c15 => ?_)
      · refine go_s 2 rfl ?_
        exact go_retz rfl rfl (by first | exact Or.inl rfl | exact Or.inr rfl | exact zb_01) (am_qi q (by simp_all [zb]) (by rfl))
      · refine go_s 1 rfl ?_
        exact go_retz rfl rfl (by first | exact Or.inl rfl | exact Or.inr rfl | exact zb_01) (am_qi q (by simp_all [zb]) (by rfl))
theorem c_X9_mayBeInRow {D : Nat → Nat → Int32} {e : am_E} {kc ks : Nat} {Q : am_Q} {n : Int32}  (q : Q (some (.int (zb ((¬ n < 0 ∧ ¬ 21 < n) ∨ n = 34)))) (hp D e)) : am_Go (mX9_mayBeInRow, 0, am_ent mX9_mayBeInRow [.int n], [], hp D e, kc, ks, Q) := by
  refine go_s 2 rfl ?_
  refine go_if (fun c1 => ?_) (fun c1 => ?_)
  · refine go_s 3 rfl ?_
    refine go_if (fun c13 => ?_) (fun c13 => ?_)
    · refine go_s 2 rfl ?_
      exact go_retz rfl rfl (by first | exact Or.inl rfl | exact Or.inr rfl | exact zb_01) (am_qi q (by simp_all [zb]) (by rfl))
    · refine go_s 1 rfl ?_
      exact go_retz rfl rfl (by first | exact Or.inl rfl | exact Or.inr rfl | exact zb_01) (am_qi q (by simp_all [zb]) (by rfl))
  · refine go_s 3 rfl ?_
    refine go_if (fun c7 => ?_) (fun c7 => ?_)
    · refine go_s 3 rfl ?_
      refine go_if (fun c13 => ?_) (fun c13 => ?_)
      · refine go_s 2 rfl ?_
        exact go_retz rfl rfl (by first | exact Or.inl rfl | exact Or.inr rfl | exact zb_01) (am_qi q (by simp_all [zb]) (by rfl))
      · refine go_s 1 rfl ?_
        exact go_retz rfl rfl (by first | exact Or.inl rfl | exact Or.inr rfl | exact zb_01) (am_qi q (by simp_all [zb]) (by rfl))
    · refine go_s 2 rfl ?_
      exact go_retz rfl rfl (by first | exact Or.inl rfl | exact Or.inr rfl | exact zb_01) (am_qi q (by simp_all [zb]) (by rfl))
end
section
def am_sel (n : Int32) : Int32 := if 0 ≤ n ∧ n < 28 then am_t3.getD n.toNatClampNeg 0 else 0
def am_othz (n : Int32) : Int32 := zb (0 ≤ n ∧ n < 28 ∧ am_t4.getD n.toNatClampNeg 0 = 1)
theorem am_othz_01 (n : Int32) : am_othz n = 0 ∨ am_othz n = 1 := zb_01
def am_blw (a b : Int32) : Prop := a ^^^ (-2147483648) < b ^^^ (-2147483648)
theorem c_X8_isBelow {D : Nat → Nat → Int32} {e : am_E} {kc ks : Nat} {Q : am_Q} {a b : Int32}  (q : Q (some (.int (zb (a ^^^ (-2147483648) < b ^^^ (-2147483648))))) (hp D e)) : am_Go (mX8_isBelow, 0, am_ent mX8_isBelow [.int a, .int b], [], hp D e, kc, ks, Q) := by
  refine go_s 7 rfl ?_
  refine go_if (fun c8 => ?_) (fun c8 => ?_)
  · refine go_s 2 rfl ?_
    exact go_retz rfl rfl (by first | exact Or.inl rfl | exact Or.inr rfl | exact zb_01) (am_qi q (by simp_all [zb]) (by rfl))
  · refine go_s 1 rfl ?_
    exact go_retz rfl rfl (by first | exact Or.inl rfl | exact Or.inr rfl | exact zb_01) (am_qi q (by simp_all [zb]) (by rfl))
theorem c_X8_selectorOf {D : Nat → Nat → Int32} {e : am_E} {kc ks : Nat} {Q : am_Q} {n : Int32}  (q : Q (some (.int (am_sel n))) (hp D e)) : am_Go (mX8_selectorOf, 0, am_ent mX8_selectorOf [.int n], [], hp D e, kc, ks, Q) := by
  refine go_s 2 rfl ?_
  refine go_if (fun c1 => ?_) (fun c1 => ?_)
  · refine go_s 1 rfl ?_
    exact go_ret rfl rfl (am_qi q (by simp_all [am_sel, hp, am_tb, ← Int32.not_lt]) (by rfl))
  · refine go_s 4 rfl ?_
    refine go_if (fun c9 => ?_) (fun c9 => ?_)
    · refine go_s 2 rfl ?_
      refine go_m rfl rfl (show vp_in _ 28 from vpn (y := 28) (by assumption) (by assumption) (by decide)) ?_
      refine go_s 1 rfl ?_
      exact go_ret rfl rfl (am_qi q (by simp_all [am_sel, hp, am_tb, ← Int32.not_lt]) (by rfl))
    · refine go_s 1 rfl ?_
      exact go_ret rfl rfl (am_qi q (by simp_all [am_sel, hp, am_tb, ← Int32.not_lt]) (by rfl))
theorem c_X8_isOther {D : Nat → Nat → Int32} {e : am_E} {kc ks : Nat} {Q : am_Q} {n : Int32}  (q : Q (some (.int (am_othz n))) (hp D e)) : am_Go (mX8_isOther, 0, am_ent mX8_isOther [.int n], [], hp D e, kc, ks, Q) := by
  refine go_s 2 rfl ?_
  refine go_if (fun c1 => ?_) (fun c1 => ?_)
  · refine go_s 1 rfl ?_
    exact go_retz rfl rfl (by first | exact Or.inl rfl | exact Or.inr rfl | exact zb_01) (am_qi q (by simp_all [am_othz, zb, hp, am_tb, ← Int32.not_lt]) (by rfl))
  · refine go_s 4 rfl ?_
    refine go_if (fun c9 => ?_) (fun c9 => ?_)
    · refine go_s 2 rfl ?_
      refine go_m rfl rfl (show vp_in _ 28 from vpn (y := 28) (by assumption) (by assumption) (by decide)) ?_
      refine go_s 2 rfl ?_
      refine go_if (fun c18 => ?_) (fun c18 => ?_)
      · refine go_s 2 rfl ?_
        exact go_retz rfl rfl (by first | exact Or.inl rfl | exact Or.inr rfl | exact zb_01) (am_qi q (by simp_all [am_othz, zb, hp, am_tb, ← Int32.not_lt]) (by rfl))
      · refine go_s 1 rfl ?_
        exact go_retz rfl rfl (by first | exact Or.inl rfl | exact Or.inr rfl | exact zb_01) (am_qi q (by simp_all [am_othz, zb, hp, am_tb, ← Int32.not_lt]) (by rfl))
    · refine go_s 1 rfl ?_
      exact go_retz rfl rfl (by first | exact Or.inl rfl | exact Or.inr rfl | exact zb_01) (am_qi q (by simp_all [am_othz, zb, hp, am_tb, ← Int32.not_lt]) (by rfl))
theorem c_X8_upperWord {D : Nat → Nat → Int32} {e : am_E} {kc ks : Nat} {Q : am_Q} {a b : Int32}  (q : Q (some (.int (b <<< (12 : Int32) ||| a <<< (7 : Int32) ||| (55 : Int32)))) (hp D e)) : am_Go (mX8_upperWord, 0, am_ent mX8_upperWord [.int a, .int b], [], hp D e, kc, ks, Q) := by
  refine go_s 9 rfl ?_
  exact go_ret rfl rfl (am_qi q (by rfl) (by rfl))
theorem c_X8_loadWord {D : Nat → Nat → Int32} {e : am_E} {kc ks : Nat} {Q : am_Q} {a b c : Int32}  (q : Q (some (.int (c <<< (20 : Int32) ||| b <<< (15 : Int32) ||| (8192 : Int32) ||| a <<< (7 : Int32) ||| (3 : Int32)))) (hp D e)) : am_Go (mX8_loadWord, 0, am_ent mX8_loadWord [.int a, .int b, .int c], [], hp D e, kc, ks, Q) := by
  refine go_s 15 rfl ?_
  exact go_ret rfl rfl (am_qi q (by rfl) (by rfl))
theorem c_X8_storeWord {D : Nat → Nat → Int32} {e : am_E} {kc ks : Nat} {Q : am_Q} {a b c : Int32}  (q : Q (some (.int (c >>> (5 : Int32) <<< (25 : Int32) ||| a <<< (20 : Int32) ||| b <<< (15 : Int32) ||| (8192 : Int32) ||| (c &&& (31 : Int32)) <<< (7 : Int32) ||| (35 : Int32)))) (hp D e)) : am_Go (mX8_storeWord, 0, am_ent mX8_storeWord [.int a, .int b, .int c], [], hp D e, kc, ks, Q) := by
  refine go_s 23 rfl ?_
  exact go_ret rfl rfl (am_qi q (by rfl) (by rfl))
theorem c_X8_jumpWord {D : Nat → Nat → Int32} {e : am_E} {kc ks : Nat} {Q : am_Q} {a b : Int32}  (q : Q (some (.int (((b >>> (20 : Int32) &&& (1 : Int32)) <<< (31 : Int32) ||| (b >>> (1 : Int32) &&& (1023 : Int32)) <<< (21 : Int32)) ||| ((b >>> (11 : Int32) &&& (1 : Int32)) <<< (20 : Int32) ||| (b >>> (12 : Int32) &&& (255 : Int32)) <<< (12 : Int32)) ||| a <<< (7 : Int32) ||| (111 : Int32)))) (hp D e)) : am_Go (mX8_jumpWord, 0, am_ent mX8_jumpWord [.int a, .int b], [], hp D e, kc, ks, Q) := by
  refine go_s 41 rfl ?_
  exact go_ret rfl rfl (am_qi q (by rfl) (by rfl))
theorem c_X8_jumpRegisterWord {D : Nat → Nat → Int32} {e : am_E} {kc ks : Nat} {Q : am_Q} {a b : Int32}  (q : Q (some (.int (b <<< (15 : Int32) ||| a <<< (7 : Int32) ||| (103 : Int32)))) (hp D e)) : am_Go (mX8_jumpRegisterWord, 0, am_ent mX8_jumpRegisterWord [.int a, .int b], [], hp D e, kc, ks, Q) := by
  refine go_s 9 rfl ?_
  exact go_ret rfl rfl (am_qi q (by rfl) (by rfl))
theorem c_X8_codeOf {D : Nat → Nat → Int32} {e : am_E} {kc ks : Nat} {Q : am_Q} {n : Int32}  (q : Q (some (.int (n &&& (127 : Int32)))) (hp D e)) : am_Go (mX8_codeOf, 0, am_ent mX8_codeOf [.int n], [], hp D e, kc, ks, Q) := by
  refine go_s 3 rfl ?_
  exact go_ret rfl rfl (am_qi q (by rfl) (by rfl))
theorem c_X8_targetOf {D : Nat → Nat → Int32} {e : am_E} {kc ks : Nat} {Q : am_Q} {n : Int32}  (q : Q (some (.int (n >>> (7 : Int32) &&& (31 : Int32)))) (hp D e)) : am_Go (mX8_targetOf, 0, am_ent mX8_targetOf [.int n], [], hp D e, kc, ks, Q) := by
  refine go_s 5 rfl ?_
  exact go_ret rfl rfl (am_qi q (by rfl) (by rfl))
theorem c_X8_firstOf {D : Nat → Nat → Int32} {e : am_E} {kc ks : Nat} {Q : am_Q} {n : Int32}  (q : Q (some (.int (n >>> (15 : Int32) &&& (31 : Int32)))) (hp D e)) : am_Go (mX8_firstOf, 0, am_ent mX8_firstOf [.int n], [], hp D e, kc, ks, Q) := by
  refine go_s 5 rfl ?_
  exact go_ret rfl rfl (am_qi q (by rfl) (by rfl))
theorem c_X8_secondOf {D : Nat → Nat → Int32} {e : am_E} {kc ks : Nat} {Q : am_Q} {n : Int32}  (q : Q (some (.int (n >>> (20 : Int32) &&& (31 : Int32)))) (hp D e)) : am_Go (mX8_secondOf, 0, am_ent mX8_secondOf [.int n], [], hp D e, kc, ks, Q) := by
  refine go_s 5 rfl ?_
  exact go_ret rfl rfl (am_qi q (by rfl) (by rfl))
theorem c_X8_selectorIn {D : Nat → Nat → Int32} {e : am_E} {kc ks : Nat} {Q : am_Q} {n : Int32}  (q : Q (some (.int (n >>> (12 : Int32) &&& (7 : Int32)))) (hp D e)) : am_Go (mX8_selectorIn, 0, am_ent mX8_selectorIn [.int n], [], hp D e, kc, ks, Q) := by
  refine go_s 5 rfl ?_
  exact go_ret rfl rfl (am_qi q (by rfl) (by rfl))
theorem c_X8_isOtherIn {D : Nat → Nat → Int32} {e : am_E} {kc ks : Nat} {Q : am_Q} {n : Int32}  (q : Q (some (.int (zb (¬ n &&& (1073741824 : Int32) = 0)))) (hp D e)) : am_Go (mX8_isOtherIn, 0, am_ent mX8_isOtherIn [.int n], [], hp D e, kc, ks, Q) := by
  refine go_s 4 rfl ?_
  refine go_if (fun c4 => ?_) (fun c4 => ?_)
  · refine go_s 1 rfl ?_
    exact go_retz rfl rfl (by first | exact Or.inl rfl | exact Or.inr rfl | exact zb_01) (am_qi q (by simp_all [zb]) (by rfl))
  · refine go_s 2 rfl ?_
    exact go_retz rfl rfl (by first | exact Or.inl rfl | exact Or.inr rfl | exact zb_01) (am_qi q (by simp_all [zb]) (by rfl))
theorem c_X8_immediateOf {D : Nat → Nat → Int32} {e : am_E} {kc ks : Nat} {Q : am_Q} {n : Int32}  (q : Q (some (.int (n >>> (20 : Int32)))) (hp D e)) : am_Go (mX8_immediateOf, 0, am_ent mX8_immediateOf [.int n], [], hp D e, kc, ks, Q) := by
  refine go_s 3 rfl ?_
  exact go_ret rfl rfl (am_qi q (by rfl) (by rfl))
theorem c_X8_storeOffsetOf {D : Nat → Nat → Int32} {e : am_E} {kc ks : Nat} {Q : am_Q} {n : Int32}  (q : Q (some (.int (n >>> (25 : Int32) <<< (5 : Int32) ||| n >>> (7 : Int32) &&& (31 : Int32)))) (hp D e)) : am_Go (mX8_storeOffsetOf, 0, am_ent mX8_storeOffsetOf [.int n], [], hp D e, kc, ks, Q) := by
  refine go_s 11 rfl ?_
  exact go_ret rfl rfl (am_qi q (by rfl) (by rfl))
theorem c_X8_branchOffsetOf {D : Nat → Nat → Int32} {e : am_E} {kc ks : Nat} {Q : am_Q} {n : Int32}  (q : Q (some (.int (n >>> (31 : Int32) <<< (12 : Int32) ||| (n >>> (7 : Int32) &&& (1 : Int32)) <<< (11 : Int32) ||| (n >>> (25 : Int32) &&& (63 : Int32)) <<< (5 : Int32) ||| (n >>> (8 : Int32) &&& (15 : Int32)) <<< (1 : Int32)))) (hp D e)) : am_Go (mX8_branchOffsetOf, 0, am_ent mX8_branchOffsetOf [.int n], [], hp D e, kc, ks, Q) := by
  refine go_s 29 rfl ?_
  exact go_ret rfl rfl (am_qi q (by rfl) (by rfl))
theorem c_X8_jumpOffsetOf {D : Nat → Nat → Int32} {e : am_E} {kc ks : Nat} {Q : am_Q} {n : Int32}  (q : Q (some (.int (n >>> (31 : Int32) <<< (20 : Int32) ||| n &&& (1044480 : Int32) ||| (n >>> (20 : Int32) &&& (1 : Int32)) <<< (11 : Int32) ||| (n >>> (21 : Int32) &&& (1023 : Int32)) <<< (1 : Int32)))) (hp D e)) : am_Go (mX8_jumpOffsetOf, 0, am_ent mX8_jumpOffsetOf [.int n], [], hp D e, kc, ks, Q) := by
  refine go_s 25 rfl ?_
  exact go_ret rfl rfl (am_qi q (by rfl) (by rfl))
end
section
def am_calc (s o x y : Int32) : Int32 := if s = 0 then (if o = 0 then x + y else x - y) else if s = 1 then x <<< (y &&& 31 &&& 31) else if s = 2 then zb (x < y) else if s = 3 then zb (x ^^^ (-2147483648) < y ^^^ (-2147483648)) else if s = 4 then x ^^^ y else if s = 5 then (if o = 0 then (x.toUInt32 >>> ((y &&& 31).toUInt32 &&& Int32.toUInt32 31)).toInt32 else x >>> (y &&& 31 &&& 31)) else if s = 6 then x ||| y else x &&& y
def am_brs (s x y : Int32) : Int32 := if s = 0 then zb (x = y) else if s = 1 then zb (¬ x = y) else if s = 4 then zb (x < y) else if s = 5 then zb (¬ x < y) else if s = 6 then zb (x ^^^ (-2147483648) < y ^^^ (-2147483648)) else zb (¬ x ^^^ (-2147483648) < y ^^^ (-2147483648))
def am_num (D : Nat → Nat → Int32) (s : Int32) : Int32 := if 0 ≤ s ∧ s < D 1 6 then D 2 s.toNatClampNeg else -1
def am_fa (D : Nat → Nat → Int32) (s : Int32) : Int32 := if 0 ≤ s ∧ s < D 1 6 then D 3 s.toNatClampNeg else 0
def am_fb (D : Nat → Nat → Int32) (s : Int32) : Int32 := if 0 ≤ s ∧ s < D 1 6 then D 4 s.toNatClampNeg else 0
def am_fc (D : Nat → Nat → Int32) (s : Int32) : Int32 := if 0 ≤ s ∧ s < D 1 6 then D 5 s.toNatClampNeg else 0
def am_sta (D : Nat → Nat → Int32) (f : Int32) : Int32 := if 0 ≤ f ∧ f < D 1 5 then D 6 f.toNatClampNeg else 0
def am_end (D : Nat → Nat → Int32) (f : Int32) : Int32 := if 0 ≤ f ∧ f < D 1 5 then D 6 (f + 1).toNatClampNeg else 0
def am_lof (D : Nat → Nat → Int32) (f : Int32) : Int32 := if 0 ≤ f ∧ f < D 1 5 then D 6 (f + 1).toNatClampNeg - D 6 f.toNatClampNeg else 0
def am_spo (D : Nat → Nat → Int32) (f p : Int32) : Int32 := if ¬ f < 0 ∧ f < D 1 5 ∧ ¬ p < 0 ∧ D 6 f.toNatClampNeg + p < D 6 (f + 1).toNatClampNeg then D 6 f.toNatClampNeg + p else -1
def am_pto (D : Nat → Nat → Int32) (s : Int32) : Int32 := if ¬ am_num D s < 22 ∧ ¬ 27 < am_num D s then am_fc D s else if am_num D s = 28 then am_fa D s else -1
def am_fto (D : Nat → Nat → Int32) (s : Int32) : Int32 := if am_num D s = 29 ∨ am_num D s = 30 then am_fa D s else if am_num D s = 32 then am_fb D s else -1
def am_kA (n : Int32) : Int32 := if 0 ≤ n ∧ n < 35 then am_t0.getD n.toNatClampNeg 0 else 0
def am_kB (n : Int32) : Int32 := if 0 ≤ n ∧ n < 35 then am_t1.getD n.toNatClampNeg 0 else 0
def am_kC (n : Int32) : Int32 := if 0 ≤ n ∧ n < 35 then am_t2.getD n.toNatClampNeg 0 else 0
theorem c_X8_calculate {D : Nat → Nat → Int32} {e : am_E} {kc ks : Nat} {Q : am_Q} {s o x y : Int32}  (q : Q (some (.int (am_calc s o x y))) (hp D e)) : am_Go (mX8_calculate, 0, am_ent mX8_calculate [.int s, .int o, .int x, .int y], [], hp D e, kc, ks, Q) := by
  refine go_s 2 rfl ?_
  refine go_if (fun c1_0 => ?_) (fun c1_0 => ?_)
  · refine go_s 2 rfl ?_
    refine go_if (fun c45 => ?_) (fun c45 => ?_)
    · refine go_s 3 rfl ?_
      exact go_ret rfl rfl (am_qi q (by simp_all [am_calc, zb]) (by rfl))
    · refine go_s 4 rfl ?_
      exact go_ret rfl rfl (am_qi q (by simp_all [am_calc, zb]) (by rfl))
  · refine go_if (fun c1_1 => ?_) (fun c1_1 => ?_)
    · refine go_s 5 rfl ?_
      exact go_ret rfl rfl (am_qi q (by simp_all [am_calc, zb]) (by rfl))
    · refine go_if (fun c1_2 => ?_) (fun c1_2 => ?_)
      · refine go_s 3 rfl ?_
        refine go_if (fun c67 => ?_) (fun c67 => ?_)
        · refine go_s 2 rfl ?_
          exact go_ret rfl rfl (am_qi q (by simp_all [am_calc, zb]) (by rfl))
        · refine go_s 1 rfl ?_
          exact go_ret rfl rfl (am_qi q (by simp_all [am_calc, zb]) (by rfl))
      · refine go_if (fun c1_3 => ?_) (fun c1_3 => ?_)
        · refine go_s 2 rfl ?_
          refine go_st kX8_calculate_78 okX8_isBelow rfl rfl rfl (Nat.zero_le _) (Nat.zero_le _) ?_
          refine c_X8_isBelow ?_
          refine go_s 1 rfl ?_
          refine go_if (fun c81 => ?_) (fun c81 => ?_)
          · refine go_s 1 rfl ?_
            exact go_ret rfl rfl (am_qi q (by simp_all [am_calc, zb]) (by rfl))
          · refine go_s 2 rfl ?_
            exact go_ret rfl rfl (am_qi q (by simp_all [am_calc, zb]) (by rfl))
        · refine go_if (fun c1_4 => ?_) (fun c1_4 => ?_)
          · refine go_s 3 rfl ?_
            exact go_ret rfl rfl (am_qi q (by simp_all [am_calc, zb]) (by rfl))
          · refine go_if (fun c1_5 => ?_) (fun c1_5 => ?_)
            · refine go_s 2 rfl ?_
              refine go_if (fun c95 => ?_) (fun c95 => ?_)
              · refine go_s 5 rfl ?_
                exact go_ret rfl rfl (am_qi q (by simp_all [am_calc, zb]) (by rfl))
              · refine go_s 6 rfl ?_
                exact go_ret rfl rfl (am_qi q (by simp_all [am_calc, zb]) (by rfl))
            · refine go_if (fun c1_6 => ?_) (fun c1_6 => ?_)
              · refine go_s 3 rfl ?_
                exact go_ret rfl rfl (am_qi q (by simp_all [am_calc, zb]) (by rfl))
              · refine go_s 3 rfl ?_
                exact go_ret rfl rfl (am_qi q (by simp_all [am_calc, zb]) (by rfl))
theorem c_X8_branches {D : Nat → Nat → Int32} {e : am_E} {kc ks : Nat} {Q : am_Q} {s x y : Int32}  (q : Q (some (.int (am_brs s x y))) (hp D e)) : am_Go (mX8_branches, 0, am_ent mX8_branches [.int s, .int x, .int y], [], hp D e, kc, ks, Q) := by
  refine go_s 2 rfl ?_
  refine go_if (fun c1_0 => ?_) (fun c1_0 => ?_)
  · refine go_s 3 rfl ?_
    refine go_if (fun c46 => ?_) (fun c46 => ?_)
    · refine go_s 2 rfl ?_
      exact go_retz rfl rfl (by first | exact Or.inl rfl | exact Or.inr rfl | exact zb_01) (am_qi q (by simp_all [am_brs, zb]) (by rfl))
    · refine go_s 1 rfl ?_
      exact go_retz rfl rfl (by first | exact Or.inl rfl | exact Or.inr rfl | exact zb_01) (am_qi q (by simp_all [am_brs, zb]) (by rfl))
  · refine go_if (fun c1_1 => ?_) (fun c1_1 => ?_)
    · refine go_s 3 rfl ?_
      refine go_if (fun c57 => ?_) (fun c57 => ?_)
      · refine go_s 1 rfl ?_
        exact go_retz rfl rfl (by first | exact Or.inl rfl | exact Or.inr rfl | exact zb_01) (am_qi q (by simp_all [am_brs, zb]) (by rfl))
      · refine go_s 2 rfl ?_
        exact go_retz rfl rfl (by first | exact Or.inl rfl | exact Or.inr rfl | exact zb_01) (am_qi q (by simp_all [am_brs, zb]) (by rfl))
    · refine go_if (fun c1_2 => ?_) (fun c1_2 => ?_)
      · refine go_s 2 rfl ?_
        refine go_st kX8_branches_96 okX8_isBelow rfl rfl rfl (Nat.zero_le _) (Nat.zero_le _) ?_
        refine c_X8_isBelow ?_
        refine go_s 1 rfl ?_
        refine go_if (fun c99 => ?_) (fun c99 => ?_)
        · refine go_s 2 rfl ?_
          exact go_retz rfl rfl (by first | exact Or.inl rfl | exact Or.inr rfl | exact zb_01) (am_qi q (by simp_all [am_brs, zb]) (by rfl))
        · refine go_s 1 rfl ?_
          exact go_retz rfl rfl (by first | exact Or.inl rfl | exact Or.inr rfl | exact zb_01) (am_qi q (by simp_all [am_brs, zb]) (by rfl))
      · refine go_if (fun c1_3 => ?_) (fun c1_3 => ?_)
        · refine go_s 2 rfl ?_
          refine go_st kX8_branches_96 okX8_isBelow rfl rfl rfl (Nat.zero_le _) (Nat.zero_le _) ?_
          refine c_X8_isBelow ?_
          refine go_s 1 rfl ?_
          refine go_if (fun c99 => ?_) (fun c99 => ?_)
          · refine go_s 2 rfl ?_
            exact go_retz rfl rfl (by first | exact Or.inl rfl | exact Or.inr rfl | exact zb_01) (am_qi q (by simp_all [am_brs, zb]) (by rfl))
          · refine go_s 1 rfl ?_
            exact go_retz rfl rfl (by first | exact Or.inl rfl | exact Or.inr rfl | exact zb_01) (am_qi q (by simp_all [am_brs, zb]) (by rfl))
        · refine go_if (fun c1_4 => ?_) (fun c1_4 => ?_)
          · refine go_s 3 rfl ?_
            refine go_if (fun c68 => ?_) (fun c68 => ?_)
            · refine go_s 2 rfl ?_
              exact go_retz rfl rfl (by first | exact Or.inl rfl | exact Or.inr rfl | exact zb_01) (am_qi q (by simp_all [am_brs, zb]) (by rfl))
            · refine go_s 1 rfl ?_
              exact go_retz rfl rfl (by first | exact Or.inl rfl | exact Or.inr rfl | exact zb_01) (am_qi q (by simp_all [am_brs, zb]) (by rfl))
          · refine go_if (fun c1_5 => ?_) (fun c1_5 => ?_)
            · refine go_s 3 rfl ?_
              refine go_if (fun c79 => ?_) (fun c79 => ?_)
              · refine go_s 1 rfl ?_
                exact go_retz rfl rfl (by first | exact Or.inl rfl | exact Or.inr rfl | exact zb_01) (am_qi q (by simp_all [am_brs, zb]) (by rfl))
              · refine go_s 2 rfl ?_
                exact go_retz rfl rfl (by first | exact Or.inl rfl | exact Or.inr rfl | exact zb_01) (am_qi q (by simp_all [am_brs, zb]) (by rfl))
            · refine go_if (fun c1_6 => ?_) (fun c1_6 => ?_)
              · refine go_s 2 rfl ?_
                refine go_st kX8_branches_90 okX8_isBelow rfl rfl rfl (Nat.zero_le _) (Nat.zero_le _) ?_
                refine c_X8_isBelow ?_
                exact go_retz rfl rfl (by first | exact Or.inl rfl | exact Or.inr rfl | exact zb_01) (am_qi q (by simp_all [am_brs, zb]) (by rfl))
              · refine go_s 2 rfl ?_
                refine go_st kX8_branches_96 okX8_isBelow rfl rfl rfl (Nat.zero_le _) (Nat.zero_le _) ?_
                refine c_X8_isBelow ?_
                refine go_s 1 rfl ?_
                refine go_if (fun c99 => ?_) (fun c99 => ?_)
                · refine go_s 2 rfl ?_
                  exact go_retz rfl rfl (by first | exact Or.inl rfl | exact Or.inr rfl | exact zb_01) (am_qi q (by simp_all [am_brs, zb]) (by rfl))
                · refine go_s 1 rfl ?_
                  exact go_retz rfl rfl (by first | exact Or.inl rfl | exact Or.inr rfl | exact zb_01) (am_qi q (by simp_all [am_brs, zb]) (by rfl))
theorem c_X8_registersWord {D : Nat → Nat → Int32} {e : am_E} {kc ks : Nat} {Q : am_Q} {n a b c : Int32}  (q : Q (some (.int ((if am_othz n = 0 then 0 else 1073741824) ||| c <<< (20 : Int32) ||| b <<< (15 : Int32) ||| am_sel n <<< (12 : Int32) ||| a <<< (7 : Int32) ||| (51 : Int32)))) (hp D e)) : am_Go (mX8_registersWord, 0, am_ent mX8_registersWord [.int n, .int a, .int b, .int c], [], hp D e, kc, ks, Q) := by
  refine go_s 1 rfl ?_
  refine go_st kX8_registersWord_1 okX8_isOther rfl rfl rfl (Nat.zero_le _) (Nat.zero_le _) ?_
  refine c_X8_isOther ?_
  refine go_s 1 rfl ?_
  refine go_if (fun c4 => ?_) (fun c4 => ?_)
  · refine go_s 12 rfl ?_
    refine go_st kX8_registersWord_28 okX8_selectorOf rfl rfl rfl (Nat.zero_le _) (Nat.zero_le _) ?_
    refine c_X8_selectorOf ?_
    refine go_s 9 rfl ?_
    exact go_ret rfl rfl (am_qi q (by first | (rw [if_neg c4]; rfl) | (rw [if_pos c4]; rfl)) (by rfl))
  · refine go_s 13 rfl ?_
    refine go_st kX8_registersWord_28 okX8_selectorOf rfl rfl rfl (Nat.zero_le _) (Nat.zero_le _) ?_
    refine c_X8_selectorOf ?_
    refine go_s 9 rfl ?_
    exact go_ret rfl rfl (am_qi q (by first | (rw [if_neg c4]; rfl) | (rw [if_pos c4]; rfl)) (by rfl))
theorem c_X8_immediateWord {D : Nat → Nat → Int32} {e : am_E} {kc ks : Nat} {Q : am_Q} {n a b c : Int32}  (q : Q (some (.int ((if am_othz n = 0 then 0 else 1073741824) ||| c <<< (20 : Int32) ||| b <<< (15 : Int32) ||| am_sel n <<< (12 : Int32) ||| a <<< (7 : Int32) ||| (19 : Int32)))) (hp D e)) : am_Go (mX8_immediateWord, 0, am_ent mX8_immediateWord [.int n, .int a, .int b, .int c], [], hp D e, kc, ks, Q) := by
  refine go_s 1 rfl ?_
  refine go_st kX8_immediateWord_1 okX8_isOther rfl rfl rfl (Nat.zero_le _) (Nat.zero_le _) ?_
  refine c_X8_isOther ?_
  refine go_s 1 rfl ?_
  refine go_if (fun c4 => ?_) (fun c4 => ?_)
  · refine go_s 12 rfl ?_
    refine go_st kX8_immediateWord_28 okX8_selectorOf rfl rfl rfl (Nat.zero_le _) (Nat.zero_le _) ?_
    refine c_X8_selectorOf ?_
    refine go_s 9 rfl ?_
    exact go_ret rfl rfl (am_qi q (by first | (rw [if_neg c4]; rfl) | (rw [if_pos c4]; rfl)) (by rfl))
  · refine go_s 13 rfl ?_
    refine go_st kX8_immediateWord_28 okX8_selectorOf rfl rfl rfl (Nat.zero_le _) (Nat.zero_le _) ?_
    refine c_X8_selectorOf ?_
    refine go_s 9 rfl ?_
    exact go_ret rfl rfl (am_qi q (by first | (rw [if_neg c4]; rfl) | (rw [if_pos c4]; rfl)) (by rfl))
theorem c_X8_branchWord {D : Nat → Nat → Int32} {e : am_E} {kc ks : Nat} {Q : am_Q} {n a b o : Int32}  (q : Q (some (.int (((o >>> (12 : Int32) &&& (1 : Int32)) <<< (31 : Int32) ||| (o >>> (5 : Int32) &&& (63 : Int32)) <<< (25 : Int32)) ||| b <<< (20 : Int32) ||| a <<< (15 : Int32) ||| am_sel n <<< (12 : Int32) ||| ((o >>> (1 : Int32) &&& (15 : Int32)) <<< (8 : Int32) ||| (o >>> (11 : Int32) &&& (1 : Int32)) <<< (7 : Int32)) ||| (99 : Int32)))) (hp D e)) : am_Go (mX8_branchWord, 0, am_ent mX8_branchWord [.int n, .int a, .int b, .int o], [], hp D e, kc, ks, Q) := by
  refine go_s 42 rfl ?_
  refine go_st kX8_branchWord_55 okX8_selectorOf rfl rfl rfl (Nat.zero_le _) (Nat.zero_le _) ?_
  refine c_X8_selectorOf ?_
  refine go_s 7 rfl ?_
  exact go_ret rfl rfl (am_qi q (by rfl) (by rfl))
end
section
theorem c_X5_functions {D : Nat → Nat → Int32} {e : am_E} {kc ks : Nat} {Q : am_Q}   (q : Q (some (.int (D 1 5))) (hp D e)) : am_Go (mX5_functions, 0, am_ent mX5_functions [.ref 1], [], hp D e, kc, ks, Q) := by
  refine go_s 2 rfl ?_
  exact go_ret rfl rfl (am_qi q (by rfl) (by rfl))
theorem c_X5_size {D : Nat → Nat → Int32} {e : am_E} {kc ks : Nat} {Q : am_Q}   (q : Q (some (.int (D 1 6))) (hp D e)) : am_Go (mX5_size, 0, am_ent mX5_size [.ref 1], [], hp D e, kc, ks, Q) := by
  refine go_s 2 rfl ?_
  exact go_ret rfl rfl (am_qi q (by rfl) (by rfl))
theorem c_X5_changes {D : Nat → Nat → Int32} {e : am_E} {kc ks : Nat} {Q : am_Q}   (q : Q (some (.int (D 1 7))) (hp D e)) : am_Go (mX5_changes, 0, am_ent mX5_changes [.ref 1], [], hp D e, kc, ks, Q) := by
  refine go_s 2 rfl ?_
  exact go_ret rfl rfl (am_qi q (by rfl) (by rfl))
theorem c_X5_hasFunction {D : Nat → Nat → Int32} {e : am_E} {kc ks : Nat} {Q : am_Q} {f : Int32}  (q : Q (some (.int (zb (0 ≤ f ∧ f < D 1 5)))) (hp D e)) : am_Go (mX5_hasFunction, 0, am_ent mX5_hasFunction [.ref 1, .int f], [], hp D e, kc, ks, Q) := by
  refine go_s 2 rfl ?_
  refine go_if (fun c1 => ?_) (fun c1 => ?_)
  · refine go_s 1 rfl ?_
    exact go_retz rfl rfl (by first | exact Or.inl rfl | exact Or.inr rfl | exact zb_01) (am_qi q (by simp_all [zb, hp, am_fv, am_k, am_kd, ← Int32.not_lt]) (by rfl))
  · refine go_s 4 rfl ?_
    refine go_if (fun c9 => ?_) (fun c9 => ?_)
    · refine go_s 2 rfl ?_
      exact go_retz rfl rfl (by first | exact Or.inl rfl | exact Or.inr rfl | exact zb_01) (am_qi q (by simp_all [zb, hp, am_fv, am_k, am_kd, ← Int32.not_lt]) (by rfl))
    · refine go_s 1 rfl ?_
      exact go_retz rfl rfl (by first | exact Or.inl rfl | exact Or.inr rfl | exact zb_01) (am_qi q (by simp_all [zb, hp, am_fv, am_k, am_kd, ← Int32.not_lt]) (by rfl))
theorem c_X5_hasSpot {D : Nat → Nat → Int32} {e : am_E} {kc ks : Nat} {Q : am_Q} {s : Int32}  (q : Q (some (.int (zb (0 ≤ s ∧ s < D 1 6)))) (hp D e)) : am_Go (mX5_hasSpot, 0, am_ent mX5_hasSpot [.ref 1, .int s], [], hp D e, kc, ks, Q) := by
  refine go_s 2 rfl ?_
  refine go_if (fun c1 => ?_) (fun c1 => ?_)
  · refine go_s 1 rfl ?_
    exact go_retz rfl rfl (by first | exact Or.inl rfl | exact Or.inr rfl | exact zb_01) (am_qi q (by simp_all [zb, hp, am_fv, am_k, am_kd, ← Int32.not_lt]) (by rfl))
  · refine go_s 4 rfl ?_
    refine go_if (fun c9 => ?_) (fun c9 => ?_)
    · refine go_s 2 rfl ?_
      exact go_retz rfl rfl (by first | exact Or.inl rfl | exact Or.inr rfl | exact zb_01) (am_qi q (by simp_all [zb, hp, am_fv, am_k, am_kd, ← Int32.not_lt]) (by rfl))
    · refine go_s 1 rfl ?_
      exact go_retz rfl rfl (by first | exact Or.inl rfl | exact Or.inr rfl | exact zb_01) (am_qi q (by simp_all [zb, hp, am_fv, am_k, am_kd, ← Int32.not_lt]) (by rfl))
theorem c_X5_startOf {D : Nat → Nat → Int32} {e : am_E} {kc ks : Nat} {Q : am_Q} {f : Int32} (hF : (D 1 5).toInt ≤ 24) (q : Q (some (.int (am_sta D f))) (hp D e)) : am_Go (mX5_startOf, 0, am_ent mX5_startOf [.ref 1, .int f], [], hp D e, kc, ks, Q) := by
  refine go_s 2 rfl ?_
  refine go_v kX5_startOf_2 okX5_hasFunction rfl rfl rfl rfl (Nat.zero_le _) (Nat.zero_le _) ?_
  refine c_X5_hasFunction ?_
  refine go_s 1 rfl ?_
  refine go_if (fun c5 => ?_) (fun c5 => ?_)
  · refine go_s 1 rfl ?_
    exact go_ret rfl rfl (am_qi q (by unfold am_sta; first | (rw [if_neg (zb_0.mp c5)]; rfl) | (rw [if_pos (zb_ne.mp c5)]; rfl)) (by rfl))
  · refine go_s 3 rfl ?_
    refine go_m rfl rfl (show vp_in _ 25 from vpl c5 (by omega)) ?_
    refine go_s 1 rfl ?_
    exact go_ret rfl rfl (am_qi q (by unfold am_sta; first | (rw [if_neg (zb_0.mp c5)]; rfl) | (rw [if_pos (zb_ne.mp c5)]; rfl)) (by rfl))
theorem c_X5_endOf {D : Nat → Nat → Int32} {e : am_E} {kc ks : Nat} {Q : am_Q} {f : Int32} (hF : (D 1 5).toInt ≤ 24) (q : Q (some (.int (am_end D f))) (hp D e)) : am_Go (mX5_endOf, 0, am_ent mX5_endOf [.ref 1, .int f], [], hp D e, kc, ks, Q) := by
  refine go_s 2 rfl ?_
  refine go_v kX5_endOf_2 okX5_hasFunction rfl rfl rfl rfl (Nat.zero_le _) (Nat.zero_le _) ?_
  refine c_X5_hasFunction ?_
  refine go_s 1 rfl ?_
  refine go_if (fun c5 => ?_) (fun c5 => ?_)
  · refine go_s 1 rfl ?_
    exact go_ret rfl rfl (am_qi q (by unfold am_end; first | (rw [if_neg (zb_0.mp c5)]; rfl) | (rw [if_pos (zb_ne.mp c5)]; rfl)) (by rfl))
  · refine go_s 5 rfl ?_
    refine go_m rfl rfl (show vp_in _ 25 from vpl1 c5 (by omega)) ?_
    refine go_s 1 rfl ?_
    exact go_ret rfl rfl (am_qi q (by unfold am_end; first | (rw [if_neg (zb_0.mp c5)]; rfl) | (rw [if_pos (zb_ne.mp c5)]; rfl)) (by rfl))
theorem c_X5_lengthOf {D : Nat → Nat → Int32} {e : am_E} {kc ks : Nat} {Q : am_Q} {f : Int32} (hF : (D 1 5).toInt ≤ 24) (q : Q (some (.int (am_lof D f))) (hp D e)) : am_Go (mX5_lengthOf, 0, am_ent mX5_lengthOf [.ref 1, .int f], [], hp D e, kc, ks, Q) := by
  refine go_s 2 rfl ?_
  refine go_v kX5_lengthOf_2 okX5_hasFunction rfl rfl rfl rfl (Nat.zero_le _) (Nat.zero_le _) ?_
  refine c_X5_hasFunction ?_
  refine go_s 1 rfl ?_
  refine go_if (fun c5 => ?_) (fun c5 => ?_)
  · refine go_s 1 rfl ?_
    exact go_ret rfl rfl (am_qi q (by unfold am_lof; first | (rw [if_neg (zb_0.mp c5)]; rfl) | (rw [if_pos (zb_ne.mp c5)]; rfl)) (by rfl))
  · refine go_s 5 rfl ?_
    refine go_m rfl rfl (show vp_in _ 25 from vpl1 c5 (by omega)) ?_
    refine go_s 3 rfl ?_
    refine go_m rfl rfl (show vp_in _ 25 from vpl c5 (by omega)) ?_
    refine go_s 2 rfl ?_
    exact go_ret rfl rfl (am_qi q (by unfold am_lof; first | (rw [if_neg (zb_0.mp c5)]; rfl) | (rw [if_pos (zb_ne.mp c5)]; rfl)) (by rfl))
theorem c_X5_numberAt {D : Nat → Nat → Int32} {e : am_E} {kc ks : Nat} {Q : am_Q} {s : Int32} (hS : (D 1 6).toInt ≤ 300) (q : Q (some (.int (am_num D s))) (hp D e)) : am_Go (mX5_numberAt, 0, am_ent mX5_numberAt [.ref 1, .int s], [], hp D e, kc, ks, Q) := by
  refine go_s 2 rfl ?_
  refine go_v kX5_numberAt_2 okX5_hasSpot rfl rfl rfl rfl (Nat.zero_le _) (Nat.zero_le _) ?_
  refine c_X5_hasSpot ?_
  refine go_s 1 rfl ?_
  refine go_if (fun c5 => ?_) (fun c5 => ?_)
  · refine go_s 1 rfl ?_
    exact go_ret rfl rfl (am_qi q (by unfold am_num; first | (rw [if_neg (zb_0.mp c5)]; rfl) | (rw [if_pos (zb_ne.mp c5)]; rfl)) (by rfl))
  · refine go_s 3 rfl ?_
    refine go_m rfl rfl (show vp_in _ 300 from vpl c5 (by omega)) ?_
    refine go_s 1 rfl ?_
    exact go_ret rfl rfl (am_qi q (by unfold am_num; first | (rw [if_neg (zb_0.mp c5)]; rfl) | (rw [if_pos (zb_ne.mp c5)]; rfl)) (by rfl))
theorem c_X5_aAt {D : Nat → Nat → Int32} {e : am_E} {kc ks : Nat} {Q : am_Q} {s : Int32} (hS : (D 1 6).toInt ≤ 300) (q : Q (some (.int (am_fa D s))) (hp D e)) : am_Go (mX5_aAt, 0, am_ent mX5_aAt [.ref 1, .int s], [], hp D e, kc, ks, Q) := by
  refine go_s 2 rfl ?_
  refine go_v kX5_aAt_2 okX5_hasSpot rfl rfl rfl rfl (Nat.zero_le _) (Nat.zero_le _) ?_
  refine c_X5_hasSpot ?_
  refine go_s 1 rfl ?_
  refine go_if (fun c5 => ?_) (fun c5 => ?_)
  · refine go_s 1 rfl ?_
    exact go_ret rfl rfl (am_qi q (by unfold am_fa; first | (rw [if_neg (zb_0.mp c5)]; rfl) | (rw [if_pos (zb_ne.mp c5)]; rfl)) (by rfl))
  · refine go_s 3 rfl ?_
    refine go_m rfl rfl (show vp_in _ 300 from vpl c5 (by omega)) ?_
    refine go_s 1 rfl ?_
    exact go_ret rfl rfl (am_qi q (by unfold am_fa; first | (rw [if_neg (zb_0.mp c5)]; rfl) | (rw [if_pos (zb_ne.mp c5)]; rfl)) (by rfl))
theorem c_X5_bAt {D : Nat → Nat → Int32} {e : am_E} {kc ks : Nat} {Q : am_Q} {s : Int32} (hS : (D 1 6).toInt ≤ 300) (q : Q (some (.int (am_fb D s))) (hp D e)) : am_Go (mX5_bAt, 0, am_ent mX5_bAt [.ref 1, .int s], [], hp D e, kc, ks, Q) := by
  refine go_s 2 rfl ?_
  refine go_v kX5_bAt_2 okX5_hasSpot rfl rfl rfl rfl (Nat.zero_le _) (Nat.zero_le _) ?_
  refine c_X5_hasSpot ?_
  refine go_s 1 rfl ?_
  refine go_if (fun c5 => ?_) (fun c5 => ?_)
  · refine go_s 1 rfl ?_
    exact go_ret rfl rfl (am_qi q (by unfold am_fb; first | (rw [if_neg (zb_0.mp c5)]; rfl) | (rw [if_pos (zb_ne.mp c5)]; rfl)) (by rfl))
  · refine go_s 3 rfl ?_
    refine go_m rfl rfl (show vp_in _ 300 from vpl c5 (by omega)) ?_
    refine go_s 1 rfl ?_
    exact go_ret rfl rfl (am_qi q (by unfold am_fb; first | (rw [if_neg (zb_0.mp c5)]; rfl) | (rw [if_pos (zb_ne.mp c5)]; rfl)) (by rfl))
theorem c_X5_cAt {D : Nat → Nat → Int32} {e : am_E} {kc ks : Nat} {Q : am_Q} {s : Int32} (hS : (D 1 6).toInt ≤ 300) (q : Q (some (.int (am_fc D s))) (hp D e)) : am_Go (mX5_cAt, 0, am_ent mX5_cAt [.ref 1, .int s], [], hp D e, kc, ks, Q) := by
  refine go_s 2 rfl ?_
  refine go_v kX5_cAt_2 okX5_hasSpot rfl rfl rfl rfl (Nat.zero_le _) (Nat.zero_le _) ?_
  refine c_X5_hasSpot ?_
  refine go_s 1 rfl ?_
  refine go_if (fun c5 => ?_) (fun c5 => ?_)
  · refine go_s 1 rfl ?_
    exact go_ret rfl rfl (am_qi q (by unfold am_fc; first | (rw [if_neg (zb_0.mp c5)]; rfl) | (rw [if_pos (zb_ne.mp c5)]; rfl)) (by rfl))
  · refine go_s 3 rfl ?_
    refine go_m rfl rfl (show vp_in _ 300 from vpl c5 (by omega)) ?_
    refine go_s 1 rfl ?_
    exact go_ret rfl rfl (am_qi q (by unfold am_fc; first | (rw [if_neg (zb_0.mp c5)]; rfl) | (rw [if_pos (zb_ne.mp c5)]; rfl)) (by rfl))
theorem c_X5_spotOf {D : Nat → Nat → Int32} {e : am_E} {kc ks : Nat} {Q : am_Q} {f p : Int32} (hF : (D 1 5).toInt ≤ 24) (q : Q (some (.int (am_spo D f p))) (hp D e)) : am_Go (mX5_spotOf, 0, am_ent mX5_spotOf [.ref 1, .int f, .int p], [], hp D e, kc, ks, Q) := by
  refine go_s 2 rfl ?_
  refine go_if (fun c1 => ?_) (fun c1 => ?_)
  · refine go_s 1 rfl ?_
    exact go_ret rfl rfl (am_qi q (by simp_all [am_spo, hp, am_fv, am_k, am_kd, ← Int32.not_lt]) (by rfl))
  · refine go_s 4 rfl ?_
    refine go_if (fun c9 => ?_) (fun c9 => ?_)
    · refine go_s 2 rfl ?_
      refine go_if (fun c13 => ?_) (fun c13 => ?_)
      · refine go_s 1 rfl ?_
        exact go_ret rfl rfl (am_qi q (by simp_all [am_spo, hp, am_fv, am_k, am_kd, ← Int32.not_lt]) (by rfl))
      · refine go_s 3 rfl ?_
        refine go_m rfl rfl (show vp_in _ 25 from vpn (y := D 1 5) (by assumption) (by assumption) (by omega)) ?_
        refine go_s 9 rfl ?_
        refine go_m rfl rfl (show vp_in _ 25 from vpn1 (y := D 1 5) (by assumption) (by assumption) (by omega)) ?_
        refine go_s 1 rfl ?_
        refine go_if (fun c36 => ?_) (fun c36 => ?_)
        · refine go_s 2 rfl ?_
          exact go_ret rfl rfl (am_qi q (by simp_all [am_spo, hp, am_fv, am_k, am_kd, ← Int32.not_lt]) (by rfl))
        · refine go_s 1 rfl ?_
          exact go_ret rfl rfl (am_qi q (by simp_all [am_spo, hp, am_fv, am_k, am_kd, ← Int32.not_lt]) (by rfl))
    · refine go_s 1 rfl ?_
      exact go_ret rfl rfl (am_qi q (by simp_all [am_spo, hp, am_fv, am_k, am_kd, ← Int32.not_lt]) (by rfl))
theorem c_X5_placeTold {D : Nat → Nat → Int32} {e : am_E} {kc ks : Nat} {Q : am_Q} {s : Int32} (hS : (D 1 6).toInt ≤ 300) (q : Q (some (.int (am_pto D s))) (hp D e)) : am_Go (mX5_placeTold, 0, am_ent mX5_placeTold [.ref 1, .int s], [], hp D e, kc, ks, Q) := by
  refine go_s 2 rfl ?_
  refine go_v kX5_placeTold_2 okX5_numberAt rfl rfl rfl rfl (Nat.zero_le _) (Nat.zero_le _) ?_
  refine c_X5_numberAt hS ?_
  refine go_s 2 rfl ?_
  refine go_st kX5_placeTold_7 okX9_isBranch rfl rfl rfl (Nat.zero_le _) (Nat.zero_le _) ?_
  refine c_X9_isBranch ?_
  refine go_s 1 rfl ?_
  refine go_if (fun c10 => ?_) (fun c10 => ?_)
  · refine go_s 3 rfl ?_
    refine go_if (fun c22 => ?_) (fun c22 => ?_)
    · refine go_s 2 rfl ?_
      refine go_v kX5_placeTold_27 okX5_aAt rfl rfl rfl rfl (Nat.zero_le _) (Nat.zero_le _) ?_
      refine c_X5_aAt hS ?_
      refine go_s 1 rfl ?_
      exact go_ret rfl rfl (am_qi q (by unfold am_pto; first | exact ((if_neg (zb_0.mp c10)).trans (if_pos c22)).symm | exact ((if_neg (zb_0.mp c10)).trans (if_neg c22)).symm | exact (if_pos (zb_ne.mp c10)).symm) (by rfl))
    · refine go_s 1 rfl ?_
      exact go_ret rfl rfl (am_qi q (by unfold am_pto; first | exact ((if_neg (zb_0.mp c10)).trans (if_pos c22)).symm | exact ((if_neg (zb_0.mp c10)).trans (if_neg c22)).symm | exact (if_pos (zb_ne.mp c10)).symm) (by rfl))
  · refine go_s 2 rfl ?_
    refine go_v kX5_placeTold_15 okX5_cAt rfl rfl rfl rfl (Nat.zero_le _) (Nat.zero_le _) ?_
    refine c_X5_cAt hS ?_
    exact go_ret rfl rfl (am_qi q (by unfold am_pto; first | exact ((if_neg (zb_0.mp c10)).trans (if_pos c22)).symm | exact ((if_neg (zb_0.mp c10)).trans (if_neg c22)).symm | exact (if_pos (zb_ne.mp c10)).symm) (by rfl))
theorem c_X5_functionTold {D : Nat → Nat → Int32} {e : am_E} {kc ks : Nat} {Q : am_Q} {s : Int32} (hS : (D 1 6).toInt ≤ 300) (q : Q (some (.int (am_fto D s))) (hp D e)) : am_Go (mX5_functionTold, 0, am_ent mX5_functionTold [.ref 1, .int s], [], hp D e, kc, ks, Q) := by
  refine go_s 2 rfl ?_
  refine go_v kX5_functionTold_2 okX5_numberAt rfl rfl rfl rfl (Nat.zero_le _) (Nat.zero_le _) ?_
  refine c_X5_numberAt hS ?_
  refine go_s 2 rfl ?_
  refine go_st kX5_functionTold_7 okX9_isCallOrTail rfl rfl rfl (Nat.zero_le _) (Nat.zero_le _) ?_
  refine c_X9_isCallOrTail ?_
  refine go_s 1 rfl ?_
  refine go_if (fun c10 => ?_) (fun c10 => ?_)
  · refine go_s 3 rfl ?_
    refine go_if (fun c22 => ?_) (fun c22 => ?_)
    · refine go_s 2 rfl ?_
      refine go_v kX5_functionTold_27 okX5_bAt rfl rfl rfl rfl (Nat.zero_le _) (Nat.zero_le _) ?_
      refine c_X5_bAt hS ?_
      refine go_s 1 rfl ?_
      exact go_ret rfl rfl (am_qi q (by unfold am_fto; first | exact ((if_neg (zb_0.mp c10)).trans (if_pos c22)).symm | exact ((if_neg (zb_0.mp c10)).trans (if_neg c22)).symm | exact (if_pos (zb_ne.mp c10)).symm) (by rfl))
    · refine go_s 1 rfl ?_
      exact go_ret rfl rfl (am_qi q (by unfold am_fto; first | exact ((if_neg (zb_0.mp c10)).trans (if_pos c22)).symm | exact ((if_neg (zb_0.mp c10)).trans (if_neg c22)).symm | exact (if_pos (zb_ne.mp c10)).symm) (by rfl))
  · refine go_s 2 rfl ?_
    refine go_v kX5_functionTold_15 okX5_aAt rfl rfl rfl rfl (Nat.zero_le _) (Nat.zero_le _) ?_
    refine c_X5_aAt hS ?_
    exact go_ret rfl rfl (am_qi q (by unfold am_fto; first | exact ((if_neg (zb_0.mp c10)).trans (if_pos c22)).symm | exact ((if_neg (zb_0.mp c10)).trans (if_neg c22)).symm | exact (if_pos (zb_ne.mp c10)).symm) (by rfl))
theorem c_X5_isSame {D : Nat → Nat → Int32} {e : am_E} {kc ks : Nat} {Q : am_Q} {s t : Int32} (hS : (D 1 6).toInt ≤ 300) (q : Q (some (.int (zb ((0 ≤ s ∧ s < D 1 6) ∧ (0 ≤ t ∧ t < D 1 6) ∧ D 2 s.toNatClampNeg = D 2 t.toNatClampNeg ∧ D 3 s.toNatClampNeg = D 3 t.toNatClampNeg ∧ D 4 s.toNatClampNeg = D 4 t.toNatClampNeg ∧ D 5 s.toNatClampNeg = D 5 t.toNatClampNeg)))) (hp D e)) : am_Go (mX5_isSame, 0, am_ent mX5_isSame [.ref 1, .int s, .int t], [], hp D e, kc, ks, Q) := by
  refine go_s 2 rfl ?_
  refine go_v kX5_isSame_2 okX5_hasSpot rfl rfl rfl rfl (Nat.zero_le _) (Nat.zero_le _) ?_
  refine c_X5_hasSpot ?_
  refine go_s 1 rfl ?_
  refine go_if (fun c5 => ?_) (fun c5 => ?_)
  · refine go_s 1 rfl ?_
    exact go_retz rfl rfl (by first | exact Or.inl rfl | exact Or.inr rfl | exact zb_01) (am_qi q (by first | exact (zb_f (fun z => zb_0.mp c5 z.1)).symm | exact (zb_f (fun z => zb_0.mp c13 z.2.1)).symm | (simp_all [zb, hp]; done)) (by rfl))
  · refine go_s 2 rfl ?_
    refine go_v kX5_isSame_10 okX5_hasSpot rfl rfl rfl rfl (Nat.zero_le _) (Nat.zero_le _) ?_
    refine c_X5_hasSpot ?_
    refine go_s 1 rfl ?_
    refine go_if (fun c13 => ?_) (fun c13 => ?_)
    · refine go_s 1 rfl ?_
      exact go_retz rfl rfl (by first | exact Or.inl rfl | exact Or.inr rfl | exact zb_01) (am_qi q (by first | exact (zb_f (fun z => zb_0.mp c5 z.1)).symm | exact (zb_f (fun z => zb_0.mp c13 z.2.1)).symm | (simp_all [zb, hp]; done)) (by rfl))
    · refine go_s 3 rfl ?_
      refine go_m rfl rfl (show vp_in _ 300 from vpl c5 (by omega)) ?_
      refine go_s 3 rfl ?_
      refine go_m rfl rfl (show vp_in _ 300 from vpl c13 (by omega)) ?_
      refine go_s 1 rfl ?_
      refine go_if (fun c28 => ?_) (fun c28 => ?_)
      · refine go_s 3 rfl ?_
        refine go_m rfl rfl (show vp_in _ 300 from vpl c5 (by omega)) ?_
        refine go_s 3 rfl ?_
        refine go_m rfl rfl (show vp_in _ 300 from vpl c13 (by omega)) ?_
        refine go_s 1 rfl ?_
        refine go_if (fun c43 => ?_) (fun c43 => ?_)
        · refine go_s 3 rfl ?_
          refine go_m rfl rfl (show vp_in _ 300 from vpl c5 (by omega)) ?_
          refine go_s 3 rfl ?_
          refine go_m rfl rfl (show vp_in _ 300 from vpl c13 (by omega)) ?_
          refine go_s 1 rfl ?_
          refine go_if (fun c58 => ?_) (fun c58 => ?_)
          · refine go_s 3 rfl ?_
            refine go_m rfl rfl (show vp_in _ 300 from vpl c5 (by omega)) ?_
            refine go_s 3 rfl ?_
            refine go_m rfl rfl (show vp_in _ 300 from vpl c13 (by omega)) ?_
            refine go_s 1 rfl ?_
            refine go_if (fun c73 => ?_) (fun c73 => ?_)
            · refine go_s 2 rfl ?_
              exact go_retz rfl rfl (by first | exact Or.inl rfl | exact Or.inr rfl | exact zb_01) (am_qi q (by first | exact (zb_f (fun z => zb_0.mp c5 z.1)).symm | exact (zb_f (fun z => zb_0.mp c13 z.2.1)).symm | (simp_all [zb, hp]; done)) (by rfl))
            · refine go_s 1 rfl ?_
              exact go_retz rfl rfl (by first | exact Or.inl rfl | exact Or.inr rfl | exact zb_01) (am_qi q (by first | exact (zb_f (fun z => zb_0.mp c5 z.1)).symm | exact (zb_f (fun z => zb_0.mp c13 z.2.1)).symm | (simp_all [zb, hp]; done)) (by rfl))
          · refine go_s 1 rfl ?_
            exact go_retz rfl rfl (by first | exact Or.inl rfl | exact Or.inr rfl | exact zb_01) (am_qi q (by first | exact (zb_f (fun z => zb_0.mp c5 z.1)).symm | exact (zb_f (fun z => zb_0.mp c13 z.2.1)).symm | (simp_all [zb, hp]; done)) (by rfl))
        · refine go_s 1 rfl ?_
          exact go_retz rfl rfl (by first | exact Or.inl rfl | exact Or.inr rfl | exact zb_01) (am_qi q (by first | exact (zb_f (fun z => zb_0.mp c5 z.1)).symm | exact (zb_f (fun z => zb_0.mp c13 z.2.1)).symm | (simp_all [zb, hp]; done)) (by rfl))
      · refine go_s 1 rfl ?_
        exact go_retz rfl rfl (by first | exact Or.inl rfl | exact Or.inr rfl | exact zb_01) (am_qi q (by first | exact (zb_f (fun z => zb_0.mp c5 z.1)).symm | exact (zb_f (fun z => zb_0.mp c13 z.2.1)).symm | (simp_all [zb, hp]; done)) (by rfl))
theorem c_X5_mixAt {D : Nat → Nat → Int32} {e : am_E} {kc ks : Nat} {Q : am_Q} {s : Int32} (hS : (D 1 6).toInt ≤ 300) (q : Q (some (.int (if 0 ≤ s ∧ s < D 1 6 then (D 2 s.toNatClampNeg * 7 + D 3 s.toNatClampNeg * 13 + D 4 s.toNatClampNeg * 31 + D 5 s.toNatClampNeg * 67) &&& 255 else 0))) (hp D e)) : am_Go (mX5_mixAt, 0, am_ent mX5_mixAt [.ref 1, .int s], [], hp D e, kc, ks, Q) := by
  refine go_s 2 rfl ?_
  refine go_v kX5_mixAt_2 okX5_hasSpot rfl rfl rfl rfl (Nat.zero_le _) (Nat.zero_le _) ?_
  refine c_X5_hasSpot ?_
  refine go_s 1 rfl ?_
  refine go_if (fun c5 => ?_) (fun c5 => ?_)
  · refine go_s 1 rfl ?_
    exact go_ret rfl rfl (am_qi q (by first | exact (if_pos (zb_ne.mp c5)).symm | exact (if_neg (zb_0.mp c5)).symm) (by rfl))
  · refine go_s 3 rfl ?_
    refine go_m rfl rfl (show vp_in _ 300 from vpl c5 (by omega)) ?_
    refine go_s 5 rfl ?_
    refine go_m rfl rfl (show vp_in _ 300 from vpl c5 (by omega)) ?_
    refine go_s 6 rfl ?_
    refine go_m rfl rfl (show vp_in _ 300 from vpl c5 (by omega)) ?_
    refine go_s 6 rfl ?_
    refine go_m rfl rfl (show vp_in _ 300 from vpl c5 (by omega)) ?_
    refine go_s 5 rfl ?_
    exact go_ret rfl rfl (am_qi q (by first | exact (if_pos (zb_ne.mp c5)).symm | exact (if_neg (zb_0.mp c5)).symm) (by rfl))
theorem c_X5_namesReturnRegister {D : Nat → Nat → Int32} {e : am_E} {kc ks : Nat} {Q : am_Q} {s : Int32} (hS : (D 1 6).toInt ≤ 300) (q : Q (some (.int (zb ((am_kA (am_num D s) = 1 ∧ am_fa D s = 1) ∨ (am_kB (am_num D s) = 1 ∧ am_fb D s = 1) ∨ (am_kC (am_num D s) = 1 ∧ am_fc D s = 1))))) (hp D e)) : am_Go (mX5_namesReturnRegister, 0, am_ent mX5_namesReturnRegister [.ref 1, .int s], [], hp D e, kc, ks, Q) := by
  refine go_s 2 rfl ?_
  refine go_v kX5_namesReturnRegister_2 okX5_numberAt rfl rfl rfl rfl (Nat.zero_le _) (Nat.zero_le _) ?_
  refine c_X5_numberAt hS ?_
  refine go_s 2 rfl ?_
  refine go_st kX5_namesReturnRegister_7 okX9_kindOfA rfl rfl rfl (Nat.zero_le _) (Nat.zero_le _) ?_
  refine c_X9_kindOfA ?_
  refine go_s 2 rfl ?_
  refine go_v kX5_namesReturnRegister_12 okX5_aAt rfl rfl rfl rfl (Nat.zero_le _) (Nat.zero_le _) ?_
  refine c_X5_aAt hS ?_
  refine go_st kX5_namesReturnRegister_15 okX9_isReturnRegister rfl rfl rfl (Nat.zero_le _) (Nat.zero_le _) ?_
  refine c_X9_isReturnRegister ?_
  refine go_s 1 rfl ?_
  refine go_if (fun c18 => ?_) (fun c18 => ?_)
  · refine go_s 1 rfl ?_
    refine go_st kX5_namesReturnRegister_22 okX9_kindOfB rfl rfl rfl (Nat.zero_le _) (Nat.zero_le _) ?_
    refine c_X9_kindOfB ?_
    refine go_s 2 rfl ?_
    refine go_v kX5_namesReturnRegister_27 okX5_bAt rfl rfl rfl rfl (Nat.zero_le _) (Nat.zero_le _) ?_
    refine c_X5_bAt hS ?_
    refine go_st kX5_namesReturnRegister_30 okX9_isReturnRegister rfl rfl rfl (Nat.zero_le _) (Nat.zero_le _) ?_
    refine c_X9_isReturnRegister ?_
    refine go_s 1 rfl ?_
    refine go_if (fun c33 => ?_) (fun c33 => ?_)
    · refine go_s 1 rfl ?_
      refine go_st kX5_namesReturnRegister_37 okX9_kindOfC rfl rfl rfl (Nat.zero_le _) (Nat.zero_le _) ?_
      refine c_X9_kindOfC ?_
      refine go_s 2 rfl ?_
      refine go_v kX5_namesReturnRegister_42 okX5_cAt rfl rfl rfl rfl (Nat.zero_le _) (Nat.zero_le _) ?_
      refine c_X5_cAt hS ?_
      refine go_st kX5_namesReturnRegister_45 okX9_isReturnRegister rfl rfl rfl (Nat.zero_le _) (Nat.zero_le _) ?_
      refine c_X9_isReturnRegister ?_
      refine go_s 1 rfl ?_
      refine go_if (fun c48 => ?_) (fun c48 => ?_)
      · refine go_s 1 rfl ?_
        exact go_retz rfl rfl (by first | exact Or.inl rfl | exact Or.inr rfl | exact zb_01) (am_qi q (by simp_all [zb, am_kA, am_kB, am_kC]) (by rfl))
      · refine go_s 2 rfl ?_
        exact go_retz rfl rfl (by first | exact Or.inl rfl | exact Or.inr rfl | exact zb_01) (am_qi q (by simp_all [zb, am_kA, am_kB, am_kC]) (by rfl))
    · refine go_s 2 rfl ?_
      exact go_retz rfl rfl (by first | exact Or.inl rfl | exact Or.inr rfl | exact zb_01) (am_qi q (by simp_all [zb, am_kA, am_kB, am_kC]) (by rfl))
  · refine go_s 2 rfl ?_
    exact go_retz rfl rfl (by first | exact Or.inl rfl | exact Or.inr rfl | exact zb_01) (am_qi q (by simp_all [zb, am_kA, am_kB, am_kC]) (by rfl))
theorem c_X5_hasRoomFor {D : Nat → Nat → Int32} {e : am_E} {kc ks : Nat} {Q : am_Q} {f : Int32} (hF : (D 1 5).toInt ≤ 24) (q : Q (some (.int (zb ((0 ≤ f ∧ f < D 1 5) ∧ am_lof D f < 40 ∧ D 1 6 < 300)))) (hp D e)) : am_Go (mX5_hasRoomFor, 0, am_ent mX5_hasRoomFor [.ref 1, .int f], [], hp D e, kc, ks, Q) := by
  refine go_s 2 rfl ?_
  refine go_v kX5_hasRoomFor_2 okX5_hasFunction rfl rfl rfl rfl (Nat.zero_le _) (Nat.zero_le _) ?_
  refine c_X5_hasFunction ?_
  refine go_s 1 rfl ?_
  refine go_if (fun c5 => ?_) (fun c5 => ?_)
  · refine go_s 1 rfl ?_
    exact go_retz rfl rfl (by first | exact Or.inl rfl | exact Or.inr rfl | exact zb_01) (am_qi q (by simp_all [zb, hp, am_fv, am_k, am_kd, ← Int32.not_lt]) (by rfl))
  · refine go_s 2 rfl ?_
    refine go_v kX5_hasRoomFor_10 okX5_lengthOf rfl rfl rfl rfl (Nat.zero_le _) (Nat.zero_le _) ?_
    refine c_X5_lengthOf hF ?_
    refine go_s 2 rfl ?_
    refine go_if (fun c15 => ?_) (fun c15 => ?_)
    · refine go_s 4 rfl ?_
      refine go_if (fun c25 => ?_) (fun c25 => ?_)
      · refine go_s 2 rfl ?_
        exact go_retz rfl rfl (by first | exact Or.inl rfl | exact Or.inr rfl | exact zb_01) (am_qi q (by simp_all [zb, hp, am_fv, am_k, am_kd, ← Int32.not_lt]) (by rfl))
      · refine go_s 1 rfl ?_
        exact go_retz rfl rfl (by first | exact Or.inl rfl | exact Or.inr rfl | exact zb_01) (am_qi q (by simp_all [zb, hp, am_fv, am_k, am_kd, ← Int32.not_lt]) (by rfl))
    · refine go_s 1 rfl ?_
      exact go_retz rfl rfl (by first | exact Or.inl rfl | exact Or.inr rfl | exact zb_01) (am_qi q (by simp_all [zb, hp, am_fv, am_k, am_kd, ← Int32.not_lt]) (by rfl))
theorem c_X5_drop {D : Nat → Nat → Int32} {e : am_E} {kc ks : Nat} {Q : am_Q}   (q : Q (some (.int (D 1 5))) (hp (am_u (am_u (am_u D 1 5 0) 1 6 0) 1 7 (D 1 7 + 1)) e)) : am_Go (mX5_drop, 0, am_ent mX5_drop [.ref 1], [], hp D e, kc, ks, Q) := by
  refine go_s 16 rfl ?_
  exact go_ret rfl rfl (am_qi q (by rfl) (by exact am_hD (by funext i j; simp [am_u, hp, am_fv, am_k, am_kd])))
end
section
theorem c_X1_drop {D : Nat → Nat → Int32} {e : am_E} {kc ks : Nat} {Q : am_Q}   (q : Q none (hp (am_u (am_u D 11 3 0) 11 4 0) e)) : am_Go (mX1_drop, 0, am_ent mX1_drop [.ref 11], [], hp D e, kc, ks, Q) := by
  refine go_s 6 rfl ?_
  exact go_retv rfl rfl (am_qv q (by rfl))
theorem c_X1_size {D : Nat → Nat → Int32} {e : am_E} {kc ks : Nat} {Q : am_Q}   (q : Q (some (.int (D 11 3))) (hp D e)) : am_Go (mX1_size, 0, am_ent mX1_size [.ref 11], [], hp D e, kc, ks, Q) := by
  refine go_s 2 rfl ?_
  exact go_ret rfl rfl (am_qi q (by rfl) (by rfl))
theorem c_X1_hasFunction {D : Nat → Nat → Int32} {e : am_E} {kc ks : Nat} {Q : am_Q} {f : Int32}  (q : Q (some (.int (zb (0 ≤ f ∧ f < D 11 4)))) (hp D e)) : am_Go (mX1_hasFunction, 0, am_ent mX1_hasFunction [.ref 11, .int f], [], hp D e, kc, ks, Q) := by
  refine go_s 2 rfl ?_
  refine go_if (fun c1 => ?_) (fun c1 => ?_)
  · refine go_s 1 rfl ?_
    exact go_retz rfl rfl (by first | exact Or.inl rfl | exact Or.inr rfl | exact zb_01) (am_qi q (by simp_all [zb, hp, am_fv, am_k, am_kd, ← Int32.not_lt]) (by rfl))
  · refine go_s 4 rfl ?_
    refine go_if (fun c9 => ?_) (fun c9 => ?_)
    · refine go_s 2 rfl ?_
      exact go_retz rfl rfl (by first | exact Or.inl rfl | exact Or.inr rfl | exact zb_01) (am_qi q (by simp_all [zb, hp, am_fv, am_k, am_kd, ← Int32.not_lt]) (by rfl))
    · refine go_s 1 rfl ?_
      exact go_retz rfl rfl (by first | exact Or.inl rfl | exact Or.inr rfl | exact zb_01) (am_qi q (by simp_all [zb, hp, am_fv, am_k, am_kd, ← Int32.not_lt]) (by rfl))
theorem c_X1_address {D : Nat → Nat → Int32} {e : am_E} {kc ks : Nat} {Q : am_Q} {i : Int32}  (q : Q (some (.int (4096 + 4 * i))) (hp D e)) : am_Go (mX1_address, 0, am_ent mX1_address [.int i], [], hp D e, kc, ks, Q) := by
  refine go_s 5 rfl ?_
  exact go_ret rfl rfl (am_qi q (by rfl) (by rfl))
theorem c_X1_setBody {D : Nat → Nat → Int32} {e : am_E} {kc ks : Nat} {Q : am_Q} {f b : Int32} (hI : (D 11 4).toInt ≤ 24) (q : Q none (hp (if 0 ≤ f ∧ f < D 11 4 then am_u D 13 f.toNatClampNeg b else D) e)) : am_Go (mX1_setBody, 0, am_ent mX1_setBody [.ref 11, .int f, .int b], [], hp D e, kc, ks, Q) := by
  refine go_s 2 rfl ?_
  refine go_v kX1_setBody_2 okX1_hasFunction rfl rfl rfl rfl (Nat.zero_le _) (Nat.zero_le _) ?_
  refine c_X1_hasFunction ?_
  refine go_s 1 rfl ?_
  refine go_if (fun c5 => ?_) (fun c5 => ?_)
  · exact go_retv rfl rfl (am_qv q (by first | exact am_hD (if_pos (zb_ne.mp c5)).symm | exact am_hD (if_neg (zb_0.mp c5)).symm))
  · refine go_s 4 rfl ?_
    refine go_m rfl rfl (show vp_in _ 24 from vpl c5 (by omega)) ?_
    exact go_retv rfl rfl (am_qv q (by first | exact am_hD (if_pos (zb_ne.mp c5)).symm | exact am_hD (if_neg (zb_0.mp c5)).symm))
theorem c_X1_setFirstWord {D : Nat → Nat → Int32} {e : am_E} {kc ks : Nat} {Q : am_Q} {f b : Int32} (hI : (D 11 4).toInt ≤ 24) (q : Q none (hp (if 0 ≤ f ∧ f < D 11 4 then am_u D 14 f.toNatClampNeg b else D) e)) : am_Go (mX1_setFirstWord, 0, am_ent mX1_setFirstWord [.ref 11, .int f, .int b], [], hp D e, kc, ks, Q) := by
  refine go_s 2 rfl ?_
  refine go_v kX1_setFirstWord_2 okX1_hasFunction rfl rfl rfl rfl (Nat.zero_le _) (Nat.zero_le _) ?_
  refine c_X1_hasFunction ?_
  refine go_s 1 rfl ?_
  refine go_if (fun c5 => ?_) (fun c5 => ?_)
  · exact go_retv rfl rfl (am_qv q (by first | exact am_hD (if_pos (zb_ne.mp c5)).symm | exact am_hD (if_neg (zb_0.mp c5)).symm))
  · refine go_s 4 rfl ?_
    refine go_m rfl rfl (show vp_in _ 24 from vpl c5 (by omega)) ?_
    exact go_retv rfl rfl (am_qv q (by first | exact am_hD (if_pos (zb_ne.mp c5)).symm | exact am_hD (if_neg (zb_0.mp c5)).symm))
theorem c_X1_bodyOf {D : Nat → Nat → Int32} {e : am_E} {kc ks : Nat} {Q : am_Q} {f : Int32} (hI : (D 11 4).toInt ≤ 24) (q : Q (some (.int (if 0 ≤ f ∧ f < D 11 4 then D 13 f.toNatClampNeg else -1))) (hp D e)) : am_Go (mX1_bodyOf, 0, am_ent mX1_bodyOf [.ref 11, .int f], [], hp D e, kc, ks, Q) := by
  refine go_s 2 rfl ?_
  refine go_v kX1_bodyOf_2 okX1_hasFunction rfl rfl rfl rfl (Nat.zero_le _) (Nat.zero_le _) ?_
  refine c_X1_hasFunction ?_
  refine go_s 1 rfl ?_
  refine go_if (fun c5 => ?_) (fun c5 => ?_)
  · refine go_s 1 rfl ?_
    exact go_ret rfl rfl (am_qi q (by first | exact (if_pos (zb_ne.mp c5)).symm | exact (if_neg (zb_0.mp c5)).symm) (by rfl))
  · refine go_s 3 rfl ?_
    refine go_m rfl rfl (show vp_in _ 24 from vpl c5 (by omega)) ?_
    refine go_s 1 rfl ?_
    exact go_ret rfl rfl (am_qi q (by first | exact (if_pos (zb_ne.mp c5)).symm | exact (if_neg (zb_0.mp c5)).symm) (by rfl))
theorem c_X1_firstWordOf {D : Nat → Nat → Int32} {e : am_E} {kc ks : Nat} {Q : am_Q} {f : Int32} (hI : (D 11 4).toInt ≤ 24) (q : Q (some (.int (if 0 ≤ f ∧ f < D 11 4 then D 14 f.toNatClampNeg else -1))) (hp D e)) : am_Go (mX1_firstWordOf, 0, am_ent mX1_firstWordOf [.ref 11, .int f], [], hp D e, kc, ks, Q) := by
  refine go_s 2 rfl ?_
  refine go_v kX1_firstWordOf_2 okX1_hasFunction rfl rfl rfl rfl (Nat.zero_le _) (Nat.zero_le _) ?_
  refine c_X1_hasFunction ?_
  refine go_s 1 rfl ?_
  refine go_if (fun c5 => ?_) (fun c5 => ?_)
  · refine go_s 1 rfl ?_
    exact go_ret rfl rfl (am_qi q (by first | exact (if_pos (zb_ne.mp c5)).symm | exact (if_neg (zb_0.mp c5)).symm) (by rfl))
  · refine go_s 3 rfl ?_
    refine go_m rfl rfl (show vp_in _ 24 from vpl c5 (by omega)) ?_
    refine go_s 1 rfl ?_
    exact go_ret rfl rfl (am_qi q (by first | exact (if_pos (zb_ne.mp c5)).symm | exact (if_neg (zb_0.mp c5)).symm) (by rfl))
theorem c_X1_addressOf {D : Nat → Nat → Int32} {e : am_E} {kc ks : Nat} {Q : am_Q} {f : Int32} (hI : (D 11 4).toInt ≤ 24) (q : Q (some (.int (if 0 ≤ f ∧ f < D 11 4 then 4096 + 4 * D 14 f.toNatClampNeg else -1))) (hp D e)) : am_Go (mX1_addressOf, 0, am_ent mX1_addressOf [.ref 11, .int f], [], hp D e, kc, ks, Q) := by
  refine go_s 2 rfl ?_
  refine go_v kX1_addressOf_2 okX1_hasFunction rfl rfl rfl rfl (Nat.zero_le _) (Nat.zero_le _) ?_
  refine c_X1_hasFunction ?_
  refine go_s 1 rfl ?_
  refine go_if (fun c5 => ?_) (fun c5 => ?_)
  · refine go_s 1 rfl ?_
    exact go_ret rfl rfl (am_qi q (by first | exact (if_pos (zb_ne.mp c5)).symm | exact (if_neg (zb_0.mp c5)).symm) (by rfl))
  · refine go_s 3 rfl ?_
    refine go_m rfl rfl (show vp_in _ 24 from vpl c5 (by omega)) ?_
    refine go_st kX1_addressOf_14 okX1_address rfl rfl rfl (Nat.zero_le _) (Nat.zero_le _) ?_
    refine c_X1_address ?_
    refine go_s 1 rfl ?_
    exact go_ret rfl rfl (am_qi q (by first | exact (if_pos (zb_ne.mp c5)).symm | exact (if_neg (zb_0.mp c5)).symm) (by rfl))
theorem c_X1_isBody {D : Nat → Nat → Int32} {e : am_E} {kc ks : Nat} {Q : am_Q} {f : Int32} (hI : (D 11 4).toInt ≤ 24) (q : Q (some (.int (zb ((0 ≤ f ∧ f < D 11 4) ∧ D 13 f.toNatClampNeg = f)))) (hp D e)) : am_Go (mX1_isBody, 0, am_ent mX1_isBody [.ref 11, .int f], [], hp D e, kc, ks, Q) := by
  refine go_s 2 rfl ?_
  refine go_v kX1_isBody_2 okX1_hasFunction rfl rfl rfl rfl (Nat.zero_le _) (Nat.zero_le _) ?_
  refine c_X1_hasFunction ?_
  refine go_s 1 rfl ?_
  refine go_if (fun c5 => ?_) (fun c5 => ?_)
  · refine go_s 1 rfl ?_
    exact go_retz rfl rfl (by first | exact Or.inl rfl | exact Or.inr rfl | exact zb_01) (am_qi q (by first | exact (zb_f (fun z => zb_0.mp c5 z.1)).symm | (simp_all [zb, hp]; done)) (by rfl))
  · refine go_s 3 rfl ?_
    refine go_m rfl rfl (show vp_in _ 24 from vpl c5 (by omega)) ?_
    refine go_s 2 rfl ?_
    refine go_if (fun c15 => ?_) (fun c15 => ?_)
    · refine go_s 2 rfl ?_
      exact go_retz rfl rfl (by first | exact Or.inl rfl | exact Or.inr rfl | exact zb_01) (am_qi q (by first | exact (zb_f (fun z => zb_0.mp c5 z.1)).symm | (simp_all [zb, hp]; done)) (by rfl))
    · refine go_s 1 rfl ?_
      exact go_retz rfl rfl (by first | exact Or.inl rfl | exact Or.inr rfl | exact zb_01) (am_qi q (by first | exact (zb_f (fun z => zb_0.mp c5 z.1)).symm | (simp_all [zb, hp]; done)) (by rfl))
theorem c_X1_wordAt {D : Nat → Nat → Int32} {e : am_E} {kc ks : Nat} {Q : am_Q} {i : Int32} (hW : (D 11 3).toInt ≤ 600) (q : Q (some (.int (if ¬ i < 0 ∧ i < D 11 3 then D 12 i.toNatClampNeg else 0))) (hp D e)) : am_Go (mX1_wordAt, 0, am_ent mX1_wordAt [.ref 11, .int i], [], hp D e, kc, ks, Q) := by
  refine go_s 2 rfl ?_
  refine go_if (fun c1 => ?_) (fun c1 => ?_)
  · refine go_s 1 rfl ?_
    exact go_ret rfl rfl (am_qi q (by simp_all [hp, am_fv, am_k, am_kd, ← Int32.not_lt]) (by rfl))
  · refine go_s 4 rfl ?_
    refine go_if (fun c9 => ?_) (fun c9 => ?_)
    · refine go_s 3 rfl ?_
      refine go_m rfl rfl (show vp_in _ 600 from vpn (y := D 11 3) (by assumption) (by assumption) (by omega)) ?_
      refine go_s 1 rfl ?_
      exact go_ret rfl rfl (am_qi q (by simp_all [hp, am_fv, am_k, am_kd, ← Int32.not_lt]) (by rfl))
    · refine go_s 1 rfl ?_
      exact go_ret rfl rfl (am_qi q (by simp_all [hp, am_fv, am_k, am_kd, ← Int32.not_lt]) (by rfl))
theorem c_X1_indexAt {D : Nat → Nat → Int32} {e : am_E} {kc ks : Nat} {Q : am_Q} {i : Int32}  (q : Q (some (.int (if i &&& (3 : Int32) = 0 ∧ ¬ (i - 4096) >>> (2 : Int32) < 0 ∧ (i - 4096) >>> (2 : Int32) < D 11 3 then (i - 4096) >>> (2 : Int32) else -1))) (hp D e)) : am_Go (mX1_indexAt, 0, am_ent mX1_indexAt [.ref 11, .int i], [], hp D e, kc, ks, Q) := by
  refine go_s 10 rfl ?_
  refine go_if (fun c11 => ?_) (fun c11 => ?_)
  · refine go_s 2 rfl ?_
    refine go_if (fun c15 => ?_) (fun c15 => ?_)
    · refine go_s 1 rfl ?_
      exact go_ret rfl rfl (am_qi q (by first | exact (if_pos ⟨by assumption, by assumption, by assumption⟩).symm | exact (if_neg (fun z => by first | exact absurd z.1 (by assumption) | exact absurd z.2.2 (by assumption) | exact absurd (by assumption) z.2.1)).symm) (by rfl))
    · refine go_s 4 rfl ?_
      refine go_if (fun c23 => ?_) (fun c23 => ?_)
      · refine go_s 2 rfl ?_
        exact go_ret rfl rfl (am_qi q (by first | exact (if_pos ⟨by assumption, by assumption, by assumption⟩).symm | exact (if_neg (fun z => by first | exact absurd z.1 (by assumption) | exact absurd z.2.2 (by assumption) | exact absurd (by assumption) z.2.1)).symm) (by rfl))
      · refine go_s 1 rfl ?_
        exact go_ret rfl rfl (am_qi q (by first | exact (if_pos ⟨by assumption, by assumption, by assumption⟩).symm | exact (if_neg (fun z => by first | exact absurd z.1 (by assumption) | exact absurd z.2.2 (by assumption) | exact absurd (by assumption) z.2.1)).symm) (by rfl))
  · refine go_s 1 rfl ?_
    exact go_ret rfl rfl (am_qi q (by first | exact (if_pos ⟨by assumption, by assumption, by assumption⟩).symm | exact (if_neg (fun z => by first | exact absurd z.1 (by assumption) | exact absurd z.2.2 (by assumption) | exact absurd (by assumption) z.2.1)).symm) (by rfl))
end
section
theorem c_X7_size {D : Nat → Nat → Int32} {e : am_E} {kc ks : Nat} {Q : am_Q}   (q : Q (some (.int (D 15 10))) (hp D e)) : am_Go (mX7_size, 0, am_ent mX7_size [.ref 15], [], hp D e, kc, ks, Q) := by
  refine go_s 2 rfl ?_
  exact go_ret rfl rfl (am_qi q (by rfl) (by rfl))
theorem c_X7_has {D : Nat → Nat → Int32} {e : am_E} {kc ks : Nat} {Q : am_Q} {k : Int32}  (q : Q (some (.int (zb (0 ≤ k ∧ k < D 15 10)))) (hp D e)) : am_Go (mX7_has, 0, am_ent mX7_has [.ref 15, .int k], [], hp D e, kc, ks, Q) := by
  refine go_s 2 rfl ?_
  refine go_if (fun c1 => ?_) (fun c1 => ?_)
  · refine go_s 1 rfl ?_
    exact go_retz rfl rfl (by first | exact Or.inl rfl | exact Or.inr rfl | exact zb_01) (am_qi q (by simp_all [zb, hp, am_fv, am_k, am_kd, ← Int32.not_lt]) (by rfl))
  · refine go_s 4 rfl ?_
    refine go_if (fun c9 => ?_) (fun c9 => ?_)
    · refine go_s 2 rfl ?_
      exact go_retz rfl rfl (by first | exact Or.inl rfl | exact Or.inr rfl | exact zb_01) (am_qi q (by simp_all [zb, hp, am_fv, am_k, am_kd, ← Int32.not_lt]) (by rfl))
    · refine go_s 1 rfl ?_
      exact go_retz rfl rfl (by first | exact Or.inl rfl | exact Or.inr rfl | exact zb_01) (am_qi q (by simp_all [zb, hp, am_fv, am_k, am_kd, ← Int32.not_lt]) (by rfl))
theorem c_X7_spotOf {D : Nat → Nat → Int32} {e : am_E} {kc ks : Nat} {Q : am_Q} {k : Int32} (hR : (D 15 10).toInt ≤ 60) (q : Q (some (.int (if 0 ≤ k ∧ k < D 15 10 then D 16 k.toNatClampNeg else -1))) (hp D e)) : am_Go (mX7_spotOf, 0, am_ent mX7_spotOf [.ref 15, .int k], [], hp D e, kc, ks, Q) := by
  refine go_s 2 rfl ?_
  refine go_v kX7_spotOf_2 okX7_has rfl rfl rfl rfl (Nat.zero_le _) (Nat.zero_le _) ?_
  refine c_X7_has ?_
  refine go_s 1 rfl ?_
  refine go_if (fun c5 => ?_) (fun c5 => ?_)
  · refine go_s 1 rfl ?_
    exact go_ret rfl rfl (am_qi q (by first | exact (if_pos (zb_ne.mp c5)).symm | exact (if_neg (zb_0.mp c5)).symm) (by rfl))
  · refine go_s 3 rfl ?_
    refine go_m rfl rfl (show vp_in _ 60 from vpl c5 (by omega)) ?_
    refine go_s 1 rfl ?_
    exact go_ret rfl rfl (am_qi q (by first | exact (if_pos (zb_ne.mp c5)).symm | exact (if_neg (zb_0.mp c5)).symm) (by rfl))
theorem c_X7_lengthOf {D : Nat → Nat → Int32} {e : am_E} {kc ks : Nat} {Q : am_Q} {k : Int32} (hR : (D 15 10).toInt ≤ 60) (q : Q (some (.int (if 0 ≤ k ∧ k < D 15 10 then D 17 k.toNatClampNeg else 0))) (hp D e)) : am_Go (mX7_lengthOf, 0, am_ent mX7_lengthOf [.ref 15, .int k], [], hp D e, kc, ks, Q) := by
  refine go_s 2 rfl ?_
  refine go_v kX7_lengthOf_2 okX7_has rfl rfl rfl rfl (Nat.zero_le _) (Nat.zero_le _) ?_
  refine c_X7_has ?_
  refine go_s 1 rfl ?_
  refine go_if (fun c5 => ?_) (fun c5 => ?_)
  · refine go_s 1 rfl ?_
    exact go_ret rfl rfl (am_qi q (by first | exact (if_pos (zb_ne.mp c5)).symm | exact (if_neg (zb_0.mp c5)).symm) (by rfl))
  · refine go_s 3 rfl ?_
    refine go_m rfl rfl (show vp_in _ 60 from vpl c5 (by omega)) ?_
    refine go_s 1 rfl ?_
    exact go_ret rfl rfl (am_qi q (by first | exact (if_pos (zb_ne.mp c5)).symm | exact (if_neg (zb_0.mp c5)).symm) (by rfl))
theorem c_X7_timesOf {D : Nat → Nat → Int32} {e : am_E} {kc ks : Nat} {Q : am_Q} {k : Int32} (hR : (D 15 10).toInt ≤ 60) (q : Q (some (.int (if 0 ≤ k ∧ k < D 15 10 then D 19 k.toNatClampNeg else 0))) (hp D e)) : am_Go (mX7_timesOf, 0, am_ent mX7_timesOf [.ref 15, .int k], [], hp D e, kc, ks, Q) := by
  refine go_s 2 rfl ?_
  refine go_v kX7_timesOf_2 okX7_has rfl rfl rfl rfl (Nat.zero_le _) (Nat.zero_le _) ?_
  refine c_X7_has ?_
  refine go_s 1 rfl ?_
  refine go_if (fun c5 => ?_) (fun c5 => ?_)
  · refine go_s 1 rfl ?_
    exact go_ret rfl rfl (am_qi q (by first | exact (if_pos (zb_ne.mp c5)).symm | exact (if_neg (zb_0.mp c5)).symm) (by rfl))
  · refine go_s 3 rfl ?_
    refine go_m rfl rfl (show vp_in _ 60 from vpl c5 (by omega)) ?_
    refine go_s 1 rfl ?_
    exact go_ret rfl rfl (am_qi q (by first | exact (if_pos (zb_ne.mp c5)).symm | exact (if_neg (zb_0.mp c5)).symm) (by rfl))
theorem c_X7_firstWordOf {D : Nat → Nat → Int32} {e : am_E} {kc ks : Nat} {Q : am_Q} {k : Int32} (hR : (D 15 10).toInt ≤ 60) (q : Q (some (.int (if 0 ≤ k ∧ k < D 15 10 then D 20 k.toNatClampNeg else -1))) (hp D e)) : am_Go (mX7_firstWordOf, 0, am_ent mX7_firstWordOf [.ref 15, .int k], [], hp D e, kc, ks, Q) := by
  refine go_s 2 rfl ?_
  refine go_v kX7_firstWordOf_2 okX7_has rfl rfl rfl rfl (Nat.zero_le _) (Nat.zero_le _) ?_
  refine c_X7_has ?_
  refine go_s 1 rfl ?_
  refine go_if (fun c5 => ?_) (fun c5 => ?_)
  · refine go_s 1 rfl ?_
    exact go_ret rfl rfl (am_qi q (by first | exact (if_pos (zb_ne.mp c5)).symm | exact (if_neg (zb_0.mp c5)).symm) (by rfl))
  · refine go_s 3 rfl ?_
    refine go_m rfl rfl (show vp_in _ 60 from vpl c5 (by omega)) ?_
    refine go_s 1 rfl ?_
    exact go_ret rfl rfl (am_qi q (by first | exact (if_pos (zb_ne.mp c5)).symm | exact (if_neg (zb_0.mp c5)).symm) (by rfl))
theorem c_X7_addressOf {D : Nat → Nat → Int32} {e : am_E} {kc ks : Nat} {Q : am_Q} {k : Int32} (hR : (D 15 10).toInt ≤ 60) (q : Q (some (.int (if 0 ≤ k ∧ k < D 15 10 then 4096 + 4 * D 20 k.toNatClampNeg else -1))) (hp D e)) : am_Go (mX7_addressOf, 0, am_ent mX7_addressOf [.ref 15, .int k], [], hp D e, kc, ks, Q) := by
  refine go_s 2 rfl ?_
  refine go_v kX7_addressOf_2 okX7_has rfl rfl rfl rfl (Nat.zero_le _) (Nat.zero_le _) ?_
  refine c_X7_has ?_
  refine go_s 1 rfl ?_
  refine go_if (fun c5 => ?_) (fun c5 => ?_)
  · refine go_s 1 rfl ?_
    exact go_ret rfl rfl (am_qi q (by first | exact (if_pos (zb_ne.mp c5)).symm | exact (if_neg (zb_0.mp c5)).symm) (by rfl))
  · refine go_s 3 rfl ?_
    refine go_m rfl rfl (show vp_in _ 60 from vpl c5 (by omega)) ?_
    refine go_st kX7_addressOf_14 okX1_address rfl rfl rfl (Nat.zero_le _) (Nat.zero_le _) ?_
    refine c_X1_address ?_
    refine go_s 1 rfl ?_
    exact go_ret rfl rfl (am_qi q (by first | exact (if_pos (zb_ne.mp c5)).symm | exact (if_neg (zb_0.mp c5)).symm) (by rfl))
theorem c_X7_savedBytes {D : Nat → Nat → Int32} {e : am_E} {kc ks : Nat} {Q : am_Q} {l t : Int32}  (q : Q (some (.int (4 * ((t - 1) * l - 1 - t)))) (hp D e)) : am_Go (mX7_savedBytes, 0, am_ent mX7_savedBytes [.int l, .int t], [], hp D e, kc, ks, Q) := by
  refine go_s 11 rfl ?_
  exact go_ret rfl rfl (am_qi q (by rfl) (by rfl))
theorem c_X7_savesOf {D : Nat → Nat → Int32} {e : am_E} {kc ks : Nat} {Q : am_Q} {k : Int32} (hR : (D 15 10).toInt ≤ 60) (q : Q (some (.int (if 0 ≤ k ∧ k < D 15 10 then 4 * ((D 19 k.toNatClampNeg - 1) * D 17 k.toNatClampNeg - 1 - D 19 k.toNatClampNeg) else 0))) (hp D e)) : am_Go (mX7_savesOf, 0, am_ent mX7_savesOf [.ref 15, .int k], [], hp D e, kc, ks, Q) := by
  refine go_s 2 rfl ?_
  refine go_v kX7_savesOf_2 okX7_has rfl rfl rfl rfl (Nat.zero_le _) (Nat.zero_le _) ?_
  refine c_X7_has ?_
  refine go_s 1 rfl ?_
  refine go_if (fun c5 => ?_) (fun c5 => ?_)
  · refine go_s 1 rfl ?_
    exact go_ret rfl rfl (am_qi q (by first | exact (if_pos (zb_ne.mp c5)).symm | exact (if_neg (zb_0.mp c5)).symm) (by rfl))
  · refine go_s 3 rfl ?_
    refine go_m rfl rfl (show vp_in _ 60 from vpl c5 (by omega)) ?_
    refine go_s 3 rfl ?_
    refine go_m rfl rfl (show vp_in _ 60 from vpl c5 (by omega)) ?_
    refine go_st kX7_savesOf_20 okX7_savedBytes rfl rfl rfl (Nat.zero_le _) (Nat.zero_le _) ?_
    refine c_X7_savedBytes ?_
    refine go_s 1 rfl ?_
    exact go_ret rfl rfl (am_qi q (by first | exact (if_pos (zb_ne.mp c5)).symm | exact (if_neg (zb_0.mp c5)).symm) (by rfl))
theorem c_X7_setFirstWord {D : Nat → Nat → Int32} {e : am_E} {kc ks : Nat} {Q : am_Q} {k b : Int32} (hR : (D 15 10).toInt ≤ 60) (q : Q none (hp (if 0 ≤ k ∧ k < D 15 10 then am_u D 20 k.toNatClampNeg b else D) e)) : am_Go (mX7_setFirstWord, 0, am_ent mX7_setFirstWord [.ref 15, .int k, .int b], [], hp D e, kc, ks, Q) := by
  refine go_s 2 rfl ?_
  refine go_v kX7_setFirstWord_2 okX7_has rfl rfl rfl rfl (Nat.zero_le _) (Nat.zero_le _) ?_
  refine c_X7_has ?_
  refine go_s 1 rfl ?_
  refine go_if (fun c5 => ?_) (fun c5 => ?_)
  · exact go_retv rfl rfl (am_qv q (by first | exact am_hD (if_pos (zb_ne.mp c5)).symm | exact am_hD (if_neg (zb_0.mp c5)).symm))
  · refine go_s 4 rfl ?_
    refine go_m rfl rfl (show vp_in _ 60 from vpl c5 (by omega)) ?_
    exact go_retv rfl rfl (am_qv q (by first | exact am_hD (if_pos (zb_ne.mp c5)).symm | exact am_hD (if_neg (zb_0.mp c5)).symm))
theorem c_X7_indexOf {D : Nat → Nat → Int32} {e : am_E} {kc ks : Nat} {Q : am_Q} {k i : Int32} (hR : (D 15 10).toInt ≤ 60) (q : Q (some (.int (if (0 ≤ k ∧ k < D 15 10) ∧ ¬ i < 0 ∧ i < D 19 k.toNatClampNeg then D 18 k.toNatClampNeg + i else -1))) (hp D e)) : am_Go (mX7_indexOf, 0, am_ent mX7_indexOf [.ref 15, .int k, .int i], [], hp D e, kc, ks, Q) := by
  refine go_s 2 rfl ?_
  refine go_v kX7_indexOf_2 okX7_has rfl rfl rfl rfl (Nat.zero_le _) (Nat.zero_le _) ?_
  refine c_X7_has ?_
  refine go_s 1 rfl ?_
  refine go_if (fun c5 => ?_) (fun c5 => ?_)
  · refine go_s 1 rfl ?_
    exact go_ret rfl rfl (am_qi q (by first | exact (if_pos ⟨zb_ne.mp c5, by assumption, by assumption⟩).symm | exact (if_neg (fun z => zb_0.mp c5 z.1)).symm | exact (if_neg (fun z => absurd (by assumption) z.2.1)).symm | exact (if_neg (fun z => absurd z.2.2 (by assumption))).symm) (by rfl))
  · refine go_s 2 rfl ?_
    refine go_if (fun c9 => ?_) (fun c9 => ?_)
    · refine go_s 1 rfl ?_
      exact go_ret rfl rfl (am_qi q (by first | exact (if_pos ⟨zb_ne.mp c5, by assumption, by assumption⟩).symm | exact (if_neg (fun z => zb_0.mp c5 z.1)).symm | exact (if_neg (fun z => absurd (by assumption) z.2.1)).symm | exact (if_neg (fun z => absurd z.2.2 (by assumption))).symm) (by rfl))
    · refine go_s 4 rfl ?_
      refine go_m rfl rfl (show vp_in _ 60 from vpl c5 (by omega)) ?_
      refine go_s 1 rfl ?_
      refine go_if (fun c19 => ?_) (fun c19 => ?_)
      · refine go_s 3 rfl ?_
        refine go_m rfl rfl (show vp_in _ 60 from vpl c5 (by omega)) ?_
        refine go_s 3 rfl ?_
        exact go_ret rfl rfl (am_qi q (by first | exact (if_pos ⟨zb_ne.mp c5, by assumption, by assumption⟩).symm | exact (if_neg (fun z => zb_0.mp c5 z.1)).symm | exact (if_neg (fun z => absurd (by assumption) z.2.1)).symm | exact (if_neg (fun z => absurd z.2.2 (by assumption))).symm) (by rfl))
      · refine go_s 1 rfl ?_
        exact go_ret rfl rfl (am_qi q (by first | exact (if_pos ⟨zb_ne.mp c5, by assumption, by assumption⟩).symm | exact (if_neg (fun z => zb_0.mp c5 z.1)).symm | exact (if_neg (fun z => absurd (by assumption) z.2.1)).symm | exact (if_neg (fun z => absurd z.2.2 (by assumption))).symm) (by rfl))
theorem c_X7_beginningAt {D : Nat → Nat → Int32} {e : am_E} {kc ks : Nat} {Q : am_Q} {i : Int32}  (q : Q (some (.int (if ¬ i < 0 ∧ i < 300 then D 25 i.toNatClampNeg else -1))) (hp D e)) : am_Go (mX7_beginningAt, 0, am_ent mX7_beginningAt [.ref 15, .int i], [], hp D e, kc, ks, Q) := by
  refine go_s 2 rfl ?_
  refine go_if (fun c1 => ?_) (fun c1 => ?_)
  · refine go_s 1 rfl ?_
    exact go_ret rfl rfl (am_qi q (by first | exact (if_pos ⟨by assumption, by assumption⟩).symm | exact (if_neg (fun z => absurd (by assumption) z.1)).symm | exact (if_neg (fun z => absurd z.2 (by assumption))).symm) (by rfl))
  · refine go_s 5 rfl ?_
    refine go_if (fun c10 => ?_) (fun c10 => ?_)
    · refine go_s 3 rfl ?_
      refine go_m rfl rfl (show vp_in _ 300 from vpn (y := 300) (by assumption) (by assumption) (by decide)) ?_
      refine go_s 1 rfl ?_
      exact go_ret rfl rfl (am_qi q (by first | exact (if_pos ⟨by assumption, by assumption⟩).symm | exact (if_neg (fun z => absurd (by assumption) z.1)).symm | exact (if_neg (fun z => absurd z.2 (by assumption))).symm) (by rfl))
    · refine go_s 1 rfl ?_
      exact go_ret rfl rfl (am_qi q (by first | exact (if_pos ⟨by assumption, by assumption⟩).symm | exact (if_neg (fun z => absurd (by assumption) z.1)).symm | exact (if_neg (fun z => absurd z.2 (by assumption))).symm) (by rfl))
theorem c_X7_hasIndex {D : Nat → Nat → Int32} {e : am_E} {kc ks : Nat} {Q : am_Q} {k : Int32}  (q : Q (some (.int (zb (0 ≤ k ∧ k < D 15 11)))) (hp D e)) : am_Go (mX7_hasIndex, 0, am_ent mX7_hasIndex [.ref 15, .int k], [], hp D e, kc, ks, Q) := by
  refine go_s 2 rfl ?_
  refine go_if (fun c1 => ?_) (fun c1 => ?_)
  · refine go_s 1 rfl ?_
    exact go_retz rfl rfl (by first | exact Or.inl rfl | exact Or.inr rfl | exact zb_01) (am_qi q (by simp_all [zb, hp, am_fv, am_k, am_kd, ← Int32.not_lt]) (by rfl))
  · refine go_s 4 rfl ?_
    refine go_if (fun c9 => ?_) (fun c9 => ?_)
    · refine go_s 2 rfl ?_
      exact go_retz rfl rfl (by first | exact Or.inl rfl | exact Or.inr rfl | exact zb_01) (am_qi q (by simp_all [zb, hp, am_fv, am_k, am_kd, ← Int32.not_lt]) (by rfl))
    · refine go_s 1 rfl ?_
      exact go_retz rfl rfl (by first | exact Or.inl rfl | exact Or.inr rfl | exact zb_01) (am_qi q (by simp_all [zb, hp, am_fv, am_k, am_kd, ← Int32.not_lt]) (by rfl))
theorem c_X7_ownerAt {D : Nat → Nat → Int32} {e : am_E} {kc ks : Nat} {Q : am_Q} {k : Int32} (hO : (D 15 11).toInt ≤ 150) (q : Q (some (.int (if 0 ≤ k ∧ k < D 15 11 then D 21 k.toNatClampNeg else -1))) (hp D e)) : am_Go (mX7_ownerAt, 0, am_ent mX7_ownerAt [.ref 15, .int k], [], hp D e, kc, ks, Q) := by
  refine go_s 2 rfl ?_
  refine go_v kX7_ownerAt_2 okX7_hasIndex rfl rfl rfl rfl (Nat.zero_le _) (Nat.zero_le _) ?_
  refine c_X7_hasIndex ?_
  refine go_s 1 rfl ?_
  refine go_if (fun c5 => ?_) (fun c5 => ?_)
  · refine go_s 1 rfl ?_
    exact go_ret rfl rfl (am_qi q (by first | exact (if_pos (zb_ne.mp c5)).symm | exact (if_neg (zb_0.mp c5)).symm) (by rfl))
  · refine go_s 3 rfl ?_
    refine go_m rfl rfl (show vp_in _ 150 from vpl c5 (by omega)) ?_
    refine go_s 1 rfl ?_
    exact go_ret rfl rfl (am_qi q (by first | exact (if_pos (zb_ne.mp c5)).symm | exact (if_neg (zb_0.mp c5)).symm) (by rfl))
theorem c_X7_bodyAt {D : Nat → Nat → Int32} {e : am_E} {kc ks : Nat} {Q : am_Q} {k : Int32} (hO : (D 15 11).toInt ≤ 150) (q : Q (some (.int (if 0 ≤ k ∧ k < D 15 11 then D 22 k.toNatClampNeg else -1))) (hp D e)) : am_Go (mX7_bodyAt, 0, am_ent mX7_bodyAt [.ref 15, .int k], [], hp D e, kc, ks, Q) := by
  refine go_s 2 rfl ?_
  refine go_v kX7_bodyAt_2 okX7_hasIndex rfl rfl rfl rfl (Nat.zero_le _) (Nat.zero_le _) ?_
  refine c_X7_hasIndex ?_
  refine go_s 1 rfl ?_
  refine go_if (fun c5 => ?_) (fun c5 => ?_)
  · refine go_s 1 rfl ?_
    exact go_ret rfl rfl (am_qi q (by first | exact (if_pos (zb_ne.mp c5)).symm | exact (if_neg (zb_0.mp c5)).symm) (by rfl))
  · refine go_s 3 rfl ?_
    refine go_m rfl rfl (show vp_in _ 150 from vpl c5 (by omega)) ?_
    refine go_s 1 rfl ?_
    exact go_ret rfl rfl (am_qi q (by first | exact (if_pos (zb_ne.mp c5)).symm | exact (if_neg (zb_0.mp c5)).symm) (by rfl))
theorem c_X7_placeAt {D : Nat → Nat → Int32} {e : am_E} {kc ks : Nat} {Q : am_Q} {k : Int32} (hO : (D 15 11).toInt ≤ 150) (q : Q (some (.int (if 0 ≤ k ∧ k < D 15 11 then D 23 k.toNatClampNeg else -1))) (hp D e)) : am_Go (mX7_placeAt, 0, am_ent mX7_placeAt [.ref 15, .int k], [], hp D e, kc, ks, Q) := by
  refine go_s 2 rfl ?_
  refine go_v kX7_placeAt_2 okX7_hasIndex rfl rfl rfl rfl (Nat.zero_le _) (Nat.zero_le _) ?_
  refine c_X7_hasIndex ?_
  refine go_s 1 rfl ?_
  refine go_if (fun c5 => ?_) (fun c5 => ?_)
  · refine go_s 1 rfl ?_
    exact go_ret rfl rfl (am_qi q (by first | exact (if_pos (zb_ne.mp c5)).symm | exact (if_neg (zb_0.mp c5)).symm) (by rfl))
  · refine go_s 3 rfl ?_
    refine go_m rfl rfl (show vp_in _ 150 from vpl c5 (by omega)) ?_
    refine go_s 1 rfl ?_
    exact go_ret rfl rfl (am_qi q (by first | exact (if_pos (zb_ne.mp c5)).symm | exact (if_neg (zb_0.mp c5)).symm) (by rfl))
theorem c_X7_wordAddressAt {D : Nat → Nat → Int32} {e : am_E} {kc ks : Nat} {Q : am_Q} {k : Int32} (hO : (D 15 11).toInt ≤ 150) (q : Q (some (.int (if 0 ≤ k ∧ k < D 15 11 then 4096 + 4 * D 24 k.toNatClampNeg else -1))) (hp D e)) : am_Go (mX7_wordAddressAt, 0, am_ent mX7_wordAddressAt [.ref 15, .int k], [], hp D e, kc, ks, Q) := by
  refine go_s 2 rfl ?_
  refine go_v kX7_wordAddressAt_2 okX7_hasIndex rfl rfl rfl rfl (Nat.zero_le _) (Nat.zero_le _) ?_
  refine c_X7_hasIndex ?_
  refine go_s 1 rfl ?_
  refine go_if (fun c5 => ?_) (fun c5 => ?_)
  · refine go_s 1 rfl ?_
    exact go_ret rfl rfl (am_qi q (by first | exact (if_pos (zb_ne.mp c5)).symm | exact (if_neg (zb_0.mp c5)).symm) (by rfl))
  · refine go_s 3 rfl ?_
    refine go_m rfl rfl (show vp_in _ 150 from vpl c5 (by omega)) ?_
    refine go_st kX7_wordAddressAt_14 okX1_address rfl rfl rfl (Nat.zero_le _) (Nat.zero_le _) ?_
    refine c_X1_address ?_
    refine go_s 1 rfl ?_
    exact go_ret rfl rfl (am_qi q (by first | exact (if_pos (zb_ne.mp c5)).symm | exact (if_neg (zb_0.mp c5)).symm) (by rfl))
theorem c_X7_setWord {D : Nat → Nat → Int32} {e : am_E} {kc ks : Nat} {Q : am_Q} {k b : Int32} (hO : (D 15 11).toInt ≤ 150) (q : Q none (hp (if 0 ≤ k ∧ k < D 15 11 then am_u D 24 k.toNatClampNeg b else D) e)) : am_Go (mX7_setWord, 0, am_ent mX7_setWord [.ref 15, .int k, .int b], [], hp D e, kc, ks, Q) := by
  refine go_s 2 rfl ?_
  refine go_v kX7_setWord_2 okX7_hasIndex rfl rfl rfl rfl (Nat.zero_le _) (Nat.zero_le _) ?_
  refine c_X7_hasIndex ?_
  refine go_s 1 rfl ?_
  refine go_if (fun c5 => ?_) (fun c5 => ?_)
  · exact go_retv rfl rfl (am_qv q (by first | exact am_hD (if_pos (zb_ne.mp c5)).symm | exact am_hD (if_neg (zb_0.mp c5)).symm))
  · refine go_s 4 rfl ?_
    refine go_m rfl rfl (show vp_in _ 150 from vpl c5 (by omega)) ?_
    exact go_retv rfl rfl (am_qv q (by first | exact am_hD (if_pos (zb_ne.mp c5)).symm | exact am_hD (if_neg (zb_0.mp c5)).symm))
theorem c_X7_drop {D : Nat → Nat → Int32} {e : am_E} {kc ks : Nat} {Q : am_Q}   (q : Q none (hp (am_u (am_u (am_fil D 25 300 (-1)) 15 10 0) 15 11 0) e)) : am_Go (mX7_drop, 0, am_ent mX7_drop [.ref 15], [], hp D e, kc, ks, Q) := by
  refine go_s 3 rfl ?_
  refine go_st kX7_drop_5 okJ7_fill_53178 rfl rfl rfl (Nat.zero_le _) (Nat.zero_le _) ?_
  refine c_J7_fill_53178 rfl (by decide) ?_
  refine go_s 6 rfl ?_
  exact go_retv rfl rfl (am_qv q (by rfl))
end
section
theorem c_X4_isRegister {D : Nat → Nat → Int32} {e : am_E} {kc ks : Nat} {Q : am_Q} {n : Int32}  (q : Q (some (.int (zb (0 ≤ n ∧ n < 32)))) (hp D e)) : am_Go (mX4_isRegister, 0, am_ent mX4_isRegister [.int n], [], hp D e, kc, ks, Q) := by
  refine go_s 2 rfl ?_
  refine go_if (fun c1 => ?_) (fun c1 => ?_)
  · refine go_s 1 rfl ?_
    exact go_retz rfl rfl (by first | exact Or.inl rfl | exact Or.inr rfl | exact zb_01) (am_qi q (by simp_all [zb, hp, am_fv, am_k, am_kd, ← Int32.not_lt]) (by rfl))
  · refine go_s 3 rfl ?_
    refine go_if (fun c7 => ?_) (fun c7 => ?_)
    · refine go_s 2 rfl ?_
      exact go_retz rfl rfl (by first | exact Or.inl rfl | exact Or.inr rfl | exact zb_01) (am_qi q (by simp_all [zb, hp, am_fv, am_k, am_kd, ← Int32.not_lt]) (by rfl))
    · refine go_s 1 rfl ?_
      exact go_retz rfl rfl (by first | exact Or.inl rfl | exact Or.inr rfl | exact zb_01) (am_qi q (by simp_all [zb, hp, am_fv, am_k, am_kd, ← Int32.not_lt]) (by rfl))
theorem c_X4_isMemoryWord {D : Nat → Nat → Int32} {e : am_E} {kc ks : Nat} {Q : am_Q} {n : Int32}  (q : Q (some (.int (zb (0 ≤ n ∧ n < 64)))) (hp D e)) : am_Go (mX4_isMemoryWord, 0, am_ent mX4_isMemoryWord [.int n], [], hp D e, kc, ks, Q) := by
  refine go_s 2 rfl ?_
  refine go_if (fun c1 => ?_) (fun c1 => ?_)
  · refine go_s 1 rfl ?_
    exact go_retz rfl rfl (by first | exact Or.inl rfl | exact Or.inr rfl | exact zb_01) (am_qi q (by simp_all [zb, hp, am_fv, am_k, am_kd, ← Int32.not_lt]) (by rfl))
  · refine go_s 3 rfl ?_
    refine go_if (fun c7 => ?_) (fun c7 => ?_)
    · refine go_s 2 rfl ?_
      exact go_retz rfl rfl (by first | exact Or.inl rfl | exact Or.inr rfl | exact zb_01) (am_qi q (by simp_all [zb, hp, am_fv, am_k, am_kd, ← Int32.not_lt]) (by rfl))
    · refine go_s 1 rfl ?_
      exact go_retz rfl rfl (by first | exact Or.inl rfl | exact Or.inr rfl | exact zb_01) (am_qi q (by simp_all [zb, hp, am_fv, am_k, am_kd, ← Int32.not_lt]) (by rfl))
theorem c_X4_hasRun_59 {D : Nat → Nat → Int32} {e : am_E} {kc ks : Nat} {Q : am_Q}  (h1 : D 59 1 = 0 ∨ D 59 1 = 1) (q : Q (some (.int (D 59 1))) (hp D e)) : am_Go (mX4_hasRun, 0, am_ent mX4_hasRun [.ref 59], [], hp D e, kc, ks, Q) := by
  refine go_s 2 rfl ?_
  exact go_retz rfl rfl (by exact h1) (am_qi q (by rfl) (by rfl))
theorem c_X4_hasRun_65 {D : Nat → Nat → Int32} {e : am_E} {kc ks : Nat} {Q : am_Q}  (h1 : D 65 1 = 0 ∨ D 65 1 = 1) (q : Q (some (.int (D 65 1))) (hp D e)) : am_Go (mX4_hasRun, 0, am_ent mX4_hasRun [.ref 65], [], hp D e, kc, ks, Q) := by
  refine go_s 2 rfl ?_
  exact go_retz rfl rfl (by exact h1) (am_qi q (by rfl) (by rfl))
theorem c_X4_outcome_59 {D : Nat → Nat → Int32} {e : am_E} {kc ks : Nat} {Q : am_Q}   (q : Q (some (.int (D 59 2))) (hp D e)) : am_Go (mX4_outcome, 0, am_ent mX4_outcome [.ref 59], [], hp D e, kc, ks, Q) := by
  refine go_s 2 rfl ?_
  exact go_ret rfl rfl (am_qi q (by rfl) (by rfl))
theorem c_X4_outcome_65 {D : Nat → Nat → Int32} {e : am_E} {kc ks : Nat} {Q : am_Q}   (q : Q (some (.int (D 65 2))) (hp D e)) : am_Go (mX4_outcome, 0, am_ent mX4_outcome [.ref 65], [], hp D e, kc, ks, Q) := by
  refine go_s 2 rfl ?_
  exact go_ret rfl rfl (am_qi q (by rfl) (by rfl))
theorem c_X4_steps_59 {D : Nat → Nat → Int32} {e : am_E} {kc ks : Nat} {Q : am_Q}   (q : Q (some (.int (D 59 3))) (hp D e)) : am_Go (mX4_steps, 0, am_ent mX4_steps [.ref 59], [], hp D e, kc, ks, Q) := by
  refine go_s 2 rfl ?_
  exact go_ret rfl rfl (am_qi q (by rfl) (by rfl))
theorem c_X4_steps_65 {D : Nat → Nat → Int32} {e : am_E} {kc ks : Nat} {Q : am_Q}   (q : Q (some (.int (D 65 3))) (hp D e)) : am_Go (mX4_steps, 0, am_ent mX4_steps [.ref 65], [], hp D e, kc, ks, Q) := by
  refine go_s 2 rfl ?_
  exact go_ret rfl rfl (am_qi q (by rfl) (by rfl))
theorem c_X4_prints_59 {D : Nat → Nat → Int32} {e : am_E} {kc ks : Nat} {Q : am_Q}   (q : Q (some (.int (D 59 4))) (hp D e)) : am_Go (mX4_prints, 0, am_ent mX4_prints [.ref 59], [], hp D e, kc, ks, Q) := by
  refine go_s 2 rfl ?_
  exact go_ret rfl rfl (am_qi q (by rfl) (by rfl))
theorem c_X4_prints_65 {D : Nat → Nat → Int32} {e : am_E} {kc ks : Nat} {Q : am_Q}   (q : Q (some (.int (D 65 4))) (hp D e)) : am_Go (mX4_prints, 0, am_ent mX4_prints [.ref 65], [], hp D e, kc, ks, Q) := by
  refine go_s 2 rfl ?_
  exact go_ret rfl rfl (am_qi q (by rfl) (by rfl))
theorem c_X4_printAt_59 {D : Nat → Nat → Int32} {e : am_E} {kc ks : Nat} {Q : am_Q} {i : Int32}  (q : Q (some (.int (if ¬ i < 0 ∧ i < D 59 4 ∧ i < 200 then D 60 i.toNatClampNeg else 0))) (hp D e)) : am_Go (mX4_printAt, 0, am_ent mX4_printAt [.ref 59, .int i], [], hp D e, kc, ks, Q) := by
  refine go_s 2 rfl ?_
  refine go_if (fun c1 => ?_) (fun c1 => ?_)
  · refine go_s 1 rfl ?_
    exact go_ret rfl rfl (am_qi q (by first | exact (if_pos ⟨by assumption, by assumption, by assumption⟩).symm | exact (if_neg (fun z => absurd (by assumption) z.1)).symm | exact (if_neg (fun z => absurd z.2.1 (by assumption))).symm | exact (if_neg (fun z => absurd z.2.2 (by assumption))).symm) (by rfl))
  · refine go_s 4 rfl ?_
    refine go_if (fun c9 => ?_) (fun c9 => ?_)
    · refine go_s 3 rfl ?_
      refine go_if (fun c16 => ?_) (fun c16 => ?_)
      · refine go_s 3 rfl ?_
        refine go_m rfl rfl (show vp_in _ 200 from vpn (y := 200) (by assumption) (by assumption) (by decide)) ?_
        refine go_s 1 rfl ?_
        exact go_ret rfl rfl (am_qi q (by first | exact (if_pos ⟨by assumption, by assumption, by assumption⟩).symm | exact (if_neg (fun z => absurd (by assumption) z.1)).symm | exact (if_neg (fun z => absurd z.2.1 (by assumption))).symm | exact (if_neg (fun z => absurd z.2.2 (by assumption))).symm) (by rfl))
      · refine go_s 1 rfl ?_
        exact go_ret rfl rfl (am_qi q (by first | exact (if_pos ⟨by assumption, by assumption, by assumption⟩).symm | exact (if_neg (fun z => absurd (by assumption) z.1)).symm | exact (if_neg (fun z => absurd z.2.1 (by assumption))).symm | exact (if_neg (fun z => absurd z.2.2 (by assumption))).symm) (by rfl))
    · refine go_s 1 rfl ?_
      exact go_ret rfl rfl (am_qi q (by first | exact (if_pos ⟨by assumption, by assumption, by assumption⟩).symm | exact (if_neg (fun z => absurd (by assumption) z.1)).symm | exact (if_neg (fun z => absurd z.2.1 (by assumption))).symm | exact (if_neg (fun z => absurd z.2.2 (by assumption))).symm) (by rfl))
theorem c_X4_printAt_65 {D : Nat → Nat → Int32} {e : am_E} {kc ks : Nat} {Q : am_Q} {i : Int32}  (q : Q (some (.int (if ¬ i < 0 ∧ i < D 65 4 ∧ i < 200 then D 66 i.toNatClampNeg else 0))) (hp D e)) : am_Go (mX4_printAt, 0, am_ent mX4_printAt [.ref 65, .int i], [], hp D e, kc, ks, Q) := by
  refine go_s 2 rfl ?_
  refine go_if (fun c1 => ?_) (fun c1 => ?_)
  · refine go_s 1 rfl ?_
    exact go_ret rfl rfl (am_qi q (by first | exact (if_pos ⟨by assumption, by assumption, by assumption⟩).symm | exact (if_neg (fun z => absurd (by assumption) z.1)).symm | exact (if_neg (fun z => absurd z.2.1 (by assumption))).symm | exact (if_neg (fun z => absurd z.2.2 (by assumption))).symm) (by rfl))
  · refine go_s 4 rfl ?_
    refine go_if (fun c9 => ?_) (fun c9 => ?_)
    · refine go_s 3 rfl ?_
      refine go_if (fun c16 => ?_) (fun c16 => ?_)
      · refine go_s 3 rfl ?_
        refine go_m rfl rfl (show vp_in _ 200 from vpn (y := 200) (by assumption) (by assumption) (by decide)) ?_
        refine go_s 1 rfl ?_
        exact go_ret rfl rfl (am_qi q (by first | exact (if_pos ⟨by assumption, by assumption, by assumption⟩).symm | exact (if_neg (fun z => absurd (by assumption) z.1)).symm | exact (if_neg (fun z => absurd z.2.1 (by assumption))).symm | exact (if_neg (fun z => absurd z.2.2 (by assumption))).symm) (by rfl))
      · refine go_s 1 rfl ?_
        exact go_ret rfl rfl (am_qi q (by first | exact (if_pos ⟨by assumption, by assumption, by assumption⟩).symm | exact (if_neg (fun z => absurd (by assumption) z.1)).symm | exact (if_neg (fun z => absurd z.2.1 (by assumption))).symm | exact (if_neg (fun z => absurd z.2.2 (by assumption))).symm) (by rfl))
    · refine go_s 1 rfl ?_
      exact go_ret rfl rfl (am_qi q (by first | exact (if_pos ⟨by assumption, by assumption, by assumption⟩).symm | exact (if_neg (fun z => absurd (by assumption) z.1)).symm | exact (if_neg (fun z => absurd z.2.1 (by assumption))).symm | exact (if_neg (fun z => absurd z.2.2 (by assumption))).symm) (by rfl))
theorem c_X4_keepPrint_59 {D : Nat → Nat → Int32} {e : am_E} {kc ks : Nat} {Q : am_Q} {v : Int32}  (q : Q none (hp (am_u (if ¬ D 59 4 < 0 ∧ D 59 4 < 200 then am_u D 60 (D 59 4).toNatClampNeg v else D) 59 4 (D 59 4 + 1)) e)) : am_Go (mX4_keepPrint, 0, am_ent mX4_keepPrint [.ref 59, .int v], [], hp D e, kc, ks, Q) := by
  refine go_s 3 rfl ?_
  refine go_if (fun c4 => ?_) (fun c4 => ?_)
  · refine go_s 6 rfl ?_
    exact go_retv rfl rfl (am_qv q (by first | (rw [if_pos ⟨by assumption, by assumption⟩]; rfl) | (rw [if_neg (fun z => absurd (by assumption) z.1)]; rfl) | (rw [if_neg (fun z => absurd z.2 (by assumption))]; rfl)))
  · refine go_s 4 rfl ?_
    refine go_if (fun c14 => ?_) (fun c14 => ?_)
    · refine go_s 5 rfl ?_
      refine go_m rfl rfl (show vp_in _ 200 from vpn (y := 200) (by assumption) (by assumption) (by decide)) ?_
      refine go_s 6 rfl ?_
      exact go_retv rfl rfl (am_qv q (by first | (rw [if_pos ⟨by assumption, by assumption⟩]; rfl) | (rw [if_neg (fun z => absurd (by assumption) z.1)]; rfl) | (rw [if_neg (fun z => absurd z.2 (by assumption))]; rfl)))
    · refine go_s 6 rfl ?_
      exact go_retv rfl rfl (am_qv q (by first | (rw [if_pos ⟨by assumption, by assumption⟩]; rfl) | (rw [if_neg (fun z => absurd (by assumption) z.1)]; rfl) | (rw [if_neg (fun z => absurd z.2 (by assumption))]; rfl)))
theorem c_X4_keepPrint_65 {D : Nat → Nat → Int32} {e : am_E} {kc ks : Nat} {Q : am_Q} {v : Int32}  (q : Q none (hp (am_u (if ¬ D 65 4 < 0 ∧ D 65 4 < 200 then am_u D 66 (D 65 4).toNatClampNeg v else D) 65 4 (D 65 4 + 1)) e)) : am_Go (mX4_keepPrint, 0, am_ent mX4_keepPrint [.ref 65, .int v], [], hp D e, kc, ks, Q) := by
  refine go_s 3 rfl ?_
  refine go_if (fun c4 => ?_) (fun c4 => ?_)
  · refine go_s 6 rfl ?_
    exact go_retv rfl rfl (am_qv q (by first | (rw [if_pos ⟨by assumption, by assumption⟩]; rfl) | (rw [if_neg (fun z => absurd (by assumption) z.1)]; rfl) | (rw [if_neg (fun z => absurd z.2 (by assumption))]; rfl)))
  · refine go_s 4 rfl ?_
    refine go_if (fun c14 => ?_) (fun c14 => ?_)
    · refine go_s 5 rfl ?_
      refine go_m rfl rfl (show vp_in _ 200 from vpn (y := 200) (by assumption) (by assumption) (by decide)) ?_
      refine go_s 6 rfl ?_
      exact go_retv rfl rfl (am_qv q (by first | (rw [if_pos ⟨by assumption, by assumption⟩]; rfl) | (rw [if_neg (fun z => absurd (by assumption) z.1)]; rfl) | (rw [if_neg (fun z => absurd z.2 (by assumption))]; rfl)))
    · refine go_s 6 rfl ?_
      exact go_retv rfl rfl (am_qv q (by first | (rw [if_pos ⟨by assumption, by assumption⟩]; rfl) | (rw [if_neg (fun z => absurd (by assumption) z.1)]; rfl) | (rw [if_neg (fun z => absurd z.2 (by assumption))]; rfl)))
theorem c_X4_memoryIndex {D : Nat → Nat → Int32} {e : am_E} {kc ks : Nat} {Q : am_Q} {n : Int32}  (q : Q (some (.int (if n &&& (3 : Int32) = 0 ∧ (0 ≤ (n - 65536) >>> (2 : Int32) ∧ (n - 65536) >>> (2 : Int32) < 64) then (n - 65536) >>> (2 : Int32) else -1))) (hp D e)) : am_Go (mX4_memoryIndex, 0, am_ent mX4_memoryIndex [.int n], [], hp D e, kc, ks, Q) := by
  refine go_s 10 rfl ?_
  refine go_if (fun c10 => ?_) (fun c10 => ?_)
  · refine go_s 1 rfl ?_
    refine go_st kX4_memoryIndex_14 okX4_isMemoryWord rfl rfl rfl (Nat.zero_le _) (Nat.zero_le _) ?_
    refine c_X4_isMemoryWord ?_
    refine go_s 1 rfl ?_
    refine go_if (fun c17 => ?_) (fun c17 => ?_)
    · refine go_s 1 rfl ?_
      exact go_ret rfl rfl (am_qi q (by first | exact (if_pos ⟨c10, zb_ne.mp c17⟩).symm | exact (if_neg (fun z => zb_0.mp c17 z.2)).symm | exact (if_neg (fun z => c10 z.1)).symm) (by rfl))
    · refine go_s 2 rfl ?_
      exact go_ret rfl rfl (am_qi q (by first | exact (if_pos ⟨c10, zb_ne.mp c17⟩).symm | exact (if_neg (fun z => zb_0.mp c17 z.2)).symm | exact (if_neg (fun z => c10 z.1)).symm) (by rfl))
  · refine go_s 1 rfl ?_
    exact go_ret rfl rfl (am_qi q (by first | exact (if_pos ⟨c10, zb_ne.mp c17⟩).symm | exact (if_neg (fun z => zb_0.mp c17 z.2)).symm | exact (if_neg (fun z => c10 z.1)).symm) (by rfl))
end
section
theorem c_X2_isReady {D : Nat → Nat → Int32} {e : am_E} {kc ks : Nat} {Q : am_Q}   (q : Q (some (.int (zb (0 < D 11 3)))) (hp D e)) : am_Go (mX2_isReady, 0, am_ent mX2_isReady [.ref 65], [], hp D e, kc, ks, Q) := by
  refine go_s 2 rfl ?_
  refine go_v kX2_isReady_4 okX1_size rfl rfl rfl rfl (Nat.zero_le _) (Nat.zero_le _) ?_
  refine c_X1_size ?_
  refine go_s 1 rfl ?_
  refine go_if (fun c7 => ?_) (fun c7 => ?_)
  · refine go_s 2 rfl ?_
    exact go_retz rfl rfl (by first | exact Or.inl rfl | exact Or.inr rfl | exact zb_01) (am_qi q (by first | exact (zb_t (by assumption)).symm | exact (zb_f (by assumption)).symm) (by rfl))
  · refine go_s 1 rfl ?_
    exact go_retz rfl rfl (by first | exact Or.inl rfl | exact Or.inr rfl | exact zb_01) (am_qi q (by first | exact (zb_t (by assumption)).symm | exact (zb_f (by assumption)).symm) (by rfl))
theorem c_X2_where {D : Nat → Nat → Int32} {e : am_E} {kc ks : Nat} {Q : am_Q}   (q : Q (some (.int (D 65 8))) (hp D e)) : am_Go (mX2_where, 0, am_ent mX2_where [.ref 65], [], hp D e, kc, ks, Q) := by
  refine go_s 2 rfl ?_
  exact go_ret rfl rfl (am_qi q (by rfl) (by rfl))
theorem c_X2_whichPlace {D : Nat → Nat → Int32} {e : am_E} {kc ks : Nat} {Q : am_Q}   (q : Q (some (.int (-1))) (hp D e)) : am_Go (mX2_whichPlace, 0, am_ent mX2_whichPlace [.ref 65], [], hp D e, kc, ks, Q) := by
  refine go_s 1 rfl ?_
  exact go_ret rfl rfl (am_qi q (by rfl) (by rfl))
theorem c_X2_registerAt {D : Nat → Nat → Int32} {e : am_E} {kc ks : Nat} {Q : am_Q} {k : Int32}  (q : Q (some (.int (if 0 ≤ k ∧ k < 32 then D 67 k.toNatClampNeg else 0))) (hp D e)) : am_Go (mX2_registerAt, 0, am_ent mX2_registerAt [.ref 65, .int k], [], hp D e, kc, ks, Q) := by
  refine go_s 1 rfl ?_
  refine go_st kX2_registerAt_1 okX4_isRegister rfl rfl rfl (Nat.zero_le _) (Nat.zero_le _) ?_
  refine c_X4_isRegister ?_
  refine go_s 1 rfl ?_
  refine go_if (fun c4 => ?_) (fun c4 => ?_)
  · refine go_s 1 rfl ?_
    exact go_ret rfl rfl (am_qi q (by first | exact (if_pos (zb_ne.mp c4)).symm | exact (if_neg (zb_0.mp c4)).symm) (by rfl))
  · refine go_s 3 rfl ?_
    refine go_m rfl rfl (show vp_in _ 32 from vpl c4 (by decide)) ?_
    refine go_s 1 rfl ?_
    exact go_ret rfl rfl (am_qi q (by first | exact (if_pos (zb_ne.mp c4)).symm | exact (if_neg (zb_0.mp c4)).symm) (by rfl))
theorem c_X2_memoryAt {D : Nat → Nat → Int32} {e : am_E} {kc ks : Nat} {Q : am_Q} {k : Int32}  (q : Q (some (.int (if 0 ≤ k ∧ k < 64 then D 68 k.toNatClampNeg else 0))) (hp D e)) : am_Go (mX2_memoryAt, 0, am_ent mX2_memoryAt [.ref 65, .int k], [], hp D e, kc, ks, Q) := by
  refine go_s 1 rfl ?_
  refine go_st kX2_memoryAt_1 okX4_isMemoryWord rfl rfl rfl (Nat.zero_le _) (Nat.zero_le _) ?_
  refine c_X4_isMemoryWord ?_
  refine go_s 1 rfl ?_
  refine go_if (fun c4 => ?_) (fun c4 => ?_)
  · refine go_s 1 rfl ?_
    exact go_ret rfl rfl (am_qi q (by first | exact (if_pos (zb_ne.mp c4)).symm | exact (if_neg (zb_0.mp c4)).symm) (by rfl))
  · refine go_s 3 rfl ?_
    refine go_m rfl rfl (show vp_in _ 64 from vpl c4 (by decide)) ?_
    refine go_s 1 rfl ?_
    exact go_ret rfl rfl (am_qi q (by first | exact (if_pos (zb_ne.mp c4)).symm | exact (if_neg (zb_0.mp c4)).symm) (by rfl))
theorem c_X2_goTo {D : Nat → Nat → Int32} {e : am_E} {kc ks : Nat} {Q : am_Q} {g : Int32}  (q : Q (some (.int (if g = 0 then 0 else 3))) (hp (am_u D 65 8 g) e)) : am_Go (mX2_goTo, 0, am_ent mX2_goTo [.ref 65, .int g], [], hp D e, kc, ks, Q) := by
  refine go_s 6 rfl ?_
  refine go_if (fun c9 => ?_) (fun c9 => ?_)
  · refine go_s 2 rfl ?_
    exact go_ret rfl rfl (am_qi q (by first | exact (if_pos (by assumption)).symm | exact (if_neg (by assumption)).symm | simp_all [hp, am_fv, am_k, am_kd, am_u]) (by rfl))
  · refine go_s 1 rfl ?_
    exact go_ret rfl rfl (am_qi q (by first | exact (if_pos (by assumption)).symm | exact (if_neg (by assumption)).symm | simp_all [hp, am_fv, am_k, am_kd, am_u]) (by rfl))
theorem c_X2_goOn {D : Nat → Nat → Int32} {e : am_E} {kc ks : Nat} {Q : am_Q}   (q : Q (some (.int (if D 65 8 + 4 = 0 then 0 else 3))) (hp (am_u D 65 8 (D 65 8 + 4)) e)) : am_Go (mX2_goOn, 0, am_ent mX2_goOn [.ref 65], [], hp D e, kc, ks, Q) := by
  refine go_s 5 rfl ?_
  refine go_v kX2_goOn_7 okX2_goTo rfl rfl rfl rfl (Nat.zero_le _) (Nat.zero_le _) ?_
  refine c_X2_goTo ?_
  exact go_ret rfl rfl (am_qi q (by rfl) (by rfl))
theorem c_X2_write {D : Nat → Nat → Int32} {e : am_E} {kc ks : Nat} {Q : am_Q} {k v : Int32}  (q : Q none (hp (if ¬ k = 0 ∧ 0 ≤ k ∧ k < 32 then am_u D 67 k.toNatClampNeg v else D) e)) : am_Go (mX2_write, 0, am_ent mX2_write [.ref 65, .int k, .int v], [], hp D e, kc, ks, Q) := by
  refine go_s 2 rfl ?_
  refine go_if (fun c1 => ?_) (fun c1 => ?_)
  · exact go_retv rfl rfl (am_qv q (by first | exact am_hD (if_neg (fun z => z.1 (by assumption))).symm | exact am_hD (if_neg (fun z => zb_0.mp c8 z.2)).symm | exact am_hD (if_pos ⟨by assumption, zb_ne.mp c8⟩).symm))
  · refine go_s 1 rfl ?_
    refine go_st kX2_write_5 okX4_isRegister rfl rfl rfl (Nat.zero_le _) (Nat.zero_le _) ?_
    refine c_X4_isRegister ?_
    refine go_s 1 rfl ?_
    refine go_if (fun c8 => ?_) (fun c8 => ?_)
    · exact go_retv rfl rfl (am_qv q (by first | exact am_hD (if_neg (fun z => z.1 (by assumption))).symm | exact am_hD (if_neg (fun z => zb_0.mp c8 z.2)).symm | exact am_hD (if_pos ⟨by assumption, zb_ne.mp c8⟩).symm))
    · refine go_s 4 rfl ?_
      refine go_m rfl rfl (show vp_in _ 32 from vpl c8 (by decide)) ?_
      exact go_retv rfl rfl (am_qv q (by first | exact am_hD (if_neg (fun z => z.1 (by assumption))).symm | exact am_hD (if_neg (fun z => zb_0.mp c8 z.2)).symm | exact am_hD (if_pos ⟨by assumption, zb_ne.mp c8⟩).symm))
theorem c_X2_firstIn {D : Nat → Nat → Int32} {e : am_E} {kc ks : Nat} {Q : am_Q} {w : Int32}  (q : Q (some (.int (D 67 (w >>> (15 : Int32) &&& (31 : Int32)).toNatClampNeg))) (hp D e)) : am_Go (mX2_firstIn, 0, am_ent mX2_firstIn [.ref 65, .int w], [], hp D e, kc, ks, Q) := by
  refine go_s 3 rfl ?_
  refine go_st kX2_firstIn_5 okX8_firstOf rfl rfl rfl (Nat.zero_le _) (Nat.zero_le _) ?_
  refine c_X8_firstOf ?_
  refine go_m rfl rfl (show vp_in _ 32 from pk_andIn _ 5 (by decide) (by decide)) ?_
  exact go_ret rfl rfl (am_qi q (by rfl) (by rfl))
theorem c_X2_secondIn {D : Nat → Nat → Int32} {e : am_E} {kc ks : Nat} {Q : am_Q} {w : Int32}  (q : Q (some (.int (D 67 (w >>> (20 : Int32) &&& (31 : Int32)).toNatClampNeg))) (hp D e)) : am_Go (mX2_secondIn, 0, am_ent mX2_secondIn [.ref 65, .int w], [], hp D e, kc, ks, Q) := by
  refine go_s 3 rfl ?_
  refine go_st kX2_secondIn_5 okX8_secondOf rfl rfl rfl (Nat.zero_le _) (Nat.zero_le _) ?_
  refine c_X8_secondOf ?_
  refine go_m rfl rfl (show vp_in _ 32 from pk_andIn _ 5 (by decide) (by decide)) ?_
  exact go_ret rfl rfl (am_qi q (by rfl) (by rfl))
theorem c_X10_isReady {D : Nat → Nat → Int32} {e : am_E} {kc ks : Nat} {Q : am_Q}   (q : Q (some (.int (zb (0 ≤ (0 : Int32) ∧ 0 < D 1 5)))) (hp D e)) : am_Go (mX10_isReady, 0, am_ent mX10_isReady [.ref 59], [], hp D e, kc, ks, Q) := by
  refine go_s 3 rfl ?_
  refine go_v kX10_isReady_5 okX5_hasFunction rfl rfl rfl rfl (Nat.zero_le _) (Nat.zero_le _) ?_
  refine c_X5_hasFunction ?_
  exact go_retz rfl rfl (by first | exact Or.inl rfl | exact Or.inr rfl | exact zb_01) (am_qi q (by rfl) (by rfl))
theorem c_X10_where {D : Nat → Nat → Int32} {e : am_E} {kc ks : Nat} {Q : am_Q}   (q : Q (some (.int (if D 59 2 = 0 then -1 else D 59 10))) (hp D e)) : am_Go (mX10_where, 0, am_ent mX10_where [.ref 59], [], hp D e, kc, ks, Q) := by
  refine go_s 1 rfl ?_
  refine go_u kX10_where_1_7 okX4_outcome rfl rfl rfl rfl (Nat.zero_le _) (Nat.zero_le _) ?_
  refine c_X4_outcome_59 ?_
  refine go_s 1 rfl ?_
  refine go_if (fun c4 => ?_) (fun c4 => ?_)
  · refine go_s 2 rfl ?_
    exact go_ret rfl rfl (am_qi q (by first | exact (if_pos (by assumption)).symm | exact (if_neg (by assumption)).symm) (by rfl))
  · refine go_s 2 rfl ?_
    exact go_ret rfl rfl (am_qi q (by first | exact (if_pos (by assumption)).symm | exact (if_neg (by assumption)).symm) (by rfl))
theorem c_X10_whichPlace {D : Nat → Nat → Int32} {e : am_E} {kc ks : Nat} {Q : am_Q}   (q : Q (some (.int (if D 59 2 = 0 then -1 else D 59 11))) (hp D e)) : am_Go (mX10_whichPlace, 0, am_ent mX10_whichPlace [.ref 59], [], hp D e, kc, ks, Q) := by
  refine go_s 1 rfl ?_
  refine go_u kX10_whichPlace_1_7 okX4_outcome rfl rfl rfl rfl (Nat.zero_le _) (Nat.zero_le _) ?_
  refine c_X4_outcome_59 ?_
  refine go_s 1 rfl ?_
  refine go_if (fun c4 => ?_) (fun c4 => ?_)
  · refine go_s 2 rfl ?_
    exact go_ret rfl rfl (am_qi q (by first | exact (if_pos (by assumption)).symm | exact (if_neg (by assumption)).symm) (by rfl))
  · refine go_s 2 rfl ?_
    exact go_ret rfl rfl (am_qi q (by first | exact (if_pos (by assumption)).symm | exact (if_neg (by assumption)).symm) (by rfl))
def am_srt (D : Nat → Nat → Int32) (k : Int32) : Int32 := if ¬ k < 0 ∧ k < 32 then D 61 k.toNatClampNeg else 0
def am_val (D : Nat → Nat → Int32) (k : Int32) : Int32 := if ¬ k < 0 ∧ k < 32 then D 62 k.toNatClampNeg else 0
theorem c_X10_sortIn {D : Nat → Nat → Int32} {e : am_E} {kc ks : Nat} {Q : am_Q} {k : Int32}  (q : Q (some (.int (am_srt D k))) (hp D e)) : am_Go (mX10_sortIn, 0, am_ent mX10_sortIn [.ref 59, .int k], [], hp D e, kc, ks, Q) := by
  refine go_s 2 rfl ?_
  refine go_if (fun c1 => ?_) (fun c1 => ?_)
  · refine go_s 1 rfl ?_
    exact go_ret rfl rfl (am_qi q (by first | exact (if_pos ⟨by assumption, by assumption⟩).symm | exact (if_neg (fun z => absurd (by assumption) z.1)).symm | exact (if_neg (fun z => absurd z.2 (by assumption))).symm) (by rfl))
  · refine go_s 5 rfl ?_
    refine go_if (fun c10 => ?_) (fun c10 => ?_)
    · refine go_s 3 rfl ?_
      refine go_m rfl rfl (show vp_in _ 32 from vpn (y := 32) (by assumption) (by assumption) (by decide)) ?_
      refine go_s 1 rfl ?_
      exact go_ret rfl rfl (am_qi q (by first | exact (if_pos ⟨by assumption, by assumption⟩).symm | exact (if_neg (fun z => absurd (by assumption) z.1)).symm | exact (if_neg (fun z => absurd z.2 (by assumption))).symm) (by rfl))
    · refine go_s 1 rfl ?_
      exact go_ret rfl rfl (am_qi q (by first | exact (if_pos ⟨by assumption, by assumption⟩).symm | exact (if_neg (fun z => absurd (by assumption) z.1)).symm | exact (if_neg (fun z => absurd z.2 (by assumption))).symm) (by rfl))
theorem c_X10_valueIn {D : Nat → Nat → Int32} {e : am_E} {kc ks : Nat} {Q : am_Q} {k : Int32}  (q : Q (some (.int (am_val D k))) (hp D e)) : am_Go (mX10_valueIn, 0, am_ent mX10_valueIn [.ref 59, .int k], [], hp D e, kc, ks, Q) := by
  refine go_s 2 rfl ?_
  refine go_if (fun c1 => ?_) (fun c1 => ?_)
  · refine go_s 1 rfl ?_
    exact go_ret rfl rfl (am_qi q (by first | exact (if_pos ⟨by assumption, by assumption⟩).symm | exact (if_neg (fun z => absurd (by assumption) z.1)).symm | exact (if_neg (fun z => absurd z.2 (by assumption))).symm) (by rfl))
  · refine go_s 5 rfl ?_
    refine go_if (fun c10 => ?_) (fun c10 => ?_)
    · refine go_s 3 rfl ?_
      refine go_m rfl rfl (show vp_in _ 32 from vpn (y := 32) (by assumption) (by assumption) (by decide)) ?_
      refine go_s 1 rfl ?_
      exact go_ret rfl rfl (am_qi q (by first | exact (if_pos ⟨by assumption, by assumption⟩).symm | exact (if_neg (fun z => absurd (by assumption) z.1)).symm | exact (if_neg (fun z => absurd z.2 (by assumption))).symm) (by rfl))
    · refine go_s 1 rfl ?_
      exact go_ret rfl rfl (am_qi q (by first | exact (if_pos ⟨by assumption, by assumption⟩).symm | exact (if_neg (fun z => absurd (by assumption) z.1)).symm | exact (if_neg (fun z => absurd z.2 (by assumption))).symm) (by rfl))
theorem c_X10_isNumber {D : Nat → Nat → Int32} {e : am_E} {kc ks : Nat} {Q : am_Q} {k : Int32}  (q : Q (some (.int (zb (am_srt D k = 0)))) (hp D e)) : am_Go (mX10_isNumber, 0, am_ent mX10_isNumber [.ref 59, .int k], [], hp D e, kc, ks, Q) := by
  refine go_s 2 rfl ?_
  refine go_v kX10_isNumber_2 okX10_sortIn rfl rfl rfl rfl (Nat.zero_le _) (Nat.zero_le _) ?_
  refine c_X10_sortIn ?_
  refine go_s 1 rfl ?_
  refine go_if (fun c5 => ?_) (fun c5 => ?_)
  · refine go_s 2 rfl ?_
    exact go_retz rfl rfl (by first | exact Or.inl rfl | exact Or.inr rfl | exact zb_01) (am_qi q (by first | exact (zb_t (by assumption)).symm | exact (zb_f (by assumption)).symm) (by rfl))
  · refine go_s 1 rfl ?_
    exact go_retz rfl rfl (by first | exact Or.inl rfl | exact Or.inr rfl | exact zb_01) (am_qi q (by first | exact (zb_t (by assumption)).symm | exact (zb_f (by assumption)).symm) (by rfl))
theorem c_X10_registerAt {D : Nat → Nat → Int32} {e : am_E} {kc ks : Nat} {Q : am_Q} {k : Int32}  (q : Q (some (.int (if am_srt D k = 0 then am_val D k else 0))) (hp D e)) : am_Go (mX10_registerAt, 0, am_ent mX10_registerAt [.ref 59, .int k], [], hp D e, kc, ks, Q) := by
  refine go_s 2 rfl ?_
  refine go_v kX10_registerAt_2 okX10_isNumber rfl rfl rfl rfl (Nat.zero_le _) (Nat.zero_le _) ?_
  refine c_X10_isNumber ?_
  refine go_s 1 rfl ?_
  refine go_if (fun c5 => ?_) (fun c5 => ?_)
  · refine go_s 1 rfl ?_
    exact go_ret rfl rfl (am_qi q (by first | exact (if_pos (zb_ne.mp c5)).symm | exact (if_neg (zb_0.mp c5)).symm) (by rfl))
  · refine go_s 2 rfl ?_
    refine go_v kX10_registerAt_10 okX10_valueIn rfl rfl rfl rfl (Nat.zero_le _) (Nat.zero_le _) ?_
    refine c_X10_valueIn ?_
    refine go_s 1 rfl ?_
    exact go_ret rfl rfl (am_qi q (by first | exact (if_pos (zb_ne.mp c5)).symm | exact (if_neg (zb_0.mp c5)).symm) (by rfl))
theorem c_X10_memoryAt {D : Nat → Nat → Int32} {e : am_E} {kc ks : Nat} {Q : am_Q} {k : Int32}  (q : Q (some (.int (if (0 ≤ k ∧ k < 64) ∧ D 63 k.toNatClampNeg = 0 then D 64 k.toNatClampNeg else 0))) (hp D e)) : am_Go (mX10_memoryAt, 0, am_ent mX10_memoryAt [.ref 59, .int k], [], hp D e, kc, ks, Q) := by
  refine go_s 1 rfl ?_
  refine go_st kX10_memoryAt_1 okX4_isMemoryWord rfl rfl rfl (Nat.zero_le _) (Nat.zero_le _) ?_
  refine c_X4_isMemoryWord ?_
  refine go_s 1 rfl ?_
  refine go_if (fun c4 => ?_) (fun c4 => ?_)
  · refine go_s 1 rfl ?_
    exact go_ret rfl rfl (am_qi q (by first | exact (if_neg (fun z => zb_0.mp c4 z.1)).symm | exact (if_pos ⟨zb_ne.mp c4, by assumption⟩).symm | exact (if_neg (fun z => absurd z.2 (by assumption))).symm) (by rfl))
  · refine go_s 3 rfl ?_
    refine go_m rfl rfl (show vp_in _ 64 from vpl c4 (by decide)) ?_
    refine go_s 1 rfl ?_
    refine go_if (fun c13 => ?_) (fun c13 => ?_)
    · refine go_s 3 rfl ?_
      refine go_m rfl rfl (show vp_in _ 64 from vpl c4 (by decide)) ?_
      refine go_s 1 rfl ?_
      exact go_ret rfl rfl (am_qi q (by first | exact (if_neg (fun z => zb_0.mp c4 z.1)).symm | exact (if_pos ⟨zb_ne.mp c4, by assumption⟩).symm | exact (if_neg (fun z => absurd z.2 (by assumption))).symm) (by rfl))
    · refine go_s 1 rfl ?_
      exact go_ret rfl rfl (am_qi q (by first | exact (if_neg (fun z => zb_0.mp c4 z.1)).symm | exact (if_pos ⟨zb_ne.mp c4, by assumption⟩).symm | exact (if_neg (fun z => absurd z.2 (by assumption))).symm) (by rfl))
theorem c_X10_goTo {D : Nat → Nat → Int32} {e : am_E} {kc ks : Nat} {Q : am_Q} {f g : Int32}  (q : Q (some (.int (3))) (hp (am_u (am_u D 59 10 f) 59 11 g) e)) : am_Go (mX10_goTo, 0, am_ent mX10_goTo [.ref 59, .int f, .int g], [], hp D e, kc, ks, Q) := by
  refine go_s 7 rfl ?_
  exact go_ret rfl rfl (am_qi q (by rfl) (by rfl))
theorem c_X10_goOn {D : Nat → Nat → Int32} {e : am_E} {kc ks : Nat} {Q : am_Q}   (q : Q (some (.int (3))) (hp (am_u D 59 11 (D 59 11 + 1)) e)) : am_Go (mX10_goOn, 0, am_ent mX10_goOn [.ref 59], [], hp D e, kc, ks, Q) := by
  refine go_s 7 rfl ?_
  exact go_ret rfl rfl (am_qi q (by rfl) (by rfl))
def am_wr (D : Nat → Nat → Int32) (k s v : Int32) : Nat → Nat → Int32 := if ¬ k = 0 ∧ 0 ≤ k ∧ k < 32 then am_u (am_u D 61 k.toNatClampNeg s) 62 k.toNatClampNeg v else D
theorem c_X10_write {D : Nat → Nat → Int32} {e : am_E} {kc ks : Nat} {Q : am_Q} {k s v : Int32}  (q : Q none (hp (am_wr D k s v) e)) : am_Go (mX10_write, 0, am_ent mX10_write [.ref 59, .int k, .int s, .int v], [], hp D e, kc, ks, Q) := by
  refine go_s 2 rfl ?_
  refine go_if (fun c1 => ?_) (fun c1 => ?_)
  · exact go_retv rfl rfl (am_qv q (by first | exact am_hD (if_neg (fun z => z.1 (by assumption))).symm | exact am_hD (if_neg (fun z => zb_0.mp c8 z.2)).symm | exact am_hD (if_pos ⟨by assumption, zb_ne.mp c8⟩).symm))
  · refine go_s 1 rfl ?_
    refine go_st kX10_write_5 okX4_isRegister rfl rfl rfl (Nat.zero_le _) (Nat.zero_le _) ?_
    refine c_X4_isRegister ?_
    refine go_s 1 rfl ?_
    refine go_if (fun c8 => ?_) (fun c8 => ?_)
    · exact go_retv rfl rfl (am_qv q (by first | exact am_hD (if_neg (fun z => z.1 (by assumption))).symm | exact am_hD (if_neg (fun z => zb_0.mp c8 z.2)).symm | exact am_hD (if_pos ⟨by assumption, zb_ne.mp c8⟩).symm))
    · refine go_s 4 rfl ?_
      refine go_m rfl rfl (show vp_in _ 32 from vpl c8 (by decide)) ?_
      refine go_s 4 rfl ?_
      refine go_m rfl rfl (show vp_in _ 32 from vpl c8 (by decide)) ?_
      exact go_retv rfl rfl (am_qv q (by first | exact am_hD (if_neg (fun z => z.1 (by assumption))).symm | exact am_hD (if_neg (fun z => zb_0.mp c8 z.2)).symm | exact am_hD (if_pos ⟨by assumption, zb_ne.mp c8⟩).symm))
theorem c_X10_writeAndGoOn {D : Nat → Nat → Int32} {e : am_E} {kc ks : Nat} {Q : am_Q} {k s v : Int32}  (q : Q (some (.int (3))) (hp (am_u (am_wr D k s v) 59 11 (am_wr D k s v 59 11 + 1)) e)) : am_Go (mX10_writeAndGoOn, 0, am_ent mX10_writeAndGoOn [.ref 59, .int k, .int s, .int v], [], hp D e, kc, ks, Q) := by
  refine go_s 4 rfl ?_
  refine go_v kX10_writeAndGoOn_4 okX10_write rfl rfl rfl rfl (Nat.zero_le _) (Nat.zero_le _) ?_
  refine c_X10_write ?_
  refine go_s 1 rfl ?_
  refine go_v kX10_writeAndGoOn_8 okX10_goOn rfl rfl rfl rfl (Nat.zero_le _) (Nat.zero_le _) ?_
  refine c_X10_goOn ?_
  exact go_ret rfl rfl (am_qi q (by rfl) (by rfl))
theorem c_X10_callFunction {D : Nat → Nat → Int32} {e : am_E} {kc ks : Nat} {Q : am_Q} {f : Int32}  (q : Q (some (.int (3))) (hp (am_u (am_u (am_wr D 1 2 (D 59 10 <<< (6 : Int32) ||| (D 59 11 + 1))) 59 10 f) 59 11 0) e)) : am_Go (mX10_callFunction, 0, am_ent mX10_callFunction [.ref 59, .int f], [], hp D e, kc, ks, Q) := by
  refine go_s 12 rfl ?_
  refine go_v kX10_callFunction_17 okX10_write rfl rfl rfl rfl (Nat.zero_le _) (Nat.zero_le _) ?_
  refine c_X10_write ?_
  refine go_s 3 rfl ?_
  refine go_v kX10_callFunction_23 okX10_goTo rfl rfl rfl rfl (Nat.zero_le _) (Nat.zero_le _) ?_
  refine c_X10_goTo ?_
  exact go_ret rfl rfl (am_qi q (by rfl) (by rfl))
end
section
theorem am_qp {Q : am_Q} {e : am_E} {p : Int32 × (Nat → Nat → Int32)} {b : Int32} {D' : Nat → Nat → Int32} (q : Q (some (.int p.1)) (hp p.2 e)) (h : p = (b, D')) : Q (some (.int b)) (hp D' e) := by
  subst h; exact q
theorem am_qp2 {Q : am_Q} {e : am_E} {p p' : Int32 × (Nat → Nat → Int32)} (q : Q (some (.int p.1)) (hp p.2 e)) (h : p = p') : Q (some (.int p'.1)) (hp p'.2 e) := by
  subst h; exact q
def am_go (D : Nat → Nat → Int32) : Nat → Nat → Int32 := am_u D 59 11 (D 59 11 + 1)
def am_mix (n : Int32) : Int32 := if n &&& (3 : Int32) = 0 ∧ (0 ≤ (n - 65536) >>> (2 : Int32) ∧ (n - 65536) >>> (2 : Int32) < 64) then (n - 65536) >>> (2 : Int32) else -1
def am_mio (D : Nat → Nat → Int32) (s : Int32) : Int32 := if am_srt D (am_fb D s) = 0 then am_mix (am_val D (am_fb D s) + am_fc D s) else -1
def am_tld (D : Nat → Nat → Int32) (s : Int32) : Int32 × (Nat → Nat → Int32) := if 0 ≤ am_mio D s ∧ am_mio D s < 64 then (3, am_go (am_wr D (am_fa D s) (D 63 (am_mio D s).toNatClampNeg) (D 64 (am_mio D s).toNatClampNeg))) else (2, D)
def am_tst (D : Nat → Nat → Int32) (s : Int32) : Int32 × (Nat → Nat → Int32) := if 0 ≤ am_mio D s ∧ am_mio D s < 64 then (3, am_go (am_u (am_u D 63 (am_mio D s).toNatClampNeg (am_srt D (am_fa D s))) 64 (am_mio D s).toNatClampNeg (am_val D (am_fa D s)))) else (2, D)
def am_tca (D : Nat → Nat → Int32) (s n : Int32) : Int32 × (Nat → Nat → Int32) := if n = 10 ∧ am_fc D s = 0 then (3, am_go (am_wr D (am_fa D s) (am_srt D (am_fb D s)) (am_val D (am_fb D s)))) else if n < 10 then (if am_srt D (am_fb D s) = 0 ∧ am_srt D (am_fc D s) = 0 then (3, am_go (am_wr D (am_fa D s) 0 (am_calc (am_sel n) (am_othz n) (am_val D (am_fb D s)) (am_val D (am_fc D s))))) else (2, D)) else (if am_srt D (am_fb D s) = 0 then (3, am_go (am_wr D (am_fa D s) 0 (am_calc (am_sel n) (am_othz n) (am_val D (am_fb D s)) (am_fc D s)))) else (2, D))
def am_tbr (D : Nat → Nat → Int32) (s n : Int32) : Int32 × (Nat → Nat → Int32) := if (am_srt D (am_fa D s) = 0 ∧ am_srt D (am_fb D s) = 0) ∨ ((am_srt D (am_fa D s) = 1 ∧ am_srt D (am_fb D s) = 1) ∧ (n = 22 ∨ n = 23)) then (if am_brs (am_sel n) (am_val D (am_fa D s)) (am_val D (am_fb D s)) = 0 then (3, am_go D) else (3, am_u (am_u D 59 10 (D 59 10)) 59 11 (am_fc D s))) else (2, D)
def am_tgb (D : Nat → Nat → Int32) : Int32 × (Nat → Nat → Int32) := if am_srt D 1 = 2 then (if am_val D 1 = -1 then (0, D) else (3, am_u (am_u D 59 10 (am_val D 1 >>> (6 : Int32))) 59 11 (am_val D 1 &&& (63 : Int32)))) else (2, D)
def am_kp (D : Nat → Nat → Int32) (v : Int32) : Nat → Nat → Int32 := am_u (if ¬ D 59 4 < 0 ∧ D 59 4 < 200 then am_u D 60 (D 59 4).toNatClampNeg v else D) 59 4 (D 59 4 + 1)
def am_tpr (D : Nat → Nat → Int32) : Int32 × (Nat → Nat → Int32) := if am_srt D 10 = 0 then (3, am_go (am_kp D (am_val D 10))) else (2, D)
theorem c_X10_memoryIndexOf {D : Nat → Nat → Int32} {e : am_E} {kc ks : Nat} {Q : am_Q} {s : Int32} (hS : (D 1 6).toInt ≤ 300) (q : Q (some (.int (am_mio D s))) (hp D e)) : am_Go (mX10_memoryIndexOf, 0, am_ent mX10_memoryIndexOf [.ref 59, .int s], [], hp D e, kc, ks, Q) := by
  refine go_s 3 rfl ?_
  refine go_v kX10_memoryIndexOf_5 okX5_bAt rfl rfl rfl rfl (Nat.zero_le _) (Nat.zero_le _) ?_
  refine c_X5_bAt hS ?_
  refine go_s 3 rfl ?_
  refine go_v kX10_memoryIndexOf_11 okX10_isNumber rfl rfl rfl rfl (Nat.zero_le _) (Nat.zero_le _) ?_
  refine c_X10_isNumber ?_
  refine go_s 1 rfl ?_
  refine go_if (fun c14 => ?_) (fun c14 => ?_)
  · refine go_s 1 rfl ?_
    exact go_ret rfl rfl (am_qi q (by first | exact (if_pos (zb_ne.mp c14)).symm | exact (if_neg (zb_0.mp c14)).symm) (by rfl))
  · refine go_s 2 rfl ?_
    refine go_v kX10_memoryIndexOf_19 okX10_valueIn rfl rfl rfl rfl (Nat.zero_le _) (Nat.zero_le _) ?_
    refine c_X10_valueIn ?_
    refine go_s 3 rfl ?_
    refine go_v kX10_memoryIndexOf_27 okX5_cAt rfl rfl rfl rfl (Nat.zero_le _) (Nat.zero_le _) ?_
    refine c_X5_cAt hS ?_
    refine go_s 1 rfl ?_
    refine go_st kX10_memoryIndexOf_31 okX4_memoryIndex rfl rfl rfl (Nat.zero_le _) (Nat.zero_le _) ?_
    refine c_X4_memoryIndex ?_
    refine go_s 1 rfl ?_
    exact go_ret rfl rfl (am_qi q (by first | exact (if_pos (zb_ne.mp c14)).symm | exact (if_neg (zb_0.mp c14)).symm) (by rfl))
theorem c_X10_load {D : Nat → Nat → Int32} {e : am_E} {kc ks : Nat} {Q : am_Q} {s : Int32} (hS : (D 1 6).toInt ≤ 300) (q : Q (some (.int ((am_tld D s).1))) (hp (am_tld D s).2 e)) : am_Go (mX10_load, 0, am_ent mX10_load [.ref 59, .int s], [], hp D e, kc, ks, Q) := by
  refine go_s 2 rfl ?_
  refine go_v kX10_load_2 okX10_memoryIndexOf rfl rfl rfl rfl (Nat.zero_le _) (Nat.zero_le _) ?_
  refine c_X10_memoryIndexOf hS ?_
  refine go_s 2 rfl ?_
  refine go_st kX10_load_7 okX4_isMemoryWord rfl rfl rfl (Nat.zero_le _) (Nat.zero_le _) ?_
  refine c_X4_isMemoryWord ?_
  refine go_s 1 rfl ?_
  refine go_if (fun c10 => ?_) (fun c10 => ?_)
  · refine go_s 1 rfl ?_
    exact go_ret rfl rfl (am_qp q (by first | exact if_pos (zb_ne.mp c10) | exact if_neg (zb_0.mp c10)))
  · refine go_s 4 rfl ?_
    refine go_v kX10_load_21 okX5_aAt rfl rfl rfl rfl (Nat.zero_le _) (Nat.zero_le _) ?_
    refine c_X5_aAt hS ?_
    refine go_s 3 rfl ?_
    refine go_m rfl rfl (show vp_in _ 64 from vpl c10 (by decide)) ?_
    refine go_s 3 rfl ?_
    refine go_m rfl rfl (show vp_in _ 64 from vpl c10 (by decide)) ?_
    refine go_v kX10_load_36 okX10_writeAndGoOn rfl rfl rfl rfl (Nat.zero_le _) (Nat.zero_le _) ?_
    refine c_X10_writeAndGoOn ?_
    exact go_ret rfl rfl (am_qp q (by first | exact if_pos (zb_ne.mp c10) | exact if_neg (zb_0.mp c10)))
theorem c_X10_store {D : Nat → Nat → Int32} {e : am_E} {kc ks : Nat} {Q : am_Q} {s : Int32} (hS : (D 1 6).toInt ≤ 300) (q : Q (some (.int ((am_tst D s).1))) (hp (am_tst D s).2 e)) : am_Go (mX10_store, 0, am_ent mX10_store [.ref 59, .int s], [], hp D e, kc, ks, Q) := by
  refine go_s 2 rfl ?_
  refine go_v kX10_store_2 okX10_memoryIndexOf rfl rfl rfl rfl (Nat.zero_le _) (Nat.zero_le _) ?_
  refine c_X10_memoryIndexOf hS ?_
  refine go_s 2 rfl ?_
  refine go_st kX10_store_7 okX4_isMemoryWord rfl rfl rfl (Nat.zero_le _) (Nat.zero_le _) ?_
  refine c_X4_isMemoryWord ?_
  refine go_s 1 rfl ?_
  refine go_if (fun c10 => ?_) (fun c10 => ?_)
  · refine go_s 1 rfl ?_
    exact go_ret rfl rfl (am_qp q (by first | exact if_pos (zb_ne.mp c10) | exact if_neg (zb_0.mp c10)))
  · refine go_s 7 rfl ?_
    refine go_v kX10_store_26 okX5_aAt rfl rfl rfl rfl (Nat.zero_le _) (Nat.zero_le _) ?_
    refine c_X5_aAt hS ?_
    refine go_v kX10_store_29 okX10_sortIn rfl rfl rfl rfl (Nat.zero_le _) (Nat.zero_le _) ?_
    refine c_X10_sortIn ?_
    refine go_m rfl rfl (show vp_in _ 64 from vpl c10 (by decide)) ?_
    refine go_s 7 rfl ?_
    refine go_v kX10_store_44 okX5_aAt rfl rfl rfl rfl (Nat.zero_le _) (Nat.zero_le _) ?_
    refine c_X5_aAt hS ?_
    refine go_v kX10_store_47 okX10_valueIn rfl rfl rfl rfl (Nat.zero_le _) (Nat.zero_le _) ?_
    refine c_X10_valueIn ?_
    refine go_m rfl rfl (show vp_in _ 64 from vpl c10 (by decide)) ?_
    refine go_s 1 rfl ?_
    refine go_v kX10_store_52 okX10_goOn rfl rfl rfl rfl (Nat.zero_le _) (Nat.zero_le _) ?_
    refine c_X10_goOn ?_
    exact go_ret rfl rfl (am_qp q (by first | exact if_pos (zb_ne.mp c10) | exact if_neg (zb_0.mp c10)))
theorem c_X10_goBack {D : Nat → Nat → Int32} {e : am_E} {kc ks : Nat} {Q : am_Q}   (q : Q (some (.int ((am_tgb D).1))) (hp (am_tgb D).2 e)) : am_Go (mX10_goBack, 0, am_ent mX10_goBack [.ref 59], [], hp D e, kc, ks, Q) := by
  refine go_s 2 rfl ?_
  refine go_v kX10_goBack_2 okX10_sortIn rfl rfl rfl rfl (Nat.zero_le _) (Nat.zero_le _) ?_
  refine c_X10_sortIn ?_
  refine go_s 2 rfl ?_
  refine go_if (fun c6 => ?_) (fun c6 => ?_)
  · refine go_s 2 rfl ?_
    refine go_v kX10_goBack_13 okX10_valueIn rfl rfl rfl rfl (Nat.zero_le _) (Nat.zero_le _) ?_
    refine c_X10_valueIn ?_
    refine go_s 4 rfl ?_
    refine go_if (fun c19 => ?_) (fun c19 => ?_)
    · refine go_s 2 rfl ?_
      exact go_ret rfl rfl (am_qp q (by unfold am_tgb; first | exact if_neg (by assumption) | (refine (if_pos (by assumption)).trans ?_; first | exact if_pos (by assumption) | exact if_neg (by assumption))))
    · refine go_s 7 rfl ?_
      refine go_v kX10_goBack_35 okX10_goTo rfl rfl rfl rfl (Nat.zero_le _) (Nat.zero_le _) ?_
      refine c_X10_goTo ?_
      exact go_ret rfl rfl (am_qp q (by unfold am_tgb; first | exact if_neg (by assumption) | (refine (if_pos (by assumption)).trans ?_; first | exact if_pos (by assumption) | exact if_neg (by assumption))))
  · refine go_s 1 rfl ?_
    exact go_ret rfl rfl (am_qp q (by unfold am_tgb; first | exact if_neg (by assumption) | (refine (if_pos (by assumption)).trans ?_; first | exact if_pos (by assumption) | exact if_neg (by assumption))))
theorem c_X10_print {D : Nat → Nat → Int32} {e : am_E} {kc ks : Nat} {Q : am_Q}   (q : Q (some (.int ((am_tpr D).1))) (hp (am_tpr D).2 e)) : am_Go (mX10_print, 0, am_ent mX10_print [.ref 59], [], hp D e, kc, ks, Q) := by
  refine go_s 2 rfl ?_
  refine go_v kX10_print_3 okX10_isNumber rfl rfl rfl rfl (Nat.zero_le _) (Nat.zero_le _) ?_
  refine c_X10_isNumber ?_
  refine go_s 1 rfl ?_
  refine go_if (fun c6 => ?_) (fun c6 => ?_)
  · refine go_s 1 rfl ?_
    exact go_ret rfl rfl (am_qp q (by first | exact if_pos (zb_ne.mp c6) | exact if_neg (zb_0.mp c6)))
  · refine go_s 3 rfl ?_
    refine go_v kX10_print_15 okX10_valueIn rfl rfl rfl rfl (Nat.zero_le _) (Nat.zero_le _) ?_
    refine c_X10_valueIn ?_
    refine go_u kX10_print_18_7 okX4_keepPrint rfl rfl rfl rfl (Nat.zero_le _) (Nat.zero_le _) ?_
    refine c_X4_keepPrint_59 ?_
    refine go_s 1 rfl ?_
    refine go_v kX10_print_22 okX10_goOn rfl rfl rfl rfl (Nat.zero_le _) (Nat.zero_le _) ?_
    refine c_X10_goOn ?_
    exact go_ret rfl rfl (am_qp q (by first | exact if_pos (zb_ne.mp c6) | exact if_neg (zb_0.mp c6)))
theorem c_X10_calculate {D : Nat → Nat → Int32} {e : am_E} {kc ks : Nat} {Q : am_Q} {s n : Int32} (hS : (D 1 6).toInt ≤ 300) (q : Q (some (.int ((am_tca D s n).1))) (hp (am_tca D s n).2 e)) : am_Go (mX10_calculate, 0, am_ent mX10_calculate [.ref 59, .int s, .int n], [], hp D e, kc, ks, Q) := by
  refine go_s 3 rfl ?_
  refine go_v kX10_calculate_5 okX5_aAt rfl rfl rfl rfl (Nat.zero_le _) (Nat.zero_le _) ?_
  refine c_X5_aAt hS ?_
  refine go_s 4 rfl ?_
  refine go_v kX10_calculate_14 okX5_bAt rfl rfl rfl rfl (Nat.zero_le _) (Nat.zero_le _) ?_
  refine c_X5_bAt hS ?_
  refine go_s 4 rfl ?_
  refine go_v kX10_calculate_24 okX5_cAt rfl rfl rfl rfl (Nat.zero_le _) (Nat.zero_le _) ?_
  refine c_X5_cAt hS ?_
  refine go_s 4 rfl ?_
  refine go_if (fun c32 => ?_) (fun c32 => ?_)
  · refine go_s 2 rfl ?_
    refine go_if (fun c37 => ?_) (fun c37 => ?_)
    · refine go_s 4 rfl ?_
      refine go_v kX10_calculate_45 okX10_sortIn rfl rfl rfl rfl (Nat.zero_le _) (Nat.zero_le _) ?_
      refine c_X10_sortIn ?_
      refine go_s 2 rfl ?_
      refine go_v kX10_calculate_51 okX10_valueIn rfl rfl rfl rfl (Nat.zero_le _) (Nat.zero_le _) ?_
      refine c_X10_valueIn ?_
      refine go_v kX10_calculate_54 okX10_writeAndGoOn rfl rfl rfl rfl (Nat.zero_le _) (Nat.zero_le _) ?_
      refine c_X10_writeAndGoOn ?_
      exact go_ret rfl rfl (am_qp q (by simp_all [am_tca, zb, am_go, hp, ← Int32.not_lt]))
    · refine go_s 3 rfl ?_
      refine go_if (fun c61 => ?_) (fun c61 => ?_)
      · refine go_s 5 rfl ?_
        refine go_v kX10_calculate_74 okX10_isNumber rfl rfl rfl rfl (Nat.zero_le _) (Nat.zero_le _) ?_
        refine c_X10_isNumber ?_
        refine go_s 1 rfl ?_
        refine go_if (fun c77 => ?_) (fun c77 => ?_)
        · refine go_s 1 rfl ?_
          exact go_ret rfl rfl (am_qp q (by simp_all [am_tca, zb, am_go, hp, ← Int32.not_lt]))
        · refine go_s 2 rfl ?_
          refine go_if (fun c82 => absurd c82 (by decide)) (fun c82 => ?_)
          refine go_s 2 rfl ?_
          refine go_v kX10_calculate_88 okX10_isNumber rfl rfl rfl rfl (Nat.zero_le _) (Nat.zero_le _) ?_
          refine c_X10_isNumber ?_
          refine go_s 1 rfl ?_
          refine go_if (fun c91 => ?_) (fun c91 => ?_)
          · refine go_s 1 rfl ?_
            exact go_ret rfl rfl (am_qp q (by simp_all [am_tca, zb, am_go, hp, ← Int32.not_lt]))
          · refine go_s 2 rfl ?_
            refine go_if (fun c98 => absurd c98 (by decide)) (fun c98 => ?_)
            refine go_s 2 rfl ?_
            refine go_v kX10_calculate_104 okX10_valueIn rfl rfl rfl rfl (Nat.zero_le _) (Nat.zero_le _) ?_
            refine c_X10_valueIn ?_
            refine go_s 3 rfl ?_
            refine go_st kX10_calculate_115 okX8_selectorOf rfl rfl rfl (Nat.zero_le _) (Nat.zero_le _) ?_
            refine c_X8_selectorOf ?_
            refine go_s 3 rfl ?_
            refine go_st kX10_calculate_123 okX8_isOther rfl rfl rfl (Nat.zero_le _) (Nat.zero_le _) ?_
            refine c_X8_isOther ?_
            refine go_s 2 rfl ?_
            refine go_v kX10_calculate_129 okX10_valueIn rfl rfl rfl rfl (Nat.zero_le _) (Nat.zero_le _) ?_
            refine c_X10_valueIn ?_
            refine go_s 1 rfl ?_
            refine go_st kX10_calculate_134 okX8_calculate rfl rfl rfl (Nat.zero_le _) (Nat.zero_le _) ?_
            refine c_X8_calculate ?_
            refine go_s 5 rfl ?_
            refine go_v kX10_calculate_144 okX10_writeAndGoOn rfl rfl rfl rfl (Nat.zero_le _) (Nat.zero_le _) ?_
            refine c_X10_writeAndGoOn ?_
            exact go_ret rfl rfl (am_qp q (by simp_all [am_tca, zb, am_go, hp, ← Int32.not_lt]))
      · refine go_s 4 rfl ?_
        refine go_v kX10_calculate_74 okX10_isNumber rfl rfl rfl rfl (Nat.zero_le _) (Nat.zero_le _) ?_
        refine c_X10_isNumber ?_
        refine go_s 1 rfl ?_
        refine go_if (fun c77 => ?_) (fun c77 => ?_)
        · refine go_s 1 rfl ?_
          exact go_ret rfl rfl (am_qp q (by simp_all [am_tca, zb, am_go, hp, ← Int32.not_lt]))
        · refine go_s 2 rfl ?_
          refine go_if (fun c82 => ?_) (fun c82 => absurd (by decide) c82)
          refine go_s 2 rfl ?_
          refine go_if (fun c98 => ?_) (fun c98 => absurd (by decide) c98)
          refine go_s 3 rfl ?_
          refine go_st kX10_calculate_115 okX8_selectorOf rfl rfl rfl (Nat.zero_le _) (Nat.zero_le _) ?_
          refine c_X8_selectorOf ?_
          refine go_s 3 rfl ?_
          refine go_st kX10_calculate_123 okX8_isOther rfl rfl rfl (Nat.zero_le _) (Nat.zero_le _) ?_
          refine c_X8_isOther ?_
          refine go_s 2 rfl ?_
          refine go_v kX10_calculate_129 okX10_valueIn rfl rfl rfl rfl (Nat.zero_le _) (Nat.zero_le _) ?_
          refine c_X10_valueIn ?_
          refine go_s 1 rfl ?_
          refine go_st kX10_calculate_134 okX8_calculate rfl rfl rfl (Nat.zero_le _) (Nat.zero_le _) ?_
          refine c_X8_calculate ?_
          refine go_s 5 rfl ?_
          refine go_v kX10_calculate_144 okX10_writeAndGoOn rfl rfl rfl rfl (Nat.zero_le _) (Nat.zero_le _) ?_
          refine c_X10_writeAndGoOn ?_
          exact go_ret rfl rfl (am_qp q (by simp_all [am_tca, zb, am_go, hp, ← Int32.not_lt]))
  · refine go_s 3 rfl ?_
    refine go_if (fun c61 => ?_) (fun c61 => ?_)
    · refine go_s 5 rfl ?_
      refine go_v kX10_calculate_74 okX10_isNumber rfl rfl rfl rfl (Nat.zero_le _) (Nat.zero_le _) ?_
      refine c_X10_isNumber ?_
      refine go_s 1 rfl ?_
      refine go_if (fun c77 => ?_) (fun c77 => ?_)
      · refine go_s 1 rfl ?_
        exact go_ret rfl rfl (am_qp q (by simp_all [am_tca, zb, am_go, hp, ← Int32.not_lt]))
      · refine go_s 2 rfl ?_
        refine go_if (fun c82 => absurd c82 (by decide)) (fun c82 => ?_)
        refine go_s 2 rfl ?_
        refine go_v kX10_calculate_88 okX10_isNumber rfl rfl rfl rfl (Nat.zero_le _) (Nat.zero_le _) ?_
        refine c_X10_isNumber ?_
        refine go_s 1 rfl ?_
        refine go_if (fun c91 => ?_) (fun c91 => ?_)
        · refine go_s 1 rfl ?_
          exact go_ret rfl rfl (am_qp q (by simp_all [am_tca, zb, am_go, hp, ← Int32.not_lt]))
        · refine go_s 2 rfl ?_
          refine go_if (fun c98 => absurd c98 (by decide)) (fun c98 => ?_)
          refine go_s 2 rfl ?_
          refine go_v kX10_calculate_104 okX10_valueIn rfl rfl rfl rfl (Nat.zero_le _) (Nat.zero_le _) ?_
          refine c_X10_valueIn ?_
          refine go_s 3 rfl ?_
          refine go_st kX10_calculate_115 okX8_selectorOf rfl rfl rfl (Nat.zero_le _) (Nat.zero_le _) ?_
          refine c_X8_selectorOf ?_
          refine go_s 3 rfl ?_
          refine go_st kX10_calculate_123 okX8_isOther rfl rfl rfl (Nat.zero_le _) (Nat.zero_le _) ?_
          refine c_X8_isOther ?_
          refine go_s 2 rfl ?_
          refine go_v kX10_calculate_129 okX10_valueIn rfl rfl rfl rfl (Nat.zero_le _) (Nat.zero_le _) ?_
          refine c_X10_valueIn ?_
          refine go_s 1 rfl ?_
          refine go_st kX10_calculate_134 okX8_calculate rfl rfl rfl (Nat.zero_le _) (Nat.zero_le _) ?_
          refine c_X8_calculate ?_
          refine go_s 5 rfl ?_
          refine go_v kX10_calculate_144 okX10_writeAndGoOn rfl rfl rfl rfl (Nat.zero_le _) (Nat.zero_le _) ?_
          refine c_X10_writeAndGoOn ?_
          exact go_ret rfl rfl (am_qp q (by simp_all [am_tca, zb, am_go, hp, ← Int32.not_lt]))
    · refine go_s 4 rfl ?_
      refine go_v kX10_calculate_74 okX10_isNumber rfl rfl rfl rfl (Nat.zero_le _) (Nat.zero_le _) ?_
      refine c_X10_isNumber ?_
      refine go_s 1 rfl ?_
      refine go_if (fun c77 => ?_) (fun c77 => ?_)
      · refine go_s 1 rfl ?_
        exact go_ret rfl rfl (am_qp q (by simp_all [am_tca, zb, am_go, hp, ← Int32.not_lt]))
      · refine go_s 2 rfl ?_
        refine go_if (fun c82 => ?_) (fun c82 => absurd (by decide) c82)
        refine go_s 2 rfl ?_
        refine go_if (fun c98 => ?_) (fun c98 => absurd (by decide) c98)
        refine go_s 3 rfl ?_
        refine go_st kX10_calculate_115 okX8_selectorOf rfl rfl rfl (Nat.zero_le _) (Nat.zero_le _) ?_
        refine c_X8_selectorOf ?_
        refine go_s 3 rfl ?_
        refine go_st kX10_calculate_123 okX8_isOther rfl rfl rfl (Nat.zero_le _) (Nat.zero_le _) ?_
        refine c_X8_isOther ?_
        refine go_s 2 rfl ?_
        refine go_v kX10_calculate_129 okX10_valueIn rfl rfl rfl rfl (Nat.zero_le _) (Nat.zero_le _) ?_
        refine c_X10_valueIn ?_
        refine go_s 1 rfl ?_
        refine go_st kX10_calculate_134 okX8_calculate rfl rfl rfl (Nat.zero_le _) (Nat.zero_le _) ?_
        refine c_X8_calculate ?_
        refine go_s 5 rfl ?_
        refine go_v kX10_calculate_144 okX10_writeAndGoOn rfl rfl rfl rfl (Nat.zero_le _) (Nat.zero_le _) ?_
        refine c_X10_writeAndGoOn ?_
        exact go_ret rfl rfl (am_qp q (by simp_all [am_tca, zb, am_go, hp, ← Int32.not_lt]))
theorem c_X10_branch {D : Nat → Nat → Int32} {e : am_E} {kc ks : Nat} {Q : am_Q} {s n : Int32} (hS : (D 1 6).toInt ≤ 300) (q : Q (some (.int ((am_tbr D s n).1))) (hp (am_tbr D s n).2 e)) : am_Go (mX10_branch, 0, am_ent mX10_branch [.ref 59, .int s, .int n], [], hp D e, kc, ks, Q) := by
  refine go_s 3 rfl ?_
  refine go_v kX10_branch_5 okX5_aAt rfl rfl rfl rfl (Nat.zero_le _) (Nat.zero_le _) ?_
  refine c_X5_aAt hS ?_
  refine go_s 4 rfl ?_
  refine go_v kX10_branch_14 okX5_bAt rfl rfl rfl rfl (Nat.zero_le _) (Nat.zero_le _) ?_
  refine c_X5_bAt hS ?_
  refine go_s 3 rfl ?_
  refine go_v kX10_branch_21 okX10_isNumber rfl rfl rfl rfl (Nat.zero_le _) (Nat.zero_le _) ?_
  refine c_X10_isNumber ?_
  refine go_s 1 rfl ?_
  refine go_if (fun c24 => ?_) (fun c24 => ?_)
  · refine go_s 4 rfl ?_
    refine go_v kX10_branch_45 okX10_sortIn rfl rfl rfl rfl (Nat.zero_le _) (Nat.zero_le _) ?_
    refine c_X10_sortIn ?_
    refine go_s 2 rfl ?_
    refine go_if (fun c49 => ?_) (fun c49 => ?_)
    · refine go_s 2 rfl ?_
      refine go_v kX10_branch_55 okX10_sortIn rfl rfl rfl rfl (Nat.zero_le _) (Nat.zero_le _) ?_
      refine c_X10_sortIn ?_
      refine go_s 2 rfl ?_
      refine go_if (fun c59 => ?_) (fun c59 => ?_)
      · refine go_s 6 rfl ?_
        refine go_if (fun c72 => ?_) (fun c72 => ?_)
        · refine go_s 5 rfl ?_
          refine go_if (fun c90 => ?_) (fun c90 => absurd (by decide) c90)
          refine go_s 2 rfl ?_
          refine go_if (fun c95 => absurd c95 (by decide)) (fun c95 => ?_)
          refine go_s 2 rfl ?_
          refine go_if (fun c100 => absurd c100 (by decide)) (fun c100 => ?_)
          refine go_s 1 rfl ?_
          refine go_st kX10_branch_106 okX8_selectorOf rfl rfl rfl (Nat.zero_le _) (Nat.zero_le _) ?_
          refine c_X8_selectorOf ?_
          refine go_s 2 rfl ?_
          refine go_v kX10_branch_111 okX10_valueIn rfl rfl rfl rfl (Nat.zero_le _) (Nat.zero_le _) ?_
          refine c_X10_valueIn ?_
          refine go_s 2 rfl ?_
          refine go_v kX10_branch_117 okX10_valueIn rfl rfl rfl rfl (Nat.zero_le _) (Nat.zero_le _) ?_
          refine c_X10_valueIn ?_
          refine go_st kX10_branch_120 okX8_branches rfl rfl rfl (Nat.zero_le _) (Nat.zero_le _) ?_
          refine c_X8_branches ?_
          refine go_s 1 rfl ?_
          refine go_if (fun c123 => ?_) (fun c123 => ?_)
          · refine go_s 1 rfl ?_
            refine go_v kX10_branch_144 okX10_goOn rfl rfl rfl rfl (Nat.zero_le _) (Nat.zero_le _) ?_
            refine c_X10_goOn ?_
            exact go_ret rfl rfl (am_qp q (by simp_all [am_tbr, zb, am_go, hp]))
          · refine go_s 6 rfl ?_
            refine go_v kX10_branch_136 okX5_cAt rfl rfl rfl rfl (Nat.zero_le _) (Nat.zero_le _) ?_
            refine c_X5_cAt hS ?_
            refine go_v kX10_branch_139 okX10_goTo rfl rfl rfl rfl (Nat.zero_le _) (Nat.zero_le _) ?_
            refine c_X10_goTo ?_
            exact go_ret rfl rfl (am_qp q (by simp_all [am_tbr, zb, am_go, hp]))
        · refine go_s 3 rfl ?_
          refine go_if (fun c78 => ?_) (fun c78 => ?_)
          · refine go_s 5 rfl ?_
            refine go_if (fun c90 => ?_) (fun c90 => absurd (by decide) c90)
            refine go_s 2 rfl ?_
            refine go_if (fun c95 => absurd c95 (by decide)) (fun c95 => ?_)
            refine go_s 2 rfl ?_
            refine go_if (fun c100 => absurd c100 (by decide)) (fun c100 => ?_)
            refine go_s 1 rfl ?_
            refine go_st kX10_branch_106 okX8_selectorOf rfl rfl rfl (Nat.zero_le _) (Nat.zero_le _) ?_
            refine c_X8_selectorOf ?_
            refine go_s 2 rfl ?_
            refine go_v kX10_branch_111 okX10_valueIn rfl rfl rfl rfl (Nat.zero_le _) (Nat.zero_le _) ?_
            refine c_X10_valueIn ?_
            refine go_s 2 rfl ?_
            refine go_v kX10_branch_117 okX10_valueIn rfl rfl rfl rfl (Nat.zero_le _) (Nat.zero_le _) ?_
            refine c_X10_valueIn ?_
            refine go_st kX10_branch_120 okX8_branches rfl rfl rfl (Nat.zero_le _) (Nat.zero_le _) ?_
            refine c_X8_branches ?_
            refine go_s 1 rfl ?_
            refine go_if (fun c123 => ?_) (fun c123 => ?_)
            · refine go_s 1 rfl ?_
              refine go_v kX10_branch_144 okX10_goOn rfl rfl rfl rfl (Nat.zero_le _) (Nat.zero_le _) ?_
              refine c_X10_goOn ?_
              exact go_ret rfl rfl (am_qp q (by simp_all [am_tbr, zb, am_go, hp]))
            · refine go_s 6 rfl ?_
              refine go_v kX10_branch_136 okX5_cAt rfl rfl rfl rfl (Nat.zero_le _) (Nat.zero_le _) ?_
              refine c_X5_cAt hS ?_
              refine go_v kX10_branch_139 okX10_goTo rfl rfl rfl rfl (Nat.zero_le _) (Nat.zero_le _) ?_
              refine c_X10_goTo ?_
              exact go_ret rfl rfl (am_qp q (by simp_all [am_tbr, zb, am_go, hp]))
          · refine go_s 4 rfl ?_
            refine go_if (fun c90 => ?_) (fun c90 => absurd (by decide) c90)
            refine go_s 2 rfl ?_
            refine go_if (fun c95 => absurd c95 (by decide)) (fun c95 => ?_)
            refine go_s 2 rfl ?_
            refine go_if (fun c100 => ?_) (fun c100 => absurd (by decide) c100)
            refine go_s 1 rfl ?_
            exact go_ret rfl rfl (am_qp q (by simp_all [am_tbr, zb, am_go, hp]))
      · refine go_s 5 rfl ?_
        refine go_if (fun c72 => ?_) (fun c72 => ?_)
        · refine go_s 5 rfl ?_
          refine go_if (fun c90 => ?_) (fun c90 => absurd (by decide) c90)
          refine go_s 2 rfl ?_
          refine go_if (fun c95 => ?_) (fun c95 => absurd (by decide) c95)
          refine go_s 1 rfl ?_
          exact go_ret rfl rfl (am_qp q (by simp_all [am_tbr, zb, am_go, hp]))
        · refine go_s 3 rfl ?_
          refine go_if (fun c78 => ?_) (fun c78 => ?_)
          · refine go_s 5 rfl ?_
            refine go_if (fun c90 => ?_) (fun c90 => absurd (by decide) c90)
            refine go_s 2 rfl ?_
            refine go_if (fun c95 => ?_) (fun c95 => absurd (by decide) c95)
            refine go_s 1 rfl ?_
            exact go_ret rfl rfl (am_qp q (by simp_all [am_tbr, zb, am_go, hp]))
          · refine go_s 4 rfl ?_
            refine go_if (fun c90 => ?_) (fun c90 => absurd (by decide) c90)
            refine go_s 2 rfl ?_
            refine go_if (fun c95 => ?_) (fun c95 => absurd (by decide) c95)
            refine go_s 1 rfl ?_
            exact go_ret rfl rfl (am_qp q (by simp_all [am_tbr, zb, am_go, hp]))
    · refine go_s 5 rfl ?_
      refine go_if (fun c72 => ?_) (fun c72 => ?_)
      · refine go_s 5 rfl ?_
        refine go_if (fun c90 => ?_) (fun c90 => absurd (by decide) c90)
        refine go_s 2 rfl ?_
        refine go_if (fun c95 => ?_) (fun c95 => absurd (by decide) c95)
        refine go_s 1 rfl ?_
        exact go_ret rfl rfl (am_qp q (by simp_all [am_tbr, zb, am_go, hp]))
      · refine go_s 3 rfl ?_
        refine go_if (fun c78 => ?_) (fun c78 => ?_)
        · refine go_s 5 rfl ?_
          refine go_if (fun c90 => ?_) (fun c90 => absurd (by decide) c90)
          refine go_s 2 rfl ?_
          refine go_if (fun c95 => ?_) (fun c95 => absurd (by decide) c95)
          refine go_s 1 rfl ?_
          exact go_ret rfl rfl (am_qp q (by simp_all [am_tbr, zb, am_go, hp]))
        · refine go_s 4 rfl ?_
          refine go_if (fun c90 => ?_) (fun c90 => absurd (by decide) c90)
          refine go_s 2 rfl ?_
          refine go_if (fun c95 => ?_) (fun c95 => absurd (by decide) c95)
          refine go_s 1 rfl ?_
          exact go_ret rfl rfl (am_qp q (by simp_all [am_tbr, zb, am_go, hp]))
  · refine go_s 2 rfl ?_
    refine go_v kX10_branch_30 okX10_isNumber rfl rfl rfl rfl (Nat.zero_le _) (Nat.zero_le _) ?_
    refine c_X10_isNumber ?_
    refine go_s 1 rfl ?_
    refine go_if (fun c33 => ?_) (fun c33 => ?_)
    · refine go_s 4 rfl ?_
      refine go_v kX10_branch_45 okX10_sortIn rfl rfl rfl rfl (Nat.zero_le _) (Nat.zero_le _) ?_
      refine c_X10_sortIn ?_
      refine go_s 2 rfl ?_
      refine go_if (fun c49 => ?_) (fun c49 => ?_)
      · refine go_s 2 rfl ?_
        refine go_v kX10_branch_55 okX10_sortIn rfl rfl rfl rfl (Nat.zero_le _) (Nat.zero_le _) ?_
        refine c_X10_sortIn ?_
        refine go_s 2 rfl ?_
        refine go_if (fun c59 => ?_) (fun c59 => ?_)
        · refine go_s 6 rfl ?_
          refine go_if (fun c72 => ?_) (fun c72 => ?_)
          · refine go_s 5 rfl ?_
            refine go_if (fun c90 => ?_) (fun c90 => absurd (by decide) c90)
            refine go_s 2 rfl ?_
            refine go_if (fun c95 => absurd c95 (by decide)) (fun c95 => ?_)
            refine go_s 2 rfl ?_
            refine go_if (fun c100 => absurd c100 (by decide)) (fun c100 => ?_)
            refine go_s 1 rfl ?_
            refine go_st kX10_branch_106 okX8_selectorOf rfl rfl rfl (Nat.zero_le _) (Nat.zero_le _) ?_
            refine c_X8_selectorOf ?_
            refine go_s 2 rfl ?_
            refine go_v kX10_branch_111 okX10_valueIn rfl rfl rfl rfl (Nat.zero_le _) (Nat.zero_le _) ?_
            refine c_X10_valueIn ?_
            refine go_s 2 rfl ?_
            refine go_v kX10_branch_117 okX10_valueIn rfl rfl rfl rfl (Nat.zero_le _) (Nat.zero_le _) ?_
            refine c_X10_valueIn ?_
            refine go_st kX10_branch_120 okX8_branches rfl rfl rfl (Nat.zero_le _) (Nat.zero_le _) ?_
            refine c_X8_branches ?_
            refine go_s 1 rfl ?_
            refine go_if (fun c123 => ?_) (fun c123 => ?_)
            · refine go_s 1 rfl ?_
              refine go_v kX10_branch_144 okX10_goOn rfl rfl rfl rfl (Nat.zero_le _) (Nat.zero_le _) ?_
              refine c_X10_goOn ?_
              exact go_ret rfl rfl (am_qp q (by simp_all [am_tbr, zb, am_go, hp]))
            · refine go_s 6 rfl ?_
              refine go_v kX10_branch_136 okX5_cAt rfl rfl rfl rfl (Nat.zero_le _) (Nat.zero_le _) ?_
              refine c_X5_cAt hS ?_
              refine go_v kX10_branch_139 okX10_goTo rfl rfl rfl rfl (Nat.zero_le _) (Nat.zero_le _) ?_
              refine c_X10_goTo ?_
              exact go_ret rfl rfl (am_qp q (by simp_all [am_tbr, zb, am_go, hp]))
          · refine go_s 3 rfl ?_
            refine go_if (fun c78 => ?_) (fun c78 => ?_)
            · refine go_s 5 rfl ?_
              refine go_if (fun c90 => ?_) (fun c90 => absurd (by decide) c90)
              refine go_s 2 rfl ?_
              refine go_if (fun c95 => absurd c95 (by decide)) (fun c95 => ?_)
              refine go_s 2 rfl ?_
              refine go_if (fun c100 => absurd c100 (by decide)) (fun c100 => ?_)
              refine go_s 1 rfl ?_
              refine go_st kX10_branch_106 okX8_selectorOf rfl rfl rfl (Nat.zero_le _) (Nat.zero_le _) ?_
              refine c_X8_selectorOf ?_
              refine go_s 2 rfl ?_
              refine go_v kX10_branch_111 okX10_valueIn rfl rfl rfl rfl (Nat.zero_le _) (Nat.zero_le _) ?_
              refine c_X10_valueIn ?_
              refine go_s 2 rfl ?_
              refine go_v kX10_branch_117 okX10_valueIn rfl rfl rfl rfl (Nat.zero_le _) (Nat.zero_le _) ?_
              refine c_X10_valueIn ?_
              refine go_st kX10_branch_120 okX8_branches rfl rfl rfl (Nat.zero_le _) (Nat.zero_le _) ?_
              refine c_X8_branches ?_
              refine go_s 1 rfl ?_
              refine go_if (fun c123 => ?_) (fun c123 => ?_)
              · refine go_s 1 rfl ?_
                refine go_v kX10_branch_144 okX10_goOn rfl rfl rfl rfl (Nat.zero_le _) (Nat.zero_le _) ?_
                refine c_X10_goOn ?_
                exact go_ret rfl rfl (am_qp q (by simp_all [am_tbr, zb, am_go, hp]))
              · refine go_s 6 rfl ?_
                refine go_v kX10_branch_136 okX5_cAt rfl rfl rfl rfl (Nat.zero_le _) (Nat.zero_le _) ?_
                refine c_X5_cAt hS ?_
                refine go_v kX10_branch_139 okX10_goTo rfl rfl rfl rfl (Nat.zero_le _) (Nat.zero_le _) ?_
                refine c_X10_goTo ?_
                exact go_ret rfl rfl (am_qp q (by simp_all [am_tbr, zb, am_go, hp]))
            · refine go_s 4 rfl ?_
              refine go_if (fun c90 => ?_) (fun c90 => absurd (by decide) c90)
              refine go_s 2 rfl ?_
              refine go_if (fun c95 => absurd c95 (by decide)) (fun c95 => ?_)
              refine go_s 2 rfl ?_
              refine go_if (fun c100 => ?_) (fun c100 => absurd (by decide) c100)
              refine go_s 1 rfl ?_
              exact go_ret rfl rfl (am_qp q (by simp_all [am_tbr, zb, am_go, hp]))
        · refine go_s 5 rfl ?_
          refine go_if (fun c72 => ?_) (fun c72 => ?_)
          · refine go_s 5 rfl ?_
            refine go_if (fun c90 => ?_) (fun c90 => absurd (by decide) c90)
            refine go_s 2 rfl ?_
            refine go_if (fun c95 => ?_) (fun c95 => absurd (by decide) c95)
            refine go_s 1 rfl ?_
            exact go_ret rfl rfl (am_qp q (by simp_all [am_tbr, zb, am_go, hp]))
          · refine go_s 3 rfl ?_
            refine go_if (fun c78 => ?_) (fun c78 => ?_)
            · refine go_s 5 rfl ?_
              refine go_if (fun c90 => ?_) (fun c90 => absurd (by decide) c90)
              refine go_s 2 rfl ?_
              refine go_if (fun c95 => ?_) (fun c95 => absurd (by decide) c95)
              refine go_s 1 rfl ?_
              exact go_ret rfl rfl (am_qp q (by simp_all [am_tbr, zb, am_go, hp]))
            · refine go_s 4 rfl ?_
              refine go_if (fun c90 => ?_) (fun c90 => absurd (by decide) c90)
              refine go_s 2 rfl ?_
              refine go_if (fun c95 => ?_) (fun c95 => absurd (by decide) c95)
              refine go_s 1 rfl ?_
              exact go_ret rfl rfl (am_qp q (by simp_all [am_tbr, zb, am_go, hp]))
      · refine go_s 5 rfl ?_
        refine go_if (fun c72 => ?_) (fun c72 => ?_)
        · refine go_s 5 rfl ?_
          refine go_if (fun c90 => ?_) (fun c90 => absurd (by decide) c90)
          refine go_s 2 rfl ?_
          refine go_if (fun c95 => ?_) (fun c95 => absurd (by decide) c95)
          refine go_s 1 rfl ?_
          exact go_ret rfl rfl (am_qp q (by simp_all [am_tbr, zb, am_go, hp]))
        · refine go_s 3 rfl ?_
          refine go_if (fun c78 => ?_) (fun c78 => ?_)
          · refine go_s 5 rfl ?_
            refine go_if (fun c90 => ?_) (fun c90 => absurd (by decide) c90)
            refine go_s 2 rfl ?_
            refine go_if (fun c95 => ?_) (fun c95 => absurd (by decide) c95)
            refine go_s 1 rfl ?_
            exact go_ret rfl rfl (am_qp q (by simp_all [am_tbr, zb, am_go, hp]))
          · refine go_s 4 rfl ?_
            refine go_if (fun c90 => ?_) (fun c90 => absurd (by decide) c90)
            refine go_s 2 rfl ?_
            refine go_if (fun c95 => ?_) (fun c95 => absurd (by decide) c95)
            refine go_s 1 rfl ?_
            exact go_ret rfl rfl (am_qp q (by simp_all [am_tbr, zb, am_go, hp]))
    · refine go_s 5 rfl ?_
      refine go_v kX10_branch_45 okX10_sortIn rfl rfl rfl rfl (Nat.zero_le _) (Nat.zero_le _) ?_
      refine c_X10_sortIn ?_
      refine go_s 2 rfl ?_
      refine go_if (fun c49 => ?_) (fun c49 => ?_)
      · refine go_s 2 rfl ?_
        refine go_v kX10_branch_55 okX10_sortIn rfl rfl rfl rfl (Nat.zero_le _) (Nat.zero_le _) ?_
        refine c_X10_sortIn ?_
        refine go_s 2 rfl ?_
        refine go_if (fun c59 => ?_) (fun c59 => ?_)
        · refine go_s 6 rfl ?_
          refine go_if (fun c72 => ?_) (fun c72 => ?_)
          · refine go_s 5 rfl ?_
            refine go_if (fun c90 => absurd c90 (by decide)) (fun c90 => ?_)
            refine go_s 1 rfl ?_
            refine go_st kX10_branch_106 okX8_selectorOf rfl rfl rfl (Nat.zero_le _) (Nat.zero_le _) ?_
            refine c_X8_selectorOf ?_
            refine go_s 2 rfl ?_
            refine go_v kX10_branch_111 okX10_valueIn rfl rfl rfl rfl (Nat.zero_le _) (Nat.zero_le _) ?_
            refine c_X10_valueIn ?_
            refine go_s 2 rfl ?_
            refine go_v kX10_branch_117 okX10_valueIn rfl rfl rfl rfl (Nat.zero_le _) (Nat.zero_le _) ?_
            refine c_X10_valueIn ?_
            refine go_st kX10_branch_120 okX8_branches rfl rfl rfl (Nat.zero_le _) (Nat.zero_le _) ?_
            refine c_X8_branches ?_
            refine go_s 1 rfl ?_
            refine go_if (fun c123 => ?_) (fun c123 => ?_)
            · refine go_s 1 rfl ?_
              refine go_v kX10_branch_144 okX10_goOn rfl rfl rfl rfl (Nat.zero_le _) (Nat.zero_le _) ?_
              refine c_X10_goOn ?_
              exact go_ret rfl rfl (am_qp q (by simp_all [am_tbr, zb, am_go, hp]))
            · refine go_s 6 rfl ?_
              refine go_v kX10_branch_136 okX5_cAt rfl rfl rfl rfl (Nat.zero_le _) (Nat.zero_le _) ?_
              refine c_X5_cAt hS ?_
              refine go_v kX10_branch_139 okX10_goTo rfl rfl rfl rfl (Nat.zero_le _) (Nat.zero_le _) ?_
              refine c_X10_goTo ?_
              exact go_ret rfl rfl (am_qp q (by simp_all [am_tbr, zb, am_go, hp]))
          · refine go_s 3 rfl ?_
            refine go_if (fun c78 => ?_) (fun c78 => ?_)
            · refine go_s 5 rfl ?_
              refine go_if (fun c90 => absurd c90 (by decide)) (fun c90 => ?_)
              refine go_s 1 rfl ?_
              refine go_st kX10_branch_106 okX8_selectorOf rfl rfl rfl (Nat.zero_le _) (Nat.zero_le _) ?_
              refine c_X8_selectorOf ?_
              refine go_s 2 rfl ?_
              refine go_v kX10_branch_111 okX10_valueIn rfl rfl rfl rfl (Nat.zero_le _) (Nat.zero_le _) ?_
              refine c_X10_valueIn ?_
              refine go_s 2 rfl ?_
              refine go_v kX10_branch_117 okX10_valueIn rfl rfl rfl rfl (Nat.zero_le _) (Nat.zero_le _) ?_
              refine c_X10_valueIn ?_
              refine go_st kX10_branch_120 okX8_branches rfl rfl rfl (Nat.zero_le _) (Nat.zero_le _) ?_
              refine c_X8_branches ?_
              refine go_s 1 rfl ?_
              refine go_if (fun c123 => ?_) (fun c123 => ?_)
              · refine go_s 1 rfl ?_
                refine go_v kX10_branch_144 okX10_goOn rfl rfl rfl rfl (Nat.zero_le _) (Nat.zero_le _) ?_
                refine c_X10_goOn ?_
                exact go_ret rfl rfl (am_qp q (by simp_all [am_tbr, zb, am_go, hp]))
              · refine go_s 6 rfl ?_
                refine go_v kX10_branch_136 okX5_cAt rfl rfl rfl rfl (Nat.zero_le _) (Nat.zero_le _) ?_
                refine c_X5_cAt hS ?_
                refine go_v kX10_branch_139 okX10_goTo rfl rfl rfl rfl (Nat.zero_le _) (Nat.zero_le _) ?_
                refine c_X10_goTo ?_
                exact go_ret rfl rfl (am_qp q (by simp_all [am_tbr, zb, am_go, hp]))
            · refine go_s 4 rfl ?_
              refine go_if (fun c90 => absurd c90 (by decide)) (fun c90 => ?_)
              refine go_s 1 rfl ?_
              refine go_st kX10_branch_106 okX8_selectorOf rfl rfl rfl (Nat.zero_le _) (Nat.zero_le _) ?_
              refine c_X8_selectorOf ?_
              refine go_s 2 rfl ?_
              refine go_v kX10_branch_111 okX10_valueIn rfl rfl rfl rfl (Nat.zero_le _) (Nat.zero_le _) ?_
              refine c_X10_valueIn ?_
              refine go_s 2 rfl ?_
              refine go_v kX10_branch_117 okX10_valueIn rfl rfl rfl rfl (Nat.zero_le _) (Nat.zero_le _) ?_
              refine c_X10_valueIn ?_
              refine go_st kX10_branch_120 okX8_branches rfl rfl rfl (Nat.zero_le _) (Nat.zero_le _) ?_
              refine c_X8_branches ?_
              refine go_s 1 rfl ?_
              refine go_if (fun c123 => ?_) (fun c123 => ?_)
              · refine go_s 1 rfl ?_
                refine go_v kX10_branch_144 okX10_goOn rfl rfl rfl rfl (Nat.zero_le _) (Nat.zero_le _) ?_
                refine c_X10_goOn ?_
                exact go_ret rfl rfl (am_qp q (by simp_all [am_tbr, zb, am_go, hp]))
              · refine go_s 6 rfl ?_
                refine go_v kX10_branch_136 okX5_cAt rfl rfl rfl rfl (Nat.zero_le _) (Nat.zero_le _) ?_
                refine c_X5_cAt hS ?_
                refine go_v kX10_branch_139 okX10_goTo rfl rfl rfl rfl (Nat.zero_le _) (Nat.zero_le _) ?_
                refine c_X10_goTo ?_
                exact go_ret rfl rfl (am_qp q (by simp_all [am_tbr, zb, am_go, hp]))
        · refine go_s 5 rfl ?_
          refine go_if (fun c72 => ?_) (fun c72 => ?_)
          · refine go_s 5 rfl ?_
            refine go_if (fun c90 => absurd c90 (by decide)) (fun c90 => ?_)
            refine go_s 1 rfl ?_
            refine go_st kX10_branch_106 okX8_selectorOf rfl rfl rfl (Nat.zero_le _) (Nat.zero_le _) ?_
            refine c_X8_selectorOf ?_
            refine go_s 2 rfl ?_
            refine go_v kX10_branch_111 okX10_valueIn rfl rfl rfl rfl (Nat.zero_le _) (Nat.zero_le _) ?_
            refine c_X10_valueIn ?_
            refine go_s 2 rfl ?_
            refine go_v kX10_branch_117 okX10_valueIn rfl rfl rfl rfl (Nat.zero_le _) (Nat.zero_le _) ?_
            refine c_X10_valueIn ?_
            refine go_st kX10_branch_120 okX8_branches rfl rfl rfl (Nat.zero_le _) (Nat.zero_le _) ?_
            refine c_X8_branches ?_
            refine go_s 1 rfl ?_
            refine go_if (fun c123 => ?_) (fun c123 => ?_)
            · refine go_s 1 rfl ?_
              refine go_v kX10_branch_144 okX10_goOn rfl rfl rfl rfl (Nat.zero_le _) (Nat.zero_le _) ?_
              refine c_X10_goOn ?_
              exact go_ret rfl rfl (am_qp q (by simp_all [am_tbr, zb, am_go, hp]))
            · refine go_s 6 rfl ?_
              refine go_v kX10_branch_136 okX5_cAt rfl rfl rfl rfl (Nat.zero_le _) (Nat.zero_le _) ?_
              refine c_X5_cAt hS ?_
              refine go_v kX10_branch_139 okX10_goTo rfl rfl rfl rfl (Nat.zero_le _) (Nat.zero_le _) ?_
              refine c_X10_goTo ?_
              exact go_ret rfl rfl (am_qp q (by simp_all [am_tbr, zb, am_go, hp]))
          · refine go_s 3 rfl ?_
            refine go_if (fun c78 => ?_) (fun c78 => ?_)
            · refine go_s 5 rfl ?_
              refine go_if (fun c90 => absurd c90 (by decide)) (fun c90 => ?_)
              refine go_s 1 rfl ?_
              refine go_st kX10_branch_106 okX8_selectorOf rfl rfl rfl (Nat.zero_le _) (Nat.zero_le _) ?_
              refine c_X8_selectorOf ?_
              refine go_s 2 rfl ?_
              refine go_v kX10_branch_111 okX10_valueIn rfl rfl rfl rfl (Nat.zero_le _) (Nat.zero_le _) ?_
              refine c_X10_valueIn ?_
              refine go_s 2 rfl ?_
              refine go_v kX10_branch_117 okX10_valueIn rfl rfl rfl rfl (Nat.zero_le _) (Nat.zero_le _) ?_
              refine c_X10_valueIn ?_
              refine go_st kX10_branch_120 okX8_branches rfl rfl rfl (Nat.zero_le _) (Nat.zero_le _) ?_
              refine c_X8_branches ?_
              refine go_s 1 rfl ?_
              refine go_if (fun c123 => ?_) (fun c123 => ?_)
              · refine go_s 1 rfl ?_
                refine go_v kX10_branch_144 okX10_goOn rfl rfl rfl rfl (Nat.zero_le _) (Nat.zero_le _) ?_
                refine c_X10_goOn ?_
                exact go_ret rfl rfl (am_qp q (by simp_all [am_tbr, zb, am_go, hp]))
              · refine go_s 6 rfl ?_
                refine go_v kX10_branch_136 okX5_cAt rfl rfl rfl rfl (Nat.zero_le _) (Nat.zero_le _) ?_
                refine c_X5_cAt hS ?_
                refine go_v kX10_branch_139 okX10_goTo rfl rfl rfl rfl (Nat.zero_le _) (Nat.zero_le _) ?_
                refine c_X10_goTo ?_
                exact go_ret rfl rfl (am_qp q (by simp_all [am_tbr, zb, am_go, hp]))
            · refine go_s 4 rfl ?_
              refine go_if (fun c90 => absurd c90 (by decide)) (fun c90 => ?_)
              refine go_s 1 rfl ?_
              refine go_st kX10_branch_106 okX8_selectorOf rfl rfl rfl (Nat.zero_le _) (Nat.zero_le _) ?_
              refine c_X8_selectorOf ?_
              refine go_s 2 rfl ?_
              refine go_v kX10_branch_111 okX10_valueIn rfl rfl rfl rfl (Nat.zero_le _) (Nat.zero_le _) ?_
              refine c_X10_valueIn ?_
              refine go_s 2 rfl ?_
              refine go_v kX10_branch_117 okX10_valueIn rfl rfl rfl rfl (Nat.zero_le _) (Nat.zero_le _) ?_
              refine c_X10_valueIn ?_
              refine go_st kX10_branch_120 okX8_branches rfl rfl rfl (Nat.zero_le _) (Nat.zero_le _) ?_
              refine c_X8_branches ?_
              refine go_s 1 rfl ?_
              refine go_if (fun c123 => ?_) (fun c123 => ?_)
              · refine go_s 1 rfl ?_
                refine go_v kX10_branch_144 okX10_goOn rfl rfl rfl rfl (Nat.zero_le _) (Nat.zero_le _) ?_
                refine c_X10_goOn ?_
                exact go_ret rfl rfl (am_qp q (by simp_all [am_tbr, zb, am_go, hp]))
              · refine go_s 6 rfl ?_
                refine go_v kX10_branch_136 okX5_cAt rfl rfl rfl rfl (Nat.zero_le _) (Nat.zero_le _) ?_
                refine c_X5_cAt hS ?_
                refine go_v kX10_branch_139 okX10_goTo rfl rfl rfl rfl (Nat.zero_le _) (Nat.zero_le _) ?_
                refine c_X10_goTo ?_
                exact go_ret rfl rfl (am_qp q (by simp_all [am_tbr, zb, am_go, hp]))
      · refine go_s 5 rfl ?_
        refine go_if (fun c72 => ?_) (fun c72 => ?_)
        · refine go_s 5 rfl ?_
          refine go_if (fun c90 => absurd c90 (by decide)) (fun c90 => ?_)
          refine go_s 1 rfl ?_
          refine go_st kX10_branch_106 okX8_selectorOf rfl rfl rfl (Nat.zero_le _) (Nat.zero_le _) ?_
          refine c_X8_selectorOf ?_
          refine go_s 2 rfl ?_
          refine go_v kX10_branch_111 okX10_valueIn rfl rfl rfl rfl (Nat.zero_le _) (Nat.zero_le _) ?_
          refine c_X10_valueIn ?_
          refine go_s 2 rfl ?_
          refine go_v kX10_branch_117 okX10_valueIn rfl rfl rfl rfl (Nat.zero_le _) (Nat.zero_le _) ?_
          refine c_X10_valueIn ?_
          refine go_st kX10_branch_120 okX8_branches rfl rfl rfl (Nat.zero_le _) (Nat.zero_le _) ?_
          refine c_X8_branches ?_
          refine go_s 1 rfl ?_
          refine go_if (fun c123 => ?_) (fun c123 => ?_)
          · refine go_s 1 rfl ?_
            refine go_v kX10_branch_144 okX10_goOn rfl rfl rfl rfl (Nat.zero_le _) (Nat.zero_le _) ?_
            refine c_X10_goOn ?_
            exact go_ret rfl rfl (am_qp q (by simp_all [am_tbr, zb, am_go, hp]))
          · refine go_s 6 rfl ?_
            refine go_v kX10_branch_136 okX5_cAt rfl rfl rfl rfl (Nat.zero_le _) (Nat.zero_le _) ?_
            refine c_X5_cAt hS ?_
            refine go_v kX10_branch_139 okX10_goTo rfl rfl rfl rfl (Nat.zero_le _) (Nat.zero_le _) ?_
            refine c_X10_goTo ?_
            exact go_ret rfl rfl (am_qp q (by simp_all [am_tbr, zb, am_go, hp]))
        · refine go_s 3 rfl ?_
          refine go_if (fun c78 => ?_) (fun c78 => ?_)
          · refine go_s 5 rfl ?_
            refine go_if (fun c90 => absurd c90 (by decide)) (fun c90 => ?_)
            refine go_s 1 rfl ?_
            refine go_st kX10_branch_106 okX8_selectorOf rfl rfl rfl (Nat.zero_le _) (Nat.zero_le _) ?_
            refine c_X8_selectorOf ?_
            refine go_s 2 rfl ?_
            refine go_v kX10_branch_111 okX10_valueIn rfl rfl rfl rfl (Nat.zero_le _) (Nat.zero_le _) ?_
            refine c_X10_valueIn ?_
            refine go_s 2 rfl ?_
            refine go_v kX10_branch_117 okX10_valueIn rfl rfl rfl rfl (Nat.zero_le _) (Nat.zero_le _) ?_
            refine c_X10_valueIn ?_
            refine go_st kX10_branch_120 okX8_branches rfl rfl rfl (Nat.zero_le _) (Nat.zero_le _) ?_
            refine c_X8_branches ?_
            refine go_s 1 rfl ?_
            refine go_if (fun c123 => ?_) (fun c123 => ?_)
            · refine go_s 1 rfl ?_
              refine go_v kX10_branch_144 okX10_goOn rfl rfl rfl rfl (Nat.zero_le _) (Nat.zero_le _) ?_
              refine c_X10_goOn ?_
              exact go_ret rfl rfl (am_qp q (by simp_all [am_tbr, zb, am_go, hp]))
            · refine go_s 6 rfl ?_
              refine go_v kX10_branch_136 okX5_cAt rfl rfl rfl rfl (Nat.zero_le _) (Nat.zero_le _) ?_
              refine c_X5_cAt hS ?_
              refine go_v kX10_branch_139 okX10_goTo rfl rfl rfl rfl (Nat.zero_le _) (Nat.zero_le _) ?_
              refine c_X10_goTo ?_
              exact go_ret rfl rfl (am_qp q (by simp_all [am_tbr, zb, am_go, hp]))
          · refine go_s 4 rfl ?_
            refine go_if (fun c90 => absurd c90 (by decide)) (fun c90 => ?_)
            refine go_s 1 rfl ?_
            refine go_st kX10_branch_106 okX8_selectorOf rfl rfl rfl (Nat.zero_le _) (Nat.zero_le _) ?_
            refine c_X8_selectorOf ?_
            refine go_s 2 rfl ?_
            refine go_v kX10_branch_111 okX10_valueIn rfl rfl rfl rfl (Nat.zero_le _) (Nat.zero_le _) ?_
            refine c_X10_valueIn ?_
            refine go_s 2 rfl ?_
            refine go_v kX10_branch_117 okX10_valueIn rfl rfl rfl rfl (Nat.zero_le _) (Nat.zero_le _) ?_
            refine c_X10_valueIn ?_
            refine go_st kX10_branch_120 okX8_branches rfl rfl rfl (Nat.zero_le _) (Nat.zero_le _) ?_
            refine c_X8_branches ?_
            refine go_s 1 rfl ?_
            refine go_if (fun c123 => ?_) (fun c123 => ?_)
            · refine go_s 1 rfl ?_
              refine go_v kX10_branch_144 okX10_goOn rfl rfl rfl rfl (Nat.zero_le _) (Nat.zero_le _) ?_
              refine c_X10_goOn ?_
              exact go_ret rfl rfl (am_qp q (by simp_all [am_tbr, zb, am_go, hp]))
            · refine go_s 6 rfl ?_
              refine go_v kX10_branch_136 okX5_cAt rfl rfl rfl rfl (Nat.zero_le _) (Nat.zero_le _) ?_
              refine c_X5_cAt hS ?_
              refine go_v kX10_branch_139 okX10_goTo rfl rfl rfl rfl (Nat.zero_le _) (Nat.zero_le _) ?_
              refine c_X10_goTo ?_
              exact go_ret rfl rfl (am_qp q (by simp_all [am_tbr, zb, am_go, hp]))
end
section
def am_tsn (D : Nat → Nat → Int32) (s n : Int32) : Int32 × (Nat → Nat → Int32) := if 18 < n then (if ¬ n < 22 ∧ ¬ 27 < n then am_tbr D s n else if n = 19 then (3, am_go (am_wr D (am_fa D s) 0 (am_fb D s <<< (12 : Int32)))) else if n = 20 then am_tld D s else if n = 21 then am_tst D s else if n = 28 then (3, am_u (am_u D 59 10 (D 59 10)) 59 11 (am_fa D s)) else if n = 29 then (3, am_u (am_u (am_wr D 1 2 (D 59 10 <<< (6 : Int32) ||| (D 59 11 + 1))) 59 10 (am_fa D s)) 59 11 0) else if n = 30 then (3, am_u (am_u D 59 10 (am_fa D s)) 59 11 0) else if n = 31 then am_tgb D else if n = 32 then (3, am_go (am_wr D (am_fa D s) 1 (am_fb D s))) else if n = 33 then (if am_srt D (am_fa D s) = 1 then (3, am_u (am_u (am_wr D 1 2 (D 59 10 <<< (6 : Int32) ||| (D 59 11 + 1))) 59 10 (am_val D (am_fa D s))) 59 11 0) else (2, D)) else if n = 34 then am_tpr D else (2, D)) else am_tca D s n
def am_tsp (D : Nat → Nat → Int32) : Int32 × (Nat → Nat → Int32) := if am_spo D (D 59 10) (D 59 11) = -1 then (2, D) else am_tsn D (am_spo D (D 59 10) (D 59 11)) (am_num D (am_spo D (D 59 10) (D 59 11)))
theorem am_12 : (12 &&& 31 : Int32) = 12 := by decide
theorem c_X10_step {D : Nat → Nat → Int32} {e : am_E} {kc ks : Nat} {Q : am_Q}  (hF : (D 1 5).toInt ≤ 24) (hS : (D 1 6).toInt ≤ 300) (q : Q (some (.int ((am_tsp D).1))) (hp (am_tsp D).2 e)) : am_Go (mX10_step, 0, am_ent mX10_step [.ref 59], [], hp D e, kc, ks, Q) := by
  refine go_s 6 rfl ?_
  refine go_v kX10_step_12 okX5_spotOf rfl rfl rfl rfl (Nat.zero_le _) (Nat.zero_le _) ?_
  refine c_X5_spotOf hF ?_
  refine go_s 4 rfl ?_
  refine go_if (fun c18 => ?_) (fun c18 => ?_)
  · refine go_s 1 rfl ?_
    exact go_ret rfl rfl (am_qp q (by exact if_pos c18))
  · refine go_s 3 rfl ?_
    refine go_v kX10_step_28 okX5_numberAt rfl rfl rfl rfl (Nat.zero_le _) (Nat.zero_le _) ?_
    refine c_X5_numberAt hS ?_
    refine go_s 4 rfl ?_
    refine go_v kX10_step_37 okX5_aAt rfl rfl rfl rfl (Nat.zero_le _) (Nat.zero_le _) ?_
    refine c_X5_aAt hS ?_
    refine go_s 4 rfl ?_
    refine go_if (fun c44 => ?_) (fun c44 => ?_)
    · refine go_s 1 rfl ?_
      refine go_st kX10_step_55 okX9_isBranch rfl rfl rfl (Nat.zero_le _) (Nat.zero_le _) ?_
      refine c_X9_isBranch ?_
      refine go_s 1 rfl ?_
      refine go_if (fun c58 => ?_) (fun c58 => ?_)
      · refine go_s 2 rfl ?_
        refine go_if (fun c69_0 => ?_) (fun c69_0 => ?_)
        · refine go_s 6 rfl ?_
          refine go_v kX10_step_156 okX5_bAt rfl rfl rfl rfl (Nat.zero_le _) (Nat.zero_le _) ?_
          refine c_X5_bAt hS ?_
          refine go_s 2 rfl ?_
          refine go_v kX10_step_162 okX10_writeAndGoOn rfl rfl rfl rfl (Nat.zero_le _) (Nat.zero_le _) ?_
          refine c_X10_writeAndGoOn ?_
          exact go_ret rfl rfl (am_qp q (by exact (if_neg c18).trans ((if_pos c44).trans ((if_neg (zb_0.mp c58)).trans (if_pos c69_0)))))
        · refine go_if (fun c69_1 => ?_) (fun c69_1 => ?_)
          · refine go_s 2 rfl ?_
            refine go_v kX10_step_168 okX10_load rfl rfl rfl rfl (Nat.zero_le _) (Nat.zero_le _) ?_
            refine c_X10_load hS ?_
            exact go_ret rfl rfl (am_qp2 q (by exact (if_neg c18).trans ((if_pos c44).trans ((if_neg (zb_0.mp c58)).trans ((if_neg c69_0).trans (if_pos c69_1))))))
          · refine go_if (fun c69_2 => ?_) (fun c69_2 => ?_)
            · refine go_s 2 rfl ?_
              refine go_v kX10_step_174 okX10_store rfl rfl rfl rfl (Nat.zero_le _) (Nat.zero_le _) ?_
              refine c_X10_store hS ?_
              exact go_ret rfl rfl (am_qp2 q (by exact (if_neg c18).trans ((if_pos c44).trans ((if_neg (zb_0.mp c58)).trans ((if_neg c69_0).trans ((if_neg c69_1).trans (if_pos c69_2)))))))
            · refine go_if (fun c69_3 => ?_) (fun c69_3 => ?_)
              · refine go_s 1 rfl ?_
                exact go_ret rfl rfl (am_qp q (by exact (zb_0.mp c58 (by rw [c69_3]; decide)).elim))
              · refine go_if (fun c69_4 => ?_) (fun c69_4 => ?_)
                · refine go_s 1 rfl ?_
                  exact go_ret rfl rfl (am_qp q (by exact (zb_0.mp c58 (by rw [c69_4]; decide)).elim))
                · refine go_if (fun c69_5 => ?_) (fun c69_5 => ?_)
                  · refine go_s 1 rfl ?_
                    exact go_ret rfl rfl (am_qp q (by exact (zb_0.mp c58 (by rw [c69_5]; decide)).elim))
                  · refine go_if (fun c69_6 => ?_) (fun c69_6 => ?_)
                    · refine go_s 1 rfl ?_
                      exact go_ret rfl rfl (am_qp q (by exact (zb_0.mp c58 (by rw [c69_6]; decide)).elim))
                    · refine go_if (fun c69_7 => ?_) (fun c69_7 => ?_)
                      · refine go_s 1 rfl ?_
                        exact go_ret rfl rfl (am_qp q (by exact (zb_0.mp c58 (by rw [c69_7]; decide)).elim))
                      · refine go_if (fun c69_8 => ?_) (fun c69_8 => ?_)
                        · refine go_s 1 rfl ?_
                          exact go_ret rfl rfl (am_qp q (by exact (zb_0.mp c58 (by rw [c69_8]; decide)).elim))
                        · refine go_if (fun c69_9 => ?_) (fun c69_9 => ?_)
                          · refine go_s 4 rfl ?_
                            refine go_v kX10_step_184 okX10_goTo rfl rfl rfl rfl (Nat.zero_le _) (Nat.zero_le _) ?_
                            refine c_X10_goTo ?_
                            exact go_ret rfl rfl (am_qp q (by exact (if_neg c18).trans ((if_pos c44).trans ((if_neg (zb_0.mp c58)).trans ((if_neg c69_0).trans ((if_neg c69_1).trans ((if_neg c69_2).trans (if_pos c69_9))))))))
                          · refine go_if (fun c69_10 => ?_) (fun c69_10 => ?_)
                            · refine go_s 2 rfl ?_
                              refine go_v kX10_step_190 okX10_callFunction rfl rfl rfl rfl (Nat.zero_le _) (Nat.zero_le _) ?_
                              refine c_X10_callFunction ?_
                              exact go_ret rfl rfl (am_qp q (by exact (if_neg c18).trans ((if_pos c44).trans ((if_neg (zb_0.mp c58)).trans ((if_neg c69_0).trans ((if_neg c69_1).trans ((if_neg c69_2).trans ((if_neg c69_9).trans (if_pos c69_10)))))))))
                            · refine go_if (fun c69_11 => ?_) (fun c69_11 => ?_)
                              · refine go_s 3 rfl ?_
                                refine go_v kX10_step_197 okX10_goTo rfl rfl rfl rfl (Nat.zero_le _) (Nat.zero_le _) ?_
                                refine c_X10_goTo ?_
                                exact go_ret rfl rfl (am_qp q (by exact (if_neg c18).trans ((if_pos c44).trans ((if_neg (zb_0.mp c58)).trans ((if_neg c69_0).trans ((if_neg c69_1).trans ((if_neg c69_2).trans ((if_neg c69_9).trans ((if_neg c69_10).trans (if_pos c69_11))))))))))
                              · refine go_if (fun c69_12 => ?_) (fun c69_12 => ?_)
                                · refine go_s 1 rfl ?_
                                  refine go_v kX10_step_202 okX10_goBack rfl rfl rfl rfl (Nat.zero_le _) (Nat.zero_le _) ?_
                                  refine c_X10_goBack ?_
                                  exact go_ret rfl rfl (am_qp2 q (by exact (if_neg c18).trans ((if_pos c44).trans ((if_neg (zb_0.mp c58)).trans ((if_neg c69_0).trans ((if_neg c69_1).trans ((if_neg c69_2).trans ((if_neg c69_9).trans ((if_neg c69_10).trans ((if_neg c69_11).trans (if_pos c69_12)))))))))))
                                · refine go_if (fun c69_13 => ?_) (fun c69_13 => ?_)
                                  · refine go_s 6 rfl ?_
                                    refine go_v kX10_step_214 okX5_bAt rfl rfl rfl rfl (Nat.zero_le _) (Nat.zero_le _) ?_
                                    refine c_X5_bAt hS ?_
                                    refine go_v kX10_step_217 okX10_writeAndGoOn rfl rfl rfl rfl (Nat.zero_le _) (Nat.zero_le _) ?_
                                    refine c_X10_writeAndGoOn ?_
                                    exact go_ret rfl rfl (am_qp q (by exact (if_neg c18).trans ((if_pos c44).trans ((if_neg (zb_0.mp c58)).trans ((if_neg c69_0).trans ((if_neg c69_1).trans ((if_neg c69_2).trans ((if_neg c69_9).trans ((if_neg c69_10).trans ((if_neg c69_11).trans ((if_neg c69_12).trans (if_pos c69_13))))))))))))
                                  · refine go_if (fun c69_14 => ?_) (fun c69_14 => ?_)
                                    · refine go_s 2 rfl ?_
                                      refine go_v kX10_step_223 okX10_sortIn rfl rfl rfl rfl (Nat.zero_le _) (Nat.zero_le _) ?_
                                      refine c_X10_sortIn ?_
                                      refine go_s 2 rfl ?_
                                      refine go_if (fun c227 => ?_) (fun c227 => ?_)
                                      · refine go_s 3 rfl ?_
                                        refine go_v kX10_step_233 okX10_valueIn rfl rfl rfl rfl (Nat.zero_le _) (Nat.zero_le _) ?_
                                        refine c_X10_valueIn ?_
                                        refine go_v kX10_step_236 okX10_callFunction rfl rfl rfl rfl (Nat.zero_le _) (Nat.zero_le _) ?_
                                        refine c_X10_callFunction ?_
                                        refine go_s 1 rfl ?_
                                        exact go_ret rfl rfl (am_qp q (by exact (if_neg c18).trans ((if_pos c44).trans ((if_neg (zb_0.mp c58)).trans ((if_neg c69_0).trans ((if_neg c69_1).trans ((if_neg c69_2).trans ((if_neg c69_9).trans ((if_neg c69_10).trans ((if_neg c69_11).trans ((if_neg c69_12).trans ((if_neg c69_13).trans ((if_pos c69_14).trans (if_pos c227))))))))))))))
                                      · refine go_s 1 rfl ?_
                                        exact go_ret rfl rfl (am_qp q (by exact (if_neg c18).trans ((if_pos c44).trans ((if_neg (zb_0.mp c58)).trans ((if_neg c69_0).trans ((if_neg c69_1).trans ((if_neg c69_2).trans ((if_neg c69_9).trans ((if_neg c69_10).trans ((if_neg c69_11).trans ((if_neg c69_12).trans ((if_neg c69_13).trans ((if_pos c69_14).trans (if_neg c227))))))))))))))
                                    · refine go_if (fun c69_15 => ?_) (fun c69_15 => ?_)
                                      · refine go_s 1 rfl ?_
                                        refine go_v kX10_step_245 okX10_print rfl rfl rfl rfl (Nat.zero_le _) (Nat.zero_le _) ?_
                                        refine c_X10_print ?_
                                        exact go_ret rfl rfl (am_qp2 q (by exact (if_neg c18).trans ((if_pos c44).trans ((if_neg (zb_0.mp c58)).trans ((if_neg c69_0).trans ((if_neg c69_1).trans ((if_neg c69_2).trans ((if_neg c69_9).trans ((if_neg c69_10).trans ((if_neg c69_11).trans ((if_neg c69_12).trans ((if_neg c69_13).trans ((if_neg c69_14).trans (if_pos c69_15))))))))))))))
                                      · refine go_s 1 rfl ?_
                                        exact go_ret rfl rfl (am_qp q (by exact (if_neg c18).trans ((if_pos c44).trans ((if_neg (zb_0.mp c58)).trans ((if_neg c69_0).trans ((if_neg c69_1).trans ((if_neg c69_2).trans ((if_neg c69_9).trans ((if_neg c69_10).trans ((if_neg c69_11).trans ((if_neg c69_12).trans ((if_neg c69_13).trans ((if_neg c69_14).trans (if_neg c69_15))))))))))))))
      · refine go_s 3 rfl ?_
        refine go_v kX10_step_64 okX10_branch rfl rfl rfl rfl (Nat.zero_le _) (Nat.zero_le _) ?_
        refine c_X10_branch hS ?_
        exact go_ret rfl rfl (am_qp2 q (by exact (if_neg c18).trans ((if_pos c44).trans (if_pos (zb_ne.mp c58)))))
    · refine go_s 3 rfl ?_
      refine go_v kX10_step_50 okX10_calculate rfl rfl rfl rfl (Nat.zero_le _) (Nat.zero_le _) ?_
      refine c_X10_calculate hS ?_
      exact go_ret rfl rfl (am_qp2 q (by exact (if_neg c18).trans (if_neg c44)))
end
section
def am_r1 (D : Nat → Nat → Int32) (w : Int32) : Int32 := D 67 (w >>> (15 : Int32) &&& (31 : Int32)).toNatClampNeg
def am_r2 (D : Nat → Nat → Int32) (w : Int32) : Int32 := D 67 (w >>> (20 : Int32) &&& (31 : Int32)).toNatClampNeg
def am_gi (D : Nat → Nat → Int32) (g : Int32) : Int32 × (Nat → Nat → Int32) := (if g = 0 then 0 else 3, am_u D 65 8 g)
def am_wi (D : Nat → Nat → Int32) (k v : Int32) : Nat → Nat → Int32 := if ¬ k = 0 ∧ 0 ≤ k ∧ k < 32 then am_u D 67 k.toNatClampNeg v else D
def am_wgi (D : Nat → Nat → Int32) (k v : Int32) : Int32 × (Nat → Nat → Int32) := am_gi (am_wi D k v) (am_wi D k v 65 8 + 4)
def am_cr (D : Nat → Nat → Int32) (w : Int32) : Int32 := am_calc (w >>> (12 : Int32) &&& (7 : Int32)) (zb (¬ w &&& (1073741824 : Int32) = 0)) (am_r1 D w) (am_r2 D w)
def am_cim (D : Nat → Nat → Int32) (w : Int32) : Int32 := am_calc (w >>> (12 : Int32) &&& (7 : Int32)) (zb (w >>> (12 : Int32) &&& (7 : Int32) = 5 ∧ ¬ w &&& (1073741824 : Int32) = 0)) (am_r1 D w) (w >>> (20 : Int32))
def am_ild (D : Nat → Nat → Int32) (w : Int32) : Int32 × (Nat → Nat → Int32) := if 0 ≤ am_mix (am_r1 D w + w >>> (20 : Int32)) ∧ am_mix (am_r1 D w + w >>> (20 : Int32)) < 64 then am_wgi D (w >>> (7 : Int32) &&& (31 : Int32)) (D 68 (am_mix (am_r1 D w + w >>> (20 : Int32))).toNatClampNeg) else (2, D)
def am_sof (w : Int32) : Int32 := w >>> (25 : Int32) <<< (5 : Int32) ||| w >>> (7 : Int32) &&& (31 : Int32)
def am_isr (D : Nat → Nat → Int32) (w : Int32) : Int32 × (Nat → Nat → Int32) := if 0 ≤ am_mix (am_r1 D w + am_sof w) ∧ am_mix (am_r1 D w + am_sof w) < 64 then am_gi (am_u D 68 (am_mix (am_r1 D w + am_sof w)).toNatClampNeg (am_r2 D w)) (D 65 8 + 4) else (2, D)
def am_bof (n : Int32) : Int32 := n >>> (31 : Int32) <<< (12 : Int32) ||| (n >>> (7 : Int32) &&& (1 : Int32)) <<< (11 : Int32) ||| (n >>> (25 : Int32) &&& (63 : Int32)) <<< (5 : Int32) ||| (n >>> (8 : Int32) &&& (15 : Int32)) <<< (1 : Int32)
def am_jof (n : Int32) : Int32 := n >>> (31 : Int32) <<< (20 : Int32) ||| n &&& (1044480 : Int32) ||| (n >>> (20 : Int32) &&& (1 : Int32)) <<< (11 : Int32) ||| (n >>> (21 : Int32) &&& (1023 : Int32)) <<< (1 : Int32)
def am_ibr (D : Nat → Nat → Int32) (w : Int32) : Int32 × (Nat → Nat → Int32) := if am_brs (w >>> (12 : Int32) &&& (7 : Int32)) (am_r1 D w) (am_r2 D w) = 0 then am_gi D (D 65 8 + 4) else am_gi D (D 65 8 + am_bof w)
def am_ijp (D : Nat → Nat → Int32) (k g : Int32) : Int32 × (Nat → Nat → Int32) := am_gi (am_wi D k (D 65 8 + 4)) g
def am_kpi (D : Nat → Nat → Int32) (v : Int32) : Nat → Nat → Int32 := am_u (if ¬ D 65 4 < 0 ∧ D 65 4 < 200 then am_u D 66 (D 65 4).toNatClampNeg v else D) 65 4 (D 65 4 + 1)
theorem c_X2_writeAndGoOn {D : Nat → Nat → Int32} {e : am_E} {kc ks : Nat} {Q : am_Q} {k v : Int32}  (q : Q (some (.int ((am_wgi D k v).1))) (hp (am_wgi D k v).2 e)) : am_Go (mX2_writeAndGoOn, 0, am_ent mX2_writeAndGoOn [.ref 65, .int k, .int v], [], hp D e, kc, ks, Q) := by
  refine go_s 3 rfl ?_
  refine go_v kX2_writeAndGoOn_3 okX2_write rfl rfl rfl rfl (Nat.zero_le _) (Nat.zero_le _) ?_
  refine c_X2_write ?_
  refine go_s 1 rfl ?_
  refine go_v kX2_writeAndGoOn_7 okX2_goOn rfl rfl rfl rfl (Nat.zero_le _) (Nat.zero_le _) ?_
  refine c_X2_goOn ?_
  exact go_ret rfl rfl (am_qp q (by rfl))
theorem c_X2_calculateByRegisters {D : Nat → Nat → Int32} {e : am_E} {kc ks : Nat} {Q : am_Q} {w : Int32}  (q : Q (some (.int (am_cr D w))) (hp D e)) : am_Go (mX2_calculateByRegisters, 0, am_ent mX2_calculateByRegisters [.ref 65, .int w], [], hp D e, kc, ks, Q) := by
  refine go_s 1 rfl ?_
  refine go_st kX2_calculateByRegisters_1 okX8_selectorIn rfl rfl rfl (Nat.zero_le _) (Nat.zero_le _) ?_
  refine c_X8_selectorIn ?_
  refine go_s 3 rfl ?_
  refine go_st kX2_calculateByRegisters_7 okX8_isOtherIn rfl rfl rfl (Nat.zero_le _) (Nat.zero_le _) ?_
  refine c_X8_isOtherIn ?_
  refine go_s 2 rfl ?_
  refine go_v kX2_calculateByRegisters_12 okX2_firstIn rfl rfl rfl rfl (Nat.zero_le _) (Nat.zero_le _) ?_
  refine c_X2_firstIn ?_
  refine go_s 2 rfl ?_
  refine go_v kX2_calculateByRegisters_17 okX2_secondIn rfl rfl rfl rfl (Nat.zero_le _) (Nat.zero_le _) ?_
  refine c_X2_secondIn ?_
  refine go_st kX2_calculateByRegisters_20 okX8_calculate rfl rfl rfl (Nat.zero_le _) (Nat.zero_le _) ?_
  refine c_X8_calculate ?_
  exact go_ret rfl rfl (am_qi q (by rfl) (by rfl))
theorem c_X2_calculateByImmediate {D : Nat → Nat → Int32} {e : am_E} {kc ks : Nat} {Q : am_Q} {w : Int32}  (q : Q (some (.int (am_cim D w))) (hp D e)) : am_Go (mX2_calculateByImmediate, 0, am_ent mX2_calculateByImmediate [.ref 65, .int w], [], hp D e, kc, ks, Q) := by
  refine go_s 1 rfl ?_
  refine go_st kX2_calculateByImmediate_1 okX8_selectorIn rfl rfl rfl (Nat.zero_le _) (Nat.zero_le _) ?_
  refine c_X8_selectorIn ?_
  refine go_s 4 rfl ?_
  refine go_if (fun c7 => ?_) (fun c7 => ?_)
  · refine go_s 1 rfl ?_
    refine go_st kX2_calculateByImmediate_11 okX8_isOtherIn rfl rfl rfl (Nat.zero_le _) (Nat.zero_le _) ?_
    refine c_X8_isOtherIn ?_
    refine go_s 1 rfl ?_
    refine go_if (fun c14 => ?_) (fun c14 => ?_)
    · refine go_s 6 rfl ?_
      refine go_v kX2_calculateByImmediate_27 okX2_firstIn rfl rfl rfl rfl (Nat.zero_le _) (Nat.zero_le _) ?_
      refine c_X2_firstIn ?_
      refine go_s 1 rfl ?_
      refine go_st kX2_calculateByImmediate_31 okX8_immediateOf rfl rfl rfl (Nat.zero_le _) (Nat.zero_le _) ?_
      refine c_X8_immediateOf ?_
      refine go_st kX2_calculateByImmediate_34 okX8_calculate rfl rfl rfl (Nat.zero_le _) (Nat.zero_le _) ?_
      refine c_X8_calculate ?_
      exact go_ret rfl rfl (am_qi q (by unfold am_cim; first | (rw [zb_t ⟨by assumption, zb_ne.mp c14⟩]; rfl) | (rw [zb_f (fun z => zb_0.mp c14 z.2)]; rfl) | (rw [zb_f (fun z => absurd z.1 (by assumption))]; rfl)) (by rfl))
    · refine go_s 7 rfl ?_
      refine go_v kX2_calculateByImmediate_27 okX2_firstIn rfl rfl rfl rfl (Nat.zero_le _) (Nat.zero_le _) ?_
      refine c_X2_firstIn ?_
      refine go_s 1 rfl ?_
      refine go_st kX2_calculateByImmediate_31 okX8_immediateOf rfl rfl rfl (Nat.zero_le _) (Nat.zero_le _) ?_
      refine c_X8_immediateOf ?_
      refine go_st kX2_calculateByImmediate_34 okX8_calculate rfl rfl rfl (Nat.zero_le _) (Nat.zero_le _) ?_
      refine c_X8_calculate ?_
      exact go_ret rfl rfl (am_qi q (by unfold am_cim; first | (rw [zb_t ⟨by assumption, zb_ne.mp c14⟩]; rfl) | (rw [zb_f (fun z => zb_0.mp c14 z.2)]; rfl) | (rw [zb_f (fun z => absurd z.1 (by assumption))]; rfl)) (by rfl))
  · refine go_s 6 rfl ?_
    refine go_v kX2_calculateByImmediate_27 okX2_firstIn rfl rfl rfl rfl (Nat.zero_le _) (Nat.zero_le _) ?_
    refine c_X2_firstIn ?_
    refine go_s 1 rfl ?_
    refine go_st kX2_calculateByImmediate_31 okX8_immediateOf rfl rfl rfl (Nat.zero_le _) (Nat.zero_le _) ?_
    refine c_X8_immediateOf ?_
    refine go_st kX2_calculateByImmediate_34 okX8_calculate rfl rfl rfl (Nat.zero_le _) (Nat.zero_le _) ?_
    refine c_X8_calculate ?_
    exact go_ret rfl rfl (am_qi q (by unfold am_cim; first | (rw [zb_t ⟨by assumption, zb_ne.mp c14⟩]; rfl) | (rw [zb_f (fun z => zb_0.mp c14 z.2)]; rfl) | (rw [zb_f (fun z => absurd z.1 (by assumption))]; rfl)) (by rfl))
theorem c_X2_load {D : Nat → Nat → Int32} {e : am_E} {kc ks : Nat} {Q : am_Q} {w : Int32}  (q : Q (some (.int ((am_ild D w).1))) (hp (am_ild D w).2 e)) : am_Go (mX2_load, 0, am_ent mX2_load [.ref 65, .int w], [], hp D e, kc, ks, Q) := by
  refine go_s 2 rfl ?_
  refine go_v kX2_load_2 okX2_firstIn rfl rfl rfl rfl (Nat.zero_le _) (Nat.zero_le _) ?_
  refine c_X2_firstIn ?_
  refine go_s 1 rfl ?_
  refine go_st kX2_load_6 okX8_immediateOf rfl rfl rfl (Nat.zero_le _) (Nat.zero_le _) ?_
  refine c_X8_immediateOf ?_
  refine go_s 1 rfl ?_
  refine go_st kX2_load_10 okX4_memoryIndex rfl rfl rfl (Nat.zero_le _) (Nat.zero_le _) ?_
  refine c_X4_memoryIndex ?_
  refine go_s 2 rfl ?_
  refine go_st kX2_load_15 okX4_isMemoryWord rfl rfl rfl (Nat.zero_le _) (Nat.zero_le _) ?_
  refine c_X4_isMemoryWord ?_
  refine go_s 1 rfl ?_
  refine go_if (fun c18 => ?_) (fun c18 => ?_)
  · refine go_s 1 rfl ?_
    exact go_ret rfl rfl (am_qp q (by first | exact if_pos (zb_ne.mp c18) | exact if_neg (zb_0.mp c18)))
  · refine go_s 2 rfl ?_
    refine go_st kX2_load_25 okX8_targetOf rfl rfl rfl (Nat.zero_le _) (Nat.zero_le _) ?_
    refine c_X8_targetOf ?_
    refine go_s 3 rfl ?_
    refine go_m rfl rfl (show vp_in _ 64 from vpl c18 (by decide)) ?_
    refine go_v kX2_load_34 okX2_writeAndGoOn rfl rfl rfl rfl (Nat.zero_le _) (Nat.zero_le _) ?_
    refine c_X2_writeAndGoOn ?_
    exact go_ret rfl rfl (am_qp q (by first | exact if_pos (zb_ne.mp c18) | exact if_neg (zb_0.mp c18)))
theorem c_X2_store {D : Nat → Nat → Int32} {e : am_E} {kc ks : Nat} {Q : am_Q} {w : Int32}  (q : Q (some (.int ((am_isr D w).1))) (hp (am_isr D w).2 e)) : am_Go (mX2_store, 0, am_ent mX2_store [.ref 65, .int w], [], hp D e, kc, ks, Q) := by
  refine go_s 2 rfl ?_
  refine go_v kX2_store_2 okX2_firstIn rfl rfl rfl rfl (Nat.zero_le _) (Nat.zero_le _) ?_
  refine c_X2_firstIn ?_
  refine go_s 1 rfl ?_
  refine go_st kX2_store_6 okX8_storeOffsetOf rfl rfl rfl (Nat.zero_le _) (Nat.zero_le _) ?_
  refine c_X8_storeOffsetOf ?_
  refine go_s 1 rfl ?_
  refine go_st kX2_store_10 okX4_memoryIndex rfl rfl rfl (Nat.zero_le _) (Nat.zero_le _) ?_
  refine c_X4_memoryIndex ?_
  refine go_s 2 rfl ?_
  refine go_st kX2_store_15 okX4_isMemoryWord rfl rfl rfl (Nat.zero_le _) (Nat.zero_le _) ?_
  refine c_X4_isMemoryWord ?_
  refine go_s 1 rfl ?_
  refine go_if (fun c18 => ?_) (fun c18 => ?_)
  · refine go_s 1 rfl ?_
    exact go_ret rfl rfl (am_qp q (by first | exact if_pos (zb_ne.mp c18) | exact if_neg (zb_0.mp c18)))
  · refine go_s 5 rfl ?_
    refine go_v kX2_store_30 okX2_secondIn rfl rfl rfl rfl (Nat.zero_le _) (Nat.zero_le _) ?_
    refine c_X2_secondIn ?_
    refine go_m rfl rfl (show vp_in _ 64 from vpl c18 (by decide)) ?_
    refine go_s 1 rfl ?_
    refine go_v kX2_store_35 okX2_goOn rfl rfl rfl rfl (Nat.zero_le _) (Nat.zero_le _) ?_
    refine c_X2_goOn ?_
    exact go_ret rfl rfl (am_qp q (by first | exact if_pos (zb_ne.mp c18) | exact if_neg (zb_0.mp c18)))
theorem c_X2_branch {D : Nat → Nat → Int32} {e : am_E} {kc ks : Nat} {Q : am_Q} {w : Int32}  (q : Q (some (.int ((am_ibr D w).1))) (hp (am_ibr D w).2 e)) : am_Go (mX2_branch, 0, am_ent mX2_branch [.ref 65, .int w], [], hp D e, kc, ks, Q) := by
  refine go_s 1 rfl ?_
  refine go_st kX2_branch_1 okX8_selectorIn rfl rfl rfl (Nat.zero_le _) (Nat.zero_le _) ?_
  refine c_X8_selectorIn ?_
  refine go_s 2 rfl ?_
  refine go_v kX2_branch_6 okX2_firstIn rfl rfl rfl rfl (Nat.zero_le _) (Nat.zero_le _) ?_
  refine c_X2_firstIn ?_
  refine go_s 2 rfl ?_
  refine go_v kX2_branch_11 okX2_secondIn rfl rfl rfl rfl (Nat.zero_le _) (Nat.zero_le _) ?_
  refine c_X2_secondIn ?_
  refine go_st kX2_branch_14 okX8_branches rfl rfl rfl (Nat.zero_le _) (Nat.zero_le _) ?_
  refine c_X8_branches ?_
  refine go_s 1 rfl ?_
  refine go_if (fun c17 => ?_) (fun c17 => ?_)
  · refine go_s 1 rfl ?_
    refine go_v kX2_branch_35 okX2_goOn rfl rfl rfl rfl (Nat.zero_le _) (Nat.zero_le _) ?_
    refine c_X2_goOn ?_
    exact go_ret rfl rfl (am_qp q (by first | exact if_pos c17 | exact if_neg c17))
  · refine go_s 4 rfl ?_
    refine go_st kX2_branch_26 okX8_branchOffsetOf rfl rfl rfl (Nat.zero_le _) (Nat.zero_le _) ?_
    refine c_X8_branchOffsetOf ?_
    refine go_s 1 rfl ?_
    refine go_v kX2_branch_30 okX2_goTo rfl rfl rfl rfl (Nat.zero_le _) (Nat.zero_le _) ?_
    refine c_X2_goTo ?_
    exact go_ret rfl rfl (am_qp q (by first | exact if_pos c17 | exact if_neg c17))
theorem c_X2_jump {D : Nat → Nat → Int32} {e : am_E} {kc ks : Nat} {Q : am_Q} {k g : Int32}  (q : Q (some (.int ((am_ijp D k g).1))) (hp (am_ijp D k g).2 e)) : am_Go (mX2_jump, 0, am_ent mX2_jump [.ref 65, .int k, .int g], [], hp D e, kc, ks, Q) := by
  refine go_s 6 rfl ?_
  refine go_v kX2_jump_8 okX2_write rfl rfl rfl rfl (Nat.zero_le _) (Nat.zero_le _) ?_
  refine c_X2_write ?_
  refine go_s 2 rfl ?_
  refine go_v kX2_jump_13 okX2_goTo rfl rfl rfl rfl (Nat.zero_le _) (Nat.zero_le _) ?_
  refine c_X2_goTo ?_
  exact go_ret rfl rfl (am_qp q (by rfl))
def am_isw (D : Nat → Nat → Int32) (w : Int32) : Int32 × (Nat → Nat → Int32) := if w &&& (127 : Int32) = 3 then am_ild D w else if w &&& (127 : Int32) = 19 then am_wgi D (w >>> (7 : Int32) &&& (31 : Int32)) (am_cim D w) else if w &&& (127 : Int32) = 35 then am_isr D w else if w &&& (127 : Int32) = 51 then am_wgi D (w >>> (7 : Int32) &&& (31 : Int32)) (am_cr D w) else if w &&& (127 : Int32) = 55 then am_wgi D (w >>> (7 : Int32) &&& (31 : Int32)) (w &&& (-4096 : Int32)) else if w &&& (127 : Int32) = 99 then am_ibr D w else if w &&& (127 : Int32) = 103 then am_ijp D (w >>> (7 : Int32) &&& (31 : Int32)) ((am_r1 D w + w >>> (20 : Int32)) &&& (-2 : Int32)) else if w &&& (127 : Int32) = 111 then am_ijp D (w >>> (7 : Int32) &&& (31 : Int32)) (D 65 8 + am_jof w) else if w &&& (127 : Int32) = 115 then am_gi (am_kpi D (D 67 10)) (am_kpi D (D 67 10) 65 8 + 4) else (2, D)
def am_ixa (D : Nat → Nat → Int32) (i : Int32) : Int32 := if i &&& (3 : Int32) = 0 ∧ ¬ (i - 4096) >>> (2 : Int32) < 0 ∧ (i - 4096) >>> (2 : Int32) < D 11 3 then (i - 4096) >>> (2 : Int32) else -1
def am_wda (D : Nat → Nat → Int32) (i : Int32) : Int32 := if ¬ i < 0 ∧ i < D 11 3 then D 12 i.toNatClampNeg else 0
def am_isp (D : Nat → Nat → Int32) : Int32 × (Nat → Nat → Int32) := if am_ixa D (D 65 8) = -1 then (2, D) else am_isw D (am_wda D (am_ixa D (D 65 8)))
theorem c_X2_step {D : Nat → Nat → Int32} {e : am_E} {kc ks : Nat} {Q : am_Q}  (hW : (D 11 3).toInt ≤ 600) (q : Q (some (.int ((am_isp D).1))) (hp (am_isp D).2 e)) : am_Go (mX2_step, 0, am_ent mX2_step [.ref 65], [], hp D e, kc, ks, Q) := by
  refine go_s 4 rfl ?_
  refine go_v kX2_step_8 okX1_indexAt rfl rfl rfl rfl (Nat.zero_le _) (Nat.zero_le _) ?_
  refine c_X1_indexAt ?_
  refine go_s 4 rfl ?_
  refine go_if (fun c14 => ?_) (fun c14 => ?_)
  · refine go_s 1 rfl ?_
    exact go_ret rfl rfl (am_qp q (by exact if_pos c14))
  · refine go_s 3 rfl ?_
    refine go_v kX2_step_24 okX1_wordAt rfl rfl rfl rfl (Nat.zero_le _) (Nat.zero_le _) ?_
    refine c_X1_wordAt hW ?_
    refine go_s 2 rfl ?_
    refine go_st kX2_step_29 okX8_targetOf rfl rfl rfl (Nat.zero_le _) (Nat.zero_le _) ?_
    refine c_X8_targetOf ?_
    refine go_s 2 rfl ?_
    refine go_st kX2_step_34 okX8_codeOf rfl rfl rfl (Nat.zero_le _) (Nat.zero_le _) ?_
    refine c_X8_codeOf ?_
    refine go_s 1 rfl ?_
    refine go_if (fun c37_0 => ?_) (fun c37_0 => ?_)
    · refine go_s 2 rfl ?_
      refine go_v kX2_step_155 okX2_load rfl rfl rfl rfl (Nat.zero_le _) (Nat.zero_le _) ?_
      refine c_X2_load ?_
      exact go_ret rfl rfl (am_qp2 q (by exact (if_neg c14).trans (if_pos c37_0)))
    · refine go_if (fun c37_1 => ?_) (fun c37_1 => ?_)
      · refine go_s 4 rfl ?_
        refine go_v kX2_step_135 okX2_calculateByImmediate rfl rfl rfl rfl (Nat.zero_le _) (Nat.zero_le _) ?_
        refine c_X2_calculateByImmediate ?_
        refine go_v kX2_step_138 okX2_writeAndGoOn rfl rfl rfl rfl (Nat.zero_le _) (Nat.zero_le _) ?_
        refine c_X2_writeAndGoOn ?_
        exact go_ret rfl rfl (am_qp2 q (by exact (if_neg c14).trans ((if_neg c37_0).trans (if_pos c37_1))))
      · refine go_if (fun c37_2 => ?_) (fun c37_2 => ?_)
        · refine go_s 2 rfl ?_
          refine go_v kX2_step_161 okX2_store rfl rfl rfl rfl (Nat.zero_le _) (Nat.zero_le _) ?_
          refine c_X2_store ?_
          exact go_ret rfl rfl (am_qp2 q (by exact (if_neg c14).trans ((if_neg c37_0).trans ((if_neg c37_1).trans (if_pos c37_2)))))
        · refine go_if (fun c37_3 => ?_) (fun c37_3 => ?_)
          · refine go_s 4 rfl ?_
            refine go_v kX2_step_124 okX2_calculateByRegisters rfl rfl rfl rfl (Nat.zero_le _) (Nat.zero_le _) ?_
            refine c_X2_calculateByRegisters ?_
            refine go_v kX2_step_127 okX2_writeAndGoOn rfl rfl rfl rfl (Nat.zero_le _) (Nat.zero_le _) ?_
            refine c_X2_writeAndGoOn ?_
            exact go_ret rfl rfl (am_qp2 q (by exact (if_neg c14).trans ((if_neg c37_0).trans ((if_neg c37_1).trans ((if_neg c37_2).trans (if_pos c37_3))))))
          · refine go_if (fun c37_4 => ?_) (fun c37_4 => ?_)
            · refine go_s 5 rfl ?_
              refine go_v kX2_step_149 okX2_writeAndGoOn rfl rfl rfl rfl (Nat.zero_le _) (Nat.zero_le _) ?_
              refine c_X2_writeAndGoOn ?_
              exact go_ret rfl rfl (am_qp2 q (by exact (if_neg c14).trans ((if_neg c37_0).trans ((if_neg c37_1).trans ((if_neg c37_2).trans ((if_neg c37_3).trans (if_pos c37_4)))))))
            · refine go_if (fun c37_5 => ?_) (fun c37_5 => ?_)
              · refine go_s 2 rfl ?_
                refine go_v kX2_step_167 okX2_branch rfl rfl rfl rfl (Nat.zero_le _) (Nat.zero_le _) ?_
                refine c_X2_branch ?_
                exact go_ret rfl rfl (am_qp2 q (by exact (if_neg c14).trans ((if_neg c37_0).trans ((if_neg c37_1).trans ((if_neg c37_2).trans ((if_neg c37_3).trans ((if_neg c37_4).trans (if_pos c37_5))))))))
              · refine go_if (fun c37_6 => ?_) (fun c37_6 => ?_)
                · refine go_s 4 rfl ?_
                  refine go_v kX2_step_190 okX2_firstIn rfl rfl rfl rfl (Nat.zero_le _) (Nat.zero_le _) ?_
                  refine c_X2_firstIn ?_
                  refine go_s 1 rfl ?_
                  refine go_st kX2_step_194 okX8_immediateOf rfl rfl rfl (Nat.zero_le _) (Nat.zero_le _) ?_
                  refine c_X8_immediateOf ?_
                  refine go_s 3 rfl ?_
                  refine go_v kX2_step_201 okX2_jump rfl rfl rfl rfl (Nat.zero_le _) (Nat.zero_le _) ?_
                  refine c_X2_jump ?_
                  exact go_ret rfl rfl (am_qp2 q (by exact (if_neg c14).trans ((if_neg c37_0).trans ((if_neg c37_1).trans ((if_neg c37_2).trans ((if_neg c37_3).trans ((if_neg c37_4).trans ((if_neg c37_5).trans (if_pos c37_6)))))))))
                · refine go_if (fun c37_7 => ?_) (fun c37_7 => ?_)
                  · refine go_s 5 rfl ?_
                    refine go_st kX2_step_178 okX8_jumpOffsetOf rfl rfl rfl (Nat.zero_le _) (Nat.zero_le _) ?_
                    refine c_X8_jumpOffsetOf ?_
                    refine go_s 1 rfl ?_
                    refine go_v kX2_step_182 okX2_jump rfl rfl rfl rfl (Nat.zero_le _) (Nat.zero_le _) ?_
                    refine c_X2_jump ?_
                    exact go_ret rfl rfl (am_qp2 q (by exact (if_neg c14).trans ((if_neg c37_0).trans ((if_neg c37_1).trans ((if_neg c37_2).trans ((if_neg c37_3).trans ((if_neg c37_4).trans ((if_neg c37_5).trans ((if_neg c37_6).trans (if_pos c37_7))))))))))
                  · refine go_if (fun c37_8 => ?_) (fun c37_8 => ?_)
                    · refine go_s 4 rfl ?_
                      refine go_m rfl rfl (show vp_in _ 32 from vp_in_nI (n := 10) (by decide) (by decide)) ?_
                      refine go_u kX2_step_213_2 okX4_keepPrint rfl rfl rfl rfl (Nat.zero_le _) (Nat.zero_le _) ?_
                      refine c_X4_keepPrint_65 ?_
                      refine go_s 1 rfl ?_
                      refine go_v kX2_step_217 okX2_goOn rfl rfl rfl rfl (Nat.zero_le _) (Nat.zero_le _) ?_
                      refine c_X2_goOn ?_
                      exact go_ret rfl rfl (am_qp q (by exact (if_neg c14).trans ((if_neg c37_0).trans ((if_neg c37_1).trans ((if_neg c37_2).trans ((if_neg c37_3).trans ((if_neg c37_4).trans ((if_neg c37_5).trans ((if_neg c37_6).trans ((if_neg c37_7).trans (if_pos c37_8)))))))))))
                    · refine go_s 1 rfl ?_
                      exact go_ret rfl rfl (am_qp q (by exact (if_neg c14).trans ((if_neg c37_0).trans ((if_neg c37_1).trans ((if_neg c37_2).trans ((if_neg c37_3).trans ((if_neg c37_4).trans ((if_neg c37_5).trans ((if_neg c37_6).trans ((if_neg c37_7).trans (if_neg c37_8)))))))))))
end
section
theorem c_X12_in {D : Nat → Nat → Int32} {e : am_E} {kc ks : Nat} {Q : am_Q} {v l h : Int32}  (q : Q (some (.int (zb (¬ v < l ∧ ¬ h < v)))) (hp D e)) : am_Go (mX12_in, 0, am_ent mX12_in [.int v, .int l, .int h], [], hp D e, kc, ks, Q) := by
  refine go_s 3 rfl ?_
  refine go_if (fun c2 => ?_) (fun c2 => ?_)
  · refine go_s 1 rfl ?_
    exact go_retz rfl rfl (by first | exact Or.inl rfl | exact Or.inr rfl | exact zb_01) (am_qi q (by simp_all [zb]) (by rfl))
  · refine go_s 3 rfl ?_
    refine go_if (fun c7 => ?_) (fun c7 => ?_)
    · refine go_s 1 rfl ?_
      exact go_retz rfl rfl (by first | exact Or.inl rfl | exact Or.inr rfl | exact zb_01) (am_qi q (by simp_all [zb]) (by rfl))
    · refine go_s 2 rfl ?_
      exact go_retz rfl rfl (by first | exact Or.inl rfl | exact Or.inr rfl | exact zb_01) (am_qi q (by simp_all [zb]) (by rfl))
theorem c_X12_isRegister {D : Nat → Nat → Int32} {e : am_E} {kc ks : Nat} {Q : am_Q} {r : Int32}  (q : Q (some (.int (zb ((¬ r < 0 ∧ ¬ 31 < r) ∧ ¬ r = 5)))) (hp D e)) : am_Go (mX12_isRegister, 0, am_ent mX12_isRegister [.int r], [], hp D e, kc, ks, Q) := by
  refine go_s 3 rfl ?_
  refine go_st kX12_isRegister_4 okX12_in rfl rfl rfl (Nat.zero_le _) (Nat.zero_le _) ?_
  refine c_X12_in ?_
  refine go_s 1 rfl ?_
  refine go_if (fun c7 => ?_) (fun c7 => ?_)
  · refine go_s 1 rfl ?_
    exact go_retz rfl rfl (by first | exact Or.inl rfl | exact Or.inr rfl | exact zb_01) (am_qi q (by first | exact (zb_f (fun z => zb_0.mp c7 z.1)).symm | exact (zb_t ⟨zb_ne.mp c7, by assumption⟩).symm | exact (zb_f (fun z => z.2 (by assumption))).symm) (by rfl))
  · refine go_s 3 rfl ?_
    refine go_if (fun c12 => ?_) (fun c12 => ?_)
    · refine go_s 1 rfl ?_
      exact go_retz rfl rfl (by first | exact Or.inl rfl | exact Or.inr rfl | exact zb_01) (am_qi q (by first | exact (zb_f (fun z => zb_0.mp c7 z.1)).symm | exact (zb_t ⟨zb_ne.mp c7, by assumption⟩).symm | exact (zb_f (fun z => z.2 (by assumption))).symm) (by rfl))
    · refine go_s 2 rfl ?_
      exact go_retz rfl rfl (by first | exact Or.inl rfl | exact Or.inr rfl | exact zb_01) (am_qi q (by first | exact (zb_f (fun z => zb_0.mp c7 z.1)).symm | exact (zb_t ⟨zb_ne.mp c7, by assumption⟩).symm | exact (zb_f (fun z => z.2 (by assumption))).symm) (by rfl))
theorem c_X12_tellsA {D : Nat → Nat → Int32} {e : am_E} {kc ks : Nat} {Q : am_Q} {n : Int32}  (q : Q (some (.int (zb (¬ n = 31 ∧ ¬ n = 34)))) (hp D e)) : am_Go (mX12_tellsA, 0, am_ent mX12_tellsA [.int n], [], hp D e, kc, ks, Q) := by
  refine go_s 3 rfl ?_
  refine go_if (fun c3 => ?_) (fun c3 => ?_)
  · refine go_s 1 rfl ?_
    exact go_retz rfl rfl (by first | exact Or.inl rfl | exact Or.inr rfl | exact zb_01) (am_qi q (by simp_all [zb]) (by rfl))
  · refine go_s 3 rfl ?_
    refine go_if (fun c9 => ?_) (fun c9 => ?_)
    · refine go_s 1 rfl ?_
      exact go_retz rfl rfl (by first | exact Or.inl rfl | exact Or.inr rfl | exact zb_01) (am_qi q (by simp_all [zb]) (by rfl))
    · refine go_s 2 rfl ?_
      exact go_retz rfl rfl (by first | exact Or.inl rfl | exact Or.inr rfl | exact zb_01) (am_qi q (by simp_all [zb]) (by rfl))
theorem c_X12_tellsB {D : Nat → Nat → Int32} {e : am_E} {kc ks : Nat} {Q : am_Q} {n : Int32}  (q : Q (some (.int (zb (¬ 27 < n ∨ n = 32)))) (hp D e)) : am_Go (mX12_tellsB, 0, am_ent mX12_tellsB [.int n], [], hp D e, kc, ks, Q) := by
  refine go_s 3 rfl ?_
  refine go_if (fun c3 => ?_) (fun c3 => ?_)
  · refine go_s 3 rfl ?_
    refine go_if (fun c9 => ?_) (fun c9 => ?_)
    · refine go_s 2 rfl ?_
      exact go_retz rfl rfl (by first | exact Or.inl rfl | exact Or.inr rfl | exact zb_01) (am_qi q (by simp_all [zb]) (by rfl))
    · refine go_s 1 rfl ?_
      exact go_retz rfl rfl (by first | exact Or.inl rfl | exact Or.inr rfl | exact zb_01) (am_qi q (by simp_all [zb]) (by rfl))
  · refine go_s 2 rfl ?_
    exact go_retz rfl rfl (by first | exact Or.inl rfl | exact Or.inr rfl | exact zb_01) (am_qi q (by simp_all [zb]) (by rfl))
theorem c_X12_tellsC {D : Nat → Nat → Int32} {e : am_E} {kc ks : Nat} {Q : am_Q} {n : Int32}  (q : Q (some (.int (zb (¬ 27 < n ∧ ¬ n = 19)))) (hp D e)) : am_Go (mX12_tellsC, 0, am_ent mX12_tellsC [.int n], [], hp D e, kc, ks, Q) := by
  refine go_s 3 rfl ?_
  refine go_if (fun c3 => ?_) (fun c3 => ?_)
  · refine go_s 1 rfl ?_
    exact go_retz rfl rfl (by first | exact Or.inl rfl | exact Or.inr rfl | exact zb_01) (am_qi q (by simp_all [zb]) (by rfl))
  · refine go_s 3 rfl ?_
    refine go_if (fun c9 => ?_) (fun c9 => ?_)
    · refine go_s 1 rfl ?_
      exact go_retz rfl rfl (by first | exact Or.inl rfl | exact Or.inr rfl | exact zb_01) (am_qi q (by simp_all [zb]) (by rfl))
    · refine go_s 2 rfl ?_
      exact go_retz rfl rfl (by first | exact Or.inl rfl | exact Or.inr rfl | exact zb_01) (am_qi q (by simp_all [zb]) (by rfl))
theorem c_X12_isCall {D : Nat → Nat → Int32} {e : am_E} {kc ks : Nat} {Q : am_Q} {n : Int32}  (q : Q (some (.int (zb (n = 29 ∨ n = 30)))) (hp D e)) : am_Go (mX12_isCall, 0, am_ent mX12_isCall [.int n], [], hp D e, kc, ks, Q) := by
  refine go_s 3 rfl ?_
  refine go_if (fun c3 => ?_) (fun c3 => ?_)
  · refine go_s 2 rfl ?_
    exact go_retz rfl rfl (by first | exact Or.inl rfl | exact Or.inr rfl | exact zb_01) (am_qi q (by simp_all [zb]) (by rfl))
  · refine go_s 3 rfl ?_
    refine go_if (fun c9 => ?_) (fun c9 => ?_)
    · refine go_s 2 rfl ?_
      exact go_retz rfl rfl (by first | exact Or.inl rfl | exact Or.inr rfl | exact zb_01) (am_qi q (by simp_all [zb]) (by rfl))
    · refine go_s 1 rfl ?_
      exact go_retz rfl rfl (by first | exact Or.inl rfl | exact Or.inr rfl | exact zb_01) (am_qi q (by simp_all [zb]) (by rfl))
theorem c_X12_isBranch {D : Nat → Nat → Int32} {e : am_E} {kc ks : Nat} {Q : am_Q} {n : Int32}  (q : Q (some (.int (zb (¬ n < 22 ∧ ¬ 27 < n)))) (hp D e)) : am_Go (mX12_isBranch, 0, am_ent mX12_isBranch [.int n], [], hp D e, kc, ks, Q) := by
  refine go_s 3 rfl ?_
  refine go_st kX12_isBranch_5 okX12_in rfl rfl rfl (Nat.zero_le _) (Nat.zero_le _) ?_
  refine c_X12_in ?_
  exact go_retz rfl rfl (by first | exact Or.inl rfl | exact Or.inr rfl | exact zb_01) (am_qi q (by rfl) (by rfl))
theorem c_X12_isBelow {D : Nat → Nat → Int32} {e : am_E} {kc ks : Nat} {Q : am_Q} {a b : Int32}  (q : Q (some (.int (zb (a + (-2147483648) < b + (-2147483648))))) (hp D e)) : am_Go (mX12_isBelow, 0, am_ent mX12_isBelow [.int a, .int b], [], hp D e, kc, ks, Q) := by
  refine go_s 7 rfl ?_
  refine go_if (fun c10 => ?_) (fun c10 => ?_)
  · refine go_s 2 rfl ?_
    exact go_retz rfl rfl (by first | exact Or.inl rfl | exact Or.inr rfl | exact zb_01) (am_qi q (by simp_all [zb]) (by rfl))
  · refine go_s 1 rfl ?_
    exact go_retz rfl rfl (by first | exact Or.inl rfl | exact Or.inr rfl | exact zb_01) (am_qi q (by simp_all [zb]) (by rfl))
theorem c_X12_jal {D : Nat → Nat → Int32} {e : am_E} {kc ks : Nat} {Q : am_Q} {r b : Int32}  (q : Q (some (.int ((b >>> (20 : Int32) &&& (1 : Int32)) <<< (31 : Int32) ||| (b >>> (1 : Int32) &&& (1023 : Int32)) <<< (21 : Int32) ||| (b >>> (11 : Int32) &&& (1 : Int32)) <<< (20 : Int32) ||| b &&& (1044480 : Int32) ||| r <<< (7 : Int32) ||| (111 : Int32)))) (hp D e)) : am_Go (mX12_jal, 0, am_ent mX12_jal [.int r, .int b], [], hp D e, kc, ks, Q) := by
  refine go_s 33 rfl ?_
  exact go_ret rfl rfl (am_qi q (by rfl) (by rfl))
theorem c_X12_branch {D : Nat → Nat → Int32} {e : am_E} {kc ks : Nat} {Q : am_Q} {f a b o : Int32}  (q : Q (some (.int ((o >>> (12 : Int32) &&& (1 : Int32)) <<< (31 : Int32) ||| (o >>> (5 : Int32) &&& (63 : Int32)) <<< (25 : Int32) ||| b <<< (20 : Int32) ||| a <<< (15 : Int32) ||| f <<< (12 : Int32) ||| (o >>> (1 : Int32) &&& (15 : Int32)) <<< (8 : Int32) ||| (o >>> (11 : Int32) &&& (1 : Int32)) <<< (7 : Int32) ||| (99 : Int32)))) (hp D e)) : am_Go (mX12_branch, 0, am_ent mX12_branch [.int f, .int a, .int b, .int o], [], hp D e, kc, ks, Q) := by
  refine go_s 45 rfl ?_
  exact go_ret rfl rfl (am_qi q (by rfl) (by rfl))
def am_f3 (n : Int32) : Int32 := if n = 0 then 0 else if n = 1 then 0 else if n = 2 then 7 else if n = 3 then 6 else if n = 4 then 4 else if n = 5 then 1 else if n = 6 then 5 else if n = 7 then 5 else if n = 8 then 2 else if n = 9 then 3 else if n = 10 then 0 else if n = 11 then 7 else if n = 12 then 6 else if n = 13 then 4 else if n = 14 then 2 else if n = 15 then 3 else if n = 16 then 1 else if n = 17 then 5 else if n = 18 then 5 else 7
theorem c_X12_f3Of {D : Nat → Nat → Int32} {e : am_E} {kc ks : Nat} {Q : am_Q} {n : Int32}  (q : Q (some (.int (am_f3 n))) (hp D e)) : am_Go (mX12_f3Of, 0, am_ent mX12_f3Of [.int n], [], hp D e, kc, ks, Q) := by
  refine go_s 2 rfl ?_
  refine go_if (fun c1_0 => ?_) (fun c1_0 => ?_)
  · refine go_s 1 rfl ?_
    exact go_ret rfl rfl (am_qi q (by exact (if_pos c1_0).symm) (by rfl))
  · refine go_if (fun c1_1 => ?_) (fun c1_1 => ?_)
    · refine go_s 1 rfl ?_
      exact go_ret rfl rfl (am_qi q (by exact ((if_neg c1_0).trans (if_pos c1_1)).symm) (by rfl))
    · refine go_if (fun c1_2 => ?_) (fun c1_2 => ?_)
      · refine go_s 1 rfl ?_
        exact go_ret rfl rfl (am_qi q (by exact ((if_neg c1_0).trans ((if_neg c1_1).trans (if_pos c1_2))).symm) (by rfl))
      · refine go_if (fun c1_3 => ?_) (fun c1_3 => ?_)
        · refine go_s 1 rfl ?_
          exact go_ret rfl rfl (am_qi q (by exact ((if_neg c1_0).trans ((if_neg c1_1).trans ((if_neg c1_2).trans (if_pos c1_3)))).symm) (by rfl))
        · refine go_if (fun c1_4 => ?_) (fun c1_4 => ?_)
          · refine go_s 1 rfl ?_
            exact go_ret rfl rfl (am_qi q (by exact ((if_neg c1_0).trans ((if_neg c1_1).trans ((if_neg c1_2).trans ((if_neg c1_3).trans (if_pos c1_4))))).symm) (by rfl))
          · refine go_if (fun c1_5 => ?_) (fun c1_5 => ?_)
            · refine go_s 1 rfl ?_
              exact go_ret rfl rfl (am_qi q (by exact ((if_neg c1_0).trans ((if_neg c1_1).trans ((if_neg c1_2).trans ((if_neg c1_3).trans ((if_neg c1_4).trans (if_pos c1_5)))))).symm) (by rfl))
            · refine go_if (fun c1_6 => ?_) (fun c1_6 => ?_)
              · refine go_s 1 rfl ?_
                exact go_ret rfl rfl (am_qi q (by exact ((if_neg c1_0).trans ((if_neg c1_1).trans ((if_neg c1_2).trans ((if_neg c1_3).trans ((if_neg c1_4).trans ((if_neg c1_5).trans (if_pos c1_6))))))).symm) (by rfl))
              · refine go_if (fun c1_7 => ?_) (fun c1_7 => ?_)
                · refine go_s 1 rfl ?_
                  exact go_ret rfl rfl (am_qi q (by exact ((if_neg c1_0).trans ((if_neg c1_1).trans ((if_neg c1_2).trans ((if_neg c1_3).trans ((if_neg c1_4).trans ((if_neg c1_5).trans ((if_neg c1_6).trans (if_pos c1_7)))))))).symm) (by rfl))
                · refine go_if (fun c1_8 => ?_) (fun c1_8 => ?_)
                  · refine go_s 1 rfl ?_
                    exact go_ret rfl rfl (am_qi q (by exact ((if_neg c1_0).trans ((if_neg c1_1).trans ((if_neg c1_2).trans ((if_neg c1_3).trans ((if_neg c1_4).trans ((if_neg c1_5).trans ((if_neg c1_6).trans ((if_neg c1_7).trans (if_pos c1_8))))))))).symm) (by rfl))
                  · refine go_if (fun c1_9 => ?_) (fun c1_9 => ?_)
                    · refine go_s 1 rfl ?_
                      exact go_ret rfl rfl (am_qi q (by exact ((if_neg c1_0).trans ((if_neg c1_1).trans ((if_neg c1_2).trans ((if_neg c1_3).trans ((if_neg c1_4).trans ((if_neg c1_5).trans ((if_neg c1_6).trans ((if_neg c1_7).trans ((if_neg c1_8).trans (if_pos c1_9)))))))))).symm) (by rfl))
                    · refine go_if (fun c1_10 => ?_) (fun c1_10 => ?_)
                      · refine go_s 1 rfl ?_
                        exact go_ret rfl rfl (am_qi q (by exact ((if_neg c1_0).trans ((if_neg c1_1).trans ((if_neg c1_2).trans ((if_neg c1_3).trans ((if_neg c1_4).trans ((if_neg c1_5).trans ((if_neg c1_6).trans ((if_neg c1_7).trans ((if_neg c1_8).trans ((if_neg c1_9).trans (if_pos c1_10))))))))))).symm) (by rfl))
                      · refine go_if (fun c1_11 => ?_) (fun c1_11 => ?_)
                        · refine go_s 1 rfl ?_
                          exact go_ret rfl rfl (am_qi q (by exact ((if_neg c1_0).trans ((if_neg c1_1).trans ((if_neg c1_2).trans ((if_neg c1_3).trans ((if_neg c1_4).trans ((if_neg c1_5).trans ((if_neg c1_6).trans ((if_neg c1_7).trans ((if_neg c1_8).trans ((if_neg c1_9).trans ((if_neg c1_10).trans (if_pos c1_11)))))))))))).symm) (by rfl))
                        · refine go_if (fun c1_12 => ?_) (fun c1_12 => ?_)
                          · refine go_s 1 rfl ?_
                            exact go_ret rfl rfl (am_qi q (by exact ((if_neg c1_0).trans ((if_neg c1_1).trans ((if_neg c1_2).trans ((if_neg c1_3).trans ((if_neg c1_4).trans ((if_neg c1_5).trans ((if_neg c1_6).trans ((if_neg c1_7).trans ((if_neg c1_8).trans ((if_neg c1_9).trans ((if_neg c1_10).trans ((if_neg c1_11).trans (if_pos c1_12))))))))))))).symm) (by rfl))
                          · refine go_if (fun c1_13 => ?_) (fun c1_13 => ?_)
                            · refine go_s 1 rfl ?_
                              exact go_ret rfl rfl (am_qi q (by exact ((if_neg c1_0).trans ((if_neg c1_1).trans ((if_neg c1_2).trans ((if_neg c1_3).trans ((if_neg c1_4).trans ((if_neg c1_5).trans ((if_neg c1_6).trans ((if_neg c1_7).trans ((if_neg c1_8).trans ((if_neg c1_9).trans ((if_neg c1_10).trans ((if_neg c1_11).trans ((if_neg c1_12).trans (if_pos c1_13)))))))))))))).symm) (by rfl))
                            · refine go_if (fun c1_14 => ?_) (fun c1_14 => ?_)
                              · refine go_s 1 rfl ?_
                                exact go_ret rfl rfl (am_qi q (by exact ((if_neg c1_0).trans ((if_neg c1_1).trans ((if_neg c1_2).trans ((if_neg c1_3).trans ((if_neg c1_4).trans ((if_neg c1_5).trans ((if_neg c1_6).trans ((if_neg c1_7).trans ((if_neg c1_8).trans ((if_neg c1_9).trans ((if_neg c1_10).trans ((if_neg c1_11).trans ((if_neg c1_12).trans ((if_neg c1_13).trans (if_pos c1_14))))))))))))))).symm) (by rfl))
                              · refine go_if (fun c1_15 => ?_) (fun c1_15 => ?_)
                                · refine go_s 1 rfl ?_
                                  exact go_ret rfl rfl (am_qi q (by exact ((if_neg c1_0).trans ((if_neg c1_1).trans ((if_neg c1_2).trans ((if_neg c1_3).trans ((if_neg c1_4).trans ((if_neg c1_5).trans ((if_neg c1_6).trans ((if_neg c1_7).trans ((if_neg c1_8).trans ((if_neg c1_9).trans ((if_neg c1_10).trans ((if_neg c1_11).trans ((if_neg c1_12).trans ((if_neg c1_13).trans ((if_neg c1_14).trans (if_pos c1_15)))))))))))))))).symm) (by rfl))
                                · refine go_if (fun c1_16 => ?_) (fun c1_16 => ?_)
                                  · refine go_s 1 rfl ?_
                                    exact go_ret rfl rfl (am_qi q (by exact ((if_neg c1_0).trans ((if_neg c1_1).trans ((if_neg c1_2).trans ((if_neg c1_3).trans ((if_neg c1_4).trans ((if_neg c1_5).trans ((if_neg c1_6).trans ((if_neg c1_7).trans ((if_neg c1_8).trans ((if_neg c1_9).trans ((if_neg c1_10).trans ((if_neg c1_11).trans ((if_neg c1_12).trans ((if_neg c1_13).trans ((if_neg c1_14).trans ((if_neg c1_15).trans (if_pos c1_16))))))))))))))))).symm) (by rfl))
                                  · refine go_if (fun c1_17 => ?_) (fun c1_17 => ?_)
                                    · refine go_s 1 rfl ?_
                                      exact go_ret rfl rfl (am_qi q (by exact ((if_neg c1_0).trans ((if_neg c1_1).trans ((if_neg c1_2).trans ((if_neg c1_3).trans ((if_neg c1_4).trans ((if_neg c1_5).trans ((if_neg c1_6).trans ((if_neg c1_7).trans ((if_neg c1_8).trans ((if_neg c1_9).trans ((if_neg c1_10).trans ((if_neg c1_11).trans ((if_neg c1_12).trans ((if_neg c1_13).trans ((if_neg c1_14).trans ((if_neg c1_15).trans ((if_neg c1_16).trans (if_pos c1_17)))))))))))))))))).symm) (by rfl))
                                    · refine go_if (fun c1_18 => ?_) (fun c1_18 => ?_)
                                      · refine go_s 1 rfl ?_
                                        exact go_ret rfl rfl (am_qi q (by exact ((if_neg c1_0).trans ((if_neg c1_1).trans ((if_neg c1_2).trans ((if_neg c1_3).trans ((if_neg c1_4).trans ((if_neg c1_5).trans ((if_neg c1_6).trans ((if_neg c1_7).trans ((if_neg c1_8).trans ((if_neg c1_9).trans ((if_neg c1_10).trans ((if_neg c1_11).trans ((if_neg c1_12).trans ((if_neg c1_13).trans ((if_neg c1_14).trans ((if_neg c1_15).trans ((if_neg c1_16).trans ((if_neg c1_17).trans (if_pos c1_18))))))))))))))))))).symm) (by rfl))
                                      · refine go_s 1 rfl ?_
                                        exact go_ret rfl rfl (am_qi q (by exact ((if_neg c1_0).trans ((if_neg c1_1).trans ((if_neg c1_2).trans ((if_neg c1_3).trans ((if_neg c1_4).trans ((if_neg c1_5).trans ((if_neg c1_6).trans ((if_neg c1_7).trans ((if_neg c1_8).trans ((if_neg c1_9).trans ((if_neg c1_10).trans ((if_neg c1_11).trans ((if_neg c1_12).trans ((if_neg c1_13).trans ((if_neg c1_14).trans ((if_neg c1_15).trans ((if_neg c1_16).trans ((if_neg c1_17).trans (if_neg c1_18))))))))))))))))))).symm) (by rfl))
def am_rk (n b c : Int32) : Int32 := if n = 0 then b + c else if n = 1 then b - c else if n = 2 then b &&& c else if n = 3 then b ||| c else if n = 4 then b ^^^ c else if n = 5 then b <<< (c &&& 31 &&& 31) else if n = 6 then (b.toUInt32 >>> ((c &&& 31).toUInt32 &&& Int32.toUInt32 31)).toInt32 else if n = 7 then b >>> (c &&& 31 &&& 31) else if n = 8 then zb (b < c) else if n = 9 then zb (b + (-2147483648) < c + (-2147483648)) else if n = 10 then b + c else if n = 11 then b &&& c else if n = 12 then b ||| c else if n = 13 then b ^^^ c else if n = 14 then zb (b < c) else if n = 15 then zb (b + (-2147483648) < c + (-2147483648)) else if n = 16 then b <<< (c &&& 31 &&& 31) else if n = 17 then (b.toUInt32 >>> ((c &&& 31).toUInt32 &&& Int32.toUInt32 31)).toInt32 else if n = 18 then b >>> (c &&& 31 &&& 31) else zb (b + (-2147483648) < c + (-2147483648))
theorem c_X12_reckoned {D : Nat → Nat → Int32} {e : am_E} {kc ks : Nat} {Q : am_Q} {n b c : Int32}  (q : Q (some (.int (am_rk n b c))) (hp D e)) : am_Go (mX12_reckoned, 0, am_ent mX12_reckoned [.int n, .int b, .int c], [], hp D e, kc, ks, Q) := by
  refine go_s 2 rfl ?_
  refine go_if (fun c1_0 => ?_) (fun c1_0 => ?_)
  · refine go_s 3 rfl ?_
    exact go_ret rfl rfl (am_qi q (by exact (if_pos c1_0).symm) (by rfl))
  · refine go_if (fun c1_1 => ?_) (fun c1_1 => ?_)
    · refine go_s 3 rfl ?_
      exact go_ret rfl rfl (am_qi q (by exact ((if_neg c1_0).trans (if_pos c1_1)).symm) (by rfl))
    · refine go_if (fun c1_2 => ?_) (fun c1_2 => ?_)
      · refine go_s 3 rfl ?_
        exact go_ret rfl rfl (am_qi q (by exact ((if_neg c1_0).trans ((if_neg c1_1).trans (if_pos c1_2))).symm) (by rfl))
      · refine go_if (fun c1_3 => ?_) (fun c1_3 => ?_)
        · refine go_s 3 rfl ?_
          exact go_ret rfl rfl (am_qi q (by exact ((if_neg c1_0).trans ((if_neg c1_1).trans ((if_neg c1_2).trans (if_pos c1_3)))).symm) (by rfl))
        · refine go_if (fun c1_4 => ?_) (fun c1_4 => ?_)
          · refine go_s 3 rfl ?_
            exact go_ret rfl rfl (am_qi q (by exact ((if_neg c1_0).trans ((if_neg c1_1).trans ((if_neg c1_2).trans ((if_neg c1_3).trans (if_pos c1_4))))).symm) (by rfl))
          · refine go_if (fun c1_5 => ?_) (fun c1_5 => ?_)
            · refine go_s 5 rfl ?_
              exact go_ret rfl rfl (am_qi q (by exact ((if_neg c1_0).trans ((if_neg c1_1).trans ((if_neg c1_2).trans ((if_neg c1_3).trans ((if_neg c1_4).trans (if_pos c1_5)))))).symm) (by rfl))
            · refine go_if (fun c1_6 => ?_) (fun c1_6 => ?_)
              · refine go_s 5 rfl ?_
                exact go_ret rfl rfl (am_qi q (by exact ((if_neg c1_0).trans ((if_neg c1_1).trans ((if_neg c1_2).trans ((if_neg c1_3).trans ((if_neg c1_4).trans ((if_neg c1_5).trans (if_pos c1_6))))))).symm) (by rfl))
              · refine go_if (fun c1_7 => ?_) (fun c1_7 => ?_)
                · refine go_s 5 rfl ?_
                  exact go_ret rfl rfl (am_qi q (by exact ((if_neg c1_0).trans ((if_neg c1_1).trans ((if_neg c1_2).trans ((if_neg c1_3).trans ((if_neg c1_4).trans ((if_neg c1_5).trans ((if_neg c1_6).trans (if_pos c1_7)))))))).symm) (by rfl))
                · refine go_if (fun c1_8 => ?_) (fun c1_8 => ?_)
                  · refine go_s 3 rfl ?_
                    refine go_if (fun c135 => ?_) (fun c135 => ?_)
                    · refine go_s 2 rfl ?_
                      exact go_ret rfl rfl (am_qi q (by exact ((if_neg c1_0).trans ((if_neg c1_1).trans ((if_neg c1_2).trans ((if_neg c1_3).trans ((if_neg c1_4).trans ((if_neg c1_5).trans ((if_neg c1_6).trans ((if_neg c1_7).trans ((if_pos c1_8).trans (zb_t c135)))))))))).symm) (by rfl))
                    · refine go_s 1 rfl ?_
                      exact go_ret rfl rfl (am_qi q (by exact ((if_neg c1_0).trans ((if_neg c1_1).trans ((if_neg c1_2).trans ((if_neg c1_3).trans ((if_neg c1_4).trans ((if_neg c1_5).trans ((if_neg c1_6).trans ((if_neg c1_7).trans ((if_pos c1_8).trans (zb_f c135)))))))))).symm) (by rfl))
                  · refine go_if (fun c1_9 => ?_) (fun c1_9 => ?_)
                    · refine go_s 2 rfl ?_
                      refine go_st kX12_reckoned_146 okX12_isBelow rfl rfl rfl (Nat.zero_le _) (Nat.zero_le _) ?_
                      refine c_X12_isBelow ?_
                      refine go_s 1 rfl ?_
                      refine go_if (fun c149 => ?_) (fun c149 => ?_)
                      · refine go_s 1 rfl ?_
                        exact go_ret rfl rfl (am_qi q (by exact ((if_neg c1_0).trans ((if_neg c1_1).trans ((if_neg c1_2).trans ((if_neg c1_3).trans ((if_neg c1_4).trans ((if_neg c1_5).trans ((if_neg c1_6).trans ((if_neg c1_7).trans ((if_neg c1_8).trans ((if_pos c1_9).trans (zb_f (zb_0.mp c149)))))))))))).symm) (by rfl))
                      · refine go_s 2 rfl ?_
                        exact go_ret rfl rfl (am_qi q (by exact ((if_neg c1_0).trans ((if_neg c1_1).trans ((if_neg c1_2).trans ((if_neg c1_3).trans ((if_neg c1_4).trans ((if_neg c1_5).trans ((if_neg c1_6).trans ((if_neg c1_7).trans ((if_neg c1_8).trans ((if_pos c1_9).trans (zb_t (zb_ne.mp c149)))))))))))).symm) (by rfl))
                    · refine go_if (fun c1_10 => ?_) (fun c1_10 => ?_)
                      · refine go_s 3 rfl ?_
                        exact go_ret rfl rfl (am_qi q (by exact ((if_neg c1_0).trans ((if_neg c1_1).trans ((if_neg c1_2).trans ((if_neg c1_3).trans ((if_neg c1_4).trans ((if_neg c1_5).trans ((if_neg c1_6).trans ((if_neg c1_7).trans ((if_neg c1_8).trans ((if_neg c1_9).trans (if_pos c1_10))))))))))).symm) (by rfl))
                      · refine go_if (fun c1_11 => ?_) (fun c1_11 => ?_)
                        · refine go_s 3 rfl ?_
                          exact go_ret rfl rfl (am_qi q (by exact ((if_neg c1_0).trans ((if_neg c1_1).trans ((if_neg c1_2).trans ((if_neg c1_3).trans ((if_neg c1_4).trans ((if_neg c1_5).trans ((if_neg c1_6).trans ((if_neg c1_7).trans ((if_neg c1_8).trans ((if_neg c1_9).trans ((if_neg c1_10).trans (if_pos c1_11)))))))))))).symm) (by rfl))
                        · refine go_if (fun c1_12 => ?_) (fun c1_12 => ?_)
                          · refine go_s 3 rfl ?_
                            exact go_ret rfl rfl (am_qi q (by exact ((if_neg c1_0).trans ((if_neg c1_1).trans ((if_neg c1_2).trans ((if_neg c1_3).trans ((if_neg c1_4).trans ((if_neg c1_5).trans ((if_neg c1_6).trans ((if_neg c1_7).trans ((if_neg c1_8).trans ((if_neg c1_9).trans ((if_neg c1_10).trans ((if_neg c1_11).trans (if_pos c1_12))))))))))))).symm) (by rfl))
                          · refine go_if (fun c1_13 => ?_) (fun c1_13 => ?_)
                            · refine go_s 3 rfl ?_
                              exact go_ret rfl rfl (am_qi q (by exact ((if_neg c1_0).trans ((if_neg c1_1).trans ((if_neg c1_2).trans ((if_neg c1_3).trans ((if_neg c1_4).trans ((if_neg c1_5).trans ((if_neg c1_6).trans ((if_neg c1_7).trans ((if_neg c1_8).trans ((if_neg c1_9).trans ((if_neg c1_10).trans ((if_neg c1_11).trans ((if_neg c1_12).trans (if_pos c1_13)))))))))))))).symm) (by rfl))
                            · refine go_if (fun c1_14 => ?_) (fun c1_14 => ?_)
                              · refine go_s 3 rfl ?_
                                refine go_if (fun c135 => ?_) (fun c135 => ?_)
                                · refine go_s 2 rfl ?_
                                  exact go_ret rfl rfl (am_qi q (by exact ((if_neg c1_0).trans ((if_neg c1_1).trans ((if_neg c1_2).trans ((if_neg c1_3).trans ((if_neg c1_4).trans ((if_neg c1_5).trans ((if_neg c1_6).trans ((if_neg c1_7).trans ((if_neg c1_8).trans ((if_neg c1_9).trans ((if_neg c1_10).trans ((if_neg c1_11).trans ((if_neg c1_12).trans ((if_neg c1_13).trans ((if_pos c1_14).trans (zb_t c135)))))))))))))))).symm) (by rfl))
                                · refine go_s 1 rfl ?_
                                  exact go_ret rfl rfl (am_qi q (by exact ((if_neg c1_0).trans ((if_neg c1_1).trans ((if_neg c1_2).trans ((if_neg c1_3).trans ((if_neg c1_4).trans ((if_neg c1_5).trans ((if_neg c1_6).trans ((if_neg c1_7).trans ((if_neg c1_8).trans ((if_neg c1_9).trans ((if_neg c1_10).trans ((if_neg c1_11).trans ((if_neg c1_12).trans ((if_neg c1_13).trans ((if_pos c1_14).trans (zb_f c135)))))))))))))))).symm) (by rfl))
                              · refine go_if (fun c1_15 => ?_) (fun c1_15 => ?_)
                                · refine go_s 2 rfl ?_
                                  refine go_st kX12_reckoned_146 okX12_isBelow rfl rfl rfl (Nat.zero_le _) (Nat.zero_le _) ?_
                                  refine c_X12_isBelow ?_
                                  refine go_s 1 rfl ?_
                                  refine go_if (fun c149 => ?_) (fun c149 => ?_)
                                  · refine go_s 1 rfl ?_
                                    exact go_ret rfl rfl (am_qi q (by exact ((if_neg c1_0).trans ((if_neg c1_1).trans ((if_neg c1_2).trans ((if_neg c1_3).trans ((if_neg c1_4).trans ((if_neg c1_5).trans ((if_neg c1_6).trans ((if_neg c1_7).trans ((if_neg c1_8).trans ((if_neg c1_9).trans ((if_neg c1_10).trans ((if_neg c1_11).trans ((if_neg c1_12).trans ((if_neg c1_13).trans ((if_neg c1_14).trans ((if_pos c1_15).trans (zb_f (zb_0.mp c149)))))))))))))))))).symm) (by rfl))
                                  · refine go_s 2 rfl ?_
                                    exact go_ret rfl rfl (am_qi q (by exact ((if_neg c1_0).trans ((if_neg c1_1).trans ((if_neg c1_2).trans ((if_neg c1_3).trans ((if_neg c1_4).trans ((if_neg c1_5).trans ((if_neg c1_6).trans ((if_neg c1_7).trans ((if_neg c1_8).trans ((if_neg c1_9).trans ((if_neg c1_10).trans ((if_neg c1_11).trans ((if_neg c1_12).trans ((if_neg c1_13).trans ((if_neg c1_14).trans ((if_pos c1_15).trans (zb_t (zb_ne.mp c149)))))))))))))))))).symm) (by rfl))
                                · refine go_if (fun c1_16 => ?_) (fun c1_16 => ?_)
                                  · refine go_s 5 rfl ?_
                                    exact go_ret rfl rfl (am_qi q (by exact ((if_neg c1_0).trans ((if_neg c1_1).trans ((if_neg c1_2).trans ((if_neg c1_3).trans ((if_neg c1_4).trans ((if_neg c1_5).trans ((if_neg c1_6).trans ((if_neg c1_7).trans ((if_neg c1_8).trans ((if_neg c1_9).trans ((if_neg c1_10).trans ((if_neg c1_11).trans ((if_neg c1_12).trans ((if_neg c1_13).trans ((if_neg c1_14).trans ((if_neg c1_15).trans (if_pos c1_16))))))))))))))))).symm) (by rfl))
                                  · refine go_if (fun c1_17 => ?_) (fun c1_17 => ?_)
                                    · refine go_s 5 rfl ?_
                                      exact go_ret rfl rfl (am_qi q (by exact ((if_neg c1_0).trans ((if_neg c1_1).trans ((if_neg c1_2).trans ((if_neg c1_3).trans ((if_neg c1_4).trans ((if_neg c1_5).trans ((if_neg c1_6).trans ((if_neg c1_7).trans ((if_neg c1_8).trans ((if_neg c1_9).trans ((if_neg c1_10).trans ((if_neg c1_11).trans ((if_neg c1_12).trans ((if_neg c1_13).trans ((if_neg c1_14).trans ((if_neg c1_15).trans ((if_neg c1_16).trans (if_pos c1_17)))))))))))))))))).symm) (by rfl))
                                    · refine go_if (fun c1_18 => ?_) (fun c1_18 => ?_)
                                      · refine go_s 5 rfl ?_
                                        exact go_ret rfl rfl (am_qi q (by exact ((if_neg c1_0).trans ((if_neg c1_1).trans ((if_neg c1_2).trans ((if_neg c1_3).trans ((if_neg c1_4).trans ((if_neg c1_5).trans ((if_neg c1_6).trans ((if_neg c1_7).trans ((if_neg c1_8).trans ((if_neg c1_9).trans ((if_neg c1_10).trans ((if_neg c1_11).trans ((if_neg c1_12).trans ((if_neg c1_13).trans ((if_neg c1_14).trans ((if_neg c1_15).trans ((if_neg c1_16).trans ((if_neg c1_17).trans (if_pos c1_18))))))))))))))))))).symm) (by rfl))
                                      · refine go_s 2 rfl ?_
                                        refine go_st kX12_reckoned_146 okX12_isBelow rfl rfl rfl (Nat.zero_le _) (Nat.zero_le _) ?_
                                        refine c_X12_isBelow ?_
                                        refine go_s 1 rfl ?_
                                        refine go_if (fun c149 => ?_) (fun c149 => ?_)
                                        · refine go_s 1 rfl ?_
                                          exact go_ret rfl rfl (am_qi q (by exact ((if_neg c1_0).trans ((if_neg c1_1).trans ((if_neg c1_2).trans ((if_neg c1_3).trans ((if_neg c1_4).trans ((if_neg c1_5).trans ((if_neg c1_6).trans ((if_neg c1_7).trans ((if_neg c1_8).trans ((if_neg c1_9).trans ((if_neg c1_10).trans ((if_neg c1_11).trans ((if_neg c1_12).trans ((if_neg c1_13).trans ((if_neg c1_14).trans ((if_neg c1_15).trans ((if_neg c1_16).trans ((if_neg c1_17).trans ((if_neg c1_18).trans (zb_f (zb_0.mp c149))))))))))))))))))))).symm) (by rfl))
                                        · refine go_s 2 rfl ?_
                                          exact go_ret rfl rfl (am_qi q (by exact ((if_neg c1_0).trans ((if_neg c1_1).trans ((if_neg c1_2).trans ((if_neg c1_3).trans ((if_neg c1_4).trans ((if_neg c1_5).trans ((if_neg c1_6).trans ((if_neg c1_7).trans ((if_neg c1_8).trans ((if_neg c1_9).trans ((if_neg c1_10).trans ((if_neg c1_11).trans ((if_neg c1_12).trans ((if_neg c1_13).trans ((if_neg c1_14).trans ((if_neg c1_15).trans ((if_neg c1_16).trans ((if_neg c1_17).trans ((if_neg c1_18).trans (zb_t (zb_ne.mp c149))))))))))))))))))))).symm) (by rfl))
def am_md (f o a b : Int32) : Int32 := if f = 0 then (if o = 1 then a - b else a + b) else if f = 1 then a <<< (b &&& 31 &&& 31) else if f = 2 then zb (a < b) else if f = 3 then zb (a + (-2147483648) < b + (-2147483648)) else if f = 4 then a ^^^ b else if f = 5 then (if o = 1 then a >>> (b &&& 31 &&& 31) else (a.toUInt32 >>> ((b &&& 31).toUInt32 &&& Int32.toUInt32 31)).toInt32) else if f = 6 then a ||| b else a &&& b
theorem c_X12_made {D : Nat → Nat → Int32} {e : am_E} {kc ks : Nat} {Q : am_Q} {f o a b : Int32}  (q : Q (some (.int (am_md f o a b))) (hp D e)) : am_Go (mX12_made, 0, am_ent mX12_made [.int f, .int o, .int a, .int b], [], hp D e, kc, ks, Q) := by
  refine go_s 2 rfl ?_
  refine go_if (fun c1_0 => ?_) (fun c1_0 => ?_)
  · refine go_s 3 rfl ?_
    refine go_if (fun c46 => ?_) (fun c46 => ?_)
    · refine go_s 4 rfl ?_
      exact go_ret rfl rfl (am_qi q (by simp_all [am_md, zb]) (by rfl))
    · refine go_s 3 rfl ?_
      exact go_ret rfl rfl (am_qi q (by simp_all [am_md, zb]) (by rfl))
  · refine go_if (fun c1_1 => ?_) (fun c1_1 => ?_)
    · refine go_s 5 rfl ?_
      exact go_ret rfl rfl (am_qi q (by simp_all [am_md, zb]) (by rfl))
    · refine go_if (fun c1_2 => ?_) (fun c1_2 => ?_)
      · refine go_s 3 rfl ?_
        refine go_if (fun c68 => ?_) (fun c68 => ?_)
        · refine go_s 2 rfl ?_
          exact go_ret rfl rfl (am_qi q (by simp_all [am_md, zb]) (by rfl))
        · refine go_s 1 rfl ?_
          exact go_ret rfl rfl (am_qi q (by simp_all [am_md, zb]) (by rfl))
      · refine go_if (fun c1_3 => ?_) (fun c1_3 => ?_)
        · refine go_s 2 rfl ?_
          refine go_st kX12_made_79 okX12_isBelow rfl rfl rfl (Nat.zero_le _) (Nat.zero_le _) ?_
          refine c_X12_isBelow ?_
          refine go_s 1 rfl ?_
          refine go_if (fun c82 => ?_) (fun c82 => ?_)
          · refine go_s 1 rfl ?_
            exact go_ret rfl rfl (am_qi q (by simp_all [am_md, zb]) (by rfl))
          · refine go_s 2 rfl ?_
            exact go_ret rfl rfl (am_qi q (by simp_all [am_md, zb]) (by rfl))
        · refine go_if (fun c1_4 => ?_) (fun c1_4 => ?_)
          · refine go_s 3 rfl ?_
            exact go_ret rfl rfl (am_qi q (by simp_all [am_md, zb]) (by rfl))
          · refine go_if (fun c1_5 => ?_) (fun c1_5 => ?_)
            · refine go_s 3 rfl ?_
              refine go_if (fun c97 => ?_) (fun c97 => ?_)
              · refine go_s 6 rfl ?_
                exact go_ret rfl rfl (am_qi q (by simp_all [am_md, zb]) (by rfl))
              · refine go_s 5 rfl ?_
                exact go_ret rfl rfl (am_qi q (by simp_all [am_md, zb]) (by rfl))
            · refine go_if (fun c1_6 => ?_) (fun c1_6 => ?_)
              · refine go_s 3 rfl ?_
                exact go_ret rfl rfl (am_qi q (by simp_all [am_md, zb]) (by rfl))
              · refine go_s 3 rfl ?_
                exact go_ret rfl rfl (am_qi q (by simp_all [am_md, zb]) (by rfl))
def am_hd (f a b : Int32) : Int32 := if f = 0 then zb (a = b) else if f = 1 then zb (¬ a = b) else if f = 2 then zb (¬ a + (-2147483648) < b + (-2147483648)) else if f = 3 then zb (¬ a + (-2147483648) < b + (-2147483648)) else if f = 4 then zb (a < b) else if f = 5 then zb (¬ a < b) else if f = 6 then zb (a + (-2147483648) < b + (-2147483648)) else zb (¬ a + (-2147483648) < b + (-2147483648))
theorem c_X12_holds {D : Nat → Nat → Int32} {e : am_E} {kc ks : Nat} {Q : am_Q} {f a b : Int32}  (q : Q (some (.int (am_hd f a b))) (hp D e)) : am_Go (mX12_holds, 0, am_ent mX12_holds [.int f, .int a, .int b], [], hp D e, kc, ks, Q) := by
  refine go_s 2 rfl ?_
  refine go_if (fun c1_0 => ?_) (fun c1_0 => ?_)
  · refine go_s 3 rfl ?_
    refine go_if (fun c46 => ?_) (fun c46 => ?_)
    · refine go_s 2 rfl ?_
      exact go_retz rfl rfl (by first | exact zb_01 | exact Or.inl rfl | exact Or.inr rfl) (am_qi q (by exact ((if_pos c1_0).trans (zb_t c46)).symm) (by rfl))
    · refine go_s 1 rfl ?_
      exact go_retz rfl rfl (by first | exact zb_01 | exact Or.inl rfl | exact Or.inr rfl) (am_qi q (by exact ((if_pos c1_0).trans (zb_f c46)).symm) (by rfl))
  · refine go_if (fun c1_1 => ?_) (fun c1_1 => ?_)
    · refine go_s 3 rfl ?_
      refine go_if (fun c57 => ?_) (fun c57 => ?_)
      · refine go_s 1 rfl ?_
        exact go_retz rfl rfl (by first | exact zb_01 | exact Or.inl rfl | exact Or.inr rfl) (am_qi q (by exact ((if_neg c1_0).trans ((if_pos c1_1).trans (zb_f (fun z => z c57)))).symm) (by rfl))
      · refine go_s 2 rfl ?_
        exact go_retz rfl rfl (by first | exact zb_01 | exact Or.inl rfl | exact Or.inr rfl) (am_qi q (by exact ((if_neg c1_0).trans ((if_pos c1_1).trans (zb_t c57))).symm) (by rfl))
    · refine go_if (fun c1_2 => ?_) (fun c1_2 => ?_)
      · refine go_s 2 rfl ?_
        refine go_st kX12_holds_96 okX12_isBelow rfl rfl rfl (Nat.zero_le _) (Nat.zero_le _) ?_
        refine c_X12_isBelow ?_
        refine go_s 1 rfl ?_
        refine go_if (fun c99 => ?_) (fun c99 => ?_)
        · refine go_s 2 rfl ?_
          exact go_retz rfl rfl (by first | exact zb_01 | exact Or.inl rfl | exact Or.inr rfl) (am_qi q (by exact ((if_neg c1_0).trans ((if_neg c1_1).trans ((if_pos c1_2).trans (zb_t (zb_0.mp c99))))).symm) (by rfl))
        · refine go_s 1 rfl ?_
          exact go_retz rfl rfl (by first | exact zb_01 | exact Or.inl rfl | exact Or.inr rfl) (am_qi q (by exact ((if_neg c1_0).trans ((if_neg c1_1).trans ((if_pos c1_2).trans (zb_f (fun y => y (zb_ne.mp c99)))))).symm) (by rfl))
      · refine go_if (fun c1_3 => ?_) (fun c1_3 => ?_)
        · refine go_s 2 rfl ?_
          refine go_st kX12_holds_96 okX12_isBelow rfl rfl rfl (Nat.zero_le _) (Nat.zero_le _) ?_
          refine c_X12_isBelow ?_
          refine go_s 1 rfl ?_
          refine go_if (fun c99 => ?_) (fun c99 => ?_)
          · refine go_s 2 rfl ?_
            exact go_retz rfl rfl (by first | exact zb_01 | exact Or.inl rfl | exact Or.inr rfl) (am_qi q (by exact ((if_neg c1_0).trans ((if_neg c1_1).trans ((if_neg c1_2).trans ((if_pos c1_3).trans (zb_t (zb_0.mp c99)))))).symm) (by rfl))
          · refine go_s 1 rfl ?_
            exact go_retz rfl rfl (by first | exact zb_01 | exact Or.inl rfl | exact Or.inr rfl) (am_qi q (by exact ((if_neg c1_0).trans ((if_neg c1_1).trans ((if_neg c1_2).trans ((if_pos c1_3).trans (zb_f (fun y => y (zb_ne.mp c99))))))).symm) (by rfl))
        · refine go_if (fun c1_4 => ?_) (fun c1_4 => ?_)
          · refine go_s 3 rfl ?_
            refine go_if (fun c68 => ?_) (fun c68 => ?_)
            · refine go_s 2 rfl ?_
              exact go_retz rfl rfl (by first | exact zb_01 | exact Or.inl rfl | exact Or.inr rfl) (am_qi q (by exact ((if_neg c1_0).trans ((if_neg c1_1).trans ((if_neg c1_2).trans ((if_neg c1_3).trans ((if_pos c1_4).trans (zb_t c68)))))).symm) (by rfl))
            · refine go_s 1 rfl ?_
              exact go_retz rfl rfl (by first | exact zb_01 | exact Or.inl rfl | exact Or.inr rfl) (am_qi q (by exact ((if_neg c1_0).trans ((if_neg c1_1).trans ((if_neg c1_2).trans ((if_neg c1_3).trans ((if_pos c1_4).trans (zb_f c68)))))).symm) (by rfl))
          · refine go_if (fun c1_5 => ?_) (fun c1_5 => ?_)
            · refine go_s 3 rfl ?_
              refine go_if (fun c79 => ?_) (fun c79 => ?_)
              · refine go_s 1 rfl ?_
                exact go_retz rfl rfl (by first | exact zb_01 | exact Or.inl rfl | exact Or.inr rfl) (am_qi q (by exact ((if_neg c1_0).trans ((if_neg c1_1).trans ((if_neg c1_2).trans ((if_neg c1_3).trans ((if_neg c1_4).trans ((if_pos c1_5).trans (zb_f (fun z => z c79)))))))).symm) (by rfl))
              · refine go_s 2 rfl ?_
                exact go_retz rfl rfl (by first | exact zb_01 | exact Or.inl rfl | exact Or.inr rfl) (am_qi q (by exact ((if_neg c1_0).trans ((if_neg c1_1).trans ((if_neg c1_2).trans ((if_neg c1_3).trans ((if_neg c1_4).trans ((if_pos c1_5).trans (zb_t c79))))))).symm) (by rfl))
            · refine go_if (fun c1_6 => ?_) (fun c1_6 => ?_)
              · refine go_s 2 rfl ?_
                refine go_st kX12_holds_90 okX12_isBelow rfl rfl rfl (Nat.zero_le _) (Nat.zero_le _) ?_
                refine c_X12_isBelow ?_
                exact go_retz rfl rfl (by first | exact zb_01 | exact Or.inl rfl | exact Or.inr rfl) (am_qi q (by exact ((if_neg c1_0).trans ((if_neg c1_1).trans ((if_neg c1_2).trans ((if_neg c1_3).trans ((if_neg c1_4).trans ((if_neg c1_5).trans (if_pos c1_6))))))).symm) (by rfl))
              · refine go_s 2 rfl ?_
                refine go_st kX12_holds_96 okX12_isBelow rfl rfl rfl (Nat.zero_le _) (Nat.zero_le _) ?_
                refine c_X12_isBelow ?_
                refine go_s 1 rfl ?_
                refine go_if (fun c99 => ?_) (fun c99 => ?_)
                · refine go_s 2 rfl ?_
                  exact go_retz rfl rfl (by first | exact zb_01 | exact Or.inl rfl | exact Or.inr rfl) (am_qi q (by exact ((if_neg c1_0).trans ((if_neg c1_1).trans ((if_neg c1_2).trans ((if_neg c1_3).trans ((if_neg c1_4).trans ((if_neg c1_5).trans ((if_neg c1_6).trans (zb_t (zb_0.mp c99))))))))).symm) (by rfl))
                · refine go_s 1 rfl ?_
                  exact go_retz rfl rfl (by first | exact zb_01 | exact Or.inl rfl | exact Or.inr rfl) (am_qi q (by exact ((if_neg c1_0).trans ((if_neg c1_1).trans ((if_neg c1_2).trans ((if_neg c1_3).trans ((if_neg c1_4).trans ((if_neg c1_5).trans ((if_neg c1_6).trans (zb_f (fun y => y (zb_ne.mp c99)))))))))).symm) (by rfl))
theorem c_X12_isCell {D : Nat → Nat → Int32} {e : am_E} {kc ks : Nat} {Q : am_Q} {n : Int32}  (q : Q (some (.int (zb (n - n / 4 * 4 = 0 ∧ ¬ n < 65536 ∧ ¬ 65788 < n)))) (hp D e)) : am_Go (mX12_isCell, 0, am_ent mX12_isCell [.int n], [], hp D e, kc, ks, Q) := by
  refine go_s 2 rfl ?_
  refine go_m rfl rfl (by decide) ?_
  refine go_s 1 rfl ?_
  refine go_if (fun c3 => ?_) (fun c3 => ?_)
  · refine go_s 3 rfl ?_
    refine go_st kX12_isCell_13 okX12_in rfl rfl rfl (Nat.zero_le _) (Nat.zero_le _) ?_
    refine c_X12_in ?_
    refine go_s 1 rfl ?_
    refine go_if (fun c16 => ?_) (fun c16 => ?_)
    · refine go_s 1 rfl ?_
      exact go_retz rfl rfl (by first | exact Or.inl rfl | exact Or.inr rfl | exact zb_01) (am_qi q (by simp_all [zb]) (by rfl))
    · refine go_s 2 rfl ?_
      exact go_retz rfl rfl (by first | exact Or.inl rfl | exact Or.inr rfl | exact zb_01) (am_qi q (by simp_all [zb]) (by rfl))
  · refine go_s 1 rfl ?_
    exact go_retz rfl rfl (by first | exact Or.inl rfl | exact Or.inr rfl | exact zb_01) (am_qi q (by simp_all [zb]) (by rfl))
end
section
theorem c_X12_isNumber {D : Nat → Nat → Int32} {e : am_E} {kc ks : Nat} {Q : am_Q} {r : Int32} (h : vp_in r 32) (q : Q (some (.int (zb (D 107 r.toNatClampNeg = 0)))) (hp D e)) : am_Go (mX12_isNumber, 0, am_ent mX12_isNumber [.ref 69, .int r], [], hp D e, kc, ks, Q) := by
  refine go_s 3 rfl ?_
  refine go_m rfl rfl h ?_
  refine go_s 1 rfl ?_
  refine go_if (fun c6 => ?_) (fun c6 => ?_)
  · refine go_s 2 rfl ?_
    exact go_retz rfl rfl (by first | exact Or.inl rfl | exact Or.inr rfl | exact zb_01) (am_qi q (by simp_all [zb, hp]) (by rfl))
  · refine go_s 1 rfl ?_
    exact go_retz rfl rfl (by first | exact Or.inl rfl | exact Or.inr rfl | exact zb_01) (am_qi q (by simp_all [zb, hp]) (by rfl))
theorem c_X12_hasRoutine {D : Nat → Nat → Int32} {e : am_E} {kc ks : Nat} {Q : am_Q} {k : Int32}  (q : Q (some (.int (zb (¬ D 69 10 = 0 ∧ (¬ k < 0 ∧ ¬ D 69 13 - 1 < k))))) (hp D e)) : am_Go (mX12_hasRoutine, 0, am_ent mX12_hasRoutine [.ref 69, .int k], [], hp D e, kc, ks, Q) := by
  refine go_s 3 rfl ?_
  refine go_if (fun c4 => ?_) (fun c4 => ?_)
  · refine go_s 1 rfl ?_
    exact go_retz rfl rfl (by first | exact Or.inl rfl | exact Or.inr rfl | exact zb_01) (am_qi q (by simp_all [zb, hp, am_fv, am_k, am_kd]) (by rfl))
  · refine go_s 6 rfl ?_
    refine go_st kX12_hasRoutine_15 okX12_in rfl rfl rfl (Nat.zero_le _) (Nat.zero_le _) ?_
    refine c_X12_in ?_
    refine go_s 1 rfl ?_
    refine go_if (fun c18 => ?_) (fun c18 => ?_)
    · refine go_s 1 rfl ?_
      exact go_retz rfl rfl (by first | exact Or.inl rfl | exact Or.inr rfl | exact zb_01) (am_qi q (by simp_all [zb, hp, am_fv, am_k, am_kd]) (by rfl))
    · refine go_s 2 rfl ?_
      exact go_retz rfl rfl (by first | exact Or.inl rfl | exact Or.inr rfl | exact zb_01) (am_qi q (by simp_all [zb, hp, am_fv, am_k, am_kd]) (by rfl))
theorem c_X12_word {D : Nat → Nat → Int32} {e : am_E} {kc ks : Nat} {Q : am_Q} {i : Int32} (h : ¬ i < 0 ∧ ¬ D 69 12 - 1 < i → vp_in i 1000) (q : Q (some (.int (if ¬ D 69 10 = 0 ∧ (¬ i < 0 ∧ ¬ D 69 12 - 1 < i) then D 79 i.toNatClampNeg else 0))) (hp D e)) : am_Go (mX12_word, 0, am_ent mX12_word [.ref 69, .int i], [], hp D e, kc, ks, Q) := by
  refine go_s 3 rfl ?_
  refine go_if (fun c4 => ?_) (fun c4 => ?_)
  · refine go_s 1 rfl ?_
    exact go_ret rfl rfl (am_qi q (by first | exact (if_pos ⟨by assumption, zb_ne.mp c18⟩).symm | exact (if_neg (fun z => zb_0.mp c18 z.2)).symm | exact (if_neg (fun z => z.1 (by assumption))).symm) (by rfl))
  · refine go_s 6 rfl ?_
    refine go_st kX12_word_15 okX12_in rfl rfl rfl (Nat.zero_le _) (Nat.zero_le _) ?_
    refine c_X12_in ?_
    refine go_s 1 rfl ?_
    refine go_if (fun c18 => ?_) (fun c18 => ?_)
    · refine go_s 1 rfl ?_
      exact go_ret rfl rfl (am_qi q (by first | exact (if_pos ⟨by assumption, zb_ne.mp c18⟩).symm | exact (if_neg (fun z => zb_0.mp c18 z.2)).symm | exact (if_neg (fun z => z.1 (by assumption))).symm) (by rfl))
    · refine go_s 3 rfl ?_
      refine go_m rfl rfl (h (zb_ne.mp (by assumption))) ?_
      refine go_s 1 rfl ?_
      exact go_ret rfl rfl (am_qi q (by first | exact (if_pos ⟨by assumption, zb_ne.mp c18⟩).symm | exact (if_neg (fun z => zb_0.mp c18 z.2)).symm | exact (if_neg (fun z => z.1 (by assumption))).symm) (by rfl))
theorem c_X12_clear {D : Nat → Nat → Int32} {e : am_E} {kc ks : Nat} {Q : am_Q}   (q : Q (some (.int (D 69 1))) (hp (am_u (am_u (am_u D 69 1 0) 69 2 0) 69 10 0) e)) : am_Go (mX12_clear, 0, am_ent mX12_clear [.ref 69], [], hp D e, kc, ks, Q) := by
  refine go_s 11 rfl ?_
  refine go_m rfl rfl (by simp [zb_01]) ?_
  refine go_s 1 rfl ?_
  exact go_ret rfl rfl (am_qi q (by rfl) (by rfl))
end
section
def am_tr0 (D : Nat → Nat → Int32) : Nat → Nat → Int32 := am_u (am_u (am_wr (am_fil (am_fil (am_fil (am_fil D 61 32 0) 62 32 0) 63 64 0) 64 64 0) 1 2 (-1)) 59 10 0) 59 11 0
def am_bdy (D : Nat → Nat → Int32) (f : Int32) : Int32 := if 0 ≤ f ∧ f < D 11 4 then D 13 f.toNatClampNeg else -1
def am_adr (D : Nat → Nat → Int32) (f : Int32) : Int32 := if 0 ≤ f ∧ f < D 11 4 then 4096 + 4 * D 14 f.toNatClampNeg else -1
def am_ir1 (D : Nat → Nat → Int32) : Nat → Nat → Int32 := am_fil (am_fil D 67 32 0) 68 64 0
def am_ir0 (D : Nat → Nat → Int32) : Nat → Nat → Int32 := am_u (am_ir1 D) 65 8 (am_adr (am_ir1 D) (am_bdy (am_ir1 D) 0))
theorem c_X10_restart {D : Nat → Nat → Int32} {e : am_E} {kc ks : Nat} {Q : am_Q}   (q : Q none (hp (am_tr0 D) e)) : am_Go (mX10_restart, 0, am_ent mX10_restart [.ref 59], [], hp D e, kc, ks, Q) := by
  refine go_s 3 rfl ?_
  refine go_st kX10_restart_5 okJ7_fill_53178 rfl rfl rfl (Nat.zero_le _) (Nat.zero_le _) ?_
  refine c_J7_fill_53178 rfl (by decide) ?_
  refine go_s 3 rfl ?_
  refine go_st kX10_restart_13 okJ7_fill_53178 rfl rfl rfl (Nat.zero_le _) (Nat.zero_le _) ?_
  refine c_J7_fill_53178 rfl (by decide) ?_
  refine go_s 3 rfl ?_
  refine go_st kX10_restart_21 okJ7_fill_53178 rfl rfl rfl (Nat.zero_le _) (Nat.zero_le _) ?_
  refine c_J7_fill_53178 rfl (by decide) ?_
  refine go_s 3 rfl ?_
  refine go_st kX10_restart_29 okJ7_fill_53178 rfl rfl rfl (Nat.zero_le _) (Nat.zero_le _) ?_
  refine c_J7_fill_53178 rfl (by decide) ?_
  refine go_s 4 rfl ?_
  refine go_v kX10_restart_36 okX10_write rfl rfl rfl rfl (Nat.zero_le _) (Nat.zero_le _) ?_
  refine c_X10_write ?_
  refine go_s 6 rfl ?_
  exact go_retv rfl rfl (am_qv q (by rfl))
theorem c_X2_restart {D : Nat → Nat → Int32} {e : am_E} {kc ks : Nat} {Q : am_Q}  (hI : (D 11 4).toInt ≤ 24) (q : Q none (hp (am_ir0 D) e)) : am_Go (mX2_restart, 0, am_ent mX2_restart [.ref 65], [], hp D e, kc, ks, Q) := by
  refine go_s 3 rfl ?_
  refine go_st kX2_restart_5 okJ7_fill_53178 rfl rfl rfl (Nat.zero_le _) (Nat.zero_le _) ?_
  refine c_J7_fill_53178 rfl (by decide) ?_
  refine go_s 3 rfl ?_
  refine go_st kX2_restart_13 okJ7_fill_53178 rfl rfl rfl (Nat.zero_le _) (Nat.zero_le _) ?_
  refine c_J7_fill_53178 rfl (by decide) ?_
  refine go_s 6 rfl ?_
  refine go_v kX2_restart_26 okX1_bodyOf rfl rfl rfl rfl (Nat.zero_le _) (Nat.zero_le _) ?_
  refine c_X1_bodyOf hI ?_
  refine go_v kX2_restart_29 okX1_addressOf rfl rfl rfl rfl (Nat.zero_le _) (Nat.zero_le _) ?_
  refine c_X1_addressOf hI ?_
  refine go_s 1 rfl ?_
  exact go_retv rfl rfl (am_qv q (by rfl))
end
section
def am_drv (sf : (Nat → Nat → Int32) → Int32 × (Nat → Nat → Int32)) : Nat → Int32 → Nat → (Nat → Nat → Int32) → Int32 × Nat × (Nat → Nat → Int32)
  | 0, s, d, D => (s, d, D)
  | n + 1, s, d, D => if s = 3 then am_drv sf n (sf D).1 (if (sf D).1 = 2 then d else d + 1) (sf D).2 else (s, d, D)
theorem am_u_ne {D : Nat → Nat → Int32} {o p k j : Nat} {v : Int32} (h : p ≠ o) : am_u D o k v p j = D p j := by
  unfold am_u; rw [if_neg (fun z => h z.1)]
theorem am_wr_ne {D : Nat → Nat → Int32} {a b c : Int32} {p j : Nat} (h1 : p ≠ 61) (h2 : p ≠ 62) : am_wr D a b c p j = D p j := by
  unfold am_wr; split
  · rw [am_u_ne h2, am_u_ne h1]
  · rfl
theorem am_go_ne {D : Nat → Nat → Int32} {p j : Nat} (h : p ≠ 59) : am_go D p j = D p j := am_u_ne h
theorem am_tca_1 (D : Nat → Nat → Int32) (s n : Int32) (j : Nat) : (am_tca D s n).2 1 j = D 1 j := by
  unfold am_tca
  repeat' split
  all_goals first | rfl | (dsimp only; rw [am_go_ne (by decide), am_wr_ne (by decide) (by decide)])
theorem am_tbr_1 (D : Nat → Nat → Int32) (s n : Int32) (j : Nat) : (am_tbr D s n).2 1 j = D 1 j := by
  unfold am_tbr
  repeat' split
  all_goals first | rfl | (dsimp only; rw [am_go_ne (by decide)]) | (dsimp only; rw [am_u_ne (by decide), am_u_ne (by decide)])
theorem am_tld_1 (D : Nat → Nat → Int32) (s : Int32) (j : Nat) : (am_tld D s).2 1 j = D 1 j := by
  unfold am_tld
  split
  · dsimp only; rw [am_go_ne (by decide), am_wr_ne (by decide) (by decide)]
  · rfl
theorem am_tst_1 (D : Nat → Nat → Int32) (s : Int32) (j : Nat) : (am_tst D s).2 1 j = D 1 j := by
  unfold am_tst
  split
  · dsimp only; rw [am_go_ne (by decide), am_u_ne (by decide), am_u_ne (by decide)]
  · rfl
theorem am_tgb_1 (D : Nat → Nat → Int32) (j : Nat) : (am_tgb D).2 1 j = D 1 j := by
  unfold am_tgb
  repeat' split
  all_goals first | rfl | (dsimp only; rw [am_u_ne (by decide), am_u_ne (by decide)])
theorem am_tpr_1 (D : Nat → Nat → Int32) (j : Nat) : (am_tpr D).2 1 j = D 1 j := by
  unfold am_tpr am_kp
  split
  · dsimp only
    rw [am_go_ne (by decide), am_u_ne (by decide)]
    split
    · rw [am_u_ne (by decide)]
    · rfl
  · rfl
theorem am_tsn_1 (D : Nat → Nat → Int32) (s n : Int32) (j : Nat) : (am_tsn D s n).2 1 j = D 1 j := by
  unfold am_tsn
  by_cases h1 : 18 < n
  · rw [if_pos h1]
    by_cases h2 : ¬ n < 22 ∧ ¬ 27 < n
    · rw [if_pos h2]; exact am_tbr_1 D s n j
    · rw [if_neg h2]
      repeat' split
      all_goals first | (simp only [am_tca_1, am_tbr_1, am_tld_1, am_tst_1, am_tgb_1, am_tpr_1, am_go_ne (show (1 : Nat) ≠ 59 by decide), am_wr_ne (show (1 : Nat) ≠ 61 by decide) (show (1 : Nat) ≠ 62 by decide), am_u_ne (show (1 : Nat) ≠ 59 by decide)]; done) | rfl
  · rw [if_neg h1]; exact am_tca_1 D s n j
theorem am_tsp_1 (D : Nat → Nat → Int32) (j : Nat) : (am_tsp D).2 1 j = D 1 j := by
  unfold am_tsp
  split
  · rfl
  · exact am_tsn_1 _ _ _ _
theorem am_wi_ne {D : Nat → Nat → Int32} {a b : Int32} {p j : Nat} (h1 : p ≠ 67) : am_wi D a b p j = D p j := by
  unfold am_wi; split
  · rw [am_u_ne h1]
  · rfl
theorem am_gi_ne {D : Nat → Nat → Int32} {g : Int32} {p j : Nat} (h : p ≠ 65) : (am_gi D g).2 p j = D p j := am_u_ne h
theorem am_kpi_ne {D : Nat → Nat → Int32} {v : Int32} {p j : Nat} (h1 : p ≠ 65) (h2 : p ≠ 66) : am_kpi D v p j = D p j := by
  unfold am_kpi
  rw [am_u_ne h1]
  split
  · rw [am_u_ne h2]
  · rfl
theorem am_isp_11 (D : Nat → Nat → Int32) (j : Nat) : (am_isp D).2 11 j = D 11 j := by
  unfold am_isp
  split
  · rfl
  · unfold am_isw am_ild am_wgi am_isr am_ibr am_ijp
    repeat' split
    all_goals first | (simp only [am_gi_ne (show (11 : Nat) ≠ 65 by decide), am_wi_ne (show (11 : Nat) ≠ 67 by decide), am_u_ne (show (11 : Nat) ≠ 68 by decide), am_kpi_ne (show (11 : Nat) ≠ 65 by decide) (show (11 : Nat) ≠ 66 by decide)]; done) | rfl
theorem c_drx_59 {D : Nat → Nat → Int32} {e : am_E} {kc ks : Nat} {Q : am_Q} {F s d i : Int32} (q : Q (some (.int (if s = 3 then 1 else s))) (hp (am_u (am_u D 59 3 d) 59 2 (if s = 3 then 1 else s)) e)) : am_Go (mX4_drive, 51, [.ref 59, .int F, .int s, .int d, .int i], [], hp D e, kc, ks, Q) := by
  refine go_s 7 rfl ?_
  refine go_if (fun c => ?_) (fun c => ?_)
  · have c : s = 3 := c
    rw [if_pos c] at q
    refine go_s 5 rfl ?_
    exact go_ret rfl rfl (am_qi q rfl rfl)
  · have c : ¬ s = 3 := c
    rw [if_neg c] at q
    refine go_s 4 rfl ?_
    exact go_ret rfl rfl (am_qi q rfl rfl)
theorem c_drl_59 {e : am_E} {kc ks N : Nat} {Q : am_Q} (hN : N < 2 ^ 31) : ∀ (n i d : Nat) (s : Int32) (D : Nat → Nat → Int32), (D 1 5).toInt ≤ 24 ∧ (D 1 6).toInt ≤ 300 → n + i = N → (Q (some (.int (if (am_drv am_tsp n s d D).1 = 3 then 1 else (am_drv am_tsp n s d D).1))) (hp (am_u (am_u (am_drv am_tsp n s d D).2.2 59 3 (nI (am_drv am_tsp n s d D).2.1)) 59 2 (if (am_drv am_tsp n s d D).1 = 3 then 1 else (am_drv am_tsp n s d D).1)) e)) → am_Go (mX4_drive, 21, [.ref 59, .int (nI N), .int s, .int (nI d), .int (nI i)], [], hp D e, kc, ks, Q) := by
  intro n
  induction n with
  | zero =>
    intro i d s D hI hi q
    refine go_s 3 rfl ?_
    refine go_if (fun c => absurd c (nI_nlt (by omega) (by omega))) (fun c => ?_)
    exact c_drx_59 q
  | succ n ih =>
    intro i d s D hI hi q
    refine go_s 3 rfl ?_
    refine go_if (fun c => ?_) (fun c => absurd (nI_lt (by omega) hN) c)
    refine go_s 3 rfl ?_
    refine go_if (fun c2 => ?_) (fun c2 => ?_)
    · have e1 : am_drv am_tsp (n + 1) s d D = am_drv am_tsp n (am_tsp D).1 (if (am_tsp D).1 = 2 then d else d + 1) (am_tsp D).2 := if_pos c2
      rw [e1] at q
      refine go_s 1 rfl ?_
      refine go_u kX4_drive_33_7 okX10_step rfl rfl rfl rfl (Nat.zero_le _) (Nat.zero_le _) ?_
      refine c_X10_step hI.1 hI.2 ?_
      refine go_s 4 rfl ?_
      refine go_if (fun c3 => ?_) (fun c3 => ?_)
      · have c3 : (am_tsp D).1 = 2 := c3
        rw [if_pos c3] at q
        refine go_s 2 (pc' := 21) (ls' := [.ref 59, .int (nI N), .int (am_tsp D).1, .int (nI d), .int (nI (i + 1))]) (st' := []) (h' := hp (am_tsp D).2 e) (by rw [← nI_1]; rfl) ?_
        exact ih (i + 1) d (am_tsp D).1 (am_tsp D).2 ⟨by rw [am_tsp_1]; exact hI.1, by rw [am_tsp_1]; exact hI.2⟩ (by omega) q
      · have c3 : ¬ (am_tsp D).1 = 2 := c3
        rw [if_neg c3] at q
        refine go_s 3 (pc' := 21) (ls' := [.ref 59, .int (nI N), .int (am_tsp D).1, .int (nI (d + 1)), .int (nI (i + 1))]) (st' := []) (h' := hp (am_tsp D).2 e) (by rw [← nI_1, ← nI_1]; rfl) ?_
        exact ih (i + 1) (d + 1) (am_tsp D).1 (am_tsp D).2 ⟨by rw [am_tsp_1]; exact hI.1, by rw [am_tsp_1]; exact hI.2⟩ (by omega) q
    · have e1 : am_drv am_tsp (n + 1) s d D = (s, d, D) := if_neg c2
      rw [e1] at q
      exact c_drx_59 q
def am_dv_59 (D : Nat → Nat → Int32) (N : Nat) : Int32 × Nat × (Nat → Nat → Int32) := am_drv am_tsp N 3 0 (am_tr0 (am_u (am_u D 59 1 1) 59 4 0))
theorem am_tr0_1 (D : Nat → Nat → Int32) (j : Nat) : am_tr0 D 1 j = D 1 j := by
  unfold am_tr0
  rw [am_u_ne (by decide), am_u_ne (by decide), am_wr_ne (by decide) (by decide)]
  simp [am_fil]
theorem c_X4_drive_59 {D : Nat → Nat → Int32} {e : am_E} {kc ks N : Nat} {Q : am_Q} (hN : N < 2 ^ 31) (hF : (D 1 5).toInt ≤ 24) (hS : (D 1 6).toInt ≤ 300) (q : Q (some (.int (if (am_dv_59 D N).1 = 3 then 1 else (am_dv_59 D N).1))) (hp (am_u (am_u (am_dv_59 D N).2.2 59 3 (nI (am_dv_59 D N).2.1)) 59 2 (if (am_dv_59 D N).1 = 3 then 1 else (am_dv_59 D N).1)) e)) : am_Go (mX4_drive, 0, am_ent mX4_drive [.ref 59, .int (nI N)], [], hp D e, kc, ks, Q) := by
  refine go_s 2 rfl ?_
  refine go_m rfl rfl (Or.inr rfl) ?_
  refine go_s 4 rfl ?_
  refine go_u kX4_drive_11_7 okX10_restart rfl rfl rfl rfl (Nat.zero_le _) (Nat.zero_le _) ?_
  refine c_X10_restart ?_
  refine go_s 6 (pc' := 21) (ls' := [.ref 59, .int (nI N), .int 3, .int (nI 0), .int (nI 0)]) (st' := []) (h' := hp (am_tr0 (am_u (am_u D 59 1 1) 59 4 0)) e) rfl ?_
  exact c_drl_59 hN N 0 0 3 _ ⟨by rw [show am_tr0 (am_u (am_u D 59 1 1) 59 4 0) 1 5 = D 1 5 from am_tr0_1 _ _]; exact hF, by rw [show am_tr0 (am_u (am_u D 59 1 1) 59 4 0) 1 6 = D 1 6 from am_tr0_1 _ _]; exact hS⟩ (by omega) q
theorem c_drx_65 {D : Nat → Nat → Int32} {e : am_E} {kc ks : Nat} {Q : am_Q} {F s d i : Int32} (q : Q (some (.int (if s = 3 then 1 else s))) (hp (am_u (am_u D 65 3 d) 65 2 (if s = 3 then 1 else s)) e)) : am_Go (mX4_drive, 51, [.ref 65, .int F, .int s, .int d, .int i], [], hp D e, kc, ks, Q) := by
  refine go_s 7 rfl ?_
  refine go_if (fun c => ?_) (fun c => ?_)
  · have c : s = 3 := c
    rw [if_pos c] at q
    refine go_s 5 rfl ?_
    exact go_ret rfl rfl (am_qi q rfl rfl)
  · have c : ¬ s = 3 := c
    rw [if_neg c] at q
    refine go_s 4 rfl ?_
    exact go_ret rfl rfl (am_qi q rfl rfl)
theorem c_drl_65 {e : am_E} {kc ks N : Nat} {Q : am_Q} (hN : N < 2 ^ 31) : ∀ (n i d : Nat) (s : Int32) (D : Nat → Nat → Int32), (D 11 3).toInt ≤ 600 → n + i = N → (Q (some (.int (if (am_drv am_isp n s d D).1 = 3 then 1 else (am_drv am_isp n s d D).1))) (hp (am_u (am_u (am_drv am_isp n s d D).2.2 65 3 (nI (am_drv am_isp n s d D).2.1)) 65 2 (if (am_drv am_isp n s d D).1 = 3 then 1 else (am_drv am_isp n s d D).1)) e)) → am_Go (mX4_drive, 21, [.ref 65, .int (nI N), .int s, .int (nI d), .int (nI i)], [], hp D e, kc, ks, Q) := by
  intro n
  induction n with
  | zero =>
    intro i d s D hI hi q
    refine go_s 3 rfl ?_
    refine go_if (fun c => absurd c (nI_nlt (by omega) (by omega))) (fun c => ?_)
    exact c_drx_65 q
  | succ n ih =>
    intro i d s D hI hi q
    refine go_s 3 rfl ?_
    refine go_if (fun c => ?_) (fun c => absurd (nI_lt (by omega) hN) c)
    refine go_s 3 rfl ?_
    refine go_if (fun c2 => ?_) (fun c2 => ?_)
    · have e1 : am_drv am_isp (n + 1) s d D = am_drv am_isp n (am_isp D).1 (if (am_isp D).1 = 2 then d else d + 1) (am_isp D).2 := if_pos c2
      rw [e1] at q
      refine go_s 1 rfl ?_
      refine go_u kX4_drive_33_2 okX2_step rfl rfl rfl rfl (Nat.zero_le _) (Nat.zero_le _) ?_
      refine c_X2_step hI ?_
      refine go_s 4 rfl ?_
      refine go_if (fun c3 => ?_) (fun c3 => ?_)
      · have c3 : (am_isp D).1 = 2 := c3
        rw [if_pos c3] at q
        refine go_s 2 (pc' := 21) (ls' := [.ref 65, .int (nI N), .int (am_isp D).1, .int (nI d), .int (nI (i + 1))]) (st' := []) (h' := hp (am_isp D).2 e) (by rw [← nI_1]; rfl) ?_
        exact ih (i + 1) d (am_isp D).1 (am_isp D).2 (by rw [am_isp_11]; exact hI) (by omega) q
      · have c3 : ¬ (am_isp D).1 = 2 := c3
        rw [if_neg c3] at q
        refine go_s 3 (pc' := 21) (ls' := [.ref 65, .int (nI N), .int (am_isp D).1, .int (nI (d + 1)), .int (nI (i + 1))]) (st' := []) (h' := hp (am_isp D).2 e) (by rw [← nI_1, ← nI_1]; rfl) ?_
        exact ih (i + 1) (d + 1) (am_isp D).1 (am_isp D).2 (by rw [am_isp_11]; exact hI) (by omega) q
    · have e1 : am_drv am_isp (n + 1) s d D = (s, d, D) := if_neg c2
      rw [e1] at q
      exact c_drx_65 q
def am_dv_65 (D : Nat → Nat → Int32) (N : Nat) : Int32 × Nat × (Nat → Nat → Int32) := am_drv am_isp N 3 0 (am_ir0 (am_u (am_u D 65 1 1) 65 4 0))
theorem c_X4_drive_65 {D : Nat → Nat → Int32} {e : am_E} {kc ks N : Nat} {Q : am_Q} (hN : N < 2 ^ 31) (hW : (D 11 3).toInt ≤ 600) (hG : (D 11 4).toInt ≤ 24) (q : Q (some (.int (if (am_dv_65 D N).1 = 3 then 1 else (am_dv_65 D N).1))) (hp (am_u (am_u (am_dv_65 D N).2.2 65 3 (nI (am_dv_65 D N).2.1)) 65 2 (if (am_dv_65 D N).1 = 3 then 1 else (am_dv_65 D N).1)) e)) : am_Go (mX4_drive, 0, am_ent mX4_drive [.ref 65, .int (nI N)], [], hp D e, kc, ks, Q) := by
  refine go_s 2 rfl ?_
  refine go_m rfl rfl (Or.inr rfl) ?_
  refine go_s 4 rfl ?_
  refine go_u kX4_drive_11_2 okX2_restart rfl rfl rfl rfl (Nat.zero_le _) (Nat.zero_le _) ?_
  refine c_X2_restart hG ?_
  refine go_s 6 (pc' := 21) (ls' := [.ref 65, .int (nI N), .int 3, .int (nI 0), .int (nI 0)]) (st' := []) (h' := hp (am_ir0 (am_u (am_u D 65 1 1) 65 4 0)) e) rfl ?_
  exact c_drl_65 hN N 0 0 3 _ (by show (D 11 3).toInt ≤ 600; exact hW) (by omega) q
end
section
theorem c_X11_machineOf_59 {D : Nat → Nat → Int32} {e : am_E} {kc ks : Nat} {Q : am_Q}   (q : Q (some (.ref 59)) (hp D e)) : am_Go (mX11_machineOf, 0, am_ent mX11_machineOf [.ref 0, .int 0], [], hp D e, kc, ks, Q) := by
  refine go_s 2 rfl ?_
  refine go_if (fun c1_0 => ?_) (fun c => absurd rfl c)
  refine go_s 2 rfl ?_
  exact go_reta rfl rfl (by first | exact Or.inl rfl | exact Or.inr ⟨_, rfl⟩) q
theorem c_X11_machineOf_65 {D : Nat → Nat → Int32} {e : am_E} {kc ks : Nat} {Q : am_Q}   (q : Q (some (.ref 65)) (hp D e)) : am_Go (mX11_machineOf, 0, am_ent mX11_machineOf [.ref 0, .int 1], [], hp D e, kc, ks, Q) := by
  refine go_s 2 rfl ?_
  refine go_if (fun c => absurd c (by decide)) (fun c1_0 => ?_)
  refine go_if (fun c1_1 => ?_) (fun c => absurd rfl c)
  refine go_s 2 rfl ?_
  exact go_reta rfl rfl (by first | exact Or.inl rfl | exact Or.inr ⟨_, rfl⟩) q
theorem c_X11_machineOf_x {D : Nat → Nat → Int32} {e : am_E} {kc ks : Nat} {Q : am_Q} {w : Int32} (w0 : ¬ w = 0) (w1 : ¬ w = 1) (q : Q (some (.null)) (hp D e)) : am_Go (mX11_machineOf, 0, am_ent mX11_machineOf [.ref 0, .int w], [], hp D e, kc, ks, Q) := by
  refine go_s 2 rfl ?_
  refine go_if (fun c => absurd c w0) (fun c1_0 => ?_)
  refine go_if (fun c => absurd c w1) (fun c1_1 => ?_)
  refine go_s 1 rfl ?_
  exact go_reta rfl rfl (by first | exact Or.inl rfl | exact Or.inr ⟨_, rfl⟩) q
theorem c_X11_printed_59 {D : Nat → Nat → Int32} {e : am_E} {kc ks : Nat} {Q : am_Q} {i : Int32}  (q : Q (some (.int (if ¬ i < 0 ∧ i < D 59 4 ∧ i < 200 then D 60 i.toNatClampNeg else 0))) (hp D e)) : am_Go (mX11_printed, 0, am_ent mX11_printed [.ref 0, .int 0, .int i], [], hp D e, kc, ks, Q) := by
  refine go_s 2 rfl ?_
  refine go_v kX11_printed_2 okX11_machineOf rfl rfl rfl rfl (Nat.zero_le _) (Nat.zero_le _) ?_
  refine c_X11_machineOf_59 ?_
  refine go_s 5 rfl ?_
  refine go_u kX11_printed_16_7 okX4_printAt rfl rfl rfl rfl (Nat.zero_le _) (Nat.zero_le _) ?_
  refine c_X4_printAt_59 ?_
  exact go_ret rfl rfl (am_qi q (by rfl) (by rfl))
theorem c_X11_printed_65 {D : Nat → Nat → Int32} {e : am_E} {kc ks : Nat} {Q : am_Q} {i : Int32}  (q : Q (some (.int (if ¬ i < 0 ∧ i < D 65 4 ∧ i < 200 then D 66 i.toNatClampNeg else 0))) (hp D e)) : am_Go (mX11_printed, 0, am_ent mX11_printed [.ref 0, .int 1, .int i], [], hp D e, kc, ks, Q) := by
  refine go_s 2 rfl ?_
  refine go_v kX11_printed_2 okX11_machineOf rfl rfl rfl rfl (Nat.zero_le _) (Nat.zero_le _) ?_
  refine c_X11_machineOf_65 ?_
  refine go_s 5 rfl ?_
  refine go_u kX11_printed_16_2 okX4_printAt rfl rfl rfl rfl (Nat.zero_le _) (Nat.zero_le _) ?_
  refine c_X4_printAt_65 ?_
  exact go_ret rfl rfl (am_qi q (by rfl) (by rfl))
theorem c_X11_printed_x {D : Nat → Nat → Int32} {e : am_E} {kc ks : Nat} {Q : am_Q} {w : Int32} {i : Int32} (w0 : ¬ w = 0) (w1 : ¬ w = 1) (q : Q (some (.int (0))) (hp D e)) : am_Go (mX11_printed, 0, am_ent mX11_printed [.ref 0, .int w, .int i], [], hp D e, kc, ks, Q) := by
  refine go_s 2 rfl ?_
  refine go_v kX11_printed_2 okX11_machineOf rfl rfl rfl rfl (Nat.zero_le _) (Nat.zero_le _) ?_
  refine c_X11_machineOf_x w0 w1 ?_
  refine go_s 5 rfl ?_
  exact go_ret rfl rfl (am_qi q (by rfl) (by rfl))
theorem c_X11_register_59 {D : Nat → Nat → Int32} {e : am_E} {kc ks : Nat} {Q : am_Q} {k : Int32}  (q : Q (some (.int (if am_srt D k = 0 then am_val D k else 0))) (hp D e)) : am_Go (mX11_register, 0, am_ent mX11_register [.ref 0, .int 0, .int k], [], hp D e, kc, ks, Q) := by
  refine go_s 2 rfl ?_
  refine go_v kX11_register_2 okX11_machineOf rfl rfl rfl rfl (Nat.zero_le _) (Nat.zero_le _) ?_
  refine c_X11_machineOf_59 ?_
  refine go_s 5 rfl ?_
  refine go_u kX11_register_16_7 okX10_registerAt rfl rfl rfl rfl (Nat.zero_le _) (Nat.zero_le _) ?_
  refine c_X10_registerAt ?_
  exact go_ret rfl rfl (am_qi q (by rfl) (by rfl))
theorem c_X11_register_65 {D : Nat → Nat → Int32} {e : am_E} {kc ks : Nat} {Q : am_Q} {k : Int32}  (q : Q (some (.int (if 0 ≤ k ∧ k < 32 then D 67 k.toNatClampNeg else 0))) (hp D e)) : am_Go (mX11_register, 0, am_ent mX11_register [.ref 0, .int 1, .int k], [], hp D e, kc, ks, Q) := by
  refine go_s 2 rfl ?_
  refine go_v kX11_register_2 okX11_machineOf rfl rfl rfl rfl (Nat.zero_le _) (Nat.zero_le _) ?_
  refine c_X11_machineOf_65 ?_
  refine go_s 5 rfl ?_
  refine go_u kX11_register_16_2 okX2_registerAt rfl rfl rfl rfl (Nat.zero_le _) (Nat.zero_le _) ?_
  refine c_X2_registerAt ?_
  exact go_ret rfl rfl (am_qi q (by rfl) (by rfl))
theorem c_X11_register_x {D : Nat → Nat → Int32} {e : am_E} {kc ks : Nat} {Q : am_Q} {w : Int32} {k : Int32} (w0 : ¬ w = 0) (w1 : ¬ w = 1) (q : Q (some (.int (0))) (hp D e)) : am_Go (mX11_register, 0, am_ent mX11_register [.ref 0, .int w, .int k], [], hp D e, kc, ks, Q) := by
  refine go_s 2 rfl ?_
  refine go_v kX11_register_2 okX11_machineOf rfl rfl rfl rfl (Nat.zero_le _) (Nat.zero_le _) ?_
  refine c_X11_machineOf_x w0 w1 ?_
  refine go_s 5 rfl ?_
  exact go_ret rfl rfl (am_qi q (by rfl) (by rfl))
theorem c_X11_memory_59 {D : Nat → Nat → Int32} {e : am_E} {kc ks : Nat} {Q : am_Q} {k : Int32}  (q : Q (some (.int (if (0 ≤ k ∧ k < 64) ∧ D 63 k.toNatClampNeg = 0 then D 64 k.toNatClampNeg else 0))) (hp D e)) : am_Go (mX11_memory, 0, am_ent mX11_memory [.ref 0, .int 0, .int k], [], hp D e, kc, ks, Q) := by
  refine go_s 2 rfl ?_
  refine go_v kX11_memory_2 okX11_machineOf rfl rfl rfl rfl (Nat.zero_le _) (Nat.zero_le _) ?_
  refine c_X11_machineOf_59 ?_
  refine go_s 5 rfl ?_
  refine go_u kX11_memory_16_7 okX10_memoryAt rfl rfl rfl rfl (Nat.zero_le _) (Nat.zero_le _) ?_
  refine c_X10_memoryAt ?_
  exact go_ret rfl rfl (am_qi q (by rfl) (by rfl))
theorem c_X11_memory_65 {D : Nat → Nat → Int32} {e : am_E} {kc ks : Nat} {Q : am_Q} {k : Int32}  (q : Q (some (.int (if 0 ≤ k ∧ k < 64 then D 68 k.toNatClampNeg else 0))) (hp D e)) : am_Go (mX11_memory, 0, am_ent mX11_memory [.ref 0, .int 1, .int k], [], hp D e, kc, ks, Q) := by
  refine go_s 2 rfl ?_
  refine go_v kX11_memory_2 okX11_machineOf rfl rfl rfl rfl (Nat.zero_le _) (Nat.zero_le _) ?_
  refine c_X11_machineOf_65 ?_
  refine go_s 5 rfl ?_
  refine go_u kX11_memory_16_2 okX2_memoryAt rfl rfl rfl rfl (Nat.zero_le _) (Nat.zero_le _) ?_
  refine c_X2_memoryAt ?_
  exact go_ret rfl rfl (am_qi q (by rfl) (by rfl))
theorem c_X11_memory_x {D : Nat → Nat → Int32} {e : am_E} {kc ks : Nat} {Q : am_Q} {w : Int32} {k : Int32} (w0 : ¬ w = 0) (w1 : ¬ w = 1) (q : Q (some (.int (0))) (hp D e)) : am_Go (mX11_memory, 0, am_ent mX11_memory [.ref 0, .int w, .int k], [], hp D e, kc, ks, Q) := by
  refine go_s 2 rfl ?_
  refine go_v kX11_memory_2 okX11_machineOf rfl rfl rfl rfl (Nat.zero_le _) (Nat.zero_le _) ?_
  refine c_X11_machineOf_x w0 w1 ?_
  refine go_s 5 rfl ?_
  exact go_ret rfl rfl (am_qi q (by rfl) (by rfl))
theorem c_X11_ran_59 {D : Nat → Nat → Int32} {e : am_E} {kc ks : Nat} {Q : am_Q} {w : Int32} (h1 : D 59 1 = 0 ∨ D 59 1 = 1) (q : Q (some (.int (if D 59 1 = 0 then -1 else if w = 0 then D 59 2 else if w = 1 then D 59 3 else if w = 2 then D 59 4 else if w = 3 then (if D 59 2 = 0 then -1 else D 59 10) else if w = 4 then (if D 59 2 = 0 then -1 else D 59 11) else -1))) (hp D e)) : am_Go (mX11_ran, 0, am_ent mX11_ran [.ref 0, .int 0, .int w], [], hp D e, kc, ks, Q) := by
  refine go_s 2 rfl ?_
  refine go_v kX11_ran_2 okX11_machineOf rfl rfl rfl rfl (Nat.zero_le _) (Nat.zero_le _) ?_
  refine c_X11_machineOf_59 ?_
  refine go_s 4 rfl ?_
  refine go_u kX11_ran_11_7 okX4_hasRun rfl rfl rfl rfl (Nat.zero_le _) (Nat.zero_le _) ?_
  refine c_X4_hasRun_59 h1 ?_
  refine go_s 1 rfl ?_
  refine go_if (fun c14 => ?_) (fun c14 => ?_)
  · refine go_s 1 rfl ?_
    exact go_ret rfl rfl (am_qi q (by exact (if_pos c14).symm) (by rfl))
  · refine go_s 2 rfl ?_
    refine go_if (fun c20_0 => ?_) (fun c20_0 => ?_)
    · refine go_s 1 rfl ?_
      refine go_u kX11_ran_57_7 okX4_outcome rfl rfl rfl rfl (Nat.zero_le _) (Nat.zero_le _) ?_
      refine c_X4_outcome_59 ?_
      exact go_ret rfl rfl (am_qi q (by exact ((if_neg c14).trans (if_pos c20_0)).symm) (by rfl))
    · refine go_if (fun c20_1 => ?_) (fun c20_1 => ?_)
      · refine go_s 1 rfl ?_
        refine go_u kX11_ran_62_7 okX4_steps rfl rfl rfl rfl (Nat.zero_le _) (Nat.zero_le _) ?_
        refine c_X4_steps_59 ?_
        exact go_ret rfl rfl (am_qi q (by exact ((if_neg c14).trans ((if_neg c20_0).trans (if_pos c20_1))).symm) (by rfl))
      · refine go_if (fun c20_2 => ?_) (fun c20_2 => ?_)
        · refine go_s 1 rfl ?_
          refine go_u kX11_ran_67_7 okX4_prints rfl rfl rfl rfl (Nat.zero_le _) (Nat.zero_le _) ?_
          refine c_X4_prints_59 ?_
          exact go_ret rfl rfl (am_qi q (by exact ((if_neg c14).trans ((if_neg c20_0).trans ((if_neg c20_1).trans (if_pos c20_2)))).symm) (by rfl))
        · refine go_if (fun c20_3 => ?_) (fun c20_3 => ?_)
          · refine go_s 1 rfl ?_
            refine go_u kX11_ran_72_7 okX10_where rfl rfl rfl rfl (Nat.zero_le _) (Nat.zero_le _) ?_
            refine c_X10_where ?_
            exact go_ret rfl rfl (am_qi q (by exact ((if_neg c14).trans ((if_neg c20_0).trans ((if_neg c20_1).trans ((if_neg c20_2).trans (if_pos c20_3))))).symm) (by rfl))
          · refine go_if (fun c20_4 => ?_) (fun c20_4 => ?_)
            · refine go_s 1 rfl ?_
              refine go_u kX11_ran_77_7 okX10_whichPlace rfl rfl rfl rfl (Nat.zero_le _) (Nat.zero_le _) ?_
              refine c_X10_whichPlace ?_
              exact go_ret rfl rfl (am_qi q (by exact ((if_neg c14).trans ((if_neg c20_0).trans ((if_neg c20_1).trans ((if_neg c20_2).trans ((if_neg c20_3).trans (if_pos c20_4)))))).symm) (by rfl))
            · refine go_s 1 rfl ?_
              exact go_ret rfl rfl (am_qi q (by exact ((if_neg c14).trans ((if_neg c20_0).trans ((if_neg c20_1).trans ((if_neg c20_2).trans ((if_neg c20_3).trans (if_neg c20_4)))))).symm) (by rfl))
theorem c_X11_ran_65 {D : Nat → Nat → Int32} {e : am_E} {kc ks : Nat} {Q : am_Q} {w : Int32} (h1 : D 65 1 = 0 ∨ D 65 1 = 1) (q : Q (some (.int (if D 65 1 = 0 then -1 else if w = 0 then D 65 2 else if w = 1 then D 65 3 else if w = 2 then D 65 4 else if w = 3 then (D 65 8) else if w = 4 then (-1) else -1))) (hp D e)) : am_Go (mX11_ran, 0, am_ent mX11_ran [.ref 0, .int 1, .int w], [], hp D e, kc, ks, Q) := by
  refine go_s 2 rfl ?_
  refine go_v kX11_ran_2 okX11_machineOf rfl rfl rfl rfl (Nat.zero_le _) (Nat.zero_le _) ?_
  refine c_X11_machineOf_65 ?_
  refine go_s 4 rfl ?_
  refine go_u kX11_ran_11_2 okX4_hasRun rfl rfl rfl rfl (Nat.zero_le _) (Nat.zero_le _) ?_
  refine c_X4_hasRun_65 h1 ?_
  refine go_s 1 rfl ?_
  refine go_if (fun c14 => ?_) (fun c14 => ?_)
  · refine go_s 1 rfl ?_
    exact go_ret rfl rfl (am_qi q (by exact (if_pos c14).symm) (by rfl))
  · refine go_s 2 rfl ?_
    refine go_if (fun c20_0 => ?_) (fun c20_0 => ?_)
    · refine go_s 1 rfl ?_
      refine go_u kX11_ran_57_2 okX4_outcome rfl rfl rfl rfl (Nat.zero_le _) (Nat.zero_le _) ?_
      refine c_X4_outcome_65 ?_
      exact go_ret rfl rfl (am_qi q (by exact ((if_neg c14).trans (if_pos c20_0)).symm) (by rfl))
    · refine go_if (fun c20_1 => ?_) (fun c20_1 => ?_)
      · refine go_s 1 rfl ?_
        refine go_u kX11_ran_62_2 okX4_steps rfl rfl rfl rfl (Nat.zero_le _) (Nat.zero_le _) ?_
        refine c_X4_steps_65 ?_
        exact go_ret rfl rfl (am_qi q (by exact ((if_neg c14).trans ((if_neg c20_0).trans (if_pos c20_1))).symm) (by rfl))
      · refine go_if (fun c20_2 => ?_) (fun c20_2 => ?_)
        · refine go_s 1 rfl ?_
          refine go_u kX11_ran_67_2 okX4_prints rfl rfl rfl rfl (Nat.zero_le _) (Nat.zero_le _) ?_
          refine c_X4_prints_65 ?_
          exact go_ret rfl rfl (am_qi q (by exact ((if_neg c14).trans ((if_neg c20_0).trans ((if_neg c20_1).trans (if_pos c20_2)))).symm) (by rfl))
        · refine go_if (fun c20_3 => ?_) (fun c20_3 => ?_)
          · refine go_s 1 rfl ?_
            refine go_u kX11_ran_72_2 okX2_where rfl rfl rfl rfl (Nat.zero_le _) (Nat.zero_le _) ?_
            refine c_X2_where ?_
            exact go_ret rfl rfl (am_qi q (by exact ((if_neg c14).trans ((if_neg c20_0).trans ((if_neg c20_1).trans ((if_neg c20_2).trans (if_pos c20_3))))).symm) (by rfl))
          · refine go_if (fun c20_4 => ?_) (fun c20_4 => ?_)
            · refine go_s 1 rfl ?_
              refine go_u kX11_ran_77_2 okX2_whichPlace rfl rfl rfl rfl (Nat.zero_le _) (Nat.zero_le _) ?_
              refine c_X2_whichPlace ?_
              exact go_ret rfl rfl (am_qi q (by exact ((if_neg c14).trans ((if_neg c20_0).trans ((if_neg c20_1).trans ((if_neg c20_2).trans ((if_neg c20_3).trans (if_pos c20_4)))))).symm) (by rfl))
            · refine go_s 1 rfl ?_
              exact go_ret rfl rfl (am_qi q (by exact ((if_neg c14).trans ((if_neg c20_0).trans ((if_neg c20_1).trans ((if_neg c20_2).trans ((if_neg c20_3).trans (if_neg c20_4)))))).symm) (by rfl))
theorem c_X11_ran_x {D : Nat → Nat → Int32} {e : am_E} {kc ks : Nat} {Q : am_Q} {w v : Int32} (w0 : ¬ w = 0) (w1 : ¬ w = 1) (q : Q (some (.int (-1))) (hp D e)) : am_Go (mX11_ran, 0, am_ent mX11_ran [.ref 0, .int w, .int v], [], hp D e, kc, ks, Q) := by
  refine go_s 2 rfl ?_
  refine go_v kX11_ran_2 okX11_machineOf rfl rfl rfl rfl (Nat.zero_le _) (Nat.zero_le _) ?_
  refine c_X11_machineOf_x w0 w1 ?_
  refine go_s 4 rfl ?_
  exact go_ret rfl rfl (am_qi q (by rfl) (by rfl))
theorem c_X11_word {D : Nat → Nat → Int32} {e : am_E} {kc ks : Nat} {Q : am_Q} {i : Int32} (hW : (D 11 3).toInt ≤ 600) (q : Q (some (.int (am_wda D i))) (hp D e)) : am_Go (mX11_word, 0, am_ent mX11_word [.ref 0, .int i], [], hp D e, kc, ks, Q) := by
  refine go_s 3 rfl ?_
  refine go_v kX11_word_5 okX1_wordAt rfl rfl rfl rfl (Nat.zero_le _) (Nat.zero_le _) ?_
  refine c_X1_wordAt hW ?_
  exact go_ret rfl rfl (am_qi q (by rfl) (by rfl))
theorem c_X11_body {D : Nat → Nat → Int32} {e : am_E} {kc ks : Nat} {Q : am_Q} {f w : Int32} (hI : (D 11 4).toInt ≤ 24) (q : Q (some (.int (if w = 0 then am_bdy D f else if w = 1 then am_adr D (am_bdy D f) else -1))) (hp D e)) : am_Go (mX11_body, 0, am_ent mX11_body [.ref 0, .int f, .int w], [], hp D e, kc, ks, Q) := by
  refine go_s 3 rfl ?_
  refine go_v kX11_body_5 okX1_bodyOf rfl rfl rfl rfl (Nat.zero_le _) (Nat.zero_le _) ?_
  refine c_X1_bodyOf hI ?_
  refine go_s 3 rfl ?_
  refine go_if (fun c10_0 => ?_) (fun c10_0 => ?_)
  · refine go_s 1 rfl ?_
    exact go_ret rfl rfl (am_qi q (by exact (if_pos c10_0).symm) (by rfl))
  · refine go_if (fun c10_1 => ?_) (fun c10_1 => ?_)
    · refine go_s 3 rfl ?_
      refine go_v kX11_body_43 okX1_addressOf rfl rfl rfl rfl (Nat.zero_le _) (Nat.zero_le _) ?_
      refine c_X1_addressOf hI ?_
      exact go_ret rfl rfl (am_qi q (by exact ((if_neg c10_0).trans (if_pos c10_1)).symm) (by rfl))
    · refine go_s 1 rfl ?_
      exact go_ret rfl rfl (am_qi q (by exact ((if_neg c10_0).trans (if_neg c10_1)).symm) (by rfl))
end
section
theorem c_X11_routine {D : Nat → Nat → Int32} {e : am_E} {kc ks : Nat} {Q : am_Q} {k w : Int32} (hR : (D 15 10).toInt ≤ 60) (q : Q (some (.int (if 0 ≤ k ∧ k < D 15 10 then (if w = 0 then (if 0 ≤ k ∧ k < D 15 10 then D 17 k.toNatClampNeg else 0) else if w = 1 then (if 0 ≤ k ∧ k < D 15 10 then D 19 k.toNatClampNeg else 0) else if w = 2 then (if 0 ≤ k ∧ k < D 15 10 then 4 * ((D 19 k.toNatClampNeg - 1) * D 17 k.toNatClampNeg - 1 - D 19 k.toNatClampNeg) else 0) else if w = 3 then (if 0 ≤ k ∧ k < D 15 10 then 4096 + 4 * D 20 k.toNatClampNeg else -1) else -1) else -1))) (hp D e)) : am_Go (mX11_routine, 0, am_ent mX11_routine [.ref 0, .int k, .int w], [], hp D e, kc, ks, Q) := by
  refine go_s 3 rfl ?_
  refine go_v kX11_routine_5 okX7_has rfl rfl rfl rfl (Nat.zero_le _) (Nat.zero_le _) ?_
  refine c_X7_has ?_
  refine go_s 1 rfl ?_
  refine go_if (fun c8 => ?_) (fun c8 => ?_)
  · refine go_s 1 rfl ?_
    exact go_ret rfl rfl (am_qi q (by exact (if_neg (zb_0.mp c8)).symm) (by rfl))
  · refine go_s 2 rfl ?_
    refine go_if (fun c14_0 => ?_) (fun c14_0 => ?_)
    · refine go_s 3 rfl ?_
      refine go_v kX11_routine_49 okX7_lengthOf rfl rfl rfl rfl (Nat.zero_le _) (Nat.zero_le _) ?_
      refine c_X7_lengthOf hR ?_
      exact go_ret rfl rfl (am_qi q (by exact ((if_pos (zb_ne.mp c8)).trans (if_pos c14_0)).symm) (by rfl))
    · refine go_if (fun c14_1 => ?_) (fun c14_1 => ?_)
      · refine go_s 3 rfl ?_
        refine go_v kX11_routine_58 okX7_timesOf rfl rfl rfl rfl (Nat.zero_le _) (Nat.zero_le _) ?_
        refine c_X7_timesOf hR ?_
        exact go_ret rfl rfl (am_qi q (by exact ((if_pos (zb_ne.mp c8)).trans ((if_neg c14_0).trans (if_pos c14_1))).symm) (by rfl))
      · refine go_if (fun c14_2 => ?_) (fun c14_2 => ?_)
        · refine go_s 3 rfl ?_
          refine go_v kX11_routine_67 okX7_savesOf rfl rfl rfl rfl (Nat.zero_le _) (Nat.zero_le _) ?_
          refine c_X7_savesOf hR ?_
          exact go_ret rfl rfl (am_qi q (by exact ((if_pos (zb_ne.mp c8)).trans ((if_neg c14_0).trans ((if_neg c14_1).trans (if_pos c14_2)))).symm) (by rfl))
        · refine go_if (fun c14_3 => ?_) (fun c14_3 => ?_)
          · refine go_s 3 rfl ?_
            refine go_v kX11_routine_76 okX7_addressOf rfl rfl rfl rfl (Nat.zero_le _) (Nat.zero_le _) ?_
            refine c_X7_addressOf hR ?_
            exact go_ret rfl rfl (am_qi q (by exact ((if_pos (zb_ne.mp c8)).trans ((if_neg c14_0).trans ((if_neg c14_1).trans ((if_neg c14_2).trans (if_pos c14_3))))).symm) (by rfl))
          · refine go_s 1 rfl ?_
            exact go_ret rfl rfl (am_qi q (by exact ((if_pos (zb_ne.mp c8)).trans ((if_neg c14_0).trans ((if_neg c14_1).trans ((if_neg c14_2).trans (if_neg c14_3))))).symm) (by rfl))
def am_iof (D : Nat → Nat → Int32) (k i : Int32) : Int32 := if (0 ≤ k ∧ k < D 15 10) ∧ ¬ i < 0 ∧ i < D 19 k.toNatClampNeg then D 18 k.toNatClampNeg + i else -1
theorem c_X11_occurrence {D : Nat → Nat → Int32} {e : am_E} {kc ks : Nat} {Q : am_Q} {k i w : Int32} (hR : (D 15 10).toInt ≤ 60) (hO : (D 15 11).toInt ≤ 150) (q : Q (some (.int (if am_iof D k i = -1 then -1 else if w = 0 then (if 0 ≤ am_iof D k i ∧ am_iof D k i < D 15 11 then D 22 (am_iof D k i).toNatClampNeg else -1) else if w = 1 then (if 0 ≤ am_iof D k i ∧ am_iof D k i < D 15 11 then D 23 (am_iof D k i).toNatClampNeg else -1) else if w = 2 then (if 0 ≤ am_iof D k i ∧ am_iof D k i < D 15 11 then 4096 + 4 * D 24 (am_iof D k i).toNatClampNeg else -1) else -1))) (hp D e)) : am_Go (mX11_occurrence, 0, am_ent mX11_occurrence [.ref 0, .int k, .int i, .int w], [], hp D e, kc, ks, Q) := by
  refine go_s 4 rfl ?_
  refine go_v kX11_occurrence_6 okX7_indexOf rfl rfl rfl rfl (Nat.zero_le _) (Nat.zero_le _) ?_
  refine c_X7_indexOf hR ?_
  refine go_s 4 rfl ?_
  refine go_if (fun c14 => ?_) (fun c14 => ?_)
  · refine go_s 1 rfl ?_
    exact go_ret rfl rfl (am_qi q (by exact (if_pos c14).symm) (by rfl))
  · refine go_s 2 rfl ?_
    refine go_if (fun c20_0 => ?_) (fun c20_0 => ?_)
    · refine go_s 3 rfl ?_
      refine go_v kX11_occurrence_54 okX7_bodyAt rfl rfl rfl rfl (Nat.zero_le _) (Nat.zero_le _) ?_
      refine c_X7_bodyAt hO ?_
      exact go_ret rfl rfl (am_qi q (by exact ((if_neg c14).trans (if_pos c20_0)).symm) (by rfl))
    · refine go_if (fun c20_1 => ?_) (fun c20_1 => ?_)
      · refine go_s 3 rfl ?_
        refine go_v kX11_occurrence_64 okX7_placeAt rfl rfl rfl rfl (Nat.zero_le _) (Nat.zero_le _) ?_
        refine c_X7_placeAt hO ?_
        exact go_ret rfl rfl (am_qi q (by exact ((if_neg c14).trans ((if_neg c20_0).trans (if_pos c20_1))).symm) (by rfl))
      · refine go_if (fun c20_2 => ?_) (fun c20_2 => ?_)
        · refine go_s 3 rfl ?_
          refine go_v kX11_occurrence_74 okX7_wordAddressAt rfl rfl rfl rfl (Nat.zero_le _) (Nat.zero_le _) ?_
          refine c_X7_wordAddressAt hO ?_
          exact go_ret rfl rfl (am_qi q (by exact ((if_neg c14).trans ((if_neg c20_0).trans ((if_neg c20_1).trans (if_pos c20_2)))).symm) (by rfl))
        · refine go_s 1 rfl ?_
          exact go_ret rfl rfl (am_qi q (by exact ((if_neg c14).trans ((if_neg c20_0).trans ((if_neg c20_1).trans (if_neg c20_2)))).symm) (by rfl))
def am_adF (D : Nat → Nat → Int32) : Int32 × (Nat → Nat → Int32) := if D 1 5 < 24 then (D 1 5 + 1 - 1, am_u (am_u (am_u D 6 (D 1 5 + 1).toNatClampNeg (D 6 (D 1 5).toNatClampNeg)) 1 5 (D 1 5 + 1)) 1 7 (D 1 7 + 1)) else (-1, D)
theorem c_X5_addFunction {D : Nat → Nat → Int32} {e : am_E} {kc ks : Nat} {Q : am_Q}  (h0 : ¬ D 1 5 < 0) (q : Q (some (.int ((am_adF D).1))) (hp (am_adF D).2 e)) : am_Go (mX5_addFunction, 0, am_ent mX5_addFunction [.ref 1], [], hp D e, kc, ks, Q) := by
  refine go_s 4 rfl ?_
  refine go_if (fun c6 => ?_) (fun c6 => ?_)
  · refine go_s 10 rfl ?_
    refine go_m rfl rfl (show vp_in _ 25 from vpn (y := 24) h0 c6 (by decide)) ?_
    refine go_m rfl rfl (show vp_in _ 25 from vpn1 (y := 24) h0 c6 (by decide)) ?_
    refine go_s 16 rfl ?_
    exact go_ret rfl rfl (am_qp q (by exact if_pos c6))
  · refine go_s 1 rfl ?_
    exact go_ret rfl rfl (am_qp q (by exact if_neg c6))
theorem c_X11_function {D : Nat → Nat → Int32} {e : am_E} {kc ks : Nat} {Q : am_Q}  (h0 : ¬ D 1 5 < 0) (q : Q (some (.int ((am_adF D).1))) (hp (am_adF D).2 e)) : am_Go (mX11_function, 0, am_ent mX11_function [.ref 0], [], hp D e, kc, ks, Q) := by
  refine go_s 2 rfl ?_
  refine go_v kX11_function_4 okX5_addFunction rfl rfl rfl rfl (Nat.zero_le _) (Nat.zero_le _) ?_
  refine c_X5_addFunction h0 ?_
  exact go_ret rfl rfl (am_qp2 q (by rfl))
def am_cl1 (D : Nat → Nat → Int32) : Nat → Nat → Int32 := am_u (am_u (am_fil (am_u (am_u D 11 3 0) 11 4 0) 25 300 (-1)) 15 10 0) 15 11 0
theorem c_X11_clear {D : Nat → Nat → Int32} {e : am_E} {kc ks : Nat} {Q : am_Q}   (q : Q (some (.int (am_cl1 D 1 5))) (hp (am_u (am_u (am_u (am_cl1 D) 1 5 0) 1 6 0) 1 7 (am_cl1 D 1 7 + 1)) e)) : am_Go (mX11_clear, 0, am_ent mX11_clear [.ref 0], [], hp D e, kc, ks, Q) := by
  refine go_s 2 rfl ?_
  refine go_v kX11_clear_4 okX1_drop rfl rfl rfl rfl (Nat.zero_le _) (Nat.zero_le _) ?_
  refine c_X1_drop ?_
  refine go_s 2 rfl ?_
  refine go_v kX11_clear_11 okX7_drop rfl rfl rfl rfl (Nat.zero_le _) (Nat.zero_le _) ?_
  refine c_X7_drop ?_
  refine go_s 2 rfl ?_
  refine go_v kX11_clear_18 okX5_drop rfl rfl rfl rfl (Nat.zero_le _) (Nat.zero_le _) ?_
  refine c_X5_drop ?_
  exact go_ret rfl rfl (am_qi q (by rfl) (by rfl))
def am_oc_59 (D : Nat → Nat → Int32) (N : Nat) : Int32 := if (am_dv_59 D N).1 = 3 then 1 else (am_dv_59 D N).1
def am_rn_59 (D : Nat → Nat → Int32) (N : Nat) : Int32 × (Nat → Nat → Int32) := if zb (0 ≤ (0 : Int32) ∧ 0 < D 1 5) = 0 then (-1, D) else (am_oc_59 D N, am_u (am_u (am_dv_59 D N).2.2 59 3 (nI (am_dv_59 D N).2.1)) 59 2 (am_oc_59 D N))
theorem c_X11_run_59 {D : Nat → Nat → Int32} {e : am_E} {kc ks : Nat} {Q : am_Q} {N : Nat} (hN1 : 1 ≤ N) (hN2 : N ≤ 20000) (hF : (D 1 5).toInt ≤ 24) (hS : (D 1 6).toInt ≤ 300) (q : Q (some (.int ((am_rn_59 D N).1))) (hp (am_rn_59 D N).2 e)) : am_Go (mX11_run, 0, am_ent mX11_run [.ref 0, .int 0, .int (nI N)], [], hp D e, kc, ks, Q) := by
  refine go_s 2 rfl ?_
  refine go_v kX11_run_2 okX11_machineOf rfl rfl rfl rfl (Nat.zero_le _) (Nat.zero_le _) ?_
  refine c_X11_machineOf_59 ?_
  refine go_s 6 rfl ?_
  refine go_if (fun c12 => absurd c12 (nI_nlt (a := N) (b := 1) hN1 (by omega))) (fun c12 => ?_)
  refine go_s 3 rfl ?_
  refine go_if (fun c19 => absurd c19 (nI_nlt (a := 20000) (b := N) hN2 (by omega))) (fun c19 => ?_)
  refine go_s 1 rfl ?_
  refine go_u kX11_run_23_7 okX10_isReady rfl rfl rfl rfl (Nat.zero_le _) (Nat.zero_le _) ?_
  refine c_X10_isReady ?_
  refine go_s 1 rfl ?_
  refine go_if (fun c26 => ?_) (fun c26 => ?_)
  · refine go_s 1 rfl ?_
    exact go_ret rfl rfl (am_qp q (by exact if_pos c26))
  · refine go_s 2 rfl ?_
    refine go_u kX11_run_33_7 okX4_drive rfl rfl rfl rfl (Nat.zero_le _) (Nat.zero_le _) ?_
    refine c_X4_drive_59 (by omega) hF hS ?_
    exact go_ret rfl rfl (am_qp q (by exact if_neg c26))
theorem c_X11_run_59n {D : Nat → Nat → Int32} {e : am_E} {kc ks : Nat} {Q : am_Q} {f : Int32} (hf : f < 1 ∨ 20000 < f) (q : Q (some (.int (-1))) (hp D e)) : am_Go (mX11_run, 0, am_ent mX11_run [.ref 0, .int 0, .int f], [], hp D e, kc, ks, Q) := by
  refine go_s 2 rfl ?_
  refine go_v kX11_run_2 okX11_machineOf rfl rfl rfl rfl (Nat.zero_le _) (Nat.zero_le _) ?_
  refine c_X11_machineOf_59 ?_
  refine go_s 6 rfl ?_
  refine go_if (fun c12 => ?_) (fun c12 => ?_)
  · refine go_s 1 rfl ?_
    exact go_ret rfl rfl (am_qi q (by rfl) (by rfl))
  · refine go_s 3 rfl ?_
    refine go_if (fun c19 => ?_) (fun c19 => absurd (hf.resolve_left c12) c19)
    refine go_s 1 rfl ?_
    exact go_ret rfl rfl (am_qi q (by rfl) (by rfl))
def am_oc_65 (D : Nat → Nat → Int32) (N : Nat) : Int32 := if (am_dv_65 D N).1 = 3 then 1 else (am_dv_65 D N).1
def am_rn_65 (D : Nat → Nat → Int32) (N : Nat) : Int32 × (Nat → Nat → Int32) := if zb (0 < D 11 3) = 0 then (-1, D) else (am_oc_65 D N, am_u (am_u (am_dv_65 D N).2.2 65 3 (nI (am_dv_65 D N).2.1)) 65 2 (am_oc_65 D N))
theorem c_X11_run_65 {D : Nat → Nat → Int32} {e : am_E} {kc ks : Nat} {Q : am_Q} {N : Nat} (hN1 : 1 ≤ N) (hN2 : N ≤ 20000) (hW : (D 11 3).toInt ≤ 600) (hG : (D 11 4).toInt ≤ 24) (q : Q (some (.int ((am_rn_65 D N).1))) (hp (am_rn_65 D N).2 e)) : am_Go (mX11_run, 0, am_ent mX11_run [.ref 0, .int 1, .int (nI N)], [], hp D e, kc, ks, Q) := by
  refine go_s 2 rfl ?_
  refine go_v kX11_run_2 okX11_machineOf rfl rfl rfl rfl (Nat.zero_le _) (Nat.zero_le _) ?_
  refine c_X11_machineOf_65 ?_
  refine go_s 6 rfl ?_
  refine go_if (fun c12 => absurd c12 (nI_nlt (a := N) (b := 1) hN1 (by omega))) (fun c12 => ?_)
  refine go_s 3 rfl ?_
  refine go_if (fun c19 => absurd c19 (nI_nlt (a := 20000) (b := N) hN2 (by omega))) (fun c19 => ?_)
  refine go_s 1 rfl ?_
  refine go_u kX11_run_23_2 okX2_isReady rfl rfl rfl rfl (Nat.zero_le _) (Nat.zero_le _) ?_
  refine c_X2_isReady ?_
  refine go_s 1 rfl ?_
  refine go_if (fun c26 => ?_) (fun c26 => ?_)
  · refine go_s 1 rfl ?_
    exact go_ret rfl rfl (am_qp q (by exact if_pos c26))
  · refine go_s 2 rfl ?_
    refine go_u kX11_run_33_2 okX4_drive rfl rfl rfl rfl (Nat.zero_le _) (Nat.zero_le _) ?_
    refine c_X4_drive_65 (by omega) hW hG ?_
    exact go_ret rfl rfl (am_qp q (by exact if_neg c26))
theorem c_X11_run_65n {D : Nat → Nat → Int32} {e : am_E} {kc ks : Nat} {Q : am_Q} {f : Int32} (hf : f < 1 ∨ 20000 < f) (q : Q (some (.int (-1))) (hp D e)) : am_Go (mX11_run, 0, am_ent mX11_run [.ref 0, .int 1, .int f], [], hp D e, kc, ks, Q) := by
  refine go_s 2 rfl ?_
  refine go_v kX11_run_2 okX11_machineOf rfl rfl rfl rfl (Nat.zero_le _) (Nat.zero_le _) ?_
  refine c_X11_machineOf_65 ?_
  refine go_s 6 rfl ?_
  refine go_if (fun c12 => ?_) (fun c12 => ?_)
  · refine go_s 1 rfl ?_
    exact go_ret rfl rfl (am_qi q (by rfl) (by rfl))
  · refine go_s 3 rfl ?_
    refine go_if (fun c19 => ?_) (fun c19 => absurd (hf.resolve_left c12) c19)
    refine go_s 1 rfl ?_
    exact go_ret rfl rfl (am_qi q (by rfl) (by rfl))
theorem c_X11_run_x {D : Nat → Nat → Int32} {e : am_E} {kc ks : Nat} {Q : am_Q} {w f : Int32} (w0 : ¬ w = 0) (w1 : ¬ w = 1) (q : Q (some (.int (-1))) (hp D e)) : am_Go (mX11_run, 0, am_ent mX11_run [.ref 0, .int w, .int f], [], hp D e, kc, ks, Q) := by
  refine go_s 2 rfl ?_
  refine go_v kX11_run_2 okX11_machineOf rfl rfl rfl rfl (Nat.zero_le _) (Nat.zero_le _) ?_
  refine c_X11_machineOf_x w0 w1 ?_
  refine go_s 4 rfl ?_
  exact go_ret rfl rfl (am_qi q (by rfl) (by rfl))
end
section
theorem c_X1_begin {D : Nat → Nat → Int32} {e : am_E} {kc ks : Nat} {Q : am_Q} {n : Int32}  (q : Q none (hp (am_u (am_u D 11 3 0) 11 4 (if 24 < n then 24 else n)) e)) : am_Go (mX1_begin, 0, am_ent mX1_begin [.ref 11, .int n], [], hp D e, kc, ks, Q) := by
  refine go_s 6 rfl ?_
  refine go_min 620 rfl (by decide +kernel) rfl ?_
  refine go_s 1 rfl ?_
  exact go_retv rfl rfl (am_qv q (by rfl))
def am_app (D : Nat → Nat → Int32) (w : Int32) : Nat → Nat → Int32 := if D 11 3 < 600 then am_u (am_u D 12 (D 11 3).toNatClampNeg w) 11 3 (D 11 3 + 1) else D
def am_aro (D : Nat → Nat → Int32) (s l : Int32) : Nat → Nat → Int32 := if D 15 10 < 60 then am_u (am_u (am_u (am_u (am_u (am_u D 16 (D 15 10).toNatClampNeg s) 17 (D 15 10).toNatClampNeg l) 18 (D 15 10).toNatClampNeg (D 15 11)) 19 (D 15 10).toNatClampNeg 0) 20 (D 15 10).toNatClampNeg 0) 15 10 (D 15 10 + 1) else D
def am_aoc1 (D : Nat → Nat → Int32) (s b p : Int32) : Nat → Nat → Int32 := am_u (am_u (am_u (am_u (am_u (am_u D 21 (D 15 11).toNatClampNeg (D 15 10 - 1)) 22 (D 15 11).toNatClampNeg b) 23 (D 15 11).toNatClampNeg p) 24 (D 15 11).toNatClampNeg 0) 25 s.toNatClampNeg (D 15 11)) 15 11 (D 15 11 + 1)
def am_aoc (D : Nat → Nat → Int32) (s b p : Int32) : Nat → Nat → Int32 := if ¬ D 15 10 - 1 < 0 ∧ D 15 11 < 150 ∧ ¬ s < 0 ∧ s < 300 then am_u (am_aoc1 D s b p) 19 (D 15 10 - 1).toNatClampNeg (D 19 (D 15 10 - 1).toNatClampNeg + 1) else D
theorem c_X1_append {D : Nat → Nat → Int32} {e : am_E} {kc ks : Nat} {Q : am_Q} {w : Int32} (h0 : ¬ D 11 3 < 0) (q : Q none (hp (am_app D w) e)) : am_Go (mX1_append, 0, am_ent mX1_append [.ref 11, .int w], [], hp D e, kc, ks, Q) := by
  refine go_s 4 rfl ?_
  refine go_if (fun c7 => ?_) (fun c7 => ?_)
  · refine go_s 5 rfl ?_
    refine go_m rfl rfl (show vp_in _ 600 from vpn (y := 600) h0 c7 (by decide)) ?_
    refine go_s 6 rfl ?_
    exact go_retv rfl rfl (am_qv q (by first | exact am_hD (if_pos c7).symm | exact am_hD (if_neg c7).symm))
  · exact go_retv rfl rfl (am_qv q (by first | exact am_hD (if_pos c7).symm | exact am_hD (if_neg c7).symm))
theorem c_X7_addRoutine {D : Nat → Nat → Int32} {e : am_E} {kc ks : Nat} {Q : am_Q} {s l : Int32} (h0 : ¬ D 15 10 < 0) (q : Q none (hp (am_aro D s l) e)) : am_Go (mX7_addRoutine, 0, am_ent mX7_addRoutine [.ref 15, .int s, .int l], [], hp D e, kc, ks, Q) := by
  refine go_s 4 rfl ?_
  refine go_if (fun c6 => ?_) (fun c6 => ?_)
  · refine go_s 5 rfl ?_
    refine go_m rfl rfl (show vp_in _ 60 from vpn (y := 60) h0 c6 (by decide)) ?_
    refine go_s 5 rfl ?_
    refine go_m rfl rfl (show vp_in _ 60 from vpn (y := 60) h0 c6 (by decide)) ?_
    refine go_s 6 rfl ?_
    refine go_m rfl rfl (show vp_in _ 60 from vpn (y := 60) h0 c6 (by decide)) ?_
    refine go_s 5 rfl ?_
    refine go_m rfl rfl (show vp_in _ 60 from vpn (y := 60) h0 c6 (by decide)) ?_
    refine go_s 5 rfl ?_
    refine go_m rfl rfl (show vp_in _ 60 from vpn (y := 60) h0 c6 (by decide)) ?_
    refine go_s 6 rfl ?_
    exact go_retv rfl rfl (am_qv q (by first | exact am_hD (if_pos c6).symm | exact am_hD (if_neg c6).symm))
  · exact go_retv rfl rfl (am_qv q (by first | exact am_hD (if_pos c6).symm | exact am_hD (if_neg c6).symm))
theorem c_X7_addOccurrence {D : Nat → Nat → Int32} {e : am_E} {kc ks : Nat} {Q : am_Q} {s b p : Int32} (h1 : ¬ D 15 11 < 0) (h2 : vp_in (D 15 10 - 1) 60) (q : Q none (hp (am_aoc D s b p) e)) : am_Go (mX7_addOccurrence, 0, am_ent mX7_addOccurrence [.ref 15, .int s, .int b, .int p], [], hp D e, kc, ks, Q) := by
  refine go_s 7 rfl ?_
  refine go_if (fun c10 => ?_) (fun c10 => ?_)
  · exact go_retv rfl rfl (am_qv q (by first | exact am_hD (if_pos ⟨by assumption, by assumption, by assumption, by assumption⟩).symm | exact am_hD (if_neg (fun z => absurd (by assumption) z.1)).symm | exact am_hD (if_neg (fun z => absurd z.2.1 (by assumption))).symm | exact am_hD (if_neg (fun z => absurd (by assumption) z.2.2.1)).symm | exact am_hD (if_neg (fun z => absurd z.2.2.2 (by assumption))).symm))
  · refine go_s 4 rfl ?_
    refine go_if (fun c20 => ?_) (fun c20 => ?_)
    · refine go_s 2 rfl ?_
      refine go_if (fun c24 => ?_) (fun c24 => ?_)
      · exact go_retv rfl rfl (am_qv q (by first | exact am_hD (if_pos ⟨by assumption, by assumption, by assumption, by assumption⟩).symm | exact am_hD (if_neg (fun z => absurd (by assumption) z.1)).symm | exact am_hD (if_neg (fun z => absurd z.2.1 (by assumption))).symm | exact am_hD (if_neg (fun z => absurd (by assumption) z.2.2.1)).symm | exact am_hD (if_neg (fun z => absurd z.2.2.2 (by assumption))).symm))
      · refine go_s 3 rfl ?_
        refine go_if (fun c31 => ?_) (fun c31 => ?_)
        · refine go_s 5 rfl ?_
          refine go_m rfl rfl (show vp_in _ 150 from vpn (y := 150) h1 c20 (by decide)) ?_
          refine go_s 5 rfl ?_
          refine go_m rfl rfl (show vp_in _ 150 from vpn (y := 150) h1 c20 (by decide)) ?_
          refine go_s 5 rfl ?_
          refine go_m rfl rfl (show vp_in _ 150 from vpn (y := 150) h1 c20 (by decide)) ?_
          refine go_s 5 rfl ?_
          refine go_m rfl rfl (show vp_in _ 150 from vpn (y := 150) h1 c20 (by decide)) ?_
          refine go_s 5 rfl ?_
          refine go_m rfl rfl (show vp_in _ 300 from vpn (y := 300) c24 c31 (by decide)) ?_
          refine go_s 10 rfl ?_
          refine go_m rfl rfl h2 ?_
          refine go_s 2 rfl ?_
          refine go_m rfl rfl h2 ?_
          exact go_retv rfl rfl (am_qv q (by first | exact am_hD (if_pos ⟨by assumption, by assumption, by assumption, by assumption⟩).symm | exact am_hD (if_neg (fun z => absurd (by assumption) z.1)).symm | exact am_hD (if_neg (fun z => absurd z.2.1 (by assumption))).symm | exact am_hD (if_neg (fun z => absurd (by assumption) z.2.2.1)).symm | exact am_hD (if_neg (fun z => absurd z.2.2.2 (by assumption))).symm))
        · exact go_retv rfl rfl (am_qv q (by first | exact am_hD (if_pos ⟨by assumption, by assumption, by assumption, by assumption⟩).symm | exact am_hD (if_neg (fun z => absurd (by assumption) z.1)).symm | exact am_hD (if_neg (fun z => absurd z.2.1 (by assumption))).symm | exact am_hD (if_neg (fun z => absurd (by assumption) z.2.2.1)).symm | exact am_hD (if_neg (fun z => absurd z.2.2.2 (by assumption))).symm))
    · exact go_retv rfl rfl (am_qv q (by first | exact am_hD (if_pos ⟨by assumption, by assumption, by assumption, by assumption⟩).symm | exact am_hD (if_neg (fun z => absurd (by assumption) z.1)).symm | exact am_hD (if_neg (fun z => absurd z.2.1 (by assumption))).symm | exact am_hD (if_neg (fun z => absurd (by assumption) z.2.2.1)).symm | exact am_hD (if_neg (fun z => absurd z.2.2.2 (by assumption))).symm))
end
section
def am_su (k v : Int32) : Int32 := if k = 1 then zb (¬ v < 0 ∧ v < 32 ∧ ¬ v = 5) else if k = 2 then zb (¬ v < -2048 ∧ ¬ 2047 < v) else if k = 3 then zb (¬ v < 0 ∧ ¬ 31 < v) else if k = 4 then zb (¬ v < 0 ∧ ¬ 1048575 < v) else if k = 5 then zb (¬ v < 0 ∧ v < 40) else if k = 6 then zb (¬ v < 0 ∧ v < 24) else 1
theorem am_su_01 (k v : Int32) : am_su k v = 0 ∨ am_su k v = 1 := by
  unfold am_su
  repeat' split
  all_goals first | exact zb_01 | exact Or.inr rfl
def am_cp (D : Nat → Nat → Int32) (o a b n : Nat) : Nat → Nat → Int32 := fun i j => if i = o then va_cpy (D o) (D o) a b n j else D i j
def am_mkr (D : Nat → Nat → Int32) (x : Int32) : Nat → Nat → Int32 := am_cp (am_cp (am_cp (am_cp D 2 x.toNatClampNeg (x + 1).toNatClampNeg (D 1 6 - x).toNatClampNeg) 3 x.toNatClampNeg (x + 1).toNatClampNeg (D 1 6 - x).toNatClampNeg) 4 x.toNatClampNeg (x + 1).toNatClampNeg (D 1 6 - x).toNatClampNeg) 5 x.toNatClampNeg (x + 1).toNatClampNeg (D 1 6 - x).toNatClampNeg
theorem c_X9_suits {D : Nat → Nat → Int32} {e : am_E} {kc ks : Nat} {Q : am_Q} {k v : Int32}  (q : Q (some (.int (am_su k v))) (hp D e)) : am_Go (mX9_suits, 0, am_ent mX9_suits [.int k, .int v], [], hp D e, kc, ks, Q) := by
  refine go_s 2 rfl ?_
  refine go_if (fun c1_0 => ?_) (fun c1_0 => ?_)
  · refine go_s 2 rfl ?_
    refine go_if (fun c41 => ?_) (fun c41 => ?_)
    · refine go_s 1 rfl ?_
      exact go_retz rfl rfl (by first | exact Or.inl rfl | exact Or.inr rfl) (am_qi q (by exact ((if_pos c1_0).trans (zb_f (fun z => absurd c41 z.1))).symm) (by rfl))
    · refine go_s 3 rfl ?_
      refine go_if (fun c47 => ?_) (fun c47 => ?_)
      · refine go_s 3 rfl ?_
        refine go_if (fun c52 => ?_) (fun c52 => ?_)
        · refine go_s 1 rfl ?_
          exact go_retz rfl rfl (by first | exact Or.inl rfl | exact Or.inr rfl) (am_qi q (by exact ((if_pos c1_0).trans (zb_f (fun z => absurd c52 z.2.2))).symm) (by rfl))
        · refine go_s 2 rfl ?_
          exact go_retz rfl rfl (by first | exact Or.inl rfl | exact Or.inr rfl) (am_qi q (by exact ((if_pos c1_0).trans (zb_t ⟨c41, c47, c52⟩)).symm) (by rfl))
      · refine go_s 1 rfl ?_
        exact go_retz rfl rfl (by first | exact Or.inl rfl | exact Or.inr rfl) (am_qi q (by exact ((if_pos c1_0).trans (zb_f (fun z => absurd z.2.1 c47))).symm) (by rfl))
  · refine go_if (fun c1_1 => ?_) (fun c1_1 => ?_)
    · refine go_s 3 rfl ?_
      refine go_if (fun c65 => ?_) (fun c65 => ?_)
      · refine go_s 1 rfl ?_
        exact go_retz rfl rfl (by first | exact Or.inl rfl | exact Or.inr rfl) (am_qi q (by exact ((if_neg c1_0).trans ((if_pos c1_1).trans (zb_f (fun z => absurd c65 z.1)))).symm) (by rfl))
      · refine go_s 3 rfl ?_
        refine go_if (fun c72 => ?_) (fun c72 => ?_)
        · refine go_s 1 rfl ?_
          exact go_retz rfl rfl (by first | exact Or.inl rfl | exact Or.inr rfl) (am_qi q (by exact ((if_neg c1_0).trans ((if_pos c1_1).trans (zb_f (fun z => absurd c72 z.2)))).symm) (by rfl))
        · refine go_s 2 rfl ?_
          exact go_retz rfl rfl (by first | exact Or.inl rfl | exact Or.inr rfl) (am_qi q (by exact ((if_neg c1_0).trans ((if_pos c1_1).trans (zb_t ⟨c65, c72⟩))).symm) (by rfl))
    · refine go_if (fun c1_2 => ?_) (fun c1_2 => ?_)
      · refine go_s 2 rfl ?_
        refine go_if (fun c82 => ?_) (fun c82 => ?_)
        · refine go_s 1 rfl ?_
          exact go_retz rfl rfl (by first | exact Or.inl rfl | exact Or.inr rfl) (am_qi q (by exact ((if_neg c1_0).trans ((if_neg c1_1).trans ((if_pos c1_2).trans (zb_f (fun z => absurd c82 z.1))))).symm) (by rfl))
        · refine go_s 3 rfl ?_
          refine go_if (fun c88 => ?_) (fun c88 => ?_)
          · refine go_s 1 rfl ?_
            exact go_retz rfl rfl (by first | exact Or.inl rfl | exact Or.inr rfl) (am_qi q (by exact ((if_neg c1_0).trans ((if_neg c1_1).trans ((if_pos c1_2).trans (zb_f (fun z => absurd c88 z.2))))).symm) (by rfl))
          · refine go_s 2 rfl ?_
            exact go_retz rfl rfl (by first | exact Or.inl rfl | exact Or.inr rfl) (am_qi q (by exact ((if_neg c1_0).trans ((if_neg c1_1).trans ((if_pos c1_2).trans (zb_t ⟨c82, c88⟩)))).symm) (by rfl))
      · refine go_if (fun c1_3 => ?_) (fun c1_3 => ?_)
        · refine go_s 2 rfl ?_
          refine go_if (fun c98 => ?_) (fun c98 => ?_)
          · refine go_s 1 rfl ?_
            exact go_retz rfl rfl (by first | exact Or.inl rfl | exact Or.inr rfl) (am_qi q (by exact ((if_neg c1_0).trans ((if_neg c1_1).trans ((if_neg c1_2).trans ((if_pos c1_3).trans (zb_f (fun z => absurd c98 z.1)))))).symm) (by rfl))
          · refine go_s 3 rfl ?_
            refine go_if (fun c104 => ?_) (fun c104 => ?_)
            · refine go_s 1 rfl ?_
              exact go_retz rfl rfl (by first | exact Or.inl rfl | exact Or.inr rfl) (am_qi q (by exact ((if_neg c1_0).trans ((if_neg c1_1).trans ((if_neg c1_2).trans ((if_pos c1_3).trans (zb_f (fun z => absurd c104 z.2)))))).symm) (by rfl))
            · refine go_s 2 rfl ?_
              exact go_retz rfl rfl (by first | exact Or.inl rfl | exact Or.inr rfl) (am_qi q (by exact ((if_neg c1_0).trans ((if_neg c1_1).trans ((if_neg c1_2).trans ((if_pos c1_3).trans (zb_t ⟨c98, c104⟩))))).symm) (by rfl))
        · refine go_if (fun c1_4 => ?_) (fun c1_4 => ?_)
          · refine go_s 2 rfl ?_
            refine go_if (fun c114 => ?_) (fun c114 => ?_)
            · refine go_s 1 rfl ?_
              exact go_retz rfl rfl (by first | exact Or.inl rfl | exact Or.inr rfl) (am_qi q (by exact ((if_neg c1_0).trans ((if_neg c1_1).trans ((if_neg c1_2).trans ((if_neg c1_3).trans ((if_pos c1_4).trans (zb_f (fun z => absurd c114 z.1))))))).symm) (by rfl))
            · refine go_s 3 rfl ?_
              refine go_if (fun c120 => ?_) (fun c120 => ?_)
              · refine go_s 2 rfl ?_
                exact go_retz rfl rfl (by first | exact Or.inl rfl | exact Or.inr rfl) (am_qi q (by exact ((if_neg c1_0).trans ((if_neg c1_1).trans ((if_neg c1_2).trans ((if_neg c1_3).trans ((if_pos c1_4).trans (zb_t ⟨c114, c120⟩)))))).symm) (by rfl))
              · refine go_s 1 rfl ?_
                exact go_retz rfl rfl (by first | exact Or.inl rfl | exact Or.inr rfl) (am_qi q (by exact ((if_neg c1_0).trans ((if_neg c1_1).trans ((if_neg c1_2).trans ((if_neg c1_3).trans ((if_pos c1_4).trans (zb_f (fun z => absurd z.2 c120))))))).symm) (by rfl))
          · refine go_if (fun c1_5 => ?_) (fun c1_5 => ?_)
            · refine go_s 2 rfl ?_
              refine go_if (fun c130 => ?_) (fun c130 => ?_)
              · refine go_s 1 rfl ?_
                exact go_retz rfl rfl (by first | exact Or.inl rfl | exact Or.inr rfl) (am_qi q (by exact ((if_neg c1_0).trans ((if_neg c1_1).trans ((if_neg c1_2).trans ((if_neg c1_3).trans ((if_neg c1_4).trans ((if_pos c1_5).trans (zb_f (fun z => absurd c130 z.1)))))))).symm) (by rfl))
              · refine go_s 3 rfl ?_
                refine go_if (fun c136 => ?_) (fun c136 => ?_)
                · refine go_s 2 rfl ?_
                  exact go_retz rfl rfl (by first | exact Or.inl rfl | exact Or.inr rfl) (am_qi q (by exact ((if_neg c1_0).trans ((if_neg c1_1).trans ((if_neg c1_2).trans ((if_neg c1_3).trans ((if_neg c1_4).trans ((if_pos c1_5).trans (zb_t ⟨c130, c136⟩))))))).symm) (by rfl))
                · refine go_s 1 rfl ?_
                  exact go_retz rfl rfl (by first | exact Or.inl rfl | exact Or.inr rfl) (am_qi q (by exact ((if_neg c1_0).trans ((if_neg c1_1).trans ((if_neg c1_2).trans ((if_neg c1_3).trans ((if_neg c1_4).trans ((if_pos c1_5).trans (zb_f (fun z => absurd z.2 c136)))))))).symm) (by rfl))
            · refine go_s 1 rfl ?_
              exact go_retz rfl rfl (by first | exact Or.inl rfl | exact Or.inr rfl) (am_qi q (by exact ((if_neg c1_0).trans ((if_neg c1_1).trans ((if_neg c1_2).trans ((if_neg c1_3).trans ((if_neg c1_4).trans (if_neg c1_5)))))).symm) (by rfl))
theorem c_X5_makeRoomAt {D : Nat → Nat → Int32} {e : am_E} {kc ks : Nat} {Q : am_Q} {x : Int32} (h1 : ¬ x < 0) (h2 : ¬ x + 1 < 0) (h4 : x.toNatClampNeg + (D 1 6 - x).toNatClampNeg ≤ 300) (h5 : (x + 1).toNatClampNeg + (D 1 6 - x).toNatClampNeg ≤ 300) (q : Q none (hp (if 0 < D 1 6 - x then am_mkr D x else D) e)) : am_Go (mX5_makeRoomAt, 0, am_ent mX5_makeRoomAt [.ref 1, .int x], [], hp D e, kc, ks, Q) := by
  refine go_s 7 rfl ?_
  refine go_if (fun c8 => ?_) (fun c8 => ?_)
  · refine go_s 9 rfl ?_
    refine go_cpy 475 rfl (by decide +kernel) rfl rfl h1 h2 (Int32.not_lt.mpr (Int32.le_of_lt c8)) h4 h5 rfl ?_
    refine go_s 9 rfl ?_
    refine go_cpy 475 rfl (by decide +kernel) rfl rfl h1 h2 (Int32.not_lt.mpr (Int32.le_of_lt c8)) h4 h5 rfl ?_
    refine go_s 9 rfl ?_
    refine go_cpy 475 rfl (by decide +kernel) rfl rfl h1 h2 (Int32.not_lt.mpr (Int32.le_of_lt c8)) h4 h5 rfl ?_
    refine go_s 9 rfl ?_
    refine go_cpy 475 rfl (by decide +kernel) rfl rfl h1 h2 (Int32.not_lt.mpr (Int32.le_of_lt c8)) h4 h5 rfl ?_
    exact go_retv rfl rfl (am_qv q (by first | exact am_hD (if_pos c8).symm | exact am_hD (if_neg c8).symm))
  · exact go_retv rfl rfl (am_qv q (by first | exact am_hD (if_pos c8).symm | exact am_hD (if_neg c8).symm))
end
section
def am_inc (D : Nat → Nat → Int32) (lo hi : Nat) : Nat → Nat → Int32 := fun i j => if i = 6 ∧ lo ≤ j ∧ j < hi then D 6 j + 1 else D i j
theorem am_inc_0 (D : Nat → Nat → Int32) (lo : Nat) : am_inc D lo lo = D := by
  funext i j
  unfold am_inc
  rw [if_neg (by omega)]
theorem am_inc_s {D : Nat → Nat → Int32} {lo g : Nat} (h : lo ≤ g) : am_u (am_inc D lo g) 6 g (am_inc D lo g 6 g + 1) = am_inc D lo (g + 1) := by
  funext i j
  unfold am_u am_inc
  by_cases h1 : i = 6
  · subst h1
    by_cases h2 : j = g
    · subst h2
      rw [if_pos ⟨rfl, rfl⟩, if_neg (by omega), if_pos (by omega)]
    · rw [if_neg (by omega)]
      by_cases h3 : lo ≤ j ∧ j < g
      · rw [if_pos ⟨rfl, h3⟩, if_pos (by omega)]
      · rw [if_neg (fun z => h3 z.2), if_neg (by omega)]
  · rw [if_neg (fun z => h1 z.1), if_neg (fun z => h1 z.1), if_neg (fun z => h1 z.1)]
theorem c_put_loop {D : Nat → Nat → Int32} {e : am_E} {kc ks F lo : Nat} {Q : am_Q} {x1 x2 x3 x4 x5 x6 x7 x8 x9 : Int32} (hF : F ≤ 24) (hD : D 1 5 = nI F) (K : am_Go (mX5_addInstruction, 157, [.ref 1, .int x1, .int x2, .int x3, .int x4, .int x5, .int x6, .int x7, .int x8, .int x9, .int (nI (F + 1))], [], hp (am_inc D lo (F + 1)) e, kc, ks, Q)) : ∀ (n g : Nat), lo ≤ g → n + g = F + 1 → am_Go (mX5_addInstruction, 131, [.ref 1, .int x1, .int x2, .int x3, .int x4, .int x5, .int x6, .int x7, .int x8, .int x9, .int (nI g)], [], hp (am_inc D lo g) e, kc, ks, Q) := by
  intro n
  induction n with
  | zero =>
    intro g hl hg
    have hg : g = F + 1 := by omega
    subst hg
    refine go_s 4 rfl ?_
    refine go_if (fun c => ?_) (fun c => absurd (show am_inc D lo (F + 1) 1 5 < nI (F + 1) from by rw [show am_inc D lo (F + 1) 1 5 = D 1 5 from rfl, hD]; exact nI_lt (by omega) (by omega)) c)
    exact K
  | succ n ih =>
    intro g hl hg
    refine go_s 4 rfl ?_
    refine go_if (fun c => absurd c (show ¬ am_inc D lo g 1 5 < nI g from by rw [show am_inc D lo g 1 5 = D 1 5 from rfl, hD]; exact nI_nlt (by omega) (by omega))) (fun c => ?_)
    refine go_s 4 rfl ?_
    refine go_m rfl rfl (show vp_in (nI g) 25 from vp_in_nI (by omega) (by omega)) ?_
    refine go_s 2 rfl ?_
    refine go_m rfl rfl (show vp_in (nI g) 25 from vp_in_nI (by omega) (by omega)) ?_
    refine go_s 2 (pc' := 131) (ls' := [.ref 1, .int x1, .int x2, .int x3, .int x4, .int x5, .int x6, .int x7, .int x8, .int x9, .int (nI (g + 1))]) (st' := []) (h' := hp (am_inc D lo (g + 1)) e) (by
      rw [← nI_1, ← am_inc_s hl]
      show some (_, _, _, hp (am_u (am_inc D lo g) 6 (nI g).toNatClampNeg (am_inc D lo g 6 (nI g).toNatClampNeg + 1)) e) = _
      rw [nI_clamp (by omega)]
      rfl) ?_
    exact ih (g + 1) (by omega) (by omega)
end
section
theorem c_put_end {D : Nat → Nat → Int32} {e : am_E} {kc ks : Nat} {Q : am_Q} {x1 x2 x3 x4 x5 x6 x7 x8 x9 x10 : Int32} (hv : vp_in x1 25) (q : Q (some (.int (x9 - D 6 x1.toNatClampNeg))) (hp (am_u (am_u D 1 6 (D 1 6 + 1)) 1 7 (D 1 7 + 1)) e)) : am_Go (mX5_addInstruction, 157, [.ref 1, .int x1, .int x2, .int x3, .int x4, .int x5, .int x6, .int x7, .int x8, .int x9, .int x10], [], hp D e, kc, ks, Q) := by
  refine go_s 16 rfl ?_
  refine go_m rfl rfl (show vp_in x1 25 from hv) ?_
  refine go_s 1 rfl ?_
  exact go_ret rfl rfl (am_qi q rfl rfl)
def am_kpt (k v : Int32) : Int32 := if k = 0 then 0 else v
def am_pt0 (D : Nat → Nat → Int32) (x : Int32) : Nat → Nat → Int32 := if 0 < D 1 6 - x then am_mkr D x else D
theorem am_pt0_1 (D : Nat → Nat → Int32) (x : Int32) (j : Nat) : am_pt0 D x 1 j = D 1 j := by
  unfold am_pt0
  split <;> rfl
def am_pt1 (D : Nat → Nat → Int32) (x n a b c : Int32) : Nat → Nat → Int32 := am_u (am_u (am_u (am_u (am_pt0 D x) 2 x.toNatClampNeg n) 3 x.toNatClampNeg (am_kpt (am_kA n) a)) 4 x.toNatClampNeg (am_kpt (am_kB n) b)) 5 x.toNatClampNeg (am_kpt (am_kC n) c)
theorem am_pt1_1 (D : Nat → Nat → Int32) (x n a b c : Int32) (j : Nat) : am_pt1 D x n a b c 1 j = D 1 j := by
  unfold am_pt1
  rw [am_u_ne (by decide), am_u_ne (by decide), am_u_ne (by decide), am_u_ne (by decide), am_pt0_1]
def am_pok (D : Nat → Nat → Int32) (f n a b c : Int32) : Prop := (0 ≤ n ∧ n < 35) ∧ ¬ am_su (am_kA n) a = 0 ∧ ¬ am_su (am_kB n) b = 0 ∧ ¬ am_su (am_kC n) c = 0 ∧ ((0 ≤ f ∧ f < D 1 5) ∧ am_lof D f < 40 ∧ D 1 6 < 300)
def am_pt2 (D : Nat → Nat → Int32) (ff F : Nat) (n a b c : Int32) : Nat → Nat → Int32 := am_inc (am_pt1 D (am_end D (nI ff)) n a b c) (ff + 1) (F + 1)
theorem c_X5_addInstruction_no {D : Nat → Nat → Int32} {e : am_E} {kc ks : Nat} {Q : am_Q} {f n a b c : Int32} (hF : (D 1 5).toInt ≤ 24) (hn : ¬ am_pok D f n a b c) (q : Q (some (.int (-1))) (hp D e)) : am_Go (mX5_addInstruction, 0, am_ent mX5_addInstruction [.ref 1, .int f, .int n, .int a, .int b, .int c], [], hp D e, kc, ks, Q) := by
  refine go_s 1 rfl ?_
  refine go_st kX5_addInstruction_1 okX9_kindOfA rfl rfl rfl (Nat.zero_le _) (Nat.zero_le _) ?_
  refine c_X9_kindOfA ?_
  refine go_s 2 rfl ?_
  refine go_st kX5_addInstruction_7 okX9_kindOfB rfl rfl rfl (Nat.zero_le _) (Nat.zero_le _) ?_
  refine c_X9_kindOfB ?_
  refine go_s 2 rfl ?_
  refine go_st kX5_addInstruction_13 okX9_kindOfC rfl rfl rfl (Nat.zero_le _) (Nat.zero_le _) ?_
  refine c_X9_kindOfC ?_
  refine go_s 2 rfl ?_
  refine go_st kX5_addInstruction_19 okX9_isNumber rfl rfl rfl (Nat.zero_le _) (Nat.zero_le _) ?_
  refine c_X9_isNumber ?_
  refine go_s 1 rfl ?_
  refine go_if (fun c22 => ?_) (fun c22 => ?_)
  · refine go_s 1 rfl ?_
    exact go_ret rfl rfl (am_qi q (by rfl) (by rfl))
  · refine go_s 2 rfl ?_
    refine go_st kX5_addInstruction_28 okX9_suits rfl rfl rfl (Nat.zero_le _) (Nat.zero_le _) ?_
    refine c_X9_suits ?_
    refine go_s 1 rfl ?_
    refine go_if (fun c31 => ?_) (fun c31 => ?_)
    · refine go_s 1 rfl ?_
      exact go_ret rfl rfl (am_qi q (by rfl) (by rfl))
    · refine go_s 2 rfl ?_
      refine go_st kX5_addInstruction_38 okX9_suits rfl rfl rfl (Nat.zero_le _) (Nat.zero_le _) ?_
      refine c_X9_suits ?_
      refine go_s 1 rfl ?_
      refine go_if (fun c41 => ?_) (fun c41 => ?_)
      · refine go_s 1 rfl ?_
        exact go_ret rfl rfl (am_qi q (by rfl) (by rfl))
      · refine go_s 2 rfl ?_
        refine go_st kX5_addInstruction_48 okX9_suits rfl rfl rfl (Nat.zero_le _) (Nat.zero_le _) ?_
        refine c_X9_suits ?_
        refine go_s 1 rfl ?_
        refine go_if (fun c51 => ?_) (fun c51 => ?_)
        · refine go_s 1 rfl ?_
          exact go_ret rfl rfl (am_qi q (by rfl) (by rfl))
        · refine go_s 2 rfl ?_
          refine go_v kX5_addInstruction_56 okX5_hasRoomFor rfl rfl rfl rfl (Nat.zero_le _) (Nat.zero_le _) ?_
          refine c_X5_hasRoomFor hF ?_
          refine go_s 1 rfl ?_
          refine go_if (fun c59 => ?_) (fun c59 => ?_)
          · refine go_s 1 rfl ?_
            exact go_ret rfl rfl (am_qi q (by rfl) (by rfl))
          · exact absurd ⟨zb_ne.mp c22, c31, c41, c51, zb_ne.mp c59⟩ hn
theorem c_X5_addInstruction_ok {D : Nat → Nat → Int32} {e : am_E} {kc ks : Nat} {Q : am_Q} {n a b c : Int32} {ff F : Nat} (hF : (D 1 5).toInt ≤ 24) (hF24 : F ≤ 24) (hff : ff < F) (hD : D 1 5 = nI F) (hk : am_pok D (nI ff) n a b c) (m1 : ¬ am_end D (nI ff) < 0) (m2 : ¬ am_end D (nI ff) + 1 < 0) (m4 : (am_end D (nI ff)).toNatClampNeg + (D 1 6 - am_end D (nI ff)).toNatClampNeg ≤ 300) (m5 : (am_end D (nI ff) + 1).toNatClampNeg + (D 1 6 - am_end D (nI ff)).toNatClampNeg ≤ 300) (hv : vp_in (am_end D (nI ff)) 300) (q : Q (some (.int (am_end D (nI ff) - am_pt2 D ff F n a b c 6 (nI ff).toNatClampNeg))) (hp (am_u (am_u (am_pt2 D ff F n a b c) 1 6 (am_pt2 D ff F n a b c 1 6 + 1)) 1 7 (am_pt2 D ff F n a b c 1 7 + 1)) e)) : am_Go (mX5_addInstruction, 0, am_ent mX5_addInstruction [.ref 1, .int (nI ff), .int n, .int a, .int b, .int c], [], hp D e, kc, ks, Q) := by
  refine go_s 1 rfl ?_
  refine go_st kX5_addInstruction_1 okX9_kindOfA rfl rfl rfl (Nat.zero_le _) (Nat.zero_le _) ?_
  refine c_X9_kindOfA ?_
  refine go_s 2 rfl ?_
  refine go_st kX5_addInstruction_7 okX9_kindOfB rfl rfl rfl (Nat.zero_le _) (Nat.zero_le _) ?_
  refine c_X9_kindOfB ?_
  refine go_s 2 rfl ?_
  refine go_st kX5_addInstruction_13 okX9_kindOfC rfl rfl rfl (Nat.zero_le _) (Nat.zero_le _) ?_
  refine c_X9_kindOfC ?_
  refine go_s 2 rfl ?_
  refine go_st kX5_addInstruction_19 okX9_isNumber rfl rfl rfl (Nat.zero_le _) (Nat.zero_le _) ?_
  refine c_X9_isNumber ?_
  refine go_s 1 rfl ?_
  refine go_if (fun c22 => absurd c22 (zb_ne.mpr hk.1)) (fun c22 => ?_)
  refine go_s 2 rfl ?_
  refine go_st kX5_addInstruction_28 okX9_suits rfl rfl rfl (Nat.zero_le _) (Nat.zero_le _) ?_
  refine c_X9_suits ?_
  refine go_s 1 rfl ?_
  refine go_if (fun c31 => absurd c31 hk.2.1) (fun c31 => ?_)
  refine go_s 2 rfl ?_
  refine go_st kX5_addInstruction_38 okX9_suits rfl rfl rfl (Nat.zero_le _) (Nat.zero_le _) ?_
  refine c_X9_suits ?_
  refine go_s 1 rfl ?_
  refine go_if (fun c41 => absurd c41 hk.2.2.1) (fun c41 => ?_)
  refine go_s 2 rfl ?_
  refine go_st kX5_addInstruction_48 okX9_suits rfl rfl rfl (Nat.zero_le _) (Nat.zero_le _) ?_
  refine c_X9_suits ?_
  refine go_s 1 rfl ?_
  refine go_if (fun c51 => absurd c51 hk.2.2.2.1) (fun c51 => ?_)
  refine go_s 2 rfl ?_
  refine go_v kX5_addInstruction_56 okX5_hasRoomFor rfl rfl rfl rfl (Nat.zero_le _) (Nat.zero_le _) ?_
  refine c_X5_hasRoomFor hF ?_
  refine go_s 1 rfl ?_
  refine go_if (fun c59 => absurd c59 (zb_ne.mpr hk.2.2.2.2)) (fun c59 => ?_)
  refine go_s 2 rfl ?_
  refine go_v kX5_addInstruction_66 okX5_endOf rfl rfl rfl rfl (Nat.zero_le _) (Nat.zero_le _) ?_
  refine c_X5_endOf hF ?_
  refine go_s 3 rfl ?_
  refine go_v kX5_addInstruction_74 okX5_makeRoomAt rfl rfl rfl rfl (Nat.zero_le _) (Nat.zero_le _) ?_
  refine c_X5_makeRoomAt m1 m2 m4 m5 ?_
  refine go_s 4 rfl ?_
  refine go_m rfl rfl (show vp_in _ 300 from hv) ?_
  refine go_s 5 rfl ?_
  refine go_st kX5_addInstruction_94 okX9_kept rfl rfl rfl (Nat.zero_le _) (Nat.zero_le _) ?_
  refine c_X9_kept ?_
  refine go_m rfl rfl (show vp_in _ 300 from hv) ?_
  refine go_s 5 rfl ?_
  refine go_st kX5_addInstruction_108 okX9_kept rfl rfl rfl (Nat.zero_le _) (Nat.zero_le _) ?_
  refine c_X9_kept ?_
  refine go_m rfl rfl (show vp_in _ 300 from hv) ?_
  refine go_s 5 rfl ?_
  refine go_st kX5_addInstruction_122 okX9_kept rfl rfl rfl (Nat.zero_le _) (Nat.zero_le _) ?_
  refine c_X9_kept ?_
  refine go_m rfl rfl (show vp_in _ 300 from hv) ?_
  refine go_s 4 (pc' := 131) (ls' := [.ref 1, .int (nI ff), .int n, .int a, .int b, .int c, .int (am_kA n), .int (am_kB n), .int (am_kC n), .int (am_end D (nI ff)), .int (nI (ff + 1))]) (st' := []) (h' := hp (am_pt1 D (am_end D (nI ff)) n a b c) e) (by rw [← nI_1]; rfl) ?_
  have h0 := c_put_loop (e := e) (kc := kc) (ks := ks) (Q := Q) (D := am_pt1 D (am_end D (nI ff)) n a b c) (lo := ff + 1) (x1 := nI ff) (x2 := n) (x3 := a) (x4 := b) (x5 := c) (x6 := am_kA n) (x7 := am_kB n) (x8 := am_kC n) (x9 := am_end D (nI ff)) hF24 (by rw [am_pt1_1]; exact hD) (c_put_end (vp_in_nI (by omega) (by omega)) q) (F - ff) (ff + 1) (Nat.le_refl _) (by omega)
  rw [am_inc_0] at h0
  exact h0
end
section
theorem vpz {x y : Int32} {N : Nat} (h : ¬ zb (¬ x < 0 ∧ ¬ y < x) = 0) (hy : y.toInt < N) : vp_in x N := by
  have h := zb_ne.mp h
  rw [vp_in_iff]
  have h1 := Int32.le_iff_toInt_le.mp (Int32.not_lt.mp h.1)
  have h2 := Int32.le_iff_toInt_le.mp (Int32.not_lt.mp h.2)
  simp at h1
  omega
def am_mfn (D : Nat → Nat → Int32) : Int32 × (Nat → Nat → Int32) := if D 69 1 = 24 then (-1, D) else (D 69 1 + 1 - 1, am_u (am_u D 70 (D 69 1).toNatClampNeg 0) 69 1 (D 69 1 + 1))
theorem c_X12_function {D : Nat → Nat → Int32} {e : am_E} {kc ks : Nat} {Q : am_Q}  (h : ¬ D 69 1 = 24 → vp_in (D 69 1) 24) (q : Q (some (.int ((am_mfn D).1))) (hp (am_mfn D).2 e)) : am_Go (mX12_function, 0, am_ent mX12_function [.ref 69], [], hp D e, kc, ks, Q) := by
  refine go_s 4 rfl ?_
  refine go_if (fun c6 => ?_) (fun c6 => ?_)
  · refine go_s 1 rfl ?_
    exact go_ret rfl rfl (am_qp q (by exact if_pos c6))
  · refine go_s 5 rfl ?_
    refine go_m rfl rfl (show vp_in _ 24 from h c6) ?_
    refine go_s 10 rfl ?_
    exact go_ret rfl rfl (am_qp q (by exact if_neg c6))
theorem c_X12_hasRun_0 {D : Nat → Nat → Int32} {e : am_E} {kc ks : Nat} {Q : am_Q}   (q : Q (some (.int (zb (¬ D 93 0 = -1)))) (hp D e)) : am_Go (mX12_hasRun, 0, am_ent mX12_hasRun [.ref 69, .int 0], [], hp D e, kc, ks, Q) := by
  refine go_s 3 rfl ?_
  refine go_st kX12_hasRun_3 okX12_in rfl rfl rfl (Nat.zero_le _) (Nat.zero_le _) ?_
  refine c_X12_in ?_
  refine go_s 1 rfl ?_
  refine go_if (fun c6 => absurd c6 (by decide)) (fun c6 => ?_)
  refine go_s 3 rfl ?_
  refine go_m rfl rfl (show vp_in _ 2 from vp_in_nI (n := 0) (by decide) (by decide)) ?_
  refine go_s 2 rfl ?_
  refine go_if (fun c16 => ?_) (fun c16 => ?_)
  · refine go_s 1 rfl ?_
    exact go_retz rfl rfl (by first | exact Or.inl rfl | exact Or.inr rfl | exact zb_01) (am_qi q (by exact (zb_f (fun z => z c16)).symm) (by rfl))
  · refine go_s 2 rfl ?_
    exact go_retz rfl rfl (by first | exact Or.inl rfl | exact Or.inr rfl | exact zb_01) (am_qi q (by exact (zb_t c16).symm) (by rfl))
theorem c_X12_hasRun_1 {D : Nat → Nat → Int32} {e : am_E} {kc ks : Nat} {Q : am_Q}   (q : Q (some (.int (zb (¬ D 93 1 = -1)))) (hp D e)) : am_Go (mX12_hasRun, 0, am_ent mX12_hasRun [.ref 69, .int 1], [], hp D e, kc, ks, Q) := by
  refine go_s 3 rfl ?_
  refine go_st kX12_hasRun_3 okX12_in rfl rfl rfl (Nat.zero_le _) (Nat.zero_le _) ?_
  refine c_X12_in ?_
  refine go_s 1 rfl ?_
  refine go_if (fun c6 => absurd c6 (by decide)) (fun c6 => ?_)
  refine go_s 3 rfl ?_
  refine go_m rfl rfl (show vp_in _ 2 from vp_in_nI (n := 1) (by decide) (by decide)) ?_
  refine go_s 2 rfl ?_
  refine go_if (fun c16 => ?_) (fun c16 => ?_)
  · refine go_s 1 rfl ?_
    exact go_retz rfl rfl (by first | exact Or.inl rfl | exact Or.inr rfl | exact zb_01) (am_qi q (by exact (zb_f (fun z => z c16)).symm) (by rfl))
  · refine go_s 2 rfl ?_
    exact go_retz rfl rfl (by first | exact Or.inl rfl | exact Or.inr rfl | exact zb_01) (am_qi q (by exact (zb_t c16).symm) (by rfl))
theorem c_X12_hasRun_x {D : Nat → Nat → Int32} {e : am_E} {kc ks : Nat} {Q : am_Q} {w : Int32} (hw : zb (¬ w < 0 ∧ ¬ 1 < w) = 0) (q : Q (some (.int (0))) (hp D e)) : am_Go (mX12_hasRun, 0, am_ent mX12_hasRun [.ref 69, .int w], [], hp D e, kc, ks, Q) := by
  refine go_s 3 rfl ?_
  refine go_st kX12_hasRun_3 okX12_in rfl rfl rfl (Nat.zero_le _) (Nat.zero_le _) ?_
  refine c_X12_in ?_
  refine go_s 1 rfl ?_
  refine go_if (fun c6 => ?_) (fun c6 => absurd hw c6)
  refine go_s 1 rfl ?_
  exact go_retz rfl rfl (by first | exact Or.inl rfl | exact Or.inr rfl | exact zb_01) (am_qi q (by rfl) (by rfl))
theorem c_X12_ran_0 {D : Nat → Nat → Int32} {e : am_E} {kc ks : Nat} {Q : am_Q} {v : Int32}  (q : Q (some (.int (if zb (¬ D 93 0 = -1) = 0 then -1 else if v = 0 then D 93 0 else if v = 1 then D 94 0 else if v = 2 then D 95 0 else if v = 3 then D 96 0 else if v = 4 then D 97 0 else -1))) (hp D e)) : am_Go (mX12_ran, 0, am_ent mX12_ran [.ref 69, .int 0, .int v], [], hp D e, kc, ks, Q) := by
  refine go_s 2 rfl ?_
  refine go_v kX12_ran_2 okX12_hasRun rfl rfl rfl rfl (Nat.zero_le _) (Nat.zero_le _) ?_
  refine c_X12_hasRun_0 ?_
  refine go_s 1 rfl ?_
  refine go_if (fun c5 => ?_) (fun c5 => ?_)
  · refine go_s 1 rfl ?_
    exact go_ret rfl rfl (am_qi q (by exact (if_pos c5).symm) (by rfl))
  · refine go_s 2 rfl ?_
    refine go_if (fun c11_0 => ?_) (fun c11_0 => ?_)
    · refine go_s 3 rfl ?_
      refine go_m rfl rfl (show vp_in _ 2 from vp_in_nI (n := 0) (by decide) (by decide)) ?_
      exact go_ret rfl rfl (am_qi q (by exact ((if_neg c5).trans (if_pos c11_0)).symm) (by rfl))
    · refine go_if (fun c11_1 => ?_) (fun c11_1 => ?_)
      · refine go_s 3 rfl ?_
        refine go_m rfl rfl (show vp_in _ 2 from vp_in_nI (n := 0) (by decide) (by decide)) ?_
        exact go_ret rfl rfl (am_qi q (by exact ((if_neg c5).trans ((if_neg c11_0).trans (if_pos c11_1))).symm) (by rfl))
      · refine go_if (fun c11_2 => ?_) (fun c11_2 => ?_)
        · refine go_s 3 rfl ?_
          refine go_m rfl rfl (show vp_in _ 2 from vp_in_nI (n := 0) (by decide) (by decide)) ?_
          exact go_ret rfl rfl (am_qi q (by exact ((if_neg c5).trans ((if_neg c11_0).trans ((if_neg c11_1).trans (if_pos c11_2)))).symm) (by rfl))
        · refine go_if (fun c11_3 => ?_) (fun c11_3 => ?_)
          · refine go_s 3 rfl ?_
            refine go_m rfl rfl (show vp_in _ 2 from vp_in_nI (n := 0) (by decide) (by decide)) ?_
            exact go_ret rfl rfl (am_qi q (by exact ((if_neg c5).trans ((if_neg c11_0).trans ((if_neg c11_1).trans ((if_neg c11_2).trans (if_pos c11_3))))).symm) (by rfl))
          · refine go_if (fun c11_4 => ?_) (fun c11_4 => ?_)
            · refine go_s 2 rfl ?_
              refine go_if (fun c73 => ?_) (fun c73 => absurd (by decide) c73)
              refine go_s 3 rfl ?_
              refine go_m rfl rfl (show vp_in _ 2 from vp_in_nI (n := 0) (by decide) (by decide)) ?_
              refine go_s 1 rfl ?_
              exact go_ret rfl rfl (am_qi q (by exact ((if_neg c5).trans ((if_neg c11_0).trans ((if_neg c11_1).trans ((if_neg c11_2).trans ((if_neg c11_3).trans (if_pos c11_4)))))).symm) (by rfl))
            · refine go_s 1 rfl ?_
              exact go_ret rfl rfl (am_qi q (by exact ((if_neg c5).trans ((if_neg c11_0).trans ((if_neg c11_1).trans ((if_neg c11_2).trans ((if_neg c11_3).trans (if_neg c11_4)))))).symm) (by rfl))
theorem c_X12_printed_0 {D : Nat → Nat → Int32} {e : am_E} {kc ks : Nat} {Q : am_Q} {i : Int32}  (q : Q (some (.int (if ¬ zb (¬ D 93 0 = -1) = 0 ∧ ¬ i < 0 ∧ i < 200 ∧ i < D 95 0 then D 99 i.toNatClampNeg else 0))) (hp D e)) : am_Go (mX12_printed, 0, am_ent mX12_printed [.ref 69, .int 0, .int i], [], hp D e, kc, ks, Q) := by
  refine go_s 2 rfl ?_
  refine go_v kX12_printed_2 okX12_hasRun rfl rfl rfl rfl (Nat.zero_le _) (Nat.zero_le _) ?_
  refine c_X12_hasRun_0 ?_
  refine go_s 1 rfl ?_
  refine go_if (fun c5 => ?_) (fun c5 => ?_)
  · refine go_s 1 rfl ?_
    exact go_ret rfl rfl (am_qi q (by exact (if_neg (fun z => absurd c5 z.1)).symm) (by rfl))
  · refine go_s 2 rfl ?_
    refine go_if (fun c9 => ?_) (fun c9 => ?_)
    · refine go_s 1 rfl ?_
      exact go_ret rfl rfl (am_qi q (by exact (if_neg (fun z => absurd c9 z.2.1)).symm) (by rfl))
    · refine go_s 3 rfl ?_
      refine go_if (fun c16 => ?_) (fun c16 => ?_)
      · refine go_s 4 rfl ?_
        refine go_m rfl rfl (show vp_in _ 2 from vp_in_nI (n := 0) (by decide) (by decide)) ?_
        refine go_s 1 rfl ?_
        refine go_if (fun c26 => ?_) (fun c26 => ?_)
        · refine go_s 3 rfl ?_
          refine go_m rfl rfl (show vp_in _ 2 from vp_in_nI (n := 0) (by decide) (by decide)) ?_
          refine go_s 1 rfl ?_
          refine go_m rfl rfl (show vp_in _ 200 from vpn (y := 200) c9 c16 (by decide)) ?_
          refine go_s 1 rfl ?_
          exact go_ret rfl rfl (am_qi q (by exact (if_pos ⟨c5, c9, c16, c26⟩).symm) (by rfl))
        · refine go_s 1 rfl ?_
          exact go_ret rfl rfl (am_qi q (by exact (if_neg (fun z => absurd z.2.2.2 c26)).symm) (by rfl))
      · refine go_s 1 rfl ?_
        exact go_ret rfl rfl (am_qi q (by exact (if_neg (fun z => absurd z.2.2.1 c16)).symm) (by rfl))
theorem c_X12_register_0 {D : Nat → Nat → Int32} {e : am_E} {kc ks : Nat} {Q : am_Q} {k : Int32}  (q : Q (some (.int (if ¬ zb (¬ D 93 0 = -1) = 0 ∧ ¬ zb (¬ k < 0 ∧ ¬ 31 < k) = 0 ∧ D 107 k.toNatClampNeg = 0 then D 102 k.toNatClampNeg else 0))) (hp D e)) : am_Go (mX12_register, 0, am_ent mX12_register [.ref 69, .int 0, .int k], [], hp D e, kc, ks, Q) := by
  refine go_s 2 rfl ?_
  refine go_v kX12_register_2 okX12_hasRun rfl rfl rfl rfl (Nat.zero_le _) (Nat.zero_le _) ?_
  refine c_X12_hasRun_0 ?_
  refine go_s 1 rfl ?_
  refine go_if (fun c5 => ?_) (fun c5 => ?_)
  · refine go_s 1 rfl ?_
    exact go_ret rfl rfl (am_qi q (by exact (if_neg (fun z => absurd c5 z.1)).symm) (by rfl))
  · refine go_s 3 rfl ?_
    refine go_st kX12_register_12 okX12_in rfl rfl rfl (Nat.zero_le _) (Nat.zero_le _) ?_
    refine c_X12_in ?_
    refine go_s 1 rfl ?_
    refine go_if (fun c15 => ?_) (fun c15 => ?_)
    · refine go_s 1 rfl ?_
      exact go_ret rfl rfl (am_qi q (by exact (if_neg (fun z => absurd c15 z.2.1)).symm) (by rfl))
    · refine go_s 2 rfl ?_
      refine go_if (fun c19 => ?_) (fun c19 => absurd (by decide) c19)
      refine go_s 3 rfl ?_
      refine go_m rfl rfl (show vp_in _ 32 from vpz (y := 31) c15 (by decide)) ?_
      refine go_s 1 rfl ?_
      refine go_if (fun c28 => ?_) (fun c28 => ?_)
      · refine go_s 3 rfl ?_
        refine go_m rfl rfl (show vp_in _ 2 from vp_in_nI (n := 0) (by decide) (by decide)) ?_
        refine go_s 1 rfl ?_
        refine go_m rfl rfl (show vp_in _ 32 from vpz (y := 31) c15 (by decide)) ?_
        exact go_ret rfl rfl (am_qi q (by exact (if_pos ⟨c5, c15, c28⟩).symm) (by rfl))
      · refine go_s 1 rfl ?_
        exact go_ret rfl rfl (am_qi q (by exact (if_neg (fun z => absurd z.2.2 c28)).symm) (by rfl))
theorem c_X12_memory_0 {D : Nat → Nat → Int32} {e : am_E} {kc ks : Nat} {Q : am_Q} {k : Int32}  (q : Q (some (.int (if ¬ zb (¬ D 93 0 = -1) = 0 ∧ ¬ zb (¬ k < 0 ∧ ¬ 63 < k) = 0 ∧ D 108 k.toNatClampNeg = 0 then D 105 k.toNatClampNeg else 0))) (hp D e)) : am_Go (mX12_memory, 0, am_ent mX12_memory [.ref 69, .int 0, .int k], [], hp D e, kc, ks, Q) := by
  refine go_s 2 rfl ?_
  refine go_v kX12_memory_2 okX12_hasRun rfl rfl rfl rfl (Nat.zero_le _) (Nat.zero_le _) ?_
  refine c_X12_hasRun_0 ?_
  refine go_s 1 rfl ?_
  refine go_if (fun c5 => ?_) (fun c5 => ?_)
  · refine go_s 1 rfl ?_
    exact go_ret rfl rfl (am_qi q (by exact (if_neg (fun z => absurd c5 z.1)).symm) (by rfl))
  · refine go_s 3 rfl ?_
    refine go_st kX12_memory_12 okX12_in rfl rfl rfl (Nat.zero_le _) (Nat.zero_le _) ?_
    refine c_X12_in ?_
    refine go_s 1 rfl ?_
    refine go_if (fun c15 => ?_) (fun c15 => ?_)
    · refine go_s 1 rfl ?_
      exact go_ret rfl rfl (am_qi q (by exact (if_neg (fun z => absurd c15 z.2.1)).symm) (by rfl))
    · refine go_s 2 rfl ?_
      refine go_if (fun c19 => ?_) (fun c19 => absurd (by decide) c19)
      refine go_s 3 rfl ?_
      refine go_m rfl rfl (show vp_in _ 64 from vpz (y := 63) c15 (by decide)) ?_
      refine go_s 1 rfl ?_
      refine go_if (fun c28 => ?_) (fun c28 => ?_)
      · refine go_s 3 rfl ?_
        refine go_m rfl rfl (show vp_in _ 2 from vp_in_nI (n := 0) (by decide) (by decide)) ?_
        refine go_s 1 rfl ?_
        refine go_m rfl rfl (show vp_in _ 64 from vpz (y := 63) c15 (by decide)) ?_
        exact go_ret rfl rfl (am_qi q (by exact (if_pos ⟨c5, c15, c28⟩).symm) (by rfl))
      · refine go_s 1 rfl ?_
        exact go_ret rfl rfl (am_qi q (by exact (if_neg (fun z => absurd z.2.2 c28)).symm) (by rfl))
theorem c_X12_ran_1 {D : Nat → Nat → Int32} {e : am_E} {kc ks : Nat} {Q : am_Q} {v : Int32}  (q : Q (some (.int (if zb (¬ D 93 1 = -1) = 0 then -1 else if v = 0 then D 93 1 else if v = 1 then D 94 1 else if v = 2 then D 95 1 else if v = 3 then D 96 1 else if v = 4 then -1 else -1))) (hp D e)) : am_Go (mX12_ran, 0, am_ent mX12_ran [.ref 69, .int 1, .int v], [], hp D e, kc, ks, Q) := by
  refine go_s 2 rfl ?_
  refine go_v kX12_ran_2 okX12_hasRun rfl rfl rfl rfl (Nat.zero_le _) (Nat.zero_le _) ?_
  refine c_X12_hasRun_1 ?_
  refine go_s 1 rfl ?_
  refine go_if (fun c5 => ?_) (fun c5 => ?_)
  · refine go_s 1 rfl ?_
    exact go_ret rfl rfl (am_qi q (by exact (if_pos c5).symm) (by rfl))
  · refine go_s 2 rfl ?_
    refine go_if (fun c11_0 => ?_) (fun c11_0 => ?_)
    · refine go_s 3 rfl ?_
      refine go_m rfl rfl (show vp_in _ 2 from vp_in_nI (n := 1) (by decide) (by decide)) ?_
      exact go_ret rfl rfl (am_qi q (by exact ((if_neg c5).trans (if_pos c11_0)).symm) (by rfl))
    · refine go_if (fun c11_1 => ?_) (fun c11_1 => ?_)
      · refine go_s 3 rfl ?_
        refine go_m rfl rfl (show vp_in _ 2 from vp_in_nI (n := 1) (by decide) (by decide)) ?_
        exact go_ret rfl rfl (am_qi q (by exact ((if_neg c5).trans ((if_neg c11_0).trans (if_pos c11_1))).symm) (by rfl))
      · refine go_if (fun c11_2 => ?_) (fun c11_2 => ?_)
        · refine go_s 3 rfl ?_
          refine go_m rfl rfl (show vp_in _ 2 from vp_in_nI (n := 1) (by decide) (by decide)) ?_
          exact go_ret rfl rfl (am_qi q (by exact ((if_neg c5).trans ((if_neg c11_0).trans ((if_neg c11_1).trans (if_pos c11_2)))).symm) (by rfl))
        · refine go_if (fun c11_3 => ?_) (fun c11_3 => ?_)
          · refine go_s 3 rfl ?_
            refine go_m rfl rfl (show vp_in _ 2 from vp_in_nI (n := 1) (by decide) (by decide)) ?_
            exact go_ret rfl rfl (am_qi q (by exact ((if_neg c5).trans ((if_neg c11_0).trans ((if_neg c11_1).trans ((if_neg c11_2).trans (if_pos c11_3))))).symm) (by rfl))
          · refine go_if (fun c11_4 => ?_) (fun c11_4 => ?_)
            · refine go_s 2 rfl ?_
              refine go_if (fun c73 => absurd c73 (by decide)) (fun c73 => ?_)
              refine go_s 1 rfl ?_
              exact go_ret rfl rfl (am_qi q (by exact ((if_neg c5).trans ((if_neg c11_0).trans ((if_neg c11_1).trans ((if_neg c11_2).trans ((if_neg c11_3).trans (if_pos c11_4)))))).symm) (by rfl))
            · refine go_s 1 rfl ?_
              exact go_ret rfl rfl (am_qi q (by exact ((if_neg c5).trans ((if_neg c11_0).trans ((if_neg c11_1).trans ((if_neg c11_2).trans ((if_neg c11_3).trans (if_neg c11_4)))))).symm) (by rfl))
theorem c_X12_printed_1 {D : Nat → Nat → Int32} {e : am_E} {kc ks : Nat} {Q : am_Q} {i : Int32}  (q : Q (some (.int (if ¬ zb (¬ D 93 1 = -1) = 0 ∧ ¬ i < 0 ∧ i < 200 ∧ i < D 95 1 then D 100 i.toNatClampNeg else 0))) (hp D e)) : am_Go (mX12_printed, 0, am_ent mX12_printed [.ref 69, .int 1, .int i], [], hp D e, kc, ks, Q) := by
  refine go_s 2 rfl ?_
  refine go_v kX12_printed_2 okX12_hasRun rfl rfl rfl rfl (Nat.zero_le _) (Nat.zero_le _) ?_
  refine c_X12_hasRun_1 ?_
  refine go_s 1 rfl ?_
  refine go_if (fun c5 => ?_) (fun c5 => ?_)
  · refine go_s 1 rfl ?_
    exact go_ret rfl rfl (am_qi q (by exact (if_neg (fun z => absurd c5 z.1)).symm) (by rfl))
  · refine go_s 2 rfl ?_
    refine go_if (fun c9 => ?_) (fun c9 => ?_)
    · refine go_s 1 rfl ?_
      exact go_ret rfl rfl (am_qi q (by exact (if_neg (fun z => absurd c9 z.2.1)).symm) (by rfl))
    · refine go_s 3 rfl ?_
      refine go_if (fun c16 => ?_) (fun c16 => ?_)
      · refine go_s 4 rfl ?_
        refine go_m rfl rfl (show vp_in _ 2 from vp_in_nI (n := 1) (by decide) (by decide)) ?_
        refine go_s 1 rfl ?_
        refine go_if (fun c26 => ?_) (fun c26 => ?_)
        · refine go_s 3 rfl ?_
          refine go_m rfl rfl (show vp_in _ 2 from vp_in_nI (n := 1) (by decide) (by decide)) ?_
          refine go_s 1 rfl ?_
          refine go_m rfl rfl (show vp_in _ 200 from vpn (y := 200) c9 c16 (by decide)) ?_
          refine go_s 1 rfl ?_
          exact go_ret rfl rfl (am_qi q (by exact (if_pos ⟨c5, c9, c16, c26⟩).symm) (by rfl))
        · refine go_s 1 rfl ?_
          exact go_ret rfl rfl (am_qi q (by exact (if_neg (fun z => absurd z.2.2.2 c26)).symm) (by rfl))
      · refine go_s 1 rfl ?_
        exact go_ret rfl rfl (am_qi q (by exact (if_neg (fun z => absurd z.2.2.1 c16)).symm) (by rfl))
theorem c_X12_register_1 {D : Nat → Nat → Int32} {e : am_E} {kc ks : Nat} {Q : am_Q} {k : Int32}  (q : Q (some (.int (if ¬ zb (¬ D 93 1 = -1) = 0 ∧ ¬ zb (¬ k < 0 ∧ ¬ 31 < k) = 0 then D 103 k.toNatClampNeg else 0))) (hp D e)) : am_Go (mX12_register, 0, am_ent mX12_register [.ref 69, .int 1, .int k], [], hp D e, kc, ks, Q) := by
  refine go_s 2 rfl ?_
  refine go_v kX12_register_2 okX12_hasRun rfl rfl rfl rfl (Nat.zero_le _) (Nat.zero_le _) ?_
  refine c_X12_hasRun_1 ?_
  refine go_s 1 rfl ?_
  refine go_if (fun c5 => ?_) (fun c5 => ?_)
  · refine go_s 1 rfl ?_
    exact go_ret rfl rfl (am_qi q (by exact (if_neg (fun z => absurd c5 z.1)).symm) (by rfl))
  · refine go_s 3 rfl ?_
    refine go_st kX12_register_12 okX12_in rfl rfl rfl (Nat.zero_le _) (Nat.zero_le _) ?_
    refine c_X12_in ?_
    refine go_s 1 rfl ?_
    refine go_if (fun c15 => ?_) (fun c15 => ?_)
    · refine go_s 1 rfl ?_
      exact go_ret rfl rfl (am_qi q (by exact (if_neg (fun z => absurd c15 z.2)).symm) (by rfl))
    · refine go_s 2 rfl ?_
      refine go_if (fun c19 => absurd c19 (by decide)) (fun c19 => ?_)
      refine go_s 3 rfl ?_
      refine go_m rfl rfl (show vp_in _ 2 from vp_in_nI (n := 1) (by decide) (by decide)) ?_
      refine go_s 1 rfl ?_
      refine go_m rfl rfl (show vp_in _ 32 from vpz (y := 31) c15 (by decide)) ?_
      exact go_ret rfl rfl (am_qi q (by exact (if_pos ⟨c5, c15⟩).symm) (by rfl))
theorem c_X12_memory_1 {D : Nat → Nat → Int32} {e : am_E} {kc ks : Nat} {Q : am_Q} {k : Int32}  (q : Q (some (.int (if ¬ zb (¬ D 93 1 = -1) = 0 ∧ ¬ zb (¬ k < 0 ∧ ¬ 63 < k) = 0 then D 106 k.toNatClampNeg else 0))) (hp D e)) : am_Go (mX12_memory, 0, am_ent mX12_memory [.ref 69, .int 1, .int k], [], hp D e, kc, ks, Q) := by
  refine go_s 2 rfl ?_
  refine go_v kX12_memory_2 okX12_hasRun rfl rfl rfl rfl (Nat.zero_le _) (Nat.zero_le _) ?_
  refine c_X12_hasRun_1 ?_
  refine go_s 1 rfl ?_
  refine go_if (fun c5 => ?_) (fun c5 => ?_)
  · refine go_s 1 rfl ?_
    exact go_ret rfl rfl (am_qi q (by exact (if_neg (fun z => absurd c5 z.1)).symm) (by rfl))
  · refine go_s 3 rfl ?_
    refine go_st kX12_memory_12 okX12_in rfl rfl rfl (Nat.zero_le _) (Nat.zero_le _) ?_
    refine c_X12_in ?_
    refine go_s 1 rfl ?_
    refine go_if (fun c15 => ?_) (fun c15 => ?_)
    · refine go_s 1 rfl ?_
      exact go_ret rfl rfl (am_qi q (by exact (if_neg (fun z => absurd c15 z.2)).symm) (by rfl))
    · refine go_s 2 rfl ?_
      refine go_if (fun c19 => absurd c19 (by decide)) (fun c19 => ?_)
      refine go_s 3 rfl ?_
      refine go_m rfl rfl (show vp_in _ 2 from vp_in_nI (n := 1) (by decide) (by decide)) ?_
      refine go_s 1 rfl ?_
      refine go_m rfl rfl (show vp_in _ 64 from vpz (y := 63) c15 (by decide)) ?_
      exact go_ret rfl rfl (am_qi q (by exact (if_pos ⟨c5, c15⟩).symm) (by rfl))
theorem c_X12_printed_x {D : Nat → Nat → Int32} {e : am_E} {kc ks : Nat} {Q : am_Q} {w k : Int32} (hw : zb (¬ w < 0 ∧ ¬ 1 < w) = 0) (q : Q (some (.int (0))) (hp D e)) : am_Go (mX12_printed, 0, am_ent mX12_printed [.ref 69, .int w, .int k], [], hp D e, kc, ks, Q) := by
  refine go_s 2 rfl ?_
  refine go_v kX12_printed_2 okX12_hasRun rfl rfl rfl rfl (Nat.zero_le _) (Nat.zero_le _) ?_
  refine c_X12_hasRun_x hw ?_
  refine go_s 1 rfl ?_
  refine go_if (fun c5 => ?_) (fun c5 => absurd rfl c5)
  refine go_s 1 rfl ?_
  exact go_ret rfl rfl (am_qi q (by rfl) (by rfl))
theorem c_X12_register_x {D : Nat → Nat → Int32} {e : am_E} {kc ks : Nat} {Q : am_Q} {w k : Int32} (hw : zb (¬ w < 0 ∧ ¬ 1 < w) = 0) (q : Q (some (.int (0))) (hp D e)) : am_Go (mX12_register, 0, am_ent mX12_register [.ref 69, .int w, .int k], [], hp D e, kc, ks, Q) := by
  refine go_s 2 rfl ?_
  refine go_v kX12_register_2 okX12_hasRun rfl rfl rfl rfl (Nat.zero_le _) (Nat.zero_le _) ?_
  refine c_X12_hasRun_x hw ?_
  refine go_s 1 rfl ?_
  refine go_if (fun c5 => ?_) (fun c5 => absurd rfl c5)
  refine go_s 1 rfl ?_
  exact go_ret rfl rfl (am_qi q (by rfl) (by rfl))
theorem c_X12_memory_x {D : Nat → Nat → Int32} {e : am_E} {kc ks : Nat} {Q : am_Q} {w k : Int32} (hw : zb (¬ w < 0 ∧ ¬ 1 < w) = 0) (q : Q (some (.int (0))) (hp D e)) : am_Go (mX12_memory, 0, am_ent mX12_memory [.ref 69, .int w, .int k], [], hp D e, kc, ks, Q) := by
  refine go_s 2 rfl ?_
  refine go_v kX12_memory_2 okX12_hasRun rfl rfl rfl rfl (Nat.zero_le _) (Nat.zero_le _) ?_
  refine c_X12_hasRun_x hw ?_
  refine go_s 1 rfl ?_
  refine go_if (fun c5 => ?_) (fun c5 => absurd rfl c5)
  refine go_s 1 rfl ?_
  exact go_ret rfl rfl (am_qi q (by rfl) (by rfl))
theorem c_X12_ran_x {D : Nat → Nat → Int32} {e : am_E} {kc ks : Nat} {Q : am_Q} {w k : Int32} (hw : zb (¬ w < 0 ∧ ¬ 1 < w) = 0) (q : Q (some (.int (-1))) (hp D e)) : am_Go (mX12_ran, 0, am_ent mX12_ran [.ref 69, .int w, .int k], [], hp D e, kc, ks, Q) := by
  refine go_s 2 rfl ?_
  refine go_v kX12_ran_2 okX12_hasRun rfl rfl rfl rfl (Nat.zero_le _) (Nat.zero_le _) ?_
  refine c_X12_hasRun_x hw ?_
  refine go_s 1 rfl ?_
  refine go_if (fun c5 => ?_) (fun c5 => absurd rfl c5)
  refine go_s 1 rfl ?_
  exact go_ret rfl rfl (am_qi q (by rfl) (by rfl))
end
section
def am_mgv (D : Nat → Nat → Int32) (r v : Int32) : Nat → Nat → Int32 := if r = 0 then D else am_u D 103 r.toNatClampNeg v
def am_mst (D : Nat → Nat → Int32) (r s v : Int32) : Nat → Nat → Int32 := if r = 0 then D else am_u (am_u D 102 r.toNatClampNeg v) 107 r.toNatClampNeg s
def am_mpn (D : Nat → Nat → Int32) (w o : Nat) (v : Int32) : Nat → Nat → Int32 := am_u (if D 95 w < 200 then am_u D o (D 95 w).toNatClampNeg v else D) 95 w ((if D 95 w < 200 then am_u D o (D 95 w).toNatClampNeg v else D) 95 w + 1)
theorem c_X12_give {D : Nat → Nat → Int32} {e : am_E} {kc ks : Nat} {Q : am_Q} {r v : Int32} (h : vp_in r 32) (q : Q none (hp (am_mgv D r v) e)) : am_Go (mX12_give, 0, am_ent mX12_give [.ref 69, .int r, .int v], [], hp D e, kc, ks, Q) := by
  refine go_s 2 rfl ?_
  refine go_if (fun c1 => ?_) (fun c1 => ?_)
  · exact go_retv rfl rfl (am_qv q (by first | exact am_hD (if_pos c1).symm | exact am_hD (if_neg c1).symm))
  · refine go_s 3 rfl ?_
    refine go_m rfl rfl (show vp_in _ 2 from vp_in_nI (n := 1) (by decide) (by decide)) ?_
    refine go_s 2 rfl ?_
    refine go_m rfl rfl (show vp_in _ 32 from h) ?_
    exact go_retv rfl rfl (am_qv q (by first | exact am_hD (if_pos c1).symm | exact am_hD (if_neg c1).symm))
theorem c_X12_set {D : Nat → Nat → Int32} {e : am_E} {kc ks : Nat} {Q : am_Q} {r s v : Int32} (h : vp_in r 32) (q : Q none (hp (am_mst D r s v) e)) : am_Go (mX12_set, 0, am_ent mX12_set [.ref 69, .int r, .int s, .int v], [], hp D e, kc, ks, Q) := by
  refine go_s 2 rfl ?_
  refine go_if (fun c1 => ?_) (fun c1 => ?_)
  · exact go_retv rfl rfl (am_qv q (by first | exact am_hD (if_pos c1).symm | exact am_hD (if_neg c1).symm))
  · refine go_s 3 rfl ?_
    refine go_m rfl rfl (show vp_in _ 2 from vp_in_nI (n := 0) (by decide) (by decide)) ?_
    refine go_s 2 rfl ?_
    refine go_m rfl rfl (show vp_in _ 32 from h) ?_
    refine go_s 4 rfl ?_
    refine go_m rfl rfl (show vp_in _ 32 from h) ?_
    exact go_retv rfl rfl (am_qv q (by first | exact am_hD (if_pos c1).symm | exact am_hD (if_neg c1).symm))
theorem c_X12_print_0 {D : Nat → Nat → Int32} {e : am_E} {kc ks : Nat} {Q : am_Q} {v : Int32} (h : ¬ D 95 0 < 0) (q : Q none (hp (am_mpn D 0 99 v) e)) : am_Go (mX12_print, 0, am_ent mX12_print [.ref 69, .int 0, .int v], [], hp D e, kc, ks, Q) := by
  refine go_s 3 rfl ?_
  refine go_m rfl rfl (show vp_in _ 2 from vp_in_nI (n := 0) (by decide) (by decide)) ?_
  refine go_s 2 rfl ?_
  refine go_if (fun c9 => ?_) (fun c9 => ?_)
  · refine go_s 3 rfl ?_
    refine go_m rfl rfl (show vp_in _ 2 from vp_in_nI (n := 0) (by decide) (by decide)) ?_
    refine go_s 3 rfl ?_
    refine go_m rfl rfl (show vp_in _ 2 from vp_in_nI (n := 0) (by decide) (by decide)) ?_
    refine go_s 1 rfl ?_
    refine go_m rfl rfl (show vp_in _ 200 from vpn (y := 200) h c9 (by decide)) ?_
    refine go_s 4 rfl ?_
    refine go_m rfl rfl (show vp_in _ 2 from vp_in_nI (n := 0) (by decide) (by decide)) ?_
    refine go_s 2 rfl ?_
    refine go_m rfl rfl (show vp_in _ 2 from vp_in_nI (n := 0) (by decide) (by decide)) ?_
    exact go_retv rfl rfl (am_qv q (by first | (have c9 : D 95 0 < 200 := c9; unfold am_mpn; rw [if_pos c9]; rfl) | (have c9 : ¬ D 95 0 < 200 := c9; unfold am_mpn; rw [if_neg c9]; rfl)))
  · refine go_s 4 rfl ?_
    refine go_m rfl rfl (show vp_in _ 2 from vp_in_nI (n := 0) (by decide) (by decide)) ?_
    refine go_s 2 rfl ?_
    refine go_m rfl rfl (show vp_in _ 2 from vp_in_nI (n := 0) (by decide) (by decide)) ?_
    exact go_retv rfl rfl (am_qv q (by first | (have c9 : D 95 0 < 200 := c9; unfold am_mpn; rw [if_pos c9]; rfl) | (have c9 : ¬ D 95 0 < 200 := c9; unfold am_mpn; rw [if_neg c9]; rfl)))
theorem c_X12_print_1 {D : Nat → Nat → Int32} {e : am_E} {kc ks : Nat} {Q : am_Q} {v : Int32} (h : ¬ D 95 1 < 0) (q : Q none (hp (am_mpn D 1 100 v) e)) : am_Go (mX12_print, 0, am_ent mX12_print [.ref 69, .int 1, .int v], [], hp D e, kc, ks, Q) := by
  refine go_s 3 rfl ?_
  refine go_m rfl rfl (show vp_in _ 2 from vp_in_nI (n := 1) (by decide) (by decide)) ?_
  refine go_s 2 rfl ?_
  refine go_if (fun c9 => ?_) (fun c9 => ?_)
  · refine go_s 3 rfl ?_
    refine go_m rfl rfl (show vp_in _ 2 from vp_in_nI (n := 1) (by decide) (by decide)) ?_
    refine go_s 3 rfl ?_
    refine go_m rfl rfl (show vp_in _ 2 from vp_in_nI (n := 1) (by decide) (by decide)) ?_
    refine go_s 1 rfl ?_
    refine go_m rfl rfl (show vp_in _ 200 from vpn (y := 200) h c9 (by decide)) ?_
    refine go_s 4 rfl ?_
    refine go_m rfl rfl (show vp_in _ 2 from vp_in_nI (n := 1) (by decide) (by decide)) ?_
    refine go_s 2 rfl ?_
    refine go_m rfl rfl (show vp_in _ 2 from vp_in_nI (n := 1) (by decide) (by decide)) ?_
    exact go_retv rfl rfl (am_qv q (by first | (have c9 : D 95 1 < 200 := c9; unfold am_mpn; rw [if_pos c9]; rfl) | (have c9 : ¬ D 95 1 < 200 := c9; unfold am_mpn; rw [if_neg c9]; rfl)))
  · refine go_s 4 rfl ?_
    refine go_m rfl rfl (show vp_in _ 2 from vp_in_nI (n := 1) (by decide) (by decide)) ?_
    refine go_s 2 rfl ?_
    refine go_m rfl rfl (show vp_in _ 2 from vp_in_nI (n := 1) (by decide) (by decide)) ?_
    exact go_retv rfl rfl (am_qv q (by first | (have c9 : D 95 1 < 200 := c9; unfold am_mpn; rw [if_pos c9]; rfl) | (have c9 : ¬ D 95 1 < 200 := c9; unfold am_mpn; rw [if_neg c9]; rfl)))
end
section
theorem am_shr2 (x : Int32) : (x >>> (2 : Int32)).toInt = x.toInt / 4 := by
  have h : (x >>> (2 : Int32)) = Int32.ofBitVec (x.toBitVec.sshiftRight' ((2 : Int32).toBitVec.smod 32)) := rfl
  rw [h, ← Int32.toInt_toBitVec]
  have h2 : ((2 : Int32).toBitVec.smod 32).toNat = 2 := by decide +kernel
  simp only [Int32.toBitVec_ofBitVec, BitVec.sshiftRight', h2, BitVec.toInt_sshiftRight, Int32.toInt_toBitVec, Int.shiftRight_eq_div_pow]
  rfl
theorem am_ce1 : ∀ k, k < 256 → ((nI (65536 + k) - nI (65536 + k) / 4 * 4 = 0) ↔ k % 4 = 0) ∧ (nI (65536 + k) &&& (3 : Int32) = 0 ↔ k % 4 = 0) ∧ (nI (65536 + k) - 65536) >>> (2 : Int32) = nI (k / 4) ∧ (nI (65536 + k) - 65536) / 4 = nI (k / 4) := by decide +kernel
abbrev am_ce (n : Int32) : Prop := n - n / 4 * 4 = 0 ∧ ¬ n < 65536 ∧ ¬ 65788 < n
theorem am_ce2 {n : Int32} (h : am_ce n) : ∃ k, k < 64 ∧ am_mix n = nI k ∧ (n - 65536) / 4 = nI k := by
  obtain ⟨h1, h2, h3⟩ := h
  have h2 := Int32.le_iff_toInt_le.mp (Int32.not_lt.mp h2)
  have h3 := Int32.le_iff_toInt_le.mp (Int32.not_lt.mp h3)
  have e1 : (65536 : Int32).toInt = 65536 := by decide
  have e2 : (65788 : Int32).toInt = 65788 := by decide
  rw [e1] at h2
  rw [e2] at h3
  obtain ⟨j, hj, e⟩ := nI_of (x := n) (by rw [Int32.not_lt, Int32.le_iff_toInt_le]; simp; omega)
  subst e
  rw [nI_toInt hj] at h2 h3
  obtain ⟨k, rfl⟩ := Nat.exists_eq_add_of_le (show 65536 ≤ j by omega)
  obtain ⟨a1, a2, a3, a4⟩ := am_ce1 k (by omega)
  have a0 := a1.mp h1
  refine ⟨k / 4, by omega, ?_, a4⟩
  unfold am_mix
  rw [if_pos, a3]
  rw [a3]
  exact ⟨a2.mpr a0, nI_pos' (by omega), nI_lt (a := k / 4) (b := 64) (by omega) (by omega)⟩
theorem am_ce3 {n : Int32} (h : ¬ am_ce n) : am_mix n = -1 := by
  unfold am_mix
  rw [if_neg]
  rintro ⟨h1, h2, h3⟩
  have h2 := Int32.le_iff_toInt_le.mp h2
  have h3 := Int32.lt_iff_toInt_lt.mp h3
  rw [am_shr2] at h2 h3
  have e0 : (0 : Int32).toInt = 0 := by decide
  have e1 : (64 : Int32).toInt = 64 := by decide
  rw [e0] at h2
  rw [e1] at h3
  obtain ⟨j, hj, e⟩ := nI_of (x := n - 65536) (by rw [Int32.not_lt, Int32.le_iff_toInt_le, e0]; omega)
  rw [e, nI_toInt hj] at h3
  have e' : n = nI (65536 + j) := by
    have : n = n - 65536 + 65536 := by simp
    rw [this, e, Nat.add_comm, ← nI_add]
    rfl
  subst e'
  obtain ⟨a1, a2, a3, a4⟩ := am_ce1 j (by omega)
  have a0 := a2.mp h1
  apply h
  refine ⟨a1.mpr a0, ?_, ?_⟩
  · exact nI_nlt (a := 65536 + j) (b := 65536) (by omega) (by omega)
  · exact nI_nlt (a := 65788) (b := 65536 + j) (by omega) (by omega)
theorem am_ce4 {n : Int32} (h : ¬ zb (n - n / 4 * 4 = 0 ∧ ¬ n < 65536 ∧ ¬ 65788 < n) = 0) : vp_in ((n - 65536) / 4) 64 := by
  obtain ⟨k, h1, _, h2⟩ := am_ce2 (zb_ne.mp h)
  rw [h2]
  exact vp_in_nI h1 (by decide)
theorem am_a31 (x : Int32) : vp_in (x &&& (31 : Int32)) 32 := by
  rw [vp_in_iff]
  have h : (x &&& (31 : Int32)).toInt = ((x.toBitVec.toNat % 32 : Nat) : Int) := by
    rw [← Int32.toInt_toBitVec]
    have h1 : (x &&& (31 : Int32)).toBitVec.toNat = x.toBitVec.toNat % 32 := by
      have : (x &&& (31 : Int32)).toBitVec = x.toBitVec &&& (BitVec.ofNat 32 31) := rfl
      rw [this, BitVec.toNat_and]
      exact Nat.and_two_pow_sub_one_eq_mod _ 5
    rw [BitVec.toInt_eq_toNat_of_lt (by rw [h1]; omega), h1]
  rw [h]
  omega
def am_mor (w : Int32) : Int32 := (w.toUInt32 >>> (30 : UInt32)).toInt32 &&& (1 : Int32)
def am_mir (D : Nat → Nat → Int32) (k : Int32) : Int32 := D 103 (k &&& (31 : Int32)).toNatClampNeg
def am_mld (D : Nat → Nat → Int32) (pc w : Int32) : Int32 × (Nat → Nat → Int32) := if am_ce (am_mir D (w >>> (15 : Int32)) + w >>> (20 : Int32)) then (pc + 4, am_mgv D (w >>> (7 : Int32) &&& (31 : Int32)) (D 106 ((am_mir D (w >>> (15 : Int32)) + w >>> (20 : Int32) - 65536) / 4).toNatClampNeg)) else (-1, D)
def am_msr (D : Nat → Nat → Int32) (pc w : Int32) : Int32 × (Nat → Nat → Int32) := if am_ce (am_mir D (w >>> (15 : Int32)) + (w >>> (25 : Int32) <<< (5 : Int32) ||| w >>> (7 : Int32) &&& (31 : Int32))) then (pc + 4, am_u D 106 ((am_mir D (w >>> (15 : Int32)) + (w >>> (25 : Int32) <<< (5 : Int32) ||| w >>> (7 : Int32) &&& (31 : Int32)) - 65536) / 4).toNatClampNeg (am_mir D (w >>> (20 : Int32)))) else (-1, D)
def am_mbr (D : Nat → Nat → Int32) (pc w : Int32) : Int32 × (Nat → Nat → Int32) := if am_hd (w >>> (12 : Int32) &&& (7 : Int32)) (am_mir D (w >>> (15 : Int32))) (am_mir D (w >>> (20 : Int32))) = 0 then (pc + 4, D) else (pc + (w >>> (31 : Int32) <<< (12 : Int32) ||| w <<< (4 : Int32) &&& (2048 : Int32) ||| w >>> (20 : Int32) &&& (2016 : Int32) ||| w >>> (7 : Int32) &&& (30 : Int32)), D)
def am_mis (D : Nat → Nat → Int32) (pc w : Int32) : Int32 × (Nat → Nat → Int32) := if w &&& (127 : Int32) = 3 then am_mld D pc w else if w &&& (127 : Int32) = 19 then (pc + 4, am_mgv D (w >>> (7 : Int32) &&& (31 : Int32)) (am_md (w >>> (12 : Int32) &&& (7 : Int32)) (if w >>> (12 : Int32) &&& (7 : Int32) = 5 then am_mor w else 0) (am_mir D (w >>> (15 : Int32))) (w >>> (20 : Int32)))) else if w &&& (127 : Int32) = 35 then am_msr D pc w else if w &&& (127 : Int32) = 51 then (pc + 4, am_mgv D (w >>> (7 : Int32) &&& (31 : Int32)) (am_md (w >>> (12 : Int32) &&& (7 : Int32)) (am_mor w) (am_mir D (w >>> (15 : Int32))) (am_mir D (w >>> (20 : Int32))))) else if w &&& (127 : Int32) = 55 then (pc + 4, am_mgv D (w >>> (7 : Int32) &&& (31 : Int32)) (w &&& (-4096 : Int32))) else if w &&& (127 : Int32) = 99 then am_mbr D pc w else if w &&& (127 : Int32) = 103 then ((am_mir D (w >>> (15 : Int32)) + w >>> (20 : Int32)) &&& (-2 : Int32), am_mgv D (w >>> (7 : Int32) &&& (31 : Int32)) (pc + 4)) else if w &&& (127 : Int32) = 111 then (pc + (w >>> (31 : Int32) <<< (20 : Int32) ||| w &&& (1044480 : Int32) ||| w >>> (9 : Int32) &&& (2048 : Int32) ||| w >>> (20 : Int32) &&& (2046 : Int32)), am_mgv D (w >>> (7 : Int32) &&& (31 : Int32)) (pc + 4)) else (pc + 4, am_mpn D 1 100 (D 103 10))
theorem c_X12_does_ {D : Nat → Nat → Int32} {e : am_E} {kc ks : Nat} {Q : am_Q} {pc w : Int32} (h95 : ¬ D 95 1 < 0) (q : Q (some (.int ((am_mis D pc w).1))) (hp (am_mis D pc w).2 e)) : am_Go (mX12_does_, 0, am_ent mX12_does_ [.ref 69, .int pc, .int w], [], hp D e, kc, ks, Q) := by
  refine go_s 3 rfl ?_
  refine go_m rfl rfl (show vp_in _ 2 from vp_in_nI (n := 1) (by decide) (by decide)) ?_
  refine go_s 13 rfl ?_
  refine go_m rfl rfl (show vp_in _ 32 from am_a31 _) ?_
  refine go_s 7 rfl ?_
  refine go_m rfl rfl (show vp_in _ 32 from am_a31 _) ?_
  refine go_s 15 rfl ?_
  refine go_if (fun c56_0 => ?_) (fun c56_0 => ?_)
  · refine go_s 7 rfl ?_
    refine go_st kX12_does__217 okX12_isCell rfl rfl rfl (Nat.zero_le _) (Nat.zero_le _) ?_
    refine c_X12_isCell ?_
    refine go_s 1 rfl ?_
    refine go_if (fun c220 => ?_) (fun c220 => ?_)
    · refine go_s 1 rfl ?_
      exact go_ret rfl rfl (am_qp q (by exact (if_pos c56_0).trans (if_neg (zb_0.mp c220))))
    · refine go_s 5 rfl ?_
      refine go_m rfl rfl (show vp_in _ 2 from vp_in_nI (n := 1) (by decide) (by decide)) ?_
      refine go_s 4 rfl ?_
      refine go_m rfl rfl (by decide) ?_
      refine go_m rfl rfl (show vp_in _ 64 from am_ce4 c220) ?_
      refine go_v kX12_does__243 okX12_give rfl rfl rfl rfl (Nat.zero_le _) (Nat.zero_le _) ?_
      refine c_X12_give (am_a31 _) ?_
      refine go_s 1 rfl ?_
      exact go_ret rfl rfl (am_qp q (by exact (if_pos c56_0).trans (if_pos (zb_ne.mp c220))))
  · refine go_if (fun c56_1 => ?_) (fun c56_1 => ?_)
    · refine go_s 6 rfl ?_
      refine go_if (fun c164 => ?_) (fun c164 => ?_)
      · refine go_s 10 rfl ?_
        refine go_st kX12_does__183 okX12_made rfl rfl rfl (Nat.zero_le _) (Nat.zero_le _) ?_
        refine c_X12_made ?_
        refine go_v kX12_does__186 okX12_give rfl rfl rfl rfl (Nat.zero_le _) (Nat.zero_le _) ?_
        refine c_X12_give (am_a31 _) ?_
        refine go_s 1 rfl ?_
        exact go_ret rfl rfl (am_qp q (by exact ((if_neg c56_0).trans (if_pos c56_1)).trans (congrArg (fun z => (pc + 4, am_mgv D _ (am_md _ z _ _))) (if_pos c164))))
      · refine go_s 5 rfl ?_
        refine go_st kX12_does__183 okX12_made rfl rfl rfl (Nat.zero_le _) (Nat.zero_le _) ?_
        refine c_X12_made ?_
        refine go_v kX12_does__186 okX12_give rfl rfl rfl rfl (Nat.zero_le _) (Nat.zero_le _) ?_
        refine c_X12_give (am_a31 _) ?_
        refine go_s 1 rfl ?_
        exact go_ret rfl rfl (am_qp q (by exact ((if_neg c56_0).trans (if_pos c56_1)).trans (congrArg (fun z => (pc + 4, am_mgv D _ (am_md _ z _ _))) (if_neg c164))))
    · refine go_if (fun c56_2 => ?_) (fun c56_2 => ?_)
      · refine go_s 11 rfl ?_
        refine go_st kX12_does__265 okX12_isCell rfl rfl rfl (Nat.zero_le _) (Nat.zero_le _) ?_
        refine c_X12_isCell ?_
        refine go_s 1 rfl ?_
        refine go_if (fun c268 => ?_) (fun c268 => ?_)
        · refine go_s 1 rfl ?_
          exact go_ret rfl rfl (am_qp q (by exact (if_neg c56_0).trans ((if_neg c56_1).trans ((if_pos c56_2).trans (if_neg (zb_0.mp c268))))))
        · refine go_s 3 rfl ?_
          refine go_m rfl rfl (show vp_in _ 2 from vp_in_nI (n := 1) (by decide) (by decide)) ?_
          refine go_s 4 rfl ?_
          refine go_m rfl rfl (by decide) ?_
          refine go_s 1 rfl ?_
          refine go_m rfl rfl (show vp_in _ 64 from am_ce4 c268) ?_
          refine go_s 1 rfl ?_
          exact go_ret rfl rfl (am_qp q (by exact (if_neg c56_0).trans ((if_neg c56_1).trans ((if_pos c56_2).trans (if_pos (zb_ne.mp c268))))))
      · refine go_if (fun c56_3 => ?_) (fun c56_3 => ?_)
        · refine go_s 10 rfl ?_
          refine go_st kX12_does__147 okX12_made rfl rfl rfl (Nat.zero_le _) (Nat.zero_le _) ?_
          refine c_X12_made ?_
          refine go_v kX12_does__150 okX12_give rfl rfl rfl rfl (Nat.zero_le _) (Nat.zero_le _) ?_
          refine c_X12_give (am_a31 _) ?_
          refine go_s 1 rfl ?_
          exact go_ret rfl rfl (am_qp q (by exact (if_neg c56_0).trans ((if_neg c56_1).trans ((if_neg c56_2).trans (if_pos c56_3)))))
        · refine go_if (fun c56_4 => ?_) (fun c56_4 => ?_)
          · refine go_s 5 rfl ?_
            refine go_v kX12_does__200 okX12_give rfl rfl rfl rfl (Nat.zero_le _) (Nat.zero_le _) ?_
            refine c_X12_give (am_a31 _) ?_
            refine go_s 1 rfl ?_
            exact go_ret rfl rfl (am_qp q (by exact (if_neg c56_0).trans ((if_neg c56_1).trans ((if_neg c56_2).trans ((if_neg c56_3).trans (if_pos c56_4))))))
          · refine go_if (fun c56_5 => ?_) (fun c56_5 => ?_)
            · refine go_s 3 rfl ?_
              refine go_st kX12_does__299 okX12_holds rfl rfl rfl (Nat.zero_le _) (Nat.zero_le _) ?_
              refine c_X12_holds ?_
              refine go_s 1 rfl ?_
              refine go_if (fun c302 => ?_) (fun c302 => ?_)
              · refine go_s 1 rfl ?_
                exact go_ret rfl rfl (am_qp q (by exact (if_neg c56_0).trans ((if_neg c56_1).trans ((if_neg c56_2).trans ((if_neg c56_3).trans ((if_neg c56_4).trans ((if_pos c56_5).trans (if_pos c302))))))))
              · refine go_s 26 rfl ?_
                exact go_ret rfl rfl (am_qp q (by exact (if_neg c56_0).trans ((if_neg c56_1).trans ((if_neg c56_2).trans ((if_neg c56_3).trans ((if_neg c56_4).trans ((if_pos c56_5).trans (if_neg c302))))))))
            · refine go_if (fun c56_6 => ?_) (fun c56_6 => ?_)
              · refine go_s 11 rfl ?_
                refine go_v kX12_does__403 okX12_give rfl rfl rfl rfl (Nat.zero_le _) (Nat.zero_le _) ?_
                refine c_X12_give (am_a31 _) ?_
                refine go_s 1 rfl ?_
                exact go_ret rfl rfl (am_qp q (by exact (if_neg c56_0).trans ((if_neg c56_1).trans ((if_neg c56_2).trans ((if_neg c56_3).trans ((if_neg c56_4).trans ((if_neg c56_5).trans (if_pos c56_6))))))))
              · refine go_if (fun c56_7 => ?_) (fun c56_7 => ?_)
                · refine go_s 3 rfl ?_
                  refine go_v kX12_does__350 okX12_give rfl rfl rfl rfl (Nat.zero_le _) (Nat.zero_le _) ?_
                  refine c_X12_give (am_a31 _) ?_
                  refine go_s 23 rfl ?_
                  exact go_ret rfl rfl (am_qp q (by exact (if_neg c56_0).trans ((if_neg c56_1).trans ((if_neg c56_2).trans ((if_neg c56_3).trans ((if_neg c56_4).trans ((if_neg c56_5).trans ((if_neg c56_6).trans (if_pos c56_7)))))))))
                · refine go_s 4 rfl ?_
                  refine go_m rfl rfl (show vp_in _ 32 from vp_in_nI (n := 10) (by decide) (by decide)) ?_
                  refine go_v kX12_does__415 okX12_print rfl rfl rfl rfl (Nat.zero_le _) (Nat.zero_le _) ?_
                  refine c_X12_print_1 h95 ?_
                  refine go_s 1 rfl ?_
                  exact go_ret rfl rfl (am_qp q (by exact (if_neg c56_0).trans ((if_neg c56_1).trans ((if_neg c56_2).trans ((if_neg c56_3).trans ((if_neg c56_4).trans ((if_neg c56_5).trans ((if_neg c56_6).trans (if_neg c56_7)))))))))
end
section
theorem am_sm32 : ∀ n, n < 32 → ((nI n).toBitVec.smod 32).toNat = n := by decide +kernel
theorem am_bsr (x : Int32) {n : Nat} (h : n < 32) : (x >>> nI n).toBitVec = x.toBitVec.sshiftRight n := by
  have e : (x >>> nI n).toBitVec = x.toBitVec.sshiftRight' ((nI n).toBitVec.smod 32) := rfl
  rw [e, BitVec.sshiftRight', am_sm32 n h]
theorem am_bsl (x : Int32) {n : Nat} (h : n < 32) : (x <<< nI n).toBitVec = x.toBitVec <<< n := by
  have e : (x <<< nI n).toBitVec = x.toBitVec <<< ((nI n).toBitVec.smod 32) := rfl
  rw [e, BitVec.shiftLeft_eq', am_sm32 n h]
theorem am_bnI (n : Nat) : (nI n).toBitVec = BitVec.ofNat 32 n := rfl
theorem am_32s {i : Nat} (h : i < 32) : i = 0 ∨ i = 1 ∨ i = 2 ∨ i = 3 ∨ i = 4 ∨ i = 5 ∨ i = 6 ∨ i = 7 ∨ i = 8 ∨ i = 9 ∨ i = 10 ∨ i = 11 ∨ i = 12 ∨ i = 13 ∨ i = 14 ∨ i = 15 ∨ i = 16 ∨ i = 17 ∨ i = 18 ∨ i = 19 ∨ i = 20 ∨ i = 21 ∨ i = 22 ∨ i = 23 ∨ i = 24 ∨ i = 25 ∨ i = 26 ∨ i = 27 ∨ i = 28 ∨ i = 29 ∨ i = 30 ∨ i = 31 := by omega
theorem am_bofe0 (n : Int32) : n >>> (31 : Int32) <<< (12 : Int32) ||| (n >>> (7 : Int32) &&& (1 : Int32)) <<< (11 : Int32) ||| (n >>> (25 : Int32) &&& (63 : Int32)) <<< (5 : Int32) ||| (n >>> (8 : Int32) &&& (15 : Int32)) <<< (1 : Int32) = n >>> (31 : Int32) <<< (12 : Int32) ||| n <<< (4 : Int32) &&& (2048 : Int32) ||| n >>> (20 : Int32) &&& (2016 : Int32) ||| n >>> (7 : Int32) &&& (30 : Int32) := by
  apply Int32.toBitVec_inj.mp
  have e1 : (1 : Int32) = nI 1 := rfl
  have e4 : (4 : Int32) = nI 4 := rfl
  have e5 : (5 : Int32) = nI 5 := rfl
  have e7 : (7 : Int32) = nI 7 := rfl
  have e8 : (8 : Int32) = nI 8 := rfl
  have e11 : (11 : Int32) = nI 11 := rfl
  have e12 : (12 : Int32) = nI 12 := rfl
  have e15 : (15 : Int32) = nI 15 := rfl
  have e20 : (20 : Int32) = nI 20 := rfl
  have e25 : (25 : Int32) = nI 25 := rfl
  have e30 : (30 : Int32) = nI 30 := rfl
  have e31 : (31 : Int32) = nI 31 := rfl
  have e63 : (63 : Int32) = nI 63 := rfl
  have e2016 : (2016 : Int32) = nI 2016 := rfl
  have e2048 : (2048 : Int32) = nI 2048 := rfl
  simp only [Int32.toBitVec_or, Int32.toBitVec_and, Int32.toBitVec_xor, e1, e4, e5, e7, e8, e11, e12, e15, e20, e25, e30, e31, e63, e2016, e2048]
  simp (discharger := decide) only [am_bsr, am_bsl, am_bnI, Int32.toBitVec_or, Int32.toBitVec_and]
  apply BitVec.eq_of_getLsbD_eq
  intro i hi
  rcases am_32s hi with rfl | rfl | rfl | rfl | rfl | rfl | rfl | rfl | rfl | rfl | rfl | rfl | rfl | rfl | rfl | rfl | rfl | rfl | rfl | rfl | rfl | rfl | rfl | rfl | rfl | rfl | rfl | rfl | rfl | rfl | rfl | rfl <;> simp [BitVec.getLsbD_sshiftRight, BitVec.getElem_sshiftRight, BitVec.getLsbD_shiftLeft, BitVec.msb_eq_getLsbD_last, Nat.testBit]
theorem am_jofe0 (n : Int32) : n >>> (31 : Int32) <<< (20 : Int32) ||| n &&& (1044480 : Int32) ||| (n >>> (20 : Int32) &&& (1 : Int32)) <<< (11 : Int32) ||| (n >>> (21 : Int32) &&& (1023 : Int32)) <<< (1 : Int32) = n >>> (31 : Int32) <<< (20 : Int32) ||| n &&& (1044480 : Int32) ||| n >>> (9 : Int32) &&& (2048 : Int32) ||| n >>> (20 : Int32) &&& (2046 : Int32) := by
  apply Int32.toBitVec_inj.mp
  have e1 : (1 : Int32) = nI 1 := rfl
  have e9 : (9 : Int32) = nI 9 := rfl
  have e11 : (11 : Int32) = nI 11 := rfl
  have e20 : (20 : Int32) = nI 20 := rfl
  have e21 : (21 : Int32) = nI 21 := rfl
  have e31 : (31 : Int32) = nI 31 := rfl
  have e1023 : (1023 : Int32) = nI 1023 := rfl
  have e2046 : (2046 : Int32) = nI 2046 := rfl
  have e2048 : (2048 : Int32) = nI 2048 := rfl
  have e1044480 : (1044480 : Int32) = nI 1044480 := rfl
  simp only [Int32.toBitVec_or, Int32.toBitVec_and, Int32.toBitVec_xor, e1, e9, e11, e20, e21, e31, e1023, e2046, e2048, e1044480]
  simp (discharger := decide) only [am_bsr, am_bsl, am_bnI, Int32.toBitVec_or, Int32.toBitVec_and]
  apply BitVec.eq_of_getLsbD_eq
  intro i hi
  rcases am_32s hi with rfl | rfl | rfl | rfl | rfl | rfl | rfl | rfl | rfl | rfl | rfl | rfl | rfl | rfl | rfl | rfl | rfl | rfl | rfl | rfl | rfl | rfl | rfl | rfl | rfl | rfl | rfl | rfl | rfl | rfl | rfl | rfl <;> simp [BitVec.getLsbD_sshiftRight, BitVec.getElem_sshiftRight, BitVec.getLsbD_shiftLeft, BitVec.msb_eq_getLsbD_last, Nat.testBit]
theorem am_jale (b : Int32) : (b >>> (12 : Int32) &&& (255 : Int32)) <<< (12 : Int32) = b &&& (1044480 : Int32) := by
  apply Int32.toBitVec_inj.mp
  have e12 : (12 : Int32) = nI 12 := rfl
  have e255 : (255 : Int32) = nI 255 := rfl
  have e1044480 : (1044480 : Int32) = nI 1044480 := rfl
  simp only [Int32.toBitVec_or, Int32.toBitVec_and, Int32.toBitVec_xor, e12, e255, e1044480]
  simp (discharger := decide) only [am_bsr, am_bsl, am_bnI, Int32.toBitVec_or, Int32.toBitVec_and]
  apply BitVec.eq_of_getLsbD_eq
  intro i hi
  rcases am_32s hi with rfl | rfl | rfl | rfl | rfl | rfl | rfl | rfl | rfl | rfl | rfl | rfl | rfl | rfl | rfl | rfl | rfl | rfl | rfl | rfl | rfl | rfl | rfl | rfl | rfl | rfl | rfl | rfl | rfl | rfl | rfl | rfl <;> simp [BitVec.getLsbD_sshiftRight, BitVec.getElem_sshiftRight, BitVec.getLsbD_shiftLeft, BitVec.msb_eq_getLsbD_last, Nat.testBit]
theorem am_ste (c : Int32) : (c >>> (5 : Int32) &&& (127 : Int32)) <<< (25 : Int32) = c >>> (5 : Int32) <<< (25 : Int32) := by
  apply Int32.toBitVec_inj.mp
  have e5 : (5 : Int32) = nI 5 := rfl
  have e25 : (25 : Int32) = nI 25 := rfl
  have e127 : (127 : Int32) = nI 127 := rfl
  simp only [Int32.toBitVec_or, Int32.toBitVec_and, Int32.toBitVec_xor, e5, e25, e127]
  simp (discharger := decide) only [am_bsr, am_bsl, am_bnI, Int32.toBitVec_or, Int32.toBitVec_and]
  apply BitVec.eq_of_getLsbD_eq
  intro i hi
  rcases am_32s hi with rfl | rfl | rfl | rfl | rfl | rfl | rfl | rfl | rfl | rfl | rfl | rfl | rfl | rfl | rfl | rfl | rfl | rfl | rfl | rfl | rfl | rfl | rfl | rfl | rfl | rfl | rfl | rfl | rfl | rfl | rfl | rfl <;> simp [BitVec.getLsbD_sshiftRight, BitVec.getElem_sshiftRight, BitVec.getLsbD_shiftLeft, BitVec.msb_eq_getLsbD_last, Nat.testBit]
theorem am_bofv (n : Int32) : (n >>> (31 : Int32) <<< (12 : Int32) ||| n <<< (4 : Int32) &&& (2048 : Int32) ||| n >>> (20 : Int32) &&& (2016 : Int32) ||| n >>> (7 : Int32) &&& (30 : Int32)) &&& (1 : Int32) = 0 &&& (1 : Int32) := by
  apply Int32.toBitVec_inj.mp
  have e1 : (1 : Int32) = nI 1 := rfl
  have e4 : (4 : Int32) = nI 4 := rfl
  have e7 : (7 : Int32) = nI 7 := rfl
  have e12 : (12 : Int32) = nI 12 := rfl
  have e20 : (20 : Int32) = nI 20 := rfl
  have e30 : (30 : Int32) = nI 30 := rfl
  have e31 : (31 : Int32) = nI 31 := rfl
  have e2016 : (2016 : Int32) = nI 2016 := rfl
  have e2048 : (2048 : Int32) = nI 2048 := rfl
  simp only [Int32.toBitVec_or, Int32.toBitVec_and, Int32.toBitVec_xor, e1, e4, e7, e12, e20, e30, e31, e2016, e2048]
  simp (discharger := decide) only [am_bsr, am_bsl, am_bnI, Int32.toBitVec_or, Int32.toBitVec_and]
  apply BitVec.eq_of_getLsbD_eq
  intro i hi
  rcases am_32s hi with rfl | rfl | rfl | rfl | rfl | rfl | rfl | rfl | rfl | rfl | rfl | rfl | rfl | rfl | rfl | rfl | rfl | rfl | rfl | rfl | rfl | rfl | rfl | rfl | rfl | rfl | rfl | rfl | rfl | rfl | rfl | rfl <;> simp [BitVec.getLsbD_sshiftRight, BitVec.getElem_sshiftRight, BitVec.getLsbD_shiftLeft, BitVec.msb_eq_getLsbD_last, Nat.testBit]
theorem am_jofv (n : Int32) : (n >>> (31 : Int32) <<< (20 : Int32) ||| n &&& (1044480 : Int32) ||| n >>> (9 : Int32) &&& (2048 : Int32) ||| n >>> (20 : Int32) &&& (2046 : Int32)) &&& (1 : Int32) = 0 &&& (1 : Int32) := by
  apply Int32.toBitVec_inj.mp
  have e1 : (1 : Int32) = nI 1 := rfl
  have e9 : (9 : Int32) = nI 9 := rfl
  have e20 : (20 : Int32) = nI 20 := rfl
  have e31 : (31 : Int32) = nI 31 := rfl
  have e2046 : (2046 : Int32) = nI 2046 := rfl
  have e2048 : (2048 : Int32) = nI 2048 := rfl
  have e1044480 : (1044480 : Int32) = nI 1044480 := rfl
  simp only [Int32.toBitVec_or, Int32.toBitVec_and, Int32.toBitVec_xor, e1, e9, e20, e31, e2046, e2048, e1044480]
  simp (discharger := decide) only [am_bsr, am_bsl, am_bnI, Int32.toBitVec_or, Int32.toBitVec_and]
  apply BitVec.eq_of_getLsbD_eq
  intro i hi
  rcases am_32s hi with rfl | rfl | rfl | rfl | rfl | rfl | rfl | rfl | rfl | rfl | rfl | rfl | rfl | rfl | rfl | rfl | rfl | rfl | rfl | rfl | rfl | rfl | rfl | rfl | rfl | rfl | rfl | rfl | rfl | rfl | rfl | rfl <;> simp [BitVec.getLsbD_sshiftRight, BitVec.getElem_sshiftRight, BitVec.getLsbD_shiftLeft, BitVec.msb_eq_getLsbD_last, Nat.testBit]
theorem am_m2v (n : Int32) : (n &&& (-2 : Int32)) &&& (1 : Int32) = 0 &&& (1 : Int32) := by
  apply Int32.toBitVec_inj.mp
  have e1 : (1 : Int32) = nI 1 := rfl
  have f2 : (-2 : Int32) = nI 4294967294 := by decide +kernel
  simp only [Int32.toBitVec_or, Int32.toBitVec_and, Int32.toBitVec_xor, e1, f2]
  simp (discharger := decide) only [am_bsr, am_bsl, am_bnI, Int32.toBitVec_or, Int32.toBitVec_and]
  apply BitVec.eq_of_getLsbD_eq
  intro i hi
  rcases am_32s hi with rfl | rfl | rfl | rfl | rfl | rfl | rfl | rfl | rfl | rfl | rfl | rfl | rfl | rfl | rfl | rfl | rfl | rfl | rfl | rfl | rfl | rfl | rfl | rfl | rfl | rfl | rfl | rfl | rfl | rfl | rfl | rfl <;> simp [BitVec.getLsbD_sshiftRight, BitVec.getElem_sshiftRight, BitVec.getLsbD_shiftLeft, BitVec.msb_eq_getLsbD_last, Nat.testBit]
theorem am_nxa (n x : Nat) (hx : x < 2 ^ (n + 1)) : x ^^^ 2 ^ n = (x + 2 ^ n) % 2 ^ (n + 1) := by
  apply Nat.eq_of_testBit_eq
  intro i
  rw [Nat.testBit_xor, Nat.testBit_mod_two_pow, Nat.testBit_two_pow, Nat.add_comm x (2 ^ n)]
  by_cases h : i = n
  · subst h
    rw [Nat.testBit_two_pow_add_eq]
    simp
  · by_cases h2 : i < n
    · rw [Nat.testBit_two_pow_add_gt h2]
      have : ¬ n = i := fun z => h z.symm
      simp [this]
      omega
    · have h3 : x.testBit i = false := Nat.testBit_lt_two_pow (Nat.lt_of_lt_of_le hx (Nat.pow_le_pow_right (by decide) (by omega)))
      have : ¬ n = i := fun z => h z.symm
      have h4 : ¬ i < n + 1 := by omega
      simp [h3, this, h4]
theorem am_xad (x : Int32) : x ^^^ (-2147483648) = x + (-2147483648) := by
  apply Int32.toBitVec_inj.mp
  have e : (-2147483648 : Int32).toBitVec.toNat = 2 ^ 31 := by decide +kernel
  rw [Int32.toBitVec_xor, Int32.toBitVec_add]
  apply BitVec.eq_of_toNat_eq
  rw [BitVec.toNat_xor, BitVec.toNat_add, e]
  exact am_nxa 31 _ x.toBitVec.isLt
theorem am_morv (w : Int32) : (w &&& (1073741824 : Int32) = 0 ∧ am_mor w = 0) ∨ (¬ w &&& (1073741824 : Int32) = 0 ∧ am_mor w = 1) := by
  have e1 : (w &&& (1073741824 : Int32)).toBitVec = w.toBitVec &&& BitVec.ofNat 32 1073741824 := rfl
  have e2 : (am_mor w).toBitVec = (w.toBitVec >>> 30) &&& BitVec.ofNat 32 1 := rfl
  have e3 : (0 : Int32).toBitVec = BitVec.ofNat 32 0 := rfl
  have e4 : (1 : Int32).toBitVec = BitVec.ofNat 32 1 := rfl
  cases hb : w.toBitVec.getLsbD 30
  · left
    constructor
    · apply Int32.toBitVec_inj.mp
      rw [e1, e3]
      apply BitVec.eq_of_getLsbD_eq
      intro i hi
      rcases am_32s hi with rfl | rfl | rfl | rfl | rfl | rfl | rfl | rfl | rfl | rfl | rfl | rfl | rfl | rfl | rfl | rfl | rfl | rfl | rfl | rfl | rfl | rfl | rfl | rfl | rfl | rfl | rfl | rfl | rfl | rfl | rfl | rfl <;> simp_all [Nat.testBit]
    · apply Int32.toBitVec_inj.mp
      rw [e2, e3]
      apply BitVec.eq_of_getLsbD_eq
      intro i hi
      rcases am_32s hi with rfl | rfl | rfl | rfl | rfl | rfl | rfl | rfl | rfl | rfl | rfl | rfl | rfl | rfl | rfl | rfl | rfl | rfl | rfl | rfl | rfl | rfl | rfl | rfl | rfl | rfl | rfl | rfl | rfl | rfl | rfl | rfl <;> simp_all [Nat.testBit]
  · right
    constructor
    · intro h
      have h := congrArg (fun z => z.toBitVec.getLsbD 30) h
      simp only [e1, e3] at h
      simp [Nat.testBit] at h
      simp [h] at hb
    · apply Int32.toBitVec_inj.mp
      rw [e2, e4]
      apply BitVec.eq_of_getLsbD_eq
      intro i hi
      rcases am_32s hi with rfl | rfl | rfl | rfl | rfl | rfl | rfl | rfl | rfl | rfl | rfl | rfl | rfl | rfl | rfl | rfl | rfl | rfl | rfl | rfl | rfl | rfl | rfl | rfl | rfl | rfl | rfl | rfl | rfl | rfl | rfl | rfl <;> simp_all [Nat.testBit]
theorem am_calcm (s o x y : Int32) (o' : Int32) (ho : (o = 0 ∧ o' = 0) ∨ (o = 1 ∧ o' = 1)) : am_calc s o x y = am_md s o' x y := by
  unfold am_calc am_md
  rcases ho with ⟨rfl, rfl⟩ | ⟨rfl, rfl⟩ <;> simp [am_xad]
theorem am_brsm {s x y : Int32} (h : ¬ s = 2 ∧ ¬ s = 3 ∨ True) : am_brs s x y = am_hd s x y := by
  unfold am_brs am_hd
  simp only [am_xad]
  by_cases h2 : s = 2
  · subst h2; simp
  by_cases h3 : s = 3
  · subst h3; simp
  simp [h2, h3]
end
section
def am_RI (C D : Nat → Nat → Int32) : Prop := (∀ k, k < 32 → C 67 k = D 103 k) ∧ (∀ k, k < 64 → C 68 k = D 106 k) ∧ (∀ k, k < 200 → C 66 k = D 100 k) ∧ C 65 4 = D 95 1
theorem am_u_eq {D : Nat → Nat → Int32} {o k : Nat} {v : Int32} : am_u D o k v o k = v := by simp [am_u]
theorem am_u_nj {D : Nat → Nat → Int32} {o k j : Nat} {v : Int32} (h : j ≠ k) : am_u D o k v o j = D o j := by simp [am_u, h]
theorem am_RI_pc {C D : Nat → Nat → Int32} {g : Int32} (h : am_RI C D) : am_RI (am_u C 65 8 g) D := by
  obtain ⟨h1, h2, h3, h4⟩ := h
  refine ⟨fun k hk => ?_, fun k hk => ?_, fun k hk => ?_, ?_⟩
  · rw [am_u_ne (by decide)]; exact h1 k hk
  · rw [am_u_ne (by decide)]; exact h2 k hk
  · rw [am_u_ne (by decide)]; exact h3 k hk
  · rw [am_u_nj (by decide)]; exact h4
theorem am_RI_wr {C D : Nat → Nat → Int32} {k v : Int32} (hk : vp_in k 32) (h : am_RI C D) : am_RI (am_wi C k v) (am_mgv D k v) := by
  obtain ⟨h1, h2, h3, h4⟩ := h
  obtain ⟨n, hn, rfl⟩ := vp_in_of hk (by decide)
  unfold am_wi am_mgv
  by_cases h0 : nI n = 0
  · rw [if_neg (fun z => z.1 h0), if_pos h0]
    exact ⟨h1, h2, h3, h4⟩
  rw [if_pos ⟨h0, nI_pos' (by omega), nI_lt (a := n) (b := 32) hn (by decide)⟩, if_neg h0, nI_clamp (by omega)]
  refine ⟨fun j hj => ?_, fun j hj => ?_, fun j hj => ?_, ?_⟩
  · by_cases e : j = n
    · subst e; rw [am_u_eq, am_u_eq]
    · rw [am_u_nj e, am_u_nj e]; exact h1 j hj
  · rw [am_u_ne (by decide), am_u_ne (by decide)]; exact h2 j hj
  · rw [am_u_ne (by decide), am_u_ne (by decide)]; exact h3 j hj
  · rw [am_u_ne (by decide), am_u_ne (by decide)]; exact h4
theorem am_RI_st {C D : Nat → Nat → Int32} {n : Nat} {v : Int32} (h : am_RI C D) : am_RI (am_u C 68 n v) (am_u D 106 n v) := by
  obtain ⟨h1, h2, h3, h4⟩ := h
  refine ⟨fun j hj => ?_, fun j hj => ?_, fun j hj => ?_, ?_⟩
  · rw [am_u_ne (by decide), am_u_ne (by decide)]; exact h1 j hj
  · by_cases e : j = n
    · subst e; rw [am_u_eq, am_u_eq]
    · rw [am_u_nj e, am_u_nj e]; exact h2 j hj
  · rw [am_u_ne (by decide), am_u_ne (by decide)]; exact h3 j hj
  · rw [am_u_ne (by decide), am_u_ne (by decide)]; exact h4
theorem am_mpn_v {D : Nat → Nat → Int32} {w o : Nat} {v : Int32} (ho : o ≠ 95) : am_mpn D w o v 95 w = D 95 w + 1 := by
  unfold am_mpn
  rw [am_u_eq]
  split
  · rw [am_u_ne (Ne.symm ho)]
  · rfl
theorem am_mpn_ne {D : Nat → Nat → Int32} {w o c j : Nat} {v : Int32} (h1 : c ≠ 95) (h2 : c ≠ o) : am_mpn D w o v c j = D c j := by
  unfold am_mpn
  rw [am_u_ne h1]
  split
  · rw [am_u_ne h2]
  · rfl
theorem am_mpn_95 {D : Nat → Nat → Int32} {w o j : Nat} {v : Int32} (ho : o ≠ 95) (h1 : j ≠ w) : am_mpn D w o v 95 j = D 95 j := by
  unfold am_mpn
  rw [am_u_nj h1]
  split
  · rw [am_u_ne (Ne.symm ho)]
  · rfl
theorem am_mpn_o {D : Nat → Nat → Int32} {w o j m : Nat} {v : Int32} (ho : o ≠ 95) (hm : m < 2 ^ 31) (h : D 95 w = nI m) : am_mpn D w o v o j = if m < 200 ∧ j = m then v else D o j := by
  unfold am_mpn
  rw [am_u_ne ho, h, nI_clamp hm]
  by_cases e : m < 200
  · rw [if_pos (show nI m < 200 from nI_lt (a := m) (b := 200) e (by decide))]
    by_cases e2 : j = m
    · subst e2; rw [am_u_eq, if_pos ⟨e, rfl⟩]
    · rw [am_u_nj e2, if_neg (fun z => e2 z.2)]
  · rw [if_neg (show ¬ nI m < 200 from nI_nlt (a := m) (b := 200) (by omega) (by omega)), if_neg (fun z => e z.1)]
theorem am_kpi_v {D : Nat → Nat → Int32} {v : Int32} : am_kpi D v 65 4 = D 65 4 + 1 := am_u_eq
theorem am_kpi_8 {D : Nat → Nat → Int32} {v : Int32} {j : Nat} (h : j ≠ 4) : am_kpi D v 65 j = D 65 j := by
  unfold am_kpi
  rw [am_u_nj h]
  split
  · rw [am_u_ne (by decide)]
  · rfl
theorem am_kpi_o {D : Nat → Nat → Int32} {v : Int32} {j m : Nat} (hm : m < 2 ^ 31) (h : D 65 4 = nI m) : am_kpi D v 66 j = if m < 200 ∧ j = m then v else D 66 j := by
  unfold am_kpi
  rw [am_u_ne (by decide), h, nI_clamp hm]
  by_cases e : m < 200
  · rw [if_pos ⟨nI_pos hm, nI_lt (a := m) (b := 200) e (by decide)⟩]
    by_cases e2 : j = m
    · subst e2; rw [am_u_eq, if_pos ⟨e, rfl⟩]
    · rw [am_u_nj e2, if_neg (fun z => e2 z.2)]
  · rw [if_neg (fun z => nI_nlt (a := m) (b := 200) (by omega) (by omega) z.2), if_neg (fun z => e z.1)]
theorem am_RI_pr {C D : Nat → Nat → Int32} {m : Nat} {v : Int32} (hm : m < 2 ^ 31) (hD : D 95 1 = nI m) (h : am_RI C D) : am_RI (am_kpi C v) (am_mpn D 1 100 v) := by
  obtain ⟨h1, h2, h3, h4⟩ := h
  refine ⟨fun j hj => ?_, fun j hj => ?_, fun j hj => ?_, ?_⟩
  · rw [am_kpi_ne (by decide) (by decide), am_mpn_ne (by decide) (by decide)]; exact h1 j hj
  · rw [am_kpi_ne (by decide) (by decide), am_mpn_ne (by decide) (by decide)]; exact h2 j hj
  · rw [am_kpi_o hm (h4.trans hD), am_mpn_o (by decide) hm hD, h3 j hj]
  · rw [am_kpi_v, am_mpn_v (by decide), h4]
theorem am_par1 {a : Int32} (h : a &&& (1 : Int32) = 0) : a.toBitVec.toNat % 2 = 0 := by
  have h := congrArg (fun z => z.toBitVec.toNat) h
  have e : (a &&& (1 : Int32)).toBitVec = a.toBitVec &&& BitVec.ofNat 32 1 := rfl
  simp only [e, BitVec.toNat_and] at h
  have e2 := Nat.and_two_pow_sub_one_eq_mod a.toBitVec.toNat 1
  have e3 : (BitVec.ofNat 32 1).toNat = 2 ^ 1 - 1 := rfl
  rw [e3, e2] at h
  exact h
theorem am_par {a b : Int32} (h : a &&& (1 : Int32) = 0) (h2 : b &&& (1 : Int32) = 0) : ¬ a + b = -1 := by
  intro e
  have h := am_par1 h
  have h2 := am_par1 h2
  have e := congrArg (fun z => z.toBitVec.toNat) e
  have e3 : (-1 : Int32).toBitVec.toNat = 4294967295 := rfl
  simp only [Int32.toBitVec_add, BitVec.toNat_add, e3] at e
  omega
theorem am_par0 {a : Int32} (h : a &&& (1 : Int32) = 0) : ¬ a = -1 := by
  intro e; subst e; exact absurd h (by decide)
abbrev am_gop (w : Int32) : Prop := w &&& (127 : Int32) = 3 ∨ w &&& (127 : Int32) = 19 ∨ w &&& (127 : Int32) = 35 ∨ w &&& (127 : Int32) = 51 ∨ w &&& (127 : Int32) = 55 ∨ w &&& (127 : Int32) = 99 ∨ w &&& (127 : Int32) = 103 ∨ w &&& (127 : Int32) = 111 ∨ w &&& (127 : Int32) = 115
def am_SI (C D : Nat → Nat → Int32) (m : Nat) (p : Int32 × (Nat → Nat → Int32)) (r : Int32 × (Nat → Nat → Int32)) : Prop := (p = (2, C) ∧ r = (-1, D)) ∨ (¬ r.1 = -1 ∧ p.1 = (if r.1 = 0 then 0 else 3) ∧ p.2 65 8 = r.1 ∧ am_RI p.2 r.2 ∧ (r.2 95 1 = nI m ∨ r.2 95 1 = nI (m + 1)))
theorem am_SI_gi {C D C' D' : Nat → Nat → Int32} {m : Nat} {g : Int32} (hg : ¬ g = -1) (h : am_RI C' D') (hm : D' 95 1 = nI m ∨ D' 95 1 = nI (m + 1)) : am_SI C D m (am_gi C' g) (g, D') :=
  Or.inr ⟨hg, rfl, show am_u C' 65 8 g 65 8 = g from am_u_eq, am_RI_pc h, hm⟩
theorem am_mgv_ne {D : Nat → Nat → Int32} {k v : Int32} {c j : Nat} (h : c ≠ 103) : am_mgv D k v c j = D c j := by
  unfold am_mgv
  split
  · rfl
  · rw [am_u_ne h]
theorem am_SI_wg {C D : Nat → Nat → Int32} {m : Nat} {k v v' g g' : Int32} (hk : vp_in k 32) (hv : v = v') (hg : ¬ g = -1) (h : am_RI C D) (hm : D 95 1 = nI m) (e : g' = g) : am_SI C D m (am_gi (am_wi C k v) g') (g, am_mgv D k v') := by
  subst hv e
  exact am_SI_gi hg (am_RI_wr hk h) (Or.inl (by rw [am_mgv_ne (by decide)]; exact hm))
theorem am_RI_r {C D : Nat → Nat → Int32} (h : am_RI C D) (x : Int32) : C 67 (x &&& (31 : Int32)).toNatClampNeg = D 103 (x &&& (31 : Int32)).toNatClampNeg := by
  obtain ⟨n, hn, e⟩ := vp_in_of (am_a31 x) (by decide)
  rw [e, nI_clamp (by omega)]
  exact h.1 n hn
theorem am_stI {C D : Nat → Nat → Int32} {m : Nat} {pc w : Int32} (h : am_RI C D) (hpc : C 65 8 = pc) (he : pc &&& (1 : Int32) = 0) (hw : am_gop w) (hm : D 95 1 = nI m) (hm2 : m < 2 ^ 30) : am_SI C D m (am_isw C w) (am_mis D pc w) := by
  have h4 : ¬ pc + 4 = -1 := am_par he (by decide)
  have hr1 : am_r1 C w = am_mir D (w >>> (15 : Int32)) := am_RI_r h _
  have hr2 : am_r2 C w = am_mir D (w >>> (20 : Int32)) := am_RI_r h _
  have hwi : ∀ k v : Int32, am_wi C k v 65 8 = pc := fun k v => by rw [am_wi_ne (by decide)]; exact hpc
  unfold am_isw am_mis
  rcases hw with hw | hw | hw | hw | hw | hw | hw | hw | hw <;> rw [hw]
  · rw [if_pos rfl, if_pos rfl]
    unfold am_ild am_mld
    rw [hr1]
    by_cases hc : am_ce (am_mir D (w >>> (15 : Int32)) + w >>> (20 : Int32))
    · obtain ⟨k, hk, e1, e2⟩ := am_ce2 hc
      rw [e1, e2, if_pos ⟨nI_pos' (by omega), nI_lt (a := k) (b := 64) hk (by decide)⟩, if_pos hc, nI_clamp (by omega)]
      exact am_SI_wg (am_a31 _) (h.2.1 k hk) h4 h hm (by rw [hwi])
    · rw [am_ce3 hc, if_neg (by decide), if_neg hc]
      exact Or.inl ⟨rfl, rfl⟩
  · rw [if_neg (by decide), if_pos rfl, if_neg (by decide), if_pos rfl]
    refine am_SI_wg (am_a31 _) ?_ h4 h hm (by rw [hwi])
    unfold am_cim
    rw [hr1]
    apply am_calcm
    by_cases h5 : w >>> (12 : Int32) &&& (7 : Int32) = 5
    · rw [if_pos h5]
      rcases am_morv w with ⟨a, b⟩ | ⟨a, b⟩
      · exact Or.inl ⟨zb_f (fun z => z.2 a), b⟩
      · exact Or.inr ⟨zb_t ⟨h5, a⟩, b⟩
    · rw [if_neg h5]
      exact Or.inl ⟨zb_f (fun z => h5 z.1), rfl⟩
  · rw [if_neg (by decide), if_neg (by decide), if_pos rfl, if_neg (by decide), if_neg (by decide), if_pos rfl]
    unfold am_isr am_msr am_sof
    rw [hr1]
    by_cases hc : am_ce (am_mir D (w >>> (15 : Int32)) + (w >>> (25 : Int32) <<< (5 : Int32) ||| w >>> (7 : Int32) &&& (31 : Int32)))
    · obtain ⟨k, hk, e1, e2⟩ := am_ce2 hc
      rw [e1, e2, if_pos ⟨nI_pos' (by omega), nI_lt (a := k) (b := 64) hk (by decide)⟩, if_pos hc, nI_clamp (by omega), hpc, hr2]
      exact am_SI_gi h4 (am_RI_st h) (Or.inl (by rw [am_u_ne (by decide)]; exact hm))
    · rw [am_ce3 hc, if_neg (by decide), if_neg hc]
      exact Or.inl ⟨rfl, rfl⟩
  · rw [if_neg (by decide), if_neg (by decide), if_neg (by decide), if_pos rfl, if_neg (by decide), if_neg (by decide), if_neg (by decide), if_pos rfl]
    refine am_SI_wg (am_a31 _) ?_ h4 h hm (by rw [hwi])
    unfold am_cr
    rw [hr1, hr2]
    apply am_calcm
    rcases am_morv w with ⟨a, b⟩ | ⟨a, b⟩
    · exact Or.inl ⟨zb_f (fun z => z a), b⟩
    · exact Or.inr ⟨zb_t a, b⟩
  · rw [if_neg (by decide), if_neg (by decide), if_neg (by decide), if_neg (by decide), if_pos rfl, if_neg (by decide), if_neg (by decide), if_neg (by decide), if_neg (by decide), if_pos rfl]
    exact am_SI_wg (am_a31 _) rfl h4 h hm (by rw [hwi])
  · rw [if_neg (by decide), if_neg (by decide), if_neg (by decide), if_neg (by decide), if_neg (by decide), if_pos rfl, if_neg (by decide), if_neg (by decide), if_neg (by decide), if_neg (by decide), if_neg (by decide), if_pos rfl]
    unfold am_ibr am_mbr
    rw [hr1, hr2, am_brsm (Or.inr trivial), hpc]
    split
    · exact am_SI_gi h4 h (Or.inl hm)
    · rw [show am_bof w = _ from am_bofe0 w]
      exact am_SI_gi (am_par he (am_bofv w)) h (Or.inl hm)
  · rw [if_neg (by decide), if_neg (by decide), if_neg (by decide), if_neg (by decide), if_neg (by decide), if_neg (by decide), if_pos rfl, if_neg (by decide), if_neg (by decide), if_neg (by decide), if_neg (by decide), if_neg (by decide), if_neg (by decide), if_pos rfl]
    unfold am_ijp
    rw [hr1, hpc]
    exact am_SI_wg (am_a31 _) rfl (am_par0 (am_m2v _)) h hm rfl
  · rw [if_neg (by decide), if_neg (by decide), if_neg (by decide), if_neg (by decide), if_neg (by decide), if_neg (by decide), if_neg (by decide), if_pos rfl, if_neg (by decide), if_neg (by decide), if_neg (by decide), if_neg (by decide), if_neg (by decide), if_neg (by decide), if_neg (by decide), if_pos rfl]
    unfold am_ijp
    rw [hpc]
    exact am_SI_wg (am_a31 _) rfl (am_par he (am_jofv w)) h hm (by rw [show am_jof w = _ from am_jofe0 w])
  · rw [if_neg (by decide), if_neg (by decide), if_neg (by decide), if_neg (by decide), if_neg (by decide), if_neg (by decide), if_neg (by decide), if_neg (by decide), if_pos rfl, if_neg (by decide), if_neg (by decide), if_neg (by decide), if_neg (by decide), if_neg (by decide), if_neg (by decide), if_neg (by decide), if_neg (by decide)]
    rw [am_kpi_8 (by decide), hpc, h.1 10 (by decide)]
    exact am_SI_gi h4 (am_RI_pr (by omega) hm h) (Or.inr (by rw [am_mpn_v (by decide), hm, nI_1]))
end
section
theorem am_td4 (a : Int) : (0 ≤ a ∧ a.tdiv 4 = a / 4) ∨ (a < 0 ∧ a.tdiv 4 = -((-a) / 4)) := by
  by_cases h : 0 ≤ a
  · exact Or.inl ⟨h, Int.tdiv_eq_ediv_of_nonneg h⟩
  · refine Or.inr ⟨by omega, ?_⟩
    have e := Int.neg_tdiv (-a) 4
    rw [Int.neg_neg, Int.tdiv_eq_ediv_of_nonneg (a := -a) (by omega)] at e
    exact e
theorem am_div4 (n : Int32) : (n / 4).toInt = n.toInt.tdiv 4 := by
  rw [Int32.toInt_div]
  have h1 := Int32.le_toInt n
  have h2 := Int32.toInt_lt n
  have e : (4 : Int32).toInt = 4 := by decide
  rw [e]
  have h3 := am_td4 n.toInt
  apply Int.bmod_eq_of_le
  · omega
  · omega
theorem am_rem4 (n : Int32) : n - n / 4 * 4 = 0 ↔ n.toInt % 4 = 0 := by
  have h1 := Int32.le_toInt n
  have h2 := Int32.toInt_lt n
  have e : (4 : Int32).toInt = 4 := by decide
  have e0 : (0 : Int32).toInt = 0 := by decide
  have h3 := am_td4 n.toInt
  rw [← Int32.toInt_inj, Int32.toInt_sub, Int32.toInt_mul, am_div4, e, e0]
  rw [Int.bmod_eq_of_le (n := n.toInt.tdiv 4 * 4) (by omega) (by omega), Int.bmod_eq_of_le (by omega) (by omega)]
  omega
theorem am_and3 (n : Int32) : n &&& (3 : Int32) = 0 ↔ n.toInt % 4 = 0 := by
  have h1 : (n &&& (3 : Int32)).toBitVec.toNat = n.toBitVec.toNat % 4 := by
    have : (n &&& (3 : Int32)).toBitVec = n.toBitVec &&& (BitVec.ofNat 32 3) := rfl
    rw [this, BitVec.toNat_and]
    exact Nat.and_two_pow_sub_one_eq_mod _ 2
  have h2 : n.toInt % 4 = ((n.toBitVec.toNat % 4 : Nat) : Int) := by
    rw [← Int32.toInt_toBitVec, BitVec.toInt_eq_toNat_cond]
    split <;> omega
  rw [← Int32.toBitVec_inj, ← BitVec.toNat_inj, h1, h2]
  have : (0 : Int32).toBitVec.toNat = 0 := rfl
  rw [this]
  omega
theorem am_and1 {n : Int32} (h : n.toInt % 4 = 0) : n &&& (1 : Int32) = 0 := by
  have h1 : (n &&& (1 : Int32)).toBitVec.toNat = n.toBitVec.toNat % 2 := by
    have : (n &&& (1 : Int32)).toBitVec = n.toBitVec &&& (BitVec.ofNat 32 1) := rfl
    rw [this, BitVec.toNat_and]
    exact Nat.and_two_pow_sub_one_eq_mod _ 1
  rw [← Int32.toInt_toBitVec, BitVec.toInt_eq_toNat_cond] at h
  rw [← Int32.toBitVec_inj, ← BitVec.toNat_inj, h1]
  have : (0 : Int32).toBitVec.toNat = 0 := rfl
  rw [this]
  split at h <;> omega
theorem am_sub4 {n : Int32} {j : Nat} (hj : j < 2 ^ 31) (e : n = nI j) (h : 4096 ≤ j) : n - 4096 = nI (j - 4096) := by
  obtain ⟨k, rfl⟩ := Nat.exists_eq_add_of_le h
  subst e
  rw [Nat.add_sub_cancel_left, ← nI_add]
  show nI 4096 + nI k - nI 4096 = nI k
  rw [Int32.add_comm, Int32.add_sub_cancel]
theorem am_ix {C : Nat → Nat → Int32} {W : Nat} (hW : W ≤ 600) (hC : C 11 3 = nI W) (pc : Int32) : (pc - pc / 4 * 4 = 0 ∧ ¬ pc < 4096 ∧ (pc - 4096) / 4 < nI W ∧ pc &&& (1 : Int32) = 0 ∧ ∃ i, i < W ∧ (pc - 4096) / 4 = nI i ∧ am_ixa C pc = nI i) ∨ (¬ (pc - pc / 4 * 4 = 0 ∧ ¬ pc < 4096 ∧ (pc - 4096) / 4 < nI W) ∧ am_ixa C pc = -1) := by
  have e0 : (0 : Int32).toInt = 0 := by decide
  have e4 : (4096 : Int32).toInt = 4096 := by decide
  by_cases h : pc - pc / 4 * 4 = 0 ∧ ¬ pc < 4096 ∧ (pc - 4096) / 4 < nI W
  · left
    obtain ⟨h1, h2, h3⟩ := h
    refine ⟨h1, h2, h3, am_and1 ((am_rem4 pc).mp h1), ?_⟩
    have h2' := Int32.le_iff_toInt_le.mp (Int32.not_lt.mp h2)
    rw [e4] at h2'
    obtain ⟨j, hj, e⟩ := nI_of (x := pc) (by rw [Int32.not_lt, Int32.le_iff_toInt_le, e0]; omega)
    rw [e, nI_toInt hj] at h2'
    have es := am_sub4 hj e (by omega)
    have h3' := Int32.lt_iff_toInt_lt.mp h3
    have h5 := am_td4 ((j - 4096 : Nat) : Int)
    rw [am_div4, es, nI_toInt (by omega), nI_toInt (by omega)] at h3'
    have hd : (pc - 4096) / 4 = nI ((j - 4096) / 4) := by
      rw [← Int32.toInt_inj, am_div4, es, nI_toInt (by omega), nI_toInt (by omega)]
      omega
    have hs : (pc - 4096) >>> (2 : Int32) = nI ((j - 4096) / 4) := by
      rw [← Int32.toInt_inj, am_shr2, es, nI_toInt (by omega), nI_toInt (by omega)]
      omega
    refine ⟨(j - 4096) / 4, by omega, hd, ?_⟩
    unfold am_ixa
    rw [if_pos, hs]
    rw [hs, hC]
    exact ⟨(am_and3 pc).mpr ((am_rem4 pc).mp h1), nI_pos (by omega), nI_lt (by omega) (by omega)⟩
  · right
    refine ⟨h, ?_⟩
    unfold am_ixa
    rw [if_neg]
    rintro ⟨h1, h2, h3⟩
    apply h
    rw [hC] at h3
    have h2 := Int32.le_iff_toInt_le.mp (Int32.not_lt.mp h2)
    have h3 := Int32.lt_iff_toInt_lt.mp h3
    rw [am_shr2, e0] at h2
    rw [am_shr2, nI_toInt (by omega)] at h3
    obtain ⟨j, hj, e⟩ := nI_of (x := pc - 4096) (by rw [Int32.not_lt, Int32.le_iff_toInt_le, e0]; omega)
    rw [e, nI_toInt hj] at h2 h3
    have e' : pc = nI (4096 + j) := by
      have : pc = pc - 4096 + 4096 := by simp
      rw [this, e, Nat.add_comm, ← nI_add]
      rfl
    refine ⟨(am_rem4 pc).mpr ((am_and3 pc).mp h1), ?_, ?_⟩
    · rw [e']
      exact nI_nlt (a := 4096 + j) (b := 4096) (by omega) (by omega)
    · have h5 := am_td4 (j : Int)
      rw [Int32.lt_iff_toInt_lt, am_div4, e, nI_toInt (by omega), nI_toInt (by omega)]
      omega
theorem am_isw_fr {C : Nat → Nat → Int32} {w : Int32} {c j : Nat} (h1 : c ≠ 66) (h2 : c ≠ 67) (h3 : c ≠ 68) (h : c = 65 → j ≠ 4 ∧ j ≠ 8) : (am_isw C w).2 c j = C c j := by
  have hg : ∀ (D : Nat → Nat → Int32) (g : Int32), (am_gi D g).2 c j = D c j := fun D g => by
    unfold am_gi
    by_cases e : c = 65
    · subst e; exact am_u_nj (h rfl).2
    · exact am_u_ne e
  have hw : ∀ a b : Int32, am_wi C a b c j = C c j := fun a b => am_wi_ne h2
  have hk : ∀ v : Int32, am_kpi C v c j = C c j := fun v => by
    by_cases e : c = 65
    · subst e; exact am_kpi_8 (h rfl).1
    · exact am_kpi_ne e h1
  have hs : ∀ (k : Nat) (v : Int32), am_u C 68 k v c j = C c j := fun k v => am_u_ne h3
  unfold am_isw am_ild am_wgi am_isr am_ibr am_ijp
  repeat' split
  all_goals first | (simp only [hg, hw, hk, hs]; done) | rfl
theorem am_mis_fr {D : Nat → Nat → Int32} {pc w : Int32} {c j : Nat} (h1 : c ≠ 100) (h2 : c ≠ 103) (h3 : c ≠ 106) (h : c = 95 → j ≠ 1) : (am_mis D pc w).2 c j = D c j := by
  have hw : ∀ a b : Int32, am_mgv D a b c j = D c j := fun a b => am_mgv_ne h2
  have hk : ∀ v : Int32, am_mpn D 1 100 v c j = D c j := fun v => by
    by_cases e : c = 95
    · subst e; exact am_mpn_95 (by decide) (h rfl)
    · exact am_mpn_ne e h1
  have hs : ∀ (k : Nat) (v : Int32), am_u D 106 k v c j = D c j := fun k v => am_u_ne h3
  unfold am_mis am_mld am_msr am_mbr
  repeat' split
  all_goals first | (simp only [hw, hk, hs]; done) | rfl
end
section
def am_FI (D' D : Nat → Nat → Int32) : Prop := ∀ c j, c ≠ 100 → c ≠ 103 → c ≠ 106 → ((c ≠ 93 ∧ c ≠ 94 ∧ c ≠ 95 ∧ c ≠ 96 ∧ c ≠ 97) ∨ j ≠ 1) → D' c j = D c j
theorem am_drv_n3 {sf : (Nat → Nat → Int32) → Int32 × (Nat → Nat → Int32)} {s : Int32} {d : Nat} {C : Nat → Nat → Int32} (hs : ¬ s = 3) : ∀ n, am_drv sf n s d C = (s, d, C)
  | 0 => rfl
  | n + 1 => if_neg hs
def am_WI (C D : Nat → Nat → Int32) (W : Nat) : Prop := W ≤ 600 ∧ C 11 3 = nI W ∧ D 69 12 = nI W ∧ (∀ i, i < W → C 12 i = D 79 i) ∧ (∀ i, i < W → am_gop (D 79 i))
def am_PI (C D : Nat → Nat → Int32) (d : Nat) : Prop := am_RI C D ∧ D 96 1 = C 65 8 ∧ D 94 1 = nI d ∧ ∃ m, m ≤ d ∧ D 95 1 = nI m
theorem c_runI {e : am_E} {kc ks N W : Nat} {Q : am_Q} (hN : N ≤ 20000) : ∀ (n d : Nat) (C D : Nat → Nat → Int32) (x3 x4 : Value), n + d = N → am_PI C D d → am_WI C D W → (∀ D', am_PI (am_drv am_isp n 3 d C).2.2 D' (am_drv am_isp n 3 d C).2.1 → am_FI D' D → Q (some (.int (if (am_drv am_isp n 3 d C).1 = 3 then 1 else (am_drv am_isp n 3 d C).1))) (hp D' e)) → am_Go (mX12_runImage, 14, [.ref 69, .int (nI N), .int (C 65 8), x3, x4], [], hp D e, kc, ks, Q)
  | 0, d, C, D, x3, x4, hn, hP, hW, q => by
    refine go_s 3 rfl ?_
    refine go_m rfl rfl (show vp_in _ 2 from vp_in_nI (n := 1) (by decide) (by decide)) ?_
    refine go_s 2 rfl ?_
    have h94 : D 94 1 = nI N := by rw [hP.2.2.1]; congr 1; omega
    refine go_if (fun c => absurd c ?_) (fun c => ?_)
    · show ¬ D 94 1 < nI N
      rw [h94]
      exact nI_nlt (Nat.le_refl _) (by omega)
    · refine go_s 1 rfl ?_
      exact go_ret rfl rfl (q D hP (fun _ _ _ _ _ _ => rfl))
  | n + 1, d, C, D, x3, x4, hn, hP, hW, q => by
    have hP0 := hP
    obtain ⟨hR, h96, h94, m, hm, h95⟩ := hP0
    obtain ⟨hW1, hW2, hW3, hW4, hW5⟩ := hW
    refine go_s 3 rfl ?_
    refine go_m rfl rfl (show vp_in _ 2 from vp_in_nI (n := 1) (by decide) (by decide)) ?_
    refine go_s 2 rfl ?_
    refine go_if (fun c => ?_) (fun c => absurd ?_ c)
    rotate_left
    · show D 94 1 < nI N
      rw [h94]
      exact nI_lt (by omega) (by omega)
    refine go_s 4 rfl ?_
    refine go_m rfl rfl (by decide) ?_
    refine go_s 3 rfl ?_
    refine go_m rfl rfl (by decide) ?_
    have hu : am_drv am_isp (n + 1) 3 d C = am_drv am_isp n (am_isp C).1 (if (am_isp C).1 = 2 then d else d + 1) (am_isp C).2 := if_pos rfl
    rcases am_ix hW1 hW2 (C 65 8) with ⟨p1, p2, p3, p4, i, hi, p5, p6⟩ | ⟨p1, p2⟩
    · refine go_s 1 rfl ?_
      refine go_if (fun c35 => ?_) (fun c35 => absurd p1 c35)
      refine go_s 3 rfl ?_
      refine go_if (fun c42 => absurd c42 p2) (fun c42 => ?_)
      refine go_s 4 rfl ?_
      refine go_if (fun c50 => ?_) (fun c50 => absurd (show (C 65 8 - 4096) / 4 < D 69 12 by rw [hW3]; exact p3) c50)
      refine go_s 5 rfl ?_
      refine go_m rfl rfl (show vp_in ((C 65 8 - 4096) / 4) 1000 by rw [p5]; exact vp_in_nI (by omega) (by decide)) ?_
      refine go_v kX12_runImage_63 okX12_does_ rfl rfl rfl rfl (Nat.zero_le _) (Nat.zero_le _) ?_
      refine c_X12_does_ (pc := C 65 8) (w := D 79 ((C 65 8 - 4096) / 4).toNatClampNeg) (by rw [h95]; exact nI_pos (by omega)) ?_
      have hw : D 79 ((C 65 8 - 4096) / 4).toNatClampNeg = D 79 i := by rw [p5, nI_clamp (by omega)]
      have hsp : am_isp C = am_isw C (D 79 i) := by
        unfold am_isp
        rw [p6, if_neg (fun z => nI_pos (n := i) (by omega) (by rw [z]; decide))]
        unfold am_wda
        rw [hW2, if_pos ⟨nI_pos (by omega), nI_lt hi (by omega)⟩, nI_clamp (by omega), hW4 i hi]
      have hst := am_stI (w := D 79 i) hR rfl p4 (hW5 i hi) h95 (by omega)
      have hfr : ∀ c j, c ≠ 100 → c ≠ 103 → c ≠ 106 → (c = 95 → j ≠ 1) → (am_mis D (C 65 8) (D 79 i)).2 c j = D c j := fun c j a1 a2 a3 a4 => am_mis_fr a1 a2 a3 a4
      have hfc : ∀ c j, c ≠ 65 → c ≠ 66 → c ≠ 67 → c ≠ 68 → (am_isw C (D 79 i)).2 c j = C c j := fun c j a0 a1 a2 a3 => am_isw_fr a1 a2 a3 (fun z => absurd z a0)
      rw [hw]
      rw [hu, hsp] at q
      generalize am_mis D (C 65 8) (D 79 i) = r at hst hfr ⊢
      generalize am_isw C (D 79 i) = p at hst hfc q
      obtain ⟨r1, D1⟩ := r
      obtain ⟨s1, C1⟩ := p
      refine go_s 4 rfl ?_
      rcases hst with ⟨t1, t2⟩ | ⟨t1, t2, t3, t4, t5⟩
      · cases t1
        cases t2
        refine go_if (fun c71 => ?_) (fun c71 => absurd rfl c71)
        refine go_s 1 rfl ?_
        rw [am_drv_n3 (show ¬ (2 : Int32) = 3 by decide)] at q
        exact go_ret rfl rfl (q D hP (fun _ _ _ _ _ _ => rfl))
      · refine go_if (fun c71 => absurd c71 t1) (fun c71 => ?_)
        refine go_s 4 rfl ?_
        refine go_m rfl rfl (show vp_in _ 2 from vp_in_nI (n := 1) (by decide) (by decide)) ?_
        refine go_s 2 rfl ?_
        refine go_m rfl rfl (show vp_in _ 2 from vp_in_nI (n := 1) (by decide) (by decide)) ?_
        refine go_s 6 rfl ?_
        refine go_m rfl rfl (show vp_in _ 2 from vp_in_nI (n := 1) (by decide) (by decide)) ?_
        refine go_s 2 rfl ?_
        dsimp only at t1 t2 t3 t4 t5 hfr hfc q
        have k94 : D1 94 1 = nI d := by rw [hfr 94 1 (by decide) (by decide) (by decide) (by decide)]; exact h94
        have hPn : am_PI C1 (am_u (am_u D1 94 1 (D1 94 1 + 1)) 96 1 r1) (d + 1) := by
          refine ⟨?_, ?_, ?_, ?_⟩
          · obtain ⟨u1, u2, u3, u4⟩ := t4
            refine ⟨fun k hk => ?_, fun k hk => ?_, fun k hk => ?_, ?_⟩
            · rw [am_u_ne (by decide), am_u_ne (by decide)]; exact u1 k hk
            · rw [am_u_ne (by decide), am_u_ne (by decide)]; exact u2 k hk
            · rw [am_u_ne (by decide), am_u_ne (by decide)]; exact u3 k hk
            · rw [am_u_ne (by decide), am_u_ne (by decide)]; exact u4
          · rw [am_u_eq, t3]
          · rw [am_u_ne (by decide), am_u_eq, k94, nI_1]
          · rcases t5 with t5 | t5
            · exact ⟨m, by omega, by rw [am_u_ne (by decide), am_u_ne (by decide)]; exact t5⟩
            · exact ⟨m + 1, by omega, by rw [am_u_ne (by decide), am_u_ne (by decide)]; exact t5⟩
        have hFn : am_FI (am_u (am_u D1 94 1 (D1 94 1 + 1)) 96 1 r1) D := by
          intro c j a1 a2 a3 a4
          by_cases e6 : c = 96
          · subst e6
            rw [am_u_nj (by omega), am_u_ne (by decide)]
            exact hfr _ _ a1 a2 a3 (by omega)
          rw [am_u_ne e6]
          by_cases e4 : c = 94
          · subst e4
            rw [am_u_nj (by omega)]
            exact hfr _ _ a1 a2 a3 (by omega)
          rw [am_u_ne e4]
          exact hfr _ _ a1 a2 a3 (by omega)
        by_cases hz : r1 = 0
        · refine go_if (fun c97 => ?_) (fun c97 => absurd hz c97)
          rw [if_pos hz] at t2
          subst t2
          rw [am_drv_n3 (show ¬ (0 : Int32) = 3 by decide), if_neg (show ¬ (0 : Int32) = 2 by decide)] at q
          refine go_s 1 rfl ?_
          exact go_ret rfl rfl (q _ hPn hFn)
        · refine go_if (fun c97 => absurd c97 hz) (fun c97 => ?_)
          rw [if_neg hz] at t2
          subst t2
          rw [if_neg (by decide)] at q
          refine go_s 1 rfl ?_
          have ih := c_runI (e := e) (kc := kc - (am_rm mX12_does_).cells) (ks := ks - (am_rm mX12_does_).slots) (Q := Q) (W := W) hN n (d + 1) C1 (am_u (am_u D1 94 1 (D1 94 1 + 1)) 96 1 r1) (.int ((C 65 8 - 4096) / 4)) (.int r1) (by omega) hPn ?_ ?_
          · rw [t3] at ih
            exact ih
          · refine ⟨hW1, ?_, ?_, fun k hk => ?_, fun k hk => ?_⟩
            · rw [hfc 11 3 (by decide) (by decide) (by decide) (by decide)]; exact hW2
            · rw [hFn 69 12 (by decide) (by decide) (by decide) (by decide)]; exact hW3
            · rw [hfc 12 k (by decide) (by decide) (by decide) (by decide), hFn 79 k (by decide) (by decide) (by decide) (Or.inl (by decide))]; exact hW4 k hk
            · rw [hFn 79 k (by decide) (by decide) (by decide) (Or.inl (by decide))]; exact hW5 k hk
          · intro D' b1 b2
            refine q D' b1 (fun c j a1 a2 a3 a4 => ?_)
            rw [b2 c j a1 a2 a3 a4, hFn c j a1 a2 a3 a4]
    · have hsp : am_isp C = (2, C) := if_pos p2
      rw [hu, hsp, am_drv_n3 (show ¬ (2 : Int32) = 3 by decide)] at q
      have q' := q D hP (fun _ _ _ _ _ _ => rfl)
      refine go_s 1 rfl ?_
      refine go_if (fun c35 => ?_) (fun c35 => ?_)
      · refine go_s 3 rfl ?_
        refine go_if (fun c42 => ?_) (fun c42 => ?_)
        · refine go_s 1 rfl ?_
          exact go_ret rfl rfl q'
        · refine go_s 4 rfl ?_
          refine go_if (fun c50 => ?_) (fun c50 => ?_)
          · exact absurd ⟨c35, c42, (show (C 65 8 - 4096) / 4 < nI W by rw [← hW3]; exact c50)⟩ p1
          · refine go_s 1 rfl ?_
            exact go_ret rfl rfl q'
      · refine go_s 1 rfl ?_
        exact go_ret rfl rfl q'
end
