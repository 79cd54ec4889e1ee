section
-- ===== PART A: goes FIRST, ahead of the names: the tables' words, and 'selects' of the private methods out of them =====
/-- a private method of a class that the tables say can be made, by its rows of tables_1 -/
def lw_okq (q : MethodName × Nat) : Prop := (q.1.cls ≠ "java/lang/invoke/MethodHandle" ∧ q.1.cls ≠ "java/lang/invoke/VarHandle") ∧ Cond.instantiable q.1.cls q.2 ∈ tables_1 ∧ Cond.privateMethod q.1 ∈ tables_1 ∧ Cond.instanceMethod q.1 ∈ tables_1
theorem lw_p0 : lw_okq (⟨"CounterMine", "refuse", "(I)I"⟩, 12) := ⟨⟨by decide +kernel, by decide +kernel⟩, List.mem_of_getElem? (i := 25) (by decide +kernel), List.mem_of_getElem? (i := 398) (by decide +kernel), List.mem_of_getElem? (i := 399) (by decide +kernel)⟩
theorem lw_p1 : lw_okq (⟨"CounterMine$Tape", "byteAt", "(I)I"⟩, 6) := ⟨⟨by decide +kernel, by decide +kernel⟩, List.mem_of_getElem? (i := 39) (by decide +kernel), List.mem_of_getElem? (i := 418) (by decide +kernel), List.mem_of_getElem? (i := 419) (by decide +kernel)⟩
theorem lw_p2 : lw_okq (⟨"CounterMine$Reader", "readField", "()V"⟩, 9) := ⟨⟨by decide +kernel, by decide +kernel⟩, List.mem_of_getElem? (i := 33) (by decide +kernel), List.mem_of_getElem? (i := 482) (by decide +kernel), List.mem_of_getElem? (i := 483) (by decide +kernel)⟩
theorem lw_p3 : lw_okq (⟨"CounterMine$Reader", "fail", "(I)V"⟩, 9) := ⟨⟨by decide +kernel, by decide +kernel⟩, List.mem_of_getElem? (i := 33) (by decide +kernel), List.mem_of_getElem? (i := 486) (by decide +kernel), List.mem_of_getElem? (i := 487) (by decide +kernel)⟩
theorem lw_p4 : lw_okq (⟨"CounterMine$Reader", "failAt", "(II)V"⟩, 9) := ⟨⟨by decide +kernel, by decide +kernel⟩, List.mem_of_getElem? (i := 33) (by decide +kernel), List.mem_of_getElem? (i := 490) (by decide +kernel), List.mem_of_getElem? (i := 491) (by decide +kernel)⟩
theorem lw_p5 : lw_okq (⟨"CounterMine$Reader", "readNamed", "(Ljava/lang/String;II)I"⟩, 9) := ⟨⟨by decide +kernel, by decide +kernel⟩, List.mem_of_getElem? (i := 33) (by decide +kernel), List.mem_of_getElem? (i := 496) (by decide +kernel), List.mem_of_getElem? (i := 497) (by decide +kernel)⟩
theorem lw_p6 : lw_okq (⟨"CounterMine$Reader", "readWhole", "(II)I"⟩, 9) := ⟨⟨by decide +kernel, by decide +kernel⟩, List.mem_of_getElem? (i := 33) (by decide +kernel), List.mem_of_getElem? (i := 500) (by decide +kernel), List.mem_of_getElem? (i := 501) (by decide +kernel)⟩
theorem lw_p7 : lw_okq (⟨"CounterMine$Reader", "readRow", "()V"⟩, 9) := ⟨⟨by decide +kernel, by decide +kernel⟩, List.mem_of_getElem? (i := 33) (by decide +kernel), List.mem_of_getElem? (i := 512) (by decide +kernel), List.mem_of_getElem? (i := 513) (by decide +kernel)⟩
theorem lw_p8 : lw_okq (⟨"CounterMine$Reader", "nextWord", "()V"⟩, 9) := ⟨⟨by decide +kernel, by decide +kernel⟩, List.mem_of_getElem? (i := 33) (by decide +kernel), List.mem_of_getElem? (i := 516) (by decide +kernel), List.mem_of_getElem? (i := 517) (by decide +kernel)⟩
theorem lw_p9 : lw_okq (⟨"CounterMine$Reader", "takeRow", "()Z"⟩, 9) := ⟨⟨by decide +kernel, by decide +kernel⟩, List.mem_of_getElem? (i := 33) (by decide +kernel), List.mem_of_getElem? (i := 520) (by decide +kernel), List.mem_of_getElem? (i := 521) (by decide +kernel)⟩
theorem lw_p10 : lw_okq (⟨"CounterMine$Reader", "readWall", "()V"⟩, 9) := ⟨⟨by decide +kernel, by decide +kernel⟩, List.mem_of_getElem? (i := 33) (by decide +kernel), List.mem_of_getElem? (i := 542) (by decide +kernel), List.mem_of_getElem? (i := 543) (by decide +kernel)⟩
theorem lw_p11 : lw_okq (⟨"CounterMine$Reader", "startBehindRows", "()V"⟩, 9) := ⟨⟨by decide +kernel, by decide +kernel⟩, List.mem_of_getElem? (i := 33) (by decide +kernel), List.mem_of_getElem? (i := 546) (by decide +kernel), List.mem_of_getElem? (i := 547) (by decide +kernel)⟩
theorem lw_p12 : lw_okq (⟨"CounterMine$Reader", "readCell", "()I"⟩, 9) := ⟨⟨by decide +kernel, by decide +kernel⟩, List.mem_of_getElem? (i := 33) (by decide +kernel), List.mem_of_getElem? (i := 550) (by decide +kernel), List.mem_of_getElem? (i := 551) (by decide +kernel)⟩
theorem lw_p13 : lw_okq (⟨"CounterMine$Reader", "readDrum", "()V"⟩, 9) := ⟨⟨by decide +kernel, by decide +kernel⟩, List.mem_of_getElem? (i := 33) (by decide +kernel), List.mem_of_getElem? (i := 562) (by decide +kernel), List.mem_of_getElem? (i := 563) (by decide +kernel)⟩
theorem lw_p14 : lw_okq (⟨"CounterMine$Reader", "readNewName", "()J"⟩, 9) := ⟨⟨by decide +kernel, by decide +kernel⟩, List.mem_of_getElem? (i := 33) (by decide +kernel), List.mem_of_getElem? (i := 566) (by decide +kernel), List.mem_of_getElem? (i := 567) (by decide +kernel)⟩
theorem lw_p15 : lw_okq (⟨"CounterMine$Reader", "isName", "()Z"⟩, 9) := ⟨⟨by decide +kernel, by decide +kernel⟩, List.mem_of_getElem? (i := 33) (by decide +kernel), List.mem_of_getElem? (i := 570) (by decide +kernel), List.mem_of_getElem? (i := 571) (by decide +kernel)⟩
def lw_privs_1 : List (MethodName × Nat) := [(⟨"CounterMine", "refuse", "(I)I"⟩, 12), (⟨"CounterMine$Tape", "byteAt", "(I)I"⟩, 6), (⟨"CounterMine$Reader", "readField", "()V"⟩, 9), (⟨"CounterMine$Reader", "fail", "(I)V"⟩, 9), (⟨"CounterMine$Reader", "failAt", "(II)V"⟩, 9), (⟨"CounterMine$Reader", "readNamed", "(Ljava/lang/String;II)I"⟩, 9), (⟨"CounterMine$Reader", "readWhole", "(II)I"⟩, 9), (⟨"CounterMine$Reader", "readRow", "()V"⟩, 9), (⟨"CounterMine$Reader", "nextWord", "()V"⟩, 9), (⟨"CounterMine$Reader", "takeRow", "()Z"⟩, 9), (⟨"CounterMine$Reader", "readWall", "()V"⟩, 9), (⟨"CounterMine$Reader", "startBehindRows", "()V"⟩, 9), (⟨"CounterMine$Reader", "readCell", "()I"⟩, 9), (⟨"CounterMine$Reader", "readDrum", "()V"⟩, 9), (⟨"CounterMine$Reader", "readNewName", "()J"⟩, 9), (⟨"CounterMine$Reader", "isName", "()Z"⟩, 9)]
theorem lw_r1 : ∀ q ∈ lw_privs_1, lw_okq q := List.forall_mem_cons.mpr ⟨lw_p0, List.forall_mem_cons.mpr ⟨lw_p1, List.forall_mem_cons.mpr ⟨lw_p2, List.forall_mem_cons.mpr ⟨lw_p3, List.forall_mem_cons.mpr ⟨lw_p4, List.forall_mem_cons.mpr ⟨lw_p5, List.forall_mem_cons.mpr ⟨lw_p6, List.forall_mem_cons.mpr ⟨lw_p7, List.forall_mem_cons.mpr ⟨lw_p8, List.forall_mem_cons.mpr ⟨lw_p9, List.forall_mem_cons.mpr ⟨lw_p10, List.forall_mem_cons.mpr ⟨lw_p11, List.forall_mem_cons.mpr ⟨lw_p12, List.forall_mem_cons.mpr ⟨lw_p13, List.forall_mem_cons.mpr ⟨lw_p14, List.forall_mem_cons.mpr ⟨lw_p15, fun _ h => absurd h List.not_mem_nil⟩⟩⟩⟩⟩⟩⟩⟩⟩⟩⟩⟩⟩⟩⟩⟩
theorem lw_p16 : lw_okq (⟨"CounterMine$Reader", "readGallery", "()V"⟩, 9) := ⟨⟨by decide +kernel, by decide +kernel⟩, List.mem_of_getElem? (i := 33) (by decide +kernel), List.mem_of_getElem? (i := 587) (by decide +kernel), List.mem_of_getElem? (i := 588) (by decide +kernel)⟩
theorem lw_p17 : lw_okq (⟨"CounterMine$Reader", "readSide", "()I"⟩, 9) := ⟨⟨by decide +kernel, by decide +kernel⟩, List.mem_of_getElem? (i := 33) (by decide +kernel), List.mem_of_getElem? (i := 591) (by decide +kernel), List.mem_of_getElem? (i := 592) (by decide +kernel)⟩
theorem lw_p18 : lw_okq (⟨"CounterMine$Reader", "takeWay", "(II)Z"⟩, 9) := ⟨⟨by decide +kernel, by decide +kernel⟩, List.mem_of_getElem? (i := 33) (by decide +kernel), List.mem_of_getElem? (i := 597) (by decide +kernel), List.mem_of_getElem? (i := 598) (by decide +kernel)⟩
theorem lw_p19 : lw_okq (⟨"CounterMine$Reader", "readReport", "()V"⟩, 9) := ⟨⟨by decide +kernel, by decide +kernel⟩, List.mem_of_getElem? (i := 33) (by decide +kernel), List.mem_of_getElem? (i := 617) (by decide +kernel), List.mem_of_getElem? (i := 618) (by decide +kernel)⟩
theorem lw_p20 : lw_okq (⟨"CounterMine$Reader", "readDrumName", "()I"⟩, 9) := ⟨⟨by decide +kernel, by decide +kernel⟩, List.mem_of_getElem? (i := 33) (by decide +kernel), List.mem_of_getElem? (i := 621) (by decide +kernel), List.mem_of_getElem? (i := 622) (by decide +kernel)⟩
theorem lw_p21 : lw_okq (⟨"CounterMine$Reader", "goesOn", "()Z"⟩, 9) := ⟨⟨by decide +kernel, by decide +kernel⟩, List.mem_of_getElem? (i := 33) (by decide +kernel), List.mem_of_getElem? (i := 633) (by decide +kernel), List.mem_of_getElem? (i := 634) (by decide +kernel)⟩
theorem lw_p22 : lw_okq (⟨"CounterMine$Works", "startNext", "(LCounterMine$Plan;I)V"⟩, 7) := ⟨⟨by decide +kernel, by decide +kernel⟩, List.mem_of_getElem? (i := 206) (by decide +kernel), List.mem_of_getElem? (i := 645) (by decide +kernel), List.mem_of_getElem? (i := 646) (by decide +kernel)⟩
theorem lw_p23 : lw_okq (⟨"CounterMine", "allowed", "(Z)Z"⟩, 12) := ⟨⟨by decide +kernel, by decide +kernel⟩, List.mem_of_getElem? (i := 25) (by decide +kernel), List.mem_of_getElem? (i := 701) (by decide +kernel), List.mem_of_getElem? (i := 702) (by decide +kernel)⟩
theorem lw_p24 : lw_okq (⟨"CounterMine", "allowed", "(ZZ)Z"⟩, 12) := ⟨⟨by decide +kernel, by decide +kernel⟩, List.mem_of_getElem? (i := 25) (by decide +kernel), List.mem_of_getElem? (i := 705) (by decide +kernel), List.mem_of_getElem? (i := 706) (by decide +kernel)⟩
theorem lw_p25 : lw_okq (⟨"CounterMine", "isGallery", "(I)Z"⟩, 12) := ⟨⟨by decide +kernel, by decide +kernel⟩, List.mem_of_getElem? (i := 25) (by decide +kernel), List.mem_of_getElem? (i := 731) (by decide +kernel), List.mem_of_getElem? (i := 732) (by decide +kernel)⟩
theorem lw_p26 : lw_okq (⟨"CounterMine", "isDrum", "(I)Z"⟩, 12) := ⟨⟨by decide +kernel, by decide +kernel⟩, List.mem_of_getElem? (i := 25) (by decide +kernel), List.mem_of_getElem? (i := 743) (by decide +kernel), List.mem_of_getElem? (i := 744) (by decide +kernel)⟩
theorem lw_p27 : lw_okq (⟨"CounterMine", "lookAhead", "(I)V"⟩, 12) := ⟨⟨by decide +kernel, by decide +kernel⟩, List.mem_of_getElem? (i := 25) (by decide +kernel), List.mem_of_getElem? (i := 769) (by decide +kernel), List.mem_of_getElem? (i := 770) (by decide +kernel)⟩
theorem lw_p28 : lw_okq (⟨"CounterMine", "firstNight", "(III)I"⟩, 12) := ⟨⟨by decide +kernel, by decide +kernel⟩, List.mem_of_getElem? (i := 25) (by decide +kernel), List.mem_of_getElem? (i := 789) (by decide +kernel), List.mem_of_getElem? (i := 790) (by decide +kernel)⟩
theorem lw_p29 : lw_okq (⟨"CounterMine", "isSo", "(III)Z"⟩, 12) := ⟨⟨by decide +kernel, by decide +kernel⟩, List.mem_of_getElem? (i := 25) (by decide +kernel), List.mem_of_getElem? (i := 793) (by decide +kernel), List.mem_of_getElem? (i := 794) (by decide +kernel)⟩
theorem lw_p30 : lw_okq (⟨"CounterMine$Works", "isOverheard", "(LCounterMine$Plan;I)Z"⟩, 7) := ⟨⟨by decide +kernel, by decide +kernel⟩, List.mem_of_getElem? (i := 206) (by decide +kernel), List.mem_of_getElem? (i := 815) (by decide +kernel), List.mem_of_getElem? (i := 816) (by decide +kernel)⟩
theorem lw_p31 : lw_okq (⟨"CounterMine$Ways", "nearest", "()I"⟩, 2) := ⟨⟨by decide +kernel, by decide +kernel⟩, List.mem_of_getElem? (i := 268) (by decide +kernel), List.mem_of_getElem? (i := 853) (by decide +kernel), List.mem_of_getElem? (i := 854) (by decide +kernel)⟩
def lw_privs_2 : List (MethodName × Nat) := [(⟨"CounterMine$Reader", "readGallery", "()V"⟩, 9), (⟨"CounterMine$Reader", "readSide", "()I"⟩, 9), (⟨"CounterMine$Reader", "takeWay", "(II)Z"⟩, 9), (⟨"CounterMine$Reader", "readReport", "()V"⟩, 9), (⟨"CounterMine$Reader", "readDrumName", "()I"⟩, 9), (⟨"CounterMine$Reader", "goesOn", "()Z"⟩, 9), (⟨"CounterMine$Works", "startNext", "(LCounterMine$Plan;I)V"⟩, 7), (⟨"CounterMine", "allowed", "(Z)Z"⟩, 12), (⟨"CounterMine", "allowed", "(ZZ)Z"⟩, 12), (⟨"CounterMine", "isGallery", "(I)Z"⟩, 12), (⟨"CounterMine", "isDrum", "(I)Z"⟩, 12), (⟨"CounterMine", "lookAhead", "(I)V"⟩, 12), (⟨"CounterMine", "firstNight", "(III)I"⟩, 12), (⟨"CounterMine", "isSo", "(III)Z"⟩, 12), (⟨"CounterMine$Works", "isOverheard", "(LCounterMine$Plan;I)Z"⟩, 7), (⟨"CounterMine$Ways", "nearest", "()I"⟩, 2)]
theorem lw_r2 : ∀ q ∈ lw_privs_2, lw_okq q := List.forall_mem_cons.mpr ⟨lw_p16, List.forall_mem_cons.mpr ⟨lw_p17, List.forall_mem_cons.mpr ⟨lw_p18, List.forall_mem_cons.mpr ⟨lw_p19, List.forall_mem_cons.mpr ⟨lw_p20, List.forall_mem_cons.mpr ⟨lw_p21, List.forall_mem_cons.mpr ⟨lw_p22, List.forall_mem_cons.mpr ⟨lw_p23, List.forall_mem_cons.mpr ⟨lw_p24, List.forall_mem_cons.mpr ⟨lw_p25, List.forall_mem_cons.mpr ⟨lw_p26, List.forall_mem_cons.mpr ⟨lw_p27, List.forall_mem_cons.mpr ⟨lw_p28, List.forall_mem_cons.mpr ⟨lw_p29, List.forall_mem_cons.mpr ⟨lw_p30, List.forall_mem_cons.mpr ⟨lw_p31, fun _ h => absurd h List.not_mem_nil⟩⟩⟩⟩⟩⟩⟩⟩⟩⟩⟩⟩⟩⟩⟩⟩
theorem lw_p32 : lw_okq (⟨"CounterMine$Ways", "lower", "(II)V"⟩, 2) := ⟨⟨by decide +kernel, by decide +kernel⟩, List.mem_of_getElem? (i := 268) (by decide +kernel), List.mem_of_getElem? (i := 864) (by decide +kernel), List.mem_of_getElem? (i := 865) (by decide +kernel)⟩
theorem lw_p33 : lw_okq (⟨"CounterMine$Cut", "findWay", "(LCounterMine$Plan;II)Z"⟩, 5) := ⟨⟨by decide +kernel, by decide +kernel⟩, List.mem_of_getElem? (i := 281) (by decide +kernel), List.mem_of_getElem? (i := 903) (by decide +kernel), List.mem_of_getElem? (i := 904) (by decide +kernel)⟩
theorem lw_p34 : lw_okq (⟨"CounterMine$Cut", "reach", "(II)V"⟩, 5) := ⟨⟨by decide +kernel, by decide +kernel⟩, List.mem_of_getElem? (i := 281) (by decide +kernel), List.mem_of_getElem? (i := 907) (by decide +kernel), List.mem_of_getElem? (i := 908) (by decide +kernel)⟩
theorem lw_p35 : lw_okq (⟨"CounterMine$Cut", "flows", "(II)Z"⟩, 5) := ⟨⟨by decide +kernel, by decide +kernel⟩, List.mem_of_getElem? (i := 281) (by decide +kernel), List.mem_of_getElem? (i := 914) (by decide +kernel), List.mem_of_getElem? (i := 915) (by decide +kernel)⟩
theorem lw_p36 : lw_okq (⟨"CounterMine$Cut", "takeWay", "(II)V"⟩, 5) := ⟨⟨by decide +kernel, by decide +kernel⟩, List.mem_of_getElem? (i := 281) (by decide +kernel), List.mem_of_getElem? (i := 921) (by decide +kernel), List.mem_of_getElem? (i := 922) (by decide +kernel)⟩
theorem lw_p37 : lw_okq (⟨"CounterMine$Cut", "turn", "(II)V"⟩, 5) := ⟨⟨by decide +kernel, by decide +kernel⟩, List.mem_of_getElem? (i := 281) (by decide +kernel), List.mem_of_getElem? (i := 925) (by decide +kernel), List.mem_of_getElem? (i := 926) (by decide +kernel)⟩
theorem lw_p38 : lw_okq (⟨"CounterMine", "isSoil", "(II)Z"⟩, 12) := ⟨⟨by decide +kernel, by decide +kernel⟩, List.mem_of_getElem? (i := 25) (by decide +kernel), List.mem_of_getElem? (i := 934) (by decide +kernel), List.mem_of_getElem? (i := 935) (by decide +kernel)⟩
theorem lw_p39 : lw_okq (⟨"CounterMine", "isFit", "(I)Z"⟩, 12) := ⟨⟨by decide +kernel, by decide +kernel⟩, List.mem_of_getElem? (i := 25) (by decide +kernel), List.mem_of_getElem? (i := 962) (by decide +kernel), List.mem_of_getElem? (i := 963) (by decide +kernel)⟩
theorem lw_p40 : lw_okq (⟨"CounterMine$Share", "set", "(JJ)V"⟩, 2) := ⟨⟨by decide +kernel, by decide +kernel⟩, List.mem_of_getElem? (i := 328) (by decide +kernel), List.mem_of_getElem? (i := 1050) (by decide +kernel), List.mem_of_getElem? (i := 1051) (by decide +kernel)⟩
theorem lw_p41 : lw_okq (⟨"java/lang/Throwable", "fillInStackTrace", "(I)Ljava/lang/Throwable;"⟩, 6) := ⟨⟨by decide +kernel, by decide +kernel⟩, List.mem_of_getElem? (i := 1178) (by decide +kernel), List.mem_of_getElem? (i := 1176) (by decide +kernel), List.mem_of_getElem? (i := 1177) (by decide +kernel)⟩
theorem lw_p42 : lw_okq (⟨"CounterMineModel", "refused", "(I)I"⟩, 33) := ⟨⟨by decide +kernel, by decide +kernel⟩, List.mem_of_getElem? (i := 1207) (by decide +kernel), List.mem_of_getElem? (i := 1326) (by decide +kernel), List.mem_of_getElem? (i := 1327) (by decide +kernel)⟩
theorem lw_p43 : lw_okq (⟨"CounterMineModel", "goesOn", "()V"⟩, 33) := ⟨⟨by decide +kernel, by decide +kernel⟩, List.mem_of_getElem? (i := 1207) (by decide +kernel), List.mem_of_getElem? (i := 1422) (by decide +kernel), List.mem_of_getElem? (i := 1423) (by decide +kernel)⟩
theorem lw_p44 : lw_okq (⟨"CounterMineModel", "byteAt", "(I)I"⟩, 33) := ⟨⟨by decide +kernel, by decide +kernel⟩, List.mem_of_getElem? (i := 1207) (by decide +kernel), List.mem_of_getElem? (i := 1426) (by decide +kernel), List.mem_of_getElem? (i := 1427) (by decide +kernel)⟩
theorem lw_p45 : lw_okq (⟨"CounterMineModel", "readAll", "()V"⟩, 33) := ⟨⟨by decide +kernel, by decide +kernel⟩, List.mem_of_getElem? (i := 1207) (by decide +kernel), List.mem_of_getElem? (i := 1437) (by decide +kernel), List.mem_of_getElem? (i := 1438) (by decide +kernel)⟩
theorem lw_p46 : lw_okq (⟨"CounterMineModel", "readLine", "()V"⟩, 33) := ⟨⟨by decide +kernel, by decide +kernel⟩, List.mem_of_getElem? (i := 1207) (by decide +kernel), List.mem_of_getElem? (i := 1441) (by decide +kernel), List.mem_of_getElem? (i := 1442) (by decide +kernel)⟩
theorem lw_p47 : lw_okq (⟨"CounterMineModel", "isWord", "(Ljava/lang/String;)Z"⟩, 33) := ⟨⟨by decide +kernel, by decide +kernel⟩, List.mem_of_getElem? (i := 1207) (by decide +kernel), List.mem_of_getElem? (i := 1446) (by decide +kernel), List.mem_of_getElem? (i := 1447) (by decide +kernel)⟩
def lw_privs_3 : List (MethodName × Nat) := [(⟨"CounterMine$Ways", "lower", "(II)V"⟩, 2), (⟨"CounterMine$Cut", "findWay", "(LCounterMine$Plan;II)Z"⟩, 5), (⟨"CounterMine$Cut", "reach", "(II)V"⟩, 5), (⟨"CounterMine$Cut", "flows", "(II)Z"⟩, 5), (⟨"CounterMine$Cut", "takeWay", "(II)V"⟩, 5), (⟨"CounterMine$Cut", "turn", "(II)V"⟩, 5), (⟨"CounterMine", "isSoil", "(II)Z"⟩, 12), (⟨"CounterMine", "isFit", "(I)Z"⟩, 12), (⟨"CounterMine$Share", "set", "(JJ)V"⟩, 2), (⟨"java/lang/Throwable", "fillInStackTrace", "(I)Ljava/lang/Throwable;"⟩, 6), (⟨"CounterMineModel", "refused", "(I)I"⟩, 33), (⟨"CounterMineModel", "goesOn", "()V"⟩, 33), (⟨"CounterMineModel", "byteAt", "(I)I"⟩, 33), (⟨"CounterMineModel", "readAll", "()V"⟩, 33), (⟨"CounterMineModel", "readLine", "()V"⟩, 33), (⟨"CounterMineModel", "isWord", "(Ljava/lang/String;)Z"⟩, 33)]
theorem lw_r3 : ∀ q ∈ lw_privs_3, lw_okq q := List.forall_mem_cons.mpr ⟨lw_p32, List.forall_mem_cons.mpr ⟨lw_p33, List.forall_mem_cons.mpr ⟨lw_p34, List.forall_mem_cons.mpr ⟨lw_p35, List.forall_mem_cons.mpr ⟨lw_p36, List.forall_mem_cons.mpr ⟨lw_p37, List.forall_mem_cons.mpr ⟨lw_p38, List.forall_mem_cons.mpr ⟨lw_p39, List.forall_mem_cons.mpr ⟨lw_p40, List.forall_mem_cons.mpr ⟨lw_p41, List.forall_mem_cons.mpr ⟨lw_p42, List.forall_mem_cons.mpr ⟨lw_p43, List.forall_mem_cons.mpr ⟨lw_p44, List.forall_mem_cons.mpr ⟨lw_p45, List.forall_mem_cons.mpr ⟨lw_p46, List.forall_mem_cons.mpr ⟨lw_p47, fun _ h => absurd h List.not_mem_nil⟩⟩⟩⟩⟩⟩⟩⟩⟩⟩⟩⟩⟩⟩⟩⟩
theorem lw_p48 : lw_okq (⟨"CounterMineModel", "readField", "()V"⟩, 33) := ⟨⟨by decide +kernel, by decide +kernel⟩, List.mem_of_getElem? (i := 1207) (by decide +kernel), List.mem_of_getElem? (i := 1455) (by decide +kernel), List.mem_of_getElem? (i := 1456) (by decide +kernel)⟩
theorem lw_p49 : lw_okq (⟨"CounterMineModel", "flaw", "(I)V"⟩, 33) := ⟨⟨by decide +kernel, by decide +kernel⟩, List.mem_of_getElem? (i := 1207) (by decide +kernel), List.mem_of_getElem? (i := 1459) (by decide +kernel), List.mem_of_getElem? (i := 1460) (by decide +kernel)⟩
theorem lw_p50 : lw_okq (⟨"CounterMineModel", "readPart", "(Ljava/lang/String;II)I"⟩, 33) := ⟨⟨by decide +kernel, by decide +kernel⟩, List.mem_of_getElem? (i := 1207) (by decide +kernel), List.mem_of_getElem? (i := 1464) (by decide +kernel), List.mem_of_getElem? (i := 1465) (by decide +kernel)⟩
theorem lw_p51 : lw_okq (⟨"CounterMineModel", "needs", "(Ljava/lang/String;)V"⟩, 33) := ⟨⟨by decide +kernel, by decide +kernel⟩, List.mem_of_getElem? (i := 1207) (by decide +kernel), List.mem_of_getElem? (i := 1468) (by decide +kernel), List.mem_of_getElem? (i := 1469) (by decide +kernel)⟩
theorem lw_p52 : lw_okq (⟨"CounterMineModel", "readWhole", "(II)I"⟩, 33) := ⟨⟨by decide +kernel, by decide +kernel⟩, List.mem_of_getElem? (i := 1207) (by decide +kernel), List.mem_of_getElem? (i := 1472) (by decide +kernel), List.mem_of_getElem? (i := 1473) (by decide +kernel)⟩
theorem lw_p53 : lw_okq (⟨"CounterMineModel", "wholeAt", "(II)I"⟩, 33) := ⟨⟨by decide +kernel, by decide +kernel⟩, List.mem_of_getElem? (i := 1207) (by decide +kernel), List.mem_of_getElem? (i := 1476) (by decide +kernel), List.mem_of_getElem? (i := 1477) (by decide +kernel)⟩
theorem lw_p54 : lw_okq (⟨"CounterMineModel", "readRow", "()V"⟩, 33) := ⟨⟨by decide +kernel, by decide +kernel⟩, List.mem_of_getElem? (i := 1207) (by decide +kernel), List.mem_of_getElem? (i := 1487) (by decide +kernel), List.mem_of_getElem? (i := 1488) (by decide +kernel)⟩
theorem lw_p55 : lw_okq (⟨"CounterMineModel", "isRow", "()Z"⟩, 33) := ⟨⟨by decide +kernel, by decide +kernel⟩, List.mem_of_getElem? (i := 1207) (by decide +kernel), List.mem_of_getElem? (i := 1491) (by decide +kernel), List.mem_of_getElem? (i := 1492) (by decide +kernel)⟩
theorem lw_p56 : lw_okq (⟨"CounterMineModel", "letterAt", "(I)I"⟩, 33) := ⟨⟨by decide +kernel, by decide +kernel⟩, List.mem_of_getElem? (i := 1207) (by decide +kernel), List.mem_of_getElem? (i := 1495) (by decide +kernel), List.mem_of_getElem? (i := 1496) (by decide +kernel)⟩
theorem lw_p57 : lw_okq (⟨"CounterMineModel", "readWall", "()V"⟩, 33) := ⟨⟨by decide +kernel, by decide +kernel⟩, List.mem_of_getElem? (i := 1207) (by decide +kernel), List.mem_of_getElem? (i := 1504) (by decide +kernel), List.mem_of_getElem? (i := 1505) (by decide +kernel)⟩
theorem lw_p58 : lw_okq (⟨"CounterMineModel", "lineBegins", "(II)V"⟩, 33) := ⟨⟨by decide +kernel, by decide +kernel⟩, List.mem_of_getElem? (i := 1207) (by decide +kernel), List.mem_of_getElem? (i := 1508) (by decide +kernel), List.mem_of_getElem? (i := 1509) (by decide +kernel)⟩
theorem lw_p59 : lw_okq (⟨"CounterMineModel", "readCell", "()I"⟩, 33) := ⟨⟨by decide +kernel, by decide +kernel⟩, List.mem_of_getElem? (i := 1207) (by decide +kernel), List.mem_of_getElem? (i := 1512) (by decide +kernel), List.mem_of_getElem? (i := 1513) (by decide +kernel)⟩
theorem lw_p60 : lw_okq (⟨"CounterMineModel", "readDrum", "()V"⟩, 33) := ⟨⟨by decide +kernel, by decide +kernel⟩, List.mem_of_getElem? (i := 1207) (by decide +kernel), List.mem_of_getElem? (i := 1521) (by decide +kernel), List.mem_of_getElem? (i := 1522) (by decide +kernel)⟩
theorem lw_p61 : lw_okq (⟨"CounterMineModel", "readFresh", "()J"⟩, 33) := ⟨⟨by decide +kernel, by decide +kernel⟩, List.mem_of_getElem? (i := 1207) (by decide +kernel), List.mem_of_getElem? (i := 1525) (by decide +kernel), List.mem_of_getElem? (i := 1526) (by decide +kernel)⟩
theorem lw_p62 : lw_okq (⟨"CounterMineModel", "isName", "()Z"⟩, 33) := ⟨⟨by decide +kernel, by decide +kernel⟩, List.mem_of_getElem? (i := 1207) (by decide +kernel), List.mem_of_getElem? (i := 1529) (by decide +kernel), List.mem_of_getElem? (i := 1530) (by decide +kernel)⟩
theorem lw_p63 : lw_okq (⟨"CounterMineModel", "names", "(JII)V"⟩, 33) := ⟨⟨by decide +kernel, by decide +kernel⟩, List.mem_of_getElem? (i := 1207) (by decide +kernel), List.mem_of_getElem? (i := 1539) (by decide +kernel), List.mem_of_getElem? (i := 1540) (by decide +kernel)⟩
def lw_privs_4 : List (MethodName × Nat) := [(⟨"CounterMineModel", "readField", "()V"⟩, 33), (⟨"CounterMineModel", "flaw", "(I)V"⟩, 33), (⟨"CounterMineModel", "readPart", "(Ljava/lang/String;II)I"⟩, 33), (⟨"CounterMineModel", "needs", "(Ljava/lang/String;)V"⟩, 33), (⟨"CounterMineModel", "readWhole", "(II)I"⟩, 33), (⟨"CounterMineModel", "wholeAt", "(II)I"⟩, 33), (⟨"CounterMineModel", "readRow", "()V"⟩, 33), (⟨"CounterMineModel", "isRow", "()Z"⟩, 33), (⟨"CounterMineModel", "letterAt", "(I)I"⟩, 33), (⟨"CounterMineModel", "readWall", "()V"⟩, 33), (⟨"CounterMineModel", "lineBegins", "(II)V"⟩, 33), (⟨"CounterMineModel", "readCell", "()I"⟩, 33), (⟨"CounterMineModel", "readDrum", "()V"⟩, 33), (⟨"CounterMineModel", "readFresh", "()J"⟩, 33), (⟨"CounterMineModel", "isName", "()Z"⟩, 33), (⟨"CounterMineModel", "names", "(JII)V"⟩, 33)]
theorem lw_r4 : ∀ q ∈ lw_privs_4, lw_okq q := List.forall_mem_cons.mpr ⟨lw_p48, List.forall_mem_cons.mpr ⟨lw_p49, List.forall_mem_cons.mpr ⟨lw_p50, List.forall_mem_cons.mpr ⟨lw_p51, List.forall_mem_cons.mpr ⟨lw_p52, List.forall_mem_cons.mpr ⟨lw_p53, List.forall_mem_cons.mpr ⟨lw_p54, List.forall_mem_cons.mpr ⟨lw_p55, List.forall_mem_cons.mpr ⟨lw_p56, List.forall_mem_cons.mpr ⟨lw_p57, List.forall_mem_cons.mpr ⟨lw_p58, List.forall_mem_cons.mpr ⟨lw_p59, List.forall_mem_cons.mpr ⟨lw_p60, List.forall_mem_cons.mpr ⟨lw_p61, List.forall_mem_cons.mpr ⟨lw_p62, List.forall_mem_cons.mpr ⟨lw_p63, fun _ h => absurd h List.not_mem_nil⟩⟩⟩⟩⟩⟩⟩⟩⟩⟩⟩⟩⟩⟩⟩⟩
theorem lw_p64 : lw_okq (⟨"CounterMineModel", "readDig", "()V"⟩, 33) := ⟨⟨by decide +kernel, by decide +kernel⟩, List.mem_of_getElem? (i := 1207) (by decide +kernel), List.mem_of_getElem? (i := 1543) (by decide +kernel), List.mem_of_getElem? (i := 1544) (by decide +kernel)⟩
theorem lw_p65 : lw_okq (⟨"CounterMineModel", "laysWay", "(II)Z"⟩, 33) := ⟨⟨by decide +kernel, by decide +kernel⟩, List.mem_of_getElem? (i := 1207) (by decide +kernel), List.mem_of_getElem? (i := 1549) (by decide +kernel), List.mem_of_getElem? (i := 1550) (by decide +kernel)⟩
theorem lw_p66 : lw_okq (⟨"CounterMineModel", "readHeard", "()V"⟩, 33) := ⟨⟨by decide +kernel, by decide +kernel⟩, List.mem_of_getElem? (i := 1207) (by decide +kernel), List.mem_of_getElem? (i := 1565) (by decide +kernel), List.mem_of_getElem? (i := 1566) (by decide +kernel)⟩
theorem lw_p67 : lw_okq (⟨"CounterMineModel", "eatsSemicolon", "()Z"⟩, 33) := ⟨⟨by decide +kernel, by decide +kernel⟩, List.mem_of_getElem? (i := 1207) (by decide +kernel), List.mem_of_getElem? (i := 1573) (by decide +kernel), List.mem_of_getElem? (i := 1574) (by decide +kernel)⟩
theorem lw_p68 : lw_okq (⟨"CounterMineModel", "wayAt", "(II)I"⟩, 33) := ⟨⟨by decide +kernel, by decide +kernel⟩, List.mem_of_getElem? (i := 1207) (by decide +kernel), List.mem_of_getElem? (i := 1577) (by decide +kernel), List.mem_of_getElem? (i := 1578) (by decide +kernel)⟩
theorem lw_p69 : lw_okq (⟨"CounterMineModel", "begins", "(I)V"⟩, 33) := ⟨⟨by decide +kernel, by decide +kernel⟩, List.mem_of_getElem? (i := 1207) (by decide +kernel), List.mem_of_getElem? (i := 1581) (by decide +kernel), List.mem_of_getElem? (i := 1582) (by decide +kernel)⟩
theorem lw_p70 : lw_okq (⟨"CounterMineModel", "isDigging", "(I)Z"⟩, 33) := ⟨⟨by decide +kernel, by decide +kernel⟩, List.mem_of_getElem? (i := 1207) (by decide +kernel), List.mem_of_getElem? (i := 1585) (by decide +kernel), List.mem_of_getElem? (i := 1586) (by decide +kernel)⟩
theorem lw_p71 : lw_okq (⟨"CounterMineModel", "takes", "(I)I"⟩, 33) := ⟨⟨by decide +kernel, by decide +kernel⟩, List.mem_of_getElem? (i := 1207) (by decide +kernel), List.mem_of_getElem? (i := 1589) (by decide +kernel), List.mem_of_getElem? (i := 1590) (by decide +kernel)⟩
theorem lw_p72 : lw_okq (⟨"CounterMineModel", "good", "(I)I"⟩, 33) := ⟨⟨by decide +kernel, by decide +kernel⟩, List.mem_of_getElem? (i := 1207) (by decide +kernel), List.mem_of_getElem? (i := 1593) (by decide +kernel), List.mem_of_getElem? (i := 1594) (by decide +kernel)⟩
theorem lw_p73 : lw_okq (⟨"CounterMineModel", "isIn", "(II)Z"⟩, 33) := ⟨⟨by decide +kernel, by decide +kernel⟩, List.mem_of_getElem? (i := 1207) (by decide +kernel), List.mem_of_getElem? (i := 1609) (by decide +kernel), List.mem_of_getElem? (i := 1610) (by decide +kernel)⟩
theorem lw_p74 : lw_okq (⟨"CounterMineModel", "works", "()V"⟩, 33) := ⟨⟨by decide +kernel, by decide +kernel⟩, List.mem_of_getElem? (i := 1207) (by decide +kernel), List.mem_of_getElem? (i := 1613) (by decide +kernel), List.mem_of_getElem? (i := 1614) (by decide +kernel)⟩
theorem lw_p75 : lw_okq (⟨"CounterMineModel", "galleriesAt", "(I)I"⟩, 33) := ⟨⟨by decide +kernel, by decide +kernel⟩, List.mem_of_getElem? (i := 1207) (by decide +kernel), List.mem_of_getElem? (i := 1620) (by decide +kernel), List.mem_of_getElem? (i := 1621) (by decide +kernel)⟩
theorem lw_p76 : lw_okq (⟨"CounterMineModel", "placeOf", "(I)I"⟩, 33) := ⟨⟨by decide +kernel, by decide +kernel⟩, List.mem_of_getElem? (i := 1207) (by decide +kernel), List.mem_of_getElem? (i := 1624) (by decide +kernel), List.mem_of_getElem? (i := 1625) (by decide +kernel)⟩
theorem lw_p77 : lw_okq (⟨"CounterMineModel", "isDig", "(I)Z"⟩, 33) := ⟨⟨by decide +kernel, by decide +kernel⟩, List.mem_of_getElem? (i := 1207) (by decide +kernel), List.mem_of_getElem? (i := 1632) (by decide +kernel), List.mem_of_getElem? (i := 1633) (by decide +kernel)⟩
theorem lw_p78 : lw_okq (⟨"CounterMineModel", "isDrum", "(I)Z"⟩, 33) := ⟨⟨by decide +kernel, by decide +kernel⟩, List.mem_of_getElem? (i := 1207) (by decide +kernel), List.mem_of_getElem? (i := 1643) (by decide +kernel), List.mem_of_getElem? (i := 1644) (by decide +kernel)⟩
theorem lw_p79 : lw_okq (⟨"CounterMineModel", "dugNow", "()I"⟩, 33) := ⟨⟨by decide +kernel, by decide +kernel⟩, List.mem_of_getElem? (i := 1207) (by decide +kernel), List.mem_of_getElem? (i := 1651) (by decide +kernel), List.mem_of_getElem? (i := 1652) (by decide +kernel)⟩
def lw_privs_5 : List (MethodName × Nat) := [(⟨"CounterMineModel", "readDig", "()V"⟩, 33), (⟨"CounterMineModel", "laysWay", "(II)Z"⟩, 33), (⟨"CounterMineModel", "readHeard", "()V"⟩, 33), (⟨"CounterMineModel", "eatsSemicolon", "()Z"⟩, 33), (⟨"CounterMineModel", "wayAt", "(II)I"⟩, 33), (⟨"CounterMineModel", "begins", "(I)V"⟩, 33), (⟨"CounterMineModel", "isDigging", "(I)Z"⟩, 33), (⟨"CounterMineModel", "takes", "(I)I"⟩, 33), (⟨"CounterMineModel", "good", "(I)I"⟩, 33), (⟨"CounterMineModel", "isIn", "(II)Z"⟩, 33), (⟨"CounterMineModel", "works", "()V"⟩, 33), (⟨"CounterMineModel", "galleriesAt", "(I)I"⟩, 33), (⟨"CounterMineModel", "placeOf", "(I)I"⟩, 33), (⟨"CounterMineModel", "isDig", "(I)Z"⟩, 33), (⟨"CounterMineModel", "isDrum", "(I)Z"⟩, 33), (⟨"CounterMineModel", "dugNow", "()I"⟩, 33)]
theorem lw_r5 : ∀ q ∈ lw_privs_5, lw_okq q := List.forall_mem_cons.mpr ⟨lw_p64, List.forall_mem_cons.mpr ⟨lw_p65, List.forall_mem_cons.mpr ⟨lw_p66, List.forall_mem_cons.mpr ⟨lw_p67, List.forall_mem_cons.mpr ⟨lw_p68, List.forall_mem_cons.mpr ⟨lw_p69, List.forall_mem_cons.mpr ⟨lw_p70, List.forall_mem_cons.mpr ⟨lw_p71, List.forall_mem_cons.mpr ⟨lw_p72, List.forall_mem_cons.mpr ⟨lw_p73, List.forall_mem_cons.mpr ⟨lw_p74, List.forall_mem_cons.mpr ⟨lw_p75, List.forall_mem_cons.mpr ⟨lw_p76, List.forall_mem_cons.mpr ⟨lw_p77, List.forall_mem_cons.mpr ⟨lw_p78, List.forall_mem_cons.mpr ⟨lw_p79, fun _ h => absurd h List.not_mem_nil⟩⟩⟩⟩⟩⟩⟩⟩⟩⟩⟩⟩⟩⟩⟩⟩
theorem lw_p80 : lw_okq (⟨"CounterMineModel", "refusesNights", "(ZI)I"⟩, 33) := ⟨⟨by decide +kernel, by decide +kernel⟩, List.mem_of_getElem? (i := 1207) (by decide +kernel), List.mem_of_getElem? (i := 1666) (by decide +kernel), List.mem_of_getElem? (i := 1667) (by decide +kernel)⟩
theorem lw_p81 : lw_okq (⟨"CounterMineModel", "worksIn", "(I)V"⟩, 33) := ⟨⟨by decide +kernel, by decide +kernel⟩, List.mem_of_getElem? (i := 1207) (by decide +kernel), List.mem_of_getElem? (i := 1670) (by decide +kernel), List.mem_of_getElem? (i := 1671) (by decide +kernel)⟩
theorem lw_p82 : lw_okq (⟨"CounterMineModel", "goesBy", "()I"⟩, 33) := ⟨⟨by decide +kernel, by decide +kernel⟩, List.mem_of_getElem? (i := 1207) (by decide +kernel), List.mem_of_getElem? (i := 1674) (by decide +kernel), List.mem_of_getElem? (i := 1675) (by decide +kernel)⟩
theorem lw_p83 : lw_okq (⟨"CounterMineModel", "breakIn", "(II)Z"⟩, 33) := ⟨⟨by decide +kernel, by decide +kernel⟩, List.mem_of_getElem? (i := 1207) (by decide +kernel), List.mem_of_getElem? (i := 1693) (by decide +kernel), List.mem_of_getElem? (i := 1694) (by decide +kernel)⟩
theorem lw_p84 : lw_okq (⟨"CounterMineModel", "breaking", "()I"⟩, 33) := ⟨⟨by decide +kernel, by decide +kernel⟩, List.mem_of_getElem? (i := 1207) (by decide +kernel), List.mem_of_getElem? (i := 1701) (by decide +kernel), List.mem_of_getElem? (i := 1702) (by decide +kernel)⟩
theorem lw_p85 : lw_okq (⟨"CounterMineModel", "pair", "()I"⟩, 33) := ⟨⟨by decide +kernel, by decide +kernel⟩, List.mem_of_getElem? (i := 1207) (by decide +kernel), List.mem_of_getElem? (i := 1705) (by decide +kernel), List.mem_of_getElem? (i := 1706) (by decide +kernel)⟩
theorem lw_p86 : lw_okq (⟨"CounterMineModel", "isHeard", "(II)Z"⟩, 33) := ⟨⟨by decide +kernel, by decide +kernel⟩, List.mem_of_getElem? (i := 1207) (by decide +kernel), List.mem_of_getElem? (i := 1717) (by decide +kernel), List.mem_of_getElem? (i := 1718) (by decide +kernel)⟩
theorem lw_p87 : lw_okq (⟨"CounterMineModel", "lowers", "(IZ)V"⟩, 33) := ⟨⟨by decide +kernel, by decide +kernel⟩, List.mem_of_getElem? (i := 1207) (by decide +kernel), List.mem_of_getElem? (i := 1729) (by decide +kernel), List.mem_of_getElem? (i := 1730) (by decide +kernel)⟩
theorem lw_p88 : lw_okq (⟨"CounterMineModel", "isQuiet", "(I)Z"⟩, 33) := ⟨⟨by decide +kernel, by decide +kernel⟩, List.mem_of_getElem? (i := 1207) (by decide +kernel), List.mem_of_getElem? (i := 1733) (by decide +kernel), List.mem_of_getElem? (i := 1734) (by decide +kernel)⟩
theorem lw_p89 : lw_okq (⟨"CounterMineModel", "byOf", "(I)I"⟩, 33) := ⟨⟨by decide +kernel, by decide +kernel⟩, List.mem_of_getElem? (i := 1207) (by decide +kernel), List.mem_of_getElem? (i := 1737) (by decide +kernel), List.mem_of_getElem? (i := 1738) (by decide +kernel)⟩
theorem lw_p90 : lw_okq (⟨"CounterMineModel", "last", "()I"⟩, 33) := ⟨⟨by decide +kernel, by decide +kernel⟩, List.mem_of_getElem? (i := 1207) (by decide +kernel), List.mem_of_getElem? (i := 1757) (by decide +kernel), List.mem_of_getElem? (i := 1758) (by decide +kernel)⟩
theorem lw_p91 : lw_okq (⟨"CounterMineModel", "isSoil", "(I)Z"⟩, 33) := ⟨⟨by decide +kernel, by decide +kernel⟩, List.mem_of_getElem? (i := 1207) (by decide +kernel), List.mem_of_getElem? (i := 1761) (by decide +kernel), List.mem_of_getElem? (i := 1762) (by decide +kernel)⟩
theorem lw_p92 : lw_okq (⟨"CounterMineModel", "finds", "(II)Z"⟩, 33) := ⟨⟨by decide +kernel, by decide +kernel⟩, List.mem_of_getElem? (i := 1207) (by decide +kernel), List.mem_of_getElem? (i := 1769) (by decide +kernel), List.mem_of_getElem? (i := 1770) (by decide +kernel)⟩
theorem lw_p93 : lw_okq (⟨"CounterMineModel", "reaches", "(II)V"⟩, 33) := ⟨⟨by decide +kernel, by decide +kernel⟩, List.mem_of_getElem? (i := 1207) (by decide +kernel), List.mem_of_getElem? (i := 1773) (by decide +kernel), List.mem_of_getElem? (i := 1774) (by decide +kernel)⟩
theorem lw_p94 : lw_okq (⟨"CounterMineModel", "lays", "(II)V"⟩, 33) := ⟨⟨by decide +kernel, by decide +kernel⟩, List.mem_of_getElem? (i := 1207) (by decide +kernel), List.mem_of_getElem? (i := 1780) (by decide +kernel), List.mem_of_getElem? (i := 1781) (by decide +kernel)⟩
theorem lw_p95 : lw_okq (⟨"CounterMineModel", "wayTo", "(II)I"⟩, 33) := ⟨⟨by decide +kernel, by decide +kernel⟩, List.mem_of_getElem? (i := 1207) (by decide +kernel), List.mem_of_getElem? (i := 1784) (by decide +kernel), List.mem_of_getElem? (i := 1785) (by decide +kernel)⟩
def lw_privs_6 : List (MethodName × Nat) := [(⟨"CounterMineModel", "refusesNights", "(ZI)I"⟩, 33), (⟨"CounterMineModel", "worksIn", "(I)V"⟩, 33), (⟨"CounterMineModel", "goesBy", "()I"⟩, 33), (⟨"CounterMineModel", "breakIn", "(II)Z"⟩, 33), (⟨"CounterMineModel", "breaking", "()I"⟩, 33), (⟨"CounterMineModel", "pair", "()I"⟩, 33), (⟨"CounterMineModel", "isHeard", "(II)Z"⟩, 33), (⟨"CounterMineModel", "lowers", "(IZ)V"⟩, 33), (⟨"CounterMineModel", "isQuiet", "(I)Z"⟩, 33), (⟨"CounterMineModel", "byOf", "(I)I"⟩, 33), (⟨"CounterMineModel", "last", "()I"⟩, 33), (⟨"CounterMineModel", "isSoil", "(I)Z"⟩, 33), (⟨"CounterMineModel", "finds", "(II)Z"⟩, 33), (⟨"CounterMineModel", "reaches", "(II)V"⟩, 33), (⟨"CounterMineModel", "lays", "(II)V"⟩, 33), (⟨"CounterMineModel", "wayTo", "(II)I"⟩, 33)]
theorem lw_r6 : ∀ q ∈ lw_privs_6, lw_okq q := List.forall_mem_cons.mpr ⟨lw_p80, List.forall_mem_cons.mpr ⟨lw_p81, List.forall_mem_cons.mpr ⟨lw_p82, List.forall_mem_cons.mpr ⟨lw_p83, List.forall_mem_cons.mpr ⟨lw_p84, List.forall_mem_cons.mpr ⟨lw_p85, List.forall_mem_cons.mpr ⟨lw_p86, List.forall_mem_cons.mpr ⟨lw_p87, List.forall_mem_cons.mpr ⟨lw_p88, List.forall_mem_cons.mpr ⟨lw_p89, List.forall_mem_cons.mpr ⟨lw_p90, List.forall_mem_cons.mpr ⟨lw_p91, List.forall_mem_cons.mpr ⟨lw_p92, List.forall_mem_cons.mpr ⟨lw_p93, List.forall_mem_cons.mpr ⟨lw_p94, List.forall_mem_cons.mpr ⟨lw_p95, fun _ h => absurd h List.not_mem_nil⟩⟩⟩⟩⟩⟩⟩⟩⟩⟩⟩⟩⟩⟩⟩⟩
theorem lw_p96 : lw_okq (⟨"CounterMineModel", "refusesCharge", "(III)I"⟩, 33) := ⟨⟨by decide +kernel, by decide +kernel⟩, List.mem_of_getElem? (i := 1207) (by decide +kernel), List.mem_of_getElem? (i := 1792) (by decide +kernel), List.mem_of_getElem? (i := 1793) (by decide +kernel)⟩
theorem lw_p97 : lw_okq (⟨"CounterMineModel", "shutBy", "(II)I"⟩, 33) := ⟨⟨by decide +kernel, by decide +kernel⟩, List.mem_of_getElem? (i := 1207) (by decide +kernel), List.mem_of_getElem? (i := 1796) (by decide +kernel), List.mem_of_getElem? (i := 1797) (by decide +kernel)⟩
theorem lw_p98 : lw_okq (⟨"CounterMineModel", "fitting", "()V"⟩, 33) := ⟨⟨by decide +kernel, by decide +kernel⟩, List.mem_of_getElem? (i := 1207) (by decide +kernel), List.mem_of_getElem? (i := 1808) (by decide +kernel), List.mem_of_getElem? (i := 1809) (by decide +kernel)⟩
theorem lw_p99 : lw_okq (⟨"CounterMineModel", "isFit", "(I)Z"⟩, 33) := ⟨⟨by decide +kernel, by decide +kernel⟩, List.mem_of_getElem? (i := 1207) (by decide +kernel), List.mem_of_getElem? (i := 1812) (by decide +kernel), List.mem_of_getElem? (i := 1813) (by decide +kernel)⟩
theorem lw_p100 : lw_okq (⟨"CounterMineModel", "pickAt", "(II)I"⟩, 33) := ⟨⟨by decide +kernel, by decide +kernel⟩, List.mem_of_getElem? (i := 1207) (by decide +kernel), List.mem_of_getElem? (i := 1816) (by decide +kernel), List.mem_of_getElem? (i := 1817) (by decide +kernel)⟩
theorem lw_p101 : lw_okq (⟨"CounterMineModel", "fitBy", "(I)I"⟩, 33) := ⟨⟨by decide +kernel, by decide +kernel⟩, List.mem_of_getElem? (i := 1207) (by decide +kernel), List.mem_of_getElem? (i := 1824) (by decide +kernel), List.mem_of_getElem? (i := 1825) (by decide +kernel)⟩
theorem lw_p102 : lw_okq (⟨"CounterMineModel", "countsAt", "(I)V"⟩, 33) := ⟨⟨by decide +kernel, by decide +kernel⟩, List.mem_of_getElem? (i := 1207) (by decide +kernel), List.mem_of_getElem? (i := 1836) (by decide +kernel), List.mem_of_getElem? (i := 1837) (by decide +kernel)⟩
theorem lw_p103 : lw_okq (⟨"CounterMineModel", "more", "(I)I"⟩, 33) := ⟨⟨by decide +kernel, by decide +kernel⟩, List.mem_of_getElem? (i := 1207) (by decide +kernel), List.mem_of_getElem? (i := 1848) (by decide +kernel), List.mem_of_getElem? (i := 1849) (by decide +kernel)⟩
theorem lw_p104 : lw_okq (⟨"CounterMineModel", "refusesPowder", "(I)I"⟩, 33) := ⟨⟨by decide +kernel, by decide +kernel⟩, List.mem_of_getElem? (i := 1207) (by decide +kernel), List.mem_of_getElem? (i := 1864) (by decide +kernel), List.mem_of_getElem? (i := 1865) (by decide +kernel)⟩
theorem lw_p105 : lw_okq (⟨"CounterMineModel", "lost", "(I)I"⟩, 33) := ⟨⟨by decide +kernel, by decide +kernel⟩, List.mem_of_getElem? (i := 1207) (by decide +kernel), List.mem_of_getElem? (i := 1868) (by decide +kernel), List.mem_of_getElem? (i := 1869) (by decide +kernel)⟩
theorem lw_p106 : lw_okq (⟨"CounterMineModel", "fraction", "(JJZ)J"⟩, 33) := ⟨⟨by decide +kernel, by decide +kernel⟩, List.mem_of_getElem? (i := 1207) (by decide +kernel), List.mem_of_getElem? (i := 1894) (by decide +kernel), List.mem_of_getElem? (i := 1895) (by decide +kernel)⟩
theorem lw_p107 : lw_okq (⟨"CounterMineModel", "remembers", "()V"⟩, 33) := ⟨⟨by decide +kernel, by decide +kernel⟩, List.mem_of_getElem? (i := 1207) (by decide +kernel), List.mem_of_getElem? (i := 1917) (by decide +kernel), List.mem_of_getElem? (i := 1918) (by decide +kernel)⟩
theorem lw_p108 : lw_okq (⟨"CounterMineModel", "remains", "()V"⟩, 33) := ⟨⟨by decide +kernel, by decide +kernel⟩, List.mem_of_getElem? (i := 1207) (by decide +kernel), List.mem_of_getElem? (i := 1921) (by decide +kernel), List.mem_of_getElem? (i := 1922) (by decide +kernel)⟩
theorem lw_p109 : lw_okq (⟨"CounterMineModel", "denied", "(I)Z"⟩, 33) := ⟨⟨by decide +kernel, by decide +kernel⟩, List.mem_of_getElem? (i := 1207) (by decide +kernel), List.mem_of_getElem? (i := 1937) (by decide +kernel), List.mem_of_getElem? (i := 1938) (by decide +kernel)⟩
theorem lw_p110 : lw_okq (⟨"CounterMineModel", "granted", "()Z"⟩, 33) := ⟨⟨by decide +kernel, by decide +kernel⟩, List.mem_of_getElem? (i := 1207) (by decide +kernel), List.mem_of_getElem? (i := 1941) (by decide +kernel), List.mem_of_getElem? (i := 1942) (by decide +kernel)⟩
def lw_privs_7 : List (MethodName × Nat) := [(⟨"CounterMineModel", "refusesCharge", "(III)I"⟩, 33), (⟨"CounterMineModel", "shutBy", "(II)I"⟩, 33), (⟨"CounterMineModel", "fitting", "()V"⟩, 33), (⟨"CounterMineModel", "isFit", "(I)Z"⟩, 33), (⟨"CounterMineModel", "pickAt", "(II)I"⟩, 33), (⟨"CounterMineModel", "fitBy", "(I)I"⟩, 33), (⟨"CounterMineModel", "countsAt", "(I)V"⟩, 33), (⟨"CounterMineModel", "more", "(I)I"⟩, 33), (⟨"CounterMineModel", "refusesPowder", "(I)I"⟩, 33), (⟨"CounterMineModel", "lost", "(I)I"⟩, 33), (⟨"CounterMineModel", "fraction", "(JJZ)J"⟩, 33), (⟨"CounterMineModel", "remembers", "()V"⟩, 33), (⟨"CounterMineModel", "remains", "()V"⟩, 33), (⟨"CounterMineModel", "denied", "(I)Z"⟩, 33), (⟨"CounterMineModel", "granted", "()Z"⟩, 33)]
theorem lw_r7 : ∀ q ∈ lw_privs_7, lw_okq q := List.forall_mem_cons.mpr ⟨lw_p96, List.forall_mem_cons.mpr ⟨lw_p97, List.forall_mem_cons.mpr ⟨lw_p98, List.forall_mem_cons.mpr ⟨lw_p99, List.forall_mem_cons.mpr ⟨lw_p100, List.forall_mem_cons.mpr ⟨lw_p101, List.forall_mem_cons.mpr ⟨lw_p102, List.forall_mem_cons.mpr ⟨lw_p103, List.forall_mem_cons.mpr ⟨lw_p104, List.forall_mem_cons.mpr ⟨lw_p105, List.forall_mem_cons.mpr ⟨lw_p106, List.forall_mem_cons.mpr ⟨lw_p107, List.forall_mem_cons.mpr ⟨lw_p108, List.forall_mem_cons.mpr ⟨lw_p109, List.forall_mem_cons.mpr ⟨lw_p110, fun _ h => absurd h List.not_mem_nil⟩⟩⟩⟩⟩⟩⟩⟩⟩⟩⟩⟩⟩⟩⟩
def lw_privs : List (MethodName × Nat) := lw_privs_1 ++ (lw_privs_2 ++ (lw_privs_3 ++ (lw_privs_4 ++ (lw_privs_5 ++ (lw_privs_6 ++ (lw_privs_7))))))
def lw_tbl : List Cond := k2_sels lw_privs ++ tables_1
theorem lw_privs_ok : ∀ q ∈ lw_privs, lw_okq q := by
  show ∀ q ∈ lw_privs_1 ++ (lw_privs_2 ++ (lw_privs_3 ++ (lw_privs_4 ++ (lw_privs_5 ++ (lw_privs_6 ++ (lw_privs_7)))))), lw_okq q
  exact List.forall_mem_append.mpr ⟨lw_r1, List.forall_mem_append.mpr ⟨lw_r2, List.forall_mem_append.mpr ⟨lw_r3, List.forall_mem_append.mpr ⟨lw_r4, List.forall_mem_append.mpr ⟨lw_r5, List.forall_mem_append.mpr ⟨lw_r6, lw_r7⟩⟩⟩⟩⟩⟩
end
section
def RX0 : String := "CounterMine$Board"
abbrev cX0_at : ByteArray := prog_2_method_2_code
def yX0_at : MethodName := ⟨RX0, "at", "(II)I"⟩
abbrev cX0_xOf : ByteArray := prog_2_method_3_code
def yX0_xOf : MethodName := ⟨RX0, "xOf", "(I)I"⟩
abbrev cX0_yOf : ByteArray := prog_2_method_4_code
def yX0_yOf : MethodName := ⟨RX0, "yOf", "(I)I"⟩
abbrev cX0_whole : ByteArray := prog_2_method_5_code
def yX0_whole : MethodName := ⟨RX0, "whole", "(I)I"⟩
abbrev cX0_apart : ByteArray := prog_2_method_6_code
def yX0_apart : MethodName := ⟨RX0, "apart", "(II)I"⟩
abbrev cX0_has : ByteArray := prog_2_method_7_code
def yX0_has : MethodName := ⟨RX0, "has", "(JI)Z"⟩
abbrev cX0_isCell : ByteArray := prog_2_method_8_code
def yX0_isCell : MethodName := ⟨RX0, "isCell", "(I)Z"⟩
abbrev cX0_beside : ByteArray := prog_2_method_9_code
def yX0_beside : MethodName := ⟨RX0, "beside", "(II)I"⟩
def RX1 : String := "CounterMine$Cut"
def TX1 : u_T := fun k => match k with
  | 0 => ("CounterMine$Cut", "behind", "[I", true)
  | 1 => ("CounterMine$Cut", "queue", "[I", true)
  | 2 => ("CounterMine$Cut", "queued", "I", false)
  | 3 => ("CounterMine$Cut", "flow", "[J", true)
  | _ => ("CounterMine$Cut", "through", "J", false)
def tyX1 : Nat → FieldType := fun k => match k with
  | 0 => .array .int
  | 1 => .array .int
  | 2 => .int
  | 3 => .array .long
  | _ => .long
theorem nmX1 : ∀ a, a < 5 → ∀ b, b < 5 → a ≠ b → (TX1 a).2.1 ≠ (TX1 b).2.1 := by decide +kernel
theorem tyX1_ok : ∀ k, k < 5 → parseFieldDescriptor (TX1 k).2.2.1 = some (tyX1 k) := by decide +kernel
abbrev cX1_init : ByteArray := prog_3_method_1_code
def yX1_init : MethodName := ⟨RX1, "<init>", "()V"⟩
abbrev cX1_fewest : ByteArray := prog_3_method_2_code
def yX1_fewest : MethodName := ⟨RX1, "fewest", "(LCounterMine$Plan;II)I"⟩
abbrev cX1_findWay : ByteArray := prog_3_method_3_code
def yX1_findWay : MethodName := ⟨RX1, "findWay", "(LCounterMine$Plan;II)Z"⟩
abbrev cX1_reach : ByteArray := prog_3_method_4_code
def yX1_reach : MethodName := ⟨RX1, "reach", "(II)V"⟩
abbrev cX1_takeWay : ByteArray := prog_3_method_5_code
def yX1_takeWay : MethodName := ⟨RX1, "takeWay", "(II)V"⟩
abbrev cX1_turn : ByteArray := prog_3_method_6_code
def yX1_turn : MethodName := ⟨RX1, "turn", "(II)V"⟩
abbrev cX1_flows : ByteArray := prog_3_method_7_code
def yX1_flows : MethodName := ⟨RX1, "flows", "(II)Z"⟩
abbrev cX1_opposite : ByteArray := prog_3_method_8_code
def yX1_opposite : MethodName := ⟨RX1, "opposite", "(I)I"⟩
def RX2 : String := "CounterMine$Past"
def TX2 : u_T := fun k => match k with
  | 0 => ("CounterMine$Past", "kept", "[LCounterMine$Works;", true)
  | 1 => ("CounterMine$Past", "image", "[LCounterMine$Works;", true)
  | 2 => ("CounterMine$Past", "next", "I", false)
  | 3 => ("CounterMine$Past", "count", "I", false)
  | _ => ("CounterMine$Past", "images", "I", false)
def tyX2 : Nat → FieldType := fun k => match k with
  | 0 => .array (.object "CounterMine$Works")
  | 1 => .array (.object "CounterMine$Works")
  | 2 => .int
  | 3 => .int
  | _ => .int
theorem nmX2 : ∀ a, a < 5 → ∀ b, b < 5 → a ≠ b → (TX2 a).2.1 ≠ (TX2 b).2.1 := by decide +kernel
theorem tyX2_ok : ∀ k, k < 5 → parseFieldDescriptor (TX2 k).2.2.1 = some (tyX2 k) := by decide +kernel
abbrev cX2_init : ByteArray := prog_4_method_1_code
def yX2_init : MethodName := ⟨RX2, "<init>", "()V"⟩
abbrev cX2_clear : ByteArray := prog_4_method_2_code
def yX2_clear : MethodName := ⟨RX2, "clear", "()V"⟩
abbrev cX2_keep : ByteArray := prog_4_method_3_code
def yX2_keep : MethodName := ⟨RX2, "keep", "(LCounterMine$Works;)V"⟩
abbrev cX2_takeBack : ByteArray := prog_4_method_4_code
def yX2_takeBack : MethodName := ⟨RX2, "takeBack", "(LCounterMine$Works;)Z"⟩
abbrev cX2_keepImage : ByteArray := prog_4_method_5_code
def yX2_keepImage : MethodName := ⟨RX2, "keepImage", "(LCounterMine$Works;)I"⟩
abbrev cX2_goTo : ByteArray := prog_4_method_6_code
def yX2_goTo : MethodName := ⟨RX2, "goTo", "(ILCounterMine$Works;)Z"⟩
def RX3 : String := "CounterMine$Plan"
def TX3 : u_T := fun k => match k with
  | 0 => ("CounterMine$Plan", "reach", "I", false)
  | 1 => ("CounterMine$Plan", "error", "I", false)
  | 2 => ("CounterMine$Plan", "pace", "I", false)
  | 3 => ("CounterMine$Plan", "falls", "I", false)
  | 4 => ("CounterMine$Plan", "width", "I", false)
  | 5 => ("CounterMine$Plan", "height", "I", false)
  | 6 => ("CounterMine$Plan", "wall", "I", false)
  | 7 => ("CounterMine$Plan", "drums", "I", false)
  | 8 => ("CounterMine$Plan", "galleries", "I", false)
  | 9 => ("CounterMine$Plan", "reports", "I", false)
  | 10 => ("CounterMine$Plan", "soilCells", "J", false)
  | 11 => ("CounterMine$Plan", "soil", "[I", true)
  | 12 => ("CounterMine$Plan", "drumAt", "[I", true)
  | 13 => ("CounterMine$Plan", "side", "[I", true)
  | 14 => ("CounterMine$Plan", "length", "[I", true)
  | 15 => ("CounterMine$Plan", "path", "[I", true)
  | 16 => ("CounterMine$Plan", "reportDrum", "[I", true)
  | 17 => ("CounterMine$Plan", "reportNight", "[I", true)
  | _ => ("CounterMine$Plan", "reportFar", "[I", true)
def tyX3 : Nat → FieldType := fun k => match k with
  | 0 => .int
  | 1 => .int
  | 2 => .int
  | 3 => .int
  | 4 => .int
  | 5 => .int
  | 6 => .int
  | 7 => .int
  | 8 => .int
  | 9 => .int
  | 10 => .long
  | 11 => .array .int
  | 12 => .array .int
  | 13 => .array .int
  | 14 => .array .int
  | 15 => .array .int
  | 16 => .array .int
  | 17 => .array .int
  | _ => .array .int
theorem nmX3 : ∀ a, a < 19 → ∀ b, b < 19 → a ≠ b → (TX3 a).2.1 ≠ (TX3 b).2.1 := by decide +kernel
theorem tyX3_ok : ∀ k, k < 19 → parseFieldDescriptor (TX3 k).2.2.1 = some (tyX3 k) := by decide +kernel
abbrev cX3_init : ByteArray := prog_5_method_1_code
def yX3_init : MethodName := ⟨RX3, "<init>", "()V"⟩
abbrev cX3_clear : ByteArray := prog_5_method_2_code
def yX3_clear : MethodName := ⟨RX3, "clear", "()V"⟩
abbrev cX3_holds : ByteArray := prog_5_method_3_code
def yX3_holds : MethodName := ⟨RX3, "holds", "(II)Z"⟩
abbrev cX3_soilAt : ByteArray := prog_5_method_4_code
def yX3_soilAt : MethodName := ⟨RX3, "soilAt", "(I)I"⟩
abbrev cX3_isSoil : ByteArray := prog_5_method_5_code
def yX3_isSoil : MethodName := ⟨RX3, "isSoil", "(I)Z"⟩
abbrev cX3_setSoil : ByteArray := prog_5_method_6_code
def yX3_setSoil : MethodName := ⟨RX3, "setSoil", "(II)V"⟩
abbrev cX3_addDrum : ByteArray := prog_5_method_7_code
def yX3_addDrum : MethodName := ⟨RX3, "addDrum", "(I)V"⟩
abbrev cX3_addReport : ByteArray := prog_5_method_8_code
def yX3_addReport : MethodName := ⟨RX3, "addReport", "(III)V"⟩
abbrev cX3_isReported : ByteArray := prog_5_method_9_code
def yX3_isReported : MethodName := ⟨RX3, "isReported", "(II)Z"⟩
abbrev cX3_onPath : ByteArray := prog_5_method_10_code
def yX3_onPath : MethodName := ⟨RX3, "onPath", "(II)I"⟩
abbrev cX3_setPath : ByteArray := prog_5_method_11_code
def yX3_setPath : MethodName := ⟨RX3, "setPath", "(III)V"⟩
abbrev cX3_minersAhead : ByteArray := prog_5_method_12_code
def yX3_minersAhead : MethodName := ⟨RX3, "minersAhead", "(I)I"⟩
def RX4 : String := "CounterMine$Reader"
def TX4 : u_T := fun k => match k with
  | 0 => ("CounterMine$Reader", "tape", "LCounterMine$Tape;", true)
  | 1 => ("CounterMine$Reader", "fault", "I", false)
  | 2 => ("CounterMine$Reader", "place", "I", false)
  | 3 => ("CounterMine$Reader", "plan", "LCounterMine$Plan;", false)
  | 4 => ("CounterMine$Reader", "fieldTold", "Z", false)
  | 5 => ("CounterMine$Reader", "wallTold", "Z", false)
  | 6 => ("CounterMine$Reader", "rowsOver", "Z", false)
  | 7 => ("CounterMine$Reader", "drumName", "[J", true)
  | _ => ("CounterMine$Reader", "galleryName", "[J", true)
def tyX4 : Nat → FieldType := fun k => match k with
  | 0 => .object "CounterMine$Tape"
  | 1 => .int
  | 2 => .int
  | 3 => .object "CounterMine$Plan"
  | 4 => .boolean
  | 5 => .boolean
  | 6 => .boolean
  | 7 => .array .long
  | _ => .array .long
theorem nmX4 : ∀ a, a < 9 → ∀ b, b < 9 → a ≠ b → (TX4 a).2.1 ≠ (TX4 b).2.1 := by decide +kernel
theorem tyX4_ok : ∀ k, k < 9 → parseFieldDescriptor (TX4 k).2.2.1 = some (tyX4 k) := by decide +kernel
abbrev cX4_init : ByteArray := prog_6_method_1_code
def yX4_init : MethodName := ⟨RX4, "<init>", "()V"⟩
abbrev cX4_start : ByteArray := prog_6_method_2_code
def yX4_start : MethodName := ⟨RX4, "start", "(ILCounterMine$Plan;)V"⟩
abbrev cX4_readLine : ByteArray := prog_6_method_3_code
def yX4_readLine : MethodName := ⟨RX4, "readLine", "()Z"⟩
abbrev cX4_goesOn : ByteArray := prog_6_method_4_code
def yX4_goesOn : MethodName := ⟨RX4, "goesOn", "()Z"⟩
abbrev cX4_readField : ByteArray := prog_6_method_5_code
def yX4_readField : MethodName := ⟨RX4, "readField", "()V"⟩
abbrev cX4_readRow : ByteArray := prog_6_method_6_code
def yX4_readRow : MethodName := ⟨RX4, "readRow", "()V"⟩
abbrev cX4_takeRow : ByteArray := prog_6_method_7_code
def yX4_takeRow : MethodName := ⟨RX4, "takeRow", "()Z"⟩
abbrev cX4_readWall : ByteArray := prog_6_method_8_code
def yX4_readWall : MethodName := ⟨RX4, "readWall", "()V"⟩
abbrev cX4_readDrum : ByteArray := prog_6_method_9_code
def yX4_readDrum : MethodName := ⟨RX4, "readDrum", "()V"⟩
abbrev cX4_readGallery : ByteArray := prog_6_method_10_code
def yX4_readGallery : MethodName := ⟨RX4, "readGallery", "()V"⟩
abbrev cX4_takeWay : ByteArray := prog_6_method_11_code
def yX4_takeWay : MethodName := ⟨RX4, "takeWay", "(II)Z"⟩
abbrev cX4_readReport : ByteArray := prog_6_method_12_code
def yX4_readReport : MethodName := ⟨RX4, "readReport", "()V"⟩
abbrev cX4_startBehindRows : ByteArray := prog_6_method_13_code
def yX4_startBehindRows : MethodName := ⟨RX4, "startBehindRows", "()V"⟩
abbrev cX4_nextWord : ByteArray := prog_6_method_14_code
def yX4_nextWord : MethodName := ⟨RX4, "nextWord", "()V"⟩
abbrev cX4_readNamed : ByteArray := prog_6_method_15_code
def yX4_readNamed : MethodName := ⟨RX4, "readNamed", "(Ljava/lang/String;II)I"⟩
abbrev cX4_readWhole : ByteArray := prog_6_method_16_code
def yX4_readWhole : MethodName := ⟨RX4, "readWhole", "(II)I"⟩
abbrev cX4_readCell : ByteArray := prog_6_method_17_code
def yX4_readCell : MethodName := ⟨RX4, "readCell", "()I"⟩
abbrev cX4_readSide : ByteArray := prog_6_method_18_code
def yX4_readSide : MethodName := ⟨RX4, "readSide", "()I"⟩
abbrev cX4_readNewName : ByteArray := prog_6_method_19_code
def yX4_readNewName : MethodName := ⟨RX4, "readNewName", "()J"⟩
abbrev cX4_readDrumName : ByteArray := prog_6_method_20_code
def yX4_readDrumName : MethodName := ⟨RX4, "readDrumName", "()I"⟩
abbrev cX4_isName : ByteArray := prog_6_method_21_code
def yX4_isName : MethodName := ⟨RX4, "isName", "()Z"⟩
abbrev cX4_find : ByteArray := prog_6_method_22_code
def yX4_find : MethodName := ⟨RX4, "find", "([JIJ)I"⟩
abbrev cX4_soilOf : ByteArray := prog_6_method_23_code
def yX4_soilOf : MethodName := ⟨RX4, "soilOf", "(I)I"⟩
abbrev cX4_wayOf : ByteArray := prog_6_method_24_code
def yX4_wayOf : MethodName := ⟨RX4, "wayOf", "(I)I"⟩
abbrev cX4_fail : ByteArray := prog_6_method_25_code
def yX4_fail : MethodName := ⟨RX4, "fail", "(I)V"⟩
abbrev cX4_failAt : ByteArray := prog_6_method_26_code
def yX4_failAt : MethodName := ⟨RX4, "failAt", "(II)V"⟩
def RX5 : String := "CounterMine$Secret"
def TX5 : u_T := fun k => match k with
  | 0 => ("CounterMine$Secret", "cell", "[I", true)
  | 1 => ("CounterMine$Secret", "way", "[I", true)
  | 2 => ("CounterMine$Secret", "count", "I", false)
  | 3 => ("CounterMine$Secret", "tallied", "[I", true)
  | _ => ("CounterMine$Secret", "byFar", "[I", true)
def tyX5 : Nat → FieldType := fun k => match k with
  | 0 => .array .int
  | 1 => .array .int
  | 2 => .int
  | 3 => .array .int
  | _ => .array .int
theorem nmX5 : ∀ a, a < 5 → ∀ b, b < 5 → a ≠ b → (TX5 a).2.1 ≠ (TX5 b).2.1 := by decide +kernel
theorem tyX5_ok : ∀ k, k < 5 → parseFieldDescriptor (TX5 k).2.2.1 = some (tyX5 k) := by decide +kernel
abbrev cX5_init : ByteArray := prog_7_method_1_code
def yX5_init : MethodName := ⟨RX5, "<init>", "()V"⟩
abbrev cX5_gather : ByteArray := prog_7_method_2_code
def yX5_gather : MethodName := ⟨RX5, "gather", "(LCounterMine$Plan;)V"⟩
abbrev cX5_isAsHeard : ByteArray := prog_7_method_3_code
def yX5_isAsHeard : MethodName := ⟨RX5, "isAsHeard", "(LCounterMine$Plan;II)Z"⟩
abbrev cX5_walk : ByteArray := prog_7_method_4_code
def yX5_walk : MethodName := ⟨RX5, "walk", "(LCounterMine$Plan;III)I"⟩
abbrev cX5_placeOn : ByteArray := prog_7_method_5_code
def yX5_placeOn : MethodName := ⟨RX5, "placeOn", "(LCounterMine$Plan;II)I"⟩
abbrev cX5_tally : ByteArray := prog_7_method_6_code
def yX5_tally : MethodName := ⟨RX5, "tally", "(LCounterMine$Plan;I)V"⟩
abbrev cX5_inCell : ByteArray := prog_7_method_7_code
def yX5_inCell : MethodName := ⟨RX5, "inCell", "(I)I"⟩
abbrev cX5_fullest : ByteArray := prog_7_method_8_code
def yX5_fullest : MethodName := ⟨RX5, "fullest", "()I"⟩
abbrev cX5_bestDrum : ByteArray := prog_7_method_9_code
def yX5_bestDrum : MethodName := ⟨RX5, "bestDrum", "(LCounterMine$Plan;)I"⟩
abbrev cX5_leaves : ByteArray := prog_7_method_10_code
def yX5_leaves : MethodName := ⟨RX5, "leaves", "(I)I"⟩
def RX6 : String := "CounterMine$Share"
def TX6 : u_T := fun k => match k with
  | 0 => ("CounterMine$Share", "upper", "J", false)
  | _ => ("CounterMine$Share", "lower", "J", false)
def tyX6 : Nat → FieldType := fun k => match k with
  | 0 => .long
  | _ => .long
theorem nmX6 : ∀ a, a < 2 → ∀ b, b < 2 → a ≠ b → (TX6 a).2.1 ≠ (TX6 b).2.1 := by decide +kernel
theorem tyX6_ok : ∀ k, k < 2 → parseFieldDescriptor (TX6 k).2.2.1 = some (tyX6 k) := by decide +kernel
abbrev cX6_init : ByteArray := prog_8_method_1_code
def yX6_init : MethodName := ⟨RX6, "<init>", "()V"⟩
abbrev cX6_ofOne : ByteArray := prog_8_method_2_code
def yX6_ofOne : MethodName := ⟨RX6, "ofOne", "(II)V"⟩
abbrev cX6_ofAll : ByteArray := prog_8_method_3_code
def yX6_ofAll : MethodName := ⟨RX6, "ofAll", "(LCounterMine$Plan;LCounterMine$Works;)V"⟩
abbrev cX6_set : ByteArray := prog_8_method_4_code
def yX6_set : MethodName := ⟨RX6, "set", "(JJ)V"⟩
abbrev cX6_power : ByteArray := prog_8_method_5_code
def yX6_power : MethodName := ⟨RX6, "power", "(JI)J"⟩
abbrev cX6_commonDivisor : ByteArray := prog_8_method_6_code
def yX6_commonDivisor : MethodName := ⟨RX6, "commonDivisor", "(JJ)J"⟩
def RX7 : String := "CounterMine$Tape"
def TX7 : u_T := fun k => match k with
  | 0 => ("CounterMine$Tape", "bytes", "[I", true)
  | 1 => ("CounterMine$Tape", "held", "I", false)
  | 2 => ("CounterMine$Tape", "end", "I", false)
  | 3 => ("CounterMine$Tape", "start", "I", false)
  | 4 => ("CounterMine$Tape", "length", "I", false)
  | _ => ("CounterMine$Tape", "kind", "I", false)
def tyX7 : Nat → FieldType := fun k => match k with
  | 0 => .array .int
  | 1 => .int
  | 2 => .int
  | 3 => .int
  | 4 => .int
  | _ => .int
theorem nmX7 : ∀ a, a < 6 → ∀ b, b < 6 → a ≠ b → (TX7 a).2.1 ≠ (TX7 b).2.1 := by decide +kernel
theorem tyX7_ok : ∀ k, k < 6 → parseFieldDescriptor (TX7 k).2.2.1 = some (tyX7 k) := by decide +kernel
abbrev cX7_init : ByteArray := prog_9_method_1_code
def yX7_init : MethodName := ⟨RX7, "<init>", "()V"⟩
abbrev cX7_hasRoom : ByteArray := prog_9_method_2_code
def yX7_hasRoom : MethodName := ⟨RX7, "hasRoom", "()Z"⟩
abbrev cX7_put : ByteArray := prog_9_method_3_code
def yX7_put : MethodName := ⟨RX7, "put", "(I)V"⟩
abbrev cX7_open : ByteArray := prog_9_method_4_code
def yX7_open : MethodName := ⟨RX7, "open", "(I)V"⟩
abbrev cX7_advance : ByteArray := prog_9_method_5_code
def yX7_advance : MethodName := ⟨RX7, "advance", "()V"⟩
abbrev cX7_says : ByteArray := prog_9_method_6_code
def yX7_says : MethodName := ⟨RX7, "says", "(Ljava/lang/String;)Z"⟩
abbrev cX7_sign : ByteArray := prog_9_method_7_code
def yX7_sign : MethodName := ⟨RX7, "sign", "(I)I"⟩
abbrev cX7_value : ByteArray := prog_9_method_8_code
def yX7_value : MethodName := ⟨RX7, "value", "()I"⟩
abbrev cX7_name : ByteArray := prog_9_method_9_code
def yX7_name : MethodName := ⟨RX7, "name", "()J"⟩
abbrev cX7_byteAt : ByteArray := prog_9_method_10_code
def yX7_byteAt : MethodName := ⟨RX7, "byteAt", "(I)I"⟩
abbrev cX7_kindOf : ByteArray := prog_9_method_11_code
def yX7_kindOf : MethodName := ⟨RX7, "kindOf", "(I)I"⟩
def RX8 : String := "CounterMine$Ways"
def TX8 : u_T := fun k => match k with
  | 0 => ("CounterMine$Ways", "least", "[I", true)
  | _ => ("CounterMine$Ways", "settled", "J", false)
def tyX8 : Nat → FieldType := fun k => match k with
  | 0 => .array .int
  | _ => .long
theorem nmX8 : ∀ a, a < 2 → ∀ b, b < 2 → a ≠ b → (TX8 a).2.1 ≠ (TX8 b).2.1 := by decide +kernel
theorem tyX8_ok : ∀ k, k < 2 → parseFieldDescriptor (TX8 k).2.2.1 = some (tyX8 k) := by decide +kernel
abbrev cX8_init : ByteArray := prog_10_method_1_code
def yX8_init : MethodName := ⟨RX8, "<init>", "()V"⟩
abbrev cX8_spread : ByteArray := prog_10_method_2_code
def yX8_spread : MethodName := ⟨RX8, "spread", "(LCounterMine$Plan;LCounterMine$Works;IJ)V"⟩
abbrev cX8_nearest : ByteArray := prog_10_method_3_code
def yX8_nearest : MethodName := ⟨RX8, "nearest", "()I"⟩
abbrev cX8_lower : ByteArray := prog_10_method_4_code
def yX8_lower : MethodName := ⟨RX8, "lower", "(II)V"⟩
abbrev cX8_leastTo : ByteArray := prog_10_method_5_code
def yX8_leastTo : MethodName := ⟨RX8, "leastTo", "(I)I"⟩
abbrev cX8_countWithin : ByteArray := prog_10_method_6_code
def yX8_countWithin : MethodName := ⟨RX8, "countWithin", "(I)I"⟩
def RX9 : String := "CounterMine$Works"
def TX9 : u_T := fun k => match k with
  | 0 => ("CounterMine$Works", "dug", "J", false)
  | 1 => ("CounterMine$Works", "broken", "J", false)
  | 2 => ("CounterMine$Works", "nights", "I", false)
  | 3 => ("CounterMine$Works", "shut", "I", false)
  | 4 => ("CounterMine$Works", "come", "[I", true)
  | 5 => ("CounterMine$Works", "left", "[I", true)
  | _ => ("CounterMine$Works", "drumAt", "[I", true)
def tyX9 : Nat → FieldType := fun k => match k with
  | 0 => .long
  | 1 => .long
  | 2 => .int
  | 3 => .int
  | 4 => .array .int
  | 5 => .array .int
  | _ => .array .int
theorem nmX9 : ∀ a, a < 7 → ∀ b, b < 7 → a ≠ b → (TX9 a).2.1 ≠ (TX9 b).2.1 := by decide +kernel
theorem tyX9_ok : ∀ k, k < 7 → parseFieldDescriptor (TX9 k).2.2.1 = some (tyX9 k) := by decide +kernel
abbrev cX9_init : ByteArray := prog_11_method_1_code
def yX9_init : MethodName := ⟨RX9, "<init>", "()V"⟩
abbrev cX9_begin : ByteArray := prog_11_method_2_code
def yX9_begin : MethodName := ⟨RX9, "begin", "(LCounterMine$Plan;)V"⟩
abbrev cX9_copy : ByteArray := prog_11_method_3_code
def yX9_copy : MethodName := ⟨RX9, "copy", "(LCounterMine$Works;)V"⟩
abbrev cX9_passNight : ByteArray := prog_11_method_4_code
def yX9_passNight : MethodName := ⟨RX9, "passNight", "(LCounterMine$Plan;)I"⟩
abbrev cX9_startNext : ByteArray := prog_11_method_5_code
def yX9_startNext : MethodName := ⟨RX9, "startNext", "(LCounterMine$Plan;I)V"⟩
abbrev cX9_explode : ByteArray := prog_11_method_6_code
def yX9_explode : MethodName := ⟨RX9, "explode", "(LCounterMine$Plan;II)I"⟩
abbrev cX9_toDig : ByteArray := prog_11_method_7_code
def yX9_toDig : MethodName := ⟨RX9, "toDig", "(LCounterMine$Plan;I)I"⟩
abbrev cX9_placeOf : ByteArray := prog_11_method_8_code
def yX9_placeOf : MethodName := ⟨RX9, "placeOf", "(LCounterMine$Plan;I)I"⟩
abbrev cX9_comeOf : ByteArray := prog_11_method_9_code
def yX9_comeOf : MethodName := ⟨RX9, "comeOf", "(I)I"⟩
abbrev cX9_isDigging : ByteArray := prog_11_method_10_code
def yX9_isDigging : MethodName := ⟨RX9, "isDigging", "(I)Z"⟩
abbrev cX9_galleriesNear : ByteArray := prog_11_method_11_code
def yX9_galleriesNear : MethodName := ⟨RX9, "galleriesNear", "(LCounterMine$Plan;II)I"⟩
abbrev cX9_openNear : ByteArray := prog_11_method_12_code
def yX9_openNear : MethodName := ⟨RX9, "openNear", "(LCounterMine$Plan;II)I"⟩
abbrev cX9_touch : ByteArray := prog_11_method_13_code
def yX9_touch : MethodName := ⟨RX9, "touch", "(LCounterMine$Plan;II)Z"⟩
abbrev cX9_firstPair : ByteArray := prog_11_method_14_code
def yX9_firstPair : MethodName := ⟨RX9, "firstPair", "(LCounterMine$Plan;)I"⟩
abbrev cX9_nearestPick : ByteArray := prog_11_method_15_code
def yX9_nearestPick : MethodName := ⟨RX9, "nearestPick", "(LCounterMine$Plan;I)I"⟩
abbrev cX9_isHeard : ByteArray := prog_11_method_16_code
def yX9_isHeard : MethodName := ⟨RX9, "isHeard", "(LCounterMine$Plan;I)Z"⟩
abbrev cX9_isOverheard : ByteArray := prog_11_method_17_code
def yX9_isOverheard : MethodName := ⟨RX9, "isOverheard", "(LCounterMine$Plan;I)Z"⟩
abbrev cX9_unheard : ByteArray := prog_11_method_18_code
def yX9_unheard : MethodName := ⟨RX9, "unheard", "(LCounterMine$Plan;)J"⟩
def RX10 : String := "CounterMine"
def TX10 : u_T := fun k => match k with
  | 0 => ("CounterMine", "reader", "LCounterMine$Reader;", true)
  | 1 => ("CounterMine", "now", "LCounterMine$Works;", true)
  | 2 => ("CounterMine", "then", "LCounterMine$Works;", true)
  | 3 => ("CounterMine", "past", "LCounterMine$Past;", true)
  | 4 => ("CounterMine", "ways", "LCounterMine$Ways;", true)
  | 5 => ("CounterMine", "cutter", "LCounterMine$Cut;", true)
  | 6 => ("CounterMine", "secret", "LCounterMine$Secret;", true)
  | 7 => ("CounterMine", "share", "LCounterMine$Share;", true)
  | 8 => ("CounterMine", "plan", "LCounterMine$Plan;", false)
  | 9 => ("CounterMine", "spare", "LCounterMine$Plan;", false)
  | 10 => ("CounterMine", "told", "Z", false)
  | _ => ("CounterMine", "trouble", "I", false)
def tyX10 : Nat → FieldType := fun k => match k with
  | 0 => .object "CounterMine$Reader"
  | 1 => .object "CounterMine$Works"
  | 2 => .object "CounterMine$Works"
  | 3 => .object "CounterMine$Past"
  | 4 => .object "CounterMine$Ways"
  | 5 => .object "CounterMine$Cut"
  | 6 => .object "CounterMine$Secret"
  | 7 => .object "CounterMine$Share"
  | 8 => .object "CounterMine$Plan"
  | 9 => .object "CounterMine$Plan"
  | 10 => .boolean
  | _ => .int
theorem nmX10 : ∀ a, a < 12 → ∀ b, b < 12 → a ≠ b → (TX10 a).2.1 ≠ (TX10 b).2.1 := by decide +kernel
theorem tyX10_ok : ∀ k, k < 12 → parseFieldDescriptor (TX10 k).2.2.1 = some (tyX10 k) := by decide +kernel
abbrev cX10_init : ByteArray := prog_1_method_1_code
def yX10_init : MethodName := ⟨RX10, "<init>", "()V"⟩
abbrev cX10_feed : ByteArray := prog_1_method_2_code
def yX10_feed : MethodName := ⟨RX10, "feed", "(IIIII)I"⟩
abbrev cX10_field : ByteArray := prog_1_method_3_code
def yX10_field : MethodName := ⟨RX10, "field", "(I)I"⟩
abbrev cX10_fault : ByteArray := prog_1_method_4_code
def yX10_fault : MethodName := ⟨RX10, "fault", "()I"⟩
abbrev cX10_where : ByteArray := prog_1_method_5_code
def yX10_where : MethodName := ⟨RX10, "where", "()I"⟩
abbrev cX10_cell : ByteArray := prog_1_method_6_code
def yX10_cell : MethodName := ⟨RX10, "cell", "(III)I"⟩
abbrev cX10_gallery : ByteArray := prog_1_method_7_code
def yX10_gallery : MethodName := ⟨RX10, "gallery", "(II)I"⟩
abbrev cX10_drum : ByteArray := prog_1_method_8_code
def yX10_drum : MethodName := ⟨RX10, "drum", "(I)I"⟩
abbrev cX10_dug : ByteArray := prog_1_method_9_code
def yX10_dug : MethodName := ⟨RX10, "dug", "()I"⟩
abbrev cX10_far : ByteArray := prog_1_method_10_code
def yX10_far : MethodName := ⟨RX10, "far", "(IIII)I"⟩
abbrev cX10_placeIn : ByteArray := prog_1_method_11_code
def yX10_placeIn : MethodName := ⟨RX10, "placeIn", "(II)I"⟩
abbrev cX10_dugIn : ByteArray := prog_1_method_12_code
def yX10_dugIn : MethodName := ⟨RX10, "dugIn", "(I)I"⟩
abbrev cX10_endsIn : ByteArray := prog_1_method_13_code
def yX10_endsIn : MethodName := ⟨RX10, "endsIn", "(I)I"⟩
abbrev cX10_breaksIn : ByteArray := prog_1_method_14_code
def yX10_breaksIn : MethodName := ⟨RX10, "breaksIn", "(II)I"⟩
abbrev cX10_firstBreak : ByteArray := prog_1_method_15_code
def yX10_firstBreak : MethodName := ⟨RX10, "firstBreak", "()I"⟩
abbrev cX10_whoBreaks : ByteArray := prog_1_method_16_code
def yX10_whoBreaks : MethodName := ⟨RX10, "whoBreaks", "()I"⟩
abbrev cX10_hears : ByteArray := prog_1_method_17_code
def yX10_hears : MethodName := ⟨RX10, "hears", "(II)I"⟩
abbrev cX10_heardIn : ByteArray := prog_1_method_18_code
def yX10_heardIn : MethodName := ⟨RX10, "heardIn", "(I)I"⟩
abbrev cX10_nights : ByteArray := prog_1_method_19_code
def yX10_nights : MethodName := ⟨RX10, "nights", "(IIII)I"⟩
abbrev cX10_quiet : ByteArray := prog_1_method_20_code
def yX10_quiet : MethodName := ⟨RX10, "quiet", "(IIII)I"⟩
abbrev cX10_toWall : ByteArray := prog_1_method_21_code
def yX10_toWall : MethodName := ⟨RX10, "toWall", "(I)I"⟩
abbrev cX10_within : ByteArray := prog_1_method_22_code
def yX10_within : MethodName := ⟨RX10, "within", "(III)I"⟩
abbrev cX10_deaf : ByteArray := prog_1_method_23_code
def yX10_deaf : MethodName := ⟨RX10, "deaf", "()I"⟩
abbrev cX10_cut : ByteArray := prog_1_method_24_code
def yX10_cut : MethodName := ⟨RX10, "cut", "(I)I"⟩
abbrev cX10_blast : ByteArray := prog_1_method_25_code
def yX10_blast : MethodName := ⟨RX10, "blast", "(III)I"⟩
abbrev cX10_bestBlast : ByteArray := prog_1_method_26_code
def yX10_bestBlast : MethodName := ⟨RX10, "bestBlast", "(I)I"⟩
abbrev cX10_fits : ByteArray := prog_1_method_27_code
def yX10_fits : MethodName := ⟨RX10, "fits", "()I"⟩
abbrev cX10_fitAt : ByteArray := prog_1_method_28_code
def yX10_fitAt : MethodName := ⟨RX10, "fitAt", "(I)I"⟩
abbrev cX10_fitWay : ByteArray := prog_1_method_29_code
def yX10_fitWay : MethodName := ⟨RX10, "fitWay", "(I)I"⟩
abbrev cX10_beAt : ByteArray := prog_1_method_30_code
def yX10_beAt : MethodName := ⟨RX10, "beAt", "(III)I"⟩
abbrev cX10_likely : ByteArray := prog_1_method_31_code
def yX10_likely : MethodName := ⟨RX10, "likely", "(I)I"⟩
abbrev cX10_oneMore : ByteArray := prog_1_method_32_code
def yX10_oneMore : MethodName := ⟨RX10, "oneMore", "(I)I"⟩
abbrev cX10_oneMoreLeaves : ByteArray := prog_1_method_33_code
def yX10_oneMoreLeaves : MethodName := ⟨RX10, "oneMoreLeaves", "(I)I"⟩
abbrev cX10_meets : ByteArray := prog_1_method_34_code
def yX10_meets : MethodName := ⟨RX10, "meets", "(II)I"⟩
abbrev cX10_digs : ByteArray := prog_1_method_35_code
def yX10_digs : MethodName := ⟨RX10, "digs", "(IZZZ)I"⟩
abbrev cX10_rests : ByteArray := prog_1_method_36_code
def yX10_rests : MethodName := ⟨RX10, "rests", "(I)I"⟩
abbrev cX10_rest : ByteArray := prog_1_method_37_code
def yX10_rest : MethodName := ⟨RX10, "rest", "(I)I"⟩
abbrev cX10_odds : ByteArray := prog_1_method_38_code
def yX10_odds : MethodName := ⟨RX10, "odds", "(IZ)J"⟩
abbrev cX10_mean : ByteArray := prog_1_method_39_code
def yX10_mean : MethodName := ⟨RX10, "mean", "(Z)J"⟩
abbrev cX10_drawn : ByteArray := prog_1_method_40_code
def yX10_drawn : MethodName := ⟨RX10, "drawn", "(I)I"⟩
abbrev cX10_night : ByteArray := prog_1_method_41_code
def yX10_night : MethodName := ⟨RX10, "night", "()I"⟩
abbrev cX10_charge : ByteArray := prog_1_method_42_code
def yX10_charge : MethodName := ⟨RX10, "charge", "(III)I"⟩
abbrev cX10_move : ByteArray := prog_1_method_43_code
def yX10_move : MethodName := ⟨RX10, "move", "(III)I"⟩
abbrev cX10_undo : ByteArray := prog_1_method_44_code
def yX10_undo : MethodName := ⟨RX10, "undo", "()Z"⟩
abbrev cX10_image : ByteArray := prog_1_method_45_code
def yX10_image : MethodName := ⟨RX10, "image", "()I"⟩
abbrev cX10_back : ByteArray := prog_1_method_46_code
def yX10_back : MethodName := ⟨RX10, "back", "(I)Z"⟩
abbrev cX10_led : ByteArray := prog_1_method_47_code
def yX10_led : MethodName := ⟨RX10, "led", "(I)I"⟩
abbrev cX10_size : ByteArray := prog_1_method_48_code
def yX10_size : MethodName := ⟨RX10, "size", "(I)I"⟩
abbrev cX10_trouble : ByteArray := prog_1_method_49_code
def yX10_trouble : MethodName := ⟨RX10, "trouble", "()I"⟩
abbrev cX10_refuse : ByteArray := prog_1_method_50_code
def yX10_refuse : MethodName := ⟨RX10, "refuse", "(I)I"⟩
abbrev cX10_allowed : ByteArray := prog_1_method_51_code
def yX10_allowed : MethodName := ⟨RX10, "allowed", "(Z)Z"⟩
abbrev cX10_allowed_ : ByteArray := prog_1_method_52_code
def yX10_allowed_ : MethodName := ⟨RX10, "allowed", "(ZZ)Z"⟩
abbrev cX10_isGallery : ByteArray := prog_1_method_53_code
def yX10_isGallery : MethodName := ⟨RX10, "isGallery", "(I)Z"⟩
abbrev cX10_isDrum : ByteArray := prog_1_method_54_code
def yX10_isDrum : MethodName := ⟨RX10, "isDrum", "(I)Z"⟩
abbrev cX10_isFit : ByteArray := prog_1_method_55_code
def yX10_isFit : MethodName := ⟨RX10, "isFit", "(I)Z"⟩
abbrev cX10_isSoil : ByteArray := prog_1_method_56_code
def yX10_isSoil : MethodName := ⟨RX10, "isSoil", "(II)Z"⟩
abbrev cX10_isNight : ByteArray := prog_1_method_57_code
def yX10_isNight : MethodName := ⟨RX10, "isNight", "(I)Z"⟩
abbrev cX10_isPower : ByteArray := prog_1_method_58_code
def yX10_isPower : MethodName := ⟨RX10, "isPower", "(I)Z"⟩
abbrev cX10_isPowder : ByteArray := prog_1_method_59_code
def yX10_isPowder : MethodName := ⟨RX10, "isPowder", "(I)Z"⟩
abbrev cX10_lookAhead : ByteArray := prog_1_method_60_code
def yX10_lookAhead : MethodName := ⟨RX10, "lookAhead", "(I)V"⟩
abbrev cX10_firstNight : ByteArray := prog_1_method_61_code
def yX10_firstNight : MethodName := ⟨RX10, "firstNight", "(III)I"⟩
abbrev cX10_isSo : ByteArray := prog_1_method_62_code
def yX10_isSo : MethodName := ⟨RX10, "isSo", "(III)Z"⟩
abbrev cX10_gain : ByteArray := prog_1_method_63_code
def yX10_gain : MethodName := ⟨RX10, "gain", "(IZZ)I"⟩
abbrev cX10_isRest : ByteArray := prog_1_method_64_code
def yX10_isRest : MethodName := ⟨RX10, "isRest", "(IZZ)Z"⟩
def RX11 : String := "CounterMineModel$Field"
def TX11 : u_T := fun k => match k with
  | 0 => ("CounterMineModel$Field", "reach", "I", false)
  | 1 => ("CounterMineModel$Field", "error", "I", false)
  | 2 => ("CounterMineModel$Field", "pace", "I", false)
  | 3 => ("CounterMineModel$Field", "falls", "I", false)
  | 4 => ("CounterMineModel$Field", "wide", "I", false)
  | 5 => ("CounterMineModel$Field", "deep", "I", false)
  | 6 => ("CounterMineModel$Field", "wall", "I", false)
  | 7 => ("CounterMineModel$Field", "drums", "I", false)
  | 8 => ("CounterMineModel$Field", "digs", "I", false)
  | 9 => ("CounterMineModel$Field", "heards", "I", false)
  | 10 => ("CounterMineModel$Field", "names", "I", false)
  | 11 => ("CounterMineModel$Field", "late", "Z", false)
  | 12 => ("CounterMineModel$Field", "soil", "[I", true)
  | 13 => ("CounterMineModel$Field", "drum", "[I", true)
  | 14 => ("CounterMineModel$Field", "side", "[I", true)
  | 15 => ("CounterMineModel$Field", "length", "[I", true)
  | 16 => ("CounterMineModel$Field", "way", "[I", true)
  | 17 => ("CounterMineModel$Field", "heard", "[I", true)
  | 18 => ("CounterMineModel$Field", "heardIn", "[I", true)
  | 19 => ("CounterMineModel$Field", "heardFar", "[I", true)
  | 20 => ("CounterMineModel$Field", "name", "[J", true)
  | 21 => ("CounterMineModel$Field", "nameSort", "[I", true)
  | _ => ("CounterMineModel$Field", "numberOf", "[I", true)
def tyX11 : Nat → FieldType := fun k => match k with
  | 0 => .int
  | 1 => .int
  | 2 => .int
  | 3 => .int
  | 4 => .int
  | 5 => .int
  | 6 => .int
  | 7 => .int
  | 8 => .int
  | 9 => .int
  | 10 => .int
  | 11 => .boolean
  | 12 => .array .int
  | 13 => .array .int
  | 14 => .array .int
  | 15 => .array .int
  | 16 => .array .int
  | 17 => .array .int
  | 18 => .array .int
  | 19 => .array .int
  | 20 => .array .long
  | 21 => .array .int
  | _ => .array .int
theorem nmX11 : ∀ a, a < 23 → ∀ b, b < 23 → a ≠ b → (TX11 a).2.1 ≠ (TX11 b).2.1 := by decide +kernel
theorem tyX11_ok : ∀ k, k < 23 → parseFieldDescriptor (TX11 k).2.2.1 = some (tyX11 k) := by decide +kernel
abbrev cX11_init : ByteArray := prog_14_method_1_code
def yX11_init : MethodName := ⟨RX11, "<init>", "()V"⟩
abbrev cX11_find : ByteArray := prog_14_method_2_code
def yX11_find : MethodName := ⟨RX11, "find", "(J)I"⟩
abbrev cX11_isHeard : ByteArray := prog_14_method_3_code
def yX11_isHeard : MethodName := ⟨RX11, "isHeard", "(II)Z"⟩
abbrev cX11_next : ByteArray := prog_14_method_4_code
def yX11_next : MethodName := ⟨RX11, "next", "(II)I"⟩
abbrev cX11_isRock : ByteArray := prog_14_method_5_code
def yX11_isRock : MethodName := ⟨RX11, "isRock", "(I)Z"⟩
abbrev cX11_isOpen : ByteArray := prog_14_method_6_code
def yX11_isOpen : MethodName := ⟨RX11, "isOpen", "(I)Z"⟩
def RX12 : String := "CounterMineModel"
def TX12 : u_T := fun k => match k with
  | 0 => ("CounterMineModel", "thrown", "I", false)
  | 1 => ("CounterMineModel", "trouble", "I", false)
  | 2 => ("CounterMineModel", "where", "I", false)
  | 3 => ("CounterMineModel", "field", "LCounterMineModel$Field;", false)
  | 4 => ("CounterMineModel", "read", "LCounterMineModel$Field;", false)
  | 5 => ("CounterMineModel", "tape", "[B", true)
  | 6 => ("CounterMineModel", "taped", "I", false)
  | 7 => ("CounterMineModel", "size", "I", false)
  | 8 => ("CounterMineModel", "spot", "I", false)
  | 9 => ("CounterMineModel", "sort", "I", false)
  | 10 => ("CounterMineModel", "place", "I", false)
  | 11 => ("CounterMineModel", "number", "I", false)
  | 12 => ("CounterMineModel", "fault", "I", false)
  | 13 => ("CounterMineModel", "wrongAt", "I", false)
  | 14 => ("CounterMineModel", "letters", "I", false)
  | 15 => ("CounterMineModel", "word", "J", false)
  | 16 => ("CounterMineModel", "v", "[I", true)
  | 17 => ("CounterMineModel", "now", "[I", true)
  | 18 => ("CounterMineModel", "past", "[I", true)
  | 19 => ("CounterMineModel", "kept", "[I", true)
  | 20 => ("CounterMineModel", "acts", "I", false)
  | 21 => ("CounterMineModel", "images", "I", false)
  | 22 => ("CounterMineModel", "by", "[I", true)
  | 23 => ("CounterMineModel", "goes", "[Z", true)
  | 24 => ("CounterMineModel", "used", "[Z", true)
  | 25 => ("CounterMineModel", "line", "[I", true)
  | 26 => ("CounterMineModel", "cameFrom", "[I", true)
  | 27 => ("CounterMineModel", "lengthOf", "I", false)
  | 28 => ("CounterMineModel", "fit", "[I", true)
  | 29 => ("CounterMineModel", "manyAt", "[I", true)
  | 30 => ("CounterMineModel", "manyFar", "[I", true)
  | 31 => ("CounterMineModel", "fitsNow", "I", false)
  | _ => ("CounterMineModel", "moreLeft", "I", false)
def tyX12 : Nat → FieldType := fun k => match k with
  | 0 => .int
  | 1 => .int
  | 2 => .int
  | 3 => .object "CounterMineModel$Field"
  | 4 => .object "CounterMineModel$Field"
  | 5 => .array .byte
  | 6 => .int
  | 7 => .int
  | 8 => .int
  | 9 => .int
  | 10 => .int
  | 11 => .int
  | 12 => .int
  | 13 => .int
  | 14 => .int
  | 15 => .long
  | 16 => .array .int
  | 17 => .array .int
  | 18 => .array .int
  | 19 => .array .int
  | 20 => .int
  | 21 => .int
  | 22 => .array .int
  | 23 => .array .boolean
  | 24 => .array .boolean
  | 25 => .array .int
  | 26 => .array .int
  | 27 => .int
  | 28 => .array .int
  | 29 => .array .int
  | 30 => .array .int
  | 31 => .int
  | _ => .int
theorem nmX12 : ∀ a, a < 33 → ∀ b, b < 33 → a ≠ b → (TX12 a).2.1 ≠ (TX12 b).2.1 := by decide +kernel
theorem tyX12_ok : ∀ k, k < 33 → parseFieldDescriptor (TX12 k).2.2.1 = some (tyX12 k) := by decide +kernel
abbrev cX12_init : ByteArray := prog_13_method_1_code
def yX12_init : MethodName := ⟨RX12, "<init>", "()V"⟩
abbrev cX12_thrown : ByteArray := prog_13_method_2_code
def yX12_thrown : MethodName := ⟨RX12, "thrown", "()I"⟩
abbrev cX12_refused : ByteArray := prog_13_method_3_code
def yX12_refused : MethodName := ⟨RX12, "refused", "(I)I"⟩
abbrev cX12_lost : ByteArray := prog_13_method_4_code
def yX12_lost : MethodName := ⟨RX12, "lost", "(I)I"⟩
abbrev cX12_denied : ByteArray := prog_13_method_5_code
def yX12_denied : MethodName := ⟨RX12, "denied", "(I)Z"⟩
abbrev cX12_good : ByteArray := prog_13_method_6_code
def yX12_good : MethodName := ⟨RX12, "good", "(I)I"⟩
abbrev cX12_granted : ByteArray := prog_13_method_7_code
def yX12_granted : MethodName := ⟨RX12, "granted", "()Z"⟩
abbrev cX12_in : ByteArray := prog_13_method_8_code
def yX12_in : MethodName := ⟨RX12, "in", "(III)Z"⟩
abbrev cX12_bit : ByteArray := prog_13_method_9_code
def yX12_bit : MethodName := ⟨RX12, "bit", "(II)Z"⟩
abbrev cX12_common : ByteArray := prog_13_method_10_code
def yX12_common : MethodName := ⟨RX12, "common", "(JJ)J"⟩
abbrev cX12_fraction : ByteArray := prog_13_method_11_code
def yX12_fraction : MethodName := ⟨RX12, "fraction", "(JJZ)J"⟩
abbrev cX12_apart : ByteArray := prog_13_method_12_code
def yX12_apart : MethodName := ⟨RX12, "apart", "(II)I"⟩
abbrev cX12_byteAt : ByteArray := prog_13_method_13_code
def yX12_byteAt : MethodName := ⟨RX12, "byteAt", "(I)I"⟩
abbrev cX12_isLetter : ByteArray := prog_13_method_14_code
def yX12_isLetter : MethodName := ⟨RX12, "isLetter", "(I)Z"⟩
abbrev cX12_isDigit : ByteArray := prog_13_method_15_code
def yX12_isDigit : MethodName := ⟨RX12, "isDigit", "(I)Z"⟩
abbrev cX12_packed : ByteArray := prog_13_method_16_code
def yX12_packed : MethodName := ⟨RX12, "packed", "(Ljava/lang/String;)J"⟩
abbrev cX12_goesOn : ByteArray := prog_13_method_17_code
def yX12_goesOn : MethodName := ⟨RX12, "goesOn", "()V"⟩
abbrev cX12_flaw : ByteArray := prog_13_method_18_code
def yX12_flaw : MethodName := ⟨RX12, "flaw", "(I)V"⟩
abbrev cX12_isWord : ByteArray := prog_13_method_19_code
def yX12_isWord : MethodName := ⟨RX12, "isWord", "(Ljava/lang/String;)Z"⟩
abbrev cX12_eatsSemicolon : ByteArray := prog_13_method_20_code
def yX12_eatsSemicolon : MethodName := ⟨RX12, "eatsSemicolon", "()Z"⟩
abbrev cX12_needs : ByteArray := prog_13_method_21_code
def yX12_needs : MethodName := ⟨RX12, "needs", "(Ljava/lang/String;)V"⟩
abbrev cX12_wholeAt : ByteArray := prog_13_method_22_code
def yX12_wholeAt : MethodName := ⟨RX12, "wholeAt", "(II)I"⟩
abbrev cX12_readWhole : ByteArray := prog_13_method_23_code
def yX12_readWhole : MethodName := ⟨RX12, "readWhole", "(II)I"⟩
abbrev cX12_readPart : ByteArray := prog_13_method_24_code
def yX12_readPart : MethodName := ⟨RX12, "readPart", "(Ljava/lang/String;II)I"⟩
abbrev cX12_letterAt : ByteArray := prog_13_method_25_code
def yX12_letterAt : MethodName := ⟨RX12, "letterAt", "(I)I"⟩
abbrev cX12_isName : ByteArray := prog_13_method_26_code
def yX12_isName : MethodName := ⟨RX12, "isName", "()Z"⟩
abbrev cX12_lineBegins : ByteArray := prog_13_method_27_code
def yX12_lineBegins : MethodName := ⟨RX12, "lineBegins", "(II)V"⟩
abbrev cX12_readFresh : ByteArray := prog_13_method_28_code
def yX12_readFresh : MethodName := ⟨RX12, "readFresh", "()J"⟩
abbrev cX12_names : ByteArray := prog_13_method_29_code
def yX12_names : MethodName := ⟨RX12, "names", "(JII)V"⟩
abbrev cX12_readCell : ByteArray := prog_13_method_30_code
def yX12_readCell : MethodName := ⟨RX12, "readCell", "()I"⟩
abbrev cX12_readAll : ByteArray := prog_13_method_31_code
def yX12_readAll : MethodName := ⟨RX12, "readAll", "()V"⟩
abbrev cX12_readLine : ByteArray := prog_13_method_32_code
def yX12_readLine : MethodName := ⟨RX12, "readLine", "()V"⟩
abbrev cX12_readField : ByteArray := prog_13_method_33_code
def yX12_readField : MethodName := ⟨RX12, "readField", "()V"⟩
abbrev cX12_soilBy : ByteArray := prog_13_method_34_code
def yX12_soilBy : MethodName := ⟨RX12, "soilBy", "(I)I"⟩
abbrev cX12_isRow : ByteArray := prog_13_method_35_code
def yX12_isRow : MethodName := ⟨RX12, "isRow", "()Z"⟩
abbrev cX12_readRow : ByteArray := prog_13_method_36_code
def yX12_readRow : MethodName := ⟨RX12, "readRow", "()V"⟩
abbrev cX12_readWall : ByteArray := prog_13_method_37_code
def yX12_readWall : MethodName := ⟨RX12, "readWall", "()V"⟩
abbrev cX12_readDrum : ByteArray := prog_13_method_38_code
def yX12_readDrum : MethodName := ⟨RX12, "readDrum", "()V"⟩
abbrev cX12_wayBy : ByteArray := prog_13_method_39_code
def yX12_wayBy : MethodName := ⟨RX12, "wayBy", "(I)I"⟩
abbrev cX12_laysWay : ByteArray := prog_13_method_40_code
def yX12_laysWay : MethodName := ⟨RX12, "laysWay", "(II)Z"⟩
abbrev cX12_readDig : ByteArray := prog_13_method_41_code
def yX12_readDig : MethodName := ⟨RX12, "readDig", "()V"⟩
abbrev cX12_readHeard : ByteArray := prog_13_method_42_code
def yX12_readHeard : MethodName := ⟨RX12, "readHeard", "()V"⟩
abbrev cX12_feed : ByteArray := prog_13_method_43_code
def yX12_feed : MethodName := ⟨RX12, "feed", "(IIIII)I"⟩
abbrev cX12_field : ByteArray := prog_13_method_44_code
def yX12_field : MethodName := ⟨RX12, "field", "(I)I"⟩
abbrev cX12_fault : ByteArray := prog_13_method_45_code
def yX12_fault : MethodName := ⟨RX12, "fault", "()I"⟩
abbrev cX12_where : ByteArray := prog_13_method_46_code
def yX12_where : MethodName := ⟨RX12, "where", "()I"⟩
abbrev cX12_isIn : ByteArray := prog_13_method_47_code
def yX12_isIn : MethodName := ⟨RX12, "isIn", "(II)Z"⟩
abbrev cX12_isDig : ByteArray := prog_13_method_48_code
def yX12_isDig : MethodName := ⟨RX12, "isDig", "(I)Z"⟩
abbrev cX12_isDrum : ByteArray := prog_13_method_49_code
def yX12_isDrum : MethodName := ⟨RX12, "isDrum", "(I)Z"⟩
abbrev cX12_cellOf : ByteArray := prog_13_method_50_code
def yX12_cellOf : MethodName := ⟨RX12, "cellOf", "(II)I"⟩
abbrev cX12_told : ByteArray := prog_13_method_51_code
def yX12_told : MethodName := ⟨RX12, "told", "(I)I"⟩
abbrev cX12_works : ByteArray := prog_13_method_52_code
def yX12_works : MethodName := ⟨RX12, "works", "()V"⟩
abbrev cX12_wayAt : ByteArray := prog_13_method_53_code
def yX12_wayAt : MethodName := ⟨RX12, "wayAt", "(II)I"⟩
abbrev cX12_placeOf : ByteArray := prog_13_method_54_code
def yX12_placeOf : MethodName := ⟨RX12, "placeOf", "(I)I"⟩
abbrev cX12_isDigging : ByteArray := prog_13_method_55_code
def yX12_isDigging : MethodName := ⟨RX12, "isDigging", "(I)Z"⟩
abbrev cX12_takes : ByteArray := prog_13_method_56_code
def yX12_takes : MethodName := ⟨RX12, "takes", "(I)I"⟩
abbrev cX12_begins : ByteArray := prog_13_method_57_code
def yX12_begins : MethodName := ⟨RX12, "begins", "(I)V"⟩
abbrev cX12_goesBy : ByteArray := prog_13_method_58_code
def yX12_goesBy : MethodName := ⟨RX12, "goesBy", "()I"⟩
abbrev cX12_worksIn : ByteArray := prog_13_method_59_code
def yX12_worksIn : MethodName := ⟨RX12, "worksIn", "(I)V"⟩
abbrev cX12_refusesNights : ByteArray := prog_13_method_60_code
def yX12_refusesNights : MethodName := ⟨RX12, "refusesNights", "(ZI)I"⟩
abbrev cX12_galleriesAt : ByteArray := prog_13_method_61_code
def yX12_galleriesAt : MethodName := ⟨RX12, "galleriesAt", "(I)I"⟩
abbrev cX12_cell : ByteArray := prog_13_method_62_code
def yX12_cell : MethodName := ⟨RX12, "cell", "(III)I"⟩
abbrev cX12_gallery : ByteArray := prog_13_method_63_code
def yX12_gallery : MethodName := ⟨RX12, "gallery", "(II)I"⟩
abbrev cX12_drum : ByteArray := prog_13_method_64_code
def yX12_drum : MethodName := ⟨RX12, "drum", "(I)I"⟩
abbrev cX12_dugNow : ByteArray := prog_13_method_65_code
def yX12_dugNow : MethodName := ⟨RX12, "dugNow", "()I"⟩
abbrev cX12_dug : ByteArray := prog_13_method_66_code
def yX12_dug : MethodName := ⟨RX12, "dug", "()I"⟩
abbrev cX12_far : ByteArray := prog_13_method_67_code
def yX12_far : MethodName := ⟨RX12, "far", "(IIII)I"⟩
abbrev cX12_placeIn : ByteArray := prog_13_method_68_code
def yX12_placeIn : MethodName := ⟨RX12, "placeIn", "(II)I"⟩
abbrev cX12_dugIn : ByteArray := prog_13_method_69_code
def yX12_dugIn : MethodName := ⟨RX12, "dugIn", "(I)I"⟩
abbrev cX12_endsIn : ByteArray := prog_13_method_70_code
def yX12_endsIn : MethodName := ⟨RX12, "endsIn", "(I)I"⟩
abbrev cX12_breakIn : ByteArray := prog_13_method_71_code
def yX12_breakIn : MethodName := ⟨RX12, "breakIn", "(II)Z"⟩
abbrev cX12_breaksIn : ByteArray := prog_13_method_72_code
def yX12_breaksIn : MethodName := ⟨RX12, "breaksIn", "(II)I"⟩
abbrev cX12_pair : ByteArray := prog_13_method_73_code
def yX12_pair : MethodName := ⟨RX12, "pair", "()I"⟩
abbrev cX12_breaking : ByteArray := prog_13_method_74_code
def yX12_breaking : MethodName := ⟨RX12, "breaking", "()I"⟩
abbrev cX12_firstBreak : ByteArray := prog_13_method_75_code
def yX12_firstBreak : MethodName := ⟨RX12, "firstBreak", "()I"⟩
abbrev cX12_whoBreaks : ByteArray := prog_13_method_76_code
def yX12_whoBreaks : MethodName := ⟨RX12, "whoBreaks", "()I"⟩
abbrev cX12_isHeard : ByteArray := prog_13_method_77_code
def yX12_isHeard : MethodName := ⟨RX12, "isHeard", "(II)Z"⟩
abbrev cX12_hears : ByteArray := prog_13_method_78_code
def yX12_hears : MethodName := ⟨RX12, "hears", "(II)I"⟩
abbrev cX12_heardIn : ByteArray := prog_13_method_79_code
def yX12_heardIn : MethodName := ⟨RX12, "heardIn", "(I)I"⟩
abbrev cX12_isQuiet : ByteArray := prog_13_method_80_code
def yX12_isQuiet : MethodName := ⟨RX12, "isQuiet", "(I)Z"⟩
abbrev cX12_lowers : ByteArray := prog_13_method_81_code
def yX12_lowers : MethodName := ⟨RX12, "lowers", "(IZ)V"⟩
abbrev cX12_byOf : ByteArray := prog_13_method_82_code
def yX12_byOf : MethodName := ⟨RX12, "byOf", "(I)I"⟩
abbrev cX12_nights : ByteArray := prog_13_method_83_code
def yX12_nights : MethodName := ⟨RX12, "nights", "(IIII)I"⟩
abbrev cX12_quiet : ByteArray := prog_13_method_84_code
def yX12_quiet : MethodName := ⟨RX12, "quiet", "(IIII)I"⟩
abbrev cX12_toWall : ByteArray := prog_13_method_85_code
def yX12_toWall : MethodName := ⟨RX12, "toWall", "(I)I"⟩
abbrev cX12_within : ByteArray := prog_13_method_86_code
def yX12_within : MethodName := ⟨RX12, "within", "(III)I"⟩
abbrev cX12_last : ByteArray := prog_13_method_87_code
def yX12_last : MethodName := ⟨RX12, "last", "()I"⟩
abbrev cX12_isSoil : ByteArray := prog_13_method_88_code
def yX12_isSoil : MethodName := ⟨RX12, "isSoil", "(I)Z"⟩
abbrev cX12_deaf : ByteArray := prog_13_method_89_code
def yX12_deaf : MethodName := ⟨RX12, "deaf", "()I"⟩
abbrev cX12_reaches : ByteArray := prog_13_method_90_code
def yX12_reaches : MethodName := ⟨RX12, "reaches", "(II)V"⟩
abbrev cX12_finds : ByteArray := prog_13_method_91_code
def yX12_finds : MethodName := ⟨RX12, "finds", "(II)Z"⟩
abbrev cX12_turnedBack : ByteArray := prog_13_method_92_code
def yX12_turnedBack : MethodName := ⟨RX12, "turnedBack", "(I)I"⟩
abbrev cX12_wayTo : ByteArray := prog_13_method_93_code
def yX12_wayTo : MethodName := ⟨RX12, "wayTo", "(II)I"⟩
abbrev cX12_lays : ByteArray := prog_13_method_94_code
def yX12_lays : MethodName := ⟨RX12, "lays", "(II)V"⟩
abbrev cX12_cut : ByteArray := prog_13_method_95_code
def yX12_cut : MethodName := ⟨RX12, "cut", "(I)I"⟩
abbrev cX12_shutBy : ByteArray := prog_13_method_96_code
def yX12_shutBy : MethodName := ⟨RX12, "shutBy", "(II)I"⟩
abbrev cX12_refusesCharge : ByteArray := prog_13_method_97_code
def yX12_refusesCharge : MethodName := ⟨RX12, "refusesCharge", "(III)I"⟩
abbrev cX12_blast : ByteArray := prog_13_method_98_code
def yX12_blast : MethodName := ⟨RX12, "blast", "(III)I"⟩
abbrev cX12_bestBlast : ByteArray := prog_13_method_99_code
def yX12_bestBlast : MethodName := ⟨RX12, "bestBlast", "(I)I"⟩
abbrev cX12_pickAt : ByteArray := prog_13_method_100_code
def yX12_pickAt : MethodName := ⟨RX12, "pickAt", "(II)I"⟩
abbrev cX12_isFit : ByteArray := prog_13_method_101_code
def yX12_isFit : MethodName := ⟨RX12, "isFit", "(I)Z"⟩
abbrev cX12_fitting : ByteArray := prog_13_method_102_code
def yX12_fitting : MethodName := ⟨RX12, "fitting", "()V"⟩
abbrev cX12_fits : ByteArray := prog_13_method_103_code
def yX12_fits : MethodName := ⟨RX12, "fits", "()I"⟩
abbrev cX12_fitBy : ByteArray := prog_13_method_104_code
def yX12_fitBy : MethodName := ⟨RX12, "fitBy", "(I)I"⟩
abbrev cX12_fitAt : ByteArray := prog_13_method_105_code
def yX12_fitAt : MethodName := ⟨RX12, "fitAt", "(I)I"⟩
abbrev cX12_fitWay : ByteArray := prog_13_method_106_code
def yX12_fitWay : MethodName := ⟨RX12, "fitWay", "(I)I"⟩
abbrev cX12_countsAt : ByteArray := prog_13_method_107_code
def yX12_countsAt : MethodName := ⟨RX12, "countsAt", "(I)V"⟩
abbrev cX12_beAt : ByteArray := prog_13_method_108_code
def yX12_beAt : MethodName := ⟨RX12, "beAt", "(III)I"⟩
abbrev cX12_likely : ByteArray := prog_13_method_109_code
def yX12_likely : MethodName := ⟨RX12, "likely", "(I)I"⟩
abbrev cX12_more : ByteArray := prog_13_method_110_code
def yX12_more : MethodName := ⟨RX12, "more", "(I)I"⟩
abbrev cX12_oneMore : ByteArray := prog_13_method_111_code
def yX12_oneMore : MethodName := ⟨RX12, "oneMore", "(I)I"⟩
abbrev cX12_oneMoreLeaves : ByteArray := prog_13_method_112_code
def yX12_oneMoreLeaves : MethodName := ⟨RX12, "oneMoreLeaves", "(I)I"⟩
abbrev cX12_meets : ByteArray := prog_13_method_113_code
def yX12_meets : MethodName := ⟨RX12, "meets", "(II)I"⟩
abbrev cX12_gets : ByteArray := prog_13_method_114_code
def yX12_gets : MethodName := ⟨RX12, "gets", "(IZZ)I"⟩
abbrev cX12_refusesPowder : ByteArray := prog_13_method_115_code
def yX12_refusesPowder : MethodName := ⟨RX12, "refusesPowder", "(I)I"⟩
abbrev cX12_digs : ByteArray := prog_13_method_116_code
def yX12_digs : MethodName := ⟨RX12, "digs", "(IZZZ)I"⟩
abbrev cX12_isRest : ByteArray := prog_13_method_117_code
def yX12_isRest : MethodName := ⟨RX12, "isRest", "(II)Z"⟩
abbrev cX12_rests : ByteArray := prog_13_method_118_code
def yX12_rests : MethodName := ⟨RX12, "rests", "(I)I"⟩
abbrev cX12_rest : ByteArray := prog_13_method_119_code
def yX12_rest : MethodName := ⟨RX12, "rest", "(I)I"⟩
abbrev cX12_power : ByteArray := prog_13_method_120_code
def yX12_power : MethodName := ⟨RX12, "power", "(JI)J"⟩
abbrev cX12_odds : ByteArray := prog_13_method_121_code
def yX12_odds : MethodName := ⟨RX12, "odds", "(IZ)J"⟩
abbrev cX12_mean : ByteArray := prog_13_method_122_code
def yX12_mean : MethodName := ⟨RX12, "mean", "(Z)J"⟩
abbrev cX12_drawn : ByteArray := prog_13_method_123_code
def yX12_drawn : MethodName := ⟨RX12, "drawn", "(I)I"⟩
abbrev cX12_remembers : ByteArray := prog_13_method_124_code
def yX12_remembers : MethodName := ⟨RX12, "remembers", "()V"⟩
abbrev cX12_remains : ByteArray := prog_13_method_125_code
def yX12_remains : MethodName := ⟨RX12, "remains", "()V"⟩
abbrev cX12_night : ByteArray := prog_13_method_126_code
def yX12_night : MethodName := ⟨RX12, "night", "()I"⟩
abbrev cX12_charge : ByteArray := prog_13_method_127_code
def yX12_charge : MethodName := ⟨RX12, "charge", "(III)I"⟩
abbrev cX12_move : ByteArray := prog_13_method_128_code
def yX12_move : MethodName := ⟨RX12, "move", "(III)I"⟩
abbrev cX12_undo : ByteArray := prog_13_method_129_code
def yX12_undo : MethodName := ⟨RX12, "undo", "()Z"⟩
abbrev cX12_image : ByteArray := prog_13_method_130_code
def yX12_image : MethodName := ⟨RX12, "image", "()I"⟩
abbrev cX12_back : ByteArray := prog_13_method_131_code
def yX12_back : MethodName := ⟨RX12, "back", "(I)Z"⟩
abbrev cX12_led : ByteArray := prog_13_method_132_code
def yX12_led : MethodName := ⟨RX12, "led", "(I)I"⟩
abbrev cX12_size : ByteArray := prog_13_method_133_code
def yX12_size : MethodName := ⟨RX12, "size", "(I)I"⟩
abbrev cX12_trouble : ByteArray := prog_13_method_134_code
def yX12_trouble : MethodName := ⟨RX12, "trouble", "()I"⟩
def RJ13 : String := "java/lang/Long"
abbrev cJ13_bitCount_95d88 : ByteArray := prog_19_method_50_code
def yJ13_bitCount_95d88 : MethodName := ⟨RJ13, "bitCount", "(J)I"⟩
def RJ9 : String := "java/lang/Math"
def RJ0 : String := "java/lang/String"
def RJ1 : String := "java/lang/StringLatin1"
def RJ2 : String := "java/lang/StringUTF16"
def RJ3 : String := "jdk/internal/util/Preconditions"
def RL : String := "CounterMineLaw"
abbrev cL_led : ByteArray := method_3_code
def yL_led : MethodName := ⟨RL, "led", "(LCounterMine;I[J)I"⟩
abbrev cL_law : ByteArray := code
def yL_law : MethodName := ⟨RL, "law", "([I)Z"⟩
abbrev vwCl : List vw_C := [(RX1, TX1, 5), (RX2, TX2, 5), (RX3, TX3, 19), (RX4, TX4, 9), (RX5, TX5, 5), (RX6, TX6, 2), (RX7, TX7, 6), (RX8, TX8, 2), (RX9, TX9, 7), (RX10, TX10, 12), (RX11, TX11, 23), (RX12, TX12, 33)]
end
section
/-! THE ABSTRACT MACHINE: the class's and the reference's bytecode, run over a flat heap: kinds, lengths, ints, longs, references by address and place. -/
abbrev aH : Type := (Nat → Nat) × (Nat → Nat) × (Nat → Nat → Int32) × (Nat → Nat → Int64) × (Nat → Nat → Option Nat) × Nat × (Nat → Nat)
def aK (S : aH) (a : Nat) : Nat := S.1 a
def aN (S : aH) (a : Nat) : Nat := S.2.1 a
def aI (S : aH) (a k : Nat) : Int32 := S.2.2.1 a k
def aJ (S : aH) (a k : Nat) : Int64 := S.2.2.2.1 a k
def aR (S : aH) (a k : Nat) : Option Nat := S.2.2.2.2.1 a k
def aZ (S : aH) : Nat := S.2.2.2.2.2.1
def aG (S : aH) (k : Nat) : Nat := S.2.2.2.2.2.2 k
def u2 {α : Type} (f : Nat → Nat → α) (a k : Nat) (v : α) : Nat → Nat → α := fun b j => if b = a then (if j = k then v else f b j) else f b j
def r2 {α : Type} (f : Nat → Nat → α) (a : Nat) (g : Nat → α) : Nat → Nat → α := fun b => if b = a then g else f b
def wI (S : aH) (a k : Nat) (v : Int32) : aH := (S.1, S.2.1, u2 S.2.2.1 a k v, S.2.2.2)
def wJ (S : aH) (a k : Nat) (v : Int64) : aH := (S.1, S.2.1, S.2.2.1, u2 S.2.2.2.1 a k v, S.2.2.2.2)
def wR (S : aH) (a k : Nat) (v : Option Nat) : aH := (S.1, S.2.1, S.2.2.1, S.2.2.2.1, u2 S.2.2.2.2.1 a k v, S.2.2.2.2.2)
/-- a new cell of kind c and length n -/
def wN (S : aH) (c n : Nat) : aH := (va_up S.1 (aZ S) c, va_up S.2.1 (aZ S) n, r2 S.2.2.1 (aZ S) (fun _ => 0), r2 S.2.2.2.1 (aZ S) (fun _ => 0), r2 S.2.2.2.2.1 (aZ S) (fun _ => none), aZ S + 1, S.2.2.2.2.2.2)
/-- an instruction with what it is linked to: numbers, a constant, a table of jumps -/
abbrev aM : Type := Instr × (Nat × Nat × Nat × Nat) × Int32 × Int64 × List (Int32 × Nat)
abbrev aL : Type := List (Option Value)
abbrev aO : Type := Option (Option Value × aH)
abbrev aB : Type := Nat × Nat
abbrev aKt : Type := Nat → aL → List Value → aB → aH → aO
abbrev aC : Type := Nat → List Value → aH → aO
abbrev ix_ (j : Int32) (n : Nat) : Prop := ¬ (j < 0 ∨ n ≤ j.toNatClampNeg)
def lg_ : aL → Nat → Option Value
  | [], _ => none
  | x :: _, 0 => x
  | _ :: t, n + 1 => lg_ t n
def ls_ : aL → Nat → Option Value → aL
  | [], _, _ => []
  | _ :: t, 0, v => v :: t
  | x :: t, n + 1, v => x :: ls_ t n v
def nl_ : Option Value → Option Value
  | some (.long _) => none
  | some (.double _) => none
  | x => x
def st_ (ls : aL) (i : Nat) (v : Value) : aL := match i with
  | 0 => ls_ ls 0 (some v)
  | j + 1 => ls_ (ls_ ls (j + 1) (some v)) j (nl_ (lg_ ls j))
def sl_ (ls : aL) (i : Nat) (v : Value) : aL := ls_ (st_ ls i v) (i + 1) none
def mk_ : List (Int32 × Nat) → aL → aL
  | (_, 0) :: m, _ :: t => none :: mk_ m t
  | (_, _ + 1) :: m, x :: t => x :: mk_ m t
  | _, _ => []
def cg_ : List aM → Nat → Option aM
  | [], _ => none
  | x :: _, 0 => some x
  | _ :: t, n + 1 => cg_ t n
def gd (c : Prop) [Decidable c] (x : aO) : aO := if c then x else none
def pI (st : List Value) (f : Int32 → List Value → aO) : aO := match st with
  | .int x :: r => f x r
  | _ => none
def pJ (st : List Value) (f : Int64 → List Value → aO) : aO := match st with
  | .long x :: r => f x r
  | _ => none
def pR (st : List Value) (f : Nat → List Value → aO) : aO := match st with
  | .ref x :: r => f x r
  | _ => none
def lI (v : Option Value) (f : Int32 → aO) : aO := match v with
  | some (.int x) => f x
  | _ => none
def lJ (v : Option Value) (f : Int64 → aO) : aO := match v with
  | some (.long x) => f x
  | _ => none
def lR (v : Option Value) (f : Nat → aO) : aO := match v with
  | some (.ref x) => f x
  | _ => none
def nR (r : Option Nat) (f : Nat → aO) : aO := match r with
  | some b => f b
  | none => none
def nQ (r : Option Nat) (f : Nat → aO) (g : aO) : aO := match r with
  | some b => f b
  | none => g
def cmp_ (c : ClassFile.Cond) (x y : Int32) (A B : aO) : aO := match c with
  | .eq => if x = y then A else B
  | .ne => if x = y then B else A
  | .lt => if x < y then A else B
  | .ge => if y ≤ x then A else B
  | .gt => if y < x then A else B
  | .le => if x ≤ y then A else B
def tk_ : Nat → List Value → List Value → (List Value → List Value → aO) → aO
  | 0, acc, st, f => f acc st
  | n + 1, acc, v :: st, f => tk_ n (v :: acc) st f
  | _ + 1, _, [], _ => none
def cs_ : List Value → Nat
  | [] => 0
  | v :: r => v.category + cs_ r
def cI (q : aO) (f : Int32 → aH → aO) : aO := match q with
  | some (some (.int x), S) => f x S
  | _ => none
def cJ (q : aO) (f : Int64 → aH → aO) : aO := match q with
  | some (some (.long x), S) => f x S
  | _ => none
def cV (q : aO) (f : aH → aO) : aO := match q with
  | some (none, S) => f S
  | _ => none
def cl_ (w : Nat) (q : aO) (r : List Value) (K : List Value → aH → aO) : aO := match w with
  | 0 => cV q fun S => K r S
  | 1 => cI q fun x S => K (.int x :: r) S
  | _ => cJ q fun x S => K (.long x :: r) S
def bo_ (c : Bool) (x : aO) : aO := match c with
  | true => x
  | false => none
/-- a call: the arguments, what may lie below them, the room that it takes -/
/-- the receiver is of the kind z (99: it isn't asked) -/
def rk_ (z : Nat) (as : List Value) (S : aH) (x : aO) : aO := match z with
  | 99 => x
  | _ => (match as with
    | .ref a :: _ => gd (aK S a = z) x
    | _ => none)
def ca_ (u v w z : Nat) (ts : List (Int32 × Nat)) (st : List Value) (b : aB) (S : aH) (C : aC) (K : List Value → aB → aH → aO) : aO :=
  tk_ v [] st fun as r => bo_ (Nat.ble (cs_ r) 8) (rk_ z as S (match ts with
    | [] => cl_ w (C u as S) r fun st S => K st b S
    | (_, mc) :: (_, ms) :: _ => gd (mc ≤ b.1 ∧ ms ≤ b.2) (cl_ w (C u as S) r fun st S => K st (b.1 - mc, b.2 - ms) S)
    | _ => none))
def sw_ (x : Int32) (d : Nat) (K : Nat → aO) : List (Int32 × Nat) → aO
  | [] => K d
  | (c, t) :: r => if x = c then K t else sw_ x d K r
def ex1 (i : aM) (k : Nat) (ls : aL) (st : List Value) (b : aB) (S : aH) (K : aKt) (C : aC) : aO :=
  match i with
  | (ins, (u, v, w, z), c, d, ts) => match ins with
    | .iload_n _ => lI (lg_ ls u) fun x => K (k + 1) ls (.int x :: st) b S
    | .iload _ => lI (lg_ ls u) fun x => K (k + 1) ls (.int x :: st) b S
    | .lload_n _ => lJ (lg_ ls u) fun x => K (k + 1) ls (.long x :: st) b S
    | .lload _ => lJ (lg_ ls u) fun x => K (k + 1) ls (.long x :: st) b S
    | .aload_n _ => lR (lg_ ls u) fun x => K (k + 1) ls (.ref x :: st) b S
    | .aload _ => lR (lg_ ls u) fun x => K (k + 1) ls (.ref x :: st) b S
    | .istore_n _ => pI st fun x r => K (k + 1) (st_ ls u (.int x)) r b S
    | .istore _ => pI st fun x r => K (k + 1) (st_ ls u (.int x)) r b S
    | .lstore_n _ => pJ st fun x r => K (k + 1) (sl_ ls u (.long x)) r b S
    | .lstore _ => pJ st fun x r => K (k + 1) (sl_ ls u (.long x)) r b S
    | .astore_n _ => pR st fun x r => K (k + 1) (st_ ls u (.ref x)) r b S
    | .astore _ => pR st fun x r => K (k + 1) (st_ ls u (.ref x)) r b S
    | .iinc _ _ => lI (lg_ ls u) fun x => K (k + 1) (st_ ls u (.int (x + c))) st b S
    | .iconst _ => K (k + 1) ls (.int c :: st) b S
    | .bipush _ => K (k + 1) ls (.int c :: st) b S
    | .sipush _ => K (k + 1) ls (.int c :: st) b S
    | .lconst _ => K (k + 1) ls (.long d :: st) b S
    | .ldc _ => (match w with
      | 0 => K (k + 1) ls (.int c :: st) b S
      | _ => K (k + 1) ls (.ref (aG S u) :: st) b S)
    | .ldc_w _ => (match w with
      | 0 => K (k + 1) ls (.int c :: st) b S
      | _ => K (k + 1) ls (.ref (aG S u) :: st) b S)
    | .ldc2_w _ => K (k + 1) ls (.long d :: st) b S
    | .iadd => pI st fun y r => pI r fun x r => K (k + 1) ls (.int (x + y) :: r) b S
    | .isub => pI st fun y r => pI r fun x r => K (k + 1) ls (.int (x - y) :: r) b S
    | .imul => pI st fun y r => pI r fun x r => K (k + 1) ls (.int (x * y) :: r) b S
    | .idiv => pI st fun y r => pI r fun x r => gd (¬ y = 0) (K (k + 1) ls (.int (x / y) :: r) b S)
    | .irem => pI st fun y r => pI r fun x r => gd (¬ y = 0) (K (k + 1) ls (.int (x - x / y * y) :: r) b S)
    | .ineg => pI st fun x r => K (k + 1) ls (.int (-x) :: r) b S
    | .iand => pI st fun y r => pI r fun x r => K (k + 1) ls (.int (x &&& y) :: r) b S
    | .ior => pI st fun y r => pI r fun x r => K (k + 1) ls (.int (x ||| y) :: r) b S
    | .ixor => pI st fun y r => pI r fun x r => K (k + 1) ls (.int (x ^^^ y) :: r) b S
    | .ishl => pI st fun y r => pI r fun x r => K (k + 1) ls (.int (x <<< (y &&& 31)) :: r) b S
    | .ishr => pI st fun y r => pI r fun x r => K (k + 1) ls (.int (x >>> (y &&& 31)) :: r) b S
    | .iushr => pI st fun y r => pI r fun x r => K (k + 1) ls (.int (x.toUInt32 >>> (y.toUInt32 &&& Int32.toUInt32 31)).toInt32 :: r) b S
    | .ladd => pJ st fun y r => pJ r fun x r => K (k + 1) ls (.long (x + y) :: r) b S
    | .lsub => pJ st fun y r => pJ r fun x r => K (k + 1) ls (.long (x - y) :: r) b S
    | .lmul => pJ st fun y r => pJ r fun x r => K (k + 1) ls (.long (x * y) :: r) b S
    | .ldiv => pJ st fun y r => pJ r fun x r => gd (¬ y = 0) (K (k + 1) ls (.long (x / y) :: r) b S)
    | .lrem => pJ st fun y r => pJ r fun x r => gd (¬ y = 0) (K (k + 1) ls (.long (x - x / y * y) :: r) b S)
    | .land => pJ st fun y r => pJ r fun x r => K (k + 1) ls (.long (x &&& y) :: r) b S
    | .lor => pJ st fun y r => pJ r fun x r => K (k + 1) ls (.long (x ||| y) :: r) b S
    | .lxor => pJ st fun y r => pJ r fun x r => K (k + 1) ls (.long (x ^^^ y) :: r) b S
    | .lshl => pI st fun y r => pJ r fun x r => K (k + 1) ls (.long (x <<< (y.toInt64 &&& 63)) :: r) b S
    | .lshr => pI st fun y r => pJ r fun x r => K (k + 1) ls (.long (x >>> (y.toInt64 &&& 63)) :: r) b S
    | .lushr => pI st fun y r => pJ r fun x r => K (k + 1) ls (.long (x.toUInt64 >>> (y.toInt64.toUInt64 &&& Int64.toUInt64 63)).toInt64 :: r) b S
    | .lcmp => pJ st fun y r => pJ r fun x r => K (k + 1) ls (.int (lg_cmp x y) :: r) b S
    | .i2l => pI st fun x r => K (k + 1) ls (.long x.toInt64 :: r) b S
    | .l2i => pJ st fun x r => K (k + 1) ls (.int x.toInt32 :: r) b S
    | .i2b => pI st fun x r => K (k + 1) ls (.int x.toInt8.toInt32 :: r) b S
    | .dup => (match st with
      | .int x :: r => K (k + 1) ls (.int x :: .int x :: r) b S
      | .ref x :: r => K (k + 1) ls (.ref x :: .ref x :: r) b S
      | _ => none)
    | .dup2 => (match st with
      | .int x :: .ref a :: r => K (k + 1) ls (.int x :: .ref a :: .int x :: .ref a :: r) b S
      | _ => none)
    | .pop => (match st with
      | .int _ :: r => K (k + 1) ls r b S
      | _ => none)
    | .getfield _ => pR st fun a r => gd (aK S a = u) (match w with
      | 1 => K (k + 1) ls (.long (aJ S a v) :: r) b S
      | 2 => nR (aR S a v) fun x => K (k + 1) ls (.ref x :: r) b S
      | 3 => nQ (aR S a v) (fun x => K (k + 1) ls (.ref x :: r) b S) (K (k + 1) ls (.null :: r) b S)
      | _ => K (k + 1) ls (.int (aI S a v) :: r) b S)
    | .putfield _ => (match w with
      | 0 => pI st fun x r => pR r fun a r => gd (aK S a = u) (K (k + 1) ls r b (wI S a v x))
      | 1 => pJ st fun x r => pR r fun a r => gd (aK S a = u) (K (k + 1) ls r b (wJ S a v x))
      | 4 => pI st fun x r => pR r fun a r => gd (aK S a = u) (gd (x = 0 ∨ x = 1) (K (k + 1) ls r b (wI S a v x)))
      | _ => pR st fun x r => pR r fun a r => gd (aK S a = u) (K (k + 1) ls r b (wR S a v (some x))))
    | .iaload => pI st fun j r => pR r fun a r => gd ((aK S a = 13 ∨ aK S a = u) ∧ ix_ j (aN S a)) (K (k + 1) ls (.int (aI S a j.toNatClampNeg) :: r) b S)
    | .baload => pI st fun j r => pR r fun a r => gd (aK S a = u ∧ ix_ j (aN S a)) (K (k + 1) ls (.int (aI S a j.toNatClampNeg) :: r) b S)
    | .laload => pI st fun j r => pR r fun a r => gd (aK S a = 14 ∧ ix_ j (aN S a)) (K (k + 1) ls (.long (aJ S a j.toNatClampNeg) :: r) b S)
    | .aaload => pI st fun j r => pR r fun a r => gd (aK S a = 16 ∧ ix_ j (aN S a)) (nR (aR S a j.toNatClampNeg) fun x => K (k + 1) ls (.ref x :: r) b S)
    | .iastore => pI st fun x r => pI r fun j r => pR r fun a r => gd (aK S a = 13 ∧ ix_ j (aN S a)) (K (k + 1) ls r b (wI S a j.toNatClampNeg x))
    | .bastore => pI st fun x r => pI r fun j r => pR r fun a r => gd (aK S a = u ∧ ix_ j (aN S a)) (match w with
      | 0 => K (k + 1) ls r b (wI S a j.toNatClampNeg x.toInt8.toInt32)
      | _ => gd (x = 0 ∨ x = 1) (K (k + 1) ls r b (wI S a j.toNatClampNeg x)))
    | .lastore => pJ st fun x r => pI r fun j r => pR r fun a r => gd (aK S a = 14 ∧ ix_ j (aN S a)) (K (k + 1) ls r b (wJ S a j.toNatClampNeg x))
    | .aastore => pR st fun x r => pI r fun j r => pR r fun a r => gd (aK S a = 16 ∧ ix_ j (aN S a) ∧ aK S x = 8) (K (k + 1) ls r b (wR S a j.toNatClampNeg (some x)))
    | .arraylength => pR st fun a r => gd ((12 ≤ aK S a ∧ aK S a ≤ 16) ∨ aK S a = u) (K (k + 1) ls (.int (Int32.ofNat (aN S a)) :: r) b S)
    | .newarray _ => pI st fun n r => gd (¬ n < 0 ∧ n.toNatClampNeg ≤ 60000 ∧ 1 ≤ b.1 ∧ n.toNatClampNeg ≤ b.2) (K (k + 1) ls (.ref (aZ S) :: r) (b.1 - 1, b.2 - n.toNatClampNeg) (wN S u n.toNatClampNeg))
    | .anewarray _ => pI st fun n r => gd (¬ n < 0 ∧ n.toNatClampNeg ≤ 60000 ∧ 1 ≤ b.1 ∧ n.toNatClampNeg ≤ b.2) (K (k + 1) ls (.ref (aZ S) :: r) (b.1 - 1, b.2 - n.toNatClampNeg) (wN S 16 n.toNatClampNeg))
    | .new _ => gd (1 ≤ b.1 ∧ v ≤ b.2) (K (k + 1) ls (.ref (aZ S) :: st) (b.1 - 1, b.2 - v) (wN S u 0))
    | .if_icmp cd _ => pI st fun y r => pI r fun x r => cmp_ cd x y (K u ls r b S) (K (k + 1) ls r b S)
    | .ifCond cd _ => pI st fun x r => cmp_ cd x 0 (K u ls r b S) (K (k + 1) ls r b S)
    | .ifnull _ => (match st with
      | .ref _ :: r => K (k + 1) ls r b S
      | .null :: r => K u ls r b S
      | _ => none)
    | .ifnonnull _ => (match st with
      | .ref _ :: r => K u ls r b S
      | .null :: r => K (k + 1) ls r b S
      | _ => none)
    | .goto _ => K u ls st b S
    | .tableswitch _ _ _ _ => pI st fun x r => sw_ x u (fun t => K t ls r b S) ts
    | .lookupswitch _ _ => pI st fun x r => sw_ x u (fun t => K t ls r b S) ts
    | .invokevirtual _ => ca_ u v w z ts st b S C fun st b S => K (k + 1) ls st b S
    | .invokestatic _ => ca_ u v w z ts st b S C fun st b S => K (k + 1) ls st b S
    | .invokespecial _ => (match w with
      | 9 => pR st fun _ r => bo_ (Nat.ble (cs_ r) 8) (K (k + 1) ls r b S)
      | _ => ca_ u v w z ts st b S C fun st b S => K (k + 1) ls st b S)
    | .ireturn => (match st with
      | [.int x] => (match w with
        | 0 => some (some (.int x), S)
        | _ => gd (x = 0 ∨ x = 1) (some (some (.int x), S)))
      | _ => none)
    | .lreturn => (match st with
      | [.long x] => some (some (.long x), S)
      | _ => none)
    | .return_ => (match st with
      | [] => some (none, S)
      | _ => none)
    | .nop => K (k + 1) (mk_ ts ls) st b S
    | _ => none
def ic_ (i : aM) : Bool := match i.1 with
  | .nop => true
  | _ => false
def blk (code : List aM) (Kc : aKt) (C : aC) : Nat → aKt
  | 0, k, ls, st, b, S => Kc k ls st b S
  | f + 1, k, ls, st, b, S => match cg_ code k with
    | none => none
    | some i => (match ic_ i with
      | true => Kc (k + 1) (mk_ i.2.2.2.2 ls) st b S
      | false => ex1 i k ls st b S (blk code Kc C f) C)
def ea_ : List Value → aL
  | [] => []
  | .long x :: t => some (.long x) :: none :: ea_ t
  | v :: t => some v :: ea_ t
def pd_ : aL → Nat → aL
  | [], n => List.replicate n none
  | x :: t, n => x :: pd_ t (n - 1)
/-! the machine by steps, and what it comes to -/
def am (cd : Nat → List aM) (ml : Nat → Nat) (mb : Nat → aB) (xt : aC) : Nat → Nat → aKt
  | 0, _, _, _, _, _, _ => none
  | n + 1, id, k, ls, st, b, S => match cg_ (cd id) k with
    | none => none
    | some i => ex1 i k ls st b S (am cd ml mb xt n id) (fun u as S => if u < 900 then am cd ml mb xt n u 0 (pd_ (ea_ as) (ml u)) [] (mb u) S else xt u as S)
/-- the chain F comes to x -/
def Cn (F : Nat → aO) (x : aO) : Prop := ∀ r, x = some r → ∃ n, ∀ m, n ≤ m → F m = some r
theorem cn_none {F : Nat → aO} : Cn F none := fun r h => by cases h
theorem cn_const {x : aO} : Cn (fun _ => x) x := fun r h => ⟨0, fun _ _ => h⟩
theorem cn_pI {st : List Value} {f : Nat → Int32 → List Value → aO} {g : Int32 → List Value → aO} (h : ∀ x r, Cn (fun n => f n x r) (g x r)) : Cn (fun n => pI st (f n)) (pI st g) := by
  unfold pI; split
  · exact h _ _
  · exact cn_none
theorem cn_pJ {st : List Value} {f : Nat → Int64 → List Value → aO} {g : Int64 → List Value → aO} (h : ∀ x r, Cn (fun n => f n x r) (g x r)) : Cn (fun n => pJ st (f n)) (pJ st g) := by
  unfold pJ; split
  · exact h _ _
  · exact cn_none
theorem cn_pR {st : List Value} {f : Nat → Nat → List Value → aO} {g : Nat → List Value → aO} (h : ∀ x r, Cn (fun n => f n x r) (g x r)) : Cn (fun n => pR st (f n)) (pR st g) := by
  unfold pR; split
  · exact h _ _
  · exact cn_none
theorem cn_lI {v : Option Value} {f : Nat → Int32 → aO} {g : Int32 → aO} (h : ∀ x, Cn (fun n => f n x) (g x)) : Cn (fun n => lI v (f n)) (lI v g) := by
  unfold lI; split
  · exact h _
  · exact cn_none
theorem cn_lJ {v : Option Value} {f : Nat → Int64 → aO} {g : Int64 → aO} (h : ∀ x, Cn (fun n => f n x) (g x)) : Cn (fun n => lJ v (f n)) (lJ v g) := by
  unfold lJ; split
  · exact h _
  · exact cn_none
theorem cn_lR {v : Option Value} {f : Nat → Nat → aO} {g : Nat → aO} (h : ∀ x, Cn (fun n => f n x) (g x)) : Cn (fun n => lR v (f n)) (lR v g) := by
  unfold lR; split
  · exact h _
  · exact cn_none
theorem cn_nR {v : Option Nat} {f : Nat → Nat → aO} {g : Nat → aO} (h : ∀ x, Cn (fun n => f n x) (g x)) : Cn (fun n => nR v (f n)) (nR v g) := by
  unfold nR; split
  · exact h _
  · exact cn_none
theorem cn_nQ {v : Option Nat} {f : Nat → Nat → aO} {g : Nat → aO} {f2 : Nat → aO} {g2 : aO} (h : ∀ x, Cn (fun n => f n x) (g x)) (h2 : Cn f2 g2) : Cn (fun n => nQ v (f n) (f2 n)) (nQ v g g2) := by
  unfold nQ; split
  · exact h _
  · exact h2
theorem cn_gd {c : Prop} [Decidable c] {f : Nat → aO} {g : aO} (h : Cn f g) : Cn (fun n => gd c (f n)) (gd c g) := by
  unfold gd; split
  · exact h
  · exact cn_none
theorem cn_bo {c : Bool} {f : Nat → aO} {g : aO} (h : Cn f g) : Cn (fun n => bo_ c (f n)) (bo_ c g) := by
  cases c
  · exact cn_none
  · exact h
theorem cn_ite {c : Prop} [Decidable c] {f f2 : Nat → aO} {g g2 : aO} (h : Cn f g) (h2 : Cn f2 g2) : Cn (fun n => if c then f n else f2 n) (if c then g else g2) := by
  split
  · exact h
  · exact h2
theorem cn_cmp {c : ClassFile.Cond} {x y : Int32} {f f2 : Nat → aO} {g g2 : aO} (h : Cn f g) (h2 : Cn f2 g2) : Cn (fun n => cmp_ c x y (f n) (f2 n)) (cmp_ c x y g g2) := by
  cases c <;> simp only [cmp_] <;> first | exact cn_ite h h2 | exact cn_ite h2 h
theorem cn_tk {f : Nat → List Value → List Value → aO} {g : List Value → List Value → aO} (h : ∀ a r, Cn (fun n => f n a r) (g a r)) : ∀ (v : Nat) (acc st : List Value), Cn (fun n => tk_ v acc st (f n)) (tk_ v acc st g)
  | 0, acc, st => h acc st
  | v + 1, acc, [] => cn_none
  | v + 1, acc, x :: st => cn_tk h v (x :: acc) st
theorem cn_sw {x : Int32} {d : Nat} {f : Nat → Nat → aO} {g : Nat → aO} (h : ∀ t, Cn (fun n => f n t) (g t)) : ∀ ts : List (Int32 × Nat), Cn (fun n => sw_ x d (f n) ts) (sw_ x d g ts)
  | [] => h d
  | (c, t) :: r => cn_ite (h t) (cn_sw h r)
theorem cn_cl {w : Nat} {q : Nat → aO} {q0 : aO} {r : List Value} {f : Nat → List Value → aH → aO} {g : List Value → aH → aO} (hq : Cn q q0) (h : ∀ st S, Cn (fun n => f n st S) (g st S)) : Cn (fun n => cl_ w (q n) r (f n)) (cl_ w q0 r g) := by
  intro z hz
  cases h0 : q0 with
  | none => rw [h0] at hz; unfold cl_ at hz; split at hz <;> cases hz
  | some y =>
    obtain ⟨n1, h1⟩ := hq y h0
    rw [h0] at hz
    have key : Cn (fun n => cl_ w (some y) r (f n)) (cl_ w (some y) r g) := by
      unfold cl_; split
      · unfold cV; split
        · exact h _ _
        · exact cn_none
      · unfold cI; split
        · exact h _ _
        · exact cn_none
      · unfold cJ; split
        · exact h _ _
        · exact cn_none
    obtain ⟨n2, h2⟩ := key z hz
    refine ⟨n1 + n2, fun m hm => ?_⟩
    show cl_ w (q m) r (f m) = some z
    rw [h1 m (by omega)]
    exact h2 m (by omega)
theorem cn_rk {z : Nat} {as : List Value} {S : aH} {f : Nat → aO} {g : aO} (h : Cn f g) : Cn (fun n => rk_ z as S (f n)) (rk_ z as S g) := by
  unfold rk_; split
  · exact h
  · split
    · exact cn_gd h
    · exact cn_none
theorem cn_ca {u v w z : Nat} {ts : List (Int32 × Nat)} {st : List Value} {b : aB} {S : aH} {Cq : Nat → aC} {C : aC} {f : Nat → List Value → aB → aH → aO} {g : List Value → aB → aH → aO} (hC : ∀ u as S, Cn (fun n => Cq n u as S) (C u as S)) (h : ∀ st b S, Cn (fun n => f n st b S) (g st b S)) : Cn (fun n => ca_ u v w z ts st b S (Cq n) (f n)) (ca_ u v w z ts st b S C g) := by
  unfold ca_
  apply cn_tk
  intro a r
  apply cn_bo
  apply cn_rk
  split
  · exact cn_cl (hC _ _ _) (fun st S => h st b S)
  · exact cn_gd (cn_cl (hC _ _ _) (fun st S => h st _ S))
  · exact cn_none
set_option maxHeartbeats 4000000 in
theorem ex1_cn {i : aM} {k : Nat} {ls : aL} {st : List Value} {b : aB} {S : aH} {Kq : Nat → aKt} {K : aKt} {Cq : Nat → aC} {C : aC} (hK : ∀ k ls st b S, Cn (fun n => Kq n k ls st b S) (K k ls st b S)) (hC : ∀ u as S, Cn (fun n => Cq n u as S) (C u as S)) : Cn (fun n => ex1 i k ls st b S (Kq n) (Cq n)) (ex1 i k ls st b S K C) := by
  obtain ⟨ins, ⟨u, v, w, z⟩, c, d, ts⟩ := i
  cases ins <;> simp only [ex1] <;> first
    | exact cn_none
    | exact cn_const
    | exact hK _ _ _ _ _
    | (apply cn_lI; intro x; exact hK _ _ _ _ _)
    | (apply cn_lJ; intro x; exact hK _ _ _ _ _)
    | (apply cn_lR; intro x; exact hK _ _ _ _ _)
    | (apply cn_pI; intro x r; exact hK _ _ _ _ _)
    | (apply cn_pJ; intro x r; exact hK _ _ _ _ _)
    | (apply cn_pR; intro x r; exact hK _ _ _ _ _)
    | (apply cn_pI; intro x r; apply cn_pI; intro y r; exact hK _ _ _ _ _)
    | (apply cn_pI; intro x r; apply cn_pI; intro y r; exact cn_gd (hK _ _ _ _ _))
    | (apply cn_pI; intro x r; apply cn_pI; intro y r; exact cn_cmp (hK _ _ _ _ _) (hK _ _ _ _ _))
    | (apply cn_pI; intro x r; exact cn_cmp (hK _ _ _ _ _) (hK _ _ _ _ _))
    | (apply cn_pI; intro x r; exact cn_gd (hK _ _ _ _ _))
    | (apply cn_pR; intro x r; exact cn_gd (hK _ _ _ _ _))
    | (apply cn_pJ; intro x r; apply cn_pJ; intro y r; exact hK _ _ _ _ _)
    | (apply cn_pJ; intro x r; apply cn_pJ; intro y r; exact cn_gd (hK _ _ _ _ _))
    | (apply cn_pI; intro x r; apply cn_pJ; intro y r; exact hK _ _ _ _ _)
    | (apply cn_pI; intro x r; apply cn_pR; intro y r; exact cn_gd (hK _ _ _ _ _))
    | (apply cn_pI; intro x r; apply cn_pR; intro y r; apply cn_gd; apply cn_nR; intro z; exact hK _ _ _ _ _)
    | (apply cn_pI; intro x r; apply cn_pI; intro y r; apply cn_pR; intro z r; exact cn_gd (hK _ _ _ _ _))
    | (apply cn_pJ; intro x r; apply cn_pI; intro y r; apply cn_pR; intro z r; exact cn_gd (hK _ _ _ _ _))
    | (apply cn_pR; intro x r; apply cn_pI; intro y r; apply cn_pR; intro z r; exact cn_gd (hK _ _ _ _ _))
    | (apply cn_pI; intro x r; apply cn_sw; intro t; exact hK _ _ _ _ _)
    | exact cn_gd (hK _ _ _ _ _)
    | exact cn_ca hC (fun st b S => hK _ _ _ _ _)
    | (split <;> first | exact hK _ _ _ _ _ | exact cn_none | exact cn_const | exact cn_ca hC (fun st b S => hK _ _ _ _ _))
    | (split <;> first | (apply cn_pR; intro x r; apply cn_bo; exact hK _ _ _ _ _) | exact cn_ca hC (fun st b S => hK _ _ _ _ _))
    | (apply cn_pR; intro x r; apply cn_gd; split <;> first | exact hK _ _ _ _ _ | (apply cn_nR; intro z; exact hK _ _ _ _ _) | (apply cn_nQ (fun z => hK _ _ _ _ _) (hK _ _ _ _ _)))
    | (apply cn_pI; intro x r; apply cn_pI; intro y r; apply cn_pR; intro z r; apply cn_gd; split <;> first | exact hK _ _ _ _ _ | exact cn_gd (hK _ _ _ _ _))
    | (split <;> first | (apply cn_pI; intro x r; apply cn_pR; intro y r; exact cn_gd (hK _ _ _ _ _)) | (apply cn_pJ; intro x r; apply cn_pR; intro y r; exact cn_gd (hK _ _ _ _ _)) | (apply cn_pR; intro x r; apply cn_pR; intro y r; exact cn_gd (hK _ _ _ _ _)) | (apply cn_pI; intro x r; apply cn_pR; intro y r; exact cn_gd (cn_gd (hK _ _ _ _ _))))
section
variable (cd : Nat → List aM) (ml : Nat → Nat) (mb : Nat → aB) (xt : aC)
/-- what a frame comes to -/
noncomputable def Amg (id : Nat) : aKt := fun k ls st b S => @dite aO (∃ r, ∃ n, ∀ m, n ≤ m → am cd ml mb xt m id k ls st b S = some r) (Classical.propDecidable _) (fun h => some h.choose) (fun _ => none)
noncomputable def Cag : aC := fun u as S => if u < 900 then Amg cd ml mb xt u 0 (pd_ (ea_ as) (ml u)) [] (mb u) S else xt u as S
theorem Amg_iff {id k : Nat} {ls : aL} {st : List Value} {b : aB} {S : aH} {r : Option Value × aH} : Amg cd ml mb xt id k ls st b S = some r ↔ ∃ n, ∀ m, n ≤ m → am cd ml mb xt m id k ls st b S = some r := by
  unfold Amg
  by_cases h : ∃ r, ∃ n, ∀ m, n ≤ m → am cd ml mb xt m id k ls st b S = some r
  · rw [dif_pos h]
    have hc := h.choose_spec
    constructor
    · intro e
      have e := Option.some.inj e
      rw [← e]; exact hc
    · intro ⟨n, hn⟩
      obtain ⟨n2, h2⟩ := hc
      have a1 := hn (n + n2) (by omega)
      have a2 := h2 (n + n2) (by omega)
      rw [a1] at a2
      rw [← Option.some.inj a2]
  · rw [dif_neg h]
    constructor
    · intro e; cases e
    · intro e; exact absurd ⟨r, e⟩ h
theorem Amg_cn (id k : Nat) (ls : aL) (st : List Value) (b : aB) (S : aH) : Cn (fun n => am cd ml mb xt n id k ls st b S) (Amg cd ml mb xt id k ls st b S) := fun r h => (Amg_iff cd ml mb xt).mp h
theorem Cag_cn (u : Nat) (as : List Value) (S : aH) : Cn (fun n => if u < 900 then am cd ml mb xt n u 0 (pd_ (ea_ as) (ml u)) [] (mb u) S else xt u as S) (Cag cd ml mb xt u as S) := by
  unfold Cag
  split
  · exact Amg_cn cd ml mb xt u 0 _ _ _ _
  · exact cn_const
theorem Amg_step {id k : Nat} {ls : aL} {st : List Value} {b : aB} {S : aH} {r : Option Value × aH} {i : aM} (hi : cg_ (cd id) k = some i) (h : ex1 i k ls st b S (Amg cd ml mb xt id) (Cag cd ml mb xt) = some r) : Amg cd ml mb xt id k ls st b S = some r := by
  obtain ⟨n, hn⟩ := ex1_cn (Amg_cn cd ml mb xt id) (Cag_cn cd ml mb xt) r h
  refine (Amg_iff cd ml mb xt).mpr ⟨n + 1, fun m hm => ?_⟩
  obtain ⟨m, rfl⟩ : ∃ j, m = j + 1 := ⟨m - 1, by omega⟩
  simp only [am, hi]
  exact hn m (by omega)
theorem Amg_blk {id : Nat} {r : Option Value × aH} : ∀ (f k : Nat) (ls : aL) (st : List Value) (b : aB) (S : aH), blk (cd id) (Amg cd ml mb xt id) (Cag cd ml mb xt) f k ls st b S = some r → Amg cd ml mb xt id k ls st b S = some r
  | 0, k, ls, st, b, S, h => h
  | f + 1, k, ls, st, b, S, h => by
    unfold blk at h
    split at h
    · cases h
    · next i hi =>
      refine Amg_step cd ml mb xt hi ?_
      split at h
      · next hc =>
        obtain ⟨ins, ⟨u, v, w, z⟩, c, d, ts⟩ := i
        cases ins <;> first | (simp [ic_] at hc; done) | exact h
      · obtain ⟨n, hn⟩ := ex1_cn (i := i) (k := k) (ls := ls) (st := st) (b := b) (S := S) (Kq := fun _ => Amg cd ml mb xt id) (Cq := fun _ => Cag cd ml mb xt) (fun k ls st b S r h => ⟨0, fun _ _ => Amg_blk f k ls st b S h⟩) (fun u as S r h => ⟨0, fun _ _ => h⟩) r h
        exact hn n (Nat.le_refl n)
end
end
