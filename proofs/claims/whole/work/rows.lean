section
-- ===== PART A: goes FIRST, ahead of the names: the tables' words, and 'selects' of the private methods out of them =====
/-- a private method of a class that the tables say can be made, by its rows of tables_1 -/
def lw_okq (q : MethodName × Nat) : Prop := (q.1.cls ≠ "java/lang/invoke/MethodHandle" ∧ q.1.cls ≠ "java/lang/invoke/VarHandle") ∧ Cond.instantiable q.1.cls q.2 ∈ tables_1 ∧ Cond.privateMethod q.1 ∈ tables_1 ∧ Cond.instanceMethod q.1 ∈ tables_1
theorem lw_p0 : lw_okq (⟨"CounterMine", "refuse", "(I)I"⟩, 12) := ⟨⟨by decide +kernel, by decide +kernel⟩, List.mem_of_getElem? (i := 25) (by decide +kernel), List.mem_of_getElem? (i := 398) (by decide +kernel), List.mem_of_getElem? (i := 399) (by decide +kernel)⟩
theorem lw_p1 : lw_okq (⟨"CounterMine$Tape", "byteAt", "(I)I"⟩, 6) := ⟨⟨by decide +kernel, by decide +kernel⟩, List.mem_of_getElem? (i := 39) (by decide +kernel), List.mem_of_getElem? (i := 418) (by decide +kernel), List.mem_of_getElem? (i := 419) (by decide +kernel)⟩
theorem lw_p2 : lw_okq (⟨"CounterMine$Reader", "readField", "()V"⟩, 9) := ⟨⟨by decide +kernel, by decide +kernel⟩, List.mem_of_getElem? (i := 33) (by decide +kernel), List.mem_of_getElem? (i := 482) (by decide +kernel), List.mem_of_getElem? (i := 483) (by decide +kernel)⟩
theorem lw_p3 : lw_okq (⟨"CounterMine$Reader", "fail", "(I)V"⟩, 9) := ⟨⟨by decide +kernel, by decide +kernel⟩, List.mem_of_getElem? (i := 33) (by decide +kernel), List.mem_of_getElem? (i := 486) (by decide +kernel), List.mem_of_getElem? (i := 487) (by decide +kernel)⟩
theorem lw_p4 : lw_okq (⟨"CounterMine$Reader", "failAt", "(II)V"⟩, 9) := ⟨⟨by decide +kernel, by decide +kernel⟩, List.mem_of_getElem? (i := 33) (by decide +kernel), List.mem_of_getElem? (i := 490) (by decide +kernel), List.mem_of_getElem? (i := 491) (by decide +kernel)⟩
theorem lw_p5 : lw_okq (⟨"CounterMine$Reader", "readNamed", "(Ljava/lang/String;II)I"⟩, 9) := ⟨⟨by decide +kernel, by decide +kernel⟩, List.mem_of_getElem? (i := 33) (by decide +kernel), List.mem_of_getElem? (i := 496) (by decide +kernel), List.mem_of_getElem? (i := 497) (by decide +kernel)⟩
theorem lw_p6 : lw_okq (⟨"CounterMine$Reader", "readWhole", "(II)I"⟩, 9) := ⟨⟨by decide +kernel, by decide +kernel⟩, List.mem_of_getElem? (i := 33) (by decide +kernel), List.mem_of_getElem? (i := 500) (by decide +kernel), List.mem_of_getElem? (i := 501) (by decide +kernel)⟩
theorem lw_p7 : lw_okq (⟨"CounterMine$Reader", "readRow", "()V"⟩, 9) := ⟨⟨by decide +kernel, by decide +kernel⟩, List.mem_of_getElem? (i := 33) (by decide +kernel), List.mem_of_getElem? (i := 512) (by decide +kernel), List.mem_of_getElem? (i := 513) (by decide +kernel)⟩
theorem lw_p8 : lw_okq (⟨"CounterMine$Reader", "nextWord", "()V"⟩, 9) := ⟨⟨by decide +kernel, by decide +kernel⟩, List.mem_of_getElem? (i := 33) (by decide +kernel), List.mem_of_getElem? (i := 516) (by decide +kernel), List.mem_of_getElem? (i := 517) (by decide +kernel)⟩
theorem lw_p9 : lw_okq (⟨"CounterMine$Reader", "takeRow", "()Z"⟩, 9) := ⟨⟨by decide +kernel, by decide +kernel⟩, List.mem_of_getElem? (i := 33) (by decide +kernel), List.mem_of_getElem? (i := 520) (by decide +kernel), List.mem_of_getElem? (i := 521) (by decide +kernel)⟩
theorem lw_p10 : lw_okq (⟨"CounterMine$Reader", "readWall", "()V"⟩, 9) := ⟨⟨by decide +kernel, by decide +kernel⟩, List.mem_of_getElem? (i := 33) (by decide +kernel), List.mem_of_getElem? (i := 542) (by decide +kernel), List.mem_of_getElem? (i := 543) (by decide +kernel)⟩
theorem lw_p11 : lw_okq (⟨"CounterMine$Reader", "startBehindRows", "()V"⟩, 9) := ⟨⟨by decide +kernel, by decide +kernel⟩, List.mem_of_getElem? (i := 33) (by decide +kernel), List.mem_of_getElem? (i := 546) (by decide +kernel), List.mem_of_getElem? (i := 547) (by decide +kernel)⟩
theorem lw_p12 : lw_okq (⟨"CounterMine$Reader", "readCell", "()I"⟩, 9) := ⟨⟨by decide +kernel, by decide +kernel⟩, List.mem_of_getElem? (i := 33) (by decide +kernel), List.mem_of_getElem? (i := 550) (by decide +kernel), List.mem_of_getElem? (i := 551) (by decide +kernel)⟩
theorem lw_p13 : lw_okq (⟨"CounterMine$Reader", "readDrum", "()V"⟩, 9) := ⟨⟨by decide +kernel, by decide +kernel⟩, List.mem_of_getElem? (i := 33) (by decide +kernel), List.mem_of_getElem? (i := 562) (by decide +kernel), List.mem_of_getElem? (i := 563) (by decide +kernel)⟩
theorem lw_p14 : lw_okq (⟨"CounterMine$Reader", "readNewName", "()J"⟩, 9) := ⟨⟨by decide +kernel, by decide +kernel⟩, List.mem_of_getElem? (i := 33) (by decide +kernel), List.mem_of_getElem? (i := 566) (by decide +kernel), List.mem_of_getElem? (i := 567) (by decide +kernel)⟩
theorem lw_p15 : lw_okq (⟨"CounterMine$Reader", "isName", "()Z"⟩, 9) := ⟨⟨by decide +kernel, by decide +kernel⟩, List.mem_of_getElem? (i := 33) (by decide +kernel), List.mem_of_getElem? (i := 570) (by decide +kernel), List.mem_of_getElem? (i := 571) (by decide +kernel)⟩
def lw_privs_1 : List (MethodName × Nat) := [(⟨"CounterMine", "refuse", "(I)I"⟩, 12), (⟨"CounterMine$Tape", "byteAt", "(I)I"⟩, 6), (⟨"CounterMine$Reader", "readField", "()V"⟩, 9), (⟨"CounterMine$Reader", "fail", "(I)V"⟩, 9), (⟨"CounterMine$Reader", "failAt", "(II)V"⟩, 9), (⟨"CounterMine$Reader", "readNamed", "(Ljava/lang/String;II)I"⟩, 9), (⟨"CounterMine$Reader", "readWhole", "(II)I"⟩, 9), (⟨"CounterMine$Reader", "readRow", "()V"⟩, 9), (⟨"CounterMine$Reader", "nextWord", "()V"⟩, 9), (⟨"CounterMine$Reader", "takeRow", "()Z"⟩, 9), (⟨"CounterMine$Reader", "readWall", "()V"⟩, 9), (⟨"CounterMine$Reader", "startBehindRows", "()V"⟩, 9), (⟨"CounterMine$Reader", "readCell", "()I"⟩, 9), (⟨"CounterMine$Reader", "readDrum", "()V"⟩, 9), (⟨"CounterMine$Reader", "readNewName", "()J"⟩, 9), (⟨"CounterMine$Reader", "isName", "()Z"⟩, 9)]
theorem lw_r1 : ∀ q ∈ lw_privs_1, lw_okq q := List.forall_mem_cons.mpr ⟨lw_p0, List.forall_mem_cons.mpr ⟨lw_p1, List.forall_mem_cons.mpr ⟨lw_p2, List.forall_mem_cons.mpr ⟨lw_p3, List.forall_mem_cons.mpr ⟨lw_p4, List.forall_mem_cons.mpr ⟨lw_p5, List.forall_mem_cons.mpr ⟨lw_p6, List.forall_mem_cons.mpr ⟨lw_p7, List.forall_mem_cons.mpr ⟨lw_p8, List.forall_mem_cons.mpr ⟨lw_p9, List.forall_mem_cons.mpr ⟨lw_p10, List.forall_mem_cons.mpr ⟨lw_p11, List.forall_mem_cons.mpr ⟨lw_p12, List.forall_mem_cons.mpr ⟨lw_p13, List.forall_mem_cons.mpr ⟨lw_p14, List.forall_mem_cons.mpr ⟨lw_p15, fun _ h => absurd h List.not_mem_nil⟩⟩⟩⟩⟩⟩⟩⟩⟩⟩⟩⟩⟩⟩⟩⟩
theorem lw_p16 : lw_okq (⟨"CounterMine$Reader", "readGallery", "()V"⟩, 9) := ⟨⟨by decide +kernel, by decide +kernel⟩, List.mem_of_getElem? (i := 33) (by decide +kernel), List.mem_of_getElem? (i := 587) (by decide +kernel), List.mem_of_getElem? (i := 588) (by decide +kernel)⟩
theorem lw_p17 : lw_okq (⟨"CounterMine$Reader", "readSide", "()I"⟩, 9) := ⟨⟨by decide +kernel, by decide +kernel⟩, List.mem_of_getElem? (i := 33) (by decide +kernel), List.mem_of_getElem? (i := 591) (by decide +kernel), List.mem_of_getElem? (i := 592) (by decide +kernel)⟩
theorem lw_p18 : lw_okq (⟨"CounterMine$Reader", "takeWay", "(II)Z"⟩, 9) := ⟨⟨by decide +kernel, by decide +kernel⟩, List.mem_of_getElem? (i := 33) (by decide +kernel), List.mem_of_getElem? (i := 597) (by decide +kernel), List.mem_of_getElem? (i := 598) (by decide +kernel)⟩
theorem lw_p19 : lw_okq (⟨"CounterMine$Reader", "readReport", "()V"⟩, 9) := ⟨⟨by decide +kernel, by decide +kernel⟩, List.mem_of_getElem? (i := 33) (by decide +kernel), List.mem_of_getElem? (i := 617) (by decide +kernel), List.mem_of_getElem? (i := 618) (by decide +kernel)⟩
theorem lw_p20 : lw_okq (⟨"CounterMine$Reader", "readDrumName", "()I"⟩, 9) := ⟨⟨by decide +kernel, by decide +kernel⟩, List.mem_of_getElem? (i := 33) (by decide +kernel), List.mem_of_getElem? (i := 621) (by decide +kernel), List.mem_of_getElem? (i := 622) (by decide +kernel)⟩
theorem lw_p21 : lw_okq (⟨"CounterMine$Reader", "goesOn", "()Z"⟩, 9) := ⟨⟨by decide +kernel, by decide +kernel⟩, List.mem_of_getElem? (i := 33) (by decide +kernel), List.mem_of_getElem? (i := 633) (by decide +kernel), List.mem_of_getElem? (i := 634) (by decide +kernel)⟩
theorem lw_p22 : lw_okq (⟨"CounterMine$Works", "startNext", "(LCounterMine$Plan;I)V"⟩, 7) := ⟨⟨by decide +kernel, by decide +kernel⟩, List.mem_of_getElem? (i := 206) (by decide +kernel), List.mem_of_getElem? (i := 645) (by decide +kernel), List.mem_of_getElem? (i := 646) (by decide +kernel)⟩
theorem lw_p23 : lw_okq (⟨"CounterMine", "allowed", "(Z)Z"⟩, 12) := ⟨⟨by decide +kernel, by decide +kernel⟩, List.mem_of_getElem? (i := 25) (by decide +kernel), List.mem_of_getElem? (i := 701) (by decide +kernel), List.mem_of_getElem? (i := 702) (by decide +kernel)⟩
theorem lw_p24 : lw_okq (⟨"CounterMine", "allowed", "(ZZ)Z"⟩, 12) := ⟨⟨by decide +kernel, by decide +kernel⟩, List.mem_of_getElem? (i := 25) (by decide +kernel), List.mem_of_getElem? (i := 705) (by decide +kernel), List.mem_of_getElem? (i := 706) (by decide +kernel)⟩
theorem lw_p25 : lw_okq (⟨"CounterMine", "isGallery", "(I)Z"⟩, 12) := ⟨⟨by decide +kernel, by decide +kernel⟩, List.mem_of_getElem? (i := 25) (by decide +kernel), List.mem_of_getElem? (i := 731) (by decide +kernel), List.mem_of_getElem? (i := 732) (by decide +kernel)⟩
theorem lw_p26 : lw_okq (⟨"CounterMine", "isDrum", "(I)Z"⟩, 12) := ⟨⟨by decide +kernel, by decide +kernel⟩, List.mem_of_getElem? (i := 25) (by decide +kernel), List.mem_of_getElem? (i := 743) (by decide +kernel), List.mem_of_getElem? (i := 744) (by decide +kernel)⟩
theorem lw_p27 : lw_okq (⟨"CounterMine", "lookAhead", "(I)V"⟩, 12) := ⟨⟨by decide +kernel, by decide +kernel⟩, List.mem_of_getElem? (i := 25) (by decide +kernel), List.mem_of_getElem? (i := 769) (by decide +kernel), List.mem_of_getElem? (i := 770) (by decide +kernel)⟩
theorem lw_p28 : lw_okq (⟨"CounterMine", "firstNight", "(III)I"⟩, 12) := ⟨⟨by decide +kernel, by decide +kernel⟩, List.mem_of_getElem? (i := 25) (by decide +kernel), List.mem_of_getElem? (i := 789) (by decide +kernel), List.mem_of_getElem? (i := 790) (by decide +kernel)⟩
theorem lw_p29 : lw_okq (⟨"CounterMine", "isSo", "(III)Z"⟩, 12) := ⟨⟨by decide +kernel, by decide +kernel⟩, List.mem_of_getElem? (i := 25) (by decide +kernel), List.mem_of_getElem? (i := 793) (by decide +kernel), List.mem_of_getElem? (i := 794) (by decide +kernel)⟩
theorem lw_p30 : lw_okq (⟨"CounterMine$Works", "isOverheard", "(LCounterMine$Plan;I)Z"⟩, 7) := ⟨⟨by decide +kernel, by decide +kernel⟩, List.mem_of_getElem? (i := 206) (by decide +kernel), List.mem_of_getElem? (i := 815) (by decide +kernel), List.mem_of_getElem? (i := 816) (by decide +kernel)⟩
theorem lw_p31 : lw_okq (⟨"CounterMine$Ways", "nearest", "()I"⟩, 2) := ⟨⟨by decide +kernel, by decide +kernel⟩, List.mem_of_getElem? (i := 268) (by decide +kernel), List.mem_of_getElem? (i := 853) (by decide +kernel), List.mem_of_getElem? (i := 854) (by decide +kernel)⟩
def lw_privs_2 : List (MethodName × Nat) := [(⟨"CounterMine$Reader", "readGallery", "()V"⟩, 9), (⟨"CounterMine$Reader", "readSide", "()I"⟩, 9), (⟨"CounterMine$Reader", "takeWay", "(II)Z"⟩, 9), (⟨"CounterMine$Reader", "readReport", "()V"⟩, 9), (⟨"CounterMine$Reader", "readDrumName", "()I"⟩, 9), (⟨"CounterMine$Reader", "goesOn", "()Z"⟩, 9), (⟨"CounterMine$Works", "startNext", "(LCounterMine$Plan;I)V"⟩, 7), (⟨"CounterMine", "allowed", "(Z)Z"⟩, 12), (⟨"CounterMine", "allowed", "(ZZ)Z"⟩, 12), (⟨"CounterMine", "isGallery", "(I)Z"⟩, 12), (⟨"CounterMine", "isDrum", "(I)Z"⟩, 12), (⟨"CounterMine", "lookAhead", "(I)V"⟩, 12), (⟨"CounterMine", "firstNight", "(III)I"⟩, 12), (⟨"CounterMine", "isSo", "(III)Z"⟩, 12), (⟨"CounterMine$Works", "isOverheard", "(LCounterMine$Plan;I)Z"⟩, 7), (⟨"CounterMine$Ways", "nearest", "()I"⟩, 2)]
theorem lw_r2 : ∀ q ∈ lw_privs_2, lw_okq q := List.forall_mem_cons.mpr ⟨lw_p16, List.forall_mem_cons.mpr ⟨lw_p17, List.forall_mem_cons.mpr ⟨lw_p18, List.forall_mem_cons.mpr ⟨lw_p19, List.forall_mem_cons.mpr ⟨lw_p20, List.forall_mem_cons.mpr ⟨lw_p21, List.forall_mem_cons.mpr ⟨lw_p22, List.forall_mem_cons.mpr ⟨lw_p23, List.forall_mem_cons.mpr ⟨lw_p24, List.forall_mem_cons.mpr ⟨lw_p25, List.forall_mem_cons.mpr ⟨lw_p26, List.forall_mem_cons.mpr ⟨lw_p27, List.forall_mem_cons.mpr ⟨lw_p28, List.forall_mem_cons.mpr ⟨lw_p29, List.forall_mem_cons.mpr ⟨lw_p30, List.forall_mem_cons.mpr ⟨lw_p31, fun _ h => absurd h List.not_mem_nil⟩⟩⟩⟩⟩⟩⟩⟩⟩⟩⟩⟩⟩⟩⟩⟩
theorem lw_p32 : lw_okq (⟨"CounterMine$Ways", "lower", "(II)V"⟩, 2) := ⟨⟨by decide +kernel, by decide +kernel⟩, List.mem_of_getElem? (i := 268) (by decide +kernel), List.mem_of_getElem? (i := 864) (by decide +kernel), List.mem_of_getElem? (i := 865) (by decide +kernel)⟩
theorem lw_p33 : lw_okq (⟨"CounterMine$Cut", "findWay", "(LCounterMine$Plan;II)Z"⟩, 5) := ⟨⟨by decide +kernel, by decide +kernel⟩, List.mem_of_getElem? (i := 281) (by decide +kernel), List.mem_of_getElem? (i := 903) (by decide +kernel), List.mem_of_getElem? (i := 904) (by decide +kernel)⟩
theorem lw_p34 : lw_okq (⟨"CounterMine$Cut", "reach", "(II)V"⟩, 5) := ⟨⟨by decide +kernel, by decide +kernel⟩, List.mem_of_getElem? (i := 281) (by decide +kernel), List.mem_of_getElem? (i := 907) (by decide +kernel), List.mem_of_getElem? (i := 908) (by decide +kernel)⟩
theorem lw_p35 : lw_okq (⟨"CounterMine$Cut", "flows", "(II)Z"⟩, 5) := ⟨⟨by decide +kernel, by decide +kernel⟩, List.mem_of_getElem? (i := 281) (by decide +kernel), List.mem_of_getElem? (i := 914) (by decide +kernel), List.mem_of_getElem? (i := 915) (by decide +kernel)⟩
theorem lw_p36 : lw_okq (⟨"CounterMine$Cut", "takeWay", "(II)V"⟩, 5) := ⟨⟨by decide +kernel, by decide +kernel⟩, List.mem_of_getElem? (i := 281) (by decide +kernel), List.mem_of_getElem? (i := 921) (by decide +kernel), List.mem_of_getElem? (i := 922) (by decide +kernel)⟩
theorem lw_p37 : lw_okq (⟨"CounterMine$Cut", "turn", "(II)V"⟩, 5) := ⟨⟨by decide +kernel, by decide +kernel⟩, List.mem_of_getElem? (i := 281) (by decide +kernel), List.mem_of_getElem? (i := 925) (by decide +kernel), List.mem_of_getElem? (i := 926) (by decide +kernel)⟩
theorem lw_p38 : lw_okq (⟨"CounterMine", "isSoil", "(II)Z"⟩, 12) := ⟨⟨by decide +kernel, by decide +kernel⟩, List.mem_of_getElem? (i := 25) (by decide +kernel), List.mem_of_getElem? (i := 934) (by decide +kernel), List.mem_of_getElem? (i := 935) (by decide +kernel)⟩
theorem lw_p39 : lw_okq (⟨"CounterMine", "isFit", "(I)Z"⟩, 12) := ⟨⟨by decide +kernel, by decide +kernel⟩, List.mem_of_getElem? (i := 25) (by decide +kernel), List.mem_of_getElem? (i := 962) (by decide +kernel), List.mem_of_getElem? (i := 963) (by decide +kernel)⟩
theorem lw_p40 : lw_okq (⟨"CounterMine$Share", "set", "(JJ)V"⟩, 2) := ⟨⟨by decide +kernel, by decide +kernel⟩, List.mem_of_getElem? (i := 328) (by decide +kernel), List.mem_of_getElem? (i := 1050) (by decide +kernel), List.mem_of_getElem? (i := 1051) (by decide +kernel)⟩
theorem lw_p41 : lw_okq (⟨"java/lang/Throwable", "fillInStackTrace", "(I)Ljava/lang/Throwable;"⟩, 6) := ⟨⟨by decide +kernel, by decide +kernel⟩, List.mem_of_getElem? (i := 1178) (by decide +kernel), List.mem_of_getElem? (i := 1176) (by decide +kernel), List.mem_of_getElem? (i := 1177) (by decide +kernel)⟩
theorem lw_p42 : lw_okq (⟨"CounterMineModel", "refused", "(I)I"⟩, 33) := ⟨⟨by decide +kernel, by decide +kernel⟩, List.mem_of_getElem? (i := 1207) (by decide +kernel), List.mem_of_getElem? (i := 1326) (by decide +kernel), List.mem_of_getElem? (i := 1327) (by decide +kernel)⟩
theorem lw_p43 : lw_okq (⟨"CounterMineModel", "goesOn", "()V"⟩, 33) := ⟨⟨by decide +kernel, by decide +kernel⟩, List.mem_of_getElem? (i := 1207) (by decide +kernel), List.mem_of_getElem? (i := 1422) (by decide +kernel), List.mem_of_getElem? (i := 1423) (by decide +kernel)⟩
theorem lw_p44 : lw_okq (⟨"CounterMineModel", "byteAt", "(I)I"⟩, 33) := ⟨⟨by decide +kernel, by decide +kernel⟩, List.mem_of_getElem? (i := 1207) (by decide +kernel), List.mem_of_getElem? (i := 1426) (by decide +kernel), List.mem_of_getElem? (i := 1427) (by decide +kernel)⟩
theorem lw_p45 : lw_okq (⟨"CounterMineModel", "readAll", "()V"⟩, 33) := ⟨⟨by decide +kernel, by decide +kernel⟩, List.mem_of_getElem? (i := 1207) (by decide +kernel), List.mem_of_getElem? (i := 1437) (by decide +kernel), List.mem_of_getElem? (i := 1438) (by decide +kernel)⟩
theorem lw_p46 : lw_okq (⟨"CounterMineModel", "readLine", "()V"⟩, 33) := ⟨⟨by decide +kernel, by decide +kernel⟩, List.mem_of_getElem? (i := 1207) (by decide +kernel), List.mem_of_getElem? (i := 1441) (by decide +kernel), List.mem_of_getElem? (i := 1442) (by decide +kernel)⟩
theorem lw_p47 : lw_okq (⟨"CounterMineModel", "isWord", "(Ljava/lang/String;)Z"⟩, 33) := ⟨⟨by decide +kernel, by decide +kernel⟩, List.mem_of_getElem? (i := 1207) (by decide +kernel), List.mem_of_getElem? (i := 1446) (by decide +kernel), List.mem_of_getElem? (i := 1447) (by decide +kernel)⟩
def lw_privs_3 : List (MethodName × Nat) := [(⟨"CounterMine$Ways", "lower", "(II)V"⟩, 2), (⟨"CounterMine$Cut", "findWay", "(LCounterMine$Plan;II)Z"⟩, 5), (⟨"CounterMine$Cut", "reach", "(II)V"⟩, 5), (⟨"CounterMine$Cut", "flows", "(II)Z"⟩, 5), (⟨"CounterMine$Cut", "takeWay", "(II)V"⟩, 5), (⟨"CounterMine$Cut", "turn", "(II)V"⟩, 5), (⟨"CounterMine", "isSoil", "(II)Z"⟩, 12), (⟨"CounterMine", "isFit", "(I)Z"⟩, 12), (⟨"CounterMine$Share", "set", "(JJ)V"⟩, 2), (⟨"java/lang/Throwable", "fillInStackTrace", "(I)Ljava/lang/Throwable;"⟩, 6), (⟨"CounterMineModel", "refused", "(I)I"⟩, 33), (⟨"CounterMineModel", "goesOn", "()V"⟩, 33), (⟨"CounterMineModel", "byteAt", "(I)I"⟩, 33), (⟨"CounterMineModel", "readAll", "()V"⟩, 33), (⟨"CounterMineModel", "readLine", "()V"⟩, 33), (⟨"CounterMineModel", "isWord", "(Ljava/lang/String;)Z"⟩, 33)]
theorem lw_r3 : ∀ q ∈ lw_privs_3, lw_okq q := List.forall_mem_cons.mpr ⟨lw_p32, List.forall_mem_cons.mpr ⟨lw_p33, List.forall_mem_cons.mpr ⟨lw_p34, List.forall_mem_cons.mpr ⟨lw_p35, List.forall_mem_cons.mpr ⟨lw_p36, List.forall_mem_cons.mpr ⟨lw_p37, List.forall_mem_cons.mpr ⟨lw_p38, List.forall_mem_cons.mpr ⟨lw_p39, List.forall_mem_cons.mpr ⟨lw_p40, List.forall_mem_cons.mpr ⟨lw_p41, List.forall_mem_cons.mpr ⟨lw_p42, List.forall_mem_cons.mpr ⟨lw_p43, List.forall_mem_cons.mpr ⟨lw_p44, List.forall_mem_cons.mpr ⟨lw_p45, List.forall_mem_cons.mpr ⟨lw_p46, List.forall_mem_cons.mpr ⟨lw_p47, fun _ h => absurd h List.not_mem_nil⟩⟩⟩⟩⟩⟩⟩⟩⟩⟩⟩⟩⟩⟩⟩⟩
theorem lw_p48 : lw_okq (⟨"CounterMineModel", "readField", "()V"⟩, 33) := ⟨⟨by decide +kernel, by decide +kernel⟩, List.mem_of_getElem? (i := 1207) (by decide +kernel), List.mem_of_getElem? (i := 1455) (by decide +kernel), List.mem_of_getElem? (i := 1456) (by decide +kernel)⟩
theorem lw_p49 : lw_okq (⟨"CounterMineModel", "flaw", "(I)V"⟩, 33) := ⟨⟨by decide +kernel, by decide +kernel⟩, List.mem_of_getElem? (i := 1207) (by decide +kernel), List.mem_of_getElem? (i := 1459) (by decide +kernel), List.mem_of_getElem? (i := 1460) (by decide +kernel)⟩
theorem lw_p50 : lw_okq (⟨"CounterMineModel", "readPart", "(Ljava/lang/String;II)I"⟩, 33) := ⟨⟨by decide +kernel, by decide +kernel⟩, List.mem_of_getElem? (i := 1207) (by decide +kernel), List.mem_of_getElem? (i := 1464) (by decide +kernel), List.mem_of_getElem? (i := 1465) (by decide +kernel)⟩
theorem lw_p51 : lw_okq (⟨"CounterMineModel", "needs", "(Ljava/lang/String;)V"⟩, 33) := ⟨⟨by decide +kernel, by decide +kernel⟩, List.mem_of_getElem? (i := 1207) (by decide +kernel), List.mem_of_getElem? (i := 1468) (by decide +kernel), List.mem_of_getElem? (i := 1469) (by decide +kernel)⟩
theorem lw_p52 : lw_okq (⟨"CounterMineModel", "readWhole", "(II)I"⟩, 33) := ⟨⟨by decide +kernel, by decide +kernel⟩, List.mem_of_getElem? (i := 1207) (by decide +kernel), List.mem_of_getElem? (i := 1472) (by decide +kernel), List.mem_of_getElem? (i := 1473) (by decide +kernel)⟩
theorem lw_p53 : lw_okq (⟨"CounterMineModel", "wholeAt", "(II)I"⟩, 33) := ⟨⟨by decide +kernel, by decide +kernel⟩, List.mem_of_getElem? (i := 1207) (by decide +kernel), List.mem_of_getElem? (i := 1476) (by decide +kernel), List.mem_of_getElem? (i := 1477) (by decide +kernel)⟩
theorem lw_p54 : lw_okq (⟨"CounterMineModel", "readRow", "()V"⟩, 33) := ⟨⟨by decide +kernel, by decide +kernel⟩, List.mem_of_getElem? (i := 1207) (by decide +kernel), List.mem_of_getElem? (i := 1487) (by decide +kernel), List.mem_of_getElem? (i := 1488) (by decide +kernel)⟩
theorem lw_p55 : lw_okq (⟨"CounterMineModel", "isRow", "()Z"⟩, 33) := ⟨⟨by decide +kernel, by decide +kernel⟩, List.mem_of_getElem? (i := 1207) (by decide +kernel), List.mem_of_getElem? (i := 1491) (by decide +kernel), List.mem_of_getElem? (i := 1492) (by decide +kernel)⟩
theorem lw_p56 : lw_okq (⟨"CounterMineModel", "letterAt", "(I)I"⟩, 33) := ⟨⟨by decide +kernel, by decide +kernel⟩, List.mem_of_getElem? (i := 1207) (by decide +kernel), List.mem_of_getElem? (i := 1495) (by decide +kernel), List.mem_of_getElem? (i := 1496) (by decide +kernel)⟩
theorem lw_p57 : lw_okq (⟨"CounterMineModel", "readWall", "()V"⟩, 33) := ⟨⟨by decide +kernel, by decide +kernel⟩, List.mem_of_getElem? (i := 1207) (by decide +kernel), List.mem_of_getElem? (i := 1504) (by decide +kernel), List.mem_of_getElem? (i := 1505) (by decide +kernel)⟩
theorem lw_p58 : lw_okq (⟨"CounterMineModel", "lineBegins", "(II)V"⟩, 33) := ⟨⟨by decide +kernel, by decide +kernel⟩, List.mem_of_getElem? (i := 1207) (by decide +kernel), List.mem_of_getElem? (i := 1508) (by decide +kernel), List.mem_of_getElem? (i := 1509) (by decide +kernel)⟩
theorem lw_p59 : lw_okq (⟨"CounterMineModel", "readCell", "()I"⟩, 33) := ⟨⟨by decide +kernel, by decide +kernel⟩, List.mem_of_getElem? (i := 1207) (by decide +kernel), List.mem_of_getElem? (i := 1512) (by decide +kernel), List.mem_of_getElem? (i := 1513) (by decide +kernel)⟩
theorem lw_p60 : lw_okq (⟨"CounterMineModel", "readDrum", "()V"⟩, 33) := ⟨⟨by decide +kernel, by decide +kernel⟩, List.mem_of_getElem? (i := 1207) (by decide +kernel), List.mem_of_getElem? (i := 1521) (by decide +kernel), List.mem_of_getElem? (i := 1522) (by decide +kernel)⟩
theorem lw_p61 : lw_okq (⟨"CounterMineModel", "readFresh", "()J"⟩, 33) := ⟨⟨by decide +kernel, by decide +kernel⟩, List.mem_of_getElem? (i := 1207) (by decide +kernel), List.mem_of_getElem? (i := 1525) (by decide +kernel), List.mem_of_getElem? (i := 1526) (by decide +kernel)⟩
theorem lw_p62 : lw_okq (⟨"CounterMineModel", "isName", "()Z"⟩, 33) := ⟨⟨by decide +kernel, by decide +kernel⟩, List.mem_of_getElem? (i := 1207) (by decide +kernel), List.mem_of_getElem? (i := 1529) (by decide +kernel), List.mem_of_getElem? (i := 1530) (by decide +kernel)⟩
theorem lw_p63 : lw_okq (⟨"CounterMineModel", "names", "(JII)V"⟩, 33) := ⟨⟨by decide +kernel, by decide +kernel⟩, List.mem_of_getElem? (i := 1207) (by decide +kernel), List.mem_of_getElem? (i := 1539) (by decide +kernel), List.mem_of_getElem? (i := 1540) (by decide +kernel)⟩
def lw_privs_4 : List (MethodName × Nat) := [(⟨"CounterMineModel", "readField", "()V"⟩, 33), (⟨"CounterMineModel", "flaw", "(I)V"⟩, 33), (⟨"CounterMineModel", "readPart", "(Ljava/lang/String;II)I"⟩, 33), (⟨"CounterMineModel", "needs", "(Ljava/lang/String;)V"⟩, 33), (⟨"CounterMineModel", "readWhole", "(II)I"⟩, 33), (⟨"CounterMineModel", "wholeAt", "(II)I"⟩, 33), (⟨"CounterMineModel", "readRow", "()V"⟩, 33), (⟨"CounterMineModel", "isRow", "()Z"⟩, 33), (⟨"CounterMineModel", "letterAt", "(I)I"⟩, 33), (⟨"CounterMineModel", "readWall", "()V"⟩, 33), (⟨"CounterMineModel", "lineBegins", "(II)V"⟩, 33), (⟨"CounterMineModel", "readCell", "()I"⟩, 33), (⟨"CounterMineModel", "readDrum", "()V"⟩, 33), (⟨"CounterMineModel", "readFresh", "()J"⟩, 33), (⟨"CounterMineModel", "isName", "()Z"⟩, 33), (⟨"CounterMineModel", "names", "(JII)V"⟩, 33)]
theorem lw_r4 : ∀ q ∈ lw_privs_4, lw_okq q := List.forall_mem_cons.mpr ⟨lw_p48, List.forall_mem_cons.mpr ⟨lw_p49, List.forall_mem_cons.mpr ⟨lw_p50, List.forall_mem_cons.mpr ⟨lw_p51, List.forall_mem_cons.mpr ⟨lw_p52, List.forall_mem_cons.mpr ⟨lw_p53, List.forall_mem_cons.mpr ⟨lw_p54, List.forall_mem_cons.mpr ⟨lw_p55, List.forall_mem_cons.mpr ⟨lw_p56, List.forall_mem_cons.mpr ⟨lw_p57, List.forall_mem_cons.mpr ⟨lw_p58, List.forall_mem_cons.mpr ⟨lw_p59, List.forall_mem_cons.mpr ⟨lw_p60, List.forall_mem_cons.mpr ⟨lw_p61, List.forall_mem_cons.mpr ⟨lw_p62, List.forall_mem_cons.mpr ⟨lw_p63, fun _ h => absurd h List.not_mem_nil⟩⟩⟩⟩⟩⟩⟩⟩⟩⟩⟩⟩⟩⟩⟩⟩
theorem lw_p64 : lw_okq (⟨"CounterMineModel", "readDig", "()V"⟩, 33) := ⟨⟨by decide +kernel, by decide +kernel⟩, List.mem_of_getElem? (i := 1207) (by decide +kernel), List.mem_of_getElem? (i := 1543) (by decide +kernel), List.mem_of_getElem? (i := 1544) (by decide +kernel)⟩
theorem lw_p65 : lw_okq (⟨"CounterMineModel", "laysWay", "(II)Z"⟩, 33) := ⟨⟨by decide +kernel, by decide +kernel⟩, List.mem_of_getElem? (i := 1207) (by decide +kernel), List.mem_of_getElem? (i := 1549) (by decide +kernel), List.mem_of_getElem? (i := 1550) (by decide +kernel)⟩
theorem lw_p66 : lw_okq (⟨"CounterMineModel", "readHeard", "()V"⟩, 33) := ⟨⟨by decide +kernel, by decide +kernel⟩, List.mem_of_getElem? (i := 1207) (by decide +kernel), List.mem_of_getElem? (i := 1565) (by decide +kernel), List.mem_of_getElem? (i := 1566) (by decide +kernel)⟩
theorem lw_p67 : lw_okq (⟨"CounterMineModel", "eatsSemicolon", "()Z"⟩, 33) := ⟨⟨by decide +kernel, by decide +kernel⟩, List.mem_of_getElem? (i := 1207) (by decide +kernel), List.mem_of_getElem? (i := 1573) (by decide +kernel), List.mem_of_getElem? (i := 1574) (by decide +kernel)⟩
theorem lw_p68 : lw_okq (⟨"CounterMineModel", "wayAt", "(II)I"⟩, 33) := ⟨⟨by decide +kernel, by decide +kernel⟩, List.mem_of_getElem? (i := 1207) (by decide +kernel), List.mem_of_getElem? (i := 1577) (by decide +kernel), List.mem_of_getElem? (i := 1578) (by decide +kernel)⟩
theorem lw_p69 : lw_okq (⟨"CounterMineModel", "begins", "(I)V"⟩, 33) := ⟨⟨by decide +kernel, by decide +kernel⟩, List.mem_of_getElem? (i := 1207) (by decide +kernel), List.mem_of_getElem? (i := 1581) (by decide +kernel), List.mem_of_getElem? (i := 1582) (by decide +kernel)⟩
theorem lw_p70 : lw_okq (⟨"CounterMineModel", "isDigging", "(I)Z"⟩, 33) := ⟨⟨by decide +kernel, by decide +kernel⟩, List.mem_of_getElem? (i := 1207) (by decide +kernel), List.mem_of_getElem? (i := 1585) (by decide +kernel), List.mem_of_getElem? (i := 1586) (by decide +kernel)⟩
theorem lw_p71 : lw_okq (⟨"CounterMineModel", "takes", "(I)I"⟩, 33) := ⟨⟨by decide +kernel, by decide +kernel⟩, List.mem_of_getElem? (i := 1207) (by decide +kernel), List.mem_of_getElem? (i := 1589) (by decide +kernel), List.mem_of_getElem? (i := 1590) (by decide +kernel)⟩
theorem lw_p72 : lw_okq (⟨"CounterMineModel", "good", "(I)I"⟩, 33) := ⟨⟨by decide +kernel, by decide +kernel⟩, List.mem_of_getElem? (i := 1207) (by decide +kernel), List.mem_of_getElem? (i := 1593) (by decide +kernel), List.mem_of_getElem? (i := 1594) (by decide +kernel)⟩
theorem lw_p73 : lw_okq (⟨"CounterMineModel", "isIn", "(II)Z"⟩, 33) := ⟨⟨by decide +kernel, by decide +kernel⟩, List.mem_of_getElem? (i := 1207) (by decide +kernel), List.mem_of_getElem? (i := 1609) (by decide +kernel), List.mem_of_getElem? (i := 1610) (by decide +kernel)⟩
theorem lw_p74 : lw_okq (⟨"CounterMineModel", "works", "()V"⟩, 33) := ⟨⟨by decide +kernel, by decide +kernel⟩, List.mem_of_getElem? (i := 1207) (by decide +kernel), List.mem_of_getElem? (i := 1613) (by decide +kernel), List.mem_of_getElem? (i := 1614) (by decide +kernel)⟩
theorem lw_p75 : lw_okq (⟨"CounterMineModel", "galleriesAt", "(I)I"⟩, 33) := ⟨⟨by decide +kernel, by decide +kernel⟩, List.mem_of_getElem? (i := 1207) (by decide +kernel), List.mem_of_getElem? (i := 1620) (by decide +kernel), List.mem_of_getElem? (i := 1621) (by decide +kernel)⟩
theorem lw_p76 : lw_okq (⟨"CounterMineModel", "placeOf", "(I)I"⟩, 33) := ⟨⟨by decide +kernel, by decide +kernel⟩, List.mem_of_getElem? (i := 1207) (by decide +kernel), List.mem_of_getElem? (i := 1624) (by decide +kernel), List.mem_of_getElem? (i := 1625) (by decide +kernel)⟩
theorem lw_p77 : lw_okq (⟨"CounterMineModel", "isDig", "(I)Z"⟩, 33) := ⟨⟨by decide +kernel, by decide +kernel⟩, List.mem_of_getElem? (i := 1207) (by decide +kernel), List.mem_of_getElem? (i := 1632) (by decide +kernel), List.mem_of_getElem? (i := 1633) (by decide +kernel)⟩
theorem lw_p78 : lw_okq (⟨"CounterMineModel", "isDrum", "(I)Z"⟩, 33) := ⟨⟨by decide +kernel, by decide +kernel⟩, List.mem_of_getElem? (i := 1207) (by decide +kernel), List.mem_of_getElem? (i := 1643) (by decide +kernel), List.mem_of_getElem? (i := 1644) (by decide +kernel)⟩
theorem lw_p79 : lw_okq (⟨"CounterMineModel", "dugNow", "()I"⟩, 33) := ⟨⟨by decide +kernel, by decide +kernel⟩, List.mem_of_getElem? (i := 1207) (by decide +kernel), List.mem_of_getElem? (i := 1651) (by decide +kernel), List.mem_of_getElem? (i := 1652) (by decide +kernel)⟩
def lw_privs_5 : List (MethodName × Nat) := [(⟨"CounterMineModel", "readDig", "()V"⟩, 33), (⟨"CounterMineModel", "laysWay", "(II)Z"⟩, 33), (⟨"CounterMineModel", "readHeard", "()V"⟩, 33), (⟨"CounterMineModel", "eatsSemicolon", "()Z"⟩, 33), (⟨"CounterMineModel", "wayAt", "(II)I"⟩, 33), (⟨"CounterMineModel", "begins", "(I)V"⟩, 33), (⟨"CounterMineModel", "isDigging", "(I)Z"⟩, 33), (⟨"CounterMineModel", "takes", "(I)I"⟩, 33), (⟨"CounterMineModel", "good", "(I)I"⟩, 33), (⟨"CounterMineModel", "isIn", "(II)Z"⟩, 33), (⟨"CounterMineModel", "works", "()V"⟩, 33), (⟨"CounterMineModel", "galleriesAt", "(I)I"⟩, 33), (⟨"CounterMineModel", "placeOf", "(I)I"⟩, 33), (⟨"CounterMineModel", "isDig", "(I)Z"⟩, 33), (⟨"CounterMineModel", "isDrum", "(I)Z"⟩, 33), (⟨"CounterMineModel", "dugNow", "()I"⟩, 33)]
theorem lw_r5 : ∀ q ∈ lw_privs_5, lw_okq q := List.forall_mem_cons.mpr ⟨lw_p64, List.forall_mem_cons.mpr ⟨lw_p65, List.forall_mem_cons.mpr ⟨lw_p66, List.forall_mem_cons.mpr ⟨lw_p67, List.forall_mem_cons.mpr ⟨lw_p68, List.forall_mem_cons.mpr ⟨lw_p69, List.forall_mem_cons.mpr ⟨lw_p70, List.forall_mem_cons.mpr ⟨lw_p71, List.forall_mem_cons.mpr ⟨lw_p72, List.forall_mem_cons.mpr ⟨lw_p73, List.forall_mem_cons.mpr ⟨lw_p74, List.forall_mem_cons.mpr ⟨lw_p75, List.forall_mem_cons.mpr ⟨lw_p76, List.forall_mem_cons.mpr ⟨lw_p77, List.forall_mem_cons.mpr ⟨lw_p78, List.forall_mem_cons.mpr ⟨lw_p79, fun _ h => absurd h List.not_mem_nil⟩⟩⟩⟩⟩⟩⟩⟩⟩⟩⟩⟩⟩⟩⟩⟩
theorem lw_p80 : lw_okq (⟨"CounterMineModel", "refusesNights", "(ZI)I"⟩, 33) := ⟨⟨by decide +kernel, by decide +kernel⟩, List.mem_of_getElem? (i := 1207) (by decide +kernel), List.mem_of_getElem? (i := 1666) (by decide +kernel), List.mem_of_getElem? (i := 1667) (by decide +kernel)⟩
theorem lw_p81 : lw_okq (⟨"CounterMineModel", "worksIn", "(I)V"⟩, 33) := ⟨⟨by decide +kernel, by decide +kernel⟩, List.mem_of_getElem? (i := 1207) (by decide +kernel), List.mem_of_getElem? (i := 1670) (by decide +kernel), List.mem_of_getElem? (i := 1671) (by decide +kernel)⟩
theorem lw_p82 : lw_okq (⟨"CounterMineModel", "goesBy", "()I"⟩, 33) := ⟨⟨by decide +kernel, by decide +kernel⟩, List.mem_of_getElem? (i := 1207) (by decide +kernel), List.mem_of_getElem? (i := 1674) (by decide +kernel), List.mem_of_getElem? (i := 1675) (by decide +kernel)⟩
theorem lw_p83 : lw_okq (⟨"CounterMineModel", "breakIn", "(II)Z"⟩, 33) := ⟨⟨by decide +kernel, by decide +kernel⟩, List.mem_of_getElem? (i := 1207) (by decide +kernel), List.mem_of_getElem? (i := 1693) (by decide +kernel), List.mem_of_getElem? (i := 1694) (by decide +kernel)⟩
theorem lw_p84 : lw_okq (⟨"CounterMineModel", "breaking", "()I"⟩, 33) := ⟨⟨by decide +kernel, by decide +kernel⟩, List.mem_of_getElem? (i := 1207) (by decide +kernel), List.mem_of_getElem? (i := 1701) (by decide +kernel), List.mem_of_getElem? (i := 1702) (by decide +kernel)⟩
theorem lw_p85 : lw_okq (⟨"CounterMineModel", "pair", "()I"⟩, 33) := ⟨⟨by decide +kernel, by decide +kernel⟩, List.mem_of_getElem? (i := 1207) (by decide +kernel), List.mem_of_getElem? (i := 1705) (by decide +kernel), List.mem_of_getElem? (i := 1706) (by decide +kernel)⟩
theorem lw_p86 : lw_okq (⟨"CounterMineModel", "isHeard", "(II)Z"⟩, 33) := ⟨⟨by decide +kernel, by decide +kernel⟩, List.mem_of_getElem? (i := 1207) (by decide +kernel), List.mem_of_getElem? (i := 1717) (by decide +kernel), List.mem_of_getElem? (i := 1718) (by decide +kernel)⟩
theorem lw_p87 : lw_okq (⟨"CounterMineModel", "lowers", "(IZ)V"⟩, 33) := ⟨⟨by decide +kernel, by decide +kernel⟩, List.mem_of_getElem? (i := 1207) (by decide +kernel), List.mem_of_getElem? (i := 1729) (by decide +kernel), List.mem_of_getElem? (i := 1730) (by decide +kernel)⟩
theorem lw_p88 : lw_okq (⟨"CounterMineModel", "isQuiet", "(I)Z"⟩, 33) := ⟨⟨by decide +kernel, by decide +kernel⟩, List.mem_of_getElem? (i := 1207) (by decide +kernel), List.mem_of_getElem? (i := 1733) (by decide +kernel), List.mem_of_getElem? (i := 1734) (by decide +kernel)⟩
theorem lw_p89 : lw_okq (⟨"CounterMineModel", "byOf", "(I)I"⟩, 33) := ⟨⟨by decide +kernel, by decide +kernel⟩, List.mem_of_getElem? (i := 1207) (by decide +kernel), List.mem_of_getElem? (i := 1737) (by decide +kernel), List.mem_of_getElem? (i := 1738) (by decide +kernel)⟩
theorem lw_p90 : lw_okq (⟨"CounterMineModel", "last", "()I"⟩, 33) := ⟨⟨by decide +kernel, by decide +kernel⟩, List.mem_of_getElem? (i := 1207) (by decide +kernel), List.mem_of_getElem? (i := 1757) (by decide +kernel), List.mem_of_getElem? (i := 1758) (by decide +kernel)⟩
theorem lw_p91 : lw_okq (⟨"CounterMineModel", "isSoil", "(I)Z"⟩, 33) := ⟨⟨by decide +kernel, by decide +kernel⟩, List.mem_of_getElem? (i := 1207) (by decide +kernel), List.mem_of_getElem? (i := 1761) (by decide +kernel), List.mem_of_getElem? (i := 1762) (by decide +kernel)⟩
theorem lw_p92 : lw_okq (⟨"CounterMineModel", "finds", "(II)Z"⟩, 33) := ⟨⟨by decide +kernel, by decide +kernel⟩, List.mem_of_getElem? (i := 1207) (by decide +kernel), List.mem_of_getElem? (i := 1769) (by decide +kernel), List.mem_of_getElem? (i := 1770) (by decide +kernel)⟩
theorem lw_p93 : lw_okq (⟨"CounterMineModel", "reaches", "(II)V"⟩, 33) := ⟨⟨by decide +kernel, by decide +kernel⟩, List.mem_of_getElem? (i := 1207) (by decide +kernel), List.mem_of_getElem? (i := 1773) (by decide +kernel), List.mem_of_getElem? (i := 1774) (by decide +kernel)⟩
theorem lw_p94 : lw_okq (⟨"CounterMineModel", "lays", "(II)V"⟩, 33) := ⟨⟨by decide +kernel, by decide +kernel⟩, List.mem_of_getElem? (i := 1207) (by decide +kernel), List.mem_of_getElem? (i := 1780) (by decide +kernel), List.mem_of_getElem? (i := 1781) (by decide +kernel)⟩
theorem lw_p95 : lw_okq (⟨"CounterMineModel", "wayTo", "(II)I"⟩, 33) := ⟨⟨by decide +kernel, by decide +kernel⟩, List.mem_of_getElem? (i := 1207) (by decide +kernel), List.mem_of_getElem? (i := 1784) (by decide +kernel), List.mem_of_getElem? (i := 1785) (by decide +kernel)⟩
def lw_privs_6 : List (MethodName × Nat) := [(⟨"CounterMineModel", "refusesNights", "(ZI)I"⟩, 33), (⟨"CounterMineModel", "worksIn", "(I)V"⟩, 33), (⟨"CounterMineModel", "goesBy", "()I"⟩, 33), (⟨"CounterMineModel", "breakIn", "(II)Z"⟩, 33), (⟨"CounterMineModel", "breaking", "()I"⟩, 33), (⟨"CounterMineModel", "pair", "()I"⟩, 33), (⟨"CounterMineModel", "isHeard", "(II)Z"⟩, 33), (⟨"CounterMineModel", "lowers", "(IZ)V"⟩, 33), (⟨"CounterMineModel", "isQuiet", "(I)Z"⟩, 33), (⟨"CounterMineModel", "byOf", "(I)I"⟩, 33), (⟨"CounterMineModel", "last", "()I"⟩, 33), (⟨"CounterMineModel", "isSoil", "(I)Z"⟩, 33), (⟨"CounterMineModel", "finds", "(II)Z"⟩, 33), (⟨"CounterMineModel", "reaches", "(II)V"⟩, 33), (⟨"CounterMineModel", "lays", "(II)V"⟩, 33), (⟨"CounterMineModel", "wayTo", "(II)I"⟩, 33)]
theorem lw_r6 : ∀ q ∈ lw_privs_6, lw_okq q := List.forall_mem_cons.mpr ⟨lw_p80, List.forall_mem_cons.mpr ⟨lw_p81, List.forall_mem_cons.mpr ⟨lw_p82, List.forall_mem_cons.mpr ⟨lw_p83, List.forall_mem_cons.mpr ⟨lw_p84, List.forall_mem_cons.mpr ⟨lw_p85, List.forall_mem_cons.mpr ⟨lw_p86, List.forall_mem_cons.mpr ⟨lw_p87, List.forall_mem_cons.mpr ⟨lw_p88, List.forall_mem_cons.mpr ⟨lw_p89, List.forall_mem_cons.mpr ⟨lw_p90, List.forall_mem_cons.mpr ⟨lw_p91, List.forall_mem_cons.mpr ⟨lw_p92, List.forall_mem_cons.mpr ⟨lw_p93, List.forall_mem_cons.mpr ⟨lw_p94, List.forall_mem_cons.mpr ⟨lw_p95, fun _ h => absurd h List.not_mem_nil⟩⟩⟩⟩⟩⟩⟩⟩⟩⟩⟩⟩⟩⟩⟩⟩
theorem lw_p96 : lw_okq (⟨"CounterMineModel", "refusesCharge", "(III)I"⟩, 33) := ⟨⟨by decide +kernel, by decide +kernel⟩, List.mem_of_getElem? (i := 1207) (by decide +kernel), List.mem_of_getElem? (i := 1792) (by decide +kernel), List.mem_of_getElem? (i := 1793) (by decide +kernel)⟩
theorem lw_p97 : lw_okq (⟨"CounterMineModel", "shutBy", "(II)I"⟩, 33) := ⟨⟨by decide +kernel, by decide +kernel⟩, List.mem_of_getElem? (i := 1207) (by decide +kernel), List.mem_of_getElem? (i := 1796) (by decide +kernel), List.mem_of_getElem? (i := 1797) (by decide +kernel)⟩
theorem lw_p98 : lw_okq (⟨"CounterMineModel", "fitting", "()V"⟩, 33) := ⟨⟨by decide +kernel, by decide +kernel⟩, List.mem_of_getElem? (i := 1207) (by decide +kernel), List.mem_of_getElem? (i := 1808) (by decide +kernel), List.mem_of_getElem? (i := 1809) (by decide +kernel)⟩
theorem lw_p99 : lw_okq (⟨"CounterMineModel", "isFit", "(I)Z"⟩, 33) := ⟨⟨by decide +kernel, by decide +kernel⟩, List.mem_of_getElem? (i := 1207) (by decide +kernel), List.mem_of_getElem? (i := 1812) (by decide +kernel), List.mem_of_getElem? (i := 1813) (by decide +kernel)⟩
theorem lw_p100 : lw_okq (⟨"CounterMineModel", "pickAt", "(II)I"⟩, 33) := ⟨⟨by decide +kernel, by decide +kernel⟩, List.mem_of_getElem? (i := 1207) (by decide +kernel), List.mem_of_getElem? (i := 1816) (by decide +kernel), List.mem_of_getElem? (i := 1817) (by decide +kernel)⟩
theorem lw_p101 : lw_okq (⟨"CounterMineModel", "fitBy", "(I)I"⟩, 33) := ⟨⟨by decide +kernel, by decide +kernel⟩, List.mem_of_getElem? (i := 1207) (by decide +kernel), List.mem_of_getElem? (i := 1824) (by decide +kernel), List.mem_of_getElem? (i := 1825) (by decide +kernel)⟩
theorem lw_p102 : lw_okq (⟨"CounterMineModel", "countsAt", "(I)V"⟩, 33) := ⟨⟨by decide +kernel, by decide +kernel⟩, List.mem_of_getElem? (i := 1207) (by decide +kernel), List.mem_of_getElem? (i := 1836) (by decide +kernel), List.mem_of_getElem? (i := 1837) (by decide +kernel)⟩
theorem lw_p103 : lw_okq (⟨"CounterMineModel", "more", "(I)I"⟩, 33) := ⟨⟨by decide +kernel, by decide +kernel⟩, List.mem_of_getElem? (i := 1207) (by decide +kernel), List.mem_of_getElem? (i := 1848) (by decide +kernel), List.mem_of_getElem? (i := 1849) (by decide +kernel)⟩
theorem lw_p104 : lw_okq (⟨"CounterMineModel", "refusesPowder", "(I)I"⟩, 33) := ⟨⟨by decide +kernel, by decide +kernel⟩, List.mem_of_getElem? (i := 1207) (by decide +kernel), List.mem_of_getElem? (i := 1864) (by decide +kernel), List.mem_of_getElem? (i := 1865) (by decide +kernel)⟩
theorem lw_p105 : lw_okq (⟨"CounterMineModel", "lost", "(I)I"⟩, 33) := ⟨⟨by decide +kernel, by decide +kernel⟩, List.mem_of_getElem? (i := 1207) (by decide +kernel), List.mem_of_getElem? (i := 1868) (by decide +kernel), List.mem_of_getElem? (i := 1869) (by decide +kernel)⟩
theorem lw_p106 : lw_okq (⟨"CounterMineModel", "fraction", "(JJZ)J"⟩, 33) := ⟨⟨by decide +kernel, by decide +kernel⟩, List.mem_of_getElem? (i := 1207) (by decide +kernel), List.mem_of_getElem? (i := 1894) (by decide +kernel), List.mem_of_getElem? (i := 1895) (by decide +kernel)⟩
theorem lw_p107 : lw_okq (⟨"CounterMineModel", "remembers", "()V"⟩, 33) := ⟨⟨by decide +kernel, by decide +kernel⟩, List.mem_of_getElem? (i := 1207) (by decide +kernel), List.mem_of_getElem? (i := 1917) (by decide +kernel), List.mem_of_getElem? (i := 1918) (by decide +kernel)⟩
theorem lw_p108 : lw_okq (⟨"CounterMineModel", "remains", "()V"⟩, 33) := ⟨⟨by decide +kernel, by decide +kernel⟩, List.mem_of_getElem? (i := 1207) (by decide +kernel), List.mem_of_getElem? (i := 1921) (by decide +kernel), List.mem_of_getElem? (i := 1922) (by decide +kernel)⟩
theorem lw_p109 : lw_okq (⟨"CounterMineModel", "denied", "(I)Z"⟩, 33) := ⟨⟨by decide +kernel, by decide +kernel⟩, List.mem_of_getElem? (i := 1207) (by decide +kernel), List.mem_of_getElem? (i := 1937) (by decide +kernel), List.mem_of_getElem? (i := 1938) (by decide +kernel)⟩
theorem lw_p110 : lw_okq (⟨"CounterMineModel", "granted", "()Z"⟩, 33) := ⟨⟨by decide +kernel, by decide +kernel⟩, List.mem_of_getElem? (i := 1207) (by decide +kernel), List.mem_of_getElem? (i := 1941) (by decide +kernel), List.mem_of_getElem? (i := 1942) (by decide +kernel)⟩
def lw_privs_7 : List (MethodName × Nat) := [(⟨"CounterMineModel", "refusesCharge", "(III)I"⟩, 33), (⟨"CounterMineModel", "shutBy", "(II)I"⟩, 33), (⟨"CounterMineModel", "fitting", "()V"⟩, 33), (⟨"CounterMineModel", "isFit", "(I)Z"⟩, 33), (⟨"CounterMineModel", "pickAt", "(II)I"⟩, 33), (⟨"CounterMineModel", "fitBy", "(I)I"⟩, 33), (⟨"CounterMineModel", "countsAt", "(I)V"⟩, 33), (⟨"CounterMineModel", "more", "(I)I"⟩, 33), (⟨"CounterMineModel", "refusesPowder", "(I)I"⟩, 33), (⟨"CounterMineModel", "lost", "(I)I"⟩, 33), (⟨"CounterMineModel", "fraction", "(JJZ)J"⟩, 33), (⟨"CounterMineModel", "remembers", "()V"⟩, 33), (⟨"CounterMineModel", "remains", "()V"⟩, 33), (⟨"CounterMineModel", "denied", "(I)Z"⟩, 33), (⟨"CounterMineModel", "granted", "()Z"⟩, 33)]
theorem lw_r7 : ∀ q ∈ lw_privs_7, lw_okq q := List.forall_mem_cons.mpr ⟨lw_p96, List.forall_mem_cons.mpr ⟨lw_p97, List.forall_mem_cons.mpr ⟨lw_p98, List.forall_mem_cons.mpr ⟨lw_p99, List.forall_mem_cons.mpr ⟨lw_p100, List.forall_mem_cons.mpr ⟨lw_p101, List.forall_mem_cons.mpr ⟨lw_p102, List.forall_mem_cons.mpr ⟨lw_p103, List.forall_mem_cons.mpr ⟨lw_p104, List.forall_mem_cons.mpr ⟨lw_p105, List.forall_mem_cons.mpr ⟨lw_p106, List.forall_mem_cons.mpr ⟨lw_p107, List.forall_mem_cons.mpr ⟨lw_p108, List.forall_mem_cons.mpr ⟨lw_p109, List.forall_mem_cons.mpr ⟨lw_p110, fun _ h => absurd h List.not_mem_nil⟩⟩⟩⟩⟩⟩⟩⟩⟩⟩⟩⟩⟩⟩⟩
def lw_privs : List (MethodName × Nat) := lw_privs_1 ++ (lw_privs_2 ++ (lw_privs_3 ++ (lw_privs_4 ++ (lw_privs_5 ++ (lw_privs_6 ++ (lw_privs_7))))))
def lw_tbl : List Cond := k2_sels lw_privs ++ tables_1
theorem lw_privs_ok : ∀ q ∈ lw_privs, lw_okq q := by
  show ∀ q ∈ lw_privs_1 ++ (lw_privs_2 ++ (lw_privs_3 ++ (lw_privs_4 ++ (lw_privs_5 ++ (lw_privs_6 ++ (lw_privs_7)))))), lw_okq q
  exact List.forall_mem_append.mpr ⟨lw_r1, List.forall_mem_append.mpr ⟨lw_r2, List.forall_mem_append.mpr ⟨lw_r3, List.forall_mem_append.mpr ⟨lw_r4, List.forall_mem_append.mpr ⟨lw_r5, List.forall_mem_append.mpr ⟨lw_r6, lw_r7⟩⟩⟩⟩⟩⟩
end
section
def RX0 : String := "CounterMine$Board"
abbrev cX0_at : ByteArray := prog_2_method_2_code
def yX0_at : MethodName := ⟨RX0, "at", "(II)I"⟩
abbrev cX0_xOf : ByteArray := prog_2_method_3_code
def yX0_xOf : MethodName := ⟨RX0, "xOf", "(I)I"⟩
abbrev cX0_yOf : ByteArray := prog_2_method_4_code
def yX0_yOf : MethodName := ⟨RX0, "yOf", "(I)I"⟩
abbrev cX0_whole : ByteArray := prog_2_method_5_code
def yX0_whole : MethodName := ⟨RX0, "whole", "(I)I"⟩
abbrev cX0_apart : ByteArray := prog_2_method_6_code
def yX0_apart : MethodName := ⟨RX0, "apart", "(II)I"⟩
abbrev cX0_has : ByteArray := prog_2_method_7_code
def yX0_has : MethodName := ⟨RX0, "has", "(JI)Z"⟩
abbrev cX0_isCell : ByteArray := prog_2_method_8_code
def yX0_isCell : MethodName := ⟨RX0, "isCell", "(I)Z"⟩
abbrev cX0_beside : ByteArray := prog_2_method_9_code
def yX0_beside : MethodName := ⟨RX0, "beside", "(II)I"⟩
def RX1 : String := "CounterMine$Cut"
def TX1 : u_T := fun k => match k with
  | 0 => ("CounterMine$Cut", "behind", "[I", true)
  | 1 => ("CounterMine$Cut", "queue", "[I", true)
  | 2 => ("CounterMine$Cut", "queued", "I", false)
  | 3 => ("CounterMine$Cut", "flow", "[J", true)
  | _ => ("CounterMine$Cut", "through", "J", false)
def tyX1 : Nat → FieldType := fun k => match k with
  | 0 => .array .int
  | 1 => .array .int
  | 2 => .int
  | 3 => .array .long
  | _ => .long
theorem nmX1 : ∀ a, a < 5 → ∀ b, b < 5 → a ≠ b → (TX1 a).2.1 ≠ (TX1 b).2.1 := by decide +kernel
theorem tyX1_ok : ∀ k, k < 5 → parseFieldDescriptor (TX1 k).2.2.1 = some (tyX1 k) := by decide +kernel
abbrev cX1_init : ByteArray := prog_3_method_1_code
def yX1_init : MethodName := ⟨RX1, "<init>", "()V"⟩
abbrev cX1_fewest : ByteArray := prog_3_method_2_code
def yX1_fewest : MethodName := ⟨RX1, "fewest", "(LCounterMine$Plan;II)I"⟩
abbrev cX1_findWay : ByteArray := prog_3_method_3_code
def yX1_findWay : MethodName := ⟨RX1, "findWay", "(LCounterMine$Plan;II)Z"⟩
abbrev cX1_reach : ByteArray := prog_3_method_4_code
def yX1_reach : MethodName := ⟨RX1, "reach", "(II)V"⟩
abbrev cX1_takeWay : ByteArray := prog_3_method_5_code
def yX1_takeWay : MethodName := ⟨RX1, "takeWay", "(II)V"⟩
abbrev cX1_turn : ByteArray := prog_3_method_6_code
def yX1_turn : MethodName := ⟨RX1, "turn", "(II)V"⟩
abbrev cX1_flows : ByteArray := prog_3_method_7_code
def yX1_flows : MethodName := ⟨RX1, "flows", "(II)Z"⟩
abbrev cX1_opposite : ByteArray := prog_3_method_8_code
def yX1_opposite : MethodName := ⟨RX1, "opposite", "(I)I"⟩
def RX2 : String := "CounterMine$Past"
def TX2 : u_T := fun k => match k with
  | 0 => ("CounterMine$Past", "kept", "[LCounterMine$Works;", true)
  | 1 => ("CounterMine$Past", "image", "[LCounterMine$Works;", true)
  | 2 => ("CounterMine$Past", "next", "I", false)
  | 3 => ("CounterMine$Past", "count", "I", false)
  | _ => ("CounterMine$Past", "images", "I", false)
def tyX2 : Nat → FieldType := fun k => match k with
  | 0 => .array (.object "CounterMine$Works")
  | 1 => .array (.object "CounterMine$Works")
  | 2 => .int
  | 3 => .int
  | _ => .int
theorem nmX2 : ∀ a, a < 5 → ∀ b, b < 5 → a ≠ b → (TX2 a).2.1 ≠ (TX2 b).2.1 := by decide +kernel
theorem tyX2_ok : ∀ k, k < 5 → parseFieldDescriptor (TX2 k).2.2.1 = some (tyX2 k) := by decide +kernel
abbrev cX2_init : ByteArray := prog_4_method_1_code
def yX2_init : MethodName := ⟨RX2, "<init>", "()V"⟩
abbrev cX2_clear : ByteArray := prog_4_method_2_code
def yX2_clear : MethodName := ⟨RX2, "clear", "()V"⟩
abbrev cX2_keep : ByteArray := prog_4_method_3_code
def yX2_keep : MethodName := ⟨RX2, "keep", "(LCounterMine$Works;)V"⟩
abbrev cX2_takeBack : ByteArray := prog_4_method_4_code
def yX2_takeBack : MethodName := ⟨RX2, "takeBack", "(LCounterMine$Works;)Z"⟩
abbrev cX2_keepImage : ByteArray := prog_4_method_5_code
def yX2_keepImage : MethodName := ⟨RX2, "keepImage", "(LCounterMine$Works;)I"⟩
abbrev cX2_goTo : ByteArray := prog_4_method_6_code
def yX2_goTo : MethodName := ⟨RX2, "goTo", "(ILCounterMine$Works;)Z"⟩
def RX3 : String := "CounterMine$Plan"
def TX3 : u_T := fun k => match k with
  | 0 => ("CounterMine$Plan", "reach", "I", false)
  | 1 => ("CounterMine$Plan", "error", "I", false)
  | 2 => ("CounterMine$Plan", "pace", "I", false)
  | 3 => ("CounterMine$Plan", "falls", "I", false)
  | 4 => ("CounterMine$Plan", "width", "I", false)
  | 5 => ("CounterMine$Plan", "height", "I", false)
  | 6 => ("CounterMine$Plan", "wall", "I", false)
  | 7 => ("CounterMine$Plan", "drums", "I", false)
  | 8 => ("CounterMine$Plan", "galleries", "I", false)
  | 9 => ("CounterMine$Plan", "reports", "I", false)
  | 10 => ("CounterMine$Plan", "soilCells", "J", false)
  | 11 => ("CounterMine$Plan", "soil", "[I", true)
  | 12 => ("CounterMine$Plan", "drumAt", "[I", true)
  | 13 => ("CounterMine$Plan", "side", "[I", true)
  | 14 => ("CounterMine$Plan", "length", "[I", true)
  | 15 => ("CounterMine$Plan", "path", "[I", true)
  | 16 => ("CounterMine$Plan", "reportDrum", "[I", true)
  | 17 => ("CounterMine$Plan", "reportNight", "[I", true)
  | _ => ("CounterMine$Plan", "reportFar", "[I", true)
def tyX3 : Nat → FieldType := fun k => match k with
  | 0 => .int
  | 1 => .int
  | 2 => .int
  | 3 => .int
  | 4 => .int
  | 5 => .int
  | 6 => .int
  | 7 => .int
  | 8 => .int
  | 9 => .int
  | 10 => .long
  | 11 => .array .int
  | 12 => .array .int
  | 13 => .array .int
  | 14 => .array .int
  | 15 => .array .int
  | 16 => .array .int
  | 17 => .array .int
  | _ => .array .int
theorem nmX3 : ∀ a, a < 19 → ∀ b, b < 19 → a ≠ b → (TX3 a).2.1 ≠ (TX3 b).2.1 := by decide +kernel
theorem tyX3_ok : ∀ k, k < 19 → parseFieldDescriptor (TX3 k).2.2.1 = some (tyX3 k) := by decide +kernel
abbrev cX3_init : ByteArray := prog_5_method_1_code
def yX3_init : MethodName := ⟨RX3, "<init>", "()V"⟩
abbrev cX3_clear : ByteArray := prog_5_method_2_code
def yX3_clear : MethodName := ⟨RX3, "clear", "()V"⟩
abbrev cX3_holds : ByteArray := prog_5_method_3_code
def yX3_holds : MethodName := ⟨RX3, "holds", "(II)Z"⟩
abbrev cX3_soilAt : ByteArray := prog_5_method_4_code
def yX3_soilAt : MethodName := ⟨RX3, "soilAt", "(I)I"⟩
abbrev cX3_isSoil : ByteArray := prog_5_method_5_code
def yX3_isSoil : MethodName := ⟨RX3, "isSoil", "(I)Z"⟩
abbrev cX3_setSoil : ByteArray := prog_5_method_6_code
def yX3_setSoil : MethodName := ⟨RX3, "setSoil", "(II)V"⟩
abbrev cX3_addDrum : ByteArray := prog_5_method_7_code
def yX3_addDrum : MethodName := ⟨RX3, "addDrum", "(I)V"⟩
abbrev cX3_addReport : ByteArray := prog_5_method_8_code
def yX3_addReport : MethodName := ⟨RX3, "addReport", "(III)V"⟩
abbrev cX3_isReported : ByteArray := prog_5_method_9_code
def yX3_isReported : MethodName := ⟨RX3, "isReported", "(II)Z"⟩
abbrev cX3_onPath : ByteArray := prog_5_method_10_code
def yX3_onPath : MethodName := ⟨RX3, "onPath", "(II)I"⟩
abbrev cX3_setPath : ByteArray := prog_5_method_11_code
def yX3_setPath : MethodName := ⟨RX3, "setPath", "(III)V"⟩
abbrev cX3_minersAhead : ByteArray := prog_5_method_12_code
def yX3_minersAhead : MethodName := ⟨RX3, "minersAhead", "(I)I"⟩
def RX4 : String := "CounterMine$Reader"
def TX4 : u_T := fun k => match k with
  | 0 => ("CounterMine$Reader", "tape", "LCounterMine$Tape;", true)
  | 1 => ("CounterMine$Reader", "fault", "I", false)
  | 2 => ("CounterMine$Reader", "place", "I", false)
  | 3 => ("CounterMine$Reader", "plan", "LCounterMine$Plan;", false)
  | 4 => ("CounterMine$Reader", "fieldTold", "Z", false)
  | 5 => ("CounterMine$Reader", "wallTold", "Z", false)
  | 6 => ("CounterMine$Reader", "rowsOver", "Z", false)
  | 7 => ("CounterMine$Reader", "drumName", "[J", true)
  | _ => ("CounterMine$Reader", "galleryName", "[J", true)
def tyX4 : Nat → FieldType := fun k => match k with
  | 0 => .object "CounterMine$Tape"
  | 1 => .int
  | 2 => .int
  | 3 => .object "CounterMine$Plan"
  | 4 => .boolean
  | 5 => .boolean
  | 6 => .boolean
  | 7 => .array .long
  | _ => .array .long
theorem nmX4 : ∀ a, a < 9 → ∀ b, b < 9 → a ≠ b → (TX4 a).2.1 ≠ (TX4 b).2.1 := by decide +kernel
theorem tyX4_ok : ∀ k, k < 9 → parseFieldDescriptor (TX4 k).2.2.1 = some (tyX4 k) := by decide +kernel
abbrev cX4_init : ByteArray := prog_6_method_1_code
def yX4_init : MethodName := ⟨RX4, "<init>", "()V"⟩
abbrev cX4_start : ByteArray := prog_6_method_2_code
def yX4_start : MethodName := ⟨RX4, "start", "(ILCounterMine$Plan;)V"⟩
abbrev cX4_readLine : ByteArray := prog_6_method_3_code
def yX4_readLine : MethodName := ⟨RX4, "readLine", "()Z"⟩
abbrev cX4_goesOn : ByteArray := prog_6_method_4_code
def yX4_goesOn : MethodName := ⟨RX4, "goesOn", "()Z"⟩
abbrev cX4_readField : ByteArray := prog_6_method_5_code
def yX4_readField : MethodName := ⟨RX4, "readField", "()V"⟩
abbrev cX4_readRow : ByteArray := prog_6_method_6_code
def yX4_readRow : MethodName := ⟨RX4, "readRow", "()V"⟩
abbrev cX4_takeRow : ByteArray := prog_6_method_7_code
def yX4_takeRow : MethodName := ⟨RX4, "takeRow", "()Z"⟩
abbrev cX4_readWall : ByteArray := prog_6_method_8_code
def yX4_readWall : MethodName := ⟨RX4, "readWall", "()V"⟩
abbrev cX4_readDrum : ByteArray := prog_6_method_9_code
def yX4_readDrum : MethodName := ⟨RX4, "readDrum", "()V"⟩
abbrev cX4_readGallery : ByteArray := prog_6_method_10_code
def yX4_readGallery : MethodName := ⟨RX4, "readGallery", "()V"⟩
abbrev cX4_takeWay : ByteArray := prog_6_method_11_code
def yX4_takeWay : MethodName := ⟨RX4, "takeWay", "(II)Z"⟩
abbrev cX4_readReport : ByteArray := prog_6_method_12_code
def yX4_readReport : MethodName := ⟨RX4, "readReport", "()V"⟩
abbrev cX4_startBehindRows : ByteArray := prog_6_method_13_code
def yX4_startBehindRows : MethodName := ⟨RX4, "startBehindRows", "()V"⟩
abbrev cX4_nextWord : ByteArray := prog_6_method_14_code
def yX4_nextWord : MethodName := ⟨RX4, "nextWord", "()V"⟩
abbrev cX4_readNamed : ByteArray := prog_6_method_15_code
def yX4_readNamed : MethodName := ⟨RX4, "readNamed", "(Ljava/lang/String;II)I"⟩
abbrev cX4_readWhole : ByteArray := prog_6_method_16_code
def yX4_readWhole : MethodName := ⟨RX4, "readWhole", "(II)I"⟩
abbrev cX4_readCell : ByteArray := prog_6_method_17_code
def yX4_readCell : MethodName := ⟨RX4, "readCell", "()I"⟩
abbrev cX4_readSide : ByteArray := prog_6_method_18_code
def yX4_readSide : MethodName := ⟨RX4, "readSide", "()I"⟩
abbrev cX4_readNewName : ByteArray := prog_6_method_19_code
def yX4_readNewName : MethodName := ⟨RX4, "readNewName", "()J"⟩
abbrev cX4_readDrumName : ByteArray := prog_6_method_20_code
def yX4_readDrumName : MethodName := ⟨RX4, "readDrumName", "()I"⟩
abbrev cX4_isName : ByteArray := prog_6_method_21_code
def yX4_isName : MethodName := ⟨RX4, "isName", "()Z"⟩
abbrev cX4_find : ByteArray := prog_6_method_22_code
def yX4_find : MethodName := ⟨RX4, "find", "([JIJ)I"⟩
abbrev cX4_soilOf : ByteArray := prog_6_method_23_code
def yX4_soilOf : MethodName := ⟨RX4, "soilOf", "(I)I"⟩
abbrev cX4_wayOf : ByteArray := prog_6_method_24_code
def yX4_wayOf : MethodName := ⟨RX4, "wayOf", "(I)I"⟩
abbrev cX4_fail : ByteArray := prog_6_method_25_code
def yX4_fail : MethodName := ⟨RX4, "fail", "(I)V"⟩
abbrev cX4_failAt : ByteArray := prog_6_method_26_code
def yX4_failAt : MethodName := ⟨RX4, "failAt", "(II)V"⟩
def RX5 : String := "CounterMine$Secret"
def TX5 : u_T := fun k => match k with
  | 0 => ("CounterMine$Secret", "cell", "[I", true)
  | 1 => ("CounterMine$Secret", "way", "[I", true)
  | 2 => ("CounterMine$Secret", "count", "I", false)
  | 3 => ("CounterMine$Secret", "tallied", "[I", true)
  | _ => ("CounterMine$Secret", "byFar", "[I", true)
def tyX5 : Nat → FieldType := fun k => match k with
  | 0 => .array .int
  | 1 => .array .int
  | 2 => .int
  | 3 => .array .int
  | _ => .array .int
theorem nmX5 : ∀ a, a < 5 → ∀ b, b < 5 → a ≠ b → (TX5 a).2.1 ≠ (TX5 b).2.1 := by decide +kernel
theorem tyX5_ok : ∀ k, k < 5 → parseFieldDescriptor (TX5 k).2.2.1 = some (tyX5 k) := by decide +kernel
abbrev cX5_init : ByteArray := prog_7_method_1_code
def yX5_init : MethodName := ⟨RX5, "<init>", "()V"⟩
abbrev cX5_gather : ByteArray := prog_7_method_2_code
def yX5_gather : MethodName := ⟨RX5, "gather", "(LCounterMine$Plan;)V"⟩
abbrev cX5_isAsHeard : ByteArray := prog_7_method_3_code
def yX5_isAsHeard : MethodName := ⟨RX5, "isAsHeard", "(LCounterMine$Plan;II)Z"⟩
abbrev cX5_walk : ByteArray := prog_7_method_4_code
def yX5_walk : MethodName := ⟨RX5, "walk", "(LCounterMine$Plan;III)I"⟩
abbrev cX5_placeOn : ByteArray := prog_7_method_5_code
def yX5_placeOn : MethodName := ⟨RX5, "placeOn", "(LCounterMine$Plan;II)I"⟩
abbrev cX5_tally : ByteArray := prog_7_method_6_code
def yX5_tally : MethodName := ⟨RX5, "tally", "(LCounterMine$Plan;I)V"⟩
abbrev cX5_inCell : ByteArray := prog_7_method_7_code
def yX5_inCell : MethodName := ⟨RX5, "inCell", "(I)I"⟩
abbrev cX5_fullest : ByteArray := prog_7_method_8_code
def yX5_fullest : MethodName := ⟨RX5, "fullest", "()I"⟩
abbrev cX5_bestDrum : ByteArray := prog_7_method_9_code
def yX5_bestDrum : MethodName := ⟨RX5, "bestDrum", "(LCounterMine$Plan;)I"⟩
abbrev cX5_leaves : ByteArray := prog_7_method_10_code
def yX5_leaves : MethodName := ⟨RX5, "leaves", "(I)I"⟩
def RX6 : String := "CounterMine$Share"
def TX6 : u_T := fun k => match k with
  | 0 => ("CounterMine$Share", "upper", "J", false)
  | _ => ("CounterMine$Share", "lower", "J", false)
def tyX6 : Nat → FieldType := fun k => match k with
  | 0 => .long
  | _ => .long
theorem nmX6 : ∀ a, a < 2 → ∀ b, b < 2 → a ≠ b → (TX6 a).2.1 ≠ (TX6 b).2.1 := by decide +kernel
theorem tyX6_ok : ∀ k, k < 2 → parseFieldDescriptor (TX6 k).2.2.1 = some (tyX6 k) := by decide +kernel
abbrev cX6_init : ByteArray := prog_8_method_1_code
def yX6_init : MethodName := ⟨RX6, "<init>", "()V"⟩
abbrev cX6_ofOne : ByteArray := prog_8_method_2_code
def yX6_ofOne : MethodName := ⟨RX6, "ofOne", "(II)V"⟩
abbrev cX6_ofAll : ByteArray := prog_8_method_3_code
def yX6_ofAll : MethodName := ⟨RX6, "ofAll", "(LCounterMine$Plan;LCounterMine$Works;)V"⟩
abbrev cX6_set : ByteArray := prog_8_method_4_code
def yX6_set : MethodName := ⟨RX6, "set", "(JJ)V"⟩
abbrev cX6_power : ByteArray := prog_8_method_5_code
def yX6_power : MethodName := ⟨RX6, "power", "(JI)J"⟩
abbrev cX6_commonDivisor : ByteArray := prog_8_method_6_code
def yX6_commonDivisor : MethodName := ⟨RX6, "commonDivisor", "(JJ)J"⟩
def RX7 : String := "CounterMine$Tape"
def TX7 : u_T := fun k => match k with
  | 0 => ("CounterMine$Tape", "bytes", "[I", true)
  | 1 => ("CounterMine$Tape", "held", "I", false)
  | 2 => ("CounterMine$Tape", "end", "I", false)
  | 3 => ("CounterMine$Tape", "start", "I", false)
  | 4 => ("CounterMine$Tape", "length", "I", false)
  | _ => ("CounterMine$Tape", "kind", "I", false)
def tyX7 : Nat → FieldType := fun k => match k with
  | 0 => .array .int
  | 1 => .int
  | 2 => .int
  | 3 => .int
  | 4 => .int
  | _ => .int
theorem nmX7 : ∀ a, a < 6 → ∀ b, b < 6 → a ≠ b → (TX7 a).2.1 ≠ (TX7 b).2.1 := by decide +kernel
theorem tyX7_ok : ∀ k, k < 6 → parseFieldDescriptor (TX7 k).2.2.1 = some (tyX7 k) := by decide +kernel
abbrev cX7_init : ByteArray := prog_9_method_1_code
def yX7_init : MethodName := ⟨RX7, "<init>", "()V"⟩
abbrev cX7_hasRoom : ByteArray := prog_9_method_2_code
def yX7_hasRoom : MethodName := ⟨RX7, "hasRoom", "()Z"⟩
abbrev cX7_put : ByteArray := prog_9_method_3_code
def yX7_put : MethodName := ⟨RX7, "put", "(I)V"⟩
abbrev cX7_open : ByteArray := prog_9_method_4_code
def yX7_open : MethodName := ⟨RX7, "open", "(I)V"⟩
abbrev cX7_advance : ByteArray := prog_9_method_5_code
def yX7_advance : MethodName := ⟨RX7, "advance", "()V"⟩
abbrev cX7_says : ByteArray := prog_9_method_6_code
def yX7_says : MethodName := ⟨RX7, "says", "(Ljava/lang/String;)Z"⟩
abbrev cX7_sign : ByteArray := prog_9_method_7_code
def yX7_sign : MethodName := ⟨RX7, "sign", "(I)I"⟩
abbrev cX7_value : ByteArray := prog_9_method_8_code
def yX7_value : MethodName := ⟨RX7, "value", "()I"⟩
abbrev cX7_name : ByteArray := prog_9_method_9_code
def yX7_name : MethodName := ⟨RX7, "name", "()J"⟩
abbrev cX7_byteAt : ByteArray := prog_9_method_10_code
def yX7_byteAt : MethodName := ⟨RX7, "byteAt", "(I)I"⟩
abbrev cX7_kindOf : ByteArray := prog_9_method_11_code
def yX7_kindOf : MethodName := ⟨RX7, "kindOf", "(I)I"⟩
def RX8 : String := "CounterMine$Ways"
def TX8 : u_T := fun k => match k with
  | 0 => ("CounterMine$Ways", "least", "[I", true)
  | _ => ("CounterMine$Ways", "settled", "J", false)
def tyX8 : Nat → FieldType := fun k => match k with
  | 0 => .array .int
  | _ => .long
theorem nmX8 : ∀ a, a < 2 → ∀ b, b < 2 → a ≠ b → (TX8 a).2.1 ≠ (TX8 b).2.1 := by decide +kernel
theorem tyX8_ok : ∀ k, k < 2 → parseFieldDescriptor (TX8 k).2.2.1 = some (tyX8 k) := by decide +kernel
abbrev cX8_init : ByteArray := prog_10_method_1_code
def yX8_init : MethodName := ⟨RX8, "<init>", "()V"⟩
abbrev cX8_spread : ByteArray := prog_10_method_2_code
def yX8_spread : MethodName := ⟨RX8, "spread", "(LCounterMine$Plan;LCounterMine$Works;IJ)V"⟩
abbrev cX8_nearest : ByteArray := prog_10_method_3_code
def yX8_nearest : MethodName := ⟨RX8, "nearest", "()I"⟩
abbrev cX8_lower : ByteArray := prog_10_method_4_code
def yX8_lower : MethodName := ⟨RX8, "lower", "(II)V"⟩
abbrev cX8_leastTo : ByteArray := prog_10_method_5_code
def yX8_leastTo : MethodName := ⟨RX8, "leastTo", "(I)I"⟩
abbrev cX8_countWithin : ByteArray := prog_10_method_6_code
def yX8_countWithin : MethodName := ⟨RX8, "countWithin", "(I)I"⟩
def RX9 : String := "CounterMine$Works"
def TX9 : u_T := fun k => match k with
  | 0 => ("CounterMine$Works", "dug", "J", false)
  | 1 => ("CounterMine$Works", "broken", "J", false)
  | 2 => ("CounterMine$Works", "nights", "I", false)
  | 3 => ("CounterMine$Works", "shut", "I", false)
  | 4 => ("CounterMine$Works", "come", "[I", true)
  | 5 => ("CounterMine$Works", "left", "[I", true)
  | _ => ("CounterMine$Works", "drumAt", "[I", true)
def tyX9 : Nat → FieldType := fun k => match k with
  | 0 => .long
  | 1 => .long
  | 2 => .int
  | 3 => .int
  | 4 => .array .int
  | 5 => .array .int
  | _ => .array .int
theorem nmX9 : ∀ a, a < 7 → ∀ b, b < 7 → a ≠ b → (TX9 a).2.1 ≠ (TX9 b).2.1 := by decide +kernel
theorem tyX9_ok : ∀ k, k < 7 → parseFieldDescriptor (TX9 k).2.2.1 = some (tyX9 k) := by decide +kernel
abbrev cX9_init : ByteArray := prog_11_method_1_code
def yX9_init : MethodName := ⟨RX9, "<init>", "()V"⟩
abbrev cX9_begin : ByteArray := prog_11_method_2_code
def yX9_begin : MethodName := ⟨RX9, "begin", "(LCounterMine$Plan;)V"⟩
abbrev cX9_copy : ByteArray := prog_11_method_3_code
def yX9_copy : MethodName := ⟨RX9, "copy", "(LCounterMine$Works;)V"⟩
abbrev cX9_passNight : ByteArray := prog_11_method_4_code
def yX9_passNight : MethodName := ⟨RX9, "passNight", "(LCounterMine$Plan;)I"⟩
abbrev cX9_startNext : ByteArray := prog_11_method_5_code
def yX9_startNext : MethodName := ⟨RX9, "startNext", "(LCounterMine$Plan;I)V"⟩
abbrev cX9_explode : ByteArray := prog_11_method_6_code
def yX9_explode : MethodName := ⟨RX9, "explode", "(LCounterMine$Plan;II)I"⟩
abbrev cX9_toDig : ByteArray := prog_11_method_7_code
def yX9_toDig : MethodName := ⟨RX9, "toDig", "(LCounterMine$Plan;I)I"⟩
abbrev cX9_placeOf : ByteArray := prog_11_method_8_code
def yX9_placeOf : MethodName := ⟨RX9, "placeOf", "(LCounterMine$Plan;I)I"⟩
abbrev cX9_comeOf : ByteArray := prog_11_method_9_code
def yX9_comeOf : MethodName := ⟨RX9, "comeOf", "(I)I"⟩
abbrev cX9_isDigging : ByteArray := prog_11_method_10_code
def yX9_isDigging : MethodName := ⟨RX9, "isDigging", "(I)Z"⟩
abbrev cX9_galleriesNear : ByteArray := prog_11_method_11_code
def yX9_galleriesNear : MethodName := ⟨RX9, "galleriesNear", "(LCounterMine$Plan;II)I"⟩
abbrev cX9_openNear : ByteArray := prog_11_method_12_code
def yX9_openNear : MethodName := ⟨RX9, "openNear", "(LCounterMine$Plan;II)I"⟩
abbrev cX9_touch : ByteArray := prog_11_method_13_code
def yX9_touch : MethodName := ⟨RX9, "touch", "(LCounterMine$Plan;II)Z"⟩
abbrev cX9_firstPair : ByteArray := prog_11_method_14_code
def yX9_firstPair : MethodName := ⟨RX9, "firstPair", "(LCounterMine$Plan;)I"⟩
abbrev cX9_nearestPick : ByteArray := prog_11_method_15_code
def yX9_nearestPick : MethodName := ⟨RX9, "nearestPick", "(LCounterMine$Plan;I)I"⟩
abbrev cX9_isHeard : ByteArray := prog_11_method_16_code
def yX9_isHeard : MethodName := ⟨RX9, "isHeard", "(LCounterMine$Plan;I)Z"⟩
abbrev cX9_isOverheard : ByteArray := prog_11_method_17_code
def yX9_isOverheard : MethodName := ⟨RX9, "isOverheard", "(LCounterMine$Plan;I)Z"⟩
abbrev cX9_unheard : ByteArray := prog_11_method_18_code
def yX9_unheard : MethodName := ⟨RX9, "unheard", "(LCounterMine$Plan;)J"⟩
def RX10 : String := "CounterMine"
def TX10 : u_T := fun k => match k with
  | 0 => ("CounterMine", "reader", "LCounterMine$Reader;", true)
  | 1 => ("CounterMine", "now", "LCounterMine$Works;", true)
  | 2 => ("CounterMine", "then", "LCounterMine$Works;", true)
  | 3 => ("CounterMine", "past", "LCounterMine$Past;", true)
  | 4 => ("CounterMine", "ways", "LCounterMine$Ways;", true)
  | 5 => ("CounterMine", "cutter", "LCounterMine$Cut;", true)
  | 6 => ("CounterMine", "secret", "LCounterMine$Secret;", true)
  | 7 => ("CounterMine", "share", "LCounterMine$Share;", true)
  | 8 => ("CounterMine", "plan", "LCounterMine$Plan;", false)
  | 9 => ("CounterMine", "spare", "LCounterMine$Plan;", false)
  | 10 => ("CounterMine", "told", "Z", false)
  | _ => ("CounterMine", "trouble", "I", false)
def tyX10 : Nat → FieldType := fun k => match k with
  | 0 => .object "CounterMine$Reader"
  | 1 => .object "CounterMine$Works"
  | 2 => .object "CounterMine$Works"
  | 3 => .object "CounterMine$Past"
  | 4 => .object "CounterMine$Ways"
  | 5 => .object "CounterMine$Cut"
  | 6 => .object "CounterMine$Secret"
  | 7 => .object "CounterMine$Share"
  | 8 => .object "CounterMine$Plan"
  | 9 => .object "CounterMine$Plan"
  | 10 => .boolean
  | _ => .int
theorem nmX10 : ∀ a, a < 12 → ∀ b, b < 12 → a ≠ b → (TX10 a).2.1 ≠ (TX10 b).2.1 := by decide +kernel
theorem tyX10_ok : ∀ k, k < 12 → parseFieldDescriptor (TX10 k).2.2.1 = some (tyX10 k) := by decide +kernel
abbrev cX10_init : ByteArray := prog_1_method_1_code
def yX10_init : MethodName := ⟨RX10, "<init>", "()V"⟩
abbrev cX10_feed : ByteArray := prog_1_method_2_code
def yX10_feed : MethodName := ⟨RX10, "feed", "(IIIII)I"⟩
abbrev cX10_field : ByteArray := prog_1_method_3_code
def yX10_field : MethodName := ⟨RX10, "field", "(I)I"⟩
abbrev cX10_fault : ByteArray := prog_1_method_4_code
def yX10_fault : MethodName := ⟨RX10, "fault", "()I"⟩
abbrev cX10_where : ByteArray := prog_1_method_5_code
def yX10_where : MethodName := ⟨RX10, "where", "()I"⟩
abbrev cX10_cell : ByteArray := prog_1_method_6_code
def yX10_cell : MethodName := ⟨RX10, "cell", "(III)I"⟩
abbrev cX10_gallery : ByteArray := prog_1_method_7_code
def yX10_gallery : MethodName := ⟨RX10, "gallery", "(II)I"⟩
abbrev cX10_drum : ByteArray := prog_1_method_8_code
def yX10_drum : MethodName := ⟨RX10, "drum", "(I)I"⟩
abbrev cX10_dug : ByteArray := prog_1_method_9_code
def yX10_dug : MethodName := ⟨RX10, "dug", "()I"⟩
abbrev cX10_far : ByteArray := prog_1_method_10_code
def yX10_far : MethodName := ⟨RX10, "far", "(IIII)I"⟩
abbrev cX10_placeIn : ByteArray := prog_1_method_11_code
def yX10_placeIn : MethodName := ⟨RX10, "placeIn", "(II)I"⟩
abbrev cX10_dugIn : ByteArray := prog_1_method_12_code
def yX10_dugIn : MethodName := ⟨RX10, "dugIn", "(I)I"⟩
abbrev cX10_endsIn : ByteArray := prog_1_method_13_code
def yX10_endsIn : MethodName := ⟨RX10, "endsIn", "(I)I"⟩
abbrev cX10_breaksIn : ByteArray := prog_1_method_14_code
def yX10_breaksIn : MethodName := ⟨RX10, "breaksIn", "(II)I"⟩
abbrev cX10_firstBreak : ByteArray := prog_1_method_15_code
def yX10_firstBreak : MethodName := ⟨RX10, "firstBreak", "()I"⟩
abbrev cX10_whoBreaks : ByteArray := prog_1_method_16_code
def yX10_whoBreaks : MethodName := ⟨RX10, "whoBreaks", "()I"⟩
abbrev cX10_hears : ByteArray := prog_1_method_17_code
def yX10_hears : MethodName := ⟨RX10, "hears", "(II)I"⟩
abbrev cX10_heardIn : ByteArray := prog_1_method_18_code
def yX10_heardIn : MethodName := ⟨RX10, "heardIn", "(I)I"⟩
abbrev cX10_nights : ByteArray := prog_1_method_19_code
def yX10_nights : MethodName := ⟨RX10, "nights", "(IIII)I"⟩
abbrev cX10_quiet : ByteArray := prog_1_method_20_code
def yX10_quiet : MethodName := ⟨RX10, "quiet", "(IIII)I"⟩
abbrev cX10_toWall : ByteArray := prog_1_method_21_code
def yX10_toWall : MethodName := ⟨RX10, "toWall", "(I)I"⟩
abbrev cX10_within : ByteArray := prog_1_method_22_code
def yX10_within : MethodName := ⟨RX10, "within", "(III)I"⟩
abbrev cX10_deaf : ByteArray := prog_1_method_23_code
def yX10_deaf : MethodName := ⟨RX10, "deaf", "()I"⟩
abbrev cX10_cut : ByteArray := prog_1_method_24_code
def yX10_cut : MethodName := ⟨RX10, "cut", "(I)I"⟩
abbrev cX10_blast : ByteArray := prog_1_method_25_code
def yX10_blast : MethodName := ⟨RX10, "blast", "(III)I"⟩
abbrev cX10_bestBlast : ByteArray := prog_1_method_26_code
def yX10_bestBlast : MethodName := ⟨RX10, "bestBlast", "(I)I"⟩
abbrev cX10_fits : ByteArray := prog_1_method_27_code
def yX10_fits : MethodName := ⟨RX10, "fits", "()I"⟩
abbrev cX10_fitAt : ByteArray := prog_1_method_28_code
def yX10_fitAt : MethodName := ⟨RX10, "fitAt", "(I)I"⟩
abbrev cX10_fitWay : ByteArray := prog_1_method_29_code
def yX10_fitWay : MethodName := ⟨RX10, "fitWay", "(I)I"⟩
abbrev cX10_beAt : ByteArray := prog_1_method_30_code
def yX10_beAt : MethodName := ⟨RX10, "beAt", "(III)I"⟩
abbrev cX10_likely : ByteArray := prog_1_method_31_code
def yX10_likely : MethodName := ⟨RX10, "likely", "(I)I"⟩
abbrev cX10_oneMore : ByteArray := prog_1_method_32_code
def yX10_oneMore : MethodName := ⟨RX10, "oneMore", "(I)I"⟩
abbrev cX10_oneMoreLeaves : ByteArray := prog_1_method_33_code
def yX10_oneMoreLeaves : MethodName := ⟨RX10, "oneMoreLeaves", "(I)I"⟩
abbrev cX10_meets : ByteArray := prog_1_method_34_code
def yX10_meets : MethodName := ⟨RX10, "meets", "(II)I"⟩
abbrev cX10_digs : ByteArray := prog_1_method_35_code
def yX10_digs : MethodName := ⟨RX10, "digs", "(IZZZ)I"⟩
abbrev cX10_rests : ByteArray := prog_1_method_36_code
def yX10_rests : MethodName := ⟨RX10, "rests", "(I)I"⟩
abbrev cX10_rest : ByteArray := prog_1_method_37_code
def yX10_rest : MethodName := ⟨RX10, "rest", "(I)I"⟩
abbrev cX10_odds : ByteArray := prog_1_method_38_code
def yX10_odds : MethodName := ⟨RX10, "odds", "(IZ)J"⟩
abbrev cX10_mean : ByteArray := prog_1_method_39_code
def yX10_mean : MethodName := ⟨RX10, "mean", "(Z)J"⟩
abbrev cX10_drawn : ByteArray := prog_1_method_40_code
def yX10_drawn : MethodName := ⟨RX10, "drawn", "(I)I"⟩
abbrev cX10_night : ByteArray := prog_1_method_41_code
def yX10_night : MethodName := ⟨RX10, "night", "()I"⟩
abbrev cX10_charge : ByteArray := prog_1_method_42_code
def yX10_charge : MethodName := ⟨RX10, "charge", "(III)I"⟩
abbrev cX10_move : ByteArray := prog_1_method_43_code
def yX10_move : MethodName := ⟨RX10, "move", "(III)I"⟩
abbrev cX10_undo : ByteArray := prog_1_method_44_code
def yX10_undo : MethodName := ⟨RX10, "undo", "()Z"⟩
abbrev cX10_image : ByteArray := prog_1_method_45_code
def yX10_image : MethodName := ⟨RX10, "image", "()I"⟩
abbrev cX10_back : ByteArray := prog_1_method_46_code
def yX10_back : MethodName := ⟨RX10, "back", "(I)Z"⟩
abbrev cX10_led : ByteArray := prog_1_method_47_code
def yX10_led : MethodName := ⟨RX10, "led", "(I)I"⟩
abbrev cX10_size : ByteArray := prog_1_method_48_code
def yX10_size : MethodName := ⟨RX10, "size", "(I)I"⟩
abbrev cX10_trouble : ByteArray := prog_1_method_49_code
def yX10_trouble : MethodName := ⟨RX10, "trouble", "()I"⟩
abbrev cX10_refuse : ByteArray := prog_1_method_50_code
def yX10_refuse : MethodName := ⟨RX10, "refuse", "(I)I"⟩
abbrev cX10_allowed : ByteArray := prog_1_method_51_code
def yX10_allowed : MethodName := ⟨RX10, "allowed", "(Z)Z"⟩
abbrev cX10_allowed_ : ByteArray := prog_1_method_52_code
def yX10_allowed_ : MethodName := ⟨RX10, "allowed", "(ZZ)Z"⟩
abbrev cX10_isGallery : ByteArray := prog_1_method_53_code
def yX10_isGallery : MethodName := ⟨RX10, "isGallery", "(I)Z"⟩
abbrev cX10_isDrum : ByteArray := prog_1_method_54_code
def yX10_isDrum : MethodName := ⟨RX10, "isDrum", "(I)Z"⟩
abbrev cX10_isFit : ByteArray := prog_1_method_55_code
def yX10_isFit : MethodName := ⟨RX10, "isFit", "(I)Z"⟩
abbrev cX10_isSoil : ByteArray := prog_1_method_56_code
def yX10_isSoil : MethodName := ⟨RX10, "isSoil", "(II)Z"⟩
abbrev cX10_isNight : ByteArray := prog_1_method_57_code
def yX10_isNight : MethodName := ⟨RX10, "isNight", "(I)Z"⟩
abbrev cX10_isPower : ByteArray := prog_1_method_58_code
def yX10_isPower : MethodName := ⟨RX10, "isPower", "(I)Z"⟩
abbrev cX10_isPowder : ByteArray := prog_1_method_59_code
def yX10_isPowder : MethodName := ⟨RX10, "isPowder", "(I)Z"⟩
abbrev cX10_lookAhead : ByteArray := prog_1_method_60_code
def yX10_lookAhead : MethodName := ⟨RX10, "lookAhead", "(I)V"⟩
abbrev cX10_firstNight : ByteArray := prog_1_method_61_code
def yX10_firstNight : MethodName := ⟨RX10, "firstNight", "(III)I"⟩
abbrev cX10_isSo : ByteArray := prog_1_method_62_code
def yX10_isSo : MethodName := ⟨RX10, "isSo", "(III)Z"⟩
abbrev cX10_gain : ByteArray := prog_1_method_63_code
def yX10_gain : MethodName := ⟨RX10, "gain", "(IZZ)I"⟩
abbrev cX10_isRest : ByteArray := prog_1_method_64_code
def yX10_isRest : MethodName := ⟨RX10, "isRest", "(IZZ)Z"⟩
def RX11 : String := "CounterMineModel$Field"
def TX11 : u_T := fun k => match k with
  | 0 => ("CounterMineModel$Field", "reach", "I", false)
  | 1 => ("CounterMineModel$Field", "error", "I", false)
  | 2 => ("CounterMineModel$Field", "pace", "I", false)
  | 3 => ("CounterMineModel$Field", "falls", "I", false)
  | 4 => ("CounterMineModel$Field", "wide", "I", false)
  | 5 => ("CounterMineModel$Field", "deep", "I", false)
  | 6 => ("CounterMineModel$Field", "wall", "I", false)
  | 7 => ("CounterMineModel$Field", "drums", "I", false)
  | 8 => ("CounterMineModel$Field", "digs", "I", false)
  | 9 => ("CounterMineModel$Field", "heards", "I", false)
  | 10 => ("CounterMineModel$Field", "names", "I", false)
  | 11 => ("CounterMineModel$Field", "late", "Z", false)
  | 12 => ("CounterMineModel$Field", "soil", "[I", true)
  | 13 => ("CounterMineModel$Field", "drum", "[I", true)
  | 14 => ("CounterMineModel$Field", "side", "[I", true)
  | 15 => ("CounterMineModel$Field", "length", "[I", true)
  | 16 => ("CounterMineModel$Field", "way", "[I", true)
  | 17 => ("CounterMineModel$Field", "heard", "[I", true)
  | 18 => ("CounterMineModel$Field", "heardIn", "[I", true)
  | 19 => ("CounterMineModel$Field", "heardFar", "[I", true)
  | 20 => ("CounterMineModel$Field", "name", "[J", true)
  | 21 => ("CounterMineModel$Field", "nameSort", "[I", true)
  | _ => ("CounterMineModel$Field", "numberOf", "[I", true)
def tyX11 : Nat → FieldType := fun k => match k with
  | 0 => .int
  | 1 => .int
  | 2 => .int
  | 3 => .int
  | 4 => .int
  | 5 => .int
  | 6 => .int
  | 7 => .int
  | 8 => .int
  | 9 => .int
  | 10 => .int
  | 11 => .boolean
  | 12 => .array .int
  | 13 => .array .int
  | 14 => .array .int
  | 15 => .array .int
  | 16 => .array .int
  | 17 => .array .int
  | 18 => .array .int
  | 19 => .array .int
  | 20 => .array .long
  | 21 => .array .int
  | _ => .array .int
theorem nmX11 : ∀ a, a < 23 → ∀ b, b < 23 → a ≠ b → (TX11 a).2.1 ≠ (TX11 b).2.1 := by decide +kernel
theorem tyX11_ok : ∀ k, k < 23 → parseFieldDescriptor (TX11 k).2.2.1 = some (tyX11 k) := by decide +kernel
abbrev cX11_init : ByteArray := prog_14_method_1_code
def yX11_init : MethodName := ⟨RX11, "<init>", "()V"⟩
abbrev cX11_find : ByteArray := prog_14_method_2_code
def yX11_find : MethodName := ⟨RX11, "find", "(J)I"⟩
abbrev cX11_isHeard : ByteArray := prog_14_method_3_code
def yX11_isHeard : MethodName := ⟨RX11, "isHeard", "(II)Z"⟩
abbrev cX11_next : ByteArray := prog_14_method_4_code
def yX11_next : MethodName := ⟨RX11, "next", "(II)I"⟩
abbrev cX11_isRock : ByteArray := prog_14_method_5_code
def yX11_isRock : MethodName := ⟨RX11, "isRock", "(I)Z"⟩
abbrev cX11_isOpen : ByteArray := prog_14_method_6_code
def yX11_isOpen : MethodName := ⟨RX11, "isOpen", "(I)Z"⟩
def RX12 : String := "CounterMineModel"
def TX12 : u_T := fun k => match k with
  | 0 => ("CounterMineModel", "thrown", "I", false)
  | 1 => ("CounterMineModel", "trouble", "I", false)
  | 2 => ("CounterMineModel", "where", "I", false)
  | 3 => ("CounterMineModel", "field", "LCounterMineModel$Field;", false)
  | 4 => ("CounterMineModel", "read", "LCounterMineModel$Field;", false)
  | 5 => ("CounterMineModel", "tape", "[B", true)
  | 6 => ("CounterMineModel", "taped", "I", false)
  | 7 => ("CounterMineModel", "size", "I", false)
  | 8 => ("CounterMineModel", "spot", "I", false)
  | 9 => ("CounterMineModel", "sort", "I", false)
  | 10 => ("CounterMineModel", "place", "I", false)
  | 11 => ("CounterMineModel", "number", "I", false)
  | 12 => ("CounterMineModel", "fault", "I", false)
  | 13 => ("CounterMineModel", "wrongAt", "I", false)
  | 14 => ("CounterMineModel", "letters", "I", false)
  | 15 => ("CounterMineModel", "word", "J", false)
  | 16 => ("CounterMineModel", "v", "[I", true)
  | 17 => ("CounterMineModel", "now", "[I", true)
  | 18 => ("CounterMineModel", "past", "[I", true)
  | 19 => ("CounterMineModel", "kept", "[I", true)
  | 20 => ("CounterMineModel", "acts", "I", false)
  | 21 => ("CounterMineModel", "images", "I", false)
  | 22 => ("CounterMineModel", "by", "[I", true)
  | 23 => ("CounterMineModel", "goes", "[Z", true)
  | 24 => ("CounterMineModel", "used", "[Z", true)
  | 25 => ("CounterMineModel", "line", "[I", true)
  | 26 => ("CounterMineModel", "cameFrom", "[I", true)
  | 27 => ("CounterMineModel", "lengthOf", "I", false)
  | 28 => ("CounterMineModel", "fit", "[I", true)
  | 29 => ("CounterMineModel", "manyAt", "[I", true)
  | 30 => ("CounterMineModel", "manyFar", "[I", true)
  | 31 => ("CounterMineModel", "fitsNow", "I", false)
  | _ => ("CounterMineModel", "moreLeft", "I", false)
def tyX12 : Nat → FieldType := fun k => match k with
  | 0 => .int
  | 1 => .int
  | 2 => .int
  | 3 => .object "CounterMineModel$Field"
  | 4 => .object "CounterMineModel$Field"
  | 5 => .array .byte
  | 6 => .int
  | 7 => .int
  | 8 => .int
  | 9 => .int
  | 10 => .int
  | 11 => .int
  | 12 => .int
  | 13 => .int
  | 14 => .int
  | 15 => .long
  | 16 => .array .int
  | 17 => .array .int
  | 18 => .array .int
  | 19 => .array .int
  | 20 => .int
  | 21 => .int
  | 22 => .array .int
  | 23 => .array .boolean
  | 24 => .array .boolean
  | 25 => .array .int
  | 26 => .array .int
  | 27 => .int
  | 28 => .array .int
  | 29 => .array .int
  | 30 => .array .int
  | 31 => .int
  | _ => .int
theorem nmX12 : ∀ a, a < 33 → ∀ b, b < 33 → a ≠ b → (TX12 a).2.1 ≠ (TX12 b).2.1 := by decide +kernel
theorem tyX12_ok : ∀ k, k < 33 → parseFieldDescriptor (TX12 k).2.2.1 = some (tyX12 k) := by decide +kernel
abbrev cX12_init : ByteArray := prog_13_method_1_code
def yX12_init : MethodName := ⟨RX12, "<init>", "()V"⟩
abbrev cX12_thrown : ByteArray := prog_13_method_2_code
def yX12_thrown : MethodName := ⟨RX12, "thrown", "()I"⟩
abbrev cX12_refused : ByteArray := prog_13_method_3_code
def yX12_refused : MethodName := ⟨RX12, "refused", "(I)I"⟩
abbrev cX12_lost : ByteArray := prog_13_method_4_code
def yX12_lost : MethodName := ⟨RX12, "lost", "(I)I"⟩
abbrev cX12_denied : ByteArray := prog_13_method_5_code
def yX12_denied : MethodName := ⟨RX12, "denied", "(I)Z"⟩
abbrev cX12_good : ByteArray := prog_13_method_6_code
def yX12_good : MethodName := ⟨RX12, "good", "(I)I"⟩
abbrev cX12_granted : ByteArray := prog_13_method_7_code
def yX12_granted : MethodName := ⟨RX12, "granted", "()Z"⟩
abbrev cX12_in : ByteArray := prog_13_method_8_code
def yX12_in : MethodName := ⟨RX12, "in", "(III)Z"⟩
abbrev cX12_bit : ByteArray := prog_13_method_9_code
def yX12_bit : MethodName := ⟨RX12, "bit", "(II)Z"⟩
abbrev cX12_common : ByteArray := prog_13_method_10_code
def yX12_common : MethodName := ⟨RX12, "common", "(JJ)J"⟩
abbrev cX12_fraction : ByteArray := prog_13_method_11_code
def yX12_fraction : MethodName := ⟨RX12, "fraction", "(JJZ)J"⟩
abbrev cX12_apart : ByteArray := prog_13_method_12_code
def yX12_apart : MethodName := ⟨RX12, "apart", "(II)I"⟩
abbrev cX12_byteAt : ByteArray := prog_13_method_13_code
def yX12_byteAt : MethodName := ⟨RX12, "byteAt", "(I)I"⟩
abbrev cX12_isLetter : ByteArray := prog_13_method_14_code
def yX12_isLetter : MethodName := ⟨RX12, "isLetter", "(I)Z"⟩
abbrev cX12_isDigit : ByteArray := prog_13_method_15_code
def yX12_isDigit : MethodName := ⟨RX12, "isDigit", "(I)Z"⟩
abbrev cX12_packed : ByteArray := prog_13_method_16_code
def yX12_packed : MethodName := ⟨RX12, "packed", "(Ljava/lang/String;)J"⟩
abbrev cX12_goesOn : ByteArray := prog_13_method_17_code
def yX12_goesOn : MethodName := ⟨RX12, "goesOn", "()V"⟩
abbrev cX12_flaw : ByteArray := prog_13_method_18_code
def yX12_flaw : MethodName := ⟨RX12, "flaw", "(I)V"⟩
abbrev cX12_isWord : ByteArray := prog_13_method_19_code
def yX12_isWord : MethodName := ⟨RX12, "isWord", "(Ljava/lang/String;)Z"⟩
abbrev cX12_eatsSemicolon : ByteArray := prog_13_method_20_code
def yX12_eatsSemicolon : MethodName := ⟨RX12, "eatsSemicolon", "()Z"⟩
abbrev cX12_needs : ByteArray := prog_13_method_21_code
def yX12_needs : MethodName := ⟨RX12, "needs", "(Ljava/lang/String;)V"⟩
abbrev cX12_wholeAt : ByteArray := prog_13_method_22_code
def yX12_wholeAt : MethodName := ⟨RX12, "wholeAt", "(II)I"⟩
abbrev cX12_readWhole : ByteArray := prog_13_method_23_code
def yX12_readWhole : MethodName := ⟨RX12, "readWhole", "(II)I"⟩
abbrev cX12_readPart : ByteArray := prog_13_method_24_code
def yX12_readPart : MethodName := ⟨RX12, "readPart", "(Ljava/lang/String;II)I"⟩
abbrev cX12_letterAt : ByteArray := prog_13_method_25_code
def yX12_letterAt : MethodName := ⟨RX12, "letterAt", "(I)I"⟩
abbrev cX12_isName : ByteArray := prog_13_method_26_code
def yX12_isName : MethodName := ⟨RX12, "isName", "()Z"⟩
abbrev cX12_lineBegins : ByteArray := prog_13_method_27_code
def yX12_lineBegins : MethodName := ⟨RX12, "lineBegins", "(II)V"⟩
abbrev cX12_readFresh : ByteArray := prog_13_method_28_code
def yX12_readFresh : MethodName := ⟨RX12, "readFresh", "()J"⟩
abbrev cX12_names : ByteArray := prog_13_method_29_code
def yX12_names : MethodName := ⟨RX12, "names", "(JII)V"⟩
abbrev cX12_readCell : ByteArray := prog_13_method_30_code
def yX12_readCell : MethodName := ⟨RX12, "readCell", "()I"⟩
abbrev cX12_readAll : ByteArray := prog_13_method_31_code
def yX12_readAll : MethodName := ⟨RX12, "readAll", "()V"⟩
abbrev cX12_readLine : ByteArray := prog_13_method_32_code
def yX12_readLine : MethodName := ⟨RX12, "readLine", "()V"⟩
abbrev cX12_readField : ByteArray := prog_13_method_33_code
def yX12_readField : MethodName := ⟨RX12, "readField", "()V"⟩
abbrev cX12_soilBy : ByteArray := prog_13_method_34_code
def yX12_soilBy : MethodName := ⟨RX12, "soilBy", "(I)I"⟩
abbrev cX12_isRow : ByteArray := prog_13_method_35_code
def yX12_isRow : MethodName := ⟨RX12, "isRow", "()Z"⟩
abbrev cX12_readRow : ByteArray := prog_13_method_36_code
def yX12_readRow : MethodName := ⟨RX12, "readRow", "()V"⟩
abbrev cX12_readWall : ByteArray := prog_13_method_37_code
def yX12_readWall : MethodName := ⟨RX12, "readWall", "()V"⟩
abbrev cX12_readDrum : ByteArray := prog_13_method_38_code
def yX12_readDrum : MethodName := ⟨RX12, "readDrum", "()V"⟩
abbrev cX12_wayBy : ByteArray := prog_13_method_39_code
def yX12_wayBy : MethodName := ⟨RX12, "wayBy", "(I)I"⟩
abbrev cX12_laysWay : ByteArray := prog_13_method_40_code
def yX12_laysWay : MethodName := ⟨RX12, "laysWay", "(II)Z"⟩
abbrev cX12_readDig : ByteArray := prog_13_method_41_code
def yX12_readDig : MethodName := ⟨RX12, "readDig", "()V"⟩
abbrev cX12_readHeard : ByteArray := prog_13_method_42_code
def yX12_readHeard : MethodName := ⟨RX12, "readHeard", "()V"⟩
abbrev cX12_feed : ByteArray := prog_13_method_43_code
def yX12_feed : MethodName := ⟨RX12, "feed", "(IIIII)I"⟩
abbrev cX12_field : ByteArray := prog_13_method_44_code
def yX12_field : MethodName := ⟨RX12, "field", "(I)I"⟩
abbrev cX12_fault : ByteArray := prog_13_method_45_code
def yX12_fault : MethodName := ⟨RX12, "fault", "()I"⟩
abbrev cX12_where : ByteArray := prog_13_method_46_code
def yX12_where : MethodName := ⟨RX12, "where", "()I"⟩
abbrev cX12_isIn : ByteArray := prog_13_method_47_code
def yX12_isIn : MethodName := ⟨RX12, "isIn", "(II)Z"⟩
abbrev cX12_isDig : ByteArray := prog_13_method_48_code
def yX12_isDig : MethodName := ⟨RX12, "isDig", "(I)Z"⟩
abbrev cX12_isDrum : ByteArray := prog_13_method_49_code
def yX12_isDrum : MethodName := ⟨RX12, "isDrum", "(I)Z"⟩
abbrev cX12_cellOf : ByteArray := prog_13_method_50_code
def yX12_cellOf : MethodName := ⟨RX12, "cellOf", "(II)I"⟩
abbrev cX12_told : ByteArray := prog_13_method_51_code
def yX12_told : MethodName := ⟨RX12, "told", "(I)I"⟩
abbrev cX12_works : ByteArray := prog_13_method_52_code
def yX12_works : MethodName := ⟨RX12, "works", "()V"⟩
abbrev cX12_wayAt : ByteArray := prog_13_method_53_code
def yX12_wayAt : MethodName := ⟨RX12, "wayAt", "(II)I"⟩
abbrev cX12_placeOf : ByteArray := prog_13_method_54_code
def yX12_placeOf : MethodName := ⟨RX12, "placeOf", "(I)I"⟩
abbrev cX12_isDigging : ByteArray := prog_13_method_55_code
def yX12_isDigging : MethodName := ⟨RX12, "isDigging", "(I)Z"⟩
abbrev cX12_takes : ByteArray := prog_13_method_56_code
def yX12_takes : MethodName := ⟨RX12, "takes", "(I)I"⟩
abbrev cX12_begins : ByteArray := prog_13_method_57_code
def yX12_begins : MethodName := ⟨RX12, "begins", "(I)V"⟩
abbrev cX12_goesBy : ByteArray := prog_13_method_58_code
def yX12_goesBy : MethodName := ⟨RX12, "goesBy", "()I"⟩
abbrev cX12_worksIn : ByteArray := prog_13_method_59_code
def yX12_worksIn : MethodName := ⟨RX12, "worksIn", "(I)V"⟩
abbrev cX12_refusesNights : ByteArray := prog_13_method_60_code
def yX12_refusesNights : MethodName := ⟨RX12, "refusesNights", "(ZI)I"⟩
abbrev cX12_galleriesAt : ByteArray := prog_13_method_61_code
def yX12_galleriesAt : MethodName := ⟨RX12, "galleriesAt", "(I)I"⟩
abbrev cX12_cell : ByteArray := prog_13_method_62_code
def yX12_cell : MethodName := ⟨RX12, "cell", "(III)I"⟩
abbrev cX12_gallery : ByteArray := prog_13_method_63_code
def yX12_gallery : MethodName := ⟨RX12, "gallery", "(II)I"⟩
abbrev cX12_drum : ByteArray := prog_13_method_64_code
def yX12_drum : MethodName := ⟨RX12, "drum", "(I)I"⟩
abbrev cX12_dugNow : ByteArray := prog_13_method_65_code
def yX12_dugNow : MethodName := ⟨RX12, "dugNow", "()I"⟩
abbrev cX12_dug : ByteArray := prog_13_method_66_code
def yX12_dug : MethodName := ⟨RX12, "dug", "()I"⟩
abbrev cX12_far : ByteArray := prog_13_method_67_code
def yX12_far : MethodName := ⟨RX12, "far", "(IIII)I"⟩
abbrev cX12_placeIn : ByteArray := prog_13_method_68_code
def yX12_placeIn : MethodName := ⟨RX12, "placeIn", "(II)I"⟩
abbrev cX12_dugIn : ByteArray := prog_13_method_69_code
def yX12_dugIn : MethodName := ⟨RX12, "dugIn", "(I)I"⟩
abbrev cX12_endsIn : ByteArray := prog_13_method_70_code
def yX12_endsIn : MethodName := ⟨RX12, "endsIn", "(I)I"⟩
abbrev cX12_breakIn : ByteArray := prog_13_method_71_code
def yX12_breakIn : MethodName := ⟨RX12, "breakIn", "(II)Z"⟩
abbrev cX12_breaksIn : ByteArray := prog_13_method_72_code
def yX12_breaksIn : MethodName := ⟨RX12, "breaksIn", "(II)I"⟩
abbrev cX12_pair : ByteArray := prog_13_method_73_code
def yX12_pair : MethodName := ⟨RX12, "pair", "()I"⟩
abbrev cX12_breaking : ByteArray := prog_13_method_74_code
def yX12_breaking : MethodName := ⟨RX12, "breaking", "()I"⟩
abbrev cX12_firstBreak : ByteArray := prog_13_method_75_code
def yX12_firstBreak : MethodName := ⟨RX12, "firstBreak", "()I"⟩
abbrev cX12_whoBreaks : ByteArray := prog_13_method_76_code
def yX12_whoBreaks : MethodName := ⟨RX12, "whoBreaks", "()I"⟩
abbrev cX12_isHeard : ByteArray := prog_13_method_77_code
def yX12_isHeard : MethodName := ⟨RX12, "isHeard", "(II)Z"⟩
abbrev cX12_hears : ByteArray := prog_13_method_78_code
def yX12_hears : MethodName := ⟨RX12, "hears", "(II)I"⟩
abbrev cX12_heardIn : ByteArray := prog_13_method_79_code
def yX12_heardIn : MethodName := ⟨RX12, "heardIn", "(I)I"⟩
abbrev cX12_isQuiet : ByteArray := prog_13_method_80_code
def yX12_isQuiet : MethodName := ⟨RX12, "isQuiet", "(I)Z"⟩
abbrev cX12_lowers : ByteArray := prog_13_method_81_code
def yX12_lowers : MethodName := ⟨RX12, "lowers", "(IZ)V"⟩
abbrev cX12_byOf : ByteArray := prog_13_method_82_code
def yX12_byOf : MethodName := ⟨RX12, "byOf", "(I)I"⟩
abbrev cX12_nights : ByteArray := prog_13_method_83_code
def yX12_nights : MethodName := ⟨RX12, "nights", "(IIII)I"⟩
abbrev cX12_quiet : ByteArray := prog_13_method_84_code
def yX12_quiet : MethodName := ⟨RX12, "quiet", "(IIII)I"⟩
abbrev cX12_toWall : ByteArray := prog_13_method_85_code
def yX12_toWall : MethodName := ⟨RX12, "toWall", "(I)I"⟩
abbrev cX12_within : ByteArray := prog_13_method_86_code
def yX12_within : MethodName := ⟨RX12, "within", "(III)I"⟩
abbrev cX12_last : ByteArray := prog_13_method_87_code
def yX12_last : MethodName := ⟨RX12, "last", "()I"⟩
abbrev cX12_isSoil : ByteArray := prog_13_method_88_code
def yX12_isSoil : MethodName := ⟨RX12, "isSoil", "(I)Z"⟩
abbrev cX12_deaf : ByteArray := prog_13_method_89_code
def yX12_deaf : MethodName := ⟨RX12, "deaf", "()I"⟩
abbrev cX12_reaches : ByteArray := prog_13_method_90_code
def yX12_reaches : MethodName := ⟨RX12, "reaches", "(II)V"⟩
abbrev cX12_finds : ByteArray := prog_13_method_91_code
def yX12_finds : MethodName := ⟨RX12, "finds", "(II)Z"⟩
abbrev cX12_turnedBack : ByteArray := prog_13_method_92_code
def yX12_turnedBack : MethodName := ⟨RX12, "turnedBack", "(I)I"⟩
abbrev cX12_wayTo : ByteArray := prog_13_method_93_code
def yX12_wayTo : MethodName := ⟨RX12, "wayTo", "(II)I"⟩
abbrev cX12_lays : ByteArray := prog_13_method_94_code
def yX12_lays : MethodName := ⟨RX12, "lays", "(II)V"⟩
abbrev cX12_cut : ByteArray := prog_13_method_95_code
def yX12_cut : MethodName := ⟨RX12, "cut", "(I)I"⟩
abbrev cX12_shutBy : ByteArray := prog_13_method_96_code
def yX12_shutBy : MethodName := ⟨RX12, "shutBy", "(II)I"⟩
abbrev cX12_refusesCharge : ByteArray := prog_13_method_97_code
def yX12_refusesCharge : MethodName := ⟨RX12, "refusesCharge", "(III)I"⟩
abbrev cX12_blast : ByteArray := prog_13_method_98_code
def yX12_blast : MethodName := ⟨RX12, "blast", "(III)I"⟩
abbrev cX12_bestBlast : ByteArray := prog_13_method_99_code
def yX12_bestBlast : MethodName := ⟨RX12, "bestBlast", "(I)I"⟩
abbrev cX12_pickAt : ByteArray := prog_13_method_100_code
def yX12_pickAt : MethodName := ⟨RX12, "pickAt", "(II)I"⟩
abbrev cX12_isFit : ByteArray := prog_13_method_101_code
def yX12_isFit : MethodName := ⟨RX12, "isFit", "(I)Z"⟩
abbrev cX12_fitting : ByteArray := prog_13_method_102_code
def yX12_fitting : MethodName := ⟨RX12, "fitting", "()V"⟩
abbrev cX12_fits : ByteArray := prog_13_method_103_code
def yX12_fits : MethodName := ⟨RX12, "fits", "()I"⟩
abbrev cX12_fitBy : ByteArray := prog_13_method_104_code
def yX12_fitBy : MethodName := ⟨RX12, "fitBy", "(I)I"⟩
abbrev cX12_fitAt : ByteArray := prog_13_method_105_code
def yX12_fitAt : MethodName := ⟨RX12, "fitAt", "(I)I"⟩
abbrev cX12_fitWay : ByteArray := prog_13_method_106_code
def yX12_fitWay : MethodName := ⟨RX12, "fitWay", "(I)I"⟩
abbrev cX12_countsAt : ByteArray := prog_13_method_107_code
def yX12_countsAt : MethodName := ⟨RX12, "countsAt", "(I)V"⟩
abbrev cX12_beAt : ByteArray := prog_13_method_108_code
def yX12_beAt : MethodName := ⟨RX12, "beAt", "(III)I"⟩
abbrev cX12_likely : ByteArray := prog_13_method_109_code
def yX12_likely : MethodName := ⟨RX12, "likely", "(I)I"⟩
abbrev cX12_more : ByteArray := prog_13_method_110_code
def yX12_more : MethodName := ⟨RX12, "more", "(I)I"⟩
abbrev cX12_oneMore : ByteArray := prog_13_method_111_code
def yX12_oneMore : MethodName := ⟨RX12, "oneMore", "(I)I"⟩
abbrev cX12_oneMoreLeaves : ByteArray := prog_13_method_112_code
def yX12_oneMoreLeaves : MethodName := ⟨RX12, "oneMoreLeaves", "(I)I"⟩
abbrev cX12_meets : ByteArray := prog_13_method_113_code
def yX12_meets : MethodName := ⟨RX12, "meets", "(II)I"⟩
abbrev cX12_gets : ByteArray := prog_13_method_114_code
def yX12_gets : MethodName := ⟨RX12, "gets", "(IZZ)I"⟩
abbrev cX12_refusesPowder : ByteArray := prog_13_method_115_code
def yX12_refusesPowder : MethodName := ⟨RX12, "refusesPowder", "(I)I"⟩
abbrev cX12_digs : ByteArray := prog_13_method_116_code
def yX12_digs : MethodName := ⟨RX12, "digs", "(IZZZ)I"⟩
abbrev cX12_isRest : ByteArray := prog_13_method_117_code
def yX12_isRest : MethodName := ⟨RX12, "isRest", "(II)Z"⟩
abbrev cX12_rests : ByteArray := prog_13_method_118_code
def yX12_rests : MethodName := ⟨RX12, "rests", "(I)I"⟩
abbrev cX12_rest : ByteArray := prog_13_method_119_code
def yX12_rest : MethodName := ⟨RX12, "rest", "(I)I"⟩
abbrev cX12_power : ByteArray := prog_13_method_120_code
def yX12_power : MethodName := ⟨RX12, "power", "(JI)J"⟩
abbrev cX12_odds : ByteArray := prog_13_method_121_code
def yX12_odds : MethodName := ⟨RX12, "odds", "(IZ)J"⟩
abbrev cX12_mean : ByteArray := prog_13_method_122_code
def yX12_mean : MethodName := ⟨RX12, "mean", "(Z)J"⟩
abbrev cX12_drawn : ByteArray := prog_13_method_123_code
def yX12_drawn : MethodName := ⟨RX12, "drawn", "(I)I"⟩
abbrev cX12_remembers : ByteArray := prog_13_method_124_code
def yX12_remembers : MethodName := ⟨RX12, "remembers", "()V"⟩
abbrev cX12_remains : ByteArray := prog_13_method_125_code
def yX12_remains : MethodName := ⟨RX12, "remains", "()V"⟩
abbrev cX12_night : ByteArray := prog_13_method_126_code
def yX12_night : MethodName := ⟨RX12, "night", "()I"⟩
abbrev cX12_charge : ByteArray := prog_13_method_127_code
def yX12_charge : MethodName := ⟨RX12, "charge", "(III)I"⟩
abbrev cX12_move : ByteArray := prog_13_method_128_code
def yX12_move : MethodName := ⟨RX12, "move", "(III)I"⟩
abbrev cX12_undo : ByteArray := prog_13_method_129_code
def yX12_undo : MethodName := ⟨RX12, "undo", "()Z"⟩
abbrev cX12_image : ByteArray := prog_13_method_130_code
def yX12_image : MethodName := ⟨RX12, "image", "()I"⟩
abbrev cX12_back : ByteArray := prog_13_method_131_code
def yX12_back : MethodName := ⟨RX12, "back", "(I)Z"⟩
abbrev cX12_led : ByteArray := prog_13_method_132_code
def yX12_led : MethodName := ⟨RX12, "led", "(I)I"⟩
abbrev cX12_size : ByteArray := prog_13_method_133_code
def yX12_size : MethodName := ⟨RX12, "size", "(I)I"⟩
abbrev cX12_trouble : ByteArray := prog_13_method_134_code
def yX12_trouble : MethodName := ⟨RX12, "trouble", "()I"⟩
def RJ13 : String := "java/lang/Long"
abbrev cJ13_bitCount_95d88 : ByteArray := prog_19_method_50_code
def yJ13_bitCount_95d88 : MethodName := ⟨RJ13, "bitCount", "(J)I"⟩
def RJ9 : String := "java/lang/Math"
def RJ0 : String := "java/lang/String"
def RJ1 : String := "java/lang/StringLatin1"
def RJ2 : String := "java/lang/StringUTF16"
def RJ3 : String := "jdk/internal/util/Preconditions"
def RL : String := "CounterMineLaw"
abbrev cL_led : ByteArray := method_3_code
def yL_led : MethodName := ⟨RL, "led", "(LCounterMine;I[J)I"⟩
abbrev cL_law : ByteArray := code
def yL_law : MethodName := ⟨RL, "law", "([I)Z"⟩
abbrev vwCl : List vw_C := [(RX1, TX1, 5), (RX2, TX2, 5), (RX3, TX3, 19), (RX4, TX4, 9), (RX5, TX5, 5), (RX6, TX6, 2), (RX7, TX7, 6), (RX8, TX8, 2), (RX9, TX9, 7), (RX10, TX10, 12), (RX11, TX11, 23), (RX12, TX12, 33)]
end
section
/-! an instruction with what it is linked to: numbers, constants, a table of jumps -/
abbrev aM : Type := Instr × (Nat × Nat × Nat × Nat) × Int32 × Int64 × List (Int32 × Nat)
end
section
abbrev aMt : Type := MethodName × ByteArray × Nat × Option FieldType × Nat × Nat × Nat × (Nat × Nat) × Nat × List aM × List Nat
def k_0 : List aM := [(.bipush 8, (0, 0, 0, 0), 8, 0, []),
  (.iload_n 1, (1, 0, 0, 0), 0, 0, []),
  (.imul, (0, 0, 0, 0), 0, 0, []),
  (.iload_n 0, (0, 0, 0, 0), 0, 0, []),
  (.iadd, (0, 0, 0, 0), 0, 0, []),
  (.ireturn, (0, 0, 0, 0), 0, 0, [])]
def q_0 : List Nat := [0, 2, 3, 4, 5, 6, 7]
def m_0 : aMt := (yX0_at, cX0_at, 2, (some .int), 0, 0, 0, (0, 0), 2, k_0, q_0)
def k_1 : List aM := [(.iload_n 0, (0, 0, 0, 0), 0, 0, []),
  (.bipush 7, (0, 0, 0, 0), 7, 0, []),
  (.iand, (0, 0, 0, 0), 0, 0, []),
  (.ireturn, (0, 0, 0, 0), 0, 0, [])]
def q_1 : List Nat := [0, 1, 3, 4, 5]
def m_1 : aMt := (yX0_xOf, cX0_xOf, 1, (some .int), 0, 0, 0, (0, 0), 1, k_1, q_1)
def k_2 : List aM := [(.iload_n 0, (0, 0, 0, 0), 0, 0, []),
  (.iconst 3, (0, 0, 0, 0), 3, 0, []),
  (.ishr, (0, 0, 0, 0), 0, 0, []),
  (.ireturn, (0, 0, 0, 0), 0, 0, [])]
def q_2 : List Nat := [0, 1, 2, 3, 4]
def m_2 : aMt := (yX0_yOf, cX0_yOf, 1, (some .int), 0, 0, 0, (0, 0), 1, k_2, q_2)
def k_3 : List aM := [(.iload_n 0, (0, 0, 0, 0), 0, 0, []),
  (.invokestatic 11, (1, 1, 1, 99), 0, 0, []),
  (.bipush 10, (0, 0, 0, 0), 10, 0, []),
  (.iload_n 0, (0, 0, 0, 0), 0, 0, []),
  (.invokestatic 15, (2, 1, 1, 99), 0, 0, []),
  (.imul, (0, 0, 0, 0), 0, 0, []),
  (.iadd, (0, 0, 0, 0), 0, 0, []),
  (.ireturn, (0, 0, 0, 0), 0, 0, [])]
def q_3 : List Nat := [0, 1, 4, 6, 7, 10, 11, 12, 13]
def m_3 : aMt := (yX0_whole, cX0_whole, 1, (some .int), 0, 1, 20, (0, 0), 1, k_3, q_3)
def k_4 : List aM := [(.iload_n 0, (0, 0, 0, 0), 0, 0, []),
  (.invokestatic 11, (1, 1, 1, 99), 0, 0, []),
  (.iload_n 1, (1, 0, 0, 0), 0, 0, []),
  (.invokestatic 11, (1, 1, 1, 99), 0, 0, []),
  (.isub, (0, 0, 0, 0), 0, 0, []),
  (.invokestatic 18, (900, 1, 1, 99), 0, 0, []),
  (.iload_n 0, (0, 0, 0, 0), 0, 0, []),
  (.invokestatic 15, (2, 1, 1, 99), 0, 0, []),
  (.iload_n 1, (1, 0, 0, 0), 0, 0, []),
  (.invokestatic 15, (2, 1, 1, 99), 0, 0, []),
  (.isub, (0, 0, 0, 0), 0, 0, []),
  (.invokestatic 18, (900, 1, 1, 99), 0, 0, []),
  (.iadd, (0, 0, 0, 0), 0, 0, []),
  (.ireturn, (0, 0, 0, 0), 0, 0, [])]
def q_4 : List Nat := [0, 1, 4, 5, 8, 9, 12, 13, 16, 17, 20, 21, 24, 25, 26]
def m_4 : aMt := (yX0_apart, cX0_apart, 2, (some .int), 0, 1, 21, (0, 0), 2, k_4, q_4)
def k_5 : List aM := [(.lload_n 0, (0, 0, 0, 0), 0, 0, []),
  (.iload_n 2, (2, 0, 0, 0), 0, 0, []),
  (.lushr, (0, 0, 0, 0), 0, 0, []),
  (.lconst 1, (0, 0, 0, 0), 0, 1, []),
  (.land, (0, 0, 0, 0), 0, 0, []),
  (.lconst 0, (0, 0, 0, 0), 0, 0, []),
  (.lcmp, (0, 0, 0, 0), 0, 0, []),
  (.ifCond .eq 7, (10, 0, 0, 0), 0, 0, []),
  (.iconst 1, (0, 0, 0, 0), 1, 0, []),
  (.goto 4, (11, 0, 0, 0), 0, 0, []),
  (.iconst 0, (0, 0, 0, 0), 0, 0, []),
  (.ireturn, (0, 0, 1, 0), 0, 0, [])]
def q_5 : List Nat := [0, 1, 2, 3, 4, 5, 6, 7, 10, 11, 14, 15, 16]
def m_5 : aMt := (yX0_has, cX0_has, 3, (some .boolean), 0, 0, 0, (0, 0), 2, k_5, q_5)
def k_6 : List aM := [(.iload_n 0, (0, 0, 0, 0), 0, 0, []),
  (.ifCond .lt 13, (7, 0, 0, 0), 0, 0, []),
  (.iload_n 0, (0, 0, 0, 0), 0, 0, []),
  (.bipush 64, (0, 0, 0, 0), 64, 0, []),
  (.if_icmp .ge 7, (7, 0, 0, 0), 0, 0, []),
  (.iconst 1, (0, 0, 0, 0), 1, 0, []),
  (.goto 4, (8, 0, 0, 0), 0, 0, []),
  (.iconst 0, (0, 0, 0, 0), 0, 0, []),
  (.ireturn, (0, 0, 1, 0), 0, 0, [])]
def q_6 : List Nat := [0, 1, 4, 5, 7, 10, 11, 14, 15, 16]
def m_6 : aMt := (yX0_isCell, cX0_isCell, 1, (some .boolean), 0, 0, 0, (0, 0), 1, k_6, q_6)
def k_7 : List aM := [(.iload_n 1, (1, 0, 0, 0), 0, 0, []),
  (.tableswitch 97 1 4 #[31, 47, 64, 82], (40, 0, 0, 0), 0, 0, [(1, 2), (2, 11), (3, 21), (4, 31)]),
  (.iload_n 0, (0, 0, 0, 0), 0, 0, []),
  (.invokestatic 15, (2, 1, 1, 99), 0, 0, []),
  (.ifCond .le 10, (9, 0, 0, 0), 0, 0, []),
  (.iload_n 0, (0, 0, 0, 0), 0, 0, []),
  (.bipush 8, (0, 0, 0, 0), 8, 0, []),
  (.isub, (0, 0, 0, 0), 0, 0, []),
  (.goto 4, (10, 0, 0, 0), 0, 0, []),
  (.iconst (-1), (0, 0, 0, 0), (-1), 0, []),
  (.ireturn, (0, 0, 0, 0), 0, 0, []),
  (.iload_n 0, (0, 0, 0, 0), 0, 0, []),
  (.invokestatic 11, (1, 1, 1, 99), 0, 0, []),
  (.bipush 7, (0, 0, 0, 0), 7, 0, []),
  (.if_icmp .ge 9, (19, 0, 0, 0), 0, 0, []),
  (.iload_n 0, (0, 0, 0, 0), 0, 0, []),
  (.iconst 1, (0, 0, 0, 0), 1, 0, []),
  (.iadd, (0, 0, 0, 0), 0, 0, []),
  (.goto 4, (20, 0, 0, 0), 0, 0, []),
  (.iconst (-1), (0, 0, 0, 0), (-1), 0, []),
  (.ireturn, (0, 0, 0, 0), 0, 0, []),
  (.iload_n 0, (0, 0, 0, 0), 0, 0, []),
  (.invokestatic 15, (2, 1, 1, 99), 0, 0, []),
  (.bipush 7, (0, 0, 0, 0), 7, 0, []),
  (.if_icmp .ge 10, (29, 0, 0, 0), 0, 0, []),
  (.iload_n 0, (0, 0, 0, 0), 0, 0, []),
  (.bipush 8, (0, 0, 0, 0), 8, 0, []),
  (.iadd, (0, 0, 0, 0), 0, 0, []),
  (.goto 4, (30, 0, 0, 0), 0, 0, []),
  (.iconst (-1), (0, 0, 0, 0), (-1), 0, []),
  (.ireturn, (0, 0, 0, 0), 0, 0, []),
  (.iload_n 0, (0, 0, 0, 0), 0, 0, []),
  (.invokestatic 11, (1, 1, 1, 99), 0, 0, []),
  (.ifCond .le 9, (38, 0, 0, 0), 0, 0, []),
  (.iload_n 0, (0, 0, 0, 0), 0, 0, []),
  (.iconst 1, (0, 0, 0, 0), 1, 0, []),
  (.isub, (0, 0, 0, 0), 0, 0, []),
  (.goto 4, (39, 0, 0, 0), 0, 0, []),
  (.iconst (-1), (0, 0, 0, 0), (-1), 0, []),
  (.ireturn, (0, 0, 0, 0), 0, 0, []),
  (.iconst (-1), (0, 0, 0, 0), (-1), 0, []),
  (.ireturn, (0, 0, 0, 0), 0, 0, [])]
def q_7 : List Nat := [0, 1, 32, 33, 36, 39, 40, 42, 43, 46, 47, 48, 49, 52, 54, 57, 58, 59, 60, 63, 64, 65, 66, 69, 71, 74, 75, 77, 78, 81, 82, 83, 84, 87, 90, 91, 92, 93, 96, 97, 98, 99, 100]
def m_7 : aMt := (yX0_beside, cX0_beside, 2, (some .int), 0, 1, 20, (0, 0), 2, k_7, q_7)
def k_8 : List aM := [(.aload_n 0, (0, 0, 0, 0), 0, 0, []),
  (.invokespecial 3, (0, 0, 9, 0), 0, 0, []),
  (.aload_n 0, (0, 0, 0, 0), 0, 0, []),
  (.sipush 128, (0, 0, 0, 0), 128, 0, []),
  (.newarray .int, (13, 0, 0, 0), 0, 0, []),
  (.putfield 11, (0, 0, 2, 0), 0, 0, []),
  (.aload_n 0, (0, 0, 0, 0), 0, 0, []),
  (.sipush 128, (0, 0, 0, 0), 128, 0, []),
  (.newarray .int, (13, 0, 0, 0), 0, 0, []),
  (.putfield 15, (0, 1, 2, 0), 0, 0, []),
  (.aload_n 0, (0, 0, 0, 0), 0, 0, []),
  (.iconst 5, (0, 0, 0, 0), 5, 0, []),
  (.newarray .long, (14, 0, 0, 0), 0, 0, []),
  (.putfield 18, (0, 3, 2, 0), 0, 0, []),
  (.return_, (0, 0, 0, 0), 0, 0, [])]
def q_8 : List Nat := [0, 1, 4, 5, 8, 10, 13, 14, 17, 19, 22, 23, 24, 26, 29, 30]
def m_8 : aMt := (yX1_init, cX1_init, 1, none, 1, 1, 20, (3, 261), 0, k_8, q_8)
def k_9 : List aM := [(.iload_n 2, (2, 0, 0, 0), 0, 0, []),
  (.iload_n 3, (3, 0, 0, 0), 0, 0, []),
  (.invokestatic 22, (4, 2, 1, 99), 0, 0, []),
  (.iconst 1, (0, 0, 0, 0), 1, 0, []),
  (.if_icmp .gt 6, (7, 0, 0, 0), 0, 0, []),
  (.bipush (-2), (0, 0, 0, 0), (-2), 0, []),
  (.ireturn, (0, 0, 0, 0), 0, 0, []),
  (.aload_n 0, (0, 0, 0, 0), 0, 0, []),
  (.lconst 0, (0, 0, 0, 0), 0, 0, []),
  (.putfield 28, (0, 4, 1, 0), 0, 0, []),
  (.iconst 0, (0, 0, 0, 0), 0, 0, []),
  (.istore 4, (4, 0, 0, 0), 0, 0, []),
  (.nop, (0, 0, 0, 0), 0, 0, [(0, 1), (0, 1), (0, 1), (0, 1), (0, 1), (0, 0)]),
  (.iload 4, (4, 0, 0, 0), 0, 0, []),
  (.aload_n 0, (0, 0, 0, 0), 0, 0, []),
  (.getfield 18, (0, 3, 2, 0), 0, 0, []),
  (.arraylength, (13, 0, 0, 0), 0, 0, []),
  (.if_icmp .ge 17, (25, 0, 0, 0), 0, 0, []),
  (.aload_n 0, (0, 0, 0, 0), 0, 0, []),
  (.getfield 18, (0, 3, 2, 0), 0, 0, []),
  (.iload 4, (4, 0, 0, 0), 0, 0, []),
  (.lconst 0, (0, 0, 0, 0), 0, 0, []),
  (.lastore, (0, 0, 0, 0), 0, 0, []),
  (.iinc 4 1, (4, 0, 0, 0), 1, 0, []),
  (.goto (-21), (12, 0, 0, 0), 0, 0, []),
  (.iconst 0, (0, 0, 0, 0), 0, 0, []),
  (.istore 4, (4, 0, 0, 0), 0, 0, []),
  (.iconst 0, (0, 0, 0, 0), 0, 0, []),
  (.istore 5, (5, 0, 0, 0), 0, 0, []),
  (.nop, (0, 0, 0, 0), 0, 0, [(0, 1), (0, 1), (0, 1), (0, 1), (0, 1), (0, 1)]),
  (.iload 5, (5, 0, 0, 0), 0, 0, []),
  (.bipush 64, (0, 0, 0, 0), 64, 0, []),
  (.if_icmp .ge 28, (46, 0, 0, 0), 0, 0, []),
  (.aload_n 0, (0, 0, 0, 0), 0, 0, []),
  (.aload_n 1, (1, 0, 0, 0), 0, 0, []),
  (.iload_n 2, (2, 0, 0, 0), 0, 0, []),
  (.iload_n 3, (3, 0, 0, 0), 0, 0, []),
  (.invokevirtual 32, (10, 4, 1, 0), 0, 0, []),
  (.ifCond .eq 18, (46, 0, 0, 0), 0, 0, []),
  (.aload_n 0, (0, 0, 0, 0), 0, 0, []),
  (.iload_n 2, (2, 0, 0, 0), 0, 0, []),
  (.iload_n 3, (3, 0, 0, 0), 0, 0, []),
  (.invokevirtual 36, (12, 3, 0, 0), 0, 0, []),
  (.iinc 4 1, (4, 0, 0, 0), 1, 0, []),
  (.iinc 5 1, (5, 0, 0, 0), 1, 0, []),
  (.goto (-29), (29, 0, 0, 0), 0, 0, []),
  (.iload 4, (4, 0, 0, 0), 0, 0, []),
  (.ireturn, (0, 0, 0, 0), 0, 0, [])]
def q_9 : List Nat := [0, 1, 2, 5, 6, 9, 11, 12, 13, 14, 17, 18, 20, 20, 22, 23, 26, 27, 30, 31, 34, 36, 37, 38, 41, 44, 45, 47, 48, 50, 50, 52, 54, 57, 58, 59, 60, 61, 64, 67, 68, 69, 70, 73, 76, 79, 82, 84, 85]
def m_9 : aMt := (yX1_fewest, cX1_fewest, 6, (some .int), 1, 4, 92, (0, 0), 3, k_9, q_9)
def k_10 : List aM := [(.iconst 0, (0, 0, 0, 0), 0, 0, []),
  (.istore 4, (4, 0, 0, 0), 0, 0, []),
  (.nop, (0, 0, 0, 0), 0, 0, [(0, 1), (0, 1), (0, 1), (0, 1), (0, 1), (0, 0), (0, 0), (0, 0), (0, 0), (0, 0)]),
  (.iload 4, (4, 0, 0, 0), 0, 0, []),
  (.sipush 128, (0, 0, 0, 0), 128, 0, []),
  (.if_icmp .ge 17, (13, 0, 0, 0), 0, 0, []),
  (.aload_n 0, (0, 0, 0, 0), 0, 0, []),
  (.getfield 11, (0, 0, 2, 0), 0, 0, []),
  (.iload 4, (4, 0, 0, 0), 0, 0, []),
  (.iconst (-1), (0, 0, 0, 0), (-1), 0, []),
  (.iastore, (0, 0, 0, 0), 0, 0, []),
  (.iinc 4 1, (4, 0, 0, 0), 1, 0, []),
  (.goto (-19), (2, 0, 0, 0), 0, 0, []),
  (.aload_n 0, (0, 0, 0, 0), 0, 0, []),
  (.iconst 0, (0, 0, 0, 0), 0, 0, []),
  (.putfield 40, (0, 2, 0, 0), 0, 0, []),
  (.aload_n 0, (0, 0, 0, 0), 0, 0, []),
  (.iconst 2, (0, 0, 0, 0), 2, 0, []),
  (.iload_n 2, (2, 0, 0, 0), 0, 0, []),
  (.imul, (0, 0, 0, 0), 0, 0, []),
  (.iconst 1, (0, 0, 0, 0), 1, 0, []),
  (.iadd, (0, 0, 0, 0), 0, 0, []),
  (.iconst 2, (0, 0, 0, 0), 2, 0, []),
  (.iload_n 2, (2, 0, 0, 0), 0, 0, []),
  (.imul, (0, 0, 0, 0), 0, 0, []),
  (.iconst 1, (0, 0, 0, 0), 1, 0, []),
  (.iadd, (0, 0, 0, 0), 0, 0, []),
  (.invokevirtual 44, (11, 3, 0, 0), 0, 0, []),
  (.iconst 0, (0, 0, 0, 0), 0, 0, []),
  (.istore 4, (4, 0, 0, 0), 0, 0, []),
  (.nop, (0, 0, 0, 0), 0, 0, [(0, 1), (0, 1), (0, 1), (0, 1), (0, 1), (0, 0), (0, 0), (0, 0), (0, 0), (0, 0)]),
  (.iload 4, (4, 0, 0, 0), 0, 0, []),
  (.sipush 128, (0, 0, 0, 0), 128, 0, []),
  (.if_icmp .ge 177, (126, 0, 0, 0), 0, 0, []),
  (.iload 4, (4, 0, 0, 0), 0, 0, []),
  (.aload_n 0, (0, 0, 0, 0), 0, 0, []),
  (.getfield 40, (0, 2, 0, 0), 0, 0, []),
  (.if_icmp .ge 168, (126, 0, 0, 0), 0, 0, []),
  (.aload_n 0, (0, 0, 0, 0), 0, 0, []),
  (.getfield 15, (0, 1, 2, 0), 0, 0, []),
  (.iload 4, (4, 0, 0, 0), 0, 0, []),
  (.iaload, (13, 0, 0, 0), 0, 0, []),
  (.istore 5, (5, 0, 0, 0), 0, 0, []),
  (.iload 5, (5, 0, 0, 0), 0, 0, []),
  (.iconst 1, (0, 0, 0, 0), 1, 0, []),
  (.ishr, (0, 0, 0, 0), 0, 0, []),
  (.istore 6, (6, 0, 0, 0), 0, 0, []),
  (.iload 5, (5, 0, 0, 0), 0, 0, []),
  (.iconst 1, (0, 0, 0, 0), 1, 0, []),
  (.iand, (0, 0, 0, 0), 0, 0, []),
  (.ifCond .eq 7, (53, 0, 0, 0), 0, 0, []),
  (.iconst 1, (0, 0, 0, 0), 1, 0, []),
  (.goto 4, (54, 0, 0, 0), 0, 0, []),
  (.iconst 0, (0, 0, 0, 0), 0, 0, []),
  (.nop, (0, 0, 0, 0), 0, 0, [(0, 1), (0, 1), (0, 1), (0, 1), (0, 1), (0, 1), (0, 1), (0, 0), (0, 0), (0, 0)]),
  (.istore 7, (7, 0, 0, 0), 0, 0, []),
  (.iload 5, (5, 0, 0, 0), 0, 0, []),
  (.iconst 2, (0, 0, 0, 0), 2, 0, []),
  (.iload_n 3, (3, 0, 0, 0), 0, 0, []),
  (.imul, (0, 0, 0, 0), 0, 0, []),
  (.if_icmp .ne 5, (63, 0, 0, 0), 0, 0, []),
  (.iconst 1, (0, 0, 0, 0), 1, 0, []),
  (.ireturn, (0, 0, 1, 0), 0, 0, []),
  (.iload 7, (7, 0, 0, 0), 0, 0, []),
  (.aload_n 0, (0, 0, 0, 0), 0, 0, []),
  (.getfield 28, (0, 4, 1, 0), 0, 0, []),
  (.iload 6, (6, 0, 0, 0), 0, 0, []),
  (.invokestatic 47, (5, 2, 1, 99), 0, 0, []),
  (.if_icmp .ne 19, (78, 0, 0, 0), 0, 0, []),
  (.iload 6, (6, 0, 0, 0), 0, 0, []),
  (.iload_n 2, (2, 0, 0, 0), 0, 0, []),
  (.if_icmp .eq 13, (78, 0, 0, 0), 0, 0, []),
  (.aload_n 0, (0, 0, 0, 0), 0, 0, []),
  (.iload 5, (5, 0, 0, 0), 0, 0, []),
  (.iconst 1, (0, 0, 0, 0), 1, 0, []),
  (.ixor, (0, 0, 0, 0), 0, 0, []),
  (.iload 5, (5, 0, 0, 0), 0, 0, []),
  (.invokevirtual 44, (11, 3, 0, 0), 0, 0, []),
  (.iconst 1, (0, 0, 0, 0), 1, 0, []),
  (.istore 8, (8, 0, 0, 0), 0, 0, []),
  (.nop, (0, 0, 0, 0), 0, 0, [(0, 1), (0, 1), (0, 1), (0, 1), (0, 1), (0, 1), (0, 1), (0, 1), (0, 1), (0, 0)]),
  (.iload 8, (8, 0, 0, 0), 0, 0, []),
  (.iconst 4, (0, 0, 0, 0), 4, 0, []),
  (.if_icmp .gt 84, (124, 0, 0, 0), 0, 0, []),
  (.iload 6, (6, 0, 0, 0), 0, 0, []),
  (.iload 8, (8, 0, 0, 0), 0, 0, []),
  (.invokestatic 51, (7, 2, 1, 99), 0, 0, []),
  (.istore 9, (9, 0, 0, 0), 0, 0, []),
  (.aload_n 1, (1, 0, 0, 0), 0, 0, []),
  (.iload 9, (9, 0, 0, 0), 0, 0, []),
  (.invokevirtual 54, (26, 2, 1, 2), 0, 0, []),
  (.ifCond .eq 60, (122, 0, 0, 0), 0, 0, []),
  (.iload 7, (7, 0, 0, 0), 0, 0, []),
  (.ifCond .eq 17, (100, 0, 0, 0), 0, 0, []),
  (.aload_n 0, (0, 0, 0, 0), 0, 0, []),
  (.iload 6, (6, 0, 0, 0), 0, 0, []),
  (.iload 8, (8, 0, 0, 0), 0, 0, []),
  (.invokevirtual 60, (14, 3, 1, 0), 0, 0, []),
  (.ifCond .ne 44, (122, 0, 0, 0), 0, 0, []),
  (.goto 17, (106, 0, 0, 0), 0, 0, []),
  (.aload_n 0, (0, 0, 0, 0), 0, 0, []),
  (.iload 9, (9, 0, 0, 0), 0, 0, []),
  (.iload 8, (8, 0, 0, 0), 0, 0, []),
  (.invokestatic 64, (15, 1, 1, 99), 0, 0, []),
  (.invokevirtual 60, (14, 3, 1, 0), 0, 0, []),
  (.ifCond .eq 27, (122, 0, 0, 0), 0, 0, []),
  (.nop, (0, 0, 0, 0), 0, 0, [(0, 1), (0, 1), (0, 1), (0, 1), (0, 1), (0, 1), (0, 1), (0, 1), (0, 1), (0, 1)]),
  (.aload_n 0, (0, 0, 0, 0), 0, 0, []),
  (.iload 7, (7, 0, 0, 0), 0, 0, []),
  (.ifCond .eq 10, (114, 0, 0, 0), 0, 0, []),
  (.iconst 2, (0, 0, 0, 0), 2, 0, []),
  (.iload 9, (9, 0, 0, 0), 0, 0, []),
  (.imul, (0, 0, 0, 0), 0, 0, []),
  (.goto 9, (119, 0, 0, 0), 0, 0, []),
  (.iconst 2, (0, 0, 0, 0), 2, 0, []),
  (.iload 9, (9, 0, 0, 0), 0, 0, []),
  (.imul, (0, 0, 0, 0), 0, 0, []),
  (.iconst 1, (0, 0, 0, 0), 1, 0, []),
  (.iadd, (0, 0, 0, 0), 0, 0, []),
  (.nop, (0, 0, 0, 0), 0, 0, [(0, 1), (0, 1), (0, 1), (0, 1), (0, 1), (0, 1), (0, 1), (0, 1), (0, 1), (0, 0)]),
  (.iload 5, (5, 0, 0, 0), 0, 0, []),
  (.invokevirtual 44, (11, 3, 0, 0), 0, 0, []),
  (.iinc 8 1, (8, 0, 0, 0), 1, 0, []),
  (.goto (-84), (80, 0, 0, 0), 0, 0, []),
  (.iinc 4 1, (4, 0, 0, 0), 1, 0, []),
  (.goto (-179), (30, 0, 0, 0), 0, 0, []),
  (.iconst 0, (0, 0, 0, 0), 0, 0, []),
  (.ireturn, (0, 0, 1, 0), 0, 0, [])]
def q_10 : List Nat := [0, 1, 3, 3, 5, 8, 11, 12, 15, 17, 18, 19, 22, 25, 26, 27, 30, 31, 32, 33, 34, 35, 36, 37, 38, 39, 40, 41, 44, 45, 47, 47, 49, 52, 55, 57, 58, 61, 64, 65, 68, 70, 71, 73, 75, 76, 77, 79, 81, 82, 83, 86, 87, 90, 91, 91, 93, 95, 96, 97, 98, 101, 102, 103, 105, 106, 109, 111, 114, 117, 119, 120, 123, 124, 126, 127, 128, 130, 133, 134, 136, 136, 138, 139, 142, 144, 146, 149, 151, 152, 154, 157, 160, 162, 165, 166, 168, 170, 173, 176, 179, 180, 182, 184, 187, 190, 193, 193, 194, 196, 199, 200, 202, 203, 206, 207, 209, 210, 211, 212, 212, 214, 217, 220, 223, 226, 229, 230, 231]
def m_10 : aMt := (yX1_findWay, cX1_findWay, 10, (some .boolean), 1, 2, 44, (0, 0), 3, k_10, q_10)
def k_11 : List aM := [(.iload_n 1, (1, 0, 0, 0), 0, 0, []),
  (.ifCond .lt 57, (32, 0, 0, 0), 0, 0, []),
  (.iload_n 1, (1, 0, 0, 0), 0, 0, []),
  (.sipush 128, (0, 0, 0, 0), 128, 0, []),
  (.if_icmp .ge 50, (32, 0, 0, 0), 0, 0, []),
  (.aload_n 0, (0, 0, 0, 0), 0, 0, []),
  (.getfield 11, (0, 0, 2, 0), 0, 0, []),
  (.iload_n 1, (1, 0, 0, 0), 0, 0, []),
  (.iaload, (13, 0, 0, 0), 0, 0, []),
  (.iconst (-1), (0, 0, 0, 0), (-1), 0, []),
  (.if_icmp .ne 40, (32, 0, 0, 0), 0, 0, []),
  (.aload_n 0, (0, 0, 0, 0), 0, 0, []),
  (.getfield 40, (0, 2, 0, 0), 0, 0, []),
  (.sipush 128, (0, 0, 0, 0), 128, 0, []),
  (.if_icmp .ge 30, (32, 0, 0, 0), 0, 0, []),
  (.aload_n 0, (0, 0, 0, 0), 0, 0, []),
  (.getfield 11, (0, 0, 2, 0), 0, 0, []),
  (.iload_n 1, (1, 0, 0, 0), 0, 0, []),
  (.iload_n 2, (2, 0, 0, 0), 0, 0, []),
  (.iastore, (0, 0, 0, 0), 0, 0, []),
  (.aload_n 0, (0, 0, 0, 0), 0, 0, []),
  (.getfield 15, (0, 1, 2, 0), 0, 0, []),
  (.aload_n 0, (0, 0, 0, 0), 0, 0, []),
  (.getfield 40, (0, 2, 0, 0), 0, 0, []),
  (.iload_n 1, (1, 0, 0, 0), 0, 0, []),
  (.iastore, (0, 0, 0, 0), 0, 0, []),
  (.aload_n 0, (0, 0, 0, 0), 0, 0, []),
  (.dup, (0, 0, 0, 0), 0, 0, []),
  (.getfield 40, (0, 2, 0, 0), 0, 0, []),
  (.iconst 1, (0, 0, 0, 0), 1, 0, []),
  (.iadd, (0, 0, 0, 0), 0, 0, []),
  (.putfield 40, (0, 2, 0, 0), 0, 0, []),
  (.return_, (0, 0, 0, 0), 0, 0, [])]
def q_11 : List Nat := [0, 1, 4, 5, 8, 11, 12, 15, 16, 17, 18, 21, 22, 25, 28, 31, 32, 35, 36, 37, 38, 39, 42, 43, 46, 47, 48, 49, 50, 53, 54, 55, 58, 59]
def m_11 : aMt := (yX1_reach, cX1_reach, 3, none, 1, 0, 0, (0, 0), 2, k_11, q_11)
def k_12 : List aM := [(.iconst 2, (0, 0, 0, 0), 2, 0, []),
  (.iload_n 2, (2, 0, 0, 0), 0, 0, []),
  (.imul, (0, 0, 0, 0), 0, 0, []),
  (.istore_n 3, (3, 0, 0, 0), 0, 0, []),
  (.iconst 0, (0, 0, 0, 0), 0, 0, []),
  (.istore 4, (4, 0, 0, 0), 0, 0, []),
  (.nop, (0, 0, 0, 0), 0, 0, [(0, 1), (0, 1), (0, 0), (0, 1), (0, 1), (0, 0)]),
  (.iload 4, (4, 0, 0, 0), 0, 0, []),
  (.sipush 128, (0, 0, 0, 0), 128, 0, []),
  (.if_icmp .ge 58, (42, 0, 0, 0), 0, 0, []),
  (.iload_n 3, (3, 0, 0, 0), 0, 0, []),
  (.iconst 2, (0, 0, 0, 0), 2, 0, []),
  (.iload_n 1, (1, 0, 0, 0), 0, 0, []),
  (.imul, (0, 0, 0, 0), 0, 0, []),
  (.iconst 1, (0, 0, 0, 0), 1, 0, []),
  (.iadd, (0, 0, 0, 0), 0, 0, []),
  (.if_icmp .eq 49, (42, 0, 0, 0), 0, 0, []),
  (.iload_n 3, (3, 0, 0, 0), 0, 0, []),
  (.ifCond .lt 19, (27, 0, 0, 0), 0, 0, []),
  (.iload_n 3, (3, 0, 0, 0), 0, 0, []),
  (.sipush 128, (0, 0, 0, 0), 128, 0, []),
  (.if_icmp .ge 12, (27, 0, 0, 0), 0, 0, []),
  (.aload_n 0, (0, 0, 0, 0), 0, 0, []),
  (.getfield 11, (0, 0, 2, 0), 0, 0, []),
  (.iload_n 3, (3, 0, 0, 0), 0, 0, []),
  (.iaload, (13, 0, 0, 0), 0, 0, []),
  (.goto 4, (28, 0, 0, 0), 0, 0, []),
  (.iconst (-1), (0, 0, 0, 0), (-1), 0, []),
  (.nop, (0, 0, 0, 0), 0, 0, [(0, 1), (0, 1), (0, 0), (0, 1), (0, 1), (0, 0)]),
  (.istore 5, (5, 0, 0, 0), 0, 0, []),
  (.iload 5, (5, 0, 0, 0), 0, 0, []),
  (.iconst (-1), (0, 0, 0, 0), (-1), 0, []),
  (.if_icmp .ne 4, (34, 0, 0, 0), 0, 0, []),
  (.return_, (0, 0, 0, 0), 0, 0, []),
  (.aload_n 0, (0, 0, 0, 0), 0, 0, []),
  (.iload 5, (5, 0, 0, 0), 0, 0, []),
  (.iload_n 3, (3, 0, 0, 0), 0, 0, []),
  (.invokevirtual 68, (13, 3, 0, 0), 0, 0, []),
  (.iload 5, (5, 0, 0, 0), 0, 0, []),
  (.istore_n 3, (3, 0, 0, 0), 0, 0, []),
  (.iinc 4 1, (4, 0, 0, 0), 1, 0, []),
  (.goto (-60), (6, 0, 0, 0), 0, 0, []),
  (.return_, (0, 0, 0, 0), 0, 0, [])]
def q_12 : List Nat := [0, 1, 2, 3, 4, 5, 7, 7, 9, 12, 15, 16, 17, 18, 19, 20, 21, 24, 25, 28, 29, 32, 35, 36, 39, 40, 41, 44, 45, 45, 47, 49, 50, 53, 54, 55, 57, 58, 61, 63, 64, 67, 70, 71]
def m_12 : aMt := (yX1_takeWay, cX1_takeWay, 6, none, 1, 3, 67, (0, 0), 2, k_12, q_12)
def k_13 : List aM := [(.iload_n 1, (1, 0, 0, 0), 0, 0, []),
  (.iconst 1, (0, 0, 0, 0), 1, 0, []),
  (.ishr, (0, 0, 0, 0), 0, 0, []),
  (.istore_n 3, (3, 0, 0, 0), 0, 0, []),
  (.iload_n 2, (2, 0, 0, 0), 0, 0, []),
  (.iconst 1, (0, 0, 0, 0), 1, 0, []),
  (.ishr, (0, 0, 0, 0), 0, 0, []),
  (.istore 4, (4, 0, 0, 0), 0, 0, []),
  (.iload_n 3, (3, 0, 0, 0), 0, 0, []),
  (.iload 4, (4, 0, 0, 0), 0, 0, []),
  (.if_icmp .ne 16, (20, 0, 0, 0), 0, 0, []),
  (.aload_n 0, (0, 0, 0, 0), 0, 0, []),
  (.dup, (0, 0, 0, 0), 0, 0, []),
  (.getfield 28, (0, 4, 1, 0), 0, 0, []),
  (.lconst 1, (0, 0, 0, 0), 0, 1, []),
  (.iload_n 3, (3, 0, 0, 0), 0, 0, []),
  (.lshl, (0, 0, 0, 0), 0, 0, []),
  (.lxor, (0, 0, 0, 0), 0, 0, []),
  (.putfield 28, (0, 4, 1, 0), 0, 0, []),
  (.return_, (0, 0, 0, 0), 0, 0, []),
  (.iload_n 1, (1, 0, 0, 0), 0, 0, []),
  (.iconst 1, (0, 0, 0, 0), 1, 0, []),
  (.iand, (0, 0, 0, 0), 0, 0, []),
  (.ifCond .eq 7, (26, 0, 0, 0), 0, 0, []),
  (.iconst 1, (0, 0, 0, 0), 1, 0, []),
  (.goto 4, (27, 0, 0, 0), 0, 0, []),
  (.iconst 0, (0, 0, 0, 0), 0, 0, []),
  (.istore 5, (5, 0, 0, 0), 0, 0, []),
  (.iconst 1, (0, 0, 0, 0), 1, 0, []),
  (.istore 6, (6, 0, 0, 0), 0, 0, []),
  (.nop, (0, 0, 0, 0), 0, 0, [(0, 1), (0, 0), (0, 0), (0, 1), (0, 1), (0, 1), (0, 1)]),
  (.iload 6, (6, 0, 0, 0), 0, 0, []),
  (.iconst 4, (0, 0, 0, 0), 4, 0, []),
  (.if_icmp .gt 62, (67, 0, 0, 0), 0, 0, []),
  (.iload_n 3, (3, 0, 0, 0), 0, 0, []),
  (.iload 6, (6, 0, 0, 0), 0, 0, []),
  (.invokestatic 51, (7, 2, 1, 99), 0, 0, []),
  (.iload 4, (4, 0, 0, 0), 0, 0, []),
  (.if_icmp .ne 45, (65, 0, 0, 0), 0, 0, []),
  (.iload 5, (5, 0, 0, 0), 0, 0, []),
  (.ifCond .eq 19, (52, 0, 0, 0), 0, 0, []),
  (.aload_n 0, (0, 0, 0, 0), 0, 0, []),
  (.getfield 18, (0, 3, 2, 0), 0, 0, []),
  (.iload 6, (6, 0, 0, 0), 0, 0, []),
  (.dup2, (0, 0, 0, 0), 0, 0, []),
  (.laload, (0, 0, 0, 0), 0, 0, []),
  (.lconst 1, (0, 0, 0, 0), 0, 1, []),
  (.iload_n 3, (3, 0, 0, 0), 0, 0, []),
  (.lshl, (0, 0, 0, 0), 0, 0, []),
  (.lor, (0, 0, 0, 0), 0, 0, []),
  (.lastore, (0, 0, 0, 0), 0, 0, []),
  (.goto 24, (65, 0, 0, 0), 0, 0, []),
  (.aload_n 0, (0, 0, 0, 0), 0, 0, []),
  (.getfield 18, (0, 3, 2, 0), 0, 0, []),
  (.iload 6, (6, 0, 0, 0), 0, 0, []),
  (.invokestatic 64, (15, 1, 1, 99), 0, 0, []),
  (.dup2, (0, 0, 0, 0), 0, 0, []),
  (.laload, (0, 0, 0, 0), 0, 0, []),
  (.lconst 1, (0, 0, 0, 0), 0, 1, []),
  (.iload 4, (4, 0, 0, 0), 0, 0, []),
  (.lshl, (0, 0, 0, 0), 0, 0, []),
  (.ldc2_w 71, (0, 0, 0, 0), 0, (-1), []),
  (.lxor, (0, 0, 0, 0), 0, 0, []),
  (.land, (0, 0, 0, 0), 0, 0, []),
  (.lastore, (0, 0, 0, 0), 0, 0, []),
  (.iinc 6 1, (6, 0, 0, 0), 1, 0, []),
  (.goto (-62), (30, 0, 0, 0), 0, 0, []),
  (.return_, (0, 0, 0, 0), 0, 0, [])]
def q_13 : List Nat := [0, 1, 2, 3, 4, 5, 6, 7, 9, 10, 12, 15, 16, 17, 20, 21, 22, 23, 24, 27, 28, 29, 30, 31, 34, 35, 38, 39, 41, 42, 44, 44, 46, 47, 50, 51, 53, 56, 58, 61, 63, 66, 67, 70, 72, 73, 74, 75, 76, 77, 78, 79, 82, 83, 86, 88, 91, 92, 93, 94, 96, 97, 100, 101, 102, 103, 106, 109, 110]
def m_13 : aMt := (yX1_turn, cX1_turn, 7, none, 1, 2, 41, (0, 0), 2, k_13, q_13)
def k_14 : List aM := [(.iload_n 2, (2, 0, 0, 0), 0, 0, []),
  (.ifCond .lt 29, (16, 0, 0, 0), 0, 0, []),
  (.iload_n 2, (2, 0, 0, 0), 0, 0, []),
  (.aload_n 0, (0, 0, 0, 0), 0, 0, []),
  (.getfield 18, (0, 3, 2, 0), 0, 0, []),
  (.arraylength, (13, 0, 0, 0), 0, 0, []),
  (.if_icmp .ge 20, (16, 0, 0, 0), 0, 0, []),
  (.aload_n 0, (0, 0, 0, 0), 0, 0, []),
  (.getfield 18, (0, 3, 2, 0), 0, 0, []),
  (.iload_n 2, (2, 0, 0, 0), 0, 0, []),
  (.laload, (0, 0, 0, 0), 0, 0, []),
  (.iload_n 1, (1, 0, 0, 0), 0, 0, []),
  (.invokestatic 47, (5, 2, 1, 99), 0, 0, []),
  (.ifCond .eq 7, (16, 0, 0, 0), 0, 0, []),
  (.iconst 1, (0, 0, 0, 0), 1, 0, []),
  (.goto 4, (17, 0, 0, 0), 0, 0, []),
  (.iconst 0, (0, 0, 0, 0), 0, 0, []),
  (.ireturn, (0, 0, 1, 0), 0, 0, [])]
def q_14 : List Nat := [0, 1, 4, 5, 6, 9, 10, 13, 14, 17, 18, 19, 20, 23, 26, 27, 30, 31, 32]
def m_14 : aMt := (yX1_flows, cX1_flows, 3, (some .boolean), 1, 1, 22, (0, 0), 2, k_14, q_14)
def k_15 : List aM := [(.iload_n 0, (0, 0, 0, 0), 0, 0, []),
  (.iconst 2, (0, 0, 0, 0), 2, 0, []),
  (.if_icmp .gt 9, (7, 0, 0, 0), 0, 0, []),
  (.iload_n 0, (0, 0, 0, 0), 0, 0, []),
  (.iconst 2, (0, 0, 0, 0), 2, 0, []),
  (.iadd, (0, 0, 0, 0), 0, 0, []),
  (.goto 6, (10, 0, 0, 0), 0, 0, []),
  (.iload_n 0, (0, 0, 0, 0), 0, 0, []),
  (.iconst 2, (0, 0, 0, 0), 2, 0, []),
  (.isub, (0, 0, 0, 0), 0, 0, []),
  (.ireturn, (0, 0, 0, 0), 0, 0, [])]
def q_15 : List Nat := [0, 1, 2, 5, 6, 7, 8, 11, 12, 13, 14, 15]
def m_15 : aMt := (yX1_opposite, cX1_opposite, 1, (some .int), 1, 0, 0, (0, 0), 1, k_15, q_15)
def k_16 : List aM := [(.aload_n 0, (0, 0, 0, 0), 0, 0, []),
  (.invokespecial 3, (0, 0, 9, 0), 0, 0, []),
  (.aload_n 0, (0, 0, 0, 0), 0, 0, []),
  (.bipush 16, (0, 0, 0, 0), 16, 0, []),
  (.anewarray 11, (0, 0, 0, 0), 0, 0, []),
  (.putfield 13, (1, 0, 2, 0), 0, 0, []),
  (.aload_n 0, (0, 0, 0, 0), 0, 0, []),
  (.iconst 3, (0, 0, 0, 0), 3, 0, []),
  (.anewarray 11, (0, 0, 0, 0), 0, 0, []),
  (.putfield 17, (1, 1, 2, 0), 0, 0, []),
  (.iconst 0, (0, 0, 0, 0), 0, 0, []),
  (.istore_n 1, (1, 0, 0, 0), 0, 0, []),
  (.nop, (0, 0, 0, 0), 0, 0, [(0, 1), (0, 1)]),
  (.iload_n 1, (1, 0, 0, 0), 0, 0, []),
  (.bipush 16, (0, 0, 0, 0), 16, 0, []),
  (.if_icmp .ge 22, (25, 0, 0, 0), 0, 0, []),
  (.aload_n 0, (0, 0, 0, 0), 0, 0, []),
  (.getfield 13, (1, 0, 2, 0), 0, 0, []),
  (.iload_n 1, (1, 0, 0, 0), 0, 0, []),
  (.new 11, (8, 7, 0, 0), 0, 0, []),
  (.dup, (0, 0, 0, 0), 0, 0, []),
  (.invokespecial 20, (93, 1, 0, 99), 0, 0, [(0, 3), (0, 12)]),
  (.aastore, (0, 0, 0, 0), 0, 0, []),
  (.iinc 1 1, (1, 0, 0, 0), 1, 0, []),
  (.goto (-22), (12, 0, 0, 0), 0, 0, []),
  (.iconst 0, (0, 0, 0, 0), 0, 0, []),
  (.istore_n 1, (1, 0, 0, 0), 0, 0, []),
  (.nop, (0, 0, 0, 0), 0, 0, [(0, 1), (0, 1)]),
  (.iload_n 1, (1, 0, 0, 0), 0, 0, []),
  (.iconst 3, (0, 0, 0, 0), 3, 0, []),
  (.if_icmp .ge 22, (40, 0, 0, 0), 0, 0, []),
  (.aload_n 0, (0, 0, 0, 0), 0, 0, []),
  (.getfield 17, (1, 1, 2, 0), 0, 0, []),
  (.iload_n 1, (1, 0, 0, 0), 0, 0, []),
  (.new 11, (8, 7, 0, 0), 0, 0, []),
  (.dup, (0, 0, 0, 0), 0, 0, []),
  (.invokespecial 20, (93, 1, 0, 99), 0, 0, [(0, 3), (0, 12)]),
  (.aastore, (0, 0, 0, 0), 0, 0, []),
  (.iinc 1 1, (1, 0, 0, 0), 1, 0, []),
  (.goto (-21), (27, 0, 0, 0), 0, 0, []),
  (.return_, (0, 0, 0, 0), 0, 0, [])]
def q_16 : List Nat := [0, 1, 4, 5, 7, 10, 13, 14, 15, 18, 21, 22, 23, 23, 24, 26, 29, 30, 33, 34, 37, 38, 41, 42, 45, 48, 49, 50, 50, 51, 52, 55, 56, 59, 60, 63, 64, 67, 68, 71, 74, 75]
def m_16 : aMt := (yX2_init, cX2_init, 2, none, 2, 2, 40, (78, 380), 0, k_16, q_16)
def k_17 : List aM := [(.aload_n 0, (0, 0, 0, 0), 0, 0, []),
  (.iconst 0, (0, 0, 0, 0), 0, 0, []),
  (.putfield 21, (1, 3, 0, 0), 0, 0, []),
  (.aload_n 0, (0, 0, 0, 0), 0, 0, []),
  (.iconst 0, (0, 0, 0, 0), 0, 0, []),
  (.putfield 25, (1, 4, 0, 0), 0, 0, []),
  (.return_, (0, 0, 0, 0), 0, 0, [])]
def q_17 : List Nat := [0, 1, 2, 5, 6, 7, 10, 11]
def m_17 : aMt := (yX2_clear, cX2_clear, 1, none, 2, 0, 0, (0, 0), 0, k_17, q_17)
def k_18 : List aM := [(.aload_n 0, (0, 0, 0, 0), 0, 0, []),
  (.getfield 13, (1, 0, 2, 0), 0, 0, []),
  (.aload_n 0, (0, 0, 0, 0), 0, 0, []),
  (.getfield 28, (1, 2, 0, 0), 0, 0, []),
  (.bipush 15, (0, 0, 0, 0), 15, 0, []),
  (.iand, (0, 0, 0, 0), 0, 0, []),
  (.aaload, (0, 0, 0, 0), 0, 0, []),
  (.aload_n 1, (1, 0, 0, 0), 0, 0, []),
  (.invokevirtual 31, (95, 2, 0, 8), 0, 0, []),
  (.aload_n 0, (0, 0, 0, 0), 0, 0, []),
  (.aload_n 0, (0, 0, 0, 0), 0, 0, []),
  (.getfield 28, (1, 2, 0, 0), 0, 0, []),
  (.iconst 1, (0, 0, 0, 0), 1, 0, []),
  (.iadd, (0, 0, 0, 0), 0, 0, []),
  (.bipush 15, (0, 0, 0, 0), 15, 0, []),
  (.iand, (0, 0, 0, 0), 0, 0, []),
  (.putfield 28, (1, 2, 0, 0), 0, 0, []),
  (.aload_n 0, (0, 0, 0, 0), 0, 0, []),
  (.bipush 16, (0, 0, 0, 0), 16, 0, []),
  (.aload_n 0, (0, 0, 0, 0), 0, 0, []),
  (.getfield 21, (1, 3, 0, 0), 0, 0, []),
  (.iconst 1, (0, 0, 0, 0), 1, 0, []),
  (.iadd, (0, 0, 0, 0), 0, 0, []),
  (.invokestatic 35, (902, 2, 1, 99), 0, 0, []),
  (.putfield 21, (1, 3, 0, 0), 0, 0, []),
  (.return_, (0, 0, 0, 0), 0, 0, [])]
def q_18 : List Nat := [0, 1, 4, 5, 8, 10, 11, 12, 13, 16, 17, 18, 21, 22, 23, 25, 26, 29, 30, 32, 33, 36, 37, 38, 41, 44, 45]
def m_18 : aMt := (yX2_keep, cX2_keep, 2, none, 2, 1, 22, (0, 0), 1, k_18, q_18)
def k_19 : List aM := [(.aload_n 0, (0, 0, 0, 0), 0, 0, []),
  (.getfield 21, (1, 3, 0, 0), 0, 0, []),
  (.ifCond .ne 5, (5, 0, 0, 0), 0, 0, []),
  (.iconst 0, (0, 0, 0, 0), 0, 0, []),
  (.ireturn, (0, 0, 1, 0), 0, 0, []),
  (.aload_n 0, (0, 0, 0, 0), 0, 0, []),
  (.aload_n 0, (0, 0, 0, 0), 0, 0, []),
  (.getfield 28, (1, 2, 0, 0), 0, 0, []),
  (.bipush 16, (0, 0, 0, 0), 16, 0, []),
  (.iadd, (0, 0, 0, 0), 0, 0, []),
  (.iconst 1, (0, 0, 0, 0), 1, 0, []),
  (.isub, (0, 0, 0, 0), 0, 0, []),
  (.bipush 15, (0, 0, 0, 0), 15, 0, []),
  (.iand, (0, 0, 0, 0), 0, 0, []),
  (.putfield 28, (1, 2, 0, 0), 0, 0, []),
  (.aload_n 0, (0, 0, 0, 0), 0, 0, []),
  (.dup, (0, 0, 0, 0), 0, 0, []),
  (.getfield 21, (1, 3, 0, 0), 0, 0, []),
  (.iconst 1, (0, 0, 0, 0), 1, 0, []),
  (.isub, (0, 0, 0, 0), 0, 0, []),
  (.putfield 21, (1, 3, 0, 0), 0, 0, []),
  (.aload_n 1, (1, 0, 0, 0), 0, 0, []),
  (.aload_n 0, (0, 0, 0, 0), 0, 0, []),
  (.getfield 13, (1, 0, 2, 0), 0, 0, []),
  (.aload_n 0, (0, 0, 0, 0), 0, 0, []),
  (.getfield 28, (1, 2, 0, 0), 0, 0, []),
  (.bipush 15, (0, 0, 0, 0), 15, 0, []),
  (.iand, (0, 0, 0, 0), 0, 0, []),
  (.aaload, (0, 0, 0, 0), 0, 0, []),
  (.invokevirtual 31, (95, 2, 0, 8), 0, 0, []),
  (.iconst 1, (0, 0, 0, 0), 1, 0, []),
  (.ireturn, (0, 0, 1, 0), 0, 0, [])]
def q_19 : List Nat := [0, 1, 4, 7, 8, 9, 10, 11, 14, 16, 17, 18, 19, 21, 22, 25, 26, 27, 30, 31, 32, 35, 36, 37, 40, 41, 44, 46, 47, 48, 51, 52, 53]
def m_19 : aMt := (yX2_takeBack, cX2_takeBack, 2, (some .boolean), 2, 1, 22, (0, 0), 1, k_19, q_19)
def k_20 : List aM := [(.aload_n 0, (0, 0, 0, 0), 0, 0, []),
  (.getfield 25, (1, 4, 0, 0), 0, 0, []),
  (.iconst 3, (0, 0, 0, 0), 3, 0, []),
  (.if_icmp .lt 5, (6, 0, 0, 0), 0, 0, []),
  (.iconst (-1), (0, 0, 0, 0), (-1), 0, []),
  (.ireturn, (0, 0, 0, 0), 0, 0, []),
  (.aload_n 0, (0, 0, 0, 0), 0, 0, []),
  (.getfield 17, (1, 1, 2, 0), 0, 0, []),
  (.aload_n 0, (0, 0, 0, 0), 0, 0, []),
  (.getfield 25, (1, 4, 0, 0), 0, 0, []),
  (.aaload, (0, 0, 0, 0), 0, 0, []),
  (.aload_n 1, (1, 0, 0, 0), 0, 0, []),
  (.invokevirtual 31, (95, 2, 0, 8), 0, 0, []),
  (.aload_n 0, (0, 0, 0, 0), 0, 0, []),
  (.dup, (0, 0, 0, 0), 0, 0, []),
  (.getfield 25, (1, 4, 0, 0), 0, 0, []),
  (.iconst 1, (0, 0, 0, 0), 1, 0, []),
  (.iadd, (0, 0, 0, 0), 0, 0, []),
  (.putfield 25, (1, 4, 0, 0), 0, 0, []),
  (.aload_n 0, (0, 0, 0, 0), 0, 0, []),
  (.getfield 25, (1, 4, 0, 0), 0, 0, []),
  (.iconst 1, (0, 0, 0, 0), 1, 0, []),
  (.isub, (0, 0, 0, 0), 0, 0, []),
  (.ireturn, (0, 0, 0, 0), 0, 0, [])]
def q_20 : List Nat := [0, 1, 4, 5, 8, 9, 10, 11, 14, 15, 18, 19, 20, 23, 24, 25, 28, 29, 30, 33, 34, 37, 38, 39, 40]
def m_20 : aMt := (yX2_keepImage, cX2_keepImage, 2, (some .int), 2, 1, 22, (0, 0), 1, k_20, q_20)
def k_21 : List aM := [(.iload_n 1, (1, 0, 0, 0), 0, 0, []),
  (.ifCond .lt 16, (9, 0, 0, 0), 0, 0, []),
  (.iload_n 1, (1, 0, 0, 0), 0, 0, []),
  (.aload_n 0, (0, 0, 0, 0), 0, 0, []),
  (.getfield 25, (1, 4, 0, 0), 0, 0, []),
  (.if_icmp .ge 8, (9, 0, 0, 0), 0, 0, []),
  (.iload_n 1, (1, 0, 0, 0), 0, 0, []),
  (.iconst 3, (0, 0, 0, 0), 3, 0, []),
  (.if_icmp .lt 5, (11, 0, 0, 0), 0, 0, []),
  (.iconst 0, (0, 0, 0, 0), 0, 0, []),
  (.ireturn, (0, 0, 1, 0), 0, 0, []),
  (.aload_n 2, (2, 0, 0, 0), 0, 0, []),
  (.aload_n 0, (0, 0, 0, 0), 0, 0, []),
  (.getfield 17, (1, 1, 2, 0), 0, 0, []),
  (.iload_n 1, (1, 0, 0, 0), 0, 0, []),
  (.aaload, (0, 0, 0, 0), 0, 0, []),
  (.invokevirtual 31, (95, 2, 0, 8), 0, 0, []),
  (.aload_n 0, (0, 0, 0, 0), 0, 0, []),
  (.iconst 0, (0, 0, 0, 0), 0, 0, []),
  (.putfield 21, (1, 3, 0, 0), 0, 0, []),
  (.iconst 1, (0, 0, 0, 0), 1, 0, []),
  (.ireturn, (0, 0, 1, 0), 0, 0, [])]
def q_21 : List Nat := [0, 1, 4, 5, 6, 9, 12, 13, 14, 17, 18, 19, 20, 21, 24, 25, 26, 29, 30, 31, 34, 35, 36]
def m_21 : aMt := (yX2_goTo, cX2_goTo, 3, (some .boolean), 2, 1, 22, (0, 0), 2, k_21, q_21)
def k_22 : List aM := [(.aload_n 0, (0, 0, 0, 0), 0, 0, []),
  (.invokespecial 1, (0, 0, 9, 0), 0, 0, []),
  (.aload_n 0, (0, 0, 0, 0), 0, 0, []),
  (.bipush 64, (0, 0, 0, 0), 64, 0, []),
  (.newarray .int, (13, 0, 0, 0), 0, 0, []),
  (.putfield 9, (2, 11, 2, 0), 0, 0, []),
  (.aload_n 0, (0, 0, 0, 0), 0, 0, []),
  (.iconst 4, (0, 0, 0, 0), 4, 0, []),
  (.newarray .int, (13, 0, 0, 0), 0, 0, []),
  (.putfield 15, (2, 12, 2, 0), 0, 0, []),
  (.aload_n 0, (0, 0, 0, 0), 0, 0, []),
  (.iconst 4, (0, 0, 0, 0), 4, 0, []),
  (.newarray .int, (13, 0, 0, 0), 0, 0, []),
  (.putfield 18, (2, 13, 2, 0), 0, 0, []),
  (.aload_n 0, (0, 0, 0, 0), 0, 0, []),
  (.iconst 4, (0, 0, 0, 0), 4, 0, []),
  (.newarray .int, (13, 0, 0, 0), 0, 0, []),
  (.putfield 21, (2, 14, 2, 0), 0, 0, []),
  (.aload_n 0, (0, 0, 0, 0), 0, 0, []),
  (.bipush 36, (0, 0, 0, 0), 36, 0, []),
  (.newarray .int, (13, 0, 0, 0), 0, 0, []),
  (.putfield 24, (2, 15, 2, 0), 0, 0, []),
  (.aload_n 0, (0, 0, 0, 0), 0, 0, []),
  (.bipush 6, (0, 0, 0, 0), 6, 0, []),
  (.newarray .int, (13, 0, 0, 0), 0, 0, []),
  (.putfield 27, (2, 16, 2, 0), 0, 0, []),
  (.aload_n 0, (0, 0, 0, 0), 0, 0, []),
  (.bipush 6, (0, 0, 0, 0), 6, 0, []),
  (.newarray .int, (13, 0, 0, 0), 0, 0, []),
  (.putfield 30, (2, 17, 2, 0), 0, 0, []),
  (.aload_n 0, (0, 0, 0, 0), 0, 0, []),
  (.bipush 6, (0, 0, 0, 0), 6, 0, []),
  (.newarray .int, (13, 0, 0, 0), 0, 0, []),
  (.putfield 33, (2, 18, 2, 0), 0, 0, []),
  (.return_, (0, 0, 0, 0), 0, 0, [])]
def q_22 : List Nat := [0, 1, 4, 5, 7, 9, 12, 13, 14, 16, 19, 20, 21, 23, 26, 27, 28, 30, 33, 34, 36, 38, 41, 42, 44, 46, 49, 50, 52, 54, 57, 58, 60, 62, 65, 66]
def m_22 : aMt := (yX3_init, cX3_init, 1, none, 3, 1, 20, (8, 130), 0, k_22, q_22)
def k_23 : List aM := [(.aload_n 0, (0, 0, 0, 0), 0, 0, []),
  (.iconst 0, (0, 0, 0, 0), 0, 0, []),
  (.putfield 36, (2, 0, 0, 0), 0, 0, []),
  (.aload_n 0, (0, 0, 0, 0), 0, 0, []),
  (.iconst 0, (0, 0, 0, 0), 0, 0, []),
  (.putfield 40, (2, 1, 0, 0), 0, 0, []),
  (.aload_n 0, (0, 0, 0, 0), 0, 0, []),
  (.iconst 0, (0, 0, 0, 0), 0, 0, []),
  (.putfield 43, (2, 2, 0, 0), 0, 0, []),
  (.aload_n 0, (0, 0, 0, 0), 0, 0, []),
  (.iconst 0, (0, 0, 0, 0), 0, 0, []),
  (.putfield 46, (2, 3, 0, 0), 0, 0, []),
  (.aload_n 0, (0, 0, 0, 0), 0, 0, []),
  (.iconst 0, (0, 0, 0, 0), 0, 0, []),
  (.putfield 49, (2, 4, 0, 0), 0, 0, []),
  (.aload_n 0, (0, 0, 0, 0), 0, 0, []),
  (.iconst 0, (0, 0, 0, 0), 0, 0, []),
  (.putfield 52, (2, 5, 0, 0), 0, 0, []),
  (.aload_n 0, (0, 0, 0, 0), 0, 0, []),
  (.iconst 0, (0, 0, 0, 0), 0, 0, []),
  (.putfield 55, (2, 6, 0, 0), 0, 0, []),
  (.aload_n 0, (0, 0, 0, 0), 0, 0, []),
  (.iconst 0, (0, 0, 0, 0), 0, 0, []),
  (.putfield 58, (2, 7, 0, 0), 0, 0, []),
  (.aload_n 0, (0, 0, 0, 0), 0, 0, []),
  (.iconst 0, (0, 0, 0, 0), 0, 0, []),
  (.putfield 61, (2, 8, 0, 0), 0, 0, []),
  (.aload_n 0, (0, 0, 0, 0), 0, 0, []),
  (.iconst 0, (0, 0, 0, 0), 0, 0, []),
  (.putfield 64, (2, 9, 0, 0), 0, 0, []),
  (.aload_n 0, (0, 0, 0, 0), 0, 0, []),
  (.lconst 0, (0, 0, 0, 0), 0, 0, []),
  (.putfield 67, (2, 10, 1, 0), 0, 0, []),
  (.iconst 0, (0, 0, 0, 0), 0, 0, []),
  (.istore_n 1, (1, 0, 0, 0), 0, 0, []),
  (.nop, (0, 0, 0, 0), 0, 0, [(0, 1), (0, 1)]),
  (.iload_n 1, (1, 0, 0, 0), 0, 0, []),
  (.aload_n 0, (0, 0, 0, 0), 0, 0, []),
  (.getfield 9, (2, 11, 2, 0), 0, 0, []),
  (.arraylength, (13, 0, 0, 0), 0, 0, []),
  (.if_icmp .ge 16, (48, 0, 0, 0), 0, 0, []),
  (.aload_n 0, (0, 0, 0, 0), 0, 0, []),
  (.getfield 9, (2, 11, 2, 0), 0, 0, []),
  (.iload_n 1, (1, 0, 0, 0), 0, 0, []),
  (.iconst 3, (0, 0, 0, 0), 3, 0, []),
  (.iastore, (0, 0, 0, 0), 0, 0, []),
  (.iinc 1 1, (1, 0, 0, 0), 1, 0, []),
  (.goto (-19), (35, 0, 0, 0), 0, 0, []),
  (.return_, (0, 0, 0, 0), 0, 0, [])]
def q_23 : List Nat := [0, 1, 2, 5, 6, 7, 10, 11, 12, 15, 16, 17, 20, 21, 22, 25, 26, 27, 30, 31, 32, 35, 36, 37, 40, 41, 42, 45, 46, 47, 50, 51, 52, 55, 56, 57, 57, 58, 59, 62, 63, 66, 67, 70, 71, 72, 73, 76, 79, 80]
def m_23 : aMt := (yX3_clear, cX3_clear, 2, none, 3, 0, 0, (0, 0), 0, k_23, q_23)
def k_24 : List aM := [(.iload_n 1, (1, 0, 0, 0), 0, 0, []),
  (.ifCond .lt 27, (14, 0, 0, 0), 0, 0, []),
  (.iload_n 1, (1, 0, 0, 0), 0, 0, []),
  (.aload_n 0, (0, 0, 0, 0), 0, 0, []),
  (.getfield 49, (2, 4, 0, 0), 0, 0, []),
  (.if_icmp .ge 19, (14, 0, 0, 0), 0, 0, []),
  (.iload_n 2, (2, 0, 0, 0), 0, 0, []),
  (.ifCond .lt 15, (14, 0, 0, 0), 0, 0, []),
  (.iload_n 2, (2, 0, 0, 0), 0, 0, []),
  (.aload_n 0, (0, 0, 0, 0), 0, 0, []),
  (.getfield 52, (2, 5, 0, 0), 0, 0, []),
  (.if_icmp .ge 7, (14, 0, 0, 0), 0, 0, []),
  (.iconst 1, (0, 0, 0, 0), 1, 0, []),
  (.goto 4, (15, 0, 0, 0), 0, 0, []),
  (.iconst 0, (0, 0, 0, 0), 0, 0, []),
  (.ireturn, (0, 0, 1, 0), 0, 0, [])]
def q_24 : List Nat := [0, 1, 4, 5, 6, 9, 12, 13, 16, 17, 18, 21, 24, 25, 28, 29, 30]
def m_24 : aMt := (yX3_holds, cX3_holds, 3, (some .boolean), 3, 0, 0, (0, 0), 2, k_24, q_24)
def k_25 : List aM := [(.iload_n 1, (1, 0, 0, 0), 0, 0, []),
  (.invokestatic 71, (6, 1, 1, 99), 0, 0, []),
  (.ifCond .eq 12, (8, 0, 0, 0), 0, 0, []),
  (.aload_n 0, (0, 0, 0, 0), 0, 0, []),
  (.getfield 9, (2, 11, 2, 0), 0, 0, []),
  (.iload_n 1, (1, 0, 0, 0), 0, 0, []),
  (.iaload, (13, 0, 0, 0), 0, 0, []),
  (.goto 4, (9, 0, 0, 0), 0, 0, []),
  (.iconst 3, (0, 0, 0, 0), 3, 0, []),
  (.ireturn, (0, 0, 0, 0), 0, 0, [])]
def q_25 : List Nat := [0, 1, 4, 7, 8, 11, 12, 13, 16, 17, 18]
def m_25 : aMt := (yX3_soilAt, cX3_soilAt, 2, (some .int), 3, 1, 20, (0, 0), 1, k_25, q_25)
def k_26 : List aM := [(.iload_n 1, (1, 0, 0, 0), 0, 0, []),
  (.invokestatic 71, (6, 1, 1, 99), 0, 0, []),
  (.ifCond .eq 18, (10, 0, 0, 0), 0, 0, []),
  (.aload_n 0, (0, 0, 0, 0), 0, 0, []),
  (.getfield 67, (2, 10, 1, 0), 0, 0, []),
  (.iload_n 1, (1, 0, 0, 0), 0, 0, []),
  (.invokestatic 75, (5, 2, 1, 99), 0, 0, []),
  (.ifCond .eq 7, (10, 0, 0, 0), 0, 0, []),
  (.iconst 1, (0, 0, 0, 0), 1, 0, []),
  (.goto 4, (11, 0, 0, 0), 0, 0, []),
  (.iconst 0, (0, 0, 0, 0), 0, 0, []),
  (.ireturn, (0, 0, 1, 0), 0, 0, [])]
def q_26 : List Nat := [0, 1, 4, 7, 8, 11, 12, 15, 18, 19, 22, 23, 24]
def m_26 : aMt := (yX3_isSoil, cX3_isSoil, 2, (some .boolean), 3, 1, 22, (0, 0), 1, k_26, q_26)
def k_27 : List aM := [(.iload_n 1, (1, 0, 0, 0), 0, 0, []),
  (.invokestatic 71, (6, 1, 1, 99), 0, 0, []),
  (.ifCond .eq 31, (22, 0, 0, 0), 0, 0, []),
  (.aload_n 0, (0, 0, 0, 0), 0, 0, []),
  (.getfield 9, (2, 11, 2, 0), 0, 0, []),
  (.iload_n 1, (1, 0, 0, 0), 0, 0, []),
  (.iload_n 2, (2, 0, 0, 0), 0, 0, []),
  (.iastore, (0, 0, 0, 0), 0, 0, []),
  (.aload_n 0, (0, 0, 0, 0), 0, 0, []),
  (.dup, (0, 0, 0, 0), 0, 0, []),
  (.getfield 67, (2, 10, 1, 0), 0, 0, []),
  (.iload_n 2, (2, 0, 0, 0), 0, 0, []),
  (.iconst 3, (0, 0, 0, 0), 3, 0, []),
  (.if_icmp .ne 7, (16, 0, 0, 0), 0, 0, []),
  (.lconst 0, (0, 0, 0, 0), 0, 0, []),
  (.goto 6, (19, 0, 0, 0), 0, 0, []),
  (.lconst 1, (0, 0, 0, 0), 0, 1, []),
  (.iload_n 1, (1, 0, 0, 0), 0, 0, []),
  (.lshl, (0, 0, 0, 0), 0, 0, []),
  (.nop, (0, 0, 0, 0), 0, 0, [(0, 0), (0, 0), (0, 0)]),
  (.lor, (0, 0, 0, 0), 0, 0, []),
  (.putfield 67, (2, 10, 1, 0), 0, 0, []),
  (.return_, (0, 0, 0, 0), 0, 0, [])]
def q_27 : List Nat := [0, 1, 4, 7, 8, 11, 12, 13, 14, 15, 16, 19, 20, 21, 24, 25, 28, 29, 30, 31, 31, 32, 35, 36]
def m_27 : aMt := (yX3_setSoil, cX3_setSoil, 3, none, 3, 1, 20, (0, 0), 2, k_27, q_27)
def k_28 : List aM := [(.aload_n 0, (0, 0, 0, 0), 0, 0, []),
  (.getfield 58, (2, 7, 0, 0), 0, 0, []),
  (.iconst 4, (0, 0, 0, 0), 4, 0, []),
  (.if_icmp .ge 23, (16, 0, 0, 0), 0, 0, []),
  (.aload_n 0, (0, 0, 0, 0), 0, 0, []),
  (.getfield 15, (2, 12, 2, 0), 0, 0, []),
  (.aload_n 0, (0, 0, 0, 0), 0, 0, []),
  (.getfield 58, (2, 7, 0, 0), 0, 0, []),
  (.iload_n 1, (1, 0, 0, 0), 0, 0, []),
  (.iastore, (0, 0, 0, 0), 0, 0, []),
  (.aload_n 0, (0, 0, 0, 0), 0, 0, []),
  (.dup, (0, 0, 0, 0), 0, 0, []),
  (.getfield 58, (2, 7, 0, 0), 0, 0, []),
  (.iconst 1, (0, 0, 0, 0), 1, 0, []),
  (.iadd, (0, 0, 0, 0), 0, 0, []),
  (.putfield 58, (2, 7, 0, 0), 0, 0, []),
  (.return_, (0, 0, 0, 0), 0, 0, [])]
def q_28 : List Nat := [0, 1, 4, 5, 8, 9, 12, 13, 16, 17, 18, 19, 20, 23, 24, 25, 28, 29]
def m_28 : aMt := (yX3_addDrum, cX3_addDrum, 2, none, 3, 0, 0, (0, 0), 1, k_28, q_28)
def k_29 : List aM := [(.aload_n 0, (0, 0, 0, 0), 0, 0, []),
  (.getfield 64, (2, 9, 0, 0), 0, 0, []),
  (.bipush 6, (0, 0, 0, 0), 6, 0, []),
  (.if_icmp .ge 43, (28, 0, 0, 0), 0, 0, []),
  (.aload_n 0, (0, 0, 0, 0), 0, 0, []),
  (.getfield 27, (2, 16, 2, 0), 0, 0, []),
  (.aload_n 0, (0, 0, 0, 0), 0, 0, []),
  (.getfield 64, (2, 9, 0, 0), 0, 0, []),
  (.iload_n 1, (1, 0, 0, 0), 0, 0, []),
  (.iastore, (0, 0, 0, 0), 0, 0, []),
  (.aload_n 0, (0, 0, 0, 0), 0, 0, []),
  (.getfield 30, (2, 17, 2, 0), 0, 0, []),
  (.aload_n 0, (0, 0, 0, 0), 0, 0, []),
  (.getfield 64, (2, 9, 0, 0), 0, 0, []),
  (.iload_n 2, (2, 0, 0, 0), 0, 0, []),
  (.iastore, (0, 0, 0, 0), 0, 0, []),
  (.aload_n 0, (0, 0, 0, 0), 0, 0, []),
  (.getfield 33, (2, 18, 2, 0), 0, 0, []),
  (.aload_n 0, (0, 0, 0, 0), 0, 0, []),
  (.getfield 64, (2, 9, 0, 0), 0, 0, []),
  (.iload_n 3, (3, 0, 0, 0), 0, 0, []),
  (.iastore, (0, 0, 0, 0), 0, 0, []),
  (.aload_n 0, (0, 0, 0, 0), 0, 0, []),
  (.dup, (0, 0, 0, 0), 0, 0, []),
  (.getfield 64, (2, 9, 0, 0), 0, 0, []),
  (.iconst 1, (0, 0, 0, 0), 1, 0, []),
  (.iadd, (0, 0, 0, 0), 0, 0, []),
  (.putfield 64, (2, 9, 0, 0), 0, 0, []),
  (.return_, (0, 0, 0, 0), 0, 0, [])]
def q_29 : List Nat := [0, 1, 4, 6, 9, 10, 13, 14, 17, 18, 19, 20, 23, 24, 27, 28, 29, 30, 33, 34, 37, 38, 39, 40, 41, 44, 45, 46, 49, 50]
def m_29 : aMt := (yX3_addReport, cX3_addReport, 4, none, 3, 0, 0, (0, 0), 3, k_29, q_29)
def k_30 : List aM := [(.iconst 0, (0, 0, 0, 0), 0, 0, []),
  (.istore_n 3, (3, 0, 0, 0), 0, 0, []),
  (.nop, (0, 0, 0, 0), 0, 0, [(0, 1), (0, 1), (0, 1), (0, 1)]),
  (.iload_n 3, (3, 0, 0, 0), 0, 0, []),
  (.aload_n 0, (0, 0, 0, 0), 0, 0, []),
  (.getfield 64, (2, 9, 0, 0), 0, 0, []),
  (.if_icmp .ge 31, (23, 0, 0, 0), 0, 0, []),
  (.aload_n 0, (0, 0, 0, 0), 0, 0, []),
  (.getfield 27, (2, 16, 2, 0), 0, 0, []),
  (.iload_n 3, (3, 0, 0, 0), 0, 0, []),
  (.iaload, (13, 0, 0, 0), 0, 0, []),
  (.iload_n 1, (1, 0, 0, 0), 0, 0, []),
  (.if_icmp .ne 15, (21, 0, 0, 0), 0, 0, []),
  (.aload_n 0, (0, 0, 0, 0), 0, 0, []),
  (.getfield 30, (2, 17, 2, 0), 0, 0, []),
  (.iload_n 3, (3, 0, 0, 0), 0, 0, []),
  (.iaload, (13, 0, 0, 0), 0, 0, []),
  (.iload_n 2, (2, 0, 0, 0), 0, 0, []),
  (.if_icmp .ne 5, (21, 0, 0, 0), 0, 0, []),
  (.iconst 1, (0, 0, 0, 0), 1, 0, []),
  (.ireturn, (0, 0, 1, 0), 0, 0, []),
  (.iinc 3 1, (3, 0, 0, 0), 1, 0, []),
  (.goto (-33), (2, 0, 0, 0), 0, 0, []),
  (.iconst 0, (0, 0, 0, 0), 0, 0, []),
  (.ireturn, (0, 0, 1, 0), 0, 0, [])]
def q_30 : List Nat := [0, 1, 2, 2, 3, 4, 7, 10, 11, 14, 15, 16, 17, 20, 21, 24, 25, 26, 27, 30, 31, 32, 35, 38, 39, 40]
def m_30 : aMt := (yX3_isReported, cX3_isReported, 4, (some .boolean), 3, 0, 0, (0, 0), 2, k_30, q_30)
def k_31 : List aM := [(.iload_n 1, (1, 0, 0, 0), 0, 0, []),
  (.ifCond .lt 18, (10, 0, 0, 0), 0, 0, []),
  (.iload_n 1, (1, 0, 0, 0), 0, 0, []),
  (.iconst 4, (0, 0, 0, 0), 4, 0, []),
  (.if_icmp .ge 13, (10, 0, 0, 0), 0, 0, []),
  (.iload_n 2, (2, 0, 0, 0), 0, 0, []),
  (.ifCond .lt 9, (10, 0, 0, 0), 0, 0, []),
  (.iload_n 2, (2, 0, 0, 0), 0, 0, []),
  (.bipush 8, (0, 0, 0, 0), 8, 0, []),
  (.if_icmp .le 5, (12, 0, 0, 0), 0, 0, []),
  (.iconst 0, (0, 0, 0, 0), 0, 0, []),
  (.ireturn, (0, 0, 0, 0), 0, 0, []),
  (.aload_n 0, (0, 0, 0, 0), 0, 0, []),
  (.getfield 24, (2, 15, 2, 0), 0, 0, []),
  (.iload_n 1, (1, 0, 0, 0), 0, 0, []),
  (.bipush 9, (0, 0, 0, 0), 9, 0, []),
  (.imul, (0, 0, 0, 0), 0, 0, []),
  (.iload_n 2, (2, 0, 0, 0), 0, 0, []),
  (.iadd, (0, 0, 0, 0), 0, 0, []),
  (.iaload, (13, 0, 0, 0), 0, 0, []),
  (.ireturn, (0, 0, 0, 0), 0, 0, [])]
def q_31 : List Nat := [0, 1, 4, 5, 6, 9, 10, 13, 14, 16, 19, 20, 21, 22, 25, 26, 28, 29, 30, 31, 32, 33]
def m_31 : aMt := (yX3_onPath, cX3_onPath, 3, (some .int), 3, 0, 0, (0, 0), 2, k_31, q_31)
def k_32 : List aM := [(.iload_n 1, (1, 0, 0, 0), 0, 0, []),
  (.ifCond .lt 30, (19, 0, 0, 0), 0, 0, []),
  (.iload_n 1, (1, 0, 0, 0), 0, 0, []),
  (.iconst 4, (0, 0, 0, 0), 4, 0, []),
  (.if_icmp .ge 25, (19, 0, 0, 0), 0, 0, []),
  (.iload_n 2, (2, 0, 0, 0), 0, 0, []),
  (.ifCond .lt 21, (19, 0, 0, 0), 0, 0, []),
  (.iload_n 2, (2, 0, 0, 0), 0, 0, []),
  (.bipush 8, (0, 0, 0, 0), 8, 0, []),
  (.if_icmp .gt 15, (19, 0, 0, 0), 0, 0, []),
  (.aload_n 0, (0, 0, 0, 0), 0, 0, []),
  (.getfield 24, (2, 15, 2, 0), 0, 0, []),
  (.iload_n 1, (1, 0, 0, 0), 0, 0, []),
  (.bipush 9, (0, 0, 0, 0), 9, 0, []),
  (.imul, (0, 0, 0, 0), 0, 0, []),
  (.iload_n 2, (2, 0, 0, 0), 0, 0, []),
  (.iadd, (0, 0, 0, 0), 0, 0, []),
  (.iload_n 3, (3, 0, 0, 0), 0, 0, []),
  (.iastore, (0, 0, 0, 0), 0, 0, []),
  (.return_, (0, 0, 0, 0), 0, 0, [])]
def q_32 : List Nat := [0, 1, 4, 5, 6, 9, 10, 13, 14, 16, 19, 20, 23, 24, 26, 27, 28, 29, 30, 31, 32]
def m_32 : aMt := (yX3_setPath, cX3_setPath, 4, none, 3, 0, 0, (0, 0), 3, k_32, q_32)
def k_33 : List aM := [(.iconst 0, (0, 0, 0, 0), 0, 0, []),
  (.istore_n 2, (2, 0, 0, 0), 0, 0, []),
  (.iconst 0, (0, 0, 0, 0), 0, 0, []),
  (.istore_n 3, (3, 0, 0, 0), 0, 0, []),
  (.nop, (0, 0, 0, 0), 0, 0, [(0, 1), (0, 1), (0, 1), (0, 1)]),
  (.iload_n 3, (3, 0, 0, 0), 0, 0, []),
  (.aload_n 0, (0, 0, 0, 0), 0, 0, []),
  (.getfield 61, (2, 8, 0, 0), 0, 0, []),
  (.if_icmp .ge 34, (29, 0, 0, 0), 0, 0, []),
  (.iload_n 1, (1, 0, 0, 0), 0, 0, []),
  (.iload_n 3, (3, 0, 0, 0), 0, 0, []),
  (.ishr, (0, 0, 0, 0), 0, 0, []),
  (.iconst 1, (0, 0, 0, 0), 1, 0, []),
  (.iand, (0, 0, 0, 0), 0, 0, []),
  (.ifCond .eq 20, (27, 0, 0, 0), 0, 0, []),
  (.iload_n 2, (2, 0, 0, 0), 0, 0, []),
  (.aload_n 0, (0, 0, 0, 0), 0, 0, []),
  (.getfield 18, (2, 13, 2, 0), 0, 0, []),
  (.iload_n 3, (3, 0, 0, 0), 0, 0, []),
  (.iaload, (13, 0, 0, 0), 0, 0, []),
  (.ifCond .ne 7, (23, 0, 0, 0), 0, 0, []),
  (.iconst 1, (0, 0, 0, 0), 1, 0, []),
  (.goto 4, (24, 0, 0, 0), 0, 0, []),
  (.iconst (-1), (0, 0, 0, 0), (-1), 0, []),
  (.nop, (0, 0, 0, 0), 0, 0, [(0, 1), (0, 1), (0, 0), (0, 1)]),
  (.iadd, (0, 0, 0, 0), 0, 0, []),
  (.istore_n 2, (2, 0, 0, 0), 0, 0, []),
  (.iinc 3 1, (3, 0, 0, 0), 1, 0, []),
  (.goto (-36), (4, 0, 0, 0), 0, 0, []),
  (.iload_n 2, (2, 0, 0, 0), 0, 0, []),
  (.ireturn, (0, 0, 0, 0), 0, 0, [])]
def q_33 : List Nat := [0, 1, 2, 3, 4, 4, 5, 6, 9, 12, 13, 14, 15, 16, 17, 20, 21, 22, 25, 26, 27, 30, 31, 34, 35, 35, 36, 37, 40, 43, 44, 45]
def m_33 : aMt := (yX3_minersAhead, cX3_minersAhead, 4, (some .int), 3, 0, 0, (0, 0), 1, k_33, q_33)
def k_34 : List aM := [(.aload_n 0, (0, 0, 0, 0), 0, 0, []),
  (.invokespecial 3, (0, 0, 9, 0), 0, 0, []),
  (.aload_n 0, (0, 0, 0, 0), 0, 0, []),
  (.new 9, (6, 6, 0, 0), 0, 0, []),
  (.dup, (0, 0, 0, 0), 0, 0, []),
  (.invokespecial 11, (76, 1, 0, 99), 0, 0, [(0, 1), (0, 700)]),
  (.putfield 12, (3, 0, 2, 0), 0, 0, []),
  (.aload_n 0, (0, 0, 0, 0), 0, 0, []),
  (.new 18, (2, 19, 0, 0), 0, 0, []),
  (.dup, (0, 0, 0, 0), 0, 0, []),
  (.invokespecial 20, (22, 1, 0, 99), 0, 0, [(0, 8), (0, 130)]),
  (.putfield 21, (3, 3, 2, 0), 0, 0, []),
  (.aload_n 0, (0, 0, 0, 0), 0, 0, []),
  (.iconst 4, (0, 0, 0, 0), 4, 0, []),
  (.newarray .long, (14, 0, 0, 0), 0, 0, []),
  (.putfield 25, (3, 7, 2, 0), 0, 0, []),
  (.aload_n 0, (0, 0, 0, 0), 0, 0, []),
  (.iconst 4, (0, 0, 0, 0), 4, 0, []),
  (.newarray .long, (14, 0, 0, 0), 0, 0, []),
  (.putfield 29, (3, 8, 2, 0), 0, 0, []),
  (.return_, (0, 0, 0, 0), 0, 0, [])]
def q_34 : List Nat := [0, 1, 4, 5, 8, 9, 12, 15, 16, 19, 20, 23, 26, 27, 28, 30, 33, 34, 35, 37, 40, 41]
def m_34 : aMt := (yX4_init, cX4_init, 1, none, 4, 2, 40, (13, 863), 0, k_34, q_34)
def k_35 : List aM := [(.aload_n 0, (0, 0, 0, 0), 0, 0, []),
  (.aload_n 2, (2, 0, 0, 0), 0, 0, []),
  (.putfield 21, (3, 3, 2, 0), 0, 0, []),
  (.aload_n 0, (0, 0, 0, 0), 0, 0, []),
  (.getfield 21, (3, 3, 2, 0), 0, 0, []),
  (.invokevirtual 32, (23, 1, 0, 2), 0, 0, []),
  (.aload_n 0, (0, 0, 0, 0), 0, 0, []),
  (.iconst 0, (0, 0, 0, 0), 0, 0, []),
  (.putfield 35, (3, 1, 0, 0), 0, 0, []),
  (.aload_n 0, (0, 0, 0, 0), 0, 0, []),
  (.iconst 0, (0, 0, 0, 0), 0, 0, []),
  (.putfield 39, (3, 2, 0, 0), 0, 0, []),
  (.aload_n 0, (0, 0, 0, 0), 0, 0, []),
  (.iconst 0, (0, 0, 0, 0), 0, 0, []),
  (.putfield 42, (3, 4, 4, 0), 0, 0, []),
  (.aload_n 0, (0, 0, 0, 0), 0, 0, []),
  (.iconst 0, (0, 0, 0, 0), 0, 0, []),
  (.putfield 46, (3, 5, 4, 0), 0, 0, []),
  (.aload_n 0, (0, 0, 0, 0), 0, 0, []),
  (.iconst 0, (0, 0, 0, 0), 0, 0, []),
  (.putfield 49, (3, 6, 4, 0), 0, 0, []),
  (.aload_n 0, (0, 0, 0, 0), 0, 0, []),
  (.getfield 12, (3, 0, 2, 0), 0, 0, []),
  (.iload_n 1, (1, 0, 0, 0), 0, 0, []),
  (.invokevirtual 52, (79, 2, 0, 6), 0, 0, []),
  (.return_, (0, 0, 0, 0), 0, 0, [])]
def q_35 : List Nat := [0, 1, 2, 5, 6, 9, 12, 13, 14, 17, 18, 19, 22, 23, 24, 27, 28, 29, 32, 33, 34, 37, 38, 41, 42, 45, 46]
def m_35 : aMt := (yX4_start, cX4_start, 3, none, 4, 3, 63, (0, 0), 2, k_35, q_35)
def k_36 : List aM := [(.aload_n 0, (0, 0, 0, 0), 0, 0, []),
  (.getfield 12, (3, 0, 2, 0), 0, 0, []),
  (.ldc 56, (0, 0, 1, 0), 0, 0, []),
  (.invokevirtual 58, (81, 2, 1, 6), 0, 0, []),
  (.ifCond .eq 10, (8, 0, 0, 0), 0, 0, []),
  (.aload_n 0, (0, 0, 0, 0), 0, 0, []),
  (.invokevirtual 62, (38, 1, 0, 3), 0, 0, []),
  (.goto 103, (51, 0, 0, 0), 0, 0, []),
  (.aload_n 0, (0, 0, 0, 0), 0, 0, []),
  (.getfield 12, (3, 0, 2, 0), 0, 0, []),
  (.ldc 65, (1, 0, 1, 0), 0, 0, []),
  (.invokevirtual 58, (81, 2, 1, 6), 0, 0, []),
  (.ifCond .eq 10, (16, 0, 0, 0), 0, 0, []),
  (.aload_n 0, (0, 0, 0, 0), 0, 0, []),
  (.invokevirtual 67, (39, 1, 0, 3), 0, 0, []),
  (.goto 84, (51, 0, 0, 0), 0, 0, []),
  (.aload_n 0, (0, 0, 0, 0), 0, 0, []),
  (.getfield 12, (3, 0, 2, 0), 0, 0, []),
  (.ldc 70, (2, 0, 1, 0), 0, 0, []),
  (.invokevirtual 58, (81, 2, 1, 6), 0, 0, []),
  (.ifCond .eq 10, (24, 0, 0, 0), 0, 0, []),
  (.aload_n 0, (0, 0, 0, 0), 0, 0, []),
  (.invokevirtual 72, (41, 1, 0, 3), 0, 0, []),
  (.goto 65, (51, 0, 0, 0), 0, 0, []),
  (.aload_n 0, (0, 0, 0, 0), 0, 0, []),
  (.getfield 12, (3, 0, 2, 0), 0, 0, []),
  (.ldc 75, (3, 0, 1, 0), 0, 0, []),
  (.invokevirtual 58, (81, 2, 1, 6), 0, 0, []),
  (.ifCond .eq 10, (32, 0, 0, 0), 0, 0, []),
  (.aload_n 0, (0, 0, 0, 0), 0, 0, []),
  (.invokevirtual 77, (42, 1, 0, 3), 0, 0, []),
  (.goto 46, (51, 0, 0, 0), 0, 0, []),
  (.aload_n 0, (0, 0, 0, 0), 0, 0, []),
  (.getfield 12, (3, 0, 2, 0), 0, 0, []),
  (.ldc 80, (4, 0, 1, 0), 0, 0, []),
  (.invokevirtual 58, (81, 2, 1, 6), 0, 0, []),
  (.ifCond .eq 10, (40, 0, 0, 0), 0, 0, []),
  (.aload_n 0, (0, 0, 0, 0), 0, 0, []),
  (.invokevirtual 82, (43, 1, 0, 3), 0, 0, []),
  (.goto 27, (51, 0, 0, 0), 0, 0, []),
  (.aload_n 0, (0, 0, 0, 0), 0, 0, []),
  (.getfield 12, (3, 0, 2, 0), 0, 0, []),
  (.ldc 85, (5, 0, 1, 0), 0, 0, []),
  (.invokevirtual 58, (81, 2, 1, 6), 0, 0, []),
  (.ifCond .eq 10, (48, 0, 0, 0), 0, 0, []),
  (.aload_n 0, (0, 0, 0, 0), 0, 0, []),
  (.invokevirtual 87, (45, 1, 0, 3), 0, 0, []),
  (.goto 8, (51, 0, 0, 0), 0, 0, []),
  (.aload_n 0, (0, 0, 0, 0), 0, 0, []),
  (.iconst 1, (0, 0, 0, 0), 1, 0, []),
  (.invokevirtual 90, (58, 2, 0, 3), 0, 0, []),
  (.nop, (0, 0, 0, 0), 0, 0, [(0, 1)]),
  (.aload_n 0, (0, 0, 0, 0), 0, 0, []),
  (.getfield 35, (3, 1, 0, 0), 0, 0, []),
  (.ifCond .ne 14, (60, 0, 0, 0), 0, 0, []),
  (.aload_n 0, (0, 0, 0, 0), 0, 0, []),
  (.invokevirtual 93, (37, 1, 1, 3), 0, 0, []),
  (.ifCond .eq 7, (60, 0, 0, 0), 0, 0, []),
  (.iconst 1, (0, 0, 0, 0), 1, 0, []),
  (.goto 4, (61, 0, 0, 0), 0, 0, []),
  (.iconst 0, (0, 0, 0, 0), 0, 0, []),
  (.ireturn, (0, 0, 1, 0), 0, 0, [])]
def q_36 : List Nat := [0, 1, 4, 6, 9, 12, 13, 16, 19, 20, 23, 25, 28, 31, 32, 35, 38, 39, 42, 44, 47, 50, 51, 54, 57, 58, 61, 63, 66, 69, 70, 73, 76, 77, 80, 82, 85, 88, 89, 92, 95, 96, 99, 101, 104, 107, 108, 111, 114, 115, 116, 119, 119, 120, 123, 126, 127, 130, 133, 134, 137, 138, 139]
def m_36 : aMt := (yX4_readLine, cX4_readLine, 1, (some .boolean), 4, 10, 289, (0, 0), 0, k_36, q_36)
def k_37 : List aM := [(.aload_n 0, (0, 0, 0, 0), 0, 0, []),
  (.getfield 12, (3, 0, 2, 0), 0, 0, []),
  (.getfield 97, (6, 5, 0, 0), 0, 0, []),
  (.iconst 3, (0, 0, 0, 0), 3, 0, []),
  (.if_icmp .ne 12, (10, 0, 0, 0), 0, 0, []),
  (.aload_n 0, (0, 0, 0, 0), 0, 0, []),
  (.getfield 12, (3, 0, 2, 0), 0, 0, []),
  (.invokevirtual 100, (80, 1, 0, 6), 0, 0, []),
  (.iconst 1, (0, 0, 0, 0), 1, 0, []),
  (.ireturn, (0, 0, 1, 0), 0, 0, []),
  (.aload_n 0, (0, 0, 0, 0), 0, 0, []),
  (.getfield 12, (3, 0, 2, 0), 0, 0, []),
  (.getfield 97, (6, 5, 0, 0), 0, 0, []),
  (.ifCond .eq 11, (18, 0, 0, 0), 0, 0, []),
  (.aload_n 0, (0, 0, 0, 0), 0, 0, []),
  (.iconst 1, (0, 0, 0, 0), 1, 0, []),
  (.invokevirtual 90, (58, 2, 0, 3), 0, 0, []),
  (.goto 16, (24, 0, 0, 0), 0, 0, []),
  (.aload_n 0, (0, 0, 0, 0), 0, 0, []),
  (.getfield 46, (3, 5, 0, 0), 0, 0, []),
  (.ifCond .ne 9, (24, 0, 0, 0), 0, 0, []),
  (.aload_n 0, (0, 0, 0, 0), 0, 0, []),
  (.bipush 6, (0, 0, 0, 0), 6, 0, []),
  (.invokevirtual 90, (58, 2, 0, 3), 0, 0, []),
  (.iconst 0, (0, 0, 0, 0), 0, 0, []),
  (.ireturn, (0, 0, 1, 0), 0, 0, [])]
def q_37 : List Nat := [0, 1, 4, 7, 8, 11, 12, 15, 18, 19, 20, 21, 24, 27, 30, 31, 32, 35, 38, 39, 42, 45, 46, 48, 51, 52, 53]
def m_37 : aMt := (yX4_goesOn, cX4_goesOn, 1, (some .boolean), 4, 2, 43, (0, 0), 0, k_37, q_37)
def k_38 : List aM := [(.aload_n 0, (0, 0, 0, 0), 0, 0, []),
  (.getfield 42, (3, 4, 0, 0), 0, 0, []),
  (.ifCond .eq 9, (7, 0, 0, 0), 0, 0, []),
  (.aload_n 0, (0, 0, 0, 0), 0, 0, []),
  (.iconst 3, (0, 0, 0, 0), 3, 0, []),
  (.invokevirtual 90, (58, 2, 0, 3), 0, 0, []),
  (.return_, (0, 0, 0, 0), 0, 0, []),
  (.aload_n 0, (0, 0, 0, 0), 0, 0, []),
  (.iconst 1, (0, 0, 0, 0), 1, 0, []),
  (.putfield 42, (3, 4, 4, 0), 0, 0, []),
  (.aload_n 0, (0, 0, 0, 0), 0, 0, []),
  (.getfield 12, (3, 0, 2, 0), 0, 0, []),
  (.invokevirtual 100, (80, 1, 0, 6), 0, 0, []),
  (.aload_n 0, (0, 0, 0, 0), 0, 0, []),
  (.getfield 21, (3, 3, 2, 0), 0, 0, []),
  (.aload_n 0, (0, 0, 0, 0), 0, 0, []),
  (.ldc 103, (6, 0, 1, 0), 0, 0, []),
  (.iconst 1, (0, 0, 0, 0), 1, 0, []),
  (.bipush 14, (0, 0, 0, 0), 14, 0, []),
  (.invokevirtual 105, (48, 4, 1, 3), 0, 0, []),
  (.putfield 109, (2, 0, 0, 0), 0, 0, []),
  (.aload_n 0, (0, 0, 0, 0), 0, 0, []),
  (.getfield 21, (3, 3, 2, 0), 0, 0, []),
  (.aload_n 0, (0, 0, 0, 0), 0, 0, []),
  (.ldc 111, (7, 0, 1, 0), 0, 0, []),
  (.iconst 0, (0, 0, 0, 0), 0, 0, []),
  (.iconst 3, (0, 0, 0, 0), 3, 0, []),
  (.invokevirtual 105, (48, 4, 1, 3), 0, 0, []),
  (.putfield 113, (2, 1, 0, 0), 0, 0, []),
  (.aload_n 0, (0, 0, 0, 0), 0, 0, []),
  (.getfield 21, (3, 3, 2, 0), 0, 0, []),
  (.aload_n 0, (0, 0, 0, 0), 0, 0, []),
  (.ldc 115, (8, 0, 1, 0), 0, 0, []),
  (.iconst 1, (0, 0, 0, 0), 1, 0, []),
  (.bipush 9, (0, 0, 0, 0), 9, 0, []),
  (.invokevirtual 105, (48, 4, 1, 3), 0, 0, []),
  (.putfield 117, (2, 2, 0, 0), 0, 0, []),
  (.aload_n 0, (0, 0, 0, 0), 0, 0, []),
  (.getfield 21, (3, 3, 2, 0), 0, 0, []),
  (.aload_n 0, (0, 0, 0, 0), 0, 0, []),
  (.ldc 119, (9, 0, 1, 0), 0, 0, []),
  (.iconst 0, (0, 0, 0, 0), 0, 0, []),
  (.bipush 100, (0, 0, 0, 0), 100, 0, []),
  (.invokevirtual 105, (48, 4, 1, 3), 0, 0, []),
  (.putfield 121, (2, 3, 0, 0), 0, 0, []),
  (.return_, (0, 0, 0, 0), 0, 0, [])]
def q_38 : List Nat := [0, 1, 4, 7, 8, 9, 12, 13, 14, 15, 18, 19, 22, 25, 26, 29, 30, 32, 33, 35, 38, 41, 42, 45, 46, 48, 49, 50, 53, 56, 57, 60, 61, 63, 64, 66, 69, 72, 73, 76, 77, 79, 80, 82, 85, 88, 89]
def m_38 : aMt := (yX4_readField, cX4_readField, 1, none, 4, 8, 245, (0, 0), 0, k_38, q_38)
def k_39 : List aM := [(.aload_n 0, (0, 0, 0, 0), 0, 0, []),
  (.getfield 21, (3, 3, 2, 0), 0, 0, []),
  (.getfield 123, (2, 5, 0, 0), 0, 0, []),
  (.bipush 8, (0, 0, 0, 0), 8, 0, []),
  (.if_icmp .lt 8, (8, 0, 0, 0), 0, 0, []),
  (.aload_n 0, (0, 0, 0, 0), 0, 0, []),
  (.iconst 5, (0, 0, 0, 0), 5, 0, []),
  (.invokevirtual 90, (58, 2, 0, 3), 0, 0, []),
  (.nop, (0, 0, 0, 0), 0, 0, [(0, 1)]),
  (.aload_n 0, (0, 0, 0, 0), 0, 0, []),
  (.getfield 42, (3, 4, 0, 0), 0, 0, []),
  (.ifCond .ne 9, (15, 0, 0, 0), 0, 0, []),
  (.aload_n 0, (0, 0, 0, 0), 0, 0, []),
  (.bipush 6, (0, 0, 0, 0), 6, 0, []),
  (.invokevirtual 90, (58, 2, 0, 3), 0, 0, []),
  (.nop, (0, 0, 0, 0), 0, 0, [(0, 1)]),
  (.aload_n 0, (0, 0, 0, 0), 0, 0, []),
  (.getfield 49, (3, 6, 0, 0), 0, 0, []),
  (.ifCond .eq 9, (22, 0, 0, 0), 0, 0, []),
  (.aload_n 0, (0, 0, 0, 0), 0, 0, []),
  (.bipush 8, (0, 0, 0, 0), 8, 0, []),
  (.invokevirtual 90, (58, 2, 0, 3), 0, 0, []),
  (.nop, (0, 0, 0, 0), 0, 0, [(0, 1)]),
  (.aload_n 0, (0, 0, 0, 0), 0, 0, []),
  (.invokevirtual 128, (47, 1, 0, 3), 0, 0, []),
  (.aload_n 0, (0, 0, 0, 0), 0, 0, []),
  (.getfield 35, (3, 1, 0, 0), 0, 0, []),
  (.ifCond .ne 16, (34, 0, 0, 0), 0, 0, []),
  (.aload_n 0, (0, 0, 0, 0), 0, 0, []),
  (.invokevirtual 131, (40, 1, 1, 3), 0, 0, []),
  (.ifCond .ne 9, (34, 0, 0, 0), 0, 0, []),
  (.aload_n 0, (0, 0, 0, 0), 0, 0, []),
  (.bipush 7, (0, 0, 0, 0), 7, 0, []),
  (.invokevirtual 90, (58, 2, 0, 3), 0, 0, []),
  (.nop, (0, 0, 0, 0), 0, 0, [(0, 1)]),
  (.aload_n 0, (0, 0, 0, 0), 0, 0, []),
  (.getfield 35, (3, 1, 0, 0), 0, 0, []),
  (.ifCond .ne 37, (54, 0, 0, 0), 0, 0, []),
  (.aload_n 0, (0, 0, 0, 0), 0, 0, []),
  (.getfield 21, (3, 3, 2, 0), 0, 0, []),
  (.aload_n 0, (0, 0, 0, 0), 0, 0, []),
  (.getfield 12, (3, 0, 2, 0), 0, 0, []),
  (.getfield 134, (6, 4, 0, 0), 0, 0, []),
  (.putfield 137, (2, 4, 0, 0), 0, 0, []),
  (.aload_n 0, (0, 0, 0, 0), 0, 0, []),
  (.getfield 21, (3, 3, 2, 0), 0, 0, []),
  (.dup, (0, 0, 0, 0), 0, 0, []),
  (.getfield 123, (2, 5, 0, 0), 0, 0, []),
  (.iconst 1, (0, 0, 0, 0), 1, 0, []),
  (.iadd, (0, 0, 0, 0), 0, 0, []),
  (.putfield 123, (2, 5, 0, 0), 0, 0, []),
  (.aload_n 0, (0, 0, 0, 0), 0, 0, []),
  (.getfield 12, (3, 0, 2, 0), 0, 0, []),
  (.invokevirtual 100, (80, 1, 0, 6), 0, 0, []),
  (.return_, (0, 0, 0, 0), 0, 0, [])]
def q_39 : List Nat := [0, 1, 4, 7, 9, 12, 13, 14, 17, 17, 18, 21, 24, 25, 27, 30, 30, 31, 34, 37, 38, 40, 43, 43, 44, 47, 48, 51, 54, 55, 58, 61, 62, 64, 67, 67, 68, 71, 74, 75, 78, 79, 82, 85, 88, 89, 92, 93, 96, 97, 98, 101, 102, 105, 108, 109]
def m_39 : aMt := (yX4_readRow, cX4_readRow, 1, none, 4, 3, 64, (0, 0), 0, k_39, q_39)
def k_40 : List aM := [(.aload_n 0, (0, 0, 0, 0), 0, 0, []),
  (.getfield 12, (3, 0, 2, 0), 0, 0, []),
  (.getfield 134, (6, 4, 0, 0), 0, 0, []),
  (.iconst 2, (0, 0, 0, 0), 2, 0, []),
  (.if_icmp .lt 15, (10, 0, 0, 0), 0, 0, []),
  (.aload_n 0, (0, 0, 0, 0), 0, 0, []),
  (.getfield 12, (3, 0, 2, 0), 0, 0, []),
  (.getfield 134, (6, 4, 0, 0), 0, 0, []),
  (.bipush 8, (0, 0, 0, 0), 8, 0, []),
  (.if_icmp .le 5, (12, 0, 0, 0), 0, 0, []),
  (.iconst 0, (0, 0, 0, 0), 0, 0, []),
  (.ireturn, (0, 0, 1, 0), 0, 0, []),
  (.aload_n 0, (0, 0, 0, 0), 0, 0, []),
  (.getfield 21, (3, 3, 2, 0), 0, 0, []),
  (.getfield 123, (2, 5, 0, 0), 0, 0, []),
  (.ifCond .le 22, (25, 0, 0, 0), 0, 0, []),
  (.aload_n 0, (0, 0, 0, 0), 0, 0, []),
  (.getfield 12, (3, 0, 2, 0), 0, 0, []),
  (.getfield 134, (6, 4, 0, 0), 0, 0, []),
  (.aload_n 0, (0, 0, 0, 0), 0, 0, []),
  (.getfield 21, (3, 3, 2, 0), 0, 0, []),
  (.getfield 137, (2, 4, 0, 0), 0, 0, []),
  (.if_icmp .eq 5, (25, 0, 0, 0), 0, 0, []),
  (.iconst 0, (0, 0, 0, 0), 0, 0, []),
  (.ireturn, (0, 0, 1, 0), 0, 0, []),
  (.iconst 0, (0, 0, 0, 0), 0, 0, []),
  (.istore_n 1, (1, 0, 0, 0), 0, 0, []),
  (.nop, (0, 0, 0, 0), 0, 0, [(0, 1), (0, 1), (0, 0)]),
  (.iload_n 1, (1, 0, 0, 0), 0, 0, []),
  (.aload_n 0, (0, 0, 0, 0), 0, 0, []),
  (.getfield 12, (3, 0, 2, 0), 0, 0, []),
  (.getfield 134, (6, 4, 0, 0), 0, 0, []),
  (.if_icmp .ge 47, (55, 0, 0, 0), 0, 0, []),
  (.aload_n 0, (0, 0, 0, 0), 0, 0, []),
  (.getfield 12, (3, 0, 2, 0), 0, 0, []),
  (.iload_n 1, (1, 0, 0, 0), 0, 0, []),
  (.invokevirtual 140, (82, 2, 1, 6), 0, 0, []),
  (.invokestatic 144, (56, 1, 1, 99), 0, 0, []),
  (.istore_n 2, (2, 0, 0, 0), 0, 0, []),
  (.iload_n 2, (2, 0, 0, 0), 0, 0, []),
  (.iconst (-1), (0, 0, 0, 0), (-1), 0, []),
  (.if_icmp .ne 5, (44, 0, 0, 0), 0, 0, []),
  (.iconst 0, (0, 0, 0, 0), 0, 0, []),
  (.ireturn, (0, 0, 1, 0), 0, 0, []),
  (.aload_n 0, (0, 0, 0, 0), 0, 0, []),
  (.getfield 21, (3, 3, 2, 0), 0, 0, []),
  (.iload_n 1, (1, 0, 0, 0), 0, 0, []),
  (.aload_n 0, (0, 0, 0, 0), 0, 0, []),
  (.getfield 21, (3, 3, 2, 0), 0, 0, []),
  (.getfield 123, (2, 5, 0, 0), 0, 0, []),
  (.invokestatic 147, (0, 2, 1, 99), 0, 0, []),
  (.iload_n 2, (2, 0, 0, 0), 0, 0, []),
  (.invokevirtual 151, (27, 3, 0, 2), 0, 0, []),
  (.iinc 1 1, (1, 0, 0, 0), 1, 0, []),
  (.goto (-52), (27, 0, 0, 0), 0, 0, []),
  (.iconst 1, (0, 0, 0, 0), 1, 0, []),
  (.ireturn, (0, 0, 1, 0), 0, 0, [])]
def q_40 : List Nat := [0, 1, 4, 7, 8, 11, 12, 15, 18, 20, 23, 24, 25, 26, 29, 32, 35, 36, 39, 42, 43, 46, 49, 52, 53, 54, 55, 56, 56, 57, 58, 61, 64, 67, 68, 71, 72, 75, 78, 79, 80, 81, 84, 85, 86, 87, 90, 91, 92, 95, 98, 101, 102, 105, 108, 111, 112, 113]
def m_40 : aMt := (yX4_takeRow, cX4_takeRow, 3, (some .boolean), 4, 2, 42, (0, 0), 0, k_40, q_40)
def k_41 : List aM := [(.aload_n 0, (0, 0, 0, 0), 0, 0, []),
  (.getfield 46, (3, 5, 0, 0), 0, 0, []),
  (.ifCond .eq 8, (6, 0, 0, 0), 0, 0, []),
  (.aload_n 0, (0, 0, 0, 0), 0, 0, []),
  (.iconst 3, (0, 0, 0, 0), 3, 0, []),
  (.invokevirtual 90, (58, 2, 0, 3), 0, 0, []),
  (.nop, (0, 0, 0, 0), 0, 0, [(0, 1)]),
  (.aload_n 0, (0, 0, 0, 0), 0, 0, []),
  (.invokevirtual 155, (46, 1, 0, 3), 0, 0, []),
  (.aload_n 0, (0, 0, 0, 0), 0, 0, []),
  (.getfield 21, (3, 3, 2, 0), 0, 0, []),
  (.aload_n 0, (0, 0, 0, 0), 0, 0, []),
  (.invokevirtual 158, (50, 1, 1, 3), 0, 0, []),
  (.putfield 162, (2, 6, 0, 0), 0, 0, []),
  (.aload_n 0, (0, 0, 0, 0), 0, 0, []),
  (.iconst 1, (0, 0, 0, 0), 1, 0, []),
  (.putfield 46, (3, 5, 4, 0), 0, 0, []),
  (.return_, (0, 0, 0, 0), 0, 0, [])]
def q_41 : List Nat := [0, 1, 4, 7, 8, 9, 12, 12, 13, 16, 17, 20, 21, 24, 27, 28, 29, 32, 33]
def m_41 : aMt := (yX4_readWall, cX4_readWall, 1, none, 4, 4, 90, (0, 0), 0, k_41, q_41)
def k_42 : List aM := [(.aload_n 0, (0, 0, 0, 0), 0, 0, []),
  (.getfield 21, (3, 3, 2, 0), 0, 0, []),
  (.getfield 164, (2, 7, 0, 0), 0, 0, []),
  (.iconst 4, (0, 0, 0, 0), 4, 0, []),
  (.if_icmp .lt 8, (8, 0, 0, 0), 0, 0, []),
  (.aload_n 0, (0, 0, 0, 0), 0, 0, []),
  (.iconst 5, (0, 0, 0, 0), 5, 0, []),
  (.invokevirtual 90, (58, 2, 0, 3), 0, 0, []),
  (.nop, (0, 0, 0, 0), 0, 0, [(0, 1), (0, 0), (0, 0), (0, 0)]),
  (.aload_n 0, (0, 0, 0, 0), 0, 0, []),
  (.invokevirtual 155, (46, 1, 0, 3), 0, 0, []),
  (.aload_n 0, (0, 0, 0, 0), 0, 0, []),
  (.invokevirtual 167, (52, 1, 2, 3), 0, 0, []),
  (.lstore_n 1, (1, 0, 0, 0), 0, 0, []),
  (.aload_n 0, (0, 0, 0, 0), 0, 0, []),
  (.invokevirtual 158, (50, 1, 1, 3), 0, 0, []),
  (.istore_n 3, (3, 0, 0, 0), 0, 0, []),
  (.aload_n 0, (0, 0, 0, 0), 0, 0, []),
  (.getfield 35, (3, 1, 0, 0), 0, 0, []),
  (.ifCond .ne 35, (36, 0, 0, 0), 0, 0, []),
  (.aload_n 0, (0, 0, 0, 0), 0, 0, []),
  (.getfield 21, (3, 3, 2, 0), 0, 0, []),
  (.getfield 164, (2, 7, 0, 0), 0, 0, []),
  (.iconst 4, (0, 0, 0, 0), 4, 0, []),
  (.if_icmp .ge 24, (36, 0, 0, 0), 0, 0, []),
  (.aload_n 0, (0, 0, 0, 0), 0, 0, []),
  (.getfield 25, (3, 7, 2, 0), 0, 0, []),
  (.aload_n 0, (0, 0, 0, 0), 0, 0, []),
  (.getfield 21, (3, 3, 2, 0), 0, 0, []),
  (.getfield 164, (2, 7, 0, 0), 0, 0, []),
  (.lload_n 1, (1, 0, 0, 0), 0, 0, []),
  (.lastore, (0, 0, 0, 0), 0, 0, []),
  (.aload_n 0, (0, 0, 0, 0), 0, 0, []),
  (.getfield 21, (3, 3, 2, 0), 0, 0, []),
  (.iload_n 3, (3, 0, 0, 0), 0, 0, []),
  (.invokevirtual 171, (28, 2, 0, 2), 0, 0, []),
  (.return_, (0, 0, 0, 0), 0, 0, [])]
def q_42 : List Nat := [0, 1, 4, 7, 8, 11, 12, 13, 16, 16, 17, 20, 21, 24, 25, 26, 29, 30, 31, 34, 37, 38, 41, 44, 45, 48, 49, 52, 53, 56, 59, 60, 61, 62, 65, 66, 69, 70]
def m_42 : aMt := (yX4_readDrum, cX4_readDrum, 4, none, 4, 9, 264, (0, 0), 0, k_42, q_42)
def k_43 : List aM := [(.aload_n 0, (0, 0, 0, 0), 0, 0, []),
  (.getfield 21, (3, 3, 2, 0), 0, 0, []),
  (.getfield 174, (2, 8, 0, 0), 0, 0, []),
  (.istore_n 1, (1, 0, 0, 0), 0, 0, []),
  (.iload_n 1, (1, 0, 0, 0), 0, 0, []),
  (.iconst 4, (0, 0, 0, 0), 4, 0, []),
  (.if_icmp .lt 8, (10, 0, 0, 0), 0, 0, []),
  (.aload_n 0, (0, 0, 0, 0), 0, 0, []),
  (.iconst 5, (0, 0, 0, 0), 5, 0, []),
  (.invokevirtual 90, (58, 2, 0, 3), 0, 0, []),
  (.nop, (0, 0, 0, 0), 0, 0, [(0, 1), (0, 1), (0, 0), (0, 0), (0, 0), (0, 0)]),
  (.aload_n 0, (0, 0, 0, 0), 0, 0, []),
  (.invokevirtual 155, (46, 1, 0, 3), 0, 0, []),
  (.aload_n 0, (0, 0, 0, 0), 0, 0, []),
  (.invokevirtual 167, (52, 1, 2, 3), 0, 0, []),
  (.lstore_n 2, (2, 0, 0, 0), 0, 0, []),
  (.aload_n 0, (0, 0, 0, 0), 0, 0, []),
  (.invokevirtual 177, (51, 1, 1, 3), 0, 0, []),
  (.istore 4, (4, 0, 0, 0), 0, 0, []),
  (.aload_n 0, (0, 0, 0, 0), 0, 0, []),
  (.invokevirtual 158, (50, 1, 1, 3), 0, 0, []),
  (.istore 5, (5, 0, 0, 0), 0, 0, []),
  (.aload_n 0, (0, 0, 0, 0), 0, 0, []),
  (.getfield 35, (3, 1, 0, 0), 0, 0, []),
  (.ifCond .ne 19, (33, 0, 0, 0), 0, 0, []),
  (.aload_n 0, (0, 0, 0, 0), 0, 0, []),
  (.getfield 12, (3, 0, 2, 0), 0, 0, []),
  (.getfield 97, (6, 5, 0, 0), 0, 0, []),
  (.iconst 1, (0, 0, 0, 0), 1, 0, []),
  (.if_icmp .eq 8, (33, 0, 0, 0), 0, 0, []),
  (.aload_n 0, (0, 0, 0, 0), 0, 0, []),
  (.iconst 1, (0, 0, 0, 0), 1, 0, []),
  (.invokevirtual 90, (58, 2, 0, 3), 0, 0, []),
  (.nop, (0, 0, 0, 0), 0, 0, [(0, 1), (0, 1), (0, 1), (0, 0), (0, 1), (0, 1)]),
  (.aload_n 0, (0, 0, 0, 0), 0, 0, []),
  (.getfield 35, (3, 1, 0, 0), 0, 0, []),
  (.ifCond .ne 19, (45, 0, 0, 0), 0, 0, []),
  (.aload_n 0, (0, 0, 0, 0), 0, 0, []),
  (.iload_n 1, (1, 0, 0, 0), 0, 0, []),
  (.iload 5, (5, 0, 0, 0), 0, 0, []),
  (.invokevirtual 180, (44, 3, 1, 3), 0, 0, []),
  (.ifCond .ne 9, (45, 0, 0, 0), 0, 0, []),
  (.aload_n 0, (0, 0, 0, 0), 0, 0, []),
  (.bipush 7, (0, 0, 0, 0), 7, 0, []),
  (.invokevirtual 90, (58, 2, 0, 3), 0, 0, []),
  (.nop, (0, 0, 0, 0), 0, 0, [(0, 1), (0, 1), (0, 1), (0, 0), (0, 1), (0, 0)]),
  (.aload_n 0, (0, 0, 0, 0), 0, 0, []),
  (.getfield 35, (3, 1, 0, 0), 0, 0, []),
  (.ifCond .ne 62, (81, 0, 0, 0), 0, 0, []),
  (.iload_n 1, (1, 0, 0, 0), 0, 0, []),
  (.iconst 4, (0, 0, 0, 0), 4, 0, []),
  (.if_icmp .ge 57, (81, 0, 0, 0), 0, 0, []),
  (.aload_n 0, (0, 0, 0, 0), 0, 0, []),
  (.getfield 29, (3, 8, 2, 0), 0, 0, []),
  (.iload_n 1, (1, 0, 0, 0), 0, 0, []),
  (.lload_n 2, (2, 0, 0, 0), 0, 0, []),
  (.lastore, (0, 0, 0, 0), 0, 0, []),
  (.aload_n 0, (0, 0, 0, 0), 0, 0, []),
  (.getfield 21, (3, 3, 2, 0), 0, 0, []),
  (.getfield 184, (2, 13, 2, 0), 0, 0, []),
  (.iload_n 1, (1, 0, 0, 0), 0, 0, []),
  (.iload 4, (4, 0, 0, 0), 0, 0, []),
  (.iastore, (0, 0, 0, 0), 0, 0, []),
  (.aload_n 0, (0, 0, 0, 0), 0, 0, []),
  (.getfield 21, (3, 3, 2, 0), 0, 0, []),
  (.getfield 188, (2, 14, 2, 0), 0, 0, []),
  (.iload_n 1, (1, 0, 0, 0), 0, 0, []),
  (.aload_n 0, (0, 0, 0, 0), 0, 0, []),
  (.getfield 12, (3, 0, 2, 0), 0, 0, []),
  (.getfield 134, (6, 4, 0, 0), 0, 0, []),
  (.iastore, (0, 0, 0, 0), 0, 0, []),
  (.aload_n 0, (0, 0, 0, 0), 0, 0, []),
  (.getfield 21, (3, 3, 2, 0), 0, 0, []),
  (.dup, (0, 0, 0, 0), 0, 0, []),
  (.getfield 174, (2, 8, 0, 0), 0, 0, []),
  (.iconst 1, (0, 0, 0, 0), 1, 0, []),
  (.iadd, (0, 0, 0, 0), 0, 0, []),
  (.putfield 174, (2, 8, 0, 0), 0, 0, []),
  (.aload_n 0, (0, 0, 0, 0), 0, 0, []),
  (.getfield 12, (3, 0, 2, 0), 0, 0, []),
  (.invokevirtual 100, (80, 1, 0, 6), 0, 0, []),
  (.return_, (0, 0, 0, 0), 0, 0, [])]
def q_43 : List Nat := [0, 1, 4, 7, 8, 9, 10, 13, 14, 15, 18, 18, 19, 22, 23, 26, 27, 28, 31, 33, 34, 37, 39, 40, 43, 46, 47, 50, 53, 54, 57, 58, 59, 62, 62, 63, 66, 69, 70, 71, 73, 76, 79, 80, 82, 85, 85, 86, 89, 92, 93, 94, 97, 98, 101, 102, 103, 104, 105, 108, 111, 112, 114, 115, 116, 119, 122, 123, 124, 127, 130, 131, 132, 135, 136, 139, 140, 141, 144, 145, 148, 151, 152]
def m_43 : aMt := (yX4_readGallery, cX4_readGallery, 6, none, 4, 9, 264, (0, 0), 0, k_43, q_43)
def k_44 : List aM := [(.iload_n 2, (2, 0, 0, 0), 0, 0, []),
  (.istore_n 3, (3, 0, 0, 0), 0, 0, []),
  (.aload_n 0, (0, 0, 0, 0), 0, 0, []),
  (.getfield 21, (3, 3, 2, 0), 0, 0, []),
  (.iload_n 1, (1, 0, 0, 0), 0, 0, []),
  (.iconst 0, (0, 0, 0, 0), 0, 0, []),
  (.iload_n 3, (3, 0, 0, 0), 0, 0, []),
  (.invokevirtual 190, (32, 4, 0, 2), 0, 0, []),
  (.iconst 0, (0, 0, 0, 0), 0, 0, []),
  (.istore 4, (4, 0, 0, 0), 0, 0, []),
  (.nop, (0, 0, 0, 0), 0, 0, [(0, 1), (0, 1), (0, 0), (0, 1), (0, 1)]),
  (.iload 4, (4, 0, 0, 0), 0, 0, []),
  (.aload_n 0, (0, 0, 0, 0), 0, 0, []),
  (.getfield 12, (3, 0, 2, 0), 0, 0, []),
  (.getfield 134, (6, 4, 0, 0), 0, 0, []),
  (.if_icmp .ge 52, (41, 0, 0, 0), 0, 0, []),
  (.iload_n 3, (3, 0, 0, 0), 0, 0, []),
  (.aload_n 0, (0, 0, 0, 0), 0, 0, []),
  (.getfield 12, (3, 0, 2, 0), 0, 0, []),
  (.iload 4, (4, 0, 0, 0), 0, 0, []),
  (.invokevirtual 140, (82, 2, 1, 6), 0, 0, []),
  (.invokestatic 194, (57, 1, 1, 99), 0, 0, []),
  (.invokestatic 197, (7, 2, 1, 99), 0, 0, []),
  (.istore_n 3, (3, 0, 0, 0), 0, 0, []),
  (.aload_n 0, (0, 0, 0, 0), 0, 0, []),
  (.getfield 21, (3, 3, 2, 0), 0, 0, []),
  (.iload_n 3, (3, 0, 0, 0), 0, 0, []),
  (.invokevirtual 200, (26, 2, 1, 2), 0, 0, []),
  (.ifCond .ne 5, (31, 0, 0, 0), 0, 0, []),
  (.iconst 0, (0, 0, 0, 0), 0, 0, []),
  (.ireturn, (0, 0, 1, 0), 0, 0, []),
  (.aload_n 0, (0, 0, 0, 0), 0, 0, []),
  (.getfield 21, (3, 3, 2, 0), 0, 0, []),
  (.iload_n 1, (1, 0, 0, 0), 0, 0, []),
  (.iload 4, (4, 0, 0, 0), 0, 0, []),
  (.iconst 1, (0, 0, 0, 0), 1, 0, []),
  (.iadd, (0, 0, 0, 0), 0, 0, []),
  (.iload_n 3, (3, 0, 0, 0), 0, 0, []),
  (.invokevirtual 190, (32, 4, 0, 2), 0, 0, []),
  (.iinc 4 1, (4, 0, 0, 0), 1, 0, []),
  (.goto (-58), (10, 0, 0, 0), 0, 0, []),
  (.iconst 1, (0, 0, 0, 0), 1, 0, []),
  (.ireturn, (0, 0, 1, 0), 0, 0, [])]
def q_44 : List Nat := [0, 1, 2, 3, 6, 7, 8, 9, 12, 13, 15, 15, 17, 18, 21, 24, 27, 28, 29, 32, 34, 37, 40, 43, 44, 45, 48, 49, 52, 55, 56, 57, 58, 61, 62, 64, 65, 66, 67, 70, 73, 76, 77, 78]
def m_44 : aMt := (yX4_takeWay, cX4_takeWay, 5, (some .boolean), 4, 2, 43, (0, 0), 2, k_44, q_44)
def k_45 : List aM := [(.aload_n 0, (0, 0, 0, 0), 0, 0, []),
  (.getfield 21, (3, 3, 2, 0), 0, 0, []),
  (.getfield 204, (2, 9, 0, 0), 0, 0, []),
  (.bipush 6, (0, 0, 0, 0), 6, 0, []),
  (.if_icmp .lt 8, (8, 0, 0, 0), 0, 0, []),
  (.aload_n 0, (0, 0, 0, 0), 0, 0, []),
  (.iconst 5, (0, 0, 0, 0), 5, 0, []),
  (.invokevirtual 90, (58, 2, 0, 3), 0, 0, []),
  (.nop, (0, 0, 0, 0), 0, 0, [(0, 1), (0, 0), (0, 0), (0, 0), (0, 0)]),
  (.aload_n 0, (0, 0, 0, 0), 0, 0, []),
  (.invokevirtual 155, (46, 1, 0, 3), 0, 0, []),
  (.aload_n 0, (0, 0, 0, 0), 0, 0, []),
  (.invokevirtual 207, (53, 1, 1, 3), 0, 0, []),
  (.istore_n 1, (1, 0, 0, 0), 0, 0, []),
  (.aload_n 0, (0, 0, 0, 0), 0, 0, []),
  (.getfield 12, (3, 0, 2, 0), 0, 0, []),
  (.getfield 210, (6, 3, 0, 0), 0, 0, []),
  (.istore_n 2, (2, 0, 0, 0), 0, 0, []),
  (.aload_n 0, (0, 0, 0, 0), 0, 0, []),
  (.iconst 0, (0, 0, 0, 0), 0, 0, []),
  (.bipush 60, (0, 0, 0, 0), 60, 0, []),
  (.invokevirtual 213, (49, 3, 1, 3), 0, 0, []),
  (.istore_n 3, (3, 0, 0, 0), 0, 0, []),
  (.aload_n 0, (0, 0, 0, 0), 0, 0, []),
  (.getfield 21, (3, 3, 2, 0), 0, 0, []),
  (.iload_n 1, (1, 0, 0, 0), 0, 0, []),
  (.iload_n 3, (3, 0, 0, 0), 0, 0, []),
  (.invokevirtual 216, (30, 3, 1, 2), 0, 0, []),
  (.ifCond .eq 9, (33, 0, 0, 0), 0, 0, []),
  (.aload_n 0, (0, 0, 0, 0), 0, 0, []),
  (.iconst 3, (0, 0, 0, 0), 3, 0, []),
  (.iload_n 2, (2, 0, 0, 0), 0, 0, []),
  (.invokevirtual 219, (59, 3, 0, 3), 0, 0, []),
  (.nop, (0, 0, 0, 0), 0, 0, [(0, 1), (0, 1), (0, 0), (0, 1), (0, 0)]),
  (.aload_n 0, (0, 0, 0, 0), 0, 0, []),
  (.iconst 0, (0, 0, 0, 0), 0, 0, []),
  (.bipush 14, (0, 0, 0, 0), 14, 0, []),
  (.invokevirtual 213, (49, 3, 1, 3), 0, 0, []),
  (.istore 4, (4, 0, 0, 0), 0, 0, []),
  (.aload_n 0, (0, 0, 0, 0), 0, 0, []),
  (.getfield 35, (3, 1, 0, 0), 0, 0, []),
  (.ifCond .ne 14, (48, 0, 0, 0), 0, 0, []),
  (.aload_n 0, (0, 0, 0, 0), 0, 0, []),
  (.getfield 21, (3, 3, 2, 0), 0, 0, []),
  (.iload_n 1, (1, 0, 0, 0), 0, 0, []),
  (.iload_n 3, (3, 0, 0, 0), 0, 0, []),
  (.iload 4, (4, 0, 0, 0), 0, 0, []),
  (.invokevirtual 222, (29, 4, 0, 2), 0, 0, []),
  (.return_, (0, 0, 0, 0), 0, 0, [])]
def q_45 : List Nat := [0, 1, 4, 7, 9, 12, 13, 14, 17, 17, 18, 21, 22, 25, 26, 27, 30, 33, 34, 35, 36, 38, 41, 42, 43, 46, 47, 48, 51, 54, 55, 56, 57, 60, 60, 61, 62, 64, 67, 69, 70, 73, 76, 77, 80, 81, 82, 84, 87, 88]
def m_45 : aMt := (yX4_readReport, cX4_readReport, 5, none, 4, 9, 263, (0, 0), 0, k_45, q_45)
def k_46 : List aM := [(.aload_n 0, (0, 0, 0, 0), 0, 0, []),
  (.getfield 21, (3, 3, 2, 0), 0, 0, []),
  (.getfield 123, (2, 5, 0, 0), 0, 0, []),
  (.iconst 2, (0, 0, 0, 0), 2, 0, []),
  (.if_icmp .ge 9, (8, 0, 0, 0), 0, 0, []),
  (.aload_n 0, (0, 0, 0, 0), 0, 0, []),
  (.bipush 6, (0, 0, 0, 0), 6, 0, []),
  (.invokevirtual 90, (58, 2, 0, 3), 0, 0, []),
  (.nop, (0, 0, 0, 0), 0, 0, [(0, 1)]),
  (.aload_n 0, (0, 0, 0, 0), 0, 0, []),
  (.iconst 1, (0, 0, 0, 0), 1, 0, []),
  (.putfield 49, (3, 6, 4, 0), 0, 0, []),
  (.aload_n 0, (0, 0, 0, 0), 0, 0, []),
  (.getfield 35, (3, 1, 0, 0), 0, 0, []),
  (.ifCond .ne 10, (18, 0, 0, 0), 0, 0, []),
  (.aload_n 0, (0, 0, 0, 0), 0, 0, []),
  (.getfield 12, (3, 0, 2, 0), 0, 0, []),
  (.invokevirtual 100, (80, 1, 0, 6), 0, 0, []),
  (.return_, (0, 0, 0, 0), 0, 0, [])]
def q_46 : List Nat := [0, 1, 4, 7, 8, 11, 12, 14, 17, 17, 18, 19, 22, 23, 26, 29, 30, 33, 36, 37]
def m_46 : aMt := (yX4_startBehindRows, cX4_startBehindRows, 1, none, 4, 2, 43, (0, 0), 0, k_46, q_46)
def k_47 : List aM := [(.aload_n 0, (0, 0, 0, 0), 0, 0, []),
  (.getfield 35, (3, 1, 0, 0), 0, 0, []),
  (.ifCond .ne 26, (14, 0, 0, 0), 0, 0, []),
  (.aload_n 0, (0, 0, 0, 0), 0, 0, []),
  (.getfield 12, (3, 0, 2, 0), 0, 0, []),
  (.invokevirtual 100, (80, 1, 0, 6), 0, 0, []),
  (.aload_n 0, (0, 0, 0, 0), 0, 0, []),
  (.getfield 12, (3, 0, 2, 0), 0, 0, []),
  (.getfield 97, (6, 5, 0, 0), 0, 0, []),
  (.iconst 1, (0, 0, 0, 0), 1, 0, []),
  (.if_icmp .eq 8, (14, 0, 0, 0), 0, 0, []),
  (.aload_n 0, (0, 0, 0, 0), 0, 0, []),
  (.iconst 1, (0, 0, 0, 0), 1, 0, []),
  (.invokevirtual 90, (58, 2, 0, 3), 0, 0, []),
  (.return_, (0, 0, 0, 0), 0, 0, [])]
def q_47 : List Nat := [0, 1, 4, 7, 8, 11, 14, 15, 18, 21, 22, 25, 26, 27, 30, 31]
def m_47 : aMt := (yX4_nextWord, cX4_nextWord, 1, none, 4, 2, 43, (0, 0), 0, k_47, q_47)
def k_48 : List aM := [(.aload_n 0, (0, 0, 0, 0), 0, 0, []),
  (.getfield 12, (3, 0, 2, 0), 0, 0, []),
  (.aload_n 1, (1, 0, 0, 0), 0, 0, []),
  (.invokevirtual 58, (81, 2, 1, 6), 0, 0, []),
  (.ifCond .ne 8, (8, 0, 0, 0), 0, 0, []),
  (.aload_n 0, (0, 0, 0, 0), 0, 0, []),
  (.iconst 1, (0, 0, 0, 0), 1, 0, []),
  (.invokevirtual 90, (58, 2, 0, 3), 0, 0, []),
  (.nop, (0, 0, 0, 0), 0, 0, [(0, 1), (0, 0), (0, 1), (0, 1)]),
  (.aload_n 0, (0, 0, 0, 0), 0, 0, []),
  (.getfield 35, (3, 1, 0, 0), 0, 0, []),
  (.ifCond .ne 10, (15, 0, 0, 0), 0, 0, []),
  (.aload_n 0, (0, 0, 0, 0), 0, 0, []),
  (.getfield 12, (3, 0, 2, 0), 0, 0, []),
  (.invokevirtual 100, (80, 1, 0, 6), 0, 0, []),
  (.nop, (0, 0, 0, 0), 0, 0, [(0, 1), (0, 0), (0, 1), (0, 1)]),
  (.aload_n 0, (0, 0, 0, 0), 0, 0, []),
  (.iload_n 2, (2, 0, 0, 0), 0, 0, []),
  (.iload_n 3, (3, 0, 0, 0), 0, 0, []),
  (.invokevirtual 213, (49, 3, 1, 3), 0, 0, []),
  (.ireturn, (0, 0, 0, 0), 0, 0, [])]
def q_48 : List Nat := [0, 1, 4, 5, 8, 11, 12, 13, 16, 16, 17, 20, 23, 24, 27, 30, 30, 31, 32, 33, 36, 37]
def m_48 : aMt := (yX4_readNamed, cX4_readNamed, 4, (some .int), 4, 7, 222, (0, 0), 3, k_48, q_48)
def k_49 : List aM := [(.aload_n 0, (0, 0, 0, 0), 0, 0, []),
  (.getfield 12, (3, 0, 2, 0), 0, 0, []),
  (.getfield 97, (6, 5, 0, 0), 0, 0, []),
  (.iconst 2, (0, 0, 0, 0), 2, 0, []),
  (.if_icmp .eq 8, (8, 0, 0, 0), 0, 0, []),
  (.aload_n 0, (0, 0, 0, 0), 0, 0, []),
  (.iconst 1, (0, 0, 0, 0), 1, 0, []),
  (.invokevirtual 90, (58, 2, 0, 3), 0, 0, []),
  (.nop, (0, 0, 0, 0), 0, 0, [(0, 1), (0, 1), (0, 1), (0, 0)]),
  (.aload_n 0, (0, 0, 0, 0), 0, 0, []),
  (.getfield 12, (3, 0, 2, 0), 0, 0, []),
  (.invokevirtual 225, (83, 1, 1, 6), 0, 0, []),
  (.istore_n 3, (3, 0, 0, 0), 0, 0, []),
  (.iload_n 3, (3, 0, 0, 0), 0, 0, []),
  (.iload_n 1, (1, 0, 0, 0), 0, 0, []),
  (.if_icmp .lt 8, (19, 0, 0, 0), 0, 0, []),
  (.iload_n 3, (3, 0, 0, 0), 0, 0, []),
  (.iload_n 2, (2, 0, 0, 0), 0, 0, []),
  (.if_icmp .le 8, (23, 0, 0, 0), 0, 0, []),
  (.nop, (0, 0, 0, 0), 0, 0, [(0, 1), (0, 0), (0, 0), (0, 1)]),
  (.aload_n 0, (0, 0, 0, 0), 0, 0, []),
  (.iconst 4, (0, 0, 0, 0), 4, 0, []),
  (.invokevirtual 90, (58, 2, 0, 3), 0, 0, []),
  (.nop, (0, 0, 0, 0), 0, 0, [(0, 1), (0, 0), (0, 0), (0, 1)]),
  (.aload_n 0, (0, 0, 0, 0), 0, 0, []),
  (.getfield 35, (3, 1, 0, 0), 0, 0, []),
  (.ifCond .eq 5, (29, 0, 0, 0), 0, 0, []),
  (.iconst 0, (0, 0, 0, 0), 0, 0, []),
  (.ireturn, (0, 0, 0, 0), 0, 0, []),
  (.aload_n 0, (0, 0, 0, 0), 0, 0, []),
  (.getfield 12, (3, 0, 2, 0), 0, 0, []),
  (.invokevirtual 100, (80, 1, 0, 6), 0, 0, []),
  (.iload_n 3, (3, 0, 0, 0), 0, 0, []),
  (.ireturn, (0, 0, 0, 0), 0, 0, [])]
def q_49 : List Nat := [0, 1, 4, 7, 8, 11, 12, 13, 16, 16, 17, 20, 23, 24, 25, 26, 29, 30, 31, 34, 34, 35, 36, 39, 39, 40, 43, 46, 47, 48, 49, 52, 55, 56, 57]
def m_49 : aMt := (yX4_readWhole, cX4_readWhole, 4, (some .int), 4, 2, 43, (0, 0), 2, k_49, q_49)
def k_50 : List aM := [(.aload_n 0, (0, 0, 0, 0), 0, 0, []),
  (.iconst 0, (0, 0, 0, 0), 0, 0, []),
  (.aload_n 0, (0, 0, 0, 0), 0, 0, []),
  (.getfield 21, (3, 3, 2, 0), 0, 0, []),
  (.getfield 137, (2, 4, 0, 0), 0, 0, []),
  (.iconst 1, (0, 0, 0, 0), 1, 0, []),
  (.isub, (0, 0, 0, 0), 0, 0, []),
  (.invokevirtual 213, (49, 3, 1, 3), 0, 0, []),
  (.istore_n 1, (1, 0, 0, 0), 0, 0, []),
  (.aload_n 0, (0, 0, 0, 0), 0, 0, []),
  (.getfield 12, (3, 0, 2, 0), 0, 0, []),
  (.getfield 210, (6, 3, 0, 0), 0, 0, []),
  (.istore_n 2, (2, 0, 0, 0), 0, 0, []),
  (.aload_n 0, (0, 0, 0, 0), 0, 0, []),
  (.iconst 0, (0, 0, 0, 0), 0, 0, []),
  (.aload_n 0, (0, 0, 0, 0), 0, 0, []),
  (.getfield 21, (3, 3, 2, 0), 0, 0, []),
  (.getfield 123, (2, 5, 0, 0), 0, 0, []),
  (.iconst 1, (0, 0, 0, 0), 1, 0, []),
  (.isub, (0, 0, 0, 0), 0, 0, []),
  (.invokevirtual 213, (49, 3, 1, 3), 0, 0, []),
  (.istore_n 3, (3, 0, 0, 0), 0, 0, []),
  (.iload_n 1, (1, 0, 0, 0), 0, 0, []),
  (.iload_n 3, (3, 0, 0, 0), 0, 0, []),
  (.invokestatic 147, (0, 2, 1, 99), 0, 0, []),
  (.istore 4, (4, 0, 0, 0), 0, 0, []),
  (.aload_n 0, (0, 0, 0, 0), 0, 0, []),
  (.getfield 21, (3, 3, 2, 0), 0, 0, []),
  (.iload 4, (4, 0, 0, 0), 0, 0, []),
  (.invokevirtual 200, (26, 2, 1, 2), 0, 0, []),
  (.ifCond .ne 10, (35, 0, 0, 0), 0, 0, []),
  (.aload_n 0, (0, 0, 0, 0), 0, 0, []),
  (.bipush 7, (0, 0, 0, 0), 7, 0, []),
  (.iload_n 2, (2, 0, 0, 0), 0, 0, []),
  (.invokevirtual 219, (59, 3, 0, 3), 0, 0, []),
  (.iload 4, (4, 0, 0, 0), 0, 0, []),
  (.ireturn, (0, 0, 0, 0), 0, 0, [])]
def q_50 : List Nat := [0, 1, 2, 3, 6, 9, 10, 11, 14, 15, 16, 19, 22, 23, 24, 25, 26, 29, 32, 33, 34, 37, 38, 39, 40, 43, 45, 46, 49, 51, 54, 57, 58, 60, 61, 64, 66, 67]
def m_50 : aMt := (yX4_readCell, cX4_readCell, 5, (some .int), 4, 3, 66, (0, 0), 0, k_50, q_50)
def k_51 : List aM := [(.aload_n 0, (0, 0, 0, 0), 0, 0, []),
  (.getfield 12, (3, 0, 2, 0), 0, 0, []),
  (.ldc 228, (11, 0, 1, 0), 0, 0, []),
  (.invokevirtual 58, (81, 2, 1, 6), 0, 0, []),
  (.ifCond .eq 7, (7, 0, 0, 0), 0, 0, []),
  (.iconst 1, (0, 0, 0, 0), 1, 0, []),
  (.goto 4, (8, 0, 0, 0), 0, 0, []),
  (.iconst 0, (0, 0, 0, 0), 0, 0, []),
  (.nop, (0, 0, 0, 0), 0, 0, [(0, 1), (0, 0)]),
  (.istore_n 1, (1, 0, 0, 0), 0, 0, []),
  (.iload_n 1, (1, 0, 0, 0), 0, 0, []),
  (.ifCond .ne 20, (20, 0, 0, 0), 0, 0, []),
  (.aload_n 0, (0, 0, 0, 0), 0, 0, []),
  (.getfield 12, (3, 0, 2, 0), 0, 0, []),
  (.ldc 230, (10, 0, 1, 0), 0, 0, []),
  (.invokevirtual 58, (81, 2, 1, 6), 0, 0, []),
  (.ifCond .ne 8, (20, 0, 0, 0), 0, 0, []),
  (.aload_n 0, (0, 0, 0, 0), 0, 0, []),
  (.iconst 1, (0, 0, 0, 0), 1, 0, []),
  (.invokevirtual 90, (58, 2, 0, 3), 0, 0, []),
  (.nop, (0, 0, 0, 0), 0, 0, [(0, 1), (0, 1)]),
  (.aload_n 0, (0, 0, 0, 0), 0, 0, []),
  (.getfield 35, (3, 1, 0, 0), 0, 0, []),
  (.ifCond .ne 10, (27, 0, 0, 0), 0, 0, []),
  (.aload_n 0, (0, 0, 0, 0), 0, 0, []),
  (.getfield 12, (3, 0, 2, 0), 0, 0, []),
  (.invokevirtual 100, (80, 1, 0, 6), 0, 0, []),
  (.iload_n 1, (1, 0, 0, 0), 0, 0, []),
  (.ireturn, (0, 0, 0, 0), 0, 0, [])]
def q_51 : List Nat := [0, 1, 4, 6, 9, 12, 13, 16, 17, 17, 18, 19, 22, 23, 26, 28, 31, 34, 35, 36, 39, 39, 40, 43, 46, 47, 50, 53, 54, 55]
def m_51 : aMt := (yX4_readSide, cX4_readSide, 2, (some .int), 4, 7, 222, (0, 0), 0, k_51, q_51)
def k_52 : List aM := [(.aload_n 0, (0, 0, 0, 0), 0, 0, []),
  (.invokevirtual 232, (54, 1, 1, 3), 0, 0, []),
  (.ifCond .ne 8, (6, 0, 0, 0), 0, 0, []),
  (.aload_n 0, (0, 0, 0, 0), 0, 0, []),
  (.iconst 1, (0, 0, 0, 0), 1, 0, []),
  (.invokevirtual 90, (58, 2, 0, 3), 0, 0, []),
  (.nop, (0, 0, 0, 0), 0, 0, [(0, 1), (0, 0), (0, 0)]),
  (.aload_n 0, (0, 0, 0, 0), 0, 0, []),
  (.getfield 12, (3, 0, 2, 0), 0, 0, []),
  (.invokevirtual 235, (84, 1, 2, 6), 0, 0, []),
  (.lstore_n 1, (1, 0, 0, 0), 0, 0, []),
  (.aload_n 0, (0, 0, 0, 0), 0, 0, []),
  (.getfield 25, (3, 7, 2, 0), 0, 0, []),
  (.aload_n 0, (0, 0, 0, 0), 0, 0, []),
  (.getfield 21, (3, 3, 2, 0), 0, 0, []),
  (.getfield 164, (2, 7, 0, 0), 0, 0, []),
  (.lload_n 1, (1, 0, 0, 0), 0, 0, []),
  (.invokestatic 238, (55, 3, 1, 99), 0, 0, []),
  (.iconst (-1), (0, 0, 0, 0), (-1), 0, []),
  (.if_icmp .ne 22, (29, 0, 0, 0), 0, 0, []),
  (.aload_n 0, (0, 0, 0, 0), 0, 0, []),
  (.getfield 29, (3, 8, 2, 0), 0, 0, []),
  (.aload_n 0, (0, 0, 0, 0), 0, 0, []),
  (.getfield 21, (3, 3, 2, 0), 0, 0, []),
  (.getfield 174, (2, 8, 0, 0), 0, 0, []),
  (.lload_n 1, (1, 0, 0, 0), 0, 0, []),
  (.invokestatic 238, (55, 3, 1, 99), 0, 0, []),
  (.iconst (-1), (0, 0, 0, 0), (-1), 0, []),
  (.if_icmp .eq 8, (33, 0, 0, 0), 0, 0, []),
  (.nop, (0, 0, 0, 0), 0, 0, [(0, 1), (0, 1), (0, 0)]),
  (.aload_n 0, (0, 0, 0, 0), 0, 0, []),
  (.iconst 3, (0, 0, 0, 0), 3, 0, []),
  (.invokevirtual 90, (58, 2, 0, 3), 0, 0, []),
  (.nop, (0, 0, 0, 0), 0, 0, [(0, 1), (0, 1), (0, 0)]),
  (.aload_n 0, (0, 0, 0, 0), 0, 0, []),
  (.getfield 35, (3, 1, 0, 0), 0, 0, []),
  (.ifCond .ne 10, (40, 0, 0, 0), 0, 0, []),
  (.aload_n 0, (0, 0, 0, 0), 0, 0, []),
  (.getfield 12, (3, 0, 2, 0), 0, 0, []),
  (.invokevirtual 100, (80, 1, 0, 6), 0, 0, []),
  (.lload_n 1, (1, 0, 0, 0), 0, 0, []),
  (.lreturn, (0, 0, 0, 0), 0, 0, [])]
def q_52 : List Nat := [0, 1, 4, 7, 8, 9, 12, 12, 13, 16, 19, 20, 21, 24, 25, 28, 31, 32, 35, 36, 39, 40, 43, 44, 47, 50, 51, 54, 55, 58, 58, 59, 60, 63, 63, 64, 67, 70, 71, 74, 77, 78, 79]
def m_52 : aMt := (yX4_readNewName, cX4_readNewName, 3, (some .long), 4, 8, 242, (0, 0), 0, k_52, q_52)
def k_53 : List aM := [(.aload_n 0, (0, 0, 0, 0), 0, 0, []),
  (.invokevirtual 232, (54, 1, 1, 3), 0, 0, []),
  (.ifCond .ne 8, (6, 0, 0, 0), 0, 0, []),
  (.aload_n 0, (0, 0, 0, 0), 0, 0, []),
  (.iconst 1, (0, 0, 0, 0), 1, 0, []),
  (.invokevirtual 90, (58, 2, 0, 3), 0, 0, []),
  (.nop, (0, 0, 0, 0), 0, 0, [(0, 1), (0, 0)]),
  (.aload_n 0, (0, 0, 0, 0), 0, 0, []),
  (.getfield 25, (3, 7, 2, 0), 0, 0, []),
  (.aload_n 0, (0, 0, 0, 0), 0, 0, []),
  (.getfield 21, (3, 3, 2, 0), 0, 0, []),
  (.getfield 164, (2, 7, 0, 0), 0, 0, []),
  (.aload_n 0, (0, 0, 0, 0), 0, 0, []),
  (.getfield 12, (3, 0, 2, 0), 0, 0, []),
  (.invokevirtual 235, (84, 1, 2, 6), 0, 0, []),
  (.invokestatic 238, (55, 3, 1, 99), 0, 0, []),
  (.istore_n 1, (1, 0, 0, 0), 0, 0, []),
  (.iload_n 1, (1, 0, 0, 0), 0, 0, []),
  (.iconst (-1), (0, 0, 0, 0), (-1), 0, []),
  (.if_icmp .ne 8, (23, 0, 0, 0), 0, 0, []),
  (.aload_n 0, (0, 0, 0, 0), 0, 0, []),
  (.iconst 2, (0, 0, 0, 0), 2, 0, []),
  (.invokevirtual 90, (58, 2, 0, 3), 0, 0, []),
  (.nop, (0, 0, 0, 0), 0, 0, [(0, 1), (0, 1)]),
  (.aload_n 0, (0, 0, 0, 0), 0, 0, []),
  (.getfield 35, (3, 1, 0, 0), 0, 0, []),
  (.ifCond .ne 10, (30, 0, 0, 0), 0, 0, []),
  (.aload_n 0, (0, 0, 0, 0), 0, 0, []),
  (.getfield 12, (3, 0, 2, 0), 0, 0, []),
  (.invokevirtual 100, (80, 1, 0, 6), 0, 0, []),
  (.iload_n 1, (1, 0, 0, 0), 0, 0, []),
  (.ireturn, (0, 0, 0, 0), 0, 0, [])]
def q_53 : List Nat := [0, 1, 4, 7, 8, 9, 12, 12, 13, 16, 17, 20, 23, 24, 27, 30, 33, 34, 35, 36, 39, 40, 41, 44, 44, 45, 48, 51, 52, 55, 58, 59, 60]
def m_53 : aMt := (yX4_readDrumName, cX4_readDrumName, 2, (some .int), 4, 8, 242, (0, 0), 0, k_53, q_53)
def k_54 : List aM := [(.aload_n 0, (0, 0, 0, 0), 0, 0, []),
  (.getfield 12, (3, 0, 2, 0), 0, 0, []),
  (.getfield 97, (6, 5, 0, 0), 0, 0, []),
  (.iconst 1, (0, 0, 0, 0), 1, 0, []),
  (.if_icmp .ne 79, (37, 0, 0, 0), 0, 0, []),
  (.aload_n 0, (0, 0, 0, 0), 0, 0, []),
  (.getfield 12, (3, 0, 2, 0), 0, 0, []),
  (.ldc 56, (0, 0, 1, 0), 0, 0, []),
  (.invokevirtual 58, (81, 2, 1, 6), 0, 0, []),
  (.ifCond .ne 67, (37, 0, 0, 0), 0, 0, []),
  (.aload_n 0, (0, 0, 0, 0), 0, 0, []),
  (.getfield 12, (3, 0, 2, 0), 0, 0, []),
  (.ldc 65, (1, 0, 1, 0), 0, 0, []),
  (.invokevirtual 58, (81, 2, 1, 6), 0, 0, []),
  (.ifCond .ne 55, (37, 0, 0, 0), 0, 0, []),
  (.aload_n 0, (0, 0, 0, 0), 0, 0, []),
  (.getfield 12, (3, 0, 2, 0), 0, 0, []),
  (.ldc 70, (2, 0, 1, 0), 0, 0, []),
  (.invokevirtual 58, (81, 2, 1, 6), 0, 0, []),
  (.ifCond .ne 43, (37, 0, 0, 0), 0, 0, []),
  (.aload_n 0, (0, 0, 0, 0), 0, 0, []),
  (.getfield 12, (3, 0, 2, 0), 0, 0, []),
  (.ldc 75, (3, 0, 1, 0), 0, 0, []),
  (.invokevirtual 58, (81, 2, 1, 6), 0, 0, []),
  (.ifCond .ne 31, (37, 0, 0, 0), 0, 0, []),
  (.aload_n 0, (0, 0, 0, 0), 0, 0, []),
  (.getfield 12, (3, 0, 2, 0), 0, 0, []),
  (.ldc 80, (4, 0, 1, 0), 0, 0, []),
  (.invokevirtual 58, (81, 2, 1, 6), 0, 0, []),
  (.ifCond .ne 19, (37, 0, 0, 0), 0, 0, []),
  (.aload_n 0, (0, 0, 0, 0), 0, 0, []),
  (.getfield 12, (3, 0, 2, 0), 0, 0, []),
  (.ldc 85, (5, 0, 1, 0), 0, 0, []),
  (.invokevirtual 58, (81, 2, 1, 6), 0, 0, []),
  (.ifCond .ne 7, (37, 0, 0, 0), 0, 0, []),
  (.iconst 1, (0, 0, 0, 0), 1, 0, []),
  (.goto 4, (38, 0, 0, 0), 0, 0, []),
  (.iconst 0, (0, 0, 0, 0), 0, 0, []),
  (.ireturn, (0, 0, 1, 0), 0, 0, [])]
def q_54 : List Nat := [0, 1, 4, 7, 8, 11, 12, 15, 17, 20, 23, 24, 27, 29, 32, 35, 36, 39, 41, 44, 47, 48, 51, 53, 56, 59, 60, 63, 65, 68, 71, 72, 75, 77, 80, 83, 84, 87, 88, 89]
def m_54 : aMt := (yX4_isName, cX4_isName, 1, (some .boolean), 4, 7, 222, (0, 0), 0, k_54, q_54)
def k_55 : List aM := [(.iconst 0, (0, 0, 0, 0), 0, 0, []),
  (.istore 4, (4, 0, 0, 0), 0, 0, []),
  (.nop, (0, 0, 0, 0), 0, 0, [(0, 1), (0, 1), (0, 1), (0, 0), (0, 1)]),
  (.iload 4, (4, 0, 0, 0), 0, 0, []),
  (.iload_n 1, (1, 0, 0, 0), 0, 0, []),
  (.if_icmp .ge 28, (20, 0, 0, 0), 0, 0, []),
  (.iload 4, (4, 0, 0, 0), 0, 0, []),
  (.aload_n 0, (0, 0, 0, 0), 0, 0, []),
  (.arraylength, (13, 0, 0, 0), 0, 0, []),
  (.if_icmp .ge 21, (20, 0, 0, 0), 0, 0, []),
  (.aload_n 0, (0, 0, 0, 0), 0, 0, []),
  (.iload 4, (4, 0, 0, 0), 0, 0, []),
  (.laload, (0, 0, 0, 0), 0, 0, []),
  (.lload_n 2, (2, 0, 0, 0), 0, 0, []),
  (.lcmp, (0, 0, 0, 0), 0, 0, []),
  (.ifCond .ne 6, (18, 0, 0, 0), 0, 0, []),
  (.iload 4, (4, 0, 0, 0), 0, 0, []),
  (.ireturn, (0, 0, 0, 0), 0, 0, []),
  (.iinc 4 1, (4, 0, 0, 0), 1, 0, []),
  (.goto (-28), (2, 0, 0, 0), 0, 0, []),
  (.iconst (-1), (0, 0, 0, 0), (-1), 0, []),
  (.ireturn, (0, 0, 0, 0), 0, 0, [])]
def q_55 : List Nat := [0, 1, 3, 3, 5, 6, 9, 11, 12, 13, 16, 17, 19, 20, 21, 22, 25, 27, 28, 31, 34, 35, 36]
def m_55 : aMt := (yX4_find, cX4_find, 5, (some .int), 4, 0, 0, (0, 0), 3, k_55, q_55)
def k_56 : List aM := [(.iload_n 0, (0, 0, 0, 0), 0, 0, []),
  (.lookupswitch 51 #[(99, 45), (103, 47), (114, 49), (115, 43)], (10, 0, 0, 0), 0, 0, [(99, 4), (103, 6), (114, 8), (115, 2)]),
  (.iconst 0, (0, 0, 0, 0), 0, 0, []),
  (.ireturn, (0, 0, 0, 0), 0, 0, []),
  (.iconst 1, (0, 0, 0, 0), 1, 0, []),
  (.ireturn, (0, 0, 0, 0), 0, 0, []),
  (.iconst 2, (0, 0, 0, 0), 2, 0, []),
  (.ireturn, (0, 0, 0, 0), 0, 0, []),
  (.iconst 3, (0, 0, 0, 0), 3, 0, []),
  (.ireturn, (0, 0, 0, 0), 0, 0, []),
  (.iconst (-1), (0, 0, 0, 0), (-1), 0, []),
  (.ireturn, (0, 0, 0, 0), 0, 0, [])]
def q_56 : List Nat := [0, 1, 44, 45, 46, 47, 48, 49, 50, 51, 52, 53, 54]
def m_56 : aMt := (yX4_soilOf, cX4_soilOf, 1, (some .int), 4, 0, 0, (0, 0), 1, k_56, q_56)
def k_57 : List aM := [(.iload_n 0, (0, 0, 0, 0), 0, 0, []),
  (.lookupswitch 51 #[(101, 45), (110, 43), (115, 47), (119, 49)], (10, 0, 0, 0), 0, 0, [(101, 4), (110, 2), (115, 6), (119, 8)]),
  (.iconst 1, (0, 0, 0, 0), 1, 0, []),
  (.ireturn, (0, 0, 0, 0), 0, 0, []),
  (.iconst 2, (0, 0, 0, 0), 2, 0, []),
  (.ireturn, (0, 0, 0, 0), 0, 0, []),
  (.iconst 3, (0, 0, 0, 0), 3, 0, []),
  (.ireturn, (0, 0, 0, 0), 0, 0, []),
  (.iconst 4, (0, 0, 0, 0), 4, 0, []),
  (.ireturn, (0, 0, 0, 0), 0, 0, []),
  (.iconst (-1), (0, 0, 0, 0), (-1), 0, []),
  (.ireturn, (0, 0, 0, 0), 0, 0, [])]
def q_57 : List Nat := [0, 1, 44, 45, 46, 47, 48, 49, 50, 51, 52, 53, 54]
def m_57 : aMt := (yX4_wayOf, cX4_wayOf, 1, (some .int), 4, 0, 0, (0, 0), 1, k_57, q_57)
def k_58 : List aM := [(.aload_n 0, (0, 0, 0, 0), 0, 0, []),
  (.iload_n 1, (1, 0, 0, 0), 0, 0, []),
  (.aload_n 0, (0, 0, 0, 0), 0, 0, []),
  (.getfield 12, (3, 0, 2, 0), 0, 0, []),
  (.getfield 210, (6, 3, 0, 0), 0, 0, []),
  (.invokevirtual 219, (59, 3, 0, 3), 0, 0, []),
  (.return_, (0, 0, 0, 0), 0, 0, [])]
def q_58 : List Nat := [0, 1, 2, 3, 6, 9, 12, 13]
def m_58 : aMt := (yX4_fail, cX4_fail, 2, none, 4, 1, 22, (0, 0), 1, k_58, q_58)
def k_59 : List aM := [(.aload_n 0, (0, 0, 0, 0), 0, 0, []),
  (.getfield 35, (3, 1, 0, 0), 0, 0, []),
  (.ifCond .ne 13, (9, 0, 0, 0), 0, 0, []),
  (.aload_n 0, (0, 0, 0, 0), 0, 0, []),
  (.iload_n 1, (1, 0, 0, 0), 0, 0, []),
  (.putfield 35, (3, 1, 0, 0), 0, 0, []),
  (.aload_n 0, (0, 0, 0, 0), 0, 0, []),
  (.iload_n 2, (2, 0, 0, 0), 0, 0, []),
  (.putfield 39, (3, 2, 0, 0), 0, 0, []),
  (.return_, (0, 0, 0, 0), 0, 0, [])]
def q_59 : List Nat := [0, 1, 4, 7, 8, 9, 12, 13, 14, 17, 18]
def m_59 : aMt := (yX4_failAt, cX4_failAt, 3, none, 4, 0, 0, (0, 0), 2, k_59, q_59)
def k_60 : List aM := [(.aload_n 0, (0, 0, 0, 0), 0, 0, []),
  (.invokespecial 3, (0, 0, 9, 0), 0, 0, []),
  (.aload_n 0, (0, 0, 0, 0), 0, 0, []),
  (.sipush 320, (0, 0, 0, 0), 320, 0, []),
  (.newarray .int, (13, 0, 0, 0), 0, 0, []),
  (.putfield 11, (4, 0, 2, 0), 0, 0, []),
  (.aload_n 0, (0, 0, 0, 0), 0, 0, []),
  (.sipush 320, (0, 0, 0, 0), 320, 0, []),
  (.newarray .int, (13, 0, 0, 0), 0, 0, []),
  (.putfield 15, (4, 1, 2, 0), 0, 0, []),
  (.aload_n 0, (0, 0, 0, 0), 0, 0, []),
  (.bipush 64, (0, 0, 0, 0), 64, 0, []),
  (.newarray .int, (13, 0, 0, 0), 0, 0, []),
  (.putfield 20, (4, 3, 2, 0), 0, 0, []),
  (.aload_n 0, (0, 0, 0, 0), 0, 0, []),
  (.bipush 15, (0, 0, 0, 0), 15, 0, []),
  (.newarray .int, (13, 0, 0, 0), 0, 0, []),
  (.putfield 23, (4, 4, 2, 0), 0, 0, []),
  (.return_, (0, 0, 0, 0), 0, 0, [])]
def q_60 : List Nat := [0, 1, 4, 5, 8, 10, 13, 14, 17, 19, 22, 23, 25, 27, 30, 31, 33, 35, 38, 39]
def m_60 : aMt := (yX5_init, cX5_init, 1, none, 5, 1, 20, (4, 719), 0, k_60, q_60)
def k_61 : List aM := [(.aload_n 0, (0, 0, 0, 0), 0, 0, []),
  (.iconst 0, (0, 0, 0, 0), 0, 0, []),
  (.putfield 26, (4, 2, 0, 0), 0, 0, []),
  (.iconst 0, (0, 0, 0, 0), 0, 0, []),
  (.istore_n 2, (2, 0, 0, 0), 0, 0, []),
  (.nop, (0, 0, 0, 0), 0, 0, [(0, 1), (0, 1), (0, 1), (0, 0)]),
  (.iload_n 2, (2, 0, 0, 0), 0, 0, []),
  (.bipush 64, (0, 0, 0, 0), 64, 0, []),
  (.if_icmp .ge 79, (50, 0, 0, 0), 0, 0, []),
  (.iconst 0, (0, 0, 0, 0), 0, 0, []),
  (.istore_n 3, (3, 0, 0, 0), 0, 0, []),
  (.nop, (0, 0, 0, 0), 0, 0, [(0, 1), (0, 1), (0, 1), (0, 1)]),
  (.iload_n 3, (3, 0, 0, 0), 0, 0, []),
  (.iconst 5, (0, 0, 0, 0), 5, 0, []),
  (.if_icmp .ge 66, (48, 0, 0, 0), 0, 0, []),
  (.aload_n 1, (1, 0, 0, 0), 0, 0, []),
  (.iload_n 2, (2, 0, 0, 0), 0, 0, []),
  (.invokevirtual 30, (26, 2, 1, 2), 0, 0, []),
  (.ifCond .eq 52, (46, 0, 0, 0), 0, 0, []),
  (.aload_n 1, (1, 0, 0, 0), 0, 0, []),
  (.iload_n 2, (2, 0, 0, 0), 0, 0, []),
  (.iload_n 3, (3, 0, 0, 0), 0, 0, []),
  (.invokestatic 36, (62, 3, 1, 99), 0, 0, []),
  (.ifCond .eq 43, (46, 0, 0, 0), 0, 0, []),
  (.aload_n 0, (0, 0, 0, 0), 0, 0, []),
  (.getfield 26, (4, 2, 0, 0), 0, 0, []),
  (.sipush 320, (0, 0, 0, 0), 320, 0, []),
  (.if_icmp .ge 33, (46, 0, 0, 0), 0, 0, []),
  (.aload_n 0, (0, 0, 0, 0), 0, 0, []),
  (.getfield 11, (4, 0, 2, 0), 0, 0, []),
  (.aload_n 0, (0, 0, 0, 0), 0, 0, []),
  (.getfield 26, (4, 2, 0, 0), 0, 0, []),
  (.iload_n 2, (2, 0, 0, 0), 0, 0, []),
  (.iastore, (0, 0, 0, 0), 0, 0, []),
  (.aload_n 0, (0, 0, 0, 0), 0, 0, []),
  (.getfield 15, (4, 1, 2, 0), 0, 0, []),
  (.aload_n 0, (0, 0, 0, 0), 0, 0, []),
  (.getfield 26, (4, 2, 0, 0), 0, 0, []),
  (.iload_n 3, (3, 0, 0, 0), 0, 0, []),
  (.iastore, (0, 0, 0, 0), 0, 0, []),
  (.aload_n 0, (0, 0, 0, 0), 0, 0, []),
  (.dup, (0, 0, 0, 0), 0, 0, []),
  (.getfield 26, (4, 2, 0, 0), 0, 0, []),
  (.iconst 1, (0, 0, 0, 0), 1, 0, []),
  (.iadd, (0, 0, 0, 0), 0, 0, []),
  (.putfield 26, (4, 2, 0, 0), 0, 0, []),
  (.iinc 3 1, (3, 0, 0, 0), 1, 0, []),
  (.goto (-65), (11, 0, 0, 0), 0, 0, []),
  (.iinc 2 1, (2, 0, 0, 0), 1, 0, []),
  (.goto (-79), (5, 0, 0, 0), 0, 0, []),
  (.return_, (0, 0, 0, 0), 0, 0, [])]
def q_61 : List Nat := [0, 1, 2, 5, 6, 7, 7, 8, 10, 13, 14, 15, 15, 16, 17, 20, 21, 22, 25, 28, 29, 30, 31, 34, 37, 38, 41, 44, 47, 48, 51, 52, 55, 56, 57, 58, 61, 62, 65, 66, 67, 68, 69, 72, 73, 74, 77, 80, 83, 86, 89, 90]
def m_61 : aMt := (yX5_gather, cX5_gather, 4, none, 5, 4, 95, (0, 0), 1, k_61, q_61)
def k_62 : List aM := [(.iconst 0, (0, 0, 0, 0), 0, 0, []),
  (.istore_n 3, (3, 0, 0, 0), 0, 0, []),
  (.nop, (0, 0, 0, 0), 0, 0, [(0, 1), (0, 1), (0, 1), (0, 1), (0, 0), (0, 0)]),
  (.iload_n 3, (3, 0, 0, 0), 0, 0, []),
  (.aload_n 0, (0, 0, 0, 0), 0, 0, []),
  (.getfield 40, (2, 9, 0, 0), 0, 0, []),
  (.if_icmp .ge 76, (46, 0, 0, 0), 0, 0, []),
  (.aload_n 0, (0, 0, 0, 0), 0, 0, []),
  (.getfield 43, (2, 16, 2, 0), 0, 0, []),
  (.iload_n 3, (3, 0, 0, 0), 0, 0, []),
  (.iaload, (13, 0, 0, 0), 0, 0, []),
  (.istore 4, (4, 0, 0, 0), 0, 0, []),
  (.iload 4, (4, 0, 0, 0), 0, 0, []),
  (.ifCond .lt 57, (44, 0, 0, 0), 0, 0, []),
  (.iload 4, (4, 0, 0, 0), 0, 0, []),
  (.aload_n 0, (0, 0, 0, 0), 0, 0, []),
  (.getfield 46, (2, 7, 0, 0), 0, 0, []),
  (.if_icmp .ge 48, (44, 0, 0, 0), 0, 0, []),
  (.aload_n 0, (0, 0, 0, 0), 0, 0, []),
  (.iload_n 1, (1, 0, 0, 0), 0, 0, []),
  (.iload_n 2, (2, 0, 0, 0), 0, 0, []),
  (.aload_n 0, (0, 0, 0, 0), 0, 0, []),
  (.getfield 49, (2, 17, 2, 0), 0, 0, []),
  (.iload_n 3, (3, 0, 0, 0), 0, 0, []),
  (.iaload, (13, 0, 0, 0), 0, 0, []),
  (.invokestatic 52, (63, 4, 1, 99), 0, 0, []),
  (.aload_n 0, (0, 0, 0, 0), 0, 0, []),
  (.getfield 56, (2, 12, 2, 0), 0, 0, []),
  (.iload 4, (4, 0, 0, 0), 0, 0, []),
  (.iaload, (13, 0, 0, 0), 0, 0, []),
  (.invokestatic 59, (4, 2, 1, 99), 0, 0, []),
  (.istore 5, (5, 0, 0, 0), 0, 0, []),
  (.iload 5, (5, 0, 0, 0), 0, 0, []),
  (.aload_n 0, (0, 0, 0, 0), 0, 0, []),
  (.getfield 63, (2, 18, 2, 0), 0, 0, []),
  (.iload_n 3, (3, 0, 0, 0), 0, 0, []),
  (.iaload, (13, 0, 0, 0), 0, 0, []),
  (.isub, (0, 0, 0, 0), 0, 0, []),
  (.invokestatic 66, (900, 1, 1, 99), 0, 0, []),
  (.aload_n 0, (0, 0, 0, 0), 0, 0, []),
  (.getfield 72, (2, 1, 0, 0), 0, 0, []),
  (.if_icmp .le 5, (44, 0, 0, 0), 0, 0, []),
  (.iconst 0, (0, 0, 0, 0), 0, 0, []),
  (.ireturn, (0, 0, 1, 0), 0, 0, []),
  (.iinc 3 1, (3, 0, 0, 0), 1, 0, []),
  (.goto (-78), (2, 0, 0, 0), 0, 0, []),
  (.iconst 1, (0, 0, 0, 0), 1, 0, []),
  (.ireturn, (0, 0, 1, 0), 0, 0, [])]
def q_62 : List Nat := [0, 1, 2, 2, 3, 4, 7, 10, 11, 14, 15, 16, 18, 20, 23, 25, 26, 29, 32, 33, 34, 35, 36, 39, 40, 41, 44, 45, 48, 50, 51, 54, 56, 58, 59, 62, 63, 64, 65, 68, 69, 72, 75, 76, 77, 80, 83, 84, 85]
def m_62 : aMt := (yX5_isAsHeard, cX5_isAsHeard, 6, (some .boolean), 5, 3, 70, (0, 0), 3, k_62, q_62)
def k_63 : List aM := [(.aload_n 0, (0, 0, 0, 0), 0, 0, []),
  (.getfield 75, (2, 2, 0, 0), 0, 0, []),
  (.ifCond .le 12, (8, 0, 0, 0), 0, 0, []),
  (.iload_n 3, (3, 0, 0, 0), 0, 0, []),
  (.aload_n 0, (0, 0, 0, 0), 0, 0, []),
  (.getfield 75, (2, 2, 0, 0), 0, 0, []),
  (.idiv, (0, 0, 0, 0), 0, 0, []),
  (.goto 4, (9, 0, 0, 0), 0, 0, []),
  (.iconst 0, (0, 0, 0, 0), 0, 0, []),
  (.nop, (0, 0, 0, 0), 0, 0, [(0, 1), (0, 1), (0, 1), (0, 0), (0, 0), (0, 0), (0, 0), (0, 0)]),
  (.istore 4, (4, 0, 0, 0), 0, 0, []),
  (.iload_n 1, (1, 0, 0, 0), 0, 0, []),
  (.istore 5, (5, 0, 0, 0), 0, 0, []),
  (.iconst 0, (0, 0, 0, 0), 0, 0, []),
  (.istore 6, (6, 0, 0, 0), 0, 0, []),
  (.nop, (0, 0, 0, 0), 0, 0, [(0, 1), (0, 0), (0, 1), (0, 0), (0, 1), (0, 1), (0, 1), (0, 0)]),
  (.iload 6, (6, 0, 0, 0), 0, 0, []),
  (.iload 4, (4, 0, 0, 0), 0, 0, []),
  (.if_icmp .ge 40, (36, 0, 0, 0), 0, 0, []),
  (.iload 6, (6, 0, 0, 0), 0, 0, []),
  (.bipush 8, (0, 0, 0, 0), 8, 0, []),
  (.if_icmp .ge 33, (36, 0, 0, 0), 0, 0, []),
  (.iload 5, (5, 0, 0, 0), 0, 0, []),
  (.iload_n 2, (2, 0, 0, 0), 0, 0, []),
  (.invokestatic 78, (7, 2, 1, 99), 0, 0, []),
  (.istore 7, (7, 0, 0, 0), 0, 0, []),
  (.aload_n 0, (0, 0, 0, 0), 0, 0, []),
  (.iload 7, (7, 0, 0, 0), 0, 0, []),
  (.invokevirtual 30, (26, 2, 1, 2), 0, 0, []),
  (.ifCond .ne 6, (32, 0, 0, 0), 0, 0, []),
  (.iload 5, (5, 0, 0, 0), 0, 0, []),
  (.ireturn, (0, 0, 0, 0), 0, 0, []),
  (.iload 7, (7, 0, 0, 0), 0, 0, []),
  (.istore 5, (5, 0, 0, 0), 0, 0, []),
  (.iinc 6 1, (6, 0, 0, 0), 1, 0, []),
  (.goto (-41), (15, 0, 0, 0), 0, 0, []),
  (.iload 5, (5, 0, 0, 0), 0, 0, []),
  (.ireturn, (0, 0, 0, 0), 0, 0, [])]
def q_63 : List Nat := [0, 1, 4, 7, 8, 9, 12, 13, 16, 17, 17, 19, 20, 22, 23, 25, 25, 27, 29, 32, 34, 36, 39, 41, 42, 45, 47, 48, 50, 53, 56, 58, 59, 61, 63, 66, 69, 71, 72]
def m_63 : aMt := (yX5_walk, cX5_walk, 8, (some .int), 5, 2, 43, (0, 0), 4, k_63, q_63)
def k_64 : List aM := [(.iload_n 2, (2, 0, 0, 0), 0, 0, []),
  (.ifCond .lt 31, (18, 0, 0, 0), 0, 0, []),
  (.iload_n 2, (2, 0, 0, 0), 0, 0, []),
  (.aload_n 0, (0, 0, 0, 0), 0, 0, []),
  (.getfield 26, (4, 2, 0, 0), 0, 0, []),
  (.if_icmp .ge 23, (18, 0, 0, 0), 0, 0, []),
  (.aload_n 1, (1, 0, 0, 0), 0, 0, []),
  (.aload_n 0, (0, 0, 0, 0), 0, 0, []),
  (.getfield 11, (4, 0, 2, 0), 0, 0, []),
  (.iload_n 2, (2, 0, 0, 0), 0, 0, []),
  (.iaload, (13, 0, 0, 0), 0, 0, []),
  (.aload_n 0, (0, 0, 0, 0), 0, 0, []),
  (.getfield 15, (4, 1, 2, 0), 0, 0, []),
  (.iload_n 2, (2, 0, 0, 0), 0, 0, []),
  (.iaload, (13, 0, 0, 0), 0, 0, []),
  (.iload_n 3, (3, 0, 0, 0), 0, 0, []),
  (.invokestatic 52, (63, 4, 1, 99), 0, 0, []),
  (.goto 4, (19, 0, 0, 0), 0, 0, []),
  (.iconst (-1), (0, 0, 0, 0), (-1), 0, []),
  (.ireturn, (0, 0, 0, 0), 0, 0, [])]
def q_64 : List Nat := [0, 1, 4, 5, 6, 9, 12, 13, 14, 17, 18, 19, 20, 23, 24, 25, 26, 29, 32, 33, 34]
def m_64 : aMt := (yX5_placeOn, cX5_placeOn, 4, (some .int), 5, 3, 70, (0, 0), 3, k_64, q_64)
def k_65 : List aM := [(.iconst 0, (0, 0, 0, 0), 0, 0, []),
  (.istore_n 3, (3, 0, 0, 0), 0, 0, []),
  (.nop, (0, 0, 0, 0), 0, 0, [(0, 1), (0, 1), (0, 1), (0, 1), (0, 0)]),
  (.iload_n 3, (3, 0, 0, 0), 0, 0, []),
  (.aload_n 0, (0, 0, 0, 0), 0, 0, []),
  (.getfield 20, (4, 3, 2, 0), 0, 0, []),
  (.arraylength, (13, 0, 0, 0), 0, 0, []),
  (.if_icmp .ge 16, (15, 0, 0, 0), 0, 0, []),
  (.aload_n 0, (0, 0, 0, 0), 0, 0, []),
  (.getfield 20, (4, 3, 2, 0), 0, 0, []),
  (.iload_n 3, (3, 0, 0, 0), 0, 0, []),
  (.iconst 0, (0, 0, 0, 0), 0, 0, []),
  (.iastore, (0, 0, 0, 0), 0, 0, []),
  (.iinc 3 1, (3, 0, 0, 0), 1, 0, []),
  (.goto (-19), (2, 0, 0, 0), 0, 0, []),
  (.iconst 0, (0, 0, 0, 0), 0, 0, []),
  (.istore_n 3, (3, 0, 0, 0), 0, 0, []),
  (.nop, (0, 0, 0, 0), 0, 0, [(0, 1), (0, 1), (0, 1), (0, 1), (0, 0)]),
  (.iload_n 3, (3, 0, 0, 0), 0, 0, []),
  (.aload_n 0, (0, 0, 0, 0), 0, 0, []),
  (.getfield 26, (4, 2, 0, 0), 0, 0, []),
  (.if_icmp .ge 37, (41, 0, 0, 0), 0, 0, []),
  (.aload_n 0, (0, 0, 0, 0), 0, 0, []),
  (.aload_n 1, (1, 0, 0, 0), 0, 0, []),
  (.iload_n 3, (3, 0, 0, 0), 0, 0, []),
  (.iload_n 2, (2, 0, 0, 0), 0, 0, []),
  (.invokevirtual 81, (64, 4, 1, 4), 0, 0, []),
  (.istore 4, (4, 0, 0, 0), 0, 0, []),
  (.iload 4, (4, 0, 0, 0), 0, 0, []),
  (.invokestatic 85, (6, 1, 1, 99), 0, 0, []),
  (.ifCond .eq 14, (39, 0, 0, 0), 0, 0, []),
  (.aload_n 0, (0, 0, 0, 0), 0, 0, []),
  (.getfield 20, (4, 3, 2, 0), 0, 0, []),
  (.iload 4, (4, 0, 0, 0), 0, 0, []),
  (.dup2, (0, 0, 0, 0), 0, 0, []),
  (.iaload, (13, 0, 0, 0), 0, 0, []),
  (.iconst 1, (0, 0, 0, 0), 1, 0, []),
  (.iadd, (0, 0, 0, 0), 0, 0, []),
  (.iastore, (0, 0, 0, 0), 0, 0, []),
  (.iinc 3 1, (3, 0, 0, 0), 1, 0, []),
  (.goto (-39), (17, 0, 0, 0), 0, 0, []),
  (.return_, (0, 0, 0, 0), 0, 0, [])]
def q_65 : List Nat := [0, 1, 2, 2, 3, 4, 7, 8, 11, 12, 15, 16, 17, 18, 21, 24, 25, 26, 26, 27, 28, 31, 34, 35, 36, 37, 38, 41, 43, 45, 48, 51, 52, 55, 57, 58, 59, 60, 61, 62, 65, 68, 69]
def m_65 : aMt := (yX5_tally, cX5_tally, 5, none, 5, 4, 93, (0, 0), 2, k_65, q_65)
def k_66 : List aM := [(.iload_n 1, (1, 0, 0, 0), 0, 0, []),
  (.invokestatic 85, (6, 1, 1, 99), 0, 0, []),
  (.ifCond .eq 12, (8, 0, 0, 0), 0, 0, []),
  (.aload_n 0, (0, 0, 0, 0), 0, 0, []),
  (.getfield 20, (4, 3, 2, 0), 0, 0, []),
  (.iload_n 1, (1, 0, 0, 0), 0, 0, []),
  (.iaload, (13, 0, 0, 0), 0, 0, []),
  (.goto 4, (9, 0, 0, 0), 0, 0, []),
  (.iconst 0, (0, 0, 0, 0), 0, 0, []),
  (.ireturn, (0, 0, 0, 0), 0, 0, [])]
def q_66 : List Nat := [0, 1, 4, 7, 8, 11, 12, 13, 16, 17, 18]
def m_66 : aMt := (yX5_inCell, cX5_inCell, 2, (some .int), 5, 1, 20, (0, 0), 1, k_66, q_66)
def k_67 : List aM := [(.iconst 0, (0, 0, 0, 0), 0, 0, []),
  (.istore_n 1, (1, 0, 0, 0), 0, 0, []),
  (.iconst 0, (0, 0, 0, 0), 0, 0, []),
  (.istore_n 2, (2, 0, 0, 0), 0, 0, []),
  (.nop, (0, 0, 0, 0), 0, 0, [(0, 1), (0, 1), (0, 1)]),
  (.iload_n 2, (2, 0, 0, 0), 0, 0, []),
  (.aload_n 0, (0, 0, 0, 0), 0, 0, []),
  (.getfield 20, (4, 3, 2, 0), 0, 0, []),
  (.arraylength, (13, 0, 0, 0), 0, 0, []),
  (.if_icmp .ge 25, (22, 0, 0, 0), 0, 0, []),
  (.aload_n 0, (0, 0, 0, 0), 0, 0, []),
  (.getfield 20, (4, 3, 2, 0), 0, 0, []),
  (.iload_n 2, (2, 0, 0, 0), 0, 0, []),
  (.iaload, (13, 0, 0, 0), 0, 0, []),
  (.aload_n 0, (0, 0, 0, 0), 0, 0, []),
  (.iload_n 1, (1, 0, 0, 0), 0, 0, []),
  (.invokevirtual 88, (66, 2, 1, 4), 0, 0, []),
  (.if_icmp .le 5, (20, 0, 0, 0), 0, 0, []),
  (.iload_n 2, (2, 0, 0, 0), 0, 0, []),
  (.istore_n 1, (1, 0, 0, 0), 0, 0, []),
  (.iinc 2 1, (2, 0, 0, 0), 1, 0, []),
  (.goto (-28), (4, 0, 0, 0), 0, 0, []),
  (.iload_n 1, (1, 0, 0, 0), 0, 0, []),
  (.ireturn, (0, 0, 0, 0), 0, 0, [])]
def q_67 : List Nat := [0, 1, 2, 3, 4, 4, 5, 6, 9, 10, 13, 14, 17, 18, 19, 20, 21, 24, 27, 28, 29, 32, 35, 36, 37]
def m_67 : aMt := (yX5_fullest, cX5_fullest, 3, (some .int), 5, 2, 41, (0, 0), 0, k_67, q_67)
def k_68 : List aM := [(.iconst (-1), (0, 0, 0, 0), (-1), 0, []),
  (.istore_n 2, (2, 0, 0, 0), 0, 0, []),
  (.iconst 0, (0, 0, 0, 0), 0, 0, []),
  (.istore_n 3, (3, 0, 0, 0), 0, 0, []),
  (.iconst 0, (0, 0, 0, 0), 0, 0, []),
  (.istore 4, (4, 0, 0, 0), 0, 0, []),
  (.nop, (0, 0, 0, 0), 0, 0, [(0, 1), (0, 1), (0, 1), (0, 1), (0, 1), (0, 0)]),
  (.iload 4, (4, 0, 0, 0), 0, 0, []),
  (.bipush 64, (0, 0, 0, 0), 64, 0, []),
  (.if_icmp .ge 43, (31, 0, 0, 0), 0, 0, []),
  (.aload_n 1, (1, 0, 0, 0), 0, 0, []),
  (.iload 4, (4, 0, 0, 0), 0, 0, []),
  (.invokevirtual 30, (26, 2, 1, 2), 0, 0, []),
  (.ifCond .eq 28, (29, 0, 0, 0), 0, 0, []),
  (.aload_n 0, (0, 0, 0, 0), 0, 0, []),
  (.iload 4, (4, 0, 0, 0), 0, 0, []),
  (.invokevirtual 91, (69, 2, 1, 4), 0, 0, []),
  (.istore 5, (5, 0, 0, 0), 0, 0, []),
  (.iload_n 2, (2, 0, 0, 0), 0, 0, []),
  (.iconst (-1), (0, 0, 0, 0), (-1), 0, []),
  (.if_icmp .eq 9, (24, 0, 0, 0), 0, 0, []),
  (.iload 5, (5, 0, 0, 0), 0, 0, []),
  (.iload_n 3, (3, 0, 0, 0), 0, 0, []),
  (.if_icmp .ge 9, (29, 0, 0, 0), 0, 0, []),
  (.nop, (0, 0, 0, 0), 0, 0, [(0, 1), (0, 1), (0, 0), (0, 0), (0, 1), (0, 1)]),
  (.iload 4, (4, 0, 0, 0), 0, 0, []),
  (.istore_n 2, (2, 0, 0, 0), 0, 0, []),
  (.iload 5, (5, 0, 0, 0), 0, 0, []),
  (.istore_n 3, (3, 0, 0, 0), 0, 0, []),
  (.iinc 4 1, (4, 0, 0, 0), 1, 0, []),
  (.goto (-44), (6, 0, 0, 0), 0, 0, []),
  (.iload_n 2, (2, 0, 0, 0), 0, 0, []),
  (.ireturn, (0, 0, 0, 0), 0, 0, [])]
def q_68 : List Nat := [0, 1, 2, 3, 4, 5, 7, 7, 9, 11, 14, 15, 17, 20, 23, 24, 26, 29, 31, 32, 33, 36, 38, 39, 42, 42, 44, 45, 47, 48, 51, 54, 55, 56]
def m_68 : aMt := (yX5_bestDrum, cX5_bestDrum, 6, (some .int), 5, 3, 66, (0, 0), 1, k_68, q_68)
def k_69 : List aM := [(.iconst 0, (0, 0, 0, 0), 0, 0, []),
  (.istore_n 2, (2, 0, 0, 0), 0, 0, []),
  (.nop, (0, 0, 0, 0), 0, 0, [(0, 1), (0, 1), (0, 1), (0, 0), (0, 0)]),
  (.iload_n 2, (2, 0, 0, 0), 0, 0, []),
  (.aload_n 0, (0, 0, 0, 0), 0, 0, []),
  (.getfield 23, (4, 4, 2, 0), 0, 0, []),
  (.arraylength, (13, 0, 0, 0), 0, 0, []),
  (.if_icmp .ge 16, (15, 0, 0, 0), 0, 0, []),
  (.aload_n 0, (0, 0, 0, 0), 0, 0, []),
  (.getfield 23, (4, 4, 2, 0), 0, 0, []),
  (.iload_n 2, (2, 0, 0, 0), 0, 0, []),
  (.iconst 0, (0, 0, 0, 0), 0, 0, []),
  (.iastore, (0, 0, 0, 0), 0, 0, []),
  (.iinc 2 1, (2, 0, 0, 0), 1, 0, []),
  (.goto (-19), (2, 0, 0, 0), 0, 0, []),
  (.iconst 0, (0, 0, 0, 0), 0, 0, []),
  (.istore_n 2, (2, 0, 0, 0), 0, 0, []),
  (.iconst 0, (0, 0, 0, 0), 0, 0, []),
  (.istore_n 3, (3, 0, 0, 0), 0, 0, []),
  (.nop, (0, 0, 0, 0), 0, 0, [(0, 1), (0, 1), (0, 1), (0, 1), (0, 0)]),
  (.iload_n 3, (3, 0, 0, 0), 0, 0, []),
  (.aload_n 0, (0, 0, 0, 0), 0, 0, []),
  (.getfield 20, (4, 3, 2, 0), 0, 0, []),
  (.arraylength, (13, 0, 0, 0), 0, 0, []),
  (.if_icmp .ge 63, (59, 0, 0, 0), 0, 0, []),
  (.iload_n 3, (3, 0, 0, 0), 0, 0, []),
  (.iload_n 1, (1, 0, 0, 0), 0, 0, []),
  (.invokestatic 59, (4, 2, 1, 99), 0, 0, []),
  (.istore 4, (4, 0, 0, 0), 0, 0, []),
  (.aload_n 0, (0, 0, 0, 0), 0, 0, []),
  (.getfield 20, (4, 3, 2, 0), 0, 0, []),
  (.iload_n 3, (3, 0, 0, 0), 0, 0, []),
  (.iaload, (13, 0, 0, 0), 0, 0, []),
  (.ifCond .le 41, (57, 0, 0, 0), 0, 0, []),
  (.iload 4, (4, 0, 0, 0), 0, 0, []),
  (.aload_n 0, (0, 0, 0, 0), 0, 0, []),
  (.getfield 23, (4, 4, 2, 0), 0, 0, []),
  (.arraylength, (13, 0, 0, 0), 0, 0, []),
  (.if_icmp .ge 31, (57, 0, 0, 0), 0, 0, []),
  (.aload_n 0, (0, 0, 0, 0), 0, 0, []),
  (.getfield 23, (4, 4, 2, 0), 0, 0, []),
  (.iload 4, (4, 0, 0, 0), 0, 0, []),
  (.dup2, (0, 0, 0, 0), 0, 0, []),
  (.iaload, (13, 0, 0, 0), 0, 0, []),
  (.aload_n 0, (0, 0, 0, 0), 0, 0, []),
  (.getfield 20, (4, 3, 2, 0), 0, 0, []),
  (.iload_n 3, (3, 0, 0, 0), 0, 0, []),
  (.iaload, (13, 0, 0, 0), 0, 0, []),
  (.iadd, (0, 0, 0, 0), 0, 0, []),
  (.iastore, (0, 0, 0, 0), 0, 0, []),
  (.iload_n 2, (2, 0, 0, 0), 0, 0, []),
  (.aload_n 0, (0, 0, 0, 0), 0, 0, []),
  (.getfield 23, (4, 4, 2, 0), 0, 0, []),
  (.iload 4, (4, 0, 0, 0), 0, 0, []),
  (.iaload, (13, 0, 0, 0), 0, 0, []),
  (.invokestatic 94, (901, 2, 1, 99), 0, 0, []),
  (.istore_n 2, (2, 0, 0, 0), 0, 0, []),
  (.iinc 3 1, (3, 0, 0, 0), 1, 0, []),
  (.goto (-66), (19, 0, 0, 0), 0, 0, []),
  (.iload_n 2, (2, 0, 0, 0), 0, 0, []),
  (.ireturn, (0, 0, 0, 0), 0, 0, [])]
def q_69 : List Nat := [0, 1, 2, 2, 3, 4, 7, 8, 11, 12, 15, 16, 17, 18, 21, 24, 25, 26, 27, 28, 28, 29, 30, 33, 34, 37, 38, 39, 42, 44, 45, 48, 49, 50, 53, 55, 56, 59, 60, 63, 64, 67, 69, 70, 71, 72, 75, 76, 77, 78, 79, 80, 81, 84, 86, 87, 90, 91, 94, 97, 98, 99]
def m_69 : aMt := (yX5_leaves, cX5_leaves, 5, (some .int), 5, 2, 42, (0, 0), 1, k_69, q_69)
def k_70 : List aM := [(.aload_n 0, (0, 0, 0, 0), 0, 0, []),
  (.invokespecial 1, (0, 0, 9, 0), 0, 0, []),
  (.return_, (0, 0, 0, 0), 0, 0, [])]
def q_70 : List Nat := [0, 1, 4, 5]
def m_70 : aMt := (yX6_init, cX6_init, 1, none, 6, 1, 20, (0, 0), 0, k_70, q_70)
def k_71 : List aM := [(.aload_n 0, (0, 0, 0, 0), 0, 0, []),
  (.bipush 100, (0, 0, 0, 0), 100, 0, []),
  (.iload_n 1, (1, 0, 0, 0), 0, 0, []),
  (.isub, (0, 0, 0, 0), 0, 0, []),
  (.i2l, (0, 0, 0, 0), 0, 0, []),
  (.ldc2_w 7, (0, 0, 0, 0), 0, 100, []),
  (.invokevirtual 9, (73, 3, 0, 5), 0, 0, []),
  (.aload_n 0, (0, 0, 0, 0), 0, 0, []),
  (.aload_n 0, (0, 0, 0, 0), 0, 0, []),
  (.getfield 15, (5, 0, 1, 0), 0, 0, []),
  (.iload_n 2, (2, 0, 0, 0), 0, 0, []),
  (.invokestatic 19, (74, 2, 2, 99), 0, 0, []),
  (.putfield 15, (5, 0, 1, 0), 0, 0, []),
  (.aload_n 0, (0, 0, 0, 0), 0, 0, []),
  (.aload_n 0, (0, 0, 0, 0), 0, 0, []),
  (.getfield 23, (5, 1, 1, 0), 0, 0, []),
  (.iload_n 2, (2, 0, 0, 0), 0, 0, []),
  (.invokestatic 19, (74, 2, 2, 99), 0, 0, []),
  (.putfield 23, (5, 1, 1, 0), 0, 0, []),
  (.return_, (0, 0, 0, 0), 0, 0, [])]
def q_71 : List Nat := [0, 1, 3, 4, 5, 6, 9, 12, 13, 14, 17, 18, 21, 24, 25, 26, 29, 30, 33, 36, 37]
def m_71 : aMt := (yX6_ofOne, cX6_ofOne, 3, none, 6, 2, 56, (0, 0), 2, k_71, q_71)
def k_72 : List aM := [(.aload_n 0, (0, 0, 0, 0), 0, 0, []),
  (.bipush 100, (0, 0, 0, 0), 100, 0, []),
  (.aload_n 1, (1, 0, 0, 0), 0, 0, []),
  (.getfield 26, (2, 3, 0, 0), 0, 0, []),
  (.isub, (0, 0, 0, 0), 0, 0, []),
  (.i2l, (0, 0, 0, 0), 0, 0, []),
  (.ldc2_w 7, (0, 0, 0, 0), 0, 100, []),
  (.invokevirtual 9, (73, 3, 0, 5), 0, 0, []),
  (.iconst 0, (0, 0, 0, 0), 0, 0, []),
  (.istore_n 3, (3, 0, 0, 0), 0, 0, []),
  (.iconst 0, (0, 0, 0, 0), 0, 0, []),
  (.istore 4, (4, 0, 0, 0), 0, 0, []),
  (.nop, (0, 0, 0, 0), 0, 0, [(0, 1), (0, 1), (0, 1), (0, 1), (0, 1), (0, 0), (0, 0), (0, 0)]),
  (.iload 4, (4, 0, 0, 0), 0, 0, []),
  (.aload_n 1, (1, 0, 0, 0), 0, 0, []),
  (.getfield 32, (2, 8, 0, 0), 0, 0, []),
  (.if_icmp .ge 22, (27, 0, 0, 0), 0, 0, []),
  (.iload_n 3, (3, 0, 0, 0), 0, 0, []),
  (.aload_n 2, (2, 0, 0, 0), 0, 0, []),
  (.iload 4, (4, 0, 0, 0), 0, 0, []),
  (.invokevirtual 35, (101, 2, 1, 8), 0, 0, []),
  (.iconst 1, (0, 0, 0, 0), 1, 0, []),
  (.iadd, (0, 0, 0, 0), 0, 0, []),
  (.invokestatic 41, (901, 2, 1, 99), 0, 0, []),
  (.istore_n 3, (3, 0, 0, 0), 0, 0, []),
  (.iinc 4 1, (4, 0, 0, 0), 1, 0, []),
  (.goto (-25), (12, 0, 0, 0), 0, 0, []),
  (.lconst 0, (0, 0, 0, 0), 0, 0, []),
  (.lstore 4, (4, 0, 0, 0), 0, 0, []),
  (.iconst 0, (0, 0, 0, 0), 0, 0, []),
  (.istore 6, (6, 0, 0, 0), 0, 0, []),
  (.nop, (0, 0, 0, 0), 0, 0, [(0, 1), (0, 1), (0, 1), (0, 1), (0, 1), (0, 0), (0, 1), (0, 0)]),
  (.iload 6, (6, 0, 0, 0), 0, 0, []),
  (.aload_n 1, (1, 0, 0, 0), 0, 0, []),
  (.getfield 32, (2, 8, 0, 0), 0, 0, []),
  (.if_icmp .ge 45, (58, 0, 0, 0), 0, 0, []),
  (.aload_n 2, (2, 0, 0, 0), 0, 0, []),
  (.iload 6, (6, 0, 0, 0), 0, 0, []),
  (.invokevirtual 35, (101, 2, 1, 8), 0, 0, []),
  (.iconst 1, (0, 0, 0, 0), 1, 0, []),
  (.iadd, (0, 0, 0, 0), 0, 0, []),
  (.istore 7, (7, 0, 0, 0), 0, 0, []),
  (.lload 4, (4, 0, 0, 0), 0, 0, []),
  (.aload_n 0, (0, 0, 0, 0), 0, 0, []),
  (.getfield 15, (5, 0, 1, 0), 0, 0, []),
  (.iload 7, (7, 0, 0, 0), 0, 0, []),
  (.invokestatic 19, (74, 2, 2, 99), 0, 0, []),
  (.aload_n 0, (0, 0, 0, 0), 0, 0, []),
  (.getfield 23, (5, 1, 1, 0), 0, 0, []),
  (.iload_n 3, (3, 0, 0, 0), 0, 0, []),
  (.iload 7, (7, 0, 0, 0), 0, 0, []),
  (.isub, (0, 0, 0, 0), 0, 0, []),
  (.invokestatic 19, (74, 2, 2, 99), 0, 0, []),
  (.lmul, (0, 0, 0, 0), 0, 0, []),
  (.ladd, (0, 0, 0, 0), 0, 0, []),
  (.lstore 4, (4, 0, 0, 0), 0, 0, []),
  (.iinc 6 1, (6, 0, 0, 0), 1, 0, []),
  (.goto (-48), (31, 0, 0, 0), 0, 0, []),
  (.aload_n 0, (0, 0, 0, 0), 0, 0, []),
  (.lload 4, (4, 0, 0, 0), 0, 0, []),
  (.aload_n 0, (0, 0, 0, 0), 0, 0, []),
  (.getfield 23, (5, 1, 1, 0), 0, 0, []),
  (.iload_n 3, (3, 0, 0, 0), 0, 0, []),
  (.invokestatic 19, (74, 2, 2, 99), 0, 0, []),
  (.invokevirtual 9, (73, 3, 0, 5), 0, 0, []),
  (.return_, (0, 0, 0, 0), 0, 0, [])]
def q_72 : List Nat := [0, 1, 3, 4, 7, 8, 9, 12, 15, 16, 17, 18, 20, 20, 22, 23, 26, 29, 30, 31, 33, 36, 37, 38, 41, 42, 45, 48, 49, 51, 52, 54, 54, 56, 57, 60, 63, 64, 66, 69, 70, 71, 73, 75, 76, 79, 81, 84, 85, 88, 89, 91, 92, 95, 96, 97, 99, 102, 105, 106, 108, 109, 112, 113, 116, 119, 120]
def m_72 : aMt := (yX6_ofAll, cX6_ofAll, 8, none, 6, 2, 56, (0, 0), 2, k_72, q_72)
def k_73 : List aM := [(.lload_n 1, (1, 0, 0, 0), 0, 0, []),
  (.lload_n 3, (3, 0, 0, 0), 0, 0, []),
  (.invokestatic 47, (75, 2, 2, 99), 0, 0, []),
  (.lstore 5, (5, 0, 0, 0), 0, 0, []),
  (.aload_n 0, (0, 0, 0, 0), 0, 0, []),
  (.lload 5, (5, 0, 0, 0), 0, 0, []),
  (.lconst 0, (0, 0, 0, 0), 0, 0, []),
  (.lcmp, (0, 0, 0, 0), 0, 0, []),
  (.ifCond .le 10, (13, 0, 0, 0), 0, 0, []),
  (.lload_n 1, (1, 0, 0, 0), 0, 0, []),
  (.lload 5, (5, 0, 0, 0), 0, 0, []),
  (.ldiv, (0, 0, 0, 0), 0, 0, []),
  (.goto 4, (14, 0, 0, 0), 0, 0, []),
  (.lconst 0, (0, 0, 0, 0), 0, 0, []),
  (.nop, (0, 0, 0, 0), 0, 0, [(0, 1), (0, 0), (0, 0), (0, 1), (0, 0), (0, 1), (0, 0)]),
  (.putfield 15, (5, 0, 1, 0), 0, 0, []),
  (.aload_n 0, (0, 0, 0, 0), 0, 0, []),
  (.lload 5, (5, 0, 0, 0), 0, 0, []),
  (.lconst 0, (0, 0, 0, 0), 0, 0, []),
  (.lcmp, (0, 0, 0, 0), 0, 0, []),
  (.ifCond .le 10, (25, 0, 0, 0), 0, 0, []),
  (.lload_n 3, (3, 0, 0, 0), 0, 0, []),
  (.lload 5, (5, 0, 0, 0), 0, 0, []),
  (.ldiv, (0, 0, 0, 0), 0, 0, []),
  (.goto 4, (26, 0, 0, 0), 0, 0, []),
  (.lconst 1, (0, 0, 0, 0), 0, 1, []),
  (.nop, (0, 0, 0, 0), 0, 0, [(0, 0), (0, 0), (0, 0), (0, 0), (0, 0), (0, 0), (0, 0)]),
  (.putfield 23, (5, 1, 1, 0), 0, 0, []),
  (.return_, (0, 0, 0, 0), 0, 0, [])]
def q_73 : List Nat := [0, 1, 2, 5, 7, 8, 10, 11, 12, 15, 16, 18, 19, 22, 23, 23, 26, 27, 29, 30, 31, 34, 35, 37, 38, 41, 42, 42, 45, 46]
def m_73 : aMt := (yX6_set, cX6_set, 7, none, 6, 1, 30, (0, 0), 2, k_73, q_73)
def k_74 : List aM := [(.lconst 1, (0, 0, 0, 0), 0, 1, []),
  (.lstore_n 3, (3, 0, 0, 0), 0, 0, []),
  (.iconst 0, (0, 0, 0, 0), 0, 0, []),
  (.istore 5, (5, 0, 0, 0), 0, 0, []),
  (.nop, (0, 0, 0, 0), 0, 0, [(0, 1), (0, 0), (0, 1), (0, 1), (0, 0), (0, 1)]),
  (.iload 5, (5, 0, 0, 0), 0, 0, []),
  (.iload_n 2, (2, 0, 0, 0), 0, 0, []),
  (.if_icmp .ge 13, (14, 0, 0, 0), 0, 0, []),
  (.lload_n 3, (3, 0, 0, 0), 0, 0, []),
  (.lload_n 0, (0, 0, 0, 0), 0, 0, []),
  (.lmul, (0, 0, 0, 0), 0, 0, []),
  (.lstore_n 3, (3, 0, 0, 0), 0, 0, []),
  (.iinc 5 1, (5, 0, 0, 0), 1, 0, []),
  (.goto (-13), (4, 0, 0, 0), 0, 0, []),
  (.lload_n 3, (3, 0, 0, 0), 0, 0, []),
  (.lreturn, (0, 0, 0, 0), 0, 0, [])]
def q_74 : List Nat := [0, 1, 2, 3, 5, 5, 7, 8, 11, 12, 13, 14, 15, 18, 21, 22, 23]
def m_74 : aMt := (yX6_power, cX6_power, 6, (some .long), 6, 0, 0, (0, 0), 2, k_74, q_74)
def k_75 : List aM := [(.lload_n 0, (0, 0, 0, 0), 0, 0, []),
  (.lstore 4, (4, 0, 0, 0), 0, 0, []),
  (.lload_n 2, (2, 0, 0, 0), 0, 0, []),
  (.lstore 6, (6, 0, 0, 0), 0, 0, []),
  (.iconst 0, (0, 0, 0, 0), 0, 0, []),
  (.istore 8, (8, 0, 0, 0), 0, 0, []),
  (.nop, (0, 0, 0, 0), 0, 0, [(0, 0), (0, 0), (0, 0), (0, 0), (0, 1), (0, 0), (0, 1), (0, 0), (0, 1), (0, 0), (0, 0)]),
  (.iload 8, (8, 0, 0, 0), 0, 0, []),
  (.sipush 200, (0, 0, 0, 0), 200, 0, []),
  (.if_icmp .ge 31, (24, 0, 0, 0), 0, 0, []),
  (.lload 6, (6, 0, 0, 0), 0, 0, []),
  (.lconst 0, (0, 0, 0, 0), 0, 0, []),
  (.lcmp, (0, 0, 0, 0), 0, 0, []),
  (.ifCond .eq 24, (24, 0, 0, 0), 0, 0, []),
  (.lload 4, (4, 0, 0, 0), 0, 0, []),
  (.lload 6, (6, 0, 0, 0), 0, 0, []),
  (.lrem, (0, 0, 0, 0), 0, 0, []),
  (.lstore 9, (9, 0, 0, 0), 0, 0, []),
  (.lload 6, (6, 0, 0, 0), 0, 0, []),
  (.lstore 4, (4, 0, 0, 0), 0, 0, []),
  (.lload 9, (9, 0, 0, 0), 0, 0, []),
  (.lstore 6, (6, 0, 0, 0), 0, 0, []),
  (.iinc 8 1, (8, 0, 0, 0), 1, 0, []),
  (.goto (-33), (6, 0, 0, 0), 0, 0, []),
  (.lload 4, (4, 0, 0, 0), 0, 0, []),
  (.lreturn, (0, 0, 0, 0), 0, 0, [])]
def q_75 : List Nat := [0, 1, 3, 4, 6, 7, 9, 9, 11, 14, 17, 19, 20, 21, 24, 26, 28, 29, 31, 33, 35, 37, 39, 42, 45, 47, 48]
def m_75 : aMt := (yX6_commonDivisor, cX6_commonDivisor, 11, (some .long), 6, 0, 0, (0, 0), 2, k_75, q_75)
def k_76 : List aM := [(.aload_n 0, (0, 0, 0, 0), 0, 0, []),
  (.invokespecial 1, (0, 0, 9, 0), 0, 0, []),
  (.aload_n 0, (0, 0, 0, 0), 0, 0, []),
  (.sipush 700, (0, 0, 0, 0), 700, 0, []),
  (.newarray .int, (13, 0, 0, 0), 0, 0, []),
  (.putfield 9, (6, 0, 2, 0), 0, 0, []),
  (.return_, (0, 0, 0, 0), 0, 0, [])]
def q_76 : List Nat := [0, 1, 4, 5, 8, 10, 13, 14]
def m_76 : aMt := (yX7_init, cX7_init, 1, none, 7, 1, 20, (1, 700), 0, k_76, q_76)
def k_77 : List aM := [(.aload_n 0, (0, 0, 0, 0), 0, 0, []),
  (.getfield 13, (6, 1, 0, 0), 0, 0, []),
  (.bipush 20, (0, 0, 0, 0), 20, 0, []),
  (.iadd, (0, 0, 0, 0), 0, 0, []),
  (.sipush 700, (0, 0, 0, 0), 700, 0, []),
  (.if_icmp .gt 7, (8, 0, 0, 0), 0, 0, []),
  (.iconst 1, (0, 0, 0, 0), 1, 0, []),
  (.goto 4, (9, 0, 0, 0), 0, 0, []),
  (.iconst 0, (0, 0, 0, 0), 0, 0, []),
  (.ireturn, (0, 0, 1, 0), 0, 0, [])]
def q_77 : List Nat := [0, 1, 4, 6, 7, 10, 13, 14, 17, 18, 19]
def m_77 : aMt := (yX7_hasRoom, cX7_hasRoom, 1, (some .boolean), 7, 0, 0, (0, 0), 0, k_77, q_77)
def k_78 : List aM := [(.bipush 24, (0, 0, 0, 0), 24, 0, []),
  (.istore_n 2, (2, 0, 0, 0), 0, 0, []),
  (.nop, (0, 0, 0, 0), 0, 0, [(0, 1), (0, 1), (0, 1)]),
  (.iload_n 2, (2, 0, 0, 0), 0, 0, []),
  (.ifCond .lt 45, (27, 0, 0, 0), 0, 0, []),
  (.aload_n 0, (0, 0, 0, 0), 0, 0, []),
  (.getfield 13, (6, 1, 0, 0), 0, 0, []),
  (.sipush 700, (0, 0, 0, 0), 700, 0, []),
  (.if_icmp .ge 29, (25, 0, 0, 0), 0, 0, []),
  (.aload_n 0, (0, 0, 0, 0), 0, 0, []),
  (.getfield 9, (6, 0, 2, 0), 0, 0, []),
  (.aload_n 0, (0, 0, 0, 0), 0, 0, []),
  (.getfield 13, (6, 1, 0, 0), 0, 0, []),
  (.iload_n 1, (1, 0, 0, 0), 0, 0, []),
  (.iload_n 2, (2, 0, 0, 0), 0, 0, []),
  (.iushr, (0, 0, 0, 0), 0, 0, []),
  (.sipush 255, (0, 0, 0, 0), 255, 0, []),
  (.iand, (0, 0, 0, 0), 0, 0, []),
  (.iastore, (0, 0, 0, 0), 0, 0, []),
  (.aload_n 0, (0, 0, 0, 0), 0, 0, []),
  (.dup, (0, 0, 0, 0), 0, 0, []),
  (.getfield 13, (6, 1, 0, 0), 0, 0, []),
  (.iconst 1, (0, 0, 0, 0), 1, 0, []),
  (.iadd, (0, 0, 0, 0), 0, 0, []),
  (.putfield 13, (6, 1, 0, 0), 0, 0, []),
  (.iinc 2 (-8), (2, 0, 0, 0), (-8), 0, []),
  (.goto (-43), (2, 0, 0, 0), 0, 0, []),
  (.return_, (0, 0, 0, 0), 0, 0, [])]
def q_78 : List Nat := [0, 2, 3, 3, 4, 7, 8, 11, 14, 17, 18, 21, 22, 25, 26, 27, 28, 31, 32, 33, 34, 35, 38, 39, 40, 43, 46, 49, 50]
def m_78 : aMt := (yX7_put, cX7_put, 3, none, 7, 0, 0, (0, 0), 1, k_78, q_78)
def k_79 : List aM := [(.aload_n 0, (0, 0, 0, 0), 0, 0, []),
  (.iconst 0, (0, 0, 0, 0), 0, 0, []),
  (.putfield 13, (6, 1, 0, 0), 0, 0, []),
  (.aload_n 0, (0, 0, 0, 0), 0, 0, []),
  (.iload_n 1, (1, 0, 0, 0), 0, 0, []),
  (.putfield 17, (6, 2, 0, 0), 0, 0, []),
  (.aload_n 0, (0, 0, 0, 0), 0, 0, []),
  (.iconst 0, (0, 0, 0, 0), 0, 0, []),
  (.putfield 20, (6, 3, 0, 0), 0, 0, []),
  (.aload_n 0, (0, 0, 0, 0), 0, 0, []),
  (.iconst 0, (0, 0, 0, 0), 0, 0, []),
  (.putfield 23, (6, 4, 0, 0), 0, 0, []),
  (.aload_n 0, (0, 0, 0, 0), 0, 0, []),
  (.invokevirtual 26, (80, 1, 0, 6), 0, 0, []),
  (.return_, (0, 0, 0, 0), 0, 0, [])]
def q_79 : List Nat := [0, 1, 2, 5, 6, 7, 10, 11, 12, 15, 16, 17, 20, 21, 24, 25]
def m_79 : aMt := (yX7_open, cX7_open, 2, none, 7, 2, 42, (0, 0), 1, k_79, q_79)
def k_80 : List aM := [(.aload_n 0, (0, 0, 0, 0), 0, 0, []),
  (.getfield 20, (6, 3, 0, 0), 0, 0, []),
  (.aload_n 0, (0, 0, 0, 0), 0, 0, []),
  (.getfield 23, (6, 4, 0, 0), 0, 0, []),
  (.iadd, (0, 0, 0, 0), 0, 0, []),
  (.istore_n 1, (1, 0, 0, 0), 0, 0, []),
  (.nop, (0, 0, 0, 0), 0, 0, [(0, 1), (0, 1)]),
  (.iload_n 1, (1, 0, 0, 0), 0, 0, []),
  (.aload_n 0, (0, 0, 0, 0), 0, 0, []),
  (.getfield 17, (6, 2, 0, 0), 0, 0, []),
  (.if_icmp .ge 19, (18, 0, 0, 0), 0, 0, []),
  (.aload_n 0, (0, 0, 0, 0), 0, 0, []),
  (.iload_n 1, (1, 0, 0, 0), 0, 0, []),
  (.invokevirtual 29, (85, 2, 1, 6), 0, 0, []),
  (.bipush 32, (0, 0, 0, 0), 32, 0, []),
  (.if_icmp .ne 9, (18, 0, 0, 0), 0, 0, []),
  (.iinc 1 1, (1, 0, 0, 0), 1, 0, []),
  (.goto (-21), (6, 0, 0, 0), 0, 0, []),
  (.nop, (0, 0, 0, 0), 0, 0, [(0, 1), (0, 1)]),
  (.aload_n 0, (0, 0, 0, 0), 0, 0, []),
  (.iload_n 1, (1, 0, 0, 0), 0, 0, []),
  (.putfield 20, (6, 3, 0, 0), 0, 0, []),
  (.aload_n 0, (0, 0, 0, 0), 0, 0, []),
  (.iload_n 1, (1, 0, 0, 0), 0, 0, []),
  (.aload_n 0, (0, 0, 0, 0), 0, 0, []),
  (.getfield 17, (6, 2, 0, 0), 0, 0, []),
  (.if_icmp .ge 14, (32, 0, 0, 0), 0, 0, []),
  (.aload_n 0, (0, 0, 0, 0), 0, 0, []),
  (.iload_n 1, (1, 0, 0, 0), 0, 0, []),
  (.invokevirtual 29, (85, 2, 1, 6), 0, 0, []),
  (.invokestatic 33, (86, 1, 1, 99), 0, 0, []),
  (.goto 4, (33, 0, 0, 0), 0, 0, []),
  (.iconst 0, (0, 0, 0, 0), 0, 0, []),
  (.nop, (0, 0, 0, 0), 0, 0, [(0, 1), (0, 1)]),
  (.putfield 36, (6, 5, 0, 0), 0, 0, []),
  (.aload_n 0, (0, 0, 0, 0), 0, 0, []),
  (.aload_n 0, (0, 0, 0, 0), 0, 0, []),
  (.getfield 36, (6, 5, 0, 0), 0, 0, []),
  (.ifCond .ne 7, (41, 0, 0, 0), 0, 0, []),
  (.iconst 0, (0, 0, 0, 0), 0, 0, []),
  (.goto 4, (42, 0, 0, 0), 0, 0, []),
  (.iconst 1, (0, 0, 0, 0), 1, 0, []),
  (.nop, (0, 0, 0, 0), 0, 0, [(0, 1), (0, 1)]),
  (.putfield 23, (6, 4, 0, 0), 0, 0, []),
  (.aload_n 0, (0, 0, 0, 0), 0, 0, []),
  (.getfield 36, (6, 5, 0, 0), 0, 0, []),
  (.iconst 1, (0, 0, 0, 0), 1, 0, []),
  (.if_icmp .eq 11, (52, 0, 0, 0), 0, 0, []),
  (.aload_n 0, (0, 0, 0, 0), 0, 0, []),
  (.getfield 36, (6, 5, 0, 0), 0, 0, []),
  (.iconst 2, (0, 0, 0, 0), 2, 0, []),
  (.if_icmp .ne 75, (92, 0, 0, 0), 0, 0, []),
  (.nop, (0, 0, 0, 0), 0, 0, [(0, 1), (0, 1)]),
  (.iload_n 1, (1, 0, 0, 0), 0, 0, []),
  (.aload_n 0, (0, 0, 0, 0), 0, 0, []),
  (.getfield 23, (6, 4, 0, 0), 0, 0, []),
  (.iadd, (0, 0, 0, 0), 0, 0, []),
  (.aload_n 0, (0, 0, 0, 0), 0, 0, []),
  (.getfield 17, (6, 2, 0, 0), 0, 0, []),
  (.if_icmp .ge 36, (77, 0, 0, 0), 0, 0, []),
  (.aload_n 0, (0, 0, 0, 0), 0, 0, []),
  (.iload_n 1, (1, 0, 0, 0), 0, 0, []),
  (.aload_n 0, (0, 0, 0, 0), 0, 0, []),
  (.getfield 23, (6, 4, 0, 0), 0, 0, []),
  (.iadd, (0, 0, 0, 0), 0, 0, []),
  (.invokevirtual 29, (85, 2, 1, 6), 0, 0, []),
  (.invokestatic 33, (86, 1, 1, 99), 0, 0, []),
  (.aload_n 0, (0, 0, 0, 0), 0, 0, []),
  (.getfield 36, (6, 5, 0, 0), 0, 0, []),
  (.if_icmp .ne 16, (77, 0, 0, 0), 0, 0, []),
  (.aload_n 0, (0, 0, 0, 0), 0, 0, []),
  (.dup, (0, 0, 0, 0), 0, 0, []),
  (.getfield 23, (6, 4, 0, 0), 0, 0, []),
  (.iconst 1, (0, 0, 0, 0), 1, 0, []),
  (.iadd, (0, 0, 0, 0), 0, 0, []),
  (.putfield 23, (6, 4, 0, 0), 0, 0, []),
  (.goto (-43), (52, 0, 0, 0), 0, 0, []),
  (.nop, (0, 0, 0, 0), 0, 0, [(0, 1), (0, 0)]),
  (.aload_n 0, (0, 0, 0, 0), 0, 0, []),
  (.getfield 23, (6, 4, 0, 0), 0, 0, []),
  (.aload_n 0, (0, 0, 0, 0), 0, 0, []),
  (.getfield 36, (6, 5, 0, 0), 0, 0, []),
  (.iconst 1, (0, 0, 0, 0), 1, 0, []),
  (.if_icmp .ne 8, (86, 0, 0, 0), 0, 0, []),
  (.bipush 8, (0, 0, 0, 0), 8, 0, []),
  (.goto 4, (87, 0, 0, 0), 0, 0, []),
  (.iconst 3, (0, 0, 0, 0), 3, 0, []),
  (.nop, (0, 0, 0, 0), 0, 0, [(0, 1), (0, 0)]),
  (.if_icmp .le 8, (92, 0, 0, 0), 0, 0, []),
  (.aload_n 0, (0, 0, 0, 0), 0, 0, []),
  (.iconst 4, (0, 0, 0, 0), 4, 0, []),
  (.putfield 36, (6, 5, 0, 0), 0, 0, []),
  (.return_, (0, 0, 0, 0), 0, 0, [])]
def q_80 : List Nat := [0, 1, 4, 5, 8, 9, 10, 10, 11, 12, 15, 18, 19, 20, 23, 25, 28, 31, 34, 34, 35, 36, 39, 40, 41, 42, 45, 48, 49, 50, 53, 56, 59, 60, 60, 63, 64, 65, 68, 71, 72, 75, 76, 76, 79, 80, 83, 84, 87, 88, 91, 92, 95, 95, 96, 97, 100, 101, 102, 105, 108, 109, 110, 111, 114, 115, 118, 121, 122, 125, 128, 129, 130, 133, 134, 135, 138, 141, 141, 142, 145, 146, 149, 150, 153, 155, 158, 159, 159, 162, 163, 164, 167, 168]
def m_80 : aMt := (yX7_advance, cX7_advance, 2, none, 7, 1, 21, (0, 0), 0, k_80, q_80)
def k_81 : List aM := [(.aload_n 0, (0, 0, 0, 0), 0, 0, []),
  (.getfield 36, (6, 5, 0, 0), 0, 0, []),
  (.iconst 1, (0, 0, 0, 0), 1, 0, []),
  (.if_icmp .ne 14, (9, 0, 0, 0), 0, 0, []),
  (.aload_n 0, (0, 0, 0, 0), 0, 0, []),
  (.getfield 23, (6, 4, 0, 0), 0, 0, []),
  (.aload_n 1, (1, 0, 0, 0), 0, 0, []),
  (.invokevirtual 39, (903, 1, 1, 99), 0, 0, []),
  (.if_icmp .eq 5, (11, 0, 0, 0), 0, 0, []),
  (.iconst 0, (0, 0, 0, 0), 0, 0, []),
  (.ireturn, (0, 0, 1, 0), 0, 0, []),
  (.iconst 0, (0, 0, 0, 0), 0, 0, []),
  (.istore_n 2, (2, 0, 0, 0), 0, 0, []),
  (.nop, (0, 0, 0, 0), 0, 0, [(0, 1), (0, 1), (0, 1)]),
  (.iload_n 2, (2, 0, 0, 0), 0, 0, []),
  (.aload_n 0, (0, 0, 0, 0), 0, 0, []),
  (.getfield 23, (6, 4, 0, 0), 0, 0, []),
  (.if_icmp .ge 29, (32, 0, 0, 0), 0, 0, []),
  (.aload_n 0, (0, 0, 0, 0), 0, 0, []),
  (.aload_n 0, (0, 0, 0, 0), 0, 0, []),
  (.getfield 20, (6, 3, 0, 0), 0, 0, []),
  (.iload_n 2, (2, 0, 0, 0), 0, 0, []),
  (.iadd, (0, 0, 0, 0), 0, 0, []),
  (.invokevirtual 29, (85, 2, 1, 6), 0, 0, []),
  (.aload_n 1, (1, 0, 0, 0), 0, 0, []),
  (.iload_n 2, (2, 0, 0, 0), 0, 0, []),
  (.invokevirtual 44, (904, 2, 1, 99), 0, 0, []),
  (.if_icmp .eq 5, (30, 0, 0, 0), 0, 0, []),
  (.iconst 0, (0, 0, 0, 0), 0, 0, []),
  (.ireturn, (0, 0, 1, 0), 0, 0, []),
  (.iinc 2 1, (2, 0, 0, 0), 1, 0, []),
  (.goto (-31), (13, 0, 0, 0), 0, 0, []),
  (.iconst 1, (0, 0, 0, 0), 1, 0, []),
  (.ireturn, (0, 0, 1, 0), 0, 0, [])]
def q_81 : List Nat := [0, 1, 4, 5, 8, 9, 12, 13, 16, 19, 20, 21, 22, 23, 23, 24, 25, 28, 31, 32, 33, 36, 37, 38, 41, 42, 43, 46, 49, 50, 51, 54, 57, 58, 59]
def m_81 : aMt := (yX7_says, cX7_says, 3, (some .boolean), 7, 6, 200, (0, 0), 1, k_81, q_81)
def k_82 : List aM := [(.aload_n 0, (0, 0, 0, 0), 0, 0, []),
  (.aload_n 0, (0, 0, 0, 0), 0, 0, []),
  (.getfield 20, (6, 3, 0, 0), 0, 0, []),
  (.iload_n 1, (1, 0, 0, 0), 0, 0, []),
  (.iadd, (0, 0, 0, 0), 0, 0, []),
  (.invokevirtual 29, (85, 2, 1, 6), 0, 0, []),
  (.ireturn, (0, 0, 0, 0), 0, 0, [])]
def q_82 : List Nat := [0, 1, 2, 5, 6, 7, 10, 11]
def m_82 : aMt := (yX7_sign, cX7_sign, 2, (some .int), 7, 1, 21, (0, 0), 1, k_82, q_82)
def k_83 : List aM := [(.iconst 0, (0, 0, 0, 0), 0, 0, []),
  (.istore_n 1, (1, 0, 0, 0), 0, 0, []),
  (.iconst 0, (0, 0, 0, 0), 0, 0, []),
  (.istore_n 2, (2, 0, 0, 0), 0, 0, []),
  (.nop, (0, 0, 0, 0), 0, 0, [(0, 1), (0, 1), (0, 1)]),
  (.iload_n 2, (2, 0, 0, 0), 0, 0, []),
  (.aload_n 0, (0, 0, 0, 0), 0, 0, []),
  (.getfield 23, (6, 4, 0, 0), 0, 0, []),
  (.if_icmp .ge 33, (27, 0, 0, 0), 0, 0, []),
  (.iload_n 2, (2, 0, 0, 0), 0, 0, []),
  (.iconst 3, (0, 0, 0, 0), 3, 0, []),
  (.if_icmp .ge 28, (27, 0, 0, 0), 0, 0, []),
  (.bipush 10, (0, 0, 0, 0), 10, 0, []),
  (.iload_n 1, (1, 0, 0, 0), 0, 0, []),
  (.imul, (0, 0, 0, 0), 0, 0, []),
  (.aload_n 0, (0, 0, 0, 0), 0, 0, []),
  (.aload_n 0, (0, 0, 0, 0), 0, 0, []),
  (.getfield 20, (6, 3, 0, 0), 0, 0, []),
  (.iload_n 2, (2, 0, 0, 0), 0, 0, []),
  (.iadd, (0, 0, 0, 0), 0, 0, []),
  (.invokevirtual 29, (85, 2, 1, 6), 0, 0, []),
  (.iadd, (0, 0, 0, 0), 0, 0, []),
  (.bipush 48, (0, 0, 0, 0), 48, 0, []),
  (.isub, (0, 0, 0, 0), 0, 0, []),
  (.istore_n 1, (1, 0, 0, 0), 0, 0, []),
  (.iinc 2 1, (2, 0, 0, 0), 1, 0, []),
  (.goto (-35), (4, 0, 0, 0), 0, 0, []),
  (.iload_n 1, (1, 0, 0, 0), 0, 0, []),
  (.ireturn, (0, 0, 0, 0), 0, 0, [])]
def q_83 : List Nat := [0, 1, 2, 3, 4, 4, 5, 6, 9, 12, 13, 14, 17, 19, 20, 21, 22, 23, 26, 27, 28, 31, 32, 34, 35, 36, 39, 42, 43, 44]
def m_83 : aMt := (yX7_value, cX7_value, 3, (some .int), 7, 1, 21, (0, 0), 0, k_83, q_83)
def k_84 : List aM := [(.lconst 0, (0, 0, 0, 0), 0, 0, []),
  (.lstore_n 1, (1, 0, 0, 0), 0, 0, []),
  (.iconst 0, (0, 0, 0, 0), 0, 0, []),
  (.istore_n 3, (3, 0, 0, 0), 0, 0, []),
  (.nop, (0, 0, 0, 0), 0, 0, [(0, 1), (0, 1), (0, 0), (0, 1)]),
  (.iload_n 3, (3, 0, 0, 0), 0, 0, []),
  (.aload_n 0, (0, 0, 0, 0), 0, 0, []),
  (.getfield 23, (6, 4, 0, 0), 0, 0, []),
  (.if_icmp .ge 32, (26, 0, 0, 0), 0, 0, []),
  (.iload_n 3, (3, 0, 0, 0), 0, 0, []),
  (.bipush 8, (0, 0, 0, 0), 8, 0, []),
  (.if_icmp .ge 26, (26, 0, 0, 0), 0, 0, []),
  (.lload_n 1, (1, 0, 0, 0), 0, 0, []),
  (.bipush 8, (0, 0, 0, 0), 8, 0, []),
  (.lshl, (0, 0, 0, 0), 0, 0, []),
  (.aload_n 0, (0, 0, 0, 0), 0, 0, []),
  (.aload_n 0, (0, 0, 0, 0), 0, 0, []),
  (.getfield 20, (6, 3, 0, 0), 0, 0, []),
  (.iload_n 3, (3, 0, 0, 0), 0, 0, []),
  (.iadd, (0, 0, 0, 0), 0, 0, []),
  (.invokevirtual 29, (85, 2, 1, 6), 0, 0, []),
  (.i2l, (0, 0, 0, 0), 0, 0, []),
  (.lor, (0, 0, 0, 0), 0, 0, []),
  (.lstore_n 1, (1, 0, 0, 0), 0, 0, []),
  (.iinc 3 1, (3, 0, 0, 0), 1, 0, []),
  (.goto (-34), (4, 0, 0, 0), 0, 0, []),
  (.lload_n 1, (1, 0, 0, 0), 0, 0, []),
  (.lreturn, (0, 0, 0, 0), 0, 0, [])]
def q_84 : List Nat := [0, 1, 2, 3, 4, 4, 5, 6, 9, 12, 13, 15, 18, 19, 21, 22, 23, 24, 27, 28, 29, 32, 33, 34, 35, 38, 41, 42, 43]
def m_84 : aMt := (yX7_name, cX7_name, 4, (some .long), 7, 1, 21, (0, 0), 0, k_84, q_84)
def k_85 : List aM := [(.iload_n 1, (1, 0, 0, 0), 0, 0, []),
  (.ifCond .lt 19, (10, 0, 0, 0), 0, 0, []),
  (.iload_n 1, (1, 0, 0, 0), 0, 0, []),
  (.sipush 700, (0, 0, 0, 0), 700, 0, []),
  (.if_icmp .ge 12, (10, 0, 0, 0), 0, 0, []),
  (.aload_n 0, (0, 0, 0, 0), 0, 0, []),
  (.getfield 9, (6, 0, 2, 0), 0, 0, []),
  (.iload_n 1, (1, 0, 0, 0), 0, 0, []),
  (.iaload, (13, 0, 0, 0), 0, 0, []),
  (.goto 4, (11, 0, 0, 0), 0, 0, []),
  (.iconst 0, (0, 0, 0, 0), 0, 0, []),
  (.ireturn, (0, 0, 0, 0), 0, 0, [])]
def q_85 : List Nat := [0, 1, 4, 5, 8, 11, 12, 15, 16, 17, 20, 21, 22]
def m_85 : aMt := (yX7_byteAt, cX7_byteAt, 2, (some .int), 7, 0, 0, (0, 0), 1, k_85, q_85)
def k_86 : List aM := [(.iload_n 0, (0, 0, 0, 0), 0, 0, []),
  (.bipush 97, (0, 0, 0, 0), 97, 0, []),
  (.if_icmp .lt 11, (8, 0, 0, 0), 0, 0, []),
  (.iload_n 0, (0, 0, 0, 0), 0, 0, []),
  (.bipush 122, (0, 0, 0, 0), 122, 0, []),
  (.if_icmp .gt 5, (8, 0, 0, 0), 0, 0, []),
  (.iconst 1, (0, 0, 0, 0), 1, 0, []),
  (.ireturn, (0, 0, 0, 0), 0, 0, []),
  (.nop, (0, 0, 0, 0), 0, 0, [(0, 1)]),
  (.iload_n 0, (0, 0, 0, 0), 0, 0, []),
  (.bipush 48, (0, 0, 0, 0), 48, 0, []),
  (.if_icmp .lt 11, (17, 0, 0, 0), 0, 0, []),
  (.iload_n 0, (0, 0, 0, 0), 0, 0, []),
  (.bipush 57, (0, 0, 0, 0), 57, 0, []),
  (.if_icmp .gt 5, (17, 0, 0, 0), 0, 0, []),
  (.iconst 2, (0, 0, 0, 0), 2, 0, []),
  (.ireturn, (0, 0, 0, 0), 0, 0, []),
  (.nop, (0, 0, 0, 0), 0, 0, [(0, 1)]),
  (.iload_n 0, (0, 0, 0, 0), 0, 0, []),
  (.bipush 59, (0, 0, 0, 0), 59, 0, []),
  (.if_icmp .ne 7, (23, 0, 0, 0), 0, 0, []),
  (.iconst 3, (0, 0, 0, 0), 3, 0, []),
  (.goto 4, (24, 0, 0, 0), 0, 0, []),
  (.iconst 4, (0, 0, 0, 0), 4, 0, []),
  (.ireturn, (0, 0, 0, 0), 0, 0, [])]
def q_86 : List Nat := [0, 1, 3, 6, 7, 9, 12, 13, 14, 14, 15, 17, 20, 21, 23, 26, 27, 28, 28, 29, 31, 34, 35, 38, 39, 40]
def m_86 : aMt := (yX7_kindOf, cX7_kindOf, 1, (some .int), 7, 0, 0, (0, 0), 1, k_86, q_86)
def k_87 : List aM := [(.aload_n 0, (0, 0, 0, 0), 0, 0, []),
  (.invokespecial 3, (0, 0, 9, 0), 0, 0, []),
  (.aload_n 0, (0, 0, 0, 0), 0, 0, []),
  (.bipush 64, (0, 0, 0, 0), 64, 0, []),
  (.newarray .int, (13, 0, 0, 0), 0, 0, []),
  (.putfield 11, (7, 0, 2, 0), 0, 0, []),
  (.return_, (0, 0, 0, 0), 0, 0, [])]
def q_87 : List Nat := [0, 1, 4, 5, 7, 9, 12, 13]
def m_87 : aMt := (yX8_init, cX8_init, 1, none, 8, 1, 20, (1, 64), 0, k_87, q_87)
def k_88 : List aM := [(.iconst 0, (0, 0, 0, 0), 0, 0, []),
  (.istore 6, (6, 0, 0, 0), 0, 0, []),
  (.nop, (0, 0, 0, 0), 0, 0, [(0, 1), (0, 1), (0, 1), (0, 1), (0, 1), (0, 0), (0, 1), (0, 0), (0, 0), (0, 0)]),
  (.iload 6, (6, 0, 0, 0), 0, 0, []),
  (.aload_n 0, (0, 0, 0, 0), 0, 0, []),
  (.getfield 11, (7, 0, 2, 0), 0, 0, []),
  (.arraylength, (13, 0, 0, 0), 0, 0, []),
  (.if_icmp .ge 18, (15, 0, 0, 0), 0, 0, []),
  (.aload_n 0, (0, 0, 0, 0), 0, 0, []),
  (.getfield 11, (7, 0, 2, 0), 0, 0, []),
  (.iload 6, (6, 0, 0, 0), 0, 0, []),
  (.bipush (-2), (0, 0, 0, 0), (-2), 0, []),
  (.iastore, (0, 0, 0, 0), 0, 0, []),
  (.iinc 6 1, (6, 0, 0, 0), 1, 0, []),
  (.goto (-22), (2, 0, 0, 0), 0, 0, []),
  (.aload_n 0, (0, 0, 0, 0), 0, 0, []),
  (.lconst 0, (0, 0, 0, 0), 0, 0, []),
  (.putfield 17, (7, 1, 1, 0), 0, 0, []),
  (.iload_n 3, (3, 0, 0, 0), 0, 0, []),
  (.invokestatic 21, (6, 1, 1, 99), 0, 0, []),
  (.ifCond .eq 12, (25, 0, 0, 0), 0, 0, []),
  (.lload 4, (4, 0, 0, 0), 0, 0, []),
  (.iload_n 3, (3, 0, 0, 0), 0, 0, []),
  (.invokestatic 25, (5, 2, 1, 99), 0, 0, []),
  (.ifCond .ne 4, (26, 0, 0, 0), 0, 0, []),
  (.return_, (0, 0, 0, 0), 0, 0, []),
  (.aload_n 0, (0, 0, 0, 0), 0, 0, []),
  (.getfield 11, (7, 0, 2, 0), 0, 0, []),
  (.iload_n 3, (3, 0, 0, 0), 0, 0, []),
  (.iconst 0, (0, 0, 0, 0), 0, 0, []),
  (.iastore, (0, 0, 0, 0), 0, 0, []),
  (.iconst 0, (0, 0, 0, 0), 0, 0, []),
  (.istore 6, (6, 0, 0, 0), 0, 0, []),
  (.nop, (0, 0, 0, 0), 0, 0, [(0, 1), (0, 1), (0, 1), (0, 0), (0, 1), (0, 0), (0, 1), (0, 0), (0, 0), (0, 0)]),
  (.iload 6, (6, 0, 0, 0), 0, 0, []),
  (.bipush 64, (0, 0, 0, 0), 64, 0, []),
  (.if_icmp .ge 104, (89, 0, 0, 0), 0, 0, []),
  (.aload_n 0, (0, 0, 0, 0), 0, 0, []),
  (.invokevirtual 29, (89, 1, 1, 7), 0, 0, []),
  (.istore 7, (7, 0, 0, 0), 0, 0, []),
  (.iload 7, (7, 0, 0, 0), 0, 0, []),
  (.iconst (-1), (0, 0, 0, 0), (-1), 0, []),
  (.if_icmp .ne 4, (44, 0, 0, 0), 0, 0, []),
  (.return_, (0, 0, 0, 0), 0, 0, []),
  (.aload_n 0, (0, 0, 0, 0), 0, 0, []),
  (.dup, (0, 0, 0, 0), 0, 0, []),
  (.getfield 17, (7, 1, 1, 0), 0, 0, []),
  (.lconst 1, (0, 0, 0, 0), 0, 1, []),
  (.iload 7, (7, 0, 0, 0), 0, 0, []),
  (.lshl, (0, 0, 0, 0), 0, 0, []),
  (.lor, (0, 0, 0, 0), 0, 0, []),
  (.putfield 17, (7, 1, 1, 0), 0, 0, []),
  (.iconst 1, (0, 0, 0, 0), 1, 0, []),
  (.istore 8, (8, 0, 0, 0), 0, 0, []),
  (.nop, (0, 0, 0, 0), 0, 0, [(0, 1), (0, 1), (0, 1), (0, 0), (0, 1), (0, 0), (0, 1), (0, 1), (0, 1), (0, 0)]),
  (.iload 8, (8, 0, 0, 0), 0, 0, []),
  (.iconst 4, (0, 0, 0, 0), 4, 0, []),
  (.if_icmp .gt 63, (87, 0, 0, 0), 0, 0, []),
  (.iload 7, (7, 0, 0, 0), 0, 0, []),
  (.iload 8, (8, 0, 0, 0), 0, 0, []),
  (.invokestatic 33, (7, 2, 1, 99), 0, 0, []),
  (.istore 9, (9, 0, 0, 0), 0, 0, []),
  (.iload 9, (9, 0, 0, 0), 0, 0, []),
  (.iconst (-1), (0, 0, 0, 0), (-1), 0, []),
  (.if_icmp .eq 42, (85, 0, 0, 0), 0, 0, []),
  (.lload 4, (4, 0, 0, 0), 0, 0, []),
  (.aload_n 0, (0, 0, 0, 0), 0, 0, []),
  (.getfield 17, (7, 1, 1, 0), 0, 0, []),
  (.ldc2_w 37, (0, 0, 0, 0), 0, (-1), []),
  (.lxor, (0, 0, 0, 0), 0, 0, []),
  (.land, (0, 0, 0, 0), 0, 0, []),
  (.iload 9, (9, 0, 0, 0), 0, 0, []),
  (.invokestatic 25, (5, 2, 1, 99), 0, 0, []),
  (.ifCond .eq 23, (85, 0, 0, 0), 0, 0, []),
  (.aload_n 0, (0, 0, 0, 0), 0, 0, []),
  (.iload 9, (9, 0, 0, 0), 0, 0, []),
  (.aload_n 0, (0, 0, 0, 0), 0, 0, []),
  (.iload 7, (7, 0, 0, 0), 0, 0, []),
  (.invokevirtual 39, (91, 2, 1, 7), 0, 0, []),
  (.aload_n 2, (2, 0, 0, 0), 0, 0, []),
  (.aload_n 1, (1, 0, 0, 0), 0, 0, []),
  (.iload 9, (9, 0, 0, 0), 0, 0, []),
  (.invokevirtual 43, (99, 3, 1, 8), 0, 0, []),
  (.iadd, (0, 0, 0, 0), 0, 0, []),
  (.invokevirtual 49, (90, 3, 0, 7), 0, 0, []),
  (.iinc 8 1, (8, 0, 0, 0), 1, 0, []),
  (.goto (-63), (54, 0, 0, 0), 0, 0, []),
  (.iinc 6 1, (6, 0, 0, 0), 1, 0, []),
  (.goto (-105), (33, 0, 0, 0), 0, 0, []),
  (.return_, (0, 0, 0, 0), 0, 0, [])]
def q_88 : List Nat := [0, 1, 3, 3, 5, 6, 9, 10, 13, 14, 17, 19, 21, 22, 25, 28, 29, 30, 33, 34, 37, 40, 42, 43, 46, 49, 50, 51, 54, 55, 56, 57, 58, 60, 60, 62, 64, 67, 68, 71, 73, 75, 76, 79, 80, 81, 82, 85, 86, 88, 89, 90, 93, 94, 96, 96, 98, 99, 102, 104, 106, 109, 111, 113, 114, 117, 119, 120, 123, 126, 127, 128, 130, 133, 136, 137, 139, 140, 142, 145, 146, 147, 149, 152, 153, 156, 159, 162, 165, 168, 169]
def m_88 : aMt := (yX8_spread, cX8_spread, 10, none, 8, 3, 63, (0, 0), 4, k_88, q_88)
def k_89 : List aM := [(.iconst (-1), (0, 0, 0, 0), (-1), 0, []),
  (.istore_n 1, (1, 0, 0, 0), 0, 0, []),
  (.iconst 0, (0, 0, 0, 0), 0, 0, []),
  (.istore_n 2, (2, 0, 0, 0), 0, 0, []),
  (.nop, (0, 0, 0, 0), 0, 0, [(0, 1), (0, 1), (0, 1)]),
  (.iload_n 2, (2, 0, 0, 0), 0, 0, []),
  (.aload_n 0, (0, 0, 0, 0), 0, 0, []),
  (.getfield 11, (7, 0, 2, 0), 0, 0, []),
  (.arraylength, (13, 0, 0, 0), 0, 0, []),
  (.if_icmp .ge 50, (36, 0, 0, 0), 0, 0, []),
  (.aload_n 0, (0, 0, 0, 0), 0, 0, []),
  (.getfield 11, (7, 0, 2, 0), 0, 0, []),
  (.iload_n 2, (2, 0, 0, 0), 0, 0, []),
  (.iaload, (13, 0, 0, 0), 0, 0, []),
  (.ifCond .lt 35, (34, 0, 0, 0), 0, 0, []),
  (.aload_n 0, (0, 0, 0, 0), 0, 0, []),
  (.getfield 17, (7, 1, 1, 0), 0, 0, []),
  (.iload_n 2, (2, 0, 0, 0), 0, 0, []),
  (.invokestatic 25, (5, 2, 1, 99), 0, 0, []),
  (.ifCond .ne 24, (34, 0, 0, 0), 0, 0, []),
  (.iload_n 1, (1, 0, 0, 0), 0, 0, []),
  (.iconst (-1), (0, 0, 0, 0), (-1), 0, []),
  (.if_icmp .eq 17, (31, 0, 0, 0), 0, 0, []),
  (.aload_n 0, (0, 0, 0, 0), 0, 0, []),
  (.getfield 11, (7, 0, 2, 0), 0, 0, []),
  (.iload_n 2, (2, 0, 0, 0), 0, 0, []),
  (.iaload, (13, 0, 0, 0), 0, 0, []),
  (.aload_n 0, (0, 0, 0, 0), 0, 0, []),
  (.iload_n 1, (1, 0, 0, 0), 0, 0, []),
  (.invokevirtual 39, (91, 2, 1, 7), 0, 0, []),
  (.if_icmp .ge 5, (34, 0, 0, 0), 0, 0, []),
  (.nop, (0, 0, 0, 0), 0, 0, [(0, 1), (0, 0), (0, 1)]),
  (.iload_n 2, (2, 0, 0, 0), 0, 0, []),
  (.istore_n 1, (1, 0, 0, 0), 0, 0, []),
  (.iinc 2 1, (2, 0, 0, 0), 1, 0, []),
  (.goto (-53), (4, 0, 0, 0), 0, 0, []),
  (.iload_n 1, (1, 0, 0, 0), 0, 0, []),
  (.ireturn, (0, 0, 0, 0), 0, 0, [])]
def q_89 : List Nat := [0, 1, 2, 3, 4, 4, 5, 6, 9, 10, 13, 14, 17, 18, 19, 22, 23, 26, 27, 30, 33, 34, 35, 38, 39, 42, 43, 44, 45, 46, 49, 52, 52, 53, 54, 57, 60, 61, 62]
def m_89 : aMt := (yX8_nearest, cX8_nearest, 3, (some .int), 8, 2, 41, (0, 0), 0, k_89, q_89)
def k_90 : List aM := [(.iload_n 1, (1, 0, 0, 0), 0, 0, []),
  (.invokestatic 21, (6, 1, 1, 99), 0, 0, []),
  (.ifCond .eq 29, (20, 0, 0, 0), 0, 0, []),
  (.aload_n 0, (0, 0, 0, 0), 0, 0, []),
  (.getfield 11, (7, 0, 2, 0), 0, 0, []),
  (.iload_n 1, (1, 0, 0, 0), 0, 0, []),
  (.iaload, (13, 0, 0, 0), 0, 0, []),
  (.ifCond .lt 13, (14, 0, 0, 0), 0, 0, []),
  (.iload_n 2, (2, 0, 0, 0), 0, 0, []),
  (.aload_n 0, (0, 0, 0, 0), 0, 0, []),
  (.getfield 11, (7, 0, 2, 0), 0, 0, []),
  (.iload_n 1, (1, 0, 0, 0), 0, 0, []),
  (.iaload, (13, 0, 0, 0), 0, 0, []),
  (.if_icmp .ge 10, (20, 0, 0, 0), 0, 0, []),
  (.nop, (0, 0, 0, 0), 0, 0, [(0, 1), (0, 1), (0, 1)]),
  (.aload_n 0, (0, 0, 0, 0), 0, 0, []),
  (.getfield 11, (7, 0, 2, 0), 0, 0, []),
  (.iload_n 1, (1, 0, 0, 0), 0, 0, []),
  (.iload_n 2, (2, 0, 0, 0), 0, 0, []),
  (.iastore, (0, 0, 0, 0), 0, 0, []),
  (.return_, (0, 0, 0, 0), 0, 0, [])]
def q_90 : List Nat := [0, 1, 4, 7, 8, 11, 12, 13, 16, 17, 18, 21, 22, 23, 26, 26, 27, 30, 31, 32, 33, 34]
def m_90 : aMt := (yX8_lower, cX8_lower, 3, none, 8, 1, 20, (0, 0), 2, k_90, q_90)
def k_91 : List aM := [(.iload_n 1, (1, 0, 0, 0), 0, 0, []),
  (.invokestatic 21, (6, 1, 1, 99), 0, 0, []),
  (.ifCond .eq 12, (8, 0, 0, 0), 0, 0, []),
  (.aload_n 0, (0, 0, 0, 0), 0, 0, []),
  (.getfield 11, (7, 0, 2, 0), 0, 0, []),
  (.iload_n 1, (1, 0, 0, 0), 0, 0, []),
  (.iaload, (13, 0, 0, 0), 0, 0, []),
  (.goto 5, (9, 0, 0, 0), 0, 0, []),
  (.bipush (-2), (0, 0, 0, 0), (-2), 0, []),
  (.ireturn, (0, 0, 0, 0), 0, 0, [])]
def q_91 : List Nat := [0, 1, 4, 7, 8, 11, 12, 13, 16, 18, 19]
def m_91 : aMt := (yX8_leastTo, cX8_leastTo, 2, (some .int), 8, 1, 20, (0, 0), 1, k_91, q_91)
def k_92 : List aM := [(.iconst 0, (0, 0, 0, 0), 0, 0, []),
  (.istore_n 2, (2, 0, 0, 0), 0, 0, []),
  (.iconst 0, (0, 0, 0, 0), 0, 0, []),
  (.istore_n 3, (3, 0, 0, 0), 0, 0, []),
  (.nop, (0, 0, 0, 0), 0, 0, [(0, 1), (0, 1), (0, 1), (0, 1)]),
  (.iload_n 3, (3, 0, 0, 0), 0, 0, []),
  (.aload_n 0, (0, 0, 0, 0), 0, 0, []),
  (.getfield 11, (7, 0, 2, 0), 0, 0, []),
  (.arraylength, (13, 0, 0, 0), 0, 0, []),
  (.if_icmp .ge 31, (24, 0, 0, 0), 0, 0, []),
  (.aload_n 0, (0, 0, 0, 0), 0, 0, []),
  (.getfield 11, (7, 0, 2, 0), 0, 0, []),
  (.iload_n 3, (3, 0, 0, 0), 0, 0, []),
  (.iaload, (13, 0, 0, 0), 0, 0, []),
  (.ifCond .lt 16, (22, 0, 0, 0), 0, 0, []),
  (.aload_n 0, (0, 0, 0, 0), 0, 0, []),
  (.getfield 11, (7, 0, 2, 0), 0, 0, []),
  (.iload_n 3, (3, 0, 0, 0), 0, 0, []),
  (.iaload, (13, 0, 0, 0), 0, 0, []),
  (.iload_n 1, (1, 0, 0, 0), 0, 0, []),
  (.if_icmp .gt 6, (22, 0, 0, 0), 0, 0, []),
  (.iinc 2 1, (2, 0, 0, 0), 1, 0, []),
  (.iinc 3 1, (3, 0, 0, 0), 1, 0, []),
  (.goto (-34), (4, 0, 0, 0), 0, 0, []),
  (.iload_n 2, (2, 0, 0, 0), 0, 0, []),
  (.ireturn, (0, 0, 0, 0), 0, 0, [])]
def q_92 : List Nat := [0, 1, 2, 3, 4, 4, 5, 6, 9, 10, 13, 14, 17, 18, 19, 22, 23, 26, 27, 28, 29, 32, 35, 38, 41, 42, 43]
def m_92 : aMt := (yX8_countWithin, cX8_countWithin, 4, (some .int), 8, 0, 0, (0, 0), 1, k_92, q_92)
def k_93 : List aM := [(.aload_n 0, (0, 0, 0, 0), 0, 0, []),
  (.invokespecial 3, (0, 0, 9, 0), 0, 0, []),
  (.aload_n 0, (0, 0, 0, 0), 0, 0, []),
  (.iconst 4, (0, 0, 0, 0), 4, 0, []),
  (.newarray .int, (13, 0, 0, 0), 0, 0, []),
  (.putfield 11, (8, 4, 2, 0), 0, 0, []),
  (.aload_n 0, (0, 0, 0, 0), 0, 0, []),
  (.iconst 4, (0, 0, 0, 0), 4, 0, []),
  (.newarray .int, (13, 0, 0, 0), 0, 0, []),
  (.putfield 17, (8, 5, 2, 0), 0, 0, []),
  (.aload_n 0, (0, 0, 0, 0), 0, 0, []),
  (.iconst 4, (0, 0, 0, 0), 4, 0, []),
  (.newarray .int, (13, 0, 0, 0), 0, 0, []),
  (.putfield 20, (8, 6, 2, 0), 0, 0, []),
  (.return_, (0, 0, 0, 0), 0, 0, [])]
def q_93 : List Nat := [0, 1, 4, 5, 6, 8, 11, 12, 13, 15, 18, 19, 20, 22, 25, 26]
def m_93 : aMt := (yX9_init, cX9_init, 1, none, 9, 1, 20, (3, 12), 0, k_93, q_93)
def k_94 : List aM := [(.aload_n 0, (0, 0, 0, 0), 0, 0, []),
  (.lconst 0, (0, 0, 0, 0), 0, 0, []),
  (.putfield 23, (8, 0, 1, 0), 0, 0, []),
  (.aload_n 0, (0, 0, 0, 0), 0, 0, []),
  (.lconst 0, (0, 0, 0, 0), 0, 0, []),
  (.putfield 27, (8, 1, 1, 0), 0, 0, []),
  (.aload_n 0, (0, 0, 0, 0), 0, 0, []),
  (.iconst 0, (0, 0, 0, 0), 0, 0, []),
  (.putfield 30, (8, 2, 0, 0), 0, 0, []),
  (.aload_n 0, (0, 0, 0, 0), 0, 0, []),
  (.iconst 0, (0, 0, 0, 0), 0, 0, []),
  (.putfield 34, (8, 3, 0, 0), 0, 0, []),
  (.iconst 0, (0, 0, 0, 0), 0, 0, []),
  (.istore_n 2, (2, 0, 0, 0), 0, 0, []),
  (.nop, (0, 0, 0, 0), 0, 0, [(0, 1), (0, 1), (0, 1)]),
  (.iload_n 2, (2, 0, 0, 0), 0, 0, []),
  (.aload_n 1, (1, 0, 0, 0), 0, 0, []),
  (.getfield 37, (2, 7, 0, 0), 0, 0, []),
  (.if_icmp .ge 21, (29, 0, 0, 0), 0, 0, []),
  (.aload_n 0, (0, 0, 0, 0), 0, 0, []),
  (.getfield 20, (8, 6, 2, 0), 0, 0, []),
  (.iload_n 2, (2, 0, 0, 0), 0, 0, []),
  (.aload_n 1, (1, 0, 0, 0), 0, 0, []),
  (.getfield 40, (2, 12, 2, 0), 0, 0, []),
  (.iload_n 2, (2, 0, 0, 0), 0, 0, []),
  (.iaload, (13, 0, 0, 0), 0, 0, []),
  (.iastore, (0, 0, 0, 0), 0, 0, []),
  (.iinc 2 1, (2, 0, 0, 0), 1, 0, []),
  (.goto (-23), (14, 0, 0, 0), 0, 0, []),
  (.iconst 0, (0, 0, 0, 0), 0, 0, []),
  (.istore_n 2, (2, 0, 0, 0), 0, 0, []),
  (.nop, (0, 0, 0, 0), 0, 0, [(0, 1), (0, 1), (0, 1)]),
  (.iload_n 2, (2, 0, 0, 0), 0, 0, []),
  (.aload_n 1, (1, 0, 0, 0), 0, 0, []),
  (.getfield 41, (2, 8, 0, 0), 0, 0, []),
  (.if_icmp .ge 33, (54, 0, 0, 0), 0, 0, []),
  (.aload_n 0, (0, 0, 0, 0), 0, 0, []),
  (.getfield 11, (8, 4, 2, 0), 0, 0, []),
  (.iload_n 2, (2, 0, 0, 0), 0, 0, []),
  (.iconst 0, (0, 0, 0, 0), 0, 0, []),
  (.iastore, (0, 0, 0, 0), 0, 0, []),
  (.aload_n 0, (0, 0, 0, 0), 0, 0, []),
  (.dup, (0, 0, 0, 0), 0, 0, []),
  (.getfield 23, (8, 0, 1, 0), 0, 0, []),
  (.lconst 1, (0, 0, 0, 0), 0, 1, []),
  (.aload_n 1, (1, 0, 0, 0), 0, 0, []),
  (.iload_n 2, (2, 0, 0, 0), 0, 0, []),
  (.iconst 0, (0, 0, 0, 0), 0, 0, []),
  (.invokevirtual 44, (31, 3, 1, 2), 0, 0, []),
  (.lshl, (0, 0, 0, 0), 0, 0, []),
  (.lor, (0, 0, 0, 0), 0, 0, []),
  (.putfield 23, (8, 0, 1, 0), 0, 0, []),
  (.iinc 2 1, (2, 0, 0, 0), 1, 0, []),
  (.goto (-35), (31, 0, 0, 0), 0, 0, []),
  (.iconst 0, (0, 0, 0, 0), 0, 0, []),
  (.istore_n 2, (2, 0, 0, 0), 0, 0, []),
  (.nop, (0, 0, 0, 0), 0, 0, [(0, 1), (0, 1), (0, 1)]),
  (.iload_n 2, (2, 0, 0, 0), 0, 0, []),
  (.aload_n 1, (1, 0, 0, 0), 0, 0, []),
  (.getfield 41, (2, 8, 0, 0), 0, 0, []),
  (.if_icmp .ge 15, (67, 0, 0, 0), 0, 0, []),
  (.aload_n 0, (0, 0, 0, 0), 0, 0, []),
  (.aload_n 1, (1, 0, 0, 0), 0, 0, []),
  (.iload_n 2, (2, 0, 0, 0), 0, 0, []),
  (.invokevirtual 48, (97, 3, 0, 8), 0, 0, []),
  (.iinc 2 1, (2, 0, 0, 0), 1, 0, []),
  (.goto (-17), (56, 0, 0, 0), 0, 0, []),
  (.return_, (0, 0, 0, 0), 0, 0, [])]
def q_94 : List Nat := [0, 1, 2, 5, 6, 7, 10, 11, 12, 15, 16, 17, 20, 21, 22, 22, 23, 24, 27, 30, 31, 34, 35, 36, 39, 40, 41, 42, 45, 48, 49, 50, 50, 51, 52, 55, 58, 59, 62, 63, 64, 65, 66, 67, 70, 71, 72, 73, 74, 77, 78, 79, 82, 85, 88, 89, 90, 90, 91, 92, 95, 98, 99, 100, 101, 104, 107, 110, 111]
def m_94 : aMt := (yX9_begin, cX9_begin, 3, none, 9, 4, 86, (0, 0), 1, k_94, q_94)
def k_95 : List aM := [(.aload_n 0, (0, 0, 0, 0), 0, 0, []),
  (.aload_n 1, (1, 0, 0, 0), 0, 0, []),
  (.getfield 23, (8, 0, 1, 0), 0, 0, []),
  (.putfield 23, (8, 0, 1, 0), 0, 0, []),
  (.aload_n 0, (0, 0, 0, 0), 0, 0, []),
  (.aload_n 1, (1, 0, 0, 0), 0, 0, []),
  (.getfield 27, (8, 1, 1, 0), 0, 0, []),
  (.putfield 27, (8, 1, 1, 0), 0, 0, []),
  (.aload_n 0, (0, 0, 0, 0), 0, 0, []),
  (.aload_n 1, (1, 0, 0, 0), 0, 0, []),
  (.getfield 30, (8, 2, 0, 0), 0, 0, []),
  (.putfield 30, (8, 2, 0, 0), 0, 0, []),
  (.aload_n 0, (0, 0, 0, 0), 0, 0, []),
  (.aload_n 1, (1, 0, 0, 0), 0, 0, []),
  (.getfield 34, (8, 3, 0, 0), 0, 0, []),
  (.putfield 34, (8, 3, 0, 0), 0, 0, []),
  (.iconst 0, (0, 0, 0, 0), 0, 0, []),
  (.istore_n 2, (2, 0, 0, 0), 0, 0, []),
  (.nop, (0, 0, 0, 0), 0, 0, [(0, 1), (0, 1), (0, 1)]),
  (.iload_n 2, (2, 0, 0, 0), 0, 0, []),
  (.iconst 4, (0, 0, 0, 0), 4, 0, []),
  (.if_icmp .ge 45, (48, 0, 0, 0), 0, 0, []),
  (.aload_n 0, (0, 0, 0, 0), 0, 0, []),
  (.getfield 11, (8, 4, 2, 0), 0, 0, []),
  (.iload_n 2, (2, 0, 0, 0), 0, 0, []),
  (.aload_n 1, (1, 0, 0, 0), 0, 0, []),
  (.getfield 11, (8, 4, 2, 0), 0, 0, []),
  (.iload_n 2, (2, 0, 0, 0), 0, 0, []),
  (.iaload, (13, 0, 0, 0), 0, 0, []),
  (.iastore, (0, 0, 0, 0), 0, 0, []),
  (.aload_n 0, (0, 0, 0, 0), 0, 0, []),
  (.getfield 17, (8, 5, 2, 0), 0, 0, []),
  (.iload_n 2, (2, 0, 0, 0), 0, 0, []),
  (.aload_n 1, (1, 0, 0, 0), 0, 0, []),
  (.getfield 17, (8, 5, 2, 0), 0, 0, []),
  (.iload_n 2, (2, 0, 0, 0), 0, 0, []),
  (.iaload, (13, 0, 0, 0), 0, 0, []),
  (.iastore, (0, 0, 0, 0), 0, 0, []),
  (.aload_n 0, (0, 0, 0, 0), 0, 0, []),
  (.getfield 20, (8, 6, 2, 0), 0, 0, []),
  (.iload_n 2, (2, 0, 0, 0), 0, 0, []),
  (.aload_n 1, (1, 0, 0, 0), 0, 0, []),
  (.getfield 20, (8, 6, 2, 0), 0, 0, []),
  (.iload_n 2, (2, 0, 0, 0), 0, 0, []),
  (.iaload, (13, 0, 0, 0), 0, 0, []),
  (.iastore, (0, 0, 0, 0), 0, 0, []),
  (.iinc 2 1, (2, 0, 0, 0), 1, 0, []),
  (.goto (-44), (18, 0, 0, 0), 0, 0, []),
  (.return_, (0, 0, 0, 0), 0, 0, [])]
def q_95 : List Nat := [0, 1, 2, 5, 8, 9, 10, 13, 16, 17, 18, 21, 24, 25, 26, 29, 32, 33, 34, 34, 35, 36, 39, 40, 43, 44, 45, 48, 49, 50, 51, 52, 55, 56, 57, 60, 61, 62, 63, 64, 67, 68, 69, 72, 73, 74, 75, 78, 81, 82]
def m_95 : aMt := (yX9_copy, cX9_copy, 3, none, 9, 0, 0, (0, 0), 1, k_95, q_95)
def k_96 : List aM := [(.iconst 0, (0, 0, 0, 0), 0, 0, []),
  (.istore_n 2, (2, 0, 0, 0), 0, 0, []),
  (.iconst 0, (0, 0, 0, 0), 0, 0, []),
  (.istore_n 3, (3, 0, 0, 0), 0, 0, []),
  (.nop, (0, 0, 0, 0), 0, 0, [(0, 1), (0, 1), (0, 1), (0, 1)]),
  (.iload_n 3, (3, 0, 0, 0), 0, 0, []),
  (.aload_n 1, (1, 0, 0, 0), 0, 0, []),
  (.getfield 41, (2, 8, 0, 0), 0, 0, []),
  (.if_icmp .ge 70, (54, 0, 0, 0), 0, 0, []),
  (.aload_n 0, (0, 0, 0, 0), 0, 0, []),
  (.getfield 17, (8, 5, 2, 0), 0, 0, []),
  (.iload_n 3, (3, 0, 0, 0), 0, 0, []),
  (.iaload, (13, 0, 0, 0), 0, 0, []),
  (.ifCond .le 55, (52, 0, 0, 0), 0, 0, []),
  (.aload_n 0, (0, 0, 0, 0), 0, 0, []),
  (.getfield 17, (8, 5, 2, 0), 0, 0, []),
  (.iload_n 3, (3, 0, 0, 0), 0, 0, []),
  (.dup2, (0, 0, 0, 0), 0, 0, []),
  (.iaload, (13, 0, 0, 0), 0, 0, []),
  (.iconst 1, (0, 0, 0, 0), 1, 0, []),
  (.isub, (0, 0, 0, 0), 0, 0, []),
  (.iastore, (0, 0, 0, 0), 0, 0, []),
  (.aload_n 0, (0, 0, 0, 0), 0, 0, []),
  (.getfield 17, (8, 5, 2, 0), 0, 0, []),
  (.iload_n 3, (3, 0, 0, 0), 0, 0, []),
  (.iaload, (13, 0, 0, 0), 0, 0, []),
  (.ifCond .ne 36, (52, 0, 0, 0), 0, 0, []),
  (.aload_n 0, (0, 0, 0, 0), 0, 0, []),
  (.getfield 11, (8, 4, 2, 0), 0, 0, []),
  (.iload_n 3, (3, 0, 0, 0), 0, 0, []),
  (.dup2, (0, 0, 0, 0), 0, 0, []),
  (.iaload, (13, 0, 0, 0), 0, 0, []),
  (.iconst 1, (0, 0, 0, 0), 1, 0, []),
  (.iadd, (0, 0, 0, 0), 0, 0, []),
  (.iastore, (0, 0, 0, 0), 0, 0, []),
  (.aload_n 0, (0, 0, 0, 0), 0, 0, []),
  (.dup, (0, 0, 0, 0), 0, 0, []),
  (.getfield 23, (8, 0, 1, 0), 0, 0, []),
  (.lconst 1, (0, 0, 0, 0), 0, 1, []),
  (.aload_n 0, (0, 0, 0, 0), 0, 0, []),
  (.aload_n 1, (1, 0, 0, 0), 0, 0, []),
  (.iload_n 3, (3, 0, 0, 0), 0, 0, []),
  (.invokevirtual 52, (100, 3, 1, 8), 0, 0, []),
  (.lshl, (0, 0, 0, 0), 0, 0, []),
  (.lor, (0, 0, 0, 0), 0, 0, []),
  (.putfield 23, (8, 0, 1, 0), 0, 0, []),
  (.iload_n 2, (2, 0, 0, 0), 0, 0, []),
  (.iconst 1, (0, 0, 0, 0), 1, 0, []),
  (.iload_n 3, (3, 0, 0, 0), 0, 0, []),
  (.ishl, (0, 0, 0, 0), 0, 0, []),
  (.ior, (0, 0, 0, 0), 0, 0, []),
  (.istore_n 2, (2, 0, 0, 0), 0, 0, []),
  (.iinc 3 1, (3, 0, 0, 0), 1, 0, []),
  (.goto (-72), (4, 0, 0, 0), 0, 0, []),
  (.iconst 0, (0, 0, 0, 0), 0, 0, []),
  (.istore_n 3, (3, 0, 0, 0), 0, 0, []),
  (.nop, (0, 0, 0, 0), 0, 0, [(0, 1), (0, 1), (0, 1), (0, 1)]),
  (.iload_n 3, (3, 0, 0, 0), 0, 0, []),
  (.aload_n 1, (1, 0, 0, 0), 0, 0, []),
  (.getfield 41, (2, 8, 0, 0), 0, 0, []),
  (.if_icmp .ge 23, (73, 0, 0, 0), 0, 0, []),
  (.iload_n 2, (2, 0, 0, 0), 0, 0, []),
  (.iload_n 3, (3, 0, 0, 0), 0, 0, []),
  (.ishr, (0, 0, 0, 0), 0, 0, []),
  (.iconst 1, (0, 0, 0, 0), 1, 0, []),
  (.iand, (0, 0, 0, 0), 0, 0, []),
  (.ifCond .eq 9, (71, 0, 0, 0), 0, 0, []),
  (.aload_n 0, (0, 0, 0, 0), 0, 0, []),
  (.aload_n 1, (1, 0, 0, 0), 0, 0, []),
  (.iload_n 3, (3, 0, 0, 0), 0, 0, []),
  (.invokevirtual 48, (97, 3, 0, 8), 0, 0, []),
  (.iinc 3 1, (3, 0, 0, 0), 1, 0, []),
  (.goto (-25), (56, 0, 0, 0), 0, 0, []),
  (.aload_n 0, (0, 0, 0, 0), 0, 0, []),
  (.dup, (0, 0, 0, 0), 0, 0, []),
  (.getfield 30, (8, 2, 0, 0), 0, 0, []),
  (.iconst 1, (0, 0, 0, 0), 1, 0, []),
  (.iadd, (0, 0, 0, 0), 0, 0, []),
  (.putfield 30, (8, 2, 0, 0), 0, 0, []),
  (.iload_n 2, (2, 0, 0, 0), 0, 0, []),
  (.ireturn, (0, 0, 0, 0), 0, 0, [])]
def q_96 : List Nat := [0, 1, 2, 3, 4, 4, 5, 6, 9, 12, 13, 16, 17, 18, 21, 22, 25, 26, 27, 28, 29, 30, 31, 32, 35, 36, 37, 40, 41, 44, 45, 46, 47, 48, 49, 50, 51, 52, 55, 56, 57, 58, 59, 62, 63, 64, 67, 68, 69, 70, 71, 72, 73, 76, 79, 80, 81, 81, 82, 83, 86, 89, 90, 91, 92, 93, 94, 97, 98, 99, 100, 103, 106, 109, 110, 111, 114, 115, 116, 119, 120, 121]
def m_96 : aMt := (yX9_passNight, cX9_passNight, 4, (some .int), 9, 4, 86, (0, 0), 1, k_96, q_96)
def k_97 : List aM := [(.aload_n 0, (0, 0, 0, 0), 0, 0, []),
  (.getfield 11, (8, 4, 2, 0), 0, 0, []),
  (.iload_n 2, (2, 0, 0, 0), 0, 0, []),
  (.iaload, (13, 0, 0, 0), 0, 0, []),
  (.aload_n 1, (1, 0, 0, 0), 0, 0, []),
  (.getfield 56, (2, 14, 2, 0), 0, 0, []),
  (.iload_n 2, (2, 0, 0, 0), 0, 0, []),
  (.iaload, (13, 0, 0, 0), 0, 0, []),
  (.if_icmp .ge 7, (11, 0, 0, 0), 0, 0, []),
  (.iconst 1, (0, 0, 0, 0), 1, 0, []),
  (.goto 4, (12, 0, 0, 0), 0, 0, []),
  (.iconst 0, (0, 0, 0, 0), 0, 0, []),
  (.nop, (0, 0, 0, 0), 0, 0, [(0, 1), (0, 1), (0, 1), (0, 0)]),
  (.istore_n 3, (3, 0, 0, 0), 0, 0, []),
  (.aload_n 0, (0, 0, 0, 0), 0, 0, []),
  (.getfield 17, (8, 5, 2, 0), 0, 0, []),
  (.iload_n 2, (2, 0, 0, 0), 0, 0, []),
  (.iload_n 3, (3, 0, 0, 0), 0, 0, []),
  (.ifCond .eq 28, (34, 0, 0, 0), 0, 0, []),
  (.iconst 1, (0, 0, 0, 0), 1, 0, []),
  (.aload_n 0, (0, 0, 0, 0), 0, 0, []),
  (.aload_n 1, (1, 0, 0, 0), 0, 0, []),
  (.aload_n 1, (1, 0, 0, 0), 0, 0, []),
  (.iload_n 2, (2, 0, 0, 0), 0, 0, []),
  (.aload_n 0, (0, 0, 0, 0), 0, 0, []),
  (.getfield 11, (8, 4, 2, 0), 0, 0, []),
  (.iload_n 2, (2, 0, 0, 0), 0, 0, []),
  (.iaload, (13, 0, 0, 0), 0, 0, []),
  (.iconst 1, (0, 0, 0, 0), 1, 0, []),
  (.iadd, (0, 0, 0, 0), 0, 0, []),
  (.invokevirtual 44, (31, 3, 1, 2), 0, 0, []),
  (.invokevirtual 59, (99, 3, 1, 8), 0, 0, []),
  (.invokestatic 62, (901, 2, 1, 99), 0, 0, []),
  (.goto 4, (35, 0, 0, 0), 0, 0, []),
  (.iconst 0, (0, 0, 0, 0), 0, 0, []),
  (.iastore, (0, 0, 0, 0), 0, 0, []),
  (.return_, (0, 0, 0, 0), 0, 0, [])]
def q_97 : List Nat := [0, 1, 4, 5, 6, 7, 10, 11, 12, 15, 16, 19, 20, 20, 21, 22, 25, 26, 27, 30, 31, 32, 33, 34, 35, 36, 39, 40, 41, 42, 43, 46, 49, 52, 55, 56, 57, 58]
def m_97 : aMt := (yX9_startNext, cX9_startNext, 4, none, 9, 3, 63, (0, 0), 2, k_97, q_97)
end
section
def k_98 : List aM := [(.aload_n 0, (0, 0, 0, 0), 0, 0, []),
  (.aload_n 1, (1, 0, 0, 0), 0, 0, []),
  (.iload_n 2, (2, 0, 0, 0), 0, 0, []),
  (.iload_n 3, (3, 0, 0, 0), 0, 0, []),
  (.invokevirtual 67, (104, 4, 1, 8), 0, 0, []),
  (.istore 4, (4, 0, 0, 0), 0, 0, []),
  (.iconst 0, (0, 0, 0, 0), 0, 0, []),
  (.istore 5, (5, 0, 0, 0), 0, 0, []),
  (.nop, (0, 0, 0, 0), 0, 0, [(0, 1), (0, 1), (0, 1), (0, 1), (0, 1), (0, 1)]),
  (.iload 5, (5, 0, 0, 0), 0, 0, []),
  (.bipush 64, (0, 0, 0, 0), 64, 0, []),
  (.if_icmp .ge 58, (41, 0, 0, 0), 0, 0, []),
  (.aload_n 1, (1, 0, 0, 0), 0, 0, []),
  (.iload 5, (5, 0, 0, 0), 0, 0, []),
  (.invokevirtual 73, (26, 2, 1, 2), 0, 0, []),
  (.ifCond .eq 43, (39, 0, 0, 0), 0, 0, []),
  (.iload 5, (5, 0, 0, 0), 0, 0, []),
  (.iload_n 2, (2, 0, 0, 0), 0, 0, []),
  (.invokestatic 77, (4, 2, 1, 99), 0, 0, []),
  (.iload_n 3, (3, 0, 0, 0), 0, 0, []),
  (.if_icmp .gt 33, (39, 0, 0, 0), 0, 0, []),
  (.aload_n 0, (0, 0, 0, 0), 0, 0, []),
  (.dup, (0, 0, 0, 0), 0, 0, []),
  (.getfield 27, (8, 1, 1, 0), 0, 0, []),
  (.lconst 1, (0, 0, 0, 0), 0, 1, []),
  (.iload 5, (5, 0, 0, 0), 0, 0, []),
  (.lshl, (0, 0, 0, 0), 0, 0, []),
  (.lor, (0, 0, 0, 0), 0, 0, []),
  (.putfield 27, (8, 1, 1, 0), 0, 0, []),
  (.aload_n 0, (0, 0, 0, 0), 0, 0, []),
  (.dup, (0, 0, 0, 0), 0, 0, []),
  (.getfield 23, (8, 0, 1, 0), 0, 0, []),
  (.lconst 1, (0, 0, 0, 0), 0, 1, []),
  (.iload 5, (5, 0, 0, 0), 0, 0, []),
  (.lshl, (0, 0, 0, 0), 0, 0, []),
  (.ldc2_w 80, (0, 0, 0, 0), 0, (-1), []),
  (.lxor, (0, 0, 0, 0), 0, 0, []),
  (.land, (0, 0, 0, 0), 0, 0, []),
  (.putfield 23, (8, 0, 1, 0), 0, 0, []),
  (.iinc 5 1, (5, 0, 0, 0), 1, 0, []),
  (.goto (-59), (8, 0, 0, 0), 0, 0, []),
  (.aload_n 0, (0, 0, 0, 0), 0, 0, []),
  (.dup, (0, 0, 0, 0), 0, 0, []),
  (.getfield 34, (8, 3, 0, 0), 0, 0, []),
  (.iload 4, (4, 0, 0, 0), 0, 0, []),
  (.ior, (0, 0, 0, 0), 0, 0, []),
  (.putfield 34, (8, 3, 0, 0), 0, 0, []),
  (.iconst 0, (0, 0, 0, 0), 0, 0, []),
  (.istore 5, (5, 0, 0, 0), 0, 0, []),
  (.nop, (0, 0, 0, 0), 0, 0, [(0, 1), (0, 1), (0, 0), (0, 0), (0, 1), (0, 1)]),
  (.iload 5, (5, 0, 0, 0), 0, 0, []),
  (.aload_n 1, (1, 0, 0, 0), 0, 0, []),
  (.getfield 41, (2, 8, 0, 0), 0, 0, []),
  (.if_icmp .ge 27, (67, 0, 0, 0), 0, 0, []),
  (.iload 4, (4, 0, 0, 0), 0, 0, []),
  (.iload 5, (5, 0, 0, 0), 0, 0, []),
  (.ishr, (0, 0, 0, 0), 0, 0, []),
  (.iconst 1, (0, 0, 0, 0), 1, 0, []),
  (.iand, (0, 0, 0, 0), 0, 0, []),
  (.ifCond .eq 11, (65, 0, 0, 0), 0, 0, []),
  (.aload_n 0, (0, 0, 0, 0), 0, 0, []),
  (.getfield 17, (8, 5, 2, 0), 0, 0, []),
  (.iload 5, (5, 0, 0, 0), 0, 0, []),
  (.iconst 0, (0, 0, 0, 0), 0, 0, []),
  (.iastore, (0, 0, 0, 0), 0, 0, []),
  (.iinc 5 1, (5, 0, 0, 0), 1, 0, []),
  (.goto (-30), (49, 0, 0, 0), 0, 0, []),
  (.iload 4, (4, 0, 0, 0), 0, 0, []),
  (.ireturn, (0, 0, 0, 0), 0, 0, [])]
def q_98 : List Nat := [0, 1, 2, 3, 4, 7, 9, 10, 12, 12, 14, 16, 19, 20, 22, 25, 28, 30, 31, 34, 35, 38, 39, 40, 43, 44, 46, 47, 48, 51, 52, 53, 56, 57, 59, 60, 63, 64, 65, 68, 71, 74, 75, 76, 79, 81, 82, 85, 86, 88, 88, 90, 91, 94, 97, 99, 101, 102, 103, 104, 107, 108, 111, 113, 114, 115, 118, 121, 123, 124]
def m_98 : aMt := (yX9_explode, cX9_explode, 6, (some .int), 9, 4, 92, (0, 0), 3, k_98, q_98)
def k_99 : List aM := [(.aload_n 0, (0, 0, 0, 0), 0, 0, []),
  (.getfield 23, (8, 0, 1, 0), 0, 0, []),
  (.iload_n 2, (2, 0, 0, 0), 0, 0, []),
  (.invokestatic 82, (5, 2, 1, 99), 0, 0, []),
  (.ifCond .eq 5, (7, 0, 0, 0), 0, 0, []),
  (.iconst 0, (0, 0, 0, 0), 0, 0, []),
  (.ireturn, (0, 0, 0, 0), 0, 0, []),
  (.aload_n 1, (1, 0, 0, 0), 0, 0, []),
  (.iload_n 2, (2, 0, 0, 0), 0, 0, []),
  (.invokevirtual 86, (25, 2, 1, 2), 0, 0, []),
  (.aload_n 0, (0, 0, 0, 0), 0, 0, []),
  (.getfield 27, (8, 1, 1, 0), 0, 0, []),
  (.iload_n 2, (2, 0, 0, 0), 0, 0, []),
  (.invokestatic 82, (5, 2, 1, 99), 0, 0, []),
  (.ifCond .eq 7, (17, 0, 0, 0), 0, 0, []),
  (.iconst 2, (0, 0, 0, 0), 2, 0, []),
  (.goto 4, (18, 0, 0, 0), 0, 0, []),
  (.iconst 1, (0, 0, 0, 0), 1, 0, []),
  (.iadd, (0, 0, 0, 0), 0, 0, []),
  (.ireturn, (0, 0, 0, 0), 0, 0, [])]
def q_99 : List Nat := [0, 1, 4, 5, 8, 11, 12, 13, 14, 15, 18, 19, 22, 23, 26, 29, 30, 33, 34, 35, 36]
def m_99 : aMt := (yX9_toDig, cX9_toDig, 3, (some .int), 9, 2, 41, (0, 0), 2, k_99, q_99)
def k_100 : List aM := [(.aload_n 1, (1, 0, 0, 0), 0, 0, []),
  (.iload_n 2, (2, 0, 0, 0), 0, 0, []),
  (.aload_n 0, (0, 0, 0, 0), 0, 0, []),
  (.iload_n 2, (2, 0, 0, 0), 0, 0, []),
  (.invokevirtual 90, (101, 2, 1, 8), 0, 0, []),
  (.invokevirtual 44, (31, 3, 1, 2), 0, 0, []),
  (.ireturn, (0, 0, 0, 0), 0, 0, [])]
def q_100 : List Nat := [0, 1, 2, 3, 4, 7, 10, 11]
def m_100 : aMt := (yX9_placeOf, cX9_placeOf, 3, (some .int), 9, 1, 22, (0, 0), 2, k_100, q_100)
def k_101 : List aM := [(.iload_n 1, (1, 0, 0, 0), 0, 0, []),
  (.ifCond .lt 17, (10, 0, 0, 0), 0, 0, []),
  (.iload_n 1, (1, 0, 0, 0), 0, 0, []),
  (.iconst 4, (0, 0, 0, 0), 4, 0, []),
  (.if_icmp .ge 12, (10, 0, 0, 0), 0, 0, []),
  (.aload_n 0, (0, 0, 0, 0), 0, 0, []),
  (.getfield 11, (8, 4, 2, 0), 0, 0, []),
  (.iload_n 1, (1, 0, 0, 0), 0, 0, []),
  (.iaload, (13, 0, 0, 0), 0, 0, []),
  (.goto 4, (11, 0, 0, 0), 0, 0, []),
  (.iconst 0, (0, 0, 0, 0), 0, 0, []),
  (.ireturn, (0, 0, 0, 0), 0, 0, [])]
def q_101 : List Nat := [0, 1, 4, 5, 6, 9, 10, 13, 14, 15, 18, 19, 20]
def m_101 : aMt := (yX9_comeOf, cX9_comeOf, 2, (some .int), 9, 0, 0, (0, 0), 1, k_101, q_101)
def k_102 : List aM := [(.iload_n 1, (1, 0, 0, 0), 0, 0, []),
  (.ifCond .lt 21, (12, 0, 0, 0), 0, 0, []),
  (.iload_n 1, (1, 0, 0, 0), 0, 0, []),
  (.iconst 4, (0, 0, 0, 0), 4, 0, []),
  (.if_icmp .ge 16, (12, 0, 0, 0), 0, 0, []),
  (.aload_n 0, (0, 0, 0, 0), 0, 0, []),
  (.getfield 17, (8, 5, 2, 0), 0, 0, []),
  (.iload_n 1, (1, 0, 0, 0), 0, 0, []),
  (.iaload, (13, 0, 0, 0), 0, 0, []),
  (.ifCond .le 7, (12, 0, 0, 0), 0, 0, []),
  (.iconst 1, (0, 0, 0, 0), 1, 0, []),
  (.goto 4, (13, 0, 0, 0), 0, 0, []),
  (.iconst 0, (0, 0, 0, 0), 0, 0, []),
  (.ireturn, (0, 0, 1, 0), 0, 0, [])]
def q_102 : List Nat := [0, 1, 4, 5, 6, 9, 10, 13, 14, 15, 18, 19, 22, 23, 24]
def m_102 : aMt := (yX9_isDigging, cX9_isDigging, 2, (some .boolean), 9, 0, 0, (0, 0), 1, k_102, q_102)
def k_103 : List aM := [(.iconst 0, (0, 0, 0, 0), 0, 0, []),
  (.istore 4, (4, 0, 0, 0), 0, 0, []),
  (.iconst 0, (0, 0, 0, 0), 0, 0, []),
  (.istore 5, (5, 0, 0, 0), 0, 0, []),
  (.nop, (0, 0, 0, 0), 0, 0, [(0, 1), (0, 1), (0, 1), (0, 1), (0, 1), (0, 1)]),
  (.iload 5, (5, 0, 0, 0), 0, 0, []),
  (.aload_n 1, (1, 0, 0, 0), 0, 0, []),
  (.getfield 41, (2, 8, 0, 0), 0, 0, []),
  (.if_icmp .ge 33, (25, 0, 0, 0), 0, 0, []),
  (.aload_n 0, (0, 0, 0, 0), 0, 0, []),
  (.aload_n 1, (1, 0, 0, 0), 0, 0, []),
  (.iload 5, (5, 0, 0, 0), 0, 0, []),
  (.invokevirtual 52, (100, 3, 1, 8), 0, 0, []),
  (.iload_n 2, (2, 0, 0, 0), 0, 0, []),
  (.invokestatic 77, (4, 2, 1, 99), 0, 0, []),
  (.iload_n 3, (3, 0, 0, 0), 0, 0, []),
  (.if_icmp .gt 12, (23, 0, 0, 0), 0, 0, []),
  (.iload 4, (4, 0, 0, 0), 0, 0, []),
  (.iconst 1, (0, 0, 0, 0), 1, 0, []),
  (.iload 5, (5, 0, 0, 0), 0, 0, []),
  (.ishl, (0, 0, 0, 0), 0, 0, []),
  (.ior, (0, 0, 0, 0), 0, 0, []),
  (.istore 4, (4, 0, 0, 0), 0, 0, []),
  (.iinc 5 1, (5, 0, 0, 0), 1, 0, []),
  (.goto (-36), (4, 0, 0, 0), 0, 0, []),
  (.iload 4, (4, 0, 0, 0), 0, 0, []),
  (.ireturn, (0, 0, 0, 0), 0, 0, [])]
def q_103 : List Nat := [0, 1, 3, 4, 6, 6, 8, 9, 12, 15, 16, 17, 19, 22, 23, 26, 27, 30, 32, 33, 35, 36, 37, 39, 42, 45, 47, 48]
def m_103 : aMt := (yX9_galleriesNear, cX9_galleriesNear, 6, (some .int), 9, 2, 44, (0, 0), 3, k_103, q_103)
def k_104 : List aM := [(.aload_n 0, (0, 0, 0, 0), 0, 0, []),
  (.aload_n 1, (1, 0, 0, 0), 0, 0, []),
  (.iload_n 2, (2, 0, 0, 0), 0, 0, []),
  (.iload_n 3, (3, 0, 0, 0), 0, 0, []),
  (.invokevirtual 93, (103, 4, 1, 8), 0, 0, []),
  (.aload_n 0, (0, 0, 0, 0), 0, 0, []),
  (.getfield 34, (8, 3, 0, 0), 0, 0, []),
  (.iconst (-1), (0, 0, 0, 0), (-1), 0, []),
  (.ixor, (0, 0, 0, 0), 0, 0, []),
  (.iand, (0, 0, 0, 0), 0, 0, []),
  (.ireturn, (0, 0, 0, 0), 0, 0, [])]
def q_104 : List Nat := [0, 1, 2, 3, 4, 7, 8, 11, 12, 13, 14, 15]
def m_104 : aMt := (yX9_openNear, cX9_openNear, 4, (some .int), 9, 3, 69, (0, 0), 3, k_104, q_104)
def k_105 : List aM := [(.aload_n 0, (0, 0, 0, 0), 0, 0, []),
  (.aload_n 1, (1, 0, 0, 0), 0, 0, []),
  (.iload_n 2, (2, 0, 0, 0), 0, 0, []),
  (.invokevirtual 52, (100, 3, 1, 8), 0, 0, []),
  (.aload_n 0, (0, 0, 0, 0), 0, 0, []),
  (.aload_n 1, (1, 0, 0, 0), 0, 0, []),
  (.iload_n 3, (3, 0, 0, 0), 0, 0, []),
  (.invokevirtual 52, (100, 3, 1, 8), 0, 0, []),
  (.invokestatic 77, (4, 2, 1, 99), 0, 0, []),
  (.iconst 1, (0, 0, 0, 0), 1, 0, []),
  (.if_icmp .gt 7, (13, 0, 0, 0), 0, 0, []),
  (.iconst 1, (0, 0, 0, 0), 1, 0, []),
  (.goto 4, (14, 0, 0, 0), 0, 0, []),
  (.iconst 0, (0, 0, 0, 0), 0, 0, []),
  (.ireturn, (0, 0, 1, 0), 0, 0, [])]
def q_105 : List Nat := [0, 1, 2, 3, 6, 7, 8, 9, 12, 15, 16, 19, 20, 23, 24, 25]
def m_105 : aMt := (yX9_touch, cX9_touch, 4, (some .boolean), 9, 2, 44, (0, 0), 3, k_105, q_105)
def k_106 : List aM := [(.iconst 0, (0, 0, 0, 0), 0, 0, []),
  (.istore_n 2, (2, 0, 0, 0), 0, 0, []),
  (.nop, (0, 0, 0, 0), 0, 0, [(0, 1), (0, 1), (0, 1), (0, 0)]),
  (.iload_n 2, (2, 0, 0, 0), 0, 0, []),
  (.aload_n 1, (1, 0, 0, 0), 0, 0, []),
  (.getfield 41, (2, 8, 0, 0), 0, 0, []),
  (.if_icmp .ge 59, (41, 0, 0, 0), 0, 0, []),
  (.iload_n 2, (2, 0, 0, 0), 0, 0, []),
  (.iconst 1, (0, 0, 0, 0), 1, 0, []),
  (.iadd, (0, 0, 0, 0), 0, 0, []),
  (.istore_n 3, (3, 0, 0, 0), 0, 0, []),
  (.nop, (0, 0, 0, 0), 0, 0, [(0, 1), (0, 1), (0, 1), (0, 1)]),
  (.iload_n 3, (3, 0, 0, 0), 0, 0, []),
  (.aload_n 1, (1, 0, 0, 0), 0, 0, []),
  (.getfield 41, (2, 8, 0, 0), 0, 0, []),
  (.if_icmp .ge 41, (39, 0, 0, 0), 0, 0, []),
  (.aload_n 1, (1, 0, 0, 0), 0, 0, []),
  (.getfield 96, (2, 13, 2, 0), 0, 0, []),
  (.iload_n 2, (2, 0, 0, 0), 0, 0, []),
  (.iaload, (13, 0, 0, 0), 0, 0, []),
  (.aload_n 1, (1, 0, 0, 0), 0, 0, []),
  (.getfield 96, (2, 13, 2, 0), 0, 0, []),
  (.iload_n 3, (3, 0, 0, 0), 0, 0, []),
  (.iaload, (13, 0, 0, 0), 0, 0, []),
  (.if_icmp .eq 20, (37, 0, 0, 0), 0, 0, []),
  (.aload_n 0, (0, 0, 0, 0), 0, 0, []),
  (.aload_n 1, (1, 0, 0, 0), 0, 0, []),
  (.iload_n 2, (2, 0, 0, 0), 0, 0, []),
  (.iload_n 3, (3, 0, 0, 0), 0, 0, []),
  (.invokevirtual 99, (105, 4, 1, 8), 0, 0, []),
  (.ifCond .eq 10, (37, 0, 0, 0), 0, 0, []),
  (.bipush 10, (0, 0, 0, 0), 10, 0, []),
  (.iload_n 2, (2, 0, 0, 0), 0, 0, []),
  (.imul, (0, 0, 0, 0), 0, 0, []),
  (.iload_n 3, (3, 0, 0, 0), 0, 0, []),
  (.iadd, (0, 0, 0, 0), 0, 0, []),
  (.ireturn, (0, 0, 0, 0), 0, 0, []),
  (.iinc 3 1, (3, 0, 0, 0), 1, 0, []),
  (.goto (-43), (11, 0, 0, 0), 0, 0, []),
  (.iinc 2 1, (2, 0, 0, 0), 1, 0, []),
  (.goto (-61), (2, 0, 0, 0), 0, 0, []),
  (.iconst (-1), (0, 0, 0, 0), (-1), 0, []),
  (.ireturn, (0, 0, 0, 0), 0, 0, [])]
def q_106 : List Nat := [0, 1, 2, 2, 3, 4, 7, 10, 11, 12, 13, 14, 14, 15, 16, 19, 22, 23, 26, 27, 28, 29, 32, 33, 34, 37, 38, 39, 40, 41, 44, 47, 49, 50, 51, 52, 53, 54, 57, 60, 63, 66, 67, 68]
def m_106 : aMt := (yX9_firstPair, cX9_firstPair, 4, (some .int), 9, 3, 67, (0, 0), 1, k_106, q_106)
def k_107 : List aM := [(.iload_n 2, (2, 0, 0, 0), 0, 0, []),
  (.ifCond .lt 8, (5, 0, 0, 0), 0, 0, []),
  (.iload_n 2, (2, 0, 0, 0), 0, 0, []),
  (.iconst 4, (0, 0, 0, 0), 4, 0, []),
  (.if_icmp .lt 6, (7, 0, 0, 0), 0, 0, []),
  (.bipush (-2), (0, 0, 0, 0), (-2), 0, []),
  (.ireturn, (0, 0, 0, 0), 0, 0, []),
  (.bipush (-2), (0, 0, 0, 0), (-2), 0, []),
  (.istore_n 3, (3, 0, 0, 0), 0, 0, []),
  (.iconst 0, (0, 0, 0, 0), 0, 0, []),
  (.istore 4, (4, 0, 0, 0), 0, 0, []),
  (.nop, (0, 0, 0, 0), 0, 0, [(0, 1), (0, 1), (0, 1), (0, 1), (0, 1), (0, 0)]),
  (.iload 4, (4, 0, 0, 0), 0, 0, []),
  (.aload_n 1, (1, 0, 0, 0), 0, 0, []),
  (.getfield 41, (2, 8, 0, 0), 0, 0, []),
  (.if_icmp .ge 60, (45, 0, 0, 0), 0, 0, []),
  (.aload_n 0, (0, 0, 0, 0), 0, 0, []),
  (.aload_n 1, (1, 0, 0, 0), 0, 0, []),
  (.iload 4, (4, 0, 0, 0), 0, 0, []),
  (.invokevirtual 52, (100, 3, 1, 8), 0, 0, []),
  (.aload_n 0, (0, 0, 0, 0), 0, 0, []),
  (.getfield 20, (8, 6, 2, 0), 0, 0, []),
  (.iload_n 2, (2, 0, 0, 0), 0, 0, []),
  (.iaload, (13, 0, 0, 0), 0, 0, []),
  (.invokestatic 77, (4, 2, 1, 99), 0, 0, []),
  (.istore 5, (5, 0, 0, 0), 0, 0, []),
  (.aload_n 0, (0, 0, 0, 0), 0, 0, []),
  (.iload 4, (4, 0, 0, 0), 0, 0, []),
  (.invokevirtual 103, (102, 2, 1, 8), 0, 0, []),
  (.ifCond .eq 27, (43, 0, 0, 0), 0, 0, []),
  (.iload 5, (5, 0, 0, 0), 0, 0, []),
  (.aload_n 1, (1, 0, 0, 0), 0, 0, []),
  (.getfield 106, (2, 0, 0, 0), 0, 0, []),
  (.if_icmp .gt 18, (43, 0, 0, 0), 0, 0, []),
  (.iload_n 3, (3, 0, 0, 0), 0, 0, []),
  (.bipush (-2), (0, 0, 0, 0), (-2), 0, []),
  (.if_icmp .eq 9, (40, 0, 0, 0), 0, 0, []),
  (.iload 5, (5, 0, 0, 0), 0, 0, []),
  (.iload_n 3, (3, 0, 0, 0), 0, 0, []),
  (.if_icmp .ge 6, (43, 0, 0, 0), 0, 0, []),
  (.nop, (0, 0, 0, 0), 0, 0, [(0, 1), (0, 1), (0, 1), (0, 0), (0, 1), (0, 1)]),
  (.iload 5, (5, 0, 0, 0), 0, 0, []),
  (.istore_n 3, (3, 0, 0, 0), 0, 0, []),
  (.iinc 4 1, (4, 0, 0, 0), 1, 0, []),
  (.goto (-63), (11, 0, 0, 0), 0, 0, []),
  (.iload_n 3, (3, 0, 0, 0), 0, 0, []),
  (.ireturn, (0, 0, 0, 0), 0, 0, [])]
def q_107 : List Nat := [0, 1, 4, 5, 6, 9, 11, 12, 14, 15, 16, 18, 18, 20, 21, 24, 27, 28, 29, 31, 34, 35, 38, 39, 40, 43, 45, 46, 48, 51, 54, 56, 57, 60, 63, 64, 66, 69, 71, 72, 75, 75, 77, 78, 81, 84, 85, 86]
def m_107 : aMt := (yX9_nearestPick, cX9_nearestPick, 6, (some .int), 9, 2, 44, (0, 0), 2, k_107, q_107)
def k_108 : List aM := [(.aload_n 0, (0, 0, 0, 0), 0, 0, []),
  (.iload_n 2, (2, 0, 0, 0), 0, 0, []),
  (.invokevirtual 103, (102, 2, 1, 8), 0, 0, []),
  (.ifCond .eq 21, (14, 0, 0, 0), 0, 0, []),
  (.aload_n 0, (0, 0, 0, 0), 0, 0, []),
  (.aload_n 1, (1, 0, 0, 0), 0, 0, []),
  (.aload_n 0, (0, 0, 0, 0), 0, 0, []),
  (.aload_n 1, (1, 0, 0, 0), 0, 0, []),
  (.iload_n 2, (2, 0, 0, 0), 0, 0, []),
  (.invokevirtual 52, (100, 3, 1, 8), 0, 0, []),
  (.invokevirtual 109, (109, 3, 1, 8), 0, 0, []),
  (.ifCond .eq 7, (14, 0, 0, 0), 0, 0, []),
  (.iconst 1, (0, 0, 0, 0), 1, 0, []),
  (.goto 4, (15, 0, 0, 0), 0, 0, []),
  (.iconst 0, (0, 0, 0, 0), 0, 0, []),
  (.ireturn, (0, 0, 1, 0), 0, 0, [])]
def q_108 : List Nat := [0, 1, 2, 5, 8, 9, 10, 11, 12, 13, 16, 19, 22, 23, 26, 27, 28]
def m_108 : aMt := (yX9_isHeard, cX9_isHeard, 3, (some .boolean), 9, 3, 65, (0, 0), 2, k_108, q_108)
def k_109 : List aM := [(.iconst 0, (0, 0, 0, 0), 0, 0, []),
  (.istore_n 3, (3, 0, 0, 0), 0, 0, []),
  (.nop, (0, 0, 0, 0), 0, 0, [(0, 1), (0, 1), (0, 1), (0, 1)]),
  (.iload_n 3, (3, 0, 0, 0), 0, 0, []),
  (.aload_n 1, (1, 0, 0, 0), 0, 0, []),
  (.getfield 37, (2, 7, 0, 0), 0, 0, []),
  (.if_icmp .ge 28, (20, 0, 0, 0), 0, 0, []),
  (.iload_n 2, (2, 0, 0, 0), 0, 0, []),
  (.aload_n 0, (0, 0, 0, 0), 0, 0, []),
  (.getfield 20, (8, 6, 2, 0), 0, 0, []),
  (.iload_n 3, (3, 0, 0, 0), 0, 0, []),
  (.iaload, (13, 0, 0, 0), 0, 0, []),
  (.invokestatic 77, (4, 2, 1, 99), 0, 0, []),
  (.aload_n 1, (1, 0, 0, 0), 0, 0, []),
  (.getfield 106, (2, 0, 0, 0), 0, 0, []),
  (.if_icmp .gt 5, (18, 0, 0, 0), 0, 0, []),
  (.iconst 1, (0, 0, 0, 0), 1, 0, []),
  (.ireturn, (0, 0, 1, 0), 0, 0, []),
  (.iinc 3 1, (3, 0, 0, 0), 1, 0, []),
  (.goto (-30), (2, 0, 0, 0), 0, 0, []),
  (.iconst 0, (0, 0, 0, 0), 0, 0, []),
  (.ireturn, (0, 0, 1, 0), 0, 0, [])]
def q_109 : List Nat := [0, 1, 2, 2, 3, 4, 7, 10, 11, 12, 15, 16, 17, 20, 21, 24, 27, 28, 29, 32, 35, 36, 37]
def m_109 : aMt := (yX9_isOverheard, cX9_isOverheard, 4, (some .boolean), 9, 2, 42, (0, 0), 2, k_109, q_109)
def k_110 : List aM := [(.lconst 0, (0, 0, 0, 0), 0, 0, []),
  (.lstore_n 2, (2, 0, 0, 0), 0, 0, []),
  (.iconst 0, (0, 0, 0, 0), 0, 0, []),
  (.istore 4, (4, 0, 0, 0), 0, 0, []),
  (.nop, (0, 0, 0, 0), 0, 0, [(0, 1), (0, 1), (0, 1), (0, 0), (0, 1)]),
  (.iload 4, (4, 0, 0, 0), 0, 0, []),
  (.bipush 64, (0, 0, 0, 0), 64, 0, []),
  (.if_icmp .ge 35, (25, 0, 0, 0), 0, 0, []),
  (.aload_n 1, (1, 0, 0, 0), 0, 0, []),
  (.iload 4, (4, 0, 0, 0), 0, 0, []),
  (.invokevirtual 73, (26, 2, 1, 2), 0, 0, []),
  (.ifCond .eq 20, (23, 0, 0, 0), 0, 0, []),
  (.aload_n 0, (0, 0, 0, 0), 0, 0, []),
  (.aload_n 1, (1, 0, 0, 0), 0, 0, []),
  (.iload 4, (4, 0, 0, 0), 0, 0, []),
  (.invokevirtual 109, (109, 3, 1, 8), 0, 0, []),
  (.ifCond .ne 10, (23, 0, 0, 0), 0, 0, []),
  (.lload_n 2, (2, 0, 0, 0), 0, 0, []),
  (.lconst 1, (0, 0, 0, 0), 0, 1, []),
  (.iload 4, (4, 0, 0, 0), 0, 0, []),
  (.lshl, (0, 0, 0, 0), 0, 0, []),
  (.lor, (0, 0, 0, 0), 0, 0, []),
  (.lstore_n 2, (2, 0, 0, 0), 0, 0, []),
  (.iinc 4 1, (4, 0, 0, 0), 1, 0, []),
  (.goto (-36), (4, 0, 0, 0), 0, 0, []),
  (.lload_n 2, (2, 0, 0, 0), 0, 0, []),
  (.lreturn, (0, 0, 0, 0), 0, 0, [])]
def q_110 : List Nat := [0, 1, 2, 3, 5, 5, 7, 9, 12, 13, 15, 18, 21, 22, 23, 25, 28, 31, 32, 33, 35, 36, 37, 38, 41, 44, 45, 46]
def m_110 : aMt := (yX9_unheard, cX9_unheard, 5, (some .long), 9, 3, 65, (0, 0), 1, k_110, q_110)
def k_111 : List aM := [(.aload_n 0, (0, 0, 0, 0), 0, 0, []),
  (.invokespecial 1, (0, 0, 9, 0), 0, 0, []),
  (.aload_n 0, (0, 0, 0, 0), 0, 0, []),
  (.new 7, (3, 9, 0, 0), 0, 0, []),
  (.dup, (0, 0, 0, 0), 0, 0, []),
  (.invokespecial 9, (34, 1, 0, 99), 0, 0, [(0, 13), (0, 863)]),
  (.putfield 10, (9, 0, 2, 0), 0, 0, []),
  (.aload_n 0, (0, 0, 0, 0), 0, 0, []),
  (.new 16, (8, 7, 0, 0), 0, 0, []),
  (.dup, (0, 0, 0, 0), 0, 0, []),
  (.invokespecial 18, (93, 1, 0, 99), 0, 0, [(0, 3), (0, 12)]),
  (.putfield 19, (9, 1, 2, 0), 0, 0, []),
  (.aload_n 0, (0, 0, 0, 0), 0, 0, []),
  (.new 16, (8, 7, 0, 0), 0, 0, []),
  (.dup, (0, 0, 0, 0), 0, 0, []),
  (.invokespecial 18, (93, 1, 0, 99), 0, 0, [(0, 3), (0, 12)]),
  (.putfield 23, (9, 2, 2, 0), 0, 0, []),
  (.aload_n 0, (0, 0, 0, 0), 0, 0, []),
  (.new 26, (1, 5, 0, 0), 0, 0, []),
  (.dup, (0, 0, 0, 0), 0, 0, []),
  (.invokespecial 28, (16, 1, 0, 99), 0, 0, [(0, 78), (0, 380)]),
  (.putfield 29, (9, 3, 2, 0), 0, 0, []),
  (.aload_n 0, (0, 0, 0, 0), 0, 0, []),
  (.new 33, (7, 2, 0, 0), 0, 0, []),
  (.dup, (0, 0, 0, 0), 0, 0, []),
  (.invokespecial 35, (87, 1, 0, 99), 0, 0, [(0, 1), (0, 64)]),
  (.putfield 36, (9, 4, 2, 0), 0, 0, []),
  (.aload_n 0, (0, 0, 0, 0), 0, 0, []),
  (.new 40, (0, 5, 0, 0), 0, 0, []),
  (.dup, (0, 0, 0, 0), 0, 0, []),
  (.invokespecial 42, (8, 1, 0, 99), 0, 0, [(0, 3), (0, 261)]),
  (.putfield 43, (9, 5, 2, 0), 0, 0, []),
  (.aload_n 0, (0, 0, 0, 0), 0, 0, []),
  (.new 47, (4, 5, 0, 0), 0, 0, []),
  (.dup, (0, 0, 0, 0), 0, 0, []),
  (.invokespecial 49, (60, 1, 0, 99), 0, 0, [(0, 4), (0, 719)]),
  (.putfield 50, (9, 6, 2, 0), 0, 0, []),
  (.aload_n 0, (0, 0, 0, 0), 0, 0, []),
  (.new 54, (5, 2, 0, 0), 0, 0, []),
  (.dup, (0, 0, 0, 0), 0, 0, []),
  (.invokespecial 56, (70, 1, 0, 99), 0, 0, []),
  (.putfield 57, (9, 7, 2, 0), 0, 0, []),
  (.aload_n 0, (0, 0, 0, 0), 0, 0, []),
  (.new 61, (2, 19, 0, 0), 0, 0, []),
  (.dup, (0, 0, 0, 0), 0, 0, []),
  (.invokespecial 63, (22, 1, 0, 99), 0, 0, [(0, 8), (0, 130)]),
  (.putfield 64, (9, 8, 2, 0), 0, 0, []),
  (.aload_n 0, (0, 0, 0, 0), 0, 0, []),
  (.new 61, (2, 19, 0, 0), 0, 0, []),
  (.dup, (0, 0, 0, 0), 0, 0, []),
  (.invokespecial 63, (22, 1, 0, 99), 0, 0, [(0, 8), (0, 130)]),
  (.putfield 68, (9, 9, 2, 0), 0, 0, []),
  (.aload_n 0, (0, 0, 0, 0), 0, 0, []),
  (.iconst 0, (0, 0, 0, 0), 0, 0, []),
  (.putfield 71, (9, 10, 4, 0), 0, 0, []),
  (.aload_n 0, (0, 0, 0, 0), 0, 0, []),
  (.iconst 0, (0, 0, 0, 0), 0, 0, []),
  (.putfield 75, (9, 11, 0, 0), 0, 0, []),
  (.return_, (0, 0, 0, 0), 0, 0, [])]
def q_111 : List Nat := [0, 1, 4, 5, 8, 9, 12, 15, 16, 19, 20, 23, 26, 27, 30, 31, 34, 37, 38, 41, 42, 45, 48, 49, 52, 53, 56, 59, 60, 63, 64, 67, 70, 71, 74, 75, 78, 81, 82, 85, 86, 89, 92, 93, 96, 97, 100, 103, 104, 107, 108, 111, 114, 115, 116, 119, 120, 121, 124, 125]
def m_111 : aMt := (yX10_init, cX10_init, 1, none, 10, 3, 61, (131, 2651), 0, k_111, q_111)
def k_112 : List aM := [(.aload_n 0, (0, 0, 0, 0), 0, 0, []),
  (.getfield 10, (9, 0, 2, 0), 0, 0, []),
  (.getfield 79, (3, 0, 2, 0), 0, 0, []),
  (.astore 6, (6, 0, 0, 0), 0, 0, []),
  (.aload 6, (6, 0, 0, 0), 0, 0, []),
  (.invokevirtual 83, (77, 1, 1, 6), 0, 0, []),
  (.ifCond .ne 5, (9, 0, 0, 0), 0, 0, []),
  (.iconst (-1), (0, 0, 0, 0), (-1), 0, []),
  (.ireturn, (0, 0, 0, 0), 0, 0, []),
  (.aload 6, (6, 0, 0, 0), 0, 0, []),
  (.iload_n 1, (1, 0, 0, 0), 0, 0, []),
  (.invokevirtual 89, (78, 2, 0, 6), 0, 0, []),
  (.aload 6, (6, 0, 0, 0), 0, 0, []),
  (.iload_n 2, (2, 0, 0, 0), 0, 0, []),
  (.invokevirtual 89, (78, 2, 0, 6), 0, 0, []),
  (.aload 6, (6, 0, 0, 0), 0, 0, []),
  (.iload_n 3, (3, 0, 0, 0), 0, 0, []),
  (.invokevirtual 89, (78, 2, 0, 6), 0, 0, []),
  (.aload 6, (6, 0, 0, 0), 0, 0, []),
  (.iload 4, (4, 0, 0, 0), 0, 0, []),
  (.invokevirtual 89, (78, 2, 0, 6), 0, 0, []),
  (.aload 6, (6, 0, 0, 0), 0, 0, []),
  (.iload 5, (5, 0, 0, 0), 0, 0, []),
  (.invokevirtual 89, (78, 2, 0, 6), 0, 0, []),
  (.aload 6, (6, 0, 0, 0), 0, 0, []),
  (.getfield 93, (6, 1, 0, 0), 0, 0, []),
  (.ireturn, (0, 0, 0, 0), 0, 0, [])]
def q_112 : List Nat := [0, 1, 4, 7, 9, 11, 14, 17, 18, 19, 21, 22, 25, 27, 28, 31, 33, 34, 37, 39, 41, 44, 46, 48, 51, 53, 56, 57]
def m_112 : aMt := (yX10_feed, cX10_feed, 7, (some .int), 10, 1, 22, (0, 0), 5, k_112, q_112)
def k_113 : List aM := [(.iload_n 1, (1, 0, 0, 0), 0, 0, []),
  (.ifCond .lt 17, (8, 0, 0, 0), 0, 0, []),
  (.iload_n 1, (1, 0, 0, 0), 0, 0, []),
  (.aload_n 0, (0, 0, 0, 0), 0, 0, []),
  (.getfield 10, (9, 0, 2, 0), 0, 0, []),
  (.getfield 79, (3, 0, 2, 0), 0, 0, []),
  (.getfield 93, (6, 1, 0, 0), 0, 0, []),
  (.if_icmp .le 9, (13, 0, 0, 0), 0, 0, []),
  (.nop, (0, 0, 0, 0), 0, 0, [(0, 1), (0, 0), (0, 0), (0, 0)]),
  (.aload_n 0, (0, 0, 0, 0), 0, 0, []),
  (.iconst 2, (0, 0, 0, 0), 2, 0, []),
  (.invokevirtual 96, (159, 2, 1, 9), 0, 0, []),
  (.ireturn, (0, 0, 0, 0), 0, 0, []),
  (.aload_n 0, (0, 0, 0, 0), 0, 0, []),
  (.getfield 10, (9, 0, 2, 0), 0, 0, []),
  (.iload_n 1, (1, 0, 0, 0), 0, 0, []),
  (.aload_n 0, (0, 0, 0, 0), 0, 0, []),
  (.getfield 68, (9, 9, 2, 0), 0, 0, []),
  (.invokevirtual 100, (35, 3, 0, 3), 0, 0, []),
  (.iconst 1, (0, 0, 0, 0), 1, 0, []),
  (.istore_n 2, (2, 0, 0, 0), 0, 0, []),
  (.iconst 0, (0, 0, 0, 0), 0, 0, []),
  (.istore_n 3, (3, 0, 0, 0), 0, 0, []),
  (.nop, (0, 0, 0, 0), 0, 0, [(0, 1), (0, 0), (0, 1), (0, 1)]),
  (.iload_n 3, (3, 0, 0, 0), 0, 0, []),
  (.sipush 700, (0, 0, 0, 0), 700, 0, []),
  (.if_icmp .gt 21, (35, 0, 0, 0), 0, 0, []),
  (.iload_n 2, (2, 0, 0, 0), 0, 0, []),
  (.ifCond .eq 17, (35, 0, 0, 0), 0, 0, []),
  (.aload_n 0, (0, 0, 0, 0), 0, 0, []),
  (.getfield 10, (9, 0, 2, 0), 0, 0, []),
  (.invokevirtual 104, (36, 1, 1, 3), 0, 0, []),
  (.istore_n 2, (2, 0, 0, 0), 0, 0, []),
  (.iinc 3 1, (3, 0, 0, 0), 1, 0, []),
  (.goto (-22), (23, 0, 0, 0), 0, 0, []),
  (.nop, (0, 0, 0, 0), 0, 0, [(0, 1), (0, 0), (0, 0), (0, 0)]),
  (.aload_n 0, (0, 0, 0, 0), 0, 0, []),
  (.getfield 10, (9, 0, 2, 0), 0, 0, []),
  (.getfield 107, (3, 1, 0, 0), 0, 0, []),
  (.ifCond .eq 9, (44, 0, 0, 0), 0, 0, []),
  (.aload_n 0, (0, 0, 0, 0), 0, 0, []),
  (.iconst 4, (0, 0, 0, 0), 4, 0, []),
  (.invokevirtual 96, (159, 2, 1, 9), 0, 0, []),
  (.ireturn, (0, 0, 0, 0), 0, 0, []),
  (.aload_n 0, (0, 0, 0, 0), 0, 0, []),
  (.getfield 68, (9, 9, 2, 0), 0, 0, []),
  (.astore_n 3, (3, 0, 0, 0), 0, 0, []),
  (.aload_n 0, (0, 0, 0, 0), 0, 0, []),
  (.aload_n 0, (0, 0, 0, 0), 0, 0, []),
  (.getfield 64, (9, 8, 2, 0), 0, 0, []),
  (.putfield 68, (9, 9, 2, 0), 0, 0, []),
  (.aload_n 0, (0, 0, 0, 0), 0, 0, []),
  (.aload_n 3, (3, 0, 0, 0), 0, 0, []),
  (.putfield 64, (9, 8, 2, 0), 0, 0, []),
  (.aload_n 0, (0, 0, 0, 0), 0, 0, []),
  (.iconst 1, (0, 0, 0, 0), 1, 0, []),
  (.putfield 71, (9, 10, 4, 0), 0, 0, []),
  (.aload_n 0, (0, 0, 0, 0), 0, 0, []),
  (.getfield 19, (9, 1, 2, 0), 0, 0, []),
  (.aload_n 0, (0, 0, 0, 0), 0, 0, []),
  (.getfield 64, (9, 8, 2, 0), 0, 0, []),
  (.invokevirtual 110, (94, 2, 0, 8), 0, 0, []),
  (.aload_n 0, (0, 0, 0, 0), 0, 0, []),
  (.getfield 29, (9, 3, 2, 0), 0, 0, []),
  (.invokevirtual 114, (17, 1, 0, 1), 0, 0, []),
  (.aload_n 0, (0, 0, 0, 0), 0, 0, []),
  (.getfield 50, (9, 6, 2, 0), 0, 0, []),
  (.aload_n 0, (0, 0, 0, 0), 0, 0, []),
  (.getfield 64, (9, 8, 2, 0), 0, 0, []),
  (.invokevirtual 117, (61, 2, 0, 4), 0, 0, []),
  (.aload_n 0, (0, 0, 0, 0), 0, 0, []),
  (.iconst 0, (0, 0, 0, 0), 0, 0, []),
  (.putfield 75, (9, 11, 0, 0), 0, 0, []),
  (.aload_n 0, (0, 0, 0, 0), 0, 0, []),
  (.getfield 64, (9, 8, 2, 0), 0, 0, []),
  (.getfield 120, (2, 8, 0, 0), 0, 0, []),
  (.ireturn, (0, 0, 0, 0), 0, 0, [])]
def q_113 : List Nat := [0, 1, 4, 5, 6, 9, 12, 15, 18, 18, 19, 20, 23, 24, 25, 28, 29, 30, 33, 36, 37, 38, 39, 40, 40, 41, 44, 47, 48, 51, 52, 55, 58, 59, 62, 65, 65, 66, 69, 72, 75, 76, 77, 80, 81, 82, 85, 86, 87, 88, 91, 94, 95, 96, 99, 100, 101, 104, 105, 108, 109, 112, 115, 116, 119, 122, 123, 126, 127, 130, 133, 134, 135, 138, 139, 142, 145, 146]
def m_113 : aMt := (yX10_field, cX10_field, 4, (some .int), 10, 11, 309, (0, 0), 1, k_113, q_113)
def k_114 : List aM := [(.aload_n 0, (0, 0, 0, 0), 0, 0, []),
  (.getfield 10, (9, 0, 2, 0), 0, 0, []),
  (.getfield 107, (3, 1, 0, 0), 0, 0, []),
  (.ireturn, (0, 0, 0, 0), 0, 0, [])]
def q_114 : List Nat := [0, 1, 4, 7, 8]
def m_114 : aMt := (yX10_fault, cX10_fault, 1, (some .int), 10, 0, 0, (0, 0), 0, k_114, q_114)
def k_115 : List aM := [(.aload_n 0, (0, 0, 0, 0), 0, 0, []),
  (.getfield 75, (9, 11, 0, 0), 0, 0, []),
  (.iconst 4, (0, 0, 0, 0), 4, 0, []),
  (.if_icmp .ne 13, (8, 0, 0, 0), 0, 0, []),
  (.aload_n 0, (0, 0, 0, 0), 0, 0, []),
  (.getfield 10, (9, 0, 2, 0), 0, 0, []),
  (.getfield 123, (3, 2, 0, 0), 0, 0, []),
  (.goto 4, (9, 0, 0, 0), 0, 0, []),
  (.iconst (-1), (0, 0, 0, 0), (-1), 0, []),
  (.ireturn, (0, 0, 0, 0), 0, 0, [])]
def q_115 : List Nat := [0, 1, 4, 5, 8, 9, 12, 15, 18, 19, 20]
def m_115 : aMt := (yX10_where, cX10_where, 1, (some .int), 10, 0, 0, (0, 0), 0, k_115, q_115)
def k_116 : List aM := [(.aload_n 0, (0, 0, 0, 0), 0, 0, []),
  (.aload_n 0, (0, 0, 0, 0), 0, 0, []),
  (.getfield 64, (9, 8, 2, 0), 0, 0, []),
  (.iload_n 1, (1, 0, 0, 0), 0, 0, []),
  (.iload_n 2, (2, 0, 0, 0), 0, 0, []),
  (.invokevirtual 126, (24, 3, 1, 2), 0, 0, []),
  (.ifCond .eq 16, (14, 0, 0, 0), 0, 0, []),
  (.iload_n 3, (3, 0, 0, 0), 0, 0, []),
  (.ifCond .lt 12, (14, 0, 0, 0), 0, 0, []),
  (.iload_n 3, (3, 0, 0, 0), 0, 0, []),
  (.iconst 4, (0, 0, 0, 0), 4, 0, []),
  (.if_icmp .gt 7, (14, 0, 0, 0), 0, 0, []),
  (.iconst 1, (0, 0, 0, 0), 1, 0, []),
  (.goto 4, (15, 0, 0, 0), 0, 0, []),
  (.iconst 0, (0, 0, 0, 0), 0, 0, []),
  (.nop, (0, 0, 0, 0), 0, 0, [(0, 1), (0, 1), (0, 1), (0, 1), (0, 0)]),
  (.invokevirtual 130, (160, 2, 1, 9), 0, 0, []),
  (.ifCond .ne 5, (20, 0, 0, 0), 0, 0, []),
  (.iconst (-1), (0, 0, 0, 0), (-1), 0, []),
  (.ireturn, (0, 0, 0, 0), 0, 0, []),
  (.iload_n 1, (1, 0, 0, 0), 0, 0, []),
  (.iload_n 2, (2, 0, 0, 0), 0, 0, []),
  (.invokestatic 134, (0, 2, 1, 99), 0, 0, []),
  (.istore 4, (4, 0, 0, 0), 0, 0, []),
  (.iload_n 3, (3, 0, 0, 0), 0, 0, []),
  (.tableswitch 112 0 3 #[29, 39, 70, 91], (65, 0, 0, 0), 0, 0, [(0, 26), (1, 31), (2, 45), (3, 55)]),
  (.aload_n 0, (0, 0, 0, 0), 0, 0, []),
  (.getfield 64, (9, 8, 2, 0), 0, 0, []),
  (.iload 4, (4, 0, 0, 0), 0, 0, []),
  (.invokevirtual 140, (25, 2, 1, 2), 0, 0, []),
  (.ireturn, (0, 0, 0, 0), 0, 0, []),
  (.aload_n 0, (0, 0, 0, 0), 0, 0, []),
  (.getfield 64, (9, 8, 2, 0), 0, 0, []),
  (.iload 4, (4, 0, 0, 0), 0, 0, []),
  (.invokevirtual 143, (26, 2, 1, 2), 0, 0, []),
  (.ifCond .eq 19, (43, 0, 0, 0), 0, 0, []),
  (.aload_n 0, (0, 0, 0, 0), 0, 0, []),
  (.getfield 19, (9, 1, 2, 0), 0, 0, []),
  (.aload_n 0, (0, 0, 0, 0), 0, 0, []),
  (.getfield 64, (9, 8, 2, 0), 0, 0, []),
  (.iload 4, (4, 0, 0, 0), 0, 0, []),
  (.invokevirtual 147, (99, 3, 1, 8), 0, 0, []),
  (.goto 5, (44, 0, 0, 0), 0, 0, []),
  (.bipush (-2), (0, 0, 0, 0), (-2), 0, []),
  (.ireturn, (0, 0, 0, 0), 0, 0, []),
  (.aload_n 0, (0, 0, 0, 0), 0, 0, []),
  (.getfield 19, (9, 1, 2, 0), 0, 0, []),
  (.getfield 151, (8, 0, 1, 0), 0, 0, []),
  (.iload 4, (4, 0, 0, 0), 0, 0, []),
  (.invokestatic 155, (5, 2, 1, 99), 0, 0, []),
  (.ifCond .eq 7, (53, 0, 0, 0), 0, 0, []),
  (.iconst 1, (0, 0, 0, 0), 1, 0, []),
  (.goto 4, (54, 0, 0, 0), 0, 0, []),
  (.iconst 0, (0, 0, 0, 0), 0, 0, []),
  (.ireturn, (0, 0, 0, 0), 0, 0, []),
  (.aload_n 0, (0, 0, 0, 0), 0, 0, []),
  (.getfield 19, (9, 1, 2, 0), 0, 0, []),
  (.getfield 159, (8, 1, 1, 0), 0, 0, []),
  (.iload 4, (4, 0, 0, 0), 0, 0, []),
  (.invokestatic 155, (5, 2, 1, 99), 0, 0, []),
  (.ifCond .eq 7, (63, 0, 0, 0), 0, 0, []),
  (.iconst 1, (0, 0, 0, 0), 1, 0, []),
  (.goto 4, (64, 0, 0, 0), 0, 0, []),
  (.iconst 0, (0, 0, 0, 0), 0, 0, []),
  (.ireturn, (0, 0, 0, 0), 0, 0, []),
  (.aload_n 0, (0, 0, 0, 0), 0, 0, []),
  (.getfield 19, (9, 1, 2, 0), 0, 0, []),
  (.aload_n 0, (0, 0, 0, 0), 0, 0, []),
  (.getfield 64, (9, 8, 2, 0), 0, 0, []),
  (.iload 4, (4, 0, 0, 0), 0, 0, []),
  (.iconst 0, (0, 0, 0, 0), 0, 0, []),
  (.invokevirtual 162, (103, 4, 1, 8), 0, 0, []),
  (.ireturn, (0, 0, 0, 0), 0, 0, [])]
def q_116 : List Nat := [0, 1, 2, 5, 6, 7, 10, 13, 14, 17, 18, 19, 22, 23, 26, 27, 27, 30, 33, 34, 35, 36, 37, 40, 42, 43, 72, 73, 76, 78, 81, 82, 83, 86, 88, 91, 94, 95, 98, 99, 102, 104, 107, 110, 112, 113, 114, 117, 120, 122, 125, 128, 129, 132, 133, 134, 135, 138, 141, 143, 146, 149, 150, 153, 154, 155, 156, 159, 160, 163, 165, 166, 169, 170]
def m_116 : aMt := (yX10_cell, cX10_cell, 5, (some .int), 10, 3, 69, (0, 0), 3, k_116, q_116)
def k_117 : List aM := [(.aload_n 0, (0, 0, 0, 0), 0, 0, []),
  (.aload_n 0, (0, 0, 0, 0), 0, 0, []),
  (.iload_n 1, (1, 0, 0, 0), 0, 0, []),
  (.invokevirtual 166, (162, 2, 1, 9), 0, 0, []),
  (.ifCond .eq 16, (12, 0, 0, 0), 0, 0, []),
  (.iload_n 2, (2, 0, 0, 0), 0, 0, []),
  (.ifCond .lt 12, (12, 0, 0, 0), 0, 0, []),
  (.iload_n 2, (2, 0, 0, 0), 0, 0, []),
  (.iconst 5, (0, 0, 0, 0), 5, 0, []),
  (.if_icmp .gt 7, (12, 0, 0, 0), 0, 0, []),
  (.iconst 1, (0, 0, 0, 0), 1, 0, []),
  (.goto 4, (13, 0, 0, 0), 0, 0, []),
  (.iconst 0, (0, 0, 0, 0), 0, 0, []),
  (.nop, (0, 0, 0, 0), 0, 0, [(0, 1), (0, 1), (0, 1)]),
  (.invokevirtual 130, (160, 2, 1, 9), 0, 0, []),
  (.ifCond .ne 5, (18, 0, 0, 0), 0, 0, []),
  (.iconst (-1), (0, 0, 0, 0), (-1), 0, []),
  (.ireturn, (0, 0, 0, 0), 0, 0, []),
  (.iload_n 2, (2, 0, 0, 0), 0, 0, []),
  (.tableswitch 94 0 4 #[36, 46, 62, 72, 82], (54, 0, 0, 0), 0, 0, [(0, 20), (1, 26), (2, 34), (3, 40), (4, 46)]),
  (.aload_n 0, (0, 0, 0, 0), 0, 0, []),
  (.getfield 64, (9, 8, 2, 0), 0, 0, []),
  (.getfield 169, (2, 13, 2, 0), 0, 0, []),
  (.iload_n 1, (1, 0, 0, 0), 0, 0, []),
  (.iaload, (13, 0, 0, 0), 0, 0, []),
  (.ireturn, (0, 0, 0, 0), 0, 0, []),
  (.aload_n 0, (0, 0, 0, 0), 0, 0, []),
  (.getfield 19, (9, 1, 2, 0), 0, 0, []),
  (.aload_n 0, (0, 0, 0, 0), 0, 0, []),
  (.getfield 64, (9, 8, 2, 0), 0, 0, []),
  (.iload_n 1, (1, 0, 0, 0), 0, 0, []),
  (.invokevirtual 173, (100, 3, 1, 8), 0, 0, []),
  (.invokestatic 176, (3, 1, 1, 99), 0, 0, []),
  (.ireturn, (0, 0, 0, 0), 0, 0, []),
  (.aload_n 0, (0, 0, 0, 0), 0, 0, []),
  (.getfield 19, (9, 1, 2, 0), 0, 0, []),
  (.getfield 179, (8, 4, 2, 0), 0, 0, []),
  (.iload_n 1, (1, 0, 0, 0), 0, 0, []),
  (.iaload, (13, 0, 0, 0), 0, 0, []),
  (.ireturn, (0, 0, 0, 0), 0, 0, []),
  (.aload_n 0, (0, 0, 0, 0), 0, 0, []),
  (.getfield 19, (9, 1, 2, 0), 0, 0, []),
  (.getfield 182, (8, 5, 2, 0), 0, 0, []),
  (.iload_n 1, (1, 0, 0, 0), 0, 0, []),
  (.iaload, (13, 0, 0, 0), 0, 0, []),
  (.ireturn, (0, 0, 0, 0), 0, 0, []),
  (.aload_n 0, (0, 0, 0, 0), 0, 0, []),
  (.getfield 19, (9, 1, 2, 0), 0, 0, []),
  (.getfield 185, (8, 3, 0, 0), 0, 0, []),
  (.iload_n 1, (1, 0, 0, 0), 0, 0, []),
  (.ishr, (0, 0, 0, 0), 0, 0, []),
  (.iconst 1, (0, 0, 0, 0), 1, 0, []),
  (.iand, (0, 0, 0, 0), 0, 0, []),
  (.ireturn, (0, 0, 0, 0), 0, 0, []),
  (.aload_n 0, (0, 0, 0, 0), 0, 0, []),
  (.getfield 64, (9, 8, 2, 0), 0, 0, []),
  (.getfield 188, (2, 14, 2, 0), 0, 0, []),
  (.iload_n 1, (1, 0, 0, 0), 0, 0, []),
  (.iaload, (13, 0, 0, 0), 0, 0, []),
  (.ireturn, (0, 0, 0, 0), 0, 0, [])]
def q_117 : List Nat := [0, 1, 2, 3, 6, 9, 10, 13, 14, 15, 18, 19, 22, 23, 23, 26, 29, 30, 31, 32, 68, 69, 72, 75, 76, 77, 78, 79, 82, 83, 86, 87, 90, 93, 94, 95, 98, 101, 102, 103, 104, 105, 108, 111, 112, 113, 114, 115, 118, 121, 122, 123, 124, 125, 126, 127, 130, 133, 134, 135, 136]
def m_117 : aMt := (yX10_gallery, cX10_gallery, 3, (some .int), 10, 2, 44, (0, 0), 2, k_117, q_117)
def k_118 : List aM := [(.aload_n 0, (0, 0, 0, 0), 0, 0, []),
  (.aload_n 0, (0, 0, 0, 0), 0, 0, []),
  (.iload_n 1, (1, 0, 0, 0), 0, 0, []),
  (.invokevirtual 191, (163, 2, 1, 9), 0, 0, []),
  (.invokevirtual 130, (160, 2, 1, 9), 0, 0, []),
  (.ifCond .ne 5, (8, 0, 0, 0), 0, 0, []),
  (.iconst (-1), (0, 0, 0, 0), (-1), 0, []),
  (.ireturn, (0, 0, 0, 0), 0, 0, []),
  (.aload_n 0, (0, 0, 0, 0), 0, 0, []),
  (.getfield 19, (9, 1, 2, 0), 0, 0, []),
  (.getfield 194, (8, 6, 2, 0), 0, 0, []),
  (.iload_n 1, (1, 0, 0, 0), 0, 0, []),
  (.iaload, (13, 0, 0, 0), 0, 0, []),
  (.invokestatic 176, (3, 1, 1, 99), 0, 0, []),
  (.ireturn, (0, 0, 0, 0), 0, 0, [])]
def q_118 : List Nat := [0, 1, 2, 3, 6, 9, 12, 13, 14, 15, 18, 21, 22, 23, 26, 27]
def m_118 : aMt := (yX10_drum, cX10_drum, 2, (some .int), 10, 2, 43, (0, 0), 1, k_118, q_118)
def k_119 : List aM := [(.aload_n 0, (0, 0, 0, 0), 0, 0, []),
  (.aload_n 0, (0, 0, 0, 0), 0, 0, []),
  (.getfield 71, (9, 10, 0, 0), 0, 0, []),
  (.invokevirtual 130, (160, 2, 1, 9), 0, 0, []),
  (.ifCond .ne 5, (7, 0, 0, 0), 0, 0, []),
  (.iconst (-1), (0, 0, 0, 0), (-1), 0, []),
  (.ireturn, (0, 0, 0, 0), 0, 0, []),
  (.aload_n 0, (0, 0, 0, 0), 0, 0, []),
  (.getfield 19, (9, 1, 2, 0), 0, 0, []),
  (.getfield 151, (8, 0, 1, 0), 0, 0, []),
  (.invokestatic 197, (314, 1, 1, 99), 0, 0, []),
  (.ireturn, (0, 0, 0, 0), 0, 0, [])]
def q_119 : List Nat := [0, 1, 2, 5, 8, 11, 12, 13, 14, 17, 20, 23, 24]
def m_119 : aMt := (yX10_dug, cX10_dug, 1, (some .int), 10, 2, 43, (0, 0), 0, k_119, q_119)
def k_120 : List aM := [(.aload_n 0, (0, 0, 0, 0), 0, 0, []),
  (.aload_n 0, (0, 0, 0, 0), 0, 0, []),
  (.getfield 64, (9, 8, 2, 0), 0, 0, []),
  (.iload_n 1, (1, 0, 0, 0), 0, 0, []),
  (.iload_n 2, (2, 0, 0, 0), 0, 0, []),
  (.invokevirtual 126, (24, 3, 1, 2), 0, 0, []),
  (.ifCond .eq 20, (15, 0, 0, 0), 0, 0, []),
  (.aload_n 0, (0, 0, 0, 0), 0, 0, []),
  (.getfield 64, (9, 8, 2, 0), 0, 0, []),
  (.iload_n 3, (3, 0, 0, 0), 0, 0, []),
  (.iload 4, (4, 0, 0, 0), 0, 0, []),
  (.invokevirtual 126, (24, 3, 1, 2), 0, 0, []),
  (.ifCond .eq 7, (15, 0, 0, 0), 0, 0, []),
  (.iconst 1, (0, 0, 0, 0), 1, 0, []),
  (.goto 4, (16, 0, 0, 0), 0, 0, []),
  (.iconst 0, (0, 0, 0, 0), 0, 0, []),
  (.nop, (0, 0, 0, 0), 0, 0, [(0, 0), (0, 1), (0, 1), (0, 1), (0, 1)]),
  (.invokevirtual 130, (160, 2, 1, 9), 0, 0, []),
  (.ifCond .ne 5, (21, 0, 0, 0), 0, 0, []),
  (.iconst (-1), (0, 0, 0, 0), (-1), 0, []),
  (.ireturn, (0, 0, 0, 0), 0, 0, []),
  (.iload_n 1, (1, 0, 0, 0), 0, 0, []),
  (.iload_n 2, (2, 0, 0, 0), 0, 0, []),
  (.invokestatic 134, (0, 2, 1, 99), 0, 0, []),
  (.iload_n 3, (3, 0, 0, 0), 0, 0, []),
  (.iload 4, (4, 0, 0, 0), 0, 0, []),
  (.invokestatic 134, (0, 2, 1, 99), 0, 0, []),
  (.invokestatic 203, (4, 2, 1, 99), 0, 0, []),
  (.ireturn, (0, 0, 0, 0), 0, 0, [])]
def q_120 : List Nat := [0, 1, 2, 5, 6, 7, 10, 13, 14, 17, 18, 20, 23, 26, 27, 30, 31, 31, 34, 37, 38, 39, 40, 41, 44, 45, 47, 50, 53, 54]
def m_120 : aMt := (yX10_far, cX10_far, 5, (some .int), 10, 2, 43, (0, 0), 4, k_120, q_120)
def k_121 : List aM := [(.aload_n 0, (0, 0, 0, 0), 0, 0, []),
  (.aload_n 0, (0, 0, 0, 0), 0, 0, []),
  (.iload_n 1, (1, 0, 0, 0), 0, 0, []),
  (.invokevirtual 166, (162, 2, 1, 9), 0, 0, []),
  (.iload_n 2, (2, 0, 0, 0), 0, 0, []),
  (.invokestatic 206, (166, 1, 1, 99), 0, 0, []),
  (.invokevirtual 209, (161, 3, 1, 9), 0, 0, []),
  (.ifCond .ne 5, (10, 0, 0, 0), 0, 0, []),
  (.iconst (-1), (0, 0, 0, 0), (-1), 0, []),
  (.ireturn, (0, 0, 0, 0), 0, 0, []),
  (.aload_n 0, (0, 0, 0, 0), 0, 0, []),
  (.iload_n 2, (2, 0, 0, 0), 0, 0, []),
  (.invokevirtual 212, (169, 2, 0, 9), 0, 0, []),
  (.aload_n 0, (0, 0, 0, 0), 0, 0, []),
  (.getfield 23, (9, 2, 2, 0), 0, 0, []),
  (.aload_n 0, (0, 0, 0, 0), 0, 0, []),
  (.getfield 64, (9, 8, 2, 0), 0, 0, []),
  (.iload_n 1, (1, 0, 0, 0), 0, 0, []),
  (.invokevirtual 173, (100, 3, 1, 8), 0, 0, []),
  (.invokestatic 176, (3, 1, 1, 99), 0, 0, []),
  (.ireturn, (0, 0, 0, 0), 0, 0, [])]
def q_121 : List Nat := [0, 1, 2, 3, 6, 7, 10, 13, 16, 17, 18, 19, 20, 23, 24, 27, 28, 31, 32, 35, 38, 39]
def m_121 : aMt := (yX10_placeIn, cX10_placeIn, 3, (some .int), 10, 6, 131, (0, 0), 2, k_121, q_121)
def k_122 : List aM := [(.aload_n 0, (0, 0, 0, 0), 0, 0, []),
  (.aload_n 0, (0, 0, 0, 0), 0, 0, []),
  (.getfield 71, (9, 10, 0, 0), 0, 0, []),
  (.iload_n 1, (1, 0, 0, 0), 0, 0, []),
  (.invokestatic 206, (166, 1, 1, 99), 0, 0, []),
  (.invokevirtual 209, (161, 3, 1, 9), 0, 0, []),
  (.ifCond .ne 5, (9, 0, 0, 0), 0, 0, []),
  (.iconst (-1), (0, 0, 0, 0), (-1), 0, []),
  (.ireturn, (0, 0, 0, 0), 0, 0, []),
  (.aload_n 0, (0, 0, 0, 0), 0, 0, []),
  (.iload_n 1, (1, 0, 0, 0), 0, 0, []),
  (.invokevirtual 212, (169, 2, 0, 9), 0, 0, []),
  (.aload_n 0, (0, 0, 0, 0), 0, 0, []),
  (.getfield 23, (9, 2, 2, 0), 0, 0, []),
  (.getfield 151, (8, 0, 1, 0), 0, 0, []),
  (.invokestatic 197, (314, 1, 1, 99), 0, 0, []),
  (.ireturn, (0, 0, 0, 0), 0, 0, [])]
def q_122 : List Nat := [0, 1, 2, 5, 6, 9, 12, 15, 16, 17, 18, 19, 22, 23, 26, 29, 32, 33]
def m_122 : aMt := (yX10_dugIn, cX10_dugIn, 2, (some .int), 10, 6, 131, (0, 0), 1, k_122, q_122)
def k_123 : List aM := [(.aload_n 0, (0, 0, 0, 0), 0, 0, []),
  (.aload_n 0, (0, 0, 0, 0), 0, 0, []),
  (.iload_n 1, (1, 0, 0, 0), 0, 0, []),
  (.invokevirtual 166, (162, 2, 1, 9), 0, 0, []),
  (.invokevirtual 130, (160, 2, 1, 9), 0, 0, []),
  (.ifCond .ne 5, (8, 0, 0, 0), 0, 0, []),
  (.iconst (-1), (0, 0, 0, 0), (-1), 0, []),
  (.ireturn, (0, 0, 0, 0), 0, 0, []),
  (.aload_n 0, (0, 0, 0, 0), 0, 0, []),
  (.iconst 0, (0, 0, 0, 0), 0, 0, []),
  (.iload_n 1, (1, 0, 0, 0), 0, 0, []),
  (.iload_n 1, (1, 0, 0, 0), 0, 0, []),
  (.invokevirtual 215, (170, 4, 1, 9), 0, 0, []),
  (.ireturn, (0, 0, 0, 0), 0, 0, [])]
def q_123 : List Nat := [0, 1, 2, 3, 6, 9, 12, 13, 14, 15, 16, 17, 18, 21, 22]
def m_123 : aMt := (yX10_endsIn, cX10_endsIn, 2, (some .int), 10, 6, 137, (0, 0), 1, k_123, q_123)
def k_124 : List aM := [(.aload_n 0, (0, 0, 0, 0), 0, 0, []),
  (.aload_n 0, (0, 0, 0, 0), 0, 0, []),
  (.iload_n 1, (1, 0, 0, 0), 0, 0, []),
  (.invokevirtual 166, (162, 2, 1, 9), 0, 0, []),
  (.ifCond .eq 36, (22, 0, 0, 0), 0, 0, []),
  (.aload_n 0, (0, 0, 0, 0), 0, 0, []),
  (.iload_n 2, (2, 0, 0, 0), 0, 0, []),
  (.invokevirtual 166, (162, 2, 1, 9), 0, 0, []),
  (.ifCond .eq 28, (22, 0, 0, 0), 0, 0, []),
  (.aload_n 0, (0, 0, 0, 0), 0, 0, []),
  (.getfield 64, (9, 8, 2, 0), 0, 0, []),
  (.getfield 169, (2, 13, 2, 0), 0, 0, []),
  (.iload_n 1, (1, 0, 0, 0), 0, 0, []),
  (.iaload, (13, 0, 0, 0), 0, 0, []),
  (.aload_n 0, (0, 0, 0, 0), 0, 0, []),
  (.getfield 64, (9, 8, 2, 0), 0, 0, []),
  (.getfield 169, (2, 13, 2, 0), 0, 0, []),
  (.iload_n 2, (2, 0, 0, 0), 0, 0, []),
  (.iaload, (13, 0, 0, 0), 0, 0, []),
  (.if_icmp .eq 7, (22, 0, 0, 0), 0, 0, []),
  (.iconst 1, (0, 0, 0, 0), 1, 0, []),
  (.goto 4, (23, 0, 0, 0), 0, 0, []),
  (.iconst 0, (0, 0, 0, 0), 0, 0, []),
  (.nop, (0, 0, 0, 0), 0, 0, [(0, 1), (0, 1), (0, 1)]),
  (.invokevirtual 130, (160, 2, 1, 9), 0, 0, []),
  (.ifCond .ne 5, (28, 0, 0, 0), 0, 0, []),
  (.iconst (-1), (0, 0, 0, 0), (-1), 0, []),
  (.ireturn, (0, 0, 0, 0), 0, 0, []),
  (.aload_n 0, (0, 0, 0, 0), 0, 0, []),
  (.iconst 1, (0, 0, 0, 0), 1, 0, []),
  (.iload_n 1, (1, 0, 0, 0), 0, 0, []),
  (.iload_n 2, (2, 0, 0, 0), 0, 0, []),
  (.invokevirtual 215, (170, 4, 1, 9), 0, 0, []),
  (.ireturn, (0, 0, 0, 0), 0, 0, [])]
def q_124 : List Nat := [0, 1, 2, 3, 6, 9, 10, 11, 14, 17, 18, 21, 24, 25, 26, 27, 30, 33, 34, 35, 38, 39, 42, 43, 43, 46, 49, 50, 51, 52, 53, 54, 55, 58, 59]
def m_124 : aMt := (yX10_breaksIn, cX10_breaksIn, 3, (some .int), 10, 6, 137, (0, 0), 2, k_124, q_124)
def k_125 : List aM := [(.aload_n 0, (0, 0, 0, 0), 0, 0, []),
  (.aload_n 0, (0, 0, 0, 0), 0, 0, []),
  (.getfield 71, (9, 10, 0, 0), 0, 0, []),
  (.invokevirtual 130, (160, 2, 1, 9), 0, 0, []),
  (.ifCond .ne 5, (7, 0, 0, 0), 0, 0, []),
  (.iconst (-1), (0, 0, 0, 0), (-1), 0, []),
  (.ireturn, (0, 0, 0, 0), 0, 0, []),
  (.aload_n 0, (0, 0, 0, 0), 0, 0, []),
  (.iconst 2, (0, 0, 0, 0), 2, 0, []),
  (.iconst 0, (0, 0, 0, 0), 0, 0, []),
  (.iconst 0, (0, 0, 0, 0), 0, 0, []),
  (.invokevirtual 215, (170, 4, 1, 9), 0, 0, []),
  (.ireturn, (0, 0, 0, 0), 0, 0, [])]
def q_125 : List Nat := [0, 1, 2, 5, 8, 11, 12, 13, 14, 15, 16, 17, 20, 21]
def m_125 : aMt := (yX10_firstBreak, cX10_firstBreak, 1, (some .int), 10, 6, 137, (0, 0), 0, k_125, q_125)
def k_126 : List aM := [(.aload_n 0, (0, 0, 0, 0), 0, 0, []),
  (.aload_n 0, (0, 0, 0, 0), 0, 0, []),
  (.getfield 71, (9, 10, 0, 0), 0, 0, []),
  (.invokevirtual 130, (160, 2, 1, 9), 0, 0, []),
  (.ifCond .ne 5, (7, 0, 0, 0), 0, 0, []),
  (.iconst (-1), (0, 0, 0, 0), (-1), 0, []),
  (.ireturn, (0, 0, 0, 0), 0, 0, []),
  (.aload_n 0, (0, 0, 0, 0), 0, 0, []),
  (.iconst 2, (0, 0, 0, 0), 2, 0, []),
  (.iconst 0, (0, 0, 0, 0), 0, 0, []),
  (.iconst 0, (0, 0, 0, 0), 0, 0, []),
  (.invokevirtual 215, (170, 4, 1, 9), 0, 0, []),
  (.ifCond .ge 8, (15, 0, 0, 0), 0, 0, []),
  (.bipush (-2), (0, 0, 0, 0), (-2), 0, []),
  (.goto 14, (20, 0, 0, 0), 0, 0, []),
  (.aload_n 0, (0, 0, 0, 0), 0, 0, []),
  (.getfield 23, (9, 2, 2, 0), 0, 0, []),
  (.aload_n 0, (0, 0, 0, 0), 0, 0, []),
  (.getfield 64, (9, 8, 2, 0), 0, 0, []),
  (.invokevirtual 219, (106, 2, 1, 8), 0, 0, []),
  (.ireturn, (0, 0, 0, 0), 0, 0, [])]
def q_126 : List Nat := [0, 1, 2, 5, 8, 11, 12, 13, 14, 15, 16, 17, 20, 23, 25, 28, 29, 32, 33, 36, 39, 40]
def m_126 : aMt := (yX10_whoBreaks, cX10_whoBreaks, 1, (some .int), 10, 6, 137, (0, 0), 0, k_126, q_126)
def k_127 : List aM := [(.aload_n 0, (0, 0, 0, 0), 0, 0, []),
  (.aload_n 0, (0, 0, 0, 0), 0, 0, []),
  (.iload_n 1, (1, 0, 0, 0), 0, 0, []),
  (.invokevirtual 191, (163, 2, 1, 9), 0, 0, []),
  (.iload_n 2, (2, 0, 0, 0), 0, 0, []),
  (.invokestatic 206, (166, 1, 1, 99), 0, 0, []),
  (.invokevirtual 209, (161, 3, 1, 9), 0, 0, []),
  (.ifCond .ne 5, (10, 0, 0, 0), 0, 0, []),
  (.iconst (-1), (0, 0, 0, 0), (-1), 0, []),
  (.ireturn, (0, 0, 0, 0), 0, 0, []),
  (.aload_n 0, (0, 0, 0, 0), 0, 0, []),
  (.iload_n 2, (2, 0, 0, 0), 0, 0, []),
  (.invokevirtual 212, (169, 2, 0, 9), 0, 0, []),
  (.aload_n 0, (0, 0, 0, 0), 0, 0, []),
  (.getfield 23, (9, 2, 2, 0), 0, 0, []),
  (.aload_n 0, (0, 0, 0, 0), 0, 0, []),
  (.getfield 64, (9, 8, 2, 0), 0, 0, []),
  (.iload_n 1, (1, 0, 0, 0), 0, 0, []),
  (.invokevirtual 223, (107, 3, 1, 8), 0, 0, []),
  (.ireturn, (0, 0, 0, 0), 0, 0, [])]
def q_127 : List Nat := [0, 1, 2, 3, 6, 7, 10, 13, 16, 17, 18, 19, 20, 23, 24, 27, 28, 31, 32, 35, 36]
def m_127 : aMt := (yX10_hears, cX10_hears, 3, (some .int), 10, 6, 131, (0, 0), 2, k_127, q_127)
def k_128 : List aM := [(.aload_n 0, (0, 0, 0, 0), 0, 0, []),
  (.aload_n 0, (0, 0, 0, 0), 0, 0, []),
  (.iload_n 1, (1, 0, 0, 0), 0, 0, []),
  (.invokevirtual 166, (162, 2, 1, 9), 0, 0, []),
  (.invokevirtual 130, (160, 2, 1, 9), 0, 0, []),
  (.ifCond .ne 5, (8, 0, 0, 0), 0, 0, []),
  (.iconst (-1), (0, 0, 0, 0), (-1), 0, []),
  (.ireturn, (0, 0, 0, 0), 0, 0, []),
  (.aload_n 0, (0, 0, 0, 0), 0, 0, []),
  (.iconst 3, (0, 0, 0, 0), 3, 0, []),
  (.iload_n 1, (1, 0, 0, 0), 0, 0, []),
  (.iload_n 1, (1, 0, 0, 0), 0, 0, []),
  (.invokevirtual 215, (170, 4, 1, 9), 0, 0, []),
  (.ireturn, (0, 0, 0, 0), 0, 0, [])]
def q_128 : List Nat := [0, 1, 2, 3, 6, 9, 12, 13, 14, 15, 16, 17, 18, 21, 22]
def m_128 : aMt := (yX10_heardIn, cX10_heardIn, 2, (some .int), 10, 6, 137, (0, 0), 1, k_128, q_128)
def k_129 : List aM := [(.aload_n 0, (0, 0, 0, 0), 0, 0, []),
  (.aload_n 0, (0, 0, 0, 0), 0, 0, []),
  (.getfield 64, (9, 8, 2, 0), 0, 0, []),
  (.iload_n 1, (1, 0, 0, 0), 0, 0, []),
  (.iload_n 2, (2, 0, 0, 0), 0, 0, []),
  (.invokevirtual 126, (24, 3, 1, 2), 0, 0, []),
  (.ifCond .eq 20, (15, 0, 0, 0), 0, 0, []),
  (.aload_n 0, (0, 0, 0, 0), 0, 0, []),
  (.getfield 64, (9, 8, 2, 0), 0, 0, []),
  (.iload_n 3, (3, 0, 0, 0), 0, 0, []),
  (.iload 4, (4, 0, 0, 0), 0, 0, []),
  (.invokevirtual 126, (24, 3, 1, 2), 0, 0, []),
  (.ifCond .eq 7, (15, 0, 0, 0), 0, 0, []),
  (.iconst 1, (0, 0, 0, 0), 1, 0, []),
  (.goto 4, (16, 0, 0, 0), 0, 0, []),
  (.iconst 0, (0, 0, 0, 0), 0, 0, []),
  (.nop, (0, 0, 0, 0), 0, 0, [(0, 1), (0, 1), (0, 1), (0, 1), (0, 1)]),
  (.invokevirtual 130, (160, 2, 1, 9), 0, 0, []),
  (.ifCond .ne 5, (21, 0, 0, 0), 0, 0, []),
  (.iconst (-1), (0, 0, 0, 0), (-1), 0, []),
  (.ireturn, (0, 0, 0, 0), 0, 0, []),
  (.aload_n 0, (0, 0, 0, 0), 0, 0, []),
  (.getfield 36, (9, 4, 2, 0), 0, 0, []),
  (.aload_n 0, (0, 0, 0, 0), 0, 0, []),
  (.getfield 64, (9, 8, 2, 0), 0, 0, []),
  (.aload_n 0, (0, 0, 0, 0), 0, 0, []),
  (.getfield 19, (9, 1, 2, 0), 0, 0, []),
  (.iload_n 1, (1, 0, 0, 0), 0, 0, []),
  (.iload_n 2, (2, 0, 0, 0), 0, 0, []),
  (.invokestatic 134, (0, 2, 1, 99), 0, 0, []),
  (.aload_n 0, (0, 0, 0, 0), 0, 0, []),
  (.getfield 64, (9, 8, 2, 0), 0, 0, []),
  (.getfield 226, (2, 10, 1, 0), 0, 0, []),
  (.invokevirtual 229, (88, 5, 0, 7), 0, 0, []),
  (.aload_n 0, (0, 0, 0, 0), 0, 0, []),
  (.getfield 36, (9, 4, 2, 0), 0, 0, []),
  (.iload_n 3, (3, 0, 0, 0), 0, 0, []),
  (.iload 4, (4, 0, 0, 0), 0, 0, []),
  (.invokestatic 134, (0, 2, 1, 99), 0, 0, []),
  (.invokevirtual 233, (91, 2, 1, 7), 0, 0, []),
  (.ireturn, (0, 0, 0, 0), 0, 0, [])]
def q_129 : List Nat := [0, 1, 2, 5, 6, 7, 10, 13, 14, 17, 18, 20, 23, 26, 27, 30, 31, 31, 34, 37, 38, 39, 40, 43, 44, 47, 48, 51, 52, 53, 56, 57, 60, 63, 66, 67, 70, 71, 73, 76, 79, 80]
def m_129 : aMt := (yX10_nights, cX10_nights, 5, (some .int), 10, 4, 92, (0, 0), 4, k_129, q_129)
def k_130 : List aM := [(.aload_n 0, (0, 0, 0, 0), 0, 0, []),
  (.aload_n 0, (0, 0, 0, 0), 0, 0, []),
  (.getfield 64, (9, 8, 2, 0), 0, 0, []),
  (.iload_n 1, (1, 0, 0, 0), 0, 0, []),
  (.iload_n 2, (2, 0, 0, 0), 0, 0, []),
  (.invokevirtual 126, (24, 3, 1, 2), 0, 0, []),
  (.ifCond .eq 20, (15, 0, 0, 0), 0, 0, []),
  (.aload_n 0, (0, 0, 0, 0), 0, 0, []),
  (.getfield 64, (9, 8, 2, 0), 0, 0, []),
  (.iload_n 3, (3, 0, 0, 0), 0, 0, []),
  (.iload 4, (4, 0, 0, 0), 0, 0, []),
  (.invokevirtual 126, (24, 3, 1, 2), 0, 0, []),
  (.ifCond .eq 7, (15, 0, 0, 0), 0, 0, []),
  (.iconst 1, (0, 0, 0, 0), 1, 0, []),
  (.goto 4, (16, 0, 0, 0), 0, 0, []),
  (.iconst 0, (0, 0, 0, 0), 0, 0, []),
  (.nop, (0, 0, 0, 0), 0, 0, [(0, 1), (0, 1), (0, 1), (0, 1), (0, 1)]),
  (.invokevirtual 130, (160, 2, 1, 9), 0, 0, []),
  (.ifCond .ne 5, (21, 0, 0, 0), 0, 0, []),
  (.iconst (-1), (0, 0, 0, 0), (-1), 0, []),
  (.ireturn, (0, 0, 0, 0), 0, 0, []),
  (.aload_n 0, (0, 0, 0, 0), 0, 0, []),
  (.getfield 36, (9, 4, 2, 0), 0, 0, []),
  (.aload_n 0, (0, 0, 0, 0), 0, 0, []),
  (.getfield 64, (9, 8, 2, 0), 0, 0, []),
  (.aload_n 0, (0, 0, 0, 0), 0, 0, []),
  (.getfield 19, (9, 1, 2, 0), 0, 0, []),
  (.iload_n 1, (1, 0, 0, 0), 0, 0, []),
  (.iload_n 2, (2, 0, 0, 0), 0, 0, []),
  (.invokestatic 134, (0, 2, 1, 99), 0, 0, []),
  (.aload_n 0, (0, 0, 0, 0), 0, 0, []),
  (.getfield 19, (9, 1, 2, 0), 0, 0, []),
  (.aload_n 0, (0, 0, 0, 0), 0, 0, []),
  (.getfield 64, (9, 8, 2, 0), 0, 0, []),
  (.invokevirtual 236, (110, 2, 2, 8), 0, 0, []),
  (.invokevirtual 229, (88, 5, 0, 7), 0, 0, []),
  (.aload_n 0, (0, 0, 0, 0), 0, 0, []),
  (.getfield 36, (9, 4, 2, 0), 0, 0, []),
  (.iload_n 3, (3, 0, 0, 0), 0, 0, []),
  (.iload 4, (4, 0, 0, 0), 0, 0, []),
  (.invokestatic 134, (0, 2, 1, 99), 0, 0, []),
  (.invokevirtual 233, (91, 2, 1, 7), 0, 0, []),
  (.ireturn, (0, 0, 0, 0), 0, 0, [])]
def q_130 : List Nat := [0, 1, 2, 5, 6, 7, 10, 13, 14, 17, 18, 20, 23, 26, 27, 30, 31, 31, 34, 37, 38, 39, 40, 43, 44, 47, 48, 51, 52, 53, 56, 57, 60, 61, 64, 67, 70, 71, 74, 75, 77, 80, 83, 84]
def m_130 : aMt := (yX10_quiet, cX10_quiet, 5, (some .int), 10, 4, 92, (0, 0), 4, k_130, q_130)
def k_131 : List aM := [(.aload_n 0, (0, 0, 0, 0), 0, 0, []),
  (.aload_n 0, (0, 0, 0, 0), 0, 0, []),
  (.iload_n 1, (1, 0, 0, 0), 0, 0, []),
  (.invokevirtual 166, (162, 2, 1, 9), 0, 0, []),
  (.invokevirtual 130, (160, 2, 1, 9), 0, 0, []),
  (.ifCond .ne 5, (8, 0, 0, 0), 0, 0, []),
  (.iconst (-1), (0, 0, 0, 0), (-1), 0, []),
  (.ireturn, (0, 0, 0, 0), 0, 0, []),
  (.aload_n 0, (0, 0, 0, 0), 0, 0, []),
  (.getfield 36, (9, 4, 2, 0), 0, 0, []),
  (.aload_n 0, (0, 0, 0, 0), 0, 0, []),
  (.getfield 64, (9, 8, 2, 0), 0, 0, []),
  (.aload_n 0, (0, 0, 0, 0), 0, 0, []),
  (.getfield 19, (9, 1, 2, 0), 0, 0, []),
  (.aload_n 0, (0, 0, 0, 0), 0, 0, []),
  (.getfield 19, (9, 1, 2, 0), 0, 0, []),
  (.aload_n 0, (0, 0, 0, 0), 0, 0, []),
  (.getfield 64, (9, 8, 2, 0), 0, 0, []),
  (.iload_n 1, (1, 0, 0, 0), 0, 0, []),
  (.invokevirtual 173, (100, 3, 1, 8), 0, 0, []),
  (.aload_n 0, (0, 0, 0, 0), 0, 0, []),
  (.getfield 64, (9, 8, 2, 0), 0, 0, []),
  (.getfield 226, (2, 10, 1, 0), 0, 0, []),
  (.invokevirtual 229, (88, 5, 0, 7), 0, 0, []),
  (.aload_n 0, (0, 0, 0, 0), 0, 0, []),
  (.getfield 36, (9, 4, 2, 0), 0, 0, []),
  (.aload_n 0, (0, 0, 0, 0), 0, 0, []),
  (.getfield 64, (9, 8, 2, 0), 0, 0, []),
  (.getfield 240, (2, 6, 0, 0), 0, 0, []),
  (.invokevirtual 233, (91, 2, 1, 7), 0, 0, []),
  (.ireturn, (0, 0, 0, 0), 0, 0, [])]
def q_131 : List Nat := [0, 1, 2, 3, 6, 9, 12, 13, 14, 15, 18, 19, 22, 23, 26, 27, 30, 31, 34, 35, 38, 39, 42, 45, 48, 49, 52, 53, 56, 59, 62, 63]
def m_131 : aMt := (yX10_toWall, cX10_toWall, 2, (some .int), 10, 4, 92, (0, 0), 1, k_131, q_131)
def k_132 : List aM := [(.aload_n 0, (0, 0, 0, 0), 0, 0, []),
  (.aload_n 0, (0, 0, 0, 0), 0, 0, []),
  (.getfield 64, (9, 8, 2, 0), 0, 0, []),
  (.iload_n 1, (1, 0, 0, 0), 0, 0, []),
  (.iload_n 2, (2, 0, 0, 0), 0, 0, []),
  (.invokevirtual 126, (24, 3, 1, 2), 0, 0, []),
  (.iload_n 3, (3, 0, 0, 0), 0, 0, []),
  (.ifCond .lt 13, (13, 0, 0, 0), 0, 0, []),
  (.iload_n 3, (3, 0, 0, 0), 0, 0, []),
  (.bipush 99, (0, 0, 0, 0), 99, 0, []),
  (.if_icmp .gt 7, (13, 0, 0, 0), 0, 0, []),
  (.iconst 1, (0, 0, 0, 0), 1, 0, []),
  (.goto 4, (14, 0, 0, 0), 0, 0, []),
  (.iconst 0, (0, 0, 0, 0), 0, 0, []),
  (.nop, (0, 0, 0, 0), 0, 0, [(0, 1), (0, 1), (0, 1), (0, 1)]),
  (.invokevirtual 209, (161, 3, 1, 9), 0, 0, []),
  (.ifCond .ne 5, (19, 0, 0, 0), 0, 0, []),
  (.iconst (-1), (0, 0, 0, 0), (-1), 0, []),
  (.ireturn, (0, 0, 0, 0), 0, 0, []),
  (.aload_n 0, (0, 0, 0, 0), 0, 0, []),
  (.getfield 36, (9, 4, 2, 0), 0, 0, []),
  (.aload_n 0, (0, 0, 0, 0), 0, 0, []),
  (.getfield 64, (9, 8, 2, 0), 0, 0, []),
  (.aload_n 0, (0, 0, 0, 0), 0, 0, []),
  (.getfield 19, (9, 1, 2, 0), 0, 0, []),
  (.iload_n 1, (1, 0, 0, 0), 0, 0, []),
  (.iload_n 2, (2, 0, 0, 0), 0, 0, []),
  (.invokestatic 134, (0, 2, 1, 99), 0, 0, []),
  (.aload_n 0, (0, 0, 0, 0), 0, 0, []),
  (.getfield 64, (9, 8, 2, 0), 0, 0, []),
  (.getfield 226, (2, 10, 1, 0), 0, 0, []),
  (.invokevirtual 229, (88, 5, 0, 7), 0, 0, []),
  (.aload_n 0, (0, 0, 0, 0), 0, 0, []),
  (.getfield 36, (9, 4, 2, 0), 0, 0, []),
  (.iload_n 3, (3, 0, 0, 0), 0, 0, []),
  (.invokevirtual 243, (92, 2, 1, 7), 0, 0, []),
  (.ireturn, (0, 0, 0, 0), 0, 0, [])]
def q_132 : List Nat := [0, 1, 2, 5, 6, 7, 10, 11, 14, 15, 17, 20, 21, 24, 25, 25, 28, 31, 32, 33, 34, 37, 38, 41, 42, 45, 46, 47, 50, 51, 54, 57, 60, 61, 64, 65, 68, 69]
def m_132 : aMt := (yX10_within, cX10_within, 4, (some .int), 10, 4, 92, (0, 0), 3, k_132, q_132)
def k_133 : List aM := [(.aload_n 0, (0, 0, 0, 0), 0, 0, []),
  (.aload_n 0, (0, 0, 0, 0), 0, 0, []),
  (.getfield 71, (9, 10, 0, 0), 0, 0, []),
  (.invokevirtual 130, (160, 2, 1, 9), 0, 0, []),
  (.ifCond .ne 5, (7, 0, 0, 0), 0, 0, []),
  (.iconst (-1), (0, 0, 0, 0), (-1), 0, []),
  (.ireturn, (0, 0, 0, 0), 0, 0, []),
  (.aload_n 0, (0, 0, 0, 0), 0, 0, []),
  (.getfield 19, (9, 1, 2, 0), 0, 0, []),
  (.aload_n 0, (0, 0, 0, 0), 0, 0, []),
  (.getfield 64, (9, 8, 2, 0), 0, 0, []),
  (.invokevirtual 236, (110, 2, 2, 8), 0, 0, []),
  (.invokestatic 197, (314, 1, 1, 99), 0, 0, []),
  (.ireturn, (0, 0, 0, 0), 0, 0, [])]
def q_133 : List Nat := [0, 1, 2, 5, 8, 11, 12, 13, 14, 17, 18, 21, 24, 27, 28]
def m_133 : aMt := (yX10_deaf, cX10_deaf, 1, (some .int), 10, 4, 89, (0, 0), 0, k_133, q_133)
def k_134 : List aM := [(.aload_n 0, (0, 0, 0, 0), 0, 0, []),
  (.aload_n 0, (0, 0, 0, 0), 0, 0, []),
  (.iload_n 1, (1, 0, 0, 0), 0, 0, []),
  (.invokevirtual 166, (162, 2, 1, 9), 0, 0, []),
  (.invokevirtual 130, (160, 2, 1, 9), 0, 0, []),
  (.ifCond .ne 5, (8, 0, 0, 0), 0, 0, []),
  (.iconst (-1), (0, 0, 0, 0), (-1), 0, []),
  (.ireturn, (0, 0, 0, 0), 0, 0, []),
  (.aload_n 0, (0, 0, 0, 0), 0, 0, []),
  (.getfield 43, (9, 5, 2, 0), 0, 0, []),
  (.aload_n 0, (0, 0, 0, 0), 0, 0, []),
  (.getfield 64, (9, 8, 2, 0), 0, 0, []),
  (.aload_n 0, (0, 0, 0, 0), 0, 0, []),
  (.getfield 19, (9, 1, 2, 0), 0, 0, []),
  (.aload_n 0, (0, 0, 0, 0), 0, 0, []),
  (.getfield 64, (9, 8, 2, 0), 0, 0, []),
  (.iload_n 1, (1, 0, 0, 0), 0, 0, []),
  (.invokevirtual 173, (100, 3, 1, 8), 0, 0, []),
  (.aload_n 0, (0, 0, 0, 0), 0, 0, []),
  (.getfield 64, (9, 8, 2, 0), 0, 0, []),
  (.getfield 240, (2, 6, 0, 0), 0, 0, []),
  (.invokevirtual 246, (9, 4, 1, 0), 0, 0, []),
  (.ireturn, (0, 0, 0, 0), 0, 0, [])]
def q_134 : List Nat := [0, 1, 2, 3, 6, 9, 12, 13, 14, 15, 18, 19, 22, 23, 26, 27, 30, 31, 34, 35, 38, 41, 44, 45]
def m_134 : aMt := (yX10_cut, cX10_cut, 2, (some .int), 10, 5, 117, (0, 0), 1, k_134, q_134)
def k_135 : List aM := [(.aload_n 0, (0, 0, 0, 0), 0, 0, []),
  (.aload_n 0, (0, 0, 0, 0), 0, 0, []),
  (.iload_n 1, (1, 0, 0, 0), 0, 0, []),
  (.iload_n 2, (2, 0, 0, 0), 0, 0, []),
  (.invokevirtual 249, (165, 3, 1, 9), 0, 0, []),
  (.iload_n 3, (3, 0, 0, 0), 0, 0, []),
  (.invokestatic 251, (167, 1, 1, 99), 0, 0, []),
  (.invokevirtual 209, (161, 3, 1, 9), 0, 0, []),
  (.ifCond .ne 5, (11, 0, 0, 0), 0, 0, []),
  (.iconst (-1), (0, 0, 0, 0), (-1), 0, []),
  (.ireturn, (0, 0, 0, 0), 0, 0, []),
  (.aload_n 0, (0, 0, 0, 0), 0, 0, []),
  (.getfield 19, (9, 1, 2, 0), 0, 0, []),
  (.aload_n 0, (0, 0, 0, 0), 0, 0, []),
  (.getfield 64, (9, 8, 2, 0), 0, 0, []),
  (.iload_n 1, (1, 0, 0, 0), 0, 0, []),
  (.iload_n 2, (2, 0, 0, 0), 0, 0, []),
  (.invokestatic 134, (0, 2, 1, 99), 0, 0, []),
  (.iload_n 3, (3, 0, 0, 0), 0, 0, []),
  (.invokevirtual 254, (104, 4, 1, 8), 0, 0, []),
  (.ireturn, (0, 0, 0, 0), 0, 0, [])]
def q_135 : List Nat := [0, 1, 2, 3, 4, 7, 8, 11, 14, 17, 18, 19, 20, 23, 24, 27, 28, 29, 32, 33, 36, 37]
def m_135 : aMt := (yX10_blast, cX10_blast, 4, (some .int), 10, 4, 92, (0, 0), 3, k_135, q_135)
def k_136 : List aM := [(.aload_n 0, (0, 0, 0, 0), 0, 0, []),
  (.aload_n 0, (0, 0, 0, 0), 0, 0, []),
  (.getfield 71, (9, 10, 0, 0), 0, 0, []),
  (.iload_n 1, (1, 0, 0, 0), 0, 0, []),
  (.invokestatic 251, (167, 1, 1, 99), 0, 0, []),
  (.invokevirtual 209, (161, 3, 1, 9), 0, 0, []),
  (.ifCond .ne 5, (9, 0, 0, 0), 0, 0, []),
  (.iconst (-1), (0, 0, 0, 0), (-1), 0, []),
  (.ireturn, (0, 0, 0, 0), 0, 0, []),
  (.iconst (-1), (0, 0, 0, 0), (-1), 0, []),
  (.istore_n 2, (2, 0, 0, 0), 0, 0, []),
  (.iconst 0, (0, 0, 0, 0), 0, 0, []),
  (.istore_n 3, (3, 0, 0, 0), 0, 0, []),
  (.iconst 0, (0, 0, 0, 0), 0, 0, []),
  (.istore 4, (4, 0, 0, 0), 0, 0, []),
  (.nop, (0, 0, 0, 0), 0, 0, [(0, 1), (0, 1), (0, 1), (0, 1), (0, 1), (0, 0)]),
  (.iload 4, (4, 0, 0, 0), 0, 0, []),
  (.bipush 64, (0, 0, 0, 0), 64, 0, []),
  (.if_icmp .ge 61, (48, 0, 0, 0), 0, 0, []),
  (.aload_n 0, (0, 0, 0, 0), 0, 0, []),
  (.getfield 64, (9, 8, 2, 0), 0, 0, []),
  (.iload 4, (4, 0, 0, 0), 0, 0, []),
  (.invokevirtual 143, (26, 2, 1, 2), 0, 0, []),
  (.ifCond .eq 43, (46, 0, 0, 0), 0, 0, []),
  (.aload_n 0, (0, 0, 0, 0), 0, 0, []),
  (.getfield 64, (9, 8, 2, 0), 0, 0, []),
  (.aload_n 0, (0, 0, 0, 0), 0, 0, []),
  (.getfield 19, (9, 1, 2, 0), 0, 0, []),
  (.aload_n 0, (0, 0, 0, 0), 0, 0, []),
  (.getfield 64, (9, 8, 2, 0), 0, 0, []),
  (.iload 4, (4, 0, 0, 0), 0, 0, []),
  (.iload_n 1, (1, 0, 0, 0), 0, 0, []),
  (.invokevirtual 254, (104, 4, 1, 8), 0, 0, []),
  (.invokevirtual 257, (33, 2, 1, 2), 0, 0, []),
  (.istore 5, (5, 0, 0, 0), 0, 0, []),
  (.iload_n 2, (2, 0, 0, 0), 0, 0, []),
  (.iconst (-1), (0, 0, 0, 0), (-1), 0, []),
  (.if_icmp .eq 9, (41, 0, 0, 0), 0, 0, []),
  (.iload 5, (5, 0, 0, 0), 0, 0, []),
  (.iload_n 3, (3, 0, 0, 0), 0, 0, []),
  (.if_icmp .le 9, (46, 0, 0, 0), 0, 0, []),
  (.nop, (0, 0, 0, 0), 0, 0, [(0, 1), (0, 1), (0, 0), (0, 0), (0, 1), (0, 1)]),
  (.iload 4, (4, 0, 0, 0), 0, 0, []),
  (.istore_n 2, (2, 0, 0, 0), 0, 0, []),
  (.iload 5, (5, 0, 0, 0), 0, 0, []),
  (.istore_n 3, (3, 0, 0, 0), 0, 0, []),
  (.iinc 4 1, (4, 0, 0, 0), 1, 0, []),
  (.goto (-62), (15, 0, 0, 0), 0, 0, []),
  (.iload_n 2, (2, 0, 0, 0), 0, 0, []),
  (.invokestatic 176, (3, 1, 1, 99), 0, 0, []),
  (.ireturn, (0, 0, 0, 0), 0, 0, [])]
def q_136 : List Nat := [0, 1, 2, 5, 6, 9, 12, 15, 16, 17, 18, 19, 20, 21, 22, 24, 24, 26, 28, 31, 32, 35, 37, 40, 43, 44, 47, 48, 51, 52, 55, 57, 58, 61, 64, 66, 67, 68, 71, 73, 74, 77, 77, 79, 80, 82, 83, 86, 89, 90, 93, 94]
def m_136 : aMt := (yX10_bestBlast, cX10_bestBlast, 6, (some .int), 10, 4, 92, (0, 0), 1, k_136, q_136)
def k_137 : List aM := [(.aload_n 0, (0, 0, 0, 0), 0, 0, []),
  (.aload_n 0, (0, 0, 0, 0), 0, 0, []),
  (.getfield 71, (9, 10, 0, 0), 0, 0, []),
  (.invokevirtual 130, (160, 2, 1, 9), 0, 0, []),
  (.ifCond .ne 5, (7, 0, 0, 0), 0, 0, []),
  (.iconst (-1), (0, 0, 0, 0), (-1), 0, []),
  (.ireturn, (0, 0, 0, 0), 0, 0, []),
  (.aload_n 0, (0, 0, 0, 0), 0, 0, []),
  (.getfield 50, (9, 6, 2, 0), 0, 0, []),
  (.getfield 260, (4, 2, 0, 0), 0, 0, []),
  (.ireturn, (0, 0, 0, 0), 0, 0, [])]
def q_137 : List Nat := [0, 1, 2, 5, 8, 11, 12, 13, 14, 17, 20, 21]
def m_137 : aMt := (yX10_fits, cX10_fits, 1, (some .int), 10, 2, 43, (0, 0), 0, k_137, q_137)
def k_138 : List aM := [(.aload_n 0, (0, 0, 0, 0), 0, 0, []),
  (.aload_n 0, (0, 0, 0, 0), 0, 0, []),
  (.iload_n 1, (1, 0, 0, 0), 0, 0, []),
  (.invokevirtual 263, (164, 2, 1, 9), 0, 0, []),
  (.invokevirtual 130, (160, 2, 1, 9), 0, 0, []),
  (.ifCond .ne 5, (8, 0, 0, 0), 0, 0, []),
  (.iconst (-1), (0, 0, 0, 0), (-1), 0, []),
  (.ireturn, (0, 0, 0, 0), 0, 0, []),
  (.aload_n 0, (0, 0, 0, 0), 0, 0, []),
  (.getfield 50, (9, 6, 2, 0), 0, 0, []),
  (.getfield 266, (4, 0, 2, 0), 0, 0, []),
  (.iload_n 1, (1, 0, 0, 0), 0, 0, []),
  (.iaload, (13, 0, 0, 0), 0, 0, []),
  (.invokestatic 176, (3, 1, 1, 99), 0, 0, []),
  (.ireturn, (0, 0, 0, 0), 0, 0, [])]
def q_138 : List Nat := [0, 1, 2, 3, 6, 9, 12, 13, 14, 15, 18, 21, 22, 23, 26, 27]
def m_138 : aMt := (yX10_fitAt, cX10_fitAt, 2, (some .int), 10, 2, 43, (0, 0), 1, k_138, q_138)
def k_139 : List aM := [(.aload_n 0, (0, 0, 0, 0), 0, 0, []),
  (.aload_n 0, (0, 0, 0, 0), 0, 0, []),
  (.iload_n 1, (1, 0, 0, 0), 0, 0, []),
  (.invokevirtual 263, (164, 2, 1, 9), 0, 0, []),
  (.invokevirtual 130, (160, 2, 1, 9), 0, 0, []),
  (.ifCond .ne 5, (8, 0, 0, 0), 0, 0, []),
  (.iconst (-1), (0, 0, 0, 0), (-1), 0, []),
  (.ireturn, (0, 0, 0, 0), 0, 0, []),
  (.aload_n 0, (0, 0, 0, 0), 0, 0, []),
  (.getfield 50, (9, 6, 2, 0), 0, 0, []),
  (.getfield 269, (4, 1, 2, 0), 0, 0, []),
  (.iload_n 1, (1, 0, 0, 0), 0, 0, []),
  (.iaload, (13, 0, 0, 0), 0, 0, []),
  (.ireturn, (0, 0, 0, 0), 0, 0, [])]
def q_139 : List Nat := [0, 1, 2, 3, 6, 9, 12, 13, 14, 15, 18, 21, 22, 23, 24]
def m_139 : aMt := (yX10_fitWay, cX10_fitWay, 2, (some .int), 10, 2, 43, (0, 0), 1, k_139, q_139)
def k_140 : List aM := [(.aload_n 0, (0, 0, 0, 0), 0, 0, []),
  (.aload_n 0, (0, 0, 0, 0), 0, 0, []),
  (.getfield 64, (9, 8, 2, 0), 0, 0, []),
  (.iload_n 1, (1, 0, 0, 0), 0, 0, []),
  (.iload_n 2, (2, 0, 0, 0), 0, 0, []),
  (.invokevirtual 126, (24, 3, 1, 2), 0, 0, []),
  (.iload_n 3, (3, 0, 0, 0), 0, 0, []),
  (.invokestatic 206, (166, 1, 1, 99), 0, 0, []),
  (.invokevirtual 209, (161, 3, 1, 9), 0, 0, []),
  (.ifCond .ne 5, (12, 0, 0, 0), 0, 0, []),
  (.iconst (-1), (0, 0, 0, 0), (-1), 0, []),
  (.ireturn, (0, 0, 0, 0), 0, 0, []),
  (.aload_n 0, (0, 0, 0, 0), 0, 0, []),
  (.getfield 50, (9, 6, 2, 0), 0, 0, []),
  (.aload_n 0, (0, 0, 0, 0), 0, 0, []),
  (.getfield 64, (9, 8, 2, 0), 0, 0, []),
  (.iload_n 3, (3, 0, 0, 0), 0, 0, []),
  (.invokevirtual 272, (65, 3, 0, 4), 0, 0, []),
  (.aload_n 0, (0, 0, 0, 0), 0, 0, []),
  (.getfield 50, (9, 6, 2, 0), 0, 0, []),
  (.iload_n 1, (1, 0, 0, 0), 0, 0, []),
  (.iload_n 2, (2, 0, 0, 0), 0, 0, []),
  (.invokestatic 134, (0, 2, 1, 99), 0, 0, []),
  (.invokevirtual 276, (66, 2, 1, 4), 0, 0, []),
  (.ireturn, (0, 0, 0, 0), 0, 0, [])]
def q_140 : List Nat := [0, 1, 2, 5, 6, 7, 10, 11, 14, 17, 20, 21, 22, 23, 26, 27, 30, 31, 34, 35, 38, 39, 40, 43, 46, 47]
def m_140 : aMt := (yX10_beAt, cX10_beAt, 4, (some .int), 10, 5, 117, (0, 0), 3, k_140, q_140)
def k_141 : List aM := [(.aload_n 0, (0, 0, 0, 0), 0, 0, []),
  (.aload_n 0, (0, 0, 0, 0), 0, 0, []),
  (.getfield 71, (9, 10, 0, 0), 0, 0, []),
  (.iload_n 1, (1, 0, 0, 0), 0, 0, []),
  (.invokestatic 206, (166, 1, 1, 99), 0, 0, []),
  (.invokevirtual 209, (161, 3, 1, 9), 0, 0, []),
  (.ifCond .ne 5, (9, 0, 0, 0), 0, 0, []),
  (.iconst (-1), (0, 0, 0, 0), (-1), 0, []),
  (.ireturn, (0, 0, 0, 0), 0, 0, []),
  (.aload_n 0, (0, 0, 0, 0), 0, 0, []),
  (.getfield 50, (9, 6, 2, 0), 0, 0, []),
  (.getfield 260, (4, 2, 0, 0), 0, 0, []),
  (.ifCond .ne 6, (15, 0, 0, 0), 0, 0, []),
  (.bipush (-2), (0, 0, 0, 0), (-2), 0, []),
  (.ireturn, (0, 0, 0, 0), 0, 0, []),
  (.aload_n 0, (0, 0, 0, 0), 0, 0, []),
  (.getfield 50, (9, 6, 2, 0), 0, 0, []),
  (.aload_n 0, (0, 0, 0, 0), 0, 0, []),
  (.getfield 64, (9, 8, 2, 0), 0, 0, []),
  (.iload_n 1, (1, 0, 0, 0), 0, 0, []),
  (.invokevirtual 272, (65, 3, 0, 4), 0, 0, []),
  (.aload_n 0, (0, 0, 0, 0), 0, 0, []),
  (.getfield 50, (9, 6, 2, 0), 0, 0, []),
  (.invokevirtual 279, (67, 1, 1, 4), 0, 0, []),
  (.invokestatic 176, (3, 1, 1, 99), 0, 0, []),
  (.ireturn, (0, 0, 0, 0), 0, 0, [])]
def q_141 : List Nat := [0, 1, 2, 5, 6, 9, 12, 15, 16, 17, 18, 21, 24, 27, 29, 30, 31, 34, 35, 38, 39, 42, 43, 46, 49, 52, 53]
def m_141 : aMt := (yX10_likely, cX10_likely, 2, (some .int), 10, 5, 117, (0, 0), 1, k_141, q_141)
def k_142 : List aM := [(.aload_n 0, (0, 0, 0, 0), 0, 0, []),
  (.aload_n 0, (0, 0, 0, 0), 0, 0, []),
  (.getfield 71, (9, 10, 0, 0), 0, 0, []),
  (.iload_n 1, (1, 0, 0, 0), 0, 0, []),
  (.invokestatic 206, (166, 1, 1, 99), 0, 0, []),
  (.invokevirtual 209, (161, 3, 1, 9), 0, 0, []),
  (.ifCond .ne 5, (9, 0, 0, 0), 0, 0, []),
  (.iconst (-1), (0, 0, 0, 0), (-1), 0, []),
  (.ireturn, (0, 0, 0, 0), 0, 0, []),
  (.aload_n 0, (0, 0, 0, 0), 0, 0, []),
  (.getfield 50, (9, 6, 2, 0), 0, 0, []),
  (.getfield 260, (4, 2, 0, 0), 0, 0, []),
  (.ifCond .ne 6, (15, 0, 0, 0), 0, 0, []),
  (.bipush (-2), (0, 0, 0, 0), (-2), 0, []),
  (.ireturn, (0, 0, 0, 0), 0, 0, []),
  (.aload_n 0, (0, 0, 0, 0), 0, 0, []),
  (.getfield 50, (9, 6, 2, 0), 0, 0, []),
  (.aload_n 0, (0, 0, 0, 0), 0, 0, []),
  (.getfield 64, (9, 8, 2, 0), 0, 0, []),
  (.iload_n 1, (1, 0, 0, 0), 0, 0, []),
  (.invokevirtual 272, (65, 3, 0, 4), 0, 0, []),
  (.aload_n 0, (0, 0, 0, 0), 0, 0, []),
  (.getfield 50, (9, 6, 2, 0), 0, 0, []),
  (.aload_n 0, (0, 0, 0, 0), 0, 0, []),
  (.getfield 64, (9, 8, 2, 0), 0, 0, []),
  (.invokevirtual 283, (68, 2, 1, 4), 0, 0, []),
  (.invokestatic 176, (3, 1, 1, 99), 0, 0, []),
  (.ireturn, (0, 0, 0, 0), 0, 0, [])]
def q_142 : List Nat := [0, 1, 2, 5, 6, 9, 12, 15, 16, 17, 18, 21, 24, 27, 29, 30, 31, 34, 35, 38, 39, 42, 43, 46, 47, 50, 53, 56, 57]
def m_142 : aMt := (yX10_oneMore, cX10_oneMore, 2, (some .int), 10, 5, 117, (0, 0), 1, k_142, q_142)
def k_143 : List aM := [(.aload_n 0, (0, 0, 0, 0), 0, 0, []),
  (.aload_n 0, (0, 0, 0, 0), 0, 0, []),
  (.getfield 71, (9, 10, 0, 0), 0, 0, []),
  (.iload_n 1, (1, 0, 0, 0), 0, 0, []),
  (.invokestatic 206, (166, 1, 1, 99), 0, 0, []),
  (.invokevirtual 209, (161, 3, 1, 9), 0, 0, []),
  (.ifCond .ne 5, (9, 0, 0, 0), 0, 0, []),
  (.iconst (-1), (0, 0, 0, 0), (-1), 0, []),
  (.ireturn, (0, 0, 0, 0), 0, 0, []),
  (.aload_n 0, (0, 0, 0, 0), 0, 0, []),
  (.getfield 50, (9, 6, 2, 0), 0, 0, []),
  (.getfield 260, (4, 2, 0, 0), 0, 0, []),
  (.ifCond .ne 6, (15, 0, 0, 0), 0, 0, []),
  (.bipush (-2), (0, 0, 0, 0), (-2), 0, []),
  (.ireturn, (0, 0, 0, 0), 0, 0, []),
  (.aload_n 0, (0, 0, 0, 0), 0, 0, []),
  (.getfield 50, (9, 6, 2, 0), 0, 0, []),
  (.aload_n 0, (0, 0, 0, 0), 0, 0, []),
  (.getfield 64, (9, 8, 2, 0), 0, 0, []),
  (.iload_n 1, (1, 0, 0, 0), 0, 0, []),
  (.invokevirtual 272, (65, 3, 0, 4), 0, 0, []),
  (.aload_n 0, (0, 0, 0, 0), 0, 0, []),
  (.getfield 50, (9, 6, 2, 0), 0, 0, []),
  (.aload_n 0, (0, 0, 0, 0), 0, 0, []),
  (.getfield 50, (9, 6, 2, 0), 0, 0, []),
  (.aload_n 0, (0, 0, 0, 0), 0, 0, []),
  (.getfield 64, (9, 8, 2, 0), 0, 0, []),
  (.invokevirtual 283, (68, 2, 1, 4), 0, 0, []),
  (.invokevirtual 286, (69, 2, 1, 4), 0, 0, []),
  (.ireturn, (0, 0, 0, 0), 0, 0, [])]
def q_143 : List Nat := [0, 1, 2, 5, 6, 9, 12, 15, 16, 17, 18, 21, 24, 27, 29, 30, 31, 34, 35, 38, 39, 42, 43, 46, 47, 50, 51, 54, 57, 60, 61]
def m_143 : aMt := (yX10_oneMoreLeaves, cX10_oneMoreLeaves, 2, (some .int), 10, 5, 117, (0, 0), 1, k_143, q_143)
def k_144 : List aM := [(.aload_n 0, (0, 0, 0, 0), 0, 0, []),
  (.aload_n 0, (0, 0, 0, 0), 0, 0, []),
  (.iload_n 1, (1, 0, 0, 0), 0, 0, []),
  (.invokevirtual 166, (162, 2, 1, 9), 0, 0, []),
  (.ifCond .eq 15, (11, 0, 0, 0), 0, 0, []),
  (.aload_n 0, (0, 0, 0, 0), 0, 0, []),
  (.iload_n 2, (2, 0, 0, 0), 0, 0, []),
  (.invokevirtual 263, (164, 2, 1, 9), 0, 0, []),
  (.ifCond .eq 7, (11, 0, 0, 0), 0, 0, []),
  (.iconst 1, (0, 0, 0, 0), 1, 0, []),
  (.goto 4, (12, 0, 0, 0), 0, 0, []),
  (.iconst 0, (0, 0, 0, 0), 0, 0, []),
  (.nop, (0, 0, 0, 0), 0, 0, [(0, 1), (0, 1), (0, 1), (0, 0), (0, 0)]),
  (.invokevirtual 130, (160, 2, 1, 9), 0, 0, []),
  (.ifCond .ne 5, (17, 0, 0, 0), 0, 0, []),
  (.iconst (-1), (0, 0, 0, 0), (-1), 0, []),
  (.ireturn, (0, 0, 0, 0), 0, 0, []),
  (.aload_n 0, (0, 0, 0, 0), 0, 0, []),
  (.getfield 36, (9, 4, 2, 0), 0, 0, []),
  (.aload_n 0, (0, 0, 0, 0), 0, 0, []),
  (.getfield 64, (9, 8, 2, 0), 0, 0, []),
  (.aload_n 0, (0, 0, 0, 0), 0, 0, []),
  (.getfield 19, (9, 1, 2, 0), 0, 0, []),
  (.aload_n 0, (0, 0, 0, 0), 0, 0, []),
  (.getfield 19, (9, 1, 2, 0), 0, 0, []),
  (.aload_n 0, (0, 0, 0, 0), 0, 0, []),
  (.getfield 64, (9, 8, 2, 0), 0, 0, []),
  (.iload_n 1, (1, 0, 0, 0), 0, 0, []),
  (.invokevirtual 173, (100, 3, 1, 8), 0, 0, []),
  (.aload_n 0, (0, 0, 0, 0), 0, 0, []),
  (.getfield 64, (9, 8, 2, 0), 0, 0, []),
  (.getfield 226, (2, 10, 1, 0), 0, 0, []),
  (.invokevirtual 229, (88, 5, 0, 7), 0, 0, []),
  (.iconst 0, (0, 0, 0, 0), 0, 0, []),
  (.istore_n 3, (3, 0, 0, 0), 0, 0, []),
  (.nop, (0, 0, 0, 0), 0, 0, [(0, 1), (0, 0), (0, 1), (0, 1), (0, 0)]),
  (.iload_n 3, (3, 0, 0, 0), 0, 0, []),
  (.bipush 60, (0, 0, 0, 0), 60, 0, []),
  (.if_icmp .gt 44, (59, 0, 0, 0), 0, 0, []),
  (.aload_n 0, (0, 0, 0, 0), 0, 0, []),
  (.getfield 36, (9, 4, 2, 0), 0, 0, []),
  (.aload_n 0, (0, 0, 0, 0), 0, 0, []),
  (.getfield 50, (9, 6, 2, 0), 0, 0, []),
  (.aload_n 0, (0, 0, 0, 0), 0, 0, []),
  (.getfield 64, (9, 8, 2, 0), 0, 0, []),
  (.iload_n 2, (2, 0, 0, 0), 0, 0, []),
  (.iload_n 3, (3, 0, 0, 0), 0, 0, []),
  (.invokevirtual 289, (64, 4, 1, 4), 0, 0, []),
  (.invokevirtual 233, (91, 2, 1, 7), 0, 0, []),
  (.istore 4, (4, 0, 0, 0), 0, 0, []),
  (.iload 4, (4, 0, 0, 0), 0, 0, []),
  (.ifCond .lt 11, (57, 0, 0, 0), 0, 0, []),
  (.iload 4, (4, 0, 0, 0), 0, 0, []),
  (.iload_n 3, (3, 0, 0, 0), 0, 0, []),
  (.if_icmp .gt 5, (57, 0, 0, 0), 0, 0, []),
  (.iload_n 3, (3, 0, 0, 0), 0, 0, []),
  (.ireturn, (0, 0, 0, 0), 0, 0, []),
  (.iinc 3 1, (3, 0, 0, 0), 1, 0, []),
  (.goto (-44), (35, 0, 0, 0), 0, 0, []),
  (.bipush (-2), (0, 0, 0, 0), (-2), 0, []),
  (.ireturn, (0, 0, 0, 0), 0, 0, [])]
def q_144 : List Nat := [0, 1, 2, 3, 6, 9, 10, 11, 14, 17, 18, 21, 22, 22, 25, 28, 29, 30, 31, 34, 35, 38, 39, 42, 43, 46, 47, 50, 51, 54, 55, 58, 61, 64, 65, 66, 66, 67, 69, 72, 73, 76, 77, 80, 81, 84, 85, 86, 89, 92, 94, 96, 99, 101, 102, 105, 106, 107, 110, 113, 115, 116]
def m_144 : aMt := (yX10_meets, cX10_meets, 5, (some .int), 10, 4, 93, (0, 0), 2, k_144, q_144)
def k_145 : List aM := [(.aload_n 0, (0, 0, 0, 0), 0, 0, []),
  (.aload_n 0, (0, 0, 0, 0), 0, 0, []),
  (.getfield 71, (9, 10, 0, 0), 0, 0, []),
  (.iload_n 1, (1, 0, 0, 0), 0, 0, []),
  (.invokestatic 292, (168, 1, 1, 99), 0, 0, []),
  (.invokevirtual 209, (161, 3, 1, 9), 0, 0, []),
  (.ifCond .ne 6, (9, 0, 0, 0), 0, 0, []),
  (.bipush (-100), (0, 0, 0, 0), (-100), 0, []),
  (.ireturn, (0, 0, 0, 0), 0, 0, []),
  (.iload 4, (4, 0, 0, 0), 0, 0, []),
  (.ifCond .eq 12, (16, 0, 0, 0), 0, 0, []),
  (.iload_n 1, (1, 0, 0, 0), 0, 0, []),
  (.iload_n 3, (3, 0, 0, 0), 0, 0, []),
  (.iload_n 2, (2, 0, 0, 0), 0, 0, []),
  (.invokestatic 295, (172, 3, 1, 99), 0, 0, []),
  (.goto 9, (20, 0, 0, 0), 0, 0, []),
  (.iload_n 1, (1, 0, 0, 0), 0, 0, []),
  (.iload_n 2, (2, 0, 0, 0), 0, 0, []),
  (.iload_n 3, (3, 0, 0, 0), 0, 0, []),
  (.invokestatic 295, (172, 3, 1, 99), 0, 0, []),
  (.ireturn, (0, 0, 0, 0), 0, 0, [])]
def q_145 : List Nat := [0, 1, 2, 5, 6, 9, 12, 15, 17, 18, 20, 23, 24, 25, 26, 29, 32, 33, 34, 35, 38, 39]
def m_145 : aMt := (yX10_digs, cX10_digs, 5, (some .int), 10, 1, 22, (0, 0), 4, k_145, q_145)
def k_146 : List aM := [(.aload_n 0, (0, 0, 0, 0), 0, 0, []),
  (.aload_n 0, (0, 0, 0, 0), 0, 0, []),
  (.getfield 71, (9, 10, 0, 0), 0, 0, []),
  (.iload_n 1, (1, 0, 0, 0), 0, 0, []),
  (.invokestatic 292, (168, 1, 1, 99), 0, 0, []),
  (.invokevirtual 209, (161, 3, 1, 9), 0, 0, []),
  (.ifCond .ne 5, (9, 0, 0, 0), 0, 0, []),
  (.iconst (-1), (0, 0, 0, 0), (-1), 0, []),
  (.ireturn, (0, 0, 0, 0), 0, 0, []),
  (.iconst 0, (0, 0, 0, 0), 0, 0, []),
  (.istore_n 2, (2, 0, 0, 0), 0, 0, []),
  (.iconst 0, (0, 0, 0, 0), 0, 0, []),
  (.istore_n 3, (3, 0, 0, 0), 0, 0, []),
  (.nop, (0, 0, 0, 0), 0, 0, [(0, 0), (0, 1), (0, 1), (0, 1)]),
  (.iload_n 3, (3, 0, 0, 0), 0, 0, []),
  (.iconst 4, (0, 0, 0, 0), 4, 0, []),
  (.if_icmp .ge 41, (39, 0, 0, 0), 0, 0, []),
  (.iload_n 1, (1, 0, 0, 0), 0, 0, []),
  (.iload_n 3, (3, 0, 0, 0), 0, 0, []),
  (.iconst 2, (0, 0, 0, 0), 2, 0, []),
  (.if_icmp .lt 7, (23, 0, 0, 0), 0, 0, []),
  (.iconst 1, (0, 0, 0, 0), 1, 0, []),
  (.goto 4, (24, 0, 0, 0), 0, 0, []),
  (.iconst 0, (0, 0, 0, 0), 0, 0, []),
  (.nop, (0, 0, 0, 0), 0, 0, [(0, 0), (0, 1), (0, 1), (0, 1)]),
  (.iload_n 3, (3, 0, 0, 0), 0, 0, []),
  (.iconst 2, (0, 0, 0, 0), 2, 0, []),
  (.irem, (0, 0, 0, 0), 0, 0, []),
  (.iconst 1, (0, 0, 0, 0), 1, 0, []),
  (.if_icmp .ne 7, (32, 0, 0, 0), 0, 0, []),
  (.iconst 1, (0, 0, 0, 0), 1, 0, []),
  (.goto 4, (33, 0, 0, 0), 0, 0, []),
  (.iconst 0, (0, 0, 0, 0), 0, 0, []),
  (.nop, (0, 0, 0, 0), 0, 0, [(0, 0), (0, 1), (0, 1), (0, 1)]),
  (.invokestatic 299, (173, 3, 1, 99), 0, 0, []),
  (.ifCond .eq 6, (37, 0, 0, 0), 0, 0, []),
  (.iinc 2 1, (2, 0, 0, 0), 1, 0, []),
  (.iinc 3 1, (3, 0, 0, 0), 1, 0, []),
  (.goto (-40), (13, 0, 0, 0), 0, 0, []),
  (.iload_n 2, (2, 0, 0, 0), 0, 0, []),
  (.ireturn, (0, 0, 0, 0), 0, 0, [])]
def q_146 : List Nat := [0, 1, 2, 5, 6, 9, 12, 15, 16, 17, 18, 19, 20, 21, 21, 22, 23, 26, 27, 28, 29, 32, 33, 36, 37, 37, 38, 39, 40, 41, 44, 45, 48, 49, 49, 52, 55, 58, 61, 64, 65, 66]
def m_146 : aMt := (yX10_rests, cX10_rests, 4, (some .int), 10, 2, 44, (0, 0), 1, k_146, q_146)
def k_147 : List aM := [(.aload_n 0, (0, 0, 0, 0), 0, 0, []),
  (.aload_n 0, (0, 0, 0, 0), 0, 0, []),
  (.getfield 71, (9, 10, 0, 0), 0, 0, []),
  (.iload_n 1, (1, 0, 0, 0), 0, 0, []),
  (.invokestatic 292, (168, 1, 1, 99), 0, 0, []),
  (.invokevirtual 209, (161, 3, 1, 9), 0, 0, []),
  (.ifCond .ne 5, (9, 0, 0, 0), 0, 0, []),
  (.iconst (-1), (0, 0, 0, 0), (-1), 0, []),
  (.ireturn, (0, 0, 0, 0), 0, 0, []),
  (.iconst 0, (0, 0, 0, 0), 0, 0, []),
  (.istore_n 2, (2, 0, 0, 0), 0, 0, []),
  (.nop, (0, 0, 0, 0), 0, 0, [(0, 0), (0, 1), (0, 1)]),
  (.iload_n 2, (2, 0, 0, 0), 0, 0, []),
  (.iconst 4, (0, 0, 0, 0), 4, 0, []),
  (.if_icmp .ge 49, (46, 0, 0, 0), 0, 0, []),
  (.iload_n 1, (1, 0, 0, 0), 0, 0, []),
  (.iload_n 2, (2, 0, 0, 0), 0, 0, []),
  (.iconst 2, (0, 0, 0, 0), 2, 0, []),
  (.if_icmp .lt 7, (21, 0, 0, 0), 0, 0, []),
  (.iconst 1, (0, 0, 0, 0), 1, 0, []),
  (.goto 4, (22, 0, 0, 0), 0, 0, []),
  (.iconst 0, (0, 0, 0, 0), 0, 0, []),
  (.nop, (0, 0, 0, 0), 0, 0, [(0, 0), (0, 1), (0, 1)]),
  (.iload_n 2, (2, 0, 0, 0), 0, 0, []),
  (.iconst 2, (0, 0, 0, 0), 2, 0, []),
  (.irem, (0, 0, 0, 0), 0, 0, []),
  (.iconst 1, (0, 0, 0, 0), 1, 0, []),
  (.if_icmp .ne 7, (30, 0, 0, 0), 0, 0, []),
  (.iconst 1, (0, 0, 0, 0), 1, 0, []),
  (.goto 4, (31, 0, 0, 0), 0, 0, []),
  (.iconst 0, (0, 0, 0, 0), 0, 0, []),
  (.nop, (0, 0, 0, 0), 0, 0, [(0, 0), (0, 1), (0, 1)]),
  (.invokestatic 299, (173, 3, 1, 99), 0, 0, []),
  (.ifCond .eq 14, (44, 0, 0, 0), 0, 0, []),
  (.iload_n 2, (2, 0, 0, 0), 0, 0, []),
  (.iconst 2, (0, 0, 0, 0), 2, 0, []),
  (.idiv, (0, 0, 0, 0), 0, 0, []),
  (.bipush 10, (0, 0, 0, 0), 10, 0, []),
  (.imul, (0, 0, 0, 0), 0, 0, []),
  (.iload_n 2, (2, 0, 0, 0), 0, 0, []),
  (.iconst 2, (0, 0, 0, 0), 2, 0, []),
  (.irem, (0, 0, 0, 0), 0, 0, []),
  (.iadd, (0, 0, 0, 0), 0, 0, []),
  (.ireturn, (0, 0, 0, 0), 0, 0, []),
  (.iinc 2 1, (2, 0, 0, 0), 1, 0, []),
  (.goto (-48), (11, 0, 0, 0), 0, 0, []),
  (.bipush (-2), (0, 0, 0, 0), (-2), 0, []),
  (.ireturn, (0, 0, 0, 0), 0, 0, [])]
def q_147 : List Nat := [0, 1, 2, 5, 6, 9, 12, 15, 16, 17, 18, 19, 19, 20, 21, 24, 25, 26, 27, 30, 31, 34, 35, 35, 36, 37, 38, 39, 42, 43, 46, 47, 47, 50, 53, 54, 55, 56, 58, 59, 60, 61, 62, 63, 64, 67, 70, 72, 73]
def m_147 : aMt := (yX10_rest, cX10_rest, 3, (some .int), 10, 2, 44, (0, 0), 1, k_147, q_147)
def k_148 : List aM := [(.aload_n 0, (0, 0, 0, 0), 0, 0, []),
  (.aload_n 0, (0, 0, 0, 0), 0, 0, []),
  (.iload_n 1, (1, 0, 0, 0), 0, 0, []),
  (.invokevirtual 166, (162, 2, 1, 9), 0, 0, []),
  (.invokevirtual 130, (160, 2, 1, 9), 0, 0, []),
  (.ifCond .ne 7, (8, 0, 0, 0), 0, 0, []),
  (.ldc2_w 303, (0, 0, 0, 0), 0, (-1), []),
  (.lreturn, (0, 0, 0, 0), 0, 0, []),
  (.aload_n 0, (0, 0, 0, 0), 0, 0, []),
  (.getfield 57, (9, 7, 2, 0), 0, 0, []),
  (.aload_n 0, (0, 0, 0, 0), 0, 0, []),
  (.getfield 64, (9, 8, 2, 0), 0, 0, []),
  (.getfield 305, (2, 3, 0, 0), 0, 0, []),
  (.aload_n 0, (0, 0, 0, 0), 0, 0, []),
  (.getfield 19, (9, 1, 2, 0), 0, 0, []),
  (.getfield 179, (8, 4, 2, 0), 0, 0, []),
  (.iload_n 1, (1, 0, 0, 0), 0, 0, []),
  (.iaload, (13, 0, 0, 0), 0, 0, []),
  (.iconst 1, (0, 0, 0, 0), 1, 0, []),
  (.iadd, (0, 0, 0, 0), 0, 0, []),
  (.invokevirtual 308, (71, 3, 0, 5), 0, 0, []),
  (.iload_n 2, (2, 0, 0, 0), 0, 0, []),
  (.ifCond .eq 13, (27, 0, 0, 0), 0, 0, []),
  (.aload_n 0, (0, 0, 0, 0), 0, 0, []),
  (.getfield 57, (9, 7, 2, 0), 0, 0, []),
  (.getfield 312, (5, 1, 1, 0), 0, 0, []),
  (.goto 10, (30, 0, 0, 0), 0, 0, []),
  (.aload_n 0, (0, 0, 0, 0), 0, 0, []),
  (.getfield 57, (9, 7, 2, 0), 0, 0, []),
  (.getfield 315, (5, 0, 1, 0), 0, 0, []),
  (.lreturn, (0, 0, 0, 0), 0, 0, [])]
def q_148 : List Nat := [0, 1, 2, 3, 6, 9, 12, 15, 16, 17, 20, 21, 24, 27, 28, 31, 34, 35, 36, 37, 38, 41, 42, 45, 46, 49, 52, 55, 56, 59, 62, 63]
def m_148 : aMt := (yX10_odds, cX10_odds, 3, (some .long), 10, 3, 78, (0, 0), 2, k_148, q_148)
def k_149 : List aM := [(.aload_n 0, (0, 0, 0, 0), 0, 0, []),
  (.aload_n 0, (0, 0, 0, 0), 0, 0, []),
  (.getfield 71, (9, 10, 0, 0), 0, 0, []),
  (.invokevirtual 130, (160, 2, 1, 9), 0, 0, []),
  (.ifCond .ne 7, (7, 0, 0, 0), 0, 0, []),
  (.ldc2_w 303, (0, 0, 0, 0), 0, (-1), []),
  (.lreturn, (0, 0, 0, 0), 0, 0, []),
  (.aload_n 0, (0, 0, 0, 0), 0, 0, []),
  (.getfield 57, (9, 7, 2, 0), 0, 0, []),
  (.aload_n 0, (0, 0, 0, 0), 0, 0, []),
  (.getfield 64, (9, 8, 2, 0), 0, 0, []),
  (.aload_n 0, (0, 0, 0, 0), 0, 0, []),
  (.getfield 19, (9, 1, 2, 0), 0, 0, []),
  (.invokevirtual 318, (72, 3, 0, 5), 0, 0, []),
  (.iload_n 1, (1, 0, 0, 0), 0, 0, []),
  (.ifCond .eq 13, (20, 0, 0, 0), 0, 0, []),
  (.aload_n 0, (0, 0, 0, 0), 0, 0, []),
  (.getfield 57, (9, 7, 2, 0), 0, 0, []),
  (.getfield 312, (5, 1, 1, 0), 0, 0, []),
  (.goto 10, (23, 0, 0, 0), 0, 0, []),
  (.aload_n 0, (0, 0, 0, 0), 0, 0, []),
  (.getfield 57, (9, 7, 2, 0), 0, 0, []),
  (.getfield 315, (5, 0, 1, 0), 0, 0, []),
  (.lreturn, (0, 0, 0, 0), 0, 0, [])]
def q_149 : List Nat := [0, 1, 2, 5, 8, 11, 14, 15, 16, 19, 20, 23, 24, 27, 30, 31, 34, 35, 38, 41, 44, 45, 48, 51, 52]
def m_149 : aMt := (yX10_mean, cX10_mean, 2, (some .long), 10, 3, 83, (0, 0), 1, k_149, q_149)
def k_150 : List aM := [(.aload_n 0, (0, 0, 0, 0), 0, 0, []),
  (.aload_n 0, (0, 0, 0, 0), 0, 0, []),
  (.getfield 71, (9, 10, 0, 0), 0, 0, []),
  (.iload_n 1, (1, 0, 0, 0), 0, 0, []),
  (.ifCond .lt 14, (10, 0, 0, 0), 0, 0, []),
  (.iload_n 1, (1, 0, 0, 0), 0, 0, []),
  (.ldc_w 322, (0, 0, 0, 0), 65537, 0, []),
  (.if_icmp .ge 7, (10, 0, 0, 0), 0, 0, []),
  (.iconst 1, (0, 0, 0, 0), 1, 0, []),
  (.goto 4, (11, 0, 0, 0), 0, 0, []),
  (.iconst 0, (0, 0, 0, 0), 0, 0, []),
  (.nop, (0, 0, 0, 0), 0, 0, [(0, 1), (0, 1), (0, 0), (0, 0), (0, 0), (0, 0), (0, 0)]),
  (.invokevirtual 209, (161, 3, 1, 9), 0, 0, []),
  (.ifCond .ne 5, (16, 0, 0, 0), 0, 0, []),
  (.iconst (-1), (0, 0, 0, 0), (-1), 0, []),
  (.ireturn, (0, 0, 0, 0), 0, 0, []),
  (.iload_n 1, (1, 0, 0, 0), 0, 0, []),
  (.istore_n 2, (2, 0, 0, 0), 0, 0, []),
  (.iconst 0, (0, 0, 0, 0), 0, 0, []),
  (.istore_n 3, (3, 0, 0, 0), 0, 0, []),
  (.iconst 0, (0, 0, 0, 0), 0, 0, []),
  (.istore 4, (4, 0, 0, 0), 0, 0, []),
  (.nop, (0, 0, 0, 0), 0, 0, [(0, 1), (0, 0), (0, 1), (0, 1), (0, 1), (0, 0), (0, 0)]),
  (.iload 4, (4, 0, 0, 0), 0, 0, []),
  (.aload_n 0, (0, 0, 0, 0), 0, 0, []),
  (.getfield 64, (9, 8, 2, 0), 0, 0, []),
  (.getfield 120, (2, 8, 0, 0), 0, 0, []),
  (.if_icmp .ge 89, (76, 0, 0, 0), 0, 0, []),
  (.iconst 0, (0, 0, 0, 0), 0, 0, []),
  (.istore 5, (5, 0, 0, 0), 0, 0, []),
  (.iconst 0, (0, 0, 0, 0), 0, 0, []),
  (.istore 6, (6, 0, 0, 0), 0, 0, []),
  (.nop, (0, 0, 0, 0), 0, 0, [(0, 1), (0, 0), (0, 1), (0, 1), (0, 1), (0, 1), (0, 1)]),
  (.iload 6, (6, 0, 0, 0), 0, 0, []),
  (.aload_n 0, (0, 0, 0, 0), 0, 0, []),
  (.getfield 19, (9, 1, 2, 0), 0, 0, []),
  (.iload 4, (4, 0, 0, 0), 0, 0, []),
  (.invokevirtual 323, (101, 2, 1, 8), 0, 0, []),
  (.if_icmp .gt 47, (63, 0, 0, 0), 0, 0, []),
  (.bipush 75, (0, 0, 0, 0), 75, 0, []),
  (.iload_n 2, (2, 0, 0, 0), 0, 0, []),
  (.imul, (0, 0, 0, 0), 0, 0, []),
  (.bipush 74, (0, 0, 0, 0), 74, 0, []),
  (.iadd, (0, 0, 0, 0), 0, 0, []),
  (.ldc_w 322, (0, 0, 0, 0), 65537, 0, []),
  (.irem, (0, 0, 0, 0), 0, 0, []),
  (.istore_n 2, (2, 0, 0, 0), 0, 0, []),
  (.iload 5, (5, 0, 0, 0), 0, 0, []),
  (.ifCond .ne 17, (56, 0, 0, 0), 0, 0, []),
  (.iload_n 2, (2, 0, 0, 0), 0, 0, []),
  (.bipush 100, (0, 0, 0, 0), 100, 0, []),
  (.irem, (0, 0, 0, 0), 0, 0, []),
  (.aload_n 0, (0, 0, 0, 0), 0, 0, []),
  (.getfield 64, (9, 8, 2, 0), 0, 0, []),
  (.getfield 305, (2, 3, 0, 0), 0, 0, []),
  (.if_icmp .ge 7, (59, 0, 0, 0), 0, 0, []),
  (.nop, (0, 0, 0, 0), 0, 0, [(0, 1), (0, 0), (0, 1), (0, 1), (0, 1), (0, 0), (0, 1)]),
  (.iconst 1, (0, 0, 0, 0), 1, 0, []),
  (.goto 4, (60, 0, 0, 0), 0, 0, []),
  (.iconst 0, (0, 0, 0, 0), 0, 0, []),
  (.istore 5, (5, 0, 0, 0), 0, 0, []),
  (.iinc 6 1, (6, 0, 0, 0), 1, 0, []),
  (.goto (-55), (32, 0, 0, 0), 0, 0, []),
  (.iload_n 3, (3, 0, 0, 0), 0, 0, []),
  (.iload 5, (5, 0, 0, 0), 0, 0, []),
  (.ifCond .eq 7, (68, 0, 0, 0), 0, 0, []),
  (.iconst 0, (0, 0, 0, 0), 0, 0, []),
  (.goto 7, (71, 0, 0, 0), 0, 0, []),
  (.iconst 1, (0, 0, 0, 0), 1, 0, []),
  (.iload 4, (4, 0, 0, 0), 0, 0, []),
  (.ishl, (0, 0, 0, 0), 0, 0, []),
  (.nop, (0, 0, 0, 0), 0, 0, [(0, 1), (0, 0), (0, 1), (0, 0), (0, 1), (0, 0), (0, 0)]),
  (.ior, (0, 0, 0, 0), 0, 0, []),
  (.istore_n 3, (3, 0, 0, 0), 0, 0, []),
  (.iinc 4 1, (4, 0, 0, 0), 1, 0, []),
  (.goto (-95), (22, 0, 0, 0), 0, 0, []),
  (.iload_n 3, (3, 0, 0, 0), 0, 0, []),
  (.ireturn, (0, 0, 0, 0), 0, 0, [])]
def q_150 : List Nat := [0, 1, 2, 5, 6, 9, 10, 13, 16, 17, 20, 21, 21, 24, 27, 28, 29, 30, 31, 32, 33, 34, 36, 36, 38, 39, 42, 45, 48, 49, 51, 52, 54, 54, 56, 57, 60, 62, 65, 68, 70, 71, 72, 74, 75, 78, 79, 80, 82, 85, 86, 88, 89, 90, 93, 96, 99, 99, 100, 103, 104, 106, 109, 112, 113, 115, 118, 119, 122, 123, 125, 126, 126, 127, 128, 131, 134, 135, 136]
def m_150 : aMt := (yX10_drawn, cX10_drawn, 7, (some .int), 10, 1, 22, (0, 0), 1, k_150, q_150)
def k_151 : List aM := [(.aload_n 0, (0, 0, 0, 0), 0, 0, []),
  (.aload_n 0, (0, 0, 0, 0), 0, 0, []),
  (.getfield 71, (9, 10, 0, 0), 0, 0, []),
  (.invokevirtual 130, (160, 2, 1, 9), 0, 0, []),
  (.ifCond .ne 5, (7, 0, 0, 0), 0, 0, []),
  (.iconst (-1), (0, 0, 0, 0), (-1), 0, []),
  (.ireturn, (0, 0, 0, 0), 0, 0, []),
  (.aload_n 0, (0, 0, 0, 0), 0, 0, []),
  (.getfield 19, (9, 1, 2, 0), 0, 0, []),
  (.getfield 326, (8, 2, 0, 0), 0, 0, []),
  (.sipush 999, (0, 0, 0, 0), 999, 0, []),
  (.if_icmp .lt 9, (16, 0, 0, 0), 0, 0, []),
  (.aload_n 0, (0, 0, 0, 0), 0, 0, []),
  (.iconst 3, (0, 0, 0, 0), 3, 0, []),
  (.invokevirtual 96, (159, 2, 1, 9), 0, 0, []),
  (.ireturn, (0, 0, 0, 0), 0, 0, []),
  (.aload_n 0, (0, 0, 0, 0), 0, 0, []),
  (.getfield 29, (9, 3, 2, 0), 0, 0, []),
  (.aload_n 0, (0, 0, 0, 0), 0, 0, []),
  (.getfield 19, (9, 1, 2, 0), 0, 0, []),
  (.invokevirtual 329, (18, 2, 0, 1), 0, 0, []),
  (.aload_n 0, (0, 0, 0, 0), 0, 0, []),
  (.getfield 19, (9, 1, 2, 0), 0, 0, []),
  (.aload_n 0, (0, 0, 0, 0), 0, 0, []),
  (.getfield 64, (9, 8, 2, 0), 0, 0, []),
  (.invokevirtual 333, (96, 2, 1, 8), 0, 0, []),
  (.ireturn, (0, 0, 0, 0), 0, 0, [])]
def q_151 : List Nat := [0, 1, 2, 5, 8, 11, 12, 13, 14, 17, 20, 23, 26, 27, 28, 31, 32, 33, 36, 37, 40, 43, 44, 47, 48, 51, 54, 55]
def m_151 : aMt := (yX10_night, cX10_night, 1, (some .int), 10, 5, 109, (0, 0), 0, k_151, q_151)
def k_152 : List aM := [(.aload_n 0, (0, 0, 0, 0), 0, 0, []),
  (.aload_n 0, (0, 0, 0, 0), 0, 0, []),
  (.iload_n 1, (1, 0, 0, 0), 0, 0, []),
  (.iload_n 2, (2, 0, 0, 0), 0, 0, []),
  (.invokevirtual 249, (165, 3, 1, 9), 0, 0, []),
  (.iload_n 3, (3, 0, 0, 0), 0, 0, []),
  (.invokestatic 251, (167, 1, 1, 99), 0, 0, []),
  (.invokevirtual 209, (161, 3, 1, 9), 0, 0, []),
  (.ifCond .ne 5, (11, 0, 0, 0), 0, 0, []),
  (.iconst (-1), (0, 0, 0, 0), (-1), 0, []),
  (.ireturn, (0, 0, 0, 0), 0, 0, []),
  (.aload_n 0, (0, 0, 0, 0), 0, 0, []),
  (.getfield 29, (9, 3, 2, 0), 0, 0, []),
  (.aload_n 0, (0, 0, 0, 0), 0, 0, []),
  (.getfield 19, (9, 1, 2, 0), 0, 0, []),
  (.invokevirtual 329, (18, 2, 0, 1), 0, 0, []),
  (.aload_n 0, (0, 0, 0, 0), 0, 0, []),
  (.getfield 19, (9, 1, 2, 0), 0, 0, []),
  (.aload_n 0, (0, 0, 0, 0), 0, 0, []),
  (.getfield 64, (9, 8, 2, 0), 0, 0, []),
  (.iload_n 1, (1, 0, 0, 0), 0, 0, []),
  (.iload_n 2, (2, 0, 0, 0), 0, 0, []),
  (.invokestatic 134, (0, 2, 1, 99), 0, 0, []),
  (.iload_n 3, (3, 0, 0, 0), 0, 0, []),
  (.invokevirtual 336, (98, 4, 1, 8), 0, 0, []),
  (.ireturn, (0, 0, 0, 0), 0, 0, [])]
def q_152 : List Nat := [0, 1, 2, 3, 4, 7, 8, 11, 14, 17, 18, 19, 20, 23, 24, 27, 30, 31, 34, 35, 38, 39, 40, 43, 44, 47, 48]
def m_152 : aMt := (yX10_charge, cX10_charge, 4, (some .int), 10, 5, 117, (0, 0), 3, k_152, q_152)
def k_153 : List aM := [(.aload_n 0, (0, 0, 0, 0), 0, 0, []),
  (.aload_n 0, (0, 0, 0, 0), 0, 0, []),
  (.iload_n 1, (1, 0, 0, 0), 0, 0, []),
  (.invokevirtual 191, (163, 2, 1, 9), 0, 0, []),
  (.ifCond .eq 16, (12, 0, 0, 0), 0, 0, []),
  (.aload_n 0, (0, 0, 0, 0), 0, 0, []),
  (.iload_n 2, (2, 0, 0, 0), 0, 0, []),
  (.iload_n 3, (3, 0, 0, 0), 0, 0, []),
  (.invokevirtual 249, (165, 3, 1, 9), 0, 0, []),
  (.ifCond .eq 7, (12, 0, 0, 0), 0, 0, []),
  (.iconst 1, (0, 0, 0, 0), 1, 0, []),
  (.goto 4, (13, 0, 0, 0), 0, 0, []),
  (.iconst 0, (0, 0, 0, 0), 0, 0, []),
  (.nop, (0, 0, 0, 0), 0, 0, [(0, 1), (0, 1), (0, 1), (0, 1), (0, 0)]),
  (.invokevirtual 130, (160, 2, 1, 9), 0, 0, []),
  (.ifCond .ne 5, (18, 0, 0, 0), 0, 0, []),
  (.iconst (-1), (0, 0, 0, 0), (-1), 0, []),
  (.ireturn, (0, 0, 0, 0), 0, 0, []),
  (.aload_n 0, (0, 0, 0, 0), 0, 0, []),
  (.getfield 19, (9, 1, 2, 0), 0, 0, []),
  (.getfield 194, (8, 6, 2, 0), 0, 0, []),
  (.iload_n 1, (1, 0, 0, 0), 0, 0, []),
  (.iaload, (13, 0, 0, 0), 0, 0, []),
  (.istore 4, (4, 0, 0, 0), 0, 0, []),
  (.iload 4, (4, 0, 0, 0), 0, 0, []),
  (.iload_n 2, (2, 0, 0, 0), 0, 0, []),
  (.iload_n 3, (3, 0, 0, 0), 0, 0, []),
  (.invokestatic 134, (0, 2, 1, 99), 0, 0, []),
  (.if_icmp .ne 9, (33, 0, 0, 0), 0, 0, []),
  (.aload_n 0, (0, 0, 0, 0), 0, 0, []),
  (.iconst 5, (0, 0, 0, 0), 5, 0, []),
  (.invokevirtual 96, (159, 2, 1, 9), 0, 0, []),
  (.ireturn, (0, 0, 0, 0), 0, 0, []),
  (.aload_n 0, (0, 0, 0, 0), 0, 0, []),
  (.getfield 29, (9, 3, 2, 0), 0, 0, []),
  (.aload_n 0, (0, 0, 0, 0), 0, 0, []),
  (.getfield 19, (9, 1, 2, 0), 0, 0, []),
  (.invokevirtual 329, (18, 2, 0, 1), 0, 0, []),
  (.aload_n 0, (0, 0, 0, 0), 0, 0, []),
  (.getfield 19, (9, 1, 2, 0), 0, 0, []),
  (.getfield 194, (8, 6, 2, 0), 0, 0, []),
  (.iload_n 1, (1, 0, 0, 0), 0, 0, []),
  (.iload_n 2, (2, 0, 0, 0), 0, 0, []),
  (.iload_n 3, (3, 0, 0, 0), 0, 0, []),
  (.invokestatic 134, (0, 2, 1, 99), 0, 0, []),
  (.iastore, (0, 0, 0, 0), 0, 0, []),
  (.iload 4, (4, 0, 0, 0), 0, 0, []),
  (.invokestatic 176, (3, 1, 1, 99), 0, 0, []),
  (.ireturn, (0, 0, 0, 0), 0, 0, [])]
def q_153 : List Nat := [0, 1, 2, 3, 6, 9, 10, 11, 12, 15, 18, 19, 22, 23, 23, 26, 29, 30, 31, 32, 35, 38, 39, 40, 42, 44, 45, 46, 49, 52, 53, 54, 57, 58, 59, 62, 63, 66, 69, 70, 73, 76, 77, 78, 79, 82, 83, 85, 88, 89]
def m_153 : aMt := (yX10_move, cX10_move, 5, (some .int), 10, 3, 65, (0, 0), 3, k_153, q_153)
def k_154 : List aM := [(.aload_n 0, (0, 0, 0, 0), 0, 0, []),
  (.getfield 29, (9, 3, 2, 0), 0, 0, []),
  (.aload_n 0, (0, 0, 0, 0), 0, 0, []),
  (.getfield 19, (9, 1, 2, 0), 0, 0, []),
  (.invokevirtual 339, (19, 2, 1, 1), 0, 0, []),
  (.istore_n 1, (1, 0, 0, 0), 0, 0, []),
  (.aload_n 0, (0, 0, 0, 0), 0, 0, []),
  (.iload_n 1, (1, 0, 0, 0), 0, 0, []),
  (.ifCond .eq 7, (11, 0, 0, 0), 0, 0, []),
  (.iconst 0, (0, 0, 0, 0), 0, 0, []),
  (.goto 5, (12, 0, 0, 0), 0, 0, []),
  (.bipush 6, (0, 0, 0, 0), 6, 0, []),
  (.nop, (0, 0, 0, 0), 0, 0, [(0, 0), (0, 1)]),
  (.putfield 75, (9, 11, 0, 0), 0, 0, []),
  (.iload_n 1, (1, 0, 0, 0), 0, 0, []),
  (.ireturn, (0, 0, 1, 0), 0, 0, [])]
def q_154 : List Nat := [0, 1, 4, 5, 8, 11, 12, 13, 14, 17, 18, 21, 23, 23, 26, 27, 28]
def m_154 : aMt := (yX10_undo, cX10_undo, 2, (some .boolean), 10, 2, 43, (0, 0), 0, k_154, q_154)
def k_155 : List aM := [(.aload_n 0, (0, 0, 0, 0), 0, 0, []),
  (.aload_n 0, (0, 0, 0, 0), 0, 0, []),
  (.getfield 71, (9, 10, 0, 0), 0, 0, []),
  (.invokevirtual 130, (160, 2, 1, 9), 0, 0, []),
  (.ifCond .ne 5, (7, 0, 0, 0), 0, 0, []),
  (.iconst (-1), (0, 0, 0, 0), (-1), 0, []),
  (.ireturn, (0, 0, 0, 0), 0, 0, []),
  (.aload_n 0, (0, 0, 0, 0), 0, 0, []),
  (.getfield 29, (9, 3, 2, 0), 0, 0, []),
  (.aload_n 0, (0, 0, 0, 0), 0, 0, []),
  (.getfield 19, (9, 1, 2, 0), 0, 0, []),
  (.invokevirtual 343, (20, 2, 1, 1), 0, 0, []),
  (.istore_n 1, (1, 0, 0, 0), 0, 0, []),
  (.iload_n 1, (1, 0, 0, 0), 0, 0, []),
  (.iconst (-1), (0, 0, 0, 0), (-1), 0, []),
  (.if_icmp .ne 11, (20, 0, 0, 0), 0, 0, []),
  (.aload_n 0, (0, 0, 0, 0), 0, 0, []),
  (.iconst 3, (0, 0, 0, 0), 3, 0, []),
  (.invokevirtual 96, (159, 2, 1, 9), 0, 0, []),
  (.goto 4, (21, 0, 0, 0), 0, 0, []),
  (.iload_n 1, (1, 0, 0, 0), 0, 0, []),
  (.ireturn, (0, 0, 0, 0), 0, 0, [])]
def q_155 : List Nat := [0, 1, 2, 5, 8, 11, 12, 13, 14, 17, 18, 21, 24, 25, 26, 27, 30, 31, 32, 35, 38, 39, 40]
def m_155 : aMt := (yX10_image, cX10_image, 2, (some .int), 10, 2, 43, (0, 0), 0, k_155, q_155)
def k_156 : List aM := [(.aload_n 0, (0, 0, 0, 0), 0, 0, []),
  (.aload_n 0, (0, 0, 0, 0), 0, 0, []),
  (.getfield 29, (9, 3, 2, 0), 0, 0, []),
  (.iload_n 1, (1, 0, 0, 0), 0, 0, []),
  (.aload_n 0, (0, 0, 0, 0), 0, 0, []),
  (.getfield 19, (9, 1, 2, 0), 0, 0, []),
  (.invokevirtual 347, (21, 3, 1, 1), 0, 0, []),
  (.invokevirtual 130, (160, 2, 1, 9), 0, 0, []),
  (.ireturn, (0, 0, 1, 0), 0, 0, [])]
def q_156 : List Nat := [0, 1, 2, 5, 6, 7, 10, 13, 16, 17]
def m_156 : aMt := (yX10_back, cX10_back, 2, (some .boolean), 10, 2, 44, (0, 0), 1, k_156, q_156)
def k_157 : List aM := [(.iload_n 1, (1, 0, 0, 0), 0, 0, []),
  (.tableswitch 174 0 12 #[67, 75, 83, 91, 99, 107, 115, 123, 131, 139, 147, 155, 163], (55, 0, 0, 0), 0, 0, [(0, 2), (1, 6), (2, 10), (3, 14), (4, 18), (5, 22), (6, 26), (7, 30), (8, 34), (9, 38), (10, 42), (11, 46), (12, 50)]),
  (.aload_n 0, (0, 0, 0, 0), 0, 0, []),
  (.getfield 64, (9, 8, 2, 0), 0, 0, []),
  (.getfield 361, (2, 0, 0, 0), 0, 0, []),
  (.ireturn, (0, 0, 0, 0), 0, 0, []),
  (.aload_n 0, (0, 0, 0, 0), 0, 0, []),
  (.getfield 64, (9, 8, 2, 0), 0, 0, []),
  (.getfield 364, (2, 1, 0, 0), 0, 0, []),
  (.ireturn, (0, 0, 0, 0), 0, 0, []),
  (.aload_n 0, (0, 0, 0, 0), 0, 0, []),
  (.getfield 64, (9, 8, 2, 0), 0, 0, []),
  (.getfield 367, (2, 2, 0, 0), 0, 0, []),
  (.ireturn, (0, 0, 0, 0), 0, 0, []),
  (.aload_n 0, (0, 0, 0, 0), 0, 0, []),
  (.getfield 64, (9, 8, 2, 0), 0, 0, []),
  (.getfield 305, (2, 3, 0, 0), 0, 0, []),
  (.ireturn, (0, 0, 0, 0), 0, 0, []),
  (.aload_n 0, (0, 0, 0, 0), 0, 0, []),
  (.getfield 64, (9, 8, 2, 0), 0, 0, []),
  (.getfield 370, (2, 4, 0, 0), 0, 0, []),
  (.ireturn, (0, 0, 0, 0), 0, 0, []),
  (.aload_n 0, (0, 0, 0, 0), 0, 0, []),
  (.getfield 64, (9, 8, 2, 0), 0, 0, []),
  (.getfield 373, (2, 5, 0, 0), 0, 0, []),
  (.ireturn, (0, 0, 0, 0), 0, 0, []),
  (.aload_n 0, (0, 0, 0, 0), 0, 0, []),
  (.getfield 64, (9, 8, 2, 0), 0, 0, []),
  (.getfield 376, (2, 7, 0, 0), 0, 0, []),
  (.ireturn, (0, 0, 0, 0), 0, 0, []),
  (.aload_n 0, (0, 0, 0, 0), 0, 0, []),
  (.getfield 64, (9, 8, 2, 0), 0, 0, []),
  (.getfield 120, (2, 8, 0, 0), 0, 0, []),
  (.ireturn, (0, 0, 0, 0), 0, 0, []),
  (.aload_n 0, (0, 0, 0, 0), 0, 0, []),
  (.getfield 64, (9, 8, 2, 0), 0, 0, []),
  (.getfield 379, (2, 9, 0, 0), 0, 0, []),
  (.ireturn, (0, 0, 0, 0), 0, 0, []),
  (.aload_n 0, (0, 0, 0, 0), 0, 0, []),
  (.getfield 19, (9, 1, 2, 0), 0, 0, []),
  (.getfield 326, (8, 2, 0, 0), 0, 0, []),
  (.ireturn, (0, 0, 0, 0), 0, 0, []),
  (.aload_n 0, (0, 0, 0, 0), 0, 0, []),
  (.getfield 29, (9, 3, 2, 0), 0, 0, []),
  (.getfield 382, (1, 3, 0, 0), 0, 0, []),
  (.ireturn, (0, 0, 0, 0), 0, 0, []),
  (.aload_n 0, (0, 0, 0, 0), 0, 0, []),
  (.getfield 29, (9, 3, 2, 0), 0, 0, []),
  (.getfield 383, (1, 4, 0, 0), 0, 0, []),
  (.ireturn, (0, 0, 0, 0), 0, 0, []),
  (.aload_n 0, (0, 0, 0, 0), 0, 0, []),
  (.getfield 10, (9, 0, 2, 0), 0, 0, []),
  (.getfield 79, (3, 0, 2, 0), 0, 0, []),
  (.getfield 93, (6, 1, 0, 0), 0, 0, []),
  (.ireturn, (0, 0, 0, 0), 0, 0, []),
  (.iconst (-1), (0, 0, 0, 0), (-1), 0, []),
  (.ireturn, (0, 0, 0, 0), 0, 0, [])]
def q_157 : List Nat := [0, 1, 68, 69, 72, 75, 76, 77, 80, 83, 84, 85, 88, 91, 92, 93, 96, 99, 100, 101, 104, 107, 108, 109, 112, 115, 116, 117, 120, 123, 124, 125, 128, 131, 132, 133, 136, 139, 140, 141, 144, 147, 148, 149, 152, 155, 156, 157, 160, 163, 164, 165, 168, 171, 174, 175, 176, 177]
def m_157 : aMt := (yX10_size, cX10_size, 2, (some .int), 10, 0, 0, (0, 0), 1, k_157, q_157)
def k_158 : List aM := [(.aload_n 0, (0, 0, 0, 0), 0, 0, []),
  (.getfield 75, (9, 11, 0, 0), 0, 0, []),
  (.ireturn, (0, 0, 0, 0), 0, 0, [])]
def q_158 : List Nat := [0, 1, 4, 5]
def m_158 : aMt := (yX10_trouble, cX10_trouble, 1, (some .int), 10, 0, 0, (0, 0), 0, k_158, q_158)
def k_159 : List aM := [(.aload_n 0, (0, 0, 0, 0), 0, 0, []),
  (.iload_n 1, (1, 0, 0, 0), 0, 0, []),
  (.putfield 75, (9, 11, 0, 0), 0, 0, []),
  (.iconst (-1), (0, 0, 0, 0), (-1), 0, []),
  (.ireturn, (0, 0, 0, 0), 0, 0, [])]
def q_159 : List Nat := [0, 1, 2, 5, 6, 7]
def m_159 : aMt := (yX10_refuse, cX10_refuse, 2, (some .int), 10, 0, 0, (0, 0), 1, k_159, q_159)
def k_160 : List aM := [(.aload_n 0, (0, 0, 0, 0), 0, 0, []),
  (.iload_n 1, (1, 0, 0, 0), 0, 0, []),
  (.iconst 1, (0, 0, 0, 0), 1, 0, []),
  (.invokevirtual 209, (161, 3, 1, 9), 0, 0, []),
  (.ireturn, (0, 0, 1, 0), 0, 0, [])]
def q_160 : List Nat := [0, 1, 2, 3, 6, 7]
def m_160 : aMt := (yX10_allowed, cX10_allowed, 2, (some .boolean), 10, 1, 22, (0, 0), 1, k_160, q_160)
def k_161 : List aM := [(.aload_n 0, (0, 0, 0, 0), 0, 0, []),
  (.iconst 0, (0, 0, 0, 0), 0, 0, []),
  (.putfield 75, (9, 11, 0, 0), 0, 0, []),
  (.iload_n 1, (1, 0, 0, 0), 0, 0, []),
  (.ifCond .ne 11, (9, 0, 0, 0), 0, 0, []),
  (.aload_n 0, (0, 0, 0, 0), 0, 0, []),
  (.iconst 1, (0, 0, 0, 0), 1, 0, []),
  (.putfield 75, (9, 11, 0, 0), 0, 0, []),
  (.goto 12, (14, 0, 0, 0), 0, 0, []),
  (.iload_n 2, (2, 0, 0, 0), 0, 0, []),
  (.ifCond .ne 8, (14, 0, 0, 0), 0, 0, []),
  (.aload_n 0, (0, 0, 0, 0), 0, 0, []),
  (.iconst 2, (0, 0, 0, 0), 2, 0, []),
  (.putfield 75, (9, 11, 0, 0), 0, 0, []),
  (.nop, (0, 0, 0, 0), 0, 0, [(0, 1), (0, 0), (0, 0)]),
  (.aload_n 0, (0, 0, 0, 0), 0, 0, []),
  (.getfield 75, (9, 11, 0, 0), 0, 0, []),
  (.ifCond .ne 7, (20, 0, 0, 0), 0, 0, []),
  (.iconst 1, (0, 0, 0, 0), 1, 0, []),
  (.goto 4, (21, 0, 0, 0), 0, 0, []),
  (.iconst 0, (0, 0, 0, 0), 0, 0, []),
  (.ireturn, (0, 0, 1, 0), 0, 0, [])]
def q_161 : List Nat := [0, 1, 2, 5, 6, 9, 10, 11, 14, 17, 18, 21, 22, 23, 26, 26, 27, 30, 33, 34, 37, 38, 39]
def m_161 : aMt := (yX10_allowed_, cX10_allowed_, 3, (some .boolean), 10, 0, 0, (0, 0), 2, k_161, q_161)
def k_162 : List aM := [(.iload_n 1, (1, 0, 0, 0), 0, 0, []),
  (.ifCond .lt 18, (9, 0, 0, 0), 0, 0, []),
  (.iload_n 1, (1, 0, 0, 0), 0, 0, []),
  (.aload_n 0, (0, 0, 0, 0), 0, 0, []),
  (.getfield 64, (9, 8, 2, 0), 0, 0, []),
  (.getfield 120, (2, 8, 0, 0), 0, 0, []),
  (.if_icmp .ge 7, (9, 0, 0, 0), 0, 0, []),
  (.iconst 1, (0, 0, 0, 0), 1, 0, []),
  (.goto 4, (10, 0, 0, 0), 0, 0, []),
  (.iconst 0, (0, 0, 0, 0), 0, 0, []),
  (.ireturn, (0, 0, 1, 0), 0, 0, [])]
def q_162 : List Nat := [0, 1, 4, 5, 6, 9, 12, 15, 16, 19, 20, 21]
def m_162 : aMt := (yX10_isGallery, cX10_isGallery, 2, (some .boolean), 10, 0, 0, (0, 0), 1, k_162, q_162)
def k_163 : List aM := [(.iload_n 1, (1, 0, 0, 0), 0, 0, []),
  (.ifCond .lt 18, (9, 0, 0, 0), 0, 0, []),
  (.iload_n 1, (1, 0, 0, 0), 0, 0, []),
  (.aload_n 0, (0, 0, 0, 0), 0, 0, []),
  (.getfield 64, (9, 8, 2, 0), 0, 0, []),
  (.getfield 376, (2, 7, 0, 0), 0, 0, []),
  (.if_icmp .ge 7, (9, 0, 0, 0), 0, 0, []),
  (.iconst 1, (0, 0, 0, 0), 1, 0, []),
  (.goto 4, (10, 0, 0, 0), 0, 0, []),
  (.iconst 0, (0, 0, 0, 0), 0, 0, []),
  (.ireturn, (0, 0, 1, 0), 0, 0, [])]
def q_163 : List Nat := [0, 1, 4, 5, 6, 9, 12, 15, 16, 19, 20, 21]
def m_163 : aMt := (yX10_isDrum, cX10_isDrum, 2, (some .boolean), 10, 0, 0, (0, 0), 1, k_163, q_163)
def k_164 : List aM := [(.iload_n 1, (1, 0, 0, 0), 0, 0, []),
  (.ifCond .lt 18, (9, 0, 0, 0), 0, 0, []),
  (.iload_n 1, (1, 0, 0, 0), 0, 0, []),
  (.aload_n 0, (0, 0, 0, 0), 0, 0, []),
  (.getfield 50, (9, 6, 2, 0), 0, 0, []),
  (.getfield 260, (4, 2, 0, 0), 0, 0, []),
  (.if_icmp .ge 7, (9, 0, 0, 0), 0, 0, []),
  (.iconst 1, (0, 0, 0, 0), 1, 0, []),
  (.goto 4, (10, 0, 0, 0), 0, 0, []),
  (.iconst 0, (0, 0, 0, 0), 0, 0, []),
  (.ireturn, (0, 0, 1, 0), 0, 0, [])]
def q_164 : List Nat := [0, 1, 4, 5, 6, 9, 12, 15, 16, 19, 20, 21]
def m_164 : aMt := (yX10_isFit, cX10_isFit, 2, (some .boolean), 10, 0, 0, (0, 0), 1, k_164, q_164)
def k_165 : List aM := [(.aload_n 0, (0, 0, 0, 0), 0, 0, []),
  (.getfield 64, (9, 8, 2, 0), 0, 0, []),
  (.iload_n 1, (1, 0, 0, 0), 0, 0, []),
  (.iload_n 2, (2, 0, 0, 0), 0, 0, []),
  (.invokevirtual 126, (24, 3, 1, 2), 0, 0, []),
  (.ifCond .eq 22, (15, 0, 0, 0), 0, 0, []),
  (.aload_n 0, (0, 0, 0, 0), 0, 0, []),
  (.getfield 64, (9, 8, 2, 0), 0, 0, []),
  (.iload_n 1, (1, 0, 0, 0), 0, 0, []),
  (.iload_n 2, (2, 0, 0, 0), 0, 0, []),
  (.invokestatic 134, (0, 2, 1, 99), 0, 0, []),
  (.invokevirtual 143, (26, 2, 1, 2), 0, 0, []),
  (.ifCond .eq 7, (15, 0, 0, 0), 0, 0, []),
  (.iconst 1, (0, 0, 0, 0), 1, 0, []),
  (.goto 4, (16, 0, 0, 0), 0, 0, []),
  (.iconst 0, (0, 0, 0, 0), 0, 0, []),
  (.ireturn, (0, 0, 1, 0), 0, 0, [])]
def q_165 : List Nat := [0, 1, 4, 5, 6, 9, 12, 13, 16, 17, 18, 21, 24, 27, 28, 31, 32, 33]
def m_165 : aMt := (yX10_isSoil, cX10_isSoil, 3, (some .boolean), 10, 2, 43, (0, 0), 2, k_165, q_165)
def k_166 : List aM := [(.iload_n 0, (0, 0, 0, 0), 0, 0, []),
  (.ifCond .lt 13, (7, 0, 0, 0), 0, 0, []),
  (.iload_n 0, (0, 0, 0, 0), 0, 0, []),
  (.bipush 60, (0, 0, 0, 0), 60, 0, []),
  (.if_icmp .gt 7, (7, 0, 0, 0), 0, 0, []),
  (.iconst 1, (0, 0, 0, 0), 1, 0, []),
  (.goto 4, (8, 0, 0, 0), 0, 0, []),
  (.iconst 0, (0, 0, 0, 0), 0, 0, []),
  (.ireturn, (0, 0, 1, 0), 0, 0, [])]
def q_166 : List Nat := [0, 1, 4, 5, 7, 10, 11, 14, 15, 16]
def m_166 : aMt := (yX10_isNight, cX10_isNight, 1, (some .boolean), 10, 0, 0, (0, 0), 1, k_166, q_166)
def k_167 : List aM := [(.iload_n 0, (0, 0, 0, 0), 0, 0, []),
  (.ifCond .lt 12, (7, 0, 0, 0), 0, 0, []),
  (.iload_n 0, (0, 0, 0, 0), 0, 0, []),
  (.iconst 2, (0, 0, 0, 0), 2, 0, []),
  (.if_icmp .gt 7, (7, 0, 0, 0), 0, 0, []),
  (.iconst 1, (0, 0, 0, 0), 1, 0, []),
  (.goto 4, (8, 0, 0, 0), 0, 0, []),
  (.iconst 0, (0, 0, 0, 0), 0, 0, []),
  (.ireturn, (0, 0, 1, 0), 0, 0, [])]
def q_167 : List Nat := [0, 1, 4, 5, 6, 9, 10, 13, 14, 15]
def m_167 : aMt := (yX10_isPower, cX10_isPower, 1, (some .boolean), 10, 0, 0, (0, 0), 1, k_167, q_167)
def k_168 : List aM := [(.iload_n 0, (0, 0, 0, 0), 0, 0, []),
  (.ifCond .lt 13, (7, 0, 0, 0), 0, 0, []),
  (.iload_n 0, (0, 0, 0, 0), 0, 0, []),
  (.bipush 9, (0, 0, 0, 0), 9, 0, []),
  (.if_icmp .gt 7, (7, 0, 0, 0), 0, 0, []),
  (.iconst 1, (0, 0, 0, 0), 1, 0, []),
  (.goto 4, (8, 0, 0, 0), 0, 0, []),
  (.iconst 0, (0, 0, 0, 0), 0, 0, []),
  (.ireturn, (0, 0, 1, 0), 0, 0, [])]
def q_168 : List Nat := [0, 1, 4, 5, 7, 10, 11, 14, 15, 16]
def m_168 : aMt := (yX10_isPowder, cX10_isPowder, 1, (some .boolean), 10, 0, 0, (0, 0), 1, k_168, q_168)
def k_169 : List aM := [(.aload_n 0, (0, 0, 0, 0), 0, 0, []),
  (.getfield 23, (9, 2, 2, 0), 0, 0, []),
  (.aload_n 0, (0, 0, 0, 0), 0, 0, []),
  (.getfield 19, (9, 1, 2, 0), 0, 0, []),
  (.invokevirtual 386, (95, 2, 0, 8), 0, 0, []),
  (.iconst 0, (0, 0, 0, 0), 0, 0, []),
  (.istore_n 2, (2, 0, 0, 0), 0, 0, []),
  (.nop, (0, 0, 0, 0), 0, 0, [(0, 1), (0, 1), (0, 1)]),
  (.iload_n 2, (2, 0, 0, 0), 0, 0, []),
  (.iload_n 1, (1, 0, 0, 0), 0, 0, []),
  (.if_icmp .ge 21, (19, 0, 0, 0), 0, 0, []),
  (.aload_n 0, (0, 0, 0, 0), 0, 0, []),
  (.getfield 23, (9, 2, 2, 0), 0, 0, []),
  (.aload_n 0, (0, 0, 0, 0), 0, 0, []),
  (.getfield 64, (9, 8, 2, 0), 0, 0, []),
  (.invokevirtual 333, (96, 2, 1, 8), 0, 0, []),
  (.pop, (0, 0, 0, 0), 0, 0, []),
  (.iinc 2 1, (2, 0, 0, 0), 1, 0, []),
  (.goto (-20), (7, 0, 0, 0), 0, 0, []),
  (.return_, (0, 0, 0, 0), 0, 0, [])]
def q_169 : List Nat := [0, 1, 4, 5, 8, 11, 12, 13, 13, 14, 15, 18, 19, 22, 23, 26, 29, 30, 33, 36, 37]
def m_169 : aMt := (yX10_lookAhead, cX10_lookAhead, 3, none, 10, 5, 109, (0, 0), 1, k_169, q_169)
def k_170 : List aM := [(.aload_n 0, (0, 0, 0, 0), 0, 0, []),
  (.getfield 23, (9, 2, 2, 0), 0, 0, []),
  (.aload_n 0, (0, 0, 0, 0), 0, 0, []),
  (.getfield 19, (9, 1, 2, 0), 0, 0, []),
  (.invokevirtual 386, (95, 2, 0, 8), 0, 0, []),
  (.iconst 0, (0, 0, 0, 0), 0, 0, []),
  (.istore 4, (4, 0, 0, 0), 0, 0, []),
  (.nop, (0, 0, 0, 0), 0, 0, [(0, 1), (0, 1), (0, 1), (0, 1), (0, 1)]),
  (.iload 4, (4, 0, 0, 0), 0, 0, []),
  (.bipush 60, (0, 0, 0, 0), 60, 0, []),
  (.if_icmp .gt 34, (27, 0, 0, 0), 0, 0, []),
  (.aload_n 0, (0, 0, 0, 0), 0, 0, []),
  (.iload_n 1, (1, 0, 0, 0), 0, 0, []),
  (.iload_n 2, (2, 0, 0, 0), 0, 0, []),
  (.iload_n 3, (3, 0, 0, 0), 0, 0, []),
  (.invokevirtual 389, (171, 4, 1, 9), 0, 0, []),
  (.ifCond .eq 6, (19, 0, 0, 0), 0, 0, []),
  (.iload 4, (4, 0, 0, 0), 0, 0, []),
  (.ireturn, (0, 0, 0, 0), 0, 0, []),
  (.aload_n 0, (0, 0, 0, 0), 0, 0, []),
  (.getfield 23, (9, 2, 2, 0), 0, 0, []),
  (.aload_n 0, (0, 0, 0, 0), 0, 0, []),
  (.getfield 64, (9, 8, 2, 0), 0, 0, []),
  (.invokevirtual 333, (96, 2, 1, 8), 0, 0, []),
  (.pop, (0, 0, 0, 0), 0, 0, []),
  (.iinc 4 1, (4, 0, 0, 0), 1, 0, []),
  (.goto (-35), (7, 0, 0, 0), 0, 0, []),
  (.bipush (-2), (0, 0, 0, 0), (-2), 0, []),
  (.ireturn, (0, 0, 0, 0), 0, 0, [])]
def q_170 : List Nat := [0, 1, 4, 5, 8, 11, 12, 14, 14, 16, 18, 21, 22, 23, 24, 25, 28, 31, 33, 34, 35, 38, 39, 42, 45, 46, 49, 52, 54, 55]
def m_170 : aMt := (yX10_firstNight, cX10_firstNight, 5, (some .int), 10, 5, 113, (0, 0), 3, k_170, q_170)
def k_171 : List aM := [(.iload_n 1, (1, 0, 0, 0), 0, 0, []),
  (.tableswitch 96 0 3 #[31, 48, 62, 83], (37, 0, 0, 0), 0, 0, [(0, 2), (1, 11), (2, 19), (3, 30)]),
  (.aload_n 0, (0, 0, 0, 0), 0, 0, []),
  (.getfield 23, (9, 2, 2, 0), 0, 0, []),
  (.iload_n 2, (2, 0, 0, 0), 0, 0, []),
  (.invokevirtual 351, (102, 2, 1, 8), 0, 0, []),
  (.ifCond .ne 7, (9, 0, 0, 0), 0, 0, []),
  (.iconst 1, (0, 0, 0, 0), 1, 0, []),
  (.goto 4, (10, 0, 0, 0), 0, 0, []),
  (.iconst 0, (0, 0, 0, 0), 0, 0, []),
  (.ireturn, (0, 0, 1, 0), 0, 0, []),
  (.aload_n 0, (0, 0, 0, 0), 0, 0, []),
  (.getfield 23, (9, 2, 2, 0), 0, 0, []),
  (.aload_n 0, (0, 0, 0, 0), 0, 0, []),
  (.getfield 64, (9, 8, 2, 0), 0, 0, []),
  (.iload_n 2, (2, 0, 0, 0), 0, 0, []),
  (.iload_n 3, (3, 0, 0, 0), 0, 0, []),
  (.invokevirtual 393, (105, 4, 1, 8), 0, 0, []),
  (.ireturn, (0, 0, 1, 0), 0, 0, []),
  (.aload_n 0, (0, 0, 0, 0), 0, 0, []),
  (.getfield 23, (9, 2, 2, 0), 0, 0, []),
  (.aload_n 0, (0, 0, 0, 0), 0, 0, []),
  (.getfield 64, (9, 8, 2, 0), 0, 0, []),
  (.invokevirtual 219, (106, 2, 1, 8), 0, 0, []),
  (.iconst (-1), (0, 0, 0, 0), (-1), 0, []),
  (.if_icmp .eq 7, (28, 0, 0, 0), 0, 0, []),
  (.iconst 1, (0, 0, 0, 0), 1, 0, []),
  (.goto 4, (29, 0, 0, 0), 0, 0, []),
  (.iconst 0, (0, 0, 0, 0), 0, 0, []),
  (.ireturn, (0, 0, 1, 0), 0, 0, []),
  (.aload_n 0, (0, 0, 0, 0), 0, 0, []),
  (.getfield 23, (9, 2, 2, 0), 0, 0, []),
  (.aload_n 0, (0, 0, 0, 0), 0, 0, []),
  (.getfield 64, (9, 8, 2, 0), 0, 0, []),
  (.iload_n 2, (2, 0, 0, 0), 0, 0, []),
  (.invokevirtual 397, (108, 3, 1, 8), 0, 0, []),
  (.ireturn, (0, 0, 1, 0), 0, 0, []),
  (.iconst 0, (0, 0, 0, 0), 0, 0, []),
  (.ireturn, (0, 0, 1, 0), 0, 0, [])]
def q_171 : List Nat := [0, 1, 32, 33, 36, 37, 40, 43, 44, 47, 48, 49, 50, 53, 54, 57, 58, 59, 62, 63, 64, 67, 68, 71, 74, 75, 78, 79, 82, 83, 84, 85, 88, 89, 92, 93, 96, 97, 98, 99]
def m_171 : aMt := (yX10_isSo, cX10_isSo, 4, (some .boolean), 10, 4, 90, (0, 0), 3, k_171, q_171)
def k_172 : List aM := [(.iload_n 1, (1, 0, 0, 0), 0, 0, []),
  (.ifCond .eq 14, (9, 0, 0, 0), 0, 0, []),
  (.iload_n 2, (2, 0, 0, 0), 0, 0, []),
  (.ifCond .eq 8, (7, 0, 0, 0), 0, 0, []),
  (.iload_n 0, (0, 0, 0, 0), 0, 0, []),
  (.ineg, (0, 0, 0, 0), 0, 0, []),
  (.goto 4, (8, 0, 0, 0), 0, 0, []),
  (.iconst 3, (0, 0, 0, 0), 3, 0, []),
  (.ireturn, (0, 0, 0, 0), 0, 0, []),
  (.iload_n 2, (2, 0, 0, 0), 0, 0, []),
  (.ifCond .eq 7, (13, 0, 0, 0), 0, 0, []),
  (.iconst (-1), (0, 0, 0, 0), (-1), 0, []),
  (.goto 4, (14, 0, 0, 0), 0, 0, []),
  (.iconst 1, (0, 0, 0, 0), 1, 0, []),
  (.ireturn, (0, 0, 0, 0), 0, 0, [])]
def q_172 : List Nat := [0, 1, 4, 5, 8, 9, 10, 13, 14, 15, 16, 19, 20, 23, 24, 25]
def m_172 : aMt := (yX10_gain, cX10_gain, 3, (some .int), 10, 0, 0, (0, 0), 3, k_172, q_172)
def k_173 : List aM := [(.iload_n 0, (0, 0, 0, 0), 0, 0, []),
  (.iload_n 1, (1, 0, 0, 0), 0, 0, []),
  (.iload_n 2, (2, 0, 0, 0), 0, 0, []),
  (.invokestatic 295, (172, 3, 1, 99), 0, 0, []),
  (.iload_n 0, (0, 0, 0, 0), 0, 0, []),
  (.iload_n 1, (1, 0, 0, 0), 0, 0, []),
  (.ifCond .ne 7, (9, 0, 0, 0), 0, 0, []),
  (.iconst 1, (0, 0, 0, 0), 1, 0, []),
  (.goto 4, (10, 0, 0, 0), 0, 0, []),
  (.iconst 0, (0, 0, 0, 0), 0, 0, []),
  (.nop, (0, 0, 0, 0), 0, 0, [(0, 1), (0, 1), (0, 1)]),
  (.iload_n 2, (2, 0, 0, 0), 0, 0, []),
  (.invokestatic 295, (172, 3, 1, 99), 0, 0, []),
  (.if_icmp .lt 30, (30, 0, 0, 0), 0, 0, []),
  (.iload_n 0, (0, 0, 0, 0), 0, 0, []),
  (.iload_n 2, (2, 0, 0, 0), 0, 0, []),
  (.iload_n 1, (1, 0, 0, 0), 0, 0, []),
  (.invokestatic 295, (172, 3, 1, 99), 0, 0, []),
  (.iload_n 0, (0, 0, 0, 0), 0, 0, []),
  (.iload_n 2, (2, 0, 0, 0), 0, 0, []),
  (.ifCond .ne 7, (23, 0, 0, 0), 0, 0, []),
  (.iconst 1, (0, 0, 0, 0), 1, 0, []),
  (.goto 4, (24, 0, 0, 0), 0, 0, []),
  (.iconst 0, (0, 0, 0, 0), 0, 0, []),
  (.nop, (0, 0, 0, 0), 0, 0, [(0, 0), (0, 1), (0, 0)]),
  (.iload_n 1, (1, 0, 0, 0), 0, 0, []),
  (.invokestatic 295, (172, 3, 1, 99), 0, 0, []),
  (.if_icmp .lt 7, (30, 0, 0, 0), 0, 0, []),
  (.iconst 1, (0, 0, 0, 0), 1, 0, []),
  (.goto 4, (31, 0, 0, 0), 0, 0, []),
  (.iconst 0, (0, 0, 0, 0), 0, 0, []),
  (.ireturn, (0, 0, 1, 0), 0, 0, [])]
def q_173 : List Nat := [0, 1, 2, 3, 6, 7, 8, 11, 12, 15, 16, 16, 17, 20, 23, 24, 25, 26, 29, 30, 31, 34, 35, 38, 39, 39, 40, 43, 46, 47, 50, 51, 52]
def m_173 : aMt := (yX10_isRest, cX10_isRest, 3, (some .boolean), 10, 1, 22, (0, 0), 3, k_173, q_173)
def k_174 : List aM := [(.aload_n 0, (0, 0, 0, 0), 0, 0, []),
  (.invokespecial 3, (0, 0, 9, 0), 0, 0, []),
  (.aload_n 0, (0, 0, 0, 0), 0, 0, []),
  (.iconst (-1), (0, 0, 0, 0), (-1), 0, []),
  (.putfield 9, (10, 6, 0, 0), 0, 0, []),
  (.aload_n 0, (0, 0, 0, 0), 0, 0, []),
  (.bipush 64, (0, 0, 0, 0), 64, 0, []),
  (.newarray .int, (13, 0, 0, 0), 0, 0, []),
  (.putfield 15, (10, 12, 2, 0), 0, 0, []),
  (.aload_n 0, (0, 0, 0, 0), 0, 0, []),
  (.iconst 4, (0, 0, 0, 0), 4, 0, []),
  (.newarray .int, (13, 0, 0, 0), 0, 0, []),
  (.putfield 19, (10, 13, 2, 0), 0, 0, []),
  (.aload_n 0, (0, 0, 0, 0), 0, 0, []),
  (.iconst 4, (0, 0, 0, 0), 4, 0, []),
  (.newarray .int, (13, 0, 0, 0), 0, 0, []),
  (.putfield 22, (10, 14, 2, 0), 0, 0, []),
  (.aload_n 0, (0, 0, 0, 0), 0, 0, []),
  (.iconst 4, (0, 0, 0, 0), 4, 0, []),
  (.newarray .int, (13, 0, 0, 0), 0, 0, []),
  (.putfield 25, (10, 15, 2, 0), 0, 0, []),
  (.aload_n 0, (0, 0, 0, 0), 0, 0, []),
  (.bipush 36, (0, 0, 0, 0), 36, 0, []),
  (.newarray .int, (13, 0, 0, 0), 0, 0, []),
  (.putfield 28, (10, 16, 2, 0), 0, 0, []),
  (.aload_n 0, (0, 0, 0, 0), 0, 0, []),
  (.bipush 6, (0, 0, 0, 0), 6, 0, []),
  (.newarray .int, (13, 0, 0, 0), 0, 0, []),
  (.putfield 31, (10, 17, 2, 0), 0, 0, []),
  (.aload_n 0, (0, 0, 0, 0), 0, 0, []),
  (.bipush 6, (0, 0, 0, 0), 6, 0, []),
  (.newarray .int, (13, 0, 0, 0), 0, 0, []),
  (.putfield 34, (10, 18, 2, 0), 0, 0, []),
  (.aload_n 0, (0, 0, 0, 0), 0, 0, []),
  (.bipush 6, (0, 0, 0, 0), 6, 0, []),
  (.newarray .int, (13, 0, 0, 0), 0, 0, []),
  (.putfield 37, (10, 19, 2, 0), 0, 0, []),
  (.aload_n 0, (0, 0, 0, 0), 0, 0, []),
  (.bipush 8, (0, 0, 0, 0), 8, 0, []),
  (.newarray .long, (14, 0, 0, 0), 0, 0, []),
  (.putfield 40, (10, 20, 2, 0), 0, 0, []),
  (.aload_n 0, (0, 0, 0, 0), 0, 0, []),
  (.bipush 8, (0, 0, 0, 0), 8, 0, []),
  (.newarray .int, (13, 0, 0, 0), 0, 0, []),
  (.putfield 44, (10, 21, 2, 0), 0, 0, []),
  (.aload_n 0, (0, 0, 0, 0), 0, 0, []),
  (.bipush 8, (0, 0, 0, 0), 8, 0, []),
  (.newarray .int, (13, 0, 0, 0), 0, 0, []),
  (.putfield 47, (10, 22, 2, 0), 0, 0, []),
  (.return_, (0, 0, 0, 0), 0, 0, [])]
def q_174 : List Nat := [0, 1, 4, 5, 6, 9, 10, 12, 14, 17, 18, 19, 21, 24, 25, 26, 28, 31, 32, 33, 35, 38, 39, 41, 43, 46, 47, 49, 51, 54, 55, 57, 59, 62, 63, 65, 67, 70, 71, 73, 75, 78, 79, 81, 83, 86, 87, 89, 91, 94, 95]
def m_174 : aMt := (yX11_init, cX11_init, 1, none, 11, 1, 20, (11, 154), 0, k_174, q_174)
def k_175 : List aM := [(.iconst 0, (0, 0, 0, 0), 0, 0, []),
  (.istore_n 3, (3, 0, 0, 0), 0, 0, []),
  (.nop, (0, 0, 0, 0), 0, 0, [(0, 1), (0, 1), (0, 0), (0, 1)]),
  (.iload_n 3, (3, 0, 0, 0), 0, 0, []),
  (.aload_n 0, (0, 0, 0, 0), 0, 0, []),
  (.getfield 50, (10, 10, 0, 0), 0, 0, []),
  (.if_icmp .ge 22, (18, 0, 0, 0), 0, 0, []),
  (.aload_n 0, (0, 0, 0, 0), 0, 0, []),
  (.getfield 40, (10, 20, 2, 0), 0, 0, []),
  (.iload_n 3, (3, 0, 0, 0), 0, 0, []),
  (.laload, (0, 0, 0, 0), 0, 0, []),
  (.lload_n 1, (1, 0, 0, 0), 0, 0, []),
  (.lcmp, (0, 0, 0, 0), 0, 0, []),
  (.ifCond .ne 5, (16, 0, 0, 0), 0, 0, []),
  (.iload_n 3, (3, 0, 0, 0), 0, 0, []),
  (.ireturn, (0, 0, 0, 0), 0, 0, []),
  (.iinc 3 1, (3, 0, 0, 0), 1, 0, []),
  (.goto (-24), (2, 0, 0, 0), 0, 0, []),
  (.iconst (-1), (0, 0, 0, 0), (-1), 0, []),
  (.ireturn, (0, 0, 0, 0), 0, 0, [])]
def q_175 : List Nat := [0, 1, 2, 2, 3, 4, 7, 10, 11, 14, 15, 16, 17, 18, 21, 22, 23, 26, 29, 30, 31]
def m_175 : aMt := (yX11_find, cX11_find, 4, (some .int), 11, 0, 0, (0, 0), 1, k_175, q_175)
def k_176 : List aM := [(.iconst 0, (0, 0, 0, 0), 0, 0, []),
  (.istore_n 3, (3, 0, 0, 0), 0, 0, []),
  (.nop, (0, 0, 0, 0), 0, 0, [(0, 1), (0, 1), (0, 1), (0, 1)]),
  (.iload_n 3, (3, 0, 0, 0), 0, 0, []),
  (.aload_n 0, (0, 0, 0, 0), 0, 0, []),
  (.getfield 53, (10, 9, 0, 0), 0, 0, []),
  (.if_icmp .ge 31, (23, 0, 0, 0), 0, 0, []),
  (.aload_n 0, (0, 0, 0, 0), 0, 0, []),
  (.getfield 31, (10, 17, 2, 0), 0, 0, []),
  (.iload_n 3, (3, 0, 0, 0), 0, 0, []),
  (.iaload, (13, 0, 0, 0), 0, 0, []),
  (.iload_n 1, (1, 0, 0, 0), 0, 0, []),
  (.if_icmp .ne 15, (21, 0, 0, 0), 0, 0, []),
  (.aload_n 0, (0, 0, 0, 0), 0, 0, []),
  (.getfield 34, (10, 18, 2, 0), 0, 0, []),
  (.iload_n 3, (3, 0, 0, 0), 0, 0, []),
  (.iaload, (13, 0, 0, 0), 0, 0, []),
  (.iload_n 2, (2, 0, 0, 0), 0, 0, []),
  (.if_icmp .ne 5, (21, 0, 0, 0), 0, 0, []),
  (.iconst 1, (0, 0, 0, 0), 1, 0, []),
  (.ireturn, (0, 0, 1, 0), 0, 0, []),
  (.iinc 3 1, (3, 0, 0, 0), 1, 0, []),
  (.goto (-33), (2, 0, 0, 0), 0, 0, []),
  (.iconst 0, (0, 0, 0, 0), 0, 0, []),
  (.ireturn, (0, 0, 1, 0), 0, 0, [])]
def q_176 : List Nat := [0, 1, 2, 2, 3, 4, 7, 10, 11, 14, 15, 16, 17, 20, 21, 24, 25, 26, 27, 30, 31, 32, 35, 38, 39, 40]
def m_176 : aMt := (yX11_isHeard, cX11_isHeard, 4, (some .boolean), 11, 0, 0, (0, 0), 2, k_176, q_176)
def k_177 : List aM := [(.iload_n 1, (1, 0, 0, 0), 0, 0, []),
  (.bipush 8, (0, 0, 0, 0), 8, 0, []),
  (.irem, (0, 0, 0, 0), 0, 0, []),
  (.iload_n 2, (2, 0, 0, 0), 0, 0, []),
  (.iconst 2, (0, 0, 0, 0), 2, 0, []),
  (.if_icmp .ne 7, (8, 0, 0, 0), 0, 0, []),
  (.iconst 1, (0, 0, 0, 0), 1, 0, []),
  (.goto 13, (14, 0, 0, 0), 0, 0, []),
  (.iload_n 2, (2, 0, 0, 0), 0, 0, []),
  (.iconst 4, (0, 0, 0, 0), 4, 0, []),
  (.if_icmp .ne 7, (13, 0, 0, 0), 0, 0, []),
  (.iconst (-1), (0, 0, 0, 0), (-1), 0, []),
  (.goto 4, (14, 0, 0, 0), 0, 0, []),
  (.iconst 0, (0, 0, 0, 0), 0, 0, []),
  (.nop, (0, 0, 0, 0), 0, 0, [(0, 1), (0, 1), (0, 1), (0, 0), (0, 0)]),
  (.iadd, (0, 0, 0, 0), 0, 0, []),
  (.istore_n 3, (3, 0, 0, 0), 0, 0, []),
  (.iload_n 1, (1, 0, 0, 0), 0, 0, []),
  (.bipush 8, (0, 0, 0, 0), 8, 0, []),
  (.idiv, (0, 0, 0, 0), 0, 0, []),
  (.iload_n 2, (2, 0, 0, 0), 0, 0, []),
  (.iconst 3, (0, 0, 0, 0), 3, 0, []),
  (.if_icmp .ne 7, (25, 0, 0, 0), 0, 0, []),
  (.iconst 1, (0, 0, 0, 0), 1, 0, []),
  (.goto 13, (31, 0, 0, 0), 0, 0, []),
  (.iload_n 2, (2, 0, 0, 0), 0, 0, []),
  (.iconst 1, (0, 0, 0, 0), 1, 0, []),
  (.if_icmp .ne 7, (30, 0, 0, 0), 0, 0, []),
  (.iconst (-1), (0, 0, 0, 0), (-1), 0, []),
  (.goto 4, (31, 0, 0, 0), 0, 0, []),
  (.iconst 0, (0, 0, 0, 0), 0, 0, []),
  (.nop, (0, 0, 0, 0), 0, 0, [(0, 1), (0, 0), (0, 0), (0, 1), (0, 0)]),
  (.iadd, (0, 0, 0, 0), 0, 0, []),
  (.istore 4, (4, 0, 0, 0), 0, 0, []),
  (.iload_n 3, (3, 0, 0, 0), 0, 0, []),
  (.ifCond .lt 25, (46, 0, 0, 0), 0, 0, []),
  (.iload_n 3, (3, 0, 0, 0), 0, 0, []),
  (.aload_n 0, (0, 0, 0, 0), 0, 0, []),
  (.getfield 56, (10, 4, 0, 0), 0, 0, []),
  (.if_icmp .ge 17, (46, 0, 0, 0), 0, 0, []),
  (.iload 4, (4, 0, 0, 0), 0, 0, []),
  (.ifCond .lt 12, (46, 0, 0, 0), 0, 0, []),
  (.iload 4, (4, 0, 0, 0), 0, 0, []),
  (.aload_n 0, (0, 0, 0, 0), 0, 0, []),
  (.getfield 59, (10, 5, 0, 0), 0, 0, []),
  (.if_icmp .lt 7, (48, 0, 0, 0), 0, 0, []),
  (.iconst (-1), (0, 0, 0, 0), (-1), 0, []),
  (.goto 10, (53, 0, 0, 0), 0, 0, []),
  (.bipush 8, (0, 0, 0, 0), 8, 0, []),
  (.iload 4, (4, 0, 0, 0), 0, 0, []),
  (.imul, (0, 0, 0, 0), 0, 0, []),
  (.iload_n 3, (3, 0, 0, 0), 0, 0, []),
  (.iadd, (0, 0, 0, 0), 0, 0, []),
  (.ireturn, (0, 0, 0, 0), 0, 0, [])]
def q_177 : List Nat := [0, 1, 3, 4, 5, 6, 9, 10, 13, 14, 15, 18, 19, 22, 23, 23, 24, 25, 26, 28, 29, 30, 31, 34, 35, 38, 39, 40, 43, 44, 47, 48, 48, 49, 51, 52, 55, 56, 57, 60, 63, 65, 68, 70, 71, 74, 77, 78, 81, 83, 85, 86, 87, 88, 89]
def m_177 : aMt := (yX11_next, cX11_next, 5, (some .int), 11, 0, 0, (0, 0), 2, k_177, q_177)
def k_178 : List aM := [(.aload_n 0, (0, 0, 0, 0), 0, 0, []),
  (.getfield 15, (10, 12, 2, 0), 0, 0, []),
  (.iload_n 1, (1, 0, 0, 0), 0, 0, []),
  (.iaload, (13, 0, 0, 0), 0, 0, []),
  (.iconst 3, (0, 0, 0, 0), 3, 0, []),
  (.if_icmp .ne 7, (8, 0, 0, 0), 0, 0, []),
  (.iconst 1, (0, 0, 0, 0), 1, 0, []),
  (.goto 4, (9, 0, 0, 0), 0, 0, []),
  (.iconst 0, (0, 0, 0, 0), 0, 0, []),
  (.ireturn, (0, 0, 1, 0), 0, 0, [])]
def q_178 : List Nat := [0, 1, 4, 5, 6, 7, 10, 11, 14, 15, 16]
def m_178 : aMt := (yX11_isRock, cX11_isRock, 2, (some .boolean), 11, 0, 0, (0, 0), 1, k_178, q_178)
def k_179 : List aM := [(.iload_n 1, (1, 0, 0, 0), 0, 0, []),
  (.iconst (-1), (0, 0, 0, 0), (-1), 0, []),
  (.if_icmp .eq 15, (9, 0, 0, 0), 0, 0, []),
  (.aload_n 0, (0, 0, 0, 0), 0, 0, []),
  (.iload_n 1, (1, 0, 0, 0), 0, 0, []),
  (.invokevirtual 62, (178, 2, 1, 10), 0, 0, []),
  (.ifCond .ne 7, (9, 0, 0, 0), 0, 0, []),
  (.iconst 1, (0, 0, 0, 0), 1, 0, []),
  (.goto 4, (10, 0, 0, 0), 0, 0, []),
  (.iconst 0, (0, 0, 0, 0), 0, 0, []),
  (.ireturn, (0, 0, 1, 0), 0, 0, [])]
def q_179 : List Nat := [0, 1, 2, 5, 6, 7, 10, 13, 14, 17, 18, 19]
def m_179 : aMt := (yX11_isOpen, cX11_isOpen, 2, (some .boolean), 11, 1, 21, (0, 0), 1, k_179, q_179)
def k_180 : List aM := [(.aload_n 0, (0, 0, 0, 0), 0, 0, []),
  (.invokespecial 3, (0, 0, 9, 0), 0, 0, []),
  (.aload_n 0, (0, 0, 0, 0), 0, 0, []),
  (.iconst (-1), (0, 0, 0, 0), (-1), 0, []),
  (.putfield 9, (11, 2, 0, 0), 0, 0, []),
  (.aload_n 0, (0, 0, 0, 0), 0, 0, []),
  (.sipush 700, (0, 0, 0, 0), 700, 0, []),
  (.newarray .byte, (12, 0, 0, 0), 0, 0, []),
  (.putfield 13, (11, 5, 2, 0), 0, 0, []),
  (.aload_n 0, (0, 0, 0, 0), 0, 0, []),
  (.sipush 145, (0, 0, 0, 0), 145, 0, []),
  (.newarray .int, (13, 0, 0, 0), 0, 0, []),
  (.putfield 17, (11, 16, 2, 0), 0, 0, []),
  (.aload_n 0, (0, 0, 0, 0), 0, 0, []),
  (.sipush 145, (0, 0, 0, 0), 145, 0, []),
  (.newarray .int, (13, 0, 0, 0), 0, 0, []),
  (.putfield 21, (11, 17, 2, 0), 0, 0, []),
  (.aload_n 0, (0, 0, 0, 0), 0, 0, []),
  (.sipush 2320, (0, 0, 0, 0), 2320, 0, []),
  (.newarray .int, (13, 0, 0, 0), 0, 0, []),
  (.putfield 24, (11, 18, 2, 0), 0, 0, []),
  (.aload_n 0, (0, 0, 0, 0), 0, 0, []),
  (.sipush 435, (0, 0, 0, 0), 435, 0, []),
  (.newarray .int, (13, 0, 0, 0), 0, 0, []),
  (.putfield 27, (11, 19, 2, 0), 0, 0, []),
  (.aload_n 0, (0, 0, 0, 0), 0, 0, []),
  (.bipush 64, (0, 0, 0, 0), 64, 0, []),
  (.newarray .int, (13, 0, 0, 0), 0, 0, []),
  (.putfield 30, (11, 22, 2, 0), 0, 0, []),
  (.aload_n 0, (0, 0, 0, 0), 0, 0, []),
  (.sipush 320, (0, 0, 0, 0), 320, 0, []),
  (.newarray .boolean, (15, 0, 0, 0), 0, 0, []),
  (.putfield 33, (11, 23, 2, 0), 0, 0, []),
  (.aload_n 0, (0, 0, 0, 0), 0, 0, []),
  (.bipush 64, (0, 0, 0, 0), 64, 0, []),
  (.newarray .boolean, (15, 0, 0, 0), 0, 0, []),
  (.putfield 37, (11, 24, 2, 0), 0, 0, []),
  (.aload_n 0, (0, 0, 0, 0), 0, 0, []),
  (.sipush 128, (0, 0, 0, 0), 128, 0, []),
  (.newarray .int, (13, 0, 0, 0), 0, 0, []),
  (.putfield 40, (11, 25, 2, 0), 0, 0, []),
  (.aload_n 0, (0, 0, 0, 0), 0, 0, []),
  (.sipush 128, (0, 0, 0, 0), 128, 0, []),
  (.newarray .int, (13, 0, 0, 0), 0, 0, []),
  (.putfield 43, (11, 26, 2, 0), 0, 0, []),
  (.aload_n 0, (0, 0, 0, 0), 0, 0, []),
  (.sipush 320, (0, 0, 0, 0), 320, 0, []),
  (.newarray .int, (13, 0, 0, 0), 0, 0, []),
  (.putfield 46, (11, 28, 2, 0), 0, 0, []),
  (.aload_n 0, (0, 0, 0, 0), 0, 0, []),
  (.bipush 64, (0, 0, 0, 0), 64, 0, []),
  (.newarray .int, (13, 0, 0, 0), 0, 0, []),
  (.putfield 49, (11, 29, 2, 0), 0, 0, []),
  (.aload_n 0, (0, 0, 0, 0), 0, 0, []),
  (.bipush 15, (0, 0, 0, 0), 15, 0, []),
  (.newarray .int, (13, 0, 0, 0), 0, 0, []),
  (.putfield 52, (11, 30, 2, 0), 0, 0, []),
  (.return_, (0, 0, 0, 0), 0, 0, [])]
def q_180 : List Nat := [0, 1, 4, 5, 6, 9, 10, 13, 15, 18, 19, 22, 24, 27, 28, 31, 33, 36, 37, 40, 42, 45, 46, 49, 51, 54, 55, 57, 59, 62, 63, 66, 68, 71, 72, 74, 76, 79, 80, 83, 85, 88, 89, 92, 94, 97, 98, 101, 103, 106, 107, 109, 111, 114, 115, 117, 119, 122, 123]
def m_180 : aMt := (yX12_init, cX12_init, 1, none, 12, 1, 20, (13, 4848), 0, k_180, q_180)
def k_181 : List aM := [(.aload_n 0, (0, 0, 0, 0), 0, 0, []),
  (.getfield 55, (11, 0, 0, 0), 0, 0, []),
  (.ireturn, (0, 0, 0, 0), 0, 0, [])]
def q_181 : List Nat := [0, 1, 4, 5]
def m_181 : aMt := (yX12_thrown, cX12_thrown, 1, (some .int), 12, 0, 0, (0, 0), 0, k_181, q_181)
def k_182 : List aM := [(.aload_n 0, (0, 0, 0, 0), 0, 0, []),
  (.iload_n 1, (1, 0, 0, 0), 0, 0, []),
  (.putfield 58, (11, 1, 0, 0), 0, 0, []),
  (.aload_n 0, (0, 0, 0, 0), 0, 0, []),
  (.iconst (-1), (0, 0, 0, 0), (-1), 0, []),
  (.putfield 9, (11, 2, 0, 0), 0, 0, []),
  (.iconst (-1), (0, 0, 0, 0), (-1), 0, []),
  (.ireturn, (0, 0, 0, 0), 0, 0, [])]
def q_182 : List Nat := [0, 1, 2, 5, 6, 7, 10, 11, 12]
def m_182 : aMt := (yX12_refused, cX12_refused, 2, (some .int), 12, 0, 0, (0, 0), 1, k_182, q_182)
def k_183 : List aM := [(.aload_n 0, (0, 0, 0, 0), 0, 0, []),
  (.iload_n 1, (1, 0, 0, 0), 0, 0, []),
  (.invokevirtual 61, (182, 2, 1, 11), 0, 0, []),
  (.pop, (0, 0, 0, 0), 0, 0, []),
  (.bipush (-100), (0, 0, 0, 0), (-100), 0, []),
  (.ireturn, (0, 0, 0, 0), 0, 0, [])]
def q_183 : List Nat := [0, 1, 2, 5, 6, 8, 9]
def m_183 : aMt := (yX12_lost, cX12_lost, 2, (some .int), 12, 1, 21, (0, 0), 1, k_183, q_183)
def k_184 : List aM := [(.aload_n 0, (0, 0, 0, 0), 0, 0, []),
  (.iload_n 1, (1, 0, 0, 0), 0, 0, []),
  (.invokevirtual 61, (182, 2, 1, 11), 0, 0, []),
  (.pop, (0, 0, 0, 0), 0, 0, []),
  (.iconst 0, (0, 0, 0, 0), 0, 0, []),
  (.ireturn, (0, 0, 1, 0), 0, 0, [])]
def q_184 : List Nat := [0, 1, 2, 5, 6, 7, 8]
def m_184 : aMt := (yX12_denied, cX12_denied, 2, (some .boolean), 12, 1, 21, (0, 0), 1, k_184, q_184)
def k_185 : List aM := [(.aload_n 0, (0, 0, 0, 0), 0, 0, []),
  (.iconst 0, (0, 0, 0, 0), 0, 0, []),
  (.putfield 58, (11, 1, 0, 0), 0, 0, []),
  (.aload_n 0, (0, 0, 0, 0), 0, 0, []),
  (.iconst (-1), (0, 0, 0, 0), (-1), 0, []),
  (.putfield 9, (11, 2, 0, 0), 0, 0, []),
  (.iload_n 1, (1, 0, 0, 0), 0, 0, []),
  (.ireturn, (0, 0, 0, 0), 0, 0, [])]
def q_185 : List Nat := [0, 1, 2, 5, 6, 7, 10, 11, 12]
def m_185 : aMt := (yX12_good, cX12_good, 2, (some .int), 12, 0, 0, (0, 0), 1, k_185, q_185)
def k_186 : List aM := [(.aload_n 0, (0, 0, 0, 0), 0, 0, []),
  (.iconst 0, (0, 0, 0, 0), 0, 0, []),
  (.invokevirtual 65, (185, 2, 1, 11), 0, 0, []),
  (.pop, (0, 0, 0, 0), 0, 0, []),
  (.iconst 1, (0, 0, 0, 0), 1, 0, []),
  (.ireturn, (0, 0, 1, 0), 0, 0, [])]
def q_186 : List Nat := [0, 1, 2, 5, 6, 7, 8]
def m_186 : aMt := (yX12_granted, cX12_granted, 1, (some .boolean), 12, 1, 21, (0, 0), 0, k_186, q_186)
def k_187 : List aM := [(.iload_n 0, (0, 0, 0, 0), 0, 0, []),
  (.iload_n 1, (1, 0, 0, 0), 0, 0, []),
  (.if_icmp .lt 12, (8, 0, 0, 0), 0, 0, []),
  (.iload_n 0, (0, 0, 0, 0), 0, 0, []),
  (.iload_n 2, (2, 0, 0, 0), 0, 0, []),
  (.if_icmp .gt 7, (8, 0, 0, 0), 0, 0, []),
  (.iconst 1, (0, 0, 0, 0), 1, 0, []),
  (.goto 4, (9, 0, 0, 0), 0, 0, []),
  (.iconst 0, (0, 0, 0, 0), 0, 0, []),
  (.ireturn, (0, 0, 1, 0), 0, 0, [])]
def q_187 : List Nat := [0, 1, 2, 5, 6, 7, 10, 11, 14, 15, 16]
def m_187 : aMt := (yX12_in, cX12_in, 3, (some .boolean), 12, 0, 0, (0, 0), 3, k_187, q_187)
def k_188 : List aM := [(.iload_n 0, (0, 0, 0, 0), 0, 0, []),
  (.iload_n 1, (1, 0, 0, 0), 0, 0, []),
  (.ishr, (0, 0, 0, 0), 0, 0, []),
  (.iconst 1, (0, 0, 0, 0), 1, 0, []),
  (.iand, (0, 0, 0, 0), 0, 0, []),
  (.iconst 1, (0, 0, 0, 0), 1, 0, []),
  (.if_icmp .ne 7, (9, 0, 0, 0), 0, 0, []),
  (.iconst 1, (0, 0, 0, 0), 1, 0, []),
  (.goto 4, (10, 0, 0, 0), 0, 0, []),
  (.iconst 0, (0, 0, 0, 0), 0, 0, []),
  (.ireturn, (0, 0, 1, 0), 0, 0, [])]
def q_188 : List Nat := [0, 1, 2, 3, 4, 5, 6, 9, 10, 13, 14, 15]
def m_188 : aMt := (yX12_bit, cX12_bit, 2, (some .boolean), 12, 0, 0, (0, 0), 2, k_188, q_188)
def k_189 : List aM := [(.lload_n 0, (0, 0, 0, 0), 0, 0, []),
  (.lstore 4, (4, 0, 0, 0), 0, 0, []),
  (.lload_n 2, (2, 0, 0, 0), 0, 0, []),
  (.lstore 6, (6, 0, 0, 0), 0, 0, []),
  (.nop, (0, 0, 0, 0), 0, 0, [(0, 0), (0, 0), (0, 0), (0, 0), (0, 1), (0, 0), (0, 1), (0, 0), (0, 0), (0, 0)]),
  (.lload 6, (6, 0, 0, 0), 0, 0, []),
  (.lconst 0, (0, 0, 0, 0), 0, 0, []),
  (.lcmp, (0, 0, 0, 0), 0, 0, []),
  (.ifCond .eq 21, (18, 0, 0, 0), 0, 0, []),
  (.lload 4, (4, 0, 0, 0), 0, 0, []),
  (.lload 6, (6, 0, 0, 0), 0, 0, []),
  (.lrem, (0, 0, 0, 0), 0, 0, []),
  (.lstore 8, (8, 0, 0, 0), 0, 0, []),
  (.lload 6, (6, 0, 0, 0), 0, 0, []),
  (.lstore 4, (4, 0, 0, 0), 0, 0, []),
  (.lload 8, (8, 0, 0, 0), 0, 0, []),
  (.lstore 6, (6, 0, 0, 0), 0, 0, []),
  (.goto (-22), (4, 0, 0, 0), 0, 0, []),
  (.lload 4, (4, 0, 0, 0), 0, 0, []),
  (.lreturn, (0, 0, 0, 0), 0, 0, [])]
def q_189 : List Nat := [0, 1, 3, 4, 6, 6, 8, 9, 10, 13, 15, 17, 18, 20, 22, 24, 26, 28, 31, 33, 34]
def m_189 : aMt := (yX12_common, cX12_common, 10, (some .long), 12, 0, 0, (0, 0), 2, k_189, q_189)
def k_190 : List aM := [(.aload_n 0, (0, 0, 0, 0), 0, 0, []),
  (.iconst 0, (0, 0, 0, 0), 0, 0, []),
  (.invokevirtual 65, (185, 2, 1, 11), 0, 0, []),
  (.pop, (0, 0, 0, 0), 0, 0, []),
  (.iload 5, (5, 0, 0, 0), 0, 0, []),
  (.ifCond .eq 7, (8, 0, 0, 0), 0, 0, []),
  (.lload_n 3, (3, 0, 0, 0), 0, 0, []),
  (.goto 4, (9, 0, 0, 0), 0, 0, []),
  (.lload_n 1, (1, 0, 0, 0), 0, 0, []),
  (.nop, (0, 0, 0, 0), 0, 0, [(0, 0), (0, 1), (0, 0), (0, 1), (0, 0), (0, 0)]),
  (.lload_n 1, (1, 0, 0, 0), 0, 0, []),
  (.lload_n 3, (3, 0, 0, 0), 0, 0, []),
  (.invokestatic 68, (189, 2, 2, 99), 0, 0, []),
  (.ldiv, (0, 0, 0, 0), 0, 0, []),
  (.lreturn, (0, 0, 0, 0), 0, 0, [])]
def q_190 : List Nat := [0, 1, 2, 5, 6, 8, 11, 12, 15, 16, 16, 17, 18, 21, 22, 23]
def m_190 : aMt := (yX12_fraction, cX12_fraction, 6, (some .long), 12, 1, 29, (0, 0), 3, k_190, q_190)
def k_191 : List aM := [(.iload_n 0, (0, 0, 0, 0), 0, 0, []),
  (.bipush 8, (0, 0, 0, 0), 8, 0, []),
  (.irem, (0, 0, 0, 0), 0, 0, []),
  (.iload_n 1, (1, 0, 0, 0), 0, 0, []),
  (.bipush 8, (0, 0, 0, 0), 8, 0, []),
  (.irem, (0, 0, 0, 0), 0, 0, []),
  (.isub, (0, 0, 0, 0), 0, 0, []),
  (.istore_n 2, (2, 0, 0, 0), 0, 0, []),
  (.iload_n 0, (0, 0, 0, 0), 0, 0, []),
  (.bipush 8, (0, 0, 0, 0), 8, 0, []),
  (.idiv, (0, 0, 0, 0), 0, 0, []),
  (.iload_n 1, (1, 0, 0, 0), 0, 0, []),
  (.bipush 8, (0, 0, 0, 0), 8, 0, []),
  (.idiv, (0, 0, 0, 0), 0, 0, []),
  (.isub, (0, 0, 0, 0), 0, 0, []),
  (.istore_n 3, (3, 0, 0, 0), 0, 0, []),
  (.iload_n 2, (2, 0, 0, 0), 0, 0, []),
  (.ifCond .ge 8, (21, 0, 0, 0), 0, 0, []),
  (.iload_n 2, (2, 0, 0, 0), 0, 0, []),
  (.ineg, (0, 0, 0, 0), 0, 0, []),
  (.goto 4, (22, 0, 0, 0), 0, 0, []),
  (.iload_n 2, (2, 0, 0, 0), 0, 0, []),
  (.nop, (0, 0, 0, 0), 0, 0, [(0, 0), (0, 0), (0, 0), (0, 1)]),
  (.iload_n 3, (3, 0, 0, 0), 0, 0, []),
  (.ifCond .ge 8, (28, 0, 0, 0), 0, 0, []),
  (.iload_n 3, (3, 0, 0, 0), 0, 0, []),
  (.ineg, (0, 0, 0, 0), 0, 0, []),
  (.goto 4, (29, 0, 0, 0), 0, 0, []),
  (.iload_n 3, (3, 0, 0, 0), 0, 0, []),
  (.iadd, (0, 0, 0, 0), 0, 0, []),
  (.ireturn, (0, 0, 0, 0), 0, 0, [])]
def q_191 : List Nat := [0, 1, 3, 4, 5, 7, 8, 9, 10, 11, 13, 14, 15, 17, 18, 19, 20, 21, 24, 25, 26, 29, 30, 30, 31, 34, 35, 36, 39, 40, 41, 42]
def m_191 : aMt := (yX12_apart, cX12_apart, 4, (some .int), 12, 0, 0, (0, 0), 2, k_191, q_191)
def k_192 : List aM := [(.iload_n 1, (1, 0, 0, 0), 0, 0, []),
  (.aload_n 0, (0, 0, 0, 0), 0, 0, []),
  (.getfield 72, (11, 7, 0, 0), 0, 0, []),
  (.if_icmp .ge 16, (11, 0, 0, 0), 0, 0, []),
  (.aload_n 0, (0, 0, 0, 0), 0, 0, []),
  (.getfield 13, (11, 5, 2, 0), 0, 0, []),
  (.iload_n 1, (1, 0, 0, 0), 0, 0, []),
  (.baload, (12, 0, 0, 0), 0, 0, []),
  (.sipush 255, (0, 0, 0, 0), 255, 0, []),
  (.iand, (0, 0, 0, 0), 0, 0, []),
  (.goto 4, (12, 0, 0, 0), 0, 0, []),
  (.iconst (-1), (0, 0, 0, 0), (-1), 0, []),
  (.ireturn, (0, 0, 0, 0), 0, 0, [])]
def q_192 : List Nat := [0, 1, 2, 5, 8, 9, 12, 13, 14, 17, 18, 21, 22, 23]
def m_192 : aMt := (yX12_byteAt, cX12_byteAt, 2, (some .int), 12, 0, 0, (0, 0), 1, k_192, q_192)
def k_193 : List aM := [(.iload_n 0, (0, 0, 0, 0), 0, 0, []),
  (.bipush 97, (0, 0, 0, 0), 97, 0, []),
  (.if_icmp .lt 13, (8, 0, 0, 0), 0, 0, []),
  (.iload_n 0, (0, 0, 0, 0), 0, 0, []),
  (.bipush 122, (0, 0, 0, 0), 122, 0, []),
  (.if_icmp .gt 7, (8, 0, 0, 0), 0, 0, []),
  (.iconst 1, (0, 0, 0, 0), 1, 0, []),
  (.goto 4, (9, 0, 0, 0), 0, 0, []),
  (.iconst 0, (0, 0, 0, 0), 0, 0, []),
  (.ireturn, (0, 0, 1, 0), 0, 0, [])]
def q_193 : List Nat := [0, 1, 3, 6, 7, 9, 12, 13, 16, 17, 18]
def m_193 : aMt := (yX12_isLetter, cX12_isLetter, 1, (some .boolean), 12, 0, 0, (0, 0), 1, k_193, q_193)
def k_194 : List aM := [(.iload_n 0, (0, 0, 0, 0), 0, 0, []),
  (.bipush 48, (0, 0, 0, 0), 48, 0, []),
  (.if_icmp .lt 13, (8, 0, 0, 0), 0, 0, []),
  (.iload_n 0, (0, 0, 0, 0), 0, 0, []),
  (.bipush 57, (0, 0, 0, 0), 57, 0, []),
  (.if_icmp .gt 7, (8, 0, 0, 0), 0, 0, []),
  (.iconst 1, (0, 0, 0, 0), 1, 0, []),
  (.goto 4, (9, 0, 0, 0), 0, 0, []),
  (.iconst 0, (0, 0, 0, 0), 0, 0, []),
  (.ireturn, (0, 0, 1, 0), 0, 0, [])]
def q_194 : List Nat := [0, 1, 3, 6, 7, 9, 12, 13, 16, 17, 18]
def m_194 : aMt := (yX12_isDigit, cX12_isDigit, 1, (some .boolean), 12, 0, 0, (0, 0), 1, k_194, q_194)
def k_195 : List aM := [(.lconst 0, (0, 0, 0, 0), 0, 0, []),
  (.lstore_n 1, (1, 0, 0, 0), 0, 0, []),
  (.iconst 0, (0, 0, 0, 0), 0, 0, []),
  (.istore_n 3, (3, 0, 0, 0), 0, 0, []),
  (.nop, (0, 0, 0, 0), 0, 0, [(0, 1), (0, 1), (0, 0), (0, 1)]),
  (.iload_n 3, (3, 0, 0, 0), 0, 0, []),
  (.aload_n 0, (0, 0, 0, 0), 0, 0, []),
  (.invokevirtual 75, (903, 1, 1, 99), 0, 0, []),
  (.if_icmp .ge 27, (24, 0, 0, 0), 0, 0, []),
  (.ldc2_w 81, (0, 0, 0, 0), 0, 32, []),
  (.lload_n 1, (1, 0, 0, 0), 0, 0, []),
  (.lmul, (0, 0, 0, 0), 0, 0, []),
  (.aload_n 0, (0, 0, 0, 0), 0, 0, []),
  (.iload_n 3, (3, 0, 0, 0), 0, 0, []),
  (.invokevirtual 83, (904, 2, 1, 99), 0, 0, []),
  (.bipush 97, (0, 0, 0, 0), 97, 0, []),
  (.isub, (0, 0, 0, 0), 0, 0, []),
  (.iconst 1, (0, 0, 0, 0), 1, 0, []),
  (.iadd, (0, 0, 0, 0), 0, 0, []),
  (.i2l, (0, 0, 0, 0), 0, 0, []),
  (.ladd, (0, 0, 0, 0), 0, 0, []),
  (.lstore_n 1, (1, 0, 0, 0), 0, 0, []),
  (.iinc 3 1, (3, 0, 0, 0), 1, 0, []),
  (.goto (-29), (4, 0, 0, 0), 0, 0, []),
  (.lload_n 1, (1, 0, 0, 0), 0, 0, []),
  (.lreturn, (0, 0, 0, 0), 0, 0, [])]
def q_195 : List Nat := [0, 1, 2, 3, 4, 4, 5, 6, 9, 12, 15, 16, 17, 18, 19, 22, 24, 25, 26, 27, 28, 29, 30, 33, 36, 37, 38]
def m_195 : aMt := (yX12_packed, cX12_packed, 4, (some .long), 12, 6, 200, (0, 0), 1, k_195, q_195)
def k_196 : List aM := [(.aload_n 0, (0, 0, 0, 0), 0, 0, []),
  (.getfield 87, (11, 9, 0, 0), 0, 0, []),
  (.iconst 5, (0, 0, 0, 0), 5, 0, []),
  (.if_icmp .ne 4, (5, 0, 0, 0), 0, 0, []),
  (.return_, (0, 0, 0, 0), 0, 0, []),
  (.nop, (0, 0, 0, 0), 0, 0, [(0, 1), (0, 0), (0, 0)]),
  (.aload_n 0, (0, 0, 0, 0), 0, 0, []),
  (.aload_n 0, (0, 0, 0, 0), 0, 0, []),
  (.getfield 90, (11, 8, 0, 0), 0, 0, []),
  (.invokevirtual 93, (192, 2, 1, 11), 0, 0, []),
  (.bipush 32, (0, 0, 0, 0), 32, 0, []),
  (.if_icmp .ne 16, (19, 0, 0, 0), 0, 0, []),
  (.aload_n 0, (0, 0, 0, 0), 0, 0, []),
  (.dup, (0, 0, 0, 0), 0, 0, []),
  (.getfield 90, (11, 8, 0, 0), 0, 0, []),
  (.iconst 1, (0, 0, 0, 0), 1, 0, []),
  (.iadd, (0, 0, 0, 0), 0, 0, []),
  (.putfield 90, (11, 8, 0, 0), 0, 0, []),
  (.goto (-23), (5, 0, 0, 0), 0, 0, []),
  (.aload_n 0, (0, 0, 0, 0), 0, 0, []),
  (.aload_n 0, (0, 0, 0, 0), 0, 0, []),
  (.getfield 90, (11, 8, 0, 0), 0, 0, []),
  (.putfield 96, (11, 10, 0, 0), 0, 0, []),
  (.aload_n 0, (0, 0, 0, 0), 0, 0, []),
  (.iconst 0, (0, 0, 0, 0), 0, 0, []),
  (.putfield 87, (11, 9, 0, 0), 0, 0, []),
  (.aload_n 0, (0, 0, 0, 0), 0, 0, []),
  (.aload_n 0, (0, 0, 0, 0), 0, 0, []),
  (.getfield 90, (11, 8, 0, 0), 0, 0, []),
  (.invokevirtual 93, (192, 2, 1, 11), 0, 0, []),
  (.istore_n 1, (1, 0, 0, 0), 0, 0, []),
  (.iconst 0, (0, 0, 0, 0), 0, 0, []),
  (.istore_n 2, (2, 0, 0, 0), 0, 0, []),
  (.iload_n 1, (1, 0, 0, 0), 0, 0, []),
  (.iconst (-1), (0, 0, 0, 0), (-1), 0, []),
  (.if_icmp .ne 11, (40, 0, 0, 0), 0, 0, []),
  (.aload_n 0, (0, 0, 0, 0), 0, 0, []),
  (.iconst 1, (0, 0, 0, 0), 1, 0, []),
  (.putfield 87, (11, 9, 0, 0), 0, 0, []),
  (.goto 201, (148, 0, 0, 0), 0, 0, []),
  (.iload_n 1, (1, 0, 0, 0), 0, 0, []),
  (.invokestatic 99, (193, 1, 1, 99), 0, 0, []),
  (.ifCond .eq 90, (91, 0, 0, 0), 0, 0, []),
  (.aload_n 0, (0, 0, 0, 0), 0, 0, []),
  (.lconst 0, (0, 0, 0, 0), 0, 0, []),
  (.putfield 103, (11, 15, 1, 0), 0, 0, []),
  (.nop, (0, 0, 0, 0), 0, 0, [(0, 1), (0, 0), (0, 1)]),
  (.aload_n 0, (0, 0, 0, 0), 0, 0, []),
  (.aload_n 0, (0, 0, 0, 0), 0, 0, []),
  (.getfield 90, (11, 8, 0, 0), 0, 0, []),
  (.invokevirtual 93, (192, 2, 1, 11), 0, 0, []),
  (.invokestatic 99, (193, 1, 1, 99), 0, 0, []),
  (.ifCond .eq 52, (81, 0, 0, 0), 0, 0, []),
  (.iload_n 2, (2, 0, 0, 0), 0, 0, []),
  (.bipush 8, (0, 0, 0, 0), 8, 0, []),
  (.if_icmp .ge 30, (72, 0, 0, 0), 0, 0, []),
  (.aload_n 0, (0, 0, 0, 0), 0, 0, []),
  (.ldc2_w 81, (0, 0, 0, 0), 0, 32, []),
  (.aload_n 0, (0, 0, 0, 0), 0, 0, []),
  (.getfield 103, (11, 15, 1, 0), 0, 0, []),
  (.lmul, (0, 0, 0, 0), 0, 0, []),
  (.aload_n 0, (0, 0, 0, 0), 0, 0, []),
  (.aload_n 0, (0, 0, 0, 0), 0, 0, []),
  (.getfield 90, (11, 8, 0, 0), 0, 0, []),
  (.invokevirtual 93, (192, 2, 1, 11), 0, 0, []),
  (.bipush 97, (0, 0, 0, 0), 97, 0, []),
  (.isub, (0, 0, 0, 0), 0, 0, []),
  (.iconst 1, (0, 0, 0, 0), 1, 0, []),
  (.iadd, (0, 0, 0, 0), 0, 0, []),
  (.i2l, (0, 0, 0, 0), 0, 0, []),
  (.ladd, (0, 0, 0, 0), 0, 0, []),
  (.putfield 103, (11, 15, 1, 0), 0, 0, []),
  (.nop, (0, 0, 0, 0), 0, 0, [(0, 1), (0, 0), (0, 1)]),
  (.iinc 2 1, (2, 0, 0, 0), 1, 0, []),
  (.aload_n 0, (0, 0, 0, 0), 0, 0, []),
  (.dup, (0, 0, 0, 0), 0, 0, []),
  (.getfield 90, (11, 8, 0, 0), 0, 0, []),
  (.iconst 1, (0, 0, 0, 0), 1, 0, []),
  (.iadd, (0, 0, 0, 0), 0, 0, []),
  (.putfield 90, (11, 8, 0, 0), 0, 0, []),
  (.goto (-60), (46, 0, 0, 0), 0, 0, []),
  (.aload_n 0, (0, 0, 0, 0), 0, 0, []),
  (.iload_n 2, (2, 0, 0, 0), 0, 0, []),
  (.putfield 107, (11, 14, 0, 0), 0, 0, []),
  (.iload_n 2, (2, 0, 0, 0), 0, 0, []),
  (.bipush 8, (0, 0, 0, 0), 8, 0, []),
  (.if_icmp .gt 115, (148, 0, 0, 0), 0, 0, []),
  (.aload_n 0, (0, 0, 0, 0), 0, 0, []),
  (.iconst 2, (0, 0, 0, 0), 2, 0, []),
  (.putfield 87, (11, 9, 0, 0), 0, 0, []),
  (.goto 107, (148, 0, 0, 0), 0, 0, []),
  (.iload_n 1, (1, 0, 0, 0), 0, 0, []),
  (.invokestatic 110, (194, 1, 1, 99), 0, 0, []),
  (.ifCond .eq 79, (136, 0, 0, 0), 0, 0, []),
  (.aload_n 0, (0, 0, 0, 0), 0, 0, []),
  (.iconst 0, (0, 0, 0, 0), 0, 0, []),
  (.putfield 113, (11, 11, 0, 0), 0, 0, []),
  (.nop, (0, 0, 0, 0), 0, 0, [(0, 1), (0, 0), (0, 1)]),
  (.aload_n 0, (0, 0, 0, 0), 0, 0, []),
  (.aload_n 0, (0, 0, 0, 0), 0, 0, []),
  (.getfield 90, (11, 8, 0, 0), 0, 0, []),
  (.invokevirtual 93, (192, 2, 1, 11), 0, 0, []),
  (.invokestatic 110, (194, 1, 1, 99), 0, 0, []),
  (.ifCond .eq 47, (129, 0, 0, 0), 0, 0, []),
  (.iload_n 2, (2, 0, 0, 0), 0, 0, []),
  (.iconst 3, (0, 0, 0, 0), 3, 0, []),
  (.if_icmp .ge 26, (120, 0, 0, 0), 0, 0, []),
  (.aload_n 0, (0, 0, 0, 0), 0, 0, []),
  (.bipush 10, (0, 0, 0, 0), 10, 0, []),
  (.aload_n 0, (0, 0, 0, 0), 0, 0, []),
  (.getfield 113, (11, 11, 0, 0), 0, 0, []),
  (.imul, (0, 0, 0, 0), 0, 0, []),
  (.aload_n 0, (0, 0, 0, 0), 0, 0, []),
  (.aload_n 0, (0, 0, 0, 0), 0, 0, []),
  (.getfield 90, (11, 8, 0, 0), 0, 0, []),
  (.invokevirtual 93, (192, 2, 1, 11), 0, 0, []),
  (.iadd, (0, 0, 0, 0), 0, 0, []),
  (.bipush 48, (0, 0, 0, 0), 48, 0, []),
  (.isub, (0, 0, 0, 0), 0, 0, []),
  (.putfield 113, (11, 11, 0, 0), 0, 0, []),
  (.nop, (0, 0, 0, 0), 0, 0, [(0, 1), (0, 0), (0, 1)]),
  (.iinc 2 1, (2, 0, 0, 0), 1, 0, []),
  (.aload_n 0, (0, 0, 0, 0), 0, 0, []),
  (.dup, (0, 0, 0, 0), 0, 0, []),
  (.getfield 90, (11, 8, 0, 0), 0, 0, []),
  (.iconst 1, (0, 0, 0, 0), 1, 0, []),
  (.iadd, (0, 0, 0, 0), 0, 0, []),
  (.putfield 90, (11, 8, 0, 0), 0, 0, []),
  (.goto (-55), (97, 0, 0, 0), 0, 0, []),
  (.iload_n 2, (2, 0, 0, 0), 0, 0, []),
  (.iconst 3, (0, 0, 0, 0), 3, 0, []),
  (.if_icmp .gt 32, (148, 0, 0, 0), 0, 0, []),
  (.aload_n 0, (0, 0, 0, 0), 0, 0, []),
  (.iconst 3, (0, 0, 0, 0), 3, 0, []),
  (.putfield 87, (11, 9, 0, 0), 0, 0, []),
  (.goto 24, (148, 0, 0, 0), 0, 0, []),
  (.iload_n 1, (1, 0, 0, 0), 0, 0, []),
  (.bipush 59, (0, 0, 0, 0), 59, 0, []),
  (.if_icmp .ne 18, (148, 0, 0, 0), 0, 0, []),
  (.aload_n 0, (0, 0, 0, 0), 0, 0, []),
  (.iconst 4, (0, 0, 0, 0), 4, 0, []),
  (.putfield 87, (11, 9, 0, 0), 0, 0, []),
  (.aload_n 0, (0, 0, 0, 0), 0, 0, []),
  (.dup, (0, 0, 0, 0), 0, 0, []),
  (.getfield 90, (11, 8, 0, 0), 0, 0, []),
  (.iconst 1, (0, 0, 0, 0), 1, 0, []),
  (.iadd, (0, 0, 0, 0), 0, 0, []),
  (.putfield 90, (11, 8, 0, 0), 0, 0, []),
  (.return_, (0, 0, 0, 0), 0, 0, [])]
def q_196 : List Nat := [0, 1, 4, 5, 8, 9, 9, 10, 11, 14, 17, 19, 22, 23, 24, 27, 28, 29, 32, 35, 36, 37, 40, 43, 44, 45, 48, 49, 50, 53, 56, 57, 58, 59, 60, 61, 64, 65, 66, 69, 72, 73, 76, 79, 80, 81, 84, 84, 85, 86, 89, 92, 95, 98, 99, 101, 104, 105, 108, 109, 112, 113, 114, 115, 118, 121, 123, 124, 125, 126, 127, 128, 131, 131, 134, 135, 136, 139, 140, 141, 144, 147, 148, 149, 152, 153, 155, 158, 159, 160, 163, 166, 167, 170, 173, 174, 175, 178, 178, 179, 180, 183, 186, 189, 192, 193, 194, 197, 198, 200, 201, 204, 205, 206, 207, 210, 213, 214, 216, 217, 220, 220, 223, 224, 225, 228, 229, 230, 233, 236, 237, 238, 241, 242, 243, 246, 249, 250, 252, 255, 256, 257, 260, 261, 262, 265, 266, 267, 270, 271]
def m_196 : aMt := (yX12_goesOn, cX12_goesOn, 3, none, 12, 1, 21, (0, 0), 0, k_196, q_196)
def k_197 : List aM := [(.aload_n 0, (0, 0, 0, 0), 0, 0, []),
  (.getfield 87, (11, 9, 0, 0), 0, 0, []),
  (.iconst 5, (0, 0, 0, 0), 5, 0, []),
  (.if_icmp .ne 4, (5, 0, 0, 0), 0, 0, []),
  (.return_, (0, 0, 0, 0), 0, 0, []),
  (.aload_n 0, (0, 0, 0, 0), 0, 0, []),
  (.iload_n 1, (1, 0, 0, 0), 0, 0, []),
  (.putfield 116, (11, 12, 0, 0), 0, 0, []),
  (.aload_n 0, (0, 0, 0, 0), 0, 0, []),
  (.aload_n 0, (0, 0, 0, 0), 0, 0, []),
  (.getfield 96, (11, 10, 0, 0), 0, 0, []),
  (.putfield 119, (11, 13, 0, 0), 0, 0, []),
  (.aload_n 0, (0, 0, 0, 0), 0, 0, []),
  (.iconst 5, (0, 0, 0, 0), 5, 0, []),
  (.putfield 87, (11, 9, 0, 0), 0, 0, []),
  (.return_, (0, 0, 0, 0), 0, 0, [])]
def q_197 : List Nat := [0, 1, 4, 5, 8, 9, 10, 11, 14, 15, 16, 19, 22, 23, 24, 27, 28]
def m_197 : aMt := (yX12_flaw, cX12_flaw, 2, none, 12, 0, 0, (0, 0), 1, k_197, q_197)
def k_198 : List aM := [(.aload_n 0, (0, 0, 0, 0), 0, 0, []),
  (.getfield 87, (11, 9, 0, 0), 0, 0, []),
  (.iconst 2, (0, 0, 0, 0), 2, 0, []),
  (.if_icmp .ne 19, (12, 0, 0, 0), 0, 0, []),
  (.aload_n 0, (0, 0, 0, 0), 0, 0, []),
  (.getfield 103, (11, 15, 1, 0), 0, 0, []),
  (.aload_n 1, (1, 0, 0, 0), 0, 0, []),
  (.invokestatic 122, (195, 1, 2, 99), 0, 0, []),
  (.lcmp, (0, 0, 0, 0), 0, 0, []),
  (.ifCond .ne 7, (12, 0, 0, 0), 0, 0, []),
  (.iconst 1, (0, 0, 0, 0), 1, 0, []),
  (.goto 4, (13, 0, 0, 0), 0, 0, []),
  (.iconst 0, (0, 0, 0, 0), 0, 0, []),
  (.ireturn, (0, 0, 1, 0), 0, 0, [])]
def q_198 : List Nat := [0, 1, 4, 5, 8, 9, 12, 13, 16, 17, 20, 21, 24, 25, 26]
def m_198 : aMt := (yX12_isWord, cX12_isWord, 2, (some .boolean), 12, 7, 223, (0, 0), 1, k_198, q_198)
def k_199 : List aM := [(.aload_n 0, (0, 0, 0, 0), 0, 0, []),
  (.getfield 87, (11, 9, 0, 0), 0, 0, []),
  (.iconst 4, (0, 0, 0, 0), 4, 0, []),
  (.if_icmp .ne 7, (6, 0, 0, 0), 0, 0, []),
  (.iconst 1, (0, 0, 0, 0), 1, 0, []),
  (.goto 4, (7, 0, 0, 0), 0, 0, []),
  (.iconst 0, (0, 0, 0, 0), 0, 0, []),
  (.nop, (0, 0, 0, 0), 0, 0, [(0, 1), (0, 0)]),
  (.istore_n 1, (1, 0, 0, 0), 0, 0, []),
  (.iload_n 1, (1, 0, 0, 0), 0, 0, []),
  (.ifCond .eq 7, (13, 0, 0, 0), 0, 0, []),
  (.aload_n 0, (0, 0, 0, 0), 0, 0, []),
  (.invokevirtual 126, (196, 1, 0, 11), 0, 0, []),
  (.iload_n 1, (1, 0, 0, 0), 0, 0, []),
  (.ireturn, (0, 0, 1, 0), 0, 0, [])]
def q_199 : List Nat := [0, 1, 4, 5, 8, 9, 12, 13, 13, 14, 15, 18, 19, 22, 23, 24]
def m_199 : aMt := (yX12_eatsSemicolon, cX12_eatsSemicolon, 2, (some .boolean), 12, 2, 43, (0, 0), 0, k_199, q_199)
def k_200 : List aM := [(.aload_n 0, (0, 0, 0, 0), 0, 0, []),
  (.aload_n 1, (1, 0, 0, 0), 0, 0, []),
  (.invokevirtual 129, (198, 2, 1, 11), 0, 0, []),
  (.ifCond .ne 8, (7, 0, 0, 0), 0, 0, []),
  (.aload_n 0, (0, 0, 0, 0), 0, 0, []),
  (.iconst 1, (0, 0, 0, 0), 1, 0, []),
  (.invokevirtual 133, (197, 2, 0, 11), 0, 0, []),
  (.nop, (0, 0, 0, 0), 0, 0, [(0, 1), (0, 0)]),
  (.aload_n 0, (0, 0, 0, 0), 0, 0, []),
  (.invokevirtual 126, (196, 1, 0, 11), 0, 0, []),
  (.return_, (0, 0, 0, 0), 0, 0, [])]
def q_200 : List Nat := [0, 1, 2, 5, 8, 9, 10, 13, 13, 14, 17, 18]
def m_200 : aMt := (yX12_needs, cX12_needs, 2, none, 12, 8, 244, (0, 0), 1, k_200, q_200)
def k_201 : List aM := [(.aload_n 0, (0, 0, 0, 0), 0, 0, []),
  (.getfield 87, (11, 9, 0, 0), 0, 0, []),
  (.iconst 3, (0, 0, 0, 0), 3, 0, []),
  (.if_icmp .eq 11, (8, 0, 0, 0), 0, 0, []),
  (.aload_n 0, (0, 0, 0, 0), 0, 0, []),
  (.iconst 1, (0, 0, 0, 0), 1, 0, []),
  (.invokevirtual 133, (197, 2, 0, 11), 0, 0, []),
  (.goto 20, (17, 0, 0, 0), 0, 0, []),
  (.aload_n 0, (0, 0, 0, 0), 0, 0, []),
  (.getfield 113, (11, 11, 0, 0), 0, 0, []),
  (.iload_n 1, (1, 0, 0, 0), 0, 0, []),
  (.iload_n 2, (2, 0, 0, 0), 0, 0, []),
  (.invokestatic 137, (187, 3, 1, 99), 0, 0, []),
  (.ifCond .ne 8, (17, 0, 0, 0), 0, 0, []),
  (.aload_n 0, (0, 0, 0, 0), 0, 0, []),
  (.iconst 4, (0, 0, 0, 0), 4, 0, []),
  (.invokevirtual 133, (197, 2, 0, 11), 0, 0, []),
  (.nop, (0, 0, 0, 0), 0, 0, [(0, 1), (0, 1), (0, 0)]),
  (.aload_n 0, (0, 0, 0, 0), 0, 0, []),
  (.getfield 87, (11, 9, 0, 0), 0, 0, []),
  (.iconst 5, (0, 0, 0, 0), 5, 0, []),
  (.if_icmp .ne 7, (24, 0, 0, 0), 0, 0, []),
  (.iload_n 1, (1, 0, 0, 0), 0, 0, []),
  (.goto 7, (26, 0, 0, 0), 0, 0, []),
  (.aload_n 0, (0, 0, 0, 0), 0, 0, []),
  (.getfield 113, (11, 11, 0, 0), 0, 0, []),
  (.ireturn, (0, 0, 0, 0), 0, 0, [])]
def q_201 : List Nat := [0, 1, 4, 5, 8, 9, 10, 13, 16, 17, 20, 21, 22, 25, 28, 29, 30, 33, 33, 34, 37, 38, 41, 42, 45, 46, 49, 50]
def m_201 : aMt := (yX12_wholeAt, cX12_wholeAt, 3, (some .int), 12, 1, 22, (0, 0), 2, k_201, q_201)
def k_202 : List aM := [(.aload_n 0, (0, 0, 0, 0), 0, 0, []),
  (.iload_n 1, (1, 0, 0, 0), 0, 0, []),
  (.iload_n 2, (2, 0, 0, 0), 0, 0, []),
  (.invokevirtual 141, (201, 3, 1, 11), 0, 0, []),
  (.istore_n 3, (3, 0, 0, 0), 0, 0, []),
  (.aload_n 0, (0, 0, 0, 0), 0, 0, []),
  (.invokevirtual 126, (196, 1, 0, 11), 0, 0, []),
  (.iload_n 3, (3, 0, 0, 0), 0, 0, []),
  (.ireturn, (0, 0, 0, 0), 0, 0, [])]
def q_202 : List Nat := [0, 1, 2, 3, 6, 7, 8, 11, 12, 13]
def m_202 : aMt := (yX12_readWhole, cX12_readWhole, 4, (some .int), 12, 2, 44, (0, 0), 2, k_202, q_202)
def k_203 : List aM := [(.aload_n 0, (0, 0, 0, 0), 0, 0, []),
  (.aload_n 1, (1, 0, 0, 0), 0, 0, []),
  (.invokevirtual 145, (200, 2, 0, 11), 0, 0, []),
  (.aload_n 0, (0, 0, 0, 0), 0, 0, []),
  (.iload_n 2, (2, 0, 0, 0), 0, 0, []),
  (.iload_n 3, (3, 0, 0, 0), 0, 0, []),
  (.invokevirtual 149, (202, 3, 1, 11), 0, 0, []),
  (.ireturn, (0, 0, 0, 0), 0, 0, [])]
def q_203 : List Nat := [0, 1, 2, 5, 6, 7, 8, 11, 12]
def m_203 : aMt := (yX12_readPart, cX12_readPart, 4, (some .int), 12, 9, 265, (0, 0), 3, k_203, q_203)
def k_204 : List aM := [(.aload_n 0, (0, 0, 0, 0), 0, 0, []),
  (.getfield 103, (11, 15, 1, 0), 0, 0, []),
  (.iconst 5, (0, 0, 0, 0), 5, 0, []),
  (.aload_n 0, (0, 0, 0, 0), 0, 0, []),
  (.getfield 107, (11, 14, 0, 0), 0, 0, []),
  (.iconst 1, (0, 0, 0, 0), 1, 0, []),
  (.isub, (0, 0, 0, 0), 0, 0, []),
  (.iload_n 1, (1, 0, 0, 0), 0, 0, []),
  (.isub, (0, 0, 0, 0), 0, 0, []),
  (.imul, (0, 0, 0, 0), 0, 0, []),
  (.lshr, (0, 0, 0, 0), 0, 0, []),
  (.ldc2_w 152, (0, 0, 0, 0), 0, 31, []),
  (.land, (0, 0, 0, 0), 0, 0, []),
  (.l2i, (0, 0, 0, 0), 0, 0, []),
  (.bipush 97, (0, 0, 0, 0), 97, 0, []),
  (.iadd, (0, 0, 0, 0), 0, 0, []),
  (.iconst 1, (0, 0, 0, 0), 1, 0, []),
  (.isub, (0, 0, 0, 0), 0, 0, []),
  (.ireturn, (0, 0, 0, 0), 0, 0, [])]
def q_204 : List Nat := [0, 1, 4, 5, 6, 9, 10, 11, 12, 13, 14, 15, 18, 19, 20, 22, 23, 24, 25, 26]
def m_204 : aMt := (yX12_letterAt, cX12_letterAt, 2, (some .int), 12, 0, 0, (0, 0), 1, k_204, q_204)
def k_205 : List aM := [(.aload_n 0, (0, 0, 0, 0), 0, 0, []),
  (.getfield 87, (11, 9, 0, 0), 0, 0, []),
  (.iconst 2, (0, 0, 0, 0), 2, 0, []),
  (.if_icmp .ne 30, (16, 0, 0, 0), 0, 0, []),
  (.aload_n 0, (0, 0, 0, 0), 0, 0, []),
  (.ldc 154, (0, 0, 1, 0), 0, 0, []),
  (.invokevirtual 129, (198, 2, 1, 11), 0, 0, []),
  (.ifCond .ne 21, (16, 0, 0, 0), 0, 0, []),
  (.aload_n 0, (0, 0, 0, 0), 0, 0, []),
  (.ldc 156, (1, 0, 1, 0), 0, 0, []),
  (.invokevirtual 129, (198, 2, 1, 11), 0, 0, []),
  (.ifCond .ne 12, (16, 0, 0, 0), 0, 0, []),
  (.aload_n 0, (0, 0, 0, 0), 0, 0, []),
  (.ldc 158, (2, 0, 1, 0), 0, 0, []),
  (.invokevirtual 129, (198, 2, 1, 11), 0, 0, []),
  (.ifCond .eq 5, (18, 0, 0, 0), 0, 0, []),
  (.iconst 0, (0, 0, 0, 0), 0, 0, []),
  (.ireturn, (0, 0, 1, 0), 0, 0, []),
  (.aload_n 0, (0, 0, 0, 0), 0, 0, []),
  (.ldc 160, (3, 0, 1, 0), 0, 0, []),
  (.invokevirtual 129, (198, 2, 1, 11), 0, 0, []),
  (.ifCond .ne 25, (32, 0, 0, 0), 0, 0, []),
  (.aload_n 0, (0, 0, 0, 0), 0, 0, []),
  (.ldc 162, (4, 0, 1, 0), 0, 0, []),
  (.invokevirtual 129, (198, 2, 1, 11), 0, 0, []),
  (.ifCond .ne 16, (32, 0, 0, 0), 0, 0, []),
  (.aload_n 0, (0, 0, 0, 0), 0, 0, []),
  (.ldc 164, (5, 0, 1, 0), 0, 0, []),
  (.invokevirtual 129, (198, 2, 1, 11), 0, 0, []),
  (.ifCond .ne 7, (32, 0, 0, 0), 0, 0, []),
  (.iconst 1, (0, 0, 0, 0), 1, 0, []),
  (.goto 4, (33, 0, 0, 0), 0, 0, []),
  (.iconst 0, (0, 0, 0, 0), 0, 0, []),
  (.ireturn, (0, 0, 1, 0), 0, 0, [])]
def q_205 : List Nat := [0, 1, 4, 5, 8, 9, 11, 14, 17, 18, 20, 23, 26, 27, 29, 32, 35, 36, 37, 38, 40, 43, 46, 47, 49, 52, 55, 56, 58, 61, 64, 65, 68, 69, 70]
def m_205 : aMt := (yX12_isName, cX12_isName, 1, (some .boolean), 12, 8, 244, (0, 0), 0, k_205, q_205)
def k_206 : List aM := [(.iload_n 1, (1, 0, 0, 0), 0, 0, []),
  (.iload_n 2, (2, 0, 0, 0), 0, 0, []),
  (.if_icmp .ne 8, (6, 0, 0, 0), 0, 0, []),
  (.aload_n 0, (0, 0, 0, 0), 0, 0, []),
  (.iconst 5, (0, 0, 0, 0), 5, 0, []),
  (.invokevirtual 133, (197, 2, 0, 11), 0, 0, []),
  (.nop, (0, 0, 0, 0), 0, 0, [(0, 1), (0, 0), (0, 0)]),
  (.aload_n 0, (0, 0, 0, 0), 0, 0, []),
  (.getfield 166, (11, 4, 2, 0), 0, 0, []),
  (.getfield 170, (10, 5, 0, 0), 0, 0, []),
  (.iconst 2, (0, 0, 0, 0), 2, 0, []),
  (.if_icmp .ge 9, (15, 0, 0, 0), 0, 0, []),
  (.aload_n 0, (0, 0, 0, 0), 0, 0, []),
  (.bipush 6, (0, 0, 0, 0), 6, 0, []),
  (.invokevirtual 133, (197, 2, 0, 11), 0, 0, []),
  (.nop, (0, 0, 0, 0), 0, 0, [(0, 1), (0, 0), (0, 0)]),
  (.aload_n 0, (0, 0, 0, 0), 0, 0, []),
  (.getfield 166, (11, 4, 2, 0), 0, 0, []),
  (.iconst 1, (0, 0, 0, 0), 1, 0, []),
  (.putfield 175, (10, 11, 4, 0), 0, 0, []),
  (.aload_n 0, (0, 0, 0, 0), 0, 0, []),
  (.invokevirtual 126, (196, 1, 0, 11), 0, 0, []),
  (.return_, (0, 0, 0, 0), 0, 0, [])]
def q_206 : List Nat := [0, 1, 2, 5, 6, 7, 10, 10, 11, 14, 17, 18, 21, 22, 24, 27, 27, 28, 31, 32, 35, 36, 39, 40]
def m_206 : aMt := (yX12_lineBegins, cX12_lineBegins, 3, none, 12, 2, 43, (0, 0), 2, k_206, q_206)
def k_207 : List aM := [(.aload_n 0, (0, 0, 0, 0), 0, 0, []),
  (.invokevirtual 179, (205, 1, 1, 11), 0, 0, []),
  (.ifCond .ne 8, (6, 0, 0, 0), 0, 0, []),
  (.aload_n 0, (0, 0, 0, 0), 0, 0, []),
  (.iconst 1, (0, 0, 0, 0), 1, 0, []),
  (.invokevirtual 133, (197, 2, 0, 11), 0, 0, []),
  (.nop, (0, 0, 0, 0), 0, 0, [(0, 1), (0, 0), (0, 0)]),
  (.aload_n 0, (0, 0, 0, 0), 0, 0, []),
  (.getfield 166, (11, 4, 2, 0), 0, 0, []),
  (.aload_n 0, (0, 0, 0, 0), 0, 0, []),
  (.getfield 103, (11, 15, 1, 0), 0, 0, []),
  (.invokevirtual 183, (175, 2, 1, 10), 0, 0, []),
  (.iconst (-1), (0, 0, 0, 0), (-1), 0, []),
  (.if_icmp .eq 8, (17, 0, 0, 0), 0, 0, []),
  (.aload_n 0, (0, 0, 0, 0), 0, 0, []),
  (.iconst 3, (0, 0, 0, 0), 3, 0, []),
  (.invokevirtual 133, (197, 2, 0, 11), 0, 0, []),
  (.nop, (0, 0, 0, 0), 0, 0, [(0, 1), (0, 0), (0, 0)]),
  (.aload_n 0, (0, 0, 0, 0), 0, 0, []),
  (.getfield 103, (11, 15, 1, 0), 0, 0, []),
  (.lstore_n 1, (1, 0, 0, 0), 0, 0, []),
  (.aload_n 0, (0, 0, 0, 0), 0, 0, []),
  (.invokevirtual 126, (196, 1, 0, 11), 0, 0, []),
  (.lload_n 1, (1, 0, 0, 0), 0, 0, []),
  (.lreturn, (0, 0, 0, 0), 0, 0, [])]
def q_207 : List Nat := [0, 1, 4, 7, 8, 9, 12, 12, 13, 16, 17, 20, 23, 24, 27, 28, 29, 32, 32, 33, 36, 37, 38, 41, 42, 43]
def m_207 : aMt := (yX12_readFresh, cX12_readFresh, 3, (some .long), 12, 9, 264, (0, 0), 0, k_207, q_207)
def k_208 : List aM := [(.aload_n 0, (0, 0, 0, 0), 0, 0, []),
  (.getfield 166, (11, 4, 2, 0), 0, 0, []),
  (.getfield 187, (10, 20, 2, 0), 0, 0, []),
  (.aload_n 0, (0, 0, 0, 0), 0, 0, []),
  (.getfield 166, (11, 4, 2, 0), 0, 0, []),
  (.getfield 191, (10, 10, 0, 0), 0, 0, []),
  (.lload_n 1, (1, 0, 0, 0), 0, 0, []),
  (.lastore, (0, 0, 0, 0), 0, 0, []),
  (.aload_n 0, (0, 0, 0, 0), 0, 0, []),
  (.getfield 166, (11, 4, 2, 0), 0, 0, []),
  (.getfield 194, (10, 21, 2, 0), 0, 0, []),
  (.aload_n 0, (0, 0, 0, 0), 0, 0, []),
  (.getfield 166, (11, 4, 2, 0), 0, 0, []),
  (.getfield 191, (10, 10, 0, 0), 0, 0, []),
  (.iload_n 3, (3, 0, 0, 0), 0, 0, []),
  (.iastore, (0, 0, 0, 0), 0, 0, []),
  (.aload_n 0, (0, 0, 0, 0), 0, 0, []),
  (.getfield 166, (11, 4, 2, 0), 0, 0, []),
  (.getfield 197, (10, 22, 2, 0), 0, 0, []),
  (.aload_n 0, (0, 0, 0, 0), 0, 0, []),
  (.getfield 166, (11, 4, 2, 0), 0, 0, []),
  (.getfield 191, (10, 10, 0, 0), 0, 0, []),
  (.iload 4, (4, 0, 0, 0), 0, 0, []),
  (.iastore, (0, 0, 0, 0), 0, 0, []),
  (.aload_n 0, (0, 0, 0, 0), 0, 0, []),
  (.getfield 166, (11, 4, 2, 0), 0, 0, []),
  (.dup, (0, 0, 0, 0), 0, 0, []),
  (.getfield 191, (10, 10, 0, 0), 0, 0, []),
  (.iconst 1, (0, 0, 0, 0), 1, 0, []),
  (.iadd, (0, 0, 0, 0), 0, 0, []),
  (.putfield 191, (10, 10, 0, 0), 0, 0, []),
  (.return_, (0, 0, 0, 0), 0, 0, [])]
def q_208 : List Nat := [0, 1, 4, 7, 8, 11, 14, 15, 16, 17, 20, 23, 24, 27, 30, 31, 32, 33, 36, 39, 40, 43, 46, 48, 49, 50, 53, 54, 57, 58, 59, 62, 63]
def m_208 : aMt := (yX12_names, cX12_names, 5, none, 12, 0, 0, (0, 0), 3, k_208, q_208)
def k_209 : List aM := [(.aload_n 0, (0, 0, 0, 0), 0, 0, []),
  (.iconst 0, (0, 0, 0, 0), 0, 0, []),
  (.aload_n 0, (0, 0, 0, 0), 0, 0, []),
  (.getfield 166, (11, 4, 2, 0), 0, 0, []),
  (.getfield 200, (10, 4, 0, 0), 0, 0, []),
  (.iconst 1, (0, 0, 0, 0), 1, 0, []),
  (.isub, (0, 0, 0, 0), 0, 0, []),
  (.invokevirtual 149, (202, 3, 1, 11), 0, 0, []),
  (.istore_n 1, (1, 0, 0, 0), 0, 0, []),
  (.aload_n 0, (0, 0, 0, 0), 0, 0, []),
  (.iconst 0, (0, 0, 0, 0), 0, 0, []),
  (.aload_n 0, (0, 0, 0, 0), 0, 0, []),
  (.getfield 166, (11, 4, 2, 0), 0, 0, []),
  (.getfield 170, (10, 5, 0, 0), 0, 0, []),
  (.iconst 1, (0, 0, 0, 0), 1, 0, []),
  (.isub, (0, 0, 0, 0), 0, 0, []),
  (.invokevirtual 141, (201, 3, 1, 11), 0, 0, []),
  (.istore_n 2, (2, 0, 0, 0), 0, 0, []),
  (.bipush 8, (0, 0, 0, 0), 8, 0, []),
  (.iload_n 2, (2, 0, 0, 0), 0, 0, []),
  (.imul, (0, 0, 0, 0), 0, 0, []),
  (.iload_n 1, (1, 0, 0, 0), 0, 0, []),
  (.iadd, (0, 0, 0, 0), 0, 0, []),
  (.istore_n 3, (3, 0, 0, 0), 0, 0, []),
  (.aload_n 0, (0, 0, 0, 0), 0, 0, []),
  (.getfield 87, (11, 9, 0, 0), 0, 0, []),
  (.iconst 5, (0, 0, 0, 0), 5, 0, []),
  (.if_icmp .eq 20, (36, 0, 0, 0), 0, 0, []),
  (.aload_n 0, (0, 0, 0, 0), 0, 0, []),
  (.getfield 166, (11, 4, 2, 0), 0, 0, []),
  (.iload_n 3, (3, 0, 0, 0), 0, 0, []),
  (.invokevirtual 203, (178, 2, 1, 10), 0, 0, []),
  (.ifCond .eq 9, (36, 0, 0, 0), 0, 0, []),
  (.aload_n 0, (0, 0, 0, 0), 0, 0, []),
  (.bipush 7, (0, 0, 0, 0), 7, 0, []),
  (.invokevirtual 133, (197, 2, 0, 11), 0, 0, []),
  (.nop, (0, 0, 0, 0), 0, 0, [(0, 1), (0, 0), (0, 0), (0, 1)]),
  (.aload_n 0, (0, 0, 0, 0), 0, 0, []),
  (.invokevirtual 126, (196, 1, 0, 11), 0, 0, []),
  (.iload_n 3, (3, 0, 0, 0), 0, 0, []),
  (.ireturn, (0, 0, 0, 0), 0, 0, [])]
def q_209 : List Nat := [0, 1, 2, 3, 6, 9, 10, 11, 14, 15, 16, 17, 18, 21, 24, 25, 26, 29, 30, 32, 33, 34, 35, 36, 37, 38, 41, 42, 45, 46, 49, 50, 53, 56, 57, 59, 62, 62, 63, 66, 67, 68]
def m_209 : aMt := (yX12_readCell, cX12_readCell, 4, (some .int), 12, 3, 67, (0, 0), 0, k_209, q_209)
def k_210 : List aM := [(.iconst 1, (0, 0, 0, 0), 1, 0, []),
  (.istore_n 1, (1, 0, 0, 0), 0, 0, []),
  (.nop, (0, 0, 0, 0), 0, 0, [(0, 1), (0, 1)]),
  (.iload_n 1, (1, 0, 0, 0), 0, 0, []),
  (.ifCond .eq 15, (11, 0, 0, 0), 0, 0, []),
  (.aload_n 0, (0, 0, 0, 0), 0, 0, []),
  (.invokevirtual 206, (211, 1, 0, 11), 0, 0, []),
  (.aload_n 0, (0, 0, 0, 0), 0, 0, []),
  (.invokevirtual 209, (199, 1, 1, 11), 0, 0, []),
  (.istore_n 1, (1, 0, 0, 0), 0, 0, []),
  (.goto (-13), (2, 0, 0, 0), 0, 0, []),
  (.aload_n 0, (0, 0, 0, 0), 0, 0, []),
  (.getfield 87, (11, 9, 0, 0), 0, 0, []),
  (.iconst 1, (0, 0, 0, 0), 1, 0, []),
  (.if_icmp .eq 8, (18, 0, 0, 0), 0, 0, []),
  (.aload_n 0, (0, 0, 0, 0), 0, 0, []),
  (.iconst 1, (0, 0, 0, 0), 1, 0, []),
  (.invokevirtual 133, (197, 2, 0, 11), 0, 0, []),
  (.nop, (0, 0, 0, 0), 0, 0, [(0, 1), (0, 0)]),
  (.aload_n 0, (0, 0, 0, 0), 0, 0, []),
  (.getfield 166, (11, 4, 2, 0), 0, 0, []),
  (.getfield 212, (10, 6, 0, 0), 0, 0, []),
  (.iconst (-1), (0, 0, 0, 0), (-1), 0, []),
  (.if_icmp .ne 9, (27, 0, 0, 0), 0, 0, []),
  (.aload_n 0, (0, 0, 0, 0), 0, 0, []),
  (.bipush 6, (0, 0, 0, 0), 6, 0, []),
  (.invokevirtual 133, (197, 2, 0, 11), 0, 0, []),
  (.return_, (0, 0, 0, 0), 0, 0, [])]
def q_210 : List Nat := [0, 1, 2, 2, 3, 6, 7, 10, 11, 14, 15, 18, 19, 22, 23, 26, 27, 28, 31, 31, 32, 35, 38, 39, 42, 43, 45, 48, 49]
def m_210 : aMt := (yX12_readAll, cX12_readAll, 2, none, 12, 12, 332, (0, 0), 0, k_210, q_210)
def k_211 : List aM := [(.aload_n 0, (0, 0, 0, 0), 0, 0, []),
  (.ldc 154, (0, 0, 1, 0), 0, 0, []),
  (.invokevirtual 129, (198, 2, 1, 11), 0, 0, []),
  (.ifCond .eq 10, (7, 0, 0, 0), 0, 0, []),
  (.aload_n 0, (0, 0, 0, 0), 0, 0, []),
  (.invokevirtual 214, (212, 1, 0, 11), 0, 0, []),
  (.goto 88, (45, 0, 0, 0), 0, 0, []),
  (.aload_n 0, (0, 0, 0, 0), 0, 0, []),
  (.ldc 156, (1, 0, 1, 0), 0, 0, []),
  (.invokevirtual 129, (198, 2, 1, 11), 0, 0, []),
  (.ifCond .eq 10, (14, 0, 0, 0), 0, 0, []),
  (.aload_n 0, (0, 0, 0, 0), 0, 0, []),
  (.invokevirtual 217, (215, 1, 0, 11), 0, 0, []),
  (.goto 72, (45, 0, 0, 0), 0, 0, []),
  (.aload_n 0, (0, 0, 0, 0), 0, 0, []),
  (.ldc 158, (2, 0, 1, 0), 0, 0, []),
  (.invokevirtual 129, (198, 2, 1, 11), 0, 0, []),
  (.ifCond .eq 10, (21, 0, 0, 0), 0, 0, []),
  (.aload_n 0, (0, 0, 0, 0), 0, 0, []),
  (.invokevirtual 220, (216, 1, 0, 11), 0, 0, []),
  (.goto 56, (45, 0, 0, 0), 0, 0, []),
  (.aload_n 0, (0, 0, 0, 0), 0, 0, []),
  (.ldc 160, (3, 0, 1, 0), 0, 0, []),
  (.invokevirtual 129, (198, 2, 1, 11), 0, 0, []),
  (.ifCond .eq 10, (28, 0, 0, 0), 0, 0, []),
  (.aload_n 0, (0, 0, 0, 0), 0, 0, []),
  (.invokevirtual 223, (217, 1, 0, 11), 0, 0, []),
  (.goto 40, (45, 0, 0, 0), 0, 0, []),
  (.aload_n 0, (0, 0, 0, 0), 0, 0, []),
  (.ldc 162, (4, 0, 1, 0), 0, 0, []),
  (.invokevirtual 129, (198, 2, 1, 11), 0, 0, []),
  (.ifCond .eq 10, (35, 0, 0, 0), 0, 0, []),
  (.aload_n 0, (0, 0, 0, 0), 0, 0, []),
  (.invokevirtual 226, (220, 1, 0, 11), 0, 0, []),
  (.goto 24, (45, 0, 0, 0), 0, 0, []),
  (.aload_n 0, (0, 0, 0, 0), 0, 0, []),
  (.ldc 164, (5, 0, 1, 0), 0, 0, []),
  (.invokevirtual 129, (198, 2, 1, 11), 0, 0, []),
  (.ifCond .eq 10, (42, 0, 0, 0), 0, 0, []),
  (.aload_n 0, (0, 0, 0, 0), 0, 0, []),
  (.invokevirtual 229, (221, 1, 0, 11), 0, 0, []),
  (.goto 8, (45, 0, 0, 0), 0, 0, []),
  (.aload_n 0, (0, 0, 0, 0), 0, 0, []),
  (.iconst 1, (0, 0, 0, 0), 1, 0, []),
  (.invokevirtual 133, (197, 2, 0, 11), 0, 0, []),
  (.return_, (0, 0, 0, 0), 0, 0, [])]
def q_211 : List Nat := [0, 1, 3, 6, 9, 10, 13, 16, 17, 19, 22, 25, 26, 29, 32, 33, 35, 38, 41, 42, 45, 48, 49, 51, 54, 57, 58, 61, 64, 65, 67, 70, 73, 74, 77, 80, 81, 83, 86, 89, 90, 93, 96, 97, 98, 101, 102]
def m_211 : aMt := (yX12_readLine, cX12_readLine, 1, none, 12, 11, 312, (0, 0), 0, k_211, q_211)
end
section
def k_212 : List aM := [(.aload_n 0, (0, 0, 0, 0), 0, 0, []),
  (.getfield 166, (11, 4, 2, 0), 0, 0, []),
  (.getfield 232, (10, 0, 0, 0), 0, 0, []),
  (.ifCond .le 8, (7, 0, 0, 0), 0, 0, []),
  (.aload_n 0, (0, 0, 0, 0), 0, 0, []),
  (.iconst 3, (0, 0, 0, 0), 3, 0, []),
  (.invokevirtual 133, (197, 2, 0, 11), 0, 0, []),
  (.nop, (0, 0, 0, 0), 0, 0, [(0, 1), (0, 0), (0, 0), (0, 0), (0, 0)]),
  (.aload_n 0, (0, 0, 0, 0), 0, 0, []),
  (.invokevirtual 126, (196, 1, 0, 11), 0, 0, []),
  (.aload_n 0, (0, 0, 0, 0), 0, 0, []),
  (.ldc 235, (6, 0, 1, 0), 0, 0, []),
  (.iconst 1, (0, 0, 0, 0), 1, 0, []),
  (.bipush 14, (0, 0, 0, 0), 14, 0, []),
  (.invokevirtual 236, (203, 4, 1, 11), 0, 0, []),
  (.istore_n 1, (1, 0, 0, 0), 0, 0, []),
  (.aload_n 0, (0, 0, 0, 0), 0, 0, []),
  (.ldc 240, (7, 0, 1, 0), 0, 0, []),
  (.iconst 0, (0, 0, 0, 0), 0, 0, []),
  (.iconst 3, (0, 0, 0, 0), 3, 0, []),
  (.invokevirtual 236, (203, 4, 1, 11), 0, 0, []),
  (.istore_n 2, (2, 0, 0, 0), 0, 0, []),
  (.aload_n 0, (0, 0, 0, 0), 0, 0, []),
  (.ldc 242, (8, 0, 1, 0), 0, 0, []),
  (.iconst 1, (0, 0, 0, 0), 1, 0, []),
  (.bipush 9, (0, 0, 0, 0), 9, 0, []),
  (.invokevirtual 236, (203, 4, 1, 11), 0, 0, []),
  (.istore_n 3, (3, 0, 0, 0), 0, 0, []),
  (.aload_n 0, (0, 0, 0, 0), 0, 0, []),
  (.ldc 244, (9, 0, 1, 0), 0, 0, []),
  (.iconst 0, (0, 0, 0, 0), 0, 0, []),
  (.bipush 100, (0, 0, 0, 0), 100, 0, []),
  (.invokevirtual 236, (203, 4, 1, 11), 0, 0, []),
  (.istore 4, (4, 0, 0, 0), 0, 0, []),
  (.aload_n 0, (0, 0, 0, 0), 0, 0, []),
  (.getfield 87, (11, 9, 0, 0), 0, 0, []),
  (.iconst 5, (0, 0, 0, 0), 5, 0, []),
  (.if_icmp .ne 4, (39, 0, 0, 0), 0, 0, []),
  (.return_, (0, 0, 0, 0), 0, 0, []),
  (.aload_n 0, (0, 0, 0, 0), 0, 0, []),
  (.getfield 166, (11, 4, 2, 0), 0, 0, []),
  (.iload_n 1, (1, 0, 0, 0), 0, 0, []),
  (.putfield 232, (10, 0, 0, 0), 0, 0, []),
  (.aload_n 0, (0, 0, 0, 0), 0, 0, []),
  (.getfield 166, (11, 4, 2, 0), 0, 0, []),
  (.iload_n 2, (2, 0, 0, 0), 0, 0, []),
  (.putfield 246, (10, 1, 0, 0), 0, 0, []),
  (.aload_n 0, (0, 0, 0, 0), 0, 0, []),
  (.getfield 166, (11, 4, 2, 0), 0, 0, []),
  (.iload_n 3, (3, 0, 0, 0), 0, 0, []),
  (.putfield 248, (10, 2, 0, 0), 0, 0, []),
  (.aload_n 0, (0, 0, 0, 0), 0, 0, []),
  (.getfield 166, (11, 4, 2, 0), 0, 0, []),
  (.iload 4, (4, 0, 0, 0), 0, 0, []),
  (.putfield 250, (10, 3, 0, 0), 0, 0, []),
  (.return_, (0, 0, 0, 0), 0, 0, [])]
def q_212 : List Nat := [0, 1, 4, 7, 10, 11, 12, 15, 15, 16, 19, 20, 22, 23, 25, 28, 29, 30, 32, 33, 34, 37, 38, 39, 41, 42, 44, 47, 48, 49, 51, 52, 54, 57, 59, 60, 63, 64, 67, 68, 69, 72, 73, 76, 77, 80, 81, 84, 85, 88, 89, 92, 93, 96, 98, 101, 102]
def m_212 : aMt := (yX12_readField, cX12_readField, 5, none, 12, 10, 288, (0, 0), 0, k_212, q_212)
def k_213 : List aM := [(.iload_n 0, (0, 0, 0, 0), 0, 0, []),
  (.bipush 115, (0, 0, 0, 0), 115, 0, []),
  (.if_icmp .ne 7, (5, 0, 0, 0), 0, 0, []),
  (.iconst 0, (0, 0, 0, 0), 0, 0, []),
  (.goto 34, (21, 0, 0, 0), 0, 0, []),
  (.iload_n 0, (0, 0, 0, 0), 0, 0, []),
  (.bipush 99, (0, 0, 0, 0), 99, 0, []),
  (.if_icmp .ne 7, (10, 0, 0, 0), 0, 0, []),
  (.iconst 1, (0, 0, 0, 0), 1, 0, []),
  (.goto 24, (21, 0, 0, 0), 0, 0, []),
  (.iload_n 0, (0, 0, 0, 0), 0, 0, []),
  (.bipush 103, (0, 0, 0, 0), 103, 0, []),
  (.if_icmp .ne 7, (15, 0, 0, 0), 0, 0, []),
  (.iconst 2, (0, 0, 0, 0), 2, 0, []),
  (.goto 14, (21, 0, 0, 0), 0, 0, []),
  (.iload_n 0, (0, 0, 0, 0), 0, 0, []),
  (.bipush 114, (0, 0, 0, 0), 114, 0, []),
  (.if_icmp .ne 7, (20, 0, 0, 0), 0, 0, []),
  (.iconst 3, (0, 0, 0, 0), 3, 0, []),
  (.goto 4, (21, 0, 0, 0), 0, 0, []),
  (.iconst (-1), (0, 0, 0, 0), (-1), 0, []),
  (.ireturn, (0, 0, 0, 0), 0, 0, [])]
def q_213 : List Nat := [0, 1, 3, 6, 7, 10, 11, 13, 16, 17, 20, 21, 23, 26, 27, 30, 31, 33, 36, 37, 40, 41, 42]
def m_213 : aMt := (yX12_soilBy, cX12_soilBy, 1, (some .int), 12, 0, 0, (0, 0), 1, k_213, q_213)
def k_214 : List aM := [(.aload_n 0, (0, 0, 0, 0), 0, 0, []),
  (.getfield 107, (11, 14, 0, 0), 0, 0, []),
  (.iconst 2, (0, 0, 0, 0), 2, 0, []),
  (.if_icmp .lt 27, (14, 0, 0, 0), 0, 0, []),
  (.aload_n 0, (0, 0, 0, 0), 0, 0, []),
  (.getfield 166, (11, 4, 2, 0), 0, 0, []),
  (.getfield 170, (10, 5, 0, 0), 0, 0, []),
  (.ifCond .le 19, (16, 0, 0, 0), 0, 0, []),
  (.aload_n 0, (0, 0, 0, 0), 0, 0, []),
  (.getfield 107, (11, 14, 0, 0), 0, 0, []),
  (.aload_n 0, (0, 0, 0, 0), 0, 0, []),
  (.getfield 166, (11, 4, 2, 0), 0, 0, []),
  (.getfield 200, (10, 4, 0, 0), 0, 0, []),
  (.if_icmp .eq 5, (16, 0, 0, 0), 0, 0, []),
  (.iconst 0, (0, 0, 0, 0), 0, 0, []),
  (.ireturn, (0, 0, 1, 0), 0, 0, []),
  (.iconst 0, (0, 0, 0, 0), 0, 0, []),
  (.istore_n 1, (1, 0, 0, 0), 0, 0, []),
  (.nop, (0, 0, 0, 0), 0, 0, [(0, 1), (0, 1)]),
  (.iload_n 1, (1, 0, 0, 0), 0, 0, []),
  (.aload_n 0, (0, 0, 0, 0), 0, 0, []),
  (.getfield 107, (11, 14, 0, 0), 0, 0, []),
  (.if_icmp .ge 23, (33, 0, 0, 0), 0, 0, []),
  (.aload_n 0, (0, 0, 0, 0), 0, 0, []),
  (.iload_n 1, (1, 0, 0, 0), 0, 0, []),
  (.invokevirtual 252, (204, 2, 1, 11), 0, 0, []),
  (.invokestatic 255, (213, 1, 1, 99), 0, 0, []),
  (.iconst (-1), (0, 0, 0, 0), (-1), 0, []),
  (.if_icmp .ne 5, (31, 0, 0, 0), 0, 0, []),
  (.iconst 0, (0, 0, 0, 0), 0, 0, []),
  (.ireturn, (0, 0, 1, 0), 0, 0, []),
  (.iinc 1 1, (1, 0, 0, 0), 1, 0, []),
  (.goto (-25), (18, 0, 0, 0), 0, 0, []),
  (.iconst 1, (0, 0, 0, 0), 1, 0, []),
  (.ireturn, (0, 0, 1, 0), 0, 0, [])]
def q_214 : List Nat := [0, 1, 4, 5, 8, 9, 12, 15, 18, 19, 22, 23, 26, 29, 32, 33, 34, 35, 36, 36, 37, 38, 41, 44, 45, 46, 49, 52, 53, 56, 57, 58, 61, 64, 65, 66]
def m_214 : aMt := (yX12_isRow, cX12_isRow, 2, (some .boolean), 12, 1, 21, (0, 0), 0, k_214, q_214)
def k_215 : List aM := [(.aload_n 0, (0, 0, 0, 0), 0, 0, []),
  (.getfield 166, (11, 4, 2, 0), 0, 0, []),
  (.getfield 170, (10, 5, 0, 0), 0, 0, []),
  (.bipush 8, (0, 0, 0, 0), 8, 0, []),
  (.if_icmp .ne 8, (8, 0, 0, 0), 0, 0, []),
  (.aload_n 0, (0, 0, 0, 0), 0, 0, []),
  (.iconst 5, (0, 0, 0, 0), 5, 0, []),
  (.invokevirtual 133, (197, 2, 0, 11), 0, 0, []),
  (.nop, (0, 0, 0, 0), 0, 0, [(0, 1), (0, 0)]),
  (.aload_n 0, (0, 0, 0, 0), 0, 0, []),
  (.getfield 166, (11, 4, 2, 0), 0, 0, []),
  (.getfield 232, (10, 0, 0, 0), 0, 0, []),
  (.ifCond .ne 9, (16, 0, 0, 0), 0, 0, []),
  (.aload_n 0, (0, 0, 0, 0), 0, 0, []),
  (.bipush 6, (0, 0, 0, 0), 6, 0, []),
  (.invokevirtual 133, (197, 2, 0, 11), 0, 0, []),
  (.nop, (0, 0, 0, 0), 0, 0, [(0, 1), (0, 0)]),
  (.aload_n 0, (0, 0, 0, 0), 0, 0, []),
  (.getfield 166, (11, 4, 2, 0), 0, 0, []),
  (.getfield 175, (10, 11, 0, 0), 0, 0, []),
  (.ifCond .eq 9, (24, 0, 0, 0), 0, 0, []),
  (.aload_n 0, (0, 0, 0, 0), 0, 0, []),
  (.bipush 8, (0, 0, 0, 0), 8, 0, []),
  (.invokevirtual 133, (197, 2, 0, 11), 0, 0, []),
  (.nop, (0, 0, 0, 0), 0, 0, [(0, 1), (0, 0)]),
  (.aload_n 0, (0, 0, 0, 0), 0, 0, []),
  (.invokevirtual 126, (196, 1, 0, 11), 0, 0, []),
  (.aload_n 0, (0, 0, 0, 0), 0, 0, []),
  (.getfield 87, (11, 9, 0, 0), 0, 0, []),
  (.iconst 2, (0, 0, 0, 0), 2, 0, []),
  (.if_icmp .eq 11, (35, 0, 0, 0), 0, 0, []),
  (.aload_n 0, (0, 0, 0, 0), 0, 0, []),
  (.iconst 1, (0, 0, 0, 0), 1, 0, []),
  (.invokevirtual 133, (197, 2, 0, 11), 0, 0, []),
  (.goto 16, (41, 0, 0, 0), 0, 0, []),
  (.aload_n 0, (0, 0, 0, 0), 0, 0, []),
  (.invokevirtual 258, (214, 1, 1, 11), 0, 0, []),
  (.ifCond .ne 9, (41, 0, 0, 0), 0, 0, []),
  (.aload_n 0, (0, 0, 0, 0), 0, 0, []),
  (.bipush 7, (0, 0, 0, 0), 7, 0, []),
  (.invokevirtual 133, (197, 2, 0, 11), 0, 0, []),
  (.iconst 0, (0, 0, 0, 0), 0, 0, []),
  (.istore_n 1, (1, 0, 0, 0), 0, 0, []),
  (.nop, (0, 0, 0, 0), 0, 0, [(0, 1), (0, 1)]),
  (.iload_n 1, (1, 0, 0, 0), 0, 0, []),
  (.aload_n 0, (0, 0, 0, 0), 0, 0, []),
  (.getfield 107, (11, 14, 0, 0), 0, 0, []),
  (.if_icmp .ge 45, (69, 0, 0, 0), 0, 0, []),
  (.aload_n 0, (0, 0, 0, 0), 0, 0, []),
  (.getfield 87, (11, 9, 0, 0), 0, 0, []),
  (.iconst 5, (0, 0, 0, 0), 5, 0, []),
  (.if_icmp .eq 37, (69, 0, 0, 0), 0, 0, []),
  (.aload_n 0, (0, 0, 0, 0), 0, 0, []),
  (.getfield 166, (11, 4, 2, 0), 0, 0, []),
  (.getfield 261, (10, 12, 2, 0), 0, 0, []),
  (.bipush 8, (0, 0, 0, 0), 8, 0, []),
  (.aload_n 0, (0, 0, 0, 0), 0, 0, []),
  (.getfield 166, (11, 4, 2, 0), 0, 0, []),
  (.getfield 170, (10, 5, 0, 0), 0, 0, []),
  (.imul, (0, 0, 0, 0), 0, 0, []),
  (.iload_n 1, (1, 0, 0, 0), 0, 0, []),
  (.iadd, (0, 0, 0, 0), 0, 0, []),
  (.aload_n 0, (0, 0, 0, 0), 0, 0, []),
  (.iload_n 1, (1, 0, 0, 0), 0, 0, []),
  (.invokevirtual 252, (204, 2, 1, 11), 0, 0, []),
  (.invokestatic 255, (213, 1, 1, 99), 0, 0, []),
  (.iastore, (0, 0, 0, 0), 0, 0, []),
  (.iinc 1 1, (1, 0, 0, 0), 1, 0, []),
  (.goto (-47), (43, 0, 0, 0), 0, 0, []),
  (.nop, (0, 0, 0, 0), 0, 0, [(0, 1), (0, 0)]),
  (.aload_n 0, (0, 0, 0, 0), 0, 0, []),
  (.getfield 107, (11, 14, 0, 0), 0, 0, []),
  (.istore_n 1, (1, 0, 0, 0), 0, 0, []),
  (.aload_n 0, (0, 0, 0, 0), 0, 0, []),
  (.invokevirtual 126, (196, 1, 0, 11), 0, 0, []),
  (.aload_n 0, (0, 0, 0, 0), 0, 0, []),
  (.getfield 87, (11, 9, 0, 0), 0, 0, []),
  (.iconst 5, (0, 0, 0, 0), 5, 0, []),
  (.if_icmp .ne 4, (80, 0, 0, 0), 0, 0, []),
  (.return_, (0, 0, 0, 0), 0, 0, []),
  (.aload_n 0, (0, 0, 0, 0), 0, 0, []),
  (.getfield 166, (11, 4, 2, 0), 0, 0, []),
  (.iload_n 1, (1, 0, 0, 0), 0, 0, []),
  (.putfield 200, (10, 4, 0, 0), 0, 0, []),
  (.aload_n 0, (0, 0, 0, 0), 0, 0, []),
  (.getfield 166, (11, 4, 2, 0), 0, 0, []),
  (.dup, (0, 0, 0, 0), 0, 0, []),
  (.getfield 170, (10, 5, 0, 0), 0, 0, []),
  (.iconst 1, (0, 0, 0, 0), 1, 0, []),
  (.iadd, (0, 0, 0, 0), 0, 0, []),
  (.putfield 170, (10, 5, 0, 0), 0, 0, []),
  (.return_, (0, 0, 0, 0), 0, 0, [])]
def q_215 : List Nat := [0, 1, 4, 7, 9, 12, 13, 14, 17, 17, 18, 21, 24, 27, 28, 30, 33, 33, 34, 37, 40, 43, 44, 46, 49, 49, 50, 53, 54, 57, 58, 61, 62, 63, 66, 69, 70, 73, 76, 77, 79, 82, 83, 84, 84, 85, 86, 89, 92, 93, 96, 97, 100, 101, 104, 107, 109, 110, 113, 116, 117, 118, 119, 120, 121, 124, 127, 128, 131, 134, 134, 135, 138, 139, 140, 143, 144, 147, 148, 151, 152, 153, 156, 157, 160, 161, 164, 165, 168, 169, 170, 173, 174]
def m_215 : aMt := (yX12_readRow, cX12_readRow, 2, none, 12, 2, 43, (0, 0), 0, k_215, q_215)
def k_216 : List aM := [(.aload_n 0, (0, 0, 0, 0), 0, 0, []),
  (.getfield 166, (11, 4, 2, 0), 0, 0, []),
  (.getfield 212, (10, 6, 0, 0), 0, 0, []),
  (.iconst (-1), (0, 0, 0, 0), (-1), 0, []),
  (.if_icmp .eq 8, (8, 0, 0, 0), 0, 0, []),
  (.aload_n 0, (0, 0, 0, 0), 0, 0, []),
  (.iconst 3, (0, 0, 0, 0), 3, 0, []),
  (.invokevirtual 133, (197, 2, 0, 11), 0, 0, []),
  (.nop, (0, 0, 0, 0), 0, 0, [(0, 1), (0, 0)]),
  (.aload_n 0, (0, 0, 0, 0), 0, 0, []),
  (.iconst 0, (0, 0, 0, 0), 0, 0, []),
  (.iconst 1, (0, 0, 0, 0), 1, 0, []),
  (.invokevirtual 264, (206, 3, 0, 11), 0, 0, []),
  (.aload_n 0, (0, 0, 0, 0), 0, 0, []),
  (.invokevirtual 268, (209, 1, 1, 11), 0, 0, []),
  (.istore_n 1, (1, 0, 0, 0), 0, 0, []),
  (.aload_n 0, (0, 0, 0, 0), 0, 0, []),
  (.getfield 87, (11, 9, 0, 0), 0, 0, []),
  (.iconst 5, (0, 0, 0, 0), 5, 0, []),
  (.if_icmp .eq 11, (24, 0, 0, 0), 0, 0, []),
  (.aload_n 0, (0, 0, 0, 0), 0, 0, []),
  (.getfield 166, (11, 4, 2, 0), 0, 0, []),
  (.iload_n 1, (1, 0, 0, 0), 0, 0, []),
  (.putfield 212, (10, 6, 0, 0), 0, 0, []),
  (.return_, (0, 0, 0, 0), 0, 0, [])]
def q_216 : List Nat := [0, 1, 4, 7, 8, 11, 12, 13, 16, 16, 17, 18, 19, 22, 23, 26, 27, 28, 31, 32, 35, 36, 39, 40, 43, 44]
def m_216 : aMt := (yX12_readWall, cX12_readWall, 2, none, 12, 4, 90, (0, 0), 0, k_216, q_216)
def k_217 : List aM := [(.aload_n 0, (0, 0, 0, 0), 0, 0, []),
  (.aload_n 0, (0, 0, 0, 0), 0, 0, []),
  (.getfield 166, (11, 4, 2, 0), 0, 0, []),
  (.getfield 271, (10, 7, 0, 0), 0, 0, []),
  (.iconst 4, (0, 0, 0, 0), 4, 0, []),
  (.invokevirtual 264, (206, 3, 0, 11), 0, 0, []),
  (.aload_n 0, (0, 0, 0, 0), 0, 0, []),
  (.invokevirtual 274, (207, 1, 2, 11), 0, 0, []),
  (.lstore_n 1, (1, 0, 0, 0), 0, 0, []),
  (.aload_n 0, (0, 0, 0, 0), 0, 0, []),
  (.invokevirtual 268, (209, 1, 1, 11), 0, 0, []),
  (.istore_n 3, (3, 0, 0, 0), 0, 0, []),
  (.aload_n 0, (0, 0, 0, 0), 0, 0, []),
  (.getfield 87, (11, 9, 0, 0), 0, 0, []),
  (.iconst 5, (0, 0, 0, 0), 5, 0, []),
  (.if_icmp .ne 4, (17, 0, 0, 0), 0, 0, []),
  (.return_, (0, 0, 0, 0), 0, 0, []),
  (.aload_n 0, (0, 0, 0, 0), 0, 0, []),
  (.lload_n 1, (1, 0, 0, 0), 0, 0, []),
  (.iconst 0, (0, 0, 0, 0), 0, 0, []),
  (.aload_n 0, (0, 0, 0, 0), 0, 0, []),
  (.getfield 166, (11, 4, 2, 0), 0, 0, []),
  (.getfield 271, (10, 7, 0, 0), 0, 0, []),
  (.invokevirtual 278, (208, 4, 0, 11), 0, 0, []),
  (.aload_n 0, (0, 0, 0, 0), 0, 0, []),
  (.getfield 166, (11, 4, 2, 0), 0, 0, []),
  (.getfield 281, (10, 13, 2, 0), 0, 0, []),
  (.aload_n 0, (0, 0, 0, 0), 0, 0, []),
  (.getfield 166, (11, 4, 2, 0), 0, 0, []),
  (.getfield 271, (10, 7, 0, 0), 0, 0, []),
  (.iload_n 3, (3, 0, 0, 0), 0, 0, []),
  (.iastore, (0, 0, 0, 0), 0, 0, []),
  (.aload_n 0, (0, 0, 0, 0), 0, 0, []),
  (.getfield 166, (11, 4, 2, 0), 0, 0, []),
  (.dup, (0, 0, 0, 0), 0, 0, []),
  (.getfield 271, (10, 7, 0, 0), 0, 0, []),
  (.iconst 1, (0, 0, 0, 0), 1, 0, []),
  (.iadd, (0, 0, 0, 0), 0, 0, []),
  (.putfield 271, (10, 7, 0, 0), 0, 0, []),
  (.return_, (0, 0, 0, 0), 0, 0, [])]
def q_217 : List Nat := [0, 1, 2, 5, 8, 9, 12, 13, 16, 17, 18, 21, 22, 23, 26, 27, 30, 31, 32, 33, 34, 35, 38, 41, 44, 45, 48, 51, 52, 55, 58, 59, 60, 61, 64, 65, 68, 69, 70, 73, 74]
def m_217 : aMt := (yX12_readDrum, cX12_readDrum, 4, none, 12, 10, 286, (0, 0), 0, k_217, q_217)
def k_218 : List aM := [(.iload_n 0, (0, 0, 0, 0), 0, 0, []),
  (.bipush 110, (0, 0, 0, 0), 110, 0, []),
  (.if_icmp .ne 7, (5, 0, 0, 0), 0, 0, []),
  (.iconst 1, (0, 0, 0, 0), 1, 0, []),
  (.goto 34, (21, 0, 0, 0), 0, 0, []),
  (.iload_n 0, (0, 0, 0, 0), 0, 0, []),
  (.bipush 101, (0, 0, 0, 0), 101, 0, []),
  (.if_icmp .ne 7, (10, 0, 0, 0), 0, 0, []),
  (.iconst 2, (0, 0, 0, 0), 2, 0, []),
  (.goto 24, (21, 0, 0, 0), 0, 0, []),
  (.iload_n 0, (0, 0, 0, 0), 0, 0, []),
  (.bipush 115, (0, 0, 0, 0), 115, 0, []),
  (.if_icmp .ne 7, (15, 0, 0, 0), 0, 0, []),
  (.iconst 3, (0, 0, 0, 0), 3, 0, []),
  (.goto 14, (21, 0, 0, 0), 0, 0, []),
  (.iload_n 0, (0, 0, 0, 0), 0, 0, []),
  (.bipush 119, (0, 0, 0, 0), 119, 0, []),
  (.if_icmp .ne 7, (20, 0, 0, 0), 0, 0, []),
  (.iconst 4, (0, 0, 0, 0), 4, 0, []),
  (.goto 4, (21, 0, 0, 0), 0, 0, []),
  (.iconst 0, (0, 0, 0, 0), 0, 0, []),
  (.ireturn, (0, 0, 0, 0), 0, 0, [])]
def q_218 : List Nat := [0, 1, 3, 6, 7, 10, 11, 13, 16, 17, 20, 21, 23, 26, 27, 30, 31, 33, 36, 37, 40, 41, 42]
def m_218 : aMt := (yX12_wayBy, cX12_wayBy, 1, (some .int), 12, 0, 0, (0, 0), 1, k_218, q_218)
def k_219 : List aM := [(.iload_n 2, (2, 0, 0, 0), 0, 0, []),
  (.istore_n 3, (3, 0, 0, 0), 0, 0, []),
  (.aload_n 0, (0, 0, 0, 0), 0, 0, []),
  (.getfield 166, (11, 4, 2, 0), 0, 0, []),
  (.getfield 283, (10, 16, 2, 0), 0, 0, []),
  (.bipush 9, (0, 0, 0, 0), 9, 0, []),
  (.iload_n 1, (1, 0, 0, 0), 0, 0, []),
  (.imul, (0, 0, 0, 0), 0, 0, []),
  (.iload_n 2, (2, 0, 0, 0), 0, 0, []),
  (.iastore, (0, 0, 0, 0), 0, 0, []),
  (.iconst 0, (0, 0, 0, 0), 0, 0, []),
  (.istore 4, (4, 0, 0, 0), 0, 0, []),
  (.nop, (0, 0, 0, 0), 0, 0, [(0, 1), (0, 1), (0, 0), (0, 1), (0, 1), (0, 0), (0, 0)]),
  (.iload 4, (4, 0, 0, 0), 0, 0, []),
  (.aload_n 0, (0, 0, 0, 0), 0, 0, []),
  (.getfield 107, (11, 14, 0, 0), 0, 0, []),
  (.if_icmp .ge 76, (56, 0, 0, 0), 0, 0, []),
  (.aload_n 0, (0, 0, 0, 0), 0, 0, []),
  (.iload 4, (4, 0, 0, 0), 0, 0, []),
  (.invokevirtual 252, (204, 2, 1, 11), 0, 0, []),
  (.invokestatic 286, (218, 1, 1, 99), 0, 0, []),
  (.istore 5, (5, 0, 0, 0), 0, 0, []),
  (.iload 5, (5, 0, 0, 0), 0, 0, []),
  (.ifCond .ne 7, (26, 0, 0, 0), 0, 0, []),
  (.iconst (-1), (0, 0, 0, 0), (-1), 0, []),
  (.goto 13, (31, 0, 0, 0), 0, 0, []),
  (.aload_n 0, (0, 0, 0, 0), 0, 0, []),
  (.getfield 166, (11, 4, 2, 0), 0, 0, []),
  (.iload_n 3, (3, 0, 0, 0), 0, 0, []),
  (.iload 5, (5, 0, 0, 0), 0, 0, []),
  (.invokevirtual 289, (177, 3, 1, 10), 0, 0, []),
  (.nop, (0, 0, 0, 0), 0, 0, [(0, 1), (0, 1), (0, 0), (0, 0), (0, 1), (0, 0), (0, 0)]),
  (.istore 6, (6, 0, 0, 0), 0, 0, []),
  (.aload_n 0, (0, 0, 0, 0), 0, 0, []),
  (.getfield 166, (11, 4, 2, 0), 0, 0, []),
  (.iload 6, (6, 0, 0, 0), 0, 0, []),
  (.invokevirtual 292, (179, 2, 1, 10), 0, 0, []),
  (.ifCond .ne 5, (40, 0, 0, 0), 0, 0, []),
  (.iconst 0, (0, 0, 0, 0), 0, 0, []),
  (.ireturn, (0, 0, 1, 0), 0, 0, []),
  (.iload 6, (6, 0, 0, 0), 0, 0, []),
  (.istore_n 3, (3, 0, 0, 0), 0, 0, []),
  (.aload_n 0, (0, 0, 0, 0), 0, 0, []),
  (.getfield 166, (11, 4, 2, 0), 0, 0, []),
  (.getfield 283, (10, 16, 2, 0), 0, 0, []),
  (.bipush 9, (0, 0, 0, 0), 9, 0, []),
  (.iload_n 1, (1, 0, 0, 0), 0, 0, []),
  (.imul, (0, 0, 0, 0), 0, 0, []),
  (.iload 4, (4, 0, 0, 0), 0, 0, []),
  (.iadd, (0, 0, 0, 0), 0, 0, []),
  (.iconst 1, (0, 0, 0, 0), 1, 0, []),
  (.iadd, (0, 0, 0, 0), 0, 0, []),
  (.iload_n 3, (3, 0, 0, 0), 0, 0, []),
  (.iastore, (0, 0, 0, 0), 0, 0, []),
  (.iinc 4 1, (4, 0, 0, 0), 1, 0, []),
  (.goto (-79), (12, 0, 0, 0), 0, 0, []),
  (.iconst 1, (0, 0, 0, 0), 1, 0, []),
  (.ireturn, (0, 0, 1, 0), 0, 0, [])]
def q_219 : List Nat := [0, 1, 2, 3, 6, 9, 11, 12, 13, 14, 15, 16, 18, 18, 20, 21, 24, 27, 28, 30, 33, 36, 38, 40, 43, 44, 47, 48, 51, 52, 54, 57, 57, 59, 60, 63, 65, 68, 71, 72, 73, 75, 76, 77, 80, 83, 85, 86, 87, 89, 90, 91, 92, 93, 94, 97, 100, 101, 102]
def m_219 : aMt := (yX12_laysWay, cX12_laysWay, 7, (some .boolean), 12, 2, 42, (0, 0), 2, k_219, q_219)
def k_220 : List aM := [(.aload_n 0, (0, 0, 0, 0), 0, 0, []),
  (.aload_n 0, (0, 0, 0, 0), 0, 0, []),
  (.getfield 166, (11, 4, 2, 0), 0, 0, []),
  (.getfield 295, (10, 8, 0, 0), 0, 0, []),
  (.iconst 4, (0, 0, 0, 0), 4, 0, []),
  (.invokevirtual 264, (206, 3, 0, 11), 0, 0, []),
  (.aload_n 0, (0, 0, 0, 0), 0, 0, []),
  (.invokevirtual 274, (207, 1, 2, 11), 0, 0, []),
  (.lstore_n 1, (1, 0, 0, 0), 0, 0, []),
  (.aload_n 0, (0, 0, 0, 0), 0, 0, []),
  (.ldc_w 298, (10, 0, 1, 0), 0, 0, []),
  (.invokevirtual 129, (198, 2, 1, 11), 0, 0, []),
  (.istore_n 3, (3, 0, 0, 0), 0, 0, []),
  (.iload_n 3, (3, 0, 0, 0), 0, 0, []),
  (.ifCond .ne 18, (22, 0, 0, 0), 0, 0, []),
  (.aload_n 0, (0, 0, 0, 0), 0, 0, []),
  (.ldc_w 300, (11, 0, 1, 0), 0, 0, []),
  (.invokevirtual 129, (198, 2, 1, 11), 0, 0, []),
  (.ifCond .ne 8, (22, 0, 0, 0), 0, 0, []),
  (.aload_n 0, (0, 0, 0, 0), 0, 0, []),
  (.iconst 1, (0, 0, 0, 0), 1, 0, []),
  (.invokevirtual 133, (197, 2, 0, 11), 0, 0, []),
  (.nop, (0, 0, 0, 0), 0, 0, [(0, 1), (0, 1), (0, 0), (0, 1), (0, 0), (0, 0), (0, 0)]),
  (.aload_n 0, (0, 0, 0, 0), 0, 0, []),
  (.invokevirtual 126, (196, 1, 0, 11), 0, 0, []),
  (.aload_n 0, (0, 0, 0, 0), 0, 0, []),
  (.invokevirtual 268, (209, 1, 1, 11), 0, 0, []),
  (.istore 4, (4, 0, 0, 0), 0, 0, []),
  (.aload_n 0, (0, 0, 0, 0), 0, 0, []),
  (.getfield 166, (11, 4, 2, 0), 0, 0, []),
  (.getfield 295, (10, 8, 0, 0), 0, 0, []),
  (.istore 5, (5, 0, 0, 0), 0, 0, []),
  (.aload_n 0, (0, 0, 0, 0), 0, 0, []),
  (.getfield 87, (11, 9, 0, 0), 0, 0, []),
  (.iconst 2, (0, 0, 0, 0), 2, 0, []),
  (.if_icmp .eq 11, (40, 0, 0, 0), 0, 0, []),
  (.aload_n 0, (0, 0, 0, 0), 0, 0, []),
  (.iconst 1, (0, 0, 0, 0), 1, 0, []),
  (.invokevirtual 133, (197, 2, 0, 11), 0, 0, []),
  (.goto 20, (48, 0, 0, 0), 0, 0, []),
  (.aload_n 0, (0, 0, 0, 0), 0, 0, []),
  (.iload 5, (5, 0, 0, 0), 0, 0, []),
  (.iload 4, (4, 0, 0, 0), 0, 0, []),
  (.invokevirtual 302, (219, 3, 1, 11), 0, 0, []),
  (.ifCond .ne 9, (48, 0, 0, 0), 0, 0, []),
  (.aload_n 0, (0, 0, 0, 0), 0, 0, []),
  (.bipush 7, (0, 0, 0, 0), 7, 0, []),
  (.invokevirtual 133, (197, 2, 0, 11), 0, 0, []),
  (.nop, (0, 0, 0, 0), 0, 0, [(0, 1), (0, 1), (0, 0), (0, 1), (0, 0), (0, 1), (0, 0)]),
  (.aload_n 0, (0, 0, 0, 0), 0, 0, []),
  (.getfield 107, (11, 14, 0, 0), 0, 0, []),
  (.istore 6, (6, 0, 0, 0), 0, 0, []),
  (.aload_n 0, (0, 0, 0, 0), 0, 0, []),
  (.invokevirtual 126, (196, 1, 0, 11), 0, 0, []),
  (.aload_n 0, (0, 0, 0, 0), 0, 0, []),
  (.getfield 87, (11, 9, 0, 0), 0, 0, []),
  (.iconst 5, (0, 0, 0, 0), 5, 0, []),
  (.if_icmp .ne 4, (59, 0, 0, 0), 0, 0, []),
  (.return_, (0, 0, 0, 0), 0, 0, []),
  (.aload_n 0, (0, 0, 0, 0), 0, 0, []),
  (.lload_n 1, (1, 0, 0, 0), 0, 0, []),
  (.iconst 1, (0, 0, 0, 0), 1, 0, []),
  (.iload 5, (5, 0, 0, 0), 0, 0, []),
  (.invokevirtual 278, (208, 4, 0, 11), 0, 0, []),
  (.aload_n 0, (0, 0, 0, 0), 0, 0, []),
  (.getfield 166, (11, 4, 2, 0), 0, 0, []),
  (.getfield 306, (10, 14, 2, 0), 0, 0, []),
  (.iload 5, (5, 0, 0, 0), 0, 0, []),
  (.iload_n 3, (3, 0, 0, 0), 0, 0, []),
  (.ifCond .eq 7, (72, 0, 0, 0), 0, 0, []),
  (.iconst 0, (0, 0, 0, 0), 0, 0, []),
  (.goto 4, (73, 0, 0, 0), 0, 0, []),
  (.iconst 1, (0, 0, 0, 0), 1, 0, []),
  (.nop, (0, 0, 0, 0), 0, 0, [(0, 1), (0, 0), (0, 0), (0, 0), (0, 0), (0, 1), (0, 1)]),
  (.iastore, (0, 0, 0, 0), 0, 0, []),
  (.aload_n 0, (0, 0, 0, 0), 0, 0, []),
  (.getfield 166, (11, 4, 2, 0), 0, 0, []),
  (.getfield 309, (10, 15, 2, 0), 0, 0, []),
  (.iload 5, (5, 0, 0, 0), 0, 0, []),
  (.iload 6, (6, 0, 0, 0), 0, 0, []),
  (.iastore, (0, 0, 0, 0), 0, 0, []),
  (.aload_n 0, (0, 0, 0, 0), 0, 0, []),
  (.getfield 166, (11, 4, 2, 0), 0, 0, []),
  (.dup, (0, 0, 0, 0), 0, 0, []),
  (.getfield 295, (10, 8, 0, 0), 0, 0, []),
  (.iconst 1, (0, 0, 0, 0), 1, 0, []),
  (.iadd, (0, 0, 0, 0), 0, 0, []),
  (.putfield 295, (10, 8, 0, 0), 0, 0, []),
  (.return_, (0, 0, 0, 0), 0, 0, [])]
def q_220 : List Nat := [0, 1, 2, 5, 8, 9, 12, 13, 16, 17, 18, 21, 24, 25, 26, 29, 30, 33, 36, 39, 40, 41, 44, 44, 45, 48, 49, 52, 54, 55, 58, 61, 63, 64, 67, 68, 71, 72, 73, 76, 79, 80, 82, 84, 87, 90, 91, 93, 96, 96, 97, 100, 102, 103, 106, 107, 110, 111, 114, 115, 116, 117, 118, 120, 123, 124, 127, 130, 132, 133, 136, 137, 140, 141, 141, 142, 143, 146, 149, 151, 153, 154, 155, 158, 159, 162, 163, 164, 167, 168]
def m_220 : aMt := (yX12_readDig, cX12_readDig, 7, none, 12, 10, 286, (0, 0), 0, k_220, q_220)
def k_221 : List aM := [(.aload_n 0, (0, 0, 0, 0), 0, 0, []),
  (.aload_n 0, (0, 0, 0, 0), 0, 0, []),
  (.getfield 166, (11, 4, 2, 0), 0, 0, []),
  (.getfield 311, (10, 9, 0, 0), 0, 0, []),
  (.bipush 6, (0, 0, 0, 0), 6, 0, []),
  (.invokevirtual 264, (206, 3, 0, 11), 0, 0, []),
  (.aload_n 0, (0, 0, 0, 0), 0, 0, []),
  (.invokevirtual 179, (205, 1, 1, 11), 0, 0, []),
  (.ifCond .ne 8, (12, 0, 0, 0), 0, 0, []),
  (.aload_n 0, (0, 0, 0, 0), 0, 0, []),
  (.iconst 1, (0, 0, 0, 0), 1, 0, []),
  (.invokevirtual 133, (197, 2, 0, 11), 0, 0, []),
  (.nop, (0, 0, 0, 0), 0, 0, [(0, 1), (0, 0), (0, 0), (0, 0), (0, 0)]),
  (.aload_n 0, (0, 0, 0, 0), 0, 0, []),
  (.getfield 166, (11, 4, 2, 0), 0, 0, []),
  (.aload_n 0, (0, 0, 0, 0), 0, 0, []),
  (.getfield 103, (11, 15, 1, 0), 0, 0, []),
  (.invokevirtual 183, (175, 2, 1, 10), 0, 0, []),
  (.istore_n 1, (1, 0, 0, 0), 0, 0, []),
  (.iload_n 1, (1, 0, 0, 0), 0, 0, []),
  (.iconst (-1), (0, 0, 0, 0), (-1), 0, []),
  (.if_icmp .eq 15, (28, 0, 0, 0), 0, 0, []),
  (.aload_n 0, (0, 0, 0, 0), 0, 0, []),
  (.getfield 166, (11, 4, 2, 0), 0, 0, []),
  (.getfield 194, (10, 21, 2, 0), 0, 0, []),
  (.iload_n 1, (1, 0, 0, 0), 0, 0, []),
  (.iaload, (13, 0, 0, 0), 0, 0, []),
  (.ifCond .eq 8, (32, 0, 0, 0), 0, 0, []),
  (.nop, (0, 0, 0, 0), 0, 0, [(0, 1), (0, 1), (0, 0), (0, 0), (0, 0)]),
  (.aload_n 0, (0, 0, 0, 0), 0, 0, []),
  (.iconst 2, (0, 0, 0, 0), 2, 0, []),
  (.invokevirtual 133, (197, 2, 0, 11), 0, 0, []),
  (.nop, (0, 0, 0, 0), 0, 0, [(0, 1), (0, 1), (0, 0), (0, 0), (0, 0)]),
  (.aload_n 0, (0, 0, 0, 0), 0, 0, []),
  (.getfield 87, (11, 9, 0, 0), 0, 0, []),
  (.iconst 5, (0, 0, 0, 0), 5, 0, []),
  (.if_icmp .ne 7, (39, 0, 0, 0), 0, 0, []),
  (.iconst 0, (0, 0, 0, 0), 0, 0, []),
  (.goto 12, (44, 0, 0, 0), 0, 0, []),
  (.aload_n 0, (0, 0, 0, 0), 0, 0, []),
  (.getfield 166, (11, 4, 2, 0), 0, 0, []),
  (.getfield 197, (10, 22, 2, 0), 0, 0, []),
  (.iload_n 1, (1, 0, 0, 0), 0, 0, []),
  (.iaload, (13, 0, 0, 0), 0, 0, []),
  (.nop, (0, 0, 0, 0), 0, 0, [(0, 1), (0, 0), (0, 0), (0, 0), (0, 0)]),
  (.istore_n 2, (2, 0, 0, 0), 0, 0, []),
  (.aload_n 0, (0, 0, 0, 0), 0, 0, []),
  (.invokevirtual 126, (196, 1, 0, 11), 0, 0, []),
  (.aload_n 0, (0, 0, 0, 0), 0, 0, []),
  (.iconst 0, (0, 0, 0, 0), 0, 0, []),
  (.bipush 60, (0, 0, 0, 0), 60, 0, []),
  (.invokevirtual 141, (201, 3, 1, 11), 0, 0, []),
  (.istore_n 3, (3, 0, 0, 0), 0, 0, []),
  (.aload_n 0, (0, 0, 0, 0), 0, 0, []),
  (.getfield 87, (11, 9, 0, 0), 0, 0, []),
  (.iconst 5, (0, 0, 0, 0), 5, 0, []),
  (.if_icmp .eq 20, (66, 0, 0, 0), 0, 0, []),
  (.aload_n 0, (0, 0, 0, 0), 0, 0, []),
  (.getfield 166, (11, 4, 2, 0), 0, 0, []),
  (.iload_n 2, (2, 0, 0, 0), 0, 0, []),
  (.iload_n 3, (3, 0, 0, 0), 0, 0, []),
  (.invokevirtual 314, (176, 3, 1, 10), 0, 0, []),
  (.ifCond .eq 8, (66, 0, 0, 0), 0, 0, []),
  (.aload_n 0, (0, 0, 0, 0), 0, 0, []),
  (.iconst 3, (0, 0, 0, 0), 3, 0, []),
  (.invokevirtual 133, (197, 2, 0, 11), 0, 0, []),
  (.nop, (0, 0, 0, 0), 0, 0, [(0, 1), (0, 0), (0, 1), (0, 1), (0, 0)]),
  (.aload_n 0, (0, 0, 0, 0), 0, 0, []),
  (.invokevirtual 126, (196, 1, 0, 11), 0, 0, []),
  (.aload_n 0, (0, 0, 0, 0), 0, 0, []),
  (.iconst 0, (0, 0, 0, 0), 0, 0, []),
  (.bipush 14, (0, 0, 0, 0), 14, 0, []),
  (.invokevirtual 149, (202, 3, 1, 11), 0, 0, []),
  (.istore 4, (4, 0, 0, 0), 0, 0, []),
  (.aload_n 0, (0, 0, 0, 0), 0, 0, []),
  (.getfield 87, (11, 9, 0, 0), 0, 0, []),
  (.iconst 5, (0, 0, 0, 0), 5, 0, []),
  (.if_icmp .ne 4, (79, 0, 0, 0), 0, 0, []),
  (.return_, (0, 0, 0, 0), 0, 0, []),
  (.aload_n 0, (0, 0, 0, 0), 0, 0, []),
  (.getfield 166, (11, 4, 2, 0), 0, 0, []),
  (.getfield 317, (10, 17, 2, 0), 0, 0, []),
  (.aload_n 0, (0, 0, 0, 0), 0, 0, []),
  (.getfield 166, (11, 4, 2, 0), 0, 0, []),
  (.getfield 311, (10, 9, 0, 0), 0, 0, []),
  (.iload_n 2, (2, 0, 0, 0), 0, 0, []),
  (.iastore, (0, 0, 0, 0), 0, 0, []),
  (.aload_n 0, (0, 0, 0, 0), 0, 0, []),
  (.getfield 166, (11, 4, 2, 0), 0, 0, []),
  (.getfield 319, (10, 18, 2, 0), 0, 0, []),
  (.aload_n 0, (0, 0, 0, 0), 0, 0, []),
  (.getfield 166, (11, 4, 2, 0), 0, 0, []),
  (.getfield 311, (10, 9, 0, 0), 0, 0, []),
  (.iload_n 3, (3, 0, 0, 0), 0, 0, []),
  (.iastore, (0, 0, 0, 0), 0, 0, []),
  (.aload_n 0, (0, 0, 0, 0), 0, 0, []),
  (.getfield 166, (11, 4, 2, 0), 0, 0, []),
  (.getfield 322, (10, 19, 2, 0), 0, 0, []),
  (.aload_n 0, (0, 0, 0, 0), 0, 0, []),
  (.getfield 166, (11, 4, 2, 0), 0, 0, []),
  (.getfield 311, (10, 9, 0, 0), 0, 0, []),
  (.iload 4, (4, 0, 0, 0), 0, 0, []),
  (.iastore, (0, 0, 0, 0), 0, 0, []),
  (.aload_n 0, (0, 0, 0, 0), 0, 0, []),
  (.getfield 166, (11, 4, 2, 0), 0, 0, []),
  (.dup, (0, 0, 0, 0), 0, 0, []),
  (.getfield 311, (10, 9, 0, 0), 0, 0, []),
  (.iconst 1, (0, 0, 0, 0), 1, 0, []),
  (.iadd, (0, 0, 0, 0), 0, 0, []),
  (.putfield 311, (10, 9, 0, 0), 0, 0, []),
  (.return_, (0, 0, 0, 0), 0, 0, [])]
def q_221 : List Nat := [0, 1, 2, 5, 8, 10, 13, 14, 17, 20, 21, 22, 25, 25, 26, 29, 30, 33, 36, 37, 38, 39, 42, 43, 46, 49, 50, 51, 54, 54, 55, 56, 59, 59, 60, 63, 64, 67, 68, 71, 72, 75, 78, 79, 80, 80, 81, 82, 85, 86, 87, 89, 92, 93, 94, 97, 98, 101, 102, 105, 106, 107, 110, 113, 114, 115, 118, 118, 119, 122, 123, 124, 126, 129, 131, 132, 135, 136, 139, 140, 141, 144, 147, 148, 151, 154, 155, 156, 157, 160, 163, 164, 167, 170, 171, 172, 173, 176, 179, 180, 183, 186, 188, 189, 190, 193, 194, 197, 198, 199, 202, 203]
def m_221 : aMt := (yX12_readHeard, cX12_readHeard, 5, none, 12, 9, 264, (0, 0), 0, k_221, q_221)
def k_222 : List aM := [(.aload_n 0, (0, 0, 0, 0), 0, 0, []),
  (.iconst 0, (0, 0, 0, 0), 0, 0, []),
  (.putfield 55, (11, 0, 0, 0), 0, 0, []),
  (.aload_n 0, (0, 0, 0, 0), 0, 0, []),
  (.getfield 325, (11, 6, 0, 0), 0, 0, []),
  (.bipush 20, (0, 0, 0, 0), 20, 0, []),
  (.iadd, (0, 0, 0, 0), 0, 0, []),
  (.sipush 700, (0, 0, 0, 0), 700, 0, []),
  (.if_icmp .le 5, (11, 0, 0, 0), 0, 0, []),
  (.iconst (-1), (0, 0, 0, 0), (-1), 0, []),
  (.ireturn, (0, 0, 0, 0), 0, 0, []),
  (.iconst 0, (0, 0, 0, 0), 0, 0, []),
  (.istore 6, (6, 0, 0, 0), 0, 0, []),
  (.nop, (0, 0, 0, 0), 0, 0, [(0, 1), (0, 1), (0, 1), (0, 1), (0, 1), (0, 1), (0, 1), (0, 0)]),
  (.iload 6, (6, 0, 0, 0), 0, 0, []),
  (.bipush 20, (0, 0, 0, 0), 20, 0, []),
  (.if_icmp .ge 90, (63, 0, 0, 0), 0, 0, []),
  (.iload 6, (6, 0, 0, 0), 0, 0, []),
  (.iconst 4, (0, 0, 0, 0), 4, 0, []),
  (.if_icmp .ge 7, (22, 0, 0, 0), 0, 0, []),
  (.iload_n 1, (1, 0, 0, 0), 0, 0, []),
  (.goto 39, (38, 0, 0, 0), 0, 0, []),
  (.iload 6, (6, 0, 0, 0), 0, 0, []),
  (.bipush 8, (0, 0, 0, 0), 8, 0, []),
  (.if_icmp .ge 7, (27, 0, 0, 0), 0, 0, []),
  (.iload_n 2, (2, 0, 0, 0), 0, 0, []),
  (.goto 28, (38, 0, 0, 0), 0, 0, []),
  (.iload 6, (6, 0, 0, 0), 0, 0, []),
  (.bipush 12, (0, 0, 0, 0), 12, 0, []),
  (.if_icmp .ge 7, (32, 0, 0, 0), 0, 0, []),
  (.iload_n 3, (3, 0, 0, 0), 0, 0, []),
  (.goto 17, (38, 0, 0, 0), 0, 0, []),
  (.iload 6, (6, 0, 0, 0), 0, 0, []),
  (.bipush 16, (0, 0, 0, 0), 16, 0, []),
  (.if_icmp .ge 8, (37, 0, 0, 0), 0, 0, []),
  (.iload 4, (4, 0, 0, 0), 0, 0, []),
  (.goto 5, (38, 0, 0, 0), 0, 0, []),
  (.iload 5, (5, 0, 0, 0), 0, 0, []),
  (.nop, (0, 0, 0, 0), 0, 0, [(0, 1), (0, 1), (0, 1), (0, 1), (0, 1), (0, 1), (0, 1), (0, 0)]),
  (.istore 7, (7, 0, 0, 0), 0, 0, []),
  (.aload_n 0, (0, 0, 0, 0), 0, 0, []),
  (.getfield 13, (11, 5, 2, 0), 0, 0, []),
  (.aload_n 0, (0, 0, 0, 0), 0, 0, []),
  (.getfield 325, (11, 6, 0, 0), 0, 0, []),
  (.iload 7, (7, 0, 0, 0), 0, 0, []),
  (.bipush 24, (0, 0, 0, 0), 24, 0, []),
  (.bipush 8, (0, 0, 0, 0), 8, 0, []),
  (.iload 6, (6, 0, 0, 0), 0, 0, []),
  (.iconst 4, (0, 0, 0, 0), 4, 0, []),
  (.irem, (0, 0, 0, 0), 0, 0, []),
  (.imul, (0, 0, 0, 0), 0, 0, []),
  (.isub, (0, 0, 0, 0), 0, 0, []),
  (.ishr, (0, 0, 0, 0), 0, 0, []),
  (.i2b, (0, 0, 0, 0), 0, 0, []),
  (.bastore, (12, 0, 0, 0), 0, 0, []),
  (.aload_n 0, (0, 0, 0, 0), 0, 0, []),
  (.dup, (0, 0, 0, 0), 0, 0, []),
  (.getfield 325, (11, 6, 0, 0), 0, 0, []),
  (.iconst 1, (0, 0, 0, 0), 1, 0, []),
  (.iadd, (0, 0, 0, 0), 0, 0, []),
  (.putfield 325, (11, 6, 0, 0), 0, 0, []),
  (.iinc 6 1, (6, 0, 0, 0), 1, 0, []),
  (.goto (-91), (13, 0, 0, 0), 0, 0, []),
  (.aload_n 0, (0, 0, 0, 0), 0, 0, []),
  (.getfield 325, (11, 6, 0, 0), 0, 0, []),
  (.ireturn, (0, 0, 0, 0), 0, 0, [])]
def q_222 : List Nat := [0, 1, 2, 5, 6, 9, 11, 12, 15, 18, 19, 20, 21, 23, 23, 25, 27, 30, 32, 33, 36, 37, 40, 42, 44, 47, 48, 51, 53, 55, 58, 59, 62, 64, 66, 69, 71, 74, 76, 76, 78, 79, 82, 83, 86, 88, 90, 92, 94, 95, 96, 97, 98, 99, 100, 101, 102, 103, 106, 107, 108, 111, 114, 117, 118, 121, 122]
def m_222 : aMt := (yX12_feed, cX12_feed, 8, (some .int), 12, 0, 0, (0, 0), 5, k_222, q_222)
def k_223 : List aM := [(.aload_n 0, (0, 0, 0, 0), 0, 0, []),
  (.iconst 0, (0, 0, 0, 0), 0, 0, []),
  (.putfield 55, (11, 0, 0, 0), 0, 0, []),
  (.iload_n 1, (1, 0, 0, 0), 0, 0, []),
  (.ifCond .lt 11, (9, 0, 0, 0), 0, 0, []),
  (.iload_n 1, (1, 0, 0, 0), 0, 0, []),
  (.aload_n 0, (0, 0, 0, 0), 0, 0, []),
  (.getfield 325, (11, 6, 0, 0), 0, 0, []),
  (.if_icmp .le 9, (14, 0, 0, 0), 0, 0, []),
  (.nop, (0, 0, 0, 0), 0, 0, [(0, 1), (0, 0), (0, 0)]),
  (.aload_n 0, (0, 0, 0, 0), 0, 0, []),
  (.iconst 2, (0, 0, 0, 0), 2, 0, []),
  (.invokevirtual 61, (182, 2, 1, 11), 0, 0, []),
  (.ireturn, (0, 0, 0, 0), 0, 0, []),
  (.aload_n 0, (0, 0, 0, 0), 0, 0, []),
  (.iload_n 1, (1, 0, 0, 0), 0, 0, []),
  (.putfield 72, (11, 7, 0, 0), 0, 0, []),
  (.aload_n 0, (0, 0, 0, 0), 0, 0, []),
  (.iconst 0, (0, 0, 0, 0), 0, 0, []),
  (.putfield 325, (11, 6, 0, 0), 0, 0, []),
  (.aload_n 0, (0, 0, 0, 0), 0, 0, []),
  (.iconst 0, (0, 0, 0, 0), 0, 0, []),
  (.putfield 90, (11, 8, 0, 0), 0, 0, []),
  (.aload_n 0, (0, 0, 0, 0), 0, 0, []),
  (.iconst 0, (0, 0, 0, 0), 0, 0, []),
  (.putfield 116, (11, 12, 0, 0), 0, 0, []),
  (.aload_n 0, (0, 0, 0, 0), 0, 0, []),
  (.new 171, (10, 23, 0, 0), 0, 0, []),
  (.dup, (0, 0, 0, 0), 0, 0, []),
  (.invokespecial 328, (174, 1, 0, 99), 0, 0, [(0, 11), (0, 154)]),
  (.putfield 166, (11, 4, 2, 0), 0, 0, []),
  (.aload_n 0, (0, 0, 0, 0), 0, 0, []),
  (.iconst 0, (0, 0, 0, 0), 0, 0, []),
  (.putfield 87, (11, 9, 0, 0), 0, 0, []),
  (.aload_n 0, (0, 0, 0, 0), 0, 0, []),
  (.invokevirtual 126, (196, 1, 0, 11), 0, 0, []),
  (.aload_n 0, (0, 0, 0, 0), 0, 0, []),
  (.invokevirtual 329, (210, 1, 0, 11), 0, 0, []),
  (.aload_n 0, (0, 0, 0, 0), 0, 0, []),
  (.getfield 116, (11, 12, 0, 0), 0, 0, []),
  (.ifCond .le 18, (50, 0, 0, 0), 0, 0, []),
  (.aload_n 0, (0, 0, 0, 0), 0, 0, []),
  (.iconst 4, (0, 0, 0, 0), 4, 0, []),
  (.putfield 58, (11, 1, 0, 0), 0, 0, []),
  (.aload_n 0, (0, 0, 0, 0), 0, 0, []),
  (.aload_n 0, (0, 0, 0, 0), 0, 0, []),
  (.getfield 119, (11, 13, 0, 0), 0, 0, []),
  (.putfield 9, (11, 2, 0, 0), 0, 0, []),
  (.iconst (-1), (0, 0, 0, 0), (-1), 0, []),
  (.ireturn, (0, 0, 0, 0), 0, 0, []),
  (.aload_n 0, (0, 0, 0, 0), 0, 0, []),
  (.aload_n 0, (0, 0, 0, 0), 0, 0, []),
  (.getfield 166, (11, 4, 2, 0), 0, 0, []),
  (.putfield 332, (11, 3, 2, 0), 0, 0, []),
  (.iconst 0, (0, 0, 0, 0), 0, 0, []),
  (.istore_n 2, (2, 0, 0, 0), 0, 0, []),
  (.nop, (0, 0, 0, 0), 0, 0, [(0, 1), (0, 0), (0, 1)]),
  (.iload_n 2, (2, 0, 0, 0), 0, 0, []),
  (.sipush 145, (0, 0, 0, 0), 145, 0, []),
  (.if_icmp .ge 16, (67, 0, 0, 0), 0, 0, []),
  (.aload_n 0, (0, 0, 0, 0), 0, 0, []),
  (.getfield 21, (11, 17, 2, 0), 0, 0, []),
  (.iload_n 2, (2, 0, 0, 0), 0, 0, []),
  (.iconst 0, (0, 0, 0, 0), 0, 0, []),
  (.iastore, (0, 0, 0, 0), 0, 0, []),
  (.iinc 2 1, (2, 0, 0, 0), 1, 0, []),
  (.goto (-17), (56, 0, 0, 0), 0, 0, []),
  (.iconst 0, (0, 0, 0, 0), 0, 0, []),
  (.istore_n 2, (2, 0, 0, 0), 0, 0, []),
  (.nop, (0, 0, 0, 0), 0, 0, [(0, 1), (0, 0), (0, 1)]),
  (.iload_n 2, (2, 0, 0, 0), 0, 0, []),
  (.aload_n 0, (0, 0, 0, 0), 0, 0, []),
  (.getfield 332, (11, 3, 2, 0), 0, 0, []),
  (.getfield 271, (10, 7, 0, 0), 0, 0, []),
  (.if_icmp .ge 27, (88, 0, 0, 0), 0, 0, []),
  (.aload_n 0, (0, 0, 0, 0), 0, 0, []),
  (.getfield 21, (11, 17, 2, 0), 0, 0, []),
  (.bipush 12, (0, 0, 0, 0), 12, 0, []),
  (.iload_n 2, (2, 0, 0, 0), 0, 0, []),
  (.iadd, (0, 0, 0, 0), 0, 0, []),
  (.aload_n 0, (0, 0, 0, 0), 0, 0, []),
  (.getfield 332, (11, 3, 2, 0), 0, 0, []),
  (.getfield 281, (10, 13, 2, 0), 0, 0, []),
  (.iload_n 2, (2, 0, 0, 0), 0, 0, []),
  (.iaload, (13, 0, 0, 0), 0, 0, []),
  (.iastore, (0, 0, 0, 0), 0, 0, []),
  (.iinc 2 1, (2, 0, 0, 0), 1, 0, []),
  (.goto (-32), (69, 0, 0, 0), 0, 0, []),
  (.iconst 0, (0, 0, 0, 0), 0, 0, []),
  (.istore_n 2, (2, 0, 0, 0), 0, 0, []),
  (.nop, (0, 0, 0, 0), 0, 0, [(0, 1), (0, 0), (0, 1)]),
  (.iload_n 2, (2, 0, 0, 0), 0, 0, []),
  (.aload_n 0, (0, 0, 0, 0), 0, 0, []),
  (.getfield 332, (11, 3, 2, 0), 0, 0, []),
  (.getfield 295, (10, 8, 0, 0), 0, 0, []),
  (.if_icmp .ge 24, (108, 0, 0, 0), 0, 0, []),
  (.aload_n 0, (0, 0, 0, 0), 0, 0, []),
  (.getfield 21, (11, 17, 2, 0), 0, 0, []),
  (.bipush 17, (0, 0, 0, 0), 17, 0, []),
  (.aload_n 0, (0, 0, 0, 0), 0, 0, []),
  (.iload_n 2, (2, 0, 0, 0), 0, 0, []),
  (.iconst 0, (0, 0, 0, 0), 0, 0, []),
  (.invokevirtual 334, (232, 3, 1, 11), 0, 0, []),
  (.iadd, (0, 0, 0, 0), 0, 0, []),
  (.iconst 1, (0, 0, 0, 0), 1, 0, []),
  (.iastore, (0, 0, 0, 0), 0, 0, []),
  (.iinc 2 1, (2, 0, 0, 0), 1, 0, []),
  (.goto (-29), (90, 0, 0, 0), 0, 0, []),
  (.iconst 0, (0, 0, 0, 0), 0, 0, []),
  (.istore_n 2, (2, 0, 0, 0), 0, 0, []),
  (.nop, (0, 0, 0, 0), 0, 0, [(0, 1), (0, 0), (0, 1)]),
  (.iload_n 2, (2, 0, 0, 0), 0, 0, []),
  (.aload_n 0, (0, 0, 0, 0), 0, 0, []),
  (.getfield 332, (11, 3, 2, 0), 0, 0, []),
  (.getfield 295, (10, 8, 0, 0), 0, 0, []),
  (.if_icmp .ge 14, (121, 0, 0, 0), 0, 0, []),
  (.aload_n 0, (0, 0, 0, 0), 0, 0, []),
  (.iload_n 2, (2, 0, 0, 0), 0, 0, []),
  (.invokevirtual 337, (236, 2, 0, 11), 0, 0, []),
  (.iinc 2 1, (2, 0, 0, 0), 1, 0, []),
  (.goto (-19), (110, 0, 0, 0), 0, 0, []),
  (.iconst 0, (0, 0, 0, 0), 0, 0, []),
  (.istore_n 2, (2, 0, 0, 0), 0, 0, []),
  (.nop, (0, 0, 0, 0), 0, 0, [(0, 1), (0, 0), (0, 1)]),
  (.iload_n 2, (2, 0, 0, 0), 0, 0, []),
  (.sipush 145, (0, 0, 0, 0), 145, 0, []),
  (.if_icmp .ge 21, (137, 0, 0, 0), 0, 0, []),
  (.aload_n 0, (0, 0, 0, 0), 0, 0, []),
  (.getfield 17, (11, 16, 2, 0), 0, 0, []),
  (.iload_n 2, (2, 0, 0, 0), 0, 0, []),
  (.aload_n 0, (0, 0, 0, 0), 0, 0, []),
  (.getfield 21, (11, 17, 2, 0), 0, 0, []),
  (.iload_n 2, (2, 0, 0, 0), 0, 0, []),
  (.iaload, (13, 0, 0, 0), 0, 0, []),
  (.iastore, (0, 0, 0, 0), 0, 0, []),
  (.iinc 2 1, (2, 0, 0, 0), 1, 0, []),
  (.goto (-22), (123, 0, 0, 0), 0, 0, []),
  (.aload_n 0, (0, 0, 0, 0), 0, 0, []),
  (.iconst 0, (0, 0, 0, 0), 0, 0, []),
  (.putfield 340, (11, 20, 0, 0), 0, 0, []),
  (.aload_n 0, (0, 0, 0, 0), 0, 0, []),
  (.iconst 0, (0, 0, 0, 0), 0, 0, []),
  (.putfield 343, (11, 21, 0, 0), 0, 0, []),
  (.aload_n 0, (0, 0, 0, 0), 0, 0, []),
  (.aload_n 0, (0, 0, 0, 0), 0, 0, []),
  (.getfield 332, (11, 3, 2, 0), 0, 0, []),
  (.getfield 295, (10, 8, 0, 0), 0, 0, []),
  (.invokevirtual 65, (185, 2, 1, 11), 0, 0, []),
  (.ireturn, (0, 0, 0, 0), 0, 0, [])]
def q_223 : List Nat := [0, 1, 2, 5, 6, 9, 10, 11, 14, 17, 17, 18, 19, 22, 23, 24, 25, 28, 29, 30, 33, 34, 35, 38, 39, 40, 43, 44, 47, 48, 51, 54, 55, 56, 59, 60, 63, 64, 67, 68, 71, 74, 75, 76, 79, 80, 81, 84, 87, 88, 89, 90, 91, 94, 97, 98, 99, 99, 100, 103, 106, 107, 110, 111, 112, 113, 116, 119, 120, 121, 121, 122, 123, 126, 129, 132, 133, 136, 138, 139, 140, 141, 144, 147, 148, 149, 150, 153, 156, 157, 158, 158, 159, 160, 163, 166, 169, 170, 173, 175, 176, 177, 178, 181, 182, 183, 184, 187, 190, 191, 192, 192, 193, 194, 197, 200, 203, 204, 205, 208, 211, 214, 215, 216, 216, 217, 220, 223, 224, 227, 228, 229, 232, 233, 234, 235, 238, 241, 242, 243, 246, 247, 248, 251, 252, 253, 256, 259, 262, 263]
def m_223 : aMt := (yX12_field, cX12_field, 3, (some .int), 12, 13, 353, (12, 177), 1, k_223, q_223)
def k_224 : List aM := [(.aload_n 0, (0, 0, 0, 0), 0, 0, []),
  (.iconst 0, (0, 0, 0, 0), 0, 0, []),
  (.putfield 55, (11, 0, 0, 0), 0, 0, []),
  (.aload_n 0, (0, 0, 0, 0), 0, 0, []),
  (.getfield 116, (11, 12, 0, 0), 0, 0, []),
  (.ireturn, (0, 0, 0, 0), 0, 0, [])]
def q_224 : List Nat := [0, 1, 2, 5, 6, 9, 10]
def m_224 : aMt := (yX12_fault, cX12_fault, 1, (some .int), 12, 0, 0, (0, 0), 0, k_224, q_224)
def k_225 : List aM := [(.aload_n 0, (0, 0, 0, 0), 0, 0, []),
  (.iconst 0, (0, 0, 0, 0), 0, 0, []),
  (.putfield 55, (11, 0, 0, 0), 0, 0, []),
  (.aload_n 0, (0, 0, 0, 0), 0, 0, []),
  (.getfield 9, (11, 2, 0, 0), 0, 0, []),
  (.ireturn, (0, 0, 0, 0), 0, 0, [])]
def q_225 : List Nat := [0, 1, 2, 5, 6, 9, 10]
def m_225 : aMt := (yX12_where, cX12_where, 1, (some .int), 12, 0, 0, (0, 0), 0, k_225, q_225)
def k_226 : List aM := [(.aload_n 0, (0, 0, 0, 0), 0, 0, []),
  (.getfield 332, (11, 3, 3, 0), 0, 0, []),
  (.ifnull 37, (19, 0, 0, 0), 0, 0, []),
  (.iload_n 1, (1, 0, 0, 0), 0, 0, []),
  (.ifCond .lt 33, (19, 0, 0, 0), 0, 0, []),
  (.iload_n 1, (1, 0, 0, 0), 0, 0, []),
  (.aload_n 0, (0, 0, 0, 0), 0, 0, []),
  (.getfield 332, (11, 3, 2, 0), 0, 0, []),
  (.getfield 200, (10, 4, 0, 0), 0, 0, []),
  (.if_icmp .ge 22, (19, 0, 0, 0), 0, 0, []),
  (.iload_n 2, (2, 0, 0, 0), 0, 0, []),
  (.ifCond .lt 18, (19, 0, 0, 0), 0, 0, []),
  (.iload_n 2, (2, 0, 0, 0), 0, 0, []),
  (.aload_n 0, (0, 0, 0, 0), 0, 0, []),
  (.getfield 332, (11, 3, 2, 0), 0, 0, []),
  (.getfield 170, (10, 5, 0, 0), 0, 0, []),
  (.if_icmp .ge 7, (19, 0, 0, 0), 0, 0, []),
  (.iconst 1, (0, 0, 0, 0), 1, 0, []),
  (.goto 4, (20, 0, 0, 0), 0, 0, []),
  (.iconst 0, (0, 0, 0, 0), 0, 0, []),
  (.ireturn, (0, 0, 1, 0), 0, 0, [])]
def q_226 : List Nat := [0, 1, 4, 7, 8, 11, 12, 13, 16, 19, 22, 23, 26, 27, 28, 31, 34, 37, 38, 41, 42, 43]
def m_226 : aMt := (yX12_isIn, cX12_isIn, 3, (some .boolean), 12, 0, 0, (0, 0), 2, k_226, q_226)
def k_227 : List aM := [(.aload_n 0, (0, 0, 0, 0), 0, 0, []),
  (.getfield 332, (11, 3, 3, 0), 0, 0, []),
  (.ifnull 22, (12, 0, 0, 0), 0, 0, []),
  (.iload_n 1, (1, 0, 0, 0), 0, 0, []),
  (.ifCond .lt 18, (12, 0, 0, 0), 0, 0, []),
  (.iload_n 1, (1, 0, 0, 0), 0, 0, []),
  (.aload_n 0, (0, 0, 0, 0), 0, 0, []),
  (.getfield 332, (11, 3, 2, 0), 0, 0, []),
  (.getfield 295, (10, 8, 0, 0), 0, 0, []),
  (.if_icmp .ge 7, (12, 0, 0, 0), 0, 0, []),
  (.iconst 1, (0, 0, 0, 0), 1, 0, []),
  (.goto 4, (13, 0, 0, 0), 0, 0, []),
  (.iconst 0, (0, 0, 0, 0), 0, 0, []),
  (.ireturn, (0, 0, 1, 0), 0, 0, [])]
def q_227 : List Nat := [0, 1, 4, 7, 8, 11, 12, 13, 16, 19, 22, 23, 26, 27, 28]
def m_227 : aMt := (yX12_isDig, cX12_isDig, 2, (some .boolean), 12, 0, 0, (0, 0), 1, k_227, q_227)
def k_228 : List aM := [(.aload_n 0, (0, 0, 0, 0), 0, 0, []),
  (.getfield 332, (11, 3, 3, 0), 0, 0, []),
  (.ifnull 22, (12, 0, 0, 0), 0, 0, []),
  (.iload_n 1, (1, 0, 0, 0), 0, 0, []),
  (.ifCond .lt 18, (12, 0, 0, 0), 0, 0, []),
  (.iload_n 1, (1, 0, 0, 0), 0, 0, []),
  (.aload_n 0, (0, 0, 0, 0), 0, 0, []),
  (.getfield 332, (11, 3, 2, 0), 0, 0, []),
  (.getfield 271, (10, 7, 0, 0), 0, 0, []),
  (.if_icmp .ge 7, (12, 0, 0, 0), 0, 0, []),
  (.iconst 1, (0, 0, 0, 0), 1, 0, []),
  (.goto 4, (13, 0, 0, 0), 0, 0, []),
  (.iconst 0, (0, 0, 0, 0), 0, 0, []),
  (.ireturn, (0, 0, 1, 0), 0, 0, [])]
def q_228 : List Nat := [0, 1, 4, 7, 8, 11, 12, 13, 16, 19, 22, 23, 26, 27, 28]
def m_228 : aMt := (yX12_isDrum, cX12_isDrum, 2, (some .boolean), 12, 0, 0, (0, 0), 1, k_228, q_228)
def k_229 : List aM := [(.bipush 8, (0, 0, 0, 0), 8, 0, []),
  (.iload_n 1, (1, 0, 0, 0), 0, 0, []),
  (.imul, (0, 0, 0, 0), 0, 0, []),
  (.iload_n 0, (0, 0, 0, 0), 0, 0, []),
  (.iadd, (0, 0, 0, 0), 0, 0, []),
  (.ireturn, (0, 0, 0, 0), 0, 0, [])]
def q_229 : List Nat := [0, 2, 3, 4, 5, 6, 7]
def m_229 : aMt := (yX12_cellOf, cX12_cellOf, 2, (some .int), 12, 0, 0, (0, 0), 2, k_229, q_229)
def k_230 : List aM := [(.iload_n 0, (0, 0, 0, 0), 0, 0, []),
  (.bipush 8, (0, 0, 0, 0), 8, 0, []),
  (.irem, (0, 0, 0, 0), 0, 0, []),
  (.bipush 10, (0, 0, 0, 0), 10, 0, []),
  (.iload_n 0, (0, 0, 0, 0), 0, 0, []),
  (.bipush 8, (0, 0, 0, 0), 8, 0, []),
  (.idiv, (0, 0, 0, 0), 0, 0, []),
  (.imul, (0, 0, 0, 0), 0, 0, []),
  (.iadd, (0, 0, 0, 0), 0, 0, []),
  (.ireturn, (0, 0, 0, 0), 0, 0, [])]
def q_230 : List Nat := [0, 1, 3, 4, 6, 7, 9, 10, 11, 12, 13]
def m_230 : aMt := (yX12_told, cX12_told, 1, (some .int), 12, 0, 0, (0, 0), 1, k_230, q_230)
def k_231 : List aM := [(.iconst 0, (0, 0, 0, 0), 0, 0, []),
  (.istore_n 1, (1, 0, 0, 0), 0, 0, []),
  (.nop, (0, 0, 0, 0), 0, 0, [(0, 1), (0, 1)]),
  (.iload_n 1, (1, 0, 0, 0), 0, 0, []),
  (.sipush 145, (0, 0, 0, 0), 145, 0, []),
  (.if_icmp .ge 21, (16, 0, 0, 0), 0, 0, []),
  (.aload_n 0, (0, 0, 0, 0), 0, 0, []),
  (.getfield 21, (11, 17, 2, 0), 0, 0, []),
  (.iload_n 1, (1, 0, 0, 0), 0, 0, []),
  (.aload_n 0, (0, 0, 0, 0), 0, 0, []),
  (.getfield 17, (11, 16, 2, 0), 0, 0, []),
  (.iload_n 1, (1, 0, 0, 0), 0, 0, []),
  (.iaload, (13, 0, 0, 0), 0, 0, []),
  (.iastore, (0, 0, 0, 0), 0, 0, []),
  (.iinc 1 1, (1, 0, 0, 0), 1, 0, []),
  (.goto (-22), (2, 0, 0, 0), 0, 0, []),
  (.return_, (0, 0, 0, 0), 0, 0, [])]
def q_231 : List Nat := [0, 1, 2, 2, 3, 6, 9, 10, 13, 14, 15, 18, 19, 20, 21, 24, 27, 28]
def m_231 : aMt := (yX12_works, cX12_works, 2, none, 12, 0, 0, (0, 0), 0, k_231, q_231)
def k_232 : List aM := [(.aload_n 0, (0, 0, 0, 0), 0, 0, []),
  (.getfield 332, (11, 3, 2, 0), 0, 0, []),
  (.getfield 283, (10, 16, 2, 0), 0, 0, []),
  (.bipush 9, (0, 0, 0, 0), 9, 0, []),
  (.iload_n 1, (1, 0, 0, 0), 0, 0, []),
  (.imul, (0, 0, 0, 0), 0, 0, []),
  (.iload_n 2, (2, 0, 0, 0), 0, 0, []),
  (.iadd, (0, 0, 0, 0), 0, 0, []),
  (.iaload, (13, 0, 0, 0), 0, 0, []),
  (.ireturn, (0, 0, 0, 0), 0, 0, [])]
def q_232 : List Nat := [0, 1, 4, 7, 9, 10, 11, 12, 13, 14, 15]
def m_232 : aMt := (yX12_wayAt, cX12_wayAt, 3, (some .int), 12, 0, 0, (0, 0), 2, k_232, q_232)
def k_233 : List aM := [(.aload_n 0, (0, 0, 0, 0), 0, 0, []),
  (.iload_n 1, (1, 0, 0, 0), 0, 0, []),
  (.aload_n 0, (0, 0, 0, 0), 0, 0, []),
  (.getfield 21, (11, 17, 2, 0), 0, 0, []),
  (.iload_n 1, (1, 0, 0, 0), 0, 0, []),
  (.iaload, (13, 0, 0, 0), 0, 0, []),
  (.invokevirtual 334, (232, 3, 1, 11), 0, 0, []),
  (.ireturn, (0, 0, 0, 0), 0, 0, [])]
def q_233 : List Nat := [0, 1, 2, 3, 6, 7, 8, 11, 12]
def m_233 : aMt := (yX12_placeOf, cX12_placeOf, 2, (some .int), 12, 1, 22, (0, 0), 1, k_233, q_233)
def k_234 : List aM := [(.aload_n 0, (0, 0, 0, 0), 0, 0, []),
  (.getfield 21, (11, 17, 2, 0), 0, 0, []),
  (.bipush 8, (0, 0, 0, 0), 8, 0, []),
  (.iload_n 1, (1, 0, 0, 0), 0, 0, []),
  (.iadd, (0, 0, 0, 0), 0, 0, []),
  (.iaload, (13, 0, 0, 0), 0, 0, []),
  (.ifCond .ne 25, (19, 0, 0, 0), 0, 0, []),
  (.aload_n 0, (0, 0, 0, 0), 0, 0, []),
  (.getfield 21, (11, 17, 2, 0), 0, 0, []),
  (.iload_n 1, (1, 0, 0, 0), 0, 0, []),
  (.iaload, (13, 0, 0, 0), 0, 0, []),
  (.aload_n 0, (0, 0, 0, 0), 0, 0, []),
  (.getfield 332, (11, 3, 2, 0), 0, 0, []),
  (.getfield 309, (10, 15, 2, 0), 0, 0, []),
  (.iload_n 1, (1, 0, 0, 0), 0, 0, []),
  (.iaload, (13, 0, 0, 0), 0, 0, []),
  (.if_icmp .ge 7, (19, 0, 0, 0), 0, 0, []),
  (.iconst 1, (0, 0, 0, 0), 1, 0, []),
  (.goto 4, (20, 0, 0, 0), 0, 0, []),
  (.iconst 0, (0, 0, 0, 0), 0, 0, []),
  (.ireturn, (0, 0, 1, 0), 0, 0, [])]
def q_234 : List Nat := [0, 1, 4, 6, 7, 8, 9, 12, 13, 16, 17, 18, 19, 22, 25, 26, 27, 30, 31, 34, 35, 36]
def m_234 : aMt := (yX12_isDigging, cX12_isDigging, 2, (some .boolean), 12, 0, 0, (0, 0), 1, k_234, q_234)
def k_235 : List aM := [(.aload_n 0, (0, 0, 0, 0), 0, 0, []),
  (.getfield 21, (11, 17, 2, 0), 0, 0, []),
  (.bipush 17, (0, 0, 0, 0), 17, 0, []),
  (.iload_n 1, (1, 0, 0, 0), 0, 0, []),
  (.iadd, (0, 0, 0, 0), 0, 0, []),
  (.iaload, (13, 0, 0, 0), 0, 0, []),
  (.iconst 1, (0, 0, 0, 0), 1, 0, []),
  (.if_icmp .ne 7, (10, 0, 0, 0), 0, 0, []),
  (.iconst 0, (0, 0, 0, 0), 0, 0, []),
  (.goto 24, (24, 0, 0, 0), 0, 0, []),
  (.aload_n 0, (0, 0, 0, 0), 0, 0, []),
  (.getfield 332, (11, 3, 2, 0), 0, 0, []),
  (.getfield 261, (10, 12, 2, 0), 0, 0, []),
  (.iload_n 1, (1, 0, 0, 0), 0, 0, []),
  (.iaload, (13, 0, 0, 0), 0, 0, []),
  (.iconst 1, (0, 0, 0, 0), 1, 0, []),
  (.iadd, (0, 0, 0, 0), 0, 0, []),
  (.aload_n 0, (0, 0, 0, 0), 0, 0, []),
  (.getfield 21, (11, 17, 2, 0), 0, 0, []),
  (.bipush 81, (0, 0, 0, 0), 81, 0, []),
  (.iload_n 1, (1, 0, 0, 0), 0, 0, []),
  (.iadd, (0, 0, 0, 0), 0, 0, []),
  (.iaload, (13, 0, 0, 0), 0, 0, []),
  (.iadd, (0, 0, 0, 0), 0, 0, []),
  (.ireturn, (0, 0, 0, 0), 0, 0, [])]
def q_235 : List Nat := [0, 1, 4, 6, 7, 8, 9, 10, 13, 14, 17, 18, 21, 24, 25, 26, 27, 28, 29, 32, 34, 35, 36, 37, 38, 39]
def m_235 : aMt := (yX12_takes, cX12_takes, 2, (some .int), 12, 0, 0, (0, 0), 1, k_235, q_235)
def k_236 : List aM := [(.aload_n 0, (0, 0, 0, 0), 0, 0, []),
  (.iload_n 1, (1, 0, 0, 0), 0, 0, []),
  (.invokevirtual 346, (234, 2, 1, 11), 0, 0, []),
  (.ifCond .eq 23, (16, 0, 0, 0), 0, 0, []),
  (.aload_n 0, (0, 0, 0, 0), 0, 0, []),
  (.aload_n 0, (0, 0, 0, 0), 0, 0, []),
  (.iload_n 1, (1, 0, 0, 0), 0, 0, []),
  (.aload_n 0, (0, 0, 0, 0), 0, 0, []),
  (.getfield 21, (11, 17, 2, 0), 0, 0, []),
  (.iload_n 1, (1, 0, 0, 0), 0, 0, []),
  (.iaload, (13, 0, 0, 0), 0, 0, []),
  (.iconst 1, (0, 0, 0, 0), 1, 0, []),
  (.iadd, (0, 0, 0, 0), 0, 0, []),
  (.invokevirtual 334, (232, 3, 1, 11), 0, 0, []),
  (.invokevirtual 349, (235, 2, 1, 11), 0, 0, []),
  (.goto 4, (17, 0, 0, 0), 0, 0, []),
  (.iconst 0, (0, 0, 0, 0), 0, 0, []),
  (.nop, (0, 0, 0, 0), 0, 0, [(0, 1), (0, 1), (0, 0)]),
  (.istore_n 2, (2, 0, 0, 0), 0, 0, []),
  (.aload_n 0, (0, 0, 0, 0), 0, 0, []),
  (.getfield 21, (11, 17, 2, 0), 0, 0, []),
  (.iconst 4, (0, 0, 0, 0), 4, 0, []),
  (.iload_n 1, (1, 0, 0, 0), 0, 0, []),
  (.iadd, (0, 0, 0, 0), 0, 0, []),
  (.aload_n 0, (0, 0, 0, 0), 0, 0, []),
  (.iload_n 1, (1, 0, 0, 0), 0, 0, []),
  (.invokevirtual 346, (234, 2, 1, 11), 0, 0, []),
  (.ifCond .eq 11, (32, 0, 0, 0), 0, 0, []),
  (.iload_n 2, (2, 0, 0, 0), 0, 0, []),
  (.ifCond .ne 7, (32, 0, 0, 0), 0, 0, []),
  (.iconst 1, (0, 0, 0, 0), 1, 0, []),
  (.goto 4, (33, 0, 0, 0), 0, 0, []),
  (.iload_n 2, (2, 0, 0, 0), 0, 0, []),
  (.iastore, (0, 0, 0, 0), 0, 0, []),
  (.return_, (0, 0, 0, 0), 0, 0, [])]
def q_236 : List Nat := [0, 1, 2, 5, 8, 9, 10, 11, 12, 15, 16, 17, 18, 19, 22, 25, 28, 29, 29, 30, 31, 34, 35, 36, 37, 38, 39, 42, 45, 46, 49, 50, 53, 54, 55, 56]
def m_236 : aMt := (yX12_begins, cX12_begins, 3, none, 12, 1, 22, (0, 0), 1, k_236, q_236)
def k_237 : List aM := [(.iconst 0, (0, 0, 0, 0), 0, 0, []),
  (.istore_n 1, (1, 0, 0, 0), 0, 0, []),
  (.aload_n 0, (0, 0, 0, 0), 0, 0, []),
  (.getfield 21, (11, 17, 2, 0), 0, 0, []),
  (.bipush 16, (0, 0, 0, 0), 16, 0, []),
  (.dup2, (0, 0, 0, 0), 0, 0, []),
  (.iaload, (13, 0, 0, 0), 0, 0, []),
  (.iconst 1, (0, 0, 0, 0), 1, 0, []),
  (.iadd, (0, 0, 0, 0), 0, 0, []),
  (.iastore, (0, 0, 0, 0), 0, 0, []),
  (.iconst 0, (0, 0, 0, 0), 0, 0, []),
  (.istore_n 2, (2, 0, 0, 0), 0, 0, []),
  (.nop, (0, 0, 0, 0), 0, 0, [(0, 1), (0, 1), (0, 1)]),
  (.iload_n 2, (2, 0, 0, 0), 0, 0, []),
  (.aload_n 0, (0, 0, 0, 0), 0, 0, []),
  (.getfield 332, (11, 3, 2, 0), 0, 0, []),
  (.getfield 295, (10, 8, 0, 0), 0, 0, []),
  (.if_icmp .ge 76, (66, 0, 0, 0), 0, 0, []),
  (.aload_n 0, (0, 0, 0, 0), 0, 0, []),
  (.iload_n 2, (2, 0, 0, 0), 0, 0, []),
  (.invokevirtual 346, (234, 2, 1, 11), 0, 0, []),
  (.ifCond .ne 6, (23, 0, 0, 0), 0, 0, []),
  (.goto 59, (64, 0, 0, 0), 0, 0, []),
  (.aload_n 0, (0, 0, 0, 0), 0, 0, []),
  (.getfield 21, (11, 17, 2, 0), 0, 0, []),
  (.iconst 4, (0, 0, 0, 0), 4, 0, []),
  (.iload_n 2, (2, 0, 0, 0), 0, 0, []),
  (.iadd, (0, 0, 0, 0), 0, 0, []),
  (.dup2, (0, 0, 0, 0), 0, 0, []),
  (.iaload, (13, 0, 0, 0), 0, 0, []),
  (.iconst 1, (0, 0, 0, 0), 1, 0, []),
  (.isub, (0, 0, 0, 0), 0, 0, []),
  (.iastore, (0, 0, 0, 0), 0, 0, []),
  (.aload_n 0, (0, 0, 0, 0), 0, 0, []),
  (.getfield 21, (11, 17, 2, 0), 0, 0, []),
  (.iconst 4, (0, 0, 0, 0), 4, 0, []),
  (.iload_n 2, (2, 0, 0, 0), 0, 0, []),
  (.iadd, (0, 0, 0, 0), 0, 0, []),
  (.iaload, (13, 0, 0, 0), 0, 0, []),
  (.ifCond .le 6, (41, 0, 0, 0), 0, 0, []),
  (.goto 33, (64, 0, 0, 0), 0, 0, []),
  (.aload_n 0, (0, 0, 0, 0), 0, 0, []),
  (.getfield 21, (11, 17, 2, 0), 0, 0, []),
  (.iload_n 2, (2, 0, 0, 0), 0, 0, []),
  (.dup2, (0, 0, 0, 0), 0, 0, []),
  (.iaload, (13, 0, 0, 0), 0, 0, []),
  (.iconst 1, (0, 0, 0, 0), 1, 0, []),
  (.iadd, (0, 0, 0, 0), 0, 0, []),
  (.iastore, (0, 0, 0, 0), 0, 0, []),
  (.aload_n 0, (0, 0, 0, 0), 0, 0, []),
  (.getfield 21, (11, 17, 2, 0), 0, 0, []),
  (.bipush 17, (0, 0, 0, 0), 17, 0, []),
  (.aload_n 0, (0, 0, 0, 0), 0, 0, []),
  (.iload_n 2, (2, 0, 0, 0), 0, 0, []),
  (.invokevirtual 352, (233, 2, 1, 11), 0, 0, []),
  (.iadd, (0, 0, 0, 0), 0, 0, []),
  (.iconst 1, (0, 0, 0, 0), 1, 0, []),
  (.iastore, (0, 0, 0, 0), 0, 0, []),
  (.iload_n 1, (1, 0, 0, 0), 0, 0, []),
  (.iconst 1, (0, 0, 0, 0), 1, 0, []),
  (.iload_n 2, (2, 0, 0, 0), 0, 0, []),
  (.ishl, (0, 0, 0, 0), 0, 0, []),
  (.ior, (0, 0, 0, 0), 0, 0, []),
  (.istore_n 1, (1, 0, 0, 0), 0, 0, []),
  (.iinc 2 1, (2, 0, 0, 0), 1, 0, []),
  (.goto (-81), (12, 0, 0, 0), 0, 0, []),
  (.iconst 0, (0, 0, 0, 0), 0, 0, []),
  (.istore_n 2, (2, 0, 0, 0), 0, 0, []),
  (.nop, (0, 0, 0, 0), 0, 0, [(0, 1), (0, 1), (0, 1)]),
  (.iload_n 2, (2, 0, 0, 0), 0, 0, []),
  (.aload_n 0, (0, 0, 0, 0), 0, 0, []),
  (.getfield 332, (11, 3, 2, 0), 0, 0, []),
  (.getfield 295, (10, 8, 0, 0), 0, 0, []),
  (.if_icmp .ge 22, (83, 0, 0, 0), 0, 0, []),
  (.iload_n 1, (1, 0, 0, 0), 0, 0, []),
  (.iload_n 2, (2, 0, 0, 0), 0, 0, []),
  (.invokestatic 355, (188, 2, 1, 99), 0, 0, []),
  (.ifCond .eq 8, (81, 0, 0, 0), 0, 0, []),
  (.aload_n 0, (0, 0, 0, 0), 0, 0, []),
  (.iload_n 2, (2, 0, 0, 0), 0, 0, []),
  (.invokevirtual 337, (236, 2, 0, 11), 0, 0, []),
  (.iinc 2 1, (2, 0, 0, 0), 1, 0, []),
  (.goto (-27), (68, 0, 0, 0), 0, 0, []),
  (.iload_n 1, (1, 0, 0, 0), 0, 0, []),
  (.ireturn, (0, 0, 0, 0), 0, 0, [])]
def q_237 : List Nat := [0, 1, 2, 3, 6, 8, 9, 10, 11, 12, 13, 14, 15, 15, 16, 17, 20, 23, 26, 27, 28, 31, 34, 37, 38, 41, 42, 43, 44, 45, 46, 47, 48, 49, 50, 53, 54, 55, 56, 57, 60, 63, 64, 67, 68, 69, 70, 71, 72, 73, 74, 77, 79, 80, 81, 84, 85, 86, 87, 88, 89, 90, 91, 92, 93, 96, 99, 100, 101, 101, 102, 103, 106, 109, 112, 113, 114, 117, 120, 121, 122, 125, 128, 131, 132, 133]
def m_237 : aMt := (yX12_goesBy, cX12_goesBy, 3, (some .int), 12, 2, 44, (0, 0), 0, k_237, q_237)
def k_238 : List aM := [(.aload_n 0, (0, 0, 0, 0), 0, 0, []),
  (.invokevirtual 358, (231, 1, 0, 11), 0, 0, []),
  (.iconst 0, (0, 0, 0, 0), 0, 0, []),
  (.istore_n 2, (2, 0, 0, 0), 0, 0, []),
  (.nop, (0, 0, 0, 0), 0, 0, [(0, 1), (0, 1), (0, 1)]),
  (.iload_n 2, (2, 0, 0, 0), 0, 0, []),
  (.iload_n 1, (1, 0, 0, 0), 0, 0, []),
  (.if_icmp .ge 14, (13, 0, 0, 0), 0, 0, []),
  (.aload_n 0, (0, 0, 0, 0), 0, 0, []),
  (.invokevirtual 361, (237, 1, 1, 11), 0, 0, []),
  (.pop, (0, 0, 0, 0), 0, 0, []),
  (.iinc 2 1, (2, 0, 0, 0), 1, 0, []),
  (.goto (-13), (4, 0, 0, 0), 0, 0, []),
  (.return_, (0, 0, 0, 0), 0, 0, [])]
def q_238 : List Nat := [0, 1, 4, 5, 6, 6, 7, 8, 11, 12, 15, 16, 19, 22, 23]
def m_238 : aMt := (yX12_worksIn, cX12_worksIn, 3, none, 12, 3, 66, (0, 0), 1, k_238, q_238)
def k_239 : List aM := [(.iload_n 1, (1, 0, 0, 0), 0, 0, []),
  (.ifCond .ne 7, (4, 0, 0, 0), 0, 0, []),
  (.iconst 1, (0, 0, 0, 0), 1, 0, []),
  (.goto 18, (12, 0, 0, 0), 0, 0, []),
  (.iload_n 2, (2, 0, 0, 0), 0, 0, []),
  (.iconst 0, (0, 0, 0, 0), 0, 0, []),
  (.bipush 60, (0, 0, 0, 0), 60, 0, []),
  (.invokestatic 137, (187, 3, 1, 99), 0, 0, []),
  (.ifCond .eq 7, (11, 0, 0, 0), 0, 0, []),
  (.iconst 0, (0, 0, 0, 0), 0, 0, []),
  (.goto 4, (12, 0, 0, 0), 0, 0, []),
  (.iconst 2, (0, 0, 0, 0), 2, 0, []),
  (.ireturn, (0, 0, 0, 0), 0, 0, [])]
def q_239 : List Nat := [0, 1, 4, 5, 8, 9, 10, 12, 15, 18, 19, 22, 23, 24]
def m_239 : aMt := (yX12_refusesNights, cX12_refusesNights, 3, (some .int), 12, 1, 22, (0, 0), 2, k_239, q_239)
def k_240 : List aM := [(.iconst 0, (0, 0, 0, 0), 0, 0, []),
  (.istore_n 2, (2, 0, 0, 0), 0, 0, []),
  (.iconst 0, (0, 0, 0, 0), 0, 0, []),
  (.istore_n 3, (3, 0, 0, 0), 0, 0, []),
  (.nop, (0, 0, 0, 0), 0, 0, [(0, 1), (0, 1), (0, 1), (0, 1)]),
  (.iload_n 3, (3, 0, 0, 0), 0, 0, []),
  (.aload_n 0, (0, 0, 0, 0), 0, 0, []),
  (.getfield 332, (11, 3, 2, 0), 0, 0, []),
  (.getfield 295, (10, 8, 0, 0), 0, 0, []),
  (.if_icmp .ge 28, (26, 0, 0, 0), 0, 0, []),
  (.iload_n 2, (2, 0, 0, 0), 0, 0, []),
  (.aload_n 0, (0, 0, 0, 0), 0, 0, []),
  (.iload_n 3, (3, 0, 0, 0), 0, 0, []),
  (.invokevirtual 352, (233, 2, 1, 11), 0, 0, []),
  (.iload_n 1, (1, 0, 0, 0), 0, 0, []),
  (.if_icmp .ne 9, (20, 0, 0, 0), 0, 0, []),
  (.iconst 1, (0, 0, 0, 0), 1, 0, []),
  (.iload_n 3, (3, 0, 0, 0), 0, 0, []),
  (.ishl, (0, 0, 0, 0), 0, 0, []),
  (.goto 4, (21, 0, 0, 0), 0, 0, []),
  (.iconst 0, (0, 0, 0, 0), 0, 0, []),
  (.nop, (0, 0, 0, 0), 0, 0, [(0, 1), (0, 1), (0, 0), (0, 1)]),
  (.ior, (0, 0, 0, 0), 0, 0, []),
  (.istore_n 2, (2, 0, 0, 0), 0, 0, []),
  (.iinc 3 1, (3, 0, 0, 0), 1, 0, []),
  (.goto (-33), (4, 0, 0, 0), 0, 0, []),
  (.iload_n 2, (2, 0, 0, 0), 0, 0, []),
  (.ireturn, (0, 0, 0, 0), 0, 0, [])]
def q_240 : List Nat := [0, 1, 2, 3, 4, 4, 5, 6, 9, 12, 15, 16, 17, 18, 21, 22, 25, 26, 27, 28, 31, 32, 32, 33, 34, 37, 40, 41, 42]
def m_240 : aMt := (yX12_galleriesAt, cX12_galleriesAt, 4, (some .int), 12, 2, 43, (0, 0), 1, k_240, q_240)
def k_241 : List aM := [(.aload_n 0, (0, 0, 0, 0), 0, 0, []),
  (.iconst 0, (0, 0, 0, 0), 0, 0, []),
  (.putfield 55, (11, 0, 0, 0), 0, 0, []),
  (.aload_n 0, (0, 0, 0, 0), 0, 0, []),
  (.iload_n 1, (1, 0, 0, 0), 0, 0, []),
  (.iload_n 2, (2, 0, 0, 0), 0, 0, []),
  (.invokevirtual 364, (226, 3, 1, 11), 0, 0, []),
  (.ifCond .eq 12, (13, 0, 0, 0), 0, 0, []),
  (.iload_n 3, (3, 0, 0, 0), 0, 0, []),
  (.iconst 0, (0, 0, 0, 0), 0, 0, []),
  (.iconst 4, (0, 0, 0, 0), 4, 0, []),
  (.invokestatic 137, (187, 3, 1, 99), 0, 0, []),
  (.ifCond .ne 9, (18, 0, 0, 0), 0, 0, []),
  (.nop, (0, 0, 0, 0), 0, 0, [(0, 1), (0, 0), (0, 0), (0, 0), (0, 0)]),
  (.aload_n 0, (0, 0, 0, 0), 0, 0, []),
  (.iconst 1, (0, 0, 0, 0), 1, 0, []),
  (.invokevirtual 61, (182, 2, 1, 11), 0, 0, []),
  (.ireturn, (0, 0, 0, 0), 0, 0, []),
  (.aload_n 0, (0, 0, 0, 0), 0, 0, []),
  (.invokevirtual 358, (231, 1, 0, 11), 0, 0, []),
  (.iload_n 1, (1, 0, 0, 0), 0, 0, []),
  (.iload_n 2, (2, 0, 0, 0), 0, 0, []),
  (.invokestatic 367, (229, 2, 1, 99), 0, 0, []),
  (.istore 4, (4, 0, 0, 0), 0, 0, []),
  (.iload_n 3, (3, 0, 0, 0), 0, 0, []),
  (.tableswitch 104 0 3 #[31, 46, 74, 89], (66, 0, 0, 0), 0, 0, [(0, 26), (1, 34), (2, 48), (3, 57)]),
  (.aload_n 0, (0, 0, 0, 0), 0, 0, []),
  (.aload_n 0, (0, 0, 0, 0), 0, 0, []),
  (.getfield 332, (11, 3, 2, 0), 0, 0, []),
  (.getfield 261, (10, 12, 2, 0), 0, 0, []),
  (.iload 4, (4, 0, 0, 0), 0, 0, []),
  (.iaload, (13, 0, 0, 0), 0, 0, []),
  (.invokevirtual 65, (185, 2, 1, 11), 0, 0, []),
  (.ireturn, (0, 0, 0, 0), 0, 0, []),
  (.aload_n 0, (0, 0, 0, 0), 0, 0, []),
  (.aload_n 0, (0, 0, 0, 0), 0, 0, []),
  (.getfield 332, (11, 3, 2, 0), 0, 0, []),
  (.iload 4, (4, 0, 0, 0), 0, 0, []),
  (.invokevirtual 203, (178, 2, 1, 10), 0, 0, []),
  (.ifCond .eq 8, (42, 0, 0, 0), 0, 0, []),
  (.bipush (-2), (0, 0, 0, 0), (-2), 0, []),
  (.goto 9, (45, 0, 0, 0), 0, 0, []),
  (.aload_n 0, (0, 0, 0, 0), 0, 0, []),
  (.iload 4, (4, 0, 0, 0), 0, 0, []),
  (.invokevirtual 349, (235, 2, 1, 11), 0, 0, []),
  (.nop, (0, 0, 0, 0), 0, 0, [(0, 0), (0, 0), (0, 0), (0, 0), (0, 0)]),
  (.invokevirtual 65, (185, 2, 1, 11), 0, 0, []),
  (.ireturn, (0, 0, 0, 0), 0, 0, []),
  (.aload_n 0, (0, 0, 0, 0), 0, 0, []),
  (.aload_n 0, (0, 0, 0, 0), 0, 0, []),
  (.getfield 17, (11, 16, 2, 0), 0, 0, []),
  (.bipush 17, (0, 0, 0, 0), 17, 0, []),
  (.iload 4, (4, 0, 0, 0), 0, 0, []),
  (.iadd, (0, 0, 0, 0), 0, 0, []),
  (.iaload, (13, 0, 0, 0), 0, 0, []),
  (.invokevirtual 65, (185, 2, 1, 11), 0, 0, []),
  (.ireturn, (0, 0, 0, 0), 0, 0, []),
  (.aload_n 0, (0, 0, 0, 0), 0, 0, []),
  (.aload_n 0, (0, 0, 0, 0), 0, 0, []),
  (.getfield 17, (11, 16, 2, 0), 0, 0, []),
  (.bipush 81, (0, 0, 0, 0), 81, 0, []),
  (.iload 4, (4, 0, 0, 0), 0, 0, []),
  (.iadd, (0, 0, 0, 0), 0, 0, []),
  (.iaload, (13, 0, 0, 0), 0, 0, []),
  (.invokevirtual 65, (185, 2, 1, 11), 0, 0, []),
  (.ireturn, (0, 0, 0, 0), 0, 0, []),
  (.aload_n 0, (0, 0, 0, 0), 0, 0, []),
  (.aload_n 0, (0, 0, 0, 0), 0, 0, []),
  (.iload 4, (4, 0, 0, 0), 0, 0, []),
  (.invokevirtual 370, (240, 2, 1, 11), 0, 0, []),
  (.invokevirtual 65, (185, 2, 1, 11), 0, 0, []),
  (.ireturn, (0, 0, 0, 0), 0, 0, [])]
def q_241 : List Nat := [0, 1, 2, 5, 6, 7, 8, 11, 14, 15, 16, 17, 20, 23, 23, 24, 25, 28, 29, 30, 33, 34, 35, 38, 40, 41, 72, 73, 74, 77, 80, 82, 83, 86, 87, 88, 89, 92, 94, 97, 100, 102, 105, 106, 108, 111, 111, 114, 115, 116, 117, 120, 122, 124, 125, 126, 129, 130, 131, 132, 135, 137, 139, 140, 141, 144, 145, 146, 147, 149, 152, 155, 156]
def m_241 : aMt := (yX12_cell, cX12_cell, 5, (some .int), 12, 3, 66, (0, 0), 3, k_241, q_241)
def k_242 : List aM := [(.aload_n 0, (0, 0, 0, 0), 0, 0, []),
  (.iconst 0, (0, 0, 0, 0), 0, 0, []),
  (.putfield 55, (11, 0, 0, 0), 0, 0, []),
  (.aload_n 0, (0, 0, 0, 0), 0, 0, []),
  (.iload_n 1, (1, 0, 0, 0), 0, 0, []),
  (.invokevirtual 373, (227, 2, 1, 11), 0, 0, []),
  (.ifCond .eq 12, (12, 0, 0, 0), 0, 0, []),
  (.iload_n 2, (2, 0, 0, 0), 0, 0, []),
  (.iconst 0, (0, 0, 0, 0), 0, 0, []),
  (.iconst 5, (0, 0, 0, 0), 5, 0, []),
  (.invokestatic 137, (187, 3, 1, 99), 0, 0, []),
  (.ifCond .ne 9, (17, 0, 0, 0), 0, 0, []),
  (.nop, (0, 0, 0, 0), 0, 0, [(0, 1), (0, 0), (0, 0)]),
  (.aload_n 0, (0, 0, 0, 0), 0, 0, []),
  (.iconst 1, (0, 0, 0, 0), 1, 0, []),
  (.invokevirtual 61, (182, 2, 1, 11), 0, 0, []),
  (.ireturn, (0, 0, 0, 0), 0, 0, []),
  (.aload_n 0, (0, 0, 0, 0), 0, 0, []),
  (.invokevirtual 358, (231, 1, 0, 11), 0, 0, []),
  (.iload_n 2, (2, 0, 0, 0), 0, 0, []),
  (.tableswitch 112 0 4 #[35, 49, 62, 73, 98], (68, 0, 0, 0), 0, 0, [(0, 21), (1, 29), (2, 36), (3, 43), (4, 59)]),
  (.aload_n 0, (0, 0, 0, 0), 0, 0, []),
  (.aload_n 0, (0, 0, 0, 0), 0, 0, []),
  (.getfield 332, (11, 3, 2, 0), 0, 0, []),
  (.getfield 306, (10, 14, 2, 0), 0, 0, []),
  (.iload_n 1, (1, 0, 0, 0), 0, 0, []),
  (.iaload, (13, 0, 0, 0), 0, 0, []),
  (.invokevirtual 65, (185, 2, 1, 11), 0, 0, []),
  (.ireturn, (0, 0, 0, 0), 0, 0, []),
  (.aload_n 0, (0, 0, 0, 0), 0, 0, []),
  (.aload_n 0, (0, 0, 0, 0), 0, 0, []),
  (.iload_n 1, (1, 0, 0, 0), 0, 0, []),
  (.invokevirtual 352, (233, 2, 1, 11), 0, 0, []),
  (.invokestatic 376, (230, 1, 1, 99), 0, 0, []),
  (.invokevirtual 65, (185, 2, 1, 11), 0, 0, []),
  (.ireturn, (0, 0, 0, 0), 0, 0, []),
  (.aload_n 0, (0, 0, 0, 0), 0, 0, []),
  (.aload_n 0, (0, 0, 0, 0), 0, 0, []),
  (.getfield 21, (11, 17, 2, 0), 0, 0, []),
  (.iload_n 1, (1, 0, 0, 0), 0, 0, []),
  (.iaload, (13, 0, 0, 0), 0, 0, []),
  (.invokevirtual 65, (185, 2, 1, 11), 0, 0, []),
  (.ireturn, (0, 0, 0, 0), 0, 0, []),
  (.aload_n 0, (0, 0, 0, 0), 0, 0, []),
  (.aload_n 0, (0, 0, 0, 0), 0, 0, []),
  (.iload_n 1, (1, 0, 0, 0), 0, 0, []),
  (.invokevirtual 346, (234, 2, 1, 11), 0, 0, []),
  (.ifCond .eq 14, (55, 0, 0, 0), 0, 0, []),
  (.aload_n 0, (0, 0, 0, 0), 0, 0, []),
  (.getfield 21, (11, 17, 2, 0), 0, 0, []),
  (.iconst 4, (0, 0, 0, 0), 4, 0, []),
  (.iload_n 1, (1, 0, 0, 0), 0, 0, []),
  (.iadd, (0, 0, 0, 0), 0, 0, []),
  (.iaload, (13, 0, 0, 0), 0, 0, []),
  (.goto 4, (56, 0, 0, 0), 0, 0, []),
  (.iconst 0, (0, 0, 0, 0), 0, 0, []),
  (.nop, (0, 0, 0, 0), 0, 0, [(0, 0), (0, 0), (0, 0)]),
  (.invokevirtual 65, (185, 2, 1, 11), 0, 0, []),
  (.ireturn, (0, 0, 0, 0), 0, 0, []),
  (.aload_n 0, (0, 0, 0, 0), 0, 0, []),
  (.aload_n 0, (0, 0, 0, 0), 0, 0, []),
  (.getfield 21, (11, 17, 2, 0), 0, 0, []),
  (.bipush 8, (0, 0, 0, 0), 8, 0, []),
  (.iload_n 1, (1, 0, 0, 0), 0, 0, []),
  (.iadd, (0, 0, 0, 0), 0, 0, []),
  (.iaload, (13, 0, 0, 0), 0, 0, []),
  (.invokevirtual 65, (185, 2, 1, 11), 0, 0, []),
  (.ireturn, (0, 0, 0, 0), 0, 0, []),
  (.aload_n 0, (0, 0, 0, 0), 0, 0, []),
  (.aload_n 0, (0, 0, 0, 0), 0, 0, []),
  (.getfield 332, (11, 3, 2, 0), 0, 0, []),
  (.getfield 309, (10, 15, 2, 0), 0, 0, []),
  (.iload_n 1, (1, 0, 0, 0), 0, 0, []),
  (.iaload, (13, 0, 0, 0), 0, 0, []),
  (.invokevirtual 65, (185, 2, 1, 11), 0, 0, []),
  (.ireturn, (0, 0, 0, 0), 0, 0, [])]
def q_242 : List Nat := [0, 1, 2, 5, 6, 7, 10, 13, 14, 15, 16, 19, 22, 22, 23, 24, 27, 28, 29, 32, 33, 68, 69, 70, 73, 76, 77, 78, 81, 82, 83, 84, 85, 88, 91, 94, 95, 96, 97, 100, 101, 102, 105, 106, 107, 108, 109, 112, 115, 116, 119, 120, 121, 122, 123, 126, 127, 127, 130, 131, 132, 133, 136, 138, 139, 140, 141, 144, 145, 146, 147, 150, 153, 154, 155, 158, 159]
def m_242 : aMt := (yX12_gallery, cX12_gallery, 3, (some .int), 12, 2, 43, (0, 0), 2, k_242, q_242)
def k_243 : List aM := [(.aload_n 0, (0, 0, 0, 0), 0, 0, []),
  (.iconst 0, (0, 0, 0, 0), 0, 0, []),
  (.putfield 55, (11, 0, 0, 0), 0, 0, []),
  (.aload_n 0, (0, 0, 0, 0), 0, 0, []),
  (.iload_n 1, (1, 0, 0, 0), 0, 0, []),
  (.invokevirtual 379, (228, 2, 1, 11), 0, 0, []),
  (.ifCond .eq 22, (17, 0, 0, 0), 0, 0, []),
  (.aload_n 0, (0, 0, 0, 0), 0, 0, []),
  (.aload_n 0, (0, 0, 0, 0), 0, 0, []),
  (.getfield 17, (11, 16, 2, 0), 0, 0, []),
  (.bipush 12, (0, 0, 0, 0), 12, 0, []),
  (.iload_n 1, (1, 0, 0, 0), 0, 0, []),
  (.iadd, (0, 0, 0, 0), 0, 0, []),
  (.iaload, (13, 0, 0, 0), 0, 0, []),
  (.invokestatic 376, (230, 1, 1, 99), 0, 0, []),
  (.invokevirtual 65, (185, 2, 1, 11), 0, 0, []),
  (.goto 8, (20, 0, 0, 0), 0, 0, []),
  (.aload_n 0, (0, 0, 0, 0), 0, 0, []),
  (.iconst 1, (0, 0, 0, 0), 1, 0, []),
  (.invokevirtual 61, (182, 2, 1, 11), 0, 0, []),
  (.ireturn, (0, 0, 0, 0), 0, 0, [])]
def q_243 : List Nat := [0, 1, 2, 5, 6, 7, 10, 13, 14, 15, 18, 20, 21, 22, 23, 26, 29, 32, 33, 34, 37, 38]
def m_243 : aMt := (yX12_drum, cX12_drum, 2, (some .int), 12, 1, 21, (0, 0), 1, k_243, q_243)
def k_244 : List aM := [(.iconst 0, (0, 0, 0, 0), 0, 0, []),
  (.istore_n 1, (1, 0, 0, 0), 0, 0, []),
  (.iconst 0, (0, 0, 0, 0), 0, 0, []),
  (.istore_n 2, (2, 0, 0, 0), 0, 0, []),
  (.nop, (0, 0, 0, 0), 0, 0, [(0, 1), (0, 1), (0, 1)]),
  (.iload_n 2, (2, 0, 0, 0), 0, 0, []),
  (.bipush 64, (0, 0, 0, 0), 64, 0, []),
  (.if_icmp .ge 21, (19, 0, 0, 0), 0, 0, []),
  (.iload_n 1, (1, 0, 0, 0), 0, 0, []),
  (.aload_n 0, (0, 0, 0, 0), 0, 0, []),
  (.getfield 21, (11, 17, 2, 0), 0, 0, []),
  (.bipush 17, (0, 0, 0, 0), 17, 0, []),
  (.iload_n 2, (2, 0, 0, 0), 0, 0, []),
  (.iadd, (0, 0, 0, 0), 0, 0, []),
  (.iaload, (13, 0, 0, 0), 0, 0, []),
  (.iadd, (0, 0, 0, 0), 0, 0, []),
  (.istore_n 1, (1, 0, 0, 0), 0, 0, []),
  (.iinc 2 1, (2, 0, 0, 0), 1, 0, []),
  (.goto (-21), (4, 0, 0, 0), 0, 0, []),
  (.iload_n 1, (1, 0, 0, 0), 0, 0, []),
  (.ireturn, (0, 0, 0, 0), 0, 0, [])]
def q_244 : List Nat := [0, 1, 2, 3, 4, 4, 5, 7, 10, 11, 12, 15, 17, 18, 19, 20, 21, 22, 25, 28, 29, 30]
def m_244 : aMt := (yX12_dugNow, cX12_dugNow, 3, (some .int), 12, 0, 0, (0, 0), 0, k_244, q_244)
def k_245 : List aM := [(.aload_n 0, (0, 0, 0, 0), 0, 0, []),
  (.iconst 0, (0, 0, 0, 0), 0, 0, []),
  (.putfield 55, (11, 0, 0, 0), 0, 0, []),
  (.aload_n 0, (0, 0, 0, 0), 0, 0, []),
  (.getfield 332, (11, 3, 3, 0), 0, 0, []),
  (.ifnonnull 9, (10, 0, 0, 0), 0, 0, []),
  (.aload_n 0, (0, 0, 0, 0), 0, 0, []),
  (.iconst 1, (0, 0, 0, 0), 1, 0, []),
  (.invokevirtual 61, (182, 2, 1, 11), 0, 0, []),
  (.ireturn, (0, 0, 0, 0), 0, 0, []),
  (.aload_n 0, (0, 0, 0, 0), 0, 0, []),
  (.invokevirtual 358, (231, 1, 0, 11), 0, 0, []),
  (.aload_n 0, (0, 0, 0, 0), 0, 0, []),
  (.aload_n 0, (0, 0, 0, 0), 0, 0, []),
  (.invokevirtual 382, (244, 1, 1, 11), 0, 0, []),
  (.invokevirtual 65, (185, 2, 1, 11), 0, 0, []),
  (.ireturn, (0, 0, 0, 0), 0, 0, [])]
def q_245 : List Nat := [0, 1, 2, 5, 6, 9, 12, 13, 14, 17, 18, 19, 22, 23, 24, 27, 30, 31]
def m_245 : aMt := (yX12_dug, cX12_dug, 1, (some .int), 12, 1, 22, (0, 0), 0, k_245, q_245)
def k_246 : List aM := [(.aload_n 0, (0, 0, 0, 0), 0, 0, []),
  (.iconst 0, (0, 0, 0, 0), 0, 0, []),
  (.putfield 55, (11, 0, 0, 0), 0, 0, []),
  (.aload_n 0, (0, 0, 0, 0), 0, 0, []),
  (.iload_n 1, (1, 0, 0, 0), 0, 0, []),
  (.iload_n 2, (2, 0, 0, 0), 0, 0, []),
  (.invokevirtual 364, (226, 3, 1, 11), 0, 0, []),
  (.ifCond .eq 34, (23, 0, 0, 0), 0, 0, []),
  (.aload_n 0, (0, 0, 0, 0), 0, 0, []),
  (.iload_n 3, (3, 0, 0, 0), 0, 0, []),
  (.iload 4, (4, 0, 0, 0), 0, 0, []),
  (.invokevirtual 364, (226, 3, 1, 11), 0, 0, []),
  (.ifCond .eq 24, (23, 0, 0, 0), 0, 0, []),
  (.aload_n 0, (0, 0, 0, 0), 0, 0, []),
  (.iload_n 1, (1, 0, 0, 0), 0, 0, []),
  (.iload_n 2, (2, 0, 0, 0), 0, 0, []),
  (.invokestatic 367, (229, 2, 1, 99), 0, 0, []),
  (.iload_n 3, (3, 0, 0, 0), 0, 0, []),
  (.iload 4, (4, 0, 0, 0), 0, 0, []),
  (.invokestatic 367, (229, 2, 1, 99), 0, 0, []),
  (.invokestatic 385, (191, 2, 1, 99), 0, 0, []),
  (.invokevirtual 65, (185, 2, 1, 11), 0, 0, []),
  (.goto 8, (27, 0, 0, 0), 0, 0, []),
  (.nop, (0, 0, 0, 0), 0, 0, [(0, 1), (0, 0), (0, 0), (0, 0), (0, 0)]),
  (.aload_n 0, (0, 0, 0, 0), 0, 0, []),
  (.iconst 1, (0, 0, 0, 0), 1, 0, []),
  (.invokevirtual 61, (182, 2, 1, 11), 0, 0, []),
  (.ireturn, (0, 0, 0, 0), 0, 0, [])]
def q_246 : List Nat := [0, 1, 2, 5, 6, 7, 8, 11, 14, 15, 16, 18, 21, 24, 25, 26, 27, 30, 31, 33, 36, 39, 42, 45, 45, 46, 47, 50, 51]
def m_246 : aMt := (yX12_far, cX12_far, 5, (some .int), 12, 1, 23, (0, 0), 4, k_246, q_246)
def k_247 : List aM := [(.aload_n 0, (0, 0, 0, 0), 0, 0, []),
  (.iconst 0, (0, 0, 0, 0), 0, 0, []),
  (.putfield 55, (11, 0, 0, 0), 0, 0, []),
  (.aload_n 0, (0, 0, 0, 0), 0, 0, []),
  (.aload_n 0, (0, 0, 0, 0), 0, 0, []),
  (.iload_n 1, (1, 0, 0, 0), 0, 0, []),
  (.invokevirtual 373, (227, 2, 1, 11), 0, 0, []),
  (.iload_n 2, (2, 0, 0, 0), 0, 0, []),
  (.invokevirtual 388, (239, 3, 1, 11), 0, 0, []),
  (.istore_n 3, (3, 0, 0, 0), 0, 0, []),
  (.iload_n 3, (3, 0, 0, 0), 0, 0, []),
  (.ifCond .le 9, (16, 0, 0, 0), 0, 0, []),
  (.aload_n 0, (0, 0, 0, 0), 0, 0, []),
  (.iload_n 3, (3, 0, 0, 0), 0, 0, []),
  (.invokevirtual 61, (182, 2, 1, 11), 0, 0, []),
  (.ireturn, (0, 0, 0, 0), 0, 0, []),
  (.aload_n 0, (0, 0, 0, 0), 0, 0, []),
  (.iload_n 2, (2, 0, 0, 0), 0, 0, []),
  (.invokevirtual 392, (238, 2, 0, 11), 0, 0, []),
  (.aload_n 0, (0, 0, 0, 0), 0, 0, []),
  (.aload_n 0, (0, 0, 0, 0), 0, 0, []),
  (.iload_n 1, (1, 0, 0, 0), 0, 0, []),
  (.invokevirtual 352, (233, 2, 1, 11), 0, 0, []),
  (.invokestatic 376, (230, 1, 1, 99), 0, 0, []),
  (.invokevirtual 65, (185, 2, 1, 11), 0, 0, []),
  (.ireturn, (0, 0, 0, 0), 0, 0, [])]
def q_247 : List Nat := [0, 1, 2, 5, 6, 7, 8, 11, 12, 15, 16, 17, 20, 21, 22, 25, 26, 27, 28, 31, 32, 33, 34, 37, 40, 43, 44]
def m_247 : aMt := (yX12_placeIn, cX12_placeIn, 4, (some .int), 12, 4, 88, (0, 0), 2, k_247, q_247)
def k_248 : List aM := [(.aload_n 0, (0, 0, 0, 0), 0, 0, []),
  (.iconst 0, (0, 0, 0, 0), 0, 0, []),
  (.putfield 55, (11, 0, 0, 0), 0, 0, []),
  (.aload_n 0, (0, 0, 0, 0), 0, 0, []),
  (.aload_n 0, (0, 0, 0, 0), 0, 0, []),
  (.getfield 332, (11, 3, 3, 0), 0, 0, []),
  (.ifnull 7, (9, 0, 0, 0), 0, 0, []),
  (.iconst 1, (0, 0, 0, 0), 1, 0, []),
  (.goto 4, (10, 0, 0, 0), 0, 0, []),
  (.iconst 0, (0, 0, 0, 0), 0, 0, []),
  (.nop, (0, 0, 0, 0), 0, 0, [(0, 1), (0, 1), (0, 0)]),
  (.iload_n 1, (1, 0, 0, 0), 0, 0, []),
  (.invokevirtual 388, (239, 3, 1, 11), 0, 0, []),
  (.istore_n 2, (2, 0, 0, 0), 0, 0, []),
  (.iload_n 2, (2, 0, 0, 0), 0, 0, []),
  (.ifCond .le 9, (20, 0, 0, 0), 0, 0, []),
  (.aload_n 0, (0, 0, 0, 0), 0, 0, []),
  (.iload_n 2, (2, 0, 0, 0), 0, 0, []),
  (.invokevirtual 61, (182, 2, 1, 11), 0, 0, []),
  (.ireturn, (0, 0, 0, 0), 0, 0, []),
  (.aload_n 0, (0, 0, 0, 0), 0, 0, []),
  (.iload_n 1, (1, 0, 0, 0), 0, 0, []),
  (.invokevirtual 392, (238, 2, 0, 11), 0, 0, []),
  (.aload_n 0, (0, 0, 0, 0), 0, 0, []),
  (.aload_n 0, (0, 0, 0, 0), 0, 0, []),
  (.invokevirtual 382, (244, 1, 1, 11), 0, 0, []),
  (.invokevirtual 65, (185, 2, 1, 11), 0, 0, []),
  (.ireturn, (0, 0, 0, 0), 0, 0, [])]
def q_248 : List Nat := [0, 1, 2, 5, 6, 7, 10, 13, 14, 17, 18, 18, 19, 22, 23, 24, 27, 28, 29, 32, 33, 34, 35, 38, 39, 40, 43, 46, 47]
def m_248 : aMt := (yX12_dugIn, cX12_dugIn, 3, (some .int), 12, 4, 88, (0, 0), 1, k_248, q_248)
def k_249 : List aM := [(.aload_n 0, (0, 0, 0, 0), 0, 0, []),
  (.iconst 0, (0, 0, 0, 0), 0, 0, []),
  (.putfield 55, (11, 0, 0, 0), 0, 0, []),
  (.aload_n 0, (0, 0, 0, 0), 0, 0, []),
  (.iload_n 1, (1, 0, 0, 0), 0, 0, []),
  (.invokevirtual 373, (227, 2, 1, 11), 0, 0, []),
  (.ifCond .ne 9, (11, 0, 0, 0), 0, 0, []),
  (.aload_n 0, (0, 0, 0, 0), 0, 0, []),
  (.iconst 1, (0, 0, 0, 0), 1, 0, []),
  (.invokevirtual 61, (182, 2, 1, 11), 0, 0, []),
  (.ireturn, (0, 0, 0, 0), 0, 0, []),
  (.aload_n 0, (0, 0, 0, 0), 0, 0, []),
  (.invokevirtual 358, (231, 1, 0, 11), 0, 0, []),
  (.iconst 0, (0, 0, 0, 0), 0, 0, []),
  (.istore_n 2, (2, 0, 0, 0), 0, 0, []),
  (.nop, (0, 0, 0, 0), 0, 0, [(0, 1), (0, 1), (0, 1)]),
  (.aload_n 0, (0, 0, 0, 0), 0, 0, []),
  (.iload_n 1, (1, 0, 0, 0), 0, 0, []),
  (.invokevirtual 346, (234, 2, 1, 11), 0, 0, []),
  (.ifCond .eq 14, (25, 0, 0, 0), 0, 0, []),
  (.aload_n 0, (0, 0, 0, 0), 0, 0, []),
  (.invokevirtual 361, (237, 1, 1, 11), 0, 0, []),
  (.pop, (0, 0, 0, 0), 0, 0, []),
  (.iinc 2 1, (2, 0, 0, 0), 1, 0, []),
  (.goto (-16), (15, 0, 0, 0), 0, 0, []),
  (.aload_n 0, (0, 0, 0, 0), 0, 0, []),
  (.iload_n 2, (2, 0, 0, 0), 0, 0, []),
  (.invokevirtual 65, (185, 2, 1, 11), 0, 0, []),
  (.ireturn, (0, 0, 0, 0), 0, 0, [])]
def q_249 : List Nat := [0, 1, 2, 5, 6, 7, 10, 13, 14, 15, 18, 19, 20, 23, 24, 25, 25, 26, 27, 30, 33, 34, 37, 38, 41, 44, 45, 46, 49, 50]
def m_249 : aMt := (yX12_endsIn, cX12_endsIn, 3, (some .int), 12, 3, 66, (0, 0), 1, k_249, q_249)
def k_250 : List aM := [(.aload_n 0, (0, 0, 0, 0), 0, 0, []),
  (.getfield 332, (11, 3, 2, 0), 0, 0, []),
  (.getfield 306, (10, 14, 2, 0), 0, 0, []),
  (.iload_n 1, (1, 0, 0, 0), 0, 0, []),
  (.iaload, (13, 0, 0, 0), 0, 0, []),
  (.aload_n 0, (0, 0, 0, 0), 0, 0, []),
  (.getfield 332, (11, 3, 2, 0), 0, 0, []),
  (.getfield 306, (10, 14, 2, 0), 0, 0, []),
  (.iload_n 2, (2, 0, 0, 0), 0, 0, []),
  (.iaload, (13, 0, 0, 0), 0, 0, []),
  (.if_icmp .eq 24, (22, 0, 0, 0), 0, 0, []),
  (.aload_n 0, (0, 0, 0, 0), 0, 0, []),
  (.iload_n 1, (1, 0, 0, 0), 0, 0, []),
  (.invokevirtual 352, (233, 2, 1, 11), 0, 0, []),
  (.aload_n 0, (0, 0, 0, 0), 0, 0, []),
  (.iload_n 2, (2, 0, 0, 0), 0, 0, []),
  (.invokevirtual 352, (233, 2, 1, 11), 0, 0, []),
  (.invokestatic 385, (191, 2, 1, 99), 0, 0, []),
  (.iconst 2, (0, 0, 0, 0), 2, 0, []),
  (.if_icmp .ge 7, (22, 0, 0, 0), 0, 0, []),
  (.iconst 1, (0, 0, 0, 0), 1, 0, []),
  (.goto 4, (23, 0, 0, 0), 0, 0, []),
  (.iconst 0, (0, 0, 0, 0), 0, 0, []),
  (.ireturn, (0, 0, 1, 0), 0, 0, [])]
def q_250 : List Nat := [0, 1, 4, 7, 8, 9, 10, 13, 16, 17, 18, 21, 22, 23, 26, 27, 28, 31, 34, 35, 38, 39, 42, 43, 44]
def m_250 : aMt := (yX12_breakIn, cX12_breakIn, 3, (some .boolean), 12, 2, 43, (0, 0), 2, k_250, q_250)
def k_251 : List aM := [(.aload_n 0, (0, 0, 0, 0), 0, 0, []),
  (.iconst 0, (0, 0, 0, 0), 0, 0, []),
  (.putfield 55, (11, 0, 0, 0), 0, 0, []),
  (.aload_n 0, (0, 0, 0, 0), 0, 0, []),
  (.iload_n 1, (1, 0, 0, 0), 0, 0, []),
  (.invokevirtual 373, (227, 2, 1, 11), 0, 0, []),
  (.ifCond .eq 32, (22, 0, 0, 0), 0, 0, []),
  (.aload_n 0, (0, 0, 0, 0), 0, 0, []),
  (.iload_n 2, (2, 0, 0, 0), 0, 0, []),
  (.invokevirtual 373, (227, 2, 1, 11), 0, 0, []),
  (.ifCond .eq 24, (22, 0, 0, 0), 0, 0, []),
  (.aload_n 0, (0, 0, 0, 0), 0, 0, []),
  (.getfield 332, (11, 3, 2, 0), 0, 0, []),
  (.getfield 306, (10, 14, 2, 0), 0, 0, []),
  (.iload_n 1, (1, 0, 0, 0), 0, 0, []),
  (.iaload, (13, 0, 0, 0), 0, 0, []),
  (.aload_n 0, (0, 0, 0, 0), 0, 0, []),
  (.getfield 332, (11, 3, 2, 0), 0, 0, []),
  (.getfield 306, (10, 14, 2, 0), 0, 0, []),
  (.iload_n 2, (2, 0, 0, 0), 0, 0, []),
  (.iaload, (13, 0, 0, 0), 0, 0, []),
  (.if_icmp .ne 9, (27, 0, 0, 0), 0, 0, []),
  (.nop, (0, 0, 0, 0), 0, 0, [(0, 1), (0, 0), (0, 0), (0, 0)]),
  (.aload_n 0, (0, 0, 0, 0), 0, 0, []),
  (.iconst 1, (0, 0, 0, 0), 1, 0, []),
  (.invokevirtual 61, (182, 2, 1, 11), 0, 0, []),
  (.ireturn, (0, 0, 0, 0), 0, 0, []),
  (.aload_n 0, (0, 0, 0, 0), 0, 0, []),
  (.invokevirtual 358, (231, 1, 0, 11), 0, 0, []),
  (.iconst 0, (0, 0, 0, 0), 0, 0, []),
  (.istore_n 3, (3, 0, 0, 0), 0, 0, []),
  (.nop, (0, 0, 0, 0), 0, 0, [(0, 1), (0, 1), (0, 1), (0, 1)]),
  (.iload_n 3, (3, 0, 0, 0), 0, 0, []),
  (.bipush 60, (0, 0, 0, 0), 60, 0, []),
  (.if_icmp .gt 29, (49, 0, 0, 0), 0, 0, []),
  (.aload_n 0, (0, 0, 0, 0), 0, 0, []),
  (.iload_n 1, (1, 0, 0, 0), 0, 0, []),
  (.iload_n 2, (2, 0, 0, 0), 0, 0, []),
  (.invokevirtual 395, (250, 3, 1, 11), 0, 0, []),
  (.ifCond .eq 9, (44, 0, 0, 0), 0, 0, []),
  (.aload_n 0, (0, 0, 0, 0), 0, 0, []),
  (.iload_n 3, (3, 0, 0, 0), 0, 0, []),
  (.invokevirtual 65, (185, 2, 1, 11), 0, 0, []),
  (.ireturn, (0, 0, 0, 0), 0, 0, []),
  (.aload_n 0, (0, 0, 0, 0), 0, 0, []),
  (.invokevirtual 361, (237, 1, 1, 11), 0, 0, []),
  (.pop, (0, 0, 0, 0), 0, 0, []),
  (.iinc 3 1, (3, 0, 0, 0), 1, 0, []),
  (.goto (-29), (31, 0, 0, 0), 0, 0, []),
  (.aload_n 0, (0, 0, 0, 0), 0, 0, []),
  (.bipush (-2), (0, 0, 0, 0), (-2), 0, []),
  (.invokevirtual 65, (185, 2, 1, 11), 0, 0, []),
  (.ireturn, (0, 0, 0, 0), 0, 0, [])]
def q_251 : List Nat := [0, 1, 2, 5, 6, 7, 10, 13, 14, 15, 18, 21, 22, 25, 28, 29, 30, 31, 34, 37, 38, 39, 42, 42, 43, 44, 47, 48, 49, 52, 53, 54, 54, 55, 57, 60, 61, 62, 63, 66, 69, 70, 71, 74, 75, 76, 79, 80, 83, 86, 87, 89, 92, 93]
def m_251 : aMt := (yX12_breaksIn, cX12_breaksIn, 4, (some .int), 12, 3, 66, (0, 0), 2, k_251, q_251)
def k_252 : List aM := [(.iconst 0, (0, 0, 0, 0), 0, 0, []),
  (.istore_n 1, (1, 0, 0, 0), 0, 0, []),
  (.nop, (0, 0, 0, 0), 0, 0, [(0, 1), (0, 1), (0, 0)]),
  (.iload_n 1, (1, 0, 0, 0), 0, 0, []),
  (.aload_n 0, (0, 0, 0, 0), 0, 0, []),
  (.getfield 332, (11, 3, 2, 0), 0, 0, []),
  (.getfield 295, (10, 8, 0, 0), 0, 0, []),
  (.if_icmp .ge 46, (33, 0, 0, 0), 0, 0, []),
  (.iload_n 1, (1, 0, 0, 0), 0, 0, []),
  (.iconst 1, (0, 0, 0, 0), 1, 0, []),
  (.iadd, (0, 0, 0, 0), 0, 0, []),
  (.istore_n 2, (2, 0, 0, 0), 0, 0, []),
  (.nop, (0, 0, 0, 0), 0, 0, [(0, 1), (0, 1), (0, 1)]),
  (.iload_n 2, (2, 0, 0, 0), 0, 0, []),
  (.aload_n 0, (0, 0, 0, 0), 0, 0, []),
  (.getfield 332, (11, 3, 2, 0), 0, 0, []),
  (.getfield 295, (10, 8, 0, 0), 0, 0, []),
  (.if_icmp .ge 25, (31, 0, 0, 0), 0, 0, []),
  (.aload_n 0, (0, 0, 0, 0), 0, 0, []),
  (.iload_n 1, (1, 0, 0, 0), 0, 0, []),
  (.iload_n 2, (2, 0, 0, 0), 0, 0, []),
  (.invokevirtual 395, (250, 3, 1, 11), 0, 0, []),
  (.ifCond .eq 10, (29, 0, 0, 0), 0, 0, []),
  (.bipush 10, (0, 0, 0, 0), 10, 0, []),
  (.iload_n 1, (1, 0, 0, 0), 0, 0, []),
  (.imul, (0, 0, 0, 0), 0, 0, []),
  (.iload_n 2, (2, 0, 0, 0), 0, 0, []),
  (.iadd, (0, 0, 0, 0), 0, 0, []),
  (.ireturn, (0, 0, 0, 0), 0, 0, []),
  (.iinc 2 1, (2, 0, 0, 0), 1, 0, []),
  (.goto (-30), (12, 0, 0, 0), 0, 0, []),
  (.iinc 1 1, (1, 0, 0, 0), 1, 0, []),
  (.goto (-51), (2, 0, 0, 0), 0, 0, []),
  (.bipush (-2), (0, 0, 0, 0), (-2), 0, []),
  (.ireturn, (0, 0, 0, 0), 0, 0, [])]
def q_252 : List Nat := [0, 1, 2, 2, 3, 4, 7, 10, 13, 14, 15, 16, 17, 17, 18, 19, 22, 25, 28, 29, 30, 31, 34, 37, 39, 40, 41, 42, 43, 44, 47, 50, 53, 56, 58, 59]
def m_252 : aMt := (yX12_pair, cX12_pair, 3, (some .int), 12, 3, 65, (0, 0), 0, k_252, q_252)
def k_253 : List aM := [(.aload_n 0, (0, 0, 0, 0), 0, 0, []),
  (.invokevirtual 358, (231, 1, 0, 11), 0, 0, []),
  (.iconst 0, (0, 0, 0, 0), 0, 0, []),
  (.istore_n 1, (1, 0, 0, 0), 0, 0, []),
  (.nop, (0, 0, 0, 0), 0, 0, [(0, 1), (0, 1)]),
  (.iload_n 1, (1, 0, 0, 0), 0, 0, []),
  (.bipush 60, (0, 0, 0, 0), 60, 0, []),
  (.if_icmp .gt 25, (19, 0, 0, 0), 0, 0, []),
  (.aload_n 0, (0, 0, 0, 0), 0, 0, []),
  (.invokevirtual 398, (252, 1, 1, 11), 0, 0, []),
  (.bipush (-2), (0, 0, 0, 0), (-2), 0, []),
  (.if_icmp .eq 5, (14, 0, 0, 0), 0, 0, []),
  (.iload_n 1, (1, 0, 0, 0), 0, 0, []),
  (.ireturn, (0, 0, 0, 0), 0, 0, []),
  (.aload_n 0, (0, 0, 0, 0), 0, 0, []),
  (.invokevirtual 361, (237, 1, 1, 11), 0, 0, []),
  (.pop, (0, 0, 0, 0), 0, 0, []),
  (.iinc 1 1, (1, 0, 0, 0), 1, 0, []),
  (.goto (-25), (4, 0, 0, 0), 0, 0, []),
  (.bipush (-2), (0, 0, 0, 0), (-2), 0, []),
  (.ireturn, (0, 0, 0, 0), 0, 0, [])]
def q_253 : List Nat := [0, 1, 4, 5, 6, 6, 7, 9, 12, 13, 16, 18, 21, 22, 23, 24, 27, 28, 31, 34, 36, 37]
def m_253 : aMt := (yX12_breaking, cX12_breaking, 2, (some .int), 12, 4, 87, (0, 0), 0, k_253, q_253)
def k_254 : List aM := [(.aload_n 0, (0, 0, 0, 0), 0, 0, []),
  (.iconst 0, (0, 0, 0, 0), 0, 0, []),
  (.putfield 55, (11, 0, 0, 0), 0, 0, []),
  (.aload_n 0, (0, 0, 0, 0), 0, 0, []),
  (.getfield 332, (11, 3, 3, 0), 0, 0, []),
  (.ifnonnull 11, (10, 0, 0, 0), 0, 0, []),
  (.aload_n 0, (0, 0, 0, 0), 0, 0, []),
  (.iconst 1, (0, 0, 0, 0), 1, 0, []),
  (.invokevirtual 61, (182, 2, 1, 11), 0, 0, []),
  (.goto 11, (14, 0, 0, 0), 0, 0, []),
  (.aload_n 0, (0, 0, 0, 0), 0, 0, []),
  (.aload_n 0, (0, 0, 0, 0), 0, 0, []),
  (.invokevirtual 401, (253, 1, 1, 11), 0, 0, []),
  (.invokevirtual 65, (185, 2, 1, 11), 0, 0, []),
  (.ireturn, (0, 0, 0, 0), 0, 0, [])]
def q_254 : List Nat := [0, 1, 2, 5, 6, 9, 12, 13, 14, 17, 20, 21, 22, 25, 28, 29]
def m_254 : aMt := (yX12_firstBreak, cX12_firstBreak, 1, (some .int), 12, 5, 108, (0, 0), 0, k_254, q_254)
def k_255 : List aM := [(.aload_n 0, (0, 0, 0, 0), 0, 0, []),
  (.iconst 0, (0, 0, 0, 0), 0, 0, []),
  (.putfield 55, (11, 0, 0, 0), 0, 0, []),
  (.aload_n 0, (0, 0, 0, 0), 0, 0, []),
  (.getfield 332, (11, 3, 3, 0), 0, 0, []),
  (.ifnonnull 9, (10, 0, 0, 0), 0, 0, []),
  (.aload_n 0, (0, 0, 0, 0), 0, 0, []),
  (.iconst 1, (0, 0, 0, 0), 1, 0, []),
  (.invokevirtual 61, (182, 2, 1, 11), 0, 0, []),
  (.ireturn, (0, 0, 0, 0), 0, 0, []),
  (.aload_n 0, (0, 0, 0, 0), 0, 0, []),
  (.aload_n 0, (0, 0, 0, 0), 0, 0, []),
  (.invokevirtual 401, (253, 1, 1, 11), 0, 0, []),
  (.bipush (-2), (0, 0, 0, 0), (-2), 0, []),
  (.if_icmp .ne 8, (17, 0, 0, 0), 0, 0, []),
  (.bipush (-2), (0, 0, 0, 0), (-2), 0, []),
  (.goto 7, (19, 0, 0, 0), 0, 0, []),
  (.aload_n 0, (0, 0, 0, 0), 0, 0, []),
  (.invokevirtual 398, (252, 1, 1, 11), 0, 0, []),
  (.nop, (0, 0, 0, 0), 0, 0, [(0, 0)]),
  (.invokevirtual 65, (185, 2, 1, 11), 0, 0, []),
  (.ireturn, (0, 0, 0, 0), 0, 0, [])]
def q_255 : List Nat := [0, 1, 2, 5, 6, 9, 12, 13, 14, 17, 18, 19, 20, 23, 25, 28, 30, 33, 34, 37, 37, 40, 41]
def m_255 : aMt := (yX12_whoBreaks, cX12_whoBreaks, 1, (some .int), 12, 5, 108, (0, 0), 0, k_255, q_255)
def k_256 : List aM := [(.aload_n 0, (0, 0, 0, 0), 0, 0, []),
  (.iload_n 2, (2, 0, 0, 0), 0, 0, []),
  (.invokevirtual 346, (234, 2, 1, 11), 0, 0, []),
  (.ifCond .eq 34, (20, 0, 0, 0), 0, 0, []),
  (.aload_n 0, (0, 0, 0, 0), 0, 0, []),
  (.getfield 21, (11, 17, 2, 0), 0, 0, []),
  (.bipush 12, (0, 0, 0, 0), 12, 0, []),
  (.iload_n 1, (1, 0, 0, 0), 0, 0, []),
  (.iadd, (0, 0, 0, 0), 0, 0, []),
  (.iaload, (13, 0, 0, 0), 0, 0, []),
  (.aload_n 0, (0, 0, 0, 0), 0, 0, []),
  (.iload_n 2, (2, 0, 0, 0), 0, 0, []),
  (.invokevirtual 352, (233, 2, 1, 11), 0, 0, []),
  (.invokestatic 385, (191, 2, 1, 99), 0, 0, []),
  (.aload_n 0, (0, 0, 0, 0), 0, 0, []),
  (.getfield 332, (11, 3, 2, 0), 0, 0, []),
  (.getfield 232, (10, 0, 0, 0), 0, 0, []),
  (.if_icmp .gt 7, (20, 0, 0, 0), 0, 0, []),
  (.iconst 1, (0, 0, 0, 0), 1, 0, []),
  (.goto 4, (21, 0, 0, 0), 0, 0, []),
  (.iconst 0, (0, 0, 0, 0), 0, 0, []),
  (.ireturn, (0, 0, 1, 0), 0, 0, [])]
def q_256 : List Nat := [0, 1, 2, 5, 8, 9, 12, 14, 15, 16, 17, 18, 19, 22, 25, 26, 29, 32, 35, 36, 39, 40, 41]
def m_256 : aMt := (yX12_isHeard, cX12_isHeard, 3, (some .boolean), 12, 2, 43, (0, 0), 2, k_256, q_256)
def k_257 : List aM := [(.aload_n 0, (0, 0, 0, 0), 0, 0, []),
  (.iconst 0, (0, 0, 0, 0), 0, 0, []),
  (.putfield 55, (11, 0, 0, 0), 0, 0, []),
  (.aload_n 0, (0, 0, 0, 0), 0, 0, []),
  (.aload_n 0, (0, 0, 0, 0), 0, 0, []),
  (.iload_n 1, (1, 0, 0, 0), 0, 0, []),
  (.invokevirtual 379, (228, 2, 1, 11), 0, 0, []),
  (.iload_n 2, (2, 0, 0, 0), 0, 0, []),
  (.invokevirtual 388, (239, 3, 1, 11), 0, 0, []),
  (.istore_n 3, (3, 0, 0, 0), 0, 0, []),
  (.iload_n 3, (3, 0, 0, 0), 0, 0, []),
  (.ifCond .le 9, (16, 0, 0, 0), 0, 0, []),
  (.aload_n 0, (0, 0, 0, 0), 0, 0, []),
  (.iload_n 3, (3, 0, 0, 0), 0, 0, []),
  (.invokevirtual 61, (182, 2, 1, 11), 0, 0, []),
  (.ireturn, (0, 0, 0, 0), 0, 0, []),
  (.aload_n 0, (0, 0, 0, 0), 0, 0, []),
  (.iload_n 2, (2, 0, 0, 0), 0, 0, []),
  (.invokevirtual 392, (238, 2, 0, 11), 0, 0, []),
  (.bipush (-2), (0, 0, 0, 0), (-2), 0, []),
  (.istore 4, (4, 0, 0, 0), 0, 0, []),
  (.iconst 0, (0, 0, 0, 0), 0, 0, []),
  (.istore 5, (5, 0, 0, 0), 0, 0, []),
  (.nop, (0, 0, 0, 0), 0, 0, [(0, 1), (0, 1), (0, 0), (0, 0), (0, 1), (0, 1), (0, 0)]),
  (.iload 5, (5, 0, 0, 0), 0, 0, []),
  (.aload_n 0, (0, 0, 0, 0), 0, 0, []),
  (.getfield 332, (11, 3, 2, 0), 0, 0, []),
  (.getfield 295, (10, 8, 0, 0), 0, 0, []),
  (.if_icmp .ge 60, (57, 0, 0, 0), 0, 0, []),
  (.aload_n 0, (0, 0, 0, 0), 0, 0, []),
  (.iload_n 1, (1, 0, 0, 0), 0, 0, []),
  (.iload 5, (5, 0, 0, 0), 0, 0, []),
  (.invokevirtual 404, (256, 3, 1, 11), 0, 0, []),
  (.ifCond .ne 6, (35, 0, 0, 0), 0, 0, []),
  (.goto 41, (55, 0, 0, 0), 0, 0, []),
  (.aload_n 0, (0, 0, 0, 0), 0, 0, []),
  (.getfield 21, (11, 17, 2, 0), 0, 0, []),
  (.bipush 12, (0, 0, 0, 0), 12, 0, []),
  (.iload_n 1, (1, 0, 0, 0), 0, 0, []),
  (.iadd, (0, 0, 0, 0), 0, 0, []),
  (.iaload, (13, 0, 0, 0), 0, 0, []),
  (.aload_n 0, (0, 0, 0, 0), 0, 0, []),
  (.iload 5, (5, 0, 0, 0), 0, 0, []),
  (.invokevirtual 352, (233, 2, 1, 11), 0, 0, []),
  (.invokestatic 385, (191, 2, 1, 99), 0, 0, []),
  (.istore 6, (6, 0, 0, 0), 0, 0, []),
  (.iload 4, (4, 0, 0, 0), 0, 0, []),
  (.bipush (-2), (0, 0, 0, 0), (-2), 0, []),
  (.if_icmp .eq 10, (52, 0, 0, 0), 0, 0, []),
  (.iload 6, (6, 0, 0, 0), 0, 0, []),
  (.iload 4, (4, 0, 0, 0), 0, 0, []),
  (.if_icmp .ge 7, (55, 0, 0, 0), 0, 0, []),
  (.nop, (0, 0, 0, 0), 0, 0, [(0, 1), (0, 1), (0, 0), (0, 0), (0, 0), (0, 1), (0, 1)]),
  (.iload 6, (6, 0, 0, 0), 0, 0, []),
  (.istore 4, (4, 0, 0, 0), 0, 0, []),
  (.iinc 5 1, (5, 0, 0, 0), 1, 0, []),
  (.goto (-66), (23, 0, 0, 0), 0, 0, []),
  (.aload_n 0, (0, 0, 0, 0), 0, 0, []),
  (.iload 4, (4, 0, 0, 0), 0, 0, []),
  (.invokevirtual 65, (185, 2, 1, 11), 0, 0, []),
  (.ireturn, (0, 0, 0, 0), 0, 0, [])]
def q_257 : List Nat := [0, 1, 2, 5, 6, 7, 8, 11, 12, 15, 16, 17, 20, 21, 22, 25, 26, 27, 28, 31, 33, 35, 36, 38, 38, 40, 41, 44, 47, 50, 51, 52, 54, 57, 60, 63, 64, 67, 69, 70, 71, 72, 73, 75, 78, 81, 83, 85, 87, 90, 92, 94, 97, 97, 99, 101, 104, 107, 108, 110, 113, 114]
def m_257 : aMt := (yX12_hears, cX12_hears, 7, (some .int), 12, 4, 88, (0, 0), 2, k_257, q_257)
def k_258 : List aM := [(.aload_n 0, (0, 0, 0, 0), 0, 0, []),
  (.iconst 0, (0, 0, 0, 0), 0, 0, []),
  (.putfield 55, (11, 0, 0, 0), 0, 0, []),
  (.aload_n 0, (0, 0, 0, 0), 0, 0, []),
  (.iload_n 1, (1, 0, 0, 0), 0, 0, []),
  (.invokevirtual 373, (227, 2, 1, 11), 0, 0, []),
  (.ifCond .ne 9, (11, 0, 0, 0), 0, 0, []),
  (.aload_n 0, (0, 0, 0, 0), 0, 0, []),
  (.iconst 1, (0, 0, 0, 0), 1, 0, []),
  (.invokevirtual 61, (182, 2, 1, 11), 0, 0, []),
  (.ireturn, (0, 0, 0, 0), 0, 0, []),
  (.aload_n 0, (0, 0, 0, 0), 0, 0, []),
  (.invokevirtual 358, (231, 1, 0, 11), 0, 0, []),
  (.iconst 0, (0, 0, 0, 0), 0, 0, []),
  (.istore_n 2, (2, 0, 0, 0), 0, 0, []),
  (.nop, (0, 0, 0, 0), 0, 0, [(0, 1), (0, 1), (0, 1), (0, 0)]),
  (.iload_n 2, (2, 0, 0, 0), 0, 0, []),
  (.bipush 60, (0, 0, 0, 0), 60, 0, []),
  (.if_icmp .gt 48, (43, 0, 0, 0), 0, 0, []),
  (.iconst 0, (0, 0, 0, 0), 0, 0, []),
  (.istore_n 3, (3, 0, 0, 0), 0, 0, []),
  (.nop, (0, 0, 0, 0), 0, 0, [(0, 1), (0, 1), (0, 1), (0, 1)]),
  (.iload_n 3, (3, 0, 0, 0), 0, 0, []),
  (.aload_n 0, (0, 0, 0, 0), 0, 0, []),
  (.getfield 332, (11, 3, 2, 0), 0, 0, []),
  (.getfield 271, (10, 7, 0, 0), 0, 0, []),
  (.if_icmp .ge 24, (38, 0, 0, 0), 0, 0, []),
  (.aload_n 0, (0, 0, 0, 0), 0, 0, []),
  (.iload_n 3, (3, 0, 0, 0), 0, 0, []),
  (.iload_n 1, (1, 0, 0, 0), 0, 0, []),
  (.invokevirtual 404, (256, 3, 1, 11), 0, 0, []),
  (.ifCond .eq 9, (36, 0, 0, 0), 0, 0, []),
  (.aload_n 0, (0, 0, 0, 0), 0, 0, []),
  (.iload_n 2, (2, 0, 0, 0), 0, 0, []),
  (.invokevirtual 65, (185, 2, 1, 11), 0, 0, []),
  (.ireturn, (0, 0, 0, 0), 0, 0, []),
  (.iinc 3 1, (3, 0, 0, 0), 1, 0, []),
  (.goto (-29), (21, 0, 0, 0), 0, 0, []),
  (.aload_n 0, (0, 0, 0, 0), 0, 0, []),
  (.invokevirtual 361, (237, 1, 1, 11), 0, 0, []),
  (.pop, (0, 0, 0, 0), 0, 0, []),
  (.iinc 2 1, (2, 0, 0, 0), 1, 0, []),
  (.goto (-48), (15, 0, 0, 0), 0, 0, []),
  (.aload_n 0, (0, 0, 0, 0), 0, 0, []),
  (.bipush (-2), (0, 0, 0, 0), (-2), 0, []),
  (.invokevirtual 65, (185, 2, 1, 11), 0, 0, []),
  (.ireturn, (0, 0, 0, 0), 0, 0, [])]
def q_258 : List Nat := [0, 1, 2, 5, 6, 7, 10, 13, 14, 15, 18, 19, 20, 23, 24, 25, 25, 26, 28, 31, 32, 33, 33, 34, 35, 38, 41, 44, 45, 46, 47, 50, 53, 54, 55, 58, 59, 62, 65, 66, 69, 70, 73, 76, 77, 79, 82, 83]
def m_258 : aMt := (yX12_heardIn, cX12_heardIn, 4, (some .int), 12, 3, 66, (0, 0), 1, k_258, q_258)
def k_259 : List aM := [(.iconst 0, (0, 0, 0, 0), 0, 0, []),
  (.istore_n 2, (2, 0, 0, 0), 0, 0, []),
  (.nop, (0, 0, 0, 0), 0, 0, [(0, 1), (0, 1), (0, 1)]),
  (.iload_n 2, (2, 0, 0, 0), 0, 0, []),
  (.aload_n 0, (0, 0, 0, 0), 0, 0, []),
  (.getfield 332, (11, 3, 2, 0), 0, 0, []),
  (.getfield 271, (10, 7, 0, 0), 0, 0, []),
  (.if_icmp .ge 34, (24, 0, 0, 0), 0, 0, []),
  (.aload_n 0, (0, 0, 0, 0), 0, 0, []),
  (.getfield 17, (11, 16, 2, 0), 0, 0, []),
  (.bipush 12, (0, 0, 0, 0), 12, 0, []),
  (.iload_n 2, (2, 0, 0, 0), 0, 0, []),
  (.iadd, (0, 0, 0, 0), 0, 0, []),
  (.iaload, (13, 0, 0, 0), 0, 0, []),
  (.iload_n 1, (1, 0, 0, 0), 0, 0, []),
  (.invokestatic 385, (191, 2, 1, 99), 0, 0, []),
  (.aload_n 0, (0, 0, 0, 0), 0, 0, []),
  (.getfield 332, (11, 3, 2, 0), 0, 0, []),
  (.getfield 232, (10, 0, 0, 0), 0, 0, []),
  (.if_icmp .gt 5, (22, 0, 0, 0), 0, 0, []),
  (.iconst 0, (0, 0, 0, 0), 0, 0, []),
  (.ireturn, (0, 0, 1, 0), 0, 0, []),
  (.iinc 2 1, (2, 0, 0, 0), 1, 0, []),
  (.goto (-39), (2, 0, 0, 0), 0, 0, []),
  (.iconst 1, (0, 0, 0, 0), 1, 0, []),
  (.ireturn, (0, 0, 1, 0), 0, 0, [])]
def q_259 : List Nat := [0, 1, 2, 2, 3, 4, 7, 10, 13, 14, 17, 19, 20, 21, 22, 23, 26, 27, 30, 33, 36, 37, 38, 41, 44, 45, 46]
def m_259 : aMt := (yX12_isQuiet, cX12_isQuiet, 3, (some .boolean), 12, 1, 23, (0, 0), 1, k_259, q_259)
def k_260 : List aM := [(.aload_n 0, (0, 0, 0, 0), 0, 0, []),
  (.invokevirtual 358, (231, 1, 0, 11), 0, 0, []),
  (.iconst 0, (0, 0, 0, 0), 0, 0, []),
  (.istore_n 3, (3, 0, 0, 0), 0, 0, []),
  (.nop, (0, 0, 0, 0), 0, 0, [(0, 1), (0, 1), (0, 1), (0, 1), (0, 0), (0, 0), (0, 0)]),
  (.iload_n 3, (3, 0, 0, 0), 0, 0, []),
  (.bipush 64, (0, 0, 0, 0), 64, 0, []),
  (.if_icmp .ge 18, (15, 0, 0, 0), 0, 0, []),
  (.aload_n 0, (0, 0, 0, 0), 0, 0, []),
  (.getfield 30, (11, 22, 2, 0), 0, 0, []),
  (.iload_n 3, (3, 0, 0, 0), 0, 0, []),
  (.sipush 9999, (0, 0, 0, 0), 9999, 0, []),
  (.iastore, (0, 0, 0, 0), 0, 0, []),
  (.iinc 3 1, (3, 0, 0, 0), 1, 0, []),
  (.goto (-18), (4, 0, 0, 0), 0, 0, []),
  (.aload_n 0, (0, 0, 0, 0), 0, 0, []),
  (.getfield 332, (11, 3, 2, 0), 0, 0, []),
  (.iload_n 1, (1, 0, 0, 0), 0, 0, []),
  (.invokevirtual 203, (178, 2, 1, 10), 0, 0, []),
  (.ifCond .ne 15, (26, 0, 0, 0), 0, 0, []),
  (.iload_n 2, (2, 0, 0, 0), 0, 0, []),
  (.ifCond .eq 12, (27, 0, 0, 0), 0, 0, []),
  (.aload_n 0, (0, 0, 0, 0), 0, 0, []),
  (.iload_n 1, (1, 0, 0, 0), 0, 0, []),
  (.invokevirtual 405, (259, 2, 1, 11), 0, 0, []),
  (.ifCond .ne 4, (27, 0, 0, 0), 0, 0, []),
  (.return_, (0, 0, 0, 0), 0, 0, []),
  (.nop, (0, 0, 0, 0), 0, 0, [(0, 1), (0, 1), (0, 1), (0, 0), (0, 0), (0, 0), (0, 0)]),
  (.aload_n 0, (0, 0, 0, 0), 0, 0, []),
  (.getfield 30, (11, 22, 2, 0), 0, 0, []),
  (.iload_n 1, (1, 0, 0, 0), 0, 0, []),
  (.iconst 0, (0, 0, 0, 0), 0, 0, []),
  (.iastore, (0, 0, 0, 0), 0, 0, []),
  (.iconst 1, (0, 0, 0, 0), 1, 0, []),
  (.istore_n 3, (3, 0, 0, 0), 0, 0, []),
  (.nop, (0, 0, 0, 0), 0, 0, [(0, 1), (0, 0), (0, 1), (0, 1), (0, 0), (0, 0), (0, 0)]),
  (.iload_n 3, (3, 0, 0, 0), 0, 0, []),
  (.ifCond .eq 140, (109, 0, 0, 0), 0, 0, []),
  (.iconst 0, (0, 0, 0, 0), 0, 0, []),
  (.istore_n 3, (3, 0, 0, 0), 0, 0, []),
  (.iconst 0, (0, 0, 0, 0), 0, 0, []),
  (.istore 4, (4, 0, 0, 0), 0, 0, []),
  (.nop, (0, 0, 0, 0), 0, 0, [(0, 1), (0, 0), (0, 1), (0, 1), (0, 1), (0, 0), (0, 0)]),
  (.iload 4, (4, 0, 0, 0), 0, 0, []),
  (.bipush 64, (0, 0, 0, 0), 64, 0, []),
  (.if_icmp .ge 125, (108, 0, 0, 0), 0, 0, []),
  (.iconst 1, (0, 0, 0, 0), 1, 0, []),
  (.istore 5, (5, 0, 0, 0), 0, 0, []),
  (.nop, (0, 0, 0, 0), 0, 0, [(0, 1), (0, 0), (0, 1), (0, 1), (0, 1), (0, 1), (0, 0)]),
  (.iload 5, (5, 0, 0, 0), 0, 0, []),
  (.iconst 5, (0, 0, 0, 0), 5, 0, []),
  (.if_icmp .ge 110, (106, 0, 0, 0), 0, 0, []),
  (.aload_n 0, (0, 0, 0, 0), 0, 0, []),
  (.getfield 30, (11, 22, 2, 0), 0, 0, []),
  (.iload 4, (4, 0, 0, 0), 0, 0, []),
  (.iaload, (13, 0, 0, 0), 0, 0, []),
  (.sipush 9999, (0, 0, 0, 0), 9999, 0, []),
  (.if_icmp .ge 97, (106, 0, 0, 0), 0, 0, []),
  (.aload_n 0, (0, 0, 0, 0), 0, 0, []),
  (.getfield 332, (11, 3, 2, 0), 0, 0, []),
  (.iload 4, (4, 0, 0, 0), 0, 0, []),
  (.iload 5, (5, 0, 0, 0), 0, 0, []),
  (.invokevirtual 289, (177, 3, 1, 10), 0, 0, []),
  (.istore 6, (6, 0, 0, 0), 0, 0, []),
  (.aload_n 0, (0, 0, 0, 0), 0, 0, []),
  (.getfield 332, (11, 3, 2, 0), 0, 0, []),
  (.iload 6, (6, 0, 0, 0), 0, 0, []),
  (.invokevirtual 292, (179, 2, 1, 10), 0, 0, []),
  (.ifCond .eq 66, (104, 0, 0, 0), 0, 0, []),
  (.aload_n 0, (0, 0, 0, 0), 0, 0, []),
  (.getfield 30, (11, 22, 2, 0), 0, 0, []),
  (.iload 4, (4, 0, 0, 0), 0, 0, []),
  (.iaload, (13, 0, 0, 0), 0, 0, []),
  (.aload_n 0, (0, 0, 0, 0), 0, 0, []),
  (.iload 6, (6, 0, 0, 0), 0, 0, []),
  (.invokevirtual 349, (235, 2, 1, 11), 0, 0, []),
  (.iadd, (0, 0, 0, 0), 0, 0, []),
  (.aload_n 0, (0, 0, 0, 0), 0, 0, []),
  (.getfield 30, (11, 22, 2, 0), 0, 0, []),
  (.iload 6, (6, 0, 0, 0), 0, 0, []),
  (.iaload, (13, 0, 0, 0), 0, 0, []),
  (.if_icmp .ge 42, (104, 0, 0, 0), 0, 0, []),
  (.iload_n 2, (2, 0, 0, 0), 0, 0, []),
  (.ifCond .eq 15, (89, 0, 0, 0), 0, 0, []),
  (.aload_n 0, (0, 0, 0, 0), 0, 0, []),
  (.iload 6, (6, 0, 0, 0), 0, 0, []),
  (.invokevirtual 405, (259, 2, 1, 11), 0, 0, []),
  (.ifCond .ne 6, (89, 0, 0, 0), 0, 0, []),
  (.goto 26, (104, 0, 0, 0), 0, 0, []),
  (.nop, (0, 0, 0, 0), 0, 0, [(0, 1), (0, 0), (0, 1), (0, 0), (0, 1), (0, 1), (0, 1)]),
  (.aload_n 0, (0, 0, 0, 0), 0, 0, []),
  (.getfield 30, (11, 22, 2, 0), 0, 0, []),
  (.iload 6, (6, 0, 0, 0), 0, 0, []),
  (.aload_n 0, (0, 0, 0, 0), 0, 0, []),
  (.getfield 30, (11, 22, 2, 0), 0, 0, []),
  (.iload 4, (4, 0, 0, 0), 0, 0, []),
  (.iaload, (13, 0, 0, 0), 0, 0, []),
  (.aload_n 0, (0, 0, 0, 0), 0, 0, []),
  (.iload 6, (6, 0, 0, 0), 0, 0, []),
  (.invokevirtual 349, (235, 2, 1, 11), 0, 0, []),
  (.iadd, (0, 0, 0, 0), 0, 0, []),
  (.iastore, (0, 0, 0, 0), 0, 0, []),
  (.iconst 1, (0, 0, 0, 0), 1, 0, []),
  (.istore_n 3, (3, 0, 0, 0), 0, 0, []),
  (.iinc 5 1, (5, 0, 0, 0), 1, 0, []),
  (.goto (-110), (48, 0, 0, 0), 0, 0, []),
  (.iinc 4 1, (4, 0, 0, 0), 1, 0, []),
  (.goto (-126), (42, 0, 0, 0), 0, 0, []),
  (.goto (-138), (35, 0, 0, 0), 0, 0, []),
  (.return_, (0, 0, 0, 0), 0, 0, [])]
def q_260 : List Nat := [0, 1, 4, 5, 6, 6, 7, 9, 12, 13, 16, 17, 20, 21, 24, 27, 28, 31, 32, 35, 38, 39, 42, 43, 44, 47, 50, 51, 51, 52, 55, 56, 57, 58, 59, 60, 60, 61, 64, 65, 66, 67, 69, 69, 71, 73, 76, 77, 79, 79, 81, 82, 85, 86, 89, 91, 92, 95, 98, 99, 102, 104, 106, 109, 111, 112, 115, 117, 120, 123, 124, 127, 129, 130, 131, 133, 136, 137, 138, 141, 143, 144, 147, 148, 151, 152, 154, 157, 160, 163, 163, 164, 167, 169, 170, 173, 175, 176, 177, 179, 182, 183, 184, 185, 186, 189, 192, 195, 198, 201, 202]
def m_260 : aMt := (yX12_lowers, cX12_lowers, 7, none, 12, 2, 45, (0, 0), 2, k_260, q_260)
def k_261 : List aM := [(.aload_n 0, (0, 0, 0, 0), 0, 0, []),
  (.getfield 30, (11, 22, 2, 0), 0, 0, []),
  (.iload_n 1, (1, 0, 0, 0), 0, 0, []),
  (.iaload, (13, 0, 0, 0), 0, 0, []),
  (.sipush 9999, (0, 0, 0, 0), 9999, 0, []),
  (.if_icmp .ne 8, (8, 0, 0, 0), 0, 0, []),
  (.bipush (-2), (0, 0, 0, 0), (-2), 0, []),
  (.goto 9, (12, 0, 0, 0), 0, 0, []),
  (.aload_n 0, (0, 0, 0, 0), 0, 0, []),
  (.getfield 30, (11, 22, 2, 0), 0, 0, []),
  (.iload_n 1, (1, 0, 0, 0), 0, 0, []),
  (.iaload, (13, 0, 0, 0), 0, 0, []),
  (.ireturn, (0, 0, 0, 0), 0, 0, [])]
def q_261 : List Nat := [0, 1, 4, 5, 6, 9, 12, 14, 17, 18, 21, 22, 23, 24]
def m_261 : aMt := (yX12_byOf, cX12_byOf, 2, (some .int), 12, 0, 0, (0, 0), 1, k_261, q_261)
def k_262 : List aM := [(.aload_n 0, (0, 0, 0, 0), 0, 0, []),
  (.iconst 0, (0, 0, 0, 0), 0, 0, []),
  (.putfield 55, (11, 0, 0, 0), 0, 0, []),
  (.aload_n 0, (0, 0, 0, 0), 0, 0, []),
  (.iload_n 1, (1, 0, 0, 0), 0, 0, []),
  (.iload_n 2, (2, 0, 0, 0), 0, 0, []),
  (.invokevirtual 364, (226, 3, 1, 11), 0, 0, []),
  (.ifCond .eq 13, (13, 0, 0, 0), 0, 0, []),
  (.aload_n 0, (0, 0, 0, 0), 0, 0, []),
  (.iload_n 3, (3, 0, 0, 0), 0, 0, []),
  (.iload 4, (4, 0, 0, 0), 0, 0, []),
  (.invokevirtual 364, (226, 3, 1, 11), 0, 0, []),
  (.ifCond .ne 9, (18, 0, 0, 0), 0, 0, []),
  (.nop, (0, 0, 0, 0), 0, 0, [(0, 1), (0, 0), (0, 0), (0, 0), (0, 0)]),
  (.aload_n 0, (0, 0, 0, 0), 0, 0, []),
  (.iconst 1, (0, 0, 0, 0), 1, 0, []),
  (.invokevirtual 61, (182, 2, 1, 11), 0, 0, []),
  (.ireturn, (0, 0, 0, 0), 0, 0, []),
  (.aload_n 0, (0, 0, 0, 0), 0, 0, []),
  (.iload_n 1, (1, 0, 0, 0), 0, 0, []),
  (.iload_n 2, (2, 0, 0, 0), 0, 0, []),
  (.invokestatic 367, (229, 2, 1, 99), 0, 0, []),
  (.iconst 0, (0, 0, 0, 0), 0, 0, []),
  (.invokevirtual 408, (260, 3, 0, 11), 0, 0, []),
  (.aload_n 0, (0, 0, 0, 0), 0, 0, []),
  (.aload_n 0, (0, 0, 0, 0), 0, 0, []),
  (.iload_n 3, (3, 0, 0, 0), 0, 0, []),
  (.iload 4, (4, 0, 0, 0), 0, 0, []),
  (.invokestatic 367, (229, 2, 1, 99), 0, 0, []),
  (.invokevirtual 412, (261, 2, 1, 11), 0, 0, []),
  (.invokevirtual 65, (185, 2, 1, 11), 0, 0, []),
  (.ireturn, (0, 0, 0, 0), 0, 0, [])]
def q_262 : List Nat := [0, 1, 2, 5, 6, 7, 8, 11, 14, 15, 16, 18, 21, 24, 24, 25, 26, 29, 30, 31, 32, 33, 36, 37, 40, 41, 42, 43, 45, 48, 51, 54, 55]
def m_262 : aMt := (yX12_nights, cX12_nights, 5, (some .int), 12, 3, 71, (0, 0), 4, k_262, q_262)
def k_263 : List aM := [(.aload_n 0, (0, 0, 0, 0), 0, 0, []),
  (.iconst 0, (0, 0, 0, 0), 0, 0, []),
  (.putfield 55, (11, 0, 0, 0), 0, 0, []),
  (.aload_n 0, (0, 0, 0, 0), 0, 0, []),
  (.iload_n 1, (1, 0, 0, 0), 0, 0, []),
  (.iload_n 2, (2, 0, 0, 0), 0, 0, []),
  (.invokevirtual 364, (226, 3, 1, 11), 0, 0, []),
  (.ifCond .eq 13, (13, 0, 0, 0), 0, 0, []),
  (.aload_n 0, (0, 0, 0, 0), 0, 0, []),
  (.iload_n 3, (3, 0, 0, 0), 0, 0, []),
  (.iload 4, (4, 0, 0, 0), 0, 0, []),
  (.invokevirtual 364, (226, 3, 1, 11), 0, 0, []),
  (.ifCond .ne 9, (18, 0, 0, 0), 0, 0, []),
  (.nop, (0, 0, 0, 0), 0, 0, [(0, 1), (0, 0), (0, 0), (0, 0), (0, 0)]),
  (.aload_n 0, (0, 0, 0, 0), 0, 0, []),
  (.iconst 1, (0, 0, 0, 0), 1, 0, []),
  (.invokevirtual 61, (182, 2, 1, 11), 0, 0, []),
  (.ireturn, (0, 0, 0, 0), 0, 0, []),
  (.aload_n 0, (0, 0, 0, 0), 0, 0, []),
  (.iload_n 1, (1, 0, 0, 0), 0, 0, []),
  (.iload_n 2, (2, 0, 0, 0), 0, 0, []),
  (.invokestatic 367, (229, 2, 1, 99), 0, 0, []),
  (.iconst 1, (0, 0, 0, 0), 1, 0, []),
  (.invokevirtual 408, (260, 3, 0, 11), 0, 0, []),
  (.aload_n 0, (0, 0, 0, 0), 0, 0, []),
  (.aload_n 0, (0, 0, 0, 0), 0, 0, []),
  (.iload_n 3, (3, 0, 0, 0), 0, 0, []),
  (.iload 4, (4, 0, 0, 0), 0, 0, []),
  (.invokestatic 367, (229, 2, 1, 99), 0, 0, []),
  (.invokevirtual 412, (261, 2, 1, 11), 0, 0, []),
  (.invokevirtual 65, (185, 2, 1, 11), 0, 0, []),
  (.ireturn, (0, 0, 0, 0), 0, 0, [])]
def q_263 : List Nat := [0, 1, 2, 5, 6, 7, 8, 11, 14, 15, 16, 18, 21, 24, 24, 25, 26, 29, 30, 31, 32, 33, 36, 37, 40, 41, 42, 43, 45, 48, 51, 54, 55]
def m_263 : aMt := (yX12_quiet, cX12_quiet, 5, (some .int), 12, 3, 71, (0, 0), 4, k_263, q_263)
def k_264 : List aM := [(.aload_n 0, (0, 0, 0, 0), 0, 0, []),
  (.iconst 0, (0, 0, 0, 0), 0, 0, []),
  (.putfield 55, (11, 0, 0, 0), 0, 0, []),
  (.aload_n 0, (0, 0, 0, 0), 0, 0, []),
  (.iload_n 1, (1, 0, 0, 0), 0, 0, []),
  (.invokevirtual 373, (227, 2, 1, 11), 0, 0, []),
  (.ifCond .ne 9, (11, 0, 0, 0), 0, 0, []),
  (.aload_n 0, (0, 0, 0, 0), 0, 0, []),
  (.iconst 1, (0, 0, 0, 0), 1, 0, []),
  (.invokevirtual 61, (182, 2, 1, 11), 0, 0, []),
  (.ireturn, (0, 0, 0, 0), 0, 0, []),
  (.aload_n 0, (0, 0, 0, 0), 0, 0, []),
  (.invokevirtual 358, (231, 1, 0, 11), 0, 0, []),
  (.aload_n 0, (0, 0, 0, 0), 0, 0, []),
  (.aload_n 0, (0, 0, 0, 0), 0, 0, []),
  (.iload_n 1, (1, 0, 0, 0), 0, 0, []),
  (.invokevirtual 352, (233, 2, 1, 11), 0, 0, []),
  (.iconst 0, (0, 0, 0, 0), 0, 0, []),
  (.invokevirtual 408, (260, 3, 0, 11), 0, 0, []),
  (.aload_n 0, (0, 0, 0, 0), 0, 0, []),
  (.aload_n 0, (0, 0, 0, 0), 0, 0, []),
  (.aload_n 0, (0, 0, 0, 0), 0, 0, []),
  (.getfield 332, (11, 3, 2, 0), 0, 0, []),
  (.getfield 212, (10, 6, 0, 0), 0, 0, []),
  (.invokevirtual 412, (261, 2, 1, 11), 0, 0, []),
  (.invokevirtual 65, (185, 2, 1, 11), 0, 0, []),
  (.ireturn, (0, 0, 0, 0), 0, 0, [])]
def q_264 : List Nat := [0, 1, 2, 5, 6, 7, 10, 13, 14, 15, 18, 19, 20, 23, 24, 25, 26, 29, 30, 33, 34, 35, 36, 39, 42, 45, 48, 49]
def m_264 : aMt := (yX12_toWall, cX12_toWall, 2, (some .int), 12, 3, 71, (0, 0), 1, k_264, q_264)
def k_265 : List aM := [(.aload_n 0, (0, 0, 0, 0), 0, 0, []),
  (.iconst 0, (0, 0, 0, 0), 0, 0, []),
  (.putfield 55, (11, 0, 0, 0), 0, 0, []),
  (.aload_n 0, (0, 0, 0, 0), 0, 0, []),
  (.iload_n 1, (1, 0, 0, 0), 0, 0, []),
  (.iload_n 2, (2, 0, 0, 0), 0, 0, []),
  (.invokevirtual 364, (226, 3, 1, 11), 0, 0, []),
  (.ifCond .ne 9, (12, 0, 0, 0), 0, 0, []),
  (.aload_n 0, (0, 0, 0, 0), 0, 0, []),
  (.iconst 1, (0, 0, 0, 0), 1, 0, []),
  (.invokevirtual 61, (182, 2, 1, 11), 0, 0, []),
  (.ireturn, (0, 0, 0, 0), 0, 0, []),
  (.iload_n 3, (3, 0, 0, 0), 0, 0, []),
  (.iconst 0, (0, 0, 0, 0), 0, 0, []),
  (.bipush 99, (0, 0, 0, 0), 99, 0, []),
  (.invokestatic 137, (187, 3, 1, 99), 0, 0, []),
  (.ifCond .ne 9, (21, 0, 0, 0), 0, 0, []),
  (.aload_n 0, (0, 0, 0, 0), 0, 0, []),
  (.iconst 2, (0, 0, 0, 0), 2, 0, []),
  (.invokevirtual 61, (182, 2, 1, 11), 0, 0, []),
  (.ireturn, (0, 0, 0, 0), 0, 0, []),
  (.aload_n 0, (0, 0, 0, 0), 0, 0, []),
  (.iload_n 1, (1, 0, 0, 0), 0, 0, []),
  (.iload_n 2, (2, 0, 0, 0), 0, 0, []),
  (.invokestatic 367, (229, 2, 1, 99), 0, 0, []),
  (.iconst 0, (0, 0, 0, 0), 0, 0, []),
  (.invokevirtual 408, (260, 3, 0, 11), 0, 0, []),
  (.iconst 0, (0, 0, 0, 0), 0, 0, []),
  (.istore 4, (4, 0, 0, 0), 0, 0, []),
  (.iconst 0, (0, 0, 0, 0), 0, 0, []),
  (.istore 5, (5, 0, 0, 0), 0, 0, []),
  (.nop, (0, 0, 0, 0), 0, 0, [(0, 1), (0, 0), (0, 0), (0, 1), (0, 1), (0, 1)]),
  (.iload 5, (5, 0, 0, 0), 0, 0, []),
  (.bipush 64, (0, 0, 0, 0), 64, 0, []),
  (.if_icmp .ge 30, (50, 0, 0, 0), 0, 0, []),
  (.iload 4, (4, 0, 0, 0), 0, 0, []),
  (.aload_n 0, (0, 0, 0, 0), 0, 0, []),
  (.getfield 30, (11, 22, 2, 0), 0, 0, []),
  (.iload 5, (5, 0, 0, 0), 0, 0, []),
  (.iaload, (13, 0, 0, 0), 0, 0, []),
  (.iload_n 3, (3, 0, 0, 0), 0, 0, []),
  (.if_icmp .gt 7, (44, 0, 0, 0), 0, 0, []),
  (.iconst 1, (0, 0, 0, 0), 1, 0, []),
  (.goto 4, (45, 0, 0, 0), 0, 0, []),
  (.iconst 0, (0, 0, 0, 0), 0, 0, []),
  (.nop, (0, 0, 0, 0), 0, 0, [(0, 1), (0, 0), (0, 0), (0, 1), (0, 0), (0, 1)]),
  (.iadd, (0, 0, 0, 0), 0, 0, []),
  (.istore 4, (4, 0, 0, 0), 0, 0, []),
  (.iinc 5 1, (5, 0, 0, 0), 1, 0, []),
  (.goto (-31), (31, 0, 0, 0), 0, 0, []),
  (.aload_n 0, (0, 0, 0, 0), 0, 0, []),
  (.iload 4, (4, 0, 0, 0), 0, 0, []),
  (.invokevirtual 65, (185, 2, 1, 11), 0, 0, []),
  (.ireturn, (0, 0, 0, 0), 0, 0, [])]
def q_265 : List Nat := [0, 1, 2, 5, 6, 7, 8, 11, 14, 15, 16, 19, 20, 21, 22, 24, 27, 30, 31, 32, 35, 36, 37, 38, 39, 42, 43, 46, 47, 49, 50, 52, 52, 54, 56, 59, 61, 62, 65, 67, 68, 69, 72, 73, 76, 77, 77, 78, 80, 83, 86, 87, 89, 92, 93]
def m_265 : aMt := (yX12_within, cX12_within, 6, (some .int), 12, 3, 71, (0, 0), 3, k_265, q_265)
def k_266 : List aM := [(.bipush 8, (0, 0, 0, 0), 8, 0, []),
  (.aload_n 0, (0, 0, 0, 0), 0, 0, []),
  (.getfield 332, (11, 3, 2, 0), 0, 0, []),
  (.getfield 170, (10, 5, 0, 0), 0, 0, []),
  (.iconst 1, (0, 0, 0, 0), 1, 0, []),
  (.isub, (0, 0, 0, 0), 0, 0, []),
  (.imul, (0, 0, 0, 0), 0, 0, []),
  (.aload_n 0, (0, 0, 0, 0), 0, 0, []),
  (.getfield 332, (11, 3, 2, 0), 0, 0, []),
  (.getfield 200, (10, 4, 0, 0), 0, 0, []),
  (.iadd, (0, 0, 0, 0), 0, 0, []),
  (.iconst 1, (0, 0, 0, 0), 1, 0, []),
  (.isub, (0, 0, 0, 0), 0, 0, []),
  (.ireturn, (0, 0, 0, 0), 0, 0, [])]
def q_266 : List Nat := [0, 2, 3, 6, 9, 10, 11, 12, 13, 16, 19, 20, 21, 22, 23]
def m_266 : aMt := (yX12_last, cX12_last, 1, (some .int), 12, 0, 0, (0, 0), 0, k_266, q_266)
def k_267 : List aM := [(.iload_n 1, (1, 0, 0, 0), 0, 0, []),
  (.bipush 8, (0, 0, 0, 0), 8, 0, []),
  (.irem, (0, 0, 0, 0), 0, 0, []),
  (.aload_n 0, (0, 0, 0, 0), 0, 0, []),
  (.getfield 332, (11, 3, 2, 0), 0, 0, []),
  (.getfield 200, (10, 4, 0, 0), 0, 0, []),
  (.if_icmp .ge 32, (21, 0, 0, 0), 0, 0, []),
  (.iload_n 1, (1, 0, 0, 0), 0, 0, []),
  (.bipush 8, (0, 0, 0, 0), 8, 0, []),
  (.idiv, (0, 0, 0, 0), 0, 0, []),
  (.aload_n 0, (0, 0, 0, 0), 0, 0, []),
  (.getfield 332, (11, 3, 2, 0), 0, 0, []),
  (.getfield 170, (10, 5, 0, 0), 0, 0, []),
  (.if_icmp .ge 18, (21, 0, 0, 0), 0, 0, []),
  (.aload_n 0, (0, 0, 0, 0), 0, 0, []),
  (.getfield 332, (11, 3, 2, 0), 0, 0, []),
  (.iload_n 1, (1, 0, 0, 0), 0, 0, []),
  (.invokevirtual 203, (178, 2, 1, 10), 0, 0, []),
  (.ifCond .ne 7, (21, 0, 0, 0), 0, 0, []),
  (.iconst 1, (0, 0, 0, 0), 1, 0, []),
  (.goto 4, (22, 0, 0, 0), 0, 0, []),
  (.iconst 0, (0, 0, 0, 0), 0, 0, []),
  (.ireturn, (0, 0, 1, 0), 0, 0, [])]
def q_267 : List Nat := [0, 1, 3, 4, 5, 8, 11, 14, 15, 17, 18, 19, 22, 25, 28, 29, 32, 33, 36, 39, 40, 43, 44, 45]
def m_267 : aMt := (yX12_isSoil, cX12_isSoil, 2, (some .boolean), 12, 1, 21, (0, 0), 1, k_267, q_267)
def k_268 : List aM := [(.aload_n 0, (0, 0, 0, 0), 0, 0, []),
  (.iconst 0, (0, 0, 0, 0), 0, 0, []),
  (.putfield 55, (11, 0, 0, 0), 0, 0, []),
  (.aload_n 0, (0, 0, 0, 0), 0, 0, []),
  (.getfield 332, (11, 3, 3, 0), 0, 0, []),
  (.ifnonnull 9, (10, 0, 0, 0), 0, 0, []),
  (.aload_n 0, (0, 0, 0, 0), 0, 0, []),
  (.iconst 1, (0, 0, 0, 0), 1, 0, []),
  (.invokevirtual 61, (182, 2, 1, 11), 0, 0, []),
  (.ireturn, (0, 0, 0, 0), 0, 0, []),
  (.iconst 0, (0, 0, 0, 0), 0, 0, []),
  (.istore_n 1, (1, 0, 0, 0), 0, 0, []),
  (.iconst 0, (0, 0, 0, 0), 0, 0, []),
  (.istore_n 2, (2, 0, 0, 0), 0, 0, []),
  (.nop, (0, 0, 0, 0), 0, 0, [(0, 1), (0, 1), (0, 1)]),
  (.iload_n 2, (2, 0, 0, 0), 0, 0, []),
  (.aload_n 0, (0, 0, 0, 0), 0, 0, []),
  (.invokevirtual 415, (266, 1, 1, 11), 0, 0, []),
  (.if_icmp .gt 33, (36, 0, 0, 0), 0, 0, []),
  (.iload_n 1, (1, 0, 0, 0), 0, 0, []),
  (.aload_n 0, (0, 0, 0, 0), 0, 0, []),
  (.iload_n 2, (2, 0, 0, 0), 0, 0, []),
  (.invokevirtual 418, (267, 2, 1, 11), 0, 0, []),
  (.ifCond .eq 15, (30, 0, 0, 0), 0, 0, []),
  (.aload_n 0, (0, 0, 0, 0), 0, 0, []),
  (.iload_n 2, (2, 0, 0, 0), 0, 0, []),
  (.invokevirtual 405, (259, 2, 1, 11), 0, 0, []),
  (.ifCond .eq 7, (30, 0, 0, 0), 0, 0, []),
  (.iconst 1, (0, 0, 0, 0), 1, 0, []),
  (.goto 4, (31, 0, 0, 0), 0, 0, []),
  (.iconst 0, (0, 0, 0, 0), 0, 0, []),
  (.nop, (0, 0, 0, 0), 0, 0, [(0, 1), (0, 0), (0, 1)]),
  (.iadd, (0, 0, 0, 0), 0, 0, []),
  (.istore_n 1, (1, 0, 0, 0), 0, 0, []),
  (.iinc 2 1, (2, 0, 0, 0), 1, 0, []),
  (.goto (-35), (14, 0, 0, 0), 0, 0, []),
  (.aload_n 0, (0, 0, 0, 0), 0, 0, []),
  (.iload_n 1, (1, 0, 0, 0), 0, 0, []),
  (.invokevirtual 65, (185, 2, 1, 11), 0, 0, []),
  (.ireturn, (0, 0, 0, 0), 0, 0, [])]
def q_268 : List Nat := [0, 1, 2, 5, 6, 9, 12, 13, 14, 17, 18, 19, 20, 21, 22, 22, 23, 24, 27, 30, 31, 32, 33, 36, 39, 40, 41, 44, 47, 48, 51, 52, 52, 53, 54, 57, 60, 61, 62, 65, 66]
def m_268 : aMt := (yX12_deaf, cX12_deaf, 3, (some .int), 12, 2, 45, (0, 0), 0, k_268, q_268)
def k_269 : List aM := [(.aload_n 0, (0, 0, 0, 0), 0, 0, []),
  (.getfield 43, (11, 26, 2, 0), 0, 0, []),
  (.iload_n 1, (1, 0, 0, 0), 0, 0, []),
  (.iaload, (13, 0, 0, 0), 0, 0, []),
  (.iconst (-1), (0, 0, 0, 0), (-1), 0, []),
  (.if_icmp .eq 4, (7, 0, 0, 0), 0, 0, []),
  (.return_, (0, 0, 0, 0), 0, 0, []),
  (.aload_n 0, (0, 0, 0, 0), 0, 0, []),
  (.getfield 43, (11, 26, 2, 0), 0, 0, []),
  (.iload_n 1, (1, 0, 0, 0), 0, 0, []),
  (.iload_n 2, (2, 0, 0, 0), 0, 0, []),
  (.iastore, (0, 0, 0, 0), 0, 0, []),
  (.aload_n 0, (0, 0, 0, 0), 0, 0, []),
  (.getfield 40, (11, 25, 2, 0), 0, 0, []),
  (.aload_n 0, (0, 0, 0, 0), 0, 0, []),
  (.getfield 421, (11, 27, 0, 0), 0, 0, []),
  (.iload_n 1, (1, 0, 0, 0), 0, 0, []),
  (.iastore, (0, 0, 0, 0), 0, 0, []),
  (.aload_n 0, (0, 0, 0, 0), 0, 0, []),
  (.dup, (0, 0, 0, 0), 0, 0, []),
  (.getfield 421, (11, 27, 0, 0), 0, 0, []),
  (.iconst 1, (0, 0, 0, 0), 1, 0, []),
  (.iadd, (0, 0, 0, 0), 0, 0, []),
  (.putfield 421, (11, 27, 0, 0), 0, 0, []),
  (.return_, (0, 0, 0, 0), 0, 0, [])]
def q_269 : List Nat := [0, 1, 4, 5, 6, 7, 10, 11, 12, 15, 16, 17, 18, 19, 22, 23, 26, 27, 28, 29, 30, 33, 34, 35, 38, 39]
def m_269 : aMt := (yX12_reaches, cX12_reaches, 3, none, 12, 0, 0, (0, 0), 2, k_269, q_269)
def k_270 : List aM := [(.iconst 0, (0, 0, 0, 0), 0, 0, []),
  (.istore_n 3, (3, 0, 0, 0), 0, 0, []),
  (.nop, (0, 0, 0, 0), 0, 0, [(0, 1), (0, 1), (0, 1), (0, 1), (0, 0), (0, 0), (0, 0), (0, 0)]),
  (.iload_n 3, (3, 0, 0, 0), 0, 0, []),
  (.sipush 128, (0, 0, 0, 0), 128, 0, []),
  (.if_icmp .ge 16, (13, 0, 0, 0), 0, 0, []),
  (.aload_n 0, (0, 0, 0, 0), 0, 0, []),
  (.getfield 43, (11, 26, 2, 0), 0, 0, []),
  (.iload_n 3, (3, 0, 0, 0), 0, 0, []),
  (.iconst (-1), (0, 0, 0, 0), (-1), 0, []),
  (.iastore, (0, 0, 0, 0), 0, 0, []),
  (.iinc 3 1, (3, 0, 0, 0), 1, 0, []),
  (.goto (-17), (2, 0, 0, 0), 0, 0, []),
  (.aload_n 0, (0, 0, 0, 0), 0, 0, []),
  (.iconst 0, (0, 0, 0, 0), 0, 0, []),
  (.putfield 421, (11, 27, 0, 0), 0, 0, []),
  (.aload_n 0, (0, 0, 0, 0), 0, 0, []),
  (.iconst 2, (0, 0, 0, 0), 2, 0, []),
  (.iload_n 1, (1, 0, 0, 0), 0, 0, []),
  (.imul, (0, 0, 0, 0), 0, 0, []),
  (.iconst 1, (0, 0, 0, 0), 1, 0, []),
  (.iadd, (0, 0, 0, 0), 0, 0, []),
  (.iconst 2, (0, 0, 0, 0), 2, 0, []),
  (.iload_n 1, (1, 0, 0, 0), 0, 0, []),
  (.imul, (0, 0, 0, 0), 0, 0, []),
  (.iconst 1, (0, 0, 0, 0), 1, 0, []),
  (.iadd, (0, 0, 0, 0), 0, 0, []),
  (.invokevirtual 424, (269, 3, 0, 11), 0, 0, []),
  (.iconst 0, (0, 0, 0, 0), 0, 0, []),
  (.istore_n 3, (3, 0, 0, 0), 0, 0, []),
  (.nop, (0, 0, 0, 0), 0, 0, [(0, 1), (0, 1), (0, 1), (0, 1), (0, 0), (0, 0), (0, 0), (0, 0)]),
  (.iload_n 3, (3, 0, 0, 0), 0, 0, []),
  (.aload_n 0, (0, 0, 0, 0), 0, 0, []),
  (.getfield 421, (11, 27, 0, 0), 0, 0, []),
  (.if_icmp .ge 217, (158, 0, 0, 0), 0, 0, []),
  (.aload_n 0, (0, 0, 0, 0), 0, 0, []),
  (.getfield 43, (11, 26, 2, 0), 0, 0, []),
  (.iconst 2, (0, 0, 0, 0), 2, 0, []),
  (.iload_n 2, (2, 0, 0, 0), 0, 0, []),
  (.imul, (0, 0, 0, 0), 0, 0, []),
  (.iaload, (13, 0, 0, 0), 0, 0, []),
  (.iconst (-1), (0, 0, 0, 0), (-1), 0, []),
  (.if_icmp .ne 205, (158, 0, 0, 0), 0, 0, []),
  (.aload_n 0, (0, 0, 0, 0), 0, 0, []),
  (.getfield 40, (11, 25, 2, 0), 0, 0, []),
  (.iload_n 3, (3, 0, 0, 0), 0, 0, []),
  (.iaload, (13, 0, 0, 0), 0, 0, []),
  (.iconst 2, (0, 0, 0, 0), 2, 0, []),
  (.idiv, (0, 0, 0, 0), 0, 0, []),
  (.istore 4, (4, 0, 0, 0), 0, 0, []),
  (.aload_n 0, (0, 0, 0, 0), 0, 0, []),
  (.getfield 40, (11, 25, 2, 0), 0, 0, []),
  (.iload_n 3, (3, 0, 0, 0), 0, 0, []),
  (.iaload, (13, 0, 0, 0), 0, 0, []),
  (.iconst 2, (0, 0, 0, 0), 2, 0, []),
  (.irem, (0, 0, 0, 0), 0, 0, []),
  (.iconst 1, (0, 0, 0, 0), 1, 0, []),
  (.if_icmp .ne 7, (60, 0, 0, 0), 0, 0, []),
  (.iconst 1, (0, 0, 0, 0), 1, 0, []),
  (.goto 4, (61, 0, 0, 0), 0, 0, []),
  (.iconst 0, (0, 0, 0, 0), 0, 0, []),
  (.nop, (0, 0, 0, 0), 0, 0, [(0, 1), (0, 1), (0, 1), (0, 1), (0, 1), (0, 0), (0, 0), (0, 0)]),
  (.istore 5, (5, 0, 0, 0), 0, 0, []),
  (.iload 5, (5, 0, 0, 0), 0, 0, []),
  (.ifCond .eq 27, (79, 0, 0, 0), 0, 0, []),
  (.aload_n 0, (0, 0, 0, 0), 0, 0, []),
  (.getfield 37, (11, 24, 2, 0), 0, 0, []),
  (.iload 4, (4, 0, 0, 0), 0, 0, []),
  (.baload, (15, 0, 1, 0), 0, 0, []),
  (.ifCond .eq 17, (79, 0, 0, 0), 0, 0, []),
  (.aload_n 0, (0, 0, 0, 0), 0, 0, []),
  (.iconst 2, (0, 0, 0, 0), 2, 0, []),
  (.iload 4, (4, 0, 0, 0), 0, 0, []),
  (.imul, (0, 0, 0, 0), 0, 0, []),
  (.aload_n 0, (0, 0, 0, 0), 0, 0, []),
  (.getfield 40, (11, 25, 2, 0), 0, 0, []),
  (.iload_n 3, (3, 0, 0, 0), 0, 0, []),
  (.iaload, (13, 0, 0, 0), 0, 0, []),
  (.invokevirtual 424, (269, 3, 0, 11), 0, 0, []),
  (.nop, (0, 0, 0, 0), 0, 0, [(0, 1), (0, 1), (0, 1), (0, 1), (0, 1), (0, 1), (0, 0), (0, 0)]),
  (.iload 5, (5, 0, 0, 0), 0, 0, []),
  (.ifCond .ne 29, (98, 0, 0, 0), 0, 0, []),
  (.aload_n 0, (0, 0, 0, 0), 0, 0, []),
  (.getfield 37, (11, 24, 2, 0), 0, 0, []),
  (.iload 4, (4, 0, 0, 0), 0, 0, []),
  (.baload, (15, 0, 1, 0), 0, 0, []),
  (.ifCond .ne 19, (98, 0, 0, 0), 0, 0, []),
  (.aload_n 0, (0, 0, 0, 0), 0, 0, []),
  (.iconst 2, (0, 0, 0, 0), 2, 0, []),
  (.iload 4, (4, 0, 0, 0), 0, 0, []),
  (.imul, (0, 0, 0, 0), 0, 0, []),
  (.iconst 1, (0, 0, 0, 0), 1, 0, []),
  (.iadd, (0, 0, 0, 0), 0, 0, []),
  (.aload_n 0, (0, 0, 0, 0), 0, 0, []),
  (.getfield 40, (11, 25, 2, 0), 0, 0, []),
  (.iload_n 3, (3, 0, 0, 0), 0, 0, []),
  (.iaload, (13, 0, 0, 0), 0, 0, []),
  (.invokevirtual 424, (269, 3, 0, 11), 0, 0, []),
  (.iconst 1, (0, 0, 0, 0), 1, 0, []),
  (.istore 6, (6, 0, 0, 0), 0, 0, []),
  (.nop, (0, 0, 0, 0), 0, 0, [(0, 1), (0, 1), (0, 1), (0, 1), (0, 1), (0, 1), (0, 1), (0, 0)]),
  (.iload 6, (6, 0, 0, 0), 0, 0, []),
  (.iconst 5, (0, 0, 0, 0), 5, 0, []),
  (.if_icmp .ge 101, (156, 0, 0, 0), 0, 0, []),
  (.aload_n 0, (0, 0, 0, 0), 0, 0, []),
  (.getfield 332, (11, 3, 2, 0), 0, 0, []),
  (.iload 4, (4, 0, 0, 0), 0, 0, []),
  (.iload 6, (6, 0, 0, 0), 0, 0, []),
  (.invokevirtual 289, (177, 3, 1, 10), 0, 0, []),
  (.istore 7, (7, 0, 0, 0), 0, 0, []),
  (.aload_n 0, (0, 0, 0, 0), 0, 0, []),
  (.getfield 332, (11, 3, 2, 0), 0, 0, []),
  (.iload 7, (7, 0, 0, 0), 0, 0, []),
  (.invokevirtual 292, (179, 2, 1, 10), 0, 0, []),
  (.ifCond .ne 6, (116, 0, 0, 0), 0, 0, []),
  (.goto 67, (154, 0, 0, 0), 0, 0, []),
  (.iload 5, (5, 0, 0, 0), 0, 0, []),
  (.ifCond .eq 23, (130, 0, 0, 0), 0, 0, []),
  (.iload 7, (7, 0, 0, 0), 0, 0, []),
  (.iload_n 1, (1, 0, 0, 0), 0, 0, []),
  (.if_icmp .eq 17, (130, 0, 0, 0), 0, 0, []),
  (.aload_n 0, (0, 0, 0, 0), 0, 0, []),
  (.iconst 2, (0, 0, 0, 0), 2, 0, []),
  (.iload 7, (7, 0, 0, 0), 0, 0, []),
  (.imul, (0, 0, 0, 0), 0, 0, []),
  (.aload_n 0, (0, 0, 0, 0), 0, 0, []),
  (.getfield 40, (11, 25, 2, 0), 0, 0, []),
  (.iload_n 3, (3, 0, 0, 0), 0, 0, []),
  (.iaload, (13, 0, 0, 0), 0, 0, []),
  (.invokevirtual 424, (269, 3, 0, 11), 0, 0, []),
  (.nop, (0, 0, 0, 0), 0, 0, [(0, 1), (0, 1), (0, 1), (0, 1), (0, 1), (0, 1), (0, 1), (0, 1)]),
  (.iload 5, (5, 0, 0, 0), 0, 0, []),
  (.ifCond .ne 37, (154, 0, 0, 0), 0, 0, []),
  (.aload_n 0, (0, 0, 0, 0), 0, 0, []),
  (.getfield 33, (11, 23, 2, 0), 0, 0, []),
  (.iconst 5, (0, 0, 0, 0), 5, 0, []),
  (.iload 7, (7, 0, 0, 0), 0, 0, []),
  (.imul, (0, 0, 0, 0), 0, 0, []),
  (.iload 6, (6, 0, 0, 0), 0, 0, []),
  (.invokestatic 427, (271, 1, 1, 99), 0, 0, []),
  (.iadd, (0, 0, 0, 0), 0, 0, []),
  (.baload, (15, 0, 1, 0), 0, 0, []),
  (.ifCond .eq 19, (154, 0, 0, 0), 0, 0, []),
  (.aload_n 0, (0, 0, 0, 0), 0, 0, []),
  (.iconst 2, (0, 0, 0, 0), 2, 0, []),
  (.iload 7, (7, 0, 0, 0), 0, 0, []),
  (.imul, (0, 0, 0, 0), 0, 0, []),
  (.iconst 1, (0, 0, 0, 0), 1, 0, []),
  (.iadd, (0, 0, 0, 0), 0, 0, []),
  (.aload_n 0, (0, 0, 0, 0), 0, 0, []),
  (.getfield 40, (11, 25, 2, 0), 0, 0, []),
  (.iload_n 3, (3, 0, 0, 0), 0, 0, []),
  (.iaload, (13, 0, 0, 0), 0, 0, []),
  (.invokevirtual 424, (269, 3, 0, 11), 0, 0, []),
  (.iinc 6 1, (6, 0, 0, 0), 1, 0, []),
  (.goto (-101), (100, 0, 0, 0), 0, 0, []),
  (.iinc 3 1, (3, 0, 0, 0), 1, 0, []),
  (.goto (-219), (30, 0, 0, 0), 0, 0, []),
  (.nop, (0, 0, 0, 0), 0, 0, [(0, 1), (0, 1), (0, 1), (0, 0), (0, 0), (0, 0), (0, 0), (0, 0)]),
  (.aload_n 0, (0, 0, 0, 0), 0, 0, []),
  (.getfield 43, (11, 26, 2, 0), 0, 0, []),
  (.iconst 2, (0, 0, 0, 0), 2, 0, []),
  (.iload_n 2, (2, 0, 0, 0), 0, 0, []),
  (.imul, (0, 0, 0, 0), 0, 0, []),
  (.iaload, (13, 0, 0, 0), 0, 0, []),
  (.iconst (-1), (0, 0, 0, 0), (-1), 0, []),
  (.if_icmp .ne 5, (169, 0, 0, 0), 0, 0, []),
  (.iconst 0, (0, 0, 0, 0), 0, 0, []),
  (.ireturn, (0, 0, 1, 0), 0, 0, []),
  (.iconst 2, (0, 0, 0, 0), 2, 0, []),
  (.iload_n 2, (2, 0, 0, 0), 0, 0, []),
  (.imul, (0, 0, 0, 0), 0, 0, []),
  (.istore_n 3, (3, 0, 0, 0), 0, 0, []),
  (.nop, (0, 0, 0, 0), 0, 0, [(0, 1), (0, 1), (0, 0), (0, 1), (0, 0), (0, 0), (0, 0), (0, 0)]),
  (.iload_n 3, (3, 0, 0, 0), 0, 0, []),
  (.iconst 2, (0, 0, 0, 0), 2, 0, []),
  (.iload_n 1, (1, 0, 0, 0), 0, 0, []),
  (.imul, (0, 0, 0, 0), 0, 0, []),
  (.iconst 1, (0, 0, 0, 0), 1, 0, []),
  (.iadd, (0, 0, 0, 0), 0, 0, []),
  (.if_icmp .eq 24, (194, 0, 0, 0), 0, 0, []),
  (.aload_n 0, (0, 0, 0, 0), 0, 0, []),
  (.aload_n 0, (0, 0, 0, 0), 0, 0, []),
  (.getfield 43, (11, 26, 2, 0), 0, 0, []),
  (.iload_n 3, (3, 0, 0, 0), 0, 0, []),
  (.iaload, (13, 0, 0, 0), 0, 0, []),
  (.iload_n 3, (3, 0, 0, 0), 0, 0, []),
  (.invokevirtual 430, (273, 3, 0, 11), 0, 0, []),
  (.aload_n 0, (0, 0, 0, 0), 0, 0, []),
  (.getfield 43, (11, 26, 2, 0), 0, 0, []),
  (.iload_n 3, (3, 0, 0, 0), 0, 0, []),
  (.iaload, (13, 0, 0, 0), 0, 0, []),
  (.istore_n 3, (3, 0, 0, 0), 0, 0, []),
  (.goto (-27), (173, 0, 0, 0), 0, 0, []),
  (.iconst 1, (0, 0, 0, 0), 1, 0, []),
  (.ireturn, (0, 0, 1, 0), 0, 0, [])]
def q_270 : List Nat := [0, 1, 2, 2, 3, 6, 9, 10, 13, 14, 15, 16, 19, 22, 23, 24, 27, 28, 29, 30, 31, 32, 33, 34, 35, 36, 37, 38, 41, 42, 43, 43, 44, 45, 48, 51, 52, 55, 56, 57, 58, 59, 60, 63, 64, 67, 68, 69, 70, 71, 73, 74, 77, 78, 79, 80, 81, 82, 85, 86, 89, 90, 90, 92, 94, 97, 98, 101, 103, 104, 107, 108, 109, 111, 112, 113, 116, 117, 118, 121, 121, 123, 126, 127, 130, 132, 133, 136, 137, 138, 140, 141, 142, 143, 144, 147, 148, 149, 152, 153, 155, 155, 157, 158, 161, 162, 165, 167, 169, 172, 174, 175, 178, 180, 183, 186, 189, 191, 194, 196, 197, 200, 201, 202, 204, 205, 206, 209, 210, 211, 214, 214, 216, 219, 220, 223, 224, 226, 227, 229, 232, 233, 234, 237, 238, 239, 241, 242, 243, 244, 245, 248, 249, 250, 253, 256, 259, 262, 265, 265, 266, 269, 270, 271, 272, 273, 274, 277, 278, 279, 280, 281, 282, 283, 283, 284, 285, 286, 287, 288, 289, 292, 293, 294, 297, 298, 299, 300, 303, 304, 307, 308, 309, 310, 313, 314, 315]
def m_270 : aMt := (yX12_finds, cX12_finds, 8, (some .boolean), 12, 3, 71, (0, 0), 2, k_270, q_270)
def k_271 : List aM := [(.iload_n 0, (0, 0, 0, 0), 0, 0, []),
  (.iconst 1, (0, 0, 0, 0), 1, 0, []),
  (.iadd, (0, 0, 0, 0), 0, 0, []),
  (.iconst 4, (0, 0, 0, 0), 4, 0, []),
  (.irem, (0, 0, 0, 0), 0, 0, []),
  (.iconst 1, (0, 0, 0, 0), 1, 0, []),
  (.iadd, (0, 0, 0, 0), 0, 0, []),
  (.ireturn, (0, 0, 0, 0), 0, 0, [])]
def q_271 : List Nat := [0, 1, 2, 3, 4, 5, 6, 7, 8]
def m_271 : aMt := (yX12_turnedBack, cX12_turnedBack, 1, (some .int), 12, 0, 0, (0, 0), 1, k_271, q_271)
def k_272 : List aM := [(.iconst 1, (0, 0, 0, 0), 1, 0, []),
  (.istore_n 3, (3, 0, 0, 0), 0, 0, []),
  (.nop, (0, 0, 0, 0), 0, 0, [(0, 1), (0, 1), (0, 1), (0, 1)]),
  (.aload_n 0, (0, 0, 0, 0), 0, 0, []),
  (.getfield 332, (11, 3, 2, 0), 0, 0, []),
  (.iload_n 1, (1, 0, 0, 0), 0, 0, []),
  (.iload_n 3, (3, 0, 0, 0), 0, 0, []),
  (.invokevirtual 289, (177, 3, 1, 10), 0, 0, []),
  (.iload_n 2, (2, 0, 0, 0), 0, 0, []),
  (.if_icmp .eq 9, (12, 0, 0, 0), 0, 0, []),
  (.iinc 3 1, (3, 0, 0, 0), 1, 0, []),
  (.goto (-16), (2, 0, 0, 0), 0, 0, []),
  (.iload_n 3, (3, 0, 0, 0), 0, 0, []),
  (.ireturn, (0, 0, 0, 0), 0, 0, [])]
def q_272 : List Nat := [0, 1, 2, 2, 3, 6, 7, 8, 11, 12, 15, 18, 21, 22, 23]
def m_272 : aMt := (yX12_wayTo, cX12_wayTo, 4, (some .int), 12, 1, 24, (0, 0), 2, k_272, q_272)
def k_273 : List aM := [(.iload_n 1, (1, 0, 0, 0), 0, 0, []),
  (.iconst 2, (0, 0, 0, 0), 2, 0, []),
  (.idiv, (0, 0, 0, 0), 0, 0, []),
  (.istore_n 3, (3, 0, 0, 0), 0, 0, []),
  (.iload_n 2, (2, 0, 0, 0), 0, 0, []),
  (.iconst 2, (0, 0, 0, 0), 2, 0, []),
  (.idiv, (0, 0, 0, 0), 0, 0, []),
  (.istore 4, (4, 0, 0, 0), 0, 0, []),
  (.iload_n 3, (3, 0, 0, 0), 0, 0, []),
  (.iload 4, (4, 0, 0, 0), 0, 0, []),
  (.if_icmp .ne 24, (24, 0, 0, 0), 0, 0, []),
  (.aload_n 0, (0, 0, 0, 0), 0, 0, []),
  (.getfield 37, (11, 24, 2, 0), 0, 0, []),
  (.iload_n 3, (3, 0, 0, 0), 0, 0, []),
  (.iload_n 2, (2, 0, 0, 0), 0, 0, []),
  (.iconst 2, (0, 0, 0, 0), 2, 0, []),
  (.irem, (0, 0, 0, 0), 0, 0, []),
  (.iconst 1, (0, 0, 0, 0), 1, 0, []),
  (.if_icmp .ne 7, (21, 0, 0, 0), 0, 0, []),
  (.iconst 1, (0, 0, 0, 0), 1, 0, []),
  (.goto 4, (22, 0, 0, 0), 0, 0, []),
  (.iconst 0, (0, 0, 0, 0), 0, 0, []),
  (.bastore, (15, 0, 1, 0), 0, 0, []),
  (.goto 48, (54, 0, 0, 0), 0, 0, []),
  (.iload_n 1, (1, 0, 0, 0), 0, 0, []),
  (.iconst 2, (0, 0, 0, 0), 2, 0, []),
  (.irem, (0, 0, 0, 0), 0, 0, []),
  (.iconst 1, (0, 0, 0, 0), 1, 0, []),
  (.if_icmp .ne 23, (42, 0, 0, 0), 0, 0, []),
  (.aload_n 0, (0, 0, 0, 0), 0, 0, []),
  (.getfield 33, (11, 23, 2, 0), 0, 0, []),
  (.iconst 5, (0, 0, 0, 0), 5, 0, []),
  (.iload_n 3, (3, 0, 0, 0), 0, 0, []),
  (.imul, (0, 0, 0, 0), 0, 0, []),
  (.aload_n 0, (0, 0, 0, 0), 0, 0, []),
  (.iload_n 3, (3, 0, 0, 0), 0, 0, []),
  (.iload 4, (4, 0, 0, 0), 0, 0, []),
  (.invokevirtual 433, (272, 3, 1, 11), 0, 0, []),
  (.iadd, (0, 0, 0, 0), 0, 0, []),
  (.iconst 1, (0, 0, 0, 0), 1, 0, []),
  (.bastore, (15, 0, 1, 0), 0, 0, []),
  (.goto 21, (54, 0, 0, 0), 0, 0, []),
  (.aload_n 0, (0, 0, 0, 0), 0, 0, []),
  (.getfield 33, (11, 23, 2, 0), 0, 0, []),
  (.iconst 5, (0, 0, 0, 0), 5, 0, []),
  (.iload 4, (4, 0, 0, 0), 0, 0, []),
  (.imul, (0, 0, 0, 0), 0, 0, []),
  (.aload_n 0, (0, 0, 0, 0), 0, 0, []),
  (.iload 4, (4, 0, 0, 0), 0, 0, []),
  (.iload_n 3, (3, 0, 0, 0), 0, 0, []),
  (.invokevirtual 433, (272, 3, 1, 11), 0, 0, []),
  (.iadd, (0, 0, 0, 0), 0, 0, []),
  (.iconst 0, (0, 0, 0, 0), 0, 0, []),
  (.bastore, (15, 0, 1, 0), 0, 0, []),
  (.return_, (0, 0, 0, 0), 0, 0, [])]
def q_273 : List Nat := [0, 1, 2, 3, 4, 5, 6, 7, 9, 10, 12, 15, 16, 19, 20, 21, 22, 23, 24, 27, 28, 31, 32, 33, 36, 37, 38, 39, 40, 43, 44, 47, 48, 49, 50, 51, 52, 54, 57, 58, 59, 60, 63, 64, 67, 68, 70, 71, 72, 74, 75, 78, 79, 80, 81, 82]
def m_273 : aMt := (yX12_lays, cX12_lays, 5, none, 12, 2, 47, (0, 0), 2, k_273, q_273)
def k_274 : List aM := [(.aload_n 0, (0, 0, 0, 0), 0, 0, []),
  (.iconst 0, (0, 0, 0, 0), 0, 0, []),
  (.putfield 55, (11, 0, 0, 0), 0, 0, []),
  (.aload_n 0, (0, 0, 0, 0), 0, 0, []),
  (.iload_n 1, (1, 0, 0, 0), 0, 0, []),
  (.invokevirtual 373, (227, 2, 1, 11), 0, 0, []),
  (.ifCond .ne 9, (11, 0, 0, 0), 0, 0, []),
  (.aload_n 0, (0, 0, 0, 0), 0, 0, []),
  (.iconst 1, (0, 0, 0, 0), 1, 0, []),
  (.invokevirtual 61, (182, 2, 1, 11), 0, 0, []),
  (.ireturn, (0, 0, 0, 0), 0, 0, []),
  (.aload_n 0, (0, 0, 0, 0), 0, 0, []),
  (.invokevirtual 358, (231, 1, 0, 11), 0, 0, []),
  (.aload_n 0, (0, 0, 0, 0), 0, 0, []),
  (.iload_n 1, (1, 0, 0, 0), 0, 0, []),
  (.invokevirtual 352, (233, 2, 1, 11), 0, 0, []),
  (.istore_n 2, (2, 0, 0, 0), 0, 0, []),
  (.iload_n 2, (2, 0, 0, 0), 0, 0, []),
  (.aload_n 0, (0, 0, 0, 0), 0, 0, []),
  (.getfield 332, (11, 3, 2, 0), 0, 0, []),
  (.getfield 212, (10, 6, 0, 0), 0, 0, []),
  (.invokestatic 385, (191, 2, 1, 99), 0, 0, []),
  (.iconst 2, (0, 0, 0, 0), 2, 0, []),
  (.if_icmp .ge 10, (28, 0, 0, 0), 0, 0, []),
  (.aload_n 0, (0, 0, 0, 0), 0, 0, []),
  (.bipush (-2), (0, 0, 0, 0), (-2), 0, []),
  (.invokevirtual 65, (185, 2, 1, 11), 0, 0, []),
  (.ireturn, (0, 0, 0, 0), 0, 0, []),
  (.iconst 0, (0, 0, 0, 0), 0, 0, []),
  (.istore_n 3, (3, 0, 0, 0), 0, 0, []),
  (.nop, (0, 0, 0, 0), 0, 0, [(0, 1), (0, 0), (0, 1), (0, 1)]),
  (.iload_n 3, (3, 0, 0, 0), 0, 0, []),
  (.sipush 320, (0, 0, 0, 0), 320, 0, []),
  (.if_icmp .ge 16, (41, 0, 0, 0), 0, 0, []),
  (.aload_n 0, (0, 0, 0, 0), 0, 0, []),
  (.getfield 33, (11, 23, 2, 0), 0, 0, []),
  (.iload_n 3, (3, 0, 0, 0), 0, 0, []),
  (.iconst 0, (0, 0, 0, 0), 0, 0, []),
  (.bastore, (15, 0, 1, 0), 0, 0, []),
  (.iinc 3 1, (3, 0, 0, 0), 1, 0, []),
  (.goto (-17), (30, 0, 0, 0), 0, 0, []),
  (.iconst 0, (0, 0, 0, 0), 0, 0, []),
  (.istore_n 3, (3, 0, 0, 0), 0, 0, []),
  (.nop, (0, 0, 0, 0), 0, 0, [(0, 1), (0, 0), (0, 1), (0, 1)]),
  (.iload_n 3, (3, 0, 0, 0), 0, 0, []),
  (.bipush 64, (0, 0, 0, 0), 64, 0, []),
  (.if_icmp .ge 16, (54, 0, 0, 0), 0, 0, []),
  (.aload_n 0, (0, 0, 0, 0), 0, 0, []),
  (.getfield 37, (11, 24, 2, 0), 0, 0, []),
  (.iload_n 3, (3, 0, 0, 0), 0, 0, []),
  (.iconst 0, (0, 0, 0, 0), 0, 0, []),
  (.bastore, (15, 0, 1, 0), 0, 0, []),
  (.iinc 3 1, (3, 0, 0, 0), 1, 0, []),
  (.goto (-16), (43, 0, 0, 0), 0, 0, []),
  (.iconst 0, (0, 0, 0, 0), 0, 0, []),
  (.istore_n 3, (3, 0, 0, 0), 0, 0, []),
  (.nop, (0, 0, 0, 0), 0, 0, [(0, 1), (0, 0), (0, 1), (0, 1)]),
  (.aload_n 0, (0, 0, 0, 0), 0, 0, []),
  (.iload_n 2, (2, 0, 0, 0), 0, 0, []),
  (.aload_n 0, (0, 0, 0, 0), 0, 0, []),
  (.getfield 332, (11, 3, 2, 0), 0, 0, []),
  (.getfield 212, (10, 6, 0, 0), 0, 0, []),
  (.invokevirtual 436, (270, 3, 1, 11), 0, 0, []),
  (.ifCond .eq 9, (66, 0, 0, 0), 0, 0, []),
  (.iinc 3 1, (3, 0, 0, 0), 1, 0, []),
  (.goto (-18), (56, 0, 0, 0), 0, 0, []),
  (.aload_n 0, (0, 0, 0, 0), 0, 0, []),
  (.iload_n 3, (3, 0, 0, 0), 0, 0, []),
  (.invokevirtual 65, (185, 2, 1, 11), 0, 0, []),
  (.ireturn, (0, 0, 0, 0), 0, 0, [])]
def q_274 : List Nat := [0, 1, 2, 5, 6, 7, 10, 13, 14, 15, 18, 19, 20, 23, 24, 25, 28, 29, 30, 31, 34, 37, 40, 41, 44, 45, 47, 50, 51, 52, 53, 53, 54, 57, 60, 61, 64, 65, 66, 67, 70, 73, 74, 75, 75, 76, 78, 81, 82, 85, 86, 87, 88, 91, 94, 95, 96, 96, 97, 98, 99, 102, 105, 108, 111, 114, 117, 118, 119, 122, 123]
def m_274 : aMt := (yX12_cut, cX12_cut, 4, (some .int), 12, 4, 98, (0, 0), 1, k_274, q_274)
def k_275 : List aM := [(.iconst 0, (0, 0, 0, 0), 0, 0, []),
  (.istore_n 3, (3, 0, 0, 0), 0, 0, []),
  (.iconst 0, (0, 0, 0, 0), 0, 0, []),
  (.istore 4, (4, 0, 0, 0), 0, 0, []),
  (.nop, (0, 0, 0, 0), 0, 0, [(0, 1), (0, 1), (0, 1), (0, 1), (0, 1)]),
  (.iload 4, (4, 0, 0, 0), 0, 0, []),
  (.aload_n 0, (0, 0, 0, 0), 0, 0, []),
  (.getfield 332, (11, 3, 2, 0), 0, 0, []),
  (.getfield 295, (10, 8, 0, 0), 0, 0, []),
  (.if_icmp .ge 47, (35, 0, 0, 0), 0, 0, []),
  (.iload_n 3, (3, 0, 0, 0), 0, 0, []),
  (.aload_n 0, (0, 0, 0, 0), 0, 0, []),
  (.getfield 21, (11, 17, 2, 0), 0, 0, []),
  (.bipush 8, (0, 0, 0, 0), 8, 0, []),
  (.iload 4, (4, 0, 0, 0), 0, 0, []),
  (.iadd, (0, 0, 0, 0), 0, 0, []),
  (.iaload, (13, 0, 0, 0), 0, 0, []),
  (.ifCond .ne 24, (29, 0, 0, 0), 0, 0, []),
  (.iload_n 1, (1, 0, 0, 0), 0, 0, []),
  (.aload_n 0, (0, 0, 0, 0), 0, 0, []),
  (.iload 4, (4, 0, 0, 0), 0, 0, []),
  (.invokevirtual 352, (233, 2, 1, 11), 0, 0, []),
  (.invokestatic 385, (191, 2, 1, 99), 0, 0, []),
  (.iload_n 2, (2, 0, 0, 0), 0, 0, []),
  (.if_icmp .gt 10, (29, 0, 0, 0), 0, 0, []),
  (.iconst 1, (0, 0, 0, 0), 1, 0, []),
  (.iload 4, (4, 0, 0, 0), 0, 0, []),
  (.ishl, (0, 0, 0, 0), 0, 0, []),
  (.goto 4, (30, 0, 0, 0), 0, 0, []),
  (.iconst 0, (0, 0, 0, 0), 0, 0, []),
  (.nop, (0, 0, 0, 0), 0, 0, [(0, 1), (0, 1), (0, 1), (0, 0), (0, 1)]),
  (.ior, (0, 0, 0, 0), 0, 0, []),
  (.istore_n 3, (3, 0, 0, 0), 0, 0, []),
  (.iinc 4 1, (4, 0, 0, 0), 1, 0, []),
  (.goto (-53), (4, 0, 0, 0), 0, 0, []),
  (.iload_n 3, (3, 0, 0, 0), 0, 0, []),
  (.ireturn, (0, 0, 0, 0), 0, 0, [])]
def q_275 : List Nat := [0, 1, 2, 3, 5, 5, 7, 8, 11, 14, 17, 18, 19, 22, 24, 26, 27, 28, 31, 32, 33, 35, 38, 41, 42, 45, 46, 48, 49, 52, 53, 53, 54, 55, 58, 61, 62, 63]
def m_275 : aMt := (yX12_shutBy, cX12_shutBy, 5, (some .int), 12, 2, 43, (0, 0), 2, k_275, q_275)
def k_276 : List aM := [(.aload_n 0, (0, 0, 0, 0), 0, 0, []),
  (.iload_n 1, (1, 0, 0, 0), 0, 0, []),
  (.iload_n 2, (2, 0, 0, 0), 0, 0, []),
  (.invokevirtual 364, (226, 3, 1, 11), 0, 0, []),
  (.ifCond .eq 18, (12, 0, 0, 0), 0, 0, []),
  (.aload_n 0, (0, 0, 0, 0), 0, 0, []),
  (.getfield 332, (11, 3, 2, 0), 0, 0, []),
  (.iload_n 1, (1, 0, 0, 0), 0, 0, []),
  (.iload_n 2, (2, 0, 0, 0), 0, 0, []),
  (.invokestatic 367, (229, 2, 1, 99), 0, 0, []),
  (.invokevirtual 203, (178, 2, 1, 10), 0, 0, []),
  (.ifCond .eq 7, (14, 0, 0, 0), 0, 0, []),
  (.iconst 1, (0, 0, 0, 0), 1, 0, []),
  (.goto 17, (22, 0, 0, 0), 0, 0, []),
  (.iload_n 3, (3, 0, 0, 0), 0, 0, []),
  (.iconst 0, (0, 0, 0, 0), 0, 0, []),
  (.iconst 2, (0, 0, 0, 0), 2, 0, []),
  (.invokestatic 137, (187, 3, 1, 99), 0, 0, []),
  (.ifCond .eq 7, (21, 0, 0, 0), 0, 0, []),
  (.iconst 0, (0, 0, 0, 0), 0, 0, []),
  (.goto 4, (22, 0, 0, 0), 0, 0, []),
  (.iconst 2, (0, 0, 0, 0), 2, 0, []),
  (.ireturn, (0, 0, 0, 0), 0, 0, [])]
def q_276 : List Nat := [0, 1, 2, 3, 6, 9, 10, 13, 14, 15, 18, 21, 24, 25, 28, 29, 30, 31, 34, 37, 38, 41, 42, 43]
def m_276 : aMt := (yX12_refusesCharge, cX12_refusesCharge, 4, (some .int), 12, 1, 22, (0, 0), 3, k_276, q_276)
def k_277 : List aM := [(.aload_n 0, (0, 0, 0, 0), 0, 0, []),
  (.iconst 0, (0, 0, 0, 0), 0, 0, []),
  (.putfield 55, (11, 0, 0, 0), 0, 0, []),
  (.aload_n 0, (0, 0, 0, 0), 0, 0, []),
  (.iload_n 1, (1, 0, 0, 0), 0, 0, []),
  (.iload_n 2, (2, 0, 0, 0), 0, 0, []),
  (.iload_n 3, (3, 0, 0, 0), 0, 0, []),
  (.invokevirtual 439, (276, 4, 1, 11), 0, 0, []),
  (.istore 4, (4, 0, 0, 0), 0, 0, []),
  (.iload 4, (4, 0, 0, 0), 0, 0, []),
  (.ifCond .le 10, (15, 0, 0, 0), 0, 0, []),
  (.aload_n 0, (0, 0, 0, 0), 0, 0, []),
  (.iload 4, (4, 0, 0, 0), 0, 0, []),
  (.invokevirtual 61, (182, 2, 1, 11), 0, 0, []),
  (.ireturn, (0, 0, 0, 0), 0, 0, []),
  (.aload_n 0, (0, 0, 0, 0), 0, 0, []),
  (.invokevirtual 358, (231, 1, 0, 11), 0, 0, []),
  (.aload_n 0, (0, 0, 0, 0), 0, 0, []),
  (.aload_n 0, (0, 0, 0, 0), 0, 0, []),
  (.iload_n 1, (1, 0, 0, 0), 0, 0, []),
  (.iload_n 2, (2, 0, 0, 0), 0, 0, []),
  (.invokestatic 367, (229, 2, 1, 99), 0, 0, []),
  (.iload_n 3, (3, 0, 0, 0), 0, 0, []),
  (.invokevirtual 443, (275, 3, 1, 11), 0, 0, []),
  (.invokevirtual 65, (185, 2, 1, 11), 0, 0, []),
  (.ireturn, (0, 0, 0, 0), 0, 0, [])]
def q_277 : List Nat := [0, 1, 2, 5, 6, 7, 8, 9, 12, 14, 16, 19, 20, 22, 25, 26, 27, 30, 31, 32, 33, 34, 37, 38, 41, 44, 45]
def m_277 : aMt := (yX12_blast, cX12_blast, 5, (some .int), 12, 3, 67, (0, 0), 3, k_277, q_277)
def k_278 : List aM := [(.aload_n 0, (0, 0, 0, 0), 0, 0, []),
  (.iconst 0, (0, 0, 0, 0), 0, 0, []),
  (.putfield 55, (11, 0, 0, 0), 0, 0, []),
  (.aload_n 0, (0, 0, 0, 0), 0, 0, []),
  (.getfield 332, (11, 3, 3, 0), 0, 0, []),
  (.ifnonnull 9, (10, 0, 0, 0), 0, 0, []),
  (.aload_n 0, (0, 0, 0, 0), 0, 0, []),
  (.iconst 1, (0, 0, 0, 0), 1, 0, []),
  (.invokevirtual 61, (182, 2, 1, 11), 0, 0, []),
  (.ireturn, (0, 0, 0, 0), 0, 0, []),
  (.iload_n 1, (1, 0, 0, 0), 0, 0, []),
  (.iconst 0, (0, 0, 0, 0), 0, 0, []),
  (.iconst 2, (0, 0, 0, 0), 2, 0, []),
  (.invokestatic 137, (187, 3, 1, 99), 0, 0, []),
  (.ifCond .ne 9, (19, 0, 0, 0), 0, 0, []),
  (.aload_n 0, (0, 0, 0, 0), 0, 0, []),
  (.iconst 2, (0, 0, 0, 0), 2, 0, []),
  (.invokevirtual 61, (182, 2, 1, 11), 0, 0, []),
  (.ireturn, (0, 0, 0, 0), 0, 0, []),
  (.aload_n 0, (0, 0, 0, 0), 0, 0, []),
  (.invokevirtual 358, (231, 1, 0, 11), 0, 0, []),
  (.iconst (-1), (0, 0, 0, 0), (-1), 0, []),
  (.istore_n 2, (2, 0, 0, 0), 0, 0, []),
  (.sipush (-9999), (0, 0, 0, 0), (-9999), 0, []),
  (.istore_n 3, (3, 0, 0, 0), 0, 0, []),
  (.iconst 0, (0, 0, 0, 0), 0, 0, []),
  (.istore 4, (4, 0, 0, 0), 0, 0, []),
  (.nop, (0, 0, 0, 0), 0, 0, [(0, 1), (0, 1), (0, 1), (0, 1), (0, 1), (0, 0), (0, 0)]),
  (.iload 4, (4, 0, 0, 0), 0, 0, []),
  (.aload_n 0, (0, 0, 0, 0), 0, 0, []),
  (.invokevirtual 415, (266, 1, 1, 11), 0, 0, []),
  (.if_icmp .gt 98, (81, 0, 0, 0), 0, 0, []),
  (.aload_n 0, (0, 0, 0, 0), 0, 0, []),
  (.iload 4, (4, 0, 0, 0), 0, 0, []),
  (.invokevirtual 418, (267, 2, 1, 11), 0, 0, []),
  (.ifCond .ne 6, (37, 0, 0, 0), 0, 0, []),
  (.goto 80, (79, 0, 0, 0), 0, 0, []),
  (.iconst 0, (0, 0, 0, 0), 0, 0, []),
  (.istore 5, (5, 0, 0, 0), 0, 0, []),
  (.iconst 0, (0, 0, 0, 0), 0, 0, []),
  (.istore 6, (6, 0, 0, 0), 0, 0, []),
  (.nop, (0, 0, 0, 0), 0, 0, [(0, 1), (0, 1), (0, 1), (0, 1), (0, 1), (0, 1), (0, 1)]),
  (.iload 6, (6, 0, 0, 0), 0, 0, []),
  (.aload_n 0, (0, 0, 0, 0), 0, 0, []),
  (.getfield 332, (11, 3, 2, 0), 0, 0, []),
  (.getfield 295, (10, 8, 0, 0), 0, 0, []),
  (.if_icmp .ge 47, (71, 0, 0, 0), 0, 0, []),
  (.iload 5, (5, 0, 0, 0), 0, 0, []),
  (.aload_n 0, (0, 0, 0, 0), 0, 0, []),
  (.iload 4, (4, 0, 0, 0), 0, 0, []),
  (.iload_n 1, (1, 0, 0, 0), 0, 0, []),
  (.invokevirtual 443, (275, 3, 1, 11), 0, 0, []),
  (.iload 6, (6, 0, 0, 0), 0, 0, []),
  (.invokestatic 355, (188, 2, 1, 99), 0, 0, []),
  (.ifCond .eq 20, (65, 0, 0, 0), 0, 0, []),
  (.iconst 1, (0, 0, 0, 0), 1, 0, []),
  (.iconst 2, (0, 0, 0, 0), 2, 0, []),
  (.aload_n 0, (0, 0, 0, 0), 0, 0, []),
  (.getfield 332, (11, 3, 2, 0), 0, 0, []),
  (.getfield 306, (10, 14, 2, 0), 0, 0, []),
  (.iload 6, (6, 0, 0, 0), 0, 0, []),
  (.iaload, (13, 0, 0, 0), 0, 0, []),
  (.imul, (0, 0, 0, 0), 0, 0, []),
  (.isub, (0, 0, 0, 0), 0, 0, []),
  (.goto 4, (66, 0, 0, 0), 0, 0, []),
  (.iconst 0, (0, 0, 0, 0), 0, 0, []),
  (.nop, (0, 0, 0, 0), 0, 0, [(0, 1), (0, 1), (0, 1), (0, 1), (0, 1), (0, 0), (0, 1)]),
  (.iadd, (0, 0, 0, 0), 0, 0, []),
  (.istore 5, (5, 0, 0, 0), 0, 0, []),
  (.iinc 6 1, (6, 0, 0, 0), 1, 0, []),
  (.goto (-53), (41, 0, 0, 0), 0, 0, []),
  (.iload 5, (5, 0, 0, 0), 0, 0, []),
  (.iload_n 3, (3, 0, 0, 0), 0, 0, []),
  (.if_icmp .gt 6, (75, 0, 0, 0), 0, 0, []),
  (.goto 9, (79, 0, 0, 0), 0, 0, []),
  (.iload 5, (5, 0, 0, 0), 0, 0, []),
  (.istore_n 3, (3, 0, 0, 0), 0, 0, []),
  (.iload 4, (4, 0, 0, 0), 0, 0, []),
  (.istore_n 2, (2, 0, 0, 0), 0, 0, []),
  (.iinc 4 1, (4, 0, 0, 0), 1, 0, []),
  (.goto (-101), (27, 0, 0, 0), 0, 0, []),
  (.aload_n 0, (0, 0, 0, 0), 0, 0, []),
  (.iload_n 2, (2, 0, 0, 0), 0, 0, []),
  (.invokestatic 376, (230, 1, 1, 99), 0, 0, []),
  (.invokevirtual 65, (185, 2, 1, 11), 0, 0, []),
  (.ireturn, (0, 0, 0, 0), 0, 0, [])]
def q_278 : List Nat := [0, 1, 2, 5, 6, 9, 12, 13, 14, 17, 18, 19, 20, 21, 24, 27, 28, 29, 32, 33, 34, 37, 38, 39, 42, 43, 44, 46, 46, 48, 49, 52, 55, 56, 58, 61, 64, 67, 68, 70, 71, 73, 73, 75, 76, 79, 82, 85, 87, 88, 90, 91, 94, 96, 99, 102, 103, 104, 105, 108, 111, 113, 114, 115, 116, 119, 120, 120, 121, 123, 126, 129, 131, 132, 135, 138, 140, 141, 143, 144, 147, 150, 151, 152, 155, 158, 159]
def m_278 : aMt := (yX12_bestBlast, cX12_bestBlast, 7, (some .int), 12, 3, 67, (0, 0), 1, k_278, q_278)
def k_279 : List aM := [(.iload_n 1, (1, 0, 0, 0), 0, 0, []),
  (.iconst 5, (0, 0, 0, 0), 5, 0, []),
  (.idiv, (0, 0, 0, 0), 0, 0, []),
  (.istore_n 3, (3, 0, 0, 0), 0, 0, []),
  (.iload_n 2, (2, 0, 0, 0), 0, 0, []),
  (.aload_n 0, (0, 0, 0, 0), 0, 0, []),
  (.getfield 332, (11, 3, 2, 0), 0, 0, []),
  (.getfield 248, (10, 2, 0, 0), 0, 0, []),
  (.idiv, (0, 0, 0, 0), 0, 0, []),
  (.istore 4, (4, 0, 0, 0), 0, 0, []),
  (.nop, (0, 0, 0, 0), 0, 0, [(0, 1), (0, 1), (0, 0), (0, 1), (0, 1), (0, 0)]),
  (.iload 4, (4, 0, 0, 0), 0, 0, []),
  (.ifCond .le 45, (36, 0, 0, 0), 0, 0, []),
  (.iload_n 1, (1, 0, 0, 0), 0, 0, []),
  (.iconst 5, (0, 0, 0, 0), 5, 0, []),
  (.irem, (0, 0, 0, 0), 0, 0, []),
  (.ifCond .le 39, (36, 0, 0, 0), 0, 0, []),
  (.aload_n 0, (0, 0, 0, 0), 0, 0, []),
  (.getfield 332, (11, 3, 2, 0), 0, 0, []),
  (.iload_n 3, (3, 0, 0, 0), 0, 0, []),
  (.iload_n 1, (1, 0, 0, 0), 0, 0, []),
  (.iconst 5, (0, 0, 0, 0), 5, 0, []),
  (.irem, (0, 0, 0, 0), 0, 0, []),
  (.invokevirtual 289, (177, 3, 1, 10), 0, 0, []),
  (.istore 5, (5, 0, 0, 0), 0, 0, []),
  (.aload_n 0, (0, 0, 0, 0), 0, 0, []),
  (.getfield 332, (11, 3, 2, 0), 0, 0, []),
  (.iload 5, (5, 0, 0, 0), 0, 0, []),
  (.invokevirtual 292, (179, 2, 1, 10), 0, 0, []),
  (.ifCond .ne 5, (32, 0, 0, 0), 0, 0, []),
  (.iload_n 3, (3, 0, 0, 0), 0, 0, []),
  (.ireturn, (0, 0, 0, 0), 0, 0, []),
  (.iload 5, (5, 0, 0, 0), 0, 0, []),
  (.istore_n 3, (3, 0, 0, 0), 0, 0, []),
  (.iinc 4 (-1), (4, 0, 0, 0), (-1), 0, []),
  (.goto (-44), (10, 0, 0, 0), 0, 0, []),
  (.iload_n 3, (3, 0, 0, 0), 0, 0, []),
  (.ireturn, (0, 0, 0, 0), 0, 0, [])]
def q_279 : List Nat := [0, 1, 2, 3, 4, 5, 6, 9, 12, 13, 15, 15, 17, 20, 21, 22, 23, 26, 27, 30, 31, 32, 33, 34, 37, 39, 40, 43, 45, 48, 51, 52, 53, 55, 56, 59, 62, 63, 64]
def m_279 : aMt := (yX12_pickAt, cX12_pickAt, 6, (some .int), 12, 2, 42, (0, 0), 2, k_279, q_279)
def k_280 : List aM := [(.iconst 0, (0, 0, 0, 0), 0, 0, []),
  (.istore_n 2, (2, 0, 0, 0), 0, 0, []),
  (.nop, (0, 0, 0, 0), 0, 0, [(0, 1), (0, 1), (0, 1)]),
  (.iload_n 2, (2, 0, 0, 0), 0, 0, []),
  (.aload_n 0, (0, 0, 0, 0), 0, 0, []),
  (.getfield 332, (11, 3, 2, 0), 0, 0, []),
  (.getfield 311, (10, 9, 0, 0), 0, 0, []),
  (.if_icmp .ge 76, (45, 0, 0, 0), 0, 0, []),
  (.aload_n 0, (0, 0, 0, 0), 0, 0, []),
  (.getfield 332, (11, 3, 2, 0), 0, 0, []),
  (.getfield 281, (10, 13, 2, 0), 0, 0, []),
  (.aload_n 0, (0, 0, 0, 0), 0, 0, []),
  (.getfield 332, (11, 3, 2, 0), 0, 0, []),
  (.getfield 317, (10, 17, 2, 0), 0, 0, []),
  (.iload_n 2, (2, 0, 0, 0), 0, 0, []),
  (.iaload, (13, 0, 0, 0), 0, 0, []),
  (.iaload, (13, 0, 0, 0), 0, 0, []),
  (.aload_n 0, (0, 0, 0, 0), 0, 0, []),
  (.iload_n 1, (1, 0, 0, 0), 0, 0, []),
  (.aload_n 0, (0, 0, 0, 0), 0, 0, []),
  (.getfield 332, (11, 3, 2, 0), 0, 0, []),
  (.getfield 319, (10, 18, 2, 0), 0, 0, []),
  (.iload_n 2, (2, 0, 0, 0), 0, 0, []),
  (.iaload, (13, 0, 0, 0), 0, 0, []),
  (.invokevirtual 446, (279, 3, 1, 11), 0, 0, []),
  (.invokestatic 385, (191, 2, 1, 99), 0, 0, []),
  (.aload_n 0, (0, 0, 0, 0), 0, 0, []),
  (.getfield 332, (11, 3, 2, 0), 0, 0, []),
  (.getfield 322, (10, 19, 2, 0), 0, 0, []),
  (.iload_n 2, (2, 0, 0, 0), 0, 0, []),
  (.iaload, (13, 0, 0, 0), 0, 0, []),
  (.isub, (0, 0, 0, 0), 0, 0, []),
  (.aload_n 0, (0, 0, 0, 0), 0, 0, []),
  (.getfield 332, (11, 3, 2, 0), 0, 0, []),
  (.getfield 246, (10, 1, 0, 0), 0, 0, []),
  (.ineg, (0, 0, 0, 0), 0, 0, []),
  (.aload_n 0, (0, 0, 0, 0), 0, 0, []),
  (.getfield 332, (11, 3, 2, 0), 0, 0, []),
  (.getfield 246, (10, 1, 0, 0), 0, 0, []),
  (.invokestatic 137, (187, 3, 1, 99), 0, 0, []),
  (.ifCond .ne 5, (43, 0, 0, 0), 0, 0, []),
  (.iconst 0, (0, 0, 0, 0), 0, 0, []),
  (.ireturn, (0, 0, 1, 0), 0, 0, []),
  (.iinc 2 1, (2, 0, 0, 0), 1, 0, []),
  (.goto (-81), (2, 0, 0, 0), 0, 0, []),
  (.iconst 1, (0, 0, 0, 0), 1, 0, []),
  (.ireturn, (0, 0, 1, 0), 0, 0, [])]
def q_280 : List Nat := [0, 1, 2, 2, 3, 4, 7, 10, 13, 14, 17, 20, 21, 24, 27, 28, 29, 30, 31, 32, 33, 36, 39, 40, 41, 44, 47, 48, 51, 54, 55, 56, 57, 58, 61, 64, 65, 66, 69, 72, 75, 78, 79, 80, 83, 86, 87, 88]
def m_280 : aMt := (yX12_isFit, cX12_isFit, 3, (some .boolean), 12, 3, 67, (0, 0), 1, k_280, q_280)
def k_281 : List aM := [(.aload_n 0, (0, 0, 0, 0), 0, 0, []),
  (.iconst 0, (0, 0, 0, 0), 0, 0, []),
  (.putfield 449, (11, 31, 0, 0), 0, 0, []),
  (.iconst 0, (0, 0, 0, 0), 0, 0, []),
  (.istore_n 1, (1, 0, 0, 0), 0, 0, []),
  (.nop, (0, 0, 0, 0), 0, 0, [(0, 1), (0, 1)]),
  (.iload_n 1, (1, 0, 0, 0), 0, 0, []),
  (.sipush 320, (0, 0, 0, 0), 320, 0, []),
  (.if_icmp .ge 50, (34, 0, 0, 0), 0, 0, []),
  (.aload_n 0, (0, 0, 0, 0), 0, 0, []),
  (.iload_n 1, (1, 0, 0, 0), 0, 0, []),
  (.iconst 5, (0, 0, 0, 0), 5, 0, []),
  (.idiv, (0, 0, 0, 0), 0, 0, []),
  (.invokevirtual 418, (267, 2, 1, 11), 0, 0, []),
  (.ifCond .eq 34, (32, 0, 0, 0), 0, 0, []),
  (.aload_n 0, (0, 0, 0, 0), 0, 0, []),
  (.iload_n 1, (1, 0, 0, 0), 0, 0, []),
  (.invokevirtual 452, (280, 2, 1, 11), 0, 0, []),
  (.ifCond .ne 6, (20, 0, 0, 0), 0, 0, []),
  (.goto 23, (32, 0, 0, 0), 0, 0, []),
  (.aload_n 0, (0, 0, 0, 0), 0, 0, []),
  (.getfield 46, (11, 28, 2, 0), 0, 0, []),
  (.aload_n 0, (0, 0, 0, 0), 0, 0, []),
  (.getfield 449, (11, 31, 0, 0), 0, 0, []),
  (.iload_n 1, (1, 0, 0, 0), 0, 0, []),
  (.iastore, (0, 0, 0, 0), 0, 0, []),
  (.aload_n 0, (0, 0, 0, 0), 0, 0, []),
  (.dup, (0, 0, 0, 0), 0, 0, []),
  (.getfield 449, (11, 31, 0, 0), 0, 0, []),
  (.iconst 1, (0, 0, 0, 0), 1, 0, []),
  (.iadd, (0, 0, 0, 0), 0, 0, []),
  (.putfield 449, (11, 31, 0, 0), 0, 0, []),
  (.iinc 1 1, (1, 0, 0, 0), 1, 0, []),
  (.goto (-51), (5, 0, 0, 0), 0, 0, []),
  (.return_, (0, 0, 0, 0), 0, 0, [])]
def q_281 : List Nat := [0, 1, 2, 5, 6, 7, 7, 8, 11, 14, 15, 16, 17, 18, 21, 24, 25, 26, 29, 32, 35, 36, 39, 40, 43, 44, 45, 46, 47, 50, 51, 52, 55, 58, 61, 62]
def m_281 : aMt := (yX12_fitting, cX12_fitting, 2, none, 12, 4, 89, (0, 0), 0, k_281, q_281)
def k_282 : List aM := [(.aload_n 0, (0, 0, 0, 0), 0, 0, []),
  (.iconst 0, (0, 0, 0, 0), 0, 0, []),
  (.putfield 55, (11, 0, 0, 0), 0, 0, []),
  (.aload_n 0, (0, 0, 0, 0), 0, 0, []),
  (.getfield 332, (11, 3, 3, 0), 0, 0, []),
  (.ifnonnull 9, (10, 0, 0, 0), 0, 0, []),
  (.aload_n 0, (0, 0, 0, 0), 0, 0, []),
  (.iconst 1, (0, 0, 0, 0), 1, 0, []),
  (.invokevirtual 61, (182, 2, 1, 11), 0, 0, []),
  (.ireturn, (0, 0, 0, 0), 0, 0, []),
  (.aload_n 0, (0, 0, 0, 0), 0, 0, []),
  (.invokevirtual 455, (281, 1, 0, 11), 0, 0, []),
  (.aload_n 0, (0, 0, 0, 0), 0, 0, []),
  (.aload_n 0, (0, 0, 0, 0), 0, 0, []),
  (.getfield 449, (11, 31, 0, 0), 0, 0, []),
  (.invokevirtual 65, (185, 2, 1, 11), 0, 0, []),
  (.ireturn, (0, 0, 0, 0), 0, 0, [])]
def q_282 : List Nat := [0, 1, 2, 5, 6, 9, 12, 13, 14, 17, 18, 19, 22, 23, 24, 27, 30, 31]
def m_282 : aMt := (yX12_fits, cX12_fits, 1, (some .int), 12, 5, 110, (0, 0), 0, k_282, q_282)
def k_283 : List aM := [(.aload_n 0, (0, 0, 0, 0), 0, 0, []),
  (.getfield 332, (11, 3, 3, 0), 0, 0, []),
  (.ifnonnull 5, (5, 0, 0, 0), 0, 0, []),
  (.iconst (-1), (0, 0, 0, 0), (-1), 0, []),
  (.ireturn, (0, 0, 0, 0), 0, 0, []),
  (.aload_n 0, (0, 0, 0, 0), 0, 0, []),
  (.invokevirtual 455, (281, 1, 0, 11), 0, 0, []),
  (.iload_n 1, (1, 0, 0, 0), 0, 0, []),
  (.ifCond .lt 11, (13, 0, 0, 0), 0, 0, []),
  (.iload_n 1, (1, 0, 0, 0), 0, 0, []),
  (.aload_n 0, (0, 0, 0, 0), 0, 0, []),
  (.getfield 449, (11, 31, 0, 0), 0, 0, []),
  (.if_icmp .lt 7, (15, 0, 0, 0), 0, 0, []),
  (.iconst (-1), (0, 0, 0, 0), (-1), 0, []),
  (.goto 9, (19, 0, 0, 0), 0, 0, []),
  (.aload_n 0, (0, 0, 0, 0), 0, 0, []),
  (.getfield 46, (11, 28, 2, 0), 0, 0, []),
  (.iload_n 1, (1, 0, 0, 0), 0, 0, []),
  (.iaload, (13, 0, 0, 0), 0, 0, []),
  (.ireturn, (0, 0, 0, 0), 0, 0, [])]
def q_283 : List Nat := [0, 1, 4, 7, 8, 9, 10, 13, 14, 17, 18, 19, 22, 25, 26, 29, 30, 33, 34, 35, 36]
def m_283 : aMt := (yX12_fitBy, cX12_fitBy, 2, (some .int), 12, 5, 110, (0, 0), 1, k_283, q_283)
def k_284 : List aM := [(.aload_n 0, (0, 0, 0, 0), 0, 0, []),
  (.iconst 0, (0, 0, 0, 0), 0, 0, []),
  (.putfield 55, (11, 0, 0, 0), 0, 0, []),
  (.aload_n 0, (0, 0, 0, 0), 0, 0, []),
  (.iload_n 1, (1, 0, 0, 0), 0, 0, []),
  (.invokevirtual 458, (283, 2, 1, 11), 0, 0, []),
  (.istore_n 2, (2, 0, 0, 0), 0, 0, []),
  (.iload_n 2, (2, 0, 0, 0), 0, 0, []),
  (.iconst (-1), (0, 0, 0, 0), (-1), 0, []),
  (.if_icmp .ne 11, (14, 0, 0, 0), 0, 0, []),
  (.aload_n 0, (0, 0, 0, 0), 0, 0, []),
  (.iconst 1, (0, 0, 0, 0), 1, 0, []),
  (.invokevirtual 61, (182, 2, 1, 11), 0, 0, []),
  (.goto 13, (20, 0, 0, 0), 0, 0, []),
  (.aload_n 0, (0, 0, 0, 0), 0, 0, []),
  (.iload_n 2, (2, 0, 0, 0), 0, 0, []),
  (.iconst 5, (0, 0, 0, 0), 5, 0, []),
  (.idiv, (0, 0, 0, 0), 0, 0, []),
  (.invokestatic 376, (230, 1, 1, 99), 0, 0, []),
  (.invokevirtual 65, (185, 2, 1, 11), 0, 0, []),
  (.ireturn, (0, 0, 0, 0), 0, 0, [])]
def q_284 : List Nat := [0, 1, 2, 5, 6, 7, 10, 11, 12, 13, 16, 17, 18, 21, 24, 25, 26, 27, 28, 31, 34, 35]
def m_284 : aMt := (yX12_fitAt, cX12_fitAt, 3, (some .int), 12, 6, 131, (0, 0), 1, k_284, q_284)
def k_285 : List aM := [(.aload_n 0, (0, 0, 0, 0), 0, 0, []),
  (.iconst 0, (0, 0, 0, 0), 0, 0, []),
  (.putfield 55, (11, 0, 0, 0), 0, 0, []),
  (.aload_n 0, (0, 0, 0, 0), 0, 0, []),
  (.iload_n 1, (1, 0, 0, 0), 0, 0, []),
  (.invokevirtual 458, (283, 2, 1, 11), 0, 0, []),
  (.istore_n 2, (2, 0, 0, 0), 0, 0, []),
  (.iload_n 2, (2, 0, 0, 0), 0, 0, []),
  (.iconst (-1), (0, 0, 0, 0), (-1), 0, []),
  (.if_icmp .ne 11, (14, 0, 0, 0), 0, 0, []),
  (.aload_n 0, (0, 0, 0, 0), 0, 0, []),
  (.iconst 1, (0, 0, 0, 0), 1, 0, []),
  (.invokevirtual 61, (182, 2, 1, 11), 0, 0, []),
  (.goto 10, (19, 0, 0, 0), 0, 0, []),
  (.aload_n 0, (0, 0, 0, 0), 0, 0, []),
  (.iload_n 2, (2, 0, 0, 0), 0, 0, []),
  (.iconst 5, (0, 0, 0, 0), 5, 0, []),
  (.irem, (0, 0, 0, 0), 0, 0, []),
  (.invokevirtual 65, (185, 2, 1, 11), 0, 0, []),
  (.ireturn, (0, 0, 0, 0), 0, 0, [])]
def q_285 : List Nat := [0, 1, 2, 5, 6, 7, 10, 11, 12, 13, 16, 17, 18, 21, 24, 25, 26, 27, 28, 31, 32]
def m_285 : aMt := (yX12_fitWay, cX12_fitWay, 3, (some .int), 12, 6, 131, (0, 0), 1, k_285, q_285)
def k_286 : List aM := [(.aload_n 0, (0, 0, 0, 0), 0, 0, []),
  (.invokevirtual 455, (281, 1, 0, 11), 0, 0, []),
  (.iconst 0, (0, 0, 0, 0), 0, 0, []),
  (.istore_n 2, (2, 0, 0, 0), 0, 0, []),
  (.nop, (0, 0, 0, 0), 0, 0, [(0, 1), (0, 1), (0, 1)]),
  (.iload_n 2, (2, 0, 0, 0), 0, 0, []),
  (.bipush 64, (0, 0, 0, 0), 64, 0, []),
  (.if_icmp .ge 16, (15, 0, 0, 0), 0, 0, []),
  (.aload_n 0, (0, 0, 0, 0), 0, 0, []),
  (.getfield 49, (11, 29, 2, 0), 0, 0, []),
  (.iload_n 2, (2, 0, 0, 0), 0, 0, []),
  (.iconst 0, (0, 0, 0, 0), 0, 0, []),
  (.iastore, (0, 0, 0, 0), 0, 0, []),
  (.iinc 2 1, (2, 0, 0, 0), 1, 0, []),
  (.goto (-16), (4, 0, 0, 0), 0, 0, []),
  (.iconst 0, (0, 0, 0, 0), 0, 0, []),
  (.istore_n 2, (2, 0, 0, 0), 0, 0, []),
  (.nop, (0, 0, 0, 0), 0, 0, [(0, 1), (0, 1), (0, 1)]),
  (.iload_n 2, (2, 0, 0, 0), 0, 0, []),
  (.aload_n 0, (0, 0, 0, 0), 0, 0, []),
  (.getfield 449, (11, 31, 0, 0), 0, 0, []),
  (.if_icmp .ge 29, (38, 0, 0, 0), 0, 0, []),
  (.aload_n 0, (0, 0, 0, 0), 0, 0, []),
  (.getfield 49, (11, 29, 2, 0), 0, 0, []),
  (.aload_n 0, (0, 0, 0, 0), 0, 0, []),
  (.aload_n 0, (0, 0, 0, 0), 0, 0, []),
  (.getfield 46, (11, 28, 2, 0), 0, 0, []),
  (.iload_n 2, (2, 0, 0, 0), 0, 0, []),
  (.iaload, (13, 0, 0, 0), 0, 0, []),
  (.iload_n 1, (1, 0, 0, 0), 0, 0, []),
  (.invokevirtual 446, (279, 3, 1, 11), 0, 0, []),
  (.dup2, (0, 0, 0, 0), 0, 0, []),
  (.iaload, (13, 0, 0, 0), 0, 0, []),
  (.iconst 1, (0, 0, 0, 0), 1, 0, []),
  (.iadd, (0, 0, 0, 0), 0, 0, []),
  (.iastore, (0, 0, 0, 0), 0, 0, []),
  (.iinc 2 1, (2, 0, 0, 0), 1, 0, []),
  (.goto (-31), (17, 0, 0, 0), 0, 0, []),
  (.return_, (0, 0, 0, 0), 0, 0, [])]
def q_286 : List Nat := [0, 1, 4, 5, 6, 6, 7, 9, 12, 13, 16, 17, 18, 19, 22, 25, 26, 27, 27, 28, 29, 32, 35, 36, 39, 40, 41, 44, 45, 46, 47, 50, 51, 52, 53, 54, 55, 58, 61, 62]
def m_286 : aMt := (yX12_countsAt, cX12_countsAt, 3, none, 12, 5, 110, (0, 0), 1, k_286, q_286)
def k_287 : List aM := [(.aload_n 0, (0, 0, 0, 0), 0, 0, []),
  (.iconst 0, (0, 0, 0, 0), 0, 0, []),
  (.putfield 55, (11, 0, 0, 0), 0, 0, []),
  (.aload_n 0, (0, 0, 0, 0), 0, 0, []),
  (.aload_n 0, (0, 0, 0, 0), 0, 0, []),
  (.iload_n 1, (1, 0, 0, 0), 0, 0, []),
  (.iload_n 2, (2, 0, 0, 0), 0, 0, []),
  (.invokevirtual 364, (226, 3, 1, 11), 0, 0, []),
  (.iload_n 3, (3, 0, 0, 0), 0, 0, []),
  (.invokevirtual 388, (239, 3, 1, 11), 0, 0, []),
  (.istore 4, (4, 0, 0, 0), 0, 0, []),
  (.iload 4, (4, 0, 0, 0), 0, 0, []),
  (.ifCond .le 10, (17, 0, 0, 0), 0, 0, []),
  (.aload_n 0, (0, 0, 0, 0), 0, 0, []),
  (.iload 4, (4, 0, 0, 0), 0, 0, []),
  (.invokevirtual 61, (182, 2, 1, 11), 0, 0, []),
  (.ireturn, (0, 0, 0, 0), 0, 0, []),
  (.aload_n 0, (0, 0, 0, 0), 0, 0, []),
  (.iload_n 3, (3, 0, 0, 0), 0, 0, []),
  (.invokevirtual 461, (286, 2, 0, 11), 0, 0, []),
  (.aload_n 0, (0, 0, 0, 0), 0, 0, []),
  (.aload_n 0, (0, 0, 0, 0), 0, 0, []),
  (.getfield 49, (11, 29, 2, 0), 0, 0, []),
  (.iload_n 1, (1, 0, 0, 0), 0, 0, []),
  (.iload_n 2, (2, 0, 0, 0), 0, 0, []),
  (.invokestatic 367, (229, 2, 1, 99), 0, 0, []),
  (.iaload, (13, 0, 0, 0), 0, 0, []),
  (.invokevirtual 65, (185, 2, 1, 11), 0, 0, []),
  (.ireturn, (0, 0, 0, 0), 0, 0, [])]
def q_287 : List Nat := [0, 1, 2, 5, 6, 7, 8, 9, 12, 13, 16, 18, 20, 23, 24, 26, 29, 30, 31, 32, 35, 36, 37, 40, 41, 42, 45, 46, 49, 50]
def m_287 : aMt := (yX12_beAt, cX12_beAt, 5, (some .int), 12, 6, 132, (0, 0), 3, k_287, q_287)
def k_288 : List aM := [(.aload_n 0, (0, 0, 0, 0), 0, 0, []),
  (.iconst 0, (0, 0, 0, 0), 0, 0, []),
  (.putfield 55, (11, 0, 0, 0), 0, 0, []),
  (.aload_n 0, (0, 0, 0, 0), 0, 0, []),
  (.aload_n 0, (0, 0, 0, 0), 0, 0, []),
  (.getfield 332, (11, 3, 3, 0), 0, 0, []),
  (.ifnull 7, (9, 0, 0, 0), 0, 0, []),
  (.iconst 1, (0, 0, 0, 0), 1, 0, []),
  (.goto 4, (10, 0, 0, 0), 0, 0, []),
  (.iconst 0, (0, 0, 0, 0), 0, 0, []),
  (.nop, (0, 0, 0, 0), 0, 0, [(0, 1), (0, 1), (0, 0), (0, 0), (0, 0)]),
  (.iload_n 1, (1, 0, 0, 0), 0, 0, []),
  (.invokevirtual 388, (239, 3, 1, 11), 0, 0, []),
  (.istore_n 2, (2, 0, 0, 0), 0, 0, []),
  (.iload_n 2, (2, 0, 0, 0), 0, 0, []),
  (.ifCond .le 9, (20, 0, 0, 0), 0, 0, []),
  (.aload_n 0, (0, 0, 0, 0), 0, 0, []),
  (.iload_n 2, (2, 0, 0, 0), 0, 0, []),
  (.invokevirtual 61, (182, 2, 1, 11), 0, 0, []),
  (.ireturn, (0, 0, 0, 0), 0, 0, []),
  (.aload_n 0, (0, 0, 0, 0), 0, 0, []),
  (.iload_n 1, (1, 0, 0, 0), 0, 0, []),
  (.invokevirtual 461, (286, 2, 0, 11), 0, 0, []),
  (.iconst 0, (0, 0, 0, 0), 0, 0, []),
  (.istore_n 3, (3, 0, 0, 0), 0, 0, []),
  (.iconst 1, (0, 0, 0, 0), 1, 0, []),
  (.istore 4, (4, 0, 0, 0), 0, 0, []),
  (.nop, (0, 0, 0, 0), 0, 0, [(0, 1), (0, 0), (0, 0), (0, 1), (0, 1)]),
  (.iload 4, (4, 0, 0, 0), 0, 0, []),
  (.bipush 64, (0, 0, 0, 0), 64, 0, []),
  (.if_icmp .ge 28, (44, 0, 0, 0), 0, 0, []),
  (.aload_n 0, (0, 0, 0, 0), 0, 0, []),
  (.getfield 49, (11, 29, 2, 0), 0, 0, []),
  (.iload 4, (4, 0, 0, 0), 0, 0, []),
  (.iaload, (13, 0, 0, 0), 0, 0, []),
  (.aload_n 0, (0, 0, 0, 0), 0, 0, []),
  (.getfield 49, (11, 29, 2, 0), 0, 0, []),
  (.iload_n 3, (3, 0, 0, 0), 0, 0, []),
  (.iaload, (13, 0, 0, 0), 0, 0, []),
  (.if_icmp .le 6, (42, 0, 0, 0), 0, 0, []),
  (.iload 4, (4, 0, 0, 0), 0, 0, []),
  (.istore_n 3, (3, 0, 0, 0), 0, 0, []),
  (.iinc 4 1, (4, 0, 0, 0), 1, 0, []),
  (.goto (-29), (27, 0, 0, 0), 0, 0, []),
  (.aload_n 0, (0, 0, 0, 0), 0, 0, []),
  (.aload_n 0, (0, 0, 0, 0), 0, 0, []),
  (.getfield 449, (11, 31, 0, 0), 0, 0, []),
  (.ifCond .ne 8, (50, 0, 0, 0), 0, 0, []),
  (.bipush (-2), (0, 0, 0, 0), (-2), 0, []),
  (.goto 7, (52, 0, 0, 0), 0, 0, []),
  (.iload_n 3, (3, 0, 0, 0), 0, 0, []),
  (.invokestatic 376, (230, 1, 1, 99), 0, 0, []),
  (.nop, (0, 0, 0, 0), 0, 0, [(0, 0), (0, 0), (0, 0), (0, 0), (0, 0)]),
  (.invokevirtual 65, (185, 2, 1, 11), 0, 0, []),
  (.ireturn, (0, 0, 0, 0), 0, 0, [])]
def q_288 : List Nat := [0, 1, 2, 5, 6, 7, 10, 13, 14, 17, 18, 18, 19, 22, 23, 24, 27, 28, 29, 32, 33, 34, 35, 38, 39, 40, 41, 43, 43, 45, 47, 50, 51, 54, 56, 57, 58, 61, 62, 63, 66, 68, 69, 72, 75, 76, 77, 80, 83, 85, 88, 89, 92, 92, 95, 96]
def m_288 : aMt := (yX12_likely, cX12_likely, 5, (some .int), 12, 6, 132, (0, 0), 1, k_288, q_288)
def k_289 : List aM := [(.aload_n 0, (0, 0, 0, 0), 0, 0, []),
  (.iload_n 1, (1, 0, 0, 0), 0, 0, []),
  (.invokevirtual 461, (286, 2, 0, 11), 0, 0, []),
  (.bipush (-2), (0, 0, 0, 0), (-2), 0, []),
  (.istore_n 2, (2, 0, 0, 0), 0, 0, []),
  (.aload_n 0, (0, 0, 0, 0), 0, 0, []),
  (.bipush (-2), (0, 0, 0, 0), (-2), 0, []),
  (.putfield 464, (11, 32, 0, 0), 0, 0, []),
  (.iconst 0, (0, 0, 0, 0), 0, 0, []),
  (.istore_n 3, (3, 0, 0, 0), 0, 0, []),
  (.nop, (0, 0, 0, 0), 0, 0, [(0, 1), (0, 0), (0, 1), (0, 1), (0, 0), (0, 0)]),
  (.iload_n 3, (3, 0, 0, 0), 0, 0, []),
  (.aload_n 0, (0, 0, 0, 0), 0, 0, []),
  (.invokevirtual 415, (266, 1, 1, 11), 0, 0, []),
  (.if_icmp .gt 164, (99, 0, 0, 0), 0, 0, []),
  (.aload_n 0, (0, 0, 0, 0), 0, 0, []),
  (.getfield 449, (11, 31, 0, 0), 0, 0, []),
  (.ifCond .le 157, (99, 0, 0, 0), 0, 0, []),
  (.aload_n 0, (0, 0, 0, 0), 0, 0, []),
  (.iload_n 3, (3, 0, 0, 0), 0, 0, []),
  (.invokevirtual 418, (267, 2, 1, 11), 0, 0, []),
  (.ifCond .ne 6, (23, 0, 0, 0), 0, 0, []),
  (.goto 140, (97, 0, 0, 0), 0, 0, []),
  (.iconst 0, (0, 0, 0, 0), 0, 0, []),
  (.istore 4, (4, 0, 0, 0), 0, 0, []),
  (.nop, (0, 0, 0, 0), 0, 0, [(0, 1), (0, 0), (0, 1), (0, 1), (0, 1), (0, 0)]),
  (.iload 4, (4, 0, 0, 0), 0, 0, []),
  (.bipush 14, (0, 0, 0, 0), 14, 0, []),
  (.if_icmp .gt 17, (36, 0, 0, 0), 0, 0, []),
  (.aload_n 0, (0, 0, 0, 0), 0, 0, []),
  (.getfield 52, (11, 30, 2, 0), 0, 0, []),
  (.iload 4, (4, 0, 0, 0), 0, 0, []),
  (.iconst 0, (0, 0, 0, 0), 0, 0, []),
  (.iastore, (0, 0, 0, 0), 0, 0, []),
  (.iinc 4 1, (4, 0, 0, 0), 1, 0, []),
  (.goto (-18), (25, 0, 0, 0), 0, 0, []),
  (.iconst 0, (0, 0, 0, 0), 0, 0, []),
  (.istore 4, (4, 0, 0, 0), 0, 0, []),
  (.iconst 0, (0, 0, 0, 0), 0, 0, []),
  (.istore 5, (5, 0, 0, 0), 0, 0, []),
  (.nop, (0, 0, 0, 0), 0, 0, [(0, 1), (0, 0), (0, 1), (0, 1), (0, 1), (0, 1)]),
  (.iload 5, (5, 0, 0, 0), 0, 0, []),
  (.bipush 64, (0, 0, 0, 0), 64, 0, []),
  (.if_icmp .ge 40, (64, 0, 0, 0), 0, 0, []),
  (.aload_n 0, (0, 0, 0, 0), 0, 0, []),
  (.getfield 49, (11, 29, 2, 0), 0, 0, []),
  (.iload 5, (5, 0, 0, 0), 0, 0, []),
  (.iaload, (13, 0, 0, 0), 0, 0, []),
  (.ifCond .le 24, (62, 0, 0, 0), 0, 0, []),
  (.aload_n 0, (0, 0, 0, 0), 0, 0, []),
  (.getfield 52, (11, 30, 2, 0), 0, 0, []),
  (.iload_n 3, (3, 0, 0, 0), 0, 0, []),
  (.iload 5, (5, 0, 0, 0), 0, 0, []),
  (.invokestatic 385, (191, 2, 1, 99), 0, 0, []),
  (.dup2, (0, 0, 0, 0), 0, 0, []),
  (.iaload, (13, 0, 0, 0), 0, 0, []),
  (.aload_n 0, (0, 0, 0, 0), 0, 0, []),
  (.getfield 49, (11, 29, 2, 0), 0, 0, []),
  (.iload 5, (5, 0, 0, 0), 0, 0, []),
  (.iaload, (13, 0, 0, 0), 0, 0, []),
  (.iadd, (0, 0, 0, 0), 0, 0, []),
  (.iastore, (0, 0, 0, 0), 0, 0, []),
  (.iinc 5 1, (5, 0, 0, 0), 1, 0, []),
  (.goto (-41), (40, 0, 0, 0), 0, 0, []),
  (.iconst 0, (0, 0, 0, 0), 0, 0, []),
  (.istore 5, (5, 0, 0, 0), 0, 0, []),
  (.nop, (0, 0, 0, 0), 0, 0, [(0, 1), (0, 0), (0, 1), (0, 1), (0, 1), (0, 1)]),
  (.iload 5, (5, 0, 0, 0), 0, 0, []),
  (.bipush 14, (0, 0, 0, 0), 14, 0, []),
  (.if_icmp .gt 30, (83, 0, 0, 0), 0, 0, []),
  (.aload_n 0, (0, 0, 0, 0), 0, 0, []),
  (.getfield 52, (11, 30, 2, 0), 0, 0, []),
  (.iload 5, (5, 0, 0, 0), 0, 0, []),
  (.iaload, (13, 0, 0, 0), 0, 0, []),
  (.iload 4, (4, 0, 0, 0), 0, 0, []),
  (.if_icmp .le 12, (81, 0, 0, 0), 0, 0, []),
  (.aload_n 0, (0, 0, 0, 0), 0, 0, []),
  (.getfield 52, (11, 30, 2, 0), 0, 0, []),
  (.iload 5, (5, 0, 0, 0), 0, 0, []),
  (.iaload, (13, 0, 0, 0), 0, 0, []),
  (.istore 4, (4, 0, 0, 0), 0, 0, []),
  (.iinc 5 1, (5, 0, 0, 0), 1, 0, []),
  (.goto (-31), (66, 0, 0, 0), 0, 0, []),
  (.iload_n 2, (2, 0, 0, 0), 0, 0, []),
  (.bipush (-2), (0, 0, 0, 0), (-2), 0, []),
  (.if_icmp .eq 15, (91, 0, 0, 0), 0, 0, []),
  (.iload 4, (4, 0, 0, 0), 0, 0, []),
  (.aload_n 0, (0, 0, 0, 0), 0, 0, []),
  (.getfield 464, (11, 32, 0, 0), 0, 0, []),
  (.if_icmp .lt 6, (91, 0, 0, 0), 0, 0, []),
  (.goto 11, (97, 0, 0, 0), 0, 0, []),
  (.nop, (0, 0, 0, 0), 0, 0, [(0, 1), (0, 0), (0, 0), (0, 1), (0, 1), (0, 0)]),
  (.iload_n 3, (3, 0, 0, 0), 0, 0, []),
  (.istore_n 2, (2, 0, 0, 0), 0, 0, []),
  (.aload_n 0, (0, 0, 0, 0), 0, 0, []),
  (.iload 4, (4, 0, 0, 0), 0, 0, []),
  (.putfield 464, (11, 32, 0, 0), 0, 0, []),
  (.iinc 3 1, (3, 0, 0, 0), 1, 0, []),
  (.goto (-166), (10, 0, 0, 0), 0, 0, []),
  (.iload_n 2, (2, 0, 0, 0), 0, 0, []),
  (.ireturn, (0, 0, 0, 0), 0, 0, [])]
def q_289 : List Nat := [0, 1, 2, 5, 7, 8, 9, 11, 14, 15, 16, 16, 17, 18, 21, 24, 25, 28, 31, 32, 33, 36, 39, 42, 43, 45, 45, 47, 49, 52, 53, 56, 58, 59, 60, 63, 66, 67, 69, 70, 72, 72, 74, 76, 79, 80, 83, 85, 86, 89, 90, 93, 94, 96, 99, 100, 101, 102, 105, 107, 108, 109, 110, 113, 116, 117, 119, 119, 121, 123, 126, 127, 130, 132, 133, 135, 138, 139, 142, 144, 145, 147, 150, 153, 154, 156, 159, 161, 162, 165, 168, 171, 171, 172, 173, 174, 176, 179, 182, 185, 186, 187]
def m_289 : aMt := (yX12_more, cX12_more, 6, (some .int), 12, 6, 132, (0, 0), 1, k_289, q_289)
end
section
def k_290 : List aM := [(.aload_n 0, (0, 0, 0, 0), 0, 0, []),
  (.iconst 0, (0, 0, 0, 0), 0, 0, []),
  (.putfield 55, (11, 0, 0, 0), 0, 0, []),
  (.aload_n 0, (0, 0, 0, 0), 0, 0, []),
  (.aload_n 0, (0, 0, 0, 0), 0, 0, []),
  (.getfield 332, (11, 3, 3, 0), 0, 0, []),
  (.ifnull 7, (9, 0, 0, 0), 0, 0, []),
  (.iconst 1, (0, 0, 0, 0), 1, 0, []),
  (.goto 4, (10, 0, 0, 0), 0, 0, []),
  (.iconst 0, (0, 0, 0, 0), 0, 0, []),
  (.nop, (0, 0, 0, 0), 0, 0, [(0, 1), (0, 1), (0, 0), (0, 0)]),
  (.iload_n 1, (1, 0, 0, 0), 0, 0, []),
  (.invokevirtual 388, (239, 3, 1, 11), 0, 0, []),
  (.istore_n 2, (2, 0, 0, 0), 0, 0, []),
  (.iload_n 2, (2, 0, 0, 0), 0, 0, []),
  (.ifCond .le 9, (20, 0, 0, 0), 0, 0, []),
  (.aload_n 0, (0, 0, 0, 0), 0, 0, []),
  (.iload_n 2, (2, 0, 0, 0), 0, 0, []),
  (.invokevirtual 61, (182, 2, 1, 11), 0, 0, []),
  (.ireturn, (0, 0, 0, 0), 0, 0, []),
  (.aload_n 0, (0, 0, 0, 0), 0, 0, []),
  (.iload_n 1, (1, 0, 0, 0), 0, 0, []),
  (.invokevirtual 467, (289, 2, 1, 11), 0, 0, []),
  (.istore_n 3, (3, 0, 0, 0), 0, 0, []),
  (.aload_n 0, (0, 0, 0, 0), 0, 0, []),
  (.iload_n 3, (3, 0, 0, 0), 0, 0, []),
  (.bipush (-2), (0, 0, 0, 0), (-2), 0, []),
  (.if_icmp .ne 8, (30, 0, 0, 0), 0, 0, []),
  (.bipush (-2), (0, 0, 0, 0), (-2), 0, []),
  (.goto 7, (32, 0, 0, 0), 0, 0, []),
  (.iload_n 3, (3, 0, 0, 0), 0, 0, []),
  (.invokestatic 376, (230, 1, 1, 99), 0, 0, []),
  (.nop, (0, 0, 0, 0), 0, 0, [(0, 0), (0, 0), (0, 0), (0, 0)]),
  (.invokevirtual 65, (185, 2, 1, 11), 0, 0, []),
  (.ireturn, (0, 0, 0, 0), 0, 0, [])]
def q_290 : List Nat := [0, 1, 2, 5, 6, 7, 10, 13, 14, 17, 18, 18, 19, 22, 23, 24, 27, 28, 29, 32, 33, 34, 35, 38, 39, 40, 41, 43, 46, 48, 51, 52, 55, 55, 58, 59]
def m_290 : aMt := (yX12_oneMore, cX12_oneMore, 4, (some .int), 12, 7, 157, (0, 0), 1, k_290, q_290)
def k_291 : List aM := [(.aload_n 0, (0, 0, 0, 0), 0, 0, []),
  (.iconst 0, (0, 0, 0, 0), 0, 0, []),
  (.putfield 55, (11, 0, 0, 0), 0, 0, []),
  (.aload_n 0, (0, 0, 0, 0), 0, 0, []),
  (.aload_n 0, (0, 0, 0, 0), 0, 0, []),
  (.getfield 332, (11, 3, 3, 0), 0, 0, []),
  (.ifnull 7, (9, 0, 0, 0), 0, 0, []),
  (.iconst 1, (0, 0, 0, 0), 1, 0, []),
  (.goto 4, (10, 0, 0, 0), 0, 0, []),
  (.iconst 0, (0, 0, 0, 0), 0, 0, []),
  (.nop, (0, 0, 0, 0), 0, 0, [(0, 1), (0, 1), (0, 0)]),
  (.iload_n 1, (1, 0, 0, 0), 0, 0, []),
  (.invokevirtual 388, (239, 3, 1, 11), 0, 0, []),
  (.istore_n 2, (2, 0, 0, 0), 0, 0, []),
  (.iload_n 2, (2, 0, 0, 0), 0, 0, []),
  (.ifCond .le 9, (20, 0, 0, 0), 0, 0, []),
  (.aload_n 0, (0, 0, 0, 0), 0, 0, []),
  (.iload_n 2, (2, 0, 0, 0), 0, 0, []),
  (.invokevirtual 61, (182, 2, 1, 11), 0, 0, []),
  (.ireturn, (0, 0, 0, 0), 0, 0, []),
  (.aload_n 0, (0, 0, 0, 0), 0, 0, []),
  (.iload_n 1, (1, 0, 0, 0), 0, 0, []),
  (.invokevirtual 467, (289, 2, 1, 11), 0, 0, []),
  (.pop, (0, 0, 0, 0), 0, 0, []),
  (.aload_n 0, (0, 0, 0, 0), 0, 0, []),
  (.aload_n 0, (0, 0, 0, 0), 0, 0, []),
  (.getfield 464, (11, 32, 0, 0), 0, 0, []),
  (.invokevirtual 65, (185, 2, 1, 11), 0, 0, []),
  (.ireturn, (0, 0, 0, 0), 0, 0, [])]
def q_291 : List Nat := [0, 1, 2, 5, 6, 7, 10, 13, 14, 17, 18, 18, 19, 22, 23, 24, 27, 28, 29, 32, 33, 34, 35, 38, 39, 40, 41, 44, 47, 48]
def m_291 : aMt := (yX12_oneMoreLeaves, cX12_oneMoreLeaves, 3, (some .int), 12, 7, 157, (0, 0), 1, k_291, q_291)
def k_292 : List aM := [(.aload_n 0, (0, 0, 0, 0), 0, 0, []),
  (.iconst 0, (0, 0, 0, 0), 0, 0, []),
  (.putfield 55, (11, 0, 0, 0), 0, 0, []),
  (.aload_n 0, (0, 0, 0, 0), 0, 0, []),
  (.iload_n 2, (2, 0, 0, 0), 0, 0, []),
  (.invokevirtual 458, (283, 2, 1, 11), 0, 0, []),
  (.istore_n 3, (3, 0, 0, 0), 0, 0, []),
  (.aload_n 0, (0, 0, 0, 0), 0, 0, []),
  (.iload_n 1, (1, 0, 0, 0), 0, 0, []),
  (.invokevirtual 373, (227, 2, 1, 11), 0, 0, []),
  (.ifCond .eq 8, (14, 0, 0, 0), 0, 0, []),
  (.iload_n 3, (3, 0, 0, 0), 0, 0, []),
  (.iconst (-1), (0, 0, 0, 0), (-1), 0, []),
  (.if_icmp .ne 9, (19, 0, 0, 0), 0, 0, []),
  (.nop, (0, 0, 0, 0), 0, 0, [(0, 1), (0, 0), (0, 0), (0, 0), (0, 0)]),
  (.aload_n 0, (0, 0, 0, 0), 0, 0, []),
  (.iconst 1, (0, 0, 0, 0), 1, 0, []),
  (.invokevirtual 61, (182, 2, 1, 11), 0, 0, []),
  (.ireturn, (0, 0, 0, 0), 0, 0, []),
  (.aload_n 0, (0, 0, 0, 0), 0, 0, []),
  (.invokevirtual 358, (231, 1, 0, 11), 0, 0, []),
  (.aload_n 0, (0, 0, 0, 0), 0, 0, []),
  (.aload_n 0, (0, 0, 0, 0), 0, 0, []),
  (.iload_n 1, (1, 0, 0, 0), 0, 0, []),
  (.invokevirtual 352, (233, 2, 1, 11), 0, 0, []),
  (.iconst 0, (0, 0, 0, 0), 0, 0, []),
  (.invokevirtual 408, (260, 3, 0, 11), 0, 0, []),
  (.iconst 0, (0, 0, 0, 0), 0, 0, []),
  (.istore 4, (4, 0, 0, 0), 0, 0, []),
  (.nop, (0, 0, 0, 0), 0, 0, [(0, 1), (0, 0), (0, 0), (0, 1), (0, 1)]),
  (.iload 4, (4, 0, 0, 0), 0, 0, []),
  (.bipush 60, (0, 0, 0, 0), 60, 0, []),
  (.if_icmp .gt 33, (48, 0, 0, 0), 0, 0, []),
  (.aload_n 0, (0, 0, 0, 0), 0, 0, []),
  (.getfield 30, (11, 22, 2, 0), 0, 0, []),
  (.aload_n 0, (0, 0, 0, 0), 0, 0, []),
  (.iload_n 3, (3, 0, 0, 0), 0, 0, []),
  (.iload 4, (4, 0, 0, 0), 0, 0, []),
  (.invokevirtual 446, (279, 3, 1, 11), 0, 0, []),
  (.iaload, (13, 0, 0, 0), 0, 0, []),
  (.iload 4, (4, 0, 0, 0), 0, 0, []),
  (.if_icmp .gt 10, (46, 0, 0, 0), 0, 0, []),
  (.aload_n 0, (0, 0, 0, 0), 0, 0, []),
  (.iload 4, (4, 0, 0, 0), 0, 0, []),
  (.invokevirtual 65, (185, 2, 1, 11), 0, 0, []),
  (.ireturn, (0, 0, 0, 0), 0, 0, []),
  (.iinc 4 1, (4, 0, 0, 0), 1, 0, []),
  (.goto (-34), (29, 0, 0, 0), 0, 0, []),
  (.aload_n 0, (0, 0, 0, 0), 0, 0, []),
  (.bipush (-2), (0, 0, 0, 0), (-2), 0, []),
  (.invokevirtual 65, (185, 2, 1, 11), 0, 0, []),
  (.ireturn, (0, 0, 0, 0), 0, 0, [])]
def q_292 : List Nat := [0, 1, 2, 5, 6, 7, 10, 11, 12, 13, 16, 19, 20, 21, 24, 24, 25, 26, 29, 30, 31, 34, 35, 36, 37, 40, 41, 44, 45, 47, 47, 49, 51, 54, 55, 58, 59, 60, 62, 65, 66, 68, 71, 72, 74, 77, 78, 81, 84, 85, 87, 90, 91]
def m_292 : aMt := (yX12_meets, cX12_meets, 5, (some .int), 12, 6, 131, (0, 0), 2, k_292, q_292)
def k_293 : List aM := [(.iload_n 1, (1, 0, 0, 0), 0, 0, []),
  (.ifCond .eq 16, (9, 0, 0, 0), 0, 0, []),
  (.iload_n 2, (2, 0, 0, 0), 0, 0, []),
  (.ifCond .eq 8, (7, 0, 0, 0), 0, 0, []),
  (.iload_n 0, (0, 0, 0, 0), 0, 0, []),
  (.ineg, (0, 0, 0, 0), 0, 0, []),
  (.goto 16, (14, 0, 0, 0), 0, 0, []),
  (.iconst 3, (0, 0, 0, 0), 3, 0, []),
  (.goto 12, (14, 0, 0, 0), 0, 0, []),
  (.iload_n 2, (2, 0, 0, 0), 0, 0, []),
  (.ifCond .eq 7, (13, 0, 0, 0), 0, 0, []),
  (.iconst (-1), (0, 0, 0, 0), (-1), 0, []),
  (.goto 4, (14, 0, 0, 0), 0, 0, []),
  (.iconst 1, (0, 0, 0, 0), 1, 0, []),
  (.ireturn, (0, 0, 0, 0), 0, 0, [])]
def q_293 : List Nat := [0, 1, 4, 5, 8, 9, 10, 13, 14, 17, 18, 21, 22, 25, 26, 27]
def m_293 : aMt := (yX12_gets, cX12_gets, 3, (some .int), 12, 0, 0, (0, 0), 3, k_293, q_293)
def k_294 : List aM := [(.aload_n 0, (0, 0, 0, 0), 0, 0, []),
  (.getfield 332, (11, 3, 3, 0), 0, 0, []),
  (.ifnonnull 7, (5, 0, 0, 0), 0, 0, []),
  (.iconst 1, (0, 0, 0, 0), 1, 0, []),
  (.goto 18, (13, 0, 0, 0), 0, 0, []),
  (.iload_n 1, (1, 0, 0, 0), 0, 0, []),
  (.iconst 0, (0, 0, 0, 0), 0, 0, []),
  (.bipush 9, (0, 0, 0, 0), 9, 0, []),
  (.invokestatic 137, (187, 3, 1, 99), 0, 0, []),
  (.ifCond .eq 7, (12, 0, 0, 0), 0, 0, []),
  (.iconst 0, (0, 0, 0, 0), 0, 0, []),
  (.goto 4, (13, 0, 0, 0), 0, 0, []),
  (.iconst 2, (0, 0, 0, 0), 2, 0, []),
  (.ireturn, (0, 0, 0, 0), 0, 0, [])]
def q_294 : List Nat := [0, 1, 4, 7, 8, 11, 12, 13, 15, 18, 21, 22, 25, 26, 27]
def m_294 : aMt := (yX12_refusesPowder, cX12_refusesPowder, 2, (some .int), 12, 1, 22, (0, 0), 1, k_294, q_294)
def k_295 : List aM := [(.aload_n 0, (0, 0, 0, 0), 0, 0, []),
  (.iconst 0, (0, 0, 0, 0), 0, 0, []),
  (.putfield 55, (11, 0, 0, 0), 0, 0, []),
  (.aload_n 0, (0, 0, 0, 0), 0, 0, []),
  (.iload_n 1, (1, 0, 0, 0), 0, 0, []),
  (.invokevirtual 470, (294, 2, 1, 11), 0, 0, []),
  (.istore 5, (5, 0, 0, 0), 0, 0, []),
  (.iload 5, (5, 0, 0, 0), 0, 0, []),
  (.ifCond .le 12, (13, 0, 0, 0), 0, 0, []),
  (.aload_n 0, (0, 0, 0, 0), 0, 0, []),
  (.iload 5, (5, 0, 0, 0), 0, 0, []),
  (.invokevirtual 473, (183, 2, 1, 11), 0, 0, []),
  (.goto 27, (27, 0, 0, 0), 0, 0, []),
  (.aload_n 0, (0, 0, 0, 0), 0, 0, []),
  (.iload 4, (4, 0, 0, 0), 0, 0, []),
  (.ifCond .eq 12, (21, 0, 0, 0), 0, 0, []),
  (.iload_n 1, (1, 0, 0, 0), 0, 0, []),
  (.iload_n 3, (3, 0, 0, 0), 0, 0, []),
  (.iload_n 2, (2, 0, 0, 0), 0, 0, []),
  (.invokestatic 476, (293, 3, 1, 99), 0, 0, []),
  (.goto 9, (25, 0, 0, 0), 0, 0, []),
  (.iload_n 1, (1, 0, 0, 0), 0, 0, []),
  (.iload_n 2, (2, 0, 0, 0), 0, 0, []),
  (.iload_n 3, (3, 0, 0, 0), 0, 0, []),
  (.invokestatic 476, (293, 3, 1, 99), 0, 0, []),
  (.nop, (0, 0, 0, 0), 0, 0, [(0, 0), (0, 0), (0, 0), (0, 0), (0, 0), (0, 0)]),
  (.invokevirtual 65, (185, 2, 1, 11), 0, 0, []),
  (.ireturn, (0, 0, 0, 0), 0, 0, [])]
def q_295 : List Nat := [0, 1, 2, 5, 6, 7, 10, 12, 14, 17, 18, 20, 23, 26, 27, 29, 32, 33, 34, 35, 38, 41, 42, 43, 44, 47, 47, 50, 51]
def m_295 : aMt := (yX12_digs, cX12_digs, 6, (some .int), 12, 2, 43, (0, 0), 4, k_295, q_295)
def k_296 : List aM := [(.iload_n 1, (1, 0, 0, 0), 0, 0, []),
  (.iconst 1, (0, 0, 0, 0), 1, 0, []),
  (.if_icmp .le 7, (5, 0, 0, 0), 0, 0, []),
  (.iconst 1, (0, 0, 0, 0), 1, 0, []),
  (.goto 4, (6, 0, 0, 0), 0, 0, []),
  (.iconst 0, (0, 0, 0, 0), 0, 0, []),
  (.nop, (0, 0, 0, 0), 0, 0, [(0, 1), (0, 1), (0, 0), (0, 0)]),
  (.istore_n 2, (2, 0, 0, 0), 0, 0, []),
  (.iload_n 1, (1, 0, 0, 0), 0, 0, []),
  (.iconst 2, (0, 0, 0, 0), 2, 0, []),
  (.irem, (0, 0, 0, 0), 0, 0, []),
  (.iconst 1, (0, 0, 0, 0), 1, 0, []),
  (.if_icmp .ne 7, (15, 0, 0, 0), 0, 0, []),
  (.iconst 1, (0, 0, 0, 0), 1, 0, []),
  (.goto 4, (16, 0, 0, 0), 0, 0, []),
  (.iconst 0, (0, 0, 0, 0), 0, 0, []),
  (.nop, (0, 0, 0, 0), 0, 0, [(0, 1), (0, 0), (0, 1), (0, 0)]),
  (.istore_n 3, (3, 0, 0, 0), 0, 0, []),
  (.iload_n 0, (0, 0, 0, 0), 0, 0, []),
  (.iload_n 2, (2, 0, 0, 0), 0, 0, []),
  (.ifCond .ne 7, (23, 0, 0, 0), 0, 0, []),
  (.iconst 1, (0, 0, 0, 0), 1, 0, []),
  (.goto 4, (24, 0, 0, 0), 0, 0, []),
  (.iconst 0, (0, 0, 0, 0), 0, 0, []),
  (.nop, (0, 0, 0, 0), 0, 0, [(0, 1), (0, 0), (0, 1), (0, 1)]),
  (.iload_n 3, (3, 0, 0, 0), 0, 0, []),
  (.invokestatic 476, (293, 3, 1, 99), 0, 0, []),
  (.iload_n 0, (0, 0, 0, 0), 0, 0, []),
  (.iload_n 2, (2, 0, 0, 0), 0, 0, []),
  (.iload_n 3, (3, 0, 0, 0), 0, 0, []),
  (.invokestatic 476, (293, 3, 1, 99), 0, 0, []),
  (.if_icmp .gt 30, (48, 0, 0, 0), 0, 0, []),
  (.iload_n 0, (0, 0, 0, 0), 0, 0, []),
  (.iload_n 3, (3, 0, 0, 0), 0, 0, []),
  (.ifCond .ne 7, (37, 0, 0, 0), 0, 0, []),
  (.iconst 1, (0, 0, 0, 0), 1, 0, []),
  (.goto 4, (38, 0, 0, 0), 0, 0, []),
  (.iconst 0, (0, 0, 0, 0), 0, 0, []),
  (.nop, (0, 0, 0, 0), 0, 0, [(0, 1), (0, 0), (0, 1), (0, 1)]),
  (.iload_n 2, (2, 0, 0, 0), 0, 0, []),
  (.invokestatic 476, (293, 3, 1, 99), 0, 0, []),
  (.iload_n 0, (0, 0, 0, 0), 0, 0, []),
  (.iload_n 3, (3, 0, 0, 0), 0, 0, []),
  (.iload_n 2, (2, 0, 0, 0), 0, 0, []),
  (.invokestatic 476, (293, 3, 1, 99), 0, 0, []),
  (.if_icmp .gt 7, (48, 0, 0, 0), 0, 0, []),
  (.iconst 1, (0, 0, 0, 0), 1, 0, []),
  (.goto 4, (49, 0, 0, 0), 0, 0, []),
  (.iconst 0, (0, 0, 0, 0), 0, 0, []),
  (.ireturn, (0, 0, 1, 0), 0, 0, [])]
def q_296 : List Nat := [0, 1, 2, 5, 6, 9, 10, 10, 11, 12, 13, 14, 15, 18, 19, 22, 23, 23, 24, 25, 26, 29, 30, 33, 34, 34, 35, 38, 39, 40, 41, 44, 47, 48, 49, 52, 53, 56, 57, 57, 58, 61, 62, 63, 64, 67, 70, 71, 74, 75, 76]
def m_296 : aMt := (yX12_isRest, cX12_isRest, 4, (some .boolean), 12, 1, 22, (0, 0), 2, k_296, q_296)
def k_297 : List aM := [(.aload_n 0, (0, 0, 0, 0), 0, 0, []),
  (.iconst 0, (0, 0, 0, 0), 0, 0, []),
  (.putfield 55, (11, 0, 0, 0), 0, 0, []),
  (.aload_n 0, (0, 0, 0, 0), 0, 0, []),
  (.iload_n 1, (1, 0, 0, 0), 0, 0, []),
  (.invokevirtual 470, (294, 2, 1, 11), 0, 0, []),
  (.istore_n 2, (2, 0, 0, 0), 0, 0, []),
  (.iload_n 2, (2, 0, 0, 0), 0, 0, []),
  (.ifCond .le 9, (13, 0, 0, 0), 0, 0, []),
  (.aload_n 0, (0, 0, 0, 0), 0, 0, []),
  (.iload_n 2, (2, 0, 0, 0), 0, 0, []),
  (.invokevirtual 61, (182, 2, 1, 11), 0, 0, []),
  (.ireturn, (0, 0, 0, 0), 0, 0, []),
  (.iconst 0, (0, 0, 0, 0), 0, 0, []),
  (.istore_n 3, (3, 0, 0, 0), 0, 0, []),
  (.iconst 0, (0, 0, 0, 0), 0, 0, []),
  (.istore 4, (4, 0, 0, 0), 0, 0, []),
  (.nop, (0, 0, 0, 0), 0, 0, [(0, 1), (0, 1), (0, 0), (0, 1), (0, 1)]),
  (.iload 4, (4, 0, 0, 0), 0, 0, []),
  (.iconst 4, (0, 0, 0, 0), 4, 0, []),
  (.if_icmp .ge 26, (34, 0, 0, 0), 0, 0, []),
  (.iload_n 3, (3, 0, 0, 0), 0, 0, []),
  (.iload_n 1, (1, 0, 0, 0), 0, 0, []),
  (.iload 4, (4, 0, 0, 0), 0, 0, []),
  (.invokestatic 480, (296, 2, 1, 99), 0, 0, []),
  (.ifCond .eq 7, (28, 0, 0, 0), 0, 0, []),
  (.iconst 1, (0, 0, 0, 0), 1, 0, []),
  (.goto 4, (29, 0, 0, 0), 0, 0, []),
  (.iconst 0, (0, 0, 0, 0), 0, 0, []),
  (.nop, (0, 0, 0, 0), 0, 0, [(0, 1), (0, 1), (0, 0), (0, 0), (0, 1)]),
  (.iadd, (0, 0, 0, 0), 0, 0, []),
  (.istore_n 3, (3, 0, 0, 0), 0, 0, []),
  (.iinc 4 1, (4, 0, 0, 0), 1, 0, []),
  (.goto (-26), (17, 0, 0, 0), 0, 0, []),
  (.aload_n 0, (0, 0, 0, 0), 0, 0, []),
  (.iload_n 3, (3, 0, 0, 0), 0, 0, []),
  (.invokevirtual 65, (185, 2, 1, 11), 0, 0, []),
  (.ireturn, (0, 0, 0, 0), 0, 0, [])]
def q_297 : List Nat := [0, 1, 2, 5, 6, 7, 10, 11, 12, 15, 16, 17, 20, 21, 22, 23, 24, 26, 26, 28, 29, 32, 33, 34, 36, 39, 42, 43, 46, 47, 47, 48, 49, 52, 55, 56, 57, 60, 61]
def m_297 : aMt := (yX12_rests, cX12_rests, 5, (some .int), 12, 2, 45, (0, 0), 1, k_297, q_297)
def k_298 : List aM := [(.aload_n 0, (0, 0, 0, 0), 0, 0, []),
  (.iconst 0, (0, 0, 0, 0), 0, 0, []),
  (.putfield 55, (11, 0, 0, 0), 0, 0, []),
  (.aload_n 0, (0, 0, 0, 0), 0, 0, []),
  (.iload_n 1, (1, 0, 0, 0), 0, 0, []),
  (.invokevirtual 470, (294, 2, 1, 11), 0, 0, []),
  (.istore_n 2, (2, 0, 0, 0), 0, 0, []),
  (.iload_n 2, (2, 0, 0, 0), 0, 0, []),
  (.ifCond .le 9, (13, 0, 0, 0), 0, 0, []),
  (.aload_n 0, (0, 0, 0, 0), 0, 0, []),
  (.iload_n 2, (2, 0, 0, 0), 0, 0, []),
  (.invokevirtual 61, (182, 2, 1, 11), 0, 0, []),
  (.ireturn, (0, 0, 0, 0), 0, 0, []),
  (.iconst 0, (0, 0, 0, 0), 0, 0, []),
  (.istore_n 3, (3, 0, 0, 0), 0, 0, []),
  (.nop, (0, 0, 0, 0), 0, 0, [(0, 1), (0, 1), (0, 0), (0, 1)]),
  (.iload_n 3, (3, 0, 0, 0), 0, 0, []),
  (.iconst 4, (0, 0, 0, 0), 4, 0, []),
  (.if_icmp .ge 32, (37, 0, 0, 0), 0, 0, []),
  (.iload_n 1, (1, 0, 0, 0), 0, 0, []),
  (.iload_n 3, (3, 0, 0, 0), 0, 0, []),
  (.invokestatic 480, (296, 2, 1, 99), 0, 0, []),
  (.ifCond .eq 18, (35, 0, 0, 0), 0, 0, []),
  (.aload_n 0, (0, 0, 0, 0), 0, 0, []),
  (.bipush 10, (0, 0, 0, 0), 10, 0, []),
  (.iload_n 3, (3, 0, 0, 0), 0, 0, []),
  (.iconst 2, (0, 0, 0, 0), 2, 0, []),
  (.idiv, (0, 0, 0, 0), 0, 0, []),
  (.imul, (0, 0, 0, 0), 0, 0, []),
  (.iload_n 3, (3, 0, 0, 0), 0, 0, []),
  (.iconst 2, (0, 0, 0, 0), 2, 0, []),
  (.irem, (0, 0, 0, 0), 0, 0, []),
  (.iadd, (0, 0, 0, 0), 0, 0, []),
  (.invokevirtual 65, (185, 2, 1, 11), 0, 0, []),
  (.ireturn, (0, 0, 0, 0), 0, 0, []),
  (.iinc 3 1, (3, 0, 0, 0), 1, 0, []),
  (.goto (-31), (15, 0, 0, 0), 0, 0, []),
  (.aload_n 0, (0, 0, 0, 0), 0, 0, []),
  (.bipush (-2), (0, 0, 0, 0), (-2), 0, []),
  (.invokevirtual 65, (185, 2, 1, 11), 0, 0, []),
  (.ireturn, (0, 0, 0, 0), 0, 0, [])]
def q_298 : List Nat := [0, 1, 2, 5, 6, 7, 10, 11, 12, 15, 16, 17, 20, 21, 22, 23, 23, 24, 25, 28, 29, 30, 33, 36, 37, 39, 40, 41, 42, 43, 44, 45, 46, 47, 50, 51, 54, 57, 58, 60, 63, 64]
def m_298 : aMt := (yX12_rest, cX12_rest, 4, (some .int), 12, 2, 45, (0, 0), 1, k_298, q_298)
def k_299 : List aM := [(.lconst 1, (0, 0, 0, 0), 0, 1, []),
  (.lstore_n 3, (3, 0, 0, 0), 0, 0, []),
  (.iconst 0, (0, 0, 0, 0), 0, 0, []),
  (.istore 5, (5, 0, 0, 0), 0, 0, []),
  (.nop, (0, 0, 0, 0), 0, 0, [(0, 1), (0, 0), (0, 1), (0, 1), (0, 0), (0, 1)]),
  (.iload 5, (5, 0, 0, 0), 0, 0, []),
  (.iload_n 2, (2, 0, 0, 0), 0, 0, []),
  (.if_icmp .ge 13, (14, 0, 0, 0), 0, 0, []),
  (.lload_n 3, (3, 0, 0, 0), 0, 0, []),
  (.lload_n 0, (0, 0, 0, 0), 0, 0, []),
  (.lmul, (0, 0, 0, 0), 0, 0, []),
  (.lstore_n 3, (3, 0, 0, 0), 0, 0, []),
  (.iinc 5 1, (5, 0, 0, 0), 1, 0, []),
  (.goto (-13), (4, 0, 0, 0), 0, 0, []),
  (.lload_n 3, (3, 0, 0, 0), 0, 0, []),
  (.lreturn, (0, 0, 0, 0), 0, 0, [])]
def q_299 : List Nat := [0, 1, 2, 3, 5, 5, 7, 8, 11, 12, 13, 14, 15, 18, 21, 22, 23]
def m_299 : aMt := (yX12_power, cX12_power, 6, (some .long), 12, 0, 0, (0, 0), 2, k_299, q_299)
def k_300 : List aM := [(.aload_n 0, (0, 0, 0, 0), 0, 0, []),
  (.iconst 0, (0, 0, 0, 0), 0, 0, []),
  (.putfield 55, (11, 0, 0, 0), 0, 0, []),
  (.aload_n 0, (0, 0, 0, 0), 0, 0, []),
  (.iload_n 1, (1, 0, 0, 0), 0, 0, []),
  (.invokevirtual 373, (227, 2, 1, 11), 0, 0, []),
  (.ifCond .ne 10, (12, 0, 0, 0), 0, 0, []),
  (.aload_n 0, (0, 0, 0, 0), 0, 0, []),
  (.iconst 1, (0, 0, 0, 0), 1, 0, []),
  (.invokevirtual 61, (182, 2, 1, 11), 0, 0, []),
  (.i2l, (0, 0, 0, 0), 0, 0, []),
  (.lreturn, (0, 0, 0, 0), 0, 0, []),
  (.aload_n 0, (0, 0, 0, 0), 0, 0, []),
  (.bipush 100, (0, 0, 0, 0), 100, 0, []),
  (.aload_n 0, (0, 0, 0, 0), 0, 0, []),
  (.getfield 332, (11, 3, 2, 0), 0, 0, []),
  (.getfield 250, (10, 3, 0, 0), 0, 0, []),
  (.isub, (0, 0, 0, 0), 0, 0, []),
  (.i2l, (0, 0, 0, 0), 0, 0, []),
  (.aload_n 0, (0, 0, 0, 0), 0, 0, []),
  (.getfield 17, (11, 16, 2, 0), 0, 0, []),
  (.iload_n 1, (1, 0, 0, 0), 0, 0, []),
  (.iaload, (13, 0, 0, 0), 0, 0, []),
  (.iconst 1, (0, 0, 0, 0), 1, 0, []),
  (.iadd, (0, 0, 0, 0), 0, 0, []),
  (.invokestatic 483, (299, 2, 2, 99), 0, 0, []),
  (.ldc2_w 487, (0, 0, 0, 0), 0, 100, []),
  (.aload_n 0, (0, 0, 0, 0), 0, 0, []),
  (.getfield 17, (11, 16, 2, 0), 0, 0, []),
  (.iload_n 1, (1, 0, 0, 0), 0, 0, []),
  (.iaload, (13, 0, 0, 0), 0, 0, []),
  (.iconst 1, (0, 0, 0, 0), 1, 0, []),
  (.iadd, (0, 0, 0, 0), 0, 0, []),
  (.invokestatic 483, (299, 2, 2, 99), 0, 0, []),
  (.iload_n 2, (2, 0, 0, 0), 0, 0, []),
  (.invokevirtual 489, (190, 4, 2, 11), 0, 0, []),
  (.lreturn, (0, 0, 0, 0), 0, 0, [])]
def q_300 : List Nat := [0, 1, 2, 5, 6, 7, 10, 13, 14, 15, 18, 19, 20, 21, 23, 24, 27, 30, 31, 32, 33, 36, 37, 38, 39, 40, 43, 46, 47, 50, 51, 52, 53, 54, 57, 58, 61, 62]
def m_300 : aMt := (yX12_odds, cX12_odds, 3, (some .long), 12, 2, 54, (0, 0), 2, k_300, q_300)
def k_301 : List aM := [(.aload_n 0, (0, 0, 0, 0), 0, 0, []),
  (.iconst 0, (0, 0, 0, 0), 0, 0, []),
  (.putfield 55, (11, 0, 0, 0), 0, 0, []),
  (.aload_n 0, (0, 0, 0, 0), 0, 0, []),
  (.getfield 332, (11, 3, 3, 0), 0, 0, []),
  (.ifnonnull 10, (11, 0, 0, 0), 0, 0, []),
  (.aload_n 0, (0, 0, 0, 0), 0, 0, []),
  (.iconst 1, (0, 0, 0, 0), 1, 0, []),
  (.invokevirtual 61, (182, 2, 1, 11), 0, 0, []),
  (.i2l, (0, 0, 0, 0), 0, 0, []),
  (.lreturn, (0, 0, 0, 0), 0, 0, []),
  (.iconst 0, (0, 0, 0, 0), 0, 0, []),
  (.istore_n 2, (2, 0, 0, 0), 0, 0, []),
  (.iconst 0, (0, 0, 0, 0), 0, 0, []),
  (.istore_n 3, (3, 0, 0, 0), 0, 0, []),
  (.nop, (0, 0, 0, 0), 0, 0, [(0, 1), (0, 1), (0, 1), (0, 1), (0, 0), (0, 0)]),
  (.iload_n 3, (3, 0, 0, 0), 0, 0, []),
  (.aload_n 0, (0, 0, 0, 0), 0, 0, []),
  (.getfield 332, (11, 3, 2, 0), 0, 0, []),
  (.getfield 295, (10, 8, 0, 0), 0, 0, []),
  (.if_icmp .ge 30, (38, 0, 0, 0), 0, 0, []),
  (.aload_n 0, (0, 0, 0, 0), 0, 0, []),
  (.getfield 17, (11, 16, 2, 0), 0, 0, []),
  (.iload_n 3, (3, 0, 0, 0), 0, 0, []),
  (.iaload, (13, 0, 0, 0), 0, 0, []),
  (.iconst 1, (0, 0, 0, 0), 1, 0, []),
  (.iadd, (0, 0, 0, 0), 0, 0, []),
  (.iload_n 2, (2, 0, 0, 0), 0, 0, []),
  (.if_icmp .le 12, (36, 0, 0, 0), 0, 0, []),
  (.aload_n 0, (0, 0, 0, 0), 0, 0, []),
  (.getfield 17, (11, 16, 2, 0), 0, 0, []),
  (.iload_n 3, (3, 0, 0, 0), 0, 0, []),
  (.iaload, (13, 0, 0, 0), 0, 0, []),
  (.iconst 1, (0, 0, 0, 0), 1, 0, []),
  (.iadd, (0, 0, 0, 0), 0, 0, []),
  (.istore_n 2, (2, 0, 0, 0), 0, 0, []),
  (.iinc 3 1, (3, 0, 0, 0), 1, 0, []),
  (.goto (-35), (15, 0, 0, 0), 0, 0, []),
  (.lconst 0, (0, 0, 0, 0), 0, 0, []),
  (.lstore_n 3, (3, 0, 0, 0), 0, 0, []),
  (.iconst 0, (0, 0, 0, 0), 0, 0, []),
  (.istore 5, (5, 0, 0, 0), 0, 0, []),
  (.nop, (0, 0, 0, 0), 0, 0, [(0, 1), (0, 1), (0, 1), (0, 1), (0, 0), (0, 1)]),
  (.iload 5, (5, 0, 0, 0), 0, 0, []),
  (.aload_n 0, (0, 0, 0, 0), 0, 0, []),
  (.getfield 332, (11, 3, 2, 0), 0, 0, []),
  (.getfield 295, (10, 8, 0, 0), 0, 0, []),
  (.if_icmp .ge 53, (77, 0, 0, 0), 0, 0, []),
  (.lload_n 3, (3, 0, 0, 0), 0, 0, []),
  (.bipush 100, (0, 0, 0, 0), 100, 0, []),
  (.aload_n 0, (0, 0, 0, 0), 0, 0, []),
  (.getfield 332, (11, 3, 2, 0), 0, 0, []),
  (.getfield 250, (10, 3, 0, 0), 0, 0, []),
  (.isub, (0, 0, 0, 0), 0, 0, []),
  (.i2l, (0, 0, 0, 0), 0, 0, []),
  (.aload_n 0, (0, 0, 0, 0), 0, 0, []),
  (.getfield 17, (11, 16, 2, 0), 0, 0, []),
  (.iload 5, (5, 0, 0, 0), 0, 0, []),
  (.iaload, (13, 0, 0, 0), 0, 0, []),
  (.iconst 1, (0, 0, 0, 0), 1, 0, []),
  (.iadd, (0, 0, 0, 0), 0, 0, []),
  (.invokestatic 483, (299, 2, 2, 99), 0, 0, []),
  (.ldc2_w 487, (0, 0, 0, 0), 0, 100, []),
  (.iload_n 2, (2, 0, 0, 0), 0, 0, []),
  (.aload_n 0, (0, 0, 0, 0), 0, 0, []),
  (.getfield 17, (11, 16, 2, 0), 0, 0, []),
  (.iload 5, (5, 0, 0, 0), 0, 0, []),
  (.iaload, (13, 0, 0, 0), 0, 0, []),
  (.isub, (0, 0, 0, 0), 0, 0, []),
  (.iconst 1, (0, 0, 0, 0), 1, 0, []),
  (.isub, (0, 0, 0, 0), 0, 0, []),
  (.invokestatic 483, (299, 2, 2, 99), 0, 0, []),
  (.lmul, (0, 0, 0, 0), 0, 0, []),
  (.ladd, (0, 0, 0, 0), 0, 0, []),
  (.lstore_n 3, (3, 0, 0, 0), 0, 0, []),
  (.iinc 5 1, (5, 0, 0, 0), 1, 0, []),
  (.goto (-59), (42, 0, 0, 0), 0, 0, []),
  (.aload_n 0, (0, 0, 0, 0), 0, 0, []),
  (.lload_n 3, (3, 0, 0, 0), 0, 0, []),
  (.ldc2_w 487, (0, 0, 0, 0), 0, 100, []),
  (.iload_n 2, (2, 0, 0, 0), 0, 0, []),
  (.invokestatic 483, (299, 2, 2, 99), 0, 0, []),
  (.iload_n 1, (1, 0, 0, 0), 0, 0, []),
  (.invokevirtual 489, (190, 4, 2, 11), 0, 0, []),
  (.lreturn, (0, 0, 0, 0), 0, 0, [])]
def q_301 : List Nat := [0, 1, 2, 5, 6, 9, 12, 13, 14, 17, 18, 19, 20, 21, 22, 23, 23, 24, 25, 28, 31, 34, 35, 38, 39, 40, 41, 42, 43, 46, 47, 50, 51, 52, 53, 54, 55, 58, 61, 62, 63, 64, 66, 66, 68, 69, 72, 75, 78, 79, 81, 82, 85, 88, 89, 90, 91, 94, 96, 97, 98, 99, 102, 105, 106, 107, 110, 112, 113, 114, 115, 116, 119, 120, 121, 122, 125, 128, 129, 130, 133, 134, 137, 138, 141, 142]
def m_301 : aMt := (yX12_mean, cX12_mean, 6, (some .long), 12, 2, 54, (0, 0), 1, k_301, q_301)
def k_302 : List aM := [(.aload_n 0, (0, 0, 0, 0), 0, 0, []),
  (.iconst 0, (0, 0, 0, 0), 0, 0, []),
  (.putfield 55, (11, 0, 0, 0), 0, 0, []),
  (.aload_n 0, (0, 0, 0, 0), 0, 0, []),
  (.getfield 332, (11, 3, 3, 0), 0, 0, []),
  (.ifnonnull 9, (10, 0, 0, 0), 0, 0, []),
  (.aload_n 0, (0, 0, 0, 0), 0, 0, []),
  (.iconst 1, (0, 0, 0, 0), 1, 0, []),
  (.invokevirtual 61, (182, 2, 1, 11), 0, 0, []),
  (.ireturn, (0, 0, 0, 0), 0, 0, []),
  (.iload_n 1, (1, 0, 0, 0), 0, 0, []),
  (.iconst 0, (0, 0, 0, 0), 0, 0, []),
  (.ldc_w 493, (0, 0, 0, 0), 65536, 0, []),
  (.invokestatic 137, (187, 3, 1, 99), 0, 0, []),
  (.ifCond .ne 9, (19, 0, 0, 0), 0, 0, []),
  (.aload_n 0, (0, 0, 0, 0), 0, 0, []),
  (.iconst 2, (0, 0, 0, 0), 2, 0, []),
  (.invokevirtual 61, (182, 2, 1, 11), 0, 0, []),
  (.ireturn, (0, 0, 0, 0), 0, 0, []),
  (.iload_n 1, (1, 0, 0, 0), 0, 0, []),
  (.istore_n 2, (2, 0, 0, 0), 0, 0, []),
  (.iconst 0, (0, 0, 0, 0), 0, 0, []),
  (.istore_n 3, (3, 0, 0, 0), 0, 0, []),
  (.iconst 0, (0, 0, 0, 0), 0, 0, []),
  (.istore 4, (4, 0, 0, 0), 0, 0, []),
  (.nop, (0, 0, 0, 0), 0, 0, [(0, 1), (0, 0), (0, 1), (0, 1), (0, 1), (0, 0), (0, 0)]),
  (.iload 4, (4, 0, 0, 0), 0, 0, []),
  (.aload_n 0, (0, 0, 0, 0), 0, 0, []),
  (.getfield 332, (11, 3, 2, 0), 0, 0, []),
  (.getfield 295, (10, 8, 0, 0), 0, 0, []),
  (.if_icmp .ge 82, (76, 0, 0, 0), 0, 0, []),
  (.iconst 1, (0, 0, 0, 0), 1, 0, []),
  (.istore 5, (5, 0, 0, 0), 0, 0, []),
  (.iconst 0, (0, 0, 0, 0), 0, 0, []),
  (.istore 6, (6, 0, 0, 0), 0, 0, []),
  (.nop, (0, 0, 0, 0), 0, 0, [(0, 1), (0, 0), (0, 1), (0, 1), (0, 1), (0, 1), (0, 1)]),
  (.iload 6, (6, 0, 0, 0), 0, 0, []),
  (.aload_n 0, (0, 0, 0, 0), 0, 0, []),
  (.getfield 17, (11, 16, 2, 0), 0, 0, []),
  (.iload 4, (4, 0, 0, 0), 0, 0, []),
  (.iaload, (13, 0, 0, 0), 0, 0, []),
  (.if_icmp .gt 42, (63, 0, 0, 0), 0, 0, []),
  (.ldc2_w 494, (0, 0, 0, 0), 0, 75, []),
  (.iload_n 2, (2, 0, 0, 0), 0, 0, []),
  (.i2l, (0, 0, 0, 0), 0, 0, []),
  (.lmul, (0, 0, 0, 0), 0, 0, []),
  (.ldc2_w 496, (0, 0, 0, 0), 0, 74, []),
  (.ladd, (0, 0, 0, 0), 0, 0, []),
  (.ldc2_w 498, (0, 0, 0, 0), 0, 65537, []),
  (.lrem, (0, 0, 0, 0), 0, 0, []),
  (.l2i, (0, 0, 0, 0), 0, 0, []),
  (.istore_n 2, (2, 0, 0, 0), 0, 0, []),
  (.iload_n 2, (2, 0, 0, 0), 0, 0, []),
  (.bipush 100, (0, 0, 0, 0), 100, 0, []),
  (.irem, (0, 0, 0, 0), 0, 0, []),
  (.aload_n 0, (0, 0, 0, 0), 0, 0, []),
  (.getfield 332, (11, 3, 2, 0), 0, 0, []),
  (.getfield 250, (10, 3, 0, 0), 0, 0, []),
  (.if_icmp .ge 6, (61, 0, 0, 0), 0, 0, []),
  (.iconst 0, (0, 0, 0, 0), 0, 0, []),
  (.istore 5, (5, 0, 0, 0), 0, 0, []),
  (.iinc 6 1, (6, 0, 0, 0), 1, 0, []),
  (.goto (-48), (35, 0, 0, 0), 0, 0, []),
  (.iload_n 3, (3, 0, 0, 0), 0, 0, []),
  (.iload 5, (5, 0, 0, 0), 0, 0, []),
  (.ifCond .eq 10, (70, 0, 0, 0), 0, 0, []),
  (.iconst 1, (0, 0, 0, 0), 1, 0, []),
  (.iload 4, (4, 0, 0, 0), 0, 0, []),
  (.ishl, (0, 0, 0, 0), 0, 0, []),
  (.goto 4, (71, 0, 0, 0), 0, 0, []),
  (.iconst 0, (0, 0, 0, 0), 0, 0, []),
  (.nop, (0, 0, 0, 0), 0, 0, [(0, 1), (0, 0), (0, 1), (0, 0), (0, 1), (0, 0), (0, 0)]),
  (.ior, (0, 0, 0, 0), 0, 0, []),
  (.istore_n 3, (3, 0, 0, 0), 0, 0, []),
  (.iinc 4 1, (4, 0, 0, 0), 1, 0, []),
  (.goto (-88), (25, 0, 0, 0), 0, 0, []),
  (.aload_n 0, (0, 0, 0, 0), 0, 0, []),
  (.iload_n 3, (3, 0, 0, 0), 0, 0, []),
  (.invokevirtual 65, (185, 2, 1, 11), 0, 0, []),
  (.ireturn, (0, 0, 0, 0), 0, 0, [])]
def q_302 : List Nat := [0, 1, 2, 5, 6, 9, 12, 13, 14, 17, 18, 19, 20, 23, 26, 29, 30, 31, 34, 35, 36, 37, 38, 39, 40, 42, 42, 44, 45, 48, 51, 54, 55, 57, 58, 60, 60, 62, 63, 66, 68, 69, 72, 75, 76, 77, 78, 81, 82, 85, 86, 87, 88, 89, 91, 92, 93, 96, 99, 102, 103, 105, 108, 111, 112, 114, 117, 118, 120, 121, 124, 125, 125, 126, 127, 130, 133, 134, 135, 138, 139]
def m_302 : aMt := (yX12_drawn, cX12_drawn, 7, (some .int), 12, 1, 22, (0, 0), 1, k_302, q_302)
def k_303 : List aM := [(.aload_n 0, (0, 0, 0, 0), 0, 0, []),
  (.getfield 340, (11, 20, 0, 0), 0, 0, []),
  (.bipush 16, (0, 0, 0, 0), 16, 0, []),
  (.if_icmp .ne 44, (28, 0, 0, 0), 0, 0, []),
  (.iconst 0, (0, 0, 0, 0), 0, 0, []),
  (.istore_n 1, (1, 0, 0, 0), 0, 0, []),
  (.nop, (0, 0, 0, 0), 0, 0, [(0, 1), (0, 1)]),
  (.iload_n 1, (1, 0, 0, 0), 0, 0, []),
  (.sipush 2175, (0, 0, 0, 0), 2175, 0, []),
  (.if_icmp .ge 25, (22, 0, 0, 0), 0, 0, []),
  (.aload_n 0, (0, 0, 0, 0), 0, 0, []),
  (.getfield 24, (11, 18, 2, 0), 0, 0, []),
  (.iload_n 1, (1, 0, 0, 0), 0, 0, []),
  (.aload_n 0, (0, 0, 0, 0), 0, 0, []),
  (.getfield 24, (11, 18, 2, 0), 0, 0, []),
  (.iload_n 1, (1, 0, 0, 0), 0, 0, []),
  (.sipush 145, (0, 0, 0, 0), 145, 0, []),
  (.iadd, (0, 0, 0, 0), 0, 0, []),
  (.iaload, (13, 0, 0, 0), 0, 0, []),
  (.iastore, (0, 0, 0, 0), 0, 0, []),
  (.iinc 1 1, (1, 0, 0, 0), 1, 0, []),
  (.goto (-26), (6, 0, 0, 0), 0, 0, []),
  (.aload_n 0, (0, 0, 0, 0), 0, 0, []),
  (.dup, (0, 0, 0, 0), 0, 0, []),
  (.getfield 340, (11, 20, 0, 0), 0, 0, []),
  (.iconst 1, (0, 0, 0, 0), 1, 0, []),
  (.isub, (0, 0, 0, 0), 0, 0, []),
  (.putfield 340, (11, 20, 0, 0), 0, 0, []),
  (.iconst 0, (0, 0, 0, 0), 0, 0, []),
  (.istore_n 1, (1, 0, 0, 0), 0, 0, []),
  (.nop, (0, 0, 0, 0), 0, 0, [(0, 1), (0, 1)]),
  (.iload_n 1, (1, 0, 0, 0), 0, 0, []),
  (.sipush 145, (0, 0, 0, 0), 145, 0, []),
  (.if_icmp .ge 30, (49, 0, 0, 0), 0, 0, []),
  (.aload_n 0, (0, 0, 0, 0), 0, 0, []),
  (.getfield 24, (11, 18, 2, 0), 0, 0, []),
  (.sipush 145, (0, 0, 0, 0), 145, 0, []),
  (.aload_n 0, (0, 0, 0, 0), 0, 0, []),
  (.getfield 340, (11, 20, 0, 0), 0, 0, []),
  (.imul, (0, 0, 0, 0), 0, 0, []),
  (.iload_n 1, (1, 0, 0, 0), 0, 0, []),
  (.iadd, (0, 0, 0, 0), 0, 0, []),
  (.aload_n 0, (0, 0, 0, 0), 0, 0, []),
  (.getfield 17, (11, 16, 2, 0), 0, 0, []),
  (.iload_n 1, (1, 0, 0, 0), 0, 0, []),
  (.iaload, (13, 0, 0, 0), 0, 0, []),
  (.iastore, (0, 0, 0, 0), 0, 0, []),
  (.iinc 1 1, (1, 0, 0, 0), 1, 0, []),
  (.goto (-31), (30, 0, 0, 0), 0, 0, []),
  (.aload_n 0, (0, 0, 0, 0), 0, 0, []),
  (.dup, (0, 0, 0, 0), 0, 0, []),
  (.getfield 340, (11, 20, 0, 0), 0, 0, []),
  (.iconst 1, (0, 0, 0, 0), 1, 0, []),
  (.iadd, (0, 0, 0, 0), 0, 0, []),
  (.putfield 340, (11, 20, 0, 0), 0, 0, []),
  (.return_, (0, 0, 0, 0), 0, 0, [])]
def q_303 : List Nat := [0, 1, 4, 6, 9, 10, 11, 11, 12, 15, 18, 19, 22, 23, 24, 27, 28, 31, 32, 33, 34, 37, 40, 41, 42, 45, 46, 47, 50, 51, 52, 52, 53, 56, 59, 60, 63, 66, 67, 70, 71, 72, 73, 74, 77, 78, 79, 80, 83, 86, 87, 88, 91, 92, 93, 96, 97]
def m_303 : aMt := (yX12_remembers, cX12_remembers, 2, none, 12, 0, 0, (0, 0), 0, k_303, q_303)
def k_304 : List aM := [(.iconst 0, (0, 0, 0, 0), 0, 0, []),
  (.istore_n 1, (1, 0, 0, 0), 0, 0, []),
  (.nop, (0, 0, 0, 0), 0, 0, [(0, 1), (0, 1)]),
  (.iload_n 1, (1, 0, 0, 0), 0, 0, []),
  (.sipush 145, (0, 0, 0, 0), 145, 0, []),
  (.if_icmp .ge 21, (16, 0, 0, 0), 0, 0, []),
  (.aload_n 0, (0, 0, 0, 0), 0, 0, []),
  (.getfield 17, (11, 16, 2, 0), 0, 0, []),
  (.iload_n 1, (1, 0, 0, 0), 0, 0, []),
  (.aload_n 0, (0, 0, 0, 0), 0, 0, []),
  (.getfield 21, (11, 17, 2, 0), 0, 0, []),
  (.iload_n 1, (1, 0, 0, 0), 0, 0, []),
  (.iaload, (13, 0, 0, 0), 0, 0, []),
  (.iastore, (0, 0, 0, 0), 0, 0, []),
  (.iinc 1 1, (1, 0, 0, 0), 1, 0, []),
  (.goto (-22), (2, 0, 0, 0), 0, 0, []),
  (.return_, (0, 0, 0, 0), 0, 0, [])]
def q_304 : List Nat := [0, 1, 2, 2, 3, 6, 9, 10, 13, 14, 15, 18, 19, 20, 21, 24, 27, 28]
def m_304 : aMt := (yX12_remains, cX12_remains, 2, none, 12, 0, 0, (0, 0), 0, k_304, q_304)
def k_305 : List aM := [(.aload_n 0, (0, 0, 0, 0), 0, 0, []),
  (.iconst 0, (0, 0, 0, 0), 0, 0, []),
  (.putfield 55, (11, 0, 0, 0), 0, 0, []),
  (.aload_n 0, (0, 0, 0, 0), 0, 0, []),
  (.getfield 332, (11, 3, 3, 0), 0, 0, []),
  (.ifnonnull 9, (10, 0, 0, 0), 0, 0, []),
  (.aload_n 0, (0, 0, 0, 0), 0, 0, []),
  (.iconst 1, (0, 0, 0, 0), 1, 0, []),
  (.invokevirtual 61, (182, 2, 1, 11), 0, 0, []),
  (.ireturn, (0, 0, 0, 0), 0, 0, []),
  (.aload_n 0, (0, 0, 0, 0), 0, 0, []),
  (.getfield 17, (11, 16, 2, 0), 0, 0, []),
  (.bipush 16, (0, 0, 0, 0), 16, 0, []),
  (.iaload, (13, 0, 0, 0), 0, 0, []),
  (.sipush 999, (0, 0, 0, 0), 999, 0, []),
  (.if_icmp .ne 9, (20, 0, 0, 0), 0, 0, []),
  (.aload_n 0, (0, 0, 0, 0), 0, 0, []),
  (.iconst 3, (0, 0, 0, 0), 3, 0, []),
  (.invokevirtual 61, (182, 2, 1, 11), 0, 0, []),
  (.ireturn, (0, 0, 0, 0), 0, 0, []),
  (.aload_n 0, (0, 0, 0, 0), 0, 0, []),
  (.invokevirtual 500, (303, 1, 0, 11), 0, 0, []),
  (.aload_n 0, (0, 0, 0, 0), 0, 0, []),
  (.invokevirtual 358, (231, 1, 0, 11), 0, 0, []),
  (.aload_n 0, (0, 0, 0, 0), 0, 0, []),
  (.invokevirtual 361, (237, 1, 1, 11), 0, 0, []),
  (.istore_n 1, (1, 0, 0, 0), 0, 0, []),
  (.aload_n 0, (0, 0, 0, 0), 0, 0, []),
  (.invokevirtual 503, (304, 1, 0, 11), 0, 0, []),
  (.aload_n 0, (0, 0, 0, 0), 0, 0, []),
  (.iload_n 1, (1, 0, 0, 0), 0, 0, []),
  (.invokevirtual 65, (185, 2, 1, 11), 0, 0, []),
  (.ireturn, (0, 0, 0, 0), 0, 0, [])]
def q_305 : List Nat := [0, 1, 2, 5, 6, 9, 12, 13, 14, 17, 18, 19, 22, 24, 25, 28, 31, 32, 33, 36, 37, 38, 41, 42, 45, 46, 49, 50, 51, 54, 55, 56, 59, 60]
def m_305 : aMt := (yX12_night, cX12_night, 2, (some .int), 12, 3, 66, (0, 0), 0, k_305, q_305)
def k_306 : List aM := [(.aload_n 0, (0, 0, 0, 0), 0, 0, []),
  (.iconst 0, (0, 0, 0, 0), 0, 0, []),
  (.putfield 55, (11, 0, 0, 0), 0, 0, []),
  (.aload_n 0, (0, 0, 0, 0), 0, 0, []),
  (.iload_n 1, (1, 0, 0, 0), 0, 0, []),
  (.iload_n 2, (2, 0, 0, 0), 0, 0, []),
  (.iload_n 3, (3, 0, 0, 0), 0, 0, []),
  (.invokevirtual 439, (276, 4, 1, 11), 0, 0, []),
  (.istore 4, (4, 0, 0, 0), 0, 0, []),
  (.iload 4, (4, 0, 0, 0), 0, 0, []),
  (.ifCond .le 10, (15, 0, 0, 0), 0, 0, []),
  (.aload_n 0, (0, 0, 0, 0), 0, 0, []),
  (.iload 4, (4, 0, 0, 0), 0, 0, []),
  (.invokevirtual 61, (182, 2, 1, 11), 0, 0, []),
  (.ireturn, (0, 0, 0, 0), 0, 0, []),
  (.aload_n 0, (0, 0, 0, 0), 0, 0, []),
  (.invokevirtual 500, (303, 1, 0, 11), 0, 0, []),
  (.aload_n 0, (0, 0, 0, 0), 0, 0, []),
  (.invokevirtual 358, (231, 1, 0, 11), 0, 0, []),
  (.iload_n 1, (1, 0, 0, 0), 0, 0, []),
  (.iload_n 2, (2, 0, 0, 0), 0, 0, []),
  (.invokestatic 367, (229, 2, 1, 99), 0, 0, []),
  (.istore 5, (5, 0, 0, 0), 0, 0, []),
  (.aload_n 0, (0, 0, 0, 0), 0, 0, []),
  (.iload 5, (5, 0, 0, 0), 0, 0, []),
  (.iload_n 3, (3, 0, 0, 0), 0, 0, []),
  (.invokevirtual 443, (275, 3, 1, 11), 0, 0, []),
  (.istore 6, (6, 0, 0, 0), 0, 0, []),
  (.iconst 0, (0, 0, 0, 0), 0, 0, []),
  (.istore 7, (7, 0, 0, 0), 0, 0, []),
  (.nop, (0, 0, 0, 0), 0, 0, [(0, 1), (0, 0), (0, 0), (0, 1), (0, 0), (0, 1), (0, 1), (0, 1)]),
  (.iload 7, (7, 0, 0, 0), 0, 0, []),
  (.aload_n 0, (0, 0, 0, 0), 0, 0, []),
  (.invokevirtual 415, (266, 1, 1, 11), 0, 0, []),
  (.if_icmp .gt 54, (61, 0, 0, 0), 0, 0, []),
  (.aload_n 0, (0, 0, 0, 0), 0, 0, []),
  (.iload 7, (7, 0, 0, 0), 0, 0, []),
  (.invokevirtual 418, (267, 2, 1, 11), 0, 0, []),
  (.ifCond .eq 39, (59, 0, 0, 0), 0, 0, []),
  (.iload 5, (5, 0, 0, 0), 0, 0, []),
  (.iload 7, (7, 0, 0, 0), 0, 0, []),
  (.invokestatic 385, (191, 2, 1, 99), 0, 0, []),
  (.iload_n 3, (3, 0, 0, 0), 0, 0, []),
  (.if_icmp .le 6, (45, 0, 0, 0), 0, 0, []),
  (.goto 25, (59, 0, 0, 0), 0, 0, []),
  (.aload_n 0, (0, 0, 0, 0), 0, 0, []),
  (.getfield 17, (11, 16, 2, 0), 0, 0, []),
  (.bipush 81, (0, 0, 0, 0), 81, 0, []),
  (.iload 7, (7, 0, 0, 0), 0, 0, []),
  (.iadd, (0, 0, 0, 0), 0, 0, []),
  (.iconst 1, (0, 0, 0, 0), 1, 0, []),
  (.iastore, (0, 0, 0, 0), 0, 0, []),
  (.aload_n 0, (0, 0, 0, 0), 0, 0, []),
  (.getfield 17, (11, 16, 2, 0), 0, 0, []),
  (.bipush 17, (0, 0, 0, 0), 17, 0, []),
  (.iload 7, (7, 0, 0, 0), 0, 0, []),
  (.iadd, (0, 0, 0, 0), 0, 0, []),
  (.iconst 0, (0, 0, 0, 0), 0, 0, []),
  (.iastore, (0, 0, 0, 0), 0, 0, []),
  (.iinc 7 1, (7, 0, 0, 0), 1, 0, []),
  (.goto (-57), (30, 0, 0, 0), 0, 0, []),
  (.iconst 0, (0, 0, 0, 0), 0, 0, []),
  (.istore 7, (7, 0, 0, 0), 0, 0, []),
  (.nop, (0, 0, 0, 0), 0, 0, [(0, 1), (0, 0), (0, 0), (0, 0), (0, 0), (0, 0), (0, 1), (0, 1)]),
  (.iload 7, (7, 0, 0, 0), 0, 0, []),
  (.aload_n 0, (0, 0, 0, 0), 0, 0, []),
  (.getfield 332, (11, 3, 2, 0), 0, 0, []),
  (.getfield 295, (10, 8, 0, 0), 0, 0, []),
  (.if_icmp .ge 30, (82, 0, 0, 0), 0, 0, []),
  (.iload 6, (6, 0, 0, 0), 0, 0, []),
  (.iload 7, (7, 0, 0, 0), 0, 0, []),
  (.invokestatic 355, (188, 2, 1, 99), 0, 0, []),
  (.ifCond .eq 14, (80, 0, 0, 0), 0, 0, []),
  (.aload_n 0, (0, 0, 0, 0), 0, 0, []),
  (.getfield 17, (11, 16, 2, 0), 0, 0, []),
  (.bipush 8, (0, 0, 0, 0), 8, 0, []),
  (.iload 7, (7, 0, 0, 0), 0, 0, []),
  (.iadd, (0, 0, 0, 0), 0, 0, []),
  (.iconst 1, (0, 0, 0, 0), 1, 0, []),
  (.iastore, (0, 0, 0, 0), 0, 0, []),
  (.iinc 7 1, (7, 0, 0, 0), 1, 0, []),
  (.goto (-36), (63, 0, 0, 0), 0, 0, []),
  (.aload_n 0, (0, 0, 0, 0), 0, 0, []),
  (.iload 6, (6, 0, 0, 0), 0, 0, []),
  (.invokevirtual 65, (185, 2, 1, 11), 0, 0, []),
  (.ireturn, (0, 0, 0, 0), 0, 0, [])]
def q_306 : List Nat := [0, 1, 2, 5, 6, 7, 8, 9, 12, 14, 16, 19, 20, 22, 25, 26, 27, 30, 31, 34, 35, 36, 39, 41, 42, 44, 45, 48, 50, 51, 53, 53, 55, 56, 59, 62, 63, 65, 68, 71, 73, 75, 78, 79, 82, 85, 86, 89, 91, 93, 94, 95, 96, 97, 100, 102, 104, 105, 106, 107, 110, 113, 114, 116, 116, 118, 119, 122, 125, 128, 130, 132, 135, 138, 139, 142, 144, 146, 147, 148, 149, 152, 155, 156, 158, 161, 162]
def m_306 : aMt := (yX12_charge, cX12_charge, 8, (some .int), 12, 3, 67, (0, 0), 3, k_306, q_306)
def k_307 : List aM := [(.aload_n 0, (0, 0, 0, 0), 0, 0, []),
  (.iconst 0, (0, 0, 0, 0), 0, 0, []),
  (.putfield 55, (11, 0, 0, 0), 0, 0, []),
  (.aload_n 0, (0, 0, 0, 0), 0, 0, []),
  (.iload_n 1, (1, 0, 0, 0), 0, 0, []),
  (.invokevirtual 379, (228, 2, 1, 11), 0, 0, []),
  (.ifCond .eq 27, (19, 0, 0, 0), 0, 0, []),
  (.aload_n 0, (0, 0, 0, 0), 0, 0, []),
  (.iload_n 2, (2, 0, 0, 0), 0, 0, []),
  (.iload_n 3, (3, 0, 0, 0), 0, 0, []),
  (.invokevirtual 364, (226, 3, 1, 11), 0, 0, []),
  (.ifCond .eq 18, (19, 0, 0, 0), 0, 0, []),
  (.aload_n 0, (0, 0, 0, 0), 0, 0, []),
  (.getfield 332, (11, 3, 2, 0), 0, 0, []),
  (.iload_n 2, (2, 0, 0, 0), 0, 0, []),
  (.iload_n 3, (3, 0, 0, 0), 0, 0, []),
  (.invokestatic 367, (229, 2, 1, 99), 0, 0, []),
  (.invokevirtual 203, (178, 2, 1, 10), 0, 0, []),
  (.ifCond .eq 9, (24, 0, 0, 0), 0, 0, []),
  (.nop, (0, 0, 0, 0), 0, 0, [(0, 1), (0, 0), (0, 0), (0, 0), (0, 0)]),
  (.aload_n 0, (0, 0, 0, 0), 0, 0, []),
  (.iconst 1, (0, 0, 0, 0), 1, 0, []),
  (.invokevirtual 61, (182, 2, 1, 11), 0, 0, []),
  (.ireturn, (0, 0, 0, 0), 0, 0, []),
  (.aload_n 0, (0, 0, 0, 0), 0, 0, []),
  (.getfield 17, (11, 16, 2, 0), 0, 0, []),
  (.bipush 12, (0, 0, 0, 0), 12, 0, []),
  (.iload_n 1, (1, 0, 0, 0), 0, 0, []),
  (.iadd, (0, 0, 0, 0), 0, 0, []),
  (.iaload, (13, 0, 0, 0), 0, 0, []),
  (.istore 4, (4, 0, 0, 0), 0, 0, []),
  (.iload 4, (4, 0, 0, 0), 0, 0, []),
  (.iload_n 2, (2, 0, 0, 0), 0, 0, []),
  (.iload_n 3, (3, 0, 0, 0), 0, 0, []),
  (.invokestatic 367, (229, 2, 1, 99), 0, 0, []),
  (.if_icmp .ne 9, (40, 0, 0, 0), 0, 0, []),
  (.aload_n 0, (0, 0, 0, 0), 0, 0, []),
  (.iconst 5, (0, 0, 0, 0), 5, 0, []),
  (.invokevirtual 61, (182, 2, 1, 11), 0, 0, []),
  (.ireturn, (0, 0, 0, 0), 0, 0, []),
  (.aload_n 0, (0, 0, 0, 0), 0, 0, []),
  (.invokevirtual 500, (303, 1, 0, 11), 0, 0, []),
  (.aload_n 0, (0, 0, 0, 0), 0, 0, []),
  (.getfield 17, (11, 16, 2, 0), 0, 0, []),
  (.bipush 12, (0, 0, 0, 0), 12, 0, []),
  (.iload_n 1, (1, 0, 0, 0), 0, 0, []),
  (.iadd, (0, 0, 0, 0), 0, 0, []),
  (.iload_n 2, (2, 0, 0, 0), 0, 0, []),
  (.iload_n 3, (3, 0, 0, 0), 0, 0, []),
  (.invokestatic 367, (229, 2, 1, 99), 0, 0, []),
  (.iastore, (0, 0, 0, 0), 0, 0, []),
  (.aload_n 0, (0, 0, 0, 0), 0, 0, []),
  (.iload 4, (4, 0, 0, 0), 0, 0, []),
  (.invokestatic 376, (230, 1, 1, 99), 0, 0, []),
  (.invokevirtual 65, (185, 2, 1, 11), 0, 0, []),
  (.ireturn, (0, 0, 0, 0), 0, 0, [])]
def q_307 : List Nat := [0, 1, 2, 5, 6, 7, 10, 13, 14, 15, 16, 19, 22, 23, 26, 27, 28, 31, 34, 37, 37, 38, 39, 42, 43, 44, 47, 49, 50, 51, 52, 54, 56, 57, 58, 61, 64, 65, 66, 69, 70, 71, 74, 75, 78, 80, 81, 82, 83, 84, 87, 88, 89, 91, 94, 97, 98]
def m_307 : aMt := (yX12_move, cX12_move, 5, (some .int), 12, 1, 22, (0, 0), 3, k_307, q_307)
def k_308 : List aM := [(.aload_n 0, (0, 0, 0, 0), 0, 0, []),
  (.iconst 0, (0, 0, 0, 0), 0, 0, []),
  (.putfield 55, (11, 0, 0, 0), 0, 0, []),
  (.aload_n 0, (0, 0, 0, 0), 0, 0, []),
  (.getfield 332, (11, 3, 3, 0), 0, 0, []),
  (.ifnull 10, (9, 0, 0, 0), 0, 0, []),
  (.aload_n 0, (0, 0, 0, 0), 0, 0, []),
  (.getfield 340, (11, 20, 0, 0), 0, 0, []),
  (.ifCond .ne 10, (14, 0, 0, 0), 0, 0, []),
  (.nop, (0, 0, 0, 0), 0, 0, [(0, 1), (0, 0)]),
  (.aload_n 0, (0, 0, 0, 0), 0, 0, []),
  (.bipush 6, (0, 0, 0, 0), 6, 0, []),
  (.invokevirtual 506, (184, 2, 1, 11), 0, 0, []),
  (.ireturn, (0, 0, 1, 0), 0, 0, []),
  (.aload_n 0, (0, 0, 0, 0), 0, 0, []),
  (.dup, (0, 0, 0, 0), 0, 0, []),
  (.getfield 340, (11, 20, 0, 0), 0, 0, []),
  (.iconst 1, (0, 0, 0, 0), 1, 0, []),
  (.isub, (0, 0, 0, 0), 0, 0, []),
  (.putfield 340, (11, 20, 0, 0), 0, 0, []),
  (.iconst 0, (0, 0, 0, 0), 0, 0, []),
  (.istore_n 1, (1, 0, 0, 0), 0, 0, []),
  (.nop, (0, 0, 0, 0), 0, 0, [(0, 1), (0, 1)]),
  (.iload_n 1, (1, 0, 0, 0), 0, 0, []),
  (.sipush 145, (0, 0, 0, 0), 145, 0, []),
  (.if_icmp .ge 30, (41, 0, 0, 0), 0, 0, []),
  (.aload_n 0, (0, 0, 0, 0), 0, 0, []),
  (.getfield 17, (11, 16, 2, 0), 0, 0, []),
  (.iload_n 1, (1, 0, 0, 0), 0, 0, []),
  (.aload_n 0, (0, 0, 0, 0), 0, 0, []),
  (.getfield 24, (11, 18, 2, 0), 0, 0, []),
  (.sipush 145, (0, 0, 0, 0), 145, 0, []),
  (.aload_n 0, (0, 0, 0, 0), 0, 0, []),
  (.getfield 340, (11, 20, 0, 0), 0, 0, []),
  (.imul, (0, 0, 0, 0), 0, 0, []),
  (.iload_n 1, (1, 0, 0, 0), 0, 0, []),
  (.iadd, (0, 0, 0, 0), 0, 0, []),
  (.iaload, (13, 0, 0, 0), 0, 0, []),
  (.iastore, (0, 0, 0, 0), 0, 0, []),
  (.iinc 1 1, (1, 0, 0, 0), 1, 0, []),
  (.goto (-31), (22, 0, 0, 0), 0, 0, []),
  (.aload_n 0, (0, 0, 0, 0), 0, 0, []),
  (.invokevirtual 509, (186, 1, 1, 11), 0, 0, []),
  (.ireturn, (0, 0, 1, 0), 0, 0, [])]
def q_308 : List Nat := [0, 1, 2, 5, 6, 9, 12, 13, 16, 19, 19, 20, 22, 25, 26, 27, 28, 31, 32, 33, 36, 37, 38, 38, 39, 42, 45, 46, 49, 50, 51, 54, 57, 58, 61, 62, 63, 64, 65, 66, 69, 72, 73, 76, 77]
def m_308 : aMt := (yX12_undo, cX12_undo, 2, (some .boolean), 12, 2, 42, (0, 0), 0, k_308, q_308)
def k_309 : List aM := [(.aload_n 0, (0, 0, 0, 0), 0, 0, []),
  (.iconst 0, (0, 0, 0, 0), 0, 0, []),
  (.putfield 55, (11, 0, 0, 0), 0, 0, []),
  (.aload_n 0, (0, 0, 0, 0), 0, 0, []),
  (.getfield 332, (11, 3, 3, 0), 0, 0, []),
  (.ifnonnull 9, (10, 0, 0, 0), 0, 0, []),
  (.aload_n 0, (0, 0, 0, 0), 0, 0, []),
  (.iconst 1, (0, 0, 0, 0), 1, 0, []),
  (.invokevirtual 61, (182, 2, 1, 11), 0, 0, []),
  (.ireturn, (0, 0, 0, 0), 0, 0, []),
  (.aload_n 0, (0, 0, 0, 0), 0, 0, []),
  (.getfield 343, (11, 21, 0, 0), 0, 0, []),
  (.iconst 3, (0, 0, 0, 0), 3, 0, []),
  (.if_icmp .ne 9, (18, 0, 0, 0), 0, 0, []),
  (.aload_n 0, (0, 0, 0, 0), 0, 0, []),
  (.iconst 3, (0, 0, 0, 0), 3, 0, []),
  (.invokevirtual 61, (182, 2, 1, 11), 0, 0, []),
  (.ireturn, (0, 0, 0, 0), 0, 0, []),
  (.iconst 0, (0, 0, 0, 0), 0, 0, []),
  (.istore_n 1, (1, 0, 0, 0), 0, 0, []),
  (.nop, (0, 0, 0, 0), 0, 0, [(0, 1), (0, 1)]),
  (.iload_n 1, (1, 0, 0, 0), 0, 0, []),
  (.sipush 145, (0, 0, 0, 0), 145, 0, []),
  (.if_icmp .ge 30, (39, 0, 0, 0), 0, 0, []),
  (.aload_n 0, (0, 0, 0, 0), 0, 0, []),
  (.getfield 27, (11, 19, 2, 0), 0, 0, []),
  (.sipush 145, (0, 0, 0, 0), 145, 0, []),
  (.aload_n 0, (0, 0, 0, 0), 0, 0, []),
  (.getfield 343, (11, 21, 0, 0), 0, 0, []),
  (.imul, (0, 0, 0, 0), 0, 0, []),
  (.iload_n 1, (1, 0, 0, 0), 0, 0, []),
  (.iadd, (0, 0, 0, 0), 0, 0, []),
  (.aload_n 0, (0, 0, 0, 0), 0, 0, []),
  (.getfield 17, (11, 16, 2, 0), 0, 0, []),
  (.iload_n 1, (1, 0, 0, 0), 0, 0, []),
  (.iaload, (13, 0, 0, 0), 0, 0, []),
  (.iastore, (0, 0, 0, 0), 0, 0, []),
  (.iinc 1 1, (1, 0, 0, 0), 1, 0, []),
  (.goto (-31), (20, 0, 0, 0), 0, 0, []),
  (.aload_n 0, (0, 0, 0, 0), 0, 0, []),
  (.dup, (0, 0, 0, 0), 0, 0, []),
  (.getfield 343, (11, 21, 0, 0), 0, 0, []),
  (.iconst 1, (0, 0, 0, 0), 1, 0, []),
  (.iadd, (0, 0, 0, 0), 0, 0, []),
  (.putfield 343, (11, 21, 0, 0), 0, 0, []),
  (.aload_n 0, (0, 0, 0, 0), 0, 0, []),
  (.aload_n 0, (0, 0, 0, 0), 0, 0, []),
  (.getfield 343, (11, 21, 0, 0), 0, 0, []),
  (.iconst 1, (0, 0, 0, 0), 1, 0, []),
  (.isub, (0, 0, 0, 0), 0, 0, []),
  (.invokevirtual 65, (185, 2, 1, 11), 0, 0, []),
  (.ireturn, (0, 0, 0, 0), 0, 0, [])]
def q_309 : List Nat := [0, 1, 2, 5, 6, 9, 12, 13, 14, 17, 18, 19, 22, 23, 26, 27, 28, 31, 32, 33, 34, 34, 35, 38, 41, 42, 45, 48, 49, 52, 53, 54, 55, 56, 59, 60, 61, 62, 65, 68, 69, 70, 73, 74, 75, 78, 79, 80, 83, 84, 85, 88, 89]
def m_309 : aMt := (yX12_image, cX12_image, 2, (some .int), 12, 1, 21, (0, 0), 0, k_309, q_309)
def k_310 : List aM := [(.aload_n 0, (0, 0, 0, 0), 0, 0, []),
  (.iconst 0, (0, 0, 0, 0), 0, 0, []),
  (.putfield 55, (11, 0, 0, 0), 0, 0, []),
  (.aload_n 0, (0, 0, 0, 0), 0, 0, []),
  (.getfield 332, (11, 3, 3, 0), 0, 0, []),
  (.ifnull 15, (12, 0, 0, 0), 0, 0, []),
  (.iload_n 1, (1, 0, 0, 0), 0, 0, []),
  (.ifCond .lt 11, (12, 0, 0, 0), 0, 0, []),
  (.iload_n 1, (1, 0, 0, 0), 0, 0, []),
  (.aload_n 0, (0, 0, 0, 0), 0, 0, []),
  (.getfield 343, (11, 21, 0, 0), 0, 0, []),
  (.if_icmp .lt 9, (17, 0, 0, 0), 0, 0, []),
  (.nop, (0, 0, 0, 0), 0, 0, [(0, 1), (0, 0), (0, 0)]),
  (.aload_n 0, (0, 0, 0, 0), 0, 0, []),
  (.iconst 1, (0, 0, 0, 0), 1, 0, []),
  (.invokevirtual 506, (184, 2, 1, 11), 0, 0, []),
  (.ireturn, (0, 0, 1, 0), 0, 0, []),
  (.iconst 0, (0, 0, 0, 0), 0, 0, []),
  (.istore_n 2, (2, 0, 0, 0), 0, 0, []),
  (.nop, (0, 0, 0, 0), 0, 0, [(0, 1), (0, 1), (0, 1)]),
  (.iload_n 2, (2, 0, 0, 0), 0, 0, []),
  (.sipush 145, (0, 0, 0, 0), 145, 0, []),
  (.if_icmp .ge 27, (37, 0, 0, 0), 0, 0, []),
  (.aload_n 0, (0, 0, 0, 0), 0, 0, []),
  (.getfield 17, (11, 16, 2, 0), 0, 0, []),
  (.iload_n 2, (2, 0, 0, 0), 0, 0, []),
  (.aload_n 0, (0, 0, 0, 0), 0, 0, []),
  (.getfield 27, (11, 19, 2, 0), 0, 0, []),
  (.sipush 145, (0, 0, 0, 0), 145, 0, []),
  (.iload_n 1, (1, 0, 0, 0), 0, 0, []),
  (.imul, (0, 0, 0, 0), 0, 0, []),
  (.iload_n 2, (2, 0, 0, 0), 0, 0, []),
  (.iadd, (0, 0, 0, 0), 0, 0, []),
  (.iaload, (13, 0, 0, 0), 0, 0, []),
  (.iastore, (0, 0, 0, 0), 0, 0, []),
  (.iinc 2 1, (2, 0, 0, 0), 1, 0, []),
  (.goto (-28), (19, 0, 0, 0), 0, 0, []),
  (.aload_n 0, (0, 0, 0, 0), 0, 0, []),
  (.iconst 0, (0, 0, 0, 0), 0, 0, []),
  (.putfield 340, (11, 20, 0, 0), 0, 0, []),
  (.aload_n 0, (0, 0, 0, 0), 0, 0, []),
  (.invokevirtual 509, (186, 1, 1, 11), 0, 0, []),
  (.ireturn, (0, 0, 1, 0), 0, 0, [])]
def q_310 : List Nat := [0, 1, 2, 5, 6, 9, 12, 13, 16, 17, 18, 21, 24, 24, 25, 26, 29, 30, 31, 32, 32, 33, 36, 39, 40, 43, 44, 45, 48, 51, 52, 53, 54, 55, 56, 57, 60, 63, 64, 65, 68, 69, 72, 73]
def m_310 : aMt := (yX12_back, cX12_back, 3, (some .boolean), 12, 2, 42, (0, 0), 1, k_310, q_310)
def k_311 : List aM := [(.aload_n 0, (0, 0, 0, 0), 0, 0, []),
  (.iconst 0, (0, 0, 0, 0), 0, 0, []),
  (.putfield 55, (11, 0, 0, 0), 0, 0, []),
  (.iconst 0, (0, 0, 0, 0), 0, 0, []),
  (.istore_n 2, (2, 0, 0, 0), 0, 0, []),
  (.aload_n 0, (0, 0, 0, 0), 0, 0, []),
  (.getfield 332, (11, 3, 3, 0), 0, 0, []),
  (.ifnull 7, (10, 0, 0, 0), 0, 0, []),
  (.aload_n 0, (0, 0, 0, 0), 0, 0, []),
  (.invokevirtual 358, (231, 1, 0, 11), 0, 0, []),
  (.iconst 0, (0, 0, 0, 0), 0, 0, []),
  (.istore_n 3, (3, 0, 0, 0), 0, 0, []),
  (.nop, (0, 0, 0, 0), 0, 0, [(0, 1), (0, 1), (0, 1), (0, 1)]),
  (.aload_n 0, (0, 0, 0, 0), 0, 0, []),
  (.getfield 332, (11, 3, 3, 0), 0, 0, []),
  (.ifnull 41, (34, 0, 0, 0), 0, 0, []),
  (.iload_n 3, (3, 0, 0, 0), 0, 0, []),
  (.aload_n 0, (0, 0, 0, 0), 0, 0, []),
  (.getfield 332, (11, 3, 2, 0), 0, 0, []),
  (.getfield 295, (10, 8, 0, 0), 0, 0, []),
  (.if_icmp .ge 30, (34, 0, 0, 0), 0, 0, []),
  (.aload_n 0, (0, 0, 0, 0), 0, 0, []),
  (.iload_n 3, (3, 0, 0, 0), 0, 0, []),
  (.invokevirtual 346, (234, 2, 1, 11), 0, 0, []),
  (.ifCond .eq 6, (26, 0, 0, 0), 0, 0, []),
  (.goto 13, (32, 0, 0, 0), 0, 0, []),
  (.iload_n 2, (2, 0, 0, 0), 0, 0, []),
  (.iload_n 1, (1, 0, 0, 0), 0, 0, []),
  (.if_icmp .ne 5, (31, 0, 0, 0), 0, 0, []),
  (.iload_n 3, (3, 0, 0, 0), 0, 0, []),
  (.ireturn, (0, 0, 0, 0), 0, 0, []),
  (.iinc 2 1, (2, 0, 0, 0), 1, 0, []),
  (.iinc 3 1, (3, 0, 0, 0), 1, 0, []),
  (.goto (-42), (12, 0, 0, 0), 0, 0, []),
  (.nop, (0, 0, 0, 0), 0, 0, [(0, 1), (0, 0), (0, 0), (0, 0)]),
  (.aload_n 0, (0, 0, 0, 0), 0, 0, []),
  (.iconst 1, (0, 0, 0, 0), 1, 0, []),
  (.putfield 55, (11, 0, 0, 0), 0, 0, []),
  (.iconst 0, (0, 0, 0, 0), 0, 0, []),
  (.ireturn, (0, 0, 0, 0), 0, 0, [])]
def q_311 : List Nat := [0, 1, 2, 5, 6, 7, 8, 11, 14, 15, 18, 19, 20, 20, 21, 24, 27, 28, 29, 32, 35, 38, 39, 40, 43, 46, 49, 50, 51, 54, 55, 56, 59, 62, 65, 65, 66, 67, 70, 71, 72]
def m_311 : aMt := (yX12_led, cX12_led, 4, (some .int), 12, 1, 21, (0, 0), 1, k_311, q_311)
def k_312 : List aM := [(.aload_n 0, (0, 0, 0, 0), 0, 0, []),
  (.iconst 0, (0, 0, 0, 0), 0, 0, []),
  (.putfield 55, (11, 0, 0, 0), 0, 0, []),
  (.iload_n 1, (1, 0, 0, 0), 0, 0, []),
  (.bipush 12, (0, 0, 0, 0), 12, 0, []),
  (.if_icmp .ne 8, (9, 0, 0, 0), 0, 0, []),
  (.aload_n 0, (0, 0, 0, 0), 0, 0, []),
  (.getfield 325, (11, 6, 0, 0), 0, 0, []),
  (.ireturn, (0, 0, 0, 0), 0, 0, []),
  (.iload_n 1, (1, 0, 0, 0), 0, 0, []),
  (.iconst 0, (0, 0, 0, 0), 0, 0, []),
  (.bipush 11, (0, 0, 0, 0), 11, 0, []),
  (.invokestatic 137, (187, 3, 1, 99), 0, 0, []),
  (.ifCond .ne 5, (16, 0, 0, 0), 0, 0, []),
  (.iconst (-1), (0, 0, 0, 0), (-1), 0, []),
  (.ireturn, (0, 0, 0, 0), 0, 0, []),
  (.aload_n 0, (0, 0, 0, 0), 0, 0, []),
  (.getfield 332, (11, 3, 3, 0), 0, 0, []),
  (.ifnonnull 5, (21, 0, 0, 0), 0, 0, []),
  (.iconst 0, (0, 0, 0, 0), 0, 0, []),
  (.ireturn, (0, 0, 0, 0), 0, 0, []),
  (.iload_n 1, (1, 0, 0, 0), 0, 0, []),
  (.tableswitch 143 0 10 #[58, 66, 74, 82, 90, 98, 106, 114, 122, 130, 138], (67, 0, 0, 0), 0, 0, [(0, 23), (1, 27), (2, 31), (3, 35), (4, 39), (5, 43), (6, 47), (7, 51), (8, 55), (9, 59), (10, 64)]),
  (.aload_n 0, (0, 0, 0, 0), 0, 0, []),
  (.getfield 332, (11, 3, 2, 0), 0, 0, []),
  (.getfield 232, (10, 0, 0, 0), 0, 0, []),
  (.ireturn, (0, 0, 0, 0), 0, 0, []),
  (.aload_n 0, (0, 0, 0, 0), 0, 0, []),
  (.getfield 332, (11, 3, 2, 0), 0, 0, []),
  (.getfield 246, (10, 1, 0, 0), 0, 0, []),
  (.ireturn, (0, 0, 0, 0), 0, 0, []),
  (.aload_n 0, (0, 0, 0, 0), 0, 0, []),
  (.getfield 332, (11, 3, 2, 0), 0, 0, []),
  (.getfield 248, (10, 2, 0, 0), 0, 0, []),
  (.ireturn, (0, 0, 0, 0), 0, 0, []),
  (.aload_n 0, (0, 0, 0, 0), 0, 0, []),
  (.getfield 332, (11, 3, 2, 0), 0, 0, []),
  (.getfield 250, (10, 3, 0, 0), 0, 0, []),
  (.ireturn, (0, 0, 0, 0), 0, 0, []),
  (.aload_n 0, (0, 0, 0, 0), 0, 0, []),
  (.getfield 332, (11, 3, 2, 0), 0, 0, []),
  (.getfield 200, (10, 4, 0, 0), 0, 0, []),
  (.ireturn, (0, 0, 0, 0), 0, 0, []),
  (.aload_n 0, (0, 0, 0, 0), 0, 0, []),
  (.getfield 332, (11, 3, 2, 0), 0, 0, []),
  (.getfield 170, (10, 5, 0, 0), 0, 0, []),
  (.ireturn, (0, 0, 0, 0), 0, 0, []),
  (.aload_n 0, (0, 0, 0, 0), 0, 0, []),
  (.getfield 332, (11, 3, 2, 0), 0, 0, []),
  (.getfield 271, (10, 7, 0, 0), 0, 0, []),
  (.ireturn, (0, 0, 0, 0), 0, 0, []),
  (.aload_n 0, (0, 0, 0, 0), 0, 0, []),
  (.getfield 332, (11, 3, 2, 0), 0, 0, []),
  (.getfield 295, (10, 8, 0, 0), 0, 0, []),
  (.ireturn, (0, 0, 0, 0), 0, 0, []),
  (.aload_n 0, (0, 0, 0, 0), 0, 0, []),
  (.getfield 332, (11, 3, 2, 0), 0, 0, []),
  (.getfield 311, (10, 9, 0, 0), 0, 0, []),
  (.ireturn, (0, 0, 0, 0), 0, 0, []),
  (.aload_n 0, (0, 0, 0, 0), 0, 0, []),
  (.getfield 17, (11, 16, 2, 0), 0, 0, []),
  (.bipush 16, (0, 0, 0, 0), 16, 0, []),
  (.iaload, (13, 0, 0, 0), 0, 0, []),
  (.ireturn, (0, 0, 0, 0), 0, 0, []),
  (.aload_n 0, (0, 0, 0, 0), 0, 0, []),
  (.getfield 340, (11, 20, 0, 0), 0, 0, []),
  (.ireturn, (0, 0, 0, 0), 0, 0, []),
  (.aload_n 0, (0, 0, 0, 0), 0, 0, []),
  (.getfield 343, (11, 21, 0, 0), 0, 0, []),
  (.ireturn, (0, 0, 0, 0), 0, 0, [])]
def q_312 : List Nat := [0, 1, 2, 5, 6, 8, 11, 12, 15, 16, 17, 18, 20, 23, 26, 27, 28, 29, 32, 35, 36, 37, 38, 96, 97, 100, 103, 104, 105, 108, 111, 112, 113, 116, 119, 120, 121, 124, 127, 128, 129, 132, 135, 136, 137, 140, 143, 144, 145, 148, 151, 152, 153, 156, 159, 160, 161, 164, 167, 168, 169, 172, 174, 175, 176, 177, 180, 181, 182, 185, 186]
def m_312 : aMt := (yX12_size, cX12_size, 2, (some .int), 12, 1, 22, (0, 0), 1, k_312, q_312)
def k_313 : List aM := [(.aload_n 0, (0, 0, 0, 0), 0, 0, []),
  (.iconst 0, (0, 0, 0, 0), 0, 0, []),
  (.putfield 55, (11, 0, 0, 0), 0, 0, []),
  (.aload_n 0, (0, 0, 0, 0), 0, 0, []),
  (.getfield 58, (11, 1, 0, 0), 0, 0, []),
  (.ireturn, (0, 0, 0, 0), 0, 0, [])]
def q_313 : List Nat := [0, 1, 2, 5, 6, 9, 10]
def m_313 : aMt := (yX12_trouble, cX12_trouble, 1, (some .int), 12, 0, 0, (0, 0), 0, k_313, q_313)
def k_314 : List aM := [(.lload_n 0, (0, 0, 0, 0), 0, 0, []),
  (.lload_n 0, (0, 0, 0, 0), 0, 0, []),
  (.iconst 1, (0, 0, 0, 0), 1, 0, []),
  (.lushr, (0, 0, 0, 0), 0, 0, []),
  (.ldc2_w 314, (0, 0, 0, 0), 0, 6148914691236517205, []),
  (.land, (0, 0, 0, 0), 0, 0, []),
  (.lsub, (0, 0, 0, 0), 0, 0, []),
  (.lstore_n 0, (0, 0, 0, 0), 0, 0, []),
  (.lload_n 0, (0, 0, 0, 0), 0, 0, []),
  (.ldc2_w 316, (0, 0, 0, 0), 0, 3689348814741910323, []),
  (.land, (0, 0, 0, 0), 0, 0, []),
  (.lload_n 0, (0, 0, 0, 0), 0, 0, []),
  (.iconst 2, (0, 0, 0, 0), 2, 0, []),
  (.lushr, (0, 0, 0, 0), 0, 0, []),
  (.ldc2_w 316, (0, 0, 0, 0), 0, 3689348814741910323, []),
  (.land, (0, 0, 0, 0), 0, 0, []),
  (.ladd, (0, 0, 0, 0), 0, 0, []),
  (.lstore_n 0, (0, 0, 0, 0), 0, 0, []),
  (.lload_n 0, (0, 0, 0, 0), 0, 0, []),
  (.lload_n 0, (0, 0, 0, 0), 0, 0, []),
  (.iconst 4, (0, 0, 0, 0), 4, 0, []),
  (.lushr, (0, 0, 0, 0), 0, 0, []),
  (.ladd, (0, 0, 0, 0), 0, 0, []),
  (.ldc2_w 318, (0, 0, 0, 0), 0, 1085102592571150095, []),
  (.land, (0, 0, 0, 0), 0, 0, []),
  (.lstore_n 0, (0, 0, 0, 0), 0, 0, []),
  (.lload_n 0, (0, 0, 0, 0), 0, 0, []),
  (.lload_n 0, (0, 0, 0, 0), 0, 0, []),
  (.bipush 8, (0, 0, 0, 0), 8, 0, []),
  (.lushr, (0, 0, 0, 0), 0, 0, []),
  (.ladd, (0, 0, 0, 0), 0, 0, []),
  (.lstore_n 0, (0, 0, 0, 0), 0, 0, []),
  (.lload_n 0, (0, 0, 0, 0), 0, 0, []),
  (.lload_n 0, (0, 0, 0, 0), 0, 0, []),
  (.bipush 16, (0, 0, 0, 0), 16, 0, []),
  (.lushr, (0, 0, 0, 0), 0, 0, []),
  (.ladd, (0, 0, 0, 0), 0, 0, []),
  (.lstore_n 0, (0, 0, 0, 0), 0, 0, []),
  (.lload_n 0, (0, 0, 0, 0), 0, 0, []),
  (.lload_n 0, (0, 0, 0, 0), 0, 0, []),
  (.bipush 32, (0, 0, 0, 0), 32, 0, []),
  (.lushr, (0, 0, 0, 0), 0, 0, []),
  (.ladd, (0, 0, 0, 0), 0, 0, []),
  (.lstore_n 0, (0, 0, 0, 0), 0, 0, []),
  (.lload_n 0, (0, 0, 0, 0), 0, 0, []),
  (.l2i, (0, 0, 0, 0), 0, 0, []),
  (.bipush 127, (0, 0, 0, 0), 127, 0, []),
  (.iand, (0, 0, 0, 0), 0, 0, []),
  (.ireturn, (0, 0, 0, 0), 0, 0, [])]
def q_314 : List Nat := [0, 1, 2, 3, 4, 7, 8, 9, 10, 11, 14, 15, 16, 17, 18, 21, 22, 23, 24, 25, 26, 27, 28, 29, 32, 33, 34, 35, 36, 38, 39, 40, 41, 42, 43, 45, 46, 47, 48, 49, 50, 52, 53, 54, 55, 56, 57, 59, 60, 61]
def m_314 : aMt := (yJ13_bitCount_95d88, cJ13_bitCount_95d88, 2, (some .int), 13, 0, 0, (0, 0), 1, k_314, q_314)
def k_315_0 : List aM := [(.new 8, (9, 12, 0, 0), 0, 0, []),
  (.dup, (0, 0, 0, 0), 0, 0, []),
  (.invokespecial 15, (111, 1, 0, 99), 0, 0, [(0, 131), (0, 2651)]),
  (.astore_n 1, (1, 0, 0, 0), 0, 0, []),
  (.new 16, (11, 33, 0, 0), 0, 0, []),
  (.dup, (0, 0, 0, 0), 0, 0, []),
  (.invokespecial 18, (180, 1, 0, 99), 0, 0, [(0, 13), (0, 4848)]),
  (.astore_n 2, (2, 0, 0, 0), 0, 0, []),
  (.iconst 1, (0, 0, 0, 0), 1, 0, []),
  (.newarray .long, (14, 0, 0, 0), 0, 0, []),
  (.astore_n 3, (3, 0, 0, 0), 0, 0, []),
  (.iconst 0, (0, 0, 0, 0), 0, 0, []),
  (.istore 4, (4, 0, 0, 0), 0, 0, []),
  (.nop, (0, 0, 0, 0), 0, 0, [(0, 1), (0, 1), (0, 1), (0, 1), (0, 1), (0, 0), (0, 0)]),
  (.iload 4, (4, 0, 0, 0), 0, 0, []),
  (.aload_n 0, (0, 0, 0, 0), 0, 0, []),
  (.arraylength, (17, 0, 0, 0), 0, 0, []),
  (.bipush 6, (0, 0, 0, 0), 6, 0, []),
  (.isub, (0, 0, 0, 0), 0, 0, []),
  (.if_icmp .gt 1813, (1144, 0, 0, 0), 0, 0, []),
  (.aload_n 0, (0, 0, 0, 0), 0, 0, []),
  (.iload 4, (4, 0, 0, 0), 0, 0, []),
  (.iaload, (17, 0, 0, 0), 0, 0, []),
  (.bipush 63, (0, 0, 0, 0), 63, 0, []),
  (.iand, (0, 0, 0, 0), 0, 0, []),
  (.tableswitch 1797 0 47 #[208, 281, 306, 319, 332, 381, 418, 443, 456, 517, 554, 579, 604, 641, 654, 667, 704, 729, 790, 851, 876, 925, 938, 963, 1012, 1037, 1050, 1075, 1100, 1149, 1174, 1199, 1224, 1261, 1370, 1395, 1420, 1474, 1516, 1541, 1554, 1603, 1652, 1665, 1678, 1703, 1759, 1784], (1142, 0, 0, 0), 0, 0, [(0, 26), (1, 83), (2, 100), (3, 107), (4, 114), (5, 151), (6, 178), (7, 195), (8, 202), (9, 249), (10, 276), (11, 293), (12, 310), (13, 337), (14, 344), (15, 351), (16, 378), (17, 395), (18, 442), (19, 489), (20, 506), (21, 543), (22, 550), (23, 567), (24, 604), (25, 621), (26, 628), (27, 645), (28, 662), (29, 699), (30, 716), (31, 733), (32, 750), (33, 777), (34, 854), (35, 871), (36, 888), (37, 926), (38, 954), (39, 971), (40, 978), (41, 1015), (42, 1052), (43, 1059), (44, 1066), (45, 1083), (46, 1118), (47, 1135)]),
  (.aload_n 1, (1, 0, 0, 0), 0, 0, []),
  (.aload_n 0, (0, 0, 0, 0), 0, 0, []),
  (.iload 4, (4, 0, 0, 0), 0, 0, []),
  (.iconst 1, (0, 0, 0, 0), 1, 0, []),
  (.iadd, (0, 0, 0, 0), 0, 0, []),
  (.iaload, (17, 0, 0, 0), 0, 0, []),
  (.aload_n 0, (0, 0, 0, 0), 0, 0, []),
  (.iload 4, (4, 0, 0, 0), 0, 0, []),
  (.iconst 2, (0, 0, 0, 0), 2, 0, []),
  (.iadd, (0, 0, 0, 0), 0, 0, []),
  (.iaload, (17, 0, 0, 0), 0, 0, []),
  (.aload_n 0, (0, 0, 0, 0), 0, 0, []),
  (.iload 4, (4, 0, 0, 0), 0, 0, []),
  (.iconst 3, (0, 0, 0, 0), 3, 0, []),
  (.iadd, (0, 0, 0, 0), 0, 0, []),
  (.iaload, (17, 0, 0, 0), 0, 0, []),
  (.aload_n 0, (0, 0, 0, 0), 0, 0, []),
  (.iload 4, (4, 0, 0, 0), 0, 0, []),
  (.iconst 4, (0, 0, 0, 0), 4, 0, []),
  (.iadd, (0, 0, 0, 0), 0, 0, []),
  (.iaload, (17, 0, 0, 0), 0, 0, []),
  (.aload_n 0, (0, 0, 0, 0), 0, 0, []),
  (.iload 4, (4, 0, 0, 0), 0, 0, []),
  (.iconst 5, (0, 0, 0, 0), 5, 0, []),
  (.iadd, (0, 0, 0, 0), 0, 0, []),
  (.iaload, (17, 0, 0, 0), 0, 0, []),
  (.invokevirtual 19, (112, 6, 1, 9), 0, 0, []),
  (.aload_n 2, (2, 0, 0, 0), 0, 0, []),
  (.aload_n 0, (0, 0, 0, 0), 0, 0, []),
  (.iload 4, (4, 0, 0, 0), 0, 0, []),
  (.iconst 1, (0, 0, 0, 0), 1, 0, []),
  (.iadd, (0, 0, 0, 0), 0, 0, []),
  (.iaload, (17, 0, 0, 0), 0, 0, []),
  (.aload_n 0, (0, 0, 0, 0), 0, 0, []),
  (.iload 4, (4, 0, 0, 0), 0, 0, []),
  (.iconst 2, (0, 0, 0, 0), 2, 0, []),
  (.iadd, (0, 0, 0, 0), 0, 0, []),
  (.iaload, (17, 0, 0, 0), 0, 0, []),
  (.aload_n 0, (0, 0, 0, 0), 0, 0, []),
  (.iload 4, (4, 0, 0, 0), 0, 0, []),
  (.iconst 3, (0, 0, 0, 0), 3, 0, []),
  (.iadd, (0, 0, 0, 0), 0, 0, []),
  (.iaload, (17, 0, 0, 0), 0, 0, []),
  (.aload_n 0, (0, 0, 0, 0), 0, 0, []),
  (.iload 4, (4, 0, 0, 0), 0, 0, []),
  (.iconst 4, (0, 0, 0, 0), 4, 0, []),
  (.iadd, (0, 0, 0, 0), 0, 0, []),
  (.iaload, (17, 0, 0, 0), 0, 0, []),
  (.aload_n 0, (0, 0, 0, 0), 0, 0, []),
  (.iload 4, (4, 0, 0, 0), 0, 0, []),
  (.iconst 5, (0, 0, 0, 0), 5, 0, []),
  (.iadd, (0, 0, 0, 0), 0, 0, []),
  (.iaload, (17, 0, 0, 0), 0, 0, []),
  (.invokevirtual 23, (222, 6, 1, 11), 0, 0, [])]
def k_315_1 : List aM := [(.if_icmp .eq 1521, (1142, 0, 0, 0), 0, 0, []),
  (.iconst 0, (0, 0, 0, 0), 0, 0, []),
  (.ireturn, (0, 0, 1, 0), 0, 0, []),
  (.aload_n 1, (1, 0, 0, 0), 0, 0, []),
  (.aload_n 0, (0, 0, 0, 0), 0, 0, []),
  (.iload 4, (4, 0, 0, 0), 0, 0, []),
  (.iconst 1, (0, 0, 0, 0), 1, 0, []),
  (.iadd, (0, 0, 0, 0), 0, 0, []),
  (.iaload, (17, 0, 0, 0), 0, 0, []),
  (.invokevirtual 24, (113, 2, 1, 9), 0, 0, []),
  (.aload_n 2, (2, 0, 0, 0), 0, 0, []),
  (.aload_n 0, (0, 0, 0, 0), 0, 0, []),
  (.iload 4, (4, 0, 0, 0), 0, 0, []),
  (.iconst 1, (0, 0, 0, 0), 1, 0, []),
  (.iadd, (0, 0, 0, 0), 0, 0, []),
  (.iaload, (17, 0, 0, 0), 0, 0, []),
  (.invokevirtual 27, (223, 2, 1, 11), 0, 0, [(0, 12), (0, 177)]),
  (.if_icmp .eq 1496, (1142, 0, 0, 0), 0, 0, []),
  (.iconst 0, (0, 0, 0, 0), 0, 0, []),
  (.ireturn, (0, 0, 1, 0), 0, 0, []),
  (.aload_n 1, (1, 0, 0, 0), 0, 0, []),
  (.invokevirtual 28, (114, 1, 1, 9), 0, 0, []),
  (.aload_n 2, (2, 0, 0, 0), 0, 0, []),
  (.invokevirtual 32, (224, 1, 1, 11), 0, 0, []),
  (.if_icmp .eq 1483, (1142, 0, 0, 0), 0, 0, []),
  (.iconst 0, (0, 0, 0, 0), 0, 0, []),
  (.ireturn, (0, 0, 1, 0), 0, 0, []),
  (.aload_n 1, (1, 0, 0, 0), 0, 0, []),
  (.invokevirtual 33, (115, 1, 1, 9), 0, 0, []),
  (.aload_n 2, (2, 0, 0, 0), 0, 0, []),
  (.invokevirtual 36, (225, 1, 1, 11), 0, 0, []),
  (.if_icmp .eq 1470, (1142, 0, 0, 0), 0, 0, []),
  (.iconst 0, (0, 0, 0, 0), 0, 0, []),
  (.ireturn, (0, 0, 1, 0), 0, 0, []),
  (.aload_n 1, (1, 0, 0, 0), 0, 0, []),
  (.aload_n 0, (0, 0, 0, 0), 0, 0, []),
  (.iload 4, (4, 0, 0, 0), 0, 0, []),
  (.iconst 1, (0, 0, 0, 0), 1, 0, []),
  (.iadd, (0, 0, 0, 0), 0, 0, []),
  (.iaload, (17, 0, 0, 0), 0, 0, []),
  (.aload_n 0, (0, 0, 0, 0), 0, 0, []),
  (.iload 4, (4, 0, 0, 0), 0, 0, []),
  (.iconst 2, (0, 0, 0, 0), 2, 0, []),
  (.iadd, (0, 0, 0, 0), 0, 0, []),
  (.iaload, (17, 0, 0, 0), 0, 0, []),
  (.aload_n 0, (0, 0, 0, 0), 0, 0, []),
  (.iload 4, (4, 0, 0, 0), 0, 0, []),
  (.iconst 3, (0, 0, 0, 0), 3, 0, []),
  (.iadd, (0, 0, 0, 0), 0, 0, []),
  (.iaload, (17, 0, 0, 0), 0, 0, []),
  (.invokevirtual 37, (116, 4, 1, 9), 0, 0, []),
  (.aload_n 2, (2, 0, 0, 0), 0, 0, []),
  (.aload_n 0, (0, 0, 0, 0), 0, 0, []),
  (.iload 4, (4, 0, 0, 0), 0, 0, []),
  (.iconst 1, (0, 0, 0, 0), 1, 0, []),
  (.iadd, (0, 0, 0, 0), 0, 0, []),
  (.iaload, (17, 0, 0, 0), 0, 0, []),
  (.aload_n 0, (0, 0, 0, 0), 0, 0, []),
  (.iload 4, (4, 0, 0, 0), 0, 0, []),
  (.iconst 2, (0, 0, 0, 0), 2, 0, []),
  (.iadd, (0, 0, 0, 0), 0, 0, []),
  (.iaload, (17, 0, 0, 0), 0, 0, []),
  (.aload_n 0, (0, 0, 0, 0), 0, 0, []),
  (.iload 4, (4, 0, 0, 0), 0, 0, []),
  (.iconst 3, (0, 0, 0, 0), 3, 0, []),
  (.iadd, (0, 0, 0, 0), 0, 0, []),
  (.iaload, (17, 0, 0, 0), 0, 0, []),
  (.invokevirtual 41, (241, 4, 1, 11), 0, 0, []),
  (.if_icmp .eq 1421, (1142, 0, 0, 0), 0, 0, []),
  (.iconst 0, (0, 0, 0, 0), 0, 0, []),
  (.ireturn, (0, 0, 1, 0), 0, 0, []),
  (.aload_n 1, (1, 0, 0, 0), 0, 0, []),
  (.aload_n 0, (0, 0, 0, 0), 0, 0, []),
  (.iload 4, (4, 0, 0, 0), 0, 0, []),
  (.iconst 1, (0, 0, 0, 0), 1, 0, []),
  (.iadd, (0, 0, 0, 0), 0, 0, []),
  (.iaload, (17, 0, 0, 0), 0, 0, []),
  (.aload_n 0, (0, 0, 0, 0), 0, 0, []),
  (.iload 4, (4, 0, 0, 0), 0, 0, []),
  (.iconst 2, (0, 0, 0, 0), 2, 0, [])]
def k_315_2 : List aM := [(.iadd, (0, 0, 0, 0), 0, 0, []),
  (.iaload, (17, 0, 0, 0), 0, 0, []),
  (.invokevirtual 42, (117, 3, 1, 9), 0, 0, []),
  (.aload_n 2, (2, 0, 0, 0), 0, 0, []),
  (.aload_n 0, (0, 0, 0, 0), 0, 0, []),
  (.iload 4, (4, 0, 0, 0), 0, 0, []),
  (.iconst 1, (0, 0, 0, 0), 1, 0, []),
  (.iadd, (0, 0, 0, 0), 0, 0, []),
  (.iaload, (17, 0, 0, 0), 0, 0, []),
  (.aload_n 0, (0, 0, 0, 0), 0, 0, []),
  (.iload 4, (4, 0, 0, 0), 0, 0, []),
  (.iconst 2, (0, 0, 0, 0), 2, 0, []),
  (.iadd, (0, 0, 0, 0), 0, 0, []),
  (.iaload, (17, 0, 0, 0), 0, 0, []),
  (.invokevirtual 46, (242, 3, 1, 11), 0, 0, []),
  (.if_icmp .eq 1384, (1142, 0, 0, 0), 0, 0, []),
  (.iconst 0, (0, 0, 0, 0), 0, 0, []),
  (.ireturn, (0, 0, 1, 0), 0, 0, []),
  (.aload_n 1, (1, 0, 0, 0), 0, 0, []),
  (.aload_n 0, (0, 0, 0, 0), 0, 0, []),
  (.iload 4, (4, 0, 0, 0), 0, 0, []),
  (.iconst 1, (0, 0, 0, 0), 1, 0, []),
  (.iadd, (0, 0, 0, 0), 0, 0, []),
  (.iaload, (17, 0, 0, 0), 0, 0, []),
  (.invokevirtual 47, (118, 2, 1, 9), 0, 0, []),
  (.aload_n 2, (2, 0, 0, 0), 0, 0, []),
  (.aload_n 0, (0, 0, 0, 0), 0, 0, []),
  (.iload 4, (4, 0, 0, 0), 0, 0, []),
  (.iconst 1, (0, 0, 0, 0), 1, 0, []),
  (.iadd, (0, 0, 0, 0), 0, 0, []),
  (.iaload, (17, 0, 0, 0), 0, 0, []),
  (.invokevirtual 50, (243, 2, 1, 11), 0, 0, []),
  (.if_icmp .eq 1359, (1142, 0, 0, 0), 0, 0, []),
  (.iconst 0, (0, 0, 0, 0), 0, 0, []),
  (.ireturn, (0, 0, 1, 0), 0, 0, []),
  (.aload_n 1, (1, 0, 0, 0), 0, 0, []),
  (.invokevirtual 51, (119, 1, 1, 9), 0, 0, []),
  (.aload_n 2, (2, 0, 0, 0), 0, 0, []),
  (.invokevirtual 54, (245, 1, 1, 11), 0, 0, []),
  (.if_icmp .eq 1346, (1142, 0, 0, 0), 0, 0, []),
  (.iconst 0, (0, 0, 0, 0), 0, 0, []),
  (.ireturn, (0, 0, 1, 0), 0, 0, []),
  (.aload_n 1, (1, 0, 0, 0), 0, 0, []),
  (.aload_n 0, (0, 0, 0, 0), 0, 0, []),
  (.iload 4, (4, 0, 0, 0), 0, 0, []),
  (.iconst 1, (0, 0, 0, 0), 1, 0, []),
  (.iadd, (0, 0, 0, 0), 0, 0, []),
  (.iaload, (17, 0, 0, 0), 0, 0, []),
  (.aload_n 0, (0, 0, 0, 0), 0, 0, []),
  (.iload 4, (4, 0, 0, 0), 0, 0, []),
  (.iconst 2, (0, 0, 0, 0), 2, 0, []),
  (.iadd, (0, 0, 0, 0), 0, 0, []),
  (.iaload, (17, 0, 0, 0), 0, 0, []),
  (.aload_n 0, (0, 0, 0, 0), 0, 0, []),
  (.iload 4, (4, 0, 0, 0), 0, 0, []),
  (.iconst 3, (0, 0, 0, 0), 3, 0, []),
  (.iadd, (0, 0, 0, 0), 0, 0, []),
  (.iaload, (17, 0, 0, 0), 0, 0, []),
  (.aload_n 0, (0, 0, 0, 0), 0, 0, []),
  (.iload 4, (4, 0, 0, 0), 0, 0, []),
  (.iconst 4, (0, 0, 0, 0), 4, 0, []),
  (.iadd, (0, 0, 0, 0), 0, 0, []),
  (.iaload, (17, 0, 0, 0), 0, 0, []),
  (.invokevirtual 55, (120, 5, 1, 9), 0, 0, []),
  (.aload_n 2, (2, 0, 0, 0), 0, 0, []),
  (.aload_n 0, (0, 0, 0, 0), 0, 0, []),
  (.iload 4, (4, 0, 0, 0), 0, 0, []),
  (.iconst 1, (0, 0, 0, 0), 1, 0, []),
  (.iadd, (0, 0, 0, 0), 0, 0, []),
  (.iaload, (17, 0, 0, 0), 0, 0, []),
  (.aload_n 0, (0, 0, 0, 0), 0, 0, []),
  (.iload 4, (4, 0, 0, 0), 0, 0, []),
  (.iconst 2, (0, 0, 0, 0), 2, 0, []),
  (.iadd, (0, 0, 0, 0), 0, 0, []),
  (.iaload, (17, 0, 0, 0), 0, 0, []),
  (.aload_n 0, (0, 0, 0, 0), 0, 0, []),
  (.iload 4, (4, 0, 0, 0), 0, 0, []),
  (.iconst 3, (0, 0, 0, 0), 3, 0, []),
  (.iadd, (0, 0, 0, 0), 0, 0, []),
  (.iaload, (17, 0, 0, 0), 0, 0, [])]
def k_315_3 : List aM := [(.aload_n 0, (0, 0, 0, 0), 0, 0, []),
  (.iload 4, (4, 0, 0, 0), 0, 0, []),
  (.iconst 4, (0, 0, 0, 0), 4, 0, []),
  (.iadd, (0, 0, 0, 0), 0, 0, []),
  (.iaload, (17, 0, 0, 0), 0, 0, []),
  (.invokevirtual 59, (246, 5, 1, 11), 0, 0, []),
  (.if_icmp .eq 1285, (1142, 0, 0, 0), 0, 0, []),
  (.iconst 0, (0, 0, 0, 0), 0, 0, []),
  (.ireturn, (0, 0, 1, 0), 0, 0, []),
  (.aload_n 1, (1, 0, 0, 0), 0, 0, []),
  (.aload_n 0, (0, 0, 0, 0), 0, 0, []),
  (.iload 4, (4, 0, 0, 0), 0, 0, []),
  (.iconst 1, (0, 0, 0, 0), 1, 0, []),
  (.iadd, (0, 0, 0, 0), 0, 0, []),
  (.iaload, (17, 0, 0, 0), 0, 0, []),
  (.aload_n 0, (0, 0, 0, 0), 0, 0, []),
  (.iload 4, (4, 0, 0, 0), 0, 0, []),
  (.iconst 2, (0, 0, 0, 0), 2, 0, []),
  (.iadd, (0, 0, 0, 0), 0, 0, []),
  (.iaload, (17, 0, 0, 0), 0, 0, []),
  (.invokevirtual 60, (121, 3, 1, 9), 0, 0, []),
  (.aload_n 2, (2, 0, 0, 0), 0, 0, []),
  (.aload_n 0, (0, 0, 0, 0), 0, 0, []),
  (.iload 4, (4, 0, 0, 0), 0, 0, []),
  (.iconst 1, (0, 0, 0, 0), 1, 0, []),
  (.iadd, (0, 0, 0, 0), 0, 0, []),
  (.iaload, (17, 0, 0, 0), 0, 0, []),
  (.aload_n 0, (0, 0, 0, 0), 0, 0, []),
  (.iload 4, (4, 0, 0, 0), 0, 0, []),
  (.iconst 2, (0, 0, 0, 0), 2, 0, []),
  (.iadd, (0, 0, 0, 0), 0, 0, []),
  (.iaload, (17, 0, 0, 0), 0, 0, []),
  (.invokevirtual 63, (247, 3, 1, 11), 0, 0, []),
  (.if_icmp .eq 1248, (1142, 0, 0, 0), 0, 0, []),
  (.iconst 0, (0, 0, 0, 0), 0, 0, []),
  (.ireturn, (0, 0, 1, 0), 0, 0, []),
  (.aload_n 1, (1, 0, 0, 0), 0, 0, []),
  (.aload_n 0, (0, 0, 0, 0), 0, 0, []),
  (.iload 4, (4, 0, 0, 0), 0, 0, []),
  (.iconst 1, (0, 0, 0, 0), 1, 0, []),
  (.iadd, (0, 0, 0, 0), 0, 0, []),
  (.iaload, (17, 0, 0, 0), 0, 0, []),
  (.invokevirtual 64, (122, 2, 1, 9), 0, 0, []),
  (.aload_n 2, (2, 0, 0, 0), 0, 0, []),
  (.aload_n 0, (0, 0, 0, 0), 0, 0, []),
  (.iload 4, (4, 0, 0, 0), 0, 0, []),
  (.iconst 1, (0, 0, 0, 0), 1, 0, []),
  (.iadd, (0, 0, 0, 0), 0, 0, []),
  (.iaload, (17, 0, 0, 0), 0, 0, []),
  (.invokevirtual 67, (248, 2, 1, 11), 0, 0, []),
  (.if_icmp .eq 1223, (1142, 0, 0, 0), 0, 0, []),
  (.iconst 0, (0, 0, 0, 0), 0, 0, []),
  (.ireturn, (0, 0, 1, 0), 0, 0, []),
  (.aload_n 1, (1, 0, 0, 0), 0, 0, []),
  (.aload_n 0, (0, 0, 0, 0), 0, 0, []),
  (.iload 4, (4, 0, 0, 0), 0, 0, []),
  (.iconst 1, (0, 0, 0, 0), 1, 0, []),
  (.iadd, (0, 0, 0, 0), 0, 0, []),
  (.iaload, (17, 0, 0, 0), 0, 0, []),
  (.invokevirtual 68, (123, 2, 1, 9), 0, 0, []),
  (.aload_n 2, (2, 0, 0, 0), 0, 0, []),
  (.aload_n 0, (0, 0, 0, 0), 0, 0, []),
  (.iload 4, (4, 0, 0, 0), 0, 0, []),
  (.iconst 1, (0, 0, 0, 0), 1, 0, []),
  (.iadd, (0, 0, 0, 0), 0, 0, []),
  (.iaload, (17, 0, 0, 0), 0, 0, []),
  (.invokevirtual 71, (249, 2, 1, 11), 0, 0, []),
  (.if_icmp .eq 1198, (1142, 0, 0, 0), 0, 0, []),
  (.iconst 0, (0, 0, 0, 0), 0, 0, []),
  (.ireturn, (0, 0, 1, 0), 0, 0, []),
  (.aload_n 1, (1, 0, 0, 0), 0, 0, []),
  (.aload_n 0, (0, 0, 0, 0), 0, 0, []),
  (.iload 4, (4, 0, 0, 0), 0, 0, []),
  (.iconst 1, (0, 0, 0, 0), 1, 0, []),
  (.iadd, (0, 0, 0, 0), 0, 0, []),
  (.iaload, (17, 0, 0, 0), 0, 0, []),
  (.aload_n 0, (0, 0, 0, 0), 0, 0, []),
  (.iload 4, (4, 0, 0, 0), 0, 0, []),
  (.iconst 2, (0, 0, 0, 0), 2, 0, []),
  (.iadd, (0, 0, 0, 0), 0, 0, [])]
def k_315_4 : List aM := [(.iaload, (17, 0, 0, 0), 0, 0, []),
  (.invokevirtual 72, (124, 3, 1, 9), 0, 0, []),
  (.aload_n 2, (2, 0, 0, 0), 0, 0, []),
  (.aload_n 0, (0, 0, 0, 0), 0, 0, []),
  (.iload 4, (4, 0, 0, 0), 0, 0, []),
  (.iconst 1, (0, 0, 0, 0), 1, 0, []),
  (.iadd, (0, 0, 0, 0), 0, 0, []),
  (.iaload, (17, 0, 0, 0), 0, 0, []),
  (.aload_n 0, (0, 0, 0, 0), 0, 0, []),
  (.iload 4, (4, 0, 0, 0), 0, 0, []),
  (.iconst 2, (0, 0, 0, 0), 2, 0, []),
  (.iadd, (0, 0, 0, 0), 0, 0, []),
  (.iaload, (17, 0, 0, 0), 0, 0, []),
  (.invokevirtual 75, (251, 3, 1, 11), 0, 0, []),
  (.if_icmp .eq 1161, (1142, 0, 0, 0), 0, 0, []),
  (.iconst 0, (0, 0, 0, 0), 0, 0, []),
  (.ireturn, (0, 0, 1, 0), 0, 0, []),
  (.aload_n 1, (1, 0, 0, 0), 0, 0, []),
  (.invokevirtual 76, (125, 1, 1, 9), 0, 0, []),
  (.aload_n 2, (2, 0, 0, 0), 0, 0, []),
  (.invokevirtual 79, (254, 1, 1, 11), 0, 0, []),
  (.if_icmp .eq 1148, (1142, 0, 0, 0), 0, 0, []),
  (.iconst 0, (0, 0, 0, 0), 0, 0, []),
  (.ireturn, (0, 0, 1, 0), 0, 0, []),
  (.aload_n 1, (1, 0, 0, 0), 0, 0, []),
  (.invokevirtual 80, (126, 1, 1, 9), 0, 0, []),
  (.aload_n 2, (2, 0, 0, 0), 0, 0, []),
  (.invokevirtual 83, (255, 1, 1, 11), 0, 0, []),
  (.if_icmp .eq 1135, (1142, 0, 0, 0), 0, 0, []),
  (.iconst 0, (0, 0, 0, 0), 0, 0, []),
  (.ireturn, (0, 0, 1, 0), 0, 0, []),
  (.aload_n 1, (1, 0, 0, 0), 0, 0, []),
  (.aload_n 0, (0, 0, 0, 0), 0, 0, []),
  (.iload 4, (4, 0, 0, 0), 0, 0, []),
  (.iconst 1, (0, 0, 0, 0), 1, 0, []),
  (.iadd, (0, 0, 0, 0), 0, 0, []),
  (.iaload, (17, 0, 0, 0), 0, 0, []),
  (.aload_n 0, (0, 0, 0, 0), 0, 0, []),
  (.iload 4, (4, 0, 0, 0), 0, 0, []),
  (.iconst 2, (0, 0, 0, 0), 2, 0, []),
  (.iadd, (0, 0, 0, 0), 0, 0, []),
  (.iaload, (17, 0, 0, 0), 0, 0, []),
  (.invokevirtual 84, (127, 3, 1, 9), 0, 0, []),
  (.aload_n 2, (2, 0, 0, 0), 0, 0, []),
  (.aload_n 0, (0, 0, 0, 0), 0, 0, []),
  (.iload 4, (4, 0, 0, 0), 0, 0, []),
  (.iconst 1, (0, 0, 0, 0), 1, 0, []),
  (.iadd, (0, 0, 0, 0), 0, 0, []),
  (.iaload, (17, 0, 0, 0), 0, 0, []),
  (.aload_n 0, (0, 0, 0, 0), 0, 0, []),
  (.iload 4, (4, 0, 0, 0), 0, 0, []),
  (.iconst 2, (0, 0, 0, 0), 2, 0, []),
  (.iadd, (0, 0, 0, 0), 0, 0, []),
  (.iaload, (17, 0, 0, 0), 0, 0, []),
  (.invokevirtual 87, (257, 3, 1, 11), 0, 0, []),
  (.if_icmp .eq 1098, (1142, 0, 0, 0), 0, 0, []),
  (.iconst 0, (0, 0, 0, 0), 0, 0, []),
  (.ireturn, (0, 0, 1, 0), 0, 0, []),
  (.aload_n 1, (1, 0, 0, 0), 0, 0, []),
  (.aload_n 0, (0, 0, 0, 0), 0, 0, []),
  (.iload 4, (4, 0, 0, 0), 0, 0, []),
  (.iconst 1, (0, 0, 0, 0), 1, 0, []),
  (.iadd, (0, 0, 0, 0), 0, 0, []),
  (.iaload, (17, 0, 0, 0), 0, 0, []),
  (.invokevirtual 88, (128, 2, 1, 9), 0, 0, []),
  (.aload_n 2, (2, 0, 0, 0), 0, 0, []),
  (.aload_n 0, (0, 0, 0, 0), 0, 0, []),
  (.iload 4, (4, 0, 0, 0), 0, 0, []),
  (.iconst 1, (0, 0, 0, 0), 1, 0, []),
  (.iadd, (0, 0, 0, 0), 0, 0, []),
  (.iaload, (17, 0, 0, 0), 0, 0, []),
  (.invokevirtual 91, (258, 2, 1, 11), 0, 0, []),
  (.if_icmp .eq 1073, (1142, 0, 0, 0), 0, 0, []),
  (.iconst 0, (0, 0, 0, 0), 0, 0, []),
  (.ireturn, (0, 0, 1, 0), 0, 0, []),
  (.aload_n 1, (1, 0, 0, 0), 0, 0, []),
  (.aload_n 0, (0, 0, 0, 0), 0, 0, []),
  (.iload 4, (4, 0, 0, 0), 0, 0, []),
  (.iconst 1, (0, 0, 0, 0), 1, 0, []),
  (.iadd, (0, 0, 0, 0), 0, 0, [])]
def k_315_5 : List aM := [(.iaload, (17, 0, 0, 0), 0, 0, []),
  (.aload_n 0, (0, 0, 0, 0), 0, 0, []),
  (.iload 4, (4, 0, 0, 0), 0, 0, []),
  (.iconst 2, (0, 0, 0, 0), 2, 0, []),
  (.iadd, (0, 0, 0, 0), 0, 0, []),
  (.iaload, (17, 0, 0, 0), 0, 0, []),
  (.aload_n 0, (0, 0, 0, 0), 0, 0, []),
  (.iload 4, (4, 0, 0, 0), 0, 0, []),
  (.iconst 3, (0, 0, 0, 0), 3, 0, []),
  (.iadd, (0, 0, 0, 0), 0, 0, []),
  (.iaload, (17, 0, 0, 0), 0, 0, []),
  (.aload_n 0, (0, 0, 0, 0), 0, 0, []),
  (.iload 4, (4, 0, 0, 0), 0, 0, []),
  (.iconst 4, (0, 0, 0, 0), 4, 0, []),
  (.iadd, (0, 0, 0, 0), 0, 0, []),
  (.iaload, (17, 0, 0, 0), 0, 0, []),
  (.invokevirtual 92, (129, 5, 1, 9), 0, 0, []),
  (.aload_n 2, (2, 0, 0, 0), 0, 0, []),
  (.aload_n 0, (0, 0, 0, 0), 0, 0, []),
  (.iload 4, (4, 0, 0, 0), 0, 0, []),
  (.iconst 1, (0, 0, 0, 0), 1, 0, []),
  (.iadd, (0, 0, 0, 0), 0, 0, []),
  (.iaload, (17, 0, 0, 0), 0, 0, []),
  (.aload_n 0, (0, 0, 0, 0), 0, 0, []),
  (.iload 4, (4, 0, 0, 0), 0, 0, []),
  (.iconst 2, (0, 0, 0, 0), 2, 0, []),
  (.iadd, (0, 0, 0, 0), 0, 0, []),
  (.iaload, (17, 0, 0, 0), 0, 0, []),
  (.aload_n 0, (0, 0, 0, 0), 0, 0, []),
  (.iload 4, (4, 0, 0, 0), 0, 0, []),
  (.iconst 3, (0, 0, 0, 0), 3, 0, []),
  (.iadd, (0, 0, 0, 0), 0, 0, []),
  (.iaload, (17, 0, 0, 0), 0, 0, []),
  (.aload_n 0, (0, 0, 0, 0), 0, 0, []),
  (.iload 4, (4, 0, 0, 0), 0, 0, []),
  (.iconst 4, (0, 0, 0, 0), 4, 0, []),
  (.iadd, (0, 0, 0, 0), 0, 0, []),
  (.iaload, (17, 0, 0, 0), 0, 0, []),
  (.invokevirtual 95, (262, 5, 1, 11), 0, 0, []),
  (.if_icmp .eq 1012, (1142, 0, 0, 0), 0, 0, []),
  (.iconst 0, (0, 0, 0, 0), 0, 0, []),
  (.ireturn, (0, 0, 1, 0), 0, 0, []),
  (.aload_n 1, (1, 0, 0, 0), 0, 0, []),
  (.aload_n 0, (0, 0, 0, 0), 0, 0, []),
  (.iload 4, (4, 0, 0, 0), 0, 0, []),
  (.iconst 1, (0, 0, 0, 0), 1, 0, []),
  (.iadd, (0, 0, 0, 0), 0, 0, []),
  (.iaload, (17, 0, 0, 0), 0, 0, []),
  (.aload_n 0, (0, 0, 0, 0), 0, 0, []),
  (.iload 4, (4, 0, 0, 0), 0, 0, []),
  (.iconst 2, (0, 0, 0, 0), 2, 0, []),
  (.iadd, (0, 0, 0, 0), 0, 0, []),
  (.iaload, (17, 0, 0, 0), 0, 0, []),
  (.aload_n 0, (0, 0, 0, 0), 0, 0, []),
  (.iload 4, (4, 0, 0, 0), 0, 0, []),
  (.iconst 3, (0, 0, 0, 0), 3, 0, []),
  (.iadd, (0, 0, 0, 0), 0, 0, []),
  (.iaload, (17, 0, 0, 0), 0, 0, []),
  (.aload_n 0, (0, 0, 0, 0), 0, 0, []),
  (.iload 4, (4, 0, 0, 0), 0, 0, []),
  (.iconst 4, (0, 0, 0, 0), 4, 0, []),
  (.iadd, (0, 0, 0, 0), 0, 0, []),
  (.iaload, (17, 0, 0, 0), 0, 0, []),
  (.invokevirtual 96, (130, 5, 1, 9), 0, 0, []),
  (.aload_n 2, (2, 0, 0, 0), 0, 0, []),
  (.aload_n 0, (0, 0, 0, 0), 0, 0, []),
  (.iload 4, (4, 0, 0, 0), 0, 0, []),
  (.iconst 1, (0, 0, 0, 0), 1, 0, []),
  (.iadd, (0, 0, 0, 0), 0, 0, []),
  (.iaload, (17, 0, 0, 0), 0, 0, []),
  (.aload_n 0, (0, 0, 0, 0), 0, 0, []),
  (.iload 4, (4, 0, 0, 0), 0, 0, []),
  (.iconst 2, (0, 0, 0, 0), 2, 0, []),
  (.iadd, (0, 0, 0, 0), 0, 0, []),
  (.iaload, (17, 0, 0, 0), 0, 0, []),
  (.aload_n 0, (0, 0, 0, 0), 0, 0, []),
  (.iload 4, (4, 0, 0, 0), 0, 0, []),
  (.iconst 3, (0, 0, 0, 0), 3, 0, []),
  (.iadd, (0, 0, 0, 0), 0, 0, []),
  (.iaload, (17, 0, 0, 0), 0, 0, [])]
def k_315_6 : List aM := [(.aload_n 0, (0, 0, 0, 0), 0, 0, []),
  (.iload 4, (4, 0, 0, 0), 0, 0, []),
  (.iconst 4, (0, 0, 0, 0), 4, 0, []),
  (.iadd, (0, 0, 0, 0), 0, 0, []),
  (.iaload, (17, 0, 0, 0), 0, 0, []),
  (.invokevirtual 99, (263, 5, 1, 11), 0, 0, []),
  (.if_icmp .eq 951, (1142, 0, 0, 0), 0, 0, []),
  (.iconst 0, (0, 0, 0, 0), 0, 0, []),
  (.ireturn, (0, 0, 1, 0), 0, 0, []),
  (.aload_n 1, (1, 0, 0, 0), 0, 0, []),
  (.aload_n 0, (0, 0, 0, 0), 0, 0, []),
  (.iload 4, (4, 0, 0, 0), 0, 0, []),
  (.iconst 1, (0, 0, 0, 0), 1, 0, []),
  (.iadd, (0, 0, 0, 0), 0, 0, []),
  (.iaload, (17, 0, 0, 0), 0, 0, []),
  (.invokevirtual 100, (131, 2, 1, 9), 0, 0, []),
  (.aload_n 2, (2, 0, 0, 0), 0, 0, []),
  (.aload_n 0, (0, 0, 0, 0), 0, 0, []),
  (.iload 4, (4, 0, 0, 0), 0, 0, []),
  (.iconst 1, (0, 0, 0, 0), 1, 0, []),
  (.iadd, (0, 0, 0, 0), 0, 0, []),
  (.iaload, (17, 0, 0, 0), 0, 0, []),
  (.invokevirtual 103, (264, 2, 1, 11), 0, 0, []),
  (.if_icmp .eq 926, (1142, 0, 0, 0), 0, 0, []),
  (.iconst 0, (0, 0, 0, 0), 0, 0, []),
  (.ireturn, (0, 0, 1, 0), 0, 0, []),
  (.aload_n 1, (1, 0, 0, 0), 0, 0, []),
  (.aload_n 0, (0, 0, 0, 0), 0, 0, []),
  (.iload 4, (4, 0, 0, 0), 0, 0, []),
  (.iconst 1, (0, 0, 0, 0), 1, 0, []),
  (.iadd, (0, 0, 0, 0), 0, 0, []),
  (.iaload, (17, 0, 0, 0), 0, 0, []),
  (.aload_n 0, (0, 0, 0, 0), 0, 0, []),
  (.iload 4, (4, 0, 0, 0), 0, 0, []),
  (.iconst 2, (0, 0, 0, 0), 2, 0, []),
  (.iadd, (0, 0, 0, 0), 0, 0, []),
  (.iaload, (17, 0, 0, 0), 0, 0, []),
  (.aload_n 0, (0, 0, 0, 0), 0, 0, []),
  (.iload 4, (4, 0, 0, 0), 0, 0, []),
  (.iconst 3, (0, 0, 0, 0), 3, 0, []),
  (.iadd, (0, 0, 0, 0), 0, 0, []),
  (.iaload, (17, 0, 0, 0), 0, 0, []),
  (.invokevirtual 104, (132, 4, 1, 9), 0, 0, []),
  (.aload_n 2, (2, 0, 0, 0), 0, 0, []),
  (.aload_n 0, (0, 0, 0, 0), 0, 0, []),
  (.iload 4, (4, 0, 0, 0), 0, 0, []),
  (.iconst 1, (0, 0, 0, 0), 1, 0, []),
  (.iadd, (0, 0, 0, 0), 0, 0, []),
  (.iaload, (17, 0, 0, 0), 0, 0, []),
  (.aload_n 0, (0, 0, 0, 0), 0, 0, []),
  (.iload 4, (4, 0, 0, 0), 0, 0, []),
  (.iconst 2, (0, 0, 0, 0), 2, 0, []),
  (.iadd, (0, 0, 0, 0), 0, 0, []),
  (.iaload, (17, 0, 0, 0), 0, 0, []),
  (.aload_n 0, (0, 0, 0, 0), 0, 0, []),
  (.iload 4, (4, 0, 0, 0), 0, 0, []),
  (.iconst 3, (0, 0, 0, 0), 3, 0, []),
  (.iadd, (0, 0, 0, 0), 0, 0, []),
  (.iaload, (17, 0, 0, 0), 0, 0, []),
  (.invokevirtual 107, (265, 4, 1, 11), 0, 0, []),
  (.if_icmp .eq 877, (1142, 0, 0, 0), 0, 0, []),
  (.iconst 0, (0, 0, 0, 0), 0, 0, []),
  (.ireturn, (0, 0, 1, 0), 0, 0, []),
  (.aload_n 1, (1, 0, 0, 0), 0, 0, []),
  (.invokevirtual 108, (133, 1, 1, 9), 0, 0, []),
  (.aload_n 2, (2, 0, 0, 0), 0, 0, []),
  (.invokevirtual 111, (268, 1, 1, 11), 0, 0, []),
  (.if_icmp .eq 864, (1142, 0, 0, 0), 0, 0, []),
  (.iconst 0, (0, 0, 0, 0), 0, 0, []),
  (.ireturn, (0, 0, 1, 0), 0, 0, []),
  (.aload_n 1, (1, 0, 0, 0), 0, 0, []),
  (.aload_n 0, (0, 0, 0, 0), 0, 0, []),
  (.iload 4, (4, 0, 0, 0), 0, 0, []),
  (.iconst 1, (0, 0, 0, 0), 1, 0, []),
  (.iadd, (0, 0, 0, 0), 0, 0, []),
  (.iaload, (17, 0, 0, 0), 0, 0, []),
  (.invokevirtual 112, (134, 2, 1, 9), 0, 0, []),
  (.aload_n 2, (2, 0, 0, 0), 0, 0, []),
  (.aload_n 0, (0, 0, 0, 0), 0, 0, []),
  (.iload 4, (4, 0, 0, 0), 0, 0, [])]
def k_315_7 : List aM := [(.iconst 1, (0, 0, 0, 0), 1, 0, []),
  (.iadd, (0, 0, 0, 0), 0, 0, []),
  (.iaload, (17, 0, 0, 0), 0, 0, []),
  (.invokevirtual 115, (274, 2, 1, 11), 0, 0, []),
  (.if_icmp .eq 839, (1142, 0, 0, 0), 0, 0, []),
  (.iconst 0, (0, 0, 0, 0), 0, 0, []),
  (.ireturn, (0, 0, 1, 0), 0, 0, []),
  (.aload_n 1, (1, 0, 0, 0), 0, 0, []),
  (.aload_n 0, (0, 0, 0, 0), 0, 0, []),
  (.iload 4, (4, 0, 0, 0), 0, 0, []),
  (.iconst 1, (0, 0, 0, 0), 1, 0, []),
  (.iadd, (0, 0, 0, 0), 0, 0, []),
  (.iaload, (17, 0, 0, 0), 0, 0, []),
  (.aload_n 0, (0, 0, 0, 0), 0, 0, []),
  (.iload 4, (4, 0, 0, 0), 0, 0, []),
  (.iconst 2, (0, 0, 0, 0), 2, 0, []),
  (.iadd, (0, 0, 0, 0), 0, 0, []),
  (.iaload, (17, 0, 0, 0), 0, 0, []),
  (.aload_n 0, (0, 0, 0, 0), 0, 0, []),
  (.iload 4, (4, 0, 0, 0), 0, 0, []),
  (.iconst 3, (0, 0, 0, 0), 3, 0, []),
  (.iadd, (0, 0, 0, 0), 0, 0, []),
  (.iaload, (17, 0, 0, 0), 0, 0, []),
  (.invokevirtual 116, (135, 4, 1, 9), 0, 0, []),
  (.aload_n 2, (2, 0, 0, 0), 0, 0, []),
  (.aload_n 0, (0, 0, 0, 0), 0, 0, []),
  (.iload 4, (4, 0, 0, 0), 0, 0, []),
  (.iconst 1, (0, 0, 0, 0), 1, 0, []),
  (.iadd, (0, 0, 0, 0), 0, 0, []),
  (.iaload, (17, 0, 0, 0), 0, 0, []),
  (.aload_n 0, (0, 0, 0, 0), 0, 0, []),
  (.iload 4, (4, 0, 0, 0), 0, 0, []),
  (.iconst 2, (0, 0, 0, 0), 2, 0, []),
  (.iadd, (0, 0, 0, 0), 0, 0, []),
  (.iaload, (17, 0, 0, 0), 0, 0, []),
  (.aload_n 0, (0, 0, 0, 0), 0, 0, []),
  (.iload 4, (4, 0, 0, 0), 0, 0, []),
  (.iconst 3, (0, 0, 0, 0), 3, 0, []),
  (.iadd, (0, 0, 0, 0), 0, 0, []),
  (.iaload, (17, 0, 0, 0), 0, 0, []),
  (.invokevirtual 119, (277, 4, 1, 11), 0, 0, []),
  (.if_icmp .eq 790, (1142, 0, 0, 0), 0, 0, []),
  (.iconst 0, (0, 0, 0, 0), 0, 0, []),
  (.ireturn, (0, 0, 1, 0), 0, 0, []),
  (.aload_n 1, (1, 0, 0, 0), 0, 0, []),
  (.aload_n 0, (0, 0, 0, 0), 0, 0, []),
  (.iload 4, (4, 0, 0, 0), 0, 0, []),
  (.iconst 1, (0, 0, 0, 0), 1, 0, []),
  (.iadd, (0, 0, 0, 0), 0, 0, []),
  (.iaload, (17, 0, 0, 0), 0, 0, []),
  (.invokevirtual 120, (136, 2, 1, 9), 0, 0, []),
  (.aload_n 2, (2, 0, 0, 0), 0, 0, []),
  (.aload_n 0, (0, 0, 0, 0), 0, 0, []),
  (.iload 4, (4, 0, 0, 0), 0, 0, []),
  (.iconst 1, (0, 0, 0, 0), 1, 0, []),
  (.iadd, (0, 0, 0, 0), 0, 0, []),
  (.iaload, (17, 0, 0, 0), 0, 0, []),
  (.invokevirtual 123, (278, 2, 1, 11), 0, 0, []),
  (.if_icmp .eq 765, (1142, 0, 0, 0), 0, 0, []),
  (.iconst 0, (0, 0, 0, 0), 0, 0, []),
  (.ireturn, (0, 0, 1, 0), 0, 0, []),
  (.aload_n 1, (1, 0, 0, 0), 0, 0, []),
  (.invokevirtual 124, (137, 1, 1, 9), 0, 0, []),
  (.aload_n 2, (2, 0, 0, 0), 0, 0, []),
  (.invokevirtual 127, (282, 1, 1, 11), 0, 0, []),
  (.if_icmp .eq 752, (1142, 0, 0, 0), 0, 0, []),
  (.iconst 0, (0, 0, 0, 0), 0, 0, []),
  (.ireturn, (0, 0, 1, 0), 0, 0, []),
  (.aload_n 1, (1, 0, 0, 0), 0, 0, []),
  (.aload_n 0, (0, 0, 0, 0), 0, 0, []),
  (.iload 4, (4, 0, 0, 0), 0, 0, []),
  (.iconst 1, (0, 0, 0, 0), 1, 0, []),
  (.iadd, (0, 0, 0, 0), 0, 0, []),
  (.iaload, (17, 0, 0, 0), 0, 0, []),
  (.invokevirtual 128, (138, 2, 1, 9), 0, 0, []),
  (.aload_n 2, (2, 0, 0, 0), 0, 0, []),
  (.aload_n 0, (0, 0, 0, 0), 0, 0, []),
  (.iload 4, (4, 0, 0, 0), 0, 0, []),
  (.iconst 1, (0, 0, 0, 0), 1, 0, []),
  (.iadd, (0, 0, 0, 0), 0, 0, [])]
def k_315_8 : List aM := [(.iaload, (17, 0, 0, 0), 0, 0, []),
  (.invokevirtual 131, (284, 2, 1, 11), 0, 0, []),
  (.if_icmp .eq 727, (1142, 0, 0, 0), 0, 0, []),
  (.iconst 0, (0, 0, 0, 0), 0, 0, []),
  (.ireturn, (0, 0, 1, 0), 0, 0, []),
  (.aload_n 1, (1, 0, 0, 0), 0, 0, []),
  (.aload_n 0, (0, 0, 0, 0), 0, 0, []),
  (.iload 4, (4, 0, 0, 0), 0, 0, []),
  (.iconst 1, (0, 0, 0, 0), 1, 0, []),
  (.iadd, (0, 0, 0, 0), 0, 0, []),
  (.iaload, (17, 0, 0, 0), 0, 0, []),
  (.invokevirtual 132, (139, 2, 1, 9), 0, 0, []),
  (.aload_n 2, (2, 0, 0, 0), 0, 0, []),
  (.aload_n 0, (0, 0, 0, 0), 0, 0, []),
  (.iload 4, (4, 0, 0, 0), 0, 0, []),
  (.iconst 1, (0, 0, 0, 0), 1, 0, []),
  (.iadd, (0, 0, 0, 0), 0, 0, []),
  (.iaload, (17, 0, 0, 0), 0, 0, []),
  (.invokevirtual 135, (285, 2, 1, 11), 0, 0, []),
  (.if_icmp .eq 702, (1142, 0, 0, 0), 0, 0, []),
  (.iconst 0, (0, 0, 0, 0), 0, 0, []),
  (.ireturn, (0, 0, 1, 0), 0, 0, []),
  (.aload_n 1, (1, 0, 0, 0), 0, 0, []),
  (.aload_n 0, (0, 0, 0, 0), 0, 0, []),
  (.iload 4, (4, 0, 0, 0), 0, 0, []),
  (.iconst 1, (0, 0, 0, 0), 1, 0, []),
  (.iadd, (0, 0, 0, 0), 0, 0, []),
  (.iaload, (17, 0, 0, 0), 0, 0, []),
  (.aload_n 0, (0, 0, 0, 0), 0, 0, []),
  (.iload 4, (4, 0, 0, 0), 0, 0, []),
  (.iconst 2, (0, 0, 0, 0), 2, 0, []),
  (.iadd, (0, 0, 0, 0), 0, 0, []),
  (.iaload, (17, 0, 0, 0), 0, 0, []),
  (.aload_n 0, (0, 0, 0, 0), 0, 0, []),
  (.iload 4, (4, 0, 0, 0), 0, 0, []),
  (.iconst 3, (0, 0, 0, 0), 3, 0, []),
  (.iadd, (0, 0, 0, 0), 0, 0, []),
  (.iaload, (17, 0, 0, 0), 0, 0, []),
  (.invokevirtual 136, (140, 4, 1, 9), 0, 0, []),
  (.aload_n 2, (2, 0, 0, 0), 0, 0, []),
  (.aload_n 0, (0, 0, 0, 0), 0, 0, []),
  (.iload 4, (4, 0, 0, 0), 0, 0, []),
  (.iconst 1, (0, 0, 0, 0), 1, 0, []),
  (.iadd, (0, 0, 0, 0), 0, 0, []),
  (.iaload, (17, 0, 0, 0), 0, 0, []),
  (.aload_n 0, (0, 0, 0, 0), 0, 0, []),
  (.iload 4, (4, 0, 0, 0), 0, 0, []),
  (.iconst 2, (0, 0, 0, 0), 2, 0, []),
  (.iadd, (0, 0, 0, 0), 0, 0, []),
  (.iaload, (17, 0, 0, 0), 0, 0, []),
  (.aload_n 0, (0, 0, 0, 0), 0, 0, []),
  (.iload 4, (4, 0, 0, 0), 0, 0, []),
  (.iconst 3, (0, 0, 0, 0), 3, 0, []),
  (.iadd, (0, 0, 0, 0), 0, 0, []),
  (.iaload, (17, 0, 0, 0), 0, 0, []),
  (.invokevirtual 139, (287, 4, 1, 11), 0, 0, []),
  (.if_icmp .eq 653, (1142, 0, 0, 0), 0, 0, []),
  (.iconst 0, (0, 0, 0, 0), 0, 0, []),
  (.ireturn, (0, 0, 1, 0), 0, 0, []),
  (.aload_n 1, (1, 0, 0, 0), 0, 0, []),
  (.aload_n 0, (0, 0, 0, 0), 0, 0, []),
  (.iload 4, (4, 0, 0, 0), 0, 0, []),
  (.iconst 1, (0, 0, 0, 0), 1, 0, []),
  (.iadd, (0, 0, 0, 0), 0, 0, []),
  (.iaload, (17, 0, 0, 0), 0, 0, []),
  (.invokevirtual 140, (141, 2, 1, 9), 0, 0, []),
  (.aload_n 2, (2, 0, 0, 0), 0, 0, []),
  (.aload_n 0, (0, 0, 0, 0), 0, 0, []),
  (.iload 4, (4, 0, 0, 0), 0, 0, []),
  (.iconst 1, (0, 0, 0, 0), 1, 0, []),
  (.iadd, (0, 0, 0, 0), 0, 0, []),
  (.iaload, (17, 0, 0, 0), 0, 0, []),
  (.invokevirtual 143, (288, 2, 1, 11), 0, 0, []),
  (.if_icmp .eq 628, (1142, 0, 0, 0), 0, 0, []),
  (.iconst 0, (0, 0, 0, 0), 0, 0, []),
  (.ireturn, (0, 0, 1, 0), 0, 0, []),
  (.aload_n 1, (1, 0, 0, 0), 0, 0, []),
  (.aload_n 0, (0, 0, 0, 0), 0, 0, []),
  (.iload 4, (4, 0, 0, 0), 0, 0, []),
  (.iconst 1, (0, 0, 0, 0), 1, 0, [])]
def k_315_9 : List aM := [(.iadd, (0, 0, 0, 0), 0, 0, []),
  (.iaload, (17, 0, 0, 0), 0, 0, []),
  (.invokevirtual 144, (142, 2, 1, 9), 0, 0, []),
  (.aload_n 2, (2, 0, 0, 0), 0, 0, []),
  (.aload_n 0, (0, 0, 0, 0), 0, 0, []),
  (.iload 4, (4, 0, 0, 0), 0, 0, []),
  (.iconst 1, (0, 0, 0, 0), 1, 0, []),
  (.iadd, (0, 0, 0, 0), 0, 0, []),
  (.iaload, (17, 0, 0, 0), 0, 0, []),
  (.invokevirtual 147, (290, 2, 1, 11), 0, 0, []),
  (.if_icmp .eq 603, (1142, 0, 0, 0), 0, 0, []),
  (.iconst 0, (0, 0, 0, 0), 0, 0, []),
  (.ireturn, (0, 0, 1, 0), 0, 0, []),
  (.aload_n 1, (1, 0, 0, 0), 0, 0, []),
  (.aload_n 0, (0, 0, 0, 0), 0, 0, []),
  (.iload 4, (4, 0, 0, 0), 0, 0, []),
  (.iconst 1, (0, 0, 0, 0), 1, 0, []),
  (.iadd, (0, 0, 0, 0), 0, 0, []),
  (.iaload, (17, 0, 0, 0), 0, 0, []),
  (.invokevirtual 148, (143, 2, 1, 9), 0, 0, []),
  (.aload_n 2, (2, 0, 0, 0), 0, 0, []),
  (.aload_n 0, (0, 0, 0, 0), 0, 0, []),
  (.iload 4, (4, 0, 0, 0), 0, 0, []),
  (.iconst 1, (0, 0, 0, 0), 1, 0, []),
  (.iadd, (0, 0, 0, 0), 0, 0, []),
  (.iaload, (17, 0, 0, 0), 0, 0, []),
  (.invokevirtual 151, (291, 2, 1, 11), 0, 0, []),
  (.if_icmp .eq 578, (1142, 0, 0, 0), 0, 0, []),
  (.iconst 0, (0, 0, 0, 0), 0, 0, []),
  (.ireturn, (0, 0, 1, 0), 0, 0, []),
  (.aload_n 1, (1, 0, 0, 0), 0, 0, []),
  (.aload_n 0, (0, 0, 0, 0), 0, 0, []),
  (.iload 4, (4, 0, 0, 0), 0, 0, []),
  (.iconst 1, (0, 0, 0, 0), 1, 0, []),
  (.iadd, (0, 0, 0, 0), 0, 0, []),
  (.iaload, (17, 0, 0, 0), 0, 0, []),
  (.aload_n 0, (0, 0, 0, 0), 0, 0, []),
  (.iload 4, (4, 0, 0, 0), 0, 0, []),
  (.iconst 2, (0, 0, 0, 0), 2, 0, []),
  (.iadd, (0, 0, 0, 0), 0, 0, []),
  (.iaload, (17, 0, 0, 0), 0, 0, []),
  (.invokevirtual 152, (144, 3, 1, 9), 0, 0, []),
  (.aload_n 2, (2, 0, 0, 0), 0, 0, []),
  (.aload_n 0, (0, 0, 0, 0), 0, 0, []),
  (.iload 4, (4, 0, 0, 0), 0, 0, []),
  (.iconst 1, (0, 0, 0, 0), 1, 0, []),
  (.iadd, (0, 0, 0, 0), 0, 0, []),
  (.iaload, (17, 0, 0, 0), 0, 0, []),
  (.aload_n 0, (0, 0, 0, 0), 0, 0, []),
  (.iload 4, (4, 0, 0, 0), 0, 0, []),
  (.iconst 2, (0, 0, 0, 0), 2, 0, []),
  (.iadd, (0, 0, 0, 0), 0, 0, []),
  (.iaload, (17, 0, 0, 0), 0, 0, []),
  (.invokevirtual 155, (292, 3, 1, 11), 0, 0, []),
  (.if_icmp .eq 541, (1142, 0, 0, 0), 0, 0, []),
  (.iconst 0, (0, 0, 0, 0), 0, 0, []),
  (.ireturn, (0, 0, 1, 0), 0, 0, []),
  (.aload_n 1, (1, 0, 0, 0), 0, 0, []),
  (.aload_n 0, (0, 0, 0, 0), 0, 0, []),
  (.iload 4, (4, 0, 0, 0), 0, 0, []),
  (.iconst 1, (0, 0, 0, 0), 1, 0, []),
  (.iadd, (0, 0, 0, 0), 0, 0, []),
  (.iaload, (17, 0, 0, 0), 0, 0, []),
  (.aload_n 0, (0, 0, 0, 0), 0, 0, []),
  (.iload 4, (4, 0, 0, 0), 0, 0, []),
  (.iconst 2, (0, 0, 0, 0), 2, 0, []),
  (.iadd, (0, 0, 0, 0), 0, 0, []),
  (.iaload, (17, 0, 0, 0), 0, 0, []),
  (.ifCond .eq 7, (791, 0, 0, 0), 0, 0, []),
  (.iconst 1, (0, 0, 0, 0), 1, 0, []),
  (.goto 4, (792, 0, 0, 0), 0, 0, []),
  (.iconst 0, (0, 0, 0, 0), 0, 0, []),
  (.nop, (0, 0, 0, 0), 0, 0, [(0, 1), (0, 1), (0, 1), (0, 1), (0, 1), (0, 0), (0, 0)]),
  (.aload_n 0, (0, 0, 0, 0), 0, 0, []),
  (.iload 4, (4, 0, 0, 0), 0, 0, []),
  (.iconst 3, (0, 0, 0, 0), 3, 0, []),
  (.iadd, (0, 0, 0, 0), 0, 0, []),
  (.iaload, (17, 0, 0, 0), 0, 0, []),
  (.ifCond .eq 7, (801, 0, 0, 0), 0, 0, []),
  (.iconst 1, (0, 0, 0, 0), 1, 0, [])]
def k_315_10 : List aM := [(.goto 4, (802, 0, 0, 0), 0, 0, []),
  (.iconst 0, (0, 0, 0, 0), 0, 0, []),
  (.nop, (0, 0, 0, 0), 0, 0, [(0, 1), (0, 1), (0, 1), (0, 1), (0, 1), (0, 0), (0, 0)]),
  (.aload_n 0, (0, 0, 0, 0), 0, 0, []),
  (.iload 4, (4, 0, 0, 0), 0, 0, []),
  (.iconst 4, (0, 0, 0, 0), 4, 0, []),
  (.iadd, (0, 0, 0, 0), 0, 0, []),
  (.iaload, (17, 0, 0, 0), 0, 0, []),
  (.ifCond .eq 7, (811, 0, 0, 0), 0, 0, []),
  (.iconst 1, (0, 0, 0, 0), 1, 0, []),
  (.goto 4, (812, 0, 0, 0), 0, 0, []),
  (.iconst 0, (0, 0, 0, 0), 0, 0, []),
  (.nop, (0, 0, 0, 0), 0, 0, [(0, 1), (0, 1), (0, 1), (0, 1), (0, 1), (0, 0), (0, 0)]),
  (.invokevirtual 156, (145, 5, 1, 9), 0, 0, []),
  (.aload_n 2, (2, 0, 0, 0), 0, 0, []),
  (.aload_n 0, (0, 0, 0, 0), 0, 0, []),
  (.iload 4, (4, 0, 0, 0), 0, 0, []),
  (.iconst 1, (0, 0, 0, 0), 1, 0, []),
  (.iadd, (0, 0, 0, 0), 0, 0, []),
  (.iaload, (17, 0, 0, 0), 0, 0, []),
  (.aload_n 0, (0, 0, 0, 0), 0, 0, []),
  (.iload 4, (4, 0, 0, 0), 0, 0, []),
  (.iconst 2, (0, 0, 0, 0), 2, 0, []),
  (.iadd, (0, 0, 0, 0), 0, 0, []),
  (.iaload, (17, 0, 0, 0), 0, 0, []),
  (.ifCond .eq 7, (828, 0, 0, 0), 0, 0, []),
  (.iconst 1, (0, 0, 0, 0), 1, 0, []),
  (.goto 4, (829, 0, 0, 0), 0, 0, []),
  (.iconst 0, (0, 0, 0, 0), 0, 0, []),
  (.nop, (0, 0, 0, 0), 0, 0, [(0, 1), (0, 1), (0, 1), (0, 1), (0, 1), (0, 0), (0, 0)]),
  (.aload_n 0, (0, 0, 0, 0), 0, 0, []),
  (.iload 4, (4, 0, 0, 0), 0, 0, []),
  (.iconst 3, (0, 0, 0, 0), 3, 0, []),
  (.iadd, (0, 0, 0, 0), 0, 0, []),
  (.iaload, (17, 0, 0, 0), 0, 0, []),
  (.ifCond .eq 7, (838, 0, 0, 0), 0, 0, []),
  (.iconst 1, (0, 0, 0, 0), 1, 0, []),
  (.goto 4, (839, 0, 0, 0), 0, 0, []),
  (.iconst 0, (0, 0, 0, 0), 0, 0, []),
  (.nop, (0, 0, 0, 0), 0, 0, [(0, 1), (0, 1), (0, 1), (0, 1), (0, 1), (0, 0), (0, 0)]),
  (.aload_n 0, (0, 0, 0, 0), 0, 0, []),
  (.iload 4, (4, 0, 0, 0), 0, 0, []),
  (.iconst 4, (0, 0, 0, 0), 4, 0, []),
  (.iadd, (0, 0, 0, 0), 0, 0, []),
  (.iaload, (17, 0, 0, 0), 0, 0, []),
  (.ifCond .eq 7, (848, 0, 0, 0), 0, 0, []),
  (.iconst 1, (0, 0, 0, 0), 1, 0, []),
  (.goto 4, (849, 0, 0, 0), 0, 0, []),
  (.iconst 0, (0, 0, 0, 0), 0, 0, []),
  (.nop, (0, 0, 0, 0), 0, 0, [(0, 1), (0, 1), (0, 1), (0, 1), (0, 1), (0, 0), (0, 0)]),
  (.invokevirtual 160, (295, 5, 1, 11), 0, 0, []),
  (.if_icmp .eq 432, (1142, 0, 0, 0), 0, 0, []),
  (.iconst 0, (0, 0, 0, 0), 0, 0, []),
  (.ireturn, (0, 0, 1, 0), 0, 0, []),
  (.aload_n 1, (1, 0, 0, 0), 0, 0, []),
  (.aload_n 0, (0, 0, 0, 0), 0, 0, []),
  (.iload 4, (4, 0, 0, 0), 0, 0, []),
  (.iconst 1, (0, 0, 0, 0), 1, 0, []),
  (.iadd, (0, 0, 0, 0), 0, 0, []),
  (.iaload, (17, 0, 0, 0), 0, 0, []),
  (.invokevirtual 161, (146, 2, 1, 9), 0, 0, []),
  (.aload_n 2, (2, 0, 0, 0), 0, 0, []),
  (.aload_n 0, (0, 0, 0, 0), 0, 0, []),
  (.iload 4, (4, 0, 0, 0), 0, 0, []),
  (.iconst 1, (0, 0, 0, 0), 1, 0, []),
  (.iadd, (0, 0, 0, 0), 0, 0, []),
  (.iaload, (17, 0, 0, 0), 0, 0, []),
  (.invokevirtual 164, (297, 2, 1, 11), 0, 0, []),
  (.if_icmp .eq 407, (1142, 0, 0, 0), 0, 0, []),
  (.iconst 0, (0, 0, 0, 0), 0, 0, []),
  (.ireturn, (0, 0, 1, 0), 0, 0, []),
  (.aload_n 1, (1, 0, 0, 0), 0, 0, []),
  (.aload_n 0, (0, 0, 0, 0), 0, 0, []),
  (.iload 4, (4, 0, 0, 0), 0, 0, []),
  (.iconst 1, (0, 0, 0, 0), 1, 0, []),
  (.iadd, (0, 0, 0, 0), 0, 0, []),
  (.iaload, (17, 0, 0, 0), 0, 0, []),
  (.invokevirtual 165, (147, 2, 1, 9), 0, 0, []),
  (.aload_n 2, (2, 0, 0, 0), 0, 0, []),
  (.aload_n 0, (0, 0, 0, 0), 0, 0, [])]
def k_315_11 : List aM := [(.iload 4, (4, 0, 0, 0), 0, 0, []),
  (.iconst 1, (0, 0, 0, 0), 1, 0, []),
  (.iadd, (0, 0, 0, 0), 0, 0, []),
  (.iaload, (17, 0, 0, 0), 0, 0, []),
  (.invokevirtual 168, (298, 2, 1, 11), 0, 0, []),
  (.if_icmp .eq 382, (1142, 0, 0, 0), 0, 0, []),
  (.iconst 0, (0, 0, 0, 0), 0, 0, []),
  (.ireturn, (0, 0, 1, 0), 0, 0, []),
  (.aload_n 1, (1, 0, 0, 0), 0, 0, []),
  (.aload_n 0, (0, 0, 0, 0), 0, 0, []),
  (.iload 4, (4, 0, 0, 0), 0, 0, []),
  (.iconst 1, (0, 0, 0, 0), 1, 0, []),
  (.iadd, (0, 0, 0, 0), 0, 0, []),
  (.iaload, (17, 0, 0, 0), 0, 0, []),
  (.aload_n 0, (0, 0, 0, 0), 0, 0, []),
  (.iload 4, (4, 0, 0, 0), 0, 0, []),
  (.iconst 2, (0, 0, 0, 0), 2, 0, []),
  (.iadd, (0, 0, 0, 0), 0, 0, []),
  (.iaload, (17, 0, 0, 0), 0, 0, []),
  (.ifCond .eq 7, (902, 0, 0, 0), 0, 0, []),
  (.iconst 1, (0, 0, 0, 0), 1, 0, []),
  (.goto 4, (903, 0, 0, 0), 0, 0, []),
  (.iconst 0, (0, 0, 0, 0), 0, 0, []),
  (.nop, (0, 0, 0, 0), 0, 0, [(0, 1), (0, 1), (0, 1), (0, 1), (0, 1), (0, 0), (0, 0)]),
  (.invokevirtual 169, (148, 3, 2, 9), 0, 0, []),
  (.aload_n 2, (2, 0, 0, 0), 0, 0, []),
  (.aload_n 0, (0, 0, 0, 0), 0, 0, []),
  (.iload 4, (4, 0, 0, 0), 0, 0, []),
  (.iconst 1, (0, 0, 0, 0), 1, 0, []),
  (.iadd, (0, 0, 0, 0), 0, 0, []),
  (.iaload, (17, 0, 0, 0), 0, 0, []),
  (.aload_n 0, (0, 0, 0, 0), 0, 0, []),
  (.iload 4, (4, 0, 0, 0), 0, 0, []),
  (.iconst 2, (0, 0, 0, 0), 2, 0, []),
  (.iadd, (0, 0, 0, 0), 0, 0, []),
  (.iaload, (17, 0, 0, 0), 0, 0, []),
  (.ifCond .eq 7, (919, 0, 0, 0), 0, 0, []),
  (.iconst 1, (0, 0, 0, 0), 1, 0, []),
  (.goto 4, (920, 0, 0, 0), 0, 0, []),
  (.iconst 0, (0, 0, 0, 0), 0, 0, []),
  (.nop, (0, 0, 0, 0), 0, 0, [(0, 1), (0, 1), (0, 1), (0, 1), (0, 1), (0, 0), (0, 0)]),
  (.invokevirtual 173, (300, 3, 2, 11), 0, 0, []),
  (.lcmp, (0, 0, 0, 0), 0, 0, []),
  (.ifCond .eq 328, (1142, 0, 0, 0), 0, 0, []),
  (.iconst 0, (0, 0, 0, 0), 0, 0, []),
  (.ireturn, (0, 0, 1, 0), 0, 0, []),
  (.aload_n 1, (1, 0, 0, 0), 0, 0, []),
  (.aload_n 0, (0, 0, 0, 0), 0, 0, []),
  (.iload 4, (4, 0, 0, 0), 0, 0, []),
  (.iconst 1, (0, 0, 0, 0), 1, 0, []),
  (.iadd, (0, 0, 0, 0), 0, 0, []),
  (.iaload, (17, 0, 0, 0), 0, 0, []),
  (.ifCond .eq 7, (935, 0, 0, 0), 0, 0, []),
  (.iconst 1, (0, 0, 0, 0), 1, 0, []),
  (.goto 4, (936, 0, 0, 0), 0, 0, []),
  (.iconst 0, (0, 0, 0, 0), 0, 0, []),
  (.nop, (0, 0, 0, 0), 0, 0, [(0, 1), (0, 1), (0, 1), (0, 1), (0, 1), (0, 0), (0, 0)]),
  (.invokevirtual 174, (149, 2, 2, 9), 0, 0, []),
  (.aload_n 2, (2, 0, 0, 0), 0, 0, []),
  (.aload_n 0, (0, 0, 0, 0), 0, 0, []),
  (.iload 4, (4, 0, 0, 0), 0, 0, []),
  (.iconst 1, (0, 0, 0, 0), 1, 0, []),
  (.iadd, (0, 0, 0, 0), 0, 0, []),
  (.iaload, (17, 0, 0, 0), 0, 0, []),
  (.ifCond .eq 7, (947, 0, 0, 0), 0, 0, []),
  (.iconst 1, (0, 0, 0, 0), 1, 0, []),
  (.goto 4, (948, 0, 0, 0), 0, 0, []),
  (.iconst 0, (0, 0, 0, 0), 0, 0, []),
  (.nop, (0, 0, 0, 0), 0, 0, [(0, 1), (0, 1), (0, 1), (0, 1), (0, 1), (0, 0), (0, 0)]),
  (.invokevirtual 178, (301, 2, 2, 11), 0, 0, []),
  (.lcmp, (0, 0, 0, 0), 0, 0, []),
  (.ifCond .eq 286, (1142, 0, 0, 0), 0, 0, []),
  (.iconst 0, (0, 0, 0, 0), 0, 0, []),
  (.ireturn, (0, 0, 1, 0), 0, 0, []),
  (.aload_n 1, (1, 0, 0, 0), 0, 0, []),
  (.aload_n 0, (0, 0, 0, 0), 0, 0, []),
  (.iload 4, (4, 0, 0, 0), 0, 0, []),
  (.iconst 1, (0, 0, 0, 0), 1, 0, []),
  (.iadd, (0, 0, 0, 0), 0, 0, []),
  (.iaload, (17, 0, 0, 0), 0, 0, [])]
def k_315_12 : List aM := [(.invokevirtual 179, (150, 2, 1, 9), 0, 0, []),
  (.aload_n 2, (2, 0, 0, 0), 0, 0, []),
  (.aload_n 0, (0, 0, 0, 0), 0, 0, []),
  (.iload 4, (4, 0, 0, 0), 0, 0, []),
  (.iconst 1, (0, 0, 0, 0), 1, 0, []),
  (.iadd, (0, 0, 0, 0), 0, 0, []),
  (.iaload, (17, 0, 0, 0), 0, 0, []),
  (.invokevirtual 182, (302, 2, 1, 11), 0, 0, []),
  (.if_icmp .eq 261, (1142, 0, 0, 0), 0, 0, []),
  (.iconst 0, (0, 0, 0, 0), 0, 0, []),
  (.ireturn, (0, 0, 1, 0), 0, 0, []),
  (.aload_n 1, (1, 0, 0, 0), 0, 0, []),
  (.invokevirtual 183, (151, 1, 1, 9), 0, 0, []),
  (.aload_n 2, (2, 0, 0, 0), 0, 0, []),
  (.invokevirtual 186, (305, 1, 1, 11), 0, 0, []),
  (.if_icmp .eq 248, (1142, 0, 0, 0), 0, 0, []),
  (.iconst 0, (0, 0, 0, 0), 0, 0, []),
  (.ireturn, (0, 0, 1, 0), 0, 0, []),
  (.aload_n 1, (1, 0, 0, 0), 0, 0, []),
  (.aload_n 0, (0, 0, 0, 0), 0, 0, []),
  (.iload 4, (4, 0, 0, 0), 0, 0, []),
  (.iconst 1, (0, 0, 0, 0), 1, 0, []),
  (.iadd, (0, 0, 0, 0), 0, 0, []),
  (.iaload, (17, 0, 0, 0), 0, 0, []),
  (.aload_n 0, (0, 0, 0, 0), 0, 0, []),
  (.iload 4, (4, 0, 0, 0), 0, 0, []),
  (.iconst 2, (0, 0, 0, 0), 2, 0, []),
  (.iadd, (0, 0, 0, 0), 0, 0, []),
  (.iaload, (17, 0, 0, 0), 0, 0, []),
  (.aload_n 0, (0, 0, 0, 0), 0, 0, []),
  (.iload 4, (4, 0, 0, 0), 0, 0, []),
  (.iconst 3, (0, 0, 0, 0), 3, 0, []),
  (.iadd, (0, 0, 0, 0), 0, 0, []),
  (.iaload, (17, 0, 0, 0), 0, 0, []),
  (.invokevirtual 187, (152, 4, 1, 9), 0, 0, []),
  (.aload_n 2, (2, 0, 0, 0), 0, 0, []),
  (.aload_n 0, (0, 0, 0, 0), 0, 0, []),
  (.iload 4, (4, 0, 0, 0), 0, 0, []),
  (.iconst 1, (0, 0, 0, 0), 1, 0, []),
  (.iadd, (0, 0, 0, 0), 0, 0, []),
  (.iaload, (17, 0, 0, 0), 0, 0, []),
  (.aload_n 0, (0, 0, 0, 0), 0, 0, []),
  (.iload 4, (4, 0, 0, 0), 0, 0, []),
  (.iconst 2, (0, 0, 0, 0), 2, 0, []),
  (.iadd, (0, 0, 0, 0), 0, 0, []),
  (.iaload, (17, 0, 0, 0), 0, 0, []),
  (.aload_n 0, (0, 0, 0, 0), 0, 0, []),
  (.iload 4, (4, 0, 0, 0), 0, 0, []),
  (.iconst 3, (0, 0, 0, 0), 3, 0, []),
  (.iadd, (0, 0, 0, 0), 0, 0, []),
  (.iaload, (17, 0, 0, 0), 0, 0, []),
  (.invokevirtual 190, (306, 4, 1, 11), 0, 0, []),
  (.if_icmp .eq 199, (1142, 0, 0, 0), 0, 0, []),
  (.iconst 0, (0, 0, 0, 0), 0, 0, []),
  (.ireturn, (0, 0, 1, 0), 0, 0, []),
  (.aload_n 1, (1, 0, 0, 0), 0, 0, []),
  (.aload_n 0, (0, 0, 0, 0), 0, 0, []),
  (.iload 4, (4, 0, 0, 0), 0, 0, []),
  (.iconst 1, (0, 0, 0, 0), 1, 0, []),
  (.iadd, (0, 0, 0, 0), 0, 0, []),
  (.iaload, (17, 0, 0, 0), 0, 0, []),
  (.aload_n 0, (0, 0, 0, 0), 0, 0, []),
  (.iload 4, (4, 0, 0, 0), 0, 0, []),
  (.iconst 2, (0, 0, 0, 0), 2, 0, []),
  (.iadd, (0, 0, 0, 0), 0, 0, []),
  (.iaload, (17, 0, 0, 0), 0, 0, []),
  (.aload_n 0, (0, 0, 0, 0), 0, 0, []),
  (.iload 4, (4, 0, 0, 0), 0, 0, []),
  (.iconst 3, (0, 0, 0, 0), 3, 0, []),
  (.iadd, (0, 0, 0, 0), 0, 0, []),
  (.iaload, (17, 0, 0, 0), 0, 0, []),
  (.invokevirtual 191, (153, 4, 1, 9), 0, 0, []),
  (.aload_n 2, (2, 0, 0, 0), 0, 0, []),
  (.aload_n 0, (0, 0, 0, 0), 0, 0, []),
  (.iload 4, (4, 0, 0, 0), 0, 0, []),
  (.iconst 1, (0, 0, 0, 0), 1, 0, []),
  (.iadd, (0, 0, 0, 0), 0, 0, []),
  (.iaload, (17, 0, 0, 0), 0, 0, []),
  (.aload_n 0, (0, 0, 0, 0), 0, 0, []),
  (.iload 4, (4, 0, 0, 0), 0, 0, [])]
def k_315_13 : List aM := [(.iconst 2, (0, 0, 0, 0), 2, 0, []),
  (.iadd, (0, 0, 0, 0), 0, 0, []),
  (.iaload, (17, 0, 0, 0), 0, 0, []),
  (.aload_n 0, (0, 0, 0, 0), 0, 0, []),
  (.iload 4, (4, 0, 0, 0), 0, 0, []),
  (.iconst 3, (0, 0, 0, 0), 3, 0, []),
  (.iadd, (0, 0, 0, 0), 0, 0, []),
  (.iaload, (17, 0, 0, 0), 0, 0, []),
  (.invokevirtual 194, (307, 4, 1, 11), 0, 0, []),
  (.if_icmp .eq 150, (1142, 0, 0, 0), 0, 0, []),
  (.iconst 0, (0, 0, 0, 0), 0, 0, []),
  (.ireturn, (0, 0, 1, 0), 0, 0, []),
  (.aload_n 1, (1, 0, 0, 0), 0, 0, []),
  (.invokevirtual 195, (154, 1, 1, 9), 0, 0, []),
  (.aload_n 2, (2, 0, 0, 0), 0, 0, []),
  (.invokevirtual 199, (308, 1, 1, 11), 0, 0, []),
  (.if_icmp .eq 137, (1142, 0, 0, 0), 0, 0, []),
  (.iconst 0, (0, 0, 0, 0), 0, 0, []),
  (.ireturn, (0, 0, 1, 0), 0, 0, []),
  (.aload_n 1, (1, 0, 0, 0), 0, 0, []),
  (.invokevirtual 200, (155, 1, 1, 9), 0, 0, []),
  (.aload_n 2, (2, 0, 0, 0), 0, 0, []),
  (.invokevirtual 203, (309, 1, 1, 11), 0, 0, []),
  (.if_icmp .eq 124, (1142, 0, 0, 0), 0, 0, []),
  (.iconst 0, (0, 0, 0, 0), 0, 0, []),
  (.ireturn, (0, 0, 1, 0), 0, 0, []),
  (.aload_n 1, (1, 0, 0, 0), 0, 0, []),
  (.aload_n 0, (0, 0, 0, 0), 0, 0, []),
  (.iload 4, (4, 0, 0, 0), 0, 0, []),
  (.iconst 1, (0, 0, 0, 0), 1, 0, []),
  (.iadd, (0, 0, 0, 0), 0, 0, []),
  (.iaload, (17, 0, 0, 0), 0, 0, []),
  (.invokevirtual 204, (156, 2, 1, 9), 0, 0, []),
  (.aload_n 2, (2, 0, 0, 0), 0, 0, []),
  (.aload_n 0, (0, 0, 0, 0), 0, 0, []),
  (.iload 4, (4, 0, 0, 0), 0, 0, []),
  (.iconst 1, (0, 0, 0, 0), 1, 0, []),
  (.iadd, (0, 0, 0, 0), 0, 0, []),
  (.iaload, (17, 0, 0, 0), 0, 0, []),
  (.invokevirtual 208, (310, 2, 1, 11), 0, 0, []),
  (.if_icmp .eq 99, (1142, 0, 0, 0), 0, 0, []),
  (.iconst 0, (0, 0, 0, 0), 0, 0, []),
  (.ireturn, (0, 0, 1, 0), 0, 0, []),
  (.aload_n 1, (1, 0, 0, 0), 0, 0, []),
  (.aload_n 0, (0, 0, 0, 0), 0, 0, []),
  (.iload 4, (4, 0, 0, 0), 0, 0, []),
  (.iconst 1, (0, 0, 0, 0), 1, 0, []),
  (.iadd, (0, 0, 0, 0), 0, 0, []),
  (.iaload, (17, 0, 0, 0), 0, 0, []),
  (.aload_n 3, (3, 0, 0, 0), 0, 0, []),
  (.invokestatic 209, (905, 3, 1, 99), 0, 0, [(0, 1), (0, 6)]),
  (.istore 5, (5, 0, 0, 0), 0, 0, []),
  (.aload_n 2, (2, 0, 0, 0), 0, 0, []),
  (.aload_n 0, (0, 0, 0, 0), 0, 0, []),
  (.iload 4, (4, 0, 0, 0), 0, 0, []),
  (.iconst 1, (0, 0, 0, 0), 1, 0, []),
  (.iadd, (0, 0, 0, 0), 0, 0, []),
  (.iaload, (17, 0, 0, 0), 0, 0, []),
  (.invokevirtual 214, (311, 2, 1, 11), 0, 0, []),
  (.istore 6, (6, 0, 0, 0), 0, 0, []),
  (.aload_n 2, (2, 0, 0, 0), 0, 0, []),
  (.invokevirtual 215, (181, 1, 1, 11), 0, 0, []),
  (.iload 5, (5, 0, 0, 0), 0, 0, []),
  (.if_icmp .eq 5, (1106, 0, 0, 0), 0, 0, []),
  (.iconst 0, (0, 0, 0, 0), 0, 0, []),
  (.ireturn, (0, 0, 1, 0), 0, 0, []),
  (.iload 5, (5, 0, 0, 0), 0, 0, []),
  (.ifCond .ne 15, (1117, 0, 0, 0), 0, 0, []),
  (.aload_n 3, (3, 0, 0, 0), 0, 0, []),
  (.iconst 0, (0, 0, 0, 0), 0, 0, []),
  (.laload, (0, 0, 0, 0), 0, 0, []),
  (.iload 6, (6, 0, 0, 0), 0, 0, []),
  (.i2l, (0, 0, 0, 0), 0, 0, []),
  (.lcmp, (0, 0, 0, 0), 0, 0, []),
  (.ifCond .eq 5, (1117, 0, 0, 0), 0, 0, []),
  (.iconst 0, (0, 0, 0, 0), 0, 0, []),
  (.ireturn, (0, 0, 1, 0), 0, 0, []),
  (.goto 41, (1142, 0, 0, 0), 0, 0, []),
  (.aload_n 1, (1, 0, 0, 0), 0, 0, []),
  (.aload_n 0, (0, 0, 0, 0), 0, 0, [])]
def k_315_14 : List aM := [(.iload 4, (4, 0, 0, 0), 0, 0, []),
  (.iconst 1, (0, 0, 0, 0), 1, 0, []),
  (.iadd, (0, 0, 0, 0), 0, 0, []),
  (.iaload, (17, 0, 0, 0), 0, 0, []),
  (.invokevirtual 218, (157, 2, 1, 9), 0, 0, []),
  (.aload_n 2, (2, 0, 0, 0), 0, 0, []),
  (.aload_n 0, (0, 0, 0, 0), 0, 0, []),
  (.iload 4, (4, 0, 0, 0), 0, 0, []),
  (.iconst 1, (0, 0, 0, 0), 1, 0, []),
  (.iadd, (0, 0, 0, 0), 0, 0, []),
  (.iaload, (17, 0, 0, 0), 0, 0, []),
  (.invokevirtual 221, (312, 2, 1, 11), 0, 0, []),
  (.if_icmp .eq 18, (1142, 0, 0, 0), 0, 0, []),
  (.iconst 0, (0, 0, 0, 0), 0, 0, []),
  (.ireturn, (0, 0, 1, 0), 0, 0, []),
  (.aload_n 1, (1, 0, 0, 0), 0, 0, []),
  (.invokevirtual 222, (158, 1, 1, 9), 0, 0, []),
  (.aload_n 2, (2, 0, 0, 0), 0, 0, []),
  (.invokevirtual 225, (313, 1, 1, 11), 0, 0, []),
  (.if_icmp .eq 5, (1142, 0, 0, 0), 0, 0, []),
  (.iconst 0, (0, 0, 0, 0), 0, 0, []),
  (.ireturn, (0, 0, 1, 0), 0, 0, []),
  (.iinc 4 6, (4, 0, 0, 0), 6, 0, []),
  (.goto (-1817), (13, 0, 0, 0), 0, 0, []),
  (.iconst 1, (0, 0, 0, 0), 1, 0, []),
  (.ireturn, (0, 0, 1, 0), 0, 0, [])]
def k_315 : List aM := k_315_0 ++ (k_315_1 ++ (k_315_2 ++ (k_315_3 ++ (k_315_4 ++ (k_315_5 ++ (k_315_6 ++ (k_315_7 ++ (k_315_8 ++ (k_315_9 ++ (k_315_10 ++ (k_315_11 ++ (k_315_12 ++ (k_315_13 ++ (k_315_14))))))))))))))
def q_315 : List Nat := [0, 3, 4, 7, 8, 11, 12, 15, 16, 17, 19, 20, 21, 23, 23, 25, 26, 27, 29, 30, 33, 34, 36, 37, 39, 40, 248, 249, 250, 252, 253, 254, 255, 256, 258, 259, 260, 261, 262, 264, 265, 266, 267, 268, 270, 271, 272, 273, 274, 276, 277, 278, 279, 282, 283, 284, 286, 287, 288, 289, 290, 292, 293, 294, 295, 296, 298, 299, 300, 301, 302, 304, 305, 306, 307, 308, 310, 311, 312, 313, 316, 319, 320, 321, 322, 323, 325, 326, 327, 328, 331, 332, 333, 335, 336, 337, 338, 341, 344, 345, 346, 347, 350, 351, 354, 357, 358, 359, 360, 363, 364, 367, 370, 371, 372, 373, 374, 376, 377, 378, 379, 380, 382, 383, 384, 385, 386, 388, 389, 390, 391, 394, 395, 396, 398, 399, 400, 401, 402, 404, 405, 406, 407, 408, 410, 411, 412, 413, 416, 419, 420, 421, 422, 423, 425, 426, 427, 428, 429, 431, 432, 433, 434, 437, 438, 439, 441, 442, 443, 444, 445, 447, 448, 449, 450, 453, 456, 457, 458, 459, 460, 462, 463, 464, 465, 468, 469, 470, 472, 473, 474, 475, 478, 481, 482, 483, 484, 487, 488, 491, 494, 495, 496, 497, 498, 500, 501, 502, 503, 504, 506, 507, 508, 509, 510, 512, 513, 514, 515, 516, 518, 519, 520, 521, 524, 525, 526, 528, 529, 530, 531, 532, 534, 535, 536, 537, 538, 540, 541, 542, 543, 544, 546, 547, 548, 549, 552, 555, 556, 557, 558, 559, 561, 562, 563, 564, 565, 567, 568, 569, 570, 573, 574, 575, 577, 578, 579, 580, 581, 583, 584, 585, 586, 589, 592, 593, 594, 595, 596, 598, 599, 600, 601, 604, 605, 606, 608, 609, 610, 611, 614, 617, 618, 619, 620, 621, 623, 624, 625, 626, 629, 630, 631, 633, 634, 635, 636, 639, 642, 643, 644, 645, 646, 648, 649, 650, 651, 652, 654, 655, 656, 657, 660, 661, 662, 664, 665, 666, 667, 668, 670, 671, 672, 673, 676, 679, 680, 681, 682, 685, 686, 689, 692, 693, 694, 695, 698, 699, 702, 705, 706, 707, 708, 709, 711, 712, 713, 714, 715, 717, 718, 719, 720, 723, 724, 725, 727, 728, 729, 730, 731, 733, 734, 735, 736, 739, 742, 743, 744, 745, 746, 748, 749, 750, 751, 754, 755, 756, 758, 759, 760, 761, 764, 767, 768, 769, 770, 771, 773, 774, 775, 776, 777, 779, 780, 781, 782, 783, 785, 786, 787, 788, 789, 791, 792, 793, 794, 797, 798, 799, 801, 802, 803, 804, 805, 807, 808, 809, 810, 811, 813, 814, 815, 816, 817, 819, 820, 821, 822, 825, 828, 829, 830, 831, 832, 834, 835, 836, 837, 838, 840, 841, 842, 843, 844, 846, 847, 848, 849, 850, 852, 853, 854, 855, 858, 859, 860, 862, 863, 864, 865, 866, 868, 869, 870, 871, 872, 874, 875, 876, 877, 878, 880, 881, 882, 883, 886, 889, 890, 891, 892, 893, 895, 896, 897, 898, 901, 902, 903, 905, 906, 907, 908, 911, 914, 915, 916, 917, 918, 920, 921, 922, 923, 924, 926, 927, 928, 929, 930, 932, 933, 934, 935, 938, 939, 940, 942, 943, 944, 945, 946, 948, 949, 950, 951, 952, 954, 955, 956, 957, 960, 963, 964, 965, 966, 969, 970, 973, 976, 977, 978, 979, 980, 982, 983, 984, 985, 988, 989, 990, 992, 993, 994, 995, 998, 1001, 1002, 1003, 1004, 1005, 1007, 1008, 1009, 1010, 1011, 1013, 1014, 1015, 1016, 1017, 1019, 1020, 1021, 1022, 1025, 1026, 1027, 1029, 1030, 1031, 1032, 1033, 1035, 1036, 1037, 1038, 1039, 1041, 1042, 1043, 1044, 1047, 1050, 1051, 1052, 1053, 1054, 1056, 1057, 1058, 1059, 1062, 1063, 1064, 1066, 1067, 1068, 1069, 1072, 1075, 1076, 1077, 1078, 1081, 1082, 1085, 1088, 1089, 1090, 1091, 1092, 1094, 1095, 1096, 1097, 1100, 1101, 1102, 1104, 1105, 1106, 1107, 1110, 1113, 1114, 1115, 1116, 1117, 1119, 1120, 1121, 1122, 1125, 1126, 1127, 1129, 1130, 1131, 1132, 1135, 1138, 1139, 1140, 1141, 1142, 1144, 1145, 1146, 1147, 1148, 1150, 1151, 1152, 1153, 1154, 1156, 1157, 1158, 1159, 1162, 1163, 1164, 1166, 1167, 1168, 1169, 1170, 1172, 1173, 1174, 1175, 1176, 1178, 1179, 1180, 1181, 1184, 1187, 1188, 1189, 1190, 1191, 1193, 1194, 1195, 1196, 1199, 1200, 1201, 1203, 1204, 1205, 1206, 1209, 1212, 1213, 1214, 1215, 1216, 1218, 1219, 1220, 1221, 1224, 1225, 1226, 1228, 1229, 1230, 1231, 1234, 1237, 1238, 1239, 1240, 1241, 1243, 1244, 1245, 1246, 1249, 1250, 1251, 1253, 1254, 1255, 1256, 1259, 1262, 1263, 1264, 1265, 1266, 1268, 1269, 1270, 1271, 1272, 1274, 1275, 1276, 1277, 1280, 1281, 1282, 1284, 1285, 1286, 1287, 1288, 1290, 1291, 1292, 1293, 1296, 1299, 1300, 1301, 1302, 1303, 1305, 1306, 1307, 1308, 1309, 1311, 1312, 1313, 1314, 1317, 1318, 1321, 1322, 1322, 1323, 1325, 1326, 1327, 1328, 1331, 1332, 1335, 1336, 1336, 1337, 1339, 1340, 1341, 1342, 1345, 1346, 1349, 1350, 1350, 1353, 1354, 1355, 1357, 1358, 1359, 1360, 1361, 1363, 1364, 1365, 1366, 1369, 1370, 1373, 1374, 1374, 1375, 1377, 1378, 1379, 1380, 1383, 1384, 1387, 1388, 1388, 1389, 1391, 1392, 1393, 1394, 1397, 1398, 1401, 1402, 1402, 1405, 1408, 1409, 1410, 1411, 1412, 1414, 1415, 1416, 1417, 1420, 1421, 1422, 1424, 1425, 1426, 1427, 1430, 1433, 1434, 1435, 1436, 1437, 1439, 1440, 1441, 1442, 1445, 1446, 1447, 1449, 1450, 1451, 1452, 1455, 1458, 1459, 1460, 1461, 1462, 1464, 1465, 1466, 1467, 1468, 1470, 1471, 1472, 1473, 1476, 1477, 1480, 1481, 1481, 1484, 1485, 1486, 1488, 1489, 1490, 1491, 1492, 1494, 1495, 1496, 1497, 1500, 1501, 1504, 1505, 1505, 1508, 1509, 1512, 1513, 1514, 1515, 1516, 1518, 1519, 1520, 1521, 1524, 1525, 1528, 1529, 1529, 1532, 1533, 1534, 1536, 1537, 1538, 1539, 1542, 1543, 1546, 1547, 1547, 1550, 1551, 1554, 1555, 1556, 1557, 1558, 1560, 1561, 1562, 1563, 1566, 1567, 1568, 1570, 1571, 1572, 1573, 1576, 1579, 1580, 1581, 1582, 1585, 1586, 1589, 1592, 1593, 1594, 1595, 1596, 1598, 1599, 1600, 1601, 1602, 1604, 1605, 1606, 1607, 1608, 1610, 1611, 1612, 1613, 1616, 1617, 1618, 1620, 1621, 1622, 1623, 1624, 1626, 1627, 1628, 1629, 1630, 1632, 1633, 1634, 1635, 1638, 1641, 1642, 1643, 1644, 1645, 1647, 1648, 1649, 1650, 1651, 1653, 1654, 1655, 1656, 1657, 1659, 1660, 1661, 1662, 1665, 1666, 1667, 1669, 1670, 1671, 1672, 1673, 1675, 1676, 1677, 1678, 1679, 1681, 1682, 1683, 1684, 1687, 1690, 1691, 1692, 1693, 1696, 1697, 1700, 1703, 1704, 1705, 1706, 1709, 1710, 1713, 1716, 1717, 1718, 1719, 1720, 1722, 1723, 1724, 1725, 1728, 1729, 1730, 1732, 1733, 1734, 1735, 1738, 1741, 1742, 1743, 1744, 1745, 1747, 1748, 1749, 1750, 1751, 1754, 1756, 1757, 1758, 1760, 1761, 1762, 1763, 1766, 1768, 1769, 1772, 1774, 1777, 1778, 1779, 1781, 1784, 1785, 1786, 1787, 1789, 1790, 1791, 1794, 1795, 1796, 1799, 1800, 1801, 1803, 1804, 1805, 1806, 1809, 1810, 1811, 1813, 1814, 1815, 1816, 1819, 1822, 1823, 1824, 1825, 1828, 1829, 1832, 1835, 1836, 1837, 1840, 1843, 1844, 1845]
def m_315 : aMt := (yL_law, cL_law, 7, (some .boolean), 14, 15, 564, (601024, 7293034), 1, k_315, q_315)
end
section
def mL_0 : List aMt := [m_0, m_1, m_2, m_3, m_4, m_5, m_6, m_7, m_8, m_9, m_10, m_11, m_12, m_13, m_14, m_15, m_16, m_17, m_18, m_19, m_20, m_21, m_22, m_23, m_24, m_25, m_26, m_27, m_28, m_29, m_30, m_31]
def mL_1 : List aMt := [m_32, m_33, m_34, m_35, m_36, m_37, m_38, m_39, m_40, m_41, m_42, m_43, m_44, m_45, m_46, m_47, m_48, m_49, m_50, m_51, m_52, m_53, m_54, m_55, m_56, m_57, m_58, m_59, m_60, m_61, m_62, m_63]
def mL_2 : List aMt := [m_64, m_65, m_66, m_67, m_68, m_69, m_70, m_71, m_72, m_73, m_74, m_75, m_76, m_77, m_78, m_79, m_80, m_81, m_82, m_83, m_84, m_85, m_86, m_87, m_88, m_89, m_90, m_91, m_92, m_93, m_94, m_95]
def mL_3 : List aMt := [m_96, m_97, m_98, m_99, m_100, m_101, m_102, m_103, m_104, m_105, m_106, m_107, m_108, m_109, m_110, m_111, m_112, m_113, m_114, m_115, m_116, m_117, m_118, m_119, m_120, m_121, m_122, m_123, m_124, m_125, m_126, m_127]
def mL_4 : List aMt := [m_128, m_129, m_130, m_131, m_132, m_133, m_134, m_135, m_136, m_137, m_138, m_139, m_140, m_141, m_142, m_143, m_144, m_145, m_146, m_147, m_148, m_149, m_150, m_151, m_152, m_153, m_154, m_155, m_156, m_157, m_158, m_159]
def mL_5 : List aMt := [m_160, m_161, m_162, m_163, m_164, m_165, m_166, m_167, m_168, m_169, m_170, m_171, m_172, m_173, m_174, m_175, m_176, m_177, m_178, m_179, m_180, m_181, m_182, m_183, m_184, m_185, m_186, m_187, m_188, m_189, m_190, m_191]
def mL_6 : List aMt := [m_192, m_193, m_194, m_195, m_196, m_197, m_198, m_199, m_200, m_201, m_202, m_203, m_204, m_205, m_206, m_207, m_208, m_209, m_210, m_211, m_212, m_213, m_214, m_215, m_216, m_217, m_218, m_219, m_220, m_221, m_222, m_223]
def mL_7 : List aMt := [m_224, m_225, m_226, m_227, m_228, m_229, m_230, m_231, m_232, m_233, m_234, m_235, m_236, m_237, m_238, m_239, m_240, m_241, m_242, m_243, m_244, m_245, m_246, m_247, m_248, m_249, m_250, m_251, m_252, m_253, m_254, m_255]
def mL_8 : List aMt := [m_256, m_257, m_258, m_259, m_260, m_261, m_262, m_263, m_264, m_265, m_266, m_267, m_268, m_269, m_270, m_271, m_272, m_273, m_274, m_275, m_276, m_277, m_278, m_279, m_280, m_281, m_282, m_283, m_284, m_285, m_286, m_287]
def mL_9 : List aMt := [m_288, m_289, m_290, m_291, m_292, m_293, m_294, m_295, m_296, m_297, m_298, m_299, m_300, m_301, m_302, m_303, m_304, m_305, m_306, m_307, m_308, m_309, m_310, m_311, m_312, m_313, m_314, m_315]
def metaL : List aMt := mL_0 ++ (mL_1 ++ (mL_2 ++ (mL_3 ++ (mL_4 ++ (mL_5 ++ (mL_6 ++ (mL_7 ++ (mL_8 ++ (mL_9)))))))))
def mG (id : Nat) : aMt := metaL.getD id m_0
def cnL : List String := ["CounterMine$Board", "CounterMine$Cut", "CounterMine$Past", "CounterMine$Plan", "CounterMine$Reader", "CounterMine$Secret", "CounterMine$Share", "CounterMine$Tape", "CounterMine$Ways", "CounterMine$Works", "CounterMine", "CounterMineModel$Field", "CounterMineModel", "java/lang/Long", "CounterMineLaw"]
def cnm (o : Nat) : String := cnL.getD o ""
def flT : List (Nat × Nat × Nat × Nat × Nat) := [(1, 11, 0, 0, 0), (1, 15, 0, 1, 0), (1, 18, 0, 3, 0), (1, 28, 0, 4, 0), (1, 40, 0, 2, 0), (2, 13, 1, 0, 0), (2, 17, 1, 1, 0), (2, 21, 1, 3, 0), (2, 25, 1, 4, 0), (2, 28, 1, 2, 0), (3, 9, 2, 11, 0), (3, 15, 2, 12, 0), (3, 18, 2, 13, 0), (3, 21, 2, 14, 0), (3, 24, 2, 15, 0), (3, 27, 2, 16, 0), (3, 30, 2, 17, 0), (3, 33, 2, 18, 0), (3, 36, 2, 0, 0), (3, 40, 2, 1, 0), (3, 43, 2, 2, 0), (3, 46, 2, 3, 0), (3, 49, 2, 4, 0), (3, 52, 2, 5, 0), (3, 55, 2, 6, 0), (3, 58, 2, 7, 0), (3, 61, 2, 8, 0), (3, 64, 2, 9, 0), (3, 67, 2, 10, 0), (4, 12, 3, 0, 0), (4, 21, 3, 3, 0), (4, 25, 3, 7, 0), (4, 29, 3, 8, 0), (4, 35, 3, 1, 0), (4, 39, 3, 2, 0), (4, 42, 3, 4, 0), (4, 46, 3, 5, 0), (4, 49, 3, 6, 0), (4, 97, 6, 5, 0), (4, 109, 2, 0, 0), (4, 113, 2, 1, 0), (4, 117, 2, 2, 0), (4, 121, 2, 3, 0), (4, 123, 2, 5, 0), (4, 134, 6, 4, 0), (4, 137, 2, 4, 0), (4, 162, 2, 6, 0), (4, 164, 2, 7, 0), (4, 174, 2, 8, 0), (4, 184, 2, 13, 0), (4, 188, 2, 14, 0), (4, 204, 2, 9, 0), (4, 210, 6, 3, 0), (5, 11, 4, 0, 0), (5, 15, 4, 1, 0), (5, 20, 4, 3, 0), (5, 23, 4, 4, 0), (5, 26, 4, 2, 0), (5, 40, 2, 9, 0), (5, 43, 2, 16, 0), (5, 46, 2, 7, 0), (5, 49, 2, 17, 0), (5, 56, 2, 12, 0), (5, 63, 2, 18, 0), (5, 72, 2, 1, 0), (5, 75, 2, 2, 0), (6, 15, 5, 0, 0), (6, 23, 5, 1, 0), (6, 26, 2, 3, 0), (6, 32, 2, 8, 0), (7, 9, 6, 0, 0), (7, 13, 6, 1, 0), (7, 17, 6, 2, 0), (7, 20, 6, 3, 0), (7, 23, 6, 4, 0), (7, 36, 6, 5, 0), (8, 11, 7, 0, 0), (8, 17, 7, 1, 0), (9, 11, 8, 4, 0), (9, 17, 8, 5, 0), (9, 20, 8, 6, 0), (9, 23, 8, 0, 0), (9, 27, 8, 1, 0), (9, 30, 8, 2, 0), (9, 34, 8, 3, 0), (9, 37, 2, 7, 0), (9, 40, 2, 12, 0), (9, 41, 2, 8, 0), (9, 56, 2, 14, 0), (9, 96, 2, 13, 0), (9, 106, 2, 0, 0), (10, 10, 9, 0, 0), (10, 19, 9, 1, 0), (10, 23, 9, 2, 0), (10, 29, 9, 3, 0), (10, 36, 9, 4, 0), (10, 43, 9, 5, 0), (10, 50, 9, 6, 0), (10, 57, 9, 7, 0), (10, 64, 9, 8, 0), (10, 68, 9, 9, 0), (10, 71, 9, 10, 0), (10, 75, 9, 11, 0), (10, 79, 3, 0, 0), (10, 93, 6, 1, 0), (10, 107, 3, 1, 0), (10, 120, 2, 8, 0), (10, 123, 3, 2, 0), (10, 151, 8, 0, 0), (10, 159, 8, 1, 0), (10, 169, 2, 13, 0), (10, 179, 8, 4, 0), (10, 182, 8, 5, 0), (10, 185, 8, 3, 0), (10, 188, 2, 14, 0), (10, 194, 8, 6, 0), (10, 226, 2, 10, 0), (10, 240, 2, 6, 0), (10, 260, 4, 2, 0), (10, 266, 4, 0, 0), (10, 269, 4, 1, 0), (10, 305, 2, 3, 0), (10, 312, 5, 1, 0), (10, 315, 5, 0, 0), (10, 326, 8, 2, 0), (10, 361, 2, 0, 0), (10, 364, 2, 1, 0), (10, 367, 2, 2, 0), (10, 370, 2, 4, 0), (10, 373, 2, 5, 0), (10, 376, 2, 7, 0), (10, 379, 2, 9, 0), (10, 382, 1, 3, 0), (10, 383, 1, 4, 0), (11, 9, 10, 6, 0), (11, 15, 10, 12, 0), (11, 19, 10, 13, 0), (11, 22, 10, 14, 0), (11, 25, 10, 15, 0), (11, 28, 10, 16, 0), (11, 31, 10, 17, 0), (11, 34, 10, 18, 0), (11, 37, 10, 19, 0), (11, 40, 10, 20, 0), (11, 44, 10, 21, 0), (11, 47, 10, 22, 0), (11, 50, 10, 10, 0), (11, 53, 10, 9, 0), (11, 56, 10, 4, 0), (11, 59, 10, 5, 0), (12, 9, 11, 2, 0), (12, 13, 11, 5, 0), (12, 17, 11, 16, 0), (12, 21, 11, 17, 0), (12, 24, 11, 18, 0), (12, 27, 11, 19, 0), (12, 30, 11, 22, 0), (12, 33, 11, 23, 0), (12, 37, 11, 24, 0), (12, 40, 11, 25, 0), (12, 43, 11, 26, 0), (12, 46, 11, 28, 0), (12, 49, 11, 29, 0), (12, 52, 11, 30, 0), (12, 55, 11, 0, 0), (12, 58, 11, 1, 0), (12, 72, 11, 7, 0), (12, 87, 11, 9, 0), (12, 90, 11, 8, 0), (12, 96, 11, 10, 0), (12, 103, 11, 15, 0), (12, 107, 11, 14, 0), (12, 113, 11, 11, 0), (12, 116, 11, 12, 0), (12, 119, 11, 13, 0), (12, 166, 11, 4, 0), (12, 170, 10, 5, 1), (12, 175, 10, 11, 1), (12, 187, 10, 20, 1), (12, 191, 10, 10, 1), (12, 194, 10, 21, 1), (12, 197, 10, 22, 1), (12, 200, 10, 4, 1), (12, 212, 10, 6, 1), (12, 232, 10, 0, 1), (12, 246, 10, 1, 1), (12, 248, 10, 2, 1), (12, 250, 10, 3, 1), (12, 261, 10, 12, 1), (12, 271, 10, 7, 1), (12, 281, 10, 13, 1), (12, 283, 10, 16, 1), (12, 295, 10, 8, 1), (12, 306, 10, 14, 1), (12, 309, 10, 15, 1), (12, 311, 10, 9, 1), (12, 317, 10, 17, 1), (12, 319, 10, 18, 1), (12, 322, 10, 19, 1), (12, 325, 11, 6, 0), (12, 332, 11, 3, 0), (12, 340, 11, 20, 0), (12, 343, 11, 21, 0), (12, 421, 11, 27, 0), (12, 449, 11, 31, 0), (12, 464, 11, 32, 0)]
def mlT : List (Nat × Nat × Nat × Nat) := [(0, 11, 1, 1), (0, 15, 2, 1), (0, 18, 900, 1), (1, 3, 999, 9), (1, 22, 4, 1), (1, 32, 10, 0), (1, 36, 12, 0), (1, 44, 11, 0), (1, 47, 5, 1), (1, 51, 7, 1), (1, 54, 26, 0), (1, 60, 14, 0), (1, 64, 15, 1), (1, 68, 13, 0), (2, 3, 999, 9), (2, 20, 93, 3), (2, 31, 95, 0), (2, 35, 902, 1), (3, 1, 999, 9), (3, 71, 6, 1), (3, 75, 5, 1), (4, 3, 999, 9), (4, 11, 76, 3), (4, 20, 22, 3), (4, 32, 23, 0), (4, 52, 79, 0), (4, 58, 81, 0), (4, 62, 38, 0), (4, 67, 39, 0), (4, 72, 41, 0), (4, 77, 42, 0), (4, 82, 43, 0), (4, 87, 45, 0), (4, 90, 58, 0), (4, 93, 37, 0), (4, 100, 80, 0), (4, 105, 48, 0), (4, 128, 47, 0), (4, 131, 40, 0), (4, 140, 82, 0), (4, 144, 56, 1), (4, 147, 0, 1), (4, 151, 27, 0), (4, 155, 46, 0), (4, 158, 50, 0), (4, 167, 52, 0), (4, 171, 28, 0), (4, 177, 51, 0), (4, 180, 44, 0), (4, 190, 32, 0), (4, 194, 57, 1), (4, 197, 7, 1), (4, 200, 26, 0), (4, 207, 53, 0), (4, 213, 49, 0), (4, 216, 30, 0), (4, 219, 59, 0), (4, 222, 29, 0), (4, 225, 83, 0), (4, 232, 54, 0), (4, 235, 84, 0), (4, 238, 55, 1), (5, 3, 999, 9), (5, 30, 26, 0), (5, 36, 62, 1), (5, 52, 63, 1), (5, 59, 4, 1), (5, 66, 900, 1), (5, 78, 7, 1), (5, 81, 64, 0), (5, 85, 6, 1), (5, 88, 66, 0), (5, 91, 69, 0), (5, 94, 901, 1), (6, 1, 999, 9), (6, 9, 73, 0), (6, 19, 74, 1), (6, 35, 101, 0), (6, 41, 901, 1), (6, 47, 75, 1), (7, 1, 999, 9), (7, 26, 80, 0), (7, 29, 85, 0), (7, 33, 86, 1), (7, 39, 903, 0), (7, 44, 904, 0), (8, 3, 999, 9), (8, 21, 6, 1), (8, 25, 5, 1), (8, 29, 89, 0), (8, 33, 7, 1), (8, 39, 91, 0), (8, 43, 99, 0), (8, 49, 90, 0), (9, 3, 999, 9), (9, 44, 31, 0), (9, 48, 97, 0), (9, 52, 100, 0), (9, 59, 99, 0), (9, 62, 901, 1), (9, 67, 104, 0), (9, 73, 26, 0), (9, 77, 4, 1), (9, 82, 5, 1), (9, 86, 25, 0), (9, 90, 101, 0), (9, 93, 103, 0), (9, 99, 105, 0), (9, 103, 102, 0), (9, 109, 109, 0), (10, 1, 999, 9), (10, 9, 34, 3), (10, 18, 93, 3), (10, 28, 16, 2), (10, 35, 87, 3), (10, 42, 8, 3), (10, 49, 60, 3), (10, 56, 70, 3), (10, 63, 22, 3), (10, 83, 77, 0), (10, 89, 78, 0), (10, 96, 159, 0), (10, 100, 35, 0), (10, 104, 36, 0), (10, 110, 94, 0), (10, 114, 17, 0), (10, 117, 61, 0), (10, 126, 24, 0), (10, 130, 160, 0), (10, 134, 0, 1), (10, 140, 25, 0), (10, 143, 26, 0), (10, 147, 99, 0), (10, 155, 5, 1), (10, 162, 103, 0), (10, 166, 162, 0), (10, 173, 100, 0), (10, 176, 3, 1), (10, 191, 163, 0), (10, 197, 314, 1), (10, 203, 4, 1), (10, 206, 166, 1), (10, 209, 161, 0), (10, 212, 169, 0), (10, 215, 170, 0), (10, 219, 106, 0), (10, 223, 107, 0), (10, 229, 88, 0), (10, 233, 91, 0), (10, 236, 110, 0), (10, 243, 92, 0), (10, 246, 9, 0), (10, 249, 165, 0), (10, 251, 167, 1), (10, 254, 104, 0), (10, 257, 33, 0), (10, 263, 164, 0), (10, 272, 65, 0), (10, 276, 66, 0), (10, 279, 67, 0), (10, 283, 68, 0), (10, 286, 69, 0), (10, 289, 64, 0), (10, 292, 168, 1), (10, 295, 172, 1), (10, 299, 173, 1), (10, 308, 71, 0), (10, 318, 72, 0), (10, 323, 101, 0), (10, 329, 18, 0), (10, 333, 96, 0), (10, 336, 98, 0), (10, 339, 19, 0), (10, 343, 20, 0), (10, 347, 21, 0), (10, 351, 102, 0), (10, 386, 95, 0), (10, 389, 171, 0), (10, 393, 105, 0), (10, 397, 108, 0), (11, 3, 999, 9), (11, 62, 178, 0), (12, 3, 999, 9), (12, 61, 182, 0), (12, 65, 185, 0), (12, 68, 189, 1), (12, 75, 903, 0), (12, 83, 904, 0), (12, 93, 192, 0), (12, 99, 193, 1), (12, 110, 194, 1), (12, 122, 195, 1), (12, 126, 196, 0), (12, 129, 198, 0), (12, 133, 197, 0), (12, 137, 187, 1), (12, 141, 201, 0), (12, 145, 200, 0), (12, 149, 202, 0), (12, 179, 205, 0), (12, 183, 175, 0), (12, 203, 178, 0), (12, 206, 211, 0), (12, 209, 199, 0), (12, 214, 212, 0), (12, 217, 215, 0), (12, 220, 216, 0), (12, 223, 217, 0), (12, 226, 220, 0), (12, 229, 221, 0), (12, 236, 203, 0), (12, 252, 204, 0), (12, 255, 213, 1), (12, 258, 214, 0), (12, 264, 206, 0), (12, 268, 209, 0), (12, 274, 207, 0), (12, 278, 208, 0), (12, 286, 218, 1), (12, 289, 177, 0), (12, 292, 179, 0), (12, 302, 219, 0), (12, 314, 176, 0), (12, 328, 174, 4), (12, 329, 210, 0), (12, 334, 232, 0), (12, 337, 236, 0), (12, 346, 234, 0), (12, 349, 235, 0), (12, 352, 233, 0), (12, 355, 188, 1), (12, 358, 231, 0), (12, 361, 237, 0), (12, 364, 226, 0), (12, 367, 229, 1), (12, 370, 240, 0), (12, 373, 227, 0), (12, 376, 230, 1), (12, 379, 228, 0), (12, 382, 244, 0), (12, 385, 191, 1), (12, 388, 239, 0), (12, 392, 238, 0), (12, 395, 250, 0), (12, 398, 252, 0), (12, 401, 253, 0), (12, 404, 256, 0), (12, 405, 259, 0), (12, 408, 260, 0), (12, 412, 261, 0), (12, 415, 266, 0), (12, 418, 267, 0), (12, 424, 269, 0), (12, 427, 271, 1), (12, 430, 273, 0), (12, 433, 272, 0), (12, 436, 270, 0), (12, 439, 276, 0), (12, 443, 275, 0), (12, 446, 279, 0), (12, 452, 280, 0), (12, 455, 281, 0), (12, 458, 283, 0), (12, 461, 286, 0), (12, 467, 289, 0), (12, 470, 294, 0), (12, 473, 183, 0), (12, 476, 293, 1), (12, 480, 296, 1), (12, 483, 299, 1), (12, 489, 190, 0), (12, 500, 303, 0), (12, 503, 304, 0), (12, 506, 184, 0), (12, 509, 186, 0), (14, 15, 111, 2), (14, 18, 180, 2), (14, 19, 112, 0), (14, 23, 222, 0), (14, 24, 113, 0), (14, 27, 223, 0), (14, 28, 114, 0), (14, 32, 224, 0), (14, 33, 115, 0), (14, 36, 225, 0), (14, 37, 116, 0), (14, 41, 241, 0), (14, 42, 117, 0), (14, 46, 242, 0), (14, 47, 118, 0), (14, 50, 243, 0), (14, 51, 119, 0), (14, 54, 245, 0), (14, 55, 120, 0), (14, 59, 246, 0), (14, 60, 121, 0), (14, 63, 247, 0), (14, 64, 122, 0), (14, 67, 248, 0), (14, 68, 123, 0), (14, 71, 249, 0), (14, 72, 124, 0), (14, 75, 251, 0), (14, 76, 125, 0), (14, 79, 254, 0), (14, 80, 126, 0), (14, 83, 255, 0), (14, 84, 127, 0), (14, 87, 257, 0), (14, 88, 128, 0), (14, 91, 258, 0), (14, 92, 129, 0), (14, 95, 262, 0), (14, 96, 130, 0), (14, 99, 263, 0), (14, 100, 131, 0), (14, 103, 264, 0), (14, 104, 132, 0), (14, 107, 265, 0), (14, 108, 133, 0), (14, 111, 268, 0), (14, 112, 134, 0), (14, 115, 274, 0), (14, 116, 135, 0), (14, 119, 277, 0), (14, 120, 136, 0), (14, 123, 278, 0), (14, 124, 137, 0), (14, 127, 282, 0), (14, 128, 138, 0), (14, 131, 284, 0), (14, 132, 139, 0), (14, 135, 285, 0), (14, 136, 140, 0), (14, 139, 287, 0), (14, 140, 141, 0), (14, 143, 288, 0), (14, 144, 142, 0), (14, 147, 290, 0), (14, 148, 143, 0), (14, 151, 291, 0), (14, 152, 144, 0), (14, 155, 292, 0), (14, 156, 145, 0), (14, 160, 295, 0), (14, 161, 146, 0), (14, 164, 297, 0), (14, 165, 147, 0), (14, 168, 298, 0), (14, 169, 148, 0), (14, 173, 300, 0), (14, 174, 149, 0), (14, 178, 301, 0), (14, 179, 150, 0), (14, 182, 302, 0), (14, 183, 151, 0), (14, 186, 305, 0), (14, 187, 152, 0), (14, 190, 306, 0), (14, 191, 153, 0), (14, 194, 307, 0), (14, 195, 154, 0), (14, 199, 308, 0), (14, 200, 155, 0), (14, 203, 309, 0), (14, 204, 156, 0), (14, 208, 310, 0), (14, 209, 905, 1), (14, 214, 311, 0), (14, 215, 181, 0), (14, 218, 157, 0), (14, 221, 312, 0), (14, 222, 158, 0), (14, 225, 313, 0)]
def slT : List (Nat × Nat × Nat) := [(4, 56, 0), (4, 65, 1), (4, 70, 2), (4, 75, 3), (4, 80, 4), (4, 85, 5), (4, 103, 6), (4, 111, 7), (4, 115, 8), (4, 119, 9), (4, 228, 11), (4, 230, 10), (12, 154, 0), (12, 156, 1), (12, 158, 2), (12, 160, 3), (12, 162, 4), (12, 164, 5), (12, 235, 6), (12, 240, 7), (12, 242, 8), (12, 244, 9), (12, 298, 10), (12, 300, 11)]
def ciT : List (Nat × Nat × Int32) := [(10, 322, 65537), (12, 493, 65536)]
def clT : List (Nat × Nat × Int64) := [(1, 71, (-1)), (6, 7, 100), (8, 37, (-1)), (9, 80, (-1)), (10, 303, (-1)), (12, 81, 32), (12, 152, 31), (12, 487, 100), (12, 494, 75), (12, 496, 74), (12, 498, 65537), (13, 314, 6148914691236517205), (13, 316, 3689348814741910323), (13, 318, 1085102592571150095)]
def nlT : List (Nat × Nat × Nat × Nat) := [(2, 11, 8, 0), (2, 11, 8, 1), (4, 9, 6, 0), (4, 18, 2, 0), (10, 7, 3, 0), (10, 16, 8, 0), (10, 26, 1, 0), (10, 33, 7, 0), (10, 40, 0, 0), (10, 47, 4, 0), (10, 54, 5, 0), (10, 61, 2, 0), (12, 171, 10, 0), (14, 8, 9, 0), (14, 16, 11, 0)]
def stxL : List String := ["field", "row", "wall", "drum", "dig", "heard", "reach", "error", "pace", "falls", "miners", "garrison", "no such gallery"]
/-- the fields of a kind: 0 int, 1 long, 2 a reference, 4 boolean -/
def fTL : List (List Nat) := [[2, 2, 0, 2, 1], [2, 2, 0, 0, 0], [0, 0, 0, 0, 0, 0, 0, 0, 0, 0, 1, 2, 2, 2, 2, 2, 2, 2, 2], [2, 0, 0, 2, 4, 4, 4, 2, 2], [2, 2, 0, 2, 2], [1, 1], [2, 0, 0, 0, 0, 0], [2, 1], [1, 1, 0, 0, 2, 2, 2], [2, 2, 2, 2, 2, 2, 2, 2, 2, 2, 4, 0], [0, 0, 0, 0, 0, 0, 0, 0, 0, 0, 0, 4, 2, 2, 2, 2, 2, 2, 2, 2, 2, 2, 2], [0, 0, 0, 2, 2, 2, 0, 0, 0, 0, 0, 0, 0, 0, 0, 1, 2, 2, 2, 2, 0, 0, 2, 2, 2, 2, 2, 0, 2, 2, 2, 0, 0]]
def fT (c : Nat) : List Nat := fTL.getD c []
end
section
/-! what a method's table must be held against: its bytes, its links, its room -/
def tY (t : aMt) : MethodName := t.1
def tB (t : aMt) : ByteArray := t.2.1
def tL (t : aMt) : Nat := t.2.2.1
def tR (t : aMt) : Option FieldType := t.2.2.2.1
def tO (t : aMt) : Nat := t.2.2.2.2.1
def tF (t : aMt) : Nat := t.2.2.2.2.2.1
def tW (t : aMt) : Nat := t.2.2.2.2.2.2.1
def tM (t : aMt) : Nat × Nat := t.2.2.2.2.2.2.2.1
def tA (t : aMt) : Nat := t.2.2.2.2.2.2.2.2.1
def tC (t : aMt) : List aM := t.2.2.2.2.2.2.2.2.2.1
def tP (t : aMt) (k : Nat) : Nat := t.2.2.2.2.2.2.2.2.2.2.getD k 0
def clX (u : Nat) : vw_C := vwCl.getD u (RX1, TX1, 0)
def dc (t : aMt) (k ln : Nat) (i : Instr) : Bool := decide (decode (tB t) (tP t k) = .ok (i, ln))
def nx (t : aMt) (k ln : Nat) (i : Instr) : Bool := dc t k ln i && decide (tP t (k + 1) = tP t k + ln)
def jp (t : aMt) (k : Nat) (off : Int) (u : Nat) : Bool := decide ((tP t k : Int) + off = (tP t u : Int))
def swT (t : aMt) (k : Nat) : Int → List (Int32 × Nat) → List Int → Bool
  | _, [], [] => true
  | lo, (c, g) :: r, o :: os => decide (c.toInt = lo) && jp t k o g && swT t k (lo + 1) r os
  | _, _, _ => false
def lkT (t : aMt) (k : Nat) : List (Int32 × Nat) → List (Int × Int) → Bool
  | [], [] => true
  | (c, g) :: r, (a, o) :: os => decide (c.toInt = a) && jp t k o g && lkT t k r os
  | _, _ => false
/-- a field's type, as the machine takes it -/
def gtT (f : Option Nat) (w : Nat) : Bool := match f with
  | some 0 => decide (w = 0)
  | some 4 => decide (w = 0)
  | some 1 => decide (w = 1)
  | some 2 => decide (w = 2 ∨ w = 3)
  | _ => false
def ptT (f : Option Nat) (w : Nat) : Bool := match f with
  | some 0 => decide (w = 0)
  | some 4 => decide (w = 4)
  | some 1 => decide (w = 1)
  | some 2 => decide (w = 2)
  | _ => false
def rmT (g : aMt) (ts : List (Int32 × Nat)) : Bool := match ts with
  | [] => decide (tM g = (0, 0))
  | [(_, a), (_, b)] => decide (tM g = (a, b))
  | _ => false
def clT_ (t g : aMt) : Bool := decide (tF g + 1 ≤ tF t) && decide (8 + (tL g + 11) + tW g ≤ tW t)
/-- the room of what is called by hand: frames, words -/
def xF (u : Nat) : Nat × Nat := match u with
  | 903 => (5, 120)
  | 904 => (6, 200)
  | 905 => (10, 400)
  | _ => (1, 21)
def xT (t : aMt) (u : Nat) (ts : List (Int32 × Nat)) : Bool := decide ((xF u).1 ≤ tF t) && decide ((xF u).2 ≤ tW t) && (match u with
  | 905 => decide (ts = [(0, 1), (0, 6)])
  | _ => decide (ts = []))
def chk (t : aMt) (k : Nat) (i : aM) : Bool := match i with
  | (ins, (u, v, w, z), c, d, ts) => match ins with
    | .iload_n j => decide ((j : Nat) = u) && nx t k 1 (.iload_n j)
    | .iload j => decide (j = u) && nx t k 2 (.iload j)
    | .lload_n j => decide ((j : Nat) = u) && nx t k 1 (.lload_n j)
    | .lload j => decide (j = u) && nx t k 2 (.lload j)
    | .aload_n j => decide ((j : Nat) = u) && nx t k 1 (.aload_n j)
    | .aload j => decide (j = u) && nx t k 2 (.aload j)
    | .istore_n j => decide ((j : Nat) = u) && decide (u < tL t) && nx t k 1 (.istore_n j)
    | .istore j => decide (j = u) && decide (u < tL t) && nx t k 2 (.istore j)
    | .lstore_n j => decide ((j : Nat) = u) && decide (u + 1 < tL t) && nx t k 1 (.lstore_n j)
    | .lstore j => decide (j = u) && decide (u + 1 < tL t) && nx t k 2 (.lstore j)
    | .astore_n j => decide ((j : Nat) = u) && decide (u < tL t) && nx t k 1 (.astore_n j)
    | .astore j => decide (j = u) && decide (u < tL t) && nx t k 2 (.astore j)
    | .iinc j n => decide (j = u) && decide (u < tL t) && decide (Int32.ofInt n = c) && nx t k 3 (.iinc j n)
    | .iconst n => decide (Int32.ofInt n = c) && nx t k 1 (.iconst n)
    | .bipush n => decide ((Int8.ofInt n).toInt32 = c) && nx t k 2 (.bipush n)
    | .sipush n => decide ((Int16.ofInt n).toInt32 = c) && nx t k 3 (.sipush n)
    | .lconst n => decide (Int64.ofNat (n : Nat) = d) && nx t k 1 (.lconst n)
    | .ldc x => (match w with
      | 0 => decide ((tO t, x, c) ∈ ciT)
      | _ => decide ((tO t, x, u) ∈ slT)) && nx t k 2 (.ldc x)
    | .ldc_w x => (match w with
      | 0 => decide ((tO t, x, c) ∈ ciT)
      | _ => decide ((tO t, x, u) ∈ slT)) && nx t k 3 (.ldc_w x)
    | .ldc2_w x => decide ((tO t, x, d) ∈ clT) && nx t k 3 (.ldc2_w x)
    | .iadd => nx t k 1 .iadd
    | .isub => nx t k 1 .isub
    | .imul => nx t k 1 .imul
    | .idiv => nx t k 1 .idiv
    | .irem => nx t k 1 .irem
    | .ineg => nx t k 1 .ineg
    | .iand => nx t k 1 .iand
    | .ior => nx t k 1 .ior
    | .ixor => nx t k 1 .ixor
    | .ishl => nx t k 1 .ishl
    | .ishr => nx t k 1 .ishr
    | .iushr => nx t k 1 .iushr
    | .ladd => nx t k 1 .ladd
    | .lsub => nx t k 1 .lsub
    | .lmul => nx t k 1 .lmul
    | .ldiv => nx t k 1 .ldiv
    | .lrem => nx t k 1 .lrem
    | .land => nx t k 1 .land
    | .lor => nx t k 1 .lor
    | .lxor => nx t k 1 .lxor
    | .lshl => nx t k 1 .lshl
    | .lshr => nx t k 1 .lshr
    | .lushr => nx t k 1 .lushr
    | .lcmp => nx t k 1 .lcmp
    | .i2l => nx t k 1 .i2l
    | .l2i => nx t k 1 .l2i
    | .i2b => nx t k 1 .i2b
    | .dup => nx t k 1 .dup
    | .dup2 => nx t k 1 .dup2
    | .pop => nx t k 1 .pop
    | .getfield x => decide ((tO t, x, u, v, 0) ∈ flT ∨ (tO t, x, u, v, 1) ∈ flT) && gtT ((fT u)[v]?) w && nx t k 3 (.getfield x)
    | .putfield x => decide ((tO t, x, u, v, 0) ∈ flT ∨ (tO t, x, u, v, 1) ∈ flT ∧ ((clX u).2.1 v).2.2.2 = false) && ptT ((fT u)[v]?) w && decide (((clX u).2.1 v).2.2.2 = false ∨ ((tY t).name = "<init>" ∧ ((clX u).2.1 v).1 = (tY t).cls)) && nx t k 3 (.putfield x)
    | .iaload => decide (u = 13 ∨ u = 17 ∧ tO t = 14) && nx t k 1 .iaload
    | .baload => decide (u = 12 ∨ u = 15) && nx t k 1 .baload
    | .laload => nx t k 1 .laload
    | .aaload => nx t k 1 .aaload
    | .iastore => nx t k 1 .iastore
    | .bastore => decide (u = 12 ∧ w = 0 ∨ u = 15 ∧ w = 1) && nx t k 1 .bastore
    | .lastore => nx t k 1 .lastore
    | .aastore => nx t k 1 .aastore
    | .arraylength => decide (u = 13 ∨ u = 17 ∧ tO t = 14) && nx t k 1 .arraylength
    | .newarray a => (match a with
      | .int => decide (u = 13)
      | .long => decide (u = 14)
      | .boolean => decide (u = 15)
      | .byte => decide (u = 12)
      | _ => false) && nx t k 2 (.newarray a)
    | .anewarray x => decide ((tO t, x, 8, 1) ∈ nlT) && nx t k 3 (.anewarray x)
    | .new x => decide ((tO t, x, u, 0) ∈ nlT) && decide (u < 12) && decide ((clX u).2.2 = v) && nx t k 3 (.new x)
    | .if_icmp cd o => jp t k o u && nx t k 3 (.if_icmp cd o)
    | .ifCond cd o => jp t k o u && nx t k 3 (.ifCond cd o)
    | .ifnull o => jp t k o u && nx t k 3 (.ifnull o)
    | .ifnonnull o => jp t k o u && nx t k 3 (.ifnonnull o)
    | .goto o => jp t k o u && dc t k 3 (.goto o)
    | .tableswitch df lo hi os => jp t k df u && swT t k lo ts os.toList && decide (hi + 1 = lo + ts.length) && dc t k (tP t (k + 1) - tP t k) (.tableswitch df lo hi os)
    | .lookupswitch df ps => jp t k df u && lkT t k ts ps.toList && (ps.toList.zip (ps.toList.drop 1)).all (fun (a, next) => a.1 < next.1) && dc t k (tP t (k + 1) - tP t k) (.lookupswitch df ps)
    | .invokevirtual x => decide ((tO t, x, u, 0) ∈ mlT) && (if u < 900 then clT_ t (mG u) && rmT (mG u) ts && decide (u < metaL.length) && decide (v = tA (mG u) + 1) && decide (z < 12) && decide ((clX z).1 = (tY (mG u)).cls) else decide (z = 99) && decide (u = 903 ∨ u = 904) && xT t u ts) && nx t k 3 (.invokevirtual x)
    | .invokestatic x => decide ((tO t, x, u, 1) ∈ mlT) && decide (z = 99) && (if u < 900 then clT_ t (mG u) && rmT (mG u) ts && decide (u < metaL.length) && decide (v = tA (mG u)) else decide (u = 900 ∨ u = 901 ∨ u = 902 ∨ u = 905) && xT t u ts) && nx t k 3 (.invokestatic x)
    | .invokespecial x => (if w = 9 then decide ((tO t, x, 999, 9) ∈ mlT) && decide (1 ≤ tF t) && decide (20 ≤ tW t) else decide (u < 900) && decide (z = 99) && decide ((tO t, x, u, 2) ∈ mlT ∨ (tO t, x, u, 3) ∈ mlT ∨ (tO t, x, u, 4) ∈ mlT) && clT_ t (mG u) && rmT (mG u) ts && decide (u < metaL.length) && decide (v = tA (mG u) + 1) && decide (tR (mG u) = none) && decide ((tY (mG u)).name = "<init>")) && nx t k 3 (.invokespecial x)
    | .ireturn => (match w with
      | 0 => decide (tR t = some .int)
      | _ => decide (tR t = some .boolean)) && dc t k 1 .ireturn
    | .lreturn => decide (tR t = some .long) && dc t k 1 .lreturn
    | .return_ => decide (tR t = none) && dc t k 1 .return_
    | .nop => decide (tP t (k + 1) = tP t k)
    | _ => false
def chkL (t : aMt) : Nat → List aM → Bool
  | _, [] => true
  | k, i :: r => chk t k i && chkL t (k + 1) r
/-- a whole method -/
def chkT (t : aMt) : Bool := plainName (tY t).cls && decide ((tY t).cls = cnm (tO t)) && decide ((parseMethodDescriptor (tY t).desc).map (fun d => d.parameters.length) = some (tA t)) && decide (((tY t).cls ≠ "java/lang/invoke/MethodHandle") ∧ (tY t).cls ≠ "java/lang/invoke/VarHandle") && chkL t 0 (tC t)
end
section
set_option maxRecDepth 100000 in
theorem ok_0 : chkT m_0 = true := by decide +kernel
set_option maxRecDepth 100000 in
theorem ok_1 : chkT m_1 = true := by decide +kernel
set_option maxRecDepth 100000 in
theorem ok_2 : chkT m_2 = true := by decide +kernel
set_option maxRecDepth 100000 in
theorem ok_3 : chkT m_3 = true := by decide +kernel
set_option maxRecDepth 100000 in
theorem ok_4 : chkT m_4 = true := by decide +kernel
set_option maxRecDepth 100000 in
theorem ok_5 : chkT m_5 = true := by decide +kernel
set_option maxRecDepth 100000 in
theorem ok_6 : chkT m_6 = true := by decide +kernel
set_option maxRecDepth 100000 in
theorem ok_7 : chkT m_7 = true := by decide +kernel
set_option maxRecDepth 100000 in
theorem ok_8 : chkT m_8 = true := by decide +kernel
set_option maxRecDepth 100000 in
theorem ok_9 : chkT m_9 = true := by decide +kernel
set_option maxRecDepth 100000 in
theorem ok_10 : chkT m_10 = true := by decide +kernel
set_option maxRecDepth 100000 in
theorem ok_11 : chkT m_11 = true := by decide +kernel
set_option maxRecDepth 100000 in
theorem ok_12 : chkT m_12 = true := by decide +kernel
set_option maxRecDepth 100000 in
theorem ok_13 : chkT m_13 = true := by decide +kernel
set_option maxRecDepth 100000 in
theorem ok_14 : chkT m_14 = true := by decide +kernel
set_option maxRecDepth 100000 in
theorem ok_15 : chkT m_15 = true := by decide +kernel
set_option maxRecDepth 100000 in
theorem ok_16 : chkT m_16 = true := by decide +kernel
set_option maxRecDepth 100000 in
theorem ok_17 : chkT m_17 = true := by decide +kernel
set_option maxRecDepth 100000 in
theorem ok_18 : chkT m_18 = true := by decide +kernel
set_option maxRecDepth 100000 in
theorem ok_19 : chkT m_19 = true := by decide +kernel
set_option maxRecDepth 100000 in
theorem ok_20 : chkT m_20 = true := by decide +kernel
set_option maxRecDepth 100000 in
theorem ok_21 : chkT m_21 = true := by decide +kernel
set_option maxRecDepth 100000 in
theorem ok_22 : chkT m_22 = true := by decide +kernel
set_option maxRecDepth 100000 in
theorem ok_23 : chkT m_23 = true := by decide +kernel
set_option maxRecDepth 100000 in
theorem ok_24 : chkT m_24 = true := by decide +kernel
set_option maxRecDepth 100000 in
theorem ok_25 : chkT m_25 = true := by decide +kernel
set_option maxRecDepth 100000 in
theorem ok_26 : chkT m_26 = true := by decide +kernel
set_option maxRecDepth 100000 in
theorem ok_27 : chkT m_27 = true := by decide +kernel
set_option maxRecDepth 100000 in
theorem ok_28 : chkT m_28 = true := by decide +kernel
set_option maxRecDepth 100000 in
theorem ok_29 : chkT m_29 = true := by decide +kernel
set_option maxRecDepth 100000 in
theorem ok_30 : chkT m_30 = true := by decide +kernel
set_option maxRecDepth 100000 in
theorem ok_31 : chkT m_31 = true := by decide +kernel
set_option maxRecDepth 100000 in
theorem ok_32 : chkT m_32 = true := by decide +kernel
set_option maxRecDepth 100000 in
theorem ok_33 : chkT m_33 = true := by decide +kernel
set_option maxRecDepth 100000 in
theorem ok_34 : chkT m_34 = true := by decide +kernel
set_option maxRecDepth 100000 in
theorem ok_35 : chkT m_35 = true := by decide +kernel
set_option maxRecDepth 100000 in
theorem ok_36 : chkT m_36 = true := by decide +kernel
set_option maxRecDepth 100000 in
theorem ok_37 : chkT m_37 = true := by decide +kernel
set_option maxRecDepth 100000 in
theorem ok_38 : chkT m_38 = true := by decide +kernel
set_option maxRecDepth 100000 in
theorem ok_39 : chkT m_39 = true := by decide +kernel
set_option maxRecDepth 100000 in
theorem ok_40 : chkT m_40 = true := by decide +kernel
set_option maxRecDepth 100000 in
theorem ok_41 : chkT m_41 = true := by decide +kernel
set_option maxRecDepth 100000 in
theorem ok_42 : chkT m_42 = true := by decide +kernel
set_option maxRecDepth 100000 in
theorem ok_43 : chkT m_43 = true := by decide +kernel
set_option maxRecDepth 100000 in
theorem ok_44 : chkT m_44 = true := by decide +kernel
set_option maxRecDepth 100000 in
theorem ok_45 : chkT m_45 = true := by decide +kernel
set_option maxRecDepth 100000 in
theorem ok_46 : chkT m_46 = true := by decide +kernel
set_option maxRecDepth 100000 in
theorem ok_47 : chkT m_47 = true := by decide +kernel
set_option maxRecDepth 100000 in
theorem ok_48 : chkT m_48 = true := by decide +kernel
set_option maxRecDepth 100000 in
theorem ok_49 : chkT m_49 = true := by decide +kernel
set_option maxRecDepth 100000 in
theorem ok_50 : chkT m_50 = true := by decide +kernel
set_option maxRecDepth 100000 in
theorem ok_51 : chkT m_51 = true := by decide +kernel
set_option maxRecDepth 100000 in
theorem ok_52 : chkT m_52 = true := by decide +kernel
end
section
set_option maxRecDepth 100000 in
theorem ok_53 : chkT m_53 = true := by decide +kernel
set_option maxRecDepth 100000 in
theorem ok_54 : chkT m_54 = true := by decide +kernel
set_option maxRecDepth 100000 in
theorem ok_55 : chkT m_55 = true := by decide +kernel
set_option maxRecDepth 100000 in
theorem ok_56 : chkT m_56 = true := by decide +kernel
set_option maxRecDepth 100000 in
theorem ok_57 : chkT m_57 = true := by decide +kernel
set_option maxRecDepth 100000 in
theorem ok_58 : chkT m_58 = true := by decide +kernel
set_option maxRecDepth 100000 in
theorem ok_59 : chkT m_59 = true := by decide +kernel
set_option maxRecDepth 100000 in
theorem ok_60 : chkT m_60 = true := by decide +kernel
set_option maxRecDepth 100000 in
theorem ok_61 : chkT m_61 = true := by decide +kernel
set_option maxRecDepth 100000 in
theorem ok_62 : chkT m_62 = true := by decide +kernel
set_option maxRecDepth 100000 in
theorem ok_63 : chkT m_63 = true := by decide +kernel
set_option maxRecDepth 100000 in
theorem ok_64 : chkT m_64 = true := by decide +kernel
set_option maxRecDepth 100000 in
theorem ok_65 : chkT m_65 = true := by decide +kernel
set_option maxRecDepth 100000 in
theorem ok_66 : chkT m_66 = true := by decide +kernel
set_option maxRecDepth 100000 in
theorem ok_67 : chkT m_67 = true := by decide +kernel
set_option maxRecDepth 100000 in
theorem ok_68 : chkT m_68 = true := by decide +kernel
set_option maxRecDepth 100000 in
theorem ok_69 : chkT m_69 = true := by decide +kernel
set_option maxRecDepth 100000 in
theorem ok_70 : chkT m_70 = true := by decide +kernel
set_option maxRecDepth 100000 in
theorem ok_71 : chkT m_71 = true := by decide +kernel
set_option maxRecDepth 100000 in
theorem ok_72 : chkT m_72 = true := by decide +kernel
set_option maxRecDepth 100000 in
theorem ok_73 : chkT m_73 = true := by decide +kernel
set_option maxRecDepth 100000 in
theorem ok_74 : chkT m_74 = true := by decide +kernel
set_option maxRecDepth 100000 in
theorem ok_75 : chkT m_75 = true := by decide +kernel
set_option maxRecDepth 100000 in
theorem ok_76 : chkT m_76 = true := by decide +kernel
set_option maxRecDepth 100000 in
theorem ok_77 : chkT m_77 = true := by decide +kernel
set_option maxRecDepth 100000 in
theorem ok_78 : chkT m_78 = true := by decide +kernel
set_option maxRecDepth 100000 in
theorem ok_79 : chkT m_79 = true := by decide +kernel
set_option maxRecDepth 100000 in
theorem ok_80 : chkT m_80 = true := by decide +kernel
set_option maxRecDepth 100000 in
theorem ok_81 : chkT m_81 = true := by decide +kernel
set_option maxRecDepth 100000 in
theorem ok_82 : chkT m_82 = true := by decide +kernel
set_option maxRecDepth 100000 in
theorem ok_83 : chkT m_83 = true := by decide +kernel
set_option maxRecDepth 100000 in
theorem ok_84 : chkT m_84 = true := by decide +kernel
set_option maxRecDepth 100000 in
theorem ok_85 : chkT m_85 = true := by decide +kernel
set_option maxRecDepth 100000 in
theorem ok_86 : chkT m_86 = true := by decide +kernel
set_option maxRecDepth 100000 in
theorem ok_87 : chkT m_87 = true := by decide +kernel
set_option maxRecDepth 100000 in
theorem ok_88 : chkT m_88 = true := by decide +kernel
set_option maxRecDepth 100000 in
theorem ok_89 : chkT m_89 = true := by decide +kernel
set_option maxRecDepth 100000 in
theorem ok_90 : chkT m_90 = true := by decide +kernel
set_option maxRecDepth 100000 in
theorem ok_91 : chkT m_91 = true := by decide +kernel
set_option maxRecDepth 100000 in
theorem ok_92 : chkT m_92 = true := by decide +kernel
set_option maxRecDepth 100000 in
theorem ok_93 : chkT m_93 = true := by decide +kernel
set_option maxRecDepth 100000 in
theorem ok_94 : chkT m_94 = true := by decide +kernel
set_option maxRecDepth 100000 in
theorem ok_95 : chkT m_95 = true := by decide +kernel
set_option maxRecDepth 100000 in
theorem ok_96 : chkT m_96 = true := by decide +kernel
set_option maxRecDepth 100000 in
theorem ok_97 : chkT m_97 = true := by decide +kernel
set_option maxRecDepth 100000 in
theorem ok_98 : chkT m_98 = true := by decide +kernel
set_option maxRecDepth 100000 in
theorem ok_99 : chkT m_99 = true := by decide +kernel
set_option maxRecDepth 100000 in
theorem ok_100 : chkT m_100 = true := by decide +kernel
set_option maxRecDepth 100000 in
theorem ok_101 : chkT m_101 = true := by decide +kernel
set_option maxRecDepth 100000 in
theorem ok_102 : chkT m_102 = true := by decide +kernel
set_option maxRecDepth 100000 in
theorem ok_103 : chkT m_103 = true := by decide +kernel
set_option maxRecDepth 100000 in
theorem ok_104 : chkT m_104 = true := by decide +kernel
set_option maxRecDepth 100000 in
theorem ok_105 : chkT m_105 = true := by decide +kernel
set_option maxRecDepth 100000 in
theorem ok_106 : chkT m_106 = true := by decide +kernel
set_option maxRecDepth 100000 in
theorem ok_107 : chkT m_107 = true := by decide +kernel
end
section
set_option maxRecDepth 100000 in
theorem ok_108 : chkT m_108 = true := by decide +kernel
set_option maxRecDepth 100000 in
theorem ok_109 : chkT m_109 = true := by decide +kernel
set_option maxRecDepth 100000 in
theorem ok_110 : chkT m_110 = true := by decide +kernel
set_option maxRecDepth 100000 in
theorem ok_111 : chkT m_111 = true := by decide +kernel
set_option maxRecDepth 100000 in
theorem ok_112 : chkT m_112 = true := by decide +kernel
set_option maxRecDepth 100000 in
theorem ok_113 : chkT m_113 = true := by decide +kernel
set_option maxRecDepth 100000 in
theorem ok_114 : chkT m_114 = true := by decide +kernel
set_option maxRecDepth 100000 in
theorem ok_115 : chkT m_115 = true := by decide +kernel
set_option maxRecDepth 100000 in
theorem ok_116 : chkT m_116 = true := by decide +kernel
set_option maxRecDepth 100000 in
theorem ok_117 : chkT m_117 = true := by decide +kernel
set_option maxRecDepth 100000 in
theorem ok_118 : chkT m_118 = true := by decide +kernel
set_option maxRecDepth 100000 in
theorem ok_119 : chkT m_119 = true := by decide +kernel
set_option maxRecDepth 100000 in
theorem ok_120 : chkT m_120 = true := by decide +kernel
set_option maxRecDepth 100000 in
theorem ok_121 : chkT m_121 = true := by decide +kernel
set_option maxRecDepth 100000 in
theorem ok_122 : chkT m_122 = true := by decide +kernel
set_option maxRecDepth 100000 in
theorem ok_123 : chkT m_123 = true := by decide +kernel
set_option maxRecDepth 100000 in
theorem ok_124 : chkT m_124 = true := by decide +kernel
set_option maxRecDepth 100000 in
theorem ok_125 : chkT m_125 = true := by decide +kernel
set_option maxRecDepth 100000 in
theorem ok_126 : chkT m_126 = true := by decide +kernel
set_option maxRecDepth 100000 in
theorem ok_127 : chkT m_127 = true := by decide +kernel
set_option maxRecDepth 100000 in
theorem ok_128 : chkT m_128 = true := by decide +kernel
set_option maxRecDepth 100000 in
theorem ok_129 : chkT m_129 = true := by decide +kernel
set_option maxRecDepth 100000 in
theorem ok_130 : chkT m_130 = true := by decide +kernel
set_option maxRecDepth 100000 in
theorem ok_131 : chkT m_131 = true := by decide +kernel
set_option maxRecDepth 100000 in
theorem ok_132 : chkT m_132 = true := by decide +kernel
set_option maxRecDepth 100000 in
theorem ok_133 : chkT m_133 = true := by decide +kernel
set_option maxRecDepth 100000 in
theorem ok_134 : chkT m_134 = true := by decide +kernel
set_option maxRecDepth 100000 in
theorem ok_135 : chkT m_135 = true := by decide +kernel
set_option maxRecDepth 100000 in
theorem ok_136 : chkT m_136 = true := by decide +kernel
set_option maxRecDepth 100000 in
theorem ok_137 : chkT m_137 = true := by decide +kernel
set_option maxRecDepth 100000 in
theorem ok_138 : chkT m_138 = true := by decide +kernel
set_option maxRecDepth 100000 in
theorem ok_139 : chkT m_139 = true := by decide +kernel
set_option maxRecDepth 100000 in
theorem ok_140 : chkT m_140 = true := by decide +kernel
set_option maxRecDepth 100000 in
theorem ok_141 : chkT m_141 = true := by decide +kernel
set_option maxRecDepth 100000 in
theorem ok_142 : chkT m_142 = true := by decide +kernel
set_option maxRecDepth 100000 in
theorem ok_143 : chkT m_143 = true := by decide +kernel
set_option maxRecDepth 100000 in
theorem ok_144 : chkT m_144 = true := by decide +kernel
set_option maxRecDepth 100000 in
theorem ok_145 : chkT m_145 = true := by decide +kernel
set_option maxRecDepth 100000 in
theorem ok_146 : chkT m_146 = true := by decide +kernel
set_option maxRecDepth 100000 in
theorem ok_147 : chkT m_147 = true := by decide +kernel
set_option maxRecDepth 100000 in
theorem ok_148 : chkT m_148 = true := by decide +kernel
set_option maxRecDepth 100000 in
theorem ok_149 : chkT m_149 = true := by decide +kernel
set_option maxRecDepth 100000 in
theorem ok_150 : chkT m_150 = true := by decide +kernel
set_option maxRecDepth 100000 in
theorem ok_151 : chkT m_151 = true := by decide +kernel
set_option maxRecDepth 100000 in
theorem ok_152 : chkT m_152 = true := by decide +kernel
set_option maxRecDepth 100000 in
theorem ok_153 : chkT m_153 = true := by decide +kernel
set_option maxRecDepth 100000 in
theorem ok_154 : chkT m_154 = true := by decide +kernel
set_option maxRecDepth 100000 in
theorem ok_155 : chkT m_155 = true := by decide +kernel
set_option maxRecDepth 100000 in
theorem ok_156 : chkT m_156 = true := by decide +kernel
set_option maxRecDepth 100000 in
theorem ok_157 : chkT m_157 = true := by decide +kernel
set_option maxRecDepth 100000 in
theorem ok_158 : chkT m_158 = true := by decide +kernel
set_option maxRecDepth 100000 in
theorem ok_159 : chkT m_159 = true := by decide +kernel
set_option maxRecDepth 100000 in
theorem ok_160 : chkT m_160 = true := by decide +kernel
set_option maxRecDepth 100000 in
theorem ok_161 : chkT m_161 = true := by decide +kernel
set_option maxRecDepth 100000 in
theorem ok_162 : chkT m_162 = true := by decide +kernel
set_option maxRecDepth 100000 in
theorem ok_163 : chkT m_163 = true := by decide +kernel
set_option maxRecDepth 100000 in
theorem ok_164 : chkT m_164 = true := by decide +kernel
set_option maxRecDepth 100000 in
theorem ok_165 : chkT m_165 = true := by decide +kernel
set_option maxRecDepth 100000 in
theorem ok_166 : chkT m_166 = true := by decide +kernel
set_option maxRecDepth 100000 in
theorem ok_167 : chkT m_167 = true := by decide +kernel
end
section
set_option maxRecDepth 100000 in
theorem ok_168 : chkT m_168 = true := by decide +kernel
set_option maxRecDepth 100000 in
theorem ok_169 : chkT m_169 = true := by decide +kernel
set_option maxRecDepth 100000 in
theorem ok_170 : chkT m_170 = true := by decide +kernel
set_option maxRecDepth 100000 in
theorem ok_171 : chkT m_171 = true := by decide +kernel
set_option maxRecDepth 100000 in
theorem ok_172 : chkT m_172 = true := by decide +kernel
set_option maxRecDepth 100000 in
theorem ok_173 : chkT m_173 = true := by decide +kernel
set_option maxRecDepth 100000 in
theorem ok_174 : chkT m_174 = true := by decide +kernel
set_option maxRecDepth 100000 in
theorem ok_175 : chkT m_175 = true := by decide +kernel
set_option maxRecDepth 100000 in
theorem ok_176 : chkT m_176 = true := by decide +kernel
set_option maxRecDepth 100000 in
theorem ok_177 : chkT m_177 = true := by decide +kernel
set_option maxRecDepth 100000 in
theorem ok_178 : chkT m_178 = true := by decide +kernel
set_option maxRecDepth 100000 in
theorem ok_179 : chkT m_179 = true := by decide +kernel
set_option maxRecDepth 100000 in
theorem ok_180 : chkT m_180 = true := by decide +kernel
set_option maxRecDepth 100000 in
theorem ok_181 : chkT m_181 = true := by decide +kernel
set_option maxRecDepth 100000 in
theorem ok_182 : chkT m_182 = true := by decide +kernel
set_option maxRecDepth 100000 in
theorem ok_183 : chkT m_183 = true := by decide +kernel
set_option maxRecDepth 100000 in
theorem ok_184 : chkT m_184 = true := by decide +kernel
set_option maxRecDepth 100000 in
theorem ok_185 : chkT m_185 = true := by decide +kernel
set_option maxRecDepth 100000 in
theorem ok_186 : chkT m_186 = true := by decide +kernel
set_option maxRecDepth 100000 in
theorem ok_187 : chkT m_187 = true := by decide +kernel
set_option maxRecDepth 100000 in
theorem ok_188 : chkT m_188 = true := by decide +kernel
set_option maxRecDepth 100000 in
theorem ok_189 : chkT m_189 = true := by decide +kernel
set_option maxRecDepth 100000 in
theorem ok_190 : chkT m_190 = true := by decide +kernel
set_option maxRecDepth 100000 in
theorem ok_191 : chkT m_191 = true := by decide +kernel
set_option maxRecDepth 100000 in
theorem ok_192 : chkT m_192 = true := by decide +kernel
set_option maxRecDepth 100000 in
theorem ok_193 : chkT m_193 = true := by decide +kernel
set_option maxRecDepth 100000 in
theorem ok_194 : chkT m_194 = true := by decide +kernel
set_option maxRecDepth 100000 in
theorem ok_195 : chkT m_195 = true := by decide +kernel
set_option maxRecDepth 100000 in
theorem ok_196 : chkT m_196 = true := by decide +kernel
set_option maxRecDepth 100000 in
theorem ok_197 : chkT m_197 = true := by decide +kernel
set_option maxRecDepth 100000 in
theorem ok_198 : chkT m_198 = true := by decide +kernel
set_option maxRecDepth 100000 in
theorem ok_199 : chkT m_199 = true := by decide +kernel
set_option maxRecDepth 100000 in
theorem ok_200 : chkT m_200 = true := by decide +kernel
set_option maxRecDepth 100000 in
theorem ok_201 : chkT m_201 = true := by decide +kernel
set_option maxRecDepth 100000 in
theorem ok_202 : chkT m_202 = true := by decide +kernel
set_option maxRecDepth 100000 in
theorem ok_203 : chkT m_203 = true := by decide +kernel
set_option maxRecDepth 100000 in
theorem ok_204 : chkT m_204 = true := by decide +kernel
set_option maxRecDepth 100000 in
theorem ok_205 : chkT m_205 = true := by decide +kernel
set_option maxRecDepth 100000 in
theorem ok_206 : chkT m_206 = true := by decide +kernel
set_option maxRecDepth 100000 in
theorem ok_207 : chkT m_207 = true := by decide +kernel
set_option maxRecDepth 100000 in
theorem ok_208 : chkT m_208 = true := by decide +kernel
set_option maxRecDepth 100000 in
theorem ok_209 : chkT m_209 = true := by decide +kernel
set_option maxRecDepth 100000 in
theorem ok_210 : chkT m_210 = true := by decide +kernel
set_option maxRecDepth 100000 in
theorem ok_211 : chkT m_211 = true := by decide +kernel
set_option maxRecDepth 100000 in
theorem ok_212 : chkT m_212 = true := by decide +kernel
set_option maxRecDepth 100000 in
theorem ok_213 : chkT m_213 = true := by decide +kernel
set_option maxRecDepth 100000 in
theorem ok_214 : chkT m_214 = true := by decide +kernel
set_option maxRecDepth 100000 in
theorem ok_215 : chkT m_215 = true := by decide +kernel
set_option maxRecDepth 100000 in
theorem ok_216 : chkT m_216 = true := by decide +kernel
set_option maxRecDepth 100000 in
theorem ok_217 : chkT m_217 = true := by decide +kernel
set_option maxRecDepth 100000 in
theorem ok_218 : chkT m_218 = true := by decide +kernel
set_option maxRecDepth 100000 in
theorem ok_219 : chkT m_219 = true := by decide +kernel
set_option maxRecDepth 100000 in
theorem ok_220 : chkT m_220 = true := by decide +kernel
set_option maxRecDepth 100000 in
theorem ok_221 : chkT m_221 = true := by decide +kernel
end
section
set_option maxRecDepth 100000 in
theorem ok_222 : chkT m_222 = true := by decide +kernel
set_option maxRecDepth 100000 in
theorem ok_223 : chkT m_223 = true := by decide +kernel
set_option maxRecDepth 100000 in
theorem ok_224 : chkT m_224 = true := by decide +kernel
set_option maxRecDepth 100000 in
theorem ok_225 : chkT m_225 = true := by decide +kernel
set_option maxRecDepth 100000 in
theorem ok_226 : chkT m_226 = true := by decide +kernel
set_option maxRecDepth 100000 in
theorem ok_227 : chkT m_227 = true := by decide +kernel
set_option maxRecDepth 100000 in
theorem ok_228 : chkT m_228 = true := by decide +kernel
set_option maxRecDepth 100000 in
theorem ok_229 : chkT m_229 = true := by decide +kernel
set_option maxRecDepth 100000 in
theorem ok_230 : chkT m_230 = true := by decide +kernel
set_option maxRecDepth 100000 in
theorem ok_231 : chkT m_231 = true := by decide +kernel
set_option maxRecDepth 100000 in
theorem ok_232 : chkT m_232 = true := by decide +kernel
set_option maxRecDepth 100000 in
theorem ok_233 : chkT m_233 = true := by decide +kernel
set_option maxRecDepth 100000 in
theorem ok_234 : chkT m_234 = true := by decide +kernel
set_option maxRecDepth 100000 in
theorem ok_235 : chkT m_235 = true := by decide +kernel
set_option maxRecDepth 100000 in
theorem ok_236 : chkT m_236 = true := by decide +kernel
set_option maxRecDepth 100000 in
theorem ok_237 : chkT m_237 = true := by decide +kernel
set_option maxRecDepth 100000 in
theorem ok_238 : chkT m_238 = true := by decide +kernel
set_option maxRecDepth 100000 in
theorem ok_239 : chkT m_239 = true := by decide +kernel
set_option maxRecDepth 100000 in
theorem ok_240 : chkT m_240 = true := by decide +kernel
set_option maxRecDepth 100000 in
theorem ok_241 : chkT m_241 = true := by decide +kernel
set_option maxRecDepth 100000 in
theorem ok_242 : chkT m_242 = true := by decide +kernel
set_option maxRecDepth 100000 in
theorem ok_243 : chkT m_243 = true := by decide +kernel
set_option maxRecDepth 100000 in
theorem ok_244 : chkT m_244 = true := by decide +kernel
set_option maxRecDepth 100000 in
theorem ok_245 : chkT m_245 = true := by decide +kernel
set_option maxRecDepth 100000 in
theorem ok_246 : chkT m_246 = true := by decide +kernel
set_option maxRecDepth 100000 in
theorem ok_247 : chkT m_247 = true := by decide +kernel
set_option maxRecDepth 100000 in
theorem ok_248 : chkT m_248 = true := by decide +kernel
set_option maxRecDepth 100000 in
theorem ok_249 : chkT m_249 = true := by decide +kernel
set_option maxRecDepth 100000 in
theorem ok_250 : chkT m_250 = true := by decide +kernel
set_option maxRecDepth 100000 in
theorem ok_251 : chkT m_251 = true := by decide +kernel
set_option maxRecDepth 100000 in
theorem ok_252 : chkT m_252 = true := by decide +kernel
set_option maxRecDepth 100000 in
theorem ok_253 : chkT m_253 = true := by decide +kernel
set_option maxRecDepth 100000 in
theorem ok_254 : chkT m_254 = true := by decide +kernel
set_option maxRecDepth 100000 in
theorem ok_255 : chkT m_255 = true := by decide +kernel
set_option maxRecDepth 100000 in
theorem ok_256 : chkT m_256 = true := by decide +kernel
set_option maxRecDepth 100000 in
theorem ok_257 : chkT m_257 = true := by decide +kernel
set_option maxRecDepth 100000 in
theorem ok_258 : chkT m_258 = true := by decide +kernel
set_option maxRecDepth 100000 in
theorem ok_259 : chkT m_259 = true := by decide +kernel
set_option maxRecDepth 100000 in
theorem ok_260 : chkT m_260 = true := by decide +kernel
set_option maxRecDepth 100000 in
theorem ok_261 : chkT m_261 = true := by decide +kernel
set_option maxRecDepth 100000 in
theorem ok_262 : chkT m_262 = true := by decide +kernel
set_option maxRecDepth 100000 in
theorem ok_263 : chkT m_263 = true := by decide +kernel
set_option maxRecDepth 100000 in
theorem ok_264 : chkT m_264 = true := by decide +kernel
set_option maxRecDepth 100000 in
theorem ok_265 : chkT m_265 = true := by decide +kernel
set_option maxRecDepth 100000 in
theorem ok_266 : chkT m_266 = true := by decide +kernel
set_option maxRecDepth 100000 in
theorem ok_267 : chkT m_267 = true := by decide +kernel
set_option maxRecDepth 100000 in
theorem ok_268 : chkT m_268 = true := by decide +kernel
set_option maxRecDepth 100000 in
theorem ok_269 : chkT m_269 = true := by decide +kernel
set_option maxRecDepth 100000 in
theorem ok_270 : chkT m_270 = true := by decide +kernel
end
section
set_option maxRecDepth 100000 in
theorem ok_271 : chkT m_271 = true := by decide +kernel
set_option maxRecDepth 100000 in
theorem ok_272 : chkT m_272 = true := by decide +kernel
set_option maxRecDepth 100000 in
theorem ok_273 : chkT m_273 = true := by decide +kernel
set_option maxRecDepth 100000 in
theorem ok_274 : chkT m_274 = true := by decide +kernel
set_option maxRecDepth 100000 in
theorem ok_275 : chkT m_275 = true := by decide +kernel
set_option maxRecDepth 100000 in
theorem ok_276 : chkT m_276 = true := by decide +kernel
set_option maxRecDepth 100000 in
theorem ok_277 : chkT m_277 = true := by decide +kernel
set_option maxRecDepth 100000 in
theorem ok_278 : chkT m_278 = true := by decide +kernel
set_option maxRecDepth 100000 in
theorem ok_279 : chkT m_279 = true := by decide +kernel
set_option maxRecDepth 100000 in
theorem ok_280 : chkT m_280 = true := by decide +kernel
set_option maxRecDepth 100000 in
theorem ok_281 : chkT m_281 = true := by decide +kernel
set_option maxRecDepth 100000 in
theorem ok_282 : chkT m_282 = true := by decide +kernel
set_option maxRecDepth 100000 in
theorem ok_283 : chkT m_283 = true := by decide +kernel
set_option maxRecDepth 100000 in
theorem ok_284 : chkT m_284 = true := by decide +kernel
set_option maxRecDepth 100000 in
theorem ok_285 : chkT m_285 = true := by decide +kernel
set_option maxRecDepth 100000 in
theorem ok_286 : chkT m_286 = true := by decide +kernel
set_option maxRecDepth 100000 in
theorem ok_287 : chkT m_287 = true := by decide +kernel
set_option maxRecDepth 100000 in
theorem ok_288 : chkT m_288 = true := by decide +kernel
set_option maxRecDepth 100000 in
theorem ok_289 : chkT m_289 = true := by decide +kernel
set_option maxRecDepth 100000 in
theorem ok_290 : chkT m_290 = true := by decide +kernel
set_option maxRecDepth 100000 in
theorem ok_291 : chkT m_291 = true := by decide +kernel
set_option maxRecDepth 100000 in
theorem ok_292 : chkT m_292 = true := by decide +kernel
set_option maxRecDepth 100000 in
theorem ok_293 : chkT m_293 = true := by decide +kernel
set_option maxRecDepth 100000 in
theorem ok_294 : chkT m_294 = true := by decide +kernel
set_option maxRecDepth 100000 in
theorem ok_295 : chkT m_295 = true := by decide +kernel
set_option maxRecDepth 100000 in
theorem ok_296 : chkT m_296 = true := by decide +kernel
set_option maxRecDepth 100000 in
theorem ok_297 : chkT m_297 = true := by decide +kernel
set_option maxRecDepth 100000 in
theorem ok_298 : chkT m_298 = true := by decide +kernel
set_option maxRecDepth 100000 in
theorem ok_299 : chkT m_299 = true := by decide +kernel
set_option maxRecDepth 100000 in
theorem ok_300 : chkT m_300 = true := by decide +kernel
set_option maxRecDepth 100000 in
theorem ok_301 : chkT m_301 = true := by decide +kernel
set_option maxRecDepth 100000 in
theorem ok_302 : chkT m_302 = true := by decide +kernel
set_option maxRecDepth 100000 in
theorem ok_303 : chkT m_303 = true := by decide +kernel
set_option maxRecDepth 100000 in
theorem ok_304 : chkT m_304 = true := by decide +kernel
set_option maxRecDepth 100000 in
theorem ok_305 : chkT m_305 = true := by decide +kernel
set_option maxRecDepth 100000 in
theorem ok_306 : chkT m_306 = true := by decide +kernel
set_option maxRecDepth 100000 in
theorem ok_307 : chkT m_307 = true := by decide +kernel
set_option maxRecDepth 100000 in
theorem ok_308 : chkT m_308 = true := by decide +kernel
set_option maxRecDepth 100000 in
theorem ok_309 : chkT m_309 = true := by decide +kernel
end
section
set_option maxRecDepth 100000 in
theorem ok_310 : chkT m_310 = true := by decide +kernel
set_option maxRecDepth 100000 in
theorem ok_311 : chkT m_311 = true := by decide +kernel
set_option maxRecDepth 100000 in
theorem ok_312 : chkT m_312 = true := by decide +kernel
set_option maxRecDepth 100000 in
theorem ok_313 : chkT m_313 = true := by decide +kernel
set_option maxRecDepth 100000 in
theorem ok_314 : chkT m_314 = true := by decide +kernel
end
section
set_option maxRecDepth 100000 in
theorem okl_0 : chkL m_315 0 k_315_0 = true := by decide +kernel
end
section
set_option maxRecDepth 100000 in
theorem okl_1 : chkL m_315 80 k_315_1 = true := by decide +kernel
end
section
set_option maxRecDepth 100000 in
theorem okl_2 : chkL m_315 160 k_315_2 = true := by decide +kernel
end
section
set_option maxRecDepth 100000 in
theorem okl_3 : chkL m_315 240 k_315_3 = true := by decide +kernel
end
section
set_option maxRecDepth 100000 in
theorem okl_4 : chkL m_315 320 k_315_4 = true := by decide +kernel
end
section
set_option maxRecDepth 100000 in
theorem okl_5 : chkL m_315 400 k_315_5 = true := by decide +kernel
end
section
set_option maxRecDepth 100000 in
theorem okl_6 : chkL m_315 480 k_315_6 = true := by decide +kernel
end
section
set_option maxRecDepth 100000 in
theorem okl_7 : chkL m_315 560 k_315_7 = true := by decide +kernel
end
section
set_option maxRecDepth 100000 in
theorem okl_8 : chkL m_315 640 k_315_8 = true := by decide +kernel
end
section
set_option maxRecDepth 100000 in
theorem okl_9 : chkL m_315 720 k_315_9 = true := by decide +kernel
end
section
set_option maxRecDepth 100000 in
theorem okl_10 : chkL m_315 800 k_315_10 = true := by decide +kernel
end
section
set_option maxRecDepth 100000 in
theorem okl_11 : chkL m_315 880 k_315_11 = true := by decide +kernel
end
section
set_option maxRecDepth 100000 in
theorem okl_12 : chkL m_315 960 k_315_12 = true := by decide +kernel
end
section
set_option maxRecDepth 100000 in
theorem okl_13 : chkL m_315 1040 k_315_13 = true := by decide +kernel
end
section
set_option maxRecDepth 100000 in
theorem okl_14 : chkL m_315 1120 k_315_14 = true := by decide +kernel
end
section
theorem chkL_app (t : aMt) : ∀ (a : List aM) (k : Nat) (b : List aM), chkL t k (a ++ b) = (chkL t k a && chkL t (k + a.length) b)
  | [], k, b => by simp [chkL]
  | x :: r, k, b => by
    simp only [List.cons_append, chkL, chkL_app t r (k + 1) b, Bool.and_assoc, List.length_cons]
    rw [show k + 1 + r.length = k + (r.length + 1) by omega]
theorem okL : chkT m_315 = true := by
  have h : chkL m_315 0 (tC m_315) = true := by
    show chkL m_315 0 k_315 = true
    unfold k_315
    simp only [chkL_app, Bool.and_eq_true]
    exact ⟨okl_0, ⟨okl_1, ⟨okl_2, ⟨okl_3, ⟨okl_4, ⟨okl_5, ⟨okl_6, ⟨okl_7, ⟨okl_8, ⟨okl_9, ⟨okl_10, ⟨okl_11, ⟨okl_12, ⟨okl_13, okl_14⟩⟩⟩⟩⟩⟩⟩⟩⟩⟩⟩⟩⟩⟩
  unfold chkT
  rw [h, Bool.and_true]
  decide +kernel
theorem ok_315 : chkT m_315 = true := okL
theorem okc_0 : ∀ t ∈ mL_0, chkT t = true := by
  unfold mL_0
  exact List.forall_mem_cons.mpr ⟨ok_0, List.forall_mem_cons.mpr ⟨ok_1, List.forall_mem_cons.mpr ⟨ok_2, List.forall_mem_cons.mpr ⟨ok_3, List.forall_mem_cons.mpr ⟨ok_4, List.forall_mem_cons.mpr ⟨ok_5, List.forall_mem_cons.mpr ⟨ok_6, List.forall_mem_cons.mpr ⟨ok_7, List.forall_mem_cons.mpr ⟨ok_8, List.forall_mem_cons.mpr ⟨ok_9, List.forall_mem_cons.mpr ⟨ok_10, List.forall_mem_cons.mpr ⟨ok_11, List.forall_mem_cons.mpr ⟨ok_12, List.forall_mem_cons.mpr ⟨ok_13, List.forall_mem_cons.mpr ⟨ok_14, List.forall_mem_cons.mpr ⟨ok_15, List.forall_mem_cons.mpr ⟨ok_16, List.forall_mem_cons.mpr ⟨ok_17, List.forall_mem_cons.mpr ⟨ok_18, List.forall_mem_cons.mpr ⟨ok_19, List.forall_mem_cons.mpr ⟨ok_20, List.forall_mem_cons.mpr ⟨ok_21, List.forall_mem_cons.mpr ⟨ok_22, List.forall_mem_cons.mpr ⟨ok_23, List.forall_mem_cons.mpr ⟨ok_24, List.forall_mem_cons.mpr ⟨ok_25, List.forall_mem_cons.mpr ⟨ok_26, List.forall_mem_cons.mpr ⟨ok_27, List.forall_mem_cons.mpr ⟨ok_28, List.forall_mem_cons.mpr ⟨ok_29, List.forall_mem_cons.mpr ⟨ok_30, List.forall_mem_cons.mpr ⟨ok_31, fun _ h => absurd h List.not_mem_nil⟩⟩⟩⟩⟩⟩⟩⟩⟩⟩⟩⟩⟩⟩⟩⟩⟩⟩⟩⟩⟩⟩⟩⟩⟩⟩⟩⟩⟩⟩⟩⟩
theorem okc_1 : ∀ t ∈ mL_1, chkT t = true := by
  unfold mL_1
  exact List.forall_mem_cons.mpr ⟨ok_32, List.forall_mem_cons.mpr ⟨ok_33, List.forall_mem_cons.mpr ⟨ok_34, List.forall_mem_cons.mpr ⟨ok_35, List.forall_mem_cons.mpr ⟨ok_36, List.forall_mem_cons.mpr ⟨ok_37, List.forall_mem_cons.mpr ⟨ok_38, List.forall_mem_cons.mpr ⟨ok_39, List.forall_mem_cons.mpr ⟨ok_40, List.forall_mem_cons.mpr ⟨ok_41, List.forall_mem_cons.mpr ⟨ok_42, List.forall_mem_cons.mpr ⟨ok_43, List.forall_mem_cons.mpr ⟨ok_44, List.forall_mem_cons.mpr ⟨ok_45, List.forall_mem_cons.mpr ⟨ok_46, List.forall_mem_cons.mpr ⟨ok_47, List.forall_mem_cons.mpr ⟨ok_48, List.forall_mem_cons.mpr ⟨ok_49, List.forall_mem_cons.mpr ⟨ok_50, List.forall_mem_cons.mpr ⟨ok_51, List.forall_mem_cons.mpr ⟨ok_52, List.forall_mem_cons.mpr ⟨ok_53, List.forall_mem_cons.mpr ⟨ok_54, List.forall_mem_cons.mpr ⟨ok_55, List.forall_mem_cons.mpr ⟨ok_56, List.forall_mem_cons.mpr ⟨ok_57, List.forall_mem_cons.mpr ⟨ok_58, List.forall_mem_cons.mpr ⟨ok_59, List.forall_mem_cons.mpr ⟨ok_60, List.forall_mem_cons.mpr ⟨ok_61, List.forall_mem_cons.mpr ⟨ok_62, List.forall_mem_cons.mpr ⟨ok_63, fun _ h => absurd h List.not_mem_nil⟩⟩⟩⟩⟩⟩⟩⟩⟩⟩⟩⟩⟩⟩⟩⟩⟩⟩⟩⟩⟩⟩⟩⟩⟩⟩⟩⟩⟩⟩⟩⟩
theorem okc_2 : ∀ t ∈ mL_2, chkT t = true := by
  unfold mL_2
  exact List.forall_mem_cons.mpr ⟨ok_64, List.forall_mem_cons.mpr ⟨ok_65, List.forall_mem_cons.mpr ⟨ok_66, List.forall_mem_cons.mpr ⟨ok_67, List.forall_mem_cons.mpr ⟨ok_68, List.forall_mem_cons.mpr ⟨ok_69, List.forall_mem_cons.mpr ⟨ok_70, List.forall_mem_cons.mpr ⟨ok_71, List.forall_mem_cons.mpr ⟨ok_72, List.forall_mem_cons.mpr ⟨ok_73, List.forall_mem_cons.mpr ⟨ok_74, List.forall_mem_cons.mpr ⟨ok_75, List.forall_mem_cons.mpr ⟨ok_76, List.forall_mem_cons.mpr ⟨ok_77, List.forall_mem_cons.mpr ⟨ok_78, List.forall_mem_cons.mpr ⟨ok_79, List.forall_mem_cons.mpr ⟨ok_80, List.forall_mem_cons.mpr ⟨ok_81, List.forall_mem_cons.mpr ⟨ok_82, List.forall_mem_cons.mpr ⟨ok_83, List.forall_mem_cons.mpr ⟨ok_84, List.forall_mem_cons.mpr ⟨ok_85, List.forall_mem_cons.mpr ⟨ok_86, List.forall_mem_cons.mpr ⟨ok_87, List.forall_mem_cons.mpr ⟨ok_88, List.forall_mem_cons.mpr ⟨ok_89, List.forall_mem_cons.mpr ⟨ok_90, List.forall_mem_cons.mpr ⟨ok_91, List.forall_mem_cons.mpr ⟨ok_92, List.forall_mem_cons.mpr ⟨ok_93, List.forall_mem_cons.mpr ⟨ok_94, List.forall_mem_cons.mpr ⟨ok_95, fun _ h => absurd h List.not_mem_nil⟩⟩⟩⟩⟩⟩⟩⟩⟩⟩⟩⟩⟩⟩⟩⟩⟩⟩⟩⟩⟩⟩⟩⟩⟩⟩⟩⟩⟩⟩⟩⟩
theorem okc_3 : ∀ t ∈ mL_3, chkT t = true := by
  unfold mL_3
  exact List.forall_mem_cons.mpr ⟨ok_96, List.forall_mem_cons.mpr ⟨ok_97, List.forall_mem_cons.mpr ⟨ok_98, List.forall_mem_cons.mpr ⟨ok_99, List.forall_mem_cons.mpr ⟨ok_100, List.forall_mem_cons.mpr ⟨ok_101, List.forall_mem_cons.mpr ⟨ok_102, List.forall_mem_cons.mpr ⟨ok_103, List.forall_mem_cons.mpr ⟨ok_104, List.forall_mem_cons.mpr ⟨ok_105, List.forall_mem_cons.mpr ⟨ok_106, List.forall_mem_cons.mpr ⟨ok_107, List.forall_mem_cons.mpr ⟨ok_108, List.forall_mem_cons.mpr ⟨ok_109, List.forall_mem_cons.mpr ⟨ok_110, List.forall_mem_cons.mpr ⟨ok_111, List.forall_mem_cons.mpr ⟨ok_112, List.forall_mem_cons.mpr ⟨ok_113, List.forall_mem_cons.mpr ⟨ok_114, List.forall_mem_cons.mpr ⟨ok_115, List.forall_mem_cons.mpr ⟨ok_116, List.forall_mem_cons.mpr ⟨ok_117, List.forall_mem_cons.mpr ⟨ok_118, List.forall_mem_cons.mpr ⟨ok_119, List.forall_mem_cons.mpr ⟨ok_120, List.forall_mem_cons.mpr ⟨ok_121, List.forall_mem_cons.mpr ⟨ok_122, List.forall_mem_cons.mpr ⟨ok_123, List.forall_mem_cons.mpr ⟨ok_124, List.forall_mem_cons.mpr ⟨ok_125, List.forall_mem_cons.mpr ⟨ok_126, List.forall_mem_cons.mpr ⟨ok_127, fun _ h => absurd h List.not_mem_nil⟩⟩⟩⟩⟩⟩⟩⟩⟩⟩⟩⟩⟩⟩⟩⟩⟩⟩⟩⟩⟩⟩⟩⟩⟩⟩⟩⟩⟩⟩⟩⟩
theorem okc_4 : ∀ t ∈ mL_4, chkT t = true := by
  unfold mL_4
  exact List.forall_mem_cons.mpr ⟨ok_128, List.forall_mem_cons.mpr ⟨ok_129, List.forall_mem_cons.mpr ⟨ok_130, List.forall_mem_cons.mpr ⟨ok_131, List.forall_mem_cons.mpr ⟨ok_132, List.forall_mem_cons.mpr ⟨ok_133, List.forall_mem_cons.mpr ⟨ok_134, List.forall_mem_cons.mpr ⟨ok_135, List.forall_mem_cons.mpr ⟨ok_136, List.forall_mem_cons.mpr ⟨ok_137, List.forall_mem_cons.mpr ⟨ok_138, List.forall_mem_cons.mpr ⟨ok_139, List.forall_mem_cons.mpr ⟨ok_140, List.forall_mem_cons.mpr ⟨ok_141, List.forall_mem_cons.mpr ⟨ok_142, List.forall_mem_cons.mpr ⟨ok_143, List.forall_mem_cons.mpr ⟨ok_144, List.forall_mem_cons.mpr ⟨ok_145, List.forall_mem_cons.mpr ⟨ok_146, List.forall_mem_cons.mpr ⟨ok_147, List.forall_mem_cons.mpr ⟨ok_148, List.forall_mem_cons.mpr ⟨ok_149, List.forall_mem_cons.mpr ⟨ok_150, List.forall_mem_cons.mpr ⟨ok_151, List.forall_mem_cons.mpr ⟨ok_152, List.forall_mem_cons.mpr ⟨ok_153, List.forall_mem_cons.mpr ⟨ok_154, List.forall_mem_cons.mpr ⟨ok_155, List.forall_mem_cons.mpr ⟨ok_156, List.forall_mem_cons.mpr ⟨ok_157, List.forall_mem_cons.mpr ⟨ok_158, List.forall_mem_cons.mpr ⟨ok_159, fun _ h => absurd h List.not_mem_nil⟩⟩⟩⟩⟩⟩⟩⟩⟩⟩⟩⟩⟩⟩⟩⟩⟩⟩⟩⟩⟩⟩⟩⟩⟩⟩⟩⟩⟩⟩⟩⟩
theorem okc_5 : ∀ t ∈ mL_5, chkT t = true := by
  unfold mL_5
  exact List.forall_mem_cons.mpr ⟨ok_160, List.forall_mem_cons.mpr ⟨ok_161, List.forall_mem_cons.mpr ⟨ok_162, List.forall_mem_cons.mpr ⟨ok_163, List.forall_mem_cons.mpr ⟨ok_164, List.forall_mem_cons.mpr ⟨ok_165, List.forall_mem_cons.mpr ⟨ok_166, List.forall_mem_cons.mpr ⟨ok_167, List.forall_mem_cons.mpr ⟨ok_168, List.forall_mem_cons.mpr ⟨ok_169, List.forall_mem_cons.mpr ⟨ok_170, List.forall_mem_cons.mpr ⟨ok_171, List.forall_mem_cons.mpr ⟨ok_172, List.forall_mem_cons.mpr ⟨ok_173, List.forall_mem_cons.mpr ⟨ok_174, List.forall_mem_cons.mpr ⟨ok_175, List.forall_mem_cons.mpr ⟨ok_176, List.forall_mem_cons.mpr ⟨ok_177, List.forall_mem_cons.mpr ⟨ok_178, List.forall_mem_cons.mpr ⟨ok_179, List.forall_mem_cons.mpr ⟨ok_180, List.forall_mem_cons.mpr ⟨ok_181, List.forall_mem_cons.mpr ⟨ok_182, List.forall_mem_cons.mpr ⟨ok_183, List.forall_mem_cons.mpr ⟨ok_184, List.forall_mem_cons.mpr ⟨ok_185, List.forall_mem_cons.mpr ⟨ok_186, List.forall_mem_cons.mpr ⟨ok_187, List.forall_mem_cons.mpr ⟨ok_188, List.forall_mem_cons.mpr ⟨ok_189, List.forall_mem_cons.mpr ⟨ok_190, List.forall_mem_cons.mpr ⟨ok_191, fun _ h => absurd h List.not_mem_nil⟩⟩⟩⟩⟩⟩⟩⟩⟩⟩⟩⟩⟩⟩⟩⟩⟩⟩⟩⟩⟩⟩⟩⟩⟩⟩⟩⟩⟩⟩⟩⟩
theorem okc_6 : ∀ t ∈ mL_6, chkT t = true := by
  unfold mL_6
  exact List.forall_mem_cons.mpr ⟨ok_192, List.forall_mem_cons.mpr ⟨ok_193, List.forall_mem_cons.mpr ⟨ok_194, List.forall_mem_cons.mpr ⟨ok_195, List.forall_mem_cons.mpr ⟨ok_196, List.forall_mem_cons.mpr ⟨ok_197, List.forall_mem_cons.mpr ⟨ok_198, List.forall_mem_cons.mpr ⟨ok_199, List.forall_mem_cons.mpr ⟨ok_200, List.forall_mem_cons.mpr ⟨ok_201, List.forall_mem_cons.mpr ⟨ok_202, List.forall_mem_cons.mpr ⟨ok_203, List.forall_mem_cons.mpr ⟨ok_204, List.forall_mem_cons.mpr ⟨ok_205, List.forall_mem_cons.mpr ⟨ok_206, List.forall_mem_cons.mpr ⟨ok_207, List.forall_mem_cons.mpr ⟨ok_208, List.forall_mem_cons.mpr ⟨ok_209, List.forall_mem_cons.mpr ⟨ok_210, List.forall_mem_cons.mpr ⟨ok_211, List.forall_mem_cons.mpr ⟨ok_212, List.forall_mem_cons.mpr ⟨ok_213, List.forall_mem_cons.mpr ⟨ok_214, List.forall_mem_cons.mpr ⟨ok_215, List.forall_mem_cons.mpr ⟨ok_216, List.forall_mem_cons.mpr ⟨ok_217, List.forall_mem_cons.mpr ⟨ok_218, List.forall_mem_cons.mpr ⟨ok_219, List.forall_mem_cons.mpr ⟨ok_220, List.forall_mem_cons.mpr ⟨ok_221, List.forall_mem_cons.mpr ⟨ok_222, List.forall_mem_cons.mpr ⟨ok_223, fun _ h => absurd h List.not_mem_nil⟩⟩⟩⟩⟩⟩⟩⟩⟩⟩⟩⟩⟩⟩⟩⟩⟩⟩⟩⟩⟩⟩⟩⟩⟩⟩⟩⟩⟩⟩⟩⟩
theorem okc_7 : ∀ t ∈ mL_7, chkT t = true := by
  unfold mL_7
  exact List.forall_mem_cons.mpr ⟨ok_224, List.forall_mem_cons.mpr ⟨ok_225, List.forall_mem_cons.mpr ⟨ok_226, List.forall_mem_cons.mpr ⟨ok_227, List.forall_mem_cons.mpr ⟨ok_228, List.forall_mem_cons.mpr ⟨ok_229, List.forall_mem_cons.mpr ⟨ok_230, List.forall_mem_cons.mpr ⟨ok_231, List.forall_mem_cons.mpr ⟨ok_232, List.forall_mem_cons.mpr ⟨ok_233, List.forall_mem_cons.mpr ⟨ok_234, List.forall_mem_cons.mpr ⟨ok_235, List.forall_mem_cons.mpr ⟨ok_236, List.forall_mem_cons.mpr ⟨ok_237, List.forall_mem_cons.mpr ⟨ok_238, List.forall_mem_cons.mpr ⟨ok_239, List.forall_mem_cons.mpr ⟨ok_240, List.forall_mem_cons.mpr ⟨ok_241, List.forall_mem_cons.mpr ⟨ok_242, List.forall_mem_cons.mpr ⟨ok_243, List.forall_mem_cons.mpr ⟨ok_244, List.forall_mem_cons.mpr ⟨ok_245, List.forall_mem_cons.mpr ⟨ok_246, List.forall_mem_cons.mpr ⟨ok_247, List.forall_mem_cons.mpr ⟨ok_248, List.forall_mem_cons.mpr ⟨ok_249, List.forall_mem_cons.mpr ⟨ok_250, List.forall_mem_cons.mpr ⟨ok_251, List.forall_mem_cons.mpr ⟨ok_252, List.forall_mem_cons.mpr ⟨ok_253, List.forall_mem_cons.mpr ⟨ok_254, List.forall_mem_cons.mpr ⟨ok_255, fun _ h => absurd h List.not_mem_nil⟩⟩⟩⟩⟩⟩⟩⟩⟩⟩⟩⟩⟩⟩⟩⟩⟩⟩⟩⟩⟩⟩⟩⟩⟩⟩⟩⟩⟩⟩⟩⟩
theorem okc_8 : ∀ t ∈ mL_8, chkT t = true := by
  unfold mL_8
  exact List.forall_mem_cons.mpr ⟨ok_256, List.forall_mem_cons.mpr ⟨ok_257, List.forall_mem_cons.mpr ⟨ok_258, List.forall_mem_cons.mpr ⟨ok_259, List.forall_mem_cons.mpr ⟨ok_260, List.forall_mem_cons.mpr ⟨ok_261, List.forall_mem_cons.mpr ⟨ok_262, List.forall_mem_cons.mpr ⟨ok_263, List.forall_mem_cons.mpr ⟨ok_264, List.forall_mem_cons.mpr ⟨ok_265, List.forall_mem_cons.mpr ⟨ok_266, List.forall_mem_cons.mpr ⟨ok_267, List.forall_mem_cons.mpr ⟨ok_268, List.forall_mem_cons.mpr ⟨ok_269, List.forall_mem_cons.mpr ⟨ok_270, List.forall_mem_cons.mpr ⟨ok_271, List.forall_mem_cons.mpr ⟨ok_272, List.forall_mem_cons.mpr ⟨ok_273, List.forall_mem_cons.mpr ⟨ok_274, List.forall_mem_cons.mpr ⟨ok_275, List.forall_mem_cons.mpr ⟨ok_276, List.forall_mem_cons.mpr ⟨ok_277, List.forall_mem_cons.mpr ⟨ok_278, List.forall_mem_cons.mpr ⟨ok_279, List.forall_mem_cons.mpr ⟨ok_280, List.forall_mem_cons.mpr ⟨ok_281, List.forall_mem_cons.mpr ⟨ok_282, List.forall_mem_cons.mpr ⟨ok_283, List.forall_mem_cons.mpr ⟨ok_284, List.forall_mem_cons.mpr ⟨ok_285, List.forall_mem_cons.mpr ⟨ok_286, List.forall_mem_cons.mpr ⟨ok_287, fun _ h => absurd h List.not_mem_nil⟩⟩⟩⟩⟩⟩⟩⟩⟩⟩⟩⟩⟩⟩⟩⟩⟩⟩⟩⟩⟩⟩⟩⟩⟩⟩⟩⟩⟩⟩⟩⟩
theorem okc_9 : ∀ t ∈ mL_9, chkT t = true := by
  unfold mL_9
  exact List.forall_mem_cons.mpr ⟨ok_288, List.forall_mem_cons.mpr ⟨ok_289, List.forall_mem_cons.mpr ⟨ok_290, List.forall_mem_cons.mpr ⟨ok_291, List.forall_mem_cons.mpr ⟨ok_292, List.forall_mem_cons.mpr ⟨ok_293, List.forall_mem_cons.mpr ⟨ok_294, List.forall_mem_cons.mpr ⟨ok_295, List.forall_mem_cons.mpr ⟨ok_296, List.forall_mem_cons.mpr ⟨ok_297, List.forall_mem_cons.mpr ⟨ok_298, List.forall_mem_cons.mpr ⟨ok_299, List.forall_mem_cons.mpr ⟨ok_300, List.forall_mem_cons.mpr ⟨ok_301, List.forall_mem_cons.mpr ⟨ok_302, List.forall_mem_cons.mpr ⟨ok_303, List.forall_mem_cons.mpr ⟨ok_304, List.forall_mem_cons.mpr ⟨ok_305, List.forall_mem_cons.mpr ⟨ok_306, List.forall_mem_cons.mpr ⟨ok_307, List.forall_mem_cons.mpr ⟨ok_308, List.forall_mem_cons.mpr ⟨ok_309, List.forall_mem_cons.mpr ⟨ok_310, List.forall_mem_cons.mpr ⟨ok_311, List.forall_mem_cons.mpr ⟨ok_312, List.forall_mem_cons.mpr ⟨ok_313, List.forall_mem_cons.mpr ⟨ok_314, List.forall_mem_cons.mpr ⟨ok_315, fun _ h => absurd h List.not_mem_nil⟩⟩⟩⟩⟩⟩⟩⟩⟩⟩⟩⟩⟩⟩⟩⟩⟩⟩⟩⟩⟩⟩⟩⟩⟩⟩⟩⟩
theorem okAll : ∀ t ∈ metaL, chkT t = true := by
  unfold metaL
  exact List.forall_mem_append.mpr ⟨okc_0, List.forall_mem_append.mpr ⟨okc_1, List.forall_mem_append.mpr ⟨okc_2, List.forall_mem_append.mpr ⟨okc_3, List.forall_mem_append.mpr ⟨okc_4, List.forall_mem_append.mpr ⟨okc_5, List.forall_mem_append.mpr ⟨okc_6, List.forall_mem_append.mpr ⟨okc_7, List.forall_mem_append.mpr ⟨okc_8, okc_9⟩⟩⟩⟩⟩⟩⟩⟩⟩
theorem mG_ok {id : Nat} (h : id < metaL.length) : chkT (mG id) = true := okAll _ (by unfold mG; rw [List.getD_eq_getElem?_getD, List.getElem?_eq_getElem h]; exact List.getElem_mem h)
end
section
def wsG : List Cond := lw_tbl.filter goodWord
theorem memG (L : List Cond) (ps : List Nat) (hp : L = ps.filterMap (fun i => lw_tbl[i]?)) (hg : L.all goodWord = true) : ∀ w ∈ L, w ∈ wsG := by
  intro w hw
  have h1 := List.all_eq_true.mp hg w hw
  rw [hp] at hw
  obtain ⟨i, -, hi⟩ := List.mem_filterMap.mp hw
  exact List.mem_filter.mpr ⟨List.mem_of_getElem? hi, h1⟩
theorem wsG_good : ∀ w ∈ wsG, goodWord w = true := fun w h => (List.mem_filter.mp h).2
theorem wsG_tbl : ∀ w ∈ wsG, w ∈ lw_tbl := fun w h => (List.mem_filter.mp h).1
set_option maxRecDepth 20000 in
theorem clI_0 : ∀ w ∈ u_ws (clX 0).1 (clX 0).2.1 (clX 0).2.2, w ∈ wsG := memG _ [402, 404, 406, 408, 410] (by decide +kernel) (by decide +kernel)
set_option maxRecDepth 20000 in
theorem clI_1 : ∀ w ∈ u_ws (clX 1).1 (clX 1).2.1 (clX 1).2.2, w ∈ wsG := memG _ [367, 369, 371, 373, 375] (by decide +kernel) (by decide +kernel)
set_option maxRecDepth 20000 in
theorem clI_2 : ∀ w ∈ u_ws (clX 2).1 (clX 2).2.1 (clX 2).2.2, w ∈ wsG := memG _ [245, 247, 249, 251, 253, 255, 257, 259, 261, 263, 265, 267, 269, 271, 273, 275, 277, 279, 281] (by decide +kernel) (by decide +kernel)
set_option maxRecDepth 20000 in
theorem clI_3 : ∀ w ∈ u_ws (clX 3).1 (clX 3).2.1 (clX 3).2.2, w ∈ wsG := memG _ [296, 298, 300, 302, 304, 306, 308, 310, 312] (by decide +kernel) (by decide +kernel)
set_option maxRecDepth 20000 in
theorem clI_4 : ∀ w ∈ u_ws (clX 4).1 (clX 4).2.1 (clX 4).2.2, w ∈ wsG := memG _ [427, 429, 431, 433, 435] (by decide +kernel) (by decide +kernel)
set_option maxRecDepth 20000 in
theorem clI_5 : ∀ w ∈ u_ws (clX 5).1 (clX 5).2.1 (clX 5).2.2, w ∈ wsG := memG _ [448, 450] (by decide +kernel) (by decide +kernel)
set_option maxRecDepth 20000 in
theorem clI_6 : ∀ w ∈ u_ws (clX 6).1 (clX 6).2.1 (clX 6).2.2, w ∈ wsG := memG _ [165, 167, 169, 171, 173, 175] (by decide +kernel) (by decide +kernel)
set_option maxRecDepth 20000 in
theorem clI_7 : ∀ w ∈ u_ws (clX 7).1 (clX 7).2.1 (clX 7).2.2, w ∈ wsG := memG _ [386, 388] (by decide +kernel) (by decide +kernel)
set_option maxRecDepth 20000 in
theorem clI_8 : ∀ w ∈ u_ws (clX 8).1 (clX 8).2.1 (clX 8).2.2, w ∈ wsG := memG _ [336, 338, 340, 342, 344, 346, 348] (by decide +kernel) (by decide +kernel)
set_option maxRecDepth 20000 in
theorem clI_9 : ∀ w ∈ u_ws (clX 9).1 (clX 9).2.1 (clX 9).2.2, w ∈ wsG := memG _ [467, 469, 471, 473, 475, 477, 479, 481, 483, 485, 487, 489] (by decide +kernel) (by decide +kernel)
set_option maxRecDepth 20000 in
theorem clI_10 : ∀ w ∈ u_ws (clX 10).1 (clX 10).2.1 (clX 10).2.2, w ∈ wsG := memG _ [1485, 1487, 1489, 1491, 1493, 1495, 1497, 1499, 1501, 1503, 1505, 1507, 1509, 1511, 1513, 1515, 1517, 1519, 1521, 1523, 1525, 1527, 1529] (by decide +kernel) (by decide +kernel)
set_option maxRecDepth 20000 in
theorem clI_11 : ∀ w ∈ u_ws (clX 11).1 (clX 11).2.1 (clX 11).2.2, w ∈ wsG := memG _ [1356, 1358, 1360, 1362, 1364, 1366, 1368, 1370, 1372, 1374, 1376, 1378, 1380, 1382, 1384, 1386, 1388, 1390, 1392, 1394, 1396, 1398, 1400, 1402, 1404, 1406, 1408, 1410, 1412, 1414, 1416, 1418, 1420] (by decide +kernel) (by decide +kernel)
theorem clIn : ∀ u, u < 12 → ∀ w ∈ u_ws (clX u).1 (clX u).2.1 (clX u).2.2, w ∈ wsG := by
  intro u hu
  rcases (show u = 0 ∨ u = 1 ∨ u = 2 ∨ u = 3 ∨ u = 4 ∨ u = 5 ∨ u = 6 ∨ u = 7 ∨ u = 8 ∨ u = 9 ∨ u = 10 ∨ u = 11 by omega) with rfl | rfl | rfl | rfl | rfl | rfl | rfl | rfl | rfl | rfl | rfl | rfl
  · exact clI_0
  · exact clI_1
  · exact clI_2
  · exact clI_3
  · exact clI_4
  · exact clI_5
  · exact clI_6
  · exact clI_7
  · exact clI_8
  · exact clI_9
  · exact clI_10
  · exact clI_11
def flC (q : Nat × Nat × Nat × Nat × Nat) : Cond := Cond.fieldLink (cnm q.1) q.2.1 ((clX q.2.2.1).2.1 q.2.2.2.1).1 ((clX q.2.2.1).2.1 q.2.2.2.1).2.1 ((clX q.2.2.1).2.1 q.2.2.2.1).2.2.1
def flN (q : Nat × Nat × Nat × Nat × Nat) : Cond := Cond.fieldLinkNest (cnm q.1) q.2.1 ((clX q.2.2.1).2.1 q.2.2.2.1).1 ((clX q.2.2.1).2.1 q.2.2.2.1).2.1 ((clX q.2.2.1).2.1 q.2.2.2.1).2.2.1 RX12
def mlC (q : Nat × Nat × Nat × Nat) : Cond := Cond.methodLink (cnm q.1) q.2.1 (tY (mG q.2.2.1))
def mlN (h : String) (q : Nat × Nat × Nat × Nat) : Cond := Cond.methodLinkNest (cnm q.1) q.2.1 (tY (mG q.2.2.1)) h
def stx (u : Nat) : String := stxL.getD u ""
end
section
set_option maxRecDepth 20000 in
theorem flW0 : ∀ w ∈ (flT.filter (fun q => q.2.2.2.2 == 0)).map flC, w ∈ wsG := memG _ [397, 398, 400, 401, 399, 360, 361, 363, 365, 362, 226, 227, 230, 234, 238, 239, 241, 243, 185, 189, 193, 197, 201, 204, 207, 211, 215, 220, 224, 284, 290, 294, 295, 286, 288, 291, 292, 293, 163, 186, 191, 195, 199, 205, 162, 202, 208, 213, 219, 232, 237, 222, 160, 419, 421, 425, 426, 423, 221, 240, 212, 242, 229, 244, 190, 194, 444, 446, 198, 217, 155, 156, 158, 159, 161, 164, 384, 385, 330, 332, 334, 322, 324, 326, 328, 210, 228, 216, 235, 233, 187, 455, 456, 457, 458, 459, 460, 461, 462, 463, 464, 465, 466, 285, 157, 287, 218, 289, 323, 325, 231, 331, 333, 329, 236, 335, 225, 209, 424, 420, 422, 200, 447, 445, 327, 188, 192, 196, 203, 206, 214, 223, 364, 366, 1454, 1463, 1465, 1467, 1469, 1471, 1473, 1475, 1477, 1479, 1481, 1483, 1460, 1458, 1450, 1452, 1325, 1328, 1339, 1340, 1341, 1342, 1345, 1346, 1347, 1348, 1349, 1351, 1352, 1353, 1323, 1324, 1330, 1332, 1331, 1333, 1338, 1337, 1334, 1335, 1336, 1327, 1329, 1326, 1343, 1344, 1350, 1354, 1355] (by decide +kernel) (by decide +kernel)
set_option maxRecDepth 20000 in
theorem mlV0 : ∀ w ∈ (mlT.filter (fun q => q.2.2.2 == 0 && Nat.blt q.2.2.1 900)).map mlC, w ∈ wsG := memG _ [1013, 1031, 1017, 1023, 1024, 1035, 1194, 516, 520, 540, 592, 622, 652, 672, 697, 727, 596, 743, 604, 606, 626, 630, 634, 644, 656, 660, 676, 693, 701, 707, 711, 664, 731, 610, 735, 600, 739, 614, 680, 686, 779, 1088, 1105, 1114, 1160, 1178, 524, 528, 963, 967, 973, 974, 751, 755, 828, 759, 1206, 987, 764, 832, 1055, 919, 924, 925, 496, 500, 508, 512, 535, 747, 771, 775, 807, 811, 820, 821, 822, 824, 841, 845, 853, 815, 879, 899, 915, 945, 957, 978, 983, 996, 1008, 1044, 1051, 1060, 1072, 1084, 1093, 1101, 1110, 1123, 1128, 1155, 1174, 1185, 1190, 887, 1202, 1216, 1224, 1232, 907, 883, 903, 911, 920, 1674, 1436, 1703, 1536, 1532, 1556, 1569, 1586, 1578, 1582, 1639, 1645, 1626, 1551, 1683, 1565, 1597, 1614, 1631, 1653, 1675, 1574, 1605, 1601, 1618, 1622, 1635, 1649, 1666, 1670, 1659, 1679, 1547, 1687, 1691, 1695, 1699, 1734, 1723, 1784, 1719, 1730, 1742, 1753, 1761, 1776, 1780, 1803, 1815, 1811, 1827, 1843, 1839, 1847, 1867, 1871, 1883, 1890, 1894, 1879, 1902, 1906, 1926, 1922, 1918, 1934, 1946, 1958, 1974, 1978, 2004, 2027, 2031, 2047, 2051, 492, 1428, 504, 1432, 795, 1707, 799, 1711, 803, 1715, 837, 1738, 849, 1749, 857, 1757, 867, 1765, 872, 1772, 891, 1791, 895, 1795, 929, 1799, 933, 1807, 937, 1819, 941, 1823, 949, 1831, 953, 1835, 979, 1851, 988, 1855, 992, 1859, 1000, 1863, 1004, 1875, 1040, 1898, 1056, 1910, 1064, 1914, 1068, 1930, 1076, 1938, 1080, 1942, 1097, 1950, 1106, 1954, 1119, 1962, 1124, 1966, 1129, 1970, 1139, 1985, 1146, 1992, 1150, 1996, 1170, 2011, 1180, 2015, 1186, 2023, 1198, 2035, 1208, 2039, 1212, 2043, 1220, 2055, 1228, 2059, 2063, 1424, 1236, 2067, 1240, 2071] (by decide +kernel) (by decide +kernel)
set_option maxRecDepth 20000 in
theorem mlS0 : ∀ w ∈ (mlT.filter (fun q => q.2.2.2 == 1 && Nat.blt q.2.2.1 900)).map mlC, w ∈ wsG := memG _ [724, 721, 1012, 1021, 1022, 1028, 648, 668, 638, 641, 715, 718, 690, 780, 783, 787, 786, 1092, 1167, 1164, 532, 961, 962, 971, 836, 763, 819, 823, 846, 861, 871, 876, 1048, 1133, 1136, 1143, 2008, 1540, 1544, 1560, 1590, 1610, 1663, 1788, 1727, 1746, 1769, 1887, 1982, 1989, 2000] (by decide +kernel) (by decide +kernel)
set_option maxRecDepth 20000 in
theorem mlI0 : ∀ w ∈ (mlT.filter (fun q => q.2.2.2 == 2 && Nat.blt q.2.2.1 900)).map mlC, w ∈ wsG := memG _ [353, 137, 1319] (by decide +kernel) (by decide +kernel)
end
section
set_option maxRecDepth 20000 in
theorem wCode_0 : ∀ w ∈ ([0, 1, 2, 3, 4, 5, 6, 7, 8, 9, 10, 11, 12, 13, 14, 15, 16, 17, 18, 19, 20, 21, 22, 23, 24, 25, 26, 27, 28, 29, 30, 31, 32, 33, 34, 35, 36, 37, 38, 39] : List Nat).map (fun u => Cond.code (tY (mG u)) (tB (mG u)) (tL (mG u)) (tR (mG u))), w ∈ wsG := memG _ [643, 726, 723, 848, 789, 670, 650, 720, 395, 1011, 1016, 1020, 1034, 1038, 1027, 1030, 355, 774, 1193, 1219, 1227, 1235, 183, 519, 810, 767, 667, 647, 696, 742, 738, 754, 714, 1063, 147, 515, 538, 746, 595, 625] (by decide +kernel) (by decide +kernel)
set_option maxRecDepth 20000 in
theorem wCode_1 : ∀ w ∈ ([40, 41, 42, 43, 44, 45, 46, 47, 48, 49, 50, 51, 52, 53, 54, 55, 56, 57, 58, 59, 60, 61, 62, 63, 64, 65, 66, 67, 68, 69, 70, 71, 72, 73, 74, 75, 76, 77, 78, 79] : List Nat).map (fun u => Cond.code (tY (mG u)) (tB (mG u)) (tL (mG u)) (tR (mG u))), w ∈ wsG := memG _ [633, 655, 675, 700, 710, 730, 659, 629, 609, 613, 663, 704, 679, 734, 683, 692, 640, 717, 599, 603, 417, 778, 782, 785, 1091, 1087, 1096, 1104, 1113, 1117, 442, 1158, 1177, 1163, 1169, 1166, 153, 499, 503, 523] (by decide +kernel) (by decide +kernel)
end
section
set_option maxRecDepth 20000 in
theorem wCode_2 : ∀ w ∈ ([80, 81, 82, 83, 84, 85, 86, 87, 88, 89, 90, 91, 92, 93, 94, 95, 96, 97, 98, 99, 100, 101, 102, 103, 104, 105, 106, 107, 108, 109, 110, 111, 112, 113, 114, 115, 116, 117, 118, 119] : List Nat).map (fun u => Cond.code (tY (mG u)) (tB (mG u)) (tL (mG u)) (tR (mG u))), w ∈ wsG := memG _ [527, 543, 637, 617, 689, 531, 534, 382, 960, 966, 977, 970, 999, 320, 750, 886, 890, 758, 1205, 762, 831, 835, 910, 827, 1054, 914, 918, 948, 923, 928, 986, 139, 495, 507, 798, 802, 806, 840, 852, 860] (by decide +kernel) (by decide +kernel)
set_option maxRecDepth 20000 in
theorem wCode_3 : ∀ w ∈ ([120, 121, 122, 123, 124, 125, 126, 127, 128, 129, 130, 131, 132, 133, 134, 135, 136, 137, 138, 139, 140, 141, 142, 143, 144, 145, 146, 147, 148, 149, 150, 151, 152, 153, 154, 155, 156, 157, 158, 159] : List Nat).map (fun u => Cond.code (tY (mG u)) (tB (mG u)) (tL (mG u)) (tR (mG u))), w ∈ wsG := memG _ [870, 875, 894, 898, 932, 936, 940, 944, 952, 956, 982, 991, 995, 1003, 1007, 1043, 1059, 1067, 1071, 1079, 1083, 1100, 1109, 1122, 1127, 1132, 1142, 1149, 1153, 1173, 1183, 1189, 1201, 1211, 1215, 1223, 1231, 1239, 1243, 511] (by decide +kernel) (by decide +kernel)
end
section
set_option maxRecDepth 20000 in
theorem wCode_4 : ∀ w ∈ ([160, 161, 162, 163, 164, 165, 166, 167, 168, 169, 170, 171, 172, 173, 174, 175, 176, 177, 178, 179, 180, 181, 182, 183, 184, 185, 186, 187, 188, 189, 190, 191, 192, 193, 194, 195, 196, 197, 198, 199] : List Nat).map (fun u => Cond.code (tY (mG u)) (tB (mG u)) (tL (mG u)) (tR (mG u))), w ∈ wsG := memG _ [814, 818, 844, 856, 1075, 1047, 878, 1050, 1135, 882, 902, 906, 1138, 1145, 1444, 1648, 1682, 1669, 1629, 1673, 1321, 1427, 1439, 1981, 2050, 1706, 2054, 1592, 1790, 2010, 2007, 1771, 1539, 1542, 1546, 1562, 1535, 1572, 1559, 1686] (by decide +kernel) (by decide +kernel)
set_option maxRecDepth 20000 in
theorem wCode_5 : ∀ w ∈ ([200, 201, 202, 203, 204, 205, 206, 207, 208, 209, 210, 211, 212, 213, 214, 215, 216, 217, 218, 219, 220, 221, 222, 223, 224, 225, 226, 227, 228, 229, 230, 231, 232, 233, 234, 235, 236, 237, 238, 239] : List Nat).map (fun u => Cond.code (tY (mG u)) (tB (mG u)) (tL (mG u)) (tR (mG u))), w ∈ wsG := memG _ [1581, 1589, 1585, 1577, 1608, 1642, 1621, 1638, 1652, 1625, 1550, 1554, 1568, 1612, 1604, 1600, 1617, 1634, 1665, 1662, 1656, 1678, 1431, 1435, 1710, 1714, 1722, 1745, 1756, 1729, 1748, 1726, 1690, 1737, 1698, 1702, 1694, 1787, 1783, 1779] (by decide +kernel) (by decide +kernel)
end
section
set_option maxRecDepth 20000 in
theorem wCode_6 : ∀ w ∈ ([240, 241, 242, 243, 244, 245, 246, 247, 248, 249, 250, 251, 252, 253, 254, 255, 256, 257, 258, 259, 260, 261, 262, 263, 264, 265, 266, 267, 268, 269, 270, 271, 272, 273, 274, 275, 276, 277, 278, 279] : List Nat).map (fun u => Cond.code (tY (mG u)) (tB (mG u)) (tL (mG u)) (tR (mG u))), w ∈ wsG := memG _ [1733, 1718, 1741, 1752, 1764, 1760, 1768, 1775, 1794, 1798, 1806, 1802, 1818, 1814, 1810, 1822, 1830, 1826, 1834, 1846, 1842, 1850, 1838, 1854, 1858, 1862, 1870, 1874, 1866, 1886, 1882, 1889, 1897, 1893, 1878, 1909, 1905, 1901, 1913, 1929] (by decide +kernel) (by decide +kernel)
set_option maxRecDepth 20000 in
theorem wCode_7 : ∀ w ∈ ([280, 281, 282, 283, 284, 285, 286, 287, 288, 289, 290, 291, 292, 293, 294, 295, 296, 297, 298, 299, 300, 301, 302, 303, 304, 305, 306, 307, 308, 309, 310, 311, 312, 313, 314] : List Nat).map (fun u => Cond.code (tY (mG u)) (tB (mG u)) (tL (mG u)) (tR (mG u))), w ∈ wsG := memG _ [1925, 1921, 1917, 1937, 1933, 1941, 1949, 1945, 1953, 1961, 1957, 1965, 1969, 1984, 1977, 1973, 1991, 1988, 1995, 2002, 1999, 2014, 2018, 2030, 2034, 2026, 2038, 2042, 2046, 2058, 2062, 2066, 2070, 2074, 863] (by decide +kernel) (by decide +kernel)
end
section
set_option maxRecDepth 20000 in
theorem wInst_0 : ∀ w ∈ ([8, 9, 10, 11, 12, 13, 14, 16, 17, 18, 19, 20, 21, 22, 23, 24, 25, 26, 27, 28, 29, 30, 31, 32, 33, 34, 35, 36, 37, 38, 39, 40, 41, 42, 43, 44, 45, 46, 47, 48] : List Nat).map (fun u => Cond.instanceMethod (tY (mG u))), w ∈ wsG := memG _ [394, 1009, 1015, 1019, 1033, 1037, 1026, 354, 772, 1191, 1217, 1225, 1233, 182, 517, 808, 765, 665, 645, 694, 740, 736, 752, 712, 1061, 146, 513, 536, 745, 594, 624, 632, 654, 674, 699, 709, 729, 658, 628, 608] (by decide +kernel) (by decide +kernel)
set_option maxRecDepth 20000 in
theorem wInst_1 : ∀ w ∈ ([49, 50, 51, 52, 53, 54, 58, 59, 60, 61, 64, 65, 66, 67, 68, 69, 70, 71, 72, 73, 76, 77, 78, 79, 80, 81, 82, 83, 84, 85, 87, 88, 89, 90, 91, 92, 93, 94, 95, 96] : List Nat).map (fun u => Cond.instanceMethod (tY (mG u))), w ∈ wsG := memG _ [612, 662, 703, 678, 733, 682, 598, 602, 416, 776, 1089, 1085, 1094, 1102, 1111, 1115, 441, 1156, 1175, 1162, 152, 497, 501, 521, 525, 541, 635, 615, 687, 530, 381, 958, 965, 976, 968, 997, 319, 748, 884, 888] (by decide +kernel) (by decide +kernel)
set_option maxRecDepth 20000 in
theorem wInst_2 : ∀ w ∈ ([97, 98, 99, 100, 101, 102, 103, 104, 105, 106, 107, 108, 109, 110, 111, 112, 113, 114, 115, 116, 117, 118, 119, 120, 121, 122, 123, 124, 125, 126, 127, 128, 129, 130, 131, 132, 133, 134, 135, 136] : List Nat).map (fun u => Cond.instanceMethod (tY (mG u))), w ∈ wsG := memG _ [757, 1203, 760, 829, 833, 908, 825, 1052, 912, 916, 946, 921, 927, 984, 138, 493, 505, 796, 800, 804, 838, 850, 858, 868, 873, 892, 896, 930, 934, 938, 942, 950, 954, 980, 989, 993, 1001, 1005, 1041, 1057] (by decide +kernel) (by decide +kernel)
set_option maxRecDepth 20000 in
theorem wInst_3 : ∀ w ∈ ([137, 138, 139, 140, 141, 142, 143, 144, 145, 146, 147, 148, 149, 150, 151, 152, 153, 154, 155, 156, 157, 158, 159, 160, 161, 162, 163, 164, 165, 169, 170, 171, 174, 175, 176, 177, 178, 179, 180, 181] : List Nat).map (fun u => Cond.instanceMethod (tY (mG u))), w ∈ wsG := memG _ [1065, 1069, 1077, 1081, 1098, 1107, 1120, 1125, 1130, 1140, 1147, 1151, 1171, 1181, 1187, 1199, 1209, 1213, 1221, 1229, 1237, 1241, 510, 813, 817, 843, 855, 1074, 1046, 881, 901, 905, 1443, 1646, 1680, 1667, 1627, 1671, 1320, 1425] (by decide +kernel) (by decide +kernel)
set_option maxRecDepth 20000 in
theorem wInst_4 : ∀ w ∈ ([182, 183, 184, 185, 186, 190, 192, 196, 197, 198, 199, 200, 201, 202, 203, 204, 205, 206, 207, 208, 209, 210, 211, 212, 214, 215, 216, 217, 219, 220, 221, 222, 223, 224, 225, 226, 227, 228, 231, 232] : List Nat).map (fun u => Cond.instanceMethod (tY (mG u))), w ∈ wsG := memG _ [1438, 1980, 2049, 1705, 2053, 2006, 1538, 1534, 1571, 1558, 1685, 1580, 1588, 1584, 1576, 1607, 1641, 1620, 1637, 1651, 1624, 1549, 1553, 1567, 1603, 1599, 1616, 1633, 1661, 1655, 1677, 1429, 1433, 1708, 1712, 1721, 1744, 1755, 1725, 1689] (by decide +kernel) (by decide +kernel)
set_option maxRecDepth 20000 in
theorem wInst_5 : ∀ w ∈ ([233, 234, 235, 236, 237, 238, 239, 240, 241, 242, 243, 244, 245, 246, 247, 248, 249, 250, 251, 252, 253, 254, 255, 256, 257, 258, 259, 260, 261, 262, 263, 264, 265, 266, 267, 268, 269, 270, 272, 273] : List Nat).map (fun u => Cond.instanceMethod (tY (mG u))), w ∈ wsG := memG _ [1736, 1697, 1701, 1693, 1786, 1782, 1778, 1732, 1716, 1739, 1750, 1763, 1758, 1766, 1773, 1792, 1796, 1805, 1800, 1817, 1813, 1808, 1820, 1829, 1824, 1832, 1845, 1841, 1849, 1836, 1852, 1856, 1860, 1869, 1873, 1864, 1885, 1881, 1896, 1892] (by decide +kernel) (by decide +kernel)
set_option maxRecDepth 20000 in
theorem wInst_6 : ∀ w ∈ ([274, 275, 276, 277, 278, 279, 280, 281, 282, 283, 284, 285, 286, 287, 288, 289, 290, 291, 292, 294, 295, 297, 298, 300, 301, 302, 303, 304, 305, 306, 307, 308, 309, 310, 311, 312, 313] : List Nat).map (fun u => Cond.instanceMethod (tY (mG u))), w ∈ wsG := memG _ [1876, 1908, 1904, 1899, 1911, 1928, 1924, 1920, 1915, 1936, 1931, 1939, 1948, 1943, 1951, 1960, 1955, 1963, 1967, 1976, 1971, 1986, 1993, 1997, 2012, 2016, 2029, 2033, 2024, 2036, 2040, 2044, 2056, 2060, 2064, 2068, 2072] (by decide +kernel) (by decide +kernel)
set_option maxRecDepth 20000 in
theorem wSel_0 : ∀ w ∈ ([9, 10, 11, 12, 13, 14, 17, 18, 19, 20, 21, 23, 24, 25, 26, 27, 28, 29, 30, 31, 32, 33, 35, 36, 37, 38, 39, 40, 41, 42, 43, 44, 45, 46, 47, 48, 49, 50, 51, 52] : List Nat).map (fun u => Cond.selects (tY (mG u)).cls (tY (mG u)) (tY (mG u))), w ∈ wsG := memG _ [1010, 33, 34, 36, 37, 35, 773, 1192, 1218, 1226, 1234, 518, 809, 766, 666, 646, 695, 741, 737, 753, 713, 1062, 514, 537, 21, 2, 7, 9, 10, 13, 16, 18, 19, 11, 8, 5, 6, 12, 17, 14] (by decide +kernel) (by decide +kernel)
set_option maxRecDepth 20000 in
theorem wSel_1 : ∀ w ∈ ([53, 54, 58, 59, 61, 64, 65, 66, 67, 68, 69, 71, 72, 73, 77, 78, 79, 80, 81, 82, 83, 84, 85, 88, 89, 90, 91, 92, 94, 95, 96, 97, 98, 99, 100, 101, 102, 103, 104, 105] : List Nat).map (fun u => Cond.selects (tY (mG u)).cls (tY (mG u)) (tY (mG u))), w ∈ wsG := memG _ [20, 15, 3, 4, 777, 1090, 1086, 1095, 1103, 1112, 1116, 1157, 1176, 40, 498, 502, 522, 526, 542, 636, 616, 688, 1, 959, 31, 32, 969, 998, 749, 885, 889, 22, 1204, 761, 830, 834, 909, 826, 1053, 913] (by decide +kernel) (by decide +kernel)
set_option maxRecDepth 20000 in
theorem wSel_2 : ∀ w ∈ ([106, 107, 108, 109, 110, 112, 113, 114, 115, 116, 117, 118, 119, 120, 121, 122, 123, 124, 125, 126, 127, 128, 129, 130, 131, 132, 133, 134, 135, 136, 137, 138, 139, 140, 141, 142, 143, 144, 145, 146] : List Nat).map (fun u => Cond.selects (tY (mG u)).cls (tY (mG u)) (tY (mG u))), w ∈ wsG := memG _ [917, 947, 922, 30, 985, 494, 506, 797, 801, 805, 839, 851, 859, 869, 874, 893, 897, 931, 935, 939, 943, 951, 955, 981, 990, 994, 1002, 1006, 1042, 1058, 1066, 1070, 1078, 1082, 1099, 1108, 1121, 1126, 1131, 1141] (by decide +kernel) (by decide +kernel)
set_option maxRecDepth 20000 in
theorem wSel_3 : ∀ w ∈ ([147, 148, 149, 150, 151, 152, 153, 154, 155, 156, 157, 158, 159, 160, 161, 162, 163, 164, 165, 169, 170, 171, 175, 176, 177, 178, 179, 181, 182, 183, 184, 185, 186, 190, 192, 196, 197, 198, 199, 200] : List Nat).map (fun u => Cond.selects (tY (mG u)).cls (tY (mG u)) (tY (mG u))), w ∈ wsG := memG _ [1148, 1152, 1172, 1182, 1188, 1200, 1210, 1214, 1222, 1230, 1238, 1242, 0, 23, 24, 25, 26, 39, 38, 27, 28, 29, 1647, 1681, 1668, 1628, 1672, 1426, 42, 105, 109, 72, 110, 106, 44, 43, 49, 47, 67, 51] (by decide +kernel) (by decide +kernel)
end
section
set_option maxRecDepth 20000 in
theorem wSel_4 : ∀ w ∈ ([201, 202, 203, 204, 205, 206, 207, 208, 209, 210, 211, 212, 214, 215, 216, 217, 219, 220, 221, 222, 223, 224, 225, 226, 227, 228, 231, 232, 233, 234, 235, 236, 237, 238, 239, 240, 241, 242, 243, 244] : List Nat).map (fun u => Cond.selects (tY (mG u)).cls (tY (mG u)) (tY (mG u))), w ∈ wsG := memG _ [53, 52, 50, 56, 62, 58, 61, 63, 59, 45, 46, 48, 55, 54, 57, 60, 65, 64, 66, 1430, 1434, 1709, 1713, 73, 77, 78, 74, 68, 76, 70, 71, 69, 82, 81, 80, 75, 1717, 1740, 1751, 79] (by decide +kernel) (by decide +kernel)
set_option maxRecDepth 20000 in
theorem wSel_5 : ∀ w ∈ ([245, 246, 247, 248, 249, 250, 251, 252, 253, 254, 255, 256, 257, 258, 259, 260, 261, 262, 263, 264, 265, 266, 267, 268, 269, 270, 272, 273, 274, 275, 276, 277, 278, 279, 280, 281, 282, 283, 284, 285] : List Nat).map (fun u => Cond.selects (tY (mG u)).cls (tY (mG u)) (tY (mG u))), w ∈ wsG := memG _ [1759, 1767, 1774, 1793, 1797, 83, 1801, 85, 84, 1809, 1821, 86, 1825, 1833, 88, 87, 89, 1837, 1853, 1857, 1861, 90, 91, 1865, 93, 92, 95, 94, 1877, 97, 96, 1900, 1912, 100, 99, 98, 1916, 101, 1932, 1940] (by decide +kernel) (by decide +kernel)
set_option maxRecDepth 20000 in
theorem wSel_6 : ∀ w ∈ ([286, 287, 288, 289, 290, 291, 292, 294, 295, 297, 298, 300, 301, 302, 303, 304, 305, 306, 307, 308, 309, 310, 311, 312, 313] : List Nat).map (fun u => Cond.selects (tY (mG u)).cls (tY (mG u)) (tY (mG u))), w ∈ wsG := memG _ [102, 1944, 1952, 103, 1956, 1964, 1968, 104, 1972, 1987, 1994, 1998, 2013, 2017, 107, 108, 2025, 2037, 2041, 2045, 2057, 2061, 2065, 2069, 2073] (by decide +kernel) (by decide +kernel)
set_option maxRecDepth 20000 in
theorem wStat_0 : ∀ w ∈ ([0, 1, 2, 3, 4, 5, 6, 7, 15, 55, 56, 57, 62, 63, 74, 75, 86, 166, 167, 168, 172, 173, 187, 188, 189, 191, 193, 194, 195, 213, 218, 229, 230, 271, 293, 296, 299, 314] : List Nat).map (fun u => Cond.static (tY (mG u))), w ∈ wsG := memG _ [642, 725, 722, 847, 788, 669, 649, 719, 1029, 691, 639, 716, 781, 784, 1168, 1165, 533, 877, 1049, 1134, 1137, 1144, 1591, 1789, 2009, 1770, 1541, 1545, 1561, 1611, 1664, 1728, 1747, 1888, 1983, 1990, 2001, 862] (by decide +kernel) (by decide +kernel)
set_option maxRecDepth 20000 in
theorem wIni_0 : ∀ w ∈ ([0, 1, 2, 3, 4, 5, 6, 7, 8, 9, 10, 11, 12, 13, 14, 15, 16, 17, 18, 19, 20, 21, 22, 23, 24, 25, 26, 27, 28, 29, 30, 31, 32, 33, 34, 35, 36, 37, 38, 39] : List Nat).map (fun u => Cond.initialized (tY (mG u)).cls), w ∈ wsG := memG _ [127, 127, 127, 127, 127, 127, 127, 127, 119, 119, 119, 119, 119, 119, 119, 119, 117, 117, 117, 117, 117, 117, 115, 115, 115, 115, 115, 115, 115, 115, 115, 115, 115, 115, 113, 113, 113, 113, 113, 113] (by decide +kernel) (by decide +kernel)
set_option maxRecDepth 20000 in
theorem wIni_1 : ∀ w ∈ ([40, 41, 42, 43, 44, 45, 46, 47, 48, 49, 50, 51, 52, 53, 54, 55, 56, 57, 58, 59, 60, 61, 62, 63, 64, 65, 66, 67, 68, 69, 70, 71, 72, 73, 74, 75, 76, 77, 78, 79] : List Nat).map (fun u => Cond.initialized (tY (mG u)).cls), w ∈ wsG := memG _ [113, 113, 113, 113, 113, 113, 113, 113, 113, 113, 113, 113, 113, 113, 113, 113, 113, 113, 113, 113, 120, 120, 120, 120, 120, 120, 120, 120, 120, 120, 121, 121, 121, 121, 121, 121, 114, 114, 114, 114] (by decide +kernel) (by decide +kernel)
set_option maxRecDepth 20000 in
theorem wIni_2 : ∀ w ∈ ([80, 81, 82, 83, 84, 85, 86, 87, 88, 89, 90, 91, 92, 93, 94, 95, 96, 97, 98, 99, 100, 101, 102, 103, 104, 105, 106, 107, 108, 109, 110, 111, 112, 113, 114, 115, 116, 117, 118, 119] : List Nat).map (fun u => Cond.initialized (tY (mG u)).cls), w ∈ wsG := memG _ [114, 114, 114, 114, 114, 114, 114, 118, 118, 118, 118, 118, 118, 116, 116, 116, 116, 116, 116, 116, 116, 116, 116, 116, 116, 116, 116, 116, 116, 116, 116, 112, 112, 112, 112, 112, 112, 112, 112, 112] (by decide +kernel) (by decide +kernel)
set_option maxRecDepth 20000 in
theorem wIni_3 : ∀ w ∈ ([120, 121, 122, 123, 124, 125, 126, 127, 128, 129, 130, 131, 132, 133, 134, 135, 136, 137, 138, 139, 140, 141, 142, 143, 144, 145, 146, 147, 148, 149, 150, 151, 152, 153, 154, 155, 156, 157, 158, 159] : List Nat).map (fun u => Cond.initialized (tY (mG u)).cls), w ∈ wsG := memG _ [112, 112, 112, 112, 112, 112, 112, 112, 112, 112, 112, 112, 112, 112, 112, 112, 112, 112, 112, 112, 112, 112, 112, 112, 112, 112, 112, 112, 112, 112, 112, 112, 112, 112, 112, 112, 112, 112, 112, 112] (by decide +kernel) (by decide +kernel)
set_option maxRecDepth 20000 in
theorem wIni_4 : ∀ w ∈ ([160, 161, 162, 163, 164, 165, 166, 167, 168, 169, 170, 171, 172, 173, 174, 175, 176, 177, 178, 179, 180, 181, 182, 183, 184, 185, 186, 187, 188, 189, 190, 191, 192, 193, 194, 195, 196, 197, 198, 199] : List Nat).map (fun u => Cond.initialized (tY (mG u)).cls), w ∈ wsG := memG _ [112, 112, 112, 112, 112, 112, 112, 112, 112, 112, 112, 112, 112, 112, 129, 129, 129, 129, 129, 129, 122, 122, 122, 122, 122, 122, 122, 122, 122, 122, 122, 122, 122, 122, 122, 122, 122, 122, 122, 122] (by decide +kernel) (by decide +kernel)
set_option maxRecDepth 20000 in
theorem wIni_5 : ∀ w ∈ ([200, 201, 202, 203, 204, 205, 206, 207, 208, 209, 210, 211, 212, 213, 214, 215, 216, 217, 218, 219, 220, 221, 222, 223, 224, 225, 226, 227, 228, 229, 230, 231, 232, 233, 234, 235, 236, 237, 238, 239] : List Nat).map (fun u => Cond.initialized (tY (mG u)).cls), w ∈ wsG := memG _ [122, 122, 122, 122, 122, 122, 122, 122, 122, 122, 122, 122, 122, 122, 122, 122, 122, 122, 122, 122, 122, 122, 122, 122, 122, 122, 122, 122, 122, 122, 122, 122, 122, 122, 122, 122, 122, 122, 122, 122] (by decide +kernel) (by decide +kernel)
set_option maxRecDepth 20000 in
theorem wIni_6 : ∀ w ∈ ([240, 241, 242, 243, 244, 245, 246, 247, 248, 249, 250, 251, 252, 253, 254, 255, 256, 257, 258, 259, 260, 261, 262, 263, 264, 265, 266, 267, 268, 269, 270, 271, 272, 273, 274, 275, 276, 277, 278, 279] : List Nat).map (fun u => Cond.initialized (tY (mG u)).cls), w ∈ wsG := memG _ [122, 122, 122, 122, 122, 122, 122, 122, 122, 122, 122, 122, 122, 122, 122, 122, 122, 122, 122, 122, 122, 122, 122, 122, 122, 122, 122, 122, 122, 122, 122, 122, 122, 122, 122, 122, 122, 122, 122, 122] (by decide +kernel) (by decide +kernel)
set_option maxRecDepth 20000 in
theorem wIni_7 : ∀ w ∈ ([280, 281, 282, 283, 284, 285, 286, 287, 288, 289, 290, 291, 292, 293, 294, 295, 296, 297, 298, 299, 300, 301, 302, 303, 304, 305, 306, 307, 308, 309, 310, 311, 312, 313, 314] : List Nat).map (fun u => Cond.initialized (tY (mG u)).cls), w ∈ wsG := memG _ [122, 122, 122, 122, 122, 122, 122, 122, 122, 122, 122, 122, 122, 122, 122, 122, 122, 122, 122, 122, 122, 122, 122, 122, 122, 122, 122, 122, 122, 122, 122, 122, 122, 122, 130] (by decide +kernel) (by decide +kernel)
end
section
theorem flW {q : Nat × Nat × Nat × Nat × Nat} (h : q ∈ flT) (h0 : q.2.2.2.2 = 0) : flC q ∈ wsG := flW0 _ (List.mem_map.mpr ⟨q, List.mem_filter.mpr ⟨h, by simp [h0]⟩, rfl⟩)
set_option maxRecDepth 20000 in
theorem flNt : (flT.filter (fun q => q.2.2.2.2 == 1)).map flN = ([1453, 1462, 1480, 1461, 1482, 1484, 1451, 1455, 1446, 1447, 1448, 1449, 1464, 1456, 1466, 1472, 1457, 1468, 1470, 1459, 1474, 1476, 1478] : List Nat).filterMap (fun i => lw_tbl[i]?) := by decide +kernel
theorem mlV {q : Nat × Nat × Nat × Nat} (h : q ∈ mlT) (h0 : q.2.2.2 = 0) (h9 : q.2.2.1 < 900) : mlC q ∈ wsG := mlV0 _ (List.mem_map.mpr ⟨q, List.mem_filter.mpr ⟨h, by rw [h0]; simp [Nat.blt_eq, h9]⟩, rfl⟩)
theorem mlS {q : Nat × Nat × Nat × Nat} (h : q ∈ mlT) (h0 : q.2.2.2 = 1) (h9 : q.2.2.1 < 900) : mlC q ∈ wsG := mlS0 _ (List.mem_map.mpr ⟨q, List.mem_filter.mpr ⟨h, by rw [h0]; simp [Nat.blt_eq, h9]⟩, rfl⟩)
theorem mlI {q : Nat × Nat × Nat × Nat} (h : q ∈ mlT) (h0 : q.2.2.2 = 2) (h9 : q.2.2.1 < 900) : mlC q ∈ wsG := mlI0 _ (List.mem_map.mpr ⟨q, List.mem_filter.mpr ⟨h, by rw [h0]; simp [Nat.blt_eq, h9]⟩, rfl⟩)
set_option maxRecDepth 20000 in
theorem mlNt3 : (mlT.filter (fun q => q.2.2.2 == 3)).map (mlN "CounterMine") = ([359, 151, 181, 145, 318, 380, 393, 415, 440, 454] : List Nat).filterMap (fun i => lw_tbl[i]?) := by decide +kernel
set_option maxRecDepth 20000 in
theorem mlNt4 : (mlT.filter (fun q => q.2.2.2 == 4)).map (mlN "CounterMineModel") = ([1442] : List Nat).filterMap (fun i => lw_tbl[i]?) := by decide +kernel
def wCode_L : List Nat := ([0, 1, 2, 3, 4, 5, 6, 7, 8, 9, 10, 11, 12, 13, 14, 15, 16, 17, 18, 19, 20, 21, 22, 23, 24, 25, 26, 27, 28, 29, 30, 31, 32, 33, 34, 35, 36, 37, 38, 39] : List Nat) ++ (([40, 41, 42, 43, 44, 45, 46, 47, 48, 49, 50, 51, 52, 53, 54, 55, 56, 57, 58, 59, 60, 61, 62, 63, 64, 65, 66, 67, 68, 69, 70, 71, 72, 73, 74, 75, 76, 77, 78, 79] : List Nat) ++ (([80, 81, 82, 83, 84, 85, 86, 87, 88, 89, 90, 91, 92, 93, 94, 95, 96, 97, 98, 99, 100, 101, 102, 103, 104, 105, 106, 107, 108, 109, 110, 111, 112, 113, 114, 115, 116, 117, 118, 119] : List Nat) ++ (([120, 121, 122, 123, 124, 125, 126, 127, 128, 129, 130, 131, 132, 133, 134, 135, 136, 137, 138, 139, 140, 141, 142, 143, 144, 145, 146, 147, 148, 149, 150, 151, 152, 153, 154, 155, 156, 157, 158, 159] : List Nat) ++ (([160, 161, 162, 163, 164, 165, 166, 167, 168, 169, 170, 171, 172, 173, 174, 175, 176, 177, 178, 179, 180, 181, 182, 183, 184, 185, 186, 187, 188, 189, 190, 191, 192, 193, 194, 195, 196, 197, 198, 199] : List Nat) ++ (([200, 201, 202, 203, 204, 205, 206, 207, 208, 209, 210, 211, 212, 213, 214, 215, 216, 217, 218, 219, 220, 221, 222, 223, 224, 225, 226, 227, 228, 229, 230, 231, 232, 233, 234, 235, 236, 237, 238, 239] : List Nat) ++ (([240, 241, 242, 243, 244, 245, 246, 247, 248, 249, 250, 251, 252, 253, 254, 255, 256, 257, 258, 259, 260, 261, 262, 263, 264, 265, 266, 267, 268, 269, 270, 271, 272, 273, 274, 275, 276, 277, 278, 279] : List Nat) ++ (([280, 281, 282, 283, 284, 285, 286, 287, 288, 289, 290, 291, 292, 293, 294, 295, 296, 297, 298, 299, 300, 301, 302, 303, 304, 305, 306, 307, 308, 309, 310, 311, 312, 313, 314] : List Nat))))))))
theorem wCode {u : Nat} (h : u ∈ wCode_L) : Cond.code (tY (mG u)) (tB (mG u)) (tL (mG u)) (tR (mG u)) ∈ wsG := by
  unfold wCode_L at h
  rcases List.mem_append.mp h with h | h
  · exact wCode_0 _ (List.mem_map.mpr ⟨u, h, rfl⟩)
  rcases List.mem_append.mp h with h | h
  · exact wCode_1 _ (List.mem_map.mpr ⟨u, h, rfl⟩)
  rcases List.mem_append.mp h with h | h
  · exact wCode_2 _ (List.mem_map.mpr ⟨u, h, rfl⟩)
  rcases List.mem_append.mp h with h | h
  · exact wCode_3 _ (List.mem_map.mpr ⟨u, h, rfl⟩)
  rcases List.mem_append.mp h with h | h
  · exact wCode_4 _ (List.mem_map.mpr ⟨u, h, rfl⟩)
  rcases List.mem_append.mp h with h | h
  · exact wCode_5 _ (List.mem_map.mpr ⟨u, h, rfl⟩)
  rcases List.mem_append.mp h with h | h
  · exact wCode_6 _ (List.mem_map.mpr ⟨u, h, rfl⟩)
  exact wCode_7 _ (List.mem_map.mpr ⟨u, h, rfl⟩)
def wInst_L : List Nat := ([8, 9, 10, 11, 12, 13, 14, 16, 17, 18, 19, 20, 21, 22, 23, 24, 25, 26, 27, 28, 29, 30, 31, 32, 33, 34, 35, 36, 37, 38, 39, 40, 41, 42, 43, 44, 45, 46, 47, 48] : List Nat) ++ (([49, 50, 51, 52, 53, 54, 58, 59, 60, 61, 64, 65, 66, 67, 68, 69, 70, 71, 72, 73, 76, 77, 78, 79, 80, 81, 82, 83, 84, 85, 87, 88, 89, 90, 91, 92, 93, 94, 95, 96] : List Nat) ++ (([97, 98, 99, 100, 101, 102, 103, 104, 105, 106, 107, 108, 109, 110, 111, 112, 113, 114, 115, 116, 117, 118, 119, 120, 121, 122, 123, 124, 125, 126, 127, 128, 129, 130, 131, 132, 133, 134, 135, 136] : List Nat) ++ (([137, 138, 139, 140, 141, 142, 143, 144, 145, 146, 147, 148, 149, 150, 151, 152, 153, 154, 155, 156, 157, 158, 159, 160, 161, 162, 163, 164, 165, 169, 170, 171, 174, 175, 176, 177, 178, 179, 180, 181] : List Nat) ++ (([182, 183, 184, 185, 186, 190, 192, 196, 197, 198, 199, 200, 201, 202, 203, 204, 205, 206, 207, 208, 209, 210, 211, 212, 214, 215, 216, 217, 219, 220, 221, 222, 223, 224, 225, 226, 227, 228, 231, 232] : List Nat) ++ (([233, 234, 235, 236, 237, 238, 239, 240, 241, 242, 243, 244, 245, 246, 247, 248, 249, 250, 251, 252, 253, 254, 255, 256, 257, 258, 259, 260, 261, 262, 263, 264, 265, 266, 267, 268, 269, 270, 272, 273] : List Nat) ++ (([274, 275, 276, 277, 278, 279, 280, 281, 282, 283, 284, 285, 286, 287, 288, 289, 290, 291, 292, 294, 295, 297, 298, 300, 301, 302, 303, 304, 305, 306, 307, 308, 309, 310, 311, 312, 313] : List Nat)))))))
theorem wInst {u : Nat} (h : u ∈ wInst_L) : Cond.instanceMethod (tY (mG u)) ∈ wsG := by
  unfold wInst_L at h
  rcases List.mem_append.mp h with h | h
  · exact wInst_0 _ (List.mem_map.mpr ⟨u, h, rfl⟩)
  rcases List.mem_append.mp h with h | h
  · exact wInst_1 _ (List.mem_map.mpr ⟨u, h, rfl⟩)
  rcases List.mem_append.mp h with h | h
  · exact wInst_2 _ (List.mem_map.mpr ⟨u, h, rfl⟩)
  rcases List.mem_append.mp h with h | h
  · exact wInst_3 _ (List.mem_map.mpr ⟨u, h, rfl⟩)
  rcases List.mem_append.mp h with h | h
  · exact wInst_4 _ (List.mem_map.mpr ⟨u, h, rfl⟩)
  rcases List.mem_append.mp h with h | h
  · exact wInst_5 _ (List.mem_map.mpr ⟨u, h, rfl⟩)
  exact wInst_6 _ (List.mem_map.mpr ⟨u, h, rfl⟩)
def wSel_L : List Nat := ([9, 10, 11, 12, 13, 14, 17, 18, 19, 20, 21, 23, 24, 25, 26, 27, 28, 29, 30, 31, 32, 33, 35, 36, 37, 38, 39, 40, 41, 42, 43, 44, 45, 46, 47, 48, 49, 50, 51, 52] : List Nat) ++ (([53, 54, 58, 59, 61, 64, 65, 66, 67, 68, 69, 71, 72, 73, 77, 78, 79, 80, 81, 82, 83, 84, 85, 88, 89, 90, 91, 92, 94, 95, 96, 97, 98, 99, 100, 101, 102, 103, 104, 105] : List Nat) ++ (([106, 107, 108, 109, 110, 112, 113, 114, 115, 116, 117, 118, 119, 120, 121, 122, 123, 124, 125, 126, 127, 128, 129, 130, 131, 132, 133, 134, 135, 136, 137, 138, 139, 140, 141, 142, 143, 144, 145, 146] : List Nat) ++ (([147, 148, 149, 150, 151, 152, 153, 154, 155, 156, 157, 158, 159, 160, 161, 162, 163, 164, 165, 169, 170, 171, 175, 176, 177, 178, 179, 181, 182, 183, 184, 185, 186, 190, 192, 196, 197, 198, 199, 200] : List Nat) ++ (([201, 202, 203, 204, 205, 206, 207, 208, 209, 210, 211, 212, 214, 215, 216, 217, 219, 220, 221, 222, 223, 224, 225, 226, 227, 228, 231, 232, 233, 234, 235, 236, 237, 238, 239, 240, 241, 242, 243, 244] : List Nat) ++ (([245, 246, 247, 248, 249, 250, 251, 252, 253, 254, 255, 256, 257, 258, 259, 260, 261, 262, 263, 264, 265, 266, 267, 268, 269, 270, 272, 273, 274, 275, 276, 277, 278, 279, 280, 281, 282, 283, 284, 285] : List Nat) ++ (([286, 287, 288, 289, 290, 291, 292, 294, 295, 297, 298, 300, 301, 302, 303, 304, 305, 306, 307, 308, 309, 310, 311, 312, 313] : List Nat)))))))
theorem wSel {u : Nat} (h : u ∈ wSel_L) : Cond.selects (tY (mG u)).cls (tY (mG u)) (tY (mG u)) ∈ wsG := by
  unfold wSel_L at h
  rcases List.mem_append.mp h with h | h
  · exact wSel_0 _ (List.mem_map.mpr ⟨u, h, rfl⟩)
  rcases List.mem_append.mp h with h | h
  · exact wSel_1 _ (List.mem_map.mpr ⟨u, h, rfl⟩)
  rcases List.mem_append.mp h with h | h
  · exact wSel_2 _ (List.mem_map.mpr ⟨u, h, rfl⟩)
  rcases List.mem_append.mp h with h | h
  · exact wSel_3 _ (List.mem_map.mpr ⟨u, h, rfl⟩)
  rcases List.mem_append.mp h with h | h
  · exact wSel_4 _ (List.mem_map.mpr ⟨u, h, rfl⟩)
  rcases List.mem_append.mp h with h | h
  · exact wSel_5 _ (List.mem_map.mpr ⟨u, h, rfl⟩)
  exact wSel_6 _ (List.mem_map.mpr ⟨u, h, rfl⟩)
def wStat_L : List Nat := ([0, 1, 2, 3, 4, 5, 6, 7, 15, 55, 56, 57, 62, 63, 74, 75, 86, 166, 167, 168, 172, 173, 187, 188, 189, 191, 193, 194, 195, 213, 218, 229, 230, 271, 293, 296, 299, 314] : List Nat)
theorem wStat {u : Nat} (h : u ∈ wStat_L) : Cond.static (tY (mG u)) ∈ wsG := by
  unfold wStat_L at h
  exact wStat_0 _ (List.mem_map.mpr ⟨u, h, rfl⟩)
def wIni_L : List Nat := ([0, 1, 2, 3, 4, 5, 6, 7, 8, 9, 10, 11, 12, 13, 14, 15, 16, 17, 18, 19, 20, 21, 22, 23, 24, 25, 26, 27, 28, 29, 30, 31, 32, 33, 34, 35, 36, 37, 38, 39] : List Nat) ++ (([40, 41, 42, 43, 44, 45, 46, 47, 48, 49, 50, 51, 52, 53, 54, 55, 56, 57, 58, 59, 60, 61, 62, 63, 64, 65, 66, 67, 68, 69, 70, 71, 72, 73, 74, 75, 76, 77, 78, 79] : List Nat) ++ (([80, 81, 82, 83, 84, 85, 86, 87, 88, 89, 90, 91, 92, 93, 94, 95, 96, 97, 98, 99, 100, 101, 102, 103, 104, 105, 106, 107, 108, 109, 110, 111, 112, 113, 114, 115, 116, 117, 118, 119] : List Nat) ++ (([120, 121, 122, 123, 124, 125, 126, 127, 128, 129, 130, 131, 132, 133, 134, 135, 136, 137, 138, 139, 140, 141, 142, 143, 144, 145, 146, 147, 148, 149, 150, 151, 152, 153, 154, 155, 156, 157, 158, 159] : List Nat) ++ (([160, 161, 162, 163, 164, 165, 166, 167, 168, 169, 170, 171, 172, 173, 174, 175, 176, 177, 178, 179, 180, 181, 182, 183, 184, 185, 186, 187, 188, 189, 190, 191, 192, 193, 194, 195, 196, 197, 198, 199] : List Nat) ++ (([200, 201, 202, 203, 204, 205, 206, 207, 208, 209, 210, 211, 212, 213, 214, 215, 216, 217, 218, 219, 220, 221, 222, 223, 224, 225, 226, 227, 228, 229, 230, 231, 232, 233, 234, 235, 236, 237, 238, 239] : List Nat) ++ (([240, 241, 242, 243, 244, 245, 246, 247, 248, 249, 250, 251, 252, 253, 254, 255, 256, 257, 258, 259, 260, 261, 262, 263, 264, 265, 266, 267, 268, 269, 270, 271, 272, 273, 274, 275, 276, 277, 278, 279] : List Nat) ++ (([280, 281, 282, 283, 284, 285, 286, 287, 288, 289, 290, 291, 292, 293, 294, 295, 296, 297, 298, 299, 300, 301, 302, 303, 304, 305, 306, 307, 308, 309, 310, 311, 312, 313, 314] : List Nat))))))))
theorem wIni {u : Nat} (h : u ∈ wIni_L) : Cond.initialized (tY (mG u)).cls ∈ wsG := by
  unfold wIni_L at h
  rcases List.mem_append.mp h with h | h
  · exact wIni_0 _ (List.mem_map.mpr ⟨u, h, rfl⟩)
  rcases List.mem_append.mp h with h | h
  · exact wIni_1 _ (List.mem_map.mpr ⟨u, h, rfl⟩)
  rcases List.mem_append.mp h with h | h
  · exact wIni_2 _ (List.mem_map.mpr ⟨u, h, rfl⟩)
  rcases List.mem_append.mp h with h | h
  · exact wIni_3 _ (List.mem_map.mpr ⟨u, h, rfl⟩)
  rcases List.mem_append.mp h with h | h
  · exact wIni_4 _ (List.mem_map.mpr ⟨u, h, rfl⟩)
  rcases List.mem_append.mp h with h | h
  · exact wIni_5 _ (List.mem_map.mpr ⟨u, h, rfl⟩)
  rcases List.mem_append.mp h with h | h
  · exact wIni_6 _ (List.mem_map.mpr ⟨u, h, rfl⟩)
  exact wIni_7 _ (List.mem_map.mpr ⟨u, h, rfl⟩)
set_option maxRecDepth 20000 in
theorem virtL : ∀ q ∈ mlT, q.2.2.2 = 0 → q.2.2.1 < 900 → q.2.2.1 ∈ wSel_L ∧ q.2.2.1 ∈ wInst_L ∧ q.2.2.1 ∈ wCode_L ∧ q.2.2.1 ∈ wIni_L := by decide +kernel
set_option maxRecDepth 20000 in
theorem statL : ∀ q ∈ mlT, q.2.2.2 = 1 → q.2.2.1 < 900 → q.2.2.1 ∈ wStat_L ∧ q.2.2.1 ∈ wCode_L ∧ q.2.2.1 ∈ wIni_L := by decide +kernel
set_option maxRecDepth 20000 in
theorem specL : ∀ q ∈ mlT, q.2.2.2 = 2 ∨ q.2.2.2 = 3 ∨ q.2.2.2 = 4 → q.2.2.1 ∈ wInst_L ∧ q.2.2.1 ∈ wCode_L ∧ q.2.2.1 ∈ wIni_L := by decide +kernel
set_option maxRecDepth 20000 in
theorem ciW0 : ∀ w ∈ ciT.map (fun q => Cond.constant (cnm q.1) q.2.1 q.2.2), w ∈ wsG := memG _ [1184, 2019] (by decide +kernel) (by decide +kernel)
set_option maxRecDepth 20000 in
theorem clW0 : ∀ w ∈ clT.map (fun q => Cond.constantLong (cnm q.1) q.2.1 q.2.2), w ∈ wsG := memG _ [1039, 1159, 972, 1207, 1154, 1543, 1609, 2003, 2020, 2021, 2022, 864, 865, 866] (by decide +kernel) (by decide +kernel)
set_option maxRecDepth 20000 in
theorem nlW0 : ∀ w ∈ nlT.map (fun q => Cond.classLink (cnm q.1) q.2.1 (clX q.2.2.1).1), w ∈ wsG := memG _ [357, 357, 149, 179, 143, 316, 351, 378, 391, 413, 438, 453, 1440, 135, 1317] (by decide +kernel) (by decide +kernel)
set_option maxRecDepth 20000 in
theorem insW0 : ∀ w ∈ (List.range 12).map (fun u => Cond.instantiable (clX u).1 (clX u).2.2), w ∈ wsG := memG _ [392, 352, 180, 144, 414, 439, 150, 379, 317, 136, 1441, 1318] (by decide +kernel) (by decide +kernel)
set_option maxRecDepth 20000 in
theorem iniW0 : ∀ w ∈ (List.range 12).map (fun u => Cond.initialized (clX u).1), w ∈ wsG := memG _ [119, 117, 115, 113, 120, 121, 114, 118, 116, 112, 129, 122] (by decide +kernel) (by decide +kernel)
set_option maxRecDepth 20000 in
theorem arrW0 : ∀ w ∈ ([Cond.arrayClass .int, Cond.arrayClass .long, Cond.arrayClass .boolean, Cond.arrayClass .byte] : List Cond), w ∈ wsG := memG _ [178, 315, 1423, 794] (by decide +kernel) (by decide +kernel)
set_option maxRecDepth 20000 in
theorem mtL_abs : ∀ w ∈ (mlT.filter (fun q => q.2.2.1 == 900)).map (fun q => Cond.methodLink (cnm q.1) q.2.1 Lib.Math.abs.name), w ∈ wsG := memG _ [790, 793] (by decide +kernel) (by decide +kernel)
set_option maxRecDepth 20000 in
theorem mtW_abs : ∀ w ∈ ([Cond.static Lib.Math.abs.name, Cond.initialized "java/lang/Math", Cond.code Lib.Math.abs.name Lib.Math.abs.code 1 (some .int)] : List Cond), w ∈ wsG := memG _ [791, 128, 792] (by decide +kernel) (by decide +kernel)
set_option maxRecDepth 20000 in
theorem mtL_max : ∀ w ∈ (mlT.filter (fun q => q.2.2.1 == 901)).map (fun q => Cond.methodLink (cnm q.1) q.2.1 Lib.Math.max.name), w ∈ wsG := memG _ [1118, 1179, 768] (by decide +kernel) (by decide +kernel)
set_option maxRecDepth 20000 in
theorem mtW_max : ∀ w ∈ ([Cond.static Lib.Math.max.name, Cond.initialized "java/lang/Math", Cond.code Lib.Math.max.name Lib.Math.max.code 2 (some .int)] : List Cond), w ∈ wsG := memG _ [769, 128, 770] (by decide +kernel) (by decide +kernel)
set_option maxRecDepth 20000 in
theorem mtL_min : ∀ w ∈ (mlT.filter (fun q => q.2.2.1 == 902)).map (fun q => Cond.methodLink (cnm q.1) q.2.1 Lib.Math.min.name), w ∈ wsG := memG _ [1195] (by decide +kernel) (by decide +kernel)
set_option maxRecDepth 20000 in
theorem mtW_min : ∀ w ∈ ([Cond.static Lib.Math.min.name, Cond.initialized "java/lang/Math", Cond.code Lib.Math.min.name Lib.Math.min.code 2 (some .int)] : List Cond), w ∈ wsG := memG _ [1196, 128, 1197] (by decide +kernel) (by decide +kernel)
set_option maxRecDepth 20000 in
theorem obL : ∀ w ∈ (mlT.filter (fun q => q.2.2.1 == 999)).map (fun q => Cond.methodLink (cnm q.1) q.2.1 objectInit), w ∈ wsG := memG _ [396, 356, 184, 148, 418, 443, 154, 383, 321, 140, 1445, 1322] (by decide +kernel) (by decide +kernel)
set_option maxRecDepth 20000 in
theorem obW : ∀ w ∈ ([Cond.instanceMethod objectInit, Cond.code objectInit ⟨#[0xb1]⟩ 1 none] : List Cond), w ∈ wsG := memG _ [141, 142] (by decide +kernel) (by decide +kernel)
set_option maxRecDepth 20000 in
theorem slWt : slT.map (fun q => Cond.stringRef (cnm q.1) q.2.1 (stx q.2.2)) = ([539, 621, 651, 671, 684, 685, 605, 618, 619, 620, 705, 706, 1555, 1596, 1613, 1630, 1643, 1644, 1573, 1593, 1594, 1595, 1657, 1658] : List Nat).filterMap (fun i => lw_tbl[i]?) := by decide +kernel
theorem aoWt : lw_tbl[358]? = some (Cond.arrayOver (.object RX9)) := by decide +kernel
end
section
def k_316 : List aM := [(.iconst 0, (0, 0, 0, 0), 0, 0, []),
  (.istore_n 2, (2, 0, 0, 0), 0, 0, []),
  (.iconst 0, (0, 0, 0, 0), 0, 0, []),
  (.istore_n 3, (3, 0, 0, 0), 0, 0, []),
  (.nop, (0, 0, 0, 0), 0, 0, [(0, 1), (0, 1), (0, 1), (0, 1)]),
  (.iload_n 3, (3, 0, 0, 0), 0, 0, []),
  (.aload_n 0, (0, 0, 0, 0), 0, 0, []),
  (.getfield 64, (9, 8, 2, 0), 0, 0, []),
  (.getfield 120, (2, 8, 0, 0), 0, 0, []),
  (.if_icmp .ge 30, (23, 0, 0, 0), 0, 0, []),
  (.aload_n 0, (0, 0, 0, 0), 0, 0, []),
  (.getfield 19, (9, 1, 2, 0), 0, 0, []),
  (.iload_n 3, (3, 0, 0, 0), 0, 0, []),
  (.invokevirtual 351, (102, 2, 1, 8), 0, 0, []),
  (.ifCond .ne 13, (21, 0, 0, 0), 0, 0, []),
  (.iload_n 2, (2, 0, 0, 0), 0, 0, []),
  (.iload_n 1, (1, 0, 0, 0), 0, 0, []),
  (.if_icmp .ne 5, (20, 0, 0, 0), 0, 0, []),
  (.iload_n 3, (3, 0, 0, 0), 0, 0, []),
  (.ireturn, (0, 0, 0, 0), 0, 0, []),
  (.iinc 2 1, (2, 0, 0, 0), 1, 0, []),
  (.iinc 3 1, (3, 0, 0, 0), 1, 0, []),
  (.goto (-35), (4, 0, 0, 0), 0, 0, []),
  (.nop, (7, 0, 0, 0), 0, 0, [])]
def q_316 : List Nat := [0, 1, 2, 3, 4, 4, 5, 6, 9, 12, 15, 16, 19, 20, 23, 26, 27, 28, 31, 32, 33, 36, 39, 42, 42]
def m_316 : aMt := (yX10_led, cX10_led, 4, (some .int), 10, 8, 350, (1, 6), 1, k_316, q_316)
set_option maxRecDepth 100000 in
theorem ok_316 : chkT m_316 = true := by decide +kernel
theorem metaL_len : metaL.length = 316 := by decide +kernel
def mGx (id : Nat) : aMt := if id = 316 then m_316 else mG id
theorem mGx_of {id : Nat} (h : id < metaL.length) : mGx id = mG id := by
  unfold mGx; rw [if_neg (by rw [metaL_len] at h; omega)]
theorem mGx_ok {id : Nat} (h : id < 317) : chkT (mGx id) = true := by
  by_cases h6 : id = 316
  · subst h6; exact ok_316
  · rw [mGx_of (by rw [metaL_len]; omega)]; exact mG_ok (by rw [metaL_len]; omega)
end
section
/-! THE ABSTRACT MACHINE: the class's and the reference's bytecode, run over a flat heap: kinds, lengths, ints, longs, references by address and place. -/
abbrev aH : Type := (Nat → Nat) × (Nat → Nat) × (Nat → Nat → Int32) × (Nat → Nat → Int64) × (Nat → Nat → Option Nat) × Nat × ((Nat → Nat) × Nat × Nat × (Nat → Int32))
def aK (S : aH) (a : Nat) : Nat := S.1 a
def aN (S : aH) (a : Nat) : Nat := S.2.1 a
def aI (S : aH) (a k : Nat) : Int32 := S.2.2.1 a k
def aJ (S : aH) (a k : Nat) : Int64 := S.2.2.2.1 a k
def aR (S : aH) (a k : Nat) : Option Nat := S.2.2.2.2.1 a k
def aZ (S : aH) : Nat := S.2.2.2.2.2.1
/-- what never changes: where the texts are, and the script -/
def aE (S : aH) : (Nat → Nat) × Nat × Nat × (Nat → Int32) := S.2.2.2.2.2.2
def aG (S : aH) (k : Nat) : Nat := (aE S).1 k
def u2 {α : Type} (f : Nat → Nat → α) (a k : Nat) (v : α) : Nat → Nat → α := fun b j => if b = a then (if j = k then v else f b j) else f b j
def r2 {α : Type} (f : Nat → Nat → α) (a : Nat) (g : Nat → α) : Nat → Nat → α := fun b => if b = a then g else f b
def wI (S : aH) (a k : Nat) (v : Int32) : aH := (S.1, S.2.1, u2 S.2.2.1 a k v, S.2.2.2)
def wJ (S : aH) (a k : Nat) (v : Int64) : aH := (S.1, S.2.1, S.2.2.1, u2 S.2.2.2.1 a k v, S.2.2.2.2)
def wR (S : aH) (a k : Nat) (v : Option Nat) : aH := (S.1, S.2.1, S.2.2.1, S.2.2.2.1, u2 S.2.2.2.2.1 a k v, S.2.2.2.2.2)
/-- a new cell of kind c and length n -/
def wN (S : aH) (c n : Nat) : aH := (va_up S.1 (aZ S) c, va_up S.2.1 (aZ S) n, r2 S.2.2.1 (aZ S) (fun _ => 0), r2 S.2.2.2.1 (aZ S) (fun _ => 0), r2 S.2.2.2.2.1 (aZ S) (fun _ => none), aZ S + 1, S.2.2.2.2.2.2)
abbrev aL : Type := List (Option Value)
abbrev aO : Type := Option (Option Value × aH)
abbrev aB : Type := Nat × Nat
abbrev aKt : Type := Nat → aL → List Value → aB → aH → aO
abbrev aC : Type := Nat → List Value → aH → aO
abbrev ix_ (j : Int32) (n : Nat) : Prop := ¬ (j < 0 ∨ n ≤ j.toNatClampNeg)
def lg_ : aL → Nat → Option Value
  | [], _ => none
  | x :: _, 0 => x
  | _ :: t, n + 1 => lg_ t n
def ls_ : aL → Nat → Option Value → aL
  | [], _, _ => []
  | _ :: t, 0, v => v :: t
  | x :: t, n + 1, v => x :: ls_ t n v
def nl_ : Option Value → Option Value
  | some (.long _) => none
  | some (.double _) => none
  | x => x
def st_ (ls : aL) (i : Nat) (v : Value) : aL := match i with
  | 0 => ls_ ls 0 (some v)
  | j + 1 => ls_ (ls_ ls (j + 1) (some v)) j (nl_ (lg_ ls j))
def sl_ (ls : aL) (i : Nat) (v : Value) : aL := ls_ (st_ ls i v) (i + 1) none
def mk_ : List (Int32 × Nat) → aL → aL
  | (_, 0) :: m, _ :: t => none :: mk_ m t
  | (_, _ + 1) :: m, x :: t => x :: mk_ m t
  | _, _ => []
def cg_ : List aM → Nat → Option aM
  | [], _ => none
  | x :: _, 0 => some x
  | _ :: t, n + 1 => cg_ t n
def gd (c : Prop) [Decidable c] (x : aO) : aO := if c then x else none
def pI (st : List Value) (f : Int32 → List Value → aO) : aO := match st with
  | .int x :: r => f x r
  | _ => none
def pJ (st : List Value) (f : Int64 → List Value → aO) : aO := match st with
  | .long x :: r => f x r
  | _ => none
def pR (st : List Value) (f : Nat → List Value → aO) : aO := match st with
  | .ref x :: r => f x r
  | _ => none
def lI (v : Option Value) (f : Int32 → aO) : aO := match v with
  | some (.int x) => f x
  | _ => none
def lJ (v : Option Value) (f : Int64 → aO) : aO := match v with
  | some (.long x) => f x
  | _ => none
def lR (v : Option Value) (f : Nat → aO) : aO := match v with
  | some (.ref x) => f x
  | _ => none
def nR (r : Option Nat) (f : Nat → aO) : aO := match r with
  | some b => f b
  | none => none
def nQ (r : Option Nat) (f : Nat → aO) (g : aO) : aO := match r with
  | some b => f b
  | none => g
def cmp_ (c : ClassFile.Cond) (x y : Int32) (A B : aO) : aO := match c with
  | .eq => if x = y then A else B
  | .ne => if x = y then B else A
  | .lt => if x < y then A else B
  | .ge => if y ≤ x then A else B
  | .gt => if y < x then A else B
  | .le => if x ≤ y then A else B
def tk_ : Nat → List Value → List Value → (List Value → List Value → aO) → aO
  | 0, acc, st, f => f acc st
  | n + 1, acc, v :: st, f => tk_ n (v :: acc) st f
  | _ + 1, _, [], _ => none
def cs_ : List Value → Nat
  | [] => 0
  | v :: r => v.category + cs_ r
def cI (q : aO) (f : Int32 → aH → aO) : aO := match q with
  | some (some (.int x), S) => f x S
  | _ => none
def cJ (q : aO) (f : Int64 → aH → aO) : aO := match q with
  | some (some (.long x), S) => f x S
  | _ => none
def cV (q : aO) (f : aH → aO) : aO := match q with
  | some (none, S) => f S
  | _ => none
def cl_ (w : Nat) (q : aO) (r : List Value) (K : List Value → aH → aO) : aO := match w with
  | 0 => cV q fun S => K r S
  | 1 => cI q fun x S => K (.int x :: r) S
  | _ => cJ q fun x S => K (.long x :: r) S
def bo_ (c : Bool) (x : aO) : aO := match c with
  | true => x
  | false => none
/-- the receiver is of the kind z (99: it isn't asked) -/
def rk_ (z : Nat) (as : List Value) (S : aH) (x : aO) : aO := match z with
  | 99 => x
  | 98 => (match as with
    | .ref _ :: _ => x
    | _ => none)
  | _ => (match as with
    | .ref a :: _ => gd (aK S a = z) x
    | _ => none)
def ca_ (u v w z : Nat) (ts : List (Int32 × Nat)) (st : List Value) (b : aB) (S : aH) (C : aC) (K : List Value → aB → aH → aO) : aO :=
  tk_ v [] st fun as r => bo_ (Nat.ble (cs_ r) 8) (rk_ z as S (match ts with
    | [] => cl_ w (C u as S) r fun st S => K st b S
    | (_, mc) :: (_, ms) :: _ => gd (mc ≤ b.1 ∧ ms ≤ b.2) (cl_ w (C u as S) r fun st S => K st (b.1 - mc, b.2 - ms) S)
    | _ => none))
def sw_ (x : Int32) (d : Nat) (K : Nat → aO) : List (Int32 × Nat) → aO
  | [] => K d
  | (c, t) :: r => if x = c then K t else sw_ x d K r
def ex1 (i : aM) (k : Nat) (ls : aL) (st : List Value) (b : aB) (S : aH) (K : aKt) (C : aC) : aO :=
  match i with
  | (ins, (u, v, w, z), c, d, ts) => match ins with
    | .iload_n _ => lI (lg_ ls u) fun x => K (k + 1) ls (.int x :: st) b S
    | .iload _ => lI (lg_ ls u) fun x => K (k + 1) ls (.int x :: st) b S
    | .lload_n _ => lJ (lg_ ls u) fun x => K (k + 1) ls (.long x :: st) b S
    | .lload _ => lJ (lg_ ls u) fun x => K (k + 1) ls (.long x :: st) b S
    | .aload_n _ => lR (lg_ ls u) fun x => K (k + 1) ls (.ref x :: st) b S
    | .aload _ => lR (lg_ ls u) fun x => K (k + 1) ls (.ref x :: st) b S
    | .istore_n _ => pI st fun x r => K (k + 1) (st_ ls u (.int x)) r b S
    | .istore _ => pI st fun x r => K (k + 1) (st_ ls u (.int x)) r b S
    | .lstore_n _ => pJ st fun x r => K (k + 1) (sl_ ls u (.long x)) r b S
    | .lstore _ => pJ st fun x r => K (k + 1) (sl_ ls u (.long x)) r b S
    | .astore_n _ => pR st fun x r => K (k + 1) (st_ ls u (.ref x)) r b S
    | .astore _ => pR st fun x r => K (k + 1) (st_ ls u (.ref x)) r b S
    | .iinc _ _ => lI (lg_ ls u) fun x => K (k + 1) (st_ ls u (.int (x + c))) st b S
    | .iconst _ => K (k + 1) ls (.int c :: st) b S
    | .bipush _ => K (k + 1) ls (.int c :: st) b S
    | .sipush _ => K (k + 1) ls (.int c :: st) b S
    | .lconst _ => K (k + 1) ls (.long d :: st) b S
    | .ldc _ => (match w with
      | 0 => K (k + 1) ls (.int c :: st) b S
      | _ => K (k + 1) ls (.ref (aG S u) :: st) b S)
    | .ldc_w _ => (match w with
      | 0 => K (k + 1) ls (.int c :: st) b S
      | _ => K (k + 1) ls (.ref (aG S u) :: st) b S)
    | .ldc2_w _ => K (k + 1) ls (.long d :: st) b S
    | .iadd => pI st fun y r => pI r fun x r => K (k + 1) ls (.int (x + y) :: r) b S
    | .isub => pI st fun y r => pI r fun x r => K (k + 1) ls (.int (x - y) :: r) b S
    | .imul => pI st fun y r => pI r fun x r => K (k + 1) ls (.int (x * y) :: r) b S
    | .idiv => pI st fun y r => pI r fun x r => gd (¬ y = 0) (K (k + 1) ls (.int (x / y) :: r) b S)
    | .irem => pI st fun y r => pI r fun x r => gd (¬ y = 0) (K (k + 1) ls (.int (x - x / y * y) :: r) b S)
    | .ineg => pI st fun x r => K (k + 1) ls (.int (-x) :: r) b S
    | .iand => pI st fun y r => pI r fun x r => K (k + 1) ls (.int (x &&& y) :: r) b S
    | .ior => pI st fun y r => pI r fun x r => K (k + 1) ls (.int (x ||| y) :: r) b S
    | .ixor => pI st fun y r => pI r fun x r => K (k + 1) ls (.int (x ^^^ y) :: r) b S
    | .ishl => pI st fun y r => pI r fun x r => K (k + 1) ls (.int (x <<< (y &&& 31)) :: r) b S
    | .ishr => pI st fun y r => pI r fun x r => K (k + 1) ls (.int (x >>> (y &&& 31)) :: r) b S
    | .iushr => pI st fun y r => pI r fun x r => K (k + 1) ls (.int (x.toUInt32 >>> (y.toUInt32 &&& Int32.toUInt32 31)).toInt32 :: r) b S
    | .ladd => pJ st fun y r => pJ r fun x r => K (k + 1) ls (.long (x + y) :: r) b S
    | .lsub => pJ st fun y r => pJ r fun x r => K (k + 1) ls (.long (x - y) :: r) b S
    | .lmul => pJ st fun y r => pJ r fun x r => K (k + 1) ls (.long (x * y) :: r) b S
    | .ldiv => pJ st fun y r => pJ r fun x r => gd (¬ y = 0) (K (k + 1) ls (.long (x / y) :: r) b S)
    | .lrem => pJ st fun y r => pJ r fun x r => gd (¬ y = 0) (K (k + 1) ls (.long (x - x / y * y) :: r) b S)
    | .land => pJ st fun y r => pJ r fun x r => K (k + 1) ls (.long (x &&& y) :: r) b S
    | .lor => pJ st fun y r => pJ r fun x r => K (k + 1) ls (.long (x ||| y) :: r) b S
    | .lxor => pJ st fun y r => pJ r fun x r => K (k + 1) ls (.long (x ^^^ y) :: r) b S
    | .lshl => pI st fun y r => pJ r fun x r => K (k + 1) ls (.long (x <<< (y.toInt64 &&& 63)) :: r) b S
    | .lshr => pI st fun y r => pJ r fun x r => K (k + 1) ls (.long (x >>> (y.toInt64 &&& 63)) :: r) b S
    | .lushr => pI st fun y r => pJ r fun x r => K (k + 1) ls (.long (x.toUInt64 >>> (y.toInt64.toUInt64 &&& Int64.toUInt64 63)).toInt64 :: r) b S
    | .lcmp => pJ st fun y r => pJ r fun x r => K (k + 1) ls (.int (lg_cmp x y) :: r) b S
    | .i2l => pI st fun x r => K (k + 1) ls (.long x.toInt64 :: r) b S
    | .l2i => pJ st fun x r => K (k + 1) ls (.int x.toInt32 :: r) b S
    | .i2b => pI st fun x r => K (k + 1) ls (.int x.toInt8.toInt32 :: r) b S
    | .dup => (match st with
      | .int x :: r => K (k + 1) ls (.int x :: .int x :: r) b S
      | .ref x :: r => K (k + 1) ls (.ref x :: .ref x :: r) b S
      | _ => none)
    | .dup2 => (match st with
      | .int x :: .ref a :: r => K (k + 1) ls (.int x :: .ref a :: .int x :: .ref a :: r) b S
      | _ => none)
    | .pop => (match st with
      | .int _ :: r => K (k + 1) ls r b S
      | _ => none)
    | .getfield _ => pR st fun a r => gd (aK S a = u) (match w with
      | 1 => K (k + 1) ls (.long (aJ S a v) :: r) b S
      | 2 => nR (aR S a v) fun x => K (k + 1) ls (.ref x :: r) b S
      | 3 => nQ (aR S a v) (fun x => K (k + 1) ls (.ref x :: r) b S) (K (k + 1) ls (.null :: r) b S)
      | _ => K (k + 1) ls (.int (aI S a v) :: r) b S)
    | .putfield _ => (match w with
      | 0 => pI st fun x r => pR r fun a r => gd (aK S a = u) (K (k + 1) ls r b (wI S a v x))
      | 1 => pJ st fun x r => pR r fun a r => gd (aK S a = u) (K (k + 1) ls r b (wJ S a v x))
      | 4 => pI st fun x r => pR r fun a r => gd (aK S a = u) (gd (x = 0 ∨ x = 1) (K (k + 1) ls r b (wI S a v x)))
      | _ => pR st fun x r => pR r fun a r => gd (aK S a = u) (K (k + 1) ls r b (wR S a v (some x))))
    | .iaload => (match u with
      | 17 => pI st fun j r => pR r fun a r => gd (a = (aE S).2.1 ∧ ix_ j (aE S).2.2.1) (K (k + 1) ls (.int ((aE S).2.2.2 j.toNatClampNeg) :: r) b S)
      | _ => pI st fun j r => pR r fun a r => gd (aK S a = 13 ∧ ix_ j (aN S a)) (K (k + 1) ls (.int (aI S a j.toNatClampNeg) :: r) b S))
    | .baload => pI st fun j r => pR r fun a r => gd (aK S a = u ∧ ix_ j (aN S a)) (K (k + 1) ls (.int (aI S a j.toNatClampNeg) :: r) b S)
    | .laload => pI st fun j r => pR r fun a r => gd (aK S a = 14 ∧ ix_ j (aN S a)) (K (k + 1) ls (.long (aJ S a j.toNatClampNeg) :: r) b S)
    | .aaload => pI st fun j r => pR r fun a r => gd (aK S a = 16 ∧ ix_ j (aN S a)) (nR (aR S a j.toNatClampNeg) fun x => K (k + 1) ls (.ref x :: r) b S)
    | .iastore => pI st fun x r => pI r fun j r => pR r fun a r => gd (aK S a = 13 ∧ ix_ j (aN S a)) (K (k + 1) ls r b (wI S a j.toNatClampNeg x))
    | .bastore => pI st fun x r => pI r fun j r => pR r fun a r => gd (aK S a = u ∧ ix_ j (aN S a)) (match w with
      | 0 => K (k + 1) ls r b (wI S a j.toNatClampNeg x.toInt8.toInt32)
      | _ => gd (x = 0 ∨ x = 1) (K (k + 1) ls r b (wI S a j.toNatClampNeg x)))
    | .lastore => pJ st fun x r => pI r fun j r => pR r fun a r => gd (aK S a = 14 ∧ ix_ j (aN S a)) (K (k + 1) ls r b (wJ S a j.toNatClampNeg x))
    | .aastore => pR st fun x r => pI r fun j r => pR r fun a r => gd (aK S a = 16 ∧ ix_ j (aN S a) ∧ aK S x = 8) (K (k + 1) ls r b (wR S a j.toNatClampNeg (some x)))
    | .arraylength => (match u with
      | 17 => pR st fun a r => gd (a = (aE S).2.1) (K (k + 1) ls (.int (Int32.ofNat (aE S).2.2.1) :: r) b S)
      | _ => pR st fun a r => gd (12 ≤ aK S a ∧ aK S a ≤ 16) (K (k + 1) ls (.int (Int32.ofNat (aN S a)) :: r) b S))
    | .newarray _ => pI st fun n r => gd (¬ n < 0 ∧ n.toNatClampNeg ≤ 60000 ∧ 1 ≤ b.1 ∧ n.toNatClampNeg ≤ b.2) (K (k + 1) ls (.ref (aZ S) :: r) (b.1 - 1, b.2 - n.toNatClampNeg) (wN S u n.toNatClampNeg))
    | .anewarray _ => pI st fun n r => gd (¬ n < 0 ∧ n.toNatClampNeg ≤ 60000 ∧ 1 ≤ b.1 ∧ n.toNatClampNeg ≤ b.2) (K (k + 1) ls (.ref (aZ S) :: r) (b.1 - 1, b.2 - n.toNatClampNeg) (wN S 16 n.toNatClampNeg))
    | .new _ => gd (1 ≤ b.1 ∧ v ≤ b.2) (K (k + 1) ls (.ref (aZ S) :: st) (b.1 - 1, b.2 - v) (wN S u 0))
    | .if_icmp cd _ => pI st fun y r => pI r fun x r => cmp_ cd x y (K u ls r b S) (K (k + 1) ls r b S)
    | .ifCond cd _ => pI st fun x r => cmp_ cd x 0 (K u ls r b S) (K (k + 1) ls r b S)
    | .ifnull _ => (match st with
      | .ref _ :: r => K (k + 1) ls r b S
      | .null :: r => K u ls r b S
      | _ => none)
    | .ifnonnull _ => (match st with
      | .ref _ :: r => K u ls r b S
      | .null :: r => K (k + 1) ls r b S
      | _ => none)
    | .goto _ => K u ls st b S
    | .tableswitch _ _ _ _ => pI st fun x r => sw_ x u (fun t => K t ls r b S) ts
    | .lookupswitch _ _ => pI st fun x r => sw_ x u (fun t => K t ls r b S) ts
    | .invokevirtual _ => ca_ u v w z ts st b S C fun st b S => K (k + 1) ls st b S
    | .invokestatic _ => ca_ u v w z ts st b S C fun st b S => K (k + 1) ls st b S
    | .invokespecial _ => (match w with
      | 9 => pR st fun _ r => bo_ (Nat.ble (cs_ r) 8) (K (k + 1) ls r b S)
      | _ => ca_ u v w 98 ts st b S C fun st b S => K (k + 1) ls st b S)
    | .ireturn => (match st with
      | [.int x] => (match w with
        | 0 => some (some (.int x), S)
        | _ => gd (x = 0 ∨ x = 1) (some (some (.int x), S)))
      | _ => none)
    | .lreturn => (match st with
      | [.long x] => some (some (.long x), S)
      | _ => none)
    | .return_ => (match st with
      | [] => some (none, S)
      | _ => none)
    | .nop => (match u with
      | 7 => (match st with
        | [] => some (some (.retAddr 7), S)
        | _ => none)
      | _ => K (k + 1) (mk_ ts ls) st b S)
    | _ => none
/-- a cut mark (7: here an exception is thrown) -/
def ic_ (i : aM) : Bool := match i.1 with
  | .nop => (match i.2.1.1 with
    | 7 => false
    | _ => true)
  | _ => false
def blk (code : List aM) (Kc : aKt) (C : aC) : Nat → aKt
  | 0, k, ls, st, b, S => Kc k ls st b S
  | f + 1, k, ls, st, b, S => match cg_ code k with
    | none => none
    | some i => (match ic_ i with
      | true => Kc (k + 1) (mk_ i.2.2.2.2 ls) st b S
      | false => ex1 i k ls st b S (blk code Kc C f) C)
def ea_ : List Value → aL
  | [] => []
  | .long x :: t => some (.long x) :: none :: ea_ t
  | .double _ :: t => none :: none :: ea_ t
  | v :: t => some v :: ea_ t
def pd_ : aL → Nat → aL
  | [], n => List.replicate n none
  | x :: t, n => x :: pd_ t (n - 1)
/-! the machine by steps, and what it comes to -/
def am (cd : Nat → List aM) (ml : Nat → Nat) (mb : Nat → aB) (xt : aC) : Nat → Nat → aKt
  | 0, _, _, _, _, _, _ => none
  | n + 1, id, k, ls, st, b, S => match cg_ (cd id) k with
    | none => none
    | some i => ex1 i k ls st b S (am cd ml mb xt n id) (fun u as S => if u < 900 then bo_ (Nat.ble (cs_ as) (ml u)) (am cd ml mb xt n u 0 (pd_ (ea_ as) (ml u)) [] (mb u) S) else xt u as S)
/-- the chain F comes to x -/
def Cn (F : Nat → aO) (x : aO) : Prop := ∀ r, x = some r → ∃ n, ∀ m, n ≤ m → F m = some r
theorem cn_none {F : Nat → aO} : Cn F none := fun r h => by cases h
theorem cn_const {x : aO} : Cn (fun _ => x) x := fun r h => ⟨0, fun _ _ => h⟩
theorem cn_pI {st : List Value} {f : Nat → Int32 → List Value → aO} {g : Int32 → List Value → aO} (h : ∀ x r, Cn (fun n => f n x r) (g x r)) : Cn (fun n => pI st (f n)) (pI st g) := by
  unfold pI; split
  · exact h _ _
  · exact cn_none
theorem cn_pJ {st : List Value} {f : Nat → Int64 → List Value → aO} {g : Int64 → List Value → aO} (h : ∀ x r, Cn (fun n => f n x r) (g x r)) : Cn (fun n => pJ st (f n)) (pJ st g) := by
  unfold pJ; split
  · exact h _ _
  · exact cn_none
theorem cn_pR {st : List Value} {f : Nat → Nat → List Value → aO} {g : Nat → List Value → aO} (h : ∀ x r, Cn (fun n => f n x r) (g x r)) : Cn (fun n => pR st (f n)) (pR st g) := by
  unfold pR; split
  · exact h _ _
  · exact cn_none
theorem cn_lI {v : Option Value} {f : Nat → Int32 → aO} {g : Int32 → aO} (h : ∀ x, Cn (fun n => f n x) (g x)) : Cn (fun n => lI v (f n)) (lI v g) := by
  unfold lI; split
  · exact h _
  · exact cn_none
theorem cn_lJ {v : Option Value} {f : Nat → Int64 → aO} {g : Int64 → aO} (h : ∀ x, Cn (fun n => f n x) (g x)) : Cn (fun n => lJ v (f n)) (lJ v g) := by
  unfold lJ; split
  · exact h _
  · exact cn_none
theorem cn_lR {v : Option Value} {f : Nat → Nat → aO} {g : Nat → aO} (h : ∀ x, Cn (fun n => f n x) (g x)) : Cn (fun n => lR v (f n)) (lR v g) := by
  unfold lR; split
  · exact h _
  · exact cn_none
theorem cn_nR {v : Option Nat} {f : Nat → Nat → aO} {g : Nat → aO} (h : ∀ x, Cn (fun n => f n x) (g x)) : Cn (fun n => nR v (f n)) (nR v g) := by
  unfold nR; split
  · exact h _
  · exact cn_none
theorem cn_nQ {v : Option Nat} {f : Nat → Nat → aO} {g : Nat → aO} {f2 : Nat → aO} {g2 : aO} (h : ∀ x, Cn (fun n => f n x) (g x)) (h2 : Cn f2 g2) : Cn (fun n => nQ v (f n) (f2 n)) (nQ v g g2) := by
  unfold nQ; split
  · exact h _
  · exact h2
theorem cn_gd {c : Prop} [Decidable c] {f : Nat → aO} {g : aO} (h : Cn f g) : Cn (fun n => gd c (f n)) (gd c g) := by
  unfold gd; split
  · exact h
  · exact cn_none
theorem cn_bo {c : Bool} {f : Nat → aO} {g : aO} (h : Cn f g) : Cn (fun n => bo_ c (f n)) (bo_ c g) := by
  cases c
  · exact cn_none
  · exact h
theorem cn_ite {c : Prop} [Decidable c] {f f2 : Nat → aO} {g g2 : aO} (h : Cn f g) (h2 : Cn f2 g2) : Cn (fun n => if c then f n else f2 n) (if c then g else g2) := by
  split
  · exact h
  · exact h2
theorem cn_cmp {c : ClassFile.Cond} {x y : Int32} {f f2 : Nat → aO} {g g2 : aO} (h : Cn f g) (h2 : Cn f2 g2) : Cn (fun n => cmp_ c x y (f n) (f2 n)) (cmp_ c x y g g2) := by
  cases c <;> simp only [cmp_] <;> first | exact cn_ite h h2 | exact cn_ite h2 h
theorem cn_tk {f : Nat → List Value → List Value → aO} {g : List Value → List Value → aO} (h : ∀ a r, Cn (fun n => f n a r) (g a r)) : ∀ (v : Nat) (acc st : List Value), Cn (fun n => tk_ v acc st (f n)) (tk_ v acc st g)
  | 0, acc, st => h acc st
  | v + 1, acc, [] => cn_none
  | v + 1, acc, x :: st => cn_tk h v (x :: acc) st
theorem cn_sw {x : Int32} {d : Nat} {f : Nat → Nat → aO} {g : Nat → aO} (h : ∀ t, Cn (fun n => f n t) (g t)) : ∀ ts : List (Int32 × Nat), Cn (fun n => sw_ x d (f n) ts) (sw_ x d g ts)
  | [] => h d
  | (c, t) :: r => cn_ite (h t) (cn_sw h r)
theorem cn_cl {w : Nat} {q : Nat → aO} {q0 : aO} {r : List Value} {f : Nat → List Value → aH → aO} {g : List Value → aH → aO} (hq : Cn q q0) (h : ∀ st S, Cn (fun n => f n st S) (g st S)) : Cn (fun n => cl_ w (q n) r (f n)) (cl_ w q0 r g) := by
  intro z hz
  cases h0 : q0 with
  | none => rw [h0] at hz; unfold cl_ at hz; split at hz <;> cases hz
  | some y =>
    obtain ⟨n1, h1⟩ := hq y h0
    rw [h0] at hz
    have key : Cn (fun n => cl_ w (some y) r (f n)) (cl_ w (some y) r g) := by
      unfold cl_; split
      · unfold cV; split
        · exact h _ _
        · exact cn_none
      · unfold cI; split
        · exact h _ _
        · exact cn_none
      · unfold cJ; split
        · exact h _ _
        · exact cn_none
    obtain ⟨n2, h2⟩ := key z hz
    refine ⟨n1 + n2, fun m hm => ?_⟩
    show cl_ w (q m) r (f m) = some z
    rw [h1 m (by omega)]
    exact h2 m (by omega)
theorem cn_rk {z : Nat} {as : List Value} {S : aH} {f : Nat → aO} {g : aO} (h : Cn f g) : Cn (fun n => rk_ z as S (f n)) (rk_ z as S g) := by
  unfold rk_; split
  · exact h
  · split
    · exact h
    · exact cn_none
  · split
    · exact cn_gd h
    · exact cn_none
theorem cn_ca {u v w z : Nat} {ts : List (Int32 × Nat)} {st : List Value} {b : aB} {S : aH} {Cq : Nat → aC} {C : aC} {f : Nat → List Value → aB → aH → aO} {g : List Value → aB → aH → aO} (hC : ∀ u as S, Cn (fun n => Cq n u as S) (C u as S)) (h : ∀ st b S, Cn (fun n => f n st b S) (g st b S)) : Cn (fun n => ca_ u v w z ts st b S (Cq n) (f n)) (ca_ u v w z ts st b S C g) := by
  unfold ca_
  apply cn_tk
  intro a r
  apply cn_bo
  apply cn_rk
  split
  · exact cn_cl (hC _ _ _) (fun st S => h st b S)
  · exact cn_gd (cn_cl (hC _ _ _) (fun st S => h st _ S))
  · exact cn_none
set_option maxHeartbeats 4000000 in
theorem ex1_cn {i : aM} {k : Nat} {ls : aL} {st : List Value} {b : aB} {S : aH} {Kq : Nat → aKt} {K : aKt} {Cq : Nat → aC} {C : aC} (hK : ∀ k ls st b S, Cn (fun n => Kq n k ls st b S) (K k ls st b S)) (hC : ∀ u as S, Cn (fun n => Cq n u as S) (C u as S)) : Cn (fun n => ex1 i k ls st b S (Kq n) (Cq n)) (ex1 i k ls st b S K C) := by
  obtain ⟨ins, ⟨u, v, w, z⟩, c, d, ts⟩ := i
  cases ins <;> simp only [ex1] <;> first
    | exact cn_none
    | exact cn_const
    | exact hK _ _ _ _ _
    | (apply cn_lI; intro x; exact hK _ _ _ _ _)
    | (apply cn_lJ; intro x; exact hK _ _ _ _ _)
    | (apply cn_lR; intro x; exact hK _ _ _ _ _)
    | (apply cn_pI; intro x r; exact hK _ _ _ _ _)
    | (apply cn_pJ; intro x r; exact hK _ _ _ _ _)
    | (apply cn_pR; intro x r; exact hK _ _ _ _ _)
    | (apply cn_pI; intro x r; apply cn_pI; intro y r; exact hK _ _ _ _ _)
    | (apply cn_pI; intro x r; apply cn_pI; intro y r; exact cn_gd (hK _ _ _ _ _))
    | (apply cn_pI; intro x r; apply cn_pI; intro y r; exact cn_cmp (hK _ _ _ _ _) (hK _ _ _ _ _))
    | (apply cn_pI; intro x r; exact cn_cmp (hK _ _ _ _ _) (hK _ _ _ _ _))
    | (apply cn_pI; intro x r; exact cn_gd (hK _ _ _ _ _))
    | (apply cn_pR; intro x r; exact cn_gd (hK _ _ _ _ _))
    | (apply cn_pJ; intro x r; apply cn_pJ; intro y r; exact hK _ _ _ _ _)
    | (apply cn_pJ; intro x r; apply cn_pJ; intro y r; exact cn_gd (hK _ _ _ _ _))
    | (apply cn_pI; intro x r; apply cn_pJ; intro y r; exact hK _ _ _ _ _)
    | (apply cn_pI; intro x r; apply cn_pR; intro y r; exact cn_gd (hK _ _ _ _ _))
    | (apply cn_pI; intro x r; apply cn_pR; intro y r; apply cn_gd; apply cn_nR; intro z; exact hK _ _ _ _ _)
    | (apply cn_pI; intro x r; apply cn_pI; intro y r; apply cn_pR; intro z r; exact cn_gd (hK _ _ _ _ _))
    | (apply cn_pJ; intro x r; apply cn_pI; intro y r; apply cn_pR; intro z r; exact cn_gd (hK _ _ _ _ _))
    | (apply cn_pR; intro x r; apply cn_pI; intro y r; apply cn_pR; intro z r; exact cn_gd (hK _ _ _ _ _))
    | (apply cn_pI; intro x r; apply cn_sw; intro t; exact hK _ _ _ _ _)
    | exact cn_gd (hK _ _ _ _ _)
    | exact cn_ca hC (fun st b S => hK _ _ _ _ _)
    | (split <;> first | exact hK _ _ _ _ _ | exact cn_none | exact cn_const | exact cn_ca hC (fun st b S => hK _ _ _ _ _) | (split <;> first | exact cn_const | exact cn_none))
    | (split <;> first | (apply cn_pI; intro x r; apply cn_pR; intro y r; exact cn_gd (hK _ _ _ _ _)) | (apply cn_pR; intro x r; exact cn_gd (hK _ _ _ _ _)))
    | (split <;> first | (apply cn_pR; intro x r; apply cn_bo; exact hK _ _ _ _ _) | exact cn_ca hC (fun st b S => hK _ _ _ _ _))
    | (apply cn_pR; intro x r; apply cn_gd; split <;> first | exact hK _ _ _ _ _ | (apply cn_nR; intro z; exact hK _ _ _ _ _) | (apply cn_nQ (fun z => hK _ _ _ _ _) (hK _ _ _ _ _)))
    | (apply cn_pI; intro x r; apply cn_pI; intro y r; apply cn_pR; intro z r; apply cn_gd; split <;> first | exact hK _ _ _ _ _ | exact cn_gd (hK _ _ _ _ _))
    | (split <;> first | (apply cn_pI; intro x r; apply cn_pR; intro y r; exact cn_gd (hK _ _ _ _ _)) | (apply cn_pJ; intro x r; apply cn_pR; intro y r; exact cn_gd (hK _ _ _ _ _)) | (apply cn_pR; intro x r; apply cn_pR; intro y r; exact cn_gd (hK _ _ _ _ _)) | (apply cn_pI; intro x r; apply cn_pR; intro y r; exact cn_gd (cn_gd (hK _ _ _ _ _))))
section
variable (cd : Nat → List aM) (ml : Nat → Nat) (mb : Nat → aB) (xt : aC)
/-- what a frame comes to -/
noncomputable def Amg (id : Nat) : aKt := fun k ls st b S => @dite aO (∃ r, ∃ n, ∀ m, n ≤ m → am cd ml mb xt m id k ls st b S = some r) (Classical.propDecidable _) (fun h => some h.choose) (fun _ => none)
noncomputable def Cag : aC := fun u as S => if u < 900 then bo_ (Nat.ble (cs_ as) (ml u)) (Amg cd ml mb xt u 0 (pd_ (ea_ as) (ml u)) [] (mb u) S) else xt u as S
theorem Amg_iff {id k : Nat} {ls : aL} {st : List Value} {b : aB} {S : aH} {r : Option Value × aH} : Amg cd ml mb xt id k ls st b S = some r ↔ ∃ n, ∀ m, n ≤ m → am cd ml mb xt m id k ls st b S = some r := by
  unfold Amg
  by_cases h : ∃ r, ∃ n, ∀ m, n ≤ m → am cd ml mb xt m id k ls st b S = some r
  · rw [dif_pos h]
    have hc := h.choose_spec
    constructor
    · intro e
      have e := Option.some.inj e
      rw [← e]; exact hc
    · intro ⟨n, hn⟩
      obtain ⟨n2, h2⟩ := hc
      have a1 := hn (n + n2) (by omega)
      have a2 := h2 (n + n2) (by omega)
      rw [a1] at a2
      rw [← Option.some.inj a2]
  · rw [dif_neg h]
    constructor
    · intro e; cases e
    · intro e; exact absurd ⟨r, e⟩ h
theorem Amg_cn (id k : Nat) (ls : aL) (st : List Value) (b : aB) (S : aH) : Cn (fun n => am cd ml mb xt n id k ls st b S) (Amg cd ml mb xt id k ls st b S) := fun r h => (Amg_iff cd ml mb xt).mp h
theorem Cag_cn (u : Nat) (as : List Value) (S : aH) : Cn (fun n => if u < 900 then bo_ (Nat.ble (cs_ as) (ml u)) (am cd ml mb xt n u 0 (pd_ (ea_ as) (ml u)) [] (mb u) S) else xt u as S) (Cag cd ml mb xt u as S) := by
  unfold Cag
  split
  · exact cn_bo (Amg_cn cd ml mb xt u 0 _ _ _ _)
  · exact cn_const
theorem Amg_step {id k : Nat} {ls : aL} {st : List Value} {b : aB} {S : aH} {r : Option Value × aH} {i : aM} (hi : cg_ (cd id) k = some i) (h : ex1 i k ls st b S (Amg cd ml mb xt id) (Cag cd ml mb xt) = some r) : Amg cd ml mb xt id k ls st b S = some r := by
  obtain ⟨n, hn⟩ := ex1_cn (Amg_cn cd ml mb xt id) (Cag_cn cd ml mb xt) r h
  refine (Amg_iff cd ml mb xt).mpr ⟨n + 1, fun m hm => ?_⟩
  obtain ⟨m, rfl⟩ : ∃ j, m = j + 1 := ⟨m - 1, by omega⟩
  simp only [am, hi]
  exact hn m (by omega)
theorem Amg_blk {id : Nat} {r : Option Value × aH} : ∀ (f k : Nat) (ls : aL) (st : List Value) (b : aB) (S : aH), blk (cd id) (Amg cd ml mb xt id) (Cag cd ml mb xt) f k ls st b S = some r → Amg cd ml mb xt id k ls st b S = some r
  | 0, k, ls, st, b, S, h => h
  | f + 1, k, ls, st, b, S, h => by
    unfold blk at h
    split at h
    · cases h
    · next i hi =>
      refine Amg_step cd ml mb xt hi ?_
      split at h
      · next hc =>
        obtain ⟨ins, ⟨u, v, w, z⟩, c, d, ts⟩ := i
        cases ins <;> first | (simp [ic_] at hc; done) | (simp only [ex1]; split <;> first | (simp [ic_] at hc; done) | exact h)
      · obtain ⟨n, hn⟩ := ex1_cn (i := i) (k := k) (ls := ls) (st := st) (b := b) (S := S) (Kq := fun _ => Amg cd ml mb xt id) (Cq := fun _ => Cag cd ml mb xt) (fun k ls st b S r h => ⟨0, fun _ _ => Amg_blk f k ls st b S h⟩) (fun u as S r h => ⟨0, fun _ _ => h⟩) r h
        exact hn n (Nat.le_refl n)
end
end
section
/-! the worlds of the abstract machine, as the kit's -/
def fv_ (S : aH) (a t j : Nat) : Value := match t with
  | 1 => .long (aJ S a j)
  | 2 => va_rf (aR S a j)
  | _ => .int (aI S a j)
def fl_ (S : aH) (a : Nat) : List Nat → Nat → List Value
  | [], _ => []
  | t :: r, j => fv_ S a t j :: fl_ S a r (j + 1)
def pF (cy : Nat → ClassId) (S : aH) (a : Nat) : va_E :=
  if aK S a < 12 then .inr (aK S a, fl_ S a (fT (aK S a)) 0)
  else if aK S a = 14 then .inl (cy 14, aN S a, .inr (.inl (aJ S a)))
  else if aK S a = 16 then .inl (cy 16, aN S a, .inr (.inr (.inr (.inr (aR S a)))))
  else .inl (cy (aK S a), aN S a, .inl (aI S a))
def tysA (cy : Nat → ClassId) : List (ClassId × FieldType) := [(cy 12, .byte), (cy 13, .int), (cy 14, .long), (cy 15, .boolean), (cy 16, .object RX9)]
def Wd (D : va_G) (cy : Nat → ClassId) (A : Nat → Prop) (S : aH) (H : Heap) : Prop := ∃ L : List Nat, (∀ a, a ∈ L ↔ aK S a < 17) ∧ va_P D vwCl (va_pl L (pF cy S)) H ∧ va_D A (va_pl L (pF cy S)) ∧ H.size = aZ S
theorem fl_get (S : aH) (a : Nat) : ∀ (ts : List Nat) (j k t : Nat), ts[k]? = some t → (fl_ S a ts j)[k]? = some (fv_ S a t (j + k))
  | [], _, _, _, h => by simp at h
  | x :: r, j, 0, t, h => by simp at h; subst h; simp [fl_]
  | x :: r, j, k + 1, t, h => by
    have := fl_get S a r (j + 1) k t (by simpa using h)
    simp only [fl_, List.getElem?_cons_succ, this]
    rw [show j + 1 + k = j + (k + 1) by omega]
theorem fl_len (S : aH) (a : Nat) : ∀ (ts : List Nat) (j : Nat), (fl_ S a ts j).length = ts.length
  | [], _ => rfl
  | _ :: r, j => by simp [fl_, fl_len S a r (j + 1)]
theorem fl_set {S S' : aH} {a : Nat} {v : Value} : ∀ (ts : List Nat) (j k : Nat), (∀ i t, ts[i]? = some t → i ≠ k → fv_ S' a t (j + i) = fv_ S a t (j + i)) → (∀ t, ts[k]? = some t → fv_ S' a t (j + k) = v) → (fl_ S a ts j).set k v = fl_ S' a ts j
  | [], _, _, _, _ => by simp [fl_]
  | x :: r, j, 0, h, h2 => by
    have e : fl_ S a r (j + 1) = fl_ S' a r (j + 1) := by
      apply List.ext_getElem?
      intro i
      by_cases hi : i < r.length
      · have hr : r[i]? = some r[i] := List.getElem?_eq_getElem hi
        rw [fl_get S a r (j + 1) i _ hr, fl_get S' a r (j + 1) i _ hr]
        have := h (i + 1) r[i] (by simpa using hr) (by omega)
        rw [show j + 1 + i = j + (i + 1) by omega, this]
      · rw [List.getElem?_eq_none (by rw [fl_len]; omega), List.getElem?_eq_none (by rw [fl_len]; omega)]
    simp only [fl_, List.set_cons_zero, e]
    rw [← h2 x (by simp)]; rfl
  | x :: r, j, k + 1, h, h2 => by
    have e := fl_set (S := S) (S' := S') (a := a) (v := v) r (j + 1) k (fun i t ht hi => by
      have := h (i + 1) t (by simpa using ht) (by omega)
      rw [show j + 1 + i = j + (i + 1) by omega]; exact this) (fun t ht => by
      have := h2 t (by simpa using ht)
      rw [show j + 1 + k = j + (k + 1) by omega]; exact this)
    simp only [fl_, List.set_cons_succ, e]
    have := h 0 x (by simp) (by omega)
    rw [show j + 0 = j by omega] at this
    rw [this]
theorem pF_obj {cy : Nat → ClassId} {S : aH} {a u : Nat} (h : aK S a = u) (hu : u < 12) : pF cy S a = .inr (u, fl_ S a (fT u) 0) := by
  unfold pF; rw [h, if_pos hu]
theorem pF_I {cy : Nat → ClassId} {S : aH} {a u : Nat} (h : aK S a = u) (hu : u = 12 ∨ u = 13 ∨ u = 15) : pF cy S a = .inl (cy u, aN S a, .inl (aI S a)) := by
  unfold pF; rcases hu with rfl | rfl | rfl <;> rw [h] <;> rfl
theorem pF_J {cy : Nat → ClassId} {S : aH} {a : Nat} (h : aK S a = 14) : pF cy S a = .inl (cy 14, aN S a, .inr (.inl (aJ S a))) := by
  unfold pF; rw [h]; rfl
theorem pF_R {cy : Nat → ClassId} {S : aH} {a : Nat} (h : aK S a = 16) : pF cy S a = .inl (cy 16, aN S a, .inr (.inr (.inr (.inr (aR S a))))) := by
  unfold pF; rw [h]; rfl
theorem fl_same {S S' : aH} {a : Nat} (hI : aI S' a = aI S a) (hJ : aJ S' a = aJ S a) (hR : aR S' a = aR S a) : ∀ (ts : List Nat) (j : Nat), fl_ S' a ts j = fl_ S a ts j
  | [], _ => rfl
  | t :: r, j => by
    simp only [fl_, fl_same hI hJ hR r (j + 1)]
    unfold fv_; rw [hI, hJ, hR]
theorem pF_same {cy : Nat → ClassId} {S S' : aH} {b : Nat} (hK : aK S' b = aK S b) (hN : aN S' b = aN S b) (hI : aI S' b = aI S b) (hJ : aJ S' b = aJ S b) (hR : aR S' b = aR S b) : pF cy S' b = pF cy S b := by
  unfold pF; rw [hK, hN, hI, hJ, hR, fl_same hI hJ hR]
-- what a write changes
theorem wI_K (S : aH) (a k : Nat) (v : Int32) : aK (wI S a k v) = aK S := rfl
theorem wI_N (S : aH) (a k : Nat) (v : Int32) : aN (wI S a k v) = aN S := rfl
theorem wI_J (S : aH) (a k : Nat) (v : Int32) : aJ (wI S a k v) = aJ S := rfl
theorem wI_R (S : aH) (a k : Nat) (v : Int32) : aR (wI S a k v) = aR S := rfl
theorem wI_Z (S : aH) (a k : Nat) (v : Int32) : aZ (wI S a k v) = aZ S := rfl
theorem wI_G (S : aH) (a k : Nat) (v : Int32) : aG (wI S a k v) = aG S := rfl
theorem wI_I (S : aH) (a k : Nat) (v : Int32) (b j : Nat) : aI (wI S a k v) b j = if b = a then (if j = k then v else aI S b j) else aI S b j := rfl
theorem wJ_K (S : aH) (a k : Nat) (v : Int64) : aK (wJ S a k v) = aK S := rfl
theorem wJ_N (S : aH) (a k : Nat) (v : Int64) : aN (wJ S a k v) = aN S := rfl
theorem wJ_I (S : aH) (a k : Nat) (v : Int64) : aI (wJ S a k v) = aI S := rfl
theorem wJ_R (S : aH) (a k : Nat) (v : Int64) : aR (wJ S a k v) = aR S := rfl
theorem wJ_Z (S : aH) (a k : Nat) (v : Int64) : aZ (wJ S a k v) = aZ S := rfl
theorem wJ_G (S : aH) (a k : Nat) (v : Int64) : aG (wJ S a k v) = aG S := rfl
theorem wJ_J (S : aH) (a k : Nat) (v : Int64) (b j : Nat) : aJ (wJ S a k v) b j = if b = a then (if j = k then v else aJ S b j) else aJ S b j := rfl
theorem wR_K (S : aH) (a k : Nat) (v : Option Nat) : aK (wR S a k v) = aK S := rfl
theorem wR_N (S : aH) (a k : Nat) (v : Option Nat) : aN (wR S a k v) = aN S := rfl
theorem wR_I (S : aH) (a k : Nat) (v : Option Nat) : aI (wR S a k v) = aI S := rfl
theorem wR_J (S : aH) (a k : Nat) (v : Option Nat) : aJ (wR S a k v) = aJ S := rfl
theorem wR_Z (S : aH) (a k : Nat) (v : Option Nat) : aZ (wR S a k v) = aZ S := rfl
theorem wR_G (S : aH) (a k : Nat) (v : Option Nat) : aG (wR S a k v) = aG S := rfl
theorem wR_R (S : aH) (a k : Nat) (v : Option Nat) (b j : Nat) : aR (wR S a k v) b j = if b = a then (if j = k then v else aR S b j) else aR S b j := rfl
theorem pF_wI {cy : Nat → ClassId} {S : aH} {a u k ty : Nat} {x : Int32} (h : aK S a = u) (hu : u < 12) (hty : (fT u)[k]? = some ty) (h0 : ty ≠ 1) (h2 : ty ≠ 2) (b : Nat) : va_up (pF cy S) a (.inr (u, (fl_ S a (fT u) 0).set k (.int x))) b = pF cy (wI S a k x) b := by
  by_cases hb : b = a
  · subst hb
    rw [va_up_self, pF_obj (S := wI S b k x) (u := u) h hu]
    congr 2
    refine fl_set (fT u) 0 k (fun i t ht hi => ?_) (fun t ht => ?_)
    · unfold fv_; rw [wI_J, wI_R, wI_I, if_pos rfl, if_neg (by omega)]
    · rw [hty] at ht; cases ht
      unfold fv_
      split
      · contradiction
      · contradiction
      · rw [wI_I, if_pos rfl, if_pos (by omega)]
  · rw [va_up_ne _ _ hb]
    refine (pF_same (S := S) (S' := wI S a k x) rfl rfl ?_ rfl rfl).symm
    funext j; rw [wI_I, if_neg hb]
theorem pF_wJ {cy : Nat → ClassId} {S : aH} {a u k : Nat} {x : Int64} (h : aK S a = u) (hu : u < 12) (hty : (fT u)[k]? = some 1) (b : Nat) : va_up (pF cy S) a (.inr (u, (fl_ S a (fT u) 0).set k (.long x))) b = pF cy (wJ S a k x) b := by
  by_cases hb : b = a
  · subst hb
    rw [va_up_self, pF_obj (S := wJ S b k x) (u := u) h hu]
    congr 2
    refine fl_set (fT u) 0 k (fun i t ht hi => ?_) (fun t ht => ?_)
    · unfold fv_; rw [wJ_I, wJ_R, wJ_J, if_pos rfl, if_neg (by omega)]
    · rw [hty] at ht; cases ht
      show Value.long _ = _
      rw [wJ_J, if_pos rfl, if_pos (by omega)]
  · rw [va_up_ne _ _ hb]
    refine (pF_same (S := S) (S' := wJ S a k x) rfl rfl rfl ?_ rfl).symm
    funext j; rw [wJ_J, if_neg hb]
theorem pF_wR {cy : Nat → ClassId} {S : aH} {a u k x : Nat} (h : aK S a = u) (hu : u < 12) (hty : (fT u)[k]? = some 2) (b : Nat) : va_up (pF cy S) a (.inr (u, (fl_ S a (fT u) 0).set k (.ref x))) b = pF cy (wR S a k (some x)) b := by
  by_cases hb : b = a
  · subst hb
    rw [va_up_self, pF_obj (S := wR S b k (some x)) (u := u) h hu]
    congr 2
    refine fl_set (fT u) 0 k (fun i t ht hi => ?_) (fun t ht => ?_)
    · unfold fv_; rw [wR_I, wR_J, wR_R, if_pos rfl, if_neg (by omega)]
    · rw [hty] at ht; cases ht
      show va_rf _ = _
      rw [wR_R, if_pos rfl, if_pos (by omega)]; rfl
  · rw [va_up_ne _ _ hb]
    refine (pF_same (S := S) (S' := wR S a k (some x)) rfl rfl rfl rfl ?_).symm
    funext j; rw [wR_R, if_neg hb]
theorem pF_aI {cy : Nat → ClassId} {S : aH} {a u k : Nat} {x : Int32} (h : aK S a = u) (hu : u = 12 ∨ u = 13 ∨ u = 15) (b : Nat) : va_up (pF cy S) a (.inl (cy u, aN S a, .inl (upd (aI S a) k x))) b = pF cy (wI S a k x) b := by
  by_cases hb : b = a
  · subst hb
    rw [va_up_self, pF_I (S := wI S b k x) (u := u) h hu]
    have e : aI (wI S b k x) b = upd (aI S b) k x := by
      funext j; rw [wI_I, if_pos rfl]; rfl
    rw [e]; rfl
  · rw [va_up_ne _ _ hb]
    refine (pF_same (S := S) (S' := wI S a k x) rfl rfl ?_ rfl rfl).symm
    funext j; rw [wI_I, if_neg hb]
theorem pF_aJ {cy : Nat → ClassId} {S : aH} {a k : Nat} {x : Int64} (h : aK S a = 14) (b : Nat) : va_up (pF cy S) a (.inl (cy 14, aN S a, .inr (.inl (vp_updL (aJ S a) k x)))) b = pF cy (wJ S a k x) b := by
  by_cases hb : b = a
  · subst hb
    rw [va_up_self, pF_J (S := wJ S b k x) h]
    have e : aJ (wJ S b k x) b = vp_updL (aJ S b) k x := by
      funext j; rw [wJ_J, if_pos rfl]; rfl
    rw [e]; rfl
  · rw [va_up_ne _ _ hb]
    refine (pF_same (S := S) (S' := wJ S a k x) rfl rfl rfl ?_ rfl).symm
    funext j; rw [wJ_J, if_neg hb]
theorem pF_aR {cy : Nat → ClassId} {S : aH} {a k x : Nat} (h : aK S a = 16) (b : Nat) : va_up (pF cy S) a (.inl (cy 16, aN S a, .inr (.inr (.inr (.inr (va_up (aR S a) k (some x))))))) b = pF cy (wR S a k (some x)) b := by
  by_cases hb : b = a
  · subst hb
    rw [va_up_self, pF_R (S := wR S b k (some x)) h]
    have e : aR (wR S b k (some x)) b = va_up (aR S b) k (some x) := by
      funext j; rw [wR_R, if_pos rfl]; rfl
    rw [e]; rfl
  · rw [va_up_ne _ _ hb]
    refine (pF_same (S := S) (S' := wR S a k (some x)) rfl rfl rfl rfl ?_).symm
    funext j; rw [wR_R, if_neg hb]
theorem Wd.weaken {D : va_G} {cy : Nat → ClassId} {A B : Nat → Prop} {S : aH} {H : Heap} (h : Wd D cy A S H) (hAB : ∀ q, A q → B q) : Wd D cy B S H := by
  obtain ⟨L, h1, h2, h3, h4⟩ := h
  exact ⟨L, h1, h2, h3.weaken (fun _ q _ => hAB q.1), h4⟩
theorem Wd.at {D : va_G} {cy : Nat → ClassId} {A : Nat → Prop} {S : aH} {H : Heap} {L : List Nat} (h1 : ∀ a, a ∈ L ↔ aK S a < 17) {a : Nat} (ha : aK S a < 17) : ∃ k : Nat, (va_pl L (pF cy S))[k]? = some (a, pF cy S a) := va_pl_get (X := []) ((h1 a).mpr ha)
/-- behind a write -/
theorem Wd.put {D : va_G} {cy : Nat → ClassId} {A : Nat → Prop} {S S' : aH} {H H1 : Heap} {L : List Nat} (h1 : ∀ a, a ∈ L ↔ aK S a < 17) (hD0 : va_D A (va_pl L (pF cy S))) (hz : H.size = aZ S) {a k : Nat} {e : va_E} (ha : aK S a < 17) (hk : (va_pl L (pF cy S))[k]? = some (a, pF cy S a)) (he : ∀ b, va_up (pF cy S) a e b = pF cy S' b) (hK : aK S' = aK S) (hZ : aZ S' = aZ S)
    (hP : va_P D vwCl ((va_pl L (pF cy S)).set k (a, e)) H1) (hD : va_D A ((va_pl L (pF cy S)).set k (a, e))) (hs : H1.size = H.size) : Wd D cy A S' H1 := by
  have e1 : (va_pl L (pF cy S)).set k (a, e) = va_pl L (pF cy S') := (va_pl_set (X := []) hD0 ((h1 a).mpr ha) hk).trans (va_pl_congr he)
  rw [e1] at hP hD
  exact ⟨L, fun b => by rw [hK]; exact h1 b, hP, hD, by rw [hs, hz, hZ]⟩
end
section
/-! rows of the machine over the worlds -/
theorem clX_at {u : Nat} (hu : u < 12) : vwCl[u]? = some (clX u) := by
  unfold clX
  rw [List.getD_eq_getElem?_getD, List.getElem?_eq_getElem (by exact hu)]
  rfl
theorem fT_len : ∀ u, u < 12 → (fT u).length = (clX u).2.2 := by decide +kernel
theorem fT_lt {u v t : Nat} (h : (fT u)[v]? = some t) : u < 12 := by
  refine Nat.lt_of_not_le fun q => ?_
  unfold fT at h
  rw [List.getD_eq_getElem?_getD, List.getElem?_eq_none (l := fTL) (i := u) q] at h
  simp at h
def clTy (u : Nat) : Nat → FieldType := match u with
  | 0 => tyX1 | 1 => tyX2 | 2 => tyX3 | 3 => tyX4 | 4 => tyX5 | 5 => tyX6 | 6 => tyX7 | 7 => tyX8 | 8 => tyX9 | 9 => tyX10 | 10 => tyX11 | _ => tyX12
theorem clTy_ok : ∀ u, u < 12 → ∀ k, k < (clX u).2.2 → parseFieldDescriptor ((clX u).2.1 k).2.2.1 = some (clTy u k) := by decide +kernel
theorem clNm : ∀ u, u < 12 → ∀ a, a < (clX u).2.2 → ∀ b, b < (clX u).2.2 → a ≠ b → ((clX u).2.1 a).2.1 ≠ ((clX u).2.1 b).2.1 := by decide +kernel
/-- a field's type code, by its type -/
def cdT (t : FieldType) : Nat := match t with
  | .long => 1
  | .boolean => 4
  | .int => 0
  | .byte => 0
  | _ => 2
theorem clTy_cd : ∀ u, u < 12 → ∀ k, k < (clX u).2.2 → (fT u)[k]? = some (cdT (clTy u k)) ∧ clTy u k ≠ .byte ∧ clTy u k ≠ .float ∧ clTy u k ≠ .double ∧ clTy u k ≠ .char ∧ clTy u k ≠ .short := by decide +kernel
section XR
variable {p : Program} {l : Launch} {e : Env} {R : Room} {s : State} {m : MethodId} {args : Array Value} {below : List Frame} {meth : Method} {c : Code} {H : Heap} {locs : List Loc} {cells slots : Nat} {Q : State → Prop}
variable {cc : ByteArray} {pc : Nat} {ls : Array Slot} {rest : List Value} {D : va_G} {cy : Nat → ClassId} {A : Nat → Prop} {H0 : Heap} {S : aH} {own : String}
/-- a field's link: plain, or a nest mate's -/
def flk (args : Array Value) (s : State) (own : String) (index u v : Nat) : Prop := (Cond.fieldLink own index ((clX u).2.1 v).1 ((clX u).2.1 v).2.1 ((clX u).2.1 v).2.2.1).before args s = true ∨ ∃ host, (Cond.fieldLinkNest own index ((clX u).2.1 v).1 ((clX u).2.1 v).2.1 ((clX u).2.1 v).2.2.1 host).before args s = true
theorem x_get (hx : p.tables.exec = Jvm.exec) (hb : c.code = cc) (hts : ∀ w ∈ wsG, w.before args s = true) (hin : ∀ u, u < 12 → ∀ w ∈ u_ws (clX u).1 (clX u).2.1 (clX u).2.2, w ∈ wsG) (hown : s.vm.findClass own = some m.cls) (hK : va_K D vwCl (tysA cy) s) (hW : Wd D cy A S H) {a u v t index : Nat} (ha : aK S a = u) (ht : (fT u)[v]? = some t) (hl : flk args s own index u v) (hdg : decode cc pc = .ok (.getfield index, 3))
    (kk : W p l e R s m args below meth c H locs cells slots Q (F0 m (pc + 3) ls (fv_ S a t v :: rest))) : W p l e R s m args below meth c H locs cells slots Q (F0 m pc ls (.ref a :: rest)) := by
  have hu := fT_lt ht
  have hv : v < (clX u).2.2 := by rw [← fT_len u hu]; exact (List.getElem?_eq_some_iff.mp ht).1
  obtain ⟨L, h1, hP, hD, -⟩ := hW
  obtain ⟨k, hk⟩ := Wd.at (D := D) (A := A) (H := H) (cy := cy) h1 (a := a) (by omega)
  rw [pF_obj ha hu] at hk
  have hf : (fl_ S a (fT u) 0)[v]? = some (fv_ S a t v) := by
    have := fl_get S a (fT u) 0 v t ht
    rwa [Nat.zero_add] at this
  rcases hl with hl | ⟨host, hl⟩
  · exact va_get (C := (clX u).1) (T := (clX u).2.1) (N := (clX u).2.2) hx hb hts (hin u hu) hown hK hP k hk (clX_at hu) v hv hl (fun _ h => h) hf hdg kk
  · exact va_getN (C := (clX u).1) (T := (clX u).2.1) (N := (clX u).2.2) hx hb hts (hin u hu) hown hK hP k hk (clX_at hu) v hv hl (fun _ h => h) hf hdg kk
theorem x_put (hx : p.tables.exec = Jvm.exec) (hb : c.code = cc) (hts : ∀ w ∈ wsG, w.before args s = true) (hin : ∀ u, u < 12 → ∀ w ∈ u_ws (clX u).1 (clX u).2.1 (clX u).2.2, w ∈ wsG) (hown : s.vm.findClass own = some m.cls) (hK : va_K D vwCl (tysA cy) s) (hW : Wd D cy A S H) (hS : va_S A H0 H locs) {a u v index : Nat} {val : Value} {S' : aH} (ha : aK S a = u) (hu : u < 12) (hv : v < (clX u).2.2)
    (hl : (Cond.fieldLink own index ((clX u).2.1 v).1 ((clX u).2.1 v).2.1 ((clX u).2.1 v).2.2.1).before args s = true ∨ (((clX u).2.1 v).2.2.2 = false ∧ ∃ host, (Cond.fieldLinkNest own index ((clX u).2.1 v).1 ((clX u).2.1 v).2.1 ((clX u).2.1 v).2.2.1 host).before args s = true)) (hfin : ((clX u).2.1 v).2.2.2 = false ∨ (meth.name = "<init>" ∧ ((clX u).2.1 v).1 = own))
    (hn : narrow (clTy u v) val = val) (hfit : fits (clTy u v) val = true) (he : ∀ b, va_up (pF cy S) a (.inr (u, (fl_ S a (fT u) 0).set v val)) b = pF cy S' b) (hKe : aK S' = aK S) (hZe : aZ S' = aZ S) (hdg : decode cc pc = .ok (.putfield index, 3))
    (kk : ∀ (H1 : Heap) (locs1 : List Loc), Wd D cy A S' H1 → va_S A H0 H1 locs1 → W p l e R s m args below meth c H1 locs1 cells slots Q (F0 m (pc + 3) ls rest)) : W p l e R s m args below meth c H locs cells slots Q (F0 m pc ls (val :: .ref a :: rest)) := by
  obtain ⟨L, h1, hP, hD, hz⟩ := hW
  obtain ⟨k0, hk⟩ := Wd.at (D := D) (A := A) (H := H) (cy := cy) h1 (a := a) (by omega)
  have hk2 := hk
  rw [pF_obj ha hu] at hk2
  have hc := clX_at hu
  have hap := va_apart (own := own) hts (hin u hu) (clTy u) (clTy_ok u hu) (clNm u hu) hK hc
  obtain ⟨r, g1, cell, q1, q2, q3, q4⟩ := hP k0 _ hk2
  have hr : r = clX u := Option.some.inj (g1.symm.trans hc)
  subst hr
  obtain ⟨hSl, hfc, kC, hkC, hkind⟩ := hK.1 u _ hc
  obtain ⟨cf, kf, fi, f, hi, hsl⟩ := hSl v hv
  have hst := (u_facts hfc hkC (u_lays hts (hin u hu) hv) hi).1
  have hlay := hts _ (hin u hu _ (u_in_lay hv))
  have hlen : v < (fl_ S a (fT u) 0).length := by rw [fl_len, fT_len u hu]; exact hv
  have fin : ∀ H' : Heap, H'[a]? = some (cell.setSlot f.slot val) → H'.size = H.size → (∀ q, q ≠ a → H'[q]? = H[q]?) → W p l e R s m args below meth c H' (locs ++ [⟨a, f.slot⟩]) cells slots Q (F0 m (pc + 3) ls rest) := by
    intro H' e1 e2 e3
    rw [hsl] at e1
    refine kk H' _ (Wd.put h1 hD hz (by omega) hk he hKe hZe (hP.set hD hk ⟨_, hc, t_OB.to (V := updV (vp_V (fl_ S a (fT u) 0)) v val) ⟨_, e1, q2, q3, t_set q4 hap hv val⟩ (fun j _ => vp_updV_set hlen val j)⟩ e3) (hD.set hk) e2) ?_
    exact hS.put e2 e3 (hD.2 k0 _ hk)
  have hlt : f.slot < cell.slots.size := by rw [hsl]; exact k2_hasslot (q4 v hv)
  by_cases hf : ((clX u).2.1 v).2.2.2 = false
  · unfold u_lay at hlay
    rw [if_neg (by rw [hf]; decide)] at hlay
    have h6 := u_store hfc hkC hkind hlay hi (clTy_ok u hu v hv) hn hfit
    rcases hl with hl | ⟨-, host, hl⟩
    · exact W.putK hx hb (f := f) ⟨hown, hl, ⟨_, _, _, hi⟩, hst⟩ (by rw [q2]; exact h6) q1 q3 hlt rfl rfl hdg fin
    · exact va_WputK hx hb (f := f) hown hl hi hst (by rw [q2]; exact h6) q1 q3 hlt rfl rfl hdg fin
  · have hft : ((clX u).2.1 v).2.2.2 = true := by simpa using hf
    obtain ⟨hnm, hdecl⟩ := hfin.resolve_left hf
    have hl := hl.resolve_right (fun q => hf q.1)
    unfold u_lay at hlay
    rw [if_pos hft] at hlay
    have hcf : m.cls = cf := by
      obtain ⟨_, _, c', _, _, _, -, -, hf', -, -, -, hown2, -⟩ := Cond.laysFinal_spec hlay
      have e1 : c' = cf := by have := hi.symm.trans hf'; simp at this; exact this.1.symm
      rw [hdecl] at hown2
      rw [← e1]; exact Option.some.inj (hown.symm.trans hown2)
    have h6 := u_fits hfc hkC hkind (Or.inr hlay) hi (clTy_ok u hu v hv) hn hfit
    exact W.putFinK hx hb hown hl hi hst hcf hnm (by rw [q2]; exact h6) q1 q3 hlt rfl rfl hdg fin
end XR
end
section
section XA
variable {p : Program} {l : Launch} {e : Env} {R : Room} {s : State} {m : MethodId} {args : Array Value} {below : List Frame} {meth : Method} {c : Code} {H : Heap} {locs : List Loc} {cells slots : Nat} {Q : State → Prop}
variable {cc : ByteArray} {pc : Nat} {ls : Array Slot} {rest : List Value} {D : va_G} {cy : Nat → ClassId} {A : Nat → Prop} {H0 : Heap} {S : aH} {a : Nat} {i : Int32}
theorem x_iald (hx : p.tables.exec = Jvm.exec) (hb : c.code = cc) (hK : va_K D vwCl (tysA cy) s) (hW : Wd D cy A S H) (ha : aK S a = 13) (hi : ix_ i (aN S a)) (hdg : decode cc pc = .ok (.iaload, 1))
    (kk : W p l e R s m args below meth c H locs cells slots Q (F0 m (pc + 1) ls (.int (aI S a i.toNatClampNeg) :: rest))) : W p l e R s m args below meth c H locs cells slots Q (F0 m pc ls (.int i :: .ref a :: rest)) := by
  obtain ⟨L, h1, hP, hD, -⟩ := hW
  obtain ⟨k, hk⟩ := Wd.at (D := D) (A := A) (H := H) (cy := cy) h1 (a := a) (by omega)
  rw [pF_I ha (by omega)] at hk
  exact va_iald hx hb hK hP k 1 hk rfl hi hdg kk
theorem x_bald (hx : p.tables.exec = Jvm.exec) (hb : c.code = cc) (hK : va_K D vwCl (tysA cy) s) (hW : Wd D cy A S H) {u : Nat} (ha : aK S a = u) (hu : u = 12 ∨ u = 15) (hi : ix_ i (aN S a)) (hdg : decode cc pc = .ok (.baload, 1))
    (kk : W p l e R s m args below meth c H locs cells slots Q (F0 m (pc + 1) ls (.int (aI S a i.toNatClampNeg) :: rest))) : W p l e R s m args below meth c H locs cells slots Q (F0 m pc ls (.int i :: .ref a :: rest)) := by
  obtain ⟨L, h1, hP, hD, -⟩ := hW
  obtain ⟨k, hk⟩ := Wd.at (D := D) (A := A) (H := H) (cy := cy) h1 (a := a) (by omega)
  rw [pF_I ha (by omega)] at hk
  rcases hu with rfl | rfl
  · exact va_bald hx hb hK hP k 0 hk rfl hi hdg kk
  · exact va_zald hx hb hK hP k 3 hk rfl hi hdg kk
theorem x_lald (hx : p.tables.exec = Jvm.exec) (hb : c.code = cc) (hK : va_K D vwCl (tysA cy) s) (hW : Wd D cy A S H) (ha : aK S a = 14) (hi : ix_ i (aN S a)) (hdg : decode cc pc = .ok (.laload, 1))
    (kk : W p l e R s m args below meth c H locs cells slots Q (F0 m (pc + 1) ls (.long (aJ S a i.toNatClampNeg) :: rest))) : W p l e R s m args below meth c H locs cells slots Q (F0 m pc ls (.int i :: .ref a :: rest)) := by
  obtain ⟨L, h1, hP, hD, -⟩ := hW
  obtain ⟨k, hk⟩ := Wd.at (D := D) (A := A) (H := H) (cy := cy) h1 (a := a) (by omega)
  rw [pF_J ha] at hk
  exact va_lald hx hb hK hP k 2 hk rfl hi hdg kk
theorem x_aald (hx : p.tables.exec = Jvm.exec) (hb : c.code = cc) (hK : va_K D vwCl (tysA cy) s) (hW : Wd D cy A S H) (ha : aK S a = 16) (hi : ix_ i (aN S a)) {y : Nat} (hy : aR S a i.toNatClampNeg = some y) (hdg : decode cc pc = .ok (.aaload, 1))
    (kk : W p l e R s m args below meth c H locs cells slots Q (F0 m (pc + 1) ls (.ref y :: rest))) : W p l e R s m args below meth c H locs cells slots Q (F0 m pc ls (.int i :: .ref a :: rest)) := by
  obtain ⟨L, h1, hP, hD, -⟩ := hW
  obtain ⟨k, hk⟩ := Wd.at (D := D) (A := A) (H := H) (cy := cy) h1 (a := a) (by omega)
  rw [pF_R ha] at hk
  refine va_aldq (C := RX9) hx hb hK hP k 4 hk rfl hi hdg ?_
  rw [hy]; exact kk
theorem x_alen (hx : p.tables.exec = Jvm.exec) (hb : c.code = cc) (hK : va_K D vwCl (tysA cy) s) (hW : Wd D cy A S H) (h12 : 12 ≤ aK S a) (h16 : aK S a ≤ 16) (hdg : decode cc pc = .ok (.arraylength, 1))
    (kk : W p l e R s m args below meth c H locs cells slots Q (F0 m (pc + 1) ls (.int (Int32.ofNat (aN S a)) :: rest))) : W p l e R s m args below meth c H locs cells slots Q (F0 m pc ls (.ref a :: rest)) := by
  obtain ⟨L, h1, hP, hD, -⟩ := hW
  obtain ⟨k, hk⟩ := Wd.at (D := D) (A := A) (H := H) (cy := cy) h1 (a := a) (by omega)
  rcases (show aK S a = 12 ∨ aK S a = 13 ∨ aK S a = 14 ∨ aK S a = 15 ∨ aK S a = 16 by omega) with h | h | h | h | h
  · rw [pF_I h (by omega)] at hk; exact va_alen hx hb hK hP k 0 hk rfl rfl hdg kk
  · rw [pF_I h (by omega)] at hk; exact va_alen hx hb hK hP k 1 hk rfl rfl hdg kk
  · rw [pF_J h] at hk; exact va_alen hx hb hK hP k 2 hk rfl rfl hdg kk
  · rw [pF_I h (by omega)] at hk; exact va_alen hx hb hK hP k 3 hk rfl rfl hdg kk
  · rw [pF_R h] at hk; exact va_alen hx hb hK hP k 4 hk rfl rfl hdg kk
theorem x_iast (hx : p.tables.exec = Jvm.exec) (hb : c.code = cc) (hK : va_K D vwCl (tysA cy) s) (hW : Wd D cy A S H) (hS : va_S A H0 H locs) (ha : aK S a = 13) (hi : ix_ i (aN S a)) {x : Int32} (hdg : decode cc pc = .ok (.iastore, 1))
    (kk : ∀ (H1 : Heap) (locs1 : List Loc), Wd D cy A (wI S a i.toNatClampNeg x) H1 → va_S A H0 H1 locs1 → W p l e R s m args below meth c H1 locs1 cells slots Q (F0 m (pc + 1) ls rest)) : W p l e R s m args below meth c H locs cells slots Q (F0 m pc ls (.int x :: .int i :: .ref a :: rest)) := by
  obtain ⟨L, h1, hP, hD, hz⟩ := hW
  obtain ⟨k, hk⟩ := Wd.at (D := D) (A := A) (H := H) (cy := cy) h1 (a := a) (by omega)
  have hk2 := hk
  rw [pF_I ha (by omega)] at hk2
  refine W.iast hx hb (hP k _ hk2) ((hK.2 1 _ rfl).1 _ (fun j => .int (aI S a j))) (fun q => by cases q) (by show ¬ (i < 0 ∨ (arrV _ _ _).slots.size ≤ _); rw [arrV_size]; exact hi) rfl rfl hdg fun H1 e1 z oq => ?_
  refine kk H1 _ (Wd.put h1 hD hz (by omega) hk (pF_aI ha (by omega)) rfl rfl (hP.set hD hk ?_ oq) (hD.set hk) z) (hS.put z oq (hD.2 k _ hk2))
  show H1[a]? = some (vp_cell _ _)
  rw [e1, vp_cell_i, vp_cell_i, arrV_store]
  congr 2
  funext q
  by_cases hq : q = i.toNatClampNeg
  · subst hq; simp [updV, upd]
  · simp [updV, upd, hq]
theorem x_bast (hx : p.tables.exec = Jvm.exec) (hb : c.code = cc) (hK : va_K D vwCl (tysA cy) s) (hW : Wd D cy A S H) (hS : va_S A H0 H locs) (ha : aK S a = 12) (hi : ix_ i (aN S a)) {x : Int32} (hdg : decode cc pc = .ok (.bastore, 1))
    (kk : ∀ (H1 : Heap) (locs1 : List Loc), Wd D cy A (wI S a i.toNatClampNeg x.toInt8.toInt32) H1 → va_S A H0 H1 locs1 → W p l e R s m args below meth c H1 locs1 cells slots Q (F0 m (pc + 1) ls rest)) : W p l e R s m args below meth c H locs cells slots Q (F0 m pc ls (.int x :: .int i :: .ref a :: rest)) := by
  obtain ⟨L, h1, hP, hD, hz⟩ := hW
  obtain ⟨k, hk⟩ := Wd.at (D := D) (A := A) (H := H) (cy := cy) h1 (a := a) (by omega)
  have hk2 := hk
  rw [pF_I ha (by omega)] at hk2
  refine W.bast hx hb (hP k _ hk2) ((hK.2 0 _ rfl).1 _ (fun j => .int (aI S a j))) (fun q => by cases q) (by show ¬ (i < 0 ∨ (arrV _ _ _).slots.size ≤ _); rw [arrV_size]; exact hi) rfl rfl hdg fun H1 e1 z oq => ?_
  refine kk H1 _ (Wd.put h1 hD hz (by omega) hk (pF_aI ha (by omega)) rfl rfl (hP.set hD hk ?_ oq) (hD.set hk) z) (hS.put z oq (hD.2 k _ hk2))
  show H1[a]? = some (vp_cell _ _)
  rw [e1, vp_cell_i, vp_cell_i, arrV_store]
  congr 2
  funext q
  by_cases hq : q = i.toNatClampNeg
  · subst hq; simp [updV, upd, narrow]
  · simp [updV, upd, hq]
theorem x_zast (hx : p.tables.exec = Jvm.exec) (hb : c.code = cc) (hK : va_K D vwCl (tysA cy) s) (hW : Wd D cy A S H) (hS : va_S A H0 H locs) (ha : aK S a = 15) (hi : ix_ i (aN S a)) {x : Int32} (h01 : x = 0 ∨ x = 1) (hdg : decode cc pc = .ok (.bastore, 1))
    (kk : ∀ (H1 : Heap) (locs1 : List Loc), Wd D cy A (wI S a i.toNatClampNeg x) H1 → va_S A H0 H1 locs1 → W p l e R s m args below meth c H1 locs1 cells slots Q (F0 m (pc + 1) ls rest)) : W p l e R s m args below meth c H locs cells slots Q (F0 m pc ls (.int x :: .int i :: .ref a :: rest)) := by
  obtain ⟨L, h1, hP, hD, hz⟩ := hW
  obtain ⟨k, hk⟩ := Wd.at (D := D) (A := A) (H := H) (cy := cy) h1 (a := a) (by omega)
  have hk2 := hk
  rw [pF_I ha (by omega)] at hk2
  refine W.zast hx hb (hP k _ hk2) ((hK.2 3 _ rfl).1 _ (fun j => .int (aI S a j))) (fun q => by cases q) (by show ¬ (i < 0 ∨ (arrV _ _ _).slots.size ≤ _); rw [arrV_size]; exact hi) rfl rfl hdg fun H1 e1 z oq => ?_
  refine kk H1 _ (Wd.put h1 hD hz (by omega) hk (pF_aI ha (by omega)) rfl rfl (hP.set hD hk ?_ oq) (hD.set hk) z) (hS.put z oq (hD.2 k _ hk2))
  show H1[a]? = some (vp_cell _ _)
  rw [e1, vp_cell_i, vp_cell_i, arrV_store]
  congr 2
  funext q
  by_cases hq : q = i.toNatClampNeg
  · subst hq; rcases h01 with rfl | rfl <;> simp [updV, upd] <;> rfl
  · simp [updV, upd, hq]
theorem x_last (hx : p.tables.exec = Jvm.exec) (hb : c.code = cc) (hK : va_K D vwCl (tysA cy) s) (hW : Wd D cy A S H) (hS : va_S A H0 H locs) (ha : aK S a = 14) (hi : ix_ i (aN S a)) {x : Int64} (hdg : decode cc pc = .ok (.lastore, 1))
    (kk : ∀ (H1 : Heap) (locs1 : List Loc), Wd D cy A (wJ S a i.toNatClampNeg x) H1 → va_S A H0 H1 locs1 → W p l e R s m args below meth c H1 locs1 cells slots Q (F0 m (pc + 1) ls rest)) : W p l e R s m args below meth c H locs cells slots Q (F0 m pc ls (.long x :: .int i :: .ref a :: rest)) := by
  obtain ⟨L, h1, hP, hD, hz⟩ := hW
  obtain ⟨k, hk⟩ := Wd.at (D := D) (A := A) (H := H) (cy := cy) h1 (a := a) (by omega)
  have hk2 := hk
  rw [pF_J ha] at hk2
  refine W.last hx hb (hP k _ hk2) ((hK.2 2 _ rfl).1 _ (fun j => .long (aJ S a j))) (fun q => by cases q) (by show ¬ (i < 0 ∨ (arrV _ _ _).slots.size ≤ _); rw [arrV_size]; exact hi) rfl rfl hdg fun H1 e1 z oq => ?_
  refine kk H1 _ (Wd.put h1 hD hz (by omega) hk (pF_aJ ha) rfl rfl (hP.set hD hk ?_ oq) (hD.set hk) z) (hS.put z oq (hD.2 k _ hk2))
  show H1[a]? = some (vp_cell _ _)
  rw [e1, vp_cell_l, vp_cell_l, arrV_store]
  congr 2
  funext q
  by_cases hq : q = i.toNatClampNeg
  · subst hq; simp [updV, vp_updL]
  · simp [updV, vp_updL, hq]
theorem x_aast (hx : p.tables.exec = Jvm.exec) (hb : c.code = cc) (hK : va_K D vwCl (tysA cy) s) (hW : Wd D cy A S H) (hS : va_S A H0 H locs) (ha : aK S a = 16) (hi : ix_ i (aN S a)) {x : Nat} (hxk : aK S x = 8) (hdg : decode cc pc = .ok (.aastore, 1))
    (kk : ∀ (H1 : Heap) (locs1 : List Loc), Wd D cy A (wR S a i.toNatClampNeg (some x)) H1 → va_S A H0 H1 locs1 → W p l e R s m args below meth c H1 locs1 cells slots Q (F0 m (pc + 1) ls rest)) : W p l e R s m args below meth c H locs cells slots Q (F0 m pc ls (.ref x :: .int i :: .ref a :: rest)) := by
  obtain ⟨L, h1, hP, hD, hz⟩ := hW
  obtain ⟨k, hk⟩ := Wd.at (D := D) (A := A) (H := H) (cy := cy) h1 (a := a) (by omega)
  obtain ⟨kv, hkv⟩ := Wd.at (D := D) (A := A) (H := H) (cy := cy) h1 (a := x) (by omega)
  have hk2 := hk
  rw [pF_R ha] at hk2
  rw [pF_obj hxk (by omega)] at hkv
  have h0 : ¬ i < 0 := fun q => hi (Or.inl q)
  have hlt : i.toNatClampNeg < aN S a := Nat.not_le.mp fun q => hi (Or.inr q)
  have hc : vwCl[8]? = some (clX 8) := clX_at (by omega)
  obtain ⟨r', hr', cellV, g1, g2, g3, -⟩ := hP kv _ hkv
  have hcls := (hK.1 8 _ hc).2
  obtain ⟨kA, comp, k1, k2, k3, -⟩ := (hK.2 4 _ rfl).2
  have hcomp : comp = D.1 8 := Option.some.inj (k3.symm.trans hcls.1)
  subst hcomp
  obtain ⟨kC, hkC, -⟩ := hcls.2
  refine W.aast hx hb (hP k _ hk2) (fun q h => by cases h) (fun h => by cases h) k1 k2 rfl hkC ⟨h0, by show _ < (arrV _ _ _).slots.size; rw [arrV_size]; exact hlt⟩ g1 (fun q h => by rw [g3] at h; cases h) (by rw [g2]; exact hkC) (by rw [g2]; exact va_assign hcls) rfl rfl hdg fun H1 e1 z oq => ?_
  refine kk H1 _ (Wd.put h1 hD hz (by omega) hk (pF_aR ha) rfl rfl (hP.set hD hk ?_ oq) (hD.set hk) z) (hS.put z oq (hD.2 k _ hk2))
  show H1[a]? = some (vp_cell _ _)
  rw [e1, vp_cell_q, vp_cell_q, arrV_store]
  congr 2
  funext q
  by_cases hq : q = i.toNatClampNeg
  · subst hq; simp [updV, va_up, va_rf]
  · simp [updV, va_up, hq]
-- what a new cell changes
theorem wN_K (S : aH) (u n b : Nat) : aK (wN S u n) b = if b = aZ S then u else aK S b := rfl
theorem wN_N (S : aH) (u n b : Nat) : aN (wN S u n) b = if b = aZ S then n else aN S b := rfl
theorem wN_I (S : aH) (u n b j : Nat) : aI (wN S u n) b j = if b = aZ S then 0 else aI S b j := by
  show r2 S.2.2.1 (aZ S) (fun _ => 0) b j = _
  unfold r2; split <;> rfl
theorem wN_J (S : aH) (u n b j : Nat) : aJ (wN S u n) b j = if b = aZ S then 0 else aJ S b j := by
  show r2 S.2.2.2.1 (aZ S) (fun _ => 0) b j = _
  unfold r2; split <;> rfl
theorem wN_R (S : aH) (u n b j : Nat) : aR (wN S u n) b j = if b = aZ S then none else aR S b j := by
  show r2 S.2.2.2.2.1 (aZ S) (fun _ => none) b j = _
  unfold r2; split <;> rfl
theorem wN_Z (S : aH) (u n : Nat) : aZ (wN S u n) = aZ S + 1 := rfl
theorem wN_G (S : aH) (u n : Nat) : aG (wN S u n) = aG S := rfl
/-- behind a new cell -/
theorem Wd.new {L : List Nat} {u n : Nat} {en : va_E} {H1 : Heap} (h1 : ∀ a, a ∈ L ↔ aK S a < 17) (hP : va_P D vwCl (va_pl L (pF cy S)) H) (hD : va_D A (va_pl L (pF cy S))) (hz : H.size = aZ S) (hu : u < 17) (he : pF cy (wN S u n) (aZ S) = en)
    (o1 : ∀ q : Nat, q < H.size → H1[q]? = H[q]?) (z1 : H1.size = H.size + 1) (hat : va_at D vwCl (aZ S, en) H1) (hA : A (aZ S)) : Wd D cy A (wN S u n) H1 := by
  have hfr : aZ S ∉ L := va_pl_fresh (X := []) (f := pF cy S) hP (by omega)
  have e1 : va_pl L (pF cy S) ++ [(aZ S, en)] = va_pl (L ++ [aZ S]) (pF cy (wN S u n)) := by
    rw [va_pl_push hfr]
    refine va_pl_congr fun b => ?_
    by_cases hb : b = aZ S
    · subst hb; rw [va_up_self, he]
    · rw [va_up_ne _ _ hb]
      refine (pF_same ?_ ?_ ?_ ?_ ?_).symm
      · rw [wN_K, if_neg hb]
      · rw [wN_N, if_neg hb]
      · funext j; rw [wN_I, if_neg hb]
      · funext j; rw [wN_J, if_neg hb]
      · funext j; rw [wN_R, if_neg hb]
  have hk : ∀ (k : Nat) (x : Nat × va_E), (va_pl L (pF cy S))[k]? = some x → H1[x.1]? = H[x.1]? := fun k x hx => o1 x.1 ((hP k x hx).lt)
  have hPn : va_P D vwCl (va_pl L (pF cy S) ++ [(aZ S, en)]) H1 := (hP.kept hk).app (fun k x hx => by
    have hz : k < 1 := (List.getElem?_eq_some_iff.mp hx).1
    rw [show k = 0 by omega] at hx
    cases hx
    exact hat)
  have hDn : va_D A (va_pl L (pF cy S) ++ [(aZ S, en)]) := hD.push hP hz.symm hA
  rw [e1] at hPn hDn
  refine ⟨L ++ [aZ S], fun b => ?_, hPn, hDn, by rw [z1, wN_Z, hz]⟩
  rw [wN_K]
  by_cases hb : b = aZ S
  · subst hb; simp [hu]
  · rw [if_neg hb, List.mem_append, h1 b]; simp [hb]
theorem va_S.new {H1 : Heap} (hS : va_S A H0 H locs) (o1 : ∀ q : Nat, q < H.size → H1[q]? = H[q]?) (z1 : H1.size = H.size + 1) : va_S A H0 H1 locs :=
  ⟨Nat.le_trans hS.1 (by omega), fun x h1 h2 => (o1 x (Nat.lt_of_lt_of_le h1 hS.1)).trans (hS.2.1 x h1 h2), hS.2.2⟩
theorem x_new {own : String} (hx : p.tables.exec = Jvm.exec) (hb : c.code = cc) (hts : ∀ w ∈ wsG, w.before args s = true) (hin : ∀ u, u < 12 → ∀ w ∈ u_ws (clX u).1 (clX u).2.1 (clX u).2.2, w ∈ wsG) (hown : s.vm.findClass own = some m.cls) (hK : va_K D vwCl (tysA cy) s) (hW : Wd D cy A S H) (hS : va_S A H0 H locs) (hA : ∀ q, H0.size ≤ q → A q) {u index : Nat} (hu : u < 12)
    (hcl : (Cond.classLink own index (clX u).1).before args s = true) (hinst : (Cond.instantiable (clX u).1 (clX u).2.2).before args s = true) (hini : (Cond.initialized (clX u).1).before args s = true) (hcells : cells + 1 ≤ R.cells) (hslots : slots + (clX u).2.2 ≤ R.slots) (hdg : decode cc pc = .ok (.new index, 3))
    (kk : ∀ H1 : Heap, Wd D cy A (wN S u 0) H1 → va_S A H0 H1 locs → W p l e R s m args below meth c H1 locs (cells + 1) (slots + (clX u).2.2) Q (F0 m (pc + 3) ls (.ref (aZ S) :: rest))) : W p l e R s m args below meth c H locs cells slots Q (F0 m pc ls rest) := by
  obtain ⟨L, h1, hP, hD, hz⟩ := hW
  have hc := clX_at hu
  have hKn := hK.1 u _ hc
  refine W.newcK hx hb hown hcl hinst hini rfl hdg hcells hslots hKn.2.1 rfl fun H1 kC hkC e1 z1 o1 => ?_
  have eK : aK (wN S u 0) (aZ S) = u := by rw [wN_K, if_pos rfl]
  have hb0 := u_born (clTy u) hts (hin u hu) hKn hkC e1 (clTy_ok u hu)
  rw [hz] at hb0
  have := kk H1 (Wd.new h1 hP hD hz (by omega) (pF_obj eK hu) o1 z1 ⟨_, hc, hb0.to (fun j hj => ?_)⟩ (hA _ (by rw [← hz]; exact hS.1))) (va_S.new hS o1 z1)
  · rw [← hz] at this; exact this
  · obtain ⟨t1, t2, t3, t4, t5, t6⟩ := clTy_cd u hu j hj
    have hf := fl_get (wN S u 0) (aZ S) (fT u) 0 j _ t1
    rw [Nat.zero_add] at hf
    simp only [vp_V, List.getD_eq_getElem?_getD, hf, Option.getD_some]
    generalize clTy u j = t at t1 t2 t3 t4 t5 t6
    cases t <;> simp_all [cdT, fv_, defaultValue, wN_I, wN_J, wN_R, va_rf]
theorem x_newa (hx : p.tables.exec = Jvm.exec) (hb : c.code = cc) {atype : ArrayType} (harr : (Cond.arrayClass (newarray.typeOf atype)).before args s = true) (hK : va_K D vwCl (tysA cy) s) (hW : Wd D cy A S H) (hS : va_S A H0 H locs) (hA : ∀ q, H0.size ≤ q → A q) {u : Nat} {n : Int32} (hat : atype = .int ∧ u = 13 ∨ atype = .long ∧ u = 14 ∨ atype = .boolean ∧ u = 15 ∨ atype = .byte ∧ u = 12) (hn : ¬ n < 0) (h6 : n.toNatClampNeg ≤ 60000)
    (hcells : cells + 1 ≤ R.cells) (hslots : slots + n.toNatClampNeg ≤ R.slots) (hdg : decode cc pc = .ok (.newarray atype, 2))
    (kk : ∀ H1 : Heap, Wd D cy A (wN S u n.toNatClampNeg) H1 → va_S A H0 H1 locs → W p l e R s m args below meth c H1 locs (cells + 1) (slots + n.toNatClampNeg) Q (F0 m (pc + 2) ls (.ref (aZ S) :: rest))) : W p l e R s m args below meth c H locs cells slots Q (F0 m pc ls (.int n :: rest)) := by
  obtain ⟨L, h1, hP, hD, hz⟩ := hW
  have hbytes : n.toNatClampNeg * componentBytes (newarray.typeOf atype) ≤ 536870912 := by
    have : componentBytes (newarray.typeOf atype) ≤ 8 := by cases atype <;> decide
    exact Nat.le_trans (Nat.mul_le_mul h6 this) (by decide)
  refine va_newaK hx hb harr rfl hdg rfl hn rfl hbytes hcells hslots hz fun H1 cA e1 z1 o1 hAr hNm => ?_
  have eK : aK (wN S u n.toNatClampNeg) (aZ S) = u := by rw [wN_K, if_pos rfl]
  have eN : aN (wN S u n.toNatClampNeg) (aZ S) = n.toNatClampNeg := by rw [wN_N, if_pos rfl]
  have eI : aI (wN S u n.toNatClampNeg) (aZ S) = fun _ => 0 := by funext j; rw [wN_I, if_pos rfl]
  have eJ : aJ (wN S u n.toNatClampNeg) (aZ S) = fun _ => 0 := by funext j; rw [wN_J, if_pos rfl]
  refine kk H1 ?_ (va_S.new hS (by rw [hz]; exact o1) (by rw [z1, hz]))
  have hAz : A (aZ S) := hA _ (by rw [← hz]; exact hS.1)
  rcases hat with ⟨rfl, rfl⟩ | ⟨rfl, rfl⟩ | ⟨rfl, rfl⟩ | ⟨rfl, rfl⟩
  · have hcA : cA = cy 13 := Option.some.inj (hNm.symm.trans (hK.2 1 _ rfl).2)
    refine Wd.new h1 hP hD hz (by omega) ((pF_I eK (by omega)).trans (by rw [eN, eI])) (by rw [hz]; exact o1) (by rw [z1, hz]) ?_ hAz
    show H1[aZ S]? = some (vp_cell _ _)
    rw [e1, hcA, vp_cell_i]; rfl
  · have hcA : cA = cy 14 := Option.some.inj (hNm.symm.trans (hK.2 2 _ rfl).2)
    refine Wd.new h1 hP hD hz (by omega) ((pF_J eK).trans (by rw [eN, eJ])) (by rw [hz]; exact o1) (by rw [z1, hz]) ?_ hAz
    show H1[aZ S]? = some (vp_cell _ _)
    rw [e1, hcA, vp_cell_l]; rfl
  · have hcA : cA = cy 15 := Option.some.inj (hNm.symm.trans (hK.2 3 _ rfl).2)
    refine Wd.new h1 hP hD hz (by omega) ((pF_I eK (by omega)).trans (by rw [eN, eI])) (by rw [hz]; exact o1) (by rw [z1, hz]) ?_ hAz
    show H1[aZ S]? = some (vp_cell _ _)
    rw [e1, hcA, vp_cell_i]; rfl
  · have hcA : cA = cy 12 := Option.some.inj (hNm.symm.trans (hK.2 0 _ rfl).2)
    refine Wd.new h1 hP hD hz (by omega) ((pF_I eK (by omega)).trans (by rw [eN, eI])) (by rw [hz]; exact o1) (by rw [z1, hz]) ?_ hAz
    show H1[aZ S]? = some (vp_cell _ _)
    rw [e1, hcA, vp_cell_i]; rfl
theorem x_anew {own : String} (hx : p.tables.exec = Jvm.exec) (hb : c.code = cc) (hown : s.vm.findClass own = some m.cls) {index : Nat} (hclink : (Cond.classLink own index RX9).before args s = true) (hover : va_AO RX9 s) (hK : va_K D vwCl (tysA cy) s) (hW : Wd D cy A S H) (hS : va_S A H0 H locs) (hA : ∀ q, H0.size ≤ q → A q) {n : Int32} (hn : ¬ n < 0) (h6 : n.toNatClampNeg ≤ 60000)
    (hcells : cells + 1 ≤ R.cells) (hslots : slots + n.toNatClampNeg ≤ R.slots) (hdg : decode cc pc = .ok (.anewarray index, 3))
    (kk : ∀ H1 : Heap, Wd D cy A (wN S 16 n.toNatClampNeg) H1 → va_S A H0 H1 locs → W p l e R s m args below meth c H1 locs (cells + 1) (slots + n.toNatClampNeg) Q (F0 m (pc + 3) ls (.ref (aZ S) :: rest))) : W p l e R s m args below meth c H locs cells slots Q (F0 m pc ls (.int n :: rest)) := by
  obtain ⟨L, h1, hP, hD, hz⟩ := hW
  refine W.anew hx hb hown hclink (va_AO.use hover) rfl hdg rfl hn (by omega) hcells hslots fun cA kA comp f1 f2 f3 f4 => ?_
  generalize hH1 : H.push ({ cls := cA, slots := Array.replicate n.toNatClampNeg .null, vm := .none } : Cell) = H1
  have z1 : H1.size = H.size + 1 := by rw [← hH1, Array.size_push]
  have e1 : H1[H.size]? = some (arrV cA n.toNatClampNeg (fun _ => .null)) := by rw [← hH1, Array.getElem?_push_size, ← arrV_new]
  have o1 : ∀ q : Nat, q < H.size → H1[q]? = H[q]? := fun q hq => by rw [← hH1, Array.getElem?_push, if_neg (Nat.ne_of_lt hq)]
  have eK : aK (wN S 16 n.toNatClampNeg) (aZ S) = 16 := by rw [wN_K, if_pos rfl]
  have eN : aN (wN S 16 n.toNatClampNeg) (aZ S) = n.toNatClampNeg := by rw [wN_N, if_pos rfl]
  have eR : aR (wN S 16 n.toNatClampNeg) (aZ S) = fun _ => none := by funext j; rw [wN_R, if_pos rfl]
  have hAz : A (aZ S) := hA _ (by rw [← hz]; exact hS.1)
  have hcA : cA = cy 16 := by
    obtain ⟨kA', comp', g1, g2, g3, g4⟩ := (hK.2 4 _ rfl).2
    exact Option.some.inj (f1.symm.trans g4)
  have := kk H1 (Wd.new h1 hP hD hz (by omega) ((pF_R eK).trans (by rw [eN, eR])) o1 z1 (by
    show H1[aZ S]? = some (vp_cell _ _)
    rw [← hz, e1, hcA, vp_cell_q]; rfl) hAz) (va_S.new hS o1 z1)
  rw [← hz] at this
  exact this
end XA
end
section
/-! the environment of a call, its contract -/
def stLenL : List Nat := stxL.map (fun s => s.toList.length)
def stBytL : List (List Int32) := stxL.map (fun s => s.toList.map (fun c => Int32.ofNat c.toNat))
def Ev (D : va_G) (cy : Nat → ClassId) (g adV : Nat → Nat) (A : Nat → Prop) (U : State) : Prop :=
  va_K D vwCl (tysA cy) U ∧ (∀ q ∈ flT, q.2.2.2.2 = 1 → va_Nw (flN q) U) ∧ (∀ q ∈ mlT, (q.2.2.2 = 3 → va_Nw (mlN "CounterMine" q) U) ∧ (q.2.2.2 = 4 → va_Nw (mlN "CounterMineModel" q) U)) ∧ va_AO RX9 U ∧ (∀ q ∈ slT, vk_R (cnm q.1) q.2.1 (stx q.2.2) (g q.2.2) U) ∧ vk_S 13 stLenL stBytL g adV A U U.heap ∧ va_Z "java/lang/String" "COMPACT_STRINGS" "Z" (.int 1) A U U.heap ∧ va_Zq "jdk/internal/util/Preconditions" "SIOOBE_FORMATTER" "Ljava/util/function/BiFunction;" A U U.heap
theorem Ev.call {D : va_G} {cy : Nat → ClassId} {g adV : Nat → Nat} {A A1 : Nat → Prop} {s U : State} {H : Heap} {locs : List Loc} (h : Ev D cy g adV A s) (hS : va_S A s.heap H locs) (hA : ∀ q, A1 q → A q) (hU : U.heap = H) (hw : s.WarmedH U.vm) : Ev D cy g adV A1 U := by
  obtain ⟨h1, h2, h3, h4, h5, h6, h7, h8⟩ := h
  refine ⟨va_K.moved hw.alike h1, fun q hq hn => va_Nw.warmF hw (h2 q hq hn), fun q hq => ⟨fun hn => va_Nw.warmM hw ((h3 q hq).1 hn), fun hn => va_Nw.warmM hw ((h3 q hq).2 hn)⟩, va_AO.moved hw.alike h4, fun q hq => vk_R.warm hw (h5 q hq), ?_, ?_, ?_⟩
  · rw [hU]; exact (vk_S.moved hw.alike (h6.kept hS.2.1)).narrow hA
  · rw [hU]; exact (va_Z.moved hw.alike (h7.kept hS.2.1)).narrow hA
  · rw [hU]; exact (va_Zq.moved hw.alike (h8.kept hS.2.1)).narrow hA
theorem Ev.same {D : va_G} {cy : Nat → ClassId} {g adV : Nat → Nat} {A : Nat → Prop} {u U : State} (hv : U.vm = u.vm) (hh : U.heap = u.heap) (h : Ev D cy g adV A u) : Ev D cy g adV A U := by
  obtain ⟨h1, h2, h3, h4, h5, h6, h7, h8⟩ := h
  have hal : u.vm.Alike U.vm := by rw [hv]; exact Vm.Alike.refl _
  refine ⟨va_K.moved hal h1, fun q hq hn => va_Nw.same rfl hv.symm (h2 q hq hn), fun q hq => ⟨fun hn => va_Nw.same rfl hv.symm ((h3 q hq).1 hn), fun hn => va_Nw.same rfl hv.symm ((h3 q hq).2 hn)⟩, va_AO.moved hal h4, fun q hq => vk_R.same hv (h5 q hq), ?_, ?_, ?_⟩
  · rw [hh]; exact vk_S.moved hal h6
  · rw [hh]; exact va_Z.moved hal h7
  · rw [hh]; exact va_Zq.moved hal h8
def A_of (S : aH) : Nat → Prop := fun q => aK S q < 17 ∨ aZ S ≤ q
abbrev aEt : Type := (Nat → Nat) × Nat × Nat × (Nat → Int32)
def PreX (D : va_G) (cy : Nat → ClassId) (adV : Nat → Nat) (E : aEt) (S : aH) (U : State) : Prop := Wd D cy (fun _ => True) S U.heap ∧ Ev D cy E.1 adV (A_of S) U ∧ aE S = E
def PostX (D : va_G) (cy : Nat → ClassId) (E : aEt) (A : Nat → Prop) (v : Option Value) (S' : aH) : Array Value → State → Outcome → State → Prop := match v with
  | none => va_Qv (fun u : aH => u = S') (fun u t => Wd D cy A u t.heap ∧ aE u = E) A
  | some (.int x) => va_Qi (fun r (u : aH) => r = x ∧ u = S') (fun u t => Wd D cy A u t.heap ∧ aE u = E) A
  | some (.long x) => va_Ql (fun r (u : aH) => r = x ∧ u = S') (fun u t => Wd D cy A u t.heap ∧ aE u = E) A
  | _ => fun _ _ _ _ => False
def rmX (t : aMt) : Room := { frames := tF t, cells := (tM t).1, slots := (tM t).2, locals := tW t }
def wsX (t : aMt) : List Cond := Cond.code (tY t) (tB t) (tL t) (tR t) :: wsG
def MetX (l : Launch) (D : va_G) (cy : Nat → ClassId) (adV : Nat → Nat) (E : aEt) (t : aMt) (as : List Value) (S : aH) (v : Option Value) (S' : aH) : Prop :=
  Met l (tY t) (wsX t) (rmX t) (va_Pc as (PreX D cy adV E S)) (PostX D cy E (A_of S) v S') (tM t).1 (tM t).2 (A_of S)
theorem PreX.blind {D : va_G} {cy : Nat → ClassId} {adV : Nat → Nat} {E : aEt} {S : aH} {as : List Value} : FrameBlind (va_Pc as (PreX D cy adV E S)) := by
  intro a U gf mk h
  obtain ⟨h0, h1, h2, h3⟩ := h
  exact ⟨h0, h1, Ev.same (u := U) (U := U.calling gf mk a) rfl rfl h2, h3⟩
-- shapes of what the machine asks
theorem pI_some {st : List Value} {f : Int32 → List Value → aO} {q : Option Value × aH} (h : pI st f = some q) : ∃ x r, st = .int x :: r ∧ f x r = some q := by
  unfold pI at h; split at h
  · exact ⟨_, _, rfl, h⟩
  · cases h
theorem pJ_some {st : List Value} {f : Int64 → List Value → aO} {q : Option Value × aH} (h : pJ st f = some q) : ∃ x r, st = .long x :: r ∧ f x r = some q := by
  unfold pJ at h; split at h
  · exact ⟨_, _, rfl, h⟩
  · cases h
theorem pR_some {st : List Value} {f : Nat → List Value → aO} {q : Option Value × aH} (h : pR st f = some q) : ∃ x r, st = .ref x :: r ∧ f x r = some q := by
  unfold pR at h; split at h
  · exact ⟨_, _, rfl, h⟩
  · cases h
theorem lI_some {v : Option Value} {f : Int32 → aO} {q : Option Value × aH} (h : lI v f = some q) : ∃ x, v = some (.int x) ∧ f x = some q := by
  unfold lI at h; split at h
  · exact ⟨_, rfl, h⟩
  · cases h
theorem lJ_some {v : Option Value} {f : Int64 → aO} {q : Option Value × aH} (h : lJ v f = some q) : ∃ x, v = some (.long x) ∧ f x = some q := by
  unfold lJ at h; split at h
  · exact ⟨_, rfl, h⟩
  · cases h
theorem lR_some {v : Option Value} {f : Nat → aO} {q : Option Value × aH} (h : lR v f = some q) : ∃ x, v = some (.ref x) ∧ f x = some q := by
  unfold lR at h; split at h
  · exact ⟨_, rfl, h⟩
  · cases h
theorem nR_some {v : Option Nat} {f : Nat → aO} {q : Option Value × aH} (h : nR v f = some q) : ∃ x, v = some x ∧ f x = some q := by
  unfold nR at h; split at h
  · exact ⟨_, rfl, h⟩
  · cases h
theorem gd_some {c : Prop} [Decidable c] {x : aO} {q : Option Value × aH} (h : gd c x = some q) : c ∧ x = some q := by
  unfold gd at h; split at h
  · exact ⟨‹_›, h⟩
  · cases h
theorem bo_some {c : Bool} {x : aO} {q : Option Value × aH} (h : bo_ c x = some q) : c = true ∧ x = some q := by
  cases c
  · cases h
  · exact ⟨rfl, h⟩
theorem tk_some {f : List Value → List Value → aO} {q : Option Value × aH} : ∀ (v : Nat) (acc st : List Value), tk_ v acc st f = some q → ∃ xs r, st = xs ++ r ∧ xs.length = v ∧ f (xs.reverse ++ acc) r = some q
  | 0, acc, st, h => ⟨[], st, rfl, rfl, h⟩
  | v + 1, acc, [], h => by cases h
  | v + 1, acc, x :: st, h => by
    obtain ⟨xs, r, e1, e2, e3⟩ := tk_some v (x :: acc) st h
    refine ⟨x :: xs, r, by rw [e1]; rfl, by simp [e2], ?_⟩
    rw [List.reverse_cons, List.append_assoc]; exact e3
theorem cl_some {w : Nat} {y : aO} {r : List Value} {K : List Value → aH → aO} {q : Option Value × aH} (h : cl_ w y r K = some q) : ∃ v S', y = some (v, S') ∧ (v = none ∨ (∃ x, v = some (.int x)) ∨ ∃ x, v = some (.long x)) ∧ K (v.toList ++ r) S' = some q := by
  unfold cl_ at h; split at h
  · unfold cV at h; split at h
    · exact ⟨none, _, rfl, Or.inl rfl, h⟩
    · cases h
  · unfold cI at h; split at h
    · exact ⟨some (.int _), _, rfl, Or.inr (Or.inl ⟨_, rfl⟩), h⟩
    · cases h
  · unfold cJ at h; split at h
    · exact ⟨some (.long _), _, rfl, Or.inr (Or.inr ⟨_, rfl⟩), h⟩
    · cases h
theorem cs_sum : ∀ r : List Value, cs_ r = (r.map fun v => v.category).sum
  | [] => rfl
  | v :: r => by simp [cs_, cs_sum r]
/-- the locals -/
def lh (Lc : Array Slot) (nL : Nat) (ls : aL) : Prop := ∃ lv : List (Nat × Value), lv_has Lc nL lv ∧ ∀ i v, lg_ ls i = some v → (i, v) ∈ lv
theorem lh.at {Lc : Array Slot} {nL : Nat} {ls : aL} (h : lh Lc nL ls) {i : Nat} {v : Value} (hv : lg_ ls i = some v) : Lc[i]? = some (.val v) := by
  obtain ⟨lv, h1, h2⟩ := h
  exact h1.2.2 (i, v) (h2 i v hv)
theorem lh.size {Lc : Array Slot} {nL : Nat} {ls : aL} (h : lh Lc nL ls) : Lc.size = nL := by
  obtain ⟨lv, h1, h2⟩ := h
  exact h1.1
theorem lg_ls : ∀ (ls : aL) (i : Nat) (x : Option Value) (j : Nat) (v : Value), lg_ (ls_ ls i x) j = some v → (j = i ∧ x = some v) ∨ (j ≠ i ∧ lg_ ls j = some v)
  | [], i, x, j, v, h => by simp [ls_, lg_] at h
  | y :: t, 0, x, 0, v, h => by simp [ls_, lg_] at h; exact Or.inl ⟨rfl, h⟩
  | y :: t, 0, x, j + 1, v, h => by simp [ls_, lg_] at h; exact Or.inr ⟨by omega, by simpa [lg_] using h⟩
  | y :: t, i + 1, x, 0, v, h => by simp [ls_, lg_] at h; exact Or.inr ⟨by omega, by simpa [lg_] using h⟩
  | y :: t, i + 1, x, j + 1, v, h => by
    simp only [ls_, lg_] at h
    rcases lg_ls t i x j v h with ⟨a, b⟩ | ⟨a, b⟩
    · exact Or.inl ⟨by omega, b⟩
    · exact Or.inr ⟨by omega, by simpa [lg_] using b⟩
theorem nl_cat {x : Option Value} {v : Value} (h : nl_ x = some v) : x = some v ∧ ¬ v.category = 2 := by
  unfold nl_ at h; split at h
  · cases h
  · cases h
  · subst h
    refine ⟨rfl, ?_⟩
    cases v <;> simp_all [Value.category]
theorem lgst_ {ls : aL} {i j : Nat} {v w : Value} (h : lg_ (st_ ls i v) j = some w) : (j = i ∧ w = v) ∨ (j ≠ i ∧ lg_ ls j = some w ∧ ¬ (j + 1 = i ∧ w.category = 2)) := by
  cases i with
  | zero =>
    rcases lg_ls ls 0 (some v) j w h with ⟨a, b⟩ | ⟨a, b⟩
    · exact Or.inl ⟨a, (Option.some.inj b).symm⟩
    · exact Or.inr ⟨a, b, fun q => by omega⟩
  | succ i =>
    rcases lg_ls _ i _ j w h with ⟨a, b⟩ | ⟨a, b⟩
    · obtain ⟨c1, c2⟩ := nl_cat b
      subst a
      exact Or.inr ⟨by omega, c1, fun q => c2 q.2⟩
    · rcases lg_ls ls (i + 1) (some v) j w b with ⟨a', b'⟩ | ⟨a', b'⟩
      · exact Or.inl ⟨a', (Option.some.inj b').symm⟩
      · exact Or.inr ⟨a', b', fun q => by omega⟩
theorem lg_sl_ {ls : aL} {i j : Nat} {v w : Value} (h : lg_ (sl_ ls i v) j = some w) : (j = i ∧ w = v) ∨ (j ≠ i ∧ j ≠ i + 1 ∧ lg_ ls j = some w ∧ ¬ (j + 1 = i ∧ w.category = 2)) := by
  unfold sl_ at h
  rcases lg_ls _ (i + 1) none j w h with ⟨a, b⟩ | ⟨a, b⟩
  · cases b
  · rcases lgst_ b with ⟨c1, c2⟩ | ⟨c1, c2, c3⟩
    · exact Or.inl ⟨c1, c2⟩
    · exact Or.inr ⟨c1, a, c2, c3⟩
theorem lg_mk : ∀ (m : List (Int32 × Nat)) (ls : aL) (j : Nat) (v : Value), lg_ (mk_ m ls) j = some v → lg_ ls j = some v
  | [], ls, j, v, h => by simp [mk_, lg_] at h
  | (_, 0) :: m, [], j, v, h => by simp [mk_, lg_] at h
  | (_, n + 1) :: m, [], j, v, h => by simp [mk_, lg_] at h
  | (_, 0) :: m, x :: t, 0, v, h => by simp [mk_, lg_] at h
  | (_, 0) :: m, x :: t, j + 1, v, h => by simp only [mk_, lg_] at h ⊢; exact lg_mk m t j v h
  | (_, n + 1) :: m, x :: t, 0, v, h => by simpa [mk_, lg_] using h
  | (_, n + 1) :: m, x :: t, j + 1, v, h => by simp only [mk_, lg_] at h ⊢; exact lg_mk m t j v h
theorem lh.st {Lc : Array Slot} {nL : Nat} {ls : aL} {lv : List (Nat × Value)} (h2 : ∀ i v, lg_ ls i = some v → (i, v) ∈ lv) {Lc' : Array Slot} {i : Nat} {v : Value} (h : lv_has Lc' nL ((i, v) :: lv.filter (fun q => !(q.1 == i) && !(q.1 + 1 == i && q.2.category == 2)))) : lh Lc' nL (st_ ls i v) := by
  refine ⟨_, h, fun j w hw => ?_⟩
  rcases lgst_ hw with ⟨rfl, rfl⟩ | ⟨a, b, d⟩
  · exact List.mem_cons_self
  · refine List.mem_cons_of_mem _ (List.mem_filter.mpr ⟨h2 j w b, ?_⟩)
    by_cases h1 : j + 1 = i
    · have : ¬ w.category = 2 := fun q => d ⟨h1, q⟩
      simp [a, this]
    · simp [a, h1]
theorem lh.sl {Lc : Array Slot} {nL : Nat} {ls : aL} {lv : List (Nat × Value)} (h2 : ∀ i v, lg_ ls i = some v → (i, v) ∈ lv) {Lc' : Array Slot} {i : Nat} {v : Value} (h : lv_has Lc' nL ((i, v) :: lv.filter (fun q => !(q.1 == i) && (!(q.1 == i + 1) && !(q.1 + 1 == i && q.2.category == 2))))) : lh Lc' nL (sl_ ls i v) := by
  refine ⟨_, h, fun j w hw => ?_⟩
  rcases lg_sl_ hw with ⟨rfl, rfl⟩ | ⟨a, a2, b, d⟩
  · exact List.mem_cons_self
  · refine List.mem_cons_of_mem _ (List.mem_filter.mpr ⟨h2 j w b, ?_⟩)
    by_cases h1 : j + 1 = i
    · have : ¬ w.category = 2 := fun q => d ⟨h1, q⟩
      simp [a, a2, this]
    · simp [a, a2, h1]
theorem lh.mk {Lc : Array Slot} {nL : Nat} {ls : aL} (m : List (Int32 × Nat)) (h : lh Lc nL ls) : lh Lc nL (mk_ m ls) := by
  obtain ⟨lv, h1, h2⟩ := h
  exact ⟨lv, h1, fun i v hv => h2 i v (lg_mk m ls i v hv)⟩
end
section
/-! every run of the abstract machine is a run of the machine -/
def strNo (g : Nat → Nat) (a : Nat) : Option Nat := (List.range 13).find? (fun n => g n == a)
def xtF (lx : List Value → aH → aO) : aC := fun u as S => match u with
  | 900 => (match as with
    | [.int x] => some (some (.int (if 0 ≤ x then x else 0 - x)), S)
    | _ => none)
  | 901 => (match as with
    | [.int x, .int y] => some (some (.int (if x < y then y else x)), S)
    | _ => none)
  | 902 => (match as with
    | [.int x, .int y] => some (some (.int (if y < x then y else x)), S)
    | _ => none)
  | 903 => (match as with
    | [.ref a] => nR (strNo (aG S) a) fun n => some (some (.int (Int32.ofNat (stLenL.getD n 0))), S)
    | _ => none)
  | 904 => (match as with
    | [.ref a, .int i] => nR (strNo (aG S) a) fun n => gd (ix_ i (stLenL.getD n 0)) (some (some (.int ((stBytL.getD n []).getD i.toNatClampNeg 0)), S))
    | _ => none)
  | 905 => lx as S
  | _ => none
def aCode (id : Nat) : List aM := tC (mGx id)
def aML (id : Nat) : Nat := tL (mGx id)
def aMb (id : Nat) : aB := tM (mGx id)
/-- what a method's frame stands on -/
def Cx (l : Launch) (D : va_G) (cy : Nat → ClassId) (adV : Nat → Nat) (E : aEt) (t : aMt) (p : Program) (R : Room) (s : State) (m : MethodId) (args : Array Value) (meth : Method) (c : Code) (A : Nat → Prop) : Prop :=
  p.tables.exec = Jvm.exec ∧ c.code = tB t ∧ c.maxLocals = tL t ∧ s.vm.findClass (cnm (tO t)) = some m.cls ∧ (∀ w ∈ wsG, w.before args s = true) ∧ ((tY t).name = "<init>" → meth.name = "<init>") ∧ Ev D cy E.1 adV A s ∧ (∀ q, s.heap.size ≤ q → A q) ∧ tF t ≤ R.frames ∧ tW t ≤ R.locals ∧ (tO t = 14 → va_X E.2.1 E.2.2.1 E.2.2.2 s s.heap ∧ E.2.1 < s.heap.size ∧ ¬ A E.2.1)
/-- the end of a frame, whoever asks -/
def Rt (l : Launch) (D : va_G) (cy : Nat → ClassId) (E : aEt) (t : aMt) (p : Program) (e : Env) (R : Room) (s : State) (m : MethodId) (args : Array Value) (below : List Frame) (meth : Method) (c : Code) (A : Nat → Prop) (Q : State → Prop) (v : Option Value) (S' : aH) : Prop :=
  ∀ (pc : Nat) (Lc : Array Slot) (H : Heap) (locs : List Loc) (cu su : Nat), cu ≤ R.cells → su ≤ R.slots → Wd D cy A S' H → aE S' = E → va_S A s.heap H locs →
    (v = none → tR t = none ∧ decode (tB t) pc = .ok (.return_, 1)) → (∀ x, v = some (.int x) → (tR t = some .int ∨ tR t = some .boolean ∧ (x = 0 ∨ x = 1)) ∧ decode (tB t) pc = .ok (.ireturn, 1)) → (∀ x, v = some (.long x) → tR t = some .long ∧ decode (tB t) pc = .ok (.lreturn, 1)) →
    (v = some (.retAddr 7) → ∃ k i, cg_ (tC t) k = some i ∧ i.1 = .nop ∧ i.2.1.1 = 7 ∧ pc = tP t k) → (v = none ∨ (∃ x, v = some (.int x)) ∨ (∃ x, v = some (.long x)) ∨ v = some (.retAddr 7)) → W p l e R s m args below meth c H locs cu su Q (F0 m pc Lc (if v = some (.retAddr 7) then [] else v.toList))
/-- what is called by hand -/
def Xs (l : Launch) (D : va_G) (cy : Nat → ClassId) (adV : Nat → Nat) (E : aEt) (lx : List Value → aH → aO) (u : Nat) : Prop :=
  ∀ (t : aMt) (p : Program) (e : Env) (R : Room) (s : State) (m : MethodId) (args : Array Value) (below : List Frame) (meth : Method) (c : Code) (A : Nat → Prop) (Q : State → Prop) (as rest : List Value) (S S' : aH) (v : Option Value) (H : Heap) (locs : List Loc) (cu su pc x : Nat) (Lc : Array Slot),
    Cx l D cy adV E t p R s m args meth c A → xtF lx u as S = some (v, S') → aE S = E → (tO t, x, u, (if u = 905 then 1 else 0)) ∈ mlT → (xF u).1 ≤ tF t → (xF u).2 ≤ tW t → (u = 905 → cu + 1 ≤ R.cells ∧ su + 6 ≤ R.slots) → cu ≤ R.cells → su ≤ R.slots → Lc.size = tL t → (rest.map fun v => v.category).sum ≤ 8 → Wd D cy A S H → va_S A s.heap H locs →
    decode (tB t) pc = .ok ((if u = 905 then Instr.invokestatic x else Instr.invokevirtual x), 3) →
    (∀ (H1 : Heap) (locs1 : List Loc), Wd D cy A S' H1 → aE S' = E → va_S A s.heap H1 locs1 → W p l e R s m args below meth c H1 locs1 (cu + (if u = 905 then 1 else 0)) (su + (if u = 905 then 6 else 0)) Q (F0 m (pc + 3) Lc (v.toList ++ rest))) →
    W p l e R s m args below meth c H locs cu su Q (F0 m pc Lc (as.reverse ++ rest))
/-- all runs of n steps -/
def Bd (l : Launch) (D : va_G) (cy : Nat → ClassId) (adV : Nat → Nat) (E : aEt) (lx : List Value → aH → aO) (n : Nat) : Prop :=
  ∀ (id : Nat), id < 317 → ∀ (p : Program) (e : Env) (R : Room) (s : State) (m : MethodId) (args : Array Value) (below : List Frame) (meth : Method) (c : Code) (A : Nat → Prop) (Q : State → Prop) (v : Option Value) (S' : aH),
    Cx l D cy adV E (mGx id) p R s m args meth c A → Rt l D cy E (mGx id) p e R s m args below meth c A Q v S' →
    ∀ (k : Nat) (ls : aL) (st : List Value) (b : aB) (S : aH) (H : Heap) (locs : List Loc) (cu su : Nat) (Lc : Array Slot),
      am aCode aML aMb (xtF lx) n id k ls st b S = some (v, S') → lh Lc (tL (mGx id)) ls → Wd D cy A S H → va_S A s.heap H locs → aE S = E → cu + b.1 ≤ R.cells → su + b.2 ≤ R.slots →
      W p l e R s m args below meth c H locs cu su Q (F0 m (tP (mGx id) k) Lc st)
theorem ea_lh : ∀ (vs : List Value) (o n i : Nat) (v : Value), lg_ (pd_ (ea_ vs) n) i = some v → (o + i, v) ∈ lv_args o vs
  | [], o, n, i, v, h => by
    exfalso
    have key : ∀ (n i : Nat), lg_ (List.replicate n none) i = none := by
      intro n
      induction n with
      | zero => intro i; rfl
      | succ n ih => intro i; cases i with
        | zero => rfl
        | succ i => exact ih i
    simp only [ea_, pd_] at h
    rw [key] at h; cases h
  | .long x :: t, o, n, 0, v, h => by simp [ea_, pd_, lg_] at h; subst h; simp [lv_args]
  | .long x :: t, o, n, 1, v, h => by simp [ea_, pd_, lg_] at h
  | .long x :: t, o, n, i + 2, v, h => by
    simp only [ea_, pd_, lg_] at h
    have := ea_lh t (o + 2) _ i v h
    simp only [lv_args, Value.category]
    rw [show o + (i + 2) = o + 2 + i by omega]
    exact List.mem_cons_of_mem _ this
  | .int x :: t, o, n, 0, v, h => by simp [ea_, pd_, lg_] at h; subst h; simp [lv_args]
  | .int x :: t, o, n, i + 1, v, h => by
    simp only [ea_, pd_, lg_] at h
    have := ea_lh t (o + 1) _ i v h
    simp only [lv_args, Value.category]
    rw [show o + (i + 1) = o + 1 + i by omega]
    exact List.mem_cons_of_mem _ this
  | .ref x :: t, o, n, 0, v, h => by simp [ea_, pd_, lg_] at h; subst h; simp [lv_args]
  | .ref x :: t, o, n, i + 1, v, h => by
    simp only [ea_, pd_, lg_] at h
    have := ea_lh t (o + 1) _ i v h
    simp only [lv_args, Value.category]
    rw [show o + (i + 1) = o + 1 + i by omega]
    exact List.mem_cons_of_mem _ this
  | .null :: t, o, n, 0, v, h => by simp [ea_, pd_, lg_] at h; subst h; simp [lv_args]
  | .null :: t, o, n, i + 1, v, h => by
    simp only [ea_, pd_, lg_] at h
    have := ea_lh t (o + 1) _ i v h
    simp only [lv_args, Value.category]
    rw [show o + (i + 1) = o + 1 + i by omega]
    exact List.mem_cons_of_mem _ this
  | .float x :: t, o, n, 0, v, h => by simp [ea_, pd_, lg_] at h; subst h; simp [lv_args]
  | .float x :: t, o, n, i + 1, v, h => by
    simp only [ea_, pd_, lg_] at h
    have := ea_lh t (o + 1) _ i v h
    simp only [lv_args, Value.category]
    rw [show o + (i + 1) = o + 1 + i by omega]
    exact List.mem_cons_of_mem _ this
  | .retAddr x :: t, o, n, 0, v, h => by simp [ea_, pd_, lg_] at h; subst h; simp [lv_args]
  | .retAddr x :: t, o, n, i + 1, v, h => by
    simp only [ea_, pd_, lg_] at h
    have := ea_lh t (o + 1) _ i v h
    simp only [lv_args, Value.category]
    rw [show o + (i + 1) = o + 1 + i by omega]
    exact List.mem_cons_of_mem _ this
  | .double x :: t, o, n, 0, v, h => by simp [ea_, pd_, lg_] at h
  | .double x :: t, o, n, 1, v, h => by simp [ea_, pd_, lg_] at h
  | .double x :: t, o, n, i + 2, v, h => by
    simp only [ea_, pd_, lg_] at h
    have := ea_lh t (o + 2) _ i v h
    simp only [lv_args, Value.category]
    rw [show o + (i + 2) = o + 2 + i by omega]
    exact List.mem_cons_of_mem _ this
theorem lg_sl_len : ∀ vs : List Value, (lg_sl vs).length = cs_ vs
  | [] => rfl
  | v :: t => by
    have h := lg_sl_len t
    rcases lv_cat v with hc | hc
    · simp only [lg_sl, List.flatMap_cons, hc, List.length_append, cs_]
      simp only [lg_sl] at h
      simp [h]
    · simp only [lg_sl, List.flatMap_cons, hc, List.length_append, cs_]
      simp only [lg_sl] at h
      simp [h]
/-- a contract out of the runs -/
theorem met_of {l : Launch} {D : va_G} {cy : Nat → ClassId} {adV : Nat → Nat} {E : aEt} {lx : List Value → aH → aO} {n id : Nat} (hB : Bd l D cy adV E lx n) (hid : id < 317) (h14 : tO (mGx id) ≠ 14) {as : List Value} {S S' : aH} {v : Option Value} (hcs : cs_ as ≤ tL (mGx id)) (hv : v = none ∨ (∃ x, v = some (.int x)) ∨ ∃ x, v = some (.long x)) (h : am aCode aML aMb (xtF lx) n id 0 (pd_ (ea_ as) (aML id)) [] (aMb id) S = some (v, S')) (h0 : tP (mGx id) 0 = 0) : MetX l D cy adV E (mGx id) as S v S' := by
  have hck := mGx_ok hid
  unfold chkT at hck
  simp only [Bool.and_eq_true, decide_eq_true_eq] at hck
  obtain ⟨⟨⟨⟨hpl, hcn⟩, har⟩, hmh⟩, hcl⟩ := hck
  refine Met.ofW (cc := tB (mGx id)) (maxL := tL (mGx id)) (ret := tR (mGx id)) hpl rfl ?_
  intro p e s m args below meth c s₁ B hml hv0
  obtain ⟨rfl, hWd, hE, hEe⟩ := hv0
  have hts := atoms_spec (ws := wsX (mGx id)) B.pre
  have hown : s.vm.findClass (tY (mGx id)).cls = some m.cls := findClass_of_methodNamed B.named
  have hr := B.returns
  have hb := B.bytes
  have hx := B.exec
  have hlocks := B.notSynchronized
  obtain ⟨L, w1, w2, w3, w4⟩ := hWd
  have hW : Wd D cy (A_of S) S s.heap := ⟨L, w1, w2, ⟨w3.1, fun k q hq => by
    obtain ⟨a, ha, he⟩ := List.mem_map.mp (List.mem_of_getElem? hq)
    rw [← he]
    exact Or.inl ((w1 a).mp ha)⟩, w4⟩
  have hS0 : va_S (A_of S) s.heap s.heap [] := va_S.rf
  have hlv := lv_entry as (n := tL (mGx id)) (by rw [lg_sl_len]; exact hcs)
  rw [lg_entry_eq]
  have hcx : Cx l D cy adV E (mGx id) p (rmX (mGx id)) s m as.toArray meth c (A_of S) := ⟨hx, hb, hml, by rw [← hcn]; exact hown, fun w hw => hts w (List.mem_cons_of_mem _ hw), fun hn => (name_of_methodNamed B.named B.method).1.trans hn, hE, fun q hq => Or.inr (by rw [← w4]; exact hq), Nat.le_refl _, Nat.le_refl _, fun q => absurd q h14⟩
  have key := hB id hid p e (rmX (mGx id)) s m as.toArray below meth c (A_of S) (MQ below (PostX D cy E (A_of S) v S') as.toArray s (tM (mGx id)).1 (tM (mGx id)).2 (A_of S)) v S' hcx ?_ 0 (pd_ (ea_ as) (aML id)) [] (aMb id) S s.heap [] 0 0 _ h ⟨_, hlv, fun i w hw => by have := ea_lh as 0 _ i w hw; rwa [Nat.zero_add] at this⟩ hW hS0 hEe (by rw [Nat.zero_add]; exact Nat.le_refl _) (by rw [Nat.zero_add]; exact Nat.le_refl _)
  · rw [h0] at key; exact key
  · intro pc Lc H locs cu su hcu hsu hWe hEe' hSe q0 q1 q2 q3 hvv
    refine W.widen (k := (tM (mGx id)).1) (n := (tM (mGx id)).2) hcu hsu ?_
    rcases hv with rfl | ⟨x, rfl⟩ | ⟨x, rfl⟩
    · obtain ⟨r0, r1⟩ := q0 rfl
      exact W.vret hx hb (by rw [hr, r0]) (fun t ht hW9 => ⟨⟨S', rfl, rfl, by rw [ht]; exact hWe, hEe'⟩, hSe.F ht⟩) hSe.2.2 r1
    · obtain ⟨r0, r1⟩ := q1 x rfl
      rcases r0 with r0 | ⟨r0, r01⟩
      · exact W.iret (v := x) hx hb (by rw [hr, r0]) (fun t ht hW9 => ⟨⟨x, S', rfl, ⟨rfl, rfl⟩, by rw [ht]; exact hWe, hEe'⟩, hSe.F ht⟩) hSe.2.2 r1
      · exact W.zret (v := x) (ty := .boolean) hx hb (by rw [hr, r0]) (by rcases r01 with rfl | rfl <;> rfl) (fun t ht hW9 => ⟨⟨x, S', rfl, ⟨rfl, rfl⟩, by rw [ht]; exact hWe, hEe'⟩, hSe.F ht⟩) hSe.2.2 r1
    · obtain ⟨r0, r1⟩ := q2 x rfl
      exact W.lret (v := x) hx hb (by rw [hr, r0]) (fun t ht hW9 => ⟨⟨x, S', rfl, ⟨rfl, rfl⟩, by rw [ht]; exact hWe, hEe'⟩, hSe.F ht⟩) hSe.2.2 r1
end
section
/-! calls -/
theorem goodX {ws : List Cond} (h : ∀ w ∈ ws, w ∈ wsG) : GoodIn wsG ws := fun w hw => ⟨h w hw, good_of_word (wsG_good w (h w hw))⟩
theorem tP0 : ∀ t ∈ metaL, tP t 0 = 0 := by decide +kernel
theorem metX_of {l : Launch} {D : va_G} {cy : Nat → ClassId} {adV : Nat → Nat} {E : aEt} {lx : List Value → aH → aO} {n u : Nat} (hB : Bd l D cy adV E lx n) (hul : u < metaL.length) (h14 : tO (mG u) ≠ 14) {as : List Value} {S S' : aH} {v : Option Value} (hcs : cs_ as ≤ aML u) (hv : v = none ∨ (∃ x, v = some (.int x)) ∨ ∃ x, v = some (.long x)) (h : am aCode aML aMb (xtF lx) n u 0 (pd_ (ea_ as) (aML u)) [] (aMb u) S = some (v, S')) : MetX l D cy adV E (mG u) as S v S' := by
  have e := mGx_of hul
  have hl : u < 317 := by rw [metaL_len] at hul; omega
  have := met_of hB hl (by rw [e]; exact h14) hcs hv h (by rw [e]; exact tP0 _ (by unfold mG; rw [List.getD_eq_getElem?_getD, List.getElem?_eq_getElem hul]; exact List.getElem_mem hul))
  rwa [e] at this
theorem cO14 : ∀ u ∈ wCode_L, tO (mG u) ≠ 14 := by decide +kernel
theorem Wd.out {D : va_G} {cy : Nat → ClassId} {A : Nat → Prop} {S : aH} {H H0 : Heap} {locs : List Loc} (h : Wd D cy A S H) (hS : va_S A H0 H locs) (hA : ∀ q, H0.size ≤ q → A q) : ∀ q, A_of S q → A q := by
  intro q hq
  obtain ⟨L, h1, h2, h3, h4⟩ := h
  rcases hq with hq | hq
  · obtain ⟨k, hk⟩ := Wd.at (D := D) (A := A) (H := H) (cy := cy) h1 (a := q) hq
    exact h3.2 k _ hk
  · exact hA q (Nat.le_trans hS.1 (by rw [h4]; exact hq))
theorem Wd.any {D : va_G} {cy : Nat → ClassId} {A : Nat → Prop} {S : aH} {H : Heap} (h : Wd D cy A S H) : Wd D cy (fun _ => True) S H := h.weaken (fun _ _ => trivial)
section XC
variable {p : Program} {l : Launch} {e : Env} {R : Room} {s : State} {m : MethodId} {args : Array Value} {below : List Frame} {meth : Method} {c : Code} {H : Heap} {locs : List Loc} {cu su : Nat} {Q : State → Prop}
variable {D : va_G} {cy : Nat → ClassId} {adV : Nat → Nat} {E : aEt} {A : Nat → Prop} {S S' : aH} {t t' : aMt} {as rest : List Value} {v : Option Value} {pc x : Nat} {Lc : Array Slot}
/-- what comes back -/
theorem x_back (hv : v = none ∨ (∃ x, v = some (.int x)) ∨ ∃ x, v = some (.long x)) {ar : Array Value} {st0 : List Value} (hr : va_Run p l e R s m args below meth c H locs cu su (tM t').1 (tM t').2 (F0 m pc Lc st0) rest (PostX D cy E (A_of S) v S' ar) (A_of S)) (hS : va_S A s.heap H locs) (hA : ∀ q, A_of S q → A q)
    (kk : ∀ (H1 : Heap) (locs1 : List Loc), Wd D cy A S' H1 → aE S' = E → va_S A s.heap H1 locs1 → W p l e R s m args below meth c H1 locs1 (cu + (tM t').1) (su + (tM t').2) Q (F0 m (pc + 3) Lc (v.toList ++ rest))) : W p l e R s m args below meth c H locs cu su Q (F0 m pc Lc st0) := by
  rcases hv with rfl | ⟨y, rfl⟩ | ⟨y, rfl⟩
  · refine va_callv (a := ar) hr hS (fun q _ h => hA q h) hA (fun u tt H1 locs1 ht hvm hw hB hz1 hk1 hS1 => ?_)
    subst hw
    rw [ht] at hB
    exact kk H1 locs1 (hB.1.weaken hA) hB.2 hS1
  · refine va_calli (a := ar) hr hS (fun q _ h => hA q h) hA (fun r u tt H1 locs1 ht hvm hw hB hz1 hk1 hS1 => ?_)
    obtain ⟨rfl, rfl⟩ := hw
    rw [ht] at hB
    exact kk H1 locs1 (hB.1.weaken hA) hB.2 hS1
  · refine va_calll (a := ar) hr hS (fun q _ h => hA q h) hA (fun r u tt H1 locs1 ht hvm hw hB hz1 hk1 hS1 => ?_)
    obtain ⟨rfl, rfl⟩ := hw
    rw [ht] at hB
    exact kk H1 locs1 (hB.1.weaken hA) hB.2 hS1
theorem x_pre (hE : Ev D cy E.1 adV A s) (hS : va_S A s.heap H locs) (hW : Wd D cy A S H) (hA : ∀ q, A_of S q → A q) (hEe : aE S = E) : ∀ U : State, U.heap = H → s.WarmedH U.vm → va_Pc as (PreX D cy adV E S) as.toArray U := fun U hU hw => ⟨rfl, by rw [hU]; exact hW.any, hE.call hS hA hU hw, hEe⟩
theorem x_callV (hcx : Cx l D cy adV E t p R s m args meth c A) (hck : chkT t' = true) (hM : MetX l D cy adV E t' as S v S') (hv : v = none ∨ (∃ x, v = some (.int x)) ∨ ∃ x, v = some (.long x)) (hEe : aE S = E)
    (w1 : Cond.methodLink (cnm (tO t)) x (tY t') ∈ wsG) (w2 : Cond.instanceMethod (tY t') ∈ wsG) (w3 : Cond.selects (tY t').cls (tY t') (tY t') ∈ wsG) (w4 : Cond.initialized (tY t').cls ∈ wsG) (w5 : Cond.code (tY t') (tB t') (tL t') (tR t') ∈ wsG)
    {a : Nat} {As : List Value} (has : as = .ref a :: As) (hn : As.length = tA t') {z : Nat} (hz : z < 12) (hza : aK S a = z) (hzc : (clX z).1 = (tY t').cls) (hF : tF t' + 1 ≤ tF t) (hL : 8 + (tL t' + 11) + tW t' ≤ tW t)
    (hsz : Lc.size = tL t) (hcs : (rest.map fun v => v.category).sum ≤ 8) (hW : Wd D cy A S H) (hS : va_S A s.heap H locs) (hrc : cu + (tM t').1 ≤ R.cells) (hrs : su + (tM t').2 ≤ R.slots) (hd : decode (tB t) pc = .ok (.invokevirtual x, 3))
    (kk : ∀ (H1 : Heap) (locs1 : List Loc), Wd D cy A S' H1 → aE S' = E → va_S A s.heap H1 locs1 → W p l e R s m args below meth c H1 locs1 (cu + (tM t').1) (su + (tM t').2) Q (F0 m (pc + 3) Lc (v.toList ++ rest))) : W p l e R s m args below meth c H locs cu su Q (F0 m pc Lc (as.reverse ++ rest)) := by
  obtain ⟨hx, hb, hml, hown, hts, hnm, hE, hA, hRf, hRl, hsc⟩ := hcx
  unfold chkT at hck
  simp only [Bool.and_eq_true, decide_eq_true_eq] at hck
  obtain ⟨⟨⟨⟨hpl, hcn⟩, har⟩, hmh⟩, hcl⟩ := hck
  have hAo := hW.out hS hA
  subst has
  have hrecv : ∃ cellB : Cell, H[a]? = some cellB ∧ cellB.vm.isStatics = false ∧ s.vm.findClass (tY t').cls = some cellB.cls := by
    obtain ⟨L, h1, hP, hD, hz0⟩ := id hW
    obtain ⟨k, hk⟩ := Wd.at (D := D) (A := A) (H := H) (cy := cy) h1 (a := a) (by omega)
    rw [pF_obj hza hz] at hk
    rw [← hzc]
    exact va_recv hE.1 hP (clX_at hz) hk
  refine x_back (t' := t') (ar := (Value.ref a :: As).toArray) (st0 := (Value.ref a :: As).reverse ++ rest) hv ?_ hS hAo kk
  refine va_runV (As := As) (rest := rest) (b := a) (C := (tY t').cls) ⟨hx, hb, hml, hown, hts⟩ hM (cwV (tA t') hts (goodX (fun w hw => ?_)) rfl rfl rfl ⟨rfl, hmh.1, hmh.2, har⟩ ⟨Nat.le_trans hF hRf, Nat.le_trans hL hRl⟩) ⟨PreX.blind, hrecv, x_pre hE hS hW hAo hEe⟩ rfl hn hsz (by simp) (lv_room hcs) hd ⟨hrc, hrs⟩
  simp only [wsV, wsX, List.mem_append, List.mem_cons, List.not_mem_nil, or_false] at hw
  rcases hw with (rfl | rfl | rfl | rfl) | rfl | hw
  · exact w1
  · exact w2
  · exact w3
  · exact w4
  · exact w5
  · exact hw
theorem x_callS (hcx : Cx l D cy adV E t p R s m args meth c A) (hck : chkT t' = true) (hM : MetX l D cy adV E t' as S v S') (hv : v = none ∨ (∃ x, v = some (.int x)) ∨ ∃ x, v = some (.long x)) (hEe : aE S = E)
    (w1 : Cond.methodLink (cnm (tO t)) x (tY t') ∈ wsG) (w2 : Cond.static (tY t') ∈ wsG) (w4 : Cond.initialized (tY t').cls ∈ wsG) (w5 : Cond.code (tY t') (tB t') (tL t') (tR t') ∈ wsG)
    (hn : as.length = tA t') (hF : tF t' + 1 ≤ tF t) (hL : 8 + (tL t' + 11) + tW t' ≤ tW t)
    (hsz : Lc.size = tL t) (hcs : (rest.map fun v => v.category).sum ≤ 8) (hW : Wd D cy A S H) (hS : va_S A s.heap H locs) (hrc : cu + (tM t').1 ≤ R.cells) (hrs : su + (tM t').2 ≤ R.slots) (hd : decode (tB t) pc = .ok (.invokestatic x, 3))
    (kk : ∀ (H1 : Heap) (locs1 : List Loc), Wd D cy A S' H1 → aE S' = E → va_S A s.heap H1 locs1 → W p l e R s m args below meth c H1 locs1 (cu + (tM t').1) (su + (tM t').2) Q (F0 m (pc + 3) Lc (v.toList ++ rest))) : W p l e R s m args below meth c H locs cu su Q (F0 m pc Lc (as.reverse ++ rest)) := by
  obtain ⟨hx, hb, hml, hown, hts, hnm, hE, hA, hRf, hRl, hsc⟩ := hcx
  unfold chkT at hck
  simp only [Bool.and_eq_true, decide_eq_true_eq] at hck
  obtain ⟨⟨⟨⟨hpl, hcn⟩, har⟩, hmh⟩, hcl⟩ := hck
  have hAo := hW.out hS hA
  refine x_back (t' := t') (ar := as.toArray) (st0 := as.reverse ++ rest) hv ?_ hS hAo kk
  refine va_runS (As := as) (rest := rest) ⟨hx, hb, hml, hown, hts⟩ hM ⟨callB_of (tA t') hts (goodX (fun w hw => ?_)) rfl rfl rfl (hts _ w4) (hts _ w1) ⟨hmh.1, hmh.2, har⟩ ⟨Nat.le_trans hF hRf, Nat.le_trans hL hRl⟩, hts _ w2⟩ ⟨PreX.blind, x_pre hE hS hW hAo hEe⟩ rfl hn hsz rfl (lv_room hcs) hd ⟨hrc, hrs⟩
  simp only [wsX, List.mem_cons] at hw
  rcases hw with rfl | hw
  · exact w5
  · exact hw
theorem x_callI (hcx : Cx l D cy adV E t p R s m args meth c A) (hck : chkT t' = true) (hM : MetX l D cy adV E t' as S v S') (hv : v = none ∨ (∃ x, v = some (.int x)) ∨ ∃ x, v = some (.long x)) (hEe : aE S = E)
    (w1 : Cond.methodLink (cnm (tO t)) x (tY t') ∈ wsG ∨ ∃ host, va_Nw (Cond.methodLinkNest (cnm (tO t)) x (tY t') host) s) (w2 : Cond.instanceMethod (tY t') ∈ wsG) (w4 : Cond.initialized (tY t').cls ∈ wsG) (w5 : Cond.code (tY t') (tB t') (tL t') (tR t') ∈ wsG) (hret : tR t' = none) (hini : (tY t').name = "<init>")
    {a : Nat} {As : List Value} (has : as = .ref a :: As) (hn : As.length = tA t') (hF : tF t' + 1 ≤ tF t) (hL : 8 + (tL t' + 11) + tW t' ≤ tW t)
    (hsz : Lc.size = tL t) (hcs : (rest.map fun v => v.category).sum ≤ 8) (hW : Wd D cy A S H) (hS : va_S A s.heap H locs) (hrc : cu + (tM t').1 ≤ R.cells) (hrs : su + (tM t').2 ≤ R.slots) (hd : decode (tB t) pc = .ok (.invokespecial x, 3))
    (kk : ∀ (H1 : Heap) (locs1 : List Loc), Wd D cy A S' H1 → aE S' = E → va_S A s.heap H1 locs1 → W p l e R s m args below meth c H1 locs1 (cu + (tM t').1) (su + (tM t').2) Q (F0 m (pc + 3) Lc (v.toList ++ rest))) : W p l e R s m args below meth c H locs cu su Q (F0 m pc Lc (as.reverse ++ rest)) := by
  obtain ⟨hx, hb, hml, hown, hts, hnm, hE, hA, hRf, hRl, hsc⟩ := hcx
  unfold chkT at hck
  simp only [Bool.and_eq_true, decide_eq_true_eq] at hck
  obtain ⟨⟨⟨⟨hpl, hcn⟩, har⟩, hmh⟩, hcl⟩ := hck
  have hAo := hW.out hS hA
  subst has
  have hG : GoodIn wsG (wsX t') := goodX (fun w hw => by
    simp only [wsX, List.mem_cons] at hw
    rcases hw with rfl | hw
    · exact w5
    · exact hw)
  have hwx : wsX t' = Cond.code (tY t') (tB t') (tL t') none :: wsG := by unfold wsX; rw [hret]
  refine x_back (t' := t') (ar := (Value.ref a :: As).toArray) (st0 := (Value.ref a :: As).reverse ++ rest) hv ?_ hS hAo kk
  rcases w1 with w1 | ⟨host, w1⟩
  · exact va_runI (As := As) (rest := rest) (b := a) ⟨hx, hb, hml, hown, hts⟩ hM (cwI (tA t') hts hG hwx rfl rfl (hts _ w4) (hts _ w1) (hts _ w2) hini ⟨hmh.1, hmh.2, har⟩ ⟨Nat.le_trans hF hRf, Nat.le_trans hL hRl⟩) ⟨PreX.blind, x_pre hE hS hW hAo hEe⟩ rfl hn hsz (by simp) (lv_room hcs) hd ⟨hrc, hrs⟩
  · exact va_runIN (As := As) (rest := rest) (b := a) ⟨hx, hb, hml, hown, hts⟩ hM ⟨va_cnB (tA t') hts hG hwx rfl rfl w1 (hts _ w4) ⟨hmh.1, hmh.2, har⟩ ⟨Nat.le_trans hF hRf, Nat.le_trans hL hRl⟩, hini, hts _ w2⟩ ⟨PreX.blind, x_pre hE hS hW hAo hEe⟩ rfl hn hsz (by simp) (lv_room hcs) hd ⟨hrc, hrs⟩
end XC
end
section
/-! one step -/
theorem chkL_get (t : aMt) : ∀ (l : List aM) (k0 k : Nat) (i : aM), chkL t k0 l = true → cg_ l k = some i → chk t (k0 + k) i = true
  | [], k0, k, i, h, hi => by simp [cg_] at hi
  | x :: r, k0, 0, i, h, hi => by
    simp [cg_] at hi; subst hi
    simp only [chkL, Bool.and_eq_true] at h
    exact h.1
  | x :: r, k0, k + 1, i, h, hi => by
    simp only [chkL, Bool.and_eq_true] at h
    have := chkL_get t r (k0 + 1) k i h.2 (by simpa [cg_] using hi)
    rw [show k0 + (k + 1) = k0 + 1 + k by omega]; exact this
theorem gt_cases {f : Option Nat} {w : Nat} (h : gtT f w = true) : ∃ ty, f = some ty ∧ ((ty = 0 ∨ ty = 4) ∧ w = 0 ∨ ty = 1 ∧ w = 1 ∨ ty = 2 ∧ (w = 2 ∨ w = 3)) := by
  unfold gtT at h; split at h <;> simp at h
  · exact ⟨0, rfl, Or.inl ⟨Or.inl rfl, h⟩⟩
  · exact ⟨4, rfl, Or.inl ⟨Or.inr rfl, h⟩⟩
  · exact ⟨1, rfl, Or.inr (Or.inl ⟨rfl, h⟩)⟩
  · exact ⟨2, rfl, Or.inr (Or.inr ⟨rfl, h⟩)⟩
theorem pt_cases {f : Option Nat} {w : Nat} (h : ptT f w = true) : ∃ ty, f = some ty ∧ (ty = 0 ∧ w = 0 ∨ ty = 4 ∧ w = 4 ∨ ty = 1 ∧ w = 1 ∨ ty = 2 ∧ w = 2) := by
  unfold ptT at h; split at h <;> simp at h
  · exact ⟨0, rfl, Or.inl ⟨rfl, h⟩⟩
  · exact ⟨4, rfl, Or.inr (Or.inl ⟨rfl, h⟩)⟩
  · exact ⟨1, rfl, Or.inr (Or.inr (Or.inl ⟨rfl, h⟩))⟩
  · exact ⟨2, rfl, Or.inr (Or.inr (Or.inr ⟨rfl, h⟩))⟩
theorem ty_of {u v ty : Nat} (hu : u < 12) (hv : v < (clX u).2.2) (h : (fT u)[v]? = some ty) : (ty = 0 → clTy u v = .int) ∧ (ty = 4 → clTy u v = .boolean) ∧ (ty = 1 → clTy u v = .long) ∧ (ty = 2 → (∃ n, clTy u v = .object n) ∨ ∃ n, clTy u v = .array n) := by
  obtain ⟨t1, t2, t3, t4, t5, t6⟩ := clTy_cd u hu v hv
  rw [h] at t1
  have t1 := Option.some.inj t1
  generalize clTy u v = q at t1 t2 t3 t4 t5 t6
  cases q <;> simp_all [cdT]
theorem sw_table {t : aMt} {k : Nat} {x : Int32} {d : Nat} {K : Nat → aO} {q : Option Value × aH} : ∀ (ts : List (Int32 × Nat)) (os : List Int) (lo : Int), swT t k lo ts os = true → sw_ x d K ts = some q → (∃ j o g, os[j]? = some o ∧ x.toInt = lo + j ∧ (tP t k : Int) + o = (tP t g : Int) ∧ K g = some q) ∨ ((x.toInt < lo ∨ lo + ts.length ≤ x.toInt) ∧ K d = some q)
  | [], [], lo, h, hq => Or.inr ⟨by simp; omega, hq⟩
  | [], o :: os, lo, h, hq => by simp [swT] at h
  | (c, g) :: r, [], lo, h, hq => by simp [swT] at h
  | (c, g) :: r, o :: os, lo, h, hq => by
    simp only [swT, jp, Bool.and_eq_true, decide_eq_true_eq] at h
    obtain ⟨⟨h1, h2⟩, h3⟩ := h
    unfold sw_ at hq
    split at hq
    · next hx => exact Or.inl ⟨0, o, g, rfl, by rw [hx, h1]; simp, h2, hq⟩
    · next hx =>
      rcases sw_table r os (lo + 1) h3 hq with ⟨j, o', g', e1, e2, e3, e4⟩ | ⟨e1, e2⟩
      · exact Or.inl ⟨j + 1, o', g', by simpa using e1, by rw [e2]; omega, e3, e4⟩
      · refine Or.inr ⟨?_, e2⟩
        have : x.toInt ≠ lo := fun z => hx (Int32.toInt_inj.mp (z.trans h1.symm))
        simp only [List.length_cons]
        rcases e1 with e1 | e1
        · left; omega
        · right; omega
theorem sw_look {t : aMt} {k : Nat} {x : Int32} {d : Nat} {df : Int} {K : Nat → aO} {q : Option Value × aH} (hd : (tP t k : Int) + df = (tP t d : Int)) : ∀ (ts : List (Int32 × Nat)) (ps : List (Int × Int)), lkT t k ts ps = true → sw_ x d K ts = some q → ∃ g, (tP t k : Int) + Op.lookupswitch.offset ps df x.toInt = (tP t g : Int) ∧ K g = some q
  | [], [], h, hq => ⟨d, hd, hq⟩
  | [], o :: os, h, hq => by simp [lkT] at h
  | (c, g) :: r, [], h, hq => by simp [lkT] at h
  | (c, g) :: r, (a, o) :: os, h, hq => by
    simp only [lkT, jp, Bool.and_eq_true, decide_eq_true_eq] at h
    obtain ⟨⟨h1, h2⟩, h3⟩ := h
    unfold sw_ at hq
    rw [Op.lookupswitch.offset_cons]
    split at hq
    · next hx => exact ⟨g, by rw [if_pos (by first | (rw [hx]; exact h1) | (rw [hx]; exact h1.symm) | simp [hx, h1])]; exact h2, hq⟩
    · next hx =>
      have : x.toInt ≠ a := fun z => hx (Int32.toInt_inj.mp (z.trans h1.symm))
      rw [if_neg (by first | exact this | exact fun z => this z.symm | simp [this])]
      exact sw_look hd r os h3 hq
theorem x_ldcwS {p : Program} {l : Launch} {e : Env} {R : Room} {s : State} {m : MethodId} {args : Array Value} {below : List Frame} {meth : Method} {c : Code} {H : Heap} {locs : List Loc} {cells slots : Nat} {Q : State → Prop} {cc : ByteArray} {pc : Nat} {ls : Array Slot} {rest : List Value} (hexec : p.tables.exec = Jvm.exec) (hb : c.code = cc) {own tx : String} {index q : Nat} (hown : s.vm.findClass own = some m.cls) (hZ : vk_R own index tx q s) (hdg : decode cc pc = .ok (.ldc_w index, 3))
    (k : W p l e R s m args below meth c H locs cells slots Q (F0 m (pc + 3) ls (.ref q :: rest))) : W p l e R s m args below meth c H locs cells slots Q (F0 m pc ls rest) := by
  intro T hT X
  obtain ⟨t, a1, b1⟩ := k T hT X
  refine ⟨t, ?_, b1⟩
  obtain ⟨kk, cf, i, a', hk, hcf, hcp, -, hr, hev'⟩ := Cond.stringRef_spec hown hZ.1
  cases hZ.2.symm.trans hev'
  obtain ⟨k', hk', he⟩ := X.warmed.alike.2.2 _ _ hk
  have hr' : k'.resolved[index]? = some (some (.string q)) := by
    rcases X.warmed.entry hk hk' index with h | ⟨h, -⟩
    · rw [← h]; exact hr
    · rw [hr] at h; cases h
  have hdg' : decode c.code pc = .ok (.ldc_w index, 3) := by rw [hb]; exact hdg
  jvm_step X.here [X.here.top, hexec, hdg', ldc_w.wp_string (e := e) (s := T) (f := F0 m pc ls rest) X.here.top hk' (by rw [he]; exact hcf) hcp hr']
  exact a1
theorem rk_some {z : Nat} {as : List Value} {S : aH} {x : aO} {q : Option Value × aH} (h : rk_ z as S x = some q) : (z = 99 ∨ ∃ a As, as = .ref a :: As ∧ (z = 98 ∨ aK S a = z)) ∧ x = some q := by
  unfold rk_ at h
  split at h
  · exact ⟨Or.inl rfl, h⟩
  · split at h
    · exact ⟨Or.inr ⟨_, _, rfl, Or.inl rfl⟩, h⟩
    · cases h
  · split at h
    · obtain ⟨h1, h2⟩ := gd_some h
      exact ⟨Or.inr ⟨_, _, rfl, Or.inr h1⟩, h2⟩
    · cases h
theorem rm_of {g : aMt} {ts : List (Int32 × Nat)} (h : rmT g ts = true) : (ts = [] ∧ (tM g).1 = 0 ∧ (tM g).2 = 0) ∨ ∃ i1 i2, ts = [(i1, (tM g).1), (i2, (tM g).2)] := by
  unfold rmT at h
  split at h
  · simp only [decide_eq_true_eq] at h
    exact Or.inl ⟨rfl, by rw [h], by rw [h]⟩
  · simp only [decide_eq_true_eq] at h
    exact Or.inr ⟨_, _, by rw [h]⟩
  · cases h
theorem ca_some {u v w z mc ms : Nat} {ts : List (Int32 × Nat)} {st : List Value} {b : aB} {S : aH} {C : aC} {K : List Value → aB → aH → aO} {q : Option Value × aH} (h : ca_ u v w z ts st b S C K = some q) (hts : (ts = [] ∧ mc = 0 ∧ ms = 0) ∨ ∃ i1 i2, ts = [(i1, mc), (i2, ms)]) :
    ∃ xs r val S1, st = xs ++ r ∧ xs.length = v ∧ (r.map fun v => v.category).sum ≤ 8 ∧ (z = 99 ∨ ∃ a As, xs.reverse = .ref a :: As ∧ (z = 98 ∨ aK S a = z)) ∧ mc ≤ b.1 ∧ ms ≤ b.2 ∧ C u xs.reverse S = some (val, S1) ∧ (val = none ∨ (∃ x, val = some (.int x)) ∨ ∃ x, val = some (.long x)) ∧ K (val.toList ++ r) (b.1 - mc, b.2 - ms) S1 = some q := by
  unfold ca_ at h
  obtain ⟨xs, r, rfl, hlen, h⟩ := tk_some _ _ _ h
  rw [List.append_nil] at h
  obtain ⟨hcs, h⟩ := bo_some h
  rw [Nat.ble_eq, cs_sum] at hcs
  obtain ⟨hz, h⟩ := rk_some h
  rcases hts with ⟨rfl, rfl, rfl⟩ | ⟨i1, i2, rfl⟩
  · obtain ⟨val, S1, h1, h2, h3⟩ := cl_some h
    exact ⟨xs, r, val, S1, rfl, hlen, hcs, hz, Nat.zero_le _, Nat.zero_le _, h1, h2, h3⟩
  · obtain ⟨hg, h⟩ := gd_some h
    obtain ⟨val, S1, h1, h2, h3⟩ := cl_some h
    exact ⟨xs, r, val, S1, rfl, hlen, hcs, hz, hg.1, hg.2, h1, h2, h3⟩
set_option maxHeartbeats 40000000 in
set_option maxRecDepth 100000 in
theorem bd_step {l : Launch} {D : va_G} {cy : Nat → ClassId} {adV : Nat → Nat} {E : aEt} {lx : List Value → aH → aO} (hx3 : Xs l D cy adV E lx 903) (hx4 : Xs l D cy adV E lx 904) (hx5 : Xs l D cy adV E lx 905) {n : Nat} (hB : Bd l D cy adV E lx n) : Bd l D cy adV E lx (n + 1) := by
  intro id hid p e R s m args below meth c A Q v S' hcx hrt k ls st b S H locs cu su Lc h hlh hW hS hEe hrc hrs
  have ih := hB id hid p e R s m args below meth c A Q v S' hcx hrt
  have hok := mGx_ok hid
  unfold chkT at hok
  simp only [Bool.and_eq_true, decide_eq_true_eq] at hok
  obtain ⟨hok0, hcl⟩ := hok
  simp only [am] at h
  cases hi : cg_ (aCode id) k with
  | none => rw [hi] at h; cases h
  | some i =>
  rw [hi] at h
  have hck := chkL_get (mGx id) (tC (mGx id)) 0 k i hcl hi
  rw [Nat.zero_add] at hck
  have hi9 : cg_ (tC (mGx id)) k = some i := hi
  generalize hCe : (fun u as S => if u < 900 then bo_ (Nat.ble (cs_ as) (aML u)) (am aCode aML aMb (xtF lx) n u 0 (pd_ (ea_ as) (aML u)) [] (aMb u) S) else xtF lx u as S) = C at h
  have hcx0 := hcx
  obtain ⟨hx, hb, hml, hown, hts, hnm, hE, hA, hRf, hRl, hsc⟩ := hcx0
  have hK := hE.1
  generalize mGx id = t at *
  obtain ⟨ins, ⟨u, w1, w, z⟩, cst, d, ts⟩ := i
  cases ins with
  | iload_n j =>
    simp only [ex1] at h
    simp only [chk, nx, dc, jp, Bool.and_eq_true, decide_eq_true_eq] at hck
    obtain ⟨hj, hd, hp⟩ := hck
    obtain ⟨x, hl, h⟩ := lI_some h
    refine lv_iload_n hx hb hd hj (hlh.at hl) ?_
    rw [← hp]
    exact ih _ _ _ _ _ _ _ _ _ _ h hlh hW hS hEe hrc hrs
  | lload_n j =>
    simp only [ex1] at h
    simp only [chk, nx, dc, jp, Bool.and_eq_true, decide_eq_true_eq] at hck
    obtain ⟨hj, hd, hp⟩ := hck
    obtain ⟨x, hl, h⟩ := lJ_some h
    refine lv_lload_n hx hb hd hj (hlh.at hl) ?_
    rw [← hp]
    exact ih _ _ _ _ _ _ _ _ _ _ h hlh hW hS hEe hrc hrs
  | aload_n j =>
    simp only [ex1] at h
    simp only [chk, nx, dc, jp, Bool.and_eq_true, decide_eq_true_eq] at hck
    obtain ⟨hj, hd, hp⟩ := hck
    obtain ⟨x, hl, h⟩ := lR_some h
    refine lv_aload_n hx hb hd hj (hlh.at hl) ?_
    rw [← hp]
    exact ih _ _ _ _ _ _ _ _ _ _ h hlh hW hS hEe hrc hrs
  | iload j =>
    simp only [ex1] at h
    simp only [chk, nx, dc, jp, Bool.and_eq_true, decide_eq_true_eq] at hck
    obtain ⟨hj, hd, hp⟩ := hck
    subst hj
    obtain ⟨x, hl, h⟩ := lI_some h
    refine lv_iload hx hb hd (hlh.at hl) ?_
    rw [← hp]
    exact ih _ _ _ _ _ _ _ _ _ _ h hlh hW hS hEe hrc hrs
  | lload j =>
    simp only [ex1] at h
    simp only [chk, nx, dc, jp, Bool.and_eq_true, decide_eq_true_eq] at hck
    obtain ⟨hj, hd, hp⟩ := hck
    subst hj
    obtain ⟨x, hl, h⟩ := lJ_some h
    refine lv_lload hx hb hd (hlh.at hl) ?_
    rw [← hp]
    exact ih _ _ _ _ _ _ _ _ _ _ h hlh hW hS hEe hrc hrs
  | aload j =>
    simp only [ex1] at h
    simp only [chk, nx, dc, jp, Bool.and_eq_true, decide_eq_true_eq] at hck
    obtain ⟨hj, hd, hp⟩ := hck
    subst hj
    obtain ⟨x, hl, h⟩ := lR_some h
    refine lv_aload hx hb hd (hlh.at hl) ?_
    rw [← hp]
    exact ih _ _ _ _ _ _ _ _ _ _ h hlh hW hS hEe hrc hrs
  | istore_n j =>
    simp only [ex1] at h
    simp only [chk, nx, dc, jp, Bool.and_eq_true, decide_eq_true_eq] at hck
    obtain ⟨⟨hj, hlt⟩, hd, hp⟩ := hck
    obtain ⟨x, r, rfl, h⟩ := pI_some h
    obtain ⟨lv, q1, q2⟩ := hlh
    refine lv_istore_n hx hb hd hj q1 hlt rfl (fun Lc h9 => ?_)
    rw [← hp]
    exact ih _ _ _ _ _ _ _ _ _ _ h (lh.st (Lc := Lc) q2 h9) hW hS hEe hrc hrs
  | lstore_n j =>
    simp only [ex1] at h
    simp only [chk, nx, dc, jp, Bool.and_eq_true, decide_eq_true_eq] at hck
    obtain ⟨⟨hj, hlt⟩, hd, hp⟩ := hck
    obtain ⟨x, r, rfl, h⟩ := pJ_some h
    obtain ⟨lv, q1, q2⟩ := hlh
    refine lv_lstore_n hx hb hd hj q1 hlt rfl (fun Lc h9 => ?_)
    rw [← hp]
    exact ih _ _ _ _ _ _ _ _ _ _ h (lh.sl (Lc := Lc) q2 h9) hW hS hEe hrc hrs
  | astore_n j =>
    simp only [ex1] at h
    simp only [chk, nx, dc, jp, Bool.and_eq_true, decide_eq_true_eq] at hck
    obtain ⟨⟨hj, hlt⟩, hd, hp⟩ := hck
    obtain ⟨x, r, rfl, h⟩ := pR_some h
    obtain ⟨lv, q1, q2⟩ := hlh
    refine lv_astore_n hx hb hd hj q1 hlt rfl (fun Lc h9 => ?_)
    rw [← hp]
    exact ih _ _ _ _ _ _ _ _ _ _ h (lh.st (Lc := Lc) q2 h9) hW hS hEe hrc hrs
  | istore j =>
    simp only [ex1] at h
    simp only [chk, nx, dc, jp, Bool.and_eq_true, decide_eq_true_eq] at hck
    obtain ⟨⟨hj, hlt⟩, hd, hp⟩ := hck
    subst hj
    obtain ⟨x, r, rfl, h⟩ := pI_some h
    obtain ⟨lv, q1, q2⟩ := hlh
    refine lv_istore hx hb hd q1 hlt rfl (fun Lc h9 => ?_)
    rw [← hp]
    exact ih _ _ _ _ _ _ _ _ _ _ h (lh.st (Lc := Lc) q2 h9) hW hS hEe hrc hrs
  | lstore j =>
    simp only [ex1] at h
    simp only [chk, nx, dc, jp, Bool.and_eq_true, decide_eq_true_eq] at hck
    obtain ⟨⟨hj, hlt⟩, hd, hp⟩ := hck
    subst hj
    obtain ⟨x, r, rfl, h⟩ := pJ_some h
    obtain ⟨lv, q1, q2⟩ := hlh
    refine lv_lstore hx hb hd q1 hlt rfl (fun Lc h9 => ?_)
    rw [← hp]
    exact ih _ _ _ _ _ _ _ _ _ _ h (lh.sl (Lc := Lc) q2 h9) hW hS hEe hrc hrs
  | astore j =>
    simp only [ex1] at h
    simp only [chk, nx, dc, jp, Bool.and_eq_true, decide_eq_true_eq] at hck
    obtain ⟨⟨hj, hlt⟩, hd, hp⟩ := hck
    subst hj
    obtain ⟨x, r, rfl, h⟩ := pR_some h
    obtain ⟨lv, q1, q2⟩ := hlh
    refine lv_astore hx hb hd q1 hlt rfl (fun Lc h9 => ?_)
    rw [← hp]
    exact ih _ _ _ _ _ _ _ _ _ _ h (lh.st (Lc := Lc) q2 h9) hW hS hEe hrc hrs
  | iinc j y =>
    simp only [ex1] at h
    simp only [chk, nx, dc, jp, Bool.and_eq_true, decide_eq_true_eq] at hck
    obtain ⟨⟨⟨hj, hlt⟩, hc9⟩, hd, hp⟩ := hck
    subst hj
    obtain ⟨x, hl, h⟩ := lI_some h
    obtain ⟨lv, q1, q2⟩ := hlh
    obtain ⟨k9, hk9⟩ := List.getElem?_of_mem (q2 _ _ hl)
    refine lv_iinc hx hb hd q1 hk9 (by rw [hc9]) hlt rfl (fun Lc h9 => ?_)
    rw [← hp]
    exact ih _ _ _ _ _ _ _ _ _ _ h (lh.st (Lc := Lc) q2 h9) hW hS hEe hrc hrs
  | iconst y =>
    simp only [ex1] at h
    simp only [chk, nx, dc, jp, Bool.and_eq_true, decide_eq_true_eq] at hck
    obtain ⟨hv9, hd, hp⟩ := hck
    refine lv_iconst hx hb hd hv9 ?_
    rw [← hp]
    exact ih _ _ _ _ _ _ _ _ _ _ h hlh hW hS hEe hrc hrs
  | bipush y =>
    simp only [ex1] at h
    simp only [chk, nx, dc, jp, Bool.and_eq_true, decide_eq_true_eq] at hck
    obtain ⟨hv9, hd, hp⟩ := hck
    refine lv_bipush hx hb hd hv9 ?_
    rw [← hp]
    exact ih _ _ _ _ _ _ _ _ _ _ h hlh hW hS hEe hrc hrs
  | sipush y =>
    simp only [ex1] at h
    simp only [chk, nx, dc, jp, Bool.and_eq_true, decide_eq_true_eq] at hck
    obtain ⟨hv9, hd, hp⟩ := hck
    refine lv_sipush hx hb hd hv9 ?_
    rw [← hp]
    exact ih _ _ _ _ _ _ _ _ _ _ h hlh hW hS hEe hrc hrs
  | lconst y =>
    simp only [ex1] at h
    simp only [chk, nx, dc, jp, Bool.and_eq_true, decide_eq_true_eq] at hck
    obtain ⟨hv9, hd, hp⟩ := hck
    refine lv_lconst hx hb hd hv9 ?_
    rw [← hp]
    exact ih _ _ _ _ _ _ _ _ _ _ h hlh hW hS hEe hrc hrs
  | ldc y =>
    simp only [ex1] at h
    simp only [chk, nx, dc, jp, Bool.and_eq_true, decide_eq_true_eq] at hck
    obtain ⟨hm, hd, hp⟩ := hck
    by_cases hw : w = 0
    · subst hw
      simp only [decide_eq_true_eq] at hm
      refine lv_ldc hx hb hown (hts _ (ciW0 _ (List.mem_map.mpr ⟨_, hm, rfl⟩))) hd ?_
      rw [← hp]
      exact ih _ _ _ _ _ _ _ _ _ _ h hlh hW hS hEe hrc hrs
    · obtain ⟨w, rfl⟩ : ∃ w9, w = w9 + 1 := ⟨w - 1, by omega⟩
      simp only [decide_eq_true_eq] at hm
      refine va_ldcS hx hb hown (hE.2.2.2.2.1 _ hm) hd ?_
      rw [← hp, ← hEe]
      exact ih _ _ _ _ _ _ _ _ _ _ h hlh hW hS hEe hrc hrs
  | ldc_w y =>
    simp only [ex1] at h
    simp only [chk, nx, dc, jp, Bool.and_eq_true, decide_eq_true_eq] at hck
    obtain ⟨hm, hd, hp⟩ := hck
    by_cases hw : w = 0
    · subst hw
      simp only [decide_eq_true_eq] at hm
      refine lv_ldcw hx hb hown (hts _ (ciW0 _ (List.mem_map.mpr ⟨_, hm, rfl⟩))) hd ?_
      rw [← hp]
      exact ih _ _ _ _ _ _ _ _ _ _ h hlh hW hS hEe hrc hrs
    · obtain ⟨w, rfl⟩ : ∃ w9, w = w9 + 1 := ⟨w - 1, by omega⟩
      simp only [decide_eq_true_eq] at hm
      refine x_ldcwS hx hb hown (hE.2.2.2.2.1 _ hm) hd ?_
      rw [← hp, ← hEe]
      exact ih _ _ _ _ _ _ _ _ _ _ h hlh hW hS hEe hrc hrs
  | ldc2_w y =>
    simp only [ex1] at h
    simp only [chk, nx, dc, jp, Bool.and_eq_true, decide_eq_true_eq] at hck
    obtain ⟨hm, hd, hp⟩ := hck
    refine lv_ldc2 hx hb hown (hts _ (clW0 _ (List.mem_map.mpr ⟨_, hm, rfl⟩))) hd ?_
    rw [← hp]
    exact ih _ _ _ _ _ _ _ _ _ _ h hlh hW hS hEe hrc hrs
  | iadd =>
    simp only [ex1] at h
    simp only [chk, nx, dc, jp, Bool.and_eq_true, decide_eq_true_eq] at hck
    obtain ⟨hd, hp⟩ := hck
    obtain ⟨y, r, rfl, h⟩ := pI_some h
    obtain ⟨x, r, rfl, h⟩ := pI_some h
    refine lv_iadd hx hb hd ?_
    rw [← hp]
    exact ih _ _ _ _ _ _ _ _ _ _ h hlh hW hS hEe hrc hrs
  | isub =>
    simp only [ex1] at h
    simp only [chk, nx, dc, jp, Bool.and_eq_true, decide_eq_true_eq] at hck
    obtain ⟨hd, hp⟩ := hck
    obtain ⟨y, r, rfl, h⟩ := pI_some h
    obtain ⟨x, r, rfl, h⟩ := pI_some h
    refine lv_isub hx hb hd ?_
    rw [← hp]
    exact ih _ _ _ _ _ _ _ _ _ _ h hlh hW hS hEe hrc hrs
  | imul =>
    simp only [ex1] at h
    simp only [chk, nx, dc, jp, Bool.and_eq_true, decide_eq_true_eq] at hck
    obtain ⟨hd, hp⟩ := hck
    obtain ⟨y, r, rfl, h⟩ := pI_some h
    obtain ⟨x, r, rfl, h⟩ := pI_some h
    refine lv_imul hx hb hd ?_
    rw [← hp]
    exact ih _ _ _ _ _ _ _ _ _ _ h hlh hW hS hEe hrc hrs
  | iand =>
    simp only [ex1] at h
    simp only [chk, nx, dc, jp, Bool.and_eq_true, decide_eq_true_eq] at hck
    obtain ⟨hd, hp⟩ := hck
    obtain ⟨y, r, rfl, h⟩ := pI_some h
    obtain ⟨x, r, rfl, h⟩ := pI_some h
    refine lv_iand hx hb hd ?_
    rw [← hp]
    exact ih _ _ _ _ _ _ _ _ _ _ h hlh hW hS hEe hrc hrs
  | ior =>
    simp only [ex1] at h
    simp only [chk, nx, dc, jp, Bool.and_eq_true, decide_eq_true_eq] at hck
    obtain ⟨hd, hp⟩ := hck
    obtain ⟨y, r, rfl, h⟩ := pI_some h
    obtain ⟨x, r, rfl, h⟩ := pI_some h
    refine lv_ior hx hb hd ?_
    rw [← hp]
    exact ih _ _ _ _ _ _ _ _ _ _ h hlh hW hS hEe hrc hrs
  | ixor =>
    simp only [ex1] at h
    simp only [chk, nx, dc, jp, Bool.and_eq_true, decide_eq_true_eq] at hck
    obtain ⟨hd, hp⟩ := hck
    obtain ⟨y, r, rfl, h⟩ := pI_some h
    obtain ⟨x, r, rfl, h⟩ := pI_some h
    refine lv_ixor hx hb hd ?_
    rw [← hp]
    exact ih _ _ _ _ _ _ _ _ _ _ h hlh hW hS hEe hrc hrs
  | ishl =>
    simp only [ex1] at h
    simp only [chk, nx, dc, jp, Bool.and_eq_true, decide_eq_true_eq] at hck
    obtain ⟨hd, hp⟩ := hck
    obtain ⟨y, r, rfl, h⟩ := pI_some h
    obtain ⟨x, r, rfl, h⟩ := pI_some h
    refine lv_ishl hx hb hd ?_
    rw [← hp]
    exact ih _ _ _ _ _ _ _ _ _ _ h hlh hW hS hEe hrc hrs
  | ishr =>
    simp only [ex1] at h
    simp only [chk, nx, dc, jp, Bool.and_eq_true, decide_eq_true_eq] at hck
    obtain ⟨hd, hp⟩ := hck
    obtain ⟨y, r, rfl, h⟩ := pI_some h
    obtain ⟨x, r, rfl, h⟩ := pI_some h
    refine lv_ishr hx hb hd ?_
    rw [← hp]
    exact ih _ _ _ _ _ _ _ _ _ _ h hlh hW hS hEe hrc hrs
  | idiv =>
    simp only [ex1] at h
    simp only [chk, nx, dc, jp, Bool.and_eq_true, decide_eq_true_eq] at hck
    obtain ⟨hd, hp⟩ := hck
    obtain ⟨y, r, rfl, h⟩ := pI_some h
    obtain ⟨x, r, rfl, h⟩ := pI_some h
    obtain ⟨hne, h⟩ := gd_some h
    refine lv_idiv hx hb hd hne ?_
    rw [← hp]
    exact ih _ _ _ _ _ _ _ _ _ _ h hlh hW hS hEe hrc hrs
  | irem =>
    simp only [ex1] at h
    simp only [chk, nx, dc, jp, Bool.and_eq_true, decide_eq_true_eq] at hck
    obtain ⟨hd, hp⟩ := hck
    obtain ⟨y, r, rfl, h⟩ := pI_some h
    obtain ⟨x, r, rfl, h⟩ := pI_some h
    obtain ⟨hne, h⟩ := gd_some h
    refine lv_irem hx hb hd hne ?_
    rw [← hp]
    exact ih _ _ _ _ _ _ _ _ _ _ h hlh hW hS hEe hrc hrs
  | iushr =>
    simp only [ex1] at h
    simp only [chk, nx, dc, jp, Bool.and_eq_true, decide_eq_true_eq] at hck
    obtain ⟨hd, hp⟩ := hck
    obtain ⟨y, r, rfl, h⟩ := pI_some h
    obtain ⟨x, r, rfl, h⟩ := pI_some h
    refine lv_iushr hx hb hd rfl ?_
    rw [← hp]
    exact ih _ _ _ _ _ _ _ _ _ _ h hlh hW hS hEe hrc hrs
  | ladd =>
    simp only [ex1] at h
    simp only [chk, nx, dc, jp, Bool.and_eq_true, decide_eq_true_eq] at hck
    obtain ⟨hd, hp⟩ := hck
    obtain ⟨y, r, rfl, h⟩ := pJ_some h
    obtain ⟨x, r, rfl, h⟩ := pJ_some h
    refine lv_ladd hx hb hd ?_
    rw [← hp]
    exact ih _ _ _ _ _ _ _ _ _ _ h hlh hW hS hEe hrc hrs
  | lsub =>
    simp only [ex1] at h
    simp only [chk, nx, dc, jp, Bool.and_eq_true, decide_eq_true_eq] at hck
    obtain ⟨hd, hp⟩ := hck
    obtain ⟨y, r, rfl, h⟩ := pJ_some h
    obtain ⟨x, r, rfl, h⟩ := pJ_some h
    refine lv_lsub hx hb hd ?_
    rw [← hp]
    exact ih _ _ _ _ _ _ _ _ _ _ h hlh hW hS hEe hrc hrs
  | lmul =>
    simp only [ex1] at h
    simp only [chk, nx, dc, jp, Bool.and_eq_true, decide_eq_true_eq] at hck
    obtain ⟨hd, hp⟩ := hck
    obtain ⟨y, r, rfl, h⟩ := pJ_some h
    obtain ⟨x, r, rfl, h⟩ := pJ_some h
    refine lv_lmul hx hb hd ?_
    rw [← hp]
    exact ih _ _ _ _ _ _ _ _ _ _ h hlh hW hS hEe hrc hrs
  | land =>
    simp only [ex1] at h
    simp only [chk, nx, dc, jp, Bool.and_eq_true, decide_eq_true_eq] at hck
    obtain ⟨hd, hp⟩ := hck
    obtain ⟨y, r, rfl, h⟩ := pJ_some h
    obtain ⟨x, r, rfl, h⟩ := pJ_some h
    refine lv_land hx hb hd ?_
    rw [← hp]
    exact ih _ _ _ _ _ _ _ _ _ _ h hlh hW hS hEe hrc hrs
  | lor =>
    simp only [ex1] at h
    simp only [chk, nx, dc, jp, Bool.and_eq_true, decide_eq_true_eq] at hck
    obtain ⟨hd, hp⟩ := hck
    obtain ⟨y, r, rfl, h⟩ := pJ_some h
    obtain ⟨x, r, rfl, h⟩ := pJ_some h
    refine lv_lor hx hb hd ?_
    rw [← hp]
    exact ih _ _ _ _ _ _ _ _ _ _ h hlh hW hS hEe hrc hrs
  | lxor =>
    simp only [ex1] at h
    simp only [chk, nx, dc, jp, Bool.and_eq_true, decide_eq_true_eq] at hck
    obtain ⟨hd, hp⟩ := hck
    obtain ⟨y, r, rfl, h⟩ := pJ_some h
    obtain ⟨x, r, rfl, h⟩ := pJ_some h
    refine lv_lxor hx hb hd ?_
    rw [← hp]
    exact ih _ _ _ _ _ _ _ _ _ _ h hlh hW hS hEe hrc hrs
  | ldiv =>
    simp only [ex1] at h
    simp only [chk, nx, dc, jp, Bool.and_eq_true, decide_eq_true_eq] at hck
    obtain ⟨hd, hp⟩ := hck
    obtain ⟨y, r, rfl, h⟩ := pJ_some h
    obtain ⟨x, r, rfl, h⟩ := pJ_some h
    obtain ⟨hne, h⟩ := gd_some h
    refine lv_ldiv hx hb hd hne ?_
    rw [← hp]
    exact ih _ _ _ _ _ _ _ _ _ _ h hlh hW hS hEe hrc hrs
  | lrem =>
    simp only [ex1] at h
    simp only [chk, nx, dc, jp, Bool.and_eq_true, decide_eq_true_eq] at hck
    obtain ⟨hd, hp⟩ := hck
    obtain ⟨y, r, rfl, h⟩ := pJ_some h
    obtain ⟨x, r, rfl, h⟩ := pJ_some h
    obtain ⟨hne, h⟩ := gd_some h
    refine lv_lrem hx hb hd hne ?_
    rw [← hp]
    exact ih _ _ _ _ _ _ _ _ _ _ h hlh hW hS hEe hrc hrs
  | lshl =>
    simp only [ex1] at h
    simp only [chk, nx, dc, jp, Bool.and_eq_true, decide_eq_true_eq] at hck
    obtain ⟨hd, hp⟩ := hck
    obtain ⟨y, r, rfl, h⟩ := pI_some h
    obtain ⟨x, r, rfl, h⟩ := pJ_some h
    refine lv_lshl hx hb hd rfl ?_
    rw [← hp]
    exact ih _ _ _ _ _ _ _ _ _ _ h hlh hW hS hEe hrc hrs
  | lshr =>
    simp only [ex1] at h
    simp only [chk, nx, dc, jp, Bool.and_eq_true, decide_eq_true_eq] at hck
    obtain ⟨hd, hp⟩ := hck
    obtain ⟨y, r, rfl, h⟩ := pI_some h
    obtain ⟨x, r, rfl, h⟩ := pJ_some h
    refine lv_lshr hx hb hd rfl ?_
    rw [← hp]
    exact ih _ _ _ _ _ _ _ _ _ _ h hlh hW hS hEe hrc hrs
  | lushr =>
    simp only [ex1] at h
    simp only [chk, nx, dc, jp, Bool.and_eq_true, decide_eq_true_eq] at hck
    obtain ⟨hd, hp⟩ := hck
    obtain ⟨y, r, rfl, h⟩ := pI_some h
    obtain ⟨x, r, rfl, h⟩ := pJ_some h
    refine lv_lushr hx hb hd rfl ?_
    rw [← hp]
    exact ih _ _ _ _ _ _ _ _ _ _ h hlh hW hS hEe hrc hrs
  | lcmp =>
    simp only [ex1] at h
    simp only [chk, nx, dc, jp, Bool.and_eq_true, decide_eq_true_eq] at hck
    obtain ⟨hd, hp⟩ := hck
    obtain ⟨y, r, rfl, h⟩ := pJ_some h
    obtain ⟨x, r, rfl, h⟩ := pJ_some h
    refine W.lcmp hx hb hd ?_
    rw [← hp]
    exact ih _ _ _ _ _ _ _ _ _ _ h hlh hW hS hEe hrc hrs
  | ineg =>
    simp only [ex1] at h
    simp only [chk, nx, dc, jp, Bool.and_eq_true, decide_eq_true_eq] at hck
    obtain ⟨hd, hp⟩ := hck
    obtain ⟨y, r, rfl, h⟩ := pI_some h
    refine lv_ineg hx hb hd ?_
    rw [← hp]
    exact ih _ _ _ _ _ _ _ _ _ _ h hlh hW hS hEe hrc hrs
  | i2l =>
    simp only [ex1] at h
    simp only [chk, nx, dc, jp, Bool.and_eq_true, decide_eq_true_eq] at hck
    obtain ⟨hd, hp⟩ := hck
    obtain ⟨y, r, rfl, h⟩ := pI_some h
    refine lv_i2l hx hb hd rfl ?_
    rw [← hp]
    exact ih _ _ _ _ _ _ _ _ _ _ h hlh hW hS hEe hrc hrs
  | l2i =>
    simp only [ex1] at h
    simp only [chk, nx, dc, jp, Bool.and_eq_true, decide_eq_true_eq] at hck
    obtain ⟨hd, hp⟩ := hck
    obtain ⟨y, r, rfl, h⟩ := pJ_some h
    refine lv_l2i hx hb hd rfl ?_
    rw [← hp]
    exact ih _ _ _ _ _ _ _ _ _ _ h hlh hW hS hEe hrc hrs
  | i2b =>
    simp only [ex1] at h
    simp only [chk, nx, dc, jp, Bool.and_eq_true, decide_eq_true_eq] at hck
    obtain ⟨hd, hp⟩ := hck
    obtain ⟨y, r, rfl, h⟩ := pI_some h
    refine lv_i2b hx hb hd rfl ?_
    rw [← hp]
    exact ih _ _ _ _ _ _ _ _ _ _ h hlh hW hS hEe hrc hrs
  | dup =>
    simp only [ex1] at h
    simp only [chk, nx, dc, jp, Bool.and_eq_true, decide_eq_true_eq] at hck
    obtain ⟨hd, hp⟩ := hck
    split at h
    · refine lv_dup hx hb hd rfl ?_
      rw [← hp]
      exact ih _ _ _ _ _ _ _ _ _ _ h hlh hW hS hEe hrc hrs
    · refine lv_dup hx hb hd rfl ?_
      rw [← hp]
      exact ih _ _ _ _ _ _ _ _ _ _ h hlh hW hS hEe hrc hrs
    · cases h
  | dup2 =>
    simp only [ex1] at h
    simp only [chk, nx, dc, jp, Bool.and_eq_true, decide_eq_true_eq] at hck
    obtain ⟨hd, hp⟩ := hck
    split at h
    · refine lv_dup2_11 hx hb hd rfl rfl ?_
      rw [← hp]
      exact ih _ _ _ _ _ _ _ _ _ _ h hlh hW hS hEe hrc hrs
    · cases h
  | pop =>
    simp only [ex1] at h
    simp only [chk, nx, dc, jp, Bool.and_eq_true, decide_eq_true_eq] at hck
    obtain ⟨hd, hp⟩ := hck
    split at h
    · refine lv_pop hx hb hd rfl ?_
      rw [← hp]
      exact ih _ _ _ _ _ _ _ _ _ _ h hlh hW hS hEe hrc hrs
    · cases h
  | getfield y =>
    simp only [ex1] at h
    simp only [chk, nx, dc, jp, Bool.and_eq_true, decide_eq_true_eq] at hck
    obtain ⟨⟨hm, hg⟩, hd, hp⟩ := hck
    obtain ⟨a, r, rfl, h⟩ := pR_some h
    obtain ⟨ha, h⟩ := gd_some h
    obtain ⟨ty, hty, hw⟩ := gt_cases hg
    have hl9 : flk args s (cnm (tO t)) y u w1 := by
      rcases hm with hm | hm
      · exact Or.inl (hts _ (flW hm rfl))
      · exact Or.inr ⟨_, va_Nw.use rfl (hE.2.1 _ hm rfl)⟩
    refine x_get hx hb hts clIn hown hK hW ha hty hl9 hd ?_
    rw [← hp]
    rcases hw with ⟨hy, rfl⟩ | ⟨rfl, rfl⟩ | ⟨rfl, rfl | rfl⟩
    · have ef : fv_ S a ty w1 = .int (aI S a w1) := by rcases hy with rfl | rfl <;> rfl
      rw [ef]
      exact ih _ _ _ _ _ _ _ _ _ _ h hlh hW hS hEe hrc hrs
    · exact ih _ _ _ _ _ _ _ _ _ _ h hlh hW hS hEe hrc hrs
    · obtain ⟨y9, hy9, h⟩ := nR_some h
      have ef : fv_ S a 2 w1 = .ref y9 := by show va_rf _ = _; rw [hy9]; rfl
      rw [ef]
      exact ih _ _ _ _ _ _ _ _ _ _ h hlh hW hS hEe hrc hrs
    · simp only [nQ] at h
      split at h
      · next y9 hy9 =>
        have ef : fv_ S a 2 w1 = .ref y9 := by show va_rf _ = _; rw [hy9]; rfl
        rw [ef]
        exact ih _ _ _ _ _ _ _ _ _ _ h hlh hW hS hEe hrc hrs
      · next hy9 =>
        have ef : fv_ S a 2 w1 = .null := by show va_rf _ = _; rw [hy9]; rfl
        rw [ef]
        exact ih _ _ _ _ _ _ _ _ _ _ h hlh hW hS hEe hrc hrs
  | putfield y =>
    simp only [ex1] at h
    simp only [chk, nx, dc, jp, Bool.and_eq_true, decide_eq_true_eq] at hck
    obtain ⟨⟨⟨hm, hg⟩, hfi⟩, hd, hp⟩ := hck
    obtain ⟨ty, hty, hw⟩ := pt_cases hg
    have hu := fT_lt hty
    have hv9 : w1 < (clX u).2.2 := by rw [← fT_len u hu]; exact (List.getElem?_eq_some_iff.mp hty).1
    obtain ⟨ty0, ty4, ty1, ty2⟩ := ty_of hu hv9 hty
    have hl9 : (Cond.fieldLink (cnm (tO t)) y ((clX u).2.1 w1).1 ((clX u).2.1 w1).2.1 ((clX u).2.1 w1).2.2.1).before args s = true ∨ (((clX u).2.1 w1).2.2.2 = false ∧ ∃ host, (Cond.fieldLinkNest (cnm (tO t)) y ((clX u).2.1 w1).1 ((clX u).2.1 w1).2.1 ((clX u).2.1 w1).2.2.1 host).before args s = true) := by
      rcases hm with hm | ⟨hm, hf9⟩
      · exact Or.inl (hts _ (flW hm rfl))
      · exact Or.inr ⟨hf9, _, va_Nw.use rfl (hE.2.1 _ hm rfl)⟩
    have hfin : ((clX u).2.1 w1).2.2.2 = false ∨ (meth.name = "<init>" ∧ ((clX u).2.1 w1).1 = cnm (tO t)) := by
      rcases hfi with hf9 | ⟨hf8, hf9⟩
      · exact Or.inl hf9
      · exact Or.inr ⟨hnm hf8, by rw [hf9]; exact hok0.1.1.2⟩
    rcases hw with ⟨rfl, rfl⟩ | ⟨rfl, rfl⟩ | ⟨rfl, rfl⟩ | ⟨rfl, rfl⟩
    · obtain ⟨x, r, rfl, h⟩ := pI_some h
      obtain ⟨a, r, rfl, h⟩ := pR_some h
      obtain ⟨ha, h⟩ := gd_some h
      refine x_put hx hb hts clIn hown hK hW hS ha hu hv9 hl9 hfin (by rw [ty0 rfl]; rfl) (by rw [ty0 rfl]; rfl) (pF_wI ha hu hty (by omega) (by omega)) rfl rfl hd (fun H1 locs1 hW1 hS1 => ?_)
      rw [← hp]
      exact ih _ _ _ _ _ _ _ _ _ _ h hlh hW1 hS1 hEe hrc hrs
    · obtain ⟨x, r, rfl, h⟩ := pI_some h
      obtain ⟨a, r, rfl, h⟩ := pR_some h
      obtain ⟨ha, h⟩ := gd_some h
      obtain ⟨h01, h⟩ := gd_some h
      refine x_put hx hb hts clIn hown hK hW hS ha hu hv9 hl9 hfin (by rw [ty4 rfl]; rcases h01 with rfl | rfl <;> rfl) (by rw [ty4 rfl]; rcases h01 with rfl | rfl <;> rfl) (pF_wI ha hu hty (by omega) (by omega)) rfl rfl hd (fun H1 locs1 hW1 hS1 => ?_)
      rw [← hp]
      exact ih _ _ _ _ _ _ _ _ _ _ h hlh hW1 hS1 hEe hrc hrs
    · obtain ⟨x, r, rfl, h⟩ := pJ_some h
      obtain ⟨a, r, rfl, h⟩ := pR_some h
      obtain ⟨ha, h⟩ := gd_some h
      refine x_put hx hb hts clIn hown hK hW hS ha hu hv9 hl9 hfin (by rw [ty1 rfl]; rfl) (by rw [ty1 rfl]; rfl) (pF_wJ ha hu hty) rfl rfl hd (fun H1 locs1 hW1 hS1 => ?_)
      rw [← hp]
      exact ih _ _ _ _ _ _ _ _ _ _ h hlh hW1 hS1 hEe hrc hrs
    · obtain ⟨x, r, rfl, h⟩ := pR_some h
      obtain ⟨a, r, rfl, h⟩ := pR_some h
      obtain ⟨ha, h⟩ := gd_some h
      refine x_put hx hb hts clIn hown hK hW hS ha hu hv9 hl9 hfin (by rcases ty2 rfl with ⟨q9, e9⟩ | ⟨q9, e9⟩ <;> rw [e9] <;> rfl) (by rcases ty2 rfl with ⟨q9, e9⟩ | ⟨q9, e9⟩ <;> rw [e9] <;> rfl) (pF_wR ha hu hty) rfl rfl hd (fun H1 locs1 hW1 hS1 => ?_)
      rw [← hp]
      exact ih _ _ _ _ _ _ _ _ _ _ h hlh hW1 hS1 hEe hrc hrs
  | iaload =>
    simp only [ex1] at h
    simp only [chk, nx, dc, jp, Bool.and_eq_true, decide_eq_true_eq] at hck
    obtain ⟨hu, hd, hp⟩ := hck
    rcases hu with rfl | ⟨rfl, h14⟩
    · obtain ⟨x, r, rfl, h⟩ := pI_some h
      obtain ⟨a, r, rfl, h⟩ := pR_some h
      obtain ⟨⟨ha, hi9⟩, h⟩ := gd_some h
      refine x_iald hx hb hK hW ha hi9 hd ?_
      rw [← hp]
      exact ih _ _ _ _ _ _ _ _ _ _ h hlh hW hS hEe hrc hrs
    · obtain ⟨x, r, rfl, h⟩ := pI_some h
      obtain ⟨a, r, rfl, h⟩ := pR_some h
      obtain ⟨⟨ha, hi9⟩, h⟩ := gd_some h
      obtain ⟨s1, s2, s3⟩ := hsc h14
      rw [hEe] at ha hi9 h
      subst ha
      refine va_sld hx hb s1 s2 s3 hS hi9 hd ?_
      rw [← hp]
      exact ih _ _ _ _ _ _ _ _ _ _ h hlh hW hS hEe hrc hrs
  | baload =>
    simp only [ex1] at h
    simp only [chk, nx, dc, jp, Bool.and_eq_true, decide_eq_true_eq] at hck
    obtain ⟨hu, hd, hp⟩ := hck
    obtain ⟨x, r, rfl, h⟩ := pI_some h
    obtain ⟨a, r, rfl, h⟩ := pR_some h
    obtain ⟨⟨ha, hi9⟩, h⟩ := gd_some h
    refine x_bald hx hb hK hW ha hu hi9 hd ?_
    rw [← hp]
    exact ih _ _ _ _ _ _ _ _ _ _ h hlh hW hS hEe hrc hrs
  | laload =>
    simp only [ex1] at h
    simp only [chk, nx, dc, jp, Bool.and_eq_true, decide_eq_true_eq] at hck
    obtain ⟨hd, hp⟩ := hck
    obtain ⟨x, r, rfl, h⟩ := pI_some h
    obtain ⟨a, r, rfl, h⟩ := pR_some h
    obtain ⟨⟨ha, hi9⟩, h⟩ := gd_some h
    refine x_lald hx hb hK hW ha hi9 hd ?_
    rw [← hp]
    exact ih _ _ _ _ _ _ _ _ _ _ h hlh hW hS hEe hrc hrs
  | aaload =>
    simp only [ex1] at h
    simp only [chk, nx, dc, jp, Bool.and_eq_true, decide_eq_true_eq] at hck
    obtain ⟨hd, hp⟩ := hck
    obtain ⟨x, r, rfl, h⟩ := pI_some h
    obtain ⟨a, r, rfl, h⟩ := pR_some h
    obtain ⟨⟨ha, hi9⟩, h⟩ := gd_some h
    obtain ⟨y9, hy9, h⟩ := nR_some h
    refine x_aald hx hb hK hW ha hi9 hy9 hd ?_
    rw [← hp]
    exact ih _ _ _ _ _ _ _ _ _ _ h hlh hW hS hEe hrc hrs
  | iastore =>
    simp only [ex1] at h
    simp only [chk, nx, dc, jp, Bool.and_eq_true, decide_eq_true_eq] at hck
    obtain ⟨hd, hp⟩ := hck
    obtain ⟨x, r, rfl, h⟩ := pI_some h
    obtain ⟨j, r, rfl, h⟩ := pI_some h
    obtain ⟨a, r, rfl, h⟩ := pR_some h
    obtain ⟨⟨ha, hi9⟩, h⟩ := gd_some h
    refine x_iast hx hb hK hW hS ha hi9 hd (fun H1 locs1 hW1 hS1 => ?_)
    rw [← hp]
    exact ih _ _ _ _ _ _ _ _ _ _ h hlh hW1 hS1 hEe hrc hrs
  | lastore =>
    simp only [ex1] at h
    simp only [chk, nx, dc, jp, Bool.and_eq_true, decide_eq_true_eq] at hck
    obtain ⟨hd, hp⟩ := hck
    obtain ⟨x, r, rfl, h⟩ := pJ_some h
    obtain ⟨j, r, rfl, h⟩ := pI_some h
    obtain ⟨a, r, rfl, h⟩ := pR_some h
    obtain ⟨⟨ha, hi9⟩, h⟩ := gd_some h
    refine x_last hx hb hK hW hS ha hi9 hd (fun H1 locs1 hW1 hS1 => ?_)
    rw [← hp]
    exact ih _ _ _ _ _ _ _ _ _ _ h hlh hW1 hS1 hEe hrc hrs
  | aastore =>
    simp only [ex1] at h
    simp only [chk, nx, dc, jp, Bool.and_eq_true, decide_eq_true_eq] at hck
    obtain ⟨hd, hp⟩ := hck
    obtain ⟨x, r, rfl, h⟩ := pR_some h
    obtain ⟨j, r, rfl, h⟩ := pI_some h
    obtain ⟨a, r, rfl, h⟩ := pR_some h
    obtain ⟨⟨ha, hi9, hx9⟩, h⟩ := gd_some h
    refine x_aast hx hb hK hW hS ha hi9 hx9 hd (fun H1 locs1 hW1 hS1 => ?_)
    rw [← hp]
    exact ih _ _ _ _ _ _ _ _ _ _ h hlh hW1 hS1 hEe hrc hrs
  | bastore =>
    simp only [ex1] at h
    simp only [chk, nx, dc, jp, Bool.and_eq_true, decide_eq_true_eq] at hck
    obtain ⟨hu, hd, hp⟩ := hck
    obtain ⟨x, r, rfl, h⟩ := pI_some h
    obtain ⟨j, r, rfl, h⟩ := pI_some h
    obtain ⟨a, r, rfl, h⟩ := pR_some h
    obtain ⟨⟨ha, hi9⟩, h⟩ := gd_some h
    rcases hu with ⟨rfl, rfl⟩ | ⟨rfl, rfl⟩
    · refine x_bast hx hb hK hW hS ha hi9 hd (fun H1 locs1 hW1 hS1 => ?_)
      rw [← hp]
      exact ih _ _ _ _ _ _ _ _ _ _ h hlh hW1 hS1 hEe hrc hrs
    · obtain ⟨h01, h⟩ := gd_some h
      refine x_zast hx hb hK hW hS ha hi9 h01 hd (fun H1 locs1 hW1 hS1 => ?_)
      rw [← hp]
      exact ih _ _ _ _ _ _ _ _ _ _ h hlh hW1 hS1 hEe hrc hrs
  | arraylength =>
    simp only [ex1] at h
    simp only [chk, nx, dc, jp, Bool.and_eq_true, decide_eq_true_eq] at hck
    obtain ⟨hu, hd, hp⟩ := hck
    rcases hu with rfl | ⟨rfl, h14⟩
    · obtain ⟨a, r, rfl, h⟩ := pR_some h
      obtain ⟨⟨ha, hi9⟩, h⟩ := gd_some h
      refine x_alen hx hb hK hW ha hi9 hd ?_
      rw [← hp]
      exact ih _ _ _ _ _ _ _ _ _ _ h hlh hW hS hEe hrc hrs
    · obtain ⟨a, r, rfl, h⟩ := pR_some h
      obtain ⟨ha, h⟩ := gd_some h
      obtain ⟨s1, s2, s3⟩ := hsc h14
      rw [hEe] at ha h
      subst ha
      refine va_slen hx hb s1 s2 s3 hS hd ?_
      rw [← hp]
      exact ih _ _ _ _ _ _ _ _ _ _ h hlh hW hS hEe hrc hrs
  | newarray y =>
    simp only [ex1] at h
    simp only [chk, nx, dc, jp, Bool.and_eq_true, decide_eq_true_eq] at hck
    obtain ⟨hu, hd, hp⟩ := hck
    obtain ⟨x, r, rfl, h⟩ := pI_some h
    obtain ⟨⟨hn, h6, hb1, hb2⟩, h⟩ := gd_some h
    have hat : y = .int ∧ u = 13 ∨ y = .long ∧ u = 14 ∨ y = .boolean ∧ u = 15 ∨ y = .byte ∧ u = 12 := by cases y <;> simp_all
    refine x_newa hx hb (hts _ (arrW0 _ ?_)) hK hW hS hA hat hn h6 (by omega) (by omega) hd (fun H1 hW1 hS1 => ?_)
    · rcases hat with ⟨rfl, -⟩ | ⟨rfl, -⟩ | ⟨rfl, -⟩ | ⟨rfl, -⟩ <;> simp [newarray.typeOf]
    · rw [← hp]
      exact ih _ _ _ _ _ _ _ _ _ _ h hlh hW1 hS1 hEe (by have := hrc; simp only; omega) (by have := hrs; simp only; omega)
  | anewarray y =>
    simp only [ex1] at h
    simp only [chk, nx, dc, jp, Bool.and_eq_true, decide_eq_true_eq] at hck
    obtain ⟨hu, hd, hp⟩ := hck
    obtain ⟨x, r, rfl, h⟩ := pI_some h
    obtain ⟨⟨hn, h6, hb1, hb2⟩, h⟩ := gd_some h
    refine x_anew hx hb hown (hts _ (nlW0 _ (List.mem_map.mpr ⟨_, hu, rfl⟩))) hE.2.2.2.1 hK hW hS hA hn h6 (by omega) (by omega) hd (fun H1 hW1 hS1 => ?_)
    rw [← hp]
    exact ih _ _ _ _ _ _ _ _ _ _ h hlh hW1 hS1 hEe (by have := hrc; simp only; omega) (by have := hrs; simp only; omega)
  | new y =>
    simp only [ex1] at h
    simp only [chk, nx, dc, jp, Bool.and_eq_true, decide_eq_true_eq] at hck
    obtain ⟨⟨⟨hm, hu⟩, hv9⟩, hd, hp⟩ := hck
    obtain ⟨⟨hb1, hb2⟩, h⟩ := gd_some h
    subst hv9
    refine x_new hx hb hts clIn hown hK hW hS hA hu (hts _ (nlW0 _ (List.mem_map.mpr ⟨_, hm, rfl⟩))) (hts _ (insW0 _ (List.mem_map.mpr ⟨u, List.mem_range.mpr hu, rfl⟩))) (hts _ (iniW0 _ (List.mem_map.mpr ⟨u, List.mem_range.mpr hu, rfl⟩))) (by omega) (by omega) hd (fun H1 hW1 hS1 => ?_)
    rw [← hp]
    exact ih _ _ _ _ _ _ _ _ _ _ h hlh hW1 hS1 hEe (by have := hrc; simp only; omega) (by have := hrs; simp only; omega)
  | if_icmp cd o =>
    simp only [ex1] at h
    simp only [chk, nx, dc, jp, Bool.and_eq_true, decide_eq_true_eq] at hck
    obtain ⟨hj, hd, hp⟩ := hck
    obtain ⟨y, r, rfl, h⟩ := pI_some h
    obtain ⟨x, r, rfl, h⟩ := pI_some h
    cases cd with
    | eq =>
      simp only [cmp_] at h
      refine lv_icmp_eq hx hb hd hj (fun hc9 => ?_) (fun hc9 => ?_)
      · rw [if_pos hc9] at h; exact ih _ _ _ _ _ _ _ _ _ _ h hlh hW hS hEe hrc hrs
      · rw [if_neg hc9] at h; rw [← hp]; exact ih _ _ _ _ _ _ _ _ _ _ h hlh hW hS hEe hrc hrs
    | ne =>
      simp only [cmp_] at h
      refine lv_icmp_ne hx hb hd hj (fun hc9 => ?_) (fun hc9 => ?_)
      · rw [if_neg hc9] at h; exact ih _ _ _ _ _ _ _ _ _ _ h hlh hW hS hEe hrc hrs
      · rw [if_pos hc9] at h; rw [← hp]; exact ih _ _ _ _ _ _ _ _ _ _ h hlh hW hS hEe hrc hrs
    | lt =>
      simp only [cmp_] at h
      refine lv_icmp_lt hx hb hd hj (fun hc9 => ?_) (fun hc9 => ?_)
      · rw [if_pos hc9] at h; exact ih _ _ _ _ _ _ _ _ _ _ h hlh hW hS hEe hrc hrs
      · rw [if_neg hc9] at h; rw [← hp]; exact ih _ _ _ _ _ _ _ _ _ _ h hlh hW hS hEe hrc hrs
    | ge =>
      simp only [cmp_] at h
      refine lv_icmp_ge hx hb hd hj (fun hc9 => ?_) (fun hc9 => ?_)
      · rw [if_pos hc9] at h; exact ih _ _ _ _ _ _ _ _ _ _ h hlh hW hS hEe hrc hrs
      · rw [if_neg hc9] at h; rw [← hp]; exact ih _ _ _ _ _ _ _ _ _ _ h hlh hW hS hEe hrc hrs
    | gt =>
      simp only [cmp_] at h
      refine lv_icmp_gt hx hb hd hj (fun hc9 => ?_) (fun hc9 => ?_)
      · rw [if_pos hc9] at h; exact ih _ _ _ _ _ _ _ _ _ _ h hlh hW hS hEe hrc hrs
      · rw [if_neg hc9] at h; rw [← hp]; exact ih _ _ _ _ _ _ _ _ _ _ h hlh hW hS hEe hrc hrs
    | le =>
      simp only [cmp_] at h
      refine lv_icmp_le hx hb hd hj (fun hc9 => ?_) (fun hc9 => ?_)
      · rw [if_pos hc9] at h; exact ih _ _ _ _ _ _ _ _ _ _ h hlh hW hS hEe hrc hrs
      · rw [if_neg hc9] at h; rw [← hp]; exact ih _ _ _ _ _ _ _ _ _ _ h hlh hW hS hEe hrc hrs
  | ifCond cd o =>
    simp only [ex1] at h
    simp only [chk, nx, dc, jp, Bool.and_eq_true, decide_eq_true_eq] at hck
    obtain ⟨hj, hd, hp⟩ := hck
    obtain ⟨x, r, rfl, h⟩ := pI_some h
    cases cd with
    | eq =>
      simp only [cmp_] at h
      refine lv_if_eq hx hb hd hj (fun hc9 => ?_) (fun hc9 => ?_)
      · rw [if_pos hc9] at h; exact ih _ _ _ _ _ _ _ _ _ _ h hlh hW hS hEe hrc hrs
      · rw [if_neg hc9] at h; rw [← hp]; exact ih _ _ _ _ _ _ _ _ _ _ h hlh hW hS hEe hrc hrs
    | ne =>
      simp only [cmp_] at h
      refine lv_if_ne hx hb hd hj (fun hc9 => ?_) (fun hc9 => ?_)
      · rw [if_neg hc9] at h; exact ih _ _ _ _ _ _ _ _ _ _ h hlh hW hS hEe hrc hrs
      · rw [if_pos hc9] at h; rw [← hp]; exact ih _ _ _ _ _ _ _ _ _ _ h hlh hW hS hEe hrc hrs
    | lt =>
      simp only [cmp_] at h
      refine lv_if_lt hx hb hd hj (fun hc9 => ?_) (fun hc9 => ?_)
      · rw [if_pos hc9] at h; exact ih _ _ _ _ _ _ _ _ _ _ h hlh hW hS hEe hrc hrs
      · rw [if_neg hc9] at h; rw [← hp]; exact ih _ _ _ _ _ _ _ _ _ _ h hlh hW hS hEe hrc hrs
    | ge =>
      simp only [cmp_] at h
      refine lv_if_ge hx hb hd hj (fun hc9 => ?_) (fun hc9 => ?_)
      · rw [if_pos hc9] at h; exact ih _ _ _ _ _ _ _ _ _ _ h hlh hW hS hEe hrc hrs
      · rw [if_neg hc9] at h; rw [← hp]; exact ih _ _ _ _ _ _ _ _ _ _ h hlh hW hS hEe hrc hrs
    | gt =>
      simp only [cmp_] at h
      refine lv_if_gt hx hb hd hj (fun hc9 => ?_) (fun hc9 => ?_)
      · rw [if_pos hc9] at h; exact ih _ _ _ _ _ _ _ _ _ _ h hlh hW hS hEe hrc hrs
      · rw [if_neg hc9] at h; rw [← hp]; exact ih _ _ _ _ _ _ _ _ _ _ h hlh hW hS hEe hrc hrs
    | le =>
      simp only [cmp_] at h
      refine lv_if_le hx hb hd hj (fun hc9 => ?_) (fun hc9 => ?_)
      · rw [if_pos hc9] at h; exact ih _ _ _ _ _ _ _ _ _ _ h hlh hW hS hEe hrc hrs
      · rw [if_neg hc9] at h; rw [← hp]; exact ih _ _ _ _ _ _ _ _ _ _ h hlh hW hS hEe hrc hrs
  | ifnull o =>
    simp only [ex1] at h
    simp only [chk, nx, dc, jp, Bool.and_eq_true, decide_eq_true_eq] at hck
    obtain ⟨hj, hd, hp⟩ := hck
    split at h
    · refine lv_ifnull hx hb hd ?_
      rw [← hp]
      exact ih _ _ _ _ _ _ _ _ _ _ h hlh hW hS hEe hrc hrs
    · refine lv_ifnullN hx hb hd hj ?_
      exact ih _ _ _ _ _ _ _ _ _ _ h hlh hW hS hEe hrc hrs
    · cases h
  | ifnonnull o =>
    simp only [ex1] at h
    simp only [chk, nx, dc, jp, Bool.and_eq_true, decide_eq_true_eq] at hck
    obtain ⟨hj, hd, hp⟩ := hck
    split at h
    · refine lv_ifnonnull hx hb hd hj ?_
      exact ih _ _ _ _ _ _ _ _ _ _ h hlh hW hS hEe hrc hrs
    · refine lv_ifnonnullN hx hb hd ?_
      rw [← hp]
      exact ih _ _ _ _ _ _ _ _ _ _ h hlh hW hS hEe hrc hrs
    · cases h
  | goto o =>
    simp only [ex1] at h
    simp only [chk, nx, dc, jp, Bool.and_eq_true, decide_eq_true_eq] at hck
    obtain ⟨hj, hd⟩ := hck
    refine lv_goto hx hb hd hj ?_
    exact ih _ _ _ _ _ _ _ _ _ _ h hlh hW hS hEe hrc hrs
  | tableswitch df lo hi os =>
    simp only [ex1] at h
    simp only [chk, nx, dc, jp, Bool.and_eq_true, decide_eq_true_eq] at hck
    obtain ⟨⟨⟨hj, hsw⟩, hhi⟩, hd⟩ := hck
    obtain ⟨x, r, rfl, h⟩ := pI_some h
    rcases sw_table ts os.toList lo hsw h with ⟨j, o9, g9, e1, e2, e3, h⟩ | ⟨e1, h⟩
    · have hj9 : j < ts.length := by
        sorry
      refine lv_tableIn hx hb hd (by omega) (by omega) (off := o9) (by rw [e2, show (lo + (j : Int) - lo).toNat = j by omega]; simpa using e1) e3 ?_
      exact ih _ _ _ _ _ _ _ _ _ _ h hlh hW hS hEe hrc hrs
    · refine lv_tableOut hx hb hd (by omega) hj ?_
      exact ih _ _ _ _ _ _ _ _ _ _ h hlh hW hS hEe hrc hrs
  | lookupswitch df ps =>
    simp only [ex1] at h
    simp only [chk, nx, dc, jp, Bool.and_eq_true, decide_eq_true_eq] at hck
    obtain ⟨⟨⟨hj, hsw⟩, hpp⟩, hd⟩ := hck
    obtain ⟨x, r, rfl, h⟩ := pI_some h
    obtain ⟨g9, e3, h⟩ := sw_look hj ts ps.toList hsw h
    refine lv_lookup hx hb hd hpp rfl e3 ?_
    exact ih _ _ _ _ _ _ _ _ _ _ h hlh hW hS hEe hrc hrs
  | invokevirtual y =>
    simp only [ex1] at h
    simp only [chk, nx, dc, jp, Bool.and_eq_true, decide_eq_true_eq] at hck
    obtain ⟨⟨hm, hbr⟩, hd, hp⟩ := hck
    by_cases hu : u < 900
    · rw [if_pos hu] at hbr
      simp only [clT_, Bool.and_eq_true, decide_eq_true_eq] at hbr
      obtain ⟨⟨⟨⟨⟨⟨hF, hL⟩, hrm⟩, hul⟩, hv9⟩, hz⟩, hzc⟩ := hbr
      obtain ⟨xs, r, val, S1, rfl, hlen, hcs, hrk, hb1, hb2, hC, hval, h⟩ := ca_some h (rm_of hrm)
      rw [← hCe] at hC
      simp only [if_pos hu] at hC
      obtain ⟨hcs2, ham⟩ := bo_some hC
      rw [Nat.ble_eq] at hcs2
      obtain ⟨v1, v2, v3, v4⟩ := virtL _ hm rfl hu
      have hM := metX_of hB hul (cO14 u v3) hcs2 hval ham
      obtain ⟨a, As, has, hza⟩ := hrk.resolve_left (by omega)
      have hza := hza.resolve_left (by omega)
      have hn : As.length = tA (mG u) := by have := congrArg List.length has; simp at this; omega
      rw [show xs ++ r = xs.reverse.reverse ++ r by rw [List.reverse_reverse]]
      exact x_callV hcx (mG_ok hul) hM hval hEe (mlV hm rfl hu) (wInst v2) (wSel v1) (wIni v4) (wCode v3) has hn hz hza hzc hF hL hlh.size hcs hW hS (by omega) (by omega) hd (fun H1 locs1 hW1 hE1 hS1 => by rw [← hp]; exact ih _ _ _ _ _ _ _ _ _ _ h hlh hW1 hS1 hE1 (by have := hrc; simp only; omega) (by have := hrs; simp only; omega))
    · rw [if_neg hu] at hbr
      simp only [xT, Bool.and_eq_true, decide_eq_true_eq] at hbr
      obtain ⟨⟨hz, hu9⟩, ⟨hF, hL⟩, hts9⟩ := hbr
      rcases hu9 with rfl | rfl
      · simp only [decide_eq_true_eq] at hts9
        obtain ⟨xs, r, val, S1, rfl, hlen, hcs, hrk, hb1, hb2, hC, hval, h⟩ := ca_some (mc := 0) (ms := 0) h (Or.inl ⟨hts9, rfl, rfl⟩)
        rw [← hCe] at hC
        simp only [if_neg hu] at hC
        rw [show xs ++ r = xs.reverse.reverse ++ r by rw [List.reverse_reverse]]
        exact hx3 t p e R s m args below meth c A Q xs.reverse r S S1 val H locs cu su (tP t k) y Lc hcx hC hEe hm hF hL (fun q => by cases q) (by omega) (by omega) hlh.size hcs hW hS hd (fun H1 locs1 hW1 hE1 hS1 => by rw [← hp]; exact ih _ _ _ _ _ _ _ _ _ _ h hlh hW1 hS1 hE1 (by have := hrc; simp only; omega) (by have := hrs; simp only; omega))
      · simp only [decide_eq_true_eq] at hts9
        obtain ⟨xs, r, val, S1, rfl, hlen, hcs, hrk, hb1, hb2, hC, hval, h⟩ := ca_some (mc := 0) (ms := 0) h (Or.inl ⟨hts9, rfl, rfl⟩)
        rw [← hCe] at hC
        simp only [if_neg hu] at hC
        rw [show xs ++ r = xs.reverse.reverse ++ r by rw [List.reverse_reverse]]
        exact hx4 t p e R s m args below meth c A Q xs.reverse r S S1 val H locs cu su (tP t k) y Lc hcx hC hEe hm hF hL (fun q => by cases q) (by omega) (by omega) hlh.size hcs hW hS hd (fun H1 locs1 hW1 hE1 hS1 => by rw [← hp]; exact ih _ _ _ _ _ _ _ _ _ _ h hlh hW1 hS1 hE1 (by have := hrc; simp only; omega) (by have := hrs; simp only; omega))
  | invokestatic y =>
    simp only [ex1] at h
    simp only [chk, nx, dc, jp, Bool.and_eq_true, decide_eq_true_eq] at hck
    obtain ⟨⟨⟨hm, hz⟩, hbr⟩, hd, hp⟩ := hck
    by_cases hu : u < 900
    · rw [if_pos hu] at hbr
      simp only [clT_, Bool.and_eq_true, decide_eq_true_eq] at hbr
      obtain ⟨⟨⟨⟨hF, hL⟩, hrm⟩, hul⟩, hv9⟩ := hbr
      obtain ⟨xs, r, val, S1, rfl, hlen, hcs, hrk, hb1, hb2, hC, hval, h⟩ := ca_some h (rm_of hrm)
      rw [← hCe] at hC
      simp only [if_pos hu] at hC
      obtain ⟨hcs2, ham⟩ := bo_some hC
      rw [Nat.ble_eq] at hcs2
      obtain ⟨v1, v3, v4⟩ := statL _ hm rfl hu
      have hM := metX_of hB hul (cO14 u v3) hcs2 hval ham
      rw [show xs ++ r = xs.reverse.reverse ++ r by rw [List.reverse_reverse]]
      exact x_callS hcx (mG_ok hul) hM hval hEe (mlS hm rfl hu) (wStat v1) (wIni v4) (wCode v3) (by rw [List.length_reverse, hlen, hv9]) hF hL hlh.size hcs hW hS (by omega) (by omega) hd (fun H1 locs1 hW1 hE1 hS1 => by rw [← hp]; exact ih _ _ _ _ _ _ _ _ _ _ h hlh hW1 hS1 hE1 (by have := hrc; simp only; omega) (by have := hrs; simp only; omega))
    · rw [if_neg hu] at hbr
      simp only [xT, Bool.and_eq_true, decide_eq_true_eq] at hbr
      obtain ⟨hu9, ⟨hF, hL⟩, hts9⟩ := hbr
      rcases hu9 with rfl | rfl | rfl | rfl
      · simp only [decide_eq_true_eq] at hts9
        obtain ⟨xs, r, val, S1, rfl, hlen, hcs, hrk, hb1, hb2, hC, hval, h⟩ := ca_some (mc := 0) (ms := 0) h (Or.inl ⟨hts9, rfl, rfl⟩)
        rw [← hCe] at hC
        simp only [if_neg hu, xtF] at hC
        rw [show xs ++ r = xs.reverse.reverse ++ r by rw [List.reverse_reverse]]
        generalize xs.reverse = as9 at hC
        split at hC
        · cases hC
          refine va_mabs hx hb (by rw [hml, hlh.size]) hown (hts _ (mtL_abs _ (List.mem_map.mpr ⟨_, List.mem_filter.mpr ⟨hm, rfl⟩, rfl⟩))) (hts _ (mtW_abs _ (by simp))) (hts _ (mtW_abs _ (by simp))) (hts _ (mtW_abs _ (by simp))) (Nat.le_trans hF hRf) (by have : 21 ≤ R.locals := Nat.le_trans hL hRl; omega) (by omega) (by omega) hd ?_
          rw [← hp]
          exact ih _ _ _ _ _ _ _ _ _ _ h hlh hW hS hEe (by have := hrc; simp only; omega) (by have := hrs; simp only; omega)
        · cases hC
      · simp only [decide_eq_true_eq] at hts9
        obtain ⟨xs, r, val, S1, rfl, hlen, hcs, hrk, hb1, hb2, hC, hval, h⟩ := ca_some (mc := 0) (ms := 0) h (Or.inl ⟨hts9, rfl, rfl⟩)
        rw [← hCe] at hC
        simp only [if_neg hu, xtF] at hC
        rw [show xs ++ r = xs.reverse.reverse ++ r by rw [List.reverse_reverse]]
        generalize xs.reverse = as9 at hC
        split at hC
        · cases hC
          refine va_mmax hx hb (by rw [hml, hlh.size]) hown (hts _ (mtL_max _ (List.mem_map.mpr ⟨_, List.mem_filter.mpr ⟨hm, rfl⟩, rfl⟩))) (hts _ (mtW_max _ (by simp))) (hts _ (mtW_max _ (by simp))) (hts _ (mtW_max _ (by simp))) (Nat.le_trans hF hRf) (by have : 21 ≤ R.locals := Nat.le_trans hL hRl; omega) (by omega) (by omega) hd ?_
          rw [← hp]
          exact ih _ _ _ _ _ _ _ _ _ _ h hlh hW hS hEe (by have := hrc; simp only; omega) (by have := hrs; simp only; omega)
        · cases hC
      · simp only [decide_eq_true_eq] at hts9
        obtain ⟨xs, r, val, S1, rfl, hlen, hcs, hrk, hb1, hb2, hC, hval, h⟩ := ca_some (mc := 0) (ms := 0) h (Or.inl ⟨hts9, rfl, rfl⟩)
        rw [← hCe] at hC
        simp only [if_neg hu, xtF] at hC
        rw [show xs ++ r = xs.reverse.reverse ++ r by rw [List.reverse_reverse]]
        generalize xs.reverse = as9 at hC
        split at hC
        · cases hC
          refine va_mmin hx hb (by rw [hml, hlh.size]) hown (hts _ (mtL_min _ (List.mem_map.mpr ⟨_, List.mem_filter.mpr ⟨hm, rfl⟩, rfl⟩))) (hts _ (mtW_min _ (by simp))) (hts _ (mtW_min _ (by simp))) (hts _ (mtW_min _ (by simp))) (Nat.le_trans hF hRf) (by have : 21 ≤ R.locals := Nat.le_trans hL hRl; omega) (by omega) (by omega) hd ?_
          rw [← hp]
          exact ih _ _ _ _ _ _ _ _ _ _ h hlh hW hS hEe (by have := hrc; simp only; omega) (by have := hrs; simp only; omega)
        · cases hC
      · simp only [decide_eq_true_eq] at hts9
        obtain ⟨xs, r, val, S1, rfl, hlen, hcs, hrk, hb1, hb2, hC, hval, h⟩ := ca_some (mc := 1) (ms := 6) h (Or.inr ⟨0, 0, hts9⟩)
        rw [← hCe] at hC
        simp only [if_neg hu] at hC
        rw [show xs ++ r = xs.reverse.reverse ++ r by rw [List.reverse_reverse]]
        exact hx5 t p e R s m args below meth c A Q xs.reverse r S S1 val H locs cu su (tP t k) y Lc hcx hC hEe hm hF hL (fun q => ⟨by omega, by omega⟩) (by omega) (by omega) hlh.size hcs hW hS hd (fun H1 locs1 hW1 hE1 hS1 => by rw [← hp]; exact ih _ _ _ _ _ _ _ _ _ _ h hlh hW1 hS1 hE1 (by have := hrc; simp only; omega) (by have := hrs; simp only; omega))
  | invokespecial y =>
    simp only [ex1] at h
    simp only [chk, nx, dc, jp, Bool.and_eq_true, decide_eq_true_eq] at hck
    obtain ⟨hbr, hd, hp⟩ := hck
    by_cases hw : w = 9
    · subst hw
      simp only [if_true, Bool.and_eq_true, decide_eq_true_eq] at hbr
      obtain ⟨⟨hm, hF⟩, hL⟩ := hbr
      obtain ⟨a, r, rfl, h⟩ := pR_some h
      obtain ⟨hcs, h⟩ := bo_some h
      rw [Nat.ble_eq, cs_sum] at hcs
      refine W.objInit hx hb hown (hts _ (obL _ (List.mem_map.mpr ⟨_, List.mem_filter.mpr ⟨hm, rfl⟩, rfl⟩))) (hts _ (obW _ (by simp))) (hts _ (obW _ (by simp))) rfl (by rw [hml]; exact hlh.size) rfl hd (Nat.le_trans hF hRf) (by show 2 * 0 + _ + 12 ≤ _; have : 20 ≤ R.locals := Nat.le_trans hL hRl; omega) ?_
      refine W.eq (g2 := F0 m (tP t (k + 1)) Lc r) (by rw [hp]) ?_
      exact ih _ _ _ _ _ _ _ _ _ _ h hlh hW hS hEe hrc hrs
    · rw [if_neg hw] at hbr
      simp only [clT_, Bool.and_eq_true, decide_eq_true_eq] at hbr
      obtain ⟨⟨⟨⟨⟨⟨⟨⟨hu, hz⟩, hm⟩, hF, hL⟩, hrm⟩, hul⟩, hv9⟩, hrt9⟩, hin9⟩ := hbr
      have h : ca_ u w1 w 98 ts st b S C (fun st b S => am aCode aML aMb (xtF lx) n id (k + 1) ls st b S) = some (v, S') := by
        split at h
        · exact absurd rfl hw
        · exact h
      obtain ⟨xs, r, val, S1, rfl, hlen, hcs, hrk, hb1, hb2, hC, hval, h⟩ := ca_some h (rm_of hrm)
      rw [← hCe] at hC
      simp only [if_pos hu] at hC
      obtain ⟨hcs2, ham⟩ := bo_some hC
      rw [Nat.ble_eq] at hcs2
      have hsp : u ∈ wInst_L ∧ u ∈ wCode_L ∧ u ∈ wIni_L := by
        rcases hm with hm | hm | hm
        · exact specL _ hm (Or.inl rfl)
        · exact specL _ hm (Or.inr (Or.inl rfl))
        · exact specL _ hm (Or.inr (Or.inr rfl))
      obtain ⟨v2, v3, v4⟩ := hsp
      have hM := metX_of hB hul (cO14 u v3) hcs2 hval ham
      have hlk : Cond.methodLink (cnm (tO t)) y (tY (mG u)) ∈ wsG ∨ ∃ host, va_Nw (Cond.methodLinkNest (cnm (tO t)) y (tY (mG u)) host) s := by
        rcases hm with hm | hm | hm
        · exact Or.inl (mlI hm rfl hu)
        · exact Or.inr ⟨_, (hE.2.2.1 _ hm).1 rfl⟩
        · exact Or.inr ⟨_, (hE.2.2.1 _ hm).2 rfl⟩
      obtain ⟨a, As, hxr, -⟩ := hrk.resolve_left (by omega)
      have hn : As.length = tA (mG u) := by have := congrArg List.length hxr; simp at this; omega
      rw [show xs ++ r = xs.reverse.reverse ++ r by rw [List.reverse_reverse]]
      exact x_callI hcx (mG_ok hul) hM hval hEe hlk (wInst v2) (wIni v4) (wCode v3) hrt9 hin9 hxr hn hF hL hlh.size hcs hW hS (by omega) (by omega) hd (fun H1 locs1 hW1 hE1 hS1 => by rw [← hp]; exact ih _ _ _ _ _ _ _ _ _ _ h hlh hW1 hS1 hE1 (by have := hrc; simp only; omega) (by have := hrs; simp only; omega))
  | ireturn =>
    simp only [ex1] at h
    simp only [chk, nx, dc, jp, Bool.and_eq_true, decide_eq_true_eq] at hck
    obtain ⟨hr9, hd⟩ := hck
    split at h
    · next x =>
      by_cases hw : w = 0
      · subst hw
        simp only [decide_eq_true_eq] at hr9
        cases h
        exact hrt _ Lc H locs cu su (by omega) (by omega) hW hEe hS (fun q => by cases q) (fun y9 q => ⟨Or.inl hr9, hd⟩) (fun y9 q => by cases q) (fun q => by cases q) (Or.inr (Or.inl ⟨_, rfl⟩))
      · obtain ⟨w, rfl⟩ : ∃ w9, w = w9 + 1 := ⟨w - 1, by omega⟩
        simp only [decide_eq_true_eq] at hr9
        obtain ⟨h01, h⟩ := gd_some h
        cases h
        exact hrt _ Lc H locs cu su (by omega) (by omega) hW hEe hS (fun q => by cases q) (fun y9 q => ⟨Or.inr ⟨hr9, by cases q; exact h01⟩, hd⟩) (fun y9 q => by cases q) (fun q => by cases q) (Or.inr (Or.inl ⟨_, rfl⟩))
    · cases h
  | lreturn =>
    simp only [ex1] at h
    simp only [chk, nx, dc, jp, Bool.and_eq_true, decide_eq_true_eq] at hck
    obtain ⟨hr9, hd⟩ := hck
    split at h
    · cases h
      exact hrt _ Lc H locs cu su (by omega) (by omega) hW hEe hS (fun q => by cases q) (fun y9 q => by cases q) (fun y9 q => ⟨hr9, hd⟩) (fun q => by cases q) (Or.inr (Or.inr (Or.inl ⟨_, rfl⟩)))
    · cases h
  | return_ =>
    simp only [ex1] at h
    simp only [chk, nx, dc, jp, Bool.and_eq_true, decide_eq_true_eq] at hck
    obtain ⟨hr9, hd⟩ := hck
    split at h
    · cases h
      exact hrt _ Lc H locs cu su (by omega) (by omega) hW hEe hS (fun q => ⟨hr9, hd⟩) (fun y9 q => by cases q) (fun y9 q => by cases q) (fun q => by cases q) (Or.inl rfl)
    · cases h
  | nop =>
    simp only [ex1] at h
    simp only [chk, nx, dc, jp, Bool.and_eq_true, decide_eq_true_eq] at hck
    by_cases hu7 : u = 7
    · subst hu7
      simp only at h
      split at h
      · cases h
        exact hrt _ Lc H locs cu su (by omega) (by omega) hW hEe hS (fun q => by cases q) (fun y9 q => by cases q) (fun y9 q => by cases q) (fun q => ⟨k, _, hi9, rfl, rfl, rfl⟩) (Or.inr (Or.inr (Or.inr rfl)))
      · cases h
    · have h : am aCode aML aMb (xtF lx) n id (k + 1) (mk_ ts ls) st b S = some (v, S') := by
        split at h
        · exact absurd rfl hu7
        · exact h
      rw [← hck]
      exact ih _ _ _ _ _ _ _ _ _ _ h (hlh.mk ts) hW hS hEe hrc hrs
  | _ => simp [ex1] at h
end
section
/-! String.length and String.charAt of constants, and what they call -/
abbrev cJ0_length_8abf5 : ByteArray := prog_22_method_54_code
def yJ0_length_8abf5 : MethodName := ⟨RJ0, "length", "()I"⟩
abbrev cJ0_charAt_5068e : ByteArray := prog_22_method_56_code
def yJ0_charAt_5068e : MethodName := ⟨RJ0, "charAt", "(I)C"⟩
abbrev cJ0_coder_7d493 : ByteArray := prog_22_method_152_code
def yJ0_coder_7d493 : MethodName := ⟨RJ0, "coder", "()B"⟩
abbrev cJ0_isLatin1_aae02 : ByteArray := prog_22_method_154_code
def yJ0_isLatin1_aae02 : MethodName := ⟨RJ0, "isLatin1", "()Z"⟩
abbrev cJ0_checkIndex_df160 : ByteArray := prog_22_method_155_code
def yJ0_checkIndex_df160 : MethodName := ⟨RJ0, "checkIndex", "(II)V"⟩
abbrev cJ1_charAt_3b067 : ByteArray := prog_23_method_2_code
def yJ1_charAt_3b067 : MethodName := ⟨RJ1, "charAt", "([BI)C"⟩
abbrev cJ3_checkIndex_8e157 : ByteArray := prog_29_method_11_code
def yJ3_checkIndex_8e157 : MethodName := ⟨RJ3, "checkIndex", "(IILjava/util/function/BiFunction;)I"⟩
theorem dJ0_length_8abf5_0 : decode cJ0_length_8abf5 0 = .ok (.aload_n 0, 1) := by decide +kernel
theorem dJ0_length_8abf5_1 : decode cJ0_length_8abf5 1 = .ok (.getfield 9, 3) := by decide +kernel
theorem dJ0_length_8abf5_4 : decode cJ0_length_8abf5 4 = .ok (.arraylength, 1) := by decide +kernel
theorem dJ0_length_8abf5_5 : decode cJ0_length_8abf5 5 = .ok (.aload_n 0, 1) := by decide +kernel
theorem dJ0_length_8abf5_6 : decode cJ0_length_8abf5 6 = .ok (.invokevirtual 335, 3) := by decide +kernel
theorem dJ0_length_8abf5_9 : decode cJ0_length_8abf5 9 = .ok (.ishr, 1) := by decide +kernel
theorem dJ0_length_8abf5_10 : decode cJ0_length_8abf5 10 = .ok (.ireturn, 1) := by decide +kernel
theorem dJ0_charAt_5068e_0 : decode cJ0_charAt_5068e 0 = .ok (.aload_n 0, 1) := by decide +kernel
theorem dJ0_charAt_5068e_1 : decode cJ0_charAt_5068e 1 = .ok (.invokevirtual 492, 3) := by decide +kernel
theorem dJ0_charAt_5068e_4 : decode cJ0_charAt_5068e 4 = .ok (.ifCond .eq 12, 3) := by decide +kernel
theorem dJ0_charAt_5068e_7 : decode cJ0_charAt_5068e 7 = .ok (.aload_n 0, 1) := by decide +kernel
theorem dJ0_charAt_5068e_8 : decode cJ0_charAt_5068e 8 = .ok (.getfield 9, 3) := by decide +kernel
theorem dJ0_charAt_5068e_11 : decode cJ0_charAt_5068e 11 = .ok (.iload_n 1, 1) := by decide +kernel
theorem dJ0_charAt_5068e_12 : decode cJ0_charAt_5068e 12 = .ok (.invokestatic 495, 3) := by decide +kernel
theorem dJ0_charAt_5068e_15 : decode cJ0_charAt_5068e 15 = .ok (.ireturn, 1) := by decide +kernel
theorem dJ0_charAt_5068e_16 : decode cJ0_charAt_5068e 16 = .ok (.aload_n 0, 1) := by decide +kernel
theorem dJ0_charAt_5068e_17 : decode cJ0_charAt_5068e 17 = .ok (.getfield 9, 3) := by decide +kernel
theorem dJ0_charAt_5068e_20 : decode cJ0_charAt_5068e 20 = .ok (.iload_n 1, 1) := by decide +kernel
theorem dJ0_charAt_5068e_21 : decode cJ0_charAt_5068e 21 = .ok (.invokestatic 498, 3) := by decide +kernel
theorem dJ0_charAt_5068e_24 : decode cJ0_charAt_5068e 24 = .ok (.ireturn, 1) := by decide +kernel
theorem dJ0_coder_7d493_0 : decode cJ0_coder_7d493 0 = .ok (.getstatic 38, 3) := by decide +kernel
theorem dJ0_coder_7d493_3 : decode cJ0_coder_7d493 3 = .ok (.ifCond .eq 10, 3) := by decide +kernel
theorem dJ0_coder_7d493_6 : decode cJ0_coder_7d493 6 = .ok (.aload_n 0, 1) := by decide +kernel
theorem dJ0_coder_7d493_7 : decode cJ0_coder_7d493 7 = .ok (.getfield 15, 3) := by decide +kernel
theorem dJ0_coder_7d493_10 : decode cJ0_coder_7d493 10 = .ok (.goto 4, 3) := by decide +kernel
theorem dJ0_coder_7d493_13 : decode cJ0_coder_7d493 13 = .ok (.iconst 1, 1) := by decide +kernel
theorem dJ0_coder_7d493_14 : decode cJ0_coder_7d493 14 = .ok (.ireturn, 1) := by decide +kernel
theorem dJ0_isLatin1_aae02_0 : decode cJ0_isLatin1_aae02 0 = .ok (.getstatic 38, 3) := by decide +kernel
theorem dJ0_isLatin1_aae02_3 : decode cJ0_isLatin1_aae02 3 = .ok (.ifCond .eq 14, 3) := by decide +kernel
theorem dJ0_isLatin1_aae02_6 : decode cJ0_isLatin1_aae02 6 = .ok (.aload_n 0, 1) := by decide +kernel
theorem dJ0_isLatin1_aae02_7 : decode cJ0_isLatin1_aae02 7 = .ok (.getfield 15, 3) := by decide +kernel
theorem dJ0_isLatin1_aae02_10 : decode cJ0_isLatin1_aae02 10 = .ok (.ifCond .ne 7, 3) := by decide +kernel
theorem dJ0_isLatin1_aae02_13 : decode cJ0_isLatin1_aae02 13 = .ok (.iconst 1, 1) := by decide +kernel
theorem dJ0_isLatin1_aae02_14 : decode cJ0_isLatin1_aae02 14 = .ok (.goto 4, 3) := by decide +kernel
theorem dJ0_isLatin1_aae02_17 : decode cJ0_isLatin1_aae02 17 = .ok (.iconst 0, 1) := by decide +kernel
theorem dJ0_isLatin1_aae02_18 : decode cJ0_isLatin1_aae02 18 = .ok (.ireturn, 1) := by decide +kernel
theorem dJ0_checkIndex_df160_0 : decode cJ0_checkIndex_df160 0 = .ok (.iload_n 0, 1) := by decide +kernel
theorem dJ0_checkIndex_df160_1 : decode cJ0_checkIndex_df160 1 = .ok (.iload_n 1, 1) := by decide +kernel
theorem dJ0_checkIndex_df160_2 : decode cJ0_checkIndex_df160 2 = .ok (.getstatic 1053, 3) := by decide +kernel
theorem dJ0_checkIndex_df160_5 : decode cJ0_checkIndex_df160 5 = .ok (.invokestatic 1059, 3) := by decide +kernel
theorem dJ0_checkIndex_df160_8 : decode cJ0_checkIndex_df160 8 = .ok (.pop, 1) := by decide +kernel
theorem dJ0_checkIndex_df160_9 : decode cJ0_checkIndex_df160 9 = .ok (.return_, 1) := by decide +kernel
theorem dJ1_charAt_3b067_0 : decode cJ1_charAt_3b067 0 = .ok (.iload_n 1, 1) := by decide +kernel
theorem dJ1_charAt_3b067_1 : decode cJ1_charAt_3b067 1 = .ok (.aload_n 0, 1) := by decide +kernel
theorem dJ1_charAt_3b067_2 : decode cJ1_charAt_3b067 2 = .ok (.arraylength, 1) := by decide +kernel
theorem dJ1_charAt_3b067_3 : decode cJ1_charAt_3b067 3 = .ok (.invokestatic 9, 3) := by decide +kernel
theorem dJ1_charAt_3b067_6 : decode cJ1_charAt_3b067 6 = .ok (.aload_n 0, 1) := by decide +kernel
theorem dJ1_charAt_3b067_7 : decode cJ1_charAt_3b067 7 = .ok (.iload_n 1, 1) := by decide +kernel
theorem dJ1_charAt_3b067_8 : decode cJ1_charAt_3b067 8 = .ok (.baload, 1) := by decide +kernel
theorem dJ1_charAt_3b067_9 : decode cJ1_charAt_3b067 9 = .ok (.sipush 255, 3) := by decide +kernel
theorem dJ1_charAt_3b067_12 : decode cJ1_charAt_3b067 12 = .ok (.iand, 1) := by decide +kernel
theorem dJ1_charAt_3b067_13 : decode cJ1_charAt_3b067 13 = .ok (.i2c, 1) := by decide +kernel
theorem dJ1_charAt_3b067_14 : decode cJ1_charAt_3b067 14 = .ok (.ireturn, 1) := by decide +kernel
theorem dJ3_checkIndex_8e157_0 : decode cJ3_checkIndex_8e157 0 = .ok (.iload_n 0, 1) := by decide +kernel
theorem dJ3_checkIndex_8e157_1 : decode cJ3_checkIndex_8e157 1 = .ok (.ifCond .lt 8, 3) := by decide +kernel
theorem dJ3_checkIndex_8e157_4 : decode cJ3_checkIndex_8e157 4 = .ok (.iload_n 0, 1) := by decide +kernel
theorem dJ3_checkIndex_8e157_5 : decode cJ3_checkIndex_8e157 5 = .ok (.iload_n 1, 1) := by decide +kernel
theorem dJ3_checkIndex_8e157_6 : decode cJ3_checkIndex_8e157 6 = .ok (.if_icmp .lt 10, 3) := by decide +kernel
theorem dJ3_checkIndex_8e157_9 : decode cJ3_checkIndex_8e157 9 = .ok (.aload_n 2, 1) := by decide +kernel
theorem dJ3_checkIndex_8e157_10 : decode cJ3_checkIndex_8e157 10 = .ok (.iload_n 0, 1) := by decide +kernel
theorem dJ3_checkIndex_8e157_11 : decode cJ3_checkIndex_8e157 11 = .ok (.iload_n 1, 1) := by decide +kernel
theorem dJ3_checkIndex_8e157_12 : decode cJ3_checkIndex_8e157 12 = .ok (.invokestatic 95, 3) := by decide +kernel
theorem dJ3_checkIndex_8e157_15 : decode cJ3_checkIndex_8e157 15 = .ok (.athrow, 1) := by decide +kernel
theorem dJ3_checkIndex_8e157_16 : decode cJ3_checkIndex_8e157 16 = .ok (.iload_n 0, 1) := by decide +kernel
theorem dJ3_checkIndex_8e157_17 : decode cJ3_checkIndex_8e157 17 = .ok (.ireturn, 1) := by decide +kernel
def sW : List Cond := [Cond.initialized "java/lang/String", Cond.initialized "java/lang/StringLatin1", Cond.initialized "jdk/internal/util/Preconditions", Cond.instanceMethod yJ0_length_8abf5, Cond.selects "java/lang/String" yJ0_length_8abf5 yJ0_length_8abf5, Cond.code yJ0_length_8abf5 cJ0_length_8abf5 1 (some .int), Cond.methodLink "java/lang/String" 335 yJ0_coder_7d493, Cond.instanceMethod yJ0_coder_7d493, Cond.selects "java/lang/String" yJ0_coder_7d493 yJ0_coder_7d493, Cond.code yJ0_coder_7d493 cJ0_coder_7d493 1 (some .byte), Cond.fieldLink "java/lang/String" 38 "java/lang/String" "COMPACT_STRINGS" "Z", Cond.instanceMethod yJ0_charAt_5068e, Cond.selects "java/lang/String" yJ0_charAt_5068e yJ0_charAt_5068e, Cond.code yJ0_charAt_5068e cJ0_charAt_5068e 2 (some .char), Cond.methodLink "java/lang/String" 492 yJ0_isLatin1_aae02, Cond.instanceMethod yJ0_isLatin1_aae02, Cond.selects "java/lang/String" yJ0_isLatin1_aae02 yJ0_isLatin1_aae02, Cond.code yJ0_isLatin1_aae02 cJ0_isLatin1_aae02 1 (some .boolean), Cond.methodLink "java/lang/String" 495 yJ1_charAt_3b067, Cond.static yJ1_charAt_3b067, Cond.code yJ1_charAt_3b067 cJ1_charAt_3b067 2 (some .char), Cond.methodLink "java/lang/StringLatin1" 9 yJ0_checkIndex_df160, Cond.static yJ0_checkIndex_df160, Cond.code yJ0_checkIndex_df160 cJ0_checkIndex_df160 2 none, Cond.fieldLink "java/lang/String" 1053 "jdk/internal/util/Preconditions" "SIOOBE_FORMATTER" "Ljava/util/function/BiFunction;", Cond.methodLink "java/lang/String" 1059 yJ3_checkIndex_8e157, Cond.static yJ3_checkIndex_8e157, Cond.code yJ3_checkIndex_8e157 cJ3_checkIndex_8e157 3 (some .int), Cond.fieldLink "java/lang/String" 9 "java/lang/String" "value" "[B", Cond.fieldLink "java/lang/String" 15 "java/lang/String" "coder" "B"]
set_option maxRecDepth 20000 in
theorem sW_in : ∀ w ∈ sW, w ∈ wsG := memG _ [123, 124, 125, 545, 546, 547, 548, 549, 550, 551, 552, 555, 556, 557, 558, 559, 560, 561, 562, 563, 564, 565, 566, 567, 568, 570, 571, 572, 2091, 2092] (by decide +kernel) (by decide +kernel)
def SP (a v n : Nat) (f : Nat → Value) (A : Nat → Prop) (U : State) : Prop := va_O "java/lang/String" a A U U.heap ∧ va_OF "java/lang/String" "coder" "B" (.int 0) a A U U.heap ∧ va_OF "java/lang/String" "value" "[B" (.ref v) a A U U.heap ∧ va_T .byte v n f A U U.heap ∧ va_Z "java/lang/String" "COMPACT_STRINGS" "Z" (.int 1) A U U.heap ∧ va_Zq "jdk/internal/util/Preconditions" "SIOOBE_FORMATTER" "Ljava/util/function/BiFunction;" A U U.heap
theorem SP.call {a v n : Nat} {f : Nat → Value} {A A1 : Nat → Prop} {s U : State} {H : Heap} {locs : List Loc} (h : SP a v n f A s) (hS : va_S A s.heap H locs) (hA : ∀ q, A1 q → A q) (hU : U.heap = H) (hw : s.WarmedH U.vm) : SP a v n f A1 U := by
  obtain ⟨h1, h2, h3, h4, h5, h6⟩ := h
  unfold SP
  rw [hU]
  exact ⟨(va_O.moved hw.alike (h1.kept hS.2.1)).narrow hA, (va_OF.moved hw.alike (h2.kept hS.2.1)).narrow hA, (va_OF.moved hw.alike (h3.kept hS.2.1)).narrow hA, (va_T.moved hw.alike (h4.kept hS.2.1)).narrow hA, (va_Z.moved hw.alike (h5.kept hS.2.1)).narrow hA, (va_Zq.moved hw.alike (h6.kept hS.2.1)).narrow hA⟩
theorem SP.blind {a v n : Nat} {f : Nat → Value} {A : Nat → Prop} {as : List Value} : FrameBlind (va_Pc as (SP a v n f A)) := by
  intro ar U gf mk h
  obtain ⟨h0, h1, h2, h3, h4, h5, h6⟩ := h
  have hal : U.vm.Alike (U.calling gf mk ar).vm := Vm.Alike.refl _
  exact ⟨h0, va_O.moved hal h1, va_OF.moved hal h2, va_OF.moved hal h3, va_T.moved hal h4, va_Z.moved hal h5, va_Zq.moved hal h6⟩
theorem SP.recv {a v n : Nat} {f : Nat → Value} {A : Nat → Prop} {s : State} {H : Heap} {locs : List Loc} (h : SP a v n f A s) (hS : va_S A s.heap H locs) : ∃ cell : Cell, H[a]? = some cell ∧ cell.vm.isStatics = false ∧ s.vm.findClass "java/lang/String" = some cell.cls := by
  obtain ⟨cell, h1, h2, h3, -⟩ := h.1.kept hS.2.1
  exact ⟨cell, h1, h2, h3⟩
abbrev rm0 (f w : Nat) : Room := { frames := f, cells := 0, slots := 0, locals := w }
set_option maxHeartbeats 4000000 in
set_option maxRecDepth 100000 in
theorem c_coder (l : Launch) {a v n : Nat} {f : Nat → Value} {A : Nat → Prop} : Met l yJ0_coder_7d493 (Cond.code yJ0_coder_7d493 cJ0_coder_7d493 1 (some .byte) :: wsG) (rm0 0 0) (va_Pc [Value.ref a] (SP a v n f A)) (vp_Si (fun r => r = 0)) 0 0 (fun _ => False) := by
  refine Met.ofW (cc := cJ0_coder_7d493) (maxL := 1) (ret := (some .byte)) (by decide) rfl ?_
  intro p e s m args below meth c s₁ B hml hv9
  obtain ⟨rfl, hsp⟩ := hv9
  have hx := B.exec
  have hb := B.bytes
  have hr := B.returns
  have hlocks := B.notSynchronized
  have hts0 := atoms_spec (ws := Cond.code yJ0_coder_7d493 cJ0_coder_7d493 1 (some .byte) :: wsG) B.pre
  have hts : ∀ w ∈ wsG, w.before [Value.ref a].toArray s = true := fun w hw => hts0 w (List.mem_cons_of_mem _ hw)
  have hown : s.vm.findClass "java/lang/String" = some m.cls := findClass_of_methodNamed B.named
  have hl := lv_entry ([Value.ref a]) (n := 1) (Nat.le_of_ble_eq_true rfl)
  rw [lg_entry_eq]
  generalize (lg_sl ([Value.ref a]) ++ List.replicate (1 - (lg_sl ([Value.ref a])).length) Slot.unset).toArray = ls at hl ⊢
  have hl : lv_has ls 1 [(0, .ref a)] := hl
  have hS : va_S A s.heap s.heap [] := va_S.rf
  refine va_gets hx hb hsp.2.2.2.2.1 hS hown (hts _ (sW_in _ (List.mem_of_getElem? (i := 10) rfl))) (fun _ h => h) dJ0_coder_7d493_0 ?_
  refine lv_if_eq (tgt := 13) hx hb dJ0_coder_7d493_3 (by decide) (fun q => absurd q (by decide)) (fun _ => ?_)
  refine lv_aload_n hx hb dJ0_coder_7d493_6 rfl (lv_at hl 0 rfl) ?_
  refine vk_getf hx hb hsp.2.1 hS hown (hts _ (sW_in _ (List.mem_of_getElem? (i := 29) rfl))) (fun _ h => h) dJ0_coder_7d493_7 ?_
  refine lv_goto (tgt := 14) hx hb dJ0_coder_7d493_10 (by decide) ?_
  exact W.zret (v := 0) (ty := .byte) hx hb hr rfl (fun t ht hW => ⟨0, rfl, rfl, ht⟩) (fun q h => by cases h) dJ0_coder_7d493_14
set_option maxHeartbeats 4000000 in
set_option maxRecDepth 100000 in
theorem c_isLatin1 (l : Launch) {a v n : Nat} {f : Nat → Value} {A : Nat → Prop} : Met l yJ0_isLatin1_aae02 (Cond.code yJ0_isLatin1_aae02 cJ0_isLatin1_aae02 1 (some .boolean) :: wsG) (rm0 0 0) (va_Pc [Value.ref a] (SP a v n f A)) (vp_Si (fun r => r = 1)) 0 0 (fun _ => False) := by
  refine Met.ofW (cc := cJ0_isLatin1_aae02) (maxL := 1) (ret := (some .boolean)) (by decide) rfl ?_
  intro p e s m args below meth c s₁ B hml hv9
  obtain ⟨rfl, hsp⟩ := hv9
  have hx := B.exec
  have hb := B.bytes
  have hr := B.returns
  have hlocks := B.notSynchronized
  have hts0 := atoms_spec (ws := Cond.code yJ0_isLatin1_aae02 cJ0_isLatin1_aae02 1 (some .boolean) :: wsG) B.pre
  have hts : ∀ w ∈ wsG, w.before [Value.ref a].toArray s = true := fun w hw => hts0 w (List.mem_cons_of_mem _ hw)
  have hown : s.vm.findClass "java/lang/String" = some m.cls := findClass_of_methodNamed B.named
  have hl := lv_entry ([Value.ref a]) (n := 1) (Nat.le_of_ble_eq_true rfl)
  rw [lg_entry_eq]
  generalize (lg_sl ([Value.ref a]) ++ List.replicate (1 - (lg_sl ([Value.ref a])).length) Slot.unset).toArray = ls at hl ⊢
  have hl : lv_has ls 1 [(0, .ref a)] := hl
  have hS : va_S A s.heap s.heap [] := va_S.rf
  refine va_gets hx hb hsp.2.2.2.2.1 hS hown (hts _ (sW_in _ (List.mem_of_getElem? (i := 10) rfl))) (fun _ h => h) dJ0_isLatin1_aae02_0 ?_
  refine lv_if_eq (tgt := 17) hx hb dJ0_isLatin1_aae02_3 (by decide) (fun q => absurd q (by decide)) (fun _ => ?_)
  refine lv_aload_n hx hb dJ0_isLatin1_aae02_6 rfl (lv_at hl 0 rfl) ?_
  refine vk_getf hx hb hsp.2.1 hS hown (hts _ (sW_in _ (List.mem_of_getElem? (i := 29) rfl))) (fun _ h => h) dJ0_isLatin1_aae02_7 ?_
  refine lv_if_ne (tgt := 17) hx hb dJ0_isLatin1_aae02_10 (by decide) (fun q => absurd rfl q) (fun _ => ?_)
  refine lv_iconst (v := 1) hx hb dJ0_isLatin1_aae02_13 (by decide) ?_
  refine lv_goto (tgt := 18) hx hb dJ0_isLatin1_aae02_14 (by decide) ?_
  exact W.zret (v := 1) (ty := .boolean) hx hb hr rfl (fun t ht hW => ⟨1, rfl, rfl, ht⟩) (fun q h => by cases h) dJ0_isLatin1_aae02_18
set_option maxHeartbeats 4000000 in
set_option maxRecDepth 100000 in
theorem c_length (l : Launch) {a v n : Nat} {f : Nat → Value} {A : Nat → Prop} (hn : n < 2 ^ 31) : Met l yJ0_length_8abf5 (Cond.code yJ0_length_8abf5 cJ0_length_8abf5 1 (some .int) :: wsG) (rm0 1 20) (va_Pc [Value.ref a] (SP a v n f A)) (vp_Si (fun r => r = Int32.ofNat n)) 0 0 (fun _ => False) := by
  refine Met.ofW (cc := cJ0_length_8abf5) (maxL := 1) (ret := (some .int)) (by decide) rfl ?_
  intro p e s m args below meth c s₁ B hml hv9
  obtain ⟨rfl, hsp⟩ := hv9
  have hx := B.exec
  have hb := B.bytes
  have hr := B.returns
  have hlocks := B.notSynchronized
  have hts0 := atoms_spec (ws := Cond.code yJ0_length_8abf5 cJ0_length_8abf5 1 (some .int) :: wsG) B.pre
  have hts : ∀ w ∈ wsG, w.before [Value.ref a].toArray s = true := fun w hw => hts0 w (List.mem_cons_of_mem _ hw)
  have hown : s.vm.findClass "java/lang/String" = some m.cls := findClass_of_methodNamed B.named
  have hl := lv_entry ([Value.ref a]) (n := 1) (Nat.le_of_ble_eq_true rfl)
  rw [lg_entry_eq]
  generalize (lg_sl ([Value.ref a]) ++ List.replicate (1 - (lg_sl ([Value.ref a])).length) Slot.unset).toArray = ls at hl ⊢
  have hl : lv_has ls 1 [(0, .ref a)] := hl
  have hS : va_S A s.heap s.heap [] := va_S.rf
  refine lv_aload_n hx hb dJ0_length_8abf5_0 rfl (lv_at hl 0 rfl) ?_
  refine vk_getf hx hb hsp.2.2.1 hS hown (hts _ (sW_in _ (List.mem_of_getElem? (i := 28) rfl))) (fun _ h => h) dJ0_length_8abf5_1 ?_
  refine va_tlen hx hb hsp.2.2.2.1 hS rfl dJ0_length_8abf5_4 ?_
  refine lv_aload_n hx hb dJ0_length_8abf5_5 rfl (lv_at hl 0 rfl) ?_
  refine vp_callSi (W.runV (As := []) (rest := [.int (Int32.ofNat n)]) ⟨hx, hb, hml, hown, hts⟩ (c_coder l (a := a) (v := v) (n := n) (f := f) (A := A)) (cwV 0 hts (goodX (fun w hw => ?_)) rfl rfl rfl ⟨rfl, by decide, by decide, by decide +kernel⟩ ⟨Nat.le_of_ble_eq_true rfl, Nat.le_of_ble_eq_true rfl⟩) ⟨SP.blind, hsp.recv hS, fun U hU hW => ⟨rfl, hsp.call hS (fun _ h => h) hU hW⟩⟩ rfl rfl hl.1 rfl (lv_room (Nat.le_of_ble_eq_true rfl)) dJ0_length_8abf5_6 ⟨Nat.le_of_ble_eq_true rfl, Nat.le_of_ble_eq_true rfl⟩) (fun r9 hr9 => ?_)
  rotate_left
  · simp only [wsV, List.mem_append, List.mem_cons, List.not_mem_nil, or_false] at hw
    rcases hw with (rfl | rfl | rfl | rfl) | rfl | hw
    · exact (sW_in _ (List.mem_of_getElem? (i := 6) rfl))
    · exact (sW_in _ (List.mem_of_getElem? (i := 7) rfl))
    · exact (sW_in _ (List.mem_of_getElem? (i := 8) rfl))
    · exact (sW_in _ (List.mem_of_getElem? (i := 0) rfl))
    · exact (sW_in _ (List.mem_of_getElem? (i := 9) rfl))
    · exact hw
  subst hr9
  refine lv_ishr hx hb dJ0_length_8abf5_9 ?_
  refine lv_topi (fun x9 ex9 => ?_)
  have ex9 : x9 = Int32.ofNat n := ex9.trans (sc_shr0 hn)
  exact W.iret (v := x9) hx hb hr (fun t ht hW => ⟨x9, rfl, ex9, ht⟩) (fun q h => by cases h) dJ0_length_8abf5_10
set_option maxHeartbeats 4000000 in
set_option maxRecDepth 100000 in
theorem c_checkIndex3 (l : Launch) {i k : Int32} {fm : Value} (hf : fm = .null ∨ ∃ t, fm = .ref t) (h0 : ¬ i < 0) (h1 : i < k) : Met l yJ3_checkIndex_8e157 (Cond.code yJ3_checkIndex_8e157 cJ3_checkIndex_8e157 3 (some .int) :: wsG) (rm0 0 0) (va_Pc [Value.int i, Value.int k, fm] (fun _ => True)) (vp_Si (fun r => r = i)) 0 0 (fun _ => False) := by
  refine Met.ofW (cc := cJ3_checkIndex_8e157) (maxL := 3) (ret := (some .int)) (by decide) rfl ?_
  intro p e s m args below meth c s₁ B hml hv9
  obtain ⟨rfl, hsp⟩ := hv9
  have hx := B.exec
  have hb := B.bytes
  have hr := B.returns
  have hlocks := B.notSynchronized
  have hts0 := atoms_spec (ws := Cond.code yJ3_checkIndex_8e157 cJ3_checkIndex_8e157 3 (some .int) :: wsG) B.pre
  have hts : ∀ w ∈ wsG, w.before [Value.int i, Value.int k, fm].toArray s = true := fun w hw => hts0 w (List.mem_cons_of_mem _ hw)
  have hown : s.vm.findClass "jdk/internal/util/Preconditions" = some m.cls := findClass_of_methodNamed B.named
  have hl := lv_entry ([Value.int i, Value.int k, fm]) (n := 3) (by rcases hf with rfl | ⟨t9, rfl⟩ <;> exact Nat.le_of_ble_eq_true rfl)
  rw [lg_entry_eq]
  generalize (lg_sl ([Value.int i, Value.int k, fm]) ++ List.replicate (3 - (lg_sl ([Value.int i, Value.int k, fm])).length) Slot.unset).toArray = ls at hl ⊢
  have hl0 : ls[0]? = some (.val (.int i)) := hl.2.2 (0, .int i) (by simp [lv_args])
  have hl1 : ls[1]? = some (.val (.int k)) := hl.2.2 (1, .int k) (by simp [lv_args, Value.category])
  refine lv_iload_n hx hb dJ3_checkIndex_8e157_0 rfl hl0 ?_
  refine lv_if_lt (tgt := 9) hx hb dJ3_checkIndex_8e157_1 (by decide) (fun q => absurd q h0) (fun _ => ?_)
  refine lv_iload_n hx hb dJ3_checkIndex_8e157_4 rfl hl0 ?_
  refine lv_iload_n hx hb dJ3_checkIndex_8e157_5 rfl hl1 ?_
  refine lv_icmp_lt (tgt := 16) hx hb dJ3_checkIndex_8e157_6 (by decide) (fun _ => ?_) (fun q => absurd h1 q)
  refine lv_iload_n hx hb dJ3_checkIndex_8e157_16 rfl hl0 ?_
  exact W.iret (v := i) hx hb hr (fun t ht hW => ⟨i, rfl, rfl, ht⟩) (fun q h => by cases h) dJ3_checkIndex_8e157_17
set_option maxHeartbeats 4000000 in
set_option maxRecDepth 100000 in
theorem c_checkIndex0 (l : Launch) {a v n : Nat} {f : Nat → Value} {A : Nat → Prop} {i k : Int32} (h0 : ¬ i < 0) (h1 : i < k) : Met l yJ0_checkIndex_df160 (Cond.code yJ0_checkIndex_df160 cJ0_checkIndex_df160 2 none :: wsG) (rm0 1 22) (va_Pc [Value.int i, Value.int k] (SP a v n f A)) (va_Sv (fun _ => True)) 0 0 (fun _ => False) := by
  refine Met.ofW (cc := cJ0_checkIndex_df160) (maxL := 2) (ret := none) (by decide) rfl ?_
  intro p e s m args below meth c s₁ B hml hv9
  obtain ⟨rfl, hsp⟩ := hv9
  have hx := B.exec
  have hb := B.bytes
  have hr := B.returns
  have hlocks := B.notSynchronized
  have hts0 := atoms_spec (ws := Cond.code yJ0_checkIndex_df160 cJ0_checkIndex_df160 2 none :: wsG) B.pre
  have hts : ∀ w ∈ wsG, w.before [Value.int i, Value.int k].toArray s = true := fun w hw => hts0 w (List.mem_cons_of_mem _ hw)
  have hown : s.vm.findClass "java/lang/String" = some m.cls := findClass_of_methodNamed B.named
  have hl := lv_entry ([Value.int i, Value.int k]) (n := 2) (Nat.le_of_ble_eq_true rfl)
  rw [lg_entry_eq]
  generalize (lg_sl ([Value.int i, Value.int k]) ++ List.replicate (2 - (lg_sl ([Value.int i, Value.int k])).length) Slot.unset).toArray = ls at hl ⊢
  have hl : lv_has ls 2 [(0, .int i), (1, .int k)] := hl
  have hS : va_S A s.heap s.heap [] := va_S.rf
  refine lv_iload_n hx hb dJ0_checkIndex_df160_0 rfl (lv_at hl 0 rfl) ?_
  refine lv_iload_n hx hb dJ0_checkIndex_df160_1 rfl (lv_at hl 1 rfl) ?_
  rcases hsp.2.2.2.2.2 with hz | ⟨t9, hz⟩
  · refine va_gets hx hb hz hS hown (hts _ (sW_in _ (List.mem_of_getElem? (i := 24) rfl))) (fun _ h => h) dJ0_checkIndex_df160_2 ?_
    refine vp_callSi (W.runS (As := [.int i, .int k, .null]) (rest := []) ⟨hx, hb, hml, hown, hts⟩ (c_checkIndex3 l (i := i) (k := k) (fm := .null) (Or.inl rfl) h0 h1) ⟨callB_of 3 hts (goodX (fun w hw => ?_)) rfl rfl rfl (hts _ (sW_in _ (List.mem_of_getElem? (i := 2) rfl))) (hts _ (sW_in _ (List.mem_of_getElem? (i := 25) rfl))) ⟨by decide, by decide, by decide +kernel⟩ ⟨Nat.le_of_ble_eq_true rfl, Nat.le_of_ble_eq_true rfl⟩, (hts _ (sW_in _ (List.mem_of_getElem? (i := 26) rfl)))⟩ ⟨fun _ _ _ _ q => q, fun U hU hW => ⟨rfl, trivial⟩⟩ rfl rfl hl.1 rfl (lv_room (Nat.le_of_ble_eq_true rfl)) dJ0_checkIndex_df160_5 ⟨Nat.le_of_ble_eq_true rfl, Nat.le_of_ble_eq_true rfl⟩) (fun r9 hr9 => ?_)
    rotate_left
    · simp only [List.mem_cons] at hw
      rcases hw with rfl | hw
      · exact (sW_in _ (List.mem_of_getElem? (i := 27) rfl))
      · exact hw
    refine lv_pop hx hb dJ0_checkIndex_df160_8 rfl ?_
    exact W.vret hx hb hr (fun t ht hW => ⟨rfl, trivial, ht⟩) (fun q h => by cases h) dJ0_checkIndex_df160_9
  · refine va_gets hx hb hz hS hown (hts _ (sW_in _ (List.mem_of_getElem? (i := 24) rfl))) (fun _ h => h) dJ0_checkIndex_df160_2 ?_
    refine vp_callSi (W.runS (As := [.int i, .int k, .ref t9]) (rest := []) ⟨hx, hb, hml, hown, hts⟩ (c_checkIndex3 l (i := i) (k := k) (fm := .ref t9) (Or.inr ⟨_, rfl⟩) h0 h1) ⟨callB_of 3 hts (goodX (fun w hw => ?_)) rfl rfl rfl (hts _ (sW_in _ (List.mem_of_getElem? (i := 2) rfl))) (hts _ (sW_in _ (List.mem_of_getElem? (i := 25) rfl))) ⟨by decide, by decide, by decide +kernel⟩ ⟨Nat.le_of_ble_eq_true rfl, Nat.le_of_ble_eq_true rfl⟩, (hts _ (sW_in _ (List.mem_of_getElem? (i := 26) rfl)))⟩ ⟨fun _ _ _ _ q => q, fun U hU hW => ⟨rfl, trivial⟩⟩ rfl rfl hl.1 rfl (lv_room (Nat.le_of_ble_eq_true rfl)) dJ0_checkIndex_df160_5 ⟨Nat.le_of_ble_eq_true rfl, Nat.le_of_ble_eq_true rfl⟩) (fun r9 hr9 => ?_)
    rotate_left
    · simp only [List.mem_cons] at hw
      rcases hw with rfl | hw
      · exact (sW_in _ (List.mem_of_getElem? (i := 27) rfl))
      · exact hw
    refine lv_pop hx hb dJ0_checkIndex_df160_8 rfl ?_
    exact W.vret hx hb hr (fun t ht hW => ⟨rfl, trivial, ht⟩) (fun q h => by cases h) dJ0_checkIndex_df160_9
set_option maxHeartbeats 4000000 in
set_option maxRecDepth 100000 in
theorem c_charAt1 (l : Launch) {a v n : Nat} {f : Nat → Value} {A : Nat → Prop} {i x : Int32} (hn : n < 2 ^ 31) (hi : ix_ i n) (hfx : f i.toNatClampNeg = .int x) : Met l yJ1_charAt_3b067 (Cond.code yJ1_charAt_3b067 cJ1_charAt_3b067 2 (some .char) :: wsG) (rm0 2 43) (va_Pc [Value.ref v, Value.int i] (SP a v n f A)) (vp_Si (fun r => r = x &&& 255)) 0 0 (fun _ => False) := by
  refine Met.ofW (cc := cJ1_charAt_3b067) (maxL := 2) (ret := (some .char)) (by decide) rfl ?_
  intro p e s m args below meth c s₁ B hml hv9
  obtain ⟨rfl, hsp⟩ := hv9
  have hx := B.exec
  have hb := B.bytes
  have hr := B.returns
  have hlocks := B.notSynchronized
  have hts0 := atoms_spec (ws := Cond.code yJ1_charAt_3b067 cJ1_charAt_3b067 2 (some .char) :: wsG) B.pre
  have hts : ∀ w ∈ wsG, w.before [Value.ref v, Value.int i].toArray s = true := fun w hw => hts0 w (List.mem_cons_of_mem _ hw)
  have hown : s.vm.findClass "java/lang/StringLatin1" = some m.cls := findClass_of_methodNamed B.named
  have hl := lv_entry ([Value.ref v, Value.int i]) (n := 2) (Nat.le_of_ble_eq_true rfl)
  rw [lg_entry_eq]
  generalize (lg_sl ([Value.ref v, Value.int i]) ++ List.replicate (2 - (lg_sl ([Value.ref v, Value.int i])).length) Slot.unset).toArray = ls at hl ⊢
  have hl : lv_has ls 2 [(0, .ref v), (1, .int i)] := hl
  have hS : va_S A s.heap s.heap [] := va_S.rf
  have h0 : ¬ i < 0 := fun q => hi (Or.inl q)
  have h1 : i < Int32.ofNat n := by
    obtain ⟨j, hj, rfl⟩ := vp_in_of hi hn
    exact nI_lt hj hn
  refine lv_iload_n hx hb dJ1_charAt_3b067_0 rfl (lv_at hl 1 rfl) ?_
  refine lv_aload_n hx hb dJ1_charAt_3b067_1 rfl (lv_at hl 0 rfl) ?_
  refine va_tlen hx hb hsp.2.2.2.1 hS rfl dJ1_charAt_3b067_2 ?_
  refine va_csv (W.runS (As := [.int i, .int (Int32.ofNat n)]) (rest := []) ⟨hx, hb, hml, hown, hts⟩ (c_checkIndex0 l (a := a) (v := v) (n := n) (f := f) (A := A) (i := i) (k := Int32.ofNat n) h0 h1) ⟨callB_of 2 hts (goodX (fun w hw => ?_)) rfl rfl rfl (hts _ (sW_in _ (List.mem_of_getElem? (i := 0) rfl))) (hts _ (sW_in _ (List.mem_of_getElem? (i := 21) rfl))) ⟨by decide, by decide, by decide +kernel⟩ ⟨Nat.le_of_ble_eq_true rfl, Nat.le_of_ble_eq_true rfl⟩, (hts _ (sW_in _ (List.mem_of_getElem? (i := 22) rfl)))⟩ ⟨SP.blind, fun U hU hW => ⟨rfl, hsp.call hS (fun _ h => h) hU hW⟩⟩ rfl rfl hl.1 rfl (lv_room (Nat.le_of_ble_eq_true rfl)) dJ1_charAt_3b067_3 ⟨Nat.le_of_ble_eq_true rfl, Nat.le_of_ble_eq_true rfl⟩) (fun _ => ?_)
  rotate_left
  · simp only [List.mem_cons] at hw
    rcases hw with rfl | hw
    · exact (sW_in _ (List.mem_of_getElem? (i := 23) rfl))
    · exact hw
  refine lv_aload_n hx hb dJ1_charAt_3b067_6 rfl (lv_at hl 0 rfl) ?_
  refine lv_iload_n hx hb dJ1_charAt_3b067_7 rfl (lv_at hl 1 rfl) ?_
  refine va_tb hx hb hsp.2.2.2.1 hS hi hfx dJ1_charAt_3b067_8 ?_
  refine lv_sipush (v := 255) hx hb dJ1_charAt_3b067_9 (by decide) ?_
  refine lv_iand hx hb dJ1_charAt_3b067_12 ?_
  refine lv_i2c hx hb dJ1_charAt_3b067_13 (sc_c2 x) ?_
  exact W.zret (v := x &&& 255) (ty := .char) hx hb hr (sc_nar x) (fun t ht hW => ⟨_, rfl, rfl, ht⟩) (fun q h => by cases h) dJ1_charAt_3b067_14
set_option maxHeartbeats 4000000 in
set_option maxRecDepth 100000 in
theorem c_charAt0 (l : Launch) {a v n : Nat} {f : Nat → Value} {A : Nat → Prop} {i x : Int32} (hn : n < 2 ^ 31) (hi : ix_ i n) (hfx : f i.toNatClampNeg = .int x) : Met l yJ0_charAt_5068e (Cond.code yJ0_charAt_5068e cJ0_charAt_5068e 2 (some .char) :: wsG) (rm0 3 64) (va_Pc [Value.ref a, Value.int i] (SP a v n f A)) (vp_Si (fun r => r = x &&& 255)) 0 0 (fun _ => False) := by
  refine Met.ofW (cc := cJ0_charAt_5068e) (maxL := 2) (ret := (some .char)) (by decide) rfl ?_
  intro p e s m args below meth c s₁ B hml hv9
  obtain ⟨rfl, hsp⟩ := hv9
  have hx := B.exec
  have hb := B.bytes
  have hr := B.returns
  have hlocks := B.notSynchronized
  have hts0 := atoms_spec (ws := Cond.code yJ0_charAt_5068e cJ0_charAt_5068e 2 (some .char) :: wsG) B.pre
  have hts : ∀ w ∈ wsG, w.before [Value.ref a, Value.int i].toArray s = true := fun w hw => hts0 w (List.mem_cons_of_mem _ hw)
  have hown : s.vm.findClass "java/lang/String" = some m.cls := findClass_of_methodNamed B.named
  have hl := lv_entry ([Value.ref a, Value.int i]) (n := 2) (Nat.le_of_ble_eq_true rfl)
  rw [lg_entry_eq]
  generalize (lg_sl ([Value.ref a, Value.int i]) ++ List.replicate (2 - (lg_sl ([Value.ref a, Value.int i])).length) Slot.unset).toArray = ls at hl ⊢
  have hl : lv_has ls 2 [(0, .ref a), (1, .int i)] := hl
  have hS : va_S A s.heap s.heap [] := va_S.rf
  refine lv_aload_n hx hb dJ0_charAt_5068e_0 rfl (lv_at hl 0 rfl) ?_
  refine vp_callSi (W.runV (As := []) (rest := []) ⟨hx, hb, hml, hown, hts⟩ (c_isLatin1 l (a := a) (v := v) (n := n) (f := f) (A := A)) (cwV 0 hts (goodX (fun w hw => ?_)) rfl rfl rfl ⟨rfl, by decide, by decide, by decide +kernel⟩ ⟨Nat.le_of_ble_eq_true rfl, Nat.le_of_ble_eq_true rfl⟩) ⟨SP.blind, hsp.recv hS, fun U hU hW => ⟨rfl, hsp.call hS (fun _ h => h) hU hW⟩⟩ rfl rfl hl.1 rfl (lv_room (Nat.le_of_ble_eq_true rfl)) dJ0_charAt_5068e_1 ⟨Nat.le_of_ble_eq_true rfl, Nat.le_of_ble_eq_true rfl⟩) (fun r9 hr9 => ?_)
  rotate_left
  · simp only [wsV, List.mem_append, List.mem_cons, List.not_mem_nil, or_false] at hw
    rcases hw with (rfl | rfl | rfl | rfl) | rfl | hw
    · exact (sW_in _ (List.mem_of_getElem? (i := 14) rfl))
    · exact (sW_in _ (List.mem_of_getElem? (i := 15) rfl))
    · exact (sW_in _ (List.mem_of_getElem? (i := 16) rfl))
    · exact (sW_in _ (List.mem_of_getElem? (i := 0) rfl))
    · exact (sW_in _ (List.mem_of_getElem? (i := 17) rfl))
    · exact hw
  subst hr9
  refine lv_if_eq (tgt := 16) hx hb dJ0_charAt_5068e_4 (by decide) (fun q => absurd q (by decide)) (fun _ => ?_)
  refine lv_aload_n hx hb dJ0_charAt_5068e_7 rfl (lv_at hl 0 rfl) ?_
  refine vk_getf hx hb hsp.2.2.1 hS hown (hts _ (sW_in _ (List.mem_of_getElem? (i := 28) rfl))) (fun _ h => h) dJ0_charAt_5068e_8 ?_
  refine lv_iload_n hx hb dJ0_charAt_5068e_11 rfl (lv_at hl 1 rfl) ?_
  refine vp_callSi (W.runS (As := [.ref v, .int i]) (rest := []) ⟨hx, hb, hml, hown, hts⟩ (c_charAt1 l (a := a) (v := v) (n := n) (f := f) (A := A) (i := i) (x := x) hn hi hfx) ⟨callB_of 2 hts (goodX (fun w hw => ?_)) rfl rfl rfl (hts _ (sW_in _ (List.mem_of_getElem? (i := 1) rfl))) (hts _ (sW_in _ (List.mem_of_getElem? (i := 18) rfl))) ⟨by decide, by decide, by decide +kernel⟩ ⟨Nat.le_of_ble_eq_true rfl, Nat.le_of_ble_eq_true rfl⟩, (hts _ (sW_in _ (List.mem_of_getElem? (i := 19) rfl)))⟩ ⟨SP.blind, fun U hU hW => ⟨rfl, hsp.call hS (fun _ h => h) hU hW⟩⟩ rfl rfl hl.1 rfl (lv_room (Nat.le_of_ble_eq_true rfl)) dJ0_charAt_5068e_12 ⟨Nat.le_of_ble_eq_true rfl, Nat.le_of_ble_eq_true rfl⟩) (fun r9 hr9 => ?_)
  rotate_left
  · simp only [List.mem_cons] at hw
    rcases hw with rfl | hw
    · exact (sW_in _ (List.mem_of_getElem? (i := 20) rfl))
    · exact hw
  subst hr9
  exact W.zret (v := x &&& 255) (ty := .char) hx hb hr (sc_nar x) (fun t ht hW => ⟨_, rfl, rfl, ht⟩) (fun q h => by cases h) dJ0_charAt_5068e_15
end
section
/-! String.length, String.charAt, as the abstract machine has them -/
set_option maxRecDepth 20000 in
theorem stL3 : ∀ w ∈ (mlT.filter (fun q => q.2.2.1 == 903)).map (fun q => Cond.methodLink (cnm q.1) q.2.1 yJ0_length_8abf5), w ∈ wsG := memG _ [544, 1563] (by decide +kernel) (by decide +kernel)
set_option maxRecDepth 20000 in
theorem stL4 : ∀ w ∈ (mlT.filter (fun q => q.2.2.1 == 904)).map (fun q => Cond.methodLink (cnm q.1) q.2.1 yJ0_charAt_5068e), w ∈ wsG := memG _ [554, 1564] (by decide +kernel) (by decide +kernel)
theorem strNo_some {g : Nat → Nat} {a n : Nat} (h : strNo g a = some n) : n < 13 ∧ g n = a := by
  unfold strNo at h
  have h1 := List.find?_some h
  have h2 := List.mem_of_find?_eq_some h
  exact ⟨List.mem_range.mp h2, by simpa using h1⟩
theorem stLen_lt : ∀ n, n < 13 → stLenL.getD n 0 < 2 ^ 31 := by decide +kernel
theorem stByt_ok : ∀ n, n < 13 → ∀ j, j < stLenL.getD n 0 → ((stBytL.getD n []).getD j 0) &&& 255 = (stBytL.getD n []).getD j 0 := by decide +kernel
theorem Ev.sp {D : va_G} {cy : Nat → ClassId} {g adV : Nat → Nat} {A : Nat → Prop} {s : State} (h : Ev D cy g adV A s) {n : Nat} (hn : n < 13) : SP (g n) (adV n) (stLenL.getD n 0) (fun j => .int ((stBytL.getD n []).getD j 0)) A s := by
  obtain ⟨-, -, -, -, -, h6, h7, h8⟩ := h
  obtain ⟨a1, a2, a3, a4⟩ := h6.1 n hn
  exact ⟨a1, a2, a3, a4, h7, h8⟩
set_option maxHeartbeats 4000000 in
theorem xs_903 {l : Launch} {D : va_G} {cy : Nat → ClassId} {adV : Nat → Nat} {E : aEt} {lx : List Value → aH → aO} : Xs l D cy adV E lx 903 := by
  intro t p e R s m args below meth c A Q as rest S S' v H locs cu su pc x Lc hcx hxt hEe hm hF hL _ hcu hsu hsz hcs hW hS hd kk
  obtain ⟨hx, hb, hml, hown, hts, hnm, hE, hA, hRf, hRl, hsc⟩ := hcx
  simp only [xtF] at hxt
  split at hxt
  · next a =>
    obtain ⟨n, hn, hxt⟩ := nR_some hxt
    cases hxt
    obtain ⟨hn13, hga⟩ := strNo_some hn
    have hsp := hE.sp hn13
    have hga : E.1 n = a := by rw [← hEe]; exact hga
    rw [hga] at hsp
    have hd : decode (tB t) pc = .ok (.invokevirtual x, 3) := hd
    have hF : 5 ≤ tF t := hF
    have hL : 120 ≤ tW t := hL
    refine vp_callSi (W.runV (As := []) (rest := rest) (b := a) ⟨hx, hb, hml, hown, hts⟩ (c_length l (stLen_lt n hn13)) (cwV 0 hts (goodX (fun w hw => ?_)) rfl rfl rfl ⟨rfl, by decide, by decide, by decide +kernel⟩ ⟨by show 1 + 1 ≤ _; omega, by show 8 + (1 + 11) + 20 ≤ _; omega⟩) ⟨SP.blind, hsp.recv hS, fun U hU hW9 => ⟨rfl, hsp.call hS (fun _ h => h) hU hW9⟩⟩ rfl rfl hsz rfl (lv_room hcs) hd ⟨hcu, hsu⟩) (fun r9 hr9 => ?_)
    · simp only [wsV, List.mem_append, List.mem_cons, List.not_mem_nil, or_false] at hw
      rcases hw with (rfl | rfl | rfl | rfl) | rfl | hw
      · exact stL3 _ (List.mem_map.mpr ⟨_, List.mem_filter.mpr ⟨hm, rfl⟩, rfl⟩)
      · exact sW_in _ (by simp [sW])
      · exact sW_in _ (by simp [sW])
      · exact sW_in _ (by simp [sW])
      · exact sW_in _ (by simp [sW])
      · exact hw
    · rw [hr9]
      exact kk H locs hW hEe hS
  · cases hxt
set_option maxHeartbeats 4000000 in
theorem xs_904 {l : Launch} {D : va_G} {cy : Nat → ClassId} {adV : Nat → Nat} {E : aEt} {lx : List Value → aH → aO} : Xs l D cy adV E lx 904 := by
  intro t p e R s m args below meth c A Q as rest S S' v H locs cu su pc x Lc hcx hxt hEe hm hF hL _ hcu hsu hsz hcs hW hS hd kk
  obtain ⟨hx, hb, hml, hown, hts, hnm, hE, hA, hRf, hRl, hsc⟩ := hcx
  simp only [xtF] at hxt
  split at hxt
  · next a i =>
    obtain ⟨n, hn, hxt⟩ := nR_some hxt
    obtain ⟨hi, hxt⟩ := gd_some hxt
    cases hxt
    obtain ⟨hn13, hga⟩ := strNo_some hn
    have hsp := hE.sp hn13
    have hga : E.1 n = a := by rw [← hEe]; exact hga
    rw [hga] at hsp
    have hd : decode (tB t) pc = .ok (.invokevirtual x, 3) := hd
    have hF : 6 ≤ tF t := hF
    have hL : 200 ≤ tW t := hL
    refine vp_callSi (W.runV (As := [.int i]) (rest := rest) (b := a) ⟨hx, hb, hml, hown, hts⟩ (c_charAt0 l (stLen_lt n hn13) hi rfl) (cwV 1 hts (goodX (fun w hw => ?_)) rfl rfl rfl ⟨rfl, by decide, by decide, by decide +kernel⟩ ⟨by show 3 + 1 ≤ _; omega, by show 8 + (2 + 11) + 64 ≤ _; omega⟩) ⟨SP.blind, hsp.recv hS, fun U hU hW9 => ⟨rfl, hsp.call hS (fun _ h => h) hU hW9⟩⟩ rfl rfl hsz rfl (lv_room hcs) hd ⟨hcu, hsu⟩) (fun r9 hr9 => ?_)
    · simp only [wsV, List.mem_append, List.mem_cons, List.not_mem_nil, or_false] at hw
      rcases hw with (rfl | rfl | rfl | rfl) | rfl | hw
      · exact stL4 _ (List.mem_map.mpr ⟨_, List.mem_filter.mpr ⟨hm, rfl⟩, rfl⟩)
      · exact sW_in _ (by simp [sW])
      · exact sW_in _ (by simp [sW])
      · exact sW_in _ (by simp [sW])
      · exact sW_in _ (by simp [sW])
      · exact hw
    · have hlt : i.toNatClampNeg < stLenL.getD n 0 := Nat.not_le.mp fun q => hi (Or.inr q)
      rw [hr9, stByt_ok n hn13 _ hlt]
      exact kk H locs hW hEe hS
  · cases hxt
end
section
/-! what a run comes to, asked from behind -/
noncomputable def Am (lx : List Value → aH → aO) (id : Nat) : aKt := Amg aCode aML aMb (xtF lx) id
noncomputable def Ca (lx : List Value → aH → aO) : aC := Cag aCode aML aMb (xtF lx)
def Wp (x : aO) (P : Option Value → aH → Prop) : Prop := ∃ v S, x = some (v, S) ∧ P v S
theorem wp_am {lx : List Value → aH → aO} {id k : Nat} {ls : aL} {st : List Value} {b : aB} {S : aH} {P : Option Value → aH → Prop} {code : List aM} (f : Nat) (hc : aCode id = code) (h : Wp (blk code (Am lx id) (Ca lx) f k ls st b S) P) : Wp (Am lx id k ls st b S) P := by
  obtain ⟨v, S', h1, h2⟩ := h
  subst hc
  exact ⟨v, S', Amg_blk aCode aML aMb (xtF lx) f k ls st b S h1, h2⟩
theorem wp_none {P : Option Value → aH → Prop} : Wp none P ↔ False := ⟨fun ⟨_, _, h, _⟩ => by cases h, fun h => h.elim⟩
theorem wp_some {v : Option Value} {S : aH} {P : Option Value → aH → Prop} : Wp (some (v, S)) P ↔ P v S := ⟨fun ⟨_, _, h, hp⟩ => by cases h; exact hp, fun h => ⟨v, S, rfl, h⟩⟩
theorem wp_gd {c : Prop} [Decidable c] {x : aO} {P : Option Value → aH → Prop} : Wp (gd c x) P ↔ c ∧ Wp x P := by
  unfold gd; split
  · next h => exact ⟨fun q => ⟨h, q⟩, fun q => q.2⟩
  · next h => exact ⟨fun q => (wp_none.mp q).elim, fun q => absurd q.1 h⟩
theorem wp_ite {c : Prop} [Decidable c] {x y : aO} {P : Option Value → aH → Prop} : Wp (if c then x else y) P ↔ (c → Wp x P) ∧ (¬ c → Wp y P) := by
  split
  · next h => exact ⟨fun q => ⟨fun _ => q, fun z => absurd h z⟩, fun q => q.1 h⟩
  · next h => exact ⟨fun q => ⟨fun z => absurd z h, fun _ => q⟩, fun q => q.2 h⟩
theorem wp_nR {r : Option Nat} {f : Nat → aO} {P : Option Value → aH → Prop} : Wp (nR r f) P ↔ ∃ a, r = some a ∧ Wp (f a) P := by
  cases r with
  | none => exact ⟨fun q => (wp_none.mp q).elim, fun ⟨_, q, _⟩ => by cases q⟩
  | some a => exact ⟨fun q => ⟨a, rfl, q⟩, fun ⟨_, q, h⟩ => by cases q; exact h⟩
theorem wp_nQ {r : Option Nat} {f : Nat → aO} {g : aO} {P : Option Value → aH → Prop} : Wp (nQ r f g) P ↔ (∀ a, r = some a → Wp (f a) P) ∧ (r = none → Wp g P) := by
  cases r with
  | none => exact ⟨fun q => ⟨fun a h => (by cases h), fun _ => q⟩, fun q => q.2 rfl⟩
  | some a => exact ⟨fun q => ⟨fun b h => by cases h; exact q, fun h => (by cases h)⟩, fun q => q.1 a rfl⟩
theorem wp_cI {q : aO} {f : Int32 → aH → aO} {P : Option Value → aH → Prop} : Wp (cI q f) P ↔ Wp q (fun v S => ∃ x, v = some (.int x) ∧ Wp (f x S) P) := by
  unfold cI; split
  · next x S => exact ⟨fun h => wp_some.mpr ⟨x, rfl, h⟩, fun h => by obtain ⟨y, e, h⟩ := wp_some.mp h; cases e; exact h⟩
  · next hn => exact ⟨fun h => (wp_none.mp h).elim, fun ⟨v, S, e, x, e2, h⟩ => absurd (by rw [e, e2]) (hn x S)⟩
theorem wp_cJ {q : aO} {f : Int64 → aH → aO} {P : Option Value → aH → Prop} : Wp (cJ q f) P ↔ Wp q (fun v S => ∃ x, v = some (.long x) ∧ Wp (f x S) P) := by
  unfold cJ; split
  · next x S => exact ⟨fun h => wp_some.mpr ⟨x, rfl, h⟩, fun h => by obtain ⟨y, e, h⟩ := wp_some.mp h; cases e; exact h⟩
  · next hn => exact ⟨fun h => (wp_none.mp h).elim, fun ⟨v, S, e, x, e2, h⟩ => absurd (by rw [e, e2]) (hn x S)⟩
theorem wp_cV {q : aO} {f : aH → aO} {P : Option Value → aH → Prop} : Wp (cV q f) P ↔ Wp q (fun v S => v = none ∧ Wp (f S) P) := by
  unfold cV; split
  · next S => exact ⟨fun h => wp_some.mpr ⟨rfl, h⟩, fun h => (wp_some.mp h).2⟩
  · next hn => exact ⟨fun h => (wp_none.mp h).elim, fun ⟨v, S, e, e2, h⟩ => absurd (by rw [e, e2]) (hn S)⟩
theorem Wp.mono {x : aO} {P Q : Option Value → aH → Prop} (h : Wp x P) (hpq : ∀ v S, P v S → Q v S) : Wp x Q := by
  obtain ⟨v, S, e, hp⟩ := h
  exact ⟨v, S, e, hpq v S hp⟩
/-- a call of a method of the tables -/
theorem wp_ca {lx : List Value → aH → aO} {u : Nat} {as : List Value} {S : aH} {P : Option Value → aH → Prop} (hu : u < 900) (hl : cs_ as ≤ aML u) (h : Wp (Am lx u 0 (pd_ (ea_ as) (aML u)) [] (aMb u) S) P) : Wp (Ca lx u as S) P := by
  unfold Ca Cag
  rw [if_pos hu]
  have : Nat.ble (cs_ as) (aML u) = true := by rw [Nat.ble_eq]; exact hl
  rw [this]
  exact h
def lt_ (e : aH) (f : aH → aO) : aO := f e
theorem wp_lt {e : aH} {f : aH → aO} {P : Option Value → aH → Prop} : Wp (lt_ e f) P ↔ ∀ S, S = e → Wp (f S) P := ⟨fun h S hS => hS ▸ h, fun h => h e rfl⟩
end
