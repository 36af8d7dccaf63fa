section
-- ===== PART A: goes FIRST, ahead of the names: the tables' words, and 'selects' of the private methods out of them =====
/-- a private method of a class that the tables say can be made, by its rows of tables_1 -/
def lw_okq (q : MethodName × Nat) : Prop := (q.1.cls ≠ "java/lang/invoke/MethodHandle" ∧ q.1.cls ≠ "java/lang/invoke/VarHandle") ∧ Cond.instantiable q.1.cls q.2 ∈ tables_1 ∧ Cond.privateMethod q.1 ∈ tables_1 ∧ Cond.instanceMethod q.1 ∈ tables_1
theorem lw_p0 : lw_okq (⟨"BaroRuns", "record", "()V"⟩, 9) := ⟨⟨by decide +kernel, by decide +kernel⟩, List.mem_of_getElem? (i := 12) (by decide +kernel), List.mem_of_getElem? (i := 243) (by decide +kernel), List.mem_of_getElem? (i := 244) (by decide +kernel)⟩
theorem lw_p1 : lw_okq (⟨"BaroRuns$History", "place", "(I)LBaroRuns$State;"⟩, 3) := ⟨⟨by decide +kernel, by decide +kernel⟩, List.mem_of_getElem? (i := 72) (by decide +kernel), List.mem_of_getElem? (i := 251) (by decide +kernel), List.mem_of_getElem? (i := 252) (by decide +kernel)⟩
theorem lw_p2 : lw_okq (⟨"BaroRuns", "take", "(IIIII)I"⟩, 9) := ⟨⟨by decide +kernel, by decide +kernel⟩, List.mem_of_getElem? (i := 12) (by decide +kernel), List.mem_of_getElem? (i := 289) (by decide +kernel), List.mem_of_getElem? (i := 290) (by decide +kernel)⟩
theorem lw_p3 : lw_okq (⟨"BaroRuns$Track", "move", "(II)V"⟩, 3) := ⟨⟨by decide +kernel, by decide +kernel⟩, List.mem_of_getElem? (i := 26) (by decide +kernel), List.mem_of_getElem? (i := 318) (by decide +kernel), List.mem_of_getElem? (i := 319) (by decide +kernel)⟩
theorem lw_p4 : lw_okq (⟨"BaroRuns", "isReadingOf", "(II)Z"⟩, 9) := ⟨⟨by decide +kernel, by decide +kernel⟩, List.mem_of_getElem? (i := 12) (by decide +kernel), List.mem_of_getElem? (i := 339) (by decide +kernel), List.mem_of_getElem? (i := 340) (by decide +kernel)⟩
theorem lw_p5 : lw_okq (⟨"BaroRuns", "refresh", "()V"⟩, 9) := ⟨⟨by decide +kernel, by decide +kernel⟩, List.mem_of_getElem? (i := 12) (by decide +kernel), List.mem_of_getElem? (i := 352) (by decide +kernel), List.mem_of_getElem? (i := 353) (by decide +kernel)⟩
theorem lw_p6 : lw_okq (⟨"BaroRuns$Survey", "countKinds", "()V"⟩, 12) := ⟨⟨by decide +kernel, by decide +kernel⟩, List.mem_of_getElem? (i := 92) (by decide +kernel), List.mem_of_getElem? (i := 387) (by decide +kernel), List.mem_of_getElem? (i := 388) (by decide +kernel)⟩
theorem lw_p7 : lw_okq (⟨"BaroRuns$Survey", "findLoops", "()V"⟩, 12) := ⟨⟨by decide +kernel, by decide +kernel⟩, List.mem_of_getElem? (i := 92) (by decide +kernel), List.mem_of_getElem? (i := 401) (by decide +kernel), List.mem_of_getElem? (i := 402) (by decide +kernel)⟩
theorem lw_p8 : lw_okq (⟨"BaroRuns$Survey", "lastVisit", "(I)I"⟩, 12) := ⟨⟨by decide +kernel, by decide +kernel⟩, List.mem_of_getElem? (i := 92) (by decide +kernel), List.mem_of_getElem? (i := 405) (by decide +kernel), List.mem_of_getElem? (i := 406) (by decide +kernel)⟩
theorem lw_p9 : lw_okq (⟨"BaroRuns$Survey", "shortestLoop", "(I)I"⟩, 12) := ⟨⟨by decide +kernel, by decide +kernel⟩, List.mem_of_getElem? (i := 92) (by decide +kernel), List.mem_of_getElem? (i := 409) (by decide +kernel), List.mem_of_getElem? (i := 410) (by decide +kernel)⟩
theorem lw_p10 : lw_okq (⟨"BaroRuns$Survey", "withoutDrift", "(I)I"⟩, 12) := ⟨⟨by decide +kernel, by decide +kernel⟩, List.mem_of_getElem? (i := 92) (by decide +kernel), List.mem_of_getElem? (i := 425) (by decide +kernel), List.mem_of_getElem? (i := 426) (by decide +kernel)⟩
theorem lw_p11 : lw_okq (⟨"BaroRuns", "surveyOf", "(I)LBaroRuns$Survey;"⟩, 9) := ⟨⟨by decide +kernel, by decide +kernel⟩, List.mem_of_getElem? (i := 12) (by decide +kernel), List.mem_of_getElem? (i := 442) (by decide +kernel), List.mem_of_getElem? (i := 443) (by decide +kernel)⟩
theorem lw_p12 : lw_okq (⟨"BaroRuns$State", "isStepEnd", "(I)Z"⟩, 7) := ⟨⟨by decide +kernel, by decide +kernel⟩, List.mem_of_getElem? (i := 20) (by decide +kernel), List.mem_of_getElem? (i := 457) (by decide +kernel), List.mem_of_getElem? (i := 458) (by decide +kernel)⟩
theorem lw_p13 : lw_okq (⟨"BaroRuns", "pointsWithHeight", "()I"⟩, 9) := ⟨⟨by decide +kernel, by decide +kernel⟩, List.mem_of_getElem? (i := 12) (by decide +kernel), List.mem_of_getElem? (i := 464) (by decide +kernel), List.mem_of_getElem? (i := 465) (by decide +kernel)⟩
theorem lw_p14 : lw_okq (⟨"BaroRuns", "gather", "(I)V"⟩, 9) := ⟨⟨by decide +kernel, by decide +kernel⟩, List.mem_of_getElem? (i := 12) (by decide +kernel), List.mem_of_getElem? (i := 468) (by decide +kernel), List.mem_of_getElem? (i := 469) (by decide +kernel)⟩
theorem lw_p15 : lw_okq (⟨"BaroRuns$Survey", "endsOpenLoop", "(I)Z"⟩, 12) := ⟨⟨by decide +kernel, by decide +kernel⟩, List.mem_of_getElem? (i := 92) (by decide +kernel), List.mem_of_getElem? (i := 480) (by decide +kernel), List.mem_of_getElem? (i := 481) (by decide +kernel)⟩
def lw_privs_1 : List (MethodName × Nat) := [(⟨"BaroRuns", "record", "()V"⟩, 9), (⟨"BaroRuns$History", "place", "(I)LBaroRuns$State;"⟩, 3), (⟨"BaroRuns", "take", "(IIIII)I"⟩, 9), (⟨"BaroRuns$Track", "move", "(II)V"⟩, 3), (⟨"BaroRuns", "isReadingOf", "(II)Z"⟩, 9), (⟨"BaroRuns", "refresh", "()V"⟩, 9), (⟨"BaroRuns$Survey", "countKinds", "()V"⟩, 12), (⟨"BaroRuns$Survey", "findLoops", "()V"⟩, 12), (⟨"BaroRuns$Survey", "lastVisit", "(I)I"⟩, 12), (⟨"BaroRuns$Survey", "shortestLoop", "(I)I"⟩, 12), (⟨"BaroRuns$Survey", "withoutDrift", "(I)I"⟩, 12), (⟨"BaroRuns", "surveyOf", "(I)LBaroRuns$Survey;"⟩, 9), (⟨"BaroRuns$State", "isStepEnd", "(I)Z"⟩, 7), (⟨"BaroRuns", "pointsWithHeight", "()I"⟩, 9), (⟨"BaroRuns", "gather", "(I)V"⟩, 9), (⟨"BaroRuns$Survey", "endsOpenLoop", "(I)Z"⟩, 12)]
theorem lw_r1 : ∀ q ∈ lw_privs_1, lw_okq q := List.forall_mem_cons.mpr ⟨lw_p0, List.forall_mem_cons.mpr ⟨lw_p1, List.forall_mem_cons.mpr ⟨lw_p2, List.forall_mem_cons.mpr ⟨lw_p3, List.forall_mem_cons.mpr ⟨lw_p4, List.forall_mem_cons.mpr ⟨lw_p5, List.forall_mem_cons.mpr ⟨lw_p6, List.forall_mem_cons.mpr ⟨lw_p7, List.forall_mem_cons.mpr ⟨lw_p8, List.forall_mem_cons.mpr ⟨lw_p9, List.forall_mem_cons.mpr ⟨lw_p10, List.forall_mem_cons.mpr ⟨lw_p11, List.forall_mem_cons.mpr ⟨lw_p12, List.forall_mem_cons.mpr ⟨lw_p13, List.forall_mem_cons.mpr ⟨lw_p14, List.forall_mem_cons.mpr ⟨lw_p15, fun _ h => absurd h List.not_mem_nil⟩⟩⟩⟩⟩⟩⟩⟩⟩⟩⟩⟩⟩⟩⟩⟩
theorem lw_p16 : lw_okq (⟨"BaroRuns", "greatestPressure", "(III)I"⟩, 9) := ⟨⟨by decide +kernel, by decide +kernel⟩, List.mem_of_getElem? (i := 12) (by decide +kernel), List.mem_of_getElem? (i := 533) (by decide +kernel), List.mem_of_getElem? (i := 534) (by decide +kernel)⟩
theorem lw_p17 : lw_okq (⟨"BaroRuns", "tryText", "()V"⟩, 9) := ⟨⟨by decide +kernel, by decide +kernel⟩, List.mem_of_getElem? (i := 12) (by decide +kernel), List.mem_of_getElem? (i := 598) (by decide +kernel), List.mem_of_getElem? (i := 599) (by decide +kernel)⟩
theorem lw_p18 : lw_okq (⟨"BaroRuns$Text", "takeReading", "()Z"⟩, 11) := ⟨⟨by decide +kernel, by decide +kernel⟩, List.mem_of_getElem? (i := 158) (by decide +kernel), List.mem_of_getElem? (i := 607) (by decide +kernel), List.mem_of_getElem? (i := 608) (by decide +kernel)⟩
theorem lw_p19 : lw_okq (⟨"BaroRuns$Text", "takePlace", "()Z"⟩, 11) := ⟨⟨by decide +kernel, by decide +kernel⟩, List.mem_of_getElem? (i := 158) (by decide +kernel), List.mem_of_getElem? (i := 611) (by decide +kernel), List.mem_of_getElem? (i := 612) (by decide +kernel)⟩
theorem lw_p20 : lw_okq (⟨"BaroRuns$Text", "skip", "(C)Z"⟩, 11) := ⟨⟨by decide +kernel, by decide +kernel⟩, List.mem_of_getElem? (i := 158) (by decide +kernel), List.mem_of_getElem? (i := 615) (by decide +kernel), List.mem_of_getElem? (i := 616) (by decide +kernel)⟩
theorem lw_p21 : lw_okq (⟨"BaroRuns$Text", "takeNumber", "(I)I"⟩, 11) := ⟨⟨by decide +kernel, by decide +kernel⟩, List.mem_of_getElem? (i := 158) (by decide +kernel), List.mem_of_getElem? (i := 620) (by decide +kernel), List.mem_of_getElem? (i := 621) (by decide +kernel)⟩
theorem lw_p22 : lw_okq (⟨"BaroRuns$Text", "reasonAgainst", "(LBaroRuns$Track;)I"⟩, 11) := ⟨⟨by decide +kernel, by decide +kernel⟩, List.mem_of_getElem? (i := 158) (by decide +kernel), List.mem_of_getElem? (i := 626) (by decide +kernel), List.mem_of_getElem? (i := 627) (by decide +kernel)⟩
theorem lw_p23 : lw_okq (⟨"BaroRunsModel", "records", "()V"⟩, 21) := ⟨⟨by decide +kernel, by decide +kernel⟩, List.mem_of_getElem? (i := 638) (by decide +kernel), List.mem_of_getElem? (i := 723) (by decide +kernel), List.mem_of_getElem? (i := 724) (by decide +kernel)⟩
theorem lw_p24 : lw_okq (⟨"BaroRunsModel", "adds", "(IIIII)I"⟩, 21) := ⟨⟨by decide +kernel, by decide +kernel⟩, List.mem_of_getElem? (i := 638) (by decide +kernel), List.mem_of_getElem? (i := 736) (by decide +kernel), List.mem_of_getElem? (i := 737) (by decide +kernel)⟩
theorem lw_p25 : lw_okq (⟨"BaroRunsModel", "isTaken", "(II)Z"⟩, 21) := ⟨⟨by decide +kernel, by decide +kernel⟩, List.mem_of_getElem? (i := 638) (by decide +kernel), List.mem_of_getElem? (i := 740) (by decide +kernel), List.mem_of_getElem? (i := 741) (by decide +kernel)⟩
theorem lw_p26 : lw_okq (⟨"BaroRunsModel", "of", "(III)I"⟩, 21) := ⟨⟨by decide +kernel, by decide +kernel⟩, List.mem_of_getElem? (i := 638) (by decide +kernel), List.mem_of_getElem? (i := 744) (by decide +kernel), List.mem_of_getElem? (i := 745) (by decide +kernel)⟩
theorem lw_p27 : lw_okq (⟨"BaroRunsModel", "isFull", "(I)Z"⟩, 21) := ⟨⟨by decide +kernel, by decide +kernel⟩, List.mem_of_getElem? (i := 638) (by decide +kernel), List.mem_of_getElem? (i := 749) (by decide +kernel), List.mem_of_getElem? (i := 750) (by decide +kernel)⟩
theorem lw_p28 : lw_okq (⟨"BaroRunsModel", "puts", "(IIIII)I"⟩, 21) := ⟨⟨by decide +kernel, by decide +kernel⟩, List.mem_of_getElem? (i := 638) (by decide +kernel), List.mem_of_getElem? (i := 754) (by decide +kernel), List.mem_of_getElem? (i := 755) (by decide +kernel)⟩
theorem lw_p29 : lw_okq (⟨"BaroRunsModel", "moves", "(III)V"⟩, 21) := ⟨⟨by decide +kernel, by decide +kernel⟩, List.mem_of_getElem? (i := 638) (by decide +kernel), List.mem_of_getElem? (i := 758) (by decide +kernel), List.mem_of_getElem? (i := 759) (by decide +kernel)⟩
theorem lw_p30 : lw_okq (⟨"BaroRunsModel", "isReading", "(II)Z"⟩, 21) := ⟨⟨by decide +kernel, by decide +kernel⟩, List.mem_of_getElem? (i := 638) (by decide +kernel), List.mem_of_getElem? (i := 773) (by decide +kernel), List.mem_of_getElem? (i := 774) (by decide +kernel)⟩
theorem lw_p31 : lw_okq (⟨"BaroRunsModel", "isGust", "(II)Z"⟩, 21) := ⟨⟨by decide +kernel, by decide +kernel⟩, List.mem_of_getElem? (i := 638) (by decide +kernel), List.mem_of_getElem? (i := 782) (by decide +kernel), List.mem_of_getElem? (i := 783) (by decide +kernel)⟩
def lw_privs_2 : List (MethodName × Nat) := [(⟨"BaroRuns", "greatestPressure", "(III)I"⟩, 9), (⟨"BaroRuns", "tryText", "()V"⟩, 9), (⟨"BaroRuns$Text", "takeReading", "()Z"⟩, 11), (⟨"BaroRuns$Text", "takePlace", "()Z"⟩, 11), (⟨"BaroRuns$Text", "skip", "(C)Z"⟩, 11), (⟨"BaroRuns$Text", "takeNumber", "(I)I"⟩, 11), (⟨"BaroRuns$Text", "reasonAgainst", "(LBaroRuns$Track;)I"⟩, 11), (⟨"BaroRunsModel", "records", "()V"⟩, 21), (⟨"BaroRunsModel", "adds", "(IIIII)I"⟩, 21), (⟨"BaroRunsModel", "isTaken", "(II)Z"⟩, 21), (⟨"BaroRunsModel", "of", "(III)I"⟩, 21), (⟨"BaroRunsModel", "isFull", "(I)Z"⟩, 21), (⟨"BaroRunsModel", "puts", "(IIIII)I"⟩, 21), (⟨"BaroRunsModel", "moves", "(III)V"⟩, 21), (⟨"BaroRunsModel", "isReading", "(II)Z"⟩, 21), (⟨"BaroRunsModel", "isGust", "(II)Z"⟩, 21)]
theorem lw_r2 : ∀ q ∈ lw_privs_2, lw_okq q := List.forall_mem_cons.mpr ⟨lw_p16, List.forall_mem_cons.mpr ⟨lw_p17, List.forall_mem_cons.mpr ⟨lw_p18, List.forall_mem_cons.mpr ⟨lw_p19, List.forall_mem_cons.mpr ⟨lw_p20, List.forall_mem_cons.mpr ⟨lw_p21, List.forall_mem_cons.mpr ⟨lw_p22, List.forall_mem_cons.mpr ⟨lw_p23, List.forall_mem_cons.mpr ⟨lw_p24, List.forall_mem_cons.mpr ⟨lw_p25, List.forall_mem_cons.mpr ⟨lw_p26, List.forall_mem_cons.mpr ⟨lw_p27, List.forall_mem_cons.mpr ⟨lw_p28, List.forall_mem_cons.mpr ⟨lw_p29, List.forall_mem_cons.mpr ⟨lw_p30, List.forall_mem_cons.mpr ⟨lw_p31, fun _ h => absurd h List.not_mem_nil⟩⟩⟩⟩⟩⟩⟩⟩⟩⟩⟩⟩⟩⟩⟩⟩
theorem lw_p32 : lw_okq (⟨"BaroRunsModel", "looks", "(I)V"⟩, 21) := ⟨⟨by decide +kernel, by decide +kernel⟩, List.mem_of_getElem? (i := 638) (by decide +kernel), List.mem_of_getElem? (i := 786) (by decide +kernel), List.mem_of_getElem? (i := 787) (by decide +kernel)⟩
theorem lw_p33 : lw_okq (⟨"BaroRunsModel", "hasBase", "(I)Z"⟩, 21) := ⟨⟨by decide +kernel, by decide +kernel⟩, List.mem_of_getElem? (i := 638) (by decide +kernel), List.mem_of_getElem? (i := 790) (by decide +kernel), List.mem_of_getElem? (i := 791) (by decide +kernel)⟩
theorem lw_p34 : lw_okq (⟨"BaroRunsModel", "rawOf", "(II)I"⟩, 21) := ⟨⟨by decide +kernel, by decide +kernel⟩, List.mem_of_getElem? (i := 638) (by decide +kernel), List.mem_of_getElem? (i := 800) (by decide +kernel), List.mem_of_getElem? (i := 801) (by decide +kernel)⟩
theorem lw_p35 : lw_okq (⟨"BaroRunsModel", "inAll", "(I)I"⟩, 21) := ⟨⟨by decide +kernel, by decide +kernel⟩, List.mem_of_getElem? (i := 638) (by decide +kernel), List.mem_of_getElem? (i := 811) (by decide +kernel), List.mem_of_getElem? (i := 812) (by decide +kernel)⟩
theorem lw_p36 : lw_okq (⟨"BaroRunsModel", "steps", "()I"⟩, 21) := ⟨⟨by decide +kernel, by decide +kernel⟩, List.mem_of_getElem? (i := 638) (by decide +kernel), List.mem_of_getElem? (i := 815) (by decide +kernel), List.mem_of_getElem? (i := 816) (by decide +kernel)⟩
theorem lw_p37 : lw_okq (⟨"BaroRunsModel", "stepsTo", "(I)I"⟩, 21) := ⟨⟨by decide +kernel, by decide +kernel⟩, List.mem_of_getElem? (i := 638) (by decide +kernel), List.mem_of_getElem? (i := 819) (by decide +kernel), List.mem_of_getElem? (i := 820) (by decide +kernel)⟩
theorem lw_p38 : lw_okq (⟨"BaroRunsModel", "heights", "()I"⟩, 21) := ⟨⟨by decide +kernel, by decide +kernel⟩, List.mem_of_getElem? (i := 638) (by decide +kernel), List.mem_of_getElem? (i := 823) (by decide +kernel), List.mem_of_getElem? (i := 824) (by decide +kernel)⟩
theorem lw_p39 : lw_okq (⟨"BaroRunsModel", "gives", "(I)V"⟩, 21) := ⟨⟨by decide +kernel, by decide +kernel⟩, List.mem_of_getElem? (i := 638) (by decide +kernel), List.mem_of_getElem? (i := 827) (by decide +kernel), List.mem_of_getElem? (i := 828) (by decide +kernel)⟩
theorem lw_p40 : lw_okq (⟨"BaroRunsModel", "open", "(II)I"⟩, 21) := ⟨⟨by decide +kernel, by decide +kernel⟩, List.mem_of_getElem? (i := 638) (by decide +kernel), List.mem_of_getElem? (i := 831) (by decide +kernel), List.mem_of_getElem? (i := 832) (by decide +kernel)⟩
theorem lw_p41 : lw_okq (⟨"BaroRunsModel", "timeOf", "(II)I"⟩, 21) := ⟨⟨by decide +kernel, by decide +kernel⟩, List.mem_of_getElem? (i := 638) (by decide +kernel), List.mem_of_getElem? (i := 835) (by decide +kernel), List.mem_of_getElem? (i := 836) (by decide +kernel)⟩
theorem lw_p42 : lw_okq (⟨"BaroRunsModel", "correctedOf", "(II)I"⟩, 21) := ⟨⟨by decide +kernel, by decide +kernel⟩, List.mem_of_getElem? (i := 638) (by decide +kernel), List.mem_of_getElem? (i := 839) (by decide +kernel), List.mem_of_getElem? (i := 840) (by decide +kernel)⟩
theorem lw_p43 : lw_okq (⟨"BaroRunsModel", "bySteps", "(I)I"⟩, 21) := ⟨⟨by decide +kernel, by decide +kernel⟩, List.mem_of_getElem? (i := 638) (by decide +kernel), List.mem_of_getElem? (i := 877) (by decide +kernel), List.mem_of_getElem? (i := 878) (by decide +kernel)⟩
theorem lw_p44 : lw_okq (⟨"BaroRunsModel", "faulty", "()I"⟩, 21) := ⟨⟨by decide +kernel, by decide +kernel⟩, List.mem_of_getElem? (i := 638) (by decide +kernel), List.mem_of_getElem? (i := 909) (by decide +kernel), List.mem_of_getElem? (i := 910) (by decide +kernel)⟩
theorem lw_p45 : lw_okq (⟨"BaroRunsModel", "entersOne", "()I"⟩, 21) := ⟨⟨by decide +kernel, by decide +kernel⟩, List.mem_of_getElem? (i := 638) (by decide +kernel), List.mem_of_getElem? (i := 913) (by decide +kernel), List.mem_of_getElem? (i := 914) (by decide +kernel)⟩
theorem lw_p46 : lw_okq (⟨"BaroRunsModel", "readsForm", "()Z"⟩, 21) := ⟨⟨by decide +kernel, by decide +kernel⟩, List.mem_of_getElem? (i := 638) (by decide +kernel), List.mem_of_getElem? (i := 917) (by decide +kernel), List.mem_of_getElem? (i := 918) (by decide +kernel)⟩
theorem lw_p47 : lw_okq (⟨"BaroRunsModel", "passes", "(C)Z"⟩, 21) := ⟨⟨by decide +kernel, by decide +kernel⟩, List.mem_of_getElem? (i := 638) (by decide +kernel), List.mem_of_getElem? (i := 921) (by decide +kernel), List.mem_of_getElem? (i := 922) (by decide +kernel)⟩
def lw_privs_3 : List (MethodName × Nat) := [(⟨"BaroRunsModel", "looks", "(I)V"⟩, 21), (⟨"BaroRunsModel", "hasBase", "(I)Z"⟩, 21), (⟨"BaroRunsModel", "rawOf", "(II)I"⟩, 21), (⟨"BaroRunsModel", "inAll", "(I)I"⟩, 21), (⟨"BaroRunsModel", "steps", "()I"⟩, 21), (⟨"BaroRunsModel", "stepsTo", "(I)I"⟩, 21), (⟨"BaroRunsModel", "heights", "()I"⟩, 21), (⟨"BaroRunsModel", "gives", "(I)V"⟩, 21), (⟨"BaroRunsModel", "open", "(II)I"⟩, 21), (⟨"BaroRunsModel", "timeOf", "(II)I"⟩, 21), (⟨"BaroRunsModel", "correctedOf", "(II)I"⟩, 21), (⟨"BaroRunsModel", "bySteps", "(I)I"⟩, 21), (⟨"BaroRunsModel", "faulty", "()I"⟩, 21), (⟨"BaroRunsModel", "entersOne", "()I"⟩, 21), (⟨"BaroRunsModel", "readsForm", "()Z"⟩, 21), (⟨"BaroRunsModel", "passes", "(C)Z"⟩, 21)]
theorem lw_r3 : ∀ q ∈ lw_privs_3, lw_okq q := List.forall_mem_cons.mpr ⟨lw_p32, List.forall_mem_cons.mpr ⟨lw_p33, List.forall_mem_cons.mpr ⟨lw_p34, List.forall_mem_cons.mpr ⟨lw_p35, List.forall_mem_cons.mpr ⟨lw_p36, List.forall_mem_cons.mpr ⟨lw_p37, List.forall_mem_cons.mpr ⟨lw_p38, List.forall_mem_cons.mpr ⟨lw_p39, List.forall_mem_cons.mpr ⟨lw_p40, List.forall_mem_cons.mpr ⟨lw_p41, List.forall_mem_cons.mpr ⟨lw_p42, List.forall_mem_cons.mpr ⟨lw_p43, List.forall_mem_cons.mpr ⟨lw_p44, List.forall_mem_cons.mpr ⟨lw_p45, List.forall_mem_cons.mpr ⟨lw_p46, List.forall_mem_cons.mpr ⟨lw_p47, fun _ h => absurd h List.not_mem_nil⟩⟩⟩⟩⟩⟩⟩⟩⟩⟩⟩⟩⟩⟩⟩⟩
theorem lw_p48 : lw_okq (⟨"BaroRunsModel", "number", "(I)I"⟩, 21) := ⟨⟨by decide +kernel, by decide +kernel⟩, List.mem_of_getElem? (i := 638) (by decide +kernel), List.mem_of_getElem? (i := 925) (by decide +kernel), List.mem_of_getElem? (i := 926) (by decide +kernel)⟩
def lw_privs_4 : List (MethodName × Nat) := [(⟨"BaroRunsModel", "number", "(I)I"⟩, 21)]
theorem lw_r4 : ∀ q ∈ lw_privs_4, lw_okq q := List.forall_mem_cons.mpr ⟨lw_p48, fun _ h => absurd h List.not_mem_nil⟩
def lw_privs : List (MethodName × Nat) := lw_privs_1 ++ (lw_privs_2 ++ (lw_privs_3 ++ (lw_privs_4)))
def lw_tbl : List Cond := k2_sels lw_privs ++ tables_1
theorem lw_privs_ok : ∀ q ∈ lw_privs, lw_okq q := by
  show ∀ q ∈ lw_privs_1 ++ (lw_privs_2 ++ (lw_privs_3 ++ (lw_privs_4))), lw_okq q
  exact List.forall_mem_append.mpr ⟨lw_r1, List.forall_mem_append.mpr ⟨lw_r2, List.forall_mem_append.mpr ⟨lw_r3, lw_r4⟩⟩⟩
-- ===== end of PART A; then your names; then what follows =====
/-! ===== BEGIN words of one list among another's, by their places ===== -/
theorem goodIn_r {big : List Cond} (ws : List Cond) (ps : List Nat) (hp : ws = ps.filterMap (fun i => big[i]?)) (h : ws.all goodWord = true) : GoodIn big ws := by
  intro w hw
  have h1 := List.all_eq_true.mp h w hw
  rw [hp] at hw
  obtain ⟨i, -, hi⟩ := List.mem_filterMap.mp hw
  have hm : w ∈ big := by first | exact List.mem_of_getElem? hi | exact List.getElem?_mem hi
  exact ⟨hm, good_of_word h1⟩
theorem goodIn_app {big a b : List Cond} (ha : GoodIn big a) (hb : GoodIn big b) : GoodIn big (a ++ b) := fun w h => (List.mem_append.mp h).elim (ha w) (hb w)
theorem goodIn_ca {big a b : List Cond} {c : Cond} (ha : GoodIn big (c :: a)) (hb : GoodIn big b) : GoodIn big (c :: (a ++ b)) := fun w h => (List.mem_cons.mp h).elim (fun e => ha w (List.mem_cons.mpr (Or.inl e))) (fun h => (List.mem_append.mp h).elim (fun h => ha w (List.mem_cons.mpr (Or.inr h))) (hb w))
theorem goodIn_sub {big ws : List Cond} (hm : ∀ w ∈ ws, w ∈ big) (h : ws.all goodWord = true) : GoodIn big ws := fun w hw => ⟨hm w hw, good_of_word (List.all_eq_true.mp h w hw)⟩
/-! ===== END ===== -/

/-! ===== BEGIN printed: names, fields, word lists, decode rows ===== -/
def RX0 : String := "BaroRuns$History"
def TX0 : u_T := fun k => match k with
  | 0 => ("BaroRuns$History", "places", "[LBaroRuns$State;", true)
  | 1 => ("BaroRuns$History", "oldest", "I", false)
  | _ => ("BaroRuns$History", "size", "I", false)
def tyX0 : Nat → FieldType := fun k => match k with
  | 0 => .array (.object "BaroRuns$State")
  | 1 => .int
  | _ => .int
abbrev wsX00 : List Cond := u_ws RX0 TX0 3
theorem nmX0 : ∀ a, a < 3 → ∀ b, b < 3 → a ≠ b → (TX0 a).2.1 ≠ (TX0 b).2.1 := by decide +kernel
theorem tyX0_ok : ∀ k, k < 3 → parseFieldDescriptor (TX0 k).2.2.1 = some (tyX0 k) := by decide +kernel
abbrev cX0_init : ByteArray := prog_2_method_1_code
def yX0_init : MethodName := ⟨RX0, "<init>", "()V"⟩
abbrev cX0_keep : ByteArray := prog_2_method_2_code
def yX0_keep : MethodName := ⟨RX0, "keep", "(LBaroRuns$State;)V"⟩
abbrev cX0_giveBack : ByteArray := prog_2_method_3_code
def yX0_giveBack : MethodName := ⟨RX0, "giveBack", "(LBaroRuns$State;)V"⟩
abbrev cX0_place : ByteArray := prog_2_method_4_code
def yX0_place : MethodName := ⟨RX0, "place", "(I)LBaroRuns$State;"⟩
def RX1 : String := "BaroRuns$PointSum"
def TX1 : u_T := fun k => match k with
  | 0 => ("BaroRuns$PointSum", "sum", "J", false)
  | 1 => ("BaroRuns$PointSum", "number", "I", false)
  | 2 => ("BaroRuns$PointSum", "least", "I", false)
  | _ => ("BaroRuns$PointSum", "greatest", "I", false)
def tyX1 : Nat → FieldType := fun k => match k with
  | 0 => .long
  | 1 => .int
  | 2 => .int
  | _ => .int
abbrev wsX10 : List Cond := u_ws RX1 TX1 4
theorem nmX1 : ∀ a, a < 4 → ∀ b, b < 4 → a ≠ b → (TX1 a).2.1 ≠ (TX1 b).2.1 := by decide +kernel
theorem tyX1_ok : ∀ k, k < 4 → parseFieldDescriptor (TX1 k).2.2.1 = some (tyX1 k) := by decide +kernel
abbrev cX1_init : ByteArray := prog_3_method_1_code
def yX1_init : MethodName := ⟨RX1, "<init>", "()V"⟩
abbrev cX1_clear : ByteArray := prog_3_method_2_code
def yX1_clear : MethodName := ⟨RX1, "clear", "()V"⟩
abbrev cX1_add : ByteArray := prog_3_method_3_code
def yX1_add : MethodName := ⟨RX1, "add", "(I)V"⟩
abbrev cX1_height : ByteArray := prog_3_method_4_code
def yX1_height : MethodName := ⟨RX1, "height", "()I"⟩
abbrev cX1_spread : ByteArray := prog_3_method_5_code
def yX1_spread : MethodName := ⟨RX1, "spread", "()I"⟩
def RX2 : String := "BaroRuns$State"
def TX2 : u_T := fun k => match k with
  | 0 => ("BaroRuns$State", "baseTrack", "LBaroRuns$Track;", true)
  | 1 => ("BaroRuns$State", "firstTrack", "LBaroRuns$Track;", true)
  | 2 => ("BaroRuns$State", "secondTrack", "LBaroRuns$Track;", true)
  | 3 => ("BaroRuns$State", "thirdTrack", "LBaroRuns$Track;", true)
  | 4 => ("BaroRuns$State", "baseHeight", "I", false)
  | 5 => ("BaroRuns$State", "gustLimit", "I", false)
  | _ => ("BaroRuns$State", "stepLimit", "I", false)
def tyX2 : Nat → FieldType := fun k => match k with
  | 0 => .object "BaroRuns$Track"
  | 1 => .object "BaroRuns$Track"
  | 2 => .object "BaroRuns$Track"
  | 3 => .object "BaroRuns$Track"
  | 4 => .int
  | 5 => .int
  | _ => .int
abbrev wsX20 : List Cond := u_ws RX2 TX2 7
theorem nmX2 : ∀ a, a < 7 → ∀ b, b < 7 → a ≠ b → (TX2 a).2.1 ≠ (TX2 b).2.1 := by decide +kernel
theorem tyX2_ok : ∀ k, k < 7 → parseFieldDescriptor (TX2 k).2.2.1 = some (tyX2 k) := by decide +kernel
abbrev cX2_init : ByteArray := prog_4_method_1_code
def yX2_init : MethodName := ⟨RX2, "<init>", "()V"⟩
abbrev cX2_track : ByteArray := prog_4_method_2_code
def yX2_track : MethodName := ⟨RX2, "track", "(I)LBaroRuns$Track;"⟩
abbrev cX2_setting : ByteArray := prog_4_method_3_code
def yX2_setting : MethodName := ⟨RX2, "setting", "(I)I"⟩
abbrev cX2_putSetting : ByteArray := prog_4_method_4_code
def yX2_putSetting : MethodName := ⟨RX2, "putSetting", "(II)V"⟩
abbrev cX2_copyFrom : ByteArray := prog_4_method_5_code
def yX2_copyFrom : MethodName := ⟨RX2, "copyFrom", "(LBaroRuns$State;)V"⟩
abbrev cX2_baseValue : ByteArray := prog_4_method_6_code
def yX2_baseValue : MethodName := ⟨RX2, "baseValue", "(II)I"⟩
abbrev cX2_heightAt : ByteArray := prog_4_method_7_code
def yX2_heightAt : MethodName := ⟨RX2, "heightAt", "(III)I"⟩
abbrev cX2_isStepEnd : ByteArray := prog_4_method_8_code
def yX2_isStepEnd : MethodName := ⟨RX2, "isStepEnd", "(I)Z"⟩
abbrev cX2_steps : ByteArray := prog_4_method_9_code
def yX2_steps : MethodName := ⟨RX2, "steps", "()I"⟩
abbrev cX2_stepEnd : ByteArray := prog_4_method_10_code
def yX2_stepEnd : MethodName := ⟨RX2, "stepEnd", "(I)I"⟩
def RX3 : String := "BaroRuns$Survey"
def TX3 : u_T := fun k => match k with
  | 0 => ("BaroRuns$Survey", "times", "[I", true)
  | 1 => ("BaroRuns$Survey", "points", "[I", true)
  | 2 => ("BaroRuns$Survey", "heights", "[I", true)
  | 3 => ("BaroRuns$Survey", "gusts", "[I", true)
  | 4 => ("BaroRuns$Survey", "openLoops", "[I", true)
  | 5 => ("BaroRuns$Survey", "correctedHeights", "[I", true)
  | 6 => ("BaroRuns$Survey", "begins", "[I", true)
  | 7 => ("BaroRuns$Survey", "ends", "[I", true)
  | 8 => ("BaroRuns$Survey", "size", "I", false)
  | 9 => ("BaroRuns$Survey", "gustCount", "I", false)
  | 10 => ("BaroRuns$Survey", "goodCount", "I", false)
  | _ => ("BaroRuns$Survey", "loopCount", "I", false)
def tyX3 : Nat → FieldType := fun k => match k with
  | 0 => .array .int
  | 1 => .array .int
  | 2 => .array .int
  | 3 => .array .int
  | 4 => .array .int
  | 5 => .array .int
  | 6 => .array .int
  | 7 => .array .int
  | 8 => .int
  | 9 => .int
  | 10 => .int
  | _ => .int
abbrev wsX30 : List Cond := u_ws RX3 TX3 12
theorem nmX3 : ∀ a, a < 12 → ∀ b, b < 12 → a ≠ b → (TX3 a).2.1 ≠ (TX3 b).2.1 := by decide +kernel
theorem tyX3_ok : ∀ k, k < 12 → parseFieldDescriptor (TX3 k).2.2.1 = some (tyX3 k) := by decide +kernel
abbrev cX3_init : ByteArray := prog_5_method_1_code
def yX3_init : MethodName := ⟨RX3, "<init>", "()V"⟩
abbrev cX3_workOut : ByteArray := prog_5_method_2_code
def yX3_workOut : MethodName := ⟨RX3, "workOut", "(LBaroRuns$State;I)V"⟩
abbrev cX3_isGust : ByteArray := prog_5_method_3_code
def yX3_isGust : MethodName := ⟨RX3, "isGust", "(I)Z"⟩
abbrev cX3_rawHeight : ByteArray := prog_5_method_4_code
def yX3_rawHeight : MethodName := ⟨RX3, "rawHeight", "(I)I"⟩
abbrev cX3_isGood : ByteArray := prog_5_method_5_code
def yX3_isGood : MethodName := ⟨RX3, "isGood", "(I)Z"⟩
abbrev cX3_openLoopOf : ByteArray := prog_5_method_6_code
def yX3_openLoopOf : MethodName := ⟨RX3, "openLoopOf", "(I)I"⟩
abbrev cX3_correctedHeight : ByteArray := prog_5_method_7_code
def yX3_correctedHeight : MethodName := ⟨RX3, "correctedHeight", "(I)I"⟩
abbrev cX3_begin : ByteArray := prog_5_method_8_code
def yX3_begin : MethodName := ⟨RX3, "begin", "(I)I"⟩
abbrev cX3_end : ByteArray := prog_5_method_9_code
def yX3_end : MethodName := ⟨RX3, "end", "(I)I"⟩
abbrev cX3_minutes : ByteArray := prog_5_method_10_code
def yX3_minutes : MethodName := ⟨RX3, "minutes", "(I)I"⟩
abbrev cX3_misclosure : ByteArray := prog_5_method_11_code
def yX3_misclosure : MethodName := ⟨RX3, "misclosure", "(I)I"⟩
abbrev cX3_misclosureBySteps : ByteArray := prog_5_method_12_code
def yX3_misclosureBySteps : MethodName := ⟨RX3, "misclosureBySteps", "(I)I"⟩
abbrev cX3_addTo : ByteArray := prog_5_method_13_code
def yX3_addTo : MethodName := ⟨RX3, "addTo", "(LBaroRuns$PointSum;I)V"⟩
abbrev cX3_endsOpenLoop : ByteArray := prog_5_method_14_code
def yX3_endsOpenLoop : MethodName := ⟨RX3, "endsOpenLoop", "(I)Z"⟩
abbrev cX3_countKinds : ByteArray := prog_5_method_15_code
def yX3_countKinds : MethodName := ⟨RX3, "countKinds", "()V"⟩
abbrev cX3_findLoops : ByteArray := prog_5_method_16_code
def yX3_findLoops : MethodName := ⟨RX3, "findLoops", "()V"⟩
abbrev cX3_lastVisit : ByteArray := prog_5_method_17_code
def yX3_lastVisit : MethodName := ⟨RX3, "lastVisit", "(I)I"⟩
abbrev cX3_shortestLoop : ByteArray := prog_5_method_18_code
def yX3_shortestLoop : MethodName := ⟨RX3, "shortestLoop", "(I)I"⟩
abbrev cX3_withoutDrift : ByteArray := prog_5_method_19_code
def yX3_withoutDrift : MethodName := ⟨RX3, "withoutDrift", "(I)I"⟩
def RX4 : String := "BaroRuns$Text"
def TX4 : u_T := fun k => match k with
  | 0 => ("BaroRuns$Text", "characters", "[I", true)
  | 1 => ("BaroRuns$Text", "length", "I", false)
  | 2 => ("BaroRuns$Text", "position", "I", false)
  | 3 => ("BaroRuns$Text", "cell", "I", false)
  | 4 => ("BaroRuns$Text", "point", "I", false)
  | 5 => ("BaroRuns$Text", "time", "I", false)
  | 6 => ("BaroRuns$Text", "pressure", "I", false)
  | 7 => ("BaroRuns$Text", "temperature", "I", false)
  | 8 => ("BaroRuns$Text", "taken", "I", false)
  | 9 => ("BaroRuns$Text", "faultPosition", "I", false)
  | _ => ("BaroRuns$Text", "faultReason", "I", false)
def tyX4 : Nat → FieldType := fun k => match k with
  | 0 => .array .int
  | 1 => .int
  | 2 => .int
  | 3 => .int
  | 4 => .int
  | 5 => .int
  | 6 => .int
  | 7 => .int
  | 8 => .int
  | 9 => .int
  | _ => .int
abbrev wsX40 : List Cond := u_ws RX4 TX4 11
theorem nmX4 : ∀ a, a < 11 → ∀ b, b < 11 → a ≠ b → (TX4 a).2.1 ≠ (TX4 b).2.1 := by decide +kernel
theorem tyX4_ok : ∀ k, k < 11 → parseFieldDescriptor (TX4 k).2.2.1 = some (tyX4 k) := by decide +kernel
abbrev cX4_init : ByteArray := prog_6_method_1_code
def yX4_init : MethodName := ⟨RX4, "<init>", "()V"⟩
abbrev cX4_append : ByteArray := prog_6_method_2_code
def yX4_append : MethodName := ⟨RX4, "append", "(I)V"⟩
abbrev cX4_readInto : ByteArray := prog_6_method_3_code
def yX4_readInto : MethodName := ⟨RX4, "readInto", "(LBaroRuns$State;)V"⟩
abbrev cX4_reasonAgainst : ByteArray := prog_6_method_4_code
def yX4_reasonAgainst : MethodName := ⟨RX4, "reasonAgainst", "(LBaroRuns$Track;)I"⟩
abbrev cX4_takeReading : ByteArray := prog_6_method_5_code
def yX4_takeReading : MethodName := ⟨RX4, "takeReading", "()Z"⟩
abbrev cX4_takePlace : ByteArray := prog_6_method_6_code
def yX4_takePlace : MethodName := ⟨RX4, "takePlace", "()Z"⟩
abbrev cX4_skip : ByteArray := prog_6_method_7_code
def yX4_skip : MethodName := ⟨RX4, "skip", "(C)Z"⟩
abbrev cX4_takeNumber : ByteArray := prog_6_method_8_code
def yX4_takeNumber : MethodName := ⟨RX4, "takeNumber", "(I)I"⟩
def RX5 : String := "BaroRuns$Track"
def TX5 : u_T := fun k => match k with
  | 0 => ("BaroRuns$Track", "values", "[I", true)
  | 1 => ("BaroRuns$Track", "room", "I", true)
  | _ => ("BaroRuns$Track", "size", "I", false)
def tyX5 : Nat → FieldType := fun k => match k with
  | 0 => .array .int
  | 1 => .int
  | _ => .int
abbrev wsX50 : List Cond := u_ws RX5 TX5 3
theorem nmX5 : ∀ a, a < 3 → ∀ b, b < 3 → a ≠ b → (TX5 a).2.1 ≠ (TX5 b).2.1 := by decide +kernel
theorem tyX5_ok : ∀ k, k < 3 → parseFieldDescriptor (TX5 k).2.2.1 = some (tyX5 k) := by decide +kernel
abbrev cX5_init : ByteArray := prog_7_method_1_code
def yX5_init : MethodName := ⟨RX5, "<init>", "(I)V"⟩
abbrev cX5_value : ByteArray := prog_7_method_2_code
def yX5_value : MethodName := ⟨RX5, "value", "(II)I"⟩
abbrev cX5_isFull : ByteArray := prog_7_method_3_code
def yX5_isFull : MethodName := ⟨RX5, "isFull", "()Z"⟩
abbrev cX5_hasTime : ByteArray := prog_7_method_4_code
def yX5_hasTime : MethodName := ⟨RX5, "hasTime", "(I)Z"⟩
abbrev cX5_standsOut : ByteArray := prog_7_method_5_code
def yX5_standsOut : MethodName := ⟨RX5, "standsOut", "(II)Z"⟩
abbrev cX5_insert : ByteArray := prog_7_method_6_code
def yX5_insert : MethodName := ⟨RX5, "insert", "(IIII)I"⟩
abbrev cX5_remove : ByteArray := prog_7_method_7_code
def yX5_remove : MethodName := ⟨RX5, "remove", "(I)V"⟩
abbrev cX5_copyFrom : ByteArray := prog_7_method_8_code
def yX5_copyFrom : MethodName := ⟨RX5, "copyFrom", "(LBaroRuns$Track;)V"⟩
abbrev cX5_move : ByteArray := prog_7_method_9_code
def yX5_move : MethodName := ⟨RX5, "move", "(II)V"⟩
def RX6 : String := "BaroRuns"
def TX6 : u_T := fun k => match k with
  | 0 => ("BaroRuns", "now", "LBaroRuns$State;", true)
  | 1 => ("BaroRuns", "trial", "LBaroRuns$State;", true)
  | 2 => ("BaroRuns", "history", "LBaroRuns$History;", true)
  | 3 => ("BaroRuns", "firstSurvey", "LBaroRuns$Survey;", true)
  | 4 => ("BaroRuns", "secondSurvey", "LBaroRuns$Survey;", true)
  | 5 => ("BaroRuns", "thirdSurvey", "LBaroRuns$Survey;", true)
  | 6 => ("BaroRuns", "pointSum", "LBaroRuns$PointSum;", true)
  | 7 => ("BaroRuns", "text", "LBaroRuns$Text;", true)
  | _ => ("BaroRuns", "stale", "Z", false)
def tyX6 : Nat → FieldType := fun k => match k with
  | 0 => .object "BaroRuns$State"
  | 1 => .object "BaroRuns$State"
  | 2 => .object "BaroRuns$History"
  | 3 => .object "BaroRuns$Survey"
  | 4 => .object "BaroRuns$Survey"
  | 5 => .object "BaroRuns$Survey"
  | 6 => .object "BaroRuns$PointSum"
  | 7 => .object "BaroRuns$Text"
  | _ => .boolean
abbrev wsX60 : List Cond := u_ws RX6 TX6 9
theorem nmX6 : ∀ a, a < 9 → ∀ b, b < 9 → a ≠ b → (TX6 a).2.1 ≠ (TX6 b).2.1 := by decide +kernel
theorem tyX6_ok : ∀ k, k < 9 → parseFieldDescriptor (TX6 k).2.2.1 = some (tyX6 k) := by decide +kernel
abbrev cX6_init : ByteArray := prog_1_method_1_code
def yX6_init : MethodName := ⟨RX6, "<init>", "()V"⟩
abbrev cX6_set : ByteArray := prog_1_method_2_code
def yX6_set : MethodName := ⟨RX6, "set", "(II)I"⟩
abbrev cX6_base : ByteArray := prog_1_method_3_code
def yX6_base : MethodName := ⟨RX6, "base", "(III)I"⟩
abbrev cX6_read : ByteArray := prog_1_method_4_code
def yX6_read : MethodName := ⟨RX6, "read", "(IIIII)I"⟩
abbrev cX6_drop : ByteArray := prog_1_method_5_code
def yX6_drop : MethodName := ⟨RX6, "drop", "(II)I"⟩
abbrev cX6_reading : ByteArray := prog_1_method_6_code
def yX6_reading : MethodName := ⟨RX6, "reading", "(III)I"⟩
abbrev cX6_count : ByteArray := prog_1_method_7_code
def yX6_count : MethodName := ⟨RX6, "count", "(I)I"⟩
abbrev cX6_undo : ByteArray := prog_1_method_8_code
def yX6_undo : MethodName := ⟨RX6, "undo", "()I"⟩
abbrev cX6_baseAt : ByteArray := prog_1_method_9_code
def yX6_baseAt : MethodName := ⟨RX6, "baseAt", "(II)I"⟩
abbrev cX6_step : ByteArray := prog_1_method_10_code
def yX6_step : MethodName := ⟨RX6, "step", "(I)I"⟩
abbrev cX6_raw : ByteArray := prog_1_method_11_code
def yX6_raw : MethodName := ⟨RX6, "raw", "(II)I"⟩
abbrev cX6_would : ByteArray := prog_1_method_12_code
def yX6_would : MethodName := ⟨RX6, "would", "(III)I"⟩
abbrev cX6_pressureFor : ByteArray := prog_1_method_13_code
def yX6_pressureFor : MethodName := ⟨RX6, "pressureFor", "(III)I"⟩
abbrev cX6_loops : ByteArray := prog_1_method_14_code
def yX6_loops : MethodName := ⟨RX6, "loops", "(I)I"⟩
abbrev cX6_loop : ByteArray := prog_1_method_15_code
def yX6_loop : MethodName := ⟨RX6, "loop", "(III)I"⟩
abbrev cX6_openLoop : ByteArray := prog_1_method_16_code
def yX6_openLoop : MethodName := ⟨RX6, "openLoop", "(II)I"⟩
abbrev cX6_corrected : ByteArray := prog_1_method_17_code
def yX6_corrected : MethodName := ⟨RX6, "corrected", "(II)I"⟩
abbrev cX6_point : ByteArray := prog_1_method_18_code
def yX6_point : MethodName := ⟨RX6, "point", "(II)I"⟩
abbrev cX6_worst : ByteArray := prog_1_method_19_code
def yX6_worst : MethodName := ⟨RX6, "worst", "(I)I"⟩
abbrev cX6_type : ByteArray := prog_1_method_20_code
def yX6_type : MethodName := ⟨RX6, "type", "(I)I"⟩
abbrev cX6_clearText : ByteArray := prog_1_method_21_code
def yX6_clearText : MethodName := ⟨RX6, "clearText", "()I"⟩
abbrev cX6_fault : ByteArray := prog_1_method_22_code
def yX6_fault : MethodName := ⟨RX6, "fault", "(I)I"⟩
abbrev cX6_enter : ByteArray := prog_1_method_23_code
def yX6_enter : MethodName := ⟨RX6, "enter", "()I"⟩
abbrev cX6_within : ByteArray := prog_1_method_24_code
def yX6_within : MethodName := ⟨RX6, "within", "(III)Z"⟩
abbrev cX6_isSetting : ByteArray := prog_1_method_25_code
def yX6_isSetting : MethodName := ⟨RX6, "isSetting", "(II)Z"⟩
abbrev cX6_isCell : ByteArray := prog_1_method_26_code
def yX6_isCell : MethodName := ⟨RX6, "isCell", "(I)Z"⟩
abbrev cX6_isPoint : ByteArray := prog_1_method_27_code
def yX6_isPoint : MethodName := ⟨RX6, "isPoint", "(I)Z"⟩
abbrev cX6_isTime : ByteArray := prog_1_method_28_code
def yX6_isTime : MethodName := ⟨RX6, "isTime", "(I)Z"⟩
abbrev cX6_isTemperature : ByteArray := prog_1_method_29_code
def yX6_isTemperature : MethodName := ⟨RX6, "isTemperature", "(I)Z"⟩
abbrev cX6_isReading : ByteArray := prog_1_method_30_code
def yX6_isReading : MethodName := ⟨RX6, "isReading", "(III)Z"⟩
abbrev cX6_isReadingOf : ByteArray := prog_1_method_31_code
def yX6_isReadingOf : MethodName := ⟨RX6, "isReadingOf", "(II)Z"⟩
abbrev cX6_at : ByteArray := prog_1_method_32_code
def yX6_at : MethodName := ⟨RX6, "at", "([II)I"⟩
abbrev cX6_put : ByteArray := prog_1_method_33_code
def yX6_put : MethodName := ⟨RX6, "put", "([III)V"⟩
abbrev cX6_divideDown : ByteArray := prog_1_method_34_code
def yX6_divideDown : MethodName := ⟨RX6, "divideDown", "(JJ)J"⟩
abbrev cX6_record : ByteArray := prog_1_method_35_code
def yX6_record : MethodName := ⟨RX6, "record", "()V"⟩
abbrev cX6_take : ByteArray := prog_1_method_36_code
def yX6_take : MethodName := ⟨RX6, "take", "(IIIII)I"⟩
abbrev cX6_tryText : ByteArray := prog_1_method_37_code
def yX6_tryText : MethodName := ⟨RX6, "tryText", "()V"⟩
abbrev cX6_refresh : ByteArray := prog_1_method_38_code
def yX6_refresh : MethodName := ⟨RX6, "refresh", "()V"⟩
abbrev cX6_surveyOf : ByteArray := prog_1_method_39_code
def yX6_surveyOf : MethodName := ⟨RX6, "surveyOf", "(I)LBaroRuns$Survey;"⟩
abbrev cX6_pointsWithHeight : ByteArray := prog_1_method_40_code
def yX6_pointsWithHeight : MethodName := ⟨RX6, "pointsWithHeight", "()I"⟩
abbrev cX6_gather : ByteArray := prog_1_method_41_code
def yX6_gather : MethodName := ⟨RX6, "gather", "(I)V"⟩
abbrev cX6_greatestPressure : ByteArray := prog_1_method_42_code
def yX6_greatestPressure : MethodName := ⟨RX6, "greatestPressure", "(III)I"⟩
def RX7 : String := "BaroRunsModel"
def TX7 : u_T := fun k => match k with
  | 0 => ("BaroRunsModel", "d", "[I", true)
  | 1 => ("BaroRunsModel", "was", "[I", true)
  | 2 => ("BaroRunsModel", "states", "I", false)
  | 3 => ("BaroRunsModel", "aside", "[I", true)
  | 4 => ("BaroRunsModel", "text", "[C", true)
  | 5 => ("BaroRunsModel", "typed", "I", false)
  | 6 => ("BaroRunsModel", "at", "I", false)
  | 7 => ("BaroRunsModel", "reason", "I", false)
  | 8 => ("BaroRunsModel", "whose", "I", false)
  | 9 => ("BaroRunsModel", "got", "[I", true)
  | 10 => ("BaroRunsModel", "raws", "[I", true)
  | 11 => ("BaroRunsModel", "isGood", "[Z", true)
  | 12 => ("BaroRunsModel", "begin", "[I", true)
  | 13 => ("BaroRunsModel", "end", "[I", true)
  | 14 => ("BaroRunsModel", "loops", "I", false)
  | 15 => ("BaroRunsModel", "basePressure", "I", false)
  | 16 => ("BaroRunsModel", "baseWarm", "I", false)
  | 17 => ("BaroRunsModel", "sum", "J", false)
  | 18 => ("BaroRunsModel", "many", "I", false)
  | 19 => ("BaroRunsModel", "least", "I", false)
  | _ => ("BaroRunsModel", "most", "I", false)
def tyX7 : Nat → FieldType := fun k => match k with
  | 0 => .array .int
  | 1 => .array .int
  | 2 => .int
  | 3 => .array .int
  | 4 => .array .char
  | 5 => .int
  | 6 => .int
  | 7 => .int
  | 8 => .int
  | 9 => .array .int
  | 10 => .array .int
  | 11 => .array .boolean
  | 12 => .array .int
  | 13 => .array .int
  | 14 => .int
  | 15 => .int
  | 16 => .int
  | 17 => .long
  | 18 => .int
  | 19 => .int
  | _ => .int
abbrev wsX70 : List Cond := u_ws RX7 TX7 21
theorem nmX7 : ∀ a, a < 21 → ∀ b, b < 21 → a ≠ b → (TX7 a).2.1 ≠ (TX7 b).2.1 := by decide +kernel
theorem tyX7_ok : ∀ k, k < 21 → parseFieldDescriptor (TX7 k).2.2.1 = some (tyX7 k) := by decide +kernel
abbrev cX7_init : ByteArray := prog_9_method_1_code
def yX7_init : MethodName := ⟨RX7, "<init>", "()V"⟩
abbrev cX7_in : ByteArray := prog_9_method_2_code
def yX7_in : MethodName := ⟨RX7, "in", "(III)Z"⟩
abbrev cX7_isCell : ByteArray := prog_9_method_3_code
def yX7_isCell : MethodName := ⟨RX7, "isCell", "(I)Z"⟩
abbrev cX7_isReading : ByteArray := prog_9_method_4_code
def yX7_isReading : MethodName := ⟨RX7, "isReading", "(II)Z"⟩
abbrev cX7_areValues : ByteArray := prog_9_method_5_code
def yX7_areValues : MethodName := ⟨RX7, "areValues", "(III)Z"⟩
abbrev cX7_of : ByteArray := prog_9_method_6_code
def yX7_of : MethodName := ⟨RX7, "of", "(III)I"⟩
abbrev cX7_down : ByteArray := prog_9_method_7_code
def yX7_down : MethodName := ⟨RX7, "down", "(JJ)J"⟩
abbrev cX7_records : ByteArray := prog_9_method_8_code
def yX7_records : MethodName := ⟨RX7, "records", "()V"⟩
abbrev cX7_isSetting : ByteArray := prog_9_method_9_code
def yX7_isSetting : MethodName := ⟨RX7, "isSetting", "(II)Z"⟩
abbrev cX7_set : ByteArray := prog_9_method_10_code
def yX7_set : MethodName := ⟨RX7, "set", "(II)I"⟩
abbrev cX7_isTaken : ByteArray := prog_9_method_11_code
def yX7_isTaken : MethodName := ⟨RX7, "isTaken", "(II)Z"⟩
abbrev cX7_isFull : ByteArray := prog_9_method_12_code
def yX7_isFull : MethodName := ⟨RX7, "isFull", "(I)Z"⟩
abbrev cX7_moves : ByteArray := prog_9_method_13_code
def yX7_moves : MethodName := ⟨RX7, "moves", "(III)V"⟩
abbrev cX7_puts : ByteArray := prog_9_method_14_code
def yX7_puts : MethodName := ⟨RX7, "puts", "(IIIII)I"⟩
abbrev cX7_adds : ByteArray := prog_9_method_15_code
def yX7_adds : MethodName := ⟨RX7, "adds", "(IIIII)I"⟩
abbrev cX7_base : ByteArray := prog_9_method_16_code
def yX7_base : MethodName := ⟨RX7, "base", "(III)I"⟩
abbrev cX7_read : ByteArray := prog_9_method_17_code
def yX7_read : MethodName := ⟨RX7, "read", "(IIIII)I"⟩
abbrev cX7_drop : ByteArray := prog_9_method_18_code
def yX7_drop : MethodName := ⟨RX7, "drop", "(II)I"⟩
abbrev cX7_isGust : ByteArray := prog_9_method_19_code
def yX7_isGust : MethodName := ⟨RX7, "isGust", "(II)Z"⟩
abbrev cX7_reading : ByteArray := prog_9_method_20_code
def yX7_reading : MethodName := ⟨RX7, "reading", "(III)I"⟩
abbrev cX7_stepsTo : ByteArray := prog_9_method_21_code
def yX7_stepsTo : MethodName := ⟨RX7, "stepsTo", "(I)I"⟩
abbrev cX7_steps : ByteArray := prog_9_method_22_code
def yX7_steps : MethodName := ⟨RX7, "steps", "()I"⟩
abbrev cX7_inAll : ByteArray := prog_9_method_23_code
def yX7_inAll : MethodName := ⟨RX7, "inAll", "(I)I"⟩
abbrev cX7_heights : ByteArray := prog_9_method_24_code
def yX7_heights : MethodName := ⟨RX7, "heights", "()I"⟩
abbrev cX7_count : ByteArray := prog_9_method_25_code
def yX7_count : MethodName := ⟨RX7, "count", "(I)I"⟩
abbrev cX7_undo : ByteArray := prog_9_method_26_code
def yX7_undo : MethodName := ⟨RX7, "undo", "()I"⟩
abbrev cX7_between : ByteArray := prog_9_method_27_code
def yX7_between : MethodName := ⟨RX7, "between", "(IIIII)I"⟩
abbrev cX7_hasBase : ByteArray := prog_9_method_28_code
def yX7_hasBase : MethodName := ⟨RX7, "hasBase", "(I)Z"⟩
abbrev cX7_baseAt : ByteArray := prog_9_method_29_code
def yX7_baseAt : MethodName := ⟨RX7, "baseAt", "(II)I"⟩
abbrev cX7_step : ByteArray := prog_9_method_30_code
def yX7_step : MethodName := ⟨RX7, "step", "(I)I"⟩
abbrev cX7_rawOf : ByteArray := prog_9_method_31_code
def yX7_rawOf : MethodName := ⟨RX7, "rawOf", "(II)I"⟩
abbrev cX7_raw : ByteArray := prog_9_method_32_code
def yX7_raw : MethodName := ⟨RX7, "raw", "(II)I"⟩
abbrev cX7_would : ByteArray := prog_9_method_33_code
def yX7_would : MethodName := ⟨RX7, "would", "(III)I"⟩
abbrev cX7_pressureFor : ByteArray := prog_9_method_34_code
def yX7_pressureFor : MethodName := ⟨RX7, "pressureFor", "(III)I"⟩
abbrev cX7_looks : ByteArray := prog_9_method_35_code
def yX7_looks : MethodName := ⟨RX7, "looks", "(I)V"⟩
abbrev cX7_timeOf : ByteArray := prog_9_method_36_code
def yX7_timeOf : MethodName := ⟨RX7, "timeOf", "(II)I"⟩
abbrev cX7_open : ByteArray := prog_9_method_37_code
def yX7_open : MethodName := ⟨RX7, "open", "(II)I"⟩
abbrev cX7_correctedOf : ByteArray := prog_9_method_38_code
def yX7_correctedOf : MethodName := ⟨RX7, "correctedOf", "(II)I"⟩
abbrev cX7_loops : ByteArray := prog_9_method_39_code
def yX7_loops : MethodName := ⟨RX7, "loops", "(I)I"⟩
abbrev cX7_bySteps : ByteArray := prog_9_method_40_code
def yX7_bySteps : MethodName := ⟨RX7, "bySteps", "(I)I"⟩
abbrev cX7_loop : ByteArray := prog_9_method_41_code
def yX7_loop : MethodName := ⟨RX7, "loop", "(III)I"⟩
abbrev cX7_openLoop : ByteArray := prog_9_method_42_code
def yX7_openLoop : MethodName := ⟨RX7, "openLoop", "(II)I"⟩
abbrev cX7_corrected : ByteArray := prog_9_method_43_code
def yX7_corrected : MethodName := ⟨RX7, "corrected", "(II)I"⟩
abbrev cX7_gives : ByteArray := prog_9_method_44_code
def yX7_gives : MethodName := ⟨RX7, "gives", "(I)V"⟩
abbrev cX7_point : ByteArray := prog_9_method_45_code
def yX7_point : MethodName := ⟨RX7, "point", "(II)I"⟩
abbrev cX7_worst : ByteArray := prog_9_method_46_code
def yX7_worst : MethodName := ⟨RX7, "worst", "(I)I"⟩
abbrev cX7_type : ByteArray := prog_9_method_47_code
def yX7_type : MethodName := ⟨RX7, "type", "(I)I"⟩
abbrev cX7_clearText : ByteArray := prog_9_method_48_code
def yX7_clearText : MethodName := ⟨RX7, "clearText", "()I"⟩
abbrev cX7_passes : ByteArray := prog_9_method_49_code
def yX7_passes : MethodName := ⟨RX7, "passes", "(C)Z"⟩
abbrev cX7_number : ByteArray := prog_9_method_50_code
def yX7_number : MethodName := ⟨RX7, "number", "(I)I"⟩
abbrev cX7_readsForm : ByteArray := prog_9_method_51_code
def yX7_readsForm : MethodName := ⟨RX7, "readsForm", "()Z"⟩
abbrev cX7_entersOne : ByteArray := prog_9_method_52_code
def yX7_entersOne : MethodName := ⟨RX7, "entersOne", "()I"⟩
abbrev cX7_faulty : ByteArray := prog_9_method_53_code
def yX7_faulty : MethodName := ⟨RX7, "faulty", "()I"⟩
abbrev cX7_fault : ByteArray := prog_9_method_54_code
def yX7_fault : MethodName := ⟨RX7, "fault", "(I)I"⟩
abbrev cX7_enter : ByteArray := prog_9_method_55_code
def yX7_enter : MethodName := ⟨RX7, "enter", "()I"⟩
def RJ9 : String := "java/lang/Math"
def TJ9 : u_T := fun k => match k with
  | _ => ("", "", "", false)
def tyJ9 : Nat → FieldType := fun k => match k with
  | _ => .int
abbrev wsJ90 : List Cond := u_ws RJ9 TJ9 0
theorem nmJ9 : ∀ a, a < 0 → ∀ b, b < 0 → a ≠ b → (TJ9 a).2.1 ≠ (TJ9 b).2.1 := by decide +kernel
theorem tyJ9_ok : ∀ k, k < 0 → parseFieldDescriptor (TJ9 k).2.2.1 = some (tyJ9 k) := by decide +kernel
abbrev cJ9_floorDiv_7cf53 : ByteArray := prog_10_method_47_code
def yJ9_floorDiv_7cf53 : MethodName := ⟨RJ9, "floorDiv", "(II)I"⟩
abbrev cJ9_floorDiv_f86c9 : ByteArray := prog_10_method_49_code
def yJ9_floorDiv_f86c9 : MethodName := ⟨RJ9, "floorDiv", "(JJ)J"⟩
abbrev cJ9_abs_0f7a4 : ByteArray := prog_10_method_59_code
def yJ9_abs_0f7a4 : MethodName := ⟨RJ9, "abs", "(I)I"⟩
abbrev cJ9_max_7cf53 : ByteArray := prog_10_method_65_code
def yJ9_max_7cf53 : MethodName := ⟨RJ9, "max", "(II)I"⟩
abbrev cJ9_min_7cf53 : ByteArray := prog_10_method_69_code
def yJ9_min_7cf53 : MethodName := ⟨RJ9, "min", "(II)I"⟩
def RJ10 : String := "java/lang/System"
def TJ10 : u_T := fun k => match k with
  | _ => ("", "", "", false)
def tyJ10 : Nat → FieldType := fun k => match k with
  | _ => .int
abbrev wsJ100 : List Cond := u_ws RJ10 TJ10 0
theorem nmJ10 : ∀ a, a < 0 → ∀ b, b < 0 → a ≠ b → (TJ10 a).2.1 ≠ (TJ10 b).2.1 := by decide +kernel
theorem tyJ10_ok : ∀ k, k < 0 → parseFieldDescriptor (TJ10 k).2.2.1 = some (tyJ10 k) := by decide +kernel
def RL : String := "BaroRunsLaw"
abbrev cL_law : ByteArray := code
def yL_law : MethodName := ⟨RL, "law", "([I)Z"⟩
def wsX5_init : List Cond := .code yX5_init cX5_init 2 none :: ([.methodLink RX5 3 objectInit, .instanceMethod objectInit, .code objectInit ⟨#[0xb1]⟩ 1 none, .arrayClass .int, .fieldLink RX5 9 "BaroRuns$Track" "values" "[I", .methodLink RX5 15 Lib.Math.min.name, .static Lib.Math.min.name, .initialized "java/lang/Math", .code Lib.Math.min.name Lib.Math.min.code 2 (some .int), .fieldLink RX5 21 "BaroRuns$Track" "room" "I"] ++ wsX50)
def wsX2_init : List Cond := .code yX2_init cX2_init 1 none :: ([.methodLink RX2 3 objectInit, .instanceMethod objectInit, .code objectInit ⟨#[0xb1]⟩ 1 none, .classLink RX2 9 RX5, .instantiable RX5 3, .initialized RX5, .fieldLink RX2 14 "BaroRuns$State" "baseTrack" "LBaroRuns$Track;", .fieldLink RX2 20 "BaroRuns$State" "firstTrack" "LBaroRuns$Track;", .fieldLink RX2 23 "BaroRuns$State" "secondTrack" "LBaroRuns$Track;", .fieldLink RX2 26 "BaroRuns$State" "thirdTrack" "LBaroRuns$Track;", .fieldLink RX2 29 "BaroRuns$State" "baseHeight" "I", .fieldLink RX2 33 "BaroRuns$State" "gustLimit" "I", .fieldLink RX2 36 "BaroRuns$State" "stepLimit" "I", .methodLink RX2 11 yX5_init, .instanceMethod yX5_init, .code yX5_init cX5_init 2 none, .methodLink RX5 3 objectInit, .arrayClass .int, .fieldLink RX5 9 "BaroRuns$Track" "values" "[I", .methodLink RX5 15 Lib.Math.min.name, .static Lib.Math.min.name, .initialized "java/lang/Math", .code Lib.Math.min.name Lib.Math.min.code 2 (some .int), .fieldLink RX5 21 "BaroRuns$Track" "room" "I"] ++ wsX50 ++ wsX20)
def wsX0_init_r1 : List Cond := [Cond.methodLink RX0 3 objectInit, Cond.instanceMethod objectInit, Cond.code objectInit ⟨#[0xb1]⟩ 1 none, Cond.classLink RX0 9 RX2, Cond.fieldLink RX0 11 "BaroRuns$History" "places" "[LBaroRuns$State;", Cond.instantiable RX2 7, Cond.initialized RX2, Cond.methodLink RX0 17 yX2_init, Cond.instanceMethod yX2_init, Cond.code yX2_init cX2_init 1 none, Cond.methodLink RX2 3 objectInit, Cond.classLink RX2 9 RX5, Cond.instantiable RX5 3, Cond.initialized RX5, Cond.fieldLink RX2 14 "BaroRuns$State" "baseTrack" "LBaroRuns$Track;", Cond.fieldLink RX2 20 "BaroRuns$State" "firstTrack" "LBaroRuns$Track;", Cond.fieldLink RX2 23 "BaroRuns$State" "secondTrack" "LBaroRuns$Track;", Cond.fieldLink RX2 26 "BaroRuns$State" "thirdTrack" "LBaroRuns$Track;", Cond.fieldLink RX2 29 "BaroRuns$State" "baseHeight" "I", Cond.fieldLink RX2 33 "BaroRuns$State" "gustLimit" "I", Cond.fieldLink RX2 36 "BaroRuns$State" "stepLimit" "I", Cond.methodLink RX2 11 yX5_init, Cond.instanceMethod yX5_init, Cond.code yX5_init cX5_init 2 none]
def wsX0_init_r2 : List Cond := [Cond.methodLink RX5 3 objectInit, Cond.arrayClass .int, Cond.fieldLink RX5 9 "BaroRuns$Track" "values" "[I", Cond.methodLink RX5 15 Lib.Math.min.name, Cond.static Lib.Math.min.name, Cond.initialized "java/lang/Math", Cond.code Lib.Math.min.name Lib.Math.min.code 2 (some .int), Cond.fieldLink RX5 21 "BaroRuns$Track" "room" "I"]
def wsX0_init : List Cond := .code yX0_init cX0_init 2 none :: ((wsX0_init_r1 ++ wsX0_init_r2) ++ wsX00 ++ wsX20 ++ wsX50)
def wsX0_place : List Cond := .code yX0_place cX0_place 3 (some (.object "BaroRuns$State")) :: ([.fieldLink RX0 22 "BaroRuns$History" "oldest" "I", .fieldLink RX0 11 "BaroRuns$History" "places" "[LBaroRuns$State;"] ++ wsX00)
def wsX5_copyFrom : List Cond := .code yX5_copyFrom cX5_copyFrom 2 none :: ([.fieldLink RX5 9 "BaroRuns$Track" "values" "[I", .methodLink RX5 15 Lib.Math.min.name, .static Lib.Math.min.name, .initialized "java/lang/Math", .code Lib.Math.min.name Lib.Math.min.code 2 (some .int), .methodLink RX5 43 arraycopyName, .native arraycopyName, .static arraycopyName, .initialized "java/lang/System", .fieldLink RX5 29 "BaroRuns$Track" "size" "I"] ++ wsX50)
def wsX2_copyFrom : List Cond := .code yX2_copyFrom cX2_copyFrom 2 none :: ([.fieldLink RX2 14 "BaroRuns$State" "baseTrack" "LBaroRuns$Track;", .fieldLink RX2 20 "BaroRuns$State" "firstTrack" "LBaroRuns$Track;", .fieldLink RX2 23 "BaroRuns$State" "secondTrack" "LBaroRuns$Track;", .fieldLink RX2 26 "BaroRuns$State" "thirdTrack" "LBaroRuns$Track;", .fieldLink RX2 29 "BaroRuns$State" "baseHeight" "I", .fieldLink RX2 33 "BaroRuns$State" "gustLimit" "I", .fieldLink RX2 36 "BaroRuns$State" "stepLimit" "I", .methodLink RX2 39 yX5_copyFrom, .instanceMethod yX5_copyFrom, .selects RX5 yX5_copyFrom yX5_copyFrom, .initialized RX5, .code yX5_copyFrom cX5_copyFrom 2 none, .fieldLink RX5 9 "BaroRuns$Track" "values" "[I", .methodLink RX5 15 Lib.Math.min.name, .static Lib.Math.min.name, .initialized "java/lang/Math", .code Lib.Math.min.name Lib.Math.min.code 2 (some .int), .methodLink RX5 43 arraycopyName, .native arraycopyName, .static arraycopyName, .initialized "java/lang/System", .fieldLink RX5 29 "BaroRuns$Track" "size" "I"] ++ wsX20 ++ wsX50)
def wsX0_keep_r1 : List Cond := [Cond.fieldLink RX0 18 "BaroRuns$History" "size" "I", Cond.fieldLink RX0 22 "BaroRuns$History" "oldest" "I", Cond.methodLink RX0 25 yX0_place, Cond.instanceMethod yX0_place, Cond.selects RX0 yX0_place yX0_place, Cond.initialized RX0, Cond.code yX0_place cX0_place 3 (some (.object "BaroRuns$State")), Cond.fieldLink RX0 11 "BaroRuns$History" "places" "[LBaroRuns$State;", Cond.methodLink RX0 29 yX2_copyFrom, Cond.instanceMethod yX2_copyFrom, Cond.selects RX2 yX2_copyFrom yX2_copyFrom, Cond.initialized RX2, Cond.code yX2_copyFrom cX2_copyFrom 2 none, Cond.fieldLink RX2 14 "BaroRuns$State" "baseTrack" "LBaroRuns$Track;", Cond.fieldLink RX2 20 "BaroRuns$State" "firstTrack" "LBaroRuns$Track;", Cond.fieldLink RX2 23 "BaroRuns$State" "secondTrack" "LBaroRuns$Track;", Cond.fieldLink RX2 26 "BaroRuns$State" "thirdTrack" "LBaroRuns$Track;", Cond.fieldLink RX2 29 "BaroRuns$State" "baseHeight" "I", Cond.fieldLink RX2 33 "BaroRuns$State" "gustLimit" "I", Cond.fieldLink RX2 36 "BaroRuns$State" "stepLimit" "I", Cond.methodLink RX2 39 yX5_copyFrom, Cond.instanceMethod yX5_copyFrom, Cond.selects RX5 yX5_copyFrom yX5_copyFrom, Cond.initialized RX5]
def wsX0_keep_r2 : List Cond := [Cond.code yX5_copyFrom cX5_copyFrom 2 none, Cond.fieldLink RX5 9 "BaroRuns$Track" "values" "[I", Cond.methodLink RX5 15 Lib.Math.min.name, Cond.static Lib.Math.min.name, Cond.initialized "java/lang/Math", Cond.code Lib.Math.min.name Lib.Math.min.code 2 (some .int), Cond.methodLink RX5 43 arraycopyName, Cond.native arraycopyName, Cond.static arraycopyName, Cond.initialized "java/lang/System", Cond.fieldLink RX5 29 "BaroRuns$Track" "size" "I"]
def wsX0_keep : List Cond := .code yX0_keep cX0_keep 3 none :: ((wsX0_keep_r1 ++ wsX0_keep_r2) ++ wsX00 ++ wsX20 ++ wsX50)
def wsX0_giveBack_r1 : List Cond := [Cond.fieldLink RX0 18 "BaroRuns$History" "size" "I", Cond.methodLink RX0 25 yX0_place, Cond.instanceMethod yX0_place, Cond.selects RX0 yX0_place yX0_place, Cond.initialized RX0, Cond.code yX0_place cX0_place 3 (some (.object "BaroRuns$State")), Cond.fieldLink RX0 22 "BaroRuns$History" "oldest" "I", Cond.fieldLink RX0 11 "BaroRuns$History" "places" "[LBaroRuns$State;", Cond.methodLink RX0 29 yX2_copyFrom, Cond.instanceMethod yX2_copyFrom, Cond.selects RX2 yX2_copyFrom yX2_copyFrom, Cond.initialized RX2, Cond.code yX2_copyFrom cX2_copyFrom 2 none, Cond.fieldLink RX2 14 "BaroRuns$State" "baseTrack" "LBaroRuns$Track;", Cond.fieldLink RX2 20 "BaroRuns$State" "firstTrack" "LBaroRuns$Track;", Cond.fieldLink RX2 23 "BaroRuns$State" "secondTrack" "LBaroRuns$Track;", Cond.fieldLink RX2 26 "BaroRuns$State" "thirdTrack" "LBaroRuns$Track;", Cond.fieldLink RX2 29 "BaroRuns$State" "baseHeight" "I", Cond.fieldLink RX2 33 "BaroRuns$State" "gustLimit" "I", Cond.fieldLink RX2 36 "BaroRuns$State" "stepLimit" "I", Cond.methodLink RX2 39 yX5_copyFrom, Cond.instanceMethod yX5_copyFrom, Cond.selects RX5 yX5_copyFrom yX5_copyFrom, Cond.initialized RX5]
def wsX0_giveBack_r2 : List Cond := [Cond.code yX5_copyFrom cX5_copyFrom 2 none, Cond.fieldLink RX5 9 "BaroRuns$Track" "values" "[I", Cond.methodLink RX5 15 Lib.Math.min.name, Cond.static Lib.Math.min.name, Cond.initialized "java/lang/Math", Cond.code Lib.Math.min.name Lib.Math.min.code 2 (some .int), Cond.methodLink RX5 43 arraycopyName, Cond.native arraycopyName, Cond.static arraycopyName, Cond.initialized "java/lang/System", Cond.fieldLink RX5 29 "BaroRuns$Track" "size" "I"]
def wsX0_giveBack : List Cond := .code yX0_giveBack cX0_giveBack 3 none :: ((wsX0_giveBack_r1 ++ wsX0_giveBack_r2) ++ wsX00 ++ wsX20 ++ wsX50)
def wsX1_init : List Cond := .code yX1_init cX1_init 1 none :: ([.methodLink RX1 1 objectInit, .instanceMethod objectInit, .code objectInit ⟨#[0xb1]⟩ 1 none])
def wsX1_clear : List Cond := .code yX1_clear cX1_clear 1 none :: ([.fieldLink RX1 7 "BaroRuns$PointSum" "sum" "J", .fieldLink RX1 13 "BaroRuns$PointSum" "number" "I"] ++ wsX10)
def wsX1_add : List Cond := .code yX1_add cX1_add 2 none :: ([.fieldLink RX1 13 "BaroRuns$PointSum" "number" "I", .fieldLink RX1 17 "BaroRuns$PointSum" "least" "I", .methodLink RX1 20 Lib.Math.min.name, .static Lib.Math.min.name, .initialized "java/lang/Math", .code Lib.Math.min.name Lib.Math.min.code 2 (some .int), .fieldLink RX1 26 "BaroRuns$PointSum" "greatest" "I", .methodLink RX1 29 Lib.Math.max.name, .static Lib.Math.max.name, .code Lib.Math.max.name Lib.Math.max.code 2 (some .int), .fieldLink RX1 7 "BaroRuns$PointSum" "sum" "J"] ++ wsX10)
def wsJ9_floorDiv_f86c9 : List Cond := .code yJ9_floorDiv_f86c9 cJ9_floorDiv_f86c9 6 (some .long) :: ([])
def wsX6_divideDown : List Cond := .code yX6_divideDown cX6_divideDown 4 (some .long) :: ([.methodLink RX6 236 yJ9_floorDiv_f86c9, .static yJ9_floorDiv_f86c9, .initialized RJ9, .code yJ9_floorDiv_f86c9 cJ9_floorDiv_f86c9 6 (some .long)])
def wsX1_height : List Cond := .code yX1_height cX1_height 1 (some .int) :: ([.fieldLink RX1 7 "BaroRuns$PointSum" "sum" "J", .fieldLink RX1 13 "BaroRuns$PointSum" "number" "I", .static yX6_divideDown, .initialized RX6, .code yX6_divideDown cX6_divideDown 4 (some .long), .methodLink RX6 236 yJ9_floorDiv_f86c9, .static yJ9_floorDiv_f86c9, .initialized RJ9, .code yJ9_floorDiv_f86c9 cJ9_floorDiv_f86c9 6 (some .long)] ++ wsX10)
def wsX1_spread : List Cond := .code yX1_spread cX1_spread 1 (some .int) :: ([.fieldLink RX1 26 "BaroRuns$PointSum" "greatest" "I", .fieldLink RX1 17 "BaroRuns$PointSum" "least" "I"] ++ wsX10)
def wsX2_track : List Cond := .code yX2_track cX2_track 2 (some (.object "BaroRuns$Track")) :: ([.fieldLink RX2 20 "BaroRuns$State" "firstTrack" "LBaroRuns$Track;", .fieldLink RX2 23 "BaroRuns$State" "secondTrack" "LBaroRuns$Track;", .fieldLink RX2 26 "BaroRuns$State" "thirdTrack" "LBaroRuns$Track;", .fieldLink RX2 14 "BaroRuns$State" "baseTrack" "LBaroRuns$Track;"] ++ wsX20)
def wsX2_setting : List Cond := .code yX2_setting cX2_setting 2 (some .int) :: ([.fieldLink RX2 29 "BaroRuns$State" "baseHeight" "I", .fieldLink RX2 33 "BaroRuns$State" "gustLimit" "I", .fieldLink RX2 36 "BaroRuns$State" "stepLimit" "I"] ++ wsX20)
def wsX2_putSetting : List Cond := .code yX2_putSetting cX2_putSetting 3 none :: ([.fieldLink RX2 29 "BaroRuns$State" "baseHeight" "I", .fieldLink RX2 33 "BaroRuns$State" "gustLimit" "I", .fieldLink RX2 36 "BaroRuns$State" "stepLimit" "I"] ++ wsX20)
def wsX6_at : List Cond := .code yX6_at cX6_at 2 (some .int) :: ([])
def wsX5_value : List Cond := .code yX5_value cX5_value 3 (some .int) :: ([.fieldLink RX5 9 "BaroRuns$Track" "values" "[I", .static yX6_at, .initialized RX6, .code yX6_at cX6_at 2 (some .int)] ++ wsX50)
def wsX2_baseValue : List Cond := .code yX2_baseValue cX2_baseValue 10 (some .int) :: ([.fieldLink RX2 14 "BaroRuns$State" "baseTrack" "LBaroRuns$Track;", .constant RX2 50 (-2000000004), .methodLink RX2 46 yX5_value, .instanceMethod yX5_value, .selects RX5 yX5_value yX5_value, .initialized RX5, .code yX5_value cX5_value 3 (some .int), .fieldLink RX5 9 "BaroRuns$Track" "values" "[I", .static yX6_at, .initialized RX6, .code yX6_at cX6_at 2 (some .int), .static yX6_divideDown, .code yX6_divideDown cX6_divideDown 4 (some .long), .methodLink RX6 236 yJ9_floorDiv_f86c9, .static yJ9_floorDiv_f86c9, .initialized RJ9, .code yJ9_floorDiv_f86c9 cJ9_floorDiv_f86c9 6 (some .long)] ++ wsX20 ++ wsX50)
def wsJ9_floorDiv_7cf53 : List Cond := .code yJ9_floorDiv_7cf53 cJ9_floorDiv_7cf53 3 (some .int) :: ([])
def wsX2_heightAt_r1 : List Cond := [Cond.constant RX2 50 (-2000000004), Cond.constantLong RX2 63 (2930), Cond.fieldLink RX2 29 "BaroRuns$State" "baseHeight" "I", Cond.methodLink RX2 55 yX2_baseValue, Cond.instanceMethod yX2_baseValue, Cond.selects RX2 yX2_baseValue yX2_baseValue, Cond.initialized RX2, Cond.code yX2_baseValue cX2_baseValue 10 (some .int), Cond.fieldLink RX2 14 "BaroRuns$State" "baseTrack" "LBaroRuns$Track;", Cond.methodLink RX2 46 yX5_value, Cond.instanceMethod yX5_value, Cond.selects RX5 yX5_value yX5_value, Cond.initialized RX5, Cond.code yX5_value cX5_value 3 (some .int), Cond.fieldLink RX5 9 "BaroRuns$Track" "values" "[I", Cond.static yX6_at, Cond.initialized RX6, Cond.code yX6_at cX6_at 2 (some .int), Cond.static yX6_divideDown, Cond.code yX6_divideDown cX6_divideDown 4 (some .long), Cond.methodLink RX6 236 yJ9_floorDiv_f86c9, Cond.static yJ9_floorDiv_f86c9, Cond.initialized RJ9, Cond.code yJ9_floorDiv_f86c9 cJ9_floorDiv_f86c9 6 (some .long)]
def wsX2_heightAt_r2 : List Cond := [Cond.methodLink RX2 58 yJ9_floorDiv_7cf53, Cond.static yJ9_floorDiv_7cf53, Cond.code yJ9_floorDiv_7cf53 cJ9_floorDiv_7cf53 3 (some .int)]
def wsX2_heightAt : List Cond := .code yX2_heightAt cX2_heightAt 12 (some .int) :: ((wsX2_heightAt_r1 ++ wsX2_heightAt_r2) ++ wsX20 ++ wsX50)
def wsX2_isStepEnd : List Cond := .code yX2_isStepEnd cX2_isStepEnd 3 (some .boolean) :: ([.fieldLink RX2 14 "BaroRuns$State" "baseTrack" "LBaroRuns$Track;", .methodLink RX2 65 Lib.Math.abs.name, .static Lib.Math.abs.name, .initialized "java/lang/Math", .code Lib.Math.abs.name Lib.Math.abs.code 1 (some .int), .fieldLink RX2 36 "BaroRuns$State" "stepLimit" "I", .methodLink RX2 46 yX5_value, .instanceMethod yX5_value, .selects RX5 yX5_value yX5_value, .initialized RX5, .code yX5_value cX5_value 3 (some .int), .fieldLink RX5 9 "BaroRuns$Track" "values" "[I", .static yX6_at, .initialized RX6, .code yX6_at cX6_at 2 (some .int)] ++ wsX20 ++ wsX50)
def wsX2_steps : List Cond := .code yX2_steps cX2_steps 3 (some .int) :: ([.fieldLink RX2 14 "BaroRuns$State" "baseTrack" "LBaroRuns$Track;", .methodLink RX2 69 yX2_isStepEnd, .instanceMethod yX2_isStepEnd, .selects RX2 yX2_isStepEnd yX2_isStepEnd, .initialized RX2, .code yX2_isStepEnd cX2_isStepEnd 3 (some .boolean), .methodLink RX2 65 Lib.Math.abs.name, .static Lib.Math.abs.name, .initialized "java/lang/Math", .code Lib.Math.abs.name Lib.Math.abs.code 1 (some .int), .fieldLink RX2 36 "BaroRuns$State" "stepLimit" "I", .methodLink RX2 46 yX5_value, .instanceMethod yX5_value, .selects RX5 yX5_value yX5_value, .initialized RX5, .code yX5_value cX5_value 3 (some .int), .fieldLink RX5 9 "BaroRuns$Track" "values" "[I", .static yX6_at, .initialized RX6, .code yX6_at cX6_at 2 (some .int)] ++ wsX20 ++ wsX50)
def wsX2_stepEnd : List Cond := .code yX2_stepEnd cX2_stepEnd 4 (some .int) :: ([.fieldLink RX2 14 "BaroRuns$State" "baseTrack" "LBaroRuns$Track;", .methodLink RX2 69 yX2_isStepEnd, .instanceMethod yX2_isStepEnd, .selects RX2 yX2_isStepEnd yX2_isStepEnd, .initialized RX2, .code yX2_isStepEnd cX2_isStepEnd 3 (some .boolean), .methodLink RX2 65 Lib.Math.abs.name, .static Lib.Math.abs.name, .initialized "java/lang/Math", .code Lib.Math.abs.name Lib.Math.abs.code 1 (some .int), .fieldLink RX2 36 "BaroRuns$State" "stepLimit" "I", .methodLink RX2 46 yX5_value, .instanceMethod yX5_value, .selects RX5 yX5_value yX5_value, .initialized RX5, .code yX5_value cX5_value 3 (some .int), .fieldLink RX5 9 "BaroRuns$Track" "values" "[I", .static yX6_at, .initialized RX6, .code yX6_at cX6_at 2 (some .int)] ++ wsX20 ++ wsX50)
def wsX3_init : List Cond := .code yX3_init cX3_init 1 none :: ([.methodLink RX3 3 objectInit, .instanceMethod objectInit, .code objectInit ⟨#[0xb1]⟩ 1 none, .arrayClass .int, .fieldLink RX3 9 "BaroRuns$Survey" "times" "[I", .fieldLink RX3 15 "BaroRuns$Survey" "points" "[I", .fieldLink RX3 18 "BaroRuns$Survey" "heights" "[I", .fieldLink RX3 21 "BaroRuns$Survey" "gusts" "[I", .fieldLink RX3 24 "BaroRuns$Survey" "openLoops" "[I", .fieldLink RX3 27 "BaroRuns$Survey" "correctedHeights" "[I", .fieldLink RX3 30 "BaroRuns$Survey" "begins" "[I", .fieldLink RX3 33 "BaroRuns$Survey" "ends" "[I"] ++ wsX30)
def wsX6_put : List Cond := .code yX6_put cX6_put 3 none :: ([])
def wsX5_standsOut : List Cond := .code yX5_standsOut cX5_standsOut 6 (some .boolean) :: ([.fieldLink RX5 29 "BaroRuns$Track" "size" "I", .methodLink RX5 32 yX5_value, .instanceMethod yX5_value, .selects RX5 yX5_value yX5_value, .initialized RX5, .code yX5_value cX5_value 3 (some .int), .fieldLink RX5 9 "BaroRuns$Track" "values" "[I", .static yX6_at, .initialized RX6, .code yX6_at cX6_at 2 (some .int)] ++ wsX50)
def wsX3_isGust : List Cond := .code yX3_isGust cX3_isGust 2 (some .boolean) :: ([.fieldLink RX3 21 "BaroRuns$Survey" "gusts" "[I", .static yX6_at, .initialized RX6, .code yX6_at cX6_at 2 (some .int)] ++ wsX30)
def wsX3_isGood : List Cond := .code yX3_isGood cX3_isGood 2 (some .boolean) :: ([.fieldLink RX3 18 "BaroRuns$Survey" "heights" "[I", .constant RX3 85 (-2000000004), .fieldLink RX3 21 "BaroRuns$Survey" "gusts" "[I", .static yX6_at, .initialized RX6, .code yX6_at cX6_at 2 (some .int)] ++ wsX30)
def wsX3_countKinds : List Cond := .code yX3_countKinds cX3_countKinds 2 none :: ([.fieldLink RX3 114 "BaroRuns$Survey" "gustCount" "I", .fieldLink RX3 117 "BaroRuns$Survey" "goodCount" "I", .fieldLink RX3 48 "BaroRuns$Survey" "size" "I", .methodLink RX3 120 yX3_isGust, .instanceMethod yX3_isGust, .selects RX3 yX3_isGust yX3_isGust, .initialized RX3, .code yX3_isGust cX3_isGust 2 (some .boolean), .fieldLink RX3 21 "BaroRuns$Survey" "gusts" "[I", .static yX6_at, .initialized RX6, .code yX6_at cX6_at 2 (some .int), .methodLink RX3 95 yX3_isGood, .instanceMethod yX3_isGood, .selects RX3 yX3_isGood yX3_isGood, .code yX3_isGood cX3_isGood 2 (some .boolean), .fieldLink RX3 18 "BaroRuns$Survey" "heights" "[I", .constant RX3 85 (-2000000004)] ++ wsX30)
def wsX3_lastVisit : List Cond := .code yX3_lastVisit cX3_lastVisit 4 (some .int) :: ([.fieldLink RX3 15 "BaroRuns$Survey" "points" "[I", .static yX6_at, .initialized RX6, .code yX6_at cX6_at 2 (some .int), .methodLink RX3 95 yX3_isGood, .instanceMethod yX3_isGood, .selects RX3 yX3_isGood yX3_isGood, .initialized RX3, .code yX3_isGood cX3_isGood 2 (some .boolean), .fieldLink RX3 18 "BaroRuns$Survey" "heights" "[I", .constant RX3 85 (-2000000004), .fieldLink RX3 21 "BaroRuns$Survey" "gusts" "[I"] ++ wsX30)
def wsX3_findLoops : List Cond := .code yX3_findLoops cX3_findLoops 3 none :: ([.fieldLink RX3 123 "BaroRuns$Survey" "loopCount" "I", .fieldLink RX3 48 "BaroRuns$Survey" "size" "I", .fieldLink RX3 30 "BaroRuns$Survey" "begins" "[I", .fieldLink RX3 33 "BaroRuns$Survey" "ends" "[I", .methodLink RX3 95 yX3_isGood, .instanceMethod yX3_isGood, .selects RX3 yX3_isGood yX3_isGood, .initialized RX3, .code yX3_isGood cX3_isGood 2 (some .boolean), .fieldLink RX3 18 "BaroRuns$Survey" "heights" "[I", .constant RX3 85 (-2000000004), .fieldLink RX3 21 "BaroRuns$Survey" "gusts" "[I", .static yX6_at, .initialized RX6, .code yX6_at cX6_at 2 (some .int), .methodLink RX3 126 yX3_lastVisit, .instanceMethod yX3_lastVisit, .selects RX3 yX3_lastVisit yX3_lastVisit, .code yX3_lastVisit cX3_lastVisit 4 (some .int), .fieldLink RX3 15 "BaroRuns$Survey" "points" "[I", .static yX6_put, .code yX6_put cX6_put 3 none] ++ wsX30)
def wsX3_begin : List Cond := .code yX3_begin cX3_begin 2 (some .int) :: ([.fieldLink RX3 30 "BaroRuns$Survey" "begins" "[I", .static yX6_at, .initialized RX6, .code yX6_at cX6_at 2 (some .int)] ++ wsX30)
def wsX3_end : List Cond := .code yX3_end cX3_end 2 (some .int) :: ([.fieldLink RX3 33 "BaroRuns$Survey" "ends" "[I", .static yX6_at, .initialized RX6, .code yX6_at cX6_at 2 (some .int)] ++ wsX30)
def wsX3_minutes : List Cond := .code yX3_minutes cX3_minutes 2 (some .int) :: ([.fieldLink RX3 9 "BaroRuns$Survey" "times" "[I", .methodLink RX3 86 yX3_end, .instanceMethod yX3_end, .selects RX3 yX3_end yX3_end, .initialized RX3, .code yX3_end cX3_end 2 (some .int), .fieldLink RX3 33 "BaroRuns$Survey" "ends" "[I", .static yX6_at, .initialized RX6, .code yX6_at cX6_at 2 (some .int), .methodLink RX3 89 yX3_begin, .instanceMethod yX3_begin, .selects RX3 yX3_begin yX3_begin, .code yX3_begin cX3_begin 2 (some .int), .fieldLink RX3 30 "BaroRuns$Survey" "begins" "[I"] ++ wsX30)
def wsX3_shortestLoop_r1 : List Cond := [Cond.fieldLink RX3 123 "BaroRuns$Survey" "loopCount" "I", Cond.methodLink RX3 95 yX3_isGood, Cond.instanceMethod yX3_isGood, Cond.selects RX3 yX3_isGood yX3_isGood, Cond.initialized RX3, Cond.code yX3_isGood cX3_isGood 2 (some .boolean), Cond.fieldLink RX3 18 "BaroRuns$Survey" "heights" "[I", Cond.constant RX3 85 (-2000000004), Cond.fieldLink RX3 21 "BaroRuns$Survey" "gusts" "[I", Cond.static yX6_at, Cond.initialized RX6, Cond.code yX6_at cX6_at 2 (some .int), Cond.methodLink RX3 89 yX3_begin, Cond.instanceMethod yX3_begin, Cond.selects RX3 yX3_begin yX3_begin, Cond.code yX3_begin cX3_begin 2 (some .int), Cond.fieldLink RX3 30 "BaroRuns$Survey" "begins" "[I", Cond.methodLink RX3 86 yX3_end, Cond.instanceMethod yX3_end, Cond.selects RX3 yX3_end yX3_end, Cond.code yX3_end cX3_end 2 (some .int), Cond.fieldLink RX3 33 "BaroRuns$Survey" "ends" "[I", Cond.methodLink RX3 129 yX3_minutes, Cond.instanceMethod yX3_minutes]
def wsX3_shortestLoop_r2 : List Cond := [Cond.selects RX3 yX3_minutes yX3_minutes, Cond.code yX3_minutes cX3_minutes 2 (some .int), Cond.fieldLink RX3 9 "BaroRuns$Survey" "times" "[I"]
def wsX3_shortestLoop : List Cond := .code yX3_shortestLoop cX3_shortestLoop 5 (some .int) :: ((wsX3_shortestLoop_r1 ++ wsX3_shortestLoop_r2) ++ wsX30)
def wsX3_openLoopOf : List Cond := .code yX3_openLoopOf cX3_openLoopOf 2 (some .int) :: ([.fieldLink RX3 24 "BaroRuns$Survey" "openLoops" "[I", .static yX6_at, .initialized RX6, .code yX6_at cX6_at 2 (some .int)] ++ wsX30)
def wsX3_rawHeight : List Cond := .code yX3_rawHeight cX3_rawHeight 2 (some .int) :: ([.fieldLink RX3 18 "BaroRuns$Survey" "heights" "[I", .static yX6_at, .initialized RX6, .code yX6_at cX6_at 2 (some .int)] ++ wsX30)
def wsX3_misclosure : List Cond := .code yX3_misclosure cX3_misclosure 2 (some .int) :: ([.methodLink RX3 86 yX3_end, .instanceMethod yX3_end, .selects RX3 yX3_end yX3_end, .initialized RX3, .code yX3_end cX3_end 2 (some .int), .fieldLink RX3 33 "BaroRuns$Survey" "ends" "[I", .static yX6_at, .initialized RX6, .code yX6_at cX6_at 2 (some .int), .methodLink RX3 92 yX3_rawHeight, .instanceMethod yX3_rawHeight, .selects RX3 yX3_rawHeight yX3_rawHeight, .code yX3_rawHeight cX3_rawHeight 2 (some .int), .fieldLink RX3 18 "BaroRuns$Survey" "heights" "[I", .methodLink RX3 89 yX3_begin, .instanceMethod yX3_begin, .selects RX3 yX3_begin yX3_begin, .code yX3_begin cX3_begin 2 (some .int), .fieldLink RX3 30 "BaroRuns$Survey" "begins" "[I"] ++ wsX30)
def wsX3_withoutDrift_r1 : List Cond := [Cond.constant RX3 85 (-2000000004), Cond.fieldLink RX3 9 "BaroRuns$Survey" "times" "[I", Cond.methodLink RX3 95 yX3_isGood, Cond.instanceMethod yX3_isGood, Cond.selects RX3 yX3_isGood yX3_isGood, Cond.initialized RX3, Cond.code yX3_isGood cX3_isGood 2 (some .boolean), Cond.fieldLink RX3 18 "BaroRuns$Survey" "heights" "[I", Cond.fieldLink RX3 21 "BaroRuns$Survey" "gusts" "[I", Cond.static yX6_at, Cond.initialized RX6, Cond.code yX6_at cX6_at 2 (some .int), Cond.methodLink RX3 111 yX3_openLoopOf, Cond.instanceMethod yX3_openLoopOf, Cond.selects RX3 yX3_openLoopOf yX3_openLoopOf, Cond.code yX3_openLoopOf cX3_openLoopOf 2 (some .int), Cond.fieldLink RX3 24 "BaroRuns$Survey" "openLoops" "[I", Cond.methodLink RX3 92 yX3_rawHeight, Cond.instanceMethod yX3_rawHeight, Cond.selects RX3 yX3_rawHeight yX3_rawHeight, Cond.code yX3_rawHeight cX3_rawHeight 2 (some .int), Cond.methodLink RX3 89 yX3_begin, Cond.instanceMethod yX3_begin, Cond.selects RX3 yX3_begin yX3_begin]
def wsX3_withoutDrift_r2 : List Cond := [Cond.code yX3_begin cX3_begin 2 (some .int), Cond.fieldLink RX3 30 "BaroRuns$Survey" "begins" "[I", Cond.methodLink RX3 132 yX3_misclosure, Cond.instanceMethod yX3_misclosure, Cond.selects RX3 yX3_misclosure yX3_misclosure, Cond.code yX3_misclosure cX3_misclosure 2 (some .int), Cond.methodLink RX3 86 yX3_end, Cond.instanceMethod yX3_end, Cond.selects RX3 yX3_end yX3_end, Cond.code yX3_end cX3_end 2 (some .int), Cond.fieldLink RX3 33 "BaroRuns$Survey" "ends" "[I", Cond.methodLink RX3 129 yX3_minutes, Cond.instanceMethod yX3_minutes, Cond.selects RX3 yX3_minutes yX3_minutes, Cond.code yX3_minutes cX3_minutes 2 (some .int), Cond.static yX6_divideDown, Cond.code yX6_divideDown cX6_divideDown 4 (some .long), Cond.methodLink RX6 236 yJ9_floorDiv_f86c9, Cond.static yJ9_floorDiv_f86c9, Cond.initialized RJ9, Cond.code yJ9_floorDiv_f86c9 cJ9_floorDiv_f86c9 6 (some .long)]
def wsX3_withoutDrift : List Cond := .code yX3_withoutDrift cX3_withoutDrift 5 (some .int) :: ((wsX3_withoutDrift_r1 ++ wsX3_withoutDrift_r2) ++ wsX30)
def wsX3_workOut_r1 : List Cond := [Cond.fieldLink RX3 48 "BaroRuns$Survey" "size" "I", Cond.fieldLink RX3 9 "BaroRuns$Survey" "times" "[I", Cond.fieldLink RX3 15 "BaroRuns$Survey" "points" "[I", Cond.fieldLink RX3 18 "BaroRuns$Survey" "heights" "[I", Cond.fieldLink RX3 21 "BaroRuns$Survey" "gusts" "[I", Cond.fieldLink RX3 24 "BaroRuns$Survey" "openLoops" "[I", Cond.fieldLink RX3 27 "BaroRuns$Survey" "correctedHeights" "[I", Cond.methodLink RX3 36 yX2_track, Cond.instanceMethod yX2_track, Cond.selects RX2 yX2_track yX2_track, Cond.initialized RX2, Cond.code yX2_track cX2_track 2 (some (.object "BaroRuns$Track")), Cond.fieldLink RX2 20 "BaroRuns$State" "firstTrack" "LBaroRuns$Track;", Cond.fieldLink RX2 23 "BaroRuns$State" "secondTrack" "LBaroRuns$Track;", Cond.fieldLink RX2 26 "BaroRuns$State" "thirdTrack" "LBaroRuns$Track;", Cond.fieldLink RX2 14 "BaroRuns$State" "baseTrack" "LBaroRuns$Track;", Cond.methodLink RX3 49 yX5_value, Cond.instanceMethod yX5_value, Cond.selects RX5 yX5_value yX5_value, Cond.initialized RX5, Cond.code yX5_value cX5_value 3 (some .int), Cond.fieldLink RX5 9 "BaroRuns$Track" "values" "[I", Cond.static yX6_at, Cond.initialized RX6]
def wsX3_workOut_r2 : List Cond := [Cond.code yX6_at cX6_at 2 (some .int), Cond.static yX6_put, Cond.code yX6_put cX6_put 3 none, Cond.methodLink RX3 57 yX2_heightAt, Cond.instanceMethod yX2_heightAt, Cond.selects RX2 yX2_heightAt yX2_heightAt, Cond.code yX2_heightAt cX2_heightAt 12 (some .int), Cond.constant RX2 50 (-2000000004), Cond.constantLong RX2 63 (2930), Cond.fieldLink RX2 29 "BaroRuns$State" "baseHeight" "I", Cond.methodLink RX2 55 yX2_baseValue, Cond.instanceMethod yX2_baseValue, Cond.selects RX2 yX2_baseValue yX2_baseValue, Cond.code yX2_baseValue cX2_baseValue 10 (some .int), Cond.methodLink RX2 46 yX5_value, Cond.static yX6_divideDown, Cond.code yX6_divideDown cX6_divideDown 4 (some .long), Cond.methodLink RX6 236 yJ9_floorDiv_f86c9, Cond.static yJ9_floorDiv_f86c9, Cond.initialized RJ9, Cond.code yJ9_floorDiv_f86c9 cJ9_floorDiv_f86c9 6 (some .long), Cond.methodLink RX2 58 yJ9_floorDiv_7cf53, Cond.static yJ9_floorDiv_7cf53, Cond.code yJ9_floorDiv_7cf53 cJ9_floorDiv_7cf53 3 (some .int)]
def wsX3_workOut_r3 : List Cond := [Cond.methodLink RX3 64 yX5_standsOut, Cond.instanceMethod yX5_standsOut, Cond.selects RX5 yX5_standsOut yX5_standsOut, Cond.code yX5_standsOut cX5_standsOut 6 (some .boolean), Cond.fieldLink RX5 29 "BaroRuns$Track" "size" "I", Cond.methodLink RX5 32 yX5_value, Cond.methodLink RX3 68 yX3_countKinds, Cond.instanceMethod yX3_countKinds, Cond.selects RX3 yX3_countKinds yX3_countKinds, Cond.initialized RX3, Cond.code yX3_countKinds cX3_countKinds 2 none, Cond.fieldLink RX3 114 "BaroRuns$Survey" "gustCount" "I", Cond.fieldLink RX3 117 "BaroRuns$Survey" "goodCount" "I", Cond.methodLink RX3 120 yX3_isGust, Cond.instanceMethod yX3_isGust, Cond.selects RX3 yX3_isGust yX3_isGust, Cond.code yX3_isGust cX3_isGust 2 (some .boolean), Cond.methodLink RX3 95 yX3_isGood, Cond.instanceMethod yX3_isGood, Cond.selects RX3 yX3_isGood yX3_isGood, Cond.code yX3_isGood cX3_isGood 2 (some .boolean), Cond.constant RX3 85 (-2000000004), Cond.methodLink RX3 71 yX3_findLoops, Cond.instanceMethod yX3_findLoops]
def wsX3_workOut_r4 : List Cond := [Cond.selects RX3 yX3_findLoops yX3_findLoops, Cond.code yX3_findLoops cX3_findLoops 3 none, Cond.fieldLink RX3 123 "BaroRuns$Survey" "loopCount" "I", Cond.fieldLink RX3 30 "BaroRuns$Survey" "begins" "[I", Cond.fieldLink RX3 33 "BaroRuns$Survey" "ends" "[I", Cond.methodLink RX3 126 yX3_lastVisit, Cond.instanceMethod yX3_lastVisit, Cond.selects RX3 yX3_lastVisit yX3_lastVisit, Cond.code yX3_lastVisit cX3_lastVisit 4 (some .int), Cond.methodLink RX3 74 yX3_shortestLoop, Cond.instanceMethod yX3_shortestLoop, Cond.selects RX3 yX3_shortestLoop yX3_shortestLoop, Cond.code yX3_shortestLoop cX3_shortestLoop 5 (some .int), Cond.methodLink RX3 89 yX3_begin, Cond.instanceMethod yX3_begin, Cond.selects RX3 yX3_begin yX3_begin, Cond.code yX3_begin cX3_begin 2 (some .int), Cond.methodLink RX3 86 yX3_end, Cond.instanceMethod yX3_end, Cond.selects RX3 yX3_end yX3_end, Cond.code yX3_end cX3_end 2 (some .int), Cond.methodLink RX3 129 yX3_minutes, Cond.instanceMethod yX3_minutes, Cond.selects RX3 yX3_minutes yX3_minutes]
def wsX3_workOut_r5 : List Cond := [Cond.code yX3_minutes cX3_minutes 2 (some .int), Cond.methodLink RX3 78 yX3_withoutDrift, Cond.instanceMethod yX3_withoutDrift, Cond.selects RX3 yX3_withoutDrift yX3_withoutDrift, Cond.code yX3_withoutDrift cX3_withoutDrift 5 (some .int), Cond.methodLink RX3 111 yX3_openLoopOf, Cond.instanceMethod yX3_openLoopOf, Cond.selects RX3 yX3_openLoopOf yX3_openLoopOf, Cond.code yX3_openLoopOf cX3_openLoopOf 2 (some .int), Cond.methodLink RX3 92 yX3_rawHeight, Cond.instanceMethod yX3_rawHeight, Cond.selects RX3 yX3_rawHeight yX3_rawHeight, Cond.code yX3_rawHeight cX3_rawHeight 2 (some .int), Cond.methodLink RX3 132 yX3_misclosure, Cond.instanceMethod yX3_misclosure, Cond.selects RX3 yX3_misclosure yX3_misclosure, Cond.code yX3_misclosure cX3_misclosure 2 (some .int)]
def wsX3_workOut : List Cond := .code yX3_workOut cX3_workOut 8 none :: ((wsX3_workOut_r1 ++ (wsX3_workOut_r2 ++ (wsX3_workOut_r3 ++ (wsX3_workOut_r4 ++ wsX3_workOut_r5)))) ++ wsX50 ++ wsX30 ++ wsX20)
def wsX3_correctedHeight : List Cond := .code yX3_correctedHeight cX3_correctedHeight 2 (some .int) :: ([.fieldLink RX3 27 "BaroRuns$Survey" "correctedHeights" "[I", .static yX6_at, .initialized RX6, .code yX6_at cX6_at 2 (some .int)] ++ wsX30)
def wsX3_misclosureBySteps_r1 : List Cond := [Cond.fieldLink RX3 48 "BaroRuns$Survey" "size" "I", Cond.methodLink RX3 89 yX3_begin, Cond.instanceMethod yX3_begin, Cond.selects RX3 yX3_begin yX3_begin, Cond.initialized RX3, Cond.code yX3_begin cX3_begin 2 (some .int), Cond.fieldLink RX3 30 "BaroRuns$Survey" "begins" "[I", Cond.static yX6_at, Cond.initialized RX6, Cond.code yX6_at cX6_at 2 (some .int), Cond.methodLink RX3 92 yX3_rawHeight, Cond.instanceMethod yX3_rawHeight, Cond.selects RX3 yX3_rawHeight yX3_rawHeight, Cond.code yX3_rawHeight cX3_rawHeight 2 (some .int), Cond.fieldLink RX3 18 "BaroRuns$Survey" "heights" "[I", Cond.methodLink RX3 86 yX3_end, Cond.instanceMethod yX3_end, Cond.selects RX3 yX3_end yX3_end, Cond.code yX3_end cX3_end 2 (some .int), Cond.fieldLink RX3 33 "BaroRuns$Survey" "ends" "[I", Cond.methodLink RX3 95 yX3_isGood, Cond.instanceMethod yX3_isGood, Cond.selects RX3 yX3_isGood yX3_isGood, Cond.code yX3_isGood cX3_isGood 2 (some .boolean)]
def wsX3_misclosureBySteps_r2 : List Cond := [Cond.constant RX3 85 (-2000000004), Cond.fieldLink RX3 21 "BaroRuns$Survey" "gusts" "[I"]
def wsX3_misclosureBySteps : List Cond := .code yX3_misclosureBySteps cX3_misclosureBySteps 5 (some .int) :: ((wsX3_misclosureBySteps_r1 ++ wsX3_misclosureBySteps_r2) ++ wsX30)
def wsX3_endsOpenLoop : List Cond := .code yX3_endsOpenLoop cX3_endsOpenLoop 3 (some .boolean) :: ([.methodLink RX3 111 yX3_openLoopOf, .instanceMethod yX3_openLoopOf, .selects RX3 yX3_openLoopOf yX3_openLoopOf, .initialized RX3, .code yX3_openLoopOf cX3_openLoopOf 2 (some .int), .fieldLink RX3 24 "BaroRuns$Survey" "openLoops" "[I", .static yX6_at, .initialized RX6, .code yX6_at cX6_at 2 (some .int), .methodLink RX3 86 yX3_end, .instanceMethod yX3_end, .selects RX3 yX3_end yX3_end, .code yX3_end cX3_end 2 (some .int), .fieldLink RX3 33 "BaroRuns$Survey" "ends" "[I"] ++ wsX30)
def wsX3_addTo_r1 : List Cond := [Cond.fieldLink RX3 48 "BaroRuns$Survey" "size" "I", Cond.fieldLink RX3 15 "BaroRuns$Survey" "points" "[I", Cond.methodLink RX3 95 yX3_isGood, Cond.instanceMethod yX3_isGood, Cond.selects RX3 yX3_isGood yX3_isGood, Cond.initialized RX3, Cond.code yX3_isGood cX3_isGood 2 (some .boolean), Cond.fieldLink RX3 18 "BaroRuns$Survey" "heights" "[I", Cond.constant RX3 85 (-2000000004), Cond.fieldLink RX3 21 "BaroRuns$Survey" "gusts" "[I", Cond.static yX6_at, Cond.initialized RX6, Cond.code yX6_at cX6_at 2 (some .int), Cond.methodLink RX3 99 yX3_endsOpenLoop, Cond.instanceMethod yX3_endsOpenLoop, Cond.selects RX3 yX3_endsOpenLoop yX3_endsOpenLoop, Cond.code yX3_endsOpenLoop cX3_endsOpenLoop 3 (some .boolean), Cond.methodLink RX3 111 yX3_openLoopOf, Cond.instanceMethod yX3_openLoopOf, Cond.selects RX3 yX3_openLoopOf yX3_openLoopOf, Cond.code yX3_openLoopOf cX3_openLoopOf 2 (some .int), Cond.fieldLink RX3 24 "BaroRuns$Survey" "openLoops" "[I", Cond.methodLink RX3 86 yX3_end, Cond.instanceMethod yX3_end]
def wsX3_addTo_r2 : List Cond := [Cond.selects RX3 yX3_end yX3_end, Cond.code yX3_end cX3_end 2 (some .int), Cond.fieldLink RX3 33 "BaroRuns$Survey" "ends" "[I", Cond.methodLink RX3 102 yX3_correctedHeight, Cond.instanceMethod yX3_correctedHeight, Cond.selects RX3 yX3_correctedHeight yX3_correctedHeight, Cond.code yX3_correctedHeight cX3_correctedHeight 2 (some .int), Cond.fieldLink RX3 27 "BaroRuns$Survey" "correctedHeights" "[I", Cond.methodLink RX3 105 yX1_add, Cond.instanceMethod yX1_add, Cond.selects RX1 yX1_add yX1_add, Cond.initialized RX1, Cond.code yX1_add cX1_add 2 none, Cond.fieldLink RX1 13 "BaroRuns$PointSum" "number" "I", Cond.fieldLink RX1 17 "BaroRuns$PointSum" "least" "I", Cond.methodLink RX1 20 Lib.Math.min.name, Cond.static Lib.Math.min.name, Cond.initialized "java/lang/Math", Cond.code Lib.Math.min.name Lib.Math.min.code 2 (some .int), Cond.fieldLink RX1 26 "BaroRuns$PointSum" "greatest" "I", Cond.methodLink RX1 29 Lib.Math.max.name, Cond.static Lib.Math.max.name, Cond.code Lib.Math.max.name Lib.Math.max.code 2 (some .int), Cond.fieldLink RX1 7 "BaroRuns$PointSum" "sum" "J"]
def wsX3_addTo : List Cond := .code yX3_addTo cX3_addTo 4 none :: ((wsX3_addTo_r1 ++ wsX3_addTo_r2) ++ wsX30 ++ wsX10)
def wsX4_init : List Cond := .code yX4_init cX4_init 1 none :: ([.methodLink RX4 3 objectInit, .instanceMethod objectInit, .code objectInit ⟨#[0xb1]⟩ 1 none, .arrayClass .int, .fieldLink RX4 9 "BaroRuns$Text" "characters" "[I", .fieldLink RX4 15 "BaroRuns$Text" "faultPosition" "I"] ++ wsX40)
def wsX4_append : List Cond := .code yX4_append cX4_append 2 none :: ([.fieldLink RX4 19 "BaroRuns$Text" "length" "I", .fieldLink RX4 9 "BaroRuns$Text" "characters" "[I", .static yX6_put, .initialized RX6, .code yX6_put cX6_put 3 none] ++ wsX40)
def wsX4_skip : List Cond := .code yX4_skip cX4_skip 2 (some .boolean) :: ([.fieldLink RX4 26 "BaroRuns$Text" "position" "I", .fieldLink RX4 19 "BaroRuns$Text" "length" "I", .fieldLink RX4 9 "BaroRuns$Text" "characters" "[I", .static yX6_at, .initialized RX6, .code yX6_at cX6_at 2 (some .int)] ++ wsX40)
def wsX6_within : List Cond := .code yX6_within cX6_within 3 (some .boolean) :: ([])
def wsX4_takeNumber : List Cond := .code yX4_takeNumber cX4_takeNumber 5 (some .int) :: ([.fieldLink RX4 26 "BaroRuns$Text" "position" "I", .fieldLink RX4 19 "BaroRuns$Text" "length" "I", .fieldLink RX4 9 "BaroRuns$Text" "characters" "[I", .static yX6_at, .initialized RX6, .code yX6_at cX6_at 2 (some .int), .static yX6_within, .code yX6_within cX6_within 3 (some .boolean)] ++ wsX40)
def wsX4_takePlace : List Cond := .code yX4_takePlace cX4_takePlace 1 (some .boolean) :: ([.fieldLink RX4 36 "BaroRuns$Text" "cell" "I", .fieldLink RX4 52 "BaroRuns$Text" "point" "I", .methodLink RX4 84 yX4_skip, .instanceMethod yX4_skip, .selects RX4 yX4_skip yX4_skip, .initialized RX4, .code yX4_skip cX4_skip 2 (some .boolean), .fieldLink RX4 26 "BaroRuns$Text" "position" "I", .fieldLink RX4 19 "BaroRuns$Text" "length" "I", .fieldLink RX4 9 "BaroRuns$Text" "characters" "[I", .static yX6_at, .initialized RX6, .code yX6_at cX6_at 2 (some .int), .methodLink RX4 88 yX4_takeNumber, .instanceMethod yX4_takeNumber, .selects RX4 yX4_takeNumber yX4_takeNumber, .code yX4_takeNumber cX4_takeNumber 5 (some .int), .static yX6_within, .code yX6_within cX6_within 3 (some .boolean)] ++ wsX40)
def wsX4_takeReading_r1 : List Cond := [Cond.fieldLink RX4 55 "BaroRuns$Text" "time" "I", Cond.fieldLink RX4 58 "BaroRuns$Text" "pressure" "I", Cond.fieldLink RX4 61 "BaroRuns$Text" "temperature" "I", Cond.methodLink RX4 81 yX4_takePlace, Cond.instanceMethod yX4_takePlace, Cond.selects RX4 yX4_takePlace yX4_takePlace, Cond.initialized RX4, Cond.code yX4_takePlace cX4_takePlace 1 (some .boolean), Cond.fieldLink RX4 36 "BaroRuns$Text" "cell" "I", Cond.fieldLink RX4 52 "BaroRuns$Text" "point" "I", Cond.methodLink RX4 84 yX4_skip, Cond.instanceMethod yX4_skip, Cond.selects RX4 yX4_skip yX4_skip, Cond.code yX4_skip cX4_skip 2 (some .boolean), Cond.fieldLink RX4 26 "BaroRuns$Text" "position" "I", Cond.fieldLink RX4 19 "BaroRuns$Text" "length" "I", Cond.fieldLink RX4 9 "BaroRuns$Text" "characters" "[I", Cond.static yX6_at, Cond.initialized RX6, Cond.code yX6_at cX6_at 2 (some .int), Cond.methodLink RX4 88 yX4_takeNumber, Cond.instanceMethod yX4_takeNumber, Cond.selects RX4 yX4_takeNumber yX4_takeNumber, Cond.code yX4_takeNumber cX4_takeNumber 5 (some .int)]
def wsX4_takeReading_r2 : List Cond := [Cond.static yX6_within, Cond.code yX6_within cX6_within 3 (some .boolean)]
def wsX4_takeReading : List Cond := .code yX4_takeReading cX4_takeReading 3 (some .boolean) :: ((wsX4_takeReading_r1 ++ wsX4_takeReading_r2) ++ wsX40)
def wsX6_isTime : List Cond := .code yX6_isTime cX6_isTime 1 (some .boolean) :: ([.methodLink RX6 105 yX6_within, .static yX6_within, .initialized RX6, .code yX6_within cX6_within 3 (some .boolean)])
def wsX6_isTemperature : List Cond := .code yX6_isTemperature cX6_isTemperature 1 (some .boolean) :: ([.methodLink RX6 105 yX6_within, .static yX6_within, .initialized RX6, .code yX6_within cX6_within 3 (some .boolean)])
def wsX6_isReading : List Cond := .code yX6_isReading cX6_isReading 3 (some .boolean) :: ([.constant RX6 172 (50000), .constant RX6 235 (110000), .methodLink RX6 151 yX6_isTime, .static yX6_isTime, .initialized RX6, .code yX6_isTime cX6_isTime 1 (some .boolean), .methodLink RX6 105 yX6_within, .static yX6_within, .code yX6_within cX6_within 3 (some .boolean), .methodLink RX6 167 yX6_isTemperature, .static yX6_isTemperature, .code yX6_isTemperature cX6_isTemperature 1 (some .boolean)])
def wsX5_hasTime : List Cond := .code yX5_hasTime cX5_hasTime 3 (some .boolean) :: ([.fieldLink RX5 29 "BaroRuns$Track" "size" "I", .methodLink RX5 32 yX5_value, .instanceMethod yX5_value, .selects RX5 yX5_value yX5_value, .initialized RX5, .code yX5_value cX5_value 3 (some .int), .fieldLink RX5 9 "BaroRuns$Track" "values" "[I", .static yX6_at, .initialized RX6, .code yX6_at cX6_at 2 (some .int)] ++ wsX50)
def wsX5_isFull : List Cond := .code yX5_isFull cX5_isFull 1 (some .boolean) :: ([.fieldLink RX5 29 "BaroRuns$Track" "size" "I", .fieldLink RX5 21 "BaroRuns$Track" "room" "I"] ++ wsX50)
def wsX4_reasonAgainst_r1 : List Cond := [Cond.fieldLink RX4 36 "BaroRuns$Text" "cell" "I", Cond.fieldLink RX4 55 "BaroRuns$Text" "time" "I", Cond.fieldLink RX4 58 "BaroRuns$Text" "pressure" "I", Cond.fieldLink RX4 61 "BaroRuns$Text" "temperature" "I", Cond.static yX6_isReading, Cond.initialized RX6, Cond.code yX6_isReading cX6_isReading 3 (some .boolean), Cond.constant RX6 172 (50000), Cond.constant RX6 235 (110000), Cond.methodLink RX6 151 yX6_isTime, Cond.static yX6_isTime, Cond.code yX6_isTime cX6_isTime 1 (some .boolean), Cond.methodLink RX6 105 yX6_within, Cond.static yX6_within, Cond.code yX6_within cX6_within 3 (some .boolean), Cond.methodLink RX6 167 yX6_isTemperature, Cond.static yX6_isTemperature, Cond.code yX6_isTemperature cX6_isTemperature 1 (some .boolean), Cond.methodLink RX4 74 yX5_hasTime, Cond.instanceMethod yX5_hasTime, Cond.selects RX5 yX5_hasTime yX5_hasTime, Cond.initialized RX5, Cond.code yX5_hasTime cX5_hasTime 3 (some .boolean), Cond.fieldLink RX5 29 "BaroRuns$Track" "size" "I"]
def wsX4_reasonAgainst_r2 : List Cond := [Cond.methodLink RX5 32 yX5_value, Cond.instanceMethod yX5_value, Cond.selects RX5 yX5_value yX5_value, Cond.code yX5_value cX5_value 3 (some .int), Cond.fieldLink RX5 9 "BaroRuns$Track" "values" "[I", Cond.static yX6_at, Cond.code yX6_at cX6_at 2 (some .int), Cond.methodLink RX4 78 yX5_isFull, Cond.instanceMethod yX5_isFull, Cond.selects RX5 yX5_isFull yX5_isFull, Cond.code yX5_isFull cX5_isFull 1 (some .boolean), Cond.fieldLink RX5 21 "BaroRuns$Track" "room" "I"]
def wsX4_reasonAgainst : List Cond := .code yX4_reasonAgainst cX4_reasonAgainst 2 (some .int) :: ((wsX4_reasonAgainst_r1 ++ wsX4_reasonAgainst_r2) ++ wsX40 ++ wsX50)
def wsX5_move : List Cond := .code yX5_move cX5_move 4 none :: ([.fieldLink RX5 9 "BaroRuns$Track" "values" "[I", .methodLink RX5 32 yX5_value, .instanceMethod yX5_value, .selects RX5 yX5_value yX5_value, .initialized RX5, .code yX5_value cX5_value 3 (some .int), .static yX6_at, .initialized RX6, .code yX6_at cX6_at 2 (some .int), .static yX6_put, .code yX6_put cX6_put 3 none] ++ wsX50)
def wsX5_insert : List Cond := .code yX5_insert cX5_insert 7 (some .int) :: ([.fieldLink RX5 29 "BaroRuns$Track" "size" "I", .fieldLink RX5 9 "BaroRuns$Track" "values" "[I", .methodLink RX5 32 yX5_value, .instanceMethod yX5_value, .selects RX5 yX5_value yX5_value, .initialized RX5, .code yX5_value cX5_value 3 (some .int), .static yX6_at, .initialized RX6, .code yX6_at cX6_at 2 (some .int), .methodLink RX5 35 yX5_move, .instanceMethod yX5_move, .selects RX5 yX5_move yX5_move, .code yX5_move cX5_move 4 none, .static yX6_put, .code yX6_put cX6_put 3 none] ++ wsX50)
def wsX4_readInto_r1 : List Cond := [Cond.fieldLink RX4 26 "BaroRuns$Text" "position" "I", Cond.fieldLink RX4 29 "BaroRuns$Text" "taken" "I", Cond.fieldLink RX4 15 "BaroRuns$Text" "faultPosition" "I", Cond.fieldLink RX4 19 "BaroRuns$Text" "length" "I", Cond.fieldLink RX4 36 "BaroRuns$Text" "cell" "I", Cond.fieldLink RX4 49 "BaroRuns$Text" "faultReason" "I", Cond.fieldLink RX4 52 "BaroRuns$Text" "point" "I", Cond.fieldLink RX4 55 "BaroRuns$Text" "time" "I", Cond.fieldLink RX4 58 "BaroRuns$Text" "pressure" "I", Cond.fieldLink RX4 61 "BaroRuns$Text" "temperature" "I", Cond.methodLink RX4 32 yX4_takeReading, Cond.instanceMethod yX4_takeReading, Cond.selects RX4 yX4_takeReading yX4_takeReading, Cond.initialized RX4, Cond.code yX4_takeReading cX4_takeReading 3 (some .boolean), Cond.methodLink RX4 81 yX4_takePlace, Cond.instanceMethod yX4_takePlace, Cond.selects RX4 yX4_takePlace yX4_takePlace, Cond.code yX4_takePlace cX4_takePlace 1 (some .boolean), Cond.methodLink RX4 84 yX4_skip, Cond.instanceMethod yX4_skip, Cond.selects RX4 yX4_skip yX4_skip, Cond.code yX4_skip cX4_skip 2 (some .boolean), Cond.fieldLink RX4 9 "BaroRuns$Text" "characters" "[I"]
def wsX4_readInto_r2 : List Cond := [Cond.static yX6_at, Cond.initialized RX6, Cond.code yX6_at cX6_at 2 (some .int), Cond.methodLink RX4 88 yX4_takeNumber, Cond.instanceMethod yX4_takeNumber, Cond.selects RX4 yX4_takeNumber yX4_takeNumber, Cond.code yX4_takeNumber cX4_takeNumber 5 (some .int), Cond.static yX6_within, Cond.code yX6_within cX6_within 3 (some .boolean), Cond.methodLink RX4 39 yX2_track, Cond.instanceMethod yX2_track, Cond.selects RX2 yX2_track yX2_track, Cond.initialized RX2, Cond.code yX2_track cX2_track 2 (some (.object "BaroRuns$Track")), Cond.fieldLink RX2 20 "BaroRuns$State" "firstTrack" "LBaroRuns$Track;", Cond.fieldLink RX2 23 "BaroRuns$State" "secondTrack" "LBaroRuns$Track;", Cond.fieldLink RX2 26 "BaroRuns$State" "thirdTrack" "LBaroRuns$Track;", Cond.fieldLink RX2 14 "BaroRuns$State" "baseTrack" "LBaroRuns$Track;", Cond.methodLink RX4 45 yX4_reasonAgainst, Cond.instanceMethod yX4_reasonAgainst, Cond.selects RX4 yX4_reasonAgainst yX4_reasonAgainst, Cond.code yX4_reasonAgainst cX4_reasonAgainst 2 (some .int), Cond.static yX6_isReading, Cond.code yX6_isReading cX6_isReading 3 (some .boolean)]
def wsX4_readInto_r3 : List Cond := [Cond.constant RX6 172 (50000), Cond.constant RX6 235 (110000), Cond.methodLink RX6 151 yX6_isTime, Cond.static yX6_isTime, Cond.code yX6_isTime cX6_isTime 1 (some .boolean), Cond.methodLink RX6 105 yX6_within, Cond.methodLink RX6 167 yX6_isTemperature, Cond.static yX6_isTemperature, Cond.code yX6_isTemperature cX6_isTemperature 1 (some .boolean), Cond.methodLink RX4 74 yX5_hasTime, Cond.instanceMethod yX5_hasTime, Cond.selects RX5 yX5_hasTime yX5_hasTime, Cond.initialized RX5, Cond.code yX5_hasTime cX5_hasTime 3 (some .boolean), Cond.fieldLink RX5 29 "BaroRuns$Track" "size" "I", Cond.methodLink RX5 32 yX5_value, Cond.instanceMethod yX5_value, Cond.selects RX5 yX5_value yX5_value, Cond.code yX5_value cX5_value 3 (some .int), Cond.fieldLink RX5 9 "BaroRuns$Track" "values" "[I", Cond.methodLink RX4 78 yX5_isFull, Cond.instanceMethod yX5_isFull, Cond.selects RX5 yX5_isFull yX5_isFull, Cond.code yX5_isFull cX5_isFull 1 (some .boolean)]
def wsX4_readInto_r4 : List Cond := [Cond.fieldLink RX5 21 "BaroRuns$Track" "room" "I", Cond.methodLink RX4 64 yX5_insert, Cond.instanceMethod yX5_insert, Cond.selects RX5 yX5_insert yX5_insert, Cond.code yX5_insert cX5_insert 7 (some .int), Cond.methodLink RX5 35 yX5_move, Cond.instanceMethod yX5_move, Cond.selects RX5 yX5_move yX5_move, Cond.code yX5_move cX5_move 4 none, Cond.static yX6_put, Cond.code yX6_put cX6_put 3 none]
def wsX4_readInto : List Cond := .code yX4_readInto cX4_readInto 4 none :: ((wsX4_readInto_r1 ++ (wsX4_readInto_r2 ++ (wsX4_readInto_r3 ++ wsX4_readInto_r4))) ++ wsX40 ++ wsX20 ++ wsX50)
def wsX5_remove : List Cond := .code yX5_remove cX5_remove 3 none :: ([.fieldLink RX5 29 "BaroRuns$Track" "size" "I", .methodLink RX5 35 yX5_move, .instanceMethod yX5_move, .selects RX5 yX5_move yX5_move, .initialized RX5, .code yX5_move cX5_move 4 none, .fieldLink RX5 9 "BaroRuns$Track" "values" "[I", .methodLink RX5 32 yX5_value, .instanceMethod yX5_value, .selects RX5 yX5_value yX5_value, .code yX5_value cX5_value 3 (some .int), .static yX6_at, .initialized RX6, .code yX6_at cX6_at 2 (some .int), .static yX6_put, .code yX6_put cX6_put 3 none] ++ wsX50)
def wsX6_init_r1 : List Cond := [Cond.methodLink RX6 1 objectInit, Cond.instanceMethod objectInit, Cond.code objectInit ⟨#[0xb1]⟩ 1 none, Cond.classLink RX6 7 RX2, Cond.instantiable RX2 7, Cond.initialized RX2, Cond.fieldLink RX6 10 "BaroRuns" "now" "LBaroRuns$State;", Cond.fieldLink RX6 16 "BaroRuns" "trial" "LBaroRuns$State;", Cond.classLink RX6 19 RX0, Cond.instantiable RX0 3, Cond.initialized RX0, Cond.fieldLink RX6 22 "BaroRuns" "history" "LBaroRuns$History;", Cond.classLink RX6 26 RX3, Cond.instantiable RX3 12, Cond.initialized RX3, Cond.fieldLink RX6 29 "BaroRuns" "firstSurvey" "LBaroRuns$Survey;", Cond.fieldLink RX6 33 "BaroRuns" "secondSurvey" "LBaroRuns$Survey;", Cond.fieldLink RX6 36 "BaroRuns" "thirdSurvey" "LBaroRuns$Survey;", Cond.classLink RX6 39 RX1, Cond.instantiable RX1 4, Cond.initialized RX1, Cond.fieldLink RX6 42 "BaroRuns" "pointSum" "LBaroRuns$PointSum;", Cond.classLink RX6 46 RX4, Cond.instantiable RX4 11]
def wsX6_init_r2 : List Cond := [Cond.initialized RX4, Cond.fieldLink RX6 49 "BaroRuns" "text" "LBaroRuns$Text;", Cond.fieldLink RX6 53 "BaroRuns" "stale" "Z", Cond.methodLink RX6 9 yX2_init, Cond.instanceMethod yX2_init, Cond.code yX2_init cX2_init 1 none, Cond.methodLink RX2 3 objectInit, Cond.classLink RX2 9 RX5, Cond.instantiable RX5 3, Cond.initialized RX5, Cond.fieldLink RX2 14 "BaroRuns$State" "baseTrack" "LBaroRuns$Track;", Cond.fieldLink RX2 20 "BaroRuns$State" "firstTrack" "LBaroRuns$Track;", Cond.fieldLink RX2 23 "BaroRuns$State" "secondTrack" "LBaroRuns$Track;", Cond.fieldLink RX2 26 "BaroRuns$State" "thirdTrack" "LBaroRuns$Track;", Cond.fieldLink RX2 29 "BaroRuns$State" "baseHeight" "I", Cond.fieldLink RX2 33 "BaroRuns$State" "gustLimit" "I", Cond.fieldLink RX2 36 "BaroRuns$State" "stepLimit" "I", Cond.methodLink RX2 11 yX5_init, Cond.instanceMethod yX5_init, Cond.code yX5_init cX5_init 2 none, Cond.methodLink RX5 3 objectInit, Cond.arrayClass .int, Cond.fieldLink RX5 9 "BaroRuns$Track" "values" "[I", Cond.methodLink RX5 15 Lib.Math.min.name]
def wsX6_init_r3 : List Cond := [Cond.static Lib.Math.min.name, Cond.initialized "java/lang/Math", Cond.code Lib.Math.min.name Lib.Math.min.code 2 (some .int), Cond.fieldLink RX5 21 "BaroRuns$Track" "room" "I", Cond.methodLink RX6 21 yX0_init, Cond.instanceMethod yX0_init, Cond.code yX0_init cX0_init 2 none, Cond.methodLink RX0 3 objectInit, Cond.classLink RX0 9 RX2, Cond.fieldLink RX0 11 "BaroRuns$History" "places" "[LBaroRuns$State;", Cond.methodLink RX0 17 yX2_init, Cond.methodLink RX6 28 yX3_init, Cond.instanceMethod yX3_init, Cond.code yX3_init cX3_init 1 none, Cond.methodLink RX3 3 objectInit, Cond.fieldLink RX3 9 "BaroRuns$Survey" "times" "[I", Cond.fieldLink RX3 15 "BaroRuns$Survey" "points" "[I", Cond.fieldLink RX3 18 "BaroRuns$Survey" "heights" "[I", Cond.fieldLink RX3 21 "BaroRuns$Survey" "gusts" "[I", Cond.fieldLink RX3 24 "BaroRuns$Survey" "openLoops" "[I", Cond.fieldLink RX3 27 "BaroRuns$Survey" "correctedHeights" "[I", Cond.fieldLink RX3 30 "BaroRuns$Survey" "begins" "[I", Cond.fieldLink RX3 33 "BaroRuns$Survey" "ends" "[I", Cond.methodLink RX6 41 yX1_init]
def wsX6_init_r4 : List Cond := [Cond.instanceMethod yX1_init, Cond.code yX1_init cX1_init 1 none, Cond.methodLink RX1 1 objectInit, Cond.methodLink RX6 48 yX4_init, Cond.instanceMethod yX4_init, Cond.code yX4_init cX4_init 1 none, Cond.methodLink RX4 3 objectInit, Cond.fieldLink RX4 9 "BaroRuns$Text" "characters" "[I", Cond.fieldLink RX4 15 "BaroRuns$Text" "faultPosition" "I"]
def wsX6_init : List Cond := .code yX6_init cX6_init 1 none :: ((wsX6_init_r1 ++ (wsX6_init_r2 ++ (wsX6_init_r3 ++ wsX6_init_r4))) ++ wsX20 ++ wsX60 ++ wsX00 ++ wsX30 ++ wsX10 ++ wsX40 ++ wsX50)
def wsX6_isSetting : List Cond := .code yX6_isSetting cX6_isSetting 2 (some .boolean) :: ([.constant RX6 233 (-500000), .constant RX6 234 (9000000), .methodLink RX6 105 yX6_within, .static yX6_within, .initialized RX6, .code yX6_within cX6_within 3 (some .boolean)])
def wsX6_record_r1 : List Cond := [Cond.fieldLink RX6 22 "BaroRuns" "history" "LBaroRuns$History;", Cond.fieldLink RX6 10 "BaroRuns" "now" "LBaroRuns$State;", Cond.fieldLink RX6 53 "BaroRuns" "stale" "Z", Cond.methodLink RX6 240 yX0_keep, Cond.instanceMethod yX0_keep, Cond.selects RX0 yX0_keep yX0_keep, Cond.initialized RX0, Cond.code yX0_keep cX0_keep 3 none, Cond.fieldLink RX0 18 "BaroRuns$History" "size" "I", Cond.fieldLink RX0 22 "BaroRuns$History" "oldest" "I", Cond.methodLink RX0 25 yX0_place, Cond.instanceMethod yX0_place, Cond.selects RX0 yX0_place yX0_place, Cond.code yX0_place cX0_place 3 (some (.object "BaroRuns$State")), Cond.fieldLink RX0 11 "BaroRuns$History" "places" "[LBaroRuns$State;", Cond.methodLink RX0 29 yX2_copyFrom, Cond.instanceMethod yX2_copyFrom, Cond.selects RX2 yX2_copyFrom yX2_copyFrom, Cond.initialized RX2, Cond.code yX2_copyFrom cX2_copyFrom 2 none, Cond.fieldLink RX2 14 "BaroRuns$State" "baseTrack" "LBaroRuns$Track;", Cond.fieldLink RX2 20 "BaroRuns$State" "firstTrack" "LBaroRuns$Track;", Cond.fieldLink RX2 23 "BaroRuns$State" "secondTrack" "LBaroRuns$Track;", Cond.fieldLink RX2 26 "BaroRuns$State" "thirdTrack" "LBaroRuns$Track;"]
def wsX6_record_r2 : List Cond := [Cond.fieldLink RX2 29 "BaroRuns$State" "baseHeight" "I", Cond.fieldLink RX2 33 "BaroRuns$State" "gustLimit" "I", Cond.fieldLink RX2 36 "BaroRuns$State" "stepLimit" "I", Cond.methodLink RX2 39 yX5_copyFrom, Cond.instanceMethod yX5_copyFrom, Cond.selects RX5 yX5_copyFrom yX5_copyFrom, Cond.initialized RX5, Cond.code yX5_copyFrom cX5_copyFrom 2 none, Cond.fieldLink RX5 9 "BaroRuns$Track" "values" "[I", Cond.methodLink RX5 15 Lib.Math.min.name, Cond.static Lib.Math.min.name, Cond.initialized "java/lang/Math", Cond.code Lib.Math.min.name Lib.Math.min.code 2 (some .int), Cond.methodLink RX5 43 arraycopyName, Cond.native arraycopyName, Cond.static arraycopyName, Cond.initialized "java/lang/System", Cond.fieldLink RX5 29 "BaroRuns$Track" "size" "I"]
def wsX6_record : List Cond := .code yX6_record cX6_record 1 none :: ((wsX6_record_r1 ++ wsX6_record_r2) ++ wsX60 ++ wsX00 ++ wsX20 ++ wsX50)
def wsX6_set_r1 : List Cond := [Cond.constant RX6 61 (-2000000001), Cond.fieldLink RX6 10 "BaroRuns" "now" "LBaroRuns$State;", Cond.methodLink RX6 57 yX6_isSetting, Cond.static yX6_isSetting, Cond.initialized RX6, Cond.code yX6_isSetting cX6_isSetting 2 (some .boolean), Cond.constant RX6 233 (-500000), Cond.constant RX6 234 (9000000), Cond.methodLink RX6 105 yX6_within, Cond.static yX6_within, Cond.code yX6_within cX6_within 3 (some .boolean), Cond.methodLink RX6 62 yX6_record, Cond.instanceMethod yX6_record, Cond.selects RX6 yX6_record yX6_record, Cond.code yX6_record cX6_record 1 none, Cond.fieldLink RX6 22 "BaroRuns" "history" "LBaroRuns$History;", Cond.fieldLink RX6 53 "BaroRuns" "stale" "Z", Cond.methodLink RX6 240 yX0_keep, Cond.instanceMethod yX0_keep, Cond.selects RX0 yX0_keep yX0_keep, Cond.initialized RX0, Cond.code yX0_keep cX0_keep 3 none, Cond.fieldLink RX0 18 "BaroRuns$History" "size" "I", Cond.fieldLink RX0 22 "BaroRuns$History" "oldest" "I"]
def wsX6_set_r2 : List Cond := [Cond.methodLink RX0 25 yX0_place, Cond.instanceMethod yX0_place, Cond.selects RX0 yX0_place yX0_place, Cond.code yX0_place cX0_place 3 (some (.object "BaroRuns$State")), Cond.fieldLink RX0 11 "BaroRuns$History" "places" "[LBaroRuns$State;", Cond.methodLink RX0 29 yX2_copyFrom, Cond.instanceMethod yX2_copyFrom, Cond.selects RX2 yX2_copyFrom yX2_copyFrom, Cond.initialized RX2, Cond.code yX2_copyFrom cX2_copyFrom 2 none, Cond.fieldLink RX2 14 "BaroRuns$State" "baseTrack" "LBaroRuns$Track;", Cond.fieldLink RX2 20 "BaroRuns$State" "firstTrack" "LBaroRuns$Track;", Cond.fieldLink RX2 23 "BaroRuns$State" "secondTrack" "LBaroRuns$Track;", Cond.fieldLink RX2 26 "BaroRuns$State" "thirdTrack" "LBaroRuns$Track;", Cond.fieldLink RX2 29 "BaroRuns$State" "baseHeight" "I", Cond.fieldLink RX2 33 "BaroRuns$State" "gustLimit" "I", Cond.fieldLink RX2 36 "BaroRuns$State" "stepLimit" "I", Cond.methodLink RX2 39 yX5_copyFrom, Cond.instanceMethod yX5_copyFrom, Cond.selects RX5 yX5_copyFrom yX5_copyFrom, Cond.initialized RX5, Cond.code yX5_copyFrom cX5_copyFrom 2 none, Cond.fieldLink RX5 9 "BaroRuns$Track" "values" "[I", Cond.methodLink RX5 15 Lib.Math.min.name]
def wsX6_set_r3 : List Cond := [Cond.static Lib.Math.min.name, Cond.initialized "java/lang/Math", Cond.code Lib.Math.min.name Lib.Math.min.code 2 (some .int), Cond.methodLink RX5 43 arraycopyName, Cond.native arraycopyName, Cond.static arraycopyName, Cond.initialized "java/lang/System", Cond.fieldLink RX5 29 "BaroRuns$Track" "size" "I", Cond.methodLink RX6 65 yX2_setting, Cond.instanceMethod yX2_setting, Cond.selects RX2 yX2_setting yX2_setting, Cond.code yX2_setting cX2_setting 2 (some .int), Cond.methodLink RX6 69 yX2_putSetting, Cond.instanceMethod yX2_putSetting, Cond.selects RX2 yX2_putSetting yX2_putSetting, Cond.code yX2_putSetting cX2_putSetting 3 none]
def wsX6_set : List Cond := .code yX6_set cX6_set 4 (some .int) :: ((wsX6_set_r1 ++ (wsX6_set_r2 ++ wsX6_set_r3)) ++ wsX60 ++ wsX00 ++ wsX20 ++ wsX50)
def wsX6_take_r1 : List Cond := [Cond.fieldLink RX6 10 "BaroRuns" "now" "LBaroRuns$State;", Cond.constant RX6 146 (-2000000002), Cond.constant RX6 214 (-2000000003), Cond.methodLink RX6 91 yX2_track, Cond.instanceMethod yX2_track, Cond.selects RX2 yX2_track yX2_track, Cond.initialized RX2, Cond.code yX2_track cX2_track 2 (some (.object "BaroRuns$Track")), Cond.fieldLink RX2 20 "BaroRuns$State" "firstTrack" "LBaroRuns$Track;", Cond.fieldLink RX2 23 "BaroRuns$State" "secondTrack" "LBaroRuns$Track;", Cond.fieldLink RX2 26 "BaroRuns$State" "thirdTrack" "LBaroRuns$Track;", Cond.fieldLink RX2 14 "BaroRuns$State" "baseTrack" "LBaroRuns$Track;", Cond.methodLink RX6 243 yX5_hasTime, Cond.instanceMethod yX5_hasTime, Cond.selects RX5 yX5_hasTime yX5_hasTime, Cond.initialized RX5, Cond.code yX5_hasTime cX5_hasTime 3 (some .boolean), Cond.fieldLink RX5 29 "BaroRuns$Track" "size" "I", Cond.methodLink RX5 32 yX5_value, Cond.instanceMethod yX5_value, Cond.selects RX5 yX5_value yX5_value, Cond.code yX5_value cX5_value 3 (some .int), Cond.fieldLink RX5 9 "BaroRuns$Track" "values" "[I", Cond.static yX6_at]
def wsX6_take_r2 : List Cond := [Cond.initialized RX6, Cond.code yX6_at cX6_at 2 (some .int), Cond.methodLink RX6 246 yX5_isFull, Cond.instanceMethod yX5_isFull, Cond.selects RX5 yX5_isFull yX5_isFull, Cond.code yX5_isFull cX5_isFull 1 (some .boolean), Cond.fieldLink RX5 21 "BaroRuns$Track" "room" "I", Cond.methodLink RX6 62 yX6_record, Cond.instanceMethod yX6_record, Cond.selects RX6 yX6_record yX6_record, Cond.code yX6_record cX6_record 1 none, Cond.fieldLink RX6 22 "BaroRuns" "history" "LBaroRuns$History;", Cond.fieldLink RX6 53 "BaroRuns" "stale" "Z", Cond.methodLink RX6 240 yX0_keep, Cond.instanceMethod yX0_keep, Cond.selects RX0 yX0_keep yX0_keep, Cond.initialized RX0, Cond.code yX0_keep cX0_keep 3 none, Cond.fieldLink RX0 18 "BaroRuns$History" "size" "I", Cond.fieldLink RX0 22 "BaroRuns$History" "oldest" "I", Cond.methodLink RX0 25 yX0_place, Cond.instanceMethod yX0_place, Cond.selects RX0 yX0_place yX0_place, Cond.code yX0_place cX0_place 3 (some (.object "BaroRuns$State"))]
def wsX6_take_r3 : List Cond := [Cond.fieldLink RX0 11 "BaroRuns$History" "places" "[LBaroRuns$State;", Cond.methodLink RX0 29 yX2_copyFrom, Cond.instanceMethod yX2_copyFrom, Cond.selects RX2 yX2_copyFrom yX2_copyFrom, Cond.code yX2_copyFrom cX2_copyFrom 2 none, Cond.fieldLink RX2 29 "BaroRuns$State" "baseHeight" "I", Cond.fieldLink RX2 33 "BaroRuns$State" "gustLimit" "I", Cond.fieldLink RX2 36 "BaroRuns$State" "stepLimit" "I", Cond.methodLink RX2 39 yX5_copyFrom, Cond.instanceMethod yX5_copyFrom, Cond.selects RX5 yX5_copyFrom yX5_copyFrom, Cond.code yX5_copyFrom cX5_copyFrom 2 none, Cond.methodLink RX5 15 Lib.Math.min.name, Cond.static Lib.Math.min.name, Cond.initialized "java/lang/Math", Cond.code Lib.Math.min.name Lib.Math.min.code 2 (some .int), Cond.methodLink RX5 43 arraycopyName, Cond.native arraycopyName, Cond.static arraycopyName, Cond.initialized "java/lang/System", Cond.methodLink RX6 250 yX5_insert, Cond.instanceMethod yX5_insert, Cond.selects RX5 yX5_insert yX5_insert, Cond.code yX5_insert cX5_insert 7 (some .int)]
def wsX6_take_r4 : List Cond := [Cond.methodLink RX5 35 yX5_move, Cond.instanceMethod yX5_move, Cond.selects RX5 yX5_move yX5_move, Cond.code yX5_move cX5_move 4 none, Cond.static yX6_put, Cond.code yX6_put cX6_put 3 none]
def wsX6_take : List Cond := .code yX6_take cX6_take 7 (some .int) :: ((wsX6_take_r1 ++ (wsX6_take_r2 ++ (wsX6_take_r3 ++ wsX6_take_r4))) ++ wsX60 ++ wsX20 ++ wsX50 ++ wsX00)
def wsX6_base_r1 : List Cond := [Cond.constant RX6 61 (-2000000001), Cond.methodLink RX6 73 yX6_isReading, Cond.static yX6_isReading, Cond.initialized RX6, Cond.code yX6_isReading cX6_isReading 3 (some .boolean), Cond.constant RX6 172 (50000), Cond.constant RX6 235 (110000), Cond.methodLink RX6 151 yX6_isTime, Cond.static yX6_isTime, Cond.code yX6_isTime cX6_isTime 1 (some .boolean), Cond.methodLink RX6 105 yX6_within, Cond.static yX6_within, Cond.code yX6_within cX6_within 3 (some .boolean), Cond.methodLink RX6 167 yX6_isTemperature, Cond.static yX6_isTemperature, Cond.code yX6_isTemperature cX6_isTemperature 1 (some .boolean), Cond.methodLink RX6 77 yX6_take, Cond.instanceMethod yX6_take, Cond.selects RX6 yX6_take yX6_take, Cond.code yX6_take cX6_take 7 (some .int), Cond.fieldLink RX6 10 "BaroRuns" "now" "LBaroRuns$State;", Cond.constant RX6 146 (-2000000002), Cond.constant RX6 214 (-2000000003), Cond.methodLink RX6 91 yX2_track]
def wsX6_base_r2 : List Cond := [Cond.instanceMethod yX2_track, Cond.selects RX2 yX2_track yX2_track, Cond.initialized RX2, Cond.code yX2_track cX2_track 2 (some (.object "BaroRuns$Track")), Cond.fieldLink RX2 20 "BaroRuns$State" "firstTrack" "LBaroRuns$Track;", Cond.fieldLink RX2 23 "BaroRuns$State" "secondTrack" "LBaroRuns$Track;", Cond.fieldLink RX2 26 "BaroRuns$State" "thirdTrack" "LBaroRuns$Track;", Cond.fieldLink RX2 14 "BaroRuns$State" "baseTrack" "LBaroRuns$Track;", Cond.methodLink RX6 243 yX5_hasTime, Cond.instanceMethod yX5_hasTime, Cond.selects RX5 yX5_hasTime yX5_hasTime, Cond.initialized RX5, Cond.code yX5_hasTime cX5_hasTime 3 (some .boolean), Cond.fieldLink RX5 29 "BaroRuns$Track" "size" "I", Cond.methodLink RX5 32 yX5_value, Cond.instanceMethod yX5_value, Cond.selects RX5 yX5_value yX5_value, Cond.code yX5_value cX5_value 3 (some .int), Cond.fieldLink RX5 9 "BaroRuns$Track" "values" "[I", Cond.static yX6_at, Cond.code yX6_at cX6_at 2 (some .int), Cond.methodLink RX6 246 yX5_isFull, Cond.instanceMethod yX5_isFull, Cond.selects RX5 yX5_isFull yX5_isFull]
def wsX6_base_r3 : List Cond := [Cond.code yX5_isFull cX5_isFull 1 (some .boolean), Cond.fieldLink RX5 21 "BaroRuns$Track" "room" "I", Cond.methodLink RX6 62 yX6_record, Cond.instanceMethod yX6_record, Cond.selects RX6 yX6_record yX6_record, Cond.code yX6_record cX6_record 1 none, Cond.fieldLink RX6 22 "BaroRuns" "history" "LBaroRuns$History;", Cond.fieldLink RX6 53 "BaroRuns" "stale" "Z", Cond.methodLink RX6 240 yX0_keep, Cond.instanceMethod yX0_keep, Cond.selects RX0 yX0_keep yX0_keep, Cond.initialized RX0, Cond.code yX0_keep cX0_keep 3 none, Cond.fieldLink RX0 18 "BaroRuns$History" "size" "I", Cond.fieldLink RX0 22 "BaroRuns$History" "oldest" "I", Cond.methodLink RX0 25 yX0_place, Cond.instanceMethod yX0_place, Cond.selects RX0 yX0_place yX0_place, Cond.code yX0_place cX0_place 3 (some (.object "BaroRuns$State")), Cond.fieldLink RX0 11 "BaroRuns$History" "places" "[LBaroRuns$State;", Cond.methodLink RX0 29 yX2_copyFrom, Cond.instanceMethod yX2_copyFrom, Cond.selects RX2 yX2_copyFrom yX2_copyFrom, Cond.code yX2_copyFrom cX2_copyFrom 2 none]
def wsX6_base_r4 : List Cond := [Cond.fieldLink RX2 29 "BaroRuns$State" "baseHeight" "I", Cond.fieldLink RX2 33 "BaroRuns$State" "gustLimit" "I", Cond.fieldLink RX2 36 "BaroRuns$State" "stepLimit" "I", Cond.methodLink RX2 39 yX5_copyFrom, Cond.instanceMethod yX5_copyFrom, Cond.selects RX5 yX5_copyFrom yX5_copyFrom, Cond.code yX5_copyFrom cX5_copyFrom 2 none, Cond.methodLink RX5 15 Lib.Math.min.name, Cond.static Lib.Math.min.name, Cond.initialized "java/lang/Math", Cond.code Lib.Math.min.name Lib.Math.min.code 2 (some .int), Cond.methodLink RX5 43 arraycopyName, Cond.native arraycopyName, Cond.static arraycopyName, Cond.initialized "java/lang/System", Cond.methodLink RX6 250 yX5_insert, Cond.instanceMethod yX5_insert, Cond.selects RX5 yX5_insert yX5_insert, Cond.code yX5_insert cX5_insert 7 (some .int), Cond.methodLink RX5 35 yX5_move, Cond.instanceMethod yX5_move, Cond.selects RX5 yX5_move yX5_move, Cond.code yX5_move cX5_move 4 none, Cond.static yX6_put]
def wsX6_base_r5 : List Cond := [Cond.code yX6_put cX6_put 3 none]
def wsX6_base : List Cond := .code yX6_base cX6_base 4 (some .int) :: ((wsX6_base_r1 ++ (wsX6_base_r2 ++ (wsX6_base_r3 ++ (wsX6_base_r4 ++ wsX6_base_r5)))) ++ wsX60 ++ wsX20 ++ wsX50 ++ wsX00)
def wsX6_isCell : List Cond := .code yX6_isCell cX6_isCell 1 (some .boolean) :: ([.methodLink RX6 105 yX6_within, .static yX6_within, .initialized RX6, .code yX6_within cX6_within 3 (some .boolean)])
def wsX6_isPoint : List Cond := .code yX6_isPoint cX6_isPoint 1 (some .boolean) :: ([.methodLink RX6 105 yX6_within, .static yX6_within, .initialized RX6, .code yX6_within cX6_within 3 (some .boolean)])
def wsX6_read_r1 : List Cond := [Cond.constant RX6 61 (-2000000001), Cond.methodLink RX6 81 yX6_isCell, Cond.static yX6_isCell, Cond.initialized RX6, Cond.code yX6_isCell cX6_isCell 1 (some .boolean), Cond.methodLink RX6 105 yX6_within, Cond.static yX6_within, Cond.code yX6_within cX6_within 3 (some .boolean), Cond.methodLink RX6 85 yX6_isPoint, Cond.static yX6_isPoint, Cond.code yX6_isPoint cX6_isPoint 1 (some .boolean), Cond.methodLink RX6 73 yX6_isReading, Cond.static yX6_isReading, Cond.code yX6_isReading cX6_isReading 3 (some .boolean), Cond.constant RX6 172 (50000), Cond.constant RX6 235 (110000), Cond.methodLink RX6 151 yX6_isTime, Cond.static yX6_isTime, Cond.code yX6_isTime cX6_isTime 1 (some .boolean), Cond.methodLink RX6 167 yX6_isTemperature, Cond.static yX6_isTemperature, Cond.code yX6_isTemperature cX6_isTemperature 1 (some .boolean), Cond.methodLink RX6 77 yX6_take, Cond.instanceMethod yX6_take]
def wsX6_read_r2 : List Cond := [Cond.selects RX6 yX6_take yX6_take, Cond.code yX6_take cX6_take 7 (some .int), Cond.fieldLink RX6 10 "BaroRuns" "now" "LBaroRuns$State;", Cond.constant RX6 146 (-2000000002), Cond.constant RX6 214 (-2000000003), Cond.methodLink RX6 91 yX2_track, Cond.instanceMethod yX2_track, Cond.selects RX2 yX2_track yX2_track, Cond.initialized RX2, Cond.code yX2_track cX2_track 2 (some (.object "BaroRuns$Track")), Cond.fieldLink RX2 20 "BaroRuns$State" "firstTrack" "LBaroRuns$Track;", Cond.fieldLink RX2 23 "BaroRuns$State" "secondTrack" "LBaroRuns$Track;", Cond.fieldLink RX2 26 "BaroRuns$State" "thirdTrack" "LBaroRuns$Track;", Cond.fieldLink RX2 14 "BaroRuns$State" "baseTrack" "LBaroRuns$Track;", Cond.methodLink RX6 243 yX5_hasTime, Cond.instanceMethod yX5_hasTime, Cond.selects RX5 yX5_hasTime yX5_hasTime, Cond.initialized RX5, Cond.code yX5_hasTime cX5_hasTime 3 (some .boolean), Cond.fieldLink RX5 29 "BaroRuns$Track" "size" "I", Cond.methodLink RX5 32 yX5_value, Cond.instanceMethod yX5_value, Cond.selects RX5 yX5_value yX5_value, Cond.code yX5_value cX5_value 3 (some .int)]
def wsX6_read_r3 : List Cond := [Cond.fieldLink RX5 9 "BaroRuns$Track" "values" "[I", Cond.static yX6_at, Cond.code yX6_at cX6_at 2 (some .int), Cond.methodLink RX6 246 yX5_isFull, Cond.instanceMethod yX5_isFull, Cond.selects RX5 yX5_isFull yX5_isFull, Cond.code yX5_isFull cX5_isFull 1 (some .boolean), Cond.fieldLink RX5 21 "BaroRuns$Track" "room" "I", Cond.methodLink RX6 62 yX6_record, Cond.instanceMethod yX6_record, Cond.selects RX6 yX6_record yX6_record, Cond.code yX6_record cX6_record 1 none, Cond.fieldLink RX6 22 "BaroRuns" "history" "LBaroRuns$History;", Cond.fieldLink RX6 53 "BaroRuns" "stale" "Z", Cond.methodLink RX6 240 yX0_keep, Cond.instanceMethod yX0_keep, Cond.selects RX0 yX0_keep yX0_keep, Cond.initialized RX0, Cond.code yX0_keep cX0_keep 3 none, Cond.fieldLink RX0 18 "BaroRuns$History" "size" "I", Cond.fieldLink RX0 22 "BaroRuns$History" "oldest" "I", Cond.methodLink RX0 25 yX0_place, Cond.instanceMethod yX0_place, Cond.selects RX0 yX0_place yX0_place]
def wsX6_read_r4 : List Cond := [Cond.code yX0_place cX0_place 3 (some (.object "BaroRuns$State")), Cond.fieldLink RX0 11 "BaroRuns$History" "places" "[LBaroRuns$State;", Cond.methodLink RX0 29 yX2_copyFrom, Cond.instanceMethod yX2_copyFrom, Cond.selects RX2 yX2_copyFrom yX2_copyFrom, Cond.code yX2_copyFrom cX2_copyFrom 2 none, Cond.fieldLink RX2 29 "BaroRuns$State" "baseHeight" "I", Cond.fieldLink RX2 33 "BaroRuns$State" "gustLimit" "I", Cond.fieldLink RX2 36 "BaroRuns$State" "stepLimit" "I", Cond.methodLink RX2 39 yX5_copyFrom, Cond.instanceMethod yX5_copyFrom, Cond.selects RX5 yX5_copyFrom yX5_copyFrom, Cond.code yX5_copyFrom cX5_copyFrom 2 none, Cond.methodLink RX5 15 Lib.Math.min.name, Cond.static Lib.Math.min.name, Cond.initialized "java/lang/Math", Cond.code Lib.Math.min.name Lib.Math.min.code 2 (some .int), Cond.methodLink RX5 43 arraycopyName, Cond.native arraycopyName, Cond.static arraycopyName, Cond.initialized "java/lang/System", Cond.methodLink RX6 250 yX5_insert, Cond.instanceMethod yX5_insert, Cond.selects RX5 yX5_insert yX5_insert]
def wsX6_read_r5 : List Cond := [Cond.code yX5_insert cX5_insert 7 (some .int), Cond.methodLink RX5 35 yX5_move, Cond.instanceMethod yX5_move, Cond.selects RX5 yX5_move yX5_move, Cond.code yX5_move cX5_move 4 none, Cond.static yX6_put, Cond.code yX6_put cX6_put 3 none]
def wsX6_read : List Cond := .code yX6_read cX6_read 6 (some .int) :: ((wsX6_read_r1 ++ (wsX6_read_r2 ++ (wsX6_read_r3 ++ (wsX6_read_r4 ++ wsX6_read_r5)))) ++ wsX60 ++ wsX20 ++ wsX50 ++ wsX00)
def wsX6_isReadingOf : List Cond := .code yX6_isReadingOf cX6_isReadingOf 3 (some .boolean) :: ([.fieldLink RX6 10 "BaroRuns" "now" "LBaroRuns$State;", .methodLink RX6 81 yX6_isCell, .static yX6_isCell, .initialized RX6, .code yX6_isCell cX6_isCell 1 (some .boolean), .methodLink RX6 105 yX6_within, .static yX6_within, .code yX6_within cX6_within 3 (some .boolean), .methodLink RX6 91 yX2_track, .instanceMethod yX2_track, .selects RX2 yX2_track yX2_track, .initialized RX2, .code yX2_track cX2_track 2 (some (.object "BaroRuns$Track")), .fieldLink RX2 20 "BaroRuns$State" "firstTrack" "LBaroRuns$Track;", .fieldLink RX2 23 "BaroRuns$State" "secondTrack" "LBaroRuns$Track;", .fieldLink RX2 26 "BaroRuns$State" "thirdTrack" "LBaroRuns$Track;", .fieldLink RX2 14 "BaroRuns$State" "baseTrack" "LBaroRuns$Track;"] ++ wsX60 ++ wsX50 ++ wsX20)
def wsX6_drop_r1 : List Cond := [Cond.constant RX6 61 (-2000000001), Cond.fieldLink RX6 10 "BaroRuns" "now" "LBaroRuns$State;", Cond.methodLink RX6 88 yX6_isReadingOf, Cond.instanceMethod yX6_isReadingOf, Cond.selects RX6 yX6_isReadingOf yX6_isReadingOf, Cond.initialized RX6, Cond.code yX6_isReadingOf cX6_isReadingOf 3 (some .boolean), Cond.methodLink RX6 81 yX6_isCell, Cond.static yX6_isCell, Cond.code yX6_isCell cX6_isCell 1 (some .boolean), Cond.methodLink RX6 105 yX6_within, Cond.static yX6_within, Cond.code yX6_within cX6_within 3 (some .boolean), Cond.methodLink RX6 91 yX2_track, Cond.instanceMethod yX2_track, Cond.selects RX2 yX2_track yX2_track, Cond.initialized RX2, Cond.code yX2_track cX2_track 2 (some (.object "BaroRuns$Track")), Cond.fieldLink RX2 20 "BaroRuns$State" "firstTrack" "LBaroRuns$Track;", Cond.fieldLink RX2 23 "BaroRuns$State" "secondTrack" "LBaroRuns$Track;", Cond.fieldLink RX2 26 "BaroRuns$State" "thirdTrack" "LBaroRuns$Track;", Cond.fieldLink RX2 14 "BaroRuns$State" "baseTrack" "LBaroRuns$Track;", Cond.methodLink RX6 62 yX6_record, Cond.instanceMethod yX6_record]
def wsX6_drop_r2 : List Cond := [Cond.selects RX6 yX6_record yX6_record, Cond.code yX6_record cX6_record 1 none, Cond.fieldLink RX6 22 "BaroRuns" "history" "LBaroRuns$History;", Cond.fieldLink RX6 53 "BaroRuns" "stale" "Z", Cond.methodLink RX6 240 yX0_keep, Cond.instanceMethod yX0_keep, Cond.selects RX0 yX0_keep yX0_keep, Cond.initialized RX0, Cond.code yX0_keep cX0_keep 3 none, Cond.fieldLink RX0 18 "BaroRuns$History" "size" "I", Cond.fieldLink RX0 22 "BaroRuns$History" "oldest" "I", Cond.methodLink RX0 25 yX0_place, Cond.instanceMethod yX0_place, Cond.selects RX0 yX0_place yX0_place, Cond.code yX0_place cX0_place 3 (some (.object "BaroRuns$State")), Cond.fieldLink RX0 11 "BaroRuns$History" "places" "[LBaroRuns$State;", Cond.methodLink RX0 29 yX2_copyFrom, Cond.instanceMethod yX2_copyFrom, Cond.selects RX2 yX2_copyFrom yX2_copyFrom, Cond.code yX2_copyFrom cX2_copyFrom 2 none, Cond.fieldLink RX2 29 "BaroRuns$State" "baseHeight" "I", Cond.fieldLink RX2 33 "BaroRuns$State" "gustLimit" "I", Cond.fieldLink RX2 36 "BaroRuns$State" "stepLimit" "I", Cond.methodLink RX2 39 yX5_copyFrom]
def wsX6_drop_r3 : List Cond := [Cond.instanceMethod yX5_copyFrom, Cond.selects RX5 yX5_copyFrom yX5_copyFrom, Cond.initialized RX5, Cond.code yX5_copyFrom cX5_copyFrom 2 none, Cond.fieldLink RX5 9 "BaroRuns$Track" "values" "[I", Cond.methodLink RX5 15 Lib.Math.min.name, Cond.static Lib.Math.min.name, Cond.initialized "java/lang/Math", Cond.code Lib.Math.min.name Lib.Math.min.code 2 (some .int), Cond.methodLink RX5 43 arraycopyName, Cond.native arraycopyName, Cond.static arraycopyName, Cond.initialized "java/lang/System", Cond.fieldLink RX5 29 "BaroRuns$Track" "size" "I", Cond.methodLink RX6 95 yX5_remove, Cond.instanceMethod yX5_remove, Cond.selects RX5 yX5_remove yX5_remove, Cond.code yX5_remove cX5_remove 3 none, Cond.methodLink RX5 35 yX5_move, Cond.instanceMethod yX5_move, Cond.selects RX5 yX5_move yX5_move, Cond.code yX5_move cX5_move 4 none, Cond.methodLink RX5 32 yX5_value, Cond.instanceMethod yX5_value]
def wsX6_drop_r4 : List Cond := [Cond.selects RX5 yX5_value yX5_value, Cond.code yX5_value cX5_value 3 (some .int), Cond.static yX6_at, Cond.code yX6_at cX6_at 2 (some .int), Cond.static yX6_put, Cond.code yX6_put cX6_put 3 none]
def wsX6_drop : List Cond := .code yX6_drop cX6_drop 4 (some .int) :: ((wsX6_drop_r1 ++ (wsX6_drop_r2 ++ (wsX6_drop_r3 ++ wsX6_drop_r4))) ++ wsX60 ++ wsX50 ++ wsX20 ++ wsX00)
def wsX6_refresh_r1 : List Cond := [Cond.fieldLink RX6 53 "BaroRuns" "stale" "Z", Cond.fieldLink RX6 29 "BaroRuns" "firstSurvey" "LBaroRuns$Survey;", Cond.fieldLink RX6 10 "BaroRuns" "now" "LBaroRuns$State;", Cond.fieldLink RX6 33 "BaroRuns" "secondSurvey" "LBaroRuns$Survey;", Cond.fieldLink RX6 36 "BaroRuns" "thirdSurvey" "LBaroRuns$Survey;", Cond.methodLink RX6 257 yX3_workOut, Cond.instanceMethod yX3_workOut, Cond.selects RX3 yX3_workOut yX3_workOut, Cond.initialized RX3, Cond.code yX3_workOut cX3_workOut 8 none, Cond.fieldLink RX3 48 "BaroRuns$Survey" "size" "I", Cond.fieldLink RX3 9 "BaroRuns$Survey" "times" "[I", Cond.fieldLink RX3 15 "BaroRuns$Survey" "points" "[I", Cond.fieldLink RX3 18 "BaroRuns$Survey" "heights" "[I", Cond.fieldLink RX3 21 "BaroRuns$Survey" "gusts" "[I", Cond.fieldLink RX3 24 "BaroRuns$Survey" "openLoops" "[I", Cond.fieldLink RX3 27 "BaroRuns$Survey" "correctedHeights" "[I", Cond.methodLink RX3 36 yX2_track, Cond.instanceMethod yX2_track, Cond.selects RX2 yX2_track yX2_track, Cond.initialized RX2, Cond.code yX2_track cX2_track 2 (some (.object "BaroRuns$Track")), Cond.fieldLink RX2 20 "BaroRuns$State" "firstTrack" "LBaroRuns$Track;", Cond.fieldLink RX2 23 "BaroRuns$State" "secondTrack" "LBaroRuns$Track;"]
def wsX6_refresh_r2 : List Cond := [Cond.fieldLink RX2 26 "BaroRuns$State" "thirdTrack" "LBaroRuns$Track;", Cond.fieldLink RX2 14 "BaroRuns$State" "baseTrack" "LBaroRuns$Track;", Cond.methodLink RX3 49 yX5_value, Cond.instanceMethod yX5_value, Cond.selects RX5 yX5_value yX5_value, Cond.initialized RX5, Cond.code yX5_value cX5_value 3 (some .int), Cond.fieldLink RX5 9 "BaroRuns$Track" "values" "[I", Cond.static yX6_at, Cond.initialized RX6, Cond.code yX6_at cX6_at 2 (some .int), Cond.static yX6_put, Cond.code yX6_put cX6_put 3 none, Cond.methodLink RX3 57 yX2_heightAt, Cond.instanceMethod yX2_heightAt, Cond.selects RX2 yX2_heightAt yX2_heightAt, Cond.code yX2_heightAt cX2_heightAt 12 (some .int), Cond.constant RX2 50 (-2000000004), Cond.constantLong RX2 63 (2930), Cond.fieldLink RX2 29 "BaroRuns$State" "baseHeight" "I", Cond.methodLink RX2 55 yX2_baseValue, Cond.instanceMethod yX2_baseValue, Cond.selects RX2 yX2_baseValue yX2_baseValue, Cond.code yX2_baseValue cX2_baseValue 10 (some .int)]
def wsX6_refresh_r3 : List Cond := [Cond.methodLink RX2 46 yX5_value, Cond.static yX6_divideDown, Cond.code yX6_divideDown cX6_divideDown 4 (some .long), Cond.methodLink RX6 236 yJ9_floorDiv_f86c9, Cond.static yJ9_floorDiv_f86c9, Cond.initialized RJ9, Cond.code yJ9_floorDiv_f86c9 cJ9_floorDiv_f86c9 6 (some .long), Cond.methodLink RX2 58 yJ9_floorDiv_7cf53, Cond.static yJ9_floorDiv_7cf53, Cond.code yJ9_floorDiv_7cf53 cJ9_floorDiv_7cf53 3 (some .int), Cond.methodLink RX3 64 yX5_standsOut, Cond.instanceMethod yX5_standsOut, Cond.selects RX5 yX5_standsOut yX5_standsOut, Cond.code yX5_standsOut cX5_standsOut 6 (some .boolean), Cond.fieldLink RX5 29 "BaroRuns$Track" "size" "I", Cond.methodLink RX5 32 yX5_value, Cond.methodLink RX3 68 yX3_countKinds, Cond.instanceMethod yX3_countKinds, Cond.selects RX3 yX3_countKinds yX3_countKinds, Cond.code yX3_countKinds cX3_countKinds 2 none, Cond.fieldLink RX3 114 "BaroRuns$Survey" "gustCount" "I", Cond.fieldLink RX3 117 "BaroRuns$Survey" "goodCount" "I", Cond.methodLink RX3 120 yX3_isGust, Cond.instanceMethod yX3_isGust]
def wsX6_refresh_r4 : List Cond := [Cond.selects RX3 yX3_isGust yX3_isGust, Cond.code yX3_isGust cX3_isGust 2 (some .boolean), Cond.methodLink RX3 95 yX3_isGood, Cond.instanceMethod yX3_isGood, Cond.selects RX3 yX3_isGood yX3_isGood, Cond.code yX3_isGood cX3_isGood 2 (some .boolean), Cond.constant RX3 85 (-2000000004), Cond.methodLink RX3 71 yX3_findLoops, Cond.instanceMethod yX3_findLoops, Cond.selects RX3 yX3_findLoops yX3_findLoops, Cond.code yX3_findLoops cX3_findLoops 3 none, Cond.fieldLink RX3 123 "BaroRuns$Survey" "loopCount" "I", Cond.fieldLink RX3 30 "BaroRuns$Survey" "begins" "[I", Cond.fieldLink RX3 33 "BaroRuns$Survey" "ends" "[I", Cond.methodLink RX3 126 yX3_lastVisit, Cond.instanceMethod yX3_lastVisit, Cond.selects RX3 yX3_lastVisit yX3_lastVisit, Cond.code yX3_lastVisit cX3_lastVisit 4 (some .int), Cond.methodLink RX3 74 yX3_shortestLoop, Cond.instanceMethod yX3_shortestLoop, Cond.selects RX3 yX3_shortestLoop yX3_shortestLoop, Cond.code yX3_shortestLoop cX3_shortestLoop 5 (some .int), Cond.methodLink RX3 89 yX3_begin, Cond.instanceMethod yX3_begin]
def wsX6_refresh_r5 : List Cond := [Cond.selects RX3 yX3_begin yX3_begin, Cond.code yX3_begin cX3_begin 2 (some .int), Cond.methodLink RX3 86 yX3_end, Cond.instanceMethod yX3_end, Cond.selects RX3 yX3_end yX3_end, Cond.code yX3_end cX3_end 2 (some .int), Cond.methodLink RX3 129 yX3_minutes, Cond.instanceMethod yX3_minutes, Cond.selects RX3 yX3_minutes yX3_minutes, Cond.code yX3_minutes cX3_minutes 2 (some .int), Cond.methodLink RX3 78 yX3_withoutDrift, Cond.instanceMethod yX3_withoutDrift, Cond.selects RX3 yX3_withoutDrift yX3_withoutDrift, Cond.code yX3_withoutDrift cX3_withoutDrift 5 (some .int), Cond.methodLink RX3 111 yX3_openLoopOf, Cond.instanceMethod yX3_openLoopOf, Cond.selects RX3 yX3_openLoopOf yX3_openLoopOf, Cond.code yX3_openLoopOf cX3_openLoopOf 2 (some .int), Cond.methodLink RX3 92 yX3_rawHeight, Cond.instanceMethod yX3_rawHeight, Cond.selects RX3 yX3_rawHeight yX3_rawHeight, Cond.code yX3_rawHeight cX3_rawHeight 2 (some .int), Cond.methodLink RX3 132 yX3_misclosure, Cond.instanceMethod yX3_misclosure]
def wsX6_refresh_r6 : List Cond := [Cond.selects RX3 yX3_misclosure yX3_misclosure, Cond.code yX3_misclosure cX3_misclosure 2 (some .int)]
def wsX6_refresh : List Cond := .code yX6_refresh cX6_refresh 1 none :: ((wsX6_refresh_r1 ++ (wsX6_refresh_r2 ++ (wsX6_refresh_r3 ++ (wsX6_refresh_r4 ++ (wsX6_refresh_r5 ++ wsX6_refresh_r6))))) ++ wsX60 ++ wsX50 ++ wsX30 ++ wsX20)
def wsX6_surveyOf : List Cond := .code yX6_surveyOf cX6_surveyOf 2 (some (.object "BaroRuns$Survey")) :: ([.fieldLink RX6 29 "BaroRuns" "firstSurvey" "LBaroRuns$Survey;", .fieldLink RX6 33 "BaroRuns" "secondSurvey" "LBaroRuns$Survey;", .fieldLink RX6 36 "BaroRuns" "thirdSurvey" "LBaroRuns$Survey;"] ++ wsX60)
def wsX6_reading_r1 : List Cond := [Cond.constant RX6 61 (-2000000001), Cond.constant RX6 108 (-2000000004), Cond.fieldLink RX6 10 "BaroRuns" "now" "LBaroRuns$State;", Cond.methodLink RX6 88 yX6_isReadingOf, Cond.instanceMethod yX6_isReadingOf, Cond.selects RX6 yX6_isReadingOf yX6_isReadingOf, Cond.initialized RX6, Cond.code yX6_isReadingOf cX6_isReadingOf 3 (some .boolean), Cond.methodLink RX6 81 yX6_isCell, Cond.static yX6_isCell, Cond.code yX6_isCell cX6_isCell 1 (some .boolean), Cond.methodLink RX6 105 yX6_within, Cond.static yX6_within, Cond.code yX6_within cX6_within 3 (some .boolean), Cond.methodLink RX6 91 yX2_track, Cond.instanceMethod yX2_track, Cond.selects RX2 yX2_track yX2_track, Cond.initialized RX2, Cond.code yX2_track cX2_track 2 (some (.object "BaroRuns$Track")), Cond.fieldLink RX2 20 "BaroRuns$State" "firstTrack" "LBaroRuns$Track;", Cond.fieldLink RX2 23 "BaroRuns$State" "secondTrack" "LBaroRuns$Track;", Cond.fieldLink RX2 26 "BaroRuns$State" "thirdTrack" "LBaroRuns$Track;", Cond.fieldLink RX2 14 "BaroRuns$State" "baseTrack" "LBaroRuns$Track;", Cond.methodLink RX6 109 yX6_refresh]
def wsX6_reading_r2 : List Cond := [Cond.instanceMethod yX6_refresh, Cond.selects RX6 yX6_refresh yX6_refresh, Cond.code yX6_refresh cX6_refresh 1 none, Cond.fieldLink RX6 53 "BaroRuns" "stale" "Z", Cond.fieldLink RX6 29 "BaroRuns" "firstSurvey" "LBaroRuns$Survey;", Cond.fieldLink RX6 33 "BaroRuns" "secondSurvey" "LBaroRuns$Survey;", Cond.fieldLink RX6 36 "BaroRuns" "thirdSurvey" "LBaroRuns$Survey;", Cond.methodLink RX6 257 yX3_workOut, Cond.instanceMethod yX3_workOut, Cond.selects RX3 yX3_workOut yX3_workOut, Cond.initialized RX3, Cond.code yX3_workOut cX3_workOut 8 none, Cond.fieldLink RX3 48 "BaroRuns$Survey" "size" "I", Cond.fieldLink RX3 9 "BaroRuns$Survey" "times" "[I", Cond.fieldLink RX3 15 "BaroRuns$Survey" "points" "[I", Cond.fieldLink RX3 18 "BaroRuns$Survey" "heights" "[I", Cond.fieldLink RX3 21 "BaroRuns$Survey" "gusts" "[I", Cond.fieldLink RX3 24 "BaroRuns$Survey" "openLoops" "[I", Cond.fieldLink RX3 27 "BaroRuns$Survey" "correctedHeights" "[I", Cond.methodLink RX3 36 yX2_track, Cond.methodLink RX3 49 yX5_value, Cond.instanceMethod yX5_value, Cond.selects RX5 yX5_value yX5_value, Cond.initialized RX5]
def wsX6_reading_r3 : List Cond := [Cond.code yX5_value cX5_value 3 (some .int), Cond.fieldLink RX5 9 "BaroRuns$Track" "values" "[I", Cond.static yX6_at, Cond.code yX6_at cX6_at 2 (some .int), Cond.static yX6_put, Cond.code yX6_put cX6_put 3 none, Cond.methodLink RX3 57 yX2_heightAt, Cond.instanceMethod yX2_heightAt, Cond.selects RX2 yX2_heightAt yX2_heightAt, Cond.code yX2_heightAt cX2_heightAt 12 (some .int), Cond.constant RX2 50 (-2000000004), Cond.constantLong RX2 63 (2930), Cond.fieldLink RX2 29 "BaroRuns$State" "baseHeight" "I", Cond.methodLink RX2 55 yX2_baseValue, Cond.instanceMethod yX2_baseValue, Cond.selects RX2 yX2_baseValue yX2_baseValue, Cond.code yX2_baseValue cX2_baseValue 10 (some .int), Cond.methodLink RX2 46 yX5_value, Cond.static yX6_divideDown, Cond.code yX6_divideDown cX6_divideDown 4 (some .long), Cond.methodLink RX6 236 yJ9_floorDiv_f86c9, Cond.static yJ9_floorDiv_f86c9, Cond.initialized RJ9, Cond.code yJ9_floorDiv_f86c9 cJ9_floorDiv_f86c9 6 (some .long)]
def wsX6_reading_r4 : List Cond := [Cond.methodLink RX2 58 yJ9_floorDiv_7cf53, Cond.static yJ9_floorDiv_7cf53, Cond.code yJ9_floorDiv_7cf53 cJ9_floorDiv_7cf53 3 (some .int), Cond.methodLink RX3 64 yX5_standsOut, Cond.instanceMethod yX5_standsOut, Cond.selects RX5 yX5_standsOut yX5_standsOut, Cond.code yX5_standsOut cX5_standsOut 6 (some .boolean), Cond.fieldLink RX5 29 "BaroRuns$Track" "size" "I", Cond.methodLink RX5 32 yX5_value, Cond.methodLink RX3 68 yX3_countKinds, Cond.instanceMethod yX3_countKinds, Cond.selects RX3 yX3_countKinds yX3_countKinds, Cond.code yX3_countKinds cX3_countKinds 2 none, Cond.fieldLink RX3 114 "BaroRuns$Survey" "gustCount" "I", Cond.fieldLink RX3 117 "BaroRuns$Survey" "goodCount" "I", Cond.methodLink RX3 120 yX3_isGust, Cond.instanceMethod yX3_isGust, Cond.selects RX3 yX3_isGust yX3_isGust, Cond.code yX3_isGust cX3_isGust 2 (some .boolean), Cond.methodLink RX3 95 yX3_isGood, Cond.instanceMethod yX3_isGood, Cond.selects RX3 yX3_isGood yX3_isGood, Cond.code yX3_isGood cX3_isGood 2 (some .boolean), Cond.constant RX3 85 (-2000000004)]
def wsX6_reading_r5 : List Cond := [Cond.methodLink RX3 71 yX3_findLoops, Cond.instanceMethod yX3_findLoops, Cond.selects RX3 yX3_findLoops yX3_findLoops, Cond.code yX3_findLoops cX3_findLoops 3 none, Cond.fieldLink RX3 123 "BaroRuns$Survey" "loopCount" "I", Cond.fieldLink RX3 30 "BaroRuns$Survey" "begins" "[I", Cond.fieldLink RX3 33 "BaroRuns$Survey" "ends" "[I", Cond.methodLink RX3 126 yX3_lastVisit, Cond.instanceMethod yX3_lastVisit, Cond.selects RX3 yX3_lastVisit yX3_lastVisit, Cond.code yX3_lastVisit cX3_lastVisit 4 (some .int), Cond.methodLink RX3 74 yX3_shortestLoop, Cond.instanceMethod yX3_shortestLoop, Cond.selects RX3 yX3_shortestLoop yX3_shortestLoop, Cond.code yX3_shortestLoop cX3_shortestLoop 5 (some .int), Cond.methodLink RX3 89 yX3_begin, Cond.instanceMethod yX3_begin, Cond.selects RX3 yX3_begin yX3_begin, Cond.code yX3_begin cX3_begin 2 (some .int), Cond.methodLink RX3 86 yX3_end, Cond.instanceMethod yX3_end, Cond.selects RX3 yX3_end yX3_end, Cond.code yX3_end cX3_end 2 (some .int), Cond.methodLink RX3 129 yX3_minutes]
def wsX6_reading_r6 : List Cond := [Cond.instanceMethod yX3_minutes, Cond.selects RX3 yX3_minutes yX3_minutes, Cond.code yX3_minutes cX3_minutes 2 (some .int), Cond.methodLink RX3 78 yX3_withoutDrift, Cond.instanceMethod yX3_withoutDrift, Cond.selects RX3 yX3_withoutDrift yX3_withoutDrift, Cond.code yX3_withoutDrift cX3_withoutDrift 5 (some .int), Cond.methodLink RX3 111 yX3_openLoopOf, Cond.instanceMethod yX3_openLoopOf, Cond.selects RX3 yX3_openLoopOf yX3_openLoopOf, Cond.code yX3_openLoopOf cX3_openLoopOf 2 (some .int), Cond.methodLink RX3 92 yX3_rawHeight, Cond.instanceMethod yX3_rawHeight, Cond.selects RX3 yX3_rawHeight yX3_rawHeight, Cond.code yX3_rawHeight cX3_rawHeight 2 (some .int), Cond.methodLink RX3 132 yX3_misclosure, Cond.instanceMethod yX3_misclosure, Cond.selects RX3 yX3_misclosure yX3_misclosure, Cond.code yX3_misclosure cX3_misclosure 2 (some .int), Cond.methodLink RX6 112 yX6_surveyOf, Cond.instanceMethod yX6_surveyOf, Cond.selects RX6 yX6_surveyOf yX6_surveyOf, Cond.code yX6_surveyOf cX6_surveyOf 2 (some (.object "BaroRuns$Survey")), Cond.methodLink RX6 116 yX3_isGust]
def wsX6_reading_r7 : List Cond := [Cond.methodLink RX6 119 yX3_isGood, Cond.methodLink RX6 122 yX5_value]
def wsX6_reading : List Cond := .code yX6_reading cX6_reading 4 (some .int) :: ((wsX6_reading_r1 ++ (wsX6_reading_r2 ++ (wsX6_reading_r3 ++ (wsX6_reading_r4 ++ (wsX6_reading_r5 ++ (wsX6_reading_r6 ++ wsX6_reading_r7)))))) ++ wsX60 ++ wsX50 ++ wsX20 ++ wsX30)
def wsX6_gather_r1 : List Cond := [Cond.fieldLink RX6 42 "BaroRuns" "pointSum" "LBaroRuns$PointSum;", Cond.methodLink RX6 261 yX1_clear, Cond.instanceMethod yX1_clear, Cond.selects RX1 yX1_clear yX1_clear, Cond.initialized RX1, Cond.code yX1_clear cX1_clear 1 none, Cond.fieldLink RX1 7 "BaroRuns$PointSum" "sum" "J", Cond.fieldLink RX1 13 "BaroRuns$PointSum" "number" "I", Cond.methodLink RX6 112 yX6_surveyOf, Cond.instanceMethod yX6_surveyOf, Cond.selects RX6 yX6_surveyOf yX6_surveyOf, Cond.initialized RX6, Cond.code yX6_surveyOf cX6_surveyOf 2 (some (.object "BaroRuns$Survey")), Cond.fieldLink RX6 29 "BaroRuns" "firstSurvey" "LBaroRuns$Survey;", Cond.fieldLink RX6 33 "BaroRuns" "secondSurvey" "LBaroRuns$Survey;", Cond.fieldLink RX6 36 "BaroRuns" "thirdSurvey" "LBaroRuns$Survey;", Cond.methodLink RX6 264 yX3_addTo, Cond.instanceMethod yX3_addTo, Cond.selects RX3 yX3_addTo yX3_addTo, Cond.initialized RX3, Cond.code yX3_addTo cX3_addTo 4 none, Cond.fieldLink RX3 48 "BaroRuns$Survey" "size" "I", Cond.fieldLink RX3 15 "BaroRuns$Survey" "points" "[I", Cond.methodLink RX3 95 yX3_isGood]
def wsX6_gather_r2 : List Cond := [Cond.instanceMethod yX3_isGood, Cond.selects RX3 yX3_isGood yX3_isGood, Cond.code yX3_isGood cX3_isGood 2 (some .boolean), Cond.fieldLink RX3 18 "BaroRuns$Survey" "heights" "[I", Cond.constant RX3 85 (-2000000004), Cond.fieldLink RX3 21 "BaroRuns$Survey" "gusts" "[I", Cond.static yX6_at, Cond.code yX6_at cX6_at 2 (some .int), Cond.methodLink RX3 99 yX3_endsOpenLoop, Cond.instanceMethod yX3_endsOpenLoop, Cond.selects RX3 yX3_endsOpenLoop yX3_endsOpenLoop, Cond.code yX3_endsOpenLoop cX3_endsOpenLoop 3 (some .boolean), Cond.methodLink RX3 111 yX3_openLoopOf, Cond.instanceMethod yX3_openLoopOf, Cond.selects RX3 yX3_openLoopOf yX3_openLoopOf, Cond.code yX3_openLoopOf cX3_openLoopOf 2 (some .int), Cond.fieldLink RX3 24 "BaroRuns$Survey" "openLoops" "[I", Cond.methodLink RX3 86 yX3_end, Cond.instanceMethod yX3_end, Cond.selects RX3 yX3_end yX3_end, Cond.code yX3_end cX3_end 2 (some .int), Cond.fieldLink RX3 33 "BaroRuns$Survey" "ends" "[I", Cond.methodLink RX3 102 yX3_correctedHeight, Cond.instanceMethod yX3_correctedHeight]
def wsX6_gather_r3 : List Cond := [Cond.selects RX3 yX3_correctedHeight yX3_correctedHeight, Cond.code yX3_correctedHeight cX3_correctedHeight 2 (some .int), Cond.fieldLink RX3 27 "BaroRuns$Survey" "correctedHeights" "[I", Cond.methodLink RX3 105 yX1_add, Cond.instanceMethod yX1_add, Cond.selects RX1 yX1_add yX1_add, Cond.code yX1_add cX1_add 2 none, Cond.fieldLink RX1 17 "BaroRuns$PointSum" "least" "I", Cond.methodLink RX1 20 Lib.Math.min.name, Cond.static Lib.Math.min.name, Cond.initialized "java/lang/Math", Cond.code Lib.Math.min.name Lib.Math.min.code 2 (some .int), Cond.fieldLink RX1 26 "BaroRuns$PointSum" "greatest" "I", Cond.methodLink RX1 29 Lib.Math.max.name, Cond.static Lib.Math.max.name, Cond.code Lib.Math.max.name Lib.Math.max.code 2 (some .int)]
def wsX6_gather : List Cond := .code yX6_gather cX6_gather 3 none :: ((wsX6_gather_r1 ++ (wsX6_gather_r2 ++ wsX6_gather_r3)) ++ wsX60 ++ wsX10 ++ wsX30)
def wsX6_pointsWithHeight_r1 : List Cond := [Cond.fieldLink RX6 42 "BaroRuns" "pointSum" "LBaroRuns$PointSum;", Cond.methodLink RX6 197 yX6_gather, Cond.instanceMethod yX6_gather, Cond.selects RX6 yX6_gather yX6_gather, Cond.initialized RX6, Cond.code yX6_gather cX6_gather 3 none, Cond.methodLink RX6 261 yX1_clear, Cond.instanceMethod yX1_clear, Cond.selects RX1 yX1_clear yX1_clear, Cond.initialized RX1, Cond.code yX1_clear cX1_clear 1 none, Cond.fieldLink RX1 7 "BaroRuns$PointSum" "sum" "J", Cond.fieldLink RX1 13 "BaroRuns$PointSum" "number" "I", Cond.methodLink RX6 112 yX6_surveyOf, Cond.instanceMethod yX6_surveyOf, Cond.selects RX6 yX6_surveyOf yX6_surveyOf, Cond.code yX6_surveyOf cX6_surveyOf 2 (some (.object "BaroRuns$Survey")), Cond.fieldLink RX6 29 "BaroRuns" "firstSurvey" "LBaroRuns$Survey;", Cond.fieldLink RX6 33 "BaroRuns" "secondSurvey" "LBaroRuns$Survey;", Cond.fieldLink RX6 36 "BaroRuns" "thirdSurvey" "LBaroRuns$Survey;", Cond.methodLink RX6 264 yX3_addTo, Cond.instanceMethod yX3_addTo, Cond.selects RX3 yX3_addTo yX3_addTo, Cond.initialized RX3]
def wsX6_pointsWithHeight_r2 : List Cond := [Cond.code yX3_addTo cX3_addTo 4 none, Cond.fieldLink RX3 48 "BaroRuns$Survey" "size" "I", Cond.fieldLink RX3 15 "BaroRuns$Survey" "points" "[I", Cond.methodLink RX3 95 yX3_isGood, Cond.instanceMethod yX3_isGood, Cond.selects RX3 yX3_isGood yX3_isGood, Cond.code yX3_isGood cX3_isGood 2 (some .boolean), Cond.fieldLink RX3 18 "BaroRuns$Survey" "heights" "[I", Cond.constant RX3 85 (-2000000004), Cond.fieldLink RX3 21 "BaroRuns$Survey" "gusts" "[I", Cond.static yX6_at, Cond.code yX6_at cX6_at 2 (some .int), Cond.methodLink RX3 99 yX3_endsOpenLoop, Cond.instanceMethod yX3_endsOpenLoop, Cond.selects RX3 yX3_endsOpenLoop yX3_endsOpenLoop, Cond.code yX3_endsOpenLoop cX3_endsOpenLoop 3 (some .boolean), Cond.methodLink RX3 111 yX3_openLoopOf, Cond.instanceMethod yX3_openLoopOf, Cond.selects RX3 yX3_openLoopOf yX3_openLoopOf, Cond.code yX3_openLoopOf cX3_openLoopOf 2 (some .int), Cond.fieldLink RX3 24 "BaroRuns$Survey" "openLoops" "[I", Cond.methodLink RX3 86 yX3_end, Cond.instanceMethod yX3_end, Cond.selects RX3 yX3_end yX3_end]
def wsX6_pointsWithHeight_r3 : List Cond := [Cond.code yX3_end cX3_end 2 (some .int), Cond.fieldLink RX3 33 "BaroRuns$Survey" "ends" "[I", Cond.methodLink RX3 102 yX3_correctedHeight, Cond.instanceMethod yX3_correctedHeight, Cond.selects RX3 yX3_correctedHeight yX3_correctedHeight, Cond.code yX3_correctedHeight cX3_correctedHeight 2 (some .int), Cond.fieldLink RX3 27 "BaroRuns$Survey" "correctedHeights" "[I", Cond.methodLink RX3 105 yX1_add, Cond.instanceMethod yX1_add, Cond.selects RX1 yX1_add yX1_add, Cond.code yX1_add cX1_add 2 none, Cond.fieldLink RX1 17 "BaroRuns$PointSum" "least" "I", Cond.methodLink RX1 20 Lib.Math.min.name, Cond.static Lib.Math.min.name, Cond.initialized "java/lang/Math", Cond.code Lib.Math.min.name Lib.Math.min.code 2 (some .int), Cond.fieldLink RX1 26 "BaroRuns$PointSum" "greatest" "I", Cond.methodLink RX1 29 Lib.Math.max.name, Cond.static Lib.Math.max.name, Cond.code Lib.Math.max.name Lib.Math.max.code 2 (some .int)]
def wsX6_pointsWithHeight : List Cond := .code yX6_pointsWithHeight cX6_pointsWithHeight 3 (some .int) :: ((wsX6_pointsWithHeight_r1 ++ (wsX6_pointsWithHeight_r2 ++ wsX6_pointsWithHeight_r3)) ++ wsX60 ++ wsX10 ++ wsX30)
def wsX6_count_r1 : List Cond := [Cond.fieldLink RX6 10 "BaroRuns" "now" "LBaroRuns$State;", Cond.fieldLink RX6 29 "BaroRuns" "firstSurvey" "LBaroRuns$Survey;", Cond.fieldLink RX6 33 "BaroRuns" "secondSurvey" "LBaroRuns$Survey;", Cond.fieldLink RX6 36 "BaroRuns" "thirdSurvey" "LBaroRuns$Survey;", Cond.fieldLink RX6 22 "BaroRuns" "history" "LBaroRuns$History;", Cond.fieldLink RX6 49 "BaroRuns" "text" "LBaroRuns$Text;", Cond.constant RX6 61 (-2000000001), Cond.methodLink RX6 109 yX6_refresh, Cond.instanceMethod yX6_refresh, Cond.selects RX6 yX6_refresh yX6_refresh, Cond.initialized RX6, Cond.code yX6_refresh cX6_refresh 1 none, Cond.fieldLink RX6 53 "BaroRuns" "stale" "Z", Cond.methodLink RX6 257 yX3_workOut, Cond.instanceMethod yX3_workOut, Cond.selects RX3 yX3_workOut yX3_workOut, Cond.initialized RX3, Cond.code yX3_workOut cX3_workOut 8 none, Cond.fieldLink RX3 48 "BaroRuns$Survey" "size" "I", Cond.fieldLink RX3 9 "BaroRuns$Survey" "times" "[I", Cond.fieldLink RX3 15 "BaroRuns$Survey" "points" "[I", Cond.fieldLink RX3 18 "BaroRuns$Survey" "heights" "[I", Cond.fieldLink RX3 21 "BaroRuns$Survey" "gusts" "[I", Cond.fieldLink RX3 24 "BaroRuns$Survey" "openLoops" "[I"]
def wsX6_count_r2 : List Cond := [Cond.fieldLink RX3 27 "BaroRuns$Survey" "correctedHeights" "[I", Cond.methodLink RX3 36 yX2_track, Cond.instanceMethod yX2_track, Cond.selects RX2 yX2_track yX2_track, Cond.initialized RX2, Cond.code yX2_track cX2_track 2 (some (.object "BaroRuns$Track")), Cond.fieldLink RX2 20 "BaroRuns$State" "firstTrack" "LBaroRuns$Track;", Cond.fieldLink RX2 23 "BaroRuns$State" "secondTrack" "LBaroRuns$Track;", Cond.fieldLink RX2 26 "BaroRuns$State" "thirdTrack" "LBaroRuns$Track;", Cond.fieldLink RX2 14 "BaroRuns$State" "baseTrack" "LBaroRuns$Track;", Cond.methodLink RX3 49 yX5_value, Cond.instanceMethod yX5_value, Cond.selects RX5 yX5_value yX5_value, Cond.initialized RX5, Cond.code yX5_value cX5_value 3 (some .int), Cond.fieldLink RX5 9 "BaroRuns$Track" "values" "[I", Cond.static yX6_at, Cond.code yX6_at cX6_at 2 (some .int), Cond.static yX6_put, Cond.code yX6_put cX6_put 3 none, Cond.methodLink RX3 57 yX2_heightAt, Cond.instanceMethod yX2_heightAt, Cond.selects RX2 yX2_heightAt yX2_heightAt, Cond.code yX2_heightAt cX2_heightAt 12 (some .int)]
def wsX6_count_r3 : List Cond := [Cond.constant RX2 50 (-2000000004), Cond.constantLong RX2 63 (2930), Cond.fieldLink RX2 29 "BaroRuns$State" "baseHeight" "I", Cond.methodLink RX2 55 yX2_baseValue, Cond.instanceMethod yX2_baseValue, Cond.selects RX2 yX2_baseValue yX2_baseValue, Cond.code yX2_baseValue cX2_baseValue 10 (some .int), Cond.methodLink RX2 46 yX5_value, Cond.static yX6_divideDown, Cond.code yX6_divideDown cX6_divideDown 4 (some .long), Cond.methodLink RX6 236 yJ9_floorDiv_f86c9, Cond.static yJ9_floorDiv_f86c9, Cond.initialized RJ9, Cond.code yJ9_floorDiv_f86c9 cJ9_floorDiv_f86c9 6 (some .long), Cond.methodLink RX2 58 yJ9_floorDiv_7cf53, Cond.static yJ9_floorDiv_7cf53, Cond.code yJ9_floorDiv_7cf53 cJ9_floorDiv_7cf53 3 (some .int), Cond.methodLink RX3 64 yX5_standsOut, Cond.instanceMethod yX5_standsOut, Cond.selects RX5 yX5_standsOut yX5_standsOut, Cond.code yX5_standsOut cX5_standsOut 6 (some .boolean), Cond.fieldLink RX5 29 "BaroRuns$Track" "size" "I", Cond.methodLink RX5 32 yX5_value, Cond.methodLink RX3 68 yX3_countKinds]
def wsX6_count_r4 : List Cond := [Cond.instanceMethod yX3_countKinds, Cond.selects RX3 yX3_countKinds yX3_countKinds, Cond.code yX3_countKinds cX3_countKinds 2 none, Cond.fieldLink RX3 114 "BaroRuns$Survey" "gustCount" "I", Cond.fieldLink RX3 117 "BaroRuns$Survey" "goodCount" "I", Cond.methodLink RX3 120 yX3_isGust, Cond.instanceMethod yX3_isGust, Cond.selects RX3 yX3_isGust yX3_isGust, Cond.code yX3_isGust cX3_isGust 2 (some .boolean), Cond.methodLink RX3 95 yX3_isGood, Cond.instanceMethod yX3_isGood, Cond.selects RX3 yX3_isGood yX3_isGood, Cond.code yX3_isGood cX3_isGood 2 (some .boolean), Cond.constant RX3 85 (-2000000004), Cond.methodLink RX3 71 yX3_findLoops, Cond.instanceMethod yX3_findLoops, Cond.selects RX3 yX3_findLoops yX3_findLoops, Cond.code yX3_findLoops cX3_findLoops 3 none, Cond.fieldLink RX3 123 "BaroRuns$Survey" "loopCount" "I", Cond.fieldLink RX3 30 "BaroRuns$Survey" "begins" "[I", Cond.fieldLink RX3 33 "BaroRuns$Survey" "ends" "[I", Cond.methodLink RX3 126 yX3_lastVisit, Cond.instanceMethod yX3_lastVisit, Cond.selects RX3 yX3_lastVisit yX3_lastVisit]
def wsX6_count_r5 : List Cond := [Cond.code yX3_lastVisit cX3_lastVisit 4 (some .int), Cond.methodLink RX3 74 yX3_shortestLoop, Cond.instanceMethod yX3_shortestLoop, Cond.selects RX3 yX3_shortestLoop yX3_shortestLoop, Cond.code yX3_shortestLoop cX3_shortestLoop 5 (some .int), Cond.methodLink RX3 89 yX3_begin, Cond.instanceMethod yX3_begin, Cond.selects RX3 yX3_begin yX3_begin, Cond.code yX3_begin cX3_begin 2 (some .int), Cond.methodLink RX3 86 yX3_end, Cond.instanceMethod yX3_end, Cond.selects RX3 yX3_end yX3_end, Cond.code yX3_end cX3_end 2 (some .int), Cond.methodLink RX3 129 yX3_minutes, Cond.instanceMethod yX3_minutes, Cond.selects RX3 yX3_minutes yX3_minutes, Cond.code yX3_minutes cX3_minutes 2 (some .int), Cond.methodLink RX3 78 yX3_withoutDrift, Cond.instanceMethod yX3_withoutDrift, Cond.selects RX3 yX3_withoutDrift yX3_withoutDrift, Cond.code yX3_withoutDrift cX3_withoutDrift 5 (some .int), Cond.methodLink RX3 111 yX3_openLoopOf, Cond.instanceMethod yX3_openLoopOf, Cond.selects RX3 yX3_openLoopOf yX3_openLoopOf]
def wsX6_count_r6 : List Cond := [Cond.code yX3_openLoopOf cX3_openLoopOf 2 (some .int), Cond.methodLink RX3 92 yX3_rawHeight, Cond.instanceMethod yX3_rawHeight, Cond.selects RX3 yX3_rawHeight yX3_rawHeight, Cond.code yX3_rawHeight cX3_rawHeight 2 (some .int), Cond.methodLink RX3 132 yX3_misclosure, Cond.instanceMethod yX3_misclosure, Cond.selects RX3 yX3_misclosure yX3_misclosure, Cond.code yX3_misclosure cX3_misclosure 2 (some .int), Cond.methodLink RX6 91 yX2_track, Cond.methodLink RX6 132 yX2_steps, Cond.instanceMethod yX2_steps, Cond.selects RX2 yX2_steps yX2_steps, Cond.code yX2_steps cX2_steps 3 (some .int), Cond.methodLink RX2 69 yX2_isStepEnd, Cond.instanceMethod yX2_isStepEnd, Cond.selects RX2 yX2_isStepEnd yX2_isStepEnd, Cond.code yX2_isStepEnd cX2_isStepEnd 3 (some .boolean), Cond.methodLink RX2 65 Lib.Math.abs.name, Cond.static Lib.Math.abs.name, Cond.initialized "java/lang/Math", Cond.code Lib.Math.abs.name Lib.Math.abs.code 1 (some .int), Cond.fieldLink RX2 36 "BaroRuns$State" "stepLimit" "I", Cond.methodLink RX6 136 yX6_pointsWithHeight]
def wsX6_count_r7 : List Cond := [Cond.instanceMethod yX6_pointsWithHeight, Cond.selects RX6 yX6_pointsWithHeight yX6_pointsWithHeight, Cond.code yX6_pointsWithHeight cX6_pointsWithHeight 3 (some .int), Cond.fieldLink RX6 42 "BaroRuns" "pointSum" "LBaroRuns$PointSum;", Cond.methodLink RX6 197 yX6_gather, Cond.instanceMethod yX6_gather, Cond.selects RX6 yX6_gather yX6_gather, Cond.code yX6_gather cX6_gather 3 none, Cond.methodLink RX6 261 yX1_clear, Cond.instanceMethod yX1_clear, Cond.selects RX1 yX1_clear yX1_clear, Cond.initialized RX1, Cond.code yX1_clear cX1_clear 1 none, Cond.fieldLink RX1 7 "BaroRuns$PointSum" "sum" "J", Cond.fieldLink RX1 13 "BaroRuns$PointSum" "number" "I", Cond.methodLink RX6 112 yX6_surveyOf, Cond.instanceMethod yX6_surveyOf, Cond.selects RX6 yX6_surveyOf yX6_surveyOf, Cond.code yX6_surveyOf cX6_surveyOf 2 (some (.object "BaroRuns$Survey")), Cond.methodLink RX6 264 yX3_addTo, Cond.instanceMethod yX3_addTo, Cond.selects RX3 yX3_addTo yX3_addTo, Cond.code yX3_addTo cX3_addTo 4 none, Cond.methodLink RX3 99 yX3_endsOpenLoop]
def wsX6_count_r8 : List Cond := [Cond.instanceMethod yX3_endsOpenLoop, Cond.selects RX3 yX3_endsOpenLoop yX3_endsOpenLoop, Cond.code yX3_endsOpenLoop cX3_endsOpenLoop 3 (some .boolean), Cond.methodLink RX3 102 yX3_correctedHeight, Cond.instanceMethod yX3_correctedHeight, Cond.selects RX3 yX3_correctedHeight yX3_correctedHeight, Cond.code yX3_correctedHeight cX3_correctedHeight 2 (some .int), Cond.methodLink RX3 105 yX1_add, Cond.instanceMethod yX1_add, Cond.selects RX1 yX1_add yX1_add, Cond.code yX1_add cX1_add 2 none, Cond.fieldLink RX1 17 "BaroRuns$PointSum" "least" "I", Cond.methodLink RX1 20 Lib.Math.min.name, Cond.static Lib.Math.min.name, Cond.code Lib.Math.min.name Lib.Math.min.code 2 (some .int), Cond.fieldLink RX1 26 "BaroRuns$PointSum" "greatest" "I", Cond.methodLink RX1 29 Lib.Math.max.name, Cond.static Lib.Math.max.name, Cond.code Lib.Math.max.name Lib.Math.max.code 2 (some .int), Cond.methodLink RX6 65 yX2_setting, Cond.instanceMethod yX2_setting, Cond.selects RX2 yX2_setting yX2_setting, Cond.code yX2_setting cX2_setting 2 (some .int), Cond.fieldLink RX2 33 "BaroRuns$State" "gustLimit" "I"]
def wsX6_count : List Cond := .code yX6_count cX6_count 2 (some .int) :: ((wsX6_count_r1 ++ (wsX6_count_r2 ++ (wsX6_count_r3 ++ (wsX6_count_r4 ++ (wsX6_count_r5 ++ (wsX6_count_r6 ++ (wsX6_count_r7 ++ wsX6_count_r8))))))) ++ wsX60 ++ wsX50 ++ wsX30 ++ wsX00 ++ wsX40 ++ wsX20 ++ wsX10)
def wsX6_undo_r1 : List Cond := [Cond.fieldLink RX6 22 "BaroRuns" "history" "LBaroRuns$History;", Cond.constant RX6 146 (-2000000002), Cond.fieldLink RX6 10 "BaroRuns" "now" "LBaroRuns$State;", Cond.fieldLink RX6 53 "BaroRuns" "stale" "Z", Cond.methodLink RX6 147 yX0_giveBack, Cond.instanceMethod yX0_giveBack, Cond.selects RX0 yX0_giveBack yX0_giveBack, Cond.initialized RX0, Cond.code yX0_giveBack cX0_giveBack 3 none, Cond.fieldLink RX0 18 "BaroRuns$History" "size" "I", Cond.methodLink RX0 25 yX0_place, Cond.instanceMethod yX0_place, Cond.selects RX0 yX0_place yX0_place, Cond.code yX0_place cX0_place 3 (some (.object "BaroRuns$State")), Cond.fieldLink RX0 22 "BaroRuns$History" "oldest" "I", Cond.fieldLink RX0 11 "BaroRuns$History" "places" "[LBaroRuns$State;", Cond.methodLink RX0 29 yX2_copyFrom, Cond.instanceMethod yX2_copyFrom, Cond.selects RX2 yX2_copyFrom yX2_copyFrom, Cond.initialized RX2, Cond.code yX2_copyFrom cX2_copyFrom 2 none, Cond.fieldLink RX2 14 "BaroRuns$State" "baseTrack" "LBaroRuns$Track;", Cond.fieldLink RX2 20 "BaroRuns$State" "firstTrack" "LBaroRuns$Track;", Cond.fieldLink RX2 23 "BaroRuns$State" "secondTrack" "LBaroRuns$Track;"]
def wsX6_undo_r2 : List Cond := [Cond.fieldLink RX2 26 "BaroRuns$State" "thirdTrack" "LBaroRuns$Track;", Cond.fieldLink RX2 29 "BaroRuns$State" "baseHeight" "I", Cond.fieldLink RX2 33 "BaroRuns$State" "gustLimit" "I", Cond.fieldLink RX2 36 "BaroRuns$State" "stepLimit" "I", Cond.methodLink RX2 39 yX5_copyFrom, Cond.instanceMethod yX5_copyFrom, Cond.selects RX5 yX5_copyFrom yX5_copyFrom, Cond.initialized RX5, Cond.code yX5_copyFrom cX5_copyFrom 2 none, Cond.fieldLink RX5 9 "BaroRuns$Track" "values" "[I", Cond.methodLink RX5 15 Lib.Math.min.name, Cond.static Lib.Math.min.name, Cond.initialized "java/lang/Math", Cond.code Lib.Math.min.name Lib.Math.min.code 2 (some .int), Cond.methodLink RX5 43 arraycopyName, Cond.native arraycopyName, Cond.static arraycopyName, Cond.initialized "java/lang/System", Cond.fieldLink RX5 29 "BaroRuns$Track" "size" "I"]
def wsX6_undo : List Cond := .code yX6_undo cX6_undo 1 (some .int) :: ((wsX6_undo_r1 ++ wsX6_undo_r2) ++ wsX60 ++ wsX00 ++ wsX20 ++ wsX50)
def wsX6_baseAt_r1 : List Cond := [Cond.constant RX6 61 (-2000000001), Cond.fieldLink RX6 10 "BaroRuns" "now" "LBaroRuns$State;", Cond.methodLink RX6 151 yX6_isTime, Cond.static yX6_isTime, Cond.initialized RX6, Cond.code yX6_isTime cX6_isTime 1 (some .boolean), Cond.methodLink RX6 105 yX6_within, Cond.static yX6_within, Cond.code yX6_within cX6_within 3 (some .boolean), Cond.methodLink RX6 154 yX2_baseValue, Cond.instanceMethod yX2_baseValue, Cond.selects RX2 yX2_baseValue yX2_baseValue, Cond.initialized RX2, Cond.code yX2_baseValue cX2_baseValue 10 (some .int), Cond.fieldLink RX2 14 "BaroRuns$State" "baseTrack" "LBaroRuns$Track;", Cond.constant RX2 50 (-2000000004), Cond.methodLink RX2 46 yX5_value, Cond.instanceMethod yX5_value, Cond.selects RX5 yX5_value yX5_value, Cond.initialized RX5, Cond.code yX5_value cX5_value 3 (some .int), Cond.fieldLink RX5 9 "BaroRuns$Track" "values" "[I", Cond.static yX6_at, Cond.code yX6_at cX6_at 2 (some .int)]
def wsX6_baseAt_r2 : List Cond := [Cond.static yX6_divideDown, Cond.code yX6_divideDown cX6_divideDown 4 (some .long), Cond.methodLink RX6 236 yJ9_floorDiv_f86c9, Cond.static yJ9_floorDiv_f86c9, Cond.initialized RJ9, Cond.code yJ9_floorDiv_f86c9 cJ9_floorDiv_f86c9 6 (some .long)]
def wsX6_baseAt : List Cond := .code yX6_baseAt cX6_baseAt 3 (some .int) :: ((wsX6_baseAt_r1 ++ wsX6_baseAt_r2) ++ wsX60 ++ wsX20 ++ wsX50)
def wsX6_step_r1 : List Cond := [Cond.fieldLink RX6 10 "BaroRuns" "now" "LBaroRuns$State;", Cond.constant RX6 61 (-2000000001), Cond.methodLink RX6 157 yX2_stepEnd, Cond.instanceMethod yX2_stepEnd, Cond.selects RX2 yX2_stepEnd yX2_stepEnd, Cond.initialized RX2, Cond.code yX2_stepEnd cX2_stepEnd 4 (some .int), Cond.fieldLink RX2 14 "BaroRuns$State" "baseTrack" "LBaroRuns$Track;", Cond.methodLink RX2 69 yX2_isStepEnd, Cond.instanceMethod yX2_isStepEnd, Cond.selects RX2 yX2_isStepEnd yX2_isStepEnd, Cond.code yX2_isStepEnd cX2_isStepEnd 3 (some .boolean), Cond.methodLink RX2 65 Lib.Math.abs.name, Cond.static Lib.Math.abs.name, Cond.initialized "java/lang/Math", Cond.code Lib.Math.abs.name Lib.Math.abs.code 1 (some .int), Cond.fieldLink RX2 36 "BaroRuns$State" "stepLimit" "I", Cond.methodLink RX2 46 yX5_value, Cond.instanceMethod yX5_value, Cond.selects RX5 yX5_value yX5_value, Cond.initialized RX5, Cond.code yX5_value cX5_value 3 (some .int), Cond.fieldLink RX5 9 "BaroRuns$Track" "values" "[I", Cond.static yX6_at]
def wsX6_step_r2 : List Cond := [Cond.initialized RX6, Cond.code yX6_at cX6_at 2 (some .int)]
def wsX6_step : List Cond := .code yX6_step cX6_step 3 (some .int) :: ((wsX6_step_r1 ++ wsX6_step_r2) ++ wsX60 ++ wsX20 ++ wsX50)
def wsX6_raw_r1 : List Cond := [Cond.constant RX6 61 (-2000000001), Cond.methodLink RX6 81 yX6_isCell, Cond.static yX6_isCell, Cond.initialized RX6, Cond.code yX6_isCell cX6_isCell 1 (some .boolean), Cond.methodLink RX6 105 yX6_within, Cond.static yX6_within, Cond.code yX6_within cX6_within 3 (some .boolean), Cond.methodLink RX6 88 yX6_isReadingOf, Cond.instanceMethod yX6_isReadingOf, Cond.selects RX6 yX6_isReadingOf yX6_isReadingOf, Cond.code yX6_isReadingOf cX6_isReadingOf 3 (some .boolean), Cond.fieldLink RX6 10 "BaroRuns" "now" "LBaroRuns$State;", Cond.methodLink RX6 91 yX2_track, Cond.instanceMethod yX2_track, Cond.selects RX2 yX2_track yX2_track, Cond.initialized RX2, Cond.code yX2_track cX2_track 2 (some (.object "BaroRuns$Track")), Cond.fieldLink RX2 20 "BaroRuns$State" "firstTrack" "LBaroRuns$Track;", Cond.fieldLink RX2 23 "BaroRuns$State" "secondTrack" "LBaroRuns$Track;", Cond.fieldLink RX2 26 "BaroRuns$State" "thirdTrack" "LBaroRuns$Track;", Cond.fieldLink RX2 14 "BaroRuns$State" "baseTrack" "LBaroRuns$Track;", Cond.methodLink RX6 109 yX6_refresh, Cond.instanceMethod yX6_refresh]
def wsX6_raw_r2 : List Cond := [Cond.selects RX6 yX6_refresh yX6_refresh, Cond.code yX6_refresh cX6_refresh 1 none, Cond.fieldLink RX6 53 "BaroRuns" "stale" "Z", Cond.fieldLink RX6 29 "BaroRuns" "firstSurvey" "LBaroRuns$Survey;", Cond.fieldLink RX6 33 "BaroRuns" "secondSurvey" "LBaroRuns$Survey;", Cond.fieldLink RX6 36 "BaroRuns" "thirdSurvey" "LBaroRuns$Survey;", Cond.methodLink RX6 257 yX3_workOut, Cond.instanceMethod yX3_workOut, Cond.selects RX3 yX3_workOut yX3_workOut, Cond.initialized RX3, Cond.code yX3_workOut cX3_workOut 8 none, Cond.fieldLink RX3 48 "BaroRuns$Survey" "size" "I", Cond.fieldLink RX3 9 "BaroRuns$Survey" "times" "[I", Cond.fieldLink RX3 15 "BaroRuns$Survey" "points" "[I", Cond.fieldLink RX3 18 "BaroRuns$Survey" "heights" "[I", Cond.fieldLink RX3 21 "BaroRuns$Survey" "gusts" "[I", Cond.fieldLink RX3 24 "BaroRuns$Survey" "openLoops" "[I", Cond.fieldLink RX3 27 "BaroRuns$Survey" "correctedHeights" "[I", Cond.methodLink RX3 36 yX2_track, Cond.methodLink RX3 49 yX5_value, Cond.instanceMethod yX5_value, Cond.selects RX5 yX5_value yX5_value, Cond.initialized RX5, Cond.code yX5_value cX5_value 3 (some .int)]
def wsX6_raw_r3 : List Cond := [Cond.fieldLink RX5 9 "BaroRuns$Track" "values" "[I", Cond.static yX6_at, Cond.code yX6_at cX6_at 2 (some .int), Cond.static yX6_put, Cond.code yX6_put cX6_put 3 none, Cond.methodLink RX3 57 yX2_heightAt, Cond.instanceMethod yX2_heightAt, Cond.selects RX2 yX2_heightAt yX2_heightAt, Cond.code yX2_heightAt cX2_heightAt 12 (some .int), Cond.constant RX2 50 (-2000000004), Cond.constantLong RX2 63 (2930), Cond.fieldLink RX2 29 "BaroRuns$State" "baseHeight" "I", Cond.methodLink RX2 55 yX2_baseValue, Cond.instanceMethod yX2_baseValue, Cond.selects RX2 yX2_baseValue yX2_baseValue, Cond.code yX2_baseValue cX2_baseValue 10 (some .int), Cond.methodLink RX2 46 yX5_value, Cond.static yX6_divideDown, Cond.code yX6_divideDown cX6_divideDown 4 (some .long), Cond.methodLink RX6 236 yJ9_floorDiv_f86c9, Cond.static yJ9_floorDiv_f86c9, Cond.initialized RJ9, Cond.code yJ9_floorDiv_f86c9 cJ9_floorDiv_f86c9 6 (some .long), Cond.methodLink RX2 58 yJ9_floorDiv_7cf53]
def wsX6_raw_r4 : List Cond := [Cond.static yJ9_floorDiv_7cf53, Cond.code yJ9_floorDiv_7cf53 cJ9_floorDiv_7cf53 3 (some .int), Cond.methodLink RX3 64 yX5_standsOut, Cond.instanceMethod yX5_standsOut, Cond.selects RX5 yX5_standsOut yX5_standsOut, Cond.code yX5_standsOut cX5_standsOut 6 (some .boolean), Cond.fieldLink RX5 29 "BaroRuns$Track" "size" "I", Cond.methodLink RX5 32 yX5_value, Cond.methodLink RX3 68 yX3_countKinds, Cond.instanceMethod yX3_countKinds, Cond.selects RX3 yX3_countKinds yX3_countKinds, Cond.code yX3_countKinds cX3_countKinds 2 none, Cond.fieldLink RX3 114 "BaroRuns$Survey" "gustCount" "I", Cond.fieldLink RX3 117 "BaroRuns$Survey" "goodCount" "I", Cond.methodLink RX3 120 yX3_isGust, Cond.instanceMethod yX3_isGust, Cond.selects RX3 yX3_isGust yX3_isGust, Cond.code yX3_isGust cX3_isGust 2 (some .boolean), Cond.methodLink RX3 95 yX3_isGood, Cond.instanceMethod yX3_isGood, Cond.selects RX3 yX3_isGood yX3_isGood, Cond.code yX3_isGood cX3_isGood 2 (some .boolean), Cond.constant RX3 85 (-2000000004), Cond.methodLink RX3 71 yX3_findLoops]
def wsX6_raw_r5 : List Cond := [Cond.instanceMethod yX3_findLoops, Cond.selects RX3 yX3_findLoops yX3_findLoops, Cond.code yX3_findLoops cX3_findLoops 3 none, Cond.fieldLink RX3 123 "BaroRuns$Survey" "loopCount" "I", Cond.fieldLink RX3 30 "BaroRuns$Survey" "begins" "[I", Cond.fieldLink RX3 33 "BaroRuns$Survey" "ends" "[I", Cond.methodLink RX3 126 yX3_lastVisit, Cond.instanceMethod yX3_lastVisit, Cond.selects RX3 yX3_lastVisit yX3_lastVisit, Cond.code yX3_lastVisit cX3_lastVisit 4 (some .int), Cond.methodLink RX3 74 yX3_shortestLoop, Cond.instanceMethod yX3_shortestLoop, Cond.selects RX3 yX3_shortestLoop yX3_shortestLoop, Cond.code yX3_shortestLoop cX3_shortestLoop 5 (some .int), Cond.methodLink RX3 89 yX3_begin, Cond.instanceMethod yX3_begin, Cond.selects RX3 yX3_begin yX3_begin, Cond.code yX3_begin cX3_begin 2 (some .int), Cond.methodLink RX3 86 yX3_end, Cond.instanceMethod yX3_end, Cond.selects RX3 yX3_end yX3_end, Cond.code yX3_end cX3_end 2 (some .int), Cond.methodLink RX3 129 yX3_minutes, Cond.instanceMethod yX3_minutes]
def wsX6_raw_r6 : List Cond := [Cond.selects RX3 yX3_minutes yX3_minutes, Cond.code yX3_minutes cX3_minutes 2 (some .int), Cond.methodLink RX3 78 yX3_withoutDrift, Cond.instanceMethod yX3_withoutDrift, Cond.selects RX3 yX3_withoutDrift yX3_withoutDrift, Cond.code yX3_withoutDrift cX3_withoutDrift 5 (some .int), Cond.methodLink RX3 111 yX3_openLoopOf, Cond.instanceMethod yX3_openLoopOf, Cond.selects RX3 yX3_openLoopOf yX3_openLoopOf, Cond.code yX3_openLoopOf cX3_openLoopOf 2 (some .int), Cond.methodLink RX3 92 yX3_rawHeight, Cond.instanceMethod yX3_rawHeight, Cond.selects RX3 yX3_rawHeight yX3_rawHeight, Cond.code yX3_rawHeight cX3_rawHeight 2 (some .int), Cond.methodLink RX3 132 yX3_misclosure, Cond.instanceMethod yX3_misclosure, Cond.selects RX3 yX3_misclosure yX3_misclosure, Cond.code yX3_misclosure cX3_misclosure 2 (some .int), Cond.methodLink RX6 112 yX6_surveyOf, Cond.instanceMethod yX6_surveyOf, Cond.selects RX6 yX6_surveyOf yX6_surveyOf, Cond.code yX6_surveyOf cX6_surveyOf 2 (some (.object "BaroRuns$Survey")), Cond.methodLink RX6 160 yX3_rawHeight]
def wsX6_raw : List Cond := .code yX6_raw cX6_raw 3 (some .int) :: ((wsX6_raw_r1 ++ (wsX6_raw_r2 ++ (wsX6_raw_r3 ++ (wsX6_raw_r4 ++ (wsX6_raw_r5 ++ wsX6_raw_r6))))) ++ wsX60 ++ wsX50 ++ wsX20 ++ wsX30)
def wsX6_would_r1 : List Cond := [Cond.constant RX6 61 (-2000000001), Cond.fieldLink RX6 10 "BaroRuns" "now" "LBaroRuns$State;", Cond.methodLink RX6 73 yX6_isReading, Cond.static yX6_isReading, Cond.initialized RX6, Cond.code yX6_isReading cX6_isReading 3 (some .boolean), Cond.constant RX6 172 (50000), Cond.constant RX6 235 (110000), Cond.methodLink RX6 151 yX6_isTime, Cond.static yX6_isTime, Cond.code yX6_isTime cX6_isTime 1 (some .boolean), Cond.methodLink RX6 105 yX6_within, Cond.static yX6_within, Cond.code yX6_within cX6_within 3 (some .boolean), Cond.methodLink RX6 167 yX6_isTemperature, Cond.static yX6_isTemperature, Cond.code yX6_isTemperature cX6_isTemperature 1 (some .boolean), Cond.methodLink RX6 163 yX2_heightAt, Cond.instanceMethod yX2_heightAt, Cond.selects RX2 yX2_heightAt yX2_heightAt, Cond.initialized RX2, Cond.code yX2_heightAt cX2_heightAt 12 (some .int), Cond.constant RX2 50 (-2000000004), Cond.constantLong RX2 63 (2930)]
def wsX6_would_r2 : List Cond := [Cond.fieldLink RX2 29 "BaroRuns$State" "baseHeight" "I", Cond.methodLink RX2 55 yX2_baseValue, Cond.instanceMethod yX2_baseValue, Cond.selects RX2 yX2_baseValue yX2_baseValue, Cond.code yX2_baseValue cX2_baseValue 10 (some .int), Cond.fieldLink RX2 14 "BaroRuns$State" "baseTrack" "LBaroRuns$Track;", Cond.methodLink RX2 46 yX5_value, Cond.instanceMethod yX5_value, Cond.selects RX5 yX5_value yX5_value, Cond.initialized RX5, Cond.code yX5_value cX5_value 3 (some .int), Cond.fieldLink RX5 9 "BaroRuns$Track" "values" "[I", Cond.static yX6_at, Cond.code yX6_at cX6_at 2 (some .int), Cond.static yX6_divideDown, Cond.code yX6_divideDown cX6_divideDown 4 (some .long), Cond.methodLink RX6 236 yJ9_floorDiv_f86c9, Cond.static yJ9_floorDiv_f86c9, Cond.initialized RJ9, Cond.code yJ9_floorDiv_f86c9 cJ9_floorDiv_f86c9 6 (some .long), Cond.methodLink RX2 58 yJ9_floorDiv_7cf53, Cond.static yJ9_floorDiv_7cf53, Cond.code yJ9_floorDiv_7cf53 cJ9_floorDiv_7cf53 3 (some .int)]
def wsX6_would : List Cond := .code yX6_would cX6_would 4 (some .int) :: ((wsX6_would_r1 ++ wsX6_would_r2) ++ wsX60 ++ wsX20 ++ wsX50)
def wsX6_greatestPressure_r1 : List Cond := [Cond.constant RX6 172 (50000), Cond.constant RX6 235 (110000), Cond.fieldLink RX6 10 "BaroRuns" "now" "LBaroRuns$State;", Cond.methodLink RX6 163 yX2_heightAt, Cond.instanceMethod yX2_heightAt, Cond.selects RX2 yX2_heightAt yX2_heightAt, Cond.initialized RX2, Cond.code yX2_heightAt cX2_heightAt 12 (some .int), Cond.constant RX2 50 (-2000000004), Cond.constantLong RX2 63 (2930), Cond.fieldLink RX2 29 "BaroRuns$State" "baseHeight" "I", Cond.methodLink RX2 55 yX2_baseValue, Cond.instanceMethod yX2_baseValue, Cond.selects RX2 yX2_baseValue yX2_baseValue, Cond.code yX2_baseValue cX2_baseValue 10 (some .int), Cond.fieldLink RX2 14 "BaroRuns$State" "baseTrack" "LBaroRuns$Track;", Cond.methodLink RX2 46 yX5_value, Cond.instanceMethod yX5_value, Cond.selects RX5 yX5_value yX5_value, Cond.initialized RX5, Cond.code yX5_value cX5_value 3 (some .int), Cond.fieldLink RX5 9 "BaroRuns$Track" "values" "[I", Cond.static yX6_at, Cond.initialized RX6]
def wsX6_greatestPressure_r2 : List Cond := [Cond.code yX6_at cX6_at 2 (some .int), Cond.static yX6_divideDown, Cond.code yX6_divideDown cX6_divideDown 4 (some .long), Cond.methodLink RX6 236 yJ9_floorDiv_f86c9, Cond.static yJ9_floorDiv_f86c9, Cond.initialized RJ9, Cond.code yJ9_floorDiv_f86c9 cJ9_floorDiv_f86c9 6 (some .long), Cond.methodLink RX2 58 yJ9_floorDiv_7cf53, Cond.static yJ9_floorDiv_7cf53, Cond.code yJ9_floorDiv_7cf53 cJ9_floorDiv_7cf53 3 (some .int)]
def wsX6_greatestPressure : List Cond := .code yX6_greatestPressure cX6_greatestPressure 8 (some .int) :: ((wsX6_greatestPressure_r1 ++ wsX6_greatestPressure_r2) ++ wsX60 ++ wsX20 ++ wsX50)
def wsX6_pressureFor_r1 : List Cond := [Cond.constant RX6 170 (-1000000), Cond.constant RX6 171 (10000000), Cond.constant RX6 61 (-2000000001), Cond.fieldLink RX6 10 "BaroRuns" "now" "LBaroRuns$State;", Cond.constant RX6 172 (50000), Cond.constant RX6 108 (-2000000004), Cond.methodLink RX6 151 yX6_isTime, Cond.static yX6_isTime, Cond.initialized RX6, Cond.code yX6_isTime cX6_isTime 1 (some .boolean), Cond.methodLink RX6 105 yX6_within, Cond.static yX6_within, Cond.code yX6_within cX6_within 3 (some .boolean), Cond.methodLink RX6 167 yX6_isTemperature, Cond.static yX6_isTemperature, Cond.code yX6_isTemperature cX6_isTemperature 1 (some .boolean), Cond.methodLink RX6 163 yX2_heightAt, Cond.instanceMethod yX2_heightAt, Cond.selects RX2 yX2_heightAt yX2_heightAt, Cond.initialized RX2, Cond.code yX2_heightAt cX2_heightAt 12 (some .int), Cond.constant RX2 50 (-2000000004), Cond.constantLong RX2 63 (2930), Cond.fieldLink RX2 29 "BaroRuns$State" "baseHeight" "I"]
def wsX6_pressureFor_r2 : List Cond := [Cond.methodLink RX2 55 yX2_baseValue, Cond.instanceMethod yX2_baseValue, Cond.selects RX2 yX2_baseValue yX2_baseValue, Cond.code yX2_baseValue cX2_baseValue 10 (some .int), Cond.fieldLink RX2 14 "BaroRuns$State" "baseTrack" "LBaroRuns$Track;", Cond.methodLink RX2 46 yX5_value, Cond.instanceMethod yX5_value, Cond.selects RX5 yX5_value yX5_value, Cond.initialized RX5, Cond.code yX5_value cX5_value 3 (some .int), Cond.fieldLink RX5 9 "BaroRuns$Track" "values" "[I", Cond.static yX6_at, Cond.code yX6_at cX6_at 2 (some .int), Cond.static yX6_divideDown, Cond.code yX6_divideDown cX6_divideDown 4 (some .long), Cond.methodLink RX6 236 yJ9_floorDiv_f86c9, Cond.static yJ9_floorDiv_f86c9, Cond.initialized RJ9, Cond.code yJ9_floorDiv_f86c9 cJ9_floorDiv_f86c9 6 (some .long), Cond.methodLink RX2 58 yJ9_floorDiv_7cf53, Cond.static yJ9_floorDiv_7cf53, Cond.code yJ9_floorDiv_7cf53 cJ9_floorDiv_7cf53 3 (some .int), Cond.methodLink RX6 173 yX6_greatestPressure, Cond.instanceMethod yX6_greatestPressure]
def wsX6_pressureFor_r3 : List Cond := [Cond.selects RX6 yX6_greatestPressure yX6_greatestPressure, Cond.code yX6_greatestPressure cX6_greatestPressure 8 (some .int), Cond.constant RX6 235 (110000)]
def wsX6_pressureFor : List Cond := .code yX6_pressureFor cX6_pressureFor 6 (some .int) :: ((wsX6_pressureFor_r1 ++ (wsX6_pressureFor_r2 ++ wsX6_pressureFor_r3)) ++ wsX60 ++ wsX20 ++ wsX50)
def wsX6_loops_r1 : List Cond := [Cond.constant RX6 61 (-2000000001), Cond.methodLink RX6 81 yX6_isCell, Cond.static yX6_isCell, Cond.initialized RX6, Cond.code yX6_isCell cX6_isCell 1 (some .boolean), Cond.methodLink RX6 105 yX6_within, Cond.static yX6_within, Cond.code yX6_within cX6_within 3 (some .boolean), Cond.methodLink RX6 109 yX6_refresh, Cond.instanceMethod yX6_refresh, Cond.selects RX6 yX6_refresh yX6_refresh, Cond.code yX6_refresh cX6_refresh 1 none, Cond.fieldLink RX6 53 "BaroRuns" "stale" "Z", Cond.fieldLink RX6 29 "BaroRuns" "firstSurvey" "LBaroRuns$Survey;", Cond.fieldLink RX6 10 "BaroRuns" "now" "LBaroRuns$State;", Cond.fieldLink RX6 33 "BaroRuns" "secondSurvey" "LBaroRuns$Survey;", Cond.fieldLink RX6 36 "BaroRuns" "thirdSurvey" "LBaroRuns$Survey;", Cond.methodLink RX6 257 yX3_workOut, Cond.instanceMethod yX3_workOut, Cond.selects RX3 yX3_workOut yX3_workOut, Cond.initialized RX3, Cond.code yX3_workOut cX3_workOut 8 none, Cond.fieldLink RX3 48 "BaroRuns$Survey" "size" "I", Cond.fieldLink RX3 9 "BaroRuns$Survey" "times" "[I"]
def wsX6_loops_r2 : List Cond := [Cond.fieldLink RX3 15 "BaroRuns$Survey" "points" "[I", Cond.fieldLink RX3 18 "BaroRuns$Survey" "heights" "[I", Cond.fieldLink RX3 21 "BaroRuns$Survey" "gusts" "[I", Cond.fieldLink RX3 24 "BaroRuns$Survey" "openLoops" "[I", Cond.fieldLink RX3 27 "BaroRuns$Survey" "correctedHeights" "[I", Cond.methodLink RX3 36 yX2_track, Cond.instanceMethod yX2_track, Cond.selects RX2 yX2_track yX2_track, Cond.initialized RX2, Cond.code yX2_track cX2_track 2 (some (.object "BaroRuns$Track")), Cond.fieldLink RX2 20 "BaroRuns$State" "firstTrack" "LBaroRuns$Track;", Cond.fieldLink RX2 23 "BaroRuns$State" "secondTrack" "LBaroRuns$Track;", Cond.fieldLink RX2 26 "BaroRuns$State" "thirdTrack" "LBaroRuns$Track;", Cond.fieldLink RX2 14 "BaroRuns$State" "baseTrack" "LBaroRuns$Track;", Cond.methodLink RX3 49 yX5_value, Cond.instanceMethod yX5_value, Cond.selects RX5 yX5_value yX5_value, Cond.initialized RX5, Cond.code yX5_value cX5_value 3 (some .int), Cond.fieldLink RX5 9 "BaroRuns$Track" "values" "[I", Cond.static yX6_at, Cond.code yX6_at cX6_at 2 (some .int), Cond.static yX6_put, Cond.code yX6_put cX6_put 3 none]
def wsX6_loops_r3 : List Cond := [Cond.methodLink RX3 57 yX2_heightAt, Cond.instanceMethod yX2_heightAt, Cond.selects RX2 yX2_heightAt yX2_heightAt, Cond.code yX2_heightAt cX2_heightAt 12 (some .int), Cond.constant RX2 50 (-2000000004), Cond.constantLong RX2 63 (2930), Cond.fieldLink RX2 29 "BaroRuns$State" "baseHeight" "I", Cond.methodLink RX2 55 yX2_baseValue, Cond.instanceMethod yX2_baseValue, Cond.selects RX2 yX2_baseValue yX2_baseValue, Cond.code yX2_baseValue cX2_baseValue 10 (some .int), Cond.methodLink RX2 46 yX5_value, Cond.static yX6_divideDown, Cond.code yX6_divideDown cX6_divideDown 4 (some .long), Cond.methodLink RX6 236 yJ9_floorDiv_f86c9, Cond.static yJ9_floorDiv_f86c9, Cond.initialized RJ9, Cond.code yJ9_floorDiv_f86c9 cJ9_floorDiv_f86c9 6 (some .long), Cond.methodLink RX2 58 yJ9_floorDiv_7cf53, Cond.static yJ9_floorDiv_7cf53, Cond.code yJ9_floorDiv_7cf53 cJ9_floorDiv_7cf53 3 (some .int), Cond.methodLink RX3 64 yX5_standsOut, Cond.instanceMethod yX5_standsOut, Cond.selects RX5 yX5_standsOut yX5_standsOut]
def wsX6_loops_r4 : List Cond := [Cond.code yX5_standsOut cX5_standsOut 6 (some .boolean), Cond.fieldLink RX5 29 "BaroRuns$Track" "size" "I", Cond.methodLink RX5 32 yX5_value, Cond.methodLink RX3 68 yX3_countKinds, Cond.instanceMethod yX3_countKinds, Cond.selects RX3 yX3_countKinds yX3_countKinds, Cond.code yX3_countKinds cX3_countKinds 2 none, Cond.fieldLink RX3 114 "BaroRuns$Survey" "gustCount" "I", Cond.fieldLink RX3 117 "BaroRuns$Survey" "goodCount" "I", Cond.methodLink RX3 120 yX3_isGust, Cond.instanceMethod yX3_isGust, Cond.selects RX3 yX3_isGust yX3_isGust, Cond.code yX3_isGust cX3_isGust 2 (some .boolean), Cond.methodLink RX3 95 yX3_isGood, Cond.instanceMethod yX3_isGood, Cond.selects RX3 yX3_isGood yX3_isGood, Cond.code yX3_isGood cX3_isGood 2 (some .boolean), Cond.constant RX3 85 (-2000000004), Cond.methodLink RX3 71 yX3_findLoops, Cond.instanceMethod yX3_findLoops, Cond.selects RX3 yX3_findLoops yX3_findLoops, Cond.code yX3_findLoops cX3_findLoops 3 none, Cond.fieldLink RX3 123 "BaroRuns$Survey" "loopCount" "I", Cond.fieldLink RX3 30 "BaroRuns$Survey" "begins" "[I"]
def wsX6_loops_r5 : List Cond := [Cond.fieldLink RX3 33 "BaroRuns$Survey" "ends" "[I", Cond.methodLink RX3 126 yX3_lastVisit, Cond.instanceMethod yX3_lastVisit, Cond.selects RX3 yX3_lastVisit yX3_lastVisit, Cond.code yX3_lastVisit cX3_lastVisit 4 (some .int), Cond.methodLink RX3 74 yX3_shortestLoop, Cond.instanceMethod yX3_shortestLoop, Cond.selects RX3 yX3_shortestLoop yX3_shortestLoop, Cond.code yX3_shortestLoop cX3_shortestLoop 5 (some .int), Cond.methodLink RX3 89 yX3_begin, Cond.instanceMethod yX3_begin, Cond.selects RX3 yX3_begin yX3_begin, Cond.code yX3_begin cX3_begin 2 (some .int), Cond.methodLink RX3 86 yX3_end, Cond.instanceMethod yX3_end, Cond.selects RX3 yX3_end yX3_end, Cond.code yX3_end cX3_end 2 (some .int), Cond.methodLink RX3 129 yX3_minutes, Cond.instanceMethod yX3_minutes, Cond.selects RX3 yX3_minutes yX3_minutes, Cond.code yX3_minutes cX3_minutes 2 (some .int), Cond.methodLink RX3 78 yX3_withoutDrift, Cond.instanceMethod yX3_withoutDrift, Cond.selects RX3 yX3_withoutDrift yX3_withoutDrift]
def wsX6_loops_r6 : List Cond := [Cond.code yX3_withoutDrift cX3_withoutDrift 5 (some .int), Cond.methodLink RX3 111 yX3_openLoopOf, Cond.instanceMethod yX3_openLoopOf, Cond.selects RX3 yX3_openLoopOf yX3_openLoopOf, Cond.code yX3_openLoopOf cX3_openLoopOf 2 (some .int), Cond.methodLink RX3 92 yX3_rawHeight, Cond.instanceMethod yX3_rawHeight, Cond.selects RX3 yX3_rawHeight yX3_rawHeight, Cond.code yX3_rawHeight cX3_rawHeight 2 (some .int), Cond.methodLink RX3 132 yX3_misclosure, Cond.instanceMethod yX3_misclosure, Cond.selects RX3 yX3_misclosure yX3_misclosure, Cond.code yX3_misclosure cX3_misclosure 2 (some .int), Cond.methodLink RX6 112 yX6_surveyOf, Cond.instanceMethod yX6_surveyOf, Cond.selects RX6 yX6_surveyOf yX6_surveyOf, Cond.code yX6_surveyOf cX6_surveyOf 2 (some (.object "BaroRuns$Survey"))]
def wsX6_loops : List Cond := .code yX6_loops cX6_loops 2 (some .int) :: ((wsX6_loops_r1 ++ (wsX6_loops_r2 ++ (wsX6_loops_r3 ++ (wsX6_loops_r4 ++ (wsX6_loops_r5 ++ wsX6_loops_r6))))) ++ wsX30 ++ wsX60 ++ wsX50 ++ wsX20)
def wsX6_loop_r1 : List Cond := [Cond.constant RX6 61 (-2000000001), Cond.methodLink RX6 81 yX6_isCell, Cond.static yX6_isCell, Cond.initialized RX6, Cond.code yX6_isCell cX6_isCell 1 (some .boolean), Cond.methodLink RX6 105 yX6_within, Cond.static yX6_within, Cond.code yX6_within cX6_within 3 (some .boolean), Cond.methodLink RX6 109 yX6_refresh, Cond.instanceMethod yX6_refresh, Cond.selects RX6 yX6_refresh yX6_refresh, Cond.code yX6_refresh cX6_refresh 1 none, Cond.fieldLink RX6 53 "BaroRuns" "stale" "Z", Cond.fieldLink RX6 29 "BaroRuns" "firstSurvey" "LBaroRuns$Survey;", Cond.fieldLink RX6 10 "BaroRuns" "now" "LBaroRuns$State;", Cond.fieldLink RX6 33 "BaroRuns" "secondSurvey" "LBaroRuns$Survey;", Cond.fieldLink RX6 36 "BaroRuns" "thirdSurvey" "LBaroRuns$Survey;", Cond.methodLink RX6 257 yX3_workOut, Cond.instanceMethod yX3_workOut, Cond.selects RX3 yX3_workOut yX3_workOut, Cond.initialized RX3, Cond.code yX3_workOut cX3_workOut 8 none, Cond.fieldLink RX3 48 "BaroRuns$Survey" "size" "I", Cond.fieldLink RX3 9 "BaroRuns$Survey" "times" "[I"]
def wsX6_loop_r2 : List Cond := [Cond.fieldLink RX3 15 "BaroRuns$Survey" "points" "[I", Cond.fieldLink RX3 18 "BaroRuns$Survey" "heights" "[I", Cond.fieldLink RX3 21 "BaroRuns$Survey" "gusts" "[I", Cond.fieldLink RX3 24 "BaroRuns$Survey" "openLoops" "[I", Cond.fieldLink RX3 27 "BaroRuns$Survey" "correctedHeights" "[I", Cond.methodLink RX3 36 yX2_track, Cond.instanceMethod yX2_track, Cond.selects RX2 yX2_track yX2_track, Cond.initialized RX2, Cond.code yX2_track cX2_track 2 (some (.object "BaroRuns$Track")), Cond.fieldLink RX2 20 "BaroRuns$State" "firstTrack" "LBaroRuns$Track;", Cond.fieldLink RX2 23 "BaroRuns$State" "secondTrack" "LBaroRuns$Track;", Cond.fieldLink RX2 26 "BaroRuns$State" "thirdTrack" "LBaroRuns$Track;", Cond.fieldLink RX2 14 "BaroRuns$State" "baseTrack" "LBaroRuns$Track;", Cond.methodLink RX3 49 yX5_value, Cond.instanceMethod yX5_value, Cond.selects RX5 yX5_value yX5_value, Cond.initialized RX5, Cond.code yX5_value cX5_value 3 (some .int), Cond.fieldLink RX5 9 "BaroRuns$Track" "values" "[I", Cond.static yX6_at, Cond.code yX6_at cX6_at 2 (some .int), Cond.static yX6_put, Cond.code yX6_put cX6_put 3 none]
def wsX6_loop_r3 : List Cond := [Cond.methodLink RX3 57 yX2_heightAt, Cond.instanceMethod yX2_heightAt, Cond.selects RX2 yX2_heightAt yX2_heightAt, Cond.code yX2_heightAt cX2_heightAt 12 (some .int), Cond.constant RX2 50 (-2000000004), Cond.constantLong RX2 63 (2930), Cond.fieldLink RX2 29 "BaroRuns$State" "baseHeight" "I", Cond.methodLink RX2 55 yX2_baseValue, Cond.instanceMethod yX2_baseValue, Cond.selects RX2 yX2_baseValue yX2_baseValue, Cond.code yX2_baseValue cX2_baseValue 10 (some .int), Cond.methodLink RX2 46 yX5_value, Cond.static yX6_divideDown, Cond.code yX6_divideDown cX6_divideDown 4 (some .long), Cond.methodLink RX6 236 yJ9_floorDiv_f86c9, Cond.static yJ9_floorDiv_f86c9, Cond.initialized RJ9, Cond.code yJ9_floorDiv_f86c9 cJ9_floorDiv_f86c9 6 (some .long), Cond.methodLink RX2 58 yJ9_floorDiv_7cf53, Cond.static yJ9_floorDiv_7cf53, Cond.code yJ9_floorDiv_7cf53 cJ9_floorDiv_7cf53 3 (some .int), Cond.methodLink RX3 64 yX5_standsOut, Cond.instanceMethod yX5_standsOut, Cond.selects RX5 yX5_standsOut yX5_standsOut]
def wsX6_loop_r4 : List Cond := [Cond.code yX5_standsOut cX5_standsOut 6 (some .boolean), Cond.fieldLink RX5 29 "BaroRuns$Track" "size" "I", Cond.methodLink RX5 32 yX5_value, Cond.methodLink RX3 68 yX3_countKinds, Cond.instanceMethod yX3_countKinds, Cond.selects RX3 yX3_countKinds yX3_countKinds, Cond.code yX3_countKinds cX3_countKinds 2 none, Cond.fieldLink RX3 114 "BaroRuns$Survey" "gustCount" "I", Cond.fieldLink RX3 117 "BaroRuns$Survey" "goodCount" "I", Cond.methodLink RX3 120 yX3_isGust, Cond.instanceMethod yX3_isGust, Cond.selects RX3 yX3_isGust yX3_isGust, Cond.code yX3_isGust cX3_isGust 2 (some .boolean), Cond.methodLink RX3 95 yX3_isGood, Cond.instanceMethod yX3_isGood, Cond.selects RX3 yX3_isGood yX3_isGood, Cond.code yX3_isGood cX3_isGood 2 (some .boolean), Cond.constant RX3 85 (-2000000004), Cond.methodLink RX3 71 yX3_findLoops, Cond.instanceMethod yX3_findLoops, Cond.selects RX3 yX3_findLoops yX3_findLoops, Cond.code yX3_findLoops cX3_findLoops 3 none, Cond.fieldLink RX3 123 "BaroRuns$Survey" "loopCount" "I", Cond.fieldLink RX3 30 "BaroRuns$Survey" "begins" "[I"]
def wsX6_loop_r5 : List Cond := [Cond.fieldLink RX3 33 "BaroRuns$Survey" "ends" "[I", Cond.methodLink RX3 126 yX3_lastVisit, Cond.instanceMethod yX3_lastVisit, Cond.selects RX3 yX3_lastVisit yX3_lastVisit, Cond.code yX3_lastVisit cX3_lastVisit 4 (some .int), Cond.methodLink RX3 74 yX3_shortestLoop, Cond.instanceMethod yX3_shortestLoop, Cond.selects RX3 yX3_shortestLoop yX3_shortestLoop, Cond.code yX3_shortestLoop cX3_shortestLoop 5 (some .int), Cond.methodLink RX3 89 yX3_begin, Cond.instanceMethod yX3_begin, Cond.selects RX3 yX3_begin yX3_begin, Cond.code yX3_begin cX3_begin 2 (some .int), Cond.methodLink RX3 86 yX3_end, Cond.instanceMethod yX3_end, Cond.selects RX3 yX3_end yX3_end, Cond.code yX3_end cX3_end 2 (some .int), Cond.methodLink RX3 129 yX3_minutes, Cond.instanceMethod yX3_minutes, Cond.selects RX3 yX3_minutes yX3_minutes, Cond.code yX3_minutes cX3_minutes 2 (some .int), Cond.methodLink RX3 78 yX3_withoutDrift, Cond.instanceMethod yX3_withoutDrift, Cond.selects RX3 yX3_withoutDrift yX3_withoutDrift]
def wsX6_loop_r6 : List Cond := [Cond.code yX3_withoutDrift cX3_withoutDrift 5 (some .int), Cond.methodLink RX3 111 yX3_openLoopOf, Cond.instanceMethod yX3_openLoopOf, Cond.selects RX3 yX3_openLoopOf yX3_openLoopOf, Cond.code yX3_openLoopOf cX3_openLoopOf 2 (some .int), Cond.methodLink RX3 92 yX3_rawHeight, Cond.instanceMethod yX3_rawHeight, Cond.selects RX3 yX3_rawHeight yX3_rawHeight, Cond.code yX3_rawHeight cX3_rawHeight 2 (some .int), Cond.methodLink RX3 132 yX3_misclosure, Cond.instanceMethod yX3_misclosure, Cond.selects RX3 yX3_misclosure yX3_misclosure, Cond.code yX3_misclosure cX3_misclosure 2 (some .int), Cond.methodLink RX6 112 yX6_surveyOf, Cond.instanceMethod yX6_surveyOf, Cond.selects RX6 yX6_surveyOf yX6_surveyOf, Cond.code yX6_surveyOf cX6_surveyOf 2 (some (.object "BaroRuns$Survey")), Cond.methodLink RX6 176 yX3_begin, Cond.methodLink RX6 179 yX3_end, Cond.methodLink RX6 182 yX3_misclosure, Cond.methodLink RX6 185 yX3_misclosureBySteps, Cond.instanceMethod yX3_misclosureBySteps, Cond.selects RX3 yX3_misclosureBySteps yX3_misclosureBySteps, Cond.code yX3_misclosureBySteps cX3_misclosureBySteps 5 (some .int)]
def wsX6_loop_r7 : List Cond := [Cond.methodLink RX6 188 yX3_minutes]
def wsX6_loop : List Cond := .code yX6_loop cX6_loop 5 (some .int) :: ((wsX6_loop_r1 ++ (wsX6_loop_r2 ++ (wsX6_loop_r3 ++ (wsX6_loop_r4 ++ (wsX6_loop_r5 ++ (wsX6_loop_r6 ++ wsX6_loop_r7)))))) ++ wsX30 ++ wsX60 ++ wsX50 ++ wsX20)
def wsX6_openLoop_r1 : List Cond := [Cond.constant RX6 61 (-2000000001), Cond.constant RX6 108 (-2000000004), Cond.methodLink RX6 81 yX6_isCell, Cond.static yX6_isCell, Cond.initialized RX6, Cond.code yX6_isCell cX6_isCell 1 (some .boolean), Cond.methodLink RX6 105 yX6_within, Cond.static yX6_within, Cond.code yX6_within cX6_within 3 (some .boolean), Cond.methodLink RX6 88 yX6_isReadingOf, Cond.instanceMethod yX6_isReadingOf, Cond.selects RX6 yX6_isReadingOf yX6_isReadingOf, Cond.code yX6_isReadingOf cX6_isReadingOf 3 (some .boolean), Cond.fieldLink RX6 10 "BaroRuns" "now" "LBaroRuns$State;", Cond.methodLink RX6 91 yX2_track, Cond.instanceMethod yX2_track, Cond.selects RX2 yX2_track yX2_track, Cond.initialized RX2, Cond.code yX2_track cX2_track 2 (some (.object "BaroRuns$Track")), Cond.fieldLink RX2 20 "BaroRuns$State" "firstTrack" "LBaroRuns$Track;", Cond.fieldLink RX2 23 "BaroRuns$State" "secondTrack" "LBaroRuns$Track;", Cond.fieldLink RX2 26 "BaroRuns$State" "thirdTrack" "LBaroRuns$Track;", Cond.fieldLink RX2 14 "BaroRuns$State" "baseTrack" "LBaroRuns$Track;", Cond.methodLink RX6 109 yX6_refresh]
def wsX6_openLoop_r2 : List Cond := [Cond.instanceMethod yX6_refresh, Cond.selects RX6 yX6_refresh yX6_refresh, Cond.code yX6_refresh cX6_refresh 1 none, Cond.fieldLink RX6 53 "BaroRuns" "stale" "Z", Cond.fieldLink RX6 29 "BaroRuns" "firstSurvey" "LBaroRuns$Survey;", Cond.fieldLink RX6 33 "BaroRuns" "secondSurvey" "LBaroRuns$Survey;", Cond.fieldLink RX6 36 "BaroRuns" "thirdSurvey" "LBaroRuns$Survey;", Cond.methodLink RX6 257 yX3_workOut, Cond.instanceMethod yX3_workOut, Cond.selects RX3 yX3_workOut yX3_workOut, Cond.initialized RX3, Cond.code yX3_workOut cX3_workOut 8 none, Cond.fieldLink RX3 48 "BaroRuns$Survey" "size" "I", Cond.fieldLink RX3 9 "BaroRuns$Survey" "times" "[I", Cond.fieldLink RX3 15 "BaroRuns$Survey" "points" "[I", Cond.fieldLink RX3 18 "BaroRuns$Survey" "heights" "[I", Cond.fieldLink RX3 21 "BaroRuns$Survey" "gusts" "[I", Cond.fieldLink RX3 24 "BaroRuns$Survey" "openLoops" "[I", Cond.fieldLink RX3 27 "BaroRuns$Survey" "correctedHeights" "[I", Cond.methodLink RX3 36 yX2_track, Cond.methodLink RX3 49 yX5_value, Cond.instanceMethod yX5_value, Cond.selects RX5 yX5_value yX5_value, Cond.initialized RX5]
def wsX6_openLoop_r3 : List Cond := [Cond.code yX5_value cX5_value 3 (some .int), Cond.fieldLink RX5 9 "BaroRuns$Track" "values" "[I", Cond.static yX6_at, Cond.code yX6_at cX6_at 2 (some .int), Cond.static yX6_put, Cond.code yX6_put cX6_put 3 none, Cond.methodLink RX3 57 yX2_heightAt, Cond.instanceMethod yX2_heightAt, Cond.selects RX2 yX2_heightAt yX2_heightAt, Cond.code yX2_heightAt cX2_heightAt 12 (some .int), Cond.constant RX2 50 (-2000000004), Cond.constantLong RX2 63 (2930), Cond.fieldLink RX2 29 "BaroRuns$State" "baseHeight" "I", Cond.methodLink RX2 55 yX2_baseValue, Cond.instanceMethod yX2_baseValue, Cond.selects RX2 yX2_baseValue yX2_baseValue, Cond.code yX2_baseValue cX2_baseValue 10 (some .int), Cond.methodLink RX2 46 yX5_value, Cond.static yX6_divideDown, Cond.code yX6_divideDown cX6_divideDown 4 (some .long), Cond.methodLink RX6 236 yJ9_floorDiv_f86c9, Cond.static yJ9_floorDiv_f86c9, Cond.initialized RJ9, Cond.code yJ9_floorDiv_f86c9 cJ9_floorDiv_f86c9 6 (some .long)]
def wsX6_openLoop_r4 : List Cond := [Cond.methodLink RX2 58 yJ9_floorDiv_7cf53, Cond.static yJ9_floorDiv_7cf53, Cond.code yJ9_floorDiv_7cf53 cJ9_floorDiv_7cf53 3 (some .int), Cond.methodLink RX3 64 yX5_standsOut, Cond.instanceMethod yX5_standsOut, Cond.selects RX5 yX5_standsOut yX5_standsOut, Cond.code yX5_standsOut cX5_standsOut 6 (some .boolean), Cond.fieldLink RX5 29 "BaroRuns$Track" "size" "I", Cond.methodLink RX5 32 yX5_value, Cond.methodLink RX3 68 yX3_countKinds, Cond.instanceMethod yX3_countKinds, Cond.selects RX3 yX3_countKinds yX3_countKinds, Cond.code yX3_countKinds cX3_countKinds 2 none, Cond.fieldLink RX3 114 "BaroRuns$Survey" "gustCount" "I", Cond.fieldLink RX3 117 "BaroRuns$Survey" "goodCount" "I", Cond.methodLink RX3 120 yX3_isGust, Cond.instanceMethod yX3_isGust, Cond.selects RX3 yX3_isGust yX3_isGust, Cond.code yX3_isGust cX3_isGust 2 (some .boolean), Cond.methodLink RX3 95 yX3_isGood, Cond.instanceMethod yX3_isGood, Cond.selects RX3 yX3_isGood yX3_isGood, Cond.code yX3_isGood cX3_isGood 2 (some .boolean), Cond.constant RX3 85 (-2000000004)]
def wsX6_openLoop_r5 : List Cond := [Cond.methodLink RX3 71 yX3_findLoops, Cond.instanceMethod yX3_findLoops, Cond.selects RX3 yX3_findLoops yX3_findLoops, Cond.code yX3_findLoops cX3_findLoops 3 none, Cond.fieldLink RX3 123 "BaroRuns$Survey" "loopCount" "I", Cond.fieldLink RX3 30 "BaroRuns$Survey" "begins" "[I", Cond.fieldLink RX3 33 "BaroRuns$Survey" "ends" "[I", Cond.methodLink RX3 126 yX3_lastVisit, Cond.instanceMethod yX3_lastVisit, Cond.selects RX3 yX3_lastVisit yX3_lastVisit, Cond.code yX3_lastVisit cX3_lastVisit 4 (some .int), Cond.methodLink RX3 74 yX3_shortestLoop, Cond.instanceMethod yX3_shortestLoop, Cond.selects RX3 yX3_shortestLoop yX3_shortestLoop, Cond.code yX3_shortestLoop cX3_shortestLoop 5 (some .int), Cond.methodLink RX3 89 yX3_begin, Cond.instanceMethod yX3_begin, Cond.selects RX3 yX3_begin yX3_begin, Cond.code yX3_begin cX3_begin 2 (some .int), Cond.methodLink RX3 86 yX3_end, Cond.instanceMethod yX3_end, Cond.selects RX3 yX3_end yX3_end, Cond.code yX3_end cX3_end 2 (some .int), Cond.methodLink RX3 129 yX3_minutes]
def wsX6_openLoop_r6 : List Cond := [Cond.instanceMethod yX3_minutes, Cond.selects RX3 yX3_minutes yX3_minutes, Cond.code yX3_minutes cX3_minutes 2 (some .int), Cond.methodLink RX3 78 yX3_withoutDrift, Cond.instanceMethod yX3_withoutDrift, Cond.selects RX3 yX3_withoutDrift yX3_withoutDrift, Cond.code yX3_withoutDrift cX3_withoutDrift 5 (some .int), Cond.methodLink RX3 111 yX3_openLoopOf, Cond.instanceMethod yX3_openLoopOf, Cond.selects RX3 yX3_openLoopOf yX3_openLoopOf, Cond.code yX3_openLoopOf cX3_openLoopOf 2 (some .int), Cond.methodLink RX3 92 yX3_rawHeight, Cond.instanceMethod yX3_rawHeight, Cond.selects RX3 yX3_rawHeight yX3_rawHeight, Cond.code yX3_rawHeight cX3_rawHeight 2 (some .int), Cond.methodLink RX3 132 yX3_misclosure, Cond.instanceMethod yX3_misclosure, Cond.selects RX3 yX3_misclosure yX3_misclosure, Cond.code yX3_misclosure cX3_misclosure 2 (some .int), Cond.methodLink RX6 112 yX6_surveyOf, Cond.instanceMethod yX6_surveyOf, Cond.selects RX6 yX6_surveyOf yX6_surveyOf, Cond.code yX6_surveyOf cX6_surveyOf 2 (some (.object "BaroRuns$Survey")), Cond.methodLink RX6 191 yX3_openLoopOf]
def wsX6_openLoop : List Cond := .code yX6_openLoop cX6_openLoop 4 (some .int) :: ((wsX6_openLoop_r1 ++ (wsX6_openLoop_r2 ++ (wsX6_openLoop_r3 ++ (wsX6_openLoop_r4 ++ (wsX6_openLoop_r5 ++ wsX6_openLoop_r6))))) ++ wsX60 ++ wsX50 ++ wsX20 ++ wsX30)
def wsX6_corrected_r1 : List Cond := [Cond.constant RX6 61 (-2000000001), Cond.methodLink RX6 81 yX6_isCell, Cond.static yX6_isCell, Cond.initialized RX6, Cond.code yX6_isCell cX6_isCell 1 (some .boolean), Cond.methodLink RX6 105 yX6_within, Cond.static yX6_within, Cond.code yX6_within cX6_within 3 (some .boolean), Cond.methodLink RX6 88 yX6_isReadingOf, Cond.instanceMethod yX6_isReadingOf, Cond.selects RX6 yX6_isReadingOf yX6_isReadingOf, Cond.code yX6_isReadingOf cX6_isReadingOf 3 (some .boolean), Cond.fieldLink RX6 10 "BaroRuns" "now" "LBaroRuns$State;", Cond.methodLink RX6 91 yX2_track, Cond.instanceMethod yX2_track, Cond.selects RX2 yX2_track yX2_track, Cond.initialized RX2, Cond.code yX2_track cX2_track 2 (some (.object "BaroRuns$Track")), Cond.fieldLink RX2 20 "BaroRuns$State" "firstTrack" "LBaroRuns$Track;", Cond.fieldLink RX2 23 "BaroRuns$State" "secondTrack" "LBaroRuns$Track;", Cond.fieldLink RX2 26 "BaroRuns$State" "thirdTrack" "LBaroRuns$Track;", Cond.fieldLink RX2 14 "BaroRuns$State" "baseTrack" "LBaroRuns$Track;", Cond.methodLink RX6 109 yX6_refresh, Cond.instanceMethod yX6_refresh]
def wsX6_corrected_r2 : List Cond := [Cond.selects RX6 yX6_refresh yX6_refresh, Cond.code yX6_refresh cX6_refresh 1 none, Cond.fieldLink RX6 53 "BaroRuns" "stale" "Z", Cond.fieldLink RX6 29 "BaroRuns" "firstSurvey" "LBaroRuns$Survey;", Cond.fieldLink RX6 33 "BaroRuns" "secondSurvey" "LBaroRuns$Survey;", Cond.fieldLink RX6 36 "BaroRuns" "thirdSurvey" "LBaroRuns$Survey;", Cond.methodLink RX6 257 yX3_workOut, Cond.instanceMethod yX3_workOut, Cond.selects RX3 yX3_workOut yX3_workOut, Cond.initialized RX3, Cond.code yX3_workOut cX3_workOut 8 none, Cond.fieldLink RX3 48 "BaroRuns$Survey" "size" "I", Cond.fieldLink RX3 9 "BaroRuns$Survey" "times" "[I", Cond.fieldLink RX3 15 "BaroRuns$Survey" "points" "[I", Cond.fieldLink RX3 18 "BaroRuns$Survey" "heights" "[I", Cond.fieldLink RX3 21 "BaroRuns$Survey" "gusts" "[I", Cond.fieldLink RX3 24 "BaroRuns$Survey" "openLoops" "[I", Cond.fieldLink RX3 27 "BaroRuns$Survey" "correctedHeights" "[I", Cond.methodLink RX3 36 yX2_track, Cond.methodLink RX3 49 yX5_value, Cond.instanceMethod yX5_value, Cond.selects RX5 yX5_value yX5_value, Cond.initialized RX5, Cond.code yX5_value cX5_value 3 (some .int)]
def wsX6_corrected_r3 : List Cond := [Cond.fieldLink RX5 9 "BaroRuns$Track" "values" "[I", Cond.static yX6_at, Cond.code yX6_at cX6_at 2 (some .int), Cond.static yX6_put, Cond.code yX6_put cX6_put 3 none, Cond.methodLink RX3 57 yX2_heightAt, Cond.instanceMethod yX2_heightAt, Cond.selects RX2 yX2_heightAt yX2_heightAt, Cond.code yX2_heightAt cX2_heightAt 12 (some .int), Cond.constant RX2 50 (-2000000004), Cond.constantLong RX2 63 (2930), Cond.fieldLink RX2 29 "BaroRuns$State" "baseHeight" "I", Cond.methodLink RX2 55 yX2_baseValue, Cond.instanceMethod yX2_baseValue, Cond.selects RX2 yX2_baseValue yX2_baseValue, Cond.code yX2_baseValue cX2_baseValue 10 (some .int), Cond.methodLink RX2 46 yX5_value, Cond.static yX6_divideDown, Cond.code yX6_divideDown cX6_divideDown 4 (some .long), Cond.methodLink RX6 236 yJ9_floorDiv_f86c9, Cond.static yJ9_floorDiv_f86c9, Cond.initialized RJ9, Cond.code yJ9_floorDiv_f86c9 cJ9_floorDiv_f86c9 6 (some .long), Cond.methodLink RX2 58 yJ9_floorDiv_7cf53]
def wsX6_corrected_r4 : List Cond := [Cond.static yJ9_floorDiv_7cf53, Cond.code yJ9_floorDiv_7cf53 cJ9_floorDiv_7cf53 3 (some .int), Cond.methodLink RX3 64 yX5_standsOut, Cond.instanceMethod yX5_standsOut, Cond.selects RX5 yX5_standsOut yX5_standsOut, Cond.code yX5_standsOut cX5_standsOut 6 (some .boolean), Cond.fieldLink RX5 29 "BaroRuns$Track" "size" "I", Cond.methodLink RX5 32 yX5_value, Cond.methodLink RX3 68 yX3_countKinds, Cond.instanceMethod yX3_countKinds, Cond.selects RX3 yX3_countKinds yX3_countKinds, Cond.code yX3_countKinds cX3_countKinds 2 none, Cond.fieldLink RX3 114 "BaroRuns$Survey" "gustCount" "I", Cond.fieldLink RX3 117 "BaroRuns$Survey" "goodCount" "I", Cond.methodLink RX3 120 yX3_isGust, Cond.instanceMethod yX3_isGust, Cond.selects RX3 yX3_isGust yX3_isGust, Cond.code yX3_isGust cX3_isGust 2 (some .boolean), Cond.methodLink RX3 95 yX3_isGood, Cond.instanceMethod yX3_isGood, Cond.selects RX3 yX3_isGood yX3_isGood, Cond.code yX3_isGood cX3_isGood 2 (some .boolean), Cond.constant RX3 85 (-2000000004), Cond.methodLink RX3 71 yX3_findLoops]
def wsX6_corrected_r5 : List Cond := [Cond.instanceMethod yX3_findLoops, Cond.selects RX3 yX3_findLoops yX3_findLoops, Cond.code yX3_findLoops cX3_findLoops 3 none, Cond.fieldLink RX3 123 "BaroRuns$Survey" "loopCount" "I", Cond.fieldLink RX3 30 "BaroRuns$Survey" "begins" "[I", Cond.fieldLink RX3 33 "BaroRuns$Survey" "ends" "[I", Cond.methodLink RX3 126 yX3_lastVisit, Cond.instanceMethod yX3_lastVisit, Cond.selects RX3 yX3_lastVisit yX3_lastVisit, Cond.code yX3_lastVisit cX3_lastVisit 4 (some .int), Cond.methodLink RX3 74 yX3_shortestLoop, Cond.instanceMethod yX3_shortestLoop, Cond.selects RX3 yX3_shortestLoop yX3_shortestLoop, Cond.code yX3_shortestLoop cX3_shortestLoop 5 (some .int), Cond.methodLink RX3 89 yX3_begin, Cond.instanceMethod yX3_begin, Cond.selects RX3 yX3_begin yX3_begin, Cond.code yX3_begin cX3_begin 2 (some .int), Cond.methodLink RX3 86 yX3_end, Cond.instanceMethod yX3_end, Cond.selects RX3 yX3_end yX3_end, Cond.code yX3_end cX3_end 2 (some .int), Cond.methodLink RX3 129 yX3_minutes, Cond.instanceMethod yX3_minutes]
def wsX6_corrected_r6 : List Cond := [Cond.selects RX3 yX3_minutes yX3_minutes, Cond.code yX3_minutes cX3_minutes 2 (some .int), Cond.methodLink RX3 78 yX3_withoutDrift, Cond.instanceMethod yX3_withoutDrift, Cond.selects RX3 yX3_withoutDrift yX3_withoutDrift, Cond.code yX3_withoutDrift cX3_withoutDrift 5 (some .int), Cond.methodLink RX3 111 yX3_openLoopOf, Cond.instanceMethod yX3_openLoopOf, Cond.selects RX3 yX3_openLoopOf yX3_openLoopOf, Cond.code yX3_openLoopOf cX3_openLoopOf 2 (some .int), Cond.methodLink RX3 92 yX3_rawHeight, Cond.instanceMethod yX3_rawHeight, Cond.selects RX3 yX3_rawHeight yX3_rawHeight, Cond.code yX3_rawHeight cX3_rawHeight 2 (some .int), Cond.methodLink RX3 132 yX3_misclosure, Cond.instanceMethod yX3_misclosure, Cond.selects RX3 yX3_misclosure yX3_misclosure, Cond.code yX3_misclosure cX3_misclosure 2 (some .int), Cond.methodLink RX6 112 yX6_surveyOf, Cond.instanceMethod yX6_surveyOf, Cond.selects RX6 yX6_surveyOf yX6_surveyOf, Cond.code yX6_surveyOf cX6_surveyOf 2 (some (.object "BaroRuns$Survey")), Cond.methodLink RX6 194 yX3_correctedHeight, Cond.instanceMethod yX3_correctedHeight]
def wsX6_corrected_r7 : List Cond := [Cond.selects RX3 yX3_correctedHeight yX3_correctedHeight, Cond.code yX3_correctedHeight cX3_correctedHeight 2 (some .int)]
def wsX6_corrected : List Cond := .code yX6_corrected cX6_corrected 3 (some .int) :: ((wsX6_corrected_r1 ++ (wsX6_corrected_r2 ++ (wsX6_corrected_r3 ++ (wsX6_corrected_r4 ++ (wsX6_corrected_r5 ++ (wsX6_corrected_r6 ++ wsX6_corrected_r7)))))) ++ wsX60 ++ wsX50 ++ wsX20 ++ wsX30)
def wsX6_point_r1 : List Cond := [Cond.constant RX6 61 (-2000000001), Cond.fieldLink RX6 42 "BaroRuns" "pointSum" "LBaroRuns$PointSum;", Cond.constant RX6 108 (-2000000004), Cond.methodLink RX6 85 yX6_isPoint, Cond.static yX6_isPoint, Cond.initialized RX6, Cond.code yX6_isPoint cX6_isPoint 1 (some .boolean), Cond.methodLink RX6 105 yX6_within, Cond.static yX6_within, Cond.code yX6_within cX6_within 3 (some .boolean), Cond.methodLink RX6 109 yX6_refresh, Cond.instanceMethod yX6_refresh, Cond.selects RX6 yX6_refresh yX6_refresh, Cond.code yX6_refresh cX6_refresh 1 none, Cond.fieldLink RX6 53 "BaroRuns" "stale" "Z", Cond.fieldLink RX6 29 "BaroRuns" "firstSurvey" "LBaroRuns$Survey;", Cond.fieldLink RX6 10 "BaroRuns" "now" "LBaroRuns$State;", Cond.fieldLink RX6 33 "BaroRuns" "secondSurvey" "LBaroRuns$Survey;", Cond.fieldLink RX6 36 "BaroRuns" "thirdSurvey" "LBaroRuns$Survey;", Cond.methodLink RX6 257 yX3_workOut, Cond.instanceMethod yX3_workOut, Cond.selects RX3 yX3_workOut yX3_workOut, Cond.initialized RX3, Cond.code yX3_workOut cX3_workOut 8 none]
def wsX6_point_r2 : List Cond := [Cond.fieldLink RX3 48 "BaroRuns$Survey" "size" "I", Cond.fieldLink RX3 9 "BaroRuns$Survey" "times" "[I", Cond.fieldLink RX3 15 "BaroRuns$Survey" "points" "[I", Cond.fieldLink RX3 18 "BaroRuns$Survey" "heights" "[I", Cond.fieldLink RX3 21 "BaroRuns$Survey" "gusts" "[I", Cond.fieldLink RX3 24 "BaroRuns$Survey" "openLoops" "[I", Cond.fieldLink RX3 27 "BaroRuns$Survey" "correctedHeights" "[I", Cond.methodLink RX3 36 yX2_track, Cond.instanceMethod yX2_track, Cond.selects RX2 yX2_track yX2_track, Cond.initialized RX2, Cond.code yX2_track cX2_track 2 (some (.object "BaroRuns$Track")), Cond.fieldLink RX2 20 "BaroRuns$State" "firstTrack" "LBaroRuns$Track;", Cond.fieldLink RX2 23 "BaroRuns$State" "secondTrack" "LBaroRuns$Track;", Cond.fieldLink RX2 26 "BaroRuns$State" "thirdTrack" "LBaroRuns$Track;", Cond.fieldLink RX2 14 "BaroRuns$State" "baseTrack" "LBaroRuns$Track;", Cond.methodLink RX3 49 yX5_value, Cond.instanceMethod yX5_value, Cond.selects RX5 yX5_value yX5_value, Cond.initialized RX5, Cond.code yX5_value cX5_value 3 (some .int), Cond.fieldLink RX5 9 "BaroRuns$Track" "values" "[I", Cond.static yX6_at, Cond.code yX6_at cX6_at 2 (some .int)]
def wsX6_point_r3 : List Cond := [Cond.static yX6_put, Cond.code yX6_put cX6_put 3 none, Cond.methodLink RX3 57 yX2_heightAt, Cond.instanceMethod yX2_heightAt, Cond.selects RX2 yX2_heightAt yX2_heightAt, Cond.code yX2_heightAt cX2_heightAt 12 (some .int), Cond.constant RX2 50 (-2000000004), Cond.constantLong RX2 63 (2930), Cond.fieldLink RX2 29 "BaroRuns$State" "baseHeight" "I", Cond.methodLink RX2 55 yX2_baseValue, Cond.instanceMethod yX2_baseValue, Cond.selects RX2 yX2_baseValue yX2_baseValue, Cond.code yX2_baseValue cX2_baseValue 10 (some .int), Cond.methodLink RX2 46 yX5_value, Cond.static yX6_divideDown, Cond.code yX6_divideDown cX6_divideDown 4 (some .long), Cond.methodLink RX6 236 yJ9_floorDiv_f86c9, Cond.static yJ9_floorDiv_f86c9, Cond.initialized RJ9, Cond.code yJ9_floorDiv_f86c9 cJ9_floorDiv_f86c9 6 (some .long), Cond.methodLink RX2 58 yJ9_floorDiv_7cf53, Cond.static yJ9_floorDiv_7cf53, Cond.code yJ9_floorDiv_7cf53 cJ9_floorDiv_7cf53 3 (some .int), Cond.methodLink RX3 64 yX5_standsOut]
def wsX6_point_r4 : List Cond := [Cond.instanceMethod yX5_standsOut, Cond.selects RX5 yX5_standsOut yX5_standsOut, Cond.code yX5_standsOut cX5_standsOut 6 (some .boolean), Cond.fieldLink RX5 29 "BaroRuns$Track" "size" "I", Cond.methodLink RX5 32 yX5_value, Cond.methodLink RX3 68 yX3_countKinds, Cond.instanceMethod yX3_countKinds, Cond.selects RX3 yX3_countKinds yX3_countKinds, Cond.code yX3_countKinds cX3_countKinds 2 none, Cond.fieldLink RX3 114 "BaroRuns$Survey" "gustCount" "I", Cond.fieldLink RX3 117 "BaroRuns$Survey" "goodCount" "I", Cond.methodLink RX3 120 yX3_isGust, Cond.instanceMethod yX3_isGust, Cond.selects RX3 yX3_isGust yX3_isGust, Cond.code yX3_isGust cX3_isGust 2 (some .boolean), Cond.methodLink RX3 95 yX3_isGood, Cond.instanceMethod yX3_isGood, Cond.selects RX3 yX3_isGood yX3_isGood, Cond.code yX3_isGood cX3_isGood 2 (some .boolean), Cond.constant RX3 85 (-2000000004), Cond.methodLink RX3 71 yX3_findLoops, Cond.instanceMethod yX3_findLoops, Cond.selects RX3 yX3_findLoops yX3_findLoops, Cond.code yX3_findLoops cX3_findLoops 3 none]
def wsX6_point_r5 : List Cond := [Cond.fieldLink RX3 123 "BaroRuns$Survey" "loopCount" "I", Cond.fieldLink RX3 30 "BaroRuns$Survey" "begins" "[I", Cond.fieldLink RX3 33 "BaroRuns$Survey" "ends" "[I", Cond.methodLink RX3 126 yX3_lastVisit, Cond.instanceMethod yX3_lastVisit, Cond.selects RX3 yX3_lastVisit yX3_lastVisit, Cond.code yX3_lastVisit cX3_lastVisit 4 (some .int), Cond.methodLink RX3 74 yX3_shortestLoop, Cond.instanceMethod yX3_shortestLoop, Cond.selects RX3 yX3_shortestLoop yX3_shortestLoop, Cond.code yX3_shortestLoop cX3_shortestLoop 5 (some .int), Cond.methodLink RX3 89 yX3_begin, Cond.instanceMethod yX3_begin, Cond.selects RX3 yX3_begin yX3_begin, Cond.code yX3_begin cX3_begin 2 (some .int), Cond.methodLink RX3 86 yX3_end, Cond.instanceMethod yX3_end, Cond.selects RX3 yX3_end yX3_end, Cond.code yX3_end cX3_end 2 (some .int), Cond.methodLink RX3 129 yX3_minutes, Cond.instanceMethod yX3_minutes, Cond.selects RX3 yX3_minutes yX3_minutes, Cond.code yX3_minutes cX3_minutes 2 (some .int), Cond.methodLink RX3 78 yX3_withoutDrift]
def wsX6_point_r6 : List Cond := [Cond.instanceMethod yX3_withoutDrift, Cond.selects RX3 yX3_withoutDrift yX3_withoutDrift, Cond.code yX3_withoutDrift cX3_withoutDrift 5 (some .int), Cond.methodLink RX3 111 yX3_openLoopOf, Cond.instanceMethod yX3_openLoopOf, Cond.selects RX3 yX3_openLoopOf yX3_openLoopOf, Cond.code yX3_openLoopOf cX3_openLoopOf 2 (some .int), Cond.methodLink RX3 92 yX3_rawHeight, Cond.instanceMethod yX3_rawHeight, Cond.selects RX3 yX3_rawHeight yX3_rawHeight, Cond.code yX3_rawHeight cX3_rawHeight 2 (some .int), Cond.methodLink RX3 132 yX3_misclosure, Cond.instanceMethod yX3_misclosure, Cond.selects RX3 yX3_misclosure yX3_misclosure, Cond.code yX3_misclosure cX3_misclosure 2 (some .int), Cond.methodLink RX6 197 yX6_gather, Cond.instanceMethod yX6_gather, Cond.selects RX6 yX6_gather yX6_gather, Cond.code yX6_gather cX6_gather 3 none, Cond.methodLink RX6 261 yX1_clear, Cond.instanceMethod yX1_clear, Cond.selects RX1 yX1_clear yX1_clear, Cond.initialized RX1, Cond.code yX1_clear cX1_clear 1 none]
def wsX6_point_r7 : List Cond := [Cond.fieldLink RX1 7 "BaroRuns$PointSum" "sum" "J", Cond.fieldLink RX1 13 "BaroRuns$PointSum" "number" "I", Cond.methodLink RX6 112 yX6_surveyOf, Cond.instanceMethod yX6_surveyOf, Cond.selects RX6 yX6_surveyOf yX6_surveyOf, Cond.code yX6_surveyOf cX6_surveyOf 2 (some (.object "BaroRuns$Survey")), Cond.methodLink RX6 264 yX3_addTo, Cond.instanceMethod yX3_addTo, Cond.selects RX3 yX3_addTo yX3_addTo, Cond.code yX3_addTo cX3_addTo 4 none, Cond.methodLink RX3 99 yX3_endsOpenLoop, Cond.instanceMethod yX3_endsOpenLoop, Cond.selects RX3 yX3_endsOpenLoop yX3_endsOpenLoop, Cond.code yX3_endsOpenLoop cX3_endsOpenLoop 3 (some .boolean), Cond.methodLink RX3 102 yX3_correctedHeight, Cond.instanceMethod yX3_correctedHeight, Cond.selects RX3 yX3_correctedHeight yX3_correctedHeight, Cond.code yX3_correctedHeight cX3_correctedHeight 2 (some .int), Cond.methodLink RX3 105 yX1_add, Cond.instanceMethod yX1_add, Cond.selects RX1 yX1_add yX1_add, Cond.code yX1_add cX1_add 2 none, Cond.fieldLink RX1 17 "BaroRuns$PointSum" "least" "I", Cond.methodLink RX1 20 Lib.Math.min.name]
def wsX6_point_r8 : List Cond := [Cond.static Lib.Math.min.name, Cond.initialized "java/lang/Math", Cond.code Lib.Math.min.name Lib.Math.min.code 2 (some .int), Cond.fieldLink RX1 26 "BaroRuns$PointSum" "greatest" "I", Cond.methodLink RX1 29 Lib.Math.max.name, Cond.static Lib.Math.max.name, Cond.code Lib.Math.max.name Lib.Math.max.code 2 (some .int), Cond.methodLink RX6 203 yX1_height, Cond.instanceMethod yX1_height, Cond.selects RX1 yX1_height yX1_height, Cond.code yX1_height cX1_height 1 (some .int), Cond.methodLink RX6 206 yX1_spread, Cond.instanceMethod yX1_spread, Cond.selects RX1 yX1_spread yX1_spread, Cond.code yX1_spread cX1_spread 1 (some .int)]
def wsX6_point : List Cond := .code yX6_point cX6_point 3 (some .int) :: ((wsX6_point_r1 ++ (wsX6_point_r2 ++ (wsX6_point_r3 ++ (wsX6_point_r4 ++ (wsX6_point_r5 ++ (wsX6_point_r6 ++ (wsX6_point_r7 ++ wsX6_point_r8))))))) ++ wsX60 ++ wsX10 ++ wsX50 ++ wsX30 ++ wsX20)
def wsX6_worst_r1 : List Cond := [Cond.constant RX6 61 (-2000000001), Cond.constant RX6 108 (-2000000004), Cond.methodLink RX6 209 Lib.Math.abs.name, Cond.static Lib.Math.abs.name, Cond.initialized "java/lang/Math", Cond.code Lib.Math.abs.name Lib.Math.abs.code 1 (some .int), Cond.methodLink RX6 105 yX6_within, Cond.static yX6_within, Cond.initialized RX6, Cond.code yX6_within cX6_within 3 (some .boolean), Cond.methodLink RX6 109 yX6_refresh, Cond.instanceMethod yX6_refresh, Cond.selects RX6 yX6_refresh yX6_refresh, Cond.code yX6_refresh cX6_refresh 1 none, Cond.fieldLink RX6 53 "BaroRuns" "stale" "Z", Cond.fieldLink RX6 29 "BaroRuns" "firstSurvey" "LBaroRuns$Survey;", Cond.fieldLink RX6 10 "BaroRuns" "now" "LBaroRuns$State;", Cond.fieldLink RX6 33 "BaroRuns" "secondSurvey" "LBaroRuns$Survey;", Cond.fieldLink RX6 36 "BaroRuns" "thirdSurvey" "LBaroRuns$Survey;", Cond.methodLink RX6 257 yX3_workOut, Cond.instanceMethod yX3_workOut, Cond.selects RX3 yX3_workOut yX3_workOut, Cond.initialized RX3, Cond.code yX3_workOut cX3_workOut 8 none]
def wsX6_worst_r2 : List Cond := [Cond.fieldLink RX3 48 "BaroRuns$Survey" "size" "I", Cond.fieldLink RX3 9 "BaroRuns$Survey" "times" "[I", Cond.fieldLink RX3 15 "BaroRuns$Survey" "points" "[I", Cond.fieldLink RX3 18 "BaroRuns$Survey" "heights" "[I", Cond.fieldLink RX3 21 "BaroRuns$Survey" "gusts" "[I", Cond.fieldLink RX3 24 "BaroRuns$Survey" "openLoops" "[I", Cond.fieldLink RX3 27 "BaroRuns$Survey" "correctedHeights" "[I", Cond.methodLink RX3 36 yX2_track, Cond.instanceMethod yX2_track, Cond.selects RX2 yX2_track yX2_track, Cond.initialized RX2, Cond.code yX2_track cX2_track 2 (some (.object "BaroRuns$Track")), Cond.fieldLink RX2 20 "BaroRuns$State" "firstTrack" "LBaroRuns$Track;", Cond.fieldLink RX2 23 "BaroRuns$State" "secondTrack" "LBaroRuns$Track;", Cond.fieldLink RX2 26 "BaroRuns$State" "thirdTrack" "LBaroRuns$Track;", Cond.fieldLink RX2 14 "BaroRuns$State" "baseTrack" "LBaroRuns$Track;", Cond.methodLink RX3 49 yX5_value, Cond.instanceMethod yX5_value, Cond.selects RX5 yX5_value yX5_value, Cond.initialized RX5, Cond.code yX5_value cX5_value 3 (some .int), Cond.fieldLink RX5 9 "BaroRuns$Track" "values" "[I", Cond.static yX6_at, Cond.code yX6_at cX6_at 2 (some .int)]
def wsX6_worst_r3 : List Cond := [Cond.static yX6_put, Cond.code yX6_put cX6_put 3 none, Cond.methodLink RX3 57 yX2_heightAt, Cond.instanceMethod yX2_heightAt, Cond.selects RX2 yX2_heightAt yX2_heightAt, Cond.code yX2_heightAt cX2_heightAt 12 (some .int), Cond.constant RX2 50 (-2000000004), Cond.constantLong RX2 63 (2930), Cond.fieldLink RX2 29 "BaroRuns$State" "baseHeight" "I", Cond.methodLink RX2 55 yX2_baseValue, Cond.instanceMethod yX2_baseValue, Cond.selects RX2 yX2_baseValue yX2_baseValue, Cond.code yX2_baseValue cX2_baseValue 10 (some .int), Cond.methodLink RX2 46 yX5_value, Cond.static yX6_divideDown, Cond.code yX6_divideDown cX6_divideDown 4 (some .long), Cond.methodLink RX6 236 yJ9_floorDiv_f86c9, Cond.static yJ9_floorDiv_f86c9, Cond.initialized RJ9, Cond.code yJ9_floorDiv_f86c9 cJ9_floorDiv_f86c9 6 (some .long), Cond.methodLink RX2 58 yJ9_floorDiv_7cf53, Cond.static yJ9_floorDiv_7cf53, Cond.code yJ9_floorDiv_7cf53 cJ9_floorDiv_7cf53 3 (some .int), Cond.methodLink RX3 64 yX5_standsOut]
def wsX6_worst_r4 : List Cond := [Cond.instanceMethod yX5_standsOut, Cond.selects RX5 yX5_standsOut yX5_standsOut, Cond.code yX5_standsOut cX5_standsOut 6 (some .boolean), Cond.fieldLink RX5 29 "BaroRuns$Track" "size" "I", Cond.methodLink RX5 32 yX5_value, Cond.methodLink RX3 68 yX3_countKinds, Cond.instanceMethod yX3_countKinds, Cond.selects RX3 yX3_countKinds yX3_countKinds, Cond.code yX3_countKinds cX3_countKinds 2 none, Cond.fieldLink RX3 114 "BaroRuns$Survey" "gustCount" "I", Cond.fieldLink RX3 117 "BaroRuns$Survey" "goodCount" "I", Cond.methodLink RX3 120 yX3_isGust, Cond.instanceMethod yX3_isGust, Cond.selects RX3 yX3_isGust yX3_isGust, Cond.code yX3_isGust cX3_isGust 2 (some .boolean), Cond.methodLink RX3 95 yX3_isGood, Cond.instanceMethod yX3_isGood, Cond.selects RX3 yX3_isGood yX3_isGood, Cond.code yX3_isGood cX3_isGood 2 (some .boolean), Cond.constant RX3 85 (-2000000004), Cond.methodLink RX3 71 yX3_findLoops, Cond.instanceMethod yX3_findLoops, Cond.selects RX3 yX3_findLoops yX3_findLoops, Cond.code yX3_findLoops cX3_findLoops 3 none]
def wsX6_worst_r5 : List Cond := [Cond.fieldLink RX3 123 "BaroRuns$Survey" "loopCount" "I", Cond.fieldLink RX3 30 "BaroRuns$Survey" "begins" "[I", Cond.fieldLink RX3 33 "BaroRuns$Survey" "ends" "[I", Cond.methodLink RX3 126 yX3_lastVisit, Cond.instanceMethod yX3_lastVisit, Cond.selects RX3 yX3_lastVisit yX3_lastVisit, Cond.code yX3_lastVisit cX3_lastVisit 4 (some .int), Cond.methodLink RX3 74 yX3_shortestLoop, Cond.instanceMethod yX3_shortestLoop, Cond.selects RX3 yX3_shortestLoop yX3_shortestLoop, Cond.code yX3_shortestLoop cX3_shortestLoop 5 (some .int), Cond.methodLink RX3 89 yX3_begin, Cond.instanceMethod yX3_begin, Cond.selects RX3 yX3_begin yX3_begin, Cond.code yX3_begin cX3_begin 2 (some .int), Cond.methodLink RX3 86 yX3_end, Cond.instanceMethod yX3_end, Cond.selects RX3 yX3_end yX3_end, Cond.code yX3_end cX3_end 2 (some .int), Cond.methodLink RX3 129 yX3_minutes, Cond.instanceMethod yX3_minutes, Cond.selects RX3 yX3_minutes yX3_minutes, Cond.code yX3_minutes cX3_minutes 2 (some .int), Cond.methodLink RX3 78 yX3_withoutDrift]
def wsX6_worst_r6 : List Cond := [Cond.instanceMethod yX3_withoutDrift, Cond.selects RX3 yX3_withoutDrift yX3_withoutDrift, Cond.code yX3_withoutDrift cX3_withoutDrift 5 (some .int), Cond.methodLink RX3 111 yX3_openLoopOf, Cond.instanceMethod yX3_openLoopOf, Cond.selects RX3 yX3_openLoopOf yX3_openLoopOf, Cond.code yX3_openLoopOf cX3_openLoopOf 2 (some .int), Cond.methodLink RX3 92 yX3_rawHeight, Cond.instanceMethod yX3_rawHeight, Cond.selects RX3 yX3_rawHeight yX3_rawHeight, Cond.code yX3_rawHeight cX3_rawHeight 2 (some .int), Cond.methodLink RX3 132 yX3_misclosure, Cond.instanceMethod yX3_misclosure, Cond.selects RX3 yX3_misclosure yX3_misclosure, Cond.code yX3_misclosure cX3_misclosure 2 (some .int), Cond.methodLink RX6 112 yX6_surveyOf, Cond.instanceMethod yX6_surveyOf, Cond.selects RX6 yX6_surveyOf yX6_surveyOf, Cond.code yX6_surveyOf cX6_surveyOf 2 (some (.object "BaroRuns$Survey")), Cond.methodLink RX6 182 yX3_misclosure]
def wsX6_worst : List Cond := .code yX6_worst cX6_worst 9 (some .int) :: ((wsX6_worst_r1 ++ (wsX6_worst_r2 ++ (wsX6_worst_r3 ++ (wsX6_worst_r4 ++ (wsX6_worst_r5 ++ wsX6_worst_r6))))) ++ wsX30 ++ wsX60 ++ wsX50 ++ wsX20)
def wsX6_type : List Cond := .code yX6_type cX6_type 2 (some .int) :: ([.constant RX6 61 (-2000000001), .fieldLink RX6 49 "BaroRuns" "text" "LBaroRuns$Text;", .constant RX6 214 (-2000000003), .methodLink RX6 105 yX6_within, .static yX6_within, .initialized RX6, .code yX6_within cX6_within 3 (some .boolean), .methodLink RX6 215 yX4_append, .instanceMethod yX4_append, .selects RX4 yX4_append yX4_append, .initialized RX4, .code yX4_append cX4_append 2 none, .fieldLink RX4 19 "BaroRuns$Text" "length" "I", .fieldLink RX4 9 "BaroRuns$Text" "characters" "[I", .static yX6_put, .code yX6_put cX6_put 3 none] ++ wsX60 ++ wsX40)
def wsX6_clearText : List Cond := .code yX6_clearText cX6_clearText 2 (some .int) :: ([.fieldLink RX6 49 "BaroRuns" "text" "LBaroRuns$Text;"] ++ wsX60 ++ wsX40)
def wsX6_tryText_r1 : List Cond := [Cond.fieldLink RX6 16 "BaroRuns" "trial" "LBaroRuns$State;", Cond.fieldLink RX6 10 "BaroRuns" "now" "LBaroRuns$State;", Cond.fieldLink RX6 49 "BaroRuns" "text" "LBaroRuns$Text;", Cond.methodLink RX6 227 yX2_copyFrom, Cond.instanceMethod yX2_copyFrom, Cond.selects RX2 yX2_copyFrom yX2_copyFrom, Cond.initialized RX2, Cond.code yX2_copyFrom cX2_copyFrom 2 none, Cond.fieldLink RX2 14 "BaroRuns$State" "baseTrack" "LBaroRuns$Track;", Cond.fieldLink RX2 20 "BaroRuns$State" "firstTrack" "LBaroRuns$Track;", Cond.fieldLink RX2 23 "BaroRuns$State" "secondTrack" "LBaroRuns$Track;", Cond.fieldLink RX2 26 "BaroRuns$State" "thirdTrack" "LBaroRuns$Track;", Cond.fieldLink RX2 29 "BaroRuns$State" "baseHeight" "I", Cond.fieldLink RX2 33 "BaroRuns$State" "gustLimit" "I", Cond.fieldLink RX2 36 "BaroRuns$State" "stepLimit" "I", Cond.methodLink RX2 39 yX5_copyFrom, Cond.instanceMethod yX5_copyFrom, Cond.selects RX5 yX5_copyFrom yX5_copyFrom, Cond.initialized RX5, Cond.code yX5_copyFrom cX5_copyFrom 2 none, Cond.fieldLink RX5 9 "BaroRuns$Track" "values" "[I", Cond.methodLink RX5 15 Lib.Math.min.name, Cond.static Lib.Math.min.name, Cond.initialized "java/lang/Math"]
def wsX6_tryText_r2 : List Cond := [Cond.code Lib.Math.min.name Lib.Math.min.code 2 (some .int), Cond.methodLink RX5 43 arraycopyName, Cond.native arraycopyName, Cond.static arraycopyName, Cond.initialized "java/lang/System", Cond.fieldLink RX5 29 "BaroRuns$Track" "size" "I", Cond.methodLink RX6 254 yX4_readInto, Cond.instanceMethod yX4_readInto, Cond.selects RX4 yX4_readInto yX4_readInto, Cond.initialized RX4, Cond.code yX4_readInto cX4_readInto 4 none, Cond.fieldLink RX4 26 "BaroRuns$Text" "position" "I", Cond.fieldLink RX4 29 "BaroRuns$Text" "taken" "I", Cond.fieldLink RX4 15 "BaroRuns$Text" "faultPosition" "I", Cond.fieldLink RX4 19 "BaroRuns$Text" "length" "I", Cond.fieldLink RX4 36 "BaroRuns$Text" "cell" "I", Cond.fieldLink RX4 49 "BaroRuns$Text" "faultReason" "I", Cond.fieldLink RX4 52 "BaroRuns$Text" "point" "I", Cond.fieldLink RX4 55 "BaroRuns$Text" "time" "I", Cond.fieldLink RX4 58 "BaroRuns$Text" "pressure" "I", Cond.fieldLink RX4 61 "BaroRuns$Text" "temperature" "I", Cond.methodLink RX4 32 yX4_takeReading, Cond.instanceMethod yX4_takeReading, Cond.selects RX4 yX4_takeReading yX4_takeReading]
def wsX6_tryText_r3 : List Cond := [Cond.code yX4_takeReading cX4_takeReading 3 (some .boolean), Cond.methodLink RX4 81 yX4_takePlace, Cond.instanceMethod yX4_takePlace, Cond.selects RX4 yX4_takePlace yX4_takePlace, Cond.code yX4_takePlace cX4_takePlace 1 (some .boolean), Cond.methodLink RX4 84 yX4_skip, Cond.instanceMethod yX4_skip, Cond.selects RX4 yX4_skip yX4_skip, Cond.code yX4_skip cX4_skip 2 (some .boolean), Cond.fieldLink RX4 9 "BaroRuns$Text" "characters" "[I", Cond.static yX6_at, Cond.initialized RX6, Cond.code yX6_at cX6_at 2 (some .int), Cond.methodLink RX4 88 yX4_takeNumber, Cond.instanceMethod yX4_takeNumber, Cond.selects RX4 yX4_takeNumber yX4_takeNumber, Cond.code yX4_takeNumber cX4_takeNumber 5 (some .int), Cond.static yX6_within, Cond.code yX6_within cX6_within 3 (some .boolean), Cond.methodLink RX4 39 yX2_track, Cond.instanceMethod yX2_track, Cond.selects RX2 yX2_track yX2_track, Cond.code yX2_track cX2_track 2 (some (.object "BaroRuns$Track")), Cond.methodLink RX4 45 yX4_reasonAgainst]
def wsX6_tryText_r4 : List Cond := [Cond.instanceMethod yX4_reasonAgainst, Cond.selects RX4 yX4_reasonAgainst yX4_reasonAgainst, Cond.code yX4_reasonAgainst cX4_reasonAgainst 2 (some .int), Cond.static yX6_isReading, Cond.code yX6_isReading cX6_isReading 3 (some .boolean), Cond.constant RX6 172 (50000), Cond.constant RX6 235 (110000), Cond.methodLink RX6 151 yX6_isTime, Cond.static yX6_isTime, Cond.code yX6_isTime cX6_isTime 1 (some .boolean), Cond.methodLink RX6 105 yX6_within, Cond.methodLink RX6 167 yX6_isTemperature, Cond.static yX6_isTemperature, Cond.code yX6_isTemperature cX6_isTemperature 1 (some .boolean), Cond.methodLink RX4 74 yX5_hasTime, Cond.instanceMethod yX5_hasTime, Cond.selects RX5 yX5_hasTime yX5_hasTime, Cond.code yX5_hasTime cX5_hasTime 3 (some .boolean), Cond.methodLink RX5 32 yX5_value, Cond.instanceMethod yX5_value, Cond.selects RX5 yX5_value yX5_value, Cond.code yX5_value cX5_value 3 (some .int), Cond.methodLink RX4 78 yX5_isFull, Cond.instanceMethod yX5_isFull]
def wsX6_tryText_r5 : List Cond := [Cond.selects RX5 yX5_isFull yX5_isFull, Cond.code yX5_isFull cX5_isFull 1 (some .boolean), Cond.fieldLink RX5 21 "BaroRuns$Track" "room" "I", Cond.methodLink RX4 64 yX5_insert, Cond.instanceMethod yX5_insert, Cond.selects RX5 yX5_insert yX5_insert, Cond.code yX5_insert cX5_insert 7 (some .int), Cond.methodLink RX5 35 yX5_move, Cond.instanceMethod yX5_move, Cond.selects RX5 yX5_move yX5_move, Cond.code yX5_move cX5_move 4 none, Cond.static yX6_put, Cond.code yX6_put cX6_put 3 none]
def wsX6_tryText : List Cond := .code yX6_tryText cX6_tryText 1 none :: ((wsX6_tryText_r1 ++ (wsX6_tryText_r2 ++ (wsX6_tryText_r3 ++ (wsX6_tryText_r4 ++ wsX6_tryText_r5)))) ++ wsX60 ++ wsX20 ++ wsX50 ++ wsX40)
def wsX6_fault_r1 : List Cond := [Cond.constant RX6 61 (-2000000001), Cond.fieldLink RX6 49 "BaroRuns" "text" "LBaroRuns$Text;", Cond.constant RX6 108 (-2000000004), Cond.methodLink RX6 105 yX6_within, Cond.static yX6_within, Cond.initialized RX6, Cond.code yX6_within cX6_within 3 (some .boolean), Cond.methodLink RX6 218 yX6_tryText, Cond.instanceMethod yX6_tryText, Cond.selects RX6 yX6_tryText yX6_tryText, Cond.code yX6_tryText cX6_tryText 1 none, Cond.fieldLink RX6 16 "BaroRuns" "trial" "LBaroRuns$State;", Cond.fieldLink RX6 10 "BaroRuns" "now" "LBaroRuns$State;", Cond.methodLink RX6 227 yX2_copyFrom, Cond.instanceMethod yX2_copyFrom, Cond.selects RX2 yX2_copyFrom yX2_copyFrom, Cond.initialized RX2, Cond.code yX2_copyFrom cX2_copyFrom 2 none, Cond.fieldLink RX2 14 "BaroRuns$State" "baseTrack" "LBaroRuns$Track;", Cond.fieldLink RX2 20 "BaroRuns$State" "firstTrack" "LBaroRuns$Track;", Cond.fieldLink RX2 23 "BaroRuns$State" "secondTrack" "LBaroRuns$Track;", Cond.fieldLink RX2 26 "BaroRuns$State" "thirdTrack" "LBaroRuns$Track;", Cond.fieldLink RX2 29 "BaroRuns$State" "baseHeight" "I", Cond.fieldLink RX2 33 "BaroRuns$State" "gustLimit" "I"]
def wsX6_fault_r2 : List Cond := [Cond.fieldLink RX2 36 "BaroRuns$State" "stepLimit" "I", Cond.methodLink RX2 39 yX5_copyFrom, Cond.instanceMethod yX5_copyFrom, Cond.selects RX5 yX5_copyFrom yX5_copyFrom, Cond.initialized RX5, Cond.code yX5_copyFrom cX5_copyFrom 2 none, Cond.fieldLink RX5 9 "BaroRuns$Track" "values" "[I", Cond.methodLink RX5 15 Lib.Math.min.name, Cond.static Lib.Math.min.name, Cond.initialized "java/lang/Math", Cond.code Lib.Math.min.name Lib.Math.min.code 2 (some .int), Cond.methodLink RX5 43 arraycopyName, Cond.native arraycopyName, Cond.static arraycopyName, Cond.initialized "java/lang/System", Cond.fieldLink RX5 29 "BaroRuns$Track" "size" "I", Cond.methodLink RX6 254 yX4_readInto, Cond.instanceMethod yX4_readInto, Cond.selects RX4 yX4_readInto yX4_readInto, Cond.initialized RX4, Cond.code yX4_readInto cX4_readInto 4 none, Cond.fieldLink RX4 26 "BaroRuns$Text" "position" "I", Cond.fieldLink RX4 29 "BaroRuns$Text" "taken" "I", Cond.fieldLink RX4 15 "BaroRuns$Text" "faultPosition" "I"]
def wsX6_fault_r3 : List Cond := [Cond.fieldLink RX4 19 "BaroRuns$Text" "length" "I", Cond.fieldLink RX4 36 "BaroRuns$Text" "cell" "I", Cond.fieldLink RX4 49 "BaroRuns$Text" "faultReason" "I", Cond.fieldLink RX4 52 "BaroRuns$Text" "point" "I", Cond.fieldLink RX4 55 "BaroRuns$Text" "time" "I", Cond.fieldLink RX4 58 "BaroRuns$Text" "pressure" "I", Cond.fieldLink RX4 61 "BaroRuns$Text" "temperature" "I", Cond.methodLink RX4 32 yX4_takeReading, Cond.instanceMethod yX4_takeReading, Cond.selects RX4 yX4_takeReading yX4_takeReading, Cond.code yX4_takeReading cX4_takeReading 3 (some .boolean), Cond.methodLink RX4 81 yX4_takePlace, Cond.instanceMethod yX4_takePlace, Cond.selects RX4 yX4_takePlace yX4_takePlace, Cond.code yX4_takePlace cX4_takePlace 1 (some .boolean), Cond.methodLink RX4 84 yX4_skip, Cond.instanceMethod yX4_skip, Cond.selects RX4 yX4_skip yX4_skip, Cond.code yX4_skip cX4_skip 2 (some .boolean), Cond.fieldLink RX4 9 "BaroRuns$Text" "characters" "[I", Cond.static yX6_at, Cond.code yX6_at cX6_at 2 (some .int), Cond.methodLink RX4 88 yX4_takeNumber, Cond.instanceMethod yX4_takeNumber]
def wsX6_fault_r4 : List Cond := [Cond.selects RX4 yX4_takeNumber yX4_takeNumber, Cond.code yX4_takeNumber cX4_takeNumber 5 (some .int), Cond.methodLink RX4 39 yX2_track, Cond.instanceMethod yX2_track, Cond.selects RX2 yX2_track yX2_track, Cond.code yX2_track cX2_track 2 (some (.object "BaroRuns$Track")), Cond.methodLink RX4 45 yX4_reasonAgainst, Cond.instanceMethod yX4_reasonAgainst, Cond.selects RX4 yX4_reasonAgainst yX4_reasonAgainst, Cond.code yX4_reasonAgainst cX4_reasonAgainst 2 (some .int), Cond.static yX6_isReading, Cond.code yX6_isReading cX6_isReading 3 (some .boolean), Cond.constant RX6 172 (50000), Cond.constant RX6 235 (110000), Cond.methodLink RX6 151 yX6_isTime, Cond.static yX6_isTime, Cond.code yX6_isTime cX6_isTime 1 (some .boolean), Cond.methodLink RX6 167 yX6_isTemperature, Cond.static yX6_isTemperature, Cond.code yX6_isTemperature cX6_isTemperature 1 (some .boolean), Cond.methodLink RX4 74 yX5_hasTime, Cond.instanceMethod yX5_hasTime, Cond.selects RX5 yX5_hasTime yX5_hasTime, Cond.code yX5_hasTime cX5_hasTime 3 (some .boolean)]
def wsX6_fault_r5 : List Cond := [Cond.methodLink RX5 32 yX5_value, Cond.instanceMethod yX5_value, Cond.selects RX5 yX5_value yX5_value, Cond.code yX5_value cX5_value 3 (some .int), Cond.methodLink RX4 78 yX5_isFull, Cond.instanceMethod yX5_isFull, Cond.selects RX5 yX5_isFull yX5_isFull, Cond.code yX5_isFull cX5_isFull 1 (some .boolean), Cond.fieldLink RX5 21 "BaroRuns$Track" "room" "I", Cond.methodLink RX4 64 yX5_insert, Cond.instanceMethod yX5_insert, Cond.selects RX5 yX5_insert yX5_insert, Cond.code yX5_insert cX5_insert 7 (some .int), Cond.methodLink RX5 35 yX5_move, Cond.instanceMethod yX5_move, Cond.selects RX5 yX5_move yX5_move, Cond.code yX5_move cX5_move 4 none, Cond.static yX6_put, Cond.code yX6_put cX6_put 3 none]
def wsX6_fault : List Cond := .code yX6_fault cX6_fault 2 (some .int) :: ((wsX6_fault_r1 ++ (wsX6_fault_r2 ++ (wsX6_fault_r3 ++ (wsX6_fault_r4 ++ wsX6_fault_r5)))) ++ wsX60 ++ wsX40 ++ wsX20 ++ wsX50)
def wsX6_enter_r1 : List Cond := [Cond.fieldLink RX6 49 "BaroRuns" "text" "LBaroRuns$Text;", Cond.constant RX6 146 (-2000000002), Cond.fieldLink RX6 10 "BaroRuns" "now" "LBaroRuns$State;", Cond.fieldLink RX6 16 "BaroRuns" "trial" "LBaroRuns$State;", Cond.methodLink RX6 218 yX6_tryText, Cond.instanceMethod yX6_tryText, Cond.selects RX6 yX6_tryText yX6_tryText, Cond.initialized RX6, Cond.code yX6_tryText cX6_tryText 1 none, Cond.methodLink RX6 227 yX2_copyFrom, Cond.instanceMethod yX2_copyFrom, Cond.selects RX2 yX2_copyFrom yX2_copyFrom, Cond.initialized RX2, Cond.code yX2_copyFrom cX2_copyFrom 2 none, Cond.fieldLink RX2 14 "BaroRuns$State" "baseTrack" "LBaroRuns$Track;", Cond.fieldLink RX2 20 "BaroRuns$State" "firstTrack" "LBaroRuns$Track;", Cond.fieldLink RX2 23 "BaroRuns$State" "secondTrack" "LBaroRuns$Track;", Cond.fieldLink RX2 26 "BaroRuns$State" "thirdTrack" "LBaroRuns$Track;", Cond.fieldLink RX2 29 "BaroRuns$State" "baseHeight" "I", Cond.fieldLink RX2 33 "BaroRuns$State" "gustLimit" "I", Cond.fieldLink RX2 36 "BaroRuns$State" "stepLimit" "I", Cond.methodLink RX2 39 yX5_copyFrom, Cond.instanceMethod yX5_copyFrom, Cond.selects RX5 yX5_copyFrom yX5_copyFrom]
def wsX6_enter_r2 : List Cond := [Cond.initialized RX5, Cond.code yX5_copyFrom cX5_copyFrom 2 none, Cond.fieldLink RX5 9 "BaroRuns$Track" "values" "[I", Cond.methodLink RX5 15 Lib.Math.min.name, Cond.static Lib.Math.min.name, Cond.initialized "java/lang/Math", Cond.code Lib.Math.min.name Lib.Math.min.code 2 (some .int), Cond.methodLink RX5 43 arraycopyName, Cond.native arraycopyName, Cond.static arraycopyName, Cond.initialized "java/lang/System", Cond.fieldLink RX5 29 "BaroRuns$Track" "size" "I", Cond.methodLink RX6 254 yX4_readInto, Cond.instanceMethod yX4_readInto, Cond.selects RX4 yX4_readInto yX4_readInto, Cond.initialized RX4, Cond.code yX4_readInto cX4_readInto 4 none, Cond.fieldLink RX4 26 "BaroRuns$Text" "position" "I", Cond.fieldLink RX4 29 "BaroRuns$Text" "taken" "I", Cond.fieldLink RX4 15 "BaroRuns$Text" "faultPosition" "I", Cond.fieldLink RX4 19 "BaroRuns$Text" "length" "I", Cond.fieldLink RX4 36 "BaroRuns$Text" "cell" "I", Cond.fieldLink RX4 49 "BaroRuns$Text" "faultReason" "I", Cond.fieldLink RX4 52 "BaroRuns$Text" "point" "I"]
def wsX6_enter_r3 : List Cond := [Cond.fieldLink RX4 55 "BaroRuns$Text" "time" "I", Cond.fieldLink RX4 58 "BaroRuns$Text" "pressure" "I", Cond.fieldLink RX4 61 "BaroRuns$Text" "temperature" "I", Cond.methodLink RX4 32 yX4_takeReading, Cond.instanceMethod yX4_takeReading, Cond.selects RX4 yX4_takeReading yX4_takeReading, Cond.code yX4_takeReading cX4_takeReading 3 (some .boolean), Cond.methodLink RX4 81 yX4_takePlace, Cond.instanceMethod yX4_takePlace, Cond.selects RX4 yX4_takePlace yX4_takePlace, Cond.code yX4_takePlace cX4_takePlace 1 (some .boolean), Cond.methodLink RX4 84 yX4_skip, Cond.instanceMethod yX4_skip, Cond.selects RX4 yX4_skip yX4_skip, Cond.code yX4_skip cX4_skip 2 (some .boolean), Cond.fieldLink RX4 9 "BaroRuns$Text" "characters" "[I", Cond.static yX6_at, Cond.code yX6_at cX6_at 2 (some .int), Cond.methodLink RX4 88 yX4_takeNumber, Cond.instanceMethod yX4_takeNumber, Cond.selects RX4 yX4_takeNumber yX4_takeNumber, Cond.code yX4_takeNumber cX4_takeNumber 5 (some .int), Cond.static yX6_within, Cond.code yX6_within cX6_within 3 (some .boolean)]
def wsX6_enter_r4 : List Cond := [Cond.methodLink RX4 39 yX2_track, Cond.instanceMethod yX2_track, Cond.selects RX2 yX2_track yX2_track, Cond.code yX2_track cX2_track 2 (some (.object "BaroRuns$Track")), Cond.methodLink RX4 45 yX4_reasonAgainst, Cond.instanceMethod yX4_reasonAgainst, Cond.selects RX4 yX4_reasonAgainst yX4_reasonAgainst, Cond.code yX4_reasonAgainst cX4_reasonAgainst 2 (some .int), Cond.static yX6_isReading, Cond.code yX6_isReading cX6_isReading 3 (some .boolean), Cond.constant RX6 172 (50000), Cond.constant RX6 235 (110000), Cond.methodLink RX6 151 yX6_isTime, Cond.static yX6_isTime, Cond.code yX6_isTime cX6_isTime 1 (some .boolean), Cond.methodLink RX6 105 yX6_within, Cond.methodLink RX6 167 yX6_isTemperature, Cond.static yX6_isTemperature, Cond.code yX6_isTemperature cX6_isTemperature 1 (some .boolean), Cond.methodLink RX4 74 yX5_hasTime, Cond.instanceMethod yX5_hasTime, Cond.selects RX5 yX5_hasTime yX5_hasTime, Cond.code yX5_hasTime cX5_hasTime 3 (some .boolean), Cond.methodLink RX5 32 yX5_value]
def wsX6_enter_r5 : List Cond := [Cond.instanceMethod yX5_value, Cond.selects RX5 yX5_value yX5_value, Cond.code yX5_value cX5_value 3 (some .int), Cond.methodLink RX4 78 yX5_isFull, Cond.instanceMethod yX5_isFull, Cond.selects RX5 yX5_isFull yX5_isFull, Cond.code yX5_isFull cX5_isFull 1 (some .boolean), Cond.fieldLink RX5 21 "BaroRuns$Track" "room" "I", Cond.methodLink RX4 64 yX5_insert, Cond.instanceMethod yX5_insert, Cond.selects RX5 yX5_insert yX5_insert, Cond.code yX5_insert cX5_insert 7 (some .int), Cond.methodLink RX5 35 yX5_move, Cond.instanceMethod yX5_move, Cond.selects RX5 yX5_move yX5_move, Cond.code yX5_move cX5_move 4 none, Cond.static yX6_put, Cond.code yX6_put cX6_put 3 none, Cond.methodLink RX6 62 yX6_record, Cond.instanceMethod yX6_record, Cond.selects RX6 yX6_record yX6_record, Cond.code yX6_record cX6_record 1 none, Cond.fieldLink RX6 22 "BaroRuns" "history" "LBaroRuns$History;", Cond.fieldLink RX6 53 "BaroRuns" "stale" "Z"]
def wsX6_enter_r6 : List Cond := [Cond.methodLink RX6 240 yX0_keep, Cond.instanceMethod yX0_keep, Cond.selects RX0 yX0_keep yX0_keep, Cond.initialized RX0, Cond.code yX0_keep cX0_keep 3 none, Cond.fieldLink RX0 18 "BaroRuns$History" "size" "I", Cond.fieldLink RX0 22 "BaroRuns$History" "oldest" "I", Cond.methodLink RX0 25 yX0_place, Cond.instanceMethod yX0_place, Cond.selects RX0 yX0_place yX0_place, Cond.code yX0_place cX0_place 3 (some (.object "BaroRuns$State")), Cond.fieldLink RX0 11 "BaroRuns$History" "places" "[LBaroRuns$State;", Cond.methodLink RX0 29 yX2_copyFrom]
def wsX6_enter : List Cond := .code yX6_enter cX6_enter 1 (some .int) :: ((wsX6_enter_r1 ++ (wsX6_enter_r2 ++ (wsX6_enter_r3 ++ (wsX6_enter_r4 ++ (wsX6_enter_r5 ++ wsX6_enter_r6))))) ++ wsX60 ++ wsX40 ++ wsX20 ++ wsX50 ++ wsX00)
def wsX7_init : List Cond := .code yX7_init cX7_init 1 none :: ([.methodLink RX7 1 objectInit, .instanceMethod objectInit, .code objectInit ⟨#[0xb1]⟩ 1 none, .arrayClass .int, .fieldLink RX7 7 "BaroRunsModel" "d" "[I", .fieldLink RX7 13 "BaroRunsModel" "was" "[I", .fieldLink RX7 16 "BaroRunsModel" "aside" "[I", .arrayClass .char, .fieldLink RX7 19 "BaroRunsModel" "text" "[C", .fieldLink RX7 23 "BaroRunsModel" "got" "[I", .fieldLink RX7 26 "BaroRunsModel" "raws" "[I", .arrayClass .boolean, .fieldLink RX7 29 "BaroRunsModel" "isGood" "[Z", .fieldLink RX7 33 "BaroRunsModel" "begin" "[I", .fieldLink RX7 36 "BaroRunsModel" "end" "[I"] ++ wsX70)
def wsX7_in : List Cond := .code yX7_in cX7_in 3 (some .boolean) :: ([])
def wsX7_isCell : List Cond := .code yX7_isCell cX7_isCell 1 (some .boolean) :: ([.methodLink RX7 39 yX7_in, .static yX7_in, .initialized RX7, .code yX7_in cX7_in 3 (some .boolean)])
def wsX7_isReading : List Cond := .code yX7_isReading cX7_isReading 3 (some .boolean) :: ([.fieldLink RX7 7 "BaroRunsModel" "d" "[I", .methodLink RX7 39 yX7_in, .static yX7_in, .initialized RX7, .code yX7_in cX7_in 3 (some .boolean)] ++ wsX70)
def wsX7_areValues : List Cond := .code yX7_areValues cX7_areValues 3 (some .boolean) :: ([.constant RX7 43 (50000), .constant RX7 44 (110000), .methodLink RX7 39 yX7_in, .static yX7_in, .initialized RX7, .code yX7_in cX7_in 3 (some .boolean)])
def wsX7_of : List Cond := .code yX7_of cX7_of 4 (some .int) :: ([.fieldLink RX7 7 "BaroRunsModel" "d" "[I"] ++ wsX70)
def wsX7_down : List Cond := .code yX7_down cX7_down 6 (some .long) :: ([])
def wsX7_records : List Cond := .code yX7_records cX7_records 2 none :: ([.fieldLink RX7 45 "BaroRunsModel" "states" "I", .fieldLink RX7 13 "BaroRunsModel" "was" "[I", .fieldLink RX7 7 "BaroRunsModel" "d" "[I"] ++ wsX70)
def wsX7_isSetting : List Cond := .code yX7_isSetting cX7_isSetting 2 (some .boolean) :: ([.constant RX7 49 (-500000), .constant RX7 50 (9000000), .methodLink RX7 39 yX7_in, .static yX7_in, .initialized RX7, .code yX7_in cX7_in 3 (some .boolean)])
def wsX7_set : List Cond := .code yX7_set cX7_set 4 (some .int) :: ([.constant RX7 55 (-2000000001), .fieldLink RX7 7 "BaroRunsModel" "d" "[I", .methodLink RX7 51 yX7_isSetting, .static yX7_isSetting, .initialized RX7, .code yX7_isSetting cX7_isSetting 2 (some .boolean), .constant RX7 49 (-500000), .constant RX7 50 (9000000), .methodLink RX7 39 yX7_in, .static yX7_in, .code yX7_in cX7_in 3 (some .boolean), .methodLink RX7 56 yX7_records, .instanceMethod yX7_records, .selects RX7 yX7_records yX7_records, .code yX7_records cX7_records 2 none, .fieldLink RX7 45 "BaroRunsModel" "states" "I", .fieldLink RX7 13 "BaroRunsModel" "was" "[I"] ++ wsX70)
def wsX7_isTaken : List Cond := .code yX7_isTaken cX7_isTaken 5 (some .boolean) :: ([.fieldLink RX7 7 "BaroRunsModel" "d" "[I", .methodLink RX7 59 yX7_of, .instanceMethod yX7_of, .selects RX7 yX7_of yX7_of, .initialized RX7, .code yX7_of cX7_of 4 (some .int)] ++ wsX70)
def wsX7_isFull : List Cond := .code yX7_isFull cX7_isFull 2 (some .boolean) :: ([.fieldLink RX7 7 "BaroRunsModel" "d" "[I"] ++ wsX70)
def wsX7_moves : List Cond := .code yX7_moves cX7_moves 5 none :: ([.fieldLink RX7 7 "BaroRunsModel" "d" "[I", .methodLink RX7 59 yX7_of, .instanceMethod yX7_of, .selects RX7 yX7_of yX7_of, .initialized RX7, .code yX7_of cX7_of 4 (some .int)] ++ wsX70)
def wsX7_puts : List Cond := .code yX7_puts cX7_puts 8 (some .int) :: ([.fieldLink RX7 7 "BaroRunsModel" "d" "[I", .methodLink RX7 59 yX7_of, .instanceMethod yX7_of, .selects RX7 yX7_of yX7_of, .initialized RX7, .code yX7_of cX7_of 4 (some .int), .methodLink RX7 63 yX7_moves, .instanceMethod yX7_moves, .selects RX7 yX7_moves yX7_moves, .code yX7_moves cX7_moves 5 none] ++ wsX70)
def wsX7_adds_r1 : List Cond := [Cond.constant RX7 70 (-2000000002), Cond.constant RX7 75 (-2000000003), Cond.methodLink RX7 67 yX7_isTaken, Cond.instanceMethod yX7_isTaken, Cond.selects RX7 yX7_isTaken yX7_isTaken, Cond.initialized RX7, Cond.code yX7_isTaken cX7_isTaken 5 (some .boolean), Cond.fieldLink RX7 7 "BaroRunsModel" "d" "[I", Cond.methodLink RX7 59 yX7_of, Cond.instanceMethod yX7_of, Cond.selects RX7 yX7_of yX7_of, Cond.code yX7_of cX7_of 4 (some .int), Cond.methodLink RX7 71 yX7_isFull, Cond.instanceMethod yX7_isFull, Cond.selects RX7 yX7_isFull yX7_isFull, Cond.code yX7_isFull cX7_isFull 2 (some .boolean), Cond.methodLink RX7 56 yX7_records, Cond.instanceMethod yX7_records, Cond.selects RX7 yX7_records yX7_records, Cond.code yX7_records cX7_records 2 none, Cond.fieldLink RX7 45 "BaroRunsModel" "states" "I", Cond.fieldLink RX7 13 "BaroRunsModel" "was" "[I", Cond.methodLink RX7 76 yX7_puts, Cond.instanceMethod yX7_puts]
def wsX7_adds_r2 : List Cond := [Cond.selects RX7 yX7_puts yX7_puts, Cond.code yX7_puts cX7_puts 8 (some .int), Cond.methodLink RX7 63 yX7_moves, Cond.instanceMethod yX7_moves, Cond.selects RX7 yX7_moves yX7_moves, Cond.code yX7_moves cX7_moves 5 none]
def wsX7_adds : List Cond := .code yX7_adds cX7_adds 6 (some .int) :: ((wsX7_adds_r1 ++ wsX7_adds_r2) ++ wsX70)
def wsX7_base_r1 : List Cond := [Cond.constant RX7 55 (-2000000001), Cond.methodLink RX7 80 yX7_areValues, Cond.static yX7_areValues, Cond.initialized RX7, Cond.code yX7_areValues cX7_areValues 3 (some .boolean), Cond.constant RX7 43 (50000), Cond.constant RX7 44 (110000), Cond.methodLink RX7 39 yX7_in, Cond.static yX7_in, Cond.code yX7_in cX7_in 3 (some .boolean), Cond.methodLink RX7 83 yX7_adds, Cond.instanceMethod yX7_adds, Cond.selects RX7 yX7_adds yX7_adds, Cond.code yX7_adds cX7_adds 6 (some .int), Cond.constant RX7 70 (-2000000002), Cond.constant RX7 75 (-2000000003), Cond.methodLink RX7 67 yX7_isTaken, Cond.instanceMethod yX7_isTaken, Cond.selects RX7 yX7_isTaken yX7_isTaken, Cond.code yX7_isTaken cX7_isTaken 5 (some .boolean), Cond.fieldLink RX7 7 "BaroRunsModel" "d" "[I", Cond.methodLink RX7 59 yX7_of, Cond.instanceMethod yX7_of, Cond.selects RX7 yX7_of yX7_of]
def wsX7_base_r2 : List Cond := [Cond.code yX7_of cX7_of 4 (some .int), Cond.methodLink RX7 71 yX7_isFull, Cond.instanceMethod yX7_isFull, Cond.selects RX7 yX7_isFull yX7_isFull, Cond.code yX7_isFull cX7_isFull 2 (some .boolean), Cond.methodLink RX7 56 yX7_records, Cond.instanceMethod yX7_records, Cond.selects RX7 yX7_records yX7_records, Cond.code yX7_records cX7_records 2 none, Cond.fieldLink RX7 45 "BaroRunsModel" "states" "I", Cond.fieldLink RX7 13 "BaroRunsModel" "was" "[I", Cond.methodLink RX7 76 yX7_puts, Cond.instanceMethod yX7_puts, Cond.selects RX7 yX7_puts yX7_puts, Cond.code yX7_puts cX7_puts 8 (some .int), Cond.methodLink RX7 63 yX7_moves, Cond.instanceMethod yX7_moves, Cond.selects RX7 yX7_moves yX7_moves, Cond.code yX7_moves cX7_moves 5 none]
def wsX7_base : List Cond := .code yX7_base cX7_base 4 (some .int) :: ((wsX7_base_r1 ++ wsX7_base_r2) ++ wsX70)
def wsX7_read_r1 : List Cond := [Cond.constant RX7 55 (-2000000001), Cond.methodLink RX7 86 yX7_isCell, Cond.static yX7_isCell, Cond.initialized RX7, Cond.code yX7_isCell cX7_isCell 1 (some .boolean), Cond.methodLink RX7 39 yX7_in, Cond.static yX7_in, Cond.code yX7_in cX7_in 3 (some .boolean), Cond.methodLink RX7 80 yX7_areValues, Cond.static yX7_areValues, Cond.code yX7_areValues cX7_areValues 3 (some .boolean), Cond.constant RX7 43 (50000), Cond.constant RX7 44 (110000), Cond.methodLink RX7 83 yX7_adds, Cond.instanceMethod yX7_adds, Cond.selects RX7 yX7_adds yX7_adds, Cond.code yX7_adds cX7_adds 6 (some .int), Cond.constant RX7 70 (-2000000002), Cond.constant RX7 75 (-2000000003), Cond.methodLink RX7 67 yX7_isTaken, Cond.instanceMethod yX7_isTaken, Cond.selects RX7 yX7_isTaken yX7_isTaken, Cond.code yX7_isTaken cX7_isTaken 5 (some .boolean), Cond.fieldLink RX7 7 "BaroRunsModel" "d" "[I"]
def wsX7_read_r2 : List Cond := [Cond.methodLink RX7 59 yX7_of, Cond.instanceMethod yX7_of, Cond.selects RX7 yX7_of yX7_of, Cond.code yX7_of cX7_of 4 (some .int), Cond.methodLink RX7 71 yX7_isFull, Cond.instanceMethod yX7_isFull, Cond.selects RX7 yX7_isFull yX7_isFull, Cond.code yX7_isFull cX7_isFull 2 (some .boolean), Cond.methodLink RX7 56 yX7_records, Cond.instanceMethod yX7_records, Cond.selects RX7 yX7_records yX7_records, Cond.code yX7_records cX7_records 2 none, Cond.fieldLink RX7 45 "BaroRunsModel" "states" "I", Cond.fieldLink RX7 13 "BaroRunsModel" "was" "[I", Cond.methodLink RX7 76 yX7_puts, Cond.instanceMethod yX7_puts, Cond.selects RX7 yX7_puts yX7_puts, Cond.code yX7_puts cX7_puts 8 (some .int), Cond.methodLink RX7 63 yX7_moves, Cond.instanceMethod yX7_moves, Cond.selects RX7 yX7_moves yX7_moves, Cond.code yX7_moves cX7_moves 5 none]
def wsX7_read : List Cond := .code yX7_read cX7_read 6 (some .int) :: ((wsX7_read_r1 ++ wsX7_read_r2) ++ wsX70)
def wsX7_drop : List Cond := .code yX7_drop cX7_drop 5 (some .int) :: ([.constant RX7 55 (-2000000001), .fieldLink RX7 7 "BaroRunsModel" "d" "[I", .methodLink RX7 89 yX7_isReading, .instanceMethod yX7_isReading, .selects RX7 yX7_isReading yX7_isReading, .initialized RX7, .code yX7_isReading cX7_isReading 3 (some .boolean), .methodLink RX7 39 yX7_in, .static yX7_in, .code yX7_in cX7_in 3 (some .boolean), .methodLink RX7 56 yX7_records, .instanceMethod yX7_records, .selects RX7 yX7_records yX7_records, .code yX7_records cX7_records 2 none, .fieldLink RX7 45 "BaroRunsModel" "states" "I", .fieldLink RX7 13 "BaroRunsModel" "was" "[I", .methodLink RX7 63 yX7_moves, .instanceMethod yX7_moves, .selects RX7 yX7_moves yX7_moves, .code yX7_moves cX7_moves 5 none, .methodLink RX7 59 yX7_of, .instanceMethod yX7_of, .selects RX7 yX7_of yX7_of, .code yX7_of cX7_of 4 (some .int)] ++ wsX70)
def wsX7_isGust : List Cond := .code yX7_isGust cX7_isGust 6 (some .boolean) :: ([.fieldLink RX7 7 "BaroRunsModel" "d" "[I", .methodLink RX7 59 yX7_of, .instanceMethod yX7_of, .selects RX7 yX7_of yX7_of, .initialized RX7, .code yX7_of cX7_of 4 (some .int)] ++ wsX70)
def wsX7_between : List Cond := .code yX7_between cX7_between 5 (some .int) :: ([.methodLink RX7 126 yX7_down, .static yX7_down, .initialized RX7, .code yX7_down cX7_down 6 (some .long)])
def wsX7_hasBase : List Cond := .code yX7_hasBase cX7_hasBase 5 (some .boolean) :: ([.fieldLink RX7 7 "BaroRunsModel" "d" "[I", .fieldLink RX7 130 "BaroRunsModel" "basePressure" "I", .fieldLink RX7 133 "BaroRunsModel" "baseWarm" "I", .methodLink RX7 59 yX7_of, .instanceMethod yX7_of, .selects RX7 yX7_of yX7_of, .initialized RX7, .code yX7_of cX7_of 4 (some .int), .methodLink RX7 136 yX7_between, .static yX7_between, .code yX7_between cX7_between 5 (some .int), .methodLink RX7 126 yX7_down, .static yX7_down, .code yX7_down cX7_down 6 (some .long)] ++ wsX70)
def wsX7_rawOf : List Cond := .code yX7_rawOf cX7_rawOf 7 (some .int) :: ([.constantLong RX7 142 (2732), .fieldLink RX7 133 "BaroRunsModel" "baseWarm" "I", .constantLong RX7 144 (2), .constantLong RX7 146 (2930), .fieldLink RX7 130 "BaroRunsModel" "basePressure" "I", .fieldLink RX7 7 "BaroRunsModel" "d" "[I", .methodLink RX7 126 yX7_down, .static yX7_down, .initialized RX7, .code yX7_down cX7_down 6 (some .long)] ++ wsX70)
def wsX7_looks_r1 : List Cond := [Cond.fieldLink RX7 104 "BaroRunsModel" "loops" "I", Cond.fieldLink RX7 7 "BaroRunsModel" "d" "[I", Cond.fieldLink RX7 29 "BaroRunsModel" "isGood" "[Z", Cond.fieldLink RX7 26 "BaroRunsModel" "raws" "[I", Cond.fieldLink RX7 33 "BaroRunsModel" "begin" "[I", Cond.fieldLink RX7 36 "BaroRunsModel" "end" "[I", Cond.methodLink RX7 93 yX7_isGust, Cond.instanceMethod yX7_isGust, Cond.selects RX7 yX7_isGust yX7_isGust, Cond.initialized RX7, Cond.code yX7_isGust cX7_isGust 6 (some .boolean), Cond.methodLink RX7 59 yX7_of, Cond.instanceMethod yX7_of, Cond.selects RX7 yX7_of yX7_of, Cond.code yX7_of cX7_of 4 (some .int), Cond.methodLink RX7 139 yX7_hasBase, Cond.instanceMethod yX7_hasBase, Cond.selects RX7 yX7_hasBase yX7_hasBase, Cond.code yX7_hasBase cX7_hasBase 5 (some .boolean), Cond.fieldLink RX7 130 "BaroRunsModel" "basePressure" "I", Cond.fieldLink RX7 133 "BaroRunsModel" "baseWarm" "I", Cond.methodLink RX7 136 yX7_between, Cond.static yX7_between, Cond.code yX7_between cX7_between 5 (some .int)]
def wsX7_looks_r2 : List Cond := [Cond.methodLink RX7 126 yX7_down, Cond.static yX7_down, Cond.code yX7_down cX7_down 6 (some .long), Cond.methodLink RX7 148 yX7_rawOf, Cond.instanceMethod yX7_rawOf, Cond.selects RX7 yX7_rawOf yX7_rawOf, Cond.code yX7_rawOf cX7_rawOf 7 (some .int), Cond.constantLong RX7 142 (2732), Cond.constantLong RX7 144 (2), Cond.constantLong RX7 146 (2930)]
def wsX7_looks : List Cond := .code yX7_looks cX7_looks 4 none :: ((wsX7_looks_r1 ++ wsX7_looks_r2) ++ wsX70)
def wsX7_reading_r1 : List Cond := [Cond.constant RX7 55 (-2000000001), Cond.constant RX7 92 (-2000000004), Cond.fieldLink RX7 29 "BaroRunsModel" "isGood" "[Z", Cond.methodLink RX7 89 yX7_isReading, Cond.instanceMethod yX7_isReading, Cond.selects RX7 yX7_isReading yX7_isReading, Cond.initialized RX7, Cond.code yX7_isReading cX7_isReading 3 (some .boolean), Cond.fieldLink RX7 7 "BaroRunsModel" "d" "[I", Cond.methodLink RX7 39 yX7_in, Cond.static yX7_in, Cond.code yX7_in cX7_in 3 (some .boolean), Cond.methodLink RX7 93 yX7_isGust, Cond.instanceMethod yX7_isGust, Cond.selects RX7 yX7_isGust yX7_isGust, Cond.code yX7_isGust cX7_isGust 6 (some .boolean), Cond.methodLink RX7 59 yX7_of, Cond.instanceMethod yX7_of, Cond.selects RX7 yX7_of yX7_of, Cond.code yX7_of cX7_of 4 (some .int), Cond.methodLink RX7 96 yX7_looks, Cond.instanceMethod yX7_looks, Cond.selects RX7 yX7_looks yX7_looks, Cond.code yX7_looks cX7_looks 4 none]
def wsX7_reading_r2 : List Cond := [Cond.fieldLink RX7 104 "BaroRunsModel" "loops" "I", Cond.fieldLink RX7 26 "BaroRunsModel" "raws" "[I", Cond.fieldLink RX7 33 "BaroRunsModel" "begin" "[I", Cond.fieldLink RX7 36 "BaroRunsModel" "end" "[I", Cond.methodLink RX7 139 yX7_hasBase, Cond.instanceMethod yX7_hasBase, Cond.selects RX7 yX7_hasBase yX7_hasBase, Cond.code yX7_hasBase cX7_hasBase 5 (some .boolean), Cond.fieldLink RX7 130 "BaroRunsModel" "basePressure" "I", Cond.fieldLink RX7 133 "BaroRunsModel" "baseWarm" "I", Cond.methodLink RX7 136 yX7_between, Cond.static yX7_between, Cond.code yX7_between cX7_between 5 (some .int), Cond.methodLink RX7 126 yX7_down, Cond.static yX7_down, Cond.code yX7_down cX7_down 6 (some .long), Cond.methodLink RX7 148 yX7_rawOf, Cond.instanceMethod yX7_rawOf, Cond.selects RX7 yX7_rawOf yX7_rawOf, Cond.code yX7_rawOf cX7_rawOf 7 (some .int), Cond.constantLong RX7 142 (2732), Cond.constantLong RX7 144 (2), Cond.constantLong RX7 146 (2930)]
def wsX7_reading : List Cond := .code yX7_reading cX7_reading 5 (some .int) :: ((wsX7_reading_r1 ++ wsX7_reading_r2) ++ wsX70)
def wsX7_stepsTo : List Cond := .code yX7_stepsTo cX7_stepsTo 5 (some .int) :: ([.fieldLink RX7 7 "BaroRunsModel" "d" "[I", .methodLink RX7 59 yX7_of, .instanceMethod yX7_of, .selects RX7 yX7_of yX7_of, .initialized RX7, .code yX7_of cX7_of 4 (some .int)] ++ wsX70)
def wsX7_steps : List Cond := .code yX7_steps cX7_steps 2 (some .int) :: ([.methodLink RX7 100 yX7_stepsTo, .instanceMethod yX7_stepsTo, .selects RX7 yX7_stepsTo yX7_stepsTo, .initialized RX7, .code yX7_stepsTo cX7_stepsTo 5 (some .int), .fieldLink RX7 7 "BaroRunsModel" "d" "[I", .methodLink RX7 59 yX7_of, .instanceMethod yX7_of, .selects RX7 yX7_of yX7_of, .code yX7_of cX7_of 4 (some .int)] ++ wsX70)
def wsX7_inAll_r1 : List Cond := [Cond.fieldLink RX7 104 "BaroRunsModel" "loops" "I", Cond.fieldLink RX7 7 "BaroRunsModel" "d" "[I", Cond.fieldLink RX7 29 "BaroRunsModel" "isGood" "[Z", Cond.methodLink RX7 96 yX7_looks, Cond.instanceMethod yX7_looks, Cond.selects RX7 yX7_looks yX7_looks, Cond.initialized RX7, Cond.code yX7_looks cX7_looks 4 none, Cond.fieldLink RX7 26 "BaroRunsModel" "raws" "[I", Cond.fieldLink RX7 33 "BaroRunsModel" "begin" "[I", Cond.fieldLink RX7 36 "BaroRunsModel" "end" "[I", Cond.methodLink RX7 93 yX7_isGust, Cond.instanceMethod yX7_isGust, Cond.selects RX7 yX7_isGust yX7_isGust, Cond.code yX7_isGust cX7_isGust 6 (some .boolean), Cond.methodLink RX7 59 yX7_of, Cond.instanceMethod yX7_of, Cond.selects RX7 yX7_of yX7_of, Cond.code yX7_of cX7_of 4 (some .int), Cond.methodLink RX7 139 yX7_hasBase, Cond.instanceMethod yX7_hasBase, Cond.selects RX7 yX7_hasBase yX7_hasBase, Cond.code yX7_hasBase cX7_hasBase 5 (some .boolean), Cond.fieldLink RX7 130 "BaroRunsModel" "basePressure" "I"]
def wsX7_inAll_r2 : List Cond := [Cond.fieldLink RX7 133 "BaroRunsModel" "baseWarm" "I", Cond.methodLink RX7 136 yX7_between, Cond.static yX7_between, Cond.code yX7_between cX7_between 5 (some .int), Cond.methodLink RX7 126 yX7_down, Cond.static yX7_down, Cond.code yX7_down cX7_down 6 (some .long), Cond.methodLink RX7 148 yX7_rawOf, Cond.instanceMethod yX7_rawOf, Cond.selects RX7 yX7_rawOf yX7_rawOf, Cond.code yX7_rawOf cX7_rawOf 7 (some .int), Cond.constantLong RX7 142 (2732), Cond.constantLong RX7 144 (2), Cond.constantLong RX7 146 (2930)]
def wsX7_inAll : List Cond := .code yX7_inAll cX7_inAll 5 (some .int) :: ((wsX7_inAll_r1 ++ wsX7_inAll_r2) ++ wsX70)
def wsX7_timeOf : List Cond := .code yX7_timeOf cX7_timeOf 3 (some .int) :: ([.fieldLink RX7 36 "BaroRunsModel" "end" "[I", .fieldLink RX7 33 "BaroRunsModel" "begin" "[I", .methodLink RX7 59 yX7_of, .instanceMethod yX7_of, .selects RX7 yX7_of yX7_of, .initialized RX7, .code yX7_of cX7_of 4 (some .int), .fieldLink RX7 7 "BaroRunsModel" "d" "[I"] ++ wsX70)
def wsX7_open : List Cond := .code yX7_open cX7_open 6 (some .int) :: ([.fieldLink RX7 104 "BaroRunsModel" "loops" "I", .fieldLink RX7 33 "BaroRunsModel" "begin" "[I", .fieldLink RX7 36 "BaroRunsModel" "end" "[I", .methodLink RX7 154 yX7_timeOf, .instanceMethod yX7_timeOf, .selects RX7 yX7_timeOf yX7_timeOf, .initialized RX7, .code yX7_timeOf cX7_timeOf 3 (some .int), .methodLink RX7 59 yX7_of, .instanceMethod yX7_of, .selects RX7 yX7_of yX7_of, .code yX7_of cX7_of 4 (some .int), .fieldLink RX7 7 "BaroRunsModel" "d" "[I"] ++ wsX70)
def wsX7_correctedOf : List Cond := .code yX7_correctedOf cX7_correctedOf 7 (some .int) :: ([.fieldLink RX7 26 "BaroRunsModel" "raws" "[I", .fieldLink RX7 36 "BaroRunsModel" "end" "[I", .fieldLink RX7 33 "BaroRunsModel" "begin" "[I", .methodLink RX7 157 yX7_open, .instanceMethod yX7_open, .selects RX7 yX7_open yX7_open, .initialized RX7, .code yX7_open cX7_open 6 (some .int), .fieldLink RX7 104 "BaroRunsModel" "loops" "I", .methodLink RX7 154 yX7_timeOf, .instanceMethod yX7_timeOf, .selects RX7 yX7_timeOf yX7_timeOf, .code yX7_timeOf cX7_timeOf 3 (some .int), .methodLink RX7 59 yX7_of, .instanceMethod yX7_of, .selects RX7 yX7_of yX7_of, .code yX7_of cX7_of 4 (some .int), .fieldLink RX7 7 "BaroRunsModel" "d" "[I", .methodLink RX7 126 yX7_down, .static yX7_down, .code yX7_down cX7_down 6 (some .long)] ++ wsX70)
def wsX7_gives_r1 : List Cond := [Cond.fieldLink RX7 166 "BaroRunsModel" "sum" "J", Cond.fieldLink RX7 110 "BaroRunsModel" "many" "I", Cond.fieldLink RX7 7 "BaroRunsModel" "d" "[I", Cond.fieldLink RX7 29 "BaroRunsModel" "isGood" "[Z", Cond.fieldLink RX7 36 "BaroRunsModel" "end" "[I", Cond.fieldLink RX7 170 "BaroRunsModel" "least" "I", Cond.fieldLink RX7 173 "BaroRunsModel" "most" "I", Cond.methodLink RX7 96 yX7_looks, Cond.instanceMethod yX7_looks, Cond.selects RX7 yX7_looks yX7_looks, Cond.initialized RX7, Cond.code yX7_looks cX7_looks 4 none, Cond.fieldLink RX7 104 "BaroRunsModel" "loops" "I", Cond.fieldLink RX7 26 "BaroRunsModel" "raws" "[I", Cond.fieldLink RX7 33 "BaroRunsModel" "begin" "[I", Cond.methodLink RX7 93 yX7_isGust, Cond.instanceMethod yX7_isGust, Cond.selects RX7 yX7_isGust yX7_isGust, Cond.code yX7_isGust cX7_isGust 6 (some .boolean), Cond.methodLink RX7 59 yX7_of, Cond.instanceMethod yX7_of, Cond.selects RX7 yX7_of yX7_of, Cond.code yX7_of cX7_of 4 (some .int), Cond.methodLink RX7 139 yX7_hasBase]
def wsX7_gives_r2 : List Cond := [Cond.instanceMethod yX7_hasBase, Cond.selects RX7 yX7_hasBase yX7_hasBase, Cond.code yX7_hasBase cX7_hasBase 5 (some .boolean), Cond.fieldLink RX7 130 "BaroRunsModel" "basePressure" "I", Cond.fieldLink RX7 133 "BaroRunsModel" "baseWarm" "I", Cond.methodLink RX7 136 yX7_between, Cond.static yX7_between, Cond.code yX7_between cX7_between 5 (some .int), Cond.methodLink RX7 126 yX7_down, Cond.static yX7_down, Cond.code yX7_down cX7_down 6 (some .long), Cond.methodLink RX7 148 yX7_rawOf, Cond.instanceMethod yX7_rawOf, Cond.selects RX7 yX7_rawOf yX7_rawOf, Cond.code yX7_rawOf cX7_rawOf 7 (some .int), Cond.constantLong RX7 142 (2732), Cond.constantLong RX7 144 (2), Cond.constantLong RX7 146 (2930), Cond.methodLink RX7 157 yX7_open, Cond.instanceMethod yX7_open, Cond.selects RX7 yX7_open yX7_open, Cond.code yX7_open cX7_open 6 (some .int), Cond.methodLink RX7 154 yX7_timeOf, Cond.instanceMethod yX7_timeOf]
def wsX7_gives_r3 : List Cond := [Cond.selects RX7 yX7_timeOf yX7_timeOf, Cond.code yX7_timeOf cX7_timeOf 3 (some .int), Cond.methodLink RX7 163 yX7_correctedOf, Cond.instanceMethod yX7_correctedOf, Cond.selects RX7 yX7_correctedOf yX7_correctedOf, Cond.code yX7_correctedOf cX7_correctedOf 7 (some .int)]
def wsX7_gives : List Cond := .code yX7_gives cX7_gives 6 none :: ((wsX7_gives_r1 ++ (wsX7_gives_r2 ++ wsX7_gives_r3)) ++ wsX70)
def wsX7_heights_r1 : List Cond := [Cond.fieldLink RX7 110 "BaroRunsModel" "many" "I", Cond.methodLink RX7 107 yX7_gives, Cond.instanceMethod yX7_gives, Cond.selects RX7 yX7_gives yX7_gives, Cond.initialized RX7, Cond.code yX7_gives cX7_gives 6 none, Cond.fieldLink RX7 166 "BaroRunsModel" "sum" "J", Cond.fieldLink RX7 7 "BaroRunsModel" "d" "[I", Cond.fieldLink RX7 29 "BaroRunsModel" "isGood" "[Z", Cond.fieldLink RX7 36 "BaroRunsModel" "end" "[I", Cond.fieldLink RX7 170 "BaroRunsModel" "least" "I", Cond.fieldLink RX7 173 "BaroRunsModel" "most" "I", Cond.methodLink RX7 96 yX7_looks, Cond.instanceMethod yX7_looks, Cond.selects RX7 yX7_looks yX7_looks, Cond.code yX7_looks cX7_looks 4 none, Cond.fieldLink RX7 104 "BaroRunsModel" "loops" "I", Cond.fieldLink RX7 26 "BaroRunsModel" "raws" "[I", Cond.fieldLink RX7 33 "BaroRunsModel" "begin" "[I", Cond.methodLink RX7 93 yX7_isGust, Cond.instanceMethod yX7_isGust, Cond.selects RX7 yX7_isGust yX7_isGust, Cond.code yX7_isGust cX7_isGust 6 (some .boolean), Cond.methodLink RX7 59 yX7_of]
def wsX7_heights_r2 : List Cond := [Cond.instanceMethod yX7_of, Cond.selects RX7 yX7_of yX7_of, Cond.code yX7_of cX7_of 4 (some .int), Cond.methodLink RX7 139 yX7_hasBase, Cond.instanceMethod yX7_hasBase, Cond.selects RX7 yX7_hasBase yX7_hasBase, Cond.code yX7_hasBase cX7_hasBase 5 (some .boolean), Cond.fieldLink RX7 130 "BaroRunsModel" "basePressure" "I", Cond.fieldLink RX7 133 "BaroRunsModel" "baseWarm" "I", Cond.methodLink RX7 136 yX7_between, Cond.static yX7_between, Cond.code yX7_between cX7_between 5 (some .int), Cond.methodLink RX7 126 yX7_down, Cond.static yX7_down, Cond.code yX7_down cX7_down 6 (some .long), Cond.methodLink RX7 148 yX7_rawOf, Cond.instanceMethod yX7_rawOf, Cond.selects RX7 yX7_rawOf yX7_rawOf, Cond.code yX7_rawOf cX7_rawOf 7 (some .int), Cond.constantLong RX7 142 (2732), Cond.constantLong RX7 144 (2), Cond.constantLong RX7 146 (2930), Cond.methodLink RX7 157 yX7_open, Cond.instanceMethod yX7_open]
def wsX7_heights_r3 : List Cond := [Cond.selects RX7 yX7_open yX7_open, Cond.code yX7_open cX7_open 6 (some .int), Cond.methodLink RX7 154 yX7_timeOf, Cond.instanceMethod yX7_timeOf, Cond.selects RX7 yX7_timeOf yX7_timeOf, Cond.code yX7_timeOf cX7_timeOf 3 (some .int), Cond.methodLink RX7 163 yX7_correctedOf, Cond.instanceMethod yX7_correctedOf, Cond.selects RX7 yX7_correctedOf yX7_correctedOf, Cond.code yX7_correctedOf cX7_correctedOf 7 (some .int)]
def wsX7_heights : List Cond := .code yX7_heights cX7_heights 3 (some .int) :: ((wsX7_heights_r1 ++ (wsX7_heights_r2 ++ wsX7_heights_r3)) ++ wsX70)
def wsX7_count_r1 : List Cond := [Cond.fieldLink RX7 7 "BaroRunsModel" "d" "[I", Cond.fieldLink RX7 45 "BaroRunsModel" "states" "I", Cond.fieldLink RX7 123 "BaroRunsModel" "typed" "I", Cond.constant RX7 55 (-2000000001), Cond.methodLink RX7 113 yX7_inAll, Cond.instanceMethod yX7_inAll, Cond.selects RX7 yX7_inAll yX7_inAll, Cond.initialized RX7, Cond.code yX7_inAll cX7_inAll 5 (some .int), Cond.fieldLink RX7 104 "BaroRunsModel" "loops" "I", Cond.fieldLink RX7 29 "BaroRunsModel" "isGood" "[Z", Cond.methodLink RX7 96 yX7_looks, Cond.instanceMethod yX7_looks, Cond.selects RX7 yX7_looks yX7_looks, Cond.code yX7_looks cX7_looks 4 none, Cond.fieldLink RX7 26 "BaroRunsModel" "raws" "[I", Cond.fieldLink RX7 33 "BaroRunsModel" "begin" "[I", Cond.fieldLink RX7 36 "BaroRunsModel" "end" "[I", Cond.methodLink RX7 93 yX7_isGust, Cond.instanceMethod yX7_isGust, Cond.selects RX7 yX7_isGust yX7_isGust, Cond.code yX7_isGust cX7_isGust 6 (some .boolean), Cond.methodLink RX7 59 yX7_of, Cond.instanceMethod yX7_of]
def wsX7_count_r2 : List Cond := [Cond.selects RX7 yX7_of yX7_of, Cond.code yX7_of cX7_of 4 (some .int), Cond.methodLink RX7 139 yX7_hasBase, Cond.instanceMethod yX7_hasBase, Cond.selects RX7 yX7_hasBase yX7_hasBase, Cond.code yX7_hasBase cX7_hasBase 5 (some .boolean), Cond.fieldLink RX7 130 "BaroRunsModel" "basePressure" "I", Cond.fieldLink RX7 133 "BaroRunsModel" "baseWarm" "I", Cond.methodLink RX7 136 yX7_between, Cond.static yX7_between, Cond.code yX7_between cX7_between 5 (some .int), Cond.methodLink RX7 126 yX7_down, Cond.static yX7_down, Cond.code yX7_down cX7_down 6 (some .long), Cond.methodLink RX7 148 yX7_rawOf, Cond.instanceMethod yX7_rawOf, Cond.selects RX7 yX7_rawOf yX7_rawOf, Cond.code yX7_rawOf cX7_rawOf 7 (some .int), Cond.constantLong RX7 142 (2732), Cond.constantLong RX7 144 (2), Cond.constantLong RX7 146 (2930), Cond.methodLink RX7 116 yX7_steps, Cond.instanceMethod yX7_steps, Cond.selects RX7 yX7_steps yX7_steps]
def wsX7_count_r3 : List Cond := [Cond.code yX7_steps cX7_steps 2 (some .int), Cond.methodLink RX7 100 yX7_stepsTo, Cond.instanceMethod yX7_stepsTo, Cond.selects RX7 yX7_stepsTo yX7_stepsTo, Cond.code yX7_stepsTo cX7_stepsTo 5 (some .int), Cond.methodLink RX7 120 yX7_heights, Cond.instanceMethod yX7_heights, Cond.selects RX7 yX7_heights yX7_heights, Cond.code yX7_heights cX7_heights 3 (some .int), Cond.fieldLink RX7 110 "BaroRunsModel" "many" "I", Cond.methodLink RX7 107 yX7_gives, Cond.instanceMethod yX7_gives, Cond.selects RX7 yX7_gives yX7_gives, Cond.code yX7_gives cX7_gives 6 none, Cond.fieldLink RX7 166 "BaroRunsModel" "sum" "J", Cond.fieldLink RX7 170 "BaroRunsModel" "least" "I", Cond.fieldLink RX7 173 "BaroRunsModel" "most" "I", Cond.methodLink RX7 157 yX7_open, Cond.instanceMethod yX7_open, Cond.selects RX7 yX7_open yX7_open, Cond.code yX7_open cX7_open 6 (some .int), Cond.methodLink RX7 154 yX7_timeOf, Cond.instanceMethod yX7_timeOf, Cond.selects RX7 yX7_timeOf yX7_timeOf]
def wsX7_count_r4 : List Cond := [Cond.code yX7_timeOf cX7_timeOf 3 (some .int), Cond.methodLink RX7 163 yX7_correctedOf, Cond.instanceMethod yX7_correctedOf, Cond.selects RX7 yX7_correctedOf yX7_correctedOf, Cond.code yX7_correctedOf cX7_correctedOf 7 (some .int)]
def wsX7_count : List Cond := .code yX7_count cX7_count 2 (some .int) :: ((wsX7_count_r1 ++ (wsX7_count_r2 ++ (wsX7_count_r3 ++ wsX7_count_r4))) ++ wsX70)
def wsX7_undo : List Cond := .code yX7_undo cX7_undo 2 (some .int) :: ([.fieldLink RX7 45 "BaroRunsModel" "states" "I", .constant RX7 70 (-2000000002), .fieldLink RX7 7 "BaroRunsModel" "d" "[I", .fieldLink RX7 13 "BaroRunsModel" "was" "[I"] ++ wsX70)
def wsX7_baseAt : List Cond := .code yX7_baseAt cX7_baseAt 3 (some .int) :: ([.constant RX7 55 (-2000000001), .constant RX7 92 (-2000000004), .fieldLink RX7 130 "BaroRunsModel" "basePressure" "I", .fieldLink RX7 133 "BaroRunsModel" "baseWarm" "I", .methodLink RX7 39 yX7_in, .static yX7_in, .initialized RX7, .code yX7_in cX7_in 3 (some .boolean), .methodLink RX7 139 yX7_hasBase, .instanceMethod yX7_hasBase, .selects RX7 yX7_hasBase yX7_hasBase, .code yX7_hasBase cX7_hasBase 5 (some .boolean), .fieldLink RX7 7 "BaroRunsModel" "d" "[I", .methodLink RX7 59 yX7_of, .instanceMethod yX7_of, .selects RX7 yX7_of yX7_of, .code yX7_of cX7_of 4 (some .int), .methodLink RX7 136 yX7_between, .static yX7_between, .code yX7_between cX7_between 5 (some .int), .methodLink RX7 126 yX7_down, .static yX7_down, .code yX7_down cX7_down 6 (some .long)] ++ wsX70)
def wsX7_step : List Cond := .code yX7_step cX7_step 3 (some .int) :: ([.constant RX7 55 (-2000000001), .methodLink RX7 100 yX7_stepsTo, .instanceMethod yX7_stepsTo, .selects RX7 yX7_stepsTo yX7_stepsTo, .initialized RX7, .code yX7_stepsTo cX7_stepsTo 5 (some .int), .fieldLink RX7 7 "BaroRunsModel" "d" "[I", .methodLink RX7 59 yX7_of, .instanceMethod yX7_of, .selects RX7 yX7_of yX7_of, .code yX7_of cX7_of 4 (some .int)] ++ wsX70)
def wsX7_raw_r1 : List Cond := [Cond.constant RX7 55 (-2000000001), Cond.constant RX7 92 (-2000000004), Cond.methodLink RX7 86 yX7_isCell, Cond.static yX7_isCell, Cond.initialized RX7, Cond.code yX7_isCell cX7_isCell 1 (some .boolean), Cond.methodLink RX7 39 yX7_in, Cond.static yX7_in, Cond.code yX7_in cX7_in 3 (some .boolean), Cond.methodLink RX7 89 yX7_isReading, Cond.instanceMethod yX7_isReading, Cond.selects RX7 yX7_isReading yX7_isReading, Cond.code yX7_isReading cX7_isReading 3 (some .boolean), Cond.fieldLink RX7 7 "BaroRunsModel" "d" "[I", Cond.methodLink RX7 59 yX7_of, Cond.instanceMethod yX7_of, Cond.selects RX7 yX7_of yX7_of, Cond.code yX7_of cX7_of 4 (some .int), Cond.methodLink RX7 139 yX7_hasBase, Cond.instanceMethod yX7_hasBase, Cond.selects RX7 yX7_hasBase yX7_hasBase, Cond.code yX7_hasBase cX7_hasBase 5 (some .boolean), Cond.fieldLink RX7 130 "BaroRunsModel" "basePressure" "I", Cond.fieldLink RX7 133 "BaroRunsModel" "baseWarm" "I"]
def wsX7_raw_r2 : List Cond := [Cond.methodLink RX7 136 yX7_between, Cond.static yX7_between, Cond.code yX7_between cX7_between 5 (some .int), Cond.methodLink RX7 126 yX7_down, Cond.static yX7_down, Cond.code yX7_down cX7_down 6 (some .long), Cond.methodLink RX7 148 yX7_rawOf, Cond.instanceMethod yX7_rawOf, Cond.selects RX7 yX7_rawOf yX7_rawOf, Cond.code yX7_rawOf cX7_rawOf 7 (some .int), Cond.constantLong RX7 142 (2732), Cond.constantLong RX7 144 (2), Cond.constantLong RX7 146 (2930)]
def wsX7_raw : List Cond := .code yX7_raw cX7_raw 4 (some .int) :: ((wsX7_raw_r1 ++ wsX7_raw_r2) ++ wsX70)
def wsX7_would_r1 : List Cond := [Cond.constant RX7 55 (-2000000001), Cond.constant RX7 92 (-2000000004), Cond.methodLink RX7 80 yX7_areValues, Cond.static yX7_areValues, Cond.initialized RX7, Cond.code yX7_areValues cX7_areValues 3 (some .boolean), Cond.constant RX7 43 (50000), Cond.constant RX7 44 (110000), Cond.methodLink RX7 39 yX7_in, Cond.static yX7_in, Cond.code yX7_in cX7_in 3 (some .boolean), Cond.methodLink RX7 139 yX7_hasBase, Cond.instanceMethod yX7_hasBase, Cond.selects RX7 yX7_hasBase yX7_hasBase, Cond.code yX7_hasBase cX7_hasBase 5 (some .boolean), Cond.fieldLink RX7 7 "BaroRunsModel" "d" "[I", Cond.fieldLink RX7 130 "BaroRunsModel" "basePressure" "I", Cond.fieldLink RX7 133 "BaroRunsModel" "baseWarm" "I", Cond.methodLink RX7 59 yX7_of, Cond.instanceMethod yX7_of, Cond.selects RX7 yX7_of yX7_of, Cond.code yX7_of cX7_of 4 (some .int), Cond.methodLink RX7 136 yX7_between, Cond.static yX7_between]
def wsX7_would_r2 : List Cond := [Cond.code yX7_between cX7_between 5 (some .int), Cond.methodLink RX7 126 yX7_down, Cond.static yX7_down, Cond.code yX7_down cX7_down 6 (some .long), Cond.methodLink RX7 148 yX7_rawOf, Cond.instanceMethod yX7_rawOf, Cond.selects RX7 yX7_rawOf yX7_rawOf, Cond.code yX7_rawOf cX7_rawOf 7 (some .int), Cond.constantLong RX7 142 (2732), Cond.constantLong RX7 144 (2), Cond.constantLong RX7 146 (2930)]
def wsX7_would : List Cond := .code yX7_would cX7_would 4 (some .int) :: ((wsX7_would_r1 ++ wsX7_would_r2) ++ wsX70)
def wsX7_pressureFor_r1 : List Cond := [Cond.constant RX7 152 (-1000000), Cond.constant RX7 153 (10000000), Cond.constant RX7 55 (-2000000001), Cond.constant RX7 92 (-2000000004), Cond.constant RX7 44 (110000), Cond.constant RX7 43 (50000), Cond.methodLink RX7 39 yX7_in, Cond.static yX7_in, Cond.initialized RX7, Cond.code yX7_in cX7_in 3 (some .boolean), Cond.methodLink RX7 139 yX7_hasBase, Cond.instanceMethod yX7_hasBase, Cond.selects RX7 yX7_hasBase yX7_hasBase, Cond.code yX7_hasBase cX7_hasBase 5 (some .boolean), Cond.fieldLink RX7 7 "BaroRunsModel" "d" "[I", Cond.fieldLink RX7 130 "BaroRunsModel" "basePressure" "I", Cond.fieldLink RX7 133 "BaroRunsModel" "baseWarm" "I", Cond.methodLink RX7 59 yX7_of, Cond.instanceMethod yX7_of, Cond.selects RX7 yX7_of yX7_of, Cond.code yX7_of cX7_of 4 (some .int), Cond.methodLink RX7 136 yX7_between, Cond.static yX7_between, Cond.code yX7_between cX7_between 5 (some .int)]
def wsX7_pressureFor_r2 : List Cond := [Cond.methodLink RX7 126 yX7_down, Cond.static yX7_down, Cond.code yX7_down cX7_down 6 (some .long), Cond.methodLink RX7 148 yX7_rawOf, Cond.instanceMethod yX7_rawOf, Cond.selects RX7 yX7_rawOf yX7_rawOf, Cond.code yX7_rawOf cX7_rawOf 7 (some .int), Cond.constantLong RX7 142 (2732), Cond.constantLong RX7 144 (2), Cond.constantLong RX7 146 (2930)]
def wsX7_pressureFor : List Cond := .code yX7_pressureFor cX7_pressureFor 5 (some .int) :: ((wsX7_pressureFor_r1 ++ wsX7_pressureFor_r2) ++ wsX70)
def wsX7_loops_r1 : List Cond := [Cond.constant RX7 55 (-2000000001), Cond.fieldLink RX7 104 "BaroRunsModel" "loops" "I", Cond.methodLink RX7 86 yX7_isCell, Cond.static yX7_isCell, Cond.initialized RX7, Cond.code yX7_isCell cX7_isCell 1 (some .boolean), Cond.methodLink RX7 39 yX7_in, Cond.static yX7_in, Cond.code yX7_in cX7_in 3 (some .boolean), Cond.methodLink RX7 96 yX7_looks, Cond.instanceMethod yX7_looks, Cond.selects RX7 yX7_looks yX7_looks, Cond.code yX7_looks cX7_looks 4 none, Cond.fieldLink RX7 7 "BaroRunsModel" "d" "[I", Cond.fieldLink RX7 29 "BaroRunsModel" "isGood" "[Z", Cond.fieldLink RX7 26 "BaroRunsModel" "raws" "[I", Cond.fieldLink RX7 33 "BaroRunsModel" "begin" "[I", Cond.fieldLink RX7 36 "BaroRunsModel" "end" "[I", Cond.methodLink RX7 93 yX7_isGust, Cond.instanceMethod yX7_isGust, Cond.selects RX7 yX7_isGust yX7_isGust, Cond.code yX7_isGust cX7_isGust 6 (some .boolean), Cond.methodLink RX7 59 yX7_of, Cond.instanceMethod yX7_of]
def wsX7_loops_r2 : List Cond := [Cond.selects RX7 yX7_of yX7_of, Cond.code yX7_of cX7_of 4 (some .int), Cond.methodLink RX7 139 yX7_hasBase, Cond.instanceMethod yX7_hasBase, Cond.selects RX7 yX7_hasBase yX7_hasBase, Cond.code yX7_hasBase cX7_hasBase 5 (some .boolean), Cond.fieldLink RX7 130 "BaroRunsModel" "basePressure" "I", Cond.fieldLink RX7 133 "BaroRunsModel" "baseWarm" "I", Cond.methodLink RX7 136 yX7_between, Cond.static yX7_between, Cond.code yX7_between cX7_between 5 (some .int), Cond.methodLink RX7 126 yX7_down, Cond.static yX7_down, Cond.code yX7_down cX7_down 6 (some .long), Cond.methodLink RX7 148 yX7_rawOf, Cond.instanceMethod yX7_rawOf, Cond.selects RX7 yX7_rawOf yX7_rawOf, Cond.code yX7_rawOf cX7_rawOf 7 (some .int), Cond.constantLong RX7 142 (2732), Cond.constantLong RX7 144 (2), Cond.constantLong RX7 146 (2930)]
def wsX7_loops : List Cond := .code yX7_loops cX7_loops 2 (some .int) :: ((wsX7_loops_r1 ++ wsX7_loops_r2) ++ wsX70)
def wsX7_bySteps : List Cond := .code yX7_bySteps cX7_bySteps 5 (some .int) :: ([.fieldLink RX7 33 "BaroRunsModel" "begin" "[I", .fieldLink RX7 36 "BaroRunsModel" "end" "[I", .fieldLink RX7 29 "BaroRunsModel" "isGood" "[Z", .fieldLink RX7 26 "BaroRunsModel" "raws" "[I"] ++ wsX70)
def wsX7_loop_r1 : List Cond := [Cond.constant RX7 55 (-2000000001), Cond.fieldLink RX7 104 "BaroRunsModel" "loops" "I", Cond.fieldLink RX7 33 "BaroRunsModel" "begin" "[I", Cond.fieldLink RX7 36 "BaroRunsModel" "end" "[I", Cond.fieldLink RX7 26 "BaroRunsModel" "raws" "[I", Cond.methodLink RX7 86 yX7_isCell, Cond.static yX7_isCell, Cond.initialized RX7, Cond.code yX7_isCell cX7_isCell 1 (some .boolean), Cond.methodLink RX7 39 yX7_in, Cond.static yX7_in, Cond.code yX7_in cX7_in 3 (some .boolean), Cond.methodLink RX7 96 yX7_looks, Cond.instanceMethod yX7_looks, Cond.selects RX7 yX7_looks yX7_looks, Cond.code yX7_looks cX7_looks 4 none, Cond.fieldLink RX7 7 "BaroRunsModel" "d" "[I", Cond.fieldLink RX7 29 "BaroRunsModel" "isGood" "[Z", Cond.methodLink RX7 93 yX7_isGust, Cond.instanceMethod yX7_isGust, Cond.selects RX7 yX7_isGust yX7_isGust, Cond.code yX7_isGust cX7_isGust 6 (some .boolean), Cond.methodLink RX7 59 yX7_of, Cond.instanceMethod yX7_of]
def wsX7_loop_r2 : List Cond := [Cond.selects RX7 yX7_of yX7_of, Cond.code yX7_of cX7_of 4 (some .int), Cond.methodLink RX7 139 yX7_hasBase, Cond.instanceMethod yX7_hasBase, Cond.selects RX7 yX7_hasBase yX7_hasBase, Cond.code yX7_hasBase cX7_hasBase 5 (some .boolean), Cond.fieldLink RX7 130 "BaroRunsModel" "basePressure" "I", Cond.fieldLink RX7 133 "BaroRunsModel" "baseWarm" "I", Cond.methodLink RX7 136 yX7_between, Cond.static yX7_between, Cond.code yX7_between cX7_between 5 (some .int), Cond.methodLink RX7 126 yX7_down, Cond.static yX7_down, Cond.code yX7_down cX7_down 6 (some .long), Cond.methodLink RX7 148 yX7_rawOf, Cond.instanceMethod yX7_rawOf, Cond.selects RX7 yX7_rawOf yX7_rawOf, Cond.code yX7_rawOf cX7_rawOf 7 (some .int), Cond.constantLong RX7 142 (2732), Cond.constantLong RX7 144 (2), Cond.constantLong RX7 146 (2930), Cond.methodLink RX7 160 yX7_bySteps, Cond.instanceMethod yX7_bySteps, Cond.selects RX7 yX7_bySteps yX7_bySteps]
def wsX7_loop_r3 : List Cond := [Cond.code yX7_bySteps cX7_bySteps 5 (some .int), Cond.methodLink RX7 154 yX7_timeOf, Cond.instanceMethod yX7_timeOf, Cond.selects RX7 yX7_timeOf yX7_timeOf, Cond.code yX7_timeOf cX7_timeOf 3 (some .int)]
def wsX7_loop : List Cond := .code yX7_loop cX7_loop 4 (some .int) :: ((wsX7_loop_r1 ++ (wsX7_loop_r2 ++ wsX7_loop_r3)) ++ wsX70)
def wsX7_openLoop_r1 : List Cond := [Cond.constant RX7 55 (-2000000001), Cond.fieldLink RX7 29 "BaroRunsModel" "isGood" "[Z", Cond.constant RX7 92 (-2000000004), Cond.methodLink RX7 86 yX7_isCell, Cond.static yX7_isCell, Cond.initialized RX7, Cond.code yX7_isCell cX7_isCell 1 (some .boolean), Cond.methodLink RX7 39 yX7_in, Cond.static yX7_in, Cond.code yX7_in cX7_in 3 (some .boolean), Cond.methodLink RX7 89 yX7_isReading, Cond.instanceMethod yX7_isReading, Cond.selects RX7 yX7_isReading yX7_isReading, Cond.code yX7_isReading cX7_isReading 3 (some .boolean), Cond.fieldLink RX7 7 "BaroRunsModel" "d" "[I", Cond.methodLink RX7 96 yX7_looks, Cond.instanceMethod yX7_looks, Cond.selects RX7 yX7_looks yX7_looks, Cond.code yX7_looks cX7_looks 4 none, Cond.fieldLink RX7 104 "BaroRunsModel" "loops" "I", Cond.fieldLink RX7 26 "BaroRunsModel" "raws" "[I", Cond.fieldLink RX7 33 "BaroRunsModel" "begin" "[I", Cond.fieldLink RX7 36 "BaroRunsModel" "end" "[I", Cond.methodLink RX7 93 yX7_isGust]
def wsX7_openLoop_r2 : List Cond := [Cond.instanceMethod yX7_isGust, Cond.selects RX7 yX7_isGust yX7_isGust, Cond.code yX7_isGust cX7_isGust 6 (some .boolean), Cond.methodLink RX7 59 yX7_of, Cond.instanceMethod yX7_of, Cond.selects RX7 yX7_of yX7_of, Cond.code yX7_of cX7_of 4 (some .int), Cond.methodLink RX7 139 yX7_hasBase, Cond.instanceMethod yX7_hasBase, Cond.selects RX7 yX7_hasBase yX7_hasBase, Cond.code yX7_hasBase cX7_hasBase 5 (some .boolean), Cond.fieldLink RX7 130 "BaroRunsModel" "basePressure" "I", Cond.fieldLink RX7 133 "BaroRunsModel" "baseWarm" "I", Cond.methodLink RX7 136 yX7_between, Cond.static yX7_between, Cond.code yX7_between cX7_between 5 (some .int), Cond.methodLink RX7 126 yX7_down, Cond.static yX7_down, Cond.code yX7_down cX7_down 6 (some .long), Cond.methodLink RX7 148 yX7_rawOf, Cond.instanceMethod yX7_rawOf, Cond.selects RX7 yX7_rawOf yX7_rawOf, Cond.code yX7_rawOf cX7_rawOf 7 (some .int), Cond.constantLong RX7 142 (2732)]
def wsX7_openLoop_r3 : List Cond := [Cond.constantLong RX7 144 (2), Cond.constantLong RX7 146 (2930), Cond.methodLink RX7 157 yX7_open, Cond.instanceMethod yX7_open, Cond.selects RX7 yX7_open yX7_open, Cond.code yX7_open cX7_open 6 (some .int), Cond.methodLink RX7 154 yX7_timeOf, Cond.instanceMethod yX7_timeOf, Cond.selects RX7 yX7_timeOf yX7_timeOf, Cond.code yX7_timeOf cX7_timeOf 3 (some .int)]
def wsX7_openLoop : List Cond := .code yX7_openLoop cX7_openLoop 4 (some .int) :: ((wsX7_openLoop_r1 ++ (wsX7_openLoop_r2 ++ wsX7_openLoop_r3)) ++ wsX70)
def wsX7_corrected_r1 : List Cond := [Cond.constant RX7 55 (-2000000001), Cond.fieldLink RX7 29 "BaroRunsModel" "isGood" "[Z", Cond.constant RX7 92 (-2000000004), Cond.methodLink RX7 86 yX7_isCell, Cond.static yX7_isCell, Cond.initialized RX7, Cond.code yX7_isCell cX7_isCell 1 (some .boolean), Cond.methodLink RX7 39 yX7_in, Cond.static yX7_in, Cond.code yX7_in cX7_in 3 (some .boolean), Cond.methodLink RX7 89 yX7_isReading, Cond.instanceMethod yX7_isReading, Cond.selects RX7 yX7_isReading yX7_isReading, Cond.code yX7_isReading cX7_isReading 3 (some .boolean), Cond.fieldLink RX7 7 "BaroRunsModel" "d" "[I", Cond.methodLink RX7 96 yX7_looks, Cond.instanceMethod yX7_looks, Cond.selects RX7 yX7_looks yX7_looks, Cond.code yX7_looks cX7_looks 4 none, Cond.fieldLink RX7 104 "BaroRunsModel" "loops" "I", Cond.fieldLink RX7 26 "BaroRunsModel" "raws" "[I", Cond.fieldLink RX7 33 "BaroRunsModel" "begin" "[I", Cond.fieldLink RX7 36 "BaroRunsModel" "end" "[I", Cond.methodLink RX7 93 yX7_isGust]
def wsX7_corrected_r2 : List Cond := [Cond.instanceMethod yX7_isGust, Cond.selects RX7 yX7_isGust yX7_isGust, Cond.code yX7_isGust cX7_isGust 6 (some .boolean), Cond.methodLink RX7 59 yX7_of, Cond.instanceMethod yX7_of, Cond.selects RX7 yX7_of yX7_of, Cond.code yX7_of cX7_of 4 (some .int), Cond.methodLink RX7 139 yX7_hasBase, Cond.instanceMethod yX7_hasBase, Cond.selects RX7 yX7_hasBase yX7_hasBase, Cond.code yX7_hasBase cX7_hasBase 5 (some .boolean), Cond.fieldLink RX7 130 "BaroRunsModel" "basePressure" "I", Cond.fieldLink RX7 133 "BaroRunsModel" "baseWarm" "I", Cond.methodLink RX7 136 yX7_between, Cond.static yX7_between, Cond.code yX7_between cX7_between 5 (some .int), Cond.methodLink RX7 126 yX7_down, Cond.static yX7_down, Cond.code yX7_down cX7_down 6 (some .long), Cond.methodLink RX7 148 yX7_rawOf, Cond.instanceMethod yX7_rawOf, Cond.selects RX7 yX7_rawOf yX7_rawOf, Cond.code yX7_rawOf cX7_rawOf 7 (some .int), Cond.constantLong RX7 142 (2732)]
def wsX7_corrected_r3 : List Cond := [Cond.constantLong RX7 144 (2), Cond.constantLong RX7 146 (2930), Cond.methodLink RX7 163 yX7_correctedOf, Cond.instanceMethod yX7_correctedOf, Cond.selects RX7 yX7_correctedOf yX7_correctedOf, Cond.code yX7_correctedOf cX7_correctedOf 7 (some .int), Cond.methodLink RX7 157 yX7_open, Cond.instanceMethod yX7_open, Cond.selects RX7 yX7_open yX7_open, Cond.code yX7_open cX7_open 6 (some .int), Cond.methodLink RX7 154 yX7_timeOf, Cond.instanceMethod yX7_timeOf, Cond.selects RX7 yX7_timeOf yX7_timeOf, Cond.code yX7_timeOf cX7_timeOf 3 (some .int)]
def wsX7_corrected : List Cond := .code yX7_corrected cX7_corrected 3 (some .int) :: ((wsX7_corrected_r1 ++ (wsX7_corrected_r2 ++ wsX7_corrected_r3)) ++ wsX70)
def wsX7_point_r1 : List Cond := [Cond.constant RX7 55 (-2000000001), Cond.fieldLink RX7 110 "BaroRunsModel" "many" "I", Cond.constant RX7 92 (-2000000004), Cond.fieldLink RX7 166 "BaroRunsModel" "sum" "J", Cond.fieldLink RX7 173 "BaroRunsModel" "most" "I", Cond.fieldLink RX7 170 "BaroRunsModel" "least" "I", Cond.methodLink RX7 39 yX7_in, Cond.static yX7_in, Cond.initialized RX7, Cond.code yX7_in cX7_in 3 (some .boolean), Cond.methodLink RX7 107 yX7_gives, Cond.instanceMethod yX7_gives, Cond.selects RX7 yX7_gives yX7_gives, Cond.code yX7_gives cX7_gives 6 none, Cond.fieldLink RX7 7 "BaroRunsModel" "d" "[I", Cond.fieldLink RX7 29 "BaroRunsModel" "isGood" "[Z", Cond.fieldLink RX7 36 "BaroRunsModel" "end" "[I", Cond.methodLink RX7 96 yX7_looks, Cond.instanceMethod yX7_looks, Cond.selects RX7 yX7_looks yX7_looks, Cond.code yX7_looks cX7_looks 4 none, Cond.fieldLink RX7 104 "BaroRunsModel" "loops" "I", Cond.fieldLink RX7 26 "BaroRunsModel" "raws" "[I", Cond.fieldLink RX7 33 "BaroRunsModel" "begin" "[I"]
def wsX7_point_r2 : List Cond := [Cond.methodLink RX7 93 yX7_isGust, Cond.instanceMethod yX7_isGust, Cond.selects RX7 yX7_isGust yX7_isGust, Cond.code yX7_isGust cX7_isGust 6 (some .boolean), Cond.methodLink RX7 59 yX7_of, Cond.instanceMethod yX7_of, Cond.selects RX7 yX7_of yX7_of, Cond.code yX7_of cX7_of 4 (some .int), Cond.methodLink RX7 139 yX7_hasBase, Cond.instanceMethod yX7_hasBase, Cond.selects RX7 yX7_hasBase yX7_hasBase, Cond.code yX7_hasBase cX7_hasBase 5 (some .boolean), Cond.fieldLink RX7 130 "BaroRunsModel" "basePressure" "I", Cond.fieldLink RX7 133 "BaroRunsModel" "baseWarm" "I", Cond.methodLink RX7 136 yX7_between, Cond.static yX7_between, Cond.code yX7_between cX7_between 5 (some .int), Cond.methodLink RX7 126 yX7_down, Cond.static yX7_down, Cond.code yX7_down cX7_down 6 (some .long), Cond.methodLink RX7 148 yX7_rawOf, Cond.instanceMethod yX7_rawOf, Cond.selects RX7 yX7_rawOf yX7_rawOf, Cond.code yX7_rawOf cX7_rawOf 7 (some .int)]
def wsX7_point_r3 : List Cond := [Cond.constantLong RX7 142 (2732), Cond.constantLong RX7 144 (2), Cond.constantLong RX7 146 (2930), Cond.methodLink RX7 157 yX7_open, Cond.instanceMethod yX7_open, Cond.selects RX7 yX7_open yX7_open, Cond.code yX7_open cX7_open 6 (some .int), Cond.methodLink RX7 154 yX7_timeOf, Cond.instanceMethod yX7_timeOf, Cond.selects RX7 yX7_timeOf yX7_timeOf, Cond.code yX7_timeOf cX7_timeOf 3 (some .int), Cond.methodLink RX7 163 yX7_correctedOf, Cond.instanceMethod yX7_correctedOf, Cond.selects RX7 yX7_correctedOf yX7_correctedOf, Cond.code yX7_correctedOf cX7_correctedOf 7 (some .int)]
def wsX7_point : List Cond := .code yX7_point cX7_point 3 (some .int) :: ((wsX7_point_r1 ++ (wsX7_point_r2 ++ wsX7_point_r3)) ++ wsX70)
def wsX7_worst_r1 : List Cond := [Cond.constant RX7 55 (-2000000001), Cond.fieldLink RX7 104 "BaroRunsModel" "loops" "I", Cond.fieldLink RX7 26 "BaroRunsModel" "raws" "[I", Cond.fieldLink RX7 36 "BaroRunsModel" "end" "[I", Cond.fieldLink RX7 33 "BaroRunsModel" "begin" "[I", Cond.constant RX7 92 (-2000000004), Cond.methodLink RX7 39 yX7_in, Cond.static yX7_in, Cond.initialized RX7, Cond.code yX7_in cX7_in 3 (some .boolean), Cond.methodLink RX7 96 yX7_looks, Cond.instanceMethod yX7_looks, Cond.selects RX7 yX7_looks yX7_looks, Cond.code yX7_looks cX7_looks 4 none, Cond.fieldLink RX7 7 "BaroRunsModel" "d" "[I", Cond.fieldLink RX7 29 "BaroRunsModel" "isGood" "[Z", Cond.methodLink RX7 93 yX7_isGust, Cond.instanceMethod yX7_isGust, Cond.selects RX7 yX7_isGust yX7_isGust, Cond.code yX7_isGust cX7_isGust 6 (some .boolean), Cond.methodLink RX7 59 yX7_of, Cond.instanceMethod yX7_of, Cond.selects RX7 yX7_of yX7_of, Cond.code yX7_of cX7_of 4 (some .int)]
def wsX7_worst_r2 : List Cond := [Cond.methodLink RX7 139 yX7_hasBase, Cond.instanceMethod yX7_hasBase, Cond.selects RX7 yX7_hasBase yX7_hasBase, Cond.code yX7_hasBase cX7_hasBase 5 (some .boolean), Cond.fieldLink RX7 130 "BaroRunsModel" "basePressure" "I", Cond.fieldLink RX7 133 "BaroRunsModel" "baseWarm" "I", Cond.methodLink RX7 136 yX7_between, Cond.static yX7_between, Cond.code yX7_between cX7_between 5 (some .int), Cond.methodLink RX7 126 yX7_down, Cond.static yX7_down, Cond.code yX7_down cX7_down 6 (some .long), Cond.methodLink RX7 148 yX7_rawOf, Cond.instanceMethod yX7_rawOf, Cond.selects RX7 yX7_rawOf yX7_rawOf, Cond.code yX7_rawOf cX7_rawOf 7 (some .int), Cond.constantLong RX7 142 (2732), Cond.constantLong RX7 144 (2), Cond.constantLong RX7 146 (2930)]
def wsX7_worst : List Cond := .code yX7_worst cX7_worst 7 (some .int) :: ((wsX7_worst_r1 ++ wsX7_worst_r2) ++ wsX70)
def wsX7_type : List Cond := .code yX7_type cX7_type 2 (some .int) :: ([.constant RX7 55 (-2000000001), .fieldLink RX7 123 "BaroRunsModel" "typed" "I", .constant RX7 75 (-2000000003), .fieldLink RX7 19 "BaroRunsModel" "text" "[C", .methodLink RX7 39 yX7_in, .static yX7_in, .initialized RX7, .code yX7_in cX7_in 3 (some .boolean)] ++ wsX70)
def wsX7_clearText : List Cond := .code yX7_clearText cX7_clearText 2 (some .int) :: ([.fieldLink RX7 123 "BaroRunsModel" "typed" "I"] ++ wsX70)
def wsX7_passes : List Cond := .code yX7_passes cX7_passes 3 (some .boolean) :: ([.fieldLink RX7 176 "BaroRunsModel" "at" "I", .fieldLink RX7 123 "BaroRunsModel" "typed" "I", .fieldLink RX7 19 "BaroRunsModel" "text" "[C"] ++ wsX70)
def wsX7_number : List Cond := .code yX7_number cX7_number 4 (some .int) :: ([.fieldLink RX7 176 "BaroRunsModel" "at" "I", .fieldLink RX7 123 "BaroRunsModel" "typed" "I", .fieldLink RX7 19 "BaroRunsModel" "text" "[C", .methodLink RX7 39 yX7_in, .static yX7_in, .initialized RX7, .code yX7_in cX7_in 3 (some .boolean)] ++ wsX70)
def wsX7_readsForm : List Cond := .code yX7_readsForm cX7_readsForm 3 (some .boolean) :: ([.fieldLink RX7 179 "BaroRunsModel" "whose" "I", .fieldLink RX7 23 "BaroRunsModel" "got" "[I", .methodLink RX7 182 yX7_passes, .instanceMethod yX7_passes, .selects RX7 yX7_passes yX7_passes, .initialized RX7, .code yX7_passes cX7_passes 3 (some .boolean), .fieldLink RX7 176 "BaroRunsModel" "at" "I", .fieldLink RX7 123 "BaroRunsModel" "typed" "I", .fieldLink RX7 19 "BaroRunsModel" "text" "[C", .methodLink RX7 186 yX7_number, .instanceMethod yX7_number, .selects RX7 yX7_number yX7_number, .code yX7_number cX7_number 4 (some .int), .methodLink RX7 39 yX7_in, .static yX7_in, .code yX7_in cX7_in 3 (some .boolean)] ++ wsX70)
def wsX7_entersOne_r1 : List Cond := [Cond.fieldLink RX7 179 "BaroRunsModel" "whose" "I", Cond.fieldLink RX7 23 "BaroRunsModel" "got" "[I", Cond.methodLink RX7 189 yX7_readsForm, Cond.instanceMethod yX7_readsForm, Cond.selects RX7 yX7_readsForm yX7_readsForm, Cond.initialized RX7, Cond.code yX7_readsForm cX7_readsForm 3 (some .boolean), Cond.methodLink RX7 182 yX7_passes, Cond.instanceMethod yX7_passes, Cond.selects RX7 yX7_passes yX7_passes, Cond.code yX7_passes cX7_passes 3 (some .boolean), Cond.fieldLink RX7 176 "BaroRunsModel" "at" "I", Cond.fieldLink RX7 123 "BaroRunsModel" "typed" "I", Cond.fieldLink RX7 19 "BaroRunsModel" "text" "[C", Cond.methodLink RX7 186 yX7_number, Cond.instanceMethod yX7_number, Cond.selects RX7 yX7_number yX7_number, Cond.code yX7_number cX7_number 4 (some .int), Cond.methodLink RX7 39 yX7_in, Cond.static yX7_in, Cond.code yX7_in cX7_in 3 (some .boolean), Cond.methodLink RX7 80 yX7_areValues, Cond.static yX7_areValues, Cond.code yX7_areValues cX7_areValues 3 (some .boolean)]
def wsX7_entersOne_r2 : List Cond := [Cond.constant RX7 43 (50000), Cond.constant RX7 44 (110000), Cond.methodLink RX7 67 yX7_isTaken, Cond.instanceMethod yX7_isTaken, Cond.selects RX7 yX7_isTaken yX7_isTaken, Cond.code yX7_isTaken cX7_isTaken 5 (some .boolean), Cond.fieldLink RX7 7 "BaroRunsModel" "d" "[I", Cond.methodLink RX7 59 yX7_of, Cond.instanceMethod yX7_of, Cond.selects RX7 yX7_of yX7_of, Cond.code yX7_of cX7_of 4 (some .int), Cond.methodLink RX7 71 yX7_isFull, Cond.instanceMethod yX7_isFull, Cond.selects RX7 yX7_isFull yX7_isFull, Cond.code yX7_isFull cX7_isFull 2 (some .boolean), Cond.methodLink RX7 76 yX7_puts, Cond.instanceMethod yX7_puts, Cond.selects RX7 yX7_puts yX7_puts, Cond.code yX7_puts cX7_puts 8 (some .int), Cond.methodLink RX7 63 yX7_moves, Cond.instanceMethod yX7_moves, Cond.selects RX7 yX7_moves yX7_moves, Cond.code yX7_moves cX7_moves 5 none]
def wsX7_entersOne : List Cond := .code yX7_entersOne cX7_entersOne 1 (some .int) :: ((wsX7_entersOne_r1 ++ wsX7_entersOne_r2) ++ wsX70)
def wsX7_faulty_r1 : List Cond := [Cond.fieldLink RX7 16 "BaroRunsModel" "aside" "[I", Cond.fieldLink RX7 7 "BaroRunsModel" "d" "[I", Cond.constant RX7 92 (-2000000004), Cond.fieldLink RX7 176 "BaroRunsModel" "at" "I", Cond.fieldLink RX7 123 "BaroRunsModel" "typed" "I", Cond.fieldLink RX7 196 "BaroRunsModel" "reason" "I", Cond.methodLink RX7 193 yX7_entersOne, Cond.instanceMethod yX7_entersOne, Cond.selects RX7 yX7_entersOne yX7_entersOne, Cond.initialized RX7, Cond.code yX7_entersOne cX7_entersOne 1 (some .int), Cond.fieldLink RX7 179 "BaroRunsModel" "whose" "I", Cond.fieldLink RX7 23 "BaroRunsModel" "got" "[I", Cond.methodLink RX7 189 yX7_readsForm, Cond.instanceMethod yX7_readsForm, Cond.selects RX7 yX7_readsForm yX7_readsForm, Cond.code yX7_readsForm cX7_readsForm 3 (some .boolean), Cond.methodLink RX7 182 yX7_passes, Cond.instanceMethod yX7_passes, Cond.selects RX7 yX7_passes yX7_passes, Cond.code yX7_passes cX7_passes 3 (some .boolean), Cond.fieldLink RX7 19 "BaroRunsModel" "text" "[C", Cond.methodLink RX7 186 yX7_number, Cond.instanceMethod yX7_number]
def wsX7_faulty_r2 : List Cond := [Cond.selects RX7 yX7_number yX7_number, Cond.code yX7_number cX7_number 4 (some .int), Cond.methodLink RX7 39 yX7_in, Cond.static yX7_in, Cond.code yX7_in cX7_in 3 (some .boolean), Cond.methodLink RX7 80 yX7_areValues, Cond.static yX7_areValues, Cond.code yX7_areValues cX7_areValues 3 (some .boolean), Cond.constant RX7 43 (50000), Cond.constant RX7 44 (110000), Cond.methodLink RX7 67 yX7_isTaken, Cond.instanceMethod yX7_isTaken, Cond.selects RX7 yX7_isTaken yX7_isTaken, Cond.code yX7_isTaken cX7_isTaken 5 (some .boolean), Cond.methodLink RX7 59 yX7_of, Cond.instanceMethod yX7_of, Cond.selects RX7 yX7_of yX7_of, Cond.code yX7_of cX7_of 4 (some .int), Cond.methodLink RX7 71 yX7_isFull, Cond.instanceMethod yX7_isFull, Cond.selects RX7 yX7_isFull yX7_isFull, Cond.code yX7_isFull cX7_isFull 2 (some .boolean), Cond.methodLink RX7 76 yX7_puts, Cond.instanceMethod yX7_puts]
def wsX7_faulty_r3 : List Cond := [Cond.selects RX7 yX7_puts yX7_puts, Cond.code yX7_puts cX7_puts 8 (some .int), Cond.methodLink RX7 63 yX7_moves, Cond.instanceMethod yX7_moves, Cond.selects RX7 yX7_moves yX7_moves, Cond.code yX7_moves cX7_moves 5 none]
def wsX7_faulty : List Cond := .code yX7_faulty cX7_faulty 3 (some .int) :: ((wsX7_faulty_r1 ++ (wsX7_faulty_r2 ++ wsX7_faulty_r3)) ++ wsX70)
def wsX7_fault_r1 : List Cond := [Cond.constant RX7 55 (-2000000001), Cond.constant RX7 92 (-2000000004), Cond.fieldLink RX7 196 "BaroRunsModel" "reason" "I", Cond.methodLink RX7 39 yX7_in, Cond.static yX7_in, Cond.initialized RX7, Cond.code yX7_in cX7_in 3 (some .boolean), Cond.methodLink RX7 199 yX7_faulty, Cond.instanceMethod yX7_faulty, Cond.selects RX7 yX7_faulty yX7_faulty, Cond.code yX7_faulty cX7_faulty 3 (some .int), Cond.fieldLink RX7 16 "BaroRunsModel" "aside" "[I", Cond.fieldLink RX7 7 "BaroRunsModel" "d" "[I", Cond.fieldLink RX7 176 "BaroRunsModel" "at" "I", Cond.fieldLink RX7 123 "BaroRunsModel" "typed" "I", Cond.methodLink RX7 193 yX7_entersOne, Cond.instanceMethod yX7_entersOne, Cond.selects RX7 yX7_entersOne yX7_entersOne, Cond.code yX7_entersOne cX7_entersOne 1 (some .int), Cond.fieldLink RX7 179 "BaroRunsModel" "whose" "I", Cond.fieldLink RX7 23 "BaroRunsModel" "got" "[I", Cond.methodLink RX7 189 yX7_readsForm, Cond.instanceMethod yX7_readsForm, Cond.selects RX7 yX7_readsForm yX7_readsForm]
def wsX7_fault_r2 : List Cond := [Cond.code yX7_readsForm cX7_readsForm 3 (some .boolean), Cond.methodLink RX7 182 yX7_passes, Cond.instanceMethod yX7_passes, Cond.selects RX7 yX7_passes yX7_passes, Cond.code yX7_passes cX7_passes 3 (some .boolean), Cond.fieldLink RX7 19 "BaroRunsModel" "text" "[C", Cond.methodLink RX7 186 yX7_number, Cond.instanceMethod yX7_number, Cond.selects RX7 yX7_number yX7_number, Cond.code yX7_number cX7_number 4 (some .int), Cond.methodLink RX7 80 yX7_areValues, Cond.static yX7_areValues, Cond.code yX7_areValues cX7_areValues 3 (some .boolean), Cond.constant RX7 43 (50000), Cond.constant RX7 44 (110000), Cond.methodLink RX7 67 yX7_isTaken, Cond.instanceMethod yX7_isTaken, Cond.selects RX7 yX7_isTaken yX7_isTaken, Cond.code yX7_isTaken cX7_isTaken 5 (some .boolean), Cond.methodLink RX7 59 yX7_of, Cond.instanceMethod yX7_of, Cond.selects RX7 yX7_of yX7_of, Cond.code yX7_of cX7_of 4 (some .int), Cond.methodLink RX7 71 yX7_isFull]
def wsX7_fault_r3 : List Cond := [Cond.instanceMethod yX7_isFull, Cond.selects RX7 yX7_isFull yX7_isFull, Cond.code yX7_isFull cX7_isFull 2 (some .boolean), Cond.methodLink RX7 76 yX7_puts, Cond.instanceMethod yX7_puts, Cond.selects RX7 yX7_puts yX7_puts, Cond.code yX7_puts cX7_puts 8 (some .int), Cond.methodLink RX7 63 yX7_moves, Cond.instanceMethod yX7_moves, Cond.selects RX7 yX7_moves yX7_moves, Cond.code yX7_moves cX7_moves 5 none]
def wsX7_fault : List Cond := .code yX7_fault cX7_fault 3 (some .int) :: ((wsX7_fault_r1 ++ (wsX7_fault_r2 ++ wsX7_fault_r3)) ++ wsX70)
def wsX7_enter_r1 : List Cond := [Cond.constant RX7 92 (-2000000004), Cond.constant RX7 70 (-2000000002), Cond.fieldLink RX7 176 "BaroRunsModel" "at" "I", Cond.fieldLink RX7 123 "BaroRunsModel" "typed" "I", Cond.methodLink RX7 199 yX7_faulty, Cond.instanceMethod yX7_faulty, Cond.selects RX7 yX7_faulty yX7_faulty, Cond.initialized RX7, Cond.code yX7_faulty cX7_faulty 3 (some .int), Cond.fieldLink RX7 16 "BaroRunsModel" "aside" "[I", Cond.fieldLink RX7 7 "BaroRunsModel" "d" "[I", Cond.fieldLink RX7 196 "BaroRunsModel" "reason" "I", Cond.methodLink RX7 193 yX7_entersOne, Cond.instanceMethod yX7_entersOne, Cond.selects RX7 yX7_entersOne yX7_entersOne, Cond.code yX7_entersOne cX7_entersOne 1 (some .int), Cond.fieldLink RX7 179 "BaroRunsModel" "whose" "I", Cond.fieldLink RX7 23 "BaroRunsModel" "got" "[I", Cond.methodLink RX7 189 yX7_readsForm, Cond.instanceMethod yX7_readsForm, Cond.selects RX7 yX7_readsForm yX7_readsForm, Cond.code yX7_readsForm cX7_readsForm 3 (some .boolean), Cond.methodLink RX7 182 yX7_passes, Cond.instanceMethod yX7_passes]
def wsX7_enter_r2 : List Cond := [Cond.selects RX7 yX7_passes yX7_passes, Cond.code yX7_passes cX7_passes 3 (some .boolean), Cond.fieldLink RX7 19 "BaroRunsModel" "text" "[C", Cond.methodLink RX7 186 yX7_number, Cond.instanceMethod yX7_number, Cond.selects RX7 yX7_number yX7_number, Cond.code yX7_number cX7_number 4 (some .int), Cond.methodLink RX7 39 yX7_in, Cond.static yX7_in, Cond.code yX7_in cX7_in 3 (some .boolean), Cond.methodLink RX7 80 yX7_areValues, Cond.static yX7_areValues, Cond.code yX7_areValues cX7_areValues 3 (some .boolean), Cond.constant RX7 43 (50000), Cond.constant RX7 44 (110000), Cond.methodLink RX7 67 yX7_isTaken, Cond.instanceMethod yX7_isTaken, Cond.selects RX7 yX7_isTaken yX7_isTaken, Cond.code yX7_isTaken cX7_isTaken 5 (some .boolean), Cond.methodLink RX7 59 yX7_of, Cond.instanceMethod yX7_of, Cond.selects RX7 yX7_of yX7_of, Cond.code yX7_of cX7_of 4 (some .int), Cond.methodLink RX7 71 yX7_isFull]
def wsX7_enter_r3 : List Cond := [Cond.instanceMethod yX7_isFull, Cond.selects RX7 yX7_isFull yX7_isFull, Cond.code yX7_isFull cX7_isFull 2 (some .boolean), Cond.methodLink RX7 76 yX7_puts, Cond.instanceMethod yX7_puts, Cond.selects RX7 yX7_puts yX7_puts, Cond.code yX7_puts cX7_puts 8 (some .int), Cond.methodLink RX7 63 yX7_moves, Cond.instanceMethod yX7_moves, Cond.selects RX7 yX7_moves yX7_moves, Cond.code yX7_moves cX7_moves 5 none, Cond.methodLink RX7 56 yX7_records, Cond.instanceMethod yX7_records, Cond.selects RX7 yX7_records yX7_records, Cond.code yX7_records cX7_records 2 none, Cond.fieldLink RX7 45 "BaroRunsModel" "states" "I", Cond.fieldLink RX7 13 "BaroRunsModel" "was" "[I"]
def wsX7_enter : List Cond := .code yX7_enter cX7_enter 2 (some .int) :: ((wsX7_enter_r1 ++ (wsX7_enter_r2 ++ wsX7_enter_r3)) ++ wsX70)
def wsJ9_abs_0f7a4 : List Cond := .code yJ9_abs_0f7a4 cJ9_abs_0f7a4 1 (some .int) :: ([])
def wsJ9_max_7cf53 : List Cond := .code yJ9_max_7cf53 cJ9_max_7cf53 2 (some .int) :: ([])
def wsJ9_min_7cf53 : List Cond := .code yJ9_min_7cf53 cJ9_min_7cf53 2 (some .int) :: ([])
def wsL_law_r1 : List Cond := [Cond.classLink RL 7 RX6, Cond.instantiable RX6 9, Cond.initialized RX6, Cond.classLink RL 10 RX7, Cond.instantiable RX7 21, Cond.initialized RX7, Cond.methodLink RL 9 yX6_init, Cond.instanceMethod yX6_init, Cond.code yX6_init cX6_init 1 none, Cond.methodLink RX6 1 objectInit, Cond.instanceMethod objectInit, Cond.code objectInit ⟨#[0xb1]⟩ 1 none, Cond.classLink RX6 7 RX2, Cond.instantiable RX2 7, Cond.initialized RX2, Cond.fieldLink RX6 10 "BaroRuns" "now" "LBaroRuns$State;", Cond.fieldLink RX6 16 "BaroRuns" "trial" "LBaroRuns$State;", Cond.classLink RX6 19 RX0, Cond.instantiable RX0 3, Cond.initialized RX0, Cond.fieldLink RX6 22 "BaroRuns" "history" "LBaroRuns$History;", Cond.classLink RX6 26 RX3, Cond.instantiable RX3 12, Cond.initialized RX3]
def wsL_law_r2 : List Cond := [Cond.fieldLink RX6 29 "BaroRuns" "firstSurvey" "LBaroRuns$Survey;", Cond.fieldLink RX6 33 "BaroRuns" "secondSurvey" "LBaroRuns$Survey;", Cond.fieldLink RX6 36 "BaroRuns" "thirdSurvey" "LBaroRuns$Survey;", Cond.classLink RX6 39 RX1, Cond.instantiable RX1 4, Cond.initialized RX1, Cond.fieldLink RX6 42 "BaroRuns" "pointSum" "LBaroRuns$PointSum;", Cond.classLink RX6 46 RX4, Cond.instantiable RX4 11, Cond.initialized RX4, Cond.fieldLink RX6 49 "BaroRuns" "text" "LBaroRuns$Text;", Cond.fieldLink RX6 53 "BaroRuns" "stale" "Z", Cond.methodLink RX6 9 yX2_init, Cond.instanceMethod yX2_init, Cond.code yX2_init cX2_init 1 none, Cond.methodLink RX2 3 objectInit, Cond.classLink RX2 9 RX5, Cond.instantiable RX5 3, Cond.initialized RX5, Cond.fieldLink RX2 14 "BaroRuns$State" "baseTrack" "LBaroRuns$Track;", Cond.fieldLink RX2 20 "BaroRuns$State" "firstTrack" "LBaroRuns$Track;", Cond.fieldLink RX2 23 "BaroRuns$State" "secondTrack" "LBaroRuns$Track;", Cond.fieldLink RX2 26 "BaroRuns$State" "thirdTrack" "LBaroRuns$Track;", Cond.fieldLink RX2 29 "BaroRuns$State" "baseHeight" "I"]
def wsL_law_r3 : List Cond := [Cond.fieldLink RX2 33 "BaroRuns$State" "gustLimit" "I", Cond.fieldLink RX2 36 "BaroRuns$State" "stepLimit" "I", Cond.methodLink RX2 11 yX5_init, Cond.instanceMethod yX5_init, Cond.code yX5_init cX5_init 2 none, Cond.methodLink RX5 3 objectInit, Cond.arrayClass .int, Cond.fieldLink RX5 9 "BaroRuns$Track" "values" "[I", Cond.methodLink RX5 15 Lib.Math.min.name, Cond.static Lib.Math.min.name, Cond.initialized "java/lang/Math", Cond.code Lib.Math.min.name Lib.Math.min.code 2 (some .int), Cond.fieldLink RX5 21 "BaroRuns$Track" "room" "I", Cond.methodLink RX6 21 yX0_init, Cond.instanceMethod yX0_init, Cond.code yX0_init cX0_init 2 none, Cond.methodLink RX0 3 objectInit, Cond.classLink RX0 9 RX2, Cond.fieldLink RX0 11 "BaroRuns$History" "places" "[LBaroRuns$State;", Cond.methodLink RX0 17 yX2_init, Cond.methodLink RX6 28 yX3_init, Cond.instanceMethod yX3_init, Cond.code yX3_init cX3_init 1 none, Cond.methodLink RX3 3 objectInit]
def wsL_law_r4 : List Cond := [Cond.fieldLink RX3 9 "BaroRuns$Survey" "times" "[I", Cond.fieldLink RX3 15 "BaroRuns$Survey" "points" "[I", Cond.fieldLink RX3 18 "BaroRuns$Survey" "heights" "[I", Cond.fieldLink RX3 21 "BaroRuns$Survey" "gusts" "[I", Cond.fieldLink RX3 24 "BaroRuns$Survey" "openLoops" "[I", Cond.fieldLink RX3 27 "BaroRuns$Survey" "correctedHeights" "[I", Cond.fieldLink RX3 30 "BaroRuns$Survey" "begins" "[I", Cond.fieldLink RX3 33 "BaroRuns$Survey" "ends" "[I", Cond.methodLink RX6 41 yX1_init, Cond.instanceMethod yX1_init, Cond.code yX1_init cX1_init 1 none, Cond.methodLink RX1 1 objectInit, Cond.methodLink RX6 48 yX4_init, Cond.instanceMethod yX4_init, Cond.code yX4_init cX4_init 1 none, Cond.methodLink RX4 3 objectInit, Cond.fieldLink RX4 9 "BaroRuns$Text" "characters" "[I", Cond.fieldLink RX4 15 "BaroRuns$Text" "faultPosition" "I", Cond.methodLink RL 12 yX7_init, Cond.instanceMethod yX7_init, Cond.code yX7_init cX7_init 1 none, Cond.methodLink RX7 1 objectInit, Cond.fieldLink RX7 7 "BaroRunsModel" "d" "[I", Cond.fieldLink RX7 13 "BaroRunsModel" "was" "[I"]
def wsL_law_r5 : List Cond := [Cond.fieldLink RX7 16 "BaroRunsModel" "aside" "[I", Cond.arrayClass .char, Cond.fieldLink RX7 19 "BaroRunsModel" "text" "[C", Cond.fieldLink RX7 23 "BaroRunsModel" "got" "[I", Cond.fieldLink RX7 26 "BaroRunsModel" "raws" "[I", Cond.arrayClass .boolean, Cond.fieldLink RX7 29 "BaroRunsModel" "isGood" "[Z", Cond.fieldLink RX7 33 "BaroRunsModel" "begin" "[I", Cond.fieldLink RX7 36 "BaroRunsModel" "end" "[I", Cond.methodLink RL 13 yX6_set, Cond.instanceMethod yX6_set, Cond.selects RX6 yX6_set yX6_set, Cond.code yX6_set cX6_set 4 (some .int), Cond.constant RX6 61 (-2000000001), Cond.methodLink RX6 57 yX6_isSetting, Cond.static yX6_isSetting, Cond.code yX6_isSetting cX6_isSetting 2 (some .boolean), Cond.constant RX6 233 (-500000), Cond.constant RX6 234 (9000000), Cond.methodLink RX6 105 yX6_within, Cond.static yX6_within, Cond.code yX6_within cX6_within 3 (some .boolean), Cond.methodLink RX6 62 yX6_record, Cond.instanceMethod yX6_record]
def wsL_law_r6 : List Cond := [Cond.selects RX6 yX6_record yX6_record, Cond.code yX6_record cX6_record 1 none, Cond.methodLink RX6 240 yX0_keep, Cond.instanceMethod yX0_keep, Cond.selects RX0 yX0_keep yX0_keep, Cond.code yX0_keep cX0_keep 3 none, Cond.fieldLink RX0 18 "BaroRuns$History" "size" "I", Cond.fieldLink RX0 22 "BaroRuns$History" "oldest" "I", Cond.methodLink RX0 25 yX0_place, Cond.instanceMethod yX0_place, Cond.selects RX0 yX0_place yX0_place, Cond.code yX0_place cX0_place 3 (some (.object "BaroRuns$State")), Cond.methodLink RX0 29 yX2_copyFrom, Cond.instanceMethod yX2_copyFrom, Cond.selects RX2 yX2_copyFrom yX2_copyFrom, Cond.code yX2_copyFrom cX2_copyFrom 2 none, Cond.methodLink RX2 39 yX5_copyFrom, Cond.instanceMethod yX5_copyFrom, Cond.selects RX5 yX5_copyFrom yX5_copyFrom, Cond.code yX5_copyFrom cX5_copyFrom 2 none, Cond.methodLink RX5 43 arraycopyName, Cond.native arraycopyName, Cond.static arraycopyName, Cond.initialized "java/lang/System"]
def wsL_law_r7 : List Cond := [Cond.fieldLink RX5 29 "BaroRuns$Track" "size" "I", Cond.methodLink RX6 65 yX2_setting, Cond.instanceMethod yX2_setting, Cond.selects RX2 yX2_setting yX2_setting, Cond.code yX2_setting cX2_setting 2 (some .int), Cond.methodLink RX6 69 yX2_putSetting, Cond.instanceMethod yX2_putSetting, Cond.selects RX2 yX2_putSetting yX2_putSetting, Cond.code yX2_putSetting cX2_putSetting 3 none, Cond.methodLink RL 17 yX7_set, Cond.instanceMethod yX7_set, Cond.selects RX7 yX7_set yX7_set, Cond.code yX7_set cX7_set 4 (some .int), Cond.constant RX7 55 (-2000000001), Cond.methodLink RX7 51 yX7_isSetting, Cond.static yX7_isSetting, Cond.code yX7_isSetting cX7_isSetting 2 (some .boolean), Cond.constant RX7 49 (-500000), Cond.constant RX7 50 (9000000), Cond.methodLink RX7 39 yX7_in, Cond.static yX7_in, Cond.code yX7_in cX7_in 3 (some .boolean), Cond.methodLink RX7 56 yX7_records, Cond.instanceMethod yX7_records]
def wsL_law_r8 : List Cond := [Cond.selects RX7 yX7_records yX7_records, Cond.code yX7_records cX7_records 2 none, Cond.fieldLink RX7 45 "BaroRunsModel" "states" "I", Cond.methodLink RL 18 yX6_base, Cond.instanceMethod yX6_base, Cond.selects RX6 yX6_base yX6_base, Cond.code yX6_base cX6_base 4 (some .int), Cond.methodLink RX6 73 yX6_isReading, Cond.static yX6_isReading, Cond.code yX6_isReading cX6_isReading 3 (some .boolean), Cond.constant RX6 172 (50000), Cond.constant RX6 235 (110000), Cond.methodLink RX6 151 yX6_isTime, Cond.static yX6_isTime, Cond.code yX6_isTime cX6_isTime 1 (some .boolean), Cond.methodLink RX6 167 yX6_isTemperature, Cond.static yX6_isTemperature, Cond.code yX6_isTemperature cX6_isTemperature 1 (some .boolean), Cond.methodLink RX6 77 yX6_take, Cond.instanceMethod yX6_take, Cond.selects RX6 yX6_take yX6_take, Cond.code yX6_take cX6_take 7 (some .int), Cond.constant RX6 146 (-2000000002), Cond.constant RX6 214 (-2000000003)]
def wsL_law_r9 : List Cond := [Cond.methodLink RX6 91 yX2_track, Cond.instanceMethod yX2_track, Cond.selects RX2 yX2_track yX2_track, Cond.code yX2_track cX2_track 2 (some (.object "BaroRuns$Track")), Cond.methodLink RX6 243 yX5_hasTime, Cond.instanceMethod yX5_hasTime, Cond.selects RX5 yX5_hasTime yX5_hasTime, Cond.code yX5_hasTime cX5_hasTime 3 (some .boolean), Cond.methodLink RX5 32 yX5_value, Cond.instanceMethod yX5_value, Cond.selects RX5 yX5_value yX5_value, Cond.code yX5_value cX5_value 3 (some .int), Cond.static yX6_at, Cond.code yX6_at cX6_at 2 (some .int), Cond.methodLink RX6 246 yX5_isFull, Cond.instanceMethod yX5_isFull, Cond.selects RX5 yX5_isFull yX5_isFull, Cond.code yX5_isFull cX5_isFull 1 (some .boolean), Cond.methodLink RX6 250 yX5_insert, Cond.instanceMethod yX5_insert, Cond.selects RX5 yX5_insert yX5_insert, Cond.code yX5_insert cX5_insert 7 (some .int), Cond.methodLink RX5 35 yX5_move, Cond.instanceMethod yX5_move]
def wsL_law_r10 : List Cond := [Cond.selects RX5 yX5_move yX5_move, Cond.code yX5_move cX5_move 4 none, Cond.static yX6_put, Cond.code yX6_put cX6_put 3 none, Cond.methodLink RL 22 yX7_base, Cond.instanceMethod yX7_base, Cond.selects RX7 yX7_base yX7_base, Cond.code yX7_base cX7_base 4 (some .int), Cond.methodLink RX7 80 yX7_areValues, Cond.static yX7_areValues, Cond.code yX7_areValues cX7_areValues 3 (some .boolean), Cond.constant RX7 43 (50000), Cond.constant RX7 44 (110000), Cond.methodLink RX7 83 yX7_adds, Cond.instanceMethod yX7_adds, Cond.selects RX7 yX7_adds yX7_adds, Cond.code yX7_adds cX7_adds 6 (some .int), Cond.constant RX7 70 (-2000000002), Cond.constant RX7 75 (-2000000003), Cond.methodLink RX7 67 yX7_isTaken, Cond.instanceMethod yX7_isTaken, Cond.selects RX7 yX7_isTaken yX7_isTaken, Cond.code yX7_isTaken cX7_isTaken 5 (some .boolean), Cond.methodLink RX7 59 yX7_of]
def wsL_law_r11 : List Cond := [Cond.instanceMethod yX7_of, Cond.selects RX7 yX7_of yX7_of, Cond.code yX7_of cX7_of 4 (some .int), Cond.methodLink RX7 71 yX7_isFull, Cond.instanceMethod yX7_isFull, Cond.selects RX7 yX7_isFull yX7_isFull, Cond.code yX7_isFull cX7_isFull 2 (some .boolean), Cond.methodLink RX7 76 yX7_puts, Cond.instanceMethod yX7_puts, Cond.selects RX7 yX7_puts yX7_puts, Cond.code yX7_puts cX7_puts 8 (some .int), Cond.methodLink RX7 63 yX7_moves, Cond.instanceMethod yX7_moves, Cond.selects RX7 yX7_moves yX7_moves, Cond.code yX7_moves cX7_moves 5 none, Cond.methodLink RL 23 yX6_read, Cond.instanceMethod yX6_read, Cond.selects RX6 yX6_read yX6_read, Cond.code yX6_read cX6_read 6 (some .int), Cond.methodLink RX6 81 yX6_isCell, Cond.static yX6_isCell, Cond.code yX6_isCell cX6_isCell 1 (some .boolean), Cond.methodLink RX6 85 yX6_isPoint, Cond.static yX6_isPoint]
def wsL_law_r12 : List Cond := [Cond.code yX6_isPoint cX6_isPoint 1 (some .boolean), Cond.methodLink RL 27 yX7_read, Cond.instanceMethod yX7_read, Cond.selects RX7 yX7_read yX7_read, Cond.code yX7_read cX7_read 6 (some .int), Cond.methodLink RX7 86 yX7_isCell, Cond.static yX7_isCell, Cond.code yX7_isCell cX7_isCell 1 (some .boolean), Cond.methodLink RL 28 yX6_drop, Cond.instanceMethod yX6_drop, Cond.selects RX6 yX6_drop yX6_drop, Cond.code yX6_drop cX6_drop 4 (some .int), Cond.methodLink RX6 88 yX6_isReadingOf, Cond.instanceMethod yX6_isReadingOf, Cond.selects RX6 yX6_isReadingOf yX6_isReadingOf, Cond.code yX6_isReadingOf cX6_isReadingOf 3 (some .boolean), Cond.methodLink RX6 95 yX5_remove, Cond.instanceMethod yX5_remove, Cond.selects RX5 yX5_remove yX5_remove, Cond.code yX5_remove cX5_remove 3 none, Cond.methodLink RL 31 yX7_drop, Cond.instanceMethod yX7_drop, Cond.selects RX7 yX7_drop yX7_drop, Cond.code yX7_drop cX7_drop 5 (some .int)]
def wsL_law_r13 : List Cond := [Cond.methodLink RX7 89 yX7_isReading, Cond.instanceMethod yX7_isReading, Cond.selects RX7 yX7_isReading yX7_isReading, Cond.code yX7_isReading cX7_isReading 3 (some .boolean), Cond.methodLink RL 32 yX6_reading, Cond.instanceMethod yX6_reading, Cond.selects RX6 yX6_reading yX6_reading, Cond.code yX6_reading cX6_reading 4 (some .int), Cond.constant RX6 108 (-2000000004), Cond.methodLink RX6 109 yX6_refresh, Cond.instanceMethod yX6_refresh, Cond.selects RX6 yX6_refresh yX6_refresh, Cond.code yX6_refresh cX6_refresh 1 none, Cond.methodLink RX6 257 yX3_workOut, Cond.instanceMethod yX3_workOut, Cond.selects RX3 yX3_workOut yX3_workOut, Cond.code yX3_workOut cX3_workOut 8 none, Cond.fieldLink RX3 48 "BaroRuns$Survey" "size" "I", Cond.methodLink RX3 36 yX2_track, Cond.methodLink RX3 49 yX5_value, Cond.methodLink RX3 57 yX2_heightAt, Cond.instanceMethod yX2_heightAt, Cond.selects RX2 yX2_heightAt yX2_heightAt, Cond.code yX2_heightAt cX2_heightAt 12 (some .int)]
def wsL_law_r14 : List Cond := [Cond.constant RX2 50 (-2000000004), Cond.constantLong RX2 63 (2930), Cond.methodLink RX2 55 yX2_baseValue, Cond.instanceMethod yX2_baseValue, Cond.selects RX2 yX2_baseValue yX2_baseValue, Cond.code yX2_baseValue cX2_baseValue 10 (some .int), Cond.methodLink RX2 46 yX5_value, Cond.static yX6_divideDown, Cond.code yX6_divideDown cX6_divideDown 4 (some .long), Cond.methodLink RX6 236 yJ9_floorDiv_f86c9, Cond.static yJ9_floorDiv_f86c9, Cond.initialized RJ9, Cond.code yJ9_floorDiv_f86c9 cJ9_floorDiv_f86c9 6 (some .long), Cond.methodLink RX2 58 yJ9_floorDiv_7cf53, Cond.static yJ9_floorDiv_7cf53, Cond.code yJ9_floorDiv_7cf53 cJ9_floorDiv_7cf53 3 (some .int), Cond.methodLink RX3 64 yX5_standsOut, Cond.instanceMethod yX5_standsOut, Cond.selects RX5 yX5_standsOut yX5_standsOut, Cond.code yX5_standsOut cX5_standsOut 6 (some .boolean), Cond.methodLink RX3 68 yX3_countKinds, Cond.instanceMethod yX3_countKinds, Cond.selects RX3 yX3_countKinds yX3_countKinds, Cond.code yX3_countKinds cX3_countKinds 2 none]
def wsL_law_r15 : List Cond := [Cond.fieldLink RX3 114 "BaroRuns$Survey" "gustCount" "I", Cond.fieldLink RX3 117 "BaroRuns$Survey" "goodCount" "I", Cond.methodLink RX3 120 yX3_isGust, Cond.instanceMethod yX3_isGust, Cond.selects RX3 yX3_isGust yX3_isGust, Cond.code yX3_isGust cX3_isGust 2 (some .boolean), Cond.methodLink RX3 95 yX3_isGood, Cond.instanceMethod yX3_isGood, Cond.selects RX3 yX3_isGood yX3_isGood, Cond.code yX3_isGood cX3_isGood 2 (some .boolean), Cond.constant RX3 85 (-2000000004), Cond.methodLink RX3 71 yX3_findLoops, Cond.instanceMethod yX3_findLoops, Cond.selects RX3 yX3_findLoops yX3_findLoops, Cond.code yX3_findLoops cX3_findLoops 3 none, Cond.fieldLink RX3 123 "BaroRuns$Survey" "loopCount" "I", Cond.methodLink RX3 126 yX3_lastVisit, Cond.instanceMethod yX3_lastVisit, Cond.selects RX3 yX3_lastVisit yX3_lastVisit, Cond.code yX3_lastVisit cX3_lastVisit 4 (some .int), Cond.methodLink RX3 74 yX3_shortestLoop, Cond.instanceMethod yX3_shortestLoop, Cond.selects RX3 yX3_shortestLoop yX3_shortestLoop, Cond.code yX3_shortestLoop cX3_shortestLoop 5 (some .int)]
def wsL_law_r16 : List Cond := [Cond.methodLink RX3 89 yX3_begin, Cond.instanceMethod yX3_begin, Cond.selects RX3 yX3_begin yX3_begin, Cond.code yX3_begin cX3_begin 2 (some .int), Cond.methodLink RX3 86 yX3_end, Cond.instanceMethod yX3_end, Cond.selects RX3 yX3_end yX3_end, Cond.code yX3_end cX3_end 2 (some .int), Cond.methodLink RX3 129 yX3_minutes, Cond.instanceMethod yX3_minutes, Cond.selects RX3 yX3_minutes yX3_minutes, Cond.code yX3_minutes cX3_minutes 2 (some .int), Cond.methodLink RX3 78 yX3_withoutDrift, Cond.instanceMethod yX3_withoutDrift, Cond.selects RX3 yX3_withoutDrift yX3_withoutDrift, Cond.code yX3_withoutDrift cX3_withoutDrift 5 (some .int), Cond.methodLink RX3 111 yX3_openLoopOf, Cond.instanceMethod yX3_openLoopOf, Cond.selects RX3 yX3_openLoopOf yX3_openLoopOf, Cond.code yX3_openLoopOf cX3_openLoopOf 2 (some .int), Cond.methodLink RX3 92 yX3_rawHeight, Cond.instanceMethod yX3_rawHeight, Cond.selects RX3 yX3_rawHeight yX3_rawHeight, Cond.code yX3_rawHeight cX3_rawHeight 2 (some .int)]
def wsL_law_r17 : List Cond := [Cond.methodLink RX3 132 yX3_misclosure, Cond.instanceMethod yX3_misclosure, Cond.selects RX3 yX3_misclosure yX3_misclosure, Cond.code yX3_misclosure cX3_misclosure 2 (some .int), Cond.methodLink RX6 112 yX6_surveyOf, Cond.instanceMethod yX6_surveyOf, Cond.selects RX6 yX6_surveyOf yX6_surveyOf, Cond.code yX6_surveyOf cX6_surveyOf 2 (some (.object "BaroRuns$Survey")), Cond.methodLink RX6 116 yX3_isGust, Cond.methodLink RX6 119 yX3_isGood, Cond.methodLink RX6 122 yX5_value, Cond.methodLink RL 35 yX7_reading, Cond.instanceMethod yX7_reading, Cond.selects RX7 yX7_reading yX7_reading, Cond.code yX7_reading cX7_reading 5 (some .int), Cond.constant RX7 92 (-2000000004), Cond.methodLink RX7 93 yX7_isGust, Cond.instanceMethod yX7_isGust, Cond.selects RX7 yX7_isGust yX7_isGust, Cond.code yX7_isGust cX7_isGust 6 (some .boolean), Cond.methodLink RX7 96 yX7_looks, Cond.instanceMethod yX7_looks, Cond.selects RX7 yX7_looks yX7_looks, Cond.code yX7_looks cX7_looks 4 none]
def wsL_law_r18 : List Cond := [Cond.fieldLink RX7 104 "BaroRunsModel" "loops" "I", Cond.methodLink RX7 139 yX7_hasBase, Cond.instanceMethod yX7_hasBase, Cond.selects RX7 yX7_hasBase yX7_hasBase, Cond.code yX7_hasBase cX7_hasBase 5 (some .boolean), Cond.fieldLink RX7 130 "BaroRunsModel" "basePressure" "I", Cond.fieldLink RX7 133 "BaroRunsModel" "baseWarm" "I", Cond.methodLink RX7 136 yX7_between, Cond.static yX7_between, Cond.code yX7_between cX7_between 5 (some .int), Cond.methodLink RX7 126 yX7_down, Cond.static yX7_down, Cond.code yX7_down cX7_down 6 (some .long), Cond.methodLink RX7 148 yX7_rawOf, Cond.instanceMethod yX7_rawOf, Cond.selects RX7 yX7_rawOf yX7_rawOf, Cond.code yX7_rawOf cX7_rawOf 7 (some .int), Cond.constantLong RX7 142 (2732), Cond.constantLong RX7 144 (2), Cond.constantLong RX7 146 (2930), Cond.methodLink RL 36 yX6_count, Cond.instanceMethod yX6_count, Cond.selects RX6 yX6_count yX6_count, Cond.code yX6_count cX6_count 2 (some .int)]
def wsL_law_r19 : List Cond := [Cond.methodLink RX6 132 yX2_steps, Cond.instanceMethod yX2_steps, Cond.selects RX2 yX2_steps yX2_steps, Cond.code yX2_steps cX2_steps 3 (some .int), Cond.methodLink RX2 69 yX2_isStepEnd, Cond.instanceMethod yX2_isStepEnd, Cond.selects RX2 yX2_isStepEnd yX2_isStepEnd, Cond.code yX2_isStepEnd cX2_isStepEnd 3 (some .boolean), Cond.methodLink RX2 65 Lib.Math.abs.name, Cond.static Lib.Math.abs.name, Cond.code Lib.Math.abs.name Lib.Math.abs.code 1 (some .int), Cond.methodLink RX6 136 yX6_pointsWithHeight, Cond.instanceMethod yX6_pointsWithHeight, Cond.selects RX6 yX6_pointsWithHeight yX6_pointsWithHeight, Cond.code yX6_pointsWithHeight cX6_pointsWithHeight 3 (some .int), Cond.methodLink RX6 197 yX6_gather, Cond.instanceMethod yX6_gather, Cond.selects RX6 yX6_gather yX6_gather, Cond.code yX6_gather cX6_gather 3 none, Cond.methodLink RX6 261 yX1_clear, Cond.instanceMethod yX1_clear, Cond.selects RX1 yX1_clear yX1_clear, Cond.code yX1_clear cX1_clear 1 none, Cond.fieldLink RX1 7 "BaroRuns$PointSum" "sum" "J"]
def wsL_law_r20 : List Cond := [Cond.fieldLink RX1 13 "BaroRuns$PointSum" "number" "I", Cond.methodLink RX6 264 yX3_addTo, Cond.instanceMethod yX3_addTo, Cond.selects RX3 yX3_addTo yX3_addTo, Cond.code yX3_addTo cX3_addTo 4 none, Cond.methodLink RX3 99 yX3_endsOpenLoop, Cond.instanceMethod yX3_endsOpenLoop, Cond.selects RX3 yX3_endsOpenLoop yX3_endsOpenLoop, Cond.code yX3_endsOpenLoop cX3_endsOpenLoop 3 (some .boolean), Cond.methodLink RX3 102 yX3_correctedHeight, Cond.instanceMethod yX3_correctedHeight, Cond.selects RX3 yX3_correctedHeight yX3_correctedHeight, Cond.code yX3_correctedHeight cX3_correctedHeight 2 (some .int), Cond.methodLink RX3 105 yX1_add, Cond.instanceMethod yX1_add, Cond.selects RX1 yX1_add yX1_add, Cond.code yX1_add cX1_add 2 none, Cond.fieldLink RX1 17 "BaroRuns$PointSum" "least" "I", Cond.methodLink RX1 20 Lib.Math.min.name, Cond.fieldLink RX1 26 "BaroRuns$PointSum" "greatest" "I", Cond.methodLink RX1 29 Lib.Math.max.name, Cond.static Lib.Math.max.name, Cond.code Lib.Math.max.name Lib.Math.max.code 2 (some .int), Cond.methodLink RL 40 yX7_count]
def wsL_law_r21 : List Cond := [Cond.instanceMethod yX7_count, Cond.selects RX7 yX7_count yX7_count, Cond.code yX7_count cX7_count 2 (some .int), Cond.fieldLink RX7 123 "BaroRunsModel" "typed" "I", Cond.methodLink RX7 113 yX7_inAll, Cond.instanceMethod yX7_inAll, Cond.selects RX7 yX7_inAll yX7_inAll, Cond.code yX7_inAll cX7_inAll 5 (some .int), Cond.methodLink RX7 116 yX7_steps, Cond.instanceMethod yX7_steps, Cond.selects RX7 yX7_steps yX7_steps, Cond.code yX7_steps cX7_steps 2 (some .int), Cond.methodLink RX7 100 yX7_stepsTo, Cond.instanceMethod yX7_stepsTo, Cond.selects RX7 yX7_stepsTo yX7_stepsTo, Cond.code yX7_stepsTo cX7_stepsTo 5 (some .int), Cond.methodLink RX7 120 yX7_heights, Cond.instanceMethod yX7_heights, Cond.selects RX7 yX7_heights yX7_heights, Cond.code yX7_heights cX7_heights 3 (some .int), Cond.fieldLink RX7 110 "BaroRunsModel" "many" "I", Cond.methodLink RX7 107 yX7_gives, Cond.instanceMethod yX7_gives, Cond.selects RX7 yX7_gives yX7_gives]
def wsL_law_r22 : List Cond := [Cond.code yX7_gives cX7_gives 6 none, Cond.fieldLink RX7 166 "BaroRunsModel" "sum" "J", Cond.fieldLink RX7 170 "BaroRunsModel" "least" "I", Cond.fieldLink RX7 173 "BaroRunsModel" "most" "I", Cond.methodLink RX7 157 yX7_open, Cond.instanceMethod yX7_open, Cond.selects RX7 yX7_open yX7_open, Cond.code yX7_open cX7_open 6 (some .int), Cond.methodLink RX7 154 yX7_timeOf, Cond.instanceMethod yX7_timeOf, Cond.selects RX7 yX7_timeOf yX7_timeOf, Cond.code yX7_timeOf cX7_timeOf 3 (some .int), Cond.methodLink RX7 163 yX7_correctedOf, Cond.instanceMethod yX7_correctedOf, Cond.selects RX7 yX7_correctedOf yX7_correctedOf, Cond.code yX7_correctedOf cX7_correctedOf 7 (some .int), Cond.methodLink RL 41 yX6_undo, Cond.instanceMethod yX6_undo, Cond.selects RX6 yX6_undo yX6_undo, Cond.code yX6_undo cX6_undo 1 (some .int), Cond.methodLink RX6 147 yX0_giveBack, Cond.instanceMethod yX0_giveBack, Cond.selects RX0 yX0_giveBack yX0_giveBack, Cond.code yX0_giveBack cX0_giveBack 3 none]
def wsL_law_r23 : List Cond := [Cond.methodLink RL 45 yX7_undo, Cond.instanceMethod yX7_undo, Cond.selects RX7 yX7_undo yX7_undo, Cond.code yX7_undo cX7_undo 2 (some .int), Cond.methodLink RL 46 yX6_baseAt, Cond.instanceMethod yX6_baseAt, Cond.selects RX6 yX6_baseAt yX6_baseAt, Cond.code yX6_baseAt cX6_baseAt 3 (some .int), Cond.methodLink RX6 154 yX2_baseValue, Cond.methodLink RL 49 yX7_baseAt, Cond.instanceMethod yX7_baseAt, Cond.selects RX7 yX7_baseAt yX7_baseAt, Cond.code yX7_baseAt cX7_baseAt 3 (some .int), Cond.methodLink RL 50 yX6_step, Cond.instanceMethod yX6_step, Cond.selects RX6 yX6_step yX6_step, Cond.code yX6_step cX6_step 3 (some .int), Cond.methodLink RX6 157 yX2_stepEnd, Cond.instanceMethod yX2_stepEnd, Cond.selects RX2 yX2_stepEnd yX2_stepEnd, Cond.code yX2_stepEnd cX2_stepEnd 4 (some .int), Cond.methodLink RL 53 yX7_step, Cond.instanceMethod yX7_step, Cond.selects RX7 yX7_step yX7_step]
def wsL_law_r24 : List Cond := [Cond.code yX7_step cX7_step 3 (some .int), Cond.methodLink RL 54 yX6_raw, Cond.instanceMethod yX6_raw, Cond.selects RX6 yX6_raw yX6_raw, Cond.code yX6_raw cX6_raw 3 (some .int), Cond.methodLink RX6 160 yX3_rawHeight, Cond.methodLink RL 57 yX7_raw, Cond.instanceMethod yX7_raw, Cond.selects RX7 yX7_raw yX7_raw, Cond.code yX7_raw cX7_raw 4 (some .int), Cond.methodLink RL 58 yX6_would, Cond.instanceMethod yX6_would, Cond.selects RX6 yX6_would yX6_would, Cond.code yX6_would cX6_would 4 (some .int), Cond.methodLink RX6 163 yX2_heightAt, Cond.methodLink RL 61 yX7_would, Cond.instanceMethod yX7_would, Cond.selects RX7 yX7_would yX7_would, Cond.code yX7_would cX7_would 4 (some .int), Cond.methodLink RL 62 yX6_pressureFor, Cond.instanceMethod yX6_pressureFor, Cond.selects RX6 yX6_pressureFor yX6_pressureFor, Cond.code yX6_pressureFor cX6_pressureFor 6 (some .int), Cond.constant RX6 170 (-1000000)]
def wsL_law_r25 : List Cond := [Cond.constant RX6 171 (10000000), Cond.methodLink RX6 173 yX6_greatestPressure, Cond.instanceMethod yX6_greatestPressure, Cond.selects RX6 yX6_greatestPressure yX6_greatestPressure, Cond.code yX6_greatestPressure cX6_greatestPressure 8 (some .int), Cond.methodLink RL 65 yX7_pressureFor, Cond.instanceMethod yX7_pressureFor, Cond.selects RX7 yX7_pressureFor yX7_pressureFor, Cond.code yX7_pressureFor cX7_pressureFor 5 (some .int), Cond.constant RX7 152 (-1000000), Cond.constant RX7 153 (10000000), Cond.methodLink RL 66 yX6_loops, Cond.instanceMethod yX6_loops, Cond.selects RX6 yX6_loops yX6_loops, Cond.code yX6_loops cX6_loops 2 (some .int), Cond.methodLink RL 69 yX7_loops, Cond.instanceMethod yX7_loops, Cond.selects RX7 yX7_loops yX7_loops, Cond.code yX7_loops cX7_loops 2 (some .int), Cond.methodLink RL 70 yX6_loop, Cond.instanceMethod yX6_loop, Cond.selects RX6 yX6_loop yX6_loop, Cond.code yX6_loop cX6_loop 5 (some .int), Cond.methodLink RX6 176 yX3_begin]
def wsL_law_r26 : List Cond := [Cond.methodLink RX6 179 yX3_end, Cond.methodLink RX6 182 yX3_misclosure, Cond.methodLink RX6 185 yX3_misclosureBySteps, Cond.instanceMethod yX3_misclosureBySteps, Cond.selects RX3 yX3_misclosureBySteps yX3_misclosureBySteps, Cond.code yX3_misclosureBySteps cX3_misclosureBySteps 5 (some .int), Cond.methodLink RX6 188 yX3_minutes, Cond.methodLink RL 73 yX7_loop, Cond.instanceMethod yX7_loop, Cond.selects RX7 yX7_loop yX7_loop, Cond.code yX7_loop cX7_loop 4 (some .int), Cond.methodLink RX7 160 yX7_bySteps, Cond.instanceMethod yX7_bySteps, Cond.selects RX7 yX7_bySteps yX7_bySteps, Cond.code yX7_bySteps cX7_bySteps 5 (some .int), Cond.methodLink RL 74 yX6_openLoop, Cond.instanceMethod yX6_openLoop, Cond.selects RX6 yX6_openLoop yX6_openLoop, Cond.code yX6_openLoop cX6_openLoop 4 (some .int), Cond.methodLink RX6 191 yX3_openLoopOf, Cond.methodLink RL 77 yX7_openLoop, Cond.instanceMethod yX7_openLoop, Cond.selects RX7 yX7_openLoop yX7_openLoop, Cond.code yX7_openLoop cX7_openLoop 4 (some .int)]
def wsL_law_r27 : List Cond := [Cond.methodLink RL 78 yX6_corrected, Cond.instanceMethod yX6_corrected, Cond.selects RX6 yX6_corrected yX6_corrected, Cond.code yX6_corrected cX6_corrected 3 (some .int), Cond.methodLink RX6 194 yX3_correctedHeight, Cond.methodLink RL 81 yX7_corrected, Cond.instanceMethod yX7_corrected, Cond.selects RX7 yX7_corrected yX7_corrected, Cond.code yX7_corrected cX7_corrected 3 (some .int), Cond.methodLink RL 82 yX6_point, Cond.instanceMethod yX6_point, Cond.selects RX6 yX6_point yX6_point, Cond.code yX6_point cX6_point 3 (some .int), Cond.methodLink RX6 203 yX1_height, Cond.instanceMethod yX1_height, Cond.selects RX1 yX1_height yX1_height, Cond.code yX1_height cX1_height 1 (some .int), Cond.methodLink RX6 206 yX1_spread, Cond.instanceMethod yX1_spread, Cond.selects RX1 yX1_spread yX1_spread, Cond.code yX1_spread cX1_spread 1 (some .int), Cond.methodLink RL 85 yX7_point, Cond.instanceMethod yX7_point, Cond.selects RX7 yX7_point yX7_point]
def wsL_law_r28 : List Cond := [Cond.code yX7_point cX7_point 3 (some .int), Cond.methodLink RL 86 yX6_worst, Cond.instanceMethod yX6_worst, Cond.selects RX6 yX6_worst yX6_worst, Cond.code yX6_worst cX6_worst 9 (some .int), Cond.methodLink RX6 209 Lib.Math.abs.name, Cond.methodLink RL 89 yX7_worst, Cond.instanceMethod yX7_worst, Cond.selects RX7 yX7_worst yX7_worst, Cond.code yX7_worst cX7_worst 7 (some .int), Cond.methodLink RL 90 yX6_type, Cond.instanceMethod yX6_type, Cond.selects RX6 yX6_type yX6_type, Cond.code yX6_type cX6_type 2 (some .int), Cond.methodLink RX6 215 yX4_append, Cond.instanceMethod yX4_append, Cond.selects RX4 yX4_append yX4_append, Cond.code yX4_append cX4_append 2 none, Cond.fieldLink RX4 19 "BaroRuns$Text" "length" "I", Cond.methodLink RL 93 yX7_type, Cond.instanceMethod yX7_type, Cond.selects RX7 yX7_type yX7_type, Cond.code yX7_type cX7_type 2 (some .int), Cond.methodLink RL 94 yX6_clearText]
def wsL_law_r29 : List Cond := [Cond.instanceMethod yX6_clearText, Cond.selects RX6 yX6_clearText yX6_clearText, Cond.code yX6_clearText cX6_clearText 2 (some .int), Cond.methodLink RL 97 yX7_clearText, Cond.instanceMethod yX7_clearText, Cond.selects RX7 yX7_clearText yX7_clearText, Cond.code yX7_clearText cX7_clearText 2 (some .int), Cond.methodLink RL 98 yX6_fault, Cond.instanceMethod yX6_fault, Cond.selects RX6 yX6_fault yX6_fault, Cond.code yX6_fault cX6_fault 2 (some .int), Cond.methodLink RX6 218 yX6_tryText, Cond.instanceMethod yX6_tryText, Cond.selects RX6 yX6_tryText yX6_tryText, Cond.code yX6_tryText cX6_tryText 1 none, Cond.methodLink RX6 227 yX2_copyFrom, Cond.methodLink RX6 254 yX4_readInto, Cond.instanceMethod yX4_readInto, Cond.selects RX4 yX4_readInto yX4_readInto, Cond.code yX4_readInto cX4_readInto 4 none, Cond.fieldLink RX4 26 "BaroRuns$Text" "position" "I", Cond.fieldLink RX4 29 "BaroRuns$Text" "taken" "I", Cond.fieldLink RX4 36 "BaroRuns$Text" "cell" "I", Cond.fieldLink RX4 49 "BaroRuns$Text" "faultReason" "I"]
def wsL_law_r30 : List Cond := [Cond.fieldLink RX4 52 "BaroRuns$Text" "point" "I", Cond.fieldLink RX4 55 "BaroRuns$Text" "time" "I", Cond.fieldLink RX4 58 "BaroRuns$Text" "pressure" "I", Cond.fieldLink RX4 61 "BaroRuns$Text" "temperature" "I", Cond.methodLink RX4 32 yX4_takeReading, Cond.instanceMethod yX4_takeReading, Cond.selects RX4 yX4_takeReading yX4_takeReading, Cond.code yX4_takeReading cX4_takeReading 3 (some .boolean), Cond.methodLink RX4 81 yX4_takePlace, Cond.instanceMethod yX4_takePlace, Cond.selects RX4 yX4_takePlace yX4_takePlace, Cond.code yX4_takePlace cX4_takePlace 1 (some .boolean), Cond.methodLink RX4 84 yX4_skip, Cond.instanceMethod yX4_skip, Cond.selects RX4 yX4_skip yX4_skip, Cond.code yX4_skip cX4_skip 2 (some .boolean), Cond.methodLink RX4 88 yX4_takeNumber, Cond.instanceMethod yX4_takeNumber, Cond.selects RX4 yX4_takeNumber yX4_takeNumber, Cond.code yX4_takeNumber cX4_takeNumber 5 (some .int), Cond.methodLink RX4 39 yX2_track, Cond.methodLink RX4 45 yX4_reasonAgainst, Cond.instanceMethod yX4_reasonAgainst, Cond.selects RX4 yX4_reasonAgainst yX4_reasonAgainst]
def wsL_law_r31 : List Cond := [Cond.code yX4_reasonAgainst cX4_reasonAgainst 2 (some .int), Cond.methodLink RX4 74 yX5_hasTime, Cond.methodLink RX4 78 yX5_isFull, Cond.methodLink RX4 64 yX5_insert, Cond.methodLink RL 101 yX7_fault, Cond.instanceMethod yX7_fault, Cond.selects RX7 yX7_fault yX7_fault, Cond.code yX7_fault cX7_fault 3 (some .int), Cond.fieldLink RX7 196 "BaroRunsModel" "reason" "I", Cond.methodLink RX7 199 yX7_faulty, Cond.instanceMethod yX7_faulty, Cond.selects RX7 yX7_faulty yX7_faulty, Cond.code yX7_faulty cX7_faulty 3 (some .int), Cond.fieldLink RX7 176 "BaroRunsModel" "at" "I", Cond.methodLink RX7 193 yX7_entersOne, Cond.instanceMethod yX7_entersOne, Cond.selects RX7 yX7_entersOne yX7_entersOne, Cond.code yX7_entersOne cX7_entersOne 1 (some .int), Cond.fieldLink RX7 179 "BaroRunsModel" "whose" "I", Cond.methodLink RX7 189 yX7_readsForm, Cond.instanceMethod yX7_readsForm, Cond.selects RX7 yX7_readsForm yX7_readsForm, Cond.code yX7_readsForm cX7_readsForm 3 (some .boolean), Cond.methodLink RX7 182 yX7_passes]
def wsL_law_r32 : List Cond := [Cond.instanceMethod yX7_passes, Cond.selects RX7 yX7_passes yX7_passes, Cond.code yX7_passes cX7_passes 3 (some .boolean), Cond.methodLink RX7 186 yX7_number, Cond.instanceMethod yX7_number, Cond.selects RX7 yX7_number yX7_number, Cond.code yX7_number cX7_number 4 (some .int), Cond.methodLink RL 102 yX6_enter, Cond.instanceMethod yX6_enter, Cond.selects RX6 yX6_enter yX6_enter, Cond.code yX6_enter cX6_enter 1 (some .int), Cond.methodLink RL 105 yX7_enter, Cond.instanceMethod yX7_enter, Cond.selects RX7 yX7_enter yX7_enter, Cond.code yX7_enter cX7_enter 2 (some .int)]
def wsL_law : List Cond := (wsL_law_r1 ++ (wsL_law_r2 ++ (wsL_law_r3 ++ (wsL_law_r4 ++ (wsL_law_r5 ++ (wsL_law_r6 ++ (wsL_law_r7 ++ (wsL_law_r8 ++ (wsL_law_r9 ++ (wsL_law_r10 ++ (wsL_law_r11 ++ (wsL_law_r12 ++ (wsL_law_r13 ++ (wsL_law_r14 ++ (wsL_law_r15 ++ (wsL_law_r16 ++ (wsL_law_r17 ++ (wsL_law_r18 ++ (wsL_law_r19 ++ (wsL_law_r20 ++ (wsL_law_r21 ++ (wsL_law_r22 ++ (wsL_law_r23 ++ (wsL_law_r24 ++ (wsL_law_r25 ++ (wsL_law_r26 ++ (wsL_law_r27 ++ (wsL_law_r28 ++ (wsL_law_r29 ++ (wsL_law_r30 ++ (wsL_law_r31 ++ wsL_law_r32))))))))))))))))))))))))))))))) ++ wsX60 ++ wsX70 ++ wsX20 ++ wsX00 ++ wsX30 ++ wsX10 ++ wsX40 ++ wsX50 ++ ([] : List Cond)
set_option maxRecDepth 20000 in
theorem wsL_law_in : ∀ w ∈ wsL_law, w ∈ lw_tbl := fun w h => (goodIn_p wsL_law [64, 67, 72, 78, 82, 124, 144, 190, 210, 690, 281, 284, 289, 294, 298, 302, 306, 310, 317, 321, 761, 764, 769, 774, 325, 328, 331, 336, 340, 344, 348, 352, 355, 360, 365, 369, 372, 778, 781, 787, 791, 795, 800, 805, 809, 376, 379, 382, 813, 816, 386, 390, 394, 820, 824, 398, 403, 407, 414, 418, 423, 426, 429, 434, 438, 442, 447, 452, 456, 460, 464, 468, 472, 476, 480, 484, 488, 493, 828, 833, 837, 841, 844, 847, 851, 500, 504, 508, 511, 515, 519, 523, 527, 531, 535, 539, 543, 858, 862, 866, 870, 874, 878, 882, 886, 890, 547, 551, 894, 555, 898, 560, 564, 902, 568, 906, 573, 910, 578, 584, 914, 588, 920, 592, 599, 924, 928, 604, 932, 609, 936, 614, 618, 623, 940, 627, 944, 632, 636, 948, 641, 952, 645, 649, 654, 658, 662, 666, 671, 677, 956, 960, 964, 968, 972, 976, 685, 980] (by decide +kernel) (by decide +kernel) w h).1
theorem inlX0 : ∀ w ∈ wsX00, w ∈ wsL_law := fun _ h => List.mem_append_left _ (List.mem_append_left _ (List.mem_append_left _ (List.mem_append_left _ (List.mem_append_left _ (List.mem_append_right _ h)))))
theorem inX0 : ∀ w ∈ wsX00, w ∈ lw_tbl := fun w h => wsL_law_in w (inlX0 w h)
theorem inlX1 : ∀ w ∈ wsX10, w ∈ wsL_law := fun _ h => List.mem_append_left _ (List.mem_append_left _ (List.mem_append_left _ (List.mem_append_right _ h)))
theorem inX1 : ∀ w ∈ wsX10, w ∈ lw_tbl := fun w h => wsL_law_in w (inlX1 w h)
theorem inlX2 : ∀ w ∈ wsX20, w ∈ wsL_law := fun _ h => List.mem_append_left _ (List.mem_append_left _ (List.mem_append_left _ (List.mem_append_left _ (List.mem_append_left _ (List.mem_append_left _ (List.mem_append_right _ h))))))
theorem inX2 : ∀ w ∈ wsX20, w ∈ lw_tbl := fun w h => wsL_law_in w (inlX2 w h)
theorem inlX3 : ∀ w ∈ wsX30, w ∈ wsL_law := fun _ h => List.mem_append_left _ (List.mem_append_left _ (List.mem_append_left _ (List.mem_append_left _ (List.mem_append_right _ h))))
theorem inX3 : ∀ w ∈ wsX30, w ∈ lw_tbl := fun w h => wsL_law_in w (inlX3 w h)
theorem inlX4 : ∀ w ∈ wsX40, w ∈ wsL_law := fun _ h => List.mem_append_left _ (List.mem_append_left _ (List.mem_append_right _ h))
theorem inX4 : ∀ w ∈ wsX40, w ∈ lw_tbl := fun w h => wsL_law_in w (inlX4 w h)
theorem inlX5 : ∀ w ∈ wsX50, w ∈ wsL_law := fun _ h => List.mem_append_left _ (List.mem_append_right _ h)
theorem inX5 : ∀ w ∈ wsX50, w ∈ lw_tbl := fun w h => wsL_law_in w (inlX5 w h)
theorem inlX6 : ∀ w ∈ wsX60, w ∈ wsL_law := fun _ h => List.mem_append_left _ (List.mem_append_left _ (List.mem_append_left _ (List.mem_append_left _ (List.mem_append_left _ (List.mem_append_left _ (List.mem_append_left _ (List.mem_append_left _ (List.mem_append_right _ h))))))))
theorem inX6 : ∀ w ∈ wsX60, w ∈ lw_tbl := fun w h => wsL_law_in w (inlX6 w h)
theorem inlX7 : ∀ w ∈ wsX70, w ∈ wsL_law := fun _ h => List.mem_append_left _ (List.mem_append_left _ (List.mem_append_left _ (List.mem_append_left _ (List.mem_append_left _ (List.mem_append_left _ (List.mem_append_left _ (List.mem_append_right _ h)))))))
theorem inX7 : ∀ w ∈ wsX70, w ∈ lw_tbl := fun w h => wsL_law_in w (inlX7 w h)
theorem inJ9 : ∀ w ∈ wsJ90, w ∈ lw_tbl := by decide +kernel
theorem inJ10 : ∀ w ∈ wsJ100, w ∈ lw_tbl := by decide +kernel
set_option maxRecDepth 20000 in
theorem ggX0_init_X2_init : GoodIn wsX0_init wsX2_init := goodIn_r _ [10, 11, 2, 3, 12, 13, 14, 15, 16, 17, 18, 19, 20, 21, 22, 23, 24, 25, 26, 27, 28, 29, 30, 31, 32, 43, 44, 45, 36, 37, 38, 39, 40, 41, 42] (by decide +kernel) (by decide +kernel)
set_option maxRecDepth 20000 in
theorem gX0_init_X2_init : GoodIn wsX0_init (wsX2_init) := ggX0_init_X2_init
theorem dX0_init_0 : decode cX0_init 0 = .ok (.aload_n 0, 1) := by decide +kernel
theorem dX0_init_1 : decode cX0_init 1 = .ok (.invokespecial 3, 3) := by decide +kernel
theorem dX0_init_4 : decode cX0_init 4 = .ok (.aload_n 0, 1) := by decide +kernel
theorem dX0_init_5 : decode cX0_init 5 = .ok (.iconst 5, 1) := by decide +kernel
theorem dX0_init_6 : decode cX0_init 6 = .ok (.anewarray 9, 3) := by decide +kernel
theorem dX0_init_9 : decode cX0_init 9 = .ok (.putfield 11, 3) := by decide +kernel
theorem dX0_init_12 : decode cX0_init 12 = .ok (.iconst 0, 1) := by decide +kernel
theorem dX0_init_13 : decode cX0_init 13 = .ok (.istore_n 1, 1) := by decide +kernel
theorem dX0_init_14 : decode cX0_init 14 = .ok (.iload_n 1, 1) := by decide +kernel
theorem dX0_init_15 : decode cX0_init 15 = .ok (.aload_n 0, 1) := by decide +kernel
theorem dX0_init_16 : decode cX0_init 16 = .ok (.getfield 11, 3) := by decide +kernel
theorem dX0_init_19 : decode cX0_init 19 = .ok (.arraylength, 1) := by decide +kernel
theorem dX0_init_20 : decode cX0_init 20 = .ok (.if_icmp .ge 22, 3) := by decide +kernel
theorem dX0_init_23 : decode cX0_init 23 = .ok (.aload_n 0, 1) := by decide +kernel
theorem dX0_init_24 : decode cX0_init 24 = .ok (.getfield 11, 3) := by decide +kernel
theorem dX0_init_27 : decode cX0_init 27 = .ok (.iload_n 1, 1) := by decide +kernel
theorem dX0_init_28 : decode cX0_init 28 = .ok (.new 9, 3) := by decide +kernel
theorem dX0_init_31 : decode cX0_init 31 = .ok (.dup, 1) := by decide +kernel
theorem dX0_init_32 : decode cX0_init 32 = .ok (.invokespecial 17, 3) := by decide +kernel
theorem dX0_init_35 : decode cX0_init 35 = .ok (.aastore, 1) := by decide +kernel
theorem dX0_init_36 : decode cX0_init 36 = .ok (.iinc 1 1, 3) := by decide +kernel
theorem dX0_init_39 : decode cX0_init 39 = .ok (.goto (-25), 3) := by decide +kernel
theorem dX0_init_42 : decode cX0_init 42 = .ok (.return_, 1) := by decide +kernel
set_option maxRecDepth 20000 in
theorem ggX0_keep_X0_place : GoodIn wsX0_keep wsX0_place := goodIn_r _ [7, 2, 8, 36, 37, 38] (by decide +kernel) (by decide +kernel)
set_option maxRecDepth 20000 in
theorem gX0_keep_X0_place : GoodIn wsX0_keep (wsV RX0 25 RX0 yX0_place wsX0_place) := goodIn_app (goodIn_of _ (by decide +kernel)) ggX0_keep_X0_place
set_option maxRecDepth 20000 in
theorem ggX0_keep_X2_copyFrom : GoodIn wsX0_keep wsX2_copyFrom := goodIn_r _ [13, 14, 15, 16, 17, 18, 19, 20, 21, 22, 23, 24, 25, 26, 27, 28, 29, 30, 31, 32, 33, 34, 35, 39, 40, 41, 42, 43, 44, 45, 46, 47, 48] (by decide +kernel) (by decide +kernel)
set_option maxRecDepth 20000 in
theorem gX0_keep_X2_copyFrom : GoodIn wsX0_keep (wsV RX0 29 RX2 yX2_copyFrom wsX2_copyFrom) := goodIn_app (goodIn_of _ (by decide +kernel)) ggX0_keep_X2_copyFrom
theorem dX0_keep_0 : decode cX0_keep 0 = .ok (.aload_n 0, 1) := by decide +kernel
theorem dX0_keep_1 : decode cX0_keep 1 = .ok (.getfield 18, 3) := by decide +kernel
theorem dX0_keep_4 : decode cX0_keep 4 = .ok (.iconst 5, 1) := by decide +kernel
theorem dX0_keep_5 : decode cX0_keep 5 = .ok (.if_icmp .lt 25, 3) := by decide +kernel
theorem dX0_keep_8 : decode cX0_keep 8 = .ok (.aload_n 0, 1) := by decide +kernel
theorem dX0_keep_9 : decode cX0_keep 9 = .ok (.aload_n 0, 1) := by decide +kernel
theorem dX0_keep_10 : decode cX0_keep 10 = .ok (.getfield 22, 3) := by decide +kernel
theorem dX0_keep_13 : decode cX0_keep 13 = .ok (.iconst 1, 1) := by decide +kernel
theorem dX0_keep_14 : decode cX0_keep 14 = .ok (.iadd, 1) := by decide +kernel
theorem dX0_keep_15 : decode cX0_keep 15 = .ok (.iconst 5, 1) := by decide +kernel
theorem dX0_keep_16 : decode cX0_keep 16 = .ok (.irem, 1) := by decide +kernel
theorem dX0_keep_17 : decode cX0_keep 17 = .ok (.putfield 22, 3) := by decide +kernel
theorem dX0_keep_20 : decode cX0_keep 20 = .ok (.aload_n 0, 1) := by decide +kernel
theorem dX0_keep_21 : decode cX0_keep 21 = .ok (.dup, 1) := by decide +kernel
theorem dX0_keep_22 : decode cX0_keep 22 = .ok (.getfield 18, 3) := by decide +kernel
theorem dX0_keep_25 : decode cX0_keep 25 = .ok (.iconst 1, 1) := by decide +kernel
theorem dX0_keep_26 : decode cX0_keep 26 = .ok (.isub, 1) := by decide +kernel
theorem dX0_keep_27 : decode cX0_keep 27 = .ok (.putfield 18, 3) := by decide +kernel
theorem dX0_keep_30 : decode cX0_keep 30 = .ok (.aload_n 0, 1) := by decide +kernel
theorem dX0_keep_31 : decode cX0_keep 31 = .ok (.aload_n 0, 1) := by decide +kernel
theorem dX0_keep_32 : decode cX0_keep 32 = .ok (.getfield 18, 3) := by decide +kernel
theorem dX0_keep_35 : decode cX0_keep 35 = .ok (.invokevirtual 25, 3) := by decide +kernel
theorem dX0_keep_38 : decode cX0_keep 38 = .ok (.astore_n 2, 1) := by decide +kernel
theorem dX0_keep_39 : decode cX0_keep 39 = .ok (.aload_n 2, 1) := by decide +kernel
theorem dX0_keep_40 : decode cX0_keep 40 = .ok (.ifnull 18, 3) := by decide +kernel
theorem dX0_keep_43 : decode cX0_keep 43 = .ok (.aload_n 2, 1) := by decide +kernel
theorem dX0_keep_44 : decode cX0_keep 44 = .ok (.aload_n 1, 1) := by decide +kernel
theorem dX0_keep_45 : decode cX0_keep 45 = .ok (.invokevirtual 29, 3) := by decide +kernel
theorem dX0_keep_48 : decode cX0_keep 48 = .ok (.aload_n 0, 1) := by decide +kernel
theorem dX0_keep_49 : decode cX0_keep 49 = .ok (.dup, 1) := by decide +kernel
theorem dX0_keep_50 : decode cX0_keep 50 = .ok (.getfield 18, 3) := by decide +kernel
theorem dX0_keep_53 : decode cX0_keep 53 = .ok (.iconst 1, 1) := by decide +kernel
theorem dX0_keep_54 : decode cX0_keep 54 = .ok (.iadd, 1) := by decide +kernel
theorem dX0_keep_55 : decode cX0_keep 55 = .ok (.putfield 18, 3) := by decide +kernel
theorem dX0_keep_58 : decode cX0_keep 58 = .ok (.return_, 1) := by decide +kernel
set_option maxRecDepth 20000 in
theorem ggX0_giveBack_X0_place : GoodIn wsX0_giveBack wsX0_place := goodIn_r _ [6, 7, 8, 36, 37, 38] (by decide +kernel) (by decide +kernel)
set_option maxRecDepth 20000 in
theorem gX0_giveBack_X0_place : GoodIn wsX0_giveBack (wsV RX0 25 RX0 yX0_place wsX0_place) := goodIn_app (goodIn_of _ (by decide +kernel)) ggX0_giveBack_X0_place
set_option maxRecDepth 20000 in
theorem ggX0_giveBack_X2_copyFrom : GoodIn wsX0_giveBack wsX2_copyFrom := goodIn_r _ [13, 14, 15, 16, 17, 18, 19, 20, 21, 22, 23, 24, 25, 26, 27, 28, 29, 30, 31, 32, 33, 34, 35, 39, 40, 41, 42, 43, 44, 45, 46, 47, 48] (by decide +kernel) (by decide +kernel)
set_option maxRecDepth 20000 in
theorem gX0_giveBack_X2_copyFrom : GoodIn wsX0_giveBack (wsV RX0 29 RX2 yX2_copyFrom wsX2_copyFrom) := goodIn_app (goodIn_of _ (by decide +kernel)) ggX0_giveBack_X2_copyFrom
theorem dX0_giveBack_0 : decode cX0_giveBack 0 = .ok (.aload_n 0, 1) := by decide +kernel
theorem dX0_giveBack_1 : decode cX0_giveBack 1 = .ok (.aload_n 0, 1) := by decide +kernel
theorem dX0_giveBack_2 : decode cX0_giveBack 2 = .ok (.getfield 18, 3) := by decide +kernel
theorem dX0_giveBack_5 : decode cX0_giveBack 5 = .ok (.iconst 1, 1) := by decide +kernel
theorem dX0_giveBack_6 : decode cX0_giveBack 6 = .ok (.isub, 1) := by decide +kernel
theorem dX0_giveBack_7 : decode cX0_giveBack 7 = .ok (.invokevirtual 25, 3) := by decide +kernel
theorem dX0_giveBack_10 : decode cX0_giveBack 10 = .ok (.astore_n 2, 1) := by decide +kernel
theorem dX0_giveBack_11 : decode cX0_giveBack 11 = .ok (.aload_n 2, 1) := by decide +kernel
theorem dX0_giveBack_12 : decode cX0_giveBack 12 = .ok (.ifnull 18, 3) := by decide +kernel
theorem dX0_giveBack_15 : decode cX0_giveBack 15 = .ok (.aload_n 1, 1) := by decide +kernel
theorem dX0_giveBack_16 : decode cX0_giveBack 16 = .ok (.aload_n 2, 1) := by decide +kernel
theorem dX0_giveBack_17 : decode cX0_giveBack 17 = .ok (.invokevirtual 29, 3) := by decide +kernel
theorem dX0_giveBack_20 : decode cX0_giveBack 20 = .ok (.aload_n 0, 1) := by decide +kernel
theorem dX0_giveBack_21 : decode cX0_giveBack 21 = .ok (.dup, 1) := by decide +kernel
theorem dX0_giveBack_22 : decode cX0_giveBack 22 = .ok (.getfield 18, 3) := by decide +kernel
theorem dX0_giveBack_25 : decode cX0_giveBack 25 = .ok (.iconst 1, 1) := by decide +kernel
theorem dX0_giveBack_26 : decode cX0_giveBack 26 = .ok (.isub, 1) := by decide +kernel
theorem dX0_giveBack_27 : decode cX0_giveBack 27 = .ok (.putfield 18, 3) := by decide +kernel
theorem dX0_giveBack_30 : decode cX0_giveBack 30 = .ok (.return_, 1) := by decide +kernel
theorem dX0_place_0 : decode cX0_place 0 = .ok (.aload_n 0, 1) := by decide +kernel
theorem dX0_place_1 : decode cX0_place 1 = .ok (.getfield 22, 3) := by decide +kernel
theorem dX0_place_4 : decode cX0_place 4 = .ok (.iload_n 1, 1) := by decide +kernel
theorem dX0_place_5 : decode cX0_place 5 = .ok (.iadd, 1) := by decide +kernel
theorem dX0_place_6 : decode cX0_place 6 = .ok (.iconst 5, 1) := by decide +kernel
theorem dX0_place_7 : decode cX0_place 7 = .ok (.irem, 1) := by decide +kernel
theorem dX0_place_8 : decode cX0_place 8 = .ok (.istore_n 2, 1) := by decide +kernel
theorem dX0_place_9 : decode cX0_place 9 = .ok (.iload_n 2, 1) := by decide +kernel
theorem dX0_place_10 : decode cX0_place 10 = .ok (.ifCond .lt 21, 3) := by decide +kernel
theorem dX0_place_13 : decode cX0_place 13 = .ok (.iload_n 2, 1) := by decide +kernel
theorem dX0_place_14 : decode cX0_place 14 = .ok (.aload_n 0, 1) := by decide +kernel
theorem dX0_place_15 : decode cX0_place 15 = .ok (.getfield 11, 3) := by decide +kernel
theorem dX0_place_18 : decode cX0_place 18 = .ok (.arraylength, 1) := by decide +kernel
theorem dX0_place_19 : decode cX0_place 19 = .ok (.if_icmp .ge 12, 3) := by decide +kernel
theorem dX0_place_22 : decode cX0_place 22 = .ok (.aload_n 0, 1) := by decide +kernel
theorem dX0_place_23 : decode cX0_place 23 = .ok (.getfield 11, 3) := by decide +kernel
theorem dX0_place_26 : decode cX0_place 26 = .ok (.iload_n 2, 1) := by decide +kernel
theorem dX0_place_27 : decode cX0_place 27 = .ok (.aaload, 1) := by decide +kernel
theorem dX0_place_28 : decode cX0_place 28 = .ok (.goto 4, 3) := by decide +kernel
theorem dX0_place_31 : decode cX0_place 31 = .ok (.aconst_null, 1) := by decide +kernel
theorem dX0_place_32 : decode cX0_place 32 = .ok (.areturn, 1) := by decide +kernel
theorem dX1_init_0 : decode cX1_init 0 = .ok (.aload_n 0, 1) := by decide +kernel
theorem dX1_init_1 : decode cX1_init 1 = .ok (.invokespecial 1, 3) := by decide +kernel
theorem dX1_init_4 : decode cX1_init 4 = .ok (.return_, 1) := by decide +kernel
theorem dX1_clear_0 : decode cX1_clear 0 = .ok (.aload_n 0, 1) := by decide +kernel
theorem dX1_clear_1 : decode cX1_clear 1 = .ok (.lconst 0, 1) := by decide +kernel
theorem dX1_clear_2 : decode cX1_clear 2 = .ok (.putfield 7, 3) := by decide +kernel
theorem dX1_clear_5 : decode cX1_clear 5 = .ok (.aload_n 0, 1) := by decide +kernel
theorem dX1_clear_6 : decode cX1_clear 6 = .ok (.iconst 0, 1) := by decide +kernel
theorem dX1_clear_7 : decode cX1_clear 7 = .ok (.putfield 13, 3) := by decide +kernel
theorem dX1_clear_10 : decode cX1_clear 10 = .ok (.return_, 1) := by decide +kernel
theorem dX1_add_0 : decode cX1_add 0 = .ok (.aload_n 0, 1) := by decide +kernel
theorem dX1_add_1 : decode cX1_add 1 = .ok (.aload_n 0, 1) := by decide +kernel
theorem dX1_add_2 : decode cX1_add 2 = .ok (.getfield 13, 3) := by decide +kernel
theorem dX1_add_5 : decode cX1_add 5 = .ok (.ifCond .ne 7, 3) := by decide +kernel
theorem dX1_add_8 : decode cX1_add 8 = .ok (.iload_n 1, 1) := by decide +kernel
theorem dX1_add_9 : decode cX1_add 9 = .ok (.goto 11, 3) := by decide +kernel
theorem dX1_add_12 : decode cX1_add 12 = .ok (.aload_n 0, 1) := by decide +kernel
theorem dX1_add_13 : decode cX1_add 13 = .ok (.getfield 17, 3) := by decide +kernel
theorem dX1_add_16 : decode cX1_add 16 = .ok (.iload_n 1, 1) := by decide +kernel
theorem dX1_add_17 : decode cX1_add 17 = .ok (.invokestatic 20, 3) := by decide +kernel
theorem dX1_add_20 : decode cX1_add 20 = .ok (.putfield 17, 3) := by decide +kernel
theorem dX1_add_23 : decode cX1_add 23 = .ok (.aload_n 0, 1) := by decide +kernel
theorem dX1_add_24 : decode cX1_add 24 = .ok (.aload_n 0, 1) := by decide +kernel
theorem dX1_add_25 : decode cX1_add 25 = .ok (.getfield 13, 3) := by decide +kernel
theorem dX1_add_28 : decode cX1_add 28 = .ok (.ifCond .ne 7, 3) := by decide +kernel
theorem dX1_add_31 : decode cX1_add 31 = .ok (.iload_n 1, 1) := by decide +kernel
theorem dX1_add_32 : decode cX1_add 32 = .ok (.goto 11, 3) := by decide +kernel
theorem dX1_add_35 : decode cX1_add 35 = .ok (.aload_n 0, 1) := by decide +kernel
theorem dX1_add_36 : decode cX1_add 36 = .ok (.getfield 26, 3) := by decide +kernel
theorem dX1_add_39 : decode cX1_add 39 = .ok (.iload_n 1, 1) := by decide +kernel
theorem dX1_add_40 : decode cX1_add 40 = .ok (.invokestatic 29, 3) := by decide +kernel
theorem dX1_add_43 : decode cX1_add 43 = .ok (.putfield 26, 3) := by decide +kernel
theorem dX1_add_46 : decode cX1_add 46 = .ok (.aload_n 0, 1) := by decide +kernel
theorem dX1_add_47 : decode cX1_add 47 = .ok (.dup, 1) := by decide +kernel
theorem dX1_add_48 : decode cX1_add 48 = .ok (.getfield 7, 3) := by decide +kernel
theorem dX1_add_51 : decode cX1_add 51 = .ok (.iload_n 1, 1) := by decide +kernel
theorem dX1_add_52 : decode cX1_add 52 = .ok (.i2l, 1) := by decide +kernel
theorem dX1_add_53 : decode cX1_add 53 = .ok (.ladd, 1) := by decide +kernel
theorem dX1_add_54 : decode cX1_add 54 = .ok (.putfield 7, 3) := by decide +kernel
theorem dX1_add_57 : decode cX1_add 57 = .ok (.aload_n 0, 1) := by decide +kernel
theorem dX1_add_58 : decode cX1_add 58 = .ok (.dup, 1) := by decide +kernel
theorem dX1_add_59 : decode cX1_add 59 = .ok (.getfield 13, 3) := by decide +kernel
theorem dX1_add_62 : decode cX1_add 62 = .ok (.iconst 1, 1) := by decide +kernel
theorem dX1_add_63 : decode cX1_add 63 = .ok (.iadd, 1) := by decide +kernel
theorem dX1_add_64 : decode cX1_add 64 = .ok (.putfield 13, 3) := by decide +kernel
theorem dX1_add_67 : decode cX1_add 67 = .ok (.return_, 1) := by decide +kernel
set_option maxRecDepth 20000 in
theorem ggX1_height_X6_divideDown : GoodIn wsX1_height wsX6_divideDown := goodIn_r _ [5, 6, 7, 8, 9] (by decide +kernel) (by decide +kernel)
set_option maxRecDepth 20000 in
theorem gX1_height_X6_divideDown_n32 : GoodIn wsX1_height (wsX6_divideDown) := ggX1_height_X6_divideDown
theorem dX1_height_0 : decode cX1_height 0 = .ok (.aload_n 0, 1) := by decide +kernel
theorem dX1_height_1 : decode cX1_height 1 = .ok (.getfield 7, 3) := by decide +kernel
theorem dX1_height_4 : decode cX1_height 4 = .ok (.aload_n 0, 1) := by decide +kernel
theorem dX1_height_5 : decode cX1_height 5 = .ok (.getfield 13, 3) := by decide +kernel
theorem dX1_height_8 : decode cX1_height 8 = .ok (.i2l, 1) := by decide +kernel
theorem dX1_height_9 : decode cX1_height 9 = .ok (.invokestatic 32, 3) := by decide +kernel
theorem dX1_height_12 : decode cX1_height 12 = .ok (.l2i, 1) := by decide +kernel
theorem dX1_height_13 : decode cX1_height 13 = .ok (.ireturn, 1) := by decide +kernel
theorem dX1_spread_0 : decode cX1_spread 0 = .ok (.aload_n 0, 1) := by decide +kernel
theorem dX1_spread_1 : decode cX1_spread 1 = .ok (.getfield 26, 3) := by decide +kernel
theorem dX1_spread_4 : decode cX1_spread 4 = .ok (.aload_n 0, 1) := by decide +kernel
theorem dX1_spread_5 : decode cX1_spread 5 = .ok (.getfield 17, 3) := by decide +kernel
theorem dX1_spread_8 : decode cX1_spread 8 = .ok (.isub, 1) := by decide +kernel
theorem dX1_spread_9 : decode cX1_spread 9 = .ok (.ireturn, 1) := by decide +kernel
set_option maxRecDepth 20000 in
theorem ggX2_init_X5_init : GoodIn wsX2_init wsX5_init := goodIn_r _ [16, 17, 2, 3, 18, 19, 20, 21, 22, 23, 24, 25, 26, 27] (by decide +kernel) (by decide +kernel)
set_option maxRecDepth 20000 in
theorem gX2_init_X5_init : GoodIn wsX2_init (wsX5_init) := ggX2_init_X5_init
theorem dX2_init_0 : decode cX2_init 0 = .ok (.aload_n 0, 1) := by decide +kernel
theorem dX2_init_1 : decode cX2_init 1 = .ok (.invokespecial 3, 3) := by decide +kernel
theorem dX2_init_4 : decode cX2_init 4 = .ok (.aload_n 0, 1) := by decide +kernel
theorem dX2_init_5 : decode cX2_init 5 = .ok (.new 9, 3) := by decide +kernel
theorem dX2_init_8 : decode cX2_init 8 = .ok (.dup, 1) := by decide +kernel
theorem dX2_init_9 : decode cX2_init 9 = .ok (.bipush 12, 2) := by decide +kernel
theorem dX2_init_11 : decode cX2_init 11 = .ok (.invokespecial 11, 3) := by decide +kernel
theorem dX2_init_14 : decode cX2_init 14 = .ok (.putfield 14, 3) := by decide +kernel
theorem dX2_init_17 : decode cX2_init 17 = .ok (.aload_n 0, 1) := by decide +kernel
theorem dX2_init_18 : decode cX2_init 18 = .ok (.new 9, 3) := by decide +kernel
theorem dX2_init_21 : decode cX2_init 21 = .ok (.dup, 1) := by decide +kernel
theorem dX2_init_22 : decode cX2_init 22 = .ok (.bipush 20, 2) := by decide +kernel
theorem dX2_init_24 : decode cX2_init 24 = .ok (.invokespecial 11, 3) := by decide +kernel
theorem dX2_init_27 : decode cX2_init 27 = .ok (.putfield 20, 3) := by decide +kernel
theorem dX2_init_30 : decode cX2_init 30 = .ok (.aload_n 0, 1) := by decide +kernel
theorem dX2_init_31 : decode cX2_init 31 = .ok (.new 9, 3) := by decide +kernel
theorem dX2_init_34 : decode cX2_init 34 = .ok (.dup, 1) := by decide +kernel
theorem dX2_init_35 : decode cX2_init 35 = .ok (.bipush 20, 2) := by decide +kernel
theorem dX2_init_37 : decode cX2_init 37 = .ok (.invokespecial 11, 3) := by decide +kernel
theorem dX2_init_40 : decode cX2_init 40 = .ok (.putfield 23, 3) := by decide +kernel
theorem dX2_init_43 : decode cX2_init 43 = .ok (.aload_n 0, 1) := by decide +kernel
theorem dX2_init_44 : decode cX2_init 44 = .ok (.new 9, 3) := by decide +kernel
theorem dX2_init_47 : decode cX2_init 47 = .ok (.dup, 1) := by decide +kernel
theorem dX2_init_48 : decode cX2_init 48 = .ok (.bipush 20, 2) := by decide +kernel
theorem dX2_init_50 : decode cX2_init 50 = .ok (.invokespecial 11, 3) := by decide +kernel
theorem dX2_init_53 : decode cX2_init 53 = .ok (.putfield 26, 3) := by decide +kernel
theorem dX2_init_56 : decode cX2_init 56 = .ok (.aload_n 0, 1) := by decide +kernel
theorem dX2_init_57 : decode cX2_init 57 = .ok (.iconst 0, 1) := by decide +kernel
theorem dX2_init_58 : decode cX2_init 58 = .ok (.putfield 29, 3) := by decide +kernel
theorem dX2_init_61 : decode cX2_init 61 = .ok (.aload_n 0, 1) := by decide +kernel
theorem dX2_init_62 : decode cX2_init 62 = .ok (.bipush 60, 2) := by decide +kernel
theorem dX2_init_64 : decode cX2_init 64 = .ok (.putfield 33, 3) := by decide +kernel
theorem dX2_init_67 : decode cX2_init 67 = .ok (.aload_n 0, 1) := by decide +kernel
theorem dX2_init_68 : decode cX2_init 68 = .ok (.bipush 50, 2) := by decide +kernel
theorem dX2_init_70 : decode cX2_init 70 = .ok (.putfield 36, 3) := by decide +kernel
theorem dX2_init_73 : decode cX2_init 73 = .ok (.return_, 1) := by decide +kernel
theorem dX2_track_0 : decode cX2_track 0 = .ok (.iload_n 1, 1) := by decide +kernel
theorem dX2_track_1 : decode cX2_track 1 = .ok (.tableswitch 42 0 2 #[27, 32, 37], 27) := by decide +kernel
theorem dX2_track_28 : decode cX2_track 28 = .ok (.aload_n 0, 1) := by decide +kernel
theorem dX2_track_29 : decode cX2_track 29 = .ok (.getfield 20, 3) := by decide +kernel
theorem dX2_track_32 : decode cX2_track 32 = .ok (.areturn, 1) := by decide +kernel
theorem dX2_track_33 : decode cX2_track 33 = .ok (.aload_n 0, 1) := by decide +kernel
theorem dX2_track_34 : decode cX2_track 34 = .ok (.getfield 23, 3) := by decide +kernel
theorem dX2_track_37 : decode cX2_track 37 = .ok (.areturn, 1) := by decide +kernel
theorem dX2_track_38 : decode cX2_track 38 = .ok (.aload_n 0, 1) := by decide +kernel
theorem dX2_track_39 : decode cX2_track 39 = .ok (.getfield 26, 3) := by decide +kernel
theorem dX2_track_42 : decode cX2_track 42 = .ok (.areturn, 1) := by decide +kernel
theorem dX2_track_43 : decode cX2_track 43 = .ok (.aload_n 0, 1) := by decide +kernel
theorem dX2_track_44 : decode cX2_track 44 = .ok (.getfield 14, 3) := by decide +kernel
theorem dX2_track_47 : decode cX2_track 47 = .ok (.areturn, 1) := by decide +kernel
theorem dX2_setting_0 : decode cX2_setting 0 = .ok (.iload_n 1, 1) := by decide +kernel
theorem dX2_setting_1 : decode cX2_setting 1 = .ok (.lookupswitch 37 #[(0, 27), (1, 32)], 27) := by decide +kernel
theorem dX2_setting_28 : decode cX2_setting 28 = .ok (.aload_n 0, 1) := by decide +kernel
theorem dX2_setting_29 : decode cX2_setting 29 = .ok (.getfield 29, 3) := by decide +kernel
theorem dX2_setting_32 : decode cX2_setting 32 = .ok (.ireturn, 1) := by decide +kernel
theorem dX2_setting_33 : decode cX2_setting 33 = .ok (.aload_n 0, 1) := by decide +kernel
theorem dX2_setting_34 : decode cX2_setting 34 = .ok (.getfield 33, 3) := by decide +kernel
theorem dX2_setting_37 : decode cX2_setting 37 = .ok (.ireturn, 1) := by decide +kernel
theorem dX2_setting_38 : decode cX2_setting 38 = .ok (.aload_n 0, 1) := by decide +kernel
theorem dX2_setting_39 : decode cX2_setting 39 = .ok (.getfield 36, 3) := by decide +kernel
theorem dX2_setting_42 : decode cX2_setting 42 = .ok (.ireturn, 1) := by decide +kernel
theorem dX2_putSetting_0 : decode cX2_putSetting 0 = .ok (.iload_n 1, 1) := by decide +kernel
theorem dX2_putSetting_1 : decode cX2_putSetting 1 = .ok (.lookupswitch 43 #[(0, 27), (1, 35)], 27) := by decide +kernel
theorem dX2_putSetting_28 : decode cX2_putSetting 28 = .ok (.aload_n 0, 1) := by decide +kernel
theorem dX2_putSetting_29 : decode cX2_putSetting 29 = .ok (.iload_n 2, 1) := by decide +kernel
theorem dX2_putSetting_30 : decode cX2_putSetting 30 = .ok (.putfield 29, 3) := by decide +kernel
theorem dX2_putSetting_33 : decode cX2_putSetting 33 = .ok (.goto 16, 3) := by decide +kernel
theorem dX2_putSetting_36 : decode cX2_putSetting 36 = .ok (.aload_n 0, 1) := by decide +kernel
theorem dX2_putSetting_37 : decode cX2_putSetting 37 = .ok (.iload_n 2, 1) := by decide +kernel
theorem dX2_putSetting_38 : decode cX2_putSetting 38 = .ok (.putfield 33, 3) := by decide +kernel
theorem dX2_putSetting_41 : decode cX2_putSetting 41 = .ok (.goto 8, 3) := by decide +kernel
theorem dX2_putSetting_44 : decode cX2_putSetting 44 = .ok (.aload_n 0, 1) := by decide +kernel
theorem dX2_putSetting_45 : decode cX2_putSetting 45 = .ok (.iload_n 2, 1) := by decide +kernel
theorem dX2_putSetting_46 : decode cX2_putSetting 46 = .ok (.putfield 36, 3) := by decide +kernel
theorem dX2_putSetting_49 : decode cX2_putSetting 49 = .ok (.return_, 1) := by decide +kernel
set_option maxRecDepth 20000 in
theorem ggX2_copyFrom_X5_copyFrom : GoodIn wsX2_copyFrom wsX5_copyFrom := goodIn_r _ [12, 13, 14, 15, 16, 17, 18, 19, 20, 21, 22, 30, 31, 32] (by decide +kernel) (by decide +kernel)
set_option maxRecDepth 20000 in
theorem gX2_copyFrom_X5_copyFrom : GoodIn wsX2_copyFrom (wsV RX2 39 RX5 yX5_copyFrom wsX5_copyFrom) := goodIn_app (goodIn_of _ (by decide +kernel)) ggX2_copyFrom_X5_copyFrom
theorem dX2_copyFrom_0 : decode cX2_copyFrom 0 = .ok (.aload_n 0, 1) := by decide +kernel
theorem dX2_copyFrom_1 : decode cX2_copyFrom 1 = .ok (.getfield 14, 3) := by decide +kernel
theorem dX2_copyFrom_4 : decode cX2_copyFrom 4 = .ok (.aload_n 1, 1) := by decide +kernel
theorem dX2_copyFrom_5 : decode cX2_copyFrom 5 = .ok (.getfield 14, 3) := by decide +kernel
theorem dX2_copyFrom_8 : decode cX2_copyFrom 8 = .ok (.invokevirtual 39, 3) := by decide +kernel
theorem dX2_copyFrom_11 : decode cX2_copyFrom 11 = .ok (.aload_n 0, 1) := by decide +kernel
theorem dX2_copyFrom_12 : decode cX2_copyFrom 12 = .ok (.getfield 20, 3) := by decide +kernel
theorem dX2_copyFrom_15 : decode cX2_copyFrom 15 = .ok (.aload_n 1, 1) := by decide +kernel
theorem dX2_copyFrom_16 : decode cX2_copyFrom 16 = .ok (.getfield 20, 3) := by decide +kernel
theorem dX2_copyFrom_19 : decode cX2_copyFrom 19 = .ok (.invokevirtual 39, 3) := by decide +kernel
theorem dX2_copyFrom_22 : decode cX2_copyFrom 22 = .ok (.aload_n 0, 1) := by decide +kernel
theorem dX2_copyFrom_23 : decode cX2_copyFrom 23 = .ok (.getfield 23, 3) := by decide +kernel
theorem dX2_copyFrom_26 : decode cX2_copyFrom 26 = .ok (.aload_n 1, 1) := by decide +kernel
theorem dX2_copyFrom_27 : decode cX2_copyFrom 27 = .ok (.getfield 23, 3) := by decide +kernel
theorem dX2_copyFrom_30 : decode cX2_copyFrom 30 = .ok (.invokevirtual 39, 3) := by decide +kernel
theorem dX2_copyFrom_33 : decode cX2_copyFrom 33 = .ok (.aload_n 0, 1) := by decide +kernel
theorem dX2_copyFrom_34 : decode cX2_copyFrom 34 = .ok (.getfield 26, 3) := by decide +kernel
theorem dX2_copyFrom_37 : decode cX2_copyFrom 37 = .ok (.aload_n 1, 1) := by decide +kernel
theorem dX2_copyFrom_38 : decode cX2_copyFrom 38 = .ok (.getfield 26, 3) := by decide +kernel
theorem dX2_copyFrom_41 : decode cX2_copyFrom 41 = .ok (.invokevirtual 39, 3) := by decide +kernel
theorem dX2_copyFrom_44 : decode cX2_copyFrom 44 = .ok (.aload_n 0, 1) := by decide +kernel
theorem dX2_copyFrom_45 : decode cX2_copyFrom 45 = .ok (.aload_n 1, 1) := by decide +kernel
theorem dX2_copyFrom_46 : decode cX2_copyFrom 46 = .ok (.getfield 29, 3) := by decide +kernel
theorem dX2_copyFrom_49 : decode cX2_copyFrom 49 = .ok (.putfield 29, 3) := by decide +kernel
theorem dX2_copyFrom_52 : decode cX2_copyFrom 52 = .ok (.aload_n 0, 1) := by decide +kernel
theorem dX2_copyFrom_53 : decode cX2_copyFrom 53 = .ok (.aload_n 1, 1) := by decide +kernel
theorem dX2_copyFrom_54 : decode cX2_copyFrom 54 = .ok (.getfield 33, 3) := by decide +kernel
theorem dX2_copyFrom_57 : decode cX2_copyFrom 57 = .ok (.putfield 33, 3) := by decide +kernel
theorem dX2_copyFrom_60 : decode cX2_copyFrom 60 = .ok (.aload_n 0, 1) := by decide +kernel
theorem dX2_copyFrom_61 : decode cX2_copyFrom 61 = .ok (.aload_n 1, 1) := by decide +kernel
theorem dX2_copyFrom_62 : decode cX2_copyFrom 62 = .ok (.getfield 36, 3) := by decide +kernel
theorem dX2_copyFrom_65 : decode cX2_copyFrom 65 = .ok (.putfield 36, 3) := by decide +kernel
theorem dX2_copyFrom_68 : decode cX2_copyFrom 68 = .ok (.return_, 1) := by decide +kernel
set_option maxRecDepth 20000 in
theorem ggX2_baseValue_X5_value : GoodIn wsX2_baseValue wsX5_value := goodIn_r _ [7, 8, 9, 10, 11, 25, 26, 27] (by decide +kernel) (by decide +kernel)
set_option maxRecDepth 20000 in
theorem gX2_baseValue_X5_value : GoodIn wsX2_baseValue (wsV RX2 46 RX5 yX5_value wsX5_value) := goodIn_app (goodIn_of _ (by decide +kernel)) ggX2_baseValue_X5_value
set_option maxRecDepth 20000 in
theorem ggX2_baseValue_X6_divideDown : GoodIn wsX2_baseValue wsX6_divideDown := goodIn_r _ [13, 14, 15, 16, 17] (by decide +kernel) (by decide +kernel)
set_option maxRecDepth 20000 in
theorem gX2_baseValue_X6_divideDown_n51 : GoodIn wsX2_baseValue (wsX6_divideDown) := ggX2_baseValue_X6_divideDown
theorem dX2_baseValue_0 : decode cX2_baseValue 0 = .ok (.iconst 0, 1) := by decide +kernel
theorem dX2_baseValue_1 : decode cX2_baseValue 1 = .ok (.istore_n 3, 1) := by decide +kernel
theorem dX2_baseValue_2 : decode cX2_baseValue 2 = .ok (.iload_n 3, 1) := by decide +kernel
theorem dX2_baseValue_3 : decode cX2_baseValue 3 = .ok (.aload_n 0, 1) := by decide +kernel
theorem dX2_baseValue_4 : decode cX2_baseValue 4 = .ok (.getfield 14, 3) := by decide +kernel
theorem dX2_baseValue_7 : decode cX2_baseValue 7 = .ok (.getfield 43, 3) := by decide +kernel
theorem dX2_baseValue_10 : decode cX2_baseValue 10 = .ok (.if_icmp .ge 22, 3) := by decide +kernel
theorem dX2_baseValue_13 : decode cX2_baseValue 13 = .ok (.aload_n 0, 1) := by decide +kernel
theorem dX2_baseValue_14 : decode cX2_baseValue 14 = .ok (.getfield 14, 3) := by decide +kernel
theorem dX2_baseValue_17 : decode cX2_baseValue 17 = .ok (.iload_n 3, 1) := by decide +kernel
theorem dX2_baseValue_18 : decode cX2_baseValue 18 = .ok (.iconst 0, 1) := by decide +kernel
theorem dX2_baseValue_19 : decode cX2_baseValue 19 = .ok (.invokevirtual 46, 3) := by decide +kernel
theorem dX2_baseValue_22 : decode cX2_baseValue 22 = .ok (.iload_n 1, 1) := by decide +kernel
theorem dX2_baseValue_23 : decode cX2_baseValue 23 = .ok (.if_icmp .ge 9, 3) := by decide +kernel
theorem dX2_baseValue_26 : decode cX2_baseValue 26 = .ok (.iinc 3 1, 3) := by decide +kernel
theorem dX2_baseValue_29 : decode cX2_baseValue 29 = .ok (.goto (-27), 3) := by decide +kernel
theorem dX2_baseValue_32 : decode cX2_baseValue 32 = .ok (.iload_n 3, 1) := by decide +kernel
theorem dX2_baseValue_33 : decode cX2_baseValue 33 = .ok (.aload_n 0, 1) := by decide +kernel
theorem dX2_baseValue_34 : decode cX2_baseValue 34 = .ok (.getfield 14, 3) := by decide +kernel
theorem dX2_baseValue_37 : decode cX2_baseValue 37 = .ok (.getfield 43, 3) := by decide +kernel
theorem dX2_baseValue_40 : decode cX2_baseValue 40 = .ok (.if_icmp .lt 6, 3) := by decide +kernel
theorem dX2_baseValue_43 : decode cX2_baseValue 43 = .ok (.ldc 50, 2) := by decide +kernel
theorem dX2_baseValue_45 : decode cX2_baseValue 45 = .ok (.ireturn, 1) := by decide +kernel
theorem dX2_baseValue_46 : decode cX2_baseValue 46 = .ok (.aload_n 0, 1) := by decide +kernel
theorem dX2_baseValue_47 : decode cX2_baseValue 47 = .ok (.getfield 14, 3) := by decide +kernel
theorem dX2_baseValue_50 : decode cX2_baseValue 50 = .ok (.iload_n 3, 1) := by decide +kernel
theorem dX2_baseValue_51 : decode cX2_baseValue 51 = .ok (.iconst 0, 1) := by decide +kernel
theorem dX2_baseValue_52 : decode cX2_baseValue 52 = .ok (.invokevirtual 46, 3) := by decide +kernel
theorem dX2_baseValue_55 : decode cX2_baseValue 55 = .ok (.istore 4, 2) := by decide +kernel
theorem dX2_baseValue_57 : decode cX2_baseValue 57 = .ok (.aload_n 0, 1) := by decide +kernel
theorem dX2_baseValue_58 : decode cX2_baseValue 58 = .ok (.getfield 14, 3) := by decide +kernel
theorem dX2_baseValue_61 : decode cX2_baseValue 61 = .ok (.iload_n 3, 1) := by decide +kernel
theorem dX2_baseValue_62 : decode cX2_baseValue 62 = .ok (.iload_n 2, 1) := by decide +kernel
theorem dX2_baseValue_63 : decode cX2_baseValue 63 = .ok (.invokevirtual 46, 3) := by decide +kernel
theorem dX2_baseValue_66 : decode cX2_baseValue 66 = .ok (.istore 5, 2) := by decide +kernel
theorem dX2_baseValue_68 : decode cX2_baseValue 68 = .ok (.iload 4, 2) := by decide +kernel
theorem dX2_baseValue_70 : decode cX2_baseValue 70 = .ok (.iload_n 1, 1) := by decide +kernel
theorem dX2_baseValue_71 : decode cX2_baseValue 71 = .ok (.if_icmp .ne 6, 3) := by decide +kernel
theorem dX2_baseValue_74 : decode cX2_baseValue 74 = .ok (.iload 5, 2) := by decide +kernel
theorem dX2_baseValue_76 : decode cX2_baseValue 76 = .ok (.ireturn, 1) := by decide +kernel
theorem dX2_baseValue_77 : decode cX2_baseValue 77 = .ok (.iload_n 3, 1) := by decide +kernel
theorem dX2_baseValue_78 : decode cX2_baseValue 78 = .ok (.ifCond .ne 6, 3) := by decide +kernel
theorem dX2_baseValue_81 : decode cX2_baseValue 81 = .ok (.ldc 50, 2) := by decide +kernel
theorem dX2_baseValue_83 : decode cX2_baseValue 83 = .ok (.ireturn, 1) := by decide +kernel
theorem dX2_baseValue_84 : decode cX2_baseValue 84 = .ok (.aload_n 0, 1) := by decide +kernel
theorem dX2_baseValue_85 : decode cX2_baseValue 85 = .ok (.getfield 14, 3) := by decide +kernel
theorem dX2_baseValue_88 : decode cX2_baseValue 88 = .ok (.iload_n 3, 1) := by decide +kernel
theorem dX2_baseValue_89 : decode cX2_baseValue 89 = .ok (.iconst 1, 1) := by decide +kernel
theorem dX2_baseValue_90 : decode cX2_baseValue 90 = .ok (.isub, 1) := by decide +kernel
theorem dX2_baseValue_91 : decode cX2_baseValue 91 = .ok (.iconst 0, 1) := by decide +kernel
theorem dX2_baseValue_92 : decode cX2_baseValue 92 = .ok (.invokevirtual 46, 3) := by decide +kernel
theorem dX2_baseValue_95 : decode cX2_baseValue 95 = .ok (.istore 6, 2) := by decide +kernel
theorem dX2_baseValue_97 : decode cX2_baseValue 97 = .ok (.aload_n 0, 1) := by decide +kernel
theorem dX2_baseValue_98 : decode cX2_baseValue 98 = .ok (.getfield 14, 3) := by decide +kernel
theorem dX2_baseValue_101 : decode cX2_baseValue 101 = .ok (.iload_n 3, 1) := by decide +kernel
theorem dX2_baseValue_102 : decode cX2_baseValue 102 = .ok (.iconst 1, 1) := by decide +kernel
theorem dX2_baseValue_103 : decode cX2_baseValue 103 = .ok (.isub, 1) := by decide +kernel
theorem dX2_baseValue_104 : decode cX2_baseValue 104 = .ok (.iload_n 2, 1) := by decide +kernel
theorem dX2_baseValue_105 : decode cX2_baseValue 105 = .ok (.invokevirtual 46, 3) := by decide +kernel
theorem dX2_baseValue_108 : decode cX2_baseValue 108 = .ok (.istore 7, 2) := by decide +kernel
theorem dX2_baseValue_110 : decode cX2_baseValue 110 = .ok (.iload 5, 2) := by decide +kernel
theorem dX2_baseValue_112 : decode cX2_baseValue 112 = .ok (.iload 7, 2) := by decide +kernel
theorem dX2_baseValue_114 : decode cX2_baseValue 114 = .ok (.isub, 1) := by decide +kernel
theorem dX2_baseValue_115 : decode cX2_baseValue 115 = .ok (.i2l, 1) := by decide +kernel
theorem dX2_baseValue_116 : decode cX2_baseValue 116 = .ok (.iload_n 1, 1) := by decide +kernel
theorem dX2_baseValue_117 : decode cX2_baseValue 117 = .ok (.iload 6, 2) := by decide +kernel
theorem dX2_baseValue_119 : decode cX2_baseValue 119 = .ok (.isub, 1) := by decide +kernel
theorem dX2_baseValue_120 : decode cX2_baseValue 120 = .ok (.i2l, 1) := by decide +kernel
theorem dX2_baseValue_121 : decode cX2_baseValue 121 = .ok (.lmul, 1) := by decide +kernel
theorem dX2_baseValue_122 : decode cX2_baseValue 122 = .ok (.lstore 8, 2) := by decide +kernel
theorem dX2_baseValue_124 : decode cX2_baseValue 124 = .ok (.iload 7, 2) := by decide +kernel
theorem dX2_baseValue_126 : decode cX2_baseValue 126 = .ok (.i2l, 1) := by decide +kernel
theorem dX2_baseValue_127 : decode cX2_baseValue 127 = .ok (.lload 8, 2) := by decide +kernel
theorem dX2_baseValue_129 : decode cX2_baseValue 129 = .ok (.iload 4, 2) := by decide +kernel
theorem dX2_baseValue_131 : decode cX2_baseValue 131 = .ok (.iload 6, 2) := by decide +kernel
theorem dX2_baseValue_133 : decode cX2_baseValue 133 = .ok (.isub, 1) := by decide +kernel
theorem dX2_baseValue_134 : decode cX2_baseValue 134 = .ok (.i2l, 1) := by decide +kernel
theorem dX2_baseValue_135 : decode cX2_baseValue 135 = .ok (.invokestatic 51, 3) := by decide +kernel
theorem dX2_baseValue_138 : decode cX2_baseValue 138 = .ok (.ladd, 1) := by decide +kernel
theorem dX2_baseValue_139 : decode cX2_baseValue 139 = .ok (.l2i, 1) := by decide +kernel
theorem dX2_baseValue_140 : decode cX2_baseValue 140 = .ok (.ireturn, 1) := by decide +kernel
set_option maxRecDepth 20000 in
theorem ggX2_heightAt_X2_baseValue : GoodIn wsX2_heightAt wsX2_baseValue := goodIn_r _ [8, 9, 1, 10, 11, 12, 13, 14, 15, 16, 17, 18, 19, 20, 21, 22, 23, 24, 28, 29, 30, 31, 32, 33, 34, 35, 36, 37] (by decide +kernel) (by decide +kernel)
set_option maxRecDepth 20000 in
theorem gX2_heightAt_X2_baseValue : GoodIn wsX2_heightAt (wsV RX2 55 RX2 yX2_baseValue wsX2_baseValue) := goodIn_app (goodIn_of _ (by decide +kernel)) ggX2_heightAt_X2_baseValue
set_option maxRecDepth 20000 in
theorem ggX2_heightAt_J9_floorDiv_7cf53 : GoodIn wsX2_heightAt wsJ9_floorDiv_7cf53 := goodIn_r _ [27] (by decide +kernel) (by decide +kernel)
set_option maxRecDepth 20000 in
theorem gX2_heightAt_J9_floorDiv_7cf53 : GoodIn wsX2_heightAt (va_wsS RX2 58 yJ9_floorDiv_7cf53 wsJ9_floorDiv_7cf53) := goodIn_app (goodIn_of _ (by decide +kernel)) ggX2_heightAt_J9_floorDiv_7cf53
set_option maxRecDepth 20000 in
theorem ggX2_heightAt_X6_divideDown : GoodIn wsX2_heightAt wsX6_divideDown := goodIn_r _ [20, 21, 22, 23, 24] (by decide +kernel) (by decide +kernel)
set_option maxRecDepth 20000 in
theorem gX2_heightAt_X6_divideDown_n51 : GoodIn wsX2_heightAt (wsX6_divideDown) := ggX2_heightAt_X6_divideDown
theorem dX2_heightAt_0 : decode cX2_heightAt 0 = .ok (.aload_n 0, 1) := by decide +kernel
theorem dX2_heightAt_1 : decode cX2_heightAt 1 = .ok (.iload_n 1, 1) := by decide +kernel
theorem dX2_heightAt_2 : decode cX2_heightAt 2 = .ok (.iconst 1, 1) := by decide +kernel
theorem dX2_heightAt_3 : decode cX2_heightAt 3 = .ok (.invokevirtual 55, 3) := by decide +kernel
theorem dX2_heightAt_6 : decode cX2_heightAt 6 = .ok (.istore 4, 2) := by decide +kernel
theorem dX2_heightAt_8 : decode cX2_heightAt 8 = .ok (.iload 4, 2) := by decide +kernel
theorem dX2_heightAt_10 : decode cX2_heightAt 10 = .ok (.ldc 50, 2) := by decide +kernel
theorem dX2_heightAt_12 : decode cX2_heightAt 12 = .ok (.if_icmp .ne 6, 3) := by decide +kernel
theorem dX2_heightAt_15 : decode cX2_heightAt 15 = .ok (.ldc 50, 2) := by decide +kernel
theorem dX2_heightAt_17 : decode cX2_heightAt 17 = .ok (.ireturn, 1) := by decide +kernel
theorem dX2_heightAt_18 : decode cX2_heightAt 18 = .ok (.aload_n 0, 1) := by decide +kernel
theorem dX2_heightAt_19 : decode cX2_heightAt 19 = .ok (.iload_n 1, 1) := by decide +kernel
theorem dX2_heightAt_20 : decode cX2_heightAt 20 = .ok (.iconst 2, 1) := by decide +kernel
theorem dX2_heightAt_21 : decode cX2_heightAt 21 = .ok (.invokevirtual 55, 3) := by decide +kernel
theorem dX2_heightAt_24 : decode cX2_heightAt 24 = .ok (.istore 5, 2) := by decide +kernel
theorem dX2_heightAt_26 : decode cX2_heightAt 26 = .ok (.sipush 2732, 3) := by decide +kernel
theorem dX2_heightAt_29 : decode cX2_heightAt 29 = .ok (.iload 5, 2) := by decide +kernel
theorem dX2_heightAt_31 : decode cX2_heightAt 31 = .ok (.iload_n 3, 1) := by decide +kernel
theorem dX2_heightAt_32 : decode cX2_heightAt 32 = .ok (.iadd, 1) := by decide +kernel
theorem dX2_heightAt_33 : decode cX2_heightAt 33 = .ok (.iconst 2, 1) := by decide +kernel
theorem dX2_heightAt_34 : decode cX2_heightAt 34 = .ok (.invokestatic 58, 3) := by decide +kernel
theorem dX2_heightAt_37 : decode cX2_heightAt 37 = .ok (.iadd, 1) := by decide +kernel
theorem dX2_heightAt_38 : decode cX2_heightAt 38 = .ok (.i2l, 1) := by decide +kernel
theorem dX2_heightAt_39 : decode cX2_heightAt 39 = .ok (.lstore 6, 2) := by decide +kernel
theorem dX2_heightAt_41 : decode cX2_heightAt 41 = .ok (.iload 4, 2) := by decide +kernel
theorem dX2_heightAt_43 : decode cX2_heightAt 43 = .ok (.iload_n 2, 1) := by decide +kernel
theorem dX2_heightAt_44 : decode cX2_heightAt 44 = .ok (.iadd, 1) := by decide +kernel
theorem dX2_heightAt_45 : decode cX2_heightAt 45 = .ok (.iconst 2, 1) := by decide +kernel
theorem dX2_heightAt_46 : decode cX2_heightAt 46 = .ok (.invokestatic 58, 3) := by decide +kernel
theorem dX2_heightAt_49 : decode cX2_heightAt 49 = .ok (.i2l, 1) := by decide +kernel
theorem dX2_heightAt_50 : decode cX2_heightAt 50 = .ok (.lstore 8, 2) := by decide +kernel
theorem dX2_heightAt_52 : decode cX2_heightAt 52 = .ok (.ldc2_w 63, 3) := by decide +kernel
theorem dX2_heightAt_55 : decode cX2_heightAt 55 = .ok (.lload 6, 2) := by decide +kernel
theorem dX2_heightAt_57 : decode cX2_heightAt 57 = .ok (.lmul, 1) := by decide +kernel
theorem dX2_heightAt_58 : decode cX2_heightAt 58 = .ok (.iload 4, 2) := by decide +kernel
theorem dX2_heightAt_60 : decode cX2_heightAt 60 = .ok (.iload_n 2, 1) := by decide +kernel
theorem dX2_heightAt_61 : decode cX2_heightAt 61 = .ok (.isub, 1) := by decide +kernel
theorem dX2_heightAt_62 : decode cX2_heightAt 62 = .ok (.i2l, 1) := by decide +kernel
theorem dX2_heightAt_63 : decode cX2_heightAt 63 = .ok (.lmul, 1) := by decide +kernel
theorem dX2_heightAt_64 : decode cX2_heightAt 64 = .ok (.lstore 10, 2) := by decide +kernel
theorem dX2_heightAt_66 : decode cX2_heightAt 66 = .ok (.aload_n 0, 1) := by decide +kernel
theorem dX2_heightAt_67 : decode cX2_heightAt 67 = .ok (.getfield 29, 3) := by decide +kernel
theorem dX2_heightAt_70 : decode cX2_heightAt 70 = .ok (.i2l, 1) := by decide +kernel
theorem dX2_heightAt_71 : decode cX2_heightAt 71 = .ok (.lload 10, 2) := by decide +kernel
theorem dX2_heightAt_73 : decode cX2_heightAt 73 = .ok (.lload 8, 2) := by decide +kernel
theorem dX2_heightAt_75 : decode cX2_heightAt 75 = .ok (.invokestatic 51, 3) := by decide +kernel
theorem dX2_heightAt_78 : decode cX2_heightAt 78 = .ok (.ladd, 1) := by decide +kernel
theorem dX2_heightAt_79 : decode cX2_heightAt 79 = .ok (.l2i, 1) := by decide +kernel
theorem dX2_heightAt_80 : decode cX2_heightAt 80 = .ok (.ireturn, 1) := by decide +kernel
set_option maxRecDepth 20000 in
theorem ggX2_isStepEnd_X5_value : GoodIn wsX2_isStepEnd wsX5_value := goodIn_r _ [11, 12, 13, 14, 15, 23, 24, 25] (by decide +kernel) (by decide +kernel)
set_option maxRecDepth 20000 in
theorem gX2_isStepEnd_X5_value : GoodIn wsX2_isStepEnd (wsV RX2 46 RX5 yX5_value wsX5_value) := goodIn_app (goodIn_of _ (by decide +kernel)) ggX2_isStepEnd_X5_value
theorem dX2_isStepEnd_0 : decode cX2_isStepEnd 0 = .ok (.aload_n 0, 1) := by decide +kernel
theorem dX2_isStepEnd_1 : decode cX2_isStepEnd 1 = .ok (.getfield 14, 3) := by decide +kernel
theorem dX2_isStepEnd_4 : decode cX2_isStepEnd 4 = .ok (.iload_n 1, 1) := by decide +kernel
theorem dX2_isStepEnd_5 : decode cX2_isStepEnd 5 = .ok (.iconst 2, 1) := by decide +kernel
theorem dX2_isStepEnd_6 : decode cX2_isStepEnd 6 = .ok (.invokevirtual 46, 3) := by decide +kernel
theorem dX2_isStepEnd_9 : decode cX2_isStepEnd 9 = .ok (.aload_n 0, 1) := by decide +kernel
theorem dX2_isStepEnd_10 : decode cX2_isStepEnd 10 = .ok (.getfield 14, 3) := by decide +kernel
theorem dX2_isStepEnd_13 : decode cX2_isStepEnd 13 = .ok (.iload_n 1, 1) := by decide +kernel
theorem dX2_isStepEnd_14 : decode cX2_isStepEnd 14 = .ok (.iconst 1, 1) := by decide +kernel
theorem dX2_isStepEnd_15 : decode cX2_isStepEnd 15 = .ok (.isub, 1) := by decide +kernel
theorem dX2_isStepEnd_16 : decode cX2_isStepEnd 16 = .ok (.iconst 2, 1) := by decide +kernel
theorem dX2_isStepEnd_17 : decode cX2_isStepEnd 17 = .ok (.invokevirtual 46, 3) := by decide +kernel
theorem dX2_isStepEnd_20 : decode cX2_isStepEnd 20 = .ok (.isub, 1) := by decide +kernel
theorem dX2_isStepEnd_21 : decode cX2_isStepEnd 21 = .ok (.istore_n 2, 1) := by decide +kernel
theorem dX2_isStepEnd_22 : decode cX2_isStepEnd 22 = .ok (.iload_n 2, 1) := by decide +kernel
theorem dX2_isStepEnd_23 : decode cX2_isStepEnd 23 = .ok (.invokestatic 65, 3) := by decide +kernel
theorem dX2_isStepEnd_26 : decode cX2_isStepEnd 26 = .ok (.aload_n 0, 1) := by decide +kernel
theorem dX2_isStepEnd_27 : decode cX2_isStepEnd 27 = .ok (.getfield 36, 3) := by decide +kernel
theorem dX2_isStepEnd_30 : decode cX2_isStepEnd 30 = .ok (.if_icmp .lt 7, 3) := by decide +kernel
theorem dX2_isStepEnd_33 : decode cX2_isStepEnd 33 = .ok (.iconst 1, 1) := by decide +kernel
theorem dX2_isStepEnd_34 : decode cX2_isStepEnd 34 = .ok (.goto 4, 3) := by decide +kernel
theorem dX2_isStepEnd_37 : decode cX2_isStepEnd 37 = .ok (.iconst 0, 1) := by decide +kernel
theorem dX2_isStepEnd_38 : decode cX2_isStepEnd 38 = .ok (.ireturn, 1) := by decide +kernel
set_option maxRecDepth 20000 in
theorem ggX2_steps_X2_isStepEnd : GoodIn wsX2_steps wsX2_isStepEnd := goodIn_r _ [6, 1, 7, 8, 9, 10, 11, 12, 13, 14, 15, 16, 17, 18, 19, 20, 21, 22, 23, 24, 25, 26, 27, 28, 29, 30] (by decide +kernel) (by decide +kernel)
set_option maxRecDepth 20000 in
theorem gX2_steps_X2_isStepEnd : GoodIn wsX2_steps (wsV RX2 69 RX2 yX2_isStepEnd wsX2_isStepEnd) := goodIn_app (goodIn_of _ (by decide +kernel)) ggX2_steps_X2_isStepEnd
theorem dX2_steps_0 : decode cX2_steps 0 = .ok (.iconst 0, 1) := by decide +kernel
theorem dX2_steps_1 : decode cX2_steps 1 = .ok (.istore_n 1, 1) := by decide +kernel
theorem dX2_steps_2 : decode cX2_steps 2 = .ok (.iconst 1, 1) := by decide +kernel
theorem dX2_steps_3 : decode cX2_steps 3 = .ok (.istore_n 2, 1) := by decide +kernel
theorem dX2_steps_4 : decode cX2_steps 4 = .ok (.iload_n 2, 1) := by decide +kernel
theorem dX2_steps_5 : decode cX2_steps 5 = .ok (.aload_n 0, 1) := by decide +kernel
theorem dX2_steps_6 : decode cX2_steps 6 = .ok (.getfield 14, 3) := by decide +kernel
theorem dX2_steps_9 : decode cX2_steps 9 = .ok (.getfield 43, 3) := by decide +kernel
theorem dX2_steps_12 : decode cX2_steps 12 = .ok (.if_icmp .ge 25, 3) := by decide +kernel
theorem dX2_steps_15 : decode cX2_steps 15 = .ok (.iload_n 1, 1) := by decide +kernel
theorem dX2_steps_16 : decode cX2_steps 16 = .ok (.aload_n 0, 1) := by decide +kernel
theorem dX2_steps_17 : decode cX2_steps 17 = .ok (.iload_n 2, 1) := by decide +kernel
theorem dX2_steps_18 : decode cX2_steps 18 = .ok (.invokevirtual 69, 3) := by decide +kernel
theorem dX2_steps_21 : decode cX2_steps 21 = .ok (.ifCond .eq 7, 3) := by decide +kernel
theorem dX2_steps_24 : decode cX2_steps 24 = .ok (.iconst 1, 1) := by decide +kernel
theorem dX2_steps_25 : decode cX2_steps 25 = .ok (.goto 4, 3) := by decide +kernel
theorem dX2_steps_28 : decode cX2_steps 28 = .ok (.iconst 0, 1) := by decide +kernel
theorem dX2_steps_29 : decode cX2_steps 29 = .ok (.iadd, 1) := by decide +kernel
theorem dX2_steps_30 : decode cX2_steps 30 = .ok (.istore_n 1, 1) := by decide +kernel
theorem dX2_steps_31 : decode cX2_steps 31 = .ok (.iinc 2 1, 3) := by decide +kernel
theorem dX2_steps_34 : decode cX2_steps 34 = .ok (.goto (-30), 3) := by decide +kernel
theorem dX2_steps_37 : decode cX2_steps 37 = .ok (.iload_n 1, 1) := by decide +kernel
theorem dX2_steps_38 : decode cX2_steps 38 = .ok (.ireturn, 1) := by decide +kernel
set_option maxRecDepth 20000 in
theorem ggX2_stepEnd_X2_isStepEnd : GoodIn wsX2_stepEnd wsX2_isStepEnd := goodIn_r _ [6, 1, 7, 8, 9, 10, 11, 12, 13, 14, 15, 16, 17, 18, 19, 20, 21, 22, 23, 24, 25, 26, 27, 28, 29, 30] (by decide +kernel) (by decide +kernel)
set_option maxRecDepth 20000 in
theorem gX2_stepEnd_X2_isStepEnd : GoodIn wsX2_stepEnd (wsV RX2 69 RX2 yX2_isStepEnd wsX2_isStepEnd) := goodIn_app (goodIn_of _ (by decide +kernel)) ggX2_stepEnd_X2_isStepEnd
theorem dX2_stepEnd_0 : decode cX2_stepEnd 0 = .ok (.iconst 0, 1) := by decide +kernel
theorem dX2_stepEnd_1 : decode cX2_stepEnd 1 = .ok (.istore_n 2, 1) := by decide +kernel
theorem dX2_stepEnd_2 : decode cX2_stepEnd 2 = .ok (.iconst 1, 1) := by decide +kernel
theorem dX2_stepEnd_3 : decode cX2_stepEnd 3 = .ok (.istore_n 3, 1) := by decide +kernel
theorem dX2_stepEnd_4 : decode cX2_stepEnd 4 = .ok (.iload_n 3, 1) := by decide +kernel
theorem dX2_stepEnd_5 : decode cX2_stepEnd 5 = .ok (.aload_n 0, 1) := by decide +kernel
theorem dX2_stepEnd_6 : decode cX2_stepEnd 6 = .ok (.getfield 14, 3) := by decide +kernel
theorem dX2_stepEnd_9 : decode cX2_stepEnd 9 = .ok (.getfield 43, 3) := by decide +kernel
theorem dX2_stepEnd_12 : decode cX2_stepEnd 12 = .ok (.if_icmp .ge 27, 3) := by decide +kernel
theorem dX2_stepEnd_15 : decode cX2_stepEnd 15 = .ok (.aload_n 0, 1) := by decide +kernel
theorem dX2_stepEnd_16 : decode cX2_stepEnd 16 = .ok (.iload_n 3, 1) := by decide +kernel
theorem dX2_stepEnd_17 : decode cX2_stepEnd 17 = .ok (.invokevirtual 69, 3) := by decide +kernel
theorem dX2_stepEnd_20 : decode cX2_stepEnd 20 = .ok (.ifCond .eq 13, 3) := by decide +kernel
theorem dX2_stepEnd_23 : decode cX2_stepEnd 23 = .ok (.iload_n 2, 1) := by decide +kernel
theorem dX2_stepEnd_24 : decode cX2_stepEnd 24 = .ok (.iload_n 1, 1) := by decide +kernel
theorem dX2_stepEnd_25 : decode cX2_stepEnd 25 = .ok (.if_icmp .ne 5, 3) := by decide +kernel
theorem dX2_stepEnd_28 : decode cX2_stepEnd 28 = .ok (.iload_n 3, 1) := by decide +kernel
theorem dX2_stepEnd_29 : decode cX2_stepEnd 29 = .ok (.ireturn, 1) := by decide +kernel
theorem dX2_stepEnd_30 : decode cX2_stepEnd 30 = .ok (.iinc 2 1, 3) := by decide +kernel
theorem dX2_stepEnd_33 : decode cX2_stepEnd 33 = .ok (.iinc 3 1, 3) := by decide +kernel
theorem dX2_stepEnd_36 : decode cX2_stepEnd 36 = .ok (.goto (-32), 3) := by decide +kernel
theorem dX2_stepEnd_39 : decode cX2_stepEnd 39 = .ok (.iconst (-1), 1) := by decide +kernel
theorem dX2_stepEnd_40 : decode cX2_stepEnd 40 = .ok (.ireturn, 1) := by decide +kernel
theorem dX3_init_0 : decode cX3_init 0 = .ok (.aload_n 0, 1) := by decide +kernel
theorem dX3_init_1 : decode cX3_init 1 = .ok (.invokespecial 3, 3) := by decide +kernel
theorem dX3_init_4 : decode cX3_init 4 = .ok (.aload_n 0, 1) := by decide +kernel
theorem dX3_init_5 : decode cX3_init 5 = .ok (.bipush 20, 2) := by decide +kernel
theorem dX3_init_7 : decode cX3_init 7 = .ok (.newarray .int, 2) := by decide +kernel
theorem dX3_init_9 : decode cX3_init 9 = .ok (.putfield 9, 3) := by decide +kernel
theorem dX3_init_12 : decode cX3_init 12 = .ok (.aload_n 0, 1) := by decide +kernel
theorem dX3_init_13 : decode cX3_init 13 = .ok (.bipush 20, 2) := by decide +kernel
theorem dX3_init_15 : decode cX3_init 15 = .ok (.newarray .int, 2) := by decide +kernel
theorem dX3_init_17 : decode cX3_init 17 = .ok (.putfield 15, 3) := by decide +kernel
theorem dX3_init_20 : decode cX3_init 20 = .ok (.aload_n 0, 1) := by decide +kernel
theorem dX3_init_21 : decode cX3_init 21 = .ok (.bipush 20, 2) := by decide +kernel
theorem dX3_init_23 : decode cX3_init 23 = .ok (.newarray .int, 2) := by decide +kernel
theorem dX3_init_25 : decode cX3_init 25 = .ok (.putfield 18, 3) := by decide +kernel
theorem dX3_init_28 : decode cX3_init 28 = .ok (.aload_n 0, 1) := by decide +kernel
theorem dX3_init_29 : decode cX3_init 29 = .ok (.bipush 20, 2) := by decide +kernel
theorem dX3_init_31 : decode cX3_init 31 = .ok (.newarray .int, 2) := by decide +kernel
theorem dX3_init_33 : decode cX3_init 33 = .ok (.putfield 21, 3) := by decide +kernel
theorem dX3_init_36 : decode cX3_init 36 = .ok (.aload_n 0, 1) := by decide +kernel
theorem dX3_init_37 : decode cX3_init 37 = .ok (.bipush 20, 2) := by decide +kernel
theorem dX3_init_39 : decode cX3_init 39 = .ok (.newarray .int, 2) := by decide +kernel
theorem dX3_init_41 : decode cX3_init 41 = .ok (.putfield 24, 3) := by decide +kernel
theorem dX3_init_44 : decode cX3_init 44 = .ok (.aload_n 0, 1) := by decide +kernel
theorem dX3_init_45 : decode cX3_init 45 = .ok (.bipush 20, 2) := by decide +kernel
theorem dX3_init_47 : decode cX3_init 47 = .ok (.newarray .int, 2) := by decide +kernel
theorem dX3_init_49 : decode cX3_init 49 = .ok (.putfield 27, 3) := by decide +kernel
theorem dX3_init_52 : decode cX3_init 52 = .ok (.aload_n 0, 1) := by decide +kernel
theorem dX3_init_53 : decode cX3_init 53 = .ok (.bipush 20, 2) := by decide +kernel
theorem dX3_init_55 : decode cX3_init 55 = .ok (.newarray .int, 2) := by decide +kernel
theorem dX3_init_57 : decode cX3_init 57 = .ok (.putfield 30, 3) := by decide +kernel
theorem dX3_init_60 : decode cX3_init 60 = .ok (.aload_n 0, 1) := by decide +kernel
theorem dX3_init_61 : decode cX3_init 61 = .ok (.bipush 20, 2) := by decide +kernel
theorem dX3_init_63 : decode cX3_init 63 = .ok (.newarray .int, 2) := by decide +kernel
theorem dX3_init_65 : decode cX3_init 65 = .ok (.putfield 33, 3) := by decide +kernel
theorem dX3_init_68 : decode cX3_init 68 = .ok (.return_, 1) := by decide +kernel
set_option maxRecDepth 20000 in
theorem ggX3_workOut_X2_track : GoodIn wsX3_workOut wsX2_track := goodIn_r _ [12, 13, 14, 15, 16, 129, 130, 131, 132, 133, 134, 135] (by decide +kernel) (by decide +kernel)
set_option maxRecDepth 20000 in
theorem gX3_workOut_X2_track : GoodIn wsX3_workOut (wsV RX3 36 RX2 yX2_track wsX2_track) := goodIn_app (goodIn_of _ (by decide +kernel)) ggX3_workOut_X2_track
set_option maxRecDepth 20000 in
theorem ggX3_workOut_X5_value : GoodIn wsX3_workOut wsX5_value := goodIn_r _ [21, 22, 23, 24, 25, 114, 115, 116] (by decide +kernel) (by decide +kernel)
set_option maxRecDepth 20000 in
theorem gX3_workOut_X5_value : GoodIn wsX3_workOut (wsV RX3 49 RX5 yX5_value wsX5_value) := goodIn_app (goodIn_of _ (by decide +kernel)) ggX3_workOut_X5_value
set_option maxRecDepth 20000 in
theorem ggX3_workOut_X6_put : GoodIn wsX3_workOut wsX6_put := goodIn_r _ [27] (by decide +kernel) (by decide +kernel)
set_option maxRecDepth 20000 in
theorem gX3_workOut_X6_put_n53 : GoodIn wsX3_workOut (wsX6_put) := ggX3_workOut_X6_put
set_option maxRecDepth 20000 in
theorem ggX3_workOut_X2_heightAt : GoodIn wsX3_workOut wsX2_heightAt := goodIn_r _ [31, 32, 33, 34, 35, 36, 37, 11, 38, 16, 39, 18, 19, 20, 21, 22, 23, 24, 25, 40, 41, 42, 43, 44, 45, 46, 47, 48, 129, 130, 131, 132, 133, 134, 135, 114, 115, 116] (by decide +kernel) (by decide +kernel)
set_option maxRecDepth 20000 in
theorem gX3_workOut_X2_heightAt : GoodIn wsX3_workOut (wsV RX3 57 RX2 yX2_heightAt wsX2_heightAt) := goodIn_app (goodIn_of _ (by decide +kernel)) ggX3_workOut_X2_heightAt
set_option maxRecDepth 20000 in
theorem ggX3_workOut_X5_standsOut : GoodIn wsX3_workOut wsX5_standsOut := goodIn_r _ [52, 53, 54, 18, 19, 20, 21, 22, 23, 24, 25, 114, 115, 116] (by decide +kernel) (by decide +kernel)
set_option maxRecDepth 20000 in
theorem gX3_workOut_X5_standsOut : GoodIn wsX3_workOut (wsV RX3 64 RX5 yX5_standsOut wsX5_standsOut) := goodIn_app (goodIn_of _ (by decide +kernel)) ggX3_workOut_X5_standsOut
set_option maxRecDepth 20000 in
theorem ggX3_workOut_X3_countKinds : GoodIn wsX3_workOut wsX3_countKinds := goodIn_r _ [59, 60, 61, 1, 62, 63, 64, 58, 65, 5, 23, 24, 25, 66, 67, 68, 69, 4, 70, 117, 118, 119, 120, 121, 122, 123, 124, 125, 126, 127, 128] (by decide +kernel) (by decide +kernel)
set_option maxRecDepth 20000 in
theorem gX3_workOut_X3_countKinds : GoodIn wsX3_workOut (wsV RX3 68 RX3 yX3_countKinds wsX3_countKinds) := goodIn_app (goodIn_of _ (by decide +kernel)) ggX3_workOut_X3_countKinds
set_option maxRecDepth 20000 in
theorem ggX3_workOut_X3_findLoops : GoodIn wsX3_workOut wsX3_findLoops := goodIn_r _ [74, 75, 1, 76, 77, 66, 67, 68, 58, 69, 4, 70, 5, 23, 24, 25, 78, 79, 80, 81, 3, 26, 27, 117, 118, 119, 120, 121, 122, 123, 124, 125, 126, 127, 128] (by decide +kernel) (by decide +kernel)
set_option maxRecDepth 20000 in
theorem gX3_workOut_X3_findLoops : GoodIn wsX3_workOut (wsV RX3 71 RX3 yX3_findLoops wsX3_findLoops) := goodIn_app (goodIn_of _ (by decide +kernel)) ggX3_workOut_X3_findLoops
set_option maxRecDepth 20000 in
theorem ggX3_workOut_X3_shortestLoop : GoodIn wsX3_workOut wsX3_shortestLoop := goodIn_r _ [85, 75, 66, 67, 68, 58, 69, 4, 70, 5, 23, 24, 25, 86, 87, 88, 89, 76, 90, 91, 92, 93, 77, 94, 95, 96, 97, 2, 117, 118, 119, 120, 121, 122, 123, 124, 125, 126, 127, 128] (by decide +kernel) (by decide +kernel)
set_option maxRecDepth 20000 in
theorem gX3_workOut_X3_shortestLoop : GoodIn wsX3_workOut (wsV RX3 74 RX3 yX3_shortestLoop wsX3_shortestLoop) := goodIn_app (goodIn_of _ (by decide +kernel)) ggX3_workOut_X3_shortestLoop
set_option maxRecDepth 20000 in
theorem ggX3_workOut_X3_withoutDrift : GoodIn wsX3_workOut wsX3_withoutDrift := goodIn_r _ [101, 70, 2, 66, 67, 68, 58, 69, 4, 5, 23, 24, 25, 102, 103, 104, 105, 6, 106, 107, 108, 109, 86, 87, 88, 89, 76, 110, 111, 112, 113, 90, 91, 92, 93, 77, 94, 95, 96, 97, 40, 41, 42, 43, 44, 45, 117, 118, 119, 120, 121, 122, 123, 124, 125, 126, 127, 128] (by decide +kernel) (by decide +kernel)
set_option maxRecDepth 20000 in
theorem gX3_workOut_X3_withoutDrift : GoodIn wsX3_workOut (wsV RX3 78 RX3 yX3_withoutDrift wsX3_withoutDrift) := goodIn_app (goodIn_of _ (by decide +kernel)) ggX3_workOut_X3_withoutDrift
theorem dX3_workOut_0 : decode cX3_workOut 0 = .ok (.aload_n 1, 1) := by decide +kernel
theorem dX3_workOut_1 : decode cX3_workOut 1 = .ok (.iload_n 2, 1) := by decide +kernel
theorem dX3_workOut_2 : decode cX3_workOut 2 = .ok (.invokevirtual 36, 3) := by decide +kernel
theorem dX3_workOut_5 : decode cX3_workOut 5 = .ok (.astore_n 3, 1) := by decide +kernel
theorem dX3_workOut_6 : decode cX3_workOut 6 = .ok (.aload_n 0, 1) := by decide +kernel
theorem dX3_workOut_7 : decode cX3_workOut 7 = .ok (.aload_n 3, 1) := by decide +kernel
theorem dX3_workOut_8 : decode cX3_workOut 8 = .ok (.getfield 42, 3) := by decide +kernel
theorem dX3_workOut_11 : decode cX3_workOut 11 = .ok (.putfield 48, 3) := by decide +kernel
theorem dX3_workOut_14 : decode cX3_workOut 14 = .ok (.iconst 0, 1) := by decide +kernel
theorem dX3_workOut_15 : decode cX3_workOut 15 = .ok (.istore 4, 2) := by decide +kernel
theorem dX3_workOut_17 : decode cX3_workOut 17 = .ok (.iload 4, 2) := by decide +kernel
theorem dX3_workOut_19 : decode cX3_workOut 19 = .ok (.aload_n 0, 1) := by decide +kernel
theorem dX3_workOut_20 : decode cX3_workOut 20 = .ok (.getfield 48, 3) := by decide +kernel
theorem dX3_workOut_23 : decode cX3_workOut 23 = .ok (.if_icmp .ge 109, 3) := by decide +kernel
theorem dX3_workOut_26 : decode cX3_workOut 26 = .ok (.aload_n 3, 1) := by decide +kernel
theorem dX3_workOut_27 : decode cX3_workOut 27 = .ok (.iload 4, 2) := by decide +kernel
theorem dX3_workOut_29 : decode cX3_workOut 29 = .ok (.iconst 0, 1) := by decide +kernel
theorem dX3_workOut_30 : decode cX3_workOut 30 = .ok (.invokevirtual 49, 3) := by decide +kernel
theorem dX3_workOut_33 : decode cX3_workOut 33 = .ok (.istore 5, 2) := by decide +kernel
theorem dX3_workOut_35 : decode cX3_workOut 35 = .ok (.aload_n 3, 1) := by decide +kernel
theorem dX3_workOut_36 : decode cX3_workOut 36 = .ok (.iload 4, 2) := by decide +kernel
theorem dX3_workOut_38 : decode cX3_workOut 38 = .ok (.iconst 1, 1) := by decide +kernel
theorem dX3_workOut_39 : decode cX3_workOut 39 = .ok (.invokevirtual 49, 3) := by decide +kernel
theorem dX3_workOut_42 : decode cX3_workOut 42 = .ok (.istore 6, 2) := by decide +kernel
theorem dX3_workOut_44 : decode cX3_workOut 44 = .ok (.aload_n 3, 1) := by decide +kernel
theorem dX3_workOut_45 : decode cX3_workOut 45 = .ok (.iload 4, 2) := by decide +kernel
theorem dX3_workOut_47 : decode cX3_workOut 47 = .ok (.iconst 2, 1) := by decide +kernel
theorem dX3_workOut_48 : decode cX3_workOut 48 = .ok (.invokevirtual 49, 3) := by decide +kernel
theorem dX3_workOut_51 : decode cX3_workOut 51 = .ok (.istore 7, 2) := by decide +kernel
theorem dX3_workOut_53 : decode cX3_workOut 53 = .ok (.aload_n 0, 1) := by decide +kernel
theorem dX3_workOut_54 : decode cX3_workOut 54 = .ok (.getfield 9, 3) := by decide +kernel
theorem dX3_workOut_57 : decode cX3_workOut 57 = .ok (.iload 4, 2) := by decide +kernel
theorem dX3_workOut_59 : decode cX3_workOut 59 = .ok (.iload 5, 2) := by decide +kernel
theorem dX3_workOut_61 : decode cX3_workOut 61 = .ok (.invokestatic 53, 3) := by decide +kernel
theorem dX3_workOut_64 : decode cX3_workOut 64 = .ok (.aload_n 0, 1) := by decide +kernel
theorem dX3_workOut_65 : decode cX3_workOut 65 = .ok (.getfield 15, 3) := by decide +kernel
theorem dX3_workOut_68 : decode cX3_workOut 68 = .ok (.iload 4, 2) := by decide +kernel
theorem dX3_workOut_70 : decode cX3_workOut 70 = .ok (.aload_n 3, 1) := by decide +kernel
theorem dX3_workOut_71 : decode cX3_workOut 71 = .ok (.iload 4, 2) := by decide +kernel
theorem dX3_workOut_73 : decode cX3_workOut 73 = .ok (.iconst 3, 1) := by decide +kernel
theorem dX3_workOut_74 : decode cX3_workOut 74 = .ok (.invokevirtual 49, 3) := by decide +kernel
theorem dX3_workOut_77 : decode cX3_workOut 77 = .ok (.invokestatic 53, 3) := by decide +kernel
theorem dX3_workOut_80 : decode cX3_workOut 80 = .ok (.aload_n 0, 1) := by decide +kernel
theorem dX3_workOut_81 : decode cX3_workOut 81 = .ok (.getfield 18, 3) := by decide +kernel
theorem dX3_workOut_84 : decode cX3_workOut 84 = .ok (.iload 4, 2) := by decide +kernel
theorem dX3_workOut_86 : decode cX3_workOut 86 = .ok (.aload_n 1, 1) := by decide +kernel
theorem dX3_workOut_87 : decode cX3_workOut 87 = .ok (.iload 5, 2) := by decide +kernel
theorem dX3_workOut_89 : decode cX3_workOut 89 = .ok (.iload 6, 2) := by decide +kernel
theorem dX3_workOut_91 : decode cX3_workOut 91 = .ok (.iload 7, 2) := by decide +kernel
theorem dX3_workOut_93 : decode cX3_workOut 93 = .ok (.invokevirtual 57, 3) := by decide +kernel
theorem dX3_workOut_96 : decode cX3_workOut 96 = .ok (.invokestatic 53, 3) := by decide +kernel
theorem dX3_workOut_99 : decode cX3_workOut 99 = .ok (.aload_n 0, 1) := by decide +kernel
theorem dX3_workOut_100 : decode cX3_workOut 100 = .ok (.getfield 21, 3) := by decide +kernel
theorem dX3_workOut_103 : decode cX3_workOut 103 = .ok (.iload 4, 2) := by decide +kernel
theorem dX3_workOut_105 : decode cX3_workOut 105 = .ok (.aload_n 3, 1) := by decide +kernel
theorem dX3_workOut_106 : decode cX3_workOut 106 = .ok (.iload 4, 2) := by decide +kernel
theorem dX3_workOut_108 : decode cX3_workOut 108 = .ok (.aload_n 1, 1) := by decide +kernel
theorem dX3_workOut_109 : decode cX3_workOut 109 = .ok (.getfield 61, 3) := by decide +kernel
theorem dX3_workOut_112 : decode cX3_workOut 112 = .ok (.invokevirtual 64, 3) := by decide +kernel
theorem dX3_workOut_115 : decode cX3_workOut 115 = .ok (.ifCond .eq 7, 3) := by decide +kernel
theorem dX3_workOut_118 : decode cX3_workOut 118 = .ok (.iconst 1, 1) := by decide +kernel
theorem dX3_workOut_119 : decode cX3_workOut 119 = .ok (.goto 4, 3) := by decide +kernel
theorem dX3_workOut_122 : decode cX3_workOut 122 = .ok (.iconst 0, 1) := by decide +kernel
theorem dX3_workOut_123 : decode cX3_workOut 123 = .ok (.invokestatic 53, 3) := by decide +kernel
theorem dX3_workOut_126 : decode cX3_workOut 126 = .ok (.iinc 4 1, 3) := by decide +kernel
theorem dX3_workOut_129 : decode cX3_workOut 129 = .ok (.goto (-112), 3) := by decide +kernel
theorem dX3_workOut_132 : decode cX3_workOut 132 = .ok (.aload_n 0, 1) := by decide +kernel
theorem dX3_workOut_133 : decode cX3_workOut 133 = .ok (.invokevirtual 68, 3) := by decide +kernel
theorem dX3_workOut_136 : decode cX3_workOut 136 = .ok (.aload_n 0, 1) := by decide +kernel
theorem dX3_workOut_137 : decode cX3_workOut 137 = .ok (.invokevirtual 71, 3) := by decide +kernel
theorem dX3_workOut_140 : decode cX3_workOut 140 = .ok (.iconst 0, 1) := by decide +kernel
theorem dX3_workOut_141 : decode cX3_workOut 141 = .ok (.istore 4, 2) := by decide +kernel
theorem dX3_workOut_143 : decode cX3_workOut 143 = .ok (.iload 4, 2) := by decide +kernel
theorem dX3_workOut_145 : decode cX3_workOut 145 = .ok (.aload_n 0, 1) := by decide +kernel
theorem dX3_workOut_146 : decode cX3_workOut 146 = .ok (.getfield 48, 3) := by decide +kernel
theorem dX3_workOut_149 : decode cX3_workOut 149 = .ok (.if_icmp .ge 39, 3) := by decide +kernel
theorem dX3_workOut_152 : decode cX3_workOut 152 = .ok (.aload_n 0, 1) := by decide +kernel
theorem dX3_workOut_153 : decode cX3_workOut 153 = .ok (.getfield 24, 3) := by decide +kernel
theorem dX3_workOut_156 : decode cX3_workOut 156 = .ok (.iload 4, 2) := by decide +kernel
theorem dX3_workOut_158 : decode cX3_workOut 158 = .ok (.aload_n 0, 1) := by decide +kernel
theorem dX3_workOut_159 : decode cX3_workOut 159 = .ok (.iload 4, 2) := by decide +kernel
theorem dX3_workOut_161 : decode cX3_workOut 161 = .ok (.invokevirtual 74, 3) := by decide +kernel
theorem dX3_workOut_164 : decode cX3_workOut 164 = .ok (.invokestatic 53, 3) := by decide +kernel
theorem dX3_workOut_167 : decode cX3_workOut 167 = .ok (.aload_n 0, 1) := by decide +kernel
theorem dX3_workOut_168 : decode cX3_workOut 168 = .ok (.getfield 27, 3) := by decide +kernel
theorem dX3_workOut_171 : decode cX3_workOut 171 = .ok (.iload 4, 2) := by decide +kernel
theorem dX3_workOut_173 : decode cX3_workOut 173 = .ok (.aload_n 0, 1) := by decide +kernel
theorem dX3_workOut_174 : decode cX3_workOut 174 = .ok (.iload 4, 2) := by decide +kernel
theorem dX3_workOut_176 : decode cX3_workOut 176 = .ok (.invokevirtual 78, 3) := by decide +kernel
theorem dX3_workOut_179 : decode cX3_workOut 179 = .ok (.invokestatic 53, 3) := by decide +kernel
theorem dX3_workOut_182 : decode cX3_workOut 182 = .ok (.iinc 4 1, 3) := by decide +kernel
theorem dX3_workOut_185 : decode cX3_workOut 185 = .ok (.goto (-42), 3) := by decide +kernel
theorem dX3_workOut_188 : decode cX3_workOut 188 = .ok (.return_, 1) := by decide +kernel
set_option maxRecDepth 20000 in
theorem ggX3_isGust_X6_at : GoodIn wsX3_isGust wsX6_at := goodIn_r _ [4] (by decide +kernel) (by decide +kernel)
set_option maxRecDepth 20000 in
theorem gX3_isGust_X6_at_n81 : GoodIn wsX3_isGust (wsX6_at) := ggX3_isGust_X6_at
theorem dX3_isGust_0 : decode cX3_isGust 0 = .ok (.aload_n 0, 1) := by decide +kernel
theorem dX3_isGust_1 : decode cX3_isGust 1 = .ok (.getfield 21, 3) := by decide +kernel
theorem dX3_isGust_4 : decode cX3_isGust 4 = .ok (.iload_n 1, 1) := by decide +kernel
theorem dX3_isGust_5 : decode cX3_isGust 5 = .ok (.invokestatic 81, 3) := by decide +kernel
theorem dX3_isGust_8 : decode cX3_isGust 8 = .ok (.iconst 1, 1) := by decide +kernel
theorem dX3_isGust_9 : decode cX3_isGust 9 = .ok (.if_icmp .ne 7, 3) := by decide +kernel
theorem dX3_isGust_12 : decode cX3_isGust 12 = .ok (.iconst 1, 1) := by decide +kernel
theorem dX3_isGust_13 : decode cX3_isGust 13 = .ok (.goto 4, 3) := by decide +kernel
theorem dX3_isGust_16 : decode cX3_isGust 16 = .ok (.iconst 0, 1) := by decide +kernel
theorem dX3_isGust_17 : decode cX3_isGust 17 = .ok (.ireturn, 1) := by decide +kernel
set_option maxRecDepth 20000 in
theorem ggX3_rawHeight_X6_at : GoodIn wsX3_rawHeight wsX6_at := goodIn_r _ [4] (by decide +kernel) (by decide +kernel)
set_option maxRecDepth 20000 in
theorem gX3_rawHeight_X6_at_n81 : GoodIn wsX3_rawHeight (wsX6_at) := ggX3_rawHeight_X6_at
theorem dX3_rawHeight_0 : decode cX3_rawHeight 0 = .ok (.aload_n 0, 1) := by decide +kernel
theorem dX3_rawHeight_1 : decode cX3_rawHeight 1 = .ok (.getfield 18, 3) := by decide +kernel
theorem dX3_rawHeight_4 : decode cX3_rawHeight 4 = .ok (.iload_n 1, 1) := by decide +kernel
theorem dX3_rawHeight_5 : decode cX3_rawHeight 5 = .ok (.invokestatic 81, 3) := by decide +kernel
theorem dX3_rawHeight_8 : decode cX3_rawHeight 8 = .ok (.ireturn, 1) := by decide +kernel
set_option maxRecDepth 20000 in
theorem ggX3_isGood_X6_at : GoodIn wsX3_isGood wsX6_at := goodIn_r _ [6] (by decide +kernel) (by decide +kernel)
set_option maxRecDepth 20000 in
theorem gX3_isGood_X6_at_n81 : GoodIn wsX3_isGood (wsX6_at) := ggX3_isGood_X6_at
theorem dX3_isGood_0 : decode cX3_isGood 0 = .ok (.aload_n 0, 1) := by decide +kernel
theorem dX3_isGood_1 : decode cX3_isGood 1 = .ok (.getfield 18, 3) := by decide +kernel
theorem dX3_isGood_4 : decode cX3_isGood 4 = .ok (.iload_n 1, 1) := by decide +kernel
theorem dX3_isGood_5 : decode cX3_isGood 5 = .ok (.invokestatic 81, 3) := by decide +kernel
theorem dX3_isGood_8 : decode cX3_isGood 8 = .ok (.ldc 85, 2) := by decide +kernel
theorem dX3_isGood_10 : decode cX3_isGood 10 = .ok (.if_icmp .eq 18, 3) := by decide +kernel
theorem dX3_isGood_13 : decode cX3_isGood 13 = .ok (.aload_n 0, 1) := by decide +kernel
theorem dX3_isGood_14 : decode cX3_isGood 14 = .ok (.getfield 21, 3) := by decide +kernel
theorem dX3_isGood_17 : decode cX3_isGood 17 = .ok (.iload_n 1, 1) := by decide +kernel
theorem dX3_isGood_18 : decode cX3_isGood 18 = .ok (.invokestatic 81, 3) := by decide +kernel
theorem dX3_isGood_21 : decode cX3_isGood 21 = .ok (.ifCond .ne 7, 3) := by decide +kernel
theorem dX3_isGood_24 : decode cX3_isGood 24 = .ok (.iconst 1, 1) := by decide +kernel
theorem dX3_isGood_25 : decode cX3_isGood 25 = .ok (.goto 4, 3) := by decide +kernel
theorem dX3_isGood_28 : decode cX3_isGood 28 = .ok (.iconst 0, 1) := by decide +kernel
theorem dX3_isGood_29 : decode cX3_isGood 29 = .ok (.ireturn, 1) := by decide +kernel
set_option maxRecDepth 20000 in
theorem ggX3_openLoopOf_X6_at : GoodIn wsX3_openLoopOf wsX6_at := goodIn_r _ [4] (by decide +kernel) (by decide +kernel)
set_option maxRecDepth 20000 in
theorem gX3_openLoopOf_X6_at_n81 : GoodIn wsX3_openLoopOf (wsX6_at) := ggX3_openLoopOf_X6_at
theorem dX3_openLoopOf_0 : decode cX3_openLoopOf 0 = .ok (.aload_n 0, 1) := by decide +kernel
theorem dX3_openLoopOf_1 : decode cX3_openLoopOf 1 = .ok (.getfield 24, 3) := by decide +kernel
theorem dX3_openLoopOf_4 : decode cX3_openLoopOf 4 = .ok (.iload_n 1, 1) := by decide +kernel
theorem dX3_openLoopOf_5 : decode cX3_openLoopOf 5 = .ok (.invokestatic 81, 3) := by decide +kernel
theorem dX3_openLoopOf_8 : decode cX3_openLoopOf 8 = .ok (.ireturn, 1) := by decide +kernel
set_option maxRecDepth 20000 in
theorem ggX3_correctedHeight_X6_at : GoodIn wsX3_correctedHeight wsX6_at := goodIn_r _ [4] (by decide +kernel) (by decide +kernel)
set_option maxRecDepth 20000 in
theorem gX3_correctedHeight_X6_at_n81 : GoodIn wsX3_correctedHeight (wsX6_at) := ggX3_correctedHeight_X6_at
theorem dX3_correctedHeight_0 : decode cX3_correctedHeight 0 = .ok (.aload_n 0, 1) := by decide +kernel
theorem dX3_correctedHeight_1 : decode cX3_correctedHeight 1 = .ok (.getfield 27, 3) := by decide +kernel
theorem dX3_correctedHeight_4 : decode cX3_correctedHeight 4 = .ok (.iload_n 1, 1) := by decide +kernel
theorem dX3_correctedHeight_5 : decode cX3_correctedHeight 5 = .ok (.invokestatic 81, 3) := by decide +kernel
theorem dX3_correctedHeight_8 : decode cX3_correctedHeight 8 = .ok (.ireturn, 1) := by decide +kernel
set_option maxRecDepth 20000 in
theorem ggX3_begin_X6_at : GoodIn wsX3_begin wsX6_at := goodIn_r _ [4] (by decide +kernel) (by decide +kernel)
set_option maxRecDepth 20000 in
theorem gX3_begin_X6_at_n81 : GoodIn wsX3_begin (wsX6_at) := ggX3_begin_X6_at
theorem dX3_begin_0 : decode cX3_begin 0 = .ok (.aload_n 0, 1) := by decide +kernel
theorem dX3_begin_1 : decode cX3_begin 1 = .ok (.getfield 30, 3) := by decide +kernel
theorem dX3_begin_4 : decode cX3_begin 4 = .ok (.iload_n 1, 1) := by decide +kernel
theorem dX3_begin_5 : decode cX3_begin 5 = .ok (.invokestatic 81, 3) := by decide +kernel
theorem dX3_begin_8 : decode cX3_begin 8 = .ok (.ireturn, 1) := by decide +kernel
set_option maxRecDepth 20000 in
theorem ggX3_end_X6_at : GoodIn wsX3_end wsX6_at := goodIn_r _ [4] (by decide +kernel) (by decide +kernel)
set_option maxRecDepth 20000 in
theorem gX3_end_X6_at_n81 : GoodIn wsX3_end (wsX6_at) := ggX3_end_X6_at
theorem dX3_end_0 : decode cX3_end 0 = .ok (.aload_n 0, 1) := by decide +kernel
theorem dX3_end_1 : decode cX3_end 1 = .ok (.getfield 33, 3) := by decide +kernel
theorem dX3_end_4 : decode cX3_end 4 = .ok (.iload_n 1, 1) := by decide +kernel
theorem dX3_end_5 : decode cX3_end 5 = .ok (.invokestatic 81, 3) := by decide +kernel
theorem dX3_end_8 : decode cX3_end 8 = .ok (.ireturn, 1) := by decide +kernel
set_option maxRecDepth 20000 in
theorem ggX3_minutes_X3_end : GoodIn wsX3_minutes wsX3_end := goodIn_r _ [6, 7, 8, 9, 10, 16, 17, 18, 19, 20, 21, 22, 23, 24, 25, 26, 27] (by decide +kernel) (by decide +kernel)
set_option maxRecDepth 20000 in
theorem gX3_minutes_X3_end : GoodIn wsX3_minutes (wsV RX3 86 RX3 yX3_end wsX3_end) := goodIn_app (goodIn_of _ (by decide +kernel)) ggX3_minutes_X3_end
set_option maxRecDepth 20000 in
theorem ggX3_minutes_X6_at : GoodIn wsX3_minutes wsX6_at := goodIn_r _ [10] (by decide +kernel) (by decide +kernel)
set_option maxRecDepth 20000 in
theorem gX3_minutes_X6_at_n81 : GoodIn wsX3_minutes (wsX6_at) := ggX3_minutes_X6_at
set_option maxRecDepth 20000 in
theorem ggX3_minutes_X3_begin : GoodIn wsX3_minutes wsX3_begin := goodIn_r _ [14, 15, 8, 9, 10, 16, 17, 18, 19, 20, 21, 22, 23, 24, 25, 26, 27] (by decide +kernel) (by decide +kernel)
set_option maxRecDepth 20000 in
theorem gX3_minutes_X3_begin : GoodIn wsX3_minutes (wsV RX3 89 RX3 yX3_begin wsX3_begin) := goodIn_app (goodIn_of _ (by decide +kernel)) ggX3_minutes_X3_begin
theorem dX3_minutes_0 : decode cX3_minutes 0 = .ok (.aload_n 0, 1) := by decide +kernel
theorem dX3_minutes_1 : decode cX3_minutes 1 = .ok (.getfield 9, 3) := by decide +kernel
theorem dX3_minutes_4 : decode cX3_minutes 4 = .ok (.aload_n 0, 1) := by decide +kernel
theorem dX3_minutes_5 : decode cX3_minutes 5 = .ok (.iload_n 1, 1) := by decide +kernel
theorem dX3_minutes_6 : decode cX3_minutes 6 = .ok (.invokevirtual 86, 3) := by decide +kernel
theorem dX3_minutes_9 : decode cX3_minutes 9 = .ok (.invokestatic 81, 3) := by decide +kernel
theorem dX3_minutes_12 : decode cX3_minutes 12 = .ok (.aload_n 0, 1) := by decide +kernel
theorem dX3_minutes_13 : decode cX3_minutes 13 = .ok (.getfield 9, 3) := by decide +kernel
theorem dX3_minutes_16 : decode cX3_minutes 16 = .ok (.aload_n 0, 1) := by decide +kernel
theorem dX3_minutes_17 : decode cX3_minutes 17 = .ok (.iload_n 1, 1) := by decide +kernel
theorem dX3_minutes_18 : decode cX3_minutes 18 = .ok (.invokevirtual 89, 3) := by decide +kernel
theorem dX3_minutes_21 : decode cX3_minutes 21 = .ok (.invokestatic 81, 3) := by decide +kernel
theorem dX3_minutes_24 : decode cX3_minutes 24 = .ok (.isub, 1) := by decide +kernel
theorem dX3_minutes_25 : decode cX3_minutes 25 = .ok (.ireturn, 1) := by decide +kernel
set_option maxRecDepth 20000 in
theorem ggX3_misclosure_X3_end : GoodIn wsX3_misclosure wsX3_end := goodIn_r _ [5, 6, 7, 8, 9, 20, 21, 22, 23, 24, 25, 26, 27, 28, 29, 30, 31] (by decide +kernel) (by decide +kernel)
set_option maxRecDepth 20000 in
theorem gX3_misclosure_X3_end : GoodIn wsX3_misclosure (wsV RX3 86 RX3 yX3_end wsX3_end) := goodIn_app (goodIn_of _ (by decide +kernel)) ggX3_misclosure_X3_end
set_option maxRecDepth 20000 in
theorem ggX3_misclosure_X3_rawHeight : GoodIn wsX3_misclosure wsX3_rawHeight := goodIn_r _ [13, 14, 7, 8, 9, 20, 21, 22, 23, 24, 25, 26, 27, 28, 29, 30, 31] (by decide +kernel) (by decide +kernel)
set_option maxRecDepth 20000 in
theorem gX3_misclosure_X3_rawHeight : GoodIn wsX3_misclosure (wsV RX3 92 RX3 yX3_rawHeight wsX3_rawHeight) := goodIn_app (goodIn_of _ (by decide +kernel)) ggX3_misclosure_X3_rawHeight
set_option maxRecDepth 20000 in
theorem ggX3_misclosure_X3_begin : GoodIn wsX3_misclosure wsX3_begin := goodIn_r _ [18, 19, 7, 8, 9, 20, 21, 22, 23, 24, 25, 26, 27, 28, 29, 30, 31] (by decide +kernel) (by decide +kernel)
set_option maxRecDepth 20000 in
theorem gX3_misclosure_X3_begin : GoodIn wsX3_misclosure (wsV RX3 89 RX3 yX3_begin wsX3_begin) := goodIn_app (goodIn_of _ (by decide +kernel)) ggX3_misclosure_X3_begin
theorem dX3_misclosure_0 : decode cX3_misclosure 0 = .ok (.aload_n 0, 1) := by decide +kernel
theorem dX3_misclosure_1 : decode cX3_misclosure 1 = .ok (.aload_n 0, 1) := by decide +kernel
theorem dX3_misclosure_2 : decode cX3_misclosure 2 = .ok (.iload_n 1, 1) := by decide +kernel
theorem dX3_misclosure_3 : decode cX3_misclosure 3 = .ok (.invokevirtual 86, 3) := by decide +kernel
theorem dX3_misclosure_6 : decode cX3_misclosure 6 = .ok (.invokevirtual 92, 3) := by decide +kernel
theorem dX3_misclosure_9 : decode cX3_misclosure 9 = .ok (.aload_n 0, 1) := by decide +kernel
theorem dX3_misclosure_10 : decode cX3_misclosure 10 = .ok (.aload_n 0, 1) := by decide +kernel
theorem dX3_misclosure_11 : decode cX3_misclosure 11 = .ok (.iload_n 1, 1) := by decide +kernel
theorem dX3_misclosure_12 : decode cX3_misclosure 12 = .ok (.invokevirtual 89, 3) := by decide +kernel
theorem dX3_misclosure_15 : decode cX3_misclosure 15 = .ok (.invokevirtual 92, 3) := by decide +kernel
theorem dX3_misclosure_18 : decode cX3_misclosure 18 = .ok (.isub, 1) := by decide +kernel
theorem dX3_misclosure_19 : decode cX3_misclosure 19 = .ok (.ireturn, 1) := by decide +kernel
set_option maxRecDepth 20000 in
theorem ggX3_misclosureBySteps_X3_begin : GoodIn wsX3_misclosureBySteps wsX3_begin := goodIn_r _ [6, 7, 8, 9, 10, 27, 28, 29, 30, 31, 32, 33, 34, 35, 36, 37, 38] (by decide +kernel) (by decide +kernel)
set_option maxRecDepth 20000 in
theorem gX3_misclosureBySteps_X3_begin : GoodIn wsX3_misclosureBySteps (wsV RX3 89 RX3 yX3_begin wsX3_begin) := goodIn_app (goodIn_of _ (by decide +kernel)) ggX3_misclosureBySteps_X3_begin
set_option maxRecDepth 20000 in
theorem ggX3_misclosureBySteps_X3_rawHeight : GoodIn wsX3_misclosureBySteps wsX3_rawHeight := goodIn_r _ [14, 15, 8, 9, 10, 27, 28, 29, 30, 31, 32, 33, 34, 35, 36, 37, 38] (by decide +kernel) (by decide +kernel)
set_option maxRecDepth 20000 in
theorem gX3_misclosureBySteps_X3_rawHeight : GoodIn wsX3_misclosureBySteps (wsV RX3 92 RX3 yX3_rawHeight wsX3_rawHeight) := goodIn_app (goodIn_of _ (by decide +kernel)) ggX3_misclosureBySteps_X3_rawHeight
set_option maxRecDepth 20000 in
theorem ggX3_misclosureBySteps_X3_end : GoodIn wsX3_misclosureBySteps wsX3_end := goodIn_r _ [19, 20, 8, 9, 10, 27, 28, 29, 30, 31, 32, 33, 34, 35, 36, 37, 38] (by decide +kernel) (by decide +kernel)
set_option maxRecDepth 20000 in
theorem gX3_misclosureBySteps_X3_end : GoodIn wsX3_misclosureBySteps (wsV RX3 86 RX3 yX3_end wsX3_end) := goodIn_app (goodIn_of _ (by decide +kernel)) ggX3_misclosureBySteps_X3_end
set_option maxRecDepth 20000 in
theorem ggX3_misclosureBySteps_X3_isGood : GoodIn wsX3_misclosureBySteps wsX3_isGood := goodIn_r _ [24, 15, 25, 26, 8, 9, 10, 27, 28, 29, 30, 31, 32, 33, 34, 35, 36, 37, 38] (by decide +kernel) (by decide +kernel)
set_option maxRecDepth 20000 in
theorem gX3_misclosureBySteps_X3_isGood : GoodIn wsX3_misclosureBySteps (wsV RX3 95 RX3 yX3_isGood wsX3_isGood) := goodIn_app (goodIn_of _ (by decide +kernel)) ggX3_misclosureBySteps_X3_isGood
theorem dX3_misclosureBySteps_0 : decode cX3_misclosureBySteps 0 = .ok (.iconst 0, 1) := by decide +kernel
theorem dX3_misclosureBySteps_1 : decode cX3_misclosureBySteps 1 = .ok (.istore_n 2, 1) := by decide +kernel
theorem dX3_misclosureBySteps_2 : decode cX3_misclosureBySteps 2 = .ok (.aload_n 0, 1) := by decide +kernel
theorem dX3_misclosureBySteps_3 : decode cX3_misclosureBySteps 3 = .ok (.aload_n 0, 1) := by decide +kernel
theorem dX3_misclosureBySteps_4 : decode cX3_misclosureBySteps 4 = .ok (.iload_n 1, 1) := by decide +kernel
theorem dX3_misclosureBySteps_5 : decode cX3_misclosureBySteps 5 = .ok (.invokevirtual 89, 3) := by decide +kernel
theorem dX3_misclosureBySteps_8 : decode cX3_misclosureBySteps 8 = .ok (.invokevirtual 92, 3) := by decide +kernel
theorem dX3_misclosureBySteps_11 : decode cX3_misclosureBySteps 11 = .ok (.istore_n 3, 1) := by decide +kernel
theorem dX3_misclosureBySteps_12 : decode cX3_misclosureBySteps 12 = .ok (.aload_n 0, 1) := by decide +kernel
theorem dX3_misclosureBySteps_13 : decode cX3_misclosureBySteps 13 = .ok (.iload_n 1, 1) := by decide +kernel
theorem dX3_misclosureBySteps_14 : decode cX3_misclosureBySteps 14 = .ok (.invokevirtual 89, 3) := by decide +kernel
theorem dX3_misclosureBySteps_17 : decode cX3_misclosureBySteps 17 = .ok (.iconst 1, 1) := by decide +kernel
theorem dX3_misclosureBySteps_18 : decode cX3_misclosureBySteps 18 = .ok (.iadd, 1) := by decide +kernel
theorem dX3_misclosureBySteps_19 : decode cX3_misclosureBySteps 19 = .ok (.istore 4, 2) := by decide +kernel
theorem dX3_misclosureBySteps_21 : decode cX3_misclosureBySteps 21 = .ok (.iload 4, 2) := by decide +kernel
theorem dX3_misclosureBySteps_23 : decode cX3_misclosureBySteps 23 = .ok (.aload_n 0, 1) := by decide +kernel
theorem dX3_misclosureBySteps_24 : decode cX3_misclosureBySteps 24 = .ok (.iload_n 1, 1) := by decide +kernel
theorem dX3_misclosureBySteps_25 : decode cX3_misclosureBySteps 25 = .ok (.invokevirtual 86, 3) := by decide +kernel
theorem dX3_misclosureBySteps_28 : decode cX3_misclosureBySteps 28 = .ok (.if_icmp .gt 45, 3) := by decide +kernel
theorem dX3_misclosureBySteps_31 : decode cX3_misclosureBySteps 31 = .ok (.iload 4, 2) := by decide +kernel
theorem dX3_misclosureBySteps_33 : decode cX3_misclosureBySteps 33 = .ok (.aload_n 0, 1) := by decide +kernel
theorem dX3_misclosureBySteps_34 : decode cX3_misclosureBySteps 34 = .ok (.getfield 48, 3) := by decide +kernel
theorem dX3_misclosureBySteps_37 : decode cX3_misclosureBySteps 37 = .ok (.if_icmp .ge 36, 3) := by decide +kernel
theorem dX3_misclosureBySteps_40 : decode cX3_misclosureBySteps 40 = .ok (.aload_n 0, 1) := by decide +kernel
theorem dX3_misclosureBySteps_41 : decode cX3_misclosureBySteps 41 = .ok (.iload 4, 2) := by decide +kernel
theorem dX3_misclosureBySteps_43 : decode cX3_misclosureBySteps 43 = .ok (.invokevirtual 95, 3) := by decide +kernel
theorem dX3_misclosureBySteps_46 : decode cX3_misclosureBySteps 46 = .ok (.ifCond .eq 21, 3) := by decide +kernel
theorem dX3_misclosureBySteps_49 : decode cX3_misclosureBySteps 49 = .ok (.iload_n 2, 1) := by decide +kernel
theorem dX3_misclosureBySteps_50 : decode cX3_misclosureBySteps 50 = .ok (.aload_n 0, 1) := by decide +kernel
theorem dX3_misclosureBySteps_51 : decode cX3_misclosureBySteps 51 = .ok (.iload 4, 2) := by decide +kernel
theorem dX3_misclosureBySteps_53 : decode cX3_misclosureBySteps 53 = .ok (.invokevirtual 92, 3) := by decide +kernel
theorem dX3_misclosureBySteps_56 : decode cX3_misclosureBySteps 56 = .ok (.iload_n 3, 1) := by decide +kernel
theorem dX3_misclosureBySteps_57 : decode cX3_misclosureBySteps 57 = .ok (.isub, 1) := by decide +kernel
theorem dX3_misclosureBySteps_58 : decode cX3_misclosureBySteps 58 = .ok (.iadd, 1) := by decide +kernel
theorem dX3_misclosureBySteps_59 : decode cX3_misclosureBySteps 59 = .ok (.istore_n 2, 1) := by decide +kernel
theorem dX3_misclosureBySteps_60 : decode cX3_misclosureBySteps 60 = .ok (.aload_n 0, 1) := by decide +kernel
theorem dX3_misclosureBySteps_61 : decode cX3_misclosureBySteps 61 = .ok (.iload 4, 2) := by decide +kernel
theorem dX3_misclosureBySteps_63 : decode cX3_misclosureBySteps 63 = .ok (.invokevirtual 92, 3) := by decide +kernel
theorem dX3_misclosureBySteps_66 : decode cX3_misclosureBySteps 66 = .ok (.istore_n 3, 1) := by decide +kernel
theorem dX3_misclosureBySteps_67 : decode cX3_misclosureBySteps 67 = .ok (.iinc 4 1, 3) := by decide +kernel
theorem dX3_misclosureBySteps_70 : decode cX3_misclosureBySteps 70 = .ok (.goto (-49), 3) := by decide +kernel
theorem dX3_misclosureBySteps_73 : decode cX3_misclosureBySteps 73 = .ok (.iload_n 2, 1) := by decide +kernel
theorem dX3_misclosureBySteps_74 : decode cX3_misclosureBySteps 74 = .ok (.ireturn, 1) := by decide +kernel
set_option maxRecDepth 20000 in
theorem ggX3_addTo_X3_isGood : GoodIn wsX3_addTo wsX3_isGood := goodIn_r _ [7, 8, 9, 10, 11, 12, 13, 49, 50, 51, 52, 53, 54, 55, 56, 57, 58, 59, 60] (by decide +kernel) (by decide +kernel)
set_option maxRecDepth 20000 in
theorem gX3_addTo_X3_isGood : GoodIn wsX3_addTo (wsV RX3 95 RX3 yX3_isGood wsX3_isGood) := goodIn_app (goodIn_of _ (by decide +kernel)) ggX3_addTo_X3_isGood
set_option maxRecDepth 20000 in
theorem ggX3_addTo_X6_at : GoodIn wsX3_addTo wsX6_at := goodIn_r _ [13] (by decide +kernel) (by decide +kernel)
set_option maxRecDepth 20000 in
theorem gX3_addTo_X6_at_n81 : GoodIn wsX3_addTo (wsX6_at) := ggX3_addTo_X6_at
set_option maxRecDepth 20000 in
theorem ggX3_addTo_X3_endsOpenLoop : GoodIn wsX3_addTo wsX3_endsOpenLoop := goodIn_r _ [17, 18, 19, 20, 6, 21, 22, 11, 12, 13, 23, 24, 25, 26, 27, 49, 50, 51, 52, 53, 54, 55, 56, 57, 58, 59, 60] (by decide +kernel) (by decide +kernel)
set_option maxRecDepth 20000 in
theorem gX3_addTo_X3_endsOpenLoop : GoodIn wsX3_addTo (wsV RX3 99 RX3 yX3_endsOpenLoop wsX3_endsOpenLoop) := goodIn_app (goodIn_of _ (by decide +kernel)) ggX3_addTo_X3_endsOpenLoop
set_option maxRecDepth 20000 in
theorem ggX3_addTo_X3_correctedHeight : GoodIn wsX3_addTo wsX3_correctedHeight := goodIn_r _ [31, 32, 11, 12, 13, 49, 50, 51, 52, 53, 54, 55, 56, 57, 58, 59, 60] (by decide +kernel) (by decide +kernel)
set_option maxRecDepth 20000 in
theorem gX3_addTo_X3_correctedHeight : GoodIn wsX3_addTo (wsV RX3 102 RX3 yX3_correctedHeight wsX3_correctedHeight) := goodIn_app (goodIn_of _ (by decide +kernel)) ggX3_addTo_X3_correctedHeight
set_option maxRecDepth 20000 in
theorem ggX3_addTo_X1_add : GoodIn wsX3_addTo wsX1_add := goodIn_r _ [37, 38, 39, 40, 41, 42, 43, 44, 45, 46, 47, 48, 61, 62, 63, 64] (by decide +kernel) (by decide +kernel)
set_option maxRecDepth 20000 in
theorem gX3_addTo_X1_add : GoodIn wsX3_addTo (wsV RX3 105 RX1 yX1_add wsX1_add) := goodIn_app (goodIn_of _ (by decide +kernel)) ggX3_addTo_X1_add
theorem dX3_addTo_0 : decode cX3_addTo 0 = .ok (.iconst 0, 1) := by decide +kernel
theorem dX3_addTo_1 : decode cX3_addTo 1 = .ok (.istore_n 3, 1) := by decide +kernel
theorem dX3_addTo_2 : decode cX3_addTo 2 = .ok (.iload_n 3, 1) := by decide +kernel
theorem dX3_addTo_3 : decode cX3_addTo 3 = .ok (.aload_n 0, 1) := by decide +kernel
theorem dX3_addTo_4 : decode cX3_addTo 4 = .ok (.getfield 48, 3) := by decide +kernel
theorem dX3_addTo_7 : decode cX3_addTo 7 = .ok (.if_icmp .ge 46, 3) := by decide +kernel
theorem dX3_addTo_10 : decode cX3_addTo 10 = .ok (.aload_n 0, 1) := by decide +kernel
theorem dX3_addTo_11 : decode cX3_addTo 11 = .ok (.iload_n 3, 1) := by decide +kernel
theorem dX3_addTo_12 : decode cX3_addTo 12 = .ok (.invokevirtual 95, 3) := by decide +kernel
theorem dX3_addTo_15 : decode cX3_addTo 15 = .ok (.ifCond .eq 32, 3) := by decide +kernel
theorem dX3_addTo_18 : decode cX3_addTo 18 = .ok (.aload_n 0, 1) := by decide +kernel
theorem dX3_addTo_19 : decode cX3_addTo 19 = .ok (.getfield 15, 3) := by decide +kernel
theorem dX3_addTo_22 : decode cX3_addTo 22 = .ok (.iload_n 3, 1) := by decide +kernel
theorem dX3_addTo_23 : decode cX3_addTo 23 = .ok (.invokestatic 81, 3) := by decide +kernel
theorem dX3_addTo_26 : decode cX3_addTo 26 = .ok (.iload_n 2, 1) := by decide +kernel
theorem dX3_addTo_27 : decode cX3_addTo 27 = .ok (.if_icmp .ne 20, 3) := by decide +kernel
theorem dX3_addTo_30 : decode cX3_addTo 30 = .ok (.aload_n 0, 1) := by decide +kernel
theorem dX3_addTo_31 : decode cX3_addTo 31 = .ok (.iload_n 3, 1) := by decide +kernel
theorem dX3_addTo_32 : decode cX3_addTo 32 = .ok (.invokevirtual 99, 3) := by decide +kernel
theorem dX3_addTo_35 : decode cX3_addTo 35 = .ok (.ifCond .ne 12, 3) := by decide +kernel
theorem dX3_addTo_38 : decode cX3_addTo 38 = .ok (.aload_n 1, 1) := by decide +kernel
theorem dX3_addTo_39 : decode cX3_addTo 39 = .ok (.aload_n 0, 1) := by decide +kernel
theorem dX3_addTo_40 : decode cX3_addTo 40 = .ok (.iload_n 3, 1) := by decide +kernel
theorem dX3_addTo_41 : decode cX3_addTo 41 = .ok (.invokevirtual 102, 3) := by decide +kernel
theorem dX3_addTo_44 : decode cX3_addTo 44 = .ok (.invokevirtual 105, 3) := by decide +kernel
theorem dX3_addTo_47 : decode cX3_addTo 47 = .ok (.iinc 3 1, 3) := by decide +kernel
theorem dX3_addTo_50 : decode cX3_addTo 50 = .ok (.goto (-48), 3) := by decide +kernel
theorem dX3_addTo_53 : decode cX3_addTo 53 = .ok (.return_, 1) := by decide +kernel
set_option maxRecDepth 20000 in
theorem ggX3_endsOpenLoop_X3_openLoopOf : GoodIn wsX3_endsOpenLoop wsX3_openLoopOf := goodIn_r _ [5, 6, 7, 8, 9, 15, 16, 17, 18, 19, 20, 21, 22, 23, 24, 25, 26] (by decide +kernel) (by decide +kernel)
set_option maxRecDepth 20000 in
theorem gX3_endsOpenLoop_X3_openLoopOf : GoodIn wsX3_endsOpenLoop (wsV RX3 111 RX3 yX3_openLoopOf wsX3_openLoopOf) := goodIn_app (goodIn_of _ (by decide +kernel)) ggX3_endsOpenLoop_X3_openLoopOf
set_option maxRecDepth 20000 in
theorem ggX3_endsOpenLoop_X3_end : GoodIn wsX3_endsOpenLoop wsX3_end := goodIn_r _ [13, 14, 7, 8, 9, 15, 16, 17, 18, 19, 20, 21, 22, 23, 24, 25, 26] (by decide +kernel) (by decide +kernel)
set_option maxRecDepth 20000 in
theorem gX3_endsOpenLoop_X3_end : GoodIn wsX3_endsOpenLoop (wsV RX3 86 RX3 yX3_end wsX3_end) := goodIn_app (goodIn_of _ (by decide +kernel)) ggX3_endsOpenLoop_X3_end
theorem dX3_endsOpenLoop_0 : decode cX3_endsOpenLoop 0 = .ok (.aload_n 0, 1) := by decide +kernel
theorem dX3_endsOpenLoop_1 : decode cX3_endsOpenLoop 1 = .ok (.iload_n 1, 1) := by decide +kernel
theorem dX3_endsOpenLoop_2 : decode cX3_endsOpenLoop 2 = .ok (.invokevirtual 111, 3) := by decide +kernel
theorem dX3_endsOpenLoop_5 : decode cX3_endsOpenLoop 5 = .ok (.istore_n 2, 1) := by decide +kernel
theorem dX3_endsOpenLoop_6 : decode cX3_endsOpenLoop 6 = .ok (.iload_n 2, 1) := by decide +kernel
theorem dX3_endsOpenLoop_7 : decode cX3_endsOpenLoop 7 = .ok (.iconst (-1), 1) := by decide +kernel
theorem dX3_endsOpenLoop_8 : decode cX3_endsOpenLoop 8 = .ok (.if_icmp .eq 16, 3) := by decide +kernel
theorem dX3_endsOpenLoop_11 : decode cX3_endsOpenLoop 11 = .ok (.aload_n 0, 1) := by decide +kernel
theorem dX3_endsOpenLoop_12 : decode cX3_endsOpenLoop 12 = .ok (.iload_n 2, 1) := by decide +kernel
theorem dX3_endsOpenLoop_13 : decode cX3_endsOpenLoop 13 = .ok (.invokevirtual 86, 3) := by decide +kernel
theorem dX3_endsOpenLoop_16 : decode cX3_endsOpenLoop 16 = .ok (.iload_n 1, 1) := by decide +kernel
theorem dX3_endsOpenLoop_17 : decode cX3_endsOpenLoop 17 = .ok (.if_icmp .ne 7, 3) := by decide +kernel
theorem dX3_endsOpenLoop_20 : decode cX3_endsOpenLoop 20 = .ok (.iconst 1, 1) := by decide +kernel
theorem dX3_endsOpenLoop_21 : decode cX3_endsOpenLoop 21 = .ok (.goto 4, 3) := by decide +kernel
theorem dX3_endsOpenLoop_24 : decode cX3_endsOpenLoop 24 = .ok (.iconst 0, 1) := by decide +kernel
theorem dX3_endsOpenLoop_25 : decode cX3_endsOpenLoop 25 = .ok (.ireturn, 1) := by decide +kernel
set_option maxRecDepth 20000 in
theorem ggX3_countKinds_X3_isGust : GoodIn wsX3_countKinds wsX3_isGust := goodIn_r _ [8, 9, 10, 11, 12, 19, 20, 21, 22, 23, 24, 25, 26, 27, 28, 29, 30] (by decide +kernel) (by decide +kernel)
set_option maxRecDepth 20000 in
theorem gX3_countKinds_X3_isGust : GoodIn wsX3_countKinds (wsV RX3 120 RX3 yX3_isGust wsX3_isGust) := goodIn_app (goodIn_of _ (by decide +kernel)) ggX3_countKinds_X3_isGust
set_option maxRecDepth 20000 in
theorem ggX3_countKinds_X3_isGood : GoodIn wsX3_countKinds wsX3_isGood := goodIn_r _ [16, 17, 18, 9, 10, 11, 12, 19, 20, 21, 22, 23, 24, 25, 26, 27, 28, 29, 30] (by decide +kernel) (by decide +kernel)
set_option maxRecDepth 20000 in
theorem gX3_countKinds_X3_isGood : GoodIn wsX3_countKinds (wsV RX3 95 RX3 yX3_isGood wsX3_isGood) := goodIn_app (goodIn_of _ (by decide +kernel)) ggX3_countKinds_X3_isGood
theorem dX3_countKinds_0 : decode cX3_countKinds 0 = .ok (.aload_n 0, 1) := by decide +kernel
theorem dX3_countKinds_1 : decode cX3_countKinds 1 = .ok (.iconst 0, 1) := by decide +kernel
theorem dX3_countKinds_2 : decode cX3_countKinds 2 = .ok (.putfield 114, 3) := by decide +kernel
theorem dX3_countKinds_5 : decode cX3_countKinds 5 = .ok (.aload_n 0, 1) := by decide +kernel
theorem dX3_countKinds_6 : decode cX3_countKinds 6 = .ok (.iconst 0, 1) := by decide +kernel
theorem dX3_countKinds_7 : decode cX3_countKinds 7 = .ok (.putfield 117, 3) := by decide +kernel
theorem dX3_countKinds_10 : decode cX3_countKinds 10 = .ok (.iconst 0, 1) := by decide +kernel
theorem dX3_countKinds_11 : decode cX3_countKinds 11 = .ok (.istore_n 1, 1) := by decide +kernel
theorem dX3_countKinds_12 : decode cX3_countKinds 12 = .ok (.iload_n 1, 1) := by decide +kernel
theorem dX3_countKinds_13 : decode cX3_countKinds 13 = .ok (.aload_n 0, 1) := by decide +kernel
theorem dX3_countKinds_14 : decode cX3_countKinds 14 = .ok (.getfield 48, 3) := by decide +kernel
theorem dX3_countKinds_17 : decode cX3_countKinds 17 = .ok (.if_icmp .ge 53, 3) := by decide +kernel
theorem dX3_countKinds_20 : decode cX3_countKinds 20 = .ok (.aload_n 0, 1) := by decide +kernel
theorem dX3_countKinds_21 : decode cX3_countKinds 21 = .ok (.dup, 1) := by decide +kernel
theorem dX3_countKinds_22 : decode cX3_countKinds 22 = .ok (.getfield 114, 3) := by decide +kernel
theorem dX3_countKinds_25 : decode cX3_countKinds 25 = .ok (.aload_n 0, 1) := by decide +kernel
theorem dX3_countKinds_26 : decode cX3_countKinds 26 = .ok (.iload_n 1, 1) := by decide +kernel
theorem dX3_countKinds_27 : decode cX3_countKinds 27 = .ok (.invokevirtual 120, 3) := by decide +kernel
theorem dX3_countKinds_30 : decode cX3_countKinds 30 = .ok (.ifCond .eq 7, 3) := by decide +kernel
theorem dX3_countKinds_33 : decode cX3_countKinds 33 = .ok (.iconst 1, 1) := by decide +kernel
theorem dX3_countKinds_34 : decode cX3_countKinds 34 = .ok (.goto 4, 3) := by decide +kernel
theorem dX3_countKinds_37 : decode cX3_countKinds 37 = .ok (.iconst 0, 1) := by decide +kernel
theorem dX3_countKinds_38 : decode cX3_countKinds 38 = .ok (.iadd, 1) := by decide +kernel
theorem dX3_countKinds_39 : decode cX3_countKinds 39 = .ok (.putfield 114, 3) := by decide +kernel
theorem dX3_countKinds_42 : decode cX3_countKinds 42 = .ok (.aload_n 0, 1) := by decide +kernel
theorem dX3_countKinds_43 : decode cX3_countKinds 43 = .ok (.dup, 1) := by decide +kernel
theorem dX3_countKinds_44 : decode cX3_countKinds 44 = .ok (.getfield 117, 3) := by decide +kernel
theorem dX3_countKinds_47 : decode cX3_countKinds 47 = .ok (.aload_n 0, 1) := by decide +kernel
theorem dX3_countKinds_48 : decode cX3_countKinds 48 = .ok (.iload_n 1, 1) := by decide +kernel
theorem dX3_countKinds_49 : decode cX3_countKinds 49 = .ok (.invokevirtual 95, 3) := by decide +kernel
theorem dX3_countKinds_52 : decode cX3_countKinds 52 = .ok (.ifCond .eq 7, 3) := by decide +kernel
theorem dX3_countKinds_55 : decode cX3_countKinds 55 = .ok (.iconst 1, 1) := by decide +kernel
theorem dX3_countKinds_56 : decode cX3_countKinds 56 = .ok (.goto 4, 3) := by decide +kernel
theorem dX3_countKinds_59 : decode cX3_countKinds 59 = .ok (.iconst 0, 1) := by decide +kernel
theorem dX3_countKinds_60 : decode cX3_countKinds 60 = .ok (.iadd, 1) := by decide +kernel
theorem dX3_countKinds_61 : decode cX3_countKinds 61 = .ok (.putfield 117, 3) := by decide +kernel
theorem dX3_countKinds_64 : decode cX3_countKinds 64 = .ok (.iinc 1 1, 3) := by decide +kernel
theorem dX3_countKinds_67 : decode cX3_countKinds 67 = .ok (.goto (-55), 3) := by decide +kernel
theorem dX3_countKinds_70 : decode cX3_countKinds 70 = .ok (.return_, 1) := by decide +kernel
set_option maxRecDepth 20000 in
theorem ggX3_findLoops_X3_isGood : GoodIn wsX3_findLoops wsX3_isGood := goodIn_r _ [9, 10, 11, 12, 13, 14, 15, 23, 24, 25, 26, 27, 28, 29, 30, 31, 32, 33, 34] (by decide +kernel) (by decide +kernel)
set_option maxRecDepth 20000 in
theorem gX3_findLoops_X3_isGood : GoodIn wsX3_findLoops (wsV RX3 95 RX3 yX3_isGood wsX3_isGood) := goodIn_app (goodIn_of _ (by decide +kernel)) ggX3_findLoops_X3_isGood
set_option maxRecDepth 20000 in
theorem ggX3_findLoops_X3_lastVisit : GoodIn wsX3_findLoops wsX3_lastVisit := goodIn_r _ [19, 20, 13, 14, 15, 5, 6, 7, 8, 9, 10, 11, 12, 23, 24, 25, 26, 27, 28, 29, 30, 31, 32, 33, 34] (by decide +kernel) (by decide +kernel)
set_option maxRecDepth 20000 in
theorem gX3_findLoops_X3_lastVisit : GoodIn wsX3_findLoops (wsV RX3 126 RX3 yX3_lastVisit wsX3_lastVisit) := goodIn_app (goodIn_of _ (by decide +kernel)) ggX3_findLoops_X3_lastVisit
set_option maxRecDepth 20000 in
theorem ggX3_findLoops_X6_put : GoodIn wsX3_findLoops wsX6_put := goodIn_r _ [22] (by decide +kernel) (by decide +kernel)
set_option maxRecDepth 20000 in
theorem gX3_findLoops_X6_put_n53 : GoodIn wsX3_findLoops (wsX6_put) := ggX3_findLoops_X6_put
theorem dX3_findLoops_0 : decode cX3_findLoops 0 = .ok (.aload_n 0, 1) := by decide +kernel
theorem dX3_findLoops_1 : decode cX3_findLoops 1 = .ok (.iconst 0, 1) := by decide +kernel
theorem dX3_findLoops_2 : decode cX3_findLoops 2 = .ok (.putfield 123, 3) := by decide +kernel
theorem dX3_findLoops_5 : decode cX3_findLoops 5 = .ok (.iconst 0, 1) := by decide +kernel
theorem dX3_findLoops_6 : decode cX3_findLoops 6 = .ok (.istore_n 1, 1) := by decide +kernel
theorem dX3_findLoops_7 : decode cX3_findLoops 7 = .ok (.iload_n 1, 1) := by decide +kernel
theorem dX3_findLoops_8 : decode cX3_findLoops 8 = .ok (.aload_n 0, 1) := by decide +kernel
theorem dX3_findLoops_9 : decode cX3_findLoops 9 = .ok (.getfield 48, 3) := by decide +kernel
theorem dX3_findLoops_12 : decode cX3_findLoops 12 = .ok (.if_icmp .ge 66, 3) := by decide +kernel
theorem dX3_findLoops_15 : decode cX3_findLoops 15 = .ok (.aload_n 0, 1) := by decide +kernel
theorem dX3_findLoops_16 : decode cX3_findLoops 16 = .ok (.iload_n 1, 1) := by decide +kernel
theorem dX3_findLoops_17 : decode cX3_findLoops 17 = .ok (.invokevirtual 95, 3) := by decide +kernel
theorem dX3_findLoops_20 : decode cX3_findLoops 20 = .ok (.ifCond .eq 11, 3) := by decide +kernel
theorem dX3_findLoops_23 : decode cX3_findLoops 23 = .ok (.aload_n 0, 1) := by decide +kernel
theorem dX3_findLoops_24 : decode cX3_findLoops 24 = .ok (.iload_n 1, 1) := by decide +kernel
theorem dX3_findLoops_25 : decode cX3_findLoops 25 = .ok (.invokevirtual 126, 3) := by decide +kernel
theorem dX3_findLoops_28 : decode cX3_findLoops 28 = .ok (.goto 4, 3) := by decide +kernel
theorem dX3_findLoops_31 : decode cX3_findLoops 31 = .ok (.iconst (-1), 1) := by decide +kernel
theorem dX3_findLoops_32 : decode cX3_findLoops 32 = .ok (.istore_n 2, 1) := by decide +kernel
theorem dX3_findLoops_33 : decode cX3_findLoops 33 = .ok (.iload_n 2, 1) := by decide +kernel
theorem dX3_findLoops_34 : decode cX3_findLoops 34 = .ok (.iconst (-1), 1) := by decide +kernel
theorem dX3_findLoops_35 : decode cX3_findLoops 35 = .ok (.if_icmp .eq 37, 3) := by decide +kernel
theorem dX3_findLoops_38 : decode cX3_findLoops 38 = .ok (.aload_n 0, 1) := by decide +kernel
theorem dX3_findLoops_39 : decode cX3_findLoops 39 = .ok (.getfield 30, 3) := by decide +kernel
theorem dX3_findLoops_42 : decode cX3_findLoops 42 = .ok (.aload_n 0, 1) := by decide +kernel
theorem dX3_findLoops_43 : decode cX3_findLoops 43 = .ok (.getfield 123, 3) := by decide +kernel
theorem dX3_findLoops_46 : decode cX3_findLoops 46 = .ok (.iload_n 2, 1) := by decide +kernel
theorem dX3_findLoops_47 : decode cX3_findLoops 47 = .ok (.invokestatic 53, 3) := by decide +kernel
theorem dX3_findLoops_50 : decode cX3_findLoops 50 = .ok (.aload_n 0, 1) := by decide +kernel
theorem dX3_findLoops_51 : decode cX3_findLoops 51 = .ok (.getfield 33, 3) := by decide +kernel
theorem dX3_findLoops_54 : decode cX3_findLoops 54 = .ok (.aload_n 0, 1) := by decide +kernel
theorem dX3_findLoops_55 : decode cX3_findLoops 55 = .ok (.getfield 123, 3) := by decide +kernel
theorem dX3_findLoops_58 : decode cX3_findLoops 58 = .ok (.iload_n 1, 1) := by decide +kernel
theorem dX3_findLoops_59 : decode cX3_findLoops 59 = .ok (.invokestatic 53, 3) := by decide +kernel
theorem dX3_findLoops_62 : decode cX3_findLoops 62 = .ok (.aload_n 0, 1) := by decide +kernel
theorem dX3_findLoops_63 : decode cX3_findLoops 63 = .ok (.dup, 1) := by decide +kernel
theorem dX3_findLoops_64 : decode cX3_findLoops 64 = .ok (.getfield 123, 3) := by decide +kernel
theorem dX3_findLoops_67 : decode cX3_findLoops 67 = .ok (.iconst 1, 1) := by decide +kernel
theorem dX3_findLoops_68 : decode cX3_findLoops 68 = .ok (.iadd, 1) := by decide +kernel
theorem dX3_findLoops_69 : decode cX3_findLoops 69 = .ok (.putfield 123, 3) := by decide +kernel
theorem dX3_findLoops_72 : decode cX3_findLoops 72 = .ok (.iinc 1 1, 3) := by decide +kernel
theorem dX3_findLoops_75 : decode cX3_findLoops 75 = .ok (.goto (-68), 3) := by decide +kernel
theorem dX3_findLoops_78 : decode cX3_findLoops 78 = .ok (.return_, 1) := by decide +kernel
set_option maxRecDepth 20000 in
theorem ggX3_lastVisit_X6_at : GoodIn wsX3_lastVisit wsX6_at := goodIn_r _ [4] (by decide +kernel) (by decide +kernel)
set_option maxRecDepth 20000 in
theorem gX3_lastVisit_X6_at_n81 : GoodIn wsX3_lastVisit (wsX6_at) := ggX3_lastVisit_X6_at
set_option maxRecDepth 20000 in
theorem ggX3_lastVisit_X3_isGood : GoodIn wsX3_lastVisit wsX3_isGood := goodIn_r _ [9, 10, 11, 12, 2, 3, 4, 13, 14, 15, 16, 17, 18, 19, 20, 21, 22, 23, 24] (by decide +kernel) (by decide +kernel)
set_option maxRecDepth 20000 in
theorem gX3_lastVisit_X3_isGood : GoodIn wsX3_lastVisit (wsV RX3 95 RX3 yX3_isGood wsX3_isGood) := goodIn_app (goodIn_of _ (by decide +kernel)) ggX3_lastVisit_X3_isGood
theorem dX3_lastVisit_0 : decode cX3_lastVisit 0 = .ok (.aload_n 0, 1) := by decide +kernel
theorem dX3_lastVisit_1 : decode cX3_lastVisit 1 = .ok (.getfield 15, 3) := by decide +kernel
theorem dX3_lastVisit_4 : decode cX3_lastVisit 4 = .ok (.iload_n 1, 1) := by decide +kernel
theorem dX3_lastVisit_5 : decode cX3_lastVisit 5 = .ok (.invokestatic 81, 3) := by decide +kernel
theorem dX3_lastVisit_8 : decode cX3_lastVisit 8 = .ok (.istore_n 2, 1) := by decide +kernel
theorem dX3_lastVisit_9 : decode cX3_lastVisit 9 = .ok (.iload_n 1, 1) := by decide +kernel
theorem dX3_lastVisit_10 : decode cX3_lastVisit 10 = .ok (.iconst 1, 1) := by decide +kernel
theorem dX3_lastVisit_11 : decode cX3_lastVisit 11 = .ok (.isub, 1) := by decide +kernel
theorem dX3_lastVisit_12 : decode cX3_lastVisit 12 = .ok (.istore_n 3, 1) := by decide +kernel
theorem dX3_lastVisit_13 : decode cX3_lastVisit 13 = .ok (.iload_n 3, 1) := by decide +kernel
theorem dX3_lastVisit_14 : decode cX3_lastVisit 14 = .ok (.ifCond .lt 31, 3) := by decide +kernel
theorem dX3_lastVisit_17 : decode cX3_lastVisit 17 = .ok (.aload_n 0, 1) := by decide +kernel
theorem dX3_lastVisit_18 : decode cX3_lastVisit 18 = .ok (.iload_n 3, 1) := by decide +kernel
theorem dX3_lastVisit_19 : decode cX3_lastVisit 19 = .ok (.invokevirtual 95, 3) := by decide +kernel
theorem dX3_lastVisit_22 : decode cX3_lastVisit 22 = .ok (.ifCond .eq 17, 3) := by decide +kernel
theorem dX3_lastVisit_25 : decode cX3_lastVisit 25 = .ok (.aload_n 0, 1) := by decide +kernel
theorem dX3_lastVisit_26 : decode cX3_lastVisit 26 = .ok (.getfield 15, 3) := by decide +kernel
theorem dX3_lastVisit_29 : decode cX3_lastVisit 29 = .ok (.iload_n 3, 1) := by decide +kernel
theorem dX3_lastVisit_30 : decode cX3_lastVisit 30 = .ok (.invokestatic 81, 3) := by decide +kernel
theorem dX3_lastVisit_33 : decode cX3_lastVisit 33 = .ok (.iload_n 2, 1) := by decide +kernel
theorem dX3_lastVisit_34 : decode cX3_lastVisit 34 = .ok (.if_icmp .ne 5, 3) := by decide +kernel
theorem dX3_lastVisit_37 : decode cX3_lastVisit 37 = .ok (.iload_n 3, 1) := by decide +kernel
theorem dX3_lastVisit_38 : decode cX3_lastVisit 38 = .ok (.ireturn, 1) := by decide +kernel
theorem dX3_lastVisit_39 : decode cX3_lastVisit 39 = .ok (.iinc 3 (-1), 3) := by decide +kernel
theorem dX3_lastVisit_42 : decode cX3_lastVisit 42 = .ok (.goto (-29), 3) := by decide +kernel
theorem dX3_lastVisit_45 : decode cX3_lastVisit 45 = .ok (.iconst (-1), 1) := by decide +kernel
theorem dX3_lastVisit_46 : decode cX3_lastVisit 46 = .ok (.ireturn, 1) := by decide +kernel
set_option maxRecDepth 20000 in
theorem ggX3_shortestLoop_X3_isGood : GoodIn wsX3_shortestLoop wsX3_isGood := goodIn_r _ [6, 7, 8, 9, 10, 11, 12, 28, 29, 30, 31, 32, 33, 34, 35, 36, 37, 38, 39] (by decide +kernel) (by decide +kernel)
set_option maxRecDepth 20000 in
theorem gX3_shortestLoop_X3_isGood : GoodIn wsX3_shortestLoop (wsV RX3 95 RX3 yX3_isGood wsX3_isGood) := goodIn_app (goodIn_of _ (by decide +kernel)) ggX3_shortestLoop_X3_isGood
set_option maxRecDepth 20000 in
theorem ggX3_shortestLoop_X3_begin : GoodIn wsX3_shortestLoop wsX3_begin := goodIn_r _ [16, 17, 10, 11, 12, 28, 29, 30, 31, 32, 33, 34, 35, 36, 37, 38, 39] (by decide +kernel) (by decide +kernel)
set_option maxRecDepth 20000 in
theorem gX3_shortestLoop_X3_begin : GoodIn wsX3_shortestLoop (wsV RX3 89 RX3 yX3_begin wsX3_begin) := goodIn_app (goodIn_of _ (by decide +kernel)) ggX3_shortestLoop_X3_begin
set_option maxRecDepth 20000 in
theorem ggX3_shortestLoop_X3_end : GoodIn wsX3_shortestLoop wsX3_end := goodIn_r _ [21, 22, 10, 11, 12, 28, 29, 30, 31, 32, 33, 34, 35, 36, 37, 38, 39] (by decide +kernel) (by decide +kernel)
set_option maxRecDepth 20000 in
theorem gX3_shortestLoop_X3_end : GoodIn wsX3_shortestLoop (wsV RX3 86 RX3 yX3_end wsX3_end) := goodIn_app (goodIn_of _ (by decide +kernel)) ggX3_shortestLoop_X3_end
set_option maxRecDepth 20000 in
theorem ggX3_shortestLoop_X3_minutes : GoodIn wsX3_shortestLoop wsX3_minutes := goodIn_r _ [26, 27, 18, 19, 20, 5, 21, 22, 10, 11, 12, 13, 14, 15, 16, 17, 28, 29, 30, 31, 32, 33, 34, 35, 36, 37, 38, 39] (by decide +kernel) (by decide +kernel)
set_option maxRecDepth 20000 in
theorem gX3_shortestLoop_X3_minutes : GoodIn wsX3_shortestLoop (wsV RX3 129 RX3 yX3_minutes wsX3_minutes) := goodIn_app (goodIn_of _ (by decide +kernel)) ggX3_shortestLoop_X3_minutes
theorem dX3_shortestLoop_0 : decode cX3_shortestLoop 0 = .ok (.iconst (-1), 1) := by decide +kernel
theorem dX3_shortestLoop_1 : decode cX3_shortestLoop 1 = .ok (.istore_n 2, 1) := by decide +kernel
theorem dX3_shortestLoop_2 : decode cX3_shortestLoop 2 = .ok (.aload_n 0, 1) := by decide +kernel
theorem dX3_shortestLoop_3 : decode cX3_shortestLoop 3 = .ok (.iload_n 1, 1) := by decide +kernel
theorem dX3_shortestLoop_4 : decode cX3_shortestLoop 4 = .ok (.invokevirtual 95, 3) := by decide +kernel
theorem dX3_shortestLoop_7 : decode cX3_shortestLoop 7 = .ok (.ifCond .ne 5, 3) := by decide +kernel
theorem dX3_shortestLoop_10 : decode cX3_shortestLoop 10 = .ok (.iconst (-1), 1) := by decide +kernel
theorem dX3_shortestLoop_11 : decode cX3_shortestLoop 11 = .ok (.ireturn, 1) := by decide +kernel
theorem dX3_shortestLoop_12 : decode cX3_shortestLoop 12 = .ok (.iconst 0, 1) := by decide +kernel
theorem dX3_shortestLoop_13 : decode cX3_shortestLoop 13 = .ok (.istore_n 3, 1) := by decide +kernel
theorem dX3_shortestLoop_14 : decode cX3_shortestLoop 14 = .ok (.iload_n 3, 1) := by decide +kernel
theorem dX3_shortestLoop_15 : decode cX3_shortestLoop 15 = .ok (.aload_n 0, 1) := by decide +kernel
theorem dX3_shortestLoop_16 : decode cX3_shortestLoop 16 = .ok (.getfield 123, 3) := by decide +kernel
theorem dX3_shortestLoop_19 : decode cX3_shortestLoop 19 = .ok (.if_icmp .ge 59, 3) := by decide +kernel
theorem dX3_shortestLoop_22 : decode cX3_shortestLoop 22 = .ok (.aload_n 0, 1) := by decide +kernel
theorem dX3_shortestLoop_23 : decode cX3_shortestLoop 23 = .ok (.iload_n 3, 1) := by decide +kernel
theorem dX3_shortestLoop_24 : decode cX3_shortestLoop 24 = .ok (.invokevirtual 89, 3) := by decide +kernel
theorem dX3_shortestLoop_27 : decode cX3_shortestLoop 27 = .ok (.iload_n 1, 1) := by decide +kernel
theorem dX3_shortestLoop_28 : decode cX3_shortestLoop 28 = .ok (.if_icmp .gt 16, 3) := by decide +kernel
theorem dX3_shortestLoop_31 : decode cX3_shortestLoop 31 = .ok (.iload_n 1, 1) := by decide +kernel
theorem dX3_shortestLoop_32 : decode cX3_shortestLoop 32 = .ok (.aload_n 0, 1) := by decide +kernel
theorem dX3_shortestLoop_33 : decode cX3_shortestLoop 33 = .ok (.iload_n 3, 1) := by decide +kernel
theorem dX3_shortestLoop_34 : decode cX3_shortestLoop 34 = .ok (.invokevirtual 86, 3) := by decide +kernel
theorem dX3_shortestLoop_37 : decode cX3_shortestLoop 37 = .ok (.if_icmp .gt 7, 3) := by decide +kernel
theorem dX3_shortestLoop_40 : decode cX3_shortestLoop 40 = .ok (.iconst 1, 1) := by decide +kernel
theorem dX3_shortestLoop_41 : decode cX3_shortestLoop 41 = .ok (.goto 4, 3) := by decide +kernel
theorem dX3_shortestLoop_44 : decode cX3_shortestLoop 44 = .ok (.iconst 0, 1) := by decide +kernel
theorem dX3_shortestLoop_45 : decode cX3_shortestLoop 45 = .ok (.istore 4, 2) := by decide +kernel
theorem dX3_shortestLoop_47 : decode cX3_shortestLoop 47 = .ok (.iload 4, 2) := by decide +kernel
theorem dX3_shortestLoop_49 : decode cX3_shortestLoop 49 = .ok (.ifCond .eq 23, 3) := by decide +kernel
theorem dX3_shortestLoop_52 : decode cX3_shortestLoop 52 = .ok (.iload_n 2, 1) := by decide +kernel
theorem dX3_shortestLoop_53 : decode cX3_shortestLoop 53 = .ok (.iconst (-1), 1) := by decide +kernel
theorem dX3_shortestLoop_54 : decode cX3_shortestLoop 54 = .ok (.if_icmp .eq 16, 3) := by decide +kernel
theorem dX3_shortestLoop_57 : decode cX3_shortestLoop 57 = .ok (.aload_n 0, 1) := by decide +kernel
theorem dX3_shortestLoop_58 : decode cX3_shortestLoop 58 = .ok (.iload_n 3, 1) := by decide +kernel
theorem dX3_shortestLoop_59 : decode cX3_shortestLoop 59 = .ok (.invokevirtual 129, 3) := by decide +kernel
theorem dX3_shortestLoop_62 : decode cX3_shortestLoop 62 = .ok (.aload_n 0, 1) := by decide +kernel
theorem dX3_shortestLoop_63 : decode cX3_shortestLoop 63 = .ok (.iload_n 2, 1) := by decide +kernel
theorem dX3_shortestLoop_64 : decode cX3_shortestLoop 64 = .ok (.invokevirtual 129, 3) := by decide +kernel
theorem dX3_shortestLoop_67 : decode cX3_shortestLoop 67 = .ok (.if_icmp .ge 5, 3) := by decide +kernel
theorem dX3_shortestLoop_70 : decode cX3_shortestLoop 70 = .ok (.iload_n 3, 1) := by decide +kernel
theorem dX3_shortestLoop_71 : decode cX3_shortestLoop 71 = .ok (.istore_n 2, 1) := by decide +kernel
theorem dX3_shortestLoop_72 : decode cX3_shortestLoop 72 = .ok (.iinc 3 1, 3) := by decide +kernel
theorem dX3_shortestLoop_75 : decode cX3_shortestLoop 75 = .ok (.goto (-61), 3) := by decide +kernel
theorem dX3_shortestLoop_78 : decode cX3_shortestLoop 78 = .ok (.iload_n 2, 1) := by decide +kernel
theorem dX3_shortestLoop_79 : decode cX3_shortestLoop 79 = .ok (.ireturn, 1) := by decide +kernel
set_option maxRecDepth 20000 in
theorem ggX3_withoutDrift_X3_isGood : GoodIn wsX3_withoutDrift wsX3_isGood := goodIn_r _ [7, 8, 1, 9, 10, 11, 12, 46, 47, 48, 49, 50, 51, 52, 53, 54, 55, 56, 57] (by decide +kernel) (by decide +kernel)
set_option maxRecDepth 20000 in
theorem gX3_withoutDrift_X3_isGood : GoodIn wsX3_withoutDrift (wsV RX3 95 RX3 yX3_isGood wsX3_isGood) := goodIn_app (goodIn_of _ (by decide +kernel)) ggX3_withoutDrift_X3_isGood
set_option maxRecDepth 20000 in
theorem ggX3_withoutDrift_X3_openLoopOf : GoodIn wsX3_withoutDrift wsX3_openLoopOf := goodIn_r _ [16, 17, 10, 11, 12, 46, 47, 48, 49, 50, 51, 52, 53, 54, 55, 56, 57] (by decide +kernel) (by decide +kernel)
set_option maxRecDepth 20000 in
theorem gX3_withoutDrift_X3_openLoopOf : GoodIn wsX3_withoutDrift (wsV RX3 111 RX3 yX3_openLoopOf wsX3_openLoopOf) := goodIn_app (goodIn_of _ (by decide +kernel)) ggX3_withoutDrift_X3_openLoopOf
set_option maxRecDepth 20000 in
theorem ggX3_withoutDrift_X3_rawHeight : GoodIn wsX3_withoutDrift wsX3_rawHeight := goodIn_r _ [21, 8, 10, 11, 12, 46, 47, 48, 49, 50, 51, 52, 53, 54, 55, 56, 57] (by decide +kernel) (by decide +kernel)
set_option maxRecDepth 20000 in
theorem gX3_withoutDrift_X3_rawHeight : GoodIn wsX3_withoutDrift (wsV RX3 92 RX3 yX3_rawHeight wsX3_rawHeight) := goodIn_app (goodIn_of _ (by decide +kernel)) ggX3_withoutDrift_X3_rawHeight
set_option maxRecDepth 20000 in
theorem ggX3_withoutDrift_X6_at : GoodIn wsX3_withoutDrift wsX6_at := goodIn_r _ [12] (by decide +kernel) (by decide +kernel)
set_option maxRecDepth 20000 in
theorem gX3_withoutDrift_X6_at_n81 : GoodIn wsX3_withoutDrift (wsX6_at) := ggX3_withoutDrift_X6_at
set_option maxRecDepth 20000 in
theorem ggX3_withoutDrift_X3_begin : GoodIn wsX3_withoutDrift wsX3_begin := goodIn_r _ [25, 26, 10, 11, 12, 46, 47, 48, 49, 50, 51, 52, 53, 54, 55, 56, 57] (by decide +kernel) (by decide +kernel)
set_option maxRecDepth 20000 in
theorem gX3_withoutDrift_X3_begin : GoodIn wsX3_withoutDrift (wsV RX3 89 RX3 yX3_begin wsX3_begin) := goodIn_app (goodIn_of _ (by decide +kernel)) ggX3_withoutDrift_X3_begin
set_option maxRecDepth 20000 in
theorem ggX3_withoutDrift_X3_misclosure : GoodIn wsX3_withoutDrift wsX3_misclosure := goodIn_r _ [30, 31, 32, 33, 6, 34, 35, 10, 11, 12, 18, 19, 20, 21, 8, 22, 23, 24, 25, 26, 46, 47, 48, 49, 50, 51, 52, 53, 54, 55, 56, 57] (by decide +kernel) (by decide +kernel)
set_option maxRecDepth 20000 in
theorem gX3_withoutDrift_X3_misclosure : GoodIn wsX3_withoutDrift (wsV RX3 132 RX3 yX3_misclosure wsX3_misclosure) := goodIn_app (goodIn_of _ (by decide +kernel)) ggX3_withoutDrift_X3_misclosure
set_option maxRecDepth 20000 in
theorem ggX3_withoutDrift_X3_minutes : GoodIn wsX3_withoutDrift wsX3_minutes := goodIn_r _ [39, 2, 31, 32, 33, 6, 34, 35, 10, 11, 12, 22, 23, 24, 25, 26, 46, 47, 48, 49, 50, 51, 52, 53, 54, 55, 56, 57] (by decide +kernel) (by decide +kernel)
set_option maxRecDepth 20000 in
theorem gX3_withoutDrift_X3_minutes : GoodIn wsX3_withoutDrift (wsV RX3 129 RX3 yX3_minutes wsX3_minutes) := goodIn_app (goodIn_of _ (by decide +kernel)) ggX3_withoutDrift_X3_minutes
set_option maxRecDepth 20000 in
theorem ggX3_withoutDrift_X6_divideDown : GoodIn wsX3_withoutDrift wsX6_divideDown := goodIn_r _ [41, 42, 43, 44, 45] (by decide +kernel) (by decide +kernel)
set_option maxRecDepth 20000 in
theorem gX3_withoutDrift_X6_divideDown_n135 : GoodIn wsX3_withoutDrift (wsX6_divideDown) := ggX3_withoutDrift_X6_divideDown
theorem dX3_withoutDrift_0 : decode cX3_withoutDrift 0 = .ok (.aload_n 0, 1) := by decide +kernel
theorem dX3_withoutDrift_1 : decode cX3_withoutDrift 1 = .ok (.iload_n 1, 1) := by decide +kernel
theorem dX3_withoutDrift_2 : decode cX3_withoutDrift 2 = .ok (.invokevirtual 95, 3) := by decide +kernel
theorem dX3_withoutDrift_5 : decode cX3_withoutDrift 5 = .ok (.ifCond .ne 6, 3) := by decide +kernel
theorem dX3_withoutDrift_8 : decode cX3_withoutDrift 8 = .ok (.ldc 85, 2) := by decide +kernel
theorem dX3_withoutDrift_10 : decode cX3_withoutDrift 10 = .ok (.ireturn, 1) := by decide +kernel
theorem dX3_withoutDrift_11 : decode cX3_withoutDrift 11 = .ok (.aload_n 0, 1) := by decide +kernel
theorem dX3_withoutDrift_12 : decode cX3_withoutDrift 12 = .ok (.iload_n 1, 1) := by decide +kernel
theorem dX3_withoutDrift_13 : decode cX3_withoutDrift 13 = .ok (.invokevirtual 111, 3) := by decide +kernel
theorem dX3_withoutDrift_16 : decode cX3_withoutDrift 16 = .ok (.istore_n 2, 1) := by decide +kernel
theorem dX3_withoutDrift_17 : decode cX3_withoutDrift 17 = .ok (.iload_n 2, 1) := by decide +kernel
theorem dX3_withoutDrift_18 : decode cX3_withoutDrift 18 = .ok (.iconst (-1), 1) := by decide +kernel
theorem dX3_withoutDrift_19 : decode cX3_withoutDrift 19 = .ok (.if_icmp .ne 9, 3) := by decide +kernel
theorem dX3_withoutDrift_22 : decode cX3_withoutDrift 22 = .ok (.aload_n 0, 1) := by decide +kernel
theorem dX3_withoutDrift_23 : decode cX3_withoutDrift 23 = .ok (.iload_n 1, 1) := by decide +kernel
theorem dX3_withoutDrift_24 : decode cX3_withoutDrift 24 = .ok (.invokevirtual 92, 3) := by decide +kernel
theorem dX3_withoutDrift_27 : decode cX3_withoutDrift 27 = .ok (.ireturn, 1) := by decide +kernel
theorem dX3_withoutDrift_28 : decode cX3_withoutDrift 28 = .ok (.aload_n 0, 1) := by decide +kernel
theorem dX3_withoutDrift_29 : decode cX3_withoutDrift 29 = .ok (.getfield 9, 3) := by decide +kernel
theorem dX3_withoutDrift_32 : decode cX3_withoutDrift 32 = .ok (.iload_n 1, 1) := by decide +kernel
theorem dX3_withoutDrift_33 : decode cX3_withoutDrift 33 = .ok (.invokestatic 81, 3) := by decide +kernel
theorem dX3_withoutDrift_36 : decode cX3_withoutDrift 36 = .ok (.aload_n 0, 1) := by decide +kernel
theorem dX3_withoutDrift_37 : decode cX3_withoutDrift 37 = .ok (.getfield 9, 3) := by decide +kernel
theorem dX3_withoutDrift_40 : decode cX3_withoutDrift 40 = .ok (.aload_n 0, 1) := by decide +kernel
theorem dX3_withoutDrift_41 : decode cX3_withoutDrift 41 = .ok (.iload_n 2, 1) := by decide +kernel
theorem dX3_withoutDrift_42 : decode cX3_withoutDrift 42 = .ok (.invokevirtual 89, 3) := by decide +kernel
theorem dX3_withoutDrift_45 : decode cX3_withoutDrift 45 = .ok (.invokestatic 81, 3) := by decide +kernel
theorem dX3_withoutDrift_48 : decode cX3_withoutDrift 48 = .ok (.isub, 1) := by decide +kernel
theorem dX3_withoutDrift_49 : decode cX3_withoutDrift 49 = .ok (.i2l, 1) := by decide +kernel
theorem dX3_withoutDrift_50 : decode cX3_withoutDrift 50 = .ok (.lstore_n 3, 1) := by decide +kernel
theorem dX3_withoutDrift_51 : decode cX3_withoutDrift 51 = .ok (.aload_n 0, 1) := by decide +kernel
theorem dX3_withoutDrift_52 : decode cX3_withoutDrift 52 = .ok (.iload_n 1, 1) := by decide +kernel
theorem dX3_withoutDrift_53 : decode cX3_withoutDrift 53 = .ok (.invokevirtual 92, 3) := by decide +kernel
theorem dX3_withoutDrift_56 : decode cX3_withoutDrift 56 = .ok (.i2l, 1) := by decide +kernel
theorem dX3_withoutDrift_57 : decode cX3_withoutDrift 57 = .ok (.aload_n 0, 1) := by decide +kernel
theorem dX3_withoutDrift_58 : decode cX3_withoutDrift 58 = .ok (.iload_n 2, 1) := by decide +kernel
theorem dX3_withoutDrift_59 : decode cX3_withoutDrift 59 = .ok (.invokevirtual 132, 3) := by decide +kernel
theorem dX3_withoutDrift_62 : decode cX3_withoutDrift 62 = .ok (.i2l, 1) := by decide +kernel
theorem dX3_withoutDrift_63 : decode cX3_withoutDrift 63 = .ok (.lload_n 3, 1) := by decide +kernel
theorem dX3_withoutDrift_64 : decode cX3_withoutDrift 64 = .ok (.lmul, 1) := by decide +kernel
theorem dX3_withoutDrift_65 : decode cX3_withoutDrift 65 = .ok (.aload_n 0, 1) := by decide +kernel
theorem dX3_withoutDrift_66 : decode cX3_withoutDrift 66 = .ok (.iload_n 2, 1) := by decide +kernel
theorem dX3_withoutDrift_67 : decode cX3_withoutDrift 67 = .ok (.invokevirtual 129, 3) := by decide +kernel
theorem dX3_withoutDrift_70 : decode cX3_withoutDrift 70 = .ok (.i2l, 1) := by decide +kernel
theorem dX3_withoutDrift_71 : decode cX3_withoutDrift 71 = .ok (.invokestatic 135, 3) := by decide +kernel
theorem dX3_withoutDrift_74 : decode cX3_withoutDrift 74 = .ok (.lsub, 1) := by decide +kernel
theorem dX3_withoutDrift_75 : decode cX3_withoutDrift 75 = .ok (.l2i, 1) := by decide +kernel
theorem dX3_withoutDrift_76 : decode cX3_withoutDrift 76 = .ok (.ireturn, 1) := by decide +kernel
theorem dX4_init_0 : decode cX4_init 0 = .ok (.aload_n 0, 1) := by decide +kernel
theorem dX4_init_1 : decode cX4_init 1 = .ok (.invokespecial 3, 3) := by decide +kernel
theorem dX4_init_4 : decode cX4_init 4 = .ok (.aload_n 0, 1) := by decide +kernel
theorem dX4_init_5 : decode cX4_init 5 = .ok (.bipush 100, 2) := by decide +kernel
theorem dX4_init_7 : decode cX4_init 7 = .ok (.newarray .int, 2) := by decide +kernel
theorem dX4_init_9 : decode cX4_init 9 = .ok (.putfield 9, 3) := by decide +kernel
theorem dX4_init_12 : decode cX4_init 12 = .ok (.aload_n 0, 1) := by decide +kernel
theorem dX4_init_13 : decode cX4_init 13 = .ok (.iconst (-1), 1) := by decide +kernel
theorem dX4_init_14 : decode cX4_init 14 = .ok (.putfield 15, 3) := by decide +kernel
theorem dX4_init_17 : decode cX4_init 17 = .ok (.return_, 1) := by decide +kernel
set_option maxRecDepth 20000 in
theorem ggX4_append_X6_put : GoodIn wsX4_append wsX6_put := goodIn_r _ [5] (by decide +kernel) (by decide +kernel)
set_option maxRecDepth 20000 in
theorem gX4_append_X6_put_n22 : GoodIn wsX4_append (wsX6_put) := ggX4_append_X6_put
theorem dX4_append_0 : decode cX4_append 0 = .ok (.aload_n 0, 1) := by decide +kernel
theorem dX4_append_1 : decode cX4_append 1 = .ok (.getfield 19, 3) := by decide +kernel
theorem dX4_append_4 : decode cX4_append 4 = .ok (.bipush 100, 2) := by decide +kernel
theorem dX4_append_6 : decode cX4_append 6 = .ok (.if_icmp .ge 25, 3) := by decide +kernel
theorem dX4_append_9 : decode cX4_append 9 = .ok (.aload_n 0, 1) := by decide +kernel
theorem dX4_append_10 : decode cX4_append 10 = .ok (.getfield 9, 3) := by decide +kernel
theorem dX4_append_13 : decode cX4_append 13 = .ok (.aload_n 0, 1) := by decide +kernel
theorem dX4_append_14 : decode cX4_append 14 = .ok (.getfield 19, 3) := by decide +kernel
theorem dX4_append_17 : decode cX4_append 17 = .ok (.iload_n 1, 1) := by decide +kernel
theorem dX4_append_18 : decode cX4_append 18 = .ok (.invokestatic 22, 3) := by decide +kernel
theorem dX4_append_21 : decode cX4_append 21 = .ok (.aload_n 0, 1) := by decide +kernel
theorem dX4_append_22 : decode cX4_append 22 = .ok (.dup, 1) := by decide +kernel
theorem dX4_append_23 : decode cX4_append 23 = .ok (.getfield 19, 3) := by decide +kernel
theorem dX4_append_26 : decode cX4_append 26 = .ok (.iconst 1, 1) := by decide +kernel
theorem dX4_append_27 : decode cX4_append 27 = .ok (.iadd, 1) := by decide +kernel
theorem dX4_append_28 : decode cX4_append 28 = .ok (.putfield 19, 3) := by decide +kernel
theorem dX4_append_31 : decode cX4_append 31 = .ok (.return_, 1) := by decide +kernel
set_option maxRecDepth 20000 in
theorem ggX4_readInto_X4_takeReading : GoodIn wsX4_readInto wsX4_takeReading := goodIn_r _ [15, 8, 9, 10, 16, 17, 18, 14, 19, 5, 7, 20, 21, 22, 23, 1, 4, 24, 25, 26, 27, 28, 29, 30, 31, 32, 33, 84, 85, 86, 87, 88, 89, 90, 91, 92, 93, 94] (by decide +kernel) (by decide +kernel)
set_option maxRecDepth 20000 in
theorem gX4_readInto_X4_takeReading : GoodIn wsX4_readInto (wsV RX4 32 RX4 yX4_takeReading wsX4_takeReading) := goodIn_app (goodIn_of _ (by decide +kernel)) ggX4_readInto_X4_takeReading
set_option maxRecDepth 20000 in
theorem ggX4_readInto_X2_track : GoodIn wsX4_readInto wsX2_track := goodIn_r _ [38, 39, 40, 41, 42, 95, 96, 97, 98, 99, 100, 101] (by decide +kernel) (by decide +kernel)
set_option maxRecDepth 20000 in
theorem gX4_readInto_X2_track : GoodIn wsX4_readInto (wsV RX4 39 RX2 yX2_track wsX2_track) := goodIn_app (goodIn_of _ (by decide +kernel)) ggX4_readInto_X2_track
set_option maxRecDepth 20000 in
theorem ggX4_readInto_X4_reasonAgainst : GoodIn wsX4_readInto wsX4_reasonAgainst := goodIn_r _ [46, 5, 8, 9, 10, 47, 26, 48, 49, 50, 51, 52, 53, 54, 32, 33, 55, 56, 57, 58, 59, 60, 61, 62, 63, 64, 65, 66, 67, 68, 25, 27, 69, 70, 71, 72, 73, 84, 85, 86, 87, 88, 89, 90, 91, 92, 93, 94, 102, 103, 104] (by decide +kernel) (by decide +kernel)
set_option maxRecDepth 20000 in
theorem gX4_readInto_X4_reasonAgainst : GoodIn wsX4_readInto (wsV RX4 45 RX4 yX4_reasonAgainst wsX4_reasonAgainst) := goodIn_app (goodIn_of _ (by decide +kernel)) ggX4_readInto_X4_reasonAgainst
set_option maxRecDepth 20000 in
theorem ggX4_readInto_X5_insert : GoodIn wsX4_readInto wsX5_insert := goodIn_r _ [77, 63, 68, 64, 65, 66, 61, 67, 25, 26, 27, 78, 79, 80, 81, 82, 83, 102, 103, 104] (by decide +kernel) (by decide +kernel)
set_option maxRecDepth 20000 in
theorem gX4_readInto_X5_insert : GoodIn wsX4_readInto (wsV RX4 64 RX5 yX5_insert wsX5_insert) := goodIn_app (goodIn_of _ (by decide +kernel)) ggX4_readInto_X5_insert
theorem dX4_readInto_0 : decode cX4_readInto 0 = .ok (.aload_n 0, 1) := by decide +kernel
theorem dX4_readInto_1 : decode cX4_readInto 1 = .ok (.iconst 0, 1) := by decide +kernel
theorem dX4_readInto_2 : decode cX4_readInto 2 = .ok (.putfield 26, 3) := by decide +kernel
theorem dX4_readInto_5 : decode cX4_readInto 5 = .ok (.aload_n 0, 1) := by decide +kernel
theorem dX4_readInto_6 : decode cX4_readInto 6 = .ok (.iconst 0, 1) := by decide +kernel
theorem dX4_readInto_7 : decode cX4_readInto 7 = .ok (.putfield 29, 3) := by decide +kernel
theorem dX4_readInto_10 : decode cX4_readInto 10 = .ok (.aload_n 0, 1) := by decide +kernel
theorem dX4_readInto_11 : decode cX4_readInto 11 = .ok (.iconst (-1), 1) := by decide +kernel
theorem dX4_readInto_12 : decode cX4_readInto 12 = .ok (.putfield 15, 3) := by decide +kernel
theorem dX4_readInto_15 : decode cX4_readInto 15 = .ok (.iconst 0, 1) := by decide +kernel
theorem dX4_readInto_16 : decode cX4_readInto 16 = .ok (.istore_n 2, 1) := by decide +kernel
theorem dX4_readInto_17 : decode cX4_readInto 17 = .ok (.iload_n 2, 1) := by decide +kernel
theorem dX4_readInto_18 : decode cX4_readInto 18 = .ok (.bipush 100, 2) := by decide +kernel
theorem dX4_readInto_20 : decode cX4_readInto 20 = .ok (.if_icmp .ge 103, 3) := by decide +kernel
theorem dX4_readInto_23 : decode cX4_readInto 23 = .ok (.aload_n 0, 1) := by decide +kernel
theorem dX4_readInto_24 : decode cX4_readInto 24 = .ok (.getfield 26, 3) := by decide +kernel
theorem dX4_readInto_27 : decode cX4_readInto 27 = .ok (.aload_n 0, 1) := by decide +kernel
theorem dX4_readInto_28 : decode cX4_readInto 28 = .ok (.getfield 19, 3) := by decide +kernel
theorem dX4_readInto_31 : decode cX4_readInto 31 = .ok (.if_icmp .ge 92, 3) := by decide +kernel
theorem dX4_readInto_34 : decode cX4_readInto 34 = .ok (.aload_n 0, 1) := by decide +kernel
theorem dX4_readInto_35 : decode cX4_readInto 35 = .ok (.getfield 26, 3) := by decide +kernel
theorem dX4_readInto_38 : decode cX4_readInto 38 = .ok (.istore_n 3, 1) := by decide +kernel
theorem dX4_readInto_39 : decode cX4_readInto 39 = .ok (.aload_n 0, 1) := by decide +kernel
theorem dX4_readInto_40 : decode cX4_readInto 40 = .ok (.aload_n 0, 1) := by decide +kernel
theorem dX4_readInto_41 : decode cX4_readInto 41 = .ok (.invokevirtual 32, 3) := by decide +kernel
theorem dX4_readInto_44 : decode cX4_readInto 44 = .ok (.ifCond .eq 18, 3) := by decide +kernel
theorem dX4_readInto_47 : decode cX4_readInto 47 = .ok (.aload_n 0, 1) := by decide +kernel
theorem dX4_readInto_48 : decode cX4_readInto 48 = .ok (.aload_n 1, 1) := by decide +kernel
theorem dX4_readInto_49 : decode cX4_readInto 49 = .ok (.aload_n 0, 1) := by decide +kernel
theorem dX4_readInto_50 : decode cX4_readInto 50 = .ok (.getfield 36, 3) := by decide +kernel
theorem dX4_readInto_53 : decode cX4_readInto 53 = .ok (.invokevirtual 39, 3) := by decide +kernel
theorem dX4_readInto_56 : decode cX4_readInto 56 = .ok (.invokevirtual 45, 3) := by decide +kernel
theorem dX4_readInto_59 : decode cX4_readInto 59 = .ok (.goto 4, 3) := by decide +kernel
theorem dX4_readInto_62 : decode cX4_readInto 62 = .ok (.iconst 1, 1) := by decide +kernel
theorem dX4_readInto_63 : decode cX4_readInto 63 = .ok (.putfield 49, 3) := by decide +kernel
theorem dX4_readInto_66 : decode cX4_readInto 66 = .ok (.aload_n 0, 1) := by decide +kernel
theorem dX4_readInto_67 : decode cX4_readInto 67 = .ok (.getfield 49, 3) := by decide +kernel
theorem dX4_readInto_70 : decode cX4_readInto 70 = .ok (.ifCond .eq 9, 3) := by decide +kernel
theorem dX4_readInto_73 : decode cX4_readInto 73 = .ok (.aload_n 0, 1) := by decide +kernel
theorem dX4_readInto_74 : decode cX4_readInto 74 = .ok (.iload_n 3, 1) := by decide +kernel
theorem dX4_readInto_75 : decode cX4_readInto 75 = .ok (.putfield 15, 3) := by decide +kernel
theorem dX4_readInto_78 : decode cX4_readInto 78 = .ok (.return_, 1) := by decide +kernel
theorem dX4_readInto_79 : decode cX4_readInto 79 = .ok (.aload_n 1, 1) := by decide +kernel
theorem dX4_readInto_80 : decode cX4_readInto 80 = .ok (.aload_n 0, 1) := by decide +kernel
theorem dX4_readInto_81 : decode cX4_readInto 81 = .ok (.getfield 36, 3) := by decide +kernel
theorem dX4_readInto_84 : decode cX4_readInto 84 = .ok (.invokevirtual 39, 3) := by decide +kernel
theorem dX4_readInto_87 : decode cX4_readInto 87 = .ok (.aload_n 0, 1) := by decide +kernel
theorem dX4_readInto_88 : decode cX4_readInto 88 = .ok (.getfield 52, 3) := by decide +kernel
theorem dX4_readInto_91 : decode cX4_readInto 91 = .ok (.aload_n 0, 1) := by decide +kernel
theorem dX4_readInto_92 : decode cX4_readInto 92 = .ok (.getfield 55, 3) := by decide +kernel
theorem dX4_readInto_95 : decode cX4_readInto 95 = .ok (.aload_n 0, 1) := by decide +kernel
theorem dX4_readInto_96 : decode cX4_readInto 96 = .ok (.getfield 58, 3) := by decide +kernel
theorem dX4_readInto_99 : decode cX4_readInto 99 = .ok (.aload_n 0, 1) := by decide +kernel
theorem dX4_readInto_100 : decode cX4_readInto 100 = .ok (.getfield 61, 3) := by decide +kernel
theorem dX4_readInto_103 : decode cX4_readInto 103 = .ok (.invokevirtual 64, 3) := by decide +kernel
theorem dX4_readInto_106 : decode cX4_readInto 106 = .ok (.pop, 1) := by decide +kernel
theorem dX4_readInto_107 : decode cX4_readInto 107 = .ok (.aload_n 0, 1) := by decide +kernel
theorem dX4_readInto_108 : decode cX4_readInto 108 = .ok (.dup, 1) := by decide +kernel
theorem dX4_readInto_109 : decode cX4_readInto 109 = .ok (.getfield 29, 3) := by decide +kernel
theorem dX4_readInto_112 : decode cX4_readInto 112 = .ok (.iconst 1, 1) := by decide +kernel
theorem dX4_readInto_113 : decode cX4_readInto 113 = .ok (.iadd, 1) := by decide +kernel
theorem dX4_readInto_114 : decode cX4_readInto 114 = .ok (.putfield 29, 3) := by decide +kernel
theorem dX4_readInto_117 : decode cX4_readInto 117 = .ok (.iinc 2 1, 3) := by decide +kernel
theorem dX4_readInto_120 : decode cX4_readInto 120 = .ok (.goto (-103), 3) := by decide +kernel
theorem dX4_readInto_123 : decode cX4_readInto 123 = .ok (.return_, 1) := by decide +kernel
set_option maxRecDepth 20000 in
theorem ggX4_reasonAgainst_X6_isReading : GoodIn wsX4_reasonAgainst wsX6_isReading := goodIn_r _ [7, 8, 9, 10, 11, 6, 12, 13, 14, 15, 16, 17, 18] (by decide +kernel) (by decide +kernel)
set_option maxRecDepth 20000 in
theorem gX4_reasonAgainst_X6_isReading_n70 : GoodIn wsX4_reasonAgainst (wsX6_isReading) := ggX4_reasonAgainst_X6_isReading
set_option maxRecDepth 20000 in
theorem ggX4_reasonAgainst_X5_hasTime : GoodIn wsX4_reasonAgainst wsX5_hasTime := goodIn_r _ [23, 24, 25, 26, 27, 22, 28, 29, 30, 6, 31, 48, 49, 50] (by decide +kernel) (by decide +kernel)
set_option maxRecDepth 20000 in
theorem gX4_reasonAgainst_X5_hasTime : GoodIn wsX4_reasonAgainst (wsV RX4 74 RX5 yX5_hasTime wsX5_hasTime) := goodIn_app (goodIn_of _ (by decide +kernel)) ggX4_reasonAgainst_X5_hasTime
set_option maxRecDepth 20000 in
theorem ggX4_reasonAgainst_X5_isFull : GoodIn wsX4_reasonAgainst wsX5_isFull := goodIn_r _ [35, 24, 36, 48, 49, 50] (by decide +kernel) (by decide +kernel)
set_option maxRecDepth 20000 in
theorem gX4_reasonAgainst_X5_isFull : GoodIn wsX4_reasonAgainst (wsV RX4 78 RX5 yX5_isFull wsX5_isFull) := goodIn_app (goodIn_of _ (by decide +kernel)) ggX4_reasonAgainst_X5_isFull
theorem dX4_reasonAgainst_0 : decode cX4_reasonAgainst 0 = .ok (.aload_n 0, 1) := by decide +kernel
theorem dX4_reasonAgainst_1 : decode cX4_reasonAgainst 1 = .ok (.getfield 36, 3) := by decide +kernel
theorem dX4_reasonAgainst_4 : decode cX4_reasonAgainst 4 = .ok (.iconst 3, 1) := by decide +kernel
theorem dX4_reasonAgainst_5 : decode cX4_reasonAgainst 5 = .ok (.if_icmp .ge 21, 3) := by decide +kernel
theorem dX4_reasonAgainst_8 : decode cX4_reasonAgainst 8 = .ok (.aload_n 0, 1) := by decide +kernel
theorem dX4_reasonAgainst_9 : decode cX4_reasonAgainst 9 = .ok (.getfield 55, 3) := by decide +kernel
theorem dX4_reasonAgainst_12 : decode cX4_reasonAgainst 12 = .ok (.aload_n 0, 1) := by decide +kernel
theorem dX4_reasonAgainst_13 : decode cX4_reasonAgainst 13 = .ok (.getfield 58, 3) := by decide +kernel
theorem dX4_reasonAgainst_16 : decode cX4_reasonAgainst 16 = .ok (.aload_n 0, 1) := by decide +kernel
theorem dX4_reasonAgainst_17 : decode cX4_reasonAgainst 17 = .ok (.getfield 61, 3) := by decide +kernel
theorem dX4_reasonAgainst_20 : decode cX4_reasonAgainst 20 = .ok (.invokestatic 70, 3) := by decide +kernel
theorem dX4_reasonAgainst_23 : decode cX4_reasonAgainst 23 = .ok (.ifCond .ne 5, 3) := by decide +kernel
theorem dX4_reasonAgainst_26 : decode cX4_reasonAgainst 26 = .ok (.iconst 2, 1) := by decide +kernel
theorem dX4_reasonAgainst_27 : decode cX4_reasonAgainst 27 = .ok (.ireturn, 1) := by decide +kernel
theorem dX4_reasonAgainst_28 : decode cX4_reasonAgainst 28 = .ok (.aload_n 1, 1) := by decide +kernel
theorem dX4_reasonAgainst_29 : decode cX4_reasonAgainst 29 = .ok (.aload_n 0, 1) := by decide +kernel
theorem dX4_reasonAgainst_30 : decode cX4_reasonAgainst 30 = .ok (.getfield 55, 3) := by decide +kernel
theorem dX4_reasonAgainst_33 : decode cX4_reasonAgainst 33 = .ok (.invokevirtual 74, 3) := by decide +kernel
theorem dX4_reasonAgainst_36 : decode cX4_reasonAgainst 36 = .ok (.ifCond .eq 5, 3) := by decide +kernel
theorem dX4_reasonAgainst_39 : decode cX4_reasonAgainst 39 = .ok (.iconst 3, 1) := by decide +kernel
theorem dX4_reasonAgainst_40 : decode cX4_reasonAgainst 40 = .ok (.ireturn, 1) := by decide +kernel
theorem dX4_reasonAgainst_41 : decode cX4_reasonAgainst 41 = .ok (.aload_n 1, 1) := by decide +kernel
theorem dX4_reasonAgainst_42 : decode cX4_reasonAgainst 42 = .ok (.invokevirtual 78, 3) := by decide +kernel
theorem dX4_reasonAgainst_45 : decode cX4_reasonAgainst 45 = .ok (.ifCond .eq 7, 3) := by decide +kernel
theorem dX4_reasonAgainst_48 : decode cX4_reasonAgainst 48 = .ok (.iconst 4, 1) := by decide +kernel
theorem dX4_reasonAgainst_49 : decode cX4_reasonAgainst 49 = .ok (.goto 4, 3) := by decide +kernel
theorem dX4_reasonAgainst_52 : decode cX4_reasonAgainst 52 = .ok (.iconst 0, 1) := by decide +kernel
theorem dX4_reasonAgainst_53 : decode cX4_reasonAgainst 53 = .ok (.ireturn, 1) := by decide +kernel
set_option maxRecDepth 20000 in
theorem ggX4_takeReading_X4_takePlace : GoodIn wsX4_takeReading wsX4_takePlace := goodIn_r _ [8, 9, 10, 11, 12, 13, 7, 14, 15, 16, 17, 18, 19, 20, 21, 22, 23, 24, 25, 26, 27, 28, 29, 30, 31, 32, 33, 34, 35, 36, 37] (by decide +kernel) (by decide +kernel)
set_option maxRecDepth 20000 in
theorem gX4_takeReading_X4_takePlace : GoodIn wsX4_takeReading (wsV RX4 81 RX4 yX4_takePlace wsX4_takePlace) := goodIn_app (goodIn_of _ (by decide +kernel)) ggX4_takeReading_X4_takePlace
set_option maxRecDepth 20000 in
theorem ggX4_takeReading_X4_skip : GoodIn wsX4_takeReading wsX4_skip := goodIn_r _ [14, 15, 16, 17, 18, 19, 20, 27, 28, 29, 30, 31, 32, 33, 34, 35, 36, 37] (by decide +kernel) (by decide +kernel)
set_option maxRecDepth 20000 in
theorem gX4_takeReading_X4_skip : GoodIn wsX4_takeReading (wsV RX4 84 RX4 yX4_skip wsX4_skip) := goodIn_app (goodIn_of _ (by decide +kernel)) ggX4_takeReading_X4_skip
set_option maxRecDepth 20000 in
theorem ggX4_takeReading_X4_takeNumber : GoodIn wsX4_takeReading wsX4_takeNumber := goodIn_r _ [24, 15, 16, 17, 18, 19, 20, 25, 26, 27, 28, 29, 30, 31, 32, 33, 34, 35, 36, 37] (by decide +kernel) (by decide +kernel)
set_option maxRecDepth 20000 in
theorem gX4_takeReading_X4_takeNumber : GoodIn wsX4_takeReading (wsV RX4 88 RX4 yX4_takeNumber wsX4_takeNumber) := goodIn_app (goodIn_of _ (by decide +kernel)) ggX4_takeReading_X4_takeNumber
theorem dX4_takeReading_0 : decode cX4_takeReading 0 = .ok (.aload_n 0, 1) := by decide +kernel
theorem dX4_takeReading_1 : decode cX4_takeReading 1 = .ok (.invokevirtual 81, 3) := by decide +kernel
theorem dX4_takeReading_4 : decode cX4_takeReading 4 = .ok (.ifCond .eq 12, 3) := by decide +kernel
theorem dX4_takeReading_7 : decode cX4_takeReading 7 = .ok (.aload_n 0, 1) := by decide +kernel
theorem dX4_takeReading_8 : decode cX4_takeReading 8 = .ok (.bipush 116, 2) := by decide +kernel
theorem dX4_takeReading_10 : decode cX4_takeReading 10 = .ok (.invokevirtual 84, 3) := by decide +kernel
theorem dX4_takeReading_13 : decode cX4_takeReading 13 = .ok (.ifCond .ne 5, 3) := by decide +kernel
theorem dX4_takeReading_16 : decode cX4_takeReading 16 = .ok (.iconst 0, 1) := by decide +kernel
theorem dX4_takeReading_17 : decode cX4_takeReading 17 = .ok (.ireturn, 1) := by decide +kernel
theorem dX4_takeReading_18 : decode cX4_takeReading 18 = .ok (.aload_n 0, 1) := by decide +kernel
theorem dX4_takeReading_19 : decode cX4_takeReading 19 = .ok (.aload_n 0, 1) := by decide +kernel
theorem dX4_takeReading_20 : decode cX4_takeReading 20 = .ok (.iconst 5, 1) := by decide +kernel
theorem dX4_takeReading_21 : decode cX4_takeReading 21 = .ok (.invokevirtual 88, 3) := by decide +kernel
theorem dX4_takeReading_24 : decode cX4_takeReading 24 = .ok (.putfield 55, 3) := by decide +kernel
theorem dX4_takeReading_27 : decode cX4_takeReading 27 = .ok (.aload_n 0, 1) := by decide +kernel
theorem dX4_takeReading_28 : decode cX4_takeReading 28 = .ok (.getfield 55, 3) := by decide +kernel
theorem dX4_takeReading_31 : decode cX4_takeReading 31 = .ok (.iconst (-1), 1) := by decide +kernel
theorem dX4_takeReading_32 : decode cX4_takeReading 32 = .ok (.if_icmp .eq 12, 3) := by decide +kernel
theorem dX4_takeReading_35 : decode cX4_takeReading 35 = .ok (.aload_n 0, 1) := by decide +kernel
theorem dX4_takeReading_36 : decode cX4_takeReading 36 = .ok (.bipush 112, 2) := by decide +kernel
theorem dX4_takeReading_38 : decode cX4_takeReading 38 = .ok (.invokevirtual 84, 3) := by decide +kernel
theorem dX4_takeReading_41 : decode cX4_takeReading 41 = .ok (.ifCond .ne 5, 3) := by decide +kernel
theorem dX4_takeReading_44 : decode cX4_takeReading 44 = .ok (.iconst 0, 1) := by decide +kernel
theorem dX4_takeReading_45 : decode cX4_takeReading 45 = .ok (.ireturn, 1) := by decide +kernel
theorem dX4_takeReading_46 : decode cX4_takeReading 46 = .ok (.aload_n 0, 1) := by decide +kernel
theorem dX4_takeReading_47 : decode cX4_takeReading 47 = .ok (.aload_n 0, 1) := by decide +kernel
theorem dX4_takeReading_48 : decode cX4_takeReading 48 = .ok (.bipush 6, 2) := by decide +kernel
theorem dX4_takeReading_50 : decode cX4_takeReading 50 = .ok (.invokevirtual 88, 3) := by decide +kernel
theorem dX4_takeReading_53 : decode cX4_takeReading 53 = .ok (.putfield 58, 3) := by decide +kernel
theorem dX4_takeReading_56 : decode cX4_takeReading 56 = .ok (.aload_n 0, 1) := by decide +kernel
theorem dX4_takeReading_57 : decode cX4_takeReading 57 = .ok (.getfield 58, 3) := by decide +kernel
theorem dX4_takeReading_60 : decode cX4_takeReading 60 = .ok (.iconst (-1), 1) := by decide +kernel
theorem dX4_takeReading_61 : decode cX4_takeReading 61 = .ok (.if_icmp .eq 12, 3) := by decide +kernel
theorem dX4_takeReading_64 : decode cX4_takeReading 64 = .ok (.aload_n 0, 1) := by decide +kernel
theorem dX4_takeReading_65 : decode cX4_takeReading 65 = .ok (.bipush 99, 2) := by decide +kernel
theorem dX4_takeReading_67 : decode cX4_takeReading 67 = .ok (.invokevirtual 84, 3) := by decide +kernel
theorem dX4_takeReading_70 : decode cX4_takeReading 70 = .ok (.ifCond .ne 5, 3) := by decide +kernel
theorem dX4_takeReading_73 : decode cX4_takeReading 73 = .ok (.iconst 0, 1) := by decide +kernel
theorem dX4_takeReading_74 : decode cX4_takeReading 74 = .ok (.ireturn, 1) := by decide +kernel
theorem dX4_takeReading_75 : decode cX4_takeReading 75 = .ok (.aload_n 0, 1) := by decide +kernel
theorem dX4_takeReading_76 : decode cX4_takeReading 76 = .ok (.bipush 45, 2) := by decide +kernel
theorem dX4_takeReading_78 : decode cX4_takeReading 78 = .ok (.invokevirtual 84, 3) := by decide +kernel
theorem dX4_takeReading_81 : decode cX4_takeReading 81 = .ok (.istore_n 1, 1) := by decide +kernel
theorem dX4_takeReading_82 : decode cX4_takeReading 82 = .ok (.aload_n 0, 1) := by decide +kernel
theorem dX4_takeReading_83 : decode cX4_takeReading 83 = .ok (.iconst 3, 1) := by decide +kernel
theorem dX4_takeReading_84 : decode cX4_takeReading 84 = .ok (.invokevirtual 88, 3) := by decide +kernel
theorem dX4_takeReading_87 : decode cX4_takeReading 87 = .ok (.istore_n 2, 1) := by decide +kernel
theorem dX4_takeReading_88 : decode cX4_takeReading 88 = .ok (.aload_n 0, 1) := by decide +kernel
theorem dX4_takeReading_89 : decode cX4_takeReading 89 = .ok (.iload_n 1, 1) := by decide +kernel
theorem dX4_takeReading_90 : decode cX4_takeReading 90 = .ok (.ifCond .eq 8, 3) := by decide +kernel
theorem dX4_takeReading_93 : decode cX4_takeReading 93 = .ok (.iload_n 2, 1) := by decide +kernel
theorem dX4_takeReading_94 : decode cX4_takeReading 94 = .ok (.ineg, 1) := by decide +kernel
theorem dX4_takeReading_95 : decode cX4_takeReading 95 = .ok (.goto 4, 3) := by decide +kernel
theorem dX4_takeReading_98 : decode cX4_takeReading 98 = .ok (.iload_n 2, 1) := by decide +kernel
theorem dX4_takeReading_99 : decode cX4_takeReading 99 = .ok (.putfield 61, 3) := by decide +kernel
theorem dX4_takeReading_102 : decode cX4_takeReading 102 = .ok (.iload_n 2, 1) := by decide +kernel
theorem dX4_takeReading_103 : decode cX4_takeReading 103 = .ok (.iconst (-1), 1) := by decide +kernel
theorem dX4_takeReading_104 : decode cX4_takeReading 104 = .ok (.if_icmp .eq 16, 3) := by decide +kernel
theorem dX4_takeReading_107 : decode cX4_takeReading 107 = .ok (.aload_n 0, 1) := by decide +kernel
theorem dX4_takeReading_108 : decode cX4_takeReading 108 = .ok (.bipush 59, 2) := by decide +kernel
theorem dX4_takeReading_110 : decode cX4_takeReading 110 = .ok (.invokevirtual 84, 3) := by decide +kernel
theorem dX4_takeReading_113 : decode cX4_takeReading 113 = .ok (.ifCond .eq 7, 3) := by decide +kernel
theorem dX4_takeReading_116 : decode cX4_takeReading 116 = .ok (.iconst 1, 1) := by decide +kernel
theorem dX4_takeReading_117 : decode cX4_takeReading 117 = .ok (.goto 4, 3) := by decide +kernel
theorem dX4_takeReading_120 : decode cX4_takeReading 120 = .ok (.iconst 0, 1) := by decide +kernel
theorem dX4_takeReading_121 : decode cX4_takeReading 121 = .ok (.ireturn, 1) := by decide +kernel
set_option maxRecDepth 20000 in
theorem ggX4_takePlace_X4_skip : GoodIn wsX4_takePlace wsX4_skip := goodIn_r _ [7, 8, 9, 10, 11, 12, 13, 20, 21, 22, 23, 24, 25, 26, 27, 28, 29, 30] (by decide +kernel) (by decide +kernel)
set_option maxRecDepth 20000 in
theorem gX4_takePlace_X4_skip : GoodIn wsX4_takePlace (wsV RX4 84 RX4 yX4_skip wsX4_skip) := goodIn_app (goodIn_of _ (by decide +kernel)) ggX4_takePlace_X4_skip
set_option maxRecDepth 20000 in
theorem ggX4_takePlace_X4_takeNumber : GoodIn wsX4_takePlace wsX4_takeNumber := goodIn_r _ [17, 8, 9, 10, 11, 12, 13, 18, 19, 20, 21, 22, 23, 24, 25, 26, 27, 28, 29, 30] (by decide +kernel) (by decide +kernel)
set_option maxRecDepth 20000 in
theorem gX4_takePlace_X4_takeNumber : GoodIn wsX4_takePlace (wsV RX4 88 RX4 yX4_takeNumber wsX4_takeNumber) := goodIn_app (goodIn_of _ (by decide +kernel)) ggX4_takePlace_X4_takeNumber
theorem dX4_takePlace_0 : decode cX4_takePlace 0 = .ok (.aload_n 0, 1) := by decide +kernel
theorem dX4_takePlace_1 : decode cX4_takePlace 1 = .ok (.iconst (-1), 1) := by decide +kernel
theorem dX4_takePlace_2 : decode cX4_takePlace 2 = .ok (.putfield 36, 3) := by decide +kernel
theorem dX4_takePlace_5 : decode cX4_takePlace 5 = .ok (.aload_n 0, 1) := by decide +kernel
theorem dX4_takePlace_6 : decode cX4_takePlace 6 = .ok (.iconst 0, 1) := by decide +kernel
theorem dX4_takePlace_7 : decode cX4_takePlace 7 = .ok (.putfield 52, 3) := by decide +kernel
theorem dX4_takePlace_10 : decode cX4_takePlace 10 = .ok (.aload_n 0, 1) := by decide +kernel
theorem dX4_takePlace_11 : decode cX4_takePlace 11 = .ok (.bipush 98, 2) := by decide +kernel
theorem dX4_takePlace_13 : decode cX4_takePlace 13 = .ok (.invokevirtual 84, 3) := by decide +kernel
theorem dX4_takePlace_16 : decode cX4_takePlace 16 = .ok (.ifCond .eq 5, 3) := by decide +kernel
theorem dX4_takePlace_19 : decode cX4_takePlace 19 = .ok (.iconst 1, 1) := by decide +kernel
theorem dX4_takePlace_20 : decode cX4_takePlace 20 = .ok (.ireturn, 1) := by decide +kernel
theorem dX4_takePlace_21 : decode cX4_takePlace 21 = .ok (.aload_n 0, 1) := by decide +kernel
theorem dX4_takePlace_22 : decode cX4_takePlace 22 = .ok (.bipush 99, 2) := by decide +kernel
theorem dX4_takePlace_24 : decode cX4_takePlace 24 = .ok (.invokevirtual 84, 3) := by decide +kernel
theorem dX4_takePlace_27 : decode cX4_takePlace 27 = .ok (.ifCond .ne 5, 3) := by decide +kernel
theorem dX4_takePlace_30 : decode cX4_takePlace 30 = .ok (.iconst 0, 1) := by decide +kernel
theorem dX4_takePlace_31 : decode cX4_takePlace 31 = .ok (.ireturn, 1) := by decide +kernel
theorem dX4_takePlace_32 : decode cX4_takePlace 32 = .ok (.aload_n 0, 1) := by decide +kernel
theorem dX4_takePlace_33 : decode cX4_takePlace 33 = .ok (.aload_n 0, 1) := by decide +kernel
theorem dX4_takePlace_34 : decode cX4_takePlace 34 = .ok (.iconst 1, 1) := by decide +kernel
theorem dX4_takePlace_35 : decode cX4_takePlace 35 = .ok (.invokevirtual 88, 3) := by decide +kernel
theorem dX4_takePlace_38 : decode cX4_takePlace 38 = .ok (.putfield 36, 3) := by decide +kernel
theorem dX4_takePlace_41 : decode cX4_takePlace 41 = .ok (.aload_n 0, 1) := by decide +kernel
theorem dX4_takePlace_42 : decode cX4_takePlace 42 = .ok (.getfield 36, 3) := by decide +kernel
theorem dX4_takePlace_45 : decode cX4_takePlace 45 = .ok (.iconst (-1), 1) := by decide +kernel
theorem dX4_takePlace_46 : decode cX4_takePlace 46 = .ok (.if_icmp .eq 12, 3) := by decide +kernel
theorem dX4_takePlace_49 : decode cX4_takePlace 49 = .ok (.aload_n 0, 1) := by decide +kernel
theorem dX4_takePlace_50 : decode cX4_takePlace 50 = .ok (.bipush 64, 2) := by decide +kernel
theorem dX4_takePlace_52 : decode cX4_takePlace 52 = .ok (.invokevirtual 84, 3) := by decide +kernel
theorem dX4_takePlace_55 : decode cX4_takePlace 55 = .ok (.ifCond .ne 5, 3) := by decide +kernel
theorem dX4_takePlace_58 : decode cX4_takePlace 58 = .ok (.iconst 0, 1) := by decide +kernel
theorem dX4_takePlace_59 : decode cX4_takePlace 59 = .ok (.ireturn, 1) := by decide +kernel
theorem dX4_takePlace_60 : decode cX4_takePlace 60 = .ok (.aload_n 0, 1) := by decide +kernel
theorem dX4_takePlace_61 : decode cX4_takePlace 61 = .ok (.aload_n 0, 1) := by decide +kernel
theorem dX4_takePlace_62 : decode cX4_takePlace 62 = .ok (.iconst 1, 1) := by decide +kernel
theorem dX4_takePlace_63 : decode cX4_takePlace 63 = .ok (.invokevirtual 88, 3) := by decide +kernel
theorem dX4_takePlace_66 : decode cX4_takePlace 66 = .ok (.putfield 52, 3) := by decide +kernel
theorem dX4_takePlace_69 : decode cX4_takePlace 69 = .ok (.aload_n 0, 1) := by decide +kernel
theorem dX4_takePlace_70 : decode cX4_takePlace 70 = .ok (.getfield 52, 3) := by decide +kernel
theorem dX4_takePlace_73 : decode cX4_takePlace 73 = .ok (.iconst (-1), 1) := by decide +kernel
theorem dX4_takePlace_74 : decode cX4_takePlace 74 = .ok (.if_icmp .eq 7, 3) := by decide +kernel
theorem dX4_takePlace_77 : decode cX4_takePlace 77 = .ok (.iconst 1, 1) := by decide +kernel
theorem dX4_takePlace_78 : decode cX4_takePlace 78 = .ok (.goto 4, 3) := by decide +kernel
theorem dX4_takePlace_81 : decode cX4_takePlace 81 = .ok (.iconst 0, 1) := by decide +kernel
theorem dX4_takePlace_82 : decode cX4_takePlace 82 = .ok (.ireturn, 1) := by decide +kernel
set_option maxRecDepth 20000 in
theorem ggX4_skip_X6_at : GoodIn wsX4_skip wsX6_at := goodIn_r _ [6] (by decide +kernel) (by decide +kernel)
set_option maxRecDepth 20000 in
theorem gX4_skip_X6_at_n92 : GoodIn wsX4_skip (wsX6_at) := ggX4_skip_X6_at
theorem dX4_skip_0 : decode cX4_skip 0 = .ok (.aload_n 0, 1) := by decide +kernel
theorem dX4_skip_1 : decode cX4_skip 1 = .ok (.getfield 26, 3) := by decide +kernel
theorem dX4_skip_4 : decode cX4_skip 4 = .ok (.aload_n 0, 1) := by decide +kernel
theorem dX4_skip_5 : decode cX4_skip 5 = .ok (.getfield 19, 3) := by decide +kernel
theorem dX4_skip_8 : decode cX4_skip 8 = .ok (.if_icmp .ge 18, 3) := by decide +kernel
theorem dX4_skip_11 : decode cX4_skip 11 = .ok (.aload_n 0, 1) := by decide +kernel
theorem dX4_skip_12 : decode cX4_skip 12 = .ok (.getfield 9, 3) := by decide +kernel
theorem dX4_skip_15 : decode cX4_skip 15 = .ok (.aload_n 0, 1) := by decide +kernel
theorem dX4_skip_16 : decode cX4_skip 16 = .ok (.getfield 26, 3) := by decide +kernel
theorem dX4_skip_19 : decode cX4_skip 19 = .ok (.invokestatic 92, 3) := by decide +kernel
theorem dX4_skip_22 : decode cX4_skip 22 = .ok (.iload_n 1, 1) := by decide +kernel
theorem dX4_skip_23 : decode cX4_skip 23 = .ok (.if_icmp .eq 5, 3) := by decide +kernel
theorem dX4_skip_26 : decode cX4_skip 26 = .ok (.iconst 0, 1) := by decide +kernel
theorem dX4_skip_27 : decode cX4_skip 27 = .ok (.ireturn, 1) := by decide +kernel
theorem dX4_skip_28 : decode cX4_skip 28 = .ok (.aload_n 0, 1) := by decide +kernel
theorem dX4_skip_29 : decode cX4_skip 29 = .ok (.dup, 1) := by decide +kernel
theorem dX4_skip_30 : decode cX4_skip 30 = .ok (.getfield 26, 3) := by decide +kernel
theorem dX4_skip_33 : decode cX4_skip 33 = .ok (.iconst 1, 1) := by decide +kernel
theorem dX4_skip_34 : decode cX4_skip 34 = .ok (.iadd, 1) := by decide +kernel
theorem dX4_skip_35 : decode cX4_skip 35 = .ok (.putfield 26, 3) := by decide +kernel
theorem dX4_skip_38 : decode cX4_skip 38 = .ok (.iconst 1, 1) := by decide +kernel
theorem dX4_skip_39 : decode cX4_skip 39 = .ok (.ireturn, 1) := by decide +kernel
set_option maxRecDepth 20000 in
theorem ggX4_takeNumber_X6_at : GoodIn wsX4_takeNumber wsX6_at := goodIn_r _ [6] (by decide +kernel) (by decide +kernel)
set_option maxRecDepth 20000 in
theorem gX4_takeNumber_X6_at_n92 : GoodIn wsX4_takeNumber (wsX6_at) := ggX4_takeNumber_X6_at
set_option maxRecDepth 20000 in
theorem ggX4_takeNumber_X6_within : GoodIn wsX4_takeNumber wsX6_within := goodIn_r _ [8] (by decide +kernel) (by decide +kernel)
set_option maxRecDepth 20000 in
theorem gX4_takeNumber_X6_within_n96 : GoodIn wsX4_takeNumber (wsX6_within) := ggX4_takeNumber_X6_within
theorem dX4_takeNumber_0 : decode cX4_takeNumber 0 = .ok (.iconst (-1), 1) := by decide +kernel
theorem dX4_takeNumber_1 : decode cX4_takeNumber 1 = .ok (.istore_n 2, 1) := by decide +kernel
theorem dX4_takeNumber_2 : decode cX4_takeNumber 2 = .ok (.iconst 0, 1) := by decide +kernel
theorem dX4_takeNumber_3 : decode cX4_takeNumber 3 = .ok (.istore_n 3, 1) := by decide +kernel
theorem dX4_takeNumber_4 : decode cX4_takeNumber 4 = .ok (.iload_n 3, 1) := by decide +kernel
theorem dX4_takeNumber_5 : decode cX4_takeNumber 5 = .ok (.iload_n 1, 1) := by decide +kernel
theorem dX4_takeNumber_6 : decode cX4_takeNumber 6 = .ok (.if_icmp .ge 76, 3) := by decide +kernel
theorem dX4_takeNumber_9 : decode cX4_takeNumber 9 = .ok (.aload_n 0, 1) := by decide +kernel
theorem dX4_takeNumber_10 : decode cX4_takeNumber 10 = .ok (.getfield 26, 3) := by decide +kernel
theorem dX4_takeNumber_13 : decode cX4_takeNumber 13 = .ok (.aload_n 0, 1) := by decide +kernel
theorem dX4_takeNumber_14 : decode cX4_takeNumber 14 = .ok (.getfield 19, 3) := by decide +kernel
theorem dX4_takeNumber_17 : decode cX4_takeNumber 17 = .ok (.if_icmp .ge 65, 3) := by decide +kernel
theorem dX4_takeNumber_20 : decode cX4_takeNumber 20 = .ok (.aload_n 0, 1) := by decide +kernel
theorem dX4_takeNumber_21 : decode cX4_takeNumber 21 = .ok (.getfield 9, 3) := by decide +kernel
theorem dX4_takeNumber_24 : decode cX4_takeNumber 24 = .ok (.aload_n 0, 1) := by decide +kernel
theorem dX4_takeNumber_25 : decode cX4_takeNumber 25 = .ok (.getfield 26, 3) := by decide +kernel
theorem dX4_takeNumber_28 : decode cX4_takeNumber 28 = .ok (.invokestatic 92, 3) := by decide +kernel
theorem dX4_takeNumber_31 : decode cX4_takeNumber 31 = .ok (.bipush 48, 2) := by decide +kernel
theorem dX4_takeNumber_33 : decode cX4_takeNumber 33 = .ok (.isub, 1) := by decide +kernel
theorem dX4_takeNumber_34 : decode cX4_takeNumber 34 = .ok (.istore 4, 2) := by decide +kernel
theorem dX4_takeNumber_36 : decode cX4_takeNumber 36 = .ok (.iload 4, 2) := by decide +kernel
theorem dX4_takeNumber_38 : decode cX4_takeNumber 38 = .ok (.iconst 0, 1) := by decide +kernel
theorem dX4_takeNumber_39 : decode cX4_takeNumber 39 = .ok (.bipush 9, 2) := by decide +kernel
theorem dX4_takeNumber_41 : decode cX4_takeNumber 41 = .ok (.invokestatic 96, 3) := by decide +kernel
theorem dX4_takeNumber_44 : decode cX4_takeNumber 44 = .ok (.ifCond .ne 5, 3) := by decide +kernel
theorem dX4_takeNumber_47 : decode cX4_takeNumber 47 = .ok (.iload_n 2, 1) := by decide +kernel
theorem dX4_takeNumber_48 : decode cX4_takeNumber 48 = .ok (.ireturn, 1) := by decide +kernel
theorem dX4_takeNumber_49 : decode cX4_takeNumber 49 = .ok (.iload_n 3, 1) := by decide +kernel
theorem dX4_takeNumber_50 : decode cX4_takeNumber 50 = .ok (.ifCond .ne 8, 3) := by decide +kernel
theorem dX4_takeNumber_53 : decode cX4_takeNumber 53 = .ok (.iload 4, 2) := by decide +kernel
theorem dX4_takeNumber_55 : decode cX4_takeNumber 55 = .ok (.goto 10, 3) := by decide +kernel
theorem dX4_takeNumber_58 : decode cX4_takeNumber 58 = .ok (.iload_n 2, 1) := by decide +kernel
theorem dX4_takeNumber_59 : decode cX4_takeNumber 59 = .ok (.bipush 10, 2) := by decide +kernel
theorem dX4_takeNumber_61 : decode cX4_takeNumber 61 = .ok (.imul, 1) := by decide +kernel
theorem dX4_takeNumber_62 : decode cX4_takeNumber 62 = .ok (.iload 4, 2) := by decide +kernel
theorem dX4_takeNumber_64 : decode cX4_takeNumber 64 = .ok (.iadd, 1) := by decide +kernel
theorem dX4_takeNumber_65 : decode cX4_takeNumber 65 = .ok (.istore_n 2, 1) := by decide +kernel
theorem dX4_takeNumber_66 : decode cX4_takeNumber 66 = .ok (.aload_n 0, 1) := by decide +kernel
theorem dX4_takeNumber_67 : decode cX4_takeNumber 67 = .ok (.dup, 1) := by decide +kernel
theorem dX4_takeNumber_68 : decode cX4_takeNumber 68 = .ok (.getfield 26, 3) := by decide +kernel
theorem dX4_takeNumber_71 : decode cX4_takeNumber 71 = .ok (.iconst 1, 1) := by decide +kernel
theorem dX4_takeNumber_72 : decode cX4_takeNumber 72 = .ok (.iadd, 1) := by decide +kernel
theorem dX4_takeNumber_73 : decode cX4_takeNumber 73 = .ok (.putfield 26, 3) := by decide +kernel
theorem dX4_takeNumber_76 : decode cX4_takeNumber 76 = .ok (.iinc 3 1, 3) := by decide +kernel
theorem dX4_takeNumber_79 : decode cX4_takeNumber 79 = .ok (.goto (-75), 3) := by decide +kernel
theorem dX4_takeNumber_82 : decode cX4_takeNumber 82 = .ok (.iload_n 2, 1) := by decide +kernel
theorem dX4_takeNumber_83 : decode cX4_takeNumber 83 = .ok (.ireturn, 1) := by decide +kernel
theorem dX5_init_0 : decode cX5_init 0 = .ok (.aload_n 0, 1) := by decide +kernel
theorem dX5_init_1 : decode cX5_init 1 = .ok (.invokespecial 3, 3) := by decide +kernel
theorem dX5_init_4 : decode cX5_init 4 = .ok (.aload_n 0, 1) := by decide +kernel
theorem dX5_init_5 : decode cX5_init 5 = .ok (.bipush 80, 2) := by decide +kernel
theorem dX5_init_7 : decode cX5_init 7 = .ok (.newarray .int, 2) := by decide +kernel
theorem dX5_init_9 : decode cX5_init 9 = .ok (.putfield 9, 3) := by decide +kernel
theorem dX5_init_12 : decode cX5_init 12 = .ok (.aload_n 0, 1) := by decide +kernel
theorem dX5_init_13 : decode cX5_init 13 = .ok (.iload_n 1, 1) := by decide +kernel
theorem dX5_init_14 : decode cX5_init 14 = .ok (.bipush 20, 2) := by decide +kernel
theorem dX5_init_16 : decode cX5_init 16 = .ok (.invokestatic 15, 3) := by decide +kernel
theorem dX5_init_19 : decode cX5_init 19 = .ok (.putfield 21, 3) := by decide +kernel
theorem dX5_init_22 : decode cX5_init 22 = .ok (.return_, 1) := by decide +kernel
set_option maxRecDepth 20000 in
theorem ggX5_value_X6_at : GoodIn wsX5_value wsX6_at := goodIn_r _ [4] (by decide +kernel) (by decide +kernel)
set_option maxRecDepth 20000 in
theorem gX5_value_X6_at_n25 : GoodIn wsX5_value (wsX6_at) := ggX5_value_X6_at
theorem dX5_value_0 : decode cX5_value 0 = .ok (.aload_n 0, 1) := by decide +kernel
theorem dX5_value_1 : decode cX5_value 1 = .ok (.getfield 9, 3) := by decide +kernel
theorem dX5_value_4 : decode cX5_value 4 = .ok (.iload_n 1, 1) := by decide +kernel
theorem dX5_value_5 : decode cX5_value 5 = .ok (.iconst 4, 1) := by decide +kernel
theorem dX5_value_6 : decode cX5_value 6 = .ok (.imul, 1) := by decide +kernel
theorem dX5_value_7 : decode cX5_value 7 = .ok (.iload_n 2, 1) := by decide +kernel
theorem dX5_value_8 : decode cX5_value 8 = .ok (.iadd, 1) := by decide +kernel
theorem dX5_value_9 : decode cX5_value 9 = .ok (.invokestatic 25, 3) := by decide +kernel
theorem dX5_value_12 : decode cX5_value 12 = .ok (.ireturn, 1) := by decide +kernel
theorem dX5_isFull_0 : decode cX5_isFull 0 = .ok (.aload_n 0, 1) := by decide +kernel
theorem dX5_isFull_1 : decode cX5_isFull 1 = .ok (.getfield 29, 3) := by decide +kernel
theorem dX5_isFull_4 : decode cX5_isFull 4 = .ok (.aload_n 0, 1) := by decide +kernel
theorem dX5_isFull_5 : decode cX5_isFull 5 = .ok (.getfield 21, 3) := by decide +kernel
theorem dX5_isFull_8 : decode cX5_isFull 8 = .ok (.if_icmp .lt 7, 3) := by decide +kernel
theorem dX5_isFull_11 : decode cX5_isFull 11 = .ok (.iconst 1, 1) := by decide +kernel
theorem dX5_isFull_12 : decode cX5_isFull 12 = .ok (.goto 4, 3) := by decide +kernel
theorem dX5_isFull_15 : decode cX5_isFull 15 = .ok (.iconst 0, 1) := by decide +kernel
theorem dX5_isFull_16 : decode cX5_isFull 16 = .ok (.ireturn, 1) := by decide +kernel
set_option maxRecDepth 20000 in
theorem ggX5_hasTime_X5_value : GoodIn wsX5_hasTime wsX5_value := goodIn_r _ [6, 7, 8, 9, 10, 11, 12, 13] (by decide +kernel) (by decide +kernel)
set_option maxRecDepth 20000 in
theorem gX5_hasTime_X5_value : GoodIn wsX5_hasTime (wsV RX5 32 RX5 yX5_value wsX5_value) := goodIn_app (goodIn_of _ (by decide +kernel)) ggX5_hasTime_X5_value
theorem dX5_hasTime_0 : decode cX5_hasTime 0 = .ok (.iconst 0, 1) := by decide +kernel
theorem dX5_hasTime_1 : decode cX5_hasTime 1 = .ok (.istore_n 2, 1) := by decide +kernel
theorem dX5_hasTime_2 : decode cX5_hasTime 2 = .ok (.iload_n 2, 1) := by decide +kernel
theorem dX5_hasTime_3 : decode cX5_hasTime 3 = .ok (.aload_n 0, 1) := by decide +kernel
theorem dX5_hasTime_4 : decode cX5_hasTime 4 = .ok (.getfield 29, 3) := by decide +kernel
theorem dX5_hasTime_7 : decode cX5_hasTime 7 = .ok (.if_icmp .ge 21, 3) := by decide +kernel
theorem dX5_hasTime_10 : decode cX5_hasTime 10 = .ok (.aload_n 0, 1) := by decide +kernel
theorem dX5_hasTime_11 : decode cX5_hasTime 11 = .ok (.iload_n 2, 1) := by decide +kernel
theorem dX5_hasTime_12 : decode cX5_hasTime 12 = .ok (.iconst 0, 1) := by decide +kernel
theorem dX5_hasTime_13 : decode cX5_hasTime 13 = .ok (.invokevirtual 32, 3) := by decide +kernel
theorem dX5_hasTime_16 : decode cX5_hasTime 16 = .ok (.iload_n 1, 1) := by decide +kernel
theorem dX5_hasTime_17 : decode cX5_hasTime 17 = .ok (.if_icmp .ne 5, 3) := by decide +kernel
theorem dX5_hasTime_20 : decode cX5_hasTime 20 = .ok (.iconst 1, 1) := by decide +kernel
theorem dX5_hasTime_21 : decode cX5_hasTime 21 = .ok (.ireturn, 1) := by decide +kernel
theorem dX5_hasTime_22 : decode cX5_hasTime 22 = .ok (.iinc 2 1, 3) := by decide +kernel
theorem dX5_hasTime_25 : decode cX5_hasTime 25 = .ok (.goto (-23), 3) := by decide +kernel
theorem dX5_hasTime_28 : decode cX5_hasTime 28 = .ok (.iconst 0, 1) := by decide +kernel
theorem dX5_hasTime_29 : decode cX5_hasTime 29 = .ok (.ireturn, 1) := by decide +kernel
set_option maxRecDepth 20000 in
theorem ggX5_standsOut_X5_value : GoodIn wsX5_standsOut wsX5_value := goodIn_r _ [6, 7, 8, 9, 10, 11, 12, 13] (by decide +kernel) (by decide +kernel)
set_option maxRecDepth 20000 in
theorem gX5_standsOut_X5_value : GoodIn wsX5_standsOut (wsV RX5 32 RX5 yX5_value wsX5_value) := goodIn_app (goodIn_of _ (by decide +kernel)) ggX5_standsOut_X5_value
theorem dX5_standsOut_0 : decode cX5_standsOut 0 = .ok (.iload_n 1, 1) := by decide +kernel
theorem dX5_standsOut_1 : decode cX5_standsOut 1 = .ok (.ifCond .le 13, 3) := by decide +kernel
theorem dX5_standsOut_4 : decode cX5_standsOut 4 = .ok (.iload_n 1, 1) := by decide +kernel
theorem dX5_standsOut_5 : decode cX5_standsOut 5 = .ok (.aload_n 0, 1) := by decide +kernel
theorem dX5_standsOut_6 : decode cX5_standsOut 6 = .ok (.getfield 29, 3) := by decide +kernel
theorem dX5_standsOut_9 : decode cX5_standsOut 9 = .ok (.iconst 1, 1) := by decide +kernel
theorem dX5_standsOut_10 : decode cX5_standsOut 10 = .ok (.isub, 1) := by decide +kernel
theorem dX5_standsOut_11 : decode cX5_standsOut 11 = .ok (.if_icmp .lt 5, 3) := by decide +kernel
theorem dX5_standsOut_14 : decode cX5_standsOut 14 = .ok (.iconst 0, 1) := by decide +kernel
theorem dX5_standsOut_15 : decode cX5_standsOut 15 = .ok (.ireturn, 1) := by decide +kernel
theorem dX5_standsOut_16 : decode cX5_standsOut 16 = .ok (.aload_n 0, 1) := by decide +kernel
theorem dX5_standsOut_17 : decode cX5_standsOut 17 = .ok (.iload_n 1, 1) := by decide +kernel
theorem dX5_standsOut_18 : decode cX5_standsOut 18 = .ok (.iconst 1, 1) := by decide +kernel
theorem dX5_standsOut_19 : decode cX5_standsOut 19 = .ok (.invokevirtual 32, 3) := by decide +kernel
theorem dX5_standsOut_22 : decode cX5_standsOut 22 = .ok (.istore_n 3, 1) := by decide +kernel
theorem dX5_standsOut_23 : decode cX5_standsOut 23 = .ok (.iload_n 3, 1) := by decide +kernel
theorem dX5_standsOut_24 : decode cX5_standsOut 24 = .ok (.aload_n 0, 1) := by decide +kernel
theorem dX5_standsOut_25 : decode cX5_standsOut 25 = .ok (.iload_n 1, 1) := by decide +kernel
theorem dX5_standsOut_26 : decode cX5_standsOut 26 = .ok (.iconst 1, 1) := by decide +kernel
theorem dX5_standsOut_27 : decode cX5_standsOut 27 = .ok (.isub, 1) := by decide +kernel
theorem dX5_standsOut_28 : decode cX5_standsOut 28 = .ok (.iconst 1, 1) := by decide +kernel
theorem dX5_standsOut_29 : decode cX5_standsOut 29 = .ok (.invokevirtual 32, 3) := by decide +kernel
theorem dX5_standsOut_32 : decode cX5_standsOut 32 = .ok (.isub, 1) := by decide +kernel
theorem dX5_standsOut_33 : decode cX5_standsOut 33 = .ok (.istore 4, 2) := by decide +kernel
theorem dX5_standsOut_35 : decode cX5_standsOut 35 = .ok (.iload_n 3, 1) := by decide +kernel
theorem dX5_standsOut_36 : decode cX5_standsOut 36 = .ok (.aload_n 0, 1) := by decide +kernel
theorem dX5_standsOut_37 : decode cX5_standsOut 37 = .ok (.iload_n 1, 1) := by decide +kernel
theorem dX5_standsOut_38 : decode cX5_standsOut 38 = .ok (.iconst 1, 1) := by decide +kernel
theorem dX5_standsOut_39 : decode cX5_standsOut 39 = .ok (.iadd, 1) := by decide +kernel
theorem dX5_standsOut_40 : decode cX5_standsOut 40 = .ok (.iconst 1, 1) := by decide +kernel
theorem dX5_standsOut_41 : decode cX5_standsOut 41 = .ok (.invokevirtual 32, 3) := by decide +kernel
theorem dX5_standsOut_44 : decode cX5_standsOut 44 = .ok (.isub, 1) := by decide +kernel
theorem dX5_standsOut_45 : decode cX5_standsOut 45 = .ok (.istore 5, 2) := by decide +kernel
theorem dX5_standsOut_47 : decode cX5_standsOut 47 = .ok (.iload 4, 2) := by decide +kernel
theorem dX5_standsOut_49 : decode cX5_standsOut 49 = .ok (.iload_n 2, 1) := by decide +kernel
theorem dX5_standsOut_50 : decode cX5_standsOut 50 = .ok (.if_icmp .le 9, 3) := by decide +kernel
theorem dX5_standsOut_53 : decode cX5_standsOut 53 = .ok (.iload 5, 2) := by decide +kernel
theorem dX5_standsOut_55 : decode cX5_standsOut 55 = .ok (.iload_n 2, 1) := by decide +kernel
theorem dX5_standsOut_56 : decode cX5_standsOut 56 = .ok (.if_icmp .gt 17, 3) := by decide +kernel
theorem dX5_standsOut_59 : decode cX5_standsOut 59 = .ok (.iload 4, 2) := by decide +kernel
theorem dX5_standsOut_61 : decode cX5_standsOut 61 = .ok (.iload_n 2, 1) := by decide +kernel
theorem dX5_standsOut_62 : decode cX5_standsOut 62 = .ok (.ineg, 1) := by decide +kernel
theorem dX5_standsOut_63 : decode cX5_standsOut 63 = .ok (.if_icmp .ge 14, 3) := by decide +kernel
theorem dX5_standsOut_66 : decode cX5_standsOut 66 = .ok (.iload 5, 2) := by decide +kernel
theorem dX5_standsOut_68 : decode cX5_standsOut 68 = .ok (.iload_n 2, 1) := by decide +kernel
theorem dX5_standsOut_69 : decode cX5_standsOut 69 = .ok (.ineg, 1) := by decide +kernel
theorem dX5_standsOut_70 : decode cX5_standsOut 70 = .ok (.if_icmp .ge 7, 3) := by decide +kernel
theorem dX5_standsOut_73 : decode cX5_standsOut 73 = .ok (.iconst 1, 1) := by decide +kernel
theorem dX5_standsOut_74 : decode cX5_standsOut 74 = .ok (.goto 4, 3) := by decide +kernel
theorem dX5_standsOut_77 : decode cX5_standsOut 77 = .ok (.iconst 0, 1) := by decide +kernel
theorem dX5_standsOut_78 : decode cX5_standsOut 78 = .ok (.ireturn, 1) := by decide +kernel
set_option maxRecDepth 20000 in
theorem ggX5_insert_X5_value : GoodIn wsX5_insert wsX5_value := goodIn_r _ [7, 2, 8, 9, 10, 17, 18, 19] (by decide +kernel) (by decide +kernel)
set_option maxRecDepth 20000 in
theorem gX5_insert_X5_value : GoodIn wsX5_insert (wsV RX5 32 RX5 yX5_value wsX5_value) := goodIn_app (goodIn_of _ (by decide +kernel)) ggX5_insert_X5_value
set_option maxRecDepth 20000 in
theorem ggX5_insert_X5_move : GoodIn wsX5_insert wsX5_move := goodIn_r _ [14, 2, 3, 4, 5, 6, 7, 8, 9, 10, 15, 16, 17, 18, 19] (by decide +kernel) (by decide +kernel)
set_option maxRecDepth 20000 in
theorem gX5_insert_X5_move : GoodIn wsX5_insert (wsV RX5 35 RX5 yX5_move wsX5_move) := goodIn_app (goodIn_of _ (by decide +kernel)) ggX5_insert_X5_move
set_option maxRecDepth 20000 in
theorem ggX5_insert_X6_put : GoodIn wsX5_insert wsX6_put := goodIn_r _ [16] (by decide +kernel) (by decide +kernel)
set_option maxRecDepth 20000 in
theorem gX5_insert_X6_put_n39 : GoodIn wsX5_insert (wsX6_put) := ggX5_insert_X6_put
theorem dX5_insert_0 : decode cX5_insert 0 = .ok (.aload_n 0, 1) := by decide +kernel
theorem dX5_insert_1 : decode cX5_insert 1 = .ok (.getfield 29, 3) := by decide +kernel
theorem dX5_insert_4 : decode cX5_insert 4 = .ok (.istore 5, 2) := by decide +kernel
theorem dX5_insert_6 : decode cX5_insert 6 = .ok (.iload 5, 2) := by decide +kernel
theorem dX5_insert_8 : decode cX5_insert 8 = .ok (.ifCond .le 32, 3) := by decide +kernel
theorem dX5_insert_11 : decode cX5_insert 11 = .ok (.aload_n 0, 1) := by decide +kernel
theorem dX5_insert_12 : decode cX5_insert 12 = .ok (.iload 5, 2) := by decide +kernel
theorem dX5_insert_14 : decode cX5_insert 14 = .ok (.iconst 1, 1) := by decide +kernel
theorem dX5_insert_15 : decode cX5_insert 15 = .ok (.isub, 1) := by decide +kernel
theorem dX5_insert_16 : decode cX5_insert 16 = .ok (.iconst 0, 1) := by decide +kernel
theorem dX5_insert_17 : decode cX5_insert 17 = .ok (.invokevirtual 32, 3) := by decide +kernel
theorem dX5_insert_20 : decode cX5_insert 20 = .ok (.iload_n 2, 1) := by decide +kernel
theorem dX5_insert_21 : decode cX5_insert 21 = .ok (.if_icmp .le 19, 3) := by decide +kernel
theorem dX5_insert_24 : decode cX5_insert 24 = .ok (.aload_n 0, 1) := by decide +kernel
theorem dX5_insert_25 : decode cX5_insert 25 = .ok (.iload 5, 2) := by decide +kernel
theorem dX5_insert_27 : decode cX5_insert 27 = .ok (.iconst 1, 1) := by decide +kernel
theorem dX5_insert_28 : decode cX5_insert 28 = .ok (.isub, 1) := by decide +kernel
theorem dX5_insert_29 : decode cX5_insert 29 = .ok (.iload 5, 2) := by decide +kernel
theorem dX5_insert_31 : decode cX5_insert 31 = .ok (.invokevirtual 35, 3) := by decide +kernel
theorem dX5_insert_34 : decode cX5_insert 34 = .ok (.iinc 5 (-1), 3) := by decide +kernel
theorem dX5_insert_37 : decode cX5_insert 37 = .ok (.goto (-31), 3) := by decide +kernel
theorem dX5_insert_40 : decode cX5_insert 40 = .ok (.iload 5, 2) := by decide +kernel
theorem dX5_insert_42 : decode cX5_insert 42 = .ok (.iconst 4, 1) := by decide +kernel
theorem dX5_insert_43 : decode cX5_insert 43 = .ok (.imul, 1) := by decide +kernel
theorem dX5_insert_44 : decode cX5_insert 44 = .ok (.istore 6, 2) := by decide +kernel
theorem dX5_insert_46 : decode cX5_insert 46 = .ok (.aload_n 0, 1) := by decide +kernel
theorem dX5_insert_47 : decode cX5_insert 47 = .ok (.getfield 9, 3) := by decide +kernel
theorem dX5_insert_50 : decode cX5_insert 50 = .ok (.iload 6, 2) := by decide +kernel
theorem dX5_insert_52 : decode cX5_insert 52 = .ok (.iconst 0, 1) := by decide +kernel
theorem dX5_insert_53 : decode cX5_insert 53 = .ok (.iadd, 1) := by decide +kernel
theorem dX5_insert_54 : decode cX5_insert 54 = .ok (.iload_n 2, 1) := by decide +kernel
theorem dX5_insert_55 : decode cX5_insert 55 = .ok (.invokestatic 39, 3) := by decide +kernel
theorem dX5_insert_58 : decode cX5_insert 58 = .ok (.aload_n 0, 1) := by decide +kernel
theorem dX5_insert_59 : decode cX5_insert 59 = .ok (.getfield 9, 3) := by decide +kernel
theorem dX5_insert_62 : decode cX5_insert 62 = .ok (.iload 6, 2) := by decide +kernel
theorem dX5_insert_64 : decode cX5_insert 64 = .ok (.iconst 1, 1) := by decide +kernel
theorem dX5_insert_65 : decode cX5_insert 65 = .ok (.iadd, 1) := by decide +kernel
theorem dX5_insert_66 : decode cX5_insert 66 = .ok (.iload_n 3, 1) := by decide +kernel
theorem dX5_insert_67 : decode cX5_insert 67 = .ok (.invokestatic 39, 3) := by decide +kernel
theorem dX5_insert_70 : decode cX5_insert 70 = .ok (.aload_n 0, 1) := by decide +kernel
theorem dX5_insert_71 : decode cX5_insert 71 = .ok (.getfield 9, 3) := by decide +kernel
theorem dX5_insert_74 : decode cX5_insert 74 = .ok (.iload 6, 2) := by decide +kernel
theorem dX5_insert_76 : decode cX5_insert 76 = .ok (.iconst 2, 1) := by decide +kernel
theorem dX5_insert_77 : decode cX5_insert 77 = .ok (.iadd, 1) := by decide +kernel
theorem dX5_insert_78 : decode cX5_insert 78 = .ok (.iload 4, 2) := by decide +kernel
theorem dX5_insert_80 : decode cX5_insert 80 = .ok (.invokestatic 39, 3) := by decide +kernel
theorem dX5_insert_83 : decode cX5_insert 83 = .ok (.aload_n 0, 1) := by decide +kernel
theorem dX5_insert_84 : decode cX5_insert 84 = .ok (.getfield 9, 3) := by decide +kernel
theorem dX5_insert_87 : decode cX5_insert 87 = .ok (.iload 6, 2) := by decide +kernel
theorem dX5_insert_89 : decode cX5_insert 89 = .ok (.iconst 3, 1) := by decide +kernel
theorem dX5_insert_90 : decode cX5_insert 90 = .ok (.iadd, 1) := by decide +kernel
theorem dX5_insert_91 : decode cX5_insert 91 = .ok (.iload_n 1, 1) := by decide +kernel
theorem dX5_insert_92 : decode cX5_insert 92 = .ok (.invokestatic 39, 3) := by decide +kernel
theorem dX5_insert_95 : decode cX5_insert 95 = .ok (.aload_n 0, 1) := by decide +kernel
theorem dX5_insert_96 : decode cX5_insert 96 = .ok (.dup, 1) := by decide +kernel
theorem dX5_insert_97 : decode cX5_insert 97 = .ok (.getfield 29, 3) := by decide +kernel
theorem dX5_insert_100 : decode cX5_insert 100 = .ok (.iconst 1, 1) := by decide +kernel
theorem dX5_insert_101 : decode cX5_insert 101 = .ok (.iadd, 1) := by decide +kernel
theorem dX5_insert_102 : decode cX5_insert 102 = .ok (.putfield 29, 3) := by decide +kernel
theorem dX5_insert_105 : decode cX5_insert 105 = .ok (.iload 5, 2) := by decide +kernel
theorem dX5_insert_107 : decode cX5_insert 107 = .ok (.ireturn, 1) := by decide +kernel
set_option maxRecDepth 20000 in
theorem ggX5_remove_X5_move : GoodIn wsX5_remove wsX5_move := goodIn_r _ [6, 7, 8, 9, 10, 5, 11, 12, 13, 14, 15, 16, 17, 18, 19] (by decide +kernel) (by decide +kernel)
set_option maxRecDepth 20000 in
theorem gX5_remove_X5_move : GoodIn wsX5_remove (wsV RX5 35 RX5 yX5_move wsX5_move) := goodIn_app (goodIn_of _ (by decide +kernel)) ggX5_remove_X5_move
theorem dX5_remove_0 : decode cX5_remove 0 = .ok (.iload_n 1, 1) := by decide +kernel
theorem dX5_remove_1 : decode cX5_remove 1 = .ok (.iconst 1, 1) := by decide +kernel
theorem dX5_remove_2 : decode cX5_remove 2 = .ok (.iadd, 1) := by decide +kernel
theorem dX5_remove_3 : decode cX5_remove 3 = .ok (.istore_n 2, 1) := by decide +kernel
theorem dX5_remove_4 : decode cX5_remove 4 = .ok (.iload_n 2, 1) := by decide +kernel
theorem dX5_remove_5 : decode cX5_remove 5 = .ok (.aload_n 0, 1) := by decide +kernel
theorem dX5_remove_6 : decode cX5_remove 6 = .ok (.getfield 29, 3) := by decide +kernel
theorem dX5_remove_9 : decode cX5_remove 9 = .ok (.if_icmp .ge 17, 3) := by decide +kernel
theorem dX5_remove_12 : decode cX5_remove 12 = .ok (.aload_n 0, 1) := by decide +kernel
theorem dX5_remove_13 : decode cX5_remove 13 = .ok (.iload_n 2, 1) := by decide +kernel
theorem dX5_remove_14 : decode cX5_remove 14 = .ok (.iload_n 2, 1) := by decide +kernel
theorem dX5_remove_15 : decode cX5_remove 15 = .ok (.iconst 1, 1) := by decide +kernel
theorem dX5_remove_16 : decode cX5_remove 16 = .ok (.isub, 1) := by decide +kernel
theorem dX5_remove_17 : decode cX5_remove 17 = .ok (.invokevirtual 35, 3) := by decide +kernel
theorem dX5_remove_20 : decode cX5_remove 20 = .ok (.iinc 2 1, 3) := by decide +kernel
theorem dX5_remove_23 : decode cX5_remove 23 = .ok (.goto (-19), 3) := by decide +kernel
theorem dX5_remove_26 : decode cX5_remove 26 = .ok (.aload_n 0, 1) := by decide +kernel
theorem dX5_remove_27 : decode cX5_remove 27 = .ok (.dup, 1) := by decide +kernel
theorem dX5_remove_28 : decode cX5_remove 28 = .ok (.getfield 29, 3) := by decide +kernel
theorem dX5_remove_31 : decode cX5_remove 31 = .ok (.iconst 1, 1) := by decide +kernel
theorem dX5_remove_32 : decode cX5_remove 32 = .ok (.isub, 1) := by decide +kernel
theorem dX5_remove_33 : decode cX5_remove 33 = .ok (.putfield 29, 3) := by decide +kernel
theorem dX5_remove_36 : decode cX5_remove 36 = .ok (.return_, 1) := by decide +kernel
theorem dX5_copyFrom_0 : decode cX5_copyFrom 0 = .ok (.aload_n 1, 1) := by decide +kernel
theorem dX5_copyFrom_1 : decode cX5_copyFrom 1 = .ok (.getfield 9, 3) := by decide +kernel
theorem dX5_copyFrom_4 : decode cX5_copyFrom 4 = .ok (.iconst 0, 1) := by decide +kernel
theorem dX5_copyFrom_5 : decode cX5_copyFrom 5 = .ok (.aload_n 0, 1) := by decide +kernel
theorem dX5_copyFrom_6 : decode cX5_copyFrom 6 = .ok (.getfield 9, 3) := by decide +kernel
theorem dX5_copyFrom_9 : decode cX5_copyFrom 9 = .ok (.iconst 0, 1) := by decide +kernel
theorem dX5_copyFrom_10 : decode cX5_copyFrom 10 = .ok (.aload_n 1, 1) := by decide +kernel
theorem dX5_copyFrom_11 : decode cX5_copyFrom 11 = .ok (.getfield 9, 3) := by decide +kernel
theorem dX5_copyFrom_14 : decode cX5_copyFrom 14 = .ok (.arraylength, 1) := by decide +kernel
theorem dX5_copyFrom_15 : decode cX5_copyFrom 15 = .ok (.aload_n 0, 1) := by decide +kernel
theorem dX5_copyFrom_16 : decode cX5_copyFrom 16 = .ok (.getfield 9, 3) := by decide +kernel
theorem dX5_copyFrom_19 : decode cX5_copyFrom 19 = .ok (.arraylength, 1) := by decide +kernel
theorem dX5_copyFrom_20 : decode cX5_copyFrom 20 = .ok (.invokestatic 15, 3) := by decide +kernel
theorem dX5_copyFrom_23 : decode cX5_copyFrom 23 = .ok (.invokestatic 43, 3) := by decide +kernel
theorem dX5_copyFrom_26 : decode cX5_copyFrom 26 = .ok (.aload_n 0, 1) := by decide +kernel
theorem dX5_copyFrom_27 : decode cX5_copyFrom 27 = .ok (.aload_n 1, 1) := by decide +kernel
theorem dX5_copyFrom_28 : decode cX5_copyFrom 28 = .ok (.getfield 29, 3) := by decide +kernel
theorem dX5_copyFrom_31 : decode cX5_copyFrom 31 = .ok (.putfield 29, 3) := by decide +kernel
theorem dX5_copyFrom_34 : decode cX5_copyFrom 34 = .ok (.return_, 1) := by decide +kernel
set_option maxRecDepth 20000 in
theorem ggX5_move_X5_value : GoodIn wsX5_move wsX5_value := goodIn_r _ [6, 1, 7, 8, 9, 12, 13, 14] (by decide +kernel) (by decide +kernel)
set_option maxRecDepth 20000 in
theorem gX5_move_X5_value : GoodIn wsX5_move (wsV RX5 32 RX5 yX5_value wsX5_value) := goodIn_app (goodIn_of _ (by decide +kernel)) ggX5_move_X5_value
set_option maxRecDepth 20000 in
theorem ggX5_move_X6_put : GoodIn wsX5_move wsX6_put := goodIn_r _ [11] (by decide +kernel) (by decide +kernel)
set_option maxRecDepth 20000 in
theorem gX5_move_X6_put_n39 : GoodIn wsX5_move (wsX6_put) := ggX5_move_X6_put
theorem dX5_move_0 : decode cX5_move 0 = .ok (.iconst 0, 1) := by decide +kernel
theorem dX5_move_1 : decode cX5_move 1 = .ok (.istore_n 3, 1) := by decide +kernel
theorem dX5_move_2 : decode cX5_move 2 = .ok (.iload_n 3, 1) := by decide +kernel
theorem dX5_move_3 : decode cX5_move 3 = .ok (.iconst 4, 1) := by decide +kernel
theorem dX5_move_4 : decode cX5_move 4 = .ok (.if_icmp .ge 27, 3) := by decide +kernel
theorem dX5_move_7 : decode cX5_move 7 = .ok (.aload_n 0, 1) := by decide +kernel
theorem dX5_move_8 : decode cX5_move 8 = .ok (.getfield 9, 3) := by decide +kernel
theorem dX5_move_11 : decode cX5_move 11 = .ok (.iload_n 2, 1) := by decide +kernel
theorem dX5_move_12 : decode cX5_move 12 = .ok (.iconst 4, 1) := by decide +kernel
theorem dX5_move_13 : decode cX5_move 13 = .ok (.imul, 1) := by decide +kernel
theorem dX5_move_14 : decode cX5_move 14 = .ok (.iload_n 3, 1) := by decide +kernel
theorem dX5_move_15 : decode cX5_move 15 = .ok (.iadd, 1) := by decide +kernel
theorem dX5_move_16 : decode cX5_move 16 = .ok (.aload_n 0, 1) := by decide +kernel
theorem dX5_move_17 : decode cX5_move 17 = .ok (.iload_n 1, 1) := by decide +kernel
theorem dX5_move_18 : decode cX5_move 18 = .ok (.iload_n 3, 1) := by decide +kernel
theorem dX5_move_19 : decode cX5_move 19 = .ok (.invokevirtual 32, 3) := by decide +kernel
theorem dX5_move_22 : decode cX5_move 22 = .ok (.invokestatic 39, 3) := by decide +kernel
theorem dX5_move_25 : decode cX5_move 25 = .ok (.iinc 3 1, 3) := by decide +kernel
theorem dX5_move_28 : decode cX5_move 28 = .ok (.goto (-26), 3) := by decide +kernel
theorem dX5_move_31 : decode cX5_move 31 = .ok (.return_, 1) := by decide +kernel
set_option maxRecDepth 20000 in
theorem ggX6_init_X2_init : GoodIn wsX6_init wsX2_init := goodIn_r _ [30, 31, 2, 3, 32, 33, 34, 35, 36, 37, 38, 39, 40, 41, 42, 43, 44, 45, 46, 47, 48, 49, 50, 51, 52, 128, 129, 130, 82, 83, 84, 85, 86, 87, 88] (by decide +kernel) (by decide +kernel)
set_option maxRecDepth 20000 in
theorem gX6_init_X2_init : GoodIn wsX6_init (wsX2_init) := ggX6_init_X2_init
set_option maxRecDepth 20000 in
theorem ggX6_init_X0_init : GoodIn wsX6_init wsX0_init := goodIn_r _ [55, 56, 2, 3, 57, 58, 5, 6, 59, 29, 30, 31, 32, 33, 34, 35, 36, 37, 38, 39, 40, 41, 42, 43, 44, 45, 46, 47, 48, 49, 50, 51, 52, 98, 99, 100, 82, 83, 84, 85, 86, 87, 88, 128, 129, 130] (by decide +kernel) (by decide +kernel)
set_option maxRecDepth 20000 in
theorem gX6_init_X0_init : GoodIn wsX6_init (wsX0_init) := ggX6_init_X0_init
set_option maxRecDepth 20000 in
theorem ggX6_init_X3_init : GoodIn wsX6_init wsX3_init := goodIn_r _ [62, 63, 2, 3, 46, 64, 65, 66, 67, 68, 69, 70, 71, 101, 102, 103, 104, 105, 106, 107, 108, 109, 110, 111, 112] (by decide +kernel) (by decide +kernel)
set_option maxRecDepth 20000 in
theorem gX6_init_X3_init : GoodIn wsX6_init (wsX3_init) := ggX6_init_X3_init
set_option maxRecDepth 20000 in
theorem ggX6_init_X1_init : GoodIn wsX6_init wsX1_init := goodIn_r _ [74, 75, 2, 3] (by decide +kernel) (by decide +kernel)
set_option maxRecDepth 20000 in
theorem gX6_init_X1_init : GoodIn wsX6_init (wsX1_init) := ggX6_init_X1_init
set_option maxRecDepth 20000 in
theorem ggX6_init_X4_init : GoodIn wsX6_init wsX4_init := goodIn_r _ [78, 79, 2, 3, 46, 80, 81, 117, 118, 119, 120, 121, 122, 123, 124, 125, 126, 127] (by decide +kernel) (by decide +kernel)
set_option maxRecDepth 20000 in
theorem gX6_init_X4_init : GoodIn wsX6_init (wsX4_init) := ggX6_init_X4_init
theorem dX6_init_0 : decode cX6_init 0 = .ok (.aload_n 0, 1) := by decide +kernel
theorem dX6_init_1 : decode cX6_init 1 = .ok (.invokespecial 1, 3) := by decide +kernel
theorem dX6_init_4 : decode cX6_init 4 = .ok (.aload_n 0, 1) := by decide +kernel
theorem dX6_init_5 : decode cX6_init 5 = .ok (.new 7, 3) := by decide +kernel
theorem dX6_init_8 : decode cX6_init 8 = .ok (.dup, 1) := by decide +kernel
theorem dX6_init_9 : decode cX6_init 9 = .ok (.invokespecial 9, 3) := by decide +kernel
theorem dX6_init_12 : decode cX6_init 12 = .ok (.putfield 10, 3) := by decide +kernel
theorem dX6_init_15 : decode cX6_init 15 = .ok (.aload_n 0, 1) := by decide +kernel
theorem dX6_init_16 : decode cX6_init 16 = .ok (.new 7, 3) := by decide +kernel
theorem dX6_init_19 : decode cX6_init 19 = .ok (.dup, 1) := by decide +kernel
theorem dX6_init_20 : decode cX6_init 20 = .ok (.invokespecial 9, 3) := by decide +kernel
theorem dX6_init_23 : decode cX6_init 23 = .ok (.putfield 16, 3) := by decide +kernel
theorem dX6_init_26 : decode cX6_init 26 = .ok (.aload_n 0, 1) := by decide +kernel
theorem dX6_init_27 : decode cX6_init 27 = .ok (.new 19, 3) := by decide +kernel
theorem dX6_init_30 : decode cX6_init 30 = .ok (.dup, 1) := by decide +kernel
theorem dX6_init_31 : decode cX6_init 31 = .ok (.invokespecial 21, 3) := by decide +kernel
theorem dX6_init_34 : decode cX6_init 34 = .ok (.putfield 22, 3) := by decide +kernel
theorem dX6_init_37 : decode cX6_init 37 = .ok (.aload_n 0, 1) := by decide +kernel
theorem dX6_init_38 : decode cX6_init 38 = .ok (.new 26, 3) := by decide +kernel
theorem dX6_init_41 : decode cX6_init 41 = .ok (.dup, 1) := by decide +kernel
theorem dX6_init_42 : decode cX6_init 42 = .ok (.invokespecial 28, 3) := by decide +kernel
theorem dX6_init_45 : decode cX6_init 45 = .ok (.putfield 29, 3) := by decide +kernel
theorem dX6_init_48 : decode cX6_init 48 = .ok (.aload_n 0, 1) := by decide +kernel
theorem dX6_init_49 : decode cX6_init 49 = .ok (.new 26, 3) := by decide +kernel
theorem dX6_init_52 : decode cX6_init 52 = .ok (.dup, 1) := by decide +kernel
theorem dX6_init_53 : decode cX6_init 53 = .ok (.invokespecial 28, 3) := by decide +kernel
theorem dX6_init_56 : decode cX6_init 56 = .ok (.putfield 33, 3) := by decide +kernel
theorem dX6_init_59 : decode cX6_init 59 = .ok (.aload_n 0, 1) := by decide +kernel
theorem dX6_init_60 : decode cX6_init 60 = .ok (.new 26, 3) := by decide +kernel
theorem dX6_init_63 : decode cX6_init 63 = .ok (.dup, 1) := by decide +kernel
theorem dX6_init_64 : decode cX6_init 64 = .ok (.invokespecial 28, 3) := by decide +kernel
theorem dX6_init_67 : decode cX6_init 67 = .ok (.putfield 36, 3) := by decide +kernel
theorem dX6_init_70 : decode cX6_init 70 = .ok (.aload_n 0, 1) := by decide +kernel
theorem dX6_init_71 : decode cX6_init 71 = .ok (.new 39, 3) := by decide +kernel
theorem dX6_init_74 : decode cX6_init 74 = .ok (.dup, 1) := by decide +kernel
theorem dX6_init_75 : decode cX6_init 75 = .ok (.invokespecial 41, 3) := by decide +kernel
theorem dX6_init_78 : decode cX6_init 78 = .ok (.putfield 42, 3) := by decide +kernel
theorem dX6_init_81 : decode cX6_init 81 = .ok (.aload_n 0, 1) := by decide +kernel
theorem dX6_init_82 : decode cX6_init 82 = .ok (.new 46, 3) := by decide +kernel
theorem dX6_init_85 : decode cX6_init 85 = .ok (.dup, 1) := by decide +kernel
theorem dX6_init_86 : decode cX6_init 86 = .ok (.invokespecial 48, 3) := by decide +kernel
theorem dX6_init_89 : decode cX6_init 89 = .ok (.putfield 49, 3) := by decide +kernel
theorem dX6_init_92 : decode cX6_init 92 = .ok (.aload_n 0, 1) := by decide +kernel
theorem dX6_init_93 : decode cX6_init 93 = .ok (.iconst 1, 1) := by decide +kernel
theorem dX6_init_94 : decode cX6_init 94 = .ok (.putfield 53, 3) := by decide +kernel
theorem dX6_init_97 : decode cX6_init 97 = .ok (.return_, 1) := by decide +kernel
set_option maxRecDepth 20000 in
theorem ggX6_set_X6_isSetting : GoodIn wsX6_set wsX6_isSetting := goodIn_r _ [6, 7, 8, 9, 10, 5, 11] (by decide +kernel) (by decide +kernel)
set_option maxRecDepth 20000 in
theorem gX6_set_X6_isSetting : GoodIn wsX6_set (va_wsS RX6 57 yX6_isSetting wsX6_isSetting) := goodIn_app (goodIn_of _ (by decide +kernel)) ggX6_set_X6_isSetting
set_option maxRecDepth 20000 in
theorem ggX6_set_X6_record : GoodIn wsX6_set wsX6_record := goodIn_r _ [15, 16, 2, 17, 18, 19, 20, 21, 22, 23, 24, 25, 26, 27, 28, 29, 30, 31, 32, 33, 34, 35, 36, 37, 38, 39, 40, 41, 42, 43, 44, 45, 46, 47, 48, 49, 50, 51, 52, 53, 54, 55, 56, 65, 66, 67, 68, 69, 70, 71, 72, 73, 74, 75, 76, 77, 78, 79, 80, 81, 82, 83, 84, 85, 86] (by decide +kernel) (by decide +kernel)
set_option maxRecDepth 20000 in
theorem gX6_set_X6_record : GoodIn wsX6_set (wsV RX6 62 RX6 yX6_record wsX6_record) := goodIn_app (goodIn_of _ (by decide +kernel)) ggX6_set_X6_record
set_option maxRecDepth 20000 in
theorem ggX6_set_X2_setting : GoodIn wsX6_set wsX2_setting := goodIn_r _ [60, 39, 40, 41, 77, 78, 79, 80, 81, 82, 83] (by decide +kernel) (by decide +kernel)
set_option maxRecDepth 20000 in
theorem gX6_set_X2_setting : GoodIn wsX6_set (wsV RX6 65 RX2 yX2_setting wsX2_setting) := goodIn_app (goodIn_of _ (by decide +kernel)) ggX6_set_X2_setting
set_option maxRecDepth 20000 in
theorem ggX6_set_X2_putSetting : GoodIn wsX6_set wsX2_putSetting := goodIn_r _ [64, 39, 40, 41, 77, 78, 79, 80, 81, 82, 83] (by decide +kernel) (by decide +kernel)
set_option maxRecDepth 20000 in
theorem gX6_set_X2_putSetting : GoodIn wsX6_set (wsV RX6 69 RX2 yX2_putSetting wsX2_putSetting) := goodIn_app (goodIn_of _ (by decide +kernel)) ggX6_set_X2_putSetting
theorem dX6_set_0 : decode cX6_set 0 = .ok (.iload_n 1, 1) := by decide +kernel
theorem dX6_set_1 : decode cX6_set 1 = .ok (.iload_n 2, 1) := by decide +kernel
theorem dX6_set_2 : decode cX6_set 2 = .ok (.invokestatic 57, 3) := by decide +kernel
theorem dX6_set_5 : decode cX6_set 5 = .ok (.ifCond .ne 6, 3) := by decide +kernel
theorem dX6_set_8 : decode cX6_set 8 = .ok (.ldc 61, 2) := by decide +kernel
theorem dX6_set_10 : decode cX6_set 10 = .ok (.ireturn, 1) := by decide +kernel
theorem dX6_set_11 : decode cX6_set 11 = .ok (.aload_n 0, 1) := by decide +kernel
theorem dX6_set_12 : decode cX6_set 12 = .ok (.invokevirtual 62, 3) := by decide +kernel
theorem dX6_set_15 : decode cX6_set 15 = .ok (.aload_n 0, 1) := by decide +kernel
theorem dX6_set_16 : decode cX6_set 16 = .ok (.getfield 10, 3) := by decide +kernel
theorem dX6_set_19 : decode cX6_set 19 = .ok (.iload_n 1, 1) := by decide +kernel
theorem dX6_set_20 : decode cX6_set 20 = .ok (.invokevirtual 65, 3) := by decide +kernel
theorem dX6_set_23 : decode cX6_set 23 = .ok (.istore_n 3, 1) := by decide +kernel
theorem dX6_set_24 : decode cX6_set 24 = .ok (.aload_n 0, 1) := by decide +kernel
theorem dX6_set_25 : decode cX6_set 25 = .ok (.getfield 10, 3) := by decide +kernel
theorem dX6_set_28 : decode cX6_set 28 = .ok (.iload_n 1, 1) := by decide +kernel
theorem dX6_set_29 : decode cX6_set 29 = .ok (.iload_n 2, 1) := by decide +kernel
theorem dX6_set_30 : decode cX6_set 30 = .ok (.invokevirtual 69, 3) := by decide +kernel
theorem dX6_set_33 : decode cX6_set 33 = .ok (.iload_n 3, 1) := by decide +kernel
theorem dX6_set_34 : decode cX6_set 34 = .ok (.ireturn, 1) := by decide +kernel
set_option maxRecDepth 20000 in
theorem ggX6_base_X6_isReading : GoodIn wsX6_base wsX6_isReading := goodIn_r _ [5, 6, 7, 8, 9, 4, 10, 11, 12, 13, 14, 15, 16] (by decide +kernel) (by decide +kernel)
set_option maxRecDepth 20000 in
theorem gX6_base_X6_isReading : GoodIn wsX6_base (va_wsS RX6 73 yX6_isReading wsX6_isReading) := goodIn_app (goodIn_of _ (by decide +kernel)) ggX6_base_X6_isReading
set_option maxRecDepth 20000 in
theorem ggX6_base_X6_take : GoodIn wsX6_base wsX6_take := goodIn_r _ [20, 21, 22, 23, 24, 25, 26, 27, 28, 29, 30, 31, 32, 33, 34, 35, 36, 37, 38, 39, 40, 41, 42, 43, 44, 4, 45, 46, 47, 48, 49, 50, 51, 52, 53, 54, 55, 56, 57, 58, 59, 60, 61, 62, 63, 64, 65, 66, 67, 68, 69, 70, 71, 72, 73, 74, 75, 76, 77, 78, 79, 80, 81, 82, 83, 84, 85, 86, 87, 88, 89, 90, 91, 92, 93, 94, 95, 96, 97, 98, 99, 100, 101, 102, 103, 104, 105, 106, 107, 108, 109, 110, 111, 112, 113, 114, 115, 116, 117, 118, 119] (by decide +kernel) (by decide +kernel)
set_option maxRecDepth 20000 in
theorem gX6_base_X6_take : GoodIn wsX6_base (wsV RX6 77 RX6 yX6_take wsX6_take) := goodIn_app (goodIn_of _ (by decide +kernel)) ggX6_base_X6_take
theorem dX6_base_0 : decode cX6_base 0 = .ok (.iload_n 1, 1) := by decide +kernel
theorem dX6_base_1 : decode cX6_base 1 = .ok (.iload_n 2, 1) := by decide +kernel
theorem dX6_base_2 : decode cX6_base 2 = .ok (.iload_n 3, 1) := by decide +kernel
theorem dX6_base_3 : decode cX6_base 3 = .ok (.invokestatic 73, 3) := by decide +kernel
theorem dX6_base_6 : decode cX6_base 6 = .ok (.ifCond .ne 6, 3) := by decide +kernel
theorem dX6_base_9 : decode cX6_base 9 = .ok (.ldc 61, 2) := by decide +kernel
theorem dX6_base_11 : decode cX6_base 11 = .ok (.ireturn, 1) := by decide +kernel
theorem dX6_base_12 : decode cX6_base 12 = .ok (.aload_n 0, 1) := by decide +kernel
theorem dX6_base_13 : decode cX6_base 13 = .ok (.iconst (-1), 1) := by decide +kernel
theorem dX6_base_14 : decode cX6_base 14 = .ok (.iconst 0, 1) := by decide +kernel
theorem dX6_base_15 : decode cX6_base 15 = .ok (.iload_n 1, 1) := by decide +kernel
theorem dX6_base_16 : decode cX6_base 16 = .ok (.iload_n 2, 1) := by decide +kernel
theorem dX6_base_17 : decode cX6_base 17 = .ok (.iload_n 3, 1) := by decide +kernel
theorem dX6_base_18 : decode cX6_base 18 = .ok (.invokevirtual 77, 3) := by decide +kernel
theorem dX6_base_21 : decode cX6_base 21 = .ok (.ireturn, 1) := by decide +kernel
set_option maxRecDepth 20000 in
theorem ggX6_read_X6_isCell : GoodIn wsX6_read wsX6_isCell := goodIn_r _ [5, 6, 7, 4, 8] (by decide +kernel) (by decide +kernel)
set_option maxRecDepth 20000 in
theorem gX6_read_X6_isCell : GoodIn wsX6_read (va_wsS RX6 81 yX6_isCell wsX6_isCell) := goodIn_app (goodIn_of _ (by decide +kernel)) ggX6_read_X6_isCell
set_option maxRecDepth 20000 in
theorem ggX6_read_X6_isPoint : GoodIn wsX6_read wsX6_isPoint := goodIn_r _ [11, 6, 7, 4, 8] (by decide +kernel) (by decide +kernel)
set_option maxRecDepth 20000 in
theorem gX6_read_X6_isPoint : GoodIn wsX6_read (va_wsS RX6 85 yX6_isPoint wsX6_isPoint) := goodIn_app (goodIn_of _ (by decide +kernel)) ggX6_read_X6_isPoint
set_option maxRecDepth 20000 in
theorem ggX6_read_X6_isReading : GoodIn wsX6_read wsX6_isReading := goodIn_r _ [14, 15, 16, 17, 18, 4, 19, 6, 7, 8, 20, 21, 22] (by decide +kernel) (by decide +kernel)
set_option maxRecDepth 20000 in
theorem gX6_read_X6_isReading : GoodIn wsX6_read (va_wsS RX6 73 yX6_isReading wsX6_isReading) := goodIn_app (goodIn_of _ (by decide +kernel)) ggX6_read_X6_isReading
set_option maxRecDepth 20000 in
theorem ggX6_read_X6_take : GoodIn wsX6_read wsX6_take := goodIn_r _ [26, 27, 28, 29, 30, 31, 32, 33, 34, 35, 36, 37, 38, 39, 40, 41, 42, 43, 44, 45, 46, 47, 48, 49, 50, 4, 51, 52, 53, 54, 55, 56, 57, 58, 59, 60, 61, 62, 63, 64, 65, 66, 67, 68, 69, 70, 71, 72, 73, 74, 75, 76, 77, 78, 79, 80, 81, 82, 83, 84, 85, 86, 87, 88, 89, 90, 91, 92, 93, 94, 95, 96, 97, 98, 99, 100, 101, 102, 103, 104, 105, 106, 107, 108, 109, 110, 111, 112, 113, 114, 115, 116, 117, 118, 119, 120, 121, 122, 123, 124, 125] (by decide +kernel) (by decide +kernel)
set_option maxRecDepth 20000 in
theorem gX6_read_X6_take : GoodIn wsX6_read (wsV RX6 77 RX6 yX6_take wsX6_take) := goodIn_app (goodIn_of _ (by decide +kernel)) ggX6_read_X6_take
theorem dX6_read_0 : decode cX6_read 0 = .ok (.iload_n 1, 1) := by decide +kernel
theorem dX6_read_1 : decode cX6_read 1 = .ok (.invokestatic 81, 3) := by decide +kernel
theorem dX6_read_4 : decode cX6_read 4 = .ok (.ifCond .eq 21, 3) := by decide +kernel
theorem dX6_read_7 : decode cX6_read 7 = .ok (.iload_n 2, 1) := by decide +kernel
theorem dX6_read_8 : decode cX6_read 8 = .ok (.invokestatic 85, 3) := by decide +kernel
theorem dX6_read_11 : decode cX6_read 11 = .ok (.ifCond .eq 14, 3) := by decide +kernel
theorem dX6_read_14 : decode cX6_read 14 = .ok (.iload_n 3, 1) := by decide +kernel
theorem dX6_read_15 : decode cX6_read 15 = .ok (.iload 4, 2) := by decide +kernel
theorem dX6_read_17 : decode cX6_read 17 = .ok (.iload 5, 2) := by decide +kernel
theorem dX6_read_19 : decode cX6_read 19 = .ok (.invokestatic 73, 3) := by decide +kernel
theorem dX6_read_22 : decode cX6_read 22 = .ok (.ifCond .ne 6, 3) := by decide +kernel
theorem dX6_read_25 : decode cX6_read 25 = .ok (.ldc 61, 2) := by decide +kernel
theorem dX6_read_27 : decode cX6_read 27 = .ok (.ireturn, 1) := by decide +kernel
theorem dX6_read_28 : decode cX6_read 28 = .ok (.aload_n 0, 1) := by decide +kernel
theorem dX6_read_29 : decode cX6_read 29 = .ok (.iload_n 1, 1) := by decide +kernel
theorem dX6_read_30 : decode cX6_read 30 = .ok (.iload_n 2, 1) := by decide +kernel
theorem dX6_read_31 : decode cX6_read 31 = .ok (.iload_n 3, 1) := by decide +kernel
theorem dX6_read_32 : decode cX6_read 32 = .ok (.iload 4, 2) := by decide +kernel
theorem dX6_read_34 : decode cX6_read 34 = .ok (.iload 5, 2) := by decide +kernel
theorem dX6_read_36 : decode cX6_read 36 = .ok (.invokevirtual 77, 3) := by decide +kernel
theorem dX6_read_39 : decode cX6_read 39 = .ok (.ireturn, 1) := by decide +kernel
set_option maxRecDepth 20000 in
theorem ggX6_drop_X6_isReadingOf : GoodIn wsX6_drop wsX6_isReadingOf := goodIn_r _ [7, 2, 8, 9, 6, 10, 11, 12, 13, 14, 15, 16, 17, 18, 19, 20, 21, 22, 79, 80, 81, 82, 83, 84, 85, 86, 87, 88, 89, 90, 91, 92, 93, 94, 95, 96, 97] (by decide +kernel) (by decide +kernel)
set_option maxRecDepth 20000 in
theorem gX6_drop_X6_isReadingOf : GoodIn wsX6_drop (wsV RX6 88 RX6 yX6_isReadingOf wsX6_isReadingOf) := goodIn_app (goodIn_of _ (by decide +kernel)) ggX6_drop_X6_isReadingOf
set_option maxRecDepth 20000 in
theorem ggX6_drop_X6_record : GoodIn wsX6_drop wsX6_record := goodIn_r _ [26, 27, 2, 28, 29, 30, 31, 32, 33, 34, 35, 36, 37, 38, 39, 40, 41, 42, 43, 17, 44, 22, 19, 20, 21, 45, 46, 47, 48, 49, 50, 51, 52, 53, 54, 55, 56, 57, 58, 59, 60, 61, 62, 79, 80, 81, 82, 83, 84, 85, 86, 87, 98, 99, 100, 91, 92, 93, 94, 95, 96, 97, 88, 89, 90] (by decide +kernel) (by decide +kernel)
set_option maxRecDepth 20000 in
theorem gX6_drop_X6_record : GoodIn wsX6_drop (wsV RX6 62 RX6 yX6_record wsX6_record) := goodIn_app (goodIn_of _ (by decide +kernel)) ggX6_drop_X6_record
set_option maxRecDepth 20000 in
theorem ggX6_drop_X2_track : GoodIn wsX6_drop wsX2_track := goodIn_r _ [18, 19, 20, 21, 22, 91, 92, 93, 94, 95, 96, 97] (by decide +kernel) (by decide +kernel)
set_option maxRecDepth 20000 in
theorem gX6_drop_X2_track : GoodIn wsX6_drop (wsV RX6 91 RX2 yX2_track wsX2_track) := goodIn_app (goodIn_of _ (by decide +kernel)) ggX6_drop_X2_track
set_option maxRecDepth 20000 in
theorem ggX6_drop_X5_remove : GoodIn wsX6_drop wsX5_remove := goodIn_r _ [66, 62, 67, 68, 69, 51, 70, 53, 71, 72, 73, 74, 75, 6, 76, 77, 78, 88, 89, 90] (by decide +kernel) (by decide +kernel)
set_option maxRecDepth 20000 in
theorem gX6_drop_X5_remove : GoodIn wsX6_drop (wsV RX6 95 RX5 yX5_remove wsX5_remove) := goodIn_app (goodIn_of _ (by decide +kernel)) ggX6_drop_X5_remove
theorem dX6_drop_0 : decode cX6_drop 0 = .ok (.aload_n 0, 1) := by decide +kernel
theorem dX6_drop_1 : decode cX6_drop 1 = .ok (.iload_n 1, 1) := by decide +kernel
theorem dX6_drop_2 : decode cX6_drop 2 = .ok (.iload_n 2, 1) := by decide +kernel
theorem dX6_drop_3 : decode cX6_drop 3 = .ok (.invokevirtual 88, 3) := by decide +kernel
theorem dX6_drop_6 : decode cX6_drop 6 = .ok (.ifCond .ne 6, 3) := by decide +kernel
theorem dX6_drop_9 : decode cX6_drop 9 = .ok (.ldc 61, 2) := by decide +kernel
theorem dX6_drop_11 : decode cX6_drop 11 = .ok (.ireturn, 1) := by decide +kernel
theorem dX6_drop_12 : decode cX6_drop 12 = .ok (.aload_n 0, 1) := by decide +kernel
theorem dX6_drop_13 : decode cX6_drop 13 = .ok (.invokevirtual 62, 3) := by decide +kernel
theorem dX6_drop_16 : decode cX6_drop 16 = .ok (.aload_n 0, 1) := by decide +kernel
theorem dX6_drop_17 : decode cX6_drop 17 = .ok (.getfield 10, 3) := by decide +kernel
theorem dX6_drop_20 : decode cX6_drop 20 = .ok (.iload_n 1, 1) := by decide +kernel
theorem dX6_drop_21 : decode cX6_drop 21 = .ok (.invokevirtual 91, 3) := by decide +kernel
theorem dX6_drop_24 : decode cX6_drop 24 = .ok (.astore_n 3, 1) := by decide +kernel
theorem dX6_drop_25 : decode cX6_drop 25 = .ok (.aload_n 3, 1) := by decide +kernel
theorem dX6_drop_26 : decode cX6_drop 26 = .ok (.iload_n 2, 1) := by decide +kernel
theorem dX6_drop_27 : decode cX6_drop 27 = .ok (.invokevirtual 95, 3) := by decide +kernel
theorem dX6_drop_30 : decode cX6_drop 30 = .ok (.aload_n 3, 1) := by decide +kernel
theorem dX6_drop_31 : decode cX6_drop 31 = .ok (.getfield 101, 3) := by decide +kernel
theorem dX6_drop_34 : decode cX6_drop 34 = .ok (.ireturn, 1) := by decide +kernel
set_option maxRecDepth 20000 in
theorem ggX6_reading_X6_isReadingOf : GoodIn wsX6_reading wsX6_isReadingOf := goodIn_r _ [8, 3, 9, 10, 7, 11, 12, 13, 14, 15, 16, 17, 18, 19, 20, 21, 22, 23, 147, 148, 149, 150, 151, 152, 153, 154, 155, 156, 157, 158, 159, 160, 161, 162, 163, 164, 165] (by decide +kernel) (by decide +kernel)
set_option maxRecDepth 20000 in
theorem gX6_reading_X6_isReadingOf : GoodIn wsX6_reading (wsV RX6 88 RX6 yX6_isReadingOf wsX6_isReadingOf) := goodIn_app (goodIn_of _ (by decide +kernel)) ggX6_reading_X6_isReadingOf
set_option maxRecDepth 20000 in
theorem ggX6_reading_X6_within : GoodIn wsX6_reading wsX6_within := goodIn_r _ [14] (by decide +kernel) (by decide +kernel)
set_option maxRecDepth 20000 in
theorem gX6_reading_X6_within : GoodIn wsX6_reading (va_wsS RX6 105 yX6_within wsX6_within) := goodIn_app (goodIn_of _ (by decide +kernel)) ggX6_reading_X6_within
set_option maxRecDepth 20000 in
theorem ggX6_reading_X6_refresh : GoodIn wsX6_reading wsX6_refresh := goodIn_r _ [27, 28, 29, 3, 30, 31, 32, 33, 34, 35, 36, 37, 38, 39, 40, 41, 42, 43, 44, 16, 17, 18, 19, 20, 21, 22, 23, 45, 46, 47, 48, 49, 50, 51, 7, 52, 53, 54, 55, 56, 57, 58, 59, 60, 61, 62, 63, 64, 65, 66, 67, 68, 69, 70, 71, 72, 73, 74, 75, 76, 77, 78, 79, 80, 81, 82, 83, 84, 85, 86, 87, 88, 89, 90, 91, 92, 93, 94, 95, 96, 97, 98, 99, 100, 101, 102, 103, 104, 105, 106, 107, 108, 109, 110, 111, 112, 113, 114, 115, 116, 117, 118, 119, 120, 121, 122, 123, 124, 125, 126, 127, 128, 129, 130, 131, 132, 133, 134, 135, 136, 137, 138, 139, 147, 148, 149, 150, 151, 152, 153, 154, 155, 156, 157, 158, 166, 167, 168, 169, 170, 171, 172, 173, 174, 175, 176, 177, 159, 160, 161, 162, 163, 164, 165] (by decide +kernel) (by decide +kernel)
set_option maxRecDepth 20000 in
theorem gX6_reading_X6_refresh : GoodIn wsX6_reading (wsV RX6 109 RX6 yX6_refresh wsX6_refresh) := goodIn_app (goodIn_of _ (by decide +kernel)) ggX6_reading_X6_refresh
set_option maxRecDepth 20000 in
theorem ggX6_reading_X6_surveyOf : GoodIn wsX6_reading wsX6_surveyOf := goodIn_r _ [143, 29, 30, 31, 147, 148, 149, 150, 151, 152, 153, 154, 155] (by decide +kernel) (by decide +kernel)
set_option maxRecDepth 20000 in
theorem gX6_reading_X6_surveyOf : GoodIn wsX6_reading (wsV RX6 112 RX6 yX6_surveyOf wsX6_surveyOf) := goodIn_app (goodIn_of _ (by decide +kernel)) ggX6_reading_X6_surveyOf
set_option maxRecDepth 20000 in
theorem ggX6_reading_X3_isGust : GoodIn wsX6_reading wsX3_isGust := goodIn_r _ [91, 41, 51, 7, 52, 166, 167, 168, 169, 170, 171, 172, 173, 174, 175, 176, 177] (by decide +kernel) (by decide +kernel)
set_option maxRecDepth 20000 in
theorem gX6_reading_X3_isGust : GoodIn wsX6_reading (wsV RX6 116 RX3 yX3_isGust wsX3_isGust) := goodIn_app (goodIn_of _ (by decide +kernel)) ggX6_reading_X3_isGust
set_option maxRecDepth 20000 in
theorem ggX6_reading_X3_isGood : GoodIn wsX6_reading wsX3_isGood := goodIn_r _ [95, 40, 96, 41, 51, 7, 52, 166, 167, 168, 169, 170, 171, 172, 173, 174, 175, 176, 177] (by decide +kernel) (by decide +kernel)
set_option maxRecDepth 20000 in
theorem gX6_reading_X3_isGood : GoodIn wsX6_reading (wsV RX6 119 RX3 yX3_isGood wsX3_isGood) := goodIn_app (goodIn_of _ (by decide +kernel)) ggX6_reading_X3_isGood
set_option maxRecDepth 20000 in
theorem ggX6_reading_X2_track : GoodIn wsX6_reading wsX2_track := goodIn_r _ [19, 20, 21, 22, 23, 159, 160, 161, 162, 163, 164, 165] (by decide +kernel) (by decide +kernel)
set_option maxRecDepth 20000 in
theorem gX6_reading_X2_track : GoodIn wsX6_reading (wsV RX6 91 RX2 yX2_track wsX2_track) := goodIn_app (goodIn_of _ (by decide +kernel)) ggX6_reading_X2_track
set_option maxRecDepth 20000 in
theorem ggX6_reading_X5_value : GoodIn wsX6_reading wsX5_value := goodIn_r _ [49, 50, 51, 7, 52, 156, 157, 158] (by decide +kernel) (by decide +kernel)
set_option maxRecDepth 20000 in
theorem gX6_reading_X5_value : GoodIn wsX6_reading (wsV RX6 122 RX5 yX5_value wsX5_value) := goodIn_app (goodIn_of _ (by decide +kernel)) ggX6_reading_X5_value
theorem dX6_reading_0 : decode cX6_reading 0 = .ok (.aload_n 0, 1) := by decide +kernel
theorem dX6_reading_1 : decode cX6_reading 1 = .ok (.iload_n 1, 1) := by decide +kernel
theorem dX6_reading_2 : decode cX6_reading 2 = .ok (.iload_n 2, 1) := by decide +kernel
theorem dX6_reading_3 : decode cX6_reading 3 = .ok (.invokevirtual 88, 3) := by decide +kernel
theorem dX6_reading_6 : decode cX6_reading 6 = .ok (.ifCond .eq 12, 3) := by decide +kernel
theorem dX6_reading_9 : decode cX6_reading 9 = .ok (.iload_n 3, 1) := by decide +kernel
theorem dX6_reading_10 : decode cX6_reading 10 = .ok (.iconst 0, 1) := by decide +kernel
theorem dX6_reading_11 : decode cX6_reading 11 = .ok (.iconst 5, 1) := by decide +kernel
theorem dX6_reading_12 : decode cX6_reading 12 = .ok (.invokestatic 105, 3) := by decide +kernel
theorem dX6_reading_15 : decode cX6_reading 15 = .ok (.ifCond .ne 6, 3) := by decide +kernel
theorem dX6_reading_18 : decode cX6_reading 18 = .ok (.ldc 61, 2) := by decide +kernel
theorem dX6_reading_20 : decode cX6_reading 20 = .ok (.ireturn, 1) := by decide +kernel
theorem dX6_reading_21 : decode cX6_reading 21 = .ok (.iload_n 1, 1) := by decide +kernel
theorem dX6_reading_22 : decode cX6_reading 22 = .ok (.iconst (-1), 1) := by decide +kernel
theorem dX6_reading_23 : decode cX6_reading 23 = .ok (.if_icmp .ne 11, 3) := by decide +kernel
theorem dX6_reading_26 : decode cX6_reading 26 = .ok (.iload_n 3, 1) := by decide +kernel
theorem dX6_reading_27 : decode cX6_reading 27 = .ok (.iconst 3, 1) := by decide +kernel
theorem dX6_reading_28 : decode cX6_reading 28 = .ok (.if_icmp .lt 6, 3) := by decide +kernel
theorem dX6_reading_31 : decode cX6_reading 31 = .ok (.ldc 108, 2) := by decide +kernel
theorem dX6_reading_33 : decode cX6_reading 33 = .ok (.ireturn, 1) := by decide +kernel
theorem dX6_reading_34 : decode cX6_reading 34 = .ok (.aload_n 0, 1) := by decide +kernel
theorem dX6_reading_35 : decode cX6_reading 35 = .ok (.invokevirtual 109, 3) := by decide +kernel
theorem dX6_reading_38 : decode cX6_reading 38 = .ok (.iload_n 3, 1) := by decide +kernel
theorem dX6_reading_39 : decode cX6_reading 39 = .ok (.lookupswitch 61 #[(4, 25), (5, 43)], 25) := by decide +kernel
theorem dX6_reading_64 : decode cX6_reading 64 = .ok (.aload_n 0, 1) := by decide +kernel
theorem dX6_reading_65 : decode cX6_reading 65 = .ok (.iload_n 1, 1) := by decide +kernel
theorem dX6_reading_66 : decode cX6_reading 66 = .ok (.invokevirtual 112, 3) := by decide +kernel
theorem dX6_reading_69 : decode cX6_reading 69 = .ok (.iload_n 2, 1) := by decide +kernel
theorem dX6_reading_70 : decode cX6_reading 70 = .ok (.invokevirtual 116, 3) := by decide +kernel
theorem dX6_reading_73 : decode cX6_reading 73 = .ok (.ifCond .eq 7, 3) := by decide +kernel
theorem dX6_reading_76 : decode cX6_reading 76 = .ok (.iconst 1, 1) := by decide +kernel
theorem dX6_reading_77 : decode cX6_reading 77 = .ok (.goto 4, 3) := by decide +kernel
theorem dX6_reading_80 : decode cX6_reading 80 = .ok (.iconst 0, 1) := by decide +kernel
theorem dX6_reading_81 : decode cX6_reading 81 = .ok (.ireturn, 1) := by decide +kernel
theorem dX6_reading_82 : decode cX6_reading 82 = .ok (.aload_n 0, 1) := by decide +kernel
theorem dX6_reading_83 : decode cX6_reading 83 = .ok (.iload_n 1, 1) := by decide +kernel
theorem dX6_reading_84 : decode cX6_reading 84 = .ok (.invokevirtual 112, 3) := by decide +kernel
theorem dX6_reading_87 : decode cX6_reading 87 = .ok (.iload_n 2, 1) := by decide +kernel
theorem dX6_reading_88 : decode cX6_reading 88 = .ok (.invokevirtual 119, 3) := by decide +kernel
theorem dX6_reading_91 : decode cX6_reading 91 = .ok (.ifCond .eq 7, 3) := by decide +kernel
theorem dX6_reading_94 : decode cX6_reading 94 = .ok (.iconst 1, 1) := by decide +kernel
theorem dX6_reading_95 : decode cX6_reading 95 = .ok (.goto 4, 3) := by decide +kernel
theorem dX6_reading_98 : decode cX6_reading 98 = .ok (.iconst 0, 1) := by decide +kernel
theorem dX6_reading_99 : decode cX6_reading 99 = .ok (.ireturn, 1) := by decide +kernel
theorem dX6_reading_100 : decode cX6_reading 100 = .ok (.aload_n 0, 1) := by decide +kernel
theorem dX6_reading_101 : decode cX6_reading 101 = .ok (.getfield 10, 3) := by decide +kernel
theorem dX6_reading_104 : decode cX6_reading 104 = .ok (.iload_n 1, 1) := by decide +kernel
theorem dX6_reading_105 : decode cX6_reading 105 = .ok (.invokevirtual 91, 3) := by decide +kernel
theorem dX6_reading_108 : decode cX6_reading 108 = .ok (.iload_n 2, 1) := by decide +kernel
theorem dX6_reading_109 : decode cX6_reading 109 = .ok (.iload_n 3, 1) := by decide +kernel
theorem dX6_reading_110 : decode cX6_reading 110 = .ok (.invokevirtual 122, 3) := by decide +kernel
theorem dX6_reading_113 : decode cX6_reading 113 = .ok (.ireturn, 1) := by decide +kernel
set_option maxRecDepth 20000 in
theorem ggX6_count_X6_refresh : GoodIn wsX6_count wsX6_refresh := goodIn_r _ [12, 13, 2, 1, 3, 4, 14, 15, 16, 17, 18, 19, 20, 21, 22, 23, 24, 25, 26, 27, 28, 29, 30, 31, 32, 33, 34, 35, 36, 37, 38, 39, 40, 41, 11, 42, 43, 44, 45, 46, 47, 48, 49, 50, 51, 52, 53, 54, 55, 56, 57, 58, 59, 60, 61, 62, 63, 64, 65, 66, 67, 68, 69, 70, 71, 72, 73, 74, 75, 76, 77, 78, 79, 80, 81, 82, 83, 84, 85, 86, 87, 88, 89, 90, 91, 92, 93, 94, 95, 96, 97, 98, 99, 100, 101, 102, 103, 104, 105, 106, 107, 108, 109, 110, 111, 112, 113, 114, 115, 116, 117, 118, 119, 120, 121, 122, 123, 124, 125, 126, 127, 128, 129, 193, 194, 195, 196, 197, 198, 199, 200, 201, 202, 203, 204, 205, 206, 207, 208, 209, 210, 211, 212, 213, 214, 215, 216, 231, 232, 233, 234, 235, 236, 237] (by decide +kernel) (by decide +kernel)
set_option maxRecDepth 20000 in
theorem gX6_count_X6_refresh : GoodIn wsX6_count (wsV RX6 109 RX6 yX6_refresh wsX6_refresh) := goodIn_app (goodIn_of _ (by decide +kernel)) ggX6_count_X6_refresh
set_option maxRecDepth 20000 in
theorem ggX6_count_X2_track : GoodIn wsX6_count wsX2_track := goodIn_r _ [30, 31, 32, 33, 34, 231, 232, 233, 234, 235, 236, 237] (by decide +kernel) (by decide +kernel)
set_option maxRecDepth 20000 in
theorem gX6_count_X2_track : GoodIn wsX6_count (wsV RX6 91 RX2 yX2_track wsX2_track) := goodIn_app (goodIn_of _ (by decide +kernel)) ggX6_count_X2_track
set_option maxRecDepth 20000 in
theorem ggX6_count_X2_steps : GoodIn wsX6_count wsX2_steps := goodIn_r _ [134, 34, 135, 136, 137, 29, 138, 139, 140, 141, 142, 143, 56, 36, 37, 38, 39, 40, 41, 11, 42, 231, 232, 233, 234, 235, 236, 237, 202, 203, 204] (by decide +kernel) (by decide +kernel)
set_option maxRecDepth 20000 in
theorem gX6_count_X2_steps : GoodIn wsX6_count (wsV RX6 132 RX2 yX2_steps wsX2_steps) := goodIn_app (goodIn_of _ (by decide +kernel)) ggX6_count_X2_steps
set_option maxRecDepth 20000 in
theorem ggX6_count_X6_pointsWithHeight : GoodIn wsX6_count wsX6_pointsWithHeight := goodIn_r _ [147, 148, 149, 150, 151, 11, 152, 153, 154, 155, 156, 157, 158, 159, 160, 161, 162, 163, 2, 3, 4, 164, 165, 166, 17, 167, 19, 21, 82, 83, 84, 85, 22, 86, 23, 41, 42, 168, 169, 170, 171, 118, 119, 120, 121, 24, 106, 107, 108, 109, 93, 172, 173, 174, 175, 25, 176, 177, 178, 179, 180, 181, 182, 141, 183, 184, 185, 186, 187, 193, 194, 195, 196, 197, 198, 199, 200, 201, 238, 239, 240, 241, 205, 206, 207, 208, 209, 210, 211, 212, 213, 214, 215, 216] (by decide +kernel) (by decide +kernel)
set_option maxRecDepth 20000 in
theorem gX6_count_X6_pointsWithHeight : GoodIn wsX6_count (wsV RX6 136 RX6 yX6_pointsWithHeight wsX6_pointsWithHeight) := goodIn_app (goodIn_of _ (by decide +kernel)) ggX6_count_X6_pointsWithHeight
set_option maxRecDepth 20000 in
theorem ggX6_count_X2_setting : GoodIn wsX6_count wsX2_setting := goodIn_r _ [191, 51, 192, 143, 231, 232, 233, 234, 235, 236, 237] (by decide +kernel) (by decide +kernel)
set_option maxRecDepth 20000 in
theorem gX6_count_X2_setting : GoodIn wsX6_count (wsV RX6 65 RX2 yX2_setting wsX2_setting) := goodIn_app (goodIn_of _ (by decide +kernel)) ggX6_count_X2_setting
theorem dX6_count_0 : decode cX6_count 0 = .ok (.aload_n 0, 1) := by decide +kernel
theorem dX6_count_1 : decode cX6_count 1 = .ok (.invokevirtual 109, 3) := by decide +kernel
theorem dX6_count_4 : decode cX6_count 4 = .ok (.iload_n 1, 1) := by decide +kernel
theorem dX6_count_5 : decode cX6_count 5 = .ok (.tableswitch 198 0 13 #[71, 71, 71, 71, 85, 109, 133, 141, 146, 154, 162, 162, 162, 174], 71) := by decide +kernel
theorem dX6_count_76 : decode cX6_count 76 = .ok (.aload_n 0, 1) := by decide +kernel
theorem dX6_count_77 : decode cX6_count 77 = .ok (.getfield 10, 3) := by decide +kernel
theorem dX6_count_80 : decode cX6_count 80 = .ok (.iload_n 1, 1) := by decide +kernel
theorem dX6_count_81 : decode cX6_count 81 = .ok (.iconst 1, 1) := by decide +kernel
theorem dX6_count_82 : decode cX6_count 82 = .ok (.isub, 1) := by decide +kernel
theorem dX6_count_83 : decode cX6_count 83 = .ok (.invokevirtual 91, 3) := by decide +kernel
theorem dX6_count_86 : decode cX6_count 86 = .ok (.getfield 101, 3) := by decide +kernel
theorem dX6_count_89 : decode cX6_count 89 = .ok (.ireturn, 1) := by decide +kernel
theorem dX6_count_90 : decode cX6_count 90 = .ok (.aload_n 0, 1) := by decide +kernel
theorem dX6_count_91 : decode cX6_count 91 = .ok (.getfield 29, 3) := by decide +kernel
theorem dX6_count_94 : decode cX6_count 94 = .ok (.getfield 126, 3) := by decide +kernel
theorem dX6_count_97 : decode cX6_count 97 = .ok (.aload_n 0, 1) := by decide +kernel
theorem dX6_count_98 : decode cX6_count 98 = .ok (.getfield 33, 3) := by decide +kernel
theorem dX6_count_101 : decode cX6_count 101 = .ok (.getfield 126, 3) := by decide +kernel
theorem dX6_count_104 : decode cX6_count 104 = .ok (.iadd, 1) := by decide +kernel
theorem dX6_count_105 : decode cX6_count 105 = .ok (.aload_n 0, 1) := by decide +kernel
theorem dX6_count_106 : decode cX6_count 106 = .ok (.getfield 36, 3) := by decide +kernel
theorem dX6_count_109 : decode cX6_count 109 = .ok (.getfield 126, 3) := by decide +kernel
theorem dX6_count_112 : decode cX6_count 112 = .ok (.iadd, 1) := by decide +kernel
theorem dX6_count_113 : decode cX6_count 113 = .ok (.ireturn, 1) := by decide +kernel
theorem dX6_count_114 : decode cX6_count 114 = .ok (.aload_n 0, 1) := by decide +kernel
theorem dX6_count_115 : decode cX6_count 115 = .ok (.getfield 29, 3) := by decide +kernel
theorem dX6_count_118 : decode cX6_count 118 = .ok (.getfield 129, 3) := by decide +kernel
theorem dX6_count_121 : decode cX6_count 121 = .ok (.aload_n 0, 1) := by decide +kernel
theorem dX6_count_122 : decode cX6_count 122 = .ok (.getfield 33, 3) := by decide +kernel
theorem dX6_count_125 : decode cX6_count 125 = .ok (.getfield 129, 3) := by decide +kernel
theorem dX6_count_128 : decode cX6_count 128 = .ok (.iadd, 1) := by decide +kernel
theorem dX6_count_129 : decode cX6_count 129 = .ok (.aload_n 0, 1) := by decide +kernel
theorem dX6_count_130 : decode cX6_count 130 = .ok (.getfield 36, 3) := by decide +kernel
theorem dX6_count_133 : decode cX6_count 133 = .ok (.getfield 129, 3) := by decide +kernel
theorem dX6_count_136 : decode cX6_count 136 = .ok (.iadd, 1) := by decide +kernel
theorem dX6_count_137 : decode cX6_count 137 = .ok (.ireturn, 1) := by decide +kernel
theorem dX6_count_138 : decode cX6_count 138 = .ok (.aload_n 0, 1) := by decide +kernel
theorem dX6_count_139 : decode cX6_count 139 = .ok (.getfield 10, 3) := by decide +kernel
theorem dX6_count_142 : decode cX6_count 142 = .ok (.invokevirtual 132, 3) := by decide +kernel
theorem dX6_count_145 : decode cX6_count 145 = .ok (.ireturn, 1) := by decide +kernel
theorem dX6_count_146 : decode cX6_count 146 = .ok (.aload_n 0, 1) := by decide +kernel
theorem dX6_count_147 : decode cX6_count 147 = .ok (.invokevirtual 136, 3) := by decide +kernel
theorem dX6_count_150 : decode cX6_count 150 = .ok (.ireturn, 1) := by decide +kernel
theorem dX6_count_151 : decode cX6_count 151 = .ok (.aload_n 0, 1) := by decide +kernel
theorem dX6_count_152 : decode cX6_count 152 = .ok (.getfield 22, 3) := by decide +kernel
theorem dX6_count_155 : decode cX6_count 155 = .ok (.getfield 139, 3) := by decide +kernel
theorem dX6_count_158 : decode cX6_count 158 = .ok (.ireturn, 1) := by decide +kernel
theorem dX6_count_159 : decode cX6_count 159 = .ok (.aload_n 0, 1) := by decide +kernel
theorem dX6_count_160 : decode cX6_count 160 = .ok (.getfield 49, 3) := by decide +kernel
theorem dX6_count_163 : decode cX6_count 163 = .ok (.getfield 140, 3) := by decide +kernel
theorem dX6_count_166 : decode cX6_count 166 = .ok (.ireturn, 1) := by decide +kernel
theorem dX6_count_167 : decode cX6_count 167 = .ok (.aload_n 0, 1) := by decide +kernel
theorem dX6_count_168 : decode cX6_count 168 = .ok (.getfield 10, 3) := by decide +kernel
theorem dX6_count_171 : decode cX6_count 171 = .ok (.iload_n 1, 1) := by decide +kernel
theorem dX6_count_172 : decode cX6_count 172 = .ok (.bipush 10, 2) := by decide +kernel
theorem dX6_count_174 : decode cX6_count 174 = .ok (.isub, 1) := by decide +kernel
theorem dX6_count_175 : decode cX6_count 175 = .ok (.invokevirtual 65, 3) := by decide +kernel
theorem dX6_count_178 : decode cX6_count 178 = .ok (.ireturn, 1) := by decide +kernel
theorem dX6_count_179 : decode cX6_count 179 = .ok (.aload_n 0, 1) := by decide +kernel
theorem dX6_count_180 : decode cX6_count 180 = .ok (.getfield 29, 3) := by decide +kernel
theorem dX6_count_183 : decode cX6_count 183 = .ok (.getfield 143, 3) := by decide +kernel
theorem dX6_count_186 : decode cX6_count 186 = .ok (.aload_n 0, 1) := by decide +kernel
theorem dX6_count_187 : decode cX6_count 187 = .ok (.getfield 33, 3) := by decide +kernel
theorem dX6_count_190 : decode cX6_count 190 = .ok (.getfield 143, 3) := by decide +kernel
theorem dX6_count_193 : decode cX6_count 193 = .ok (.iadd, 1) := by decide +kernel
theorem dX6_count_194 : decode cX6_count 194 = .ok (.aload_n 0, 1) := by decide +kernel
theorem dX6_count_195 : decode cX6_count 195 = .ok (.getfield 36, 3) := by decide +kernel
theorem dX6_count_198 : decode cX6_count 198 = .ok (.getfield 143, 3) := by decide +kernel
theorem dX6_count_201 : decode cX6_count 201 = .ok (.iadd, 1) := by decide +kernel
theorem dX6_count_202 : decode cX6_count 202 = .ok (.ireturn, 1) := by decide +kernel
theorem dX6_count_203 : decode cX6_count 203 = .ok (.ldc 61, 2) := by decide +kernel
theorem dX6_count_205 : decode cX6_count 205 = .ok (.ireturn, 1) := by decide +kernel
set_option maxRecDepth 20000 in
theorem ggX6_undo_X0_giveBack : GoodIn wsX6_undo wsX0_giveBack := goodIn_r _ [9, 10, 11, 12, 13, 8, 14, 15, 16, 17, 18, 19, 20, 21, 22, 23, 24, 25, 26, 27, 28, 29, 30, 31, 32, 33, 34, 35, 36, 37, 38, 39, 40, 41, 42, 43, 53, 54, 55, 56, 57, 58, 59, 60, 61, 62, 63, 64, 65] (by decide +kernel) (by decide +kernel)
set_option maxRecDepth 20000 in
theorem gX6_undo_X0_giveBack : GoodIn wsX6_undo (wsV RX6 147 RX0 yX0_giveBack wsX0_giveBack) := goodIn_app (goodIn_of _ (by decide +kernel)) ggX6_undo_X0_giveBack
theorem dX6_undo_0 : decode cX6_undo 0 = .ok (.aload_n 0, 1) := by decide +kernel
theorem dX6_undo_1 : decode cX6_undo 1 = .ok (.getfield 22, 3) := by decide +kernel
theorem dX6_undo_4 : decode cX6_undo 4 = .ok (.getfield 139, 3) := by decide +kernel
theorem dX6_undo_7 : decode cX6_undo 7 = .ok (.ifCond .ne 6, 3) := by decide +kernel
theorem dX6_undo_10 : decode cX6_undo 10 = .ok (.ldc 146, 2) := by decide +kernel
theorem dX6_undo_12 : decode cX6_undo 12 = .ok (.ireturn, 1) := by decide +kernel
theorem dX6_undo_13 : decode cX6_undo 13 = .ok (.aload_n 0, 1) := by decide +kernel
theorem dX6_undo_14 : decode cX6_undo 14 = .ok (.getfield 22, 3) := by decide +kernel
theorem dX6_undo_17 : decode cX6_undo 17 = .ok (.aload_n 0, 1) := by decide +kernel
theorem dX6_undo_18 : decode cX6_undo 18 = .ok (.getfield 10, 3) := by decide +kernel
theorem dX6_undo_21 : decode cX6_undo 21 = .ok (.invokevirtual 147, 3) := by decide +kernel
theorem dX6_undo_24 : decode cX6_undo 24 = .ok (.aload_n 0, 1) := by decide +kernel
theorem dX6_undo_25 : decode cX6_undo 25 = .ok (.iconst 1, 1) := by decide +kernel
theorem dX6_undo_26 : decode cX6_undo 26 = .ok (.putfield 53, 3) := by decide +kernel
theorem dX6_undo_29 : decode cX6_undo 29 = .ok (.aload_n 0, 1) := by decide +kernel
theorem dX6_undo_30 : decode cX6_undo 30 = .ok (.getfield 22, 3) := by decide +kernel
theorem dX6_undo_33 : decode cX6_undo 33 = .ok (.getfield 139, 3) := by decide +kernel
theorem dX6_undo_36 : decode cX6_undo 36 = .ok (.ireturn, 1) := by decide +kernel
set_option maxRecDepth 20000 in
theorem ggX6_baseAt_X6_isTime : GoodIn wsX6_baseAt wsX6_isTime := goodIn_r _ [6, 7, 8, 5, 9] (by decide +kernel) (by decide +kernel)
set_option maxRecDepth 20000 in
theorem gX6_baseAt_X6_isTime : GoodIn wsX6_baseAt (va_wsS RX6 151 yX6_isTime wsX6_isTime) := goodIn_app (goodIn_of _ (by decide +kernel)) ggX6_baseAt_X6_isTime
set_option maxRecDepth 20000 in
theorem ggX6_baseAt_X6_within : GoodIn wsX6_baseAt wsX6_within := goodIn_r _ [9] (by decide +kernel) (by decide +kernel)
set_option maxRecDepth 20000 in
theorem gX6_baseAt_X6_within : GoodIn wsX6_baseAt (va_wsS RX6 105 yX6_within wsX6_within) := goodIn_app (goodIn_of _ (by decide +kernel)) ggX6_baseAt_X6_within
set_option maxRecDepth 20000 in
theorem ggX6_baseAt_X2_baseValue : GoodIn wsX6_baseAt wsX2_baseValue := goodIn_r _ [14, 15, 16, 17, 18, 19, 20, 21, 22, 23, 5, 24, 25, 26, 27, 28, 29, 30, 40, 41, 42, 43, 44, 45, 46, 47, 48, 49] (by decide +kernel) (by decide +kernel)
set_option maxRecDepth 20000 in
theorem gX6_baseAt_X2_baseValue : GoodIn wsX6_baseAt (wsV RX6 154 RX2 yX2_baseValue wsX2_baseValue) := goodIn_app (goodIn_of _ (by decide +kernel)) ggX6_baseAt_X2_baseValue
theorem dX6_baseAt_0 : decode cX6_baseAt 0 = .ok (.iload_n 1, 1) := by decide +kernel
theorem dX6_baseAt_1 : decode cX6_baseAt 1 = .ok (.invokestatic 151, 3) := by decide +kernel
theorem dX6_baseAt_4 : decode cX6_baseAt 4 = .ok (.ifCond .eq 12, 3) := by decide +kernel
theorem dX6_baseAt_7 : decode cX6_baseAt 7 = .ok (.iload_n 2, 1) := by decide +kernel
theorem dX6_baseAt_8 : decode cX6_baseAt 8 = .ok (.iconst 0, 1) := by decide +kernel
theorem dX6_baseAt_9 : decode cX6_baseAt 9 = .ok (.iconst 1, 1) := by decide +kernel
theorem dX6_baseAt_10 : decode cX6_baseAt 10 = .ok (.invokestatic 105, 3) := by decide +kernel
theorem dX6_baseAt_13 : decode cX6_baseAt 13 = .ok (.ifCond .ne 6, 3) := by decide +kernel
theorem dX6_baseAt_16 : decode cX6_baseAt 16 = .ok (.ldc 61, 2) := by decide +kernel
theorem dX6_baseAt_18 : decode cX6_baseAt 18 = .ok (.ireturn, 1) := by decide +kernel
theorem dX6_baseAt_19 : decode cX6_baseAt 19 = .ok (.aload_n 0, 1) := by decide +kernel
theorem dX6_baseAt_20 : decode cX6_baseAt 20 = .ok (.getfield 10, 3) := by decide +kernel
theorem dX6_baseAt_23 : decode cX6_baseAt 23 = .ok (.iload_n 1, 1) := by decide +kernel
theorem dX6_baseAt_24 : decode cX6_baseAt 24 = .ok (.iload_n 2, 1) := by decide +kernel
theorem dX6_baseAt_25 : decode cX6_baseAt 25 = .ok (.ifCond .ne 7, 3) := by decide +kernel
theorem dX6_baseAt_28 : decode cX6_baseAt 28 = .ok (.iconst 1, 1) := by decide +kernel
theorem dX6_baseAt_29 : decode cX6_baseAt 29 = .ok (.goto 4, 3) := by decide +kernel
theorem dX6_baseAt_32 : decode cX6_baseAt 32 = .ok (.iconst 2, 1) := by decide +kernel
theorem dX6_baseAt_33 : decode cX6_baseAt 33 = .ok (.invokevirtual 154, 3) := by decide +kernel
theorem dX6_baseAt_36 : decode cX6_baseAt 36 = .ok (.ireturn, 1) := by decide +kernel
set_option maxRecDepth 20000 in
theorem ggX6_step_X2_stepEnd : GoodIn wsX6_step wsX2_stepEnd := goodIn_r _ [7, 8, 9, 10, 11, 6, 12, 13, 14, 15, 16, 17, 18, 19, 20, 21, 22, 23, 24, 25, 26, 36, 37, 38, 39, 40, 41, 42, 43, 44, 45] (by decide +kernel) (by decide +kernel)
set_option maxRecDepth 20000 in
theorem gX6_step_X2_stepEnd : GoodIn wsX6_step (wsV RX6 157 RX2 yX2_stepEnd wsX2_stepEnd) := goodIn_app (goodIn_of _ (by decide +kernel)) ggX6_step_X2_stepEnd
theorem dX6_step_0 : decode cX6_step 0 = .ok (.aload_n 0, 1) := by decide +kernel
theorem dX6_step_1 : decode cX6_step 1 = .ok (.getfield 10, 3) := by decide +kernel
theorem dX6_step_4 : decode cX6_step 4 = .ok (.iload_n 1, 1) := by decide +kernel
theorem dX6_step_5 : decode cX6_step 5 = .ok (.invokevirtual 157, 3) := by decide +kernel
theorem dX6_step_8 : decode cX6_step 8 = .ok (.istore_n 2, 1) := by decide +kernel
theorem dX6_step_9 : decode cX6_step 9 = .ok (.iload_n 2, 1) := by decide +kernel
theorem dX6_step_10 : decode cX6_step 10 = .ok (.iconst (-1), 1) := by decide +kernel
theorem dX6_step_11 : decode cX6_step 11 = .ok (.if_icmp .ne 8, 3) := by decide +kernel
theorem dX6_step_14 : decode cX6_step 14 = .ok (.ldc 61, 2) := by decide +kernel
theorem dX6_step_16 : decode cX6_step 16 = .ok (.goto 4, 3) := by decide +kernel
theorem dX6_step_19 : decode cX6_step 19 = .ok (.iload_n 2, 1) := by decide +kernel
theorem dX6_step_20 : decode cX6_step 20 = .ok (.ireturn, 1) := by decide +kernel
set_option maxRecDepth 20000 in
theorem ggX6_raw_X6_isCell : GoodIn wsX6_raw wsX6_isCell := goodIn_r _ [5, 6, 7, 4, 8] (by decide +kernel) (by decide +kernel)
set_option maxRecDepth 20000 in
theorem gX6_raw_X6_isCell : GoodIn wsX6_raw (va_wsS RX6 81 yX6_isCell wsX6_isCell) := goodIn_app (goodIn_of _ (by decide +kernel)) ggX6_raw_X6_isCell
set_option maxRecDepth 20000 in
theorem ggX6_raw_X6_isReadingOf : GoodIn wsX6_raw wsX6_isReadingOf := goodIn_r _ [12, 13, 2, 3, 4, 5, 6, 7, 8, 14, 15, 16, 17, 18, 19, 20, 21, 22, 144, 145, 146, 147, 148, 149, 150, 151, 152, 153, 154, 155, 156, 157, 158, 159, 160, 161, 162] (by decide +kernel) (by decide +kernel)
set_option maxRecDepth 20000 in
theorem gX6_raw_X6_isReadingOf : GoodIn wsX6_raw (wsV RX6 88 RX6 yX6_isReadingOf wsX6_isReadingOf) := goodIn_app (goodIn_of _ (by decide +kernel)) ggX6_raw_X6_isReadingOf
set_option maxRecDepth 20000 in
theorem ggX6_raw_X6_refresh : GoodIn wsX6_raw wsX6_refresh := goodIn_r _ [26, 27, 28, 13, 29, 30, 31, 32, 33, 34, 35, 36, 37, 38, 39, 40, 41, 42, 43, 15, 16, 17, 18, 19, 20, 21, 22, 44, 45, 46, 47, 48, 49, 50, 4, 51, 52, 53, 54, 55, 56, 57, 58, 59, 60, 61, 62, 63, 64, 65, 66, 67, 68, 69, 70, 71, 72, 73, 74, 75, 76, 77, 78, 79, 80, 81, 82, 83, 84, 85, 86, 87, 88, 89, 90, 91, 92, 93, 94, 95, 96, 97, 98, 99, 100, 101, 102, 103, 104, 105, 106, 107, 108, 109, 110, 111, 112, 113, 114, 115, 116, 117, 118, 119, 120, 121, 122, 123, 124, 125, 126, 127, 128, 129, 130, 131, 132, 133, 134, 135, 136, 137, 138, 144, 145, 146, 147, 148, 149, 150, 151, 152, 153, 154, 155, 163, 164, 165, 166, 167, 168, 169, 170, 171, 172, 173, 174, 156, 157, 158, 159, 160, 161, 162] (by decide +kernel) (by decide +kernel)
set_option maxRecDepth 20000 in
theorem gX6_raw_X6_refresh : GoodIn wsX6_raw (wsV RX6 109 RX6 yX6_refresh wsX6_refresh) := goodIn_app (goodIn_of _ (by decide +kernel)) ggX6_raw_X6_refresh
set_option maxRecDepth 20000 in
theorem ggX6_raw_X6_surveyOf : GoodIn wsX6_raw wsX6_surveyOf := goodIn_r _ [142, 28, 29, 30, 144, 145, 146, 147, 148, 149, 150, 151, 152] (by decide +kernel) (by decide +kernel)
set_option maxRecDepth 20000 in
theorem gX6_raw_X6_surveyOf : GoodIn wsX6_raw (wsV RX6 112 RX6 yX6_surveyOf wsX6_surveyOf) := goodIn_app (goodIn_of _ (by decide +kernel)) ggX6_raw_X6_surveyOf
set_option maxRecDepth 20000 in
theorem ggX6_raw_X3_rawHeight : GoodIn wsX6_raw wsX3_rawHeight := goodIn_r _ [134, 39, 50, 4, 51, 163, 164, 165, 166, 167, 168, 169, 170, 171, 172, 173, 174] (by decide +kernel) (by decide +kernel)
set_option maxRecDepth 20000 in
theorem gX6_raw_X3_rawHeight : GoodIn wsX6_raw (wsV RX6 160 RX3 yX3_rawHeight wsX3_rawHeight) := goodIn_app (goodIn_of _ (by decide +kernel)) ggX6_raw_X3_rawHeight
theorem dX6_raw_0 : decode cX6_raw 0 = .ok (.iload_n 1, 1) := by decide +kernel
theorem dX6_raw_1 : decode cX6_raw 1 = .ok (.invokestatic 81, 3) := by decide +kernel
theorem dX6_raw_4 : decode cX6_raw 4 = .ok (.ifCond .eq 12, 3) := by decide +kernel
theorem dX6_raw_7 : decode cX6_raw 7 = .ok (.aload_n 0, 1) := by decide +kernel
theorem dX6_raw_8 : decode cX6_raw 8 = .ok (.iload_n 1, 1) := by decide +kernel
theorem dX6_raw_9 : decode cX6_raw 9 = .ok (.iload_n 2, 1) := by decide +kernel
theorem dX6_raw_10 : decode cX6_raw 10 = .ok (.invokevirtual 88, 3) := by decide +kernel
theorem dX6_raw_13 : decode cX6_raw 13 = .ok (.ifCond .ne 6, 3) := by decide +kernel
theorem dX6_raw_16 : decode cX6_raw 16 = .ok (.ldc 61, 2) := by decide +kernel
theorem dX6_raw_18 : decode cX6_raw 18 = .ok (.ireturn, 1) := by decide +kernel
theorem dX6_raw_19 : decode cX6_raw 19 = .ok (.aload_n 0, 1) := by decide +kernel
theorem dX6_raw_20 : decode cX6_raw 20 = .ok (.invokevirtual 109, 3) := by decide +kernel
theorem dX6_raw_23 : decode cX6_raw 23 = .ok (.aload_n 0, 1) := by decide +kernel
theorem dX6_raw_24 : decode cX6_raw 24 = .ok (.iload_n 1, 1) := by decide +kernel
theorem dX6_raw_25 : decode cX6_raw 25 = .ok (.invokevirtual 112, 3) := by decide +kernel
theorem dX6_raw_28 : decode cX6_raw 28 = .ok (.iload_n 2, 1) := by decide +kernel
theorem dX6_raw_29 : decode cX6_raw 29 = .ok (.invokevirtual 160, 3) := by decide +kernel
theorem dX6_raw_32 : decode cX6_raw 32 = .ok (.ireturn, 1) := by decide +kernel
set_option maxRecDepth 20000 in
theorem ggX6_would_X6_isReading : GoodIn wsX6_would wsX6_isReading := goodIn_r _ [6, 7, 8, 9, 10, 5, 11, 12, 13, 14, 15, 16, 17] (by decide +kernel) (by decide +kernel)
set_option maxRecDepth 20000 in
theorem gX6_would_X6_isReading : GoodIn wsX6_would (va_wsS RX6 73 yX6_isReading wsX6_isReading) := goodIn_app (goodIn_of _ (by decide +kernel)) ggX6_would_X6_isReading
set_option maxRecDepth 20000 in
theorem ggX6_would_X2_heightAt : GoodIn wsX6_would wsX2_heightAt := goodIn_r _ [22, 23, 24, 25, 26, 27, 28, 21, 29, 30, 31, 32, 33, 34, 35, 36, 37, 5, 38, 39, 40, 41, 42, 43, 44, 45, 46, 47, 57, 58, 59, 60, 61, 62, 63, 64, 65, 66] (by decide +kernel) (by decide +kernel)
set_option maxRecDepth 20000 in
theorem gX6_would_X2_heightAt : GoodIn wsX6_would (wsV RX6 163 RX2 yX2_heightAt wsX2_heightAt) := goodIn_app (goodIn_of _ (by decide +kernel)) ggX6_would_X2_heightAt
theorem dX6_would_0 : decode cX6_would 0 = .ok (.iload_n 1, 1) := by decide +kernel
theorem dX6_would_1 : decode cX6_would 1 = .ok (.iload_n 2, 1) := by decide +kernel
theorem dX6_would_2 : decode cX6_would 2 = .ok (.iload_n 3, 1) := by decide +kernel
theorem dX6_would_3 : decode cX6_would 3 = .ok (.invokestatic 73, 3) := by decide +kernel
theorem dX6_would_6 : decode cX6_would 6 = .ok (.ifCond .ne 6, 3) := by decide +kernel
theorem dX6_would_9 : decode cX6_would 9 = .ok (.ldc 61, 2) := by decide +kernel
theorem dX6_would_11 : decode cX6_would 11 = .ok (.ireturn, 1) := by decide +kernel
theorem dX6_would_12 : decode cX6_would 12 = .ok (.aload_n 0, 1) := by decide +kernel
theorem dX6_would_13 : decode cX6_would 13 = .ok (.getfield 10, 3) := by decide +kernel
theorem dX6_would_16 : decode cX6_would 16 = .ok (.iload_n 1, 1) := by decide +kernel
theorem dX6_would_17 : decode cX6_would 17 = .ok (.iload_n 2, 1) := by decide +kernel
theorem dX6_would_18 : decode cX6_would 18 = .ok (.iload_n 3, 1) := by decide +kernel
theorem dX6_would_19 : decode cX6_would 19 = .ok (.invokevirtual 163, 3) := by decide +kernel
theorem dX6_would_22 : decode cX6_would 22 = .ok (.ireturn, 1) := by decide +kernel
set_option maxRecDepth 20000 in
theorem ggX6_pressureFor_X6_isTime : GoodIn wsX6_pressureFor wsX6_isTime := goodIn_r _ [10, 11, 12, 9, 13] (by decide +kernel) (by decide +kernel)
set_option maxRecDepth 20000 in
theorem gX6_pressureFor_X6_isTime : GoodIn wsX6_pressureFor (va_wsS RX6 151 yX6_isTime wsX6_isTime) := goodIn_app (goodIn_of _ (by decide +kernel)) ggX6_pressureFor_X6_isTime
set_option maxRecDepth 20000 in
theorem ggX6_pressureFor_X6_isTemperature : GoodIn wsX6_pressureFor wsX6_isTemperature := goodIn_r _ [16, 11, 12, 9, 13] (by decide +kernel) (by decide +kernel)
set_option maxRecDepth 20000 in
theorem gX6_pressureFor_X6_isTemperature : GoodIn wsX6_pressureFor (va_wsS RX6 167 yX6_isTemperature wsX6_isTemperature) := goodIn_app (goodIn_of _ (by decide +kernel)) ggX6_pressureFor_X6_isTemperature
set_option maxRecDepth 20000 in
theorem ggX6_pressureFor_X6_within : GoodIn wsX6_pressureFor wsX6_within := goodIn_r _ [13] (by decide +kernel) (by decide +kernel)
set_option maxRecDepth 20000 in
theorem gX6_pressureFor_X6_within : GoodIn wsX6_pressureFor (va_wsS RX6 105 yX6_within wsX6_within) := goodIn_app (goodIn_of _ (by decide +kernel)) ggX6_pressureFor_X6_within
set_option maxRecDepth 20000 in
theorem ggX6_pressureFor_X2_heightAt : GoodIn wsX6_pressureFor wsX2_heightAt := goodIn_r _ [21, 22, 23, 24, 25, 26, 27, 20, 28, 29, 30, 31, 32, 33, 34, 35, 36, 9, 37, 38, 39, 40, 41, 42, 43, 44, 45, 46, 61, 62, 63, 64, 65, 66, 67, 68, 69, 70] (by decide +kernel) (by decide +kernel)
set_option maxRecDepth 20000 in
theorem gX6_pressureFor_X2_heightAt : GoodIn wsX6_pressureFor (wsV RX6 163 RX2 yX2_heightAt wsX2_heightAt) := goodIn_app (goodIn_of _ (by decide +kernel)) ggX6_pressureFor_X2_heightAt
set_option maxRecDepth 20000 in
theorem ggX6_pressureFor_X6_greatestPressure : GoodIn wsX6_pressureFor wsX6_greatestPressure := goodIn_r _ [50, 5, 51, 4, 17, 18, 19, 20, 21, 22, 23, 24, 25, 26, 27, 28, 29, 30, 31, 32, 33, 34, 35, 36, 9, 37, 38, 39, 40, 41, 42, 43, 44, 45, 46, 52, 53, 54, 55, 56, 57, 58, 59, 60, 61, 62, 63, 64, 65, 66, 67, 68, 69, 70] (by decide +kernel) (by decide +kernel)
set_option maxRecDepth 20000 in
theorem gX6_pressureFor_X6_greatestPressure : GoodIn wsX6_pressureFor (wsV RX6 173 RX6 yX6_greatestPressure wsX6_greatestPressure) := goodIn_app (goodIn_of _ (by decide +kernel)) ggX6_pressureFor_X6_greatestPressure
theorem dX6_pressureFor_0 : decode cX6_pressureFor 0 = .ok (.iload_n 1, 1) := by decide +kernel
theorem dX6_pressureFor_1 : decode cX6_pressureFor 1 = .ok (.invokestatic 151, 3) := by decide +kernel
theorem dX6_pressureFor_4 : decode cX6_pressureFor 4 = .ok (.ifCond .eq 25, 3) := by decide +kernel
theorem dX6_pressureFor_7 : decode cX6_pressureFor 7 = .ok (.iload_n 2, 1) := by decide +kernel
theorem dX6_pressureFor_8 : decode cX6_pressureFor 8 = .ok (.invokestatic 167, 3) := by decide +kernel
theorem dX6_pressureFor_11 : decode cX6_pressureFor 11 = .ok (.ifCond .eq 18, 3) := by decide +kernel
theorem dX6_pressureFor_14 : decode cX6_pressureFor 14 = .ok (.iload_n 3, 1) := by decide +kernel
theorem dX6_pressureFor_15 : decode cX6_pressureFor 15 = .ok (.ldc 170, 2) := by decide +kernel
theorem dX6_pressureFor_17 : decode cX6_pressureFor 17 = .ok (.ldc 171, 2) := by decide +kernel
theorem dX6_pressureFor_19 : decode cX6_pressureFor 19 = .ok (.invokestatic 105, 3) := by decide +kernel
theorem dX6_pressureFor_22 : decode cX6_pressureFor 22 = .ok (.ifCond .eq 7, 3) := by decide +kernel
theorem dX6_pressureFor_25 : decode cX6_pressureFor 25 = .ok (.iconst 1, 1) := by decide +kernel
theorem dX6_pressureFor_26 : decode cX6_pressureFor 26 = .ok (.goto 4, 3) := by decide +kernel
theorem dX6_pressureFor_29 : decode cX6_pressureFor 29 = .ok (.iconst 0, 1) := by decide +kernel
theorem dX6_pressureFor_30 : decode cX6_pressureFor 30 = .ok (.istore 4, 2) := by decide +kernel
theorem dX6_pressureFor_32 : decode cX6_pressureFor 32 = .ok (.iload 4, 2) := by decide +kernel
theorem dX6_pressureFor_34 : decode cX6_pressureFor 34 = .ok (.ifCond .ne 6, 3) := by decide +kernel
theorem dX6_pressureFor_37 : decode cX6_pressureFor 37 = .ok (.ldc 61, 2) := by decide +kernel
theorem dX6_pressureFor_39 : decode cX6_pressureFor 39 = .ok (.ireturn, 1) := by decide +kernel
theorem dX6_pressureFor_40 : decode cX6_pressureFor 40 = .ok (.aload_n 0, 1) := by decide +kernel
theorem dX6_pressureFor_41 : decode cX6_pressureFor 41 = .ok (.getfield 10, 3) := by decide +kernel
theorem dX6_pressureFor_44 : decode cX6_pressureFor 44 = .ok (.iload_n 1, 1) := by decide +kernel
theorem dX6_pressureFor_45 : decode cX6_pressureFor 45 = .ok (.ldc 172, 2) := by decide +kernel
theorem dX6_pressureFor_47 : decode cX6_pressureFor 47 = .ok (.iload_n 2, 1) := by decide +kernel
theorem dX6_pressureFor_48 : decode cX6_pressureFor 48 = .ok (.invokevirtual 163, 3) := by decide +kernel
theorem dX6_pressureFor_51 : decode cX6_pressureFor 51 = .ok (.istore 5, 2) := by decide +kernel
theorem dX6_pressureFor_53 : decode cX6_pressureFor 53 = .ok (.iload 5, 2) := by decide +kernel
theorem dX6_pressureFor_55 : decode cX6_pressureFor 55 = .ok (.ldc 108, 2) := by decide +kernel
theorem dX6_pressureFor_57 : decode cX6_pressureFor 57 = .ok (.if_icmp .eq 9, 3) := by decide +kernel
theorem dX6_pressureFor_60 : decode cX6_pressureFor 60 = .ok (.iload 5, 2) := by decide +kernel
theorem dX6_pressureFor_62 : decode cX6_pressureFor 62 = .ok (.iload_n 3, 1) := by decide +kernel
theorem dX6_pressureFor_63 : decode cX6_pressureFor 63 = .ok (.if_icmp .ge 6, 3) := by decide +kernel
theorem dX6_pressureFor_66 : decode cX6_pressureFor 66 = .ok (.ldc 108, 2) := by decide +kernel
theorem dX6_pressureFor_68 : decode cX6_pressureFor 68 = .ok (.ireturn, 1) := by decide +kernel
theorem dX6_pressureFor_69 : decode cX6_pressureFor 69 = .ok (.aload_n 0, 1) := by decide +kernel
theorem dX6_pressureFor_70 : decode cX6_pressureFor 70 = .ok (.iload_n 1, 1) := by decide +kernel
theorem dX6_pressureFor_71 : decode cX6_pressureFor 71 = .ok (.iload_n 2, 1) := by decide +kernel
theorem dX6_pressureFor_72 : decode cX6_pressureFor 72 = .ok (.iload_n 3, 1) := by decide +kernel
theorem dX6_pressureFor_73 : decode cX6_pressureFor 73 = .ok (.invokevirtual 173, 3) := by decide +kernel
theorem dX6_pressureFor_76 : decode cX6_pressureFor 76 = .ok (.ireturn, 1) := by decide +kernel
set_option maxRecDepth 20000 in
theorem ggX6_loops_X6_isCell : GoodIn wsX6_loops wsX6_isCell := goodIn_r _ [5, 6, 7, 4, 8] (by decide +kernel) (by decide +kernel)
set_option maxRecDepth 20000 in
theorem gX6_loops_X6_isCell : GoodIn wsX6_loops (va_wsS RX6 81 yX6_isCell wsX6_isCell) := goodIn_app (goodIn_of _ (by decide +kernel)) ggX6_loops_X6_isCell
set_option maxRecDepth 20000 in
theorem ggX6_loops_X6_refresh : GoodIn wsX6_loops wsX6_refresh := goodIn_r _ [12, 13, 14, 15, 16, 17, 18, 19, 20, 21, 22, 23, 24, 25, 26, 27, 28, 29, 30, 31, 32, 33, 34, 35, 36, 37, 38, 39, 40, 41, 42, 43, 44, 45, 4, 46, 47, 48, 49, 50, 51, 52, 53, 54, 55, 56, 57, 58, 59, 60, 61, 62, 63, 64, 65, 66, 67, 68, 69, 70, 71, 72, 73, 74, 75, 76, 77, 78, 79, 80, 81, 82, 83, 84, 85, 86, 87, 88, 89, 90, 91, 92, 93, 94, 95, 96, 97, 98, 99, 100, 101, 102, 103, 104, 105, 106, 107, 108, 109, 110, 111, 112, 113, 114, 115, 116, 117, 118, 119, 120, 121, 122, 123, 124, 125, 126, 127, 128, 129, 130, 131, 132, 133, 150, 151, 152, 153, 154, 155, 156, 157, 158, 159, 160, 161, 138, 139, 140, 141, 142, 143, 144, 145, 146, 147, 148, 149, 162, 163, 164, 165, 166, 167, 168] (by decide +kernel) (by decide +kernel)
set_option maxRecDepth 20000 in
theorem gX6_loops_X6_refresh : GoodIn wsX6_loops (wsV RX6 109 RX6 yX6_refresh wsX6_refresh) := goodIn_app (goodIn_of _ (by decide +kernel)) ggX6_loops_X6_refresh
set_option maxRecDepth 20000 in
theorem ggX6_loops_X6_surveyOf : GoodIn wsX6_loops wsX6_surveyOf := goodIn_r _ [137, 14, 16, 17, 150, 151, 152, 153, 154, 155, 156, 157, 158] (by decide +kernel) (by decide +kernel)
set_option maxRecDepth 20000 in
theorem gX6_loops_X6_surveyOf : GoodIn wsX6_loops (wsV RX6 112 RX6 yX6_surveyOf wsX6_surveyOf) := goodIn_app (goodIn_of _ (by decide +kernel)) ggX6_loops_X6_surveyOf
theorem dX6_loops_0 : decode cX6_loops 0 = .ok (.iload_n 1, 1) := by decide +kernel
theorem dX6_loops_1 : decode cX6_loops 1 = .ok (.invokestatic 81, 3) := by decide +kernel
theorem dX6_loops_4 : decode cX6_loops 4 = .ok (.ifCond .ne 6, 3) := by decide +kernel
theorem dX6_loops_7 : decode cX6_loops 7 = .ok (.ldc 61, 2) := by decide +kernel
theorem dX6_loops_9 : decode cX6_loops 9 = .ok (.ireturn, 1) := by decide +kernel
theorem dX6_loops_10 : decode cX6_loops 10 = .ok (.aload_n 0, 1) := by decide +kernel
theorem dX6_loops_11 : decode cX6_loops 11 = .ok (.invokevirtual 109, 3) := by decide +kernel
theorem dX6_loops_14 : decode cX6_loops 14 = .ok (.aload_n 0, 1) := by decide +kernel
theorem dX6_loops_15 : decode cX6_loops 15 = .ok (.iload_n 1, 1) := by decide +kernel
theorem dX6_loops_16 : decode cX6_loops 16 = .ok (.invokevirtual 112, 3) := by decide +kernel
theorem dX6_loops_19 : decode cX6_loops 19 = .ok (.getfield 129, 3) := by decide +kernel
theorem dX6_loops_22 : decode cX6_loops 22 = .ok (.ireturn, 1) := by decide +kernel
set_option maxRecDepth 20000 in
theorem ggX6_loop_X6_isCell : GoodIn wsX6_loop wsX6_isCell := goodIn_r _ [5, 6, 7, 4, 8] (by decide +kernel) (by decide +kernel)
set_option maxRecDepth 20000 in
theorem gX6_loop_X6_isCell : GoodIn wsX6_loop (va_wsS RX6 81 yX6_isCell wsX6_isCell) := goodIn_app (goodIn_of _ (by decide +kernel)) ggX6_loop_X6_isCell
set_option maxRecDepth 20000 in
theorem ggX6_loop_X6_refresh : GoodIn wsX6_loop wsX6_refresh := goodIn_r _ [12, 13, 14, 15, 16, 17, 18, 19, 20, 21, 22, 23, 24, 25, 26, 27, 28, 29, 30, 31, 32, 33, 34, 35, 36, 37, 38, 39, 40, 41, 42, 43, 44, 45, 4, 46, 47, 48, 49, 50, 51, 52, 53, 54, 55, 56, 57, 58, 59, 60, 61, 62, 63, 64, 65, 66, 67, 68, 69, 70, 71, 72, 73, 74, 75, 76, 77, 78, 79, 80, 81, 82, 83, 84, 85, 86, 87, 88, 89, 90, 91, 92, 93, 94, 95, 96, 97, 98, 99, 100, 101, 102, 103, 104, 105, 106, 107, 108, 109, 110, 111, 112, 113, 114, 115, 116, 117, 118, 119, 120, 121, 122, 123, 124, 125, 126, 127, 128, 129, 130, 131, 132, 133, 158, 159, 160, 161, 162, 163, 164, 165, 166, 167, 168, 169, 146, 147, 148, 149, 150, 151, 152, 153, 154, 155, 156, 157, 170, 171, 172, 173, 174, 175, 176] (by decide +kernel) (by decide +kernel)
set_option maxRecDepth 20000 in
theorem gX6_loop_X6_refresh : GoodIn wsX6_loop (wsV RX6 109 RX6 yX6_refresh wsX6_refresh) := goodIn_app (goodIn_of _ (by decide +kernel)) ggX6_loop_X6_refresh
set_option maxRecDepth 20000 in
theorem ggX6_loop_X6_surveyOf : GoodIn wsX6_loop wsX6_surveyOf := goodIn_r _ [137, 14, 16, 17, 158, 159, 160, 161, 162, 163, 164, 165, 166] (by decide +kernel) (by decide +kernel)
set_option maxRecDepth 20000 in
theorem gX6_loop_X6_surveyOf : GoodIn wsX6_loop (wsV RX6 112 RX6 yX6_surveyOf wsX6_surveyOf) := goodIn_app (goodIn_of _ (by decide +kernel)) ggX6_loop_X6_surveyOf
set_option maxRecDepth 20000 in
theorem ggX6_loop_X6_within : GoodIn wsX6_loop wsX6_within := goodIn_r _ [8] (by decide +kernel) (by decide +kernel)
set_option maxRecDepth 20000 in
theorem gX6_loop_X6_within : GoodIn wsX6_loop (va_wsS RX6 105 yX6_within wsX6_within) := goodIn_app (goodIn_of _ (by decide +kernel)) ggX6_loop_X6_within
set_option maxRecDepth 20000 in
theorem ggX6_loop_X3_begin : GoodIn wsX6_loop wsX3_begin := goodIn_r _ [109, 96, 45, 4, 46, 146, 147, 148, 149, 150, 151, 152, 153, 154, 155, 156, 157] (by decide +kernel) (by decide +kernel)
set_option maxRecDepth 20000 in
theorem gX6_loop_X3_begin : GoodIn wsX6_loop (wsV RX6 176 RX3 yX3_begin wsX3_begin) := goodIn_app (goodIn_of _ (by decide +kernel)) ggX6_loop_X3_begin
set_option maxRecDepth 20000 in
theorem ggX6_loop_X3_end : GoodIn wsX6_loop wsX3_end := goodIn_r _ [113, 97, 45, 4, 46, 146, 147, 148, 149, 150, 151, 152, 153, 154, 155, 156, 157] (by decide +kernel) (by decide +kernel)
set_option maxRecDepth 20000 in
theorem gX6_loop_X3_end : GoodIn wsX6_loop (wsV RX6 179 RX3 yX3_end wsX3_end) := goodIn_app (goodIn_of _ (by decide +kernel)) ggX6_loop_X3_end
set_option maxRecDepth 20000 in
theorem ggX6_loop_X3_misclosure : GoodIn wsX6_loop wsX3_misclosure := goodIn_r _ [133, 110, 111, 112, 21, 113, 97, 45, 4, 46, 126, 127, 128, 129, 26, 106, 107, 108, 109, 96, 146, 147, 148, 149, 150, 151, 152, 153, 154, 155, 156, 157] (by decide +kernel) (by decide +kernel)
set_option maxRecDepth 20000 in
theorem gX6_loop_X3_misclosure : GoodIn wsX6_loop (wsV RX6 182 RX3 yX3_misclosure wsX3_misclosure) := goodIn_app (goodIn_of _ (by decide +kernel)) ggX6_loop_X3_misclosure
set_option maxRecDepth 20000 in
theorem ggX6_loop_X3_misclosureBySteps : GoodIn wsX6_loop wsX3_misclosureBySteps := goodIn_r _ [144, 23, 106, 107, 108, 21, 109, 96, 45, 4, 46, 126, 127, 128, 129, 26, 110, 111, 112, 113, 97, 86, 87, 88, 89, 90, 27, 146, 147, 148, 149, 150, 151, 152, 153, 154, 155, 156, 157] (by decide +kernel) (by decide +kernel)
set_option maxRecDepth 20000 in
theorem gX6_loop_X3_misclosureBySteps : GoodIn wsX6_loop (wsV RX6 185 RX3 yX3_misclosureBySteps wsX3_misclosureBySteps) := goodIn_app (goodIn_of _ (by decide +kernel)) ggX6_loop_X3_misclosureBySteps
set_option maxRecDepth 20000 in
theorem ggX6_loop_X3_minutes : GoodIn wsX6_loop wsX3_minutes := goodIn_r _ [117, 24, 110, 111, 112, 21, 113, 97, 45, 4, 46, 106, 107, 108, 109, 96, 146, 147, 148, 149, 150, 151, 152, 153, 154, 155, 156, 157] (by decide +kernel) (by decide +kernel)
set_option maxRecDepth 20000 in
theorem gX6_loop_X3_minutes : GoodIn wsX6_loop (wsV RX6 188 RX3 yX3_minutes wsX3_minutes) := goodIn_app (goodIn_of _ (by decide +kernel)) ggX6_loop_X3_minutes
theorem dX6_loop_0 : decode cX6_loop 0 = .ok (.iload_n 1, 1) := by decide +kernel
theorem dX6_loop_1 : decode cX6_loop 1 = .ok (.invokestatic 81, 3) := by decide +kernel
theorem dX6_loop_4 : decode cX6_loop 4 = .ok (.ifCond .ne 6, 3) := by decide +kernel
theorem dX6_loop_7 : decode cX6_loop 7 = .ok (.ldc 61, 2) := by decide +kernel
theorem dX6_loop_9 : decode cX6_loop 9 = .ok (.ireturn, 1) := by decide +kernel
theorem dX6_loop_10 : decode cX6_loop 10 = .ok (.aload_n 0, 1) := by decide +kernel
theorem dX6_loop_11 : decode cX6_loop 11 = .ok (.invokevirtual 109, 3) := by decide +kernel
theorem dX6_loop_14 : decode cX6_loop 14 = .ok (.aload_n 0, 1) := by decide +kernel
theorem dX6_loop_15 : decode cX6_loop 15 = .ok (.iload_n 1, 1) := by decide +kernel
theorem dX6_loop_16 : decode cX6_loop 16 = .ok (.invokevirtual 112, 3) := by decide +kernel
theorem dX6_loop_19 : decode cX6_loop 19 = .ok (.astore 4, 2) := by decide +kernel
theorem dX6_loop_21 : decode cX6_loop 21 = .ok (.iload_n 2, 1) := by decide +kernel
theorem dX6_loop_22 : decode cX6_loop 22 = .ok (.iconst 0, 1) := by decide +kernel
theorem dX6_loop_23 : decode cX6_loop 23 = .ok (.aload 4, 2) := by decide +kernel
theorem dX6_loop_25 : decode cX6_loop 25 = .ok (.getfield 129, 3) := by decide +kernel
theorem dX6_loop_28 : decode cX6_loop 28 = .ok (.iconst 1, 1) := by decide +kernel
theorem dX6_loop_29 : decode cX6_loop 29 = .ok (.isub, 1) := by decide +kernel
theorem dX6_loop_30 : decode cX6_loop 30 = .ok (.invokestatic 105, 3) := by decide +kernel
theorem dX6_loop_33 : decode cX6_loop 33 = .ok (.ifCond .ne 6, 3) := by decide +kernel
theorem dX6_loop_36 : decode cX6_loop 36 = .ok (.ldc 61, 2) := by decide +kernel
theorem dX6_loop_38 : decode cX6_loop 38 = .ok (.ireturn, 1) := by decide +kernel
theorem dX6_loop_39 : decode cX6_loop 39 = .ok (.iload_n 3, 1) := by decide +kernel
theorem dX6_loop_40 : decode cX6_loop 40 = .ok (.tableswitch 71 0 4 #[36, 43, 50, 57, 64], 36) := by decide +kernel
theorem dX6_loop_76 : decode cX6_loop 76 = .ok (.aload 4, 2) := by decide +kernel
theorem dX6_loop_78 : decode cX6_loop 78 = .ok (.iload_n 2, 1) := by decide +kernel
theorem dX6_loop_79 : decode cX6_loop 79 = .ok (.invokevirtual 176, 3) := by decide +kernel
theorem dX6_loop_82 : decode cX6_loop 82 = .ok (.ireturn, 1) := by decide +kernel
theorem dX6_loop_83 : decode cX6_loop 83 = .ok (.aload 4, 2) := by decide +kernel
theorem dX6_loop_85 : decode cX6_loop 85 = .ok (.iload_n 2, 1) := by decide +kernel
theorem dX6_loop_86 : decode cX6_loop 86 = .ok (.invokevirtual 179, 3) := by decide +kernel
theorem dX6_loop_89 : decode cX6_loop 89 = .ok (.ireturn, 1) := by decide +kernel
theorem dX6_loop_90 : decode cX6_loop 90 = .ok (.aload 4, 2) := by decide +kernel
theorem dX6_loop_92 : decode cX6_loop 92 = .ok (.iload_n 2, 1) := by decide +kernel
theorem dX6_loop_93 : decode cX6_loop 93 = .ok (.invokevirtual 182, 3) := by decide +kernel
theorem dX6_loop_96 : decode cX6_loop 96 = .ok (.ireturn, 1) := by decide +kernel
theorem dX6_loop_97 : decode cX6_loop 97 = .ok (.aload 4, 2) := by decide +kernel
theorem dX6_loop_99 : decode cX6_loop 99 = .ok (.iload_n 2, 1) := by decide +kernel
theorem dX6_loop_100 : decode cX6_loop 100 = .ok (.invokevirtual 185, 3) := by decide +kernel
theorem dX6_loop_103 : decode cX6_loop 103 = .ok (.ireturn, 1) := by decide +kernel
theorem dX6_loop_104 : decode cX6_loop 104 = .ok (.aload 4, 2) := by decide +kernel
theorem dX6_loop_106 : decode cX6_loop 106 = .ok (.iload_n 2, 1) := by decide +kernel
theorem dX6_loop_107 : decode cX6_loop 107 = .ok (.invokevirtual 188, 3) := by decide +kernel
theorem dX6_loop_110 : decode cX6_loop 110 = .ok (.ireturn, 1) := by decide +kernel
theorem dX6_loop_111 : decode cX6_loop 111 = .ok (.ldc 61, 2) := by decide +kernel
theorem dX6_loop_113 : decode cX6_loop 113 = .ok (.ireturn, 1) := by decide +kernel
set_option maxRecDepth 20000 in
theorem ggX6_openLoop_X6_isCell : GoodIn wsX6_openLoop wsX6_isCell := goodIn_r _ [6, 7, 8, 5, 9] (by decide +kernel) (by decide +kernel)
set_option maxRecDepth 20000 in
theorem gX6_openLoop_X6_isCell : GoodIn wsX6_openLoop (va_wsS RX6 81 yX6_isCell wsX6_isCell) := goodIn_app (goodIn_of _ (by decide +kernel)) ggX6_openLoop_X6_isCell
set_option maxRecDepth 20000 in
theorem ggX6_openLoop_X6_isReadingOf : GoodIn wsX6_openLoop wsX6_isReadingOf := goodIn_r _ [13, 14, 3, 4, 5, 6, 7, 8, 9, 15, 16, 17, 18, 19, 20, 21, 22, 23, 145, 146, 147, 148, 149, 150, 151, 152, 153, 154, 155, 156, 157, 158, 159, 160, 161, 162, 163] (by decide +kernel) (by decide +kernel)
set_option maxRecDepth 20000 in
theorem gX6_openLoop_X6_isReadingOf : GoodIn wsX6_openLoop (wsV RX6 88 RX6 yX6_isReadingOf wsX6_isReadingOf) := goodIn_app (goodIn_of _ (by decide +kernel)) ggX6_openLoop_X6_isReadingOf
set_option maxRecDepth 20000 in
theorem ggX6_openLoop_X6_refresh : GoodIn wsX6_openLoop wsX6_refresh := goodIn_r _ [27, 28, 29, 14, 30, 31, 32, 33, 34, 35, 36, 37, 38, 39, 40, 41, 42, 43, 44, 16, 17, 18, 19, 20, 21, 22, 23, 45, 46, 47, 48, 49, 50, 51, 5, 52, 53, 54, 55, 56, 57, 58, 59, 60, 61, 62, 63, 64, 65, 66, 67, 68, 69, 70, 71, 72, 73, 74, 75, 76, 77, 78, 79, 80, 81, 82, 83, 84, 85, 86, 87, 88, 89, 90, 91, 92, 93, 94, 95, 96, 97, 98, 99, 100, 101, 102, 103, 104, 105, 106, 107, 108, 109, 110, 111, 112, 113, 114, 115, 116, 117, 118, 119, 120, 121, 122, 123, 124, 125, 126, 127, 128, 129, 130, 131, 132, 133, 134, 135, 136, 137, 138, 139, 145, 146, 147, 148, 149, 150, 151, 152, 153, 154, 155, 156, 164, 165, 166, 167, 168, 169, 170, 171, 172, 173, 174, 175, 157, 158, 159, 160, 161, 162, 163] (by decide +kernel) (by decide +kernel)
set_option maxRecDepth 20000 in
theorem gX6_openLoop_X6_refresh : GoodIn wsX6_openLoop (wsV RX6 109 RX6 yX6_refresh wsX6_refresh) := goodIn_app (goodIn_of _ (by decide +kernel)) ggX6_openLoop_X6_refresh
set_option maxRecDepth 20000 in
theorem ggX6_openLoop_X6_surveyOf : GoodIn wsX6_openLoop wsX6_surveyOf := goodIn_r _ [143, 29, 30, 31, 145, 146, 147, 148, 149, 150, 151, 152, 153] (by decide +kernel) (by decide +kernel)
set_option maxRecDepth 20000 in
theorem gX6_openLoop_X6_surveyOf : GoodIn wsX6_openLoop (wsV RX6 112 RX6 yX6_surveyOf wsX6_surveyOf) := goodIn_app (goodIn_of _ (by decide +kernel)) ggX6_openLoop_X6_surveyOf
set_option maxRecDepth 20000 in
theorem ggX6_openLoop_X3_openLoopOf : GoodIn wsX6_openLoop wsX3_openLoopOf := goodIn_r _ [131, 42, 51, 5, 52, 164, 165, 166, 167, 168, 169, 170, 171, 172, 173, 174, 175] (by decide +kernel) (by decide +kernel)
set_option maxRecDepth 20000 in
theorem gX6_openLoop_X3_openLoopOf : GoodIn wsX6_openLoop (wsV RX6 191 RX3 yX3_openLoopOf wsX3_openLoopOf) := goodIn_app (goodIn_of _ (by decide +kernel)) ggX6_openLoop_X3_openLoopOf
theorem dX6_openLoop_0 : decode cX6_openLoop 0 = .ok (.iload_n 1, 1) := by decide +kernel
theorem dX6_openLoop_1 : decode cX6_openLoop 1 = .ok (.invokestatic 81, 3) := by decide +kernel
theorem dX6_openLoop_4 : decode cX6_openLoop 4 = .ok (.ifCond .eq 12, 3) := by decide +kernel
theorem dX6_openLoop_7 : decode cX6_openLoop 7 = .ok (.aload_n 0, 1) := by decide +kernel
theorem dX6_openLoop_8 : decode cX6_openLoop 8 = .ok (.iload_n 1, 1) := by decide +kernel
theorem dX6_openLoop_9 : decode cX6_openLoop 9 = .ok (.iload_n 2, 1) := by decide +kernel
theorem dX6_openLoop_10 : decode cX6_openLoop 10 = .ok (.invokevirtual 88, 3) := by decide +kernel
theorem dX6_openLoop_13 : decode cX6_openLoop 13 = .ok (.ifCond .ne 6, 3) := by decide +kernel
theorem dX6_openLoop_16 : decode cX6_openLoop 16 = .ok (.ldc 61, 2) := by decide +kernel
theorem dX6_openLoop_18 : decode cX6_openLoop 18 = .ok (.ireturn, 1) := by decide +kernel
theorem dX6_openLoop_19 : decode cX6_openLoop 19 = .ok (.aload_n 0, 1) := by decide +kernel
theorem dX6_openLoop_20 : decode cX6_openLoop 20 = .ok (.invokevirtual 109, 3) := by decide +kernel
theorem dX6_openLoop_23 : decode cX6_openLoop 23 = .ok (.aload_n 0, 1) := by decide +kernel
theorem dX6_openLoop_24 : decode cX6_openLoop 24 = .ok (.iload_n 1, 1) := by decide +kernel
theorem dX6_openLoop_25 : decode cX6_openLoop 25 = .ok (.invokevirtual 112, 3) := by decide +kernel
theorem dX6_openLoop_28 : decode cX6_openLoop 28 = .ok (.iload_n 2, 1) := by decide +kernel
theorem dX6_openLoop_29 : decode cX6_openLoop 29 = .ok (.invokevirtual 191, 3) := by decide +kernel
theorem dX6_openLoop_32 : decode cX6_openLoop 32 = .ok (.istore_n 3, 1) := by decide +kernel
theorem dX6_openLoop_33 : decode cX6_openLoop 33 = .ok (.iload_n 3, 1) := by decide +kernel
theorem dX6_openLoop_34 : decode cX6_openLoop 34 = .ok (.iconst (-1), 1) := by decide +kernel
theorem dX6_openLoop_35 : decode cX6_openLoop 35 = .ok (.if_icmp .ne 8, 3) := by decide +kernel
theorem dX6_openLoop_38 : decode cX6_openLoop 38 = .ok (.ldc 108, 2) := by decide +kernel
theorem dX6_openLoop_40 : decode cX6_openLoop 40 = .ok (.goto 4, 3) := by decide +kernel
theorem dX6_openLoop_43 : decode cX6_openLoop 43 = .ok (.iload_n 3, 1) := by decide +kernel
theorem dX6_openLoop_44 : decode cX6_openLoop 44 = .ok (.ireturn, 1) := by decide +kernel
set_option maxRecDepth 20000 in
theorem ggX6_corrected_X6_isCell : GoodIn wsX6_corrected wsX6_isCell := goodIn_r _ [5, 6, 7, 4, 8] (by decide +kernel) (by decide +kernel)
set_option maxRecDepth 20000 in
theorem gX6_corrected_X6_isCell : GoodIn wsX6_corrected (va_wsS RX6 81 yX6_isCell wsX6_isCell) := goodIn_app (goodIn_of _ (by decide +kernel)) ggX6_corrected_X6_isCell
set_option maxRecDepth 20000 in
theorem ggX6_corrected_X6_isReadingOf : GoodIn wsX6_corrected wsX6_isReadingOf := goodIn_r _ [12, 13, 2, 3, 4, 5, 6, 7, 8, 14, 15, 16, 17, 18, 19, 20, 21, 22, 147, 148, 149, 150, 151, 152, 153, 154, 155, 156, 157, 158, 159, 160, 161, 162, 163, 164, 165] (by decide +kernel) (by decide +kernel)
set_option maxRecDepth 20000 in
theorem gX6_corrected_X6_isReadingOf : GoodIn wsX6_corrected (wsV RX6 88 RX6 yX6_isReadingOf wsX6_isReadingOf) := goodIn_app (goodIn_of _ (by decide +kernel)) ggX6_corrected_X6_isReadingOf
set_option maxRecDepth 20000 in
theorem ggX6_corrected_X6_refresh : GoodIn wsX6_corrected wsX6_refresh := goodIn_r _ [26, 27, 28, 13, 29, 30, 31, 32, 33, 34, 35, 36, 37, 38, 39, 40, 41, 42, 43, 15, 16, 17, 18, 19, 20, 21, 22, 44, 45, 46, 47, 48, 49, 50, 4, 51, 52, 53, 54, 55, 56, 57, 58, 59, 60, 61, 62, 63, 64, 65, 66, 67, 68, 69, 70, 71, 72, 73, 74, 75, 76, 77, 78, 79, 80, 81, 82, 83, 84, 85, 86, 87, 88, 89, 90, 91, 92, 93, 94, 95, 96, 97, 98, 99, 100, 101, 102, 103, 104, 105, 106, 107, 108, 109, 110, 111, 112, 113, 114, 115, 116, 117, 118, 119, 120, 121, 122, 123, 124, 125, 126, 127, 128, 129, 130, 131, 132, 133, 134, 135, 136, 137, 138, 147, 148, 149, 150, 151, 152, 153, 154, 155, 156, 157, 158, 166, 167, 168, 169, 170, 171, 172, 173, 174, 175, 176, 177, 159, 160, 161, 162, 163, 164, 165] (by decide +kernel) (by decide +kernel)
set_option maxRecDepth 20000 in
theorem gX6_corrected_X6_refresh : GoodIn wsX6_corrected (wsV RX6 109 RX6 yX6_refresh wsX6_refresh) := goodIn_app (goodIn_of _ (by decide +kernel)) ggX6_corrected_X6_refresh
set_option maxRecDepth 20000 in
theorem ggX6_corrected_X6_surveyOf : GoodIn wsX6_corrected wsX6_surveyOf := goodIn_r _ [142, 28, 29, 30, 147, 148, 149, 150, 151, 152, 153, 154, 155] (by decide +kernel) (by decide +kernel)
set_option maxRecDepth 20000 in
theorem gX6_corrected_X6_surveyOf : GoodIn wsX6_corrected (wsV RX6 112 RX6 yX6_surveyOf wsX6_surveyOf) := goodIn_app (goodIn_of _ (by decide +kernel)) ggX6_corrected_X6_surveyOf
set_option maxRecDepth 20000 in
theorem ggX6_corrected_X3_correctedHeight : GoodIn wsX6_corrected wsX3_correctedHeight := goodIn_r _ [146, 42, 50, 4, 51, 166, 167, 168, 169, 170, 171, 172, 173, 174, 175, 176, 177] (by decide +kernel) (by decide +kernel)
set_option maxRecDepth 20000 in
theorem gX6_corrected_X3_correctedHeight : GoodIn wsX6_corrected (wsV RX6 194 RX3 yX3_correctedHeight wsX3_correctedHeight) := goodIn_app (goodIn_of _ (by decide +kernel)) ggX6_corrected_X3_correctedHeight
theorem dX6_corrected_0 : decode cX6_corrected 0 = .ok (.iload_n 1, 1) := by decide +kernel
theorem dX6_corrected_1 : decode cX6_corrected 1 = .ok (.invokestatic 81, 3) := by decide +kernel
theorem dX6_corrected_4 : decode cX6_corrected 4 = .ok (.ifCond .eq 12, 3) := by decide +kernel
theorem dX6_corrected_7 : decode cX6_corrected 7 = .ok (.aload_n 0, 1) := by decide +kernel
theorem dX6_corrected_8 : decode cX6_corrected 8 = .ok (.iload_n 1, 1) := by decide +kernel
theorem dX6_corrected_9 : decode cX6_corrected 9 = .ok (.iload_n 2, 1) := by decide +kernel
theorem dX6_corrected_10 : decode cX6_corrected 10 = .ok (.invokevirtual 88, 3) := by decide +kernel
theorem dX6_corrected_13 : decode cX6_corrected 13 = .ok (.ifCond .ne 6, 3) := by decide +kernel
theorem dX6_corrected_16 : decode cX6_corrected 16 = .ok (.ldc 61, 2) := by decide +kernel
theorem dX6_corrected_18 : decode cX6_corrected 18 = .ok (.ireturn, 1) := by decide +kernel
theorem dX6_corrected_19 : decode cX6_corrected 19 = .ok (.aload_n 0, 1) := by decide +kernel
theorem dX6_corrected_20 : decode cX6_corrected 20 = .ok (.invokevirtual 109, 3) := by decide +kernel
theorem dX6_corrected_23 : decode cX6_corrected 23 = .ok (.aload_n 0, 1) := by decide +kernel
theorem dX6_corrected_24 : decode cX6_corrected 24 = .ok (.iload_n 1, 1) := by decide +kernel
theorem dX6_corrected_25 : decode cX6_corrected 25 = .ok (.invokevirtual 112, 3) := by decide +kernel
theorem dX6_corrected_28 : decode cX6_corrected 28 = .ok (.iload_n 2, 1) := by decide +kernel
theorem dX6_corrected_29 : decode cX6_corrected 29 = .ok (.invokevirtual 194, 3) := by decide +kernel
theorem dX6_corrected_32 : decode cX6_corrected 32 = .ok (.ireturn, 1) := by decide +kernel
set_option maxRecDepth 20000 in
theorem ggX6_point_X6_isPoint : GoodIn wsX6_point wsX6_isPoint := goodIn_r _ [7, 8, 9, 6, 10] (by decide +kernel) (by decide +kernel)
set_option maxRecDepth 20000 in
theorem gX6_point_X6_isPoint : GoodIn wsX6_point (va_wsS RX6 85 yX6_isPoint wsX6_isPoint) := goodIn_app (goodIn_of _ (by decide +kernel)) ggX6_point_X6_isPoint
set_option maxRecDepth 20000 in
theorem ggX6_point_X6_within : GoodIn wsX6_point wsX6_within := goodIn_r _ [10] (by decide +kernel) (by decide +kernel)
set_option maxRecDepth 20000 in
theorem gX6_point_X6_within : GoodIn wsX6_point (va_wsS RX6 105 yX6_within wsX6_within) := goodIn_app (goodIn_of _ (by decide +kernel)) ggX6_point_X6_within
set_option maxRecDepth 20000 in
theorem ggX6_point_X6_refresh : GoodIn wsX6_point wsX6_refresh := goodIn_r _ [14, 15, 16, 17, 18, 19, 20, 21, 22, 23, 24, 25, 26, 27, 28, 29, 30, 31, 32, 33, 34, 35, 36, 37, 38, 39, 40, 41, 42, 43, 44, 45, 46, 47, 6, 48, 49, 50, 51, 52, 53, 54, 55, 56, 57, 58, 59, 60, 61, 62, 63, 64, 65, 66, 67, 68, 69, 70, 71, 72, 73, 74, 75, 76, 77, 78, 79, 80, 81, 82, 83, 84, 85, 86, 87, 88, 89, 90, 91, 92, 93, 94, 95, 96, 97, 98, 99, 100, 101, 102, 103, 104, 105, 106, 107, 108, 109, 110, 111, 112, 113, 114, 115, 116, 117, 118, 119, 120, 121, 122, 123, 124, 125, 126, 127, 128, 129, 130, 131, 132, 133, 134, 135, 184, 185, 186, 187, 188, 189, 190, 191, 192, 197, 198, 199, 200, 201, 202, 203, 204, 205, 206, 207, 208, 209, 210, 211, 212, 213, 214, 215, 216, 217, 218] (by decide +kernel) (by decide +kernel)
set_option maxRecDepth 20000 in
theorem gX6_point_X6_refresh : GoodIn wsX6_point (wsV RX6 109 RX6 yX6_refresh wsX6_refresh) := goodIn_app (goodIn_of _ (by decide +kernel)) ggX6_point_X6_refresh
set_option maxRecDepth 20000 in
theorem ggX6_point_X6_gather : GoodIn wsX6_point wsX6_gather := goodIn_r _ [139, 2, 140, 141, 142, 143, 144, 145, 146, 147, 148, 149, 6, 150, 16, 18, 19, 151, 152, 153, 23, 154, 25, 27, 88, 89, 90, 91, 28, 92, 29, 47, 48, 155, 156, 157, 158, 124, 125, 126, 127, 30, 112, 113, 114, 115, 99, 159, 160, 161, 162, 31, 163, 164, 165, 166, 167, 168, 169, 170, 171, 172, 173, 174, 175, 184, 185, 186, 187, 188, 189, 190, 191, 192, 193, 194, 195, 196, 200, 201, 202, 203, 204, 205, 206, 207, 208, 209, 210, 211] (by decide +kernel) (by decide +kernel)
set_option maxRecDepth 20000 in
theorem gX6_point_X6_gather : GoodIn wsX6_point (wsV RX6 197 RX6 yX6_gather wsX6_gather) := goodIn_app (goodIn_of _ (by decide +kernel)) ggX6_point_X6_gather
set_option maxRecDepth 20000 in
theorem ggX6_point_X1_height : GoodIn wsX6_point wsX1_height := goodIn_r _ [179, 145, 146, 63, 6, 64, 65, 66, 67, 68, 193, 194, 195, 196] (by decide +kernel) (by decide +kernel)
set_option maxRecDepth 20000 in
theorem gX6_point_X1_height : GoodIn wsX6_point (wsV RX6 203 RX1 yX1_height wsX1_height) := goodIn_app (goodIn_of _ (by decide +kernel)) ggX6_point_X1_height
set_option maxRecDepth 20000 in
theorem ggX6_point_X1_spread : GoodIn wsX6_point wsX1_spread := goodIn_r _ [183, 172, 167, 193, 194, 195, 196] (by decide +kernel) (by decide +kernel)
set_option maxRecDepth 20000 in
theorem gX6_point_X1_spread : GoodIn wsX6_point (wsV RX6 206 RX1 yX1_spread wsX1_spread) := goodIn_app (goodIn_of _ (by decide +kernel)) ggX6_point_X1_spread
theorem dX6_point_0 : decode cX6_point 0 = .ok (.iload_n 1, 1) := by decide +kernel
theorem dX6_point_1 : decode cX6_point 1 = .ok (.invokestatic 85, 3) := by decide +kernel
theorem dX6_point_4 : decode cX6_point 4 = .ok (.ifCond .eq 12, 3) := by decide +kernel
theorem dX6_point_7 : decode cX6_point 7 = .ok (.iload_n 2, 1) := by decide +kernel
theorem dX6_point_8 : decode cX6_point 8 = .ok (.iconst 0, 1) := by decide +kernel
theorem dX6_point_9 : decode cX6_point 9 = .ok (.iconst 2, 1) := by decide +kernel
theorem dX6_point_10 : decode cX6_point 10 = .ok (.invokestatic 105, 3) := by decide +kernel
theorem dX6_point_13 : decode cX6_point 13 = .ok (.ifCond .ne 6, 3) := by decide +kernel
theorem dX6_point_16 : decode cX6_point 16 = .ok (.ldc 61, 2) := by decide +kernel
theorem dX6_point_18 : decode cX6_point 18 = .ok (.ireturn, 1) := by decide +kernel
theorem dX6_point_19 : decode cX6_point 19 = .ok (.aload_n 0, 1) := by decide +kernel
theorem dX6_point_20 : decode cX6_point 20 = .ok (.invokevirtual 109, 3) := by decide +kernel
theorem dX6_point_23 : decode cX6_point 23 = .ok (.aload_n 0, 1) := by decide +kernel
theorem dX6_point_24 : decode cX6_point 24 = .ok (.iload_n 1, 1) := by decide +kernel
theorem dX6_point_25 : decode cX6_point 25 = .ok (.invokevirtual 197, 3) := by decide +kernel
theorem dX6_point_28 : decode cX6_point 28 = .ok (.iload_n 2, 1) := by decide +kernel
theorem dX6_point_29 : decode cX6_point 29 = .ok (.iconst 2, 1) := by decide +kernel
theorem dX6_point_30 : decode cX6_point 30 = .ok (.if_icmp .ne 11, 3) := by decide +kernel
theorem dX6_point_33 : decode cX6_point 33 = .ok (.aload_n 0, 1) := by decide +kernel
theorem dX6_point_34 : decode cX6_point 34 = .ok (.getfield 42, 3) := by decide +kernel
theorem dX6_point_37 : decode cX6_point 37 = .ok (.getfield 200, 3) := by decide +kernel
theorem dX6_point_40 : decode cX6_point 40 = .ok (.ireturn, 1) := by decide +kernel
theorem dX6_point_41 : decode cX6_point 41 = .ok (.aload_n 0, 1) := by decide +kernel
theorem dX6_point_42 : decode cX6_point 42 = .ok (.getfield 42, 3) := by decide +kernel
theorem dX6_point_45 : decode cX6_point 45 = .ok (.getfield 200, 3) := by decide +kernel
theorem dX6_point_48 : decode cX6_point 48 = .ok (.ifCond .ne 6, 3) := by decide +kernel
theorem dX6_point_51 : decode cX6_point 51 = .ok (.ldc 108, 2) := by decide +kernel
theorem dX6_point_53 : decode cX6_point 53 = .ok (.ireturn, 1) := by decide +kernel
theorem dX6_point_54 : decode cX6_point 54 = .ok (.iload_n 2, 1) := by decide +kernel
theorem dX6_point_55 : decode cX6_point 55 = .ok (.ifCond .ne 13, 3) := by decide +kernel
theorem dX6_point_58 : decode cX6_point 58 = .ok (.aload_n 0, 1) := by decide +kernel
theorem dX6_point_59 : decode cX6_point 59 = .ok (.getfield 42, 3) := by decide +kernel
theorem dX6_point_62 : decode cX6_point 62 = .ok (.invokevirtual 203, 3) := by decide +kernel
theorem dX6_point_65 : decode cX6_point 65 = .ok (.goto 10, 3) := by decide +kernel
theorem dX6_point_68 : decode cX6_point 68 = .ok (.aload_n 0, 1) := by decide +kernel
theorem dX6_point_69 : decode cX6_point 69 = .ok (.getfield 42, 3) := by decide +kernel
theorem dX6_point_72 : decode cX6_point 72 = .ok (.invokevirtual 206, 3) := by decide +kernel
theorem dX6_point_75 : decode cX6_point 75 = .ok (.ireturn, 1) := by decide +kernel
set_option maxRecDepth 20000 in
theorem ggX6_worst_X6_within : GoodIn wsX6_worst wsX6_within := goodIn_r _ [10] (by decide +kernel) (by decide +kernel)
set_option maxRecDepth 20000 in
theorem gX6_worst_X6_within : GoodIn wsX6_worst (va_wsS RX6 105 yX6_within wsX6_within) := goodIn_app (goodIn_of _ (by decide +kernel)) ggX6_worst_X6_within
set_option maxRecDepth 20000 in
theorem ggX6_worst_X6_refresh : GoodIn wsX6_worst wsX6_refresh := goodIn_r _ [14, 15, 16, 17, 18, 19, 20, 21, 22, 23, 24, 25, 26, 27, 28, 29, 30, 31, 32, 33, 34, 35, 36, 37, 38, 39, 40, 41, 42, 43, 44, 45, 46, 47, 9, 48, 49, 50, 51, 52, 53, 54, 55, 56, 57, 58, 59, 60, 61, 62, 63, 64, 65, 66, 67, 68, 69, 70, 71, 72, 73, 74, 75, 76, 77, 78, 79, 80, 81, 82, 83, 84, 85, 86, 87, 88, 89, 90, 91, 92, 93, 94, 95, 96, 97, 98, 99, 100, 101, 102, 103, 104, 105, 106, 107, 108, 109, 110, 111, 112, 113, 114, 115, 116, 117, 118, 119, 120, 121, 122, 123, 124, 125, 126, 127, 128, 129, 130, 131, 132, 133, 134, 135, 153, 154, 155, 156, 157, 158, 159, 160, 161, 162, 163, 164, 141, 142, 143, 144, 145, 146, 147, 148, 149, 150, 151, 152, 165, 166, 167, 168, 169, 170, 171] (by decide +kernel) (by decide +kernel)
set_option maxRecDepth 20000 in
theorem gX6_worst_X6_refresh : GoodIn wsX6_worst (wsV RX6 109 RX6 yX6_refresh wsX6_refresh) := goodIn_app (goodIn_of _ (by decide +kernel)) ggX6_worst_X6_refresh
set_option maxRecDepth 20000 in
theorem ggX6_worst_X6_surveyOf : GoodIn wsX6_worst wsX6_surveyOf := goodIn_r _ [139, 16, 18, 19, 153, 154, 155, 156, 157, 158, 159, 160, 161] (by decide +kernel) (by decide +kernel)
set_option maxRecDepth 20000 in
theorem gX6_worst_X6_surveyOf : GoodIn wsX6_worst (wsV RX6 112 RX6 yX6_surveyOf wsX6_surveyOf) := goodIn_app (goodIn_of _ (by decide +kernel)) ggX6_worst_X6_surveyOf
set_option maxRecDepth 20000 in
theorem ggX6_worst_X3_misclosure : GoodIn wsX6_worst wsX3_misclosure := goodIn_r _ [135, 112, 113, 114, 23, 115, 99, 47, 9, 48, 128, 129, 130, 131, 28, 108, 109, 110, 111, 98, 141, 142, 143, 144, 145, 146, 147, 148, 149, 150, 151, 152] (by decide +kernel) (by decide +kernel)
set_option maxRecDepth 20000 in
theorem gX6_worst_X3_misclosure : GoodIn wsX6_worst (wsV RX6 182 RX3 yX3_misclosure wsX3_misclosure) := goodIn_app (goodIn_of _ (by decide +kernel)) ggX6_worst_X3_misclosure
theorem dX6_worst_0 : decode cX6_worst 0 = .ok (.iload_n 1, 1) := by decide +kernel
theorem dX6_worst_1 : decode cX6_worst 1 = .ok (.iconst 0, 1) := by decide +kernel
theorem dX6_worst_2 : decode cX6_worst 2 = .ok (.iconst 1, 1) := by decide +kernel
theorem dX6_worst_3 : decode cX6_worst 3 = .ok (.invokestatic 105, 3) := by decide +kernel
theorem dX6_worst_6 : decode cX6_worst 6 = .ok (.ifCond .ne 6, 3) := by decide +kernel
theorem dX6_worst_9 : decode cX6_worst 9 = .ok (.ldc 61, 2) := by decide +kernel
theorem dX6_worst_11 : decode cX6_worst 11 = .ok (.ireturn, 1) := by decide +kernel
theorem dX6_worst_12 : decode cX6_worst 12 = .ok (.aload_n 0, 1) := by decide +kernel
theorem dX6_worst_13 : decode cX6_worst 13 = .ok (.invokevirtual 109, 3) := by decide +kernel
theorem dX6_worst_16 : decode cX6_worst 16 = .ok (.iconst (-1), 1) := by decide +kernel
theorem dX6_worst_17 : decode cX6_worst 17 = .ok (.istore_n 2, 1) := by decide +kernel
theorem dX6_worst_18 : decode cX6_worst 18 = .ok (.ldc 108, 2) := by decide +kernel
theorem dX6_worst_20 : decode cX6_worst 20 = .ok (.istore_n 3, 1) := by decide +kernel
theorem dX6_worst_21 : decode cX6_worst 21 = .ok (.ldc 108, 2) := by decide +kernel
theorem dX6_worst_23 : decode cX6_worst 23 = .ok (.istore 4, 2) := by decide +kernel
theorem dX6_worst_25 : decode cX6_worst 25 = .ok (.iconst 0, 1) := by decide +kernel
theorem dX6_worst_26 : decode cX6_worst 26 = .ok (.istore 5, 2) := by decide +kernel
theorem dX6_worst_28 : decode cX6_worst 28 = .ok (.iload 5, 2) := by decide +kernel
theorem dX6_worst_30 : decode cX6_worst 30 = .ok (.iconst 3, 1) := by decide +kernel
theorem dX6_worst_31 : decode cX6_worst 31 = .ok (.if_icmp .ge 64, 3) := by decide +kernel
theorem dX6_worst_34 : decode cX6_worst 34 = .ok (.aload_n 0, 1) := by decide +kernel
theorem dX6_worst_35 : decode cX6_worst 35 = .ok (.iload 5, 2) := by decide +kernel
theorem dX6_worst_37 : decode cX6_worst 37 = .ok (.invokevirtual 112, 3) := by decide +kernel
theorem dX6_worst_40 : decode cX6_worst 40 = .ok (.astore 6, 2) := by decide +kernel
theorem dX6_worst_42 : decode cX6_worst 42 = .ok (.iconst 0, 1) := by decide +kernel
theorem dX6_worst_43 : decode cX6_worst 43 = .ok (.istore 7, 2) := by decide +kernel
theorem dX6_worst_45 : decode cX6_worst 45 = .ok (.iload 7, 2) := by decide +kernel
theorem dX6_worst_47 : decode cX6_worst 47 = .ok (.aload 6, 2) := by decide +kernel
theorem dX6_worst_49 : decode cX6_worst 49 = .ok (.getfield 129, 3) := by decide +kernel
theorem dX6_worst_52 : decode cX6_worst 52 = .ok (.if_icmp .ge 37, 3) := by decide +kernel
theorem dX6_worst_55 : decode cX6_worst 55 = .ok (.aload 6, 2) := by decide +kernel
theorem dX6_worst_57 : decode cX6_worst 57 = .ok (.iload 7, 2) := by decide +kernel
theorem dX6_worst_59 : decode cX6_worst 59 = .ok (.invokevirtual 182, 3) := by decide +kernel
theorem dX6_worst_62 : decode cX6_worst 62 = .ok (.invokestatic 209, 3) := by decide +kernel
theorem dX6_worst_65 : decode cX6_worst 65 = .ok (.istore 8, 2) := by decide +kernel
theorem dX6_worst_67 : decode cX6_worst 67 = .ok (.iload 8, 2) := by decide +kernel
theorem dX6_worst_69 : decode cX6_worst 69 = .ok (.iload_n 2, 1) := by decide +kernel
theorem dX6_worst_70 : decode cX6_worst 70 = .ok (.if_icmp .le 13, 3) := by decide +kernel
theorem dX6_worst_73 : decode cX6_worst 73 = .ok (.iload 8, 2) := by decide +kernel
theorem dX6_worst_75 : decode cX6_worst 75 = .ok (.istore_n 2, 1) := by decide +kernel
theorem dX6_worst_76 : decode cX6_worst 76 = .ok (.iload 5, 2) := by decide +kernel
theorem dX6_worst_78 : decode cX6_worst 78 = .ok (.istore_n 3, 1) := by decide +kernel
theorem dX6_worst_79 : decode cX6_worst 79 = .ok (.iload 7, 2) := by decide +kernel
theorem dX6_worst_81 : decode cX6_worst 81 = .ok (.istore 4, 2) := by decide +kernel
theorem dX6_worst_83 : decode cX6_worst 83 = .ok (.iinc 7 1, 3) := by decide +kernel
theorem dX6_worst_86 : decode cX6_worst 86 = .ok (.goto (-41), 3) := by decide +kernel
theorem dX6_worst_89 : decode cX6_worst 89 = .ok (.iinc 5 1, 3) := by decide +kernel
theorem dX6_worst_92 : decode cX6_worst 92 = .ok (.goto (-64), 3) := by decide +kernel
theorem dX6_worst_95 : decode cX6_worst 95 = .ok (.iload_n 1, 1) := by decide +kernel
theorem dX6_worst_96 : decode cX6_worst 96 = .ok (.ifCond .ne 7, 3) := by decide +kernel
theorem dX6_worst_99 : decode cX6_worst 99 = .ok (.iload_n 3, 1) := by decide +kernel
theorem dX6_worst_100 : decode cX6_worst 100 = .ok (.goto 5, 3) := by decide +kernel
theorem dX6_worst_103 : decode cX6_worst 103 = .ok (.iload 4, 2) := by decide +kernel
theorem dX6_worst_105 : decode cX6_worst 105 = .ok (.ireturn, 1) := by decide +kernel
set_option maxRecDepth 20000 in
theorem ggX6_type_X6_within : GoodIn wsX6_type wsX6_within := goodIn_r _ [7] (by decide +kernel) (by decide +kernel)
set_option maxRecDepth 20000 in
theorem gX6_type_X6_within : GoodIn wsX6_type (va_wsS RX6 105 yX6_within wsX6_within) := goodIn_app (goodIn_of _ (by decide +kernel)) ggX6_type_X6_within
set_option maxRecDepth 20000 in
theorem ggX6_type_X4_append : GoodIn wsX6_type wsX4_append := goodIn_r _ [12, 13, 14, 15, 6, 16, 26, 27, 28, 29, 30, 31, 32, 33, 34, 35, 36] (by decide +kernel) (by decide +kernel)
set_option maxRecDepth 20000 in
theorem gX6_type_X4_append : GoodIn wsX6_type (wsV RX6 215 RX4 yX4_append wsX4_append) := goodIn_app (goodIn_of _ (by decide +kernel)) ggX6_type_X4_append
theorem dX6_type_0 : decode cX6_type 0 = .ok (.iload_n 1, 1) := by decide +kernel
theorem dX6_type_1 : decode cX6_type 1 = .ok (.bipush 32, 2) := by decide +kernel
theorem dX6_type_3 : decode cX6_type 3 = .ok (.bipush 126, 2) := by decide +kernel
theorem dX6_type_5 : decode cX6_type 5 = .ok (.invokestatic 105, 3) := by decide +kernel
theorem dX6_type_8 : decode cX6_type 8 = .ok (.ifCond .ne 6, 3) := by decide +kernel
theorem dX6_type_11 : decode cX6_type 11 = .ok (.ldc 61, 2) := by decide +kernel
theorem dX6_type_13 : decode cX6_type 13 = .ok (.ireturn, 1) := by decide +kernel
theorem dX6_type_14 : decode cX6_type 14 = .ok (.aload_n 0, 1) := by decide +kernel
theorem dX6_type_15 : decode cX6_type 15 = .ok (.getfield 49, 3) := by decide +kernel
theorem dX6_type_18 : decode cX6_type 18 = .ok (.getfield 140, 3) := by decide +kernel
theorem dX6_type_21 : decode cX6_type 21 = .ok (.bipush 100, 2) := by decide +kernel
theorem dX6_type_23 : decode cX6_type 23 = .ok (.if_icmp .lt 6, 3) := by decide +kernel
theorem dX6_type_26 : decode cX6_type 26 = .ok (.ldc 214, 2) := by decide +kernel
theorem dX6_type_28 : decode cX6_type 28 = .ok (.ireturn, 1) := by decide +kernel
theorem dX6_type_29 : decode cX6_type 29 = .ok (.aload_n 0, 1) := by decide +kernel
theorem dX6_type_30 : decode cX6_type 30 = .ok (.getfield 49, 3) := by decide +kernel
theorem dX6_type_33 : decode cX6_type 33 = .ok (.iload_n 1, 1) := by decide +kernel
theorem dX6_type_34 : decode cX6_type 34 = .ok (.invokevirtual 215, 3) := by decide +kernel
theorem dX6_type_37 : decode cX6_type 37 = .ok (.aload_n 0, 1) := by decide +kernel
theorem dX6_type_38 : decode cX6_type 38 = .ok (.getfield 49, 3) := by decide +kernel
theorem dX6_type_41 : decode cX6_type 41 = .ok (.getfield 140, 3) := by decide +kernel
theorem dX6_type_44 : decode cX6_type 44 = .ok (.ireturn, 1) := by decide +kernel
theorem dX6_clearText_0 : decode cX6_clearText 0 = .ok (.aload_n 0, 1) := by decide +kernel
theorem dX6_clearText_1 : decode cX6_clearText 1 = .ok (.getfield 49, 3) := by decide +kernel
theorem dX6_clearText_4 : decode cX6_clearText 4 = .ok (.getfield 140, 3) := by decide +kernel
theorem dX6_clearText_7 : decode cX6_clearText 7 = .ok (.istore_n 1, 1) := by decide +kernel
theorem dX6_clearText_8 : decode cX6_clearText 8 = .ok (.aload_n 0, 1) := by decide +kernel
theorem dX6_clearText_9 : decode cX6_clearText 9 = .ok (.getfield 49, 3) := by decide +kernel
theorem dX6_clearText_12 : decode cX6_clearText 12 = .ok (.iconst 0, 1) := by decide +kernel
theorem dX6_clearText_13 : decode cX6_clearText 13 = .ok (.putfield 140, 3) := by decide +kernel
theorem dX6_clearText_16 : decode cX6_clearText 16 = .ok (.iload_n 1, 1) := by decide +kernel
theorem dX6_clearText_17 : decode cX6_clearText 17 = .ok (.ireturn, 1) := by decide +kernel
set_option maxRecDepth 20000 in
theorem ggX6_fault_X6_within : GoodIn wsX6_fault wsX6_within := goodIn_r _ [7] (by decide +kernel) (by decide +kernel)
set_option maxRecDepth 20000 in
theorem gX6_fault_X6_within : GoodIn wsX6_fault (va_wsS RX6 105 yX6_within wsX6_within) := goodIn_app (goodIn_of _ (by decide +kernel)) ggX6_fault_X6_within
set_option maxRecDepth 20000 in
theorem ggX6_fault_X6_tryText : GoodIn wsX6_fault wsX6_tryText := goodIn_r _ [11, 12, 13, 2, 14, 15, 16, 17, 18, 19, 20, 21, 22, 23, 24, 25, 26, 27, 28, 29, 30, 31, 32, 33, 34, 35, 36, 37, 38, 39, 40, 41, 42, 43, 44, 45, 46, 47, 48, 49, 50, 51, 52, 53, 54, 55, 56, 57, 58, 59, 60, 61, 62, 63, 64, 65, 66, 67, 68, 69, 6, 70, 71, 72, 73, 74, 5, 7, 75, 76, 77, 78, 79, 80, 81, 82, 83, 84, 85, 86, 87, 88, 89, 4, 90, 91, 92, 93, 94, 95, 96, 97, 98, 99, 100, 101, 102, 103, 104, 105, 106, 107, 108, 109, 110, 111, 112, 113, 114, 115, 116, 117, 118, 119, 120, 121, 122, 123, 124, 136, 137, 138, 139, 140, 141, 142, 143, 144, 145, 125, 126, 127, 128, 129, 130, 131, 132, 133, 134, 135] (by decide +kernel) (by decide +kernel)
set_option maxRecDepth 20000 in
theorem gX6_fault_X6_tryText : GoodIn wsX6_fault (wsV RX6 218 RX6 yX6_tryText wsX6_tryText) := goodIn_app (goodIn_of _ (by decide +kernel)) ggX6_fault_X6_tryText
theorem dX6_fault_0 : decode cX6_fault 0 = .ok (.iload_n 1, 1) := by decide +kernel
theorem dX6_fault_1 : decode cX6_fault 1 = .ok (.iconst 0, 1) := by decide +kernel
theorem dX6_fault_2 : decode cX6_fault 2 = .ok (.iconst 1, 1) := by decide +kernel
theorem dX6_fault_3 : decode cX6_fault 3 = .ok (.invokestatic 105, 3) := by decide +kernel
theorem dX6_fault_6 : decode cX6_fault 6 = .ok (.ifCond .ne 6, 3) := by decide +kernel
theorem dX6_fault_9 : decode cX6_fault 9 = .ok (.ldc 61, 2) := by decide +kernel
theorem dX6_fault_11 : decode cX6_fault 11 = .ok (.ireturn, 1) := by decide +kernel
theorem dX6_fault_12 : decode cX6_fault 12 = .ok (.aload_n 0, 1) := by decide +kernel
theorem dX6_fault_13 : decode cX6_fault 13 = .ok (.invokevirtual 218, 3) := by decide +kernel
theorem dX6_fault_16 : decode cX6_fault 16 = .ok (.aload_n 0, 1) := by decide +kernel
theorem dX6_fault_17 : decode cX6_fault 17 = .ok (.getfield 49, 3) := by decide +kernel
theorem dX6_fault_20 : decode cX6_fault 20 = .ok (.getfield 221, 3) := by decide +kernel
theorem dX6_fault_23 : decode cX6_fault 23 = .ok (.iconst (-1), 1) := by decide +kernel
theorem dX6_fault_24 : decode cX6_fault 24 = .ok (.if_icmp .ne 6, 3) := by decide +kernel
theorem dX6_fault_27 : decode cX6_fault 27 = .ok (.ldc 108, 2) := by decide +kernel
theorem dX6_fault_29 : decode cX6_fault 29 = .ok (.ireturn, 1) := by decide +kernel
theorem dX6_fault_30 : decode cX6_fault 30 = .ok (.iload_n 1, 1) := by decide +kernel
theorem dX6_fault_31 : decode cX6_fault 31 = .ok (.ifCond .ne 13, 3) := by decide +kernel
theorem dX6_fault_34 : decode cX6_fault 34 = .ok (.aload_n 0, 1) := by decide +kernel
theorem dX6_fault_35 : decode cX6_fault 35 = .ok (.getfield 49, 3) := by decide +kernel
theorem dX6_fault_38 : decode cX6_fault 38 = .ok (.getfield 221, 3) := by decide +kernel
theorem dX6_fault_41 : decode cX6_fault 41 = .ok (.goto 10, 3) := by decide +kernel
theorem dX6_fault_44 : decode cX6_fault 44 = .ok (.aload_n 0, 1) := by decide +kernel
theorem dX6_fault_45 : decode cX6_fault 45 = .ok (.getfield 49, 3) := by decide +kernel
theorem dX6_fault_48 : decode cX6_fault 48 = .ok (.getfield 224, 3) := by decide +kernel
theorem dX6_fault_51 : decode cX6_fault 51 = .ok (.ireturn, 1) := by decide +kernel
set_option maxRecDepth 20000 in
theorem ggX6_enter_X6_tryText : GoodIn wsX6_enter wsX6_tryText := goodIn_r _ [9, 4, 3, 1, 10, 11, 12, 13, 14, 15, 16, 17, 18, 19, 20, 21, 22, 23, 24, 25, 26, 27, 28, 29, 30, 31, 32, 33, 34, 35, 36, 37, 38, 39, 40, 41, 42, 43, 44, 45, 46, 47, 48, 49, 50, 51, 52, 53, 54, 55, 56, 57, 58, 59, 60, 61, 62, 63, 64, 65, 8, 66, 67, 68, 69, 70, 71, 72, 73, 74, 75, 76, 77, 78, 79, 80, 81, 82, 83, 84, 85, 86, 87, 88, 89, 90, 91, 92, 93, 94, 95, 96, 97, 98, 99, 100, 101, 102, 103, 104, 105, 106, 107, 108, 109, 110, 111, 112, 113, 114, 134, 135, 136, 137, 138, 139, 140, 141, 142, 154, 155, 156, 157, 158, 159, 160, 161, 162, 163, 143, 144, 145, 146, 147, 148, 149, 150, 151, 152, 153] (by decide +kernel) (by decide +kernel)
set_option maxRecDepth 20000 in
theorem gX6_enter_X6_tryText : GoodIn wsX6_enter (wsV RX6 218 RX6 yX6_tryText wsX6_tryText) := goodIn_app (goodIn_of _ (by decide +kernel)) ggX6_enter_X6_tryText
set_option maxRecDepth 20000 in
theorem ggX6_enter_X6_record : GoodIn wsX6_enter wsX6_record := goodIn_r _ [118, 119, 3, 120, 121, 122, 123, 124, 125, 126, 127, 128, 129, 130, 131, 132, 133, 11, 12, 13, 14, 15, 16, 17, 18, 19, 20, 21, 22, 23, 24, 25, 26, 27, 28, 29, 30, 31, 32, 33, 34, 35, 36, 134, 135, 136, 137, 138, 139, 140, 141, 142, 164, 165, 166, 154, 155, 156, 157, 158, 159, 160, 161, 162, 163] (by decide +kernel) (by decide +kernel)
set_option maxRecDepth 20000 in
theorem gX6_enter_X6_record : GoodIn wsX6_enter (wsV RX6 62 RX6 yX6_record wsX6_record) := goodIn_app (goodIn_of _ (by decide +kernel)) ggX6_enter_X6_record
set_option maxRecDepth 20000 in
theorem ggX6_enter_X2_copyFrom : GoodIn wsX6_enter wsX2_copyFrom := goodIn_r _ [14, 15, 16, 17, 18, 19, 20, 21, 22, 23, 24, 25, 26, 27, 28, 29, 30, 31, 32, 33, 34, 35, 36, 154, 155, 156, 157, 158, 159, 160, 161, 162, 163] (by decide +kernel) (by decide +kernel)
set_option maxRecDepth 20000 in
theorem gX6_enter_X2_copyFrom : GoodIn wsX6_enter (wsV RX6 227 RX2 yX2_copyFrom wsX2_copyFrom) := goodIn_app (goodIn_of _ (by decide +kernel)) ggX6_enter_X2_copyFrom
theorem dX6_enter_0 : decode cX6_enter 0 = .ok (.aload_n 0, 1) := by decide +kernel
theorem dX6_enter_1 : decode cX6_enter 1 = .ok (.invokevirtual 218, 3) := by decide +kernel
theorem dX6_enter_4 : decode cX6_enter 4 = .ok (.aload_n 0, 1) := by decide +kernel
theorem dX6_enter_5 : decode cX6_enter 5 = .ok (.getfield 49, 3) := by decide +kernel
theorem dX6_enter_8 : decode cX6_enter 8 = .ok (.getfield 221, 3) := by decide +kernel
theorem dX6_enter_11 : decode cX6_enter 11 = .ok (.iconst (-1), 1) := by decide +kernel
theorem dX6_enter_12 : decode cX6_enter 12 = .ok (.if_icmp .eq 6, 3) := by decide +kernel
theorem dX6_enter_15 : decode cX6_enter 15 = .ok (.ldc 146, 2) := by decide +kernel
theorem dX6_enter_17 : decode cX6_enter 17 = .ok (.ireturn, 1) := by decide +kernel
theorem dX6_enter_18 : decode cX6_enter 18 = .ok (.aload_n 0, 1) := by decide +kernel
theorem dX6_enter_19 : decode cX6_enter 19 = .ok (.invokevirtual 62, 3) := by decide +kernel
theorem dX6_enter_22 : decode cX6_enter 22 = .ok (.aload_n 0, 1) := by decide +kernel
theorem dX6_enter_23 : decode cX6_enter 23 = .ok (.getfield 10, 3) := by decide +kernel
theorem dX6_enter_26 : decode cX6_enter 26 = .ok (.aload_n 0, 1) := by decide +kernel
theorem dX6_enter_27 : decode cX6_enter 27 = .ok (.getfield 16, 3) := by decide +kernel
theorem dX6_enter_30 : decode cX6_enter 30 = .ok (.invokevirtual 227, 3) := by decide +kernel
theorem dX6_enter_33 : decode cX6_enter 33 = .ok (.aload_n 0, 1) := by decide +kernel
theorem dX6_enter_34 : decode cX6_enter 34 = .ok (.getfield 49, 3) := by decide +kernel
theorem dX6_enter_37 : decode cX6_enter 37 = .ok (.getfield 230, 3) := by decide +kernel
theorem dX6_enter_40 : decode cX6_enter 40 = .ok (.ireturn, 1) := by decide +kernel
theorem dX6_within_0 : decode cX6_within 0 = .ok (.iload_n 0, 1) := by decide +kernel
theorem dX6_within_1 : decode cX6_within 1 = .ok (.iload_n 1, 1) := by decide +kernel
theorem dX6_within_2 : decode cX6_within 2 = .ok (.if_icmp .lt 12, 3) := by decide +kernel
theorem dX6_within_5 : decode cX6_within 5 = .ok (.iload_n 0, 1) := by decide +kernel
theorem dX6_within_6 : decode cX6_within 6 = .ok (.iload_n 2, 1) := by decide +kernel
theorem dX6_within_7 : decode cX6_within 7 = .ok (.if_icmp .gt 7, 3) := by decide +kernel
theorem dX6_within_10 : decode cX6_within 10 = .ok (.iconst 1, 1) := by decide +kernel
theorem dX6_within_11 : decode cX6_within 11 = .ok (.goto 4, 3) := by decide +kernel
theorem dX6_within_14 : decode cX6_within 14 = .ok (.iconst 0, 1) := by decide +kernel
theorem dX6_within_15 : decode cX6_within 15 = .ok (.ireturn, 1) := by decide +kernel
set_option maxRecDepth 20000 in
theorem ggX6_isSetting_X6_within : GoodIn wsX6_isSetting wsX6_within := goodIn_r _ [6] (by decide +kernel) (by decide +kernel)
set_option maxRecDepth 20000 in
theorem gX6_isSetting_X6_within : GoodIn wsX6_isSetting (va_wsS RX6 105 yX6_within wsX6_within) := goodIn_app (goodIn_of _ (by decide +kernel)) ggX6_isSetting_X6_within
theorem dX6_isSetting_0 : decode cX6_isSetting 0 = .ok (.iload_n 0, 1) := by decide +kernel
theorem dX6_isSetting_1 : decode cX6_isSetting 1 = .ok (.tableswitch 54 0 2 #[27, 36, 45], 27) := by decide +kernel
theorem dX6_isSetting_28 : decode cX6_isSetting 28 = .ok (.iload_n 1, 1) := by decide +kernel
theorem dX6_isSetting_29 : decode cX6_isSetting 29 = .ok (.ldc 233, 2) := by decide +kernel
theorem dX6_isSetting_31 : decode cX6_isSetting 31 = .ok (.ldc 234, 2) := by decide +kernel
theorem dX6_isSetting_33 : decode cX6_isSetting 33 = .ok (.invokestatic 105, 3) := by decide +kernel
theorem dX6_isSetting_36 : decode cX6_isSetting 36 = .ok (.ireturn, 1) := by decide +kernel
theorem dX6_isSetting_37 : decode cX6_isSetting 37 = .ok (.iload_n 1, 1) := by decide +kernel
theorem dX6_isSetting_38 : decode cX6_isSetting 38 = .ok (.iconst 1, 1) := by decide +kernel
theorem dX6_isSetting_39 : decode cX6_isSetting 39 = .ok (.sipush 5000, 3) := by decide +kernel
theorem dX6_isSetting_42 : decode cX6_isSetting 42 = .ok (.invokestatic 105, 3) := by decide +kernel
theorem dX6_isSetting_45 : decode cX6_isSetting 45 = .ok (.ireturn, 1) := by decide +kernel
theorem dX6_isSetting_46 : decode cX6_isSetting 46 = .ok (.iload_n 1, 1) := by decide +kernel
theorem dX6_isSetting_47 : decode cX6_isSetting 47 = .ok (.iconst 1, 1) := by decide +kernel
theorem dX6_isSetting_48 : decode cX6_isSetting 48 = .ok (.sipush 500, 3) := by decide +kernel
theorem dX6_isSetting_51 : decode cX6_isSetting 51 = .ok (.invokestatic 105, 3) := by decide +kernel
theorem dX6_isSetting_54 : decode cX6_isSetting 54 = .ok (.ireturn, 1) := by decide +kernel
theorem dX6_isSetting_55 : decode cX6_isSetting 55 = .ok (.iconst 0, 1) := by decide +kernel
theorem dX6_isSetting_56 : decode cX6_isSetting 56 = .ok (.ireturn, 1) := by decide +kernel
set_option maxRecDepth 20000 in
theorem ggX6_isCell_X6_within : GoodIn wsX6_isCell wsX6_within := goodIn_r _ [4] (by decide +kernel) (by decide +kernel)
set_option maxRecDepth 20000 in
theorem gX6_isCell_X6_within : GoodIn wsX6_isCell (va_wsS RX6 105 yX6_within wsX6_within) := goodIn_app (goodIn_of _ (by decide +kernel)) ggX6_isCell_X6_within
theorem dX6_isCell_0 : decode cX6_isCell 0 = .ok (.iload_n 0, 1) := by decide +kernel
theorem dX6_isCell_1 : decode cX6_isCell 1 = .ok (.iconst 0, 1) := by decide +kernel
theorem dX6_isCell_2 : decode cX6_isCell 2 = .ok (.iconst 2, 1) := by decide +kernel
theorem dX6_isCell_3 : decode cX6_isCell 3 = .ok (.invokestatic 105, 3) := by decide +kernel
theorem dX6_isCell_6 : decode cX6_isCell 6 = .ok (.ireturn, 1) := by decide +kernel
set_option maxRecDepth 20000 in
theorem ggX6_isPoint_X6_within : GoodIn wsX6_isPoint wsX6_within := goodIn_r _ [4] (by decide +kernel) (by decide +kernel)
set_option maxRecDepth 20000 in
theorem gX6_isPoint_X6_within : GoodIn wsX6_isPoint (va_wsS RX6 105 yX6_within wsX6_within) := goodIn_app (goodIn_of _ (by decide +kernel)) ggX6_isPoint_X6_within
theorem dX6_isPoint_0 : decode cX6_isPoint 0 = .ok (.iload_n 0, 1) := by decide +kernel
theorem dX6_isPoint_1 : decode cX6_isPoint 1 = .ok (.iconst 0, 1) := by decide +kernel
theorem dX6_isPoint_2 : decode cX6_isPoint 2 = .ok (.bipush 9, 2) := by decide +kernel
theorem dX6_isPoint_4 : decode cX6_isPoint 4 = .ok (.invokestatic 105, 3) := by decide +kernel
theorem dX6_isPoint_7 : decode cX6_isPoint 7 = .ok (.ireturn, 1) := by decide +kernel
set_option maxRecDepth 20000 in
theorem ggX6_isTime_X6_within : GoodIn wsX6_isTime wsX6_within := goodIn_r _ [4] (by decide +kernel) (by decide +kernel)
set_option maxRecDepth 20000 in
theorem gX6_isTime_X6_within : GoodIn wsX6_isTime (va_wsS RX6 105 yX6_within wsX6_within) := goodIn_app (goodIn_of _ (by decide +kernel)) ggX6_isTime_X6_within
theorem dX6_isTime_0 : decode cX6_isTime 0 = .ok (.iload_n 0, 1) := by decide +kernel
theorem dX6_isTime_1 : decode cX6_isTime 1 = .ok (.iconst 0, 1) := by decide +kernel
theorem dX6_isTime_2 : decode cX6_isTime 2 = .ok (.sipush 10000, 3) := by decide +kernel
theorem dX6_isTime_5 : decode cX6_isTime 5 = .ok (.invokestatic 105, 3) := by decide +kernel
theorem dX6_isTime_8 : decode cX6_isTime 8 = .ok (.ireturn, 1) := by decide +kernel
set_option maxRecDepth 20000 in
theorem ggX6_isTemperature_X6_within : GoodIn wsX6_isTemperature wsX6_within := goodIn_r _ [4] (by decide +kernel) (by decide +kernel)
set_option maxRecDepth 20000 in
theorem gX6_isTemperature_X6_within : GoodIn wsX6_isTemperature (va_wsS RX6 105 yX6_within wsX6_within) := goodIn_app (goodIn_of _ (by decide +kernel)) ggX6_isTemperature_X6_within
theorem dX6_isTemperature_0 : decode cX6_isTemperature 0 = .ok (.iload_n 0, 1) := by decide +kernel
theorem dX6_isTemperature_1 : decode cX6_isTemperature 1 = .ok (.sipush (-300), 3) := by decide +kernel
theorem dX6_isTemperature_4 : decode cX6_isTemperature 4 = .ok (.sipush 500, 3) := by decide +kernel
theorem dX6_isTemperature_7 : decode cX6_isTemperature 7 = .ok (.invokestatic 105, 3) := by decide +kernel
theorem dX6_isTemperature_10 : decode cX6_isTemperature 10 = .ok (.ireturn, 1) := by decide +kernel
set_option maxRecDepth 20000 in
theorem ggX6_isReading_X6_isTime : GoodIn wsX6_isReading wsX6_isTime := goodIn_r _ [6, 7, 8, 5, 9] (by decide +kernel) (by decide +kernel)
set_option maxRecDepth 20000 in
theorem gX6_isReading_X6_isTime : GoodIn wsX6_isReading (va_wsS RX6 151 yX6_isTime wsX6_isTime) := goodIn_app (goodIn_of _ (by decide +kernel)) ggX6_isReading_X6_isTime
set_option maxRecDepth 20000 in
theorem ggX6_isReading_X6_within : GoodIn wsX6_isReading wsX6_within := goodIn_r _ [9] (by decide +kernel) (by decide +kernel)
set_option maxRecDepth 20000 in
theorem gX6_isReading_X6_within : GoodIn wsX6_isReading (va_wsS RX6 105 yX6_within wsX6_within) := goodIn_app (goodIn_of _ (by decide +kernel)) ggX6_isReading_X6_within
set_option maxRecDepth 20000 in
theorem ggX6_isReading_X6_isTemperature : GoodIn wsX6_isReading wsX6_isTemperature := goodIn_r _ [12, 7, 8, 5, 9] (by decide +kernel) (by decide +kernel)
set_option maxRecDepth 20000 in
theorem gX6_isReading_X6_isTemperature : GoodIn wsX6_isReading (va_wsS RX6 167 yX6_isTemperature wsX6_isTemperature) := goodIn_app (goodIn_of _ (by decide +kernel)) ggX6_isReading_X6_isTemperature
theorem dX6_isReading_0 : decode cX6_isReading 0 = .ok (.iload_n 0, 1) := by decide +kernel
theorem dX6_isReading_1 : decode cX6_isReading 1 = .ok (.invokestatic 151, 3) := by decide +kernel
theorem dX6_isReading_4 : decode cX6_isReading 4 = .ok (.ifCond .eq 25, 3) := by decide +kernel
theorem dX6_isReading_7 : decode cX6_isReading 7 = .ok (.iload_n 1, 1) := by decide +kernel
theorem dX6_isReading_8 : decode cX6_isReading 8 = .ok (.ldc 172, 2) := by decide +kernel
theorem dX6_isReading_10 : decode cX6_isReading 10 = .ok (.ldc 235, 2) := by decide +kernel
theorem dX6_isReading_12 : decode cX6_isReading 12 = .ok (.invokestatic 105, 3) := by decide +kernel
theorem dX6_isReading_15 : decode cX6_isReading 15 = .ok (.ifCond .eq 14, 3) := by decide +kernel
theorem dX6_isReading_18 : decode cX6_isReading 18 = .ok (.iload_n 2, 1) := by decide +kernel
theorem dX6_isReading_19 : decode cX6_isReading 19 = .ok (.invokestatic 167, 3) := by decide +kernel
theorem dX6_isReading_22 : decode cX6_isReading 22 = .ok (.ifCond .eq 7, 3) := by decide +kernel
theorem dX6_isReading_25 : decode cX6_isReading 25 = .ok (.iconst 1, 1) := by decide +kernel
theorem dX6_isReading_26 : decode cX6_isReading 26 = .ok (.goto 4, 3) := by decide +kernel
theorem dX6_isReading_29 : decode cX6_isReading 29 = .ok (.iconst 0, 1) := by decide +kernel
theorem dX6_isReading_30 : decode cX6_isReading 30 = .ok (.ireturn, 1) := by decide +kernel
set_option maxRecDepth 20000 in
theorem ggX6_isReadingOf_X6_isCell : GoodIn wsX6_isReadingOf wsX6_isCell := goodIn_r _ [5, 6, 7, 4, 8] (by decide +kernel) (by decide +kernel)
set_option maxRecDepth 20000 in
theorem gX6_isReadingOf_X6_isCell : GoodIn wsX6_isReadingOf (va_wsS RX6 81 yX6_isCell wsX6_isCell) := goodIn_app (goodIn_of _ (by decide +kernel)) ggX6_isReadingOf_X6_isCell
set_option maxRecDepth 20000 in
theorem ggX6_isReadingOf_X2_track : GoodIn wsX6_isReadingOf wsX2_track := goodIn_r _ [13, 14, 15, 16, 17, 30, 31, 32, 33, 34, 35, 36] (by decide +kernel) (by decide +kernel)
set_option maxRecDepth 20000 in
theorem gX6_isReadingOf_X2_track : GoodIn wsX6_isReadingOf (wsV RX6 91 RX2 yX2_track wsX2_track) := goodIn_app (goodIn_of _ (by decide +kernel)) ggX6_isReadingOf_X2_track
set_option maxRecDepth 20000 in
theorem ggX6_isReadingOf_X6_within : GoodIn wsX6_isReadingOf wsX6_within := goodIn_r _ [8] (by decide +kernel) (by decide +kernel)
set_option maxRecDepth 20000 in
theorem gX6_isReadingOf_X6_within : GoodIn wsX6_isReadingOf (va_wsS RX6 105 yX6_within wsX6_within) := goodIn_app (goodIn_of _ (by decide +kernel)) ggX6_isReadingOf_X6_within
theorem dX6_isReadingOf_0 : decode cX6_isReadingOf 0 = .ok (.iload_n 1, 1) := by decide +kernel
theorem dX6_isReadingOf_1 : decode cX6_isReadingOf 1 = .ok (.iconst (-1), 1) := by decide +kernel
theorem dX6_isReadingOf_2 : decode cX6_isReadingOf 2 = .ok (.if_icmp .eq 10, 3) := by decide +kernel
theorem dX6_isReadingOf_5 : decode cX6_isReadingOf 5 = .ok (.iload_n 1, 1) := by decide +kernel
theorem dX6_isReadingOf_6 : decode cX6_isReadingOf 6 = .ok (.invokestatic 81, 3) := by decide +kernel
theorem dX6_isReadingOf_9 : decode cX6_isReadingOf 9 = .ok (.ifCond .eq 28, 3) := by decide +kernel
theorem dX6_isReadingOf_12 : decode cX6_isReadingOf 12 = .ok (.iload_n 2, 1) := by decide +kernel
theorem dX6_isReadingOf_13 : decode cX6_isReadingOf 13 = .ok (.iconst 0, 1) := by decide +kernel
theorem dX6_isReadingOf_14 : decode cX6_isReadingOf 14 = .ok (.aload_n 0, 1) := by decide +kernel
theorem dX6_isReadingOf_15 : decode cX6_isReadingOf 15 = .ok (.getfield 10, 3) := by decide +kernel
theorem dX6_isReadingOf_18 : decode cX6_isReadingOf 18 = .ok (.iload_n 1, 1) := by decide +kernel
theorem dX6_isReadingOf_19 : decode cX6_isReadingOf 19 = .ok (.invokevirtual 91, 3) := by decide +kernel
theorem dX6_isReadingOf_22 : decode cX6_isReadingOf 22 = .ok (.getfield 101, 3) := by decide +kernel
theorem dX6_isReadingOf_25 : decode cX6_isReadingOf 25 = .ok (.iconst 1, 1) := by decide +kernel
theorem dX6_isReadingOf_26 : decode cX6_isReadingOf 26 = .ok (.isub, 1) := by decide +kernel
theorem dX6_isReadingOf_27 : decode cX6_isReadingOf 27 = .ok (.invokestatic 105, 3) := by decide +kernel
theorem dX6_isReadingOf_30 : decode cX6_isReadingOf 30 = .ok (.ifCond .eq 7, 3) := by decide +kernel
theorem dX6_isReadingOf_33 : decode cX6_isReadingOf 33 = .ok (.iconst 1, 1) := by decide +kernel
theorem dX6_isReadingOf_34 : decode cX6_isReadingOf 34 = .ok (.goto 4, 3) := by decide +kernel
theorem dX6_isReadingOf_37 : decode cX6_isReadingOf 37 = .ok (.iconst 0, 1) := by decide +kernel
theorem dX6_isReadingOf_38 : decode cX6_isReadingOf 38 = .ok (.ireturn, 1) := by decide +kernel
theorem dX6_at_0 : decode cX6_at 0 = .ok (.iload_n 1, 1) := by decide +kernel
theorem dX6_at_1 : decode cX6_at 1 = .ok (.ifCond .lt 15, 3) := by decide +kernel
theorem dX6_at_4 : decode cX6_at 4 = .ok (.iload_n 1, 1) := by decide +kernel
theorem dX6_at_5 : decode cX6_at 5 = .ok (.aload_n 0, 1) := by decide +kernel
theorem dX6_at_6 : decode cX6_at 6 = .ok (.arraylength, 1) := by decide +kernel
theorem dX6_at_7 : decode cX6_at 7 = .ok (.if_icmp .ge 9, 3) := by decide +kernel
theorem dX6_at_10 : decode cX6_at 10 = .ok (.aload_n 0, 1) := by decide +kernel
theorem dX6_at_11 : decode cX6_at 11 = .ok (.iload_n 1, 1) := by decide +kernel
theorem dX6_at_12 : decode cX6_at 12 = .ok (.iaload, 1) := by decide +kernel
theorem dX6_at_13 : decode cX6_at 13 = .ok (.goto 4, 3) := by decide +kernel
theorem dX6_at_16 : decode cX6_at 16 = .ok (.iconst 0, 1) := by decide +kernel
theorem dX6_at_17 : decode cX6_at 17 = .ok (.ireturn, 1) := by decide +kernel
theorem dX6_put_0 : decode cX6_put 0 = .ok (.iload_n 1, 1) := by decide +kernel
theorem dX6_put_1 : decode cX6_put 1 = .ok (.ifCond .lt 13, 3) := by decide +kernel
theorem dX6_put_4 : decode cX6_put 4 = .ok (.iload_n 1, 1) := by decide +kernel
theorem dX6_put_5 : decode cX6_put 5 = .ok (.aload_n 0, 1) := by decide +kernel
theorem dX6_put_6 : decode cX6_put 6 = .ok (.arraylength, 1) := by decide +kernel
theorem dX6_put_7 : decode cX6_put 7 = .ok (.if_icmp .ge 7, 3) := by decide +kernel
theorem dX6_put_10 : decode cX6_put 10 = .ok (.aload_n 0, 1) := by decide +kernel
theorem dX6_put_11 : decode cX6_put 11 = .ok (.iload_n 1, 1) := by decide +kernel
theorem dX6_put_12 : decode cX6_put 12 = .ok (.iload_n 2, 1) := by decide +kernel
theorem dX6_put_13 : decode cX6_put 13 = .ok (.iastore, 1) := by decide +kernel
theorem dX6_put_14 : decode cX6_put 14 = .ok (.return_, 1) := by decide +kernel
set_option maxRecDepth 20000 in
theorem ggX6_divideDown_J9_floorDiv_f86c9 : GoodIn wsX6_divideDown wsJ9_floorDiv_f86c9 := goodIn_r _ [4] (by decide +kernel) (by decide +kernel)
set_option maxRecDepth 20000 in
theorem gX6_divideDown_J9_floorDiv_f86c9 : GoodIn wsX6_divideDown (va_wsS RX6 236 yJ9_floorDiv_f86c9 wsJ9_floorDiv_f86c9) := goodIn_app (goodIn_of _ (by decide +kernel)) ggX6_divideDown_J9_floorDiv_f86c9
theorem dX6_divideDown_0 : decode cX6_divideDown 0 = .ok (.lload_n 2, 1) := by decide +kernel
theorem dX6_divideDown_1 : decode cX6_divideDown 1 = .ok (.lconst 0, 1) := by decide +kernel
theorem dX6_divideDown_2 : decode cX6_divideDown 2 = .ok (.lcmp, 1) := by decide +kernel
theorem dX6_divideDown_3 : decode cX6_divideDown 3 = .ok (.ifCond .ne 7, 3) := by decide +kernel
theorem dX6_divideDown_6 : decode cX6_divideDown 6 = .ok (.lconst 0, 1) := by decide +kernel
theorem dX6_divideDown_7 : decode cX6_divideDown 7 = .ok (.goto 8, 3) := by decide +kernel
theorem dX6_divideDown_10 : decode cX6_divideDown 10 = .ok (.lload_n 0, 1) := by decide +kernel
theorem dX6_divideDown_11 : decode cX6_divideDown 11 = .ok (.lload_n 2, 1) := by decide +kernel
theorem dX6_divideDown_12 : decode cX6_divideDown 12 = .ok (.invokestatic 236, 3) := by decide +kernel
theorem dX6_divideDown_15 : decode cX6_divideDown 15 = .ok (.lreturn, 1) := by decide +kernel
set_option maxRecDepth 20000 in
theorem ggX6_record_X0_keep : GoodIn wsX6_record wsX0_keep := goodIn_r _ [8, 9, 10, 11, 12, 13, 7, 14, 15, 16, 17, 18, 19, 20, 21, 22, 23, 24, 25, 26, 27, 28, 29, 30, 31, 32, 33, 34, 35, 36, 37, 38, 39, 40, 41, 42, 52, 53, 54, 55, 56, 57, 58, 59, 60, 61, 62, 63, 64] (by decide +kernel) (by decide +kernel)
set_option maxRecDepth 20000 in
theorem gX6_record_X0_keep : GoodIn wsX6_record (wsV RX6 240 RX0 yX0_keep wsX0_keep) := goodIn_app (goodIn_of _ (by decide +kernel)) ggX6_record_X0_keep
theorem dX6_record_0 : decode cX6_record 0 = .ok (.aload_n 0, 1) := by decide +kernel
theorem dX6_record_1 : decode cX6_record 1 = .ok (.getfield 22, 3) := by decide +kernel
theorem dX6_record_4 : decode cX6_record 4 = .ok (.aload_n 0, 1) := by decide +kernel
theorem dX6_record_5 : decode cX6_record 5 = .ok (.getfield 10, 3) := by decide +kernel
theorem dX6_record_8 : decode cX6_record 8 = .ok (.invokevirtual 240, 3) := by decide +kernel
theorem dX6_record_11 : decode cX6_record 11 = .ok (.aload_n 0, 1) := by decide +kernel
theorem dX6_record_12 : decode cX6_record 12 = .ok (.iconst 1, 1) := by decide +kernel
theorem dX6_record_13 : decode cX6_record 13 = .ok (.putfield 53, 3) := by decide +kernel
theorem dX6_record_16 : decode cX6_record 16 = .ok (.return_, 1) := by decide +kernel
set_option maxRecDepth 20000 in
theorem ggX6_take_X2_track : GoodIn wsX6_take wsX2_track := goodIn_r _ [8, 9, 10, 11, 12, 88, 89, 90, 91, 92, 93, 94] (by decide +kernel) (by decide +kernel)
set_option maxRecDepth 20000 in
theorem gX6_take_X2_track : GoodIn wsX6_take (wsV RX6 91 RX2 yX2_track wsX2_track) := goodIn_app (goodIn_of _ (by decide +kernel)) ggX6_take_X2_track
set_option maxRecDepth 20000 in
theorem ggX6_take_X5_hasTime : GoodIn wsX6_take wsX5_hasTime := goodIn_r _ [17, 18, 19, 20, 21, 16, 22, 23, 24, 25, 26, 95, 96, 97] (by decide +kernel) (by decide +kernel)
set_option maxRecDepth 20000 in
theorem gX6_take_X5_hasTime : GoodIn wsX6_take (wsV RX6 243 RX5 yX5_hasTime wsX5_hasTime) := goodIn_app (goodIn_of _ (by decide +kernel)) ggX6_take_X5_hasTime
set_option maxRecDepth 20000 in
theorem ggX6_take_X5_isFull : GoodIn wsX6_take wsX5_isFull := goodIn_r _ [30, 18, 31, 95, 96, 97] (by decide +kernel) (by decide +kernel)
set_option maxRecDepth 20000 in
theorem gX6_take_X5_isFull : GoodIn wsX6_take (wsV RX6 246 RX5 yX5_isFull wsX5_isFull) := goodIn_app (goodIn_of _ (by decide +kernel)) ggX6_take_X5_isFull
set_option maxRecDepth 20000 in
theorem ggX6_take_X6_record : GoodIn wsX6_take wsX6_record := goodIn_r _ [35, 36, 1, 37, 38, 39, 40, 41, 42, 43, 44, 45, 46, 47, 48, 49, 50, 51, 52, 7, 53, 12, 9, 10, 11, 54, 55, 56, 57, 58, 59, 16, 60, 23, 61, 62, 63, 64, 65, 66, 67, 68, 18, 79, 80, 81, 82, 83, 84, 85, 86, 87, 98, 99, 100, 88, 89, 90, 91, 92, 93, 94, 95, 96, 97] (by decide +kernel) (by decide +kernel)
set_option maxRecDepth 20000 in
theorem gX6_take_X6_record : GoodIn wsX6_take (wsV RX6 62 RX6 yX6_record wsX6_record) := goodIn_app (goodIn_of _ (by decide +kernel)) ggX6_take_X6_record
set_option maxRecDepth 20000 in
theorem ggX6_take_X5_insert : GoodIn wsX6_take wsX5_insert := goodIn_r _ [72, 18, 23, 19, 20, 21, 16, 22, 24, 25, 26, 73, 74, 75, 76, 77, 78, 95, 96, 97] (by decide +kernel) (by decide +kernel)
set_option maxRecDepth 20000 in
theorem gX6_take_X5_insert : GoodIn wsX6_take (wsV RX6 250 RX5 yX5_insert wsX5_insert) := goodIn_app (goodIn_of _ (by decide +kernel)) ggX6_take_X5_insert
theorem dX6_take_0 : decode cX6_take 0 = .ok (.aload_n 0, 1) := by decide +kernel
theorem dX6_take_1 : decode cX6_take 1 = .ok (.getfield 10, 3) := by decide +kernel
theorem dX6_take_4 : decode cX6_take 4 = .ok (.iload_n 1, 1) := by decide +kernel
theorem dX6_take_5 : decode cX6_take 5 = .ok (.invokevirtual 91, 3) := by decide +kernel
theorem dX6_take_8 : decode cX6_take 8 = .ok (.astore 6, 2) := by decide +kernel
theorem dX6_take_10 : decode cX6_take 10 = .ok (.aload 6, 2) := by decide +kernel
theorem dX6_take_12 : decode cX6_take 12 = .ok (.iload_n 3, 1) := by decide +kernel
theorem dX6_take_13 : decode cX6_take 13 = .ok (.invokevirtual 243, 3) := by decide +kernel
theorem dX6_take_16 : decode cX6_take 16 = .ok (.ifCond .eq 6, 3) := by decide +kernel
theorem dX6_take_19 : decode cX6_take 19 = .ok (.ldc 146, 2) := by decide +kernel
theorem dX6_take_21 : decode cX6_take 21 = .ok (.ireturn, 1) := by decide +kernel
theorem dX6_take_22 : decode cX6_take 22 = .ok (.aload 6, 2) := by decide +kernel
theorem dX6_take_24 : decode cX6_take 24 = .ok (.invokevirtual 246, 3) := by decide +kernel
theorem dX6_take_27 : decode cX6_take 27 = .ok (.ifCond .eq 6, 3) := by decide +kernel
theorem dX6_take_30 : decode cX6_take 30 = .ok (.ldc 214, 2) := by decide +kernel
theorem dX6_take_32 : decode cX6_take 32 = .ok (.ireturn, 1) := by decide +kernel
theorem dX6_take_33 : decode cX6_take 33 = .ok (.aload_n 0, 1) := by decide +kernel
theorem dX6_take_34 : decode cX6_take 34 = .ok (.invokevirtual 62, 3) := by decide +kernel
theorem dX6_take_37 : decode cX6_take 37 = .ok (.aload 6, 2) := by decide +kernel
theorem dX6_take_39 : decode cX6_take 39 = .ok (.iload_n 2, 1) := by decide +kernel
theorem dX6_take_40 : decode cX6_take 40 = .ok (.iload_n 3, 1) := by decide +kernel
theorem dX6_take_41 : decode cX6_take 41 = .ok (.iload 4, 2) := by decide +kernel
theorem dX6_take_43 : decode cX6_take 43 = .ok (.iload 5, 2) := by decide +kernel
theorem dX6_take_45 : decode cX6_take 45 = .ok (.invokevirtual 250, 3) := by decide +kernel
theorem dX6_take_48 : decode cX6_take 48 = .ok (.ireturn, 1) := by decide +kernel
set_option maxRecDepth 20000 in
theorem ggX6_tryText_X2_copyFrom : GoodIn wsX6_tryText wsX2_copyFrom := goodIn_r _ [8, 9, 10, 11, 12, 13, 14, 15, 16, 17, 18, 19, 20, 21, 22, 23, 24, 25, 26, 27, 28, 29, 30, 119, 120, 121, 122, 123, 124, 125, 126, 127, 128] (by decide +kernel) (by decide +kernel)
set_option maxRecDepth 20000 in
theorem gX6_tryText_X2_copyFrom : GoodIn wsX6_tryText (wsV RX6 227 RX2 yX2_copyFrom wsX2_copyFrom) := goodIn_app (goodIn_of _ (by decide +kernel)) ggX6_tryText_X2_copyFrom
set_option maxRecDepth 20000 in
theorem ggX6_tryText_X4_readInto : GoodIn wsX6_tryText wsX4_readInto := goodIn_r _ [35, 36, 37, 38, 39, 40, 41, 42, 43, 44, 45, 46, 47, 48, 34, 49, 50, 51, 52, 53, 54, 55, 56, 57, 58, 59, 60, 61, 62, 63, 64, 65, 66, 67, 68, 69, 70, 7, 71, 10, 11, 12, 9, 72, 73, 74, 75, 76, 77, 78, 79, 80, 81, 82, 83, 84, 85, 86, 87, 88, 89, 19, 90, 30, 91, 92, 93, 94, 21, 95, 96, 97, 98, 99, 100, 101, 102, 103, 104, 105, 106, 107, 108, 109, 129, 130, 131, 132, 133, 134, 135, 136, 137, 138, 139, 119, 120, 121, 122, 123, 124, 125, 126, 127, 128] (by decide +kernel) (by decide +kernel)
set_option maxRecDepth 20000 in
theorem gX6_tryText_X4_readInto : GoodIn wsX6_tryText (wsV RX6 254 RX4 yX4_readInto wsX4_readInto) := goodIn_app (goodIn_of _ (by decide +kernel)) ggX6_tryText_X4_readInto
theorem dX6_tryText_0 : decode cX6_tryText 0 = .ok (.aload_n 0, 1) := by decide +kernel
theorem dX6_tryText_1 : decode cX6_tryText 1 = .ok (.getfield 16, 3) := by decide +kernel
theorem dX6_tryText_4 : decode cX6_tryText 4 = .ok (.aload_n 0, 1) := by decide +kernel
theorem dX6_tryText_5 : decode cX6_tryText 5 = .ok (.getfield 10, 3) := by decide +kernel
theorem dX6_tryText_8 : decode cX6_tryText 8 = .ok (.invokevirtual 227, 3) := by decide +kernel
theorem dX6_tryText_11 : decode cX6_tryText 11 = .ok (.aload_n 0, 1) := by decide +kernel
theorem dX6_tryText_12 : decode cX6_tryText 12 = .ok (.getfield 49, 3) := by decide +kernel
theorem dX6_tryText_15 : decode cX6_tryText 15 = .ok (.aload_n 0, 1) := by decide +kernel
theorem dX6_tryText_16 : decode cX6_tryText 16 = .ok (.getfield 16, 3) := by decide +kernel
theorem dX6_tryText_19 : decode cX6_tryText 19 = .ok (.invokevirtual 254, 3) := by decide +kernel
theorem dX6_tryText_22 : decode cX6_tryText 22 = .ok (.return_, 1) := by decide +kernel
set_option maxRecDepth 20000 in
theorem ggX6_refresh_X3_workOut : GoodIn wsX6_refresh wsX3_workOut := goodIn_r _ [10, 11, 12, 13, 14, 15, 16, 17, 18, 19, 20, 21, 22, 23, 24, 25, 26, 27, 28, 29, 30, 31, 32, 33, 34, 35, 36, 37, 38, 39, 40, 41, 42, 43, 44, 45, 46, 47, 48, 49, 50, 51, 52, 53, 54, 55, 56, 57, 58, 59, 60, 61, 62, 63, 64, 65, 66, 67, 9, 68, 69, 70, 71, 72, 73, 74, 75, 76, 77, 78, 79, 80, 81, 82, 83, 84, 85, 86, 87, 88, 89, 90, 91, 92, 93, 94, 95, 96, 97, 98, 99, 100, 101, 102, 103, 104, 105, 106, 107, 108, 109, 110, 111, 112, 113, 114, 115, 116, 117, 118, 119, 120, 121, 122, 132, 133, 134, 135, 136, 137, 138, 139, 140, 141, 142, 143, 144, 145, 146, 147, 148, 149, 150, 151, 152, 153] (by decide +kernel) (by decide +kernel)
set_option maxRecDepth 20000 in
theorem gX6_refresh_X3_workOut : GoodIn wsX6_refresh (wsV RX6 257 RX3 yX3_workOut wsX3_workOut) := goodIn_app (goodIn_of _ (by decide +kernel)) ggX6_refresh_X3_workOut
theorem dX6_refresh_0 : decode cX6_refresh 0 = .ok (.aload_n 0, 1) := by decide +kernel
theorem dX6_refresh_1 : decode cX6_refresh 1 = .ok (.getfield 53, 3) := by decide +kernel
theorem dX6_refresh_4 : decode cX6_refresh 4 = .ok (.ifCond .eq 44, 3) := by decide +kernel
theorem dX6_refresh_7 : decode cX6_refresh 7 = .ok (.aload_n 0, 1) := by decide +kernel
theorem dX6_refresh_8 : decode cX6_refresh 8 = .ok (.getfield 29, 3) := by decide +kernel
theorem dX6_refresh_11 : decode cX6_refresh 11 = .ok (.aload_n 0, 1) := by decide +kernel
theorem dX6_refresh_12 : decode cX6_refresh 12 = .ok (.getfield 10, 3) := by decide +kernel
theorem dX6_refresh_15 : decode cX6_refresh 15 = .ok (.iconst 0, 1) := by decide +kernel
theorem dX6_refresh_16 : decode cX6_refresh 16 = .ok (.invokevirtual 257, 3) := by decide +kernel
theorem dX6_refresh_19 : decode cX6_refresh 19 = .ok (.aload_n 0, 1) := by decide +kernel
theorem dX6_refresh_20 : decode cX6_refresh 20 = .ok (.getfield 33, 3) := by decide +kernel
theorem dX6_refresh_23 : decode cX6_refresh 23 = .ok (.aload_n 0, 1) := by decide +kernel
theorem dX6_refresh_24 : decode cX6_refresh 24 = .ok (.getfield 10, 3) := by decide +kernel
theorem dX6_refresh_27 : decode cX6_refresh 27 = .ok (.iconst 1, 1) := by decide +kernel
theorem dX6_refresh_28 : decode cX6_refresh 28 = .ok (.invokevirtual 257, 3) := by decide +kernel
theorem dX6_refresh_31 : decode cX6_refresh 31 = .ok (.aload_n 0, 1) := by decide +kernel
theorem dX6_refresh_32 : decode cX6_refresh 32 = .ok (.getfield 36, 3) := by decide +kernel
theorem dX6_refresh_35 : decode cX6_refresh 35 = .ok (.aload_n 0, 1) := by decide +kernel
theorem dX6_refresh_36 : decode cX6_refresh 36 = .ok (.getfield 10, 3) := by decide +kernel
theorem dX6_refresh_39 : decode cX6_refresh 39 = .ok (.iconst 2, 1) := by decide +kernel
theorem dX6_refresh_40 : decode cX6_refresh 40 = .ok (.invokevirtual 257, 3) := by decide +kernel
theorem dX6_refresh_43 : decode cX6_refresh 43 = .ok (.aload_n 0, 1) := by decide +kernel
theorem dX6_refresh_44 : decode cX6_refresh 44 = .ok (.iconst 0, 1) := by decide +kernel
theorem dX6_refresh_45 : decode cX6_refresh 45 = .ok (.putfield 53, 3) := by decide +kernel
theorem dX6_refresh_48 : decode cX6_refresh 48 = .ok (.return_, 1) := by decide +kernel
theorem dX6_surveyOf_0 : decode cX6_surveyOf 0 = .ok (.iload_n 1, 1) := by decide +kernel
theorem dX6_surveyOf_1 : decode cX6_surveyOf 1 = .ok (.lookupswitch 37 #[(0, 27), (1, 32)], 27) := by decide +kernel
theorem dX6_surveyOf_28 : decode cX6_surveyOf 28 = .ok (.aload_n 0, 1) := by decide +kernel
theorem dX6_surveyOf_29 : decode cX6_surveyOf 29 = .ok (.getfield 29, 3) := by decide +kernel
theorem dX6_surveyOf_32 : decode cX6_surveyOf 32 = .ok (.areturn, 1) := by decide +kernel
theorem dX6_surveyOf_33 : decode cX6_surveyOf 33 = .ok (.aload_n 0, 1) := by decide +kernel
theorem dX6_surveyOf_34 : decode cX6_surveyOf 34 = .ok (.getfield 33, 3) := by decide +kernel
theorem dX6_surveyOf_37 : decode cX6_surveyOf 37 = .ok (.areturn, 1) := by decide +kernel
theorem dX6_surveyOf_38 : decode cX6_surveyOf 38 = .ok (.aload_n 0, 1) := by decide +kernel
theorem dX6_surveyOf_39 : decode cX6_surveyOf 39 = .ok (.getfield 36, 3) := by decide +kernel
theorem dX6_surveyOf_42 : decode cX6_surveyOf 42 = .ok (.areturn, 1) := by decide +kernel
set_option maxRecDepth 20000 in
theorem ggX6_pointsWithHeight_X6_gather : GoodIn wsX6_pointsWithHeight wsX6_gather := goodIn_r _ [6, 1, 7, 8, 9, 10, 11, 12, 13, 14, 15, 16, 5, 17, 18, 19, 20, 21, 22, 23, 24, 25, 26, 27, 28, 29, 30, 31, 32, 33, 34, 35, 36, 37, 38, 39, 40, 41, 42, 43, 44, 45, 46, 47, 48, 49, 50, 51, 52, 53, 54, 55, 56, 57, 58, 59, 60, 61, 62, 63, 64, 65, 66, 67, 68, 69, 70, 71, 72, 73, 74, 75, 76, 77, 78, 79, 80, 81, 82, 83, 84, 85, 86, 87, 88, 89, 90, 91, 92, 93] (by decide +kernel) (by decide +kernel)
set_option maxRecDepth 20000 in
theorem gX6_pointsWithHeight_X6_gather : GoodIn wsX6_pointsWithHeight (wsV RX6 197 RX6 yX6_gather wsX6_gather) := goodIn_app (goodIn_of _ (by decide +kernel)) ggX6_pointsWithHeight_X6_gather
theorem dX6_pointsWithHeight_0 : decode cX6_pointsWithHeight 0 = .ok (.iconst 0, 1) := by decide +kernel
theorem dX6_pointsWithHeight_1 : decode cX6_pointsWithHeight 1 = .ok (.istore_n 1, 1) := by decide +kernel
theorem dX6_pointsWithHeight_2 : decode cX6_pointsWithHeight 2 = .ok (.iconst 0, 1) := by decide +kernel
theorem dX6_pointsWithHeight_3 : decode cX6_pointsWithHeight 3 = .ok (.istore_n 2, 1) := by decide +kernel
theorem dX6_pointsWithHeight_4 : decode cX6_pointsWithHeight 4 = .ok (.iload_n 2, 1) := by decide +kernel
theorem dX6_pointsWithHeight_5 : decode cX6_pointsWithHeight 5 = .ok (.bipush 10, 2) := by decide +kernel
theorem dX6_pointsWithHeight_7 : decode cX6_pointsWithHeight 7 = .ok (.if_icmp .ge 32, 3) := by decide +kernel
theorem dX6_pointsWithHeight_10 : decode cX6_pointsWithHeight 10 = .ok (.aload_n 0, 1) := by decide +kernel
theorem dX6_pointsWithHeight_11 : decode cX6_pointsWithHeight 11 = .ok (.iload_n 2, 1) := by decide +kernel
theorem dX6_pointsWithHeight_12 : decode cX6_pointsWithHeight 12 = .ok (.invokevirtual 197, 3) := by decide +kernel
theorem dX6_pointsWithHeight_15 : decode cX6_pointsWithHeight 15 = .ok (.iload_n 1, 1) := by decide +kernel
theorem dX6_pointsWithHeight_16 : decode cX6_pointsWithHeight 16 = .ok (.aload_n 0, 1) := by decide +kernel
theorem dX6_pointsWithHeight_17 : decode cX6_pointsWithHeight 17 = .ok (.getfield 42, 3) := by decide +kernel
theorem dX6_pointsWithHeight_20 : decode cX6_pointsWithHeight 20 = .ok (.getfield 200, 3) := by decide +kernel
theorem dX6_pointsWithHeight_23 : decode cX6_pointsWithHeight 23 = .ok (.ifCond .le 7, 3) := by decide +kernel
theorem dX6_pointsWithHeight_26 : decode cX6_pointsWithHeight 26 = .ok (.iconst 1, 1) := by decide +kernel
theorem dX6_pointsWithHeight_27 : decode cX6_pointsWithHeight 27 = .ok (.goto 4, 3) := by decide +kernel
theorem dX6_pointsWithHeight_30 : decode cX6_pointsWithHeight 30 = .ok (.iconst 0, 1) := by decide +kernel
theorem dX6_pointsWithHeight_31 : decode cX6_pointsWithHeight 31 = .ok (.iadd, 1) := by decide +kernel
theorem dX6_pointsWithHeight_32 : decode cX6_pointsWithHeight 32 = .ok (.istore_n 1, 1) := by decide +kernel
theorem dX6_pointsWithHeight_33 : decode cX6_pointsWithHeight 33 = .ok (.iinc 2 1, 3) := by decide +kernel
theorem dX6_pointsWithHeight_36 : decode cX6_pointsWithHeight 36 = .ok (.goto (-32), 3) := by decide +kernel
theorem dX6_pointsWithHeight_39 : decode cX6_pointsWithHeight 39 = .ok (.iload_n 1, 1) := by decide +kernel
theorem dX6_pointsWithHeight_40 : decode cX6_pointsWithHeight 40 = .ok (.ireturn, 1) := by decide +kernel
set_option maxRecDepth 20000 in
theorem ggX6_gather_X1_clear : GoodIn wsX6_gather wsX1_clear := goodIn_r _ [6, 7, 8, 74, 75, 76, 77] (by decide +kernel) (by decide +kernel)
set_option maxRecDepth 20000 in
theorem gX6_gather_X1_clear : GoodIn wsX6_gather (wsV RX6 261 RX1 yX1_clear wsX1_clear) := goodIn_app (goodIn_of _ (by decide +kernel)) ggX6_gather_X1_clear
set_option maxRecDepth 20000 in
theorem ggX6_gather_X6_surveyOf : GoodIn wsX6_gather wsX6_surveyOf := goodIn_r _ [13, 14, 15, 16, 65, 66, 67, 68, 69, 70, 71, 72, 73] (by decide +kernel) (by decide +kernel)
set_option maxRecDepth 20000 in
theorem gX6_gather_X6_surveyOf : GoodIn wsX6_gather (wsV RX6 112 RX6 yX6_surveyOf wsX6_surveyOf) := goodIn_app (goodIn_of _ (by decide +kernel)) ggX6_gather_X6_surveyOf
set_option maxRecDepth 20000 in
theorem ggX6_gather_X3_addTo : GoodIn wsX6_gather wsX3_addTo := goodIn_r _ [21, 22, 23, 24, 25, 26, 20, 27, 28, 29, 30, 31, 12, 32, 33, 34, 35, 36, 37, 38, 39, 40, 41, 42, 43, 44, 45, 46, 47, 48, 49, 50, 51, 52, 53, 54, 5, 55, 8, 56, 57, 58, 59, 60, 61, 62, 63, 64, 7, 78, 79, 80, 81, 82, 83, 84, 85, 86, 87, 88, 89, 74, 75, 76, 77] (by decide +kernel) (by decide +kernel)
set_option maxRecDepth 20000 in
theorem gX6_gather_X3_addTo : GoodIn wsX6_gather (wsV RX6 264 RX3 yX3_addTo wsX3_addTo) := goodIn_app (goodIn_of _ (by decide +kernel)) ggX6_gather_X3_addTo
theorem dX6_gather_0 : decode cX6_gather 0 = .ok (.aload_n 0, 1) := by decide +kernel
theorem dX6_gather_1 : decode cX6_gather 1 = .ok (.getfield 42, 3) := by decide +kernel
theorem dX6_gather_4 : decode cX6_gather 4 = .ok (.invokevirtual 261, 3) := by decide +kernel
theorem dX6_gather_7 : decode cX6_gather 7 = .ok (.iconst 0, 1) := by decide +kernel
theorem dX6_gather_8 : decode cX6_gather 8 = .ok (.istore_n 2, 1) := by decide +kernel
theorem dX6_gather_9 : decode cX6_gather 9 = .ok (.iload_n 2, 1) := by decide +kernel
theorem dX6_gather_10 : decode cX6_gather 10 = .ok (.iconst 3, 1) := by decide +kernel
theorem dX6_gather_11 : decode cX6_gather 11 = .ok (.if_icmp .ge 22, 3) := by decide +kernel
theorem dX6_gather_14 : decode cX6_gather 14 = .ok (.aload_n 0, 1) := by decide +kernel
theorem dX6_gather_15 : decode cX6_gather 15 = .ok (.iload_n 2, 1) := by decide +kernel
theorem dX6_gather_16 : decode cX6_gather 16 = .ok (.invokevirtual 112, 3) := by decide +kernel
theorem dX6_gather_19 : decode cX6_gather 19 = .ok (.aload_n 0, 1) := by decide +kernel
theorem dX6_gather_20 : decode cX6_gather 20 = .ok (.getfield 42, 3) := by decide +kernel
theorem dX6_gather_23 : decode cX6_gather 23 = .ok (.iload_n 1, 1) := by decide +kernel
theorem dX6_gather_24 : decode cX6_gather 24 = .ok (.invokevirtual 264, 3) := by decide +kernel
theorem dX6_gather_27 : decode cX6_gather 27 = .ok (.iinc 2 1, 3) := by decide +kernel
theorem dX6_gather_30 : decode cX6_gather 30 = .ok (.goto (-21), 3) := by decide +kernel
theorem dX6_gather_33 : decode cX6_gather 33 = .ok (.return_, 1) := by decide +kernel
set_option maxRecDepth 20000 in
theorem ggX6_greatestPressure_X2_heightAt : GoodIn wsX6_greatestPressure wsX2_heightAt := goodIn_r _ [8, 9, 10, 11, 12, 13, 14, 7, 15, 16, 17, 18, 19, 20, 21, 22, 23, 24, 25, 26, 27, 28, 29, 30, 31, 32, 33, 34, 44, 45, 46, 47, 48, 49, 50, 51, 52, 53] (by decide +kernel) (by decide +kernel)
set_option maxRecDepth 20000 in
theorem gX6_greatestPressure_X2_heightAt : GoodIn wsX6_greatestPressure (wsV RX6 163 RX2 yX2_heightAt wsX2_heightAt) := goodIn_app (goodIn_of _ (by decide +kernel)) ggX6_greatestPressure_X2_heightAt
theorem dX6_greatestPressure_0 : decode cX6_greatestPressure 0 = .ok (.ldc 172, 2) := by decide +kernel
theorem dX6_greatestPressure_2 : decode cX6_greatestPressure 2 = .ok (.istore 4, 2) := by decide +kernel
theorem dX6_greatestPressure_4 : decode cX6_greatestPressure 4 = .ok (.ldc 235, 2) := by decide +kernel
theorem dX6_greatestPressure_6 : decode cX6_greatestPressure 6 = .ok (.istore 5, 2) := by decide +kernel
theorem dX6_greatestPressure_8 : decode cX6_greatestPressure 8 = .ok (.iconst 0, 1) := by decide +kernel
theorem dX6_greatestPressure_9 : decode cX6_greatestPressure 9 = .ok (.istore 6, 2) := by decide +kernel
theorem dX6_greatestPressure_11 : decode cX6_greatestPressure 11 = .ok (.iload 6, 2) := by decide +kernel
theorem dX6_greatestPressure_13 : decode cX6_greatestPressure 13 = .ok (.bipush 32, 2) := by decide +kernel
theorem dX6_greatestPressure_15 : decode cX6_greatestPressure 15 = .ok (.if_icmp .ge 58, 3) := by decide +kernel
theorem dX6_greatestPressure_18 : decode cX6_greatestPressure 18 = .ok (.iload 4, 2) := by decide +kernel
theorem dX6_greatestPressure_20 : decode cX6_greatestPressure 20 = .ok (.iload 5, 2) := by decide +kernel
theorem dX6_greatestPressure_22 : decode cX6_greatestPressure 22 = .ok (.if_icmp .ge 51, 3) := by decide +kernel
theorem dX6_greatestPressure_25 : decode cX6_greatestPressure 25 = .ok (.iload 4, 2) := by decide +kernel
theorem dX6_greatestPressure_27 : decode cX6_greatestPressure 27 = .ok (.iload 5, 2) := by decide +kernel
theorem dX6_greatestPressure_29 : decode cX6_greatestPressure 29 = .ok (.iload 4, 2) := by decide +kernel
theorem dX6_greatestPressure_31 : decode cX6_greatestPressure 31 = .ok (.isub, 1) := by decide +kernel
theorem dX6_greatestPressure_32 : decode cX6_greatestPressure 32 = .ok (.iconst 1, 1) := by decide +kernel
theorem dX6_greatestPressure_33 : decode cX6_greatestPressure 33 = .ok (.iadd, 1) := by decide +kernel
theorem dX6_greatestPressure_34 : decode cX6_greatestPressure 34 = .ok (.iconst 2, 1) := by decide +kernel
theorem dX6_greatestPressure_35 : decode cX6_greatestPressure 35 = .ok (.idiv, 1) := by decide +kernel
theorem dX6_greatestPressure_36 : decode cX6_greatestPressure 36 = .ok (.iadd, 1) := by decide +kernel
theorem dX6_greatestPressure_37 : decode cX6_greatestPressure 37 = .ok (.istore 7, 2) := by decide +kernel
theorem dX6_greatestPressure_39 : decode cX6_greatestPressure 39 = .ok (.aload_n 0, 1) := by decide +kernel
theorem dX6_greatestPressure_40 : decode cX6_greatestPressure 40 = .ok (.getfield 10, 3) := by decide +kernel
theorem dX6_greatestPressure_43 : decode cX6_greatestPressure 43 = .ok (.iload_n 1, 1) := by decide +kernel
theorem dX6_greatestPressure_44 : decode cX6_greatestPressure 44 = .ok (.iload 7, 2) := by decide +kernel
theorem dX6_greatestPressure_46 : decode cX6_greatestPressure 46 = .ok (.iload_n 2, 1) := by decide +kernel
theorem dX6_greatestPressure_47 : decode cX6_greatestPressure 47 = .ok (.invokevirtual 163, 3) := by decide +kernel
theorem dX6_greatestPressure_50 : decode cX6_greatestPressure 50 = .ok (.iload_n 3, 1) := by decide +kernel
theorem dX6_greatestPressure_51 : decode cX6_greatestPressure 51 = .ok (.if_icmp .lt 10, 3) := by decide +kernel
theorem dX6_greatestPressure_54 : decode cX6_greatestPressure 54 = .ok (.iload 7, 2) := by decide +kernel
theorem dX6_greatestPressure_56 : decode cX6_greatestPressure 56 = .ok (.istore 4, 2) := by decide +kernel
theorem dX6_greatestPressure_58 : decode cX6_greatestPressure 58 = .ok (.goto 9, 3) := by decide +kernel
theorem dX6_greatestPressure_61 : decode cX6_greatestPressure 61 = .ok (.iload 7, 2) := by decide +kernel
theorem dX6_greatestPressure_63 : decode cX6_greatestPressure 63 = .ok (.iconst 1, 1) := by decide +kernel
theorem dX6_greatestPressure_64 : decode cX6_greatestPressure 64 = .ok (.isub, 1) := by decide +kernel
theorem dX6_greatestPressure_65 : decode cX6_greatestPressure 65 = .ok (.istore 5, 2) := by decide +kernel
theorem dX6_greatestPressure_67 : decode cX6_greatestPressure 67 = .ok (.iinc 6 1, 3) := by decide +kernel
theorem dX6_greatestPressure_70 : decode cX6_greatestPressure 70 = .ok (.goto (-59), 3) := by decide +kernel
theorem dX6_greatestPressure_73 : decode cX6_greatestPressure 73 = .ok (.iload 4, 2) := by decide +kernel
theorem dX6_greatestPressure_75 : decode cX6_greatestPressure 75 = .ok (.ireturn, 1) := by decide +kernel
theorem dX7_init_0 : decode cX7_init 0 = .ok (.aload_n 0, 1) := by decide +kernel
theorem dX7_init_1 : decode cX7_init 1 = .ok (.invokespecial 1, 3) := by decide +kernel
theorem dX7_init_4 : decode cX7_init 4 = .ok (.aload_n 0, 1) := by decide +kernel
theorem dX7_init_5 : decode cX7_init 5 = .ok (.sipush 327, 3) := by decide +kernel
theorem dX7_init_8 : decode cX7_init 8 = .ok (.newarray .int, 2) := by decide +kernel
theorem dX7_init_10 : decode cX7_init 10 = .ok (.putfield 7, 3) := by decide +kernel
theorem dX7_init_13 : decode cX7_init 13 = .ok (.aload_n 0, 1) := by decide +kernel
theorem dX7_init_14 : decode cX7_init 14 = .ok (.sipush 1635, 3) := by decide +kernel
theorem dX7_init_17 : decode cX7_init 17 = .ok (.newarray .int, 2) := by decide +kernel
theorem dX7_init_19 : decode cX7_init 19 = .ok (.putfield 13, 3) := by decide +kernel
theorem dX7_init_22 : decode cX7_init 22 = .ok (.aload_n 0, 1) := by decide +kernel
theorem dX7_init_23 : decode cX7_init 23 = .ok (.sipush 327, 3) := by decide +kernel
theorem dX7_init_26 : decode cX7_init 26 = .ok (.newarray .int, 2) := by decide +kernel
theorem dX7_init_28 : decode cX7_init 28 = .ok (.putfield 16, 3) := by decide +kernel
theorem dX7_init_31 : decode cX7_init 31 = .ok (.aload_n 0, 1) := by decide +kernel
theorem dX7_init_32 : decode cX7_init 32 = .ok (.bipush 100, 2) := by decide +kernel
theorem dX7_init_34 : decode cX7_init 34 = .ok (.newarray .char, 2) := by decide +kernel
theorem dX7_init_36 : decode cX7_init 36 = .ok (.putfield 19, 3) := by decide +kernel
theorem dX7_init_39 : decode cX7_init 39 = .ok (.aload_n 0, 1) := by decide +kernel
theorem dX7_init_40 : decode cX7_init 40 = .ok (.iconst 4, 1) := by decide +kernel
theorem dX7_init_41 : decode cX7_init 41 = .ok (.newarray .int, 2) := by decide +kernel
theorem dX7_init_43 : decode cX7_init 43 = .ok (.putfield 23, 3) := by decide +kernel
theorem dX7_init_46 : decode cX7_init 46 = .ok (.aload_n 0, 1) := by decide +kernel
theorem dX7_init_47 : decode cX7_init 47 = .ok (.bipush 20, 2) := by decide +kernel
theorem dX7_init_49 : decode cX7_init 49 = .ok (.newarray .int, 2) := by decide +kernel
theorem dX7_init_51 : decode cX7_init 51 = .ok (.putfield 26, 3) := by decide +kernel
theorem dX7_init_54 : decode cX7_init 54 = .ok (.aload_n 0, 1) := by decide +kernel
theorem dX7_init_55 : decode cX7_init 55 = .ok (.bipush 20, 2) := by decide +kernel
theorem dX7_init_57 : decode cX7_init 57 = .ok (.newarray .boolean, 2) := by decide +kernel
theorem dX7_init_59 : decode cX7_init 59 = .ok (.putfield 29, 3) := by decide +kernel
theorem dX7_init_62 : decode cX7_init 62 = .ok (.aload_n 0, 1) := by decide +kernel
theorem dX7_init_63 : decode cX7_init 63 = .ok (.bipush 20, 2) := by decide +kernel
theorem dX7_init_65 : decode cX7_init 65 = .ok (.newarray .int, 2) := by decide +kernel
theorem dX7_init_67 : decode cX7_init 67 = .ok (.putfield 33, 3) := by decide +kernel
theorem dX7_init_70 : decode cX7_init 70 = .ok (.aload_n 0, 1) := by decide +kernel
theorem dX7_init_71 : decode cX7_init 71 = .ok (.bipush 20, 2) := by decide +kernel
theorem dX7_init_73 : decode cX7_init 73 = .ok (.newarray .int, 2) := by decide +kernel
theorem dX7_init_75 : decode cX7_init 75 = .ok (.putfield 36, 3) := by decide +kernel
theorem dX7_init_78 : decode cX7_init 78 = .ok (.aload_n 0, 1) := by decide +kernel
theorem dX7_init_79 : decode cX7_init 79 = .ok (.getfield 7, 3) := by decide +kernel
theorem dX7_init_82 : decode cX7_init 82 = .ok (.iconst 1, 1) := by decide +kernel
theorem dX7_init_83 : decode cX7_init 83 = .ok (.bipush 60, 2) := by decide +kernel
theorem dX7_init_85 : decode cX7_init 85 = .ok (.iastore, 1) := by decide +kernel
theorem dX7_init_86 : decode cX7_init 86 = .ok (.aload_n 0, 1) := by decide +kernel
theorem dX7_init_87 : decode cX7_init 87 = .ok (.getfield 7, 3) := by decide +kernel
theorem dX7_init_90 : decode cX7_init 90 = .ok (.iconst 2, 1) := by decide +kernel
theorem dX7_init_91 : decode cX7_init 91 = .ok (.bipush 50, 2) := by decide +kernel
theorem dX7_init_93 : decode cX7_init 93 = .ok (.iastore, 1) := by decide +kernel
theorem dX7_init_94 : decode cX7_init 94 = .ok (.return_, 1) := by decide +kernel
theorem dX7_in_0 : decode cX7_in 0 = .ok (.iload_n 0, 1) := by decide +kernel
theorem dX7_in_1 : decode cX7_in 1 = .ok (.iload_n 1, 1) := by decide +kernel
theorem dX7_in_2 : decode cX7_in 2 = .ok (.if_icmp .lt 12, 3) := by decide +kernel
theorem dX7_in_5 : decode cX7_in 5 = .ok (.iload_n 0, 1) := by decide +kernel
theorem dX7_in_6 : decode cX7_in 6 = .ok (.iload_n 2, 1) := by decide +kernel
theorem dX7_in_7 : decode cX7_in 7 = .ok (.if_icmp .gt 7, 3) := by decide +kernel
theorem dX7_in_10 : decode cX7_in 10 = .ok (.iconst 1, 1) := by decide +kernel
theorem dX7_in_11 : decode cX7_in 11 = .ok (.goto 4, 3) := by decide +kernel
theorem dX7_in_14 : decode cX7_in 14 = .ok (.iconst 0, 1) := by decide +kernel
theorem dX7_in_15 : decode cX7_in 15 = .ok (.ireturn, 1) := by decide +kernel
set_option maxRecDepth 20000 in
theorem ggX7_isCell_X7_in : GoodIn wsX7_isCell wsX7_in := goodIn_r _ [4] (by decide +kernel) (by decide +kernel)
set_option maxRecDepth 20000 in
theorem gX7_isCell_X7_in : GoodIn wsX7_isCell (va_wsS RX7 39 yX7_in wsX7_in) := goodIn_app (goodIn_of _ (by decide +kernel)) ggX7_isCell_X7_in
theorem dX7_isCell_0 : decode cX7_isCell 0 = .ok (.iload_n 0, 1) := by decide +kernel
theorem dX7_isCell_1 : decode cX7_isCell 1 = .ok (.iconst 0, 1) := by decide +kernel
theorem dX7_isCell_2 : decode cX7_isCell 2 = .ok (.iconst 2, 1) := by decide +kernel
theorem dX7_isCell_3 : decode cX7_isCell 3 = .ok (.invokestatic 39, 3) := by decide +kernel
theorem dX7_isCell_6 : decode cX7_isCell 6 = .ok (.ireturn, 1) := by decide +kernel
set_option maxRecDepth 20000 in
theorem ggX7_isReading_X7_in : GoodIn wsX7_isReading wsX7_in := goodIn_r _ [5] (by decide +kernel) (by decide +kernel)
set_option maxRecDepth 20000 in
theorem gX7_isReading_X7_in : GoodIn wsX7_isReading (va_wsS RX7 39 yX7_in wsX7_in) := goodIn_app (goodIn_of _ (by decide +kernel)) ggX7_isReading_X7_in
theorem dX7_isReading_0 : decode cX7_isReading 0 = .ok (.iload_n 1, 1) := by decide +kernel
theorem dX7_isReading_1 : decode cX7_isReading 1 = .ok (.iconst (-1), 1) := by decide +kernel
theorem dX7_isReading_2 : decode cX7_isReading 2 = .ok (.iconst 2, 1) := by decide +kernel
theorem dX7_isReading_3 : decode cX7_isReading 3 = .ok (.invokestatic 39, 3) := by decide +kernel
theorem dX7_isReading_6 : decode cX7_isReading 6 = .ok (.ifCond .eq 25, 3) := by decide +kernel
theorem dX7_isReading_9 : decode cX7_isReading 9 = .ok (.iload_n 2, 1) := by decide +kernel
theorem dX7_isReading_10 : decode cX7_isReading 10 = .ok (.iconst 0, 1) := by decide +kernel
theorem dX7_isReading_11 : decode cX7_isReading 11 = .ok (.aload_n 0, 1) := by decide +kernel
theorem dX7_isReading_12 : decode cX7_isReading 12 = .ok (.getfield 7, 3) := by decide +kernel
theorem dX7_isReading_15 : decode cX7_isReading 15 = .ok (.iconst 4, 1) := by decide +kernel
theorem dX7_isReading_16 : decode cX7_isReading 16 = .ok (.iload_n 1, 1) := by decide +kernel
theorem dX7_isReading_17 : decode cX7_isReading 17 = .ok (.iadd, 1) := by decide +kernel
theorem dX7_isReading_18 : decode cX7_isReading 18 = .ok (.iaload, 1) := by decide +kernel
theorem dX7_isReading_19 : decode cX7_isReading 19 = .ok (.iconst 1, 1) := by decide +kernel
theorem dX7_isReading_20 : decode cX7_isReading 20 = .ok (.isub, 1) := by decide +kernel
theorem dX7_isReading_21 : decode cX7_isReading 21 = .ok (.invokestatic 39, 3) := by decide +kernel
theorem dX7_isReading_24 : decode cX7_isReading 24 = .ok (.ifCond .eq 7, 3) := by decide +kernel
theorem dX7_isReading_27 : decode cX7_isReading 27 = .ok (.iconst 1, 1) := by decide +kernel
theorem dX7_isReading_28 : decode cX7_isReading 28 = .ok (.goto 4, 3) := by decide +kernel
theorem dX7_isReading_31 : decode cX7_isReading 31 = .ok (.iconst 0, 1) := by decide +kernel
theorem dX7_isReading_32 : decode cX7_isReading 32 = .ok (.ireturn, 1) := by decide +kernel
set_option maxRecDepth 20000 in
theorem ggX7_areValues_X7_in : GoodIn wsX7_areValues wsX7_in := goodIn_r _ [6] (by decide +kernel) (by decide +kernel)
set_option maxRecDepth 20000 in
theorem gX7_areValues_X7_in : GoodIn wsX7_areValues (va_wsS RX7 39 yX7_in wsX7_in) := goodIn_app (goodIn_of _ (by decide +kernel)) ggX7_areValues_X7_in
theorem dX7_areValues_0 : decode cX7_areValues 0 = .ok (.iload_n 0, 1) := by decide +kernel
theorem dX7_areValues_1 : decode cX7_areValues 1 = .ok (.iconst 0, 1) := by decide +kernel
theorem dX7_areValues_2 : decode cX7_areValues 2 = .ok (.sipush 10000, 3) := by decide +kernel
theorem dX7_areValues_5 : decode cX7_areValues 5 = .ok (.invokestatic 39, 3) := by decide +kernel
theorem dX7_areValues_8 : decode cX7_areValues 8 = .ok (.ifCond .eq 31, 3) := by decide +kernel
theorem dX7_areValues_11 : decode cX7_areValues 11 = .ok (.iload_n 1, 1) := by decide +kernel
theorem dX7_areValues_12 : decode cX7_areValues 12 = .ok (.ldc 43, 2) := by decide +kernel
theorem dX7_areValues_14 : decode cX7_areValues 14 = .ok (.ldc 44, 2) := by decide +kernel
theorem dX7_areValues_16 : decode cX7_areValues 16 = .ok (.invokestatic 39, 3) := by decide +kernel
theorem dX7_areValues_19 : decode cX7_areValues 19 = .ok (.ifCond .eq 20, 3) := by decide +kernel
theorem dX7_areValues_22 : decode cX7_areValues 22 = .ok (.iload_n 2, 1) := by decide +kernel
theorem dX7_areValues_23 : decode cX7_areValues 23 = .ok (.sipush (-300), 3) := by decide +kernel
theorem dX7_areValues_26 : decode cX7_areValues 26 = .ok (.sipush 500, 3) := by decide +kernel
theorem dX7_areValues_29 : decode cX7_areValues 29 = .ok (.invokestatic 39, 3) := by decide +kernel
theorem dX7_areValues_32 : decode cX7_areValues 32 = .ok (.ifCond .eq 7, 3) := by decide +kernel
theorem dX7_areValues_35 : decode cX7_areValues 35 = .ok (.iconst 1, 1) := by decide +kernel
theorem dX7_areValues_36 : decode cX7_areValues 36 = .ok (.goto 4, 3) := by decide +kernel
theorem dX7_areValues_39 : decode cX7_areValues 39 = .ok (.iconst 0, 1) := by decide +kernel
theorem dX7_areValues_40 : decode cX7_areValues 40 = .ok (.ireturn, 1) := by decide +kernel
theorem dX7_of_0 : decode cX7_of 0 = .ok (.aload_n 0, 1) := by decide +kernel
theorem dX7_of_1 : decode cX7_of 1 = .ok (.getfield 7, 3) := by decide +kernel
theorem dX7_of_4 : decode cX7_of 4 = .ok (.bipush 7, 2) := by decide +kernel
theorem dX7_of_6 : decode cX7_of 6 = .ok (.bipush 80, 2) := by decide +kernel
theorem dX7_of_8 : decode cX7_of 8 = .ok (.iload_n 1, 1) := by decide +kernel
theorem dX7_of_9 : decode cX7_of 9 = .ok (.imul, 1) := by decide +kernel
theorem dX7_of_10 : decode cX7_of 10 = .ok (.iadd, 1) := by decide +kernel
theorem dX7_of_11 : decode cX7_of 11 = .ok (.iload_n 2, 1) := by decide +kernel
theorem dX7_of_12 : decode cX7_of 12 = .ok (.iadd, 1) := by decide +kernel
theorem dX7_of_13 : decode cX7_of 13 = .ok (.iload_n 3, 1) := by decide +kernel
theorem dX7_of_14 : decode cX7_of 14 = .ok (.iadd, 1) := by decide +kernel
theorem dX7_of_15 : decode cX7_of 15 = .ok (.iaload, 1) := by decide +kernel
theorem dX7_of_16 : decode cX7_of 16 = .ok (.ireturn, 1) := by decide +kernel
theorem dX7_down_0 : decode cX7_down 0 = .ok (.lload_n 0, 1) := by decide +kernel
theorem dX7_down_1 : decode cX7_down 1 = .ok (.lload_n 2, 1) := by decide +kernel
theorem dX7_down_2 : decode cX7_down 2 = .ok (.ldiv, 1) := by decide +kernel
theorem dX7_down_3 : decode cX7_down 3 = .ok (.lstore 4, 2) := by decide +kernel
theorem dX7_down_5 : decode cX7_down 5 = .ok (.lload_n 0, 1) := by decide +kernel
theorem dX7_down_6 : decode cX7_down 6 = .ok (.lload_n 2, 1) := by decide +kernel
theorem dX7_down_7 : decode cX7_down 7 = .ok (.lrem, 1) := by decide +kernel
theorem dX7_down_8 : decode cX7_down 8 = .ok (.lconst 0, 1) := by decide +kernel
theorem dX7_down_9 : decode cX7_down 9 = .ok (.lcmp, 1) := by decide +kernel
theorem dX7_down_10 : decode cX7_down 10 = .ok (.ifCond .eq 35, 3) := by decide +kernel
theorem dX7_down_13 : decode cX7_down 13 = .ok (.lload_n 0, 1) := by decide +kernel
theorem dX7_down_14 : decode cX7_down 14 = .ok (.lconst 0, 1) := by decide +kernel
theorem dX7_down_15 : decode cX7_down 15 = .ok (.lcmp, 1) := by decide +kernel
theorem dX7_down_16 : decode cX7_down 16 = .ok (.ifCond .ge 7, 3) := by decide +kernel
theorem dX7_down_19 : decode cX7_down 19 = .ok (.iconst 1, 1) := by decide +kernel
theorem dX7_down_20 : decode cX7_down 20 = .ok (.goto 4, 3) := by decide +kernel
theorem dX7_down_23 : decode cX7_down 23 = .ok (.iconst 0, 1) := by decide +kernel
theorem dX7_down_24 : decode cX7_down 24 = .ok (.lload_n 2, 1) := by decide +kernel
theorem dX7_down_25 : decode cX7_down 25 = .ok (.lconst 0, 1) := by decide +kernel
theorem dX7_down_26 : decode cX7_down 26 = .ok (.lcmp, 1) := by decide +kernel
theorem dX7_down_27 : decode cX7_down 27 = .ok (.ifCond .ge 7, 3) := by decide +kernel
theorem dX7_down_30 : decode cX7_down 30 = .ok (.iconst 1, 1) := by decide +kernel
theorem dX7_down_31 : decode cX7_down 31 = .ok (.goto 4, 3) := by decide +kernel
theorem dX7_down_34 : decode cX7_down 34 = .ok (.iconst 0, 1) := by decide +kernel
theorem dX7_down_35 : decode cX7_down 35 = .ok (.if_icmp .eq 10, 3) := by decide +kernel
theorem dX7_down_38 : decode cX7_down 38 = .ok (.lload 4, 2) := by decide +kernel
theorem dX7_down_40 : decode cX7_down 40 = .ok (.lconst 1, 1) := by decide +kernel
theorem dX7_down_41 : decode cX7_down 41 = .ok (.lsub, 1) := by decide +kernel
theorem dX7_down_42 : decode cX7_down 42 = .ok (.goto 5, 3) := by decide +kernel
theorem dX7_down_45 : decode cX7_down 45 = .ok (.lload 4, 2) := by decide +kernel
theorem dX7_down_47 : decode cX7_down 47 = .ok (.lreturn, 1) := by decide +kernel
theorem dX7_records_0 : decode cX7_records 0 = .ok (.aload_n 0, 1) := by decide +kernel
theorem dX7_records_1 : decode cX7_records 1 = .ok (.getfield 45, 3) := by decide +kernel
theorem dX7_records_4 : decode cX7_records 4 = .ok (.iconst 5, 1) := by decide +kernel
theorem dX7_records_5 : decode cX7_records 5 = .ok (.if_icmp .ne 44, 3) := by decide +kernel
theorem dX7_records_8 : decode cX7_records 8 = .ok (.iconst 0, 1) := by decide +kernel
theorem dX7_records_9 : decode cX7_records 9 = .ok (.istore_n 1, 1) := by decide +kernel
theorem dX7_records_10 : decode cX7_records 10 = .ok (.iload_n 1, 1) := by decide +kernel
theorem dX7_records_11 : decode cX7_records 11 = .ok (.sipush 1308, 3) := by decide +kernel
theorem dX7_records_14 : decode cX7_records 14 = .ok (.if_icmp .ge 25, 3) := by decide +kernel
theorem dX7_records_17 : decode cX7_records 17 = .ok (.aload_n 0, 1) := by decide +kernel
theorem dX7_records_18 : decode cX7_records 18 = .ok (.getfield 13, 3) := by decide +kernel
theorem dX7_records_21 : decode cX7_records 21 = .ok (.iload_n 1, 1) := by decide +kernel
theorem dX7_records_22 : decode cX7_records 22 = .ok (.aload_n 0, 1) := by decide +kernel
theorem dX7_records_23 : decode cX7_records 23 = .ok (.getfield 13, 3) := by decide +kernel
theorem dX7_records_26 : decode cX7_records 26 = .ok (.iload_n 1, 1) := by decide +kernel
theorem dX7_records_27 : decode cX7_records 27 = .ok (.sipush 327, 3) := by decide +kernel
theorem dX7_records_30 : decode cX7_records 30 = .ok (.iadd, 1) := by decide +kernel
theorem dX7_records_31 : decode cX7_records 31 = .ok (.iaload, 1) := by decide +kernel
theorem dX7_records_32 : decode cX7_records 32 = .ok (.iastore, 1) := by decide +kernel
theorem dX7_records_33 : decode cX7_records 33 = .ok (.iinc 1 1, 3) := by decide +kernel
theorem dX7_records_36 : decode cX7_records 36 = .ok (.goto (-26), 3) := by decide +kernel
theorem dX7_records_39 : decode cX7_records 39 = .ok (.aload_n 0, 1) := by decide +kernel
theorem dX7_records_40 : decode cX7_records 40 = .ok (.dup, 1) := by decide +kernel
theorem dX7_records_41 : decode cX7_records 41 = .ok (.getfield 45, 3) := by decide +kernel
theorem dX7_records_44 : decode cX7_records 44 = .ok (.iconst 1, 1) := by decide +kernel
theorem dX7_records_45 : decode cX7_records 45 = .ok (.isub, 1) := by decide +kernel
theorem dX7_records_46 : decode cX7_records 46 = .ok (.putfield 45, 3) := by decide +kernel
theorem dX7_records_49 : decode cX7_records 49 = .ok (.iconst 0, 1) := by decide +kernel
theorem dX7_records_50 : decode cX7_records 50 = .ok (.istore_n 1, 1) := by decide +kernel
theorem dX7_records_51 : decode cX7_records 51 = .ok (.iload_n 1, 1) := by decide +kernel
theorem dX7_records_52 : decode cX7_records 52 = .ok (.sipush 327, 3) := by decide +kernel
theorem dX7_records_55 : decode cX7_records 55 = .ok (.if_icmp .ge 30, 3) := by decide +kernel
theorem dX7_records_58 : decode cX7_records 58 = .ok (.aload_n 0, 1) := by decide +kernel
theorem dX7_records_59 : decode cX7_records 59 = .ok (.getfield 13, 3) := by decide +kernel
theorem dX7_records_62 : decode cX7_records 62 = .ok (.sipush 327, 3) := by decide +kernel
theorem dX7_records_65 : decode cX7_records 65 = .ok (.aload_n 0, 1) := by decide +kernel
theorem dX7_records_66 : decode cX7_records 66 = .ok (.getfield 45, 3) := by decide +kernel
theorem dX7_records_69 : decode cX7_records 69 = .ok (.imul, 1) := by decide +kernel
theorem dX7_records_70 : decode cX7_records 70 = .ok (.iload_n 1, 1) := by decide +kernel
theorem dX7_records_71 : decode cX7_records 71 = .ok (.iadd, 1) := by decide +kernel
theorem dX7_records_72 : decode cX7_records 72 = .ok (.aload_n 0, 1) := by decide +kernel
theorem dX7_records_73 : decode cX7_records 73 = .ok (.getfield 7, 3) := by decide +kernel
theorem dX7_records_76 : decode cX7_records 76 = .ok (.iload_n 1, 1) := by decide +kernel
theorem dX7_records_77 : decode cX7_records 77 = .ok (.iaload, 1) := by decide +kernel
theorem dX7_records_78 : decode cX7_records 78 = .ok (.iastore, 1) := by decide +kernel
theorem dX7_records_79 : decode cX7_records 79 = .ok (.iinc 1 1, 3) := by decide +kernel
theorem dX7_records_82 : decode cX7_records 82 = .ok (.goto (-31), 3) := by decide +kernel
theorem dX7_records_85 : decode cX7_records 85 = .ok (.aload_n 0, 1) := by decide +kernel
theorem dX7_records_86 : decode cX7_records 86 = .ok (.dup, 1) := by decide +kernel
theorem dX7_records_87 : decode cX7_records 87 = .ok (.getfield 45, 3) := by decide +kernel
theorem dX7_records_90 : decode cX7_records 90 = .ok (.iconst 1, 1) := by decide +kernel
theorem dX7_records_91 : decode cX7_records 91 = .ok (.iadd, 1) := by decide +kernel
theorem dX7_records_92 : decode cX7_records 92 = .ok (.putfield 45, 3) := by decide +kernel
theorem dX7_records_95 : decode cX7_records 95 = .ok (.return_, 1) := by decide +kernel
set_option maxRecDepth 20000 in
theorem ggX7_isSetting_X7_in : GoodIn wsX7_isSetting wsX7_in := goodIn_r _ [6] (by decide +kernel) (by decide +kernel)
set_option maxRecDepth 20000 in
theorem gX7_isSetting_X7_in : GoodIn wsX7_isSetting (va_wsS RX7 39 yX7_in wsX7_in) := goodIn_app (goodIn_of _ (by decide +kernel)) ggX7_isSetting_X7_in
theorem dX7_isSetting_0 : decode cX7_isSetting 0 = .ok (.iload_n 0, 1) := by decide +kernel
theorem dX7_isSetting_1 : decode cX7_isSetting 1 = .ok (.tableswitch 54 0 2 #[27, 36, 45], 27) := by decide +kernel
theorem dX7_isSetting_28 : decode cX7_isSetting 28 = .ok (.iload_n 1, 1) := by decide +kernel
theorem dX7_isSetting_29 : decode cX7_isSetting 29 = .ok (.ldc 49, 2) := by decide +kernel
theorem dX7_isSetting_31 : decode cX7_isSetting 31 = .ok (.ldc 50, 2) := by decide +kernel
theorem dX7_isSetting_33 : decode cX7_isSetting 33 = .ok (.invokestatic 39, 3) := by decide +kernel
theorem dX7_isSetting_36 : decode cX7_isSetting 36 = .ok (.ireturn, 1) := by decide +kernel
theorem dX7_isSetting_37 : decode cX7_isSetting 37 = .ok (.iload_n 1, 1) := by decide +kernel
theorem dX7_isSetting_38 : decode cX7_isSetting 38 = .ok (.iconst 1, 1) := by decide +kernel
theorem dX7_isSetting_39 : decode cX7_isSetting 39 = .ok (.sipush 5000, 3) := by decide +kernel
theorem dX7_isSetting_42 : decode cX7_isSetting 42 = .ok (.invokestatic 39, 3) := by decide +kernel
theorem dX7_isSetting_45 : decode cX7_isSetting 45 = .ok (.ireturn, 1) := by decide +kernel
theorem dX7_isSetting_46 : decode cX7_isSetting 46 = .ok (.iload_n 1, 1) := by decide +kernel
theorem dX7_isSetting_47 : decode cX7_isSetting 47 = .ok (.iconst 1, 1) := by decide +kernel
theorem dX7_isSetting_48 : decode cX7_isSetting 48 = .ok (.sipush 500, 3) := by decide +kernel
theorem dX7_isSetting_51 : decode cX7_isSetting 51 = .ok (.invokestatic 39, 3) := by decide +kernel
theorem dX7_isSetting_54 : decode cX7_isSetting 54 = .ok (.ireturn, 1) := by decide +kernel
theorem dX7_isSetting_55 : decode cX7_isSetting 55 = .ok (.iconst 0, 1) := by decide +kernel
theorem dX7_isSetting_56 : decode cX7_isSetting 56 = .ok (.ireturn, 1) := by decide +kernel
set_option maxRecDepth 20000 in
theorem ggX7_set_X7_isSetting : GoodIn wsX7_set wsX7_isSetting := goodIn_r _ [6, 7, 8, 9, 10, 5, 11] (by decide +kernel) (by decide +kernel)
set_option maxRecDepth 20000 in
theorem gX7_set_X7_isSetting : GoodIn wsX7_set (va_wsS RX7 51 yX7_isSetting wsX7_isSetting) := goodIn_app (goodIn_of _ (by decide +kernel)) ggX7_set_X7_isSetting
set_option maxRecDepth 20000 in
theorem ggX7_set_X7_records : GoodIn wsX7_set wsX7_records := goodIn_r _ [15, 16, 17, 2, 18, 19, 20, 21, 22, 23, 24, 25, 26, 27, 28, 29, 30, 31, 32, 33, 34, 35, 36, 37, 38] (by decide +kernel) (by decide +kernel)
set_option maxRecDepth 20000 in
theorem gX7_set_X7_records : GoodIn wsX7_set (wsV RX7 56 RX7 yX7_records wsX7_records) := goodIn_app (goodIn_of _ (by decide +kernel)) ggX7_set_X7_records
theorem dX7_set_0 : decode cX7_set 0 = .ok (.iload_n 1, 1) := by decide +kernel
theorem dX7_set_1 : decode cX7_set 1 = .ok (.iload_n 2, 1) := by decide +kernel
theorem dX7_set_2 : decode cX7_set 2 = .ok (.invokestatic 51, 3) := by decide +kernel
theorem dX7_set_5 : decode cX7_set 5 = .ok (.ifCond .ne 6, 3) := by decide +kernel
theorem dX7_set_8 : decode cX7_set 8 = .ok (.ldc 55, 2) := by decide +kernel
theorem dX7_set_10 : decode cX7_set 10 = .ok (.ireturn, 1) := by decide +kernel
theorem dX7_set_11 : decode cX7_set 11 = .ok (.aload_n 0, 1) := by decide +kernel
theorem dX7_set_12 : decode cX7_set 12 = .ok (.invokevirtual 56, 3) := by decide +kernel
theorem dX7_set_15 : decode cX7_set 15 = .ok (.aload_n 0, 1) := by decide +kernel
theorem dX7_set_16 : decode cX7_set 16 = .ok (.getfield 7, 3) := by decide +kernel
theorem dX7_set_19 : decode cX7_set 19 = .ok (.iload_n 1, 1) := by decide +kernel
theorem dX7_set_20 : decode cX7_set 20 = .ok (.iaload, 1) := by decide +kernel
theorem dX7_set_21 : decode cX7_set 21 = .ok (.istore_n 3, 1) := by decide +kernel
theorem dX7_set_22 : decode cX7_set 22 = .ok (.aload_n 0, 1) := by decide +kernel
theorem dX7_set_23 : decode cX7_set 23 = .ok (.getfield 7, 3) := by decide +kernel
theorem dX7_set_26 : decode cX7_set 26 = .ok (.iload_n 1, 1) := by decide +kernel
theorem dX7_set_27 : decode cX7_set 27 = .ok (.iload_n 2, 1) := by decide +kernel
theorem dX7_set_28 : decode cX7_set 28 = .ok (.iastore, 1) := by decide +kernel
theorem dX7_set_29 : decode cX7_set 29 = .ok (.iload_n 3, 1) := by decide +kernel
theorem dX7_set_30 : decode cX7_set 30 = .ok (.ireturn, 1) := by decide +kernel
set_option maxRecDepth 20000 in
theorem ggX7_isTaken_X7_of : GoodIn wsX7_isTaken wsX7_of := goodIn_r _ [6, 1, 7, 8, 9, 10, 11, 12, 13, 14, 15, 16, 17, 18, 19, 20, 21, 22, 23, 24, 25, 26, 27] (by decide +kernel) (by decide +kernel)
set_option maxRecDepth 20000 in
theorem gX7_isTaken_X7_of : GoodIn wsX7_isTaken (wsV RX7 59 RX7 yX7_of wsX7_of) := goodIn_app (goodIn_of _ (by decide +kernel)) ggX7_isTaken_X7_of
theorem dX7_isTaken_0 : decode cX7_isTaken 0 = .ok (.iconst 0, 1) := by decide +kernel
theorem dX7_isTaken_1 : decode cX7_isTaken 1 = .ok (.istore_n 3, 1) := by decide +kernel
theorem dX7_isTaken_2 : decode cX7_isTaken 2 = .ok (.iconst 0, 1) := by decide +kernel
theorem dX7_isTaken_3 : decode cX7_isTaken 3 = .ok (.istore 4, 2) := by decide +kernel
theorem dX7_isTaken_5 : decode cX7_isTaken 5 = .ok (.iload 4, 2) := by decide +kernel
theorem dX7_isTaken_7 : decode cX7_isTaken 7 = .ok (.aload_n 0, 1) := by decide +kernel
theorem dX7_isTaken_8 : decode cX7_isTaken 8 = .ok (.getfield 7, 3) := by decide +kernel
theorem dX7_isTaken_11 : decode cX7_isTaken 11 = .ok (.iconst 3, 1) := by decide +kernel
theorem dX7_isTaken_12 : decode cX7_isTaken 12 = .ok (.iload_n 1, 1) := by decide +kernel
theorem dX7_isTaken_13 : decode cX7_isTaken 13 = .ok (.iadd, 1) := by decide +kernel
theorem dX7_isTaken_14 : decode cX7_isTaken 14 = .ok (.iaload, 1) := by decide +kernel
theorem dX7_isTaken_15 : decode cX7_isTaken 15 = .ok (.if_icmp .ge 31, 3) := by decide +kernel
theorem dX7_isTaken_18 : decode cX7_isTaken 18 = .ok (.iload_n 3, 1) := by decide +kernel
theorem dX7_isTaken_19 : decode cX7_isTaken 19 = .ok (.ifCond .ne 15, 3) := by decide +kernel
theorem dX7_isTaken_22 : decode cX7_isTaken 22 = .ok (.aload_n 0, 1) := by decide +kernel
theorem dX7_isTaken_23 : decode cX7_isTaken 23 = .ok (.iload_n 1, 1) := by decide +kernel
theorem dX7_isTaken_24 : decode cX7_isTaken 24 = .ok (.iconst 0, 1) := by decide +kernel
theorem dX7_isTaken_25 : decode cX7_isTaken 25 = .ok (.iload 4, 2) := by decide +kernel
theorem dX7_isTaken_27 : decode cX7_isTaken 27 = .ok (.invokevirtual 59, 3) := by decide +kernel
theorem dX7_isTaken_30 : decode cX7_isTaken 30 = .ok (.iload_n 2, 1) := by decide +kernel
theorem dX7_isTaken_31 : decode cX7_isTaken 31 = .ok (.if_icmp .ne 7, 3) := by decide +kernel
theorem dX7_isTaken_34 : decode cX7_isTaken 34 = .ok (.iconst 1, 1) := by decide +kernel
theorem dX7_isTaken_35 : decode cX7_isTaken 35 = .ok (.goto 4, 3) := by decide +kernel
theorem dX7_isTaken_38 : decode cX7_isTaken 38 = .ok (.iconst 0, 1) := by decide +kernel
theorem dX7_isTaken_39 : decode cX7_isTaken 39 = .ok (.istore_n 3, 1) := by decide +kernel
theorem dX7_isTaken_40 : decode cX7_isTaken 40 = .ok (.iinc 4 1, 3) := by decide +kernel
theorem dX7_isTaken_43 : decode cX7_isTaken 43 = .ok (.goto (-38), 3) := by decide +kernel
theorem dX7_isTaken_46 : decode cX7_isTaken 46 = .ok (.iload_n 3, 1) := by decide +kernel
theorem dX7_isTaken_47 : decode cX7_isTaken 47 = .ok (.ireturn, 1) := by decide +kernel
theorem dX7_isFull_0 : decode cX7_isFull 0 = .ok (.aload_n 0, 1) := by decide +kernel
theorem dX7_isFull_1 : decode cX7_isFull 1 = .ok (.getfield 7, 3) := by decide +kernel
theorem dX7_isFull_4 : decode cX7_isFull 4 = .ok (.iconst 3, 1) := by decide +kernel
theorem dX7_isFull_5 : decode cX7_isFull 5 = .ok (.iload_n 1, 1) := by decide +kernel
theorem dX7_isFull_6 : decode cX7_isFull 6 = .ok (.iadd, 1) := by decide +kernel
theorem dX7_isFull_7 : decode cX7_isFull 7 = .ok (.iaload, 1) := by decide +kernel
theorem dX7_isFull_8 : decode cX7_isFull 8 = .ok (.iload_n 1, 1) := by decide +kernel
theorem dX7_isFull_9 : decode cX7_isFull 9 = .ok (.ifCond .ne 8, 3) := by decide +kernel
theorem dX7_isFull_12 : decode cX7_isFull 12 = .ok (.bipush 12, 2) := by decide +kernel
theorem dX7_isFull_14 : decode cX7_isFull 14 = .ok (.goto 5, 3) := by decide +kernel
theorem dX7_isFull_17 : decode cX7_isFull 17 = .ok (.bipush 20, 2) := by decide +kernel
theorem dX7_isFull_19 : decode cX7_isFull 19 = .ok (.if_icmp .ne 7, 3) := by decide +kernel
theorem dX7_isFull_22 : decode cX7_isFull 22 = .ok (.iconst 1, 1) := by decide +kernel
theorem dX7_isFull_23 : decode cX7_isFull 23 = .ok (.goto 4, 3) := by decide +kernel
theorem dX7_isFull_26 : decode cX7_isFull 26 = .ok (.iconst 0, 1) := by decide +kernel
theorem dX7_isFull_27 : decode cX7_isFull 27 = .ok (.ireturn, 1) := by decide +kernel
set_option maxRecDepth 20000 in
theorem ggX7_moves_X7_of : GoodIn wsX7_moves wsX7_of := goodIn_r _ [6, 1, 7, 8, 9, 10, 11, 12, 13, 14, 15, 16, 17, 18, 19, 20, 21, 22, 23, 24, 25, 26, 27] (by decide +kernel) (by decide +kernel)
set_option maxRecDepth 20000 in
theorem gX7_moves_X7_of : GoodIn wsX7_moves (wsV RX7 59 RX7 yX7_of wsX7_of) := goodIn_app (goodIn_of _ (by decide +kernel)) ggX7_moves_X7_of
theorem dX7_moves_0 : decode cX7_moves 0 = .ok (.iconst 0, 1) := by decide +kernel
theorem dX7_moves_1 : decode cX7_moves 1 = .ok (.istore 4, 2) := by decide +kernel
theorem dX7_moves_3 : decode cX7_moves 3 = .ok (.iload 4, 2) := by decide +kernel
theorem dX7_moves_5 : decode cX7_moves 5 = .ok (.bipush 80, 2) := by decide +kernel
theorem dX7_moves_7 : decode cX7_moves 7 = .ok (.if_icmp .ge 34, 3) := by decide +kernel
theorem dX7_moves_10 : decode cX7_moves 10 = .ok (.aload_n 0, 1) := by decide +kernel
theorem dX7_moves_11 : decode cX7_moves 11 = .ok (.getfield 7, 3) := by decide +kernel
theorem dX7_moves_14 : decode cX7_moves 14 = .ok (.bipush 7, 2) := by decide +kernel
theorem dX7_moves_16 : decode cX7_moves 16 = .ok (.bipush 80, 2) := by decide +kernel
theorem dX7_moves_18 : decode cX7_moves 18 = .ok (.iload_n 1, 1) := by decide +kernel
theorem dX7_moves_19 : decode cX7_moves 19 = .ok (.imul, 1) := by decide +kernel
theorem dX7_moves_20 : decode cX7_moves 20 = .ok (.iadd, 1) := by decide +kernel
theorem dX7_moves_21 : decode cX7_moves 21 = .ok (.iload 4, 2) := by decide +kernel
theorem dX7_moves_23 : decode cX7_moves 23 = .ok (.iadd, 1) := by decide +kernel
theorem dX7_moves_24 : decode cX7_moves 24 = .ok (.iload_n 3, 1) := by decide +kernel
theorem dX7_moves_25 : decode cX7_moves 25 = .ok (.iadd, 1) := by decide +kernel
theorem dX7_moves_26 : decode cX7_moves 26 = .ok (.aload_n 0, 1) := by decide +kernel
theorem dX7_moves_27 : decode cX7_moves 27 = .ok (.iload_n 1, 1) := by decide +kernel
theorem dX7_moves_28 : decode cX7_moves 28 = .ok (.iload 4, 2) := by decide +kernel
theorem dX7_moves_30 : decode cX7_moves 30 = .ok (.iload_n 2, 1) := by decide +kernel
theorem dX7_moves_31 : decode cX7_moves 31 = .ok (.invokevirtual 59, 3) := by decide +kernel
theorem dX7_moves_34 : decode cX7_moves 34 = .ok (.iastore, 1) := by decide +kernel
theorem dX7_moves_35 : decode cX7_moves 35 = .ok (.iinc 4 20, 3) := by decide +kernel
theorem dX7_moves_38 : decode cX7_moves 38 = .ok (.goto (-35), 3) := by decide +kernel
theorem dX7_moves_41 : decode cX7_moves 41 = .ok (.return_, 1) := by decide +kernel
set_option maxRecDepth 20000 in
theorem ggX7_puts_X7_of : GoodIn wsX7_puts wsX7_of := goodIn_r _ [6, 1, 11, 12, 13, 14, 15, 16, 17, 18, 19, 20, 21, 22, 23, 24, 25, 26, 27, 28, 29, 30, 31] (by decide +kernel) (by decide +kernel)
set_option maxRecDepth 20000 in
theorem gX7_puts_X7_of : GoodIn wsX7_puts (wsV RX7 59 RX7 yX7_of wsX7_of) := goodIn_app (goodIn_of _ (by decide +kernel)) ggX7_puts_X7_of
set_option maxRecDepth 20000 in
theorem ggX7_puts_X7_moves : GoodIn wsX7_puts wsX7_moves := goodIn_r _ [10, 1, 2, 3, 4, 5, 6, 11, 12, 13, 14, 15, 16, 17, 18, 19, 20, 21, 22, 23, 24, 25, 26, 27, 28, 29, 30, 31] (by decide +kernel) (by decide +kernel)
set_option maxRecDepth 20000 in
theorem gX7_puts_X7_moves : GoodIn wsX7_puts (wsV RX7 63 RX7 yX7_moves wsX7_moves) := goodIn_app (goodIn_of _ (by decide +kernel)) ggX7_puts_X7_moves
theorem dX7_puts_0 : decode cX7_puts 0 = .ok (.aload_n 0, 1) := by decide +kernel
theorem dX7_puts_1 : decode cX7_puts 1 = .ok (.getfield 7, 3) := by decide +kernel
theorem dX7_puts_4 : decode cX7_puts 4 = .ok (.iconst 3, 1) := by decide +kernel
theorem dX7_puts_5 : decode cX7_puts 5 = .ok (.iload_n 1, 1) := by decide +kernel
theorem dX7_puts_6 : decode cX7_puts 6 = .ok (.iadd, 1) := by decide +kernel
theorem dX7_puts_7 : decode cX7_puts 7 = .ok (.iaload, 1) := by decide +kernel
theorem dX7_puts_8 : decode cX7_puts 8 = .ok (.istore 6, 2) := by decide +kernel
theorem dX7_puts_10 : decode cX7_puts 10 = .ok (.iload 6, 2) := by decide +kernel
theorem dX7_puts_12 : decode cX7_puts 12 = .ok (.ifCond .le 34, 3) := by decide +kernel
theorem dX7_puts_15 : decode cX7_puts 15 = .ok (.aload_n 0, 1) := by decide +kernel
theorem dX7_puts_16 : decode cX7_puts 16 = .ok (.iload_n 1, 1) := by decide +kernel
theorem dX7_puts_17 : decode cX7_puts 17 = .ok (.iconst 0, 1) := by decide +kernel
theorem dX7_puts_18 : decode cX7_puts 18 = .ok (.iload 6, 2) := by decide +kernel
theorem dX7_puts_20 : decode cX7_puts 20 = .ok (.iconst 1, 1) := by decide +kernel
theorem dX7_puts_21 : decode cX7_puts 21 = .ok (.isub, 1) := by decide +kernel
theorem dX7_puts_22 : decode cX7_puts 22 = .ok (.invokevirtual 59, 3) := by decide +kernel
theorem dX7_puts_25 : decode cX7_puts 25 = .ok (.iload_n 2, 1) := by decide +kernel
theorem dX7_puts_26 : decode cX7_puts 26 = .ok (.if_icmp .le 20, 3) := by decide +kernel
theorem dX7_puts_29 : decode cX7_puts 29 = .ok (.aload_n 0, 1) := by decide +kernel
theorem dX7_puts_30 : decode cX7_puts 30 = .ok (.iload_n 1, 1) := by decide +kernel
theorem dX7_puts_31 : decode cX7_puts 31 = .ok (.iload 6, 2) := by decide +kernel
theorem dX7_puts_33 : decode cX7_puts 33 = .ok (.iconst 1, 1) := by decide +kernel
theorem dX7_puts_34 : decode cX7_puts 34 = .ok (.isub, 1) := by decide +kernel
theorem dX7_puts_35 : decode cX7_puts 35 = .ok (.iload 6, 2) := by decide +kernel
theorem dX7_puts_37 : decode cX7_puts 37 = .ok (.invokevirtual 63, 3) := by decide +kernel
theorem dX7_puts_40 : decode cX7_puts 40 = .ok (.iinc 6 (-1), 3) := by decide +kernel
theorem dX7_puts_43 : decode cX7_puts 43 = .ok (.goto (-33), 3) := by decide +kernel
theorem dX7_puts_46 : decode cX7_puts 46 = .ok (.bipush 7, 2) := by decide +kernel
theorem dX7_puts_48 : decode cX7_puts 48 = .ok (.bipush 80, 2) := by decide +kernel
theorem dX7_puts_50 : decode cX7_puts 50 = .ok (.iload_n 1, 1) := by decide +kernel
theorem dX7_puts_51 : decode cX7_puts 51 = .ok (.imul, 1) := by decide +kernel
theorem dX7_puts_52 : decode cX7_puts 52 = .ok (.iadd, 1) := by decide +kernel
theorem dX7_puts_53 : decode cX7_puts 53 = .ok (.iload 6, 2) := by decide +kernel
theorem dX7_puts_55 : decode cX7_puts 55 = .ok (.iadd, 1) := by decide +kernel
theorem dX7_puts_56 : decode cX7_puts 56 = .ok (.istore 7, 2) := by decide +kernel
theorem dX7_puts_58 : decode cX7_puts 58 = .ok (.aload_n 0, 1) := by decide +kernel
theorem dX7_puts_59 : decode cX7_puts 59 = .ok (.getfield 7, 3) := by decide +kernel
theorem dX7_puts_62 : decode cX7_puts 62 = .ok (.iload 7, 2) := by decide +kernel
theorem dX7_puts_64 : decode cX7_puts 64 = .ok (.iconst 0, 1) := by decide +kernel
theorem dX7_puts_65 : decode cX7_puts 65 = .ok (.iadd, 1) := by decide +kernel
theorem dX7_puts_66 : decode cX7_puts 66 = .ok (.iload_n 2, 1) := by decide +kernel
theorem dX7_puts_67 : decode cX7_puts 67 = .ok (.iastore, 1) := by decide +kernel
theorem dX7_puts_68 : decode cX7_puts 68 = .ok (.aload_n 0, 1) := by decide +kernel
theorem dX7_puts_69 : decode cX7_puts 69 = .ok (.getfield 7, 3) := by decide +kernel
theorem dX7_puts_72 : decode cX7_puts 72 = .ok (.iload 7, 2) := by decide +kernel
theorem dX7_puts_74 : decode cX7_puts 74 = .ok (.bipush 20, 2) := by decide +kernel
theorem dX7_puts_76 : decode cX7_puts 76 = .ok (.iadd, 1) := by decide +kernel
theorem dX7_puts_77 : decode cX7_puts 77 = .ok (.iload_n 3, 1) := by decide +kernel
theorem dX7_puts_78 : decode cX7_puts 78 = .ok (.iastore, 1) := by decide +kernel
theorem dX7_puts_79 : decode cX7_puts 79 = .ok (.aload_n 0, 1) := by decide +kernel
theorem dX7_puts_80 : decode cX7_puts 80 = .ok (.getfield 7, 3) := by decide +kernel
theorem dX7_puts_83 : decode cX7_puts 83 = .ok (.iload 7, 2) := by decide +kernel
theorem dX7_puts_85 : decode cX7_puts 85 = .ok (.bipush 40, 2) := by decide +kernel
theorem dX7_puts_87 : decode cX7_puts 87 = .ok (.iadd, 1) := by decide +kernel
theorem dX7_puts_88 : decode cX7_puts 88 = .ok (.iload 4, 2) := by decide +kernel
theorem dX7_puts_90 : decode cX7_puts 90 = .ok (.iastore, 1) := by decide +kernel
theorem dX7_puts_91 : decode cX7_puts 91 = .ok (.aload_n 0, 1) := by decide +kernel
theorem dX7_puts_92 : decode cX7_puts 92 = .ok (.getfield 7, 3) := by decide +kernel
theorem dX7_puts_95 : decode cX7_puts 95 = .ok (.iload 7, 2) := by decide +kernel
theorem dX7_puts_97 : decode cX7_puts 97 = .ok (.bipush 60, 2) := by decide +kernel
theorem dX7_puts_99 : decode cX7_puts 99 = .ok (.iadd, 1) := by decide +kernel
theorem dX7_puts_100 : decode cX7_puts 100 = .ok (.iload 5, 2) := by decide +kernel
theorem dX7_puts_102 : decode cX7_puts 102 = .ok (.iastore, 1) := by decide +kernel
theorem dX7_puts_103 : decode cX7_puts 103 = .ok (.aload_n 0, 1) := by decide +kernel
theorem dX7_puts_104 : decode cX7_puts 104 = .ok (.getfield 7, 3) := by decide +kernel
theorem dX7_puts_107 : decode cX7_puts 107 = .ok (.iconst 3, 1) := by decide +kernel
theorem dX7_puts_108 : decode cX7_puts 108 = .ok (.iload_n 1, 1) := by decide +kernel
theorem dX7_puts_109 : decode cX7_puts 109 = .ok (.iadd, 1) := by decide +kernel
theorem dX7_puts_110 : decode cX7_puts 110 = .ok (.dup2, 1) := by decide +kernel
theorem dX7_puts_111 : decode cX7_puts 111 = .ok (.iaload, 1) := by decide +kernel
theorem dX7_puts_112 : decode cX7_puts 112 = .ok (.iconst 1, 1) := by decide +kernel
theorem dX7_puts_113 : decode cX7_puts 113 = .ok (.iadd, 1) := by decide +kernel
theorem dX7_puts_114 : decode cX7_puts 114 = .ok (.iastore, 1) := by decide +kernel
theorem dX7_puts_115 : decode cX7_puts 115 = .ok (.iload 6, 2) := by decide +kernel
theorem dX7_puts_117 : decode cX7_puts 117 = .ok (.ireturn, 1) := by decide +kernel
set_option maxRecDepth 20000 in
theorem ggX7_adds_X7_isTaken : GoodIn wsX7_adds wsX7_isTaken := goodIn_r _ [7, 8, 9, 10, 11, 6, 12, 31, 32, 33, 34, 35, 36, 37, 38, 39, 40, 41, 42, 43, 44, 45, 46, 47, 48, 49, 50, 51] (by decide +kernel) (by decide +kernel)
set_option maxRecDepth 20000 in
theorem gX7_adds_X7_isTaken : GoodIn wsX7_adds (wsV RX7 67 RX7 yX7_isTaken wsX7_isTaken) := goodIn_app (goodIn_of _ (by decide +kernel)) ggX7_adds_X7_isTaken
set_option maxRecDepth 20000 in
theorem ggX7_adds_X7_isFull : GoodIn wsX7_adds wsX7_isFull := goodIn_r _ [16, 8, 31, 32, 33, 34, 35, 36, 37, 38, 39, 40, 41, 42, 43, 44, 45, 46, 47, 48, 49, 50, 51] (by decide +kernel) (by decide +kernel)
set_option maxRecDepth 20000 in
theorem gX7_adds_X7_isFull : GoodIn wsX7_adds (wsV RX7 71 RX7 yX7_isFull wsX7_isFull) := goodIn_app (goodIn_of _ (by decide +kernel)) ggX7_adds_X7_isFull
set_option maxRecDepth 20000 in
theorem ggX7_adds_X7_records : GoodIn wsX7_adds wsX7_records := goodIn_r _ [20, 21, 22, 8, 31, 32, 33, 34, 35, 36, 37, 38, 39, 40, 41, 42, 43, 44, 45, 46, 47, 48, 49, 50, 51] (by decide +kernel) (by decide +kernel)
set_option maxRecDepth 20000 in
theorem gX7_adds_X7_records : GoodIn wsX7_adds (wsV RX7 56 RX7 yX7_records wsX7_records) := goodIn_app (goodIn_of _ (by decide +kernel)) ggX7_adds_X7_records
set_option maxRecDepth 20000 in
theorem ggX7_adds_X7_puts : GoodIn wsX7_adds wsX7_puts := goodIn_r _ [26, 8, 9, 10, 11, 6, 12, 27, 28, 29, 30, 31, 32, 33, 34, 35, 36, 37, 38, 39, 40, 41, 42, 43, 44, 45, 46, 47, 48, 49, 50, 51] (by decide +kernel) (by decide +kernel)
set_option maxRecDepth 20000 in
theorem gX7_adds_X7_puts : GoodIn wsX7_adds (wsV RX7 76 RX7 yX7_puts wsX7_puts) := goodIn_app (goodIn_of _ (by decide +kernel)) ggX7_adds_X7_puts
theorem dX7_adds_0 : decode cX7_adds 0 = .ok (.aload_n 0, 1) := by decide +kernel
theorem dX7_adds_1 : decode cX7_adds 1 = .ok (.iload_n 1, 1) := by decide +kernel
theorem dX7_adds_2 : decode cX7_adds 2 = .ok (.iload_n 2, 1) := by decide +kernel
theorem dX7_adds_3 : decode cX7_adds 3 = .ok (.invokevirtual 67, 3) := by decide +kernel
theorem dX7_adds_6 : decode cX7_adds 6 = .ok (.ifCond .eq 6, 3) := by decide +kernel
theorem dX7_adds_9 : decode cX7_adds 9 = .ok (.ldc 70, 2) := by decide +kernel
theorem dX7_adds_11 : decode cX7_adds 11 = .ok (.ireturn, 1) := by decide +kernel
theorem dX7_adds_12 : decode cX7_adds 12 = .ok (.aload_n 0, 1) := by decide +kernel
theorem dX7_adds_13 : decode cX7_adds 13 = .ok (.iload_n 1, 1) := by decide +kernel
theorem dX7_adds_14 : decode cX7_adds 14 = .ok (.invokevirtual 71, 3) := by decide +kernel
theorem dX7_adds_17 : decode cX7_adds 17 = .ok (.ifCond .eq 6, 3) := by decide +kernel
theorem dX7_adds_20 : decode cX7_adds 20 = .ok (.ldc 75, 2) := by decide +kernel
theorem dX7_adds_22 : decode cX7_adds 22 = .ok (.ireturn, 1) := by decide +kernel
theorem dX7_adds_23 : decode cX7_adds 23 = .ok (.aload_n 0, 1) := by decide +kernel
theorem dX7_adds_24 : decode cX7_adds 24 = .ok (.invokevirtual 56, 3) := by decide +kernel
theorem dX7_adds_27 : decode cX7_adds 27 = .ok (.aload_n 0, 1) := by decide +kernel
theorem dX7_adds_28 : decode cX7_adds 28 = .ok (.iload_n 1, 1) := by decide +kernel
theorem dX7_adds_29 : decode cX7_adds 29 = .ok (.iload_n 2, 1) := by decide +kernel
theorem dX7_adds_30 : decode cX7_adds 30 = .ok (.iload_n 3, 1) := by decide +kernel
theorem dX7_adds_31 : decode cX7_adds 31 = .ok (.iload 4, 2) := by decide +kernel
theorem dX7_adds_33 : decode cX7_adds 33 = .ok (.iload 5, 2) := by decide +kernel
theorem dX7_adds_35 : decode cX7_adds 35 = .ok (.invokevirtual 76, 3) := by decide +kernel
theorem dX7_adds_38 : decode cX7_adds 38 = .ok (.ireturn, 1) := by decide +kernel
set_option maxRecDepth 20000 in
theorem ggX7_base_X7_areValues : GoodIn wsX7_base wsX7_areValues := goodIn_r _ [5, 6, 7, 8, 9, 4, 10] (by decide +kernel) (by decide +kernel)
set_option maxRecDepth 20000 in
theorem gX7_base_X7_areValues : GoodIn wsX7_base (va_wsS RX7 80 yX7_areValues wsX7_areValues) := goodIn_app (goodIn_of _ (by decide +kernel)) ggX7_base_X7_areValues
set_option maxRecDepth 20000 in
theorem ggX7_base_X7_adds : GoodIn wsX7_base wsX7_adds := goodIn_r _ [14, 15, 16, 17, 18, 19, 4, 20, 21, 22, 23, 24, 25, 26, 27, 28, 29, 30, 31, 32, 33, 34, 35, 36, 37, 38, 39, 40, 41, 42, 43, 44, 45, 46, 47, 48, 49, 50, 51, 52, 53, 54, 55, 56, 57, 58, 59, 60, 61, 62, 63, 64] (by decide +kernel) (by decide +kernel)
set_option maxRecDepth 20000 in
theorem gX7_base_X7_adds : GoodIn wsX7_base (wsV RX7 83 RX7 yX7_adds wsX7_adds) := goodIn_app (goodIn_of _ (by decide +kernel)) ggX7_base_X7_adds
theorem dX7_base_0 : decode cX7_base 0 = .ok (.iload_n 1, 1) := by decide +kernel
theorem dX7_base_1 : decode cX7_base 1 = .ok (.iload_n 2, 1) := by decide +kernel
theorem dX7_base_2 : decode cX7_base 2 = .ok (.iload_n 3, 1) := by decide +kernel
theorem dX7_base_3 : decode cX7_base 3 = .ok (.invokestatic 80, 3) := by decide +kernel
theorem dX7_base_6 : decode cX7_base 6 = .ok (.ifCond .eq 15, 3) := by decide +kernel
theorem dX7_base_9 : decode cX7_base 9 = .ok (.aload_n 0, 1) := by decide +kernel
theorem dX7_base_10 : decode cX7_base 10 = .ok (.iconst 0, 1) := by decide +kernel
theorem dX7_base_11 : decode cX7_base 11 = .ok (.iload_n 1, 1) := by decide +kernel
theorem dX7_base_12 : decode cX7_base 12 = .ok (.iload_n 2, 1) := by decide +kernel
theorem dX7_base_13 : decode cX7_base 13 = .ok (.iload_n 3, 1) := by decide +kernel
theorem dX7_base_14 : decode cX7_base 14 = .ok (.iconst 0, 1) := by decide +kernel
theorem dX7_base_15 : decode cX7_base 15 = .ok (.invokevirtual 83, 3) := by decide +kernel
theorem dX7_base_18 : decode cX7_base 18 = .ok (.goto 5, 3) := by decide +kernel
theorem dX7_base_21 : decode cX7_base 21 = .ok (.ldc 55, 2) := by decide +kernel
theorem dX7_base_23 : decode cX7_base 23 = .ok (.ireturn, 1) := by decide +kernel
set_option maxRecDepth 20000 in
theorem ggX7_read_X7_isCell : GoodIn wsX7_read wsX7_isCell := goodIn_r _ [5, 6, 7, 4, 8] (by decide +kernel) (by decide +kernel)
set_option maxRecDepth 20000 in
theorem gX7_read_X7_isCell : GoodIn wsX7_read (va_wsS RX7 86 yX7_isCell wsX7_isCell) := goodIn_app (goodIn_of _ (by decide +kernel)) ggX7_read_X7_isCell
set_option maxRecDepth 20000 in
theorem ggX7_read_X7_in : GoodIn wsX7_read wsX7_in := goodIn_r _ [8] (by decide +kernel) (by decide +kernel)
set_option maxRecDepth 20000 in
theorem gX7_read_X7_in : GoodIn wsX7_read (va_wsS RX7 39 yX7_in wsX7_in) := goodIn_app (goodIn_of _ (by decide +kernel)) ggX7_read_X7_in
set_option maxRecDepth 20000 in
theorem ggX7_read_X7_areValues : GoodIn wsX7_read wsX7_areValues := goodIn_r _ [11, 12, 13, 6, 7, 4, 8] (by decide +kernel) (by decide +kernel)
set_option maxRecDepth 20000 in
theorem gX7_read_X7_areValues : GoodIn wsX7_read (va_wsS RX7 80 yX7_areValues wsX7_areValues) := goodIn_app (goodIn_of _ (by decide +kernel)) ggX7_read_X7_areValues
set_option maxRecDepth 20000 in
theorem ggX7_read_X7_adds : GoodIn wsX7_read wsX7_adds := goodIn_r _ [17, 18, 19, 20, 21, 22, 4, 23, 24, 25, 26, 27, 28, 29, 30, 31, 32, 33, 34, 35, 36, 37, 38, 39, 40, 41, 42, 43, 44, 45, 46, 47, 48, 49, 50, 51, 52, 53, 54, 55, 56, 57, 58, 59, 60, 61, 62, 63, 64, 65, 66, 67] (by decide +kernel) (by decide +kernel)
set_option maxRecDepth 20000 in
theorem gX7_read_X7_adds : GoodIn wsX7_read (wsV RX7 83 RX7 yX7_adds wsX7_adds) := goodIn_app (goodIn_of _ (by decide +kernel)) ggX7_read_X7_adds
theorem dX7_read_0 : decode cX7_read 0 = .ok (.iload_n 1, 1) := by decide +kernel
theorem dX7_read_1 : decode cX7_read 1 = .ok (.invokestatic 86, 3) := by decide +kernel
theorem dX7_read_4 : decode cX7_read 4 = .ok (.ifCond .eq 24, 3) := by decide +kernel
theorem dX7_read_7 : decode cX7_read 7 = .ok (.iload_n 2, 1) := by decide +kernel
theorem dX7_read_8 : decode cX7_read 8 = .ok (.iconst 0, 1) := by decide +kernel
theorem dX7_read_9 : decode cX7_read 9 = .ok (.bipush 9, 2) := by decide +kernel
theorem dX7_read_11 : decode cX7_read 11 = .ok (.invokestatic 39, 3) := by decide +kernel
theorem dX7_read_14 : decode cX7_read 14 = .ok (.ifCond .eq 14, 3) := by decide +kernel
theorem dX7_read_17 : decode cX7_read 17 = .ok (.iload_n 3, 1) := by decide +kernel
theorem dX7_read_18 : decode cX7_read 18 = .ok (.iload 4, 2) := by decide +kernel
theorem dX7_read_20 : decode cX7_read 20 = .ok (.iload 5, 2) := by decide +kernel
theorem dX7_read_22 : decode cX7_read 22 = .ok (.invokestatic 80, 3) := by decide +kernel
theorem dX7_read_25 : decode cX7_read 25 = .ok (.ifCond .ne 6, 3) := by decide +kernel
theorem dX7_read_28 : decode cX7_read 28 = .ok (.ldc 55, 2) := by decide +kernel
theorem dX7_read_30 : decode cX7_read 30 = .ok (.ireturn, 1) := by decide +kernel
theorem dX7_read_31 : decode cX7_read 31 = .ok (.aload_n 0, 1) := by decide +kernel
theorem dX7_read_32 : decode cX7_read 32 = .ok (.iload_n 1, 1) := by decide +kernel
theorem dX7_read_33 : decode cX7_read 33 = .ok (.iconst 1, 1) := by decide +kernel
theorem dX7_read_34 : decode cX7_read 34 = .ok (.iadd, 1) := by decide +kernel
theorem dX7_read_35 : decode cX7_read 35 = .ok (.iload_n 3, 1) := by decide +kernel
theorem dX7_read_36 : decode cX7_read 36 = .ok (.iload 4, 2) := by decide +kernel
theorem dX7_read_38 : decode cX7_read 38 = .ok (.iload 5, 2) := by decide +kernel
theorem dX7_read_40 : decode cX7_read 40 = .ok (.iload_n 2, 1) := by decide +kernel
theorem dX7_read_41 : decode cX7_read 41 = .ok (.invokevirtual 83, 3) := by decide +kernel
theorem dX7_read_44 : decode cX7_read 44 = .ok (.ireturn, 1) := by decide +kernel
set_option maxRecDepth 20000 in
theorem ggX7_drop_X7_isReading : GoodIn wsX7_drop wsX7_isReading := goodIn_r _ [7, 2, 8, 9, 6, 10, 25, 26, 27, 28, 29, 30, 31, 32, 33, 34, 35, 36, 37, 38, 39, 40, 41, 42, 43, 44, 45] (by decide +kernel) (by decide +kernel)
set_option maxRecDepth 20000 in
theorem gX7_drop_X7_isReading : GoodIn wsX7_drop (wsV RX7 89 RX7 yX7_isReading wsX7_isReading) := goodIn_app (goodIn_of _ (by decide +kernel)) ggX7_drop_X7_isReading
set_option maxRecDepth 20000 in
theorem ggX7_drop_X7_records : GoodIn wsX7_drop wsX7_records := goodIn_r _ [14, 15, 16, 2, 25, 26, 27, 28, 29, 30, 31, 32, 33, 34, 35, 36, 37, 38, 39, 40, 41, 42, 43, 44, 45] (by decide +kernel) (by decide +kernel)
set_option maxRecDepth 20000 in
theorem gX7_drop_X7_records : GoodIn wsX7_drop (wsV RX7 56 RX7 yX7_records wsX7_records) := goodIn_app (goodIn_of _ (by decide +kernel)) ggX7_drop_X7_records
set_option maxRecDepth 20000 in
theorem ggX7_drop_X7_moves : GoodIn wsX7_drop wsX7_moves := goodIn_r _ [20, 2, 21, 22, 23, 6, 24, 25, 26, 27, 28, 29, 30, 31, 32, 33, 34, 35, 36, 37, 38, 39, 40, 41, 42, 43, 44, 45] (by decide +kernel) (by decide +kernel)
set_option maxRecDepth 20000 in
theorem gX7_drop_X7_moves : GoodIn wsX7_drop (wsV RX7 63 RX7 yX7_moves wsX7_moves) := goodIn_app (goodIn_of _ (by decide +kernel)) ggX7_drop_X7_moves
theorem dX7_drop_0 : decode cX7_drop 0 = .ok (.aload_n 0, 1) := by decide +kernel
theorem dX7_drop_1 : decode cX7_drop 1 = .ok (.iload_n 1, 1) := by decide +kernel
theorem dX7_drop_2 : decode cX7_drop 2 = .ok (.iload_n 2, 1) := by decide +kernel
theorem dX7_drop_3 : decode cX7_drop 3 = .ok (.invokevirtual 89, 3) := by decide +kernel
theorem dX7_drop_6 : decode cX7_drop 6 = .ok (.ifCond .ne 6, 3) := by decide +kernel
theorem dX7_drop_9 : decode cX7_drop 9 = .ok (.ldc 55, 2) := by decide +kernel
theorem dX7_drop_11 : decode cX7_drop 11 = .ok (.ireturn, 1) := by decide +kernel
theorem dX7_drop_12 : decode cX7_drop 12 = .ok (.aload_n 0, 1) := by decide +kernel
theorem dX7_drop_13 : decode cX7_drop 13 = .ok (.invokevirtual 56, 3) := by decide +kernel
theorem dX7_drop_16 : decode cX7_drop 16 = .ok (.iload_n 1, 1) := by decide +kernel
theorem dX7_drop_17 : decode cX7_drop 17 = .ok (.iconst 1, 1) := by decide +kernel
theorem dX7_drop_18 : decode cX7_drop 18 = .ok (.iadd, 1) := by decide +kernel
theorem dX7_drop_19 : decode cX7_drop 19 = .ok (.istore_n 3, 1) := by decide +kernel
theorem dX7_drop_20 : decode cX7_drop 20 = .ok (.aload_n 0, 1) := by decide +kernel
theorem dX7_drop_21 : decode cX7_drop 21 = .ok (.getfield 7, 3) := by decide +kernel
theorem dX7_drop_24 : decode cX7_drop 24 = .ok (.iconst 3, 1) := by decide +kernel
theorem dX7_drop_25 : decode cX7_drop 25 = .ok (.iload_n 3, 1) := by decide +kernel
theorem dX7_drop_26 : decode cX7_drop 26 = .ok (.iadd, 1) := by decide +kernel
theorem dX7_drop_27 : decode cX7_drop 27 = .ok (.dup2, 1) := by decide +kernel
theorem dX7_drop_28 : decode cX7_drop 28 = .ok (.iaload, 1) := by decide +kernel
theorem dX7_drop_29 : decode cX7_drop 29 = .ok (.iconst 1, 1) := by decide +kernel
theorem dX7_drop_30 : decode cX7_drop 30 = .ok (.isub, 1) := by decide +kernel
theorem dX7_drop_31 : decode cX7_drop 31 = .ok (.iastore, 1) := by decide +kernel
theorem dX7_drop_32 : decode cX7_drop 32 = .ok (.iload_n 2, 1) := by decide +kernel
theorem dX7_drop_33 : decode cX7_drop 33 = .ok (.istore 4, 2) := by decide +kernel
theorem dX7_drop_35 : decode cX7_drop 35 = .ok (.iload 4, 2) := by decide +kernel
theorem dX7_drop_37 : decode cX7_drop 37 = .ok (.aload_n 0, 1) := by decide +kernel
theorem dX7_drop_38 : decode cX7_drop 38 = .ok (.getfield 7, 3) := by decide +kernel
theorem dX7_drop_41 : decode cX7_drop 41 = .ok (.iconst 3, 1) := by decide +kernel
theorem dX7_drop_42 : decode cX7_drop 42 = .ok (.iload_n 3, 1) := by decide +kernel
theorem dX7_drop_43 : decode cX7_drop 43 = .ok (.iadd, 1) := by decide +kernel
theorem dX7_drop_44 : decode cX7_drop 44 = .ok (.iaload, 1) := by decide +kernel
theorem dX7_drop_45 : decode cX7_drop 45 = .ok (.if_icmp .ge 20, 3) := by decide +kernel
theorem dX7_drop_48 : decode cX7_drop 48 = .ok (.aload_n 0, 1) := by decide +kernel
theorem dX7_drop_49 : decode cX7_drop 49 = .ok (.iload_n 3, 1) := by decide +kernel
theorem dX7_drop_50 : decode cX7_drop 50 = .ok (.iload 4, 2) := by decide +kernel
theorem dX7_drop_52 : decode cX7_drop 52 = .ok (.iconst 1, 1) := by decide +kernel
theorem dX7_drop_53 : decode cX7_drop 53 = .ok (.iadd, 1) := by decide +kernel
theorem dX7_drop_54 : decode cX7_drop 54 = .ok (.iload 4, 2) := by decide +kernel
theorem dX7_drop_56 : decode cX7_drop 56 = .ok (.invokevirtual 63, 3) := by decide +kernel
theorem dX7_drop_59 : decode cX7_drop 59 = .ok (.iinc 4 1, 3) := by decide +kernel
theorem dX7_drop_62 : decode cX7_drop 62 = .ok (.goto (-27), 3) := by decide +kernel
theorem dX7_drop_65 : decode cX7_drop 65 = .ok (.aload_n 0, 1) := by decide +kernel
theorem dX7_drop_66 : decode cX7_drop 66 = .ok (.getfield 7, 3) := by decide +kernel
theorem dX7_drop_69 : decode cX7_drop 69 = .ok (.iconst 3, 1) := by decide +kernel
theorem dX7_drop_70 : decode cX7_drop 70 = .ok (.iload_n 3, 1) := by decide +kernel
theorem dX7_drop_71 : decode cX7_drop 71 = .ok (.iadd, 1) := by decide +kernel
theorem dX7_drop_72 : decode cX7_drop 72 = .ok (.iaload, 1) := by decide +kernel
theorem dX7_drop_73 : decode cX7_drop 73 = .ok (.ireturn, 1) := by decide +kernel
set_option maxRecDepth 20000 in
theorem ggX7_isGust_X7_of : GoodIn wsX7_isGust wsX7_of := goodIn_r _ [6, 1, 7, 8, 9, 10, 11, 12, 13, 14, 15, 16, 17, 18, 19, 20, 21, 22, 23, 24, 25, 26, 27] (by decide +kernel) (by decide +kernel)
set_option maxRecDepth 20000 in
theorem gX7_isGust_X7_of : GoodIn wsX7_isGust (wsV RX7 59 RX7 yX7_of wsX7_of) := goodIn_app (goodIn_of _ (by decide +kernel)) ggX7_isGust_X7_of
theorem dX7_isGust_0 : decode cX7_isGust 0 = .ok (.iload_n 2, 1) := by decide +kernel
theorem dX7_isGust_1 : decode cX7_isGust 1 = .ok (.ifCond .eq 17, 3) := by decide +kernel
theorem dX7_isGust_4 : decode cX7_isGust 4 = .ok (.iload_n 2, 1) := by decide +kernel
theorem dX7_isGust_5 : decode cX7_isGust 5 = .ok (.iconst 1, 1) := by decide +kernel
theorem dX7_isGust_6 : decode cX7_isGust 6 = .ok (.iadd, 1) := by decide +kernel
theorem dX7_isGust_7 : decode cX7_isGust 7 = .ok (.aload_n 0, 1) := by decide +kernel
theorem dX7_isGust_8 : decode cX7_isGust 8 = .ok (.getfield 7, 3) := by decide +kernel
theorem dX7_isGust_11 : decode cX7_isGust 11 = .ok (.iconst 3, 1) := by decide +kernel
theorem dX7_isGust_12 : decode cX7_isGust 12 = .ok (.iload_n 1, 1) := by decide +kernel
theorem dX7_isGust_13 : decode cX7_isGust 13 = .ok (.iadd, 1) := by decide +kernel
theorem dX7_isGust_14 : decode cX7_isGust 14 = .ok (.iaload, 1) := by decide +kernel
theorem dX7_isGust_15 : decode cX7_isGust 15 = .ok (.if_icmp .lt 5, 3) := by decide +kernel
theorem dX7_isGust_18 : decode cX7_isGust 18 = .ok (.iconst 0, 1) := by decide +kernel
theorem dX7_isGust_19 : decode cX7_isGust 19 = .ok (.ireturn, 1) := by decide +kernel
theorem dX7_isGust_20 : decode cX7_isGust 20 = .ok (.aload_n 0, 1) := by decide +kernel
theorem dX7_isGust_21 : decode cX7_isGust 21 = .ok (.iload_n 1, 1) := by decide +kernel
theorem dX7_isGust_22 : decode cX7_isGust 22 = .ok (.bipush 20, 2) := by decide +kernel
theorem dX7_isGust_24 : decode cX7_isGust 24 = .ok (.iload_n 2, 1) := by decide +kernel
theorem dX7_isGust_25 : decode cX7_isGust 25 = .ok (.invokevirtual 59, 3) := by decide +kernel
theorem dX7_isGust_28 : decode cX7_isGust 28 = .ok (.istore_n 3, 1) := by decide +kernel
theorem dX7_isGust_29 : decode cX7_isGust 29 = .ok (.iload_n 3, 1) := by decide +kernel
theorem dX7_isGust_30 : decode cX7_isGust 30 = .ok (.aload_n 0, 1) := by decide +kernel
theorem dX7_isGust_31 : decode cX7_isGust 31 = .ok (.iload_n 1, 1) := by decide +kernel
theorem dX7_isGust_32 : decode cX7_isGust 32 = .ok (.bipush 20, 2) := by decide +kernel
theorem dX7_isGust_34 : decode cX7_isGust 34 = .ok (.iload_n 2, 1) := by decide +kernel
theorem dX7_isGust_35 : decode cX7_isGust 35 = .ok (.iconst 1, 1) := by decide +kernel
theorem dX7_isGust_36 : decode cX7_isGust 36 = .ok (.isub, 1) := by decide +kernel
theorem dX7_isGust_37 : decode cX7_isGust 37 = .ok (.invokevirtual 59, 3) := by decide +kernel
theorem dX7_isGust_40 : decode cX7_isGust 40 = .ok (.isub, 1) := by decide +kernel
theorem dX7_isGust_41 : decode cX7_isGust 41 = .ok (.istore 4, 2) := by decide +kernel
theorem dX7_isGust_43 : decode cX7_isGust 43 = .ok (.iload_n 3, 1) := by decide +kernel
theorem dX7_isGust_44 : decode cX7_isGust 44 = .ok (.aload_n 0, 1) := by decide +kernel
theorem dX7_isGust_45 : decode cX7_isGust 45 = .ok (.iload_n 1, 1) := by decide +kernel
theorem dX7_isGust_46 : decode cX7_isGust 46 = .ok (.bipush 20, 2) := by decide +kernel
theorem dX7_isGust_48 : decode cX7_isGust 48 = .ok (.iload_n 2, 1) := by decide +kernel
theorem dX7_isGust_49 : decode cX7_isGust 49 = .ok (.iconst 1, 1) := by decide +kernel
theorem dX7_isGust_50 : decode cX7_isGust 50 = .ok (.iadd, 1) := by decide +kernel
theorem dX7_isGust_51 : decode cX7_isGust 51 = .ok (.invokevirtual 59, 3) := by decide +kernel
theorem dX7_isGust_54 : decode cX7_isGust 54 = .ok (.isub, 1) := by decide +kernel
theorem dX7_isGust_55 : decode cX7_isGust 55 = .ok (.istore 5, 2) := by decide +kernel
theorem dX7_isGust_57 : decode cX7_isGust 57 = .ok (.iload 4, 2) := by decide +kernel
theorem dX7_isGust_59 : decode cX7_isGust 59 = .ok (.aload_n 0, 1) := by decide +kernel
theorem dX7_isGust_60 : decode cX7_isGust 60 = .ok (.getfield 7, 3) := by decide +kernel
theorem dX7_isGust_63 : decode cX7_isGust 63 = .ok (.iconst 1, 1) := by decide +kernel
theorem dX7_isGust_64 : decode cX7_isGust 64 = .ok (.iaload, 1) := by decide +kernel
theorem dX7_isGust_65 : decode cX7_isGust 65 = .ok (.if_icmp .le 14, 3) := by decide +kernel
theorem dX7_isGust_68 : decode cX7_isGust 68 = .ok (.iload 5, 2) := by decide +kernel
theorem dX7_isGust_70 : decode cX7_isGust 70 = .ok (.aload_n 0, 1) := by decide +kernel
theorem dX7_isGust_71 : decode cX7_isGust 71 = .ok (.getfield 7, 3) := by decide +kernel
theorem dX7_isGust_74 : decode cX7_isGust 74 = .ok (.iconst 1, 1) := by decide +kernel
theorem dX7_isGust_75 : decode cX7_isGust 75 = .ok (.iaload, 1) := by decide +kernel
theorem dX7_isGust_76 : decode cX7_isGust 76 = .ok (.if_icmp .gt 27, 3) := by decide +kernel
theorem dX7_isGust_79 : decode cX7_isGust 79 = .ok (.iload 4, 2) := by decide +kernel
theorem dX7_isGust_81 : decode cX7_isGust 81 = .ok (.aload_n 0, 1) := by decide +kernel
theorem dX7_isGust_82 : decode cX7_isGust 82 = .ok (.getfield 7, 3) := by decide +kernel
theorem dX7_isGust_85 : decode cX7_isGust 85 = .ok (.iconst 1, 1) := by decide +kernel
theorem dX7_isGust_86 : decode cX7_isGust 86 = .ok (.iaload, 1) := by decide +kernel
theorem dX7_isGust_87 : decode cX7_isGust 87 = .ok (.ineg, 1) := by decide +kernel
theorem dX7_isGust_88 : decode cX7_isGust 88 = .ok (.if_icmp .ge 19, 3) := by decide +kernel
theorem dX7_isGust_91 : decode cX7_isGust 91 = .ok (.iload 5, 2) := by decide +kernel
theorem dX7_isGust_93 : decode cX7_isGust 93 = .ok (.aload_n 0, 1) := by decide +kernel
theorem dX7_isGust_94 : decode cX7_isGust 94 = .ok (.getfield 7, 3) := by decide +kernel
theorem dX7_isGust_97 : decode cX7_isGust 97 = .ok (.iconst 1, 1) := by decide +kernel
theorem dX7_isGust_98 : decode cX7_isGust 98 = .ok (.iaload, 1) := by decide +kernel
theorem dX7_isGust_99 : decode cX7_isGust 99 = .ok (.ineg, 1) := by decide +kernel
theorem dX7_isGust_100 : decode cX7_isGust 100 = .ok (.if_icmp .ge 7, 3) := by decide +kernel
theorem dX7_isGust_103 : decode cX7_isGust 103 = .ok (.iconst 1, 1) := by decide +kernel
theorem dX7_isGust_104 : decode cX7_isGust 104 = .ok (.goto 4, 3) := by decide +kernel
theorem dX7_isGust_107 : decode cX7_isGust 107 = .ok (.iconst 0, 1) := by decide +kernel
theorem dX7_isGust_108 : decode cX7_isGust 108 = .ok (.ireturn, 1) := by decide +kernel
set_option maxRecDepth 20000 in
theorem ggX7_reading_X7_isReading : GoodIn wsX7_reading wsX7_isReading := goodIn_r _ [8, 9, 10, 11, 7, 12, 48, 49, 50, 51, 52, 53, 54, 55, 56, 57, 58, 59, 60, 61, 62, 63, 64, 65, 66, 67, 68] (by decide +kernel) (by decide +kernel)
set_option maxRecDepth 20000 in
theorem gX7_reading_X7_isReading : GoodIn wsX7_reading (wsV RX7 89 RX7 yX7_isReading wsX7_isReading) := goodIn_app (goodIn_of _ (by decide +kernel)) ggX7_reading_X7_isReading
set_option maxRecDepth 20000 in
theorem ggX7_reading_X7_in : GoodIn wsX7_reading wsX7_in := goodIn_r _ [12] (by decide +kernel) (by decide +kernel)
set_option maxRecDepth 20000 in
theorem gX7_reading_X7_in : GoodIn wsX7_reading (va_wsS RX7 39 yX7_in wsX7_in) := goodIn_app (goodIn_of _ (by decide +kernel)) ggX7_reading_X7_in
set_option maxRecDepth 20000 in
theorem ggX7_reading_X7_isGust : GoodIn wsX7_reading wsX7_isGust := goodIn_r _ [16, 9, 17, 18, 19, 7, 20, 48, 49, 50, 51, 52, 53, 54, 55, 56, 57, 58, 59, 60, 61, 62, 63, 64, 65, 66, 67, 68] (by decide +kernel) (by decide +kernel)
set_option maxRecDepth 20000 in
theorem gX7_reading_X7_isGust : GoodIn wsX7_reading (wsV RX7 93 RX7 yX7_isGust wsX7_isGust) := goodIn_app (goodIn_of _ (by decide +kernel)) ggX7_reading_X7_isGust
set_option maxRecDepth 20000 in
theorem ggX7_reading_X7_looks : GoodIn wsX7_reading wsX7_looks := goodIn_r _ [24, 25, 9, 3, 26, 27, 28, 13, 14, 15, 7, 16, 17, 18, 19, 20, 29, 30, 31, 32, 33, 34, 35, 36, 37, 38, 39, 40, 41, 42, 43, 44, 45, 46, 47, 48, 49, 50, 51, 52, 53, 54, 55, 56, 57, 58, 59, 60, 61, 62, 63, 64, 65, 66, 67, 68] (by decide +kernel) (by decide +kernel)
set_option maxRecDepth 20000 in
theorem gX7_reading_X7_looks : GoodIn wsX7_reading (wsV RX7 96 RX7 yX7_looks wsX7_looks) := goodIn_app (goodIn_of _ (by decide +kernel)) ggX7_reading_X7_looks
set_option maxRecDepth 20000 in
theorem ggX7_reading_X7_of : GoodIn wsX7_reading wsX7_of := goodIn_r _ [20, 9, 48, 49, 50, 51, 52, 53, 54, 55, 56, 57, 58, 59, 60, 61, 62, 63, 64, 65, 66, 67, 68] (by decide +kernel) (by decide +kernel)
set_option maxRecDepth 20000 in
theorem gX7_reading_X7_of : GoodIn wsX7_reading (wsV RX7 59 RX7 yX7_of wsX7_of) := goodIn_app (goodIn_of _ (by decide +kernel)) ggX7_reading_X7_of
theorem dX7_reading_0 : decode cX7_reading 0 = .ok (.aload_n 0, 1) := by decide +kernel
theorem dX7_reading_1 : decode cX7_reading 1 = .ok (.iload_n 1, 1) := by decide +kernel
theorem dX7_reading_2 : decode cX7_reading 2 = .ok (.iload_n 2, 1) := by decide +kernel
theorem dX7_reading_3 : decode cX7_reading 3 = .ok (.invokevirtual 89, 3) := by decide +kernel
theorem dX7_reading_6 : decode cX7_reading 6 = .ok (.ifCond .eq 12, 3) := by decide +kernel
theorem dX7_reading_9 : decode cX7_reading 9 = .ok (.iload_n 3, 1) := by decide +kernel
theorem dX7_reading_10 : decode cX7_reading 10 = .ok (.iconst 0, 1) := by decide +kernel
theorem dX7_reading_11 : decode cX7_reading 11 = .ok (.iconst 5, 1) := by decide +kernel
theorem dX7_reading_12 : decode cX7_reading 12 = .ok (.invokestatic 39, 3) := by decide +kernel
theorem dX7_reading_15 : decode cX7_reading 15 = .ok (.ifCond .ne 6, 3) := by decide +kernel
theorem dX7_reading_18 : decode cX7_reading 18 = .ok (.ldc 55, 2) := by decide +kernel
theorem dX7_reading_20 : decode cX7_reading 20 = .ok (.ireturn, 1) := by decide +kernel
theorem dX7_reading_21 : decode cX7_reading 21 = .ok (.iload_n 1, 1) := by decide +kernel
theorem dX7_reading_22 : decode cX7_reading 22 = .ok (.iconst 1, 1) := by decide +kernel
theorem dX7_reading_23 : decode cX7_reading 23 = .ok (.iadd, 1) := by decide +kernel
theorem dX7_reading_24 : decode cX7_reading 24 = .ok (.istore 4, 2) := by decide +kernel
theorem dX7_reading_26 : decode cX7_reading 26 = .ok (.iload 4, 2) := by decide +kernel
theorem dX7_reading_28 : decode cX7_reading 28 = .ok (.ifCond .ne 11, 3) := by decide +kernel
theorem dX7_reading_31 : decode cX7_reading 31 = .ok (.iload_n 3, 1) := by decide +kernel
theorem dX7_reading_32 : decode cX7_reading 32 = .ok (.iconst 2, 1) := by decide +kernel
theorem dX7_reading_33 : decode cX7_reading 33 = .ok (.if_icmp .le 6, 3) := by decide +kernel
theorem dX7_reading_36 : decode cX7_reading 36 = .ok (.ldc 92, 2) := by decide +kernel
theorem dX7_reading_38 : decode cX7_reading 38 = .ok (.ireturn, 1) := by decide +kernel
theorem dX7_reading_39 : decode cX7_reading 39 = .ok (.iload_n 3, 1) := by decide +kernel
theorem dX7_reading_40 : decode cX7_reading 40 = .ok (.iconst 4, 1) := by decide +kernel
theorem dX7_reading_41 : decode cX7_reading 41 = .ok (.if_icmp .ne 19, 3) := by decide +kernel
theorem dX7_reading_44 : decode cX7_reading 44 = .ok (.aload_n 0, 1) := by decide +kernel
theorem dX7_reading_45 : decode cX7_reading 45 = .ok (.iload 4, 2) := by decide +kernel
theorem dX7_reading_47 : decode cX7_reading 47 = .ok (.iload_n 2, 1) := by decide +kernel
theorem dX7_reading_48 : decode cX7_reading 48 = .ok (.invokevirtual 93, 3) := by decide +kernel
theorem dX7_reading_51 : decode cX7_reading 51 = .ok (.ifCond .eq 7, 3) := by decide +kernel
theorem dX7_reading_54 : decode cX7_reading 54 = .ok (.iconst 1, 1) := by decide +kernel
theorem dX7_reading_55 : decode cX7_reading 55 = .ok (.goto 4, 3) := by decide +kernel
theorem dX7_reading_58 : decode cX7_reading 58 = .ok (.iconst 0, 1) := by decide +kernel
theorem dX7_reading_59 : decode cX7_reading 59 = .ok (.ireturn, 1) := by decide +kernel
theorem dX7_reading_60 : decode cX7_reading 60 = .ok (.iload_n 3, 1) := by decide +kernel
theorem dX7_reading_61 : decode cX7_reading 61 = .ok (.iconst 5, 1) := by decide +kernel
theorem dX7_reading_62 : decode cX7_reading 62 = .ok (.if_icmp .ne 24, 3) := by decide +kernel
theorem dX7_reading_65 : decode cX7_reading 65 = .ok (.aload_n 0, 1) := by decide +kernel
theorem dX7_reading_66 : decode cX7_reading 66 = .ok (.iload 4, 2) := by decide +kernel
theorem dX7_reading_68 : decode cX7_reading 68 = .ok (.invokevirtual 96, 3) := by decide +kernel
theorem dX7_reading_71 : decode cX7_reading 71 = .ok (.aload_n 0, 1) := by decide +kernel
theorem dX7_reading_72 : decode cX7_reading 72 = .ok (.getfield 29, 3) := by decide +kernel
theorem dX7_reading_75 : decode cX7_reading 75 = .ok (.iload_n 2, 1) := by decide +kernel
theorem dX7_reading_76 : decode cX7_reading 76 = .ok (.baload, 1) := by decide +kernel
theorem dX7_reading_77 : decode cX7_reading 77 = .ok (.ifCond .eq 7, 3) := by decide +kernel
theorem dX7_reading_80 : decode cX7_reading 80 = .ok (.iconst 1, 1) := by decide +kernel
theorem dX7_reading_81 : decode cX7_reading 81 = .ok (.goto 4, 3) := by decide +kernel
theorem dX7_reading_84 : decode cX7_reading 84 = .ok (.iconst 0, 1) := by decide +kernel
theorem dX7_reading_85 : decode cX7_reading 85 = .ok (.ireturn, 1) := by decide +kernel
theorem dX7_reading_86 : decode cX7_reading 86 = .ok (.aload_n 0, 1) := by decide +kernel
theorem dX7_reading_87 : decode cX7_reading 87 = .ok (.iload 4, 2) := by decide +kernel
theorem dX7_reading_89 : decode cX7_reading 89 = .ok (.bipush 20, 2) := by decide +kernel
theorem dX7_reading_91 : decode cX7_reading 91 = .ok (.iload_n 3, 1) := by decide +kernel
theorem dX7_reading_92 : decode cX7_reading 92 = .ok (.imul, 1) := by decide +kernel
theorem dX7_reading_93 : decode cX7_reading 93 = .ok (.iload_n 2, 1) := by decide +kernel
theorem dX7_reading_94 : decode cX7_reading 94 = .ok (.invokevirtual 59, 3) := by decide +kernel
theorem dX7_reading_97 : decode cX7_reading 97 = .ok (.ireturn, 1) := by decide +kernel
set_option maxRecDepth 20000 in
theorem ggX7_stepsTo_X7_of : GoodIn wsX7_stepsTo wsX7_of := goodIn_r _ [6, 1, 7, 8, 9, 10, 11, 12, 13, 14, 15, 16, 17, 18, 19, 20, 21, 22, 23, 24, 25, 26, 27] (by decide +kernel) (by decide +kernel)
set_option maxRecDepth 20000 in
theorem gX7_stepsTo_X7_of : GoodIn wsX7_stepsTo (wsV RX7 59 RX7 yX7_of wsX7_of) := goodIn_app (goodIn_of _ (by decide +kernel)) ggX7_stepsTo_X7_of
theorem dX7_stepsTo_0 : decode cX7_stepsTo 0 = .ok (.iload_n 1, 1) := by decide +kernel
theorem dX7_stepsTo_1 : decode cX7_stepsTo 1 = .ok (.istore_n 2, 1) := by decide +kernel
theorem dX7_stepsTo_2 : decode cX7_stepsTo 2 = .ok (.iconst 1, 1) := by decide +kernel
theorem dX7_stepsTo_3 : decode cX7_stepsTo 3 = .ok (.istore_n 3, 1) := by decide +kernel
theorem dX7_stepsTo_4 : decode cX7_stepsTo 4 = .ok (.iload_n 3, 1) := by decide +kernel
theorem dX7_stepsTo_5 : decode cX7_stepsTo 5 = .ok (.aload_n 0, 1) := by decide +kernel
theorem dX7_stepsTo_6 : decode cX7_stepsTo 6 = .ok (.getfield 7, 3) := by decide +kernel
theorem dX7_stepsTo_9 : decode cX7_stepsTo 9 = .ok (.iconst 3, 1) := by decide +kernel
theorem dX7_stepsTo_10 : decode cX7_stepsTo 10 = .ok (.iaload, 1) := by decide +kernel
theorem dX7_stepsTo_11 : decode cX7_stepsTo 11 = .ok (.if_icmp .ge 62, 3) := by decide +kernel
theorem dX7_stepsTo_14 : decode cX7_stepsTo 14 = .ok (.aload_n 0, 1) := by decide +kernel
theorem dX7_stepsTo_15 : decode cX7_stepsTo 15 = .ok (.iconst 0, 1) := by decide +kernel
theorem dX7_stepsTo_16 : decode cX7_stepsTo 16 = .ok (.bipush 40, 2) := by decide +kernel
theorem dX7_stepsTo_18 : decode cX7_stepsTo 18 = .ok (.iload_n 3, 1) := by decide +kernel
theorem dX7_stepsTo_19 : decode cX7_stepsTo 19 = .ok (.invokevirtual 59, 3) := by decide +kernel
theorem dX7_stepsTo_22 : decode cX7_stepsTo 22 = .ok (.aload_n 0, 1) := by decide +kernel
theorem dX7_stepsTo_23 : decode cX7_stepsTo 23 = .ok (.iconst 0, 1) := by decide +kernel
theorem dX7_stepsTo_24 : decode cX7_stepsTo 24 = .ok (.bipush 40, 2) := by decide +kernel
theorem dX7_stepsTo_26 : decode cX7_stepsTo 26 = .ok (.iload_n 3, 1) := by decide +kernel
theorem dX7_stepsTo_27 : decode cX7_stepsTo 27 = .ok (.iconst 1, 1) := by decide +kernel
theorem dX7_stepsTo_28 : decode cX7_stepsTo 28 = .ok (.isub, 1) := by decide +kernel
theorem dX7_stepsTo_29 : decode cX7_stepsTo 29 = .ok (.invokevirtual 59, 3) := by decide +kernel
theorem dX7_stepsTo_32 : decode cX7_stepsTo 32 = .ok (.isub, 1) := by decide +kernel
theorem dX7_stepsTo_33 : decode cX7_stepsTo 33 = .ok (.istore 4, 2) := by decide +kernel
theorem dX7_stepsTo_35 : decode cX7_stepsTo 35 = .ok (.iload 4, 2) := by decide +kernel
theorem dX7_stepsTo_37 : decode cX7_stepsTo 37 = .ok (.aload_n 0, 1) := by decide +kernel
theorem dX7_stepsTo_38 : decode cX7_stepsTo 38 = .ok (.getfield 7, 3) := by decide +kernel
theorem dX7_stepsTo_41 : decode cX7_stepsTo 41 = .ok (.iconst 2, 1) := by decide +kernel
theorem dX7_stepsTo_42 : decode cX7_stepsTo 42 = .ok (.iaload, 1) := by decide +kernel
theorem dX7_stepsTo_43 : decode cX7_stepsTo 43 = .ok (.if_icmp .ge 15, 3) := by decide +kernel
theorem dX7_stepsTo_46 : decode cX7_stepsTo 46 = .ok (.iload 4, 2) := by decide +kernel
theorem dX7_stepsTo_48 : decode cX7_stepsTo 48 = .ok (.aload_n 0, 1) := by decide +kernel
theorem dX7_stepsTo_49 : decode cX7_stepsTo 49 = .ok (.getfield 7, 3) := by decide +kernel
theorem dX7_stepsTo_52 : decode cX7_stepsTo 52 = .ok (.iconst 2, 1) := by decide +kernel
theorem dX7_stepsTo_53 : decode cX7_stepsTo 53 = .ok (.iaload, 1) := by decide +kernel
theorem dX7_stepsTo_54 : decode cX7_stepsTo 54 = .ok (.ineg, 1) := by decide +kernel
theorem dX7_stepsTo_55 : decode cX7_stepsTo 55 = .ok (.if_icmp .gt 12, 3) := by decide +kernel
theorem dX7_stepsTo_58 : decode cX7_stepsTo 58 = .ok (.iload_n 2, 1) := by decide +kernel
theorem dX7_stepsTo_59 : decode cX7_stepsTo 59 = .ok (.ifCond .ne 5, 3) := by decide +kernel
theorem dX7_stepsTo_62 : decode cX7_stepsTo 62 = .ok (.iload_n 3, 1) := by decide +kernel
theorem dX7_stepsTo_63 : decode cX7_stepsTo 63 = .ok (.ireturn, 1) := by decide +kernel
theorem dX7_stepsTo_64 : decode cX7_stepsTo 64 = .ok (.iinc 2 (-1), 3) := by decide +kernel
theorem dX7_stepsTo_67 : decode cX7_stepsTo 67 = .ok (.iinc 3 1, 3) := by decide +kernel
theorem dX7_stepsTo_70 : decode cX7_stepsTo 70 = .ok (.goto (-66), 3) := by decide +kernel
theorem dX7_stepsTo_73 : decode cX7_stepsTo 73 = .ok (.iconst (-1), 1) := by decide +kernel
theorem dX7_stepsTo_74 : decode cX7_stepsTo 74 = .ok (.ireturn, 1) := by decide +kernel
set_option maxRecDepth 20000 in
theorem ggX7_steps_X7_stepsTo : GoodIn wsX7_steps wsX7_stepsTo := goodIn_r _ [5, 6, 7, 8, 9, 4, 10, 11, 12, 13, 14, 15, 16, 17, 18, 19, 20, 21, 22, 23, 24, 25, 26, 27, 28, 29, 30, 31] (by decide +kernel) (by decide +kernel)
set_option maxRecDepth 20000 in
theorem gX7_steps_X7_stepsTo : GoodIn wsX7_steps (wsV RX7 100 RX7 yX7_stepsTo wsX7_stepsTo) := goodIn_app (goodIn_of _ (by decide +kernel)) ggX7_steps_X7_stepsTo
theorem dX7_steps_0 : decode cX7_steps 0 = .ok (.iconst 0, 1) := by decide +kernel
theorem dX7_steps_1 : decode cX7_steps 1 = .ok (.istore_n 1, 1) := by decide +kernel
theorem dX7_steps_2 : decode cX7_steps 2 = .ok (.aload_n 0, 1) := by decide +kernel
theorem dX7_steps_3 : decode cX7_steps 3 = .ok (.iload_n 1, 1) := by decide +kernel
theorem dX7_steps_4 : decode cX7_steps 4 = .ok (.invokevirtual 100, 3) := by decide +kernel
theorem dX7_steps_7 : decode cX7_steps 7 = .ok (.iconst (-1), 1) := by decide +kernel
theorem dX7_steps_8 : decode cX7_steps 8 = .ok (.if_icmp .eq 9, 3) := by decide +kernel
theorem dX7_steps_11 : decode cX7_steps 11 = .ok (.iinc 1 1, 3) := by decide +kernel
theorem dX7_steps_14 : decode cX7_steps 14 = .ok (.goto (-12), 3) := by decide +kernel
theorem dX7_steps_17 : decode cX7_steps 17 = .ok (.iload_n 1, 1) := by decide +kernel
theorem dX7_steps_18 : decode cX7_steps 18 = .ok (.ireturn, 1) := by decide +kernel
set_option maxRecDepth 20000 in
theorem ggX7_inAll_X7_looks : GoodIn wsX7_inAll wsX7_looks := goodIn_r _ [8, 1, 2, 3, 9, 10, 11, 12, 13, 14, 7, 15, 16, 17, 18, 19, 20, 21, 22, 23, 24, 25, 26, 27, 28, 29, 30, 31, 32, 33, 34, 35, 36, 37, 38, 39, 40, 41, 42, 43, 44, 45, 46, 47, 48, 49, 50, 51, 52, 53, 54, 55, 56, 57, 58, 59] (by decide +kernel) (by decide +kernel)
set_option maxRecDepth 20000 in
theorem gX7_inAll_X7_looks : GoodIn wsX7_inAll (wsV RX7 96 RX7 yX7_looks wsX7_looks) := goodIn_app (goodIn_of _ (by decide +kernel)) ggX7_inAll_X7_looks
set_option maxRecDepth 20000 in
theorem ggX7_inAll_X7_isGust : GoodIn wsX7_inAll wsX7_isGust := goodIn_r _ [15, 2, 16, 17, 18, 7, 19, 39, 40, 41, 42, 43, 44, 45, 46, 47, 48, 49, 50, 51, 52, 53, 54, 55, 56, 57, 58, 59] (by decide +kernel) (by decide +kernel)
set_option maxRecDepth 20000 in
theorem gX7_inAll_X7_isGust : GoodIn wsX7_inAll (wsV RX7 93 RX7 yX7_isGust wsX7_isGust) := goodIn_app (goodIn_of _ (by decide +kernel)) ggX7_inAll_X7_isGust
theorem dX7_inAll_0 : decode cX7_inAll 0 = .ok (.iconst 0, 1) := by decide +kernel
theorem dX7_inAll_1 : decode cX7_inAll 1 = .ok (.istore_n 2, 1) := by decide +kernel
theorem dX7_inAll_2 : decode cX7_inAll 2 = .ok (.iconst 1, 1) := by decide +kernel
theorem dX7_inAll_3 : decode cX7_inAll 3 = .ok (.istore_n 3, 1) := by decide +kernel
theorem dX7_inAll_4 : decode cX7_inAll 4 = .ok (.iload_n 3, 1) := by decide +kernel
theorem dX7_inAll_5 : decode cX7_inAll 5 = .ok (.iconst 4, 1) := by decide +kernel
theorem dX7_inAll_6 : decode cX7_inAll 6 = .ok (.if_icmp .ge 89, 3) := by decide +kernel
theorem dX7_inAll_9 : decode cX7_inAll 9 = .ok (.aload_n 0, 1) := by decide +kernel
theorem dX7_inAll_10 : decode cX7_inAll 10 = .ok (.iload_n 3, 1) := by decide +kernel
theorem dX7_inAll_11 : decode cX7_inAll 11 = .ok (.invokevirtual 96, 3) := by decide +kernel
theorem dX7_inAll_14 : decode cX7_inAll 14 = .ok (.iload_n 2, 1) := by decide +kernel
theorem dX7_inAll_15 : decode cX7_inAll 15 = .ok (.iload_n 1, 1) := by decide +kernel
theorem dX7_inAll_16 : decode cX7_inAll 16 = .ok (.iconst 1, 1) := by decide +kernel
theorem dX7_inAll_17 : decode cX7_inAll 17 = .ok (.if_icmp .ne 10, 3) := by decide +kernel
theorem dX7_inAll_20 : decode cX7_inAll 20 = .ok (.aload_n 0, 1) := by decide +kernel
theorem dX7_inAll_21 : decode cX7_inAll 21 = .ok (.getfield 104, 3) := by decide +kernel
theorem dX7_inAll_24 : decode cX7_inAll 24 = .ok (.goto 4, 3) := by decide +kernel
theorem dX7_inAll_27 : decode cX7_inAll 27 = .ok (.iconst 0, 1) := by decide +kernel
theorem dX7_inAll_28 : decode cX7_inAll 28 = .ok (.iadd, 1) := by decide +kernel
theorem dX7_inAll_29 : decode cX7_inAll 29 = .ok (.istore_n 2, 1) := by decide +kernel
theorem dX7_inAll_30 : decode cX7_inAll 30 = .ok (.iconst 0, 1) := by decide +kernel
theorem dX7_inAll_31 : decode cX7_inAll 31 = .ok (.istore 4, 2) := by decide +kernel
theorem dX7_inAll_33 : decode cX7_inAll 33 = .ok (.iload 4, 2) := by decide +kernel
theorem dX7_inAll_35 : decode cX7_inAll 35 = .ok (.aload_n 0, 1) := by decide +kernel
theorem dX7_inAll_36 : decode cX7_inAll 36 = .ok (.getfield 7, 3) := by decide +kernel
theorem dX7_inAll_39 : decode cX7_inAll 39 = .ok (.iconst 3, 1) := by decide +kernel
theorem dX7_inAll_40 : decode cX7_inAll 40 = .ok (.iload_n 3, 1) := by decide +kernel
theorem dX7_inAll_41 : decode cX7_inAll 41 = .ok (.iadd, 1) := by decide +kernel
theorem dX7_inAll_42 : decode cX7_inAll 42 = .ok (.iaload, 1) := by decide +kernel
theorem dX7_inAll_43 : decode cX7_inAll 43 = .ok (.if_icmp .ge 46, 3) := by decide +kernel
theorem dX7_inAll_46 : decode cX7_inAll 46 = .ok (.iload_n 2, 1) := by decide +kernel
theorem dX7_inAll_47 : decode cX7_inAll 47 = .ok (.iload_n 1, 1) := by decide +kernel
theorem dX7_inAll_48 : decode cX7_inAll 48 = .ok (.ifCond .ne 13, 3) := by decide +kernel
theorem dX7_inAll_51 : decode cX7_inAll 51 = .ok (.aload_n 0, 1) := by decide +kernel
theorem dX7_inAll_52 : decode cX7_inAll 52 = .ok (.iload_n 3, 1) := by decide +kernel
theorem dX7_inAll_53 : decode cX7_inAll 53 = .ok (.iload 4, 2) := by decide +kernel
theorem dX7_inAll_55 : decode cX7_inAll 55 = .ok (.invokevirtual 93, 3) := by decide +kernel
theorem dX7_inAll_58 : decode cX7_inAll 58 = .ok (.ifCond .ne 18, 3) := by decide +kernel
theorem dX7_inAll_61 : decode cX7_inAll 61 = .ok (.iload_n 1, 1) := by decide +kernel
theorem dX7_inAll_62 : decode cX7_inAll 62 = .ok (.iconst 2, 1) := by decide +kernel
theorem dX7_inAll_63 : decode cX7_inAll 63 = .ok (.if_icmp .ne 17, 3) := by decide +kernel
theorem dX7_inAll_66 : decode cX7_inAll 66 = .ok (.aload_n 0, 1) := by decide +kernel
theorem dX7_inAll_67 : decode cX7_inAll 67 = .ok (.getfield 29, 3) := by decide +kernel
theorem dX7_inAll_70 : decode cX7_inAll 70 = .ok (.iload 4, 2) := by decide +kernel
theorem dX7_inAll_72 : decode cX7_inAll 72 = .ok (.baload, 1) := by decide +kernel
theorem dX7_inAll_73 : decode cX7_inAll 73 = .ok (.ifCond .eq 7, 3) := by decide +kernel
theorem dX7_inAll_76 : decode cX7_inAll 76 = .ok (.iconst 1, 1) := by decide +kernel
theorem dX7_inAll_77 : decode cX7_inAll 77 = .ok (.goto 4, 3) := by decide +kernel
theorem dX7_inAll_80 : decode cX7_inAll 80 = .ok (.iconst 0, 1) := by decide +kernel
theorem dX7_inAll_81 : decode cX7_inAll 81 = .ok (.iadd, 1) := by decide +kernel
theorem dX7_inAll_82 : decode cX7_inAll 82 = .ok (.istore_n 2, 1) := by decide +kernel
theorem dX7_inAll_83 : decode cX7_inAll 83 = .ok (.iinc 4 1, 3) := by decide +kernel
theorem dX7_inAll_86 : decode cX7_inAll 86 = .ok (.goto (-53), 3) := by decide +kernel
theorem dX7_inAll_89 : decode cX7_inAll 89 = .ok (.iinc 3 1, 3) := by decide +kernel
theorem dX7_inAll_92 : decode cX7_inAll 92 = .ok (.goto (-88), 3) := by decide +kernel
theorem dX7_inAll_95 : decode cX7_inAll 95 = .ok (.iload_n 2, 1) := by decide +kernel
theorem dX7_inAll_96 : decode cX7_inAll 96 = .ok (.ireturn, 1) := by decide +kernel
set_option maxRecDepth 20000 in
theorem ggX7_heights_X7_gives : GoodIn wsX7_heights wsX7_gives := goodIn_r _ [6, 7, 1, 8, 9, 10, 11, 12, 13, 14, 15, 5, 16, 17, 18, 19, 20, 21, 22, 23, 24, 25, 26, 27, 28, 29, 30, 31, 32, 33, 34, 35, 36, 37, 38, 39, 40, 41, 42, 43, 44, 45, 46, 47, 48, 49, 50, 51, 52, 53, 54, 55, 56, 57, 58, 59, 60, 61, 62, 63, 64, 65, 66, 67, 68, 69, 70, 71, 72, 73, 74, 75, 76, 77, 78, 79] (by decide +kernel) (by decide +kernel)
set_option maxRecDepth 20000 in
theorem gX7_heights_X7_gives : GoodIn wsX7_heights (wsV RX7 107 RX7 yX7_gives wsX7_gives) := goodIn_app (goodIn_of _ (by decide +kernel)) ggX7_heights_X7_gives
theorem dX7_heights_0 : decode cX7_heights 0 = .ok (.iconst 0, 1) := by decide +kernel
theorem dX7_heights_1 : decode cX7_heights 1 = .ok (.istore_n 1, 1) := by decide +kernel
theorem dX7_heights_2 : decode cX7_heights 2 = .ok (.iconst 0, 1) := by decide +kernel
theorem dX7_heights_3 : decode cX7_heights 3 = .ok (.istore_n 2, 1) := by decide +kernel
theorem dX7_heights_4 : decode cX7_heights 4 = .ok (.iload_n 2, 1) := by decide +kernel
theorem dX7_heights_5 : decode cX7_heights 5 = .ok (.bipush 10, 2) := by decide +kernel
theorem dX7_heights_7 : decode cX7_heights 7 = .ok (.if_icmp .ge 29, 3) := by decide +kernel
theorem dX7_heights_10 : decode cX7_heights 10 = .ok (.aload_n 0, 1) := by decide +kernel
theorem dX7_heights_11 : decode cX7_heights 11 = .ok (.iload_n 2, 1) := by decide +kernel
theorem dX7_heights_12 : decode cX7_heights 12 = .ok (.invokevirtual 107, 3) := by decide +kernel
theorem dX7_heights_15 : decode cX7_heights 15 = .ok (.iload_n 1, 1) := by decide +kernel
theorem dX7_heights_16 : decode cX7_heights 16 = .ok (.aload_n 0, 1) := by decide +kernel
theorem dX7_heights_17 : decode cX7_heights 17 = .ok (.getfield 110, 3) := by decide +kernel
theorem dX7_heights_20 : decode cX7_heights 20 = .ok (.ifCond .le 7, 3) := by decide +kernel
theorem dX7_heights_23 : decode cX7_heights 23 = .ok (.iconst 1, 1) := by decide +kernel
theorem dX7_heights_24 : decode cX7_heights 24 = .ok (.goto 4, 3) := by decide +kernel
theorem dX7_heights_27 : decode cX7_heights 27 = .ok (.iconst 0, 1) := by decide +kernel
theorem dX7_heights_28 : decode cX7_heights 28 = .ok (.iadd, 1) := by decide +kernel
theorem dX7_heights_29 : decode cX7_heights 29 = .ok (.istore_n 1, 1) := by decide +kernel
theorem dX7_heights_30 : decode cX7_heights 30 = .ok (.iinc 2 1, 3) := by decide +kernel
theorem dX7_heights_33 : decode cX7_heights 33 = .ok (.goto (-29), 3) := by decide +kernel
theorem dX7_heights_36 : decode cX7_heights 36 = .ok (.iload_n 1, 1) := by decide +kernel
theorem dX7_heights_37 : decode cX7_heights 37 = .ok (.ireturn, 1) := by decide +kernel
set_option maxRecDepth 20000 in
theorem ggX7_count_X7_inAll : GoodIn wsX7_count wsX7_inAll := goodIn_r _ [9, 10, 1, 11, 12, 13, 14, 8, 15, 16, 17, 18, 19, 20, 21, 22, 23, 24, 25, 26, 27, 28, 29, 30, 31, 32, 33, 34, 35, 36, 37, 38, 39, 40, 41, 42, 43, 44, 45, 78, 79, 80, 81, 82, 83, 84, 85, 86, 87, 88, 89, 90, 91, 92, 93, 94, 95, 96, 97, 98] (by decide +kernel) (by decide +kernel)
set_option maxRecDepth 20000 in
theorem gX7_count_X7_inAll : GoodIn wsX7_count (wsV RX7 113 RX7 yX7_inAll wsX7_inAll) := goodIn_app (goodIn_of _ (by decide +kernel)) ggX7_count_X7_inAll
set_option maxRecDepth 20000 in
theorem ggX7_count_X7_steps : GoodIn wsX7_count wsX7_steps := goodIn_r _ [49, 50, 51, 52, 8, 53, 1, 23, 24, 25, 26, 78, 79, 80, 81, 82, 83, 84, 85, 86, 87, 88, 89, 90, 91, 92, 93, 94, 95, 96, 97, 98] (by decide +kernel) (by decide +kernel)
set_option maxRecDepth 20000 in
theorem gX7_count_X7_steps : GoodIn wsX7_count (wsV RX7 116 RX7 yX7_steps wsX7_steps) := goodIn_app (goodIn_of _ (by decide +kernel)) ggX7_count_X7_steps
set_option maxRecDepth 20000 in
theorem ggX7_count_X7_heights : GoodIn wsX7_count wsX7_heights := goodIn_r _ [57, 58, 59, 60, 61, 8, 62, 63, 1, 11, 18, 64, 65, 12, 13, 14, 15, 10, 16, 17, 19, 20, 21, 22, 23, 24, 25, 26, 27, 28, 29, 30, 31, 32, 33, 34, 35, 36, 37, 38, 39, 40, 41, 42, 43, 44, 45, 66, 67, 68, 69, 70, 71, 72, 73, 74, 75, 76, 77, 78, 79, 80, 81, 82, 83, 84, 85, 86, 87, 88, 89, 90, 91, 92, 93, 94, 95, 96, 97, 98] (by decide +kernel) (by decide +kernel)
set_option maxRecDepth 20000 in
theorem gX7_count_X7_heights : GoodIn wsX7_count (wsV RX7 120 RX7 yX7_heights wsX7_heights) := goodIn_app (goodIn_of _ (by decide +kernel)) ggX7_count_X7_heights
theorem dX7_count_0 : decode cX7_count 0 = .ok (.iload_n 1, 1) := by decide +kernel
theorem dX7_count_1 : decode cX7_count 1 = .ok (.tableswitch 128 0 13 #[71, 71, 71, 71, 80, 86, 92, 97, 102, 107, 112, 112, 112, 122], 71) := by decide +kernel
theorem dX7_count_72 : decode cX7_count 72 = .ok (.aload_n 0, 1) := by decide +kernel
theorem dX7_count_73 : decode cX7_count 73 = .ok (.getfield 7, 3) := by decide +kernel
theorem dX7_count_76 : decode cX7_count 76 = .ok (.iconst 3, 1) := by decide +kernel
theorem dX7_count_77 : decode cX7_count 77 = .ok (.iload_n 1, 1) := by decide +kernel
theorem dX7_count_78 : decode cX7_count 78 = .ok (.iadd, 1) := by decide +kernel
theorem dX7_count_79 : decode cX7_count 79 = .ok (.iaload, 1) := by decide +kernel
theorem dX7_count_80 : decode cX7_count 80 = .ok (.ireturn, 1) := by decide +kernel
theorem dX7_count_81 : decode cX7_count 81 = .ok (.aload_n 0, 1) := by decide +kernel
theorem dX7_count_82 : decode cX7_count 82 = .ok (.iconst 0, 1) := by decide +kernel
theorem dX7_count_83 : decode cX7_count 83 = .ok (.invokevirtual 113, 3) := by decide +kernel
theorem dX7_count_86 : decode cX7_count 86 = .ok (.ireturn, 1) := by decide +kernel
theorem dX7_count_87 : decode cX7_count 87 = .ok (.aload_n 0, 1) := by decide +kernel
theorem dX7_count_88 : decode cX7_count 88 = .ok (.iconst 1, 1) := by decide +kernel
theorem dX7_count_89 : decode cX7_count 89 = .ok (.invokevirtual 113, 3) := by decide +kernel
theorem dX7_count_92 : decode cX7_count 92 = .ok (.ireturn, 1) := by decide +kernel
theorem dX7_count_93 : decode cX7_count 93 = .ok (.aload_n 0, 1) := by decide +kernel
theorem dX7_count_94 : decode cX7_count 94 = .ok (.invokevirtual 116, 3) := by decide +kernel
theorem dX7_count_97 : decode cX7_count 97 = .ok (.ireturn, 1) := by decide +kernel
theorem dX7_count_98 : decode cX7_count 98 = .ok (.aload_n 0, 1) := by decide +kernel
theorem dX7_count_99 : decode cX7_count 99 = .ok (.invokevirtual 120, 3) := by decide +kernel
theorem dX7_count_102 : decode cX7_count 102 = .ok (.ireturn, 1) := by decide +kernel
theorem dX7_count_103 : decode cX7_count 103 = .ok (.aload_n 0, 1) := by decide +kernel
theorem dX7_count_104 : decode cX7_count 104 = .ok (.getfield 45, 3) := by decide +kernel
theorem dX7_count_107 : decode cX7_count 107 = .ok (.ireturn, 1) := by decide +kernel
theorem dX7_count_108 : decode cX7_count 108 = .ok (.aload_n 0, 1) := by decide +kernel
theorem dX7_count_109 : decode cX7_count 109 = .ok (.getfield 123, 3) := by decide +kernel
theorem dX7_count_112 : decode cX7_count 112 = .ok (.ireturn, 1) := by decide +kernel
theorem dX7_count_113 : decode cX7_count 113 = .ok (.aload_n 0, 1) := by decide +kernel
theorem dX7_count_114 : decode cX7_count 114 = .ok (.getfield 7, 3) := by decide +kernel
theorem dX7_count_117 : decode cX7_count 117 = .ok (.iload_n 1, 1) := by decide +kernel
theorem dX7_count_118 : decode cX7_count 118 = .ok (.bipush 10, 2) := by decide +kernel
theorem dX7_count_120 : decode cX7_count 120 = .ok (.isub, 1) := by decide +kernel
theorem dX7_count_121 : decode cX7_count 121 = .ok (.iaload, 1) := by decide +kernel
theorem dX7_count_122 : decode cX7_count 122 = .ok (.ireturn, 1) := by decide +kernel
theorem dX7_count_123 : decode cX7_count 123 = .ok (.aload_n 0, 1) := by decide +kernel
theorem dX7_count_124 : decode cX7_count 124 = .ok (.iconst 2, 1) := by decide +kernel
theorem dX7_count_125 : decode cX7_count 125 = .ok (.invokevirtual 113, 3) := by decide +kernel
theorem dX7_count_128 : decode cX7_count 128 = .ok (.ireturn, 1) := by decide +kernel
theorem dX7_count_129 : decode cX7_count 129 = .ok (.ldc 55, 2) := by decide +kernel
theorem dX7_count_131 : decode cX7_count 131 = .ok (.ireturn, 1) := by decide +kernel
theorem dX7_undo_0 : decode cX7_undo 0 = .ok (.aload_n 0, 1) := by decide +kernel
theorem dX7_undo_1 : decode cX7_undo 1 = .ok (.getfield 45, 3) := by decide +kernel
theorem dX7_undo_4 : decode cX7_undo 4 = .ok (.ifCond .ne 6, 3) := by decide +kernel
theorem dX7_undo_7 : decode cX7_undo 7 = .ok (.ldc 70, 2) := by decide +kernel
theorem dX7_undo_9 : decode cX7_undo 9 = .ok (.ireturn, 1) := by decide +kernel
theorem dX7_undo_10 : decode cX7_undo 10 = .ok (.aload_n 0, 1) := by decide +kernel
theorem dX7_undo_11 : decode cX7_undo 11 = .ok (.dup, 1) := by decide +kernel
theorem dX7_undo_12 : decode cX7_undo 12 = .ok (.getfield 45, 3) := by decide +kernel
theorem dX7_undo_15 : decode cX7_undo 15 = .ok (.iconst 1, 1) := by decide +kernel
theorem dX7_undo_16 : decode cX7_undo 16 = .ok (.isub, 1) := by decide +kernel
theorem dX7_undo_17 : decode cX7_undo 17 = .ok (.putfield 45, 3) := by decide +kernel
theorem dX7_undo_20 : decode cX7_undo 20 = .ok (.iconst 0, 1) := by decide +kernel
theorem dX7_undo_21 : decode cX7_undo 21 = .ok (.istore_n 1, 1) := by decide +kernel
theorem dX7_undo_22 : decode cX7_undo 22 = .ok (.iload_n 1, 1) := by decide +kernel
theorem dX7_undo_23 : decode cX7_undo 23 = .ok (.sipush 327, 3) := by decide +kernel
theorem dX7_undo_26 : decode cX7_undo 26 = .ok (.if_icmp .ge 30, 3) := by decide +kernel
theorem dX7_undo_29 : decode cX7_undo 29 = .ok (.aload_n 0, 1) := by decide +kernel
theorem dX7_undo_30 : decode cX7_undo 30 = .ok (.getfield 7, 3) := by decide +kernel
theorem dX7_undo_33 : decode cX7_undo 33 = .ok (.iload_n 1, 1) := by decide +kernel
theorem dX7_undo_34 : decode cX7_undo 34 = .ok (.aload_n 0, 1) := by decide +kernel
theorem dX7_undo_35 : decode cX7_undo 35 = .ok (.getfield 13, 3) := by decide +kernel
theorem dX7_undo_38 : decode cX7_undo 38 = .ok (.sipush 327, 3) := by decide +kernel
theorem dX7_undo_41 : decode cX7_undo 41 = .ok (.aload_n 0, 1) := by decide +kernel
theorem dX7_undo_42 : decode cX7_undo 42 = .ok (.getfield 45, 3) := by decide +kernel
theorem dX7_undo_45 : decode cX7_undo 45 = .ok (.imul, 1) := by decide +kernel
theorem dX7_undo_46 : decode cX7_undo 46 = .ok (.iload_n 1, 1) := by decide +kernel
theorem dX7_undo_47 : decode cX7_undo 47 = .ok (.iadd, 1) := by decide +kernel
theorem dX7_undo_48 : decode cX7_undo 48 = .ok (.iaload, 1) := by decide +kernel
theorem dX7_undo_49 : decode cX7_undo 49 = .ok (.iastore, 1) := by decide +kernel
theorem dX7_undo_50 : decode cX7_undo 50 = .ok (.iinc 1 1, 3) := by decide +kernel
theorem dX7_undo_53 : decode cX7_undo 53 = .ok (.goto (-31), 3) := by decide +kernel
theorem dX7_undo_56 : decode cX7_undo 56 = .ok (.aload_n 0, 1) := by decide +kernel
theorem dX7_undo_57 : decode cX7_undo 57 = .ok (.getfield 45, 3) := by decide +kernel
theorem dX7_undo_60 : decode cX7_undo 60 = .ok (.ireturn, 1) := by decide +kernel
set_option maxRecDepth 20000 in
theorem ggX7_between_X7_down : GoodIn wsX7_between wsX7_down := goodIn_r _ [4] (by decide +kernel) (by decide +kernel)
set_option maxRecDepth 20000 in
theorem gX7_between_X7_down : GoodIn wsX7_between (va_wsS RX7 126 yX7_down wsX7_down) := goodIn_app (goodIn_of _ (by decide +kernel)) ggX7_between_X7_down
theorem dX7_between_0 : decode cX7_between 0 = .ok (.iload_n 0, 1) := by decide +kernel
theorem dX7_between_1 : decode cX7_between 1 = .ok (.iload_n 1, 1) := by decide +kernel
theorem dX7_between_2 : decode cX7_between 2 = .ok (.iload_n 0, 1) := by decide +kernel
theorem dX7_between_3 : decode cX7_between 3 = .ok (.isub, 1) := by decide +kernel
theorem dX7_between_4 : decode cX7_between 4 = .ok (.i2l, 1) := by decide +kernel
theorem dX7_between_5 : decode cX7_between 5 = .ok (.iload_n 2, 1) := by decide +kernel
theorem dX7_between_6 : decode cX7_between 6 = .ok (.iload_n 3, 1) := by decide +kernel
theorem dX7_between_7 : decode cX7_between 7 = .ok (.isub, 1) := by decide +kernel
theorem dX7_between_8 : decode cX7_between 8 = .ok (.i2l, 1) := by decide +kernel
theorem dX7_between_9 : decode cX7_between 9 = .ok (.lmul, 1) := by decide +kernel
theorem dX7_between_10 : decode cX7_between 10 = .ok (.iload 4, 2) := by decide +kernel
theorem dX7_between_12 : decode cX7_between 12 = .ok (.iload_n 3, 1) := by decide +kernel
theorem dX7_between_13 : decode cX7_between 13 = .ok (.isub, 1) := by decide +kernel
theorem dX7_between_14 : decode cX7_between 14 = .ok (.i2l, 1) := by decide +kernel
theorem dX7_between_15 : decode cX7_between 15 = .ok (.invokestatic 126, 3) := by decide +kernel
theorem dX7_between_18 : decode cX7_between 18 = .ok (.l2i, 1) := by decide +kernel
theorem dX7_between_19 : decode cX7_between 19 = .ok (.iadd, 1) := by decide +kernel
theorem dX7_between_20 : decode cX7_between 20 = .ok (.ireturn, 1) := by decide +kernel
set_option maxRecDepth 20000 in
theorem ggX7_hasBase_X7_of : GoodIn wsX7_hasBase wsX7_of := goodIn_r _ [8, 1, 15, 16, 17, 18, 19, 20, 21, 22, 23, 24, 25, 26, 27, 28, 29, 30, 31, 32, 33, 34, 35] (by decide +kernel) (by decide +kernel)
set_option maxRecDepth 20000 in
theorem gX7_hasBase_X7_of : GoodIn wsX7_hasBase (wsV RX7 59 RX7 yX7_of wsX7_of) := goodIn_app (goodIn_of _ (by decide +kernel)) ggX7_hasBase_X7_of
set_option maxRecDepth 20000 in
theorem ggX7_hasBase_X7_between : GoodIn wsX7_hasBase wsX7_between := goodIn_r _ [11, 12, 13, 7, 14] (by decide +kernel) (by decide +kernel)
set_option maxRecDepth 20000 in
theorem gX7_hasBase_X7_between : GoodIn wsX7_hasBase (va_wsS RX7 136 yX7_between wsX7_between) := goodIn_app (goodIn_of _ (by decide +kernel)) ggX7_hasBase_X7_between
theorem dX7_hasBase_0 : decode cX7_hasBase 0 = .ok (.iconst 0, 1) := by decide +kernel
theorem dX7_hasBase_1 : decode cX7_hasBase 1 = .ok (.istore_n 2, 1) := by decide +kernel
theorem dX7_hasBase_2 : decode cX7_hasBase 2 = .ok (.iload_n 2, 1) := by decide +kernel
theorem dX7_hasBase_3 : decode cX7_hasBase 3 = .ok (.aload_n 0, 1) := by decide +kernel
theorem dX7_hasBase_4 : decode cX7_hasBase 4 = .ok (.getfield 7, 3) := by decide +kernel
theorem dX7_hasBase_7 : decode cX7_hasBase 7 = .ok (.iconst 3, 1) := by decide +kernel
theorem dX7_hasBase_8 : decode cX7_hasBase 8 = .ok (.iaload, 1) := by decide +kernel
theorem dX7_hasBase_9 : decode cX7_hasBase 9 = .ok (.if_icmp .ge 135, 3) := by decide +kernel
theorem dX7_hasBase_12 : decode cX7_hasBase 12 = .ok (.aload_n 0, 1) := by decide +kernel
theorem dX7_hasBase_13 : decode cX7_hasBase 13 = .ok (.iconst 0, 1) := by decide +kernel
theorem dX7_hasBase_14 : decode cX7_hasBase 14 = .ok (.iconst 0, 1) := by decide +kernel
theorem dX7_hasBase_15 : decode cX7_hasBase 15 = .ok (.iload_n 2, 1) := by decide +kernel
theorem dX7_hasBase_16 : decode cX7_hasBase 16 = .ok (.invokevirtual 59, 3) := by decide +kernel
theorem dX7_hasBase_19 : decode cX7_hasBase 19 = .ok (.istore_n 3, 1) := by decide +kernel
theorem dX7_hasBase_20 : decode cX7_hasBase 20 = .ok (.iload_n 3, 1) := by decide +kernel
theorem dX7_hasBase_21 : decode cX7_hasBase 21 = .ok (.iload_n 1, 1) := by decide +kernel
theorem dX7_hasBase_22 : decode cX7_hasBase 22 = .ok (.if_icmp .ne 29, 3) := by decide +kernel
theorem dX7_hasBase_25 : decode cX7_hasBase 25 = .ok (.aload_n 0, 1) := by decide +kernel
theorem dX7_hasBase_26 : decode cX7_hasBase 26 = .ok (.aload_n 0, 1) := by decide +kernel
theorem dX7_hasBase_27 : decode cX7_hasBase 27 = .ok (.iconst 0, 1) := by decide +kernel
theorem dX7_hasBase_28 : decode cX7_hasBase 28 = .ok (.bipush 20, 2) := by decide +kernel
theorem dX7_hasBase_30 : decode cX7_hasBase 30 = .ok (.iload_n 2, 1) := by decide +kernel
theorem dX7_hasBase_31 : decode cX7_hasBase 31 = .ok (.invokevirtual 59, 3) := by decide +kernel
theorem dX7_hasBase_34 : decode cX7_hasBase 34 = .ok (.putfield 130, 3) := by decide +kernel
theorem dX7_hasBase_37 : decode cX7_hasBase 37 = .ok (.aload_n 0, 1) := by decide +kernel
theorem dX7_hasBase_38 : decode cX7_hasBase 38 = .ok (.aload_n 0, 1) := by decide +kernel
theorem dX7_hasBase_39 : decode cX7_hasBase 39 = .ok (.iconst 0, 1) := by decide +kernel
theorem dX7_hasBase_40 : decode cX7_hasBase 40 = .ok (.bipush 40, 2) := by decide +kernel
theorem dX7_hasBase_42 : decode cX7_hasBase 42 = .ok (.iload_n 2, 1) := by decide +kernel
theorem dX7_hasBase_43 : decode cX7_hasBase 43 = .ok (.invokevirtual 59, 3) := by decide +kernel
theorem dX7_hasBase_46 : decode cX7_hasBase 46 = .ok (.putfield 133, 3) := by decide +kernel
theorem dX7_hasBase_49 : decode cX7_hasBase 49 = .ok (.iconst 1, 1) := by decide +kernel
theorem dX7_hasBase_50 : decode cX7_hasBase 50 = .ok (.ireturn, 1) := by decide +kernel
theorem dX7_hasBase_51 : decode cX7_hasBase 51 = .ok (.iload_n 3, 1) := by decide +kernel
theorem dX7_hasBase_52 : decode cX7_hasBase 52 = .ok (.iload_n 1, 1) := by decide +kernel
theorem dX7_hasBase_53 : decode cX7_hasBase 53 = .ok (.if_icmp .le 78, 3) := by decide +kernel
theorem dX7_hasBase_56 : decode cX7_hasBase 56 = .ok (.iload_n 2, 1) := by decide +kernel
theorem dX7_hasBase_57 : decode cX7_hasBase 57 = .ok (.ifCond .le 74, 3) := by decide +kernel
theorem dX7_hasBase_60 : decode cX7_hasBase 60 = .ok (.aload_n 0, 1) := by decide +kernel
theorem dX7_hasBase_61 : decode cX7_hasBase 61 = .ok (.iconst 0, 1) := by decide +kernel
theorem dX7_hasBase_62 : decode cX7_hasBase 62 = .ok (.iconst 0, 1) := by decide +kernel
theorem dX7_hasBase_63 : decode cX7_hasBase 63 = .ok (.iload_n 2, 1) := by decide +kernel
theorem dX7_hasBase_64 : decode cX7_hasBase 64 = .ok (.iconst 1, 1) := by decide +kernel
theorem dX7_hasBase_65 : decode cX7_hasBase 65 = .ok (.isub, 1) := by decide +kernel
theorem dX7_hasBase_66 : decode cX7_hasBase 66 = .ok (.invokevirtual 59, 3) := by decide +kernel
theorem dX7_hasBase_69 : decode cX7_hasBase 69 = .ok (.istore 4, 2) := by decide +kernel
theorem dX7_hasBase_71 : decode cX7_hasBase 71 = .ok (.aload_n 0, 1) := by decide +kernel
theorem dX7_hasBase_72 : decode cX7_hasBase 72 = .ok (.aload_n 0, 1) := by decide +kernel
theorem dX7_hasBase_73 : decode cX7_hasBase 73 = .ok (.iconst 0, 1) := by decide +kernel
theorem dX7_hasBase_74 : decode cX7_hasBase 74 = .ok (.bipush 20, 2) := by decide +kernel
theorem dX7_hasBase_76 : decode cX7_hasBase 76 = .ok (.iload_n 2, 1) := by decide +kernel
theorem dX7_hasBase_77 : decode cX7_hasBase 77 = .ok (.iconst 1, 1) := by decide +kernel
theorem dX7_hasBase_78 : decode cX7_hasBase 78 = .ok (.isub, 1) := by decide +kernel
theorem dX7_hasBase_79 : decode cX7_hasBase 79 = .ok (.invokevirtual 59, 3) := by decide +kernel
theorem dX7_hasBase_82 : decode cX7_hasBase 82 = .ok (.aload_n 0, 1) := by decide +kernel
theorem dX7_hasBase_83 : decode cX7_hasBase 83 = .ok (.iconst 0, 1) := by decide +kernel
theorem dX7_hasBase_84 : decode cX7_hasBase 84 = .ok (.bipush 20, 2) := by decide +kernel
theorem dX7_hasBase_86 : decode cX7_hasBase 86 = .ok (.iload_n 2, 1) := by decide +kernel
theorem dX7_hasBase_87 : decode cX7_hasBase 87 = .ok (.invokevirtual 59, 3) := by decide +kernel
theorem dX7_hasBase_90 : decode cX7_hasBase 90 = .ok (.iload_n 1, 1) := by decide +kernel
theorem dX7_hasBase_91 : decode cX7_hasBase 91 = .ok (.iload 4, 2) := by decide +kernel
theorem dX7_hasBase_93 : decode cX7_hasBase 93 = .ok (.iload_n 3, 1) := by decide +kernel
theorem dX7_hasBase_94 : decode cX7_hasBase 94 = .ok (.invokestatic 136, 3) := by decide +kernel
theorem dX7_hasBase_97 : decode cX7_hasBase 97 = .ok (.putfield 130, 3) := by decide +kernel
theorem dX7_hasBase_100 : decode cX7_hasBase 100 = .ok (.aload_n 0, 1) := by decide +kernel
theorem dX7_hasBase_101 : decode cX7_hasBase 101 = .ok (.aload_n 0, 1) := by decide +kernel
theorem dX7_hasBase_102 : decode cX7_hasBase 102 = .ok (.iconst 0, 1) := by decide +kernel
theorem dX7_hasBase_103 : decode cX7_hasBase 103 = .ok (.bipush 40, 2) := by decide +kernel
theorem dX7_hasBase_105 : decode cX7_hasBase 105 = .ok (.iload_n 2, 1) := by decide +kernel
theorem dX7_hasBase_106 : decode cX7_hasBase 106 = .ok (.iconst 1, 1) := by decide +kernel
theorem dX7_hasBase_107 : decode cX7_hasBase 107 = .ok (.isub, 1) := by decide +kernel
theorem dX7_hasBase_108 : decode cX7_hasBase 108 = .ok (.invokevirtual 59, 3) := by decide +kernel
theorem dX7_hasBase_111 : decode cX7_hasBase 111 = .ok (.aload_n 0, 1) := by decide +kernel
theorem dX7_hasBase_112 : decode cX7_hasBase 112 = .ok (.iconst 0, 1) := by decide +kernel
theorem dX7_hasBase_113 : decode cX7_hasBase 113 = .ok (.bipush 40, 2) := by decide +kernel
theorem dX7_hasBase_115 : decode cX7_hasBase 115 = .ok (.iload_n 2, 1) := by decide +kernel
theorem dX7_hasBase_116 : decode cX7_hasBase 116 = .ok (.invokevirtual 59, 3) := by decide +kernel
theorem dX7_hasBase_119 : decode cX7_hasBase 119 = .ok (.iload_n 1, 1) := by decide +kernel
theorem dX7_hasBase_120 : decode cX7_hasBase 120 = .ok (.iload 4, 2) := by decide +kernel
theorem dX7_hasBase_122 : decode cX7_hasBase 122 = .ok (.iload_n 3, 1) := by decide +kernel
theorem dX7_hasBase_123 : decode cX7_hasBase 123 = .ok (.invokestatic 136, 3) := by decide +kernel
theorem dX7_hasBase_126 : decode cX7_hasBase 126 = .ok (.putfield 133, 3) := by decide +kernel
theorem dX7_hasBase_129 : decode cX7_hasBase 129 = .ok (.iconst 1, 1) := by decide +kernel
theorem dX7_hasBase_130 : decode cX7_hasBase 130 = .ok (.ireturn, 1) := by decide +kernel
theorem dX7_hasBase_131 : decode cX7_hasBase 131 = .ok (.iload_n 3, 1) := by decide +kernel
theorem dX7_hasBase_132 : decode cX7_hasBase 132 = .ok (.iload_n 1, 1) := by decide +kernel
theorem dX7_hasBase_133 : decode cX7_hasBase 133 = .ok (.if_icmp .le 5, 3) := by decide +kernel
theorem dX7_hasBase_136 : decode cX7_hasBase 136 = .ok (.iconst 0, 1) := by decide +kernel
theorem dX7_hasBase_137 : decode cX7_hasBase 137 = .ok (.ireturn, 1) := by decide +kernel
theorem dX7_hasBase_138 : decode cX7_hasBase 138 = .ok (.iinc 2 1, 3) := by decide +kernel
theorem dX7_hasBase_141 : decode cX7_hasBase 141 = .ok (.goto (-139), 3) := by decide +kernel
theorem dX7_hasBase_144 : decode cX7_hasBase 144 = .ok (.iconst 0, 1) := by decide +kernel
theorem dX7_hasBase_145 : decode cX7_hasBase 145 = .ok (.ireturn, 1) := by decide +kernel
set_option maxRecDepth 20000 in
theorem ggX7_baseAt_X7_in : GoodIn wsX7_baseAt wsX7_in := goodIn_r _ [8] (by decide +kernel) (by decide +kernel)
set_option maxRecDepth 20000 in
theorem gX7_baseAt_X7_in : GoodIn wsX7_baseAt (va_wsS RX7 39 yX7_in wsX7_in) := goodIn_app (goodIn_of _ (by decide +kernel)) ggX7_baseAt_X7_in
set_option maxRecDepth 20000 in
theorem ggX7_baseAt_X7_hasBase : GoodIn wsX7_baseAt wsX7_hasBase := goodIn_r _ [12, 13, 3, 4, 14, 15, 16, 7, 17, 18, 19, 20, 21, 22, 23, 24, 25, 26, 27, 28, 29, 30, 31, 32, 33, 34, 35, 36, 37, 38, 39, 40, 41, 42, 43, 44] (by decide +kernel) (by decide +kernel)
set_option maxRecDepth 20000 in
theorem gX7_baseAt_X7_hasBase : GoodIn wsX7_baseAt (wsV RX7 139 RX7 yX7_hasBase wsX7_hasBase) := goodIn_app (goodIn_of _ (by decide +kernel)) ggX7_baseAt_X7_hasBase
theorem dX7_baseAt_0 : decode cX7_baseAt 0 = .ok (.iload_n 1, 1) := by decide +kernel
theorem dX7_baseAt_1 : decode cX7_baseAt 1 = .ok (.iconst 0, 1) := by decide +kernel
theorem dX7_baseAt_2 : decode cX7_baseAt 2 = .ok (.sipush 10000, 3) := by decide +kernel
theorem dX7_baseAt_5 : decode cX7_baseAt 5 = .ok (.invokestatic 39, 3) := by decide +kernel
theorem dX7_baseAt_8 : decode cX7_baseAt 8 = .ok (.ifCond .eq 12, 3) := by decide +kernel
theorem dX7_baseAt_11 : decode cX7_baseAt 11 = .ok (.iload_n 2, 1) := by decide +kernel
theorem dX7_baseAt_12 : decode cX7_baseAt 12 = .ok (.iconst 0, 1) := by decide +kernel
theorem dX7_baseAt_13 : decode cX7_baseAt 13 = .ok (.iconst 1, 1) := by decide +kernel
theorem dX7_baseAt_14 : decode cX7_baseAt 14 = .ok (.invokestatic 39, 3) := by decide +kernel
theorem dX7_baseAt_17 : decode cX7_baseAt 17 = .ok (.ifCond .ne 6, 3) := by decide +kernel
theorem dX7_baseAt_20 : decode cX7_baseAt 20 = .ok (.ldc 55, 2) := by decide +kernel
theorem dX7_baseAt_22 : decode cX7_baseAt 22 = .ok (.ireturn, 1) := by decide +kernel
theorem dX7_baseAt_23 : decode cX7_baseAt 23 = .ok (.aload_n 0, 1) := by decide +kernel
theorem dX7_baseAt_24 : decode cX7_baseAt 24 = .ok (.iload_n 1, 1) := by decide +kernel
theorem dX7_baseAt_25 : decode cX7_baseAt 25 = .ok (.invokevirtual 139, 3) := by decide +kernel
theorem dX7_baseAt_28 : decode cX7_baseAt 28 = .ok (.ifCond .ne 8, 3) := by decide +kernel
theorem dX7_baseAt_31 : decode cX7_baseAt 31 = .ok (.ldc 92, 2) := by decide +kernel
theorem dX7_baseAt_33 : decode cX7_baseAt 33 = .ok (.goto 18, 3) := by decide +kernel
theorem dX7_baseAt_36 : decode cX7_baseAt 36 = .ok (.iload_n 2, 1) := by decide +kernel
theorem dX7_baseAt_37 : decode cX7_baseAt 37 = .ok (.ifCond .ne 10, 3) := by decide +kernel
theorem dX7_baseAt_40 : decode cX7_baseAt 40 = .ok (.aload_n 0, 1) := by decide +kernel
theorem dX7_baseAt_41 : decode cX7_baseAt 41 = .ok (.getfield 130, 3) := by decide +kernel
theorem dX7_baseAt_44 : decode cX7_baseAt 44 = .ok (.goto 7, 3) := by decide +kernel
theorem dX7_baseAt_47 : decode cX7_baseAt 47 = .ok (.aload_n 0, 1) := by decide +kernel
theorem dX7_baseAt_48 : decode cX7_baseAt 48 = .ok (.getfield 133, 3) := by decide +kernel
theorem dX7_baseAt_51 : decode cX7_baseAt 51 = .ok (.ireturn, 1) := by decide +kernel
set_option maxRecDepth 20000 in
theorem ggX7_step_X7_stepsTo : GoodIn wsX7_step wsX7_stepsTo := goodIn_r _ [6, 7, 8, 9, 10, 5, 11, 12, 13, 14, 15, 16, 17, 18, 19, 20, 21, 22, 23, 24, 25, 26, 27, 28, 29, 30, 31, 32] (by decide +kernel) (by decide +kernel)
set_option maxRecDepth 20000 in
theorem gX7_step_X7_stepsTo : GoodIn wsX7_step (wsV RX7 100 RX7 yX7_stepsTo wsX7_stepsTo) := goodIn_app (goodIn_of _ (by decide +kernel)) ggX7_step_X7_stepsTo
theorem dX7_step_0 : decode cX7_step 0 = .ok (.iload_n 1, 1) := by decide +kernel
theorem dX7_step_1 : decode cX7_step 1 = .ok (.ifCond .ge 7, 3) := by decide +kernel
theorem dX7_step_4 : decode cX7_step 4 = .ok (.iconst (-1), 1) := by decide +kernel
theorem dX7_step_5 : decode cX7_step 5 = .ok (.goto 8, 3) := by decide +kernel
theorem dX7_step_8 : decode cX7_step 8 = .ok (.aload_n 0, 1) := by decide +kernel
theorem dX7_step_9 : decode cX7_step 9 = .ok (.iload_n 1, 1) := by decide +kernel
theorem dX7_step_10 : decode cX7_step 10 = .ok (.invokevirtual 100, 3) := by decide +kernel
theorem dX7_step_13 : decode cX7_step 13 = .ok (.istore_n 2, 1) := by decide +kernel
theorem dX7_step_14 : decode cX7_step 14 = .ok (.iload_n 2, 1) := by decide +kernel
theorem dX7_step_15 : decode cX7_step 15 = .ok (.iconst (-1), 1) := by decide +kernel
theorem dX7_step_16 : decode cX7_step 16 = .ok (.if_icmp .ne 8, 3) := by decide +kernel
theorem dX7_step_19 : decode cX7_step 19 = .ok (.ldc 55, 2) := by decide +kernel
theorem dX7_step_21 : decode cX7_step 21 = .ok (.goto 4, 3) := by decide +kernel
theorem dX7_step_24 : decode cX7_step 24 = .ok (.iload_n 2, 1) := by decide +kernel
theorem dX7_step_25 : decode cX7_step 25 = .ok (.ireturn, 1) := by decide +kernel
set_option maxRecDepth 20000 in
theorem ggX7_rawOf_X7_down : GoodIn wsX7_rawOf wsX7_down := goodIn_r _ [10] (by decide +kernel) (by decide +kernel)
set_option maxRecDepth 20000 in
theorem gX7_rawOf_X7_down : GoodIn wsX7_rawOf (va_wsS RX7 126 yX7_down wsX7_down) := goodIn_app (goodIn_of _ (by decide +kernel)) ggX7_rawOf_X7_down
theorem dX7_rawOf_0 : decode cX7_rawOf 0 = .ok (.ldc2_w 142, 3) := by decide +kernel
theorem dX7_rawOf_3 : decode cX7_rawOf 3 = .ok (.aload_n 0, 1) := by decide +kernel
theorem dX7_rawOf_4 : decode cX7_rawOf 4 = .ok (.getfield 133, 3) := by decide +kernel
theorem dX7_rawOf_7 : decode cX7_rawOf 7 = .ok (.iload_n 2, 1) := by decide +kernel
theorem dX7_rawOf_8 : decode cX7_rawOf 8 = .ok (.iadd, 1) := by decide +kernel
theorem dX7_rawOf_9 : decode cX7_rawOf 9 = .ok (.i2l, 1) := by decide +kernel
theorem dX7_rawOf_10 : decode cX7_rawOf 10 = .ok (.ldc2_w 144, 3) := by decide +kernel
theorem dX7_rawOf_13 : decode cX7_rawOf 13 = .ok (.invokestatic 126, 3) := by decide +kernel
theorem dX7_rawOf_16 : decode cX7_rawOf 16 = .ok (.ladd, 1) := by decide +kernel
theorem dX7_rawOf_17 : decode cX7_rawOf 17 = .ok (.lstore_n 3, 1) := by decide +kernel
theorem dX7_rawOf_18 : decode cX7_rawOf 18 = .ok (.ldc2_w 146, 3) := by decide +kernel
theorem dX7_rawOf_21 : decode cX7_rawOf 21 = .ok (.lload_n 3, 1) := by decide +kernel
theorem dX7_rawOf_22 : decode cX7_rawOf 22 = .ok (.lmul, 1) := by decide +kernel
theorem dX7_rawOf_23 : decode cX7_rawOf 23 = .ok (.aload_n 0, 1) := by decide +kernel
theorem dX7_rawOf_24 : decode cX7_rawOf 24 = .ok (.getfield 130, 3) := by decide +kernel
theorem dX7_rawOf_27 : decode cX7_rawOf 27 = .ok (.iload_n 1, 1) := by decide +kernel
theorem dX7_rawOf_28 : decode cX7_rawOf 28 = .ok (.isub, 1) := by decide +kernel
theorem dX7_rawOf_29 : decode cX7_rawOf 29 = .ok (.i2l, 1) := by decide +kernel
theorem dX7_rawOf_30 : decode cX7_rawOf 30 = .ok (.lmul, 1) := by decide +kernel
theorem dX7_rawOf_31 : decode cX7_rawOf 31 = .ok (.lstore 5, 2) := by decide +kernel
theorem dX7_rawOf_33 : decode cX7_rawOf 33 = .ok (.aload_n 0, 1) := by decide +kernel
theorem dX7_rawOf_34 : decode cX7_rawOf 34 = .ok (.getfield 7, 3) := by decide +kernel
theorem dX7_rawOf_37 : decode cX7_rawOf 37 = .ok (.iconst 0, 1) := by decide +kernel
theorem dX7_rawOf_38 : decode cX7_rawOf 38 = .ok (.iaload, 1) := by decide +kernel
theorem dX7_rawOf_39 : decode cX7_rawOf 39 = .ok (.lload 5, 2) := by decide +kernel
theorem dX7_rawOf_41 : decode cX7_rawOf 41 = .ok (.aload_n 0, 1) := by decide +kernel
theorem dX7_rawOf_42 : decode cX7_rawOf 42 = .ok (.getfield 130, 3) := by decide +kernel
theorem dX7_rawOf_45 : decode cX7_rawOf 45 = .ok (.iload_n 1, 1) := by decide +kernel
theorem dX7_rawOf_46 : decode cX7_rawOf 46 = .ok (.iadd, 1) := by decide +kernel
theorem dX7_rawOf_47 : decode cX7_rawOf 47 = .ok (.iconst 2, 1) := by decide +kernel
theorem dX7_rawOf_48 : decode cX7_rawOf 48 = .ok (.idiv, 1) := by decide +kernel
theorem dX7_rawOf_49 : decode cX7_rawOf 49 = .ok (.i2l, 1) := by decide +kernel
theorem dX7_rawOf_50 : decode cX7_rawOf 50 = .ok (.invokestatic 126, 3) := by decide +kernel
theorem dX7_rawOf_53 : decode cX7_rawOf 53 = .ok (.l2i, 1) := by decide +kernel
theorem dX7_rawOf_54 : decode cX7_rawOf 54 = .ok (.iadd, 1) := by decide +kernel
theorem dX7_rawOf_55 : decode cX7_rawOf 55 = .ok (.ireturn, 1) := by decide +kernel
set_option maxRecDepth 20000 in
theorem ggX7_raw_X7_isCell : GoodIn wsX7_raw wsX7_isCell := goodIn_r _ [6, 7, 8, 5, 9] (by decide +kernel) (by decide +kernel)
set_option maxRecDepth 20000 in
theorem gX7_raw_X7_isCell : GoodIn wsX7_raw (va_wsS RX7 86 yX7_isCell wsX7_isCell) := goodIn_app (goodIn_of _ (by decide +kernel)) ggX7_raw_X7_isCell
set_option maxRecDepth 20000 in
theorem ggX7_raw_X7_isReading : GoodIn wsX7_raw wsX7_isReading := goodIn_r _ [13, 14, 7, 8, 5, 9, 38, 39, 40, 41, 42, 43, 44, 45, 46, 47, 48, 49, 50, 51, 52, 53, 54, 55, 56, 57, 58] (by decide +kernel) (by decide +kernel)
set_option maxRecDepth 20000 in
theorem gX7_raw_X7_isReading : GoodIn wsX7_raw (wsV RX7 89 RX7 yX7_isReading wsX7_isReading) := goodIn_app (goodIn_of _ (by decide +kernel)) ggX7_raw_X7_isReading
set_option maxRecDepth 20000 in
theorem ggX7_raw_X7_of : GoodIn wsX7_raw wsX7_of := goodIn_r _ [18, 14, 38, 39, 40, 41, 42, 43, 44, 45, 46, 47, 48, 49, 50, 51, 52, 53, 54, 55, 56, 57, 58] (by decide +kernel) (by decide +kernel)
set_option maxRecDepth 20000 in
theorem gX7_raw_X7_of : GoodIn wsX7_raw (wsV RX7 59 RX7 yX7_of wsX7_of) := goodIn_app (goodIn_of _ (by decide +kernel)) ggX7_raw_X7_of
set_option maxRecDepth 20000 in
theorem ggX7_raw_X7_hasBase : GoodIn wsX7_raw wsX7_hasBase := goodIn_r _ [22, 14, 23, 24, 15, 16, 17, 5, 18, 25, 26, 27, 28, 29, 30, 38, 39, 40, 41, 42, 43, 44, 45, 46, 47, 48, 49, 50, 51, 52, 53, 54, 55, 56, 57, 58] (by decide +kernel) (by decide +kernel)
set_option maxRecDepth 20000 in
theorem gX7_raw_X7_hasBase : GoodIn wsX7_raw (wsV RX7 139 RX7 yX7_hasBase wsX7_hasBase) := goodIn_app (goodIn_of _ (by decide +kernel)) ggX7_raw_X7_hasBase
set_option maxRecDepth 20000 in
theorem ggX7_raw_X7_rawOf : GoodIn wsX7_raw wsX7_rawOf := goodIn_r _ [34, 35, 24, 36, 37, 23, 14, 28, 29, 5, 30, 38, 39, 40, 41, 42, 43, 44, 45, 46, 47, 48, 49, 50, 51, 52, 53, 54, 55, 56, 57, 58] (by decide +kernel) (by decide +kernel)
set_option maxRecDepth 20000 in
theorem gX7_raw_X7_rawOf : GoodIn wsX7_raw (wsV RX7 148 RX7 yX7_rawOf wsX7_rawOf) := goodIn_app (goodIn_of _ (by decide +kernel)) ggX7_raw_X7_rawOf
theorem dX7_raw_0 : decode cX7_raw 0 = .ok (.iload_n 1, 1) := by decide +kernel
theorem dX7_raw_1 : decode cX7_raw 1 = .ok (.invokestatic 86, 3) := by decide +kernel
theorem dX7_raw_4 : decode cX7_raw 4 = .ok (.ifCond .eq 12, 3) := by decide +kernel
theorem dX7_raw_7 : decode cX7_raw 7 = .ok (.aload_n 0, 1) := by decide +kernel
theorem dX7_raw_8 : decode cX7_raw 8 = .ok (.iload_n 1, 1) := by decide +kernel
theorem dX7_raw_9 : decode cX7_raw 9 = .ok (.iload_n 2, 1) := by decide +kernel
theorem dX7_raw_10 : decode cX7_raw 10 = .ok (.invokevirtual 89, 3) := by decide +kernel
theorem dX7_raw_13 : decode cX7_raw 13 = .ok (.ifCond .ne 6, 3) := by decide +kernel
theorem dX7_raw_16 : decode cX7_raw 16 = .ok (.ldc 55, 2) := by decide +kernel
theorem dX7_raw_18 : decode cX7_raw 18 = .ok (.ireturn, 1) := by decide +kernel
theorem dX7_raw_19 : decode cX7_raw 19 = .ok (.iload_n 1, 1) := by decide +kernel
theorem dX7_raw_20 : decode cX7_raw 20 = .ok (.iconst 1, 1) := by decide +kernel
theorem dX7_raw_21 : decode cX7_raw 21 = .ok (.iadd, 1) := by decide +kernel
theorem dX7_raw_22 : decode cX7_raw 22 = .ok (.istore_n 3, 1) := by decide +kernel
theorem dX7_raw_23 : decode cX7_raw 23 = .ok (.aload_n 0, 1) := by decide +kernel
theorem dX7_raw_24 : decode cX7_raw 24 = .ok (.aload_n 0, 1) := by decide +kernel
theorem dX7_raw_25 : decode cX7_raw 25 = .ok (.iload_n 3, 1) := by decide +kernel
theorem dX7_raw_26 : decode cX7_raw 26 = .ok (.iconst 0, 1) := by decide +kernel
theorem dX7_raw_27 : decode cX7_raw 27 = .ok (.iload_n 2, 1) := by decide +kernel
theorem dX7_raw_28 : decode cX7_raw 28 = .ok (.invokevirtual 59, 3) := by decide +kernel
theorem dX7_raw_31 : decode cX7_raw 31 = .ok (.invokevirtual 139, 3) := by decide +kernel
theorem dX7_raw_34 : decode cX7_raw 34 = .ok (.ifCond .eq 26, 3) := by decide +kernel
theorem dX7_raw_37 : decode cX7_raw 37 = .ok (.aload_n 0, 1) := by decide +kernel
theorem dX7_raw_38 : decode cX7_raw 38 = .ok (.aload_n 0, 1) := by decide +kernel
theorem dX7_raw_39 : decode cX7_raw 39 = .ok (.iload_n 3, 1) := by decide +kernel
theorem dX7_raw_40 : decode cX7_raw 40 = .ok (.bipush 20, 2) := by decide +kernel
theorem dX7_raw_42 : decode cX7_raw 42 = .ok (.iload_n 2, 1) := by decide +kernel
theorem dX7_raw_43 : decode cX7_raw 43 = .ok (.invokevirtual 59, 3) := by decide +kernel
theorem dX7_raw_46 : decode cX7_raw 46 = .ok (.aload_n 0, 1) := by decide +kernel
theorem dX7_raw_47 : decode cX7_raw 47 = .ok (.iload_n 3, 1) := by decide +kernel
theorem dX7_raw_48 : decode cX7_raw 48 = .ok (.bipush 40, 2) := by decide +kernel
theorem dX7_raw_50 : decode cX7_raw 50 = .ok (.iload_n 2, 1) := by decide +kernel
theorem dX7_raw_51 : decode cX7_raw 51 = .ok (.invokevirtual 59, 3) := by decide +kernel
theorem dX7_raw_54 : decode cX7_raw 54 = .ok (.invokevirtual 148, 3) := by decide +kernel
theorem dX7_raw_57 : decode cX7_raw 57 = .ok (.goto 5, 3) := by decide +kernel
theorem dX7_raw_60 : decode cX7_raw 60 = .ok (.ldc 92, 2) := by decide +kernel
theorem dX7_raw_62 : decode cX7_raw 62 = .ok (.ireturn, 1) := by decide +kernel
set_option maxRecDepth 20000 in
theorem ggX7_would_X7_areValues : GoodIn wsX7_would wsX7_areValues := goodIn_r _ [6, 7, 8, 9, 10, 5, 11] (by decide +kernel) (by decide +kernel)
set_option maxRecDepth 20000 in
theorem gX7_would_X7_areValues : GoodIn wsX7_would (va_wsS RX7 80 yX7_areValues wsX7_areValues) := goodIn_app (goodIn_of _ (by decide +kernel)) ggX7_would_X7_areValues
set_option maxRecDepth 20000 in
theorem ggX7_would_X7_hasBase : GoodIn wsX7_would wsX7_hasBase := goodIn_r _ [15, 16, 17, 18, 19, 20, 21, 5, 22, 23, 24, 25, 26, 27, 28, 36, 37, 38, 39, 40, 41, 42, 43, 44, 45, 46, 47, 48, 49, 50, 51, 52, 53, 54, 55, 56] (by decide +kernel) (by decide +kernel)
set_option maxRecDepth 20000 in
theorem gX7_would_X7_hasBase : GoodIn wsX7_would (wsV RX7 139 RX7 yX7_hasBase wsX7_hasBase) := goodIn_app (goodIn_of _ (by decide +kernel)) ggX7_would_X7_hasBase
set_option maxRecDepth 20000 in
theorem ggX7_would_X7_rawOf : GoodIn wsX7_would wsX7_rawOf := goodIn_r _ [32, 33, 18, 34, 35, 17, 16, 26, 27, 5, 28, 36, 37, 38, 39, 40, 41, 42, 43, 44, 45, 46, 47, 48, 49, 50, 51, 52, 53, 54, 55, 56] (by decide +kernel) (by decide +kernel)
set_option maxRecDepth 20000 in
theorem gX7_would_X7_rawOf : GoodIn wsX7_would (wsV RX7 148 RX7 yX7_rawOf wsX7_rawOf) := goodIn_app (goodIn_of _ (by decide +kernel)) ggX7_would_X7_rawOf
theorem dX7_would_0 : decode cX7_would 0 = .ok (.iload_n 1, 1) := by decide +kernel
theorem dX7_would_1 : decode cX7_would 1 = .ok (.iload_n 2, 1) := by decide +kernel
theorem dX7_would_2 : decode cX7_would 2 = .ok (.iload_n 3, 1) := by decide +kernel
theorem dX7_would_3 : decode cX7_would 3 = .ok (.invokestatic 80, 3) := by decide +kernel
theorem dX7_would_6 : decode cX7_would 6 = .ok (.ifCond .ne 6, 3) := by decide +kernel
theorem dX7_would_9 : decode cX7_would 9 = .ok (.ldc 55, 2) := by decide +kernel
theorem dX7_would_11 : decode cX7_would 11 = .ok (.ireturn, 1) := by decide +kernel
theorem dX7_would_12 : decode cX7_would 12 = .ok (.aload_n 0, 1) := by decide +kernel
theorem dX7_would_13 : decode cX7_would 13 = .ok (.iload_n 1, 1) := by decide +kernel
theorem dX7_would_14 : decode cX7_would 14 = .ok (.invokevirtual 139, 3) := by decide +kernel
theorem dX7_would_17 : decode cX7_would 17 = .ok (.ifCond .eq 12, 3) := by decide +kernel
theorem dX7_would_20 : decode cX7_would 20 = .ok (.aload_n 0, 1) := by decide +kernel
theorem dX7_would_21 : decode cX7_would 21 = .ok (.iload_n 2, 1) := by decide +kernel
theorem dX7_would_22 : decode cX7_would 22 = .ok (.iload_n 3, 1) := by decide +kernel
theorem dX7_would_23 : decode cX7_would 23 = .ok (.invokevirtual 148, 3) := by decide +kernel
theorem dX7_would_26 : decode cX7_would 26 = .ok (.goto 5, 3) := by decide +kernel
theorem dX7_would_29 : decode cX7_would 29 = .ok (.ldc 92, 2) := by decide +kernel
theorem dX7_would_31 : decode cX7_would 31 = .ok (.ireturn, 1) := by decide +kernel
set_option maxRecDepth 20000 in
theorem ggX7_pressureFor_X7_in : GoodIn wsX7_pressureFor wsX7_in := goodIn_r _ [10] (by decide +kernel) (by decide +kernel)
set_option maxRecDepth 20000 in
theorem gX7_pressureFor_X7_in : GoodIn wsX7_pressureFor (va_wsS RX7 39 yX7_in wsX7_in) := goodIn_app (goodIn_of _ (by decide +kernel)) ggX7_pressureFor_X7_in
set_option maxRecDepth 20000 in
theorem ggX7_pressureFor_X7_hasBase : GoodIn wsX7_pressureFor wsX7_hasBase := goodIn_r _ [14, 15, 16, 17, 18, 19, 20, 9, 21, 22, 23, 24, 25, 26, 27, 35, 36, 37, 38, 39, 40, 41, 42, 43, 44, 45, 46, 47, 48, 49, 50, 51, 52, 53, 54, 55] (by decide +kernel) (by decide +kernel)
set_option maxRecDepth 20000 in
theorem gX7_pressureFor_X7_hasBase : GoodIn wsX7_pressureFor (wsV RX7 139 RX7 yX7_hasBase wsX7_hasBase) := goodIn_app (goodIn_of _ (by decide +kernel)) ggX7_pressureFor_X7_hasBase
set_option maxRecDepth 20000 in
theorem ggX7_pressureFor_X7_rawOf : GoodIn wsX7_pressureFor wsX7_rawOf := goodIn_r _ [31, 32, 17, 33, 34, 16, 15, 25, 26, 9, 27, 35, 36, 37, 38, 39, 40, 41, 42, 43, 44, 45, 46, 47, 48, 49, 50, 51, 52, 53, 54, 55] (by decide +kernel) (by decide +kernel)
set_option maxRecDepth 20000 in
theorem gX7_pressureFor_X7_rawOf : GoodIn wsX7_pressureFor (wsV RX7 148 RX7 yX7_rawOf wsX7_rawOf) := goodIn_app (goodIn_of _ (by decide +kernel)) ggX7_pressureFor_X7_rawOf
theorem dX7_pressureFor_0 : decode cX7_pressureFor 0 = .ok (.iload_n 1, 1) := by decide +kernel
theorem dX7_pressureFor_1 : decode cX7_pressureFor 1 = .ok (.iconst 0, 1) := by decide +kernel
theorem dX7_pressureFor_2 : decode cX7_pressureFor 2 = .ok (.sipush 10000, 3) := by decide +kernel
theorem dX7_pressureFor_5 : decode cX7_pressureFor 5 = .ok (.invokestatic 39, 3) := by decide +kernel
theorem dX7_pressureFor_8 : decode cX7_pressureFor 8 = .ok (.ifCond .eq 27, 3) := by decide +kernel
theorem dX7_pressureFor_11 : decode cX7_pressureFor 11 = .ok (.iload_n 2, 1) := by decide +kernel
theorem dX7_pressureFor_12 : decode cX7_pressureFor 12 = .ok (.sipush (-300), 3) := by decide +kernel
theorem dX7_pressureFor_15 : decode cX7_pressureFor 15 = .ok (.sipush 500, 3) := by decide +kernel
theorem dX7_pressureFor_18 : decode cX7_pressureFor 18 = .ok (.invokestatic 39, 3) := by decide +kernel
theorem dX7_pressureFor_21 : decode cX7_pressureFor 21 = .ok (.ifCond .eq 14, 3) := by decide +kernel
theorem dX7_pressureFor_24 : decode cX7_pressureFor 24 = .ok (.iload_n 3, 1) := by decide +kernel
theorem dX7_pressureFor_25 : decode cX7_pressureFor 25 = .ok (.ldc 152, 2) := by decide +kernel
theorem dX7_pressureFor_27 : decode cX7_pressureFor 27 = .ok (.ldc 153, 2) := by decide +kernel
theorem dX7_pressureFor_29 : decode cX7_pressureFor 29 = .ok (.invokestatic 39, 3) := by decide +kernel
theorem dX7_pressureFor_32 : decode cX7_pressureFor 32 = .ok (.ifCond .ne 6, 3) := by decide +kernel
theorem dX7_pressureFor_35 : decode cX7_pressureFor 35 = .ok (.ldc 55, 2) := by decide +kernel
theorem dX7_pressureFor_37 : decode cX7_pressureFor 37 = .ok (.ireturn, 1) := by decide +kernel
theorem dX7_pressureFor_38 : decode cX7_pressureFor 38 = .ok (.aload_n 0, 1) := by decide +kernel
theorem dX7_pressureFor_39 : decode cX7_pressureFor 39 = .ok (.iload_n 1, 1) := by decide +kernel
theorem dX7_pressureFor_40 : decode cX7_pressureFor 40 = .ok (.invokevirtual 139, 3) := by decide +kernel
theorem dX7_pressureFor_43 : decode cX7_pressureFor 43 = .ok (.ifCond .ne 6, 3) := by decide +kernel
theorem dX7_pressureFor_46 : decode cX7_pressureFor 46 = .ok (.ldc 92, 2) := by decide +kernel
theorem dX7_pressureFor_48 : decode cX7_pressureFor 48 = .ok (.ireturn, 1) := by decide +kernel
theorem dX7_pressureFor_49 : decode cX7_pressureFor 49 = .ok (.ldc 44, 2) := by decide +kernel
theorem dX7_pressureFor_51 : decode cX7_pressureFor 51 = .ok (.istore 4, 2) := by decide +kernel
theorem dX7_pressureFor_53 : decode cX7_pressureFor 53 = .ok (.iload 4, 2) := by decide +kernel
theorem dX7_pressureFor_55 : decode cX7_pressureFor 55 = .ok (.ldc 43, 2) := by decide +kernel
theorem dX7_pressureFor_57 : decode cX7_pressureFor 57 = .ok (.if_icmp .lt 23, 3) := by decide +kernel
theorem dX7_pressureFor_60 : decode cX7_pressureFor 60 = .ok (.aload_n 0, 1) := by decide +kernel
theorem dX7_pressureFor_61 : decode cX7_pressureFor 61 = .ok (.iload 4, 2) := by decide +kernel
theorem dX7_pressureFor_63 : decode cX7_pressureFor 63 = .ok (.iload_n 2, 1) := by decide +kernel
theorem dX7_pressureFor_64 : decode cX7_pressureFor 64 = .ok (.invokevirtual 148, 3) := by decide +kernel
theorem dX7_pressureFor_67 : decode cX7_pressureFor 67 = .ok (.iload_n 3, 1) := by decide +kernel
theorem dX7_pressureFor_68 : decode cX7_pressureFor 68 = .ok (.if_icmp .lt 6, 3) := by decide +kernel
theorem dX7_pressureFor_71 : decode cX7_pressureFor 71 = .ok (.iload 4, 2) := by decide +kernel
theorem dX7_pressureFor_73 : decode cX7_pressureFor 73 = .ok (.ireturn, 1) := by decide +kernel
theorem dX7_pressureFor_74 : decode cX7_pressureFor 74 = .ok (.iinc 4 (-1), 3) := by decide +kernel
theorem dX7_pressureFor_77 : decode cX7_pressureFor 77 = .ok (.goto (-24), 3) := by decide +kernel
theorem dX7_pressureFor_80 : decode cX7_pressureFor 80 = .ok (.ldc 92, 2) := by decide +kernel
theorem dX7_pressureFor_82 : decode cX7_pressureFor 82 = .ok (.ireturn, 1) := by decide +kernel
set_option maxRecDepth 20000 in
theorem ggX7_looks_X7_isGust : GoodIn wsX7_looks wsX7_isGust := goodIn_r _ [11, 2, 12, 13, 14, 10, 15, 35, 36, 37, 38, 39, 40, 41, 42, 43, 44, 45, 46, 47, 48, 49, 50, 51, 52, 53, 54, 55] (by decide +kernel) (by decide +kernel)
set_option maxRecDepth 20000 in
theorem gX7_looks_X7_isGust : GoodIn wsX7_looks (wsV RX7 93 RX7 yX7_isGust wsX7_isGust) := goodIn_app (goodIn_of _ (by decide +kernel)) ggX7_looks_X7_isGust
set_option maxRecDepth 20000 in
theorem ggX7_looks_X7_of : GoodIn wsX7_looks wsX7_of := goodIn_r _ [15, 2, 35, 36, 37, 38, 39, 40, 41, 42, 43, 44, 45, 46, 47, 48, 49, 50, 51, 52, 53, 54, 55] (by decide +kernel) (by decide +kernel)
set_option maxRecDepth 20000 in
theorem gX7_looks_X7_of : GoodIn wsX7_looks (wsV RX7 59 RX7 yX7_of wsX7_of) := goodIn_app (goodIn_of _ (by decide +kernel)) ggX7_looks_X7_of
set_option maxRecDepth 20000 in
theorem ggX7_looks_X7_hasBase : GoodIn wsX7_looks wsX7_hasBase := goodIn_r _ [19, 2, 20, 21, 12, 13, 14, 10, 15, 22, 23, 24, 25, 26, 27, 35, 36, 37, 38, 39, 40, 41, 42, 43, 44, 45, 46, 47, 48, 49, 50, 51, 52, 53, 54, 55] (by decide +kernel) (by decide +kernel)
set_option maxRecDepth 20000 in
theorem gX7_looks_X7_hasBase : GoodIn wsX7_looks (wsV RX7 139 RX7 yX7_hasBase wsX7_hasBase) := goodIn_app (goodIn_of _ (by decide +kernel)) ggX7_looks_X7_hasBase
set_option maxRecDepth 20000 in
theorem ggX7_looks_X7_rawOf : GoodIn wsX7_looks wsX7_rawOf := goodIn_r _ [31, 32, 21, 33, 34, 20, 2, 25, 26, 10, 27, 35, 36, 37, 38, 39, 40, 41, 42, 43, 44, 45, 46, 47, 48, 49, 50, 51, 52, 53, 54, 55] (by decide +kernel) (by decide +kernel)
set_option maxRecDepth 20000 in
theorem gX7_looks_X7_rawOf : GoodIn wsX7_looks (wsV RX7 148 RX7 yX7_rawOf wsX7_rawOf) := goodIn_app (goodIn_of _ (by decide +kernel)) ggX7_looks_X7_rawOf
theorem dX7_looks_0 : decode cX7_looks 0 = .ok (.aload_n 0, 1) := by decide +kernel
theorem dX7_looks_1 : decode cX7_looks 1 = .ok (.iconst 0, 1) := by decide +kernel
theorem dX7_looks_2 : decode cX7_looks 2 = .ok (.putfield 104, 3) := by decide +kernel
theorem dX7_looks_5 : decode cX7_looks 5 = .ok (.iconst 0, 1) := by decide +kernel
theorem dX7_looks_6 : decode cX7_looks 6 = .ok (.istore_n 2, 1) := by decide +kernel
theorem dX7_looks_7 : decode cX7_looks 7 = .ok (.iload_n 2, 1) := by decide +kernel
theorem dX7_looks_8 : decode cX7_looks 8 = .ok (.aload_n 0, 1) := by decide +kernel
theorem dX7_looks_9 : decode cX7_looks 9 = .ok (.getfield 7, 3) := by decide +kernel
theorem dX7_looks_12 : decode cX7_looks 12 = .ok (.iconst 3, 1) := by decide +kernel
theorem dX7_looks_13 : decode cX7_looks 13 = .ok (.iload_n 1, 1) := by decide +kernel
theorem dX7_looks_14 : decode cX7_looks 14 = .ok (.iadd, 1) := by decide +kernel
theorem dX7_looks_15 : decode cX7_looks 15 = .ok (.iaload, 1) := by decide +kernel
theorem dX7_looks_16 : decode cX7_looks 16 = .ok (.if_icmp .ge 167, 3) := by decide +kernel
theorem dX7_looks_19 : decode cX7_looks 19 = .ok (.aload_n 0, 1) := by decide +kernel
theorem dX7_looks_20 : decode cX7_looks 20 = .ok (.getfield 29, 3) := by decide +kernel
theorem dX7_looks_23 : decode cX7_looks 23 = .ok (.iload_n 2, 1) := by decide +kernel
theorem dX7_looks_24 : decode cX7_looks 24 = .ok (.aload_n 0, 1) := by decide +kernel
theorem dX7_looks_25 : decode cX7_looks 25 = .ok (.iload_n 1, 1) := by decide +kernel
theorem dX7_looks_26 : decode cX7_looks 26 = .ok (.iload_n 2, 1) := by decide +kernel
theorem dX7_looks_27 : decode cX7_looks 27 = .ok (.invokevirtual 93, 3) := by decide +kernel
theorem dX7_looks_30 : decode cX7_looks 30 = .ok (.ifCond .ne 21, 3) := by decide +kernel
theorem dX7_looks_33 : decode cX7_looks 33 = .ok (.aload_n 0, 1) := by decide +kernel
theorem dX7_looks_34 : decode cX7_looks 34 = .ok (.aload_n 0, 1) := by decide +kernel
theorem dX7_looks_35 : decode cX7_looks 35 = .ok (.iload_n 1, 1) := by decide +kernel
theorem dX7_looks_36 : decode cX7_looks 36 = .ok (.iconst 0, 1) := by decide +kernel
theorem dX7_looks_37 : decode cX7_looks 37 = .ok (.iload_n 2, 1) := by decide +kernel
theorem dX7_looks_38 : decode cX7_looks 38 = .ok (.invokevirtual 59, 3) := by decide +kernel
theorem dX7_looks_41 : decode cX7_looks 41 = .ok (.invokevirtual 139, 3) := by decide +kernel
theorem dX7_looks_44 : decode cX7_looks 44 = .ok (.ifCond .eq 7, 3) := by decide +kernel
theorem dX7_looks_47 : decode cX7_looks 47 = .ok (.iconst 1, 1) := by decide +kernel
theorem dX7_looks_48 : decode cX7_looks 48 = .ok (.goto 4, 3) := by decide +kernel
theorem dX7_looks_51 : decode cX7_looks 51 = .ok (.iconst 0, 1) := by decide +kernel
theorem dX7_looks_52 : decode cX7_looks 52 = .ok (.bastore, 1) := by decide +kernel
theorem dX7_looks_53 : decode cX7_looks 53 = .ok (.aload_n 0, 1) := by decide +kernel
theorem dX7_looks_54 : decode cX7_looks 54 = .ok (.getfield 26, 3) := by decide +kernel
theorem dX7_looks_57 : decode cX7_looks 57 = .ok (.iload_n 2, 1) := by decide +kernel
theorem dX7_looks_58 : decode cX7_looks 58 = .ok (.aload_n 0, 1) := by decide +kernel
theorem dX7_looks_59 : decode cX7_looks 59 = .ok (.getfield 29, 3) := by decide +kernel
theorem dX7_looks_62 : decode cX7_looks 62 = .ok (.iload_n 2, 1) := by decide +kernel
theorem dX7_looks_63 : decode cX7_looks 63 = .ok (.baload, 1) := by decide +kernel
theorem dX7_looks_64 : decode cX7_looks 64 = .ok (.ifCond .eq 26, 3) := by decide +kernel
theorem dX7_looks_67 : decode cX7_looks 67 = .ok (.aload_n 0, 1) := by decide +kernel
theorem dX7_looks_68 : decode cX7_looks 68 = .ok (.aload_n 0, 1) := by decide +kernel
theorem dX7_looks_69 : decode cX7_looks 69 = .ok (.iload_n 1, 1) := by decide +kernel
theorem dX7_looks_70 : decode cX7_looks 70 = .ok (.bipush 20, 2) := by decide +kernel
theorem dX7_looks_72 : decode cX7_looks 72 = .ok (.iload_n 2, 1) := by decide +kernel
theorem dX7_looks_73 : decode cX7_looks 73 = .ok (.invokevirtual 59, 3) := by decide +kernel
theorem dX7_looks_76 : decode cX7_looks 76 = .ok (.aload_n 0, 1) := by decide +kernel
theorem dX7_looks_77 : decode cX7_looks 77 = .ok (.iload_n 1, 1) := by decide +kernel
theorem dX7_looks_78 : decode cX7_looks 78 = .ok (.bipush 40, 2) := by decide +kernel
theorem dX7_looks_80 : decode cX7_looks 80 = .ok (.iload_n 2, 1) := by decide +kernel
theorem dX7_looks_81 : decode cX7_looks 81 = .ok (.invokevirtual 59, 3) := by decide +kernel
theorem dX7_looks_84 : decode cX7_looks 84 = .ok (.invokevirtual 148, 3) := by decide +kernel
theorem dX7_looks_87 : decode cX7_looks 87 = .ok (.goto 4, 3) := by decide +kernel
theorem dX7_looks_90 : decode cX7_looks 90 = .ok (.iconst 0, 1) := by decide +kernel
theorem dX7_looks_91 : decode cX7_looks 91 = .ok (.iastore, 1) := by decide +kernel
theorem dX7_looks_92 : decode cX7_looks 92 = .ok (.iload_n 2, 1) := by decide +kernel
theorem dX7_looks_93 : decode cX7_looks 93 = .ok (.iconst 1, 1) := by decide +kernel
theorem dX7_looks_94 : decode cX7_looks 94 = .ok (.isub, 1) := by decide +kernel
theorem dX7_looks_95 : decode cX7_looks 95 = .ok (.istore_n 3, 1) := by decide +kernel
theorem dX7_looks_96 : decode cX7_looks 96 = .ok (.iload_n 3, 1) := by decide +kernel
theorem dX7_looks_97 : decode cX7_looks 97 = .ok (.ifCond .lt 37, 3) := by decide +kernel
theorem dX7_looks_100 : decode cX7_looks 100 = .ok (.aload_n 0, 1) := by decide +kernel
theorem dX7_looks_101 : decode cX7_looks 101 = .ok (.getfield 29, 3) := by decide +kernel
theorem dX7_looks_104 : decode cX7_looks 104 = .ok (.iload_n 3, 1) := by decide +kernel
theorem dX7_looks_105 : decode cX7_looks 105 = .ok (.baload, 1) := by decide +kernel
theorem dX7_looks_106 : decode cX7_looks 106 = .ok (.ifCond .eq 22, 3) := by decide +kernel
theorem dX7_looks_109 : decode cX7_looks 109 = .ok (.aload_n 0, 1) := by decide +kernel
theorem dX7_looks_110 : decode cX7_looks 110 = .ok (.iload_n 1, 1) := by decide +kernel
theorem dX7_looks_111 : decode cX7_looks 111 = .ok (.bipush 60, 2) := by decide +kernel
theorem dX7_looks_113 : decode cX7_looks 113 = .ok (.iload_n 3, 1) := by decide +kernel
theorem dX7_looks_114 : decode cX7_looks 114 = .ok (.invokevirtual 59, 3) := by decide +kernel
theorem dX7_looks_117 : decode cX7_looks 117 = .ok (.aload_n 0, 1) := by decide +kernel
theorem dX7_looks_118 : decode cX7_looks 118 = .ok (.iload_n 1, 1) := by decide +kernel
theorem dX7_looks_119 : decode cX7_looks 119 = .ok (.bipush 60, 2) := by decide +kernel
theorem dX7_looks_121 : decode cX7_looks 121 = .ok (.iload_n 2, 1) := by decide +kernel
theorem dX7_looks_122 : decode cX7_looks 122 = .ok (.invokevirtual 59, 3) := by decide +kernel
theorem dX7_looks_125 : decode cX7_looks 125 = .ok (.if_icmp .eq 9, 3) := by decide +kernel
theorem dX7_looks_128 : decode cX7_looks 128 = .ok (.iinc 3 (-1), 3) := by decide +kernel
theorem dX7_looks_131 : decode cX7_looks 131 = .ok (.goto (-35), 3) := by decide +kernel
theorem dX7_looks_134 : decode cX7_looks 134 = .ok (.aload_n 0, 1) := by decide +kernel
theorem dX7_looks_135 : decode cX7_looks 135 = .ok (.getfield 29, 3) := by decide +kernel
theorem dX7_looks_138 : decode cX7_looks 138 = .ok (.iload_n 2, 1) := by decide +kernel
theorem dX7_looks_139 : decode cX7_looks 139 = .ok (.baload, 1) := by decide +kernel
theorem dX7_looks_140 : decode cX7_looks 140 = .ok (.ifCond .eq 37, 3) := by decide +kernel
theorem dX7_looks_143 : decode cX7_looks 143 = .ok (.iload_n 3, 1) := by decide +kernel
theorem dX7_looks_144 : decode cX7_looks 144 = .ok (.ifCond .lt 33, 3) := by decide +kernel
theorem dX7_looks_147 : decode cX7_looks 147 = .ok (.aload_n 0, 1) := by decide +kernel
theorem dX7_looks_148 : decode cX7_looks 148 = .ok (.getfield 33, 3) := by decide +kernel
theorem dX7_looks_151 : decode cX7_looks 151 = .ok (.aload_n 0, 1) := by decide +kernel
theorem dX7_looks_152 : decode cX7_looks 152 = .ok (.getfield 104, 3) := by decide +kernel
theorem dX7_looks_155 : decode cX7_looks 155 = .ok (.iload_n 3, 1) := by decide +kernel
theorem dX7_looks_156 : decode cX7_looks 156 = .ok (.iastore, 1) := by decide +kernel
theorem dX7_looks_157 : decode cX7_looks 157 = .ok (.aload_n 0, 1) := by decide +kernel
theorem dX7_looks_158 : decode cX7_looks 158 = .ok (.getfield 36, 3) := by decide +kernel
theorem dX7_looks_161 : decode cX7_looks 161 = .ok (.aload_n 0, 1) := by decide +kernel
theorem dX7_looks_162 : decode cX7_looks 162 = .ok (.getfield 104, 3) := by decide +kernel
theorem dX7_looks_165 : decode cX7_looks 165 = .ok (.iload_n 2, 1) := by decide +kernel
theorem dX7_looks_166 : decode cX7_looks 166 = .ok (.iastore, 1) := by decide +kernel
theorem dX7_looks_167 : decode cX7_looks 167 = .ok (.aload_n 0, 1) := by decide +kernel
theorem dX7_looks_168 : decode cX7_looks 168 = .ok (.dup, 1) := by decide +kernel
theorem dX7_looks_169 : decode cX7_looks 169 = .ok (.getfield 104, 3) := by decide +kernel
theorem dX7_looks_172 : decode cX7_looks 172 = .ok (.iconst 1, 1) := by decide +kernel
theorem dX7_looks_173 : decode cX7_looks 173 = .ok (.iadd, 1) := by decide +kernel
theorem dX7_looks_174 : decode cX7_looks 174 = .ok (.putfield 104, 3) := by decide +kernel
theorem dX7_looks_177 : decode cX7_looks 177 = .ok (.iinc 2 1, 3) := by decide +kernel
theorem dX7_looks_180 : decode cX7_looks 180 = .ok (.goto (-173), 3) := by decide +kernel
theorem dX7_looks_183 : decode cX7_looks 183 = .ok (.return_, 1) := by decide +kernel
set_option maxRecDepth 20000 in
theorem ggX7_timeOf_X7_of : GoodIn wsX7_timeOf wsX7_of := goodIn_r _ [7, 8, 9, 10, 11, 12, 13, 14, 15, 16, 17, 18, 19, 20, 21, 22, 23, 24, 25, 26, 27, 28, 29] (by decide +kernel) (by decide +kernel)
set_option maxRecDepth 20000 in
theorem gX7_timeOf_X7_of : GoodIn wsX7_timeOf (wsV RX7 59 RX7 yX7_of wsX7_of) := goodIn_app (goodIn_of _ (by decide +kernel)) ggX7_timeOf_X7_of
theorem dX7_timeOf_0 : decode cX7_timeOf 0 = .ok (.aload_n 0, 1) := by decide +kernel
theorem dX7_timeOf_1 : decode cX7_timeOf 1 = .ok (.iload_n 1, 1) := by decide +kernel
theorem dX7_timeOf_2 : decode cX7_timeOf 2 = .ok (.iconst 0, 1) := by decide +kernel
theorem dX7_timeOf_3 : decode cX7_timeOf 3 = .ok (.aload_n 0, 1) := by decide +kernel
theorem dX7_timeOf_4 : decode cX7_timeOf 4 = .ok (.getfield 36, 3) := by decide +kernel
theorem dX7_timeOf_7 : decode cX7_timeOf 7 = .ok (.iload_n 2, 1) := by decide +kernel
theorem dX7_timeOf_8 : decode cX7_timeOf 8 = .ok (.iaload, 1) := by decide +kernel
theorem dX7_timeOf_9 : decode cX7_timeOf 9 = .ok (.invokevirtual 59, 3) := by decide +kernel
theorem dX7_timeOf_12 : decode cX7_timeOf 12 = .ok (.aload_n 0, 1) := by decide +kernel
theorem dX7_timeOf_13 : decode cX7_timeOf 13 = .ok (.iload_n 1, 1) := by decide +kernel
theorem dX7_timeOf_14 : decode cX7_timeOf 14 = .ok (.iconst 0, 1) := by decide +kernel
theorem dX7_timeOf_15 : decode cX7_timeOf 15 = .ok (.aload_n 0, 1) := by decide +kernel
theorem dX7_timeOf_16 : decode cX7_timeOf 16 = .ok (.getfield 33, 3) := by decide +kernel
theorem dX7_timeOf_19 : decode cX7_timeOf 19 = .ok (.iload_n 2, 1) := by decide +kernel
theorem dX7_timeOf_20 : decode cX7_timeOf 20 = .ok (.iaload, 1) := by decide +kernel
theorem dX7_timeOf_21 : decode cX7_timeOf 21 = .ok (.invokevirtual 59, 3) := by decide +kernel
theorem dX7_timeOf_24 : decode cX7_timeOf 24 = .ok (.isub, 1) := by decide +kernel
theorem dX7_timeOf_25 : decode cX7_timeOf 25 = .ok (.ireturn, 1) := by decide +kernel
set_option maxRecDepth 20000 in
theorem ggX7_open_X7_timeOf : GoodIn wsX7_open wsX7_timeOf := goodIn_r _ [8, 3, 2, 9, 10, 11, 7, 12, 13, 14, 15, 16, 17, 18, 19, 20, 21, 22, 23, 24, 25, 26, 27, 28, 29, 30, 31, 32, 33, 34] (by decide +kernel) (by decide +kernel)
set_option maxRecDepth 20000 in
theorem gX7_open_X7_timeOf : GoodIn wsX7_open (wsV RX7 154 RX7 yX7_timeOf wsX7_timeOf) := goodIn_app (goodIn_of _ (by decide +kernel)) ggX7_open_X7_timeOf
theorem dX7_open_0 : decode cX7_open 0 = .ok (.iconst (-1), 1) := by decide +kernel
theorem dX7_open_1 : decode cX7_open 1 = .ok (.istore_n 3, 1) := by decide +kernel
theorem dX7_open_2 : decode cX7_open 2 = .ok (.iconst 0, 1) := by decide +kernel
theorem dX7_open_3 : decode cX7_open 3 = .ok (.istore 4, 2) := by decide +kernel
theorem dX7_open_5 : decode cX7_open 5 = .ok (.iload 4, 2) := by decide +kernel
theorem dX7_open_7 : decode cX7_open 7 = .ok (.aload_n 0, 1) := by decide +kernel
theorem dX7_open_8 : decode cX7_open 8 = .ok (.getfield 104, 3) := by decide +kernel
theorem dX7_open_11 : decode cX7_open 11 = .ok (.if_icmp .ge 71, 3) := by decide +kernel
theorem dX7_open_14 : decode cX7_open 14 = .ok (.aload_n 0, 1) := by decide +kernel
theorem dX7_open_15 : decode cX7_open 15 = .ok (.getfield 33, 3) := by decide +kernel
theorem dX7_open_18 : decode cX7_open 18 = .ok (.iload 4, 2) := by decide +kernel
theorem dX7_open_20 : decode cX7_open 20 = .ok (.iaload, 1) := by decide +kernel
theorem dX7_open_21 : decode cX7_open 21 = .ok (.iload_n 2, 1) := by decide +kernel
theorem dX7_open_22 : decode cX7_open 22 = .ok (.if_icmp .gt 39, 3) := by decide +kernel
theorem dX7_open_25 : decode cX7_open 25 = .ok (.iload_n 2, 1) := by decide +kernel
theorem dX7_open_26 : decode cX7_open 26 = .ok (.aload_n 0, 1) := by decide +kernel
theorem dX7_open_27 : decode cX7_open 27 = .ok (.getfield 36, 3) := by decide +kernel
theorem dX7_open_30 : decode cX7_open 30 = .ok (.iload 4, 2) := by decide +kernel
theorem dX7_open_32 : decode cX7_open 32 = .ok (.iaload, 1) := by decide +kernel
theorem dX7_open_33 : decode cX7_open 33 = .ok (.if_icmp .gt 28, 3) := by decide +kernel
theorem dX7_open_36 : decode cX7_open 36 = .ok (.iload_n 3, 1) := by decide +kernel
theorem dX7_open_37 : decode cX7_open 37 = .ok (.iconst (-1), 1) := by decide +kernel
theorem dX7_open_38 : decode cX7_open 38 = .ok (.if_icmp .eq 19, 3) := by decide +kernel
theorem dX7_open_41 : decode cX7_open 41 = .ok (.aload_n 0, 1) := by decide +kernel
theorem dX7_open_42 : decode cX7_open 42 = .ok (.iload_n 1, 1) := by decide +kernel
theorem dX7_open_43 : decode cX7_open 43 = .ok (.iload 4, 2) := by decide +kernel
theorem dX7_open_45 : decode cX7_open 45 = .ok (.invokevirtual 154, 3) := by decide +kernel
theorem dX7_open_48 : decode cX7_open 48 = .ok (.aload_n 0, 1) := by decide +kernel
theorem dX7_open_49 : decode cX7_open 49 = .ok (.iload_n 1, 1) := by decide +kernel
theorem dX7_open_50 : decode cX7_open 50 = .ok (.iload_n 3, 1) := by decide +kernel
theorem dX7_open_51 : decode cX7_open 51 = .ok (.invokevirtual 154, 3) := by decide +kernel
theorem dX7_open_54 : decode cX7_open 54 = .ok (.if_icmp .ge 7, 3) := by decide +kernel
theorem dX7_open_57 : decode cX7_open 57 = .ok (.iconst 1, 1) := by decide +kernel
theorem dX7_open_58 : decode cX7_open 58 = .ok (.goto 4, 3) := by decide +kernel
theorem dX7_open_61 : decode cX7_open 61 = .ok (.iconst 0, 1) := by decide +kernel
theorem dX7_open_62 : decode cX7_open 62 = .ok (.istore 5, 2) := by decide +kernel
theorem dX7_open_64 : decode cX7_open 64 = .ok (.iload 5, 2) := by decide +kernel
theorem dX7_open_66 : decode cX7_open 66 = .ok (.ifCond .eq 8, 3) := by decide +kernel
theorem dX7_open_69 : decode cX7_open 69 = .ok (.iload 4, 2) := by decide +kernel
theorem dX7_open_71 : decode cX7_open 71 = .ok (.goto 4, 3) := by decide +kernel
theorem dX7_open_74 : decode cX7_open 74 = .ok (.iload_n 3, 1) := by decide +kernel
theorem dX7_open_75 : decode cX7_open 75 = .ok (.istore_n 3, 1) := by decide +kernel
theorem dX7_open_76 : decode cX7_open 76 = .ok (.iinc 4 1, 3) := by decide +kernel
theorem dX7_open_79 : decode cX7_open 79 = .ok (.goto (-74), 3) := by decide +kernel
theorem dX7_open_82 : decode cX7_open 82 = .ok (.iload_n 3, 1) := by decide +kernel
theorem dX7_open_83 : decode cX7_open 83 = .ok (.ireturn, 1) := by decide +kernel
set_option maxRecDepth 20000 in
theorem ggX7_correctedOf_X7_open : GoodIn wsX7_correctedOf wsX7_open := goodIn_r _ [8, 9, 3, 2, 10, 11, 12, 7, 13, 14, 15, 16, 17, 18, 22, 23, 24, 25, 26, 27, 28, 29, 30, 31, 32, 33, 34, 35, 36, 37, 38, 39, 40, 41, 42] (by decide +kernel) (by decide +kernel)
set_option maxRecDepth 20000 in
theorem gX7_correctedOf_X7_open : GoodIn wsX7_correctedOf (wsV RX7 157 RX7 yX7_open wsX7_open) := goodIn_app (goodIn_of _ (by decide +kernel)) ggX7_correctedOf_X7_open
set_option maxRecDepth 20000 in
theorem ggX7_correctedOf_X7_of : GoodIn wsX7_correctedOf wsX7_of := goodIn_r _ [17, 18, 22, 23, 24, 25, 26, 27, 28, 29, 30, 31, 32, 33, 34, 35, 36, 37, 38, 39, 40, 41, 42] (by decide +kernel) (by decide +kernel)
set_option maxRecDepth 20000 in
theorem gX7_correctedOf_X7_of : GoodIn wsX7_correctedOf (wsV RX7 59 RX7 yX7_of wsX7_of) := goodIn_app (goodIn_of _ (by decide +kernel)) ggX7_correctedOf_X7_of
set_option maxRecDepth 20000 in
theorem ggX7_correctedOf_X7_timeOf : GoodIn wsX7_correctedOf wsX7_timeOf := goodIn_r _ [13, 2, 3, 14, 15, 16, 7, 17, 18, 22, 23, 24, 25, 26, 27, 28, 29, 30, 31, 32, 33, 34, 35, 36, 37, 38, 39, 40, 41, 42] (by decide +kernel) (by decide +kernel)
set_option maxRecDepth 20000 in
theorem gX7_correctedOf_X7_timeOf : GoodIn wsX7_correctedOf (wsV RX7 154 RX7 yX7_timeOf wsX7_timeOf) := goodIn_app (goodIn_of _ (by decide +kernel)) ggX7_correctedOf_X7_timeOf
set_option maxRecDepth 20000 in
theorem ggX7_correctedOf_X7_down : GoodIn wsX7_correctedOf wsX7_down := goodIn_r _ [21] (by decide +kernel) (by decide +kernel)
set_option maxRecDepth 20000 in
theorem gX7_correctedOf_X7_down : GoodIn wsX7_correctedOf (va_wsS RX7 126 yX7_down wsX7_down) := goodIn_app (goodIn_of _ (by decide +kernel)) ggX7_correctedOf_X7_down
theorem dX7_correctedOf_0 : decode cX7_correctedOf 0 = .ok (.aload_n 0, 1) := by decide +kernel
theorem dX7_correctedOf_1 : decode cX7_correctedOf 1 = .ok (.iload_n 1, 1) := by decide +kernel
theorem dX7_correctedOf_2 : decode cX7_correctedOf 2 = .ok (.iload_n 2, 1) := by decide +kernel
theorem dX7_correctedOf_3 : decode cX7_correctedOf 3 = .ok (.invokevirtual 157, 3) := by decide +kernel
theorem dX7_correctedOf_6 : decode cX7_correctedOf 6 = .ok (.istore_n 3, 1) := by decide +kernel
theorem dX7_correctedOf_7 : decode cX7_correctedOf 7 = .ok (.iload_n 3, 1) := by decide +kernel
theorem dX7_correctedOf_8 : decode cX7_correctedOf 8 = .ok (.iconst (-1), 1) := by decide +kernel
theorem dX7_correctedOf_9 : decode cX7_correctedOf 9 = .ok (.if_icmp .ne 10, 3) := by decide +kernel
theorem dX7_correctedOf_12 : decode cX7_correctedOf 12 = .ok (.aload_n 0, 1) := by decide +kernel
theorem dX7_correctedOf_13 : decode cX7_correctedOf 13 = .ok (.getfield 26, 3) := by decide +kernel
theorem dX7_correctedOf_16 : decode cX7_correctedOf 16 = .ok (.iload_n 2, 1) := by decide +kernel
theorem dX7_correctedOf_17 : decode cX7_correctedOf 17 = .ok (.iaload, 1) := by decide +kernel
theorem dX7_correctedOf_18 : decode cX7_correctedOf 18 = .ok (.ireturn, 1) := by decide +kernel
theorem dX7_correctedOf_19 : decode cX7_correctedOf 19 = .ok (.aload_n 0, 1) := by decide +kernel
theorem dX7_correctedOf_20 : decode cX7_correctedOf 20 = .ok (.getfield 26, 3) := by decide +kernel
theorem dX7_correctedOf_23 : decode cX7_correctedOf 23 = .ok (.aload_n 0, 1) := by decide +kernel
theorem dX7_correctedOf_24 : decode cX7_correctedOf 24 = .ok (.getfield 36, 3) := by decide +kernel
theorem dX7_correctedOf_27 : decode cX7_correctedOf 27 = .ok (.iload_n 3, 1) := by decide +kernel
theorem dX7_correctedOf_28 : decode cX7_correctedOf 28 = .ok (.iaload, 1) := by decide +kernel
theorem dX7_correctedOf_29 : decode cX7_correctedOf 29 = .ok (.iaload, 1) := by decide +kernel
theorem dX7_correctedOf_30 : decode cX7_correctedOf 30 = .ok (.aload_n 0, 1) := by decide +kernel
theorem dX7_correctedOf_31 : decode cX7_correctedOf 31 = .ok (.getfield 26, 3) := by decide +kernel
theorem dX7_correctedOf_34 : decode cX7_correctedOf 34 = .ok (.aload_n 0, 1) := by decide +kernel
theorem dX7_correctedOf_35 : decode cX7_correctedOf 35 = .ok (.getfield 33, 3) := by decide +kernel
theorem dX7_correctedOf_38 : decode cX7_correctedOf 38 = .ok (.iload_n 3, 1) := by decide +kernel
theorem dX7_correctedOf_39 : decode cX7_correctedOf 39 = .ok (.iaload, 1) := by decide +kernel
theorem dX7_correctedOf_40 : decode cX7_correctedOf 40 = .ok (.iaload, 1) := by decide +kernel
theorem dX7_correctedOf_41 : decode cX7_correctedOf 41 = .ok (.isub, 1) := by decide +kernel
theorem dX7_correctedOf_42 : decode cX7_correctedOf 42 = .ok (.i2l, 1) := by decide +kernel
theorem dX7_correctedOf_43 : decode cX7_correctedOf 43 = .ok (.lstore 4, 2) := by decide +kernel
theorem dX7_correctedOf_45 : decode cX7_correctedOf 45 = .ok (.aload_n 0, 1) := by decide +kernel
theorem dX7_correctedOf_46 : decode cX7_correctedOf 46 = .ok (.iload_n 1, 1) := by decide +kernel
theorem dX7_correctedOf_47 : decode cX7_correctedOf 47 = .ok (.iconst 0, 1) := by decide +kernel
theorem dX7_correctedOf_48 : decode cX7_correctedOf 48 = .ok (.iload_n 2, 1) := by decide +kernel
theorem dX7_correctedOf_49 : decode cX7_correctedOf 49 = .ok (.invokevirtual 59, 3) := by decide +kernel
theorem dX7_correctedOf_52 : decode cX7_correctedOf 52 = .ok (.aload_n 0, 1) := by decide +kernel
theorem dX7_correctedOf_53 : decode cX7_correctedOf 53 = .ok (.iload_n 1, 1) := by decide +kernel
theorem dX7_correctedOf_54 : decode cX7_correctedOf 54 = .ok (.iconst 0, 1) := by decide +kernel
theorem dX7_correctedOf_55 : decode cX7_correctedOf 55 = .ok (.aload_n 0, 1) := by decide +kernel
theorem dX7_correctedOf_56 : decode cX7_correctedOf 56 = .ok (.getfield 33, 3) := by decide +kernel
theorem dX7_correctedOf_59 : decode cX7_correctedOf 59 = .ok (.iload_n 3, 1) := by decide +kernel
theorem dX7_correctedOf_60 : decode cX7_correctedOf 60 = .ok (.iaload, 1) := by decide +kernel
theorem dX7_correctedOf_61 : decode cX7_correctedOf 61 = .ok (.invokevirtual 59, 3) := by decide +kernel
theorem dX7_correctedOf_64 : decode cX7_correctedOf 64 = .ok (.isub, 1) := by decide +kernel
theorem dX7_correctedOf_65 : decode cX7_correctedOf 65 = .ok (.istore 6, 2) := by decide +kernel
theorem dX7_correctedOf_67 : decode cX7_correctedOf 67 = .ok (.aload_n 0, 1) := by decide +kernel
theorem dX7_correctedOf_68 : decode cX7_correctedOf 68 = .ok (.getfield 26, 3) := by decide +kernel
theorem dX7_correctedOf_71 : decode cX7_correctedOf 71 = .ok (.iload_n 2, 1) := by decide +kernel
theorem dX7_correctedOf_72 : decode cX7_correctedOf 72 = .ok (.iaload, 1) := by decide +kernel
theorem dX7_correctedOf_73 : decode cX7_correctedOf 73 = .ok (.lload 4, 2) := by decide +kernel
theorem dX7_correctedOf_75 : decode cX7_correctedOf 75 = .ok (.iload 6, 2) := by decide +kernel
theorem dX7_correctedOf_77 : decode cX7_correctedOf 77 = .ok (.i2l, 1) := by decide +kernel
theorem dX7_correctedOf_78 : decode cX7_correctedOf 78 = .ok (.lmul, 1) := by decide +kernel
theorem dX7_correctedOf_79 : decode cX7_correctedOf 79 = .ok (.aload_n 0, 1) := by decide +kernel
theorem dX7_correctedOf_80 : decode cX7_correctedOf 80 = .ok (.iload_n 1, 1) := by decide +kernel
theorem dX7_correctedOf_81 : decode cX7_correctedOf 81 = .ok (.iload_n 3, 1) := by decide +kernel
theorem dX7_correctedOf_82 : decode cX7_correctedOf 82 = .ok (.invokevirtual 154, 3) := by decide +kernel
theorem dX7_correctedOf_85 : decode cX7_correctedOf 85 = .ok (.i2l, 1) := by decide +kernel
theorem dX7_correctedOf_86 : decode cX7_correctedOf 86 = .ok (.invokestatic 126, 3) := by decide +kernel
theorem dX7_correctedOf_89 : decode cX7_correctedOf 89 = .ok (.l2i, 1) := by decide +kernel
theorem dX7_correctedOf_90 : decode cX7_correctedOf 90 = .ok (.isub, 1) := by decide +kernel
theorem dX7_correctedOf_91 : decode cX7_correctedOf 91 = .ok (.ireturn, 1) := by decide +kernel
set_option maxRecDepth 20000 in
theorem ggX7_loops_X7_isCell : GoodIn wsX7_loops wsX7_isCell := goodIn_r _ [6, 7, 8, 5, 9] (by decide +kernel) (by decide +kernel)
set_option maxRecDepth 20000 in
theorem gX7_loops_X7_isCell : GoodIn wsX7_loops (va_wsS RX7 86 yX7_isCell wsX7_isCell) := goodIn_app (goodIn_of _ (by decide +kernel)) ggX7_loops_X7_isCell
set_option maxRecDepth 20000 in
theorem ggX7_loops_X7_looks : GoodIn wsX7_loops wsX7_looks := goodIn_r _ [13, 2, 14, 15, 16, 17, 18, 19, 20, 21, 5, 22, 23, 24, 25, 26, 27, 28, 29, 30, 31, 32, 33, 34, 35, 36, 37, 38, 39, 40, 41, 42, 43, 44, 45, 46, 47, 48, 49, 50, 51, 52, 53, 54, 55, 56, 57, 58, 59, 60, 61, 62, 63, 64, 65, 66] (by decide +kernel) (by decide +kernel)
set_option maxRecDepth 20000 in
theorem gX7_loops_X7_looks : GoodIn wsX7_loops (wsV RX7 96 RX7 yX7_looks wsX7_looks) := goodIn_app (goodIn_of _ (by decide +kernel)) ggX7_loops_X7_looks
theorem dX7_loops_0 : decode cX7_loops 0 = .ok (.iload_n 1, 1) := by decide +kernel
theorem dX7_loops_1 : decode cX7_loops 1 = .ok (.invokestatic 86, 3) := by decide +kernel
theorem dX7_loops_4 : decode cX7_loops 4 = .ok (.ifCond .ne 6, 3) := by decide +kernel
theorem dX7_loops_7 : decode cX7_loops 7 = .ok (.ldc 55, 2) := by decide +kernel
theorem dX7_loops_9 : decode cX7_loops 9 = .ok (.ireturn, 1) := by decide +kernel
theorem dX7_loops_10 : decode cX7_loops 10 = .ok (.aload_n 0, 1) := by decide +kernel
theorem dX7_loops_11 : decode cX7_loops 11 = .ok (.iload_n 1, 1) := by decide +kernel
theorem dX7_loops_12 : decode cX7_loops 12 = .ok (.iconst 1, 1) := by decide +kernel
theorem dX7_loops_13 : decode cX7_loops 13 = .ok (.iadd, 1) := by decide +kernel
theorem dX7_loops_14 : decode cX7_loops 14 = .ok (.invokevirtual 96, 3) := by decide +kernel
theorem dX7_loops_17 : decode cX7_loops 17 = .ok (.aload_n 0, 1) := by decide +kernel
theorem dX7_loops_18 : decode cX7_loops 18 = .ok (.getfield 104, 3) := by decide +kernel
theorem dX7_loops_21 : decode cX7_loops 21 = .ok (.ireturn, 1) := by decide +kernel
theorem dX7_bySteps_0 : decode cX7_bySteps 0 = .ok (.iconst 0, 1) := by decide +kernel
theorem dX7_bySteps_1 : decode cX7_bySteps 1 = .ok (.istore_n 2, 1) := by decide +kernel
theorem dX7_bySteps_2 : decode cX7_bySteps 2 = .ok (.aload_n 0, 1) := by decide +kernel
theorem dX7_bySteps_3 : decode cX7_bySteps 3 = .ok (.getfield 33, 3) := by decide +kernel
theorem dX7_bySteps_6 : decode cX7_bySteps 6 = .ok (.iload_n 1, 1) := by decide +kernel
theorem dX7_bySteps_7 : decode cX7_bySteps 7 = .ok (.iaload, 1) := by decide +kernel
theorem dX7_bySteps_8 : decode cX7_bySteps 8 = .ok (.istore_n 3, 1) := by decide +kernel
theorem dX7_bySteps_9 : decode cX7_bySteps 9 = .ok (.aload_n 0, 1) := by decide +kernel
theorem dX7_bySteps_10 : decode cX7_bySteps 10 = .ok (.getfield 33, 3) := by decide +kernel
theorem dX7_bySteps_13 : decode cX7_bySteps 13 = .ok (.iload_n 1, 1) := by decide +kernel
theorem dX7_bySteps_14 : decode cX7_bySteps 14 = .ok (.iaload, 1) := by decide +kernel
theorem dX7_bySteps_15 : decode cX7_bySteps 15 = .ok (.iconst 1, 1) := by decide +kernel
theorem dX7_bySteps_16 : decode cX7_bySteps 16 = .ok (.iadd, 1) := by decide +kernel
theorem dX7_bySteps_17 : decode cX7_bySteps 17 = .ok (.istore 4, 2) := by decide +kernel
theorem dX7_bySteps_19 : decode cX7_bySteps 19 = .ok (.iload 4, 2) := by decide +kernel
theorem dX7_bySteps_21 : decode cX7_bySteps 21 = .ok (.aload_n 0, 1) := by decide +kernel
theorem dX7_bySteps_22 : decode cX7_bySteps 22 = .ok (.getfield 36, 3) := by decide +kernel
theorem dX7_bySteps_25 : decode cX7_bySteps 25 = .ok (.iload_n 1, 1) := by decide +kernel
theorem dX7_bySteps_26 : decode cX7_bySteps 26 = .ok (.iaload, 1) := by decide +kernel
theorem dX7_bySteps_27 : decode cX7_bySteps 27 = .ok (.if_icmp .gt 39, 3) := by decide +kernel
theorem dX7_bySteps_30 : decode cX7_bySteps 30 = .ok (.aload_n 0, 1) := by decide +kernel
theorem dX7_bySteps_31 : decode cX7_bySteps 31 = .ok (.getfield 29, 3) := by decide +kernel
theorem dX7_bySteps_34 : decode cX7_bySteps 34 = .ok (.iload 4, 2) := by decide +kernel
theorem dX7_bySteps_36 : decode cX7_bySteps 36 = .ok (.baload, 1) := by decide +kernel
theorem dX7_bySteps_37 : decode cX7_bySteps 37 = .ok (.ifCond .eq 23, 3) := by decide +kernel
theorem dX7_bySteps_40 : decode cX7_bySteps 40 = .ok (.iload_n 2, 1) := by decide +kernel
theorem dX7_bySteps_41 : decode cX7_bySteps 41 = .ok (.aload_n 0, 1) := by decide +kernel
theorem dX7_bySteps_42 : decode cX7_bySteps 42 = .ok (.getfield 26, 3) := by decide +kernel
theorem dX7_bySteps_45 : decode cX7_bySteps 45 = .ok (.iload 4, 2) := by decide +kernel
theorem dX7_bySteps_47 : decode cX7_bySteps 47 = .ok (.iaload, 1) := by decide +kernel
theorem dX7_bySteps_48 : decode cX7_bySteps 48 = .ok (.aload_n 0, 1) := by decide +kernel
theorem dX7_bySteps_49 : decode cX7_bySteps 49 = .ok (.getfield 26, 3) := by decide +kernel
theorem dX7_bySteps_52 : decode cX7_bySteps 52 = .ok (.iload_n 3, 1) := by decide +kernel
theorem dX7_bySteps_53 : decode cX7_bySteps 53 = .ok (.iaload, 1) := by decide +kernel
theorem dX7_bySteps_54 : decode cX7_bySteps 54 = .ok (.isub, 1) := by decide +kernel
theorem dX7_bySteps_55 : decode cX7_bySteps 55 = .ok (.iadd, 1) := by decide +kernel
theorem dX7_bySteps_56 : decode cX7_bySteps 56 = .ok (.istore_n 2, 1) := by decide +kernel
theorem dX7_bySteps_57 : decode cX7_bySteps 57 = .ok (.iload 4, 2) := by decide +kernel
theorem dX7_bySteps_59 : decode cX7_bySteps 59 = .ok (.istore_n 3, 1) := by decide +kernel
theorem dX7_bySteps_60 : decode cX7_bySteps 60 = .ok (.iinc 4 1, 3) := by decide +kernel
theorem dX7_bySteps_63 : decode cX7_bySteps 63 = .ok (.goto (-44), 3) := by decide +kernel
theorem dX7_bySteps_66 : decode cX7_bySteps 66 = .ok (.iload_n 2, 1) := by decide +kernel
theorem dX7_bySteps_67 : decode cX7_bySteps 67 = .ok (.ireturn, 1) := by decide +kernel
set_option maxRecDepth 20000 in
theorem ggX7_loop_X7_isCell : GoodIn wsX7_loop wsX7_isCell := goodIn_r _ [9, 10, 11, 8, 12] (by decide +kernel) (by decide +kernel)
set_option maxRecDepth 20000 in
theorem gX7_loop_X7_isCell : GoodIn wsX7_loop (va_wsS RX7 86 yX7_isCell wsX7_isCell) := goodIn_app (goodIn_of _ (by decide +kernel)) ggX7_loop_X7_isCell
set_option maxRecDepth 20000 in
theorem ggX7_loop_X7_in : GoodIn wsX7_loop wsX7_in := goodIn_r _ [12] (by decide +kernel) (by decide +kernel)
set_option maxRecDepth 20000 in
theorem gX7_loop_X7_in : GoodIn wsX7_loop (va_wsS RX7 39 yX7_in wsX7_in) := goodIn_app (goodIn_of _ (by decide +kernel)) ggX7_loop_X7_in
set_option maxRecDepth 20000 in
theorem ggX7_loop_X7_looks : GoodIn wsX7_loop wsX7_looks := goodIn_r _ [16, 2, 17, 18, 5, 3, 4, 19, 20, 21, 8, 22, 23, 24, 25, 26, 27, 28, 29, 30, 31, 32, 33, 34, 35, 36, 37, 38, 39, 40, 41, 42, 43, 44, 45, 54, 55, 56, 57, 58, 59, 60, 61, 62, 63, 64, 65, 66, 67, 68, 69, 70, 71, 72, 73, 74] (by decide +kernel) (by decide +kernel)
set_option maxRecDepth 20000 in
theorem gX7_loop_X7_looks : GoodIn wsX7_loop (wsV RX7 96 RX7 yX7_looks wsX7_looks) := goodIn_app (goodIn_of _ (by decide +kernel)) ggX7_loop_X7_looks
set_option maxRecDepth 20000 in
theorem ggX7_loop_X7_bySteps : GoodIn wsX7_loop wsX7_bySteps := goodIn_r _ [49, 3, 4, 18, 5, 54, 55, 56, 57, 58, 59, 60, 61, 62, 63, 64, 65, 66, 67, 68, 69, 70, 71, 72, 73, 74] (by decide +kernel) (by decide +kernel)
set_option maxRecDepth 20000 in
theorem gX7_loop_X7_bySteps : GoodIn wsX7_loop (wsV RX7 160 RX7 yX7_bySteps wsX7_bySteps) := goodIn_app (goodIn_of _ (by decide +kernel)) ggX7_loop_X7_bySteps
set_option maxRecDepth 20000 in
theorem ggX7_loop_X7_timeOf : GoodIn wsX7_loop wsX7_timeOf := goodIn_r _ [53, 4, 3, 23, 24, 25, 8, 26, 17, 54, 55, 56, 57, 58, 59, 60, 61, 62, 63, 64, 65, 66, 67, 68, 69, 70, 71, 72, 73, 74] (by decide +kernel) (by decide +kernel)
set_option maxRecDepth 20000 in
theorem gX7_loop_X7_timeOf : GoodIn wsX7_loop (wsV RX7 154 RX7 yX7_timeOf wsX7_timeOf) := goodIn_app (goodIn_of _ (by decide +kernel)) ggX7_loop_X7_timeOf
theorem dX7_loop_0 : decode cX7_loop 0 = .ok (.iload_n 1, 1) := by decide +kernel
theorem dX7_loop_1 : decode cX7_loop 1 = .ok (.invokestatic 86, 3) := by decide +kernel
theorem dX7_loop_4 : decode cX7_loop 4 = .ok (.ifCond .eq 12, 3) := by decide +kernel
theorem dX7_loop_7 : decode cX7_loop 7 = .ok (.iload_n 3, 1) := by decide +kernel
theorem dX7_loop_8 : decode cX7_loop 8 = .ok (.iconst 0, 1) := by decide +kernel
theorem dX7_loop_9 : decode cX7_loop 9 = .ok (.iconst 4, 1) := by decide +kernel
theorem dX7_loop_10 : decode cX7_loop 10 = .ok (.invokestatic 39, 3) := by decide +kernel
theorem dX7_loop_13 : decode cX7_loop 13 = .ok (.ifCond .ne 6, 3) := by decide +kernel
theorem dX7_loop_16 : decode cX7_loop 16 = .ok (.ldc 55, 2) := by decide +kernel
theorem dX7_loop_18 : decode cX7_loop 18 = .ok (.ireturn, 1) := by decide +kernel
theorem dX7_loop_19 : decode cX7_loop 19 = .ok (.aload_n 0, 1) := by decide +kernel
theorem dX7_loop_20 : decode cX7_loop 20 = .ok (.iload_n 1, 1) := by decide +kernel
theorem dX7_loop_21 : decode cX7_loop 21 = .ok (.iconst 1, 1) := by decide +kernel
theorem dX7_loop_22 : decode cX7_loop 22 = .ok (.iadd, 1) := by decide +kernel
theorem dX7_loop_23 : decode cX7_loop 23 = .ok (.invokevirtual 96, 3) := by decide +kernel
theorem dX7_loop_26 : decode cX7_loop 26 = .ok (.iload_n 2, 1) := by decide +kernel
theorem dX7_loop_27 : decode cX7_loop 27 = .ok (.iconst 0, 1) := by decide +kernel
theorem dX7_loop_28 : decode cX7_loop 28 = .ok (.aload_n 0, 1) := by decide +kernel
theorem dX7_loop_29 : decode cX7_loop 29 = .ok (.getfield 104, 3) := by decide +kernel
theorem dX7_loop_32 : decode cX7_loop 32 = .ok (.iconst 1, 1) := by decide +kernel
theorem dX7_loop_33 : decode cX7_loop 33 = .ok (.isub, 1) := by decide +kernel
theorem dX7_loop_34 : decode cX7_loop 34 = .ok (.invokestatic 39, 3) := by decide +kernel
theorem dX7_loop_37 : decode cX7_loop 37 = .ok (.ifCond .ne 6, 3) := by decide +kernel
theorem dX7_loop_40 : decode cX7_loop 40 = .ok (.ldc 55, 2) := by decide +kernel
theorem dX7_loop_42 : decode cX7_loop 42 = .ok (.ireturn, 1) := by decide +kernel
theorem dX7_loop_43 : decode cX7_loop 43 = .ok (.iload_n 3, 1) := by decide +kernel
theorem dX7_loop_44 : decode cX7_loop 44 = .ok (.tableswitch 76 0 3 #[32, 39, 46, 70], 32) := by decide +kernel
theorem dX7_loop_76 : decode cX7_loop 76 = .ok (.aload_n 0, 1) := by decide +kernel
theorem dX7_loop_77 : decode cX7_loop 77 = .ok (.getfield 33, 3) := by decide +kernel
theorem dX7_loop_80 : decode cX7_loop 80 = .ok (.iload_n 2, 1) := by decide +kernel
theorem dX7_loop_81 : decode cX7_loop 81 = .ok (.iaload, 1) := by decide +kernel
theorem dX7_loop_82 : decode cX7_loop 82 = .ok (.ireturn, 1) := by decide +kernel
theorem dX7_loop_83 : decode cX7_loop 83 = .ok (.aload_n 0, 1) := by decide +kernel
theorem dX7_loop_84 : decode cX7_loop 84 = .ok (.getfield 36, 3) := by decide +kernel
theorem dX7_loop_87 : decode cX7_loop 87 = .ok (.iload_n 2, 1) := by decide +kernel
theorem dX7_loop_88 : decode cX7_loop 88 = .ok (.iaload, 1) := by decide +kernel
theorem dX7_loop_89 : decode cX7_loop 89 = .ok (.ireturn, 1) := by decide +kernel
theorem dX7_loop_90 : decode cX7_loop 90 = .ok (.aload_n 0, 1) := by decide +kernel
theorem dX7_loop_91 : decode cX7_loop 91 = .ok (.getfield 26, 3) := by decide +kernel
theorem dX7_loop_94 : decode cX7_loop 94 = .ok (.aload_n 0, 1) := by decide +kernel
theorem dX7_loop_95 : decode cX7_loop 95 = .ok (.getfield 36, 3) := by decide +kernel
theorem dX7_loop_98 : decode cX7_loop 98 = .ok (.iload_n 2, 1) := by decide +kernel
theorem dX7_loop_99 : decode cX7_loop 99 = .ok (.iaload, 1) := by decide +kernel
theorem dX7_loop_100 : decode cX7_loop 100 = .ok (.iaload, 1) := by decide +kernel
theorem dX7_loop_101 : decode cX7_loop 101 = .ok (.aload_n 0, 1) := by decide +kernel
theorem dX7_loop_102 : decode cX7_loop 102 = .ok (.getfield 26, 3) := by decide +kernel
theorem dX7_loop_105 : decode cX7_loop 105 = .ok (.aload_n 0, 1) := by decide +kernel
theorem dX7_loop_106 : decode cX7_loop 106 = .ok (.getfield 33, 3) := by decide +kernel
theorem dX7_loop_109 : decode cX7_loop 109 = .ok (.iload_n 2, 1) := by decide +kernel
theorem dX7_loop_110 : decode cX7_loop 110 = .ok (.iaload, 1) := by decide +kernel
theorem dX7_loop_111 : decode cX7_loop 111 = .ok (.iaload, 1) := by decide +kernel
theorem dX7_loop_112 : decode cX7_loop 112 = .ok (.isub, 1) := by decide +kernel
theorem dX7_loop_113 : decode cX7_loop 113 = .ok (.ireturn, 1) := by decide +kernel
theorem dX7_loop_114 : decode cX7_loop 114 = .ok (.aload_n 0, 1) := by decide +kernel
theorem dX7_loop_115 : decode cX7_loop 115 = .ok (.iload_n 2, 1) := by decide +kernel
theorem dX7_loop_116 : decode cX7_loop 116 = .ok (.invokevirtual 160, 3) := by decide +kernel
theorem dX7_loop_119 : decode cX7_loop 119 = .ok (.ireturn, 1) := by decide +kernel
theorem dX7_loop_120 : decode cX7_loop 120 = .ok (.aload_n 0, 1) := by decide +kernel
theorem dX7_loop_121 : decode cX7_loop 121 = .ok (.iload_n 1, 1) := by decide +kernel
theorem dX7_loop_122 : decode cX7_loop 122 = .ok (.iconst 1, 1) := by decide +kernel
theorem dX7_loop_123 : decode cX7_loop 123 = .ok (.iadd, 1) := by decide +kernel
theorem dX7_loop_124 : decode cX7_loop 124 = .ok (.iload_n 2, 1) := by decide +kernel
theorem dX7_loop_125 : decode cX7_loop 125 = .ok (.invokevirtual 154, 3) := by decide +kernel
theorem dX7_loop_128 : decode cX7_loop 128 = .ok (.ireturn, 1) := by decide +kernel
set_option maxRecDepth 20000 in
theorem ggX7_openLoop_X7_isCell : GoodIn wsX7_openLoop wsX7_isCell := goodIn_r _ [7, 8, 9, 6, 10] (by decide +kernel) (by decide +kernel)
set_option maxRecDepth 20000 in
theorem gX7_openLoop_X7_isCell : GoodIn wsX7_openLoop (va_wsS RX7 86 yX7_isCell wsX7_isCell) := goodIn_app (goodIn_of _ (by decide +kernel)) ggX7_openLoop_X7_isCell
set_option maxRecDepth 20000 in
theorem ggX7_openLoop_X7_isReading : GoodIn wsX7_openLoop wsX7_isReading := goodIn_r _ [14, 15, 8, 9, 6, 10, 59, 60, 61, 62, 63, 64, 65, 66, 67, 68, 69, 70, 71, 72, 73, 74, 75, 76, 77, 78, 79] (by decide +kernel) (by decide +kernel)
set_option maxRecDepth 20000 in
theorem gX7_openLoop_X7_isReading : GoodIn wsX7_openLoop (wsV RX7 89 RX7 yX7_isReading wsX7_isReading) := goodIn_app (goodIn_of _ (by decide +kernel)) ggX7_openLoop_X7_isReading
set_option maxRecDepth 20000 in
theorem ggX7_openLoop_X7_looks : GoodIn wsX7_openLoop wsX7_looks := goodIn_r _ [19, 20, 15, 2, 21, 22, 23, 24, 25, 26, 6, 27, 28, 29, 30, 31, 32, 33, 34, 35, 36, 37, 38, 39, 40, 41, 42, 43, 44, 45, 46, 47, 48, 49, 50, 59, 60, 61, 62, 63, 64, 65, 66, 67, 68, 69, 70, 71, 72, 73, 74, 75, 76, 77, 78, 79] (by decide +kernel) (by decide +kernel)
set_option maxRecDepth 20000 in
theorem gX7_openLoop_X7_looks : GoodIn wsX7_openLoop (wsV RX7 96 RX7 yX7_looks wsX7_looks) := goodIn_app (goodIn_of _ (by decide +kernel)) ggX7_openLoop_X7_looks
set_option maxRecDepth 20000 in
theorem ggX7_openLoop_X7_open : GoodIn wsX7_openLoop wsX7_open := goodIn_r _ [54, 20, 22, 23, 55, 56, 57, 6, 58, 28, 29, 30, 31, 15, 59, 60, 61, 62, 63, 64, 65, 66, 67, 68, 69, 70, 71, 72, 73, 74, 75, 76, 77, 78, 79] (by decide +kernel) (by decide +kernel)
set_option maxRecDepth 20000 in
theorem gX7_openLoop_X7_open : GoodIn wsX7_openLoop (wsV RX7 157 RX7 yX7_open wsX7_open) := goodIn_app (goodIn_of _ (by decide +kernel)) ggX7_openLoop_X7_open
theorem dX7_openLoop_0 : decode cX7_openLoop 0 = .ok (.iload_n 1, 1) := by decide +kernel
theorem dX7_openLoop_1 : decode cX7_openLoop 1 = .ok (.invokestatic 86, 3) := by decide +kernel
theorem dX7_openLoop_4 : decode cX7_openLoop 4 = .ok (.ifCond .eq 12, 3) := by decide +kernel
theorem dX7_openLoop_7 : decode cX7_openLoop 7 = .ok (.aload_n 0, 1) := by decide +kernel
theorem dX7_openLoop_8 : decode cX7_openLoop 8 = .ok (.iload_n 1, 1) := by decide +kernel
theorem dX7_openLoop_9 : decode cX7_openLoop 9 = .ok (.iload_n 2, 1) := by decide +kernel
theorem dX7_openLoop_10 : decode cX7_openLoop 10 = .ok (.invokevirtual 89, 3) := by decide +kernel
theorem dX7_openLoop_13 : decode cX7_openLoop 13 = .ok (.ifCond .ne 6, 3) := by decide +kernel
theorem dX7_openLoop_16 : decode cX7_openLoop 16 = .ok (.ldc 55, 2) := by decide +kernel
theorem dX7_openLoop_18 : decode cX7_openLoop 18 = .ok (.ireturn, 1) := by decide +kernel
theorem dX7_openLoop_19 : decode cX7_openLoop 19 = .ok (.aload_n 0, 1) := by decide +kernel
theorem dX7_openLoop_20 : decode cX7_openLoop 20 = .ok (.iload_n 1, 1) := by decide +kernel
theorem dX7_openLoop_21 : decode cX7_openLoop 21 = .ok (.iconst 1, 1) := by decide +kernel
theorem dX7_openLoop_22 : decode cX7_openLoop 22 = .ok (.iadd, 1) := by decide +kernel
theorem dX7_openLoop_23 : decode cX7_openLoop 23 = .ok (.invokevirtual 96, 3) := by decide +kernel
theorem dX7_openLoop_26 : decode cX7_openLoop 26 = .ok (.aload_n 0, 1) := by decide +kernel
theorem dX7_openLoop_27 : decode cX7_openLoop 27 = .ok (.getfield 29, 3) := by decide +kernel
theorem dX7_openLoop_30 : decode cX7_openLoop 30 = .ok (.iload_n 2, 1) := by decide +kernel
theorem dX7_openLoop_31 : decode cX7_openLoop 31 = .ok (.baload, 1) := by decide +kernel
theorem dX7_openLoop_32 : decode cX7_openLoop 32 = .ok (.ifCond .eq 14, 3) := by decide +kernel
theorem dX7_openLoop_35 : decode cX7_openLoop 35 = .ok (.aload_n 0, 1) := by decide +kernel
theorem dX7_openLoop_36 : decode cX7_openLoop 36 = .ok (.iload_n 1, 1) := by decide +kernel
theorem dX7_openLoop_37 : decode cX7_openLoop 37 = .ok (.iconst 1, 1) := by decide +kernel
theorem dX7_openLoop_38 : decode cX7_openLoop 38 = .ok (.iadd, 1) := by decide +kernel
theorem dX7_openLoop_39 : decode cX7_openLoop 39 = .ok (.iload_n 2, 1) := by decide +kernel
theorem dX7_openLoop_40 : decode cX7_openLoop 40 = .ok (.invokevirtual 157, 3) := by decide +kernel
theorem dX7_openLoop_43 : decode cX7_openLoop 43 = .ok (.goto 4, 3) := by decide +kernel
theorem dX7_openLoop_46 : decode cX7_openLoop 46 = .ok (.iconst (-1), 1) := by decide +kernel
theorem dX7_openLoop_47 : decode cX7_openLoop 47 = .ok (.istore_n 3, 1) := by decide +kernel
theorem dX7_openLoop_48 : decode cX7_openLoop 48 = .ok (.iload_n 3, 1) := by decide +kernel
theorem dX7_openLoop_49 : decode cX7_openLoop 49 = .ok (.iconst (-1), 1) := by decide +kernel
theorem dX7_openLoop_50 : decode cX7_openLoop 50 = .ok (.if_icmp .ne 8, 3) := by decide +kernel
theorem dX7_openLoop_53 : decode cX7_openLoop 53 = .ok (.ldc 92, 2) := by decide +kernel
theorem dX7_openLoop_55 : decode cX7_openLoop 55 = .ok (.goto 4, 3) := by decide +kernel
theorem dX7_openLoop_58 : decode cX7_openLoop 58 = .ok (.iload_n 3, 1) := by decide +kernel
theorem dX7_openLoop_59 : decode cX7_openLoop 59 = .ok (.ireturn, 1) := by decide +kernel
set_option maxRecDepth 20000 in
theorem ggX7_corrected_X7_isCell : GoodIn wsX7_corrected wsX7_isCell := goodIn_r _ [7, 8, 9, 6, 10] (by decide +kernel) (by decide +kernel)
set_option maxRecDepth 20000 in
theorem gX7_corrected_X7_isCell : GoodIn wsX7_corrected (va_wsS RX7 86 yX7_isCell wsX7_isCell) := goodIn_app (goodIn_of _ (by decide +kernel)) ggX7_corrected_X7_isCell
set_option maxRecDepth 20000 in
theorem ggX7_corrected_X7_isReading : GoodIn wsX7_corrected wsX7_isReading := goodIn_r _ [14, 15, 8, 9, 6, 10, 63, 64, 65, 66, 67, 68, 69, 70, 71, 72, 73, 74, 75, 76, 77, 78, 79, 80, 81, 82, 83] (by decide +kernel) (by decide +kernel)
set_option maxRecDepth 20000 in
theorem gX7_corrected_X7_isReading : GoodIn wsX7_corrected (wsV RX7 89 RX7 yX7_isReading wsX7_isReading) := goodIn_app (goodIn_of _ (by decide +kernel)) ggX7_corrected_X7_isReading
set_option maxRecDepth 20000 in
theorem ggX7_corrected_X7_looks : GoodIn wsX7_corrected wsX7_looks := goodIn_r _ [19, 20, 15, 2, 21, 22, 23, 24, 25, 26, 6, 27, 28, 29, 30, 31, 32, 33, 34, 35, 36, 37, 38, 39, 40, 41, 42, 43, 44, 45, 46, 47, 48, 49, 50, 63, 64, 65, 66, 67, 68, 69, 70, 71, 72, 73, 74, 75, 76, 77, 78, 79, 80, 81, 82, 83] (by decide +kernel) (by decide +kernel)
set_option maxRecDepth 20000 in
theorem gX7_corrected_X7_looks : GoodIn wsX7_corrected (wsV RX7 96 RX7 yX7_looks wsX7_looks) := goodIn_app (goodIn_of _ (by decide +kernel)) ggX7_corrected_X7_looks
set_option maxRecDepth 20000 in
theorem ggX7_corrected_X7_correctedOf : GoodIn wsX7_corrected wsX7_correctedOf := goodIn_r _ [54, 21, 23, 22, 55, 56, 57, 6, 58, 20, 59, 60, 61, 62, 28, 29, 30, 31, 15, 41, 42, 43, 63, 64, 65, 66, 67, 68, 69, 70, 71, 72, 73, 74, 75, 76, 77, 78, 79, 80, 81, 82, 83] (by decide +kernel) (by decide +kernel)
set_option maxRecDepth 20000 in
theorem gX7_corrected_X7_correctedOf : GoodIn wsX7_corrected (wsV RX7 163 RX7 yX7_correctedOf wsX7_correctedOf) := goodIn_app (goodIn_of _ (by decide +kernel)) ggX7_corrected_X7_correctedOf
theorem dX7_corrected_0 : decode cX7_corrected 0 = .ok (.iload_n 1, 1) := by decide +kernel
theorem dX7_corrected_1 : decode cX7_corrected 1 = .ok (.invokestatic 86, 3) := by decide +kernel
theorem dX7_corrected_4 : decode cX7_corrected 4 = .ok (.ifCond .eq 12, 3) := by decide +kernel
theorem dX7_corrected_7 : decode cX7_corrected 7 = .ok (.aload_n 0, 1) := by decide +kernel
theorem dX7_corrected_8 : decode cX7_corrected 8 = .ok (.iload_n 1, 1) := by decide +kernel
theorem dX7_corrected_9 : decode cX7_corrected 9 = .ok (.iload_n 2, 1) := by decide +kernel
theorem dX7_corrected_10 : decode cX7_corrected 10 = .ok (.invokevirtual 89, 3) := by decide +kernel
theorem dX7_corrected_13 : decode cX7_corrected 13 = .ok (.ifCond .ne 6, 3) := by decide +kernel
theorem dX7_corrected_16 : decode cX7_corrected 16 = .ok (.ldc 55, 2) := by decide +kernel
theorem dX7_corrected_18 : decode cX7_corrected 18 = .ok (.ireturn, 1) := by decide +kernel
theorem dX7_corrected_19 : decode cX7_corrected 19 = .ok (.aload_n 0, 1) := by decide +kernel
theorem dX7_corrected_20 : decode cX7_corrected 20 = .ok (.iload_n 1, 1) := by decide +kernel
theorem dX7_corrected_21 : decode cX7_corrected 21 = .ok (.iconst 1, 1) := by decide +kernel
theorem dX7_corrected_22 : decode cX7_corrected 22 = .ok (.iadd, 1) := by decide +kernel
theorem dX7_corrected_23 : decode cX7_corrected 23 = .ok (.invokevirtual 96, 3) := by decide +kernel
theorem dX7_corrected_26 : decode cX7_corrected 26 = .ok (.aload_n 0, 1) := by decide +kernel
theorem dX7_corrected_27 : decode cX7_corrected 27 = .ok (.getfield 29, 3) := by decide +kernel
theorem dX7_corrected_30 : decode cX7_corrected 30 = .ok (.iload_n 2, 1) := by decide +kernel
theorem dX7_corrected_31 : decode cX7_corrected 31 = .ok (.baload, 1) := by decide +kernel
theorem dX7_corrected_32 : decode cX7_corrected 32 = .ok (.ifCond .eq 14, 3) := by decide +kernel
theorem dX7_corrected_35 : decode cX7_corrected 35 = .ok (.aload_n 0, 1) := by decide +kernel
theorem dX7_corrected_36 : decode cX7_corrected 36 = .ok (.iload_n 1, 1) := by decide +kernel
theorem dX7_corrected_37 : decode cX7_corrected 37 = .ok (.iconst 1, 1) := by decide +kernel
theorem dX7_corrected_38 : decode cX7_corrected 38 = .ok (.iadd, 1) := by decide +kernel
theorem dX7_corrected_39 : decode cX7_corrected 39 = .ok (.iload_n 2, 1) := by decide +kernel
theorem dX7_corrected_40 : decode cX7_corrected 40 = .ok (.invokevirtual 163, 3) := by decide +kernel
theorem dX7_corrected_43 : decode cX7_corrected 43 = .ok (.goto 5, 3) := by decide +kernel
theorem dX7_corrected_46 : decode cX7_corrected 46 = .ok (.ldc 92, 2) := by decide +kernel
theorem dX7_corrected_48 : decode cX7_corrected 48 = .ok (.ireturn, 1) := by decide +kernel
set_option maxRecDepth 20000 in
theorem ggX7_gives_X7_looks : GoodIn wsX7_gives wsX7_looks := goodIn_r _ [12, 13, 3, 4, 14, 15, 5, 16, 17, 18, 11, 19, 20, 21, 22, 23, 24, 25, 26, 27, 28, 29, 30, 31, 32, 33, 34, 35, 36, 37, 38, 39, 40, 41, 42, 55, 56, 57, 58, 59, 60, 61, 62, 63, 64, 65, 66, 67, 68, 69, 70, 71, 72, 73, 74, 75] (by decide +kernel) (by decide +kernel)
set_option maxRecDepth 20000 in
theorem gX7_gives_X7_looks : GoodIn wsX7_gives (wsV RX7 96 RX7 yX7_looks wsX7_looks) := goodIn_app (goodIn_of _ (by decide +kernel)) ggX7_gives_X7_looks
set_option maxRecDepth 20000 in
theorem ggX7_gives_X7_open : GoodIn wsX7_gives wsX7_open := goodIn_r _ [46, 13, 15, 5, 47, 48, 49, 11, 50, 20, 21, 22, 23, 3, 55, 56, 57, 58, 59, 60, 61, 62, 63, 64, 65, 66, 67, 68, 69, 70, 71, 72, 73, 74, 75] (by decide +kernel) (by decide +kernel)
set_option maxRecDepth 20000 in
theorem gX7_gives_X7_open : GoodIn wsX7_gives (wsV RX7 157 RX7 yX7_open wsX7_open) := goodIn_app (goodIn_of _ (by decide +kernel)) ggX7_gives_X7_open
set_option maxRecDepth 20000 in
theorem ggX7_gives_X7_of : GoodIn wsX7_gives wsX7_of := goodIn_r _ [23, 3, 55, 56, 57, 58, 59, 60, 61, 62, 63, 64, 65, 66, 67, 68, 69, 70, 71, 72, 73, 74, 75] (by decide +kernel) (by decide +kernel)
set_option maxRecDepth 20000 in
theorem gX7_gives_X7_of : GoodIn wsX7_gives (wsV RX7 59 RX7 yX7_of wsX7_of) := goodIn_app (goodIn_of _ (by decide +kernel)) ggX7_gives_X7_of
set_option maxRecDepth 20000 in
theorem ggX7_gives_X7_correctedOf : GoodIn wsX7_gives wsX7_correctedOf := goodIn_r _ [54, 14, 5, 15, 43, 44, 45, 11, 46, 13, 47, 48, 49, 50, 20, 21, 22, 23, 3, 33, 34, 35, 55, 56, 57, 58, 59, 60, 61, 62, 63, 64, 65, 66, 67, 68, 69, 70, 71, 72, 73, 74, 75] (by decide +kernel) (by decide +kernel)
set_option maxRecDepth 20000 in
theorem gX7_gives_X7_correctedOf : GoodIn wsX7_gives (wsV RX7 163 RX7 yX7_correctedOf wsX7_correctedOf) := goodIn_app (goodIn_of _ (by decide +kernel)) ggX7_gives_X7_correctedOf
theorem dX7_gives_0 : decode cX7_gives 0 = .ok (.aload_n 0, 1) := by decide +kernel
theorem dX7_gives_1 : decode cX7_gives 1 = .ok (.lconst 0, 1) := by decide +kernel
theorem dX7_gives_2 : decode cX7_gives 2 = .ok (.putfield 166, 3) := by decide +kernel
theorem dX7_gives_5 : decode cX7_gives 5 = .ok (.aload_n 0, 1) := by decide +kernel
theorem dX7_gives_6 : decode cX7_gives 6 = .ok (.iconst 0, 1) := by decide +kernel
theorem dX7_gives_7 : decode cX7_gives 7 = .ok (.putfield 110, 3) := by decide +kernel
theorem dX7_gives_10 : decode cX7_gives 10 = .ok (.iconst 1, 1) := by decide +kernel
theorem dX7_gives_11 : decode cX7_gives 11 = .ok (.istore_n 2, 1) := by decide +kernel
theorem dX7_gives_12 : decode cX7_gives 12 = .ok (.iload_n 2, 1) := by decide +kernel
theorem dX7_gives_13 : decode cX7_gives 13 = .ok (.iconst 4, 1) := by decide +kernel
theorem dX7_gives_14 : decode cX7_gives 14 = .ok (.if_icmp .ge 181, 3) := by decide +kernel
theorem dX7_gives_17 : decode cX7_gives 17 = .ok (.aload_n 0, 1) := by decide +kernel
theorem dX7_gives_18 : decode cX7_gives 18 = .ok (.iload_n 2, 1) := by decide +kernel
theorem dX7_gives_19 : decode cX7_gives 19 = .ok (.invokevirtual 96, 3) := by decide +kernel
theorem dX7_gives_22 : decode cX7_gives 22 = .ok (.iconst 0, 1) := by decide +kernel
theorem dX7_gives_23 : decode cX7_gives 23 = .ok (.istore_n 3, 1) := by decide +kernel
theorem dX7_gives_24 : decode cX7_gives 24 = .ok (.iload_n 3, 1) := by decide +kernel
theorem dX7_gives_25 : decode cX7_gives 25 = .ok (.aload_n 0, 1) := by decide +kernel
theorem dX7_gives_26 : decode cX7_gives 26 = .ok (.getfield 7, 3) := by decide +kernel
theorem dX7_gives_29 : decode cX7_gives 29 = .ok (.iconst 3, 1) := by decide +kernel
theorem dX7_gives_30 : decode cX7_gives 30 = .ok (.iload_n 2, 1) := by decide +kernel
theorem dX7_gives_31 : decode cX7_gives 31 = .ok (.iadd, 1) := by decide +kernel
theorem dX7_gives_32 : decode cX7_gives 32 = .ok (.iaload, 1) := by decide +kernel
theorem dX7_gives_33 : decode cX7_gives 33 = .ok (.if_icmp .ge 156, 3) := by decide +kernel
theorem dX7_gives_36 : decode cX7_gives 36 = .ok (.aload_n 0, 1) := by decide +kernel
theorem dX7_gives_37 : decode cX7_gives 37 = .ok (.getfield 29, 3) := by decide +kernel
theorem dX7_gives_40 : decode cX7_gives 40 = .ok (.iload_n 3, 1) := by decide +kernel
theorem dX7_gives_41 : decode cX7_gives 41 = .ok (.baload, 1) := by decide +kernel
theorem dX7_gives_42 : decode cX7_gives 42 = .ok (.ifCond .eq 12, 3) := by decide +kernel
theorem dX7_gives_45 : decode cX7_gives 45 = .ok (.aload_n 0, 1) := by decide +kernel
theorem dX7_gives_46 : decode cX7_gives 46 = .ok (.iload_n 2, 1) := by decide +kernel
theorem dX7_gives_47 : decode cX7_gives 47 = .ok (.iload_n 3, 1) := by decide +kernel
theorem dX7_gives_48 : decode cX7_gives 48 = .ok (.invokevirtual 157, 3) := by decide +kernel
theorem dX7_gives_51 : decode cX7_gives 51 = .ok (.goto 4, 3) := by decide +kernel
theorem dX7_gives_54 : decode cX7_gives 54 = .ok (.iconst (-1), 1) := by decide +kernel
theorem dX7_gives_55 : decode cX7_gives 55 = .ok (.istore 4, 2) := by decide +kernel
theorem dX7_gives_57 : decode cX7_gives 57 = .ok (.aload_n 0, 1) := by decide +kernel
theorem dX7_gives_58 : decode cX7_gives 58 = .ok (.getfield 29, 3) := by decide +kernel
theorem dX7_gives_61 : decode cX7_gives 61 = .ok (.iload_n 3, 1) := by decide +kernel
theorem dX7_gives_62 : decode cX7_gives 62 = .ok (.baload, 1) := by decide +kernel
theorem dX7_gives_63 : decode cX7_gives 63 = .ok (.ifCond .eq 120, 3) := by decide +kernel
theorem dX7_gives_66 : decode cX7_gives 66 = .ok (.aload_n 0, 1) := by decide +kernel
theorem dX7_gives_67 : decode cX7_gives 67 = .ok (.iload_n 2, 1) := by decide +kernel
theorem dX7_gives_68 : decode cX7_gives 68 = .ok (.bipush 60, 2) := by decide +kernel
theorem dX7_gives_70 : decode cX7_gives 70 = .ok (.iload_n 3, 1) := by decide +kernel
theorem dX7_gives_71 : decode cX7_gives 71 = .ok (.invokevirtual 59, 3) := by decide +kernel
theorem dX7_gives_74 : decode cX7_gives 74 = .ok (.iload_n 1, 1) := by decide +kernel
theorem dX7_gives_75 : decode cX7_gives 75 = .ok (.if_icmp .ne 108, 3) := by decide +kernel
theorem dX7_gives_78 : decode cX7_gives 78 = .ok (.iload 4, 2) := by decide +kernel
theorem dX7_gives_80 : decode cX7_gives 80 = .ok (.iconst (-1), 1) := by decide +kernel
theorem dX7_gives_81 : decode cX7_gives 81 = .ok (.if_icmp .eq 14, 3) := by decide +kernel
theorem dX7_gives_84 : decode cX7_gives 84 = .ok (.aload_n 0, 1) := by decide +kernel
theorem dX7_gives_85 : decode cX7_gives 85 = .ok (.getfield 36, 3) := by decide +kernel
theorem dX7_gives_88 : decode cX7_gives 88 = .ok (.iload 4, 2) := by decide +kernel
theorem dX7_gives_90 : decode cX7_gives 90 = .ok (.iaload, 1) := by decide +kernel
theorem dX7_gives_91 : decode cX7_gives 91 = .ok (.iload_n 3, 1) := by decide +kernel
theorem dX7_gives_92 : decode cX7_gives 92 = .ok (.if_icmp .eq 91, 3) := by decide +kernel
theorem dX7_gives_95 : decode cX7_gives 95 = .ok (.aload_n 0, 1) := by decide +kernel
theorem dX7_gives_96 : decode cX7_gives 96 = .ok (.iload_n 2, 1) := by decide +kernel
theorem dX7_gives_97 : decode cX7_gives 97 = .ok (.iload_n 3, 1) := by decide +kernel
theorem dX7_gives_98 : decode cX7_gives 98 = .ok (.invokevirtual 163, 3) := by decide +kernel
theorem dX7_gives_101 : decode cX7_gives 101 = .ok (.istore 5, 2) := by decide +kernel
theorem dX7_gives_103 : decode cX7_gives 103 = .ok (.aload_n 0, 1) := by decide +kernel
theorem dX7_gives_104 : decode cX7_gives 104 = .ok (.dup, 1) := by decide +kernel
theorem dX7_gives_105 : decode cX7_gives 105 = .ok (.getfield 166, 3) := by decide +kernel
theorem dX7_gives_108 : decode cX7_gives 108 = .ok (.iload 5, 2) := by decide +kernel
theorem dX7_gives_110 : decode cX7_gives 110 = .ok (.i2l, 1) := by decide +kernel
theorem dX7_gives_111 : decode cX7_gives 111 = .ok (.ladd, 1) := by decide +kernel
theorem dX7_gives_112 : decode cX7_gives 112 = .ok (.putfield 166, 3) := by decide +kernel
theorem dX7_gives_115 : decode cX7_gives 115 = .ok (.aload_n 0, 1) := by decide +kernel
theorem dX7_gives_116 : decode cX7_gives 116 = .ok (.aload_n 0, 1) := by decide +kernel
theorem dX7_gives_117 : decode cX7_gives 117 = .ok (.getfield 110, 3) := by decide +kernel
theorem dX7_gives_120 : decode cX7_gives 120 = .ok (.ifCond .eq 12, 3) := by decide +kernel
theorem dX7_gives_123 : decode cX7_gives 123 = .ok (.iload 5, 2) := by decide +kernel
theorem dX7_gives_125 : decode cX7_gives 125 = .ok (.aload_n 0, 1) := by decide +kernel
theorem dX7_gives_126 : decode cX7_gives 126 = .ok (.getfield 170, 3) := by decide +kernel
theorem dX7_gives_129 : decode cX7_gives 129 = .ok (.if_icmp .ge 8, 3) := by decide +kernel
theorem dX7_gives_132 : decode cX7_gives 132 = .ok (.iload 5, 2) := by decide +kernel
theorem dX7_gives_134 : decode cX7_gives 134 = .ok (.goto 7, 3) := by decide +kernel
theorem dX7_gives_137 : decode cX7_gives 137 = .ok (.aload_n 0, 1) := by decide +kernel
theorem dX7_gives_138 : decode cX7_gives 138 = .ok (.getfield 170, 3) := by decide +kernel
theorem dX7_gives_141 : decode cX7_gives 141 = .ok (.putfield 170, 3) := by decide +kernel
theorem dX7_gives_144 : decode cX7_gives 144 = .ok (.aload_n 0, 1) := by decide +kernel
theorem dX7_gives_145 : decode cX7_gives 145 = .ok (.aload_n 0, 1) := by decide +kernel
theorem dX7_gives_146 : decode cX7_gives 146 = .ok (.getfield 110, 3) := by decide +kernel
theorem dX7_gives_149 : decode cX7_gives 149 = .ok (.ifCond .eq 12, 3) := by decide +kernel
theorem dX7_gives_152 : decode cX7_gives 152 = .ok (.iload 5, 2) := by decide +kernel
theorem dX7_gives_154 : decode cX7_gives 154 = .ok (.aload_n 0, 1) := by decide +kernel
theorem dX7_gives_155 : decode cX7_gives 155 = .ok (.getfield 173, 3) := by decide +kernel
theorem dX7_gives_158 : decode cX7_gives 158 = .ok (.if_icmp .le 8, 3) := by decide +kernel
theorem dX7_gives_161 : decode cX7_gives 161 = .ok (.iload 5, 2) := by decide +kernel
theorem dX7_gives_163 : decode cX7_gives 163 = .ok (.goto 7, 3) := by decide +kernel
theorem dX7_gives_166 : decode cX7_gives 166 = .ok (.aload_n 0, 1) := by decide +kernel
theorem dX7_gives_167 : decode cX7_gives 167 = .ok (.getfield 173, 3) := by decide +kernel
theorem dX7_gives_170 : decode cX7_gives 170 = .ok (.putfield 173, 3) := by decide +kernel
theorem dX7_gives_173 : decode cX7_gives 173 = .ok (.aload_n 0, 1) := by decide +kernel
theorem dX7_gives_174 : decode cX7_gives 174 = .ok (.dup, 1) := by decide +kernel
theorem dX7_gives_175 : decode cX7_gives 175 = .ok (.getfield 110, 3) := by decide +kernel
theorem dX7_gives_178 : decode cX7_gives 178 = .ok (.iconst 1, 1) := by decide +kernel
theorem dX7_gives_179 : decode cX7_gives 179 = .ok (.iadd, 1) := by decide +kernel
theorem dX7_gives_180 : decode cX7_gives 180 = .ok (.putfield 110, 3) := by decide +kernel
theorem dX7_gives_183 : decode cX7_gives 183 = .ok (.iinc 3 1, 3) := by decide +kernel
theorem dX7_gives_186 : decode cX7_gives 186 = .ok (.goto (-162), 3) := by decide +kernel
theorem dX7_gives_189 : decode cX7_gives 189 = .ok (.iinc 2 1, 3) := by decide +kernel
theorem dX7_gives_192 : decode cX7_gives 192 = .ok (.goto (-180), 3) := by decide +kernel
theorem dX7_gives_195 : decode cX7_gives 195 = .ok (.return_, 1) := by decide +kernel
set_option maxRecDepth 20000 in
theorem ggX7_point_X7_in : GoodIn wsX7_point wsX7_in := goodIn_r _ [10] (by decide +kernel) (by decide +kernel)
set_option maxRecDepth 20000 in
theorem gX7_point_X7_in : GoodIn wsX7_point (va_wsS RX7 39 yX7_in wsX7_in) := goodIn_app (goodIn_of _ (by decide +kernel)) ggX7_point_X7_in
set_option maxRecDepth 20000 in
theorem ggX7_point_X7_gives : GoodIn wsX7_point wsX7_gives := goodIn_r _ [14, 4, 2, 15, 16, 17, 6, 5, 18, 19, 20, 9, 21, 22, 23, 24, 25, 26, 27, 28, 29, 30, 31, 32, 33, 34, 35, 36, 37, 38, 39, 40, 41, 42, 43, 44, 45, 46, 47, 48, 49, 50, 51, 52, 53, 54, 55, 56, 57, 58, 59, 60, 61, 62, 63, 64, 65, 66, 67, 68, 69, 70, 71, 72, 73, 74, 75, 76, 77, 78, 79, 80, 81, 82, 83, 84] (by decide +kernel) (by decide +kernel)
set_option maxRecDepth 20000 in
theorem gX7_point_X7_gives : GoodIn wsX7_point (wsV RX7 107 RX7 yX7_gives wsX7_gives) := goodIn_app (goodIn_of _ (by decide +kernel)) ggX7_point_X7_gives
set_option maxRecDepth 20000 in
theorem ggX7_point_X7_down : GoodIn wsX7_point wsX7_down := goodIn_r _ [44] (by decide +kernel) (by decide +kernel)
set_option maxRecDepth 20000 in
theorem gX7_point_X7_down : GoodIn wsX7_point (va_wsS RX7 126 yX7_down wsX7_down) := goodIn_app (goodIn_of _ (by decide +kernel)) ggX7_point_X7_down
theorem dX7_point_0 : decode cX7_point 0 = .ok (.iload_n 1, 1) := by decide +kernel
theorem dX7_point_1 : decode cX7_point 1 = .ok (.iconst 0, 1) := by decide +kernel
theorem dX7_point_2 : decode cX7_point 2 = .ok (.bipush 9, 2) := by decide +kernel
theorem dX7_point_4 : decode cX7_point 4 = .ok (.invokestatic 39, 3) := by decide +kernel
theorem dX7_point_7 : decode cX7_point 7 = .ok (.ifCond .eq 12, 3) := by decide +kernel
theorem dX7_point_10 : decode cX7_point 10 = .ok (.iload_n 2, 1) := by decide +kernel
theorem dX7_point_11 : decode cX7_point 11 = .ok (.iconst 0, 1) := by decide +kernel
theorem dX7_point_12 : decode cX7_point 12 = .ok (.iconst 2, 1) := by decide +kernel
theorem dX7_point_13 : decode cX7_point 13 = .ok (.invokestatic 39, 3) := by decide +kernel
theorem dX7_point_16 : decode cX7_point 16 = .ok (.ifCond .ne 6, 3) := by decide +kernel
theorem dX7_point_19 : decode cX7_point 19 = .ok (.ldc 55, 2) := by decide +kernel
theorem dX7_point_21 : decode cX7_point 21 = .ok (.ireturn, 1) := by decide +kernel
theorem dX7_point_22 : decode cX7_point 22 = .ok (.aload_n 0, 1) := by decide +kernel
theorem dX7_point_23 : decode cX7_point 23 = .ok (.iload_n 1, 1) := by decide +kernel
theorem dX7_point_24 : decode cX7_point 24 = .ok (.invokevirtual 107, 3) := by decide +kernel
theorem dX7_point_27 : decode cX7_point 27 = .ok (.iload_n 2, 1) := by decide +kernel
theorem dX7_point_28 : decode cX7_point 28 = .ok (.iconst 2, 1) := by decide +kernel
theorem dX7_point_29 : decode cX7_point 29 = .ok (.if_icmp .ne 8, 3) := by decide +kernel
theorem dX7_point_32 : decode cX7_point 32 = .ok (.aload_n 0, 1) := by decide +kernel
theorem dX7_point_33 : decode cX7_point 33 = .ok (.getfield 110, 3) := by decide +kernel
theorem dX7_point_36 : decode cX7_point 36 = .ok (.ireturn, 1) := by decide +kernel
theorem dX7_point_37 : decode cX7_point 37 = .ok (.aload_n 0, 1) := by decide +kernel
theorem dX7_point_38 : decode cX7_point 38 = .ok (.getfield 110, 3) := by decide +kernel
theorem dX7_point_41 : decode cX7_point 41 = .ok (.ifCond .ne 8, 3) := by decide +kernel
theorem dX7_point_44 : decode cX7_point 44 = .ok (.ldc 92, 2) := by decide +kernel
theorem dX7_point_46 : decode cX7_point 46 = .ok (.goto 32, 3) := by decide +kernel
theorem dX7_point_49 : decode cX7_point 49 = .ok (.iload_n 2, 1) := by decide +kernel
theorem dX7_point_50 : decode cX7_point 50 = .ok (.ifCond .ne 19, 3) := by decide +kernel
theorem dX7_point_53 : decode cX7_point 53 = .ok (.aload_n 0, 1) := by decide +kernel
theorem dX7_point_54 : decode cX7_point 54 = .ok (.getfield 166, 3) := by decide +kernel
theorem dX7_point_57 : decode cX7_point 57 = .ok (.aload_n 0, 1) := by decide +kernel
theorem dX7_point_58 : decode cX7_point 58 = .ok (.getfield 110, 3) := by decide +kernel
theorem dX7_point_61 : decode cX7_point 61 = .ok (.i2l, 1) := by decide +kernel
theorem dX7_point_62 : decode cX7_point 62 = .ok (.invokestatic 126, 3) := by decide +kernel
theorem dX7_point_65 : decode cX7_point 65 = .ok (.l2i, 1) := by decide +kernel
theorem dX7_point_66 : decode cX7_point 66 = .ok (.goto 12, 3) := by decide +kernel
theorem dX7_point_69 : decode cX7_point 69 = .ok (.aload_n 0, 1) := by decide +kernel
theorem dX7_point_70 : decode cX7_point 70 = .ok (.getfield 173, 3) := by decide +kernel
theorem dX7_point_73 : decode cX7_point 73 = .ok (.aload_n 0, 1) := by decide +kernel
theorem dX7_point_74 : decode cX7_point 74 = .ok (.getfield 170, 3) := by decide +kernel
theorem dX7_point_77 : decode cX7_point 77 = .ok (.isub, 1) := by decide +kernel
theorem dX7_point_78 : decode cX7_point 78 = .ok (.ireturn, 1) := by decide +kernel
set_option maxRecDepth 20000 in
theorem ggX7_worst_X7_in : GoodIn wsX7_worst wsX7_in := goodIn_r _ [10] (by decide +kernel) (by decide +kernel)
set_option maxRecDepth 20000 in
theorem gX7_worst_X7_in : GoodIn wsX7_worst (va_wsS RX7 39 yX7_in wsX7_in) := goodIn_app (goodIn_of _ (by decide +kernel)) ggX7_worst_X7_in
set_option maxRecDepth 20000 in
theorem ggX7_worst_X7_looks : GoodIn wsX7_worst wsX7_looks := goodIn_r _ [14, 2, 15, 16, 3, 5, 4, 17, 18, 19, 9, 20, 21, 22, 23, 24, 25, 26, 27, 28, 29, 30, 31, 32, 33, 34, 35, 36, 37, 38, 39, 40, 41, 42, 43, 44, 45, 46, 47, 48, 49, 50, 51, 52, 53, 54, 55, 56, 57, 58, 59, 60, 61, 62, 63, 64] (by decide +kernel) (by decide +kernel)
set_option maxRecDepth 20000 in
theorem gX7_worst_X7_looks : GoodIn wsX7_worst (wsV RX7 96 RX7 yX7_looks wsX7_looks) := goodIn_app (goodIn_of _ (by decide +kernel)) ggX7_worst_X7_looks
theorem dX7_worst_0 : decode cX7_worst 0 = .ok (.iload_n 1, 1) := by decide +kernel
theorem dX7_worst_1 : decode cX7_worst 1 = .ok (.iconst 0, 1) := by decide +kernel
theorem dX7_worst_2 : decode cX7_worst 2 = .ok (.iconst 1, 1) := by decide +kernel
theorem dX7_worst_3 : decode cX7_worst 3 = .ok (.invokestatic 39, 3) := by decide +kernel
theorem dX7_worst_6 : decode cX7_worst 6 = .ok (.ifCond .ne 6, 3) := by decide +kernel
theorem dX7_worst_9 : decode cX7_worst 9 = .ok (.ldc 55, 2) := by decide +kernel
theorem dX7_worst_11 : decode cX7_worst 11 = .ok (.ireturn, 1) := by decide +kernel
theorem dX7_worst_12 : decode cX7_worst 12 = .ok (.iconst (-1), 1) := by decide +kernel
theorem dX7_worst_13 : decode cX7_worst 13 = .ok (.istore_n 2, 1) := by decide +kernel
theorem dX7_worst_14 : decode cX7_worst 14 = .ok (.iconst (-1), 1) := by decide +kernel
theorem dX7_worst_15 : decode cX7_worst 15 = .ok (.istore_n 3, 1) := by decide +kernel
theorem dX7_worst_16 : decode cX7_worst 16 = .ok (.iconst 1, 1) := by decide +kernel
theorem dX7_worst_17 : decode cX7_worst 17 = .ok (.istore 4, 2) := by decide +kernel
theorem dX7_worst_19 : decode cX7_worst 19 = .ok (.iload 4, 2) := by decide +kernel
theorem dX7_worst_21 : decode cX7_worst 21 = .ok (.iconst 4, 1) := by decide +kernel
theorem dX7_worst_22 : decode cX7_worst 22 = .ok (.if_icmp .ge 109, 3) := by decide +kernel
theorem dX7_worst_25 : decode cX7_worst 25 = .ok (.aload_n 0, 1) := by decide +kernel
theorem dX7_worst_26 : decode cX7_worst 26 = .ok (.iload 4, 2) := by decide +kernel
theorem dX7_worst_28 : decode cX7_worst 28 = .ok (.invokevirtual 96, 3) := by decide +kernel
theorem dX7_worst_31 : decode cX7_worst 31 = .ok (.iconst 0, 1) := by decide +kernel
theorem dX7_worst_32 : decode cX7_worst 32 = .ok (.istore 5, 2) := by decide +kernel
theorem dX7_worst_34 : decode cX7_worst 34 = .ok (.iload 5, 2) := by decide +kernel
theorem dX7_worst_36 : decode cX7_worst 36 = .ok (.aload_n 0, 1) := by decide +kernel
theorem dX7_worst_37 : decode cX7_worst 37 = .ok (.getfield 104, 3) := by decide +kernel
theorem dX7_worst_40 : decode cX7_worst 40 = .ok (.if_icmp .ge 85, 3) := by decide +kernel
theorem dX7_worst_43 : decode cX7_worst 43 = .ok (.aload_n 0, 1) := by decide +kernel
theorem dX7_worst_44 : decode cX7_worst 44 = .ok (.getfield 26, 3) := by decide +kernel
theorem dX7_worst_47 : decode cX7_worst 47 = .ok (.aload_n 0, 1) := by decide +kernel
theorem dX7_worst_48 : decode cX7_worst 48 = .ok (.getfield 36, 3) := by decide +kernel
theorem dX7_worst_51 : decode cX7_worst 51 = .ok (.iload 5, 2) := by decide +kernel
theorem dX7_worst_53 : decode cX7_worst 53 = .ok (.iaload, 1) := by decide +kernel
theorem dX7_worst_54 : decode cX7_worst 54 = .ok (.iaload, 1) := by decide +kernel
theorem dX7_worst_55 : decode cX7_worst 55 = .ok (.aload_n 0, 1) := by decide +kernel
theorem dX7_worst_56 : decode cX7_worst 56 = .ok (.getfield 26, 3) := by decide +kernel
theorem dX7_worst_59 : decode cX7_worst 59 = .ok (.aload_n 0, 1) := by decide +kernel
theorem dX7_worst_60 : decode cX7_worst 60 = .ok (.getfield 33, 3) := by decide +kernel
theorem dX7_worst_63 : decode cX7_worst 63 = .ok (.iload 5, 2) := by decide +kernel
theorem dX7_worst_65 : decode cX7_worst 65 = .ok (.iaload, 1) := by decide +kernel
theorem dX7_worst_66 : decode cX7_worst 66 = .ok (.iaload, 1) := by decide +kernel
theorem dX7_worst_67 : decode cX7_worst 67 = .ok (.isub, 1) := by decide +kernel
theorem dX7_worst_68 : decode cX7_worst 68 = .ok (.istore 6, 2) := by decide +kernel
theorem dX7_worst_70 : decode cX7_worst 70 = .ok (.iload 6, 2) := by decide +kernel
theorem dX7_worst_72 : decode cX7_worst 72 = .ok (.ifCond .ge 9, 3) := by decide +kernel
theorem dX7_worst_75 : decode cX7_worst 75 = .ok (.iload 6, 2) := by decide +kernel
theorem dX7_worst_77 : decode cX7_worst 77 = .ok (.ineg, 1) := by decide +kernel
theorem dX7_worst_78 : decode cX7_worst 78 = .ok (.goto 5, 3) := by decide +kernel
theorem dX7_worst_81 : decode cX7_worst 81 = .ok (.iload 6, 2) := by decide +kernel
theorem dX7_worst_83 : decode cX7_worst 83 = .ok (.istore 6, 2) := by decide +kernel
theorem dX7_worst_85 : decode cX7_worst 85 = .ok (.iload 6, 2) := by decide +kernel
theorem dX7_worst_87 : decode cX7_worst 87 = .ok (.iload_n 3, 1) := by decide +kernel
theorem dX7_worst_88 : decode cX7_worst 88 = .ok (.if_icmp .le 16, 3) := by decide +kernel
theorem dX7_worst_91 : decode cX7_worst 91 = .ok (.bipush 20, 2) := by decide +kernel
theorem dX7_worst_93 : decode cX7_worst 93 = .ok (.iload 4, 2) := by decide +kernel
theorem dX7_worst_95 : decode cX7_worst 95 = .ok (.iconst 1, 1) := by decide +kernel
theorem dX7_worst_96 : decode cX7_worst 96 = .ok (.isub, 1) := by decide +kernel
theorem dX7_worst_97 : decode cX7_worst 97 = .ok (.imul, 1) := by decide +kernel
theorem dX7_worst_98 : decode cX7_worst 98 = .ok (.iload 5, 2) := by decide +kernel
theorem dX7_worst_100 : decode cX7_worst 100 = .ok (.iadd, 1) := by decide +kernel
theorem dX7_worst_101 : decode cX7_worst 101 = .ok (.goto 4, 3) := by decide +kernel
theorem dX7_worst_104 : decode cX7_worst 104 = .ok (.iload_n 2, 1) := by decide +kernel
theorem dX7_worst_105 : decode cX7_worst 105 = .ok (.istore_n 2, 1) := by decide +kernel
theorem dX7_worst_106 : decode cX7_worst 106 = .ok (.iload 6, 2) := by decide +kernel
theorem dX7_worst_108 : decode cX7_worst 108 = .ok (.iload_n 3, 1) := by decide +kernel
theorem dX7_worst_109 : decode cX7_worst 109 = .ok (.if_icmp .le 8, 3) := by decide +kernel
theorem dX7_worst_112 : decode cX7_worst 112 = .ok (.iload 6, 2) := by decide +kernel
theorem dX7_worst_114 : decode cX7_worst 114 = .ok (.goto 4, 3) := by decide +kernel
theorem dX7_worst_117 : decode cX7_worst 117 = .ok (.iload_n 3, 1) := by decide +kernel
theorem dX7_worst_118 : decode cX7_worst 118 = .ok (.istore_n 3, 1) := by decide +kernel
theorem dX7_worst_119 : decode cX7_worst 119 = .ok (.iinc 5 1, 3) := by decide +kernel
theorem dX7_worst_122 : decode cX7_worst 122 = .ok (.goto (-88), 3) := by decide +kernel
theorem dX7_worst_125 : decode cX7_worst 125 = .ok (.iinc 4 1, 3) := by decide +kernel
theorem dX7_worst_128 : decode cX7_worst 128 = .ok (.goto (-109), 3) := by decide +kernel
theorem dX7_worst_131 : decode cX7_worst 131 = .ok (.iload_n 2, 1) := by decide +kernel
theorem dX7_worst_132 : decode cX7_worst 132 = .ok (.iconst (-1), 1) := by decide +kernel
theorem dX7_worst_133 : decode cX7_worst 133 = .ok (.if_icmp .ne 8, 3) := by decide +kernel
theorem dX7_worst_136 : decode cX7_worst 136 = .ok (.ldc 92, 2) := by decide +kernel
theorem dX7_worst_138 : decode cX7_worst 138 = .ok (.goto 18, 3) := by decide +kernel
theorem dX7_worst_141 : decode cX7_worst 141 = .ok (.iload_n 1, 1) := by decide +kernel
theorem dX7_worst_142 : decode cX7_worst 142 = .ok (.ifCond .ne 10, 3) := by decide +kernel
theorem dX7_worst_145 : decode cX7_worst 145 = .ok (.iload_n 2, 1) := by decide +kernel
theorem dX7_worst_146 : decode cX7_worst 146 = .ok (.bipush 20, 2) := by decide +kernel
theorem dX7_worst_148 : decode cX7_worst 148 = .ok (.idiv, 1) := by decide +kernel
theorem dX7_worst_149 : decode cX7_worst 149 = .ok (.goto 7, 3) := by decide +kernel
theorem dX7_worst_152 : decode cX7_worst 152 = .ok (.iload_n 2, 1) := by decide +kernel
theorem dX7_worst_153 : decode cX7_worst 153 = .ok (.bipush 20, 2) := by decide +kernel
theorem dX7_worst_155 : decode cX7_worst 155 = .ok (.irem, 1) := by decide +kernel
theorem dX7_worst_156 : decode cX7_worst 156 = .ok (.ireturn, 1) := by decide +kernel
set_option maxRecDepth 20000 in
theorem ggX7_type_X7_in : GoodIn wsX7_type wsX7_in := goodIn_r _ [8] (by decide +kernel) (by decide +kernel)
set_option maxRecDepth 20000 in
theorem gX7_type_X7_in : GoodIn wsX7_type (va_wsS RX7 39 yX7_in wsX7_in) := goodIn_app (goodIn_of _ (by decide +kernel)) ggX7_type_X7_in
theorem dX7_type_0 : decode cX7_type 0 = .ok (.iload_n 1, 1) := by decide +kernel
theorem dX7_type_1 : decode cX7_type 1 = .ok (.bipush 32, 2) := by decide +kernel
theorem dX7_type_3 : decode cX7_type 3 = .ok (.bipush 126, 2) := by decide +kernel
theorem dX7_type_5 : decode cX7_type 5 = .ok (.invokestatic 39, 3) := by decide +kernel
theorem dX7_type_8 : decode cX7_type 8 = .ok (.ifCond .ne 6, 3) := by decide +kernel
theorem dX7_type_11 : decode cX7_type 11 = .ok (.ldc 55, 2) := by decide +kernel
theorem dX7_type_13 : decode cX7_type 13 = .ok (.ireturn, 1) := by decide +kernel
theorem dX7_type_14 : decode cX7_type 14 = .ok (.aload_n 0, 1) := by decide +kernel
theorem dX7_type_15 : decode cX7_type 15 = .ok (.getfield 123, 3) := by decide +kernel
theorem dX7_type_18 : decode cX7_type 18 = .ok (.bipush 100, 2) := by decide +kernel
theorem dX7_type_20 : decode cX7_type 20 = .ok (.if_icmp .ne 6, 3) := by decide +kernel
theorem dX7_type_23 : decode cX7_type 23 = .ok (.ldc 75, 2) := by decide +kernel
theorem dX7_type_25 : decode cX7_type 25 = .ok (.ireturn, 1) := by decide +kernel
theorem dX7_type_26 : decode cX7_type 26 = .ok (.aload_n 0, 1) := by decide +kernel
theorem dX7_type_27 : decode cX7_type 27 = .ok (.getfield 19, 3) := by decide +kernel
theorem dX7_type_30 : decode cX7_type 30 = .ok (.aload_n 0, 1) := by decide +kernel
theorem dX7_type_31 : decode cX7_type 31 = .ok (.getfield 123, 3) := by decide +kernel
theorem dX7_type_34 : decode cX7_type 34 = .ok (.iload_n 1, 1) := by decide +kernel
theorem dX7_type_35 : decode cX7_type 35 = .ok (.i2c, 1) := by decide +kernel
theorem dX7_type_36 : decode cX7_type 36 = .ok (.castore, 1) := by decide +kernel
theorem dX7_type_37 : decode cX7_type 37 = .ok (.aload_n 0, 1) := by decide +kernel
theorem dX7_type_38 : decode cX7_type 38 = .ok (.dup, 1) := by decide +kernel
theorem dX7_type_39 : decode cX7_type 39 = .ok (.getfield 123, 3) := by decide +kernel
theorem dX7_type_42 : decode cX7_type 42 = .ok (.iconst 1, 1) := by decide +kernel
theorem dX7_type_43 : decode cX7_type 43 = .ok (.iadd, 1) := by decide +kernel
theorem dX7_type_44 : decode cX7_type 44 = .ok (.putfield 123, 3) := by decide +kernel
theorem dX7_type_47 : decode cX7_type 47 = .ok (.aload_n 0, 1) := by decide +kernel
theorem dX7_type_48 : decode cX7_type 48 = .ok (.getfield 123, 3) := by decide +kernel
theorem dX7_type_51 : decode cX7_type 51 = .ok (.ireturn, 1) := by decide +kernel
theorem dX7_clearText_0 : decode cX7_clearText 0 = .ok (.aload_n 0, 1) := by decide +kernel
theorem dX7_clearText_1 : decode cX7_clearText 1 = .ok (.getfield 123, 3) := by decide +kernel
theorem dX7_clearText_4 : decode cX7_clearText 4 = .ok (.istore_n 1, 1) := by decide +kernel
theorem dX7_clearText_5 : decode cX7_clearText 5 = .ok (.aload_n 0, 1) := by decide +kernel
theorem dX7_clearText_6 : decode cX7_clearText 6 = .ok (.iconst 0, 1) := by decide +kernel
theorem dX7_clearText_7 : decode cX7_clearText 7 = .ok (.putfield 123, 3) := by decide +kernel
theorem dX7_clearText_10 : decode cX7_clearText 10 = .ok (.iload_n 1, 1) := by decide +kernel
theorem dX7_clearText_11 : decode cX7_clearText 11 = .ok (.ireturn, 1) := by decide +kernel
theorem dX7_passes_0 : decode cX7_passes 0 = .ok (.aload_n 0, 1) := by decide +kernel
theorem dX7_passes_1 : decode cX7_passes 1 = .ok (.getfield 176, 3) := by decide +kernel
theorem dX7_passes_4 : decode cX7_passes 4 = .ok (.aload_n 0, 1) := by decide +kernel
theorem dX7_passes_5 : decode cX7_passes 5 = .ok (.getfield 123, 3) := by decide +kernel
theorem dX7_passes_8 : decode cX7_passes 8 = .ok (.if_icmp .ge 20, 3) := by decide +kernel
theorem dX7_passes_11 : decode cX7_passes 11 = .ok (.aload_n 0, 1) := by decide +kernel
theorem dX7_passes_12 : decode cX7_passes 12 = .ok (.getfield 19, 3) := by decide +kernel
theorem dX7_passes_15 : decode cX7_passes 15 = .ok (.aload_n 0, 1) := by decide +kernel
theorem dX7_passes_16 : decode cX7_passes 16 = .ok (.getfield 176, 3) := by decide +kernel
theorem dX7_passes_19 : decode cX7_passes 19 = .ok (.caload, 1) := by decide +kernel
theorem dX7_passes_20 : decode cX7_passes 20 = .ok (.iload_n 1, 1) := by decide +kernel
theorem dX7_passes_21 : decode cX7_passes 21 = .ok (.if_icmp .ne 7, 3) := by decide +kernel
theorem dX7_passes_24 : decode cX7_passes 24 = .ok (.iconst 1, 1) := by decide +kernel
theorem dX7_passes_25 : decode cX7_passes 25 = .ok (.goto 4, 3) := by decide +kernel
theorem dX7_passes_28 : decode cX7_passes 28 = .ok (.iconst 0, 1) := by decide +kernel
theorem dX7_passes_29 : decode cX7_passes 29 = .ok (.istore_n 2, 1) := by decide +kernel
theorem dX7_passes_30 : decode cX7_passes 30 = .ok (.aload_n 0, 1) := by decide +kernel
theorem dX7_passes_31 : decode cX7_passes 31 = .ok (.dup, 1) := by decide +kernel
theorem dX7_passes_32 : decode cX7_passes 32 = .ok (.getfield 176, 3) := by decide +kernel
theorem dX7_passes_35 : decode cX7_passes 35 = .ok (.iload_n 2, 1) := by decide +kernel
theorem dX7_passes_36 : decode cX7_passes 36 = .ok (.ifCond .eq 7, 3) := by decide +kernel
theorem dX7_passes_39 : decode cX7_passes 39 = .ok (.iconst 1, 1) := by decide +kernel
theorem dX7_passes_40 : decode cX7_passes 40 = .ok (.goto 4, 3) := by decide +kernel
theorem dX7_passes_43 : decode cX7_passes 43 = .ok (.iconst 0, 1) := by decide +kernel
theorem dX7_passes_44 : decode cX7_passes 44 = .ok (.iadd, 1) := by decide +kernel
theorem dX7_passes_45 : decode cX7_passes 45 = .ok (.putfield 176, 3) := by decide +kernel
theorem dX7_passes_48 : decode cX7_passes 48 = .ok (.iload_n 2, 1) := by decide +kernel
theorem dX7_passes_49 : decode cX7_passes 49 = .ok (.ireturn, 1) := by decide +kernel
set_option maxRecDepth 20000 in
theorem ggX7_number_X7_in : GoodIn wsX7_number wsX7_in := goodIn_r _ [7] (by decide +kernel) (by decide +kernel)
set_option maxRecDepth 20000 in
theorem gX7_number_X7_in : GoodIn wsX7_number (va_wsS RX7 39 yX7_in wsX7_in) := goodIn_app (goodIn_of _ (by decide +kernel)) ggX7_number_X7_in
theorem dX7_number_0 : decode cX7_number 0 = .ok (.aload_n 0, 1) := by decide +kernel
theorem dX7_number_1 : decode cX7_number 1 = .ok (.getfield 176, 3) := by decide +kernel
theorem dX7_number_4 : decode cX7_number 4 = .ok (.istore_n 2, 1) := by decide +kernel
theorem dX7_number_5 : decode cX7_number 5 = .ok (.iconst 0, 1) := by decide +kernel
theorem dX7_number_6 : decode cX7_number 6 = .ok (.istore_n 3, 1) := by decide +kernel
theorem dX7_number_7 : decode cX7_number 7 = .ok (.aload_n 0, 1) := by decide +kernel
theorem dX7_number_8 : decode cX7_number 8 = .ok (.getfield 176, 3) := by decide +kernel
theorem dX7_number_11 : decode cX7_number 11 = .ok (.aload_n 0, 1) := by decide +kernel
theorem dX7_number_12 : decode cX7_number 12 = .ok (.getfield 123, 3) := by decide +kernel
theorem dX7_number_15 : decode cX7_number 15 = .ok (.if_icmp .ge 63, 3) := by decide +kernel
theorem dX7_number_18 : decode cX7_number 18 = .ok (.aload_n 0, 1) := by decide +kernel
theorem dX7_number_19 : decode cX7_number 19 = .ok (.getfield 176, 3) := by decide +kernel
theorem dX7_number_22 : decode cX7_number 22 = .ok (.iload_n 2, 1) := by decide +kernel
theorem dX7_number_23 : decode cX7_number 23 = .ok (.iload_n 1, 1) := by decide +kernel
theorem dX7_number_24 : decode cX7_number 24 = .ok (.iadd, 1) := by decide +kernel
theorem dX7_number_25 : decode cX7_number 25 = .ok (.if_icmp .ge 53, 3) := by decide +kernel
theorem dX7_number_28 : decode cX7_number 28 = .ok (.aload_n 0, 1) := by decide +kernel
theorem dX7_number_29 : decode cX7_number 29 = .ok (.getfield 19, 3) := by decide +kernel
theorem dX7_number_32 : decode cX7_number 32 = .ok (.aload_n 0, 1) := by decide +kernel
theorem dX7_number_33 : decode cX7_number 33 = .ok (.getfield 176, 3) := by decide +kernel
theorem dX7_number_36 : decode cX7_number 36 = .ok (.caload, 1) := by decide +kernel
theorem dX7_number_37 : decode cX7_number 37 = .ok (.bipush 48, 2) := by decide +kernel
theorem dX7_number_39 : decode cX7_number 39 = .ok (.bipush 57, 2) := by decide +kernel
theorem dX7_number_41 : decode cX7_number 41 = .ok (.invokestatic 39, 3) := by decide +kernel
theorem dX7_number_44 : decode cX7_number 44 = .ok (.ifCond .eq 34, 3) := by decide +kernel
theorem dX7_number_47 : decode cX7_number 47 = .ok (.bipush 10, 2) := by decide +kernel
theorem dX7_number_49 : decode cX7_number 49 = .ok (.iload_n 3, 1) := by decide +kernel
theorem dX7_number_50 : decode cX7_number 50 = .ok (.imul, 1) := by decide +kernel
theorem dX7_number_51 : decode cX7_number 51 = .ok (.aload_n 0, 1) := by decide +kernel
theorem dX7_number_52 : decode cX7_number 52 = .ok (.getfield 19, 3) := by decide +kernel
theorem dX7_number_55 : decode cX7_number 55 = .ok (.aload_n 0, 1) := by decide +kernel
theorem dX7_number_56 : decode cX7_number 56 = .ok (.getfield 176, 3) := by decide +kernel
theorem dX7_number_59 : decode cX7_number 59 = .ok (.caload, 1) := by decide +kernel
theorem dX7_number_60 : decode cX7_number 60 = .ok (.iadd, 1) := by decide +kernel
theorem dX7_number_61 : decode cX7_number 61 = .ok (.bipush 48, 2) := by decide +kernel
theorem dX7_number_63 : decode cX7_number 63 = .ok (.isub, 1) := by decide +kernel
theorem dX7_number_64 : decode cX7_number 64 = .ok (.istore_n 3, 1) := by decide +kernel
theorem dX7_number_65 : decode cX7_number 65 = .ok (.aload_n 0, 1) := by decide +kernel
theorem dX7_number_66 : decode cX7_number 66 = .ok (.dup, 1) := by decide +kernel
theorem dX7_number_67 : decode cX7_number 67 = .ok (.getfield 176, 3) := by decide +kernel
theorem dX7_number_70 : decode cX7_number 70 = .ok (.iconst 1, 1) := by decide +kernel
theorem dX7_number_71 : decode cX7_number 71 = .ok (.iadd, 1) := by decide +kernel
theorem dX7_number_72 : decode cX7_number 72 = .ok (.putfield 176, 3) := by decide +kernel
theorem dX7_number_75 : decode cX7_number 75 = .ok (.goto (-68), 3) := by decide +kernel
theorem dX7_number_78 : decode cX7_number 78 = .ok (.aload_n 0, 1) := by decide +kernel
theorem dX7_number_79 : decode cX7_number 79 = .ok (.getfield 176, 3) := by decide +kernel
theorem dX7_number_82 : decode cX7_number 82 = .ok (.iload_n 2, 1) := by decide +kernel
theorem dX7_number_83 : decode cX7_number 83 = .ok (.if_icmp .le 7, 3) := by decide +kernel
theorem dX7_number_86 : decode cX7_number 86 = .ok (.iload_n 3, 1) := by decide +kernel
theorem dX7_number_87 : decode cX7_number 87 = .ok (.goto 4, 3) := by decide +kernel
theorem dX7_number_90 : decode cX7_number 90 = .ok (.iconst (-1), 1) := by decide +kernel
theorem dX7_number_91 : decode cX7_number 91 = .ok (.ireturn, 1) := by decide +kernel
set_option maxRecDepth 20000 in
theorem ggX7_readsForm_X7_passes : GoodIn wsX7_readsForm wsX7_passes := goodIn_r _ [7, 8, 9, 10, 18, 19, 20, 21, 22, 23, 24, 25, 26, 27, 28, 29, 30, 31, 32, 33, 34, 35, 36, 37, 38] (by decide +kernel) (by decide +kernel)
set_option maxRecDepth 20000 in
theorem gX7_readsForm_X7_passes : GoodIn wsX7_readsForm (wsV RX7 182 RX7 yX7_passes wsX7_passes) := goodIn_app (goodIn_of _ (by decide +kernel)) ggX7_readsForm_X7_passes
set_option maxRecDepth 20000 in
theorem ggX7_readsForm_X7_number : GoodIn wsX7_readsForm wsX7_number := goodIn_r _ [14, 8, 9, 10, 15, 16, 6, 17, 18, 19, 20, 21, 22, 23, 24, 25, 26, 27, 28, 29, 30, 31, 32, 33, 34, 35, 36, 37, 38] (by decide +kernel) (by decide +kernel)
set_option maxRecDepth 20000 in
theorem gX7_readsForm_X7_number : GoodIn wsX7_readsForm (wsV RX7 186 RX7 yX7_number wsX7_number) := goodIn_app (goodIn_of _ (by decide +kernel)) ggX7_readsForm_X7_number
theorem dX7_readsForm_0 : decode cX7_readsForm 0 = .ok (.aload_n 0, 1) := by decide +kernel
theorem dX7_readsForm_1 : decode cX7_readsForm 1 = .ok (.iconst 0, 1) := by decide +kernel
theorem dX7_readsForm_2 : decode cX7_readsForm 2 = .ok (.putfield 179, 3) := by decide +kernel
theorem dX7_readsForm_5 : decode cX7_readsForm 5 = .ok (.aload_n 0, 1) := by decide +kernel
theorem dX7_readsForm_6 : decode cX7_readsForm 6 = .ok (.getfield 23, 3) := by decide +kernel
theorem dX7_readsForm_9 : decode cX7_readsForm 9 = .ok (.iconst 3, 1) := by decide +kernel
theorem dX7_readsForm_10 : decode cX7_readsForm 10 = .ok (.iconst 0, 1) := by decide +kernel
theorem dX7_readsForm_11 : decode cX7_readsForm 11 = .ok (.iastore, 1) := by decide +kernel
theorem dX7_readsForm_12 : decode cX7_readsForm 12 = .ok (.aload_n 0, 1) := by decide +kernel
theorem dX7_readsForm_13 : decode cX7_readsForm 13 = .ok (.bipush 99, 2) := by decide +kernel
theorem dX7_readsForm_15 : decode cX7_readsForm 15 = .ok (.invokevirtual 182, 3) := by decide +kernel
theorem dX7_readsForm_18 : decode cX7_readsForm 18 = .ok (.ifCond .eq 56, 3) := by decide +kernel
theorem dX7_readsForm_21 : decode cX7_readsForm 21 = .ok (.aload_n 0, 1) := by decide +kernel
theorem dX7_readsForm_22 : decode cX7_readsForm 22 = .ok (.aload_n 0, 1) := by decide +kernel
theorem dX7_readsForm_23 : decode cX7_readsForm 23 = .ok (.iconst 1, 1) := by decide +kernel
theorem dX7_readsForm_24 : decode cX7_readsForm 24 = .ok (.invokevirtual 186, 3) := by decide +kernel
theorem dX7_readsForm_27 : decode cX7_readsForm 27 = .ok (.iconst 1, 1) := by decide +kernel
theorem dX7_readsForm_28 : decode cX7_readsForm 28 = .ok (.iadd, 1) := by decide +kernel
theorem dX7_readsForm_29 : decode cX7_readsForm 29 = .ok (.putfield 179, 3) := by decide +kernel
theorem dX7_readsForm_32 : decode cX7_readsForm 32 = .ok (.aload_n 0, 1) := by decide +kernel
theorem dX7_readsForm_33 : decode cX7_readsForm 33 = .ok (.getfield 23, 3) := by decide +kernel
theorem dX7_readsForm_36 : decode cX7_readsForm 36 = .ok (.iconst 3, 1) := by decide +kernel
theorem dX7_readsForm_37 : decode cX7_readsForm 37 = .ok (.aload_n 0, 1) := by decide +kernel
theorem dX7_readsForm_38 : decode cX7_readsForm 38 = .ok (.getfield 179, 3) := by decide +kernel
theorem dX7_readsForm_41 : decode cX7_readsForm 41 = .ok (.ifCond .le 20, 3) := by decide +kernel
theorem dX7_readsForm_44 : decode cX7_readsForm 44 = .ok (.aload_n 0, 1) := by decide +kernel
theorem dX7_readsForm_45 : decode cX7_readsForm 45 = .ok (.bipush 64, 2) := by decide +kernel
theorem dX7_readsForm_47 : decode cX7_readsForm 47 = .ok (.invokevirtual 182, 3) := by decide +kernel
theorem dX7_readsForm_50 : decode cX7_readsForm 50 = .ok (.ifCond .eq 11, 3) := by decide +kernel
theorem dX7_readsForm_53 : decode cX7_readsForm 53 = .ok (.aload_n 0, 1) := by decide +kernel
theorem dX7_readsForm_54 : decode cX7_readsForm 54 = .ok (.iconst 1, 1) := by decide +kernel
theorem dX7_readsForm_55 : decode cX7_readsForm 55 = .ok (.invokevirtual 186, 3) := by decide +kernel
theorem dX7_readsForm_58 : decode cX7_readsForm 58 = .ok (.goto 4, 3) := by decide +kernel
theorem dX7_readsForm_61 : decode cX7_readsForm 61 = .ok (.iconst (-1), 1) := by decide +kernel
theorem dX7_readsForm_62 : decode cX7_readsForm 62 = .ok (.iastore, 1) := by decide +kernel
theorem dX7_readsForm_63 : decode cX7_readsForm 63 = .ok (.aload_n 0, 1) := by decide +kernel
theorem dX7_readsForm_64 : decode cX7_readsForm 64 = .ok (.getfield 23, 3) := by decide +kernel
theorem dX7_readsForm_67 : decode cX7_readsForm 67 = .ok (.iconst 3, 1) := by decide +kernel
theorem dX7_readsForm_68 : decode cX7_readsForm 68 = .ok (.iaload, 1) := by decide +kernel
theorem dX7_readsForm_69 : decode cX7_readsForm 69 = .ok (.ifCond .ge 16, 3) := by decide +kernel
theorem dX7_readsForm_72 : decode cX7_readsForm 72 = .ok (.iconst 0, 1) := by decide +kernel
theorem dX7_readsForm_73 : decode cX7_readsForm 73 = .ok (.ireturn, 1) := by decide +kernel
theorem dX7_readsForm_74 : decode cX7_readsForm 74 = .ok (.aload_n 0, 1) := by decide +kernel
theorem dX7_readsForm_75 : decode cX7_readsForm 75 = .ok (.bipush 98, 2) := by decide +kernel
theorem dX7_readsForm_77 : decode cX7_readsForm 77 = .ok (.invokevirtual 182, 3) := by decide +kernel
theorem dX7_readsForm_80 : decode cX7_readsForm 80 = .ok (.ifCond .ne 5, 3) := by decide +kernel
theorem dX7_readsForm_83 : decode cX7_readsForm 83 = .ok (.iconst 0, 1) := by decide +kernel
theorem dX7_readsForm_84 : decode cX7_readsForm 84 = .ok (.ireturn, 1) := by decide +kernel
theorem dX7_readsForm_85 : decode cX7_readsForm 85 = .ok (.aload_n 0, 1) := by decide +kernel
theorem dX7_readsForm_86 : decode cX7_readsForm 86 = .ok (.getfield 23, 3) := by decide +kernel
theorem dX7_readsForm_89 : decode cX7_readsForm 89 = .ok (.iconst 0, 1) := by decide +kernel
theorem dX7_readsForm_90 : decode cX7_readsForm 90 = .ok (.aload_n 0, 1) := by decide +kernel
theorem dX7_readsForm_91 : decode cX7_readsForm 91 = .ok (.bipush 116, 2) := by decide +kernel
theorem dX7_readsForm_93 : decode cX7_readsForm 93 = .ok (.invokevirtual 182, 3) := by decide +kernel
theorem dX7_readsForm_96 : decode cX7_readsForm 96 = .ok (.ifCond .eq 11, 3) := by decide +kernel
theorem dX7_readsForm_99 : decode cX7_readsForm 99 = .ok (.aload_n 0, 1) := by decide +kernel
theorem dX7_readsForm_100 : decode cX7_readsForm 100 = .ok (.iconst 5, 1) := by decide +kernel
theorem dX7_readsForm_101 : decode cX7_readsForm 101 = .ok (.invokevirtual 186, 3) := by decide +kernel
theorem dX7_readsForm_104 : decode cX7_readsForm 104 = .ok (.goto 4, 3) := by decide +kernel
theorem dX7_readsForm_107 : decode cX7_readsForm 107 = .ok (.iconst (-1), 1) := by decide +kernel
theorem dX7_readsForm_108 : decode cX7_readsForm 108 = .ok (.iastore, 1) := by decide +kernel
theorem dX7_readsForm_109 : decode cX7_readsForm 109 = .ok (.aload_n 0, 1) := by decide +kernel
theorem dX7_readsForm_110 : decode cX7_readsForm 110 = .ok (.getfield 23, 3) := by decide +kernel
theorem dX7_readsForm_113 : decode cX7_readsForm 113 = .ok (.iconst 1, 1) := by decide +kernel
theorem dX7_readsForm_114 : decode cX7_readsForm 114 = .ok (.aload_n 0, 1) := by decide +kernel
theorem dX7_readsForm_115 : decode cX7_readsForm 115 = .ok (.getfield 23, 3) := by decide +kernel
theorem dX7_readsForm_118 : decode cX7_readsForm 118 = .ok (.iconst 0, 1) := by decide +kernel
theorem dX7_readsForm_119 : decode cX7_readsForm 119 = .ok (.iaload, 1) := by decide +kernel
theorem dX7_readsForm_120 : decode cX7_readsForm 120 = .ok (.ifCond .lt 21, 3) := by decide +kernel
theorem dX7_readsForm_123 : decode cX7_readsForm 123 = .ok (.aload_n 0, 1) := by decide +kernel
theorem dX7_readsForm_124 : decode cX7_readsForm 124 = .ok (.bipush 112, 2) := by decide +kernel
theorem dX7_readsForm_126 : decode cX7_readsForm 126 = .ok (.invokevirtual 182, 3) := by decide +kernel
theorem dX7_readsForm_129 : decode cX7_readsForm 129 = .ok (.ifCond .eq 12, 3) := by decide +kernel
theorem dX7_readsForm_132 : decode cX7_readsForm 132 = .ok (.aload_n 0, 1) := by decide +kernel
theorem dX7_readsForm_133 : decode cX7_readsForm 133 = .ok (.bipush 6, 2) := by decide +kernel
theorem dX7_readsForm_135 : decode cX7_readsForm 135 = .ok (.invokevirtual 186, 3) := by decide +kernel
theorem dX7_readsForm_138 : decode cX7_readsForm 138 = .ok (.goto 4, 3) := by decide +kernel
theorem dX7_readsForm_141 : decode cX7_readsForm 141 = .ok (.iconst (-1), 1) := by decide +kernel
theorem dX7_readsForm_142 : decode cX7_readsForm 142 = .ok (.iastore, 1) := by decide +kernel
theorem dX7_readsForm_143 : decode cX7_readsForm 143 = .ok (.aload_n 0, 1) := by decide +kernel
theorem dX7_readsForm_144 : decode cX7_readsForm 144 = .ok (.getfield 23, 3) := by decide +kernel
theorem dX7_readsForm_147 : decode cX7_readsForm 147 = .ok (.iconst 1, 1) := by decide +kernel
theorem dX7_readsForm_148 : decode cX7_readsForm 148 = .ok (.iaload, 1) := by decide +kernel
theorem dX7_readsForm_149 : decode cX7_readsForm 149 = .ok (.ifCond .lt 12, 3) := by decide +kernel
theorem dX7_readsForm_152 : decode cX7_readsForm 152 = .ok (.aload_n 0, 1) := by decide +kernel
theorem dX7_readsForm_153 : decode cX7_readsForm 153 = .ok (.bipush 99, 2) := by decide +kernel
theorem dX7_readsForm_155 : decode cX7_readsForm 155 = .ok (.invokevirtual 182, 3) := by decide +kernel
theorem dX7_readsForm_158 : decode cX7_readsForm 158 = .ok (.ifCond .ne 5, 3) := by decide +kernel
theorem dX7_readsForm_161 : decode cX7_readsForm 161 = .ok (.iconst 0, 1) := by decide +kernel
theorem dX7_readsForm_162 : decode cX7_readsForm 162 = .ok (.ireturn, 1) := by decide +kernel
theorem dX7_readsForm_163 : decode cX7_readsForm 163 = .ok (.aload_n 0, 1) := by decide +kernel
theorem dX7_readsForm_164 : decode cX7_readsForm 164 = .ok (.bipush 45, 2) := by decide +kernel
theorem dX7_readsForm_166 : decode cX7_readsForm 166 = .ok (.invokevirtual 182, 3) := by decide +kernel
theorem dX7_readsForm_169 : decode cX7_readsForm 169 = .ok (.istore_n 1, 1) := by decide +kernel
theorem dX7_readsForm_170 : decode cX7_readsForm 170 = .ok (.aload_n 0, 1) := by decide +kernel
theorem dX7_readsForm_171 : decode cX7_readsForm 171 = .ok (.iconst 3, 1) := by decide +kernel
theorem dX7_readsForm_172 : decode cX7_readsForm 172 = .ok (.invokevirtual 186, 3) := by decide +kernel
theorem dX7_readsForm_175 : decode cX7_readsForm 175 = .ok (.istore_n 2, 1) := by decide +kernel
theorem dX7_readsForm_176 : decode cX7_readsForm 176 = .ok (.aload_n 0, 1) := by decide +kernel
theorem dX7_readsForm_177 : decode cX7_readsForm 177 = .ok (.getfield 23, 3) := by decide +kernel
theorem dX7_readsForm_180 : decode cX7_readsForm 180 = .ok (.iconst 2, 1) := by decide +kernel
theorem dX7_readsForm_181 : decode cX7_readsForm 181 = .ok (.iload_n 1, 1) := by decide +kernel
theorem dX7_readsForm_182 : decode cX7_readsForm 182 = .ok (.ifCond .eq 8, 3) := by decide +kernel
theorem dX7_readsForm_185 : decode cX7_readsForm 185 = .ok (.iload_n 2, 1) := by decide +kernel
theorem dX7_readsForm_186 : decode cX7_readsForm 186 = .ok (.ineg, 1) := by decide +kernel
theorem dX7_readsForm_187 : decode cX7_readsForm 187 = .ok (.goto 4, 3) := by decide +kernel
theorem dX7_readsForm_190 : decode cX7_readsForm 190 = .ok (.iload_n 2, 1) := by decide +kernel
theorem dX7_readsForm_191 : decode cX7_readsForm 191 = .ok (.iastore, 1) := by decide +kernel
theorem dX7_readsForm_192 : decode cX7_readsForm 192 = .ok (.iload_n 2, 1) := by decide +kernel
theorem dX7_readsForm_193 : decode cX7_readsForm 193 = .ok (.ifCond .lt 16, 3) := by decide +kernel
theorem dX7_readsForm_196 : decode cX7_readsForm 196 = .ok (.aload_n 0, 1) := by decide +kernel
theorem dX7_readsForm_197 : decode cX7_readsForm 197 = .ok (.bipush 59, 2) := by decide +kernel
theorem dX7_readsForm_199 : decode cX7_readsForm 199 = .ok (.invokevirtual 182, 3) := by decide +kernel
theorem dX7_readsForm_202 : decode cX7_readsForm 202 = .ok (.ifCond .eq 7, 3) := by decide +kernel
theorem dX7_readsForm_205 : decode cX7_readsForm 205 = .ok (.iconst 1, 1) := by decide +kernel
theorem dX7_readsForm_206 : decode cX7_readsForm 206 = .ok (.goto 4, 3) := by decide +kernel
theorem dX7_readsForm_209 : decode cX7_readsForm 209 = .ok (.iconst 0, 1) := by decide +kernel
theorem dX7_readsForm_210 : decode cX7_readsForm 210 = .ok (.ireturn, 1) := by decide +kernel
set_option maxRecDepth 20000 in
theorem ggX7_entersOne_X7_readsForm : GoodIn wsX7_entersOne wsX7_readsForm := goodIn_r _ [7, 1, 2, 8, 9, 10, 6, 11, 12, 13, 14, 15, 16, 17, 18, 19, 20, 21, 48, 49, 50, 51, 52, 53, 54, 55, 56, 57, 58, 59, 60, 61, 62, 63, 64, 65, 66, 67, 68] (by decide +kernel) (by decide +kernel)
set_option maxRecDepth 20000 in
theorem gX7_entersOne_X7_readsForm : GoodIn wsX7_entersOne (wsV RX7 189 RX7 yX7_readsForm wsX7_readsForm) := goodIn_app (goodIn_of _ (by decide +kernel)) ggX7_entersOne_X7_readsForm
set_option maxRecDepth 20000 in
theorem ggX7_entersOne_X7_areValues : GoodIn wsX7_entersOne wsX7_areValues := goodIn_r _ [24, 25, 26, 19, 20, 6, 21] (by decide +kernel) (by decide +kernel)
set_option maxRecDepth 20000 in
theorem gX7_entersOne_X7_areValues : GoodIn wsX7_entersOne (va_wsS RX7 80 yX7_areValues wsX7_areValues) := goodIn_app (goodIn_of _ (by decide +kernel)) ggX7_entersOne_X7_areValues
set_option maxRecDepth 20000 in
theorem ggX7_entersOne_X7_isTaken : GoodIn wsX7_entersOne wsX7_isTaken := goodIn_r _ [30, 31, 32, 33, 34, 6, 35, 48, 49, 50, 51, 52, 53, 54, 55, 56, 57, 58, 59, 60, 61, 62, 63, 64, 65, 66, 67, 68] (by decide +kernel) (by decide +kernel)
set_option maxRecDepth 20000 in
theorem gX7_entersOne_X7_isTaken : GoodIn wsX7_entersOne (wsV RX7 67 RX7 yX7_isTaken wsX7_isTaken) := goodIn_app (goodIn_of _ (by decide +kernel)) ggX7_entersOne_X7_isTaken
set_option maxRecDepth 20000 in
theorem ggX7_entersOne_X7_isFull : GoodIn wsX7_entersOne wsX7_isFull := goodIn_r _ [39, 31, 48, 49, 50, 51, 52, 53, 54, 55, 56, 57, 58, 59, 60, 61, 62, 63, 64, 65, 66, 67, 68] (by decide +kernel) (by decide +kernel)
set_option maxRecDepth 20000 in
theorem gX7_entersOne_X7_isFull : GoodIn wsX7_entersOne (wsV RX7 71 RX7 yX7_isFull wsX7_isFull) := goodIn_app (goodIn_of _ (by decide +kernel)) ggX7_entersOne_X7_isFull
set_option maxRecDepth 20000 in
theorem ggX7_entersOne_X7_puts : GoodIn wsX7_entersOne wsX7_puts := goodIn_r _ [43, 31, 32, 33, 34, 6, 35, 44, 45, 46, 47, 48, 49, 50, 51, 52, 53, 54, 55, 56, 57, 58, 59, 60, 61, 62, 63, 64, 65, 66, 67, 68] (by decide +kernel) (by decide +kernel)
set_option maxRecDepth 20000 in
theorem gX7_entersOne_X7_puts : GoodIn wsX7_entersOne (wsV RX7 76 RX7 yX7_puts wsX7_puts) := goodIn_app (goodIn_of _ (by decide +kernel)) ggX7_entersOne_X7_puts
theorem dX7_entersOne_0 : decode cX7_entersOne 0 = .ok (.aload_n 0, 1) := by decide +kernel
theorem dX7_entersOne_1 : decode cX7_entersOne 1 = .ok (.invokevirtual 189, 3) := by decide +kernel
theorem dX7_entersOne_4 : decode cX7_entersOne 4 = .ok (.ifCond .ne 5, 3) := by decide +kernel
theorem dX7_entersOne_7 : decode cX7_entersOne 7 = .ok (.iconst 1, 1) := by decide +kernel
theorem dX7_entersOne_8 : decode cX7_entersOne 8 = .ok (.ireturn, 1) := by decide +kernel
theorem dX7_entersOne_9 : decode cX7_entersOne 9 = .ok (.aload_n 0, 1) := by decide +kernel
theorem dX7_entersOne_10 : decode cX7_entersOne 10 = .ok (.getfield 179, 3) := by decide +kernel
theorem dX7_entersOne_13 : decode cX7_entersOne 13 = .ok (.iconst 3, 1) := by decide +kernel
theorem dX7_entersOne_14 : decode cX7_entersOne 14 = .ok (.if_icmp .gt 27, 3) := by decide +kernel
theorem dX7_entersOne_17 : decode cX7_entersOne 17 = .ok (.aload_n 0, 1) := by decide +kernel
theorem dX7_entersOne_18 : decode cX7_entersOne 18 = .ok (.getfield 23, 3) := by decide +kernel
theorem dX7_entersOne_21 : decode cX7_entersOne 21 = .ok (.iconst 0, 1) := by decide +kernel
theorem dX7_entersOne_22 : decode cX7_entersOne 22 = .ok (.iaload, 1) := by decide +kernel
theorem dX7_entersOne_23 : decode cX7_entersOne 23 = .ok (.aload_n 0, 1) := by decide +kernel
theorem dX7_entersOne_24 : decode cX7_entersOne 24 = .ok (.getfield 23, 3) := by decide +kernel
theorem dX7_entersOne_27 : decode cX7_entersOne 27 = .ok (.iconst 1, 1) := by decide +kernel
theorem dX7_entersOne_28 : decode cX7_entersOne 28 = .ok (.iaload, 1) := by decide +kernel
theorem dX7_entersOne_29 : decode cX7_entersOne 29 = .ok (.aload_n 0, 1) := by decide +kernel
theorem dX7_entersOne_30 : decode cX7_entersOne 30 = .ok (.getfield 23, 3) := by decide +kernel
theorem dX7_entersOne_33 : decode cX7_entersOne 33 = .ok (.iconst 2, 1) := by decide +kernel
theorem dX7_entersOne_34 : decode cX7_entersOne 34 = .ok (.iaload, 1) := by decide +kernel
theorem dX7_entersOne_35 : decode cX7_entersOne 35 = .ok (.invokestatic 80, 3) := by decide +kernel
theorem dX7_entersOne_38 : decode cX7_entersOne 38 = .ok (.ifCond .ne 5, 3) := by decide +kernel
theorem dX7_entersOne_41 : decode cX7_entersOne 41 = .ok (.iconst 2, 1) := by decide +kernel
theorem dX7_entersOne_42 : decode cX7_entersOne 42 = .ok (.ireturn, 1) := by decide +kernel
theorem dX7_entersOne_43 : decode cX7_entersOne 43 = .ok (.aload_n 0, 1) := by decide +kernel
theorem dX7_entersOne_44 : decode cX7_entersOne 44 = .ok (.aload_n 0, 1) := by decide +kernel
theorem dX7_entersOne_45 : decode cX7_entersOne 45 = .ok (.getfield 179, 3) := by decide +kernel
theorem dX7_entersOne_48 : decode cX7_entersOne 48 = .ok (.aload_n 0, 1) := by decide +kernel
theorem dX7_entersOne_49 : decode cX7_entersOne 49 = .ok (.getfield 23, 3) := by decide +kernel
theorem dX7_entersOne_52 : decode cX7_entersOne 52 = .ok (.iconst 0, 1) := by decide +kernel
theorem dX7_entersOne_53 : decode cX7_entersOne 53 = .ok (.iaload, 1) := by decide +kernel
theorem dX7_entersOne_54 : decode cX7_entersOne 54 = .ok (.invokevirtual 67, 3) := by decide +kernel
theorem dX7_entersOne_57 : decode cX7_entersOne 57 = .ok (.ifCond .eq 5, 3) := by decide +kernel
theorem dX7_entersOne_60 : decode cX7_entersOne 60 = .ok (.iconst 3, 1) := by decide +kernel
theorem dX7_entersOne_61 : decode cX7_entersOne 61 = .ok (.ireturn, 1) := by decide +kernel
theorem dX7_entersOne_62 : decode cX7_entersOne 62 = .ok (.aload_n 0, 1) := by decide +kernel
theorem dX7_entersOne_63 : decode cX7_entersOne 63 = .ok (.aload_n 0, 1) := by decide +kernel
theorem dX7_entersOne_64 : decode cX7_entersOne 64 = .ok (.getfield 179, 3) := by decide +kernel
theorem dX7_entersOne_67 : decode cX7_entersOne 67 = .ok (.invokevirtual 71, 3) := by decide +kernel
theorem dX7_entersOne_70 : decode cX7_entersOne 70 = .ok (.ifCond .eq 5, 3) := by decide +kernel
theorem dX7_entersOne_73 : decode cX7_entersOne 73 = .ok (.iconst 4, 1) := by decide +kernel
theorem dX7_entersOne_74 : decode cX7_entersOne 74 = .ok (.ireturn, 1) := by decide +kernel
theorem dX7_entersOne_75 : decode cX7_entersOne 75 = .ok (.aload_n 0, 1) := by decide +kernel
theorem dX7_entersOne_76 : decode cX7_entersOne 76 = .ok (.aload_n 0, 1) := by decide +kernel
theorem dX7_entersOne_77 : decode cX7_entersOne 77 = .ok (.getfield 179, 3) := by decide +kernel
theorem dX7_entersOne_80 : decode cX7_entersOne 80 = .ok (.aload_n 0, 1) := by decide +kernel
theorem dX7_entersOne_81 : decode cX7_entersOne 81 = .ok (.getfield 23, 3) := by decide +kernel
theorem dX7_entersOne_84 : decode cX7_entersOne 84 = .ok (.iconst 0, 1) := by decide +kernel
theorem dX7_entersOne_85 : decode cX7_entersOne 85 = .ok (.iaload, 1) := by decide +kernel
theorem dX7_entersOne_86 : decode cX7_entersOne 86 = .ok (.aload_n 0, 1) := by decide +kernel
theorem dX7_entersOne_87 : decode cX7_entersOne 87 = .ok (.getfield 23, 3) := by decide +kernel
theorem dX7_entersOne_90 : decode cX7_entersOne 90 = .ok (.iconst 1, 1) := by decide +kernel
theorem dX7_entersOne_91 : decode cX7_entersOne 91 = .ok (.iaload, 1) := by decide +kernel
theorem dX7_entersOne_92 : decode cX7_entersOne 92 = .ok (.aload_n 0, 1) := by decide +kernel
theorem dX7_entersOne_93 : decode cX7_entersOne 93 = .ok (.getfield 23, 3) := by decide +kernel
theorem dX7_entersOne_96 : decode cX7_entersOne 96 = .ok (.iconst 2, 1) := by decide +kernel
theorem dX7_entersOne_97 : decode cX7_entersOne 97 = .ok (.iaload, 1) := by decide +kernel
theorem dX7_entersOne_98 : decode cX7_entersOne 98 = .ok (.aload_n 0, 1) := by decide +kernel
theorem dX7_entersOne_99 : decode cX7_entersOne 99 = .ok (.getfield 23, 3) := by decide +kernel
theorem dX7_entersOne_102 : decode cX7_entersOne 102 = .ok (.iconst 3, 1) := by decide +kernel
theorem dX7_entersOne_103 : decode cX7_entersOne 103 = .ok (.iaload, 1) := by decide +kernel
theorem dX7_entersOne_104 : decode cX7_entersOne 104 = .ok (.invokevirtual 76, 3) := by decide +kernel
theorem dX7_entersOne_107 : decode cX7_entersOne 107 = .ok (.pop, 1) := by decide +kernel
theorem dX7_entersOne_108 : decode cX7_entersOne 108 = .ok (.iconst 0, 1) := by decide +kernel
theorem dX7_entersOne_109 : decode cX7_entersOne 109 = .ok (.ireturn, 1) := by decide +kernel
set_option maxRecDepth 20000 in
theorem ggX7_faulty_X7_entersOne : GoodIn wsX7_faulty wsX7_entersOne := goodIn_r _ [11, 12, 13, 14, 15, 16, 10, 17, 18, 19, 20, 21, 4, 5, 22, 23, 24, 25, 26, 27, 28, 29, 30, 31, 32, 33, 34, 35, 36, 37, 38, 2, 39, 40, 41, 42, 43, 44, 45, 46, 47, 48, 49, 50, 51, 52, 53, 54, 55, 56, 57, 58, 59, 60, 61, 62, 63, 64, 65, 66, 67, 68, 69, 70, 71, 72, 73, 74, 75] (by decide +kernel) (by decide +kernel)
set_option maxRecDepth 20000 in
theorem gX7_faulty_X7_entersOne : GoodIn wsX7_faulty (wsV RX7 193 RX7 yX7_entersOne wsX7_entersOne) := goodIn_app (goodIn_of _ (by decide +kernel)) ggX7_faulty_X7_entersOne
theorem dX7_faulty_0 : decode cX7_faulty 0 = .ok (.iconst 0, 1) := by decide +kernel
theorem dX7_faulty_1 : decode cX7_faulty 1 = .ok (.istore_n 1, 1) := by decide +kernel
theorem dX7_faulty_2 : decode cX7_faulty 2 = .ok (.iload_n 1, 1) := by decide +kernel
theorem dX7_faulty_3 : decode cX7_faulty 3 = .ok (.sipush 327, 3) := by decide +kernel
theorem dX7_faulty_6 : decode cX7_faulty 6 = .ok (.if_icmp .ge 21, 3) := by decide +kernel
theorem dX7_faulty_9 : decode cX7_faulty 9 = .ok (.aload_n 0, 1) := by decide +kernel
theorem dX7_faulty_10 : decode cX7_faulty 10 = .ok (.getfield 16, 3) := by decide +kernel
theorem dX7_faulty_13 : decode cX7_faulty 13 = .ok (.iload_n 1, 1) := by decide +kernel
theorem dX7_faulty_14 : decode cX7_faulty 14 = .ok (.aload_n 0, 1) := by decide +kernel
theorem dX7_faulty_15 : decode cX7_faulty 15 = .ok (.getfield 7, 3) := by decide +kernel
theorem dX7_faulty_18 : decode cX7_faulty 18 = .ok (.iload_n 1, 1) := by decide +kernel
theorem dX7_faulty_19 : decode cX7_faulty 19 = .ok (.iaload, 1) := by decide +kernel
theorem dX7_faulty_20 : decode cX7_faulty 20 = .ok (.iastore, 1) := by decide +kernel
theorem dX7_faulty_21 : decode cX7_faulty 21 = .ok (.iinc 1 1, 3) := by decide +kernel
theorem dX7_faulty_24 : decode cX7_faulty 24 = .ok (.goto (-22), 3) := by decide +kernel
theorem dX7_faulty_27 : decode cX7_faulty 27 = .ok (.ldc 92, 2) := by decide +kernel
theorem dX7_faulty_29 : decode cX7_faulty 29 = .ok (.istore_n 1, 1) := by decide +kernel
theorem dX7_faulty_30 : decode cX7_faulty 30 = .ok (.aload_n 0, 1) := by decide +kernel
theorem dX7_faulty_31 : decode cX7_faulty 31 = .ok (.iconst 0, 1) := by decide +kernel
theorem dX7_faulty_32 : decode cX7_faulty 32 = .ok (.putfield 176, 3) := by decide +kernel
theorem dX7_faulty_35 : decode cX7_faulty 35 = .ok (.aload_n 0, 1) := by decide +kernel
theorem dX7_faulty_36 : decode cX7_faulty 36 = .ok (.getfield 176, 3) := by decide +kernel
theorem dX7_faulty_39 : decode cX7_faulty 39 = .ok (.aload_n 0, 1) := by decide +kernel
theorem dX7_faulty_40 : decode cX7_faulty 40 = .ok (.getfield 123, 3) := by decide +kernel
theorem dX7_faulty_43 : decode cX7_faulty 43 = .ok (.if_icmp .ge 38, 3) := by decide +kernel
theorem dX7_faulty_46 : decode cX7_faulty 46 = .ok (.iload_n 1, 1) := by decide +kernel
theorem dX7_faulty_47 : decode cX7_faulty 47 = .ok (.ldc 92, 2) := by decide +kernel
theorem dX7_faulty_49 : decode cX7_faulty 49 = .ok (.if_icmp .ne 32, 3) := by decide +kernel
theorem dX7_faulty_52 : decode cX7_faulty 52 = .ok (.aload_n 0, 1) := by decide +kernel
theorem dX7_faulty_53 : decode cX7_faulty 53 = .ok (.getfield 176, 3) := by decide +kernel
theorem dX7_faulty_56 : decode cX7_faulty 56 = .ok (.istore_n 2, 1) := by decide +kernel
theorem dX7_faulty_57 : decode cX7_faulty 57 = .ok (.aload_n 0, 1) := by decide +kernel
theorem dX7_faulty_58 : decode cX7_faulty 58 = .ok (.aload_n 0, 1) := by decide +kernel
theorem dX7_faulty_59 : decode cX7_faulty 59 = .ok (.invokevirtual 193, 3) := by decide +kernel
theorem dX7_faulty_62 : decode cX7_faulty 62 = .ok (.putfield 196, 3) := by decide +kernel
theorem dX7_faulty_65 : decode cX7_faulty 65 = .ok (.aload_n 0, 1) := by decide +kernel
theorem dX7_faulty_66 : decode cX7_faulty 66 = .ok (.getfield 196, 3) := by decide +kernel
theorem dX7_faulty_69 : decode cX7_faulty 69 = .ok (.ifCond .le 7, 3) := by decide +kernel
theorem dX7_faulty_72 : decode cX7_faulty 72 = .ok (.iload_n 2, 1) := by decide +kernel
theorem dX7_faulty_73 : decode cX7_faulty 73 = .ok (.goto 4, 3) := by decide +kernel
theorem dX7_faulty_76 : decode cX7_faulty 76 = .ok (.iload_n 1, 1) := by decide +kernel
theorem dX7_faulty_77 : decode cX7_faulty 77 = .ok (.istore_n 1, 1) := by decide +kernel
theorem dX7_faulty_78 : decode cX7_faulty 78 = .ok (.goto (-43), 3) := by decide +kernel
theorem dX7_faulty_81 : decode cX7_faulty 81 = .ok (.iconst 0, 1) := by decide +kernel
theorem dX7_faulty_82 : decode cX7_faulty 82 = .ok (.istore_n 2, 1) := by decide +kernel
theorem dX7_faulty_83 : decode cX7_faulty 83 = .ok (.iload_n 2, 1) := by decide +kernel
theorem dX7_faulty_84 : decode cX7_faulty 84 = .ok (.sipush 327, 3) := by decide +kernel
theorem dX7_faulty_87 : decode cX7_faulty 87 = .ok (.if_icmp .ge 21, 3) := by decide +kernel
theorem dX7_faulty_90 : decode cX7_faulty 90 = .ok (.aload_n 0, 1) := by decide +kernel
theorem dX7_faulty_91 : decode cX7_faulty 91 = .ok (.getfield 7, 3) := by decide +kernel
theorem dX7_faulty_94 : decode cX7_faulty 94 = .ok (.iload_n 2, 1) := by decide +kernel
theorem dX7_faulty_95 : decode cX7_faulty 95 = .ok (.aload_n 0, 1) := by decide +kernel
theorem dX7_faulty_96 : decode cX7_faulty 96 = .ok (.getfield 16, 3) := by decide +kernel
theorem dX7_faulty_99 : decode cX7_faulty 99 = .ok (.iload_n 2, 1) := by decide +kernel
theorem dX7_faulty_100 : decode cX7_faulty 100 = .ok (.iaload, 1) := by decide +kernel
theorem dX7_faulty_101 : decode cX7_faulty 101 = .ok (.iastore, 1) := by decide +kernel
theorem dX7_faulty_102 : decode cX7_faulty 102 = .ok (.iinc 2 1, 3) := by decide +kernel
theorem dX7_faulty_105 : decode cX7_faulty 105 = .ok (.goto (-22), 3) := by decide +kernel
theorem dX7_faulty_108 : decode cX7_faulty 108 = .ok (.iload_n 1, 1) := by decide +kernel
theorem dX7_faulty_109 : decode cX7_faulty 109 = .ok (.ireturn, 1) := by decide +kernel
set_option maxRecDepth 20000 in
theorem ggX7_fault_X7_in : GoodIn wsX7_fault wsX7_in := goodIn_r _ [7] (by decide +kernel) (by decide +kernel)
set_option maxRecDepth 20000 in
theorem gX7_fault_X7_in : GoodIn wsX7_fault (va_wsS RX7 39 yX7_in wsX7_in) := goodIn_app (goodIn_of _ (by decide +kernel)) ggX7_fault_X7_in
set_option maxRecDepth 20000 in
theorem ggX7_fault_X7_faulty : GoodIn wsX7_fault wsX7_faulty := goodIn_r _ [11, 12, 13, 2, 14, 15, 3, 16, 17, 18, 6, 19, 20, 21, 22, 23, 24, 25, 26, 27, 28, 29, 30, 31, 32, 33, 34, 4, 5, 7, 35, 36, 37, 38, 39, 40, 41, 42, 43, 44, 45, 46, 47, 48, 49, 50, 51, 52, 53, 54, 55, 56, 57, 58, 59, 60, 61, 62, 63, 64, 65, 66, 67, 68, 69, 70, 71, 72, 73, 74, 75, 76, 77, 78, 79, 80] (by decide +kernel) (by decide +kernel)
set_option maxRecDepth 20000 in
theorem gX7_fault_X7_faulty : GoodIn wsX7_fault (wsV RX7 199 RX7 yX7_faulty wsX7_faulty) := goodIn_app (goodIn_of _ (by decide +kernel)) ggX7_fault_X7_faulty
theorem dX7_fault_0 : decode cX7_fault 0 = .ok (.iload_n 1, 1) := by decide +kernel
theorem dX7_fault_1 : decode cX7_fault 1 = .ok (.iconst 0, 1) := by decide +kernel
theorem dX7_fault_2 : decode cX7_fault 2 = .ok (.iconst 1, 1) := by decide +kernel
theorem dX7_fault_3 : decode cX7_fault 3 = .ok (.invokestatic 39, 3) := by decide +kernel
theorem dX7_fault_6 : decode cX7_fault 6 = .ok (.ifCond .ne 6, 3) := by decide +kernel
theorem dX7_fault_9 : decode cX7_fault 9 = .ok (.ldc 55, 2) := by decide +kernel
theorem dX7_fault_11 : decode cX7_fault 11 = .ok (.ireturn, 1) := by decide +kernel
theorem dX7_fault_12 : decode cX7_fault 12 = .ok (.aload_n 0, 1) := by decide +kernel
theorem dX7_fault_13 : decode cX7_fault 13 = .ok (.invokevirtual 199, 3) := by decide +kernel
theorem dX7_fault_16 : decode cX7_fault 16 = .ok (.istore_n 2, 1) := by decide +kernel
theorem dX7_fault_17 : decode cX7_fault 17 = .ok (.iload_n 2, 1) := by decide +kernel
theorem dX7_fault_18 : decode cX7_fault 18 = .ok (.ldc 92, 2) := by decide +kernel
theorem dX7_fault_20 : decode cX7_fault 20 = .ok (.if_icmp .eq 7, 3) := by decide +kernel
theorem dX7_fault_23 : decode cX7_fault 23 = .ok (.iload_n 1, 1) := by decide +kernel
theorem dX7_fault_24 : decode cX7_fault 24 = .ok (.ifCond .ne 7, 3) := by decide +kernel
theorem dX7_fault_27 : decode cX7_fault 27 = .ok (.iload_n 2, 1) := by decide +kernel
theorem dX7_fault_28 : decode cX7_fault 28 = .ok (.goto 7, 3) := by decide +kernel
theorem dX7_fault_31 : decode cX7_fault 31 = .ok (.aload_n 0, 1) := by decide +kernel
theorem dX7_fault_32 : decode cX7_fault 32 = .ok (.getfield 196, 3) := by decide +kernel
theorem dX7_fault_35 : decode cX7_fault 35 = .ok (.ireturn, 1) := by decide +kernel
set_option maxRecDepth 20000 in
theorem ggX7_enter_X7_faulty : GoodIn wsX7_enter wsX7_faulty := goodIn_r _ [9, 10, 11, 1, 3, 4, 12, 13, 14, 15, 8, 16, 17, 18, 19, 20, 21, 22, 23, 24, 25, 26, 27, 28, 29, 30, 31, 32, 33, 34, 35, 36, 37, 38, 39, 40, 41, 42, 43, 44, 45, 46, 47, 48, 49, 50, 51, 52, 53, 54, 55, 56, 57, 58, 59, 66, 67, 68, 69, 70, 71, 72, 73, 74, 75, 76, 77, 78, 79, 80, 81, 82, 83, 84, 85, 86] (by decide +kernel) (by decide +kernel)
set_option maxRecDepth 20000 in
theorem gX7_enter_X7_faulty : GoodIn wsX7_enter (wsV RX7 199 RX7 yX7_faulty wsX7_faulty) := goodIn_app (goodIn_of _ (by decide +kernel)) ggX7_enter_X7_faulty
set_option maxRecDepth 20000 in
theorem ggX7_enter_X7_records : GoodIn wsX7_enter wsX7_records := goodIn_r _ [63, 64, 65, 11, 66, 67, 68, 69, 70, 71, 72, 73, 74, 75, 76, 77, 78, 79, 80, 81, 82, 83, 84, 85, 86] (by decide +kernel) (by decide +kernel)
set_option maxRecDepth 20000 in
theorem gX7_enter_X7_records : GoodIn wsX7_enter (wsV RX7 56 RX7 yX7_records wsX7_records) := goodIn_app (goodIn_of _ (by decide +kernel)) ggX7_enter_X7_records
set_option maxRecDepth 20000 in
theorem ggX7_enter_X7_entersOne : GoodIn wsX7_enter wsX7_entersOne := goodIn_r _ [16, 17, 18, 19, 20, 21, 8, 22, 23, 24, 25, 26, 3, 4, 27, 28, 29, 30, 31, 32, 33, 34, 35, 36, 37, 38, 39, 40, 41, 42, 43, 11, 44, 45, 46, 47, 48, 49, 50, 51, 52, 53, 54, 55, 56, 57, 58, 59, 66, 67, 68, 69, 70, 71, 72, 73, 74, 75, 76, 77, 78, 79, 80, 81, 82, 83, 84, 85, 86] (by decide +kernel) (by decide +kernel)
set_option maxRecDepth 20000 in
theorem gX7_enter_X7_entersOne : GoodIn wsX7_enter (wsV RX7 193 RX7 yX7_entersOne wsX7_entersOne) := goodIn_app (goodIn_of _ (by decide +kernel)) ggX7_enter_X7_entersOne
theorem dX7_enter_0 : decode cX7_enter 0 = .ok (.aload_n 0, 1) := by decide +kernel
theorem dX7_enter_1 : decode cX7_enter 1 = .ok (.invokevirtual 199, 3) := by decide +kernel
theorem dX7_enter_4 : decode cX7_enter 4 = .ok (.ldc 92, 2) := by decide +kernel
theorem dX7_enter_6 : decode cX7_enter 6 = .ok (.if_icmp .eq 6, 3) := by decide +kernel
theorem dX7_enter_9 : decode cX7_enter 9 = .ok (.ldc 70, 2) := by decide +kernel
theorem dX7_enter_11 : decode cX7_enter 11 = .ok (.ireturn, 1) := by decide +kernel
theorem dX7_enter_12 : decode cX7_enter 12 = .ok (.aload_n 0, 1) := by decide +kernel
theorem dX7_enter_13 : decode cX7_enter 13 = .ok (.invokevirtual 56, 3) := by decide +kernel
theorem dX7_enter_16 : decode cX7_enter 16 = .ok (.iconst 0, 1) := by decide +kernel
theorem dX7_enter_17 : decode cX7_enter 17 = .ok (.istore_n 1, 1) := by decide +kernel
theorem dX7_enter_18 : decode cX7_enter 18 = .ok (.aload_n 0, 1) := by decide +kernel
theorem dX7_enter_19 : decode cX7_enter 19 = .ok (.iconst 0, 1) := by decide +kernel
theorem dX7_enter_20 : decode cX7_enter 20 = .ok (.putfield 176, 3) := by decide +kernel
theorem dX7_enter_23 : decode cX7_enter 23 = .ok (.aload_n 0, 1) := by decide +kernel
theorem dX7_enter_24 : decode cX7_enter 24 = .ok (.getfield 176, 3) := by decide +kernel
theorem dX7_enter_27 : decode cX7_enter 27 = .ok (.aload_n 0, 1) := by decide +kernel
theorem dX7_enter_28 : decode cX7_enter 28 = .ok (.getfield 123, 3) := by decide +kernel
theorem dX7_enter_31 : decode cX7_enter 31 = .ok (.if_icmp .ge 14, 3) := by decide +kernel
theorem dX7_enter_34 : decode cX7_enter 34 = .ok (.aload_n 0, 1) := by decide +kernel
theorem dX7_enter_35 : decode cX7_enter 35 = .ok (.invokevirtual 193, 3) := by decide +kernel
theorem dX7_enter_38 : decode cX7_enter 38 = .ok (.pop, 1) := by decide +kernel
theorem dX7_enter_39 : decode cX7_enter 39 = .ok (.iinc 1 1, 3) := by decide +kernel
theorem dX7_enter_42 : decode cX7_enter 42 = .ok (.goto (-19), 3) := by decide +kernel
theorem dX7_enter_45 : decode cX7_enter 45 = .ok (.iload_n 1, 1) := by decide +kernel
theorem dX7_enter_46 : decode cX7_enter 46 = .ok (.ireturn, 1) := by decide +kernel
theorem dJ9_floorDiv_7cf53_0 : decode cJ9_floorDiv_7cf53 0 = .ok (.iload_n 0, 1) := by decide +kernel
theorem dJ9_floorDiv_7cf53_1 : decode cJ9_floorDiv_7cf53 1 = .ok (.iload_n 1, 1) := by decide +kernel
theorem dJ9_floorDiv_7cf53_2 : decode cJ9_floorDiv_7cf53 2 = .ok (.idiv, 1) := by decide +kernel
theorem dJ9_floorDiv_7cf53_3 : decode cJ9_floorDiv_7cf53 3 = .ok (.istore_n 2, 1) := by decide +kernel
theorem dJ9_floorDiv_7cf53_4 : decode cJ9_floorDiv_7cf53 4 = .ok (.iload_n 0, 1) := by decide +kernel
theorem dJ9_floorDiv_7cf53_5 : decode cJ9_floorDiv_7cf53 5 = .ok (.iload_n 1, 1) := by decide +kernel
theorem dJ9_floorDiv_7cf53_6 : decode cJ9_floorDiv_7cf53 6 = .ok (.ixor, 1) := by decide +kernel
theorem dJ9_floorDiv_7cf53_7 : decode cJ9_floorDiv_7cf53 7 = .ok (.ifCond .ge 14, 3) := by decide +kernel
theorem dJ9_floorDiv_7cf53_10 : decode cJ9_floorDiv_7cf53 10 = .ok (.iload_n 2, 1) := by decide +kernel
theorem dJ9_floorDiv_7cf53_11 : decode cJ9_floorDiv_7cf53 11 = .ok (.iload_n 1, 1) := by decide +kernel
theorem dJ9_floorDiv_7cf53_12 : decode cJ9_floorDiv_7cf53 12 = .ok (.imul, 1) := by decide +kernel
theorem dJ9_floorDiv_7cf53_13 : decode cJ9_floorDiv_7cf53 13 = .ok (.iload_n 0, 1) := by decide +kernel
theorem dJ9_floorDiv_7cf53_14 : decode cJ9_floorDiv_7cf53 14 = .ok (.if_icmp .eq 7, 3) := by decide +kernel
theorem dJ9_floorDiv_7cf53_17 : decode cJ9_floorDiv_7cf53 17 = .ok (.iload_n 2, 1) := by decide +kernel
theorem dJ9_floorDiv_7cf53_18 : decode cJ9_floorDiv_7cf53 18 = .ok (.iconst 1, 1) := by decide +kernel
theorem dJ9_floorDiv_7cf53_19 : decode cJ9_floorDiv_7cf53 19 = .ok (.isub, 1) := by decide +kernel
theorem dJ9_floorDiv_7cf53_20 : decode cJ9_floorDiv_7cf53 20 = .ok (.ireturn, 1) := by decide +kernel
theorem dJ9_floorDiv_7cf53_21 : decode cJ9_floorDiv_7cf53 21 = .ok (.iload_n 2, 1) := by decide +kernel
theorem dJ9_floorDiv_7cf53_22 : decode cJ9_floorDiv_7cf53 22 = .ok (.ireturn, 1) := by decide +kernel
theorem dJ9_floorDiv_f86c9_0 : decode cJ9_floorDiv_f86c9 0 = .ok (.lload_n 0, 1) := by decide +kernel
theorem dJ9_floorDiv_f86c9_1 : decode cJ9_floorDiv_f86c9 1 = .ok (.lload_n 2, 1) := by decide +kernel
theorem dJ9_floorDiv_f86c9_2 : decode cJ9_floorDiv_f86c9 2 = .ok (.ldiv, 1) := by decide +kernel
theorem dJ9_floorDiv_f86c9_3 : decode cJ9_floorDiv_f86c9 3 = .ok (.lstore 4, 2) := by decide +kernel
theorem dJ9_floorDiv_f86c9_5 : decode cJ9_floorDiv_f86c9 5 = .ok (.lload_n 0, 1) := by decide +kernel
theorem dJ9_floorDiv_f86c9_6 : decode cJ9_floorDiv_f86c9 6 = .ok (.lload_n 2, 1) := by decide +kernel
theorem dJ9_floorDiv_f86c9_7 : decode cJ9_floorDiv_f86c9 7 = .ok (.lxor, 1) := by decide +kernel
theorem dJ9_floorDiv_f86c9_8 : decode cJ9_floorDiv_f86c9 8 = .ok (.lconst 0, 1) := by decide +kernel
theorem dJ9_floorDiv_f86c9_9 : decode cJ9_floorDiv_f86c9 9 = .ok (.lcmp, 1) := by decide +kernel
theorem dJ9_floorDiv_f86c9_10 : decode cJ9_floorDiv_f86c9 10 = .ok (.ifCond .ge 17, 3) := by decide +kernel
theorem dJ9_floorDiv_f86c9_13 : decode cJ9_floorDiv_f86c9 13 = .ok (.lload 4, 2) := by decide +kernel
theorem dJ9_floorDiv_f86c9_15 : decode cJ9_floorDiv_f86c9 15 = .ok (.lload_n 2, 1) := by decide +kernel
theorem dJ9_floorDiv_f86c9_16 : decode cJ9_floorDiv_f86c9 16 = .ok (.lmul, 1) := by decide +kernel
theorem dJ9_floorDiv_f86c9_17 : decode cJ9_floorDiv_f86c9 17 = .ok (.lload_n 0, 1) := by decide +kernel
theorem dJ9_floorDiv_f86c9_18 : decode cJ9_floorDiv_f86c9 18 = .ok (.lcmp, 1) := by decide +kernel
theorem dJ9_floorDiv_f86c9_19 : decode cJ9_floorDiv_f86c9 19 = .ok (.ifCond .eq 8, 3) := by decide +kernel
theorem dJ9_floorDiv_f86c9_22 : decode cJ9_floorDiv_f86c9 22 = .ok (.lload 4, 2) := by decide +kernel
theorem dJ9_floorDiv_f86c9_24 : decode cJ9_floorDiv_f86c9 24 = .ok (.lconst 1, 1) := by decide +kernel
theorem dJ9_floorDiv_f86c9_25 : decode cJ9_floorDiv_f86c9 25 = .ok (.lsub, 1) := by decide +kernel
theorem dJ9_floorDiv_f86c9_26 : decode cJ9_floorDiv_f86c9 26 = .ok (.lreturn, 1) := by decide +kernel
theorem dJ9_floorDiv_f86c9_27 : decode cJ9_floorDiv_f86c9 27 = .ok (.lload 4, 2) := by decide +kernel
theorem dJ9_floorDiv_f86c9_29 : decode cJ9_floorDiv_f86c9 29 = .ok (.lreturn, 1) := by decide +kernel
theorem dJ9_abs_0f7a4_0 : decode cJ9_abs_0f7a4 0 = .ok (.iload_n 0, 1) := by decide +kernel
theorem dJ9_abs_0f7a4_1 : decode cJ9_abs_0f7a4 1 = .ok (.ifCond .ge 8, 3) := by decide +kernel
theorem dJ9_abs_0f7a4_4 : decode cJ9_abs_0f7a4 4 = .ok (.iload_n 0, 1) := by decide +kernel
theorem dJ9_abs_0f7a4_5 : decode cJ9_abs_0f7a4 5 = .ok (.ineg, 1) := by decide +kernel
theorem dJ9_abs_0f7a4_6 : decode cJ9_abs_0f7a4 6 = .ok (.goto 4, 3) := by decide +kernel
theorem dJ9_abs_0f7a4_9 : decode cJ9_abs_0f7a4 9 = .ok (.iload_n 0, 1) := by decide +kernel
theorem dJ9_abs_0f7a4_10 : decode cJ9_abs_0f7a4 10 = .ok (.ireturn, 1) := by decide +kernel
theorem dJ9_max_7cf53_0 : decode cJ9_max_7cf53 0 = .ok (.iload_n 0, 1) := by decide +kernel
theorem dJ9_max_7cf53_1 : decode cJ9_max_7cf53 1 = .ok (.iload_n 1, 1) := by decide +kernel
theorem dJ9_max_7cf53_2 : decode cJ9_max_7cf53 2 = .ok (.if_icmp .lt 7, 3) := by decide +kernel
theorem dJ9_max_7cf53_5 : decode cJ9_max_7cf53 5 = .ok (.iload_n 0, 1) := by decide +kernel
theorem dJ9_max_7cf53_6 : decode cJ9_max_7cf53 6 = .ok (.goto 4, 3) := by decide +kernel
theorem dJ9_max_7cf53_9 : decode cJ9_max_7cf53 9 = .ok (.iload_n 1, 1) := by decide +kernel
theorem dJ9_max_7cf53_10 : decode cJ9_max_7cf53 10 = .ok (.ireturn, 1) := by decide +kernel
theorem dJ9_min_7cf53_0 : decode cJ9_min_7cf53 0 = .ok (.iload_n 0, 1) := by decide +kernel
theorem dJ9_min_7cf53_1 : decode cJ9_min_7cf53 1 = .ok (.iload_n 1, 1) := by decide +kernel
theorem dJ9_min_7cf53_2 : decode cJ9_min_7cf53 2 = .ok (.if_icmp .gt 7, 3) := by decide +kernel
theorem dJ9_min_7cf53_5 : decode cJ9_min_7cf53 5 = .ok (.iload_n 0, 1) := by decide +kernel
theorem dJ9_min_7cf53_6 : decode cJ9_min_7cf53 6 = .ok (.goto 4, 3) := by decide +kernel
theorem dJ9_min_7cf53_9 : decode cJ9_min_7cf53 9 = .ok (.iload_n 1, 1) := by decide +kernel
theorem dJ9_min_7cf53_10 : decode cJ9_min_7cf53 10 = .ok (.ireturn, 1) := by decide +kernel
set_option maxRecDepth 20000 in
theorem ggL_law_X6_init : GoodIn wsL_law wsX6_init := goodIn_r _ [8, 9, 10, 11, 12, 13, 14, 15, 16, 17, 18, 19, 20, 21, 22, 23, 24, 25, 26, 27, 28, 29, 30, 31, 32, 33, 34, 35, 36, 37, 38, 39, 40, 41, 42, 43, 44, 45, 46, 47, 48, 49, 50, 51, 52, 53, 54, 55, 56, 57, 58, 59, 60, 61, 62, 63, 64, 65, 66, 67, 68, 69, 70, 71, 72, 73, 74, 75, 76, 77, 78, 79, 80, 81, 82, 83, 84, 85, 86, 87, 88, 89, 789, 790, 791, 792, 793, 794, 795, 759, 760, 761, 762, 763, 764, 765, 766, 767, 796, 797, 798, 799, 800, 801, 802, 803, 804, 805, 806, 807, 808, 809, 810, 811, 812, 813, 814, 815, 816, 817, 818, 819, 820, 821, 822, 823, 824, 825, 826, 827, 828] (by decide +kernel) (by decide +kernel)
set_option maxRecDepth 20000 in
theorem gL_law_X6_init : GoodIn wsL_law (wsX6_init) := ggL_law_X6_init
set_option maxRecDepth 20000 in
theorem ggL_law_X7_init : GoodIn wsL_law wsX7_init := goodIn_r _ [92, 93, 10, 11, 54, 94, 95, 96, 97, 98, 99, 100, 101, 102, 103, 104, 768, 769, 770, 771, 772, 773, 774, 775, 776, 777, 778, 779, 780, 781, 782, 783, 784, 785, 786, 787, 788] (by decide +kernel) (by decide +kernel)
set_option maxRecDepth 20000 in
theorem gL_law_X7_init : GoodIn wsL_law (wsX7_init) := ggL_law_X7_init
set_option maxRecDepth 20000 in
theorem ggL_law_X6_set : GoodIn wsL_law wsX6_set := goodIn_r _ [108, 109, 15, 110, 111, 2, 112, 113, 114, 115, 116, 117, 118, 119, 120, 121, 20, 35, 122, 123, 124, 19, 125, 126, 127, 128, 129, 130, 131, 66, 132, 133, 134, 14, 135, 43, 44, 45, 46, 47, 48, 49, 136, 137, 138, 42, 139, 55, 56, 57, 58, 59, 140, 141, 142, 143, 144, 145, 146, 147, 148, 149, 150, 151, 152, 759, 760, 761, 762, 763, 764, 765, 766, 767, 796, 797, 798, 789, 790, 791, 792, 793, 794, 795, 826, 827, 828] (by decide +kernel) (by decide +kernel)
set_option maxRecDepth 20000 in
theorem gL_law_X6_set : GoodIn wsL_law (wsV RL 13 RX6 yX6_set wsX6_set) := goodIn_app (goodIn_of _ (by decide +kernel)) ggL_law_X6_set
set_option maxRecDepth 20000 in
theorem ggL_law_X7_set : GoodIn wsL_law wsX7_set := goodIn_r _ [156, 157, 94, 158, 159, 5, 160, 161, 162, 163, 164, 165, 166, 167, 168, 169, 170, 95, 768, 769, 770, 771, 772, 773, 774, 775, 776, 777, 778, 779, 780, 781, 782, 783, 784, 785, 786, 787, 788] (by decide +kernel) (by decide +kernel)
set_option maxRecDepth 20000 in
theorem gL_law_X7_set : GoodIn wsL_law (wsV RL 17 RX7 yX7_set wsX7_set) := goodIn_app (goodIn_of _ (by decide +kernel)) ggL_law_X7_set
set_option maxRecDepth 20000 in
theorem ggL_law_X6_base : GoodIn wsL_law wsX6_base := goodIn_r _ [174, 109, 175, 176, 2, 177, 178, 179, 180, 181, 182, 115, 116, 117, 183, 184, 185, 186, 187, 188, 189, 15, 190, 191, 192, 193, 194, 14, 195, 44, 45, 46, 43, 196, 197, 198, 42, 199, 144, 200, 201, 202, 203, 55, 204, 205, 206, 207, 208, 209, 60, 118, 119, 120, 121, 20, 35, 122, 123, 124, 19, 125, 126, 127, 128, 129, 130, 131, 66, 132, 133, 134, 135, 47, 48, 49, 136, 137, 138, 139, 56, 57, 58, 59, 140, 141, 142, 143, 210, 211, 212, 213, 214, 215, 216, 217, 218, 219, 759, 760, 761, 762, 763, 764, 765, 766, 767, 789, 790, 791, 792, 793, 794, 795, 826, 827, 828, 796, 797, 798] (by decide +kernel) (by decide +kernel)
set_option maxRecDepth 20000 in
theorem gL_law_X6_base : GoodIn wsL_law (wsV RL 18 RX6 yX6_base wsX6_base) := goodIn_app (goodIn_of _ (by decide +kernel)) ggL_law_X6_base
set_option maxRecDepth 20000 in
theorem ggL_law_X7_base : GoodIn wsL_law wsX7_base := goodIn_r _ [223, 157, 224, 225, 5, 226, 227, 228, 163, 164, 165, 229, 230, 231, 232, 233, 234, 235, 236, 237, 238, 94, 239, 240, 241, 242, 243, 244, 245, 246, 166, 167, 168, 169, 170, 95, 247, 248, 249, 250, 251, 252, 253, 254, 768, 769, 770, 771, 772, 773, 774, 775, 776, 777, 778, 779, 780, 781, 782, 783, 784, 785, 786, 787, 788] (by decide +kernel) (by decide +kernel)
set_option maxRecDepth 20000 in
theorem gL_law_X7_base : GoodIn wsL_law (wsV RL 22 RX7 yX7_base wsX7_base) := goodIn_app (goodIn_of _ (by decide +kernel)) ggL_law_X7_base
set_option maxRecDepth 20000 in
theorem ggL_law_X6_read : GoodIn wsL_law wsX6_read := goodIn_r _ [258, 109, 259, 260, 2, 261, 115, 116, 117, 262, 263, 264, 175, 176, 177, 178, 179, 180, 181, 182, 183, 184, 185, 186, 187, 188, 189, 15, 190, 191, 192, 193, 194, 14, 195, 44, 45, 46, 43, 196, 197, 198, 42, 199, 144, 200, 201, 202, 203, 55, 204, 205, 206, 207, 208, 209, 60, 118, 119, 120, 121, 20, 35, 122, 123, 124, 19, 125, 126, 127, 128, 129, 130, 131, 66, 132, 133, 134, 135, 47, 48, 49, 136, 137, 138, 139, 56, 57, 58, 59, 140, 141, 142, 143, 210, 211, 212, 213, 214, 215, 216, 217, 218, 219, 759, 760, 761, 762, 763, 764, 765, 766, 767, 789, 790, 791, 792, 793, 794, 795, 826, 827, 828, 796, 797, 798] (by decide +kernel) (by decide +kernel)
set_option maxRecDepth 20000 in
theorem gL_law_X6_read : GoodIn wsL_law (wsV RL 23 RX6 yX6_read wsX6_read) := goodIn_app (goodIn_of _ (by decide +kernel)) ggL_law_X6_read
set_option maxRecDepth 20000 in
theorem ggL_law_X7_read : GoodIn wsL_law wsX7_read := goodIn_r _ [268, 157, 269, 270, 5, 271, 163, 164, 165, 224, 225, 226, 227, 228, 229, 230, 231, 232, 233, 234, 235, 236, 237, 238, 94, 239, 240, 241, 242, 243, 244, 245, 246, 166, 167, 168, 169, 170, 95, 247, 248, 249, 250, 251, 252, 253, 254, 768, 769, 770, 771, 772, 773, 774, 775, 776, 777, 778, 779, 780, 781, 782, 783, 784, 785, 786, 787, 788] (by decide +kernel) (by decide +kernel)
set_option maxRecDepth 20000 in
theorem gL_law_X7_read : GoodIn wsL_law (wsV RL 27 RX7 yX7_read wsX7_read) := goodIn_app (goodIn_of _ (by decide +kernel)) ggL_law_X7_read
set_option maxRecDepth 20000 in
theorem ggL_law_X6_drop : GoodIn wsL_law wsX6_drop := goodIn_r _ [275, 109, 15, 276, 277, 278, 2, 279, 259, 260, 261, 115, 116, 117, 192, 193, 194, 14, 195, 44, 45, 46, 43, 118, 119, 120, 121, 20, 35, 122, 123, 124, 19, 125, 126, 127, 128, 129, 130, 131, 66, 132, 133, 134, 135, 47, 48, 49, 136, 137, 138, 42, 139, 55, 56, 57, 58, 59, 140, 141, 142, 143, 144, 280, 281, 282, 283, 214, 215, 216, 217, 200, 201, 202, 203, 204, 205, 218, 219, 759, 760, 761, 762, 763, 764, 765, 766, 767, 826, 827, 828, 789, 790, 791, 792, 793, 794, 795, 796, 797, 798] (by decide +kernel) (by decide +kernel)
set_option maxRecDepth 20000 in
theorem gL_law_X6_drop : GoodIn wsL_law (wsV RL 28 RX6 yX6_drop wsX6_drop) := goodIn_app (goodIn_of _ (by decide +kernel)) ggL_law_X6_drop
set_option maxRecDepth 20000 in
theorem ggL_law_X7_drop : GoodIn wsL_law wsX7_drop := goodIn_r _ [287, 157, 94, 288, 289, 290, 5, 291, 163, 164, 165, 166, 167, 168, 169, 170, 95, 251, 252, 253, 254, 239, 240, 241, 242, 768, 769, 770, 771, 772, 773, 774, 775, 776, 777, 778, 779, 780, 781, 782, 783, 784, 785, 786, 787, 788] (by decide +kernel) (by decide +kernel)
set_option maxRecDepth 20000 in
theorem gL_law_X7_drop : GoodIn wsL_law (wsV RL 31 RX7 yX7_drop wsX7_drop) := goodIn_app (goodIn_of _ (by decide +kernel)) ggL_law_X7_drop
set_option maxRecDepth 20000 in
theorem ggL_law_X6_reading : GoodIn wsL_law wsX6_reading := goodIn_r _ [295, 109, 296, 15, 276, 277, 278, 2, 279, 259, 260, 261, 115, 116, 117, 192, 193, 194, 14, 195, 44, 45, 46, 43, 297, 298, 299, 300, 35, 24, 25, 26, 301, 302, 303, 23, 304, 305, 72, 73, 74, 75, 76, 77, 306, 307, 201, 202, 42, 203, 55, 204, 205, 218, 219, 308, 309, 310, 311, 312, 313, 47, 314, 315, 316, 317, 318, 319, 320, 321, 322, 323, 324, 325, 326, 327, 328, 329, 330, 331, 144, 200, 332, 333, 334, 335, 336, 337, 338, 339, 340, 341, 342, 343, 344, 345, 346, 347, 348, 349, 350, 351, 78, 79, 352, 353, 354, 355, 356, 357, 358, 359, 360, 361, 362, 363, 364, 365, 366, 367, 368, 369, 370, 371, 372, 373, 374, 375, 376, 377, 378, 379, 380, 381, 382, 383, 384, 385, 386, 387, 388, 389, 390, 391, 392, 393, 394, 759, 760, 761, 762, 763, 764, 765, 766, 767, 826, 827, 828, 789, 790, 791, 792, 793, 794, 795, 799, 800, 801, 802, 803, 804, 805, 806, 807, 808, 809, 810] (by decide +kernel) (by decide +kernel)
set_option maxRecDepth 20000 in
theorem gL_law_X6_reading : GoodIn wsL_law (wsV RL 32 RX6 yX6_reading wsX6_reading) := goodIn_app (goodIn_of _ (by decide +kernel)) ggL_law_X6_reading
set_option maxRecDepth 20000 in
theorem ggL_law_X7_reading : GoodIn wsL_law wsX7_reading := goodIn_r _ [398, 157, 399, 102, 288, 289, 290, 5, 291, 94, 163, 164, 165, 400, 401, 402, 403, 239, 240, 241, 242, 404, 405, 406, 407, 408, 100, 103, 104, 409, 410, 411, 412, 413, 414, 415, 416, 417, 418, 419, 420, 421, 422, 423, 424, 425, 426, 427, 768, 769, 770, 771, 772, 773, 774, 775, 776, 777, 778, 779, 780, 781, 782, 783, 784, 785, 786, 787, 788] (by decide +kernel) (by decide +kernel)
set_option maxRecDepth 20000 in
theorem gL_law_X7_reading : GoodIn wsL_law (wsV RL 35 RX7 yX7_reading wsX7_reading) := goodIn_app (goodIn_of _ (by decide +kernel)) ggL_law_X7_reading
set_option maxRecDepth 20000 in
theorem ggL_law_X6_count : GoodIn wsL_law wsX6_count := goodIn_r _ [431, 15, 24, 25, 26, 20, 34, 109, 297, 298, 299, 2, 300, 35, 301, 302, 303, 23, 304, 305, 72, 73, 74, 75, 76, 77, 306, 193, 194, 14, 195, 44, 45, 46, 43, 307, 201, 202, 42, 203, 55, 204, 205, 218, 219, 308, 309, 310, 311, 312, 313, 47, 314, 315, 316, 317, 318, 319, 320, 321, 322, 323, 324, 325, 326, 327, 328, 329, 330, 331, 144, 200, 332, 333, 334, 335, 336, 337, 338, 339, 340, 341, 342, 343, 344, 345, 346, 347, 348, 349, 350, 351, 78, 79, 352, 353, 354, 355, 356, 357, 358, 359, 360, 361, 362, 363, 364, 365, 366, 367, 368, 369, 370, 371, 372, 373, 374, 375, 376, 377, 378, 379, 380, 381, 382, 383, 384, 385, 386, 387, 192, 432, 433, 434, 435, 436, 437, 438, 439, 440, 441, 58, 442, 49, 443, 444, 445, 446, 30, 447, 448, 449, 450, 451, 452, 453, 29, 454, 455, 456, 388, 389, 390, 391, 457, 458, 459, 460, 461, 462, 463, 464, 465, 466, 467, 468, 469, 470, 471, 472, 473, 474, 57, 59, 475, 476, 477, 478, 145, 146, 147, 148, 48, 759, 760, 761, 762, 763, 764, 765, 766, 767, 826, 827, 828, 799, 800, 801, 802, 803, 804, 805, 806, 807, 808, 809, 810, 796, 797, 798, 815, 816, 817, 818, 819, 820, 821, 822, 823, 824, 825, 789, 790, 791, 792, 793, 794, 795, 811, 812, 813, 814] (by decide +kernel) (by decide +kernel)
set_option maxRecDepth 20000 in
theorem gL_law_X6_count : GoodIn wsL_law (wsV RL 36 RX6 yX6_count wsX6_count) := goodIn_app (goodIn_of _ (by decide +kernel)) ggL_law_X6_count
set_option maxRecDepth 20000 in
theorem ggL_law_X7_count : GoodIn wsL_law wsX7_count := goodIn_r _ [482, 94, 170, 483, 157, 484, 485, 486, 5, 487, 408, 102, 404, 405, 406, 407, 100, 103, 104, 400, 401, 402, 403, 239, 240, 241, 242, 409, 410, 411, 412, 413, 414, 415, 416, 417, 418, 419, 420, 421, 422, 423, 424, 425, 426, 427, 488, 489, 490, 491, 492, 493, 494, 495, 496, 497, 498, 499, 500, 501, 502, 503, 504, 505, 506, 507, 508, 509, 510, 511, 512, 513, 514, 515, 516, 517, 518, 519, 768, 769, 770, 771, 772, 773, 774, 775, 776, 777, 778, 779, 780, 781, 782, 783, 784, 785, 786, 787, 788] (by decide +kernel) (by decide +kernel)
set_option maxRecDepth 20000 in
theorem gL_law_X7_count : GoodIn wsL_law (wsV RL 40 RX7 yX7_count wsX7_count) := goodIn_app (goodIn_of _ (by decide +kernel)) ggL_law_X7_count
set_option maxRecDepth 20000 in
theorem ggL_law_X6_undo : GoodIn wsL_law wsX6_undo := goodIn_r _ [523, 20, 190, 15, 35, 524, 525, 526, 19, 527, 126, 128, 129, 130, 131, 127, 66, 132, 133, 134, 14, 135, 43, 44, 45, 46, 47, 48, 49, 136, 137, 138, 42, 139, 55, 56, 57, 58, 59, 140, 141, 142, 143, 144, 759, 760, 761, 762, 763, 764, 765, 766, 767, 796, 797, 798, 789, 790, 791, 792, 793, 794, 795, 826, 827, 828] (by decide +kernel) (by decide +kernel)
set_option maxRecDepth 20000 in
theorem gL_law_X6_undo : GoodIn wsL_law (wsV RL 41 RX6 yX6_undo wsX6_undo) := goodIn_app (goodIn_of _ (by decide +kernel)) ggL_law_X6_undo
set_option maxRecDepth 20000 in
theorem ggL_law_X7_undo : GoodIn wsL_law wsX7_undo := goodIn_r _ [531, 170, 233, 94, 95, 768, 769, 770, 771, 772, 773, 774, 775, 776, 777, 778, 779, 780, 781, 782, 783, 784, 785, 786, 787, 788] (by decide +kernel) (by decide +kernel)
set_option maxRecDepth 20000 in
theorem gL_law_X7_undo : GoodIn wsL_law (wsV RL 45 RX7 yX7_undo wsX7_undo) := goodIn_app (goodIn_of _ (by decide +kernel)) ggL_law_X7_undo
set_option maxRecDepth 20000 in
theorem ggL_law_X6_baseAt : GoodIn wsL_law wsX6_baseAt := goodIn_r _ [535, 109, 15, 180, 181, 2, 182, 115, 116, 117, 536, 315, 316, 14, 317, 43, 312, 318, 201, 202, 42, 203, 55, 204, 205, 319, 320, 321, 322, 323, 324, 759, 760, 761, 762, 763, 764, 765, 766, 767, 789, 790, 791, 792, 793, 794, 795, 826, 827, 828] (by decide +kernel) (by decide +kernel)
set_option maxRecDepth 20000 in
theorem gL_law_X6_baseAt : GoodIn wsL_law (wsV RL 46 RX6 yX6_baseAt wsX6_baseAt) := goodIn_app (goodIn_of _ (by decide +kernel)) ggL_law_X6_baseAt
set_option maxRecDepth 20000 in
theorem ggL_law_X7_baseAt : GoodIn wsL_law wsX7_baseAt := goodIn_r _ [540, 157, 399, 413, 414, 163, 164, 5, 165, 409, 410, 411, 412, 94, 239, 240, 241, 242, 415, 416, 417, 418, 419, 420, 768, 769, 770, 771, 772, 773, 774, 775, 776, 777, 778, 779, 780, 781, 782, 783, 784, 785, 786, 787, 788] (by decide +kernel) (by decide +kernel)
set_option maxRecDepth 20000 in
theorem gL_law_X7_baseAt : GoodIn wsL_law (wsV RL 49 RX7 yX7_baseAt wsX7_baseAt) := goodIn_app (goodIn_of _ (by decide +kernel)) ggL_law_X7_baseAt
set_option maxRecDepth 20000 in
theorem ggL_law_X6_step : GoodIn wsL_law wsX6_step := goodIn_r _ [544, 15, 109, 545, 546, 547, 14, 548, 43, 436, 437, 438, 439, 440, 441, 58, 442, 49, 318, 201, 202, 42, 203, 55, 204, 2, 205, 759, 760, 761, 762, 763, 764, 765, 766, 767, 789, 790, 791, 792, 793, 794, 795, 826, 827, 828] (by decide +kernel) (by decide +kernel)
set_option maxRecDepth 20000 in
theorem gL_law_X6_step : GoodIn wsL_law (wsV RL 50 RX6 yX6_step wsX6_step) := goodIn_app (goodIn_of _ (by decide +kernel)) ggL_law_X6_step
set_option maxRecDepth 20000 in
theorem ggL_law_X7_step : GoodIn wsL_law wsX7_step := goodIn_r _ [552, 157, 492, 493, 494, 5, 495, 94, 239, 240, 241, 242, 768, 769, 770, 771, 772, 773, 774, 775, 776, 777, 778, 779, 780, 781, 782, 783, 784, 785, 786, 787, 788] (by decide +kernel) (by decide +kernel)
set_option maxRecDepth 20000 in
theorem gL_law_X7_step : GoodIn wsL_law (wsV RL 53 RX7 yX7_step wsX7_step) := goodIn_app (goodIn_of _ (by decide +kernel)) ggL_law_X7_step
set_option maxRecDepth 20000 in
theorem ggL_law_X6_raw : GoodIn wsL_law wsX6_raw := goodIn_r _ [556, 109, 259, 260, 2, 261, 115, 116, 117, 276, 277, 278, 279, 15, 192, 193, 194, 14, 195, 44, 45, 46, 43, 297, 298, 299, 300, 35, 24, 25, 26, 301, 302, 303, 23, 304, 305, 72, 73, 74, 75, 76, 77, 306, 307, 201, 202, 42, 203, 55, 204, 205, 218, 219, 308, 309, 310, 311, 312, 313, 47, 314, 315, 316, 317, 318, 319, 320, 321, 322, 323, 324, 325, 326, 327, 328, 329, 330, 331, 144, 200, 332, 333, 334, 335, 336, 337, 338, 339, 340, 341, 342, 343, 344, 345, 346, 347, 348, 349, 350, 351, 78, 79, 352, 353, 354, 355, 356, 357, 358, 359, 360, 361, 362, 363, 364, 365, 366, 367, 368, 369, 370, 371, 372, 373, 374, 375, 376, 377, 378, 379, 380, 381, 382, 383, 384, 385, 386, 387, 388, 389, 390, 391, 557, 759, 760, 761, 762, 763, 764, 765, 766, 767, 826, 827, 828, 789, 790, 791, 792, 793, 794, 795, 799, 800, 801, 802, 803, 804, 805, 806, 807, 808, 809, 810] (by decide +kernel) (by decide +kernel)
set_option maxRecDepth 20000 in
theorem gL_law_X6_raw : GoodIn wsL_law (wsV RL 54 RX6 yX6_raw wsX6_raw) := goodIn_app (goodIn_of _ (by decide +kernel)) ggL_law_X6_raw
set_option maxRecDepth 20000 in
theorem ggL_law_X7_raw : GoodIn wsL_law wsX7_raw := goodIn_r _ [561, 157, 399, 269, 270, 5, 271, 163, 164, 165, 288, 289, 290, 291, 94, 239, 240, 241, 242, 409, 410, 411, 412, 413, 414, 415, 416, 417, 418, 419, 420, 421, 422, 423, 424, 425, 426, 427, 768, 769, 770, 771, 772, 773, 774, 775, 776, 777, 778, 779, 780, 781, 782, 783, 784, 785, 786, 787, 788] (by decide +kernel) (by decide +kernel)
set_option maxRecDepth 20000 in
theorem gL_law_X7_raw : GoodIn wsL_law (wsV RL 57 RX7 yX7_raw wsX7_raw) := goodIn_app (goodIn_of _ (by decide +kernel)) ggL_law_X7_raw
set_option maxRecDepth 20000 in
theorem ggL_law_X6_would : GoodIn wsL_law wsX6_would := goodIn_r _ [565, 109, 15, 175, 176, 2, 177, 178, 179, 180, 181, 182, 115, 116, 117, 183, 184, 185, 566, 309, 310, 14, 311, 312, 313, 47, 314, 315, 316, 317, 43, 318, 201, 202, 42, 203, 55, 204, 205, 319, 320, 321, 322, 323, 324, 325, 326, 327, 759, 760, 761, 762, 763, 764, 765, 766, 767, 789, 790, 791, 792, 793, 794, 795, 826, 827, 828] (by decide +kernel) (by decide +kernel)
set_option maxRecDepth 20000 in
theorem gL_law_X6_would : GoodIn wsL_law (wsV RL 58 RX6 yX6_would wsX6_would) := goodIn_app (goodIn_of _ (by decide +kernel)) ggL_law_X6_would
set_option maxRecDepth 20000 in
theorem ggL_law_X7_would : GoodIn wsL_law wsX7_would := goodIn_r _ [570, 157, 399, 224, 225, 5, 226, 227, 228, 163, 164, 165, 409, 410, 411, 412, 94, 413, 414, 239, 240, 241, 242, 415, 416, 417, 418, 419, 420, 421, 422, 423, 424, 425, 426, 427, 768, 769, 770, 771, 772, 773, 774, 775, 776, 777, 778, 779, 780, 781, 782, 783, 784, 785, 786, 787, 788] (by decide +kernel) (by decide +kernel)
set_option maxRecDepth 20000 in
theorem gL_law_X7_would : GoodIn wsL_law (wsV RL 61 RX7 yX7_would wsX7_would) := goodIn_app (goodIn_of _ (by decide +kernel)) ggL_law_X7_would
set_option maxRecDepth 20000 in
theorem ggL_law_X6_pressureFor : GoodIn wsL_law wsX6_pressureFor := goodIn_r _ [574, 575, 576, 109, 15, 178, 296, 180, 181, 2, 182, 115, 116, 117, 183, 184, 185, 566, 309, 310, 14, 311, 312, 313, 47, 314, 315, 316, 317, 43, 318, 201, 202, 42, 203, 55, 204, 205, 319, 320, 321, 322, 323, 324, 325, 326, 327, 577, 578, 579, 580, 179, 759, 760, 761, 762, 763, 764, 765, 766, 767, 789, 790, 791, 792, 793, 794, 795, 826, 827, 828] (by decide +kernel) (by decide +kernel)
set_option maxRecDepth 20000 in
theorem gL_law_X6_pressureFor : GoodIn wsL_law (wsV RL 62 RX6 yX6_pressureFor wsX6_pressureFor) := goodIn_app (goodIn_of _ (by decide +kernel)) ggL_law_X6_pressureFor
set_option maxRecDepth 20000 in
theorem ggL_law_X7_pressureFor : GoodIn wsL_law wsX7_pressureFor := goodIn_r _ [584, 585, 586, 157, 399, 228, 227, 163, 164, 5, 165, 409, 410, 411, 412, 94, 413, 414, 239, 240, 241, 242, 415, 416, 417, 418, 419, 420, 421, 422, 423, 424, 425, 426, 427, 768, 769, 770, 771, 772, 773, 774, 775, 776, 777, 778, 779, 780, 781, 782, 783, 784, 785, 786, 787, 788] (by decide +kernel) (by decide +kernel)
set_option maxRecDepth 20000 in
theorem gL_law_X7_pressureFor : GoodIn wsL_law (wsV RL 65 RX7 yX7_pressureFor wsX7_pressureFor) := goodIn_app (goodIn_of _ (by decide +kernel)) ggL_law_X7_pressureFor
set_option maxRecDepth 20000 in
theorem ggL_law_X6_loops : GoodIn wsL_law wsX6_loops := goodIn_r _ [590, 109, 259, 260, 2, 261, 115, 116, 117, 297, 298, 299, 300, 35, 24, 15, 25, 26, 301, 302, 303, 23, 304, 305, 72, 73, 74, 75, 76, 77, 306, 193, 194, 14, 195, 44, 45, 46, 43, 307, 201, 202, 42, 203, 55, 204, 205, 218, 219, 308, 309, 310, 311, 312, 313, 47, 314, 315, 316, 317, 318, 319, 320, 321, 322, 323, 324, 325, 326, 327, 328, 329, 330, 331, 144, 200, 332, 333, 334, 335, 336, 337, 338, 339, 340, 341, 342, 343, 344, 345, 346, 347, 348, 349, 350, 351, 78, 79, 352, 353, 354, 355, 356, 357, 358, 359, 360, 361, 362, 363, 364, 365, 366, 367, 368, 369, 370, 371, 372, 373, 374, 375, 376, 377, 378, 379, 380, 381, 382, 383, 384, 385, 386, 387, 388, 389, 390, 391, 799, 800, 801, 802, 803, 804, 805, 806, 807, 808, 809, 810, 759, 760, 761, 762, 763, 764, 765, 766, 767, 826, 827, 828, 789, 790, 791, 792, 793, 794, 795] (by decide +kernel) (by decide +kernel)
set_option maxRecDepth 20000 in
theorem gL_law_X6_loops : GoodIn wsL_law (wsV RL 66 RX6 yX6_loops wsX6_loops) := goodIn_app (goodIn_of _ (by decide +kernel)) ggL_law_X6_loops
set_option maxRecDepth 20000 in
theorem ggL_law_X7_loops : GoodIn wsL_law wsX7_loops := goodIn_r _ [594, 157, 408, 269, 270, 5, 271, 163, 164, 165, 404, 405, 406, 407, 94, 102, 100, 103, 104, 400, 401, 402, 403, 239, 240, 241, 242, 409, 410, 411, 412, 413, 414, 415, 416, 417, 418, 419, 420, 421, 422, 423, 424, 425, 426, 427, 768, 769, 770, 771, 772, 773, 774, 775, 776, 777, 778, 779, 780, 781, 782, 783, 784, 785, 786, 787, 788] (by decide +kernel) (by decide +kernel)
set_option maxRecDepth 20000 in
theorem gL_law_X7_loops : GoodIn wsL_law (wsV RL 69 RX7 yX7_loops wsX7_loops) := goodIn_app (goodIn_of _ (by decide +kernel)) ggL_law_X7_loops
set_option maxRecDepth 20000 in
theorem ggL_law_X6_loop : GoodIn wsL_law wsX6_loop := goodIn_r _ [598, 109, 259, 260, 2, 261, 115, 116, 117, 297, 298, 299, 300, 35, 24, 15, 25, 26, 301, 302, 303, 23, 304, 305, 72, 73, 74, 75, 76, 77, 306, 193, 194, 14, 195, 44, 45, 46, 43, 307, 201, 202, 42, 203, 55, 204, 205, 218, 219, 308, 309, 310, 311, 312, 313, 47, 314, 315, 316, 317, 318, 319, 320, 321, 322, 323, 324, 325, 326, 327, 328, 329, 330, 331, 144, 200, 332, 333, 334, 335, 336, 337, 338, 339, 340, 341, 342, 343, 344, 345, 346, 347, 348, 349, 350, 351, 78, 79, 352, 353, 354, 355, 356, 357, 358, 359, 360, 361, 362, 363, 364, 365, 366, 367, 368, 369, 370, 371, 372, 373, 374, 375, 376, 377, 378, 379, 380, 381, 382, 383, 384, 385, 386, 387, 388, 389, 390, 391, 599, 600, 601, 602, 603, 604, 605, 606, 799, 800, 801, 802, 803, 804, 805, 806, 807, 808, 809, 810, 759, 760, 761, 762, 763, 764, 765, 766, 767, 826, 827, 828, 789, 790, 791, 792, 793, 794, 795] (by decide +kernel) (by decide +kernel)
set_option maxRecDepth 20000 in
theorem gL_law_X6_loop : GoodIn wsL_law (wsV RL 70 RX6 yX6_loop wsX6_loop) := goodIn_app (goodIn_of _ (by decide +kernel)) ggL_law_X6_loop
set_option maxRecDepth 20000 in
theorem ggL_law_X7_loop : GoodIn wsL_law wsX7_loop := goodIn_r _ [610, 157, 408, 103, 104, 100, 269, 270, 5, 271, 163, 164, 165, 404, 405, 406, 407, 94, 102, 400, 401, 402, 403, 239, 240, 241, 242, 409, 410, 411, 412, 413, 414, 415, 416, 417, 418, 419, 420, 421, 422, 423, 424, 425, 426, 427, 611, 612, 613, 614, 512, 513, 514, 515, 768, 769, 770, 771, 772, 773, 774, 775, 776, 777, 778, 779, 780, 781, 782, 783, 784, 785, 786, 787, 788] (by decide +kernel) (by decide +kernel)
set_option maxRecDepth 20000 in
theorem gL_law_X7_loop : GoodIn wsL_law (wsV RL 73 RX7 yX7_loop wsX7_loop) := goodIn_app (goodIn_of _ (by decide +kernel)) ggL_law_X7_loop
set_option maxRecDepth 20000 in
theorem ggL_law_X6_openLoop : GoodIn wsL_law wsX6_openLoop := goodIn_r _ [618, 109, 296, 259, 260, 2, 261, 115, 116, 117, 276, 277, 278, 279, 15, 192, 193, 194, 14, 195, 44, 45, 46, 43, 297, 298, 299, 300, 35, 24, 25, 26, 301, 302, 303, 23, 304, 305, 72, 73, 74, 75, 76, 77, 306, 307, 201, 202, 42, 203, 55, 204, 205, 218, 219, 308, 309, 310, 311, 312, 313, 47, 314, 315, 316, 317, 318, 319, 320, 321, 322, 323, 324, 325, 326, 327, 328, 329, 330, 331, 144, 200, 332, 333, 334, 335, 336, 337, 338, 339, 340, 341, 342, 343, 344, 345, 346, 347, 348, 349, 350, 351, 78, 79, 352, 353, 354, 355, 356, 357, 358, 359, 360, 361, 362, 363, 364, 365, 366, 367, 368, 369, 370, 371, 372, 373, 374, 375, 376, 377, 378, 379, 380, 381, 382, 383, 384, 385, 386, 387, 388, 389, 390, 391, 619, 759, 760, 761, 762, 763, 764, 765, 766, 767, 826, 827, 828, 789, 790, 791, 792, 793, 794, 795, 799, 800, 801, 802, 803, 804, 805, 806, 807, 808, 809, 810] (by decide +kernel) (by decide +kernel)
set_option maxRecDepth 20000 in
theorem gL_law_X6_openLoop : GoodIn wsL_law (wsV RL 74 RX6 yX6_openLoop wsX6_openLoop) := goodIn_app (goodIn_of _ (by decide +kernel)) ggL_law_X6_openLoop
set_option maxRecDepth 20000 in
theorem ggL_law_X7_openLoop : GoodIn wsL_law wsX7_openLoop := goodIn_r _ [623, 157, 102, 399, 269, 270, 5, 271, 163, 164, 165, 288, 289, 290, 291, 94, 404, 405, 406, 407, 408, 100, 103, 104, 400, 401, 402, 403, 239, 240, 241, 242, 409, 410, 411, 412, 413, 414, 415, 416, 417, 418, 419, 420, 421, 422, 423, 424, 425, 426, 427, 508, 509, 510, 511, 512, 513, 514, 515, 768, 769, 770, 771, 772, 773, 774, 775, 776, 777, 778, 779, 780, 781, 782, 783, 784, 785, 786, 787, 788] (by decide +kernel) (by decide +kernel)
set_option maxRecDepth 20000 in
theorem gL_law_X7_openLoop : GoodIn wsL_law (wsV RL 77 RX7 yX7_openLoop wsX7_openLoop) := goodIn_app (goodIn_of _ (by decide +kernel)) ggL_law_X7_openLoop
set_option maxRecDepth 20000 in
theorem ggL_law_X6_corrected : GoodIn wsL_law wsX6_corrected := goodIn_r _ [627, 109, 259, 260, 2, 261, 115, 116, 117, 276, 277, 278, 279, 15, 192, 193, 194, 14, 195, 44, 45, 46, 43, 297, 298, 299, 300, 35, 24, 25, 26, 301, 302, 303, 23, 304, 305, 72, 73, 74, 75, 76, 77, 306, 307, 201, 202, 42, 203, 55, 204, 205, 218, 219, 308, 309, 310, 311, 312, 313, 47, 314, 315, 316, 317, 318, 319, 320, 321, 322, 323, 324, 325, 326, 327, 328, 329, 330, 331, 144, 200, 332, 333, 334, 335, 336, 337, 338, 339, 340, 341, 342, 343, 344, 345, 346, 347, 348, 349, 350, 351, 78, 79, 352, 353, 354, 355, 356, 357, 358, 359, 360, 361, 362, 363, 364, 365, 366, 367, 368, 369, 370, 371, 372, 373, 374, 375, 376, 377, 378, 379, 380, 381, 382, 383, 384, 385, 386, 387, 388, 389, 390, 391, 628, 466, 467, 468, 759, 760, 761, 762, 763, 764, 765, 766, 767, 826, 827, 828, 789, 790, 791, 792, 793, 794, 795, 799, 800, 801, 802, 803, 804, 805, 806, 807, 808, 809, 810] (by decide +kernel) (by decide +kernel)
set_option maxRecDepth 20000 in
theorem gL_law_X6_corrected : GoodIn wsL_law (wsV RL 78 RX6 yX6_corrected wsX6_corrected) := goodIn_app (goodIn_of _ (by decide +kernel)) ggL_law_X6_corrected
set_option maxRecDepth 20000 in
theorem ggL_law_X7_corrected : GoodIn wsL_law wsX7_corrected := goodIn_r _ [632, 157, 102, 399, 269, 270, 5, 271, 163, 164, 165, 288, 289, 290, 291, 94, 404, 405, 406, 407, 408, 100, 103, 104, 400, 401, 402, 403, 239, 240, 241, 242, 409, 410, 411, 412, 413, 414, 415, 416, 417, 418, 419, 420, 421, 422, 423, 424, 425, 426, 427, 516, 517, 518, 519, 508, 509, 510, 511, 512, 513, 514, 515, 768, 769, 770, 771, 772, 773, 774, 775, 776, 777, 778, 779, 780, 781, 782, 783, 784, 785, 786, 787, 788] (by decide +kernel) (by decide +kernel)
set_option maxRecDepth 20000 in
theorem gL_law_X7_corrected : GoodIn wsL_law (wsV RL 81 RX7 yX7_corrected wsX7_corrected) := goodIn_app (goodIn_of _ (by decide +kernel)) ggL_law_X7_corrected
set_option maxRecDepth 20000 in
theorem ggL_law_X6_point : GoodIn wsL_law wsX6_point := goodIn_r _ [636, 109, 30, 296, 262, 263, 2, 264, 115, 116, 117, 297, 298, 299, 300, 35, 24, 15, 25, 26, 301, 302, 303, 23, 304, 305, 72, 73, 74, 75, 76, 77, 306, 193, 194, 14, 195, 44, 45, 46, 43, 307, 201, 202, 42, 203, 55, 204, 205, 218, 219, 308, 309, 310, 311, 312, 313, 47, 314, 315, 316, 317, 318, 319, 320, 321, 322, 323, 324, 325, 326, 327, 328, 329, 330, 331, 144, 200, 332, 333, 334, 335, 336, 337, 338, 339, 340, 341, 342, 343, 344, 345, 346, 347, 348, 349, 350, 351, 78, 79, 352, 353, 354, 355, 356, 357, 358, 359, 360, 361, 362, 363, 364, 365, 366, 367, 368, 369, 370, 371, 372, 373, 374, 375, 376, 377, 378, 379, 380, 381, 382, 383, 384, 385, 386, 387, 447, 448, 449, 450, 451, 452, 453, 29, 454, 455, 456, 388, 389, 390, 391, 457, 458, 459, 460, 461, 462, 463, 464, 465, 466, 467, 468, 469, 470, 471, 472, 473, 474, 57, 58, 59, 475, 476, 477, 478, 637, 638, 639, 640, 641, 642, 643, 644, 759, 760, 761, 762, 763, 764, 765, 766, 767, 811, 812, 813, 814, 826, 827, 828, 799, 800, 801, 802, 803, 804, 805, 806, 807, 808, 809, 810, 789, 790, 791, 792, 793, 794, 795] (by decide +kernel) (by decide +kernel)
set_option maxRecDepth 20000 in
theorem gL_law_X6_point : GoodIn wsL_law (wsV RL 82 RX6 yX6_point wsX6_point) := goodIn_app (goodIn_of _ (by decide +kernel)) ggL_law_X6_point
set_option maxRecDepth 20000 in
theorem ggL_law_X7_point : GoodIn wsL_law wsX7_point := goodIn_r _ [648, 157, 500, 399, 505, 507, 506, 163, 164, 5, 165, 501, 502, 503, 504, 94, 102, 104, 404, 405, 406, 407, 408, 100, 103, 400, 401, 402, 403, 239, 240, 241, 242, 409, 410, 411, 412, 413, 414, 415, 416, 417, 418, 419, 420, 421, 422, 423, 424, 425, 426, 427, 508, 509, 510, 511, 512, 513, 514, 515, 516, 517, 518, 519, 768, 769, 770, 771, 772, 773, 774, 775, 776, 777, 778, 779, 780, 781, 782, 783, 784, 785, 786, 787, 788] (by decide +kernel) (by decide +kernel)
set_option maxRecDepth 20000 in
theorem gL_law_X7_point : GoodIn wsL_law (wsV RL 85 RX7 yX7_point wsX7_point) := goodIn_app (goodIn_of _ (by decide +kernel)) ggL_law_X7_point
set_option maxRecDepth 20000 in
theorem ggL_law_X6_worst : GoodIn wsL_law wsX6_worst := goodIn_r _ [652, 109, 296, 653, 441, 58, 442, 115, 116, 2, 117, 297, 298, 299, 300, 35, 24, 15, 25, 26, 301, 302, 303, 23, 304, 305, 72, 73, 74, 75, 76, 77, 306, 193, 194, 14, 195, 44, 45, 46, 43, 307, 201, 202, 42, 203, 55, 204, 205, 218, 219, 308, 309, 310, 311, 312, 313, 47, 314, 315, 316, 317, 318, 319, 320, 321, 322, 323, 324, 325, 326, 327, 328, 329, 330, 331, 144, 200, 332, 333, 334, 335, 336, 337, 338, 339, 340, 341, 342, 343, 344, 345, 346, 347, 348, 349, 350, 351, 78, 79, 352, 353, 354, 355, 356, 357, 358, 359, 360, 361, 362, 363, 364, 365, 366, 367, 368, 369, 370, 371, 372, 373, 374, 375, 376, 377, 378, 379, 380, 381, 382, 383, 384, 385, 386, 387, 388, 389, 390, 391, 601, 799, 800, 801, 802, 803, 804, 805, 806, 807, 808, 809, 810, 759, 760, 761, 762, 763, 764, 765, 766, 767, 826, 827, 828, 789, 790, 791, 792, 793, 794, 795] (by decide +kernel) (by decide +kernel)
set_option maxRecDepth 20000 in
theorem gL_law_X6_worst : GoodIn wsL_law (wsV RL 86 RX6 yX6_worst wsX6_worst) := goodIn_app (goodIn_of _ (by decide +kernel)) ggL_law_X6_worst
set_option maxRecDepth 20000 in
theorem ggL_law_X7_worst : GoodIn wsL_law wsX7_worst := goodIn_r _ [657, 157, 408, 100, 104, 103, 399, 163, 164, 5, 165, 404, 405, 406, 407, 94, 102, 400, 401, 402, 403, 239, 240, 241, 242, 409, 410, 411, 412, 413, 414, 415, 416, 417, 418, 419, 420, 421, 422, 423, 424, 425, 426, 427, 768, 769, 770, 771, 772, 773, 774, 775, 776, 777, 778, 779, 780, 781, 782, 783, 784, 785, 786, 787, 788] (by decide +kernel) (by decide +kernel)
set_option maxRecDepth 20000 in
theorem gL_law_X7_worst : GoodIn wsL_law (wsV RL 89 RX7 yX7_worst wsX7_worst) := goodIn_app (goodIn_of _ (by decide +kernel)) ggL_law_X7_worst
set_option maxRecDepth 20000 in
theorem ggL_law_X6_type : GoodIn wsL_law wsX6_type := goodIn_r _ [661, 109, 34, 191, 115, 116, 2, 117, 662, 663, 664, 33, 665, 666, 88, 218, 219, 759, 760, 761, 762, 763, 764, 765, 766, 767, 815, 816, 817, 818, 819, 820, 821, 822, 823, 824, 825] (by decide +kernel) (by decide +kernel)
set_option maxRecDepth 20000 in
theorem gL_law_X6_type : GoodIn wsL_law (wsV RL 90 RX6 yX6_type wsX6_type) := goodIn_app (goodIn_of _ (by decide +kernel)) ggL_law_X6_type
set_option maxRecDepth 20000 in
theorem ggL_law_X7_type : GoodIn wsL_law wsX7_type := goodIn_r _ [670, 157, 483, 234, 98, 163, 164, 5, 165, 768, 769, 770, 771, 772, 773, 774, 775, 776, 777, 778, 779, 780, 781, 782, 783, 784, 785, 786, 787, 788] (by decide +kernel) (by decide +kernel)
set_option maxRecDepth 20000 in
theorem gL_law_X7_type : GoodIn wsL_law (wsV RL 93 RX7 yX7_type wsX7_type) := goodIn_app (goodIn_of _ (by decide +kernel)) ggL_law_X7_type
set_option maxRecDepth 20000 in
theorem ggL_law_X6_clearText : GoodIn wsL_law wsX6_clearText := goodIn_r _ [674, 34, 759, 760, 761, 762, 763, 764, 765, 766, 767, 815, 816, 817, 818, 819, 820, 821, 822, 823, 824, 825] (by decide +kernel) (by decide +kernel)
set_option maxRecDepth 20000 in
theorem gL_law_X6_clearText : GoodIn wsL_law (wsV RL 94 RX6 yX6_clearText wsX6_clearText) := goodIn_app (goodIn_of _ (by decide +kernel)) ggL_law_X6_clearText
set_option maxRecDepth 20000 in
theorem ggL_law_X7_clearText : GoodIn wsL_law wsX7_clearText := goodIn_r _ [678, 483, 768, 769, 770, 771, 772, 773, 774, 775, 776, 777, 778, 779, 780, 781, 782, 783, 784, 785, 786, 787, 788] (by decide +kernel) (by decide +kernel)
set_option maxRecDepth 20000 in
theorem gL_law_X7_clearText : GoodIn wsL_law (wsV RL 97 RX7 yX7_clearText wsX7_clearText) := goodIn_app (goodIn_of _ (by decide +kernel)) ggL_law_X7_clearText
set_option maxRecDepth 20000 in
theorem ggL_law_X6_fault : GoodIn wsL_law wsX6_fault := goodIn_r _ [682, 109, 34, 296, 115, 116, 2, 117, 683, 684, 685, 686, 16, 15, 687, 133, 134, 14, 135, 43, 44, 45, 46, 47, 48, 49, 136, 137, 138, 42, 139, 55, 56, 57, 58, 59, 140, 141, 142, 143, 144, 688, 689, 690, 33, 691, 692, 693, 89, 666, 694, 695, 696, 697, 698, 699, 700, 701, 702, 703, 704, 705, 706, 707, 708, 709, 710, 711, 88, 204, 205, 712, 713, 714, 715, 716, 193, 194, 195, 717, 718, 719, 720, 176, 177, 178, 179, 180, 181, 182, 183, 184, 185, 721, 197, 198, 199, 200, 201, 202, 203, 722, 207, 208, 209, 60, 723, 211, 212, 213, 214, 215, 216, 217, 218, 219, 759, 760, 761, 762, 763, 764, 765, 766, 767, 815, 816, 817, 818, 819, 820, 821, 822, 823, 824, 825, 789, 790, 791, 792, 793, 794, 795, 826, 827, 828] (by decide +kernel) (by decide +kernel)
set_option maxRecDepth 20000 in
theorem gL_law_X6_fault : GoodIn wsL_law (wsV RL 98 RX6 yX6_fault wsX6_fault) := goodIn_app (goodIn_of _ (by decide +kernel)) ggL_law_X6_fault
set_option maxRecDepth 20000 in
theorem ggL_law_X7_fault : GoodIn wsL_law wsX7_fault := goodIn_r _ [727, 157, 399, 728, 163, 164, 5, 165, 729, 730, 731, 732, 96, 94, 733, 483, 734, 735, 736, 737, 738, 99, 739, 740, 741, 742, 743, 744, 745, 746, 98, 747, 748, 749, 750, 224, 225, 226, 227, 228, 235, 236, 237, 238, 239, 240, 241, 242, 243, 244, 245, 246, 247, 248, 249, 250, 251, 252, 253, 254, 768, 769, 770, 771, 772, 773, 774, 775, 776, 777, 778, 779, 780, 781, 782, 783, 784, 785, 786, 787, 788] (by decide +kernel) (by decide +kernel)
set_option maxRecDepth 20000 in
theorem gL_law_X7_fault : GoodIn wsL_law (wsV RL 101 RX7 yX7_fault wsX7_fault) := goodIn_app (goodIn_of _ (by decide +kernel)) ggL_law_X7_fault
set_option maxRecDepth 20000 in
theorem ggL_law_X6_enter : GoodIn wsL_law wsX6_enter := goodIn_r _ [754, 34, 190, 15, 16, 683, 684, 685, 2, 686, 687, 133, 134, 14, 135, 43, 44, 45, 46, 47, 48, 49, 136, 137, 138, 42, 139, 55, 56, 57, 58, 59, 140, 141, 142, 143, 144, 688, 689, 690, 33, 691, 692, 693, 89, 666, 694, 695, 696, 697, 698, 699, 700, 701, 702, 703, 704, 705, 706, 707, 708, 709, 710, 711, 88, 204, 205, 712, 713, 714, 715, 116, 117, 716, 193, 194, 195, 717, 718, 719, 720, 176, 177, 178, 179, 180, 181, 182, 115, 183, 184, 185, 721, 197, 198, 199, 200, 201, 202, 203, 722, 207, 208, 209, 60, 723, 211, 212, 213, 214, 215, 216, 217, 218, 219, 118, 119, 120, 121, 20, 35, 122, 123, 124, 19, 125, 126, 127, 128, 129, 130, 131, 66, 132, 759, 760, 761, 762, 763, 764, 765, 766, 767, 815, 816, 817, 818, 819, 820, 821, 822, 823, 824, 825, 789, 790, 791, 792, 793, 794, 795, 826, 827, 828, 796, 797, 798] (by decide +kernel) (by decide +kernel)
set_option maxRecDepth 20000 in
theorem gL_law_X6_enter : GoodIn wsL_law (wsV RL 102 RX6 yX6_enter wsX6_enter) := goodIn_app (goodIn_of _ (by decide +kernel)) ggL_law_X6_enter
set_option maxRecDepth 20000 in
theorem ggL_law_X7_enter : GoodIn wsL_law wsX7_enter := goodIn_r _ [758, 399, 233, 733, 483, 729, 730, 731, 5, 732, 96, 94, 728, 734, 735, 736, 737, 738, 99, 739, 740, 741, 742, 743, 744, 745, 746, 98, 747, 748, 749, 750, 163, 164, 165, 224, 225, 226, 227, 228, 235, 236, 237, 238, 239, 240, 241, 242, 243, 244, 245, 246, 247, 248, 249, 250, 251, 252, 253, 254, 166, 167, 168, 169, 170, 95, 768, 769, 770, 771, 772, 773, 774, 775, 776, 777, 778, 779, 780, 781, 782, 783, 784, 785, 786, 787, 788] (by decide +kernel) (by decide +kernel)
set_option maxRecDepth 20000 in
theorem gL_law_X7_enter : GoodIn wsL_law (wsV RL 105 RX7 yX7_enter wsX7_enter) := goodIn_app (goodIn_of _ (by decide +kernel)) ggL_law_X7_enter
theorem dL_law_0 : decode cL_law 0 = .ok (.new 7, 3) := by decide +kernel
theorem dL_law_3 : decode cL_law 3 = .ok (.dup, 1) := by decide +kernel
theorem dL_law_4 : decode cL_law 4 = .ok (.invokespecial 9, 3) := by decide +kernel
theorem dL_law_7 : decode cL_law 7 = .ok (.astore_n 1, 1) := by decide +kernel
theorem dL_law_8 : decode cL_law 8 = .ok (.new 10, 3) := by decide +kernel
theorem dL_law_11 : decode cL_law 11 = .ok (.dup, 1) := by decide +kernel
theorem dL_law_12 : decode cL_law 12 = .ok (.invokespecial 12, 3) := by decide +kernel
theorem dL_law_15 : decode cL_law 15 = .ok (.astore_n 2, 1) := by decide +kernel
theorem dL_law_16 : decode cL_law 16 = .ok (.iconst 0, 1) := by decide +kernel
theorem dL_law_17 : decode cL_law 17 = .ok (.istore_n 3, 1) := by decide +kernel
theorem dL_law_18 : decode cL_law 18 = .ok (.iload_n 3, 1) := by decide +kernel
theorem dL_law_19 : decode cL_law 19 = .ok (.aload_n 0, 1) := by decide +kernel
theorem dL_law_20 : decode cL_law 20 = .ok (.arraylength, 1) := by decide +kernel
theorem dL_law_21 : decode cL_law 21 = .ok (.bipush 6, 2) := by decide +kernel
theorem dL_law_23 : decode cL_law 23 = .ok (.isub, 1) := by decide +kernel
theorem dL_law_24 : decode cL_law 24 = .ok (.if_icmp .gt 804, 3) := by decide +kernel
theorem dL_law_27 : decode cL_law 27 = .ok (.aload_n 0, 1) := by decide +kernel
theorem dL_law_28 : decode cL_law 28 = .ok (.iload_n 3, 1) := by decide +kernel
theorem dL_law_29 : decode cL_law 29 = .ok (.iaload, 1) := by decide +kernel
theorem dL_law_30 : decode cL_law 30 = .ok (.bipush 31, 2) := by decide +kernel
theorem dL_law_32 : decode cL_law 32 = .ok (.iand, 1) := by decide +kernel
theorem dL_law_33 : decode cL_law 33 = .ok (.tableswitch 789 0 21 #[103, 136, 179, 242, 275, 318, 341, 354, 387, 410, 443, 486, 529, 552, 595, 628, 661, 694, 717, 740, 753, 776], 103) := by decide +kernel
theorem dL_law_136 : decode cL_law 136 = .ok (.aload_n 1, 1) := by decide +kernel
theorem dL_law_137 : decode cL_law 137 = .ok (.aload_n 0, 1) := by decide +kernel
theorem dL_law_138 : decode cL_law 138 = .ok (.iload_n 3, 1) := by decide +kernel
theorem dL_law_139 : decode cL_law 139 = .ok (.iconst 1, 1) := by decide +kernel
theorem dL_law_140 : decode cL_law 140 = .ok (.iadd, 1) := by decide +kernel
theorem dL_law_141 : decode cL_law 141 = .ok (.iaload, 1) := by decide +kernel
theorem dL_law_142 : decode cL_law 142 = .ok (.aload_n 0, 1) := by decide +kernel
theorem dL_law_143 : decode cL_law 143 = .ok (.iload_n 3, 1) := by decide +kernel
theorem dL_law_144 : decode cL_law 144 = .ok (.iconst 2, 1) := by decide +kernel
theorem dL_law_145 : decode cL_law 145 = .ok (.iadd, 1) := by decide +kernel
theorem dL_law_146 : decode cL_law 146 = .ok (.iaload, 1) := by decide +kernel
theorem dL_law_147 : decode cL_law 147 = .ok (.invokevirtual 13, 3) := by decide +kernel
theorem dL_law_150 : decode cL_law 150 = .ok (.aload_n 2, 1) := by decide +kernel
theorem dL_law_151 : decode cL_law 151 = .ok (.aload_n 0, 1) := by decide +kernel
theorem dL_law_152 : decode cL_law 152 = .ok (.iload_n 3, 1) := by decide +kernel
theorem dL_law_153 : decode cL_law 153 = .ok (.iconst 1, 1) := by decide +kernel
theorem dL_law_154 : decode cL_law 154 = .ok (.iadd, 1) := by decide +kernel
theorem dL_law_155 : decode cL_law 155 = .ok (.iaload, 1) := by decide +kernel
theorem dL_law_156 : decode cL_law 156 = .ok (.aload_n 0, 1) := by decide +kernel
theorem dL_law_157 : decode cL_law 157 = .ok (.iload_n 3, 1) := by decide +kernel
theorem dL_law_158 : decode cL_law 158 = .ok (.iconst 2, 1) := by decide +kernel
theorem dL_law_159 : decode cL_law 159 = .ok (.iadd, 1) := by decide +kernel
theorem dL_law_160 : decode cL_law 160 = .ok (.iaload, 1) := by decide +kernel
theorem dL_law_161 : decode cL_law 161 = .ok (.invokevirtual 17, 3) := by decide +kernel
theorem dL_law_164 : decode cL_law 164 = .ok (.if_icmp .eq 658, 3) := by decide +kernel
theorem dL_law_167 : decode cL_law 167 = .ok (.iconst 0, 1) := by decide +kernel
theorem dL_law_168 : decode cL_law 168 = .ok (.ireturn, 1) := by decide +kernel
theorem dL_law_169 : decode cL_law 169 = .ok (.aload_n 1, 1) := by decide +kernel
theorem dL_law_170 : decode cL_law 170 = .ok (.aload_n 0, 1) := by decide +kernel
theorem dL_law_171 : decode cL_law 171 = .ok (.iload_n 3, 1) := by decide +kernel
theorem dL_law_172 : decode cL_law 172 = .ok (.iconst 1, 1) := by decide +kernel
theorem dL_law_173 : decode cL_law 173 = .ok (.iadd, 1) := by decide +kernel
theorem dL_law_174 : decode cL_law 174 = .ok (.iaload, 1) := by decide +kernel
theorem dL_law_175 : decode cL_law 175 = .ok (.aload_n 0, 1) := by decide +kernel
theorem dL_law_176 : decode cL_law 176 = .ok (.iload_n 3, 1) := by decide +kernel
theorem dL_law_177 : decode cL_law 177 = .ok (.iconst 2, 1) := by decide +kernel
theorem dL_law_178 : decode cL_law 178 = .ok (.iadd, 1) := by decide +kernel
theorem dL_law_179 : decode cL_law 179 = .ok (.iaload, 1) := by decide +kernel
theorem dL_law_180 : decode cL_law 180 = .ok (.aload_n 0, 1) := by decide +kernel
theorem dL_law_181 : decode cL_law 181 = .ok (.iload_n 3, 1) := by decide +kernel
theorem dL_law_182 : decode cL_law 182 = .ok (.iconst 3, 1) := by decide +kernel
theorem dL_law_183 : decode cL_law 183 = .ok (.iadd, 1) := by decide +kernel
theorem dL_law_184 : decode cL_law 184 = .ok (.iaload, 1) := by decide +kernel
theorem dL_law_185 : decode cL_law 185 = .ok (.invokevirtual 18, 3) := by decide +kernel
theorem dL_law_188 : decode cL_law 188 = .ok (.aload_n 2, 1) := by decide +kernel
theorem dL_law_189 : decode cL_law 189 = .ok (.aload_n 0, 1) := by decide +kernel
theorem dL_law_190 : decode cL_law 190 = .ok (.iload_n 3, 1) := by decide +kernel
theorem dL_law_191 : decode cL_law 191 = .ok (.iconst 1, 1) := by decide +kernel
theorem dL_law_192 : decode cL_law 192 = .ok (.iadd, 1) := by decide +kernel
theorem dL_law_193 : decode cL_law 193 = .ok (.iaload, 1) := by decide +kernel
theorem dL_law_194 : decode cL_law 194 = .ok (.aload_n 0, 1) := by decide +kernel
theorem dL_law_195 : decode cL_law 195 = .ok (.iload_n 3, 1) := by decide +kernel
theorem dL_law_196 : decode cL_law 196 = .ok (.iconst 2, 1) := by decide +kernel
theorem dL_law_197 : decode cL_law 197 = .ok (.iadd, 1) := by decide +kernel
theorem dL_law_198 : decode cL_law 198 = .ok (.iaload, 1) := by decide +kernel
theorem dL_law_199 : decode cL_law 199 = .ok (.aload_n 0, 1) := by decide +kernel
theorem dL_law_200 : decode cL_law 200 = .ok (.iload_n 3, 1) := by decide +kernel
theorem dL_law_201 : decode cL_law 201 = .ok (.iconst 3, 1) := by decide +kernel
theorem dL_law_202 : decode cL_law 202 = .ok (.iadd, 1) := by decide +kernel
theorem dL_law_203 : decode cL_law 203 = .ok (.iaload, 1) := by decide +kernel
theorem dL_law_204 : decode cL_law 204 = .ok (.invokevirtual 22, 3) := by decide +kernel
theorem dL_law_207 : decode cL_law 207 = .ok (.if_icmp .eq 615, 3) := by decide +kernel
theorem dL_law_210 : decode cL_law 210 = .ok (.iconst 0, 1) := by decide +kernel
theorem dL_law_211 : decode cL_law 211 = .ok (.ireturn, 1) := by decide +kernel
theorem dL_law_212 : decode cL_law 212 = .ok (.aload_n 1, 1) := by decide +kernel
theorem dL_law_213 : decode cL_law 213 = .ok (.aload_n 0, 1) := by decide +kernel
theorem dL_law_214 : decode cL_law 214 = .ok (.iload_n 3, 1) := by decide +kernel
theorem dL_law_215 : decode cL_law 215 = .ok (.iconst 1, 1) := by decide +kernel
theorem dL_law_216 : decode cL_law 216 = .ok (.iadd, 1) := by decide +kernel
theorem dL_law_217 : decode cL_law 217 = .ok (.iaload, 1) := by decide +kernel
theorem dL_law_218 : decode cL_law 218 = .ok (.aload_n 0, 1) := by decide +kernel
theorem dL_law_219 : decode cL_law 219 = .ok (.iload_n 3, 1) := by decide +kernel
theorem dL_law_220 : decode cL_law 220 = .ok (.iconst 2, 1) := by decide +kernel
theorem dL_law_221 : decode cL_law 221 = .ok (.iadd, 1) := by decide +kernel
theorem dL_law_222 : decode cL_law 222 = .ok (.iaload, 1) := by decide +kernel
theorem dL_law_223 : decode cL_law 223 = .ok (.aload_n 0, 1) := by decide +kernel
theorem dL_law_224 : decode cL_law 224 = .ok (.iload_n 3, 1) := by decide +kernel
theorem dL_law_225 : decode cL_law 225 = .ok (.iconst 3, 1) := by decide +kernel
theorem dL_law_226 : decode cL_law 226 = .ok (.iadd, 1) := by decide +kernel
theorem dL_law_227 : decode cL_law 227 = .ok (.iaload, 1) := by decide +kernel
theorem dL_law_228 : decode cL_law 228 = .ok (.aload_n 0, 1) := by decide +kernel
theorem dL_law_229 : decode cL_law 229 = .ok (.iload_n 3, 1) := by decide +kernel
theorem dL_law_230 : decode cL_law 230 = .ok (.iconst 4, 1) := by decide +kernel
theorem dL_law_231 : decode cL_law 231 = .ok (.iadd, 1) := by decide +kernel
theorem dL_law_232 : decode cL_law 232 = .ok (.iaload, 1) := by decide +kernel
theorem dL_law_233 : decode cL_law 233 = .ok (.aload_n 0, 1) := by decide +kernel
theorem dL_law_234 : decode cL_law 234 = .ok (.iload_n 3, 1) := by decide +kernel
theorem dL_law_235 : decode cL_law 235 = .ok (.iconst 5, 1) := by decide +kernel
theorem dL_law_236 : decode cL_law 236 = .ok (.iadd, 1) := by decide +kernel
theorem dL_law_237 : decode cL_law 237 = .ok (.iaload, 1) := by decide +kernel
theorem dL_law_238 : decode cL_law 238 = .ok (.invokevirtual 23, 3) := by decide +kernel
theorem dL_law_241 : decode cL_law 241 = .ok (.aload_n 2, 1) := by decide +kernel
theorem dL_law_242 : decode cL_law 242 = .ok (.aload_n 0, 1) := by decide +kernel
theorem dL_law_243 : decode cL_law 243 = .ok (.iload_n 3, 1) := by decide +kernel
theorem dL_law_244 : decode cL_law 244 = .ok (.iconst 1, 1) := by decide +kernel
theorem dL_law_245 : decode cL_law 245 = .ok (.iadd, 1) := by decide +kernel
theorem dL_law_246 : decode cL_law 246 = .ok (.iaload, 1) := by decide +kernel
theorem dL_law_247 : decode cL_law 247 = .ok (.aload_n 0, 1) := by decide +kernel
theorem dL_law_248 : decode cL_law 248 = .ok (.iload_n 3, 1) := by decide +kernel
theorem dL_law_249 : decode cL_law 249 = .ok (.iconst 2, 1) := by decide +kernel
theorem dL_law_250 : decode cL_law 250 = .ok (.iadd, 1) := by decide +kernel
theorem dL_law_251 : decode cL_law 251 = .ok (.iaload, 1) := by decide +kernel
theorem dL_law_252 : decode cL_law 252 = .ok (.aload_n 0, 1) := by decide +kernel
theorem dL_law_253 : decode cL_law 253 = .ok (.iload_n 3, 1) := by decide +kernel
theorem dL_law_254 : decode cL_law 254 = .ok (.iconst 3, 1) := by decide +kernel
theorem dL_law_255 : decode cL_law 255 = .ok (.iadd, 1) := by decide +kernel
theorem dL_law_256 : decode cL_law 256 = .ok (.iaload, 1) := by decide +kernel
theorem dL_law_257 : decode cL_law 257 = .ok (.aload_n 0, 1) := by decide +kernel
theorem dL_law_258 : decode cL_law 258 = .ok (.iload_n 3, 1) := by decide +kernel
theorem dL_law_259 : decode cL_law 259 = .ok (.iconst 4, 1) := by decide +kernel
theorem dL_law_260 : decode cL_law 260 = .ok (.iadd, 1) := by decide +kernel
theorem dL_law_261 : decode cL_law 261 = .ok (.iaload, 1) := by decide +kernel
theorem dL_law_262 : decode cL_law 262 = .ok (.aload_n 0, 1) := by decide +kernel
theorem dL_law_263 : decode cL_law 263 = .ok (.iload_n 3, 1) := by decide +kernel
theorem dL_law_264 : decode cL_law 264 = .ok (.iconst 5, 1) := by decide +kernel
theorem dL_law_265 : decode cL_law 265 = .ok (.iadd, 1) := by decide +kernel
theorem dL_law_266 : decode cL_law 266 = .ok (.iaload, 1) := by decide +kernel
theorem dL_law_267 : decode cL_law 267 = .ok (.invokevirtual 27, 3) := by decide +kernel
theorem dL_law_270 : decode cL_law 270 = .ok (.if_icmp .eq 552, 3) := by decide +kernel
theorem dL_law_273 : decode cL_law 273 = .ok (.iconst 0, 1) := by decide +kernel
theorem dL_law_274 : decode cL_law 274 = .ok (.ireturn, 1) := by decide +kernel
theorem dL_law_275 : decode cL_law 275 = .ok (.aload_n 1, 1) := by decide +kernel
theorem dL_law_276 : decode cL_law 276 = .ok (.aload_n 0, 1) := by decide +kernel
theorem dL_law_277 : decode cL_law 277 = .ok (.iload_n 3, 1) := by decide +kernel
theorem dL_law_278 : decode cL_law 278 = .ok (.iconst 1, 1) := by decide +kernel
theorem dL_law_279 : decode cL_law 279 = .ok (.iadd, 1) := by decide +kernel
theorem dL_law_280 : decode cL_law 280 = .ok (.iaload, 1) := by decide +kernel
theorem dL_law_281 : decode cL_law 281 = .ok (.aload_n 0, 1) := by decide +kernel
theorem dL_law_282 : decode cL_law 282 = .ok (.iload_n 3, 1) := by decide +kernel
theorem dL_law_283 : decode cL_law 283 = .ok (.iconst 2, 1) := by decide +kernel
theorem dL_law_284 : decode cL_law 284 = .ok (.iadd, 1) := by decide +kernel
theorem dL_law_285 : decode cL_law 285 = .ok (.iaload, 1) := by decide +kernel
theorem dL_law_286 : decode cL_law 286 = .ok (.invokevirtual 28, 3) := by decide +kernel
theorem dL_law_289 : decode cL_law 289 = .ok (.aload_n 2, 1) := by decide +kernel
theorem dL_law_290 : decode cL_law 290 = .ok (.aload_n 0, 1) := by decide +kernel
theorem dL_law_291 : decode cL_law 291 = .ok (.iload_n 3, 1) := by decide +kernel
theorem dL_law_292 : decode cL_law 292 = .ok (.iconst 1, 1) := by decide +kernel
theorem dL_law_293 : decode cL_law 293 = .ok (.iadd, 1) := by decide +kernel
theorem dL_law_294 : decode cL_law 294 = .ok (.iaload, 1) := by decide +kernel
theorem dL_law_295 : decode cL_law 295 = .ok (.aload_n 0, 1) := by decide +kernel
theorem dL_law_296 : decode cL_law 296 = .ok (.iload_n 3, 1) := by decide +kernel
theorem dL_law_297 : decode cL_law 297 = .ok (.iconst 2, 1) := by decide +kernel
theorem dL_law_298 : decode cL_law 298 = .ok (.iadd, 1) := by decide +kernel
theorem dL_law_299 : decode cL_law 299 = .ok (.iaload, 1) := by decide +kernel
theorem dL_law_300 : decode cL_law 300 = .ok (.invokevirtual 31, 3) := by decide +kernel
theorem dL_law_303 : decode cL_law 303 = .ok (.if_icmp .eq 519, 3) := by decide +kernel
theorem dL_law_306 : decode cL_law 306 = .ok (.iconst 0, 1) := by decide +kernel
theorem dL_law_307 : decode cL_law 307 = .ok (.ireturn, 1) := by decide +kernel
theorem dL_law_308 : decode cL_law 308 = .ok (.aload_n 1, 1) := by decide +kernel
theorem dL_law_309 : decode cL_law 309 = .ok (.aload_n 0, 1) := by decide +kernel
theorem dL_law_310 : decode cL_law 310 = .ok (.iload_n 3, 1) := by decide +kernel
theorem dL_law_311 : decode cL_law 311 = .ok (.iconst 1, 1) := by decide +kernel
theorem dL_law_312 : decode cL_law 312 = .ok (.iadd, 1) := by decide +kernel
theorem dL_law_313 : decode cL_law 313 = .ok (.iaload, 1) := by decide +kernel
theorem dL_law_314 : decode cL_law 314 = .ok (.aload_n 0, 1) := by decide +kernel
theorem dL_law_315 : decode cL_law 315 = .ok (.iload_n 3, 1) := by decide +kernel
theorem dL_law_316 : decode cL_law 316 = .ok (.iconst 2, 1) := by decide +kernel
theorem dL_law_317 : decode cL_law 317 = .ok (.iadd, 1) := by decide +kernel
theorem dL_law_318 : decode cL_law 318 = .ok (.iaload, 1) := by decide +kernel
theorem dL_law_319 : decode cL_law 319 = .ok (.aload_n 0, 1) := by decide +kernel
theorem dL_law_320 : decode cL_law 320 = .ok (.iload_n 3, 1) := by decide +kernel
theorem dL_law_321 : decode cL_law 321 = .ok (.iconst 3, 1) := by decide +kernel
theorem dL_law_322 : decode cL_law 322 = .ok (.iadd, 1) := by decide +kernel
theorem dL_law_323 : decode cL_law 323 = .ok (.iaload, 1) := by decide +kernel
theorem dL_law_324 : decode cL_law 324 = .ok (.invokevirtual 32, 3) := by decide +kernel
theorem dL_law_327 : decode cL_law 327 = .ok (.aload_n 2, 1) := by decide +kernel
theorem dL_law_328 : decode cL_law 328 = .ok (.aload_n 0, 1) := by decide +kernel
theorem dL_law_329 : decode cL_law 329 = .ok (.iload_n 3, 1) := by decide +kernel
theorem dL_law_330 : decode cL_law 330 = .ok (.iconst 1, 1) := by decide +kernel
theorem dL_law_331 : decode cL_law 331 = .ok (.iadd, 1) := by decide +kernel
theorem dL_law_332 : decode cL_law 332 = .ok (.iaload, 1) := by decide +kernel
theorem dL_law_333 : decode cL_law 333 = .ok (.aload_n 0, 1) := by decide +kernel
theorem dL_law_334 : decode cL_law 334 = .ok (.iload_n 3, 1) := by decide +kernel
theorem dL_law_335 : decode cL_law 335 = .ok (.iconst 2, 1) := by decide +kernel
theorem dL_law_336 : decode cL_law 336 = .ok (.iadd, 1) := by decide +kernel
theorem dL_law_337 : decode cL_law 337 = .ok (.iaload, 1) := by decide +kernel
theorem dL_law_338 : decode cL_law 338 = .ok (.aload_n 0, 1) := by decide +kernel
theorem dL_law_339 : decode cL_law 339 = .ok (.iload_n 3, 1) := by decide +kernel
theorem dL_law_340 : decode cL_law 340 = .ok (.iconst 3, 1) := by decide +kernel
theorem dL_law_341 : decode cL_law 341 = .ok (.iadd, 1) := by decide +kernel
theorem dL_law_342 : decode cL_law 342 = .ok (.iaload, 1) := by decide +kernel
theorem dL_law_343 : decode cL_law 343 = .ok (.invokevirtual 35, 3) := by decide +kernel
theorem dL_law_346 : decode cL_law 346 = .ok (.if_icmp .eq 476, 3) := by decide +kernel
theorem dL_law_349 : decode cL_law 349 = .ok (.iconst 0, 1) := by decide +kernel
theorem dL_law_350 : decode cL_law 350 = .ok (.ireturn, 1) := by decide +kernel
theorem dL_law_351 : decode cL_law 351 = .ok (.aload_n 1, 1) := by decide +kernel
theorem dL_law_352 : decode cL_law 352 = .ok (.aload_n 0, 1) := by decide +kernel
theorem dL_law_353 : decode cL_law 353 = .ok (.iload_n 3, 1) := by decide +kernel
theorem dL_law_354 : decode cL_law 354 = .ok (.iconst 1, 1) := by decide +kernel
theorem dL_law_355 : decode cL_law 355 = .ok (.iadd, 1) := by decide +kernel
theorem dL_law_356 : decode cL_law 356 = .ok (.iaload, 1) := by decide +kernel
theorem dL_law_357 : decode cL_law 357 = .ok (.invokevirtual 36, 3) := by decide +kernel
theorem dL_law_360 : decode cL_law 360 = .ok (.aload_n 2, 1) := by decide +kernel
theorem dL_law_361 : decode cL_law 361 = .ok (.aload_n 0, 1) := by decide +kernel
theorem dL_law_362 : decode cL_law 362 = .ok (.iload_n 3, 1) := by decide +kernel
theorem dL_law_363 : decode cL_law 363 = .ok (.iconst 1, 1) := by decide +kernel
theorem dL_law_364 : decode cL_law 364 = .ok (.iadd, 1) := by decide +kernel
theorem dL_law_365 : decode cL_law 365 = .ok (.iaload, 1) := by decide +kernel
theorem dL_law_366 : decode cL_law 366 = .ok (.invokevirtual 40, 3) := by decide +kernel
theorem dL_law_369 : decode cL_law 369 = .ok (.if_icmp .eq 453, 3) := by decide +kernel
theorem dL_law_372 : decode cL_law 372 = .ok (.iconst 0, 1) := by decide +kernel
theorem dL_law_373 : decode cL_law 373 = .ok (.ireturn, 1) := by decide +kernel
theorem dL_law_374 : decode cL_law 374 = .ok (.aload_n 1, 1) := by decide +kernel
theorem dL_law_375 : decode cL_law 375 = .ok (.invokevirtual 41, 3) := by decide +kernel
theorem dL_law_378 : decode cL_law 378 = .ok (.aload_n 2, 1) := by decide +kernel
theorem dL_law_379 : decode cL_law 379 = .ok (.invokevirtual 45, 3) := by decide +kernel
theorem dL_law_382 : decode cL_law 382 = .ok (.if_icmp .eq 440, 3) := by decide +kernel
theorem dL_law_385 : decode cL_law 385 = .ok (.iconst 0, 1) := by decide +kernel
theorem dL_law_386 : decode cL_law 386 = .ok (.ireturn, 1) := by decide +kernel
theorem dL_law_387 : decode cL_law 387 = .ok (.aload_n 1, 1) := by decide +kernel
theorem dL_law_388 : decode cL_law 388 = .ok (.aload_n 0, 1) := by decide +kernel
theorem dL_law_389 : decode cL_law 389 = .ok (.iload_n 3, 1) := by decide +kernel
theorem dL_law_390 : decode cL_law 390 = .ok (.iconst 1, 1) := by decide +kernel
theorem dL_law_391 : decode cL_law 391 = .ok (.iadd, 1) := by decide +kernel
theorem dL_law_392 : decode cL_law 392 = .ok (.iaload, 1) := by decide +kernel
theorem dL_law_393 : decode cL_law 393 = .ok (.aload_n 0, 1) := by decide +kernel
theorem dL_law_394 : decode cL_law 394 = .ok (.iload_n 3, 1) := by decide +kernel
theorem dL_law_395 : decode cL_law 395 = .ok (.iconst 2, 1) := by decide +kernel
theorem dL_law_396 : decode cL_law 396 = .ok (.iadd, 1) := by decide +kernel
theorem dL_law_397 : decode cL_law 397 = .ok (.iaload, 1) := by decide +kernel
theorem dL_law_398 : decode cL_law 398 = .ok (.invokevirtual 46, 3) := by decide +kernel
theorem dL_law_401 : decode cL_law 401 = .ok (.aload_n 2, 1) := by decide +kernel
theorem dL_law_402 : decode cL_law 402 = .ok (.aload_n 0, 1) := by decide +kernel
theorem dL_law_403 : decode cL_law 403 = .ok (.iload_n 3, 1) := by decide +kernel
theorem dL_law_404 : decode cL_law 404 = .ok (.iconst 1, 1) := by decide +kernel
theorem dL_law_405 : decode cL_law 405 = .ok (.iadd, 1) := by decide +kernel
theorem dL_law_406 : decode cL_law 406 = .ok (.iaload, 1) := by decide +kernel
theorem dL_law_407 : decode cL_law 407 = .ok (.aload_n 0, 1) := by decide +kernel
theorem dL_law_408 : decode cL_law 408 = .ok (.iload_n 3, 1) := by decide +kernel
theorem dL_law_409 : decode cL_law 409 = .ok (.iconst 2, 1) := by decide +kernel
theorem dL_law_410 : decode cL_law 410 = .ok (.iadd, 1) := by decide +kernel
theorem dL_law_411 : decode cL_law 411 = .ok (.iaload, 1) := by decide +kernel
theorem dL_law_412 : decode cL_law 412 = .ok (.invokevirtual 49, 3) := by decide +kernel
theorem dL_law_415 : decode cL_law 415 = .ok (.if_icmp .eq 407, 3) := by decide +kernel
theorem dL_law_418 : decode cL_law 418 = .ok (.iconst 0, 1) := by decide +kernel
theorem dL_law_419 : decode cL_law 419 = .ok (.ireturn, 1) := by decide +kernel
theorem dL_law_420 : decode cL_law 420 = .ok (.aload_n 1, 1) := by decide +kernel
theorem dL_law_421 : decode cL_law 421 = .ok (.aload_n 0, 1) := by decide +kernel
theorem dL_law_422 : decode cL_law 422 = .ok (.iload_n 3, 1) := by decide +kernel
theorem dL_law_423 : decode cL_law 423 = .ok (.iconst 1, 1) := by decide +kernel
theorem dL_law_424 : decode cL_law 424 = .ok (.iadd, 1) := by decide +kernel
theorem dL_law_425 : decode cL_law 425 = .ok (.iaload, 1) := by decide +kernel
theorem dL_law_426 : decode cL_law 426 = .ok (.invokevirtual 50, 3) := by decide +kernel
theorem dL_law_429 : decode cL_law 429 = .ok (.aload_n 2, 1) := by decide +kernel
theorem dL_law_430 : decode cL_law 430 = .ok (.aload_n 0, 1) := by decide +kernel
theorem dL_law_431 : decode cL_law 431 = .ok (.iload_n 3, 1) := by decide +kernel
theorem dL_law_432 : decode cL_law 432 = .ok (.iconst 1, 1) := by decide +kernel
theorem dL_law_433 : decode cL_law 433 = .ok (.iadd, 1) := by decide +kernel
theorem dL_law_434 : decode cL_law 434 = .ok (.iaload, 1) := by decide +kernel
theorem dL_law_435 : decode cL_law 435 = .ok (.invokevirtual 53, 3) := by decide +kernel
theorem dL_law_438 : decode cL_law 438 = .ok (.if_icmp .eq 384, 3) := by decide +kernel
theorem dL_law_441 : decode cL_law 441 = .ok (.iconst 0, 1) := by decide +kernel
theorem dL_law_442 : decode cL_law 442 = .ok (.ireturn, 1) := by decide +kernel
theorem dL_law_443 : decode cL_law 443 = .ok (.aload_n 1, 1) := by decide +kernel
theorem dL_law_444 : decode cL_law 444 = .ok (.aload_n 0, 1) := by decide +kernel
theorem dL_law_445 : decode cL_law 445 = .ok (.iload_n 3, 1) := by decide +kernel
theorem dL_law_446 : decode cL_law 446 = .ok (.iconst 1, 1) := by decide +kernel
theorem dL_law_447 : decode cL_law 447 = .ok (.iadd, 1) := by decide +kernel
theorem dL_law_448 : decode cL_law 448 = .ok (.iaload, 1) := by decide +kernel
theorem dL_law_449 : decode cL_law 449 = .ok (.aload_n 0, 1) := by decide +kernel
theorem dL_law_450 : decode cL_law 450 = .ok (.iload_n 3, 1) := by decide +kernel
theorem dL_law_451 : decode cL_law 451 = .ok (.iconst 2, 1) := by decide +kernel
theorem dL_law_452 : decode cL_law 452 = .ok (.iadd, 1) := by decide +kernel
theorem dL_law_453 : decode cL_law 453 = .ok (.iaload, 1) := by decide +kernel
theorem dL_law_454 : decode cL_law 454 = .ok (.invokevirtual 54, 3) := by decide +kernel
theorem dL_law_457 : decode cL_law 457 = .ok (.aload_n 2, 1) := by decide +kernel
theorem dL_law_458 : decode cL_law 458 = .ok (.aload_n 0, 1) := by decide +kernel
theorem dL_law_459 : decode cL_law 459 = .ok (.iload_n 3, 1) := by decide +kernel
theorem dL_law_460 : decode cL_law 460 = .ok (.iconst 1, 1) := by decide +kernel
theorem dL_law_461 : decode cL_law 461 = .ok (.iadd, 1) := by decide +kernel
theorem dL_law_462 : decode cL_law 462 = .ok (.iaload, 1) := by decide +kernel
theorem dL_law_463 : decode cL_law 463 = .ok (.aload_n 0, 1) := by decide +kernel
theorem dL_law_464 : decode cL_law 464 = .ok (.iload_n 3, 1) := by decide +kernel
theorem dL_law_465 : decode cL_law 465 = .ok (.iconst 2, 1) := by decide +kernel
theorem dL_law_466 : decode cL_law 466 = .ok (.iadd, 1) := by decide +kernel
theorem dL_law_467 : decode cL_law 467 = .ok (.iaload, 1) := by decide +kernel
theorem dL_law_468 : decode cL_law 468 = .ok (.invokevirtual 57, 3) := by decide +kernel
theorem dL_law_471 : decode cL_law 471 = .ok (.if_icmp .eq 351, 3) := by decide +kernel
theorem dL_law_474 : decode cL_law 474 = .ok (.iconst 0, 1) := by decide +kernel
theorem dL_law_475 : decode cL_law 475 = .ok (.ireturn, 1) := by decide +kernel
theorem dL_law_476 : decode cL_law 476 = .ok (.aload_n 1, 1) := by decide +kernel
theorem dL_law_477 : decode cL_law 477 = .ok (.aload_n 0, 1) := by decide +kernel
theorem dL_law_478 : decode cL_law 478 = .ok (.iload_n 3, 1) := by decide +kernel
theorem dL_law_479 : decode cL_law 479 = .ok (.iconst 1, 1) := by decide +kernel
theorem dL_law_480 : decode cL_law 480 = .ok (.iadd, 1) := by decide +kernel
theorem dL_law_481 : decode cL_law 481 = .ok (.iaload, 1) := by decide +kernel
theorem dL_law_482 : decode cL_law 482 = .ok (.aload_n 0, 1) := by decide +kernel
theorem dL_law_483 : decode cL_law 483 = .ok (.iload_n 3, 1) := by decide +kernel
theorem dL_law_484 : decode cL_law 484 = .ok (.iconst 2, 1) := by decide +kernel
theorem dL_law_485 : decode cL_law 485 = .ok (.iadd, 1) := by decide +kernel
theorem dL_law_486 : decode cL_law 486 = .ok (.iaload, 1) := by decide +kernel
theorem dL_law_487 : decode cL_law 487 = .ok (.aload_n 0, 1) := by decide +kernel
theorem dL_law_488 : decode cL_law 488 = .ok (.iload_n 3, 1) := by decide +kernel
theorem dL_law_489 : decode cL_law 489 = .ok (.iconst 3, 1) := by decide +kernel
theorem dL_law_490 : decode cL_law 490 = .ok (.iadd, 1) := by decide +kernel
theorem dL_law_491 : decode cL_law 491 = .ok (.iaload, 1) := by decide +kernel
theorem dL_law_492 : decode cL_law 492 = .ok (.invokevirtual 58, 3) := by decide +kernel
theorem dL_law_495 : decode cL_law 495 = .ok (.aload_n 2, 1) := by decide +kernel
theorem dL_law_496 : decode cL_law 496 = .ok (.aload_n 0, 1) := by decide +kernel
theorem dL_law_497 : decode cL_law 497 = .ok (.iload_n 3, 1) := by decide +kernel
theorem dL_law_498 : decode cL_law 498 = .ok (.iconst 1, 1) := by decide +kernel
theorem dL_law_499 : decode cL_law 499 = .ok (.iadd, 1) := by decide +kernel
theorem dL_law_500 : decode cL_law 500 = .ok (.iaload, 1) := by decide +kernel
theorem dL_law_501 : decode cL_law 501 = .ok (.aload_n 0, 1) := by decide +kernel
theorem dL_law_502 : decode cL_law 502 = .ok (.iload_n 3, 1) := by decide +kernel
theorem dL_law_503 : decode cL_law 503 = .ok (.iconst 2, 1) := by decide +kernel
theorem dL_law_504 : decode cL_law 504 = .ok (.iadd, 1) := by decide +kernel
theorem dL_law_505 : decode cL_law 505 = .ok (.iaload, 1) := by decide +kernel
theorem dL_law_506 : decode cL_law 506 = .ok (.aload_n 0, 1) := by decide +kernel
theorem dL_law_507 : decode cL_law 507 = .ok (.iload_n 3, 1) := by decide +kernel
theorem dL_law_508 : decode cL_law 508 = .ok (.iconst 3, 1) := by decide +kernel
theorem dL_law_509 : decode cL_law 509 = .ok (.iadd, 1) := by decide +kernel
theorem dL_law_510 : decode cL_law 510 = .ok (.iaload, 1) := by decide +kernel
theorem dL_law_511 : decode cL_law 511 = .ok (.invokevirtual 61, 3) := by decide +kernel
theorem dL_law_514 : decode cL_law 514 = .ok (.if_icmp .eq 308, 3) := by decide +kernel
theorem dL_law_517 : decode cL_law 517 = .ok (.iconst 0, 1) := by decide +kernel
theorem dL_law_518 : decode cL_law 518 = .ok (.ireturn, 1) := by decide +kernel
theorem dL_law_519 : decode cL_law 519 = .ok (.aload_n 1, 1) := by decide +kernel
theorem dL_law_520 : decode cL_law 520 = .ok (.aload_n 0, 1) := by decide +kernel
theorem dL_law_521 : decode cL_law 521 = .ok (.iload_n 3, 1) := by decide +kernel
theorem dL_law_522 : decode cL_law 522 = .ok (.iconst 1, 1) := by decide +kernel
theorem dL_law_523 : decode cL_law 523 = .ok (.iadd, 1) := by decide +kernel
theorem dL_law_524 : decode cL_law 524 = .ok (.iaload, 1) := by decide +kernel
theorem dL_law_525 : decode cL_law 525 = .ok (.aload_n 0, 1) := by decide +kernel
theorem dL_law_526 : decode cL_law 526 = .ok (.iload_n 3, 1) := by decide +kernel
theorem dL_law_527 : decode cL_law 527 = .ok (.iconst 2, 1) := by decide +kernel
theorem dL_law_528 : decode cL_law 528 = .ok (.iadd, 1) := by decide +kernel
theorem dL_law_529 : decode cL_law 529 = .ok (.iaload, 1) := by decide +kernel
theorem dL_law_530 : decode cL_law 530 = .ok (.aload_n 0, 1) := by decide +kernel
theorem dL_law_531 : decode cL_law 531 = .ok (.iload_n 3, 1) := by decide +kernel
theorem dL_law_532 : decode cL_law 532 = .ok (.iconst 3, 1) := by decide +kernel
theorem dL_law_533 : decode cL_law 533 = .ok (.iadd, 1) := by decide +kernel
theorem dL_law_534 : decode cL_law 534 = .ok (.iaload, 1) := by decide +kernel
theorem dL_law_535 : decode cL_law 535 = .ok (.invokevirtual 62, 3) := by decide +kernel
theorem dL_law_538 : decode cL_law 538 = .ok (.aload_n 2, 1) := by decide +kernel
theorem dL_law_539 : decode cL_law 539 = .ok (.aload_n 0, 1) := by decide +kernel
theorem dL_law_540 : decode cL_law 540 = .ok (.iload_n 3, 1) := by decide +kernel
theorem dL_law_541 : decode cL_law 541 = .ok (.iconst 1, 1) := by decide +kernel
theorem dL_law_542 : decode cL_law 542 = .ok (.iadd, 1) := by decide +kernel
theorem dL_law_543 : decode cL_law 543 = .ok (.iaload, 1) := by decide +kernel
theorem dL_law_544 : decode cL_law 544 = .ok (.aload_n 0, 1) := by decide +kernel
theorem dL_law_545 : decode cL_law 545 = .ok (.iload_n 3, 1) := by decide +kernel
theorem dL_law_546 : decode cL_law 546 = .ok (.iconst 2, 1) := by decide +kernel
theorem dL_law_547 : decode cL_law 547 = .ok (.iadd, 1) := by decide +kernel
theorem dL_law_548 : decode cL_law 548 = .ok (.iaload, 1) := by decide +kernel
theorem dL_law_549 : decode cL_law 549 = .ok (.aload_n 0, 1) := by decide +kernel
theorem dL_law_550 : decode cL_law 550 = .ok (.iload_n 3, 1) := by decide +kernel
theorem dL_law_551 : decode cL_law 551 = .ok (.iconst 3, 1) := by decide +kernel
theorem dL_law_552 : decode cL_law 552 = .ok (.iadd, 1) := by decide +kernel
theorem dL_law_553 : decode cL_law 553 = .ok (.iaload, 1) := by decide +kernel
theorem dL_law_554 : decode cL_law 554 = .ok (.invokevirtual 65, 3) := by decide +kernel
theorem dL_law_557 : decode cL_law 557 = .ok (.if_icmp .eq 265, 3) := by decide +kernel
theorem dL_law_560 : decode cL_law 560 = .ok (.iconst 0, 1) := by decide +kernel
theorem dL_law_561 : decode cL_law 561 = .ok (.ireturn, 1) := by decide +kernel
theorem dL_law_562 : decode cL_law 562 = .ok (.aload_n 1, 1) := by decide +kernel
theorem dL_law_563 : decode cL_law 563 = .ok (.aload_n 0, 1) := by decide +kernel
theorem dL_law_564 : decode cL_law 564 = .ok (.iload_n 3, 1) := by decide +kernel
theorem dL_law_565 : decode cL_law 565 = .ok (.iconst 1, 1) := by decide +kernel
theorem dL_law_566 : decode cL_law 566 = .ok (.iadd, 1) := by decide +kernel
theorem dL_law_567 : decode cL_law 567 = .ok (.iaload, 1) := by decide +kernel
theorem dL_law_568 : decode cL_law 568 = .ok (.invokevirtual 66, 3) := by decide +kernel
theorem dL_law_571 : decode cL_law 571 = .ok (.aload_n 2, 1) := by decide +kernel
theorem dL_law_572 : decode cL_law 572 = .ok (.aload_n 0, 1) := by decide +kernel
theorem dL_law_573 : decode cL_law 573 = .ok (.iload_n 3, 1) := by decide +kernel
theorem dL_law_574 : decode cL_law 574 = .ok (.iconst 1, 1) := by decide +kernel
theorem dL_law_575 : decode cL_law 575 = .ok (.iadd, 1) := by decide +kernel
theorem dL_law_576 : decode cL_law 576 = .ok (.iaload, 1) := by decide +kernel
theorem dL_law_577 : decode cL_law 577 = .ok (.invokevirtual 69, 3) := by decide +kernel
theorem dL_law_580 : decode cL_law 580 = .ok (.if_icmp .eq 242, 3) := by decide +kernel
theorem dL_law_583 : decode cL_law 583 = .ok (.iconst 0, 1) := by decide +kernel
theorem dL_law_584 : decode cL_law 584 = .ok (.ireturn, 1) := by decide +kernel
theorem dL_law_585 : decode cL_law 585 = .ok (.aload_n 1, 1) := by decide +kernel
theorem dL_law_586 : decode cL_law 586 = .ok (.aload_n 0, 1) := by decide +kernel
theorem dL_law_587 : decode cL_law 587 = .ok (.iload_n 3, 1) := by decide +kernel
theorem dL_law_588 : decode cL_law 588 = .ok (.iconst 1, 1) := by decide +kernel
theorem dL_law_589 : decode cL_law 589 = .ok (.iadd, 1) := by decide +kernel
theorem dL_law_590 : decode cL_law 590 = .ok (.iaload, 1) := by decide +kernel
theorem dL_law_591 : decode cL_law 591 = .ok (.aload_n 0, 1) := by decide +kernel
theorem dL_law_592 : decode cL_law 592 = .ok (.iload_n 3, 1) := by decide +kernel
theorem dL_law_593 : decode cL_law 593 = .ok (.iconst 2, 1) := by decide +kernel
theorem dL_law_594 : decode cL_law 594 = .ok (.iadd, 1) := by decide +kernel
theorem dL_law_595 : decode cL_law 595 = .ok (.iaload, 1) := by decide +kernel
theorem dL_law_596 : decode cL_law 596 = .ok (.aload_n 0, 1) := by decide +kernel
theorem dL_law_597 : decode cL_law 597 = .ok (.iload_n 3, 1) := by decide +kernel
theorem dL_law_598 : decode cL_law 598 = .ok (.iconst 3, 1) := by decide +kernel
theorem dL_law_599 : decode cL_law 599 = .ok (.iadd, 1) := by decide +kernel
theorem dL_law_600 : decode cL_law 600 = .ok (.iaload, 1) := by decide +kernel
theorem dL_law_601 : decode cL_law 601 = .ok (.invokevirtual 70, 3) := by decide +kernel
theorem dL_law_604 : decode cL_law 604 = .ok (.aload_n 2, 1) := by decide +kernel
theorem dL_law_605 : decode cL_law 605 = .ok (.aload_n 0, 1) := by decide +kernel
theorem dL_law_606 : decode cL_law 606 = .ok (.iload_n 3, 1) := by decide +kernel
theorem dL_law_607 : decode cL_law 607 = .ok (.iconst 1, 1) := by decide +kernel
theorem dL_law_608 : decode cL_law 608 = .ok (.iadd, 1) := by decide +kernel
theorem dL_law_609 : decode cL_law 609 = .ok (.iaload, 1) := by decide +kernel
theorem dL_law_610 : decode cL_law 610 = .ok (.aload_n 0, 1) := by decide +kernel
theorem dL_law_611 : decode cL_law 611 = .ok (.iload_n 3, 1) := by decide +kernel
theorem dL_law_612 : decode cL_law 612 = .ok (.iconst 2, 1) := by decide +kernel
theorem dL_law_613 : decode cL_law 613 = .ok (.iadd, 1) := by decide +kernel
theorem dL_law_614 : decode cL_law 614 = .ok (.iaload, 1) := by decide +kernel
theorem dL_law_615 : decode cL_law 615 = .ok (.aload_n 0, 1) := by decide +kernel
theorem dL_law_616 : decode cL_law 616 = .ok (.iload_n 3, 1) := by decide +kernel
theorem dL_law_617 : decode cL_law 617 = .ok (.iconst 3, 1) := by decide +kernel
theorem dL_law_618 : decode cL_law 618 = .ok (.iadd, 1) := by decide +kernel
theorem dL_law_619 : decode cL_law 619 = .ok (.iaload, 1) := by decide +kernel
theorem dL_law_620 : decode cL_law 620 = .ok (.invokevirtual 73, 3) := by decide +kernel
theorem dL_law_623 : decode cL_law 623 = .ok (.if_icmp .eq 199, 3) := by decide +kernel
theorem dL_law_626 : decode cL_law 626 = .ok (.iconst 0, 1) := by decide +kernel
theorem dL_law_627 : decode cL_law 627 = .ok (.ireturn, 1) := by decide +kernel
theorem dL_law_628 : decode cL_law 628 = .ok (.aload_n 1, 1) := by decide +kernel
theorem dL_law_629 : decode cL_law 629 = .ok (.aload_n 0, 1) := by decide +kernel
theorem dL_law_630 : decode cL_law 630 = .ok (.iload_n 3, 1) := by decide +kernel
theorem dL_law_631 : decode cL_law 631 = .ok (.iconst 1, 1) := by decide +kernel
theorem dL_law_632 : decode cL_law 632 = .ok (.iadd, 1) := by decide +kernel
theorem dL_law_633 : decode cL_law 633 = .ok (.iaload, 1) := by decide +kernel
theorem dL_law_634 : decode cL_law 634 = .ok (.aload_n 0, 1) := by decide +kernel
theorem dL_law_635 : decode cL_law 635 = .ok (.iload_n 3, 1) := by decide +kernel
theorem dL_law_636 : decode cL_law 636 = .ok (.iconst 2, 1) := by decide +kernel
theorem dL_law_637 : decode cL_law 637 = .ok (.iadd, 1) := by decide +kernel
theorem dL_law_638 : decode cL_law 638 = .ok (.iaload, 1) := by decide +kernel
theorem dL_law_639 : decode cL_law 639 = .ok (.invokevirtual 74, 3) := by decide +kernel
theorem dL_law_642 : decode cL_law 642 = .ok (.aload_n 2, 1) := by decide +kernel
theorem dL_law_643 : decode cL_law 643 = .ok (.aload_n 0, 1) := by decide +kernel
theorem dL_law_644 : decode cL_law 644 = .ok (.iload_n 3, 1) := by decide +kernel
theorem dL_law_645 : decode cL_law 645 = .ok (.iconst 1, 1) := by decide +kernel
theorem dL_law_646 : decode cL_law 646 = .ok (.iadd, 1) := by decide +kernel
theorem dL_law_647 : decode cL_law 647 = .ok (.iaload, 1) := by decide +kernel
theorem dL_law_648 : decode cL_law 648 = .ok (.aload_n 0, 1) := by decide +kernel
theorem dL_law_649 : decode cL_law 649 = .ok (.iload_n 3, 1) := by decide +kernel
theorem dL_law_650 : decode cL_law 650 = .ok (.iconst 2, 1) := by decide +kernel
theorem dL_law_651 : decode cL_law 651 = .ok (.iadd, 1) := by decide +kernel
theorem dL_law_652 : decode cL_law 652 = .ok (.iaload, 1) := by decide +kernel
theorem dL_law_653 : decode cL_law 653 = .ok (.invokevirtual 77, 3) := by decide +kernel
theorem dL_law_656 : decode cL_law 656 = .ok (.if_icmp .eq 166, 3) := by decide +kernel
theorem dL_law_659 : decode cL_law 659 = .ok (.iconst 0, 1) := by decide +kernel
theorem dL_law_660 : decode cL_law 660 = .ok (.ireturn, 1) := by decide +kernel
theorem dL_law_661 : decode cL_law 661 = .ok (.aload_n 1, 1) := by decide +kernel
theorem dL_law_662 : decode cL_law 662 = .ok (.aload_n 0, 1) := by decide +kernel
theorem dL_law_663 : decode cL_law 663 = .ok (.iload_n 3, 1) := by decide +kernel
theorem dL_law_664 : decode cL_law 664 = .ok (.iconst 1, 1) := by decide +kernel
theorem dL_law_665 : decode cL_law 665 = .ok (.iadd, 1) := by decide +kernel
theorem dL_law_666 : decode cL_law 666 = .ok (.iaload, 1) := by decide +kernel
theorem dL_law_667 : decode cL_law 667 = .ok (.aload_n 0, 1) := by decide +kernel
theorem dL_law_668 : decode cL_law 668 = .ok (.iload_n 3, 1) := by decide +kernel
theorem dL_law_669 : decode cL_law 669 = .ok (.iconst 2, 1) := by decide +kernel
theorem dL_law_670 : decode cL_law 670 = .ok (.iadd, 1) := by decide +kernel
theorem dL_law_671 : decode cL_law 671 = .ok (.iaload, 1) := by decide +kernel
theorem dL_law_672 : decode cL_law 672 = .ok (.invokevirtual 78, 3) := by decide +kernel
theorem dL_law_675 : decode cL_law 675 = .ok (.aload_n 2, 1) := by decide +kernel
theorem dL_law_676 : decode cL_law 676 = .ok (.aload_n 0, 1) := by decide +kernel
theorem dL_law_677 : decode cL_law 677 = .ok (.iload_n 3, 1) := by decide +kernel
theorem dL_law_678 : decode cL_law 678 = .ok (.iconst 1, 1) := by decide +kernel
theorem dL_law_679 : decode cL_law 679 = .ok (.iadd, 1) := by decide +kernel
theorem dL_law_680 : decode cL_law 680 = .ok (.iaload, 1) := by decide +kernel
theorem dL_law_681 : decode cL_law 681 = .ok (.aload_n 0, 1) := by decide +kernel
theorem dL_law_682 : decode cL_law 682 = .ok (.iload_n 3, 1) := by decide +kernel
theorem dL_law_683 : decode cL_law 683 = .ok (.iconst 2, 1) := by decide +kernel
theorem dL_law_684 : decode cL_law 684 = .ok (.iadd, 1) := by decide +kernel
theorem dL_law_685 : decode cL_law 685 = .ok (.iaload, 1) := by decide +kernel
theorem dL_law_686 : decode cL_law 686 = .ok (.invokevirtual 81, 3) := by decide +kernel
theorem dL_law_689 : decode cL_law 689 = .ok (.if_icmp .eq 133, 3) := by decide +kernel
theorem dL_law_692 : decode cL_law 692 = .ok (.iconst 0, 1) := by decide +kernel
theorem dL_law_693 : decode cL_law 693 = .ok (.ireturn, 1) := by decide +kernel
theorem dL_law_694 : decode cL_law 694 = .ok (.aload_n 1, 1) := by decide +kernel
theorem dL_law_695 : decode cL_law 695 = .ok (.aload_n 0, 1) := by decide +kernel
theorem dL_law_696 : decode cL_law 696 = .ok (.iload_n 3, 1) := by decide +kernel
theorem dL_law_697 : decode cL_law 697 = .ok (.iconst 1, 1) := by decide +kernel
theorem dL_law_698 : decode cL_law 698 = .ok (.iadd, 1) := by decide +kernel
theorem dL_law_699 : decode cL_law 699 = .ok (.iaload, 1) := by decide +kernel
theorem dL_law_700 : decode cL_law 700 = .ok (.aload_n 0, 1) := by decide +kernel
theorem dL_law_701 : decode cL_law 701 = .ok (.iload_n 3, 1) := by decide +kernel
theorem dL_law_702 : decode cL_law 702 = .ok (.iconst 2, 1) := by decide +kernel
theorem dL_law_703 : decode cL_law 703 = .ok (.iadd, 1) := by decide +kernel
theorem dL_law_704 : decode cL_law 704 = .ok (.iaload, 1) := by decide +kernel
theorem dL_law_705 : decode cL_law 705 = .ok (.invokevirtual 82, 3) := by decide +kernel
theorem dL_law_708 : decode cL_law 708 = .ok (.aload_n 2, 1) := by decide +kernel
theorem dL_law_709 : decode cL_law 709 = .ok (.aload_n 0, 1) := by decide +kernel
theorem dL_law_710 : decode cL_law 710 = .ok (.iload_n 3, 1) := by decide +kernel
theorem dL_law_711 : decode cL_law 711 = .ok (.iconst 1, 1) := by decide +kernel
theorem dL_law_712 : decode cL_law 712 = .ok (.iadd, 1) := by decide +kernel
theorem dL_law_713 : decode cL_law 713 = .ok (.iaload, 1) := by decide +kernel
theorem dL_law_714 : decode cL_law 714 = .ok (.aload_n 0, 1) := by decide +kernel
theorem dL_law_715 : decode cL_law 715 = .ok (.iload_n 3, 1) := by decide +kernel
theorem dL_law_716 : decode cL_law 716 = .ok (.iconst 2, 1) := by decide +kernel
theorem dL_law_717 : decode cL_law 717 = .ok (.iadd, 1) := by decide +kernel
theorem dL_law_718 : decode cL_law 718 = .ok (.iaload, 1) := by decide +kernel
theorem dL_law_719 : decode cL_law 719 = .ok (.invokevirtual 85, 3) := by decide +kernel
theorem dL_law_722 : decode cL_law 722 = .ok (.if_icmp .eq 100, 3) := by decide +kernel
theorem dL_law_725 : decode cL_law 725 = .ok (.iconst 0, 1) := by decide +kernel
theorem dL_law_726 : decode cL_law 726 = .ok (.ireturn, 1) := by decide +kernel
theorem dL_law_727 : decode cL_law 727 = .ok (.aload_n 1, 1) := by decide +kernel
theorem dL_law_728 : decode cL_law 728 = .ok (.aload_n 0, 1) := by decide +kernel
theorem dL_law_729 : decode cL_law 729 = .ok (.iload_n 3, 1) := by decide +kernel
theorem dL_law_730 : decode cL_law 730 = .ok (.iconst 1, 1) := by decide +kernel
theorem dL_law_731 : decode cL_law 731 = .ok (.iadd, 1) := by decide +kernel
theorem dL_law_732 : decode cL_law 732 = .ok (.iaload, 1) := by decide +kernel
theorem dL_law_733 : decode cL_law 733 = .ok (.invokevirtual 86, 3) := by decide +kernel
theorem dL_law_736 : decode cL_law 736 = .ok (.aload_n 2, 1) := by decide +kernel
theorem dL_law_737 : decode cL_law 737 = .ok (.aload_n 0, 1) := by decide +kernel
theorem dL_law_738 : decode cL_law 738 = .ok (.iload_n 3, 1) := by decide +kernel
theorem dL_law_739 : decode cL_law 739 = .ok (.iconst 1, 1) := by decide +kernel
theorem dL_law_740 : decode cL_law 740 = .ok (.iadd, 1) := by decide +kernel
theorem dL_law_741 : decode cL_law 741 = .ok (.iaload, 1) := by decide +kernel
theorem dL_law_742 : decode cL_law 742 = .ok (.invokevirtual 89, 3) := by decide +kernel
theorem dL_law_745 : decode cL_law 745 = .ok (.if_icmp .eq 77, 3) := by decide +kernel
theorem dL_law_748 : decode cL_law 748 = .ok (.iconst 0, 1) := by decide +kernel
theorem dL_law_749 : decode cL_law 749 = .ok (.ireturn, 1) := by decide +kernel
theorem dL_law_750 : decode cL_law 750 = .ok (.aload_n 1, 1) := by decide +kernel
theorem dL_law_751 : decode cL_law 751 = .ok (.aload_n 0, 1) := by decide +kernel
theorem dL_law_752 : decode cL_law 752 = .ok (.iload_n 3, 1) := by decide +kernel
theorem dL_law_753 : decode cL_law 753 = .ok (.iconst 1, 1) := by decide +kernel
theorem dL_law_754 : decode cL_law 754 = .ok (.iadd, 1) := by decide +kernel
theorem dL_law_755 : decode cL_law 755 = .ok (.iaload, 1) := by decide +kernel
theorem dL_law_756 : decode cL_law 756 = .ok (.invokevirtual 90, 3) := by decide +kernel
theorem dL_law_759 : decode cL_law 759 = .ok (.aload_n 2, 1) := by decide +kernel
theorem dL_law_760 : decode cL_law 760 = .ok (.aload_n 0, 1) := by decide +kernel
theorem dL_law_761 : decode cL_law 761 = .ok (.iload_n 3, 1) := by decide +kernel
theorem dL_law_762 : decode cL_law 762 = .ok (.iconst 1, 1) := by decide +kernel
theorem dL_law_763 : decode cL_law 763 = .ok (.iadd, 1) := by decide +kernel
theorem dL_law_764 : decode cL_law 764 = .ok (.iaload, 1) := by decide +kernel
theorem dL_law_765 : decode cL_law 765 = .ok (.invokevirtual 93, 3) := by decide +kernel
theorem dL_law_768 : decode cL_law 768 = .ok (.if_icmp .eq 54, 3) := by decide +kernel
theorem dL_law_771 : decode cL_law 771 = .ok (.iconst 0, 1) := by decide +kernel
theorem dL_law_772 : decode cL_law 772 = .ok (.ireturn, 1) := by decide +kernel
theorem dL_law_773 : decode cL_law 773 = .ok (.aload_n 1, 1) := by decide +kernel
theorem dL_law_774 : decode cL_law 774 = .ok (.invokevirtual 94, 3) := by decide +kernel
theorem dL_law_777 : decode cL_law 777 = .ok (.aload_n 2, 1) := by decide +kernel
theorem dL_law_778 : decode cL_law 778 = .ok (.invokevirtual 97, 3) := by decide +kernel
theorem dL_law_781 : decode cL_law 781 = .ok (.if_icmp .eq 41, 3) := by decide +kernel
theorem dL_law_784 : decode cL_law 784 = .ok (.iconst 0, 1) := by decide +kernel
theorem dL_law_785 : decode cL_law 785 = .ok (.ireturn, 1) := by decide +kernel
theorem dL_law_786 : decode cL_law 786 = .ok (.aload_n 1, 1) := by decide +kernel
theorem dL_law_787 : decode cL_law 787 = .ok (.aload_n 0, 1) := by decide +kernel
theorem dL_law_788 : decode cL_law 788 = .ok (.iload_n 3, 1) := by decide +kernel
theorem dL_law_789 : decode cL_law 789 = .ok (.iconst 1, 1) := by decide +kernel
theorem dL_law_790 : decode cL_law 790 = .ok (.iadd, 1) := by decide +kernel
theorem dL_law_791 : decode cL_law 791 = .ok (.iaload, 1) := by decide +kernel
theorem dL_law_792 : decode cL_law 792 = .ok (.invokevirtual 98, 3) := by decide +kernel
theorem dL_law_795 : decode cL_law 795 = .ok (.aload_n 2, 1) := by decide +kernel
theorem dL_law_796 : decode cL_law 796 = .ok (.aload_n 0, 1) := by decide +kernel
theorem dL_law_797 : decode cL_law 797 = .ok (.iload_n 3, 1) := by decide +kernel
theorem dL_law_798 : decode cL_law 798 = .ok (.iconst 1, 1) := by decide +kernel
theorem dL_law_799 : decode cL_law 799 = .ok (.iadd, 1) := by decide +kernel
theorem dL_law_800 : decode cL_law 800 = .ok (.iaload, 1) := by decide +kernel
theorem dL_law_801 : decode cL_law 801 = .ok (.invokevirtual 101, 3) := by decide +kernel
theorem dL_law_804 : decode cL_law 804 = .ok (.if_icmp .eq 18, 3) := by decide +kernel
theorem dL_law_807 : decode cL_law 807 = .ok (.iconst 0, 1) := by decide +kernel
theorem dL_law_808 : decode cL_law 808 = .ok (.ireturn, 1) := by decide +kernel
theorem dL_law_809 : decode cL_law 809 = .ok (.aload_n 1, 1) := by decide +kernel
theorem dL_law_810 : decode cL_law 810 = .ok (.invokevirtual 102, 3) := by decide +kernel
theorem dL_law_813 : decode cL_law 813 = .ok (.aload_n 2, 1) := by decide +kernel
theorem dL_law_814 : decode cL_law 814 = .ok (.invokevirtual 105, 3) := by decide +kernel
theorem dL_law_817 : decode cL_law 817 = .ok (.if_icmp .eq 5, 3) := by decide +kernel
theorem dL_law_820 : decode cL_law 820 = .ok (.iconst 0, 1) := by decide +kernel
theorem dL_law_821 : decode cL_law 821 = .ok (.ireturn, 1) := by decide +kernel
theorem dL_law_822 : decode cL_law 822 = .ok (.iinc 3 6, 3) := by decide +kernel
theorem dL_law_825 : decode cL_law 825 = .ok (.goto (-807), 3) := by decide +kernel
theorem dL_law_828 : decode cL_law 828 = .ok (.iconst 1, 1) := by decide +kernel
theorem dL_law_829 : decode cL_law 829 = .ok (.ireturn, 1) := by decide +kernel
abbrev vwCl : List vw_C := [(RX0, TX0, 3), (RX1, TX1, 4), (RX2, TX2, 7), (RX3, TX3, 12), (RX4, TX4, 11), (RX5, TX5, 3), (RX6, TX6, 9), (RX7, TX7, 21)]
end
