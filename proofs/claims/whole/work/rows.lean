section
-- ===== PART A: goes FIRST, ahead of the names: the tables' words, and 'selects' of the private methods out of them =====
/-- a private method of a class that the tables say can be made, by its rows of tables_1 -/
def lw_okq (q : MethodName × Nat) : Prop := (q.1.cls ≠ "java/lang/invoke/MethodHandle" ∧ q.1.cls ≠ "java/lang/invoke/VarHandle") ∧ Cond.instantiable q.1.cls q.2 ∈ tables_1 ∧ Cond.privateMethod q.1 ∈ tables_1 ∧ Cond.instanceMethod q.1 ∈ tables_1
theorem lw_p0 : lw_okq (⟨"LapBoard$Car", "fillReaches", "()V"⟩, 4) := ⟨⟨by decide +kernel, by decide +kernel⟩, List.mem_of_getElem? (i := 89) (by decide +kernel), List.mem_of_getElem? (i := 95) (by decide +kernel), List.mem_of_getElem? (i := 96) (by decide +kernel)⟩
theorem lw_p1 : lw_okq (⟨"LapBoard$Car", "pullOf", "(II)I"⟩, 4) := ⟨⟨by decide +kernel, by decide +kernel⟩, List.mem_of_getElem? (i := 89) (by decide +kernel), List.mem_of_getElem? (i := 99) (by decide +kernel), List.mem_of_getElem? (i := 100) (by decide +kernel)⟩
theorem lw_p2 : lw_okq (⟨"LapBoard", "forgetLaps", "()V"⟩, 4) := ⟨⟨by decide +kernel, by decide +kernel⟩, List.mem_of_getElem? (i := 20) (by decide +kernel), List.mem_of_getElem? (i := 320) (by decide +kernel), List.mem_of_getElem? (i := 321) (by decide +kernel)⟩
theorem lw_p3 : lw_okq (⟨"LapBoard$Ways", "solve", "(III)I"⟩, 12) := ⟨⟨by decide +kernel, by decide +kernel⟩, List.mem_of_getElem? (i := 28) (by decide +kernel), List.mem_of_getElem? (i := 419) (by decide +kernel), List.mem_of_getElem? (i := 420) (by decide +kernel)⟩
theorem lw_p4 : lw_okq (⟨"LapBoard$Ways", "fillLimits", "(II)V"⟩, 12) := ⟨⟨by decide +kernel, by decide +kernel⟩, List.mem_of_getElem? (i := 28) (by decide +kernel), List.mem_of_getElem? (i := 423) (by decide +kernel), List.mem_of_getElem? (i := 424) (by decide +kernel)⟩
theorem lw_p5 : lw_okq (⟨"LapBoard$Ways", "fillRests", "(II)V"⟩, 12) := ⟨⟨by decide +kernel, by decide +kernel⟩, List.mem_of_getElem? (i := 28) (by decide +kernel), List.mem_of_getElem? (i := 428) (by decide +kernel), List.mem_of_getElem? (i := 429) (by decide +kernel)⟩
theorem lw_p6 : lw_okq (⟨"LapBoard$Ways", "fillOnward", "(II)V"⟩, 12) := ⟨⟨by decide +kernel, by decide +kernel⟩, List.mem_of_getElem? (i := 28) (by decide +kernel), List.mem_of_getElem? (i := 432) (by decide +kernel), List.mem_of_getElem? (i := 433) (by decide +kernel)⟩
theorem lw_p7 : lw_okq (⟨"LapBoard$Ways", "fillRest", "([II)V"⟩, 12) := ⟨⟨by decide +kernel, by decide +kernel⟩, List.mem_of_getElem? (i := 28) (by decide +kernel), List.mem_of_getElem? (i := 440) (by decide +kernel), List.mem_of_getElem? (i := 441) (by decide +kernel)⟩
theorem lw_p8 : lw_okq (⟨"LapBoard$Ways", "leastLap", "(I)I"⟩, 12) := ⟨⟨by decide +kernel, by decide +kernel⟩, List.mem_of_getElem? (i := 28) (by decide +kernel), List.mem_of_getElem? (i := 444) (by decide +kernel), List.mem_of_getElem? (i := 445) (by decide +kernel)⟩
theorem lw_p9 : lw_okq (⟨"LapBoard$Ways", "trace", "(I)V"⟩, 12) := ⟨⟨by decide +kernel, by decide +kernel⟩, List.mem_of_getElem? (i := 28) (by decide +kernel), List.mem_of_getElem? (i := 448) (by decide +kernel), List.mem_of_getElem? (i := 449) (by decide +kernel)⟩
theorem lw_p10 : lw_okq (⟨"LapBoard$Ways", "begins", "(II)Z"⟩, 12) := ⟨⟨by decide +kernel, by decide +kernel⟩, List.mem_of_getElem? (i := 28) (by decide +kernel), List.mem_of_getElem? (i := 452) (by decide +kernel), List.mem_of_getElem? (i := 453) (by decide +kernel)⟩
theorem lw_p11 : lw_okq (⟨"LapBoard$Ways", "leads", "(III)Z"⟩, 12) := ⟨⟨by decide +kernel, by decide +kernel⟩, List.mem_of_getElem? (i := 28) (by decide +kernel), List.mem_of_getElem? (i := 456) (by decide +kernel), List.mem_of_getElem? (i := 457) (by decide +kernel)⟩
theorem lw_p12 : lw_okq (⟨"LapBoard$Race", "fillFresh", "(I)V"⟩, 12) := ⟨⟨by decide +kernel, by decide +kernel⟩, List.mem_of_getElem? (i := 214) (by decide +kernel), List.mem_of_getElem? (i := 535) (by decide +kernel), List.mem_of_getElem? (i := 536) (by decide +kernel)⟩
theorem lw_p13 : lw_okq (⟨"LapBoard$Race", "stintThenRest", "(III)I"⟩, 12) := ⟨⟨by decide +kernel, by decide +kernel⟩, List.mem_of_getElem? (i := 214) (by decide +kernel), List.mem_of_getElem? (i := 540) (by decide +kernel), List.mem_of_getElem? (i := 541) (by decide +kernel)⟩
theorem lw_p14 : lw_okq (⟨"LapBoard$Race", "fillAfter", "(I)V"⟩, 12) := ⟨⟨by decide +kernel, by decide +kernel⟩, List.mem_of_getElem? (i := 214) (by decide +kernel), List.mem_of_getElem? (i := 545) (by decide +kernel), List.mem_of_getElem? (i := 546) (by decide +kernel)⟩
theorem lw_p15 : lw_okq (⟨"LapBoard$Race", "trace", "(I)V"⟩, 12) := ⟨⟨by decide +kernel, by decide +kernel⟩, List.mem_of_getElem? (i := 214) (by decide +kernel), List.mem_of_getElem? (i := 552) (by decide +kernel), List.mem_of_getElem? (i := 553) (by decide +kernel)⟩
def lw_privs_1 : List (MethodName × Nat) := [(⟨"LapBoard$Car", "fillReaches", "()V"⟩, 4), (⟨"LapBoard$Car", "pullOf", "(II)I"⟩, 4), (⟨"LapBoard", "forgetLaps", "()V"⟩, 4), (⟨"LapBoard$Ways", "solve", "(III)I"⟩, 12), (⟨"LapBoard$Ways", "fillLimits", "(II)V"⟩, 12), (⟨"LapBoard$Ways", "fillRests", "(II)V"⟩, 12), (⟨"LapBoard$Ways", "fillOnward", "(II)V"⟩, 12), (⟨"LapBoard$Ways", "fillRest", "([II)V"⟩, 12), (⟨"LapBoard$Ways", "leastLap", "(I)I"⟩, 12), (⟨"LapBoard$Ways", "trace", "(I)V"⟩, 12), (⟨"LapBoard$Ways", "begins", "(II)Z"⟩, 12), (⟨"LapBoard$Ways", "leads", "(III)Z"⟩, 12), (⟨"LapBoard$Race", "fillFresh", "(I)V"⟩, 12), (⟨"LapBoard$Race", "stintThenRest", "(III)I"⟩, 12), (⟨"LapBoard$Race", "fillAfter", "(I)V"⟩, 12), (⟨"LapBoard$Race", "trace", "(I)V"⟩, 12)]
theorem lw_r1 : ∀ q ∈ lw_privs_1, lw_okq q := List.forall_mem_cons.mpr ⟨lw_p0, List.forall_mem_cons.mpr ⟨lw_p1, List.forall_mem_cons.mpr ⟨lw_p2, List.forall_mem_cons.mpr ⟨lw_p3, List.forall_mem_cons.mpr ⟨lw_p4, List.forall_mem_cons.mpr ⟨lw_p5, List.forall_mem_cons.mpr ⟨lw_p6, List.forall_mem_cons.mpr ⟨lw_p7, List.forall_mem_cons.mpr ⟨lw_p8, List.forall_mem_cons.mpr ⟨lw_p9, List.forall_mem_cons.mpr ⟨lw_p10, List.forall_mem_cons.mpr ⟨lw_p11, List.forall_mem_cons.mpr ⟨lw_p12, List.forall_mem_cons.mpr ⟨lw_p13, List.forall_mem_cons.mpr ⟨lw_p14, List.forall_mem_cons.mpr ⟨lw_p15, fun _ h => absurd h List.not_mem_nil⟩⟩⟩⟩⟩⟩⟩⟩⟩⟩⟩⟩⟩⟩⟩⟩
theorem lw_p16 : lw_okq (⟨"LapBoard$Race", "longestStint", "(II)I"⟩, 12) := ⟨⟨by decide +kernel, by decide +kernel⟩, List.mem_of_getElem? (i := 214) (by decide +kernel), List.mem_of_getElem? (i := 556) (by decide +kernel), List.mem_of_getElem? (i := 557) (by decide +kernel)⟩
theorem lw_p17 : lw_okq (⟨"LapBoard$Race", "nextState", "(II)I"⟩, 12) := ⟨⟨by decide +kernel, by decide +kernel⟩, List.mem_of_getElem? (i := 214) (by decide +kernel), List.mem_of_getElem? (i := 560) (by decide +kernel), List.mem_of_getElem? (i := 561) (by decide +kernel)⟩
theorem lw_p18 : lw_okq (⟨"LapBoard", "stationRefusal", "(I)I"⟩, 4) := ⟨⟨by decide +kernel, by decide +kernel⟩, List.mem_of_getElem? (i := 20) (by decide +kernel), List.mem_of_getElem? (i := 637) (by decide +kernel), List.mem_of_getElem? (i := 638) (by decide +kernel)⟩
theorem lw_p19 : lw_okq (⟨"java/lang/Throwable", "fillInStackTrace", "(I)Ljava/lang/Throwable;"⟩, 6) := ⟨⟨by decide +kernel, by decide +kernel⟩, List.mem_of_getElem? (i := 691) (by decide +kernel), List.mem_of_getElem? (i := 689) (by decide +kernel), List.mem_of_getElem? (i := 690) (by decide +kernel)⟩
theorem lw_p20 : lw_okq (⟨"LapBoardModel", "in", "(III)Z"⟩, 38) := ⟨⟨by decide +kernel, by decide +kernel⟩, List.mem_of_getElem? (i := 798) (by decide +kernel), List.mem_of_getElem? (i := 929) (by decide +kernel), List.mem_of_getElem? (i := 930) (by decide +kernel)⟩
theorem lw_p21 : lw_okq (⟨"LapBoardModel", "changed", "()V"⟩, 38) := ⟨⟨by decide +kernel, by decide +kernel⟩, List.mem_of_getElem? (i := 798) (by decide +kernel), List.mem_of_getElem? (i := 933) (by decide +kernel), List.mem_of_getElem? (i := 934) (by decide +kernel)⟩
theorem lw_p22 : lw_okq (⟨"LapBoardModel", "isStation", "(I)Z"⟩, 38) := ⟨⟨by decide +kernel, by decide +kernel⟩, List.mem_of_getElem? (i := 798) (by decide +kernel), List.mem_of_getElem? (i := 945) (by decide +kernel), List.mem_of_getElem? (i := 946) (by decide +kernel)⟩
theorem lw_p23 : lw_okq (⟨"LapBoardModel", "isSet", "(II)Z"⟩, 38) := ⟨⟨by decide +kernel, by decide +kernel⟩, List.mem_of_getElem? (i := 798) (by decide +kernel), List.mem_of_getElem? (i := 957) (by decide +kernel), List.mem_of_getElem? (i := 958) (by decide +kernel)⟩
theorem lw_p24 : lw_okq (⟨"LapBoardModel", "change", "(II)I"⟩, 38) := ⟨⟨by decide +kernel, by decide +kernel⟩, List.mem_of_getElem? (i := 798) (by decide +kernel), List.mem_of_getElem? (i := 962) (by decide +kernel), List.mem_of_getElem? (i := 963) (by decide +kernel)⟩
theorem lw_p25 : lw_okq (⟨"LapBoardModel", "limitOf", "(III)I"⟩, 38) := ⟨⟨by decide +kernel, by decide +kernel⟩, List.mem_of_getElem? (i := 798) (by decide +kernel), List.mem_of_getElem? (i := 970) (by decide +kernel), List.mem_of_getElem? (i := 971) (by decide +kernel)⟩
theorem lw_p26 : lw_okq (⟨"LapBoardModel", "reachOf", "(I)I"⟩, 38) := ⟨⟨by decide +kernel, by decide +kernel⟩, List.mem_of_getElem? (i := 798) (by decide +kernel), List.mem_of_getElem? (i := 978) (by decide +kernel), List.mem_of_getElem? (i := 979) (by decide +kernel)⟩
theorem lw_p27 : lw_okq (⟨"LapBoardModel", "stay", "(I)V"⟩, 38) := ⟨⟨by decide +kernel, by decide +kernel⟩, List.mem_of_getElem? (i := 798) (by decide +kernel), List.mem_of_getElem? (i := 990) (by decide +kernel), List.mem_of_getElem? (i := 991) (by decide +kernel)⟩
theorem lw_p28 : lw_okq (⟨"LapBoardModel", "quicken", "()V"⟩, 38) := ⟨⟨by decide +kernel, by decide +kernel⟩, List.mem_of_getElem? (i := 798) (by decide +kernel), List.mem_of_getElem? (i := 994) (by decide +kernel), List.mem_of_getElem? (i := 995) (by decide +kernel)⟩
theorem lw_p29 : lw_okq (⟨"LapBoardModel", "timeInAll", "()J"⟩, 38) := ⟨⟨by decide +kernel, by decide +kernel⟩, List.mem_of_getElem? (i := 798) (by decide +kernel), List.mem_of_getElem? (i := 1002) (by decide +kernel), List.mem_of_getElem? (i := 1003) (by decide +kernel)⟩
theorem lw_p30 : lw_okq (⟨"LapBoardModel", "timeAt", "(I)I"⟩, 38) := ⟨⟨by decide +kernel, by decide +kernel⟩, List.mem_of_getElem? (i := 798) (by decide +kernel), List.mem_of_getElem? (i := 1006) (by decide +kernel), List.mem_of_getElem? (i := 1007) (by decide +kernel)⟩
theorem lw_p31 : lw_okq (⟨"LapBoardModel", "timeOf", "(IZI)I"⟩, 38) := ⟨⟨by decide +kernel, by decide +kernel⟩, List.mem_of_getElem? (i := 798) (by decide +kernel), List.mem_of_getElem? (i := 1010) (by decide +kernel), List.mem_of_getElem? (i := 1011) (by decide +kernel)⟩
def lw_privs_2 : List (MethodName × Nat) := [(⟨"LapBoard$Race", "longestStint", "(II)I"⟩, 12), (⟨"LapBoard$Race", "nextState", "(II)I"⟩, 12), (⟨"LapBoard", "stationRefusal", "(I)I"⟩, 4), (⟨"java/lang/Throwable", "fillInStackTrace", "(I)Ljava/lang/Throwable;"⟩, 6), (⟨"LapBoardModel", "in", "(III)Z"⟩, 38), (⟨"LapBoardModel", "changed", "()V"⟩, 38), (⟨"LapBoardModel", "isStation", "(I)Z"⟩, 38), (⟨"LapBoardModel", "isSet", "(II)Z"⟩, 38), (⟨"LapBoardModel", "change", "(II)I"⟩, 38), (⟨"LapBoardModel", "limitOf", "(III)I"⟩, 38), (⟨"LapBoardModel", "reachOf", "(I)I"⟩, 38), (⟨"LapBoardModel", "stay", "(I)V"⟩, 38), (⟨"LapBoardModel", "quicken", "()V"⟩, 38), (⟨"LapBoardModel", "timeInAll", "()J"⟩, 38), (⟨"LapBoardModel", "timeAt", "(I)I"⟩, 38), (⟨"LapBoardModel", "timeOf", "(IZI)I"⟩, 38)]
theorem lw_r2 : ∀ q ∈ lw_privs_2, lw_okq q := List.forall_mem_cons.mpr ⟨lw_p16, List.forall_mem_cons.mpr ⟨lw_p17, List.forall_mem_cons.mpr ⟨lw_p18, List.forall_mem_cons.mpr ⟨lw_p19, List.forall_mem_cons.mpr ⟨lw_p20, List.forall_mem_cons.mpr ⟨lw_p21, List.forall_mem_cons.mpr ⟨lw_p22, List.forall_mem_cons.mpr ⟨lw_p23, List.forall_mem_cons.mpr ⟨lw_p24, List.forall_mem_cons.mpr ⟨lw_p25, List.forall_mem_cons.mpr ⟨lw_p26, List.forall_mem_cons.mpr ⟨lw_p27, List.forall_mem_cons.mpr ⟨lw_p28, List.forall_mem_cons.mpr ⟨lw_p29, List.forall_mem_cons.mpr ⟨lw_p30, List.forall_mem_cons.mpr ⟨lw_p31, fun _ h => absurd h List.not_mem_nil⟩⟩⟩⟩⟩⟩⟩⟩⟩⟩⟩⟩⟩⟩⟩⟩
theorem lw_p32 : lw_okq (⟨"LapBoardModel", "findBest", "()V"⟩, 38) := ⟨⟨by decide +kernel, by decide +kernel⟩, List.mem_of_getElem? (i := 798) (by decide +kernel), List.mem_of_getElem? (i := 1018) (by decide +kernel), List.mem_of_getElem? (i := 1019) (by decide +kernel)⟩
theorem lw_p33 : lw_okq (⟨"LapBoardModel", "work", "(I)J"⟩, 38) := ⟨⟨by decide +kernel, by decide +kernel⟩, List.mem_of_getElem? (i := 798) (by decide +kernel), List.mem_of_getElem? (i := 1022) (by decide +kernel), List.mem_of_getElem? (i := 1023) (by decide +kernel)⟩
theorem lw_p34 : lw_okq (⟨"LapBoardModel", "onTo", "(IIII)J"⟩, 38) := ⟨⟨by decide +kernel, by decide +kernel⟩, List.mem_of_getElem? (i := 798) (by decide +kernel), List.mem_of_getElem? (i := 1027) (by decide +kernel), List.mem_of_getElem? (i := 1028) (by decide +kernel)⟩
theorem lw_p35 : lw_okq (⟨"LapBoardModel", "areNear", "(II)Z"⟩, 38) := ⟨⟨by decide +kernel, by decide +kernel⟩, List.mem_of_getElem? (i := 798) (by decide +kernel), List.mem_of_getElem? (i := 1031) (by decide +kernel), List.mem_of_getElem? (i := 1032) (by decide +kernel)⟩
theorem lw_p36 : lw_okq (⟨"LapBoardModel", "at", "(III)I"⟩, 38) := ⟨⟨by decide +kernel, by decide +kernel⟩, List.mem_of_getElem? (i := 798) (by decide +kernel), List.mem_of_getElem? (i := 1035) (by decide +kernel), List.mem_of_getElem? (i := 1036) (by decide +kernel)⟩
theorem lw_p37 : lw_okq (⟨"LapBoardModel", "firstOn", "(I)J"⟩, 38) := ⟨⟨by decide +kernel, by decide +kernel⟩, List.mem_of_getElem? (i := 798) (by decide +kernel), List.mem_of_getElem? (i := 1039) (by decide +kernel), List.mem_of_getElem? (i := 1040) (by decide +kernel)⟩
theorem lw_p38 : lw_okq (⟨"LapBoardModel", "firstMost", "(I)I"⟩, 38) := ⟨⟨by decide +kernel, by decide +kernel⟩, List.mem_of_getElem? (i := 798) (by decide +kernel), List.mem_of_getElem? (i := 1043) (by decide +kernel), List.mem_of_getElem? (i := 1044) (by decide +kernel)⟩
theorem lw_p39 : lw_okq (⟨"LapBoardModel", "leads", "(IIJ)Z"⟩, 38) := ⟨⟨by decide +kernel, by decide +kernel⟩, List.mem_of_getElem? (i := 798) (by decide +kernel), List.mem_of_getElem? (i := 1047) (by decide +kernel), List.mem_of_getElem? (i := 1048) (by decide +kernel)⟩
theorem lw_p40 : lw_okq (⟨"LapBoardModel", "goOn", "(II)V"⟩, 38) := ⟨⟨by decide +kernel, by decide +kernel⟩, List.mem_of_getElem? (i := 798) (by decide +kernel), List.mem_of_getElem? (i := 1051) (by decide +kernel), List.mem_of_getElem? (i := 1052) (by decide +kernel)⟩
theorem lw_p41 : lw_okq (⟨"LapBoardModel", "lapBy", "(I)J"⟩, 38) := ⟨⟨by decide +kernel, by decide +kernel⟩, List.mem_of_getElem? (i := 798) (by decide +kernel), List.mem_of_getElem? (i := 1059) (by decide +kernel), List.mem_of_getElem? (i := 1060) (by decide +kernel)⟩
theorem lw_p42 : lw_okq (⟨"LapBoardModel", "findGains", "()V"⟩, 38) := ⟨⟨by decide +kernel, by decide +kernel⟩, List.mem_of_getElem? (i := 798) (by decide +kernel), List.mem_of_getElem? (i := 1075) (by decide +kernel), List.mem_of_getElem? (i := 1076) (by decide +kernel)⟩
theorem lw_p43 : lw_okq (⟨"LapBoardModel", "unitsOf", "(I)I"⟩, 38) := ⟨⟨by decide +kernel, by decide +kernel⟩, List.mem_of_getElem? (i := 798) (by decide +kernel), List.mem_of_getElem? (i := 1079) (by decide +kernel), List.mem_of_getElem? (i := 1080) (by decide +kernel)⟩
theorem lw_p44 : lw_okq (⟨"LapBoardModel", "lapOn", "(II)J"⟩, 38) := ⟨⟨by decide +kernel, by decide +kernel⟩, List.mem_of_getElem? (i := 798) (by decide +kernel), List.mem_of_getElem? (i := 1112) (by decide +kernel), List.mem_of_getElem? (i := 1113) (by decide +kernel)⟩
theorem lw_p45 : lw_okq (⟨"LapBoardModel", "findPlan", "(I)J"⟩, 38) := ⟨⟨by decide +kernel, by decide +kernel⟩, List.mem_of_getElem? (i := 798) (by decide +kernel), List.mem_of_getElem? (i := 1120) (by decide +kernel), List.mem_of_getElem? (i := 1121) (by decide +kernel)⟩
theorem lw_p46 : lw_okq (⟨"LapBoardModel", "findRace", "(I)V"⟩, 38) := ⟨⟨by decide +kernel, by decide +kernel⟩, List.mem_of_getElem? (i := 798) (by decide +kernel), List.mem_of_getElem? (i := 1124) (by decide +kernel), List.mem_of_getElem? (i := 1125) (by decide +kernel)⟩
theorem lw_p47 : lw_okq (⟨"LapBoardModel", "behind", "(IIIII)J"⟩, 38) := ⟨⟨by decide +kernel, by decide +kernel⟩, List.mem_of_getElem? (i := 798) (by decide +kernel), List.mem_of_getElem? (i := 1128) (by decide +kernel), List.mem_of_getElem? (i := 1129) (by decide +kernel)⟩
def lw_privs_3 : List (MethodName × Nat) := [(⟨"LapBoardModel", "findBest", "()V"⟩, 38), (⟨"LapBoardModel", "work", "(I)J"⟩, 38), (⟨"LapBoardModel", "onTo", "(IIII)J"⟩, 38), (⟨"LapBoardModel", "areNear", "(II)Z"⟩, 38), (⟨"LapBoardModel", "at", "(III)I"⟩, 38), (⟨"LapBoardModel", "firstOn", "(I)J"⟩, 38), (⟨"LapBoardModel", "firstMost", "(I)I"⟩, 38), (⟨"LapBoardModel", "leads", "(IIJ)Z"⟩, 38), (⟨"LapBoardModel", "goOn", "(II)V"⟩, 38), (⟨"LapBoardModel", "lapBy", "(I)J"⟩, 38), (⟨"LapBoardModel", "findGains", "()V"⟩, 38), (⟨"LapBoardModel", "unitsOf", "(I)I"⟩, 38), (⟨"LapBoardModel", "lapOn", "(II)J"⟩, 38), (⟨"LapBoardModel", "findPlan", "(I)J"⟩, 38), (⟨"LapBoardModel", "findRace", "(I)V"⟩, 38), (⟨"LapBoardModel", "behind", "(IIIII)J"⟩, 38)]
theorem lw_r3 : ∀ q ∈ lw_privs_3, lw_okq q := List.forall_mem_cons.mpr ⟨lw_p32, List.forall_mem_cons.mpr ⟨lw_p33, List.forall_mem_cons.mpr ⟨lw_p34, List.forall_mem_cons.mpr ⟨lw_p35, List.forall_mem_cons.mpr ⟨lw_p36, List.forall_mem_cons.mpr ⟨lw_p37, List.forall_mem_cons.mpr ⟨lw_p38, List.forall_mem_cons.mpr ⟨lw_p39, List.forall_mem_cons.mpr ⟨lw_p40, List.forall_mem_cons.mpr ⟨lw_p41, List.forall_mem_cons.mpr ⟨lw_p42, List.forall_mem_cons.mpr ⟨lw_p43, List.forall_mem_cons.mpr ⟨lw_p44, List.forall_mem_cons.mpr ⟨lw_p45, List.forall_mem_cons.mpr ⟨lw_p46, List.forall_mem_cons.mpr ⟨lw_p47, fun _ h => absurd h List.not_mem_nil⟩⟩⟩⟩⟩⟩⟩⟩⟩⟩⟩⟩⟩⟩⟩⟩
theorem lw_p48 : lw_okq (⟨"LapBoardModel", "spot", "(IIII)I"⟩, 38) := ⟨⟨by decide +kernel, by decide +kernel⟩, List.mem_of_getElem? (i := 798) (by decide +kernel), List.mem_of_getElem? (i := 1132) (by decide +kernel), List.mem_of_getElem? (i := 1133) (by decide +kernel)⟩
theorem lw_p49 : lw_okq (⟨"LapBoardModel", "isShelf", "(I)Z"⟩, 38) := ⟨⟨by decide +kernel, by decide +kernel⟩, List.mem_of_getElem? (i := 798) (by decide +kernel), List.mem_of_getElem? (i := 1152) (by decide +kernel), List.mem_of_getElem? (i := 1153) (by decide +kernel)⟩
theorem lw_p50 : lw_okq (⟨"LapBoardModel", "wipe", "(I)V"⟩, 38) := ⟨⟨by decide +kernel, by decide +kernel⟩, List.mem_of_getElem? (i := 798) (by decide +kernel), List.mem_of_getElem? (i := 1156) (by decide +kernel), List.mem_of_getElem? (i := 1157) (by decide +kernel)⟩
theorem lw_p51 : lw_okq (⟨"LapBoardModel", "lacksStation", "(I)I"⟩, 38) := ⟨⟨by decide +kernel, by decide +kernel⟩, List.mem_of_getElem? (i := 798) (by decide +kernel), List.mem_of_getElem? (i := 1176) (by decide +kernel), List.mem_of_getElem? (i := 1177) (by decide +kernel)⟩
def lw_privs_4 : List (MethodName × Nat) := [(⟨"LapBoardModel", "spot", "(IIII)I"⟩, 38), (⟨"LapBoardModel", "isShelf", "(I)Z"⟩, 38), (⟨"LapBoardModel", "wipe", "(I)V"⟩, 38), (⟨"LapBoardModel", "lacksStation", "(I)I"⟩, 38)]
theorem lw_r4 : ∀ q ∈ lw_privs_4, lw_okq q := List.forall_mem_cons.mpr ⟨lw_p48, List.forall_mem_cons.mpr ⟨lw_p49, List.forall_mem_cons.mpr ⟨lw_p50, List.forall_mem_cons.mpr ⟨lw_p51, fun _ h => absurd h List.not_mem_nil⟩⟩⟩⟩
def lw_privs : List (MethodName × Nat) := lw_privs_1 ++ (lw_privs_2 ++ (lw_privs_3 ++ (lw_privs_4)))
def lw_tbl : List Cond := k2_sels lw_privs ++ tables_1
theorem lw_privs_ok : ∀ q ∈ lw_privs, lw_okq q := by
  show ∀ q ∈ lw_privs_1 ++ (lw_privs_2 ++ (lw_privs_3 ++ (lw_privs_4))), lw_okq q
  exact List.forall_mem_append.mpr ⟨lw_r1, List.forall_mem_append.mpr ⟨lw_r2, List.forall_mem_append.mpr ⟨lw_r3, lw_r4⟩⟩⟩
end
section
/-- what the printed law of 'new T[n][m]' asks and the kit does not name: arrays over arrays of ty -/
def va_AOA (ty : FieldType) (U : State) : Prop := (Cond.arrayOver (.array ty)).before #[] U = true
theorem va_AOA.use {ty : FieldType} {A : Array Value} {U : State} (h : va_AOA ty U) : (Cond.arrayOver (.array ty)).before A U = true := h
/-! ===== BEGIN words of one list among another's, by their places ===== -/
theorem goodIn_r {big : List Cond} (ws : List Cond) (ps : List Nat) (hp : ws = ps.filterMap (fun i => big[i]?)) (h : ws.all goodWord = true) : GoodIn big ws := by
  intro w hw
  have h1 := List.all_eq_true.mp h w hw
  rw [hp] at hw
  obtain ⟨i, -, hi⟩ := List.mem_filterMap.mp hw
  have hm : w ∈ big := by first | exact List.mem_of_getElem? hi | exact List.getElem?_mem hi
  exact ⟨hm, good_of_word h1⟩
theorem goodIn_app {big a b : List Cond} (ha : GoodIn big a) (hb : GoodIn big b) : GoodIn big (a ++ b) := fun w h => (List.mem_append.mp h).elim (ha w) (hb w)
theorem goodIn_ca {big a b : List Cond} {c : Cond} (ha : GoodIn big (c :: a)) (hb : GoodIn big b) : GoodIn big (c :: (a ++ b)) := fun w h => (List.mem_cons.mp h).elim (fun e => ha w (List.mem_cons.mpr (Or.inl e))) (fun h => (List.mem_append.mp h).elim (fun h => ha w (List.mem_cons.mpr (Or.inr h))) (hb w))
theorem goodIn_sub {big ws : List Cond} (hm : ∀ w ∈ ws, w ∈ big) (h : ws.all goodWord = true) : GoodIn big ws := fun w hw => ⟨hm w hw, good_of_word (List.all_eq_true.mp h w hw)⟩
/-! ===== END ===== -/

/-! ===== BEGIN new T[n][m]: the outer array a place, the inner ones among the pooled ===== -/
/-- f, but v at every address of l -/
def vr_up {α : Type} (f : Nat → α) (l : List Nat) (v : α) : Nat → α := fun a => if a ∈ l then v else f a
theorem vr_up_in {α : Type} {f : Nat → α} {l : List Nat} {v : α} {a : Nat} (h : a ∈ l) : vr_up f l v a = v := if_pos h
theorem vr_up_ne {α : Type} {f : Nat → α} {l : List Nat} {v : α} {a : Nat} (h : a ∉ l) : vr_up f l v a = f a := if_neg h
theorem vr_rows {L l : List Nat} {f : Nat → va_E} {e : va_E} (h : ∀ a, a ∈ l → a ∉ L) : va_pl L f ++ l.map (fun a => (a, e)) = va_pl (L ++ l) (vr_up f l e) := by
  unfold va_pl
  rw [List.map_append]
  congr 1
  · apply List.map_congr_left
    intro a ha
    rw [vr_up_ne (fun q => h a q ha)]
  · apply List.map_congr_left
    intro a ha
    rw [vr_up_in ha]
theorem vr_lay {X rows : va_W} {x : Nat × va_E} {pl : va_W} {D : va_G} {cl : List vw_C} {H : Heap} (hP : va_P D cl (((X ++ pl) ++ [x]) ++ rows) H) : va_P D cl ((X ++ [x]) ++ (pl ++ rows)) H := by
  rw [List.append_assoc (X ++ pl)] at hP
  have h := va_P.swap hP
  rw [← List.append_assoc X] at h
  have h2 := va_P.swap h
  rw [List.append_assoc (X ++ [x])] at h2
  exact h2
theorem vr_layD {X rows : va_W} {x : Nat × va_E} {pl : va_W} {A : Nat → Prop} (hD : va_D A (((X ++ pl) ++ [x]) ++ rows)) : va_D A ((X ++ [x]) ++ (pl ++ rows)) := by
  rw [List.append_assoc (X ++ pl)] at hD
  have h := va_D.swap hD
  rw [← List.append_assoc X] at h
  have h2 := va_D.swap h
  rw [List.append_assoc (X ++ [x])] at h2
  exact h2
theorem vr_outer (c : ClassId) (N h0 : Nat) : ∀ i : Nat, Jvm.Free.Multi.outerC c N h0 i = arrV c N (fun j => va_rf (if j < i then some (h0 + 1 + j) else none))
  | 0 => by
    show ({ cls := c, slots := Array.replicate N .null, vm := .none } : Cell) = _
    rw [arrV_new]
    refine congrArg (arrV c N) (funext fun j => ?_)
    simp [va_rf]
  | i + 1 => by
    show (Jvm.Free.Multi.outerC c N h0 i).setSlot i (.ref (h0 + 1 + i)) = _
    rw [vr_outer c N h0 i, arrV_store]
    refine congrArg (arrV c N) (funext fun j => ?_)
    by_cases e : j = i
    · subst e
      simp [updV, va_rf]
    · by_cases h : j < i
      · simp [updV, e, h, Nat.lt_succ_of_lt h]
      · simp [updV, e, h, show ¬ j < i + 1 by omega]
section VGM
variable {p : Program} {l : Launch} {e : Env} {R : Room} {s : State} {m : MethodId} {args : Array Value} {below : List Frame} {meth : Method} {c : Code} {H : Heap} {locs : List Loc} {cells slots : Nat} {Q : State → Prop}
variable {cc : ByteArray} {pc : Nat} {ls : Array Slot} {rest : List Value} {D : va_G} {cl : List vw_C} {A : Nat → Prop} {a : Nat} {tys : List (ClassId × FieldType)} {ws : va_W} {H0 : Heap}
theorem va_mna {X : va_W} {L : List Nat} {f : Nat → va_E} {cc : ByteArray} (hexec : p.tables.exec = Jvm.exec) (hb : c.code = cc) {own : String} {index : Nat} {ty : FieldType} {cy : ClassId} (hown : s.vm.findClass own = some m.cls) (hclink : (Cond.classLink own index ("[" ++ (FieldType.array ty).toString)).before args s = true) (hover : va_AOA ty s) (harr : (Cond.arrayClass ty).before args s = true) (hcy : s.vm.findClass (FieldType.array ty).toString = some cy)
    (hK : va_K D cl tys s) (hP : va_P D cl (X ++ va_pl L f) H) (hD : va_D A (X ++ va_pl L f)) (hS : va_S A H0 H locs) (hA : ∀ q, H0.size ≤ q → A q) {n k : Int32} {N' K' : Nat} {z : vp_A} (hn : ¬ n < 0) (hk : ¬ k < 0) (hN : n.toNatClampNeg = N') (hM : k.toNatClampNeg = K')
    (hb1 : N' * 4 ≤ 536870912) (hb2 : K' * componentBytes ty ≤ 536870912) (hb3 : K' ≤ 536870912) (hdf : fits ty (defaultValue ty) = true) (hdd : (defaultValue ty).isDefault = true) (hcells : cells + (1 + N') ≤ R.cells) (hslots : slots + (N' + N' * K') ≤ R.slots) (hz : ∀ c : ClassId, Jvm.Free.Multi.innerC c K' (defaultValue ty) = vp_cell c z) (hdg : decode cc pc = .ok (.multianewarray index 2, 4))
    (kk : ∀ (q : Nat) (r : Nat → Nat) (cA : ClassId) (H1 : Heap), (∀ i j : Nat, i < N' → j < N' → r i = r j → i = j) → (∀ i : Nat, i < N' → r i ∉ L) → va_K D cl (tys ++ [(cA, .array ty)]) s →
      va_P D cl ((X ++ [(q, .inl (cA, N', .inr (.inr (.inr (.inr (fun i => if i < N' then some (r i) else none))))))]) ++ va_pl (L ++ (List.range N').map r) (vr_up f ((List.range N').map r) (.inl (cy, z)))) H1 → va_D A ((X ++ [(q, .inl (cA, N', .inr (.inr (.inr (.inr (fun i => if i < N' then some (r i) else none))))))]) ++ va_pl (L ++ (List.range N').map r) (vr_up f ((List.range N').map r) (.inl (cy, z)))) → va_S A H0 H1 locs →
      W p l e R s m args below meth c H1 locs (cells + 1 + N') (slots + N' + N' * K') Q (F0 m (pc + 4) ls (.ref q :: rest))) : W p l e R s m args below meth c H locs cells slots Q (F0 m pc ls (.int k :: .int n :: rest)) := by
  subst hN
  subst hM
  intro T hT Xs
  obtain ⟨vm₁, cA, comp, -, fA, fC, hO, -, X', step⟩ := Xs.multianewarray2F hexec hown hclink (va_AOA.use hover) harr (g := F0 m pc ls (.int k :: .int n :: rest)) rfl (by rw [hb]; exact hdg) rfl hn hk hb1 hb2 hb3 hdf hdd hcells hslots
  have ec : some cy = some comp := hcy.symm.trans fC
  cases ec
  generalize hF : Jvm.Free.Multi.fill (T.setVm vm₁) cA cy n.toNatClampNeg k.toNatClampNeg (defaultValue ty) n.toNatClampNeg = F at X' step
  have hTh : (T.setVm vm₁).heap = H := hT
  obtain ⟨f1, f2, -, -⟩ := Jvm.Free.Multi.fill_facts (T.setVm vm₁) cA cy n.toNatClampNeg k.toNatClampNeg (defaultValue ty) n.toNatClampNeg
  rw [hF, hTh] at f1 f2
  have hold : ∀ x : Nat, x < H.size → F.heap[x]? = H[x]? := fun x hx => by
    have := Jvm.Free.Multi.fill_old (T.setVm vm₁) cA cy n.toNatClampNeg k.toNatClampNeg (defaultValue ty) (a := x) (by rw [hTh]; exact hx) n.toNatClampNeg
    rw [hF, hTh] at this
    exact this
  have hrow : ∀ j : Nat, j < n.toNatClampNeg → F.heap[H.size + 1 + j]? = some (vp_cell cy z) := fun j hj => by
    have := Jvm.Free.Multi.fill_inner (T.setVm vm₁) cA cy n.toNatClampNeg k.toNatClampNeg (defaultValue ty) n.toNatClampNeg j hj
    rw [hF, hTh, hz] at this
    exact this
  have hout : Jvm.Free.Multi.outerC cA n.toNatClampNeg H.size n.toNatClampNeg = vp_cell cA (n.toNatClampNeg, .inr (.inr (.inr (.inr (fun i => if i < n.toNatClampNeg then some (H.size + 1 + i) else none))))) := by
    rw [vp_cell_q]
    exact vr_outer cA n.toNatClampNeg H.size n.toNatClampNeg
  rw [hout] at f2
  have hlt : ∀ a, a ∈ L → a < H.size := fun a ha => by
    obtain ⟨k9, hk9⟩ := va_pl_get (X := X) (f := f) ha
    exact (hP k9 _ hk9).lt
  have hnl : ∀ i : Nat, i < n.toNatClampNeg → H.size + 1 + i ∉ L := fun i _ h => by
    have := hlt _ h
    omega
  have hnm : ∀ a, a ∈ (List.range n.toNatClampNeg).map (fun i => H.size + 1 + i) → a ∉ L := fun a ha h => by
    obtain ⟨i, -, rfl⟩ := List.mem_map.mp ha
    have := hlt _ h
    omega
  have hP0 : va_P D cl (X ++ va_pl L f) F.heap := hP.kept (fun k9 x hx => hold x.1 ((hP k9 x hx).lt))
  have hP1 : va_P D cl ((X ++ va_pl L f) ++ [(H.size, .inl (cA, n.toNatClampNeg, .inr (.inr (.inr (.inr (fun i => if i < n.toNatClampNeg then some (H.size + 1 + i) else none))))))]) F.heap := hP0.app (fun k9 x hx => by
    have h0 : k9 < 1 := (List.getElem?_eq_some_iff.mp hx).1
    rw [show k9 = 0 by omega] at hx
    cases hx
    exact f2)
  have hP2 : va_P D cl (((X ++ va_pl L f) ++ [(H.size, .inl (cA, n.toNatClampNeg, .inr (.inr (.inr (.inr (fun i => if i < n.toNatClampNeg then some (H.size + 1 + i) else none))))))]) ++ ((List.range n.toNatClampNeg).map (fun i => H.size + 1 + i)).map (fun a => (a, .inl (cy, z)))) F.heap := hP1.app (fun k9 x hx => by
    obtain ⟨a, ha, rfl⟩ := List.mem_map.mp (List.mem_of_getElem? hx)
    obtain ⟨i, hi, rfl⟩ := List.mem_map.mp ha
    exact hrow i (List.mem_range.mp hi))
  have hD2 : va_D A (((X ++ va_pl L f) ++ [(H.size, .inl (cA, n.toNatClampNeg, .inr (.inr (.inr (.inr (fun i => if i < n.toNatClampNeg then some (H.size + 1 + i) else none))))))]) ++ ((List.range n.toNatClampNeg).map (fun i => H.size + 1 + i)).map (fun a => (a, .inl (cy, z)))) := by
    have hD1 := hD.push (e := .inl (cA, n.toNatClampNeg, .inr (.inr (.inr (.inr (fun i => if i < n.toNatClampNeg then some (H.size + 1 + i) else none)))))) hP rfl (hA _ hS.1)
    generalize hW1 : (X ++ va_pl L f) ++ [(H.size, .inl (cA, n.toNatClampNeg, .inr (.inr (.inr (.inr (fun i => if i < n.toNatClampNeg then some (H.size + 1 + i) else none))))))] = W1 at hD1 hP1 ⊢
    have hle : ∀ (k9 : Nat) (x : Nat × va_E), W1[k9]? = some x → x.1 ≤ H.size := fun k9 x hx => by
      rw [← hW1] at hx
      by_cases hl : k9 < (X ++ va_pl L f).length
      · rw [List.getElem?_append_left hl] at hx
        exact Nat.le_of_lt ((hP k9 x hx).lt)
      · rw [List.getElem?_append_right (by omega)] at hx
        have h0 : k9 - (X ++ va_pl L f).length < 1 := (List.getElem?_eq_some_iff.mp hx).1
        rw [show k9 - (X ++ va_pl L f).length = 0 by omega] at hx
        cases hx
        exact Nat.le_refl _
    have hr : ∀ (k9 : Nat) (x : Nat × va_E), (((List.range n.toNatClampNeg).map (fun i => H.size + 1 + i)).map (fun a => ((a, .inl (cy, z)) : Nat × va_E)))[k9]? = some x → x.1 = H.size + 1 + k9 := fun k9 x hx => by
      rw [List.getElem?_map, List.getElem?_map] at hx
      by_cases h9 : k9 < n.toNatClampNeg
      · rw [List.getElem?_range h9] at hx
        cases hx
        rfl
      · have hn0 : (List.range n.toNatClampNeg)[k9]? = none := List.getElem?_eq_none (by rw [List.length_range]; omega)
        rw [hn0] at hx
        cases hx
    refine ⟨fun i j x y hi hj hxy => ?_, fun k9 x hx => ?_⟩
    · by_cases h1 : i < W1.length <;> by_cases h2 : j < W1.length
      · rw [List.getElem?_append_left h1] at hi
        rw [List.getElem?_append_left h2] at hj
        exact hD1.1 i j x y hi hj hxy
      · rw [List.getElem?_append_left h1] at hi
        rw [List.getElem?_append_right (by omega)] at hj
        have := hle _ _ hi
        have := hr _ _ hj
        omega
      · rw [List.getElem?_append_right (by omega)] at hi
        rw [List.getElem?_append_left h2] at hj
        have := hle _ _ hj
        have := hr _ _ hi
        omega
      · rw [List.getElem?_append_right (by omega)] at hi hj
        have := hr _ _ hi
        have := hr _ _ hj
        omega
    · by_cases h1 : k9 < W1.length
      · rw [List.getElem?_append_left h1] at hx
        exact hD1.2 k9 x hx
      · rw [List.getElem?_append_right (by omega)] at hx
        have := hr _ _ hx
        exact hA _ (by have := hS.1; omega)
  have hAr : ArrOfT s cA (.array ty) := fun N9 z9 => by
    obtain ⟨-, k9, hk9, cm9, hkk9⟩ := (hO 0 0 0).1
    exact ⟨(fun q hq => by cases hq), k9, hk9, cm9, hkk9⟩
  have hK2 : va_K D cl (tys ++ [(cA, .array ty)]) s := ⟨hK.1, fun k9 x hx => by
    by_cases hl : k9 < tys.length
    · rw [List.getElem?_append_left hl] at hx
      exact hK.2 k9 x hx
    · rw [List.getElem?_append_right (by omega)] at hx
      have h0 : k9 - tys.length < 1 := (List.getElem?_eq_some_iff.mp hx).1
      rw [show k9 - tys.length = 0 by omega] at hx
      cases hx
      exact ⟨hAr, fA⟩⟩
  obtain ⟨t, a1, b1⟩ := kk H.size (fun i => H.size + 1 + i) cA F.heap (fun i j _ _ h => by have h9 : H.size + 1 + i = H.size + 1 + j := h; omega) hnl hK2 (by rw [← vr_rows hnm]; exact vr_lay hP2) (by rw [← vr_rows hnm]; exact vr_layD hD2) ⟨by rw [f1]; have := hS.1; omega, fun x h1 h2 => (hold x (Nat.lt_of_lt_of_le h1 hS.1)).trans (hS.2.1 x h1 h2), hS.2.2⟩ F rfl X'
  refine ⟨t, step t ?_, b1⟩
  have e : T.heap.size = H.size := by rw [hT]
  rw [e]
  exact a1
end VGM
/-! ===== END ===== -/

/-! ===== BEGIN exceptions that leave a method, and their catching by the caller (launches without stack traces) ===== -/
section VXA
/-! The laws vx_back, vx_callV, vx_callS, vx_callSW, vx_throw0, vx_throwS follow proofs of the library, with one case more: JvmDerived/Free/Laws.lean (Back.of_free), Shelf42/LK1.lean (callV, callS), Shelf/KitTraced.lean (throwNew0V, throwNewS). -/
/-- where a method has thrown q: the class by its name, the cell, what was written, the world -/
def vx_T (XC : String → State → State → Prop) (st : State) (q : Addr) (t : State) (mc ms : Nat) (free : Addr → Prop) : Prop :=
  ∃ (E : String) (ce : Cell) (L : List Loc), XC E st t ∧ t.heap[q]? = some ce ∧ ce.vm = .none ∧ st.vm.findClass E = some ce.cls ∧ st.WarmedH t.vm ∧ st.sameButNew ({ t with vm := st.vm } : State) L mc ms ∧ ∀ z ∈ L, free z.base
def vx_Q (Qc : Array Value → State → Outcome → State → Prop) (XC : String → State → State → Prop) (mc ms : Nat) (free : Addr → Prop) : Array Value → State → Outcome → State → Prop := fun a st o t =>
  (Qc a st o t ∧ ∃ L, FrameEnd st o t L mc ms ∧ ∀ q ∈ L, free q.base) ∨ ∃ q, o = .threw q ∧ vx_T XC st q t mc ms free
/-- a callee that returns or throws -/
def vx_Met (l : Launch) (y : MethodName) (ws : List Cond) (rm : Room) (Pc : Array Value → State → Prop) (Qc : Array Value → State → Outcome → State → Prop) (XC : String → State → State → Prop) (mc ms : Nat) (free : Addr → Prop) : Prop :=
  MetFree l y (headSpec ws rm) Pc (fun _ _ _ _ _ => True) (vx_Q Qc XC mc ms free)
def vx_Post (XC : String → State → State → Prop) (mc ms : Nat) (free : Addr → Prop) : Pt → Array Value → Addr → Pt → Prop := fun A a q B =>
  ∃ (g : JFrame) (mk : MethodId) (t : State) (L : List Loc) (E : String) (ce : Cell), B.U.heap = t.heap ∧ B.U.vm = t.vm ∧ XC E (A.U.calling g mk a) t ∧ t.heap[q]? = some ce ∧ ce.vm = .none ∧ A.U.vm.findClass E = some ce.cls ∧ B.locs = A.locs ++ L ∧ (∀ z ∈ L, free z.base) ∧ B.cells = A.cells + mc ∧ B.slots = A.slots + ms
def vx_Back (l : Launch) (R : Room) (p : Program) (e : Env) (below : List Frame) (s : State) (sargs : Array Value) (y : MethodName) (len W9 : Nat)
    (Pre : Pt → Array Value → Prop) (Post : Pt → Array Value → Option Value → Pt → Prop) (PostX : Pt → Array Value → Addr → Pt → Prop) : Prop :=
  ∀ (m : MethodId) (meth : Method) (c : Code) (A : Pt) (g : JFrame) (ig : Instr) (mk : MethodId) (a : Array Value),
    Stand p l e R s m sargs below meth c A.U A.locs A.cells A.slots → g.method = m → g.locals.size = c.maxLocals → decode c.code g.pc = .ok (ig, len) →
    2 * g.monitorRoom + (g.stack.map fun v => v.category).sum ≤ W9 → A.U.methodNamed? y = some mk → Pre A a →
    (∃ (v : Option Value) (B : Pt), Stand p l e R s m sargs below meth c B.U B.locs B.cells B.slots ∧ Post A a v B ∧
      Steps p.tables e below (doInvoke e (A.U.setTop g) [] mk a).1 (B.U.setTop { g with pc := g.pc + len, stack := v.toList ++ g.stack })) ∨
    (∃ (q : Addr) (B : Pt), Stand p l e R s m sargs below meth c B.U B.locs B.cells B.slots ∧ PostX A a q B ∧
      Steps p.tables e below (doInvoke e (A.U.setTop g) [] mk a).1 ((B.U.setTop g).pushFrame (.throwing q)))
section Payer
variable {l : Launch} {R : Room} {p : Program} {e : Env} {below : List Frame} {s : State} {sargs : Array Value} {y : MethodName} {len W9 : Nat}
theorem vx_back {ws : List Cond} {rm : Room} {Pc : Array Value → State → Prop} {Qc : Array Value → State → Outcome → State → Prop} {XC : String → State → State → Prop} {mc ms : Nat} {free : Addr → Prop} {bytes : ByteArray} {maxL : Nat} {ret : Option FieldType}
    (hM : vx_Met l y ws rm Pc Qc XC mc ms free) (hblind : FrameBlind Pc) (hrc : rm.cells = mc) (hrs : rm.slots = ms)
    (hframes : rm.frames + 1 ≤ R.frames) (hlocals : W9 + (maxL + 11) + rm.locals ≤ R.locals)
    (hws : ∀ w ∈ ws, ∀ a' U, s.WarmedH U.vm → w.before a' U = true) (hcode : Cond.code y bytes maxL ret ∈ ws) (hinit : ∀ a' U, s.WarmedH U.vm → (Cond.initialized y.cls).before a' U = true) :
    vx_Back l R p e below s sargs y len W9 (PreOf R mc ms Pc) (PostOf Qc mc ms free) (vx_Post XC mc ms free) := by
  intro m meth c A g ig mk a X hg hsize hdg hW hn hp
  have h1 : (headSpec ws rm).pre.before a A.U = true := atoms_intro fun w hw => hws w hw _ _ X.warmed
  have h2 : (Cond.code y bytes maxL ret).before a A.U = true := hws _ hcode _ _ X.warmed
  have h3 : (Cond.initialized y.cls).before a A.U = true := hinit _ _ X.warmed
  have h4 : A.cells + (headSpec ws rm).room.cells ≤ R.cells := by rw [show (headSpec ws rm).room.cells = mc from hrc]; exact hp.1
  have h5 : A.slots + (headSpec ws rm).room.slots ≤ R.slots := by rw [show (headSpec ws rm).room.slots = ms from hrs]; exact hp.2.1
  have hPc : Pc a (A.U.calling g mk a) := hblind _ _ _ _ hp.2.2
  obtain ⟨U, Ls, c0, s0⟩ := A
  dsimp only [Pt.U, Pt.locs, Pt.cells, Pt.slots] at h1 h2 h3 h4 h5 X hn hPc ⊢
  obtain ⟨methY, cY, hmY, hcY, -, hlY, -, -, -, -⟩ := Cond.code_spec hn h2
  obtain ⟨kY, hkY, -⟩ := className_of_methodNamed hn
  have hinitY : kY.init = .initialized := Cond.initialized_spec (findClass_of_methodNamed hn) hkY h3
  have h : At U g.method c below := by rw [hg]; exact X.here
  have hlocals9 : W9 + (maxL + 11) + (headSpec ws rm).room.locals ≤ R.locals := hlocals
  have happ : (headSpec ws rm).appliesLoose y e.platform (U.calling g mk a) = true :=
    Spec.appliesLoose_calling (g := g) h hdg hn hkY hinitY
      (X.room_calling (g := g) (R' := (headSpec ws rm).room) hsize hmY hcY hframes (by rw [hlY]; omega) h4 h5) h1
  obtain ⟨mid, hmid⟩ := h.above
  have hfr : (U.setTop g).frames = (.java g :: mid) ++ below := by rw [State.frames_setTop' g h.top, hmid]; rfl
  obtain ⟨o, s₂, hsteps, -, hend, hq⟩ := Steps.callFree hM p X.admits X.cas X.clock (acts := []) hfr happ hPc trivial
  have hq' : vx_Q Qc XC mc ms free a (U.calling g mk a) o s₂ := hq
  rw [State.frames_setTop' g h.top] at hend
  obtain ⟨g₀, hg0⟩ := Option.isSome_iff_exists.mp h.top
  obtain ⟨r, hr⟩ := State.topJava?_eq_some.mp hg0
  have hr' : (({ U with heap := s₂.heap, slotsUsed := s₂.slotsUsed } : State).setVm s₂.vm).frames = .java g₀ :: r := hr
  rcases hq' with ⟨hqc, L, hfe, hL⟩ | ⟨q, rfl, E, ce, L, hx, hce, hcv, hcl, hW₂, hsm, hL⟩
  · obtain ⟨⟨v, rfl⟩, hW₂, e2, q2, q3, q4, q5, q6⟩ := id hfe
    have e3 : s₂ = ({ (U.calling g mk a).setFrames s₂.frames with heap := s₂.heap, slotsUsed := s₂.slotsUsed } : State).setVm s₂.vm := by
      have : s₂ = ({ s₂ with vm := (U.calling g mk a).vm } : State).setVm s₂.vm := rfl
      rw [e2] at this
      exact this
    obtain ⟨c₂, i₂, len₂, hc₂, hd₂, hf₂⟩ := hend
    have hW' : U.WarmedH s₂.vm := hW₂
    have hcc : c₂ = c := by
      have h1 : s₂.code? g.method = U.code? g.method := by
        rw [State.code?_eq, State.code?_eq, hW'.alike.method?]
      exact Option.some.inj (hc₂.symm.trans (h1.trans h.code))
    subst hcc
    have hlen : len₂ = len := by rw [hdg] at hd₂; cases hd₂; rfl
    subst hlen
    have hs₂ : s₂ = (({ U with heap := s₂.heap, slotsUsed := s₂.slotsUsed } : State).setVm s₂.vm).setTop { g with pc := g.pc + len₂, stack := v.toList ++ g.stack } := by
      refine e3.trans ?_
      rw [hf₂, State.calling_eq h.top, State.setFrames_setFrames, State.setTop_of_frames _ hr', hr]
      rfl
    have hsame : U.sameButNew ({ U with heap := s₂.heap, slotsUsed := s₂.slotsUsed } : State) L mc ms := by
      refine ⟨?_, q2, q3, q4, q5, q6⟩
      obtain ⟨t, ht, -⟩ := State.frames_cons hr
      show ({ U with heap := s₂.heap, slotsUsed := s₂.slotsUsed } : State) = { U.setFrames U.frames with heap := s₂.heap, slotsUsed := s₂.slotsUsed }
      rw [State.setFrames_self ht]
    subst hg
    refine Or.inl ⟨v, ⟨(({ U with heap := s₂.heap, slotsUsed := s₂.slotsUsed } : State).setVm s₂.vm), Ls ++ L, c0 + mc, s0 + ms⟩,
      ⟨X.admits, X.cas, X.clock, X.frames, X.room, X.hears, X.method, X.code, (X.here.setHeapUsed s₂.heap s₂.slotsUsed).setVm hW'.alike, X.tail, State.WarmedH.trans X.warmed hW', X.limits, X.bytes, X.same.trans (hsame.setVm s.vm)⟩,
      ⟨g, mk, s₂, L, rfl, rfl, hqc, rfl, hL, rfl, rfl⟩, ?_⟩
    show Steps p.tables e below _ ((({ U with heap := s₂.heap, slotsUsed := s₂.slotsUsed } : State).setVm s₂.vm).setTop { g with pc := g.pc + len₂, stack := v.toList ++ g.stack })
    rw [← hs₂]
    exact hsteps
  · obtain ⟨e2, q2, q3, q4, q5, q6⟩ := id hsm
    have e3 : s₂ = ({ (U.calling g mk a).setFrames s₂.frames with heap := s₂.heap, slotsUsed := s₂.slotsUsed } : State).setVm s₂.vm := by
      have : s₂ = ({ s₂ with vm := (U.calling g mk a).vm } : State).setVm s₂.vm := rfl
      rw [e2] at this
      exact this
    have hf₂ : s₂.frames = .throwing q :: .java g :: U.frames.tail := hend
    have hW' : U.WarmedH s₂.vm := hW₂
    have hs₂ : s₂ = ((({ U with heap := s₂.heap, slotsUsed := s₂.slotsUsed } : State).setVm s₂.vm).setTop g).pushFrame (.throwing q) := by
      refine e3.trans ?_
      rw [hf₂, State.calling_eq h.top, State.setFrames_setFrames, State.pushFrame, State.frames_setTop _ hr', State.setTop_of_frames _ hr', State.setFrames_setFrames, hr]
      rfl
    have hsame : U.sameButNew ({ U with heap := s₂.heap, slotsUsed := s₂.slotsUsed } : State) L mc ms := by
      refine ⟨?_, q2, q3, q4, q5, q6⟩
      obtain ⟨t, ht, -⟩ := State.frames_cons hr
      show ({ U with heap := s₂.heap, slotsUsed := s₂.slotsUsed } : State) = { U.setFrames U.frames with heap := s₂.heap, slotsUsed := s₂.slotsUsed }
      rw [State.setFrames_self ht]
    subst hg
    refine Or.inr ⟨q, ⟨(({ U with heap := s₂.heap, slotsUsed := s₂.slotsUsed } : State).setVm s₂.vm), Ls ++ L, c0 + mc, s0 + ms⟩,
      ⟨X.admits, X.cas, X.clock, X.frames, X.room, X.hears, X.method, X.code, (X.here.setHeapUsed s₂.heap s₂.slotsUsed).setVm hW'.alike, X.tail, State.WarmedH.trans X.warmed hW', X.limits, X.bytes, X.same.trans (hsame.setVm s.vm)⟩,
      ⟨g, mk, s₂, L, E, ce, rfl, rfl, hx, hce, hcv, hcl, rfl, hL, rfl, rfl⟩, ?_⟩
    show Steps p.tables e below _ (((({ U with heap := s₂.heap, slotsUsed := s₂.slotsUsed } : State).setVm s₂.vm).setTop g).pushFrame (.throwing q))
    rw [← hs₂]
    exact hsteps
end Payer
section Calls
variable {p : Program} {l : Launch} {e : Env} {R : Room} {s : State} {m : MethodId} {args : Array Value} {below : List Frame} {meth : Method} {c : Code} {T : State} {locs : List Loc} {cells slots : Nat}
theorem vx_callV (X : Stand p l e R s m args below meth c T locs cells slots) (hexec : p.tables.exec = Jvm.exec) {own C : String} {index : Nat} {y : MethodName} {bytes : ByteArray} {maxL : Nat} {ret : Option FieldType}
    (hown : s.vm.findClass own = some m.cls) (hlink : (Cond.methodLink own index y).before args s = true) (hinst : (Cond.instanceMethod y).before args s = true) (hsel : (Cond.selects C y y).before args s = true)
    (hcode : (Cond.code y bytes maxL ret).before args s = true) (hy : y.cls ≠ "java/lang/invoke/MethodHandle" ∧ y.cls ≠ "java/lang/invoke/VarHandle")
    {W9 : Nat} {Pre : Pt → Array Value → Prop} {Post : Pt → Array Value → Option Value → Pt → Prop} {PostX : Pt → Array Value → Addr → Pt → Prop} (hK : vx_Back l R p e below s args y 3 W9 Pre Post PostX)
    {b : Addr} {cellB : Cell} (hcell : T.heap[b]? = some cellB) (hobj : cellB.vm.isStatics = false) (hcls : s.vm.findClass C = some cellB.cls)
    {g : JFrame} (hg : g.method = m) (hsize : g.locals.size = c.maxLocals) {argsL rest : List Value} (hlen : ∀ sig, parseMethodDescriptor y.desc = some sig → argsL.length = sig.parameters.length)
    (hstack : g.stack = argsL.reverse ++ .ref b :: rest) (hW : 2 * g.monitorRoom + (rest.map fun v => v.category).sum ≤ W9) (hdg : decode c.code g.pc = .ok (.invokevirtual index, 3))
    (hpre : ∀ vm₁, s.WarmedH vm₁ → Pre ⟨T.setVm vm₁, locs, cells, slots⟩ (Value.ref b :: argsL).toArray) :
    (∃ (v : Option Value) (vm₁ : Vm) (B : Pt), s.WarmedH vm₁ ∧ Stand p l e R s m args below meth c B.U B.locs B.cells B.slots ∧ Post ⟨T.setVm vm₁, locs, cells, slots⟩ (Value.ref b :: argsL).toArray v B ∧
      ∀ target, Steps p.tables e below (B.U.setTop { g with pc := g.pc + 3, stack := v.toList ++ rest }) target → Steps p.tables e below (T.setTop g) target) ∨
    (∃ (q : Addr) (vm₁ : Vm) (B : Pt), s.WarmedH vm₁ ∧ Stand p l e R s m args below meth c B.U B.locs B.cells B.slots ∧ PostX ⟨T.setVm vm₁, locs, cells, slots⟩ (Value.ref b :: argsL).toArray q B ∧
      Steps p.tables e below (T.setTop g) ((B.U.setTop { g with stack := rest }).pushFrame (.throwing q))) := by
  obtain ⟨mk, methM, hnamed, hmethM, hstM, habM⟩ := Cond.instanceMethod_spec hinst
  obtain ⟨methM', cM, hmethM', -, -, -, -, -, -, hsigM⟩ := Cond.code_spec hnamed hcode
  cases hmethM.symm.trans hmethM'
  obtain ⟨c2, r2, m2, q1, q2, q3, q4, kP, hkP, hkPi⟩ := Cond.selects_spec hsel
  cases hcls.symm.trans q1
  cases (State.methodFound?_of_named hnamed hy).symm.trans q2
  cases hnamed.symm.trans q3
  have hselP : selectMethod e.platform s.vm cellB.cls mk = .method mk := by rw [Launch.admits_selectMethod X.admits]; exact q4
  obtain ⟨vm₁, X₁, hstep₁⟩ := X.invokevirtual hexec hown hlink hnamed hmethM hstM hkP hkPi hy (a := b) (cell := cellB) hcell
    (fun z h => by rw [h] at hobj; cases hobj) hselP hmethM habM hkP hkPi (g := g) hg (argsL := argsL) (rest := rest) (hlen _ hsigM) hstack hdg
  rcases hK m meth c ⟨T.setVm vm₁, locs, cells, slots⟩ { g with stack := rest } (.invokevirtual index) mk (Value.ref b :: argsL).toArray X₁ hg hsize hdg hW (X₁.named hnamed) (hpre vm₁ X₁.warmed) with ⟨v, B, X', hpost, hsteps⟩ | ⟨q, B, X', hpost, hsteps⟩
  · exact Or.inl ⟨v, vm₁, B, X₁.warmed, X', hpost, fun target h => hstep₁ _ fun acts => by rw [doInvoke_state]; exact hsteps.trans h⟩
  · exact Or.inr ⟨q, vm₁, B, X₁.warmed, X', hpost, hstep₁ _ fun acts => by rw [doInvoke_state]; exact hsteps⟩
theorem vx_callS (X : Stand p l e R s m args below meth c T locs cells slots) (hexec : p.tables.exec = Jvm.exec) {own : String} {index : Nat} {y : MethodName} {bytes : ByteArray} {maxL : Nat} {ret : Option FieldType}
    (hown : s.vm.findClass own = some m.cls) (hlink : (Cond.methodLink own index y).before args s = true) (hstat : (Cond.static y).before args s = true) (hinit : (Cond.initialized y.cls).before args s = true)
    (hcode : (Cond.code y bytes maxL ret).before args s = true) (hy : y.cls ≠ "java/lang/invoke/MethodHandle" ∧ y.cls ≠ "java/lang/invoke/VarHandle")
    {W9 : Nat} {Pre : Pt → Array Value → Prop} {Post : Pt → Array Value → Option Value → Pt → Prop} {PostX : Pt → Array Value → Addr → Pt → Prop} (hK : vx_Back l R p e below s args y 3 W9 Pre Post PostX)
    {g : JFrame} (hg : g.method = m) (hsize : g.locals.size = c.maxLocals) {argsL rest : List Value} (hlen : ∀ sig, parseMethodDescriptor y.desc = some sig → argsL.length = sig.parameters.length)
    (hstack : g.stack = argsL.reverse ++ rest) (hW : 2 * g.monitorRoom + (rest.map fun v => v.category).sum ≤ W9) (hdg : decode c.code g.pc = .ok (.invokestatic index, 3))
    (hpre : ∀ vm₁, s.WarmedH vm₁ → Pre ⟨T.setVm vm₁, locs, cells, slots⟩ argsL.toArray) :
    (∃ (v : Option Value) (vm₁ : Vm) (B : Pt), s.WarmedH vm₁ ∧ Stand p l e R s m args below meth c B.U B.locs B.cells B.slots ∧ Post ⟨T.setVm vm₁, locs, cells, slots⟩ argsL.toArray v B ∧
      ∀ target, Steps p.tables e below (B.U.setTop { g with pc := g.pc + 3, stack := v.toList ++ rest }) target → Steps p.tables e below (T.setTop g) target) ∨
    (∃ (q : Addr) (vm₁ : Vm) (B : Pt), s.WarmedH vm₁ ∧ Stand p l e R s m args below meth c B.U B.locs B.cells B.slots ∧ PostX ⟨T.setVm vm₁, locs, cells, slots⟩ argsL.toArray q B ∧
      Steps p.tables e below (T.setTop g) ((B.U.setTop { g with stack := rest }).pushFrame (.throwing q))) := by
  obtain ⟨mk, hnamed⟩ := Cond.code_named hcode
  obtain ⟨methM, cM, hmethM, -, -, -, -, -, -, hsigM⟩ := Cond.code_spec hnamed hcode
  have hstatic : methM.isStatic = true := Cond.static_spec hnamed hmethM hstat
  obtain ⟨kP, hkP, -⟩ := className_of_methodNamed hnamed
  have hinitP : kP.init = .initialized := Cond.initialized_spec (findClass_of_methodNamed hnamed) hkP hinit
  obtain ⟨vm₁, X₁, hstep₁⟩ := X.invokestatic hexec hown hlink hnamed hmethM hstatic hkP hinitP hy (g := g) hg (argsL := argsL) (rest := rest) (hlen _ hsigM) hstack hdg
  rcases hK m meth c ⟨T.setVm vm₁, locs, cells, slots⟩ { g with stack := rest } (.invokestatic index) mk argsL.toArray X₁ hg hsize hdg hW (X₁.named hnamed) (hpre vm₁ X₁.warmed) with ⟨v, B, X', hpost, hsteps⟩ | ⟨q, B, X', hpost, hsteps⟩
  · exact Or.inl ⟨v, vm₁, B, X₁.warmed, X', hpost, fun target h => hstep₁ _ fun acts => by rw [doInvoke_state]; exact hsteps.trans h⟩
  · exact Or.inr ⟨q, vm₁, B, X₁.warmed, X', hpost, hstep₁ _ fun acts => by rw [doInvoke_state]; exact hsteps⟩
end Calls
theorem vx_cls {s : State} {T : State} {vm₁ : Vm} {E : String} {k : ClassId} (hW : s.WarmedH vm₁) (h : (T.setVm vm₁).vm.findClass E = some k) : s.vm.findClass E = some k := by
  have h1 : vm₁.findClass E = some k := h
  rw [hW.alike.findClass] at h1
  exact h1
/-- the method's frame g, with q thrown over it -/
def vx_W (p : Program) (l : Launch) (e : Env) (R : Room) (s : State) (m : MethodId) (args : Array Value) (below : List Frame) (meth : Method) (c : Code) (H : Heap) (locs : List Loc) (cells slots : Nat) (Q : State → Prop) (g : JFrame) (q : Addr) : Prop :=
  ∀ T : State, T.heap = H → Stand p l e R s m args below meth c T locs cells slots → ∃ t, Steps p.tables e below ((T.setTop g).pushFrame (.throwing q)) t ∧ Q t
def vx_Run (p : Program) (l : Launch) (e : Env) (R : Room) (s : State) (m : MethodId) (args : Array Value) (below : List Frame) (meth : Method) (c : Code) (H : Heap) (locs : List Loc) (cells slots mc ms : Nat) (g : JFrame) (rest : List Value) (Qa : State → Outcome → State → Prop) (XC : String → State → State → Prop) (free : Addr → Prop) : Prop :=
  ∀ T : State, T.heap = H → Stand p l e R s m args below meth c T locs cells slots →
    (∃ (v : Option Value) (st₀ t T' : State) (L : List Loc), st₀.heap = H ∧ Stand p l e R s m args below meth c T' (locs ++ L) (cells + mc) (slots + ms) ∧ (∀ q ∈ L, free q.base) ∧ T'.heap = t.heap ∧ T'.vm = t.vm ∧ Qa st₀ (.returned v) t ∧
      Goes p e below T g T' { g with pc := g.pc + 3, stack := v.toList ++ rest }) ∨
    (∃ (q : Addr) (st₀ t T' : State) (L : List Loc) (E : String) (ce : Cell), st₀.heap = H ∧ Stand p l e R s m args below meth c T' (locs ++ L) (cells + mc) (slots + ms) ∧ (∀ z ∈ L, free z.base) ∧ T'.heap = t.heap ∧ T'.vm = t.vm ∧ XC E st₀ t ∧ t.heap[q]? = some ce ∧ ce.vm = .none ∧ s.vm.findClass E = some ce.cls ∧
      Steps p.tables e below (T.setTop g) ((T'.setTop { g with stack := rest }).pushFrame (.throwing q)))
def vx_X {S : Type} (px : S → Prop) (B : String → S → State → Prop) (A : Nat → Prop) : String → State → State → Prop := fun E st t => ∃ u : S, px u ∧ B E u t ∧ va_F A st t
section Runs
variable {p : Program} {l : Launch} {e : Env} {R : Room} {s : State} {m : MethodId} {args : Array Value} {below : List Frame} {meth : Method} {c : Code} {H : Heap} {locs : List Loc} {cells slots : Nat}
variable {y : MethodName} {bytes cc : ByteArray} {maxL nL mc ms n index : Nat} {ret : Option FieldType} {ws : List Cond} {rm : Room} {Pc : Array Value → State → Prop} {Qc : Array Value → State → Outcome → State → Prop} {XC : String → State → State → Prop} {free : Addr → Prop} {Ts : List Cond} {own C : String} {b : Addr} {As rest : List Value} {g : JFrame}
theorem vx_callBack (cb : CallB R s args own index y bytes maxL ret ws rm mc ms n) (hM : vx_Met l y ws rm Pc Qc XC mc ms free) (hbl : FrameBlind Pc) : vx_Back l R p e below s args y 3 8 (PreOf R mc ms Pc) (PostOf Qc mc ms free) (vx_Post XC mc ms free) := by
  obtain ⟨hrc, hrs, hfr, hlo, hws, hcw, -, hini, -⟩ := cb
  exact vx_back (bytes := bytes) (maxL := maxL) (ret := ret) hM hbl hrc hrs hfr hlo hws hcw (fun a' U hW => word_at hW (Or.inl (by first | rfl | simp [Cond.onTables, Cond.keeps, Cond.steady])) hini)
theorem vx_runV (S : CallFix p m c cc nL s args Ts own) (hM : vx_Met l y ws rm Pc Qc XC mc ms free) (cw : CallW R s args own C index y bytes maxL ret ws rm mc ms n) (hp : PreV s H C b Pc As)
    (hg : g.method = m) (hn : As.length = n) (hsize : g.locals.size = nL) (hstack : g.stack = As.reverse ++ .ref b :: rest) (hW : 2 * g.monitorRoom + (rest.map fun v => v.category).sum ≤ 8) (hdg : decode cc g.pc = .ok (.invokevirtual index, 3)) (hf : cells + mc ≤ R.cells ∧ slots + ms ≤ R.slots) :
    vx_Run p l e R s m args below meth c H locs cells slots mc ms g rest (Qc (Value.ref b :: As).toArray) XC free := by
  have hK : vx_Back l R p e below s args y 3 8 (PreOf R mc ms Pc) (PostOf Qc mc ms free) (vx_Post XC mc ms free) := vx_callBack cw.1 hM hp.1
  obtain ⟨⟨-, -, -, -, -, -, hcode, -, hy, hlen, hl⟩, hin, hse⟩ := cw
  obtain ⟨hx, hb, hml, ho, -⟩ := S
  obtain ⟨-, ⟨cellB, hcB, hoB, hclB⟩, hPc⟩ := hp
  intro T hT X
  rcases vx_callV X hx (C := C) (bytes := bytes) (maxL := maxL) (ret := ret) ho hl hin hse hcode hy hK (by rw [hT]; exact hcB) hoB hclB hg (hsize.trans hml.symm) (argsL := As) (rest := rest) (fun sig h => hn.trans (hlen sig h)) hstack hW (by rw [hb]; exact hdg)
    (fun vm₁ hW₁ => ⟨hf.1, hf.2, hPc (T.setVm vm₁) hT hW₁⟩) with ⟨v, vm₁, ⟨U', l2, c2, s2⟩, hW₁, X', ⟨g', mk, t, L, e1, e2, hq, h1, hL, h2, h3⟩, st⟩ | ⟨q, vm₁, ⟨U', l2, c2, s2⟩, hW₁, X', ⟨g', mk, t, L, E, ce, e1, e2, hq, hce, hcv, hcl, h1, hL, h2, h3⟩, st⟩
  · dsimp only [Pt.U, Pt.locs, Pt.cells, Pt.slots] at X' e1 e2 h1 h2 h3 st
    subst h1; subst h2; subst h3
    exact Or.inl ⟨v, (T.setVm vm₁).calling g' mk (Value.ref b :: As).toArray, t, U', L, hT, X', hL, e1, e2, hq, st⟩
  · dsimp only [Pt.U, Pt.locs, Pt.cells, Pt.slots] at X' e1 e2 h1 h2 h3 st hcl
    subst h1; subst h2; subst h3
    exact Or.inr ⟨q, (T.setVm vm₁).calling g' mk (Value.ref b :: As).toArray, t, U', L, E, ce, hT, X', hL, e1, e2, hq, hce, hcv, vx_cls hW₁ hcl, st⟩
theorem vx_runS (S : CallFix p m c cc nL s args Ts own) (hM : vx_Met l y ws rm Pc Qc XC mc ms free) (cw : CallB R s args own index y bytes maxL ret ws rm mc ms n ∧ (Cond.static y).before args s = true) (hp : PreS s H Pc As)
    (hg : g.method = m) (hn : As.length = n) (hsize : g.locals.size = nL) (hstack : g.stack = As.reverse ++ rest) (hW : 2 * g.monitorRoom + (rest.map fun v => v.category).sum ≤ 8) (hdg : decode cc g.pc = .ok (.invokestatic index, 3)) (hf : cells + mc ≤ R.cells ∧ slots + ms ≤ R.slots) :
    vx_Run p l e R s m args below meth c H locs cells slots mc ms g rest (Qc As.toArray) XC free := by
  have hK : vx_Back l R p e below s args y 3 8 (PreOf R mc ms Pc) (PostOf Qc mc ms free) (vx_Post XC mc ms free) := vx_callBack cw.1 hM hp.1
  obtain ⟨⟨-, -, -, -, -, -, hcode, hini, hy, hlen, hl⟩, hstt⟩ := cw
  obtain ⟨hx, hb, hml, ho, -⟩ := S
  intro T hT X
  rcases vx_callS X hx (bytes := bytes) (maxL := maxL) (ret := ret) ho hl hstt hini hcode hy hK hg (hsize.trans hml.symm) (argsL := As) (rest := rest) (fun sig h => hn.trans (hlen sig h)) hstack hW (by rw [hb]; exact hdg)
    (fun vm₁ hW₁ => ⟨hf.1, hf.2, hp.2 (T.setVm vm₁) hT hW₁⟩) with ⟨v, vm₁, ⟨U', l2, c2, s2⟩, hW₁, X', ⟨g', mk, t, L, e1, e2, hq, h1, hL, h2, h3⟩, st⟩ | ⟨q, vm₁, ⟨U', l2, c2, s2⟩, hW₁, X', ⟨g', mk, t, L, E, ce, e1, e2, hq, hce, hcv, hcl, h1, hL, h2, h3⟩, st⟩
  · dsimp only [Pt.U, Pt.locs, Pt.cells, Pt.slots] at X' e1 e2 h1 h2 h3 st
    subst h1; subst h2; subst h3
    exact Or.inl ⟨v, (T.setVm vm₁).calling g' mk As.toArray, t, U', L, hT, X', hL, e1, e2, hq, st⟩
  · dsimp only [Pt.U, Pt.locs, Pt.cells, Pt.slots] at X' e1 e2 h1 h2 h3 st hcl
    subst h1; subst h2; subst h3
    exact Or.inr ⟨q, (T.setVm vm₁).calling g' mk As.toArray, t, U', L, E, ce, hT, X', hL, e1, e2, hq, hce, hcv, vx_cls hW₁ hcl, st⟩
end Runs
section Rows
variable {p : Program} {l : Launch} {e : Env} {R : Room} {s : State} {m : MethodId} {args : Array Value} {below : List Frame} {meth : Method} {c : Code} {H : Heap} {locs : List Loc} {cells slots : Nat} {Q : State → Prop}
variable {mc ms : Nat} {free : Addr → Prop} {A0 A1 : Nat → Prop} {H0 : Heap} {a : Array Value} {pc : Nat} {ls : Array Slot} {st0 rest : List Value}
theorem vx_keep {st₀ t T' : State} {L : List Loc} (h0 : st₀.heap = H) (e1 : T'.heap = t.heap) (hS : va_S A0 H0 H locs) (hA : ∀ q, q < H.size → A1 q → A0 q) (hf : ∀ q, free q → A0 q) (hL : ∀ q ∈ L, free q.base) (hF : va_F A1 st₀ t) :
    H.size ≤ T'.heap.size ∧ (∀ q : Nat, q < H.size → ¬ A1 q → T'.heap[q]? = H[q]?) ∧ va_S A0 H0 T'.heap (locs ++ L) := by
  obtain ⟨hz, hk⟩ := hF
  rw [h0] at hz hk
  exact ⟨by rw [e1]; exact hz, fun q h1 h2 => by rw [e1]; exact hk q h1 h2,
    ⟨Nat.le_trans hS.1 (by rw [e1]; exact hz), fun q h1 h2 => by rw [e1, hk q (Nat.lt_of_lt_of_le h1 hS.1) (fun z => h2 (hA q (Nat.lt_of_lt_of_le h1 hS.1) z))]; exact hS.2.1 q h1 h2, fun q hq => by
      rcases List.mem_append.mp hq with h | h
      · exact hS.2.2 q h
      · exact hf _ (hL q h)⟩⟩
theorem vx_calli {S SX : Type} {post : Int32 → S → Prop} {px : SX → Prop} {B : S → State → Prop} {BX : String → SX → State → Prop} {AX : Nat → Prop} (hr : vx_Run p l e R s m args below meth c H locs cells slots mc ms (F0 m pc ls st0) rest (va_Qi post B A1 a) (vx_X px BX AX) free) (hS : va_S A0 H0 H locs) (hA : ∀ q, q < H.size → A1 q → A0 q) (hf : ∀ q, free q → A0 q) (hAX : ∀ q, q < H.size → AX q → A0 q)
    (kx : ∀ (E : String) (ce : Cell) (q9 : Addr) (u : SX) (t : State) (H1 : Heap) (locs1 : List Loc), t.heap = H1 → s.vm.Alike t.vm → px u → BX E u t → H.size ≤ H1.size → (∀ q : Nat, q < H.size → ¬ AX q → H1[q]? = H[q]?) → va_S A0 H0 H1 locs1 → H1[q9]? = some ce → ce.vm = .none → s.vm.findClass E = some ce.cls → vx_W p l e R s m args below meth c H1 locs1 (cells + mc) (slots + ms) Q (F0 m pc ls rest) q9)
    (kk : ∀ (r : Int32) (u : S) (t : State) (H1 : Heap) (locs1 : List Loc), t.heap = H1 → s.vm.Alike t.vm → post r u → B u t → H.size ≤ H1.size → (∀ q : Nat, q < H.size → ¬ A1 q → H1[q]? = H[q]?) → va_S A0 H0 H1 locs1 → W p l e R s m args below meth c H1 locs1 (cells + mc) (slots + ms) Q (F0 m (pc + 3) ls (.int r :: rest))) : W p l e R s m args below meth c H locs cells slots Q (F0 m pc ls st0) := by
  intro T hT X
  rcases hr T hT X with ⟨v, st₀, t, T', L, h0, X', hL, e1, e2, ⟨⟨r, u, hv, hp, hb⟩, hF⟩, st⟩ | ⟨q, st₀, t, T', L, E, ce, h0, X', hL, e1, e2, ⟨u, hp, hb, hF⟩, hce, hcv, hcl, st⟩
  · cases hv
    obtain ⟨k1, k2, k3⟩ := vx_keep h0 e1 hS hA hf hL hF
    obtain ⟨t2, a1, b1⟩ := kk r u t T'.heap (locs ++ L) e1.symm (by rw [← e2]; exact X'.warmed.alike) hp hb k1 k2 k3 T' rfl X'
    exact ⟨t2, st t2 a1, b1⟩
  · obtain ⟨k1, k2, k3⟩ := vx_keep h0 e1 hS hAX hf hL hF
    obtain ⟨t2, a1, b1⟩ := kx E ce q u t T'.heap (locs ++ L) e1.symm (by rw [← e2]; exact X'.warmed.alike) hp hb k1 k2 k3 (by rw [e1]; exact hce) hcv hcl T' rfl X'
    exact ⟨t2, st.trans a1, b1⟩
theorem vx_calll {S SX : Type} {post : Int64 → S → Prop} {px : SX → Prop} {B : S → State → Prop} {BX : String → SX → State → Prop} {AX : Nat → Prop} (hr : vx_Run p l e R s m args below meth c H locs cells slots mc ms (F0 m pc ls st0) rest (va_Ql post B A1 a) (vx_X px BX AX) free) (hS : va_S A0 H0 H locs) (hA : ∀ q, q < H.size → A1 q → A0 q) (hf : ∀ q, free q → A0 q) (hAX : ∀ q, q < H.size → AX q → A0 q)
    (kx : ∀ (E : String) (ce : Cell) (q9 : Addr) (u : SX) (t : State) (H1 : Heap) (locs1 : List Loc), t.heap = H1 → s.vm.Alike t.vm → px u → BX E u t → H.size ≤ H1.size → (∀ q : Nat, q < H.size → ¬ AX q → H1[q]? = H[q]?) → va_S A0 H0 H1 locs1 → H1[q9]? = some ce → ce.vm = .none → s.vm.findClass E = some ce.cls → vx_W p l e R s m args below meth c H1 locs1 (cells + mc) (slots + ms) Q (F0 m pc ls rest) q9)
    (kk : ∀ (r : Int64) (u : S) (t : State) (H1 : Heap) (locs1 : List Loc), t.heap = H1 → s.vm.Alike t.vm → post r u → B u t → H.size ≤ H1.size → (∀ q : Nat, q < H.size → ¬ A1 q → H1[q]? = H[q]?) → va_S A0 H0 H1 locs1 → W p l e R s m args below meth c H1 locs1 (cells + mc) (slots + ms) Q (F0 m (pc + 3) ls (.long r :: rest))) : W p l e R s m args below meth c H locs cells slots Q (F0 m pc ls st0) := by
  intro T hT X
  rcases hr T hT X with ⟨v, st₀, t, T', L, h0, X', hL, e1, e2, ⟨⟨r, u, hv, hp, hb⟩, hF⟩, st⟩ | ⟨q, st₀, t, T', L, E, ce, h0, X', hL, e1, e2, ⟨u, hp, hb, hF⟩, hce, hcv, hcl, st⟩
  · cases hv
    obtain ⟨k1, k2, k3⟩ := vx_keep h0 e1 hS hA hf hL hF
    obtain ⟨t2, a1, b1⟩ := kk r u t T'.heap (locs ++ L) e1.symm (by rw [← e2]; exact X'.warmed.alike) hp hb k1 k2 k3 T' rfl X'
    exact ⟨t2, st t2 a1, b1⟩
  · obtain ⟨k1, k2, k3⟩ := vx_keep h0 e1 hS hAX hf hL hF
    obtain ⟨t2, a1, b1⟩ := kx E ce q u t T'.heap (locs ++ L) e1.symm (by rw [← e2]; exact X'.warmed.alike) hp hb k1 k2 k3 (by rw [e1]; exact hce) hcv hcl T' rfl X'
    exact ⟨t2, st.trans a1, b1⟩
theorem vx_callf {S SX : Type} {post : UInt32 → S → Prop} {px : SX → Prop} {B : S → State → Prop} {BX : String → SX → State → Prop} {AX : Nat → Prop} (hr : vx_Run p l e R s m args below meth c H locs cells slots mc ms (F0 m pc ls st0) rest (va_Qf post B A1 a) (vx_X px BX AX) free) (hS : va_S A0 H0 H locs) (hA : ∀ q, q < H.size → A1 q → A0 q) (hf : ∀ q, free q → A0 q) (hAX : ∀ q, q < H.size → AX q → A0 q)
    (kx : ∀ (E : String) (ce : Cell) (q9 : Addr) (u : SX) (t : State) (H1 : Heap) (locs1 : List Loc), t.heap = H1 → s.vm.Alike t.vm → px u → BX E u t → H.size ≤ H1.size → (∀ q : Nat, q < H.size → ¬ AX q → H1[q]? = H[q]?) → va_S A0 H0 H1 locs1 → H1[q9]? = some ce → ce.vm = .none → s.vm.findClass E = some ce.cls → vx_W p l e R s m args below meth c H1 locs1 (cells + mc) (slots + ms) Q (F0 m pc ls rest) q9)
    (kk : ∀ (r : UInt32) (u : S) (t : State) (H1 : Heap) (locs1 : List Loc), t.heap = H1 → s.vm.Alike t.vm → post r u → B u t → H.size ≤ H1.size → (∀ q : Nat, q < H.size → ¬ A1 q → H1[q]? = H[q]?) → va_S A0 H0 H1 locs1 → W p l e R s m args below meth c H1 locs1 (cells + mc) (slots + ms) Q (F0 m (pc + 3) ls (.float r :: rest))) : W p l e R s m args below meth c H locs cells slots Q (F0 m pc ls st0) := by
  intro T hT X
  rcases hr T hT X with ⟨v, st₀, t, T', L, h0, X', hL, e1, e2, ⟨⟨r, u, hv, hp, hb⟩, hF⟩, st⟩ | ⟨q, st₀, t, T', L, E, ce, h0, X', hL, e1, e2, ⟨u, hp, hb, hF⟩, hce, hcv, hcl, st⟩
  · cases hv
    obtain ⟨k1, k2, k3⟩ := vx_keep h0 e1 hS hA hf hL hF
    obtain ⟨t2, a1, b1⟩ := kk r u t T'.heap (locs ++ L) e1.symm (by rw [← e2]; exact X'.warmed.alike) hp hb k1 k2 k3 T' rfl X'
    exact ⟨t2, st t2 a1, b1⟩
  · obtain ⟨k1, k2, k3⟩ := vx_keep h0 e1 hS hAX hf hL hF
    obtain ⟨t2, a1, b1⟩ := kx E ce q u t T'.heap (locs ++ L) e1.symm (by rw [← e2]; exact X'.warmed.alike) hp hb k1 k2 k3 (by rw [e1]; exact hce) hcv hcl T' rfl X'
    exact ⟨t2, st.trans a1, b1⟩
theorem vx_calld {S SX : Type} {post : UInt64 → S → Prop} {px : SX → Prop} {B : S → State → Prop} {BX : String → SX → State → Prop} {AX : Nat → Prop} (hr : vx_Run p l e R s m args below meth c H locs cells slots mc ms (F0 m pc ls st0) rest (va_Qd post B A1 a) (vx_X px BX AX) free) (hS : va_S A0 H0 H locs) (hA : ∀ q, q < H.size → A1 q → A0 q) (hf : ∀ q, free q → A0 q) (hAX : ∀ q, q < H.size → AX q → A0 q)
    (kx : ∀ (E : String) (ce : Cell) (q9 : Addr) (u : SX) (t : State) (H1 : Heap) (locs1 : List Loc), t.heap = H1 → s.vm.Alike t.vm → px u → BX E u t → H.size ≤ H1.size → (∀ q : Nat, q < H.size → ¬ AX q → H1[q]? = H[q]?) → va_S A0 H0 H1 locs1 → H1[q9]? = some ce → ce.vm = .none → s.vm.findClass E = some ce.cls → vx_W p l e R s m args below meth c H1 locs1 (cells + mc) (slots + ms) Q (F0 m pc ls rest) q9)
    (kk : ∀ (r : UInt64) (u : S) (t : State) (H1 : Heap) (locs1 : List Loc), t.heap = H1 → s.vm.Alike t.vm → post r u → B u t → H.size ≤ H1.size → (∀ q : Nat, q < H.size → ¬ A1 q → H1[q]? = H[q]?) → va_S A0 H0 H1 locs1 → W p l e R s m args below meth c H1 locs1 (cells + mc) (slots + ms) Q (F0 m (pc + 3) ls (.double r :: rest))) : W p l e R s m args below meth c H locs cells slots Q (F0 m pc ls st0) := by
  intro T hT X
  rcases hr T hT X with ⟨v, st₀, t, T', L, h0, X', hL, e1, e2, ⟨⟨r, u, hv, hp, hb⟩, hF⟩, st⟩ | ⟨q, st₀, t, T', L, E, ce, h0, X', hL, e1, e2, ⟨u, hp, hb, hF⟩, hce, hcv, hcl, st⟩
  · cases hv
    obtain ⟨k1, k2, k3⟩ := vx_keep h0 e1 hS hA hf hL hF
    obtain ⟨t2, a1, b1⟩ := kk r u t T'.heap (locs ++ L) e1.symm (by rw [← e2]; exact X'.warmed.alike) hp hb k1 k2 k3 T' rfl X'
    exact ⟨t2, st t2 a1, b1⟩
  · obtain ⟨k1, k2, k3⟩ := vx_keep h0 e1 hS hAX hf hL hF
    obtain ⟨t2, a1, b1⟩ := kx E ce q u t T'.heap (locs ++ L) e1.symm (by rw [← e2]; exact X'.warmed.alike) hp hb k1 k2 k3 (by rw [e1]; exact hce) hcv hcl T' rfl X'
    exact ⟨t2, st.trans a1, b1⟩
theorem vx_callv {S SX : Type} {post : S → Prop} {px : SX → Prop} {B : S → State → Prop} {BX : String → SX → State → Prop} {AX : Nat → Prop} (hr : vx_Run p l e R s m args below meth c H locs cells slots mc ms (F0 m pc ls st0) rest (va_Qv post B A1 a) (vx_X px BX AX) free) (hS : va_S A0 H0 H locs) (hA : ∀ q, q < H.size → A1 q → A0 q) (hf : ∀ q, free q → A0 q) (hAX : ∀ q, q < H.size → AX q → A0 q)
    (kx : ∀ (E : String) (ce : Cell) (q9 : Addr) (u : SX) (t : State) (H1 : Heap) (locs1 : List Loc), t.heap = H1 → s.vm.Alike t.vm → px u → BX E u t → H.size ≤ H1.size → (∀ q : Nat, q < H.size → ¬ AX q → H1[q]? = H[q]?) → va_S A0 H0 H1 locs1 → H1[q9]? = some ce → ce.vm = .none → s.vm.findClass E = some ce.cls → vx_W p l e R s m args below meth c H1 locs1 (cells + mc) (slots + ms) Q (F0 m pc ls rest) q9)
    (kk : ∀ (u : S) (t : State) (H1 : Heap) (locs1 : List Loc), t.heap = H1 → s.vm.Alike t.vm → post u → B u t → H.size ≤ H1.size → (∀ q : Nat, q < H.size → ¬ A1 q → H1[q]? = H[q]?) → va_S A0 H0 H1 locs1 → W p l e R s m args below meth c H1 locs1 (cells + mc) (slots + ms) Q (F0 m (pc + 3) ls (rest))) : W p l e R s m args below meth c H locs cells slots Q (F0 m pc ls st0) := by
  intro T hT X
  rcases hr T hT X with ⟨v, st₀, t, T', L, h0, X', hL, e1, e2, ⟨⟨u, hv, hp, hb⟩, hF⟩, st⟩ | ⟨q, st₀, t, T', L, E, ce, h0, X', hL, e1, e2, ⟨u, hp, hb, hF⟩, hce, hcv, hcl, st⟩
  · cases hv
    obtain ⟨k1, k2, k3⟩ := vx_keep h0 e1 hS hA hf hL hF
    obtain ⟨t2, a1, b1⟩ := kk u t T'.heap (locs ++ L) e1.symm (by rw [← e2]; exact X'.warmed.alike) hp hb k1 k2 k3 T' rfl X'
    exact ⟨t2, st t2 a1, b1⟩
  · obtain ⟨k1, k2, k3⟩ := vx_keep h0 e1 hS hAX hf hL hF
    obtain ⟨t2, a1, b1⟩ := kx E ce q u t T'.heap (locs ++ L) e1.symm (by rw [← e2]; exact X'.warmed.alike) hp hb k1 k2 k3 (by rw [e1]; exact hce) hcv hcl T' rfl X'
    exact ⟨t2, st.trans a1, b1⟩
/-- caught by the row x of this method's table; the rows ahead don't take it -/
theorem vx_catch {own name : String} {E : String} {ce : Cell} {q : Addr} (hown : s.vm.findClass own = some m.cls) (pre : List ExceptionTableEntry) (x : ExceptionTableEntry) (suf : List ExceptionTableEntry) (hsplit : c.exceptionTable.toList = pre ++ x :: suf)
    (hpass : ∀ z ∈ pre, covers z pc = false ∨ (z.catchType ≠ 0 ∧ ∃ nm : String, (Cond.classLink own z.catchType nm).before args s = true ∧ va_Nc E nm s)) (hx : covers x pc = true) (h0 : x.catchType ≠ 0)
    (hlink : (Cond.classLink own x.catchType name).before args s = true) (hcast : (Cond.castable E name).before args s = true) (hcell : H[q]? = some ce) (hv : ce.vm = .none) (hcl : s.vm.findClass E = some ce.cls)
    (kk : W p l e R s m args below meth c H locs cells slots Q (F0 m x.handlerPc ls [.ref q])) : vx_W p l e R s m args below meth c H locs cells slots Q (F0 m pc ls rest) q := by
  intro T hT X
  have hpl : e.platform.magicAccessors = ({} : Platform).magicAccessors := by rw [X.admits.platform]
  obtain ⟨c3, c4, hc3, hc4, hasg⟩ := Cond.castable_spec hcast
  cases Option.some.inj (hc3.symm.trans hcl)
  obtain ⟨c5, hc5, hcl5⟩ := Cond.classLink_spec hown hlink e.platform hpl
  cases Option.some.inj (hc4.symm.trans hc5)
  obtain ⟨vm', X', st⟩ := X.thenCaughtThrough q (g := F0 m pc ls rest) rfl (Steps.refl _) (by rw [hT]; exact hcell) (by rw [hv]; rfl) (by obtain ⟨k9, h9, -⟩ := Vm.findClass_spec hcl; exact ⟨k9, h9⟩) pre x suf hsplit
    (fun z hz => by
      rcases hpass z hz with h | ⟨hz0, nm, hl1, hn1⟩
      · exact Or.inl h
      · obtain ⟨c6, hc6, hcl6⟩ := Cond.classLink_spec hown hl1 e.platform hpl
        obtain ⟨a8, b8, h1, h2, h3⟩ := hn1
        cases Option.some.inj (h1.symm.trans hcl)
        cases Option.some.inj (h2.symm.trans hc6)
        exact Or.inr ⟨hz0, _, hcl6, h3⟩) hx (Or.inr ⟨h0, c4, hcl5, hasg⟩)
  obtain ⟨t, a1, b1⟩ := kk (T.setVm vm') hT X'
  exact ⟨t, st.trans a1, b1⟩
end Rows
section Ends
variable {p : Program} {l : Launch} {e : Env} {R : Room} {s : State} {m : MethodId} {args : Array Value} {below : List Frame} {meth : Method} {c : Code} {H : Heap} {locs : List Loc} {cells slots : Nat} {Q : State → Prop}
variable {mc ms : Nat} {free : Addr → Prop} {A0 A1 : Nat → Prop} {H0 : Heap} {a : Array Value} {ls : Array Slot} {st0 rest : List Value}
variable {Qc : Array Value → State → Outcome → State → Prop} {XC : String → State → State → Prop}
/-- what a body that may throw owes at its end -/
def vx_MQ (below : List Frame) (Qc : Array Value → State → Outcome → State → Prop) (XC : String → State → State → Prop) (a : Array Value) (s : State) (mc ms : Nat) (free : Addr → Prop) : State → Prop := fun t =>
  ∃ o, t.status = .running ∧ Ended t below o ∧ vx_Q Qc XC mc ms free a s o t
theorem vx_ret {g : JFrame} {mc ms : Nat} (k : W p l e R s m args below meth c H locs cells slots (MQ below Qc args s mc ms free) g) : W p l e R s m args below meth c H locs cells slots (vx_MQ below Qc XC args s mc ms free) g := by
  intro T hT X
  obtain ⟨t, a1, o, b1, b2, b3, b4⟩ := k T hT X
  exact ⟨t, a1, o, b1, b2, Or.inl ⟨b3, b4⟩⟩
/-- not caught here: it goes on to the caller -/
theorem vx_widen {g : JFrame} {q : Addr} {k n : Nat} (h1 : cells ≤ k) (h2 : slots ≤ n) (kk : vx_W p l e R s m args below meth c H locs k n Q g q) : vx_W p l e R s m args below meth c H locs cells slots Q g q := fun T hT X => kk T hT (stand_widen X h1 h2)
theorem vx_out {pc : Nat} {E : String} {ce : Cell} {q : Addr} {mc ms : Nat} (hout : ∀ x ∈ c.exceptionTable.toList, covers x pc = false) (hlocks : meth.locks = false) (hcell : H[q]? = some ce) (hv : ce.vm = .none) (hcl : s.vm.findClass E = some ce.cls)
    (hx : ∀ t : State, t.heap = H → s.vm.Alike t.vm → XC E s t) (hf : ∀ z ∈ locs, free z.base) (hc : cells ≤ mc) (hs : slots ≤ ms) :
    vx_W p l e R s m args below meth c H locs cells slots (vx_MQ below Qc XC args s mc ms free) (F0 m pc ls rest) q := by
  intro T hT X
  obtain ⟨st1, hrun, hend, hW, hsm⟩ := X.leaveThrown q (g := F0 m pc ls rest) rfl rfl rfl hout hlocks
  have hcell9 : (T.setFrames (.throwing q :: below)).heap[q]? = some ce := by
    show T.heap[q]? = some ce
    rw [hT]; exact hcell
  exact ⟨_, st1, .threw q, hrun, hend, Or.inr ⟨q, rfl, E, ce, locs, hx _ hT hW.alike, hcell9, hv, hcl, hW, hsm.mono hc hs, hf⟩⟩
theorem vx_frame {U : State} {k n : Nat} (h : s.sameButNew ({ U with vm := s.vm } : State) locs k n) : s.heap.size ≤ U.heap.size ∧ ∀ q : Nat, q < s.heap.size → (∀ z ∈ locs, z.base ≠ q) → U.heap[q]? = s.heap[q]? := by
  obtain ⟨-, h2, -, -, -, h6⟩ := h
  refine ⟨h2, fun q hq hz => ?_⟩
  obtain ⟨c9, e1, e2, e3, e4⟩ := h6 q _ (Array.getElem?_eq_getElem hq)
  have hs : c9.slots = (s.heap[q]).slots := Array.ext_getElem? fun i => e4 i fun hm => hz _ hm rfl
  have h9 : c9 = s.heap[q] := by
    rw [hs] at e2
    exact e2
  have e5 : U.heap[q]? = some c9 := e1
  rw [e5, h9, Array.getElem?_eq_getElem hq]
/-- the words of a throw but the four that speak of the heap -/
def vx_no (w : Cond) : Bool := decide (w ≠ .isRef (.static Bundle.tN "UNASSIGNED_STACK" Bundle.steD)) && decide (w ≠ .isRef (.static Bundle.tN "SUPPRESSED_SENTINEL" Bundle.listD)) && decide (w ≠ .laysStatic Bundle.tN "UNASSIGNED_STACK" Bundle.steD) && decide (w ≠ .laysStatic Bundle.tN "SUPPRESSED_SENTINEL" Bundle.listD)
def vx_at0 (own : String) (ic : Nat) (X : String) (names : List String) : List Cond := (Bundle.ownAtoms0 own ic X names).filter vx_no
def vx_atS (own : String) (ic : Nat) (X : String) (names : List String) : List Cond := (Bundle.ownAtoms own ic X names).filter vx_no
/-- a word that the tables alone decide, or a good one -/
def vx_ot (w : Cond) : Bool := w.onTables || goodWord w
theorem vx_ot_at {args a' : Array Value} {s U : State} {w : Cond} (hW : s.WarmedH U.vm) (hvm : s.vm = U.vm) (hg : vx_ot w = true) (h : w.before args s = true) : w.before a' U = true := by
  simp only [vx_ot, Bool.or_eq_true] at hg
  rcases hg with hg | hg
  · exact va_tabs hg hvm h
  · exact word_at hW (good_of_word hg) h
/-- a list's words: the good ones out of the method's own list, the others by premises of their own -/
theorem vx_hat {args : Array Value} {s : State} {L B : List Cond} (h1 : ∀ w ∈ L.filter goodWord, w.before args s = true) (h2 : ∀ w ∈ L.filter (fun w => !goodWord w), w ∈ B) (h3 : ∀ w ∈ B, w.before args s = true) : ∀ w ∈ L, w.before args s = true := by
  intro w hw
  by_cases g : goodWord w = true
  · exact h1 w (List.mem_filter.mpr ⟨hw, g⟩)
  · refine h3 w (h2 w (List.mem_filter.mpr ⟨hw, ?_⟩))
    show (!goodWord w) = true
    cases hgw : goodWord w
    · rfl
    · exact absurd hgw g
theorem vx_c {args : Array Value} {s : State} {w : Cond} {B : List Cond} (h : w.before args s = true) (t : ∀ w ∈ B, w.before args s = true) : ∀ w' ∈ w :: B, w'.before args s = true := fun w' h' => (List.mem_cons.mp h').elim (fun e => by rw [e]; exact h) (t w')
theorem vx_n {args : Array Value} {s : State} : ∀ w ∈ ([] : List Cond), w.before args s = true := fun _ h => nomatch h
theorem vx_own {args : Array Value} {s : State} {L : List Cond} (h1 : ∀ w ∈ L.filter vx_no, w.before args s = true)
    (hU : (Cond.isRef (.static Bundle.tN "UNASSIGNED_STACK" Bundle.steD)).before args s = true) (hN : (Cond.isRef (.static Bundle.tN "SUPPRESSED_SENTINEL" Bundle.listD)).before args s = true)
    (lU : (Cond.laysStatic Bundle.tN "UNASSIGNED_STACK" Bundle.steD).before args s = true) (lN : (Cond.laysStatic Bundle.tN "SUPPRESSED_SENTINEL" Bundle.listD).before args s = true) : ∀ w ∈ L, w.before args s = true := by
  intro w hw
  by_cases e1 : w = .isRef (.static Bundle.tN "UNASSIGNED_STACK" Bundle.steD)
  · rw [e1]; exact hU
  · by_cases e2 : w = .isRef (.static Bundle.tN "SUPPRESSED_SENTINEL" Bundle.listD)
    · rw [e2]; exact hN
    · by_cases e3 : w = .laysStatic Bundle.tN "UNASSIGNED_STACK" Bundle.steD
      · rw [e3]; exact lU
      · by_cases e4 : w = .laysStatic Bundle.tN "SUPPRESSED_SENTINEL" Bundle.listD
        · rw [e4]; exact lN
        · exact h1 w (List.mem_filter.mpr ⟨hw, by unfold vx_no; rw [decide_eq_true e1, decide_eq_true e2, decide_eq_true e3, decide_eq_true e4]; rfl⟩)
/-- where a static field lies, its class's statics cell in H -/
def vx_L (C n d : String) (A : Nat → Prop) (U : State) (H : Heap) : Prop := ∃ (c : ClassId) (k : Class) (i : Nat) (f : Field) (a : Nat) (cell : Cell), U.vm.findClass C = some c ∧ U.fieldFound? C n d = some (c, k, i, f) ∧ f.isStatic = true ∧ k.statics = some a ∧ H[a]? = some cell ∧ cell.vm.isStatics = true ∧ cell.cls = c ∧ f.slot < cell.slots.size ∧ k.staticTypes[f.slot]? = some f.type ∧ ¬ A a
theorem vx_L.moved {C n d : String} {A : Nat → Prop} {u U : State} {H : Heap} (hvm : u.vm.Alike U.vm) (h : vx_L C n d A u H) : vx_L C n d A U H := by
  obtain ⟨c, k, i, f, a, cell, h1, h2, h3, h4, h5, h6, h7, h8, h9, h10⟩ := h
  obtain ⟨k', hi', he⟩ := State.fieldFound?_setVm hvm h2
  exact ⟨c, k', i, f, a, cell, by rw [hvm.findClass]; exact h1, hi', h3, by rw [he]; exact h4, h5, h6, h7, h8, by rw [he]; exact h9, h10⟩
theorem vx_L.kept {C n d : String} {A : Nat → Prop} {U : State} {H H1 : Heap} (h : vx_L C n d A U H) (hq : ∀ a : Nat, a < H.size → ¬ A a → H1[a]? = H[a]?) : vx_L C n d A U H1 := by
  obtain ⟨c, k, i, f, a, cell, h1, h2, h3, h4, h5, h6, h7, h8, h9, h10⟩ := h
  exact ⟨c, k, i, f, a, cell, h1, h2, h3, h4, by rw [hq a (Array.getElem?_eq_some_iff.mp h5).1 h10]; exact h5, h6, h7, h8, h9, h10⟩
theorem vx_L.narrow {C n d : String} {A B : Nat → Prop} {U : State} {H : Heap} (h : vx_L C n d A U H) (hAB : ∀ q, B q → A q) : vx_L C n d B U H := by
  obtain ⟨c, k, i, f, a, cell, h1, h2, h3, h4, h5, h6, h7, h8, h9, h10⟩ := h
  exact ⟨c, k, i, f, a, cell, h1, h2, h3, h4, h5, h6, h7, h8, h9, fun z => h10 (hAB _ z)⟩
theorem vx_L.word {C n d : String} {A : Nat → Prop} {s : State} {args : Array Value} (h : vx_L C n d A s s.heap) : (Cond.laysStatic C n d).before args s = true := by
  obtain ⟨c, k, i, f, a, cell, h1, h2, h3, h4, h5, h6, h7, h8, h9, -⟩ := h
  show (Cond.laysStatic C n d).holds args s none s [] = true
  exact Cond.laysStatic_of h1 h2 h3 h4 h5 h6 h7 h8 h9
/-- .. and what it holds: null or some reference -/
def vx_Zq (C n d : String) (A : Nat → Prop) (U : State) (H : Heap) : Prop := va_Zq C n d A U H ∧ vx_L C n d A U H
theorem vx_Zq.moved {C n d : String} {A : Nat → Prop} {u U : State} {H : Heap} (hvm : u.vm.Alike U.vm) (h : vx_Zq C n d A u H) : vx_Zq C n d A U H := ⟨va_Zq.moved hvm h.1, vx_L.moved hvm h.2⟩
theorem vx_Zq.kept {C n d : String} {A : Nat → Prop} {U : State} {H H1 : Heap} (h : vx_Zq C n d A U H) (hq : ∀ a : Nat, a < H.size → ¬ A a → H1[a]? = H[a]?) : vx_Zq C n d A U H1 := ⟨va_Zq.kept h.1 hq, vx_L.kept h.2 hq⟩
theorem vx_Zq.narrow {C n d : String} {A B : Nat → Prop} {U : State} {H : Heap} (h : vx_Zq C n d A U H) (hAB : ∀ q, B q → A q) : vx_Zq C n d B U H := ⟨va_Zq.narrow h.1 hAB, vx_L.narrow h.2 hAB⟩
theorem vx_Zqof {args : Array Value} {s : State} {C n d : String} {A : Nat → Prop} (hl : (Cond.laysStatic C n d).before args s = true) (hini : (Cond.initialized C).before args s = true) (h : (Cond.isRef (.static C n d)).before args s = true) (hA : ∀ a : Nat, a < s.heap.size → ¬ A a) : vx_Zq C n d A s s.heap := by
  refine ⟨va_Zqof hl hini h hA, ?_⟩
  obtain ⟨c, k, i, f, a, cell, h1, h2, h3, h4, h5, h6, h7, h8, h9⟩ := Cond.laysStatic_spec hl
  exact ⟨c, k, i, f, a, cell, h1, h2, h3, h4, h5, h6, h7, h8, h9, hA a (Array.getElem?_eq_some_iff.mp h5).1⟩
theorem vx_isRef {C n d : String} {v : Value} {A : Nat → Prop} {s : State} {args : Array Value} (h : va_Z C n d v A s s.heap) (hv : v.isRef = true) : (Cond.isRef (.static C n d)).before args s = true := by
  obtain ⟨cf, kf, fi, f, a, cell, h1, h2, h3, h4, h5, h6, h7, -⟩ := h
  have he : (Term.static C n d).eval args s none [] s = some v := by
    simp [Term.eval, State.fieldNamed?, h1, h2, h4, h5, h6, h7]
  simp only [Cond.before, Cond.holds, Cond.value, he]
  cases v <;> simp_all [Value.isRef]
theorem vx_isRefq {C n d : String} {A : Nat → Prop} {s : State} {args : Array Value} (h : va_Zq C n d A s s.heap) : (Cond.isRef (.static C n d)).before args s = true := by
  rcases h with h | ⟨t, h⟩
  · exact vx_isRef h rfl
  · exact vx_isRef h rfl
/-- the same frame, seen from here: as if the method were called anew in this heap -/
theorem vx_rebase {T : State} (X : Stand p l e R s m args below meth c T locs cells slots) {R' : Room} (hf : R'.frames ≤ R.frames) (hl : R'.locals ≤ R.locals) (hc : cells + R'.cells ≤ R.cells) (hs : slots + R'.slots ≤ R.slots) :
    Stand p l e R' ((T.setVm s.vm).setFrames (.invoking m args :: below)) m args below meth c T [] 0 0 := by
  have htop : (T.setVm s.vm).topJava?.isSome := X.here.top
  have hF : ((T.setVm s.vm).setFrames (.invoking m args :: below)).frames = .invoking m args :: below := State.frames_setFrames _ (State.cur_lt_of_top htop)
  obtain ⟨g₀, hg0⟩ := Option.isSome_iff_exists.mp htop
  obtain ⟨r, hr⟩ := State.topJava?_eq_some.mp hg0
  have hl9 : e.platform.stackLimits (T.setVm s.vm).me = e.platform.stackLimits s.me := X.limits
  have hb9 : (T.setVm s.vm).me.stackBytes = s.me.stackBytes := X.bytes
  refine ⟨X.admits, X.cas, X.clock, hF, ?_, X.hears, X.method, X.code, X.here, X.tail, X.warmed, ?_, ?_, ?_⟩
  · have h := X.room
    have hU : ((T.setVm s.vm).setFrames (.invoking m args :: below)).localsInUse = s.localsInUse := by
      rw [State.localsInUse_invoking hF (meth := meth) (c := c) X.method X.code, State.localsInUse_invoking X.frames X.method X.code]
    simp only [State.hasRoom, Bool.and_eq_true, decide_eq_true_eq] at h ⊢
    obtain ⟨⟨⟨⟨h1, h2, h3, h4, h5, h6⟩, h7⟩, h8⟩, h9⟩ := h
    rw [X.frames, List.length_cons] at h2 h3
    have q1 := X.heapSize
    have q2 := X.used
    simp only [hF, hU, List.length_cons, State.stackLimits_setFrames, State.stackBytes_setFrames, hl9, hb9]
    refine ⟨⟨⟨⟨by omega, by omega, by omega, by omega, by omega, h6⟩, ?_⟩, ?_⟩, X.book⟩
    · show T.heap.size + R'.cells ≤ e.platform.maxCells
      omega
    · show T.slotsUsed + R'.slots ≤ e.platform.maxSlots
      omega
  · rw [State.stackLimits_setFrames]; rfl
  · rw [State.stackBytes_setFrames]; rfl
  · refine ⟨?_, Nat.le_refl _, Nat.le_refl _, ?_, ?_, fun a c9 h9 => ⟨c9, h9, rfl, rfl, fun _ _ => rfl⟩⟩
    · obtain ⟨t, ht, -⟩ := State.frames_cons hr
      show T.setVm s.vm = { ((T.setVm s.vm).setFrames (.invoking m args :: below)).setFrames (T.setVm s.vm).frames with heap := T.heap, slotsUsed := T.slotsUsed }
      rw [State.setFrames_setFrames, State.setFrames_self ht]
      rfl
    · show T.slotsUsed = T.slotsUsed + ((T.heap.toList.drop T.heap.size).map (·.slots.size)).sum
      rw [List.drop_eq_nil_of_le (Nat.le_of_eq Array.length_toList)]
      rfl
    · show ((T.heap.toList.drop T.heap.size).map (·.slots.size)).sum ≤ 0
      rw [List.drop_eq_nil_of_le (Nat.le_of_eq Array.length_toList)]
      exact Nat.le_refl _
/-- 'throw new E()': new; dup; invokespecial; athrow -/
theorem vx_throw0 {cc : ByteArray} {pc : Nat} (hexec : p.tables.exec = Jvm.exec) (hb : c.code = cc) (hl : l.stackTraces = false) {own cls : String} {names : List String} {ik ic mc ms : Nat} {A : Nat → Prop}
    (hown : s.vm.findClass own = some m.cls) (hcls : Bundle.fit cls = true) (hnames : ∀ n ∈ names, Bundle.fit n = true)
    (hk : (Cond.classLink own ik cls).before args s = true) (hini : (Cond.initialized cls).before args s = true) (hat : ∀ w ∈ vx_at0 own ic cls names, w.before args s = true)
    (hgood : ∀ w ∈ Cond.classLink own ik cls :: Cond.initialized cls :: vx_at0 own ic cls names, vx_ot w = true)
    (hU : vx_Zq Bundle.tN "UNASSIGNED_STACK" Bundle.steD A s s.heap) (hN : vx_Zq Bundle.tN "SUPPRESSED_SENTINEL" Bundle.listD A s s.heap) (hS : va_S A s.heap H locs) (hsize : ls.size = c.maxLocals)
    (d0 : decode cc pc = .ok (.new ik, 3)) (d3 : decode cc (pc + 3) = .ok (.dup, 1)) (d4 : decode cc (pc + 4) = .ok (.invokespecial ic, 3)) (d7 : decode cc (pc + 7) = .ok (.athrow, 1))
    (hout : ∀ x ∈ c.exceptionTable.toList, covers x (pc + 7) = false)
    (hRframes : names.length + 3 < R.frames) (hRlocals : (rest.map fun v => v.category).sum + (13 * (names.length + 1) + 42) ≤ R.locals) (hRcells : cells + 1 ≤ R.cells) (hRslots : slots + 6 ≤ R.slots) (hlocks : meth.locks = false)
    (hx : ∀ t : State, s.vm.Alike t.vm → H.size ≤ t.heap.size → (∀ q : Nat, q < H.size → t.heap[q]? = H[q]?) → XC cls s t)
    (hf : ∀ z ∈ locs, free z.base) (hc : cells + 1 ≤ mc) (hs : slots + 6 ≤ ms) :
    W p l e R s m args below meth c H locs cells slots (vx_MQ below Qc XC args s mc ms free) (F0 m pc ls rest) := by
  intro T hT X
  have htr : e.platform.stackTraces = false := (show e.platform.stackTraces = l.stackTraces by rw [X.admits.platform]).trans hl
  have Y := vx_rebase X (R' := { frames := R.frames, locals := R.locals, cells := 1, slots := 6 }) (Nat.le_refl _) (Nat.le_refl _) hRcells hRslots
  obtain ⟨s', hA⟩ : ∃ z, z = (T.setVm s.vm).setFrames (.invoking m args :: below) := ⟨_, rfl⟩
  rw [← hA] at Y
  have hvm : s'.vm = s.vm := by rw [hA]; rfl
  have hhp : s'.heap = H := by rw [hA]; exact hT
  have hW0 : s.WarmedH s'.vm := by rw [hvm]; exact State.WarmedH.refl s
  have hat' : ∀ w ∈ vx_at0 own ic cls names, w.before args s' = true := fun w hw => vx_ot_at hW0 hvm.symm (hgood w (List.mem_cons_of_mem _ (List.mem_cons_of_mem _ hw))) (hat w hw)
  have hk' : (Cond.classLink own ik cls).before args s' = true := vx_ot_at hW0 hvm.symm (hgood _ List.mem_cons_self) hk
  have hini' : (Cond.initialized cls).before args s' = true := vx_ot_at hW0 hvm.symm (hgood _ (List.mem_cons_of_mem _ List.mem_cons_self)) hini
  have hU' : vx_Zq Bundle.tN "UNASSIGNED_STACK" Bundle.steD A s' s'.heap := by rw [hhp]; exact vx_Zq.moved hW0.alike (hU.kept hS.2.1)
  have hN' : vx_Zq Bundle.tN "SUPPRESSED_SENTINEL" Bundle.listD A s' s'.heap := by rw [hhp]; exact vx_Zq.moved hW0.alike (hN.kept hS.2.1)
  have h : ∀ w ∈ Bundle.ownAtoms0 own ic cls names, w.before args s' = true := vx_own hat' (vx_isRefq hU'.1) (vx_isRefq hN'.1) hU'.2.word hN'.2.word
  have hown' : s'.vm.findClass own = some m.cls := by rw [hvm]; exact hown
  have hins : (Cond.instantiable cls 6).before args s' = true := h _ (by simp [Bundle.ownAtoms0])
  obtain ⟨vm₁, cX, kX, hfX, hkX, -, -, X₁, st1⟩ := Y.newCold hexec (own := own) (C := cls) (index := ik) (n := 6) hown' hk' hins hini'
    (g := F0 m pc ls rest) rfl (by rw [hb]; exact d0) (Nat.le_refl _) (Nat.le_refl _)
  generalize hT1 : (T.setVm vm₁).pushCell { cls := cX, slots := kX.instanceTypes.map defaultValue, vm := .none } = T1 at X₁ st1
  have hcat : (Value.ref T.heap.size).category = 1 := rfl
  have hcellA : T1.heap[T.heap.size]? = some (freshCell cX kX) := by rw [← hT1]; exact State.heap_pushCell_size _ _
  have d3' : decode c.code (pc + 3) = .ok (.dup, 1) := by rw [hb]; exact d3
  obtain ⟨U, hsteps, hrun, hend, hW, hsame, ce, hce, hO⟩ := X₁.ctorThrow0 hexec htr (own := own) (cls := cls) (names := names) (ic := ic) hown' hcls hnames h (fun x hx => nomatch hx) hfX hkX hcellA (by rw [hhp, hT]; exact Nat.le_refl _)
    (g := { method := m, pc := pc + 4, locals := ls, stack := .ref T.heap.size :: .ref T.heap.size :: rest, locked := none }) rfl hsize rfl rfl (rest := rest) rfl
    (by rw [hb]; exact d4) (by rw [hb]; exact d7) hout hRframes (by simp only [List.map_cons, List.sum_cons, hcat]; omega) hlocks
  obtain ⟨f1, f2⟩ := vx_frame hsame
  rw [hhp] at f1 f2
  have hWs : s.WarmedH U.vm := State.WarmedH.trans hW0 hW
  have hcl : s.vm.findClass cls = some ce.cls := by
    have h9 := hO.cls
    rw [hvm] at h9
    exact h9
  have hall : s.sameButNew ({ U with vm := s.vm } : State) locs mc ms := by
    subst hA
    obtain ⟨e1, e2⟩ := hsame
    rw [State.setFrames_setFrames] at e1
    have h2 : (T.setVm s.vm).sameButNew ({ U with vm := s.vm } : State) [] (0 + 1) (0 + 6) := ⟨e1, e2⟩
    have h3 := X.same.trans h2
    rw [List.append_nil] at h3
    exact h3.mono hc hs
  refine ⟨U, ?_, .threw T.heap.size, hrun, hend, Or.inr ⟨T.heap.size, rfl, cls, ce, locs, hx U hWs.alike f1 (fun q hq => f2 q hq (fun z hz => nomatch hz)), hce, hO.vm, hcl, hWs, hall, hf⟩⟩
  refine st1 _ ?_
  show Steps p.tables e below (T1.setTop { method := m, pc := pc + 3, locals := ls, stack := .ref T.heap.size :: rest, locked := none }) _
  jvm_step X₁.here [X₁.here.top, hexec, d3', Value.category]
  exact hsteps
/-- 'throw new E("text")': new; dup; ldc; invokespecial; athrow -/
theorem vx_throwS {cc : ByteArray} {pc : Nat} (hexec : p.tables.exec = Jvm.exec) (hb : c.code = cc) (hl : l.stackTraces = false) {own cls text : String} {names : List String} {ik is ic mc ms sa : Nat} {A : Nat → Prop}
    (hown : s.vm.findClass own = some m.cls) (hcls : Bundle.fit cls = true) (hnames : ∀ n ∈ names, Bundle.fit n = true)
    (hk : (Cond.classLink own ik cls).before args s = true) (hini : (Cond.initialized cls).before args s = true) (hstr : vk_R own is text sa s) (hat : ∀ w ∈ vx_atS own ic cls names, w.before args s = true)
    (hgood : ∀ w ∈ Cond.classLink own ik cls :: Cond.initialized cls :: vx_atS own ic cls names, vx_ot w = true)
    (hU : vx_Zq Bundle.tN "UNASSIGNED_STACK" Bundle.steD A s s.heap) (hN : vx_Zq Bundle.tN "SUPPRESSED_SENTINEL" Bundle.listD A s s.heap) (hS : va_S A s.heap H locs) (hsize : ls.size = c.maxLocals)
    (d0 : decode cc pc = .ok (.new ik, 3)) (d3 : decode cc (pc + 3) = .ok (.dup, 1)) (d4 : decode cc (pc + 4) = .ok (.ldc is, 2)) (d6 : decode cc (pc + 6) = .ok (.invokespecial ic, 3)) (d9 : decode cc (pc + 9) = .ok (.athrow, 1))
    (hout : ∀ x ∈ c.exceptionTable.toList, covers x (pc + 9) = false)
    (hRframes : names.length + 3 < R.frames) (hRlocals : (rest.map fun v => v.category).sum + (13 * (names.length + 1) + 43) ≤ R.locals) (hRcells : cells + 1 ≤ R.cells) (hRslots : slots + 6 ≤ R.slots) (hlocks : meth.locks = false)
    (hx : ∀ t : State, s.vm.Alike t.vm → H.size ≤ t.heap.size → (∀ q : Nat, q < H.size → t.heap[q]? = H[q]?) → XC cls s t)
    (hf : ∀ z ∈ locs, free z.base) (hc : cells + 1 ≤ mc) (hs : slots + 6 ≤ ms) :
    W p l e R s m args below meth c H locs cells slots (vx_MQ below Qc XC args s mc ms free) (F0 m pc ls rest) := by
  intro T hT X
  have htr : e.platform.stackTraces = false := (show e.platform.stackTraces = l.stackTraces by rw [X.admits.platform]).trans hl
  have Y := vx_rebase X (R' := { frames := R.frames, locals := R.locals, cells := 1, slots := 6 }) (Nat.le_refl _) (Nat.le_refl _) hRcells hRslots
  obtain ⟨s', hA⟩ : ∃ z, z = (T.setVm s.vm).setFrames (.invoking m args :: below) := ⟨_, rfl⟩
  rw [← hA] at Y
  have hvm : s'.vm = s.vm := by rw [hA]; rfl
  have hhp : s'.heap = H := by rw [hA]; exact hT
  have hW0 : s.WarmedH s'.vm := by rw [hvm]; exact State.WarmedH.refl s
  have hat' : ∀ w ∈ vx_atS own ic cls names, w.before args s' = true := fun w hw => vx_ot_at hW0 hvm.symm (hgood w (List.mem_cons_of_mem _ (List.mem_cons_of_mem _ hw))) (hat w hw)
  have hk' : (Cond.classLink own ik cls).before args s' = true := vx_ot_at hW0 hvm.symm (hgood _ List.mem_cons_self) hk
  have hini' : (Cond.initialized cls).before args s' = true := vx_ot_at hW0 hvm.symm (hgood _ (List.mem_cons_of_mem _ List.mem_cons_self)) hini
  have hU' : vx_Zq Bundle.tN "UNASSIGNED_STACK" Bundle.steD A s' s'.heap := by rw [hhp]; exact vx_Zq.moved hW0.alike (hU.kept hS.2.1)
  have hN' : vx_Zq Bundle.tN "SUPPRESSED_SENTINEL" Bundle.listD A s' s'.heap := by rw [hhp]; exact vx_Zq.moved hW0.alike (hN.kept hS.2.1)
  have h : ∀ w ∈ Bundle.ownAtoms own ic cls names, w.before args s' = true := vx_own hat' (vx_isRefq hU'.1) (vx_isRefq hN'.1) hU'.2.word hN'.2.word
  have hown' : s'.vm.findClass own = some m.cls := by rw [hvm]; exact hown
  have hins : (Cond.instantiable cls 6).before args s' = true := h _ (by simp [Bundle.ownAtoms])
  obtain ⟨vm₁, cX, kX, hfX, hkX, -, -, X₁, st1⟩ := Y.newCold hexec (own := own) (C := cls) (index := ik) (n := 6) hown' hk' hins hini'
    (g := F0 m pc ls rest) rfl (by rw [hb]; exact d0) (Nat.le_refl _) (Nat.le_refl _)
  generalize hT1 : (T.setVm vm₁).pushCell { cls := cX, slots := kX.instanceTypes.map defaultValue, vm := .none } = T1 at X₁ st1
  have hcat : (Value.ref T.heap.size).category = 1 := rfl
  have hcellA : T1.heap[T.heap.size]? = some (freshCell cX kX) := by rw [← hT1]; exact State.heap_pushCell_size _ _
  have d3' : decode c.code (pc + 3) = .ok (.dup, 1) := by rw [hb]; exact d3
  have d4' : decode c.code (pc + 4) = .ok (.ldc is, 2) := by rw [hb]; exact d4
  have hstr' : vk_R own is text sa s' := vk_R.warm hW0 hstr
  obtain ⟨U, hsteps, hrun, hend, hW, hsame, ce, hce, hO⟩ := X₁.ctorThrowS hexec htr (own := own) (cls := cls) (names := names) (ic := ic) hown' hcls hnames h (fun x hx => nomatch hx) hfX hkX hcellA (by rw [hhp, hT]; exact Nat.le_refl _) (msg := .ref sa) rfl
    (g := { method := m, pc := pc + 6, locals := ls, stack := .ref sa :: .ref T.heap.size :: .ref T.heap.size :: rest, locked := none }) rfl hsize rfl rfl (rest := rest) rfl
    (by rw [hb]; exact d6) (by rw [hb]; exact d9) hout hRframes (by simp only [List.map_cons, List.sum_cons, hcat]; omega) hlocks
  obtain ⟨f1, f2⟩ := vx_frame hsame
  rw [hhp] at f1 f2
  have hWs : s.WarmedH U.vm := State.WarmedH.trans hW0 hW
  have hcl : s.vm.findClass cls = some ce.cls := by
    have h9 := hO.cls
    rw [hvm] at h9
    exact h9
  have hall : s.sameButNew ({ U with vm := s.vm } : State) locs mc ms := by
    subst hA
    obtain ⟨e1, e2⟩ := hsame
    rw [State.setFrames_setFrames] at e1
    have h2 : (T.setVm s.vm).sameButNew ({ U with vm := s.vm } : State) [] (0 + 1) (0 + 6) := ⟨e1, e2⟩
    have h3 := X.same.trans h2
    rw [List.append_nil] at h3
    exact h3.mono hc hs
  refine ⟨U, ?_, .threw T.heap.size, hrun, hend, Or.inr ⟨T.heap.size, rfl, cls, ce, locs, hx U hWs.alike f1 (fun q hq => f2 q hq (fun z hz => nomatch hz)), hce, hO.vm, hcl, hWs, hall, hf⟩⟩
  refine st1 _ ?_
  show Steps p.tables e below (T1.setTop { method := m, pc := pc + 3, locals := ls, stack := .ref T.heap.size :: rest, locked := none }) _
  jvm_step X₁.here [X₁.here.top, hexec, d3', Value.category]
  exact X₁.ldcString hexec (own := own) (text := text) (index := is) (a := sa) hown' hstr'.1 hstr'.2
    (g := { method := m, pc := pc + 4, locals := ls, stack := .ref T.heap.size :: .ref T.heap.size :: rest, locked := none }) rfl d4' _ hsteps
/-- 'throw new E("text")', the text by a wide index -/
theorem vx_throwSW {cc : ByteArray} {pc : Nat} (hexec : p.tables.exec = Jvm.exec) (hb : c.code = cc) (hl : l.stackTraces = false) {own cls text : String} {names : List String} {ik is ic mc ms sa : Nat} {A : Nat → Prop}
    (hown : s.vm.findClass own = some m.cls) (hcls : Bundle.fit cls = true) (hnames : ∀ n ∈ names, Bundle.fit n = true)
    (hk : (Cond.classLink own ik cls).before args s = true) (hini : (Cond.initialized cls).before args s = true) (hstr : vk_R own is text sa s) (hat : ∀ w ∈ vx_atS own ic cls names, w.before args s = true)
    (hgood : ∀ w ∈ Cond.classLink own ik cls :: Cond.initialized cls :: vx_atS own ic cls names, vx_ot w = true)
    (hU : vx_Zq Bundle.tN "UNASSIGNED_STACK" Bundle.steD A s s.heap) (hN : vx_Zq Bundle.tN "SUPPRESSED_SENTINEL" Bundle.listD A s s.heap) (hS : va_S A s.heap H locs) (hsize : ls.size = c.maxLocals)
    (d0 : decode cc pc = .ok (.new ik, 3)) (d3 : decode cc (pc + 3) = .ok (.dup, 1)) (d4 : decode cc (pc + 4) = .ok (.ldc_w is, 3)) (d7 : decode cc (pc + 7) = .ok (.invokespecial ic, 3)) (d10 : decode cc (pc + 10) = .ok (.athrow, 1))
    (hout : ∀ x ∈ c.exceptionTable.toList, covers x (pc + 10) = false)
    (hRframes : names.length + 3 < R.frames) (hRlocals : (rest.map fun v => v.category).sum + (13 * (names.length + 1) + 43) ≤ R.locals) (hRcells : cells + 1 ≤ R.cells) (hRslots : slots + 6 ≤ R.slots) (hlocks : meth.locks = false)
    (hx : ∀ t : State, s.vm.Alike t.vm → H.size ≤ t.heap.size → (∀ q : Nat, q < H.size → t.heap[q]? = H[q]?) → XC cls s t)
    (hf : ∀ z ∈ locs, free z.base) (hc : cells + 1 ≤ mc) (hs : slots + 6 ≤ ms) :
    W p l e R s m args below meth c H locs cells slots (vx_MQ below Qc XC args s mc ms free) (F0 m pc ls rest) := by
  intro T hT X
  have htr : e.platform.stackTraces = false := (show e.platform.stackTraces = l.stackTraces by rw [X.admits.platform]).trans hl
  have Y := vx_rebase X (R' := { frames := R.frames, locals := R.locals, cells := 1, slots := 6 }) (Nat.le_refl _) (Nat.le_refl _) hRcells hRslots
  obtain ⟨s', hA⟩ : ∃ z, z = (T.setVm s.vm).setFrames (.invoking m args :: below) := ⟨_, rfl⟩
  rw [← hA] at Y
  have hvm : s'.vm = s.vm := by rw [hA]; rfl
  have hhp : s'.heap = H := by rw [hA]; exact hT
  have hW0 : s.WarmedH s'.vm := by rw [hvm]; exact State.WarmedH.refl s
  have hat' : ∀ w ∈ vx_atS own ic cls names, w.before args s' = true := fun w hw => vx_ot_at hW0 hvm.symm (hgood w (List.mem_cons_of_mem _ (List.mem_cons_of_mem _ hw))) (hat w hw)
  have hk' : (Cond.classLink own ik cls).before args s' = true := vx_ot_at hW0 hvm.symm (hgood _ List.mem_cons_self) hk
  have hini' : (Cond.initialized cls).before args s' = true := vx_ot_at hW0 hvm.symm (hgood _ (List.mem_cons_of_mem _ List.mem_cons_self)) hini
  have hU' : vx_Zq Bundle.tN "UNASSIGNED_STACK" Bundle.steD A s' s'.heap := by rw [hhp]; exact vx_Zq.moved hW0.alike (hU.kept hS.2.1)
  have hN' : vx_Zq Bundle.tN "SUPPRESSED_SENTINEL" Bundle.listD A s' s'.heap := by rw [hhp]; exact vx_Zq.moved hW0.alike (hN.kept hS.2.1)
  have h : ∀ w ∈ Bundle.ownAtoms own ic cls names, w.before args s' = true := vx_own hat' (vx_isRefq hU'.1) (vx_isRefq hN'.1) hU'.2.word hN'.2.word
  have hown' : s'.vm.findClass own = some m.cls := by rw [hvm]; exact hown
  have hins : (Cond.instantiable cls 6).before args s' = true := h _ (by simp [Bundle.ownAtoms])
  obtain ⟨vm₁, cX, kX, hfX, hkX, -, -, X₁, st1⟩ := Y.newCold hexec (own := own) (C := cls) (index := ik) (n := 6) hown' hk' hins hini'
    (g := F0 m pc ls rest) rfl (by rw [hb]; exact d0) (Nat.le_refl _) (Nat.le_refl _)
  generalize hT1 : (T.setVm vm₁).pushCell { cls := cX, slots := kX.instanceTypes.map defaultValue, vm := .none } = T1 at X₁ st1
  have hcat : (Value.ref T.heap.size).category = 1 := rfl
  have hcellA : T1.heap[T.heap.size]? = some (freshCell cX kX) := by rw [← hT1]; exact State.heap_pushCell_size _ _
  have d3' : decode c.code (pc + 3) = .ok (.dup, 1) := by rw [hb]; exact d3
  have d4' : decode c.code (pc + 4) = .ok (.ldc_w is, 3) := by rw [hb]; exact d4
  have hstr' : vk_R own is text sa s' := vk_R.warm hW0 hstr
  obtain ⟨U, hsteps, hrun, hend, hW, hsame, ce, hce, hO⟩ := X₁.ctorThrowS hexec htr (own := own) (cls := cls) (names := names) (ic := ic) hown' hcls hnames h (fun x hx => nomatch hx) hfX hkX hcellA (by rw [hhp, hT]; exact Nat.le_refl _) (msg := .ref sa) rfl
    (g := { method := m, pc := pc + 7, locals := ls, stack := .ref sa :: .ref T.heap.size :: .ref T.heap.size :: rest, locked := none }) rfl hsize rfl rfl (rest := rest) rfl
    (by rw [hb]; exact d7) (by rw [hb]; exact d10) hout hRframes (by simp only [List.map_cons, List.sum_cons, hcat]; omega) hlocks
  obtain ⟨f1, f2⟩ := vx_frame hsame
  rw [hhp] at f1 f2
  have hWs : s.WarmedH U.vm := State.WarmedH.trans hW0 hW
  have hcl : s.vm.findClass cls = some ce.cls := by
    have h9 := hO.cls
    rw [hvm] at h9
    exact h9
  have hall : s.sameButNew ({ U with vm := s.vm } : State) locs mc ms := by
    subst hA
    obtain ⟨e1, e2⟩ := hsame
    rw [State.setFrames_setFrames] at e1
    have h2 : (T.setVm s.vm).sameButNew ({ U with vm := s.vm } : State) [] (0 + 1) (0 + 6) := ⟨e1, e2⟩
    have h3 := X.same.trans h2
    rw [List.append_nil] at h3
    exact h3.mono hc hs
  refine ⟨U, ?_, .threw T.heap.size, hrun, hend, Or.inr ⟨T.heap.size, rfl, cls, ce, locs, hx U hWs.alike f1 (fun q hq => f2 q hq (fun z hz => nomatch hz)), hce, hO.vm, hcl, hWs, hall, hf⟩⟩
  refine st1 _ ?_
  show Steps p.tables e below (T1.setTop { method := m, pc := pc + 3, locals := ls, stack := .ref T.heap.size :: rest, locked := none }) _
  jvm_step X₁.here [X₁.here.top, hexec, d3', Value.category]
  exact X₁.ldcStringW hexec (own := own) (text := text) (index := is) (a := sa) hown' hstr'.1 hstr'.2
    (g := { method := m, pc := pc + 4, locals := ls, stack := .ref T.heap.size :: .ref T.heap.size :: rest, locked := none }) rfl d4' _ hsteps
end Ends
section Bodies
variable {l : Launch}
theorem vx_ofW {y : MethodName} {ws ws' : List Cond} {rm : Room} {Pc : Array Value → State → Prop} {Qc : Array Value → State → Outcome → State → Prop} {XC : String → State → State → Prop} {mc ms : Nat} {free : Addr → Prop} {cc : ByteArray} {maxL : Nat} {ret : Option FieldType}
    (hy : plainName y.cls = true) (hw : ws = Cond.code y cc maxL ret :: ws')
    (body : ∀ p e s m args below meth c s₁, BodyLoose p l y (headSpec ws rm) cc maxL ret e s m args below meth c s₁ → c.maxLocals = maxL → (∀ x ∈ c.exceptionTable.toList, False) → Pc args s →
      W p l e (headSpec ws rm).room s m args below meth c s.heap [] 0 0 (vx_MQ below Qc XC args s mc ms free) (entryFrame m args maxL)) : vx_Met l y ws rm Pc Qc XC mc ms free := by
  refine MetFree.of_bodyS (code := cc) (maxLocals := maxL) (ret := ret) hy ?_ ?_
  · intro args s m h hn
    obtain ⟨meth, c, h1, h2, h3, h4, h5, h6, -, -⟩ := Cond.code_spec hn (atoms_spec (ws := ws) h _ (by rw [hw]; exact List.mem_cons_self))
    exact ⟨meth, c, h1, h2, h3, h4, h5, h6⟩
  · intro p e s m args below meth c s₁ B hml hP _
    have hh0 : s₁.heap = s.heap := by rw [B.state]; rfl
    have ht : ∀ x ∈ c.exceptionTable.toList, False := by
      obtain ⟨meth9, c9, h1, h2, -, -, -, -, h7, -⟩ := Cond.code_spec B.named (atoms_spec (ws := ws) B.pre _ (by rw [hw]; exact List.mem_cons_self))
      cases Option.some.inj (h1.symm.trans B.method)
      cases Option.some.inj (h2.symm.trans (Stand.of_body B).code)
      intro x hx
      rw [Array.isEmpty_iff.mp h7] at hx
      cases hx
    obtain ⟨t, a1, o, b1, b2, b3⟩ := body p e s m args below meth c s₁ B hml ht hP s₁ hh0 (Stand.of_body B)
    exact ⟨t, o, a1, b1, b2, b3⟩
/-- the table of a body with handlers -/
theorem vx_table {p : Program} {x y : MethodName} {S : Spec} {cc bytes : ByteArray} {maxL maxL' : Nat} {ret ret' : Option FieldType} {e : Env} {s s₁ : State} {m : MethodId} {args : Array Value} {below : List Frame} {meth : Method} {c : Code} {hh : List (Nat × Nat × Nat × Nat)}
    (B : BodyLoose p l y S cc maxL ret e s m args below meth c s₁) (h : (Cond.codeWith y bytes maxL' ret' hh).before args s = true) : c.exceptionTable.toList = tableOf hh := by
  obtain ⟨m9, meth9, c9, hn9, h1, h2, -, -, h6, -⟩ := Cond.codeWith_spec h
  cases Option.some.inj (hn9.symm.trans B.named)
  cases Option.some.inj (h1.symm.trans B.method)
  cases Option.some.inj (h2.symm.trans (Stand.of_body B).code)
  rw [← h6, table_eq]
end Bodies
end VXA
/-! ===== END ===== -/
/-! ===== BEGIN a static call of a method with an exception table ===== -/
section VXS
variable {p : Program} {l : Launch} {e : Env} {R : Room} {s : State} {m : MethodId} {args : Array Value} {below : List Frame} {meth : Method} {c : Code} {T : State} {H : Heap} {locs : List Loc} {cells slots : Nat}
abbrev vx_CSW (R : Room) (s : State) (args : Array Value) (own : String) (index : Nat) (y : MethodName) (bytes : ByteArray) (maxL : Nat) (ret : Option FieldType) (hh : List (Nat × Nat × Nat × Nat)) (ws : List Cond) (rm : Room) (mc ms n : Nat) : Prop :=
  (rm.cells = mc ∧ rm.slots = ms ∧ rm.frames + 1 ≤ R.frames ∧ 8 + (maxL + 11) + rm.locals ≤ R.locals ∧ (∀ w ∈ ws, ∀ (a' : Array Value) (U : State), s.WarmedH U.vm → w.before a' U = true) ∧ Cond.codeWith y bytes maxL ret hh ∈ ws) ∧
  (Cond.codeWith y bytes maxL ret hh).before args s = true ∧ (Cond.initialized y.cls).before args s = true ∧ (y.cls ≠ "java/lang/invoke/MethodHandle" ∧ y.cls ≠ "java/lang/invoke/VarHandle") ∧
  (∀ sig, parseMethodDescriptor y.desc = some sig → n = sig.parameters.length) ∧ (Cond.methodLink own index y).before args s = true ∧ (Cond.static y).before args s = true
theorem vx_cwSW {own : String} {index maxL mc ms : Nat} {y : MethodName} {bytes : ByteArray} {ret : Option FieldType} {hh : List (Nat × Nat × Nat × Nat)} {Ts ws ws' : List Cond} {rm : Room} (n : Nat) (ht : ∀ w ∈ Ts, w.before args s = true) (hT : GoodIn Ts (va_wsS own index y ws)) (hw : ws = Cond.codeWith y bytes maxL ret hh :: ws') (hrc : rm.cells = mc) (hrs : rm.slots = ms)
    (hd : y.cls ≠ "java/lang/invoke/MethodHandle" ∧ y.cls ≠ "java/lang/invoke/VarHandle" ∧ (parseMethodDescriptor y.desc).map (fun d => d.parameters.length) = some n) (hR : rm.frames + 1 ≤ R.frames ∧ 8 + (maxL + 11) + rm.locals ≤ R.locals) :
    vx_CSW R s args own index y bytes maxL ret hh ws rm mc ms n := by
  have ok : ∀ w ∈ va_wsS own index y ws, w.before args s = true := fun w h => ht w (hT w h).1
  have hG : GoodIn Ts ws := fun w h => hT w (by unfold va_wsS; exact List.mem_append_right _ h)
  have hc : Cond.codeWith y bytes maxL ret hh ∈ ws := by rw [hw]; exact List.mem_cons_self
  refine ⟨⟨hrc, hrs, hR.1, hR.2, pay_in ht hG, hc⟩, ht _ (hG _ hc).1, ok _ (by simp [va_wsS]), ⟨hd.1, hd.2.1⟩, fun sig h => ?_, ok _ (by simp [va_wsS]), ok _ (by simp [va_wsS])⟩
  have h2 := hd.2.2
  rw [h] at h2
  exact (Option.some.inj h2).symm
theorem vx_callSW (X : Stand p l e R s m args below meth c T locs cells slots) (hexec : p.tables.exec = Jvm.exec) {own : String} {index : Nat} {y : MethodName} {bytes : ByteArray} {maxL : Nat} {ret : Option FieldType} {hh : List (Nat × Nat × Nat × Nat)}
    (hown : s.vm.findClass own = some m.cls) (hlink : (Cond.methodLink own index y).before args s = true) (hstat : (Cond.static y).before args s = true) (hinit : (Cond.initialized y.cls).before args s = true)
    (hcode : (Cond.codeWith y bytes maxL ret hh).before args s = true) (hy : y.cls ≠ "java/lang/invoke/MethodHandle" ∧ y.cls ≠ "java/lang/invoke/VarHandle")
    {W9 : Nat} {Pre : Pt → Array Value → Prop} {Post : Pt → Array Value → Option Value → Pt → Prop} (hK : Back l R p e below s args y 3 W9 Pre Post)
    {g : JFrame} (hg : g.method = m) (hsize : g.locals.size = c.maxLocals) {argsL rest : List Value} (hlen : ∀ sig, parseMethodDescriptor y.desc = some sig → argsL.length = sig.parameters.length)
    (hstack : g.stack = argsL.reverse ++ rest) (hW : 2 * g.monitorRoom + (rest.map fun v => v.category).sum ≤ W9) (hdg : decode c.code g.pc = .ok (.invokestatic index, 3))
    (hpre : ∀ vm₁, s.WarmedH vm₁ → Pre ⟨T.setVm vm₁, locs, cells, slots⟩ argsL.toArray) :
    ∃ (v : Option Value) (vm₁ : Vm) (B : Pt), s.WarmedH vm₁ ∧ Stand p l e R s m args below meth c B.U B.locs B.cells B.slots ∧ Post ⟨T.setVm vm₁, locs, cells, slots⟩ argsL.toArray v B ∧
      ∀ target, Steps p.tables e below (B.U.setTop { g with pc := g.pc + 3, stack := v.toList ++ rest }) target → Steps p.tables e below (T.setTop g) target := by
  obtain ⟨mk, methM, cM, hnamed, hmethM, -, -, -, -, -, -, hsigM⟩ := Cond.codeWith_spec hcode
  have hstatic : methM.isStatic = true := Cond.static_spec hnamed hmethM hstat
  obtain ⟨kP, hkP, -⟩ := className_of_methodNamed hnamed
  have hinitP : kP.init = .initialized := Cond.initialized_spec (findClass_of_methodNamed hnamed) hkP hinit
  obtain ⟨vm₁, X₁, hstep₁⟩ := X.invokestatic hexec hown hlink hnamed hmethM hstatic hkP hinitP hy (g := g) hg (argsL := argsL) (rest := rest) (hlen _ hsigM) hstack hdg
  obtain ⟨v, B, X', hpost, hsteps⟩ := hK m meth c ⟨T.setVm vm₁, locs, cells, slots⟩ { g with stack := rest } (.invokestatic index) mk argsL.toArray X₁ hg hsize hdg hW (X₁.named hnamed) (hpre vm₁ X₁.warmed)
  exact ⟨v, vm₁, B, X₁.warmed, X', hpost, fun target h => hstep₁ _ fun acts => by rw [doInvoke_state]; exact hsteps.trans h⟩
theorem vx_runSW {y : MethodName} {bytes cc : ByteArray} {maxL nL mc ms n index : Nat} {ret : Option FieldType} {hh : List (Nat × Nat × Nat × Nat)} {ws : List Cond} {rm : Room} {Pc : Array Value → State → Prop} {Qc : Array Value → State → Outcome → State → Prop} {free : Addr → Prop} {Ts : List Cond} {own : String} {As rest : List Value} {g : JFrame}
    (S : CallFix p m c cc nL s args Ts own) (hM : Met l y ws rm Pc Qc mc ms free) (cw : vx_CSW R s args own index y bytes maxL ret hh ws rm mc ms n) (hp : PreS s H Pc As)
    (hg : g.method = m) (hn : As.length = n) (hsize : g.locals.size = nL) (hstack : g.stack = As.reverse ++ rest) (hW : 2 * g.monitorRoom + (rest.map fun v => v.category).sum ≤ 8) (hdg : decode cc g.pc = .ok (.invokestatic index, 3)) (hf : cells + mc ≤ R.cells ∧ slots + ms ≤ R.slots) :
    va_Run p l e R s m args below meth c H locs cells slots mc ms g rest (Qc As.toArray) (free) := by
  obtain ⟨⟨hrc, hrs, hfr, hlo, hws, hcw⟩, hcode, hini, hy, hlen, hl, hstt⟩ := cw
  have hK : Back l R p e below s args y 3 8 (PreOf R mc ms Pc) (PostOf Qc mc ms free) := va_backW (hh := hh) (bytes := bytes) (maxL := maxL) (ret := ret) hM hp.1 hrc hrs hfr hlo hws hcw (fun a' U hW => word_at hW (Or.inl (by first | rfl | simp [Cond.onTables, Cond.keeps, Cond.steady])) hini)
  obtain ⟨hx, hb, hml, ho, -⟩ := S
  intro T hT X
  obtain ⟨v, vm₁, ⟨U', l2, c2, s2⟩, hW₁, X', ⟨g', mk, t, L, e1, e2, hq, h1, hL, h2, h3⟩, st⟩ := vx_callSW X hx (hh := hh) (bytes := bytes) (maxL := maxL) (ret := ret) ho hl hstt hini hcode hy hK hg (hsize.trans hml.symm) (argsL := As) (rest := rest) (fun sig h => hn.trans (hlen sig h)) hstack hW (by rw [hb]; exact hdg)
    (fun vm₁ hW₁ => ⟨hf.1, hf.2, hp.2 (T.setVm vm₁) hT hW₁⟩)
  dsimp only [Pt.U, Pt.locs, Pt.cells, Pt.slots] at X' e1 e2 h1 h2 h3 st
  subst h1; subst h2; subst h3
  exact ⟨v, (T.setVm vm₁).calling g' mk As.toArray, t, U', L, hT, X', hL, e1, e2, hq, st⟩
/-- not caught here, past rows that name other classes: it goes on to the caller -/
theorem vx_outP {p : Program} {l : Launch} {e : Env} {R : Room} {s : State} {m : MethodId} {args : Array Value} {below : List Frame} {meth : Method} {c : Code} {H : Heap} {locs : List Loc} {cells slots : Nat} {free : Addr → Prop} {ls : Array Slot} {rest : List Value} {Qc : Array Value → State → Outcome → State → Prop} {XC : String → State → State → Prop}
    {pc : Nat} {own E : String} {ce : Cell} {q : Addr} {mc ms : Nat} (hown : s.vm.findClass own = some m.cls) (hlocks : meth.locks = false)
    (hpass : ∀ z ∈ c.exceptionTable.toList, covers z pc = false ∨ (z.catchType ≠ 0 ∧ ∃ nm : String, (Cond.classLink own z.catchType nm).before args s = true ∧ va_Nc E nm s)) (hcell : H[q]? = some ce) (hv : ce.vm = .none) (hcl : s.vm.findClass E = some ce.cls)
    (hx : ∀ t : State, t.heap = H → s.vm.Alike t.vm → XC E s t) (hf : ∀ z ∈ locs, free z.base) (hc : cells ≤ mc) (hs : slots ≤ ms) :
    vx_W p l e R s m args below meth c H locs cells slots (vx_MQ below Qc XC args s mc ms free) (F0 m pc ls rest) q := by
  intro T hT X
  have hpl : e.platform.magicAccessors = ({} : Platform).magicAccessors := by rw [X.admits.platform]
  obtain ⟨vm', hW', X', st⟩ := X.outThrough hlocks q (g := F0 m pc ls rest) rfl rfl rfl (cell := ce) (by rw [hT]; exact hcell) (by rw [hv]; rfl)
    (by obtain ⟨k9, h9, -⟩ := Vm.findClass_spec hcl; exact ⟨k9, h9⟩) (fun z hz => by
      rcases hpass z hz with h | ⟨hz0, nm, hl1, hn1⟩
      · exact Or.inl h
      · obtain ⟨c6, hc6, hcl6⟩ := Cond.classLink_spec hown hl1 e.platform hpl
        obtain ⟨a8, b8, h1, h2, h3⟩ := hn1
        cases Option.some.inj (h1.symm.trans hcl)
        cases Option.some.inj (h2.symm.trans hc6)
        exact Or.inr ⟨hz0, _, hcl6, h3⟩)
  obtain ⟨g₀, hfr⟩ := X'.frames_eq
  have hcell9 : ((T.setVm vm').setFrames (.throwing q :: below)).heap[q]? = some ce := by
    show T.heap[q]? = some ce
    rw [hT]; exact hcell
  have hend : Ended ((T.setVm vm').setFrames (.throwing q :: below)) below (.threw q) := State.frames_setFrames _ (State.cur_lt_of_frames hfr)
  refine ⟨(T.setVm vm').setFrames (.throwing q :: below), ?_, .threw q, X'.here.running, hend, Or.inr ⟨q, rfl, E, ce, locs, hx _ hT (X'.ends _).1.alike, hcell9, hv, hcl, (X'.ends _).1, (X'.ends _).2.mono hc hs, hf⟩⟩
  rw [X.pushThrowing_eq]
  exact st
/-- a thing of a world lies in the heap -/
theorem vx_lt {D : va_G} {cl : List vw_C} {ws : va_W} {H1 : Heap} (h : va_P D cl ws H1) {k : Nat} {q : Nat × va_E} (hk : ws[k]? = some q) : q.1 < H1.size := (h k q hk).lt
end VXS
/-! ===== END ===== -/
/-! ===== BEGIN methods with a table of their own: called by a name, returning or throwing ===== -/
section VXH
/-! vx_backW, vx_callVX, vx_callSX, vx_callVW, vx_runVW, vx_runVX, vx_runSX, vx_ofWH follow the same proofs as their sisters above (Free/Laws.lean, Shelf42/LK1.lean); vx_outP calls Shelf42/NT130.lean (outThrough). -/
section
variable {l : Launch} {R : Room} {p : Program} {e : Env} {below : List Frame} {s : State} {sargs : Array Value} {y : MethodName} {len W9 : Nat}
theorem vx_backW {ws : List Cond} {rm : Room} {Pc : Array Value → State → Prop} {Qc : Array Value → State → Outcome → State → Prop} {XC : String → State → State → Prop} {mc ms : Nat} {free : Addr → Prop} {bytes : ByteArray} {maxL : Nat} {ret : Option FieldType} {hh : List (Nat × Nat × Nat × Nat)}
    (hM : vx_Met l y ws rm Pc Qc XC mc ms free) (hblind : FrameBlind Pc) (hrc : rm.cells = mc) (hrs : rm.slots = ms)
    (hframes : rm.frames + 1 ≤ R.frames) (hlocals : W9 + (maxL + 11) + rm.locals ≤ R.locals)
    (hws : ∀ w ∈ ws, ∀ a' U, s.WarmedH U.vm → w.before a' U = true) (hcode : Cond.codeWith y bytes maxL ret hh ∈ ws) (hinit : ∀ a' U, s.WarmedH U.vm → (Cond.initialized y.cls).before a' U = true) :
    vx_Back l R p e below s sargs y len W9 (PreOf R mc ms Pc) (PostOf Qc mc ms free) (vx_Post XC mc ms free) := by
  intro m meth c A g ig mk a X hg hsize hdg hW hn hp
  have h1 : (headSpec ws rm).pre.before a A.U = true := atoms_intro fun w hw => hws w hw _ _ X.warmed
  have h2 : (Cond.codeWith y bytes maxL ret hh).before a A.U = true := hws _ hcode _ _ X.warmed
  have h3 : (Cond.initialized y.cls).before a A.U = true := hinit _ _ X.warmed
  have h4 : A.cells + (headSpec ws rm).room.cells ≤ R.cells := by rw [show (headSpec ws rm).room.cells = mc from hrc]; exact hp.1
  have h5 : A.slots + (headSpec ws rm).room.slots ≤ R.slots := by rw [show (headSpec ws rm).room.slots = ms from hrs]; exact hp.2.1
  have hPc : Pc a (A.U.calling g mk a) := hblind _ _ _ _ hp.2.2
  obtain ⟨U, Ls, c0, s0⟩ := A
  dsimp only [Pt.U, Pt.locs, Pt.cells, Pt.slots] at h1 h2 h3 h4 h5 X hn hPc ⊢
  obtain ⟨m9, methY, cY, hn9, hmY, hcY, -, hlY, -⟩ := Cond.codeWith_spec h2
  cases Option.some.inj (hn9.symm.trans hn)
  obtain ⟨kY, hkY, -⟩ := className_of_methodNamed hn
  have hinitY : kY.init = .initialized := Cond.initialized_spec (findClass_of_methodNamed hn) hkY h3
  have h : At U g.method c below := by rw [hg]; exact X.here
  have hlocals9 : W9 + (maxL + 11) + (headSpec ws rm).room.locals ≤ R.locals := hlocals
  have happ : (headSpec ws rm).appliesLoose y e.platform (U.calling g mk a) = true :=
    Spec.appliesLoose_calling (g := g) h hdg hn hkY hinitY
      (X.room_calling (g := g) (R' := (headSpec ws rm).room) hsize hmY hcY hframes (by rw [hlY]; omega) h4 h5) h1
  obtain ⟨mid, hmid⟩ := h.above
  have hfr : (U.setTop g).frames = (.java g :: mid) ++ below := by rw [State.frames_setTop' g h.top, hmid]; rfl
  obtain ⟨o, s₂, hsteps, -, hend, hq⟩ := Steps.callFree hM p X.admits X.cas X.clock (acts := []) hfr happ hPc trivial
  have hq' : vx_Q Qc XC mc ms free a (U.calling g mk a) o s₂ := hq
  rw [State.frames_setTop' g h.top] at hend
  obtain ⟨g₀, hg0⟩ := Option.isSome_iff_exists.mp h.top
  obtain ⟨r, hr⟩ := State.topJava?_eq_some.mp hg0
  have hr' : (({ U with heap := s₂.heap, slotsUsed := s₂.slotsUsed } : State).setVm s₂.vm).frames = .java g₀ :: r := hr
  rcases hq' with ⟨hqc, L, hfe, hL⟩ | ⟨q, rfl, E, ce, L, hx, hce, hcv, hcl, hW₂, hsm, hL⟩
  · obtain ⟨⟨v, rfl⟩, hW₂, e2, q2, q3, q4, q5, q6⟩ := id hfe
    have e3 : s₂ = ({ (U.calling g mk a).setFrames s₂.frames with heap := s₂.heap, slotsUsed := s₂.slotsUsed } : State).setVm s₂.vm := by
      have : s₂ = ({ s₂ with vm := (U.calling g mk a).vm } : State).setVm s₂.vm := rfl
      rw [e2] at this
      exact this
    obtain ⟨c₂, i₂, len₂, hc₂, hd₂, hf₂⟩ := hend
    have hW' : U.WarmedH s₂.vm := hW₂
    have hcc : c₂ = c := by
      have h1 : s₂.code? g.method = U.code? g.method := by
        rw [State.code?_eq, State.code?_eq, hW'.alike.method?]
      exact Option.some.inj (hc₂.symm.trans (h1.trans h.code))
    subst hcc
    have hlen : len₂ = len := by rw [hdg] at hd₂; cases hd₂; rfl
    subst hlen
    have hs₂ : s₂ = (({ U with heap := s₂.heap, slotsUsed := s₂.slotsUsed } : State).setVm s₂.vm).setTop { g with pc := g.pc + len₂, stack := v.toList ++ g.stack } := by
      refine e3.trans ?_
      rw [hf₂, State.calling_eq h.top, State.setFrames_setFrames, State.setTop_of_frames _ hr', hr]
      rfl
    have hsame : U.sameButNew ({ U with heap := s₂.heap, slotsUsed := s₂.slotsUsed } : State) L mc ms := by
      refine ⟨?_, q2, q3, q4, q5, q6⟩
      obtain ⟨t, ht, -⟩ := State.frames_cons hr
      show ({ U with heap := s₂.heap, slotsUsed := s₂.slotsUsed } : State) = { U.setFrames U.frames with heap := s₂.heap, slotsUsed := s₂.slotsUsed }
      rw [State.setFrames_self ht]
    subst hg
    refine Or.inl ⟨v, ⟨(({ U with heap := s₂.heap, slotsUsed := s₂.slotsUsed } : State).setVm s₂.vm), Ls ++ L, c0 + mc, s0 + ms⟩,
      ⟨X.admits, X.cas, X.clock, X.frames, X.room, X.hears, X.method, X.code, (X.here.setHeapUsed s₂.heap s₂.slotsUsed).setVm hW'.alike, X.tail, State.WarmedH.trans X.warmed hW', X.limits, X.bytes, X.same.trans (hsame.setVm s.vm)⟩,
      ⟨g, mk, s₂, L, rfl, rfl, hqc, rfl, hL, rfl, rfl⟩, ?_⟩
    show Steps p.tables e below _ ((({ U with heap := s₂.heap, slotsUsed := s₂.slotsUsed } : State).setVm s₂.vm).setTop { g with pc := g.pc + len₂, stack := v.toList ++ g.stack })
    rw [← hs₂]
    exact hsteps
  · obtain ⟨e2, q2, q3, q4, q5, q6⟩ := id hsm
    have e3 : s₂ = ({ (U.calling g mk a).setFrames s₂.frames with heap := s₂.heap, slotsUsed := s₂.slotsUsed } : State).setVm s₂.vm := by
      have : s₂ = ({ s₂ with vm := (U.calling g mk a).vm } : State).setVm s₂.vm := rfl
      rw [e2] at this
      exact this
    have hf₂ : s₂.frames = .throwing q :: .java g :: U.frames.tail := hend
    have hW' : U.WarmedH s₂.vm := hW₂
    have hs₂ : s₂ = ((({ U with heap := s₂.heap, slotsUsed := s₂.slotsUsed } : State).setVm s₂.vm).setTop g).pushFrame (.throwing q) := by
      refine e3.trans ?_
      rw [hf₂, State.calling_eq h.top, State.setFrames_setFrames, State.pushFrame, State.frames_setTop _ hr', State.setTop_of_frames _ hr', State.setFrames_setFrames, hr]
      rfl
    have hsame : U.sameButNew ({ U with heap := s₂.heap, slotsUsed := s₂.slotsUsed } : State) L mc ms := by
      refine ⟨?_, q2, q3, q4, q5, q6⟩
      obtain ⟨t, ht, -⟩ := State.frames_cons hr
      show ({ U with heap := s₂.heap, slotsUsed := s₂.slotsUsed } : State) = { U.setFrames U.frames with heap := s₂.heap, slotsUsed := s₂.slotsUsed }
      rw [State.setFrames_self ht]
    subst hg
    refine Or.inr ⟨q, ⟨(({ U with heap := s₂.heap, slotsUsed := s₂.slotsUsed } : State).setVm s₂.vm), Ls ++ L, c0 + mc, s0 + ms⟩,
      ⟨X.admits, X.cas, X.clock, X.frames, X.room, X.hears, X.method, X.code, (X.here.setHeapUsed s₂.heap s₂.slotsUsed).setVm hW'.alike, X.tail, State.WarmedH.trans X.warmed hW', X.limits, X.bytes, X.same.trans (hsame.setVm s.vm)⟩,
      ⟨g, mk, s₂, L, E, ce, rfl, rfl, hx, hce, hcv, hcl, rfl, hL, rfl, rfl⟩, ?_⟩
    show Steps p.tables e below _ (((({ U with heap := s₂.heap, slotsUsed := s₂.slotsUsed } : State).setVm s₂.vm).setTop g).pushFrame (.throwing q))
    rw [← hs₂]
    exact hsteps
end
variable {p : Program} {l : Launch} {e : Env} {R : Room} {s : State} {m : MethodId} {args : Array Value} {below : List Frame} {meth : Method} {c : Code} {T : State} {H : Heap} {locs : List Loc} {cells slots : Nat}
theorem vx_callVX (X : Stand p l e R s m args below meth c T locs cells slots) (hexec : p.tables.exec = Jvm.exec) {own C : String} {index : Nat} {y : MethodName} {bytes : ByteArray} {maxL : Nat} {ret : Option FieldType} {hh : List (Nat × Nat × Nat × Nat)}
    (hown : s.vm.findClass own = some m.cls) (hlink : (Cond.methodLink own index y).before args s = true) (hinst : (Cond.instanceMethod y).before args s = true) (hsel : (Cond.selects C y y).before args s = true)
    (hcode : (Cond.codeWith y bytes maxL ret hh).before args s = true) (hy : y.cls ≠ "java/lang/invoke/MethodHandle" ∧ y.cls ≠ "java/lang/invoke/VarHandle")
    {W9 : Nat} {Pre : Pt → Array Value → Prop} {Post : Pt → Array Value → Option Value → Pt → Prop} {PostX : Pt → Array Value → Addr → Pt → Prop} (hK : vx_Back l R p e below s args y 3 W9 Pre Post PostX)
    {b : Addr} {cellB : Cell} (hcell : T.heap[b]? = some cellB) (hobj : cellB.vm.isStatics = false) (hcls : s.vm.findClass C = some cellB.cls)
    {g : JFrame} (hg : g.method = m) (hsize : g.locals.size = c.maxLocals) {argsL rest : List Value} (hlen : ∀ sig, parseMethodDescriptor y.desc = some sig → argsL.length = sig.parameters.length)
    (hstack : g.stack = argsL.reverse ++ .ref b :: rest) (hW : 2 * g.monitorRoom + (rest.map fun v => v.category).sum ≤ W9) (hdg : decode c.code g.pc = .ok (.invokevirtual index, 3))
    (hpre : ∀ vm₁, s.WarmedH vm₁ → Pre ⟨T.setVm vm₁, locs, cells, slots⟩ (Value.ref b :: argsL).toArray) :
    (∃ (v : Option Value) (vm₁ : Vm) (B : Pt), s.WarmedH vm₁ ∧ Stand p l e R s m args below meth c B.U B.locs B.cells B.slots ∧ Post ⟨T.setVm vm₁, locs, cells, slots⟩ (Value.ref b :: argsL).toArray v B ∧
      ∀ target, Steps p.tables e below (B.U.setTop { g with pc := g.pc + 3, stack := v.toList ++ rest }) target → Steps p.tables e below (T.setTop g) target) ∨
    (∃ (q : Addr) (vm₁ : Vm) (B : Pt), s.WarmedH vm₁ ∧ Stand p l e R s m args below meth c B.U B.locs B.cells B.slots ∧ PostX ⟨T.setVm vm₁, locs, cells, slots⟩ (Value.ref b :: argsL).toArray q B ∧
      Steps p.tables e below (T.setTop g) ((B.U.setTop { g with stack := rest }).pushFrame (.throwing q))) := by
  obtain ⟨mk, methM, hnamed, hmethM, hstM, habM⟩ := Cond.instanceMethod_spec hinst
  obtain ⟨m8, methM', cM, hn8, hmethM', -, -, -, -, -, -, hsigM⟩ := Cond.codeWith_spec hcode
  cases Option.some.inj (hn8.symm.trans hnamed)
  cases hmethM.symm.trans hmethM'
  obtain ⟨c2, r2, m2, q1, q2, q3, q4, kP, hkP, hkPi⟩ := Cond.selects_spec hsel
  cases hcls.symm.trans q1
  cases (State.methodFound?_of_named hnamed hy).symm.trans q2
  cases hnamed.symm.trans q3
  have hselP : selectMethod e.platform s.vm cellB.cls mk = .method mk := by rw [Launch.admits_selectMethod X.admits]; exact q4
  obtain ⟨vm₁, X₁, hstep₁⟩ := X.invokevirtual hexec hown hlink hnamed hmethM hstM hkP hkPi hy (a := b) (cell := cellB) hcell
    (fun z h => by rw [h] at hobj; cases hobj) hselP hmethM habM hkP hkPi (g := g) hg (argsL := argsL) (rest := rest) (hlen _ hsigM) hstack hdg
  rcases hK m meth c ⟨T.setVm vm₁, locs, cells, slots⟩ { g with stack := rest } (.invokevirtual index) mk (Value.ref b :: argsL).toArray X₁ hg hsize hdg hW (X₁.named hnamed) (hpre vm₁ X₁.warmed) with ⟨v, B, X', hpost, hsteps⟩ | ⟨q, B, X', hpost, hsteps⟩
  · exact Or.inl ⟨v, vm₁, B, X₁.warmed, X', hpost, fun target h => hstep₁ _ fun acts => by rw [doInvoke_state]; exact hsteps.trans h⟩
  · exact Or.inr ⟨q, vm₁, B, X₁.warmed, X', hpost, hstep₁ _ fun acts => by rw [doInvoke_state]; exact hsteps⟩
theorem vx_callSX (X : Stand p l e R s m args below meth c T locs cells slots) (hexec : p.tables.exec = Jvm.exec) {own : String} {index : Nat} {y : MethodName} {bytes : ByteArray} {maxL : Nat} {ret : Option FieldType} {hh : List (Nat × Nat × Nat × Nat)}
    (hown : s.vm.findClass own = some m.cls) (hlink : (Cond.methodLink own index y).before args s = true) (hstat : (Cond.static y).before args s = true) (hinit : (Cond.initialized y.cls).before args s = true)
    (hcode : (Cond.codeWith y bytes maxL ret hh).before args s = true) (hy : y.cls ≠ "java/lang/invoke/MethodHandle" ∧ y.cls ≠ "java/lang/invoke/VarHandle")
    {W9 : Nat} {Pre : Pt → Array Value → Prop} {Post : Pt → Array Value → Option Value → Pt → Prop} {PostX : Pt → Array Value → Addr → Pt → Prop} (hK : vx_Back l R p e below s args y 3 W9 Pre Post PostX)
    {g : JFrame} (hg : g.method = m) (hsize : g.locals.size = c.maxLocals) {argsL rest : List Value} (hlen : ∀ sig, parseMethodDescriptor y.desc = some sig → argsL.length = sig.parameters.length)
    (hstack : g.stack = argsL.reverse ++ rest) (hW : 2 * g.monitorRoom + (rest.map fun v => v.category).sum ≤ W9) (hdg : decode c.code g.pc = .ok (.invokestatic index, 3))
    (hpre : ∀ vm₁, s.WarmedH vm₁ → Pre ⟨T.setVm vm₁, locs, cells, slots⟩ argsL.toArray) :
    (∃ (v : Option Value) (vm₁ : Vm) (B : Pt), s.WarmedH vm₁ ∧ Stand p l e R s m args below meth c B.U B.locs B.cells B.slots ∧ Post ⟨T.setVm vm₁, locs, cells, slots⟩ argsL.toArray v B ∧
      ∀ target, Steps p.tables e below (B.U.setTop { g with pc := g.pc + 3, stack := v.toList ++ rest }) target → Steps p.tables e below (T.setTop g) target) ∨
    (∃ (q : Addr) (vm₁ : Vm) (B : Pt), s.WarmedH vm₁ ∧ Stand p l e R s m args below meth c B.U B.locs B.cells B.slots ∧ PostX ⟨T.setVm vm₁, locs, cells, slots⟩ argsL.toArray q B ∧
      Steps p.tables e below (T.setTop g) ((B.U.setTop { g with stack := rest }).pushFrame (.throwing q))) := by
  obtain ⟨mk, methM, cM, hnamed, hmethM, -, -, -, -, -, -, hsigM⟩ := Cond.codeWith_spec hcode
  have hstatic : methM.isStatic = true := Cond.static_spec hnamed hmethM hstat
  obtain ⟨kP, hkP, -⟩ := className_of_methodNamed hnamed
  have hinitP : kP.init = .initialized := Cond.initialized_spec (findClass_of_methodNamed hnamed) hkP hinit
  obtain ⟨vm₁, X₁, hstep₁⟩ := X.invokestatic hexec hown hlink hnamed hmethM hstatic hkP hinitP hy (g := g) hg (argsL := argsL) (rest := rest) (hlen _ hsigM) hstack hdg
  rcases hK m meth c ⟨T.setVm vm₁, locs, cells, slots⟩ { g with stack := rest } (.invokestatic index) mk argsL.toArray X₁ hg hsize hdg hW (X₁.named hnamed) (hpre vm₁ X₁.warmed) with ⟨v, B, X', hpost, hsteps⟩ | ⟨q, B, X', hpost, hsteps⟩
  · exact Or.inl ⟨v, vm₁, B, X₁.warmed, X', hpost, fun target h => hstep₁ _ fun acts => by rw [doInvoke_state]; exact hsteps.trans h⟩
  · exact Or.inr ⟨q, vm₁, B, X₁.warmed, X', hpost, hstep₁ _ fun acts => by rw [doInvoke_state]; exact hsteps⟩
theorem vx_callVW (X : Stand p l e R s m args below meth c T locs cells slots) (hexec : p.tables.exec = Jvm.exec) {own C : String} {index : Nat} {y : MethodName} {bytes : ByteArray} {maxL : Nat} {ret : Option FieldType} {hh : List (Nat × Nat × Nat × Nat)}
    (hown : s.vm.findClass own = some m.cls) (hlink : (Cond.methodLink own index y).before args s = true) (hinst : (Cond.instanceMethod y).before args s = true) (hsel : (Cond.selects C y y).before args s = true)
    (hcode : (Cond.codeWith y bytes maxL ret hh).before args s = true) (hy : y.cls ≠ "java/lang/invoke/MethodHandle" ∧ y.cls ≠ "java/lang/invoke/VarHandle")
    {W9 : Nat} {Pre : Pt → Array Value → Prop} {Post : Pt → Array Value → Option Value → Pt → Prop} (hK : Back l R p e below s args y 3 W9 Pre Post)
    {b : Addr} {cellB : Cell} (hcell : T.heap[b]? = some cellB) (hobj : cellB.vm.isStatics = false) (hcls : s.vm.findClass C = some cellB.cls)
    {g : JFrame} (hg : g.method = m) (hsize : g.locals.size = c.maxLocals) {argsL rest : List Value} (hlen : ∀ sig, parseMethodDescriptor y.desc = some sig → argsL.length = sig.parameters.length)
    (hstack : g.stack = argsL.reverse ++ .ref b :: rest) (hW : 2 * g.monitorRoom + (rest.map fun v => v.category).sum ≤ W9) (hdg : decode c.code g.pc = .ok (.invokevirtual index, 3))
    (hpre : ∀ vm₁, s.WarmedH vm₁ → Pre ⟨T.setVm vm₁, locs, cells, slots⟩ (Value.ref b :: argsL).toArray) :
    ∃ (v : Option Value) (vm₁ : Vm) (B : Pt), s.WarmedH vm₁ ∧ Stand p l e R s m args below meth c B.U B.locs B.cells B.slots ∧ Post ⟨T.setVm vm₁, locs, cells, slots⟩ (Value.ref b :: argsL).toArray v B ∧
      ∀ target, Steps p.tables e below (B.U.setTop { g with pc := g.pc + 3, stack := v.toList ++ rest }) target → Steps p.tables e below (T.setTop g) target := by
  obtain ⟨mk, methM, hnamed, hmethM, hstM, habM⟩ := Cond.instanceMethod_spec hinst
  obtain ⟨m8, methM', cM, hn8, hmethM', -, -, -, -, -, -, hsigM⟩ := Cond.codeWith_spec hcode
  cases Option.some.inj (hn8.symm.trans hnamed)
  cases hmethM.symm.trans hmethM'
  obtain ⟨c2, r2, m2, q1, q2, q3, q4, kP, hkP, hkPi⟩ := Cond.selects_spec hsel
  cases hcls.symm.trans q1
  cases (State.methodFound?_of_named hnamed hy).symm.trans q2
  cases hnamed.symm.trans q3
  have hselP : selectMethod e.platform s.vm cellB.cls mk = .method mk := by rw [Launch.admits_selectMethod X.admits]; exact q4
  obtain ⟨vm₁, X₁, hstep₁⟩ := X.invokevirtual hexec hown hlink hnamed hmethM hstM hkP hkPi hy (a := b) (cell := cellB) hcell
    (fun z h => by rw [h] at hobj; cases hobj) hselP hmethM habM hkP hkPi (g := g) hg (argsL := argsL) (rest := rest) (hlen _ hsigM) hstack hdg
  obtain ⟨v, B, X', hpost, hsteps⟩ := hK m meth c ⟨T.setVm vm₁, locs, cells, slots⟩ { g with stack := rest } (.invokevirtual index) mk (Value.ref b :: argsL).toArray X₁ hg hsize hdg hW (X₁.named hnamed) (hpre vm₁ X₁.warmed)
  exact ⟨v, vm₁, B, X₁.warmed, X', hpost, fun target h => hstep₁ _ fun acts => by rw [doInvoke_state]; exact hsteps.trans h⟩
abbrev vx_CVW (R : Room) (s : State) (args : Array Value) (own C : String) (index : Nat) (y : MethodName) (bytes : ByteArray) (maxL : Nat) (ret : Option FieldType) (hh : List (Nat × Nat × Nat × Nat)) (ws : List Cond) (rm : Room) (mc ms n : Nat) : Prop :=
  (rm.cells = mc ∧ rm.slots = ms ∧ rm.frames + 1 ≤ R.frames ∧ 8 + (maxL + 11) + rm.locals ≤ R.locals ∧ (∀ w ∈ ws, ∀ (a' : Array Value) (U : State), s.WarmedH U.vm → w.before a' U = true) ∧ Cond.codeWith y bytes maxL ret hh ∈ ws) ∧
  (Cond.codeWith y bytes maxL ret hh).before args s = true ∧ (Cond.initialized y.cls).before args s = true ∧ (y.cls ≠ "java/lang/invoke/MethodHandle" ∧ y.cls ≠ "java/lang/invoke/VarHandle") ∧
  (∀ sig, parseMethodDescriptor y.desc = some sig → n = sig.parameters.length) ∧ (Cond.methodLink own index y).before args s = true ∧ (Cond.instanceMethod y).before args s = true ∧ (Cond.selects C y y).before args s = true
theorem vx_cwVW {own C : String} {index maxL mc ms : Nat} {y : MethodName} {bytes : ByteArray} {ret : Option FieldType} {hh : List (Nat × Nat × Nat × Nat)} {Ts ws ws' : List Cond} {rm : Room} (n : Nat) (ht : ∀ w ∈ Ts, w.before args s = true) (hT : GoodIn Ts (wsV own index C y ws)) (hw : ws = Cond.codeWith y bytes maxL ret hh :: ws') (hrc : rm.cells = mc) (hrs : rm.slots = ms)
    (hd : y.cls = C ∧ y.cls ≠ "java/lang/invoke/MethodHandle" ∧ y.cls ≠ "java/lang/invoke/VarHandle" ∧ (parseMethodDescriptor y.desc).map (fun d => d.parameters.length) = some n) (hR : rm.frames + 1 ≤ R.frames ∧ 8 + (maxL + 11) + rm.locals ≤ R.locals) :
    vx_CVW R s args own C index y bytes maxL ret hh ws rm mc ms n := by
  obtain ⟨hC, hd⟩ := hd
  subst hC
  have ok : ∀ w ∈ wsV own index y.cls y ws, w.before args s = true := fun w h => ht w (hT w h).1
  have hG : GoodIn Ts ws := fun w h => hT w (by unfold wsV; exact List.mem_append_right _ h)
  have hc : Cond.codeWith y bytes maxL ret hh ∈ ws := by rw [hw]; exact List.mem_cons_self
  refine ⟨⟨hrc, hrs, hR.1, hR.2, pay_in ht hG, hc⟩, ht _ (hG _ hc).1, ok _ (by simp [wsV]), ⟨hd.1, hd.2.1⟩, fun sig h => ?_, ok _ (by simp [wsV]), ok _ (by simp [wsV]), ok _ (by simp [wsV])⟩
  have h2 := hd.2.2
  rw [h] at h2
  exact (Option.some.inj h2).symm
theorem vx_runVW {y : MethodName} {bytes cc : ByteArray} {maxL nL mc ms n index : Nat} {ret : Option FieldType} {hh : List (Nat × Nat × Nat × Nat)} {ws : List Cond} {rm : Room} {Pc : Array Value → State → Prop} {Qc : Array Value → State → Outcome → State → Prop} {free : Addr → Prop} {Ts : List Cond} {own C : String} {b : Addr} {As rest : List Value} {g : JFrame}
    (S : CallFix p m c cc nL s args Ts own) (hM : Met l y ws rm Pc Qc mc ms free) (cw : vx_CVW R s args own C index y bytes maxL ret hh ws rm mc ms n) (hp : PreV s H C b Pc As)
    (hg : g.method = m) (hn : As.length = n) (hsize : g.locals.size = nL) (hstack : g.stack = As.reverse ++ .ref b :: rest) (hW : 2 * g.monitorRoom + (rest.map fun v => v.category).sum ≤ 8) (hdg : decode cc g.pc = .ok (.invokevirtual index, 3)) (hf : cells + mc ≤ R.cells ∧ slots + ms ≤ R.slots) :
    va_Run p l e R s m args below meth c H locs cells slots mc ms g rest (Qc (Value.ref b :: As).toArray) free := by
  obtain ⟨⟨hrc, hrs, hfr, hlo, hws, hcw⟩, hcode, hini, hy, hlen, hl, hin, hse⟩ := cw
  have hK : Back l R p e below s args y 3 8 (PreOf R mc ms Pc) (PostOf Qc mc ms free) := va_backW (hh := hh) (bytes := bytes) (maxL := maxL) (ret := ret) hM hp.1 hrc hrs hfr hlo hws hcw (fun a' U hW => word_at hW (Or.inl (by first | rfl | simp [Cond.onTables, Cond.keeps, Cond.steady])) hini)
  obtain ⟨hx, hb, hml, ho, -⟩ := S
  obtain ⟨-, ⟨cellB, hcB, hoB, hclB⟩, hPc⟩ := hp
  intro T hT X
  obtain ⟨v, vm₁, ⟨U', l2, c2, s2⟩, hW₁, X', ⟨g', mk, t, L, e1, e2, hq, h1, hL, h2, h3⟩, st⟩ := vx_callVW X hx (C := C) (hh := hh) (bytes := bytes) (maxL := maxL) (ret := ret) ho hl hin hse hcode hy hK (by rw [hT]; exact hcB) hoB hclB hg (hsize.trans hml.symm) (argsL := As) (rest := rest) (fun sig h => hn.trans (hlen sig h)) hstack hW (by rw [hb]; exact hdg)
    (fun vm₁ hW₁ => ⟨hf.1, hf.2, hPc (T.setVm vm₁) hT hW₁⟩)
  dsimp only [Pt.U, Pt.locs, Pt.cells, Pt.slots] at X' e1 e2 h1 h2 h3 st
  subst h1; subst h2; subst h3
  exact ⟨v, (T.setVm vm₁).calling g' mk (Value.ref b :: As).toArray, t, U', L, hT, X', hL, e1, e2, hq, st⟩
section
variable {y : MethodName} {bytes cc : ByteArray} {maxL nL mc ms n index : Nat} {ret : Option FieldType} {ws : List Cond} {rm : Room} {Pc : Array Value → State → Prop} {Qc : Array Value → State → Outcome → State → Prop} {XC : String → State → State → Prop} {free : Addr → Prop} {Ts : List Cond} {own C : String} {b : Addr} {As rest : List Value} {g : JFrame}
theorem vx_runVX {hh : List (Nat × Nat × Nat × Nat)} (S : CallFix p m c cc nL s args Ts own) (hM : vx_Met l y ws rm Pc Qc XC mc ms free) (cw : vx_CVW R s args own C index y bytes maxL ret hh ws rm mc ms n) (hp : PreV s H C b Pc As)
    (hg : g.method = m) (hn : As.length = n) (hsize : g.locals.size = nL) (hstack : g.stack = As.reverse ++ .ref b :: rest) (hW : 2 * g.monitorRoom + (rest.map fun v => v.category).sum ≤ 8) (hdg : decode cc g.pc = .ok (.invokevirtual index, 3)) (hf : cells + mc ≤ R.cells ∧ slots + ms ≤ R.slots) :
    vx_Run p l e R s m args below meth c H locs cells slots mc ms g rest (Qc (Value.ref b :: As).toArray) XC free := by
  obtain ⟨⟨hrc, hrs, hfr, hlo, hws, hcw⟩, hcode, hini, hy, hlen, hl, hin, hse⟩ := cw
  have hK : vx_Back l R p e below s args y 3 8 (PreOf R mc ms Pc) (PostOf Qc mc ms free) (vx_Post XC mc ms free) := vx_backW (hh := hh) (bytes := bytes) (maxL := maxL) (ret := ret) hM hp.1 hrc hrs hfr hlo hws hcw (fun a' U hW => word_at hW (Or.inl (by first | rfl | simp [Cond.onTables, Cond.keeps, Cond.steady])) hini)
  obtain ⟨hx, hb, hml, ho, -⟩ := S
  obtain ⟨-, ⟨cellB, hcB, hoB, hclB⟩, hPc⟩ := hp
  intro T hT X
  rcases vx_callVX X hx (C := C) (hh := hh) (bytes := bytes) (maxL := maxL) (ret := ret) ho hl hin hse hcode hy hK (by rw [hT]; exact hcB) hoB hclB hg (hsize.trans hml.symm) (argsL := As) (rest := rest) (fun sig h => hn.trans (hlen sig h)) hstack hW (by rw [hb]; exact hdg)
    (fun vm₁ hW₁ => ⟨hf.1, hf.2, hPc (T.setVm vm₁) hT hW₁⟩) with ⟨v, vm₁, ⟨U', l2, c2, s2⟩, hW₁, X', ⟨g', mk, t, L, e1, e2, hq, h1, hL, h2, h3⟩, st⟩ | ⟨q, vm₁, ⟨U', l2, c2, s2⟩, hW₁, X', ⟨g', mk, t, L, E, ce, e1, e2, hq, hce, hcv, hcl, h1, hL, h2, h3⟩, st⟩
  · dsimp only [Pt.U, Pt.locs, Pt.cells, Pt.slots] at X' e1 e2 h1 h2 h3 st
    subst h1; subst h2; subst h3
    exact Or.inl ⟨v, (T.setVm vm₁).calling g' mk (Value.ref b :: As).toArray, t, U', L, hT, X', hL, e1, e2, hq, st⟩
  · dsimp only [Pt.U, Pt.locs, Pt.cells, Pt.slots] at X' e1 e2 h1 h2 h3 st hcl
    subst h1; subst h2; subst h3
    exact Or.inr ⟨q, (T.setVm vm₁).calling g' mk (Value.ref b :: As).toArray, t, U', L, E, ce, hT, X', hL, e1, e2, hq, hce, hcv, vx_cls hW₁ hcl, st⟩
theorem vx_runSX {hh : List (Nat × Nat × Nat × Nat)} (S : CallFix p m c cc nL s args Ts own) (hM : vx_Met l y ws rm Pc Qc XC mc ms free) (cw : vx_CSW R s args own index y bytes maxL ret hh ws rm mc ms n) (hp : PreS s H Pc As)
    (hg : g.method = m) (hn : As.length = n) (hsize : g.locals.size = nL) (hstack : g.stack = As.reverse ++ rest) (hW : 2 * g.monitorRoom + (rest.map fun v => v.category).sum ≤ 8) (hdg : decode cc g.pc = .ok (.invokestatic index, 3)) (hf : cells + mc ≤ R.cells ∧ slots + ms ≤ R.slots) :
    vx_Run p l e R s m args below meth c H locs cells slots mc ms g rest (Qc As.toArray) XC free := by
  obtain ⟨⟨hrc, hrs, hfr, hlo, hws, hcw⟩, hcode, hini, hy, hlen, hl, hstt⟩ := cw
  have hK : vx_Back l R p e below s args y 3 8 (PreOf R mc ms Pc) (PostOf Qc mc ms free) (vx_Post XC mc ms free) := vx_backW (hh := hh) (bytes := bytes) (maxL := maxL) (ret := ret) hM hp.1 hrc hrs hfr hlo hws hcw (fun a' U hW => word_at hW (Or.inl (by first | rfl | simp [Cond.onTables, Cond.keeps, Cond.steady])) hini)
  obtain ⟨hx, hb, hml, ho, -⟩ := S
  intro T hT X
  rcases vx_callSX X hx (hh := hh) (bytes := bytes) (maxL := maxL) (ret := ret) ho hl hstt hini hcode hy hK hg (hsize.trans hml.symm) (argsL := As) (rest := rest) (fun sig h => hn.trans (hlen sig h)) hstack hW (by rw [hb]; exact hdg)
    (fun vm₁ hW₁ => ⟨hf.1, hf.2, hp.2 (T.setVm vm₁) hT hW₁⟩) with ⟨v, vm₁, ⟨U', l2, c2, s2⟩, hW₁, X', ⟨g', mk, t, L, e1, e2, hq, h1, hL, h2, h3⟩, st⟩ | ⟨q, vm₁, ⟨U', l2, c2, s2⟩, hW₁, X', ⟨g', mk, t, L, E, ce, e1, e2, hq, hce, hcv, hcl, h1, hL, h2, h3⟩, st⟩
  · dsimp only [Pt.U, Pt.locs, Pt.cells, Pt.slots] at X' e1 e2 h1 h2 h3 st
    subst h1; subst h2; subst h3
    exact Or.inl ⟨v, (T.setVm vm₁).calling g' mk As.toArray, t, U', L, hT, X', hL, e1, e2, hq, st⟩
  · dsimp only [Pt.U, Pt.locs, Pt.cells, Pt.slots] at X' e1 e2 h1 h2 h3 st hcl
    subst h1; subst h2; subst h3
    exact Or.inr ⟨q, (T.setVm vm₁).calling g' mk As.toArray, t, U', L, E, ce, hT, X', hL, e1, e2, hq, hce, hcv, vx_cls hW₁ hcl, st⟩
end
end VXH
theorem vx_ofWH {l : Launch} {y : MethodName} {ws ws' : List Cond} {rm : Room} {Pc : Array Value → State → Prop} {Qc : Array Value → State → Outcome → State → Prop} {XC : String → State → State → Prop} {mc ms : Nat} {free : Addr → Prop} {cc : ByteArray} {maxL : Nat} {ret : Option FieldType} {hh : List (Nat × Nat × Nat × Nat)}
    (hy : plainName y.cls = true) (hw : ws = Cond.codeWith y cc maxL ret hh :: ws')
    (body : ∀ p e s m args below meth c s₁, BodyLoose p l y (headSpec ws rm) cc maxL ret e s m args below meth c s₁ → c.maxLocals = maxL → Pc args s →
      W p l e (headSpec ws rm).room s m args below meth c s.heap [] 0 0 (vx_MQ below Qc XC args s mc ms free) (entryFrame m args maxL)) : vx_Met l y ws rm Pc Qc XC mc ms free := by
  refine MetFree.of_bodyS (code := cc) (maxLocals := maxL) (ret := ret) hy ?_ ?_
  · intro args s m h hn
    obtain ⟨m9, meth, c, hn9, h1, h2, h3, h4, -, h5, h6, -⟩ := Cond.codeWith_spec (atoms_spec (ws := ws) h _ (by rw [hw]; exact List.mem_cons_self))
    cases hn.symm.trans hn9
    exact ⟨meth, c, h1, h2, h3, h4, h5, h6⟩
  · intro p e s m args below meth c s₁ B hml hP _
    have hh0 : s₁.heap = s.heap := by rw [B.state]; rfl
    obtain ⟨t, a1, o, b1, b2, b3⟩ := body p e s m args below meth c s₁ B hml hP s₁ hh0 (Stand.of_body B)
    exact ⟨t, o, a1, b1, b2, b3⟩
/-! ===== END ===== -/
end
section
def RX0 : String := "LapBoard$Car"
def TX0 : u_T := fun k => match k with
  | 0 => ("LapBoard$Car", "numbers", "[I", true)
  | 1 => ("LapBoard$Car", "reaches", "[I", true)
  | 2 => ("LapBoard$Car", "tops", "[I", true)
  | _ => ("LapBoard$Car", "pulls", "[I", true)
def tyX0 : Nat → FieldType := fun k => match k with
  | 0 => .array .int
  | 1 => .array .int
  | 2 => .array .int
  | _ => .array .int
abbrev wsX00 : List Cond := u_ws RX0 TX0 4
theorem nmX0 : ∀ a, a < 4 → ∀ b, b < 4 → a ≠ b → (TX0 a).2.1 ≠ (TX0 b).2.1 := by decide +kernel
theorem tyX0_ok : ∀ k, k < 4 → parseFieldDescriptor (TX0 k).2.2.1 = some (tyX0 k) := by decide +kernel
abbrev cX0_init : ByteArray := prog_2_method_1_code
def yX0_init : MethodName := ⟨RX0, "<init>", "()V"⟩
abbrev cX0_changeGear : ByteArray := prog_2_method_2_code
def yX0_changeGear : MethodName := ⟨RX0, "changeGear", "(III)Z"⟩
abbrev cX0_gearFor : ByteArray := prog_2_method_3_code
def yX0_gearFor : MethodName := ⟨RX0, "gearFor", "(I)I"⟩
abbrev cX0_pullOf : ByteArray := prog_2_method_4_code
def yX0_pullOf : MethodName := ⟨RX0, "pullOf", "(II)I"⟩
abbrev cX0_fillReaches : ByteArray := prog_2_method_5_code
def yX0_fillReaches : MethodName := ⟨RX0, "fillReaches", "()V"⟩
def RX1 : String := "LapBoard$Race"
def TX1 : u_T := fun k => match k with
  | 0 => ("LapBoard$Race", "grips", "[I", true)
  | 1 => ("LapBoard$Race", "wears", "[I", true)
  | 2 => ("LapBoard$Race", "kinds", "[I", true)
  | 3 => ("LapBoard$Race", "dones", "[I", true)
  | 4 => ("LapBoard$Race", "stop", "I", false)
  | 5 => ("LapBoard$Race", "needsTwo", "Z", false)
  | 6 => ("LapBoard$Race", "planned", "I", false)
  | 7 => ("LapBoard$Race", "total", "I", false)
  | 8 => ("LapBoard$Race", "stints", "[[I", true)
  | 9 => ("LapBoard$Race", "fresh", "[[I", true)
  | 10 => ("LapBoard$Race", "after", "[[I", true)
  | _ => ("LapBoard$Race", "strict", "Z", false)
def tyX1 : Nat → FieldType := fun k => match k with
  | 0 => .array .int
  | 1 => .array .int
  | 2 => .array .int
  | 3 => .array .int
  | 4 => .int
  | 5 => .boolean
  | 6 => .int
  | 7 => .int
  | 8 => .array (.array .int)
  | 9 => .array (.array .int)
  | 10 => .array (.array .int)
  | _ => .boolean
abbrev wsX10 : List Cond := u_ws RX1 TX1 12
theorem nmX1 : ∀ a, a < 12 → ∀ b, b < 12 → a ≠ b → (TX1 a).2.1 ≠ (TX1 b).2.1 := by decide +kernel
theorem tyX1_ok : ∀ k, k < 12 → parseFieldDescriptor (TX1 k).2.2.1 = some (tyX1 k) := by decide +kernel
abbrev cX1_init : ByteArray := prog_3_method_1_code
def yX1_init : MethodName := ⟨RX1, "<init>", "()V"⟩
abbrev cX1_gripOf : ByteArray := prog_3_method_2_code
def yX1_gripOf : MethodName := ⟨RX1, "gripOf", "(II)I"⟩
abbrev cX1_stopsAhead : ByteArray := prog_3_method_3_code
def yX1_stopsAhead : MethodName := ⟨RX1, "stopsAhead", "(I)Z"⟩
abbrev cX1_prepare : ByteArray := prog_3_method_4_code
def yX1_prepare : MethodName := ⟨RX1, "prepare", "(LLapBoard$Ways;I)V"⟩
abbrev cX1_fillFresh : ByteArray := prog_3_method_5_code
def yX1_fillFresh : MethodName := ⟨RX1, "fillFresh", "(I)V"⟩
abbrev cX1_fillAfter : ByteArray := prog_3_method_6_code
def yX1_fillAfter : MethodName := ⟨RX1, "fillAfter", "(I)V"⟩
abbrev cX1_stateOn : ByteArray := prog_3_method_7_code
def yX1_stateOn : MethodName := ⟨RX1, "stateOn", "(II)I"⟩
abbrev cX1_stintThenRest : ByteArray := prog_3_method_8_code
def yX1_stintThenRest : MethodName := ⟨RX1, "stintThenRest", "(III)I"⟩
abbrev cX1_trace : ByteArray := prog_3_method_9_code
def yX1_trace : MethodName := ⟨RX1, "trace", "(I)V"⟩
abbrev cX1_longestStint : ByteArray := prog_3_method_10_code
def yX1_longestStint : MethodName := ⟨RX1, "longestStint", "(II)I"⟩
abbrev cX1_nextState : ByteArray := prog_3_method_11_code
def yX1_nextState : MethodName := ⟨RX1, "nextState", "(II)I"⟩
def RX2 : String := "LapBoard$Shelf"
def TX2 : u_T := fun k => match k with
  | 0 => ("LapBoard$Shelf", "holds", "I", false)
  | 1 => ("LapBoard$Shelf", "size", "I", false)
  | 2 => ("LapBoard$Shelf", "station", "LLapBoard$Station;", true)
  | 3 => ("LapBoard$Shelf", "ints", "[I", true)
  | _ => ("LapBoard$Shelf", "bytes", "[B", true)
def tyX2 : Nat → FieldType := fun k => match k with
  | 0 => .int
  | 1 => .int
  | 2 => .object "LapBoard$Station"
  | 3 => .array .int
  | _ => .array .byte
abbrev wsX20 : List Cond := u_ws RX2 TX2 5
theorem nmX2 : ∀ a, a < 5 → ∀ b, b < 5 → a ≠ b → (TX2 a).2.1 ≠ (TX2 b).2.1 := by decide +kernel
theorem tyX2_ok : ∀ k, k < 5 → parseFieldDescriptor (TX2 k).2.2.1 = some (tyX2 k) := by decide +kernel
abbrev cX2_init : ByteArray := prog_4_method_1_code
def yX2_init : MethodName := ⟨RX2, "<init>", "()V"⟩
abbrev cX2_holdStation : ByteArray := prog_4_method_2_code
def yX2_holdStation : MethodName := ⟨RX2, "holdStation", "(LLapBoard$Station;)I"⟩
abbrev cX2_holdZeros : ByteArray := prog_4_method_3_code
def yX2_holdZeros : MethodName := ⟨RX2, "holdZeros", "(II)I"⟩
abbrev cX2_holdPaces : ByteArray := prog_4_method_4_code
def yX2_holdPaces : MethodName := ⟨RX2, "holdPaces", "(I[II)I"⟩
abbrev cX2_holdsRow : ByteArray := prog_4_method_5_code
def yX2_holdsRow : MethodName := ⟨RX2, "holdsRow", "()Z"⟩
abbrev cX2_hasPlaces : ByteArray := prog_4_method_6_code
def yX2_hasPlaces : MethodName := ⟨RX2, "hasPlaces", "(II)Z"⟩
abbrev cX2_at : ByteArray := prog_4_method_7_code
def yX2_at : MethodName := ⟨RX2, "at", "(I)I"⟩
abbrev cX2_copyPlaces : ByteArray := prog_4_method_8_code
def yX2_copyPlaces : MethodName := ⟨RX2, "copyPlaces", "(ILLapBoard$Shelf;II)V"⟩
def RX3 : String := "LapBoard$Station"
def TX3 : u_T := fun k => match k with
  | 0 => ("LapBoard$Station", "kind", "I", false)
  | 1 => ("LapBoard$Station", "length", "I", false)
  | 2 => ("LapBoard$Station", "base", "I", false)
  | 3 => ("LapBoard$Station", "line", "I", false)
  | _ => ("LapBoard$Station", "told", "I", false)
def tyX3 : Nat → FieldType := fun k => match k with
  | 0 => .int
  | 1 => .int
  | 2 => .int
  | 3 => .int
  | _ => .int
abbrev wsX30 : List Cond := u_ws RX3 TX3 5
theorem nmX3 : ∀ a, a < 5 → ∀ b, b < 5 → a ≠ b → (TX3 a).2.1 ≠ (TX3 b).2.1 := by decide +kernel
theorem tyX3_ok : ∀ k, k < 5 → parseFieldDescriptor (TX3 k).2.2.1 = some (tyX3 k) := by decide +kernel
abbrev cX3_init : ByteArray := prog_5_method_1_code
def yX3_init : MethodName := ⟨RX3, "<init>", "()V"⟩
abbrev cX3_take : ByteArray := prog_5_method_2_code
def yX3_take : MethodName := ⟨RX3, "take", "(LLapBoard$Station;)V"⟩
abbrev cX3_bends : ByteArray := prog_5_method_3_code
def yX3_bends : MethodName := ⟨RX3, "bends", "()Z"⟩
abbrev cX3_limitOn : ByteArray := prog_5_method_4_code
def yX3_limitOn : MethodName := ⟨RX3, "limitOn", "(II)I"⟩
abbrev cX3_timeAt : ByteArray := prog_5_method_5_code
def yX3_timeAt : MethodName := ⟨RX3, "timeAt", "(IZ)I"⟩
abbrev cX3_heft : ByteArray := prog_5_method_6_code
def yX3_heft : MethodName := ⟨RX3, "heft", "()I"⟩
abbrev cX3_fail : ByteArray := prog_5_method_7_code
def yX3_fail : MethodName := ⟨RX3, "fail", "()V"⟩
def RX4 : String := "LapBoard$Store"
def TX4 : u_T := fun k => match k with
  | 0 => ("LapBoard$Store", "mosts", "[[I", true)
  | _ => ("LapBoard$Store", "costs", "[I", true)
def tyX4 : Nat → FieldType := fun k => match k with
  | 0 => .array (.array .int)
  | _ => .array .int
abbrev wsX40 : List Cond := u_ws RX4 TX4 2
theorem nmX4 : ∀ a, a < 2 → ∀ b, b < 2 → a ≠ b → (TX4 a).2.1 ≠ (TX4 b).2.1 := by decide +kernel
theorem tyX4_ok : ∀ k, k < 2 → parseFieldDescriptor (TX4 k).2.2.1 = some (tyX4 k) := by decide +kernel
abbrev cX4_init : ByteArray := prog_6_method_1_code
def yX4_init : MethodName := ⟨RX4, "<init>", "()V"⟩
abbrev cX4_fill : ByteArray := prog_6_method_2_code
def yX4_fill : MethodName := ⟨RX4, "fill", "(LLapBoard$Track;LLapBoard$Way;I)V"⟩
abbrev cX4_gainsOf : ByteArray := prog_6_method_3_code
def yX4_gainsOf : MethodName := ⟨RX4, "gainsOf", "(II)I"⟩
abbrev cX4_leastSet : ByteArray := prog_6_method_4_code
def yX4_leastSet : MethodName := ⟨RX4, "leastSet", "(II)I"⟩
def RX5 : String := "LapBoard$Track"
def TX5 : u_T := fun k => match k with
  | 0 => ("LapBoard$Track", "stations", "[LLapBoard$Station;", true)
  | _ => ("LapBoard$Track", "size", "I", false)
def tyX5 : Nat → FieldType := fun k => match k with
  | 0 => .array (.object "LapBoard$Station")
  | _ => .int
abbrev wsX50 : List Cond := u_ws RX5 TX5 2
theorem nmX5 : ∀ a, a < 2 → ∀ b, b < 2 → a ≠ b → (TX5 a).2.1 ≠ (TX5 b).2.1 := by decide +kernel
theorem tyX5_ok : ∀ k, k < 2 → parseFieldDescriptor (TX5 k).2.2.1 = some (tyX5 k) := by decide +kernel
abbrev cX5_init : ByteArray := prog_7_method_1_code
def yX5_init : MethodName := ⟨RX5, "<init>", "()V"⟩
abbrev cX5_has : ByteArray := prog_7_method_2_code
def yX5_has : MethodName := ⟨RX5, "has", "(I)Z"⟩
abbrev cX5_add : ByteArray := prog_7_method_3_code
def yX5_add : MethodName := ⟨RX5, "add", "(III)V"⟩
abbrev cX5_dropLast : ByteArray := prog_7_method_4_code
def yX5_dropLast : MethodName := ⟨RX5, "dropLast", "()V"⟩
abbrev cX5_lengths : ByteArray := prog_7_method_5_code
def yX5_lengths : MethodName := ⟨RX5, "lengths", "()I"⟩
abbrev cX5_timesTold : ByteArray := prog_7_method_6_code
def yX5_timesTold : MethodName := ⟨RX5, "timesTold", "()I"⟩
def RX6 : String := "LapBoard$Way"
def TX6 : u_T := fun k => match k with
  | 0 => ("LapBoard$Way", "lanes", "[I", true)
  | 1 => ("LapBoard$Way", "paces", "[I", true)
  | 2 => ("LapBoard$Way", "times", "[I", true)
  | _ => ("LapBoard$Way", "total", "I", false)
def tyX6 : Nat → FieldType := fun k => match k with
  | 0 => .array .int
  | 1 => .array .int
  | 2 => .array .int
  | _ => .int
abbrev wsX60 : List Cond := u_ws RX6 TX6 4
theorem nmX6 : ∀ a, a < 4 → ∀ b, b < 4 → a ≠ b → (TX6 a).2.1 ≠ (TX6 b).2.1 := by decide +kernel
theorem tyX6_ok : ∀ k, k < 4 → parseFieldDescriptor (TX6 k).2.2.1 = some (tyX6 k) := by decide +kernel
abbrev cX6_init : ByteArray := prog_8_method_1_code
def yX6_init : MethodName := ⟨RX6, "<init>", "()V"⟩
abbrev cX6_changesAt : ByteArray := prog_8_method_2_code
def yX6_changesAt : MethodName := ⟨RX6, "changesAt", "(I)Z"⟩
abbrev cX6_changes : ByteArray := prog_8_method_3_code
def yX6_changes : MethodName := ⟨RX6, "changes", "(I)I"⟩
abbrev cX6_quicken : ByteArray := prog_8_method_4_code
def yX6_quicken : MethodName := ⟨RX6, "quicken", "(LLapBoard$Track;LLapBoard$Car;)V"⟩
def RX7 : String := "LapBoard$Ways"
def TX7 : u_T := fun k => match k with
  | 0 => ("LapBoard$Ways", "track", "LLapBoard$Track;", true)
  | 1 => ("LapBoard$Ways", "car", "LLapBoard$Car;", true)
  | 2 => ("LapBoard$Ways", "settled", "Z", false)
  | 3 => ("LapBoard$Ways", "best", "LLapBoard$Way;", true)
  | 4 => ("LapBoard$Ways", "steady", "LLapBoard$Way;", true)
  | 5 => ("LapBoard$Ways", "limits", "[I", true)
  | 6 => ("LapBoard$Ways", "rests", "[[I", true)
  | 7 => ("LapBoard$Ways", "onward", "[I", true)
  | 8 => ("LapBoard$Ways", "queue", "[I", true)
  | 9 => ("LapBoard$Ways", "here", "[I", true)
  | 10 => ("LapBoard$Ways", "there", "[I", true)
  | _ => ("LapBoard$Ways", "lapsByGrip", "[I", true)
def tyX7 : Nat → FieldType := fun k => match k with
  | 0 => .object "LapBoard$Track"
  | 1 => .object "LapBoard$Car"
  | 2 => .boolean
  | 3 => .object "LapBoard$Way"
  | 4 => .object "LapBoard$Way"
  | 5 => .array .int
  | 6 => .array (.array .int)
  | 7 => .array .int
  | 8 => .array .int
  | 9 => .array .int
  | 10 => .array .int
  | _ => .array .int
abbrev wsX70 : List Cond := u_ws RX7 TX7 12
theorem nmX7 : ∀ a, a < 12 → ∀ b, b < 12 → a ≠ b → (TX7 a).2.1 ≠ (TX7 b).2.1 := by decide +kernel
theorem tyX7_ok : ∀ k, k < 12 → parseFieldDescriptor (TX7 k).2.2.1 = some (tyX7 k) := by decide +kernel
abbrev cX7_init : ByteArray := prog_9_method_1_code
def yX7_init : MethodName := ⟨RX7, "<init>", "()V"⟩
abbrev cX7_forget : ByteArray := prog_9_method_2_code
def yX7_forget : MethodName := ⟨RX7, "forget", "()V"⟩
abbrev cX7_stayOn : ByteArray := prog_9_method_3_code
def yX7_stayOn : MethodName := ⟨RX7, "stayOn", "(I)LLapBoard$Way;"⟩
abbrev cX7_bestWay : ByteArray := prog_9_method_4_code
def yX7_bestWay : MethodName := ⟨RX7, "bestWay", "()LLapBoard$Way;"⟩
abbrev cX7_behind : ByteArray := prog_9_method_5_code
def yX7_behind : MethodName := ⟨RX7, "behind", "(I)I"⟩
abbrev cX7_lapByGrip : ByteArray := prog_9_method_6_code
def yX7_lapByGrip : MethodName := ⟨RX7, "lapByGrip", "(I)I"⟩
abbrev cX7_lapIf : ByteArray := prog_9_method_7_code
def yX7_lapIf : MethodName := ⟨RX7, "lapIf", "(II)I"⟩
abbrev cX7_mostWanting : ByteArray := prog_9_method_8_code
def yX7_mostWanting : MethodName := ⟨RX7, "mostWanting", "()I"⟩
abbrev cX7_solve : ByteArray := prog_9_method_9_code
def yX7_solve : MethodName := ⟨RX7, "solve", "(III)I"⟩
abbrev cX7_fillLimits : ByteArray := prog_9_method_10_code
def yX7_fillLimits : MethodName := ⟨RX7, "fillLimits", "(II)V"⟩
abbrev cX7_fillRests : ByteArray := prog_9_method_11_code
def yX7_fillRests : MethodName := ⟨RX7, "fillRests", "(II)V"⟩
abbrev cX7_fillOnward : ByteArray := prog_9_method_12_code
def yX7_fillOnward : MethodName := ⟨RX7, "fillOnward", "(II)V"⟩
abbrev cX7_fillRest : ByteArray := prog_9_method_13_code
def yX7_fillRest : MethodName := ⟨RX7, "fillRest", "([II)V"⟩
abbrev cX7_leastLap : ByteArray := prog_9_method_14_code
def yX7_leastLap : MethodName := ⟨RX7, "leastLap", "(I)I"⟩
abbrev cX7_trace : ByteArray := prog_9_method_15_code
def yX7_trace : MethodName := ⟨RX7, "trace", "(I)V"⟩
abbrev cX7_begins : ByteArray := prog_9_method_16_code
def yX7_begins : MethodName := ⟨RX7, "begins", "(II)Z"⟩
abbrev cX7_leads : ByteArray := prog_9_method_17_code
def yX7_leads : MethodName := ⟨RX7, "leads", "(III)Z"⟩
def RX8 : String := "LapBoard"
def TX8 : u_T := fun k => match k with
  | 0 => ("LapBoard", "ways", "LLapBoard$Ways;", true)
  | 1 => ("LapBoard", "store", "LLapBoard$Store;", true)
  | 2 => ("LapBoard", "race", "LLapBoard$Race;", true)
  | _ => ("LapBoard", "shelves", "[LLapBoard$Shelf;", true)
def tyX8 : Nat → FieldType := fun k => match k with
  | 0 => .object "LapBoard$Ways"
  | 1 => .object "LapBoard$Store"
  | 2 => .object "LapBoard$Race"
  | _ => .array (.object "LapBoard$Shelf")
abbrev wsX80 : List Cond := u_ws RX8 TX8 4
theorem nmX8 : ∀ a, a < 4 → ∀ b, b < 4 → a ≠ b → (TX8 a).2.1 ≠ (TX8 b).2.1 := by decide +kernel
theorem tyX8_ok : ∀ k, k < 4 → parseFieldDescriptor (TX8 k).2.2.1 = some (tyX8 k) := by decide +kernel
abbrev cX8_init : ByteArray := prog_1_method_1_code
def yX8_init : MethodName := ⟨RX8, "<init>", "()V"⟩
abbrev cX8_station : ByteArray := prog_1_method_2_code
def yX8_station : MethodName := ⟨RX8, "station", "(III)I"⟩
abbrev cX8_undo : ByteArray := prog_1_method_3_code
def yX8_undo : MethodName := ⟨RX8, "undo", "()I"⟩
abbrev cX8_base : ByteArray := prog_1_method_4_code
def yX8_base : MethodName := ⟨RX8, "base", "(II)I"⟩
abbrev cX8_gear : ByteArray := prog_1_method_5_code
def yX8_gear : MethodName := ⟨RX8, "gear", "(III)I"⟩
abbrev cX8_set : ByteArray := prog_1_method_6_code
def yX8_set : MethodName := ⟨RX8, "set", "(II)I"⟩
abbrev cX8_limit : ByteArray := prog_1_method_7_code
def yX8_limit : MethodName := ⟨RX8, "limit", "(II)I"⟩
abbrev cX8_reach : ByteArray := prog_1_method_8_code
def yX8_reach : MethodName := ⟨RX8, "reach", "(I)I"⟩
abbrev cX8_shift : ByteArray := prog_1_method_9_code
def yX8_shift : MethodName := ⟨RX8, "shift", "(I)I"⟩
abbrev cX8_quickest : ByteArray := prog_1_method_10_code
def yX8_quickest : MethodName := ⟨RX8, "quickest", "(II)I"⟩
abbrev cX8_along : ByteArray := prog_1_method_11_code
def yX8_along : MethodName := ⟨RX8, "along", "(I)J"⟩
abbrev cX8_best : ByteArray := prog_1_method_12_code
def yX8_best : MethodName := ⟨RX8, "best", "(II)I"⟩
abbrev cX8_lap : ByteArray := prog_1_method_13_code
def yX8_lap : MethodName := ⟨RX8, "lap", "()J"⟩
abbrev cX8_worth : ByteArray := prog_1_method_14_code
def yX8_worth : MethodName := ⟨RX8, "worth", "(II)J"⟩
abbrev cX8_wants : ByteArray := prog_1_method_15_code
def yX8_wants : MethodName := ⟨RX8, "wants", "()I"⟩
abbrev cX8_spend : ByteArray := prog_1_method_16_code
def yX8_spend : MethodName := ⟨RX8, "spend", "(I)I"⟩
abbrev cX8_where : ByteArray := prog_1_method_17_code
def yX8_where : MethodName := ⟨RX8, "where", "(I)I"⟩
abbrev cX8_drive : ByteArray := prog_1_method_18_code
def yX8_drive : MethodName := ⟨RX8, "drive", "(II)I"⟩
abbrev cX8_delta : ByteArray := prog_1_method_19_code
def yX8_delta : MethodName := ⟨RX8, "delta", "(I)J"⟩
abbrev cX8_lost : ByteArray := prog_1_method_20_code
def yX8_lost : MethodName := ⟨RX8, "lost", "()I"⟩
abbrev cX8_tyre : ByteArray := prog_1_method_21_code
def yX8_tyre : MethodName := ⟨RX8, "tyre", "(III)I"⟩
abbrev cX8_two : ByteArray := prog_1_method_22_code
def yX8_two : MethodName := ⟨RX8, "two", "(Z)Z"⟩
abbrev cX8_on : ByteArray := prog_1_method_23_code
def yX8_on : MethodName := ⟨RX8, "on", "(II)J"⟩
abbrev cX8_race : ByteArray := prog_1_method_24_code
def yX8_race : MethodName := ⟨RX8, "race", "(I)J"⟩
abbrev cX8_plan : ByteArray := prog_1_method_25_code
def yX8_plan : MethodName := ⟨RX8, "plan", "(III)I"⟩
abbrev cX8_stops : ByteArray := prog_1_method_26_code
def yX8_stops : MethodName := ⟨RX8, "stops", "(I)I"⟩
abbrev cX8_count : ByteArray := prog_1_method_27_code
def yX8_count : MethodName := ⟨RX8, "count", "(I)I"⟩
abbrev cX8_keep : ByteArray := prog_1_method_28_code
def yX8_keep : MethodName := ⟨RX8, "keep", "(III)I"⟩
abbrev cX8_make : ByteArray := prog_1_method_29_code
def yX8_make : MethodName := ⟨RX8, "make", "(III)I"⟩
abbrev cX8_element : ByteArray := prog_1_method_30_code
def yX8_element : MethodName := ⟨RX8, "element", "(II)J"⟩
abbrev cX8_copy : ByteArray := prog_1_method_31_code
def yX8_copy : MethodName := ⟨RX8, "copy", "(IIIII)I"⟩
abbrev cX8_weight : ByteArray := prog_1_method_32_code
def yX8_weight : MethodName := ⟨RX8, "weight", "(I)I"⟩
abbrev cX8_toss : ByteArray := prog_1_method_33_code
def yX8_toss : MethodName := ⟨RX8, "toss", "(I)I"⟩
abbrev cX8_within : ByteArray := prog_1_method_34_code
def yX8_within : MethodName := ⟨RX8, "within", "(III)Z"⟩
abbrev cX8_settable : ByteArray := prog_1_method_35_code
def yX8_settable : MethodName := ⟨RX8, "settable", "(II)Z"⟩
abbrev cX8_forgetLaps : ByteArray := prog_1_method_36_code
def yX8_forgetLaps : MethodName := ⟨RX8, "forgetLaps", "()V"⟩
abbrev cX8_stationRefusal : ByteArray := prog_1_method_37_code
def yX8_stationRefusal : MethodName := ⟨RX8, "stationRefusal", "(I)I"⟩
def RX9 : String := "LapBoardModel"
def TX9 : u_T := fun k => match k with
  | 0 => ("LapBoardModel", "thrown", "I", false)
  | 1 => ("LapBoardModel", "stations", "I", false)
  | 2 => ("LapBoardModel", "grip", "I", false)
  | 3 => ("LapBoardModel", "brake", "I", false)
  | 4 => ("LapBoardModel", "start", "I", false)
  | 5 => ("LapBoardModel", "stop", "I", false)
  | 6 => ("LapBoardModel", "kind", "[I", true)
  | 7 => ("LapBoardModel", "length", "[I", true)
  | 8 => ("LapBoardModel", "base", "[I", true)
  | 9 => ("LapBoardModel", "line", "[I", true)
  | 10 => ("LapBoardModel", "driven", "[I", true)
  | 11 => ("LapBoardModel", "top", "[I", true)
  | 12 => ("LapBoardModel", "pull", "[I", true)
  | 13 => ("LapBoardModel", "isKnown", "[Z", true)
  | 14 => ("LapBoardModel", "knownLap", "[J", true)
  | 15 => ("LapBoardModel", "lane", "[I", true)
  | 16 => ("LapBoardModel", "pace", "[I", true)
  | 17 => ("LapBoardModel", "rest", "[J", true)
  | 18 => ("LapBoardModel", "reachBy", "[I", true)
  | 19 => ("LapBoardModel", "limits", "[I", true)
  | 20 => ("LapBoardModel", "ahead", "[J", true)
  | 21 => ("LapBoardModel", "aheadNext", "[J", true)
  | 22 => ("LapBoardModel", "gains", "[I", true)
  | 23 => ("LapBoardModel", "tyreGrip", "[I", true)
  | 24 => ("LapBoardModel", "tyreLaps", "[I", true)
  | 25 => ("LapBoardModel", "needsTwo", "Z", false)
  | 26 => ("LapBoardModel", "left", "[J", true)
  | 27 => ("LapBoardModel", "raceTyre", "[I", true)
  | 28 => ("LapBoardModel", "raceDone", "[I", true)
  | 29 => ("LapBoardModel", "raceStop", "[I", true)
  | 30 => ("LapBoardModel", "held", "[I", true)
  | 31 => ("LapBoardModel", "heldKind", "[I", true)
  | 32 => ("LapBoardModel", "heldLength", "[I", true)
  | 33 => ("LapBoardModel", "heldBase", "[I", true)
  | 34 => ("LapBoardModel", "heldLine", "[I", true)
  | 35 => ("LapBoardModel", "size", "[I", true)
  | 36 => ("LapBoardModel", "item", "[I", true)
  | _ => ("LapBoardModel", "aside", "[I", true)
def tyX9 : Nat → FieldType := fun k => match k with
  | 0 => .int
  | 1 => .int
  | 2 => .int
  | 3 => .int
  | 4 => .int
  | 5 => .int
  | 6 => .array .int
  | 7 => .array .int
  | 8 => .array .int
  | 9 => .array .int
  | 10 => .array .int
  | 11 => .array .int
  | 12 => .array .int
  | 13 => .array .boolean
  | 14 => .array .long
  | 15 => .array .int
  | 16 => .array .int
  | 17 => .array .long
  | 18 => .array .int
  | 19 => .array .int
  | 20 => .array .long
  | 21 => .array .long
  | 22 => .array .int
  | 23 => .array .int
  | 24 => .array .int
  | 25 => .boolean
  | 26 => .array .long
  | 27 => .array .int
  | 28 => .array .int
  | 29 => .array .int
  | 30 => .array .int
  | 31 => .array .int
  | 32 => .array .int
  | 33 => .array .int
  | 34 => .array .int
  | 35 => .array .int
  | 36 => .array .int
  | _ => .array .int
abbrev wsX90 : List Cond := u_ws RX9 TX9 38
theorem nmX9 : ∀ a, a < 38 → ∀ b, b < 38 → a ≠ b → (TX9 a).2.1 ≠ (TX9 b).2.1 := by decide +kernel
theorem tyX9_ok : ∀ k, k < 38 → parseFieldDescriptor (TX9 k).2.2.1 = some (tyX9 k) := by decide +kernel
abbrev cX9_init : ByteArray := prog_11_method_1_code
def yX9_init : MethodName := ⟨RX9, "<init>", "()V"⟩
abbrev cX9_thrown : ByteArray := prog_11_method_2_code
def yX9_thrown : MethodName := ⟨RX9, "thrown", "()I"⟩
abbrev cX9_in : ByteArray := prog_11_method_3_code
def yX9_in : MethodName := ⟨RX9, "in", "(III)Z"⟩
abbrev cX9_isStation : ByteArray := prog_11_method_4_code
def yX9_isStation : MethodName := ⟨RX9, "isStation", "(I)Z"⟩
abbrev cX9_changed : ByteArray := prog_11_method_5_code
def yX9_changed : MethodName := ⟨RX9, "changed", "()V"⟩
abbrev cX9_station : ByteArray := prog_11_method_6_code
def yX9_station : MethodName := ⟨RX9, "station", "(III)I"⟩
abbrev cX9_undo : ByteArray := prog_11_method_7_code
def yX9_undo : MethodName := ⟨RX9, "undo", "()I"⟩
abbrev cX9_base : ByteArray := prog_11_method_8_code
def yX9_base : MethodName := ⟨RX9, "base", "(II)I"⟩
abbrev cX9_gear : ByteArray := prog_11_method_9_code
def yX9_gear : MethodName := ⟨RX9, "gear", "(III)I"⟩
abbrev cX9_isSet : ByteArray := prog_11_method_10_code
def yX9_isSet : MethodName := ⟨RX9, "isSet", "(II)Z"⟩
abbrev cX9_change : ByteArray := prog_11_method_11_code
def yX9_change : MethodName := ⟨RX9, "change", "(II)I"⟩
abbrev cX9_set : ByteArray := prog_11_method_12_code
def yX9_set : MethodName := ⟨RX9, "set", "(II)I"⟩
abbrev cX9_limitOf : ByteArray := prog_11_method_13_code
def yX9_limitOf : MethodName := ⟨RX9, "limitOf", "(III)I"⟩
abbrev cX9_limit : ByteArray := prog_11_method_14_code
def yX9_limit : MethodName := ⟨RX9, "limit", "(II)I"⟩
abbrev cX9_reachOf : ByteArray := prog_11_method_15_code
def yX9_reachOf : MethodName := ⟨RX9, "reachOf", "(I)I"⟩
abbrev cX9_reach : ByteArray := prog_11_method_16_code
def yX9_reach : MethodName := ⟨RX9, "reach", "(I)I"⟩
abbrev cX9_shift : ByteArray := prog_11_method_17_code
def yX9_shift : MethodName := ⟨RX9, "shift", "(I)I"⟩
abbrev cX9_quicken : ByteArray := prog_11_method_18_code
def yX9_quicken : MethodName := ⟨RX9, "quicken", "()V"⟩
abbrev cX9_timeOf : ByteArray := prog_11_method_19_code
def yX9_timeOf : MethodName := ⟨RX9, "timeOf", "(IZI)I"⟩
abbrev cX9_timeAt : ByteArray := prog_11_method_20_code
def yX9_timeAt : MethodName := ⟨RX9, "timeAt", "(I)I"⟩
abbrev cX9_stay : ByteArray := prog_11_method_21_code
def yX9_stay : MethodName := ⟨RX9, "stay", "(I)V"⟩
abbrev cX9_quickest : ByteArray := prog_11_method_22_code
def yX9_quickest : MethodName := ⟨RX9, "quickest", "(II)I"⟩
abbrev cX9_timeInAll : ByteArray := prog_11_method_23_code
def yX9_timeInAll : MethodName := ⟨RX9, "timeInAll", "()J"⟩
abbrev cX9_along : ByteArray := prog_11_method_24_code
def yX9_along : MethodName := ⟨RX9, "along", "(I)J"⟩
abbrev cX9_at : ByteArray := prog_11_method_25_code
def yX9_at : MethodName := ⟨RX9, "at", "(III)I"⟩
abbrev cX9_areNear : ByteArray := prog_11_method_26_code
def yX9_areNear : MethodName := ⟨RX9, "areNear", "(II)Z"⟩
abbrev cX9_onTo : ByteArray := prog_11_method_27_code
def yX9_onTo : MethodName := ⟨RX9, "onTo", "(IIII)J"⟩
abbrev cX9_work : ByteArray := prog_11_method_28_code
def yX9_work : MethodName := ⟨RX9, "work", "(I)J"⟩
abbrev cX9_firstMost : ByteArray := prog_11_method_29_code
def yX9_firstMost : MethodName := ⟨RX9, "firstMost", "(I)I"⟩
abbrev cX9_firstOn : ByteArray := prog_11_method_30_code
def yX9_firstOn : MethodName := ⟨RX9, "firstOn", "(I)J"⟩
abbrev cX9_lapBy : ByteArray := prog_11_method_31_code
def yX9_lapBy : MethodName := ⟨RX9, "lapBy", "(I)J"⟩
abbrev cX9_findBest : ByteArray := prog_11_method_32_code
def yX9_findBest : MethodName := ⟨RX9, "findBest", "()V"⟩
abbrev cX9_leads : ByteArray := prog_11_method_33_code
def yX9_leads : MethodName := ⟨RX9, "leads", "(IIJ)Z"⟩
abbrev cX9_goOn : ByteArray := prog_11_method_34_code
def yX9_goOn : MethodName := ⟨RX9, "goOn", "(II)V"⟩
abbrev cX9_best : ByteArray := prog_11_method_35_code
def yX9_best : MethodName := ⟨RX9, "best", "(II)I"⟩
abbrev cX9_lap : ByteArray := prog_11_method_36_code
def yX9_lap : MethodName := ⟨RX9, "lap", "()J"⟩
abbrev cX9_worth : ByteArray := prog_11_method_37_code
def yX9_worth : MethodName := ⟨RX9, "worth", "(II)J"⟩
abbrev cX9_wants : ByteArray := prog_11_method_38_code
def yX9_wants : MethodName := ⟨RX9, "wants", "()I"⟩
abbrev cX9_unitsOf : ByteArray := prog_11_method_39_code
def yX9_unitsOf : MethodName := ⟨RX9, "unitsOf", "(I)I"⟩
abbrev cX9_findGains : ByteArray := prog_11_method_40_code
def yX9_findGains : MethodName := ⟨RX9, "findGains", "()V"⟩
abbrev cX9_spend : ByteArray := prog_11_method_41_code
def yX9_spend : MethodName := ⟨RX9, "spend", "(I)I"⟩
abbrev cX9_where : ByteArray := prog_11_method_42_code
def yX9_where : MethodName := ⟨RX9, "where", "(I)I"⟩
abbrev cX9_drive : ByteArray := prog_11_method_43_code
def yX9_drive : MethodName := ⟨RX9, "drive", "(II)I"⟩
abbrev cX9_delta : ByteArray := prog_11_method_44_code
def yX9_delta : MethodName := ⟨RX9, "delta", "(I)J"⟩
abbrev cX9_lost : ByteArray := prog_11_method_45_code
def yX9_lost : MethodName := ⟨RX9, "lost", "()I"⟩
abbrev cX9_tyre : ByteArray := prog_11_method_46_code
def yX9_tyre : MethodName := ⟨RX9, "tyre", "(III)I"⟩
abbrev cX9_two : ByteArray := prog_11_method_47_code
def yX9_two : MethodName := ⟨RX9, "two", "(Z)Z"⟩
abbrev cX9_lapOn : ByteArray := prog_11_method_48_code
def yX9_lapOn : MethodName := ⟨RX9, "lapOn", "(II)J"⟩
abbrev cX9_on : ByteArray := prog_11_method_49_code
def yX9_on : MethodName := ⟨RX9, "on", "(II)J"⟩
abbrev cX9_spot : ByteArray := prog_11_method_50_code
def yX9_spot : MethodName := ⟨RX9, "spot", "(IIII)I"⟩
abbrev cX9_behind : ByteArray := prog_11_method_51_code
def yX9_behind : MethodName := ⟨RX9, "behind", "(IIIII)J"⟩
abbrev cX9_findRace : ByteArray := prog_11_method_52_code
def yX9_findRace : MethodName := ⟨RX9, "findRace", "(I)V"⟩
abbrev cX9_findPlan : ByteArray := prog_11_method_53_code
def yX9_findPlan : MethodName := ⟨RX9, "findPlan", "(I)J"⟩
abbrev cX9_race : ByteArray := prog_11_method_54_code
def yX9_race : MethodName := ⟨RX9, "race", "(I)J"⟩
abbrev cX9_plan : ByteArray := prog_11_method_55_code
def yX9_plan : MethodName := ⟨RX9, "plan", "(III)I"⟩
abbrev cX9_stops : ByteArray := prog_11_method_56_code
def yX9_stops : MethodName := ⟨RX9, "stops", "(I)I"⟩
abbrev cX9_count : ByteArray := prog_11_method_57_code
def yX9_count : MethodName := ⟨RX9, "count", "(I)I"⟩
abbrev cX9_isShelf : ByteArray := prog_11_method_58_code
def yX9_isShelf : MethodName := ⟨RX9, "isShelf", "(I)Z"⟩
abbrev cX9_wipe : ByteArray := prog_11_method_59_code
def yX9_wipe : MethodName := ⟨RX9, "wipe", "(I)V"⟩
abbrev cX9_keep : ByteArray := prog_11_method_60_code
def yX9_keep : MethodName := ⟨RX9, "keep", "(III)I"⟩
abbrev cX9_make : ByteArray := prog_11_method_61_code
def yX9_make : MethodName := ⟨RX9, "make", "(III)I"⟩
abbrev cX9_element : ByteArray := prog_11_method_62_code
def yX9_element : MethodName := ⟨RX9, "element", "(II)J"⟩
abbrev cX9_copy : ByteArray := prog_11_method_63_code
def yX9_copy : MethodName := ⟨RX9, "copy", "(IIIII)I"⟩
abbrev cX9_lacksStation : ByteArray := prog_11_method_64_code
def yX9_lacksStation : MethodName := ⟨RX9, "lacksStation", "(I)I"⟩
abbrev cX9_weight : ByteArray := prog_11_method_65_code
def yX9_weight : MethodName := ⟨RX9, "weight", "(I)I"⟩
abbrev cX9_toss : ByteArray := prog_11_method_66_code
def yX9_toss : MethodName := ⟨RX9, "toss", "(I)I"⟩
def RJx145de : String := "java/io/Serializable"
def TJx145de : u_T := fun k => match k with
  | _ => ("", "", "", false)
def tyJx145de : Nat → FieldType := fun k => match k with
  | _ => .int
abbrev wsJx145de0 : List Cond := u_ws RJx145de TJx145de 0
theorem nmJx145de : ∀ a, a < 0 → ∀ b, b < 0 → a ≠ b → (TJx145de a).2.1 ≠ (TJx145de b).2.1 := by decide +kernel
theorem tyJx145de_ok : ∀ k, k < 0 → parseFieldDescriptor (TJx145de k).2.2.1 = some (tyJx145de k) := by decide +kernel
def RJ9 : String := "java/lang/Math"
def TJ9 : u_T := fun k => match k with
  | _ => ("", "", "", false)
def tyJ9 : Nat → FieldType := fun k => match k with
  | _ => .int
abbrev wsJ90 : List Cond := u_ws RJ9 TJ9 0
theorem nmJ9 : ∀ a, a < 0 → ∀ b, b < 0 → a ≠ b → (TJ9 a).2.1 ≠ (TJ9 b).2.1 := by decide +kernel
theorem tyJ9_ok : ∀ k, k < 0 → parseFieldDescriptor (TJ9 k).2.2.1 = some (tyJ9 k) := by decide +kernel
abbrev cJ9_abs_0f7a4 : ByteArray := prog_15_method_59_code
def yJ9_abs_0f7a4 : MethodName := ⟨RJ9, "abs", "(I)I"⟩
abbrev cJ9_max_7cf53 : ByteArray := prog_15_method_65_code
def yJ9_max_7cf53 : MethodName := ⟨RJ9, "max", "(II)I"⟩
abbrev cJ9_min_7cf53 : ByteArray := prog_15_method_69_code
def yJ9_min_7cf53 : MethodName := ⟨RJ9, "min", "(II)I"⟩
def RJ0 : String := "java/lang/String"
def TJ0 : u_T := fun k => match k with
  | _ => ("", "", "", false)
def tyJ0 : Nat → FieldType := fun k => match k with
  | _ => .int
abbrev wsJ00 : List Cond := u_ws RJ0 TJ0 0
theorem nmJ0 : ∀ a, a < 0 → ∀ b, b < 0 → a ≠ b → (TJ0 a).2.1 ≠ (TJ0 b).2.1 := by decide +kernel
theorem tyJ0_ok : ∀ k, k < 0 → parseFieldDescriptor (TJ0 k).2.2.1 = some (tyJ0 k) := by decide +kernel
def RJ10 : String := "java/lang/System"
def TJ10 : u_T := fun k => match k with
  | _ => ("", "", "", false)
def tyJ10 : Nat → FieldType := fun k => match k with
  | _ => .int
abbrev wsJ100 : List Cond := u_ws RJ10 TJ10 0
theorem nmJ10 : ∀ a, a < 0 → ∀ b, b < 0 → a ≠ b → (TJ10 a).2.1 ≠ (TJ10 b).2.1 := by decide +kernel
theorem tyJ10_ok : ∀ k, k < 0 → parseFieldDescriptor (TJ10 k).2.2.1 = some (tyJ10 k) := by decide +kernel
def RJ7 : String := "java/util/Arrays"
def TJ7 : u_T := fun k => match k with
  | _ => ("", "", "", false)
def tyJ7 : Nat → FieldType := fun k => match k with
  | _ => .int
abbrev wsJ70 : List Cond := u_ws RJ7 TJ7 0
theorem nmJ7 : ∀ a, a < 0 → ∀ b, b < 0 → a ≠ b → (TJ7 a).2.1 ≠ (TJ7 b).2.1 := by decide +kernel
theorem tyJ7_ok : ∀ k, k < 0 → parseFieldDescriptor (TJ7 k).2.2.1 = some (tyJ7 k) := by decide +kernel
abbrev cJ7_fill_53178 : ByteArray := prog_20_method_103_code
def yJ7_fill_53178 : MethodName := ⟨RJ7, "fill", "([II)V"⟩
abbrev cJ7_fill_031fb : ByteArray := prog_20_method_109_code
def yJ7_fill_031fb : MethodName := ⟨RJ7, "fill", "([BB)V"⟩
def RL : String := "LapBoardLaw"
abbrev cL_along : ByteArray := method_3_code
def yL_along : MethodName := ⟨RL, "along", "(LLapBoard;I[J)I"⟩
abbrev cL_worth : ByteArray := method_4_code
def yL_worth : MethodName := ⟨RL, "worth", "(LLapBoard;II[J)I"⟩
abbrev cL_delta : ByteArray := method_5_code
def yL_delta : MethodName := ⟨RL, "delta", "(LLapBoard;I[J)I"⟩
abbrev cL_on : ByteArray := method_6_code
def yL_on : MethodName := ⟨RL, "on", "(LLapBoard;II[J)I"⟩
abbrev cL_race : ByteArray := method_7_code
def yL_race : MethodName := ⟨RL, "race", "(LLapBoard;I[J)I"⟩
abbrev cL_element : ByteArray := method_8_code
def yL_element : MethodName := ⟨RL, "element", "(LLapBoard;II[J)I"⟩
abbrev cL_law : ByteArray := code
def yL_law : MethodName := ⟨RL, "law", "([I)Z"⟩
end
section
abbrev vwCl : List vw_C := [(RX0, TX0, 4), (RX1, TX1, 12), (RX2, TX2, 5), (RX3, TX3, 5), (RX4, TX4, 2), (RX5, TX5, 2), (RX6, TX6, 4), (RX7, TX7, 12), (RX8, TX8, 4), (RX9, TX9, 38)]
/-! THE SMALL MACHINE, 1: the layout. Every object of a run but exceptions is made once, in a fixed order: cell k is the k-th. 0: the script. 1 .. 239: LapBoard and what it holds; 240 .. 271: the model; 272: the law's row. -/
def G (a : Int) : Nat × Nat :=
  if a ≤ 0 then (17, 0) else if a ≤ 1 then (8, 4) else if a ≤ 2 then (7, 12) else if a ≤ 3 then (5, 2) else if a ≤ 4 then (14, 30) else if a ≤ 34 then (3, 5)
  else if a ≤ 35 then (0, 4) else if a ≤ 36 then (10, 3) else if a ≤ 37 then (10, 61) else if a ≤ 39 then (10, 7)
  else if a ≤ 40 then (6, 4) else if a ≤ 43 then (10, 30) else if a ≤ 44 then (6, 4) else if a ≤ 47 then (10, 30) else if a ≤ 48 then (10, 90)
  else if a ≤ 49 then (16, 90) else if a ≤ 139 then (10, 61) else if a ≤ 143 then (10, 61) else if a ≤ 144 then (10, 41)
  else if a ≤ 145 then (4, 2) else if a ≤ 146 then (16, 31) else if a ≤ 177 then (10, 61) else if a ≤ 178 then (10, 30)
  else if a ≤ 179 then (1, 12) else if a ≤ 181 then (10, 4) else if a ≤ 183 then (10, 40) else if a ≤ 184 then (16, 4) else if a ≤ 188 then (10, 41)
  else if a ≤ 189 then (16, 8) else if a ≤ 197 then (10, 41) else if a ≤ 198 then (16, 8) else if a ≤ 206 then (10, 41)
  else if a ≤ 207 then (15, 8)
  else if a ≤ 239 then (if (a - 208) % 4 = 0 then (2, 5) else if (a - 208) % 4 = 1 then (3, 5) else if (a - 208) % 4 = 2 then (10, 60) else (12, 60))
  else if a ≤ 240 then (9, 38) else if a ≤ 245 then (10, 30) else if a ≤ 247 then (10, 7) else if a ≤ 248 then (13, 41) else if a ≤ 249 then (11, 41)
  else if a ≤ 251 then (10, 30) else if a ≤ 252 then (11, 5490) else if a ≤ 253 then (10, 61) else if a ≤ 254 then (10, 90) else if a ≤ 256 then (11, 61)
  else if a ≤ 257 then (10, 1891) else if a ≤ 259 then (10, 4) else if a ≤ 260 then (11, 13120) else if a ≤ 263 then (10, 40) else if a ≤ 269 then (10, 8)
  else if a ≤ 270 then (10, 480) else if a ≤ 271 then (10, 60) else if a ≤ 272 then (11, 1) else (18, 0)
/-- a number, a long, a reference (none: null) -/
abbrev MV : Type := Int ⊕ (Int ⊕ Option Int)
/-- how many cells there are; references, ints and longs by cell and place -/
abbrev MS : Type := Nat × (Int → Int → Option Int) × (Int → Int → Int) × (Int → Int → Int)
abbrev ME : Type := Instr × Nat × List Nat
abbrev Pt : Type := Nat × List (Option MV) × List MV × MS × Nat × Nat
/-- a call: how many arguments with the receiver, the receiver's kind (10 and more: none), cells, slots, what is owed -/
abbrev CI : Type := Nat × Nat × Nat × Nat × (List MV → MS → (Option MV → MS → Prop) → Prop)
def RI (x : Int) : Prop := -2147483648 ≤ x ∧ x < 2147483648
def RLg (x : Int) : Prop := -9223372036854775808 ≤ x ∧ x < 9223372036854775808
def TT (ci : Nat) : u_T := match ci with
  | 0 => TX0 | 1 => TX1 | 2 => TX2 | 3 => TX3 | 4 => TX4 | 5 => TX5 | 6 => TX6 | 7 => TX7 | 8 => TX8 | _ => TX9
def RR (ci : Nat) : String := match ci with
  | 0 => RX0 | 1 => RX1 | 2 => RX2 | 3 => RX3 | 4 => RX4 | 5 => RX5 | 6 => RX6 | 7 => RX7 | 8 => RX8 | _ => RX9
def nfs (ci : Nat) : Nat := match ci with
  | 0 => 4 | 1 => 12 | 2 => 5 | 3 => 5 | 4 => 2 | 5 => 2 | 6 => 4 | 7 => 12 | 8 => 4 | _ => 38
def fty (ci : Nat) : Nat → FieldType := match ci with
  | 0 => tyX0 | 1 => tyX1 | 2 => tyX2 | 3 => tyX3 | 4 => tyX4 | 5 => tyX5 | 6 => tyX6 | 7 => tyX7 | 8 => tyX8 | _ => tyX9
def aty (k : Nat) : FieldType := match k with
  | 10 => .int | 11 => .long | 12 => .byte | 13 => .boolean | 14 => .object RX3 | 15 => .object RX2 | _ => .array .int
/-- 0 int, 1 long, 2 reference, 3 boolean -/
def fcode (t : FieldType) : Nat := match t with
  | .long => 1
  | .object _ => 2
  | .array _ => 2
  | .boolean => 3
  | .int => 0
  | _ => 9
def mtr (ad : Int → Nat) : MV → Value
  | .inl x => .int (Int32.ofInt x)
  | .inr (.inl x) => .long (Int64.ofInt x)
  | .inr (.inr none) => .null
  | .inr (.inr (some r)) => .ref (ad r)
def mcat : MV → Nat
  | .inr (.inl _) => 2
  | _ => 1
def mcs : List MV → Nat
  | [] => 0
  | v :: l => mcat v + mcs l
def mok (N : Nat) : MV → Prop
  | .inr (.inr (some r)) => 0 < r ∧ r < N ∨ r = 0
  | _ => True
def msl (ad : Int → Nat) (σ : MS) (a : Int) (t : FieldType) (i : Int) : Value := match fcode t with
  | 1 => .long (Int64.ofInt (σ.2.2.2 a i))
  | 2 => va_rf ((σ.2.1 a i).map ad)
  | _ => .int (Int32.ofInt (σ.2.2.1 a i))
/-- what an array of kind k holds -/
def mar (ad : Int → Nat) (σ : MS) (a : Int) (k : Nat) : ((Nat → Int32) ⊕ (Nat → Int64) ⊕ (Nat → UInt32) ⊕ (Nat → UInt64) ⊕ (Nat → Option Nat)) :=
  if k = 11 then .inr (.inl (fun j => Int64.ofInt (σ.2.2.2 a j)))
  else if k = 14 ∨ k = 15 ∨ k = 16 then .inr (.inr (.inr (.inr (fun j => (σ.2.1 a j).map ad))))
  else .inl (fun j => Int32.ofInt (σ.2.2.1 a j))
def cE (dA : Nat → ClassId) (ad : Int → Nat) (σ : MS) (a : Int) : va_E :=
  if (G a).1 < 10 then .inr ((G a).1, (List.range (nfs (G a).1)).map (fun (i : Nat) => msl ad σ a (fty (G a).1 i) i))
  else .inl (dA (G a).1, (G a).2, mar ad σ a (G a).1)
def mcells (dA : Nat → ClassId) (ad : Int → Nat) (σ : MS) : va_W := (List.range (σ.1 - 1)).map (fun (k : Nat) => (ad ((k : Int) + 1), cE dA ad σ ((k : Int) + 1)))
def mwf (σ : MS) : Prop := 1 ≤ σ.1 ∧ ∀ a i b : Int, 0 < a → a < σ.1 → σ.2.1 a i = some b → 0 < b ∧ b < σ.1
def TY (dA : Nat → ClassId) : List (ClassId × FieldType) := (List.range 7).map (fun k => (dA (k + 10), aty (k + 10)))
def WS : List Cond := lw_tbl.filter goodWord
def upI (I : Int → Int → Int) (a i v : Int) : Int → Int → Int := fun b j => if b = a ∧ j = i then v else I b j
def upP (P : Int → Int → Option Int) (a i : Int) (v : Option Int) : Int → Int → Option Int := fun b j => if b = a ∧ j = i then v else P b j
theorem ws_mem {w : Cond} (h : w ∈ lw_tbl) (hg : goodWord w = true) : w ∈ WS := List.mem_filter.mpr ⟨h, hg⟩
theorem ws_good {ws : List Cond} (h : ∀ w ∈ ws, w ∈ WS) : GoodIn WS ws := fun w hw => ⟨h w hw, good_of_word (List.mem_filter.mp (h w hw)).2⟩
theorem cl_at {ci : Nat} (h : ci < 10) : vwCl[ci]? = some (RR ci, TT ci, nfs ci) := by
  rcases (show ci = 0 ∨ ci = 1 ∨ ci = 2 ∨ ci = 3 ∨ ci = 4 ∨ ci = 5 ∨ ci = 6 ∨ ci = 7 ∨ ci = 8 ∨ ci = 9 by omega) with rfl | rfl | rfl | rfl | rfl | rfl | rfl | rfl | rfl | rfl <;> rfl
theorem fty_ok {ci : Nat} (h : ci < 10) : ∀ k, k < nfs ci → parseFieldDescriptor (TT ci k).2.2.1 = some (fty ci k) := by
  rcases (show ci = 0 ∨ ci = 1 ∨ ci = 2 ∨ ci = 3 ∨ ci = 4 ∨ ci = 5 ∨ ci = 6 ∨ ci = 7 ∨ ci = 8 ∨ ci = 9 by omega) with rfl | rfl | rfl | rfl | rfl | rfl | rfl | rfl | rfl | rfl
  · exact tyX0_ok
  · exact tyX1_ok
  · exact tyX2_ok
  · exact tyX3_ok
  · exact tyX4_ok
  · exact tyX5_ok
  · exact tyX6_ok
  · exact tyX7_ok
  · exact tyX8_ok
  · exact tyX9_ok
theorem fnm_ok {ci : Nat} (h : ci < 10) : ∀ a, a < nfs ci → ∀ b, b < nfs ci → a ≠ b → (TT ci a).2.1 ≠ (TT ci b).2.1 := by
  rcases (show ci = 0 ∨ ci = 1 ∨ ci = 2 ∨ ci = 3 ∨ ci = 4 ∨ ci = 5 ∨ ci = 6 ∨ ci = 7 ∨ ci = 8 ∨ ci = 9 by omega) with rfl | rfl | rfl | rfl | rfl | rfl | rfl | rfl | rfl | rfl
  · exact nmX0
  · exact nmX1
  · exact nmX2
  · exact nmX3
  · exact nmX4
  · exact nmX5
  · exact nmX6
  · exact nmX7
  · exact nmX8
  · exact nmX9
theorem ws_fld_b : ((List.range 10).all fun ci => (u_ws (RR ci) (TT ci) (nfs ci)).all fun w => decide (w ∈ lw_tbl) && goodWord w) = true := by decide +kernel
theorem ws_fld {ci : Nat} (h : ci < 10) : ∀ w ∈ u_ws (RR ci) (TT ci) (nfs ci), w ∈ WS := by
  intro w hw
  have h1 := List.all_eq_true.mp ws_fld_b ci (List.mem_range.mpr h)
  have h2 := List.all_eq_true.mp h1 w hw
  rw [Bool.and_eq_true, decide_eq_true_eq] at h2
  exact ws_mem h2.1 h2.2
/-- arrays of Station, Shelf and int[] may be made -/
def AOs (U : State) : Prop := va_AO RX3 U ∧ va_AO RX2 U ∧ va_AOA .int U
/-- the library's Cond.arrayOver_spec, for arrays of arrays -/
theorem aoa_spec {args : Array Value} {first s : State} {o : Option Outcome} {idx : List Nat} {t : FieldType} (h : (Cond.arrayOver (.array t)).holds args first o s idx = true) :
    ∃ comp c k, s.vm.findClass (FieldType.array t).toString = some comp ∧ (s.vm.classes.findIdx? fun (x : Class) => match x.kind with | .array component _ => component == comp | _ => false) = some c ∧ s.vm.classes[c]? = some k ∧ k.kind = .array comp (.array t) ∧
      s.vm.findClass ("[" ++ (FieldType.array t).toString) = some c := by
  simp only [Cond.holds, Cond.value, beq_iff_eq] at h
  cases hc : s.vm.findClass (FieldType.array t).toString with
  | none => simp [hc] at h
  | some comp =>
    simp only [hc, Option.bind_some, Option.bind_eq_some_iff, Option.map_eq_some_iff] at h
    obtain ⟨c, hi, k, hk, hb⟩ := h
    obtain ⟨hlt, hp, -⟩ := Array.findIdx?_eq_some_iff_getElem.mp hi
    have hkk : s.vm.classes[c] = k := (Array.getElem?_eq_some_iff.mp hk).2
    rw [hkk] at hp
    cases hkind : k.kind with
    | array component ty =>
      rw [hkind] at hb hp
      simp at hb hp
      exact ⟨comp, c, k, rfl, hi, hk, by rw [hkind, hp, hb.1], hb.2⟩
    | _ => rw [hkind] at hb; simp at hb
theorem va_AOA.moved {ty : FieldType} {u U : State} (hvm : u.vm.Alike U.vm) (h : va_AOA ty u) : va_AOA ty U := by
  obtain ⟨comp, c, k, h1, h2, h3, h4, h5⟩ := aoa_spec h
  obtain ⟨k', hk', he⟩ := hvm.2.2 _ _ h3
  have hi : (U.vm.classes.findIdx? fun (x : Class) => match x.kind with | .array component _ => component == comp | _ => false) = some c := by
    refine Eq.trans (va_idx_bare U.vm comp).symm ?_
    first | rw [hvm.bare_eq] | rw [← hvm.bare_eq]
    exact (va_idx_bare u.vm comp).trans h2
  have hkind : k'.kind = .array comp (.array ty) := by rw [he]; exact h4
  have f1 : U.vm.findClass (FieldType.array ty).toString = some comp := by rw [hvm.findClass]; exact h1
  have f2 : U.vm.findClass ("[" ++ (FieldType.array ty).toString) = some c := by rw [hvm.findClass]; exact h5
  unfold va_AOA Cond.before Cond.holds
  simp only [Cond.value]
  rw [f1, Option.bind_some]
  refine (congrArg (fun o : Option Nat => (o.bind (fun c => (U.vm.classes[c]?).map fun (k : Class) => match k.kind with | .array _ t => decide (t = FieldType.array ty) && decide (U.vm.findClass ("[" ++ (FieldType.array ty).toString) = some c) | _ => false) == some true)) hi).trans ?_
  simp [hk', hkind, f2]
theorem AOs.moved {u U : State} (hvm : u.vm.Alike U.vm) (h : AOs u) : AOs U := ⟨h.1.moved hvm, h.2.1.moved hvm, h.2.2.moved hvm⟩
end
section
/-! THE SMALL MACHINE, 2: what is owed at a point (wp), instruction by instruction -/
def getL : List (Option MV) → Nat → Option MV
  | [], _ => none
  | a :: _, 0 => a
  | _ :: l, n + 1 => getL l n
def setL : List (Option MV) → Nat → Option MV → List (Option MV)
  | [], _, _ => []
  | _ :: l, 0, v => v :: l
  | a :: l, n + 1, v => a :: setL l n v
def ltL : List (Option MV) → Nat → Bool
  | [], _ => false
  | _ :: _, 0 => true
  | _ :: l, n + 1 => ltL l n
def isLong : Option MV → Bool
  | some (.inr (.inl _)) => true
  | _ => false
/-- a long below the place goes when its second half is written -/
def killL : List (Option MV) → Nat → List (Option MV)
  | l, 0 => l
  | l, n + 1 => if isLong (getL l n) = true then setL l n none else l
def inl : List Nat → Nat → Bool
  | [], _ => false
  | a :: l, n => if a = n then true else inl l n
def pI (st : List MV) (f : Int → List MV → Prop) : Prop := match st with
  | .inl x :: r => f x r
  | _ => False
def pL (st : List MV) (f : Int → List MV → Prop) : Prop := match st with
  | .inr (.inl x) :: r => f x r
  | _ => False
def pR (st : List MV) (f : Int → List MV → Prop) : Prop := match st with
  | .inr (.inr (some a)) :: r => f a r
  | _ => False
def pA : Nat → List MV → List MV → (List MV → List MV → Prop) → Prop
  | 0, st, acc, f => f acc st
  | n + 1, v :: st, acc, f => pA n st (v :: acc) f
  | _ + 1, [], _, _ => False
def lI : List (Option MV) → Nat → (Int → Prop) → Prop
  | some (.inl v) :: _, 0, f => f v
  | _ :: l, n + 1, f => lI l n f
  | _, _, _ => False
def lL : List (Option MV) → Nat → (Int → Prop) → Prop
  | some (.inr (.inl v)) :: _, 0, f => f v
  | _ :: l, n + 1, f => lL l n f
  | _, _, _ => False
def lR : List (Option MV) → Nat → (Int → Prop) → Prop
  | some (.inr (.inr (some v))) :: _, 0, f => f v
  | _ :: l, n + 1, f => lR l n f
  | _, _, _ => False
def pV (st : List MV) (f : MV → List MV → Prop) : Prop := match st with
  | v :: r => f v r
  | [] => False
def cnd (cd : ClassFile.Cond) (x y : Int) : Prop := match cd with
  | .eq => x = y
  | .ne => ¬ x = y
  | .lt => x < y
  | .ge => y ≤ x
  | .gt => y < x
  | .le => x ≤ y
def br (c A B : Prop) : Prop := (c → A) ∧ (¬ c → B)
def tgt (ts : List Nat) : Nat := match ts with
  | t :: _ => t
  | [] => 0
def tsw (f : Nat → Prop) (x : Int) : Int → List Nat → Prop
  | _, [] => True
  | v, t :: ts => (x = v → f t) ∧ tsw f x (v + 1) ts
def lcm (x y : Int) : Int := if y < x then 1 else if x = y then 0 else -1
def rcv (rk : Nat) (As : List MV) : Prop := if 10 ≤ rk then True else match As with
  | .inr (.inr (some a)) :: _ => (G a).1 = rk ∧ 0 < a
  | _ => False
def rpl (r : Option MV) (st : List MV) : List MV := match r with
  | some v => v :: st
  | none => st
def mputI (σ : MS) (a i v : Int) : MS := (σ.1, σ.2.1, upI σ.2.2.1 a i v, σ.2.2.2)
def mputL (σ : MS) (a i v : Int) : MS := (σ.1, σ.2.1, σ.2.2.1, upI σ.2.2.2 a i v)
def mputP (σ : MS) (a i : Int) (v : Option Int) : MS := (σ.1, upP σ.2.1 a i v, σ.2.2.1, σ.2.2.2)
/-- a new cell: all its places 0 or null -/
def mnew (σ : MS) : MS := (σ.1 + 1, fun b i => if b = σ.1 then none else σ.2.1 b i, fun b i => if b = σ.1 then 0 else σ.2.2.1 b i, fun b i => if b = σ.1 then 0 else σ.2.2.2 b i)
/-- n new rows behind a new row that holds them -/
def mnewM (σ : MS) (n : Nat) : MS := (σ.1 + 1 + n, fun b i => if (σ.1 : Int) ≤ b then (if b = σ.1 ∧ 0 ≤ i ∧ i < n then some (σ.1 + 1 + i) else none) else σ.2.1 b i, fun b i => if (σ.1 : Int) ≤ b then 0 else σ.2.2.1 b i, fun b i => if (σ.1 : Int) ≤ b then 0 else σ.2.2.2 b i)
def atk (t : ArrayType) : Nat := match t with
  | .int => 10
  | .long => 11
  | .byte => 12
  | .boolean => 13
  | _ => 99
def oI (Z : Nat → Option (Int ⊕ Int)) (x : Nat) (f : Int → Prop) : Prop := match Z x with
  | some (.inl x) => f x
  | _ => False
def oL (Z : Nat → Option (Int ⊕ Int)) (x : Nat) (f : Int → Prop) : Prop := match Z x with
  | some (.inr x) => f x
  | _ => False
def oF (F : Nat → Option (Nat × Nat × Nat × Nat)) (x : Nat) (f : Nat → Nat → Nat → Nat → Prop) : Prop := match F x with
  | some (a, b, c, d) => f a b c d
  | none => False
def oN (U : Nat → Option Nat) (x : Nat) (f : Nat → Prop) (g : Prop) : Prop := match U x with
  | some a => f a
  | none => g
def oC (Y : Nat → Option CI) (x : Nat) (f : Nat → Nat → Nat → Nat → (List MV → MS → (Option MV → MS → Prop) → Prop) → Prop) : Prop := match Y x with
  | some (a, b, c, d, g) => f a b c d g
  | none => False
def oS (o : Option (Nat × (Int → Int))) (f : Nat → (Int → Int) → Prop) : Prop := match o with
  | some (a, b) => f a b
  | none => False
def fv (σ : MS) (a i : Int) (c : Nat) : MV := if c = 2 then .inr (.inr (σ.2.1 a i)) else if c = 1 then .inr (.inl (σ.2.2.2 a i)) else .inl (σ.2.2.1 a i)
def fp (c : Nat) (st : List MV) (σ : MS) (i : Int) (f : List MV → MS → Prop) : Prop := if c = 2 then (pR st fun v r => pR r fun a r => (G v).1 ≠ 17 ∧ f r (mputP σ a i (some v)))
  else if c = 1 then False
  else pI st fun x r => pR r fun a r => (c = 3 → x = 0 ∨ x = 1) ∧ f r (mputI σ a i x)
/-- the receiver of a put of kind c -/
def fr (st : List MV) : Int := match st with
  | _ :: .inr (.inr (some a)) :: _ => a
  | _ => 0
def nf (x : Fin 4) : Nat := x.val
theorem nf_0 : nf 0 = 0 := by decide
theorem nf_1 : nf 1 = 1 := by decide
theorem nf_2 : nf 2 = 2 := by decide
theorem nf_3 : nf 3 = 3 := by decide
def nf2 (x : Fin 2) : Int := x.val
theorem nf2_0 : nf2 0 = 0 := by decide
theorem nf2_1 : nf2 1 = 1 := by decide
def lIn (l : List (Option MV)) (x : Fin 4) (f : Int → Prop) : Prop := lI l (nf x) f
def lLn (l : List (Option MV)) (x : Fin 4) (f : Int → Prop) : Prop := lL l (nf x) f
def lRn (l : List (Option MV)) (x : Fin 4) (f : Int → Prop) : Prop := lR l (nf x) f
theorem lIn_0 (l : List (Option MV)) (f : Int → Prop) : lIn l 0 f = lI l 0 f := propext Iff.rfl
theorem lIn_1 (l : List (Option MV)) (f : Int → Prop) : lIn l 1 f = lI l 1 f := propext Iff.rfl
theorem lIn_2 (l : List (Option MV)) (f : Int → Prop) : lIn l 2 f = lI l 2 f := propext Iff.rfl
theorem lIn_3 (l : List (Option MV)) (f : Int → Prop) : lIn l 3 f = lI l 3 f := propext Iff.rfl
theorem lLn_0 (l : List (Option MV)) (f : Int → Prop) : lLn l 0 f = lL l 0 f := propext Iff.rfl
theorem lLn_1 (l : List (Option MV)) (f : Int → Prop) : lLn l 1 f = lL l 1 f := propext Iff.rfl
theorem lLn_2 (l : List (Option MV)) (f : Int → Prop) : lLn l 2 f = lL l 2 f := propext Iff.rfl
theorem lLn_3 (l : List (Option MV)) (f : Int → Prop) : lLn l 3 f = lL l 3 f := propext Iff.rfl
theorem lRn_0 (l : List (Option MV)) (f : Int → Prop) : lRn l 0 f = lR l 0 f := propext Iff.rfl
theorem lRn_1 (l : List (Option MV)) (f : Int → Prop) : lRn l 1 f = lR l 1 f := propext Iff.rfl
theorem lRn_2 (l : List (Option MV)) (f : Int → Prop) : lRn l 2 f = lR l 2 f := propext Iff.rfl
theorem lRn_3 (l : List (Option MV)) (f : Int → Prop) : lRn l 3 f = lR l 3 f := propext Iff.rfl
def stp (F : Nat → Option (Nat × Nat × Nat × Nat)) (Y : Nat → Option CI) (Z : Nat → Option (Int ⊕ Int)) (U : Nat → Option Nat) (S : Option (Nat × (Int → Int))) (ini : Bool) (mc ms : Nat) (post : Option MV → MS → Prop) (K : Pt → Prop)
    (nx : List ME → Nat → List (Option MV) → List MV → MS → Nat → Nat → Prop) (i : Instr) (len : Nat) (ts : List Nat) (b : List ME) (pc : Nat) (ls : List (Option MV)) (st : List MV) (σ : MS) (k j : Nat) : Prop :=
  match i with
  | .iconst n => nx b (pc + len) ls (.inl n :: st) σ k j
  | .bipush n => nx b (pc + len) ls (.inl n :: st) σ k j
  | .sipush n => nx b (pc + len) ls (.inl n :: st) σ k j
  | .lconst n => nx b (pc + len) ls (.inr (.inl (nf2 n)) :: st) σ k j
  | .ldc x => oI Z x fun v => nx b (pc + len) ls (.inl v :: st) σ k j
  | .ldc_w x => oI Z x fun v => nx b (pc + len) ls (.inl v :: st) σ k j
  | .ldc2_w x => oL Z x fun v => nx b (pc + len) ls (.inr (.inl v) :: st) σ k j
  | .iload x => lI ls x fun v => nx b (pc + len) ls (.inl v :: st) σ k j
  | .iload_n x => lIn ls x fun v => nx b (pc + len) ls (.inl v :: st) σ k j
  | .lload x => lL ls x fun v => nx b (pc + len) ls (.inr (.inl v) :: st) σ k j
  | .lload_n x => lLn ls x fun v => nx b (pc + len) ls (.inr (.inl v) :: st) σ k j
  | .aload x => lR ls x fun v => nx b (pc + len) ls (.inr (.inr (some v)) :: st) σ k j
  | .aload_n x => lRn ls x fun v => nx b (pc + len) ls (.inr (.inr (some v)) :: st) σ k j
  | .istore x => pI st fun v r => ltL ls x = true ∧ nx b (pc + len) (setL (killL ls x) x (some (.inl v))) r σ k j
  | .istore_n x => pI st fun v r => ltL ls (nf x) = true ∧ nx b (pc + len) (setL (killL ls (nf x)) (nf x) (some (.inl v))) r σ k j
  | .astore x => pR st fun v r => ltL ls x = true ∧ nx b (pc + len) (setL (killL ls x) x (some (.inr (.inr (some v))))) r σ k j
  | .astore_n x => pR st fun v r => ltL ls (nf x) = true ∧ nx b (pc + len) (setL (killL ls (nf x)) (nf x) (some (.inr (.inr (some v))))) r σ k j
  | .lstore x => pL st fun v r => ltL ls (x + 1) = true ∧ nx b (pc + len) (setL (setL (killL ls x) x (some (.inr (.inl v)))) (x + 1) none) r σ k j
  | .lstore_n x => pL st fun v r => ltL ls ((nf x) + 1) = true ∧ nx b (pc + len) (setL (setL (killL ls (nf x)) (nf x) (some (.inr (.inl v)))) ((nf x) + 1) none) r σ k j
  | .iinc x n => lI ls x fun v => nx b (pc + len) (setL (killL ls x) x (some (.inl (v + n)))) st σ k j
  | .iadd => pI st fun y r => pI r fun x r => nx b (pc + len) ls (.inl (x + y) :: r) σ k j
  | .isub => pI st fun y r => pI r fun x r => nx b (pc + len) ls (.inl (x - y) :: r) σ k j
  | .imul => pI st fun y r => pI r fun x r => nx b (pc + len) ls (.inl (x * y) :: r) σ k j
  | .idiv => pI st fun y r => pI r fun x r => RI x ∧ RI y ∧ y ≠ 0 ∧ nx b (pc + len) ls (.inl (x.tdiv y) :: r) σ k j
  | .irem => pI st fun y r => pI r fun x r => RI x ∧ RI y ∧ y ≠ 0 ∧ nx b (pc + len) ls (.inl (x.tmod y) :: r) σ k j
  | .iand => pI st fun y r => pI r fun x r => nx b (pc + len) ls (.inl (Int32.ofInt x &&& Int32.ofInt y).toInt :: r) σ k j
  | .ior => pI st fun y r => pI r fun x r => nx b (pc + len) ls (.inl (Int32.ofInt x ||| Int32.ofInt y).toInt :: r) σ k j
  | .ishl => pI st fun y r => pI r fun x r => nx b (pc + len) ls (.inl (Int32.ofInt x <<< (Int32.ofInt y &&& 31)).toInt :: r) σ k j
  | .ladd => pL st fun y r => pL r fun x r => nx b (pc + len) ls (.inr (.inl (x + y)) :: r) σ k j
  | .lsub => pL st fun y r => pL r fun x r => nx b (pc + len) ls (.inr (.inl (x - y)) :: r) σ k j
  | .lcmp => pL st fun y r => pL r fun x r => RLg x ∧ RLg y ∧ nx b (pc + len) ls (.inl (lcm x y) :: r) σ k j
  | .i2l => pI st fun x r => RI x ∧ nx b (pc + len) ls (.inr (.inl x) :: r) σ k j
  | .i2b => pI st fun x r => -128 ≤ x ∧ x ≤ 127 ∧ nx b (pc + len) ls (.inl x :: r) σ k j
  | .dup => pV st fun v r => mcat v = 1 ∧ nx b (pc + len) ls (v :: v :: r) σ k j
  | .dup2 => pV st fun v r => pV r fun w r => mcat v = 1 ∧ mcat w = 1 ∧ nx b (pc + len) ls (v :: w :: v :: w :: r) σ k j
  | .goto _ => nx [] (tgt ts) ls st σ k j
  | .ifCond cd _ => pI st fun x r => RI x ∧ br (cnd cd x 0) (nx [] (tgt ts) ls r σ k j) (nx b (pc + len) ls r σ k j)
  | .if_icmp cd _ => pI st fun y r => pI r fun x r => RI x ∧ RI y ∧ br (cnd cd x y) (nx [] (tgt ts) ls r σ k j) (nx b (pc + len) ls r σ k j)
  | .tableswitch _ lo hi _ => pI st fun x r => RI x ∧ ((x < lo ∨ hi < x) → nx [] (tgt ts) ls r σ k j) ∧ tsw (fun t => nx [] t ls r σ k j) x lo ts.tail
  | .getfield x => oF F x fun ci fi c _ => pR st fun a r => (G a).1 = ci ∧ nx b (pc + len) ls (fv σ a fi c :: r) σ k j
  | .putfield x => oF F x fun ci fi c fw => (fw = 0 ∨ fw = 1 ∧ ini = true) ∧ (G (fr st)).1 = ci ∧ fp c st σ fi fun r σ' => nx b (pc + len) ls r σ' k j
  | .iaload => pI st fun i r => pR r fun a r => if (G a).1 = 17 then (oS S fun L xs => 0 ≤ i ∧ i < L ∧ nx b (pc + len) ls (.inl (xs i) :: r) σ k j)
      else (G a).1 = 10 ∧ 0 ≤ i ∧ i < (G a).2 ∧ nx b (pc + len) ls (.inl (σ.2.2.1 a i) :: r) σ k j
  | .baload => pI st fun i r => pR r fun a r => ((G a).1 = 12 ∨ (G a).1 = 13) ∧ 0 ≤ i ∧ i < (G a).2 ∧ nx b (pc + len) ls (.inl (σ.2.2.1 a i) :: r) σ k j
  | .laload => pI st fun i r => pR r fun a r => (G a).1 = 11 ∧ 0 ≤ i ∧ i < (G a).2 ∧ nx b (pc + len) ls (.inr (.inl (σ.2.2.2 a i)) :: r) σ k j
  | .aaload => pI st fun i r => pR r fun a r => ((G a).1 = 14 ∨ (G a).1 = 15 ∨ (G a).1 = 16) ∧ 0 ≤ i ∧ i < (G a).2 ∧ nx b (pc + len) ls (.inr (.inr (σ.2.1 a i)) :: r) σ k j
  | .iastore => pI st fun x r => pI r fun i r => pR r fun a r => (G a).1 = 10 ∧ 0 ≤ i ∧ i < (G a).2 ∧ nx b (pc + len) ls r (mputI σ a i x) k j
  | .bastore => pI st fun x r => pI r fun i r => pR r fun a r => ((G a).1 = 12 ∧ -128 ≤ x ∧ x ≤ 127 ∨ (G a).1 = 13 ∧ (x = 0 ∨ x = 1)) ∧ 0 ≤ i ∧ i < (G a).2 ∧ nx b (pc + len) ls r (mputI σ a i x) k j
  | .lastore => pL st fun x r => pI r fun i r => pR r fun a r => (G a).1 = 11 ∧ 0 ≤ i ∧ i < (G a).2 ∧ nx b (pc + len) ls r (mputL σ a i x) k j
  | .aastore => pR st fun x r => pI r fun i r => pR r fun a r => ((G a).1 = 14 ∧ (G x).1 = 3 ∨ (G a).1 = 15 ∧ (G x).1 = 2) ∧ 0 ≤ i ∧ i < (G a).2 ∧ nx b (pc + len) ls r (mputP σ a i (some x)) k j
  | .arraylength => pR st fun a r => if (G a).1 = 17 then (oS S fun L _ => nx b (pc + len) ls (.inl L :: r) σ k j)
      else 10 ≤ (G a).1 ∧ (G a).1 ≤ 16 ∧ nx b (pc + len) ls (.inl (G a).2 :: r) σ k j
  | .newarray t => pI st fun n r => 0 ≤ n ∧ n ≤ 100000 ∧ atk t ≤ 13 ∧ G σ.1 = (atk t, n.toNat) ∧ k + 1 ≤ mc ∧ j + n.toNat ≤ ms ∧ nx b (pc + len) ls (.inr (.inr (some σ.1)) :: r) (mnew σ) (k + 1) (j + n.toNat)
  | .anewarray x => oN U (x + 100000) (fun t => pI st fun n r => 0 ≤ n ∧ n ≤ 100000 ∧ (t = 14 ∨ t = 15) ∧ G σ.1 = (t, n.toNat) ∧ k + 1 ≤ mc ∧ j + n.toNat ≤ ms ∧ nx b (pc + len) ls (.inr (.inr (some σ.1)) :: r) (mnew σ) (k + 1) (j + n.toNat)) False
  | .multianewarray x _ => oN U x (fun t => pI st fun q r => pI r fun n r => 0 ≤ n ∧ n ≤ 1000 ∧ 0 ≤ q ∧ q ≤ 1000 ∧ t = 16 ∧ G σ.1 = (16, n.toNat) ∧ (∀ i : Nat, i < n.toNat → G (σ.1 + 1 + i) = (10, q.toNat)) ∧ k + 1 + n.toNat ≤ mc ∧ j + n.toNat + n.toNat * q.toNat ≤ ms ∧
      nx b (pc + len) ls (.inr (.inr (some σ.1)) :: r) (mnewM σ n.toNat) (k + 1 + n.toNat) (j + n.toNat + n.toNat * q.toNat)) False
  | .new x => oN U x (fun ci => ci < 10 ∧ (G σ.1).1 = ci ∧ k + 1 ≤ mc ∧ j + nfs ci ≤ ms ∧ nx b (pc + len) ls (.inr (.inr (some σ.1)) :: st) (mnew σ) (k + 1) (j + nfs ci)) (K (pc, ls, st, σ, k, j))
  | .invokevirtual x => oC Y x fun n rk mc' ms' sp => rk < 10 ∧ pA n st [] fun As r => rcv rk As ∧ mcs r ≤ 8 ∧ k + mc' ≤ mc ∧ j + ms' ≤ ms ∧ sp As σ (fun v σ' => nx b (pc + len) ls (rpl v r) σ' (k + mc') (j + ms'))
  | .invokespecial x => oC Y x fun n rk mc' ms' sp => 20 ≤ rk ∧ pA n st [] fun As r => rcv rk As ∧ mcs r ≤ 8 ∧ k + mc' ≤ mc ∧ j + ms' ≤ ms ∧ sp As σ (fun v σ' => nx b (pc + len) ls (rpl v r) σ' (k + mc') (j + ms'))
  | .invokestatic x => oC Y x fun n rk mc' ms' sp => rk = 10 ∧ pA n st [] fun As r => rcv rk As ∧ mcs r ≤ 8 ∧ k + mc' ≤ mc ∧ j + ms' ≤ ms ∧ sp As σ (fun v σ' => nx b (pc + len) ls (rpl v r) σ' (k + mc') (j + ms'))
  | .ireturn => (match st with
    | [.inl v] => k ≤ mc ∧ j ≤ ms ∧ post (some (.inl v)) σ
    | _ => False)
  | .lreturn => (match st with
    | [.inr (.inl v)] => k ≤ mc ∧ j ≤ ms ∧ post (some (.inr (.inl v))) σ
    | _ => False)
  | .areturn => (match st with
    | [.inr (.inr v)] => k ≤ mc ∧ j ≤ ms ∧ post (some (.inr (.inr v))) σ
    | _ => False)
  | .return_ => (match st with
    | [] => k ≤ mc ∧ j ≤ ms ∧ post none σ
    | _ => False)
  | _ => False
def wpD (B : Nat → List ME) (cuts : List Nat) (F : Nat → Option (Nat × Nat × Nat × Nat)) (Y : Nat → Option CI) (Z : Nat → Option (Int ⊕ Int)) (U : Nat → Option Nat) (S : Option (Nat × (Int → Int))) (ini : Bool) (mc ms : Nat) (post : Option MV → MS → Prop) (K : Pt → Prop) :
    Nat → List ME → Nat → List (Option MV) → List MV → MS → Nat → Nat → Prop
  | 0, _, _, _, _, _, _, _ => False
  | n + 1, [], pc, ls, st, σ, k, j => if inl cuts pc = true then K (pc, ls, st, σ, k, j) else wpD B cuts F Y Z U S ini mc ms post K n (B pc) pc ls st σ k j
  | n + 1, (i, len, ts) :: b, pc, ls, st, σ, k, j => stp F Y Z U S ini mc ms post K (wpD B cuts F Y Z U S ini mc ms post K n) i len ts b pc ls st σ k j
theorem wp_ex : ∃ f : (Nat → List ME) → List Nat → (Nat → Option (Nat × Nat × Nat × Nat)) → (Nat → Option CI) → (Nat → Option (Int ⊕ Int)) → (Nat → Option Nat) → Option (Nat × (Int → Int)) → Bool → Nat → Nat → (Option MV → MS → Prop) → (Pt → Prop) → Nat → List ME → Nat → List (Option MV) → List MV → MS → Nat → Nat → Prop, f = wpD := ⟨wpD, rfl⟩
/-- the same, closed to the kernel's unfolding -/
noncomputable def wp : (Nat → List ME) → List Nat → (Nat → Option (Nat × Nat × Nat × Nat)) → (Nat → Option CI) → (Nat → Option (Int ⊕ Int)) → (Nat → Option Nat) → Option (Nat × (Int → Int)) → Bool → Nat → Nat → (Option MV → MS → Prop) → (Pt → Prop) → Nat → List ME → Nat → List (Option MV) → List MV → MS → Nat → Nat → Prop := Classical.choose wp_ex
theorem wp_eq : wp = wpD := Classical.choose_spec wp_ex
theorem wp_0 (B : Nat → List ME) (cuts : List Nat) (F : Nat → Option (Nat × Nat × Nat × Nat)) (Y : Nat → Option CI) (Z : Nat → Option (Int ⊕ Int)) (U : Nat → Option Nat) (S : Option (Nat × (Int → Int))) (ini : Bool) (mc ms : Nat) (post : Option MV → MS → Prop) (K : Pt → Prop) (b : List ME) (pc : Nat) (ls : List (Option MV)) (st : List MV) (σ : MS) (k j : Nat) :
    wp B cuts F Y Z U S ini mc ms post K 0 b pc ls st σ k j = False := by rw [wp_eq]; rfl
/-- the static look at a block -/
def chkT (pc : Nat) (i : Instr) (len : Nat) (ts : List Nat) : Bool := match i with
  | .goto off => decide (len = 3) && (match ts with
    | [t] => decide ((pc : Int) + off = t)
    | _ => false)
  | .ifCond _ off => decide (len = 3) && (match ts with
    | [t] => decide ((pc : Int) + off = t)
    | _ => false)
  | .if_icmp _ off => decide (len = 3) && (match ts with
    | [t] => decide ((pc : Int) + off = t)
    | _ => false)
  | .tableswitch d lo hi offs => decide (ts.map (fun (t : Nat) => (t : Int)) = ((d :: offs.toList).map fun o => (pc : Int) + o)) && decide (hi - lo + 1 = offs.toList.length)
  | .bipush n => decide (-128 ≤ n ∧ n ≤ 127)
  | .sipush n => decide (-32768 ≤ n ∧ n ≤ 32767)
  | .multianewarray _ d => decide (d = 2)
  | _ => true
def ilen (i : Instr) : Nat := match i with
  | .bipush _ => 2
  | .sipush _ => 3
  | .ldc _ => 2
  | .ldc_w _ => 3
  | .ldc2_w _ => 3
  | .iload _ => 2
  | .lload _ => 2
  | .aload _ => 2
  | .istore _ => 2
  | .lstore _ => 2
  | .astore _ => 2
  | .iinc _ _ => 3
  | .goto _ => 3
  | .ifCond _ _ => 3
  | .if_icmp _ _ => 3
  | .getfield _ => 3
  | .putfield _ => 3
  | .invokevirtual _ => 3
  | .invokespecial _ => 3
  | .invokestatic _ => 3
  | .new _ => 3
  | .newarray _ => 2
  | .anewarray _ => 3
  | .multianewarray _ _ => 4
  | .tableswitch _ _ _ _ => 0
  | _ => 1
def chk (bytes : ByteArray) : Nat → List ME → Bool
  | _, [] => true
  | pc, (i, len, ts) :: b => decide (decode bytes pc = .ok (i, len)) && (decide (len = ilen i) || decide (ilen i = 0)) && chkT pc i len ts && chk bytes (pc + len) b
theorem chk_nil {bytes : ByteArray} {pc : Nat} : chk bytes pc [] = true := rfl
theorem wp_nil (B : Nat → List ME) (cuts : List Nat) (F : Nat → Option (Nat × Nat × Nat × Nat)) (Y : Nat → Option CI) (Z : Nat → Option (Int ⊕ Int)) (U : Nat → Option Nat) (S : Option (Nat × (Int → Int))) (ini : Bool) (mc ms : Nat) (post : Option MV → MS → Prop) (K : Pt → Prop) (n pc : Nat) (ls : List (Option MV)) (st : List MV) (σ : MS) (k j : Nat) :
    wp B cuts F Y Z U S ini mc ms post K (n + 1) [] pc ls st σ k j = if inl cuts pc = true then K (pc, ls, st, σ, k, j) else wp B cuts F Y Z U S ini mc ms post K n (B pc) pc ls st σ k j := by rw [wp_eq]; exact propext Iff.rfl
theorem wp_cons (B : Nat → List ME) (cuts : List Nat) (F : Nat → Option (Nat × Nat × Nat × Nat)) (Y : Nat → Option CI) (Z : Nat → Option (Int ⊕ Int)) (U : Nat → Option Nat) (S : Option (Nat × (Int → Int))) (ini : Bool) (mc ms : Nat) (post : Option MV → MS → Prop) (K : Pt → Prop) (n pc : Nat) (i : Instr) (len : Nat) (ts : List Nat) (b : List ME) (ls : List (Option MV)) (st : List MV) (σ : MS) (k j : Nat) :
    wp B cuts F Y Z U S ini mc ms post K (n + 1) ((i, len, ts) :: b) pc ls st σ k j = stp F Y Z U S ini mc ms post K (wp B cuts F Y Z U S ini mc ms post K n) i len ts b pc ls st σ k j := by rw [wp_eq]; exact propext Iff.rfl
end
section
/-! THE SMALL MACHINE, 3: locals -/
theorem getL_set_same : ∀ (l : List (Option MV)) (x : Nat) (v : Option MV), ltL l x = true → getL (setL l x v) x = v
  | [], x, v, h => by cases x <;> cases h
  | _ :: _, 0, _, _ => rfl
  | _ :: l, x + 1, v, h => getL_set_same l x v h
theorem getL_set_ne : ∀ (l : List (Option MV)) (x y : Nat) (v : Option MV), y ≠ x → getL (setL l x v) y = getL l y
  | [], _, _, _, _ => rfl
  | _ :: _, 0, 0, _, h => absurd rfl h
  | _ :: _, 0, y + 1, _, _ => rfl
  | _ :: _, x + 1, 0, _, _ => rfl
  | _ :: l, x + 1, y + 1, v, h => getL_set_ne l x y v (fun e => h (by rw [e]))
theorem setL_len : ∀ (l : List (Option MV)) (x : Nat) (v : Option MV), (setL l x v).length = l.length
  | [], _, _ => rfl
  | _ :: _, 0, _ => rfl
  | _ :: l, x + 1, v => congrArg (· + 1) (setL_len l x v)
theorem ltL_lt : ∀ (l : List (Option MV)) (x : Nat), ltL l x = true → x < l.length
  | [], x, h => by cases x <;> cases h
  | _ :: _, 0, _ => Nat.zero_lt_succ _
  | _ :: l, x + 1, h => Nat.succ_lt_succ (ltL_lt l x h)
theorem ltL_of : ∀ (l : List (Option MV)) (x : Nat), x < l.length → ltL l x = true
  | [], x, h => absurd h (Nat.not_lt_zero _)
  | _ :: _, 0, _ => rfl
  | _ :: l, x + 1, h => ltL_of l x (Nat.lt_of_succ_lt_succ h)
theorem getL_lt : ∀ (l : List (Option MV)) (x : Nat) (v : MV), getL l x = some v → x < l.length
  | [], x, v, h => by cases x <;> cases h
  | _ :: _, 0, _, _ => Nat.zero_lt_succ _
  | _ :: l, x + 1, v, h => Nat.succ_lt_succ (getL_lt l x v h)
theorem killL_len (l : List (Option MV)) (x : Nat) : (killL l x).length = l.length := by
  cases x with
  | zero => rfl
  | succ n =>
    show (if isLong (getL l n) = true then setL l n none else l).length = l.length
    split
    · exact setL_len _ _ _
    · rfl
theorem mcat_mtr (ad : Int → Nat) (v : MV) : (mtr ad v).category = mcat v := by
  rcases v with x | x | x | x <;> rfl
/-- what is left of a local behind a store at x -/
theorem killL_get {l : List (Option MV)} {x i : Nat} {w : MV} (h : getL (killL l x) i = some w) : getL l i = some w ∧ ¬ (i + 1 = x ∧ mcat w = 2) := by
  cases x with
  | zero => exact ⟨h, fun q => by omega⟩
  | succ n =>
    change getL (if isLong (getL l n) = true then setL l n none else l) i = some w at h
    by_cases hi : i = n
    · subst hi
      split at h
      · rename_i hl
        by_cases hlt : i < l.length
        · rw [getL_set_same _ _ _ (ltL_of _ _ hlt)] at h; cases h
        · have := getL_lt _ _ _ h
          rw [setL_len] at this; exact absurd this hlt
      · rename_i hl
        refine ⟨h, fun q => hl ?_⟩
        rw [h]
        rcases w with w | w | w
        · cases q.2
        · rfl
        · cases q.2
    · refine ⟨?_, fun q => hi (by omega)⟩
      split at h
      · rwa [getL_set_ne _ _ _ _ hi] at h
      · exact h
def LR (ad : Int → Nat) (N nL : Nat) (ls : List (Option MV)) (rl : Array Slot) : Prop :=
  rl.size = nL ∧ lv_wf rl ∧ ls.length = nL ∧ ∀ (i : Nat) (v : MV), getL ls i = some v → rl[i]? = some (.val (mtr ad v)) ∧ mok N v
def mlv (ad : Int → Nat) (ls : List (Option MV)) : List (Nat × Value) := (List.range ls.length).filterMap (fun i => (getL ls i).map (fun v => (i, mtr ad v)))
theorem mlv_mem {ad : Int → Nat} {ls : List (Option MV)} {i : Nat} {v : MV} (h : getL ls i = some v) : (i, mtr ad v) ∈ mlv ad ls :=
  List.mem_filterMap.mpr ⟨i, List.mem_range.mpr (getL_lt _ _ _ h), by rw [h]; rfl⟩
theorem LR.has {ad : Int → Nat} {N nL : Nat} {ls : List (Option MV)} {rl : Array Slot} (h : LR ad N nL ls rl) : lv_has rl nL (mlv ad ls) := by
  refine ⟨h.1, h.2.1, fun q hq => ?_⟩
  obtain ⟨i, -, hi⟩ := List.mem_filterMap.mp hq
  cases hg : getL ls i with
  | none => rw [hg] at hi; cases hi
  | some v => rw [hg] at hi; cases hi; exact (h.2.2.2 i v hg).1
theorem LR.st1 {ad : Int → Nat} {N nL : Nat} {ls : List (Option MV)} {rl rl' : Array Slot} {x : Nat} {v : MV} (h : LR ad N nL ls rl) (hx : x < nL) (hv : mok N v)
    (h' : lv_has rl' nL ((x, mtr ad v) :: (mlv ad ls).filter (fun q => !(q.1 == x) && !(q.1 + 1 == x && q.2.category == 2)))) : LR ad N nL (setL (killL ls x) x (some v)) rl' := by
  refine ⟨h'.1, h'.2.1, by rw [setL_len, killL_len]; exact h.2.2.1, fun i w hw => ?_⟩
  by_cases e : i = x
  · subst e
    rw [getL_set_same _ _ _ (ltL_of _ _ (by rw [killL_len, h.2.2.1]; exact hx))] at hw
    cases hw
    exact ⟨h'.2.2 _ List.mem_cons_self, hv⟩
  · rw [getL_set_ne _ _ _ _ e] at hw
    obtain ⟨hg, hn⟩ := killL_get hw
    refine ⟨h'.2.2 _ (List.mem_cons_of_mem _ (List.mem_filter.mpr ⟨mlv_mem hg, ?_⟩)), (h.2.2.2 i w hg).2⟩
    rw [mcat_mtr]
    simp only [Bool.and_eq_true, Bool.not_eq_true', beq_eq_false_iff_ne, Bool.and_eq_false_iff, ne_eq]
    refine ⟨e, ?_⟩
    by_cases e2 : i + 1 = x
    · exact Or.inr (fun q => hn ⟨e2, q⟩)
    · exact Or.inl e2
theorem LR.st2 {ad : Int → Nat} {N nL : Nat} {ls : List (Option MV)} {rl rl' : Array Slot} {x : Nat} {v : MV} (h : LR ad N nL ls rl) (hx : x + 1 < nL) (hv : mok N v)
    (h' : lv_has rl' nL ((x, mtr ad v) :: (mlv ad ls).filter (fun q => !(q.1 == x) && (!(q.1 == x + 1) && !(q.1 + 1 == x && q.2.category == 2))))) : LR ad N nL (setL (setL (killL ls x) x (some v)) (x + 1) none) rl' := by
  refine ⟨h'.1, h'.2.1, by rw [setL_len, setL_len, killL_len]; exact h.2.2.1, fun i w hw => ?_⟩
  by_cases e0 : i = x + 1
  · subst e0
    rw [getL_set_same _ _ _ (ltL_of _ _ (by rw [setL_len, killL_len, h.2.2.1]; exact hx))] at hw
    cases hw
  · rw [getL_set_ne _ _ _ _ e0] at hw
    by_cases e : i = x
    · subst e
      rw [getL_set_same _ _ _ (ltL_of _ _ (by rw [killL_len, h.2.2.1]; omega))] at hw
      cases hw
      exact ⟨h'.2.2 _ List.mem_cons_self, hv⟩
    · rw [getL_set_ne _ _ _ _ e] at hw
      obtain ⟨hg, hn⟩ := killL_get hw
      refine ⟨h'.2.2 _ (List.mem_cons_of_mem _ (List.mem_filter.mpr ⟨mlv_mem hg, ?_⟩)), (h.2.2.2 i w hg).2⟩
      rw [mcat_mtr]
      simp only [Bool.and_eq_true, Bool.not_eq_true', beq_eq_false_iff_ne, Bool.and_eq_false_iff, ne_eq]
      refine ⟨e, e0, ?_⟩
      by_cases e2 : i + 1 = x
      · exact Or.inr (fun q => hn ⟨e2, q⟩)
      · exact Or.inl e2
/-! THE SMALL MACHINE, 4: cells -/
theorem mcells_len (dA : Nat → ClassId) (ad : Int → Nat) (σ : MS) : (mcells dA ad σ).length = σ.1 - 1 := by
  unfold mcells; rw [List.length_map, List.length_range]
theorem mcells_get {dA : Nat → ClassId} {ad : Int → Nat} {σ : MS} {n : Nat} (h : n < σ.1 - 1) : (mcells dA ad σ)[n]? = some (ad ((n : Int) + 1), cE dA ad σ ((n : Int) + 1)) := by
  unfold mcells
  rw [List.getElem?_map, List.getElem?_range h]; rfl
theorem mcells_at {dA : Nat → ClassId} {ad : Int → Nat} {σ : MS} {a : Int} (h0 : 0 < a) (h1 : a < σ.1) : (mcells dA ad σ)[(a - 1).toNat]? = some (ad a, cE dA ad σ a) := by
  have := mcells_get (dA := dA) (ad := ad) (σ := σ) (n := (a - 1).toNat) (by omega)
  rwa [show (((a - 1).toNat : Nat) : Int) + 1 = a by omega] at this
theorem mtr_ad {ad ad' : Int → Nat} {N : Nat} (h0 : ad' 0 = ad 0) (h : ∀ a : Int, 0 < a → a < N → ad' a = ad a) {v : MV} (hv : mok N v) : mtr ad' v = mtr ad v := by
  rcases v with x | x | _ | r
  · rfl
  · rfl
  · rfl
  · show Value.ref (ad' r) = Value.ref (ad r)
    rcases hv with hv | hv
    · rw [h r hv.1 hv.2]
    · rw [hv, h0]
theorem mok_le {N N' : Nat} (h : N ≤ N') {v : MV} (hv : mok N v) : mok N' v := by
  rcases v with x | x | _ | r
  · exact hv
  · exact hv
  · exact hv
  · rcases hv with hv | hv
    · exact Or.inl ⟨hv.1, by omega⟩
    · exact Or.inr hv
theorem LR.moved {ad ad' : Int → Nat} {N N' nL : Nat} {ls : List (Option MV)} {rl : Array Slot} (h : LR ad N nL ls rl) (hN : N ≤ N') (h0 : ad' 0 = ad 0) (ha : ∀ a : Int, 0 < a → a < N → ad' a = ad a) : LR ad' N' nL ls rl :=
  ⟨h.1, h.2.1, h.2.2.1, fun i v hv => ⟨by rw [mtr_ad h0 ha (h.2.2.2 i v hv).2]; exact (h.2.2.2 i v hv).1, mok_le hN (h.2.2.2 i v hv).2⟩⟩
theorem mapr_moved {ad ad' : Int → Nat} {N : Nat} (h0 : ad' 0 = ad 0) (h : ∀ a : Int, 0 < a → a < N → ad' a = ad a) {l : List MV} (hl : ∀ v ∈ l, mok N v) : l.map (mtr ad') = l.map (mtr ad) :=
  List.map_congr_left (fun v hv => mtr_ad h0 h (hl v hv))
/-- the cells depend on what lies in them alone -/
theorem cE_congr {dA : Nat → ClassId} {ad ad' : Int → Nat} {σ σ' : MS} {a : Int} (hI : σ'.2.2.1 a = σ.2.2.1 a) (hL : σ'.2.2.2 a = σ.2.2.2 a) (hP : ∀ i, (σ'.2.1 a i).map ad' = (σ.2.1 a i).map ad) : cE dA ad' σ' a = cE dA ad σ a := by
  unfold cE
  have h1 : ∀ t i, msl ad' σ' a t i = msl ad σ a t i := fun t i => by unfold msl; rw [hI, hL, hP]
  have h2 : ∀ k, mar ad' σ' a k = mar ad σ a k := fun k => by unfold mar; rw [hI, hL]; simp only [hP]
  simp only [h1, h2]
theorem mcells_congr {dA : Nat → ClassId} {ad ad' : Int → Nat} {σ σ' : MS} (hN : σ'.1 = σ.1) (h : ∀ a : Int, 0 < a → a < σ.1 → ad' a = ad a ∧ cE dA ad' σ' a = cE dA ad σ a) : mcells dA ad' σ' = mcells dA ad σ := by
  unfold mcells
  rw [hN]
  refine List.map_congr_left (fun k hk => ?_)
  have := List.mem_range.mp hk
  obtain ⟨h1, h2⟩ := h ((k : Int) + 1) (by omega) (by omega)
  rw [h1, h2]
/-- one cell written -/
theorem mcells_set {dA : Nat → ClassId} {ad : Int → Nat} {σ σ' : MS} {a : Int} (h0 : 0 < a) (h1 : a < σ.1) (hN : σ'.1 = σ.1) {e : va_E} (he : cE dA ad σ' a = e) (h : ∀ b : Int, b ≠ a → 0 < b → b < σ.1 → cE dA ad σ' b = cE dA ad σ b) :
    (mcells dA ad σ).set (a - 1).toNat (ad a, e) = mcells dA ad σ' := by
  refine List.ext_getElem? (fun n => ?_)
  rw [List.getElem?_set]
  by_cases hn : (a - 1).toNat = n
  · subst hn
    rw [if_pos rfl, if_pos (by rw [mcells_len]; omega), mcells_at h0 (by rw [hN]; exact h1), he]
  · rw [if_neg hn]
    by_cases hl : n < σ.1 - 1
    · rw [mcells_get hl, mcells_get (by rw [hN]; exact hl), h _ (by omega) (by omega) (by omega)]
    · rw [List.getElem?_eq_none (by rw [mcells_len]; omega), List.getElem?_eq_none (by rw [mcells_len, hN]; omega)]
/-- cells that come -/
theorem mcells_app {dA : Nat → ClassId} {ad ad' : Int → Nat} {σ σ' : MS} {ws : va_W} (h1 : 1 ≤ σ.1) (hN : σ'.1 = σ.1 + ws.length) (h : ∀ a : Int, 0 < a → a < σ.1 → ad' a = ad a ∧ cE dA ad' σ' a = cE dA ad σ a)
    (hw : ∀ (n : Nat) (q : Nat × va_E), ws[n]? = some q → q = (ad' ((σ.1 : Int) + n), cE dA ad' σ' ((σ.1 : Int) + n))) : mcells dA ad σ ++ ws = mcells dA ad' σ' := by
  refine List.ext_getElem? (fun n => ?_)
  by_cases hl : n < σ.1 - 1
  · rw [List.getElem?_append_left (by rw [mcells_len]; exact hl), mcells_get hl, mcells_get (by omega)]
    obtain ⟨q1, q2⟩ := h ((n : Int) + 1) (by omega) (by omega)
    rw [q1, q2]
  · rw [List.getElem?_append_right (by rw [mcells_len]; omega), mcells_len]
    by_cases h2 : n - (σ.1 - 1) < ws.length
    · rw [mcells_get (by omega), List.getElem?_eq_getElem h2]
      have := hw _ _ (List.getElem?_eq_getElem h2)
      rw [this, show (σ.1 : Int) + ((n - (σ.1 - 1) : Nat) : Int) = (n : Int) + 1 by omega]
    · rw [List.getElem?_eq_none (by omega), List.getElem?_eq_none (by rw [mcells_len]; omega)]
end
section
/-! THE SMALL MACHINE, 5: numbers, cells by kind -/
theorem RI_pow {x : Int} (h : RI x) : -2 ^ 31 ≤ x ∧ x < 2 ^ 31 := h
theorem I_toInt {x : Int} (h : RI x) : (Int32.ofInt x).toInt = x := Int32.toInt_ofInt_of_le h.1 h.2
theorem L_toInt {x : Int} (h : RLg x) : (Int64.ofInt x).toInt = x := Int64.toInt_ofInt_of_le h.1 h.2
theorem I_lt {x y : Int} (hx : RI x) (hy : RI y) : Int32.ofInt x < Int32.ofInt y ↔ x < y := by rw [Int32.lt_iff_toInt_lt, I_toInt hx, I_toInt hy]
theorem I_le {x y : Int} (hx : RI x) (hy : RI y) : Int32.ofInt x ≤ Int32.ofInt y ↔ x ≤ y := by rw [Int32.le_iff_toInt_le, I_toInt hx, I_toInt hy]
theorem I_eq {x y : Int} (hx : RI x) (hy : RI y) : Int32.ofInt x = Int32.ofInt y ↔ x = y := by rw [← Int32.toInt_inj, I_toInt hx, I_toInt hy]
theorem I_clamp {x : Int} (hx : RI x) : (Int32.ofInt x).toNatClampNeg = x.toNat := Int32.toNatClampNeg_ofInt_of_le hx.1 hx.2
theorem RI_0 : RI 0 := by unfold RI; omega
theorem I_in {i : Int} {n : Nat} (hn : n ≤ 20000) (h0 : 0 ≤ i) (h1 : i < n) : vp_in (Int32.ofInt i) n ∧ (Int32.ofInt i).toNatClampNeg = i.toNat ∧ ((i.toNat : Nat) : Int) = i := by
  have hr : RI i := by unfold RI; omega
  refine ⟨?_, I_clamp hr, by omega⟩
  unfold vp_in
  rw [I_clamp hr]
  rintro (h | h)
  · have := (I_lt hr RI_0).mp h; omega
  · omega
theorem I_div {x y : Int} (hx : RI x) (hy : RI y) : Int32.ofInt x / Int32.ofInt y = Int32.ofInt (x.tdiv y) := by
  rw [← Int32.toInt_inj, Int32.toInt_div, I_toInt hx, I_toInt hy, Int32.toInt_ofInt]
theorem I_rem {x y : Int} (hx : RI x) (hy : RI y) : Int32.ofInt x - Int32.ofInt x / Int32.ofInt y * Int32.ofInt y = Int32.ofInt (x.tmod y) := by
  rw [I_div hx hy, ← Int32.ofInt_mul, ← Int32.ofInt_sub]
  congr 1
  have := Int.tmod_add_mul_tdiv x y
  rw [Int.mul_comm] at this
  omega
theorem I_long {x : Int} (h : RI x) : (Int32.ofInt x).toInt64 = Int64.ofInt x :=
  Int32.toInt64_ofInt (by have := h.1; exact this) (by have := h.2; have e : Int32.maxValue.toInt = 2147483647 := rfl; omega)
theorem L_cmp {x y : Int} (hx : RLg x) (hy : RLg y) : lg_cmp (Int64.ofInt x) (Int64.ofInt y) = Int32.ofInt (lcm x y) := by
  have h1 : Int64.ofInt x > Int64.ofInt y ↔ y < x := by
    show Int64.ofInt y < Int64.ofInt x ↔ _
    rw [Int64.lt_iff_toInt_lt, L_toInt hx, L_toInt hy]
  have h2 : Int64.ofInt x = Int64.ofInt y ↔ x = y := by rw [← Int64.toInt_inj, L_toInt hx, L_toInt hy]
  unfold lg_cmp lcm
  by_cases a : y < x
  · rw [if_pos (h1.mpr a), if_pos a]; rfl
  · rw [if_neg (fun q => a (h1.mp q)), if_neg a]
    by_cases b : x = y
    · rw [if_pos (h2.mpr b), if_pos b]; rfl
    · rw [if_neg (fun q => b (h2.mp q)), if_neg b]; rfl
theorem I_byte {x : Int} (h0 : -128 ≤ x) (h1 : x ≤ 127) : (Int32.ofInt x).toInt8.toInt32 = Int32.ofInt x := by
  rw [Int32.toInt8_ofInt, ← Int32.toInt_inj, Int8.toInt_toInt32, I_toInt (by unfold RI; omega)]
  exact Int8.toInt_ofInt_of_le (by omega) (by omega)
theorem I8_lit {x : Int} (h0 : -128 ≤ x) (h1 : x ≤ 127) : (Int8.ofInt x).toInt32 = Int32.ofInt x := by
  rw [← Int32.toInt_inj, Int8.toInt_toInt32, I_toInt (by unfold RI; omega)]
  exact Int8.toInt_ofInt_of_le (by omega) (by omega)
theorem I16_lit {x : Int} (h0 : -32768 ≤ x) (h1 : x ≤ 32767) : (Int16.ofInt x).toInt32 = Int32.ofInt x := by
  rw [← Int32.toInt_inj, Int16.toInt_toInt32, I_toInt (by unfold RI; omega)]
  exact Int16.toInt_ofInt_of_le (by omega) (by omega)
theorem G_0 : (G 0).1 = 17 := rfl
theorem ite_P {α : Type} {P : α → Prop} {c : Prop} [Decidable c] {x y : α} (hx : P x) (hy : P y) : P (if c then x else y) := by
  by_cases h : c
  · rw [if_pos h]; exact hx
  · rw [if_neg h]; exact hy
theorem G_small (a : Int) : (G a).2 ≤ 20000 := by
  unfold G
  repeat' refine ite_P (P := fun z : Nat × Nat => z.2 ≤ 20000) ?_ ?_
  all_goals exact Nat.le_of_ble_eq_true rfl
theorem pI_iff {st : List MV} {f : Int → List MV → Prop} : pI st f ↔ ∃ x r, st = .inl x :: r ∧ f x r := by
  constructor
  · intro h
    unfold pI at h
    split at h
    · exact ⟨_, _, rfl, h⟩
    · exact h.elim
  · rintro ⟨x, r, rfl, h⟩; exact h
theorem pL_iff {st : List MV} {f : Int → List MV → Prop} : pL st f ↔ ∃ x r, st = .inr (.inl x) :: r ∧ f x r := by
  constructor
  · intro h
    unfold pL at h
    split at h
    · exact ⟨_, _, rfl, h⟩
    · exact h.elim
  · rintro ⟨x, r, rfl, h⟩; exact h
theorem pR_iff {st : List MV} {f : Int → List MV → Prop} : pR st f ↔ ∃ x r, st = .inr (.inr (some x)) :: r ∧ f x r := by
  constructor
  · intro h
    unfold pR at h
    split at h
    · exact ⟨_, _, rfl, h⟩
    · exact h.elim
  · rintro ⟨x, r, rfl, h⟩; exact h
theorem lI_iff : ∀ {l : List (Option MV)} {n : Nat} {f : Int → Prop}, lI l n f ↔ ∃ x, getL l n = some (.inl x) ∧ f x
  | [], n, f => by cases n <;> exact ⟨fun h => False.elim h, fun ⟨x, h, _⟩ => by cases h⟩
  | a :: l, 0, f => by
    constructor
    · intro h
      rcases a with _ | (v | v | _ | v) <;> first | exact False.elim h | exact ⟨_, rfl, h⟩
    · rintro ⟨x, h, q⟩
      cases h
      exact q
  | a :: l, n + 1, f => by
    have ih := lI_iff (l := l) (n := n) (f := f)
    have e : lI (a :: l) (n + 1) f = lI l n f := by
      rcases a with _ | (v | v | _ | v) <;> rfl
    rw [e]
    exact ih
theorem lL_iff : ∀ {l : List (Option MV)} {n : Nat} {f : Int → Prop}, lL l n f ↔ ∃ x, getL l n = some (.inr (.inl x)) ∧ f x
  | [], n, f => by cases n <;> exact ⟨fun h => False.elim h, fun ⟨x, h, _⟩ => by cases h⟩
  | a :: l, 0, f => by
    constructor
    · intro h
      rcases a with _ | (v | v | _ | v) <;> first | exact False.elim h | exact ⟨_, rfl, h⟩
    · rintro ⟨x, h, q⟩
      cases h
      exact q
  | a :: l, n + 1, f => by
    have ih := lL_iff (l := l) (n := n) (f := f)
    have e : lL (a :: l) (n + 1) f = lL l n f := by
      rcases a with _ | (v | v | _ | v) <;> rfl
    rw [e]
    exact ih
theorem lR_iff : ∀ {l : List (Option MV)} {n : Nat} {f : Int → Prop}, lR l n f ↔ ∃ x, getL l n = some (.inr (.inr (some x))) ∧ f x
  | [], n, f => by cases n <;> exact ⟨fun h => False.elim h, fun ⟨x, h, _⟩ => by cases h⟩
  | a :: l, 0, f => by
    constructor
    · intro h
      rcases a with _ | (v | v | _ | v) <;> first | exact False.elim h | exact ⟨_, rfl, h⟩
    · rintro ⟨x, h, q⟩
      cases h
      exact q
  | a :: l, n + 1, f => by
    have ih := lR_iff (l := l) (n := n) (f := f)
    have e : lR (a :: l) (n + 1) f = lR l n f := by
      rcases a with _ | (v | v | _ | v) <;> rfl
    rw [e]
    exact ih
theorem pA_iff : ∀ {n : Nat} {st acc : List MV} {f : List MV → List MV → Prop}, pA n st acc f → ∃ As r, As.length = n ∧ st = As.reverse ++ r ∧ f (As ++ acc) r
  | 0, st, acc, f, h => ⟨[], st, rfl, rfl, h⟩
  | n + 1, [], acc, f, h => h.elim
  | n + 1, v :: st, acc, f, h => by
    obtain ⟨As, r, h1, h2, h3⟩ := pA_iff (n := n) (st := st) (acc := v :: acc) (f := f) h
    refine ⟨As ++ [v], r, by rw [List.length_append, h1]; rfl, by rw [h2]; simp, by rw [List.append_assoc]; exact h3⟩
theorem cE_obj {dA : Nat → ClassId} {ad : Int → Nat} {σ : MS} {a : Int} {ci : Nat} (h : (G a).1 = ci) (hc : ci < 10) : cE dA ad σ a = .inr (ci, (List.range (nfs ci)).map (fun (i : Nat) => msl ad σ a (fty ci i) i)) := by
  subst h; unfold cE; rw [if_pos hc]
theorem cE_arr {dA : Nat → ClassId} {ad : Int → Nat} {σ : MS} {a : Int} {t : Nat} (h : (G a).1 = t) (ht : 10 ≤ t) : cE dA ad σ a = .inl (dA t, (G a).2, mar ad σ a t) := by
  subst h; unfold cE; rw [if_neg (by omega)]
theorem mar_int {ad : Int → Nat} {σ : MS} {a : Int} {t : Nat} (h : t = 10 ∨ t = 12 ∨ t = 13) : mar ad σ a t = .inl (fun j => Int32.ofInt (σ.2.2.1 a j)) := by
  unfold mar; rw [if_neg (by omega), if_neg (by omega)]
theorem mar_long {ad : Int → Nat} {σ : MS} {a : Int} : mar ad σ a 11 = .inr (.inl (fun j => Int64.ofInt (σ.2.2.2 a j))) := by
  unfold mar; rw [if_pos rfl]
theorem mar_ref {ad : Int → Nat} {σ : MS} {a : Int} {t : Nat} (h : t = 14 ∨ t = 15 ∨ t = 16) : mar ad σ a t = .inr (.inr (.inr (.inr (fun j => (σ.2.1 a j).map ad)))) := by
  unfold mar; rw [if_neg (by omega), if_pos h]
theorem TY_at {dA : Nat → ClassId} {t : Nat} (h : 10 ≤ t) (h2 : t ≤ 16) : (TY dA)[t - 10]? = some (dA t, aty t) := by
  unfold TY
  rw [List.getElem?_map, List.getElem?_range (by omega)]
  show some (dA (t - 10 + 10), aty (t - 10 + 10)) = _
  rw [show t - 10 + 10 = t by omega]
theorem fv_mtr {ad : Int → Nat} {σ : MS} {a i : Int} {t : FieldType} {c : Nat} (h : c = fcode t) : mtr ad (fv σ a i c) = msl ad σ a t i := by
  subst h
  have e2 : ∀ o : Option Int, mtr ad (.inr (.inr o)) = va_rf (o.map ad) := fun o => by cases o <;> rfl
  unfold fv msl
  cases t <;> first | rfl | exact e2 _
theorem va_rf_mtr {ad : Int → Nat} (o : Option Int) : va_rf (o.map ad) = mtr ad (.inr (.inr o)) := by cases o <;> rfl
theorem mok_P {σ : MS} (h : mwf σ) {a i : Int} (h0 : 0 < a) (h1 : a < σ.1) : mok σ.1 (.inr (.inr (σ.2.1 a i))) := by
  cases e : σ.2.1 a i with
  | none => trivial
  | some b => exact Or.inl (h.2 a i b h0 h1 e)
theorem mok_fv {σ : MS} (h : mwf σ) {a i : Int} {c : Nat} (h0 : 0 < a) (h1 : a < σ.1) : mok σ.1 (fv σ a i c) := by
  unfold fv
  split
  · exact mok_P h h0 h1
  · split <;> trivial
theorem map_set_range {α : Type} {n k : Nat} {f f' : Nat → α} {v : α} (h1 : f' k = v) (h2 : ∀ i, i ≠ k → f' i = f i) : (List.range n).map f' = ((List.range n).map f).set k v := by
  refine List.ext_getElem? (fun i => ?_)
  rw [List.getElem?_set, List.getElem?_map, List.getElem?_map, List.length_map, List.length_range]
  by_cases hi : i < n
  · rw [List.getElem?_range hi]
    by_cases e : k = i
    · subst e; rw [if_pos rfl, if_pos hi, ← h1]; rfl
    · rw [if_neg e]; show some (f' i) = some (f i); rw [h2 i (fun q => e q.symm)]
  · rw [List.getElem?_eq_none (by rw [List.length_range]; omega)]
    by_cases e : k = i
    · subst e; rw [if_pos rfl, if_neg hi]; rfl
    · rw [if_neg e]; rfl
end
section
/-! THE SMALL MACHINE, 6: each instruction of it is one of the machine -/
section SM
variable {p : Program} {l : Launch} {e : Env} {R : Room} {s : State} {m : MethodId} {args : Array Value} {below : List Frame} {meth : Method} {c : Code} {Q : State → Prop} {D : va_G} {dA : Nat → ClassId} {A : Nat → Prop} {H0 : Heap} {b0 : (Int → Nat) × Nat} {nL : Nat}
def HR (D : va_G) (dA : Nat → ClassId) (A : Nat → Prop) (H0 : Heap) (ad : Int → Nat) (σ : MS) (H : Heap) (locs : List Loc) : Prop :=
  va_P D vwCl (mcells dA ad σ) H ∧ va_D A (mcells dA ad σ) ∧ va_S A H0 H locs ∧ mwf σ
/-- cells that were there before N0 lie where ad0 says -/
def EXT (ad0 : Int → Nat) (N0 : Nat) (ad : Int → Nat) (N : Nat) : Prop := N0 ≤ N ∧ ad 0 = ad0 0 ∧ ∀ a : Int, 0 < a → a < N0 → ad a = ad0 a
theorem EXT.moved {ad0 ad ad' : Int → Nat} {N0 N N' : Nat} (h : EXT ad0 N0 ad N) (hN : N ≤ N') (h0 : ad' 0 = ad 0) (ha : ∀ a : Int, 0 < a → a < N → ad' a = ad a) : EXT ad0 N0 ad' N' :=
  ⟨Nat.le_trans h.1 hN, h0.trans h.2.1, fun a a0 a1 => (ha a a0 (by have := h.1; omega)).trans (h.2.2 a a0 a1)⟩
def Rw (p : Program) (l : Launch) (e : Env) (R : Room) (s : State) (m : MethodId) (args : Array Value) (below : List Frame) (meth : Method) (c : Code) (Q : State → Prop) (D : va_G) (dA : Nat → ClassId) (A : Nat → Prop) (H0 : Heap) (b0 : (Int → Nat) × Nat) (nL : Nat) (pt : Pt) : Prop :=
  ∀ (ad : Int → Nat) (H : Heap) (locs : List Loc) (rl : Array Slot), EXT b0.1 b0.2 ad pt.2.2.2.1.1 → HR D dA A H0 ad pt.2.2.2.1 H locs → LR ad pt.2.2.2.1.1 nL pt.2.1 rl → (∀ v ∈ pt.2.2.1, mok pt.2.2.2.1.1 v) →
    W p l e R s m args below meth c H locs pt.2.2.2.2.1 pt.2.2.2.2.2 Q (F0 m pt.1 rl (pt.2.2.1.map (mtr ad)))
def SF (own : String) (bytes : ByteArray) (ini : Bool) (S : Option (Nat × (Int → Int))) (p : Program) (s : State) (m : MethodId) (args : Array Value) (meth : Method) (c : Code) (D : va_G) (dA : Nat → ClassId) (A : Nat → Prop) (H0 : Heap) (b0 : (Int → Nat) × Nat) (nL : Nat) : Prop :=
  p.tables.exec = Jvm.exec ∧ c.code = bytes ∧ c.maxLocals = nL ∧ s.vm.findClass own = some m.cls ∧ (∀ w ∈ WS, w.before args s = true) ∧ va_K D vwCl (TY dA) s ∧ (∀ q, H0.size ≤ q → A q) ∧ (ini = true → meth.name = "<init>") ∧ AOs s ∧
  ∀ L xs, S = some (L, xs) → ∃ xr : Nat → Int32, va_X (b0.1 0) L xr s H0 ∧ b0.1 0 < H0.size ∧ ¬ A (b0.1 0) ∧ L ≤ 20000 ∧ ∀ j : Nat, j < L → xs j = (xr j).toInt
def retI (i : Instr) (st : List MV) (r : Option MV) : Prop :=
  (i = .ireturn ∧ ∃ v, st = [.inl v] ∧ r = some (.inl v)) ∨ (i = .lreturn ∧ ∃ v, st = [.inr (.inl v)] ∧ r = some (.inr (.inl v))) ∨ (i = .areturn ∧ ∃ v, st = [.inr (.inr v)] ∧ r = some (.inr (.inr v))) ∨ (i = .return_ ∧ st = [] ∧ r = none)
def FOK (own : String) (F : Nat → Option (Nat × Nat × Nat × Nat)) : Prop := ∀ x ci fi cd fw, F x = some (ci, fi, cd, fw) → ci < 10 ∧ fi < nfs ci ∧ cd = fcode (fty ci fi) ∧ cd ≤ 3 ∧ Cond.fieldLink own x (TT ci fi).1 (TT ci fi).2.1 (TT ci fi).2.2.1 ∈ WS ∧ (fw = 0 → (TT ci fi).2.2.2 = false) ∧ (fw = 1 → (TT ci fi).2.2.2 = true ∧ (TT ci fi).1 = own)
def ZOK (own : String) (Z : Nat → Option (Int ⊕ Int)) : Prop := ∀ x v, (Z x = some (.inl v) → Cond.constant own x (Int32.ofInt v) ∈ WS) ∧ (Z x = some (.inr v) → Cond.constantLong own x (Int64.ofInt v) ∈ WS)
def UOK (own : String) (U : Nat → Option Nat) : Prop := ∀ x t, U x = some t → (t < 10 → Cond.classLink own x (RR t) ∈ WS ∧ Cond.instantiable (RR t) (nfs t) ∈ WS ∧ Cond.initialized (RR t) ∈ WS) ∧ (t = 14 → Cond.classLink own (x - 100000) RX3 ∈ WS) ∧ (t = 15 → Cond.classLink own (x - 100000) RX2 ∈ WS) ∧ (t = 16 → Cond.classLink own x "[[I" ∈ WS)
def ivk (rk x : Nat) : Instr := if rk < 10 then .invokevirtual x else if rk = 10 then .invokestatic x else .invokespecial x
def CalOK (own : String) (R : Room) (x : Nat) (ci : CI) : Prop :=
  ∀ {p : Program} {l : Launch} {e : Env} {s : State} {m : MethodId} {args : Array Value} {below : List Frame} {meth : Method} {c : Code} {Q : State → Prop} {D : va_G} {dA : Nat → ClassId} {A : Nat → Prop} {H0 : Heap} {b0 : (Int → Nat) × Nat} {nL : Nat} {bytes : ByteArray} {ini : Bool} {S : Option (Nat × (Int → Int))},
    SF own bytes ini S p s m args meth c D dA A H0 b0 nL → ∀ (pc : Nat), decode bytes pc = .ok (ivk ci.2.1 x, 3) → ∀ (ls : List (Option MV)) (As rest : List MV) (σ : MS) (k j : Nat) (K : Option MV → MS → Prop), As.length = ci.1 → rcv ci.2.1 As → mcs rest ≤ 8 → k + ci.2.2.1 ≤ R.cells → j + ci.2.2.2.1 ≤ R.slots → ci.2.2.2.2 As σ K →
      (∀ r σ', K r σ' → Rw p l e R s m args below meth c Q D dA A H0 b0 nL (pc + 3, ls, rpl r rest, σ', k + ci.2.2.1, j + ci.2.2.2.1)) → Rw p l e R s m args below meth c Q D dA A H0 b0 nL (pc, ls, As.reverse ++ rest, σ, k, j)
theorem mok_pos {N : Nat} {a : Int} {n : Nat} (h : mok N (.inr (.inr (some a)))) (hg : (G a).1 = n) (hn : n ≠ 17) : 0 < a ∧ a < N := by
  rcases h with h | h
  · exact h
  · subst h; exact absurd hg.symm hn
theorem mok_hd {N : Nat} {v : MV} {l : List MV} (h : ∀ w ∈ v :: l, mok N w) : mok N v := h _ List.mem_cons_self
theorem mok_tl {N : Nat} {v : MV} {l : List MV} (h : ∀ w ∈ v :: l, mok N w) : ∀ w ∈ l, mok N w := fun w hw => h w (List.mem_cons_of_mem _ hw)
theorem mok_cons {N : Nat} {v : MV} {l : List MV} (hv : mok N v) (h : ∀ w ∈ l, mok N w) : ∀ w ∈ v :: l, mok N w := List.forall_mem_cons.mpr ⟨hv, h⟩
/-- a cell written in the heap is a cell written here -/
theorem HR.set {ad : Int → Nat} {σ σ' : MS} {H H1 : Heap} {locs locs1 : List Loc} {a : Int} {x : va_E} (h : HR D dA A H0 ad σ H locs) (h0 : 0 < a) (h1 : a < σ.1) (hN : σ'.1 = σ.1) (hw : mwf σ') (he : cE dA ad σ' a = x) (hb : ∀ b : Int, b ≠ a → 0 < b → b < σ.1 → cE dA ad σ' b = cE dA ad σ b)
    (hP : va_P D vwCl ((mcells dA ad σ).set (a - 1).toNat (ad a, x)) H1) (hD : va_D A ((mcells dA ad σ).set (a - 1).toNat (ad a, x))) (hS : va_S A H0 H1 locs1) : HR D dA A H0 ad σ' H1 locs1 := by
  rw [mcells_set h0 h1 hN he hb] at hP hD
  exact ⟨hP, hD, hS, hw⟩
theorem cE_putI {ad : Int → Nat} {σ : MS} {a i v b : Int} (h : b ≠ a) : cE dA ad (mputI σ a i v) b = cE dA ad σ b := by
  refine cE_congr (funext fun q => ?_) rfl (fun _ => rfl)
  show (if b = a ∧ q = i then v else σ.2.2.1 b q) = _
  rw [if_neg (fun z => h z.1)]
theorem cE_putL {ad : Int → Nat} {σ : MS} {a i v b : Int} (h : b ≠ a) : cE dA ad (mputL σ a i v) b = cE dA ad σ b := by
  refine cE_congr rfl (funext fun q => ?_) (fun _ => rfl)
  show (if b = a ∧ q = i then v else σ.2.2.2 b q) = _
  rw [if_neg (fun z => h z.1)]
theorem cE_putP {ad : Int → Nat} {σ : MS} {a i b : Int} {v : Option Int} (h : b ≠ a) : cE dA ad (mputP σ a i v) b = cE dA ad σ b := by
  refine cE_congr rfl rfl (fun q => ?_)
  show (if b = a ∧ q = i then v else σ.2.1 b q).map ad = _
  rw [if_neg (fun z => h z.1)]
theorem mwf_putI {σ : MS} {a i v : Int} (h : mwf σ) : mwf (mputI σ a i v) := h
theorem mwf_putL {σ : MS} {a i v : Int} (h : mwf σ) : mwf (mputL σ a i v) := h
theorem mwf_putP {σ : MS} {a i : Int} {v : Option Int} (h : mwf σ) (hv : ∀ b, v = some b → 0 < b ∧ b < σ.1) : mwf (mputP σ a i v) := by
  refine ⟨h.1, fun b q r h0 h1 h2 => ?_⟩
  change (if b = a ∧ q = i then v else σ.2.1 b q) = some r at h2
  split at h2
  · exact hv r h2
  · exact h.2 b q r h0 h1 h2
/-- the array that an entry of va_K adds is one that is known -/
theorem TY_new {ty : FieldType} {cA : ClassId} {t : Nat} (hK : va_K D vwCl (TY dA) s) (hK' : va_K D vwCl (TY dA ++ [(cA, ty)]) s) (ht : 10 ≤ t) (ht2 : t ≤ 16) (hty : aty t = ty) : cA = dA t := by
  have h1 := (hK.2 _ _ (TY_at ht ht2)).2
  have h2 := (hK'.2 (TY dA).length (cA, ty) (by rw [List.getElem?_append_right (Nat.le_refl _), Nat.sub_self]; rfl)).2
  rw [hty] at h1
  unfold va_RA at h1 h2
  cases ty with
  | object C =>
    obtain ⟨_, _, -, -, -, h1⟩ := h1
    obtain ⟨_, _, -, -, -, h2⟩ := h2
    exact Option.some.inj (h2.symm.trans h1)
  | _ => exact Option.some.inj (h2.symm.trans h1)
/-- a new cell -/
theorem HR.push {ad : Int → Nat} {σ : MS} {H H1 : Heap} {locs : List Loc} {q : Nat} {x : va_E} (h : HR D dA A H0 ad σ H locs) (he : ∀ ad' : Int → Nat, cE dA ad' (mnew σ) σ.1 = x)
    (hP : va_P D vwCl (mcells dA ad σ ++ [(q, x)]) H1) (hD : va_D A (mcells dA ad σ ++ [(q, x)])) (hS : va_S A H0 H1 locs) :
    ∃ ad' : Int → Nat, ad' 0 = ad 0 ∧ (∀ a : Int, 0 < a → a < σ.1 → ad' a = ad a) ∧ ad' σ.1 = q ∧ HR D dA A H0 ad' (mnew σ) H1 locs := by
  have hN := h.2.2.2.1
  refine ⟨fun b => if b = σ.1 then q else ad b, if_neg (by omega), fun a _ h1 => if_neg (by omega), if_pos rfl, ?_⟩
  have hw : mwf (mnew σ) := by
    refine ⟨Nat.le_succ_of_le hN, fun a i b h0 h1 h2 => ?_⟩
    change (if a = σ.1 then none else σ.2.1 a i) = some b at h2
    change a < ((σ.1 + 1 : Nat) : Int) at h1
    show 0 < b ∧ b < ((σ.1 + 1 : Nat) : Int)
    split at h2
    · cases h2
    · have := h.2.2.2.2 a i b h0 (by omega) h2
      omega
  have hm := mcells_app (dA := dA) (ad := ad) (ad' := fun b => if b = σ.1 then q else ad b) (σ := σ) (σ' := mnew σ) (ws := [(q, x)]) hN rfl (fun a h0 h1 => ⟨if_neg (by omega), by
      refine cE_congr (funext fun z => ?_) (funext fun z => ?_) (fun z => ?_)
      · show (if a = σ.1 then 0 else _) = _
        rw [if_neg (by omega)]
      · show (if a = σ.1 then 0 else _) = _
        rw [if_neg (by omega)]
      · show (if a = σ.1 then none else _).map _ = _
        rw [if_neg (by omega)]
        cases hp : σ.2.1 a z with
        | none => rfl
        | some r =>
          have := h.2.2.2.2 a z r h0 h1 hp
          show some (if r = σ.1 then q else ad r) = some (ad r)
          rw [if_neg (by omega)]⟩) (fun n z hz => by
      have h0 : n = 0 := by
        have := (List.getElem?_eq_some_iff.mp hz).1
        simpa using this
      subst h0
      cases hz
      rw [show (σ.1 : Int) + ((0 : Nat) : Int) = σ.1 by omega, if_pos rfl, he])
  rw [hm] at hP hD
  exact ⟨hP, hD, hS, hw⟩
end SM
end
section
/-! THE SMALL MACHINE, 7: all instructions -/
theorem len_of {a b : Nat} (h : a = b ∨ b = 0) (hb : b ≠ 0) : a = b := h.elim id (fun q => absurd q hb)
theorem oI_iff {Z : Nat → Option (Int ⊕ Int)} {y : Nat} {f : Int → Prop} : oI Z y f ↔ ∃ x, Z y = some (.inl x) ∧ f x := by
  unfold oI
  constructor
  · intro h
    split at h
    · rename_i e; exact ⟨_, e, h⟩
    · exact h.elim
  · rintro ⟨x, e, h⟩; rw [e]; exact h
theorem oL_iff {Z : Nat → Option (Int ⊕ Int)} {y : Nat} {f : Int → Prop} : oL Z y f ↔ ∃ x, Z y = some (.inr x) ∧ f x := by
  unfold oL
  constructor
  · intro h
    split at h
    · rename_i e; exact ⟨_, e, h⟩
    · exact h.elim
  · rintro ⟨x, e, h⟩; rw [e]; exact h
theorem oF_iff {F : Nat → Option (Nat × Nat × Nat × Nat)} {x : Nat} {f : Nat → Nat → Nat → Nat → Prop} : oF F x f ↔ ∃ a b c d, F x = some (a, b, c, d) ∧ f a b c d := by
  unfold oF
  constructor
  · intro h
    split at h
    · rename_i e; exact ⟨_, _, _, _, e, h⟩
    · exact h.elim
  · rintro ⟨a, b, c, d, e, h⟩; rw [e]; exact h
theorem oC_iff {Y : Nat → Option CI} {x : Nat} {f : Nat → Nat → Nat → Nat → (List MV → MS → (Option MV → MS → Prop) → Prop) → Prop} : oC Y x f ↔ ∃ a b c d g, Y x = some (a, b, c, d, g) ∧ f a b c d g := by
  unfold oC
  constructor
  · intro h
    split at h
    · rename_i e; exact ⟨_, _, _, _, _, e, h⟩
    · exact h.elim
  · rintro ⟨a, b, c, d, g, e, h⟩; rw [e]; exact h
theorem oS_iff {o : Option (Nat × (Int → Int))} {f : Nat → (Int → Int) → Prop} : oS o f ↔ ∃ a b, o = some (a, b) ∧ f a b := by
  constructor
  · intro h
    unfold oS at h
    split at h
    · exact ⟨_, _, rfl, h⟩
    · exact h.elim
  · rintro ⟨a, b, rfl, h⟩; exact h
theorem fp_2 {c : Nat} {st : List MV} {σ : MS} {i : Int} {f : List MV → MS → Prop} (hc : c = 2) (h : fp c st σ i f) : ∃ v a r, st = .inr (.inr (some v)) :: .inr (.inr (some a)) :: r ∧ (G v).1 ≠ 17 ∧ f r (mputP σ a i (some v)) := by
  subst hc
  obtain ⟨v, r, e1, h1⟩ := pR_iff.mp (show pR st _ from h)
  obtain ⟨a, r, e2, h2⟩ := pR_iff.mp h1
  subst e2
  exact ⟨v, a, r, e1, h2⟩
theorem fp_0 {c : Nat} {st : List MV} {σ : MS} {i : Int} {f : List MV → MS → Prop} (hc : c ≠ 2) (h : fp c st σ i f) : c ≠ 1 ∧ ∃ x a r, st = .inl x :: .inr (.inr (some a)) :: r ∧ (c = 3 → x = 0 ∨ x = 1) ∧ f r (mputI σ a i x) := by
  unfold fp at h
  rw [if_neg hc] at h
  by_cases h1 : c = 1
  · rw [if_pos h1] at h; exact h.elim
  · rw [if_neg h1] at h
    obtain ⟨x, r, rfl, h⟩ := pI_iff.mp h
    obtain ⟨a, r, rfl, h⟩ := pR_iff.mp h
    exact ⟨h1, x, a, r, rfl, h⟩
theorem chkT_g {pc len : Nat} {ts : List Nat} {off : Int} (h : chkT pc (.goto off) len ts = true) : ∃ t, ts = [t] ∧ (pc : Int) + off = (t : Nat) := by
  unfold chkT at h
  rw [Bool.and_eq_true] at h
  obtain ⟨-, h⟩ := h
  split at h
  · exact ⟨_, rfl, of_decide_eq_true h⟩
  · cases h
theorem chkT_c {pc len : Nat} {ts : List Nat} {off : Int} {cd : ClassFile.Cond} (h : chkT pc (.ifCond cd off) len ts = true) : ∃ t, ts = [t] ∧ (pc : Int) + off = (t : Nat) := by
  unfold chkT at h
  rw [Bool.and_eq_true] at h
  obtain ⟨-, h⟩ := h
  split at h
  · exact ⟨_, rfl, of_decide_eq_true h⟩
  · cases h
theorem chkT_i {pc len : Nat} {ts : List Nat} {off : Int} {cd : ClassFile.Cond} (h : chkT pc (.if_icmp cd off) len ts = true) : ∃ t, ts = [t] ∧ (pc : Int) + off = (t : Nat) := by
  unfold chkT at h
  rw [Bool.and_eq_true] at h
  obtain ⟨-, h⟩ := h
  split at h
  · exact ⟨_, rfl, of_decide_eq_true h⟩
  · cases h
theorem chkT_sw {pc len : Nat} {ts : List Nat} {d lo hi : Int} {offs : Array Int} (h : chkT pc (.tableswitch d lo hi offs) len ts = true) : ∃ t ts', ts = t :: ts' ∧ (pc : Int) + d = t ∧ (ts'.map (fun (t : Nat) => (t : Int)) = offs.toList.map fun o => (pc : Int) + o) ∧ hi - lo + 1 = offs.toList.length := by
  unfold chkT at h
  rw [Bool.and_eq_true, decide_eq_true_eq, decide_eq_true_eq] at h
  obtain ⟨h1, h2⟩ := h
  cases ts with
  | nil => cases h1
  | cons t ts' =>
    rw [List.map_cons, List.map_cons, List.cons.injEq] at h1
    exact ⟨t, ts', rfl, h1.1.symm, h1.2, h2⟩
theorem tsw_get {f : Nat → Prop} {x : Int} : ∀ {ts : List Nat} {v : Int} {n t : Nat}, tsw f x v ts → ts[n]? = some t → x = v + n → f t
  | [], v, n, t, h, hn, hx => by cases n <;> cases hn
  | a :: ts, v, 0, t, h, hn, hx => by cases hn; exact h.1 (by omega)
  | a :: ts, v, n + 1, t, h, hn, hx => tsw_get (ts := ts) (v := v + 1) (n := n) h.2 hn (by omega)
theorem tsw_at {f : Nat → Prop} {x lo : Int} {ts : List Nat} {offs : Array Int} {pc : Nat} (hm : ts.map (fun (t : Nat) => (t : Int)) = offs.toList.map fun o => (pc : Int) + o) (h : tsw f x lo ts) (h1 : lo ≤ x) (h2 : (x - lo).toNat < offs.toList.length) :
    ∃ off t, offs[(x - lo).toNat]? = some off ∧ (pc : Int) + off = (t : Nat) ∧ f t := by
  have hlen : ts.length = offs.toList.length := by have := congrArg List.length hm; rwa [List.length_map, List.length_map] at this
  have ht : ts[(x - lo).toNat]? = some (ts[(x - lo).toNat]'(by omega)) := List.getElem?_eq_getElem _
  have ho : offs.toList[(x - lo).toNat]? = some (offs.toList[(x - lo).toNat]'h2) := List.getElem?_eq_getElem _
  refine ⟨_, _, by rw [← Array.getElem?_toList]; exact ho, ?_, tsw_get h ht (by omega)⟩
  have := congrArg (fun l => l[(x - lo).toNat]?) hm
  simp only [List.getElem?_map, ht, ho, Option.map_some, Option.some.injEq] at this
  exact this.symm
theorem msl_putI {ad : Int → Nat} {σ : MS} {a y : Int} {fi : Nat} {t : FieldType} (hc : fcode t = 0 ∨ fcode t = 3 ∧ (y = 0 ∨ y = 1)) : msl ad (mputI σ a fi y) a t fi = mtr ad (.inl y) := by
  have e : (mputI σ a fi y).2.2.1 a fi = y := if_pos ⟨rfl, rfl⟩
  unfold msl
  rcases hc with h | ⟨h, -⟩ <;> rw [h] <;> (show Value.int (Int32.ofInt _) = _) <;> rw [e] <;> rfl
theorem msl_putIn {ad : Int → Nat} {σ : MS} {a y : Int} {fi i : Nat} {t : FieldType} (h : i ≠ fi) : msl ad (mputI σ a fi y) a t i = msl ad σ a t i := by
  have e : (mputI σ a fi y).2.2.1 a i = σ.2.2.1 a i := if_neg (fun q => h (by have := q.2; omega))
  unfold msl
  rw [e]; rfl
theorem msl_putP {ad : Int → Nat} {σ : MS} {a : Int} {v : Option Int} {fi : Nat} {t : FieldType} (h : fcode t = 2) : msl ad (mputP σ a fi v) a t fi = mtr ad (.inr (.inr v)) := by
  have e : (mputP σ a fi v).2.1 a fi = v := if_pos ⟨rfl, rfl⟩
  unfold msl
  rw [h]
  show va_rf _ = _
  rw [e, va_rf_mtr]
theorem msl_putPn {ad : Int → Nat} {σ : MS} {a : Int} {v : Option Int} {fi i : Nat} {t : FieldType} (h : i ≠ fi) : msl ad (mputP σ a fi v) a t i = msl ad σ a t i := by
  have e : (mputP σ a fi v).2.1 a i = σ.2.1 a i := if_neg (fun q => h (by have := q.2; omega))
  unfold msl
  rw [e]; rfl
theorem fty_int {ad : Int → Nat} {t : FieldType} {y : Int} (hc : fcode t = 0 ∨ fcode t = 3 ∧ (y = 0 ∨ y = 1)) : narrow t (mtr ad (.inl y)) = mtr ad (.inl y) ∧ fits t (mtr ad (.inl y)) = true := by
  rcases hc with h | ⟨h, h2⟩
  · cases t <;> first | exact ⟨rfl, rfl⟩ | cases h
  · cases t <;> first | (rcases h2 with rfl | rfl <;> exact ⟨rfl, rfl⟩) | cases h
theorem fty_ref {ad : Int → Nat} {t : FieldType} {v : Option Int} (h : fcode t = 2) : narrow t (mtr ad (.inr (.inr v))) = mtr ad (.inr (.inr v)) ∧ fits t (mtr ad (.inr (.inr v))) = true := by
  cases t <;> first | (cases v <;> exact ⟨rfl, rfl⟩) | cases h
theorem G_17 {N : Nat} {a : Int} (h : mok N (.inr (.inr (some a)))) (hg : (G a).1 = 17) : a = 0 := by
  rcases h with h | h
  · exfalso
    have : (fun z : Nat × Nat => a ≤ 0 ∨ z.1 ≠ 17) (G a) := by
      unfold G
      by_cases h0 : a ≤ 0
      · exact Or.inl h0
      rw [if_neg h0]
      repeat' refine ite_P (P := fun z : Nat × Nat => a ≤ 0 ∨ z.1 ≠ 17) ?_ ?_
      all_goals exact Or.inr (by decide)
    rcases this with q | q
    · omega
    · exact q hg
  · exact h
theorem upI_ar {I : Int → Int → Int} {a i x : Int} {q : Nat} (hi : ((i.toNat : Nat) : Int) = i) : Int32.ofInt (upI I a i x a q) = upd (fun j : Nat => Int32.ofInt (I a j)) i.toNat (Int32.ofInt x) q := by
  unfold upI upd
  by_cases h : q = i.toNat
  · rw [if_pos ⟨rfl, by omega⟩, if_pos h]
  · rw [if_neg (fun z => h (by have := z.2; omega)), if_neg h]
theorem upL_ar {I : Int → Int → Int} {a i x : Int} {q : Nat} (hi : ((i.toNat : Nat) : Int) = i) : Int64.ofInt (upI I a i x a q) = vp_updL (fun j : Nat => Int64.ofInt (I a j)) i.toNat (Int64.ofInt x) q := by
  unfold upI vp_updL
  by_cases h : q = i.toNat
  · rw [if_pos ⟨rfl, by omega⟩, if_pos h]
  · rw [if_neg (fun z => h (by have := z.2; omega)), if_neg h]
theorem upP_ar {ad : Int → Nat} {P : Int → Int → Option Int} {a i x : Int} {q : Nat} (hi : ((i.toNat : Nat) : Int) = i) : (upP P a i (some x) a q).map ad = va_up (fun j : Nat => (P a j).map ad) i.toNat (some (ad x)) q := by
  unfold upP va_up
  by_cases h : q = i.toNat
  · rw [if_pos ⟨rfl, by omega⟩, if_pos h]; rfl
  · rw [if_neg (fun z => h (by have := z.2; omega)), if_neg h]
theorem mok_new {σ : MS} (h : mwf σ) : mok (mnew σ).1 (.inr (.inr (some (σ.1 : Int)))) := Or.inl ⟨by have := h.1; omega, by show (σ.1 : Int) < ((σ.1 + 1 : Nat) : Int); omega⟩
theorem mnew_I (σ : MS) (i : Int) : (mnew σ).2.2.1 σ.1 i = 0 := if_pos rfl
theorem mnew_L (σ : MS) (i : Int) : (mnew σ).2.2.2 σ.1 i = 0 := if_pos rfl
theorem mnew_P {ad : Int → Nat} (σ : MS) : (fun j : Nat => ((mnew σ).2.1 σ.1 j).map ad) = fun _ => none := funext fun j => by
  show (if (σ.1 : Int) = σ.1 then none else _).map ad = none
  rw [if_pos rfl]; rfl
theorem fty_all_b : ((List.range 10).all fun ci => (List.range (nfs ci)).all fun i => decide (fcode (fty ci i) ≤ 3)) = true := by decide +kernel
theorem fty_all {ci i : Nat} (h : ci < 10) (hi : i < nfs ci) : fcode (fty ci i) ≤ 3 := of_decide_eq_true (List.all_eq_true.mp (List.all_eq_true.mp fty_all_b ci (List.mem_range.mpr h)) i (List.mem_range.mpr hi))
theorem msl_new {ad : Int → Nat} {σ : MS} {t : FieldType} {i : Nat} (h : fcode t ≤ 3) : msl ad (mnew σ) σ.1 t i = defaultValue t := by
  have e : (mnew σ).2.1 σ.1 i = none := if_pos rfl
  unfold msl
  rw [mnew_I, mnew_L, e]
  cases t <;> first | rfl | (exfalso; revert h; decide)
theorem atk_ok {t : ArrayType} (h : atk t ≤ 13) : 10 ≤ atk t ∧ atk t ≤ 16 ∧ newarray.typeOf t = aty (atk t) ∧ (atk t = 10 ∨ atk t = 11 ∨ atk t = 12 ∨ atk t = 13) ∧ Cond.arrayClass (newarray.typeOf t) ∈ WS := by
  cases t <;> first | (exfalso; revert h; decide) | exact ⟨by decide, by decide, rfl, by decide, ws_mem (by decide +kernel) (by decide +kernel)⟩
theorem mar_newE {ad ad' : Int → Nat} {σ : MS} {t : Nat} : mar ad' (mnew σ) σ.1 t = mar ad (mnew σ) σ.1 t := by
  unfold mar
  rw [mnew_P, mnew_P]
theorem mar_new {ad : Int → Nat} {σ : MS} {t n : Nat} {cA : ClassId} (h : t = 10 ∨ t = 11 ∨ t = 12 ∨ t = 13) {ty : FieldType} (hty : aty t = ty) : vp_cell cA (n, mar ad (mnew σ) σ.1 t) = arrV cA n (fun _ => defaultValue ty) := by
  subst hty
  rcases h with rfl | rfl | rfl | rfl
  · rw [mar_int (.inl rfl)]; simp only [mnew_I]; rfl
  · rw [mar_long]; simp only [mnew_L]; rfl
  · rw [mar_int (.inr (.inl rfl))]; simp only [mnew_I]; rfl
  · rw [mar_int (.inr (.inr rfl))]; simp only [mnew_I]; rfl
section SN
variable {p : Program} {l : Launch} {e : Env} {R : Room} {s : State} {m : MethodId} {args : Array Value} {below : List Frame} {meth : Method} {c : Code} {Q : State → Prop} {D : va_G} {dA : Nat → ClassId} {A : Nat → Prop} {H0 : Heap} {b0 : (Int → Nat) × Nat} {nL : Nat}
set_option maxHeartbeats 4000000 in
/-- new int[n][q] -/
theorem stp_multi {own : String} {bytes : ByteArray} {ini : Bool} {S : Option (Nat × (Int → Int))} (hsf : SF own bytes ini S p s m args meth c D dA A H0 b0 nL) {x t pc : Nat} {st : List MV} {σ : MS} {k j : Nat} {ls : List (Option MV)}
    {N : List (Option MV) → List MV → MS → Nat → Nat → Prop} (hU : t = 16 → Cond.classLink own x "[[I" ∈ WS) (hd : decode bytes pc = .ok (.multianewarray x 2, 4))
    (h : pI st fun q r => pI r fun n r => 0 ≤ n ∧ n ≤ 1000 ∧ 0 ≤ q ∧ q ≤ 1000 ∧ t = 16 ∧ G σ.1 = (16, n.toNat) ∧ (∀ i : Nat, i < n.toNat → G (σ.1 + 1 + i) = (10, q.toNat)) ∧ k + 1 + n.toNat ≤ R.cells ∧ j + n.toNat + n.toNat * q.toNat ≤ R.slots ∧
      N ls (.inr (.inr (some σ.1)) :: r) (mnewM σ n.toNat) (k + 1 + n.toNat) (j + n.toNat + n.toNat * q.toNat))
    (hnx : ∀ ls' st' σ' k' j', N ls' st' σ' k' j' → Rw p l e R s m args below meth c Q D dA A H0 b0 nL (pc + 4, ls', st', σ', k', j')) : Rw p l e R s m args below meth c Q D dA A H0 b0 nL (pc, ls, st, σ, k, j) := by
  obtain ⟨hx, hb, hml, hown, hts, hK, hA, hini, hao, hscr⟩ := hsf
  obtain ⟨q, r0, hs1, hh⟩ := pI_iff.mp h
  obtain ⟨n, r, hs2, n1, n2, q1, q2, ht, hg, hgr, c3, c4, hz⟩ := pI_iff.mp hh
  clear h hh
  subst hs2
  subst hs1
  have h := hz
  intro ad H locs rl h0 hR hl hst
  have hrn : RI n := by unfold RI; omega
  have hrq : RI q := by unfold RI; omega
  have hN : 1 ≤ σ.1 := hR.2.2.2.1
  have hwf2 : ∀ a i b : Int, 0 < a → a < σ.1 → σ.2.1 a i = some b → 0 < b ∧ b < σ.1 := hR.2.2.2.2
  have hcy : s.vm.findClass (FieldType.array .int).toString = some (dA 10) := (hK.2 _ _ (TY_at (dA := dA) (t := 10) (by decide) (by decide))).2
  have hP0 : va_P D vwCl (mcells dA ad σ ++ va_pl [] (fun _ => .inl (0, 0, .inl (fun _ => 0)))) H := by
    show va_P D vwCl (mcells dA ad σ ++ []) H
    rw [List.append_nil]; exact hR.1
  have hD0 : va_D A (mcells dA ad σ ++ va_pl [] (fun _ => .inl (0, 0, .inl (fun _ => 0)))) := by
    show va_D A (mcells dA ad σ ++ [])
    rw [List.append_nil]; exact hR.2.1
  have hac : Cond.arrayClass .int ∈ WS := (atk_ok (t := .int) (by decide)).2.2.2.2
  refine va_mna (ty := .int) (N' := n.toNat) (K' := q.toNat) (z := (q.toNat, .inl (fun _ => 0))) hx hb hown (hts _ (hU ht)) hao.2.2 (hts _ hac) hcy hK hP0 hD0 hR.2.2.1 hA (fun w => by have := (I_lt hrn RI_0).mp w; omega) (fun w => by have := (I_lt hrq RI_0).mp w; omega) (I_clamp hrn) (I_clamp hrq) (by omega) (by show q.toNat * 4 ≤ _; omega) (by omega) rfl rfl (by rw [← Nat.add_assoc]; exact c3) (by rw [← Nat.add_assoc]; exact c4) (fun c => by show (Jvm.Free.Multi.innerC c q.toNat (.int 0)) = arrV c q.toNat (fun _ => .int 0); rw [← arrV_new]; rfl) hd (fun q0 rr cA H1 hinj hnot hK' P1 D1 S1 => ?_)
  have hcA := TY_new hK hK' (t := 16) (by decide) (by decide) rfl
  subst hcA
  have hpl : ∀ (L : List Nat) (e : va_E) (f : Nat → va_E), va_pl ([] ++ L) (vr_up f L e) = L.map (fun a => (a, e)) := fun L e f => by
    unfold va_pl
    rw [List.nil_append]
    exact List.map_congr_left (fun a ha => by rw [vr_up_in ha])
  rw [hpl, List.append_assoc] at P1 D1
  have hlt : ∀ a : Int, 0 < a → a < σ.1 → ¬ ((σ.1 : Int) ≤ a) := fun a _ h1 => by omega
  obtain ⟨ad', hadD⟩ : ∃ ad' : Int → Nat, ad' = fun (b : Int) => if b = σ.1 then q0 else if (σ.1 : Int) < b then rr ((b : Int) - σ.1 - 1).toNat else ad b := ⟨_, rfl⟩
  have d2 : ad' σ.1 = q0 := by rw [hadD]; exact if_pos rfl
  have d1 : ∀ a : Int, a < σ.1 → ad' a = ad a := fun a h1 => by rw [hadD]; show (if a = σ.1 then _ else _) = _; rw [if_neg (by omega), if_neg (by omega)]
  have d3 : ∀ i : Nat, ad' ((σ.1 : Int) + 1 + i) = rr i := fun i => by
    rw [hadD]; show (if _ = _ then _ else _) = _
    rw [if_neg (by omega), if_pos (by omega), show ((σ.1 : Int) + 1 + i - σ.1 - 1).toNat = i by omega]
  have eP : ∀ i : Nat, i < n.toNat → (mnewM σ n.toNat).2.1 σ.1 i = some ((σ.1 : Int) + 1 + i) := fun i hi => by
    show (if (σ.1 : Int) ≤ σ.1 then _ else _) = _
    rw [if_pos (Int.le_refl _), if_pos ⟨rfl, by omega, by omega⟩]
  have eP2 : ∀ i : Nat, ¬ i < n.toNat → (mnewM σ n.toNat).2.1 σ.1 i = none := fun i hi => by
    show (if (σ.1 : Int) ≤ σ.1 then _ else _) = _
    rw [if_pos (Int.le_refl _), if_neg (fun z => by omega)]
  have hm := mcells_app (dA := dA) (ad := ad) (ad' := ad') (σ := σ) (σ' := mnewM σ n.toNat) (ws := [(q0, .inl (dA 16, n.toNat, .inr (.inr (.inr (.inr (fun i => if i < n.toNat then some (rr i) else none))))))] ++ ((List.range n.toNat).map rr).map (fun a => (a, .inl (dA 10, q.toNat, .inl (fun _ => 0))))) hN (by simp [mnewM]; omega) (fun a a0 a1 => ⟨d1 a a1, by
      refine cE_congr (funext fun z => ?_) (funext fun z => ?_) (fun z => ?_)
      · show (if (σ.1 : Int) ≤ a then 0 else _) = _
        rw [if_neg (hlt a a0 a1)]
      · show (if (σ.1 : Int) ≤ a then 0 else _) = _
        rw [if_neg (hlt a a0 a1)]
      · show Option.map ad' (if (σ.1 : Int) ≤ a then _ else _) = _
        rw [if_neg (hlt a a0 a1)]
        cases hp : σ.2.1 a z with
        | none => rfl
        | some w =>
          have := hwf2 a z w a0 a1 hp
          exact congrArg some (d1 w this.2)⟩) (fun i z hz => by
      cases i with
      | zero =>
        cases hz
        rw [show (σ.1 : Int) + ((0 : Nat) : Int) = σ.1 by omega, d2, cE_arr (congrArg Prod.fst hg) (Nat.le_of_ble_eq_true rfl), congrArg Prod.snd hg, mar_ref (.inr (.inr rfl))]
        refine congrArg (fun f => (q0, (Sum.inl (dA 16, n.toNat, .inr (.inr (.inr (.inr f)))) : va_E))) (funext fun i => ?_)
        by_cases hi : i < n.toNat
        · rw [if_pos hi, eP i hi]; exact congrArg some (d3 i).symm
        · rw [if_neg hi, eP2 i hi]; rfl
      | succ i =>
        rw [List.singleton_append, List.getElem?_cons_succ, List.getElem?_map, List.getElem?_map] at hz
        by_cases hi : i < n.toNat
        · rw [List.getElem?_range hi] at hz
          cases hz
          have e1 : (σ.1 : Int) + ((i + 1 : Nat) : Int) = (σ.1 : Int) + 1 + i := by omega
          rw [e1, d3, cE_arr (congrArg Prod.fst (hgr i hi)) (Nat.le_of_ble_eq_true rfl), congrArg Prod.snd (hgr i hi), mar_int (.inl rfl)]
          refine congrArg (fun f => (rr i, (Sum.inl (dA 10, q.toNat, .inl f) : va_E))) (funext fun w => ?_)
          show (0 : Int32) = Int32.ofInt (if (σ.1 : Int) ≤ (σ.1 : Int) + 1 + i then 0 else _)
          rw [if_pos (by omega)]; rfl
        · rw [List.getElem?_eq_none (by rw [List.length_range]; omega)] at hz
          cases hz)
  rw [hm] at P1 D1
  have hw : mwf (mnewM σ n.toNat) := by
    refine ⟨by show 1 ≤ σ.1 + 1 + n.toNat; omega, fun a i b a0 a1 hb => ?_⟩
    change a < ((σ.1 + 1 + n.toNat : Nat) : Int) at a1
    change (if (σ.1 : Int) ≤ a then (if a = σ.1 ∧ 0 ≤ i ∧ i < n.toNat then some ((σ.1 : Int) + 1 + i) else none) else σ.2.1 a i) = some b at hb
    show 0 < b ∧ b < ((σ.1 + 1 + n.toNat : Nat) : Int)
    split at hb
    · split at hb
      · cases hb; omega
      · cases hb
    · have := hwf2 a i b a0 (by omega) hb
      omega
  have hle : σ.1 ≤ (mnewM σ n.toNat).1 := by show σ.1 ≤ σ.1 + 1 + n.toNat; omega
  have h00 : ad' 0 = ad 0 := d1 0 (by omega)
  have hq := hnx _ _ _ _ _ h ad' H1 locs rl (h0.moved hle h00 (fun a _ a1 => d1 a a1)) ⟨P1, D1, S1, hw⟩ (hl.moved hle h00 (fun a _ a1 => d1 a a1)) (mok_cons (Or.inl ⟨by omega, by show (σ.1 : Int) < ((σ.1 + 1 + n.toNat : Nat) : Int); omega⟩) (fun v hv => mok_le hle (mok_tl (mok_tl hst) v hv)))
  have hmr := mapr_moved h00 (fun a _ a1 => d1 a a1) (mok_tl (mok_tl hst))
  rw [← d2]
  change W p l e R s m args below meth c H1 locs (k + 1 + n.toNat) (j + n.toNat + n.toNat * q.toNat) Q (F0 m (pc + 4) rl (.ref (ad' σ.1) :: r.map (mtr ad'))) at hq
  rw [hmr] at hq
  exact hq
set_option maxHeartbeats 4000000 in
set_option maxRecDepth 100000 in
theorem stp_ok {own : String} {bytes : ByteArray} {ini : Bool} {S : Option (Nat × (Int → Int))} {F : Nat → Option (Nat × Nat × Nat × Nat)} {Y : Nat → Option CI} {Z : Nat → Option (Int ⊕ Int)} {U : Nat → Option Nat} {post : Option MV → MS → Prop} {K : Pt → Prop}
    (hsf : SF own bytes ini S p s m args meth c D dA A H0 b0 nL) (hF : FOK own F) (hZ : ZOK own Z) (hU : UOK own U) (hY : ∀ x ci, Y x = some ci → CalOK own R x ci)
    (hret : ∀ pc ls st σ k j i r, decode bytes pc = .ok (i, 1) → retI i st r → k ≤ R.cells → j ≤ R.slots → post r σ → Rw p l e R s m args below meth c Q D dA A H0 b0 nL (pc, ls, st, σ, k, j))
    (hKK : ∀ pt, K pt → Rw p l e R s m args below meth c Q D dA A H0 b0 nL pt)
    {nx : List ME → Nat → List (Option MV) → List MV → MS → Nat → Nat → Prop} {i : Instr} {len : Nat} {ts : List Nat} {b : List ME} {pc : Nat} (hd : decode bytes pc = .ok (i, len)) (hlen : len = ilen i ∨ ilen i = 0) (hT : chkT pc i len ts = true)
    (hnx : ∀ b' pc' ls' st' σ' k' j', (b' = b ∧ pc' = pc + len ∨ b' = []) → nx b' pc' ls' st' σ' k' j' → Rw p l e R s m args below meth c Q D dA A H0 b0 nL (pc', ls', st', σ', k', j'))
    {ls : List (Option MV)} {st : List MV} {σ : MS} {k j : Nat} (h : stp F Y Z U S ini R.cells R.slots post K nx i len ts b pc ls st σ k j) : Rw p l e R s m args below meth c Q D dA A H0 b0 nL (pc, ls, st, σ, k, j) := by
  have hsf0 := hsf
  obtain ⟨hx, hb, hml, hown, hts, hK, hA, hini, hao, hscr⟩ := hsf
  cases i
  case iconst n =>
    have e : len = 1 := len_of hlen (by decide)
    subst e
    intro ad H locs rl h0 hR hl hst
    refine lv_iconst hx hb hd rfl ?_
    exact hnx _ _ _ _ _ _ _ (.inl ⟨rfl, rfl⟩) h ad H locs rl h0 hR hl (mok_cons trivial hst)
  case bipush n =>
    have e : len = 2 := len_of hlen (by decide)
    subst e
    have hT := of_decide_eq_true hT
    intro ad H locs rl h0 hR hl hst
    refine lv_bipush hx hb hd (I8_lit hT.1 hT.2) ?_
    exact hnx _ _ _ _ _ _ _ (.inl ⟨rfl, rfl⟩) h ad H locs rl h0 hR hl (mok_cons trivial hst)
  case sipush n =>
    have e : len = 3 := len_of hlen (by decide)
    subst e
    have hT := of_decide_eq_true hT
    intro ad H locs rl h0 hR hl hst
    refine lv_sipush hx hb hd (I16_lit hT.1 hT.2) ?_
    exact hnx _ _ _ _ _ _ _ (.inl ⟨rfl, rfl⟩) h ad H locs rl h0 hR hl (mok_cons trivial hst)
  case lconst n =>
    have e : len = 1 := len_of hlen (by decide)
    subst e
    intro ad H locs rl h0 hR hl hst
    refine lv_lconst hx hb hd (v := Int64.ofInt (n.val : Int)) rfl ?_
    exact hnx _ _ _ _ _ _ _ (.inl ⟨rfl, rfl⟩) h ad H locs rl h0 hR hl (mok_cons trivial hst)
  case ldc x =>
    have e : len = 2 := len_of hlen (by decide)
    subst e
    obtain ⟨v, hv, h⟩ := oI_iff.mp h
    intro ad H locs rl h0 hR hl hst
    refine lv_ldc hx hb hown (hts _ ((hZ x v).1 hv)) hd ?_
    exact hnx _ _ _ _ _ _ _ (.inl ⟨rfl, rfl⟩) h ad H locs rl h0 hR hl (mok_cons trivial hst)
  case ldc_w x =>
    have e : len = 3 := len_of hlen (by decide)
    subst e
    obtain ⟨v, hv, h⟩ := oI_iff.mp h
    intro ad H locs rl h0 hR hl hst
    refine lv_ldcw hx hb hown (hts _ ((hZ x v).1 hv)) hd ?_
    exact hnx _ _ _ _ _ _ _ (.inl ⟨rfl, rfl⟩) h ad H locs rl h0 hR hl (mok_cons trivial hst)
  case ldc2_w x =>
    have e : len = 3 := len_of hlen (by decide)
    subst e
    obtain ⟨v, hv, h⟩ := oL_iff.mp h
    intro ad H locs rl h0 hR hl hst
    refine lv_ldc2 hx hb hown (hts _ ((hZ x v).2 hv)) hd ?_
    exact hnx _ _ _ _ _ _ _ (.inl ⟨rfl, rfl⟩) h ad H locs rl h0 hR hl (mok_cons trivial hst)
  case iload x =>
    have e : len = 2 := len_of hlen (by decide)
    subst e
    obtain ⟨v, hv, h⟩ := lI_iff.mp h
    intro ad H locs rl h0 hR hl hst
    have hg := hl.2.2.2 _ _ hv
    refine lv_iload hx hb hd hg.1 ?_
    exact hnx _ _ _ _ _ _ _ (.inl ⟨rfl, rfl⟩) h ad H locs rl h0 hR hl (mok_cons hg.2 hst)
  case iload_n x =>
    have e : len = 1 := len_of hlen (by decide)
    subst e
    obtain ⟨v, hv, h⟩ := lI_iff.mp h
    intro ad H locs rl h0 hR hl hst
    have hg := hl.2.2.2 _ _ hv
    refine lv_iload_n hx hb hd rfl hg.1 ?_
    exact hnx _ _ _ _ _ _ _ (.inl ⟨rfl, rfl⟩) h ad H locs rl h0 hR hl (mok_cons hg.2 hst)
  case lload x =>
    have e : len = 2 := len_of hlen (by decide)
    subst e
    obtain ⟨v, hv, h⟩ := lL_iff.mp h
    intro ad H locs rl h0 hR hl hst
    have hg := hl.2.2.2 _ _ hv
    refine lv_lload hx hb hd hg.1 ?_
    exact hnx _ _ _ _ _ _ _ (.inl ⟨rfl, rfl⟩) h ad H locs rl h0 hR hl (mok_cons hg.2 hst)
  case lload_n x =>
    have e : len = 1 := len_of hlen (by decide)
    subst e
    obtain ⟨v, hv, h⟩ := lL_iff.mp h
    intro ad H locs rl h0 hR hl hst
    have hg := hl.2.2.2 _ _ hv
    refine lv_lload_n hx hb hd rfl hg.1 ?_
    exact hnx _ _ _ _ _ _ _ (.inl ⟨rfl, rfl⟩) h ad H locs rl h0 hR hl (mok_cons hg.2 hst)
  case aload x =>
    have e : len = 2 := len_of hlen (by decide)
    subst e
    obtain ⟨v, hv, h⟩ := lR_iff.mp h
    intro ad H locs rl h0 hR hl hst
    have hg := hl.2.2.2 _ _ hv
    refine lv_aload hx hb hd hg.1 ?_
    exact hnx _ _ _ _ _ _ _ (.inl ⟨rfl, rfl⟩) h ad H locs rl h0 hR hl (mok_cons hg.2 hst)
  case aload_n x =>
    have e : len = 1 := len_of hlen (by decide)
    subst e
    obtain ⟨v, hv, h⟩ := lR_iff.mp h
    intro ad H locs rl h0 hR hl hst
    have hg := hl.2.2.2 _ _ hv
    refine lv_aload_n hx hb hd rfl hg.1 ?_
    exact hnx _ _ _ _ _ _ _ (.inl ⟨rfl, rfl⟩) h ad H locs rl h0 hR hl (mok_cons hg.2 hst)
  case istore x =>
    have e : len = 2 := len_of hlen (by decide)
    subst e
    obtain ⟨v, r, rfl, hlt, h⟩ := pI_iff.mp h
    intro ad H locs rl h0 hR hl hst
    have hxn := ltL_lt _ _ hlt
    rw [hl.2.2.1] at hxn
    refine lv_istore hx hb hd hl.has hxn rfl (fun rl' hl' => ?_)
    exact hnx _ _ _ _ _ _ _ (.inl ⟨rfl, rfl⟩) h ad H locs rl' h0 hR (hl.st1 hxn (mok_hd hst) hl') (mok_tl hst)
  case istore_n x =>
    have e : len = 1 := len_of hlen (by decide)
    subst e
    obtain ⟨v, r, rfl, hlt, h⟩ := pI_iff.mp h
    intro ad H locs rl h0 hR hl hst
    have hxn := ltL_lt _ _ hlt
    rw [hl.2.2.1] at hxn
    refine lv_istore_n hx hb hd rfl hl.has hxn rfl (fun rl' hl' => ?_)
    exact hnx _ _ _ _ _ _ _ (.inl ⟨rfl, rfl⟩) h ad H locs rl' h0 hR (hl.st1 hxn (mok_hd hst) hl') (mok_tl hst)
  case astore x =>
    have e : len = 2 := len_of hlen (by decide)
    subst e
    obtain ⟨v, r, rfl, hlt, h⟩ := pR_iff.mp h
    intro ad H locs rl h0 hR hl hst
    have hxn := ltL_lt _ _ hlt
    rw [hl.2.2.1] at hxn
    refine lv_astore hx hb hd hl.has hxn rfl (fun rl' hl' => ?_)
    exact hnx _ _ _ _ _ _ _ (.inl ⟨rfl, rfl⟩) h ad H locs rl' h0 hR (hl.st1 hxn (mok_hd hst) hl') (mok_tl hst)
  case astore_n x =>
    have e : len = 1 := len_of hlen (by decide)
    subst e
    obtain ⟨v, r, rfl, hlt, h⟩ := pR_iff.mp h
    intro ad H locs rl h0 hR hl hst
    have hxn := ltL_lt _ _ hlt
    rw [hl.2.2.1] at hxn
    refine lv_astore_n hx hb hd rfl hl.has hxn rfl (fun rl' hl' => ?_)
    exact hnx _ _ _ _ _ _ _ (.inl ⟨rfl, rfl⟩) h ad H locs rl' h0 hR (hl.st1 hxn (mok_hd hst) hl') (mok_tl hst)
  case lstore x =>
    have e : len = 2 := len_of hlen (by decide)
    subst e
    obtain ⟨v, r, rfl, hlt, h⟩ := pL_iff.mp h
    intro ad H locs rl h0 hR hl hst
    have hxn := ltL_lt _ _ hlt
    rw [hl.2.2.1] at hxn
    refine lv_lstore hx hb hd hl.has hxn rfl (fun rl' hl' => ?_)
    exact hnx _ _ _ _ _ _ _ (.inl ⟨rfl, rfl⟩) h ad H locs rl' h0 hR (hl.st2 hxn (mok_hd hst) hl') (mok_tl hst)
  case lstore_n x =>
    have e : len = 1 := len_of hlen (by decide)
    subst e
    obtain ⟨v, r, rfl, hlt, h⟩ := pL_iff.mp h
    intro ad H locs rl h0 hR hl hst
    have hxn := ltL_lt _ _ hlt
    rw [hl.2.2.1] at hxn
    refine lv_lstore_n hx hb hd rfl hl.has hxn rfl (fun rl' hl' => ?_)
    exact hnx _ _ _ _ _ _ _ (.inl ⟨rfl, rfl⟩) h ad H locs rl' h0 hR (hl.st2 hxn (mok_hd hst) hl') (mok_tl hst)
  case iinc x n =>
    have e : len = 3 := len_of hlen (by decide)
    subst e
    obtain ⟨v, hv, h⟩ := lI_iff.mp h
    intro ad H locs rl h0 hR hl hst
    have hxn := getL_lt _ _ _ hv
    rw [hl.2.2.1] at hxn
    obtain ⟨q, hq⟩ := List.getElem?_of_mem (mlv_mem (ad := ad) hv)
    refine lv_iinc (v := Int32.ofInt (v + n)) hx hb hd hl.has hq (by rw [Int32.ofInt_add]) hxn rfl (fun rl' hl' => ?_)
    exact hnx _ _ _ _ _ _ _ (.inl ⟨rfl, rfl⟩) h ad H locs rl' h0 hR (hl.st1 (v := .inl (v + n)) hxn trivial hl') (hst)
  case iadd =>
    have e : len = 1 := len_of hlen (by decide)
    subst e
    obtain ⟨y, r, rfl, h⟩ := pI_iff.mp h
    obtain ⟨x, r, rfl, h⟩ := pI_iff.mp h
    intro ad H locs rl h0 hR hl hst
    refine lv_iadd hx hb hd ?_
    rw [← Int32.ofInt_add]
    exact hnx _ _ _ _ _ _ _ (.inl ⟨rfl, rfl⟩) h ad H locs rl h0 hR hl (mok_cons trivial (mok_tl (mok_tl hst)))
  case isub =>
    have e : len = 1 := len_of hlen (by decide)
    subst e
    obtain ⟨y, r, rfl, h⟩ := pI_iff.mp h
    obtain ⟨x, r, rfl, h⟩ := pI_iff.mp h
    intro ad H locs rl h0 hR hl hst
    refine lv_isub hx hb hd ?_
    rw [← Int32.ofInt_sub]
    exact hnx _ _ _ _ _ _ _ (.inl ⟨rfl, rfl⟩) h ad H locs rl h0 hR hl (mok_cons trivial (mok_tl (mok_tl hst)))
  case imul =>
    have e : len = 1 := len_of hlen (by decide)
    subst e
    obtain ⟨y, r, rfl, h⟩ := pI_iff.mp h
    obtain ⟨x, r, rfl, h⟩ := pI_iff.mp h
    intro ad H locs rl h0 hR hl hst
    refine lv_imul hx hb hd ?_
    rw [← Int32.ofInt_mul]
    exact hnx _ _ _ _ _ _ _ (.inl ⟨rfl, rfl⟩) h ad H locs rl h0 hR hl (mok_cons trivial (mok_tl (mok_tl hst)))
  case idiv =>
    have e : len = 1 := len_of hlen (by decide)
    subst e
    obtain ⟨y, r, rfl, h⟩ := pI_iff.mp h
    obtain ⟨x, r, rfl, h1, h2, h3, h⟩ := pI_iff.mp h
    intro ad H locs rl h0 hR hl hst
    refine lv_idiv hx hb hd (fun q => h3 ((I_eq h2 RI_0).mp q)) ?_
    rw [I_div h1 h2]
    exact hnx _ _ _ _ _ _ _ (.inl ⟨rfl, rfl⟩) h ad H locs rl h0 hR hl (mok_cons trivial (mok_tl (mok_tl hst)))
  case irem =>
    have e : len = 1 := len_of hlen (by decide)
    subst e
    obtain ⟨y, r, rfl, h⟩ := pI_iff.mp h
    obtain ⟨x, r, rfl, h1, h2, h3, h⟩ := pI_iff.mp h
    intro ad H locs rl h0 hR hl hst
    refine lv_irem hx hb hd (fun q => h3 ((I_eq h2 RI_0).mp q)) ?_
    rw [I_rem h1 h2]
    exact hnx _ _ _ _ _ _ _ (.inl ⟨rfl, rfl⟩) h ad H locs rl h0 hR hl (mok_cons trivial (mok_tl (mok_tl hst)))
  case iand =>
    have e : len = 1 := len_of hlen (by decide)
    subst e
    obtain ⟨y, r, rfl, h⟩ := pI_iff.mp h
    obtain ⟨x, r, rfl, h⟩ := pI_iff.mp h
    intro ad H locs rl h0 hR hl hst
    refine lv_iand hx hb hd ?_
    rw [← Int32.ofInt_toInt (Int32.ofInt x &&& Int32.ofInt y)]
    exact hnx _ _ _ _ _ _ _ (.inl ⟨rfl, rfl⟩) h ad H locs rl h0 hR hl (mok_cons trivial (mok_tl (mok_tl hst)))
  case ior =>
    have e : len = 1 := len_of hlen (by decide)
    subst e
    obtain ⟨y, r, rfl, h⟩ := pI_iff.mp h
    obtain ⟨x, r, rfl, h⟩ := pI_iff.mp h
    intro ad H locs rl h0 hR hl hst
    refine lv_ior hx hb hd ?_
    rw [← Int32.ofInt_toInt (Int32.ofInt x ||| Int32.ofInt y)]
    exact hnx _ _ _ _ _ _ _ (.inl ⟨rfl, rfl⟩) h ad H locs rl h0 hR hl (mok_cons trivial (mok_tl (mok_tl hst)))
  case ishl =>
    have e : len = 1 := len_of hlen (by decide)
    subst e
    obtain ⟨y, r, rfl, h⟩ := pI_iff.mp h
    obtain ⟨x, r, rfl, h⟩ := pI_iff.mp h
    intro ad H locs rl h0 hR hl hst
    refine lv_ishl hx hb hd ?_
    rw [← Int32.ofInt_toInt (Int32.ofInt x <<< (Int32.ofInt y &&& 31))]
    exact hnx _ _ _ _ _ _ _ (.inl ⟨rfl, rfl⟩) h ad H locs rl h0 hR hl (mok_cons trivial (mok_tl (mok_tl hst)))
  case ladd =>
    have e : len = 1 := len_of hlen (by decide)
    subst e
    obtain ⟨y, r, rfl, h⟩ := pL_iff.mp h
    obtain ⟨x, r, rfl, h⟩ := pL_iff.mp h
    intro ad H locs rl h0 hR hl hst
    refine lv_ladd hx hb hd ?_
    rw [← Int64.ofInt_add]
    exact hnx _ _ _ _ _ _ _ (.inl ⟨rfl, rfl⟩) h ad H locs rl h0 hR hl (mok_cons trivial (mok_tl (mok_tl hst)))
  case lsub =>
    have e : len = 1 := len_of hlen (by decide)
    subst e
    obtain ⟨y, r, rfl, h⟩ := pL_iff.mp h
    obtain ⟨x, r, rfl, h⟩ := pL_iff.mp h
    intro ad H locs rl h0 hR hl hst
    refine lv_lsub hx hb hd ?_
    rw [← Int64.ofInt_sub]
    exact hnx _ _ _ _ _ _ _ (.inl ⟨rfl, rfl⟩) h ad H locs rl h0 hR hl (mok_cons trivial (mok_tl (mok_tl hst)))
  case lcmp =>
    have e : len = 1 := len_of hlen (by decide)
    subst e
    obtain ⟨y, r, rfl, h⟩ := pL_iff.mp h
    obtain ⟨x, r, rfl, h1, h2, h⟩ := pL_iff.mp h
    intro ad H locs rl h0 hR hl hst
    refine W.lcmp hx hb hd ?_
    rw [L_cmp h1 h2]
    exact hnx _ _ _ _ _ _ _ (.inl ⟨rfl, rfl⟩) h ad H locs rl h0 hR hl (mok_cons trivial (mok_tl (mok_tl hst)))
  case i2l =>
    have e : len = 1 := len_of hlen (by decide)
    subst e
    obtain ⟨x, r, rfl, h1, h⟩ := pI_iff.mp h
    intro ad H locs rl h0 hR hl hst
    refine lv_i2l hx hb hd (I_long h1) ?_
    exact hnx _ _ _ _ _ _ _ (.inl ⟨rfl, rfl⟩) h ad H locs rl h0 hR hl (mok_cons trivial (mok_tl hst))
  case i2b =>
    have e : len = 1 := len_of hlen (by decide)
    subst e
    obtain ⟨x, r, rfl, h1, h2, h⟩ := pI_iff.mp h
    intro ad H locs rl h0 hR hl hst
    refine lv_i2b hx hb hd (I_byte h1 h2) ?_
    exact hnx _ _ _ _ _ _ _ (.inl ⟨rfl, rfl⟩) h ad H locs rl h0 hR hl (mok_cons trivial (mok_tl hst))
  case dup =>
    have e : len = 1 := len_of hlen (by decide)
    subst e
    rcases st with _ | ⟨v, r⟩
    · exact False.elim h
    obtain ⟨h1, h⟩ := h
    intro ad H locs rl h0 hR hl hst
    refine lv_dup hx hb hd (by rw [mcat_mtr]; exact h1) ?_
    exact hnx _ _ _ _ _ _ _ (.inl ⟨rfl, rfl⟩) h ad H locs rl h0 hR hl (mok_cons (mok_hd hst) hst)
  case dup2 =>
    have e : len = 1 := len_of hlen (by decide)
    subst e
    rcases st with _ | ⟨v, _ | ⟨w, r⟩⟩
    · exact False.elim h
    · exact False.elim h
    obtain ⟨h1, h2, h⟩ := h
    intro ad H locs rl h0 hR hl hst
    refine lv_dup2_11 hx hb hd (by rw [mcat_mtr]; exact h1) (by rw [mcat_mtr]; exact h2) ?_
    exact hnx _ _ _ _ _ _ _ (.inl ⟨rfl, rfl⟩) h ad H locs rl h0 hR hl (mok_cons (mok_hd hst) (mok_cons (mok_hd (mok_tl hst)) hst))
  case goto off =>
    have e : len = 3 := len_of hlen (by decide)
    subst e
    obtain ⟨t, rfl, ht⟩ := chkT_g hT
    intro ad H locs rl h0 hR hl hst
    refine lv_goto hx hb hd ht ?_
    exact hnx _ _ _ _ _ _ _ (.inr rfl) h ad H locs rl h0 hR hl (hst)
  case ifCond cd off =>
    have e : len = 3 := len_of hlen (by decide)
    subst e
    obtain ⟨t, rfl, ht⟩ := chkT_c hT
    obtain ⟨x, r, rfl, h1, h2, h3⟩ := pI_iff.mp h
    intro ad H locs rl h0 hR hl hst
    cases cd
    case eq => exact lv_if_eq hx hb hd ht (fun q => hnx _ _ _ _ _ _ _ (.inr rfl) (h2 ((I_eq h1 RI_0).mp q)) ad H locs rl h0 hR hl (mok_tl hst)) (fun q => hnx _ _ _ _ _ _ _ (.inl ⟨rfl, rfl⟩) (h3 (fun z => q ((I_eq h1 RI_0).mpr z))) ad H locs rl h0 hR hl (mok_tl hst))
    case ne => exact lv_if_ne hx hb hd ht (fun q => hnx _ _ _ _ _ _ _ (.inr rfl) (h2 ((not_congr (I_eq h1 RI_0)).mp q)) ad H locs rl h0 hR hl (mok_tl hst)) (fun q => hnx _ _ _ _ _ _ _ (.inl ⟨rfl, rfl⟩) (h3 (fun z => z ((I_eq h1 RI_0).mp q))) ad H locs rl h0 hR hl (mok_tl hst))
    case lt => exact lv_if_lt hx hb hd ht (fun q => hnx _ _ _ _ _ _ _ (.inr rfl) (h2 ((I_lt h1 RI_0).mp q)) ad H locs rl h0 hR hl (mok_tl hst)) (fun q => hnx _ _ _ _ _ _ _ (.inl ⟨rfl, rfl⟩) (h3 (fun z => q ((I_lt h1 RI_0).mpr z))) ad H locs rl h0 hR hl (mok_tl hst))
    case ge => exact lv_if_ge hx hb hd ht (fun q => hnx _ _ _ _ _ _ _ (.inr rfl) (h2 ((I_le RI_0 h1).mp q)) ad H locs rl h0 hR hl (mok_tl hst)) (fun q => hnx _ _ _ _ _ _ _ (.inl ⟨rfl, rfl⟩) (h3 (fun z => q ((I_le RI_0 h1).mpr z))) ad H locs rl h0 hR hl (mok_tl hst))
    case gt => exact lv_if_gt hx hb hd ht (fun q => hnx _ _ _ _ _ _ _ (.inr rfl) (h2 ((I_lt RI_0 h1).mp q)) ad H locs rl h0 hR hl (mok_tl hst)) (fun q => hnx _ _ _ _ _ _ _ (.inl ⟨rfl, rfl⟩) (h3 (fun z => q ((I_lt RI_0 h1).mpr z))) ad H locs rl h0 hR hl (mok_tl hst))
    case le => exact lv_if_le hx hb hd ht (fun q => hnx _ _ _ _ _ _ _ (.inr rfl) (h2 ((I_le h1 RI_0).mp q)) ad H locs rl h0 hR hl (mok_tl hst)) (fun q => hnx _ _ _ _ _ _ _ (.inl ⟨rfl, rfl⟩) (h3 (fun z => q ((I_le h1 RI_0).mpr z))) ad H locs rl h0 hR hl (mok_tl hst))
  case if_icmp cd off =>
    have e : len = 3 := len_of hlen (by decide)
    subst e
    obtain ⟨t, rfl, ht⟩ := chkT_i hT
    obtain ⟨y, r, rfl, h⟩ := pI_iff.mp h
    obtain ⟨x, r, rfl, h1, h2, h3, h4⟩ := pI_iff.mp h
    intro ad H locs rl h0 hR hl hst
    cases cd
    case eq => exact lv_icmp_eq hx hb hd ht (fun q => hnx _ _ _ _ _ _ _ (.inr rfl) (h3 ((I_eq h1 h2).mp q)) ad H locs rl h0 hR hl (mok_tl (mok_tl hst))) (fun q => hnx _ _ _ _ _ _ _ (.inl ⟨rfl, rfl⟩) (h4 (fun z => q ((I_eq h1 h2).mpr z))) ad H locs rl h0 hR hl (mok_tl (mok_tl hst)))
    case ne => exact lv_icmp_ne hx hb hd ht (fun q => hnx _ _ _ _ _ _ _ (.inr rfl) (h3 ((not_congr (I_eq h1 h2)).mp q)) ad H locs rl h0 hR hl (mok_tl (mok_tl hst))) (fun q => hnx _ _ _ _ _ _ _ (.inl ⟨rfl, rfl⟩) (h4 (fun z => z ((I_eq h1 h2).mp q))) ad H locs rl h0 hR hl (mok_tl (mok_tl hst)))
    case lt => exact lv_icmp_lt hx hb hd ht (fun q => hnx _ _ _ _ _ _ _ (.inr rfl) (h3 ((I_lt h1 h2).mp q)) ad H locs rl h0 hR hl (mok_tl (mok_tl hst))) (fun q => hnx _ _ _ _ _ _ _ (.inl ⟨rfl, rfl⟩) (h4 (fun z => q ((I_lt h1 h2).mpr z))) ad H locs rl h0 hR hl (mok_tl (mok_tl hst)))
    case ge => exact lv_icmp_ge hx hb hd ht (fun q => hnx _ _ _ _ _ _ _ (.inr rfl) (h3 ((I_le h2 h1).mp q)) ad H locs rl h0 hR hl (mok_tl (mok_tl hst))) (fun q => hnx _ _ _ _ _ _ _ (.inl ⟨rfl, rfl⟩) (h4 (fun z => q ((I_le h2 h1).mpr z))) ad H locs rl h0 hR hl (mok_tl (mok_tl hst)))
    case gt => exact lv_icmp_gt hx hb hd ht (fun q => hnx _ _ _ _ _ _ _ (.inr rfl) (h3 ((I_lt h2 h1).mp q)) ad H locs rl h0 hR hl (mok_tl (mok_tl hst))) (fun q => hnx _ _ _ _ _ _ _ (.inl ⟨rfl, rfl⟩) (h4 (fun z => q ((I_lt h2 h1).mpr z))) ad H locs rl h0 hR hl (mok_tl (mok_tl hst)))
    case le => exact lv_icmp_le hx hb hd ht (fun q => hnx _ _ _ _ _ _ _ (.inr rfl) (h3 ((I_le h1 h2).mp q)) ad H locs rl h0 hR hl (mok_tl (mok_tl hst))) (fun q => hnx _ _ _ _ _ _ _ (.inl ⟨rfl, rfl⟩) (h4 (fun z => q ((I_le h1 h2).mpr z))) ad H locs rl h0 hR hl (mok_tl (mok_tl hst)))
  case tableswitch d lo hi offs =>
    obtain ⟨x, r, rfl, h1, h2, h3⟩ := pI_iff.mp h
    intro ad H locs rl h0 hR hl hst
    obtain ⟨t, ts', rfl, ht, hts', hsz⟩ := chkT_sw hT
    by_cases ho : x < lo ∨ hi < x
    · exact lv_tableOut hx hb hd (by rw [I_toInt h1]; exact ho) ht (hnx _ _ _ _ _ _ _ (.inr rfl) (h2 ho) ad H locs rl h0 hR hl (mok_tl hst))
    · obtain ⟨off, t2, ho1, ho2, ho3⟩ := tsw_at hts' h3 (by omega) (by omega)
      exact lv_tableIn hx hb hd (by rw [I_toInt h1]; omega) (by rw [I_toInt h1]; omega) (by rw [I_toInt h1]; exact ho1) ho2 (hnx _ _ _ _ _ _ _ (.inr rfl) ho3 ad H locs rl h0 hR hl (mok_tl hst))
  case getfield x =>
    have e : len = 3 := len_of hlen (by decide)
    subst e
    obtain ⟨ci, fi, cd, fw, hf, h⟩ := oF_iff.mp h
    obtain ⟨a, r, rfl, hg, h⟩ := pR_iff.mp h
    obtain ⟨f1, f2, f3, f4, f5, f6, f7⟩ := hF _ _ _ _ _ hf
    intro ad H locs rl h0 hR hl hst
    obtain ⟨a0, a1⟩ := mok_pos (mok_hd hst) hg (by omega)
    have he := mcells_at (dA := dA) (ad := ad) a0 a1
    rw [cE_obj hg f1] at he
    refine va_get (v := mtr ad (fv σ a fi cd)) hx hb hts (ws_fld f1) hown hK hR.1 _ he (cl_at f1) fi f2 (hts _ f5) (fun _ z => z) (by rw [List.getElem?_map, List.getElem?_range f2, fv_mtr f3]; rfl) hd ?_
    exact hnx _ _ _ _ _ _ _ (.inl ⟨rfl, rfl⟩) h ad H locs rl h0 hR hl (mok_cons (mok_fv hR.2.2.2 a0 a1) (mok_tl hst))
  case putfield x =>
    have e : len = 3 := len_of hlen (by decide)
    subst e
    obtain ⟨ci, fi, cd, fw, hf, hfw, hg, h⟩ := oF_iff.mp h
    obtain ⟨f1, f2, f3, f4, f5, f6, f7⟩ := hF _ _ _ _ _ hf
    by_cases hc2 : cd = 2
    · obtain ⟨v, a, r, rfl, hv17, hh⟩ := fp_2 hc2 h
      · change (G a).1 = ci at hg
        intro ad H locs rl h0 hR hl hst
        obtain ⟨a0, a1⟩ := mok_pos (mok_hd (mok_tl hst)) hg (by omega)
        have he := mcells_at (dA := dA) (ad := ad) a0 a1
        rw [cE_obj hg f1] at he
        have hvn : mwf (mputP σ a fi (some v)) := mwf_putP hR.2.2.2 (fun b hb => by
          cases hb
          rcases mok_hd hst with q | q
          · exact q
          · subst q; exact absurd G_0 hv17)
        have hset := fun (H1 : Heap) (locs1 : List Loc) P1 D1 S1 => HR.set (D := D) (σ' := mputP σ a fi (some v)) (H1 := H1) (locs1 := locs1) (x := .inr (ci, ((List.range (nfs ci)).map (fun (i : Nat) => msl ad σ a (fty ci i) i)).set fi (mtr ad (.inr (.inr (some v)))))) hR a0 a1 rfl hvn (by rw [cE_obj hg f1, map_set_range (n := nfs ci) (f := fun (i : Nat) => msl ad σ a (fty ci i) i) (v := mtr ad (.inr (.inr (some v)))) (msl_putP (f3 ▸ hc2)) (fun i hi => msl_putPn hi)]) (fun b hb _ _ => cE_putP hb) P1 D1 S1
        have hty := fty_ref (f3 ▸ hc2) (v := some v) (ad := ad)
        rcases hfw with hfw | ⟨hfw, hi⟩
        · exact va_put (v := mtr ad (.inr (.inr (some v)))) hx hb hts (ws_fld f1) (fty ci) (fty_ok f1) (fnm_ok f1) hown hK hR.1 hR.2.1 hR.2.2.1 _ he (cl_at f1) fi f2 (hts _ f5) (fun _ z => z) (f6 hfw) (fty_ok f1 fi f2) hty.1 hty.2 (by rw [List.length_map, List.length_range]; exact f2) hd (fun H1 locs1 P1 D1 S1 => hnx _ _ _ _ _ _ _ (.inl ⟨rfl, rfl⟩) hh ad H1 locs1 rl h0 (hset H1 locs1 P1 D1 S1) hl (mok_tl (mok_tl hst)))
        · exact va_putF (v := mtr ad (.inr (.inr (some v)))) hx hb hts (ws_fld f1) (fty ci) (fty_ok f1) (fnm_ok f1) hown hK hR.1 hR.2.1 hR.2.2.1 _ he (cl_at f1) fi f2 (hts _ f5) (fun _ z => z) (f7 hfw).1 (hini hi) (f7 hfw).2 (fty_ok f1 fi f2) hty.1 hty.2 (by rw [List.length_map, List.length_range]; exact f2) hd (fun H1 locs1 P1 D1 S1 => hnx _ _ _ _ _ _ _ (.inl ⟨rfl, rfl⟩) hh ad H1 locs1 rl h0 (hset H1 locs1 P1 D1 S1) hl (mok_tl (mok_tl hst)))
    · obtain ⟨hc1, y, a, r, rfl, h3, hh⟩ := fp_0 hc2 h
      · change (G a).1 = ci at hg
        intro ad H locs rl h0 hR hl hst
        obtain ⟨a0, a1⟩ := mok_pos (mok_hd (mok_tl hst)) hg (by omega)
        have he := mcells_at (dA := dA) (ad := ad) a0 a1
        rw [cE_obj hg f1] at he
        have hc : fcode (fty ci fi) = 0 ∨ fcode (fty ci fi) = 3 ∧ (y = 0 ∨ y = 1) := by
          rw [← f3]
          rcases (show cd = 0 ∨ cd = 3 by omega) with q | q
          · exact Or.inl q
          · exact Or.inr ⟨q, h3 q⟩
        have hset := fun (H1 : Heap) (locs1 : List Loc) P1 D1 S1 => HR.set (D := D) (σ' := mputI σ a fi y) (H1 := H1) (locs1 := locs1) (x := .inr (ci, ((List.range (nfs ci)).map (fun (i : Nat) => msl ad σ a (fty ci i) i)).set fi (mtr ad (.inl y)))) hR a0 a1 rfl (mwf_putI hR.2.2.2) (by rw [cE_obj hg f1, map_set_range (n := nfs ci) (f := fun (i : Nat) => msl ad σ a (fty ci i) i) (v := mtr ad (.inl y)) (msl_putI hc) (fun i hi => msl_putIn hi)]) (fun b hb _ _ => cE_putI hb) P1 D1 S1
        have hty := fty_int hc (ad := ad)
        rcases hfw with hfw | ⟨hfw, hi⟩
        · exact va_put (v := mtr ad (.inl y)) hx hb hts (ws_fld f1) (fty ci) (fty_ok f1) (fnm_ok f1) hown hK hR.1 hR.2.1 hR.2.2.1 _ he (cl_at f1) fi f2 (hts _ f5) (fun _ z => z) (f6 hfw) (fty_ok f1 fi f2) hty.1 hty.2 (by rw [List.length_map, List.length_range]; exact f2) hd (fun H1 locs1 P1 D1 S1 => hnx _ _ _ _ _ _ _ (.inl ⟨rfl, rfl⟩) hh ad H1 locs1 rl h0 (hset H1 locs1 P1 D1 S1) hl (mok_tl (mok_tl hst)))
        · exact va_putF (v := mtr ad (.inl y)) hx hb hts (ws_fld f1) (fty ci) (fty_ok f1) (fnm_ok f1) hown hK hR.1 hR.2.1 hR.2.2.1 _ he (cl_at f1) fi f2 (hts _ f5) (fun _ z => z) (f7 hfw).1 (hini hi) (f7 hfw).2 (fty_ok f1 fi f2) hty.1 hty.2 (by rw [List.length_map, List.length_range]; exact f2) hd (fun H1 locs1 P1 D1 S1 => hnx _ _ _ _ _ _ _ (.inl ⟨rfl, rfl⟩) hh ad H1 locs1 rl h0 (hset H1 locs1 P1 D1 S1) hl (mok_tl (mok_tl hst)))
  case iaload =>
    have e : len = 1 := len_of hlen (by decide)
    subst e
    obtain ⟨i, r, rfl, h⟩ := pI_iff.mp h
    obtain ⟨a, r, rfl, h⟩ := pR_iff.mp h
    change (if (G a).1 = 17 then _ else _) at h
    by_cases hg : (G a).1 = 17
    · rw [if_pos hg] at h
      obtain ⟨L, xs, hS, g1, g2, hz⟩ := oS_iff.mp h
      intro ad H locs rl h0 hR hl hst
      obtain ⟨xr, x1, x2, x3, x5, x4⟩ := hscr L xs hS
      have ha : a = 0 := G_17 (mok_hd (mok_tl hst)) hg
      subst ha
      obtain ⟨i1, i2, i3⟩ := I_in x5 g1 g2
      have hq := hnx _ _ _ _ _ _ _ (.inl ⟨rfl, rfl⟩) hz ad H locs rl h0 hR hl (mok_cons trivial (mok_tl (mok_tl hst)))
      refine va_sld (b := ad 0) hx hb (by rw [h0.2.1]; exact x1) (by rw [h0.2.1]; exact x2) (by rw [h0.2.1]; exact x3) hR.2.2.1 i1 hd ?_
      have hv := x4 i.toNat (by omega)
      rw [i3] at hv
      rw [i2, ← Int32.ofInt_toInt (xr i.toNat), ← hv]
      exact hq
    · rw [if_neg hg] at h
      obtain ⟨hg, g1, g2, h⟩ := h
      intro ad H locs rl h0 hR hl hst
      obtain ⟨a0, a1⟩ := mok_pos (mok_hd (mok_tl hst)) hg (by decide)
      have he := mcells_at (dA := dA) (ad := ad) a0 a1
      rw [cE_arr hg (by decide), mar_int (.inl rfl)] at he
      obtain ⟨i1, i2, i3⟩ := I_in (G_small a) g1 g2
      refine va_iald hx hb hK hR.1 _ 0 he (TY_at (t := 10) (by decide) (by decide)) i1 hd ?_
      rw [i2, i3]
      exact hnx _ _ _ _ _ _ _ (.inl ⟨rfl, rfl⟩) h ad H locs rl h0 hR hl (mok_cons trivial (mok_tl (mok_tl hst)))
  case baload =>
    have e : len = 1 := len_of hlen (by decide)
    subst e
    obtain ⟨i, r, rfl, h⟩ := pI_iff.mp h
    obtain ⟨a, r, rfl, hg, g1, g2, h⟩ := pR_iff.mp h
    rcases hg with hg | hg
    · intro ad H locs rl h0 hR hl hst
      obtain ⟨a0, a1⟩ := mok_pos (mok_hd (mok_tl hst)) hg (by decide)
      have he := mcells_at (dA := dA) (ad := ad) a0 a1
      rw [cE_arr hg (by decide), mar_int (.inr (.inl rfl))] at he
      obtain ⟨i1, i2, i3⟩ := I_in (G_small a) g1 g2
      refine va_bald hx hb hK hR.1 _ 2 he (TY_at (t := 12) (by decide) (by decide)) i1 hd ?_
      rw [i2, i3]
      exact hnx _ _ _ _ _ _ _ (.inl ⟨rfl, rfl⟩) h ad H locs rl h0 hR hl (mok_cons trivial (mok_tl (mok_tl hst)))
    · intro ad H locs rl h0 hR hl hst
      obtain ⟨a0, a1⟩ := mok_pos (mok_hd (mok_tl hst)) hg (by decide)
      have he := mcells_at (dA := dA) (ad := ad) a0 a1
      rw [cE_arr hg (by decide), mar_int (.inr (.inr rfl))] at he
      obtain ⟨i1, i2, i3⟩ := I_in (G_small a) g1 g2
      refine va_zald hx hb hK hR.1 _ 3 he (TY_at (t := 13) (by decide) (by decide)) i1 hd ?_
      rw [i2, i3]
      exact hnx _ _ _ _ _ _ _ (.inl ⟨rfl, rfl⟩) h ad H locs rl h0 hR hl (mok_cons trivial (mok_tl (mok_tl hst)))
  case laload =>
    have e : len = 1 := len_of hlen (by decide)
    subst e
    obtain ⟨i, r, rfl, h⟩ := pI_iff.mp h
    obtain ⟨a, r, rfl, hg, g1, g2, h⟩ := pR_iff.mp h
    intro ad H locs rl h0 hR hl hst
    obtain ⟨a0, a1⟩ := mok_pos (mok_hd (mok_tl hst)) hg (by decide)
    have he := mcells_at (dA := dA) (ad := ad) a0 a1
    rw [cE_arr hg (by decide), mar_long] at he
    obtain ⟨i1, i2, i3⟩ := I_in (G_small a) g1 g2
    refine va_lald hx hb hK hR.1 _ 1 he (TY_at (t := 11) (by decide) (by decide)) i1 hd ?_
    rw [i2, i3]
    exact hnx _ _ _ _ _ _ _ (.inl ⟨rfl, rfl⟩) h ad H locs rl h0 hR hl (mok_cons trivial (mok_tl (mok_tl hst)))
  case aaload =>
    have e : len = 1 := len_of hlen (by decide)
    subst e
    obtain ⟨i, r, rfl, h⟩ := pI_iff.mp h
    obtain ⟨a, r, rfl, hg, g1, g2, h⟩ := pR_iff.mp h
    intro ad H locs rl h0 hR hl hst
    obtain ⟨t, ht, hg⟩ : ∃ t, (t = 14 ∨ t = 15 ∨ t = 16) ∧ (G a).1 = t := ⟨_, hg, rfl⟩
    obtain ⟨a0, a1⟩ := mok_pos (mok_hd (mok_tl hst)) hg (by omega)
    have he := mcells_at (dA := dA) (ad := ad) a0 a1
    rw [cE_arr hg (by omega), mar_ref ht] at he
    obtain ⟨i1, i2, i3⟩ := I_in (G_small a) g1 g2
    have hlt : (Int32.ofInt i).toNatClampNeg < (G a).2 := Nat.not_le.mp fun q => i1 (Or.inr q)
    refine W.aald (v := va_rf ((σ.2.1 a ((Int32.ofInt i).toNatClampNeg : Nat)).map ad)) (ty := aty t) hx hb (hR.1 _ _ he) ((hK.2 _ _ (TY_at (t := t) (by omega) (by omega))).1 (G a).2 (fun j => va_rf ((σ.2.1 a j).map ad))) (by rcases ht with rfl | rfl | rfl <;> rfl) (fun q => by cases q) (by show ¬ (_ ∨ (arrV _ _ _).slots.size ≤ _); rw [arrV_size]; exact i1) (by show (arrV _ _ _).slots[_]? = _; rw [arrV_read _ _ hlt]) rfl rfl hd ?_
    rw [i2, i3, va_rf_mtr]
    exact hnx _ _ _ _ _ _ _ (.inl ⟨rfl, rfl⟩) h ad H locs rl h0 hR hl (mok_cons (mok_P hR.2.2.2 a0 a1) (mok_tl (mok_tl hst)))
  case iastore =>
    have e : len = 1 := len_of hlen (by decide)
    subst e
    obtain ⟨x, r, rfl, h⟩ := pI_iff.mp h
    obtain ⟨i, r, rfl, h⟩ := pI_iff.mp h
    obtain ⟨a, r, rfl, hg, g1, g2, h⟩ := pR_iff.mp h
    obtain ⟨i1, i2, i3⟩ := I_in (G_small a) g1 g2
    intro ad H locs rl h0 hR hl hst
    obtain ⟨a0, a1⟩ := mok_pos (mok_hd (mok_tl (mok_tl hst))) hg (by decide)
    have he := mcells_at (dA := dA) (ad := ad) a0 a1
    rw [cE_arr hg (by decide), mar_int (.inl rfl)] at he
    refine va_iast hx hb hK hR.1 hR.2.1 hR.2.2.1 _ 0 he (TY_at (t := 10) (by decide) (by decide)) i1 hd (fun H1 locs1 P1 D1 S1 => ?_)
    refine hnx _ _ _ _ _ _ _ (.inl ⟨rfl, rfl⟩) h ad H1 locs1 rl h0 (HR.set (σ' := mputI σ a i x) hR a0 a1 rfl (mwf_putI hR.2.2.2) ?_ (fun b hb _ _ => cE_putI hb) P1 D1 S1) hl (mok_tl (mok_tl (mok_tl hst)))
    rw [cE_arr hg (by decide), mar_int (.inl rfl), i2]
    exact congrArg (fun f => (Sum.inl (dA 10, (G a).2, .inl f) : va_E)) (funext fun q => upI_ar i3)
  case lastore =>
    have e : len = 1 := len_of hlen (by decide)
    subst e
    obtain ⟨x, r, rfl, h⟩ := pL_iff.mp h
    obtain ⟨i, r, rfl, h⟩ := pI_iff.mp h
    obtain ⟨a, r, rfl, hg, g1, g2, h⟩ := pR_iff.mp h
    obtain ⟨i1, i2, i3⟩ := I_in (G_small a) g1 g2
    intro ad H locs rl h0 hR hl hst
    obtain ⟨a0, a1⟩ := mok_pos (mok_hd (mok_tl (mok_tl hst))) hg (by decide)
    have he := mcells_at (dA := dA) (ad := ad) a0 a1
    rw [cE_arr hg (by decide), mar_long] at he
    refine va_last hx hb hK hR.1 hR.2.1 hR.2.2.1 _ 1 he (TY_at (t := 11) (by decide) (by decide)) i1 hd (fun H1 locs1 P1 D1 S1 => ?_)
    refine hnx _ _ _ _ _ _ _ (.inl ⟨rfl, rfl⟩) h ad H1 locs1 rl h0 (HR.set (σ' := mputL σ a i x) hR a0 a1 rfl (mwf_putL hR.2.2.2) ?_ (fun b hb _ _ => cE_putL hb) P1 D1 S1) hl (mok_tl (mok_tl (mok_tl hst)))
    rw [cE_arr hg (by decide), mar_long, i2]
    exact congrArg (fun f => (Sum.inl (dA 11, (G a).2, .inr (.inl f)) : va_E)) (funext fun q => upL_ar i3)
  case bastore =>
    have e : len = 1 := len_of hlen (by decide)
    subst e
    obtain ⟨x, r, rfl, h⟩ := pI_iff.mp h
    obtain ⟨i, r, rfl, h⟩ := pI_iff.mp h
    obtain ⟨a, r, rfl, hg, g1, g2, h⟩ := pR_iff.mp h
    rcases hg with ⟨hg, v1, v2⟩ | ⟨hg, v1⟩
    · have hnar : vp_nar .byte (Int32.ofInt x) = Int32.ofInt x := by rw [vp_nar_byte, I_byte v1 v2]
      obtain ⟨i1, i2, i3⟩ := I_in (G_small a) g1 g2
      intro ad H locs rl h0 hR hl hst
      obtain ⟨a0, a1⟩ := mok_pos (mok_hd (mok_tl (mok_tl hst))) hg (by decide)
      have he := mcells_at (dA := dA) (ad := ad) a0 a1
      rw [cE_arr hg (by decide), mar_int (.inr (.inl rfl))] at he
      refine va_bast hx hb hK hR.1 hR.2.1 hR.2.2.1 _ 2 he (TY_at (t := 12) (by decide) (by decide)) i1 hd (fun H1 locs1 P1 D1 S1 => ?_)
      refine hnx _ _ _ _ _ _ _ (.inl ⟨rfl, rfl⟩) h ad H1 locs1 rl h0 (HR.set (σ' := mputI σ a i x) hR a0 a1 rfl (mwf_putI hR.2.2.2) ?_ (fun b hb _ _ => cE_putI hb) P1 D1 S1) hl (mok_tl (mok_tl (mok_tl hst)))
      rw [cE_arr hg (by decide), mar_int (.inr (.inl rfl)), i2]
      exact congrArg (fun f => (Sum.inl (dA 12, (G a).2, .inl f) : va_E)) (funext fun q => by rw [hnar]; exact upI_ar i3)
    · have hnar : vp_nar .boolean (Int32.ofInt x) = Int32.ofInt x := by rcases v1 with rfl | rfl <;> rfl
      obtain ⟨i1, i2, i3⟩ := I_in (G_small a) g1 g2
      intro ad H locs rl h0 hR hl hst
      obtain ⟨a0, a1⟩ := mok_pos (mok_hd (mok_tl (mok_tl hst))) hg (by decide)
      have he := mcells_at (dA := dA) (ad := ad) a0 a1
      rw [cE_arr hg (by decide), mar_int (.inr (.inr rfl))] at he
      refine va_zast hx hb hK hR.1 hR.2.1 hR.2.2.1 _ 3 he (TY_at (t := 13) (by decide) (by decide)) i1 hd (fun H1 locs1 P1 D1 S1 => ?_)
      refine hnx _ _ _ _ _ _ _ (.inl ⟨rfl, rfl⟩) h ad H1 locs1 rl h0 (HR.set (σ' := mputI σ a i x) hR a0 a1 rfl (mwf_putI hR.2.2.2) ?_ (fun b hb _ _ => cE_putI hb) P1 D1 S1) hl (mok_tl (mok_tl (mok_tl hst)))
      rw [cE_arr hg (by decide), mar_int (.inr (.inr rfl)), i2]
      exact congrArg (fun f => (Sum.inl (dA 13, (G a).2, .inl f) : va_E)) (funext fun q => by rw [hnar]; exact upI_ar i3)
  case aastore =>
    have e : len = 1 := len_of hlen (by decide)
    subst e
    obtain ⟨x, r, rfl, h⟩ := pR_iff.mp h
    obtain ⟨i, r, rfl, h⟩ := pI_iff.mp h
    obtain ⟨a, r, rfl, hg, g1, g2, h⟩ := pR_iff.mp h
    obtain ⟨t, ci, ht, hg, hgx⟩ : ∃ t ci, (t = 14 ∧ ci = 3 ∨ t = 15 ∧ ci = 2) ∧ (G a).1 = t ∧ (G x).1 = ci := by rcases hg with ⟨q1, q2⟩ | ⟨q1, q2⟩; exact ⟨14, 3, .inl ⟨rfl, rfl⟩, q1, q2⟩; exact ⟨15, 2, .inr ⟨rfl, rfl⟩, q1, q2⟩
    obtain ⟨i1, i2, i3⟩ := I_in (G_small a) g1 g2
    intro ad H locs rl h0 hR hl hst
    obtain ⟨a0, a1⟩ := mok_pos (mok_hd (mok_tl (mok_tl hst))) hg (by omega)
    obtain ⟨x0, x1⟩ := mok_pos (mok_hd hst) hgx (by omega)
    have he := mcells_at (dA := dA) (ad := ad) a0 a1
    rw [cE_arr hg (by omega), mar_ref (by omega)] at he
    have hxe := mcells_at (dA := dA) (ad := ad) x0 x1
    rw [cE_obj hgx (by omega)] at hxe
    refine va_astq hx hb hK hR.1 hR.2.1 hR.2.2.1 _ _ _ ci he (by rw [TY_at (t := t) (by omega) (by omega)]; rcases ht with ⟨rfl, rfl⟩ | ⟨rfl, rfl⟩ <;> rfl) hxe (cl_at (by omega)) i1 hd (fun H1 locs1 P1 D1 S1 => ?_)
    refine hnx _ _ _ _ _ _ _ (.inl ⟨rfl, rfl⟩) h ad H1 locs1 rl h0 (HR.set (σ' := mputP σ a i (some x)) hR a0 a1 rfl (mwf_putP hR.2.2.2 (fun b hb => by cases hb; exact ⟨x0, x1⟩)) ?_ (fun b hb _ _ => cE_putP hb) P1 D1 S1) hl (mok_tl (mok_tl (mok_tl hst)))
    rw [cE_arr hg (by omega), mar_ref (by omega), i2]
    exact congrArg (fun f => (Sum.inl (dA t, (G a).2, .inr (.inr (.inr (.inr f)))) : va_E)) (funext fun q => upP_ar i3)
  case arraylength =>
    have e : len = 1 := len_of hlen (by decide)
    subst e
    obtain ⟨a, r, rfl, h⟩ := pR_iff.mp h
    change (if (G a).1 = 17 then _ else _) at h
    by_cases hg : (G a).1 = 17
    · rw [if_pos hg] at h
      obtain ⟨L, xs, hS, hz⟩ := oS_iff.mp h
      intro ad H locs rl h0 hR hl hst
      obtain ⟨xr, x1, x2, x3, x5, x4⟩ := hscr L xs hS
      have ha : a = 0 := G_17 (mok_hd hst) hg
      subst ha
      refine va_slen (b := ad 0) hx hb (by rw [h0.2.1]; exact x1) (by rw [h0.2.1]; exact x2) (by rw [h0.2.1]; exact x3) hR.2.2.1 hd ?_
      rw [← Int32.ofInt_eq_ofNat]
      exact hnx _ _ _ _ _ _ _ (.inl ⟨rfl, rfl⟩) hz ad H locs rl h0 hR hl (mok_cons trivial (mok_tl hst))
    · rw [if_neg hg] at h
      obtain ⟨g1, g2, h⟩ := h
      intro ad H locs rl h0 hR hl hst
      obtain ⟨a0, a1⟩ := mok_pos (mok_hd hst) rfl hg
      have he := mcells_at (dA := dA) (ad := ad) a0 a1
      rw [cE_arr rfl g1] at he
      refine va_alen hx hb hK hR.1 _ _ he (TY_at g1 g2) (v := Int32.ofInt ((G a).2 : Int)) Int32.ofInt_eq_ofNat.symm hd ?_
      exact hnx _ _ _ _ _ _ _ (.inl ⟨rfl, rfl⟩) h ad H locs rl h0 hR hl (mok_cons trivial (mok_tl hst))
  case new x =>
    have e : len = 3 := len_of hlen (by decide)
    subst e
    change oN U x _ _ at h; unfold oN at h
    cases hu : U x with
    | none => rw [hu] at h; exact hKK _ h
    | some ci =>
      rw [hu] at h
      obtain ⟨c1, c2, c3, c4, h⟩ := h
      intro ad H locs rl h0 hR hl hst
      obtain ⟨u1, u2, u3⟩ := (hU x ci hu).1 c1
      refine va_new (ci := ci) (fs := (List.range (nfs ci)).map (fun (i : Nat) => defaultValue (fty ci i))) hx hb hts (ws_fld c1) (fty ci) (fty_ok c1) hown (hts _ u1) (hts _ u2) (hts _ u3) hK hR.1 hR.2.1 hR.2.2.1 hA (cl_at c1) (fun j hj => by unfold vp_V; rw [List.getD_eq_getElem?_getD, List.getElem?_map, List.getElem?_range hj]; rfl) c3 c4 hd (fun q H1 P1 D1 S1 => ?_)
      obtain ⟨ad', d0, d1, d2, hR'⟩ := HR.push hR (q := q) (fun ad' => by rw [cE_obj c2 c1]; exact congrArg (fun z => (Sum.inr (ci, z) : va_E)) (List.map_congr_left (fun i hi => msl_new (fty_all c1 (List.mem_range.mp hi))))) P1 D1 S1
      have hq := hnx _ _ _ _ _ _ _ (.inl ⟨rfl, rfl⟩) h ad' H1 locs rl (h0.moved (Nat.le_succ _) d0 d1) hR' (hl.moved (Nat.le_succ _) d0 d1) (mok_cons (mok_new hR.2.2.2) (fun v hv => mok_le (Nat.le_succ _) (hst v hv)))
      rw [← d2]
      have hm := mapr_moved d0 d1 hst
      change W p l e R s m args below meth c H1 locs (k + 1) (j + nfs ci) Q (F0 m (pc + 3) rl (.ref (ad' σ.1) :: st.map (mtr ad')) ) at hq
      rw [hm] at hq
      exact hq
  case newarray t =>
    have e : len = 2 := len_of hlen (by decide)
    subst e
    obtain ⟨n, r, rfl, n1, n2, ht, hg, c3, c4, h⟩ := pI_iff.mp h
    intro ad H locs rl h0 hR hl hst
    have hr : RI n := by unfold RI; omega
    obtain ⟨t1, t2, t3, t4, t5⟩ := atk_ok ht
    refine va_newa (ty := aty (atk t)) (N' := n.toNat) (a0 := (n.toNat, mar ad (mnew σ) σ.1 (atk t))) hx hb (hts _ t5) t3 hK hR.1 hR.2.1 hR.2.2.1 hA (fun cA => mar_new t4 rfl) (fun q => by have := (I_lt hr RI_0).mp q; omega) (I_clamp hr) (by rcases t4 with q | q | q | q <;> rw [q] <;> (show n.toNat * _ ≤ _) <;> simp only [componentBytes, aty] <;> omega) c3 c4 hd (fun q cA H1 hK' P1 D1 S1 => ?_)
    have hcA := TY_new hK hK' t1 t2 rfl
    subst hcA
    obtain ⟨ad', d0, d1, d2, hR'⟩ := HR.push hR (q := q) (x := .inl (dA (atk t), n.toNat, mar ad (mnew σ) σ.1 (atk t))) (fun ad' => by rw [cE_arr (congrArg Prod.fst hg) t1, congrArg Prod.snd hg, mar_newE]) P1 D1 S1
    have hq := hnx _ _ _ _ _ _ _ (.inl ⟨rfl, rfl⟩) h ad' H1 locs rl (h0.moved (Nat.le_succ _) d0 d1) hR' (hl.moved (Nat.le_succ _) d0 d1) (mok_cons (mok_new hR.2.2.2) (fun v hv => mok_le (Nat.le_succ _) (mok_tl hst v hv)))
    rw [← d2]
    have hm := mapr_moved d0 d1 (mok_tl hst)
    change W p l e R s m args below meth c H1 locs (k + 1) (j + n.toNat) Q (F0 m (pc + 2) rl (.ref (ad' σ.1) :: r.map (mtr ad')) ) at hq
    rw [hm] at hq
    exact hq
  case anewarray x =>
    have e : len = 3 := len_of hlen (by decide)
    subst e
    change oN U (x + 100000) _ _ at h; unfold oN at h
    cases hu : U (x + 100000) with
    | none => rw [hu] at h; exact h.elim
    | some t =>
      rw [hu] at h
      obtain ⟨n, r, rfl, n1, n2, ht, hg, c3, c4, h⟩ := pI_iff.mp h
      intro ad H locs rl h0 hR hl hst
      have hr : RI n := by unfold RI; omega
      obtain ⟨C, hC, u1, u2⟩ : ∃ C, aty t = .object C ∧ Cond.classLink own x C ∈ WS ∧ va_AO C s := by
        rcases ht with rfl | rfl
        · exact ⟨RX3, rfl, (by have := (hU _ 14 hu).2.1 rfl; rwa [Nat.add_sub_cancel] at this), hao.1⟩
        · exact ⟨RX2, rfl, (by have := (hU _ 15 hu).2.2.1 rfl; rwa [Nat.add_sub_cancel] at this), hao.2.1⟩
      refine va_newq (N' := n.toNat) hx hb hown (hts _ u1) u2 hK hR.1 hR.2.1 hR.2.2.1 hA (fun q => by have := (I_lt hr RI_0).mp q; omega) (I_clamp hr) (by omega) c3 c4 hd (fun q cA H1 hK' P1 D1 S1 => ?_)
      have hcA := TY_new hK hK' (t := t) (by omega) (by omega) hC
      subst hcA
      obtain ⟨ad', d0, d1, d2, hR'⟩ := HR.push hR (q := q) (fun ad' => by rw [cE_arr (congrArg Prod.fst hg) (by show 10 ≤ t; omega), congrArg Prod.snd hg, mar_ref (by show t = 14 ∨ t = 15 ∨ t = 16; omega), mnew_P]) P1 D1 S1
      have hq := hnx _ _ _ _ _ _ _ (.inl ⟨rfl, rfl⟩) h ad' H1 locs rl (h0.moved (Nat.le_succ _) d0 d1) hR' (hl.moved (Nat.le_succ _) d0 d1) (mok_cons (mok_new hR.2.2.2) (fun v hv => mok_le (Nat.le_succ _) (mok_tl hst v hv)))
      rw [← d2]
      have hm := mapr_moved d0 d1 (mok_tl hst)
      change W p l e R s m args below meth c H1 locs (k + 1) (j + n.toNat) Q (F0 m (pc + 3) rl (.ref (ad' σ.1) :: r.map (mtr ad')) ) at hq
      rw [hm] at hq
      exact hq
  case multianewarray x d =>
    have e : len = 4 := len_of hlen (by decide)
    subst e
    have hdd := of_decide_eq_true hT
    subst hdd
    change oN U x _ _ at h; unfold oN at h
    cases hu : U x with
    | none => rw [hu] at h; exact h.elim
    | some t =>
      rw [hu] at h
      exact stp_multi ⟨hx, hb, hml, hown, hts, hK, hA, hini, hao, hscr⟩ ((hU x t hu).2.2.2) hd h (fun ls' st' σ' k' j' => hnx _ _ _ _ _ _ _ (.inl ⟨rfl, rfl⟩))
  case invokevirtual x =>
    have e : len = 3 := len_of hlen (by decide)
    subst e
    obtain ⟨n, rk, mc', ms', sp, hy, hrk, h⟩ := oC_iff.mp h
    obtain ⟨As, r, h1, rfl, h2, h3, h4, h5, h6⟩ := pA_iff h
    rw [List.append_nil] at h2 h6
    have hiv : ivk rk x = .invokevirtual x := by unfold ivk; rw [if_pos hrk]
    exact hY x (n, rk, mc', ms', sp) hy ⟨hx, hb, hml, hown, hts, hK, hA, hini, hao, hscr⟩ pc (by show decode bytes pc = .ok (ivk rk x, 3); rw [hiv]; exact hd) ls As r σ k j _ h1 h2 h3 h4 h5 h6 (fun v σ' hq => hnx _ _ _ _ _ _ _ (.inl ⟨rfl, rfl⟩) hq)
  case invokespecial x =>
    have e : len = 3 := len_of hlen (by decide)
    subst e
    obtain ⟨n, rk, mc', ms', sp, hy, hrk, h⟩ := oC_iff.mp h
    obtain ⟨As, r, h1, rfl, h2, h3, h4, h5, h6⟩ := pA_iff h
    rw [List.append_nil] at h2 h6
    have hiv : ivk rk x = .invokespecial x := by unfold ivk; rw [if_neg (by omega), if_neg (by omega)]
    exact hY x (n, rk, mc', ms', sp) hy ⟨hx, hb, hml, hown, hts, hK, hA, hini, hao, hscr⟩ pc (by show decode bytes pc = .ok (ivk rk x, 3); rw [hiv]; exact hd) ls As r σ k j _ h1 h2 h3 h4 h5 h6 (fun v σ' hq => hnx _ _ _ _ _ _ _ (.inl ⟨rfl, rfl⟩) hq)
  case invokestatic x =>
    have e : len = 3 := len_of hlen (by decide)
    subst e
    obtain ⟨n, rk, mc', ms', sp, hy, hrk, h⟩ := oC_iff.mp h
    obtain ⟨As, r, h1, rfl, h2, h3, h4, h5, h6⟩ := pA_iff h
    rw [List.append_nil] at h2 h6
    have hiv : ivk rk x = .invokestatic x := by unfold ivk; rw [if_neg (by omega), if_pos hrk]
    exact hY x (n, rk, mc', ms', sp) hy ⟨hx, hb, hml, hown, hts, hK, hA, hini, hao, hscr⟩ pc (by show decode bytes pc = .ok (ivk rk x, 3); rw [hiv]; exact hd) ls As r σ k j _ h1 h2 h3 h4 h5 h6 (fun v σ' hq => hnx _ _ _ _ _ _ _ (.inl ⟨rfl, rfl⟩) hq)
  case ireturn =>
    have e : len = 1 := len_of hlen (by decide)
    subst e
    rcases st with _ | ⟨v | v | v, _ | ⟨w, r⟩⟩ <;> first | exact False.elim h | (obtain ⟨h1, h2, h⟩ := h; exact hret _ _ _ _ _ _ _ _ hd (Or.inl ⟨rfl, v, rfl, rfl⟩) h1 h2 h)
  case lreturn =>
    have e : len = 1 := len_of hlen (by decide)
    subst e
    rcases st with _ | ⟨v | v | v, _ | ⟨w, r⟩⟩ <;> first | exact False.elim h | (obtain ⟨h1, h2, h⟩ := h; exact hret _ _ _ _ _ _ _ _ hd (Or.inr (Or.inl ⟨rfl, v, rfl, rfl⟩)) h1 h2 h)
  case areturn =>
    have e : len = 1 := len_of hlen (by decide)
    subst e
    rcases st with _ | ⟨v | v | v, _ | ⟨w, r⟩⟩ <;> first | exact False.elim h | (obtain ⟨h1, h2, h⟩ := h; exact hret _ _ _ _ _ _ _ _ hd (Or.inr (Or.inr (Or.inl ⟨rfl, v, rfl, rfl⟩))) h1 h2 h)
  case return_ =>
    have e : len = 1 := len_of hlen (by decide)
    subst e
    rcases st with _ | ⟨v, r⟩ <;> first | exact False.elim h | (obtain ⟨h1, h2, h⟩ := h; exact hret _ _ _ _ _ _ _ _ hd (Or.inr (Or.inr (Or.inr ⟨rfl, rfl, rfl⟩))) h1 h2 h)
  all_goals exact False.elim h
end SN
end
section
/-! THE SMALL MACHINE, 8: blocks; a method's contract; its calls -/
section SO
variable {p : Program} {l : Launch} {e : Env} {R : Room} {s : State} {m : MethodId} {args : Array Value} {below : List Frame} {meth : Method} {c : Code} {Q : State → Prop} {D : va_G} {dA : Nat → ClassId} {A : Nat → Prop} {H0 : Heap} {b0 : (Int → Nat) × Nat} {nL : Nat}
theorem chk_cons {bytes : ByteArray} {pc len : Nat} {i : Instr} {ts : List Nat} {b : List ME} (h : chk bytes pc ((i, len, ts) :: b) = true) : decode bytes pc = .ok (i, len) ∧ (len = ilen i ∨ ilen i = 0) ∧ chkT pc i len ts = true ∧ chk bytes (pc + len) b = true := by
  unfold chk at h
  rw [Bool.and_eq_true, Bool.and_eq_true, Bool.and_eq_true, Bool.or_eq_true, decide_eq_true_eq, decide_eq_true_eq, decide_eq_true_eq] at h
  exact ⟨h.1.1.1, h.1.1.2, h.1.2, h.2⟩
def RetOK (bytes : ByteArray) (post : Option MV → MS → Prop) (p : Program) (l : Launch) (e : Env) (R : Room) (s : State) (m : MethodId) (args : Array Value) (below : List Frame) (meth : Method) (c : Code) (Q : State → Prop) (D : va_G) (dA : Nat → ClassId) (A : Nat → Prop) (H0 : Heap) (b0 : (Int → Nat) × Nat) (nL : Nat) : Prop :=
  ∀ pc ls st σ k j i r, decode bytes pc = .ok (i, 1) → retI i st r → k ≤ R.cells → j ≤ R.slots → post r σ → Rw p l e R s m args below meth c Q D dA A H0 b0 nL (pc, ls, st, σ, k, j)
theorem wp_ok {own : String} {bytes : ByteArray} {ini : Bool} {S : Option (Nat × (Int → Int))} {B : Nat → List ME} {cuts : List Nat} {F : Nat → Option (Nat × Nat × Nat × Nat)} {Y : Nat → Option CI} {Z : Nat → Option (Int ⊕ Int)} {U : Nat → Option Nat} {post : Option MV → MS → Prop} {K : Pt → Prop}
    (hsf : SF own bytes ini S p s m args meth c D dA A H0 b0 nL) (hF : FOK own F) (hZ : ZOK own Z) (hU : UOK own U) (hY : ∀ x ci, Y x = some ci → CalOK own R x ci) (hB : ∀ pc, chk bytes pc (B pc) = true)
    (hret : RetOK bytes post p l e R s m args below meth c Q D dA A H0 b0 nL) (hKK : ∀ pt, K pt → Rw p l e R s m args below meth c Q D dA A H0 b0 nL pt) :
    ∀ (n : Nat) (b : List ME) (pc : Nat) (ls : List (Option MV)) (st : List MV) (σ : MS) (k j : Nat), chk bytes pc b = true → wp B cuts F Y Z U S ini R.cells R.slots post K n b pc ls st σ k j → Rw p l e R s m args below meth c Q D dA A H0 b0 nL (pc, ls, st, σ, k, j)
  | 0, _, _, _, _, _, _, _, _, h => by
    rw [wp_0] at h
    exact h.elim
  | n + 1, [], pc, ls, st, σ, k, j, _, h => by
    rw [wp_nil] at h
    split at h
    · exact hKK _ h
    · exact wp_ok hsf hF hZ hU hY hB hret hKK n _ _ _ _ _ _ _ (hB pc) h
  | n + 1, (i, len, ts) :: b, pc, ls, st, σ, k, j, hc, h => by
    obtain ⟨h1, h2, h3, h4⟩ := chk_cons hc
    rw [wp_cons] at h
    refine stp_ok hsf hF hZ hU hY hret hKK h1 h2 h3 (fun b' pc' ls' st' σ' k' j' hb hn => ?_) h
    rcases hb with ⟨rfl, rfl⟩ | rfl
    · exact wp_ok hsf hF hZ hU hY hB hret hKK n _ _ _ _ _ _ _ h4 hn
    · exact wp_ok hsf hF hZ hU hY hB hret hKK n _ _ _ _ _ _ _ rfl hn
/-- from here the method goes on to an end with 'post' (or to a throw at a point of T) -/
def Ok (own : String) (bytes : ByteArray) (nL : Nat) (R : Room) (ini : Bool) (S : Option (Nat × (Int → Int))) (post : Option MV → MS → Prop) (T : Pt → Prop) (pt : Pt) : Prop :=
  Nonempty (PLift (∀ {p : Program} {l : Launch} {e : Env} {s : State} {m : MethodId} {args : Array Value} {below : List Frame} {meth : Method} {c : Code} {Q : State → Prop} {D : va_G} {dA : Nat → ClassId} {A : Nat → Prop} {H0 : Heap} {b0 : (Int → Nat) × Nat},
    SF own bytes ini S p s m args meth c D dA A H0 b0 nL → RetOK bytes post p l e R s m args below meth c Q D dA A H0 b0 nL → (∀ pt, T pt → Rw p l e R s m args below meth c Q D dA A H0 b0 nL pt) → Rw p l e R s m args below meth c Q D dA A H0 b0 nL pt))
/-- what is fixed of a method -/
def MD (own : String) (bytes : ByteArray) (R : Room) (B : Nat → List ME) (F : Nat → Option (Nat × Nat × Nat × Nat)) (Y : Nat → Option CI) (Z : Nat → Option (Int ⊕ Int)) (U : Nat → Option Nat) : Prop :=
  FOK own F ∧ ZOK own Z ∧ UOK own U ∧ (∀ x ci, Y x = some ci → CalOK own R x ci) ∧ ∀ pc, chk bytes pc (B pc) = true
theorem Ok.seg {own : String} {bytes : ByteArray} {nL : Nat} {R : Room} {ini : Bool} {S : Option (Nat × (Int → Int))} {post : Option MV → MS → Prop} {T : Pt → Prop} {B : Nat → List ME} {F : Nat → Option (Nat × Nat × Nat × Nat)} {Y : Nat → Option CI} {Z : Nat → Option (Int ⊕ Int)} {U : Nat → Option Nat} (hM : MD own bytes R B F Y Z U)
    (cuts : List Nat) (n : Nat) {pc : Nat} {ls : List (Option MV)} {st : List MV} {σ : MS} {k j : Nat} (h : wp B cuts F Y Z U S ini R.cells R.slots post (Ok own bytes nL R ini S post T) n (B pc) pc ls st σ k j) : Ok own bytes nL R ini S post T (pc, ls, st, σ, k, j) :=
  ⟨⟨fun hsf hret hT => wp_ok hsf hM.1 hM.2.1 hM.2.2.1 hM.2.2.2.1 hM.2.2.2.2 hret (fun pt hk => hk.elim fun q => q.down hsf hret hT) n _ _ _ _ _ _ _ (hM.2.2.2.2 pc) h⟩⟩
theorem Ok.thr {own : String} {bytes : ByteArray} {nL : Nat} {R : Room} {ini : Bool} {S : Option (Nat × (Int → Int))} {post : Option MV → MS → Prop} {T : Pt → Prop} {pt : Pt} (h : T pt) : Ok own bytes nL R ini S post T pt := ⟨⟨fun _ _ hT => hT _ h⟩⟩
/-- the locals at a method's entry -/
def entA : List MV → List (Option MV)
  | [] => []
  | v :: vs => if mcat v = 2 then some v :: none :: entA vs else some v :: entA vs
def entL (n : Nat) (vs : List MV) : List (Option MV) := entA vs ++ List.replicate (n - (entA vs).length) none
theorem getL_iff (l : List (Option MV)) (i : Nat) (v : MV) : getL l i = some v ↔ l[i]? = some (some v) := by
  induction l generalizing i with
  | nil => cases i <;> simp [getL]
  | cons a l ih =>
    cases i with
    | zero => simp [getL]
    | succ n => simp only [getL]; rw [ih]; simp
theorem entA_at (ad : Int → Nat) : ∀ (vs : List MV), (entA vs).length = (lg_sl (vs.map (mtr ad))).length ∧ ∀ (i : Nat) (v : MV), (entA vs)[i]? = some (some v) → (lg_sl (vs.map (mtr ad)))[i]? = some (.val (mtr ad v)) ∧ v ∈ vs
  | [] => ⟨rfl, fun i v h => by simp [entA] at h⟩
  | w :: vs => by
    obtain ⟨h1, h2⟩ := entA_at ad vs
    have e : lg_sl ((w :: vs).map (mtr ad)) = (if (mtr ad w).category = 2 then [.val (mtr ad w), .second] else [.val (mtr ad w)]) ++ lg_sl (vs.map (mtr ad)) := rfl
    rw [e, mcat_mtr]
    unfold entA
    by_cases hc : mcat w = 2
    · rw [if_pos hc, if_pos hc]
      refine ⟨by simp [h1], fun i v h => ?_⟩
      match i, h with
      | 0, h => cases h; exact ⟨rfl, List.mem_cons_self⟩
      | 1, h => cases h
      | i + 2, h => exact ⟨(h2 i v h).1, List.mem_cons_of_mem _ (h2 i v h).2⟩
    · rw [if_neg hc, if_neg hc]
      refine ⟨by simp [h1], fun i v h => ?_⟩
      match i, h with
      | 0, h => cases h; exact ⟨rfl, List.mem_cons_self⟩
      | i + 1, h => exact ⟨(h2 i v h).1, List.mem_cons_of_mem _ (h2 i v h).2⟩
theorem LR_entry {ad : Int → Nat} {N n : Nat} {vs : List MV} (hv : ∀ v ∈ vs, mok N v) (h : (entA vs).length ≤ n) : LR ad N n (entL n vs) ((lg_sl (vs.map (mtr ad)) ++ List.replicate (n - (lg_sl (vs.map (mtr ad))).length) Slot.unset).toArray) := by
  obtain ⟨h1, h2⟩ := entA_at ad vs
  obtain ⟨q1, q2, -⟩ := lv_entry (vs.map (mtr ad)) (n := n) (by rw [← h1]; exact h)
  refine ⟨q1, q2, by unfold entL; rw [List.length_append, List.length_replicate]; omega, fun i v hi => ?_⟩
  rw [getL_iff] at hi
  unfold entL at hi
  by_cases hl : i < (entA vs).length
  · rw [List.getElem?_append_left hl] at hi
    obtain ⟨a, b⟩ := h2 i v hi
    refine ⟨?_, hv v b⟩
    rw [List.getElem?_toArray, List.getElem?_append_left (by rw [← h1]; exact hl)]
    exact a
  · rw [List.getElem?_append_right (by omega)] at hi
    have := List.getElem?_eq_some_iff.mp hi
    obtain ⟨a, b⟩ := this
    rw [List.getElem_replicate] at b
    cases b
def rfit (ret : Option FieldType) (r : Option MV) : Prop := match ret, r with
  | none, none => True
  | some .int, some (.inl _) => True
  | some .boolean, some (.inl v) => v = 0 ∨ v = 1
  | some .long, some (.inr (.inl _)) => True
  | some (.object _), some (.inr (.inr _)) => True
  | _, _ => False
def mPc (D : va_G) (dA : Nat → ClassId) (ad : Int → Nat) (σ : MS) (As : List MV) (sz : Nat) : Array Value → State → Prop :=
  va_Pc (As.map (mtr ad)) (fun U => U.heap.size = sz ∧ va_P D vwCl (mcells dA ad σ) U.heap ∧ va_K D vwCl (TY dA) U ∧ va_D (fun _ => True) (mcells dA ad σ) ∧ AOs U)
def mQc (D : va_G) (dA : Nat → ClassId) (ad : Int → Nat) (σ : MS) (sz : Nat) (K : Option MV → MS → Prop) : Array Value → State → Outcome → State → Prop := fun _ st oc t =>
  (∃ (r : Option MV) (σ' : MS) (ad' : Int → Nat), K r σ' ∧ mwf σ' ∧ σ.1 ≤ σ'.1 ∧ ad' 0 = ad 0 ∧ (∀ a : Int, 0 < a → a < σ.1 → ad' a = ad a) ∧ (∀ v, r = some v → mok σ'.1 v) ∧ oc = .returned (r.map (mtr ad')) ∧
    va_P D vwCl (mcells dA ad' σ') t.heap ∧ va_K D vwCl (TY dA) t ∧ va_D (va_A (mcells dA ad σ) sz) (mcells dA ad' σ')) ∧ va_F (va_A (mcells dA ad σ) sz) st t
def MOK (y : MethodName) (bytes : ByteArray) (maxL : Nat) (ret : Option FieldType) (rm : Room) (ci : CI) : Prop :=
  ∀ (l : Launch) (D : va_G) (dA : Nat → ClassId) (ad : Int → Nat) (σ : MS) (As : List MV) (K : Option MV → MS → Prop) (sz : Nat), mwf σ → (∀ v ∈ As, mok σ.1 v) → rcv ci.2.1 As → As.length = ci.1 → ci.2.2.2.2 As σ K →
    Met l y (.code y bytes maxL ret :: WS) rm (mPc D dA ad σ As sz) (mQc D dA ad σ sz K) ci.2.2.1 ci.2.2.2.1 (va_A (mcells dA ad σ) sz)
theorem mPc_blind (D : va_G) (dA : Nat → ClassId) (ad : Int → Nat) (σ : MS) (As : List MV) (sz : Nat) : FrameBlind (mPc D dA ad σ As sz) := fun a U g mk q => by
  obtain ⟨q1, q2, q3, q4, q5, q6⟩ := q
  exact ⟨q1, q2, q3, va_K.moved (u := U) (U := U.calling g mk a) (Vm.Alike.refl U.vm) q4, q5, AOs.moved (u := U) (U := U.calling g mk a) (Vm.Alike.refl U.vm) q6⟩
theorem mPc_at {ad : Int → Nat} {σ : MS} {As : List MV} {H : Heap} {locs : List Loc} (hR : HR D dA A H0 ad σ H locs) (hK : va_K D vwCl (TY dA) s) (hao : AOs s) : ∀ U : State, U.heap = H → s.WarmedH U.vm → mPc D dA ad σ As H.size (As.map (mtr ad)).toArray U :=
  fun U hU hW => ⟨rfl, by rw [hU], by rw [hU]; exact hR.1, va_K.moved hW.alike hK, hR.2.1.weaken (fun _ _ _ _ => trivial), hao.moved hW.alike⟩
theorem mcs_cat (ad : Int → Nat) : ∀ (l : List MV), ((l.map (mtr ad)).map fun v => v.category).sum = mcs l
  | [] => rfl
  | v :: l => by
    have := mcs_cat ad l
    simp only [List.map_cons, List.sum_cons, mcs, mcat_mtr] at this ⊢
    rw [this]
set_option maxHeartbeats 1000000 in
/-- behind a call -/
theorem call_go {ad : Int → Nat} {σ : MS} {H : Heap} {locs : List Loc} {rl : Array Slot} {pc k j mc ms : Nat} {ls : List (Option MV)} {st0 : List Value} {rest : List MV} {a : Array Value} {K : Option MV → MS → Prop}
    (hr : va_Run p l e R s m args below meth c H locs k j mc ms (F0 m pc rl st0) (rest.map (mtr ad)) (mQc D dA ad σ H.size K a) (va_A (mcells dA ad σ) H.size)) (hA : ∀ q, H0.size ≤ q → A q)
    (hext : EXT b0.1 b0.2 ad σ.1) (hR : HR D dA A H0 ad σ H locs) (hl : LR ad σ.1 nL ls rl) (hst : ∀ v ∈ rest, mok σ.1 v)
    (hk : ∀ r σ', K r σ' → Rw p l e R s m args below meth c Q D dA A H0 b0 nL (pc + 3, ls, rpl r rest, σ', k + mc, j + ms)) : W p l e R s m args below meth c H locs k j Q (F0 m pc rl st0) := by
  intro T hT X
  obtain ⟨v, st₀, t, T', L, h0, X', hL, e1, e2, ⟨⟨r, σ', ad', hKr, hwf', hN, h0', hag, hmr, hv, hP', hK', hD'⟩, hz, hk2⟩, st⟩ := hr T hT X
  have hF : ∀ q, va_A (mcells dA ad σ) H.size q → A q := fun q h => by
    rcases h with ⟨n, x, h⟩ | h
    · exact hR.2.1.2 n (q, x) h
    · exact hA q (Nat.le_trans hR.2.2.1.1 h)
  have hv2 : v = r.map (mtr ad') := by cases hv; rfl
  subst hv2
  rw [h0] at hz hk2
  have hR' : HR D dA A H0 ad' σ' T'.heap (locs ++ L) := by
    refine ⟨by rw [e1]; exact hP', hD'.weaken (fun _ _ _ h => hF _ h), ⟨Nat.le_trans hR.2.2.1.1 (by rw [e1]; exact hz), fun q h1 h2 => ?_, fun q hq => ?_⟩, hwf'⟩
    · rw [e1, hk2 q (Nat.lt_of_lt_of_le h1 hR.2.2.1.1) (fun z => h2 (hF q z))]
      exact hR.2.2.1.2.1 q h1 h2
    · rcases List.mem_append.mp hq with h | h
      · exact hR.2.2.1.2.2 q h
      · exact hF _ (hL q h)
  have hst' : ∀ v ∈ rpl r rest, mok σ'.1 v := by
    cases r with
    | none => exact fun v hv => mok_le hN (hst v hv)
    | some x => exact mok_cons (hmr x rfl) (fun v hv => mok_le hN (hst v hv))
  obtain ⟨t2, a1, b1⟩ := hk r σ' hKr ad' T'.heap (locs ++ L) rl (hext.moved hN h0' hag) hR' (hl.moved hN h0' hag) hst' T' rfl X'
  refine ⟨t2, st t2 ?_, b1⟩
  have em : (rpl r rest).map (mtr ad') = (r.map (mtr ad')).toList ++ rest.map (mtr ad) := by
    rw [← mapr_moved h0' hag hst]
    cases r <;> rfl
  change Steps p.tables e below (T'.setTop (F0 m (pc + 3) rl ((rpl r rest).map (mtr ad')))) t2 at a1
  rw [em] at a1
  exact a1
end SO
end
section
/-! THE SMALL MACHINE, 9: a contract out of a walk; a call out of a contract -/
set_option maxHeartbeats 1000000 in
theorem mok_of {y : MethodName} {bytes : ByteArray} {maxL : Nat} {ret : Option FieldType} {rm : Room} {ci : CI} {ini : Bool} (hy : plainName y.cls = true) (hini : ini = true → y.name = "<init>") (hc : rm.cells = ci.2.2.1) (hs : rm.slots = ci.2.2.2.1)
    (hok : ∀ (σ : MS) (As : List MV) (K : Option MV → MS → Prop), rcv ci.2.1 As → As.length = ci.1 → ci.2.2.2.2 As σ K → (entA As).length ≤ maxL ∧ Ok y.cls bytes maxL rm ini none (fun r σ' => rfit ret r ∧ K r σ') (fun _ => False) (0, entL maxL As, [], σ, 0, 0)) : MOK y bytes maxL ret rm ci := by
  intro l D dA ad σ As K sz hwf hmok hrcv hlen hsp
  refine Met.ofW (cc := bytes) (maxL := maxL) (ret := ret) hy rfl ?_
  intro p e s m args below meth c s₁ B hml hv
  obtain ⟨rfl, hsz, hP, hK, hD0, hao⟩ := hv
  have hx := B.exec
  have hb := B.bytes
  have hr := B.returns
  have hts0 := atoms_spec (ws := .code y bytes maxL ret :: WS) B.pre
  have hts : ∀ w ∈ WS, w.before (As.map (mtr ad)).toArray s = true := fun w hw => hts0 w (List.mem_cons_of_mem _ hw)
  have hown : s.vm.findClass y.cls = some m.cls := findClass_of_methodNamed B.named
  have hlocks := B.notSynchronized
  have hin : ini = true → meth.name = "<init>" := fun q => by rw [(name_of_methodNamed B.named B.method).1]; exact hini q
  subst hsz
  have hD := hD0.self (sz := s.heap.size)
  obtain ⟨hlenA, ⟨⟨hok⟩⟩⟩ := hok σ As K hrcv hlen hsp
  rw [lg_entry_eq]
  have hR : HR D dA (va_A (mcells dA ad σ) s.heap.size) s.heap ad σ s.heap [] := ⟨hP, hD, va_S.rf, hwf⟩
  refine hok (A := va_A (mcells dA ad σ) s.heap.size) (H0 := s.heap) (b0 := (ad, σ.1)) (D := D) (dA := dA) ⟨hx, hb, hml, hown, hts, hK, fun q h => Or.inr h, hin, hao, fun L xs h => by cases h⟩ ?_ (fun pt h => h.elim) ad s.heap [] _ ⟨Nat.le_refl _, rfl, fun _ _ _ => rfl⟩ hR (LR_entry hmok hlenA) (fun v h => by cases h)
  intro pc ls st σ' k j i r hd hri hk hj ⟨hfit, hKr⟩ ad' H locs rl hext hR' hl hst
  have hq : (∀ v, r = some v → mok σ'.1 v) → ∀ t : State, t.heap = H → s.WarmedH t.vm → mQc D dA ad σ s.heap.size K (As.map (mtr ad)).toArray s (.returned (r.map (mtr ad'))) t := fun hm t ht hW =>
    ⟨⟨r, σ', ad', hKr, hR'.2.2.2, hext.1, hext.2.1, hext.2.2, hm, rfl, by rw [ht]; exact hR'.1, va_K.moved hW.alike hK, hR'.2.1⟩, hR'.2.2.1.F ht⟩
  refine W.widen (k := ci.2.2.1) (n := ci.2.2.2.1) (by rw [← hc]; exact hk) (by rw [← hs]; exact hj) ?_
  have hf : ∀ q ∈ locs, va_A (mcells dA ad σ) s.heap.size q.base := fun q hq => hR'.2.2.1.2.2 q hq
  rcases hri with ⟨rfl, v, rfl, rfl⟩ | ⟨rfl, v, rfl, rfl⟩ | ⟨rfl, v, rfl, rfl⟩ | ⟨rfl, rfl, rfl⟩
  · have hq := hq (fun w hw => by cases hw; trivial)
    rcases ret with _ | t
    · exact hfit.elim
    · cases t <;> first | exact hfit.elim | exact W.iret (v := Int32.ofInt v) hx hb hr hq hf hd hlocks | exact W.zret (v := Int32.ofInt v) hx hb hr (by rcases hfit with rfl | rfl <;> rfl) hq hf hd hlocks
  · have hq := hq (fun w hw => by cases hw; trivial)
    rcases ret with _ | t
    · exact hfit.elim
    · cases t <;> first | exact hfit.elim | exact W.lret (v := Int64.ofInt v) hx hb hr hq hf hd hlocks
  · have hq := hq (fun w hw => by cases hw; exact hst _ List.mem_cons_self)
    rcases ret with _ | t
    · exact hfit.elim
    · cases t <;> first | exact hfit.elim | exact W.aret (v := mtr ad' (.inr (.inr v))) hx hb hr (Or.inl ⟨_, rfl⟩) (by cases v; exact Or.inl rfl; exact Or.inr ⟨_, rfl⟩) hq hf hd hlocks
  · have hq := hq (fun w hw => by cases hw)
    rcases ret with _ | t
    · exact W.vret hx hb hr hq hf hd hlocks
    · cases t <;> exact hfit.elim
/-- the words of a call -/
def vws (own : String) (x : Nat) (y : MethodName) (bytes : ByteArray) (maxL : Nat) (ret : Option FieldType) : List Cond := [.methodLink own x y, .instanceMethod y, .selects y.cls y y, .initialized y.cls, .code y bytes maxL ret]
def sws (own : String) (x : Nat) (y : MethodName) (bytes : ByteArray) (maxL : Nat) (ret : Option FieldType) : List Cond := [.methodLink own x y, .static y, .initialized y.cls, .code y bytes maxL ret]
def iws (own : String) (x : Nat) (y : MethodName) (bytes : ByteArray) (maxL : Nat) : List Cond := [.methodLink own x y, .instanceMethod y, .initialized y.cls, .code y bytes maxL none]
def nice (y : MethodName) (n : Nat) : Prop := y.cls ≠ "java/lang/invoke/MethodHandle" ∧ y.cls ≠ "java/lang/invoke/VarHandle" ∧ (parseMethodDescriptor y.desc).map (fun d => d.parameters.length) = some n
def rfits (rm R : Room) (maxL : Nat) : Prop := rm.frames + 1 ≤ R.frames ∧ 8 + (maxL + 11) + rm.locals ≤ R.locals
set_option maxHeartbeats 1000000 in
theorem cal_V {own : String} {x n : Nat} {y : MethodName} {bytes : ByteArray} {maxL : Nat} {ret : Option FieldType} {rm R : Room} {ci : CI} (hM : MOK y bytes maxL ret rm ci) (hk : ci.2.1 < 10) (hC : y.cls = RR ci.2.1) (hws : ∀ w ∈ vws own x y bytes maxL ret, w ∈ WS) (hn : ci.1 = n + 1) (hd : nice y n) (hR : rfits rm R maxL) (hrm : rm.cells = ci.2.2.1 ∧ rm.slots = ci.2.2.2.1) : CalOK own R x ci := by
  intro p l e s m args below meth c Q D dA A H0 b0 nL bytes0 ini S hsf pc hdec ls As rest σ k j K hlen hrcv hcs hmc hms hsp hkk ad H locs rl hext hR' hl hst
  obtain ⟨hx, hb, hml, hown, hts, hK, hA, hini, hao, hscr⟩ := hsf
  have hmA : ∀ v ∈ As, mok σ.1 v := fun v hv => hst v (List.mem_append_left _ (List.mem_reverse.mpr hv))
  have hmR : ∀ v ∈ rest, mok σ.1 v := fun v hv => hst v (List.mem_append_right _ hv)
  have hMet := hM l D dA ad σ As K H.size hR'.2.2.2 hmA hrcv hlen hsp
  have hrcv2 := hrcv
  unfold rcv at hrcv2
  rw [if_neg (by omega)] at hrcv2
  split at hrcv2
  · rename_i a As'
    obtain ⟨hg, a0⟩ := hrcv2
    obtain ⟨-, a1⟩ := mok_pos (hmA _ List.mem_cons_self) hg (by omega)
    have he := mcells_at (dA := dA) (ad := ad) a0 a1
    rw [cE_obj hg hk] at he
    have hG : GoodIn WS (wsV own x y.cls y (.code y bytes maxL ret :: WS)) := ws_good (fun w hw => by
      unfold wsV at hw
      rcases List.mem_append.mp hw with h | h
      · exact hws w (by unfold vws; simp only [List.mem_cons, List.not_mem_nil, or_false] at h ⊢; rcases h with h | h | h | h <;> simp [h])
      · rcases List.mem_cons.mp h with h | h
        · exact hws w (by unfold vws; simp [h])
        · exact h)
    have hrun := va_runV (p := p) (e := e) (R := R) (below := below) (meth := meth) (H := H) (locs := locs) (cells := k) (slots := j) (C := y.cls) (As := As'.map (mtr ad)) (rest := rest.map (mtr ad)) (g := F0 m pc rl ((.inr (.inr (some a)) :: As').reverse ++ rest |>.map (mtr ad))) ⟨hx, hb, hml, hown, hts⟩ hMet (cwV n hts hG rfl hrm.1 hrm.2 ⟨rfl, hd⟩ hR)
      ⟨mPc_blind _ _ _ _ _ _, by rw [hC]; exact va_recv hK hR'.1 (cl_at hk) he, mPc_at hR' hK hao⟩ rfl (by rw [List.length_map]; have : As'.length + 1 = ci.1 := hlen; omega) hl.1 (by simp [mtr]) (lv_room (by rw [mcs_cat]; exact hcs)) (by
        have hiv : ivk ci.2.1 x = .invokevirtual x := by unfold ivk; rw [if_pos hk]
        rw [hiv] at hdec; exact hdec) ⟨hmc, hms⟩
    exact call_go hrun hA hext hR' hl hmR hkk
  · exact hrcv2.elim
set_option maxHeartbeats 1000000 in
theorem cal_S {own : String} {x n : Nat} {y : MethodName} {bytes : ByteArray} {maxL : Nat} {ret : Option FieldType} {rm R : Room} {ci : CI} (hM : MOK y bytes maxL ret rm ci) (hk : ci.2.1 = 10) (hws : ∀ w ∈ sws own x y bytes maxL ret, w ∈ WS) (hn : ci.1 = n) (hd : nice y n) (hR : rfits rm R maxL) (hrm : rm.cells = ci.2.2.1 ∧ rm.slots = ci.2.2.2.1) : CalOK own R x ci := by
  intro p l e s m args below meth c Q D dA A H0 b0 nL bytes0 ini S hsf pc hdec ls As rest σ k j K hlen hrcv hcs hmc hms hsp hkk ad H locs rl hext hR' hl hst
  obtain ⟨hx, hb, hml, hown, hts, hK, hA, hini, hao, hscr⟩ := hsf
  have hmA : ∀ v ∈ As, mok σ.1 v := fun v hv => hst v (List.mem_append_left _ (List.mem_reverse.mpr hv))
  have hmR : ∀ v ∈ rest, mok σ.1 v := fun v hv => hst v (List.mem_append_right _ hv)
  have hMet := hM l D dA ad σ As K H.size hR'.2.2.2 hmA hrcv hlen hsp
  have hG : GoodIn WS (va_wsS own x y (.code y bytes maxL ret :: WS)) := ws_good (fun w hw => by
    unfold va_wsS at hw
    rcases List.mem_append.mp hw with h | h
    · exact hws w (by unfold sws; simp only [List.mem_cons, List.not_mem_nil, or_false] at h ⊢; rcases h with h | h | h <;> simp [h])
    · rcases List.mem_cons.mp h with h | h
      · exact hws w (by unfold sws; simp [h])
      · exact h)
  have hrun := va_runS (p := p) (e := e) (R := R) (below := below) (meth := meth) (H := H) (locs := locs) (cells := k) (slots := j) (As := As.map (mtr ad)) (rest := rest.map (mtr ad)) (g := F0 m pc rl ((As.reverse ++ rest).map (mtr ad))) ⟨hx, hb, hml, hown, hts⟩ hMet (va_cwS n hts hG rfl hrm.1 hrm.2 hd hR)
    ⟨mPc_blind _ _ _ _ _ _, mPc_at hR' hK hao⟩ rfl (by rw [List.length_map]; omega) hl.1 (by simp) (lv_room (by rw [mcs_cat]; exact hcs)) (by
      have hiv : ivk ci.2.1 x = .invokestatic x := by unfold ivk; rw [if_neg (by omega), if_pos hk]
      rw [hiv] at hdec; exact hdec) ⟨hmc, hms⟩
  exact call_go hrun hA hext hR' hl hmR hkk
set_option maxHeartbeats 1000000 in
theorem cal_I {own : String} {x n : Nat} {y : MethodName} {bytes : ByteArray} {maxL : Nat} {rm R : Room} {ci : CI} (hM : MOK y bytes maxL none rm ci) (hk : 20 ≤ ci.2.1) (hy1 : y.name = "<init>") (hws : ∀ w ∈ iws own x y bytes maxL, w ∈ WS) (hn : ci.1 = n + 1) (hd : nice y n) (hR : rfits rm R maxL) (hrm : rm.cells = ci.2.2.1 ∧ rm.slots = ci.2.2.2.1)
    (hrc : ∀ As σ K, ci.2.2.2.2 As σ K → ∃ a As', As = .inr (.inr (some a)) :: As') : CalOK own R x ci := by
  intro p l e s m args below meth c Q D dA A H0 b0 nL bytes0 ini S hsf pc hdec ls As rest σ k j K hlen hrcv hcs hmc hms hsp hkk ad H locs rl hext hR' hl hst
  obtain ⟨hx, hb, hml, hown, hts, hK, hA, hini, hao, hscr⟩ := hsf
  have hmA : ∀ v ∈ As, mok σ.1 v := fun v hv => hst v (List.mem_append_left _ (List.mem_reverse.mpr hv))
  have hmR : ∀ v ∈ rest, mok σ.1 v := fun v hv => hst v (List.mem_append_right _ hv)
  have hMet := hM l D dA ad σ As K H.size hR'.2.2.2 hmA hrcv hlen hsp
  obtain ⟨a, As', rfl⟩ := hrc As σ K hsp
  have hG : GoodIn WS (.code y bytes maxL none :: WS) := ws_good (fun w hw => by
    rcases List.mem_cons.mp hw with h | h
    · exact hws w (by unfold iws; simp [h])
    · exact h)
  have hrun := va_runI (p := p) (e := e) (R := R) (below := below) (meth := meth) (H := H) (locs := locs) (cells := k) (slots := j) (b := ad a) (As := As'.map (mtr ad)) (rest := rest.map (mtr ad)) (g := F0 m pc rl (((.inr (.inr (some a)) :: As').reverse ++ rest).map (mtr ad))) ⟨hx, hb, hml, hown, hts⟩ hMet (cwI n hts hG rfl hrm.1 hrm.2 (hts (.initialized y.cls) (hws _ (by unfold iws; simp))) (hts (.methodLink own x y) (hws _ (by unfold iws; simp))) (hts (.instanceMethod y) (hws _ (by unfold iws; simp))) hy1 hd hR)
    ⟨mPc_blind _ _ _ _ _ _, mPc_at hR' hK hao⟩ rfl (by rw [List.length_map]; have : As'.length + 1 = ci.1 := hlen; omega) hl.1 (by simp [mtr]) (lv_room (by rw [mcs_cat]; exact hcs)) (by
      have hiv : ivk ci.2.1 x = .invokespecial x := by unfold ivk; rw [if_neg (by omega), if_neg (by omega)]
      rw [hiv] at hdec; exact hdec) ⟨hmc, hms⟩
  exact call_go hrun hA hext hR' hl hmR hkk
/-! calls that the kit has rows for -/
def spMax (As : List MV) (σ : MS) (K : Option MV → MS → Prop) : Prop := match As with
  | [.inl x, .inl y] => RI x ∧ RI y ∧ ∀ r : Int, x ≤ r → y ≤ r → (r = x ∨ r = y) → K (some (.inl r)) σ
  | _ => False
def spMin (As : List MV) (σ : MS) (K : Option MV → MS → Prop) : Prop := match As with
  | [.inl x, .inl y] => RI x ∧ RI y ∧ ∀ r : Int, r ≤ x → r ≤ y → (r = x ∨ r = y) → K (some (.inl r)) σ
  | _ => False
def spAbs (As : List MV) (σ : MS) (K : Option MV → MS → Prop) : Prop := match As with
  | [.inl x] => RI x ∧ ∀ r : Int, 0 ≤ r → (r = x ∨ r = -x) → K (some (.inl r)) σ
  | _ => False
def spObj (As : List MV) (σ : MS) (K : Option MV → MS → Prop) : Prop := match As with
  | [.inr (.inr (some _))] => K none σ
  | _ => False
def ciMax : CI := (2, 10, 0, 0, spMax)
def ciMin : CI := (2, 10, 0, 0, spMin)
def ciAbs : CI := (1, 10, 0, 0, spAbs)
def ciObj : CI := (1, 20, 0, 0, spObj)
theorem cal_max {own : String} {x : Nat} {R : Room} (hws : ∀ w ∈ ([.methodLink own x Lib.Math.max.name, .static Lib.Math.max.name, .initialized "java/lang/Math", .code Lib.Math.max.name Lib.Math.max.code 2 (some .int)] : List Cond), w ∈ WS) (hR : 1 ≤ R.frames ∧ 21 ≤ R.locals) : CalOK own R x ciMax := by
  intro p l e s m args below meth c Q D dA A H0 b0 nL bytes0 ini S hsf pc hdec ls As rest σ k j K hlen hrcv hcs hmc hms hsp hkk ad H locs rl hext hR' hl hst
  obtain ⟨hx, hb, hml, hown, hts, hK, hA, hini, hao, hscr⟩ := hsf
  rcases As with _ | ⟨v | v, _ | ⟨w | w, _ | ⟨u, As⟩⟩⟩ <;> first | exact hsp.elim | skip
  obtain ⟨h1, h2, hsp⟩ := hsp
  refine va_mmax hx hb (hml.trans hl.1.symm) hown (hts _ (hws _ (by simp))) (hts _ (hws _ (by simp))) (hts _ (hws _ (by simp))) (hts _ (hws _ (by simp))) hR.1 (by show ((rest.map (mtr ad)).map fun v => v.category).sum + 13 ≤ R.locals; rw [mcs_cat]; have := hR.2; omega) (by exact Nat.le_trans (Nat.le_add_right _ _) hmc) (by exact Nat.le_trans (Nat.le_add_right _ _) hms) hdec ?_
  have hq := hkk _ _ (hsp (if v < w then w else v) (by split <;> omega) (by split <;> omega) (by split <;> simp)) ad H locs rl hext hR' hl (mok_cons trivial (fun v hv => hst v (List.mem_append_right _ hv)))
  rw [show (if Int32.ofInt v < Int32.ofInt w then Int32.ofInt w else Int32.ofInt v) = Int32.ofInt (if v < w then w else v) by
    by_cases q : v < w
    · rw [if_pos q, if_pos ((I_lt h1 h2).mpr q)]
    · rw [if_neg q, if_neg (fun z => q ((I_lt h1 h2).mp z))]]
  exact hq
theorem cal_min {own : String} {x : Nat} {R : Room} (hws : ∀ w ∈ ([.methodLink own x Lib.Math.min.name, .static Lib.Math.min.name, .initialized "java/lang/Math", .code Lib.Math.min.name Lib.Math.min.code 2 (some .int)] : List Cond), w ∈ WS) (hR : 1 ≤ R.frames ∧ 21 ≤ R.locals) : CalOK own R x ciMin := by
  intro p l e s m args below meth c Q D dA A H0 b0 nL bytes0 ini S hsf pc hdec ls As rest σ k j K hlen hrcv hcs hmc hms hsp hkk ad H locs rl hext hR' hl hst
  obtain ⟨hx, hb, hml, hown, hts, hK, hA, hini, hao, hscr⟩ := hsf
  rcases As with _ | ⟨v | v, _ | ⟨w | w, _ | ⟨u, As⟩⟩⟩ <;> first | exact hsp.elim | skip
  obtain ⟨h1, h2, hsp⟩ := hsp
  refine va_mmin hx hb (hml.trans hl.1.symm) hown (hts _ (hws _ (by simp))) (hts _ (hws _ (by simp))) (hts _ (hws _ (by simp))) (hts _ (hws _ (by simp))) hR.1 (by show ((rest.map (mtr ad)).map fun v => v.category).sum + 13 ≤ R.locals; rw [mcs_cat]; have := hR.2; omega) (by exact Nat.le_trans (Nat.le_add_right _ _) hmc) (by exact Nat.le_trans (Nat.le_add_right _ _) hms) hdec ?_
  have hq := hkk _ _ (hsp (if w < v then w else v) (by split <;> omega) (by split <;> omega) (by split <;> simp)) ad H locs rl hext hR' hl (mok_cons trivial (fun v hv => hst v (List.mem_append_right _ hv)))
  rw [show (if Int32.ofInt w < Int32.ofInt v then Int32.ofInt w else Int32.ofInt v) = Int32.ofInt (if w < v then w else v) by
    by_cases q : w < v
    · rw [if_pos q, if_pos ((I_lt h2 h1).mpr q)]
    · rw [if_neg q, if_neg (fun z => q ((I_lt h2 h1).mp z))]]
  exact hq
theorem cal_abs {own : String} {x : Nat} {R : Room} (hws : ∀ w ∈ ([.methodLink own x Lib.Math.abs.name, .static Lib.Math.abs.name, .initialized "java/lang/Math", .code Lib.Math.abs.name Lib.Math.abs.code 1 (some .int)] : List Cond), w ∈ WS) (hR : 1 ≤ R.frames ∧ 21 ≤ R.locals) : CalOK own R x ciAbs := by
  intro p l e s m args below meth c Q D dA A H0 b0 nL bytes0 ini S hsf pc hdec ls As rest σ k j K hlen hrcv hcs hmc hms hsp hkk ad H locs rl hext hR' hl hst
  obtain ⟨hx, hb, hml, hown, hts, hK, hA, hini, hao, hscr⟩ := hsf
  rcases As with _ | ⟨v | v, _ | ⟨u, As⟩⟩ <;> first | exact hsp.elim | skip
  obtain ⟨h1, hsp⟩ := hsp
  refine va_mabs hx hb (hml.trans hl.1.symm) hown (hts _ (hws _ (by simp))) (hts _ (hws _ (by simp))) (hts _ (hws _ (by simp))) (hts _ (hws _ (by simp))) hR.1 (by show ((rest.map (mtr ad)).map fun v => v.category).sum + 13 ≤ R.locals; rw [mcs_cat]; have := hR.2; omega) (by exact Nat.le_trans (Nat.le_add_right _ _) hmc) (by exact Nat.le_trans (Nat.le_add_right _ _) hms) hdec ?_
  have hq := hkk _ _ (hsp (if 0 ≤ v then v else 0 - v) (by split <;> omega) (by split <;> omega)) ad H locs rl hext hR' hl (mok_cons trivial (fun v hv => hst v (List.mem_append_right _ hv)))
  have h0 : (0 : Int32) ≤ Int32.ofInt v ↔ 0 ≤ v := I_le RI_0 h1
  rw [show (if (0 : Int32) ≤ Int32.ofInt v then Int32.ofInt v else 0 - Int32.ofInt v) = Int32.ofInt (if 0 ≤ v then v else 0 - v) by
    by_cases q : 0 ≤ v
    · rw [if_pos q, if_pos (h0.mpr q)]
    · rw [if_neg q, if_neg (fun z => q (h0.mp z)), Int32.ofInt_sub]; rfl]
  exact hq
theorem cal_obj {own : String} {x : Nat} {R : Room} (hws : ∀ w ∈ ([.methodLink own x Lib.objectInit, .instanceMethod Lib.objectInit, .code Lib.objectInit ⟨#[0xb1]⟩ 1 none] : List Cond), w ∈ WS) (hR : 1 ≤ R.frames ∧ 20 ≤ R.locals) : CalOK own R x ciObj := by
  intro p l e s m args below meth c Q D dA A H0 b0 nL bytes0 ini S hsf pc hdec ls As rest σ k j K hlen hrcv hcs hmc hms hsp hkk ad H locs rl hext hR' hl hst
  obtain ⟨hx, hb, hml, hown, hts, hK, hA, hini, hao, hscr⟩ := hsf
  rcases As with _ | ⟨v | v | _ | v, _ | ⟨u, As⟩⟩ <;> first | exact hsp.elim | skip
  have hcs2 : ((rest.map (mtr ad)).map fun v => v.category).sum ≤ 8 := by rw [mcs_cat]; exact hcs
  refine W.objInit (g := F0 m pc rl (.ref (ad v) :: rest.map (mtr ad))) hx hb hown (hts _ (hws _ (by simp))) (hts _ (hws _ (by simp))) (hts _ (hws _ (by simp))) rfl (hl.1.trans hml.symm) rfl hdec hR.1 (by have := lv_room (m := m) (pc := pc) (ls := rl) (rest := (.ref (ad v) :: rest.map (mtr ad))) hcs2; have := hR.2; omega) ?_
  exact hkk _ _ hsp ad H locs rl hext hR' hl (fun v hv => hst v (List.mem_append_right _ hv))
end
section
/-! System.arraycopy over rows of ints and bytes -/
def pN (st : List MV) (f : Prop) : Prop := match st with
  | [] => f
  | _ => False
theorem pN_iff {st : List MV} {f : Prop} : pN st f ↔ st = [] ∧ f := by
  cases st with
  | nil => exact ⟨fun h => ⟨rfl, h⟩, fun h => h.2⟩
  | cons a l => exact ⟨fun h => h.elim, fun h => by cases h.1⟩
def cpyI (I : Int → Int → Int) (a sp d dp n : Int) : Int → Int → Int := fun b j => if b = d ∧ dp ≤ j ∧ j < dp + n then I a (sp + (j - dp)) else I b j
def spCopy (As : List MV) (σ : MS) (K : Option MV → MS → Prop) : Prop := pR As fun a r => pI r fun sp r => pR r fun d r => pI r fun dp r => pI r fun n r => pN r
  (((G a).1 = 10 ∧ (G d).1 = 10 ∨ (G a).1 = 12 ∧ (G d).1 = 12 ∧ ∀ i, 0 ≤ i → i < n → -128 ≤ σ.2.2.1 a (sp + i) ∧ σ.2.2.1 a (sp + i) ≤ 127) ∧ 0 ≤ sp ∧ 0 ≤ dp ∧ 0 ≤ n ∧ sp + n ≤ (G a).2 ∧ dp + n ≤ (G d).2 ∧ K none (σ.1, σ.2.1, cpyI σ.2.2.1 a sp d dp n, σ.2.2.2))
def ciCopy : CI := (5, 10, 0, 0, spCopy)
set_option maxHeartbeats 1000000 in
theorem cal_copy {own : String} {x : Nat} {R : Room} (hws : ∀ w ∈ ([.methodLink own x arraycopyName, .native arraycopyName, .static arraycopyName, .initialized "java/lang/System"] : List Cond), w ∈ WS) (hR : 1 ≤ R.frames ∧ 26 ≤ R.locals) : CalOK own R x ciCopy := by
  intro p l e s m args below meth c Q D dA A H0 b0 nL bytes0 ini S hsf pc hdec ls As rest σ k j K hlen hrcv hcs hmc hms hsp hkk ad H locs rl hext hR' hl hst
  obtain ⟨hx, hb, hml, hown, hts, hK, hA, hini, hao, hscr⟩ := hsf
  obtain ⟨a, r, rfl, hsp⟩ := pR_iff.mp hsp
  obtain ⟨sp, r, rfl, hsp⟩ := pI_iff.mp hsp
  obtain ⟨d, r, rfl, hsp⟩ := pR_iff.mp hsp
  obtain ⟨dp, r, rfl, hsp⟩ := pI_iff.mp hsp
  obtain ⟨n, r, rfl, hsp⟩ := pI_iff.mp hsp
  obtain ⟨rfl, hg, g1, g2, g3, g4, g5, hKK⟩ := pN_iff.mp hsp
  have hma : mok σ.1 (.inr (.inr (some a))) := hst _ (by simp)
  have hmd : mok σ.1 (.inr (.inr (some d))) := hst _ (by simp)
  have hmR : ∀ v ∈ rest, mok σ.1 v := fun v hv => hst v (List.mem_append_right _ hv)
  have s1 := G_small a
  have s2 := G_small d
  have r1 : RI sp := by unfold RI; omega
  have r2 : RI dp := by unfold RI; omega
  have r3 : RI n := by unfold RI; omega
  obtain ⟨t, ht, ga, gd, hfit⟩ : ∃ t, (t = 10 ∨ t = 12) ∧ (G a).1 = t ∧ (G d).1 = t ∧ ∀ i : Nat, i < n.toNat → fits (aty t) (.int (Int32.ofInt (σ.2.2.1 a ((sp.toNat + i : Nat) : Int)))) = true := by
    rcases hg with ⟨q1, q2⟩ | ⟨q1, q2, q3⟩
    · exact ⟨10, .inl rfl, q1, q2, fun i hi => rfl⟩
    · refine ⟨12, .inr rfl, q1, q2, fun i hi => ?_⟩
      have := q3 i (by omega) (by omega)
      rw [show ((sp.toNat + i : Nat) : Int) = sp + i by omega, ← I_byte this.1 this.2]
      exact pk_fb _
  obtain ⟨a0, a1⟩ := mok_pos hma ga (by omega)
  obtain ⟨d0, d1⟩ := mok_pos hmd gd (by omega)
  have hea := mcells_at (dA := dA) (ad := ad) a0 a1
  rw [cE_arr ga (by omega), mar_int (by omega)] at hea
  have hed := mcells_at (dA := dA) (ad := ad) d0 d1
  rw [cE_arr gd (by omega), mar_int (by omega)] at hed
  have hiv : ivk ciCopy.2.1 x = .invokestatic x := rfl
  rw [hiv] at hdec
  have c1 := I_clamp r1
  have c2 := I_clamp r2
  have c3 := I_clamp r3
  refine va_copyi (ty := aty t) hx hb (hml.trans hl.1.symm) hown (hts _ (hws _ (by simp))) (hts _ (hws _ (by simp))) (hts _ (hws _ (by simp))) (hts _ (hws _ (by simp))) hK hR'.1 hR'.2.1 hR'.2.2.1 _ _ _ _ hea hed (TY_at (t := t) (by omega) (by omega)) (TY_at (t := t) (by omega) (by omega)) (by rcases ht with rfl | rfl <;> rfl)
    (fun q => by have := (I_lt r1 RI_0).mp q; omega) (fun q => by have := (I_lt r2 RI_0).mp q; omega) (fun q => by have := (I_lt r3 RI_0).mp q; omega) (by rw [c1, c3]; omega) (by rw [c2, c3]; omega) (fun i hi => by rw [c3] at hi; rw [c1]; exact hfit i hi) hR.1 (by
      show ((rest.map (mtr ad)).map fun v => v.category).sum + 18 ≤ R.locals
      rw [mcs_cat]; have := hR.2; omega) hdec (fun H1 locs1 P1 D1 S1 => ?_)
  have hN : ∀ b : Int, b ≠ d → cE dA ad ((σ.1, σ.2.1, cpyI σ.2.2.1 a sp d dp n, σ.2.2.2) : MS) b = cE dA ad σ b := fun b hb => by
    refine cE_congr (funext fun q => ?_) rfl (fun _ => rfl)
    show (if b = d ∧ _ then _ else _) = _
    rw [if_neg (fun z => hb z.1)]
  refine hkk _ _ hKK ad H1 locs1 rl hext (HR.set (σ' := ((σ.1, σ.2.1, cpyI σ.2.2.1 a sp d dp n, σ.2.2.2) : MS)) hR' d0 d1 rfl hR'.2.2.2 ?_ (fun b hb _ _ => hN b hb) P1 D1 S1) hl hmR
  rw [cE_arr gd (by omega), mar_int (by omega), c1, c2, c3]
  refine congrArg (fun f => (Sum.inl (dA t, (G d).2, .inl f) : va_E)) (funext fun q => ?_)
  show Int32.ofInt (if d = d ∧ dp ≤ q ∧ (q : Int) < dp + n then _ else _) = if dp.toNat ≤ q ∧ q < dp.toNat + n.toNat then _ else _
  by_cases h : dp.toNat ≤ q ∧ q < dp.toNat + n.toNat
  · rw [if_pos h, if_pos ⟨rfl, by omega, by omega⟩]
    exact congrArg Int32.ofInt (congrArg (σ.2.2.1 a) (by omega))
  · rw [if_neg h, if_neg (fun z => h (by omega))]
end
section
/-! fields, constants and classes by their places in the constant pools -/
def fX0 (x : Nat) : Option (Nat × Nat × Nat × Nat) := match x with
  | 9 => some (0, 0, 2, 1)
  | 15 => some (0, 1, 2, 1)
  | 18 => some (0, 2, 2, 1)
  | 21 => some (0, 3, 2, 1)
  | _ => none
theorem ofX0_9 (f : Nat → Nat → Nat → Nat → Prop) : oF fX0 9 f = f 0 0 2 1 := propext Iff.rfl
theorem ofX0_15 (f : Nat → Nat → Nat → Nat → Prop) : oF fX0 15 f = f 0 1 2 1 := propext Iff.rfl
theorem ofX0_18 (f : Nat → Nat → Nat → Nat → Prop) : oF fX0 18 f = f 0 2 2 1 := propext Iff.rfl
theorem ofX0_21 (f : Nat → Nat → Nat → Nat → Prop) : oF fX0 21 f = f 0 3 2 1 := propext Iff.rfl
theorem fokX0 : FOK RX0 fX0 := by
  intro x ci fi cd fw h
  unfold fX0 at h
  split at h
  · cases h; exact ⟨by decide, by decide, by decide +kernel, by decide, (ws_mem (List.mem_of_getElem? (i := 160) (by decide +kernel)) (by decide +kernel)), by decide +kernel, by decide +kernel⟩
  · cases h; exact ⟨by decide, by decide, by decide +kernel, by decide, (ws_mem (List.mem_of_getElem? (i := 164) (by decide +kernel)) (by decide +kernel)), by decide +kernel, by decide +kernel⟩
  · cases h; exact ⟨by decide, by decide, by decide +kernel, by decide, (ws_mem (List.mem_of_getElem? (i := 168) (by decide +kernel)) (by decide +kernel)), by decide +kernel, by decide +kernel⟩
  · cases h; exact ⟨by decide, by decide, by decide +kernel, by decide, (ws_mem (List.mem_of_getElem? (i := 169) (by decide +kernel)) (by decide +kernel)), by decide +kernel, by decide +kernel⟩
  · cases h
def zX0 (_ : Nat) : Option (Int ⊕ Int) := none
theorem zokX0 : ZOK RX0 zX0 := fun _ _ => ⟨(fun h => (by cases h)), (fun h => (by cases h))⟩
def uX0 (_ : Nat) : Option Nat := none
theorem uokX0 : UOK RX0 uX0 := fun _ _ h => by cases h
def fX1 (x : Nat) : Option (Nat × Nat × Nat × Nat) := match x with
  | 9 => some (1, 0, 2, 1)
  | 15 => some (1, 1, 2, 1)
  | 18 => some (1, 2, 2, 1)
  | 21 => some (1, 3, 2, 1)
  | 24 => some (1, 4, 0, 0)
  | 28 => some (1, 5, 3, 0)
  | 34 => some (1, 8, 2, 1)
  | 37 => some (1, 9, 2, 1)
  | 40 => some (1, 10, 2, 1)
  | 55 => some (1, 6, 0, 0)
  | 58 => some (1, 11, 3, 0)
  | 91 => some (1, 7, 0, 0)
  | _ => none
theorem ofX1_9 (f : Nat → Nat → Nat → Nat → Prop) : oF fX1 9 f = f 1 0 2 1 := propext Iff.rfl
theorem ofX1_15 (f : Nat → Nat → Nat → Nat → Prop) : oF fX1 15 f = f 1 1 2 1 := propext Iff.rfl
theorem ofX1_18 (f : Nat → Nat → Nat → Nat → Prop) : oF fX1 18 f = f 1 2 2 1 := propext Iff.rfl
theorem ofX1_21 (f : Nat → Nat → Nat → Nat → Prop) : oF fX1 21 f = f 1 3 2 1 := propext Iff.rfl
theorem ofX1_24 (f : Nat → Nat → Nat → Nat → Prop) : oF fX1 24 f = f 1 4 0 0 := propext Iff.rfl
theorem ofX1_28 (f : Nat → Nat → Nat → Nat → Prop) : oF fX1 28 f = f 1 5 3 0 := propext Iff.rfl
theorem ofX1_34 (f : Nat → Nat → Nat → Nat → Prop) : oF fX1 34 f = f 1 8 2 1 := propext Iff.rfl
theorem ofX1_37 (f : Nat → Nat → Nat → Nat → Prop) : oF fX1 37 f = f 1 9 2 1 := propext Iff.rfl
theorem ofX1_40 (f : Nat → Nat → Nat → Nat → Prop) : oF fX1 40 f = f 1 10 2 1 := propext Iff.rfl
theorem ofX1_55 (f : Nat → Nat → Nat → Nat → Prop) : oF fX1 55 f = f 1 6 0 0 := propext Iff.rfl
theorem ofX1_58 (f : Nat → Nat → Nat → Nat → Prop) : oF fX1 58 f = f 1 11 3 0 := propext Iff.rfl
theorem ofX1_91 (f : Nat → Nat → Nat → Nat → Prop) : oF fX1 91 f = f 1 7 0 0 := propext Iff.rfl
theorem fokX1 : FOK RX1 fX1 := by
  intro x ci fi cd fw h
  unfold fX1 at h
  split at h
  · cases h; exact ⟨by decide, by decide, by decide +kernel, by decide, (ws_mem (List.mem_of_getElem? (i := 273) (by decide +kernel)) (by decide +kernel)), by decide +kernel, by decide +kernel⟩
  · cases h; exact ⟨by decide, by decide, by decide +kernel, by decide, (ws_mem (List.mem_of_getElem? (i := 275) (by decide +kernel)) (by decide +kernel)), by decide +kernel, by decide +kernel⟩
  · cases h; exact ⟨by decide, by decide, by decide +kernel, by decide, (ws_mem (List.mem_of_getElem? (i := 277) (by decide +kernel)) (by decide +kernel)), by decide +kernel, by decide +kernel⟩
  · cases h; exact ⟨by decide, by decide, by decide +kernel, by decide, (ws_mem (List.mem_of_getElem? (i := 279) (by decide +kernel)) (by decide +kernel)), by decide +kernel, by decide +kernel⟩
  · cases h; exact ⟨by decide, by decide, by decide +kernel, by decide, (ws_mem (List.mem_of_getElem? (i := 281) (by decide +kernel)) (by decide +kernel)), by decide +kernel, by decide +kernel⟩
  · cases h; exact ⟨by decide, by decide, by decide +kernel, by decide, (ws_mem (List.mem_of_getElem? (i := 283) (by decide +kernel)) (by decide +kernel)), by decide +kernel, by decide +kernel⟩
  · cases h; exact ⟨by decide, by decide, by decide +kernel, by decide, (ws_mem (List.mem_of_getElem? (i := 289) (by decide +kernel)) (by decide +kernel)), by decide +kernel, by decide +kernel⟩
  · cases h; exact ⟨by decide, by decide, by decide +kernel, by decide, (ws_mem (List.mem_of_getElem? (i := 290) (by decide +kernel)) (by decide +kernel)), by decide +kernel, by decide +kernel⟩
  · cases h; exact ⟨by decide, by decide, by decide +kernel, by decide, (ws_mem (List.mem_of_getElem? (i := 291) (by decide +kernel)) (by decide +kernel)), by decide +kernel, by decide +kernel⟩
  · cases h; exact ⟨by decide, by decide, by decide +kernel, by decide, (ws_mem (List.mem_of_getElem? (i := 285) (by decide +kernel)) (by decide +kernel)), by decide +kernel, by decide +kernel⟩
  · cases h; exact ⟨by decide, by decide, by decide +kernel, by decide, (ws_mem (List.mem_of_getElem? (i := 292) (by decide +kernel)) (by decide +kernel)), by decide +kernel, by decide +kernel⟩
  · cases h; exact ⟨by decide, by decide, by decide +kernel, by decide, (ws_mem (List.mem_of_getElem? (i := 287) (by decide +kernel)) (by decide +kernel)), by decide +kernel, by decide +kernel⟩
  · cases h
def zX1 (x : Nat) : Option (Int ⊕ Int) := match x with
  | 80 => some (.inl 536870912)
  | _ => none
theorem ozX1_80 (f : Int → Prop) : oI zX1 80 f = f 536870912 := propext Iff.rfl
theorem zokX1 : ZOK RX1 zX1 := by
  intro x v
  unfold zX1
  split
  · exact ⟨(fun h => (by cases h; exact (ws_mem (List.mem_of_getElem? (i := 590) (by decide +kernel)) (by decide +kernel)))), (fun h => (by cases h))⟩
  · exact ⟨(fun h => (by cases h)), (fun h => (by cases h))⟩
def uX1 (x : Nat) : Option Nat := match x with
  | 32 => some 16
  | _ => none
theorem onX1_32 (f : Nat → Prop) (g : Prop) : oN uX1 32 f g = f 16 := propext Iff.rfl
theorem uokX1 : UOK RX1 uX1 := by
  intro x t h
  unfold uX1 at h
  split at h
  · cases h; exact ⟨fun q => by revert q; decide, fun q => by revert q; decide, fun q => by revert q; decide, fun _ => (ws_mem (List.mem_of_getElem? (i := 271) (by decide +kernel)) (by decide +kernel))⟩
  · cases h
def fX2 (x : Nat) : Option (Nat × Nat × Nat × Nat) := match x with
  | 9 => some (2, 0, 0, 0)
  | 18 => some (2, 2, 2, 1)
  | 22 => some (2, 3, 2, 1)
  | 26 => some (2, 4, 2, 1)
  | 43 => some (2, 1, 0, 0)
  | _ => none
theorem ofX2_9 (f : Nat → Nat → Nat → Nat → Prop) : oF fX2 9 f = f 2 0 0 0 := propext Iff.rfl
theorem ofX2_18 (f : Nat → Nat → Nat → Nat → Prop) : oF fX2 18 f = f 2 2 2 1 := propext Iff.rfl
theorem ofX2_22 (f : Nat → Nat → Nat → Nat → Prop) : oF fX2 22 f = f 2 3 2 1 := propext Iff.rfl
theorem ofX2_26 (f : Nat → Nat → Nat → Nat → Prop) : oF fX2 26 f = f 2 4 2 1 := propext Iff.rfl
theorem ofX2_43 (f : Nat → Nat → Nat → Nat → Prop) : oF fX2 43 f = f 2 1 0 0 := propext Iff.rfl
theorem fokX2 : FOK RX2 fX2 := by
  intro x ci fi cd fw h
  unfold fX2 at h
  split at h
  · cases h; exact ⟨by decide, by decide, by decide +kernel, by decide, (ws_mem (List.mem_of_getElem? (i := 327) (by decide +kernel)) (by decide +kernel)), by decide +kernel, by decide +kernel⟩
  · cases h; exact ⟨by decide, by decide, by decide +kernel, by decide, (ws_mem (List.mem_of_getElem? (i := 331) (by decide +kernel)) (by decide +kernel)), by decide +kernel, by decide +kernel⟩
  · cases h; exact ⟨by decide, by decide, by decide +kernel, by decide, (ws_mem (List.mem_of_getElem? (i := 333) (by decide +kernel)) (by decide +kernel)), by decide +kernel, by decide +kernel⟩
  · cases h; exact ⟨by decide, by decide, by decide +kernel, by decide, (ws_mem (List.mem_of_getElem? (i := 334) (by decide +kernel)) (by decide +kernel)), by decide +kernel, by decide +kernel⟩
  · cases h; exact ⟨by decide, by decide, by decide +kernel, by decide, (ws_mem (List.mem_of_getElem? (i := 329) (by decide +kernel)) (by decide +kernel)), by decide +kernel, by decide +kernel⟩
  · cases h
def zX2 (_ : Nat) : Option (Int ⊕ Int) := none
theorem zokX2 : ZOK RX2 zX2 := fun _ _ => ⟨(fun h => (by cases h)), (fun h => (by cases h))⟩
def uX2 (x : Nat) : Option Nat := match x with
  | 15 => some 3
  | _ => none
theorem onX2_15 (f : Nat → Prop) (g : Prop) : oN uX2 15 f g = f 3 := propext Iff.rfl
theorem uokX2 : UOK RX2 uX2 := by
  intro x t h
  unfold uX2 at h
  split at h
  · cases h; exact ⟨fun _ => ⟨(ws_mem (List.mem_of_getElem? (i := 325) (by decide +kernel)) (by decide +kernel)), (ws_mem (List.mem_of_getElem? (i := 93) (by decide +kernel)) (by decide +kernel)), (ws_mem (List.mem_of_getElem? (i := 56) (by decide +kernel)) (by decide +kernel))⟩, fun q => by revert q; decide, fun q => by revert q; decide, fun q => by revert q; decide⟩
  · cases h
def fX3 (x : Nat) : Option (Nat × Nat × Nat × Nat) := match x with
  | 9 => some (3, 0, 0, 0)
  | 15 => some (3, 1, 0, 0)
  | 18 => some (3, 2, 0, 0)
  | 21 => some (3, 3, 0, 0)
  | 24 => some (3, 4, 0, 0)
  | _ => none
theorem ofX3_9 (f : Nat → Nat → Nat → Nat → Prop) : oF fX3 9 f = f 3 0 0 0 := propext Iff.rfl
theorem ofX3_15 (f : Nat → Nat → Nat → Nat → Prop) : oF fX3 15 f = f 3 1 0 0 := propext Iff.rfl
theorem ofX3_18 (f : Nat → Nat → Nat → Nat → Prop) : oF fX3 18 f = f 3 2 0 0 := propext Iff.rfl
theorem ofX3_21 (f : Nat → Nat → Nat → Nat → Prop) : oF fX3 21 f = f 3 3 0 0 := propext Iff.rfl
theorem ofX3_24 (f : Nat → Nat → Nat → Nat → Prop) : oF fX3 24 f = f 3 4 0 0 := propext Iff.rfl
theorem fokX3 : FOK RX3 fX3 := by
  intro x ci fi cd fw h
  unfold fX3 at h
  split at h
  · cases h; exact ⟨by decide, by decide, by decide +kernel, by decide, (ws_mem (List.mem_of_getElem? (i := 98) (by decide +kernel)) (by decide +kernel)), by decide +kernel, by decide +kernel⟩
  · cases h; exact ⟨by decide, by decide, by decide +kernel, by decide, (ws_mem (List.mem_of_getElem? (i := 100) (by decide +kernel)) (by decide +kernel)), by decide +kernel, by decide +kernel⟩
  · cases h; exact ⟨by decide, by decide, by decide +kernel, by decide, (ws_mem (List.mem_of_getElem? (i := 103) (by decide +kernel)) (by decide +kernel)), by decide +kernel, by decide +kernel⟩
  · cases h; exact ⟨by decide, by decide, by decide +kernel, by decide, (ws_mem (List.mem_of_getElem? (i := 107) (by decide +kernel)) (by decide +kernel)), by decide +kernel, by decide +kernel⟩
  · cases h; exact ⟨by decide, by decide, by decide +kernel, by decide, (ws_mem (List.mem_of_getElem? (i := 110) (by decide +kernel)) (by decide +kernel)), by decide +kernel, by decide +kernel⟩
  · cases h
def zX3 (_ : Nat) : Option (Int ⊕ Int) := none
theorem zokX3 : ZOK RX3 zX3 := fun _ _ => ⟨(fun h => (by cases h)), (fun h => (by cases h))⟩
def uX3 (_ : Nat) : Option Nat := none
theorem uokX3 : UOK RX3 uX3 := fun _ _ h => by cases h
theorem onX3_44 (f : Nat → Prop) (g : Prop) : oN uX3 44 f g = g := propext Iff.rfl
def fX4 (x : Nat) : Option (Nat × Nat × Nat × Nat) := match x with
  | 11 => some (4, 0, 2, 1)
  | 16 => some (4, 1, 2, 1)
  | 20 => some (5, 1, 0, 0)
  | 26 => some (5, 0, 2, 2)
  | 30 => some (3, 1, 0, 0)
  | 35 => some (6, 2, 2, 2)
  | _ => none
theorem ofX4_11 (f : Nat → Nat → Nat → Nat → Prop) : oF fX4 11 f = f 4 0 2 1 := propext Iff.rfl
theorem ofX4_16 (f : Nat → Nat → Nat → Nat → Prop) : oF fX4 16 f = f 4 1 2 1 := propext Iff.rfl
theorem ofX4_20 (f : Nat → Nat → Nat → Nat → Prop) : oF fX4 20 f = f 5 1 0 0 := propext Iff.rfl
theorem ofX4_26 (f : Nat → Nat → Nat → Nat → Prop) : oF fX4 26 f = f 5 0 2 2 := propext Iff.rfl
theorem ofX4_30 (f : Nat → Nat → Nat → Nat → Prop) : oF fX4 30 f = f 3 1 0 0 := propext Iff.rfl
theorem ofX4_35 (f : Nat → Nat → Nat → Nat → Prop) : oF fX4 35 f = f 6 2 2 2 := propext Iff.rfl
theorem fokX4 : FOK RX4 fX4 := by
  intro x ci fi cd fw h
  unfold fX4 at h
  split at h
  · cases h; exact ⟨by decide, by decide, by decide +kernel, by decide, (ws_mem (List.mem_of_getElem? (i := 258) (by decide +kernel)) (by decide +kernel)), by decide +kernel, by decide +kernel⟩
  · cases h; exact ⟨by decide, by decide, by decide +kernel, by decide, (ws_mem (List.mem_of_getElem? (i := 259) (by decide +kernel)) (by decide +kernel)), by decide +kernel, by decide +kernel⟩
  · cases h; exact ⟨by decide, by decide, by decide +kernel, by decide, (ws_mem (List.mem_of_getElem? (i := 131) (by decide +kernel)) (by decide +kernel)), by decide +kernel, by decide +kernel⟩
  · cases h; exact ⟨by decide, by decide, by decide +kernel, by decide, (ws_mem (List.mem_of_getElem? (i := 126) (by decide +kernel)) (by decide +kernel)), by decide +kernel, by decide +kernel⟩
  · cases h; exact ⟨by decide, by decide, by decide +kernel, by decide, (ws_mem (List.mem_of_getElem? (i := 101) (by decide +kernel)) (by decide +kernel)), by decide +kernel, by decide +kernel⟩
  · cases h; exact ⟨by decide, by decide, by decide +kernel, by decide, (ws_mem (List.mem_of_getElem? (i := 192) (by decide +kernel)) (by decide +kernel)), by decide +kernel, by decide +kernel⟩
  · cases h
def zX4 (_ : Nat) : Option (Int ⊕ Int) := none
theorem zokX4 : ZOK RX4 zX4 := fun _ _ => ⟨(fun h => (by cases h)), (fun h => (by cases h))⟩
def uX4 (x : Nat) : Option Nat := match x with
  | 9 => some 16
  | _ => none
theorem onX4_9 (f : Nat → Prop) (g : Prop) : oN uX4 9 f g = f 16 := propext Iff.rfl
theorem uokX4 : UOK RX4 uX4 := by
  intro x t h
  unfold uX4 at h
  split at h
  · cases h; exact ⟨fun q => by revert q; decide, fun q => by revert q; decide, fun q => by revert q; decide, fun _ => (ws_mem (List.mem_of_getElem? (i := 257) (by decide +kernel)) (by decide +kernel))⟩
  · cases h
def fX5 (x : Nat) : Option (Nat × Nat × Nat × Nat) := match x with
  | 11 => some (5, 0, 2, 1)
  | 18 => some (5, 1, 0, 0)
  | 22 => some (3, 0, 0, 0)
  | 25 => some (3, 3, 0, 0)
  | 28 => some (3, 1, 0, 0)
  | 31 => some (3, 2, 0, 0)
  | 34 => some (3, 4, 0, 0)
  | _ => none
theorem ofX5_11 (f : Nat → Nat → Nat → Nat → Prop) : oF fX5 11 f = f 5 0 2 1 := propext Iff.rfl
theorem ofX5_18 (f : Nat → Nat → Nat → Nat → Prop) : oF fX5 18 f = f 5 1 0 0 := propext Iff.rfl
theorem ofX5_22 (f : Nat → Nat → Nat → Nat → Prop) : oF fX5 22 f = f 3 0 0 0 := propext Iff.rfl
theorem ofX5_25 (f : Nat → Nat → Nat → Nat → Prop) : oF fX5 25 f = f 3 3 0 0 := propext Iff.rfl
theorem ofX5_28 (f : Nat → Nat → Nat → Nat → Prop) : oF fX5 28 f = f 3 1 0 0 := propext Iff.rfl
theorem ofX5_31 (f : Nat → Nat → Nat → Nat → Prop) : oF fX5 31 f = f 3 2 0 0 := propext Iff.rfl
theorem ofX5_34 (f : Nat → Nat → Nat → Nat → Prop) : oF fX5 34 f = f 3 4 0 0 := propext Iff.rfl
theorem fokX5 : FOK RX5 fX5 := by
  intro x ci fi cd fw h
  unfold fX5 at h
  split at h
  · cases h; exact ⟨by decide, by decide, by decide +kernel, by decide, (ws_mem (List.mem_of_getElem? (i := 125) (by decide +kernel)) (by decide +kernel)), by decide +kernel, by decide +kernel⟩
  · cases h; exact ⟨by decide, by decide, by decide +kernel, by decide, (ws_mem (List.mem_of_getElem? (i := 130) (by decide +kernel)) (by decide +kernel)), by decide +kernel, by decide +kernel⟩
  · cases h; exact ⟨by decide, by decide, by decide +kernel, by decide, (ws_mem (List.mem_of_getElem? (i := 99) (by decide +kernel)) (by decide +kernel)), by decide +kernel, by decide +kernel⟩
  · cases h; exact ⟨by decide, by decide, by decide +kernel, by decide, (ws_mem (List.mem_of_getElem? (i := 108) (by decide +kernel)) (by decide +kernel)), by decide +kernel, by decide +kernel⟩
  · cases h; exact ⟨by decide, by decide, by decide +kernel, by decide, (ws_mem (List.mem_of_getElem? (i := 102) (by decide +kernel)) (by decide +kernel)), by decide +kernel, by decide +kernel⟩
  · cases h; exact ⟨by decide, by decide, by decide +kernel, by decide, (ws_mem (List.mem_of_getElem? (i := 104) (by decide +kernel)) (by decide +kernel)), by decide +kernel, by decide +kernel⟩
  · cases h; exact ⟨by decide, by decide, by decide +kernel, by decide, (ws_mem (List.mem_of_getElem? (i := 111) (by decide +kernel)) (by decide +kernel)), by decide +kernel, by decide +kernel⟩
  · cases h
def zX5 (_ : Nat) : Option (Int ⊕ Int) := none
theorem zokX5 : ZOK RX5 zX5 := fun _ _ => ⟨(fun h => (by cases h)), (fun h => (by cases h))⟩
def uX5 (x : Nat) : Option Nat := match x with
  | 9 => some 3
  | 100009 => some 14
  | _ => none
theorem onX5_9 (f : Nat → Prop) (g : Prop) : oN uX5 9 f g = f 3 := propext Iff.rfl
theorem onX5_100009 (f : Nat → Prop) (g : Prop) : oN uX5 100009 f g = f 14 := propext Iff.rfl
theorem uokX5 : UOK RX5 uX5 := by
  intro x t h
  unfold uX5 at h
  split at h
  · cases h; exact ⟨fun _ => ⟨(ws_mem (List.mem_of_getElem? (i := 91) (by decide +kernel)) (by decide +kernel)), (ws_mem (List.mem_of_getElem? (i := 93) (by decide +kernel)) (by decide +kernel)), (ws_mem (List.mem_of_getElem? (i := 56) (by decide +kernel)) (by decide +kernel))⟩, fun q => by revert q; decide, fun q => by revert q; decide, fun q => by revert q; decide⟩
  · cases h; exact ⟨fun q => by revert q; decide, fun _ => (ws_mem (List.mem_of_getElem? (i := 91) (by decide +kernel)) (by decide +kernel)), fun q => by revert q; decide, fun q => by revert q; decide⟩
  · cases h
def fX6 (x : Nat) : Option (Nat × Nat × Nat × Nat) := match x with
  | 9 => some (6, 0, 2, 1)
  | 15 => some (6, 1, 2, 1)
  | 18 => some (6, 2, 2, 1)
  | 25 => some (5, 1, 0, 0)
  | 31 => some (5, 0, 2, 2)
  | 35 => some (0, 0, 2, 2)
  | 51 => some (6, 3, 0, 0)
  | 54 => some (0, 1, 2, 2)
  | _ => none
theorem ofX6_9 (f : Nat → Nat → Nat → Nat → Prop) : oF fX6 9 f = f 6 0 2 1 := propext Iff.rfl
theorem ofX6_15 (f : Nat → Nat → Nat → Nat → Prop) : oF fX6 15 f = f 6 1 2 1 := propext Iff.rfl
theorem ofX6_18 (f : Nat → Nat → Nat → Nat → Prop) : oF fX6 18 f = f 6 2 2 1 := propext Iff.rfl
theorem ofX6_25 (f : Nat → Nat → Nat → Nat → Prop) : oF fX6 25 f = f 5 1 0 0 := propext Iff.rfl
theorem ofX6_31 (f : Nat → Nat → Nat → Nat → Prop) : oF fX6 31 f = f 5 0 2 2 := propext Iff.rfl
theorem ofX6_35 (f : Nat → Nat → Nat → Nat → Prop) : oF fX6 35 f = f 0 0 2 2 := propext Iff.rfl
theorem ofX6_51 (f : Nat → Nat → Nat → Nat → Prop) : oF fX6 51 f = f 6 3 0 0 := propext Iff.rfl
theorem ofX6_54 (f : Nat → Nat → Nat → Nat → Prop) : oF fX6 54 f = f 0 1 2 2 := propext Iff.rfl
theorem fokX6 : FOK RX6 fX6 := by
  intro x ci fi cd fw h
  unfold fX6 at h
  split at h
  · cases h; exact ⟨by decide, by decide, by decide +kernel, by decide, (ws_mem (List.mem_of_getElem? (i := 186) (by decide +kernel)) (by decide +kernel)), by decide +kernel, by decide +kernel⟩
  · cases h; exact ⟨by decide, by decide, by decide +kernel, by decide, (ws_mem (List.mem_of_getElem? (i := 189) (by decide +kernel)) (by decide +kernel)), by decide +kernel, by decide +kernel⟩
  · cases h; exact ⟨by decide, by decide, by decide +kernel, by decide, (ws_mem (List.mem_of_getElem? (i := 191) (by decide +kernel)) (by decide +kernel)), by decide +kernel, by decide +kernel⟩
  · cases h; exact ⟨by decide, by decide, by decide +kernel, by decide, (ws_mem (List.mem_of_getElem? (i := 133) (by decide +kernel)) (by decide +kernel)), by decide +kernel, by decide +kernel⟩
  · cases h; exact ⟨by decide, by decide, by decide +kernel, by decide, (ws_mem (List.mem_of_getElem? (i := 127) (by decide +kernel)) (by decide +kernel)), by decide +kernel, by decide +kernel⟩
  · cases h; exact ⟨by decide, by decide, by decide +kernel, by decide, (ws_mem (List.mem_of_getElem? (i := 162) (by decide +kernel)) (by decide +kernel)), by decide +kernel, by decide +kernel⟩
  · cases h; exact ⟨by decide, by decide, by decide +kernel, by decide, (ws_mem (List.mem_of_getElem? (i := 195) (by decide +kernel)) (by decide +kernel)), by decide +kernel, by decide +kernel⟩
  · cases h; exact ⟨by decide, by decide, by decide +kernel, by decide, (ws_mem (List.mem_of_getElem? (i := 165) (by decide +kernel)) (by decide +kernel)), by decide +kernel, by decide +kernel⟩
  · cases h
def zX6 (_ : Nat) : Option (Int ⊕ Int) := none
theorem zokX6 : ZOK RX6 zX6 := fun _ _ => ⟨(fun h => (by cases h)), (fun h => (by cases h))⟩
def uX6 (_ : Nat) : Option Nat := none
theorem uokX6 : UOK RX6 uX6 := fun _ _ h => by cases h
def fX7 (x : Nat) : Option (Nat × Nat × Nat × Nat) := match x with
  | 12 => some (7, 0, 2, 1)
  | 21 => some (7, 1, 2, 1)
  | 28 => some (7, 3, 2, 1)
  | 32 => some (7, 4, 2, 1)
  | 35 => some (7, 5, 2, 1)
  | 41 => some (7, 6, 2, 1)
  | 44 => some (7, 7, 2, 1)
  | 47 => some (7, 8, 2, 1)
  | 50 => some (7, 9, 2, 1)
  | 53 => some (7, 10, 2, 1)
  | 56 => some (7, 11, 2, 1)
  | 65 => some (7, 2, 3, 0)
  | 69 => some (6, 0, 2, 2)
  | 76 => some (0, 0, 2, 2)
  | 87 => some (5, 0, 2, 2)
  | 91 => some (3, 4, 0, 0)
  | 101 => some (6, 2, 2, 2)
  | 108 => some (5, 1, 0, 0)
  | 111 => some (3, 2, 0, 0)
  | 147 => some (0, 1, 2, 2)
  | _ => none
theorem ofX7_12 (f : Nat → Nat → Nat → Nat → Prop) : oF fX7 12 f = f 7 0 2 1 := propext Iff.rfl
theorem ofX7_21 (f : Nat → Nat → Nat → Nat → Prop) : oF fX7 21 f = f 7 1 2 1 := propext Iff.rfl
theorem ofX7_28 (f : Nat → Nat → Nat → Nat → Prop) : oF fX7 28 f = f 7 3 2 1 := propext Iff.rfl
theorem ofX7_32 (f : Nat → Nat → Nat → Nat → Prop) : oF fX7 32 f = f 7 4 2 1 := propext Iff.rfl
theorem ofX7_35 (f : Nat → Nat → Nat → Nat → Prop) : oF fX7 35 f = f 7 5 2 1 := propext Iff.rfl
theorem ofX7_41 (f : Nat → Nat → Nat → Nat → Prop) : oF fX7 41 f = f 7 6 2 1 := propext Iff.rfl
theorem ofX7_44 (f : Nat → Nat → Nat → Nat → Prop) : oF fX7 44 f = f 7 7 2 1 := propext Iff.rfl
theorem ofX7_47 (f : Nat → Nat → Nat → Nat → Prop) : oF fX7 47 f = f 7 8 2 1 := propext Iff.rfl
theorem ofX7_50 (f : Nat → Nat → Nat → Nat → Prop) : oF fX7 50 f = f 7 9 2 1 := propext Iff.rfl
theorem ofX7_53 (f : Nat → Nat → Nat → Nat → Prop) : oF fX7 53 f = f 7 10 2 1 := propext Iff.rfl
theorem ofX7_56 (f : Nat → Nat → Nat → Nat → Prop) : oF fX7 56 f = f 7 11 2 1 := propext Iff.rfl
theorem ofX7_65 (f : Nat → Nat → Nat → Nat → Prop) : oF fX7 65 f = f 7 2 3 0 := propext Iff.rfl
theorem ofX7_69 (f : Nat → Nat → Nat → Nat → Prop) : oF fX7 69 f = f 6 0 2 2 := propext Iff.rfl
theorem ofX7_76 (f : Nat → Nat → Nat → Nat → Prop) : oF fX7 76 f = f 0 0 2 2 := propext Iff.rfl
theorem ofX7_87 (f : Nat → Nat → Nat → Nat → Prop) : oF fX7 87 f = f 5 0 2 2 := propext Iff.rfl
theorem ofX7_91 (f : Nat → Nat → Nat → Nat → Prop) : oF fX7 91 f = f 3 4 0 0 := propext Iff.rfl
theorem ofX7_101 (f : Nat → Nat → Nat → Nat → Prop) : oF fX7 101 f = f 6 2 2 2 := propext Iff.rfl
theorem ofX7_108 (f : Nat → Nat → Nat → Nat → Prop) : oF fX7 108 f = f 5 1 0 0 := propext Iff.rfl
theorem ofX7_111 (f : Nat → Nat → Nat → Nat → Prop) : oF fX7 111 f = f 3 2 0 0 := propext Iff.rfl
theorem ofX7_147 (f : Nat → Nat → Nat → Nat → Prop) : oF fX7 147 f = f 0 1 2 2 := propext Iff.rfl
theorem fokX7 : FOK RX7 fX7 := by
  intro x ci fi cd fw h
  unfold fX7 at h
  split at h
  · cases h; exact ⟨by decide, by decide, by decide +kernel, by decide, (ws_mem (List.mem_of_getElem? (i := 211) (by decide +kernel)) (by decide +kernel)), by decide +kernel, by decide +kernel⟩
  · cases h; exact ⟨by decide, by decide, by decide +kernel, by decide, (ws_mem (List.mem_of_getElem? (i := 213) (by decide +kernel)) (by decide +kernel)), by decide +kernel, by decide +kernel⟩
  · cases h; exact ⟨by decide, by decide, by decide +kernel, by decide, (ws_mem (List.mem_of_getElem? (i := 217) (by decide +kernel)) (by decide +kernel)), by decide +kernel, by decide +kernel⟩
  · cases h; exact ⟨by decide, by decide, by decide +kernel, by decide, (ws_mem (List.mem_of_getElem? (i := 218) (by decide +kernel)) (by decide +kernel)), by decide +kernel, by decide +kernel⟩
  · cases h; exact ⟨by decide, by decide, by decide +kernel, by decide, (ws_mem (List.mem_of_getElem? (i := 219) (by decide +kernel)) (by decide +kernel)), by decide +kernel, by decide +kernel⟩
  · cases h; exact ⟨by decide, by decide, by decide +kernel, by decide, (ws_mem (List.mem_of_getElem? (i := 220) (by decide +kernel)) (by decide +kernel)), by decide +kernel, by decide +kernel⟩
  · cases h; exact ⟨by decide, by decide, by decide +kernel, by decide, (ws_mem (List.mem_of_getElem? (i := 221) (by decide +kernel)) (by decide +kernel)), by decide +kernel, by decide +kernel⟩
  · cases h; exact ⟨by decide, by decide, by decide +kernel, by decide, (ws_mem (List.mem_of_getElem? (i := 222) (by decide +kernel)) (by decide +kernel)), by decide +kernel, by decide +kernel⟩
  · cases h; exact ⟨by decide, by decide, by decide +kernel, by decide, (ws_mem (List.mem_of_getElem? (i := 223) (by decide +kernel)) (by decide +kernel)), by decide +kernel, by decide +kernel⟩
  · cases h; exact ⟨by decide, by decide, by decide +kernel, by decide, (ws_mem (List.mem_of_getElem? (i := 224) (by decide +kernel)) (by decide +kernel)), by decide +kernel, by decide +kernel⟩
  · cases h; exact ⟨by decide, by decide, by decide +kernel, by decide, (ws_mem (List.mem_of_getElem? (i := 225) (by decide +kernel)) (by decide +kernel)), by decide +kernel, by decide +kernel⟩
  · cases h; exact ⟨by decide, by decide, by decide +kernel, by decide, (ws_mem (List.mem_of_getElem? (i := 215) (by decide +kernel)) (by decide +kernel)), by decide +kernel, by decide +kernel⟩
  · cases h; exact ⟨by decide, by decide, by decide +kernel, by decide, (ws_mem (List.mem_of_getElem? (i := 187) (by decide +kernel)) (by decide +kernel)), by decide +kernel, by decide +kernel⟩
  · cases h; exact ⟨by decide, by decide, by decide +kernel, by decide, (ws_mem (List.mem_of_getElem? (i := 161) (by decide +kernel)) (by decide +kernel)), by decide +kernel, by decide +kernel⟩
  · cases h; exact ⟨by decide, by decide, by decide +kernel, by decide, (ws_mem (List.mem_of_getElem? (i := 129) (by decide +kernel)) (by decide +kernel)), by decide +kernel, by decide +kernel⟩
  · cases h; exact ⟨by decide, by decide, by decide +kernel, by decide, (ws_mem (List.mem_of_getElem? (i := 112) (by decide +kernel)) (by decide +kernel)), by decide +kernel, by decide +kernel⟩
  · cases h; exact ⟨by decide, by decide, by decide +kernel, by decide, (ws_mem (List.mem_of_getElem? (i := 193) (by decide +kernel)) (by decide +kernel)), by decide +kernel, by decide +kernel⟩
  · cases h; exact ⟨by decide, by decide, by decide +kernel, by decide, (ws_mem (List.mem_of_getElem? (i := 134) (by decide +kernel)) (by decide +kernel)), by decide +kernel, by decide +kernel⟩
  · cases h; exact ⟨by decide, by decide, by decide +kernel, by decide, (ws_mem (List.mem_of_getElem? (i := 106) (by decide +kernel)) (by decide +kernel)), by decide +kernel, by decide +kernel⟩
  · cases h; exact ⟨by decide, by decide, by decide +kernel, by decide, (ws_mem (List.mem_of_getElem? (i := 167) (by decide +kernel)) (by decide +kernel)), by decide +kernel, by decide +kernel⟩
  · cases h
def zX7 (x : Nat) : Option (Int ⊕ Int) := match x with
  | 139 => some (.inl 536870912)
  | _ => none
theorem ozX7_139 (f : Int → Prop) : oI zX7 139 f = f 536870912 := propext Iff.rfl
theorem zokX7 : ZOK RX7 zX7 := by
  intro x v
  unfold zX7
  split
  · exact ⟨(fun h => (by cases h; exact (ws_mem (List.mem_of_getElem? (i := 487) (by decide +kernel)) (by decide +kernel)))), (fun h => (by cases h))⟩
  · exact ⟨(fun h => (by cases h)), (fun h => (by cases h))⟩
def uX7 (x : Nat) : Option Nat := match x with
  | 9 => some 5
  | 18 => some 0
  | 25 => some 6
  | 39 => some 16
  | _ => none
theorem onX7_9 (f : Nat → Prop) (g : Prop) : oN uX7 9 f g = f 5 := propext Iff.rfl
theorem onX7_18 (f : Nat → Prop) (g : Prop) : oN uX7 18 f g = f 0 := propext Iff.rfl
theorem onX7_25 (f : Nat → Prop) (g : Prop) : oN uX7 25 f g = f 6 := propext Iff.rfl
theorem onX7_39 (f : Nat → Prop) (g : Prop) : oN uX7 39 f g = f 16 := propext Iff.rfl
theorem uokX7 : UOK RX7 uX7 := by
  intro x t h
  unfold uX7 at h
  split at h
  · cases h; exact ⟨fun _ => ⟨(ws_mem (List.mem_of_getElem? (i := 85) (by decide +kernel)) (by decide +kernel)), (ws_mem (List.mem_of_getElem? (i := 86) (by decide +kernel)) (by decide +kernel)), (ws_mem (List.mem_of_getElem? (i := 55) (by decide +kernel)) (by decide +kernel))⟩, fun q => by revert q; decide, fun q => by revert q; decide, fun q => by revert q; decide⟩
  · cases h; exact ⟨fun _ => ⟨(ws_mem (List.mem_of_getElem? (i := 140) (by decide +kernel)) (by decide +kernel)), (ws_mem (List.mem_of_getElem? (i := 141) (by decide +kernel)) (by decide +kernel)), (ws_mem (List.mem_of_getElem? (i := 57) (by decide +kernel)) (by decide +kernel))⟩, fun q => by revert q; decide, fun q => by revert q; decide, fun q => by revert q; decide⟩
  · cases h; exact ⟨fun _ => ⟨(ws_mem (List.mem_of_getElem? (i := 180) (by decide +kernel)) (by decide +kernel)), (ws_mem (List.mem_of_getElem? (i := 181) (by decide +kernel)) (by decide +kernel)), (ws_mem (List.mem_of_getElem? (i := 59) (by decide +kernel)) (by decide +kernel))⟩, fun q => by revert q; decide, fun q => by revert q; decide, fun q => by revert q; decide⟩
  · cases h; exact ⟨fun q => by revert q; decide, fun q => by revert q; decide, fun q => by revert q; decide, fun _ => (ws_mem (List.mem_of_getElem? (i := 206) (by decide +kernel)) (by decide +kernel))⟩
  · cases h
def fX8 (x : Nat) : Option (Nat × Nat × Nat × Nat) := match x with
  | 10 => some (8, 0, 2, 1)
  | 19 => some (8, 1, 2, 1)
  | 26 => some (8, 2, 2, 1)
  | 32 => some (8, 3, 2, 1)
  | 41 => some (7, 0, 2, 2)
  | 45 => some (5, 1, 0, 0)
  | 65 => some (5, 0, 2, 2)
  | 69 => some (3, 2, 0, 0)
  | 74 => some (7, 1, 2, 2)
  | 87 => some (1, 4, 0, 0)
  | 90 => some (1, 6, 0, 0)
  | 93 => some (0, 0, 2, 2)
  | 97 => some (7, 2, 3, 0)
  | 105 => some (0, 1, 2, 2)
  | 116 => some (6, 1, 2, 2)
  | 128 => some (6, 3, 0, 0)
  | 135 => some (6, 0, 2, 2)
  | 138 => some (6, 2, 2, 2)
  | 161 => some (3, 4, 0, 0)
  | 169 => some (1, 0, 2, 2)
  | 172 => some (1, 1, 2, 2)
  | 175 => some (1, 5, 3, 0)
  | 192 => some (1, 7, 0, 0)
  | 193 => some (1, 2, 2, 2)
  | 199 => some (1, 3, 2, 2)
  | 211 => some (2, 0, 0, 0)
  | 231 => some (2, 1, 0, 0)
  | 250 => some (2, 2, 2, 2)
  | 260 => some (3, 3, 0, 0)
  | _ => none
theorem ofX8_10 (f : Nat → Nat → Nat → Nat → Prop) : oF fX8 10 f = f 8 0 2 1 := propext Iff.rfl
theorem ofX8_19 (f : Nat → Nat → Nat → Nat → Prop) : oF fX8 19 f = f 8 1 2 1 := propext Iff.rfl
theorem ofX8_26 (f : Nat → Nat → Nat → Nat → Prop) : oF fX8 26 f = f 8 2 2 1 := propext Iff.rfl
theorem ofX8_32 (f : Nat → Nat → Nat → Nat → Prop) : oF fX8 32 f = f 8 3 2 1 := propext Iff.rfl
theorem ofX8_41 (f : Nat → Nat → Nat → Nat → Prop) : oF fX8 41 f = f 7 0 2 2 := propext Iff.rfl
theorem ofX8_45 (f : Nat → Nat → Nat → Nat → Prop) : oF fX8 45 f = f 5 1 0 0 := propext Iff.rfl
theorem ofX8_65 (f : Nat → Nat → Nat → Nat → Prop) : oF fX8 65 f = f 5 0 2 2 := propext Iff.rfl
theorem ofX8_69 (f : Nat → Nat → Nat → Nat → Prop) : oF fX8 69 f = f 3 2 0 0 := propext Iff.rfl
theorem ofX8_74 (f : Nat → Nat → Nat → Nat → Prop) : oF fX8 74 f = f 7 1 2 2 := propext Iff.rfl
theorem ofX8_87 (f : Nat → Nat → Nat → Nat → Prop) : oF fX8 87 f = f 1 4 0 0 := propext Iff.rfl
theorem ofX8_90 (f : Nat → Nat → Nat → Nat → Prop) : oF fX8 90 f = f 1 6 0 0 := propext Iff.rfl
theorem ofX8_93 (f : Nat → Nat → Nat → Nat → Prop) : oF fX8 93 f = f 0 0 2 2 := propext Iff.rfl
theorem ofX8_97 (f : Nat → Nat → Nat → Nat → Prop) : oF fX8 97 f = f 7 2 3 0 := propext Iff.rfl
theorem ofX8_105 (f : Nat → Nat → Nat → Nat → Prop) : oF fX8 105 f = f 0 1 2 2 := propext Iff.rfl
theorem ofX8_116 (f : Nat → Nat → Nat → Nat → Prop) : oF fX8 116 f = f 6 1 2 2 := propext Iff.rfl
theorem ofX8_128 (f : Nat → Nat → Nat → Nat → Prop) : oF fX8 128 f = f 6 3 0 0 := propext Iff.rfl
theorem ofX8_135 (f : Nat → Nat → Nat → Nat → Prop) : oF fX8 135 f = f 6 0 2 2 := propext Iff.rfl
theorem ofX8_138 (f : Nat → Nat → Nat → Nat → Prop) : oF fX8 138 f = f 6 2 2 2 := propext Iff.rfl
theorem ofX8_161 (f : Nat → Nat → Nat → Nat → Prop) : oF fX8 161 f = f 3 4 0 0 := propext Iff.rfl
theorem ofX8_169 (f : Nat → Nat → Nat → Nat → Prop) : oF fX8 169 f = f 1 0 2 2 := propext Iff.rfl
theorem ofX8_172 (f : Nat → Nat → Nat → Nat → Prop) : oF fX8 172 f = f 1 1 2 2 := propext Iff.rfl
theorem ofX8_175 (f : Nat → Nat → Nat → Nat → Prop) : oF fX8 175 f = f 1 5 3 0 := propext Iff.rfl
theorem ofX8_192 (f : Nat → Nat → Nat → Nat → Prop) : oF fX8 192 f = f 1 7 0 0 := propext Iff.rfl
theorem ofX8_193 (f : Nat → Nat → Nat → Nat → Prop) : oF fX8 193 f = f 1 2 2 2 := propext Iff.rfl
theorem ofX8_199 (f : Nat → Nat → Nat → Nat → Prop) : oF fX8 199 f = f 1 3 2 2 := propext Iff.rfl
theorem ofX8_211 (f : Nat → Nat → Nat → Nat → Prop) : oF fX8 211 f = f 2 0 0 0 := propext Iff.rfl
theorem ofX8_231 (f : Nat → Nat → Nat → Nat → Prop) : oF fX8 231 f = f 2 1 0 0 := propext Iff.rfl
theorem ofX8_250 (f : Nat → Nat → Nat → Nat → Prop) : oF fX8 250 f = f 2 2 2 2 := propext Iff.rfl
theorem ofX8_260 (f : Nat → Nat → Nat → Nat → Prop) : oF fX8 260 f = f 3 3 0 0 := propext Iff.rfl
theorem fokX8 : FOK RX8 fX8 := by
  intro x ci fi cd fw h
  unfold fX8 at h
  split at h
  · cases h; exact ⟨by decide, by decide, by decide +kernel, by decide, (ws_mem (List.mem_of_getElem? (i := 347) (by decide +kernel)) (by decide +kernel)), by decide +kernel, by decide +kernel⟩
  · cases h; exact ⟨by decide, by decide, by decide +kernel, by decide, (ws_mem (List.mem_of_getElem? (i := 348) (by decide +kernel)) (by decide +kernel)), by decide +kernel, by decide +kernel⟩
  · cases h; exact ⟨by decide, by decide, by decide +kernel, by decide, (ws_mem (List.mem_of_getElem? (i := 349) (by decide +kernel)) (by decide +kernel)), by decide +kernel, by decide +kernel⟩
  · cases h; exact ⟨by decide, by decide, by decide +kernel, by decide, (ws_mem (List.mem_of_getElem? (i := 350) (by decide +kernel)) (by decide +kernel)), by decide +kernel, by decide +kernel⟩
  · cases h; exact ⟨by decide, by decide, by decide +kernel, by decide, (ws_mem (List.mem_of_getElem? (i := 212) (by decide +kernel)) (by decide +kernel)), by decide +kernel, by decide +kernel⟩
  · cases h; exact ⟨by decide, by decide, by decide +kernel, by decide, (ws_mem (List.mem_of_getElem? (i := 132) (by decide +kernel)) (by decide +kernel)), by decide +kernel, by decide +kernel⟩
  · cases h; exact ⟨by decide, by decide, by decide +kernel, by decide, (ws_mem (List.mem_of_getElem? (i := 128) (by decide +kernel)) (by decide +kernel)), by decide +kernel, by decide +kernel⟩
  · cases h; exact ⟨by decide, by decide, by decide +kernel, by decide, (ws_mem (List.mem_of_getElem? (i := 105) (by decide +kernel)) (by decide +kernel)), by decide +kernel, by decide +kernel⟩
  · cases h; exact ⟨by decide, by decide, by decide +kernel, by decide, (ws_mem (List.mem_of_getElem? (i := 214) (by decide +kernel)) (by decide +kernel)), by decide +kernel, by decide +kernel⟩
  · cases h; exact ⟨by decide, by decide, by decide +kernel, by decide, (ws_mem (List.mem_of_getElem? (i := 282) (by decide +kernel)) (by decide +kernel)), by decide +kernel, by decide +kernel⟩
  · cases h; exact ⟨by decide, by decide, by decide +kernel, by decide, (ws_mem (List.mem_of_getElem? (i := 286) (by decide +kernel)) (by decide +kernel)), by decide +kernel, by decide +kernel⟩
  · cases h; exact ⟨by decide, by decide, by decide +kernel, by decide, (ws_mem (List.mem_of_getElem? (i := 163) (by decide +kernel)) (by decide +kernel)), by decide +kernel, by decide +kernel⟩
  · cases h; exact ⟨by decide, by decide, by decide +kernel, by decide, (ws_mem (List.mem_of_getElem? (i := 216) (by decide +kernel)) (by decide +kernel)), by decide +kernel, by decide +kernel⟩
  · cases h; exact ⟨by decide, by decide, by decide +kernel, by decide, (ws_mem (List.mem_of_getElem? (i := 166) (by decide +kernel)) (by decide +kernel)), by decide +kernel, by decide +kernel⟩
  · cases h; exact ⟨by decide, by decide, by decide +kernel, by decide, (ws_mem (List.mem_of_getElem? (i := 190) (by decide +kernel)) (by decide +kernel)), by decide +kernel, by decide +kernel⟩
  · cases h; exact ⟨by decide, by decide, by decide +kernel, by decide, (ws_mem (List.mem_of_getElem? (i := 196) (by decide +kernel)) (by decide +kernel)), by decide +kernel, by decide +kernel⟩
  · cases h; exact ⟨by decide, by decide, by decide +kernel, by decide, (ws_mem (List.mem_of_getElem? (i := 188) (by decide +kernel)) (by decide +kernel)), by decide +kernel, by decide +kernel⟩
  · cases h; exact ⟨by decide, by decide, by decide +kernel, by decide, (ws_mem (List.mem_of_getElem? (i := 194) (by decide +kernel)) (by decide +kernel)), by decide +kernel, by decide +kernel⟩
  · cases h; exact ⟨by decide, by decide, by decide +kernel, by decide, (ws_mem (List.mem_of_getElem? (i := 113) (by decide +kernel)) (by decide +kernel)), by decide +kernel, by decide +kernel⟩
  · cases h; exact ⟨by decide, by decide, by decide +kernel, by decide, (ws_mem (List.mem_of_getElem? (i := 274) (by decide +kernel)) (by decide +kernel)), by decide +kernel, by decide +kernel⟩
  · cases h; exact ⟨by decide, by decide, by decide +kernel, by decide, (ws_mem (List.mem_of_getElem? (i := 276) (by decide +kernel)) (by decide +kernel)), by decide +kernel, by decide +kernel⟩
  · cases h; exact ⟨by decide, by decide, by decide +kernel, by decide, (ws_mem (List.mem_of_getElem? (i := 284) (by decide +kernel)) (by decide +kernel)), by decide +kernel, by decide +kernel⟩
  · cases h; exact ⟨by decide, by decide, by decide +kernel, by decide, (ws_mem (List.mem_of_getElem? (i := 288) (by decide +kernel)) (by decide +kernel)), by decide +kernel, by decide +kernel⟩
  · cases h; exact ⟨by decide, by decide, by decide +kernel, by decide, (ws_mem (List.mem_of_getElem? (i := 278) (by decide +kernel)) (by decide +kernel)), by decide +kernel, by decide +kernel⟩
  · cases h; exact ⟨by decide, by decide, by decide +kernel, by decide, (ws_mem (List.mem_of_getElem? (i := 280) (by decide +kernel)) (by decide +kernel)), by decide +kernel, by decide +kernel⟩
  · cases h; exact ⟨by decide, by decide, by decide +kernel, by decide, (ws_mem (List.mem_of_getElem? (i := 328) (by decide +kernel)) (by decide +kernel)), by decide +kernel, by decide +kernel⟩
  · cases h; exact ⟨by decide, by decide, by decide +kernel, by decide, (ws_mem (List.mem_of_getElem? (i := 330) (by decide +kernel)) (by decide +kernel)), by decide +kernel, by decide +kernel⟩
  · cases h; exact ⟨by decide, by decide, by decide +kernel, by decide, (ws_mem (List.mem_of_getElem? (i := 332) (by decide +kernel)) (by decide +kernel)), by decide +kernel, by decide +kernel⟩
  · cases h; exact ⟨by decide, by decide, by decide +kernel, by decide, (ws_mem (List.mem_of_getElem? (i := 109) (by decide +kernel)) (by decide +kernel)), by decide +kernel, by decide +kernel⟩
  · cases h
def zX8 (x : Nat) : Option (Int ⊕ Int) := match x with
  | 160 => some (.inl 200000)
  | 263 => some (.inl 100000)
  | _ => none
theorem ozX8_160 (f : Int → Prop) : oI zX8 160 f = f 200000 := propext Iff.rfl
theorem ozX8_263 (f : Int → Prop) : oI zX8 263 f = f 100000 := propext Iff.rfl
theorem zokX8 : ZOK RX8 zX8 := by
  intro x v
  unfold zX8
  split
  · exact ⟨(fun h => (by cases h; exact (ws_mem (List.mem_of_getElem? (i := 551) (by decide +kernel)) (by decide +kernel)))), (fun h => (by cases h))⟩
  · exact ⟨(fun h => (by cases h; exact (ws_mem (List.mem_of_getElem? (i := 410) (by decide +kernel)) (by decide +kernel)))), (fun h => (by cases h))⟩
  · exact ⟨(fun h => (by cases h)), (fun h => (by cases h))⟩
def uX8 (x : Nat) : Option Nat := match x with
  | 7 => some 7
  | 16 => some 4
  | 23 => some 1
  | 30 => some 2
  | 100030 => some 15
  | _ => none
theorem onX8_7 (f : Nat → Prop) (g : Prop) : oN uX8 7 f g = f 7 := propext Iff.rfl
theorem onX8_16 (f : Nat → Prop) (g : Prop) : oN uX8 16 f g = f 4 := propext Iff.rfl
theorem onX8_23 (f : Nat → Prop) (g : Prop) : oN uX8 23 f g = f 1 := propext Iff.rfl
theorem onX8_30 (f : Nat → Prop) (g : Prop) : oN uX8 30 f g = f 2 := propext Iff.rfl
theorem onX8_100030 (f : Nat → Prop) (g : Prop) : oN uX8 100030 f g = f 15 := propext Iff.rfl
theorem uokX8 : UOK RX8 uX8 := by
  intro x t h
  unfold uX8 at h
  split at h
  · cases h; exact ⟨fun _ => ⟨(ws_mem (List.mem_of_getElem? (i := 79) (by decide +kernel)) (by decide +kernel)), (ws_mem (List.mem_of_getElem? (i := 80) (by decide +kernel)) (by decide +kernel)), (ws_mem (List.mem_of_getElem? (i := 54) (by decide +kernel)) (by decide +kernel))⟩, fun q => by revert q; decide, fun q => by revert q; decide, fun q => by revert q; decide⟩
  · cases h; exact ⟨fun _ => ⟨(ws_mem (List.mem_of_getElem? (i := 251) (by decide +kernel)) (by decide +kernel)), (ws_mem (List.mem_of_getElem? (i := 252) (by decide +kernel)) (by decide +kernel)), (ws_mem (List.mem_of_getElem? (i := 61) (by decide +kernel)) (by decide +kernel))⟩, fun q => by revert q; decide, fun q => by revert q; decide, fun q => by revert q; decide⟩
  · cases h; exact ⟨fun _ => ⟨(ws_mem (List.mem_of_getElem? (i := 265) (by decide +kernel)) (by decide +kernel)), (ws_mem (List.mem_of_getElem? (i := 266) (by decide +kernel)) (by decide +kernel)), (ws_mem (List.mem_of_getElem? (i := 62) (by decide +kernel)) (by decide +kernel))⟩, fun q => by revert q; decide, fun q => by revert q; decide, fun q => by revert q; decide⟩
  · cases h; exact ⟨fun _ => ⟨(ws_mem (List.mem_of_getElem? (i := 318) (by decide +kernel)) (by decide +kernel)), (ws_mem (List.mem_of_getElem? (i := 320) (by decide +kernel)) (by decide +kernel)), (ws_mem (List.mem_of_getElem? (i := 63) (by decide +kernel)) (by decide +kernel))⟩, fun q => by revert q; decide, fun q => by revert q; decide, fun q => by revert q; decide⟩
  · cases h; exact ⟨fun q => by revert q; decide, fun q => by revert q; decide, fun _ => (ws_mem (List.mem_of_getElem? (i := 318) (by decide +kernel)) (by decide +kernel)), fun q => by revert q; decide⟩
  · cases h
theorem onX8_121 (f : Nat → Prop) (g : Prop) : oN uX8 121 f g = g := propext Iff.rfl
theorem onX8_232 (f : Nat → Prop) (g : Prop) : oN uX8 232 f g = g := propext Iff.rfl
def fX9 (x : Nat) : Option (Nat × Nat × Nat × Nat) := match x with
  | 7 => some (9, 0, 0, 0)
  | 13 => some (9, 1, 0, 0)
  | 16 => some (9, 2, 0, 0)
  | 19 => some (9, 3, 0, 0)
  | 22 => some (9, 4, 0, 0)
  | 25 => some (9, 5, 0, 0)
  | 28 => some (9, 6, 2, 1)
  | 32 => some (9, 7, 2, 1)
  | 35 => some (9, 8, 2, 1)
  | 38 => some (9, 9, 2, 1)
  | 41 => some (9, 10, 2, 1)
  | 44 => some (9, 11, 2, 1)
  | 47 => some (9, 12, 2, 1)
  | 50 => some (9, 13, 2, 1)
  | 54 => some (9, 14, 2, 1)
  | 58 => some (9, 15, 2, 1)
  | 61 => some (9, 16, 2, 1)
  | 64 => some (9, 17, 2, 1)
  | 67 => some (9, 18, 2, 1)
  | 70 => some (9, 19, 2, 1)
  | 73 => some (9, 20, 2, 1)
  | 76 => some (9, 21, 2, 1)
  | 79 => some (9, 22, 2, 1)
  | 82 => some (9, 23, 2, 1)
  | 85 => some (9, 24, 2, 1)
  | 88 => some (9, 25, 3, 0)
  | 92 => some (9, 26, 2, 1)
  | 95 => some (9, 27, 2, 1)
  | 98 => some (9, 28, 2, 1)
  | 101 => some (9, 29, 2, 1)
  | 104 => some (9, 30, 2, 1)
  | 107 => some (9, 31, 2, 1)
  | 110 => some (9, 32, 2, 1)
  | 113 => some (9, 33, 2, 1)
  | 116 => some (9, 34, 2, 1)
  | 119 => some (9, 35, 2, 1)
  | 122 => some (9, 36, 2, 1)
  | 125 => some (9, 37, 2, 1)
  | _ => none
theorem ofX9_7 (f : Nat → Nat → Nat → Nat → Prop) : oF fX9 7 f = f 9 0 0 0 := propext Iff.rfl
theorem ofX9_13 (f : Nat → Nat → Nat → Nat → Prop) : oF fX9 13 f = f 9 1 0 0 := propext Iff.rfl
theorem ofX9_16 (f : Nat → Nat → Nat → Nat → Prop) : oF fX9 16 f = f 9 2 0 0 := propext Iff.rfl
theorem ofX9_19 (f : Nat → Nat → Nat → Nat → Prop) : oF fX9 19 f = f 9 3 0 0 := propext Iff.rfl
theorem ofX9_22 (f : Nat → Nat → Nat → Nat → Prop) : oF fX9 22 f = f 9 4 0 0 := propext Iff.rfl
theorem ofX9_25 (f : Nat → Nat → Nat → Nat → Prop) : oF fX9 25 f = f 9 5 0 0 := propext Iff.rfl
theorem ofX9_28 (f : Nat → Nat → Nat → Nat → Prop) : oF fX9 28 f = f 9 6 2 1 := propext Iff.rfl
theorem ofX9_32 (f : Nat → Nat → Nat → Nat → Prop) : oF fX9 32 f = f 9 7 2 1 := propext Iff.rfl
theorem ofX9_35 (f : Nat → Nat → Nat → Nat → Prop) : oF fX9 35 f = f 9 8 2 1 := propext Iff.rfl
theorem ofX9_38 (f : Nat → Nat → Nat → Nat → Prop) : oF fX9 38 f = f 9 9 2 1 := propext Iff.rfl
theorem ofX9_41 (f : Nat → Nat → Nat → Nat → Prop) : oF fX9 41 f = f 9 10 2 1 := propext Iff.rfl
theorem ofX9_44 (f : Nat → Nat → Nat → Nat → Prop) : oF fX9 44 f = f 9 11 2 1 := propext Iff.rfl
theorem ofX9_47 (f : Nat → Nat → Nat → Nat → Prop) : oF fX9 47 f = f 9 12 2 1 := propext Iff.rfl
theorem ofX9_50 (f : Nat → Nat → Nat → Nat → Prop) : oF fX9 50 f = f 9 13 2 1 := propext Iff.rfl
theorem ofX9_54 (f : Nat → Nat → Nat → Nat → Prop) : oF fX9 54 f = f 9 14 2 1 := propext Iff.rfl
theorem ofX9_58 (f : Nat → Nat → Nat → Nat → Prop) : oF fX9 58 f = f 9 15 2 1 := propext Iff.rfl
theorem ofX9_61 (f : Nat → Nat → Nat → Nat → Prop) : oF fX9 61 f = f 9 16 2 1 := propext Iff.rfl
theorem ofX9_64 (f : Nat → Nat → Nat → Nat → Prop) : oF fX9 64 f = f 9 17 2 1 := propext Iff.rfl
theorem ofX9_67 (f : Nat → Nat → Nat → Nat → Prop) : oF fX9 67 f = f 9 18 2 1 := propext Iff.rfl
theorem ofX9_70 (f : Nat → Nat → Nat → Nat → Prop) : oF fX9 70 f = f 9 19 2 1 := propext Iff.rfl
theorem ofX9_73 (f : Nat → Nat → Nat → Nat → Prop) : oF fX9 73 f = f 9 20 2 1 := propext Iff.rfl
theorem ofX9_76 (f : Nat → Nat → Nat → Nat → Prop) : oF fX9 76 f = f 9 21 2 1 := propext Iff.rfl
theorem ofX9_79 (f : Nat → Nat → Nat → Nat → Prop) : oF fX9 79 f = f 9 22 2 1 := propext Iff.rfl
theorem ofX9_82 (f : Nat → Nat → Nat → Nat → Prop) : oF fX9 82 f = f 9 23 2 1 := propext Iff.rfl
theorem ofX9_85 (f : Nat → Nat → Nat → Nat → Prop) : oF fX9 85 f = f 9 24 2 1 := propext Iff.rfl
theorem ofX9_88 (f : Nat → Nat → Nat → Nat → Prop) : oF fX9 88 f = f 9 25 3 0 := propext Iff.rfl
theorem ofX9_92 (f : Nat → Nat → Nat → Nat → Prop) : oF fX9 92 f = f 9 26 2 1 := propext Iff.rfl
theorem ofX9_95 (f : Nat → Nat → Nat → Nat → Prop) : oF fX9 95 f = f 9 27 2 1 := propext Iff.rfl
theorem ofX9_98 (f : Nat → Nat → Nat → Nat → Prop) : oF fX9 98 f = f 9 28 2 1 := propext Iff.rfl
theorem ofX9_101 (f : Nat → Nat → Nat → Nat → Prop) : oF fX9 101 f = f 9 29 2 1 := propext Iff.rfl
theorem ofX9_104 (f : Nat → Nat → Nat → Nat → Prop) : oF fX9 104 f = f 9 30 2 1 := propext Iff.rfl
theorem ofX9_107 (f : Nat → Nat → Nat → Nat → Prop) : oF fX9 107 f = f 9 31 2 1 := propext Iff.rfl
theorem ofX9_110 (f : Nat → Nat → Nat → Nat → Prop) : oF fX9 110 f = f 9 32 2 1 := propext Iff.rfl
theorem ofX9_113 (f : Nat → Nat → Nat → Nat → Prop) : oF fX9 113 f = f 9 33 2 1 := propext Iff.rfl
theorem ofX9_116 (f : Nat → Nat → Nat → Nat → Prop) : oF fX9 116 f = f 9 34 2 1 := propext Iff.rfl
theorem ofX9_119 (f : Nat → Nat → Nat → Nat → Prop) : oF fX9 119 f = f 9 35 2 1 := propext Iff.rfl
theorem ofX9_122 (f : Nat → Nat → Nat → Nat → Prop) : oF fX9 122 f = f 9 36 2 1 := propext Iff.rfl
theorem ofX9_125 (f : Nat → Nat → Nat → Nat → Prop) : oF fX9 125 f = f 9 37 2 1 := propext Iff.rfl
theorem fokX9 : FOK RX9 fX9 := by
  intro x ci fi cd fw h
  unfold fX9 at h
  split at h
  · cases h; exact ⟨by decide, by decide, by decide +kernel, by decide, (ws_mem (List.mem_of_getElem? (i := 855) (by decide +kernel)) (by decide +kernel)), by decide +kernel, by decide +kernel⟩
  · cases h; exact ⟨by decide, by decide, by decide +kernel, by decide, (ws_mem (List.mem_of_getElem? (i := 856) (by decide +kernel)) (by decide +kernel)), by decide +kernel, by decide +kernel⟩
  · cases h; exact ⟨by decide, by decide, by decide +kernel, by decide, (ws_mem (List.mem_of_getElem? (i := 857) (by decide +kernel)) (by decide +kernel)), by decide +kernel, by decide +kernel⟩
  · cases h; exact ⟨by decide, by decide, by decide +kernel, by decide, (ws_mem (List.mem_of_getElem? (i := 858) (by decide +kernel)) (by decide +kernel)), by decide +kernel, by decide +kernel⟩
  · cases h; exact ⟨by decide, by decide, by decide +kernel, by decide, (ws_mem (List.mem_of_getElem? (i := 859) (by decide +kernel)) (by decide +kernel)), by decide +kernel, by decide +kernel⟩
  · cases h; exact ⟨by decide, by decide, by decide +kernel, by decide, (ws_mem (List.mem_of_getElem? (i := 860) (by decide +kernel)) (by decide +kernel)), by decide +kernel, by decide +kernel⟩
  · cases h; exact ⟨by decide, by decide, by decide +kernel, by decide, (ws_mem (List.mem_of_getElem? (i := 861) (by decide +kernel)) (by decide +kernel)), by decide +kernel, by decide +kernel⟩
  · cases h; exact ⟨by decide, by decide, by decide +kernel, by decide, (ws_mem (List.mem_of_getElem? (i := 862) (by decide +kernel)) (by decide +kernel)), by decide +kernel, by decide +kernel⟩
  · cases h; exact ⟨by decide, by decide, by decide +kernel, by decide, (ws_mem (List.mem_of_getElem? (i := 863) (by decide +kernel)) (by decide +kernel)), by decide +kernel, by decide +kernel⟩
  · cases h; exact ⟨by decide, by decide, by decide +kernel, by decide, (ws_mem (List.mem_of_getElem? (i := 864) (by decide +kernel)) (by decide +kernel)), by decide +kernel, by decide +kernel⟩
  · cases h; exact ⟨by decide, by decide, by decide +kernel, by decide, (ws_mem (List.mem_of_getElem? (i := 865) (by decide +kernel)) (by decide +kernel)), by decide +kernel, by decide +kernel⟩
  · cases h; exact ⟨by decide, by decide, by decide +kernel, by decide, (ws_mem (List.mem_of_getElem? (i := 866) (by decide +kernel)) (by decide +kernel)), by decide +kernel, by decide +kernel⟩
  · cases h; exact ⟨by decide, by decide, by decide +kernel, by decide, (ws_mem (List.mem_of_getElem? (i := 867) (by decide +kernel)) (by decide +kernel)), by decide +kernel, by decide +kernel⟩
  · cases h; exact ⟨by decide, by decide, by decide +kernel, by decide, (ws_mem (List.mem_of_getElem? (i := 868) (by decide +kernel)) (by decide +kernel)), by decide +kernel, by decide +kernel⟩
  · cases h; exact ⟨by decide, by decide, by decide +kernel, by decide, (ws_mem (List.mem_of_getElem? (i := 869) (by decide +kernel)) (by decide +kernel)), by decide +kernel, by decide +kernel⟩
  · cases h; exact ⟨by decide, by decide, by decide +kernel, by decide, (ws_mem (List.mem_of_getElem? (i := 870) (by decide +kernel)) (by decide +kernel)), by decide +kernel, by decide +kernel⟩
  · cases h; exact ⟨by decide, by decide, by decide +kernel, by decide, (ws_mem (List.mem_of_getElem? (i := 871) (by decide +kernel)) (by decide +kernel)), by decide +kernel, by decide +kernel⟩
  · cases h; exact ⟨by decide, by decide, by decide +kernel, by decide, (ws_mem (List.mem_of_getElem? (i := 872) (by decide +kernel)) (by decide +kernel)), by decide +kernel, by decide +kernel⟩
  · cases h; exact ⟨by decide, by decide, by decide +kernel, by decide, (ws_mem (List.mem_of_getElem? (i := 873) (by decide +kernel)) (by decide +kernel)), by decide +kernel, by decide +kernel⟩
  · cases h; exact ⟨by decide, by decide, by decide +kernel, by decide, (ws_mem (List.mem_of_getElem? (i := 874) (by decide +kernel)) (by decide +kernel)), by decide +kernel, by decide +kernel⟩
  · cases h; exact ⟨by decide, by decide, by decide +kernel, by decide, (ws_mem (List.mem_of_getElem? (i := 875) (by decide +kernel)) (by decide +kernel)), by decide +kernel, by decide +kernel⟩
  · cases h; exact ⟨by decide, by decide, by decide +kernel, by decide, (ws_mem (List.mem_of_getElem? (i := 876) (by decide +kernel)) (by decide +kernel)), by decide +kernel, by decide +kernel⟩
  · cases h; exact ⟨by decide, by decide, by decide +kernel, by decide, (ws_mem (List.mem_of_getElem? (i := 877) (by decide +kernel)) (by decide +kernel)), by decide +kernel, by decide +kernel⟩
  · cases h; exact ⟨by decide, by decide, by decide +kernel, by decide, (ws_mem (List.mem_of_getElem? (i := 878) (by decide +kernel)) (by decide +kernel)), by decide +kernel, by decide +kernel⟩
  · cases h; exact ⟨by decide, by decide, by decide +kernel, by decide, (ws_mem (List.mem_of_getElem? (i := 879) (by decide +kernel)) (by decide +kernel)), by decide +kernel, by decide +kernel⟩
  · cases h; exact ⟨by decide, by decide, by decide +kernel, by decide, (ws_mem (List.mem_of_getElem? (i := 880) (by decide +kernel)) (by decide +kernel)), by decide +kernel, by decide +kernel⟩
  · cases h; exact ⟨by decide, by decide, by decide +kernel, by decide, (ws_mem (List.mem_of_getElem? (i := 881) (by decide +kernel)) (by decide +kernel)), by decide +kernel, by decide +kernel⟩
  · cases h; exact ⟨by decide, by decide, by decide +kernel, by decide, (ws_mem (List.mem_of_getElem? (i := 882) (by decide +kernel)) (by decide +kernel)), by decide +kernel, by decide +kernel⟩
  · cases h; exact ⟨by decide, by decide, by decide +kernel, by decide, (ws_mem (List.mem_of_getElem? (i := 883) (by decide +kernel)) (by decide +kernel)), by decide +kernel, by decide +kernel⟩
  · cases h; exact ⟨by decide, by decide, by decide +kernel, by decide, (ws_mem (List.mem_of_getElem? (i := 884) (by decide +kernel)) (by decide +kernel)), by decide +kernel, by decide +kernel⟩
  · cases h; exact ⟨by decide, by decide, by decide +kernel, by decide, (ws_mem (List.mem_of_getElem? (i := 885) (by decide +kernel)) (by decide +kernel)), by decide +kernel, by decide +kernel⟩
  · cases h; exact ⟨by decide, by decide, by decide +kernel, by decide, (ws_mem (List.mem_of_getElem? (i := 886) (by decide +kernel)) (by decide +kernel)), by decide +kernel, by decide +kernel⟩
  · cases h; exact ⟨by decide, by decide, by decide +kernel, by decide, (ws_mem (List.mem_of_getElem? (i := 887) (by decide +kernel)) (by decide +kernel)), by decide +kernel, by decide +kernel⟩
  · cases h; exact ⟨by decide, by decide, by decide +kernel, by decide, (ws_mem (List.mem_of_getElem? (i := 888) (by decide +kernel)) (by decide +kernel)), by decide +kernel, by decide +kernel⟩
  · cases h; exact ⟨by decide, by decide, by decide +kernel, by decide, (ws_mem (List.mem_of_getElem? (i := 889) (by decide +kernel)) (by decide +kernel)), by decide +kernel, by decide +kernel⟩
  · cases h; exact ⟨by decide, by decide, by decide +kernel, by decide, (ws_mem (List.mem_of_getElem? (i := 890) (by decide +kernel)) (by decide +kernel)), by decide +kernel, by decide +kernel⟩
  · cases h; exact ⟨by decide, by decide, by decide +kernel, by decide, (ws_mem (List.mem_of_getElem? (i := 891) (by decide +kernel)) (by decide +kernel)), by decide +kernel, by decide +kernel⟩
  · cases h; exact ⟨by decide, by decide, by decide +kernel, by decide, (ws_mem (List.mem_of_getElem? (i := 892) (by decide +kernel)) (by decide +kernel)), by decide +kernel, by decide +kernel⟩
  · cases h
def zX9 (x : Nat) : Option (Int ⊕ Int) := match x with
  | 139 => some (.inl 100000)
  | 174 => some (.inr 1000000000000)
  | 216 => some (.inl 200000)
  | _ => none
theorem ozX9_139 (f : Int → Prop) : oI zX9 139 f = f 100000 := propext Iff.rfl
theorem ozX9_174 (f : Int → Prop) : oL zX9 174 f = f 1000000000000 := propext Iff.rfl
theorem ozX9_216 (f : Int → Prop) : oI zX9 216 f = f 200000 := propext Iff.rfl
theorem zokX9 : ZOK RX9 zX9 := by
  intro x v
  unfold zX9
  split
  · exact ⟨(fun h => (by cases h; exact (ws_mem (List.mem_of_getElem? (i := 1012) (by decide +kernel)) (by decide +kernel)))), (fun h => (by cases h))⟩
  · exact ⟨(fun h => (by cases h)), (fun h => (by cases h; exact (ws_mem (List.mem_of_getElem? (i := 1077) (by decide +kernel)) (by decide +kernel))))⟩
  · exact ⟨(fun h => (by cases h; exact (ws_mem (List.mem_of_getElem? (i := 1142) (by decide +kernel)) (by decide +kernel)))), (fun h => (by cases h))⟩
  · exact ⟨(fun h => (by cases h)), (fun h => (by cases h))⟩
def uX9 (_ : Nat) : Option Nat := none
theorem uokX9 : UOK RX9 uX9 := fun _ _ h => by cases h
def fL (_ : Nat) : Option (Nat × Nat × Nat × Nat) := none
theorem fokL : FOK RL fL := fun _ _ _ _ _ h => by cases h
def zL (_ : Nat) : Option (Int ⊕ Int) := none
theorem zokL : ZOK RL zL := fun _ _ => ⟨(fun h => (by cases h)), (fun h => (by cases h))⟩
def uL (x : Nat) : Option Nat := match x with
  | 8 => some 8
  | 34 => some 9
  | _ => none
theorem onL_8 (f : Nat → Prop) (g : Prop) : oN uL 8 f g = f 8 := propext Iff.rfl
theorem onL_34 (f : Nat → Prop) (g : Prop) : oN uL 34 f g = f 9 := propext Iff.rfl
theorem uokL : UOK RL uL := by
  intro x t h
  unfold uL at h
  split at h
  · cases h; exact ⟨fun _ => ⟨(ws_mem (List.mem_of_getElem? (i := 71) (by decide +kernel)) (by decide +kernel)), (ws_mem (List.mem_of_getElem? (i := 72) (by decide +kernel)) (by decide +kernel)), (ws_mem (List.mem_of_getElem? (i := 53) (by decide +kernel)) (by decide +kernel))⟩, fun q => by revert q; decide, fun q => by revert q; decide, fun q => by revert q; decide⟩
  · cases h; exact ⟨fun _ => ⟨(ws_mem (List.mem_of_getElem? (i := 849) (by decide +kernel)) (by decide +kernel)), (ws_mem (List.mem_of_getElem? (i := 850) (by decide +kernel)) (by decide +kernel)), (ws_mem (List.mem_of_getElem? (i := 64) (by decide +kernel)) (by decide +kernel))⟩, fun q => by revert q; decide, fun q => by revert q; decide, fun q => by revert q; decide⟩
  · cases h
def fJ7 (_ : Nat) : Option (Nat × Nat × Nat × Nat) := none
theorem fokJ7 : FOK RJ7 fJ7 := fun _ _ _ _ _ h => by cases h
def zJ7 (_ : Nat) : Option (Int ⊕ Int) := none
theorem zokJ7 : ZOK RJ7 zJ7 := fun _ _ => ⟨(fun h => (by cases h)), (fun h => (by cases h))⟩
def uJ7 (_ : Nat) : Option Nat := none
theorem uokJ7 : UOK RJ7 uJ7 := fun _ _ h => by cases h
end
section
/-! rows of the layout -/
theorem G_1 : G 1 = (8, 4) := by decide
theorem G_2 : G 2 = (7, 12) := by decide
theorem G_3 : G 3 = (5, 2) := by decide
theorem G_4 : G 4 = (14, 30) := by decide
theorem G_35 : G 35 = (0, 4) := by decide
theorem G_36 : G 36 = (10, 3) := by decide
theorem G_37 : G 37 = (10, 61) := by decide
theorem G_38 : G 38 = (10, 7) := by decide
theorem G_39 : G 39 = (10, 7) := by decide
theorem G_40 : G 40 = (6, 4) := by decide
theorem G_41 : G 41 = (10, 30) := by decide
theorem G_42 : G 42 = (10, 30) := by decide
theorem G_43 : G 43 = (10, 30) := by decide
theorem G_44 : G 44 = (6, 4) := by decide
theorem G_45 : G 45 = (10, 30) := by decide
theorem G_46 : G 46 = (10, 30) := by decide
theorem G_47 : G 47 = (10, 30) := by decide
theorem G_48 : G 48 = (10, 90) := by decide
theorem G_49 : G 49 = (16, 90) := by decide
theorem G_140 : G 140 = (10, 61) := by decide
theorem G_141 : G 141 = (10, 61) := by decide
theorem G_142 : G 142 = (10, 61) := by decide
theorem G_143 : G 143 = (10, 61) := by decide
theorem G_144 : G 144 = (10, 41) := by decide
theorem G_145 : G 145 = (4, 2) := by decide
theorem G_146 : G 146 = (16, 31) := by decide
theorem G_178 : G 178 = (10, 30) := by decide
theorem G_179 : G 179 = (1, 12) := by decide
theorem G_180 : G 180 = (10, 4) := by decide
theorem G_181 : G 181 = (10, 4) := by decide
theorem G_182 : G 182 = (10, 40) := by decide
theorem G_183 : G 183 = (10, 40) := by decide
theorem G_184 : G 184 = (16, 4) := by decide
theorem G_189 : G 189 = (16, 8) := by decide
theorem G_198 : G 198 = (16, 8) := by decide
theorem G_207 : G 207 = (15, 8) := by decide
theorem G_240 : G 240 = (9, 38) := by decide
theorem G_241 : G 241 = (10, 30) := by decide
theorem G_242 : G 242 = (10, 30) := by decide
theorem G_243 : G 243 = (10, 30) := by decide
theorem G_244 : G 244 = (10, 30) := by decide
theorem G_245 : G 245 = (10, 30) := by decide
theorem G_246 : G 246 = (10, 7) := by decide
theorem G_247 : G 247 = (10, 7) := by decide
theorem G_248 : G 248 = (13, 41) := by decide
theorem G_249 : G 249 = (11, 41) := by decide
theorem G_250 : G 250 = (10, 30) := by decide
theorem G_251 : G 251 = (10, 30) := by decide
theorem G_252 : G 252 = (11, 5490) := by decide
theorem G_253 : G 253 = (10, 61) := by decide
theorem G_254 : G 254 = (10, 90) := by decide
theorem G_255 : G 255 = (11, 61) := by decide
theorem G_256 : G 256 = (11, 61) := by decide
theorem G_257 : G 257 = (10, 1891) := by decide
theorem G_258 : G 258 = (10, 4) := by decide
theorem G_259 : G 259 = (10, 4) := by decide
theorem G_260 : G 260 = (11, 13120) := by decide
theorem G_261 : G 261 = (10, 40) := by decide
theorem G_262 : G 262 = (10, 40) := by decide
theorem G_263 : G 263 = (10, 40) := by decide
theorem G_264 : G 264 = (10, 8) := by decide
theorem G_265 : G 265 = (10, 8) := by decide
theorem G_266 : G 266 = (10, 8) := by decide
theorem G_267 : G 267 = (10, 8) := by decide
theorem G_268 : G 268 = (10, 8) := by decide
theorem G_269 : G 269 = (10, 8) := by decide
theorem G_270 : G 270 = (10, 480) := by decide
theorem G_271 : G 271 = (10, 60) := by decide
theorem G_272 : G 272 = (11, 1) := by decide
/-- the references, once all is made -/
def PF (a i : Int) : Option Int :=
  if a = 1 then (if i = 0 then some 2 else if i = 1 then some 145 else if i = 2 then some 179 else if i = 3 then some 207 else none)
  else   if a = 2 then (if i = 0 then some 3 else if i = 1 then some 35 else if i = 3 then some 40 else if i = 4 then some 44 else if i = 5 then some 48 else if i = 6 then some 49 else if i = 7 then some 140 else if i = 8 then some 141 else if i = 9 then some 142 else if i = 10 then some 143 else if i = 11 then some 144 else none)
  else   if a = 3 then (if i = 0 then some 4 else none)
  else   if a = 35 then (if i = 0 then some 36 else if i = 1 then some 37 else if i = 2 then some 38 else if i = 3 then some 39 else none)
  else   if a = 40 then (if i = 0 then some 41 else if i = 1 then some 42 else if i = 2 then some 43 else none)
  else   if a = 44 then (if i = 0 then some 45 else if i = 1 then some 46 else if i = 2 then some 47 else none)
  else   if a = 145 then (if i = 0 then some 146 else if i = 1 then some 178 else none)
  else   if a = 179 then (if i = 0 then some 180 else if i = 1 then some 181 else if i = 2 then some 182 else if i = 3 then some 183 else if i = 8 then some 184 else if i = 9 then some 189 else if i = 10 then some 198 else none)
  else   if a = 240 then (if i = 6 then some 241 else if i = 7 then some 242 else if i = 8 then some 243 else if i = 9 then some 244 else if i = 10 then some 245 else if i = 11 then some 246 else if i = 12 then some 247 else if i = 13 then some 248 else if i = 14 then some 249 else if i = 15 then some 250 else if i = 16 then some 251 else if i = 17 then some 252 else if i = 18 then some 253 else if i = 19 then some 254 else if i = 20 then some 255 else if i = 21 then some 256 else if i = 22 then some 257 else if i = 23 then some 258 else if i = 24 then some 259 else if i = 26 then some 260 else if i = 27 then some 261 else if i = 28 then some 262 else if i = 29 then some 263 else if i = 30 then some 264 else if i = 31 then some 265 else if i = 32 then some 266 else if i = 33 then some 267 else if i = 34 then some 268 else if i = 35 then some 269 else if i = 36 then some 270 else if i = 37 then some 271 else none)
  else if a = 4 then (if 0 ≤ i ∧ i < 30 then some (5 + i) else none)
  else if a = 49 then (if 0 ≤ i ∧ i < 90 then some (50 + i) else none)
  else if a = 146 then (if 0 ≤ i ∧ i < 31 then some (147 + i) else none)
  else if a = 184 then (if 0 ≤ i ∧ i < 4 then some (185 + i) else none)
  else if a = 189 then (if 0 ≤ i ∧ i < 8 then some (190 + i) else none)
  else if a = 198 then (if 0 ≤ i ∧ i < 8 then some (199 + i) else none)
  else if a = 207 then (if 0 ≤ i ∧ i < 8 then some (208 + 4 * i) else none)
  else if 208 ≤ a ∧ a ≤ 236 ∧ (a - 208) % 4 = 0 then (if i = 2 then some (a + 1) else if i = 3 then some (a + 2) else if i = 4 then some (a + 3) else none)
  else none
theorem PF_1_0 : PF 1 0 = some 2 := by decide
theorem PF_1_1 : PF 1 1 = some 145 := by decide
theorem PF_1_2 : PF 1 2 = some 179 := by decide
theorem PF_1_3 : PF 1 3 = some 207 := by decide
theorem PF_2_0 : PF 2 0 = some 3 := by decide
theorem PF_2_1 : PF 2 1 = some 35 := by decide
theorem PF_2_3 : PF 2 3 = some 40 := by decide
theorem PF_2_4 : PF 2 4 = some 44 := by decide
theorem PF_2_5 : PF 2 5 = some 48 := by decide
theorem PF_2_6 : PF 2 6 = some 49 := by decide
theorem PF_2_7 : PF 2 7 = some 140 := by decide
theorem PF_2_8 : PF 2 8 = some 141 := by decide
theorem PF_2_9 : PF 2 9 = some 142 := by decide
theorem PF_2_10 : PF 2 10 = some 143 := by decide
theorem PF_2_11 : PF 2 11 = some 144 := by decide
theorem PF_3_0 : PF 3 0 = some 4 := by decide
theorem PF_35_0 : PF 35 0 = some 36 := by decide
theorem PF_35_1 : PF 35 1 = some 37 := by decide
theorem PF_35_2 : PF 35 2 = some 38 := by decide
theorem PF_35_3 : PF 35 3 = some 39 := by decide
theorem PF_40_0 : PF 40 0 = some 41 := by decide
theorem PF_40_1 : PF 40 1 = some 42 := by decide
theorem PF_40_2 : PF 40 2 = some 43 := by decide
theorem PF_44_0 : PF 44 0 = some 45 := by decide
theorem PF_44_1 : PF 44 1 = some 46 := by decide
theorem PF_44_2 : PF 44 2 = some 47 := by decide
theorem PF_145_0 : PF 145 0 = some 146 := by decide
theorem PF_145_1 : PF 145 1 = some 178 := by decide
theorem PF_179_0 : PF 179 0 = some 180 := by decide
theorem PF_179_1 : PF 179 1 = some 181 := by decide
theorem PF_179_2 : PF 179 2 = some 182 := by decide
theorem PF_179_3 : PF 179 3 = some 183 := by decide
theorem PF_179_8 : PF 179 8 = some 184 := by decide
theorem PF_179_9 : PF 179 9 = some 189 := by decide
theorem PF_179_10 : PF 179 10 = some 198 := by decide
theorem PF_240_6 : PF 240 6 = some 241 := by decide
theorem PF_240_7 : PF 240 7 = some 242 := by decide
theorem PF_240_8 : PF 240 8 = some 243 := by decide
theorem PF_240_9 : PF 240 9 = some 244 := by decide
theorem PF_240_10 : PF 240 10 = some 245 := by decide
theorem PF_240_11 : PF 240 11 = some 246 := by decide
theorem PF_240_12 : PF 240 12 = some 247 := by decide
theorem PF_240_13 : PF 240 13 = some 248 := by decide
theorem PF_240_14 : PF 240 14 = some 249 := by decide
theorem PF_240_15 : PF 240 15 = some 250 := by decide
theorem PF_240_16 : PF 240 16 = some 251 := by decide
theorem PF_240_17 : PF 240 17 = some 252 := by decide
theorem PF_240_18 : PF 240 18 = some 253 := by decide
theorem PF_240_19 : PF 240 19 = some 254 := by decide
theorem PF_240_20 : PF 240 20 = some 255 := by decide
theorem PF_240_21 : PF 240 21 = some 256 := by decide
theorem PF_240_22 : PF 240 22 = some 257 := by decide
theorem PF_240_23 : PF 240 23 = some 258 := by decide
theorem PF_240_24 : PF 240 24 = some 259 := by decide
theorem PF_240_26 : PF 240 26 = some 260 := by decide
theorem PF_240_27 : PF 240 27 = some 261 := by decide
theorem PF_240_28 : PF 240 28 = some 262 := by decide
theorem PF_240_29 : PF 240 29 = some 263 := by decide
theorem PF_240_30 : PF 240 30 = some 264 := by decide
theorem PF_240_31 : PF 240 31 = some 265 := by decide
theorem PF_240_32 : PF 240 32 = some 266 := by decide
theorem PF_240_33 : PF 240 33 = some 267 := by decide
theorem PF_240_34 : PF 240 34 = some 268 := by decide
theorem PF_240_35 : PF 240 35 = some 269 := by decide
theorem PF_240_36 : PF 240 36 = some 270 := by decide
theorem PF_240_37 : PF 240 37 = some 271 := by decide
theorem PF_st {i : Int} (h0 : 0 ≤ i) (h1 : i < 30) : PF 4 i = some (5 + i) := by
  have e : (PF 4 i) = (if 0 ≤ i ∧ i < 30 then some (5 + i) else none) := rfl
  rw [e, if_pos ⟨h0, h1⟩]
theorem PF_rest {i : Int} (h0 : 0 ≤ i) (h1 : i < 90) : PF 49 i = some (50 + i) := by
  have e : (PF 49 i) = (if 0 ≤ i ∧ i < 90 then some (50 + i) else none) := rfl
  rw [e, if_pos ⟨h0, h1⟩]
theorem PF_most {i : Int} (h0 : 0 ≤ i) (h1 : i < 31) : PF 146 i = some (147 + i) := by
  have e : (PF 146 i) = (if 0 ≤ i ∧ i < 31 then some (147 + i) else none) := rfl
  rw [e, if_pos ⟨h0, h1⟩]
theorem PF_stint {i : Int} (h0 : 0 ≤ i) (h1 : i < 4) : PF 184 i = some (185 + i) := by
  have e : (PF 184 i) = (if 0 ≤ i ∧ i < 4 then some (185 + i) else none) := rfl
  rw [e, if_pos ⟨h0, h1⟩]
theorem PF_fresh {i : Int} (h0 : 0 ≤ i) (h1 : i < 8) : PF 189 i = some (190 + i) := by
  have e : (PF 189 i) = (if 0 ≤ i ∧ i < 8 then some (190 + i) else none) := rfl
  rw [e, if_pos ⟨h0, h1⟩]
theorem PF_after {i : Int} (h0 : 0 ≤ i) (h1 : i < 8) : PF 198 i = some (199 + i) := by
  have e : (PF 198 i) = (if 0 ≤ i ∧ i < 8 then some (199 + i) else none) := rfl
  rw [e, if_pos ⟨h0, h1⟩]
theorem PF_shelf {i : Int} (h0 : 0 ≤ i) (h1 : i < 8) : PF 207 i = some (208 + 4 * i) := by
  have e : (PF 207 i) = (if 0 ≤ i ∧ i < 8 then some (208 + 4 * i) else none) := rfl
  rw [e, if_pos ⟨h0, h1⟩]
theorem G_rng {a : Int} {k n : Nat} (P : Int → Prop) (h : ∀ j : Nat, j < 273 → P j → G j = (k, n)) (h0 : 0 ≤ a) (h1 : a < 273) (hp : P a) : G a = (k, n) := by
  have e : ((a.toNat : Nat) : Int) = a := by omega
  have := h a.toNat (by omega) (by rw [e]; exact hp)
  rwa [e] at this
theorem G_st {a : Int} (h0 : 5 ≤ a) (h1 : a ≤ 34) : G a = (3, 5) :=
  G_rng (fun a => 5 ≤ a ∧ a ≤ 34) (by decide +kernel) (by omega) (by omega) ⟨h0, h1⟩
theorem G_row {a : Int} (h0 : 50 ≤ a) (h1 : a ≤ 143) : G a = (10, 61) :=
  G_rng (fun a => 50 ≤ a ∧ a ≤ 143) (by decide +kernel) (by omega) (by omega) ⟨h0, h1⟩
theorem G_most {a : Int} (h0 : 147 ≤ a) (h1 : a ≤ 177) : G a = (10, 61) :=
  G_rng (fun a => 147 ≤ a ∧ a ≤ 177) (by decide +kernel) (by omega) (by omega) ⟨h0, h1⟩
theorem G_stint {a : Int} (h0 : 185 ≤ a) (h1 : a ≤ 188) : G a = (10, 41) :=
  G_rng (fun a => 185 ≤ a ∧ a ≤ 188) (by decide +kernel) (by omega) (by omega) ⟨h0, h1⟩
theorem G_fresh {a : Int} (h0 : 190 ≤ a) (h1 : a ≤ 197) : G a = (10, 41) :=
  G_rng (fun a => 190 ≤ a ∧ a ≤ 197) (by decide +kernel) (by omega) (by omega) ⟨h0, h1⟩
theorem G_after {a : Int} (h0 : 199 ≤ a) (h1 : a ≤ 206) : G a = (10, 41) :=
  G_rng (fun a => 199 ≤ a ∧ a ≤ 206) (by decide +kernel) (by omega) (by omega) ⟨h0, h1⟩
theorem G_sh0 {d : Int} (h0 : 0 ≤ d) (h1 : d < 8) : G (208 + 4 * d + 0) = (2, 5) :=
  G_rng (fun a => 208 ≤ a ∧ a ≤ 239 ∧ (a - 208) % 4 = 0) (by decide +kernel) (by omega) (by omega) ⟨by omega, by omega, by omega⟩
theorem G_sh1 {d : Int} (h0 : 0 ≤ d) (h1 : d < 8) : G (208 + 4 * d + 1) = (3, 5) :=
  G_rng (fun a => 208 ≤ a ∧ a ≤ 239 ∧ (a - 208) % 4 = 1) (by decide +kernel) (by omega) (by omega) ⟨by omega, by omega, by omega⟩
theorem G_sh2 {d : Int} (h0 : 0 ≤ d) (h1 : d < 8) : G (208 + 4 * d + 2) = (10, 60) :=
  G_rng (fun a => 208 ≤ a ∧ a ≤ 239 ∧ (a - 208) % 4 = 2) (by decide +kernel) (by omega) (by omega) ⟨by omega, by omega, by omega⟩
theorem G_sh3 {d : Int} (h0 : 0 ≤ d) (h1 : d < 8) : G (208 + 4 * d + 3) = (12, 60) :=
  G_rng (fun a => 208 ≤ a ∧ a ≤ 239 ∧ (a - 208) % 4 = 3) (by decide +kernel) (by omega) (by omega) ⟨by omega, by omega, by omega⟩
theorem PF_sh2 {d : Int} (h0 : 0 ≤ d) (h1 : d < 8) : PF (208 + 4 * d) 2 = some (208 + 4 * d + 1) := by
  unfold PF
  simp only [show ¬ (208 + 4 * d = 1) by omega, show ¬ (208 + 4 * d = 2) by omega, show ¬ (208 + 4 * d = 3) by omega, show ¬ (208 + 4 * d = 35) by omega, show ¬ (208 + 4 * d = 40) by omega, show ¬ (208 + 4 * d = 44) by omega, show ¬ (208 + 4 * d = 145) by omega, show ¬ (208 + 4 * d = 179) by omega, show ¬ (208 + 4 * d = 240) by omega, show ¬ (208 + 4 * d = 4) by omega, show ¬ (208 + 4 * d = 49) by omega, show ¬ (208 + 4 * d = 146) by omega, show ¬ (208 + 4 * d = 184) by omega, show ¬ (208 + 4 * d = 189) by omega, show ¬ (208 + 4 * d = 198) by omega, show ¬ (208 + 4 * d = 207) by omega, show 208 ≤ 208 + 4 * d ∧ 208 + 4 * d ≤ 236 ∧ (208 + 4 * d - 208) % 4 = 0 by omega, if_false, if_true, and_self]
  all_goals simp
theorem PF_sh3 {d : Int} (h0 : 0 ≤ d) (h1 : d < 8) : PF (208 + 4 * d) 3 = some (208 + 4 * d + 2) := by
  unfold PF
  simp only [show ¬ (208 + 4 * d = 1) by omega, show ¬ (208 + 4 * d = 2) by omega, show ¬ (208 + 4 * d = 3) by omega, show ¬ (208 + 4 * d = 35) by omega, show ¬ (208 + 4 * d = 40) by omega, show ¬ (208 + 4 * d = 44) by omega, show ¬ (208 + 4 * d = 145) by omega, show ¬ (208 + 4 * d = 179) by omega, show ¬ (208 + 4 * d = 240) by omega, show ¬ (208 + 4 * d = 4) by omega, show ¬ (208 + 4 * d = 49) by omega, show ¬ (208 + 4 * d = 146) by omega, show ¬ (208 + 4 * d = 184) by omega, show ¬ (208 + 4 * d = 189) by omega, show ¬ (208 + 4 * d = 198) by omega, show ¬ (208 + 4 * d = 207) by omega, show 208 ≤ 208 + 4 * d ∧ 208 + 4 * d ≤ 236 ∧ (208 + 4 * d - 208) % 4 = 0 by omega, if_false, if_true, and_self]
  all_goals simp
theorem PF_sh4 {d : Int} (h0 : 0 ≤ d) (h1 : d < 8) : PF (208 + 4 * d) 4 = some (208 + 4 * d + 3) := by
  unfold PF
  simp only [show ¬ (208 + 4 * d = 1) by omega, show ¬ (208 + 4 * d = 2) by omega, show ¬ (208 + 4 * d = 3) by omega, show ¬ (208 + 4 * d = 35) by omega, show ¬ (208 + 4 * d = 40) by omega, show ¬ (208 + 4 * d = 44) by omega, show ¬ (208 + 4 * d = 145) by omega, show ¬ (208 + 4 * d = 179) by omega, show ¬ (208 + 4 * d = 240) by omega, show ¬ (208 + 4 * d = 4) by omega, show ¬ (208 + 4 * d = 49) by omega, show ¬ (208 + 4 * d = 146) by omega, show ¬ (208 + 4 * d = 184) by omega, show ¬ (208 + 4 * d = 189) by omega, show ¬ (208 + 4 * d = 198) by omega, show ¬ (208 + 4 * d = 207) by omega, show 208 ≤ 208 + 4 * d ∧ 208 + 4 * d ≤ 236 ∧ (208 + 4 * d - 208) % 4 = 0 by omega, if_false, if_true, and_self]
  all_goals simp
def b2i (c : Prop) [Decidable c] : Int := if c then 1 else 0
theorem b2i_0 {c : Prop} [Decidable c] : (b2i c = 0) = ¬ c := by
  unfold b2i; by_cases h : c <;> simp [h]
theorem b2i_1 {c : Prop} [Decidable c] : (b2i c = 1) = c := by
  unfold b2i; by_cases h : c <;> simp [h]
theorem RI_b2i {c : Prop} [Decidable c] : RI (b2i c) = True := by
  unfold b2i; by_cases h : c <;> simp [h, RI]
theorem b2i_lo {c : Prop} [Decidable c] : (-2147483648 ≤ b2i c) = True := by
  unfold b2i; by_cases h : c <;> simp [h]
theorem b2i_hi {c : Prop} [Decidable c] : (b2i c < 2147483648) = True := by
  unfold b2i; by_cases h : c <;> simp [h]
theorem b2i_fit {c : Prop} [Decidable c] : (b2i c = 0 ∨ b2i c = 1) = True := by
  unfold b2i; by_cases h : c <;> simp [h]
theorem b2i_split {c : Prop} [Decidable c] {F : Int → Prop} (h : F (b2i c)) : (¬ c → F 0) ∧ (c → F 1) :=
  ⟨fun q => by unfold b2i at h; rwa [if_neg q] at h, fun q => by unfold b2i at h; rwa [if_pos q] at h⟩
end
section
/-! LapBoard$Station -/
def clp (x : Int) : Int := if x < 1 then 1 else if 60 < x then 60 else x
/-- LIMIT by kind, base, line, on a lane, by a grip -/
def lim (k b ln lane g : Int) : Int := clp ((if k = 0 then 60 else b) + (if k = 1 ∨ k = 2 then g - 3 * (if 0 ≤ lane - ln then lane - ln else ln - lane) else 0) - (if k = 2 then 4 else 0))
theorem lim_rng (k b ln lane g : Int) : 1 ≤ lim k b ln lane g ∧ lim k b ln lane g ≤ 60 := by
  unfold lim clp
  split
  · omega
  · split <;> omega
def ab (x : Int) : Int := if 0 ≤ x then x else -x
theorem ab_of {x r : Int} (h0 : 0 ≤ r) (h : r = x ∨ r = -x) : ab x = r := by unfold ab; split <;> omega
theorem lim_0 (b ln lane g : Int) : lim 0 b ln lane g = 60 := by
  unfold lim clp
  simp
theorem lim_3 (b ln lane g : Int) : lim 3 b ln lane g = clp b := by
  unfold lim
  simp
theorem lim_12 {k : Int} (h : k = 1 ∨ k = 2) (b ln lane g : Int) : lim k b ln lane g = clp (b + (g - 3 * ab (lane - ln)) - (if k = 2 then 4 else 0)) := by
  have e : (if 0 ≤ lane - ln then lane - ln else ln - lane) = ab (lane - ln) := by unfold ab; split <;> omega
  unfold lim
  rw [e, if_neg (by omega), if_pos h]
theorem clp_of {x m r : Int} (h1 : m ≤ 60) (h2 : m ≤ x) (h3 : m = 60 ∨ m = x) (h4 : 1 ≤ r) (h5 : m ≤ r) (h6 : r = 1 ∨ r = m) : r = clp x := by
  unfold clp
  split
  · omega
  · split <;> omega
/-- TIME by length, change (0: none), pace -/
def tmv (len ch p : Int) : Int := if 0 < p then (len + (if ch = 0 then 0 else 2)) * 1000 / p else 0
/-- a station's numbers are in their ranges -/
def stOK (I : Int → Int → Int) (a : Int) : Prop := 0 ≤ I a 0 ∧ I a 0 ≤ 3 ∧ 1 ≤ I a 1 ∧ I a 1 ≤ 99 ∧ 1 ≤ I a 2 ∧ I a 2 ≤ 60 ∧ 0 ≤ I a 3 ∧ I a 3 ≤ 2 ∧ 0 ≤ I a 4 ∧ I a 4 ≤ 200000
def spX3_bends (As : List MV) (σ : MS) (K : Option MV → MS → Prop) : Prop := pR As fun a r => pN r (stOK σ.2.2.1 a ∧ K (some (.inl (b2i (σ.2.2.1 a 0 = 1 ∨ σ.2.2.1 a 0 = 2)))) σ)
def ciX3_bends : CI := (1, 3, 0, 0, spX3_bends)
def kX3_bends (pc : Nat) : List ME := match pc with
  | 0 => [(.aload_n 0, 1, []), (.getfield 9, 3, []), (.iconst 1, 1, []), (.if_icmp .eq 11, 3, [16]), (.aload_n 0, 1, []), (.getfield 9, 3, []), (.iconst 2, 1, []), (.if_icmp .ne 7, 3, [20])]
  | 16 => [(.iconst 1, 1, []), (.goto 4, 3, [21])]
  | 20 => [(.iconst 0, 1, [])]
  | 21 => [(.ireturn, 1, [])]
  | _ => []
theorem qX3_bends : ∀ pc, chk cX3_bends pc (kX3_bends pc) = true := by
  intro pc
  unfold kX3_bends
  split <;> first | decide +kernel | exact chk_nil
abbrev rmX3_bends : Room := { frames := 0, cells := 0, slots := 0, locals := 0 }
def aX3_bends (_ : Nat) : Option CI := none
theorem aokX3_bends : ∀ x ci, aX3_bends x = some ci → CalOK RX3 rmX3_bends x ci := fun _ _ h => by cases h
theorem mdX3_bends : MD RX3 cX3_bends rmX3_bends kX3_bends fX3 aX3_bends zX3 uX3 := ⟨fokX3, zokX3, uokX3, aokX3_bends, qX3_bends⟩
set_option maxRecDepth 100000 in
set_option maxHeartbeats 800000 in
theorem mX3_bends : MOK yX3_bends cX3_bends 1 (some .boolean) rmX3_bends ciX3_bends := by
  refine mok_of (ini := false) (by decide +kernel) (by decide) rfl rfl ?_
  intro σ As K hrc hl h
  obtain ⟨N, P, I, L⟩ := σ
  have h9 := pR_iff.mp h
  clear h
  obtain ⟨a, r, e9, h⟩ := h9
  subst e9
  have h9 := pN_iff.mp h
  clear h
  obtain ⟨e9, h⟩ := h9
  subst e9
  dsimp only at h
  obtain ⟨hg, -⟩ : (G a).1 = 3 ∧ 0 < a := hrc
  obtain ⟨hs, h⟩ := h
  obtain ⟨h0, h1⟩ := b2i_split (F := fun z => K (some (.inl z)) (N, P, I, L)) h
  refine ⟨Nat.le_of_ble_eq_true rfl, Ok.seg mdX3_bends [] 40 ?_⟩
  simp only [wp_nil, wp_cons, ↓stp, ↓lI, ↓lL, ↓lR, ↓lIn_0, ↓lIn_1, ↓lIn_2, ↓lIn_3, ↓lLn_0, ↓lLn_1, ↓lLn_2, ↓lLn_3, ↓lRn_0, ↓lRn_1, ↓lRn_2, ↓lRn_3, ↓pI, ↓pL, ↓pR, ↓pA, ↓pN, ↓pV, ↓fp, ↓tsw, ↓oS, ↓spMax, ↓spMin, ↓spAbs, ↓spObj, RI, RLg, b2i_lo, b2i_hi, getL, setL, ltL, killL, isLong, inl, cnd, br, tgt, rcv, rpl, mputI, mputL, mputP, fv, fr, mcat, mcs, entL, entA, rfit, nf_0, nf_1, nf_2, nf_3, nf2_0, nf2_1, b2i_0, b2i_1, RI_b2i, b2i_fit, List.append, List.length, List.replicate, List.cons_append, List.nil_append, List.length_cons, List.length_nil, List.replicate_succ, List.replicate_zero, List.tail_cons, reduceIte, if_true, if_false, ite_true, ite_false, Bool.false_eq_true, true_and, and_true, and_self, false_and, and_false, or_self, or_true, true_or, or_false, false_or, not_true_eq_false, not_false_eq_true, ne_eq, forall_const, implies_true, imp_self, true_implies, false_implies, Nat.reduceAdd, Nat.reduceSub, Nat.reduceMul, Nat.reduceDiv, Nat.reduceMod, Nat.reduceEqDiff, Nat.reduceLT, Nat.reduceLeDiff, Nat.reduceBEq, Nat.add_zero, Nat.zero_add, Nat.le_refl, Nat.not_lt_zero, Nat.succ_eq_add_one, Int.reduceNatCast, Int.cast_ofNat_Int, Int.reduceSub, Int.reduceMul, Int.reduceNeg, Int.reduceLE, Int.reduceLT, Int.reduceToNat, Int.reduceEq, Int.reduceNe, Int.reduceAdd, Option.some.injEq, kX3_bends, rmX3_bends, ↓ofX3_9, hg]
  unfold stOK at hs
  repeat' (first | apply And.intro | intro _)
  all_goals first | omega | exact h0 (by omega) | exact h1 (by omega)
def spX3_limitOn (As : List MV) (σ : MS) (K : Option MV → MS → Prop) : Prop := pR As fun a r => pI r fun lane r => pI r fun g r => pN r (stOK σ.2.2.1 a ∧ -50 ≤ lane ∧ lane ≤ 50 ∧ -100 ≤ g ∧ g ≤ 100 ∧ K (some (.inl (lim (σ.2.2.1 a 0) (σ.2.2.1 a 2) (σ.2.2.1 a 3) lane g))) σ)
def ciX3_limitOn : CI := (3, 3, 0, 0, spX3_limitOn)
def kX3_limitOn (pc : Nat) : List ME := match pc with
  | 0 => [(.aload_n 0, 1, []), (.getfield 9, 3, []), (.ifCond .ne 8, 3, [12]), (.bipush 60, 2, []), (.goto 7, 3, [16])]
  | 12 => [(.aload_n 0, 1, []), (.getfield 18, 3, [])]
  | 16 => [(.istore_n 3, 1, []), (.aload_n 0, 1, []), (.invokevirtual 27, 3, []), (.ifCond .eq 19, 3, [40]), (.iload_n 3, 1, []), (.iload_n 2, 1, []), (.iconst 3, 1, []), (.iload_n 1, 1, []), (.aload_n 0, 1, []), (.getfield 21, 3, []), (.isub, 1, []), (.invokestatic 31, 3, []), (.imul, 1, []), (.isub, 1, []), (.iadd, 1, []), (.istore_n 3, 1, [])]
  | 40 => [(.aload_n 0, 1, []), (.getfield 9, 3, []), (.iconst 2, 1, []), (.if_icmp .ne 6, 3, [51]), (.iinc 3 (-4), 3, [])]
  | 51 => [(.iconst 1, 1, []), (.bipush 60, 2, []), (.iload_n 3, 1, []), (.invokestatic 37, 3, []), (.invokestatic 41, 3, []), (.ireturn, 1, [])]
  | _ => []
theorem qX3_limitOn : ∀ pc, chk cX3_limitOn pc (kX3_limitOn pc) = true := by
  intro pc
  unfold kX3_limitOn
  split <;> first | decide +kernel | exact chk_nil
abbrev rmX3_limitOn : Room := { frames := 1, cells := 0, slots := 0, locals := 21 }
def aX3_limitOn (x : Nat) : Option CI := match x with
  | 27 => some ciX3_bends
  | 31 => some ciAbs
  | 37 => some ciMin
  | 41 => some ciMax
  | _ => none
theorem aokX3_limitOn : ∀ x ci, aX3_limitOn x = some ci → CalOK RX3 rmX3_limitOn x ci := by
  intro x ci h
  unfold aX3_limitOn at h
  split at h
  · cases h; exact cal_V mX3_bends (by decide) rfl (List.forall_mem_cons.mpr ⟨(ws_mem (List.mem_of_getElem? (i := 419) (by decide +kernel)) (by decide +kernel)), List.forall_mem_cons.mpr ⟨(ws_mem (List.mem_of_getElem? (i := 420) (by decide +kernel)) (by decide +kernel)), List.forall_mem_cons.mpr ⟨(ws_mem (List.mem_of_getElem? (i := 421) (by decide +kernel)) (by decide +kernel)), List.forall_mem_cons.mpr ⟨(ws_mem (List.mem_of_getElem? (i := 56) (by decide +kernel)) (by decide +kernel)), List.forall_mem_cons.mpr ⟨(ws_mem (List.mem_of_getElem? (i := 422) (by decide +kernel)) (by decide +kernel)), fun _ h => absurd h List.not_mem_nil⟩⟩⟩⟩⟩) rfl (by unfold nice; decide +kernel) (by unfold rfits; decide) ⟨rfl, rfl⟩
  · cases h; exact cal_abs (List.forall_mem_cons.mpr ⟨(ws_mem (List.mem_of_getElem? (i := 423) (by decide +kernel)) (by decide +kernel)), List.forall_mem_cons.mpr ⟨(ws_mem (List.mem_of_getElem? (i := 424) (by decide +kernel)) (by decide +kernel)), List.forall_mem_cons.mpr ⟨(ws_mem (List.mem_of_getElem? (i := 58) (by decide +kernel)) (by decide +kernel)), List.forall_mem_cons.mpr ⟨(ws_mem (List.mem_of_getElem? (i := 425) (by decide +kernel)) (by decide +kernel)), fun _ h => absurd h List.not_mem_nil⟩⟩⟩⟩) (by decide)
  · cases h; exact cal_min (List.forall_mem_cons.mpr ⟨(ws_mem (List.mem_of_getElem? (i := 426) (by decide +kernel)) (by decide +kernel)), List.forall_mem_cons.mpr ⟨(ws_mem (List.mem_of_getElem? (i := 155) (by decide +kernel)) (by decide +kernel)), List.forall_mem_cons.mpr ⟨(ws_mem (List.mem_of_getElem? (i := 58) (by decide +kernel)) (by decide +kernel)), List.forall_mem_cons.mpr ⟨(ws_mem (List.mem_of_getElem? (i := 156) (by decide +kernel)) (by decide +kernel)), fun _ h => absurd h List.not_mem_nil⟩⟩⟩⟩) (by decide)
  · cases h; exact cal_max (List.forall_mem_cons.mpr ⟨(ws_mem (List.mem_of_getElem? (i := 427) (by decide +kernel)) (by decide +kernel)), List.forall_mem_cons.mpr ⟨(ws_mem (List.mem_of_getElem? (i := 158) (by decide +kernel)) (by decide +kernel)), List.forall_mem_cons.mpr ⟨(ws_mem (List.mem_of_getElem? (i := 58) (by decide +kernel)) (by decide +kernel)), List.forall_mem_cons.mpr ⟨(ws_mem (List.mem_of_getElem? (i := 159) (by decide +kernel)) (by decide +kernel)), fun _ h => absurd h List.not_mem_nil⟩⟩⟩⟩) (by decide)
  · cases h
theorem ocX3_limitOn_27 (f : Nat → Nat → Nat → Nat → (List MV → MS → (Option MV → MS → Prop) → Prop) → Prop) : oC aX3_limitOn 27 f = f 1 3 0 0 spX3_bends := propext Iff.rfl
theorem ocX3_limitOn_31 (f : Nat → Nat → Nat → Nat → (List MV → MS → (Option MV → MS → Prop) → Prop) → Prop) : oC aX3_limitOn 31 f = f 1 10 0 0 spAbs := propext Iff.rfl
theorem ocX3_limitOn_37 (f : Nat → Nat → Nat → Nat → (List MV → MS → (Option MV → MS → Prop) → Prop) → Prop) : oC aX3_limitOn 37 f = f 2 10 0 0 spMin := propext Iff.rfl
theorem ocX3_limitOn_41 (f : Nat → Nat → Nat → Nat → (List MV → MS → (Option MV → MS → Prop) → Prop) → Prop) : oC aX3_limitOn 41 f = f 2 10 0 0 spMax := propext Iff.rfl
theorem mdX3_limitOn : MD RX3 cX3_limitOn rmX3_limitOn kX3_limitOn fX3 aX3_limitOn zX3 uX3 := ⟨fokX3, zokX3, uokX3, aokX3_limitOn, qX3_limitOn⟩
theorem K_eq {K : Option MV → MS → Prop} {x y : Int} {σ : MS} (h : K (some (.inl y)) σ) (e : x = y) : K (some (.inl x)) σ := e ▸ h
set_option maxRecDepth 100000 in
set_option maxHeartbeats 800000 in
theorem mX3_limitOn : MOK yX3_limitOn cX3_limitOn 4 (some .int) rmX3_limitOn ciX3_limitOn := by
  refine mok_of (ini := false) (by decide +kernel) (by decide) rfl rfl ?_
  intro σ As K hrc hl h
  obtain ⟨N, P, I, L⟩ := σ
  have h9 := pR_iff.mp h
  clear h
  obtain ⟨a, r, e9, h⟩ := h9
  subst e9
  have h9 := pI_iff.mp h
  clear h
  obtain ⟨lane, r, e9, h⟩ := h9
  subst e9
  have h9 := pI_iff.mp h
  clear h
  obtain ⟨g, r, e9, h⟩ := h9
  subst e9
  have h9 := pN_iff.mp h
  clear h
  obtain ⟨e9, h⟩ := h9
  subst e9
  dsimp only at h
  obtain ⟨hg, a0⟩ : (G a).1 = 3 ∧ 0 < a := hrc
  obtain ⟨hs, q1, q2, q3, q4, h⟩ := h
  refine ⟨Nat.le_of_ble_eq_true rfl, Ok.seg mdX3_limitOn [] 60 ?_⟩
  have hs2 := hs
  unfold stOK at hs2
  rcases (show I a 0 = 0 ∨ I a 0 = 1 ∨ I a 0 = 2 ∨ I a 0 = 3 by omega) with hk | hk | hk | hk
  · rw [hk, lim_0] at h
    simp only [wp_nil, wp_cons, ↓stp, ↓lI, ↓lL, ↓lR, ↓lIn_0, ↓lIn_1, ↓lIn_2, ↓lIn_3, ↓lLn_0, ↓lLn_1, ↓lLn_2, ↓lLn_3, ↓lRn_0, ↓lRn_1, ↓lRn_2, ↓lRn_3, ↓pI, ↓pL, ↓pR, ↓pA, ↓pN, ↓pV, ↓fp, ↓tsw, ↓oS, ↓spMax, ↓spMin, ↓spAbs, ↓spObj, RI, RLg, b2i_lo, b2i_hi, getL, setL, ltL, killL, isLong, inl, cnd, br, tgt, rcv, rpl, mputI, mputL, mputP, fv, fr, mcat, mcs, entL, entA, rfit, nf_0, nf_1, nf_2, nf_3, nf2_0, nf2_1, b2i_0, b2i_1, RI_b2i, b2i_fit, List.append, List.length, List.replicate, List.cons_append, List.nil_append, List.length_cons, List.length_nil, List.replicate_succ, List.replicate_zero, List.tail_cons, reduceIte, if_true, if_false, ite_true, ite_false, Bool.false_eq_true, true_and, and_true, and_self, false_and, and_false, or_self, or_true, true_or, or_false, false_or, not_true_eq_false, not_false_eq_true, ne_eq, forall_const, implies_true, imp_self, true_implies, false_implies, Nat.reduceAdd, Nat.reduceSub, Nat.reduceMul, Nat.reduceDiv, Nat.reduceMod, Nat.reduceEqDiff, Nat.reduceLT, Nat.reduceLeDiff, Nat.reduceBEq, Nat.add_zero, Nat.zero_add, Nat.le_refl, Nat.not_lt_zero, Nat.succ_eq_add_one, Int.reduceNatCast, Int.cast_ofNat_Int, Int.reduceSub, Int.reduceMul, Int.reduceNeg, Int.reduceLE, Int.reduceLT, Int.reduceToNat, Int.reduceEq, Int.reduceNe, Int.reduceAdd, Option.some.injEq, kX3_limitOn, rmX3_limitOn, ↓ofX3_18, ↓ofX3_21, ↓ofX3_9, ↓ocX3_limitOn_27, ↓spX3_bends, ↓ocX3_limitOn_31, ↓ocX3_limitOn_37, ↓ocX3_limitOn_41, hg, hs, a0, hk]
    repeat' (first | apply And.intro | intro _)
    all_goals first | omega | exact K_eq h (by omega)
  · rw [hk, lim_12 (.inl rfl)] at h
    simp only [wp_nil, wp_cons, ↓stp, ↓lI, ↓lL, ↓lR, ↓lIn_0, ↓lIn_1, ↓lIn_2, ↓lIn_3, ↓lLn_0, ↓lLn_1, ↓lLn_2, ↓lLn_3, ↓lRn_0, ↓lRn_1, ↓lRn_2, ↓lRn_3, ↓pI, ↓pL, ↓pR, ↓pA, ↓pN, ↓pV, ↓fp, ↓tsw, ↓oS, ↓spMax, ↓spMin, ↓spAbs, ↓spObj, RI, RLg, b2i_lo, b2i_hi, getL, setL, ltL, killL, isLong, inl, cnd, br, tgt, rcv, rpl, mputI, mputL, mputP, fv, fr, mcat, mcs, entL, entA, rfit, nf_0, nf_1, nf_2, nf_3, nf2_0, nf2_1, b2i_0, b2i_1, RI_b2i, b2i_fit, List.append, List.length, List.replicate, List.cons_append, List.nil_append, List.length_cons, List.length_nil, List.replicate_succ, List.replicate_zero, List.tail_cons, reduceIte, if_true, if_false, ite_true, ite_false, Bool.false_eq_true, true_and, and_true, and_self, false_and, and_false, or_self, or_true, true_or, or_false, false_or, not_true_eq_false, not_false_eq_true, ne_eq, forall_const, implies_true, imp_self, true_implies, false_implies, Nat.reduceAdd, Nat.reduceSub, Nat.reduceMul, Nat.reduceDiv, Nat.reduceMod, Nat.reduceEqDiff, Nat.reduceLT, Nat.reduceLeDiff, Nat.reduceBEq, Nat.add_zero, Nat.zero_add, Nat.le_refl, Nat.not_lt_zero, Nat.succ_eq_add_one, Int.reduceNatCast, Int.cast_ofNat_Int, Int.reduceSub, Int.reduceMul, Int.reduceNeg, Int.reduceLE, Int.reduceLT, Int.reduceToNat, Int.reduceEq, Int.reduceNe, Int.reduceAdd, Option.some.injEq, kX3_limitOn, rmX3_limitOn, ↓ofX3_18, ↓ofX3_21, ↓ofX3_9, ↓ocX3_limitOn_27, ↓spX3_bends, ↓ocX3_limitOn_31, ↓ocX3_limitOn_37, ↓ocX3_limitOn_41, hg, hs, a0, hk]
    refine ⟨by omega, fun d d0 d1 => ?_⟩
    rw [ab_of d0 d1] at h
    refine ⟨by omega, fun m m1 m2 m3 => ⟨by omega, fun r r1 r2 r3 => K_eq h (clp_of (m := m) (by omega) (by omega) (by omega) (by omega) (by omega) (by omega))⟩⟩
  · rw [hk, lim_12 (.inr rfl)] at h
    simp only [wp_nil, wp_cons, ↓stp, ↓lI, ↓lL, ↓lR, ↓lIn_0, ↓lIn_1, ↓lIn_2, ↓lIn_3, ↓lLn_0, ↓lLn_1, ↓lLn_2, ↓lLn_3, ↓lRn_0, ↓lRn_1, ↓lRn_2, ↓lRn_3, ↓pI, ↓pL, ↓pR, ↓pA, ↓pN, ↓pV, ↓fp, ↓tsw, ↓oS, ↓spMax, ↓spMin, ↓spAbs, ↓spObj, RI, RLg, b2i_lo, b2i_hi, getL, setL, ltL, killL, isLong, inl, cnd, br, tgt, rcv, rpl, mputI, mputL, mputP, fv, fr, mcat, mcs, entL, entA, rfit, nf_0, nf_1, nf_2, nf_3, nf2_0, nf2_1, b2i_0, b2i_1, RI_b2i, b2i_fit, List.append, List.length, List.replicate, List.cons_append, List.nil_append, List.length_cons, List.length_nil, List.replicate_succ, List.replicate_zero, List.tail_cons, reduceIte, if_true, if_false, ite_true, ite_false, Bool.false_eq_true, true_and, and_true, and_self, false_and, and_false, or_self, or_true, true_or, or_false, false_or, not_true_eq_false, not_false_eq_true, ne_eq, forall_const, implies_true, imp_self, true_implies, false_implies, Nat.reduceAdd, Nat.reduceSub, Nat.reduceMul, Nat.reduceDiv, Nat.reduceMod, Nat.reduceEqDiff, Nat.reduceLT, Nat.reduceLeDiff, Nat.reduceBEq, Nat.add_zero, Nat.zero_add, Nat.le_refl, Nat.not_lt_zero, Nat.succ_eq_add_one, Int.reduceNatCast, Int.cast_ofNat_Int, Int.reduceSub, Int.reduceMul, Int.reduceNeg, Int.reduceLE, Int.reduceLT, Int.reduceToNat, Int.reduceEq, Int.reduceNe, Int.reduceAdd, Option.some.injEq, kX3_limitOn, rmX3_limitOn, ↓ofX3_18, ↓ofX3_21, ↓ofX3_9, ↓ocX3_limitOn_27, ↓spX3_bends, ↓ocX3_limitOn_31, ↓ocX3_limitOn_37, ↓ocX3_limitOn_41, hg, hs, a0, hk]
    refine ⟨by omega, fun d d0 d1 => ?_⟩
    rw [ab_of d0 d1] at h
    refine ⟨by omega, fun m m1 m2 m3 => ⟨by omega, fun r r1 r2 r3 => K_eq h (clp_of (m := m) (by omega) (by omega) (by omega) (by omega) (by omega) (by omega))⟩⟩
  · rw [hk, lim_3] at h
    simp only [wp_nil, wp_cons, ↓stp, ↓lI, ↓lL, ↓lR, ↓lIn_0, ↓lIn_1, ↓lIn_2, ↓lIn_3, ↓lLn_0, ↓lLn_1, ↓lLn_2, ↓lLn_3, ↓lRn_0, ↓lRn_1, ↓lRn_2, ↓lRn_3, ↓pI, ↓pL, ↓pR, ↓pA, ↓pN, ↓pV, ↓fp, ↓tsw, ↓oS, ↓spMax, ↓spMin, ↓spAbs, ↓spObj, RI, RLg, b2i_lo, b2i_hi, getL, setL, ltL, killL, isLong, inl, cnd, br, tgt, rcv, rpl, mputI, mputL, mputP, fv, fr, mcat, mcs, entL, entA, rfit, nf_0, nf_1, nf_2, nf_3, nf2_0, nf2_1, b2i_0, b2i_1, RI_b2i, b2i_fit, List.append, List.length, List.replicate, List.cons_append, List.nil_append, List.length_cons, List.length_nil, List.replicate_succ, List.replicate_zero, List.tail_cons, reduceIte, if_true, if_false, ite_true, ite_false, Bool.false_eq_true, true_and, and_true, and_self, false_and, and_false, or_self, or_true, true_or, or_false, false_or, not_true_eq_false, not_false_eq_true, ne_eq, forall_const, implies_true, imp_self, true_implies, false_implies, Nat.reduceAdd, Nat.reduceSub, Nat.reduceMul, Nat.reduceDiv, Nat.reduceMod, Nat.reduceEqDiff, Nat.reduceLT, Nat.reduceLeDiff, Nat.reduceBEq, Nat.add_zero, Nat.zero_add, Nat.le_refl, Nat.not_lt_zero, Nat.succ_eq_add_one, Int.reduceNatCast, Int.cast_ofNat_Int, Int.reduceSub, Int.reduceMul, Int.reduceNeg, Int.reduceLE, Int.reduceLT, Int.reduceToNat, Int.reduceEq, Int.reduceNe, Int.reduceAdd, Option.some.injEq, kX3_limitOn, rmX3_limitOn, ↓ofX3_18, ↓ofX3_21, ↓ofX3_9, ↓ocX3_limitOn_27, ↓spX3_bends, ↓ocX3_limitOn_31, ↓ocX3_limitOn_37, ↓ocX3_limitOn_41, hg, hs, a0, hk]
    refine ⟨by omega, fun m m1 m2 m3 => ⟨by omega, fun r r1 r2 r3 => K_eq h (clp_of (m := m) (by omega) (by omega) (by omega) (by omega) (by omega) (by omega))⟩⟩
def spX3_timeAt (As : List MV) (σ : MS) (K : Option MV → MS → Prop) : Prop := pR As fun a r => pI r fun p r => pI r fun ch r => pN r (stOK σ.2.2.1 a ∧ -1000 ≤ p ∧ p ≤ 1000 ∧ (ch = 0 ∨ ch = 1) ∧ K (some (.inl (tmv (σ.2.2.1 a 1) ch p))) σ)
def ciX3_timeAt : CI := (3, 3, 0, 0, spX3_timeAt)
def kX3_timeAt (pc : Nat) : List ME := match pc with
  | 0 => [(.iload_n 2, 1, []), (.ifCond .eq 12, 3, [13]), (.aload_n 0, 1, []), (.getfield 15, 3, []), (.iconst 2, 1, []), (.iadd, 1, []), (.goto 7, 3, [17])]
  | 13 => [(.aload_n 0, 1, []), (.getfield 15, 3, [])]
  | 17 => [(.istore_n 3, 1, []), (.iload_n 1, 1, []), (.ifCond .le 13, 3, [32]), (.iload_n 3, 1, []), (.sipush 1000, 3, []), (.imul, 1, []), (.iload_n 1, 1, []), (.idiv, 1, []), (.goto 4, 3, [33])]
  | 32 => [(.iconst 0, 1, [])]
  | 33 => [(.ireturn, 1, [])]
  | _ => []
theorem qX3_timeAt : ∀ pc, chk cX3_timeAt pc (kX3_timeAt pc) = true := by
  intro pc
  unfold kX3_timeAt
  split <;> first | decide +kernel | exact chk_nil
abbrev rmX3_timeAt : Room := { frames := 0, cells := 0, slots := 0, locals := 0 }
def aX3_timeAt (_ : Nat) : Option CI := none
theorem aokX3_timeAt : ∀ x ci, aX3_timeAt x = some ci → CalOK RX3 rmX3_timeAt x ci := fun _ _ h => by cases h
theorem mdX3_timeAt : MD RX3 cX3_timeAt rmX3_timeAt kX3_timeAt fX3 aX3_timeAt zX3 uX3 := ⟨fokX3, zokX3, uokX3, aokX3_timeAt, qX3_timeAt⟩
set_option maxRecDepth 100000 in
set_option maxHeartbeats 800000 in
theorem mX3_timeAt : MOK yX3_timeAt cX3_timeAt 4 (some .int) rmX3_timeAt ciX3_timeAt := by
  refine mok_of (ini := false) (by decide +kernel) (by decide) rfl rfl ?_
  intro σ As K hrc hl h
  obtain ⟨N, P, I, L⟩ := σ
  have h9 := pR_iff.mp h
  clear h
  obtain ⟨a, r, e9, h⟩ := h9
  subst e9
  have h9 := pI_iff.mp h
  clear h
  obtain ⟨p, r, e9, h⟩ := h9
  subst e9
  have h9 := pI_iff.mp h
  clear h
  obtain ⟨ch, r, e9, h⟩ := h9
  subst e9
  have h9 := pN_iff.mp h
  clear h
  obtain ⟨e9, h⟩ := h9
  subst e9
  dsimp only at h
  obtain ⟨hg, a0⟩ : (G a).1 = 3 ∧ 0 < a := hrc
  obtain ⟨hs, q1, q2, q3, h⟩ := h
  refine ⟨Nat.le_of_ble_eq_true rfl, Ok.seg mdX3_timeAt [] 40 ?_⟩
  unfold stOK at hs
  have e1 : ∀ x : Int, 0 < p → 0 ≤ x → x = (I a 1 + (if ch = 0 then 0 else 2)) → (x * 1000).tdiv p = tmv (I a 1) ch p := fun x hp hx e => by
    subst e
    unfold tmv
    rw [if_pos hp, Int.tdiv_eq_ediv_of_nonneg (by omega)]
  have e0 : ¬ 0 < p → 0 = tmv (I a 1) ch p := fun hp => by
    unfold tmv
    rw [if_neg hp]
  simp only [wp_nil, wp_cons, ↓stp, ↓lI, ↓lL, ↓lR, ↓lIn_0, ↓lIn_1, ↓lIn_2, ↓lIn_3, ↓lLn_0, ↓lLn_1, ↓lLn_2, ↓lLn_3, ↓lRn_0, ↓lRn_1, ↓lRn_2, ↓lRn_3, ↓pI, ↓pL, ↓pR, ↓pA, ↓pN, ↓pV, ↓fp, ↓tsw, ↓oS, ↓spMax, ↓spMin, ↓spAbs, ↓spObj, RI, RLg, b2i_lo, b2i_hi, getL, setL, ltL, killL, isLong, inl, cnd, br, tgt, rcv, rpl, mputI, mputL, mputP, fv, fr, mcat, mcs, entL, entA, rfit, nf_0, nf_1, nf_2, nf_3, nf2_0, nf2_1, b2i_0, b2i_1, RI_b2i, b2i_fit, List.append, List.length, List.replicate, List.cons_append, List.nil_append, List.length_cons, List.length_nil, List.replicate_succ, List.replicate_zero, List.tail_cons, reduceIte, if_true, if_false, ite_true, ite_false, Bool.false_eq_true, true_and, and_true, and_self, false_and, and_false, or_self, or_true, true_or, or_false, false_or, not_true_eq_false, not_false_eq_true, ne_eq, forall_const, implies_true, imp_self, true_implies, false_implies, Nat.reduceAdd, Nat.reduceSub, Nat.reduceMul, Nat.reduceDiv, Nat.reduceMod, Nat.reduceEqDiff, Nat.reduceLT, Nat.reduceLeDiff, Nat.reduceBEq, Nat.add_zero, Nat.zero_add, Nat.le_refl, Nat.not_lt_zero, Nat.succ_eq_add_one, Int.reduceNatCast, Int.cast_ofNat_Int, Int.reduceSub, Int.reduceMul, Int.reduceNeg, Int.reduceLE, Int.reduceLT, Int.reduceToNat, Int.reduceEq, Int.reduceNe, Int.reduceAdd, Option.some.injEq, kX3_timeAt, rmX3_timeAt, ↓ofX3_15, hg]
  rcases q3 with rfl | rfl
  · simp only [Int.reduceLE, Int.reduceLT, Int.reduceEq, and_self, true_and, forall_const, not_true_eq_false, false_implies, and_true, if_true] at e1 ⊢
    refine ⟨by omega, fun q => K_eq h (e0 (by omega)), fun q => ⟨by omega, by omega, by omega, K_eq h (e1 _ (by omega) (by omega) (by omega))⟩⟩
  · simp only [Int.reduceLE, Int.reduceLT, Int.reduceEq, and_self, true_and, forall_const, not_false_eq_true, false_implies, and_true, if_false] at e1 ⊢
    refine ⟨by omega, fun q => K_eq h (e0 (by omega)), fun q => ⟨by omega, by omega, by omega, K_eq h (e1 _ (by omega) (by omega) (by omega))⟩⟩
def heft (k len b ln : Int) : Int := (10 + len + (if k = 1 ∨ k = 2 then b + 100 else 0)) * (if k = 2 then 2 else 1) + (if k = 3 then ln else 0)
def spX3_heft (As : List MV) (σ : MS) (K : Option MV → MS → Prop) : Prop := pR As fun a r => pN r (stOK σ.2.2.1 a ∧ K (some (.inl (heft (σ.2.2.1 a 0) (σ.2.2.1 a 1) (σ.2.2.1 a 2) (σ.2.2.1 a 3)))) σ)
def ciX3_heft : CI := (1, 3, 0, 0, spX3_heft)
def kX3_heft (pc : Nat) : List ME := match pc with
  | 0 => [(.bipush 10, 2, []), (.aload_n 0, 1, []), (.getfield 15, 3, []), (.iadd, 1, []), (.istore_n 1, 1, []), (.aload_n 0, 1, []), (.invokevirtual 27, 3, []), (.ifCond .eq 13, 3, [25]), (.iload_n 1, 1, []), (.aload_n 0, 1, []), (.getfield 18, 3, []), (.bipush 100, 2, []), (.iadd, 1, []), (.iadd, 1, []), (.istore_n 1, 1, [])]
  | 25 => [(.aload_n 0, 1, []), (.getfield 9, 3, []), (.iconst 2, 1, []), (.if_icmp .ne 7, 3, [37]), (.iload_n 1, 1, []), (.iconst 2, 1, []), (.imul, 1, []), (.istore_n 1, 1, [])]
  | 37 => [(.aload_n 0, 1, []), (.getfield 9, 3, []), (.iconst 3, 1, []), (.if_icmp .ne 12, 3, [54]), (.iload_n 1, 1, []), (.aload_n 0, 1, []), (.getfield 21, 3, []), (.iadd, 1, []), (.goto 4, 3, [55])]
  | 54 => [(.iload_n 1, 1, [])]
  | 55 => [(.ireturn, 1, [])]
  | _ => []
theorem qX3_heft : ∀ pc, chk cX3_heft pc (kX3_heft pc) = true := by
  intro pc
  unfold kX3_heft
  split <;> first | decide +kernel | exact chk_nil
abbrev rmX3_heft : Room := { frames := 1, cells := 0, slots := 0, locals := 20 }
def aX3_heft (x : Nat) : Option CI := match x with
  | 27 => some ciX3_bends
  | _ => none
theorem aokX3_heft : ∀ x ci, aX3_heft x = some ci → CalOK RX3 rmX3_heft x ci := by
  intro x ci h
  unfold aX3_heft at h
  split at h
  · cases h; exact cal_V mX3_bends (by decide) rfl (List.forall_mem_cons.mpr ⟨(ws_mem (List.mem_of_getElem? (i := 419) (by decide +kernel)) (by decide +kernel)), List.forall_mem_cons.mpr ⟨(ws_mem (List.mem_of_getElem? (i := 420) (by decide +kernel)) (by decide +kernel)), List.forall_mem_cons.mpr ⟨(ws_mem (List.mem_of_getElem? (i := 421) (by decide +kernel)) (by decide +kernel)), List.forall_mem_cons.mpr ⟨(ws_mem (List.mem_of_getElem? (i := 56) (by decide +kernel)) (by decide +kernel)), List.forall_mem_cons.mpr ⟨(ws_mem (List.mem_of_getElem? (i := 422) (by decide +kernel)) (by decide +kernel)), fun _ h => absurd h List.not_mem_nil⟩⟩⟩⟩⟩) rfl (by unfold nice; decide +kernel) (by unfold rfits; decide) ⟨rfl, rfl⟩
  · cases h
theorem ocX3_heft_27 (f : Nat → Nat → Nat → Nat → (List MV → MS → (Option MV → MS → Prop) → Prop) → Prop) : oC aX3_heft 27 f = f 1 3 0 0 spX3_bends := propext Iff.rfl
theorem mdX3_heft : MD RX3 cX3_heft rmX3_heft kX3_heft fX3 aX3_heft zX3 uX3 := ⟨fokX3, zokX3, uokX3, aokX3_heft, qX3_heft⟩
set_option maxRecDepth 100000 in
set_option maxHeartbeats 800000 in
theorem mX3_heft : MOK yX3_heft cX3_heft 2 (some .int) rmX3_heft ciX3_heft := by
  refine mok_of (ini := false) (by decide +kernel) (by decide) rfl rfl ?_
  intro σ As K hrc hl h
  obtain ⟨N, P, I, L⟩ := σ
  have h9 := pR_iff.mp h
  clear h
  obtain ⟨a, r, e9, h⟩ := h9
  subst e9
  have h9 := pN_iff.mp h
  clear h
  obtain ⟨e9, h⟩ := h9
  subst e9
  dsimp only at h
  obtain ⟨hg, a0⟩ : (G a).1 = 3 ∧ 0 < a := hrc
  obtain ⟨hs, h⟩ := h
  refine ⟨Nat.le_of_ble_eq_true rfl, Ok.seg mdX3_heft [] 60 ?_⟩
  have hs2 := hs
  unfold stOK at hs2
  have hh : ∀ x : Int, x = heft (I a 0) (I a 1) (I a 2) (I a 3) → K (some (.inl x)) (N, P, I, L) := fun x e => K_eq h e
  unfold heft at hh
  clear h
  rcases (show I a 0 = 0 ∨ I a 0 = 1 ∨ I a 0 = 2 ∨ I a 0 = 3 by omega) with hk | hk | hk | hk
  · rw [hk] at hh
    simp only [Int.reduceEq, or_self, or_true, or_false, if_true, if_false] at hh
    simp only [wp_nil, wp_cons, ↓stp, ↓lI, ↓lL, ↓lR, ↓lIn_0, ↓lIn_1, ↓lIn_2, ↓lIn_3, ↓lLn_0, ↓lLn_1, ↓lLn_2, ↓lLn_3, ↓lRn_0, ↓lRn_1, ↓lRn_2, ↓lRn_3, ↓pI, ↓pL, ↓pR, ↓pA, ↓pN, ↓pV, ↓fp, ↓tsw, ↓oS, ↓spMax, ↓spMin, ↓spAbs, ↓spObj, RI, RLg, b2i_lo, b2i_hi, getL, setL, ltL, killL, isLong, inl, cnd, br, tgt, rcv, rpl, mputI, mputL, mputP, fv, fr, mcat, mcs, entL, entA, rfit, nf_0, nf_1, nf_2, nf_3, nf2_0, nf2_1, b2i_0, b2i_1, RI_b2i, b2i_fit, List.append, List.length, List.replicate, List.cons_append, List.nil_append, List.length_cons, List.length_nil, List.replicate_succ, List.replicate_zero, List.tail_cons, reduceIte, if_true, if_false, ite_true, ite_false, Bool.false_eq_true, true_and, and_true, and_self, false_and, and_false, or_self, or_true, true_or, or_false, false_or, not_true_eq_false, not_false_eq_true, ne_eq, forall_const, implies_true, imp_self, true_implies, false_implies, Nat.reduceAdd, Nat.reduceSub, Nat.reduceMul, Nat.reduceDiv, Nat.reduceMod, Nat.reduceEqDiff, Nat.reduceLT, Nat.reduceLeDiff, Nat.reduceBEq, Nat.add_zero, Nat.zero_add, Nat.le_refl, Nat.not_lt_zero, Nat.succ_eq_add_one, Int.reduceNatCast, Int.cast_ofNat_Int, Int.reduceSub, Int.reduceMul, Int.reduceNeg, Int.reduceLE, Int.reduceLT, Int.reduceToNat, Int.reduceEq, Int.reduceNe, Int.reduceAdd, Option.some.injEq, kX3_heft, rmX3_heft, ↓ofX3_15, ↓ofX3_18, ↓ofX3_21, ↓ofX3_9, ↓ocX3_heft_27, ↓spX3_bends, hg, hs, a0, hk]
    exact hh _ (by omega)
  · rw [hk] at hh
    simp only [Int.reduceEq, or_self, or_true, or_false, true_or, if_true, if_false] at hh
    simp only [wp_nil, wp_cons, ↓stp, ↓lI, ↓lL, ↓lR, ↓lIn_0, ↓lIn_1, ↓lIn_2, ↓lIn_3, ↓lLn_0, ↓lLn_1, ↓lLn_2, ↓lLn_3, ↓lRn_0, ↓lRn_1, ↓lRn_2, ↓lRn_3, ↓pI, ↓pL, ↓pR, ↓pA, ↓pN, ↓pV, ↓fp, ↓tsw, ↓oS, ↓spMax, ↓spMin, ↓spAbs, ↓spObj, RI, RLg, b2i_lo, b2i_hi, getL, setL, ltL, killL, isLong, inl, cnd, br, tgt, rcv, rpl, mputI, mputL, mputP, fv, fr, mcat, mcs, entL, entA, rfit, nf_0, nf_1, nf_2, nf_3, nf2_0, nf2_1, b2i_0, b2i_1, RI_b2i, b2i_fit, List.append, List.length, List.replicate, List.cons_append, List.nil_append, List.length_cons, List.length_nil, List.replicate_succ, List.replicate_zero, List.tail_cons, reduceIte, if_true, if_false, ite_true, ite_false, Bool.false_eq_true, true_and, and_true, and_self, false_and, and_false, or_self, or_true, true_or, or_false, false_or, not_true_eq_false, not_false_eq_true, ne_eq, forall_const, implies_true, imp_self, true_implies, false_implies, Nat.reduceAdd, Nat.reduceSub, Nat.reduceMul, Nat.reduceDiv, Nat.reduceMod, Nat.reduceEqDiff, Nat.reduceLT, Nat.reduceLeDiff, Nat.reduceBEq, Nat.add_zero, Nat.zero_add, Nat.le_refl, Nat.not_lt_zero, Nat.succ_eq_add_one, Int.reduceNatCast, Int.cast_ofNat_Int, Int.reduceSub, Int.reduceMul, Int.reduceNeg, Int.reduceLE, Int.reduceLT, Int.reduceToNat, Int.reduceEq, Int.reduceNe, Int.reduceAdd, Option.some.injEq, kX3_heft, rmX3_heft, ↓ofX3_15, ↓ofX3_18, ↓ofX3_21, ↓ofX3_9, ↓ocX3_heft_27, ↓spX3_bends, hg, hs, a0, hk]
    exact hh _ (by omega)
  · rw [hk] at hh
    simp only [Int.reduceEq, or_self, or_true, or_false, if_true, if_false] at hh
    simp only [wp_nil, wp_cons, ↓stp, ↓lI, ↓lL, ↓lR, ↓lIn_0, ↓lIn_1, ↓lIn_2, ↓lIn_3, ↓lLn_0, ↓lLn_1, ↓lLn_2, ↓lLn_3, ↓lRn_0, ↓lRn_1, ↓lRn_2, ↓lRn_3, ↓pI, ↓pL, ↓pR, ↓pA, ↓pN, ↓pV, ↓fp, ↓tsw, ↓oS, ↓spMax, ↓spMin, ↓spAbs, ↓spObj, RI, RLg, b2i_lo, b2i_hi, getL, setL, ltL, killL, isLong, inl, cnd, br, tgt, rcv, rpl, mputI, mputL, mputP, fv, fr, mcat, mcs, entL, entA, rfit, nf_0, nf_1, nf_2, nf_3, nf2_0, nf2_1, b2i_0, b2i_1, RI_b2i, b2i_fit, List.append, List.length, List.replicate, List.cons_append, List.nil_append, List.length_cons, List.length_nil, List.replicate_succ, List.replicate_zero, List.tail_cons, reduceIte, if_true, if_false, ite_true, ite_false, Bool.false_eq_true, true_and, and_true, and_self, false_and, and_false, or_self, or_true, true_or, or_false, false_or, not_true_eq_false, not_false_eq_true, ne_eq, forall_const, implies_true, imp_self, true_implies, false_implies, Nat.reduceAdd, Nat.reduceSub, Nat.reduceMul, Nat.reduceDiv, Nat.reduceMod, Nat.reduceEqDiff, Nat.reduceLT, Nat.reduceLeDiff, Nat.reduceBEq, Nat.add_zero, Nat.zero_add, Nat.le_refl, Nat.not_lt_zero, Nat.succ_eq_add_one, Int.reduceNatCast, Int.cast_ofNat_Int, Int.reduceSub, Int.reduceMul, Int.reduceNeg, Int.reduceLE, Int.reduceLT, Int.reduceToNat, Int.reduceEq, Int.reduceNe, Int.reduceAdd, Option.some.injEq, kX3_heft, rmX3_heft, ↓ofX3_15, ↓ofX3_18, ↓ofX3_21, ↓ofX3_9, ↓ocX3_heft_27, ↓spX3_bends, hg, hs, a0, hk]
    exact hh _ (by omega)
  · rw [hk] at hh
    simp only [Int.reduceEq, or_self, or_true, or_false, if_true, if_false] at hh
    simp only [wp_nil, wp_cons, ↓stp, ↓lI, ↓lL, ↓lR, ↓lIn_0, ↓lIn_1, ↓lIn_2, ↓lIn_3, ↓lLn_0, ↓lLn_1, ↓lLn_2, ↓lLn_3, ↓lRn_0, ↓lRn_1, ↓lRn_2, ↓lRn_3, ↓pI, ↓pL, ↓pR, ↓pA, ↓pN, ↓pV, ↓fp, ↓tsw, ↓oS, ↓spMax, ↓spMin, ↓spAbs, ↓spObj, RI, RLg, b2i_lo, b2i_hi, getL, setL, ltL, killL, isLong, inl, cnd, br, tgt, rcv, rpl, mputI, mputL, mputP, fv, fr, mcat, mcs, entL, entA, rfit, nf_0, nf_1, nf_2, nf_3, nf2_0, nf2_1, b2i_0, b2i_1, RI_b2i, b2i_fit, List.append, List.length, List.replicate, List.cons_append, List.nil_append, List.length_cons, List.length_nil, List.replicate_succ, List.replicate_zero, List.tail_cons, reduceIte, if_true, if_false, ite_true, ite_false, Bool.false_eq_true, true_and, and_true, and_self, false_and, and_false, or_self, or_true, true_or, or_false, false_or, not_true_eq_false, not_false_eq_true, ne_eq, forall_const, implies_true, imp_self, true_implies, false_implies, Nat.reduceAdd, Nat.reduceSub, Nat.reduceMul, Nat.reduceDiv, Nat.reduceMod, Nat.reduceEqDiff, Nat.reduceLT, Nat.reduceLeDiff, Nat.reduceBEq, Nat.add_zero, Nat.zero_add, Nat.le_refl, Nat.not_lt_zero, Nat.succ_eq_add_one, Int.reduceNatCast, Int.cast_ofNat_Int, Int.reduceSub, Int.reduceMul, Int.reduceNeg, Int.reduceLE, Int.reduceLT, Int.reduceToNat, Int.reduceEq, Int.reduceNe, Int.reduceAdd, Option.some.injEq, kX3_heft, rmX3_heft, ↓ofX3_15, ↓ofX3_18, ↓ofX3_21, ↓ofX3_9, ↓ocX3_heft_27, ↓spX3_bends, hg, hs, a0, hk]
    exact hh _ (by omega)
def spX3_take (As : List MV) (σ : MS) (K : Option MV → MS → Prop) : Prop := pR As fun a r => pR r fun b r => pN r ((G b).1 = 3 ∧ a ≠ b ∧ K none (σ.1, σ.2.1, upI (upI (upI (upI (upI σ.2.2.1 a 0 (σ.2.2.1 b 0)) a 1 (σ.2.2.1 b 1)) a 2 (σ.2.2.1 b 2)) a 3 (σ.2.2.1 b 3)) a 4 (σ.2.2.1 b 4), σ.2.2.2))
def ciX3_take : CI := (2, 3, 0, 0, spX3_take)
def kX3_take (pc : Nat) : List ME := match pc with
  | 0 => [(.aload_n 0, 1, []), (.aload_n 1, 1, []), (.getfield 9, 3, []), (.putfield 9, 3, []), (.aload_n 0, 1, []), (.aload_n 1, 1, []), (.getfield 15, 3, []), (.putfield 15, 3, []), (.aload_n 0, 1, []), (.aload_n 1, 1, []), (.getfield 18, 3, []), (.putfield 18, 3, []), (.aload_n 0, 1, []), (.aload_n 1, 1, []), (.getfield 21, 3, []), (.putfield 21, 3, []), (.aload_n 0, 1, []), (.aload_n 1, 1, []), (.getfield 24, 3, []), (.putfield 24, 3, []), (.return_, 1, [])]
  | _ => []
theorem qX3_take : ∀ pc, chk cX3_take pc (kX3_take pc) = true := by
  intro pc
  unfold kX3_take
  split <;> first | decide +kernel | exact chk_nil
abbrev rmX3_take : Room := { frames := 0, cells := 0, slots := 0, locals := 0 }
def aX3_take (_ : Nat) : Option CI := none
theorem aokX3_take : ∀ x ci, aX3_take x = some ci → CalOK RX3 rmX3_take x ci := fun _ _ h => by cases h
theorem mdX3_take : MD RX3 cX3_take rmX3_take kX3_take fX3 aX3_take zX3 uX3 := ⟨fokX3, zokX3, uokX3, aokX3_take, qX3_take⟩
theorem upI_ne {I : Int → Int → Int} {a i v b j : Int} (h : b ≠ a) : upI I a i v b j = I b j := if_neg (fun z => h z.1)
set_option maxRecDepth 100000 in
set_option maxHeartbeats 800000 in
theorem mX3_take : MOK yX3_take cX3_take 2 none rmX3_take ciX3_take := by
  refine mok_of (ini := false) (by decide +kernel) (by decide) rfl rfl ?_
  intro σ As K hrc hl h
  obtain ⟨N, P, I, L⟩ := σ
  have h9 := pR_iff.mp h
  clear h
  obtain ⟨a, r, e9, h⟩ := h9
  subst e9
  have h9 := pR_iff.mp h
  clear h
  obtain ⟨b, r, e9, h⟩ := h9
  subst e9
  have h9 := pN_iff.mp h
  clear h
  obtain ⟨e9, h⟩ := h9
  subst e9
  dsimp only at h
  obtain ⟨hg, a0⟩ : (G a).1 = 3 ∧ 0 < a := hrc
  obtain ⟨hb, hab, h⟩ := h
  refine ⟨Nat.le_of_ble_eq_true rfl, Ok.seg mdX3_take [] 60 ?_⟩
  simp only [wp_nil, wp_cons, ↓stp, ↓lI, ↓lL, ↓lR, ↓lIn_0, ↓lIn_1, ↓lIn_2, ↓lIn_3, ↓lLn_0, ↓lLn_1, ↓lLn_2, ↓lLn_3, ↓lRn_0, ↓lRn_1, ↓lRn_2, ↓lRn_3, ↓pI, ↓pL, ↓pR, ↓pA, ↓pN, ↓pV, ↓fp, ↓tsw, ↓oS, ↓spMax, ↓spMin, ↓spAbs, ↓spObj, RI, RLg, b2i_lo, b2i_hi, getL, setL, ltL, killL, isLong, inl, cnd, br, tgt, rcv, rpl, mputI, mputL, mputP, fv, fr, mcat, mcs, entL, entA, rfit, nf_0, nf_1, nf_2, nf_3, nf2_0, nf2_1, b2i_0, b2i_1, RI_b2i, b2i_fit, List.append, List.length, List.replicate, List.cons_append, List.nil_append, List.length_cons, List.length_nil, List.replicate_succ, List.replicate_zero, List.tail_cons, reduceIte, if_true, if_false, ite_true, ite_false, Bool.false_eq_true, true_and, and_true, and_self, false_and, and_false, or_self, or_true, true_or, or_false, false_or, not_true_eq_false, not_false_eq_true, ne_eq, forall_const, implies_true, imp_self, true_implies, false_implies, Nat.reduceAdd, Nat.reduceSub, Nat.reduceMul, Nat.reduceDiv, Nat.reduceMod, Nat.reduceEqDiff, Nat.reduceLT, Nat.reduceLeDiff, Nat.reduceBEq, Nat.add_zero, Nat.zero_add, Nat.le_refl, Nat.not_lt_zero, Nat.succ_eq_add_one, Int.reduceNatCast, Int.cast_ofNat_Int, Int.reduceSub, Int.reduceMul, Int.reduceNeg, Int.reduceLE, Int.reduceLT, Int.reduceToNat, Int.reduceEq, Int.reduceNe, Int.reduceAdd, Option.some.injEq, kX3_take, rmX3_take, ↓ofX3_15, ↓ofX3_18, ↓ofX3_21, ↓ofX3_24, ↓ofX3_9, hg, hb, upI_ne (Ne.symm hab)]
  exact h
end
section
/-! Arrays.fill, LapBoard$Car -/
def filI (I : Int → Int → Int) (a v n : Int) : Int → Int → Int := fun b j => if b = a ∧ 0 ≤ j ∧ j < n then v else I b j
theorem filI_0 (I : Int → Int → Int) (a v : Int) : filI I a v 0 = I := funext fun b => funext fun j => if_neg (fun z => by omega)
theorem filI_s (I : Int → Int → Int) (a v i : Int) (h : 0 ≤ i) : upI (filI I a v i) a i v = filI I a v (i + 1) := funext fun b => funext fun j => by
  unfold upI filI
  by_cases q : b = a ∧ j = i
  · rw [if_pos q, if_pos ⟨q.1, by omega, by omega⟩]
  · rw [if_neg q]
    by_cases q2 : b = a ∧ 0 ≤ j ∧ j < i
    · rw [if_pos q2, if_pos ⟨q2.1, by omega, by omega⟩]
    · rw [if_neg q2, if_neg (fun z => by
        by_cases q3 : j = i
        · exact q ⟨z.1, q3⟩
        · exact q2 ⟨z.1, by omega, by omega⟩)]
def spJ7_fill_53178 (As : List MV) (σ : MS) (K : Option MV → MS → Prop) : Prop := pR As fun a r => pI r fun v r => pN r ((G a).1 = 10 ∧ K none (σ.1, σ.2.1, filI σ.2.2.1 a v (G a).2, σ.2.2.2))
def ciJ7_fill_53178 : CI := (2, 10, 0, 0, spJ7_fill_53178)
def kJ7_fill_53178 (pc : Nat) : List ME := match pc with
  | 0 => [(.iconst 0, 1, []), (.istore_n 2, 1, []), (.aload_n 0, 1, []), (.arraylength, 1, []), (.istore_n 3, 1, [])]
  | 5 => [(.iload_n 2, 1, []), (.iload_n 3, 1, []), (.if_icmp .ge 13, 3, [20]), (.aload_n 0, 1, []), (.iload_n 2, 1, []), (.iload_n 1, 1, []), (.iastore, 1, []), (.iinc 2 1, 3, []), (.goto (-12), 3, [5])]
  | 20 => [(.return_, 1, [])]
  | _ => []
theorem qJ7_fill_53178 : ∀ pc, chk cJ7_fill_53178 pc (kJ7_fill_53178 pc) = true := by
  intro pc
  unfold kJ7_fill_53178
  split <;> first | decide +kernel | exact chk_nil
abbrev rmJ7_fill_53178 : Room := { frames := 0, cells := 0, slots := 0, locals := 0 }
def aJ7_fill_53178 (_ : Nat) : Option CI := none
theorem aokJ7_fill_53178 : ∀ x ci, aJ7_fill_53178 x = some ci → CalOK RJ7 rmJ7_fill_53178 x ci := fun _ _ h => by cases h
theorem mdJ7_fill_53178 : MD RJ7 cJ7_fill_53178 rmJ7_fill_53178 kJ7_fill_53178 fJ7 aJ7_fill_53178 zJ7 uJ7 := ⟨fokJ7, zokJ7, uokJ7, aokJ7_fill_53178, qJ7_fill_53178⟩
set_option maxHeartbeats 800000 in
theorem lpJ7_fill {post : Option MV → MS → Prop} {T : Pt → Prop} {N : Nat} {P : Int → Int → Option Int} {I L : Int → Int → Int} {a v : Int} {n : Nat} (hG : G a = (10, n)) (hn : n ≤ 20000) (h : post none (N, P, filI I a v n, L)) : ∀ (m : Nat) (i : Int), 0 ≤ i → i + m = n →
    Ok RJ7 cJ7_fill_53178 4 rmJ7_fill_53178 false none post T (5, [some (.inr (.inr (some a))), some (.inl v), some (.inl i), some (.inl n)], [], (N, P, filI I a v i, L), 0, 0)
  | 0, i, h0, hi => by
    refine Ok.seg mdJ7_fill_53178 [5] 20 ?_
    simp only [wp_nil, wp_cons, ↓stp, ↓lI, ↓lL, ↓lR, ↓lIn_0, ↓lIn_1, ↓lIn_2, ↓lIn_3, ↓lLn_0, ↓lLn_1, ↓lLn_2, ↓lLn_3, ↓lRn_0, ↓lRn_1, ↓lRn_2, ↓lRn_3, ↓pI, ↓pL, ↓pR, ↓pA, ↓pN, ↓pV, ↓fp, ↓tsw, ↓oS, ↓spMax, ↓spMin, ↓spAbs, ↓spObj, RI, RLg, b2i_lo, b2i_hi, getL, setL, ltL, killL, isLong, inl, cnd, br, tgt, rcv, rpl, mputI, mputL, mputP, fv, fr, mcat, mcs, entL, entA, rfit, nf_0, nf_1, nf_2, nf_3, nf2_0, nf2_1, b2i_0, b2i_1, RI_b2i, b2i_fit, List.append, List.length, List.replicate, List.cons_append, List.nil_append, List.length_cons, List.length_nil, List.replicate_succ, List.replicate_zero, List.tail_cons, reduceIte, if_true, if_false, ite_true, ite_false, Bool.false_eq_true, true_and, and_true, and_self, false_and, and_false, or_self, or_true, true_or, or_false, false_or, not_true_eq_false, not_false_eq_true, ne_eq, forall_const, implies_true, imp_self, true_implies, false_implies, Nat.reduceAdd, Nat.reduceSub, Nat.reduceMul, Nat.reduceDiv, Nat.reduceMod, Nat.reduceEqDiff, Nat.reduceLT, Nat.reduceLeDiff, Nat.reduceBEq, Nat.add_zero, Nat.zero_add, Nat.le_refl, Nat.not_lt_zero, Nat.succ_eq_add_one, Int.reduceNatCast, Int.cast_ofNat_Int, Int.reduceSub, Int.reduceMul, Int.reduceNeg, Int.reduceLE, Int.reduceLT, Int.reduceToNat, Int.reduceEq, Int.reduceNe, Int.reduceAdd, Option.some.injEq, kJ7_fill_53178, rmJ7_fill_53178, hG]
    repeat' (first | apply And.intro | intro _)
    all_goals try omega
    rw [show i = (n : Int) by omega]; exact h
  | m + 1, i, h0, hi => by
    have ih := lpJ7_fill (post := post) (T := T) (P := P) (I := I) (L := L) (v := v) hG hn h m (i + 1) (by omega) (by omega)
    rw [← filI_s I a v i h0] at ih
    refine Ok.seg mdJ7_fill_53178 [5] 20 ?_
    simp only [wp_nil, wp_cons, ↓stp, ↓lI, ↓lL, ↓lR, ↓lIn_0, ↓lIn_1, ↓lIn_2, ↓lIn_3, ↓lLn_0, ↓lLn_1, ↓lLn_2, ↓lLn_3, ↓lRn_0, ↓lRn_1, ↓lRn_2, ↓lRn_3, ↓pI, ↓pL, ↓pR, ↓pA, ↓pN, ↓pV, ↓fp, ↓tsw, ↓oS, ↓spMax, ↓spMin, ↓spAbs, ↓spObj, RI, RLg, b2i_lo, b2i_hi, getL, setL, ltL, killL, isLong, inl, cnd, br, tgt, rcv, rpl, mputI, mputL, mputP, fv, fr, mcat, mcs, entL, entA, rfit, nf_0, nf_1, nf_2, nf_3, nf2_0, nf2_1, b2i_0, b2i_1, RI_b2i, b2i_fit, List.append, List.length, List.replicate, List.cons_append, List.nil_append, List.length_cons, List.length_nil, List.replicate_succ, List.replicate_zero, List.tail_cons, reduceIte, if_true, if_false, ite_true, ite_false, Bool.false_eq_true, true_and, and_true, and_self, false_and, and_false, or_self, or_true, true_or, or_false, false_or, not_true_eq_false, not_false_eq_true, ne_eq, forall_const, implies_true, imp_self, true_implies, false_implies, Nat.reduceAdd, Nat.reduceSub, Nat.reduceMul, Nat.reduceDiv, Nat.reduceMod, Nat.reduceEqDiff, Nat.reduceLT, Nat.reduceLeDiff, Nat.reduceBEq, Nat.add_zero, Nat.zero_add, Nat.le_refl, Nat.not_lt_zero, Nat.succ_eq_add_one, Int.reduceNatCast, Int.cast_ofNat_Int, Int.reduceSub, Int.reduceMul, Int.reduceNeg, Int.reduceLE, Int.reduceLT, Int.reduceToNat, Int.reduceEq, Int.reduceNe, Int.reduceAdd, Option.some.injEq, kJ7_fill_53178, rmJ7_fill_53178, hG]
    repeat' (first | apply And.intro | intro _)
    all_goals first | omega | exact ih
set_option maxRecDepth 100000 in
set_option maxHeartbeats 800000 in
theorem mJ7_fill_53178 : MOK yJ7_fill_53178 cJ7_fill_53178 4 none rmJ7_fill_53178 ciJ7_fill_53178 := by
  refine mok_of (ini := false) (by decide +kernel) (by decide) rfl rfl ?_
  intro σ As K hrc hl h
  obtain ⟨N, P, I, L⟩ := σ
  have h9 := pR_iff.mp h
  clear h
  obtain ⟨a, r, e9, h⟩ := h9
  subst e9
  have h9 := pI_iff.mp h
  clear h
  obtain ⟨v, r, e9, h⟩ := h9
  subst e9
  have h9 := pN_iff.mp h
  clear h
  obtain ⟨e9, h⟩ := h9
  subst e9
  dsimp only at h
  obtain ⟨hg, h⟩ := h
  obtain ⟨n, hG⟩ : ∃ n, G a = (10, n) := ⟨(G a).2, by rw [← hg]⟩
  have hn := G_small a
  rw [hG] at h hn
  refine ⟨Nat.le_of_ble_eq_true rfl, Ok.seg mdJ7_fill_53178 [5] 20 ?_⟩
  simp only [wp_nil, wp_cons, ↓stp, ↓lI, ↓lL, ↓lR, ↓lIn_0, ↓lIn_1, ↓lIn_2, ↓lIn_3, ↓lLn_0, ↓lLn_1, ↓lLn_2, ↓lLn_3, ↓lRn_0, ↓lRn_1, ↓lRn_2, ↓lRn_3, ↓pI, ↓pL, ↓pR, ↓pA, ↓pN, ↓pV, ↓fp, ↓tsw, ↓oS, ↓spMax, ↓spMin, ↓spAbs, ↓spObj, RI, RLg, b2i_lo, b2i_hi, getL, setL, ltL, killL, isLong, inl, cnd, br, tgt, rcv, rpl, mputI, mputL, mputP, fv, fr, mcat, mcs, entL, entA, rfit, nf_0, nf_1, nf_2, nf_3, nf2_0, nf2_1, b2i_0, b2i_1, RI_b2i, b2i_fit, List.append, List.length, List.replicate, List.cons_append, List.nil_append, List.length_cons, List.length_nil, List.replicate_succ, List.replicate_zero, List.tail_cons, reduceIte, if_true, if_false, ite_true, ite_false, Bool.false_eq_true, true_and, and_true, and_self, false_and, and_false, or_self, or_true, true_or, or_false, false_or, not_true_eq_false, not_false_eq_true, ne_eq, forall_const, implies_true, imp_self, true_implies, false_implies, Nat.reduceAdd, Nat.reduceSub, Nat.reduceMul, Nat.reduceDiv, Nat.reduceMod, Nat.reduceEqDiff, Nat.reduceLT, Nat.reduceLeDiff, Nat.reduceBEq, Nat.add_zero, Nat.zero_add, Nat.le_refl, Nat.not_lt_zero, Nat.succ_eq_add_one, Int.reduceNatCast, Int.cast_ofNat_Int, Int.reduceSub, Int.reduceMul, Int.reduceNeg, Int.reduceLE, Int.reduceLT, Int.reduceToNat, Int.reduceEq, Int.reduceNe, Int.reduceAdd, Option.some.injEq, kJ7_fill_53178, rmJ7_fill_53178, hG]
  have := lpJ7_fill (post := fun r σ' => rfit none r ∧ K r σ') (T := fun _ => False) (P := P) (I := I) (L := L) (v := v) hG hn ⟨trivial, h⟩ n 0 (by omega) (by omega)
  rw [filI_0] at this
  exact this
/-- what gear g (top T, pull Q) gives from pace p -/
def pul (T Q p : Int) : Int := if p < T then (if p + Q < T then p + Q else T) else p
/-- the greatest over the gears 1 .. g -/
def rcm (T Q : Int → Int) (p : Int) : Nat → Int
  | 0 => p
  | g + 1 => if rcm T Q p g < pul (T (g + 1)) (Q (g + 1)) p then pul (T (g + 1)) (Q (g + 1)) p else rcm T Q p g
/-- REACH -/
def rch (T Q : Int → Int) (p : Int) : Int := rcm T Q p 6
def gOK (T Q : Int → Int) : Prop := ∀ i, 1 ≤ i → i ≤ 6 → 1 ≤ T i ∧ T i ≤ 60 ∧ 1 ≤ Q i ∧ Q i ≤ 20
theorem pul_rng {T Q p : Int} (hT : T ≤ 60) (hQ : 1 ≤ Q) (hp : p ≤ 60) : p ≤ pul T Q p ∧ pul T Q p ≤ 60 := by
  unfold pul
  split
  · split <;> omega
  · omega
theorem rcm_rng {T Q : Int → Int} {p : Int} (h : gOK T Q) (hp : p ≤ 60) : ∀ (g : Nat), g ≤ 6 → p ≤ rcm T Q p g ∧ rcm T Q p g ≤ 60
  | 0, _ => ⟨Int.le_refl _, hp⟩
  | g + 1, hg => by
    have ih := rcm_rng h hp g (by omega)
    have q := h (g + 1) (by omega) (by omega)
    have w := pul_rng (p := p) q.2.1 q.2.2.1 hp
    unfold rcm
    split <;> omega
theorem rch_rng {T Q : Int → Int} {p : Int} (h : gOK T Q) (hp : p ≤ 60) : p ≤ rch T Q p ∧ rch T Q p ≤ 60 := rcm_rng h hp 6 (by omega)
def cP (P : Int → Int → Option Int) : Prop := P 35 0 = some 36 ∧ P 35 1 = some 37 ∧ P 35 2 = some 38 ∧ P 35 3 = some 39
def spX0_pullOf (As : List MV) (σ : MS) (K : Option MV → MS → Prop) : Prop := pR As fun a r => pI r fun g r => pI r fun p r => pN r (a = 35 ∧ cP σ.2.1 ∧ gOK (σ.2.2.1 38) (σ.2.2.1 39) ∧ 1 ≤ g ∧ g ≤ 6 ∧ 1 ≤ p ∧ p ≤ 60 ∧ K (some (.inl (pul (σ.2.2.1 38 g) (σ.2.2.1 39 g) p))) σ)
def ciX0_pullOf : CI := (3, 0, 0, 0, spX0_pullOf)
def kX0_pullOf (pc : Nat) : List ME := match pc with
  | 0 => [(.aload_n 0, 1, []), (.getfield 18, 3, []), (.iload_n 1, 1, []), (.iaload, 1, []), (.iload_n 2, 1, []), (.if_icmp .le 23, 3, [30]), (.aload_n 0, 1, []), (.getfield 18, 3, []), (.iload_n 1, 1, []), (.iaload, 1, []), (.iload_n 2, 1, []), (.aload_n 0, 1, []), (.getfield 21, 3, []), (.iload_n 1, 1, []), (.iaload, 1, []), (.iadd, 1, []), (.invokestatic 31, 3, []), (.goto 4, 3, [31])]
  | 30 => [(.iload_n 2, 1, [])]
  | 31 => [(.ireturn, 1, [])]
  | _ => []
theorem qX0_pullOf : ∀ pc, chk cX0_pullOf pc (kX0_pullOf pc) = true := by
  intro pc
  unfold kX0_pullOf
  split <;> first | decide +kernel | exact chk_nil
abbrev rmX0_pullOf : Room := { frames := 1, cells := 0, slots := 0, locals := 21 }
def aX0_pullOf (x : Nat) : Option CI := match x with
  | 31 => some ciMin
  | _ => none
theorem aokX0_pullOf : ∀ x ci, aX0_pullOf x = some ci → CalOK RX0 rmX0_pullOf x ci := by
  intro x ci h
  unfold aX0_pullOf at h
  split at h
  · cases h; exact cal_min (List.forall_mem_cons.mpr ⟨(ws_mem (List.mem_of_getElem? (i := 154) (by decide +kernel)) (by decide +kernel)), List.forall_mem_cons.mpr ⟨(ws_mem (List.mem_of_getElem? (i := 155) (by decide +kernel)) (by decide +kernel)), List.forall_mem_cons.mpr ⟨(ws_mem (List.mem_of_getElem? (i := 58) (by decide +kernel)) (by decide +kernel)), List.forall_mem_cons.mpr ⟨(ws_mem (List.mem_of_getElem? (i := 156) (by decide +kernel)) (by decide +kernel)), fun _ h => absurd h List.not_mem_nil⟩⟩⟩⟩) (by decide)
  · cases h
theorem ocX0_pullOf_31 (f : Nat → Nat → Nat → Nat → (List MV → MS → (Option MV → MS → Prop) → Prop) → Prop) : oC aX0_pullOf 31 f = f 2 10 0 0 spMin := propext Iff.rfl
theorem mdX0_pullOf : MD RX0 cX0_pullOf rmX0_pullOf kX0_pullOf fX0 aX0_pullOf zX0 uX0 := ⟨fokX0, zokX0, uokX0, aokX0_pullOf, qX0_pullOf⟩
set_option maxRecDepth 100000 in
set_option maxHeartbeats 800000 in
theorem mX0_pullOf : MOK yX0_pullOf cX0_pullOf 3 (some .int) rmX0_pullOf ciX0_pullOf := by
  refine mok_of (ini := false) (by decide +kernel) (by decide) rfl rfl ?_
  intro σ As K hrc hl h
  obtain ⟨N, P, I, L⟩ := σ
  have h9 := pR_iff.mp h
  clear h
  obtain ⟨a, r, e9, h⟩ := h9
  subst e9
  have h9 := pI_iff.mp h
  clear h
  obtain ⟨g, r, e9, h⟩ := h9
  subst e9
  have h9 := pI_iff.mp h
  clear h
  obtain ⟨p, r, e9, h⟩ := h9
  subst e9
  have h9 := pN_iff.mp h
  clear h
  obtain ⟨e9, h⟩ := h9
  subst e9
  dsimp only at h
  obtain ⟨rfl, ⟨c0, c1, c2, c3⟩, hok, g1, g2, p1, p2, h⟩ := h
  refine ⟨Nat.le_of_ble_eq_true rfl, Ok.seg mdX0_pullOf [] 40 ?_⟩
  have hq := hok g g1 g2
  simp only [wp_nil, wp_cons, ↓stp, ↓lI, ↓lL, ↓lR, ↓lIn_0, ↓lIn_1, ↓lIn_2, ↓lIn_3, ↓lLn_0, ↓lLn_1, ↓lLn_2, ↓lLn_3, ↓lRn_0, ↓lRn_1, ↓lRn_2, ↓lRn_3, ↓pI, ↓pL, ↓pR, ↓pA, ↓pN, ↓pV, ↓fp, ↓tsw, ↓oS, ↓spMax, ↓spMin, ↓spAbs, ↓spObj, RI, RLg, b2i_lo, b2i_hi, getL, setL, ltL, killL, isLong, inl, cnd, br, tgt, rcv, rpl, mputI, mputL, mputP, fv, fr, mcat, mcs, entL, entA, rfit, nf_0, nf_1, nf_2, nf_3, nf2_0, nf2_1, b2i_0, b2i_1, RI_b2i, b2i_fit, List.append, List.length, List.replicate, List.cons_append, List.nil_append, List.length_cons, List.length_nil, List.replicate_succ, List.replicate_zero, List.tail_cons, reduceIte, if_true, if_false, ite_true, ite_false, Bool.false_eq_true, true_and, and_true, and_self, false_and, and_false, or_self, or_true, true_or, or_false, false_or, not_true_eq_false, not_false_eq_true, ne_eq, forall_const, implies_true, imp_self, true_implies, false_implies, Nat.reduceAdd, Nat.reduceSub, Nat.reduceMul, Nat.reduceDiv, Nat.reduceMod, Nat.reduceEqDiff, Nat.reduceLT, Nat.reduceLeDiff, Nat.reduceBEq, Nat.add_zero, Nat.zero_add, Nat.le_refl, Nat.not_lt_zero, Nat.succ_eq_add_one, Int.reduceNatCast, Int.cast_ofNat_Int, Int.reduceSub, Int.reduceMul, Int.reduceNeg, Int.reduceLE, Int.reduceLT, Int.reduceToNat, Int.reduceEq, Int.reduceNe, Int.reduceAdd, Option.some.injEq, kX0_pullOf, rmX0_pullOf, ↓ofX0_18, ↓ofX0_21, ↓ocX0_pullOf_31, G_35, G_38, G_39, c0, c1, c2, c3]
  unfold pul at h
  repeat' (first | apply And.intro | intro _)
  all_goals try omega
  · rw [if_neg (by omega)] at h; exact h
  · rw [if_pos (by omega)] at h
    by_cases w : p + I 39 g < I 38 g
    · rw [if_pos w] at h; exact K_eq h (by omega)
    · rw [if_neg w] at h; exact K_eq h (by omega)
def spX0_fillReaches (As : List MV) (σ : MS) (K : Option MV → MS → Prop) : Prop := pR As fun a r => pN r (a = 35 ∧ cP σ.2.1 ∧ gOK (σ.2.2.1 38) (σ.2.2.1 39) ∧ ∀ I' : Int → Int → Int, (∀ b j, b ≠ 37 → I' b j = σ.2.2.1 b j) → (∀ p, 1 ≤ p → p ≤ 60 → I' 37 p = rch (σ.2.2.1 38) (σ.2.2.1 39) p) → K none (σ.1, σ.2.1, I', σ.2.2.2))
def ciX0_fillReaches : CI := (1, 0, 0, 0, spX0_fillReaches)
def kX0_fillReaches (pc : Nat) : List ME := match pc with
  | 0 => [(.iconst 1, 1, []), (.istore_n 1, 1, [])]
  | 2 => [(.iload_n 1, 1, []), (.bipush 60, 2, []), (.if_icmp .gt 48, 3, [53]), (.iload_n 1, 1, []), (.istore_n 2, 1, []), (.iconst 1, 1, []), (.istore_n 3, 1, [])]
  | 12 => [(.iload_n 3, 1, []), (.bipush 6, 2, []), (.if_icmp .gt 20, 3, [35]), (.iload_n 2, 1, []), (.aload_n 0, 1, []), (.iload_n 3, 1, []), (.iload_n 1, 1, []), (.invokevirtual 27, 3, []), (.invokestatic 36, 3, []), (.istore_n 2, 1, []), (.iinc 3 1, 3, []), (.goto (-20), 3, [12])]
  | 35 => [(.aload_n 0, 1, []), (.getfield 15, 3, []), (.iload_n 1, 1, []), (.bipush 60, 2, []), (.iload_n 2, 1, []), (.invokestatic 31, 3, []), (.iastore, 1, []), (.iinc 1 1, 3, []), (.goto (-48), 3, [2])]
  | 53 => [(.return_, 1, [])]
  | _ => []
theorem qX0_fillReaches : ∀ pc, chk cX0_fillReaches pc (kX0_fillReaches pc) = true := by
  intro pc
  unfold kX0_fillReaches
  split <;> first | decide +kernel | exact chk_nil
abbrev rmX0_fillReaches : Room := { frames := 2, cells := 0, slots := 0, locals := 43 }
def aX0_fillReaches (x : Nat) : Option CI := match x with
  | 27 => some ciX0_pullOf
  | 36 => some ciMax
  | 31 => some ciMin
  | _ => none
theorem aokX0_fillReaches : ∀ x ci, aX0_fillReaches x = some ci → CalOK RX0 rmX0_fillReaches x ci := by
  intro x ci h
  unfold aX0_fillReaches at h
  split at h
  · cases h; exact cal_V mX0_pullOf (by decide) rfl (List.forall_mem_cons.mpr ⟨(ws_mem (List.mem_of_getElem? (i := 150) (by decide +kernel)) (by decide +kernel)), List.forall_mem_cons.mpr ⟨(ws_mem (List.mem_of_getElem? (i := 152) (by decide +kernel)) (by decide +kernel)), List.forall_mem_cons.mpr ⟨(ws_mem (List.mem_of_getElem? (i := 1) (by decide +kernel)) (by decide +kernel)), List.forall_mem_cons.mpr ⟨(ws_mem (List.mem_of_getElem? (i := 57) (by decide +kernel)) (by decide +kernel)), List.forall_mem_cons.mpr ⟨(ws_mem (List.mem_of_getElem? (i := 153) (by decide +kernel)) (by decide +kernel)), fun _ h => absurd h List.not_mem_nil⟩⟩⟩⟩⟩) rfl (by unfold nice; decide +kernel) (by unfold rfits; decide) ⟨rfl, rfl⟩
  · cases h; exact cal_max (List.forall_mem_cons.mpr ⟨(ws_mem (List.mem_of_getElem? (i := 157) (by decide +kernel)) (by decide +kernel)), List.forall_mem_cons.mpr ⟨(ws_mem (List.mem_of_getElem? (i := 158) (by decide +kernel)) (by decide +kernel)), List.forall_mem_cons.mpr ⟨(ws_mem (List.mem_of_getElem? (i := 58) (by decide +kernel)) (by decide +kernel)), List.forall_mem_cons.mpr ⟨(ws_mem (List.mem_of_getElem? (i := 159) (by decide +kernel)) (by decide +kernel)), fun _ h => absurd h List.not_mem_nil⟩⟩⟩⟩) (by decide)
  · cases h; exact cal_min (List.forall_mem_cons.mpr ⟨(ws_mem (List.mem_of_getElem? (i := 154) (by decide +kernel)) (by decide +kernel)), List.forall_mem_cons.mpr ⟨(ws_mem (List.mem_of_getElem? (i := 155) (by decide +kernel)) (by decide +kernel)), List.forall_mem_cons.mpr ⟨(ws_mem (List.mem_of_getElem? (i := 58) (by decide +kernel)) (by decide +kernel)), List.forall_mem_cons.mpr ⟨(ws_mem (List.mem_of_getElem? (i := 156) (by decide +kernel)) (by decide +kernel)), fun _ h => absurd h List.not_mem_nil⟩⟩⟩⟩) (by decide)
  · cases h
theorem ocX0_fillReaches_27 (f : Nat → Nat → Nat → Nat → (List MV → MS → (Option MV → MS → Prop) → Prop) → Prop) : oC aX0_fillReaches 27 f = f 3 0 0 0 spX0_pullOf := propext Iff.rfl
theorem ocX0_fillReaches_36 (f : Nat → Nat → Nat → Nat → (List MV → MS → (Option MV → MS → Prop) → Prop) → Prop) : oC aX0_fillReaches 36 f = f 2 10 0 0 spMax := propext Iff.rfl
theorem ocX0_fillReaches_31 (f : Nat → Nat → Nat → Nat → (List MV → MS → (Option MV → MS → Prop) → Prop) → Prop) : oC aX0_fillReaches 31 f = f 2 10 0 0 spMin := propext Iff.rfl
theorem mdX0_fillReaches : MD RX0 cX0_fillReaches rmX0_fillReaches kX0_fillReaches fX0 aX0_fillReaches zX0 uX0 := ⟨fokX0, zokX0, uokX0, aokX0_fillReaches, qX0_fillReaches⟩
set_option maxHeartbeats 800000 in
theorem lpX0_fill1 {post : Option MV → MS → Prop} {U : Pt → Prop} {N : Nat} {P : Int → Int → Option Int} {I L : Int → Int → Int} {T Q : Int → Int} {p : Int} (hc : cP P) (hT : I 38 = T) (hQ : I 39 = Q) (hok : gOK T Q) (p1 : 1 ≤ p) (p2 : p ≤ 60)
    (h : ∀ x3, Ok RX0 cX0_fillReaches 4 rmX0_fillReaches false none post U (35, [some (.inr (.inr (some 35))), some (.inl p), some (.inl (rch T Q p)), x3], [], (N, P, I, L), 0, 0)) : ∀ (m g : Nat), g + m = 6 →
    Ok RX0 cX0_fillReaches 4 rmX0_fillReaches false none post U (12, [some (.inr (.inr (some 35))), some (.inl p), some (.inl (rcm T Q p g)), some (.inl (g + 1))], [], (N, P, I, L), 0, 0)
  | 0, g, hg => by
    have e : g = 6 := by omega
    subst e
    refine Ok.seg mdX0_fillReaches [35] 20 ?_
    simp only [wp_nil, wp_cons, ↓stp, ↓lI, ↓lL, ↓lR, ↓lIn_0, ↓lIn_1, ↓lIn_2, ↓lIn_3, ↓lLn_0, ↓lLn_1, ↓lLn_2, ↓lLn_3, ↓lRn_0, ↓lRn_1, ↓lRn_2, ↓lRn_3, ↓pI, ↓pL, ↓pR, ↓pA, ↓pN, ↓pV, ↓fp, ↓tsw, ↓oS, ↓spMax, ↓spMin, ↓spAbs, ↓spObj, RI, RLg, b2i_lo, b2i_hi, getL, setL, ltL, killL, isLong, inl, cnd, br, tgt, rcv, rpl, mputI, mputL, mputP, fv, fr, mcat, mcs, entL, entA, rfit, nf_0, nf_1, nf_2, nf_3, nf2_0, nf2_1, b2i_0, b2i_1, RI_b2i, b2i_fit, List.append, List.length, List.replicate, List.cons_append, List.nil_append, List.length_cons, List.length_nil, List.replicate_succ, List.replicate_zero, List.tail_cons, reduceIte, if_true, if_false, ite_true, ite_false, Bool.false_eq_true, true_and, and_true, and_self, false_and, and_false, or_self, or_true, true_or, or_false, false_or, not_true_eq_false, not_false_eq_true, ne_eq, forall_const, implies_true, imp_self, true_implies, false_implies, Nat.reduceAdd, Nat.reduceSub, Nat.reduceMul, Nat.reduceDiv, Nat.reduceMod, Nat.reduceEqDiff, Nat.reduceLT, Nat.reduceLeDiff, Nat.reduceBEq, Nat.add_zero, Nat.zero_add, Nat.le_refl, Nat.not_lt_zero, Nat.succ_eq_add_one, Int.reduceNatCast, Int.cast_ofNat_Int, Int.reduceSub, Int.reduceMul, Int.reduceNeg, Int.reduceLE, Int.reduceLT, Int.reduceToNat, Int.reduceEq, Int.reduceNe, Int.reduceAdd, Option.some.injEq, kX0_fillReaches, rmX0_fillReaches, ↓ofX0_15, ↓ocX0_fillReaches_27, ↓spX0_pullOf, ↓ocX0_fillReaches_36, ↓ocX0_fillReaches_31, hT, hQ, hc, G_35]
    repeat' (first | apply And.intro | intro _)
    all_goals first | omega | exact h _
  | m + 1, g, hg => by
    have ih := lpX0_fill1 hc hT hQ hok p1 p2 h m (g + 1) (by omega)
    have q := rcm_rng hok p2 g (by omega)
    have w := hok (g + 1) (by omega) (by omega)
    have w2 := pul_rng (p := p) w.2.1 w.2.2.1 p2
    refine Ok.seg mdX0_fillReaches [35, 12] 30 ?_
    simp only [wp_nil, wp_cons, ↓stp, ↓lI, ↓lL, ↓lR, ↓lIn_0, ↓lIn_1, ↓lIn_2, ↓lIn_3, ↓lLn_0, ↓lLn_1, ↓lLn_2, ↓lLn_3, ↓lRn_0, ↓lRn_1, ↓lRn_2, ↓lRn_3, ↓pI, ↓pL, ↓pR, ↓pA, ↓pN, ↓pV, ↓fp, ↓tsw, ↓oS, ↓spMax, ↓spMin, ↓spAbs, ↓spObj, RI, RLg, b2i_lo, b2i_hi, getL, setL, ltL, killL, isLong, inl, cnd, br, tgt, rcv, rpl, mputI, mputL, mputP, fv, fr, mcat, mcs, entL, entA, rfit, nf_0, nf_1, nf_2, nf_3, nf2_0, nf2_1, b2i_0, b2i_1, RI_b2i, b2i_fit, List.append, List.length, List.replicate, List.cons_append, List.nil_append, List.length_cons, List.length_nil, List.replicate_succ, List.replicate_zero, List.tail_cons, reduceIte, if_true, if_false, ite_true, ite_false, Bool.false_eq_true, true_and, and_true, and_self, false_and, and_false, or_self, or_true, true_or, or_false, false_or, not_true_eq_false, not_false_eq_true, ne_eq, forall_const, implies_true, imp_self, true_implies, false_implies, Nat.reduceAdd, Nat.reduceSub, Nat.reduceMul, Nat.reduceDiv, Nat.reduceMod, Nat.reduceEqDiff, Nat.reduceLT, Nat.reduceLeDiff, Nat.reduceBEq, Nat.add_zero, Nat.zero_add, Nat.le_refl, Nat.not_lt_zero, Nat.succ_eq_add_one, Int.reduceNatCast, Int.cast_ofNat_Int, Int.reduceSub, Int.reduceMul, Int.reduceNeg, Int.reduceLE, Int.reduceLT, Int.reduceToNat, Int.reduceEq, Int.reduceNe, Int.reduceAdd, Option.some.injEq, kX0_fillReaches, rmX0_fillReaches, ↓ofX0_15, ↓ocX0_fillReaches_27, ↓spX0_pullOf, ↓ocX0_fillReaches_36, ↓ocX0_fillReaches_31, hT, hQ, hc, G_35]
    refine ⟨by omega, fun _ => by omega, fun _ => ⟨hok, by omega, by omega, by omega, by omega, by omega, by omega, fun r r1 r2 r3 => ?_⟩⟩
    have e : r = rcm T Q p (g + 1) := by
      unfold rcm
      split <;> omega
    rw [e]
    exact ih
set_option maxHeartbeats 800000 in
theorem lpX0_fill2 {post : Option MV → MS → Prop} {U : Pt → Prop} {N : Nat} {P : Int → Int → Option Int} {I L : Int → Int → Int} (hc : cP P) (hok : gOK (I 38) (I 39))
    (h : ∀ I' : Int → Int → Int, (∀ b j, b ≠ 37 → I' b j = I b j) → (∀ p, 1 ≤ p → p ≤ 60 → I' 37 p = rch (I 38) (I 39) p) → post none (N, P, I', L)) : ∀ (m : Nat) (p : Int) (x2 x3 : Option MV) (I1 : Int → Int → Int), 1 ≤ p → p + m = 61 → (∀ b j, b ≠ 37 → I1 b j = I b j) → (∀ q, 1 ≤ q → q < p → I1 37 q = rch (I 38) (I 39) q) →
    Ok RX0 cX0_fillReaches 4 rmX0_fillReaches false none post U (2, [some (.inr (.inr (some 35))), some (.inl p), x2, x3], [], (N, P, I1, L), 0, 0)
  | 0, p, x2, x3, I1, p1, hp, h1, h2 => by
    refine Ok.seg mdX0_fillReaches [12] 20 ?_
    simp only [wp_nil, wp_cons, ↓stp, ↓lI, ↓lL, ↓lR, ↓lIn_0, ↓lIn_1, ↓lIn_2, ↓lIn_3, ↓lLn_0, ↓lLn_1, ↓lLn_2, ↓lLn_3, ↓lRn_0, ↓lRn_1, ↓lRn_2, ↓lRn_3, ↓pI, ↓pL, ↓pR, ↓pA, ↓pN, ↓pV, ↓fp, ↓tsw, ↓oS, ↓spMax, ↓spMin, ↓spAbs, ↓spObj, RI, RLg, b2i_lo, b2i_hi, getL, setL, ltL, killL, isLong, inl, cnd, br, tgt, rcv, rpl, mputI, mputL, mputP, fv, fr, mcat, mcs, entL, entA, rfit, nf_0, nf_1, nf_2, nf_3, nf2_0, nf2_1, b2i_0, b2i_1, RI_b2i, b2i_fit, List.append, List.length, List.replicate, List.cons_append, List.nil_append, List.length_cons, List.length_nil, List.replicate_succ, List.replicate_zero, List.tail_cons, reduceIte, if_true, if_false, ite_true, ite_false, Bool.false_eq_true, true_and, and_true, and_self, false_and, and_false, or_self, or_true, true_or, or_false, false_or, not_true_eq_false, not_false_eq_true, ne_eq, forall_const, implies_true, imp_self, true_implies, false_implies, Nat.reduceAdd, Nat.reduceSub, Nat.reduceMul, Nat.reduceDiv, Nat.reduceMod, Nat.reduceEqDiff, Nat.reduceLT, Nat.reduceLeDiff, Nat.reduceBEq, Nat.add_zero, Nat.zero_add, Nat.le_refl, Nat.not_lt_zero, Nat.succ_eq_add_one, Int.reduceNatCast, Int.cast_ofNat_Int, Int.reduceSub, Int.reduceMul, Int.reduceNeg, Int.reduceLE, Int.reduceLT, Int.reduceToNat, Int.reduceEq, Int.reduceNe, Int.reduceAdd, Option.some.injEq, kX0_fillReaches, rmX0_fillReaches, ↓ofX0_15, ↓ocX0_fillReaches_27, ↓spX0_pullOf, ↓ocX0_fillReaches_36, ↓ocX0_fillReaches_31, hc]
    repeat' (first | apply And.intro | intro _)
    all_goals first | omega | exact h I1 h1 (fun q q1 q2 => h2 q q1 (by omega))
  | m + 1, p, x2, x3, I1, p1, hp, h1, h2 => by
    have hc2 := hc
    obtain ⟨c0, c1, c2, c3⟩ := hc2
    have e38 : I1 38 = I 38 := funext fun j => h1 38 j (by decide)
    have e39 : I1 39 = I 39 := funext fun j => h1 39 j (by decide)
    have hr := rch_rng hok (p := p) (by omega)
    refine Ok.seg mdX0_fillReaches [12] 20 ?_
    simp only [wp_nil, wp_cons, ↓stp, ↓lI, ↓lL, ↓lR, ↓lIn_0, ↓lIn_1, ↓lIn_2, ↓lIn_3, ↓lLn_0, ↓lLn_1, ↓lLn_2, ↓lLn_3, ↓lRn_0, ↓lRn_1, ↓lRn_2, ↓lRn_3, ↓pI, ↓pL, ↓pR, ↓pA, ↓pN, ↓pV, ↓fp, ↓tsw, ↓oS, ↓spMax, ↓spMin, ↓spAbs, ↓spObj, RI, RLg, b2i_lo, b2i_hi, getL, setL, ltL, killL, isLong, inl, cnd, br, tgt, rcv, rpl, mputI, mputL, mputP, fv, fr, mcat, mcs, entL, entA, rfit, nf_0, nf_1, nf_2, nf_3, nf2_0, nf2_1, b2i_0, b2i_1, RI_b2i, b2i_fit, List.append, List.length, List.replicate, List.cons_append, List.nil_append, List.length_cons, List.length_nil, List.replicate_succ, List.replicate_zero, List.tail_cons, reduceIte, if_true, if_false, ite_true, ite_false, Bool.false_eq_true, true_and, and_true, and_self, false_and, and_false, or_self, or_true, true_or, or_false, false_or, not_true_eq_false, not_false_eq_true, ne_eq, forall_const, implies_true, imp_self, true_implies, false_implies, Nat.reduceAdd, Nat.reduceSub, Nat.reduceMul, Nat.reduceDiv, Nat.reduceMod, Nat.reduceEqDiff, Nat.reduceLT, Nat.reduceLeDiff, Nat.reduceBEq, Nat.add_zero, Nat.zero_add, Nat.le_refl, Nat.not_lt_zero, Nat.succ_eq_add_one, Int.reduceNatCast, Int.cast_ofNat_Int, Int.reduceSub, Int.reduceMul, Int.reduceNeg, Int.reduceLE, Int.reduceLT, Int.reduceToNat, Int.reduceEq, Int.reduceNe, Int.reduceAdd, Option.some.injEq, kX0_fillReaches, rmX0_fillReaches, ↓ofX0_15, ↓ocX0_fillReaches_27, ↓spX0_pullOf, ↓ocX0_fillReaches_36, ↓ocX0_fillReaches_31, hc]
    refine ⟨by omega, fun _ => by omega, fun _ => lpX0_fill1 (I := I1) hc e38 e39 hok p1 (by omega) (fun x3 => ?_) 6 0 rfl⟩
    refine Ok.seg mdX0_fillReaches [2] 20 ?_
    simp only [wp_nil, wp_cons, ↓stp, ↓lI, ↓lL, ↓lR, ↓lIn_0, ↓lIn_1, ↓lIn_2, ↓lIn_3, ↓lLn_0, ↓lLn_1, ↓lLn_2, ↓lLn_3, ↓lRn_0, ↓lRn_1, ↓lRn_2, ↓lRn_3, ↓pI, ↓pL, ↓pR, ↓pA, ↓pN, ↓pV, ↓fp, ↓tsw, ↓oS, ↓spMax, ↓spMin, ↓spAbs, ↓spObj, RI, RLg, b2i_lo, b2i_hi, getL, setL, ltL, killL, isLong, inl, cnd, br, tgt, rcv, rpl, mputI, mputL, mputP, fv, fr, mcat, mcs, entL, entA, rfit, nf_0, nf_1, nf_2, nf_3, nf2_0, nf2_1, b2i_0, b2i_1, RI_b2i, b2i_fit, List.append, List.length, List.replicate, List.cons_append, List.nil_append, List.length_cons, List.length_nil, List.replicate_succ, List.replicate_zero, List.tail_cons, reduceIte, if_true, if_false, ite_true, ite_false, Bool.false_eq_true, true_and, and_true, and_self, false_and, and_false, or_self, or_true, true_or, or_false, false_or, not_true_eq_false, not_false_eq_true, ne_eq, forall_const, implies_true, imp_self, true_implies, false_implies, Nat.reduceAdd, Nat.reduceSub, Nat.reduceMul, Nat.reduceDiv, Nat.reduceMod, Nat.reduceEqDiff, Nat.reduceLT, Nat.reduceLeDiff, Nat.reduceBEq, Nat.add_zero, Nat.zero_add, Nat.le_refl, Nat.not_lt_zero, Nat.succ_eq_add_one, Int.reduceNatCast, Int.cast_ofNat_Int, Int.reduceSub, Int.reduceMul, Int.reduceNeg, Int.reduceLE, Int.reduceLT, Int.reduceToNat, Int.reduceEq, Int.reduceNe, Int.reduceAdd, Option.some.injEq, kX0_fillReaches, rmX0_fillReaches, ↓ofX0_15, ↓ocX0_fillReaches_27, ↓spX0_pullOf, ↓ocX0_fillReaches_36, ↓ocX0_fillReaches_31, hc, G_35, G_37, c0, c1, c2, c3]
    refine ⟨by omega, fun r r1 r2 r3 => ⟨by omega, by omega, ?_⟩⟩
    refine lpX0_fill2 hc hok h m (p + 1) _ _ _ (by omega) (by omega) (fun b j hb => ?_) (fun q q1 q2 => ?_)
    · rw [upI_ne hb]; exact h1 b j hb
    · unfold upI
      by_cases e : q = p
      · rw [if_pos ⟨rfl, e⟩, e]; omega
      · rw [if_neg (fun z => e z.2)]; exact h2 q q1 (by omega)
set_option maxRecDepth 100000 in
set_option maxHeartbeats 800000 in
theorem mX0_fillReaches : MOK yX0_fillReaches cX0_fillReaches 4 none rmX0_fillReaches ciX0_fillReaches := by
  refine mok_of (ini := false) (by decide +kernel) (by decide) rfl rfl ?_
  intro σ As K hrc hl h
  obtain ⟨N, P, I, L⟩ := σ
  have h9 := pR_iff.mp h
  clear h
  obtain ⟨a, r, e9, h⟩ := h9
  subst e9
  have h9 := pN_iff.mp h
  clear h
  obtain ⟨e9, h⟩ := h9
  subst e9
  dsimp only at h
  obtain ⟨rfl, hc, hok, h⟩ := h
  refine ⟨Nat.le_of_ble_eq_true rfl, Ok.seg mdX0_fillReaches [2] 20 ?_⟩
  simp only [wp_nil, wp_cons, ↓stp, ↓lI, ↓lL, ↓lR, ↓lIn_0, ↓lIn_1, ↓lIn_2, ↓lIn_3, ↓lLn_0, ↓lLn_1, ↓lLn_2, ↓lLn_3, ↓lRn_0, ↓lRn_1, ↓lRn_2, ↓lRn_3, ↓pI, ↓pL, ↓pR, ↓pA, ↓pN, ↓pV, ↓fp, ↓tsw, ↓oS, ↓spMax, ↓spMin, ↓spAbs, ↓spObj, RI, RLg, b2i_lo, b2i_hi, getL, setL, ltL, killL, isLong, inl, cnd, br, tgt, rcv, rpl, mputI, mputL, mputP, fv, fr, mcat, mcs, entL, entA, rfit, nf_0, nf_1, nf_2, nf_3, nf2_0, nf2_1, b2i_0, b2i_1, RI_b2i, b2i_fit, List.append, List.length, List.replicate, List.cons_append, List.nil_append, List.length_cons, List.length_nil, List.replicate_succ, List.replicate_zero, List.tail_cons, reduceIte, if_true, if_false, ite_true, ite_false, Bool.false_eq_true, true_and, and_true, and_self, false_and, and_false, or_self, or_true, true_or, or_false, false_or, not_true_eq_false, not_false_eq_true, ne_eq, forall_const, implies_true, imp_self, true_implies, false_implies, Nat.reduceAdd, Nat.reduceSub, Nat.reduceMul, Nat.reduceDiv, Nat.reduceMod, Nat.reduceEqDiff, Nat.reduceLT, Nat.reduceLeDiff, Nat.reduceBEq, Nat.add_zero, Nat.zero_add, Nat.le_refl, Nat.not_lt_zero, Nat.succ_eq_add_one, Int.reduceNatCast, Int.cast_ofNat_Int, Int.reduceSub, Int.reduceMul, Int.reduceNeg, Int.reduceLE, Int.reduceLT, Int.reduceToNat, Int.reduceEq, Int.reduceNe, Int.reduceAdd, Option.some.injEq, kX0_fillReaches, rmX0_fillReaches, ↓ofX0_15, ↓ocX0_fillReaches_27, ↓spX0_pullOf, ↓ocX0_fillReaches_36, ↓ocX0_fillReaches_31]
  exact lpX0_fill2 hc hok (fun I' h1 h2 => ⟨trivial, h I' h1 h2⟩) 60 1 _ _ I (by omega) (by omega) (fun _ _ _ => rfl) (fun q q1 q2 => by omega)
def carI (T Q R : Int → Int) : Prop := gOK T Q ∧ ∀ p, 1 ≤ p → p ≤ 60 → R p = rch T Q p
/-- the least gear from g on by which 'to' is come to; 0: none (m: how many are left) -/
def gfr (T Q : Int → Int) (p to : Int) : Nat → Int → Int
  | 0, _ => 0
  | m + 1, g => if pul (T g) (Q g) p = to then g else gfr T Q p to m (g + 1)
def gear (T Q : Int → Int) (p : Int) : Int := if rch T Q p = p then 0 else gfr T Q p (rch T Q p) 6 1
def spX0_gearFor (As : List MV) (σ : MS) (K : Option MV → MS → Prop) : Prop := pR As fun a r => pI r fun p r => pN r (a = 35 ∧ cP σ.2.1 ∧ carI (σ.2.2.1 38) (σ.2.2.1 39) (σ.2.2.1 37) ∧ 1 ≤ p ∧ p ≤ 60 ∧ K (some (.inl (gear (σ.2.2.1 38) (σ.2.2.1 39) p))) σ)
def ciX0_gearFor : CI := (2, 0, 0, 0, spX0_gearFor)
def kX0_gearFor (pc : Nat) : List ME := match pc with
  | 0 => [(.aload_n 0, 1, []), (.getfield 15, 3, []), (.iload_n 1, 1, []), (.iaload, 1, []), (.iload_n 1, 1, []), (.if_icmp .ne 5, 3, [12]), (.iconst 0, 1, []), (.ireturn, 1, [])]
  | 12 => [(.iconst 1, 1, []), (.istore_n 2, 1, [])]
  | 14 => [(.iload_n 2, 1, []), (.bipush 6, 2, []), (.if_icmp .gt 26, 3, [43]), (.aload_n 0, 1, []), (.iload_n 2, 1, []), (.iload_n 1, 1, []), (.invokevirtual 27, 3, []), (.aload_n 0, 1, []), (.getfield 15, 3, []), (.iload_n 1, 1, []), (.iaload, 1, []), (.if_icmp .ne 5, 3, [37]), (.iload_n 2, 1, []), (.ireturn, 1, [])]
  | 37 => [(.iinc 2 1, 3, []), (.goto (-26), 3, [14])]
  | 43 => [(.iconst 0, 1, []), (.ireturn, 1, [])]
  | _ => []
theorem qX0_gearFor : ∀ pc, chk cX0_gearFor pc (kX0_gearFor pc) = true := by
  intro pc
  unfold kX0_gearFor
  split <;> first | decide +kernel | exact chk_nil
abbrev rmX0_gearFor : Room := { frames := 2, cells := 0, slots := 0, locals := 43 }
def aX0_gearFor (x : Nat) : Option CI := match x with
  | 27 => some ciX0_pullOf
  | _ => none
theorem aokX0_gearFor : ∀ x ci, aX0_gearFor x = some ci → CalOK RX0 rmX0_gearFor x ci := by
  intro x ci h
  unfold aX0_gearFor at h
  split at h
  · cases h; exact cal_V mX0_pullOf (by decide) rfl (List.forall_mem_cons.mpr ⟨(ws_mem (List.mem_of_getElem? (i := 150) (by decide +kernel)) (by decide +kernel)), List.forall_mem_cons.mpr ⟨(ws_mem (List.mem_of_getElem? (i := 152) (by decide +kernel)) (by decide +kernel)), List.forall_mem_cons.mpr ⟨(ws_mem (List.mem_of_getElem? (i := 1) (by decide +kernel)) (by decide +kernel)), List.forall_mem_cons.mpr ⟨(ws_mem (List.mem_of_getElem? (i := 57) (by decide +kernel)) (by decide +kernel)), List.forall_mem_cons.mpr ⟨(ws_mem (List.mem_of_getElem? (i := 153) (by decide +kernel)) (by decide +kernel)), fun _ h => absurd h List.not_mem_nil⟩⟩⟩⟩⟩) rfl (by unfold nice; decide +kernel) (by unfold rfits; decide) ⟨rfl, rfl⟩
  · cases h
theorem ocX0_gearFor_27 (f : Nat → Nat → Nat → Nat → (List MV → MS → (Option MV → MS → Prop) → Prop) → Prop) : oC aX0_gearFor 27 f = f 3 0 0 0 spX0_pullOf := propext Iff.rfl
theorem mdX0_gearFor : MD RX0 cX0_gearFor rmX0_gearFor kX0_gearFor fX0 aX0_gearFor zX0 uX0 := ⟨fokX0, zokX0, uokX0, aokX0_gearFor, qX0_gearFor⟩
set_option maxHeartbeats 800000 in
theorem lpX0_gear {K : Option MV → MS → Prop} {U : Pt → Prop} {N : Nat} {P : Int → Int → Option Int} {I L : Int → Int → Int} {p : Int} (hc : cP P) (hok : gOK (I 38) (I 39)) (hr : I 37 p = rch (I 38) (I 39) p) (p1 : 1 ≤ p) (p2 : p ≤ 60) : ∀ (m : Nat) (g : Int), 1 ≤ g → g + m = 7 → K (some (.inl (gfr (I 38) (I 39) p (I 37 p) m g))) (N, P, I, L) →
    Ok RX0 cX0_gearFor 3 rmX0_gearFor false none (fun r σ' => rfit (some .int) r ∧ K r σ') U (14, [some (.inr (.inr (some 35))), some (.inl p), some (.inl g)], [], (N, P, I, L), 0, 0)
  | 0, g, g1, hg, h => by
    refine Ok.seg mdX0_gearFor [14] 20 ?_
    simp only [wp_nil, wp_cons, ↓stp, ↓lI, ↓lL, ↓lR, ↓lIn_0, ↓lIn_1, ↓lIn_2, ↓lIn_3, ↓lLn_0, ↓lLn_1, ↓lLn_2, ↓lLn_3, ↓lRn_0, ↓lRn_1, ↓lRn_2, ↓lRn_3, ↓pI, ↓pL, ↓pR, ↓pA, ↓pN, ↓pV, ↓fp, ↓tsw, ↓oS, ↓spMax, ↓spMin, ↓spAbs, ↓spObj, RI, RLg, b2i_lo, b2i_hi, getL, setL, ltL, killL, isLong, inl, cnd, br, tgt, rcv, rpl, mputI, mputL, mputP, fv, fr, mcat, mcs, entL, entA, rfit, nf_0, nf_1, nf_2, nf_3, nf2_0, nf2_1, b2i_0, b2i_1, RI_b2i, b2i_fit, List.append, List.length, List.replicate, List.cons_append, List.nil_append, List.length_cons, List.length_nil, List.replicate_succ, List.replicate_zero, List.tail_cons, reduceIte, if_true, if_false, ite_true, ite_false, Bool.false_eq_true, true_and, and_true, and_self, false_and, and_false, or_self, or_true, true_or, or_false, false_or, not_true_eq_false, not_false_eq_true, ne_eq, forall_const, implies_true, imp_self, true_implies, false_implies, Nat.reduceAdd, Nat.reduceSub, Nat.reduceMul, Nat.reduceDiv, Nat.reduceMod, Nat.reduceEqDiff, Nat.reduceLT, Nat.reduceLeDiff, Nat.reduceBEq, Nat.add_zero, Nat.zero_add, Nat.le_refl, Nat.not_lt_zero, Nat.succ_eq_add_one, Int.reduceNatCast, Int.cast_ofNat_Int, Int.reduceSub, Int.reduceMul, Int.reduceNeg, Int.reduceLE, Int.reduceLT, Int.reduceToNat, Int.reduceEq, Int.reduceNe, Int.reduceAdd, Option.some.injEq, kX0_gearFor, rmX0_gearFor, ↓ofX0_15, ↓ocX0_gearFor_27, ↓spX0_pullOf, hc, G_35]
    repeat' (first | apply And.intro | intro _)
    all_goals first | omega | exact h
  | m + 1, g, g1, hg, h => by
    have hc2 := hc
    obtain ⟨c0, c1, c2, c3⟩ := hc2
    have w := hok g (by omega) (by omega)
    have w2 := pul_rng (p := p) w.2.1 w.2.2.1 p2
    have w3 := rch_rng hok p2
    refine Ok.seg mdX0_gearFor [14] 30 ?_
    simp only [wp_nil, wp_cons, ↓stp, ↓lI, ↓lL, ↓lR, ↓lIn_0, ↓lIn_1, ↓lIn_2, ↓lIn_3, ↓lLn_0, ↓lLn_1, ↓lLn_2, ↓lLn_3, ↓lRn_0, ↓lRn_1, ↓lRn_2, ↓lRn_3, ↓pI, ↓pL, ↓pR, ↓pA, ↓pN, ↓pV, ↓fp, ↓tsw, ↓oS, ↓spMax, ↓spMin, ↓spAbs, ↓spObj, RI, RLg, b2i_lo, b2i_hi, getL, setL, ltL, killL, isLong, inl, cnd, br, tgt, rcv, rpl, mputI, mputL, mputP, fv, fr, mcat, mcs, entL, entA, rfit, nf_0, nf_1, nf_2, nf_3, nf2_0, nf2_1, b2i_0, b2i_1, RI_b2i, b2i_fit, List.append, List.length, List.replicate, List.cons_append, List.nil_append, List.length_cons, List.length_nil, List.replicate_succ, List.replicate_zero, List.tail_cons, reduceIte, if_true, if_false, ite_true, ite_false, Bool.false_eq_true, true_and, and_true, and_self, false_and, and_false, or_self, or_true, true_or, or_false, false_or, not_true_eq_false, not_false_eq_true, ne_eq, forall_const, implies_true, imp_self, true_implies, false_implies, Nat.reduceAdd, Nat.reduceSub, Nat.reduceMul, Nat.reduceDiv, Nat.reduceMod, Nat.reduceEqDiff, Nat.reduceLT, Nat.reduceLeDiff, Nat.reduceBEq, Nat.add_zero, Nat.zero_add, Nat.le_refl, Nat.not_lt_zero, Nat.succ_eq_add_one, Int.reduceNatCast, Int.cast_ofNat_Int, Int.reduceSub, Int.reduceMul, Int.reduceNeg, Int.reduceLE, Int.reduceLT, Int.reduceToNat, Int.reduceEq, Int.reduceNe, Int.reduceAdd, Option.some.injEq, kX0_gearFor, rmX0_gearFor, ↓ofX0_15, ↓ocX0_gearFor_27, ↓spX0_pullOf, hc, G_35, G_37, c1]
    unfold gfr at h
    refine ⟨by omega, fun _ => by omega, fun _ => ⟨hok, by omega, by omega, by omega, by omega, by omega, by omega, by omega, by omega, fun q => ?_, fun q => ?_⟩⟩
    · rw [if_neg q] at h
      exact lpX0_gear hc hok hr p1 p2 m (g + 1) (by omega) (by omega) h
    · rw [if_pos (Classical.not_not.mp q)] at h
      exact h
set_option maxRecDepth 100000 in
set_option maxHeartbeats 800000 in
theorem mX0_gearFor : MOK yX0_gearFor cX0_gearFor 3 (some .int) rmX0_gearFor ciX0_gearFor := by
  refine mok_of (ini := false) (by decide +kernel) (by decide) rfl rfl ?_
  intro σ As K hrc hl h
  obtain ⟨N, P, I, L⟩ := σ
  have h9 := pR_iff.mp h
  clear h
  obtain ⟨a, r, e9, h⟩ := h9
  subst e9
  have h9 := pI_iff.mp h
  clear h
  obtain ⟨p, r, e9, h⟩ := h9
  subst e9
  have h9 := pN_iff.mp h
  clear h
  obtain ⟨e9, h⟩ := h9
  subst e9
  dsimp only at h
  obtain ⟨rfl, hc, ⟨hok, hr⟩, p1, p2, h⟩ := h
  have hc2 := hc
  obtain ⟨c0, c1, c2, c3⟩ := hc2
  have e := hr p p1 p2
  have w3 := rch_rng hok p2
  unfold gear at h
  refine ⟨Nat.le_of_ble_eq_true rfl, Ok.seg mdX0_gearFor [14] 30 ?_⟩
  simp only [wp_nil, wp_cons, ↓stp, ↓lI, ↓lL, ↓lR, ↓lIn_0, ↓lIn_1, ↓lIn_2, ↓lIn_3, ↓lLn_0, ↓lLn_1, ↓lLn_2, ↓lLn_3, ↓lRn_0, ↓lRn_1, ↓lRn_2, ↓lRn_3, ↓pI, ↓pL, ↓pR, ↓pA, ↓pN, ↓pV, ↓fp, ↓tsw, ↓oS, ↓spMax, ↓spMin, ↓spAbs, ↓spObj, RI, RLg, b2i_lo, b2i_hi, getL, setL, ltL, killL, isLong, inl, cnd, br, tgt, rcv, rpl, mputI, mputL, mputP, fv, fr, mcat, mcs, entL, entA, rfit, nf_0, nf_1, nf_2, nf_3, nf2_0, nf2_1, b2i_0, b2i_1, RI_b2i, b2i_fit, List.append, List.length, List.replicate, List.cons_append, List.nil_append, List.length_cons, List.length_nil, List.replicate_succ, List.replicate_zero, List.tail_cons, reduceIte, if_true, if_false, ite_true, ite_false, Bool.false_eq_true, true_and, and_true, and_self, false_and, and_false, or_self, or_true, true_or, or_false, false_or, not_true_eq_false, not_false_eq_true, ne_eq, forall_const, implies_true, imp_self, true_implies, false_implies, Nat.reduceAdd, Nat.reduceSub, Nat.reduceMul, Nat.reduceDiv, Nat.reduceMod, Nat.reduceEqDiff, Nat.reduceLT, Nat.reduceLeDiff, Nat.reduceBEq, Nat.add_zero, Nat.zero_add, Nat.le_refl, Nat.not_lt_zero, Nat.succ_eq_add_one, Int.reduceNatCast, Int.cast_ofNat_Int, Int.reduceSub, Int.reduceMul, Int.reduceNeg, Int.reduceLE, Int.reduceLT, Int.reduceToNat, Int.reduceEq, Int.reduceNe, Int.reduceAdd, Option.some.injEq, kX0_gearFor, rmX0_gearFor, ↓ofX0_15, ↓ocX0_gearFor_27, ↓spX0_pullOf, hc, G_35, G_37, c1, e]
  refine ⟨by omega, by omega, by omega, by omega, fun q => ?_, fun q => ?_⟩
  · rw [if_neg (by omega), ← e] at h
    exact lpX0_gear hc hok e p1 p2 6 1 (by omega) (by omega) h
  · rw [if_pos (by omega)] at h; exact h
def spX0_changeGear (As : List MV) (σ : MS) (K : Option MV → MS → Prop) : Prop := pR As fun a r => pI r fun g r => pI r fun t r => pI r fun q r => pN r (a = 35 ∧ cP σ.2.1 ∧ carI (σ.2.2.1 38) (σ.2.2.1 39) (σ.2.2.1 37) ∧ 1 ≤ g ∧ g ≤ 6 ∧ 1 ≤ t ∧ t ≤ 60 ∧ 1 ≤ q ∧ q ≤ 20 ∧
  ((σ.2.2.1 38 g = t ∧ σ.2.2.1 39 g = q) → K (some (.inl 0)) σ) ∧ (¬ (σ.2.2.1 38 g = t ∧ σ.2.2.1 39 g = q) → ∀ I' : Int → Int → Int, (∀ b j, b ≠ 37 → b ≠ 38 → b ≠ 39 → I' b j = σ.2.2.1 b j) → (∀ j, I' 38 j = if j = g then t else σ.2.2.1 38 j) → (∀ j, I' 39 j = if j = g then q else σ.2.2.1 39 j) → carI (I' 38) (I' 39) (I' 37) → K (some (.inl 1)) (σ.1, σ.2.1, I', σ.2.2.2)))
def ciX0_changeGear : CI := (4, 0, 0, 0, spX0_changeGear)
def kX0_changeGear (pc : Nat) : List ME := match pc with
  | 0 => [(.iload_n 1, 1, []), (.iconst 1, 1, []), (.if_icmp .lt 29, 3, [31]), (.iload_n 1, 1, []), (.bipush 6, 2, []), (.if_icmp .gt 23, 3, [31]), (.aload_n 0, 1, []), (.getfield 18, 3, []), (.iload_n 1, 1, []), (.iaload, 1, []), (.iload_n 2, 1, []), (.if_icmp .ne 15, 3, [33]), (.aload_n 0, 1, []), (.getfield 21, 3, []), (.iload_n 1, 1, []), (.iaload, 1, []), (.iload_n 3, 1, []), (.if_icmp .ne 5, 3, [33])]
  | 31 => [(.iconst 0, 1, []), (.ireturn, 1, [])]
  | 33 => [(.aload_n 0, 1, []), (.getfield 18, 3, []), (.iload_n 1, 1, []), (.iload_n 2, 1, []), (.iastore, 1, []), (.aload_n 0, 1, []), (.getfield 21, 3, []), (.iload_n 1, 1, []), (.iload_n 3, 1, []), (.iastore, 1, []), (.aload_n 0, 1, []), (.invokevirtual 24, 3, []), (.iconst 1, 1, []), (.ireturn, 1, [])]
  | _ => []
theorem qX0_changeGear : ∀ pc, chk cX0_changeGear pc (kX0_changeGear pc) = true := by
  intro pc
  unfold kX0_changeGear
  split <;> first | decide +kernel | exact chk_nil
abbrev rmX0_changeGear : Room := { frames := 3, cells := 0, slots := 0, locals := 66 }
def aX0_changeGear (x : Nat) : Option CI := match x with
  | 24 => some ciX0_fillReaches
  | _ => none
theorem aokX0_changeGear : ∀ x ci, aX0_changeGear x = some ci → CalOK RX0 rmX0_changeGear x ci := by
  intro x ci h
  unfold aX0_changeGear at h
  split at h
  · cases h; exact cal_V mX0_fillReaches (by decide) rfl (List.forall_mem_cons.mpr ⟨(ws_mem (List.mem_of_getElem? (i := 146) (by decide +kernel)) (by decide +kernel)), List.forall_mem_cons.mpr ⟨(ws_mem (List.mem_of_getElem? (i := 148) (by decide +kernel)) (by decide +kernel)), List.forall_mem_cons.mpr ⟨(ws_mem (List.mem_of_getElem? (i := 0) (by decide +kernel)) (by decide +kernel)), List.forall_mem_cons.mpr ⟨(ws_mem (List.mem_of_getElem? (i := 57) (by decide +kernel)) (by decide +kernel)), List.forall_mem_cons.mpr ⟨(ws_mem (List.mem_of_getElem? (i := 149) (by decide +kernel)) (by decide +kernel)), fun _ h => absurd h List.not_mem_nil⟩⟩⟩⟩⟩) rfl (by unfold nice; decide +kernel) (by unfold rfits; decide) ⟨rfl, rfl⟩
  · cases h
theorem ocX0_changeGear_24 (f : Nat → Nat → Nat → Nat → (List MV → MS → (Option MV → MS → Prop) → Prop) → Prop) : oC aX0_changeGear 24 f = f 1 0 0 0 spX0_fillReaches := propext Iff.rfl
theorem mdX0_changeGear : MD RX0 cX0_changeGear rmX0_changeGear kX0_changeGear fX0 aX0_changeGear zX0 uX0 := ⟨fokX0, zokX0, uokX0, aokX0_changeGear, qX0_changeGear⟩
set_option maxRecDepth 100000 in
set_option maxHeartbeats 800000 in
theorem mX0_changeGear : MOK yX0_changeGear cX0_changeGear 4 (some .boolean) rmX0_changeGear ciX0_changeGear := by
  refine mok_of (ini := false) (by decide +kernel) (by decide) rfl rfl ?_
  intro σ As K hrc hl h
  obtain ⟨N, P, I, L⟩ := σ
  have h9 := pR_iff.mp h
  clear h
  obtain ⟨a, r, e9, h⟩ := h9
  subst e9
  have h9 := pI_iff.mp h
  clear h
  obtain ⟨g, r, e9, h⟩ := h9
  subst e9
  have h9 := pI_iff.mp h
  clear h
  obtain ⟨t, r, e9, h⟩ := h9
  subst e9
  have h9 := pI_iff.mp h
  clear h
  obtain ⟨q, r, e9, h⟩ := h9
  subst e9
  have h9 := pN_iff.mp h
  clear h
  obtain ⟨e9, h⟩ := h9
  subst e9
  dsimp only at h
  obtain ⟨rfl, hc, ⟨hok, hr⟩, g1, g2, t1, t2, q1, q2, h0, h1⟩ := h
  have hc2 := hc
  obtain ⟨c0, c1, c2, c3⟩ := hc2
  have w := hok g g1 g2
  have key : ¬ (I 38 g = t ∧ I 39 g = q) → gOK (upI (upI I 38 g t) 39 g q 38) (upI (upI I 38 g t) 39 g q 39) ∧ ∀ I' : Int → Int → Int, (∀ b j, b ≠ 37 → I' b j = upI (upI I 38 g t) 39 g q b j) → (∀ p, 1 ≤ p → p ≤ 60 → I' 37 p = rch (upI (upI I 38 g t) 39 g q 38) (upI (upI I 38 g t) 39 g q 39) p) → K (some (.inl 1)) (N, P, I', L) := fun hne => by
    have a38 : ∀ j, upI (upI I 38 g t) 39 g q 38 j = if j = g then t else I 38 j := fun j => by
      unfold upI
      rw [if_neg (fun z => by have := z.1; omega)]
      by_cases e : j = g
      · rw [if_pos ⟨rfl, e⟩, if_pos e]
      · rw [if_neg (fun z => e z.2), if_neg e]
    have a39 : ∀ j, upI (upI I 38 g t) 39 g q 39 j = if j = g then q else I 39 j := fun j => by
      unfold upI
      by_cases e : j = g
      · rw [if_pos ⟨rfl, e⟩, if_pos e]
      · rw [if_neg (fun z => e z.2), if_neg e, if_neg (fun z => by have := z.1; omega)]
    have hk : gOK (upI (upI I 38 g t) 39 g q 38) (upI (upI I 38 g t) 39 g q 39) := fun i i1 i2 => by
      rw [a38, a39]
      have := hok i i1 i2
      by_cases e : i = g
      · rw [if_pos e, if_pos e]; omega
      · rw [if_neg e, if_neg e]; exact this
    refine ⟨hk, fun I' h2 h3 => h1 hne I' (fun b j b1 b2 b3 => ?_) (fun j => ?_) (fun j => ?_) ⟨?_, ?_⟩⟩
    · rw [h2 b j b1, upI_ne b3, upI_ne b2]
    · rw [h2 38 j (by decide), a38]
    · rw [h2 39 j (by decide), a39]
    · rw [show I' 38 = _ from funext fun j => h2 38 j (by decide), show I' 39 = _ from funext fun j => h2 39 j (by decide)]; exact hk
    · rw [show I' 38 = _ from funext fun j => h2 38 j (by decide), show I' 39 = _ from funext fun j => h2 39 j (by decide)]; exact h3
  refine ⟨Nat.le_of_ble_eq_true rfl, Ok.seg mdX0_changeGear [] 60 ?_⟩
  simp only [wp_nil, wp_cons, ↓stp, ↓lI, ↓lL, ↓lR, ↓lIn_0, ↓lIn_1, ↓lIn_2, ↓lIn_3, ↓lLn_0, ↓lLn_1, ↓lLn_2, ↓lLn_3, ↓lRn_0, ↓lRn_1, ↓lRn_2, ↓lRn_3, ↓pI, ↓pL, ↓pR, ↓pA, ↓pN, ↓pV, ↓fp, ↓tsw, ↓oS, ↓spMax, ↓spMin, ↓spAbs, ↓spObj, RI, RLg, b2i_lo, b2i_hi, getL, setL, ltL, killL, isLong, inl, cnd, br, tgt, rcv, rpl, mputI, mputL, mputP, fv, fr, mcat, mcs, entL, entA, rfit, nf_0, nf_1, nf_2, nf_3, nf2_0, nf2_1, b2i_0, b2i_1, RI_b2i, b2i_fit, List.append, List.length, List.replicate, List.cons_append, List.nil_append, List.length_cons, List.length_nil, List.replicate_succ, List.replicate_zero, List.tail_cons, reduceIte, if_true, if_false, ite_true, ite_false, Bool.false_eq_true, true_and, and_true, and_self, false_and, and_false, or_self, or_true, true_or, or_false, false_or, not_true_eq_false, not_false_eq_true, ne_eq, forall_const, implies_true, imp_self, true_implies, false_implies, Nat.reduceAdd, Nat.reduceSub, Nat.reduceMul, Nat.reduceDiv, Nat.reduceMod, Nat.reduceEqDiff, Nat.reduceLT, Nat.reduceLeDiff, Nat.reduceBEq, Nat.add_zero, Nat.zero_add, Nat.le_refl, Nat.not_lt_zero, Nat.succ_eq_add_one, Int.reduceNatCast, Int.cast_ofNat_Int, Int.reduceSub, Int.reduceMul, Int.reduceNeg, Int.reduceLE, Int.reduceLT, Int.reduceToNat, Int.reduceEq, Int.reduceNe, Int.reduceAdd, Option.some.injEq, kX0_changeGear, rmX0_changeGear, ↓ofX0_18, ↓ofX0_21, ↓ocX0_changeGear_24, ↓spX0_fillReaches, hc, G_35, G_38, G_39, c2, c3]
  repeat' (first | exact (key (by omega)).1 | apply And.intro | intro _)
  all_goals first | omega | exact h0 ⟨by omega, by omega⟩ | exact (key (by omega)).2 _ (by assumption) (by assumption)
end
section
/-! LapBoard$Track, LapBoard$Way: changes -/
def tOK (I : Int → Int → Int) : Prop := 0 ≤ I 3 1 ∧ I 3 1 ≤ 30 ∧ ∀ i, 0 ≤ i → i < I 3 1 → stOK I (5 + i)
def sumI (f : Int → Int) : Nat → Int
  | 0 => 0
  | n + 1 => sumI f n + f n
theorem sumI_rng {f : Int → Int} {c : Int} : ∀ (n : Nat), (∀ i : Int, 0 ≤ i → i < n → 0 ≤ f i ∧ f i ≤ c) → 0 ≤ sumI f n ∧ sumI f n ≤ n * c
  | 0, _ => by simp [sumI]
  | n + 1, h => by
    have ih := sumI_rng n (fun i h0 h1 => h i h0 (by omega))
    have := h n (by omega) (by omega)
    unfold sumI
    have e : ((n + 1 : Nat) : Int) * c = n * c + c := by rw [Int.natCast_add, Int.add_mul]; simp
    omega
theorem sumI_congr {f g : Int → Int} : ∀ (n : Nat), (∀ i : Int, 0 ≤ i → i < n → f i = g i) → sumI f n = sumI g n
  | 0, _ => rfl
  | n + 1, h => by
    unfold sumI
    rw [sumI_congr n (fun i h0 h1 => h i h0 (by omega)), h n (by omega) (by omega)]
def spX5_has (As : List MV) (σ : MS) (K : Option MV → MS → Prop) : Prop := pR As fun a r => pI r fun s r => pN r (a = 3 ∧ σ.2.1 = PF ∧ RI s ∧ 0 ≤ σ.2.2.1 3 1 ∧ σ.2.2.1 3 1 ≤ 30 ∧ K (some (.inl (b2i (0 ≤ s ∧ s < σ.2.2.1 3 1)))) σ)
def ciX5_has : CI := (2, 5, 0, 0, spX5_has)
def kX5_has (pc : Nat) : List ME := match pc with
  | 0 => [(.iload_n 1, 1, []), (.ifCond .lt 21, 3, [22]), (.iload_n 1, 1, []), (.aload_n 0, 1, []), (.getfield 18, 3, []), (.if_icmp .ge 13, 3, [22]), (.iload_n 1, 1, []), (.bipush 30, 2, []), (.if_icmp .ge 7, 3, [22]), (.iconst 1, 1, []), (.goto 4, 3, [23])]
  | 22 => [(.iconst 0, 1, [])]
  | 23 => [(.ireturn, 1, [])]
  | _ => []
theorem qX5_has : ∀ pc, chk cX5_has pc (kX5_has pc) = true := by
  intro pc
  unfold kX5_has
  split <;> first | decide +kernel | exact chk_nil
abbrev rmX5_has : Room := { frames := 0, cells := 0, slots := 0, locals := 0 }
def aX5_has (_ : Nat) : Option CI := none
theorem aokX5_has : ∀ x ci, aX5_has x = some ci → CalOK RX5 rmX5_has x ci := fun _ _ h => by cases h
theorem mdX5_has : MD RX5 cX5_has rmX5_has kX5_has fX5 aX5_has zX5 uX5 := ⟨fokX5, zokX5, uokX5, aokX5_has, qX5_has⟩
set_option maxRecDepth 100000 in
set_option maxHeartbeats 800000 in
theorem mX5_has : MOK yX5_has cX5_has 2 (some .boolean) rmX5_has ciX5_has := by
  refine mok_of (ini := false) (by decide +kernel) (by decide) rfl rfl ?_
  intro σ As K hrc hl h
  obtain ⟨N, P, I, L⟩ := σ
  have h9 := pR_iff.mp h
  clear h
  obtain ⟨a, r, e9, h⟩ := h9
  subst e9
  have h9 := pI_iff.mp h
  clear h
  obtain ⟨s, r, e9, h⟩ := h9
  subst e9
  have h9 := pN_iff.mp h
  clear h
  obtain ⟨e9, h⟩ := h9
  subst e9
  dsimp only at h
  obtain ⟨rfl, rfl, hr, s0, s1, h⟩ := h
  obtain ⟨h0, h1⟩ := b2i_split (F := fun z => K (some (.inl z)) (N, PF, I, L)) h
  unfold RI at hr
  refine ⟨Nat.le_of_ble_eq_true rfl, Ok.seg mdX5_has [] 40 ?_⟩
  simp only [wp_nil, wp_cons, ↓stp, ↓lI, ↓lL, ↓lR, ↓lIn_0, ↓lIn_1, ↓lIn_2, ↓lIn_3, ↓lLn_0, ↓lLn_1, ↓lLn_2, ↓lLn_3, ↓lRn_0, ↓lRn_1, ↓lRn_2, ↓lRn_3, ↓pI, ↓pL, ↓pR, ↓pA, ↓pN, ↓pV, ↓fp, ↓tsw, ↓oS, ↓spMax, ↓spMin, ↓spAbs, ↓spObj, RI, RLg, b2i_lo, b2i_hi, getL, setL, ltL, killL, isLong, inl, cnd, br, tgt, rcv, rpl, mputI, mputL, mputP, fv, fr, mcat, mcs, entL, entA, rfit, nf_0, nf_1, nf_2, nf_3, nf2_0, nf2_1, b2i_0, b2i_1, RI_b2i, b2i_fit, List.append, List.length, List.replicate, List.cons_append, List.nil_append, List.length_cons, List.length_nil, List.replicate_succ, List.replicate_zero, List.tail_cons, reduceIte, if_true, if_false, ite_true, ite_false, Bool.false_eq_true, true_and, and_true, and_self, false_and, and_false, or_self, or_true, true_or, or_false, false_or, not_true_eq_false, not_false_eq_true, ne_eq, forall_const, implies_true, imp_self, true_implies, false_implies, Nat.reduceAdd, Nat.reduceSub, Nat.reduceMul, Nat.reduceDiv, Nat.reduceMod, Nat.reduceEqDiff, Nat.reduceLT, Nat.reduceLeDiff, Nat.reduceBEq, Nat.add_zero, Nat.zero_add, Nat.le_refl, Nat.not_lt_zero, Nat.succ_eq_add_one, Int.reduceNatCast, Int.cast_ofNat_Int, Int.reduceSub, Int.reduceMul, Int.reduceNeg, Int.reduceLE, Int.reduceLT, Int.reduceToNat, Int.reduceEq, Int.reduceNe, Int.reduceAdd, Option.some.injEq, kX5_has, rmX5_has, ↓ofX5_18, G_1, G_2, G_3, G_4, G_35, G_36, G_37, G_38, G_39, G_40, G_41, G_42, G_43, G_44, G_45, G_46, G_47, G_48, G_49, G_140, G_141, G_142, G_143, G_144, G_145, G_146, G_178, G_179, G_180, G_181, G_182, G_183, G_184, G_189, G_198, G_207, PF_1_0, PF_1_1, PF_1_2, PF_1_3, PF_2_0, PF_2_1, PF_2_3, PF_2_4, PF_2_5, PF_2_6, PF_2_7, PF_2_8, PF_2_9, PF_2_10, PF_2_11, PF_3_0, PF_35_0, PF_35_1, PF_35_2, PF_35_3, PF_40_0, PF_40_1, PF_40_2, PF_44_0, PF_44_1, PF_44_2, PF_145_0, PF_145_1, PF_179_0, PF_179_1, PF_179_2, PF_179_3, PF_179_8, PF_179_9, PF_179_10]
  repeat' (first | apply And.intro | intro _)
  all_goals first | omega | exact h0 (by omega) | exact h1 (by omega)
def spX5_add (As : List MV) (σ : MS) (K : Option MV → MS → Prop) : Prop := pR As fun a r => pI r fun t r => pI r fun n r => pI r fun b r => pN r (a = 3 ∧ σ.2.1 = PF ∧ 0 ≤ t ∧ t ≤ 1000 ∧ 0 ≤ σ.2.2.1 3 1 ∧ σ.2.2.1 3 1 < 30 ∧
  ∀ I' : Int → Int → Int, (∀ c j, c ≠ 5 + σ.2.2.1 3 1 → ¬ (c = 3 ∧ j = 1) → I' c j = σ.2.2.1 c j) → I' (5 + σ.2.2.1 3 1) 0 = t / 10 → I' (5 + σ.2.2.1 3 1) 1 = n → I' (5 + σ.2.2.1 3 1) 2 = b → I' (5 + σ.2.2.1 3 1) 3 = t % 10 → I' (5 + σ.2.2.1 3 1) 4 = 0 → I' 3 1 = σ.2.2.1 3 1 + 1 → K none (σ.1, σ.2.1, I', σ.2.2.2))
def ciX5_add : CI := (4, 5, 0, 0, spX5_add)
def kX5_add (pc : Nat) : List ME := match pc with
  | 0 => [(.aload_n 0, 1, []), (.getfield 18, 3, []), (.bipush 30, 2, []), (.if_icmp .ge 60, 3, [66]), (.aload_n 0, 1, []), (.getfield 11, 3, []), (.aload_n 0, 1, []), (.getfield 18, 3, []), (.aaload, 1, []), (.astore 4, 2, []), (.aload 4, 2, []), (.iload_n 1, 1, []), (.bipush 10, 2, []), (.idiv, 1, []), (.putfield 22, 3, []), (.aload 4, 2, []), (.iload_n 1, 1, []), (.bipush 10, 2, []), (.irem, 1, []), (.putfield 25, 3, []), (.aload 4, 2, []), (.iload_n 2, 1, []), (.putfield 28, 3, []), (.aload 4, 2, []), (.iload_n 3, 1, []), (.putfield 31, 3, []), (.aload 4, 2, []), (.iconst 0, 1, []), (.putfield 34, 3, []), (.aload_n 0, 1, []), (.dup, 1, []), (.getfield 18, 3, []), (.iconst 1, 1, []), (.iadd, 1, []), (.putfield 18, 3, [])]
  | 66 => [(.return_, 1, [])]
  | _ => []
theorem qX5_add : ∀ pc, chk cX5_add pc (kX5_add pc) = true := by
  intro pc
  unfold kX5_add
  split <;> first | decide +kernel | exact chk_nil
abbrev rmX5_add : Room := { frames := 0, cells := 0, slots := 0, locals := 0 }
def aX5_add (_ : Nat) : Option CI := none
theorem aokX5_add : ∀ x ci, aX5_add x = some ci → CalOK RX5 rmX5_add x ci := fun _ _ h => by cases h
theorem mdX5_add : MD RX5 cX5_add rmX5_add kX5_add fX5 aX5_add zX5 uX5 := ⟨fokX5, zokX5, uokX5, aokX5_add, qX5_add⟩
theorem upI_same {I : Int → Int → Int} {a i v : Int} : upI I a i v a i = v := if_pos ⟨rfl, rfl⟩
theorem upI_nj {I : Int → Int → Int} {a i v b j : Int} (h : j ≠ i) : upI I a i v b j = I b j := if_neg (fun z => h z.2)
set_option maxRecDepth 100000 in
set_option maxHeartbeats 800000 in
theorem mX5_add : MOK yX5_add cX5_add 5 none rmX5_add ciX5_add := by
  refine mok_of (ini := false) (by decide +kernel) (by decide) rfl rfl ?_
  intro σ As K hrc hl h
  obtain ⟨N, P, I, L⟩ := σ
  have h9 := pR_iff.mp h
  clear h
  obtain ⟨a, r, e9, h⟩ := h9
  subst e9
  have h9 := pI_iff.mp h
  clear h
  obtain ⟨t, r, e9, h⟩ := h9
  subst e9
  have h9 := pI_iff.mp h
  clear h
  obtain ⟨n, r, e9, h⟩ := h9
  subst e9
  have h9 := pI_iff.mp h
  clear h
  obtain ⟨b, r, e9, h⟩ := h9
  subst e9
  have h9 := pN_iff.mp h
  clear h
  obtain ⟨e9, h⟩ := h9
  subst e9
  dsimp only at h
  obtain ⟨rfl, rfl, t0, t1, s0, s1, h⟩ := h
  have hp := PF_st s0 s1
  have hg := G_st (a := 5 + I 3 1) (by omega) (by omega)
  have hne : (3 : Int) ≠ 5 + I 3 1 := by omega
  refine ⟨Nat.le_of_ble_eq_true rfl, Ok.seg mdX5_add [] 60 ?_⟩
  simp only [wp_nil, wp_cons, ↓stp, ↓lI, ↓lL, ↓lR, ↓lIn_0, ↓lIn_1, ↓lIn_2, ↓lIn_3, ↓lLn_0, ↓lLn_1, ↓lLn_2, ↓lLn_3, ↓lRn_0, ↓lRn_1, ↓lRn_2, ↓lRn_3, ↓pI, ↓pL, ↓pR, ↓pA, ↓pN, ↓pV, ↓fp, ↓tsw, ↓oS, ↓spMax, ↓spMin, ↓spAbs, ↓spObj, RI, RLg, b2i_lo, b2i_hi, getL, setL, ltL, killL, isLong, inl, cnd, br, tgt, rcv, rpl, mputI, mputL, mputP, fv, fr, mcat, mcs, entL, entA, rfit, nf_0, nf_1, nf_2, nf_3, nf2_0, nf2_1, b2i_0, b2i_1, RI_b2i, b2i_fit, List.append, List.length, List.replicate, List.cons_append, List.nil_append, List.length_cons, List.length_nil, List.replicate_succ, List.replicate_zero, List.tail_cons, reduceIte, if_true, if_false, ite_true, ite_false, Bool.false_eq_true, true_and, and_true, and_self, false_and, and_false, or_self, or_true, true_or, or_false, false_or, not_true_eq_false, not_false_eq_true, ne_eq, forall_const, implies_true, imp_self, true_implies, false_implies, Nat.reduceAdd, Nat.reduceSub, Nat.reduceMul, Nat.reduceDiv, Nat.reduceMod, Nat.reduceEqDiff, Nat.reduceLT, Nat.reduceLeDiff, Nat.reduceBEq, Nat.add_zero, Nat.zero_add, Nat.le_refl, Nat.not_lt_zero, Nat.succ_eq_add_one, Int.reduceNatCast, Int.cast_ofNat_Int, Int.reduceSub, Int.reduceMul, Int.reduceNeg, Int.reduceLE, Int.reduceLT, Int.reduceToNat, Int.reduceEq, Int.reduceNe, Int.reduceAdd, Option.some.injEq, kX5_add, rmX5_add, ↓ofX5_11, ↓ofX5_18, ↓ofX5_22, ↓ofX5_25, ↓ofX5_28, ↓ofX5_31, ↓ofX5_34, hp, hg, upI_ne hne, G_1, G_2, G_3, G_4, G_35, G_36, G_37, G_38, G_39, G_40, G_41, G_42, G_43, G_44, G_45, G_46, G_47, G_48, G_49, G_140, G_141, G_142, G_143, G_144, G_145, G_146, G_178, G_179, G_180, G_181, G_182, G_183, G_184, G_189, G_198, G_207, PF_1_0, PF_1_1, PF_1_2, PF_1_3, PF_2_0, PF_2_1, PF_2_3, PF_2_4, PF_2_5, PF_2_6, PF_2_7, PF_2_8, PF_2_9, PF_2_10, PF_2_11, PF_3_0, PF_35_0, PF_35_1, PF_35_2, PF_35_3, PF_40_0, PF_40_1, PF_40_2, PF_44_0, PF_44_1, PF_44_2, PF_145_0, PF_145_1, PF_179_0, PF_179_1, PF_179_2, PF_179_3, PF_179_8, PF_179_9, PF_179_10]
  repeat' (first | apply And.intro | intro _)
  all_goals first | omega | refine h _ (fun c j c1 c2 => ?_) ?_ ?_ ?_ ?_ ?_ ?_
  all_goals try simp only [upI_same, upI_ne (Ne.symm hne), upI_nj (show (0 : Int) ≠ 1 by decide), upI_nj (show (0 : Int) ≠ 2 by decide), upI_nj (show (0 : Int) ≠ 3 by decide), upI_nj (show (0 : Int) ≠ 4 by decide), upI_nj (show (1 : Int) ≠ 0 by decide), upI_nj (show (1 : Int) ≠ 2 by decide), upI_nj (show (1 : Int) ≠ 3 by decide), upI_nj (show (1 : Int) ≠ 4 by decide), upI_nj (show (2 : Int) ≠ 3 by decide), upI_nj (show (2 : Int) ≠ 4 by decide), upI_nj (show (3 : Int) ≠ 4 by decide), upI_nj (show (3 : Int) ≠ 1 by decide), upI_nj (show (3 : Int) ≠ 2 by decide)]
  · unfold upI
    rw [if_neg c2, if_neg (fun z => c1 z.1), if_neg (fun z => c1 z.1), if_neg (fun z => c1 z.1), if_neg (fun z => c1 z.1), if_neg (fun z => c1 z.1)]
  · exact Int.tdiv_eq_ediv_of_nonneg t0
  · exact Int.tmod_eq_emod_of_nonneg t0
def spX5_dropLast (As : List MV) (σ : MS) (K : Option MV → MS → Prop) : Prop := pR As fun a r => pN r (a = 3 ∧ σ.2.1 = PF ∧ 0 < σ.2.2.1 3 1 ∧ σ.2.2.1 3 1 ≤ 30 ∧ K none (mputI σ 3 1 (σ.2.2.1 3 1 - 1)))
def ciX5_dropLast : CI := (1, 5, 0, 0, spX5_dropLast)
def kX5_dropLast (pc : Nat) : List ME := match pc with
  | 0 => [(.aload_n 0, 1, []), (.getfield 18, 3, []), (.ifCond .le 13, 3, [17]), (.aload_n 0, 1, []), (.dup, 1, []), (.getfield 18, 3, []), (.iconst 1, 1, []), (.isub, 1, []), (.putfield 18, 3, [])]
  | 17 => [(.return_, 1, [])]
  | _ => []
theorem qX5_dropLast : ∀ pc, chk cX5_dropLast pc (kX5_dropLast pc) = true := by
  intro pc
  unfold kX5_dropLast
  split <;> first | decide +kernel | exact chk_nil
abbrev rmX5_dropLast : Room := { frames := 0, cells := 0, slots := 0, locals := 0 }
def aX5_dropLast (_ : Nat) : Option CI := none
theorem aokX5_dropLast : ∀ x ci, aX5_dropLast x = some ci → CalOK RX5 rmX5_dropLast x ci := fun _ _ h => by cases h
theorem mdX5_dropLast : MD RX5 cX5_dropLast rmX5_dropLast kX5_dropLast fX5 aX5_dropLast zX5 uX5 := ⟨fokX5, zokX5, uokX5, aokX5_dropLast, qX5_dropLast⟩
set_option maxRecDepth 100000 in
set_option maxHeartbeats 800000 in
theorem mX5_dropLast : MOK yX5_dropLast cX5_dropLast 1 none rmX5_dropLast ciX5_dropLast := by
  refine mok_of (ini := false) (by decide +kernel) (by decide) rfl rfl ?_
  intro σ As K hrc hl h
  obtain ⟨N, P, I, L⟩ := σ
  have h9 := pR_iff.mp h
  clear h
  obtain ⟨a, r, e9, h⟩ := h9
  subst e9
  have h9 := pN_iff.mp h
  clear h
  obtain ⟨e9, h⟩ := h9
  subst e9
  dsimp only at h
  obtain ⟨rfl, rfl, s0, s1, h⟩ := h
  refine ⟨Nat.le_of_ble_eq_true rfl, Ok.seg mdX5_dropLast [] 40 ?_⟩
  simp only [wp_nil, wp_cons, ↓stp, ↓lI, ↓lL, ↓lR, ↓lIn_0, ↓lIn_1, ↓lIn_2, ↓lIn_3, ↓lLn_0, ↓lLn_1, ↓lLn_2, ↓lLn_3, ↓lRn_0, ↓lRn_1, ↓lRn_2, ↓lRn_3, ↓pI, ↓pL, ↓pR, ↓pA, ↓pN, ↓pV, ↓fp, ↓tsw, ↓oS, ↓spMax, ↓spMin, ↓spAbs, ↓spObj, RI, RLg, b2i_lo, b2i_hi, getL, setL, ltL, killL, isLong, inl, cnd, br, tgt, rcv, rpl, mputI, mputL, mputP, fv, fr, mcat, mcs, entL, entA, rfit, nf_0, nf_1, nf_2, nf_3, nf2_0, nf2_1, b2i_0, b2i_1, RI_b2i, b2i_fit, List.append, List.length, List.replicate, List.cons_append, List.nil_append, List.length_cons, List.length_nil, List.replicate_succ, List.replicate_zero, List.tail_cons, reduceIte, if_true, if_false, ite_true, ite_false, Bool.false_eq_true, true_and, and_true, and_self, false_and, and_false, or_self, or_true, true_or, or_false, false_or, not_true_eq_false, not_false_eq_true, ne_eq, forall_const, implies_true, imp_self, true_implies, false_implies, Nat.reduceAdd, Nat.reduceSub, Nat.reduceMul, Nat.reduceDiv, Nat.reduceMod, Nat.reduceEqDiff, Nat.reduceLT, Nat.reduceLeDiff, Nat.reduceBEq, Nat.add_zero, Nat.zero_add, Nat.le_refl, Nat.not_lt_zero, Nat.succ_eq_add_one, Int.reduceNatCast, Int.cast_ofNat_Int, Int.reduceSub, Int.reduceMul, Int.reduceNeg, Int.reduceLE, Int.reduceLT, Int.reduceToNat, Int.reduceEq, Int.reduceNe, Int.reduceAdd, Option.some.injEq, kX5_dropLast, rmX5_dropLast, ↓ofX5_18, G_1, G_2, G_3, G_4, G_35, G_36, G_37, G_38, G_39, G_40, G_41, G_42, G_43, G_44, G_45, G_46, G_47, G_48, G_49, G_140, G_141, G_142, G_143, G_144, G_145, G_146, G_178, G_179, G_180, G_181, G_182, G_183, G_184, G_189, G_198, G_207, PF_1_0, PF_1_1, PF_1_2, PF_1_3, PF_2_0, PF_2_1, PF_2_3, PF_2_4, PF_2_5, PF_2_6, PF_2_7, PF_2_8, PF_2_9, PF_2_10, PF_2_11, PF_3_0, PF_35_0, PF_35_1, PF_35_2, PF_35_3, PF_40_0, PF_40_1, PF_40_2, PF_44_0, PF_44_1, PF_44_2, PF_145_0, PF_145_1, PF_179_0, PF_179_1, PF_179_2, PF_179_3, PF_179_8, PF_179_9, PF_179_10]
  repeat' (first | apply And.intro | intro _)
  all_goals first | omega | exact h
def spX5_lengths (As : List MV) (σ : MS) (K : Option MV → MS → Prop) : Prop := pR As fun a r => pN r (a = 3 ∧ σ.2.1 = PF ∧ tOK σ.2.2.1 ∧ K (some (.inl (sumI (fun i => σ.2.2.1 (5 + i) 1) (σ.2.2.1 3 1).toNat))) σ)
def ciX5_lengths : CI := (1, 5, 0, 0, spX5_lengths)
def kX5_lengths (pc : Nat) : List ME := match pc with
  | 0 => [(.iconst 0, 1, []), (.istore_n 1, 1, []), (.iconst 0, 1, []), (.istore_n 2, 1, [])]
  | 4 => [(.iload_n 2, 1, []), (.aload_n 0, 1, []), (.getfield 18, 3, []), (.if_icmp .ge 21, 3, [30]), (.iload_n 1, 1, []), (.aload_n 0, 1, []), (.getfield 11, 3, []), (.iload_n 2, 1, []), (.aaload, 1, []), (.getfield 28, 3, []), (.iadd, 1, []), (.istore_n 1, 1, []), (.iinc 2 1, 3, []), (.goto (-23), 3, [4])]
  | 30 => [(.iload_n 1, 1, []), (.ireturn, 1, [])]
  | _ => []
theorem qX5_lengths : ∀ pc, chk cX5_lengths pc (kX5_lengths pc) = true := by
  intro pc
  unfold kX5_lengths
  split <;> first | decide +kernel | exact chk_nil
abbrev rmX5_lengths : Room := { frames := 0, cells := 0, slots := 0, locals := 0 }
def aX5_lengths (_ : Nat) : Option CI := none
theorem aokX5_lengths : ∀ x ci, aX5_lengths x = some ci → CalOK RX5 rmX5_lengths x ci := fun _ _ h => by cases h
theorem mdX5_lengths : MD RX5 cX5_lengths rmX5_lengths kX5_lengths fX5 aX5_lengths zX5 uX5 := ⟨fokX5, zokX5, uokX5, aokX5_lengths, qX5_lengths⟩
set_option maxHeartbeats 800000 in
theorem lpX5_len {K : Option MV → MS → Prop} {U : Pt → Prop} {N : Nat} {I L : Int → Int → Int} (ht : tOK I) (h : K (some (.inl (sumI (fun i => I (5 + i) 1) (I 3 1).toNat))) (N, PF, I, L)) : ∀ (m i : Nat), (i : Int) + m = I 3 1 →
    Ok RX5 cX5_lengths 3 rmX5_lengths false none (fun r σ' => rfit (some .int) r ∧ K r σ') U (4, [some (.inr (.inr (some 3))), some (.inl (sumI (fun i => I (5 + i) 1) i)), some (.inl i)], [], (N, PF, I, L), 0, 0)
  | 0, i, hi => by
    obtain ⟨s0, s1, hs⟩ := ht
    refine Ok.seg mdX5_lengths [4] 20 ?_
    simp only [wp_nil, wp_cons, ↓stp, ↓lI, ↓lL, ↓lR, ↓lIn_0, ↓lIn_1, ↓lIn_2, ↓lIn_3, ↓lLn_0, ↓lLn_1, ↓lLn_2, ↓lLn_3, ↓lRn_0, ↓lRn_1, ↓lRn_2, ↓lRn_3, ↓pI, ↓pL, ↓pR, ↓pA, ↓pN, ↓pV, ↓fp, ↓tsw, ↓oS, ↓spMax, ↓spMin, ↓spAbs, ↓spObj, RI, RLg, b2i_lo, b2i_hi, getL, setL, ltL, killL, isLong, inl, cnd, br, tgt, rcv, rpl, mputI, mputL, mputP, fv, fr, mcat, mcs, entL, entA, rfit, nf_0, nf_1, nf_2, nf_3, nf2_0, nf2_1, b2i_0, b2i_1, RI_b2i, b2i_fit, List.append, List.length, List.replicate, List.cons_append, List.nil_append, List.length_cons, List.length_nil, List.replicate_succ, List.replicate_zero, List.tail_cons, reduceIte, if_true, if_false, ite_true, ite_false, Bool.false_eq_true, true_and, and_true, and_self, false_and, and_false, or_self, or_true, true_or, or_false, false_or, not_true_eq_false, not_false_eq_true, ne_eq, forall_const, implies_true, imp_self, true_implies, false_implies, Nat.reduceAdd, Nat.reduceSub, Nat.reduceMul, Nat.reduceDiv, Nat.reduceMod, Nat.reduceEqDiff, Nat.reduceLT, Nat.reduceLeDiff, Nat.reduceBEq, Nat.add_zero, Nat.zero_add, Nat.le_refl, Nat.not_lt_zero, Nat.succ_eq_add_one, Int.reduceNatCast, Int.cast_ofNat_Int, Int.reduceSub, Int.reduceMul, Int.reduceNeg, Int.reduceLE, Int.reduceLT, Int.reduceToNat, Int.reduceEq, Int.reduceNe, Int.reduceAdd, Option.some.injEq, kX5_lengths, rmX5_lengths, ↓ofX5_11, ↓ofX5_18, ↓ofX5_28, G_1, G_2, G_3, G_4, G_35, G_36, G_37, G_38, G_39, G_40, G_41, G_42, G_43, G_44, G_45, G_46, G_47, G_48, G_49, G_140, G_141, G_142, G_143, G_144, G_145, G_146, G_178, G_179, G_180, G_181, G_182, G_183, G_184, G_189, G_198, G_207, PF_1_0, PF_1_1, PF_1_2, PF_1_3, PF_2_0, PF_2_1, PF_2_3, PF_2_4, PF_2_5, PF_2_6, PF_2_7, PF_2_8, PF_2_9, PF_2_10, PF_2_11, PF_3_0, PF_35_0, PF_35_1, PF_35_2, PF_35_3, PF_40_0, PF_40_1, PF_40_2, PF_44_0, PF_44_1, PF_44_2, PF_145_0, PF_145_1, PF_179_0, PF_179_1, PF_179_2, PF_179_3, PF_179_8, PF_179_9, PF_179_10]
    have e : (I 3 1).toNat = i := by omega
    rw [e] at h
    repeat' (first | apply And.intro | intro _)
    all_goals first | omega | exact h
  | m + 1, i, hi => by
    have ih := lpX5_len (U := U) ht h m (i + 1) (by omega)
    obtain ⟨s0, s1, hs⟩ := ht
    have hp := PF_st (i := (i : Int)) (by omega) (by omega)
    have hg := G_st (a := 5 + (i : Int)) (by omega) (by omega)
    refine Ok.seg mdX5_lengths [4] 30 ?_
    simp only [wp_nil, wp_cons, ↓stp, ↓lI, ↓lL, ↓lR, ↓lIn_0, ↓lIn_1, ↓lIn_2, ↓lIn_3, ↓lLn_0, ↓lLn_1, ↓lLn_2, ↓lLn_3, ↓lRn_0, ↓lRn_1, ↓lRn_2, ↓lRn_3, ↓pI, ↓pL, ↓pR, ↓pA, ↓pN, ↓pV, ↓fp, ↓tsw, ↓oS, ↓spMax, ↓spMin, ↓spAbs, ↓spObj, RI, RLg, b2i_lo, b2i_hi, getL, setL, ltL, killL, isLong, inl, cnd, br, tgt, rcv, rpl, mputI, mputL, mputP, fv, fr, mcat, mcs, entL, entA, rfit, nf_0, nf_1, nf_2, nf_3, nf2_0, nf2_1, b2i_0, b2i_1, RI_b2i, b2i_fit, List.append, List.length, List.replicate, List.cons_append, List.nil_append, List.length_cons, List.length_nil, List.replicate_succ, List.replicate_zero, List.tail_cons, reduceIte, if_true, if_false, ite_true, ite_false, Bool.false_eq_true, true_and, and_true, and_self, false_and, and_false, or_self, or_true, true_or, or_false, false_or, not_true_eq_false, not_false_eq_true, ne_eq, forall_const, implies_true, imp_self, true_implies, false_implies, Nat.reduceAdd, Nat.reduceSub, Nat.reduceMul, Nat.reduceDiv, Nat.reduceMod, Nat.reduceEqDiff, Nat.reduceLT, Nat.reduceLeDiff, Nat.reduceBEq, Nat.add_zero, Nat.zero_add, Nat.le_refl, Nat.not_lt_zero, Nat.succ_eq_add_one, Int.reduceNatCast, Int.cast_ofNat_Int, Int.reduceSub, Int.reduceMul, Int.reduceNeg, Int.reduceLE, Int.reduceLT, Int.reduceToNat, Int.reduceEq, Int.reduceNe, Int.reduceAdd, Option.some.injEq, kX5_lengths, rmX5_lengths, ↓ofX5_11, ↓ofX5_18, ↓ofX5_28, hp, hg, G_1, G_2, G_3, G_4, G_35, G_36, G_37, G_38, G_39, G_40, G_41, G_42, G_43, G_44, G_45, G_46, G_47, G_48, G_49, G_140, G_141, G_142, G_143, G_144, G_145, G_146, G_178, G_179, G_180, G_181, G_182, G_183, G_184, G_189, G_198, G_207, PF_1_0, PF_1_1, PF_1_2, PF_1_3, PF_2_0, PF_2_1, PF_2_3, PF_2_4, PF_2_5, PF_2_6, PF_2_7, PF_2_8, PF_2_9, PF_2_10, PF_2_11, PF_3_0, PF_35_0, PF_35_1, PF_35_2, PF_35_3, PF_40_0, PF_40_1, PF_40_2, PF_44_0, PF_44_1, PF_44_2, PF_145_0, PF_145_1, PF_179_0, PF_179_1, PF_179_2, PF_179_3, PF_179_8, PF_179_9, PF_179_10]
    repeat' (first | apply And.intro | intro _)
    all_goals first | omega | exact ih
set_option maxRecDepth 100000 in
set_option maxHeartbeats 800000 in
theorem mX5_lengths : MOK yX5_lengths cX5_lengths 3 (some .int) rmX5_lengths ciX5_lengths := by
  refine mok_of (ini := false) (by decide +kernel) (by decide) rfl rfl ?_
  intro σ As K hrc hl h
  obtain ⟨N, P, I, L⟩ := σ
  have h9 := pR_iff.mp h
  clear h
  obtain ⟨a, r, e9, h⟩ := h9
  subst e9
  have h9 := pN_iff.mp h
  clear h
  obtain ⟨e9, h⟩ := h9
  subst e9
  dsimp only at h
  obtain ⟨rfl, rfl, ht, h⟩ := h
  refine ⟨Nat.le_of_ble_eq_true rfl, Ok.seg mdX5_lengths [4] 20 ?_⟩
  simp only [wp_nil, wp_cons, ↓stp, ↓lI, ↓lL, ↓lR, ↓lIn_0, ↓lIn_1, ↓lIn_2, ↓lIn_3, ↓lLn_0, ↓lLn_1, ↓lLn_2, ↓lLn_3, ↓lRn_0, ↓lRn_1, ↓lRn_2, ↓lRn_3, ↓pI, ↓pL, ↓pR, ↓pA, ↓pN, ↓pV, ↓fp, ↓tsw, ↓oS, ↓spMax, ↓spMin, ↓spAbs, ↓spObj, RI, RLg, b2i_lo, b2i_hi, getL, setL, ltL, killL, isLong, inl, cnd, br, tgt, rcv, rpl, mputI, mputL, mputP, fv, fr, mcat, mcs, entL, entA, rfit, nf_0, nf_1, nf_2, nf_3, nf2_0, nf2_1, b2i_0, b2i_1, RI_b2i, b2i_fit, List.append, List.length, List.replicate, List.cons_append, List.nil_append, List.length_cons, List.length_nil, List.replicate_succ, List.replicate_zero, List.tail_cons, reduceIte, if_true, if_false, ite_true, ite_false, Bool.false_eq_true, true_and, and_true, and_self, false_and, and_false, or_self, or_true, true_or, or_false, false_or, not_true_eq_false, not_false_eq_true, ne_eq, forall_const, implies_true, imp_self, true_implies, false_implies, Nat.reduceAdd, Nat.reduceSub, Nat.reduceMul, Nat.reduceDiv, Nat.reduceMod, Nat.reduceEqDiff, Nat.reduceLT, Nat.reduceLeDiff, Nat.reduceBEq, Nat.add_zero, Nat.zero_add, Nat.le_refl, Nat.not_lt_zero, Nat.succ_eq_add_one, Int.reduceNatCast, Int.cast_ofNat_Int, Int.reduceSub, Int.reduceMul, Int.reduceNeg, Int.reduceLE, Int.reduceLT, Int.reduceToNat, Int.reduceEq, Int.reduceNe, Int.reduceAdd, Option.some.injEq, kX5_lengths, rmX5_lengths, ↓ofX5_11, ↓ofX5_18, ↓ofX5_28]
  exact lpX5_len ht h (I 3 1).toNat 0 (by have := ht.1; omega)
def spX5_timesTold (As : List MV) (σ : MS) (K : Option MV → MS → Prop) : Prop := pR As fun a r => pN r (a = 3 ∧ σ.2.1 = PF ∧ tOK σ.2.2.1 ∧ K (some (.inl (sumI (fun i => if 0 < σ.2.2.1 (5 + i) 4 then 1 else 0) (σ.2.2.1 3 1).toNat))) σ)
def ciX5_timesTold : CI := (1, 5, 0, 0, spX5_timesTold)
def kX5_timesTold (pc : Nat) : List ME := match pc with
  | 0 => [(.iconst 0, 1, []), (.istore_n 1, 1, []), (.iconst 0, 1, []), (.istore_n 2, 1, [])]
  | 4 => [(.iload_n 2, 1, []), (.aload_n 0, 1, []), (.getfield 18, 3, []), (.if_icmp .ge 24, 3, [33]), (.aload_n 0, 1, []), (.getfield 11, 3, []), (.iload_n 2, 1, []), (.aaload, 1, []), (.getfield 34, 3, []), (.ifCond .le 6, 3, [27]), (.iinc 1 1, 3, [])]
  | 27 => [(.iinc 2 1, 3, []), (.goto (-26), 3, [4])]
  | 33 => [(.iload_n 1, 1, []), (.ireturn, 1, [])]
  | _ => []
theorem qX5_timesTold : ∀ pc, chk cX5_timesTold pc (kX5_timesTold pc) = true := by
  intro pc
  unfold kX5_timesTold
  split <;> first | decide +kernel | exact chk_nil
abbrev rmX5_timesTold : Room := { frames := 0, cells := 0, slots := 0, locals := 0 }
def aX5_timesTold (_ : Nat) : Option CI := none
theorem aokX5_timesTold : ∀ x ci, aX5_timesTold x = some ci → CalOK RX5 rmX5_timesTold x ci := fun _ _ h => by cases h
theorem mdX5_timesTold : MD RX5 cX5_timesTold rmX5_timesTold kX5_timesTold fX5 aX5_timesTold zX5 uX5 := ⟨fokX5, zokX5, uokX5, aokX5_timesTold, qX5_timesTold⟩
set_option maxHeartbeats 800000 in
theorem lpX5_told {K : Option MV → MS → Prop} {U : Pt → Prop} {N : Nat} {I L : Int → Int → Int} (ht : tOK I) (h : K (some (.inl (sumI (fun i => if 0 < I (5 + i) 4 then 1 else 0) (I 3 1).toNat))) (N, PF, I, L)) : ∀ (m i : Nat), (i : Int) + m = I 3 1 →
    Ok RX5 cX5_timesTold 3 rmX5_timesTold false none (fun r σ' => rfit (some .int) r ∧ K r σ') U (4, [some (.inr (.inr (some 3))), some (.inl (sumI (fun i => if 0 < I (5 + i) 4 then 1 else 0) i)), some (.inl i)], [], (N, PF, I, L), 0, 0)
  | 0, i, hi => by
    obtain ⟨s0, s1, hs⟩ := ht
    refine Ok.seg mdX5_timesTold [4] 20 ?_
    simp only [wp_nil, wp_cons, ↓stp, ↓lI, ↓lL, ↓lR, ↓lIn_0, ↓lIn_1, ↓lIn_2, ↓lIn_3, ↓lLn_0, ↓lLn_1, ↓lLn_2, ↓lLn_3, ↓lRn_0, ↓lRn_1, ↓lRn_2, ↓lRn_3, ↓pI, ↓pL, ↓pR, ↓pA, ↓pN, ↓pV, ↓fp, ↓tsw, ↓oS, ↓spMax, ↓spMin, ↓spAbs, ↓spObj, RI, RLg, b2i_lo, b2i_hi, getL, setL, ltL, killL, isLong, inl, cnd, br, tgt, rcv, rpl, mputI, mputL, mputP, fv, fr, mcat, mcs, entL, entA, rfit, nf_0, nf_1, nf_2, nf_3, nf2_0, nf2_1, b2i_0, b2i_1, RI_b2i, b2i_fit, List.append, List.length, List.replicate, List.cons_append, List.nil_append, List.length_cons, List.length_nil, List.replicate_succ, List.replicate_zero, List.tail_cons, reduceIte, if_true, if_false, ite_true, ite_false, Bool.false_eq_true, true_and, and_true, and_self, false_and, and_false, or_self, or_true, true_or, or_false, false_or, not_true_eq_false, not_false_eq_true, ne_eq, forall_const, implies_true, imp_self, true_implies, false_implies, Nat.reduceAdd, Nat.reduceSub, Nat.reduceMul, Nat.reduceDiv, Nat.reduceMod, Nat.reduceEqDiff, Nat.reduceLT, Nat.reduceLeDiff, Nat.reduceBEq, Nat.add_zero, Nat.zero_add, Nat.le_refl, Nat.not_lt_zero, Nat.succ_eq_add_one, Int.reduceNatCast, Int.cast_ofNat_Int, Int.reduceSub, Int.reduceMul, Int.reduceNeg, Int.reduceLE, Int.reduceLT, Int.reduceToNat, Int.reduceEq, Int.reduceNe, Int.reduceAdd, Option.some.injEq, kX5_timesTold, rmX5_timesTold, ↓ofX5_11, ↓ofX5_18, ↓ofX5_34, G_1, G_2, G_3, G_4, G_35, G_36, G_37, G_38, G_39, G_40, G_41, G_42, G_43, G_44, G_45, G_46, G_47, G_48, G_49, G_140, G_141, G_142, G_143, G_144, G_145, G_146, G_178, G_179, G_180, G_181, G_182, G_183, G_184, G_189, G_198, G_207, PF_1_0, PF_1_1, PF_1_2, PF_1_3, PF_2_0, PF_2_1, PF_2_3, PF_2_4, PF_2_5, PF_2_6, PF_2_7, PF_2_8, PF_2_9, PF_2_10, PF_2_11, PF_3_0, PF_35_0, PF_35_1, PF_35_2, PF_35_3, PF_40_0, PF_40_1, PF_40_2, PF_44_0, PF_44_1, PF_44_2, PF_145_0, PF_145_1, PF_179_0, PF_179_1, PF_179_2, PF_179_3, PF_179_8, PF_179_9, PF_179_10]
    have e : (I 3 1).toNat = i := by omega
    rw [e] at h
    repeat' (first | apply And.intro | intro _)
    all_goals first | omega | exact h
  | m + 1, i, hi => by
    have ih := lpX5_told (U := U) ht h m (i + 1) (by omega)
    obtain ⟨s0, s1, hs⟩ := ht
    have hp := PF_st (i := (i : Int)) (by omega) (by omega)
    have hg := G_st (a := 5 + (i : Int)) (by omega) (by omega)
    have hso := hs i (by omega) (by omega)
    unfold stOK at hso
    have e : sumI (fun i => if 0 < I (5 + i) 4 then 1 else 0) (i + 1) = sumI (fun i => if 0 < I (5 + i) 4 then 1 else 0) i + (if 0 < I (5 + i) 4 then 1 else 0) := rfl
    rw [e] at ih
    refine Ok.seg mdX5_timesTold [4] 30 ?_
    simp only [wp_nil, wp_cons, ↓stp, ↓lI, ↓lL, ↓lR, ↓lIn_0, ↓lIn_1, ↓lIn_2, ↓lIn_3, ↓lLn_0, ↓lLn_1, ↓lLn_2, ↓lLn_3, ↓lRn_0, ↓lRn_1, ↓lRn_2, ↓lRn_3, ↓pI, ↓pL, ↓pR, ↓pA, ↓pN, ↓pV, ↓fp, ↓tsw, ↓oS, ↓spMax, ↓spMin, ↓spAbs, ↓spObj, RI, RLg, b2i_lo, b2i_hi, getL, setL, ltL, killL, isLong, inl, cnd, br, tgt, rcv, rpl, mputI, mputL, mputP, fv, fr, mcat, mcs, entL, entA, rfit, nf_0, nf_1, nf_2, nf_3, nf2_0, nf2_1, b2i_0, b2i_1, RI_b2i, b2i_fit, List.append, List.length, List.replicate, List.cons_append, List.nil_append, List.length_cons, List.length_nil, List.replicate_succ, List.replicate_zero, List.tail_cons, reduceIte, if_true, if_false, ite_true, ite_false, Bool.false_eq_true, true_and, and_true, and_self, false_and, and_false, or_self, or_true, true_or, or_false, false_or, not_true_eq_false, not_false_eq_true, ne_eq, forall_const, implies_true, imp_self, true_implies, false_implies, Nat.reduceAdd, Nat.reduceSub, Nat.reduceMul, Nat.reduceDiv, Nat.reduceMod, Nat.reduceEqDiff, Nat.reduceLT, Nat.reduceLeDiff, Nat.reduceBEq, Nat.add_zero, Nat.zero_add, Nat.le_refl, Nat.not_lt_zero, Nat.succ_eq_add_one, Int.reduceNatCast, Int.cast_ofNat_Int, Int.reduceSub, Int.reduceMul, Int.reduceNeg, Int.reduceLE, Int.reduceLT, Int.reduceToNat, Int.reduceEq, Int.reduceNe, Int.reduceAdd, Option.some.injEq, kX5_timesTold, rmX5_timesTold, ↓ofX5_11, ↓ofX5_18, ↓ofX5_34, hp, hg, G_1, G_2, G_3, G_4, G_35, G_36, G_37, G_38, G_39, G_40, G_41, G_42, G_43, G_44, G_45, G_46, G_47, G_48, G_49, G_140, G_141, G_142, G_143, G_144, G_145, G_146, G_178, G_179, G_180, G_181, G_182, G_183, G_184, G_189, G_198, G_207, PF_1_0, PF_1_1, PF_1_2, PF_1_3, PF_2_0, PF_2_1, PF_2_3, PF_2_4, PF_2_5, PF_2_6, PF_2_7, PF_2_8, PF_2_9, PF_2_10, PF_2_11, PF_3_0, PF_35_0, PF_35_1, PF_35_2, PF_35_3, PF_40_0, PF_40_1, PF_40_2, PF_44_0, PF_44_1, PF_44_2, PF_145_0, PF_145_1, PF_179_0, PF_179_1, PF_179_2, PF_179_3, PF_179_8, PF_179_9, PF_179_10]
    refine ⟨by omega, by omega, fun _ => by omega, fun _ => ⟨by omega, by omega, by omega, fun q => ?_, fun q => ?_⟩⟩
    · rw [if_neg (by omega), Int.add_zero] at ih; exact ih
    · rw [if_pos (by omega)] at ih; exact ih
set_option maxRecDepth 100000 in
set_option maxHeartbeats 800000 in
theorem mX5_timesTold : MOK yX5_timesTold cX5_timesTold 3 (some .int) rmX5_timesTold ciX5_timesTold := by
  refine mok_of (ini := false) (by decide +kernel) (by decide) rfl rfl ?_
  intro σ As K hrc hl h
  obtain ⟨N, P, I, L⟩ := σ
  have h9 := pR_iff.mp h
  clear h
  obtain ⟨a, r, e9, h⟩ := h9
  subst e9
  have h9 := pN_iff.mp h
  clear h
  obtain ⟨e9, h⟩ := h9
  subst e9
  dsimp only at h
  obtain ⟨rfl, rfl, ht, h⟩ := h
  refine ⟨Nat.le_of_ble_eq_true rfl, Ok.seg mdX5_timesTold [4] 20 ?_⟩
  simp only [wp_nil, wp_cons, ↓stp, ↓lI, ↓lL, ↓lR, ↓lIn_0, ↓lIn_1, ↓lIn_2, ↓lIn_3, ↓lLn_0, ↓lLn_1, ↓lLn_2, ↓lLn_3, ↓lRn_0, ↓lRn_1, ↓lRn_2, ↓lRn_3, ↓pI, ↓pL, ↓pR, ↓pA, ↓pN, ↓pV, ↓fp, ↓tsw, ↓oS, ↓spMax, ↓spMin, ↓spAbs, ↓spObj, RI, RLg, b2i_lo, b2i_hi, getL, setL, ltL, killL, isLong, inl, cnd, br, tgt, rcv, rpl, mputI, mputL, mputP, fv, fr, mcat, mcs, entL, entA, rfit, nf_0, nf_1, nf_2, nf_3, nf2_0, nf2_1, b2i_0, b2i_1, RI_b2i, b2i_fit, List.append, List.length, List.replicate, List.cons_append, List.nil_append, List.length_cons, List.length_nil, List.replicate_succ, List.replicate_zero, List.tail_cons, reduceIte, if_true, if_false, ite_true, ite_false, Bool.false_eq_true, true_and, and_true, and_self, false_and, and_false, or_self, or_true, true_or, or_false, false_or, not_true_eq_false, not_false_eq_true, ne_eq, forall_const, implies_true, imp_self, true_implies, false_implies, Nat.reduceAdd, Nat.reduceSub, Nat.reduceMul, Nat.reduceDiv, Nat.reduceMod, Nat.reduceEqDiff, Nat.reduceLT, Nat.reduceLeDiff, Nat.reduceBEq, Nat.add_zero, Nat.zero_add, Nat.le_refl, Nat.not_lt_zero, Nat.succ_eq_add_one, Int.reduceNatCast, Int.cast_ofNat_Int, Int.reduceSub, Int.reduceMul, Int.reduceNeg, Int.reduceLE, Int.reduceLT, Int.reduceToNat, Int.reduceEq, Int.reduceNe, Int.reduceAdd, Option.some.injEq, kX5_timesTold, rmX5_timesTold, ↓ofX5_11, ↓ofX5_18, ↓ofX5_34]
  exact lpX5_told ht h (I 3 1).toNat 0 (by have := ht.1; omega)
end
section
/-! LapBoard$Way -/
def wP (w : Int) : Prop := G w = (6, 4) ∧ G (w + 1) = (10, 30) ∧ G (w + 2) = (10, 30) ∧ G (w + 3) = (10, 30) ∧ PF w 0 = some (w + 1) ∧ PF w 1 = some (w + 2) ∧ PF w 2 = some (w + 3)
theorem wP_of {w : Int} (h : w = 40 ∨ w = 44) : wP w := by
  rcases h with rfl | rfl <;> exact ⟨by decide, by decide, by decide, by decide, by decide, by decide, by decide⟩
theorem upI_tw {I : Int → Int → Int} {a i x y : Int} : upI (upI I a i x) a i y = upI I a i y := funext fun b => funext fun j => by
  unfold upI
  by_cases h : b = a ∧ j = i
  · rw [if_pos h, if_pos h]
  · rw [if_neg h, if_neg h, if_neg h]
def laneOK (I : Int → Int → Int) (w n : Int) : Prop := ∀ i, 0 ≤ i → i < n → 0 ≤ I (w + 1) i ∧ I (w + 1) i ≤ 2
def chg (I : Int → Int → Int) (w i : Int) : Prop := 0 < i ∧ ¬ I (w + 1) i = I (w + 1) (i - 1)
def chgI (I : Int → Int → Int) (w i : Int) : Int := if 0 < i ∧ ¬ I (w + 1) i = I (w + 1) (i - 1) then 1 else 0
def spX6_changesAt (As : List MV) (σ : MS) (K : Option MV → MS → Prop) : Prop := pR As fun w r => pI r fun i r => pN r ((w = 40 ∨ w = 44) ∧ σ.2.1 = PF ∧ laneOK σ.2.2.1 w (i + 1) ∧ 0 ≤ i ∧ i < 30 ∧ K (some (.inl (chgI σ.2.2.1 w i))) σ)
def ciX6_changesAt : CI := (2, 6, 0, 0, spX6_changesAt)
def kX6_changesAt (pc : Nat) : List ME := match pc with
  | 0 => [(.iload_n 1, 1, []), (.ifCond .le 24, 3, [25]), (.aload_n 0, 1, []), (.getfield 9, 3, []), (.iload_n 1, 1, []), (.iaload, 1, []), (.aload_n 0, 1, []), (.getfield 9, 3, []), (.iload_n 1, 1, []), (.iconst 1, 1, []), (.isub, 1, []), (.iaload, 1, []), (.if_icmp .eq 7, 3, [25]), (.iconst 1, 1, []), (.goto 4, 3, [26])]
  | 25 => [(.iconst 0, 1, [])]
  | 26 => [(.ireturn, 1, [])]
  | _ => []
theorem qX6_changesAt : ∀ pc, chk cX6_changesAt pc (kX6_changesAt pc) = true := by
  intro pc
  unfold kX6_changesAt
  split <;> first | decide +kernel | exact chk_nil
abbrev rmX6_changesAt : Room := { frames := 0, cells := 0, slots := 0, locals := 0 }
def aX6_changesAt (_ : Nat) : Option CI := none
theorem aokX6_changesAt : ∀ x ci, aX6_changesAt x = some ci → CalOK RX6 rmX6_changesAt x ci := fun _ _ h => by cases h
theorem mdX6_changesAt : MD RX6 cX6_changesAt rmX6_changesAt kX6_changesAt fX6 aX6_changesAt zX6 uX6 := ⟨fokX6, zokX6, uokX6, aokX6_changesAt, qX6_changesAt⟩
set_option maxRecDepth 100000 in
set_option maxHeartbeats 800000 in
theorem mX6_changesAt : MOK yX6_changesAt cX6_changesAt 2 (some .boolean) rmX6_changesAt ciX6_changesAt := by
  refine mok_of (ini := false) (by decide +kernel) (by decide) rfl rfl ?_
  intro σ As K hrc hl h
  obtain ⟨N, P, I, L⟩ := σ
  have h9 := pR_iff.mp h
  clear h
  obtain ⟨w, r, e9, h⟩ := h9
  subst e9
  have h9 := pI_iff.mp h
  clear h
  obtain ⟨i, r, e9, h⟩ := h9
  subst e9
  have h9 := pN_iff.mp h
  clear h
  obtain ⟨e9, h⟩ := h9
  subst e9
  dsimp only at h
  obtain ⟨hw, rfl, hl9, i0, i1, h⟩ := h
  obtain ⟨g0, g1, g2, g3, p0, p1, p2⟩ := wP_of hw
  have q1 := hl9 i i0 (by omega)
  have q2 : 0 < i → 0 ≤ I (w + 1) (i - 1) ∧ I (w + 1) (i - 1) ≤ 2 := fun z => hl9 (i - 1) (by omega) (by omega)
  unfold chgI at h
  refine ⟨Nat.le_of_ble_eq_true rfl, Ok.seg mdX6_changesAt [] 40 ?_⟩
  simp only [wp_nil, wp_cons, ↓stp, ↓lI, ↓lL, ↓lR, ↓lIn_0, ↓lIn_1, ↓lIn_2, ↓lIn_3, ↓lLn_0, ↓lLn_1, ↓lLn_2, ↓lLn_3, ↓lRn_0, ↓lRn_1, ↓lRn_2, ↓lRn_3, ↓pI, ↓pL, ↓pR, ↓pA, ↓pN, ↓pV, ↓fp, ↓tsw, ↓oS, ↓spMax, ↓spMin, ↓spAbs, ↓spObj, RI, RLg, b2i_lo, b2i_hi, getL, setL, ltL, killL, isLong, inl, cnd, br, tgt, rcv, rpl, mputI, mputL, mputP, fv, fr, mcat, mcs, entL, entA, rfit, nf_0, nf_1, nf_2, nf_3, nf2_0, nf2_1, b2i_0, b2i_1, RI_b2i, b2i_fit, List.append, List.length, List.replicate, List.cons_append, List.nil_append, List.length_cons, List.length_nil, List.replicate_succ, List.replicate_zero, List.tail_cons, reduceIte, if_true, if_false, ite_true, ite_false, Bool.false_eq_true, true_and, and_true, and_self, false_and, and_false, or_self, or_true, true_or, or_false, false_or, not_true_eq_false, not_false_eq_true, ne_eq, forall_const, implies_true, imp_self, true_implies, false_implies, Nat.reduceAdd, Nat.reduceSub, Nat.reduceMul, Nat.reduceDiv, Nat.reduceMod, Nat.reduceEqDiff, Nat.reduceLT, Nat.reduceLeDiff, Nat.reduceBEq, Nat.add_zero, Nat.zero_add, Nat.le_refl, Nat.not_lt_zero, Nat.succ_eq_add_one, Int.reduceNatCast, Int.cast_ofNat_Int, Int.reduceSub, Int.reduceMul, Int.reduceNeg, Int.reduceLE, Int.reduceLT, Int.reduceToNat, Int.reduceEq, Int.reduceNe, Int.reduceAdd, Option.some.injEq, kX6_changesAt, rmX6_changesAt, ↓ofX6_9, g0, g1, p0]
  refine ⟨by omega, fun z => ?_, fun z => ⟨by omega, by omega, by omega, by omega, by omega, by have := q2 (by omega); omega, fun y => ?_, fun y => ?_⟩⟩
  · rw [if_neg (by omega)] at h; exact h
  · rw [if_neg (fun x => x.2 y)] at h; exact h
  · rw [if_pos ⟨by omega, y⟩] at h; exact h
def spX6_changes (As : List MV) (σ : MS) (K : Option MV → MS → Prop) : Prop := pR As fun w r => pI r fun n r => pN r ((w = 40 ∨ w = 44) ∧ σ.2.1 = PF ∧ laneOK σ.2.2.1 w n ∧ 0 ≤ n ∧ n ≤ 30 ∧ K (some (.inl (sumI (fun i => chgI σ.2.2.1 w i) n.toNat))) σ)
def ciX6_changes : CI := (2, 6, 0, 0, spX6_changes)
def kX6_changes (pc : Nat) : List ME := match pc with
  | 0 => [(.iconst 0, 1, []), (.istore_n 2, 1, []), (.iconst 1, 1, []), (.istore_n 3, 1, [])]
  | 4 => [(.iload_n 3, 1, []), (.iload_n 1, 1, []), (.if_icmp .ge 20, 3, [26]), (.aload_n 0, 1, []), (.iload_n 3, 1, []), (.invokevirtual 21, 3, []), (.ifCond .eq 6, 3, [20]), (.iinc 2 1, 3, [])]
  | 20 => [(.iinc 3 1, 3, []), (.goto (-19), 3, [4])]
  | 26 => [(.iload_n 2, 1, []), (.ireturn, 1, [])]
  | _ => []
theorem qX6_changes : ∀ pc, chk cX6_changes pc (kX6_changes pc) = true := by
  intro pc
  unfold kX6_changes
  split <;> first | decide +kernel | exact chk_nil
abbrev rmX6_changes : Room := { frames := 1, cells := 0, slots := 0, locals := 21 }
def aX6_changes (x : Nat) : Option CI := match x with
  | 21 => some ciX6_changesAt
  | _ => none
theorem aokX6_changes : ∀ x ci, aX6_changes x = some ci → CalOK RX6 rmX6_changes x ci := by
  intro x ci h
  unfold aX6_changes at h
  split at h
  · cases h; exact cal_V mX6_changesAt (by decide) rfl (List.forall_mem_cons.mpr ⟨(ws_mem (List.mem_of_getElem? (i := 454) (by decide +kernel)) (by decide +kernel)), List.forall_mem_cons.mpr ⟨(ws_mem (List.mem_of_getElem? (i := 455) (by decide +kernel)) (by decide +kernel)), List.forall_mem_cons.mpr ⟨(ws_mem (List.mem_of_getElem? (i := 456) (by decide +kernel)) (by decide +kernel)), List.forall_mem_cons.mpr ⟨(ws_mem (List.mem_of_getElem? (i := 59) (by decide +kernel)) (by decide +kernel)), List.forall_mem_cons.mpr ⟨(ws_mem (List.mem_of_getElem? (i := 457) (by decide +kernel)) (by decide +kernel)), fun _ h => absurd h List.not_mem_nil⟩⟩⟩⟩⟩) rfl (by unfold nice; decide +kernel) (by unfold rfits; decide) ⟨rfl, rfl⟩
  · cases h
theorem ocX6_changes_21 (f : Nat → Nat → Nat → Nat → (List MV → MS → (Option MV → MS → Prop) → Prop) → Prop) : oC aX6_changes 21 f = f 2 6 0 0 spX6_changesAt := propext Iff.rfl
theorem mdX6_changes : MD RX6 cX6_changes rmX6_changes kX6_changes fX6 aX6_changes zX6 uX6 := ⟨fokX6, zokX6, uokX6, aokX6_changes, qX6_changes⟩
theorem chgI_b (I : Int → Int → Int) (w i : Int) : chgI I w i = 0 ∨ chgI I w i = 1 := by
  unfold chgI; split <;> simp
set_option maxHeartbeats 800000 in
theorem lpX6_chg {K : Option MV → MS → Prop} {U : Pt → Prop} {N : Nat} {I L : Int → Int → Int} {w : Int} (n : Nat) (hw : w = 40 ∨ w = 44) (hl : laneOK I w n) (hn : n ≤ 30) (h : K (some (.inl (sumI (fun i => chgI I w i) n))) (N, PF, I, L)) : ∀ (m i : Nat), i + m = n → 1 ≤ i →
    Ok RX6 cX6_changes 4 rmX6_changes false none (fun r σ' => rfit (some .int) r ∧ K r σ') U (4, [some (.inr (.inr (some w))), some (.inl n), some (.inl (sumI (fun i => chgI I w i) i)), some (.inl i)], [], (N, PF, I, L), 0, 0)
  | 0, i, hi, h1 => by
    have e : i = n := by omega
    subst e
    refine Ok.seg mdX6_changes [4] 20 ?_
    simp only [wp_nil, wp_cons, ↓stp, ↓lI, ↓lL, ↓lR, ↓lIn_0, ↓lIn_1, ↓lIn_2, ↓lIn_3, ↓lLn_0, ↓lLn_1, ↓lLn_2, ↓lLn_3, ↓lRn_0, ↓lRn_1, ↓lRn_2, ↓lRn_3, ↓pI, ↓pL, ↓pR, ↓pA, ↓pN, ↓pV, ↓fp, ↓tsw, ↓oS, ↓spMax, ↓spMin, ↓spAbs, ↓spObj, RI, RLg, b2i_lo, b2i_hi, getL, setL, ltL, killL, isLong, inl, cnd, br, tgt, rcv, rpl, mputI, mputL, mputP, fv, fr, mcat, mcs, entL, entA, rfit, nf_0, nf_1, nf_2, nf_3, nf2_0, nf2_1, b2i_0, b2i_1, RI_b2i, b2i_fit, List.append, List.length, List.replicate, List.cons_append, List.nil_append, List.length_cons, List.length_nil, List.replicate_succ, List.replicate_zero, List.tail_cons, reduceIte, if_true, if_false, ite_true, ite_false, Bool.false_eq_true, true_and, and_true, and_self, false_and, and_false, or_self, or_true, true_or, or_false, false_or, not_true_eq_false, not_false_eq_true, ne_eq, forall_const, implies_true, imp_self, true_implies, false_implies, Nat.reduceAdd, Nat.reduceSub, Nat.reduceMul, Nat.reduceDiv, Nat.reduceMod, Nat.reduceEqDiff, Nat.reduceLT, Nat.reduceLeDiff, Nat.reduceBEq, Nat.add_zero, Nat.zero_add, Nat.le_refl, Nat.not_lt_zero, Nat.succ_eq_add_one, Int.reduceNatCast, Int.cast_ofNat_Int, Int.reduceSub, Int.reduceMul, Int.reduceNeg, Int.reduceLE, Int.reduceLT, Int.reduceToNat, Int.reduceEq, Int.reduceNe, Int.reduceAdd, Option.some.injEq, kX6_changes, rmX6_changes, ↓ocX6_changes_21, ↓spX6_changesAt]
    repeat' (first | apply And.intro | intro _)
    all_goals first | omega | exact h
  | m + 1, i, hi, h1 => by
    obtain ⟨g0, g1, g2, g3, p0, p1, p2⟩ := wP_of hw
    have ih := lpX6_chg (U := U) n hw hl hn h m (i + 1) (by omega) (by omega)
    have e : sumI (fun i => chgI I w i) (i + 1) = sumI (fun i => chgI I w i) i + chgI I w i := rfl
    rw [e] at ih
    have hb := chgI_b I w i
    have hli : laneOK I w (i + 1) := fun j j0 j1 => hl j j0 (by omega)
    refine Ok.seg mdX6_changes [4] 30 ?_
    simp only [wp_nil, wp_cons, ↓stp, ↓lI, ↓lL, ↓lR, ↓lIn_0, ↓lIn_1, ↓lIn_2, ↓lIn_3, ↓lLn_0, ↓lLn_1, ↓lLn_2, ↓lLn_3, ↓lRn_0, ↓lRn_1, ↓lRn_2, ↓lRn_3, ↓pI, ↓pL, ↓pR, ↓pA, ↓pN, ↓pV, ↓fp, ↓tsw, ↓oS, ↓spMax, ↓spMin, ↓spAbs, ↓spObj, RI, RLg, b2i_lo, b2i_hi, getL, setL, ltL, killL, isLong, inl, cnd, br, tgt, rcv, rpl, mputI, mputL, mputP, fv, fr, mcat, mcs, entL, entA, rfit, nf_0, nf_1, nf_2, nf_3, nf2_0, nf2_1, b2i_0, b2i_1, RI_b2i, b2i_fit, List.append, List.length, List.replicate, List.cons_append, List.nil_append, List.length_cons, List.length_nil, List.replicate_succ, List.replicate_zero, List.tail_cons, reduceIte, if_true, if_false, ite_true, ite_false, Bool.false_eq_true, true_and, and_true, and_self, false_and, and_false, or_self, or_true, true_or, or_false, false_or, not_true_eq_false, not_false_eq_true, ne_eq, forall_const, implies_true, imp_self, true_implies, false_implies, Nat.reduceAdd, Nat.reduceSub, Nat.reduceMul, Nat.reduceDiv, Nat.reduceMod, Nat.reduceEqDiff, Nat.reduceLT, Nat.reduceLeDiff, Nat.reduceBEq, Nat.add_zero, Nat.zero_add, Nat.le_refl, Nat.not_lt_zero, Nat.succ_eq_add_one, Int.reduceNatCast, Int.cast_ofNat_Int, Int.reduceSub, Int.reduceMul, Int.reduceNeg, Int.reduceLE, Int.reduceLT, Int.reduceToNat, Int.reduceEq, Int.reduceNe, Int.reduceAdd, Option.some.injEq, kX6_changes, rmX6_changes, ↓ocX6_changes_21, ↓spX6_changesAt, hw, hli, g0]
    refine ⟨by omega, by omega, fun _ => by omega, fun _ => ⟨by omega, by omega, by omega, by omega, fun q => ?_, fun q => ?_⟩⟩
    · rw [q, Int.add_zero] at ih; exact ih
    · rw [show chgI I w i = 1 by omega] at ih; exact ih
set_option maxRecDepth 100000 in
set_option maxHeartbeats 800000 in
theorem mX6_changes : MOK yX6_changes cX6_changes 4 (some .int) rmX6_changes ciX6_changes := by
  refine mok_of (ini := false) (by decide +kernel) (by decide) rfl rfl ?_
  intro σ As K hrc hl h
  obtain ⟨N, P, I, L⟩ := σ
  have h9 := pR_iff.mp h
  clear h
  obtain ⟨w, r, e9, h⟩ := h9
  subst e9
  have h9 := pI_iff.mp h
  clear h
  obtain ⟨n, r, e9, h⟩ := h9
  subst e9
  have h9 := pN_iff.mp h
  clear h
  obtain ⟨e9, h⟩ := h9
  subst e9
  dsimp only at h
  obtain ⟨hw, rfl, hl9, n0, n1, h⟩ := h
  obtain ⟨k, rfl⟩ : ∃ k : Nat, n = (k : Int) := ⟨n.toNat, by omega⟩
  rw [Int.toNat_natCast] at h
  refine ⟨Nat.le_of_ble_eq_true rfl, Ok.seg mdX6_changes [4] 20 ?_⟩
  simp only [wp_nil, wp_cons, ↓stp, ↓lI, ↓lL, ↓lR, ↓lIn_0, ↓lIn_1, ↓lIn_2, ↓lIn_3, ↓lLn_0, ↓lLn_1, ↓lLn_2, ↓lLn_3, ↓lRn_0, ↓lRn_1, ↓lRn_2, ↓lRn_3, ↓pI, ↓pL, ↓pR, ↓pA, ↓pN, ↓pV, ↓fp, ↓tsw, ↓oS, ↓spMax, ↓spMin, ↓spAbs, ↓spObj, RI, RLg, b2i_lo, b2i_hi, getL, setL, ltL, killL, isLong, inl, cnd, br, tgt, rcv, rpl, mputI, mputL, mputP, fv, fr, mcat, mcs, entL, entA, rfit, nf_0, nf_1, nf_2, nf_3, nf2_0, nf2_1, b2i_0, b2i_1, RI_b2i, b2i_fit, List.append, List.length, List.replicate, List.cons_append, List.nil_append, List.length_cons, List.length_nil, List.replicate_succ, List.replicate_zero, List.tail_cons, reduceIte, if_true, if_false, ite_true, ite_false, Bool.false_eq_true, true_and, and_true, and_self, false_and, and_false, or_self, or_true, true_or, or_false, false_or, not_true_eq_false, not_false_eq_true, ne_eq, forall_const, implies_true, imp_self, true_implies, false_implies, Nat.reduceAdd, Nat.reduceSub, Nat.reduceMul, Nat.reduceDiv, Nat.reduceMod, Nat.reduceEqDiff, Nat.reduceLT, Nat.reduceLeDiff, Nat.reduceBEq, Nat.add_zero, Nat.zero_add, Nat.le_refl, Nat.not_lt_zero, Nat.succ_eq_add_one, Int.reduceNatCast, Int.cast_ofNat_Int, Int.reduceSub, Int.reduceMul, Int.reduceNeg, Int.reduceLE, Int.reduceLT, Int.reduceToNat, Int.reduceEq, Int.reduceNe, Int.reduceAdd, Option.some.injEq, kX6_changes, rmX6_changes, ↓ocX6_changes_21, ↓spX6_changesAt]
  rcases Nat.eq_zero_or_pos k with e | e
  · subst e
    refine Ok.seg mdX6_changes [] 20 ?_
    simp only [wp_nil, wp_cons, ↓stp, ↓lI, ↓lL, ↓lR, ↓lIn_0, ↓lIn_1, ↓lIn_2, ↓lIn_3, ↓lLn_0, ↓lLn_1, ↓lLn_2, ↓lLn_3, ↓lRn_0, ↓lRn_1, ↓lRn_2, ↓lRn_3, ↓pI, ↓pL, ↓pR, ↓pA, ↓pN, ↓pV, ↓fp, ↓tsw, ↓oS, ↓spMax, ↓spMin, ↓spAbs, ↓spObj, RI, RLg, b2i_lo, b2i_hi, getL, setL, ltL, killL, isLong, inl, cnd, br, tgt, rcv, rpl, mputI, mputL, mputP, fv, fr, mcat, mcs, entL, entA, rfit, nf_0, nf_1, nf_2, nf_3, nf2_0, nf2_1, b2i_0, b2i_1, RI_b2i, b2i_fit, List.append, List.length, List.replicate, List.cons_append, List.nil_append, List.length_cons, List.length_nil, List.replicate_succ, List.replicate_zero, List.tail_cons, reduceIte, if_true, if_false, ite_true, ite_false, Bool.false_eq_true, true_and, and_true, and_self, false_and, and_false, or_self, or_true, true_or, or_false, false_or, not_true_eq_false, not_false_eq_true, ne_eq, forall_const, implies_true, imp_self, true_implies, false_implies, Nat.reduceAdd, Nat.reduceSub, Nat.reduceMul, Nat.reduceDiv, Nat.reduceMod, Nat.reduceEqDiff, Nat.reduceLT, Nat.reduceLeDiff, Nat.reduceBEq, Nat.add_zero, Nat.zero_add, Nat.le_refl, Nat.not_lt_zero, Nat.succ_eq_add_one, Int.reduceNatCast, Int.cast_ofNat_Int, Int.reduceSub, Int.reduceMul, Int.reduceNeg, Int.reduceLE, Int.reduceLT, Int.reduceToNat, Int.reduceEq, Int.reduceNe, Int.reduceAdd, Option.some.injEq, kX6_changes, rmX6_changes, ↓ocX6_changes_21, ↓spX6_changesAt]
    exact h
  · have := lpX6_chg (U := fun _ => False) k hw hl9 (by omega) h (k - 1) 1 (by omega) (by omega)
    have e2 : sumI (fun i => chgI I w i) 1 = 0 := by
      show 0 + chgI I w 0 = 0
      unfold chgI; simp
    rw [e2] at this
    exact this
end
section
/-! LapBoard$Way.quicken -/
def mn (x y : Int) : Int := if x ≤ y then x else y
theorem mn_of {x y r : Int} (h1 : r ≤ x) (h2 : r ≤ y) (h3 : r = x ∨ r = y) : r = mn x y := by unfold mn; split <;> omega
/-- what limits and the brake allow, m stations ahead of the last -/
def bqv (lm : Int → Int) (bk n : Int) : Nat → Int
  | 0 => lm (n - 1)
  | m + 1 => mn (lm (n - 2 - m)) (bqv lm bk n m + bk)
/-- then onward, what reach does -/
def fqv (b rc : Int → Int) (st : Int) : Nat → Int
  | 0 => mn (b 0) st
  | i + 1 => mn (b (i + 1)) (rc (fqv b rc st i))
def bq (lm : Int → Int) (bk n i : Int) : Int := bqv lm bk n (n - 1 - i).toNat
def qp (lm rc : Int → Int) (bk st n i : Int) : Int := fqv (bq lm bk n) rc st i.toNat
theorem bqv_rng {lm : Int → Int} {bk n : Int} (hl : ∀ i, 0 ≤ i → i < n → 1 ≤ lm i ∧ lm i ≤ 60) (hb : 1 ≤ bk) : ∀ (m : Nat), (m : Int) < n → 1 ≤ bqv lm bk n m ∧ bqv lm bk n m ≤ 60
  | 0, h => hl _ (by omega) (by omega)
  | m + 1, h => by
    have ih := bqv_rng hl hb m (by omega)
    have := hl (n - 2 - m) (by omega) (by omega)
    unfold bqv mn
    split <;> omega
theorem bq_rng {lm : Int → Int} {bk n : Int} (hl : ∀ i, 0 ≤ i → i < n → 1 ≤ lm i ∧ lm i ≤ 60) (hb : 1 ≤ bk) {i : Int} (h0 : 0 ≤ i) (h1 : i < n) : 1 ≤ bq lm bk n i ∧ bq lm bk n i ≤ 60 := bqv_rng hl hb _ (by omega)
theorem bq_last {lm : Int → Int} {bk n : Int} : bq lm bk n (n - 1) = lm (n - 1) := by
  unfold bq; rw [show (n - 1 - (n - 1)).toNat = 0 by omega]; rfl
theorem bq_step {lm : Int → Int} {bk n i : Int} (h1 : i < n - 1) : bq lm bk n i = mn (lm i) (bq lm bk n (i + 1) + bk) := by
  unfold bq
  rw [show (n - 1 - i).toNat = (n - 1 - (i + 1)).toNat + 1 by omega]
  show mn (lm (n - 2 - ((n - 1 - (i + 1)).toNat : Int))) _ = _
  rw [show n - 2 - ((n - 1 - (i + 1)).toNat : Int) = i by omega]
theorem qp_0 {lm rc : Int → Int} {bk st n : Int} : qp lm rc bk st n 0 = mn (bq lm bk n 0) st := rfl
theorem qp_step {lm rc : Int → Int} {bk st n i : Int} (h0 : 0 < i) : qp lm rc bk st n i = mn (bq lm bk n i) (rc (qp lm rc bk st n (i - 1))) := by
  unfold qp
  rw [show i.toNat = (i - 1).toNat + 1 by omega]
  show mn (bq lm bk n (((i - 1).toNat : Int) + 1)) _ = _
  rw [show ((i - 1).toNat : Int) + 1 = i by omega]
theorem fqv_rng {b rc : Int → Int} {st n : Int} (hb : ∀ i, 0 ≤ i → i < n → 1 ≤ b i ∧ b i ≤ 60) (hr : ∀ p, 1 ≤ p → p ≤ 60 → p ≤ rc p ∧ rc p ≤ 60) (hs : 1 ≤ st) : ∀ (i : Nat), (i : Int) < n → 1 ≤ fqv b rc st i ∧ fqv b rc st i ≤ 60
  | 0, h => by
    have := hb 0 (by omega) (by omega)
    unfold fqv mn
    split <;> omega
  | i + 1, h => by
    have ih := fqv_rng hb hr hs i (by omega)
    have := hb (i + 1) (by omega) (by omega)
    have := hr _ ih.1 ih.2
    unfold fqv mn
    split <;> omega
theorem qp_rng {lm rc : Int → Int} {bk st n i : Int} (hl : ∀ i, 0 ≤ i → i < n → 1 ≤ lm i ∧ lm i ≤ 60) (hr : ∀ p, 1 ≤ p → p ≤ 60 → p ≤ rc p ∧ rc p ≤ 60) (hb : 1 ≤ bk) (hs : 1 ≤ st) (h0 : 0 ≤ i) (h1 : i < n) : 1 ≤ qp lm rc bk st n i ∧ qp lm rc bk st n i ≤ 60 :=
  fqv_rng (n := n) (fun i h0 h1 => bq_rng hl hb h0 h1) hr hs _ (by omega)
/-- the limits along a way -/
def wlim (I : Int → Int → Int) (w g i : Int) : Int := lim (I (5 + i) 0) (I (5 + i) 2) (I (5 + i) 3) (I (w + 1) i) g
def nOK (I : Int → Int → Int) : Prop := -20 ≤ I 36 0 ∧ I 36 0 ≤ 20 ∧ 1 ≤ I 36 1 ∧ I 36 1 ≤ 30 ∧ 1 ≤ I 36 2 ∧ I 36 2 ≤ 60
def carOK (I : Int → Int → Int) : Prop := carI (I 38) (I 39) (I 37) ∧ nOK I
def wqp (I : Int → Int → Int) (w i : Int) : Int := qp (wlim I w (I 36 0)) (rch (I 38) (I 39)) (I 36 1) (I 36 2) (I 3 1) i
def wtm (I : Int → Int → Int) (w i : Int) : Int := tmv (I (5 + i) 1) (chgI I w i) (wqp I w i)
def spX6_quicken (As : List MV) (σ : MS) (K : Option MV → MS → Prop) : Prop := pR As fun w r => pR r fun t r => pR r fun c r => pN r ((w = 40 ∨ w = 44) ∧ t = 3 ∧ c = 35 ∧ σ.2.1 = PF ∧ tOK σ.2.2.1 ∧ carOK σ.2.2.1 ∧ laneOK σ.2.2.1 w (σ.2.2.1 3 1) ∧
  ∀ I' : Int → Int → Int, (∀ b j, b ≠ w + 2 → b ≠ w + 3 → ¬ (b = w ∧ j = 3) → I' b j = σ.2.2.1 b j) → (∀ i, 0 ≤ i → i < σ.2.2.1 3 1 → I' (w + 2) i = wqp σ.2.2.1 w i) → (∀ i, 0 ≤ i → i < σ.2.2.1 3 1 → I' (w + 3) i = wtm σ.2.2.1 w i) → I' w 3 = sumI (wtm σ.2.2.1 w) (σ.2.2.1 3 1).toNat → K none (σ.1, σ.2.1, I', σ.2.2.2))
def ciX6_quicken : CI := (3, 6, 0, 0, spX6_quicken)
def kX6_quicken (pc : Nat) : List ME := match pc with
  | 0 => [(.aload_n 1, 1, []), (.getfield 25, 3, []), (.iconst 1, 1, []), (.isub, 1, []), (.istore_n 3, 1, [])]
  | 7 => [(.iload_n 3, 1, []), (.ifCond .lt 76, 3, [84]), (.aload_n 0, 1, []), (.getfield 15, 3, []), (.iload_n 3, 1, []), (.aload_n 1, 1, []), (.getfield 31, 3, []), (.iload_n 3, 1, []), (.aaload, 1, []), (.aload_n 0, 1, []), (.getfield 9, 3, []), (.iload_n 3, 1, []), (.iaload, 1, []), (.aload_n 2, 1, []), (.getfield 35, 3, []), (.iconst 0, 1, []), (.iaload, 1, []), (.invokevirtual 40, 3, []), (.iastore, 1, []), (.iload_n 3, 1, []), (.aload_n 1, 1, []), (.getfield 25, 3, []), (.iconst 1, 1, []), (.isub, 1, []), (.if_icmp .ge 33, 3, [78]), (.aload_n 0, 1, []), (.getfield 15, 3, []), (.iload_n 3, 1, []), (.aload_n 0, 1, []), (.getfield 15, 3, []), (.iload_n 3, 1, []), (.iaload, 1, []), (.aload_n 0, 1, []), (.getfield 15, 3, []), (.iload_n 3, 1, []), (.iconst 1, 1, []), (.iadd, 1, []), (.iaload, 1, []), (.aload_n 2, 1, []), (.getfield 35, 3, []), (.iconst 1, 1, []), (.iaload, 1, []), (.iadd, 1, []), (.invokestatic 46, 3, []), (.iastore, 1, [])]
  | 78 => [(.iinc 3 (-1), 3, []), (.goto (-74), 3, [7])]
  | 84 => [(.aload_n 0, 1, []), (.iconst 0, 1, []), (.putfield 51, 3, []), (.iconst 0, 1, []), (.istore_n 3, 1, [])]
  | 91 => [(.iload_n 3, 1, []), (.aload_n 1, 1, []), (.getfield 25, 3, []), (.if_icmp .ge 95, 3, [191]), (.iload_n 3, 1, []), (.ifCond .ne 12, 3, [112]), (.aload_n 2, 1, []), (.getfield 35, 3, []), (.iconst 2, 1, []), (.iaload, 1, []), (.goto 16, 3, [125])]
  | 112 => [(.aload_n 2, 1, []), (.getfield 54, 3, []), (.aload_n 0, 1, []), (.getfield 15, 3, []), (.iload_n 3, 1, []), (.iconst 1, 1, []), (.isub, 1, []), (.iaload, 1, []), (.iaload, 1, [])]
  | 125 => [(.istore 4, 2, []), (.aload_n 0, 1, []), (.getfield 15, 3, []), (.iload_n 3, 1, []), (.aload_n 0, 1, []), (.getfield 15, 3, []), (.iload_n 3, 1, []), (.iaload, 1, []), (.iload 4, 2, []), (.invokestatic 46, 3, []), (.iastore, 1, []), (.aload_n 0, 1, []), (.getfield 18, 3, []), (.iload_n 3, 1, []), (.aload_n 1, 1, []), (.getfield 31, 3, []), (.iload_n 3, 1, []), (.aaload, 1, []), (.aload_n 0, 1, []), (.getfield 15, 3, []), (.iload_n 3, 1, []), (.iaload, 1, []), (.aload_n 0, 1, []), (.iload_n 3, 1, []), (.invokevirtual 21, 3, []), (.invokevirtual 57, 3, []), (.iastore, 1, []), (.aload_n 0, 1, []), (.dup, 1, []), (.getfield 51, 3, []), (.aload_n 0, 1, []), (.getfield 18, 3, []), (.iload_n 3, 1, []), (.iaload, 1, []), (.iadd, 1, []), (.putfield 51, 3, []), (.iinc 3 1, 3, []), (.goto (-97), 3, [91])]
  | 191 => [(.return_, 1, [])]
  | _ => []
theorem qX6_quicken : ∀ pc, chk cX6_quicken pc (kX6_quicken pc) = true := by
  intro pc
  unfold kX6_quicken
  split <;> first | decide +kernel | exact chk_nil
abbrev rmX6_quicken : Room := { frames := 2, cells := 0, slots := 0, locals := 44 }
def aX6_quicken (x : Nat) : Option CI := match x with
  | 40 => some ciX3_limitOn
  | 46 => some ciMin
  | 21 => some ciX6_changesAt
  | 57 => some ciX3_timeAt
  | _ => none
theorem aokX6_quicken : ∀ x ci, aX6_quicken x = some ci → CalOK RX6 rmX6_quicken x ci := by
  intro x ci h
  unfold aX6_quicken at h
  split at h
  · cases h; exact cal_V mX3_limitOn (by decide) rfl (List.forall_mem_cons.mpr ⟨(ws_mem (List.mem_of_getElem? (i := 452) (by decide +kernel)) (by decide +kernel)), List.forall_mem_cons.mpr ⟨(ws_mem (List.mem_of_getElem? (i := 416) (by decide +kernel)) (by decide +kernel)), List.forall_mem_cons.mpr ⟨(ws_mem (List.mem_of_getElem? (i := 417) (by decide +kernel)) (by decide +kernel)), List.forall_mem_cons.mpr ⟨(ws_mem (List.mem_of_getElem? (i := 56) (by decide +kernel)) (by decide +kernel)), List.forall_mem_cons.mpr ⟨(ws_mem (List.mem_of_getElem? (i := 418) (by decide +kernel)) (by decide +kernel)), fun _ h => absurd h List.not_mem_nil⟩⟩⟩⟩⟩) rfl (by unfold nice; decide +kernel) (by unfold rfits; decide) ⟨rfl, rfl⟩
  · cases h; exact cal_min (List.forall_mem_cons.mpr ⟨(ws_mem (List.mem_of_getElem? (i := 453) (by decide +kernel)) (by decide +kernel)), List.forall_mem_cons.mpr ⟨(ws_mem (List.mem_of_getElem? (i := 155) (by decide +kernel)) (by decide +kernel)), List.forall_mem_cons.mpr ⟨(ws_mem (List.mem_of_getElem? (i := 58) (by decide +kernel)) (by decide +kernel)), List.forall_mem_cons.mpr ⟨(ws_mem (List.mem_of_getElem? (i := 156) (by decide +kernel)) (by decide +kernel)), fun _ h => absurd h List.not_mem_nil⟩⟩⟩⟩) (by decide)
  · cases h; exact cal_V mX6_changesAt (by decide) rfl (List.forall_mem_cons.mpr ⟨(ws_mem (List.mem_of_getElem? (i := 454) (by decide +kernel)) (by decide +kernel)), List.forall_mem_cons.mpr ⟨(ws_mem (List.mem_of_getElem? (i := 455) (by decide +kernel)) (by decide +kernel)), List.forall_mem_cons.mpr ⟨(ws_mem (List.mem_of_getElem? (i := 456) (by decide +kernel)) (by decide +kernel)), List.forall_mem_cons.mpr ⟨(ws_mem (List.mem_of_getElem? (i := 59) (by decide +kernel)) (by decide +kernel)), List.forall_mem_cons.mpr ⟨(ws_mem (List.mem_of_getElem? (i := 457) (by decide +kernel)) (by decide +kernel)), fun _ h => absurd h List.not_mem_nil⟩⟩⟩⟩⟩) rfl (by unfold nice; decide +kernel) (by unfold rfits; decide) ⟨rfl, rfl⟩
  · cases h; exact cal_V mX3_timeAt (by decide) rfl (List.forall_mem_cons.mpr ⟨(ws_mem (List.mem_of_getElem? (i := 458) (by decide +kernel)) (by decide +kernel)), List.forall_mem_cons.mpr ⟨(ws_mem (List.mem_of_getElem? (i := 459) (by decide +kernel)) (by decide +kernel)), List.forall_mem_cons.mpr ⟨(ws_mem (List.mem_of_getElem? (i := 460) (by decide +kernel)) (by decide +kernel)), List.forall_mem_cons.mpr ⟨(ws_mem (List.mem_of_getElem? (i := 56) (by decide +kernel)) (by decide +kernel)), List.forall_mem_cons.mpr ⟨(ws_mem (List.mem_of_getElem? (i := 461) (by decide +kernel)) (by decide +kernel)), fun _ h => absurd h List.not_mem_nil⟩⟩⟩⟩⟩) rfl (by unfold nice; decide +kernel) (by unfold rfits; decide) ⟨rfl, rfl⟩
  · cases h
theorem ocX6_quicken_40 (f : Nat → Nat → Nat → Nat → (List MV → MS → (Option MV → MS → Prop) → Prop) → Prop) : oC aX6_quicken 40 f = f 3 3 0 0 spX3_limitOn := propext Iff.rfl
theorem ocX6_quicken_46 (f : Nat → Nat → Nat → Nat → (List MV → MS → (Option MV → MS → Prop) → Prop) → Prop) : oC aX6_quicken 46 f = f 2 10 0 0 spMin := propext Iff.rfl
theorem ocX6_quicken_21 (f : Nat → Nat → Nat → Nat → (List MV → MS → (Option MV → MS → Prop) → Prop) → Prop) : oC aX6_quicken 21 f = f 2 6 0 0 spX6_changesAt := propext Iff.rfl
theorem ocX6_quicken_57 (f : Nat → Nat → Nat → Nat → (List MV → MS → (Option MV → MS → Prop) → Prop) → Prop) : oC aX6_quicken 57 f = f 3 3 0 0 spX3_timeAt := propext Iff.rfl
theorem mdX6_quicken : MD RX6 cX6_quicken rmX6_quicken kX6_quicken fX6 aX6_quicken zX6 uX6 := ⟨fokX6, zokX6, uokX6, aokX6_quicken, qX6_quicken⟩
theorem wlim_rng (I : Int → Int → Int) (w g : Int) : ∀ i, 0 ≤ i → i < I 3 1 → 1 ≤ wlim I w g i ∧ wlim I w g i ≤ 60 := fun i _ _ => lim_rng _ _ _ _ _
set_option maxHeartbeats 1600000 in
set_option maxRecDepth 100000 in
theorem lpX6_qb {post : Option MV → MS → Prop} {U : Pt → Prop} {N : Nat} {I L : Int → Int → Int} {w : Int} (hw : w = 40 ∨ w = 44) (ht : tOK I) (hc : carOK I) (hl : laneOK I w (I 3 1))
    (h : ∀ I1 : Int → Int → Int, (∀ b j, b ≠ w + 2 → I1 b j = I b j) → (∀ j, 0 ≤ j → j < I 3 1 → I1 (w + 2) j = bq (wlim I w (I 36 0)) (I 36 1) (I 3 1) j) → Ok RX6 cX6_quicken 5 rmX6_quicken false none post U (84, [some (.inr (.inr (some w))), some (.inr (.inr (some 3))), some (.inr (.inr (some 35))), some (.inl (-1)), none], [], (N, PF, I1, L), 0, 0)) :
    ∀ (m : Nat) (I1 : Int → Int → Int), (m : Int) ≤ I 3 1 → (∀ b j, b ≠ w + 2 → I1 b j = I b j) → (∀ j : Int, (m : Int) ≤ j → j < I 3 1 → I1 (w + 2) j = bq (wlim I w (I 36 0)) (I 36 1) (I 3 1) j) →
    Ok RX6 cX6_quicken 5 rmX6_quicken false none post U (7, [some (.inr (.inr (some w))), some (.inr (.inr (some 3))), some (.inr (.inr (some 35))), some (.inl (m - 1)), none], [], (N, PF, I1, L), 0, 0)
  | 0, I1, hm, h1, h2 => by
    refine Ok.seg mdX6_quicken [84] 20 ?_
    simp only [wp_nil, wp_cons, ↓stp, ↓lI, ↓lL, ↓lR, ↓lIn_0, ↓lIn_1, ↓lIn_2, ↓lIn_3, ↓lLn_0, ↓lLn_1, ↓lLn_2, ↓lLn_3, ↓lRn_0, ↓lRn_1, ↓lRn_2, ↓lRn_3, ↓pI, ↓pL, ↓pR, ↓pA, ↓pN, ↓pV, ↓fp, ↓tsw, ↓oS, ↓spMax, ↓spMin, ↓spAbs, ↓spObj, RI, RLg, b2i_lo, b2i_hi, getL, setL, ltL, killL, isLong, inl, cnd, br, tgt, rcv, rpl, mputI, mputL, mputP, fv, fr, mcat, mcs, entL, entA, rfit, nf_0, nf_1, nf_2, nf_3, nf2_0, nf2_1, b2i_0, b2i_1, RI_b2i, b2i_fit, List.append, List.length, List.replicate, List.cons_append, List.nil_append, List.length_cons, List.length_nil, List.replicate_succ, List.replicate_zero, List.tail_cons, reduceIte, if_true, if_false, ite_true, ite_false, Bool.false_eq_true, true_and, and_true, and_self, false_and, and_false, or_self, or_true, true_or, or_false, false_or, not_true_eq_false, not_false_eq_true, ne_eq, forall_const, implies_true, imp_self, true_implies, false_implies, Nat.reduceAdd, Nat.reduceSub, Nat.reduceMul, Nat.reduceDiv, Nat.reduceMod, Nat.reduceEqDiff, Nat.reduceLT, Nat.reduceLeDiff, Nat.reduceBEq, Nat.add_zero, Nat.zero_add, Nat.le_refl, Nat.not_lt_zero, Nat.succ_eq_add_one, Int.reduceNatCast, Int.cast_ofNat_Int, Int.reduceSub, Int.reduceMul, Int.reduceNeg, Int.reduceLE, Int.reduceLT, Int.reduceToNat, Int.reduceEq, Int.reduceNe, Int.reduceAdd, Option.some.injEq, kX6_quicken, rmX6_quicken, ↓ofX6_15, ↓ofX6_18, ↓ofX6_25, ↓ofX6_31, ↓ofX6_35, ↓ofX6_51, ↓ofX6_54, ↓ofX6_9, ↓ocX6_quicken_40, ↓spX3_limitOn, ↓ocX6_quicken_46, ↓ocX6_quicken_21, ↓spX6_changesAt, ↓ocX6_quicken_57, ↓spX3_timeAt]
    exact h I1 h1 (fun j j0 j1 => h2 j (by omega) j1)
  | m + 1, I1, hm, h1, h2 => by
    obtain ⟨g0, g1, g2, g3, p0, p1, p2⟩ := wP_of hw
    have ih := lpX6_qb hw ht hc hl h m
    obtain ⟨s0, s1, hs⟩ := ht
    obtain ⟨⟨hok, hr⟩, hn⟩ := hc
    unfold nOK at hn
    have hp := PF_st (i := (m : Int)) (by omega) (by omega)
    have hg := G_st (a := 5 + (m : Int)) (by omega) (by omega)
    have e5 : I1 (5 + (m : Int)) = I (5 + (m : Int)) := funext fun j => h1 _ j (by omega)
    have e3 : I1 3 = I 3 := funext fun j => h1 _ j (by omega)
    have e36 : I1 36 = I 36 := funext fun j => h1 _ j (by omega)
    have ew : I1 (w + 1) = I (w + 1) := funext fun j => h1 _ j (by omega)
    have hst : stOK I1 (5 + (m : Int)) := by
      have := hs m (by omega) (by omega)
      unfold stOK at this ⊢
      rw [e5]; exact this
    have hla := hl m (by omega) (by omega)
    have hlr := wlim_rng I w (I 36 0) m (by omega) (by omega)
    have hm1 : ((m + 1 : Nat) : Int) - 1 = m := by omega
    have hcons : ∀ v, v = bq (wlim I w (I 36 0)) (I 36 1) (I 3 1) m → Ok RX6 cX6_quicken 5 rmX6_quicken false none post U (7, [some (.inr (.inr (some w))), some (.inr (.inr (some 3))), some (.inr (.inr (some 35))), some (.inl ((m : Int) + -1)), none], [], (N, PF, upI I1 (w + 2) m v, L), 0, 0) := fun v hv => by
      rw [show (m : Int) + -1 = m - 1 by omega]
      refine ih (upI I1 (w + 2) m v) (by omega) (fun b j hb => ?_) (fun j j0 j1 => ?_)
      · rw [upI_ne hb]; exact h1 b j hb
      · by_cases e : j = m
        · rw [e, upI_same]; exact hv
        · rw [upI_nj e]; exact h2 j (by omega) j1
    refine Ok.seg mdX6_quicken [7, 84] 52 ?_
    have n3 : (3 : Int) ≠ w + 2 := by omega
    have n36 : (36 : Int) ≠ w + 2 := by omega
    have nj : (m : Int) + 1 ≠ m := by omega
    rw [hm1]
    simp only [wp_nil, wp_cons, ↓stp, ↓lI, ↓lL, ↓lR, ↓lIn_0, ↓lIn_1, ↓lIn_2, ↓lIn_3, ↓lLn_0, ↓lLn_1, ↓lLn_2, ↓lLn_3, ↓lRn_0, ↓lRn_1, ↓lRn_2, ↓lRn_3, ↓pI, ↓pL, ↓pR, ↓pA, ↓pN, ↓pV, ↓fp, ↓tsw, ↓oS, ↓spMax, ↓spMin, ↓spAbs, ↓spObj, RI, RLg, b2i_lo, b2i_hi, getL, setL, ltL, killL, isLong, inl, cnd, br, tgt, rcv, rpl, mputI, mputL, mputP, fv, fr, mcat, mcs, entL, entA, rfit, nf_0, nf_1, nf_2, nf_3, nf2_0, nf2_1, b2i_0, b2i_1, RI_b2i, b2i_fit, List.append, List.length, List.replicate, List.cons_append, List.nil_append, List.length_cons, List.length_nil, List.replicate_succ, List.replicate_zero, List.tail_cons, reduceIte, if_true, if_false, ite_true, ite_false, Bool.false_eq_true, true_and, and_true, and_self, false_and, and_false, or_self, or_true, true_or, or_false, false_or, not_true_eq_false, not_false_eq_true, ne_eq, forall_const, implies_true, imp_self, true_implies, false_implies, Nat.reduceAdd, Nat.reduceSub, Nat.reduceMul, Nat.reduceDiv, Nat.reduceMod, Nat.reduceEqDiff, Nat.reduceLT, Nat.reduceLeDiff, Nat.reduceBEq, Nat.add_zero, Nat.zero_add, Nat.le_refl, Nat.not_lt_zero, Nat.succ_eq_add_one, Int.reduceNatCast, Int.cast_ofNat_Int, Int.reduceSub, Int.reduceMul, Int.reduceNeg, Int.reduceLE, Int.reduceLT, Int.reduceToNat, Int.reduceEq, Int.reduceNe, Int.reduceAdd, Option.some.injEq, kX6_quicken, rmX6_quicken, ↓ofX6_15, ↓ofX6_18, ↓ofX6_25, ↓ofX6_31, ↓ofX6_35, ↓ofX6_51, ↓ofX6_54, ↓ofX6_9, ↓ocX6_quicken_40, ↓spX3_limitOn, ↓ocX6_quicken_46, ↓ocX6_quicken_21, ↓spX6_changesAt, ↓ocX6_quicken_57, ↓spX3_timeAt, hp, hg, g0, g1, g2, p0, p1, e5, e3, e36, ew, hst, upI_same, upI_tw, upI_ne n3, upI_ne n36, upI_nj nj, G_1, G_2, G_3, G_4, G_35, G_36, G_37, G_38, G_39, G_40, G_41, G_42, G_43, G_44, G_45, G_46, G_47, G_48, G_49, G_140, G_141, G_142, G_143, G_144, G_145, G_146, G_178, G_179, G_180, G_181, G_182, G_183, G_184, G_189, G_198, G_207, PF_1_0, PF_1_1, PF_1_2, PF_1_3, PF_2_0, PF_2_1, PF_2_3, PF_2_4, PF_2_5, PF_2_6, PF_2_7, PF_2_8, PF_2_9, PF_2_10, PF_2_11, PF_3_0, PF_35_0, PF_35_1, PF_35_2, PF_35_3, PF_40_0, PF_40_1, PF_40_2, PF_44_0, PF_44_1, PF_44_2, PF_145_0, PF_145_1, PF_179_0, PF_179_1, PF_179_2, PF_179_3, PF_179_8, PF_179_9, PF_179_10]
    unfold wlim at hlr
    have hb1 : ¬ I 3 1 - 1 ≤ m → I1 (w + 2) (m + 1) = bq (wlim I w (I 36 0)) (I 36 1) (I 3 1) (m + 1) := fun q => h2 _ (by omega) (by omega)
    have hbr : ¬ I 3 1 - 1 ≤ m → _ := fun q => bq_rng (n := I 3 1) (wlim_rng I w (I 36 0)) hn.2.2.1 (i := (m : Int) + 1) (by omega) (by omega)
    refine ⟨by omega, fun _ => by omega, fun _ => ⟨by omega, by omega, by omega, by omega, by omega, by omega, by omega, by omega, by omega, by omega, by omega, by omega, by omega, fun q => ?_, fun q => ?_⟩⟩
    · refine hcons _ ?_
      rw [show (m : Int) = I 3 1 - 1 by omega, bq_last]
      rfl
    · rw [hb1 q]
      have hbr := hbr q
      refine ⟨by omega, by omega, by omega, by omega, by omega, by omega, fun r r1 r2 r3 => ⟨by omega, by omega, ?_⟩⟩
      refine hcons r ?_
      rw [bq_step (by omega)]
      exact mn_of r1 r2 r3
theorem laneOK_cg {I J : Int → Int → Int} {w n : Int} (h : ∀ j, J (w + 1) j = I (w + 1) j) (hl : laneOK I w n) : laneOK J w n := fun i i0 i1 => by rw [h]; exact hl i i0 i1
theorem chgI_cg {I J : Int → Int → Int} {w : Int} (h : ∀ j, J (w + 1) j = I (w + 1) j) (i : Int) : chgI J w i = chgI I w i := by unfold chgI; rw [h, h]
theorem stOK_cg {I J : Int → Int → Int} {a : Int} (h : ∀ j, J a j = I a j) (hl : stOK I a) : stOK J a := by unfold stOK at hl ⊢; rw [h, h, h, h, h]; exact hl
theorem sumI_s (f : Int → Int) (n : Nat) : sumI f (n + 1) = sumI f n + f n := rfl
theorem tmv_rng {len ch p : Int} (h1 : 1 ≤ len) (h2 : len ≤ 99) (hp : 1 ≤ p) : 0 ≤ tmv len ch p ∧ tmv len ch p ≤ 101000 := by
  unfold tmv
  have : ∀ d, 0 ≤ d → d ≤ 101000 → 0 ≤ d / p ∧ d / p ≤ 101000 := fun d d0 d1 => ⟨Int.ediv_nonneg d0 (by omega), Int.le_trans (Int.ediv_le_self p d0) d1⟩
  rw [if_pos (by omega)]
  split
  · exact this _ (by omega) (by omega)
  · exact this _ (by omega) (by omega)
theorem sumI_s' (f : Int → Int) {i : Int} (h : 0 ≤ i) : sumI f (i + 1).toNat = sumI f i.toNat + f i := by
  rw [show (i + 1).toNat = i.toNat + 1 by omega, sumI_s, Int.toNat_of_nonneg h]
set_option maxHeartbeats 1600000 in
set_option maxRecDepth 100000 in
theorem lpX6_qf {post : Option MV → MS → Prop} {U : Pt → Prop} {N : Nat} {I L : Int → Int → Int} {w : Int} (hw : w = 40 ∨ w = 44) (ht : tOK I) (hc : carOK I) (hl : laneOK I w (I 3 1))
    (h : ∀ I' : Int → Int → Int, (∀ b j, b ≠ w + 2 → b ≠ w + 3 → ¬ (b = w ∧ j = 3) → I' b j = I b j) → (∀ i, 0 ≤ i → i < I 3 1 → I' (w + 2) i = wqp I w i) → (∀ i, 0 ≤ i → i < I 3 1 → I' (w + 3) i = wtm I w i) → I' w 3 = sumI (wtm I w) (I 3 1).toNat → post none (N, PF, I', L)) :
    ∀ (m : Nat) (i : Int) (I1 : Int → Int → Int) (x : Option MV), 0 ≤ i → (i : Int) + m = I 3 1 → (∀ b j, b ≠ w + 2 → b ≠ w + 3 → ¬ (b = w ∧ j = 3) → I1 b j = I b j) →
    (∀ j : Int, 0 ≤ j → j < i → I1 (w + 2) j = wqp I w j) → (∀ j : Int, i ≤ j → j < I 3 1 → I1 (w + 2) j = bq (wlim I w (I 36 0)) (I 36 1) (I 3 1) j) →
    (∀ j : Int, 0 ≤ j → j < i → I1 (w + 3) j = wtm I w j) → I1 w 3 = sumI (wtm I w) i.toNat →
    Ok RX6 cX6_quicken 5 rmX6_quicken false none post U (91, [some (.inr (.inr (some w))), some (.inr (.inr (some 3))), some (.inr (.inr (some 35))), some (.inl i), x], [], (N, PF, I1, L), 0, 0)
  | 0, i, I1, x, i0, hm, h1, h2, h3, h4, h5 => by
    have e3 : I1 3 = I 3 := funext fun j => h1 _ j (by omega) (by omega) (by omega)
    obtain ⟨s0, s1, hs⟩ := ht
    refine Ok.seg mdX6_quicken [91, 125, 112] 20 ?_
    simp only [wp_nil, wp_cons, ↓stp, ↓lI, ↓lL, ↓lR, ↓lIn_0, ↓lIn_1, ↓lIn_2, ↓lIn_3, ↓lLn_0, ↓lLn_1, ↓lLn_2, ↓lLn_3, ↓lRn_0, ↓lRn_1, ↓lRn_2, ↓lRn_3, ↓pI, ↓pL, ↓pR, ↓pA, ↓pN, ↓pV, ↓fp, ↓tsw, ↓oS, ↓spMax, ↓spMin, ↓spAbs, ↓spObj, RI, RLg, b2i_lo, b2i_hi, getL, setL, ltL, killL, isLong, inl, cnd, br, tgt, rcv, rpl, mputI, mputL, mputP, fv, fr, mcat, mcs, entL, entA, rfit, nf_0, nf_1, nf_2, nf_3, nf2_0, nf2_1, b2i_0, b2i_1, RI_b2i, b2i_fit, List.append, List.length, List.replicate, List.cons_append, List.nil_append, List.length_cons, List.length_nil, List.replicate_succ, List.replicate_zero, List.tail_cons, reduceIte, if_true, if_false, ite_true, ite_false, Bool.false_eq_true, true_and, and_true, and_self, false_and, and_false, or_self, or_true, true_or, or_false, false_or, not_true_eq_false, not_false_eq_true, ne_eq, forall_const, implies_true, imp_self, true_implies, false_implies, Nat.reduceAdd, Nat.reduceSub, Nat.reduceMul, Nat.reduceDiv, Nat.reduceMod, Nat.reduceEqDiff, Nat.reduceLT, Nat.reduceLeDiff, Nat.reduceBEq, Nat.add_zero, Nat.zero_add, Nat.le_refl, Nat.not_lt_zero, Nat.succ_eq_add_one, Int.reduceNatCast, Int.cast_ofNat_Int, Int.reduceSub, Int.reduceMul, Int.reduceNeg, Int.reduceLE, Int.reduceLT, Int.reduceToNat, Int.reduceEq, Int.reduceNe, Int.reduceAdd, Option.some.injEq, kX6_quicken, rmX6_quicken, ↓ofX6_15, ↓ofX6_18, ↓ofX6_25, ↓ofX6_31, ↓ofX6_35, ↓ofX6_51, ↓ofX6_54, ↓ofX6_9, ↓ocX6_quicken_40, ↓spX3_limitOn, ↓ocX6_quicken_46, ↓ocX6_quicken_21, ↓spX6_changesAt, ↓ocX6_quicken_57, ↓spX3_timeAt, e3, G_1, G_2, G_3, G_4, G_35, G_36, G_37, G_38, G_39, G_40, G_41, G_42, G_43, G_44, G_45, G_46, G_47, G_48, G_49, G_140, G_141, G_142, G_143, G_144, G_145, G_146, G_178, G_179, G_180, G_181, G_182, G_183, G_184, G_189, G_198, G_207, PF_1_0, PF_1_1, PF_1_2, PF_1_3, PF_2_0, PF_2_1, PF_2_3, PF_2_4, PF_2_5, PF_2_6, PF_2_7, PF_2_8, PF_2_9, PF_2_10, PF_2_11, PF_3_0, PF_35_0, PF_35_1, PF_35_2, PF_35_3, PF_40_0, PF_40_1, PF_40_2, PF_44_0, PF_44_1, PF_44_2, PF_145_0, PF_145_1, PF_179_0, PF_179_1, PF_179_2, PF_179_3, PF_179_8, PF_179_9, PF_179_10]
    refine ⟨by omega, by omega, fun _ => h I1 h1 (fun j j0 j1 => h2 j j0 (by omega)) (fun j j0 j1 => h4 j j0 (by omega)) ?_, fun _ => by omega⟩
    rw [h5]; congr 1; omega
  | m + 1, i, I1, x, i0, hm, h1, h2, h3, h4, h5 => by
    obtain ⟨g0, g1, g2, g3, p0, p1, p2⟩ := wP_of hw
    have ih := lpX6_qf (U := U) hw ht hc hl h m (i + 1)
    obtain ⟨s0, s1, hs⟩ := ht
    obtain ⟨⟨hok, hr⟩, hn⟩ := hc
    unfold nOK at hn
    have hp := PF_st (i := i) (by omega) (by omega)
    have hg := G_st (a := 5 + i) (by omega) (by omega)
    have e3 : I1 3 = I 3 := funext fun j => h1 _ j (by omega) (by omega) (by omega)
    have e36 : I1 36 = I 36 := funext fun j => h1 _ j (by omega) (by omega) (by omega)
    have e37 : I1 37 = I 37 := funext fun j => h1 _ j (by omega) (by omega) (by omega)
    have n22 : w + 2 ≠ w + 3 := by omega
    have n3w : w ≠ w + 3 := by omega
    have n2w : w ≠ w + 2 := by omega
    have n5 : 5 + i ≠ w + 2 := by omega
    have hbq := bq_rng (n := I 3 1) (wlim_rng I w (I 36 0)) hn.2.2.1 (i := i) (by omega) (by omega)
    have hqp := qp_rng (n := I 3 1) (wlim_rng I w (I 36 0)) (fun p p0 p1 => rch_rng hok p1) hn.2.2.1 hn.2.2.2.2.1 (i := i) (by omega) (by omega)
    have mid : ∀ mo : Int, 1 ≤ mo → mo ≤ 60 → wqp I w i = mn (bq (wlim I w (I 36 0)) (I 36 1) (I 3 1) i) mo → Ok RX6 cX6_quicken 5 rmX6_quicken false none post U (125, [some (.inr (.inr (some w))), some (.inr (.inr (some 3))), some (.inr (.inr (some 35))), some (.inl i), x], [.inl mo], (N, PF, I1, L), 0, 0) := fun mo m0 m1 hq => by
      have e5 : I1 (5 + i) = I (5 + i) := funext fun j => h1 _ j (by omega) (by omega) (by omega)
      have hst : ∀ r, stOK (upI I1 (w + 2) i r) (5 + i) := fun r => stOK_cg (fun j => by rw [upI_ne n5, e5]) (hs i (by omega) (by omega))
      have ew : ∀ r j, upI I1 (w + 2) i r (w + 1) j = I (w + 1) j := fun r j => by rw [upI_ne (by omega)]; exact h1 _ j (by omega) (by omega) (by omega)
      have ecg : ∀ r, chgI (upI I1 (w + 2) i r) w i = chgI I w i := fun r => chgI_cg (ew r) i
      have elo : ∀ r, laneOK (upI I1 (w + 2) i r) w (i + 1) := fun r => laneOK_cg (ew r) (fun j j0 j1 => hl j j0 (by omega))
      have e2i := h3 i (by omega) (by omega)
      refine Ok.seg mdX6_quicken [91] 45 ?_
      simp only [wp_nil, wp_cons, ↓stp, ↓lI, ↓lL, ↓lR, ↓lIn_0, ↓lIn_1, ↓lIn_2, ↓lIn_3, ↓lLn_0, ↓lLn_1, ↓lLn_2, ↓lLn_3, ↓lRn_0, ↓lRn_1, ↓lRn_2, ↓lRn_3, ↓pI, ↓pL, ↓pR, ↓pA, ↓pN, ↓pV, ↓fp, ↓tsw, ↓oS, ↓spMax, ↓spMin, ↓spAbs, ↓spObj, RI, RLg, b2i_lo, b2i_hi, getL, setL, ltL, killL, isLong, inl, cnd, br, tgt, rcv, rpl, mputI, mputL, mputP, fv, fr, mcat, mcs, entL, entA, rfit, nf_0, nf_1, nf_2, nf_3, nf2_0, nf2_1, b2i_0, b2i_1, RI_b2i, b2i_fit, List.append, List.length, List.replicate, List.cons_append, List.nil_append, List.length_cons, List.length_nil, List.replicate_succ, List.replicate_zero, List.tail_cons, reduceIte, if_true, if_false, ite_true, ite_false, Bool.false_eq_true, true_and, and_true, and_self, false_and, and_false, or_self, or_true, true_or, or_false, false_or, not_true_eq_false, not_false_eq_true, ne_eq, forall_const, implies_true, imp_self, true_implies, false_implies, Nat.reduceAdd, Nat.reduceSub, Nat.reduceMul, Nat.reduceDiv, Nat.reduceMod, Nat.reduceEqDiff, Nat.reduceLT, Nat.reduceLeDiff, Nat.reduceBEq, Nat.add_zero, Nat.zero_add, Nat.le_refl, Nat.not_lt_zero, Nat.succ_eq_add_one, Int.reduceNatCast, Int.cast_ofNat_Int, Int.reduceSub, Int.reduceMul, Int.reduceNeg, Int.reduceLE, Int.reduceLT, Int.reduceToNat, Int.reduceEq, Int.reduceNe, Int.reduceAdd, Option.some.injEq, kX6_quicken, rmX6_quicken, ↓ofX6_15, ↓ofX6_18, ↓ofX6_25, ↓ofX6_31, ↓ofX6_35, ↓ofX6_51, ↓ofX6_54, ↓ofX6_9, ↓ocX6_quicken_40, ↓spX3_limitOn, ↓ocX6_quicken_46, ↓ocX6_quicken_21, ↓spX6_changesAt, ↓ocX6_quicken_57, ↓spX3_timeAt, hp, hg, g0, g1, g2, g3, p0, p1, p2, e5, e3, e36, hst, ecg, elo, hw, e2i, upI_same, upI_ne n22, upI_ne n3w, upI_ne n2w, upI_ne n5, G_1, G_2, G_3, G_4, G_35, G_36, G_37, G_38, G_39, G_40, G_41, G_42, G_43, G_44, G_45, G_46, G_47, G_48, G_49, G_140, G_141, G_142, G_143, G_144, G_145, G_146, G_178, G_179, G_180, G_181, G_182, G_183, G_184, G_189, G_198, G_207, PF_1_0, PF_1_1, PF_1_2, PF_1_3, PF_2_0, PF_2_1, PF_2_3, PF_2_4, PF_2_5, PF_2_6, PF_2_7, PF_2_8, PF_2_9, PF_2_10, PF_2_11, PF_3_0, PF_35_0, PF_35_1, PF_35_2, PF_35_3, PF_40_0, PF_40_1, PF_40_2, PF_44_0, PF_44_1, PF_44_2, PF_145_0, PF_145_1, PF_179_0, PF_179_1, PF_179_2, PF_179_3, PF_179_8, PF_179_9, PF_179_10]
      have hc2 := chgI_b I w i
      refine ⟨by omega, by omega, by omega, by omega, fun r r1 r2 r3 => ?_⟩
      have er : r = wqp I w i := by rw [hq]; exact mn_of r1 r2 r3
      refine ⟨by omega, by omega, by omega, by omega, by omega, by omega, by omega, by omega, by omega, by omega, by omega, by omega, hc2, by omega, by omega, by omega, by omega, ?_⟩
      subst er
      change Ok RX6 cX6_quicken 5 rmX6_quicken false none post U (91, [some (.inr (.inr (some w))), some (.inr (.inr (some 3))), some (.inr (.inr (some 35))), some (.inl (i + 1)), some (.inl mo)], [], (N, PF, upI (upI (upI I1 (w + 2) i (wqp I w i)) (w + 3) i (wtm I w i)) w 3 (I1 w 3 + wtm I w i), L), 0, 0)
      refine ih _ _ (by omega) (by omega) (fun b j b1 b2 b3 => ?_) (fun j j0 j1 => ?_) (fun j j0 j1 => ?_) (fun j j0 j1 => ?_) ?_
      · unfold upI; rw [if_neg (by omega), if_neg (by omega), if_neg (by omega)]; exact h1 b j b1 b2 b3
      · by_cases e : j = i
        · subst e; unfold upI; rw [if_neg (by omega), if_neg (by omega), if_pos (by omega)]
        · unfold upI; rw [if_neg (by omega), if_neg (by omega), if_neg (by omega)]; exact h2 j j0 (by omega)
      · unfold upI; rw [if_neg (by omega), if_neg (by omega), if_neg (by omega)]; exact h3 j (by omega) j1
      · by_cases e : j = i
        · subst e; unfold upI; rw [if_neg (by omega), if_pos (by omega)]
        · unfold upI; rw [if_neg (by omega), if_neg (by omega), if_neg (by omega)]; exact h4 j j0 (by omega)
      · rw [upI_same, h5, sumI_s' _ i0]
    refine Ok.seg mdX6_quicken [91, 125, 112] 20 ?_
    simp only [wp_nil, wp_cons, ↓stp, ↓lI, ↓lL, ↓lR, ↓lIn_0, ↓lIn_1, ↓lIn_2, ↓lIn_3, ↓lLn_0, ↓lLn_1, ↓lLn_2, ↓lLn_3, ↓lRn_0, ↓lRn_1, ↓lRn_2, ↓lRn_3, ↓pI, ↓pL, ↓pR, ↓pA, ↓pN, ↓pV, ↓fp, ↓tsw, ↓oS, ↓spMax, ↓spMin, ↓spAbs, ↓spObj, RI, RLg, b2i_lo, b2i_hi, getL, setL, ltL, killL, isLong, inl, cnd, br, tgt, rcv, rpl, mputI, mputL, mputP, fv, fr, mcat, mcs, entL, entA, rfit, nf_0, nf_1, nf_2, nf_3, nf2_0, nf2_1, b2i_0, b2i_1, RI_b2i, b2i_fit, List.append, List.length, List.replicate, List.cons_append, List.nil_append, List.length_cons, List.length_nil, List.replicate_succ, List.replicate_zero, List.tail_cons, reduceIte, if_true, if_false, ite_true, ite_false, Bool.false_eq_true, true_and, and_true, and_self, false_and, and_false, or_self, or_true, true_or, or_false, false_or, not_true_eq_false, not_false_eq_true, ne_eq, forall_const, implies_true, imp_self, true_implies, false_implies, Nat.reduceAdd, Nat.reduceSub, Nat.reduceMul, Nat.reduceDiv, Nat.reduceMod, Nat.reduceEqDiff, Nat.reduceLT, Nat.reduceLeDiff, Nat.reduceBEq, Nat.add_zero, Nat.zero_add, Nat.le_refl, Nat.not_lt_zero, Nat.succ_eq_add_one, Int.reduceNatCast, Int.cast_ofNat_Int, Int.reduceSub, Int.reduceMul, Int.reduceNeg, Int.reduceLE, Int.reduceLT, Int.reduceToNat, Int.reduceEq, Int.reduceNe, Int.reduceAdd, Option.some.injEq, kX6_quicken, rmX6_quicken, ↓ofX6_15, ↓ofX6_18, ↓ofX6_25, ↓ofX6_31, ↓ofX6_35, ↓ofX6_51, ↓ofX6_54, ↓ofX6_9, ↓ocX6_quicken_40, ↓spX3_limitOn, ↓ocX6_quicken_46, ↓ocX6_quicken_21, ↓spX6_changesAt, ↓ocX6_quicken_57, ↓spX3_timeAt, hp, hg, g0, g1, g2, p0, p1, e3, e36, G_1, G_2, G_3, G_4, G_35, G_36, G_37, G_38, G_39, G_40, G_41, G_42, G_43, G_44, G_45, G_46, G_47, G_48, G_49, G_140, G_141, G_142, G_143, G_144, G_145, G_146, G_178, G_179, G_180, G_181, G_182, G_183, G_184, G_189, G_198, G_207, PF_1_0, PF_1_1, PF_1_2, PF_1_3, PF_2_0, PF_2_1, PF_2_3, PF_2_4, PF_2_5, PF_2_6, PF_2_7, PF_2_8, PF_2_9, PF_2_10, PF_2_11, PF_3_0, PF_35_0, PF_35_1, PF_35_2, PF_35_3, PF_40_0, PF_40_1, PF_40_2, PF_44_0, PF_44_1, PF_44_2, PF_145_0, PF_145_1, PF_179_0, PF_179_1, PF_179_2, PF_179_3, PF_179_8, PF_179_9, PF_179_10]
    refine ⟨by omega, by omega, fun _ => by omega, fun _ => ⟨by omega, fun q => ?_, fun q => ?_⟩⟩
    · have hq1 := qp_rng (n := I 3 1) (wlim_rng I w (I 36 0)) (fun p p0 p1 => rch_rng hok p1) hn.2.2.1 hn.2.2.2.2.1 (i := i - 1) (by omega) (by omega)
      have e1 := h2 (i - 1) (by omega) (by omega)
      have hq2 : 1 ≤ wqp I w (i - 1) ∧ wqp I w (i - 1) ≤ 60 := hq1
      have e2 := hr (wqp I w (i - 1)) hq2.1 hq2.2
      have e4 := rch_rng hok hq2.2
      refine Ok.seg mdX6_quicken [91, 125] 20 ?_
      simp only [wp_nil, wp_cons, ↓stp, ↓lI, ↓lL, ↓lR, ↓lIn_0, ↓lIn_1, ↓lIn_2, ↓lIn_3, ↓lLn_0, ↓lLn_1, ↓lLn_2, ↓lLn_3, ↓lRn_0, ↓lRn_1, ↓lRn_2, ↓lRn_3, ↓pI, ↓pL, ↓pR, ↓pA, ↓pN, ↓pV, ↓fp, ↓tsw, ↓oS, ↓spMax, ↓spMin, ↓spAbs, ↓spObj, RI, RLg, b2i_lo, b2i_hi, getL, setL, ltL, killL, isLong, inl, cnd, br, tgt, rcv, rpl, mputI, mputL, mputP, fv, fr, mcat, mcs, entL, entA, rfit, nf_0, nf_1, nf_2, nf_3, nf2_0, nf2_1, b2i_0, b2i_1, RI_b2i, b2i_fit, List.append, List.length, List.replicate, List.cons_append, List.nil_append, List.length_cons, List.length_nil, List.replicate_succ, List.replicate_zero, List.tail_cons, reduceIte, if_true, if_false, ite_true, ite_false, Bool.false_eq_true, true_and, and_true, and_self, false_and, and_false, or_self, or_true, true_or, or_false, false_or, not_true_eq_false, not_false_eq_true, ne_eq, forall_const, implies_true, imp_self, true_implies, false_implies, Nat.reduceAdd, Nat.reduceSub, Nat.reduceMul, Nat.reduceDiv, Nat.reduceMod, Nat.reduceEqDiff, Nat.reduceLT, Nat.reduceLeDiff, Nat.reduceBEq, Nat.add_zero, Nat.zero_add, Nat.le_refl, Nat.not_lt_zero, Nat.succ_eq_add_one, Int.reduceNatCast, Int.cast_ofNat_Int, Int.reduceSub, Int.reduceMul, Int.reduceNeg, Int.reduceLE, Int.reduceLT, Int.reduceToNat, Int.reduceEq, Int.reduceNe, Int.reduceAdd, Option.some.injEq, kX6_quicken, rmX6_quicken, ↓ofX6_15, ↓ofX6_18, ↓ofX6_25, ↓ofX6_31, ↓ofX6_35, ↓ofX6_51, ↓ofX6_54, ↓ofX6_9, ↓ocX6_quicken_40, ↓spX3_limitOn, ↓ocX6_quicken_46, ↓ocX6_quicken_21, ↓spX6_changesAt, ↓ocX6_quicken_57, ↓spX3_timeAt, g0, g2, p1, e37, e1, e2, G_1, G_2, G_3, G_4, G_35, G_36, G_37, G_38, G_39, G_40, G_41, G_42, G_43, G_44, G_45, G_46, G_47, G_48, G_49, G_140, G_141, G_142, G_143, G_144, G_145, G_146, G_178, G_179, G_180, G_181, G_182, G_183, G_184, G_189, G_198, G_207, PF_1_0, PF_1_1, PF_1_2, PF_1_3, PF_2_0, PF_2_1, PF_2_3, PF_2_4, PF_2_5, PF_2_6, PF_2_7, PF_2_8, PF_2_9, PF_2_10, PF_2_11, PF_3_0, PF_35_0, PF_35_1, PF_35_2, PF_35_3, PF_40_0, PF_40_1, PF_40_2, PF_44_0, PF_44_1, PF_44_2, PF_145_0, PF_145_1, PF_179_0, PF_179_1, PF_179_2, PF_179_3, PF_179_8, PF_179_9, PF_179_10]
      refine ⟨by omega, by omega, by omega, by omega, mid _ (by omega) (by omega) ?_⟩
      exact qp_step (by omega)
    · have q : i = 0 := by omega
      refine mid _ (by omega) (by omega) ?_
      subst q
      exact qp_0

set_option maxRecDepth 100000 in
set_option maxHeartbeats 800000 in
theorem mX6_quicken : MOK yX6_quicken cX6_quicken 5 none rmX6_quicken ciX6_quicken := by
  refine mok_of (ini := false) (by decide +kernel) (by decide) rfl rfl ?_
  intro σ As K hrc hl h
  obtain ⟨N, P, I, L⟩ := σ
  have h9 := pR_iff.mp h
  clear h
  obtain ⟨w, r, e9, h⟩ := h9
  subst e9
  have h9 := pR_iff.mp h
  clear h
  obtain ⟨t, r, e9, h⟩ := h9
  subst e9
  have h9 := pR_iff.mp h
  clear h
  obtain ⟨c, r, e9, h⟩ := h9
  subst e9
  have h9 := pN_iff.mp h
  clear h
  obtain ⟨e9, h⟩ := h9
  subst e9
  dsimp only at h
  obtain ⟨hw, rfl, rfl, rfl, ht, hc, hl, h⟩ := h
  have ht2 := ht
  obtain ⟨s0, s1, hs⟩ := ht2
  obtain ⟨m, hm⟩ : ∃ m : Nat, I 3 1 = (m : Int) := ⟨(I 3 1).toNat, by omega⟩
  refine ⟨Nat.le_of_ble_eq_true rfl, Ok.seg mdX6_quicken [7, 84] 12 ?_⟩
  simp only [wp_nil, wp_cons, ↓stp, ↓lI, ↓lL, ↓lR, ↓lIn_0, ↓lIn_1, ↓lIn_2, ↓lIn_3, ↓lLn_0, ↓lLn_1, ↓lLn_2, ↓lLn_3, ↓lRn_0, ↓lRn_1, ↓lRn_2, ↓lRn_3, ↓pI, ↓pL, ↓pR, ↓pA, ↓pN, ↓pV, ↓fp, ↓tsw, ↓oS, ↓spMax, ↓spMin, ↓spAbs, ↓spObj, RI, RLg, b2i_lo, b2i_hi, getL, setL, ltL, killL, isLong, inl, cnd, br, tgt, rcv, rpl, mputI, mputL, mputP, fv, fr, mcat, mcs, entL, entA, rfit, nf_0, nf_1, nf_2, nf_3, nf2_0, nf2_1, b2i_0, b2i_1, RI_b2i, b2i_fit, List.append, List.length, List.replicate, List.cons_append, List.nil_append, List.length_cons, List.length_nil, List.replicate_succ, List.replicate_zero, List.tail_cons, reduceIte, if_true, if_false, ite_true, ite_false, Bool.false_eq_true, true_and, and_true, and_self, false_and, and_false, or_self, or_true, true_or, or_false, false_or, not_true_eq_false, not_false_eq_true, ne_eq, forall_const, implies_true, imp_self, true_implies, false_implies, Nat.reduceAdd, Nat.reduceSub, Nat.reduceMul, Nat.reduceDiv, Nat.reduceMod, Nat.reduceEqDiff, Nat.reduceLT, Nat.reduceLeDiff, Nat.reduceBEq, Nat.add_zero, Nat.zero_add, Nat.le_refl, Nat.not_lt_zero, Nat.succ_eq_add_one, Int.reduceNatCast, Int.cast_ofNat_Int, Int.reduceSub, Int.reduceMul, Int.reduceNeg, Int.reduceLE, Int.reduceLT, Int.reduceToNat, Int.reduceEq, Int.reduceNe, Int.reduceAdd, Option.some.injEq, kX6_quicken, rmX6_quicken, ↓ofX6_15, ↓ofX6_18, ↓ofX6_25, ↓ofX6_31, ↓ofX6_35, ↓ofX6_51, ↓ofX6_54, ↓ofX6_9, ↓ocX6_quicken_40, ↓spX3_limitOn, ↓ocX6_quicken_46, ↓ocX6_quicken_21, ↓spX6_changesAt, ↓ocX6_quicken_57, ↓spX3_timeAt, G_1, G_2, G_3, G_4, G_35, G_36, G_37, G_38, G_39, G_40, G_41, G_42, G_43, G_44, G_45, G_46, G_47, G_48, G_49, G_140, G_141, G_142, G_143, G_144, G_145, G_146, G_178, G_179, G_180, G_181, G_182, G_183, G_184, G_189, G_198, G_207, PF_1_0, PF_1_1, PF_1_2, PF_1_3, PF_2_0, PF_2_1, PF_2_3, PF_2_4, PF_2_5, PF_2_6, PF_2_7, PF_2_8, PF_2_9, PF_2_10, PF_2_11, PF_3_0, PF_35_0, PF_35_1, PF_35_2, PF_35_3, PF_40_0, PF_40_1, PF_40_2, PF_44_0, PF_44_1, PF_44_2, PF_145_0, PF_145_1, PF_179_0, PF_179_1, PF_179_2, PF_179_3, PF_179_8, PF_179_9, PF_179_10]
  obtain ⟨g0, g1, g2, g3, p0, p1, p2⟩ := wP_of hw
  rw [show I 3 1 - 1 = (m : Int) - 1 by rw [hm]]
  refine lpX6_qb hw ht hc hl (fun I1 h1 h2 => ?_) m I (by omega) (fun _ _ _ => rfl) (fun j j0 j1 => by omega)
  refine Ok.seg mdX6_quicken [91] 12 ?_
  simp only [wp_nil, wp_cons, ↓stp, ↓lI, ↓lL, ↓lR, ↓lIn_0, ↓lIn_1, ↓lIn_2, ↓lIn_3, ↓lLn_0, ↓lLn_1, ↓lLn_2, ↓lLn_3, ↓lRn_0, ↓lRn_1, ↓lRn_2, ↓lRn_3, ↓pI, ↓pL, ↓pR, ↓pA, ↓pN, ↓pV, ↓fp, ↓tsw, ↓oS, ↓spMax, ↓spMin, ↓spAbs, ↓spObj, RI, RLg, b2i_lo, b2i_hi, getL, setL, ltL, killL, isLong, inl, cnd, br, tgt, rcv, rpl, mputI, mputL, mputP, fv, fr, mcat, mcs, entL, entA, rfit, nf_0, nf_1, nf_2, nf_3, nf2_0, nf2_1, b2i_0, b2i_1, RI_b2i, b2i_fit, List.append, List.length, List.replicate, List.cons_append, List.nil_append, List.length_cons, List.length_nil, List.replicate_succ, List.replicate_zero, List.tail_cons, reduceIte, if_true, if_false, ite_true, ite_false, Bool.false_eq_true, true_and, and_true, and_self, false_and, and_false, or_self, or_true, true_or, or_false, false_or, not_true_eq_false, not_false_eq_true, ne_eq, forall_const, implies_true, imp_self, true_implies, false_implies, Nat.reduceAdd, Nat.reduceSub, Nat.reduceMul, Nat.reduceDiv, Nat.reduceMod, Nat.reduceEqDiff, Nat.reduceLT, Nat.reduceLeDiff, Nat.reduceBEq, Nat.add_zero, Nat.zero_add, Nat.le_refl, Nat.not_lt_zero, Nat.succ_eq_add_one, Int.reduceNatCast, Int.cast_ofNat_Int, Int.reduceSub, Int.reduceMul, Int.reduceNeg, Int.reduceLE, Int.reduceLT, Int.reduceToNat, Int.reduceEq, Int.reduceNe, Int.reduceAdd, Option.some.injEq, kX6_quicken, rmX6_quicken, ↓ofX6_15, ↓ofX6_18, ↓ofX6_25, ↓ofX6_31, ↓ofX6_35, ↓ofX6_51, ↓ofX6_54, ↓ofX6_9, ↓ocX6_quicken_40, ↓spX3_limitOn, ↓ocX6_quicken_46, ↓ocX6_quicken_21, ↓spX6_changesAt, ↓ocX6_quicken_57, ↓spX3_timeAt, g0, G_1, G_2, G_3, G_4, G_35, G_36, G_37, G_38, G_39, G_40, G_41, G_42, G_43, G_44, G_45, G_46, G_47, G_48, G_49, G_140, G_141, G_142, G_143, G_144, G_145, G_146, G_178, G_179, G_180, G_181, G_182, G_183, G_184, G_189, G_198, G_207, PF_1_0, PF_1_1, PF_1_2, PF_1_3, PF_2_0, PF_2_1, PF_2_3, PF_2_4, PF_2_5, PF_2_6, PF_2_7, PF_2_8, PF_2_9, PF_2_10, PF_2_11, PF_3_0, PF_35_0, PF_35_1, PF_35_2, PF_35_3, PF_40_0, PF_40_1, PF_40_2, PF_44_0, PF_44_1, PF_44_2, PF_145_0, PF_145_1, PF_179_0, PF_179_1, PF_179_2, PF_179_3, PF_179_8, PF_179_9, PF_179_10]
  refine lpX6_qf hw ht hc hl (fun I' z1 z2 z3 z4 => ⟨trivial, h I' z1 z2 z3 z4⟩) m 0 _ _ (by omega) (by omega) (fun b j b1 b2 b3 => ?_) (fun j j0 j1 => by omega) (fun j j0 j1 => ?_) (fun j j0 j1 => by omega) ?_
  · rw [← h1 b j b1]; exact if_neg b3
  · rw [← h2 j j0 j1]; exact if_neg (by omega)
  · exact upI_same
end
section
/-! LapBoard$Ways, 1 -/
def spX7_forget (As : List MV) (σ : MS) (K : Option MV → MS → Prop) : Prop := pR As fun a r => pN r (a = 2 ∧ σ.2.1 = PF ∧ K none (σ.1, σ.2.1, filI (upI σ.2.2.1 2 2 0) 144 (-1) 41, σ.2.2.2))
def ciX7_forget : CI := (1, 7, 0, 0, spX7_forget)
def kX7_forget (pc : Nat) : List ME := match pc with
  | 0 => [(.aload_n 0, 1, []), (.iconst 0, 1, []), (.putfield 65, 3, []), (.aload_n 0, 1, []), (.getfield 56, 3, []), (.iconst (-1), 1, []), (.invokestatic 59, 3, []), (.return_, 1, [])]
  | _ => []
theorem qX7_forget : ∀ pc, chk cX7_forget pc (kX7_forget pc) = true := by
  intro pc
  unfold kX7_forget
  split <;> first | decide +kernel | exact chk_nil
abbrev rmX7_forget : Room := { frames := 1, cells := 0, slots := 0, locals := 23 }
def aX7_forget (x : Nat) : Option CI := match x with
  | 59 => some ciJ7_fill_53178
  | _ => none
theorem aokX7_forget : ∀ x ci, aX7_forget x = some ci → CalOK RX7 rmX7_forget x ci := by
  intro x ci h
  unfold aX7_forget at h
  split at h
  · cases h; exact cal_S mJ7_fill_53178 rfl (List.forall_mem_cons.mpr ⟨(ws_mem (List.mem_of_getElem? (i := 208) (by decide +kernel)) (by decide +kernel)), List.forall_mem_cons.mpr ⟨(ws_mem (List.mem_of_getElem? (i := 209) (by decide +kernel)) (by decide +kernel)), List.forall_mem_cons.mpr ⟨(ws_mem (List.mem_of_getElem? (i := 60) (by decide +kernel)) (by decide +kernel)), List.forall_mem_cons.mpr ⟨(ws_mem (List.mem_of_getElem? (i := 210) (by decide +kernel)) (by decide +kernel)), fun _ h => absurd h List.not_mem_nil⟩⟩⟩⟩) rfl (by unfold nice; decide +kernel) (by unfold rfits; decide) ⟨rfl, rfl⟩
  · cases h
theorem ocX7_forget_59 (f : Nat → Nat → Nat → Nat → (List MV → MS → (Option MV → MS → Prop) → Prop) → Prop) : oC aX7_forget 59 f = f 2 10 0 0 spJ7_fill_53178 := propext Iff.rfl
theorem mdX7_forget : MD RX7 cX7_forget rmX7_forget kX7_forget fX7 aX7_forget zX7 uX7 := ⟨fokX7, zokX7, uokX7, aokX7_forget, qX7_forget⟩
set_option maxRecDepth 100000 in
set_option maxHeartbeats 800000 in
theorem mX7_forget : MOK yX7_forget cX7_forget 1 none rmX7_forget ciX7_forget := by
  refine mok_of (ini := false) (by decide +kernel) (by decide) rfl rfl ?_
  intro σ As K hrc hl h
  obtain ⟨N, P, I, L⟩ := σ
  have h9 := pR_iff.mp h
  clear h
  obtain ⟨a, r, e9, h⟩ := h9
  subst e9
  have h9 := pN_iff.mp h
  clear h
  obtain ⟨e9, h⟩ := h9
  subst e9
  dsimp only at h
  obtain ⟨rfl, rfl, h⟩ := h
  refine ⟨Nat.le_of_ble_eq_true rfl, Ok.seg mdX7_forget [] 20 ?_⟩
  simp only [wp_nil, wp_cons, ↓stp, ↓lI, ↓lL, ↓lR, ↓lIn_0, ↓lIn_1, ↓lIn_2, ↓lIn_3, ↓lLn_0, ↓lLn_1, ↓lLn_2, ↓lLn_3, ↓lRn_0, ↓lRn_1, ↓lRn_2, ↓lRn_3, ↓pI, ↓pL, ↓pR, ↓pA, ↓pN, ↓pV, ↓fp, ↓tsw, ↓oS, ↓spMax, ↓spMin, ↓spAbs, ↓spObj, RI, RLg, b2i_lo, b2i_hi, getL, setL, ltL, killL, isLong, inl, cnd, br, tgt, rcv, rpl, mputI, mputL, mputP, fv, fr, mcat, mcs, entL, entA, rfit, nf_0, nf_1, nf_2, nf_3, nf2_0, nf2_1, b2i_0, b2i_1, RI_b2i, b2i_fit, List.append, List.length, List.replicate, List.cons_append, List.nil_append, List.length_cons, List.length_nil, List.replicate_succ, List.replicate_zero, List.tail_cons, reduceIte, if_true, if_false, ite_true, ite_false, Bool.false_eq_true, true_and, and_true, and_self, false_and, and_false, or_self, or_true, true_or, or_false, false_or, not_true_eq_false, not_false_eq_true, ne_eq, forall_const, implies_true, imp_self, true_implies, false_implies, Nat.reduceAdd, Nat.reduceSub, Nat.reduceMul, Nat.reduceDiv, Nat.reduceMod, Nat.reduceEqDiff, Nat.reduceLT, Nat.reduceLeDiff, Nat.reduceBEq, Nat.add_zero, Nat.zero_add, Nat.le_refl, Nat.not_lt_zero, Nat.succ_eq_add_one, Int.reduceNatCast, Int.cast_ofNat_Int, Int.reduceSub, Int.reduceMul, Int.reduceNeg, Int.reduceLE, Int.reduceLT, Int.reduceToNat, Int.reduceEq, Int.reduceNe, Int.reduceAdd, Option.some.injEq, kX7_forget, rmX7_forget, ↓ofX7_56, ↓ofX7_65, ↓ocX7_forget_59, ↓spJ7_fill_53178, G_1, G_2, G_3, G_4, G_35, G_36, G_37, G_38, G_39, G_40, G_41, G_42, G_43, G_44, G_45, G_46, G_47, G_48, G_49, G_140, G_141, G_142, G_143, G_144, G_145, G_146, G_178, G_179, G_180, G_181, G_182, G_183, G_184, G_189, G_198, G_207, PF_1_0, PF_1_1, PF_1_2, PF_1_3, PF_2_0, PF_2_1, PF_2_3, PF_2_4, PF_2_5, PF_2_6, PF_2_7, PF_2_8, PF_2_9, PF_2_10, PF_2_11, PF_3_0, PF_35_0, PF_35_1, PF_35_2, PF_35_3, PF_40_0, PF_40_1, PF_40_2, PF_44_0, PF_44_1, PF_44_2, PF_145_0, PF_145_1, PF_179_0, PF_179_1, PF_179_2, PF_179_3, PF_179_8, PF_179_9, PF_179_10]
  exact h
def spX7_stayOn (As : List MV) (σ : MS) (K : Option MV → MS → Prop) : Prop := pR As fun a r => pI r fun l r => pN r (a = 2 ∧ σ.2.1 = PF ∧ 0 ≤ l ∧ l ≤ 2 ∧ tOK σ.2.2.1 ∧ carOK σ.2.2.1 ∧
  ∀ I' : Int → Int → Int, (∀ b j, (b < 44 ∨ 47 < b) → I' b j = σ.2.2.1 b j) → (∀ i, 0 ≤ i → i < 30 → I' 45 i = l) → (∀ i, 0 ≤ i → i < σ.2.2.1 3 1 → I' 46 i = wqp I' 44 i ∧ I' 47 i = wtm I' 44 i) → I' 44 3 = sumI (wtm I' 44) (σ.2.2.1 3 1).toNat → K (some (.inr (.inr (some 44)))) (σ.1, σ.2.1, I', σ.2.2.2))
def ciX7_stayOn : CI := (2, 7, 0, 0, spX7_stayOn)
def kX7_stayOn (pc : Nat) : List ME := match pc with
  | 0 => [(.aload_n 0, 1, []), (.getfield 32, 3, []), (.getfield 69, 3, []), (.iload_n 1, 1, []), (.invokestatic 59, 3, []), (.aload_n 0, 1, []), (.getfield 32, 3, []), (.aload_n 0, 1, []), (.getfield 12, 3, []), (.aload_n 0, 1, []), (.getfield 21, 3, []), (.invokevirtual 72, 3, []), (.aload_n 0, 1, []), (.getfield 32, 3, []), (.areturn, 1, [])]
  | _ => []
theorem qX7_stayOn : ∀ pc, chk cX7_stayOn pc (kX7_stayOn pc) = true := by
  intro pc
  unfold kX7_stayOn
  split <;> first | decide +kernel | exact chk_nil
abbrev rmX7_stayOn : Room := { frames := 3, cells := 0, slots := 0, locals := 68 }
def aX7_stayOn (x : Nat) : Option CI := match x with
  | 59 => some ciJ7_fill_53178
  | 72 => some ciX6_quicken
  | _ => none
theorem aokX7_stayOn : ∀ x ci, aX7_stayOn x = some ci → CalOK RX7 rmX7_stayOn x ci := by
  intro x ci h
  unfold aX7_stayOn at h
  split at h
  · cases h; exact cal_S mJ7_fill_53178 rfl (List.forall_mem_cons.mpr ⟨(ws_mem (List.mem_of_getElem? (i := 208) (by decide +kernel)) (by decide +kernel)), List.forall_mem_cons.mpr ⟨(ws_mem (List.mem_of_getElem? (i := 209) (by decide +kernel)) (by decide +kernel)), List.forall_mem_cons.mpr ⟨(ws_mem (List.mem_of_getElem? (i := 60) (by decide +kernel)) (by decide +kernel)), List.forall_mem_cons.mpr ⟨(ws_mem (List.mem_of_getElem? (i := 210) (by decide +kernel)) (by decide +kernel)), fun _ h => absurd h List.not_mem_nil⟩⟩⟩⟩) rfl (by unfold nice; decide +kernel) (by unfold rfits; decide) ⟨rfl, rfl⟩
  · cases h; exact cal_V mX6_quicken (by decide) rfl (List.forall_mem_cons.mpr ⟨(ws_mem (List.mem_of_getElem? (i := 448) (by decide +kernel)) (by decide +kernel)), List.forall_mem_cons.mpr ⟨(ws_mem (List.mem_of_getElem? (i := 449) (by decide +kernel)) (by decide +kernel)), List.forall_mem_cons.mpr ⟨(ws_mem (List.mem_of_getElem? (i := 450) (by decide +kernel)) (by decide +kernel)), List.forall_mem_cons.mpr ⟨(ws_mem (List.mem_of_getElem? (i := 59) (by decide +kernel)) (by decide +kernel)), List.forall_mem_cons.mpr ⟨(ws_mem (List.mem_of_getElem? (i := 451) (by decide +kernel)) (by decide +kernel)), fun _ h => absurd h List.not_mem_nil⟩⟩⟩⟩⟩) rfl (by unfold nice; decide +kernel) (by unfold rfits; decide) ⟨rfl, rfl⟩
  · cases h
theorem ocX7_stayOn_59 (f : Nat → Nat → Nat → Nat → (List MV → MS → (Option MV → MS → Prop) → Prop) → Prop) : oC aX7_stayOn 59 f = f 2 10 0 0 spJ7_fill_53178 := propext Iff.rfl
theorem ocX7_stayOn_72 (f : Nat → Nat → Nat → Nat → (List MV → MS → (Option MV → MS → Prop) → Prop) → Prop) : oC aX7_stayOn 72 f = f 3 6 0 0 spX6_quicken := propext Iff.rfl
theorem mdX7_stayOn : MD RX7 cX7_stayOn rmX7_stayOn kX7_stayOn fX7 aX7_stayOn zX7 uX7 := ⟨fokX7, zokX7, uokX7, aokX7_stayOn, qX7_stayOn⟩
theorem wqp_cg {I J : Int → Int → Int} {w : Int} (h0 : ∀ b j, b < 40 → J b j = I b j) (h1 : ∀ j, J (w + 1) j = I (w + 1) j) (hn : 0 ≤ I 3 1 ∧ I 3 1 ≤ 30) : ∀ i, 0 ≤ i → i < I 3 1 → wqp J w i = wqp I w i := fun i i0 i1 => by
  have e36 : J 36 = I 36 := funext fun j => h0 _ j (by omega)
  have e38 : J 38 = I 38 := funext fun j => h0 _ j (by omega)
  have e39 : J 39 = I 39 := funext fun j => h0 _ j (by omega)
  have e3 : J 3 = I 3 := funext fun j => h0 _ j (by omega)
  have el : ∀ g i, i < I 3 1 → wlim J w g i = wlim I w g i := fun g i hi => by
    unfold wlim
    rw [h0 _ 0 (by omega), h0 _ 2 (by omega), h0 _ 3 (by omega), h1]
  unfold wqp
  rw [e36, e38, e39, e3]
  have eb : ∀ m : Nat, (m : Int) < I 3 1 → bqv (wlim J w (I 36 0)) (I 36 1) (I 3 1) m = bqv (wlim I w (I 36 0)) (I 36 1) (I 3 1) m := fun m => by
    induction m with
    | zero => intro _; exact el _ _ (by omega)
    | succ m ih =>
      intro h
      unfold bqv
      rw [ih (by omega), el _ _ (by omega)]
  have ebq : ∀ j, 0 ≤ j → j < I 3 1 → bq (wlim J w (I 36 0)) (I 36 1) (I 3 1) j = bq (wlim I w (I 36 0)) (I 36 1) (I 3 1) j := fun j j0 j1 => eb _ (by omega)
  unfold qp
  have : ∀ m : Nat, (m : Int) < I 3 1 → fqv (bq (wlim J w (I 36 0)) (I 36 1) (I 3 1)) (rch (I 38) (I 39)) (I 36 2) m = fqv (bq (wlim I w (I 36 0)) (I 36 1) (I 3 1)) (rch (I 38) (I 39)) (I 36 2) m := fun m => by
    induction m with
    | zero => intro _; unfold fqv; rw [ebq 0 (by omega) (by omega)]
    | succ m ih =>
      intro h
      unfold fqv
      rw [ih (by omega), ebq _ (by omega) (by omega)]
  exact this _ (by omega)
theorem wtm_cg {I J : Int → Int → Int} {w : Int} (h0 : ∀ b j, b < 40 → J b j = I b j) (h1 : ∀ j, J (w + 1) j = I (w + 1) j) (hn : 0 ≤ I 3 1 ∧ I 3 1 ≤ 30) : ∀ i, 0 ≤ i → i < I 3 1 → wtm J w i = wtm I w i := fun i i0 i1 => by
  unfold wtm
  rw [wqp_cg h0 h1 hn i i0 i1, chgI_cg h1, h0 _ 1 (by omega)]
theorem tOK_cg {I J : Int → Int → Int} (h0 : ∀ b j, b < 40 → J b j = I b j) (h : tOK I) : tOK J := by
  unfold tOK at h ⊢
  rw [h0 3 1 (by omega)]
  exact ⟨h.1, h.2.1, fun i i0 i1 => stOK_cg (fun j => h0 _ j (by omega)) (h.2.2 i i0 i1)⟩
theorem carOK_cg {I J : Int → Int → Int} (h0 : ∀ b j, b < 40 → J b j = I b j) (h : carOK I) : carOK J := by
  unfold carOK nOK at h ⊢
  rw [show J 36 = I 36 from funext fun j => h0 _ j (by omega), show J 37 = I 37 from funext fun j => h0 _ j (by omega), show J 38 = I 38 from funext fun j => h0 _ j (by omega), show J 39 = I 39 from funext fun j => h0 _ j (by omega)]
  exact h
set_option maxRecDepth 100000 in
set_option maxHeartbeats 800000 in
theorem mX7_stayOn : MOK yX7_stayOn cX7_stayOn 2 (some (.object "LapBoard$Way")) rmX7_stayOn ciX7_stayOn := by
  refine mok_of (ini := false) (by decide +kernel) (by decide) rfl rfl ?_
  intro σ As K hrc hl h
  obtain ⟨N, P, I, L⟩ := σ
  have h9 := pR_iff.mp h
  clear h
  obtain ⟨a, r, e9, h⟩ := h9
  subst e9
  have h9 := pI_iff.mp h
  clear h
  obtain ⟨l, r, e9, h⟩ := h9
  subst e9
  have h9 := pN_iff.mp h
  clear h
  obtain ⟨e9, h⟩ := h9
  subst e9
  dsimp only at h
  obtain ⟨rfl, rfl, l0, l1, ht, hc, h⟩ := h
  have hI : ∀ b j, b ≠ 45 → filI I 45 l 30 b j = I b j := fun b j hb => if_neg (fun z => hb z.1)
  have h45 : ∀ i, 0 ≤ i → i < 30 → filI I 45 l 30 45 i = l := fun i i0 i1 => if_pos ⟨rfl, i0, i1⟩
  have e3 : filI I 45 l 30 3 1 = I 3 1 := hI _ _ (by omega)
  have ht2 := tOK_cg (J := filI I 45 l 30) (fun b j hb => hI b j (by omega)) ht
  have hc2 := carOK_cg (J := filI I 45 l 30) (fun b j hb => hI b j (by omega)) hc
  have hl2 : laneOK (filI I 45 l 30) 44 (I 3 1) := fun i i0 i1 => by
    have := ht.2.1
    rw [show (44 : Int) + 1 = 45 by rfl, h45 i i0 (by omega)]; omega
  refine ⟨Nat.le_of_ble_eq_true rfl, Ok.seg mdX7_stayOn [] 20 ?_⟩
  simp only [wp_nil, wp_cons, ↓stp, ↓lI, ↓lL, ↓lR, ↓lIn_0, ↓lIn_1, ↓lIn_2, ↓lIn_3, ↓lLn_0, ↓lLn_1, ↓lLn_2, ↓lLn_3, ↓lRn_0, ↓lRn_1, ↓lRn_2, ↓lRn_3, ↓pI, ↓pL, ↓pR, ↓pA, ↓pN, ↓pV, ↓fp, ↓tsw, ↓oS, ↓spMax, ↓spMin, ↓spAbs, ↓spObj, RI, RLg, b2i_lo, b2i_hi, getL, setL, ltL, killL, isLong, inl, cnd, br, tgt, rcv, rpl, mputI, mputL, mputP, fv, fr, mcat, mcs, entL, entA, rfit, nf_0, nf_1, nf_2, nf_3, nf2_0, nf2_1, b2i_0, b2i_1, RI_b2i, b2i_fit, List.append, List.length, List.replicate, List.cons_append, List.nil_append, List.length_cons, List.length_nil, List.replicate_succ, List.replicate_zero, List.tail_cons, reduceIte, if_true, if_false, ite_true, ite_false, Bool.false_eq_true, true_and, and_true, and_self, false_and, and_false, or_self, or_true, true_or, or_false, false_or, not_true_eq_false, not_false_eq_true, ne_eq, forall_const, implies_true, imp_self, true_implies, false_implies, Nat.reduceAdd, Nat.reduceSub, Nat.reduceMul, Nat.reduceDiv, Nat.reduceMod, Nat.reduceEqDiff, Nat.reduceLT, Nat.reduceLeDiff, Nat.reduceBEq, Nat.add_zero, Nat.zero_add, Nat.le_refl, Nat.not_lt_zero, Nat.succ_eq_add_one, Int.reduceNatCast, Int.cast_ofNat_Int, Int.reduceSub, Int.reduceMul, Int.reduceNeg, Int.reduceLE, Int.reduceLT, Int.reduceToNat, Int.reduceEq, Int.reduceNe, Int.reduceAdd, Option.some.injEq, kX7_stayOn, rmX7_stayOn, ↓ofX7_12, ↓ofX7_21, ↓ofX7_32, ↓ofX7_69, ↓ocX7_stayOn_59, ↓spJ7_fill_53178, ↓ocX7_stayOn_72, ↓spX6_quicken, ht2, hc2, hl2, e3, G_1, G_2, G_3, G_4, G_35, G_36, G_37, G_38, G_39, G_40, G_41, G_42, G_43, G_44, G_45, G_46, G_47, G_48, G_49, G_140, G_141, G_142, G_143, G_144, G_145, G_146, G_178, G_179, G_180, G_181, G_182, G_183, G_184, G_189, G_198, G_207, PF_1_0, PF_1_1, PF_1_2, PF_1_3, PF_2_0, PF_2_1, PF_2_3, PF_2_4, PF_2_5, PF_2_6, PF_2_7, PF_2_8, PF_2_9, PF_2_10, PF_2_11, PF_3_0, PF_35_0, PF_35_1, PF_35_2, PF_35_3, PF_40_0, PF_40_1, PF_40_2, PF_44_0, PF_44_1, PF_44_2, PF_145_0, PF_145_1, PF_179_0, PF_179_1, PF_179_2, PF_179_3, PF_179_8, PF_179_9, PF_179_10]
  intro I' h1 h2 h3 h4
  have c0 : ∀ b j, b < 40 → I' b j = filI I 45 l 30 b j := fun b j hb => h1 b j (by omega) (by omega) (by omega)
  have c1 : ∀ j, I' (44 + 1) j = filI I 45 l 30 (44 + 1) j := fun j => h1 _ j (by omega) (by omega) (by omega)
  have hn : 0 ≤ filI I 45 l 30 3 1 ∧ filI I 45 l 30 3 1 ≤ 30 := ⟨ht2.1, ht2.2.1⟩
  refine h I' (fun b j hb => by rw [h1 b j (by omega) (by omega) (by omega), hI b j (by omega)]) (fun i i0 i1 => by rw [show (45 : Int) = 44 + 1 by rfl, c1]; exact h45 i i0 i1) (fun i i0 i1 => ?_) ?_
  · rw [wqp_cg c0 c1 hn i i0 (by omega), wtm_cg c0 c1 hn i i0 (by omega)]
    exact ⟨h2 i i0 i1, h3 i i0 i1⟩
  · rw [h4]
    exact sumI_congr _ (fun i i0 i1 => (wtm_cg c0 c1 hn i i0 (by omega)).symm)
/-- the limits at a station, by lane and grip -/
def lmv (I : Int → Int → Int) (g i l : Int) : Int := lim (I (5 + i) 0) (I (5 + i) 2) (I (5 + i) 3) l g
def spX7_fillLimits (As : List MV) (σ : MS) (K : Option MV → MS → Prop) : Prop := pR As fun a r => pI r fun i r => pI r fun g r => pN r (a = 2 ∧ σ.2.1 = PF ∧ 0 ≤ i ∧ i < 30 ∧ stOK σ.2.2.1 (5 + i) ∧ -100 ≤ g ∧ g ≤ 100 ∧
  ∀ I' : Int → Int → Int, (∀ b j, ¬ (b = 48 ∧ 3 * i ≤ j ∧ j ≤ 3 * i + 2) → I' b j = σ.2.2.1 b j) → (∀ l, 0 ≤ l → l ≤ 2 → I' 48 (3 * i + l) = lmv σ.2.2.1 g i l) → K none (σ.1, σ.2.1, I', σ.2.2.2))
def ciX7_fillLimits : CI := (3, 7, 0, 0, spX7_fillLimits)
def kX7_fillLimits (pc : Nat) : List ME := match pc with
  | 0 => [(.iconst 0, 1, []), (.istore_n 3, 1, [])]
  | 2 => [(.iload_n 3, 1, []), (.iconst 3, 1, []), (.if_icmp .ge 33, 3, [37]), (.aload_n 0, 1, []), (.getfield 35, 3, []), (.iconst 3, 1, []), (.iload_n 1, 1, []), (.imul, 1, []), (.iload_n 3, 1, []), (.iadd, 1, []), (.aload_n 0, 1, []), (.getfield 12, 3, []), (.getfield 87, 3, []), (.iload_n 1, 1, []), (.aaload, 1, []), (.iload_n 3, 1, []), (.iload_n 2, 1, []), (.invokevirtual 130, 3, []), (.iastore, 1, []), (.iinc 3 1, 3, []), (.goto (-32), 3, [2])]
  | 37 => [(.return_, 1, [])]
  | _ => []
theorem qX7_fillLimits : ∀ pc, chk cX7_fillLimits pc (kX7_fillLimits pc) = true := by
  intro pc
  unfold kX7_fillLimits
  split <;> first | decide +kernel | exact chk_nil
abbrev rmX7_fillLimits : Room := { frames := 2, cells := 0, slots := 0, locals := 44 }
def aX7_fillLimits (x : Nat) : Option CI := match x with
  | 130 => some ciX3_limitOn
  | _ => none
theorem aokX7_fillLimits : ∀ x ci, aX7_fillLimits x = some ci → CalOK RX7 rmX7_fillLimits x ci := by
  intro x ci h
  unfold aX7_fillLimits at h
  split at h
  · cases h; exact cal_V mX3_limitOn (by decide) rfl (List.forall_mem_cons.mpr ⟨(ws_mem (List.mem_of_getElem? (i := 478) (by decide +kernel)) (by decide +kernel)), List.forall_mem_cons.mpr ⟨(ws_mem (List.mem_of_getElem? (i := 416) (by decide +kernel)) (by decide +kernel)), List.forall_mem_cons.mpr ⟨(ws_mem (List.mem_of_getElem? (i := 417) (by decide +kernel)) (by decide +kernel)), List.forall_mem_cons.mpr ⟨(ws_mem (List.mem_of_getElem? (i := 56) (by decide +kernel)) (by decide +kernel)), List.forall_mem_cons.mpr ⟨(ws_mem (List.mem_of_getElem? (i := 418) (by decide +kernel)) (by decide +kernel)), fun _ h => absurd h List.not_mem_nil⟩⟩⟩⟩⟩) rfl (by unfold nice; decide +kernel) (by unfold rfits; decide) ⟨rfl, rfl⟩
  · cases h
theorem ocX7_fillLimits_130 (f : Nat → Nat → Nat → Nat → (List MV → MS → (Option MV → MS → Prop) → Prop) → Prop) : oC aX7_fillLimits 130 f = f 3 3 0 0 spX3_limitOn := propext Iff.rfl
theorem mdX7_fillLimits : MD RX7 cX7_fillLimits rmX7_fillLimits kX7_fillLimits fX7 aX7_fillLimits zX7 uX7 := ⟨fokX7, zokX7, uokX7, aokX7_fillLimits, qX7_fillLimits⟩
set_option maxRecDepth 100000 in
set_option maxHeartbeats 800000 in
theorem mX7_fillLimits : MOK yX7_fillLimits cX7_fillLimits 4 none rmX7_fillLimits ciX7_fillLimits := by
  refine mok_of (ini := false) (by decide +kernel) (by decide) rfl rfl ?_
  intro σ As K hrc hl h
  obtain ⟨N, P, I, L⟩ := σ
  have h9 := pR_iff.mp h
  clear h
  obtain ⟨a, r, e9, h⟩ := h9
  subst e9
  have h9 := pI_iff.mp h
  clear h
  obtain ⟨i, r, e9, h⟩ := h9
  subst e9
  have h9 := pI_iff.mp h
  clear h
  obtain ⟨g, r, e9, h⟩ := h9
  subst e9
  have h9 := pN_iff.mp h
  clear h
  obtain ⟨e9, h⟩ := h9
  subst e9
  dsimp only at h
  obtain ⟨rfl, rfl, i0, i1, hs, g0, g1, h⟩ := h
  have hp := PF_st i0 i1
  have hg := G_st (a := 5 + i) (by omega) (by omega)
  have n48 : 5 + i ≠ 48 := by omega
  have hs2 : ∀ j v, stOK (upI I 48 j v) (5 + i) := fun j v => stOK_cg (fun j => upI_ne n48) hs
  have hs3 : ∀ j v j' v', stOK (upI (upI I 48 j v) 48 j' v') (5 + i) := fun j v j' v' => stOK_cg (fun j => upI_ne n48) (hs2 _ _)
  refine ⟨Nat.le_of_ble_eq_true rfl, Ok.seg mdX7_fillLimits [] 74 ?_⟩
  simp only [wp_nil, wp_cons, ↓stp, ↓lI, ↓lL, ↓lR, ↓lIn_0, ↓lIn_1, ↓lIn_2, ↓lIn_3, ↓lLn_0, ↓lLn_1, ↓lLn_2, ↓lLn_3, ↓lRn_0, ↓lRn_1, ↓lRn_2, ↓lRn_3, ↓pI, ↓pL, ↓pR, ↓pA, ↓pN, ↓pV, ↓fp, ↓tsw, ↓oS, ↓spMax, ↓spMin, ↓spAbs, ↓spObj, RI, RLg, b2i_lo, b2i_hi, getL, setL, ltL, killL, isLong, inl, cnd, br, tgt, rcv, rpl, mputI, mputL, mputP, fv, fr, mcat, mcs, entL, entA, rfit, nf_0, nf_1, nf_2, nf_3, nf2_0, nf2_1, b2i_0, b2i_1, RI_b2i, b2i_fit, List.append, List.length, List.replicate, List.cons_append, List.nil_append, List.length_cons, List.length_nil, List.replicate_succ, List.replicate_zero, List.tail_cons, reduceIte, if_true, if_false, ite_true, ite_false, Bool.false_eq_true, true_and, and_true, and_self, false_and, and_false, or_self, or_true, true_or, or_false, false_or, not_true_eq_false, not_false_eq_true, ne_eq, forall_const, implies_true, imp_self, true_implies, false_implies, Nat.reduceAdd, Nat.reduceSub, Nat.reduceMul, Nat.reduceDiv, Nat.reduceMod, Nat.reduceEqDiff, Nat.reduceLT, Nat.reduceLeDiff, Nat.reduceBEq, Nat.add_zero, Nat.zero_add, Nat.le_refl, Nat.not_lt_zero, Nat.succ_eq_add_one, Int.reduceNatCast, Int.cast_ofNat_Int, Int.reduceSub, Int.reduceMul, Int.reduceNeg, Int.reduceLE, Int.reduceLT, Int.reduceToNat, Int.reduceEq, Int.reduceNe, Int.reduceAdd, Option.some.injEq, kX7_fillLimits, rmX7_fillLimits, ↓ofX7_12, ↓ofX7_35, ↓ofX7_87, ↓ocX7_fillLimits_130, ↓spX3_limitOn, hp, hg, hs, hs2, hs3, upI_ne n48, G_1, G_2, G_3, G_4, G_35, G_36, G_37, G_38, G_39, G_40, G_41, G_42, G_43, G_44, G_45, G_46, G_47, G_48, G_49, G_140, G_141, G_142, G_143, G_144, G_145, G_146, G_178, G_179, G_180, G_181, G_182, G_183, G_184, G_189, G_198, G_207, PF_1_0, PF_1_1, PF_1_2, PF_1_3, PF_2_0, PF_2_1, PF_2_3, PF_2_4, PF_2_5, PF_2_6, PF_2_7, PF_2_8, PF_2_9, PF_2_10, PF_2_11, PF_3_0, PF_35_0, PF_35_1, PF_35_2, PF_35_3, PF_40_0, PF_40_1, PF_40_2, PF_44_0, PF_44_1, PF_44_2, PF_145_0, PF_145_1, PF_179_0, PF_179_1, PF_179_2, PF_179_3, PF_179_8, PF_179_9, PF_179_10]
  refine ⟨by omega, by omega, by omega, by omega, by omega, by omega, by omega, by omega, by omega, by omega, by omega, by omega, by omega, by omega, by omega, by omega, by omega, by omega, by omega, by omega, by omega, ?_⟩
  refine h _ (fun b j hb => ?_) (fun l l0 l1 => ?_)
  · unfold upI; rw [if_neg (by omega), if_neg (by omega), if_neg (by omega)]
  · unfold upI lmv
    by_cases e2 : l = 2
    · subst e2; rw [if_pos ⟨rfl, rfl⟩]
    · rw [if_neg (by omega)]
      by_cases e1 : l = 1
      · subst e1; rw [if_pos ⟨rfl, rfl⟩]
      · have e0 : l = 0 := by omega
        subst e0; rw [if_neg (by omega), if_pos ⟨rfl, rfl⟩]
end
section
/-! the least of a set, capped; LapBoard$Ways.fillOnward -/
def dif (l l' : Int) : Int := if l' = l then 0 else 1
def nr (l l' : Int) : Prop := l - 1 ≤ l' ∧ l' ≤ l + 1 ∧ 0 ≤ l' ∧ l' ≤ 2
/-- v is the least of S, F if S has none below -/
def Lst (S : Int → Prop) (F v : Int) : Prop := (v = F ∨ S v) ∧ v ≤ F ∧ ∀ x, S x → v ≤ x
theorem Lst.add {S S' : Int → Prop} {F v w m : Int} (h : Lst S F v) (e : ∀ y, S' y ↔ S y ∨ y = w) (h1 : m ≤ v) (h2 : m ≤ w) (h3 : m = v ∨ m = w) : Lst S' F m := by
  obtain ⟨a, b, c⟩ := h
  refine ⟨?_, by omega, fun x hx => ?_⟩
  · rcases h3 with rfl | rfl
    · rcases a with a | a
      · exact .inl a
      · exact .inr ((e _).mpr (.inl a))
    · exact .inr ((e _).mpr (.inr rfl))
  · rcases (e x).mp hx with q | q
    · have := c x q; omega
    · omega
theorem Lst.cg {S S' : Int → Prop} {F v : Int} (h : Lst S F v) (e : ∀ y, S' y ↔ S y) : Lst S' F v :=
  ⟨h.1.imp id (fun q => (e _).mpr q), h.2.1, fun x hx => h.2.2 x ((e x).mp hx)⟩
theorem Lst.none {S : Int → Prop} {F : Int} (h : ∀ y, ¬ S y) : Lst S F F := ⟨.inl rfl, by omega, fun x hx => (h x hx).elim⟩
theorem Lst.uniq {S : Int → Prop} {F v w : Int} (h : Lst S F v) (h' : Lst S F w) : v = w := by
  obtain ⟨a, b, c⟩ := h
  obtain ⟨a', b', c'⟩ := h'
  rcases a with a | a <;> rcases a' with a' | a'
  · omega
  · have := c _ a'; omega
  · have := c' _ a; omega
  · have := c _ a'; have := c' _ a; omega
theorem dif_rng (l l' : Int) : dif l l' = 0 ∨ dif l l' = 1 := by unfold dif; split <;> simp
/-- what may come of going to station j from lane l at pace q, by lanes below x -/
def onS (I : Int → Int → Int) (j l x q y : Int) : Prop := ∃ l', nr l l' ∧ l' < x ∧ q ≤ I 48 (3 * j + l') ∧ y = tmv (I (5 + j) 1) (dif l l') q + I (50 + (3 * j + l')) q
def rowR (I : Int → Int → Int) (i l : Int) : Prop := ∀ q, 1 ≤ q → q ≤ 60 → 0 ≤ I (50 + (3 * i + l)) q ∧ I (50 + (3 * i + l)) q ≤ 536870912
def spX7_fillOnward (As : List MV) (σ : MS) (K : Option MV → MS → Prop) : Prop := pR As fun a r => pI r fun j r => pI r fun l r => pN r (a = 2 ∧ σ.2.1 = PF ∧ 0 ≤ j ∧ j < 30 ∧ 0 ≤ l ∧ l ≤ 2 ∧ stOK σ.2.2.1 (5 + j) ∧ (∀ l', 0 ≤ l' → l' ≤ 2 → 1 ≤ σ.2.2.1 48 (3 * j + l') ∧ σ.2.2.1 48 (3 * j + l') ≤ 60 ∧ rowR σ.2.2.1 j l') ∧
  ∀ I' : Int → Int → Int, (∀ b k, b ≠ 140 → I' b k = σ.2.2.1 b k) → (∀ q, 1 ≤ q → q ≤ 60 → Lst (onS σ.2.2.1 j l 3 q) 536870912 (I' 140 q)) → K none (σ.1, σ.2.1, I', σ.2.2.2))
def ciX7_fillOnward : CI := (3, 7, 0, 0, spX7_fillOnward)
def kX7_fillOnward (pc : Nat) : List ME := match pc with
  | 0 => [(.aload_n 0, 1, []), (.getfield 44, 3, []), (.ldc 139, 2, []), (.invokestatic 59, 3, []), (.iconst 0, 1, []), (.iload_n 2, 1, []), (.iconst 1, 1, []), (.isub, 1, []), (.invokestatic 140, 3, []), (.istore_n 3, 1, [])]
  | 17 => [(.iload_n 3, 1, []), (.iconst 3, 1, []), (.if_icmp .ge 114, 3, [133]), (.iload_n 3, 1, []), (.iload_n 2, 1, []), (.iconst 1, 1, []), (.iadd, 1, []), (.if_icmp .gt 107, 3, [133]), (.aload_n 0, 1, []), (.getfield 41, 3, []), (.iconst 3, 1, []), (.iload_n 1, 1, []), (.imul, 1, []), (.iload_n 3, 1, []), (.iadd, 1, []), (.aaload, 1, []), (.astore 4, 2, []), (.aload_n 0, 1, []), (.getfield 35, 3, []), (.iconst 3, 1, []), (.iload_n 1, 1, []), (.imul, 1, []), (.iload_n 3, 1, []), (.iadd, 1, []), (.iaload, 1, []), (.istore 5, 2, []), (.iconst 1, 1, []), (.istore 6, 2, [])]
  | 56 => [(.iload 6, 2, []), (.iload 5, 2, []), (.if_icmp .gt 67, 3, [127]), (.iload 6, 2, []), (.bipush 60, 2, []), (.if_icmp .gt 60, 3, [127]), (.aload_n 0, 1, []), (.getfield 12, 3, []), (.getfield 87, 3, []), (.iload_n 1, 1, []), (.aaload, 1, []), (.iload 6, 2, []), (.iload_n 3, 1, []), (.iload_n 2, 1, []), (.if_icmp .eq 7, 3, [90]), (.iconst 1, 1, []), (.goto 4, 3, [91])]
  | 90 => [(.iconst 0, 1, [])]
  | 91 => [(.invokevirtual 143, 3, []), (.istore 7, 2, []), (.aload_n 0, 1, []), (.getfield 44, 3, []), (.iload 6, 2, []), (.aload_n 0, 1, []), (.getfield 44, 3, []), (.iload 6, 2, []), (.iaload, 1, []), (.iload 7, 2, []), (.aload 4, 2, []), (.iload 6, 2, []), (.iaload, 1, []), (.iadd, 1, []), (.invokestatic 114, 3, []), (.iastore, 1, []), (.iinc 6 1, 3, []), (.goto (-68), 3, [56])]
  | 127 => [(.iinc 3 1, 3, []), (.goto (-113), 3, [17])]
  | 133 => [(.return_, 1, [])]
  | _ => []
theorem qX7_fillOnward : ∀ pc, chk cX7_fillOnward pc (kX7_fillOnward pc) = true := by
  intro pc
  unfold kX7_fillOnward
  split <;> first | decide +kernel | exact chk_nil
abbrev rmX7_fillOnward : Room := { frames := 1, cells := 0, slots := 0, locals := 23 }
def aX7_fillOnward (x : Nat) : Option CI := match x with
  | 59 => some ciJ7_fill_53178
  | 140 => some ciMax
  | 143 => some ciX3_timeAt
  | 114 => some ciMin
  | _ => none
theorem aokX7_fillOnward : ∀ x ci, aX7_fillOnward x = some ci → CalOK RX7 rmX7_fillOnward x ci := by
  intro x ci h
  unfold aX7_fillOnward at h
  split at h
  · cases h; exact cal_S mJ7_fill_53178 rfl (List.forall_mem_cons.mpr ⟨(ws_mem (List.mem_of_getElem? (i := 208) (by decide +kernel)) (by decide +kernel)), List.forall_mem_cons.mpr ⟨(ws_mem (List.mem_of_getElem? (i := 209) (by decide +kernel)) (by decide +kernel)), List.forall_mem_cons.mpr ⟨(ws_mem (List.mem_of_getElem? (i := 60) (by decide +kernel)) (by decide +kernel)), List.forall_mem_cons.mpr ⟨(ws_mem (List.mem_of_getElem? (i := 210) (by decide +kernel)) (by decide +kernel)), fun _ h => absurd h List.not_mem_nil⟩⟩⟩⟩) rfl (by unfold nice; decide +kernel) (by unfold rfits; decide) ⟨rfl, rfl⟩
  · cases h; exact cal_max (List.forall_mem_cons.mpr ⟨(ws_mem (List.mem_of_getElem? (i := 488) (by decide +kernel)) (by decide +kernel)), List.forall_mem_cons.mpr ⟨(ws_mem (List.mem_of_getElem? (i := 158) (by decide +kernel)) (by decide +kernel)), List.forall_mem_cons.mpr ⟨(ws_mem (List.mem_of_getElem? (i := 58) (by decide +kernel)) (by decide +kernel)), List.forall_mem_cons.mpr ⟨(ws_mem (List.mem_of_getElem? (i := 159) (by decide +kernel)) (by decide +kernel)), fun _ h => absurd h List.not_mem_nil⟩⟩⟩⟩) (by decide)
  · cases h; exact cal_V mX3_timeAt (by decide) rfl (List.forall_mem_cons.mpr ⟨(ws_mem (List.mem_of_getElem? (i := 489) (by decide +kernel)) (by decide +kernel)), List.forall_mem_cons.mpr ⟨(ws_mem (List.mem_of_getElem? (i := 459) (by decide +kernel)) (by decide +kernel)), List.forall_mem_cons.mpr ⟨(ws_mem (List.mem_of_getElem? (i := 460) (by decide +kernel)) (by decide +kernel)), List.forall_mem_cons.mpr ⟨(ws_mem (List.mem_of_getElem? (i := 56) (by decide +kernel)) (by decide +kernel)), List.forall_mem_cons.mpr ⟨(ws_mem (List.mem_of_getElem? (i := 461) (by decide +kernel)) (by decide +kernel)), fun _ h => absurd h List.not_mem_nil⟩⟩⟩⟩⟩) rfl (by unfold nice; decide +kernel) (by unfold rfits; decide) ⟨rfl, rfl⟩
  · cases h; exact cal_min (List.forall_mem_cons.mpr ⟨(ws_mem (List.mem_of_getElem? (i := 490) (by decide +kernel)) (by decide +kernel)), List.forall_mem_cons.mpr ⟨(ws_mem (List.mem_of_getElem? (i := 155) (by decide +kernel)) (by decide +kernel)), List.forall_mem_cons.mpr ⟨(ws_mem (List.mem_of_getElem? (i := 58) (by decide +kernel)) (by decide +kernel)), List.forall_mem_cons.mpr ⟨(ws_mem (List.mem_of_getElem? (i := 156) (by decide +kernel)) (by decide +kernel)), fun _ h => absurd h List.not_mem_nil⟩⟩⟩⟩) (by decide)
  · cases h
theorem ocX7_fillOnward_59 (f : Nat → Nat → Nat → Nat → (List MV → MS → (Option MV → MS → Prop) → Prop) → Prop) : oC aX7_fillOnward 59 f = f 2 10 0 0 spJ7_fill_53178 := propext Iff.rfl
theorem ocX7_fillOnward_140 (f : Nat → Nat → Nat → Nat → (List MV → MS → (Option MV → MS → Prop) → Prop) → Prop) : oC aX7_fillOnward 140 f = f 2 10 0 0 spMax := propext Iff.rfl
theorem ocX7_fillOnward_143 (f : Nat → Nat → Nat → Nat → (List MV → MS → (Option MV → MS → Prop) → Prop) → Prop) : oC aX7_fillOnward 143 f = f 3 3 0 0 spX3_timeAt := propext Iff.rfl
theorem ocX7_fillOnward_114 (f : Nat → Nat → Nat → Nat → (List MV → MS → (Option MV → MS → Prop) → Prop) → Prop) : oC aX7_fillOnward 114 f = f 2 10 0 0 spMin := propext Iff.rfl
theorem mdX7_fillOnward : MD RX7 cX7_fillOnward rmX7_fillOnward kX7_fillOnward fX7 aX7_fillOnward zX7 uX7 := ⟨fokX7, zokX7, uokX7, aokX7_fillOnward, qX7_fillOnward⟩
theorem onS_s {I : Int → Int → Int} {j l x q : Int} (hn : nr l x) (hq : q ≤ I 48 (3 * j + x)) (y : Int) : onS I j l (x + 1) q y ↔ onS I j l x q y ∨ y = tmv (I (5 + j) 1) (dif l x) q + I (50 + (3 * j + x)) q := by
  unfold onS
  constructor
  · rintro ⟨l', a, b, c, d⟩
    by_cases e : l' = x
    · subst e; exact .inr d
    · exact .inl ⟨l', a, by omega, c, d⟩
  · rintro (⟨l', a, b, c, d⟩ | d)
    · exact ⟨l', a, by omega, c, d⟩
    · exact ⟨x, hn, by omega, hq, d⟩
theorem onS_no {I : Int → Int → Int} {j l x q : Int} (h : ¬ nr l x ∨ I 48 (3 * j + x) < q) (y : Int) : onS I j l (x + 1) q y ↔ onS I j l x q y := by
  unfold onS
  constructor
  · rintro ⟨l', a, b, c, d⟩
    by_cases e : l' = x
    · subst e
      rcases h with h | h
      · exact (h a).elim
      · omega
    · exact ⟨l', a, by omega, c, d⟩
  · rintro ⟨l', a, b, c, d⟩
    exact ⟨l', a, by omega, c, d⟩
set_option maxHeartbeats 1600000 in
set_option maxRecDepth 100000 in
theorem lpX7_on1 {post : Option MV → MS → Prop} {U : Pt → Prop} {N : Nat} {I L : Int → Int → Int} {j l x : Int} (j0 : 0 ≤ j) (j1 : j < 30) (l0 : 0 ≤ l) (l1 : l ≤ 2) (hx : nr l x) (hs : stOK I (5 + j)) (hl' : ∀ l', 0 ≤ l' → l' ≤ 2 → 1 ≤ I 48 (3 * j + l') ∧ I 48 (3 * j + l') ≤ 60 ∧ rowR I j l')
    (h : ∀ (I1 : Int → Int → Int) (p t : Option MV), (∀ b k, b ≠ 140 → I1 b k = I b k) → (∀ q, 1 ≤ q → q ≤ 60 → Lst (onS I j l (x + 1) q) 536870912 (I1 140 q)) → Ok RX7 cX7_fillOnward 8 rmX7_fillOnward false none post U (17, [some (.inr (.inr (some 2))), some (.inl j), some (.inl l), some (.inl (x + 1)), some (.inr (.inr (some (50 + (3 * j + x))))), some (.inl (I 48 (3 * j + x))), p, t], [], (N, PF, I1, L), 0, 0)) :
    ∀ (m : Nat) (p : Int) (I1 : Int → Int → Int) (t : Option MV), 1 ≤ p → p + m = 61 → (∀ b k, b ≠ 140 → I1 b k = I b k) → (∀ q, 1 ≤ q → q < p → Lst (onS I j l (x + 1) q) 536870912 (I1 140 q)) → (∀ q, p ≤ q → q ≤ 60 → Lst (onS I j l x q) 536870912 (I1 140 q)) →
    Ok RX7 cX7_fillOnward 8 rmX7_fillOnward false none post U (56, [some (.inr (.inr (some 2))), some (.inl j), some (.inl l), some (.inl x), some (.inr (.inr (some (50 + (3 * j + x))))), some (.inl (I 48 (3 * j + x))), some (.inl p), t], [], (N, PF, I1, L), 0, 0)
  | 0, p, I1, t, p0, hm, h1, h2, h3 => by
    have hl := hl' x hx.2.2.1 hx.2.2.2
    unfold nr at hx
    refine Ok.seg mdX7_fillOnward [17, 56] 20 ?_
    simp only [wp_nil, wp_cons, ↓stp, ↓lI, ↓lL, ↓lR, ↓lIn_0, ↓lIn_1, ↓lIn_2, ↓lIn_3, ↓lLn_0, ↓lLn_1, ↓lLn_2, ↓lLn_3, ↓lRn_0, ↓lRn_1, ↓lRn_2, ↓lRn_3, ↓pI, ↓pL, ↓pR, ↓pA, ↓pN, ↓pV, ↓fp, ↓tsw, ↓oS, ↓spMax, ↓spMin, ↓spAbs, ↓spObj, RI, RLg, b2i_lo, b2i_hi, getL, setL, ltL, killL, isLong, inl, cnd, br, tgt, rcv, rpl, mputI, mputL, mputP, fv, fr, mcat, mcs, entL, entA, rfit, nf_0, nf_1, nf_2, nf_3, nf2_0, nf2_1, b2i_0, b2i_1, RI_b2i, b2i_fit, List.append, List.length, List.replicate, List.cons_append, List.nil_append, List.length_cons, List.length_nil, List.replicate_succ, List.replicate_zero, List.tail_cons, reduceIte, if_true, if_false, ite_true, ite_false, Bool.false_eq_true, true_and, and_true, and_self, false_and, and_false, or_self, or_true, true_or, or_false, false_or, not_true_eq_false, not_false_eq_true, ne_eq, forall_const, implies_true, imp_self, true_implies, false_implies, Nat.reduceAdd, Nat.reduceSub, Nat.reduceMul, Nat.reduceDiv, Nat.reduceMod, Nat.reduceEqDiff, Nat.reduceLT, Nat.reduceLeDiff, Nat.reduceBEq, Nat.add_zero, Nat.zero_add, Nat.le_refl, Nat.not_lt_zero, Nat.succ_eq_add_one, Int.reduceNatCast, Int.cast_ofNat_Int, Int.reduceSub, Int.reduceMul, Int.reduceNeg, Int.reduceLE, Int.reduceLT, Int.reduceToNat, Int.reduceEq, Int.reduceNe, Int.reduceAdd, Option.some.injEq, kX7_fillOnward, rmX7_fillOnward, ↓ofX7_12, ↓ofX7_35, ↓ofX7_41, ↓ofX7_44, ↓ofX7_87, ↓ozX7_139, ↓ocX7_fillOnward_59, ↓spJ7_fill_53178, ↓ocX7_fillOnward_140, ↓ocX7_fillOnward_143, ↓spX3_timeAt, ↓ocX7_fillOnward_114, G_1, G_2, G_3, G_4, G_35, G_36, G_37, G_38, G_39, G_40, G_41, G_42, G_43, G_44, G_45, G_46, G_47, G_48, G_49, G_140, G_141, G_142, G_143, G_144, G_145, G_146, G_178, G_179, G_180, G_181, G_182, G_183, G_184, G_189, G_198, G_207, PF_1_0, PF_1_1, PF_1_2, PF_1_3, PF_2_0, PF_2_1, PF_2_3, PF_2_4, PF_2_5, PF_2_6, PF_2_7, PF_2_8, PF_2_9, PF_2_10, PF_2_11, PF_3_0, PF_35_0, PF_35_1, PF_35_2, PF_35_3, PF_40_0, PF_40_1, PF_40_2, PF_44_0, PF_44_1, PF_44_2, PF_145_0, PF_145_1, PF_179_0, PF_179_1, PF_179_2, PF_179_3, PF_179_8, PF_179_9, PF_179_10]
    refine ⟨by omega, by omega, fun q => ?_, fun q => by omega⟩
    exact h I1 _ _ h1 (fun q q0 q1 => h2 q q0 (by omega))
  | m + 1, p, I1, t, p0, hm, h1, h2, h3 => by
    have ih := lpX7_on1 (U := U) j0 j1 l0 l1 hx hs hl' h m (p + 1)
    have hl := hl' x hx.2.2.1 hx.2.2.2
    have hx2 := hx
    unfold nr at hx2
    have hp := PF_st j0 j1
    have hg := G_st (a := 5 + j) (by omega) (by omega)
    have hr := G_row (a := 50 + (3 * j + x)) (by omega) (by omega)
    have hrv := hl.2.2 p (by omega) (by omega)
    have n140 : (50 + (3 * j + x)) ≠ 140 := by omega
    have e5 : I1 (5 + j) = I (5 + j) := funext fun k => h1 _ k (by omega)
    have er : I1 (50 + (3 * j + x)) = I (50 + (3 * j + x)) := funext fun k => h1 _ k (by omega)
    have hst : stOK I1 (5 + j) := stOK_cg (fun k => h1 _ k (by omega)) hs
    have hs2 := hs
    unfold stOK at hs2
    have htm := fun c => tmv_rng (len := I (5 + j) 1) (ch := c) (p := p) (by omega) (by omega) (by omega)
    have ho := h3 p (by omega) (by omega)
    have fin : ∀ c r t', dif l x = c → p ≤ I 48 (3 * j + x) → r ≤ I1 140 p → r ≤ tmv (I (5 + j) 1) c p + I (50 + (3 * j + x)) p → (r = I1 140 p ∨ r = tmv (I (5 + j) 1) c p + I (50 + (3 * j + x)) p) → Ok RX7 cX7_fillOnward 8 rmX7_fillOnward false none post U (56, [some (.inr (.inr (some 2))), some (.inl j), some (.inl l), some (.inl x), some (.inr (.inr (some (50 + (3 * j + x))))), some (.inl (I 48 (3 * j + x))), some (.inl (p + 1)), t'], [], (N, PF, upI I1 140 p r, L), 0, 0) := fun c r t' hc hq r1 r2 r3 => by
      subst hc
      refine ih _ _ (by omega) (by omega) (fun b k hb => by rw [upI_ne hb]; exact h1 b k hb) (fun q q0 q1 => ?_) (fun q q0 q1 => ?_)
      · by_cases e : q = p
        · subst e; rw [upI_same]; exact ho.add (onS_s hx hq) r1 r2 r3
        · rw [upI_nj e]; exact h2 q q0 (by omega)
      · rw [upI_nj (by omega)]; exact h3 q (by omega) q1
    refine Ok.seg mdX7_fillOnward [17, 56] 50 ?_
    simp only [wp_nil, wp_cons, ↓stp, ↓lI, ↓lL, ↓lR, ↓lIn_0, ↓lIn_1, ↓lIn_2, ↓lIn_3, ↓lLn_0, ↓lLn_1, ↓lLn_2, ↓lLn_3, ↓lRn_0, ↓lRn_1, ↓lRn_2, ↓lRn_3, ↓pI, ↓pL, ↓pR, ↓pA, ↓pN, ↓pV, ↓fp, ↓tsw, ↓oS, ↓spMax, ↓spMin, ↓spAbs, ↓spObj, RI, RLg, b2i_lo, b2i_hi, getL, setL, ltL, killL, isLong, inl, cnd, br, tgt, rcv, rpl, mputI, mputL, mputP, fv, fr, mcat, mcs, entL, entA, rfit, nf_0, nf_1, nf_2, nf_3, nf2_0, nf2_1, b2i_0, b2i_1, RI_b2i, b2i_fit, List.append, List.length, List.replicate, List.cons_append, List.nil_append, List.length_cons, List.length_nil, List.replicate_succ, List.replicate_zero, List.tail_cons, reduceIte, if_true, if_false, ite_true, ite_false, Bool.false_eq_true, true_and, and_true, and_self, false_and, and_false, or_self, or_true, true_or, or_false, false_or, not_true_eq_false, not_false_eq_true, ne_eq, forall_const, implies_true, imp_self, true_implies, false_implies, Nat.reduceAdd, Nat.reduceSub, Nat.reduceMul, Nat.reduceDiv, Nat.reduceMod, Nat.reduceEqDiff, Nat.reduceLT, Nat.reduceLeDiff, Nat.reduceBEq, Nat.add_zero, Nat.zero_add, Nat.le_refl, Nat.not_lt_zero, Nat.succ_eq_add_one, Int.reduceNatCast, Int.cast_ofNat_Int, Int.reduceSub, Int.reduceMul, Int.reduceNeg, Int.reduceLE, Int.reduceLT, Int.reduceToNat, Int.reduceEq, Int.reduceNe, Int.reduceAdd, Option.some.injEq, kX7_fillOnward, rmX7_fillOnward, ↓ofX7_12, ↓ofX7_35, ↓ofX7_41, ↓ofX7_44, ↓ofX7_87, ↓ozX7_139, ↓ocX7_fillOnward_59, ↓spJ7_fill_53178, ↓ocX7_fillOnward_140, ↓ocX7_fillOnward_143, ↓spX3_timeAt, ↓ocX7_fillOnward_114, hp, hg, hr, e5, er, hst, G_1, G_2, G_3, G_4, G_35, G_36, G_37, G_38, G_39, G_40, G_41, G_42, G_43, G_44, G_45, G_46, G_47, G_48, G_49, G_140, G_141, G_142, G_143, G_144, G_145, G_146, G_178, G_179, G_180, G_181, G_182, G_183, G_184, G_189, G_198, G_207, PF_1_0, PF_1_1, PF_1_2, PF_1_3, PF_2_0, PF_2_1, PF_2_3, PF_2_4, PF_2_5, PF_2_6, PF_2_7, PF_2_8, PF_2_9, PF_2_10, PF_2_11, PF_3_0, PF_35_0, PF_35_1, PF_35_2, PF_35_3, PF_40_0, PF_40_1, PF_40_2, PF_44_0, PF_44_1, PF_44_2, PF_145_0, PF_145_1, PF_179_0, PF_179_1, PF_179_2, PF_179_3, PF_179_8, PF_179_9, PF_179_10]
    have ht0 := htm 0
    have ht1 := htm 1
    have hoF := ho.2.1
    have hol : 0 ≤ I1 140 p := by
      rcases ho.1 with e | ⟨l', a, b, c, d⟩
      · omega
      · have z1 := ((hl' l' a.2.2.1 a.2.2.2).2.2 p (by omega) (by omega)).1
        have z2 := (tmv_rng (len := I (5 + j) 1) (ch := dif l l') (p := p) (by omega) (by omega) (by omega)).1
        rw [d]; exact Int.add_nonneg z2 z1
    refine ⟨by omega, by omega, fun q => ?_, fun q => ?_⟩
    · refine h I1 _ _ h1 (fun z z0 z1 => ?_)
      by_cases e : z < p
      · exact h2 z z0 e
      · exact (h3 z (by omega) z1).cg (onS_no (.inr (by omega)))
    · repeat' (first | apply And.intro | intro _)
      all_goals first | omega | exact fin 0 _ _ (if_pos (by assumption)) (by omega) (by assumption) (by assumption) (by assumption) | exact fin 1 _ _ (if_neg (by assumption)) (by omega) (by assumption) (by assumption) (by assumption)

set_option maxHeartbeats 1600000 in
set_option maxRecDepth 100000 in
theorem lpX7_on2 {post : Option MV → MS → Prop} {U : Pt → Prop} {N : Nat} {I L : Int → Int → Int} {j l : Int} (j0 : 0 ≤ j) (j1 : j < 30) (l0 : 0 ≤ l) (l1 : l ≤ 2) (hs : stOK I (5 + j)) (hl' : ∀ l', 0 ≤ l' → l' ≤ 2 → 1 ≤ I 48 (3 * j + l') ∧ I 48 (3 * j + l') ≤ 60 ∧ rowR I j l')
    (h : ∀ I' : Int → Int → Int, (∀ b k, b ≠ 140 → I' b k = I b k) → (∀ q, 1 ≤ q → q ≤ 60 → Lst (onS I j l 3 q) 536870912 (I' 140 q)) → post none (N, PF, I', L)) :
    ∀ (m : Nat) (x : Int) (I1 : Int → Int → Int) (t1 t2 t3 t4 : Option MV), l - 1 ≤ x → 0 ≤ x → x + m = 3 → (∀ b k, b ≠ 140 → I1 b k = I b k) → (∀ q, 1 ≤ q → q ≤ 60 → Lst (onS I j l x q) 536870912 (I1 140 q)) →
    Ok RX7 cX7_fillOnward 8 rmX7_fillOnward false none post U (17, [some (.inr (.inr (some 2))), some (.inl j), some (.inl l), some (.inl x), t1, t2, t3, t4], [], (N, PF, I1, L), 0, 0)
  | 0, x, I1, t1, t2, t3, t4, x1, x0, hm, h1, h2 => by
    refine Ok.seg mdX7_fillOnward [17, 56] 20 ?_
    simp only [wp_nil, wp_cons, ↓stp, ↓lI, ↓lL, ↓lR, ↓lIn_0, ↓lIn_1, ↓lIn_2, ↓lIn_3, ↓lLn_0, ↓lLn_1, ↓lLn_2, ↓lLn_3, ↓lRn_0, ↓lRn_1, ↓lRn_2, ↓lRn_3, ↓pI, ↓pL, ↓pR, ↓pA, ↓pN, ↓pV, ↓fp, ↓tsw, ↓oS, ↓spMax, ↓spMin, ↓spAbs, ↓spObj, RI, RLg, b2i_lo, b2i_hi, getL, setL, ltL, killL, isLong, inl, cnd, br, tgt, rcv, rpl, mputI, mputL, mputP, fv, fr, mcat, mcs, entL, entA, rfit, nf_0, nf_1, nf_2, nf_3, nf2_0, nf2_1, b2i_0, b2i_1, RI_b2i, b2i_fit, List.append, List.length, List.replicate, List.cons_append, List.nil_append, List.length_cons, List.length_nil, List.replicate_succ, List.replicate_zero, List.tail_cons, reduceIte, if_true, if_false, ite_true, ite_false, Bool.false_eq_true, true_and, and_true, and_self, false_and, and_false, or_self, or_true, true_or, or_false, false_or, not_true_eq_false, not_false_eq_true, ne_eq, forall_const, implies_true, imp_self, true_implies, false_implies, Nat.reduceAdd, Nat.reduceSub, Nat.reduceMul, Nat.reduceDiv, Nat.reduceMod, Nat.reduceEqDiff, Nat.reduceLT, Nat.reduceLeDiff, Nat.reduceBEq, Nat.add_zero, Nat.zero_add, Nat.le_refl, Nat.not_lt_zero, Nat.succ_eq_add_one, Int.reduceNatCast, Int.cast_ofNat_Int, Int.reduceSub, Int.reduceMul, Int.reduceNeg, Int.reduceLE, Int.reduceLT, Int.reduceToNat, Int.reduceEq, Int.reduceNe, Int.reduceAdd, Option.some.injEq, kX7_fillOnward, rmX7_fillOnward, ↓ofX7_12, ↓ofX7_35, ↓ofX7_41, ↓ofX7_44, ↓ofX7_87, ↓ozX7_139, ↓ocX7_fillOnward_59, ↓spJ7_fill_53178, ↓ocX7_fillOnward_140, ↓ocX7_fillOnward_143, ↓spX3_timeAt, ↓ocX7_fillOnward_114, G_1, G_2, G_3, G_4, G_35, G_36, G_37, G_38, G_39, G_40, G_41, G_42, G_43, G_44, G_45, G_46, G_47, G_48, G_49, G_140, G_141, G_142, G_143, G_144, G_145, G_146, G_178, G_179, G_180, G_181, G_182, G_183, G_184, G_189, G_198, G_207, PF_1_0, PF_1_1, PF_1_2, PF_1_3, PF_2_0, PF_2_1, PF_2_3, PF_2_4, PF_2_5, PF_2_6, PF_2_7, PF_2_8, PF_2_9, PF_2_10, PF_2_11, PF_3_0, PF_35_0, PF_35_1, PF_35_2, PF_35_3, PF_40_0, PF_40_1, PF_40_2, PF_44_0, PF_44_1, PF_44_2, PF_145_0, PF_145_1, PF_179_0, PF_179_1, PF_179_2, PF_179_3, PF_179_8, PF_179_9, PF_179_10]
    refine ⟨by omega, fun q => ?_, fun q => by omega⟩
    rw [show x = 3 by omega] at h2
    exact h I1 h1 h2
  | m + 1, x, I1, t1, t2, t3, t4, x1, x0, hm, h1, h2 => by
    have ih := lpX7_on2 (U := U) j0 j1 l0 l1 hs hl' h m (x + 1)
    have hp := PF_rest (i := 3 * j + x) (by omega) (by omega)
    have hr := G_row (a := 50 + (3 * j + x)) (by omega) (by omega)
    have hl := hl' x (by omega) (by omega)
    have e48 : I1 48 = I 48 := funext fun k => h1 _ k (by omega)
    refine Ok.seg mdX7_fillOnward [17, 56] 32 ?_
    simp only [wp_nil, wp_cons, ↓stp, ↓lI, ↓lL, ↓lR, ↓lIn_0, ↓lIn_1, ↓lIn_2, ↓lIn_3, ↓lLn_0, ↓lLn_1, ↓lLn_2, ↓lLn_3, ↓lRn_0, ↓lRn_1, ↓lRn_2, ↓lRn_3, ↓pI, ↓pL, ↓pR, ↓pA, ↓pN, ↓pV, ↓fp, ↓tsw, ↓oS, ↓spMax, ↓spMin, ↓spAbs, ↓spObj, RI, RLg, b2i_lo, b2i_hi, getL, setL, ltL, killL, isLong, inl, cnd, br, tgt, rcv, rpl, mputI, mputL, mputP, fv, fr, mcat, mcs, entL, entA, rfit, nf_0, nf_1, nf_2, nf_3, nf2_0, nf2_1, b2i_0, b2i_1, RI_b2i, b2i_fit, List.append, List.length, List.replicate, List.cons_append, List.nil_append, List.length_cons, List.length_nil, List.replicate_succ, List.replicate_zero, List.tail_cons, reduceIte, if_true, if_false, ite_true, ite_false, Bool.false_eq_true, true_and, and_true, and_self, false_and, and_false, or_self, or_true, true_or, or_false, false_or, not_true_eq_false, not_false_eq_true, ne_eq, forall_const, implies_true, imp_self, true_implies, false_implies, Nat.reduceAdd, Nat.reduceSub, Nat.reduceMul, Nat.reduceDiv, Nat.reduceMod, Nat.reduceEqDiff, Nat.reduceLT, Nat.reduceLeDiff, Nat.reduceBEq, Nat.add_zero, Nat.zero_add, Nat.le_refl, Nat.not_lt_zero, Nat.succ_eq_add_one, Int.reduceNatCast, Int.cast_ofNat_Int, Int.reduceSub, Int.reduceMul, Int.reduceNeg, Int.reduceLE, Int.reduceLT, Int.reduceToNat, Int.reduceEq, Int.reduceNe, Int.reduceAdd, Option.some.injEq, kX7_fillOnward, rmX7_fillOnward, ↓ofX7_12, ↓ofX7_35, ↓ofX7_41, ↓ofX7_44, ↓ofX7_87, ↓ozX7_139, ↓ocX7_fillOnward_59, ↓spJ7_fill_53178, ↓ocX7_fillOnward_140, ↓ocX7_fillOnward_143, ↓spX3_timeAt, ↓ocX7_fillOnward_114, hp, hr, e48, G_1, G_2, G_3, G_4, G_35, G_36, G_37, G_38, G_39, G_40, G_41, G_42, G_43, G_44, G_45, G_46, G_47, G_48, G_49, G_140, G_141, G_142, G_143, G_144, G_145, G_146, G_178, G_179, G_180, G_181, G_182, G_183, G_184, G_189, G_198, G_207, PF_1_0, PF_1_1, PF_1_2, PF_1_3, PF_2_0, PF_2_1, PF_2_3, PF_2_4, PF_2_5, PF_2_6, PF_2_7, PF_2_8, PF_2_9, PF_2_10, PF_2_11, PF_3_0, PF_35_0, PF_35_1, PF_35_2, PF_35_3, PF_40_0, PF_40_1, PF_40_2, PF_44_0, PF_44_1, PF_44_2, PF_145_0, PF_145_1, PF_179_0, PF_179_1, PF_179_2, PF_179_3, PF_179_8, PF_179_9, PF_179_10]
    refine ⟨by omega, fun q => by omega, fun q => ⟨by omega, by omega, fun q2 => ?_, fun q2 => ⟨by omega, by omega, by omega, by omega, ?_⟩⟩⟩
    · refine h I1 h1 (fun z z0 z1 => (h2 z z0 z1).cg (fun y => ?_))
      unfold onS nr
      constructor
      · rintro ⟨l', a, b, c, d⟩; exact ⟨l', a, by omega, c, d⟩
      · rintro ⟨l', a, b, c, d⟩; exact ⟨l', a, by omega, c, d⟩
    · have hx : nr l x := ⟨x1, by omega, x0, by omega⟩
      exact lpX7_on1 j0 j1 l0 l1 hx hs hl' (fun I2 p t a b => ih I2 _ _ p t (by omega) (by omega) (by omega) a b) 60 1 I1 t4 (by omega) (by omega) h1 (fun z z0 z1 => by omega) h2
set_option maxRecDepth 100000 in
set_option maxHeartbeats 800000 in
theorem mX7_fillOnward : MOK yX7_fillOnward cX7_fillOnward 8 none rmX7_fillOnward ciX7_fillOnward := by
  refine mok_of (ini := false) (by decide +kernel) (by decide) rfl rfl ?_
  intro σ As K hrc hl h
  obtain ⟨N, P, I, L⟩ := σ
  have h9 := pR_iff.mp h
  clear h
  obtain ⟨a, r, e9, h⟩ := h9
  subst e9
  have h9 := pI_iff.mp h
  clear h
  obtain ⟨j, r, e9, h⟩ := h9
  subst e9
  have h9 := pI_iff.mp h
  clear h
  obtain ⟨l, r, e9, h⟩ := h9
  subst e9
  have h9 := pN_iff.mp h
  clear h
  obtain ⟨e9, h⟩ := h9
  subst e9
  dsimp only at h
  obtain ⟨rfl, rfl, j0, j1, l0, l1, hs, hl, h⟩ := h
  refine ⟨Nat.le_of_ble_eq_true rfl, Ok.seg mdX7_fillOnward [17] 16 ?_⟩
  simp only [wp_nil, wp_cons, ↓stp, ↓lI, ↓lL, ↓lR, ↓lIn_0, ↓lIn_1, ↓lIn_2, ↓lIn_3, ↓lLn_0, ↓lLn_1, ↓lLn_2, ↓lLn_3, ↓lRn_0, ↓lRn_1, ↓lRn_2, ↓lRn_3, ↓pI, ↓pL, ↓pR, ↓pA, ↓pN, ↓pV, ↓fp, ↓tsw, ↓oS, ↓spMax, ↓spMin, ↓spAbs, ↓spObj, RI, RLg, b2i_lo, b2i_hi, getL, setL, ltL, killL, isLong, inl, cnd, br, tgt, rcv, rpl, mputI, mputL, mputP, fv, fr, mcat, mcs, entL, entA, rfit, nf_0, nf_1, nf_2, nf_3, nf2_0, nf2_1, b2i_0, b2i_1, RI_b2i, b2i_fit, List.append, List.length, List.replicate, List.cons_append, List.nil_append, List.length_cons, List.length_nil, List.replicate_succ, List.replicate_zero, List.tail_cons, reduceIte, if_true, if_false, ite_true, ite_false, Bool.false_eq_true, true_and, and_true, and_self, false_and, and_false, or_self, or_true, true_or, or_false, false_or, not_true_eq_false, not_false_eq_true, ne_eq, forall_const, implies_true, imp_self, true_implies, false_implies, Nat.reduceAdd, Nat.reduceSub, Nat.reduceMul, Nat.reduceDiv, Nat.reduceMod, Nat.reduceEqDiff, Nat.reduceLT, Nat.reduceLeDiff, Nat.reduceBEq, Nat.add_zero, Nat.zero_add, Nat.le_refl, Nat.not_lt_zero, Nat.succ_eq_add_one, Int.reduceNatCast, Int.cast_ofNat_Int, Int.reduceSub, Int.reduceMul, Int.reduceNeg, Int.reduceLE, Int.reduceLT, Int.reduceToNat, Int.reduceEq, Int.reduceNe, Int.reduceAdd, Option.some.injEq, kX7_fillOnward, rmX7_fillOnward, ↓ofX7_12, ↓ofX7_35, ↓ofX7_41, ↓ofX7_44, ↓ofX7_87, ↓ozX7_139, ↓ocX7_fillOnward_59, ↓spJ7_fill_53178, ↓ocX7_fillOnward_140, ↓ocX7_fillOnward_143, ↓spX3_timeAt, ↓ocX7_fillOnward_114, G_1, G_2, G_3, G_4, G_35, G_36, G_37, G_38, G_39, G_40, G_41, G_42, G_43, G_44, G_45, G_46, G_47, G_48, G_49, G_140, G_141, G_142, G_143, G_144, G_145, G_146, G_178, G_179, G_180, G_181, G_182, G_183, G_184, G_189, G_198, G_207, PF_1_0, PF_1_1, PF_1_2, PF_1_3, PF_2_0, PF_2_1, PF_2_3, PF_2_4, PF_2_5, PF_2_6, PF_2_7, PF_2_8, PF_2_9, PF_2_10, PF_2_11, PF_3_0, PF_35_0, PF_35_1, PF_35_2, PF_35_3, PF_40_0, PF_40_1, PF_40_2, PF_44_0, PF_44_1, PF_44_2, PF_145_0, PF_145_1, PF_179_0, PF_179_1, PF_179_2, PF_179_3, PF_179_8, PF_179_9, PF_179_10]
  refine ⟨by omega, fun x x1 x2 x3 => ?_⟩
  have hne : ∀ b k, b ≠ 140 → filI I 140 536870912 61 b k = I b k := fun b k hb => if_neg (fun z => hb z.1)
  have c5 : ∀ k, filI I 140 536870912 61 (5 + j) k = I (5 + j) k := fun k => hne _ _ (by omega)
  have c48 : ∀ k, filI I 140 536870912 61 48 k = I 48 k := fun k => hne _ _ (by omega)
  have cr : ∀ l' k, 0 ≤ l' → l' ≤ 2 → filI I 140 536870912 61 (50 + (3 * j + l')) k = I (50 + (3 * j + l')) k := fun l' k _ _ => hne _ _ (by omega)
  have cS : ∀ x q y, onS (filI I 140 536870912 61) j l x q y ↔ onS I j l x q y := fun x q y => by
    unfold onS
    constructor
    · rintro ⟨l', a, b, c, d⟩
      rw [c48] at c; rw [c5, cr l' q a.2.2.1 a.2.2.2] at d
      exact ⟨l', a, b, c, d⟩
    · rintro ⟨l', a, b, c, d⟩
      rw [← c48] at c; rw [← c5, ← cr l' q a.2.2.1 a.2.2.2] at d
      exact ⟨l', a, b, c, d⟩
  refine lpX7_on2 j0 j1 l0 l1 (stOK_cg c5 hs) (fun l' a b => ?_) (fun I' h1 h2 => ⟨trivial, h I' (fun b k hb => (h1 b k hb).trans (hne b k hb)) (fun q q0 q1 => (h2 q q0 q1).cg (fun y => (cS _ _ _).symm))⟩) (3 - x).toNat x _ _ _ _ _ (by omega) (by omega) (by omega) (fun _ _ _ => rfl) (fun q q0 q1 => ?_)
  · rw [c48]
    refine ⟨(hl l' a b).1, (hl l' a b).2.1, fun q q0 q1 => ?_⟩
    rw [cr l' q a b]; exact (hl l' a b).2.2 q q0 q1
  · rw [show filI I 140 536870912 61 140 q = 536870912 from if_pos ⟨rfl, by omega, by omega⟩]
    refine Lst.none (fun y => ?_)
    rintro ⟨l', a, b, c, d⟩
    unfold nr at a
    omega
end
section
/-! LapBoard$Ways.fillRest: the queue -/
theorem pul_mono {T Q p : Int} (hQ : 1 ≤ Q) : pul T Q p ≤ pul T Q (p + 1) := by
  unfold pul
  repeat' split
  all_goals omega
theorem rcm_mono {T Q : Int → Int} {p : Int} (h : gOK T Q) : ∀ g : Nat, g ≤ 6 → rcm T Q p g ≤ rcm T Q (p + 1) g
  | 0, _ => by unfold rcm; omega
  | g + 1, hg => by
    have ih := rcm_mono (p := p) h g (by omega)
    have := pul_mono (T := T (g + 1)) (p := p) (h (g + 1) (by omega) (by omega)).2.2.1
    unfold rcm
    split <;> split <;> omega
theorem rch_mono {T Q : Int → Int} {p : Int} (h : gOK T Q) : rch T Q p ≤ rch T Q (p + 1) := rcm_mono h 6 (by omega)
def qI (Q o : Int → Int) (hd tl nx : Int) : Prop := 0 ≤ hd ∧ hd ≤ tl ∧ tl ≤ nx - 1 ∧ (∀ k, hd ≤ k → k < tl → 1 ≤ Q k ∧ Q k < nx) ∧ (∀ k k', hd ≤ k → k < k' → k' < tl → Q k < Q k' ∧ o (Q k) < o (Q k'))
def qC (Q o : Int → Int) (lo hd tl nx : Int) : Prop := ∀ j, 1 ≤ j → lo ≤ j → j < nx → ∃ k, hd ≤ k ∧ k < tl ∧ j ≤ Q k ∧ o (Q k) ≤ o j
def oR (o : Int → Int) : Prop := ∀ q, 1 ≤ q → q ≤ 60 → 0 ≤ o q ∧ o q ≤ 536870912
def spX7_fillRest (As : List MV) (σ : MS) (K : Option MV → MS → Prop) : Prop := pR As fun s r => pR r fun a r => pI r fun bk r => pN r (s = 2 ∧ σ.2.1 = PF ∧ 50 ≤ a ∧ a ≤ 139 ∧ 1 ≤ bk ∧ bk ≤ 30 ∧ carOK σ.2.2.1 ∧ oR (σ.2.2.1 140) ∧
  ∀ I' : Int → Int → Int, (∀ b k, b ≠ 141 → ¬ (b = a ∧ 1 ≤ k ∧ k ≤ 60) → I' b k = σ.2.2.1 b k) → (∀ p, 1 ≤ p → p ≤ 60 → (∀ q, 1 ≤ q → p - bk ≤ q → q ≤ σ.2.2.1 37 p → I' a p ≤ σ.2.2.1 140 q) ∧ ∃ q, 1 ≤ q ∧ p - bk ≤ q ∧ q ≤ σ.2.2.1 37 p ∧ I' a p = σ.2.2.1 140 q) → K none (σ.1, σ.2.1, I', σ.2.2.2))
def ciX7_fillRest : CI := (3, 7, 0, 0, spX7_fillRest)
def kX7_fillRest (pc : Nat) : List ME := match pc with
  | 0 => [(.iconst 0, 1, []), (.istore_n 3, 1, []), (.iconst 0, 1, []), (.istore 4, 2, []), (.iconst 1, 1, []), (.istore 5, 2, []), (.iconst 1, 1, []), (.istore 6, 2, [])]
  | 11 => [(.iload 6, 2, []), (.bipush 60, 2, []), (.if_icmp .gt 136, 3, [151])]
  | 18 => [(.iload 5, 2, []), (.aload_n 0, 1, []), (.getfield 21, 3, []), (.getfield 147, 3, []), (.iload 6, 2, []), (.iaload, 1, []), (.if_icmp .gt 64, 3, [94]), (.iload 5, 2, []), (.bipush 60, 2, []), (.if_icmp .gt 57, 3, [94])]
  | 40 => [(.iload 4, 2, []), (.iload_n 3, 1, []), (.if_icmp .le 33, 3, [76]), (.aload_n 0, 1, []), (.getfield 44, 3, []), (.aload_n 0, 1, []), (.getfield 47, 3, []), (.iload 4, 2, []), (.iconst 1, 1, []), (.isub, 1, []), (.iaload, 1, []), (.iaload, 1, []), (.aload_n 0, 1, []), (.getfield 44, 3, []), (.iload 5, 2, []), (.iaload, 1, []), (.if_icmp .lt 9, 3, [76]), (.iinc 4 (-1), 3, []), (.goto (-33), 3, [40])]
  | 76 => [(.aload_n 0, 1, []), (.getfield 47, 3, []), (.iload 4, 2, []), (.iload 5, 2, []), (.iastore, 1, []), (.iinc 4 1, 3, []), (.iinc 5 1, 3, []), (.goto (-73), 3, [18])]
  | 94 => [(.iload_n 3, 1, []), (.iload 4, 2, []), (.if_icmp .ge 22, 3, [119]), (.aload_n 0, 1, []), (.getfield 47, 3, []), (.iload_n 3, 1, []), (.iaload, 1, []), (.iload 6, 2, []), (.iload_n 2, 1, []), (.isub, 1, []), (.if_icmp .ge 9, 3, [119]), (.iinc 3 1, 3, []), (.goto (-22), 3, [94])]
  | 119 => [(.aload_n 1, 1, []), (.iload 6, 2, []), (.iload_n 3, 1, []), (.iload 4, 2, []), (.if_icmp .ge 17, 3, [142]), (.aload_n 0, 1, []), (.getfield 44, 3, []), (.aload_n 0, 1, []), (.getfield 47, 3, []), (.iload_n 3, 1, []), (.iaload, 1, []), (.iaload, 1, []), (.goto 5, 3, [144])]
  | 142 => [(.ldc 139, 2, [])]
  | 144 => [(.iastore, 1, []), (.iinc 6 1, 3, []), (.goto (-137), 3, [11])]
  | 151 => [(.return_, 1, [])]
  | _ => []
theorem qX7_fillRest : ∀ pc, chk cX7_fillRest pc (kX7_fillRest pc) = true := by
  intro pc
  unfold kX7_fillRest
  split <;> first | decide +kernel | exact chk_nil
abbrev rmX7_fillRest : Room := { frames := 0, cells := 0, slots := 0, locals := 0 }
def aX7_fillRest (_ : Nat) : Option CI := none
theorem aokX7_fillRest : ∀ x ci, aX7_fillRest x = some ci → CalOK RX7 rmX7_fillRest x ci := fun _ _ h => by cases h
theorem mdX7_fillRest : MD RX7 cX7_fillRest rmX7_fillRest kX7_fillRest fX7 aX7_fillRest zX7 uX7 := ⟨fokX7, zokX7, uokX7, aokX7_fillRest, qX7_fillRest⟩
set_option maxHeartbeats 1600000 in
set_option maxRecDepth 100000 in
theorem lpX7_q1 {post : Option MV → MS → Prop} {U : Pt → Prop} {N : Nat} {I L : Int → Int → Int} {a bk hd nx p lo : Int} (hn : 1 ≤ nx) (hn2 : nx ≤ 60) (ho : oR (I 140))
    (h : ∀ (tl : Int), qI (upI I 141 tl nx 141) (I 140) hd (tl + 1) (nx + 1) → qC (upI I 141 tl nx 141) (I 140) lo hd (tl + 1) (nx + 1) → Ok RX7 cX7_fillRest 7 rmX7_fillRest false none post U (18, [some (.inr (.inr (some 2))), some (.inr (.inr (some a))), some (.inl bk), some (.inl hd), some (.inl (tl + 1)), some (.inl (nx + 1)), some (.inl p)], [], (N, PF, upI I 141 tl nx, L), 0, 0)) :
    ∀ (m : Nat) (tl : Int), hd + m = tl → qI (I 141) (I 140) hd tl nx → (∀ j, 1 ≤ j → lo ≤ j → j < nx → I 140 nx ≤ I 140 j ∨ ∃ k, hd ≤ k ∧ k < tl ∧ j ≤ I 141 k ∧ I 140 (I 141 k) ≤ I 140 j) →
    Ok RX7 cX7_fillRest 7 rmX7_fillRest false none post U (40, [some (.inr (.inr (some 2))), some (.inr (.inr (some a))), some (.inl bk), some (.inl hd), some (.inl tl), some (.inl nx), some (.inl p)], [], (N, PF, I, L), 0, 0)
  | m, tl, hm, h1, h2 => by
    have push : (hd < tl → I 140 (I 141 (tl - 1)) < I 140 nx) → Ok RX7 cX7_fillRest 7 rmX7_fillRest false none post U (18, [some (.inr (.inr (some 2))), some (.inr (.inr (some a))), some (.inl bk), some (.inl hd), some (.inl (tl + 1)), some (.inl (nx + 1)), some (.inl p)], [], (N, PF, upI I 141 tl nx, L), 0, 0) := fun hq => by
      obtain ⟨a1, a2, a3, a4, a5⟩ := h1
      have e : ∀ k, k ≠ tl → upI I 141 tl nx 141 k = I 141 k := fun k hk => upI_nj hk
      have e1 : upI I 141 tl nx 141 tl = nx := upI_same
      have last : ∀ k, hd ≤ k → k < tl → I 140 (I 141 k) < I 140 nx := fun k k0 k1 => by
        by_cases q : k = tl - 1
        · rw [q]; exact hq (by omega)
        · have := (a5 k (tl - 1) k0 (by omega) (by omega)).2
          have := hq (by omega)
          omega
      refine h tl ⟨a1, by omega, by omega, fun k k0 k1 => ?_, fun k k' k0 k1 k2 => ?_⟩ (fun j j0 j1 j2 => ?_)
      · by_cases q : k = tl
        · rw [q, e1]; omega
        · rw [e k q]; have := a4 k k0 (by omega); omega
      · by_cases q : k' = tl
        · rw [q, e1, e k (by omega)]
          exact ⟨by have := a4 k k0 (by omega); omega, last k k0 (by omega)⟩
        · rw [e k (by omega), e k' q]; exact a5 k k' k0 k1 (by omega)
      · by_cases q : j = nx
        · exact ⟨tl, by omega, by omega, by rw [e1]; omega, by rw [e1, q]; omega⟩
        · rcases h2 j j0 j1 (by omega) with c | ⟨k, k0, k1, k2, k3⟩
          · exact ⟨tl, by omega, by omega, by rw [e1]; omega, by rw [e1]; exact c⟩
          · exact ⟨k, k0, by omega, by rw [e k (by omega)]; exact k2, by rw [e k (by omega)]; exact k3⟩
    have ho1 := ho nx hn hn2
    rcases m with _ | m
    · refine Ok.seg mdX7_fillRest [11, 18, 40, 94] 30 ?_
      have h1' := h1
      obtain ⟨a1, a2, a3, a4, a5⟩ := h1'
      simp only [wp_nil, wp_cons, ↓stp, ↓lI, ↓lL, ↓lR, ↓lIn_0, ↓lIn_1, ↓lIn_2, ↓lIn_3, ↓lLn_0, ↓lLn_1, ↓lLn_2, ↓lLn_3, ↓lRn_0, ↓lRn_1, ↓lRn_2, ↓lRn_3, ↓pI, ↓pL, ↓pR, ↓pA, ↓pN, ↓pV, ↓fp, ↓tsw, ↓oS, ↓spMax, ↓spMin, ↓spAbs, ↓spObj, RI, RLg, b2i_lo, b2i_hi, getL, setL, ltL, killL, isLong, inl, cnd, br, tgt, rcv, rpl, mputI, mputL, mputP, fv, fr, mcat, mcs, entL, entA, rfit, nf_0, nf_1, nf_2, nf_3, nf2_0, nf2_1, b2i_0, b2i_1, RI_b2i, b2i_fit, List.append, List.length, List.replicate, List.cons_append, List.nil_append, List.length_cons, List.length_nil, List.replicate_succ, List.replicate_zero, List.tail_cons, reduceIte, if_true, if_false, ite_true, ite_false, Bool.false_eq_true, true_and, and_true, and_self, false_and, and_false, or_self, or_true, true_or, or_false, false_or, not_true_eq_false, not_false_eq_true, ne_eq, forall_const, implies_true, imp_self, true_implies, false_implies, Nat.reduceAdd, Nat.reduceSub, Nat.reduceMul, Nat.reduceDiv, Nat.reduceMod, Nat.reduceEqDiff, Nat.reduceLT, Nat.reduceLeDiff, Nat.reduceBEq, Nat.add_zero, Nat.zero_add, Nat.le_refl, Nat.not_lt_zero, Nat.succ_eq_add_one, Int.reduceNatCast, Int.cast_ofNat_Int, Int.reduceSub, Int.reduceMul, Int.reduceNeg, Int.reduceLE, Int.reduceLT, Int.reduceToNat, Int.reduceEq, Int.reduceNe, Int.reduceAdd, Option.some.injEq, kX7_fillRest, rmX7_fillRest, ↓ofX7_147, ↓ofX7_21, ↓ofX7_44, ↓ofX7_47, ↓ozX7_139, G_1, G_2, G_3, G_4, G_35, G_36, G_37, G_38, G_39, G_40, G_41, G_42, G_43, G_44, G_45, G_46, G_47, G_48, G_49, G_140, G_141, G_142, G_143, G_144, G_145, G_146, G_178, G_179, G_180, G_181, G_182, G_183, G_184, G_189, G_198, G_207, PF_1_0, PF_1_1, PF_1_2, PF_1_3, PF_2_0, PF_2_1, PF_2_3, PF_2_4, PF_2_5, PF_2_6, PF_2_7, PF_2_8, PF_2_9, PF_2_10, PF_2_11, PF_3_0, PF_35_0, PF_35_1, PF_35_2, PF_35_3, PF_40_0, PF_40_1, PF_40_2, PF_44_0, PF_44_1, PF_44_2, PF_145_0, PF_145_1, PF_179_0, PF_179_1, PF_179_2, PF_179_3, PF_179_8, PF_179_9, PF_179_10]
      refine ⟨by omega, by omega, fun q => ⟨by omega, by omega, push (by omega)⟩, fun q => by omega⟩
    · have ih := lpX7_q1 (U := U) hn hn2 ho h m (tl - 1) (by omega)
      have h1' := h1
      obtain ⟨a1, a2, a3, a4, a5⟩ := h1'
      have b4 := a4 (tl - 1) (by omega) (by omega)
      have ho2 := ho (I 141 (tl - 1)) b4.1 (by omega)
      refine Ok.seg mdX7_fillRest [11, 18, 40, 94] 30 ?_
      simp only [wp_nil, wp_cons, ↓stp, ↓lI, ↓lL, ↓lR, ↓lIn_0, ↓lIn_1, ↓lIn_2, ↓lIn_3, ↓lLn_0, ↓lLn_1, ↓lLn_2, ↓lLn_3, ↓lRn_0, ↓lRn_1, ↓lRn_2, ↓lRn_3, ↓pI, ↓pL, ↓pR, ↓pA, ↓pN, ↓pV, ↓fp, ↓tsw, ↓oS, ↓spMax, ↓spMin, ↓spAbs, ↓spObj, RI, RLg, b2i_lo, b2i_hi, getL, setL, ltL, killL, isLong, inl, cnd, br, tgt, rcv, rpl, mputI, mputL, mputP, fv, fr, mcat, mcs, entL, entA, rfit, nf_0, nf_1, nf_2, nf_3, nf2_0, nf2_1, b2i_0, b2i_1, RI_b2i, b2i_fit, List.append, List.length, List.replicate, List.cons_append, List.nil_append, List.length_cons, List.length_nil, List.replicate_succ, List.replicate_zero, List.tail_cons, reduceIte, if_true, if_false, ite_true, ite_false, Bool.false_eq_true, true_and, and_true, and_self, false_and, and_false, or_self, or_true, true_or, or_false, false_or, not_true_eq_false, not_false_eq_true, ne_eq, forall_const, implies_true, imp_self, true_implies, false_implies, Nat.reduceAdd, Nat.reduceSub, Nat.reduceMul, Nat.reduceDiv, Nat.reduceMod, Nat.reduceEqDiff, Nat.reduceLT, Nat.reduceLeDiff, Nat.reduceBEq, Nat.add_zero, Nat.zero_add, Nat.le_refl, Nat.not_lt_zero, Nat.succ_eq_add_one, Int.reduceNatCast, Int.cast_ofNat_Int, Int.reduceSub, Int.reduceMul, Int.reduceNeg, Int.reduceLE, Int.reduceLT, Int.reduceToNat, Int.reduceEq, Int.reduceNe, Int.reduceAdd, Option.some.injEq, kX7_fillRest, rmX7_fillRest, ↓ofX7_147, ↓ofX7_21, ↓ofX7_44, ↓ofX7_47, ↓ozX7_139, G_1, G_2, G_3, G_4, G_35, G_36, G_37, G_38, G_39, G_40, G_41, G_42, G_43, G_44, G_45, G_46, G_47, G_48, G_49, G_140, G_141, G_142, G_143, G_144, G_145, G_146, G_178, G_179, G_180, G_181, G_182, G_183, G_184, G_189, G_198, G_207, PF_1_0, PF_1_1, PF_1_2, PF_1_3, PF_2_0, PF_2_1, PF_2_3, PF_2_4, PF_2_5, PF_2_6, PF_2_7, PF_2_8, PF_2_9, PF_2_10, PF_2_11, PF_3_0, PF_35_0, PF_35_1, PF_35_2, PF_35_3, PF_40_0, PF_40_1, PF_40_2, PF_44_0, PF_44_1, PF_44_2, PF_145_0, PF_145_1, PF_179_0, PF_179_1, PF_179_2, PF_179_3, PF_179_8, PF_179_9, PF_179_10]
      refine ⟨by omega, by omega, fun q => by omega, fun q => ⟨by omega, by omega, by omega, by omega, by omega, by omega, by omega, by omega, fun q2 => ⟨by omega, by omega, push (fun _ => q2)⟩, fun q2 => ?_⟩⟩
      rw [show tl + -1 = tl - 1 by omega]
      refine ih ⟨a1, by omega, by omega, fun k k0 k1 => a4 k k0 (by omega), fun k k' k0 k1 k2 => a5 k k' k0 k1 (by omega)⟩ (fun j j0 j1 j2 => ?_)
      rcases h2 j j0 j1 j2 with c | ⟨k, k0, k1, k2, k3⟩
      · exact .inl c
      · by_cases e : k = tl - 1
        · subst e; exact .inl (by omega)
        · exact .inr ⟨k, k0, by omega, k2, k3⟩
set_option maxHeartbeats 1600000 in
set_option maxRecDepth 100000 in
theorem lpX7_q2 {post : Option MV → MS → Prop} {U : Pt → Prop} {N : Nat} {I L : Int → Int → Int} {a bk hd p lo : Int} (hc : carOK I) (p1 : 1 ≤ p) (p2 : p ≤ 60) (ho : oR (I 140))
    (h : ∀ (I1 : Int → Int → Int) (tl : Int), (∀ b k, b ≠ 141 → I1 b k = I b k) → qI (I1 141) (I 140) hd tl (I 37 p + 1) → qC (I1 141) (I 140) lo hd tl (I 37 p + 1) → Ok RX7 cX7_fillRest 7 rmX7_fillRest false none post U (94, [some (.inr (.inr (some 2))), some (.inr (.inr (some a))), some (.inl bk), some (.inl hd), some (.inl tl), some (.inl (I 37 p + 1)), some (.inl p)], [], (N, PF, I1, L), 0, 0)) :
    ∀ (m : Nat) (nx tl : Int) (I1 : Int → Int → Int), nx + m = I 37 p + 1 → 1 ≤ nx → (∀ b k, b ≠ 141 → I1 b k = I b k) → qI (I1 141) (I 140) hd tl nx → qC (I1 141) (I 140) lo hd tl nx →
    Ok RX7 cX7_fillRest 7 rmX7_fillRest false none post U (18, [some (.inr (.inr (some 2))), some (.inr (.inr (some a))), some (.inl bk), some (.inl hd), some (.inl tl), some (.inl nx), some (.inl p)], [], (N, PF, I1, L), 0, 0)
  | 0, nx, tl, I1, hm, hn, h1, h2, h3 => by
    have e37 : I1 37 = I 37 := funext fun k => h1 _ k (by omega)
    have hr := rch_rng hc.1.1 p2
    rw [← hc.1.2 p p1 p2] at hr
    refine Ok.seg mdX7_fillRest [11, 18, 40, 94] 20 ?_
    simp only [wp_nil, wp_cons, ↓stp, ↓lI, ↓lL, ↓lR, ↓lIn_0, ↓lIn_1, ↓lIn_2, ↓lIn_3, ↓lLn_0, ↓lLn_1, ↓lLn_2, ↓lLn_3, ↓lRn_0, ↓lRn_1, ↓lRn_2, ↓lRn_3, ↓pI, ↓pL, ↓pR, ↓pA, ↓pN, ↓pV, ↓fp, ↓tsw, ↓oS, ↓spMax, ↓spMin, ↓spAbs, ↓spObj, RI, RLg, b2i_lo, b2i_hi, getL, setL, ltL, killL, isLong, inl, cnd, br, tgt, rcv, rpl, mputI, mputL, mputP, fv, fr, mcat, mcs, entL, entA, rfit, nf_0, nf_1, nf_2, nf_3, nf2_0, nf2_1, b2i_0, b2i_1, RI_b2i, b2i_fit, List.append, List.length, List.replicate, List.cons_append, List.nil_append, List.length_cons, List.length_nil, List.replicate_succ, List.replicate_zero, List.tail_cons, reduceIte, if_true, if_false, ite_true, ite_false, Bool.false_eq_true, true_and, and_true, and_self, false_and, and_false, or_self, or_true, true_or, or_false, false_or, not_true_eq_false, not_false_eq_true, ne_eq, forall_const, implies_true, imp_self, true_implies, false_implies, Nat.reduceAdd, Nat.reduceSub, Nat.reduceMul, Nat.reduceDiv, Nat.reduceMod, Nat.reduceEqDiff, Nat.reduceLT, Nat.reduceLeDiff, Nat.reduceBEq, Nat.add_zero, Nat.zero_add, Nat.le_refl, Nat.not_lt_zero, Nat.succ_eq_add_one, Int.reduceNatCast, Int.cast_ofNat_Int, Int.reduceSub, Int.reduceMul, Int.reduceNeg, Int.reduceLE, Int.reduceLT, Int.reduceToNat, Int.reduceEq, Int.reduceNe, Int.reduceAdd, Option.some.injEq, kX7_fillRest, rmX7_fillRest, ↓ofX7_147, ↓ofX7_21, ↓ofX7_44, ↓ofX7_47, ↓ozX7_139, e37, G_1, G_2, G_3, G_4, G_35, G_36, G_37, G_38, G_39, G_40, G_41, G_42, G_43, G_44, G_45, G_46, G_47, G_48, G_49, G_140, G_141, G_142, G_143, G_144, G_145, G_146, G_178, G_179, G_180, G_181, G_182, G_183, G_184, G_189, G_198, G_207, PF_1_0, PF_1_1, PF_1_2, PF_1_3, PF_2_0, PF_2_1, PF_2_3, PF_2_4, PF_2_5, PF_2_6, PF_2_7, PF_2_8, PF_2_9, PF_2_10, PF_2_11, PF_3_0, PF_35_0, PF_35_1, PF_35_2, PF_35_3, PF_40_0, PF_40_1, PF_40_2, PF_44_0, PF_44_1, PF_44_2, PF_145_0, PF_145_1, PF_179_0, PF_179_1, PF_179_2, PF_179_3, PF_179_8, PF_179_9, PF_179_10]
    refine ⟨by omega, by omega, by omega, by omega, fun q => ?_, fun q => by omega⟩
    have e : nx = I 37 p + 1 := by omega
    subst e
    exact h I1 tl h1 h2 h3
  | m + 1, nx, tl, I1, hm, hn, h1, h2, h3 => by
    have ih := lpX7_q2 (U := U) hc p1 p2 ho h m (nx + 1)
    have e37 : I1 37 = I 37 := funext fun k => h1 _ k (by omega)
    have e140 : I1 140 = I 140 := funext fun k => h1 _ k (by omega)
    have hr := rch_rng hc.1.1 p2
    rw [← hc.1.2 p p1 p2] at hr
    refine Ok.seg mdX7_fillRest [11, 18, 40, 94] 20 ?_
    simp only [wp_nil, wp_cons, ↓stp, ↓lI, ↓lL, ↓lR, ↓lIn_0, ↓lIn_1, ↓lIn_2, ↓lIn_3, ↓lLn_0, ↓lLn_1, ↓lLn_2, ↓lLn_3, ↓lRn_0, ↓lRn_1, ↓lRn_2, ↓lRn_3, ↓pI, ↓pL, ↓pR, ↓pA, ↓pN, ↓pV, ↓fp, ↓tsw, ↓oS, ↓spMax, ↓spMin, ↓spAbs, ↓spObj, RI, RLg, b2i_lo, b2i_hi, getL, setL, ltL, killL, isLong, inl, cnd, br, tgt, rcv, rpl, mputI, mputL, mputP, fv, fr, mcat, mcs, entL, entA, rfit, nf_0, nf_1, nf_2, nf_3, nf2_0, nf2_1, b2i_0, b2i_1, RI_b2i, b2i_fit, List.append, List.length, List.replicate, List.cons_append, List.nil_append, List.length_cons, List.length_nil, List.replicate_succ, List.replicate_zero, List.tail_cons, reduceIte, if_true, if_false, ite_true, ite_false, Bool.false_eq_true, true_and, and_true, and_self, false_and, and_false, or_self, or_true, true_or, or_false, false_or, not_true_eq_false, not_false_eq_true, ne_eq, forall_const, implies_true, imp_self, true_implies, false_implies, Nat.reduceAdd, Nat.reduceSub, Nat.reduceMul, Nat.reduceDiv, Nat.reduceMod, Nat.reduceEqDiff, Nat.reduceLT, Nat.reduceLeDiff, Nat.reduceBEq, Nat.add_zero, Nat.zero_add, Nat.le_refl, Nat.not_lt_zero, Nat.succ_eq_add_one, Int.reduceNatCast, Int.cast_ofNat_Int, Int.reduceSub, Int.reduceMul, Int.reduceNeg, Int.reduceLE, Int.reduceLT, Int.reduceToNat, Int.reduceEq, Int.reduceNe, Int.reduceAdd, Option.some.injEq, kX7_fillRest, rmX7_fillRest, ↓ofX7_147, ↓ofX7_21, ↓ofX7_44, ↓ofX7_47, ↓ozX7_139, e37, G_1, G_2, G_3, G_4, G_35, G_36, G_37, G_38, G_39, G_40, G_41, G_42, G_43, G_44, G_45, G_46, G_47, G_48, G_49, G_140, G_141, G_142, G_143, G_144, G_145, G_146, G_178, G_179, G_180, G_181, G_182, G_183, G_184, G_189, G_198, G_207, PF_1_0, PF_1_1, PF_1_2, PF_1_3, PF_2_0, PF_2_1, PF_2_3, PF_2_4, PF_2_5, PF_2_6, PF_2_7, PF_2_8, PF_2_9, PF_2_10, PF_2_11, PF_3_0, PF_35_0, PF_35_1, PF_35_2, PF_35_3, PF_40_0, PF_40_1, PF_40_2, PF_44_0, PF_44_1, PF_44_2, PF_145_0, PF_145_1, PF_179_0, PF_179_1, PF_179_2, PF_179_3, PF_179_8, PF_179_9, PF_179_10]
    refine ⟨by omega, by omega, by omega, by omega, fun q => by omega, fun q => ⟨by omega, fun q2 => by omega, fun q2 => ?_⟩⟩
    have hh := h2
    obtain ⟨a1, a2, a3, a4, a5⟩ := hh
    refine lpX7_q1 (lo := lo) hn (by omega) (by rw [e140]; exact ho) (fun tl' b1 b2 => ?_) (tl - hd).toNat tl (by omega) (by rw [e140]; exact h2) (fun j j0 j1 j2 => .inr (by rw [e140]; exact h3 j j0 j1 j2))
    rw [e140] at b1 b2
    exact ih _ _ (by omega) (by omega) (fun b k hb => by rw [upI_ne hb]; exact h1 b k hb) b1 b2
set_option maxHeartbeats 1600000 in
set_option maxRecDepth 100000 in
theorem lpX7_q3 {post : Option MV → MS → Prop} {U : Pt → Prop} {N : Nat} {I L : Int → Int → Int} {a bk tl p nx : Int} (ha : 50 ≤ a ∧ a ≤ 139) (hb : 1 ≤ bk ∧ bk ≤ 30) (p1 : 1 ≤ p) (p2 : p ≤ 60) (hn : p < nx) (hn2 : nx ≤ 61) (ho : oR (I 140))
    (h : ∀ (hd q : Int), qI (I 141) (I 140) hd tl nx → qC (I 141) (I 140) (p - bk) hd tl nx → 1 ≤ q → p - bk ≤ q → q < nx → (∀ j, 1 ≤ j → p - bk ≤ j → j < nx → I 140 q ≤ I 140 j) → Ok RX7 cX7_fillRest 7 rmX7_fillRest false none post U (11, [some (.inr (.inr (some 2))), some (.inr (.inr (some a))), some (.inl bk), some (.inl hd), some (.inl tl), some (.inl nx), some (.inl (p + 1))], [], (N, PF, upI I a p (I 140 q), L), 0, 0)) :
    ∀ (m : Nat) (hd : Int), hd + m = tl → qI (I 141) (I 140) hd tl nx → qC (I 141) (I 140) (p - bk) hd tl nx →
    Ok RX7 cX7_fillRest 7 rmX7_fillRest false none post U (94, [some (.inr (.inr (some 2))), some (.inr (.inr (some a))), some (.inl bk), some (.inl hd), some (.inl tl), some (.inl nx), some (.inl p)], [], (N, PF, I, L), 0, 0)
  | 0, hd, hm, h1, h2 => by
    obtain ⟨k, k0, k1, k2, k3⟩ := h2 p p1 (by omega) hn
    omega
  | m + 1, hd, hm, h1, h2 => by
    have ih := lpX7_q3 (U := U) ha hb p1 p2 hn hn2 ho h m (hd + 1) (by omega)
    have hh := h1
    obtain ⟨a1, a2, a3, a4, a5⟩ := hh
    have b4 := a4 hd (by omega) (by omega)
    have ho2 := ho (I 141 hd) b4.1 (by omega)
    have hg := G_row (a := a) (by omega) (by omega)
    refine Ok.seg mdX7_fillRest [11, 18, 40, 94] 30 ?_
    simp only [wp_nil, wp_cons, ↓stp, ↓lI, ↓lL, ↓lR, ↓lIn_0, ↓lIn_1, ↓lIn_2, ↓lIn_3, ↓lLn_0, ↓lLn_1, ↓lLn_2, ↓lLn_3, ↓lRn_0, ↓lRn_1, ↓lRn_2, ↓lRn_3, ↓pI, ↓pL, ↓pR, ↓pA, ↓pN, ↓pV, ↓fp, ↓tsw, ↓oS, ↓spMax, ↓spMin, ↓spAbs, ↓spObj, RI, RLg, b2i_lo, b2i_hi, getL, setL, ltL, killL, isLong, inl, cnd, br, tgt, rcv, rpl, mputI, mputL, mputP, fv, fr, mcat, mcs, entL, entA, rfit, nf_0, nf_1, nf_2, nf_3, nf2_0, nf2_1, b2i_0, b2i_1, RI_b2i, b2i_fit, List.append, List.length, List.replicate, List.cons_append, List.nil_append, List.length_cons, List.length_nil, List.replicate_succ, List.replicate_zero, List.tail_cons, reduceIte, if_true, if_false, ite_true, ite_false, Bool.false_eq_true, true_and, and_true, and_self, false_and, and_false, or_self, or_true, true_or, or_false, false_or, not_true_eq_false, not_false_eq_true, ne_eq, forall_const, implies_true, imp_self, true_implies, false_implies, Nat.reduceAdd, Nat.reduceSub, Nat.reduceMul, Nat.reduceDiv, Nat.reduceMod, Nat.reduceEqDiff, Nat.reduceLT, Nat.reduceLeDiff, Nat.reduceBEq, Nat.add_zero, Nat.zero_add, Nat.le_refl, Nat.not_lt_zero, Nat.succ_eq_add_one, Int.reduceNatCast, Int.cast_ofNat_Int, Int.reduceSub, Int.reduceMul, Int.reduceNeg, Int.reduceLE, Int.reduceLT, Int.reduceToNat, Int.reduceEq, Int.reduceNe, Int.reduceAdd, Option.some.injEq, kX7_fillRest, rmX7_fillRest, ↓ofX7_147, ↓ofX7_21, ↓ofX7_44, ↓ofX7_47, ↓ozX7_139, hg, G_1, G_2, G_3, G_4, G_35, G_36, G_37, G_38, G_39, G_40, G_41, G_42, G_43, G_44, G_45, G_46, G_47, G_48, G_49, G_140, G_141, G_142, G_143, G_144, G_145, G_146, G_178, G_179, G_180, G_181, G_182, G_183, G_184, G_189, G_198, G_207, PF_1_0, PF_1_1, PF_1_2, PF_1_3, PF_2_0, PF_2_1, PF_2_3, PF_2_4, PF_2_5, PF_2_6, PF_2_7, PF_2_8, PF_2_9, PF_2_10, PF_2_11, PF_3_0, PF_35_0, PF_35_1, PF_35_2, PF_35_3, PF_40_0, PF_40_1, PF_40_2, PF_44_0, PF_44_1, PF_44_2, PF_145_0, PF_145_1, PF_179_0, PF_179_1, PF_179_2, PF_179_3, PF_179_8, PF_179_9, PF_179_10]
    refine ⟨by omega, by omega, fun q => by omega, fun q => ⟨by omega, by omega, by omega, by omega, fun q2 => ⟨by omega, by omega, fun q => by omega, fun q => ⟨by omega, by omega, by omega, by omega, by omega, by omega, ?_⟩⟩, fun q2 => ?_⟩⟩
    · refine h hd (I 141 hd) h1 h2 b4.1 q2 b4.2 (fun j j0 j1 j2 => ?_)
      obtain ⟨k, k0, k1, k2, k3⟩ := h2 j j0 j1 j2
      by_cases e : k = hd
      · subst e; exact k3
      · have := (a5 hd k (by omega) (by omega) k1).2; omega
    · refine ih ⟨by omega, by omega, a3, fun k k0 k1 => a4 k (by omega) k1, fun k k' k0 k1 k2 => a5 k k' (by omega) k1 k2⟩ (fun j j0 j1 j2 => ?_)
      obtain ⟨k, k0, k1, k2, k3⟩ := h2 j j0 j1 j2
      by_cases e : k = hd
      · subst e; omega
      · exact ⟨k, by omega, k1, k2, k3⟩
def rstV (I : Int → Int → Int) (bk p v : Int) : Prop := (∀ q, 1 ≤ q → p - bk ≤ q → q ≤ I 37 p → v ≤ I 140 q) ∧ ∃ q, 1 ≤ q ∧ p - bk ≤ q ∧ q ≤ I 37 p ∧ v = I 140 q
set_option maxHeartbeats 1600000 in
set_option maxRecDepth 100000 in
theorem lpX7_q4 {post : Option MV → MS → Prop} {U : Pt → Prop} {N : Nat} {I L : Int → Int → Int} {a bk : Int} (ha : 50 ≤ a ∧ a ≤ 139) (hb : 1 ≤ bk ∧ bk ≤ 30) (hc : carOK I) (ho : oR (I 140))
    (h : ∀ I' : Int → Int → Int, (∀ b k, b ≠ 141 → ¬ (b = a ∧ 1 ≤ k ∧ k ≤ 60) → I' b k = I b k) → (∀ p, 1 ≤ p → p ≤ 60 → rstV I bk p (I' a p)) → post none (N, PF, I', L)) :
    ∀ (m : Nat) (p hd tl nx : Int) (I1 : Int → Int → Int), p + m = 61 → 1 ≤ p → (nx = if p = 1 then 1 else I 37 (p - 1) + 1) → (∀ b k, b ≠ 141 → ¬ (b = a ∧ 1 ≤ k ∧ k ≤ 60) → I1 b k = I b k) → (∀ j, 1 ≤ j → j < p → rstV I bk j (I1 a j)) → qI (I1 141) (I 140) hd tl nx → qC (I1 141) (I 140) (p - 1 - bk) hd tl nx →
    Ok RX7 cX7_fillRest 7 rmX7_fillRest false none post U (11, [some (.inr (.inr (some 2))), some (.inr (.inr (some a))), some (.inl bk), some (.inl hd), some (.inl tl), some (.inl nx), some (.inl p)], [], (N, PF, I1, L), 0, 0)
  | 0, p, hd, tl, nx, I1, hm, p1, hn, h1, h2, h3, h4 => by
    refine Ok.seg mdX7_fillRest [11, 18, 40, 94] 20 ?_
    simp only [wp_nil, wp_cons, ↓stp, ↓lI, ↓lL, ↓lR, ↓lIn_0, ↓lIn_1, ↓lIn_2, ↓lIn_3, ↓lLn_0, ↓lLn_1, ↓lLn_2, ↓lLn_3, ↓lRn_0, ↓lRn_1, ↓lRn_2, ↓lRn_3, ↓pI, ↓pL, ↓pR, ↓pA, ↓pN, ↓pV, ↓fp, ↓tsw, ↓oS, ↓spMax, ↓spMin, ↓spAbs, ↓spObj, RI, RLg, b2i_lo, b2i_hi, getL, setL, ltL, killL, isLong, inl, cnd, br, tgt, rcv, rpl, mputI, mputL, mputP, fv, fr, mcat, mcs, entL, entA, rfit, nf_0, nf_1, nf_2, nf_3, nf2_0, nf2_1, b2i_0, b2i_1, RI_b2i, b2i_fit, List.append, List.length, List.replicate, List.cons_append, List.nil_append, List.length_cons, List.length_nil, List.replicate_succ, List.replicate_zero, List.tail_cons, reduceIte, if_true, if_false, ite_true, ite_false, Bool.false_eq_true, true_and, and_true, and_self, false_and, and_false, or_self, or_true, true_or, or_false, false_or, not_true_eq_false, not_false_eq_true, ne_eq, forall_const, implies_true, imp_self, true_implies, false_implies, Nat.reduceAdd, Nat.reduceSub, Nat.reduceMul, Nat.reduceDiv, Nat.reduceMod, Nat.reduceEqDiff, Nat.reduceLT, Nat.reduceLeDiff, Nat.reduceBEq, Nat.add_zero, Nat.zero_add, Nat.le_refl, Nat.not_lt_zero, Nat.succ_eq_add_one, Int.reduceNatCast, Int.cast_ofNat_Int, Int.reduceSub, Int.reduceMul, Int.reduceNeg, Int.reduceLE, Int.reduceLT, Int.reduceToNat, Int.reduceEq, Int.reduceNe, Int.reduceAdd, Option.some.injEq, kX7_fillRest, rmX7_fillRest, ↓ofX7_147, ↓ofX7_21, ↓ofX7_44, ↓ofX7_47, ↓ozX7_139, G_1, G_2, G_3, G_4, G_35, G_36, G_37, G_38, G_39, G_40, G_41, G_42, G_43, G_44, G_45, G_46, G_47, G_48, G_49, G_140, G_141, G_142, G_143, G_144, G_145, G_146, G_178, G_179, G_180, G_181, G_182, G_183, G_184, G_189, G_198, G_207, PF_1_0, PF_1_1, PF_1_2, PF_1_3, PF_2_0, PF_2_1, PF_2_3, PF_2_4, PF_2_5, PF_2_6, PF_2_7, PF_2_8, PF_2_9, PF_2_10, PF_2_11, PF_3_0, PF_35_0, PF_35_1, PF_35_2, PF_35_3, PF_40_0, PF_40_1, PF_40_2, PF_44_0, PF_44_1, PF_44_2, PF_145_0, PF_145_1, PF_179_0, PF_179_1, PF_179_2, PF_179_3, PF_179_8, PF_179_9, PF_179_10]
    exact ⟨by omega, fun _ => h I1 h1 (fun j j0 j1 => h2 j j0 (by omega)), fun q => by omega⟩
  | m + 1, p, hd, tl, nx, I1, hm, p1, hn, h1, h2, h3, h4 => by
    have ih := lpX7_q4 (U := U) ha hb hc ho h m (p + 1)
    have e37 : I1 37 = I 37 := funext fun k => h1 _ k (by omega) (by omega)
    have e140 : I1 140 = I 140 := funext fun k => h1 _ k (by omega) (by omega)
    have hc2 : carOK I1 := carOK_cg (fun b j hb => h1 b j (by omega) (by omega)) hc
    have hr := rch_rng hc.1.1 (show p ≤ 60 by omega)
    rw [← hc.1.2 p p1 (by omega)] at hr
    have hnx : nx ≤ I 37 p + 1 ∧ 1 ≤ nx := by
      rw [hn]
      by_cases e : p = 1
      · rw [if_pos e]; omega
      · rw [if_neg e]
        have := rch_mono (p := p - 1) hc.1.1
        rw [show p - 1 + 1 = p by omega, ← hc.1.2 p p1 (by omega), ← hc.1.2 (p - 1) (by omega) (by omega)] at this
        have h2 := rch_rng hc.1.1 (show p - 1 ≤ 60 by omega)
        rw [← hc.1.2 (p - 1) (by omega) (by omega)] at h2
        omega
    refine Ok.seg mdX7_fillRest [11, 18, 40, 94] 20 ?_
    simp only [wp_nil, wp_cons, ↓stp, ↓lI, ↓lL, ↓lR, ↓lIn_0, ↓lIn_1, ↓lIn_2, ↓lIn_3, ↓lLn_0, ↓lLn_1, ↓lLn_2, ↓lLn_3, ↓lRn_0, ↓lRn_1, ↓lRn_2, ↓lRn_3, ↓pI, ↓pL, ↓pR, ↓pA, ↓pN, ↓pV, ↓fp, ↓tsw, ↓oS, ↓spMax, ↓spMin, ↓spAbs, ↓spObj, RI, RLg, b2i_lo, b2i_hi, getL, setL, ltL, killL, isLong, inl, cnd, br, tgt, rcv, rpl, mputI, mputL, mputP, fv, fr, mcat, mcs, entL, entA, rfit, nf_0, nf_1, nf_2, nf_3, nf2_0, nf2_1, b2i_0, b2i_1, RI_b2i, b2i_fit, List.append, List.length, List.replicate, List.cons_append, List.nil_append, List.length_cons, List.length_nil, List.replicate_succ, List.replicate_zero, List.tail_cons, reduceIte, if_true, if_false, ite_true, ite_false, Bool.false_eq_true, true_and, and_true, and_self, false_and, and_false, or_self, or_true, true_or, or_false, false_or, not_true_eq_false, not_false_eq_true, ne_eq, forall_const, implies_true, imp_self, true_implies, false_implies, Nat.reduceAdd, Nat.reduceSub, Nat.reduceMul, Nat.reduceDiv, Nat.reduceMod, Nat.reduceEqDiff, Nat.reduceLT, Nat.reduceLeDiff, Nat.reduceBEq, Nat.add_zero, Nat.zero_add, Nat.le_refl, Nat.not_lt_zero, Nat.succ_eq_add_one, Int.reduceNatCast, Int.cast_ofNat_Int, Int.reduceSub, Int.reduceMul, Int.reduceNeg, Int.reduceLE, Int.reduceLT, Int.reduceToNat, Int.reduceEq, Int.reduceNe, Int.reduceAdd, Option.some.injEq, kX7_fillRest, rmX7_fillRest, ↓ofX7_147, ↓ofX7_21, ↓ofX7_44, ↓ofX7_47, ↓ozX7_139, G_1, G_2, G_3, G_4, G_35, G_36, G_37, G_38, G_39, G_40, G_41, G_42, G_43, G_44, G_45, G_46, G_47, G_48, G_49, G_140, G_141, G_142, G_143, G_144, G_145, G_146, G_178, G_179, G_180, G_181, G_182, G_183, G_184, G_189, G_198, G_207, PF_1_0, PF_1_1, PF_1_2, PF_1_3, PF_2_0, PF_2_1, PF_2_3, PF_2_4, PF_2_5, PF_2_6, PF_2_7, PF_2_8, PF_2_9, PF_2_10, PF_2_11, PF_3_0, PF_35_0, PF_35_1, PF_35_2, PF_35_3, PF_40_0, PF_40_1, PF_40_2, PF_44_0, PF_44_1, PF_44_2, PF_145_0, PF_145_1, PF_179_0, PF_179_1, PF_179_2, PF_179_3, PF_179_8, PF_179_9, PF_179_10]
    refine ⟨by omega, fun q => by omega, fun q => ?_⟩
    rw [← e140] at h3 h4
    refine lpX7_q2 (I := I1) (lo := p - 1 - bk) hc2 p1 (by omega) (by rw [e140]; exact ho) (fun I2 tl2 c1 c2 c3 => ?_) (I 37 p + 1 - nx).toNat nx tl I1 (by rw [e37]; omega) hnx.2 (fun _ _ _ => rfl) h3 h4
    have hh := c2
    obtain ⟨a1, a2, a3, a4, a5⟩ := hh
    have e142 : I2 140 = I1 140 := funext fun k => c1 _ k (by omega)
    rw [e37] at c2 c3 ⊢
    rw [← e142] at c2 c3
    refine lpX7_q3 (I := I2) ha hb p1 (by omega) (by omega) (by omega) (by rw [e142, e140]; exact ho) (fun hd3 v d1 d2 d3 d4 d5 d6 => ?_) (tl2 - hd).toNat hd (by omega) c2 (fun j j0 j1 j2 => c3 j j0 (by omega) j2)
    rw [e142, e140] at d6 d1 d2 ⊢
    refine ih _ _ _ _ (by omega) (by omega) (by rw [if_neg (by omega), show p + 1 - 1 = p by omega]) (fun b k b1 b2 => ?_) (fun j j0 j1 => ?_) ?_ ?_
    · unfold upI
      rw [if_neg (by omega), c1 b k b1]; exact h1 b k b1 b2
    · by_cases e : j = p
      · subst e; rw [upI_same]
        exact ⟨fun q q0 q1 q2 => d6 q q0 q1 (by omega), v, d3, d4, by omega, rfl⟩
      · rw [upI_nj e, c1 a j (by omega)]; exact h2 j j0 (by omega)
    · rw [show upI I2 a p (I 140 v) 141 = I2 141 from funext fun k => upI_ne (by omega)]; exact d1
    · rw [show upI I2 a p (I 140 v) 141 = I2 141 from funext fun k => upI_ne (by omega), show p + 1 - 1 = p by omega]; exact d2
set_option maxRecDepth 100000 in
set_option maxHeartbeats 800000 in
theorem mX7_fillRest : MOK yX7_fillRest cX7_fillRest 7 none rmX7_fillRest ciX7_fillRest := by
  refine mok_of (ini := false) (by decide +kernel) (by decide) rfl rfl ?_
  intro σ As K hrc hl h
  obtain ⟨N, P, I, L⟩ := σ
  have h9 := pR_iff.mp h
  clear h
  obtain ⟨s, r, e9, h⟩ := h9
  subst e9
  have h9 := pR_iff.mp h
  clear h
  obtain ⟨a, r, e9, h⟩ := h9
  subst e9
  have h9 := pI_iff.mp h
  clear h
  obtain ⟨bk, r, e9, h⟩ := h9
  subst e9
  have h9 := pN_iff.mp h
  clear h
  obtain ⟨e9, h⟩ := h9
  subst e9
  dsimp only at h
  obtain ⟨rfl, rfl, a0, a1, b0, b1, hc, ho, h⟩ := h
  refine ⟨Nat.le_of_ble_eq_true rfl, Ok.seg mdX7_fillRest [11] 12 ?_⟩
  simp only [wp_nil, wp_cons, ↓stp, ↓lI, ↓lL, ↓lR, ↓lIn_0, ↓lIn_1, ↓lIn_2, ↓lIn_3, ↓lLn_0, ↓lLn_1, ↓lLn_2, ↓lLn_3, ↓lRn_0, ↓lRn_1, ↓lRn_2, ↓lRn_3, ↓pI, ↓pL, ↓pR, ↓pA, ↓pN, ↓pV, ↓fp, ↓tsw, ↓oS, ↓spMax, ↓spMin, ↓spAbs, ↓spObj, RI, RLg, b2i_lo, b2i_hi, getL, setL, ltL, killL, isLong, inl, cnd, br, tgt, rcv, rpl, mputI, mputL, mputP, fv, fr, mcat, mcs, entL, entA, rfit, nf_0, nf_1, nf_2, nf_3, nf2_0, nf2_1, b2i_0, b2i_1, RI_b2i, b2i_fit, List.append, List.length, List.replicate, List.cons_append, List.nil_append, List.length_cons, List.length_nil, List.replicate_succ, List.replicate_zero, List.tail_cons, reduceIte, if_true, if_false, ite_true, ite_false, Bool.false_eq_true, true_and, and_true, and_self, false_and, and_false, or_self, or_true, true_or, or_false, false_or, not_true_eq_false, not_false_eq_true, ne_eq, forall_const, implies_true, imp_self, true_implies, false_implies, Nat.reduceAdd, Nat.reduceSub, Nat.reduceMul, Nat.reduceDiv, Nat.reduceMod, Nat.reduceEqDiff, Nat.reduceLT, Nat.reduceLeDiff, Nat.reduceBEq, Nat.add_zero, Nat.zero_add, Nat.le_refl, Nat.not_lt_zero, Nat.succ_eq_add_one, Int.reduceNatCast, Int.cast_ofNat_Int, Int.reduceSub, Int.reduceMul, Int.reduceNeg, Int.reduceLE, Int.reduceLT, Int.reduceToNat, Int.reduceEq, Int.reduceNe, Int.reduceAdd, Option.some.injEq, kX7_fillRest, rmX7_fillRest, ↓ofX7_147, ↓ofX7_21, ↓ofX7_44, ↓ofX7_47, ↓ozX7_139, G_1, G_2, G_3, G_4, G_35, G_36, G_37, G_38, G_39, G_40, G_41, G_42, G_43, G_44, G_45, G_46, G_47, G_48, G_49, G_140, G_141, G_142, G_143, G_144, G_145, G_146, G_178, G_179, G_180, G_181, G_182, G_183, G_184, G_189, G_198, G_207, PF_1_0, PF_1_1, PF_1_2, PF_1_3, PF_2_0, PF_2_1, PF_2_3, PF_2_4, PF_2_5, PF_2_6, PF_2_7, PF_2_8, PF_2_9, PF_2_10, PF_2_11, PF_3_0, PF_35_0, PF_35_1, PF_35_2, PF_35_3, PF_40_0, PF_40_1, PF_40_2, PF_44_0, PF_44_1, PF_44_2, PF_145_0, PF_145_1, PF_179_0, PF_179_1, PF_179_2, PF_179_3, PF_179_8, PF_179_9, PF_179_10]
  exact lpX7_q4 ⟨a0, a1⟩ ⟨b0, b1⟩ hc ho (fun I' h1 h2 => ⟨trivial, h I' h1 h2⟩) 60 1 0 0 1 I (by omega) (by omega) rfl (fun _ _ _ _ => rfl) (fun j j0 j1 => by omega) ⟨by omega, by omega, by omega, fun k k0 k1 => by omega, fun k k' k0 k1 k2 => by omega⟩ (fun j j0 j1 j2 => by omega)
end
section
/-! LapBoard$Ways.fillRests -/
/-- t may be the time of all stations after i, from lane l at pace p; k stations are left -/
def Ach (lm : Int → Int → Int) (tm : Int → Int → Int → Int) (rc : Int → Int) (bk : Int) : Nat → Int → Int → Int → Int → Prop
  | 0, _, _, _, t => t = 0
  | k + 1, i, l, p, t => ∃ l' q t', nr l l' ∧ (1 ≤ q ∧ p - bk ≤ q ∧ q ≤ rc p ∧ q ≤ lm (i + 1) l') ∧ Ach lm tm rc bk k (i + 1) l' q t' ∧ t = tm (i + 1) (dif l l') q + t'
theorem Ach_cg {lm lm' : Int → Int → Int} {tm tm' : Int → Int → Int → Int} {rc rc' : Int → Int} {bk n : Int} (h1 : ∀ i l, 0 ≤ i → i < n → 0 ≤ l → l ≤ 2 → lm i l = lm' i l) (hl : ∀ i l, 0 ≤ i → i < n → 0 ≤ l → l ≤ 2 → lm i l ≤ 60) (h2 : ∀ i c q, 0 ≤ i → i < n → (c = 0 ∨ c = 1) → 1 ≤ q → q ≤ 60 → tm i c q = tm' i c q) (h3 : ∀ p, 1 ≤ p → p ≤ 60 → rc p = rc' p) :
    ∀ (k : Nat) (i l p t : Int), 0 ≤ i → i + k < n → 1 ≤ p → p ≤ 60 → (Ach lm tm rc bk k i l p t ↔ Ach lm' tm' rc' bk k i l p t)
  | 0, i, l, p, t, i0, i1, p0, p1 => Iff.rfl
  | k + 1, i, l, p, t, i0, i1, p0, p1 => by
    constructor
    · rintro ⟨l', q, t', a, ⟨b1, b2, b3, b4⟩, c, d⟩
      have e := hl (i + 1) l' (by omega) (by omega) a.2.2.1 a.2.2.2
      refine ⟨l', q, t', a, ⟨b1, b2, by rw [← h3 p p0 p1]; exact b3, by rw [← h1 (i + 1) l' (by omega) (by omega) a.2.2.1 a.2.2.2]; exact b4⟩, (Ach_cg h1 hl h2 h3 k (i + 1) l' q t' (by omega) (by omega) b1 (by omega)).mp c, ?_⟩
      rw [← h2 (i + 1) _ q (by omega) (by omega) (dif_rng _ _) b1 (by omega)]; exact d
    · rintro ⟨l', q, t', a, ⟨b1, b2, b3, b4⟩, c, d⟩
      have e := hl (i + 1) l' (by omega) (by omega) a.2.2.1 a.2.2.2
      rw [← h1 (i + 1) l' (by omega) (by omega) a.2.2.1 a.2.2.2] at b4
      refine ⟨l', q, t', a, ⟨b1, b2, by rw [h3 p p0 p1]; exact b3, b4⟩, (Ach_cg h1 hl h2 h3 k (i + 1) l' q t' (by omega) (by omega) b1 (by omega)).mpr c, ?_⟩
      rw [h2 (i + 1) _ q (by omega) (by omega) (dif_rng _ _) b1 (by omega)]; exact d
def AchI (I : Int → Int → Int) (bk : Int) (k : Nat) (i l p t : Int) : Prop := Ach (fun i l => I 48 (3 * i + l)) (fun i c q => tmv (I (5 + i) 1) c q) (I 37) bk k i l p t
def kk (I : Int → Int → Int) (i : Int) : Nat := (I 3 1 - 1 - i).toNat
def rowOK (I : Int → Int → Int) (bk i l : Int) : Prop := ∀ p, 1 ≤ p → p ≤ 60 → 0 ≤ I (50 + (3 * i + l)) p ∧ Lst (AchI I bk (kk I i) i l p) 536870912 (I (50 + (3 * i + l)) p)
def limR (I : Int → Int → Int) : Prop := ∀ i l, 0 ≤ i → i < I 3 1 → 0 ≤ l → l ≤ 2 → 1 ≤ I 48 (3 * i + l) ∧ I 48 (3 * i + l) ≤ 60
/-- what rows speak of is unchanged -/
def rsame (I J : Int → Int → Int) : Prop := (∀ b k, b < 40 → J b k = I b k) ∧ ∀ k, J 48 k = I 48 k
theorem AchI_cg {I J : Int → Int → Int} {bk : Int} (h : rsame I J) (hl : limR I) (k : Nat) (i l p t : Int) (i0 : 0 ≤ i) (i1 : i + k < I 3 1) (h3 : I 3 1 ≤ 30) (p0 : 1 ≤ p) (p1 : p ≤ 60) : AchI J bk k i l p t ↔ AchI I bk k i l p t := by
  refine Iff.symm (Ach_cg (n := I 3 1) (fun i l _ _ _ _ => (h.2 _).symm) (fun i l a b c d => (hl i l a b c d).2) (fun i c q a b _ _ _ => ?_) (fun p _ _ => (h.1 37 p (by omega)).symm) k i l p t i0 i1 p0 p1)
  show tmv (I (5 + i) 1) c q = tmv (J (5 + i) 1) c q
  rw [h.1 (5 + i) 1 (by omega)]
theorem rowOK_cg {I J : Int → Int → Int} {bk i l : Int} (h : rsame I J) (hl : limR I) (h3 : 0 ≤ I 3 1 ∧ I 3 1 ≤ 30) (i0 : 0 ≤ i) (i1 : i < I 3 1) (hr : ∀ p, J (50 + (3 * i + l)) p = I (50 + (3 * i + l)) p) (hR : rowOK I bk i l) : rowOK J bk i l := fun p p0 p1 => by
  have ek : kk J i = kk I i := by unfold kk; rw [h.1 3 1 (by omega)]
  rw [hr, ek]
  refine ⟨(hR p p0 p1).1, (hR p p0 p1).2.cg (fun y => AchI_cg h hl _ i l p y i0 ?_ h3.2 p0 p1)⟩
  unfold kk; omega
theorem row_of {I : Int → Int → Int} {bk i l p v : Int} {k : Nat} {R : Int → Int → Int} {o : Int → Int} (ek : k + i + 2 = I 3 1) (ht : tOK I) (i0 : 0 ≤ i)
    (hR : ∀ l', 0 ≤ l' → l' ≤ 2 → ∀ q, 1 ≤ q → q ≤ 60 → 0 ≤ R l' q ∧ Lst (AchI I bk k (i + 1) l' q) 536870912 (R l' q)) (hl : limR I)
    (ho : ∀ q, 1 ≤ q → q ≤ 60 → Lst (fun y => ∃ l', nr l l' ∧ l' < 3 ∧ q ≤ I 48 (3 * (i + 1) + l') ∧ y = tmv (I (5 + (i + 1)) 1) (dif l l') q + R l' q) 536870912 (o q)) (p0 : I 37 p ≤ 60)
    (h1 : ∀ q, 1 ≤ q → p - bk ≤ q → q ≤ I 37 p → v ≤ o q) (h2 : ∃ q, 1 ≤ q ∧ p - bk ≤ q ∧ q ≤ I 37 p ∧ v = o q) : 0 ≤ v ∧ Lst (AchI I bk (k + 1) i l p) 536870912 v := by
  obtain ⟨q, q0, q1, q2, q3⟩ := h2
  obtain ⟨a, b, c⟩ := ho q q0 (by omega)
  have hs := ht.2.2 (i + 1) (by omega) (by omega)
  unfold stOK at hs
  have htm := fun c q (q0 : 1 ≤ q) => (tmv_rng (len := I (5 + (i + 1)) 1) (ch := c) (p := q) (by omega) (by omega) q0).1
  have h0 : 0 ≤ v := by
    rcases a with a | ⟨l', d1, d2, d3, d4⟩
    · omega
    · have := (hR l' d1.2.2.1 d1.2.2.2 q q0 (by omega)).1
      have := htm (dif l l') q q0
      omega
  refine ⟨h0, ?_, by omega, fun x hx => ?_⟩
  · rcases a with a | ⟨l', d1, d2, d3, d4⟩
    · exact .inl (by omega)
    · obtain ⟨r0, r1, r2, r3⟩ := hR l' d1.2.2.1 d1.2.2.2 q q0 (by omega)
      have := htm (dif l l') q q0
      rcases r1 with r1 | r1
      · exact .inl (by omega)
      · exact .inr ⟨l', q, _, d1, ⟨q0, q1, q2, d3⟩, r1, by rw [q3, d4]⟩
  · obtain ⟨l', q', t', d1, ⟨d2, d3, d4, d5⟩, d6, d7⟩ := hx
    obtain ⟨r0, r1, r2, r3⟩ := hR l' d1.2.2.1 d1.2.2.2 q' d2 (by omega)
    have e1 := r3 t' d6
    have e2 := (ho q' d2 (by omega)).2.2 _ ⟨l', d1, by have := d1.2.2.2; omega, d5, rfl⟩
    have e3 := h1 q' d2 d3 d4
    rw [d7]
    show v ≤ tmv (I (5 + (i + 1)) 1) (dif l l') q' + t'
    omega
def spX7_fillRests (As : List MV) (σ : MS) (K : Option MV → MS → Prop) : Prop := pR As fun s r => pI r fun la r => pI r fun bk r => pN r (s = 2 ∧ σ.2.1 = PF ∧ -1 ≤ la ∧ la < σ.2.2.1 3 1 ∧ 1 ≤ bk ∧ bk ≤ 30 ∧ tOK σ.2.2.1 ∧ carOK σ.2.2.1 ∧ limR σ.2.2.1 ∧ (∀ i l, la < i → i < σ.2.2.1 3 1 → 0 ≤ l → l ≤ 2 → rowOK σ.2.2.1 bk i l) ∧
  ∀ I' : Int → Int → Int, (∀ b k, b ≠ 140 → b ≠ 141 → ¬ (50 ≤ b ∧ b ≤ 139) → I' b k = σ.2.2.1 b k) → (∀ i l, 0 ≤ i → i < σ.2.2.1 3 1 → 0 ≤ l → l ≤ 2 → rowOK I' bk i l) → (∀ b k, 50 + 3 * (la + 1) ≤ b → b ≤ 139 → I' b k = σ.2.2.1 b k) → K none (σ.1, σ.2.1, I', σ.2.2.2))
def ciX7_fillRests : CI := (3, 7, 0, 0, spX7_fillRests)
def kX7_fillRests (pc : Nat) : List ME := match pc with
  | 0 => [(.iload_n 1, 1, []), (.istore_n 3, 1, [])]
  | 2 => [(.iload_n 3, 1, []), (.ifCond .lt 75, 3, [78]), (.iconst 0, 1, []), (.istore 4, 2, [])]
  | 9 => [(.iload 4, 2, []), (.iconst 3, 1, []), (.if_icmp .ge 60, 3, [72]), (.aload_n 0, 1, []), (.getfield 41, 3, []), (.iconst 3, 1, []), (.iload_n 3, 1, []), (.imul, 1, []), (.iload 4, 2, []), (.iadd, 1, []), (.aaload, 1, []), (.astore 5, 2, []), (.iload_n 3, 1, []), (.aload_n 0, 1, []), (.getfield 12, 3, []), (.getfield 108, 3, []), (.iconst 1, 1, []), (.isub, 1, []), (.if_icmp .ne 12, 3, [50]), (.aload 5, 2, []), (.iconst 0, 1, []), (.invokestatic 59, 3, []), (.goto 19, 3, [66])]
  | 50 => [(.aload_n 0, 1, []), (.iload_n 3, 1, []), (.iconst 1, 1, []), (.iadd, 1, []), (.iload 4, 2, []), (.invokevirtual 133, 3, []), (.aload_n 0, 1, []), (.aload 5, 2, []), (.iload_n 2, 1, []), (.invokevirtual 136, 3, [])]
  | 66 => [(.iinc 4 1, 3, []), (.goto (-60), 3, [9])]
  | 72 => [(.iinc 3 (-1), 3, []), (.goto (-73), 3, [2])]
  | 78 => [(.return_, 1, [])]
  | _ => []
theorem qX7_fillRests : ∀ pc, chk cX7_fillRests pc (kX7_fillRests pc) = true := by
  intro pc
  unfold kX7_fillRests
  split <;> first | decide +kernel | exact chk_nil
abbrev rmX7_fillRests : Room := { frames := 2, cells := 0, slots := 0, locals := 50 }
def aX7_fillRests (x : Nat) : Option CI := match x with
  | 59 => some ciJ7_fill_53178
  | 133 => some ciX7_fillOnward
  | 136 => some ciX7_fillRest
  | _ => none
theorem aokX7_fillRests : ∀ x ci, aX7_fillRests x = some ci → CalOK RX7 rmX7_fillRests x ci := by
  intro x ci h
  unfold aX7_fillRests at h
  split at h
  · cases h; exact cal_S mJ7_fill_53178 rfl (List.forall_mem_cons.mpr ⟨(ws_mem (List.mem_of_getElem? (i := 208) (by decide +kernel)) (by decide +kernel)), List.forall_mem_cons.mpr ⟨(ws_mem (List.mem_of_getElem? (i := 209) (by decide +kernel)) (by decide +kernel)), List.forall_mem_cons.mpr ⟨(ws_mem (List.mem_of_getElem? (i := 60) (by decide +kernel)) (by decide +kernel)), List.forall_mem_cons.mpr ⟨(ws_mem (List.mem_of_getElem? (i := 210) (by decide +kernel)) (by decide +kernel)), fun _ h => absurd h List.not_mem_nil⟩⟩⟩⟩) rfl (by unfold nice; decide +kernel) (by unfold rfits; decide) ⟨rfl, rfl⟩
  · cases h; exact cal_V mX7_fillOnward (by decide) rfl (List.forall_mem_cons.mpr ⟨(ws_mem (List.mem_of_getElem? (i := 483) (by decide +kernel)) (by decide +kernel)), List.forall_mem_cons.mpr ⟨(ws_mem (List.mem_of_getElem? (i := 485) (by decide +kernel)) (by decide +kernel)), List.forall_mem_cons.mpr ⟨(ws_mem (List.mem_of_getElem? (i := 6) (by decide +kernel)) (by decide +kernel)), List.forall_mem_cons.mpr ⟨(ws_mem (List.mem_of_getElem? (i := 54) (by decide +kernel)) (by decide +kernel)), List.forall_mem_cons.mpr ⟨(ws_mem (List.mem_of_getElem? (i := 486) (by decide +kernel)) (by decide +kernel)), fun _ h => absurd h List.not_mem_nil⟩⟩⟩⟩⟩) rfl (by unfold nice; decide +kernel) (by unfold rfits; decide) ⟨rfl, rfl⟩
  · cases h; exact cal_V mX7_fillRest (by decide) rfl (List.forall_mem_cons.mpr ⟨(ws_mem (List.mem_of_getElem? (i := 491) (by decide +kernel)) (by decide +kernel)), List.forall_mem_cons.mpr ⟨(ws_mem (List.mem_of_getElem? (i := 493) (by decide +kernel)) (by decide +kernel)), List.forall_mem_cons.mpr ⟨(ws_mem (List.mem_of_getElem? (i := 7) (by decide +kernel)) (by decide +kernel)), List.forall_mem_cons.mpr ⟨(ws_mem (List.mem_of_getElem? (i := 54) (by decide +kernel)) (by decide +kernel)), List.forall_mem_cons.mpr ⟨(ws_mem (List.mem_of_getElem? (i := 494) (by decide +kernel)) (by decide +kernel)), fun _ h => absurd h List.not_mem_nil⟩⟩⟩⟩⟩) rfl (by unfold nice; decide +kernel) (by unfold rfits; decide) ⟨rfl, rfl⟩
  · cases h
theorem ocX7_fillRests_59 (f : Nat → Nat → Nat → Nat → (List MV → MS → (Option MV → MS → Prop) → Prop) → Prop) : oC aX7_fillRests 59 f = f 2 10 0 0 spJ7_fill_53178 := propext Iff.rfl
theorem ocX7_fillRests_133 (f : Nat → Nat → Nat → Nat → (List MV → MS → (Option MV → MS → Prop) → Prop) → Prop) : oC aX7_fillRests 133 f = f 3 7 0 0 spX7_fillOnward := propext Iff.rfl
theorem ocX7_fillRests_136 (f : Nat → Nat → Nat → Nat → (List MV → MS → (Option MV → MS → Prop) → Prop) → Prop) : oC aX7_fillRests 136 f = f 3 7 0 0 spX7_fillRest := propext Iff.rfl
theorem mdX7_fillRests : MD RX7 cX7_fillRests rmX7_fillRests kX7_fillRests fX7 aX7_fillRests zX7 uX7 := ⟨fokX7, zokX7, uokX7, aokX7_fillRests, qX7_fillRests⟩
set_option maxHeartbeats 1600000 in
set_option maxRecDepth 100000 in
theorem lpX7_r1 {post : Option MV → MS → Prop} {U : Pt → Prop} {N : Nat} {I L : Int → Int → Int} {la bk i : Int} (ht : tOK I) (hc : carOK I) (hl : limR I) (hb : 1 ≤ bk ∧ bk ≤ 30) (i0 : 0 ≤ i) (i1 : i < I 3 1) (hR : ∀ j l, i < j → j < I 3 1 → 0 ≤ l → l ≤ 2 → rowOK I bk j l)
    (h : ∀ (I1 : Int → Int → Int) (t1 t2 : Option MV), (∀ b k, b ≠ 140 → b ≠ 141 → ¬ (50 + 3 * i ≤ b ∧ b ≤ 50 + 3 * i + 2) → I1 b k = I b k) → (∀ l, 0 ≤ l → l ≤ 2 → rowOK I1 bk i l) → Ok RX7 cX7_fillRests 6 rmX7_fillRests false none post U (2, [some (.inr (.inr (some 2))), some (.inl la), some (.inl bk), some (.inl (i + -1)), t1, t2], [], (N, PF, I1, L), 0, 0)) :
    ∀ (m : Nat) (x : Int) (I1 : Int → Int → Int) (t2 : Option MV), x + m = 3 → 0 ≤ x → (∀ b k, b ≠ 140 → b ≠ 141 → ¬ (50 + 3 * i ≤ b ∧ b ≤ 50 + 3 * i + 2) → I1 b k = I b k) → (∀ l, 0 ≤ l → l < x → rowOK I1 bk i l) →
    Ok RX7 cX7_fillRests 6 rmX7_fillRests false none post U (9, [some (.inr (.inr (some 2))), some (.inl la), some (.inl bk), some (.inl i), some (.inl x), t2], [], (N, PF, I1, L), 0, 0)
  | 0, x, I1, t2, hm, x0, h1, h2 => by
    refine Ok.seg mdX7_fillRests [2, 9] 20 ?_
    simp only [wp_nil, wp_cons, ↓stp, ↓lI, ↓lL, ↓lR, ↓lIn_0, ↓lIn_1, ↓lIn_2, ↓lIn_3, ↓lLn_0, ↓lLn_1, ↓lLn_2, ↓lLn_3, ↓lRn_0, ↓lRn_1, ↓lRn_2, ↓lRn_3, ↓pI, ↓pL, ↓pR, ↓pA, ↓pN, ↓pV, ↓fp, ↓tsw, ↓oS, ↓spMax, ↓spMin, ↓spAbs, ↓spObj, RI, RLg, b2i_lo, b2i_hi, getL, setL, ltL, killL, isLong, inl, cnd, br, tgt, rcv, rpl, mputI, mputL, mputP, fv, fr, mcat, mcs, entL, entA, rfit, nf_0, nf_1, nf_2, nf_3, nf2_0, nf2_1, b2i_0, b2i_1, RI_b2i, b2i_fit, List.append, List.length, List.replicate, List.cons_append, List.nil_append, List.length_cons, List.length_nil, List.replicate_succ, List.replicate_zero, List.tail_cons, reduceIte, if_true, if_false, ite_true, ite_false, Bool.false_eq_true, true_and, and_true, and_self, false_and, and_false, or_self, or_true, true_or, or_false, false_or, not_true_eq_false, not_false_eq_true, ne_eq, forall_const, implies_true, imp_self, true_implies, false_implies, Nat.reduceAdd, Nat.reduceSub, Nat.reduceMul, Nat.reduceDiv, Nat.reduceMod, Nat.reduceEqDiff, Nat.reduceLT, Nat.reduceLeDiff, Nat.reduceBEq, Nat.add_zero, Nat.zero_add, Nat.le_refl, Nat.not_lt_zero, Nat.succ_eq_add_one, Int.reduceNatCast, Int.cast_ofNat_Int, Int.reduceSub, Int.reduceMul, Int.reduceNeg, Int.reduceLE, Int.reduceLT, Int.reduceToNat, Int.reduceEq, Int.reduceNe, Int.reduceAdd, Option.some.injEq, kX7_fillRests, rmX7_fillRests, ↓ofX7_108, ↓ofX7_12, ↓ofX7_41, ↓ocX7_fillRests_59, ↓spJ7_fill_53178, ↓ocX7_fillRests_133, ↓spX7_fillOnward, ↓ocX7_fillRests_136, ↓spX7_fillRest, G_1, G_2, G_3, G_4, G_35, G_36, G_37, G_38, G_39, G_40, G_41, G_42, G_43, G_44, G_45, G_46, G_47, G_48, G_49, G_140, G_141, G_142, G_143, G_144, G_145, G_146, G_178, G_179, G_180, G_181, G_182, G_183, G_184, G_189, G_198, G_207, PF_1_0, PF_1_1, PF_1_2, PF_1_3, PF_2_0, PF_2_1, PF_2_3, PF_2_4, PF_2_5, PF_2_6, PF_2_7, PF_2_8, PF_2_9, PF_2_10, PF_2_11, PF_3_0, PF_35_0, PF_35_1, PF_35_2, PF_35_3, PF_40_0, PF_40_1, PF_40_2, PF_44_0, PF_44_1, PF_44_2, PF_145_0, PF_145_1, PF_179_0, PF_179_1, PF_179_2, PF_179_3, PF_179_8, PF_179_9, PF_179_10]
    exact ⟨by omega, fun _ => h I1 _ _ h1 (fun l l0 l1 => h2 l l0 (by omega)), fun q => by omega⟩
  | m + 1, x, I1, t2, hm, x0, h1, h2 => by
    have ih := lpX7_r1 (U := U) (la := la) ht hc hl hb i0 i1 hR h m (x + 1)
    have h3 := ht.1
    have h3' := ht.2.1
    have hs1 : rsame I I1 := ⟨fun b k hb => h1 b k (by omega) (by omega) (by omega), fun k => h1 _ k (by omega) (by omega) (by omega)⟩
    have ht1 := tOK_cg hs1.1 ht
    have hc1 := carOK_cg hs1.1 hc
    have e31 : I1 3 1 = I 3 1 := hs1.1 3 1 (by omega)
    have hp := PF_rest (i := 3 * i + x) (by omega) (by omega)
    have hr := G_row (a := 50 + (3 * i + x)) (by omega) (by omega)
    have hl1 : limR I1 := fun i l a b c d => by rw [e31] at b; rw [hs1.2]; exact hl i l a b c d
    have hR1 : ∀ j l, i < j → j < I 3 1 → 0 ≤ l → l ≤ 2 → rowOK I1 bk j l := fun j l a b c d => rowOK_cg hs1 hl ⟨h3, h3'⟩ (by omega) b (fun p => h1 _ p (by omega) (by omega) (by omega)) (hR j l a b c d)
    refine Ok.seg mdX7_fillRests [2, 9] 36 ?_
    simp only [wp_nil, wp_cons, ↓stp, ↓lI, ↓lL, ↓lR, ↓lIn_0, ↓lIn_1, ↓lIn_2, ↓lIn_3, ↓lLn_0, ↓lLn_1, ↓lLn_2, ↓lLn_3, ↓lRn_0, ↓lRn_1, ↓lRn_2, ↓lRn_3, ↓pI, ↓pL, ↓pR, ↓pA, ↓pN, ↓pV, ↓fp, ↓tsw, ↓oS, ↓spMax, ↓spMin, ↓spAbs, ↓spObj, RI, RLg, b2i_lo, b2i_hi, getL, setL, ltL, killL, isLong, inl, cnd, br, tgt, rcv, rpl, mputI, mputL, mputP, fv, fr, mcat, mcs, entL, entA, rfit, nf_0, nf_1, nf_2, nf_3, nf2_0, nf2_1, b2i_0, b2i_1, RI_b2i, b2i_fit, List.append, List.length, List.replicate, List.cons_append, List.nil_append, List.length_cons, List.length_nil, List.replicate_succ, List.replicate_zero, List.tail_cons, reduceIte, if_true, if_false, ite_true, ite_false, Bool.false_eq_true, true_and, and_true, and_self, false_and, and_false, or_self, or_true, true_or, or_false, false_or, not_true_eq_false, not_false_eq_true, ne_eq, forall_const, implies_true, imp_self, true_implies, false_implies, Nat.reduceAdd, Nat.reduceSub, Nat.reduceMul, Nat.reduceDiv, Nat.reduceMod, Nat.reduceEqDiff, Nat.reduceLT, Nat.reduceLeDiff, Nat.reduceBEq, Nat.add_zero, Nat.zero_add, Nat.le_refl, Nat.not_lt_zero, Nat.succ_eq_add_one, Int.reduceNatCast, Int.cast_ofNat_Int, Int.reduceSub, Int.reduceMul, Int.reduceNeg, Int.reduceLE, Int.reduceLT, Int.reduceToNat, Int.reduceEq, Int.reduceNe, Int.reduceAdd, Option.some.injEq, kX7_fillRests, rmX7_fillRests, ↓ofX7_108, ↓ofX7_12, ↓ofX7_41, ↓ocX7_fillRests_59, ↓spJ7_fill_53178, ↓ocX7_fillRests_133, ↓spX7_fillOnward, ↓ocX7_fillRests_136, ↓spX7_fillRest, hp, hr, e31, G_1, G_2, G_3, G_4, G_35, G_36, G_37, G_38, G_39, G_40, G_41, G_42, G_43, G_44, G_45, G_46, G_47, G_48, G_49, G_140, G_141, G_142, G_143, G_144, G_145, G_146, G_178, G_179, G_180, G_181, G_182, G_183, G_184, G_189, G_198, G_207, PF_1_0, PF_1_1, PF_1_2, PF_1_3, PF_2_0, PF_2_1, PF_2_3, PF_2_4, PF_2_5, PF_2_6, PF_2_7, PF_2_8, PF_2_9, PF_2_10, PF_2_11, PF_3_0, PF_35_0, PF_35_1, PF_35_2, PF_35_3, PF_40_0, PF_40_1, PF_40_2, PF_44_0, PF_44_1, PF_44_2, PF_145_0, PF_145_1, PF_179_0, PF_179_1, PF_179_2, PF_179_3, PF_179_8, PF_179_9, PF_179_10]
    refine ⟨by omega, fun q => by omega, fun q => ⟨by omega, by omega, by omega, by omega, fun q2 => ⟨by omega, by omega, by omega, by omega, ht1.2.2 (i + 1) (by omega) (by omega), fun l' a b => ⟨(hl1 (i + 1) l' (by omega) (by omega) a b).1, (hl1 (i + 1) l' (by omega) (by omega) a b).2, fun q q0 q1 => ?_⟩, fun J j1 j2 => ⟨by omega, by omega, hb.1, hb.2, carOK_cg (fun b k hb => j1 b k (by omega)) hc1, fun q q0 q1 => ?_, fun J2 k1 k2 => ?_⟩⟩, fun q2 => ?_⟩⟩
    · have := hR1 (i + 1) l' (by omega) (by omega) a b q q0 q1
      exact ⟨this.1, this.2.2.1⟩
    · refine ⟨?_, (j2 q q0 q1).2.1⟩
      rcases (j2 q q0 q1).1 with e | ⟨l', d1, d2, d3, d4⟩
      · omega
      · have z1 := (hR1 (i + 1) l' (by omega) (by omega) d1.2.2.1 d1.2.2.2 q q0 q1).1
        have hs := ht1.2.2 (i + 1) (by omega) (by omega)
        unfold stOK at hs
        have z2 := (tmv_rng (len := I1 (5 + (i + 1)) 1) (ch := dif x l') (p := q) (by omega) (by omega) q0).1
        omega
    · have hf : ∀ b k, b ≠ 140 → b ≠ 141 → ¬ b = 50 + (3 * i + x) → J2 b k = I1 b k := fun b k b1 b2 b3 => by rw [k1 b k b2 (fun z => b3 z.1), j1 b k b1]
      have hs2 : rsame I1 J2 := ⟨fun b k hb => hf b k (by omega) (by omega) (by omega), fun k => hf _ k (by omega) (by omega) (by omega)⟩
      refine ih J2 _ (by omega) (by omega) (fun b k b1 b2 b3 => by rw [hf b k b1 b2 (by omega)]; exact h1 b k b1 b2 b3) (fun l l0 l1 => ?_)
      by_cases e : l = x
      · subst e
        intro p p0 p1
        have ek : kk J2 i = kk I1 (i + 1) + 1 := by unfold kk; rw [hs2.1 3 1 (by omega)]; omega
        have er := rch_rng hc1.1.1 p1
        rw [← hc1.1.2 p p0 p1] at er
        have e37 : J 37 = I1 37 := funext fun k => j1 _ k (by omega)
        have := row_of (I := I1) (bk := bk) (i := i) (l := l) (p := p) (v := J2 (50 + (3 * i + l)) p) (k := kk I1 (i + 1)) (R := fun l' q => I1 (50 + (3 * (i + 1) + l')) q) (o := J 140) (by unfold kk; omega) ht1 i0
          (fun l' a b => hR1 (i + 1) l' (by omega) (by omega) a b) hl1 (fun q q0 q1 => j2 q q0 q1) (by omega) (fun q q0 q1 q2 => (k2 p p0 p1).1 q q0 q1 (by rw [e37]; exact q2)) (by
            obtain ⟨q, q0, q1, q2, q3⟩ := (k2 p p0 p1).2
            exact ⟨q, q0, q1, by rw [← e37]; exact q2, q3⟩)
        rw [ek]
        exact ⟨this.1, this.2.cg (fun y => AchI_cg hs2 hl1 _ i l p y i0 (by unfold kk; omega) (by omega) p0 p1)⟩
      · exact rowOK_cg hs2 hl1 ⟨by omega, by omega⟩ i0 (by omega) (fun p => hf _ p (by omega) (by omega) (by omega)) (h2 l l0 (by omega))
    · have hf : ∀ b k, ¬ b = 50 + (3 * i + x) → filI I1 (50 + (3 * i + x)) 0 61 b k = I1 b k := fun b k hb => if_neg (fun z => hb z.1)
      have hs2 : rsame I1 (filI I1 (50 + (3 * i + x)) 0 61) := ⟨fun b k hb => hf b k (by omega), fun k => hf _ k (by omega)⟩
      refine ih _ _ (by omega) (by omega) (fun b k b1 b2 b3 => by rw [hf b k (by omega)]; exact h1 b k b1 b2 b3) (fun l l0 l1 => ?_)
      by_cases e : l = x
      · subst e
        intro p p0 p1
        have ek : kk (filI I1 (50 + (3 * i + l)) 0 61) i = 0 := by unfold kk; rw [hs2.1 3 1 (by omega)]; omega
        rw [ek, show filI I1 (50 + (3 * i + l)) 0 61 (50 + (3 * i + l)) p = 0 from if_pos ⟨rfl, by omega, by omega⟩]
        exact ⟨by omega, .inr rfl, by omega, fun y hy => by have : y = 0 := hy; omega⟩
      · exact rowOK_cg hs2 hl1 ⟨by omega, by omega⟩ i0 (by omega) (fun p => hf _ p (by omega)) (h2 l l0 (by omega))
set_option maxHeartbeats 1600000 in
set_option maxRecDepth 100000 in
theorem lpX7_r2 {post : Option MV → MS → Prop} {U : Pt → Prop} {N : Nat} {I L : Int → Int → Int} {la bk : Int} (ht : tOK I) (hc : carOK I) (hl : limR I) (hb : 1 ≤ bk ∧ bk ≤ 30)
    (h : ∀ I' : Int → Int → Int, (∀ b k, b ≠ 140 → b ≠ 141 → ¬ (50 ≤ b ∧ b ≤ 139) → I' b k = I b k) → (∀ i l, 0 ≤ i → i < I 3 1 → 0 ≤ l → l ≤ 2 → rowOK I' bk i l) → (∀ b k, 50 + 3 * (la + 1) ≤ b → b ≤ 139 → I' b k = I b k) → post none (N, PF, I', L)) :
    ∀ (m : Nat) (I1 : Int → Int → Int) (t1 t2 : Option MV), (m : Int) ≤ I 3 1 → (m : Int) ≤ la + 1 → (∀ b k, b ≠ 140 → b ≠ 141 → ¬ (50 ≤ b ∧ b ≤ 139) → I1 b k = I b k) → (∀ i l, (m : Int) ≤ i → i < I 3 1 → 0 ≤ l → l ≤ 2 → rowOK I1 bk i l) → (∀ b k, 50 + 3 * (la + 1) ≤ b → b ≤ 139 → I1 b k = I b k) →
    Ok RX7 cX7_fillRests 6 rmX7_fillRests false none post U (2, [some (.inr (.inr (some 2))), some (.inl la), some (.inl bk), some (.inl (m + -1)), t1, t2], [], (N, PF, I1, L), 0, 0)
  | 0, I1, t1, t2, hm, hm2, h1, h2, h3 => by
    refine Ok.seg mdX7_fillRests [2, 9] 20 ?_
    simp only [wp_nil, wp_cons, ↓stp, ↓lI, ↓lL, ↓lR, ↓lIn_0, ↓lIn_1, ↓lIn_2, ↓lIn_3, ↓lLn_0, ↓lLn_1, ↓lLn_2, ↓lLn_3, ↓lRn_0, ↓lRn_1, ↓lRn_2, ↓lRn_3, ↓pI, ↓pL, ↓pR, ↓pA, ↓pN, ↓pV, ↓fp, ↓tsw, ↓oS, ↓spMax, ↓spMin, ↓spAbs, ↓spObj, RI, RLg, b2i_lo, b2i_hi, getL, setL, ltL, killL, isLong, inl, cnd, br, tgt, rcv, rpl, mputI, mputL, mputP, fv, fr, mcat, mcs, entL, entA, rfit, nf_0, nf_1, nf_2, nf_3, nf2_0, nf2_1, b2i_0, b2i_1, RI_b2i, b2i_fit, List.append, List.length, List.replicate, List.cons_append, List.nil_append, List.length_cons, List.length_nil, List.replicate_succ, List.replicate_zero, List.tail_cons, reduceIte, if_true, if_false, ite_true, ite_false, Bool.false_eq_true, true_and, and_true, and_self, false_and, and_false, or_self, or_true, true_or, or_false, false_or, not_true_eq_false, not_false_eq_true, ne_eq, forall_const, implies_true, imp_self, true_implies, false_implies, Nat.reduceAdd, Nat.reduceSub, Nat.reduceMul, Nat.reduceDiv, Nat.reduceMod, Nat.reduceEqDiff, Nat.reduceLT, Nat.reduceLeDiff, Nat.reduceBEq, Nat.add_zero, Nat.zero_add, Nat.le_refl, Nat.not_lt_zero, Nat.succ_eq_add_one, Int.reduceNatCast, Int.cast_ofNat_Int, Int.reduceSub, Int.reduceMul, Int.reduceNeg, Int.reduceLE, Int.reduceLT, Int.reduceToNat, Int.reduceEq, Int.reduceNe, Int.reduceAdd, Option.some.injEq, kX7_fillRests, rmX7_fillRests, ↓ofX7_108, ↓ofX7_12, ↓ofX7_41, ↓ocX7_fillRests_59, ↓spJ7_fill_53178, ↓ocX7_fillRests_133, ↓spX7_fillOnward, ↓ocX7_fillRests_136, ↓spX7_fillRest, G_1, G_2, G_3, G_4, G_35, G_36, G_37, G_38, G_39, G_40, G_41, G_42, G_43, G_44, G_45, G_46, G_47, G_48, G_49, G_140, G_141, G_142, G_143, G_144, G_145, G_146, G_178, G_179, G_180, G_181, G_182, G_183, G_184, G_189, G_198, G_207, PF_1_0, PF_1_1, PF_1_2, PF_1_3, PF_2_0, PF_2_1, PF_2_3, PF_2_4, PF_2_5, PF_2_6, PF_2_7, PF_2_8, PF_2_9, PF_2_10, PF_2_11, PF_3_0, PF_35_0, PF_35_1, PF_35_2, PF_35_3, PF_40_0, PF_40_1, PF_40_2, PF_44_0, PF_44_1, PF_44_2, PF_145_0, PF_145_1, PF_179_0, PF_179_1, PF_179_2, PF_179_3, PF_179_8, PF_179_9, PF_179_10]
    exact h I1 h1 (fun i l a b c d => h2 i l (by omega) b c d) h3
  | m + 1, I1, t1, t2, hm, hm2, h1, h2, h3 => by
    have ih := lpX7_r2 (U := U) (la := la) ht hc hl hb h m
    have h4 := ht.2.1
    have hs1 : rsame I I1 := ⟨fun b k hb => h1 b k (by omega) (by omega) (by omega), fun k => h1 _ k (by omega) (by omega) (by omega)⟩
    have ht1 := tOK_cg hs1.1 ht
    have hc1 := carOK_cg hs1.1 hc
    have e31 : I1 3 1 = I 3 1 := hs1.1 3 1 (by omega)
    have hl1 : limR I1 := fun i l a b c d => by rw [e31] at b; rw [hs1.2]; exact hl i l a b c d
    rw [show ((m + 1 : Nat) : Int) + -1 = m by omega]
    refine Ok.seg mdX7_fillRests [2, 9] 12 ?_
    simp only [wp_nil, wp_cons, ↓stp, ↓lI, ↓lL, ↓lR, ↓lIn_0, ↓lIn_1, ↓lIn_2, ↓lIn_3, ↓lLn_0, ↓lLn_1, ↓lLn_2, ↓lLn_3, ↓lRn_0, ↓lRn_1, ↓lRn_2, ↓lRn_3, ↓pI, ↓pL, ↓pR, ↓pA, ↓pN, ↓pV, ↓fp, ↓tsw, ↓oS, ↓spMax, ↓spMin, ↓spAbs, ↓spObj, RI, RLg, b2i_lo, b2i_hi, getL, setL, ltL, killL, isLong, inl, cnd, br, tgt, rcv, rpl, mputI, mputL, mputP, fv, fr, mcat, mcs, entL, entA, rfit, nf_0, nf_1, nf_2, nf_3, nf2_0, nf2_1, b2i_0, b2i_1, RI_b2i, b2i_fit, List.append, List.length, List.replicate, List.cons_append, List.nil_append, List.length_cons, List.length_nil, List.replicate_succ, List.replicate_zero, List.tail_cons, reduceIte, if_true, if_false, ite_true, ite_false, Bool.false_eq_true, true_and, and_true, and_self, false_and, and_false, or_self, or_true, true_or, or_false, false_or, not_true_eq_false, not_false_eq_true, ne_eq, forall_const, implies_true, imp_self, true_implies, false_implies, Nat.reduceAdd, Nat.reduceSub, Nat.reduceMul, Nat.reduceDiv, Nat.reduceMod, Nat.reduceEqDiff, Nat.reduceLT, Nat.reduceLeDiff, Nat.reduceBEq, Nat.add_zero, Nat.zero_add, Nat.le_refl, Nat.not_lt_zero, Nat.succ_eq_add_one, Int.reduceNatCast, Int.cast_ofNat_Int, Int.reduceSub, Int.reduceMul, Int.reduceNeg, Int.reduceLE, Int.reduceLT, Int.reduceToNat, Int.reduceEq, Int.reduceNe, Int.reduceAdd, Option.some.injEq, kX7_fillRests, rmX7_fillRests, ↓ofX7_108, ↓ofX7_12, ↓ofX7_41, ↓ocX7_fillRests_59, ↓spJ7_fill_53178, ↓ocX7_fillRests_133, ↓spX7_fillOnward, ↓ocX7_fillRests_136, ↓spX7_fillRest, G_1, G_2, G_3, G_4, G_35, G_36, G_37, G_38, G_39, G_40, G_41, G_42, G_43, G_44, G_45, G_46, G_47, G_48, G_49, G_140, G_141, G_142, G_143, G_144, G_145, G_146, G_178, G_179, G_180, G_181, G_182, G_183, G_184, G_189, G_198, G_207, PF_1_0, PF_1_1, PF_1_2, PF_1_3, PF_2_0, PF_2_1, PF_2_3, PF_2_4, PF_2_5, PF_2_6, PF_2_7, PF_2_8, PF_2_9, PF_2_10, PF_2_11, PF_3_0, PF_35_0, PF_35_1, PF_35_2, PF_35_3, PF_40_0, PF_40_1, PF_40_2, PF_44_0, PF_44_1, PF_44_2, PF_145_0, PF_145_1, PF_179_0, PF_179_1, PF_179_2, PF_179_3, PF_179_8, PF_179_9, PF_179_10]
    refine ⟨by omega, fun q => by omega, fun q => ?_⟩
    refine lpX7_r1 (I := I1) (i := m) ht1 hc1 hl1 hb (by omega) (by omega) (fun j l a b c d => h2 j l (by omega) (by omega) c d) (fun J u1 u2 j1 j2 => ?_) 3 0 I1 t2 (by omega) (by omega) (fun _ _ _ _ _ => rfl) (fun l a b => by omega)
    have hs2 : rsame I1 J := ⟨fun b k hb => j1 b k (by omega) (by omega) (by omega), fun k => j1 _ k (by omega) (by omega) (by omega)⟩
    refine ih J u1 u2 (by omega) (by omega) (fun b k b1 b2 b3 => by rw [j1 b k b1 b2 (by omega)]; exact h1 b k b1 b2 b3) (fun i l a b c d => ?_) (fun b k b1 b2 => by rw [j1 b k (by omega) (by omega) (by omega)]; exact h3 b k b1 b2)
    by_cases e : i = m
    · subst e; exact j2 l c d
    · exact rowOK_cg hs2 hl1 ⟨by omega, by omega⟩ (by omega) (by omega) (fun p => j1 _ p (by omega) (by omega) (by omega)) (h2 i l (by omega) b c d)
set_option maxRecDepth 100000 in
set_option maxHeartbeats 800000 in
theorem mX7_fillRests : MOK yX7_fillRests cX7_fillRests 6 none rmX7_fillRests ciX7_fillRests := by
  refine mok_of (ini := false) (by decide +kernel) (by decide) rfl rfl ?_
  intro σ As K hrc hl h
  obtain ⟨N, P, I, L⟩ := σ
  have h9 := pR_iff.mp h
  clear h
  obtain ⟨s, r, e9, h⟩ := h9
  subst e9
  have h9 := pI_iff.mp h
  clear h
  obtain ⟨la, r, e9, h⟩ := h9
  subst e9
  have h9 := pI_iff.mp h
  clear h
  obtain ⟨bk, r, e9, h⟩ := h9
  subst e9
  have h9 := pN_iff.mp h
  clear h
  obtain ⟨e9, h⟩ := h9
  subst e9
  dsimp only at h
  obtain ⟨rfl, rfl, a0, a1, b0, b1, ht, hc, hl, hR, h⟩ := h
  obtain ⟨m, hm⟩ : ∃ m : Nat, la = m + -1 := ⟨(la + 1).toNat, by omega⟩
  refine ⟨Nat.le_of_ble_eq_true rfl, Ok.seg mdX7_fillRests [2] 8 ?_⟩
  simp only [wp_nil, wp_cons, ↓stp, ↓lI, ↓lL, ↓lR, ↓lIn_0, ↓lIn_1, ↓lIn_2, ↓lIn_3, ↓lLn_0, ↓lLn_1, ↓lLn_2, ↓lLn_3, ↓lRn_0, ↓lRn_1, ↓lRn_2, ↓lRn_3, ↓pI, ↓pL, ↓pR, ↓pA, ↓pN, ↓pV, ↓fp, ↓tsw, ↓oS, ↓spMax, ↓spMin, ↓spAbs, ↓spObj, RI, RLg, b2i_lo, b2i_hi, getL, setL, ltL, killL, isLong, inl, cnd, br, tgt, rcv, rpl, mputI, mputL, mputP, fv, fr, mcat, mcs, entL, entA, rfit, nf_0, nf_1, nf_2, nf_3, nf2_0, nf2_1, b2i_0, b2i_1, RI_b2i, b2i_fit, List.append, List.length, List.replicate, List.cons_append, List.nil_append, List.length_cons, List.length_nil, List.replicate_succ, List.replicate_zero, List.tail_cons, reduceIte, if_true, if_false, ite_true, ite_false, Bool.false_eq_true, true_and, and_true, and_self, false_and, and_false, or_self, or_true, true_or, or_false, false_or, not_true_eq_false, not_false_eq_true, ne_eq, forall_const, implies_true, imp_self, true_implies, false_implies, Nat.reduceAdd, Nat.reduceSub, Nat.reduceMul, Nat.reduceDiv, Nat.reduceMod, Nat.reduceEqDiff, Nat.reduceLT, Nat.reduceLeDiff, Nat.reduceBEq, Nat.add_zero, Nat.zero_add, Nat.le_refl, Nat.not_lt_zero, Nat.succ_eq_add_one, Int.reduceNatCast, Int.cast_ofNat_Int, Int.reduceSub, Int.reduceMul, Int.reduceNeg, Int.reduceLE, Int.reduceLT, Int.reduceToNat, Int.reduceEq, Int.reduceNe, Int.reduceAdd, Option.some.injEq, kX7_fillRests, rmX7_fillRests, ↓ofX7_108, ↓ofX7_12, ↓ofX7_41, ↓ocX7_fillRests_59, ↓spJ7_fill_53178, ↓ocX7_fillRests_133, ↓spX7_fillOnward, ↓ocX7_fillRests_136, ↓spX7_fillRest, G_1, G_2, G_3, G_4, G_35, G_36, G_37, G_38, G_39, G_40, G_41, G_42, G_43, G_44, G_45, G_46, G_47, G_48, G_49, G_140, G_141, G_142, G_143, G_144, G_145, G_146, G_178, G_179, G_180, G_181, G_182, G_183, G_184, G_189, G_198, G_207, PF_1_0, PF_1_1, PF_1_2, PF_1_3, PF_2_0, PF_2_1, PF_2_3, PF_2_4, PF_2_5, PF_2_6, PF_2_7, PF_2_8, PF_2_9, PF_2_10, PF_2_11, PF_3_0, PF_35_0, PF_35_1, PF_35_2, PF_35_3, PF_40_0, PF_40_1, PF_40_2, PF_44_0, PF_44_1, PF_44_2, PF_145_0, PF_145_1, PF_179_0, PF_179_1, PF_179_2, PF_179_3, PF_179_8, PF_179_9, PF_179_10]
  have := lpX7_r2 (U := fun _ => False) (post := fun r σ' => rfit none r ∧ K r σ') (la := la) ht hc hl ⟨b0, b1⟩ (fun I' h1 h2 h3 => ⟨trivial, h I' h1 h2 h3⟩) m I none none (by omega) (by omega) (fun _ _ _ _ _ => rfl) (fun i l a b c d => hR i l (by omega) b c d) (fun _ _ _ _ => rfl)
  rw [← hm] at this
  exact this
end
section
/-! LapBoard$Ways: leastLap, solve -/
theorem Lst.join {S S' T : Int → Prop} {F v r c m : Int} (h : Lst S F v) (hT : Lst T F r) (hc : 0 ≤ c) (e : ∀ y, S' y ↔ S y ∨ ∃ t, T t ∧ y = c + t) (h1 : m ≤ v) (h2 : m ≤ c + r) (h3 : m = v ∨ m = c + r) : Lst S' F m := by
  obtain ⟨a, b, d⟩ := h
  obtain ⟨a', b', d'⟩ := hT
  refine ⟨?_, by omega, fun x hx => ?_⟩
  · by_cases q : m = v
    · rw [q]; exact a.imp id (fun z => (e _).mpr (.inl z))
    · rcases a' with a' | a'
      · omega
      · exact .inr ((e _).mpr (.inr ⟨r, a', by omega⟩))
  · rcases (e x).mp hx with q | ⟨t, q, q2⟩
    · have := d x q; omega
    · have := d' t q; omega
/-- t may be the time of a lap -/
def LapI (I : Int → Int → Int) (bk st t : Int) : Prop := ∃ l p t', 0 ≤ l ∧ l ≤ 2 ∧ (1 ≤ p ∧ p ≤ st ∧ p ≤ I 48 l) ∧ AchI I bk (kk I 0) 0 l p t' ∧ t = tmv (I 5 1) 0 p + t'
def lapS (I : Int → Int → Int) (bk st x p t : Int) : Prop := ∃ l q t', 0 ≤ l ∧ l ≤ 2 ∧ (l < x ∨ l = x ∧ q < p) ∧ (1 ≤ q ∧ q ≤ st ∧ q ≤ I 48 l) ∧ AchI I bk (kk I 0) 0 l q t' ∧ t = tmv (I 5 1) 0 q + t'
def lapV (I : Int → Int → Int) (bk st v : Int) : Prop := 0 ≤ v ∧ (I 3 1 = 0 → v = 0) ∧ (0 < I 3 1 → Lst (LapI I bk st) 536870912 v)
def spX7_leastLap (As : List MV) (σ : MS) (K : Option MV → MS → Prop) : Prop := pR As fun s r => pI r fun st r => pN r (s = 2 ∧ σ.2.1 = PF ∧ 1 ≤ st ∧ st ≤ 60 ∧ tOK σ.2.2.1 ∧ limR σ.2.2.1 ∧ ∃ bk, (∀ l, 0 < σ.2.2.1 3 1 → 0 ≤ l → l ≤ 2 → rowOK σ.2.2.1 bk 0 l) ∧
  ∀ v, lapV σ.2.2.1 bk st v → K (some (.inl v)) σ)
def ciX7_leastLap : CI := (2, 7, 0, 0, spX7_leastLap)
def kX7_leastLap (pc : Nat) : List ME := match pc with
  | 0 => [(.aload_n 0, 1, []), (.getfield 12, 3, []), (.getfield 108, 3, []), (.ifCond .le 8, 3, [15]), (.ldc 139, 2, []), (.goto 4, 3, [16])]
  | 15 => [(.iconst 0, 1, [])]
  | 16 => [(.istore_n 2, 1, []), (.iconst 0, 1, []), (.istore_n 3, 1, [])]
  | 19 => [(.aload_n 0, 1, []), (.getfield 12, 3, []), (.getfield 108, 3, []), (.ifCond .le 68, 3, [94]), (.iload_n 3, 1, []), (.iconst 3, 1, []), (.if_icmp .ge 63, 3, [94]), (.iconst 1, 1, []), (.istore 4, 2, [])]
  | 37 => [(.iload 4, 2, []), (.iload_n 1, 1, []), (.aload_n 0, 1, []), (.getfield 35, 3, []), (.iload_n 3, 1, []), (.iaload, 1, []), (.invokestatic 114, 3, []), (.if_icmp .gt 39, 3, [88]), (.iload_n 2, 1, []), (.aload_n 0, 1, []), (.getfield 12, 3, []), (.getfield 87, 3, []), (.iconst 0, 1, []), (.aaload, 1, []), (.iload 4, 2, []), (.iconst 0, 1, []), (.invokevirtual 143, 3, []), (.aload_n 0, 1, []), (.getfield 41, 3, []), (.iload_n 3, 1, []), (.aaload, 1, []), (.iload 4, 2, []), (.iaload, 1, []), (.iadd, 1, []), (.invokestatic 114, 3, []), (.istore_n 2, 1, []), (.iinc 4 1, 3, []), (.goto (-48), 3, [37])]
  | 88 => [(.iinc 3 1, 3, []), (.goto (-72), 3, [19])]
  | 94 => [(.iload_n 2, 1, []), (.ireturn, 1, [])]
  | _ => []
theorem qX7_leastLap : ∀ pc, chk cX7_leastLap pc (kX7_leastLap pc) = true := by
  intro pc
  unfold kX7_leastLap
  split <;> first | decide +kernel | exact chk_nil
abbrev rmX7_leastLap : Room := { frames := 1, cells := 0, slots := 0, locals := 23 }
def aX7_leastLap (x : Nat) : Option CI := match x with
  | 114 => some ciMin
  | 143 => some ciX3_timeAt
  | _ => none
theorem aokX7_leastLap : ∀ x ci, aX7_leastLap x = some ci → CalOK RX7 rmX7_leastLap x ci := by
  intro x ci h
  unfold aX7_leastLap at h
  split at h
  · cases h; exact cal_min (List.forall_mem_cons.mpr ⟨(ws_mem (List.mem_of_getElem? (i := 490) (by decide +kernel)) (by decide +kernel)), List.forall_mem_cons.mpr ⟨(ws_mem (List.mem_of_getElem? (i := 155) (by decide +kernel)) (by decide +kernel)), List.forall_mem_cons.mpr ⟨(ws_mem (List.mem_of_getElem? (i := 58) (by decide +kernel)) (by decide +kernel)), List.forall_mem_cons.mpr ⟨(ws_mem (List.mem_of_getElem? (i := 156) (by decide +kernel)) (by decide +kernel)), fun _ h => absurd h List.not_mem_nil⟩⟩⟩⟩) (by decide)
  · cases h; exact cal_V mX3_timeAt (by decide) rfl (List.forall_mem_cons.mpr ⟨(ws_mem (List.mem_of_getElem? (i := 489) (by decide +kernel)) (by decide +kernel)), List.forall_mem_cons.mpr ⟨(ws_mem (List.mem_of_getElem? (i := 459) (by decide +kernel)) (by decide +kernel)), List.forall_mem_cons.mpr ⟨(ws_mem (List.mem_of_getElem? (i := 460) (by decide +kernel)) (by decide +kernel)), List.forall_mem_cons.mpr ⟨(ws_mem (List.mem_of_getElem? (i := 56) (by decide +kernel)) (by decide +kernel)), List.forall_mem_cons.mpr ⟨(ws_mem (List.mem_of_getElem? (i := 461) (by decide +kernel)) (by decide +kernel)), fun _ h => absurd h List.not_mem_nil⟩⟩⟩⟩⟩) rfl (by unfold nice; decide +kernel) (by unfold rfits; decide) ⟨rfl, rfl⟩
  · cases h
theorem ocX7_leastLap_114 (f : Nat → Nat → Nat → Nat → (List MV → MS → (Option MV → MS → Prop) → Prop) → Prop) : oC aX7_leastLap 114 f = f 2 10 0 0 spMin := propext Iff.rfl
theorem ocX7_leastLap_143 (f : Nat → Nat → Nat → Nat → (List MV → MS → (Option MV → MS → Prop) → Prop) → Prop) : oC aX7_leastLap 143 f = f 3 3 0 0 spX3_timeAt := propext Iff.rfl
theorem mdX7_leastLap : MD RX7 cX7_leastLap rmX7_leastLap kX7_leastLap fX7 aX7_leastLap zX7 uX7 := ⟨fokX7, zokX7, uokX7, aokX7_leastLap, qX7_leastLap⟩
theorem lapS_s {I : Int → Int → Int} {bk st x p : Int} (x0 : 0 ≤ x) (x1 : x ≤ 2) (hp : 1 ≤ p ∧ p ≤ st ∧ p ≤ I 48 x) (y : Int) : lapS I bk st x (p + 1) y ↔ lapS I bk st x p y ∨ ∃ t, AchI I bk (kk I 0) 0 x p t ∧ y = tmv (I 5 1) 0 p + t := by
  unfold lapS
  constructor
  · rintro ⟨l, q, t', a, b, c, d, e, f⟩
    by_cases g : l = x ∧ q = p
    · obtain ⟨rfl, rfl⟩ := g; exact .inr ⟨t', e, f⟩
    · exact .inl ⟨l, q, t', a, b, by omega, d, e, f⟩
  · rintro (⟨l, q, t', a, b, c, d, e, f⟩ | ⟨t, e, f⟩)
    · exact ⟨l, q, t', a, b, by omega, d, e, f⟩
    · exact ⟨x, p, t, x0, x1, by omega, hp, e, f⟩
set_option maxHeartbeats 1600000 in
set_option maxRecDepth 100000 in
theorem lpX7_l1 {post : Option MV → MS → Prop} {U : Pt → Prop} {N : Nat} {I L : Int → Int → Int} {st bk x : Int} (s0 : 1 ≤ st) (s1 : st ≤ 60) (ht : tOK I) (hl : limR I) (hR : ∀ l, 0 ≤ l → l ≤ 2 → rowOK I bk 0 l) (hn : 0 < I 3 1) (x0 : 0 ≤ x) (x1 : x ≤ 2)
    (h : ∀ (v : Int) (t : Option MV), 0 ≤ v → Lst (lapS I bk st (x + 1) 1) 536870912 v → Ok RX7 cX7_leastLap 5 rmX7_leastLap false none post U (19, [some (.inr (.inr (some 2))), some (.inl st), some (.inl v), some (.inl (x + 1)), t], [], (N, PF, I, L), 0, 0)) :
    ∀ (m : Nat) (p v : Int), p + m = 61 → 1 ≤ p → 0 ≤ v → Lst (lapS I bk st x p) 536870912 v →
    Ok RX7 cX7_leastLap 5 rmX7_leastLap false none post U (37, [some (.inr (.inr (some 2))), some (.inl st), some (.inl v), some (.inl x), some (.inl p)], [], (N, PF, I, L), 0, 0)
  | m, p, v, hm, p1, v0, h1 => by
    have hlx := hl 0 x (by omega) (by omega) x0 x1
    rw [show 3 * 0 + x = x by omega] at hlx
    have fin : st < p ∨ I 48 x < p → Ok RX7 cX7_leastLap 5 rmX7_leastLap false none post U (19, [some (.inr (.inr (some 2))), some (.inl st), some (.inl v), some (.inl (x + 1)), some (.inl p)], [], (N, PF, I, L), 0, 0) := fun q => by
      refine h v _ v0 (h1.cg (fun y => ?_))
      unfold lapS
      constructor
      · rintro ⟨l, q, t', a, b, c, d, e, f⟩
        exact ⟨l, q, t', a, b, by by_cases g : l = x; subst g; omega; omega, d, e, f⟩
      · rintro ⟨l, q, t', a, b, c, d, e, f⟩
        exact ⟨l, q, t', a, b, by omega, d, e, f⟩
    have hg5 := G_st (a := 5) (by omega) (by omega)
    have hp5 : PF 4 0 = some 5 := PF_st (i := 0) (by omega) (by omega)
    have hpr : PF 49 x = some (50 + x) := PF_rest (i := x) (by omega) (by omega)
    have hgr := G_row (a := 50 + x) (by omega) (by omega)
    have hst : stOK I 5 := ht.2.2 0 (by omega) hn
    rcases m with _ | m
    · refine Ok.seg mdX7_leastLap [19, 37] 14 ?_
      simp only [wp_nil, wp_cons, ↓stp, ↓lI, ↓lL, ↓lR, ↓lIn_0, ↓lIn_1, ↓lIn_2, ↓lIn_3, ↓lLn_0, ↓lLn_1, ↓lLn_2, ↓lLn_3, ↓lRn_0, ↓lRn_1, ↓lRn_2, ↓lRn_3, ↓pI, ↓pL, ↓pR, ↓pA, ↓pN, ↓pV, ↓fp, ↓tsw, ↓oS, ↓spMax, ↓spMin, ↓spAbs, ↓spObj, RI, RLg, b2i_lo, b2i_hi, getL, setL, ltL, killL, isLong, inl, cnd, br, tgt, rcv, rpl, mputI, mputL, mputP, fv, fr, mcat, mcs, entL, entA, rfit, nf_0, nf_1, nf_2, nf_3, nf2_0, nf2_1, b2i_0, b2i_1, RI_b2i, b2i_fit, List.append, List.length, List.replicate, List.cons_append, List.nil_append, List.length_cons, List.length_nil, List.replicate_succ, List.replicate_zero, List.tail_cons, reduceIte, if_true, if_false, ite_true, ite_false, Bool.false_eq_true, true_and, and_true, and_self, false_and, and_false, or_self, or_true, true_or, or_false, false_or, not_true_eq_false, not_false_eq_true, ne_eq, forall_const, implies_true, imp_self, true_implies, false_implies, Nat.reduceAdd, Nat.reduceSub, Nat.reduceMul, Nat.reduceDiv, Nat.reduceMod, Nat.reduceEqDiff, Nat.reduceLT, Nat.reduceLeDiff, Nat.reduceBEq, Nat.add_zero, Nat.zero_add, Nat.le_refl, Nat.not_lt_zero, Nat.succ_eq_add_one, Int.reduceNatCast, Int.cast_ofNat_Int, Int.reduceSub, Int.reduceMul, Int.reduceNeg, Int.reduceLE, Int.reduceLT, Int.reduceToNat, Int.reduceEq, Int.reduceNe, Int.reduceAdd, Option.some.injEq, kX7_leastLap, rmX7_leastLap, ↓ofX7_108, ↓ofX7_12, ↓ofX7_35, ↓ofX7_41, ↓ofX7_87, ↓ozX7_139, ↓ocX7_leastLap_114, ↓ocX7_leastLap_143, ↓spX3_timeAt, hg5, hp5, hpr, hgr, hst, G_1, G_2, G_3, G_4, G_35, G_36, G_37, G_38, G_39, G_40, G_41, G_42, G_43, G_44, G_45, G_46, G_47, G_48, G_49, G_140, G_141, G_142, G_143, G_144, G_145, G_146, G_178, G_179, G_180, G_181, G_182, G_183, G_184, G_189, G_198, G_207, PF_1_0, PF_1_1, PF_1_2, PF_1_3, PF_2_0, PF_2_1, PF_2_3, PF_2_4, PF_2_5, PF_2_6, PF_2_7, PF_2_8, PF_2_9, PF_2_10, PF_2_11, PF_3_0, PF_35_0, PF_35_1, PF_35_2, PF_35_3, PF_40_0, PF_40_1, PF_40_2, PF_44_0, PF_44_1, PF_44_2, PF_145_0, PF_145_1, PF_179_0, PF_179_1, PF_179_2, PF_179_3, PF_179_8, PF_179_9, PF_179_10]
      have hv := h1.2.1
      refine ⟨by omega, by omega, by omega, by omega, fun r r1 r2 r3 => ⟨by omega, by omega, fun q => fin (by omega), fun q => by omega⟩⟩
    · have ih := lpX7_l1 (U := U) s0 s1 ht hl hR hn x0 x1 h m (p + 1)
      refine Ok.seg mdX7_leastLap [19, 37] 40 ?_
      simp only [wp_nil, wp_cons, ↓stp, ↓lI, ↓lL, ↓lR, ↓lIn_0, ↓lIn_1, ↓lIn_2, ↓lIn_3, ↓lLn_0, ↓lLn_1, ↓lLn_2, ↓lLn_3, ↓lRn_0, ↓lRn_1, ↓lRn_2, ↓lRn_3, ↓pI, ↓pL, ↓pR, ↓pA, ↓pN, ↓pV, ↓fp, ↓tsw, ↓oS, ↓spMax, ↓spMin, ↓spAbs, ↓spObj, RI, RLg, b2i_lo, b2i_hi, getL, setL, ltL, killL, isLong, inl, cnd, br, tgt, rcv, rpl, mputI, mputL, mputP, fv, fr, mcat, mcs, entL, entA, rfit, nf_0, nf_1, nf_2, nf_3, nf2_0, nf2_1, b2i_0, b2i_1, RI_b2i, b2i_fit, List.append, List.length, List.replicate, List.cons_append, List.nil_append, List.length_cons, List.length_nil, List.replicate_succ, List.replicate_zero, List.tail_cons, reduceIte, if_true, if_false, ite_true, ite_false, Bool.false_eq_true, true_and, and_true, and_self, false_and, and_false, or_self, or_true, true_or, or_false, false_or, not_true_eq_false, not_false_eq_true, ne_eq, forall_const, implies_true, imp_self, true_implies, false_implies, Nat.reduceAdd, Nat.reduceSub, Nat.reduceMul, Nat.reduceDiv, Nat.reduceMod, Nat.reduceEqDiff, Nat.reduceLT, Nat.reduceLeDiff, Nat.reduceBEq, Nat.add_zero, Nat.zero_add, Nat.le_refl, Nat.not_lt_zero, Nat.succ_eq_add_one, Int.reduceNatCast, Int.cast_ofNat_Int, Int.reduceSub, Int.reduceMul, Int.reduceNeg, Int.reduceLE, Int.reduceLT, Int.reduceToNat, Int.reduceEq, Int.reduceNe, Int.reduceAdd, Option.some.injEq, kX7_leastLap, rmX7_leastLap, ↓ofX7_108, ↓ofX7_12, ↓ofX7_35, ↓ofX7_41, ↓ofX7_87, ↓ozX7_139, ↓ocX7_leastLap_114, ↓ocX7_leastLap_143, ↓spX3_timeAt, hg5, hp5, hpr, hgr, hst, G_1, G_2, G_3, G_4, G_35, G_36, G_37, G_38, G_39, G_40, G_41, G_42, G_43, G_44, G_45, G_46, G_47, G_48, G_49, G_140, G_141, G_142, G_143, G_144, G_145, G_146, G_178, G_179, G_180, G_181, G_182, G_183, G_184, G_189, G_198, G_207, PF_1_0, PF_1_1, PF_1_2, PF_1_3, PF_2_0, PF_2_1, PF_2_3, PF_2_4, PF_2_5, PF_2_6, PF_2_7, PF_2_8, PF_2_9, PF_2_10, PF_2_11, PF_3_0, PF_35_0, PF_35_1, PF_35_2, PF_35_3, PF_40_0, PF_40_1, PF_40_2, PF_44_0, PF_44_1, PF_44_2, PF_145_0, PF_145_1, PF_179_0, PF_179_1, PF_179_2, PF_179_3, PF_179_8, PF_179_9, PF_179_10]
      have hv := h1.2.1
      have hs := hst
      unfold stOK at hs
      have htm := tmv_rng (len := I 5 1) (ch := 0) (p := p) (by omega) (by omega) p1
      have hr0 := hR x x0 x1 p p1 (by omega)
      rw [show 50 + (3 * 0 + x) = 50 + x by omega] at hr0
      have hrF := hr0.2.2.1
      refine ⟨by omega, by omega, by omega, by omega, fun r r1 r2 r3 => ⟨by omega, by omega, fun q => fin (by omega), fun q => ⟨by omega, by omega, by omega, by omega, by omega, by omega, by omega, by omega, fun z z1 z2 z3 => ?_⟩⟩⟩
      exact ih z (by omega) (by omega) (by omega) (h1.join hr0.2 htm.1 (lapS_s x0 x1 ⟨p1, by omega, by omega⟩) z1 z2 z3)
set_option maxHeartbeats 1600000 in
set_option maxRecDepth 100000 in
theorem lpX7_l2 {K : Option MV → MS → Prop} {U : Pt → Prop} {N : Nat} {I L : Int → Int → Int} {st bk : Int} (s0 : 1 ≤ st) (s1 : st ≤ 60) (ht : tOK I) (hl : limR I) (hR : ∀ l, 0 ≤ l → l ≤ 2 → rowOK I bk 0 l) (hn : 0 < I 3 1)
    (h : ∀ v, lapV I bk st v → K (some (.inl v)) (N, PF, I, L)) :
    ∀ (m : Nat) (x v : Int) (t : Option MV), x + m = 3 → 0 ≤ x → 0 ≤ v → Lst (lapS I bk st x 1) 536870912 v →
    Ok RX7 cX7_leastLap 5 rmX7_leastLap false none (fun r σ' => rfit (some .int) r ∧ K r σ') U (19, [some (.inr (.inr (some 2))), some (.inl st), some (.inl v), some (.inl x), t], [], (N, PF, I, L), 0, 0)
  | 0, x, v, t, hm, x0, v0, h1 => by
    have h3 := ht.2.1
    refine Ok.seg mdX7_leastLap [19, 37] 14 ?_
    simp only [wp_nil, wp_cons, ↓stp, ↓lI, ↓lL, ↓lR, ↓lIn_0, ↓lIn_1, ↓lIn_2, ↓lIn_3, ↓lLn_0, ↓lLn_1, ↓lLn_2, ↓lLn_3, ↓lRn_0, ↓lRn_1, ↓lRn_2, ↓lRn_3, ↓pI, ↓pL, ↓pR, ↓pA, ↓pN, ↓pV, ↓fp, ↓tsw, ↓oS, ↓spMax, ↓spMin, ↓spAbs, ↓spObj, RI, RLg, b2i_lo, b2i_hi, getL, setL, ltL, killL, isLong, inl, cnd, br, tgt, rcv, rpl, mputI, mputL, mputP, fv, fr, mcat, mcs, entL, entA, rfit, nf_0, nf_1, nf_2, nf_3, nf2_0, nf2_1, b2i_0, b2i_1, RI_b2i, b2i_fit, List.append, List.length, List.replicate, List.cons_append, List.nil_append, List.length_cons, List.length_nil, List.replicate_succ, List.replicate_zero, List.tail_cons, reduceIte, if_true, if_false, ite_true, ite_false, Bool.false_eq_true, true_and, and_true, and_self, false_and, and_false, or_self, or_true, true_or, or_false, false_or, not_true_eq_false, not_false_eq_true, ne_eq, forall_const, implies_true, imp_self, true_implies, false_implies, Nat.reduceAdd, Nat.reduceSub, Nat.reduceMul, Nat.reduceDiv, Nat.reduceMod, Nat.reduceEqDiff, Nat.reduceLT, Nat.reduceLeDiff, Nat.reduceBEq, Nat.add_zero, Nat.zero_add, Nat.le_refl, Nat.not_lt_zero, Nat.succ_eq_add_one, Int.reduceNatCast, Int.cast_ofNat_Int, Int.reduceSub, Int.reduceMul, Int.reduceNeg, Int.reduceLE, Int.reduceLT, Int.reduceToNat, Int.reduceEq, Int.reduceNe, Int.reduceAdd, Option.some.injEq, kX7_leastLap, rmX7_leastLap, ↓ofX7_108, ↓ofX7_12, ↓ofX7_35, ↓ofX7_41, ↓ofX7_87, ↓ozX7_139, ↓ocX7_leastLap_114, ↓ocX7_leastLap_143, ↓spX3_timeAt, G_1, G_2, G_3, G_4, G_35, G_36, G_37, G_38, G_39, G_40, G_41, G_42, G_43, G_44, G_45, G_46, G_47, G_48, G_49, G_140, G_141, G_142, G_143, G_144, G_145, G_146, G_178, G_179, G_180, G_181, G_182, G_183, G_184, G_189, G_198, G_207, PF_1_0, PF_1_1, PF_1_2, PF_1_3, PF_2_0, PF_2_1, PF_2_3, PF_2_4, PF_2_5, PF_2_6, PF_2_7, PF_2_8, PF_2_9, PF_2_10, PF_2_11, PF_3_0, PF_35_0, PF_35_1, PF_35_2, PF_35_3, PF_40_0, PF_40_1, PF_40_2, PF_44_0, PF_44_1, PF_44_2, PF_145_0, PF_145_1, PF_179_0, PF_179_1, PF_179_2, PF_179_3, PF_179_8, PF_179_9, PF_179_10]
    refine ⟨by omega, fun q => by omega, fun q => ⟨by omega, fun q => h v ⟨v0, fun z => by omega, fun _ => h1.cg (fun y => ?_)⟩, fun q => by omega⟩⟩
    unfold lapS LapI
    constructor
    · rintro ⟨l, p, t', a, b, c, d, e⟩; exact ⟨l, p, t', a, b, by omega, c, d, e⟩
    · rintro ⟨l, p, t', a, b, _, c, d, e⟩; exact ⟨l, p, t', a, b, c, d, e⟩
  | m + 1, x, v, t, hm, x0, v0, h1 => by
    have h3 := ht.2.1
    have ih := lpX7_l2 (U := U) (K := K) s0 s1 ht hl hR hn h m (x + 1)
    refine Ok.seg mdX7_leastLap [19, 37] 14 ?_
    simp only [wp_nil, wp_cons, ↓stp, ↓lI, ↓lL, ↓lR, ↓lIn_0, ↓lIn_1, ↓lIn_2, ↓lIn_3, ↓lLn_0, ↓lLn_1, ↓lLn_2, ↓lLn_3, ↓lRn_0, ↓lRn_1, ↓lRn_2, ↓lRn_3, ↓pI, ↓pL, ↓pR, ↓pA, ↓pN, ↓pV, ↓fp, ↓tsw, ↓oS, ↓spMax, ↓spMin, ↓spAbs, ↓spObj, RI, RLg, b2i_lo, b2i_hi, getL, setL, ltL, killL, isLong, inl, cnd, br, tgt, rcv, rpl, mputI, mputL, mputP, fv, fr, mcat, mcs, entL, entA, rfit, nf_0, nf_1, nf_2, nf_3, nf2_0, nf2_1, b2i_0, b2i_1, RI_b2i, b2i_fit, List.append, List.length, List.replicate, List.cons_append, List.nil_append, List.length_cons, List.length_nil, List.replicate_succ, List.replicate_zero, List.tail_cons, reduceIte, if_true, if_false, ite_true, ite_false, Bool.false_eq_true, true_and, and_true, and_self, false_and, and_false, or_self, or_true, true_or, or_false, false_or, not_true_eq_false, not_false_eq_true, ne_eq, forall_const, implies_true, imp_self, true_implies, false_implies, Nat.reduceAdd, Nat.reduceSub, Nat.reduceMul, Nat.reduceDiv, Nat.reduceMod, Nat.reduceEqDiff, Nat.reduceLT, Nat.reduceLeDiff, Nat.reduceBEq, Nat.add_zero, Nat.zero_add, Nat.le_refl, Nat.not_lt_zero, Nat.succ_eq_add_one, Int.reduceNatCast, Int.cast_ofNat_Int, Int.reduceSub, Int.reduceMul, Int.reduceNeg, Int.reduceLE, Int.reduceLT, Int.reduceToNat, Int.reduceEq, Int.reduceNe, Int.reduceAdd, Option.some.injEq, kX7_leastLap, rmX7_leastLap, ↓ofX7_108, ↓ofX7_12, ↓ofX7_35, ↓ofX7_41, ↓ofX7_87, ↓ozX7_139, ↓ocX7_leastLap_114, ↓ocX7_leastLap_143, ↓spX3_timeAt, G_1, G_2, G_3, G_4, G_35, G_36, G_37, G_38, G_39, G_40, G_41, G_42, G_43, G_44, G_45, G_46, G_47, G_48, G_49, G_140, G_141, G_142, G_143, G_144, G_145, G_146, G_178, G_179, G_180, G_181, G_182, G_183, G_184, G_189, G_198, G_207, PF_1_0, PF_1_1, PF_1_2, PF_1_3, PF_2_0, PF_2_1, PF_2_3, PF_2_4, PF_2_5, PF_2_6, PF_2_7, PF_2_8, PF_2_9, PF_2_10, PF_2_11, PF_3_0, PF_35_0, PF_35_1, PF_35_2, PF_35_3, PF_40_0, PF_40_1, PF_40_2, PF_44_0, PF_44_1, PF_44_2, PF_145_0, PF_145_1, PF_179_0, PF_179_1, PF_179_2, PF_179_3, PF_179_8, PF_179_9, PF_179_10]
    refine ⟨by omega, fun q => by omega, fun q => ⟨by omega, fun q => by omega, fun q => ?_⟩⟩
    exact lpX7_l1 s0 s1 ht hl hR hn x0 (by omega) (fun v t v0 h => ih v t (by omega) (by omega) v0 h) 60 1 v (by omega) (by omega) v0 h1
set_option maxRecDepth 100000 in
set_option maxHeartbeats 800000 in
theorem mX7_leastLap : MOK yX7_leastLap cX7_leastLap 5 (some .int) rmX7_leastLap ciX7_leastLap := by
  refine mok_of (ini := false) (by decide +kernel) (by decide) rfl rfl ?_
  intro σ As K hrc hl h
  obtain ⟨N, P, I, L⟩ := σ
  have h9 := pR_iff.mp h
  clear h
  obtain ⟨s, r, e9, h⟩ := h9
  subst e9
  have h9 := pI_iff.mp h
  clear h
  obtain ⟨st, r, e9, h⟩ := h9
  subst e9
  have h9 := pN_iff.mp h
  clear h
  obtain ⟨e9, h⟩ := h9
  subst e9
  dsimp only at h
  obtain ⟨rfl, rfl, s0, s1, ht, hl, bk, hR, h⟩ := h
  have h3 := ht.1
  have h4 := ht.2.1
  refine ⟨Nat.le_of_ble_eq_true rfl, Ok.seg mdX7_leastLap [19] 12 ?_⟩
  simp only [wp_nil, wp_cons, ↓stp, ↓lI, ↓lL, ↓lR, ↓lIn_0, ↓lIn_1, ↓lIn_2, ↓lIn_3, ↓lLn_0, ↓lLn_1, ↓lLn_2, ↓lLn_3, ↓lRn_0, ↓lRn_1, ↓lRn_2, ↓lRn_3, ↓pI, ↓pL, ↓pR, ↓pA, ↓pN, ↓pV, ↓fp, ↓tsw, ↓oS, ↓spMax, ↓spMin, ↓spAbs, ↓spObj, RI, RLg, b2i_lo, b2i_hi, getL, setL, ltL, killL, isLong, inl, cnd, br, tgt, rcv, rpl, mputI, mputL, mputP, fv, fr, mcat, mcs, entL, entA, rfit, nf_0, nf_1, nf_2, nf_3, nf2_0, nf2_1, b2i_0, b2i_1, RI_b2i, b2i_fit, List.append, List.length, List.replicate, List.cons_append, List.nil_append, List.length_cons, List.length_nil, List.replicate_succ, List.replicate_zero, List.tail_cons, reduceIte, if_true, if_false, ite_true, ite_false, Bool.false_eq_true, true_and, and_true, and_self, false_and, and_false, or_self, or_true, true_or, or_false, false_or, not_true_eq_false, not_false_eq_true, ne_eq, forall_const, implies_true, imp_self, true_implies, false_implies, Nat.reduceAdd, Nat.reduceSub, Nat.reduceMul, Nat.reduceDiv, Nat.reduceMod, Nat.reduceEqDiff, Nat.reduceLT, Nat.reduceLeDiff, Nat.reduceBEq, Nat.add_zero, Nat.zero_add, Nat.le_refl, Nat.not_lt_zero, Nat.succ_eq_add_one, Int.reduceNatCast, Int.cast_ofNat_Int, Int.reduceSub, Int.reduceMul, Int.reduceNeg, Int.reduceLE, Int.reduceLT, Int.reduceToNat, Int.reduceEq, Int.reduceNe, Int.reduceAdd, Option.some.injEq, kX7_leastLap, rmX7_leastLap, ↓ofX7_108, ↓ofX7_12, ↓ofX7_35, ↓ofX7_41, ↓ofX7_87, ↓ozX7_139, ↓ocX7_leastLap_114, ↓ocX7_leastLap_143, ↓spX3_timeAt, G_1, G_2, G_3, G_4, G_35, G_36, G_37, G_38, G_39, G_40, G_41, G_42, G_43, G_44, G_45, G_46, G_47, G_48, G_49, G_140, G_141, G_142, G_143, G_144, G_145, G_146, G_178, G_179, G_180, G_181, G_182, G_183, G_184, G_189, G_198, G_207, PF_1_0, PF_1_1, PF_1_2, PF_1_3, PF_2_0, PF_2_1, PF_2_3, PF_2_4, PF_2_5, PF_2_6, PF_2_7, PF_2_8, PF_2_9, PF_2_10, PF_2_11, PF_3_0, PF_35_0, PF_35_1, PF_35_2, PF_35_3, PF_40_0, PF_40_1, PF_40_2, PF_44_0, PF_44_1, PF_44_2, PF_145_0, PF_145_1, PF_179_0, PF_179_1, PF_179_2, PF_179_3, PF_179_8, PF_179_9, PF_179_10]
  refine ⟨by omega, fun q => ?_, fun q => ?_⟩
  · refine Ok.seg mdX7_leastLap [] 14 ?_
    simp only [wp_nil, wp_cons, ↓stp, ↓lI, ↓lL, ↓lR, ↓lIn_0, ↓lIn_1, ↓lIn_2, ↓lIn_3, ↓lLn_0, ↓lLn_1, ↓lLn_2, ↓lLn_3, ↓lRn_0, ↓lRn_1, ↓lRn_2, ↓lRn_3, ↓pI, ↓pL, ↓pR, ↓pA, ↓pN, ↓pV, ↓fp, ↓tsw, ↓oS, ↓spMax, ↓spMin, ↓spAbs, ↓spObj, RI, RLg, b2i_lo, b2i_hi, getL, setL, ltL, killL, isLong, inl, cnd, br, tgt, rcv, rpl, mputI, mputL, mputP, fv, fr, mcat, mcs, entL, entA, rfit, nf_0, nf_1, nf_2, nf_3, nf2_0, nf2_1, b2i_0, b2i_1, RI_b2i, b2i_fit, List.append, List.length, List.replicate, List.cons_append, List.nil_append, List.length_cons, List.length_nil, List.replicate_succ, List.replicate_zero, List.tail_cons, reduceIte, if_true, if_false, ite_true, ite_false, Bool.false_eq_true, true_and, and_true, and_self, false_and, and_false, or_self, or_true, true_or, or_false, false_or, not_true_eq_false, not_false_eq_true, ne_eq, forall_const, implies_true, imp_self, true_implies, false_implies, Nat.reduceAdd, Nat.reduceSub, Nat.reduceMul, Nat.reduceDiv, Nat.reduceMod, Nat.reduceEqDiff, Nat.reduceLT, Nat.reduceLeDiff, Nat.reduceBEq, Nat.add_zero, Nat.zero_add, Nat.le_refl, Nat.not_lt_zero, Nat.succ_eq_add_one, Int.reduceNatCast, Int.cast_ofNat_Int, Int.reduceSub, Int.reduceMul, Int.reduceNeg, Int.reduceLE, Int.reduceLT, Int.reduceToNat, Int.reduceEq, Int.reduceNe, Int.reduceAdd, Option.some.injEq, kX7_leastLap, rmX7_leastLap, ↓ofX7_108, ↓ofX7_12, ↓ofX7_35, ↓ofX7_41, ↓ofX7_87, ↓ozX7_139, ↓ocX7_leastLap_114, ↓ocX7_leastLap_143, ↓spX3_timeAt, G_1, G_2, G_3, G_4, G_35, G_36, G_37, G_38, G_39, G_40, G_41, G_42, G_43, G_44, G_45, G_46, G_47, G_48, G_49, G_140, G_141, G_142, G_143, G_144, G_145, G_146, G_178, G_179, G_180, G_181, G_182, G_183, G_184, G_189, G_198, G_207, PF_1_0, PF_1_1, PF_1_2, PF_1_3, PF_2_0, PF_2_1, PF_2_3, PF_2_4, PF_2_5, PF_2_6, PF_2_7, PF_2_8, PF_2_9, PF_2_10, PF_2_11, PF_3_0, PF_35_0, PF_35_1, PF_35_2, PF_35_3, PF_40_0, PF_40_1, PF_40_2, PF_44_0, PF_44_1, PF_44_2, PF_145_0, PF_145_1, PF_179_0, PF_179_1, PF_179_2, PF_179_3, PF_179_8, PF_179_9, PF_179_10]
    exact ⟨by omega, fun q => h 0 ⟨by omega, fun _ => rfl, fun z => by omega⟩, fun q => by omega⟩
  · refine lpX7_l2 s0 s1 ht hl (fun l => hR l (by omega)) (by omega) h 3 0 _ none (by omega) (by omega) (by omega) (Lst.none (fun y => ?_))
    rintro ⟨l, p, t', a, b, c, d, e⟩
    omega
/-- all limits by a grip -/
def limOK (I : Int → Int → Int) (g : Int) : Prop := ∀ i l, 0 ≤ i → i < I 3 1 → 0 ≤ l → l ≤ 2 → I 48 (3 * i + l) = lmv I g i l
theorem limOK.R {I : Int → Int → Int} {g : Int} (h : limOK I g) : limR I := fun i l a b c d => by rw [h i l a b c d]; exact lim_rng _ _ _ _ _
/-- rows and limits stand -/
def slvOK (I : Int → Int → Int) (g bk : Int) : Prop := limOK I g ∧ ∀ i l, 0 ≤ i → i < I 3 1 → 0 ≤ l → l ≤ 2 → rowOK I bk i l
def spX7_solve (As : List MV) (σ : MS) (K : Option MV → MS → Prop) : Prop := pR As fun s r => pI r fun g r => pI r fun bk r => pI r fun st r => pN r (s = 2 ∧ σ.2.1 = PF ∧ -20 ≤ g ∧ g ≤ 20 ∧ 1 ≤ bk ∧ bk ≤ 30 ∧ 1 ≤ st ∧ st ≤ 60 ∧ tOK σ.2.2.1 ∧ carOK σ.2.2.1 ∧
  ∀ (I' : Int → Int → Int) (v : Int), (∀ b k, b ≠ 48 → b ≠ 140 → b ≠ 141 → ¬ (50 ≤ b ∧ b ≤ 139) → I' b k = σ.2.2.1 b k) → slvOK I' g bk → lapV I' bk st v → K (some (.inl v)) (σ.1, σ.2.1, I', σ.2.2.2))
def ciX7_solve : CI := (4, 7, 0, 0, spX7_solve)
def kX7_solve (pc : Nat) : List ME := match pc with
  | 0 => [(.iconst 0, 1, []), (.istore 4, 2, [])]
  | 3 => [(.iload 4, 2, []), (.aload_n 0, 1, []), (.getfield 12, 3, []), (.getfield 108, 3, []), (.if_icmp .ge 16, 3, [28]), (.aload_n 0, 1, []), (.iload 4, 2, []), (.iload_n 1, 1, []), (.invokevirtual 120, 3, []), (.iinc 4 1, 3, []), (.goto (-22), 3, [3])]
  | 28 => [(.aload_n 0, 1, []), (.aload_n 0, 1, []), (.getfield 12, 3, []), (.getfield 108, 3, []), (.iconst 1, 1, []), (.isub, 1, []), (.iload_n 2, 1, []), (.invokevirtual 124, 3, []), (.aload_n 0, 1, []), (.iload_n 3, 1, []), (.invokevirtual 127, 3, []), (.ireturn, 1, [])]
  | _ => []
theorem qX7_solve : ∀ pc, chk cX7_solve pc (kX7_solve pc) = true := by
  intro pc
  unfold kX7_solve
  split <;> first | decide +kernel | exact chk_nil
abbrev rmX7_solve : Room := { frames := 3, cells := 0, slots := 0, locals := 75 }
def aX7_solve (x : Nat) : Option CI := match x with
  | 120 => some ciX7_fillLimits
  | 124 => some ciX7_fillRests
  | 127 => some ciX7_leastLap
  | _ => none
theorem aokX7_solve : ∀ x ci, aX7_solve x = some ci → CalOK RX7 rmX7_solve x ci := by
  intro x ci h
  unfold aX7_solve at h
  split at h
  · cases h; exact cal_V mX7_fillLimits (by decide) rfl (List.forall_mem_cons.mpr ⟨(ws_mem (List.mem_of_getElem? (i := 474) (by decide +kernel)) (by decide +kernel)), List.forall_mem_cons.mpr ⟨(ws_mem (List.mem_of_getElem? (i := 476) (by decide +kernel)) (by decide +kernel)), List.forall_mem_cons.mpr ⟨(ws_mem (List.mem_of_getElem? (i := 4) (by decide +kernel)) (by decide +kernel)), List.forall_mem_cons.mpr ⟨(ws_mem (List.mem_of_getElem? (i := 54) (by decide +kernel)) (by decide +kernel)), List.forall_mem_cons.mpr ⟨(ws_mem (List.mem_of_getElem? (i := 477) (by decide +kernel)) (by decide +kernel)), fun _ h => absurd h List.not_mem_nil⟩⟩⟩⟩⟩) rfl (by unfold nice; decide +kernel) (by unfold rfits; decide) ⟨rfl, rfl⟩
  · cases h; exact cal_V mX7_fillRests (by decide) rfl (List.forall_mem_cons.mpr ⟨(ws_mem (List.mem_of_getElem? (i := 479) (by decide +kernel)) (by decide +kernel)), List.forall_mem_cons.mpr ⟨(ws_mem (List.mem_of_getElem? (i := 481) (by decide +kernel)) (by decide +kernel)), List.forall_mem_cons.mpr ⟨(ws_mem (List.mem_of_getElem? (i := 5) (by decide +kernel)) (by decide +kernel)), List.forall_mem_cons.mpr ⟨(ws_mem (List.mem_of_getElem? (i := 54) (by decide +kernel)) (by decide +kernel)), List.forall_mem_cons.mpr ⟨(ws_mem (List.mem_of_getElem? (i := 482) (by decide +kernel)) (by decide +kernel)), fun _ h => absurd h List.not_mem_nil⟩⟩⟩⟩⟩) rfl (by unfold nice; decide +kernel) (by unfold rfits; decide) ⟨rfl, rfl⟩
  · cases h; exact cal_V mX7_leastLap (by decide) rfl (List.forall_mem_cons.mpr ⟨(ws_mem (List.mem_of_getElem? (i := 495) (by decide +kernel)) (by decide +kernel)), List.forall_mem_cons.mpr ⟨(ws_mem (List.mem_of_getElem? (i := 497) (by decide +kernel)) (by decide +kernel)), List.forall_mem_cons.mpr ⟨(ws_mem (List.mem_of_getElem? (i := 8) (by decide +kernel)) (by decide +kernel)), List.forall_mem_cons.mpr ⟨(ws_mem (List.mem_of_getElem? (i := 54) (by decide +kernel)) (by decide +kernel)), List.forall_mem_cons.mpr ⟨(ws_mem (List.mem_of_getElem? (i := 498) (by decide +kernel)) (by decide +kernel)), fun _ h => absurd h List.not_mem_nil⟩⟩⟩⟩⟩) rfl (by unfold nice; decide +kernel) (by unfold rfits; decide) ⟨rfl, rfl⟩
  · cases h
theorem ocX7_solve_120 (f : Nat → Nat → Nat → Nat → (List MV → MS → (Option MV → MS → Prop) → Prop) → Prop) : oC aX7_solve 120 f = f 3 7 0 0 spX7_fillLimits := propext Iff.rfl
theorem ocX7_solve_124 (f : Nat → Nat → Nat → Nat → (List MV → MS → (Option MV → MS → Prop) → Prop) → Prop) : oC aX7_solve 124 f = f 3 7 0 0 spX7_fillRests := propext Iff.rfl
theorem ocX7_solve_127 (f : Nat → Nat → Nat → Nat → (List MV → MS → (Option MV → MS → Prop) → Prop) → Prop) : oC aX7_solve 127 f = f 2 7 0 0 spX7_leastLap := propext Iff.rfl
theorem mdX7_solve : MD RX7 cX7_solve rmX7_solve kX7_solve fX7 aX7_solve zX7 uX7 := ⟨fokX7, zokX7, uokX7, aokX7_solve, qX7_solve⟩
theorem lmv_cg {I J : Int → Int → Int} {g i l : Int} (h : ∀ k, J (5 + i) k = I (5 + i) k) : lmv J g i l = lmv I g i l := by unfold lmv; rw [h, h, h]
set_option maxHeartbeats 1600000 in
set_option maxRecDepth 100000 in
theorem lpX7_s1 {post : Option MV → MS → Prop} {U : Pt → Prop} {N : Nat} {I L : Int → Int → Int} {g bk st : Int} (ht : tOK I) (hg : -20 ≤ g ∧ g ≤ 20)
    (h : ∀ (I1 : Int → Int → Int), (∀ b k, b ≠ 48 → I1 b k = I b k) → limOK I1 g → Ok RX7 cX7_solve 5 rmX7_solve false none post U (28, [some (.inr (.inr (some 2))), some (.inl g), some (.inl bk), some (.inl st), some (.inl (I 3 1))], [], (N, PF, I1, L), 0, 0)) :
    ∀ (m : Nat) (i : Int) (I1 : Int → Int → Int), i + m = I 3 1 → 0 ≤ i → (∀ b k, b ≠ 48 → I1 b k = I b k) → (∀ j l, 0 ≤ j → j < i → 0 ≤ l → l ≤ 2 → I1 48 (3 * j + l) = lmv I g j l) →
    Ok RX7 cX7_solve 5 rmX7_solve false none post U (3, [some (.inr (.inr (some 2))), some (.inl g), some (.inl bk), some (.inl st), some (.inl i)], [], (N, PF, I1, L), 0, 0)
  | 0, i, I1, hm, i0, h1, h2 => by
    have h3 := ht.2.1
    have e31 : I1 3 1 = I 3 1 := h1 3 1 (by omega)
    refine Ok.seg mdX7_solve [3, 28] 14 ?_
    simp only [wp_nil, wp_cons, ↓stp, ↓lI, ↓lL, ↓lR, ↓lIn_0, ↓lIn_1, ↓lIn_2, ↓lIn_3, ↓lLn_0, ↓lLn_1, ↓lLn_2, ↓lLn_3, ↓lRn_0, ↓lRn_1, ↓lRn_2, ↓lRn_3, ↓pI, ↓pL, ↓pR, ↓pA, ↓pN, ↓pV, ↓fp, ↓tsw, ↓oS, ↓spMax, ↓spMin, ↓spAbs, ↓spObj, RI, RLg, b2i_lo, b2i_hi, getL, setL, ltL, killL, isLong, inl, cnd, br, tgt, rcv, rpl, mputI, mputL, mputP, fv, fr, mcat, mcs, entL, entA, rfit, nf_0, nf_1, nf_2, nf_3, nf2_0, nf2_1, b2i_0, b2i_1, RI_b2i, b2i_fit, List.append, List.length, List.replicate, List.cons_append, List.nil_append, List.length_cons, List.length_nil, List.replicate_succ, List.replicate_zero, List.tail_cons, reduceIte, if_true, if_false, ite_true, ite_false, Bool.false_eq_true, true_and, and_true, and_self, false_and, and_false, or_self, or_true, true_or, or_false, false_or, not_true_eq_false, not_false_eq_true, ne_eq, forall_const, implies_true, imp_self, true_implies, false_implies, Nat.reduceAdd, Nat.reduceSub, Nat.reduceMul, Nat.reduceDiv, Nat.reduceMod, Nat.reduceEqDiff, Nat.reduceLT, Nat.reduceLeDiff, Nat.reduceBEq, Nat.add_zero, Nat.zero_add, Nat.le_refl, Nat.not_lt_zero, Nat.succ_eq_add_one, Int.reduceNatCast, Int.cast_ofNat_Int, Int.reduceSub, Int.reduceMul, Int.reduceNeg, Int.reduceLE, Int.reduceLT, Int.reduceToNat, Int.reduceEq, Int.reduceNe, Int.reduceAdd, Option.some.injEq, kX7_solve, rmX7_solve, ↓ofX7_108, ↓ofX7_12, ↓ocX7_solve_120, ↓spX7_fillLimits, ↓ocX7_solve_124, ↓spX7_fillRests, ↓ocX7_solve_127, ↓spX7_leastLap, e31, G_1, G_2, G_3, G_4, G_35, G_36, G_37, G_38, G_39, G_40, G_41, G_42, G_43, G_44, G_45, G_46, G_47, G_48, G_49, G_140, G_141, G_142, G_143, G_144, G_145, G_146, G_178, G_179, G_180, G_181, G_182, G_183, G_184, G_189, G_198, G_207, PF_1_0, PF_1_1, PF_1_2, PF_1_3, PF_2_0, PF_2_1, PF_2_3, PF_2_4, PF_2_5, PF_2_6, PF_2_7, PF_2_8, PF_2_9, PF_2_10, PF_2_11, PF_3_0, PF_35_0, PF_35_1, PF_35_2, PF_35_3, PF_40_0, PF_40_1, PF_40_2, PF_44_0, PF_44_1, PF_44_2, PF_145_0, PF_145_1, PF_179_0, PF_179_1, PF_179_2, PF_179_3, PF_179_8, PF_179_9, PF_179_10]
    refine ⟨by omega, by omega, fun q => ?_, fun q => by omega⟩
    rw [show i = I 3 1 by omega]
    refine h I1 h1 (fun j l a b c d => ?_)
    rw [h2 j l a (by omega) c d]
    exact (lmv_cg (fun k => h1 _ k (by omega))).symm
  | m + 1, i, I1, hm, i0, h1, h2 => by
    have h3 := ht.2.1
    have ih := lpX7_s1 (U := U) ht hg h m (i + 1)
    have e31 : I1 3 1 = I 3 1 := h1 3 1 (by omega)
    have hst : stOK I1 (5 + i) := stOK_cg (fun k => h1 _ k (by omega)) (ht.2.2 i i0 (by omega))
    refine Ok.seg mdX7_solve [3, 28] 18 ?_
    simp only [wp_nil, wp_cons, ↓stp, ↓lI, ↓lL, ↓lR, ↓lIn_0, ↓lIn_1, ↓lIn_2, ↓lIn_3, ↓lLn_0, ↓lLn_1, ↓lLn_2, ↓lLn_3, ↓lRn_0, ↓lRn_1, ↓lRn_2, ↓lRn_3, ↓pI, ↓pL, ↓pR, ↓pA, ↓pN, ↓pV, ↓fp, ↓tsw, ↓oS, ↓spMax, ↓spMin, ↓spAbs, ↓spObj, RI, RLg, b2i_lo, b2i_hi, getL, setL, ltL, killL, isLong, inl, cnd, br, tgt, rcv, rpl, mputI, mputL, mputP, fv, fr, mcat, mcs, entL, entA, rfit, nf_0, nf_1, nf_2, nf_3, nf2_0, nf2_1, b2i_0, b2i_1, RI_b2i, b2i_fit, List.append, List.length, List.replicate, List.cons_append, List.nil_append, List.length_cons, List.length_nil, List.replicate_succ, List.replicate_zero, List.tail_cons, reduceIte, if_true, if_false, ite_true, ite_false, Bool.false_eq_true, true_and, and_true, and_self, false_and, and_false, or_self, or_true, true_or, or_false, false_or, not_true_eq_false, not_false_eq_true, ne_eq, forall_const, implies_true, imp_self, true_implies, false_implies, Nat.reduceAdd, Nat.reduceSub, Nat.reduceMul, Nat.reduceDiv, Nat.reduceMod, Nat.reduceEqDiff, Nat.reduceLT, Nat.reduceLeDiff, Nat.reduceBEq, Nat.add_zero, Nat.zero_add, Nat.le_refl, Nat.not_lt_zero, Nat.succ_eq_add_one, Int.reduceNatCast, Int.cast_ofNat_Int, Int.reduceSub, Int.reduceMul, Int.reduceNeg, Int.reduceLE, Int.reduceLT, Int.reduceToNat, Int.reduceEq, Int.reduceNe, Int.reduceAdd, Option.some.injEq, kX7_solve, rmX7_solve, ↓ofX7_108, ↓ofX7_12, ↓ocX7_solve_120, ↓spX7_fillLimits, ↓ocX7_solve_124, ↓spX7_fillRests, ↓ocX7_solve_127, ↓spX7_leastLap, e31, hst, G_1, G_2, G_3, G_4, G_35, G_36, G_37, G_38, G_39, G_40, G_41, G_42, G_43, G_44, G_45, G_46, G_47, G_48, G_49, G_140, G_141, G_142, G_143, G_144, G_145, G_146, G_178, G_179, G_180, G_181, G_182, G_183, G_184, G_189, G_198, G_207, PF_1_0, PF_1_1, PF_1_2, PF_1_3, PF_2_0, PF_2_1, PF_2_3, PF_2_4, PF_2_5, PF_2_6, PF_2_7, PF_2_8, PF_2_9, PF_2_10, PF_2_11, PF_3_0, PF_35_0, PF_35_1, PF_35_2, PF_35_3, PF_40_0, PF_40_1, PF_40_2, PF_44_0, PF_44_1, PF_44_2, PF_145_0, PF_145_1, PF_179_0, PF_179_1, PF_179_2, PF_179_3, PF_179_8, PF_179_9, PF_179_10]
    refine ⟨by omega, by omega, fun q => by omega, fun q => ⟨i0, by omega, by omega, by omega, fun J j1 j2 => ih J (by omega) (by omega) (fun b k hb => by rw [j1 b k (by omega)]; exact h1 b k hb) (fun j l a b c d => ?_)⟩⟩
    by_cases e : j = i
    · subst e
      rw [j2 l c d]; exact lmv_cg (fun k => h1 _ k (by omega))
    · rw [j1 48 _ (by omega)]; exact h2 j l a (by omega) c d
theorem limOK_cg {I J : Int → Int → Int} {g : Int} (hs : rsame I J) (h3 : I 3 1 ≤ 30) (h : limOK I g) : limOK J g := fun i l a b c d => by
  rw [hs.1 3 1 (by omega)] at b
  rw [hs.2, h i l a b c d]
  exact (lmv_cg (fun k => hs.1 _ k (by omega))).symm
theorem slv_frame {I J : Int → Int → Int} (h : ∀ b k, b ≠ 48 → b ≠ 140 → b ≠ 141 → ¬ (50 ≤ b ∧ b ≤ 139) → J b k = I b k) : ∀ b k, b < 40 → J b k = I b k := fun b k hb => h b k (by omega) (by omega) (by omega) (by omega)
set_option maxRecDepth 100000 in
set_option maxHeartbeats 800000 in
theorem mX7_solve : MOK yX7_solve cX7_solve 5 (some .int) rmX7_solve ciX7_solve := by
  refine mok_of (ini := false) (by decide +kernel) (by decide) rfl rfl ?_
  intro σ As K hrc hl h
  obtain ⟨N, P, I, L⟩ := σ
  have h9 := pR_iff.mp h
  clear h
  obtain ⟨s, r, e9, h⟩ := h9
  subst e9
  have h9 := pI_iff.mp h
  clear h
  obtain ⟨g, r, e9, h⟩ := h9
  subst e9
  have h9 := pI_iff.mp h
  clear h
  obtain ⟨bk, r, e9, h⟩ := h9
  subst e9
  have h9 := pI_iff.mp h
  clear h
  obtain ⟨st, r, e9, h⟩ := h9
  subst e9
  have h9 := pN_iff.mp h
  clear h
  obtain ⟨e9, h⟩ := h9
  subst e9
  dsimp only at h
  obtain ⟨rfl, rfl, g0, g1, b0, b1, s0, s1, ht, hc, h⟩ := h
  have h3 := ht.1
  have h4 := ht.2.1
  refine ⟨Nat.le_of_ble_eq_true rfl, Ok.seg mdX7_solve [3, 28] 6 ?_⟩
  simp only [wp_nil, wp_cons, ↓stp, ↓lI, ↓lL, ↓lR, ↓lIn_0, ↓lIn_1, ↓lIn_2, ↓lIn_3, ↓lLn_0, ↓lLn_1, ↓lLn_2, ↓lLn_3, ↓lRn_0, ↓lRn_1, ↓lRn_2, ↓lRn_3, ↓pI, ↓pL, ↓pR, ↓pA, ↓pN, ↓pV, ↓fp, ↓tsw, ↓oS, ↓spMax, ↓spMin, ↓spAbs, ↓spObj, RI, RLg, b2i_lo, b2i_hi, getL, setL, ltL, killL, isLong, inl, cnd, br, tgt, rcv, rpl, mputI, mputL, mputP, fv, fr, mcat, mcs, entL, entA, rfit, nf_0, nf_1, nf_2, nf_3, nf2_0, nf2_1, b2i_0, b2i_1, RI_b2i, b2i_fit, List.append, List.length, List.replicate, List.cons_append, List.nil_append, List.length_cons, List.length_nil, List.replicate_succ, List.replicate_zero, List.tail_cons, reduceIte, if_true, if_false, ite_true, ite_false, Bool.false_eq_true, true_and, and_true, and_self, false_and, and_false, or_self, or_true, true_or, or_false, false_or, not_true_eq_false, not_false_eq_true, ne_eq, forall_const, implies_true, imp_self, true_implies, false_implies, Nat.reduceAdd, Nat.reduceSub, Nat.reduceMul, Nat.reduceDiv, Nat.reduceMod, Nat.reduceEqDiff, Nat.reduceLT, Nat.reduceLeDiff, Nat.reduceBEq, Nat.add_zero, Nat.zero_add, Nat.le_refl, Nat.not_lt_zero, Nat.succ_eq_add_one, Int.reduceNatCast, Int.cast_ofNat_Int, Int.reduceSub, Int.reduceMul, Int.reduceNeg, Int.reduceLE, Int.reduceLT, Int.reduceToNat, Int.reduceEq, Int.reduceNe, Int.reduceAdd, Option.some.injEq, kX7_solve, rmX7_solve, ↓ofX7_108, ↓ofX7_12, ↓ocX7_solve_120, ↓spX7_fillLimits, ↓ocX7_solve_124, ↓spX7_fillRests, ↓ocX7_solve_127, ↓spX7_leastLap, G_1, G_2, G_3, G_4, G_35, G_36, G_37, G_38, G_39, G_40, G_41, G_42, G_43, G_44, G_45, G_46, G_47, G_48, G_49, G_140, G_141, G_142, G_143, G_144, G_145, G_146, G_178, G_179, G_180, G_181, G_182, G_183, G_184, G_189, G_198, G_207, PF_1_0, PF_1_1, PF_1_2, PF_1_3, PF_2_0, PF_2_1, PF_2_3, PF_2_4, PF_2_5, PF_2_6, PF_2_7, PF_2_8, PF_2_9, PF_2_10, PF_2_11, PF_3_0, PF_35_0, PF_35_1, PF_35_2, PF_35_3, PF_40_0, PF_40_1, PF_40_2, PF_44_0, PF_44_1, PF_44_2, PF_145_0, PF_145_1, PF_179_0, PF_179_1, PF_179_2, PF_179_3, PF_179_8, PF_179_9, PF_179_10]
  refine lpX7_s1 ht ⟨g0, g1⟩ (fun I1 h1 h2 => ?_) (I 3 1).toNat 0 I (by omega) (by omega) (fun _ _ _ => rfl) (fun j l a b => by omega)
  have e31 : I1 3 1 = I 3 1 := h1 3 1 (by omega)
  have ht1 := tOK_cg (J := I1) (fun b k hb => h1 b k (by omega)) ht
  have hc1 := carOK_cg (J := I1) (fun b k hb => h1 b k (by omega)) hc
  refine Ok.seg mdX7_solve [3, 28] 20 ?_
  simp only [wp_nil, wp_cons, ↓stp, ↓lI, ↓lL, ↓lR, ↓lIn_0, ↓lIn_1, ↓lIn_2, ↓lIn_3, ↓lLn_0, ↓lLn_1, ↓lLn_2, ↓lLn_3, ↓lRn_0, ↓lRn_1, ↓lRn_2, ↓lRn_3, ↓pI, ↓pL, ↓pR, ↓pA, ↓pN, ↓pV, ↓fp, ↓tsw, ↓oS, ↓spMax, ↓spMin, ↓spAbs, ↓spObj, RI, RLg, b2i_lo, b2i_hi, getL, setL, ltL, killL, isLong, inl, cnd, br, tgt, rcv, rpl, mputI, mputL, mputP, fv, fr, mcat, mcs, entL, entA, rfit, nf_0, nf_1, nf_2, nf_3, nf2_0, nf2_1, b2i_0, b2i_1, RI_b2i, b2i_fit, List.append, List.length, List.replicate, List.cons_append, List.nil_append, List.length_cons, List.length_nil, List.replicate_succ, List.replicate_zero, List.tail_cons, reduceIte, if_true, if_false, ite_true, ite_false, Bool.false_eq_true, true_and, and_true, and_self, false_and, and_false, or_self, or_true, true_or, or_false, false_or, not_true_eq_false, not_false_eq_true, ne_eq, forall_const, implies_true, imp_self, true_implies, false_implies, Nat.reduceAdd, Nat.reduceSub, Nat.reduceMul, Nat.reduceDiv, Nat.reduceMod, Nat.reduceEqDiff, Nat.reduceLT, Nat.reduceLeDiff, Nat.reduceBEq, Nat.add_zero, Nat.zero_add, Nat.le_refl, Nat.not_lt_zero, Nat.succ_eq_add_one, Int.reduceNatCast, Int.cast_ofNat_Int, Int.reduceSub, Int.reduceMul, Int.reduceNeg, Int.reduceLE, Int.reduceLT, Int.reduceToNat, Int.reduceEq, Int.reduceNe, Int.reduceAdd, Option.some.injEq, kX7_solve, rmX7_solve, ↓ofX7_108, ↓ofX7_12, ↓ocX7_solve_120, ↓spX7_fillLimits, ↓ocX7_solve_124, ↓spX7_fillRests, ↓ocX7_solve_127, ↓spX7_leastLap, e31, ht1, hc1, h2.R, G_1, G_2, G_3, G_4, G_35, G_36, G_37, G_38, G_39, G_40, G_41, G_42, G_43, G_44, G_45, G_46, G_47, G_48, G_49, G_140, G_141, G_142, G_143, G_144, G_145, G_146, G_178, G_179, G_180, G_181, G_182, G_183, G_184, G_189, G_198, G_207, PF_1_0, PF_1_1, PF_1_2, PF_1_3, PF_2_0, PF_2_1, PF_2_3, PF_2_4, PF_2_5, PF_2_6, PF_2_7, PF_2_8, PF_2_9, PF_2_10, PF_2_11, PF_3_0, PF_35_0, PF_35_1, PF_35_2, PF_35_3, PF_40_0, PF_40_1, PF_40_2, PF_44_0, PF_44_1, PF_44_2, PF_145_0, PF_145_1, PF_179_0, PF_179_1, PF_179_2, PF_179_3, PF_179_8, PF_179_9, PF_179_10]
  refine ⟨by omega, by omega, b0, b1, fun i l a b c d => by omega, fun I' k1 k2 k3 => ?_⟩
  have hs : rsame I1 I' := ⟨fun b k hb => k1 b k (by omega) (by omega) (by omega), fun k => k1 _ k (by omega) (by omega) (by omega)⟩
  have e32 : I' 3 1 = I 3 1 := (hs.1 3 1 (by omega)).trans e31
  have hlo := limOK_cg hs (by omega) h2
  refine ⟨s0, s1, tOK_cg hs.1 ht1, hlo.R, bk, fun l z a b => k2 0 l (by omega) (by omega) a b, fun v hv => ?_⟩
  exact h I' v (fun b k b1 b2 b3 b4 => by rw [k1 b k b2 b3 b4]; exact h1 b k b1) ⟨hlo, fun i l a b c d => k2 i l a (by omega) c d⟩ hv
end
section
/-! the least lap, told by the track alone; LapBoard$Ways: lapByGrip, lapIf -/
def AchE (I : Int → Int → Int) (g bk : Int) (k : Nat) (i l p t : Int) : Prop := Ach (lmv I g) (fun i c q => tmv (I (5 + i) 1) c q) (rch (I 38) (I 39)) bk k i l p t
def LapE (I : Int → Int → Int) (g bk st t : Int) : Prop := ∃ l p t', 0 ≤ l ∧ l ≤ 2 ∧ (1 ≤ p ∧ p ≤ st ∧ p ≤ lmv I g 0 l) ∧ AchE I g bk (kk I 0) 0 l p t' ∧ t = tmv (I 5 1) 0 p + t'
/-- v is the least lap's time -/
def lapT (I : Int → Int → Int) (g bk st v : Int) : Prop := (I 3 1 = 0 ∧ v = 0) ∨ (0 < I 3 1 ∧ LapE I g bk st v ∧ ∀ x, LapE I g bk st x → v ≤ x)
theorem lapT.uniq {I : Int → Int → Int} {g bk st v w : Int} (h : lapT I g bk st v) (h' : lapT I g bk st w) : v = w := by
  rcases h with ⟨a, b⟩ | ⟨a, b, c⟩ <;> rcases h' with ⟨a', b'⟩ | ⟨a', b', c'⟩
  · omega
  · omega
  · omega
  · have := c _ b'; have := c' _ b; omega
theorem Ach_rng {lm : Int → Int → Int} {tm : Int → Int → Int → Int} {rc : Int → Int} {bk n : Int} (h2 : ∀ i c q, 0 ≤ i → i < n → 1 ≤ q → 0 ≤ tm i c q ∧ tm i c q ≤ 101000) :
    ∀ (k : Nat) (i l p t : Int), 0 ≤ i → i + k < n → Ach lm tm rc bk k i l p t → 0 ≤ t ∧ t ≤ 101000 * k
  | 0, i, l, p, t, i0, i1, h => by have : t = 0 := h; omega
  | k + 1, i, l, p, t, i0, i1, h => by
    obtain ⟨l', q, t', a, ⟨b1, b2, b3, b4⟩, c, d⟩ := h
    have := Ach_rng h2 k (i + 1) l' q t' (by omega) (by omega) c
    have := h2 (i + 1) (dif l l') q (by omega) (by omega) b1
    omega
theorem Ach_ex {lm : Int → Int → Int} {tm : Int → Int → Int → Int} {rc : Int → Int} {bk n : Int} (h1 : ∀ i l, 0 ≤ i → i < n → 0 ≤ l → l ≤ 2 → 1 ≤ lm i l) (h2 : 1 ≤ rc 1) (hb : 0 ≤ bk) :
    ∀ (k : Nat) (i l : Int), 0 ≤ i → i + k < n → 0 ≤ l → l ≤ 2 → ∃ t, Ach lm tm rc bk k i l 1 t
  | 0, i, l, i0, i1, l0, l1 => ⟨0, rfl⟩
  | k + 1, i, l, i0, i1, l0, l1 => by
    obtain ⟨t, h⟩ := Ach_ex (tm := tm) h1 h2 hb k (i + 1) l (by omega) (by omega) l0 l1
    exact ⟨_, l, 1, t, ⟨by omega, by omega, l0, l1⟩, ⟨by omega, by omega, h2, h1 _ _ (by omega) (by omega) l0 l1⟩, h, rfl⟩
theorem AchI_E {I : Int → Int → Int} {g bk : Int} (hc : carOK I) (hl : limOK I g) {k : Nat} {i l p : Int} (t : Int) (i0 : 0 ≤ i) (i1 : i + k < I 3 1) (p0 : 1 ≤ p) (p1 : p ≤ 60) : AchI I bk k i l p t ↔ AchE I g bk k i l p t :=
  Ach_cg (n := I 3 1) (fun i l a b c d => hl i l a b c d) (fun i l a b c d => (hl.R i l a b c d).2) (fun i c q _ _ _ _ _ => rfl) (fun p a b => hc.1.2 p a b) k i l p t i0 i1 p0 p1
theorem LapI_E {I : Int → Int → Int} {g bk st : Int} (hc : carOK I) (hl : limOK I g) (hn : 0 < I 3 1) (t : Int) : LapI I bk st t ↔ LapE I g bk st t := by
  have hk : (0 : Int) + (kk I 0 : Nat) < I 3 1 := by unfold kk; omega
  have e : ∀ l, 0 ≤ l → l ≤ 2 → I 48 l = lmv I g 0 l := fun l a b => by
    have := hl 0 l (by omega) hn a b
    rwa [show 3 * 0 + l = l by omega] at this
  unfold LapI LapE
  constructor
  · rintro ⟨l, p, t', a, b, ⟨c1, c2, c3⟩, d, f⟩
    rw [e l a b] at c3
    have := lim_rng (I (5 + 0) 0) (I (5 + 0) 2) (I (5 + 0) 3) l g
    unfold lmv at c3
    exact ⟨l, p, t', a, b, ⟨c1, c2, c3⟩, (AchI_E hc hl t' (by omega) hk c1 (by omega)).mp d, f⟩
  · rintro ⟨l, p, t', a, b, ⟨c1, c2, c3⟩, d, f⟩
    have := lim_rng (I (5 + 0) 0) (I (5 + 0) 2) (I (5 + 0) 3) l g
    have c4 := c3
    unfold lmv at c4
    rw [← e l a b] at c3
    exact ⟨l, p, t', a, b, ⟨c1, c2, c3⟩, (AchI_E hc hl t' (by omega) hk c1 (by omega)).mpr d, f⟩
theorem tm_rng {I : Int → Int → Int} (ht : tOK I) (i c q : Int) (i0 : 0 ≤ i) (i1 : i < I 3 1) (q1 : 1 ≤ q) : 0 ≤ tmv (I (5 + i) 1) c q ∧ tmv (I (5 + i) 1) c q ≤ 101000 := by
  have hs := ht.2.2 i i0 i1
  unfold stOK at hs
  exact tmv_rng (by omega) (by omega) q1
theorem LapE_rng {I : Int → Int → Int} {g bk st t : Int} (ht : tOK I) (hn : 0 < I 3 1) (h : LapE I g bk st t) : 0 ≤ t ∧ t ≤ 101000 * I 3 1 := by
  obtain ⟨l, p, t', a, b, ⟨c1, c2, c3⟩, d, f⟩ := h
  have h1 := Ach_rng (n := I 3 1) (tm := fun i c q => tmv (I (5 + i) 1) c q) (fun i c q i0 i1 q1 => tm_rng ht i c q i0 i1 q1) (kk I 0) 0 l p t' (by omega) (by unfold kk; omega) d
  have h2 : 0 ≤ tmv (I 5 1) 0 p ∧ tmv (I 5 1) 0 p ≤ 101000 := tm_rng ht 0 0 p (by omega) hn c1
  have h3 : ((kk I 0 : Nat) : Int) = I 3 1 - 1 := by unfold kk; omega
  omega
theorem LapE_ex {I : Int → Int → Int} {g bk st : Int} (hc : carOK I) (hb : 0 ≤ bk) (hs : 1 ≤ st) (hn : 0 < I 3 1) : ∃ t, LapE I g bk st t := by
  have hr := rch_rng (p := 1) hc.1.1 (by omega)
  obtain ⟨t, h⟩ := Ach_ex (lm := lmv I g) (tm := fun i c q => tmv (I (5 + i) 1) c q) (rc := rch (I 38) (I 39)) (bk := bk) (n := I 3 1) (fun i l _ _ _ _ => (lim_rng _ _ _ _ _).1) hr.1 hb (kk I 0) 0 1 (by omega) (by unfold kk; omega) (by omega) (by omega)
  exact ⟨_, 1, 1, t, by omega, by omega, ⟨by omega, hs, (lim_rng _ _ _ _ _).1⟩, h, rfl⟩
theorem lapT_of {I : Int → Int → Int} {g bk st v : Int} (ht : tOK I) (hc : carOK I) (hl : limOK I g) (hb : 0 ≤ bk) (hs : 1 ≤ st) (h : lapV I bk st v) : lapT I g bk st v := by
  obtain ⟨a, b, c⟩ := h
  have h3 := ht.1
  have h4 := ht.2.1
  by_cases hn : I 3 1 = 0
  · exact .inl ⟨hn, b hn⟩
  · have hn' : 0 < I 3 1 := by omega
    obtain ⟨c1, c2, c3⟩ := (c hn').cg (fun y => (LapI_E hc hl hn' y).symm)
    refine .inr ⟨hn', ?_, c3⟩
    rcases c1 with c1 | c1
    · obtain ⟨t, z⟩ := LapE_ex (g := g) hc hb hs hn'
      have := c3 t z
      have := (LapE_rng ht hn' z).2
      omega
    · exact c1
/-- all that a lap's time hangs on -/
def tsame (I J : Int → Int → Int) : Prop := J 3 1 = I 3 1 ∧ (∀ i k, 0 ≤ i → i < I 3 1 → 0 ≤ k → k ≤ 3 → J (5 + i) k = I (5 + i) k) ∧ (∀ k, J 38 k = I 38 k) ∧ ∀ k, J 39 k = I 39 k
theorem tsame_of {I J : Int → Int → Int} (h : ∀ b k, b < 40 → J b k = I b k) (h3 : I 3 1 ≤ 30) : tsame I J := ⟨h _ _ (by omega), fun i k _ _ _ _ => h _ _ (by omega), fun k => h _ _ (by omega), fun k => h _ _ (by omega)⟩
theorem tsame.sy {I J : Int → Int → Int} (h : tsame I J) : tsame J I := ⟨h.1.symm, fun i k a b c d => (h.2.1 i k a (by rw [← h.1]; exact b) c d).symm, fun k => (h.2.2.1 k).symm, fun k => (h.2.2.2 k).symm⟩
theorem LapE_cg {I J : Int → Int → Int} {g bk st t : Int} (h : tsame I J) (hn : 0 < I 3 1) (hL : LapE I g bk st t) : LapE J g bk st t := by
  obtain ⟨l, p, t', a, b, ⟨c1, c2, c3⟩, d, f⟩ := hL
  have el : ∀ i l, 0 ≤ i → i < I 3 1 → lmv J g i l = lmv I g i l := fun i l a b => by
    unfold lmv; rw [h.2.1 i 0 a b (by omega) (by omega), h.2.1 i 2 a b (by omega) (by omega), h.2.1 i 3 a b (by omega) (by omega)]
  have c4 := (lim_rng (I (5 + 0) 0) (I (5 + 0) 2) (I (5 + 0) 3) l g).2
  have c5 := c3
  unfold lmv at c5
  refine ⟨l, p, t', a, b, ⟨c1, c2, by rw [el 0 l (by omega) hn]; exact c3⟩, ?_, ?_⟩
  · have ek : kk J 0 = kk I 0 := by unfold kk; rw [h.1]
    have e38 : J 38 = I 38 := funext h.2.2.1
    have e39 : J 39 = I 39 := funext h.2.2.2
    unfold AchE
    rw [ek, e38, e39]
    refine (Ach_cg (n := I 3 1) (fun i l a b _ _ => (el i l a b).symm) (fun i l _ _ _ _ => (lim_rng _ _ _ _ _).2) (fun i c q a b _ _ _ => ?_) (fun _ _ _ => rfl) (kk I 0) 0 l p t' (by omega) (by unfold kk; omega) c1 (by omega)).mp d
    show tmv (I (5 + i) 1) c q = tmv (J (5 + i) 1) c q
    rw [h.2.1 i 1 a b (by omega) (by omega)]
  · rw [f, show J 5 1 = I 5 1 from h.2.1 0 1 (by omega) hn (by omega) (by omega)]
theorem lapT_cg {I J : Int → Int → Int} {g bk st v : Int} (h : tsame I J) (hL : lapT I g bk st v) : lapT J g bk st v := by
  rcases hL with ⟨a, b⟩ | ⟨a, b, c⟩
  · exact .inl ⟨by rw [h.1]; exact a, b⟩
  · exact .inr ⟨by rw [h.1]; exact a, LapE_cg h a b, fun x hx => c x (LapE_cg h.sy (by rw [h.1]; exact a) hx)⟩
theorem lapT_rng {I : Int → Int → Int} {g bk st v : Int} (ht : tOK I) (h : lapT I g bk st v) : 0 ≤ v ∧ v ≤ 3030000 := by
  have := ht.2.1
  rcases h with ⟨a, b⟩ | ⟨a, b, c⟩
  · omega
  · have := LapE_rng ht a b; omega
/-- the laps by grip that are kept are right -/
def capOK (I : Int → Int → Int) : Prop := ∀ g, -20 ≤ g → g ≤ 20 → I 144 (g + 20) < 0 ∧ -1 ≤ I 144 (g + 20) ∨ lapT I g (I 36 1) (I 36 2) (I 144 (g + 20))
/-- the frame of solve and of kept laps -/
def frS (I J : Int → Int → Int) : Prop := ∀ b k, b ≠ 48 → b ≠ 140 → b ≠ 141 → b ≠ 144 → ¬ (50 ≤ b ∧ b ≤ 139) → J b k = I b k
theorem frS.lo {I J : Int → Int → Int} (h : frS I J) : ∀ b k, b < 40 → J b k = I b k := fun b k hb => h b k (by omega) (by omega) (by omega) (by omega) (by omega)
def spX7_lapByGrip (As : List MV) (σ : MS) (K : Option MV → MS → Prop) : Prop := pR As fun s r => pI r fun g r => pN r (s = 2 ∧ σ.2.1 = PF ∧ -20 ≤ g ∧ g ≤ 20 ∧ tOK σ.2.2.1 ∧ carOK σ.2.2.1 ∧ capOK σ.2.2.1 ∧
  ∀ (I' : Int → Int → Int) (v : Int), frS σ.2.2.1 I' → capOK I' → lapT σ.2.2.1 g (σ.2.2.1 36 1) (σ.2.2.1 36 2) v → K (some (.inl v)) (σ.1, σ.2.1, I', σ.2.2.2))
def ciX7_lapByGrip : CI := (2, 7, 0, 0, spX7_lapByGrip)
def kX7_lapByGrip (pc : Nat) : List ME := match pc with
  | 0 => [(.iload_n 1, 1, []), (.bipush 20, 2, []), (.iadd, 1, []), (.istore_n 2, 1, []), (.iload_n 2, 1, []), (.ifCond .lt 9, 3, [15]), (.iload_n 2, 1, []), (.bipush 40, 2, []), (.if_icmp .le 5, 3, [17])]
  | 15 => [(.iconst 0, 1, []), (.ireturn, 1, [])]
  | 17 => [(.aload_n 0, 1, []), (.getfield 56, 3, []), (.iload_n 2, 1, []), (.iaload, 1, []), (.ifCond .ge 32, 3, [55]), (.aload_n 0, 1, []), (.getfield 56, 3, []), (.iload_n 2, 1, []), (.aload_n 0, 1, []), (.iload_n 1, 1, []), (.aload_n 0, 1, []), (.getfield 21, 3, []), (.getfield 76, 3, []), (.iconst 1, 1, []), (.iaload, 1, []), (.aload_n 0, 1, []), (.getfield 21, 3, []), (.getfield 76, 3, []), (.iconst 2, 1, []), (.iaload, 1, []), (.invokevirtual 79, 3, []), (.iastore, 1, [])]
  | 55 => [(.aload_n 0, 1, []), (.getfield 56, 3, []), (.iload_n 2, 1, []), (.iaload, 1, []), (.ireturn, 1, [])]
  | _ => []
theorem qX7_lapByGrip : ∀ pc, chk cX7_lapByGrip pc (kX7_lapByGrip pc) = true := by
  intro pc
  unfold kX7_lapByGrip
  split <;> first | decide +kernel | exact chk_nil
abbrev rmX7_lapByGrip : Room := { frames := 4, cells := 0, slots := 0, locals := 99 }
def aX7_lapByGrip (x : Nat) : Option CI := match x with
  | 79 => some ciX7_solve
  | _ => none
theorem aokX7_lapByGrip : ∀ x ci, aX7_lapByGrip x = some ci → CalOK RX7 rmX7_lapByGrip x ci := by
  intro x ci h
  unfold aX7_lapByGrip at h
  split at h
  · cases h; exact cal_V mX7_solve (by decide) rfl (List.forall_mem_cons.mpr ⟨(ws_mem (List.mem_of_getElem? (i := 470) (by decide +kernel)) (by decide +kernel)), List.forall_mem_cons.mpr ⟨(ws_mem (List.mem_of_getElem? (i := 472) (by decide +kernel)) (by decide +kernel)), List.forall_mem_cons.mpr ⟨(ws_mem (List.mem_of_getElem? (i := 3) (by decide +kernel)) (by decide +kernel)), List.forall_mem_cons.mpr ⟨(ws_mem (List.mem_of_getElem? (i := 54) (by decide +kernel)) (by decide +kernel)), List.forall_mem_cons.mpr ⟨(ws_mem (List.mem_of_getElem? (i := 473) (by decide +kernel)) (by decide +kernel)), fun _ h => absurd h List.not_mem_nil⟩⟩⟩⟩⟩) rfl (by unfold nice; decide +kernel) (by unfold rfits; decide) ⟨rfl, rfl⟩
  · cases h
theorem ocX7_lapByGrip_79 (f : Nat → Nat → Nat → Nat → (List MV → MS → (Option MV → MS → Prop) → Prop) → Prop) : oC aX7_lapByGrip 79 f = f 4 7 0 0 spX7_solve := propext Iff.rfl
theorem mdX7_lapByGrip : MD RX7 cX7_lapByGrip rmX7_lapByGrip kX7_lapByGrip fX7 aX7_lapByGrip zX7 uX7 := ⟨fokX7, zokX7, uokX7, aokX7_lapByGrip, qX7_lapByGrip⟩
set_option maxRecDepth 100000 in
set_option maxHeartbeats 800000 in
theorem mX7_lapByGrip : MOK yX7_lapByGrip cX7_lapByGrip 3 (some .int) rmX7_lapByGrip ciX7_lapByGrip := by
  refine mok_of (ini := false) (by decide +kernel) (by decide) rfl rfl ?_
  intro σ As K hrc hl h
  obtain ⟨N, P, I, L⟩ := σ
  have h9 := pR_iff.mp h
  clear h
  obtain ⟨s, r, e9, h⟩ := h9
  subst e9
  have h9 := pI_iff.mp h
  clear h
  obtain ⟨g, r, e9, h⟩ := h9
  subst e9
  have h9 := pN_iff.mp h
  clear h
  obtain ⟨e9, h⟩ := h9
  subst e9
  dsimp only at h
  obtain ⟨rfl, rfl, g0, g1, ht, hc, hk, h⟩ := h
  have hn := hc.2
  unfold nOK at hn
  have h3 := ht.2.1
  have hkg := hk g g0 g1
  refine ⟨Nat.le_of_ble_eq_true rfl, Ok.seg mdX7_lapByGrip [] 60 ?_⟩
  simp only [wp_nil, wp_cons, ↓stp, ↓lI, ↓lL, ↓lR, ↓lIn_0, ↓lIn_1, ↓lIn_2, ↓lIn_3, ↓lLn_0, ↓lLn_1, ↓lLn_2, ↓lLn_3, ↓lRn_0, ↓lRn_1, ↓lRn_2, ↓lRn_3, ↓pI, ↓pL, ↓pR, ↓pA, ↓pN, ↓pV, ↓fp, ↓tsw, ↓oS, ↓spMax, ↓spMin, ↓spAbs, ↓spObj, RI, RLg, b2i_lo, b2i_hi, getL, setL, ltL, killL, isLong, inl, cnd, br, tgt, rcv, rpl, mputI, mputL, mputP, fv, fr, mcat, mcs, entL, entA, rfit, nf_0, nf_1, nf_2, nf_3, nf2_0, nf2_1, b2i_0, b2i_1, RI_b2i, b2i_fit, List.append, List.length, List.replicate, List.cons_append, List.nil_append, List.length_cons, List.length_nil, List.replicate_succ, List.replicate_zero, List.tail_cons, reduceIte, if_true, if_false, ite_true, ite_false, Bool.false_eq_true, true_and, and_true, and_self, false_and, and_false, or_self, or_true, true_or, or_false, false_or, not_true_eq_false, not_false_eq_true, ne_eq, forall_const, implies_true, imp_self, true_implies, false_implies, Nat.reduceAdd, Nat.reduceSub, Nat.reduceMul, Nat.reduceDiv, Nat.reduceMod, Nat.reduceEqDiff, Nat.reduceLT, Nat.reduceLeDiff, Nat.reduceBEq, Nat.add_zero, Nat.zero_add, Nat.le_refl, Nat.not_lt_zero, Nat.succ_eq_add_one, Int.reduceNatCast, Int.cast_ofNat_Int, Int.reduceSub, Int.reduceMul, Int.reduceNeg, Int.reduceLE, Int.reduceLT, Int.reduceToNat, Int.reduceEq, Int.reduceNe, Int.reduceAdd, Option.some.injEq, kX7_lapByGrip, rmX7_lapByGrip, ↓ofX7_21, ↓ofX7_56, ↓ofX7_76, ↓ocX7_lapByGrip_79, ↓spX7_solve, ht, hc, upI_same, G_1, G_2, G_3, G_4, G_35, G_36, G_37, G_38, G_39, G_40, G_41, G_42, G_43, G_44, G_45, G_46, G_47, G_48, G_49, G_140, G_141, G_142, G_143, G_144, G_145, G_146, G_178, G_179, G_180, G_181, G_182, G_183, G_184, G_189, G_198, G_207, PF_1_0, PF_1_1, PF_1_2, PF_1_3, PF_2_0, PF_2_1, PF_2_3, PF_2_4, PF_2_5, PF_2_6, PF_2_7, PF_2_8, PF_2_9, PF_2_10, PF_2_11, PF_3_0, PF_35_0, PF_35_1, PF_35_2, PF_35_3, PF_40_0, PF_40_1, PF_40_2, PF_44_0, PF_44_1, PF_44_2, PF_145_0, PF_145_1, PF_179_0, PF_179_1, PF_179_2, PF_179_3, PF_179_8, PF_179_9, PF_179_10]
  have key : ∀ (I' : Int → Int → Int) (v : Int), (∀ b k, ¬ b = 48 → ¬ b = 140 → ¬ b = 141 → ¬ (50 ≤ b ∧ b ≤ 139) → I' b k = I b k) → slvOK I' g (I 36 1) → lapV I' (I 36 1) (I 36 2) v → K (some (.inl v)) (N, PF, upI I' 144 (g + 20) v, L) := fun I' v h1 h2 h5 => by
    have lo := slv_frame h1
    have ht' := tOK_cg lo ht
    have hT := lapT_of ht' (carOK_cg lo hc) h2.1 (by omega) (by omega) h5
    have hT2 := lapT_cg (tsame_of lo (by omega)).sy hT
    refine h _ v (fun b k b1 b2 b3 b4 b5 => by rw [upI_ne b4]; exact h1 b k b1 b2 b3 b5) (fun j j0 j1 => ?_) hT2
    have hs : tsame I (upI I' 144 (g + 20) v) := tsame_of (fun b k hb => by rw [upI_ne (by omega)]; exact lo b k hb) (by omega)
    rw [show upI I' 144 (g + 20) v 36 1 = I 36 1 by rw [upI_ne (by omega)]; exact lo 36 1 (by omega), show upI I' 144 (g + 20) v 36 2 = I 36 2 by rw [upI_ne (by omega)]; exact lo 36 2 (by omega)]
    by_cases e : j = g
    · subst e; rw [upI_same]; exact .inr (lapT_cg hs hT2)
    · rw [upI_nj (by omega), h1 144 _ (by omega) (by omega) (by omega) (by omega)]
      exact (hk j j0 j1).imp id (fun q => lapT_cg hs q)
  refine ⟨by omega, fun q => by omega, fun q => ⟨by omega, fun q2 => ⟨by omega, by omega, ?_, fun q3 => ⟨by omega, by omega, ?_⟩, fun q3 => ⟨by omega, by omega, by omega, by omega, by omega, by omega, fun I' v h1 h2 h5 => ⟨by omega, by omega, by omega, by omega, key I' v h1 h2 h5⟩⟩⟩, fun q2 => by omega⟩⟩
  · rcases hkg with hkg | hkg
    · omega
    · have := lapT_rng ht hkg; omega
  · rcases hkg with hkg | hkg
    · omega
    · exact h I _ (fun _ _ _ _ _ _ _ => rfl) hk hkg
def spX7_lapIf (As : List MV) (σ : MS) (K : Option MV → MS → Prop) : Prop := pR As fun s r => pI r fun w r => pI r fun n r => pN r (s = 2 ∧ σ.2.1 = PF ∧ (w = 0 ∧ -20 ≤ n ∧ n ≤ 20 ∨ w = 1 ∧ 1 ≤ n ∧ n ≤ 30 ∨ w = 2 ∧ 1 ≤ n ∧ n ≤ 60) ∧ tOK σ.2.2.1 ∧ carOK σ.2.2.1 ∧ capOK σ.2.2.1 ∧
  ∀ (I' : Int → Int → Int) (v : Int), frS σ.2.2.1 I' → capOK I' → lapT σ.2.2.1 (if w = 0 then n else σ.2.2.1 36 0) (if w = 1 then n else σ.2.2.1 36 1) (if w = 2 then n else σ.2.2.1 36 2) v → K (some (.inl v)) (σ.1, σ.2.1, I', σ.2.2.2))
def ciX7_lapIf : CI := (3, 7, 0, 0, spX7_lapIf)
def kX7_lapIf (pc : Nat) : List ME := match pc with
  | 0 => [(.iload_n 1, 1, []), (.ifCond .ne 9, 3, [10]), (.aload_n 0, 1, []), (.iload_n 2, 1, []), (.invokevirtual 104, 3, []), (.ireturn, 1, [])]
  | 10 => [(.iload_n 1, 1, []), (.iconst 1, 1, []), (.if_icmp .ne 7, 3, [19]), (.iload_n 2, 1, []), (.goto 12, 3, [28])]
  | 19 => [(.aload_n 0, 1, []), (.getfield 21, 3, []), (.getfield 76, 3, []), (.iconst 1, 1, []), (.iaload, 1, [])]
  | 28 => [(.istore_n 3, 1, []), (.iload_n 1, 1, []), (.iconst 2, 1, []), (.if_icmp .ne 7, 3, [38]), (.iload_n 2, 1, []), (.goto 12, 3, [47])]
  | 38 => [(.aload_n 0, 1, []), (.getfield 21, 3, []), (.getfield 76, 3, []), (.iconst 2, 1, []), (.iaload, 1, [])]
  | 47 => [(.istore 4, 2, []), (.aload_n 0, 1, []), (.aload_n 0, 1, []), (.getfield 21, 3, []), (.getfield 76, 3, []), (.iconst 0, 1, []), (.iaload, 1, []), (.iload_n 3, 1, []), (.iload 4, 2, []), (.invokevirtual 79, 3, []), (.ireturn, 1, [])]
  | _ => []
theorem qX7_lapIf : ∀ pc, chk cX7_lapIf pc (kX7_lapIf pc) = true := by
  intro pc
  unfold kX7_lapIf
  split <;> first | decide +kernel | exact chk_nil
abbrev rmX7_lapIf : Room := { frames := 5, cells := 0, slots := 0, locals := 121 }
def aX7_lapIf (x : Nat) : Option CI := match x with
  | 104 => some ciX7_lapByGrip
  | 79 => some ciX7_solve
  | _ => none
theorem aokX7_lapIf : ∀ x ci, aX7_lapIf x = some ci → CalOK RX7 rmX7_lapIf x ci := by
  intro x ci h
  unfold aX7_lapIf at h
  split at h
  · cases h; exact cal_V mX7_lapByGrip (by decide) rfl (List.forall_mem_cons.mpr ⟨(ws_mem (List.mem_of_getElem? (i := 807) (by decide +kernel)) (by decide +kernel)), List.forall_mem_cons.mpr ⟨(ws_mem (List.mem_of_getElem? (i := 583) (by decide +kernel)) (by decide +kernel)), List.forall_mem_cons.mpr ⟨(ws_mem (List.mem_of_getElem? (i := 584) (by decide +kernel)) (by decide +kernel)), List.forall_mem_cons.mpr ⟨(ws_mem (List.mem_of_getElem? (i := 54) (by decide +kernel)) (by decide +kernel)), List.forall_mem_cons.mpr ⟨(ws_mem (List.mem_of_getElem? (i := 585) (by decide +kernel)) (by decide +kernel)), fun _ h => absurd h List.not_mem_nil⟩⟩⟩⟩⟩) rfl (by unfold nice; decide +kernel) (by unfold rfits; decide) ⟨rfl, rfl⟩
  · cases h; exact cal_V mX7_solve (by decide) rfl (List.forall_mem_cons.mpr ⟨(ws_mem (List.mem_of_getElem? (i := 470) (by decide +kernel)) (by decide +kernel)), List.forall_mem_cons.mpr ⟨(ws_mem (List.mem_of_getElem? (i := 472) (by decide +kernel)) (by decide +kernel)), List.forall_mem_cons.mpr ⟨(ws_mem (List.mem_of_getElem? (i := 3) (by decide +kernel)) (by decide +kernel)), List.forall_mem_cons.mpr ⟨(ws_mem (List.mem_of_getElem? (i := 54) (by decide +kernel)) (by decide +kernel)), List.forall_mem_cons.mpr ⟨(ws_mem (List.mem_of_getElem? (i := 473) (by decide +kernel)) (by decide +kernel)), fun _ h => absurd h List.not_mem_nil⟩⟩⟩⟩⟩) rfl (by unfold nice; decide +kernel) (by unfold rfits; decide) ⟨rfl, rfl⟩
  · cases h
theorem ocX7_lapIf_104 (f : Nat → Nat → Nat → Nat → (List MV → MS → (Option MV → MS → Prop) → Prop) → Prop) : oC aX7_lapIf 104 f = f 2 7 0 0 spX7_lapByGrip := propext Iff.rfl
theorem ocX7_lapIf_79 (f : Nat → Nat → Nat → Nat → (List MV → MS → (Option MV → MS → Prop) → Prop) → Prop) : oC aX7_lapIf 79 f = f 4 7 0 0 spX7_solve := propext Iff.rfl
theorem mdX7_lapIf : MD RX7 cX7_lapIf rmX7_lapIf kX7_lapIf fX7 aX7_lapIf zX7 uX7 := ⟨fokX7, zokX7, uokX7, aokX7_lapIf, qX7_lapIf⟩
theorem capOK_cg {I J : Int → Int → Int} (lo : ∀ b k, b < 40 → J b k = I b k) (h3 : I 3 1 ≤ 30) (h144 : ∀ k, J 144 k = I 144 k) (h : capOK I) : capOK J := fun g g0 g1 => by
  rw [h144, lo 36 1 (by omega), lo 36 2 (by omega)]
  exact (h g g0 g1).imp id (fun q => lapT_cg (tsame_of lo h3) q)
set_option maxRecDepth 100000 in
set_option maxHeartbeats 800000 in
theorem mX7_lapIf : MOK yX7_lapIf cX7_lapIf 5 (some .int) rmX7_lapIf ciX7_lapIf := by
  refine mok_of (ini := false) (by decide +kernel) (by decide) rfl rfl ?_
  intro σ As K hrc hl h
  obtain ⟨N, P, I, L⟩ := σ
  have h9 := pR_iff.mp h
  clear h
  obtain ⟨s, r, e9, h⟩ := h9
  subst e9
  have h9 := pI_iff.mp h
  clear h
  obtain ⟨w, r, e9, h⟩ := h9
  subst e9
  have h9 := pI_iff.mp h
  clear h
  obtain ⟨n, r, e9, h⟩ := h9
  subst e9
  have h9 := pN_iff.mp h
  clear h
  obtain ⟨e9, h⟩ := h9
  subst e9
  dsimp only at h
  obtain ⟨rfl, rfl, hw, ht, hc, hk, h⟩ := h
  have hn := hc.2
  unfold nOK at hn
  have h3 := ht.2.1
  have key : ∀ g bk st, 0 ≤ bk → 1 ≤ st → lapT I g bk st = lapT I (if w = 0 then n else I 36 0) (if w = 1 then n else I 36 1) (if w = 2 then n else I 36 2) → ∀ (I' : Int → Int → Int) (v : Int), (∀ b k, ¬ b = 48 → ¬ b = 140 → ¬ b = 141 → ¬ (50 ≤ b ∧ b ≤ 139) → I' b k = I b k) → slvOK I' g bk → lapV I' bk st v → K (some (.inl v)) (N, PF, I', L) := fun g bk st hb hst e I' v h1 h2 h5 => by
    have lo := slv_frame h1
    have hT := lapT_of (tOK_cg lo ht) (carOK_cg lo hc) h2.1 hb hst h5
    have hT2 := lapT_cg (tsame_of lo (by omega)).sy hT
    rw [e] at hT2
    exact h I' v (fun b k b1 b2 b3 b4 b5 => h1 b k b1 b2 b3 b5) (capOK_cg lo h3 (fun k => h1 _ k (by omega) (by omega) (by omega) (by omega)) hk) hT2
  refine ⟨Nat.le_of_ble_eq_true rfl, Ok.seg mdX7_lapIf [] 60 ?_⟩
  rcases hw with ⟨rfl, hw⟩ | ⟨rfl, hw⟩ | ⟨rfl, hw⟩
  · simp only [wp_nil, wp_cons, ↓stp, ↓lI, ↓lL, ↓lR, ↓lIn_0, ↓lIn_1, ↓lIn_2, ↓lIn_3, ↓lLn_0, ↓lLn_1, ↓lLn_2, ↓lLn_3, ↓lRn_0, ↓lRn_1, ↓lRn_2, ↓lRn_3, ↓pI, ↓pL, ↓pR, ↓pA, ↓pN, ↓pV, ↓fp, ↓tsw, ↓oS, ↓spMax, ↓spMin, ↓spAbs, ↓spObj, RI, RLg, b2i_lo, b2i_hi, getL, setL, ltL, killL, isLong, inl, cnd, br, tgt, rcv, rpl, mputI, mputL, mputP, fv, fr, mcat, mcs, entL, entA, rfit, nf_0, nf_1, nf_2, nf_3, nf2_0, nf2_1, b2i_0, b2i_1, RI_b2i, b2i_fit, List.append, List.length, List.replicate, List.cons_append, List.nil_append, List.length_cons, List.length_nil, List.replicate_succ, List.replicate_zero, List.tail_cons, reduceIte, if_true, if_false, ite_true, ite_false, Bool.false_eq_true, true_and, and_true, and_self, false_and, and_false, or_self, or_true, true_or, or_false, false_or, not_true_eq_false, not_false_eq_true, ne_eq, forall_const, implies_true, imp_self, true_implies, false_implies, Nat.reduceAdd, Nat.reduceSub, Nat.reduceMul, Nat.reduceDiv, Nat.reduceMod, Nat.reduceEqDiff, Nat.reduceLT, Nat.reduceLeDiff, Nat.reduceBEq, Nat.add_zero, Nat.zero_add, Nat.le_refl, Nat.not_lt_zero, Nat.succ_eq_add_one, Int.reduceNatCast, Int.cast_ofNat_Int, Int.reduceSub, Int.reduceMul, Int.reduceNeg, Int.reduceLE, Int.reduceLT, Int.reduceToNat, Int.reduceEq, Int.reduceNe, Int.reduceAdd, Option.some.injEq, kX7_lapIf, rmX7_lapIf, ↓ofX7_21, ↓ofX7_76, ↓ocX7_lapIf_104, ↓spX7_lapByGrip, ↓ocX7_lapIf_79, ↓spX7_solve, ht, hc, hk, G_1, G_2, G_3, G_4, G_35, G_36, G_37, G_38, G_39, G_40, G_41, G_42, G_43, G_44, G_45, G_46, G_47, G_48, G_49, G_140, G_141, G_142, G_143, G_144, G_145, G_146, G_178, G_179, G_180, G_181, G_182, G_183, G_184, G_189, G_198, G_207, PF_1_0, PF_1_1, PF_1_2, PF_1_3, PF_2_0, PF_2_1, PF_2_3, PF_2_4, PF_2_5, PF_2_6, PF_2_7, PF_2_8, PF_2_9, PF_2_10, PF_2_11, PF_3_0, PF_35_0, PF_35_1, PF_35_2, PF_35_3, PF_40_0, PF_40_1, PF_40_2, PF_44_0, PF_44_1, PF_44_2, PF_145_0, PF_145_1, PF_179_0, PF_179_1, PF_179_2, PF_179_3, PF_179_8, PF_179_9, PF_179_10]
    exact ⟨by omega, by omega, fun I' v h1 h2 h5 => h I' v h1 h2 h5⟩
  · simp only [wp_nil, wp_cons, ↓stp, ↓lI, ↓lL, ↓lR, ↓lIn_0, ↓lIn_1, ↓lIn_2, ↓lIn_3, ↓lLn_0, ↓lLn_1, ↓lLn_2, ↓lLn_3, ↓lRn_0, ↓lRn_1, ↓lRn_2, ↓lRn_3, ↓pI, ↓pL, ↓pR, ↓pA, ↓pN, ↓pV, ↓fp, ↓tsw, ↓oS, ↓spMax, ↓spMin, ↓spAbs, ↓spObj, RI, RLg, b2i_lo, b2i_hi, getL, setL, ltL, killL, isLong, inl, cnd, br, tgt, rcv, rpl, mputI, mputL, mputP, fv, fr, mcat, mcs, entL, entA, rfit, nf_0, nf_1, nf_2, nf_3, nf2_0, nf2_1, b2i_0, b2i_1, RI_b2i, b2i_fit, List.append, List.length, List.replicate, List.cons_append, List.nil_append, List.length_cons, List.length_nil, List.replicate_succ, List.replicate_zero, List.tail_cons, reduceIte, if_true, if_false, ite_true, ite_false, Bool.false_eq_true, true_and, and_true, and_self, false_and, and_false, or_self, or_true, true_or, or_false, false_or, not_true_eq_false, not_false_eq_true, ne_eq, forall_const, implies_true, imp_self, true_implies, false_implies, Nat.reduceAdd, Nat.reduceSub, Nat.reduceMul, Nat.reduceDiv, Nat.reduceMod, Nat.reduceEqDiff, Nat.reduceLT, Nat.reduceLeDiff, Nat.reduceBEq, Nat.add_zero, Nat.zero_add, Nat.le_refl, Nat.not_lt_zero, Nat.succ_eq_add_one, Int.reduceNatCast, Int.cast_ofNat_Int, Int.reduceSub, Int.reduceMul, Int.reduceNeg, Int.reduceLE, Int.reduceLT, Int.reduceToNat, Int.reduceEq, Int.reduceNe, Int.reduceAdd, Option.some.injEq, kX7_lapIf, rmX7_lapIf, ↓ofX7_21, ↓ofX7_76, ↓ocX7_lapIf_104, ↓spX7_lapByGrip, ↓ocX7_lapIf_79, ↓spX7_solve, ht, hc, hk, G_1, G_2, G_3, G_4, G_35, G_36, G_37, G_38, G_39, G_40, G_41, G_42, G_43, G_44, G_45, G_46, G_47, G_48, G_49, G_140, G_141, G_142, G_143, G_144, G_145, G_146, G_178, G_179, G_180, G_181, G_182, G_183, G_184, G_189, G_198, G_207, PF_1_0, PF_1_1, PF_1_2, PF_1_3, PF_2_0, PF_2_1, PF_2_3, PF_2_4, PF_2_5, PF_2_6, PF_2_7, PF_2_8, PF_2_9, PF_2_10, PF_2_11, PF_3_0, PF_35_0, PF_35_1, PF_35_2, PF_35_3, PF_40_0, PF_40_1, PF_40_2, PF_44_0, PF_44_1, PF_44_2, PF_145_0, PF_145_1, PF_179_0, PF_179_1, PF_179_2, PF_179_3, PF_179_8, PF_179_9, PF_179_10]
    exact ⟨by omega, by omega, by omega, by omega, by omega, by omega, key _ _ _ (by omega) (by omega) (by simp)⟩
  · simp only [wp_nil, wp_cons, ↓stp, ↓lI, ↓lL, ↓lR, ↓lIn_0, ↓lIn_1, ↓lIn_2, ↓lIn_3, ↓lLn_0, ↓lLn_1, ↓lLn_2, ↓lLn_3, ↓lRn_0, ↓lRn_1, ↓lRn_2, ↓lRn_3, ↓pI, ↓pL, ↓pR, ↓pA, ↓pN, ↓pV, ↓fp, ↓tsw, ↓oS, ↓spMax, ↓spMin, ↓spAbs, ↓spObj, RI, RLg, b2i_lo, b2i_hi, getL, setL, ltL, killL, isLong, inl, cnd, br, tgt, rcv, rpl, mputI, mputL, mputP, fv, fr, mcat, mcs, entL, entA, rfit, nf_0, nf_1, nf_2, nf_3, nf2_0, nf2_1, b2i_0, b2i_1, RI_b2i, b2i_fit, List.append, List.length, List.replicate, List.cons_append, List.nil_append, List.length_cons, List.length_nil, List.replicate_succ, List.replicate_zero, List.tail_cons, reduceIte, if_true, if_false, ite_true, ite_false, Bool.false_eq_true, true_and, and_true, and_self, false_and, and_false, or_self, or_true, true_or, or_false, false_or, not_true_eq_false, not_false_eq_true, ne_eq, forall_const, implies_true, imp_self, true_implies, false_implies, Nat.reduceAdd, Nat.reduceSub, Nat.reduceMul, Nat.reduceDiv, Nat.reduceMod, Nat.reduceEqDiff, Nat.reduceLT, Nat.reduceLeDiff, Nat.reduceBEq, Nat.add_zero, Nat.zero_add, Nat.le_refl, Nat.not_lt_zero, Nat.succ_eq_add_one, Int.reduceNatCast, Int.cast_ofNat_Int, Int.reduceSub, Int.reduceMul, Int.reduceNeg, Int.reduceLE, Int.reduceLT, Int.reduceToNat, Int.reduceEq, Int.reduceNe, Int.reduceAdd, Option.some.injEq, kX7_lapIf, rmX7_lapIf, ↓ofX7_21, ↓ofX7_76, ↓ocX7_lapIf_104, ↓spX7_lapByGrip, ↓ocX7_lapIf_79, ↓spX7_solve, ht, hc, hk, G_1, G_2, G_3, G_4, G_35, G_36, G_37, G_38, G_39, G_40, G_41, G_42, G_43, G_44, G_45, G_46, G_47, G_48, G_49, G_140, G_141, G_142, G_143, G_144, G_145, G_146, G_178, G_179, G_180, G_181, G_182, G_183, G_184, G_189, G_198, G_207, PF_1_0, PF_1_1, PF_1_2, PF_1_3, PF_2_0, PF_2_1, PF_2_3, PF_2_4, PF_2_5, PF_2_6, PF_2_7, PF_2_8, PF_2_9, PF_2_10, PF_2_11, PF_3_0, PF_35_0, PF_35_1, PF_35_2, PF_35_3, PF_40_0, PF_40_1, PF_40_2, PF_44_0, PF_44_1, PF_44_2, PF_145_0, PF_145_1, PF_179_0, PF_179_1, PF_179_2, PF_179_3, PF_179_8, PF_179_9, PF_179_10]
    exact ⟨by omega, by omega, by omega, by omega, by omega, by omega, key _ _ _ (by omega) (by omega) (by simp)⟩
end
section
/-! LapBoard$Ways: begins, leads -/
def begP (I : Int → Int → Int) (l B p : Int) : Prop := p ≤ I 36 2 ∧ p ≤ I 48 l ∧ tmv (I 5 1) 0 p + I (50 + l) p = B
/-- marks and what has been found -/
def mrk (M : Int → Int) (r : Int) : Prop := (r = 0 ∨ r = 1) ∧ (r = 1 ↔ ∃ z, 1 ≤ z ∧ z ≤ 60 ∧ 0 < M z)
theorem mrk_up {I : Int → Int → Int} {r q : Int} (h : mrk (I 143) r) (q0 : 1 ≤ q) (q1 : q ≤ 60) : mrk (upI I 143 q 1 143) 1 :=
  ⟨.inr rfl, ⟨fun _ => ⟨q, q0, q1, by rw [upI_same]; omega⟩, fun _ => rfl⟩⟩
def spX7_begins (As : List MV) (σ : MS) (K : Option MV → MS → Prop) : Prop := pR As fun s r => pI r fun l r => pI r fun B r => pN r (s = 2 ∧ σ.2.1 = PF ∧ 0 ≤ l ∧ l ≤ 2 ∧ RI B ∧ tOK σ.2.2.1 ∧ carOK σ.2.2.1 ∧ 0 < σ.2.2.1 3 1 ∧ limR σ.2.2.1 ∧ rowR σ.2.2.1 0 l ∧
  ∀ (I' : Int → Int → Int) (r : Int), (∀ b k, b ≠ 143 → I' b k = σ.2.2.1 b k) → (∀ p, 1 ≤ p → p ≤ 60 → (0 < I' 143 p ↔ begP σ.2.2.1 l B p)) → (∀ p, 1 ≤ p → p ≤ 60 → I' 143 p = 0 ∨ I' 143 p = 1) → mrk (I' 143) r → K (some (.inl r)) (σ.1, σ.2.1, I', σ.2.2.2))
def ciX7_begins : CI := (3, 7, 0, 0, spX7_begins)
def kX7_begins (pc : Nat) : List ME := match pc with
  | 0 => [(.aload_n 0, 1, []), (.getfield 53, 3, []), (.iconst 0, 1, []), (.invokestatic 59, 3, []), (.iconst 0, 1, []), (.istore_n 3, 1, []), (.iconst 1, 1, []), (.istore 4, 2, [])]
  | 13 => [(.iload 4, 2, []), (.aload_n 0, 1, []), (.getfield 21, 3, []), (.getfield 76, 3, []), (.iconst 2, 1, []), (.iaload, 1, []), (.aload_n 0, 1, []), (.getfield 35, 3, []), (.iload_n 1, 1, []), (.iaload, 1, []), (.invokestatic 114, 3, []), (.if_icmp .gt 48, 3, [81]), (.aload_n 0, 1, []), (.getfield 12, 3, []), (.getfield 87, 3, []), (.iconst 0, 1, []), (.aaload, 1, []), (.iload 4, 2, []), (.iconst 0, 1, []), (.invokevirtual 143, 3, []), (.aload_n 0, 1, []), (.getfield 41, 3, []), (.iload_n 1, 1, []), (.aaload, 1, []), (.iload 4, 2, []), (.iaload, 1, []), (.iadd, 1, []), (.iload_n 2, 1, []), (.if_icmp .ne 13, 3, [75]), (.aload_n 0, 1, []), (.getfield 53, 3, []), (.iload 4, 2, []), (.iconst 1, 1, []), (.iastore, 1, []), (.iconst 1, 1, []), (.istore_n 3, 1, [])]
  | 75 => [(.iinc 4 1, 3, []), (.goto (-65), 3, [13])]
  | 81 => [(.iload_n 3, 1, []), (.ireturn, 1, [])]
  | _ => []
theorem qX7_begins : ∀ pc, chk cX7_begins pc (kX7_begins pc) = true := by
  intro pc
  unfold kX7_begins
  split <;> first | decide +kernel | exact chk_nil
abbrev rmX7_begins : Room := { frames := 1, cells := 0, slots := 0, locals := 23 }
def aX7_begins (x : Nat) : Option CI := match x with
  | 59 => some ciJ7_fill_53178
  | 114 => some ciMin
  | 143 => some ciX3_timeAt
  | _ => none
theorem aokX7_begins : ∀ x ci, aX7_begins x = some ci → CalOK RX7 rmX7_begins x ci := by
  intro x ci h
  unfold aX7_begins at h
  split at h
  · cases h; exact cal_S mJ7_fill_53178 rfl (List.forall_mem_cons.mpr ⟨(ws_mem (List.mem_of_getElem? (i := 208) (by decide +kernel)) (by decide +kernel)), List.forall_mem_cons.mpr ⟨(ws_mem (List.mem_of_getElem? (i := 209) (by decide +kernel)) (by decide +kernel)), List.forall_mem_cons.mpr ⟨(ws_mem (List.mem_of_getElem? (i := 60) (by decide +kernel)) (by decide +kernel)), List.forall_mem_cons.mpr ⟨(ws_mem (List.mem_of_getElem? (i := 210) (by decide +kernel)) (by decide +kernel)), fun _ h => absurd h List.not_mem_nil⟩⟩⟩⟩) rfl (by unfold nice; decide +kernel) (by unfold rfits; decide) ⟨rfl, rfl⟩
  · cases h; exact cal_min (List.forall_mem_cons.mpr ⟨(ws_mem (List.mem_of_getElem? (i := 490) (by decide +kernel)) (by decide +kernel)), List.forall_mem_cons.mpr ⟨(ws_mem (List.mem_of_getElem? (i := 155) (by decide +kernel)) (by decide +kernel)), List.forall_mem_cons.mpr ⟨(ws_mem (List.mem_of_getElem? (i := 58) (by decide +kernel)) (by decide +kernel)), List.forall_mem_cons.mpr ⟨(ws_mem (List.mem_of_getElem? (i := 156) (by decide +kernel)) (by decide +kernel)), fun _ h => absurd h List.not_mem_nil⟩⟩⟩⟩) (by decide)
  · cases h; exact cal_V mX3_timeAt (by decide) rfl (List.forall_mem_cons.mpr ⟨(ws_mem (List.mem_of_getElem? (i := 489) (by decide +kernel)) (by decide +kernel)), List.forall_mem_cons.mpr ⟨(ws_mem (List.mem_of_getElem? (i := 459) (by decide +kernel)) (by decide +kernel)), List.forall_mem_cons.mpr ⟨(ws_mem (List.mem_of_getElem? (i := 460) (by decide +kernel)) (by decide +kernel)), List.forall_mem_cons.mpr ⟨(ws_mem (List.mem_of_getElem? (i := 56) (by decide +kernel)) (by decide +kernel)), List.forall_mem_cons.mpr ⟨(ws_mem (List.mem_of_getElem? (i := 461) (by decide +kernel)) (by decide +kernel)), fun _ h => absurd h List.not_mem_nil⟩⟩⟩⟩⟩) rfl (by unfold nice; decide +kernel) (by unfold rfits; decide) ⟨rfl, rfl⟩
  · cases h
theorem ocX7_begins_59 (f : Nat → Nat → Nat → Nat → (List MV → MS → (Option MV → MS → Prop) → Prop) → Prop) : oC aX7_begins 59 f = f 2 10 0 0 spJ7_fill_53178 := propext Iff.rfl
theorem ocX7_begins_114 (f : Nat → Nat → Nat → Nat → (List MV → MS → (Option MV → MS → Prop) → Prop) → Prop) : oC aX7_begins 114 f = f 2 10 0 0 spMin := propext Iff.rfl
theorem ocX7_begins_143 (f : Nat → Nat → Nat → Nat → (List MV → MS → (Option MV → MS → Prop) → Prop) → Prop) : oC aX7_begins 143 f = f 3 3 0 0 spX3_timeAt := propext Iff.rfl
theorem mdX7_begins : MD RX7 cX7_begins rmX7_begins kX7_begins fX7 aX7_begins zX7 uX7 := ⟨fokX7, zokX7, uokX7, aokX7_begins, qX7_begins⟩
set_option maxHeartbeats 1600000 in
set_option maxRecDepth 100000 in
theorem lpX7_b1 {K : Option MV → MS → Prop} {U : Pt → Prop} {N : Nat} {I L : Int → Int → Int} {l B : Int} (l0 : 0 ≤ l) (l1 : l ≤ 2) (hB : RI B) (ht : tOK I) (hc : carOK I) (hn : 0 < I 3 1) (hl : limR I) (hR : rowR I 0 l)
    (h : ∀ (I' : Int → Int → Int) (r : Int), (∀ b k, b ≠ 143 → I' b k = I b k) → (∀ p, 1 ≤ p → p ≤ 60 → (0 < I' 143 p ↔ begP I l B p)) → (∀ p, I' 143 p = 0 ∨ I' 143 p = 1 ∨ I' 143 p = I 143 p) → mrk (I' 143) r → K (some (.inl r)) (N, PF, I', L)) :
    ∀ (m : Nat) (p : Int) (I1 : Int → Int → Int) (r : Int), p + m = 61 → 1 ≤ p → (∀ b k, b ≠ 143 → I1 b k = I b k) → (∀ z, 1 ≤ z → z < p → (0 < I1 143 z ↔ begP I l B z)) → (∀ z, p ≤ z → z ≤ 60 → I1 143 z = 0) → (∀ p, I1 143 p = 0 ∨ I1 143 p = 1 ∨ I1 143 p = I 143 p) → mrk (I1 143) r →
    Ok RX7 cX7_begins 5 rmX7_begins false none (fun r σ' => rfit (some .boolean) r ∧ K r σ') U (13, [some (.inr (.inr (some 2))), some (.inl l), some (.inl B), some (.inl r), some (.inl p)], [], (N, PF, I1, L), 0, 0)
  | m, p, I1, r, hm, p0, h1, h2, h3, h4, h5 => by
    have e36 : I1 36 = I 36 := funext fun k => h1 _ k (by omega)
    have e48 : I1 48 = I 48 := funext fun k => h1 _ k (by omega)
    have e5 : I1 5 = I 5 := funext fun k => h1 _ k (by omega)
    have er : I1 (50 + l) = I (50 + l) := funext fun k => h1 _ k (by omega)
    have hlx := hl 0 l (by omega) (by omega) l0 l1
    rw [show 3 * 0 + l = l by omega] at hlx
    have hnn := hc.2
    unfold nOK at hnn
    have hg5 := G_st (a := 5) (by omega) (by omega)
    have hp5 : PF 4 0 = some 5 := PF_st (i := 0) (by omega) (by omega)
    have hpr : PF 49 l = some (50 + l) := PF_rest (i := l) (by omega) (by omega)
    have hgr := G_row (a := 50 + l) (by omega) (by omega)
    have hst0 : stOK I 5 := ht.2.2 0 (by omega) hn
    have hst : stOK I1 5 := stOK_cg (fun k => h1 _ k (by omega)) hst0
    have hb := h5.1
    have fin : I 36 2 < p ∨ I 48 l < p → K (some (.inl r)) (N, PF, I1, L) := fun q => by
      refine h I1 r h1 (fun z z0 z1 => ?_) h4 h5
      by_cases e : z < p
      · exact h2 z z0 e
      · rw [h3 z (by omega) z1]
        unfold begP
        constructor
        · intro q2; omega
        · rintro ⟨a, b, c⟩; omega
    unfold RI at hB
    rcases m with _ | m
    · refine Ok.seg mdX7_begins [13] 60 ?_
      simp only [wp_nil, wp_cons, ↓stp, ↓lI, ↓lL, ↓lR, ↓lIn_0, ↓lIn_1, ↓lIn_2, ↓lIn_3, ↓lLn_0, ↓lLn_1, ↓lLn_2, ↓lLn_3, ↓lRn_0, ↓lRn_1, ↓lRn_2, ↓lRn_3, ↓pI, ↓pL, ↓pR, ↓pA, ↓pN, ↓pV, ↓fp, ↓tsw, ↓oS, ↓spMax, ↓spMin, ↓spAbs, ↓spObj, RI, RLg, b2i_lo, b2i_hi, getL, setL, ltL, killL, isLong, inl, cnd, br, tgt, rcv, rpl, mputI, mputL, mputP, fv, fr, mcat, mcs, entL, entA, rfit, nf_0, nf_1, nf_2, nf_3, nf2_0, nf2_1, b2i_0, b2i_1, RI_b2i, b2i_fit, List.append, List.length, List.replicate, List.cons_append, List.nil_append, List.length_cons, List.length_nil, List.replicate_succ, List.replicate_zero, List.tail_cons, reduceIte, if_true, if_false, ite_true, ite_false, Bool.false_eq_true, true_and, and_true, and_self, false_and, and_false, or_self, or_true, true_or, or_false, false_or, not_true_eq_false, not_false_eq_true, ne_eq, forall_const, implies_true, imp_self, true_implies, false_implies, Nat.reduceAdd, Nat.reduceSub, Nat.reduceMul, Nat.reduceDiv, Nat.reduceMod, Nat.reduceEqDiff, Nat.reduceLT, Nat.reduceLeDiff, Nat.reduceBEq, Nat.add_zero, Nat.zero_add, Nat.le_refl, Nat.not_lt_zero, Nat.succ_eq_add_one, Int.reduceNatCast, Int.cast_ofNat_Int, Int.reduceSub, Int.reduceMul, Int.reduceNeg, Int.reduceLE, Int.reduceLT, Int.reduceToNat, Int.reduceEq, Int.reduceNe, Int.reduceAdd, Option.some.injEq, kX7_begins, rmX7_begins, ↓ofX7_12, ↓ofX7_21, ↓ofX7_35, ↓ofX7_41, ↓ofX7_53, ↓ofX7_76, ↓ofX7_87, ↓ocX7_begins_59, ↓spJ7_fill_53178, ↓ocX7_begins_114, ↓ocX7_begins_143, ↓spX3_timeAt, e36, e48, e5, er, hg5, hp5, hpr, hgr, hst, G_1, G_2, G_3, G_4, G_35, G_36, G_37, G_38, G_39, G_40, G_41, G_42, G_43, G_44, G_45, G_46, G_47, G_48, G_49, G_140, G_141, G_142, G_143, G_144, G_145, G_146, G_178, G_179, G_180, G_181, G_182, G_183, G_184, G_189, G_198, G_207, PF_1_0, PF_1_1, PF_1_2, PF_1_3, PF_2_0, PF_2_1, PF_2_3, PF_2_4, PF_2_5, PF_2_6, PF_2_7, PF_2_8, PF_2_9, PF_2_10, PF_2_11, PF_3_0, PF_35_0, PF_35_1, PF_35_2, PF_35_3, PF_40_0, PF_40_1, PF_40_2, PF_44_0, PF_44_1, PF_44_2, PF_145_0, PF_145_1, PF_179_0, PF_179_1, PF_179_2, PF_179_3, PF_179_8, PF_179_9, PF_179_10]
      refine ⟨by omega, by omega, by omega, by omega, fun x x1 x2 x3 => ⟨by omega, by omega, fun q => ⟨hb, fin (by omega)⟩, fun q => by omega⟩⟩
    · have ih := lpX7_b1 (U := U) l0 l1 hB ht hc hn hl hR h m (p + 1)
      have hrp := hR p p0 (by omega)
      rw [show 50 + (3 * 0 + l) = 50 + l by omega] at hrp
      have htm := tm_rng ht 0 0 p (by omega) hn p0
      rw [show (5 : Int) + 0 = 5 by rfl] at htm
      have yes : p ≤ I 36 2 → p ≤ I 48 l → tmv (I 5 1) 0 p + I (50 + l) p = B → Ok RX7 cX7_begins 5 rmX7_begins false none (fun r σ' => rfit (some .boolean) r ∧ K r σ') U (13, [some (.inr (.inr (some 2))), some (.inl l), some (.inl B), some (.inl 1), some (.inl (p + 1))], [], (N, PF, upI I1 143 p 1, L), 0, 0) := fun q1 q2 q3 => by
        refine ih _ _ (by omega) (by omega) (fun b k hb => by rw [upI_ne hb]; exact h1 b k hb) (fun z z0 z1 => ?_) (fun z z0 z1 => by rw [upI_nj (by omega)]; exact h3 z (by omega) z1) (fun z => ?_) (mrk_up h5 p0 (by omega))
        · by_cases e : z = p
          · subst e; rw [upI_same]; exact ⟨fun _ => ⟨q1, q2, q3⟩, fun _ => by omega⟩
          · rw [upI_nj e]; exact h2 z z0 (by omega)
        · by_cases e : z = p
          · subst e; rw [upI_same]; exact .inr (.inl rfl)
          · rw [upI_nj e]; exact h4 z
      have no : ¬ tmv (I 5 1) 0 p + I (50 + l) p = B → Ok RX7 cX7_begins 5 rmX7_begins false none (fun r σ' => rfit (some .boolean) r ∧ K r σ') U (13, [some (.inr (.inr (some 2))), some (.inl l), some (.inl B), some (.inl r), some (.inl (p + 1))], [], (N, PF, I1, L), 0, 0) := fun q => by
        refine ih _ _ (by omega) (by omega) h1 (fun z z0 z1 => ?_) (fun z z0 z1 => h3 z (by omega) z1) h4 h5
        by_cases e : z = p
        · subst e; rw [h3 z (by omega) (by omega)]
          exact ⟨fun q2 => by omega, fun q2 => (q q2.2.2).elim⟩
        · exact h2 z z0 (by omega)
      refine Ok.seg mdX7_begins [13] 60 ?_
      simp only [wp_nil, wp_cons, ↓stp, ↓lI, ↓lL, ↓lR, ↓lIn_0, ↓lIn_1, ↓lIn_2, ↓lIn_3, ↓lLn_0, ↓lLn_1, ↓lLn_2, ↓lLn_3, ↓lRn_0, ↓lRn_1, ↓lRn_2, ↓lRn_3, ↓pI, ↓pL, ↓pR, ↓pA, ↓pN, ↓pV, ↓fp, ↓tsw, ↓oS, ↓spMax, ↓spMin, ↓spAbs, ↓spObj, RI, RLg, b2i_lo, b2i_hi, getL, setL, ltL, killL, isLong, inl, cnd, br, tgt, rcv, rpl, mputI, mputL, mputP, fv, fr, mcat, mcs, entL, entA, rfit, nf_0, nf_1, nf_2, nf_3, nf2_0, nf2_1, b2i_0, b2i_1, RI_b2i, b2i_fit, List.append, List.length, List.replicate, List.cons_append, List.nil_append, List.length_cons, List.length_nil, List.replicate_succ, List.replicate_zero, List.tail_cons, reduceIte, if_true, if_false, ite_true, ite_false, Bool.false_eq_true, true_and, and_true, and_self, false_and, and_false, or_self, or_true, true_or, or_false, false_or, not_true_eq_false, not_false_eq_true, ne_eq, forall_const, implies_true, imp_self, true_implies, false_implies, Nat.reduceAdd, Nat.reduceSub, Nat.reduceMul, Nat.reduceDiv, Nat.reduceMod, Nat.reduceEqDiff, Nat.reduceLT, Nat.reduceLeDiff, Nat.reduceBEq, Nat.add_zero, Nat.zero_add, Nat.le_refl, Nat.not_lt_zero, Nat.succ_eq_add_one, Int.reduceNatCast, Int.cast_ofNat_Int, Int.reduceSub, Int.reduceMul, Int.reduceNeg, Int.reduceLE, Int.reduceLT, Int.reduceToNat, Int.reduceEq, Int.reduceNe, Int.reduceAdd, Option.some.injEq, kX7_begins, rmX7_begins, ↓ofX7_12, ↓ofX7_21, ↓ofX7_35, ↓ofX7_41, ↓ofX7_53, ↓ofX7_76, ↓ofX7_87, ↓ocX7_begins_59, ↓spJ7_fill_53178, ↓ocX7_begins_114, ↓ocX7_begins_143, ↓spX3_timeAt, e36, e48, e5, er, hg5, hp5, hpr, hgr, hst, G_1, G_2, G_3, G_4, G_35, G_36, G_37, G_38, G_39, G_40, G_41, G_42, G_43, G_44, G_45, G_46, G_47, G_48, G_49, G_140, G_141, G_142, G_143, G_144, G_145, G_146, G_178, G_179, G_180, G_181, G_182, G_183, G_184, G_189, G_198, G_207, PF_1_0, PF_1_1, PF_1_2, PF_1_3, PF_2_0, PF_2_1, PF_2_3, PF_2_4, PF_2_5, PF_2_6, PF_2_7, PF_2_8, PF_2_9, PF_2_10, PF_2_11, PF_3_0, PF_35_0, PF_35_1, PF_35_2, PF_35_3, PF_40_0, PF_40_1, PF_40_2, PF_44_0, PF_44_1, PF_44_2, PF_145_0, PF_145_1, PF_179_0, PF_179_1, PF_179_2, PF_179_3, PF_179_8, PF_179_9, PF_179_10]
      refine ⟨by omega, by omega, by omega, by omega, fun x x1 x2 x3 => ⟨by omega, by omega, fun q => ⟨hb, fin (by omega)⟩, fun q => ⟨by omega, by omega, by omega, by omega, by omega, by omega, by omega, by omega, no, fun q2 => ?_⟩⟩⟩
      exact ⟨by omega, by omega, yes (by omega) (by omega) (by omega)⟩
set_option maxRecDepth 100000 in
set_option maxHeartbeats 800000 in
theorem mX7_begins : MOK yX7_begins cX7_begins 5 (some .boolean) rmX7_begins ciX7_begins := by
  refine mok_of (ini := false) (by decide +kernel) (by decide) rfl rfl ?_
  intro σ As K hrc hl h
  obtain ⟨N, P, I, L⟩ := σ
  have h9 := pR_iff.mp h
  clear h
  obtain ⟨s, r, e9, h⟩ := h9
  subst e9
  have h9 := pI_iff.mp h
  clear h
  obtain ⟨l, r, e9, h⟩ := h9
  subst e9
  have h9 := pI_iff.mp h
  clear h
  obtain ⟨B, r, e9, h⟩ := h9
  subst e9
  have h9 := pN_iff.mp h
  clear h
  obtain ⟨e9, h⟩ := h9
  subst e9
  dsimp only at h
  obtain ⟨rfl, rfl, l0, l1, hB, ht, hc, hn, hl, hR, h⟩ := h
  have hne : ∀ b k, b ≠ 143 → filI I 143 0 61 b k = I b k := fun b k hb => if_neg (fun z => hb z.1)
  have hz : ∀ z, 1 ≤ z → z ≤ 60 → filI I 143 0 61 143 z = 0 := fun z z0 z1 => if_pos ⟨rfl, by omega, by omega⟩
  have hs : rsame I (filI I 143 0 61) := ⟨fun b k hb => hne b k (by omega), fun k => hne _ k (by omega)⟩
  refine ⟨Nat.le_of_ble_eq_true rfl, Ok.seg mdX7_begins [13] 20 ?_⟩
  simp only [wp_nil, wp_cons, ↓stp, ↓lI, ↓lL, ↓lR, ↓lIn_0, ↓lIn_1, ↓lIn_2, ↓lIn_3, ↓lLn_0, ↓lLn_1, ↓lLn_2, ↓lLn_3, ↓lRn_0, ↓lRn_1, ↓lRn_2, ↓lRn_3, ↓pI, ↓pL, ↓pR, ↓pA, ↓pN, ↓pV, ↓fp, ↓tsw, ↓oS, ↓spMax, ↓spMin, ↓spAbs, ↓spObj, RI, RLg, b2i_lo, b2i_hi, getL, setL, ltL, killL, isLong, inl, cnd, br, tgt, rcv, rpl, mputI, mputL, mputP, fv, fr, mcat, mcs, entL, entA, rfit, nf_0, nf_1, nf_2, nf_3, nf2_0, nf2_1, b2i_0, b2i_1, RI_b2i, b2i_fit, List.append, List.length, List.replicate, List.cons_append, List.nil_append, List.length_cons, List.length_nil, List.replicate_succ, List.replicate_zero, List.tail_cons, reduceIte, if_true, if_false, ite_true, ite_false, Bool.false_eq_true, true_and, and_true, and_self, false_and, and_false, or_self, or_true, true_or, or_false, false_or, not_true_eq_false, not_false_eq_true, ne_eq, forall_const, implies_true, imp_self, true_implies, false_implies, Nat.reduceAdd, Nat.reduceSub, Nat.reduceMul, Nat.reduceDiv, Nat.reduceMod, Nat.reduceEqDiff, Nat.reduceLT, Nat.reduceLeDiff, Nat.reduceBEq, Nat.add_zero, Nat.zero_add, Nat.le_refl, Nat.not_lt_zero, Nat.succ_eq_add_one, Int.reduceNatCast, Int.cast_ofNat_Int, Int.reduceSub, Int.reduceMul, Int.reduceNeg, Int.reduceLE, Int.reduceLT, Int.reduceToNat, Int.reduceEq, Int.reduceNe, Int.reduceAdd, Option.some.injEq, kX7_begins, rmX7_begins, ↓ofX7_12, ↓ofX7_21, ↓ofX7_35, ↓ofX7_41, ↓ofX7_53, ↓ofX7_76, ↓ofX7_87, ↓ocX7_begins_59, ↓spJ7_fill_53178, ↓ocX7_begins_114, ↓ocX7_begins_143, ↓spX3_timeAt, G_1, G_2, G_3, G_4, G_35, G_36, G_37, G_38, G_39, G_40, G_41, G_42, G_43, G_44, G_45, G_46, G_47, G_48, G_49, G_140, G_141, G_142, G_143, G_144, G_145, G_146, G_178, G_179, G_180, G_181, G_182, G_183, G_184, G_189, G_198, G_207, PF_1_0, PF_1_1, PF_1_2, PF_1_3, PF_2_0, PF_2_1, PF_2_3, PF_2_4, PF_2_5, PF_2_6, PF_2_7, PF_2_8, PF_2_9, PF_2_10, PF_2_11, PF_3_0, PF_35_0, PF_35_1, PF_35_2, PF_35_3, PF_40_0, PF_40_1, PF_40_2, PF_44_0, PF_44_1, PF_44_2, PF_145_0, PF_145_1, PF_179_0, PF_179_1, PF_179_2, PF_179_3, PF_179_8, PF_179_9, PF_179_10]
  have e31 : filI I 143 0 61 3 1 = I 3 1 := hne _ _ (by omega)
  refine lpX7_b1 l0 l1 hB (tOK_cg hs.1 ht) (carOK_cg hs.1 hc) (by rw [e31]; exact hn) (fun i l a b c d => by rw [e31] at b; rw [hs.2]; exact hl i l a b c d) (fun p a b => by rw [hne _ _ (by omega)]; exact hR p a b) (fun I' r h1 h2 h4 h5 => h I' r (fun b k hb => (h1 b k hb).trans (hne b k hb)) (fun p p0 p1 => ?_) (fun p p0 p1 => ?_) h5) 60 1 _ 0 (by omega) (by omega) (fun _ _ _ => rfl) (fun z z0 z1 => by omega) (fun z z0 z1 => hz z (by omega) z1) (fun p => .inr (.inr rfl)) ⟨.inl rfl, ⟨fun q => by omega, fun ⟨z, z0, z1, z2⟩ => by rw [hz z z0 z1] at z2; omega⟩⟩
  · rw [h2 p p0 p1]; unfold begP
    rw [hne 36 _ (by omega), hne 48 _ (by omega), hne 5 _ (by omega), hne (50 + l) _ (by omega)]
  · rcases h4 p with q | q | q
    · exact .inl q
    · exact .inr q
    · rw [q]; exact .inl (hz p p0 p1)

def leaP (I : Int → Int → Int) (i f l p z : Int) : Prop := 0 < I 142 p ∧ p - I 36 1 ≤ z ∧ z ≤ I 37 p ∧ z ≤ I 48 (3 * i + l) ∧ tmv (I (5 + i) 1) (dif f l) z + I (50 + (3 * i + l)) z = I (50 + (3 * (i - 1) + f)) p
def spX7_leads (As : List MV) (σ : MS) (K : Option MV → MS → Prop) : Prop := pR As fun s r => pI r fun i r => pI r fun f r => pI r fun l r => pN r (s = 2 ∧ σ.2.1 = PF ∧ 1 ≤ i ∧ i < σ.2.2.1 3 1 ∧ 0 ≤ f ∧ f ≤ 2 ∧ 0 ≤ l ∧ l ≤ 2 ∧ tOK σ.2.2.1 ∧ carOK σ.2.2.1 ∧ limR σ.2.2.1 ∧ rowR σ.2.2.1 i l ∧ rowR σ.2.2.1 (i - 1) f ∧ (∀ p, 1 ≤ p → p ≤ 60 → RI (σ.2.2.1 142 p)) ∧
  ∀ (I' : Int → Int → Int) (r : Int), (∀ b k, b ≠ 143 → I' b k = σ.2.2.1 b k) → (∀ z, 1 ≤ z → z ≤ 60 → (0 < I' 143 z ↔ ∃ p, 1 ≤ p ∧ p ≤ 60 ∧ leaP σ.2.2.1 i f l p z)) → (∀ p, 1 ≤ p → p ≤ 60 → I' 143 p = 0 ∨ I' 143 p = 1) → mrk (I' 143) r → K (some (.inl r)) (σ.1, σ.2.1, I', σ.2.2.2))
def ciX7_leads : CI := (4, 7, 0, 0, spX7_leads)
def kX7_leads (pc : Nat) : List ME := match pc with
  | 0 => [(.aload_n 0, 1, []), (.getfield 53, 3, []), (.iconst 0, 1, []), (.invokestatic 59, 3, []), (.aload_n 0, 1, []), (.getfield 41, 3, []), (.iconst 3, 1, []), (.iload_n 1, 1, []), (.imul, 1, []), (.iload_n 3, 1, []), (.iadd, 1, []), (.aaload, 1, []), (.astore 4, 2, []), (.aload_n 0, 1, []), (.getfield 41, 3, []), (.iconst 3, 1, []), (.iload_n 1, 1, []), (.iconst 1, 1, []), (.isub, 1, []), (.imul, 1, []), (.iload_n 2, 1, []), (.iadd, 1, []), (.aaload, 1, []), (.astore 5, 2, []), (.iconst 0, 1, []), (.istore 6, 2, []), (.iconst 1, 1, []), (.istore 7, 2, [])]
  | 40 => [(.iload 7, 2, []), (.bipush 60, 2, []), (.if_icmp .gt 128, 3, [172]), (.aload_n 0, 1, []), (.getfield 50, 3, []), (.iload 7, 2, []), (.iaload, 1, []), (.ifCond .le 29, 3, [83]), (.aload_n 0, 1, []), (.getfield 21, 3, []), (.getfield 147, 3, []), (.iload 7, 2, []), (.iaload, 1, []), (.aload_n 0, 1, []), (.getfield 35, 3, []), (.iconst 3, 1, []), (.iload_n 1, 1, []), (.imul, 1, []), (.iload_n 3, 1, []), (.iadd, 1, []), (.iaload, 1, []), (.invokestatic 114, 3, []), (.goto 4, 3, [84])]
  | 83 => [(.iconst 0, 1, [])]
  | 84 => [(.istore 8, 2, []), (.iconst 1, 1, []), (.iload 7, 2, []), (.aload_n 0, 1, []), (.getfield 21, 3, []), (.getfield 76, 3, []), (.iconst 1, 1, []), (.iaload, 1, []), (.isub, 1, []), (.invokestatic 140, 3, []), (.istore 9, 2, [])]
  | 104 => [(.iload 9, 2, []), (.iload 8, 2, []), (.if_icmp .gt 58, 3, [166]), (.aload_n 0, 1, []), (.getfield 12, 3, []), (.getfield 87, 3, []), (.iload_n 1, 1, []), (.aaload, 1, []), (.iload 9, 2, []), (.iload_n 3, 1, []), (.iload_n 2, 1, []), (.if_icmp .eq 7, 3, [131]), (.iconst 1, 1, []), (.goto 4, 3, [132])]
  | 131 => [(.iconst 0, 1, [])]
  | 132 => [(.invokevirtual 143, 3, []), (.aload 4, 2, []), (.iload 9, 2, []), (.iaload, 1, []), (.iadd, 1, []), (.aload 5, 2, []), (.iload 7, 2, []), (.iaload, 1, []), (.if_icmp .ne 14, 3, [160]), (.aload_n 0, 1, []), (.getfield 53, 3, []), (.iload 9, 2, []), (.iconst 1, 1, []), (.iastore, 1, []), (.iconst 1, 1, []), (.istore 6, 2, [])]
  | 160 => [(.iinc 9 1, 3, []), (.goto (-59), 3, [104])]
  | 166 => [(.iinc 7 1, 3, []), (.goto (-129), 3, [40])]
  | 172 => [(.iload 6, 2, []), (.ireturn, 1, [])]
  | _ => []
theorem qX7_leads : ∀ pc, chk cX7_leads pc (kX7_leads pc) = true := by
  intro pc
  unfold kX7_leads
  split <;> first | decide +kernel | exact chk_nil
abbrev rmX7_leads : Room := { frames := 1, cells := 0, slots := 0, locals := 23 }
def aX7_leads (x : Nat) : Option CI := match x with
  | 59 => some ciJ7_fill_53178
  | 114 => some ciMin
  | 140 => some ciMax
  | 143 => some ciX3_timeAt
  | _ => none
theorem aokX7_leads : ∀ x ci, aX7_leads x = some ci → CalOK RX7 rmX7_leads x ci := by
  intro x ci h
  unfold aX7_leads at h
  split at h
  · cases h; exact cal_S mJ7_fill_53178 rfl (List.forall_mem_cons.mpr ⟨(ws_mem (List.mem_of_getElem? (i := 208) (by decide +kernel)) (by decide +kernel)), List.forall_mem_cons.mpr ⟨(ws_mem (List.mem_of_getElem? (i := 209) (by decide +kernel)) (by decide +kernel)), List.forall_mem_cons.mpr ⟨(ws_mem (List.mem_of_getElem? (i := 60) (by decide +kernel)) (by decide +kernel)), List.forall_mem_cons.mpr ⟨(ws_mem (List.mem_of_getElem? (i := 210) (by decide +kernel)) (by decide +kernel)), fun _ h => absurd h List.not_mem_nil⟩⟩⟩⟩) rfl (by unfold nice; decide +kernel) (by unfold rfits; decide) ⟨rfl, rfl⟩
  · cases h; exact cal_min (List.forall_mem_cons.mpr ⟨(ws_mem (List.mem_of_getElem? (i := 490) (by decide +kernel)) (by decide +kernel)), List.forall_mem_cons.mpr ⟨(ws_mem (List.mem_of_getElem? (i := 155) (by decide +kernel)) (by decide +kernel)), List.forall_mem_cons.mpr ⟨(ws_mem (List.mem_of_getElem? (i := 58) (by decide +kernel)) (by decide +kernel)), List.forall_mem_cons.mpr ⟨(ws_mem (List.mem_of_getElem? (i := 156) (by decide +kernel)) (by decide +kernel)), fun _ h => absurd h List.not_mem_nil⟩⟩⟩⟩) (by decide)
  · cases h; exact cal_max (List.forall_mem_cons.mpr ⟨(ws_mem (List.mem_of_getElem? (i := 488) (by decide +kernel)) (by decide +kernel)), List.forall_mem_cons.mpr ⟨(ws_mem (List.mem_of_getElem? (i := 158) (by decide +kernel)) (by decide +kernel)), List.forall_mem_cons.mpr ⟨(ws_mem (List.mem_of_getElem? (i := 58) (by decide +kernel)) (by decide +kernel)), List.forall_mem_cons.mpr ⟨(ws_mem (List.mem_of_getElem? (i := 159) (by decide +kernel)) (by decide +kernel)), fun _ h => absurd h List.not_mem_nil⟩⟩⟩⟩) (by decide)
  · cases h; exact cal_V mX3_timeAt (by decide) rfl (List.forall_mem_cons.mpr ⟨(ws_mem (List.mem_of_getElem? (i := 489) (by decide +kernel)) (by decide +kernel)), List.forall_mem_cons.mpr ⟨(ws_mem (List.mem_of_getElem? (i := 459) (by decide +kernel)) (by decide +kernel)), List.forall_mem_cons.mpr ⟨(ws_mem (List.mem_of_getElem? (i := 460) (by decide +kernel)) (by decide +kernel)), List.forall_mem_cons.mpr ⟨(ws_mem (List.mem_of_getElem? (i := 56) (by decide +kernel)) (by decide +kernel)), List.forall_mem_cons.mpr ⟨(ws_mem (List.mem_of_getElem? (i := 461) (by decide +kernel)) (by decide +kernel)), fun _ h => absurd h List.not_mem_nil⟩⟩⟩⟩⟩) rfl (by unfold nice; decide +kernel) (by unfold rfits; decide) ⟨rfl, rfl⟩
  · cases h
theorem ocX7_leads_59 (f : Nat → Nat → Nat → Nat → (List MV → MS → (Option MV → MS → Prop) → Prop) → Prop) : oC aX7_leads 59 f = f 2 10 0 0 spJ7_fill_53178 := propext Iff.rfl
theorem ocX7_leads_114 (f : Nat → Nat → Nat → Nat → (List MV → MS → (Option MV → MS → Prop) → Prop) → Prop) : oC aX7_leads 114 f = f 2 10 0 0 spMin := propext Iff.rfl
theorem ocX7_leads_140 (f : Nat → Nat → Nat → Nat → (List MV → MS → (Option MV → MS → Prop) → Prop) → Prop) : oC aX7_leads 140 f = f 2 10 0 0 spMax := propext Iff.rfl
theorem ocX7_leads_143 (f : Nat → Nat → Nat → Nat → (List MV → MS → (Option MV → MS → Prop) → Prop) → Prop) : oC aX7_leads 143 f = f 3 3 0 0 spX3_timeAt := propext Iff.rfl
theorem mdX7_leads : MD RX7 cX7_leads rmX7_leads kX7_leads fX7 aX7_leads zX7 uX7 := ⟨fokX7, zokX7, uokX7, aokX7_leads, qX7_leads⟩
set_option maxHeartbeats 1600000 in
set_option maxRecDepth 100000 in
theorem lpX7_d1 {post : Option MV → MS → Prop} {U : Pt → Prop} {N : Nat} {I L : Int → Int → Int} {i f l p most : Int} (i0 : 1 ≤ i) (i1 : i < I 3 1) (f0 : 0 ≤ f) (f1 : f ≤ 2) (l0 : 0 ≤ l) (l1 : l ≤ 2) (ht : tOK I) (hl : limR I) (hR : rowR I i l) (hR2 : rowR I (i - 1) f) (p0 : 1 ≤ p) (p1 : p ≤ 60) (hm0 : 0 ≤ most ∧ most ≤ 60)
    (hmost : ∀ z, 1 ≤ z → (z ≤ most ↔ 0 < I 142 p ∧ z ≤ I 37 p ∧ z ≤ I 48 (3 * i + l)))
    (h : ∀ (I1 : Int → Int → Int) (r : Int) (t : Option MV), (∀ b k, b ≠ 143 → I1 b k = I b k) → (∀ z, 1 ≤ z → z ≤ 60 → (0 < I1 143 z ↔ 0 < I 143 z ∨ leaP I i f l p z)) → (∀ p, I1 143 p = 0 ∨ I1 143 p = 1 ∨ I1 143 p = I 143 p) → mrk (I1 143) r → Ok RX7 cX7_leads 10 rmX7_leads false none post U (40, [some (.inr (.inr (some 2))), some (.inl i), some (.inl f), some (.inl l), some (.inr (.inr (some (50 + (3 * i + l))))), some (.inr (.inr (some (50 + (3 * (i - 1) + f))))), some (.inl r), some (.inl (p + 1)), some (.inl most), t], [], (N, PF, I1, L), 0, 0)) :
    ∀ (m : Nat) (q : Int) (I1 : Int → Int → Int) (r : Int), q + m = 61 → 1 ≤ q → p - I 36 1 ≤ q → (∀ b k, b ≠ 143 → I1 b k = I b k) → (∀ z, 1 ≤ z → z < q → (0 < I1 143 z ↔ 0 < I 143 z ∨ leaP I i f l p z)) → (∀ z, q ≤ z → z ≤ 60 → I1 143 z = I 143 z) → (∀ p, I1 143 p = 0 ∨ I1 143 p = 1 ∨ I1 143 p = I 143 p) → mrk (I1 143) r →
    Ok RX7 cX7_leads 10 rmX7_leads false none post U (104, [some (.inr (.inr (some 2))), some (.inl i), some (.inl f), some (.inl l), some (.inr (.inr (some (50 + (3 * i + l))))), some (.inr (.inr (some (50 + (3 * (i - 1) + f))))), some (.inl r), some (.inl p), some (.inl most), some (.inl q)], [], (N, PF, I1, L), 0, 0)
  | m, q, I1, r, hm, q0, q1, h1, h2, h3, h4, h5 => by
    have ht2 := ht.2.1
    have e5 : I1 (5 + i) = I (5 + i) := funext fun k => h1 _ k (by omega)
    have er : I1 (50 + (3 * i + l)) = I (50 + (3 * i + l)) := funext fun k => h1 _ k (by omega)
    have er2 : I1 (50 + (3 * (i - 1) + f)) = I (50 + (3 * (i - 1) + f)) := funext fun k => h1 _ k (by omega)
    have hp := PF_st (i := i) (by omega) (by omega)
    have hg := G_st (a := 5 + i) (by omega) (by omega)
    have hgr := G_row (a := 50 + (3 * i + l)) (by omega) (by omega)
    have hgr2 := G_row (a := 50 + (3 * (i - 1) + f)) (by omega) (by omega)
    have hst : stOK I1 (5 + i) := stOK_cg (fun k => h1 _ k (by omega)) (ht.2.2 i (by omega) (by omega))
    have fin : most < q → Ok RX7 cX7_leads 10 rmX7_leads false none post U (40, [some (.inr (.inr (some 2))), some (.inl i), some (.inl f), some (.inl l), some (.inr (.inr (some (50 + (3 * i + l))))), some (.inr (.inr (some (50 + (3 * (i - 1) + f))))), some (.inl r), some (.inl (p + 1)), some (.inl most), some (.inl q)], [], (N, PF, I1, L), 0, 0) := fun w => by
      refine h I1 r _ h1 (fun z z0 z1 => ?_) h4 h5
      by_cases e : z < q
      · exact h2 z z0 e
      · rw [h3 z (by omega) z1]
        refine ⟨.inl, fun y => y.elim id (fun y => ?_)⟩
        have := (hmost z z0).mpr ⟨y.1, y.2.2.1, y.2.2.2.1⟩
        omega
    rcases m with _ | m
    · refine Ok.seg mdX7_leads [40, 104] 60 ?_
      simp only [wp_nil, wp_cons, ↓stp, ↓lI, ↓lL, ↓lR, ↓lIn_0, ↓lIn_1, ↓lIn_2, ↓lIn_3, ↓lLn_0, ↓lLn_1, ↓lLn_2, ↓lLn_3, ↓lRn_0, ↓lRn_1, ↓lRn_2, ↓lRn_3, ↓pI, ↓pL, ↓pR, ↓pA, ↓pN, ↓pV, ↓fp, ↓tsw, ↓oS, ↓spMax, ↓spMin, ↓spAbs, ↓spObj, RI, RLg, b2i_lo, b2i_hi, getL, setL, ltL, killL, isLong, inl, cnd, br, tgt, rcv, rpl, mputI, mputL, mputP, fv, fr, mcat, mcs, entL, entA, rfit, nf_0, nf_1, nf_2, nf_3, nf2_0, nf2_1, b2i_0, b2i_1, RI_b2i, b2i_fit, List.append, List.length, List.replicate, List.cons_append, List.nil_append, List.length_cons, List.length_nil, List.replicate_succ, List.replicate_zero, List.tail_cons, reduceIte, if_true, if_false, ite_true, ite_false, Bool.false_eq_true, true_and, and_true, and_self, false_and, and_false, or_self, or_true, true_or, or_false, false_or, not_true_eq_false, not_false_eq_true, ne_eq, forall_const, implies_true, imp_self, true_implies, false_implies, Nat.reduceAdd, Nat.reduceSub, Nat.reduceMul, Nat.reduceDiv, Nat.reduceMod, Nat.reduceEqDiff, Nat.reduceLT, Nat.reduceLeDiff, Nat.reduceBEq, Nat.add_zero, Nat.zero_add, Nat.le_refl, Nat.not_lt_zero, Nat.succ_eq_add_one, Int.reduceNatCast, Int.cast_ofNat_Int, Int.reduceSub, Int.reduceMul, Int.reduceNeg, Int.reduceLE, Int.reduceLT, Int.reduceToNat, Int.reduceEq, Int.reduceNe, Int.reduceAdd, Option.some.injEq, kX7_leads, rmX7_leads, ↓ofX7_12, ↓ofX7_147, ↓ofX7_21, ↓ofX7_35, ↓ofX7_41, ↓ofX7_50, ↓ofX7_53, ↓ofX7_76, ↓ofX7_87, ↓ocX7_leads_59, ↓spJ7_fill_53178, ↓ocX7_leads_114, ↓ocX7_leads_140, ↓ocX7_leads_143, ↓spX3_timeAt, e5, er, er2, hp, hg, hgr, hgr2, hst, G_1, G_2, G_3, G_4, G_35, G_36, G_37, G_38, G_39, G_40, G_41, G_42, G_43, G_44, G_45, G_46, G_47, G_48, G_49, G_140, G_141, G_142, G_143, G_144, G_145, G_146, G_178, G_179, G_180, G_181, G_182, G_183, G_184, G_189, G_198, G_207, PF_1_0, PF_1_1, PF_1_2, PF_1_3, PF_2_0, PF_2_1, PF_2_3, PF_2_4, PF_2_5, PF_2_6, PF_2_7, PF_2_8, PF_2_9, PF_2_10, PF_2_11, PF_3_0, PF_35_0, PF_35_1, PF_35_2, PF_35_3, PF_40_0, PF_40_1, PF_40_2, PF_44_0, PF_44_1, PF_44_2, PF_145_0, PF_145_1, PF_179_0, PF_179_1, PF_179_2, PF_179_3, PF_179_8, PF_179_9, PF_179_10]
      exact ⟨by omega, by omega, fin, fun w => by omega⟩
    · have ih := lpX7_d1 (U := U) i0 i1 f0 f1 l0 l1 ht hl hR hR2 p0 p1 hm0 hmost h m (q + 1)
      have hrq := hR q q0 (by omega)
      have hrp := hR2 p p0 p1
      have htm := fun c => tm_rng ht i c q (by omega) i1 q0
      have ht0 := htm 0
      have ht1 := htm 1
      have yes : ∀ c, dif f l = c → q ≤ most → ¬ ¬ tmv (I (5 + i) 1) c q + I (50 + (3 * i + l)) q = I (50 + (3 * (i - 1) + f)) p → Ok RX7 cX7_leads 10 rmX7_leads false none post U (104, [some (.inr (.inr (some 2))), some (.inl i), some (.inl f), some (.inl l), some (.inr (.inr (some (50 + (3 * i + l))))), some (.inr (.inr (some (50 + (3 * (i - 1) + f))))), some (.inl 1), some (.inl p), some (.inl most), some (.inl (q + 1))], [], (N, PF, upI I1 143 q 1, L), 0, 0) := fun c e w y => by
        subst e
        have hm2 := (hmost q q0).mp w
        refine ih _ _ (by omega) (by omega) (by omega) (fun b k hb => by rw [upI_ne hb]; exact h1 b k hb) (fun z z0 z1 => ?_) (fun z z0 z1 => by rw [upI_nj (by omega)]; exact h3 z (by omega) z1) (fun z => ?_) (mrk_up h5 q0 (by omega))
        · by_cases e : z = q
          · subst e; rw [upI_same]; exact ⟨fun _ => .inr ⟨hm2.1, q1, hm2.2.1, hm2.2.2, by omega⟩, fun _ => by omega⟩
          · rw [upI_nj e]; exact h2 z z0 (by omega)
        · by_cases e : z = q
          · subst e; rw [upI_same]; exact .inr (.inl rfl)
          · rw [upI_nj e]; exact h4 z
      have no : ∀ c, dif f l = c → q ≤ most → ¬ tmv (I (5 + i) 1) c q + I (50 + (3 * i + l)) q = I (50 + (3 * (i - 1) + f)) p → Ok RX7 cX7_leads 10 rmX7_leads false none post U (104, [some (.inr (.inr (some 2))), some (.inl i), some (.inl f), some (.inl l), some (.inr (.inr (some (50 + (3 * i + l))))), some (.inr (.inr (some (50 + (3 * (i - 1) + f))))), some (.inl r), some (.inl p), some (.inl most), some (.inl (q + 1))], [], (N, PF, I1, L), 0, 0) := fun c e w y => by
        subst e
        refine ih _ _ (by omega) (by omega) (by omega) h1 (fun z z0 z1 => ?_) (fun z z0 z1 => h3 z (by omega) z1) h4 h5
        by_cases e : z = q
        · subst e; rw [h3 z (by omega) (by omega)]
          exact ⟨.inl, fun y2 => y2.elim id (fun y2 => (y y2.2.2.2.2).elim)⟩
        · exact h2 z z0 (by omega)
      refine Ok.seg mdX7_leads [40, 104] 60 ?_
      simp only [wp_nil, wp_cons, ↓stp, ↓lI, ↓lL, ↓lR, ↓lIn_0, ↓lIn_1, ↓lIn_2, ↓lIn_3, ↓lLn_0, ↓lLn_1, ↓lLn_2, ↓lLn_3, ↓lRn_0, ↓lRn_1, ↓lRn_2, ↓lRn_3, ↓pI, ↓pL, ↓pR, ↓pA, ↓pN, ↓pV, ↓fp, ↓tsw, ↓oS, ↓spMax, ↓spMin, ↓spAbs, ↓spObj, RI, RLg, b2i_lo, b2i_hi, getL, setL, ltL, killL, isLong, inl, cnd, br, tgt, rcv, rpl, mputI, mputL, mputP, fv, fr, mcat, mcs, entL, entA, rfit, nf_0, nf_1, nf_2, nf_3, nf2_0, nf2_1, b2i_0, b2i_1, RI_b2i, b2i_fit, List.append, List.length, List.replicate, List.cons_append, List.nil_append, List.length_cons, List.length_nil, List.replicate_succ, List.replicate_zero, List.tail_cons, reduceIte, if_true, if_false, ite_true, ite_false, Bool.false_eq_true, true_and, and_true, and_self, false_and, and_false, or_self, or_true, true_or, or_false, false_or, not_true_eq_false, not_false_eq_true, ne_eq, forall_const, implies_true, imp_self, true_implies, false_implies, Nat.reduceAdd, Nat.reduceSub, Nat.reduceMul, Nat.reduceDiv, Nat.reduceMod, Nat.reduceEqDiff, Nat.reduceLT, Nat.reduceLeDiff, Nat.reduceBEq, Nat.add_zero, Nat.zero_add, Nat.le_refl, Nat.not_lt_zero, Nat.succ_eq_add_one, Int.reduceNatCast, Int.cast_ofNat_Int, Int.reduceSub, Int.reduceMul, Int.reduceNeg, Int.reduceLE, Int.reduceLT, Int.reduceToNat, Int.reduceEq, Int.reduceNe, Int.reduceAdd, Option.some.injEq, kX7_leads, rmX7_leads, ↓ofX7_12, ↓ofX7_147, ↓ofX7_21, ↓ofX7_35, ↓ofX7_41, ↓ofX7_50, ↓ofX7_53, ↓ofX7_76, ↓ofX7_87, ↓ocX7_leads_59, ↓spJ7_fill_53178, ↓ocX7_leads_114, ↓ocX7_leads_140, ↓ocX7_leads_143, ↓spX3_timeAt, e5, er, er2, hp, hg, hgr, hgr2, hst, G_1, G_2, G_3, G_4, G_35, G_36, G_37, G_38, G_39, G_40, G_41, G_42, G_43, G_44, G_45, G_46, G_47, G_48, G_49, G_140, G_141, G_142, G_143, G_144, G_145, G_146, G_178, G_179, G_180, G_181, G_182, G_183, G_184, G_189, G_198, G_207, PF_1_0, PF_1_1, PF_1_2, PF_1_3, PF_2_0, PF_2_1, PF_2_3, PF_2_4, PF_2_5, PF_2_6, PF_2_7, PF_2_8, PF_2_9, PF_2_10, PF_2_11, PF_3_0, PF_35_0, PF_35_1, PF_35_2, PF_35_3, PF_40_0, PF_40_1, PF_40_2, PF_44_0, PF_44_1, PF_44_2, PF_145_0, PF_145_1, PF_179_0, PF_179_1, PF_179_2, PF_179_3, PF_179_8, PF_179_9, PF_179_10]
      refine ⟨by omega, by omega, fin, fun w => ⟨by omega, by omega, by omega, by omega, ?_⟩⟩
      repeat' (first | apply And.intro | intro _)
      all_goals first | omega | exact no 0 (if_pos (by assumption)) (by omega) (by assumption) | exact yes 0 (if_pos (by assumption)) (by omega) (by assumption) | exact no 1 (if_neg (by assumption)) (by omega) (by assumption) | exact yes 1 (if_neg (by assumption)) (by omega) (by assumption)
set_option maxHeartbeats 1600000 in
set_option maxRecDepth 100000 in
theorem lpX7_d2 {post : Option MV → MS → Prop} {U : Pt → Prop} {N : Nat} {I L : Int → Int → Int} {i f l : Int} (i0 : 1 ≤ i) (i1 : i < I 3 1) (f0 : 0 ≤ f) (f1 : f ≤ 2) (l0 : 0 ≤ l) (l1 : l ≤ 2) (ht : tOK I) (hc : carOK I) (hl : limR I) (hR : rowR I i l) (hR2 : rowR I (i - 1) f) (hhere : ∀ p, 1 ≤ p → p ≤ 60 → RI (I 142 p))
    (h : ∀ (I' : Int → Int → Int) (r : Int), (∀ b k, b ≠ 143 → I' b k = I b k) → (∀ z, 1 ≤ z → z ≤ 60 → (0 < I' 143 z ↔ ∃ p, 1 ≤ p ∧ p ≤ 60 ∧ leaP I i f l p z)) → (∀ p, I' 143 p = 0 ∨ I' 143 p = 1 ∨ I' 143 p = I 143 p) → mrk (I' 143) r → post (some (.inl r)) (N, PF, I', L)) :
    ∀ (m : Nat) (p : Int) (I1 : Int → Int → Int) (r : Int) (t1 t2 : Option MV), p + m = 61 → 1 ≤ p → (∀ b k, b ≠ 143 → I1 b k = I b k) → (∀ z, 1 ≤ z → z ≤ 60 → (0 < I1 143 z ↔ ∃ p', 1 ≤ p' ∧ p' < p ∧ leaP I i f l p' z)) → (∀ p, I1 143 p = 0 ∨ I1 143 p = 1 ∨ I1 143 p = I 143 p) → mrk (I1 143) r →
    Ok RX7 cX7_leads 10 rmX7_leads false none post U (40, [some (.inr (.inr (some 2))), some (.inl i), some (.inl f), some (.inl l), some (.inr (.inr (some (50 + (3 * i + l))))), some (.inr (.inr (some (50 + (3 * (i - 1) + f))))), some (.inl r), some (.inl p), t1, t2], [], (N, PF, I1, L), 0, 0)
  | 0, p, I1, r, t1, t2, hm, p0, h1, h2, h4, h5 => by
    refine Ok.seg mdX7_leads [40, 104] 60 ?_
    simp only [wp_nil, wp_cons, ↓stp, ↓lI, ↓lL, ↓lR, ↓lIn_0, ↓lIn_1, ↓lIn_2, ↓lIn_3, ↓lLn_0, ↓lLn_1, ↓lLn_2, ↓lLn_3, ↓lRn_0, ↓lRn_1, ↓lRn_2, ↓lRn_3, ↓pI, ↓pL, ↓pR, ↓pA, ↓pN, ↓pV, ↓fp, ↓tsw, ↓oS, ↓spMax, ↓spMin, ↓spAbs, ↓spObj, RI, RLg, b2i_lo, b2i_hi, getL, setL, ltL, killL, isLong, inl, cnd, br, tgt, rcv, rpl, mputI, mputL, mputP, fv, fr, mcat, mcs, entL, entA, rfit, nf_0, nf_1, nf_2, nf_3, nf2_0, nf2_1, b2i_0, b2i_1, RI_b2i, b2i_fit, List.append, List.length, List.replicate, List.cons_append, List.nil_append, List.length_cons, List.length_nil, List.replicate_succ, List.replicate_zero, List.tail_cons, reduceIte, if_true, if_false, ite_true, ite_false, Bool.false_eq_true, true_and, and_true, and_self, false_and, and_false, or_self, or_true, true_or, or_false, false_or, not_true_eq_false, not_false_eq_true, ne_eq, forall_const, implies_true, imp_self, true_implies, false_implies, Nat.reduceAdd, Nat.reduceSub, Nat.reduceMul, Nat.reduceDiv, Nat.reduceMod, Nat.reduceEqDiff, Nat.reduceLT, Nat.reduceLeDiff, Nat.reduceBEq, Nat.add_zero, Nat.zero_add, Nat.le_refl, Nat.not_lt_zero, Nat.succ_eq_add_one, Int.reduceNatCast, Int.cast_ofNat_Int, Int.reduceSub, Int.reduceMul, Int.reduceNeg, Int.reduceLE, Int.reduceLT, Int.reduceToNat, Int.reduceEq, Int.reduceNe, Int.reduceAdd, Option.some.injEq, kX7_leads, rmX7_leads, ↓ofX7_12, ↓ofX7_147, ↓ofX7_21, ↓ofX7_35, ↓ofX7_41, ↓ofX7_50, ↓ofX7_53, ↓ofX7_76, ↓ofX7_87, ↓ocX7_leads_59, ↓spJ7_fill_53178, ↓ocX7_leads_114, ↓ocX7_leads_140, ↓ocX7_leads_143, ↓spX3_timeAt, G_1, G_2, G_3, G_4, G_35, G_36, G_37, G_38, G_39, G_40, G_41, G_42, G_43, G_44, G_45, G_46, G_47, G_48, G_49, G_140, G_141, G_142, G_143, G_144, G_145, G_146, G_178, G_179, G_180, G_181, G_182, G_183, G_184, G_189, G_198, G_207, PF_1_0, PF_1_1, PF_1_2, PF_1_3, PF_2_0, PF_2_1, PF_2_3, PF_2_4, PF_2_5, PF_2_6, PF_2_7, PF_2_8, PF_2_9, PF_2_10, PF_2_11, PF_3_0, PF_35_0, PF_35_1, PF_35_2, PF_35_3, PF_40_0, PF_40_1, PF_40_2, PF_44_0, PF_44_1, PF_44_2, PF_145_0, PF_145_1, PF_179_0, PF_179_1, PF_179_2, PF_179_3, PF_179_8, PF_179_9, PF_179_10]
    refine ⟨by omega, fun _ => h I1 r h1 (fun z z0 z1 => (h2 z z0 z1).trans ?_) h4 h5, fun q => by omega⟩
    exact ⟨fun ⟨p', a, b, c⟩ => ⟨p', a, by omega, c⟩, fun ⟨p', a, b, c⟩ => ⟨p', a, by omega, c⟩⟩
  | m + 1, p, I1, r, t1, t2, hm, p0, h1, h2, h4, h5 => by
    have ih := lpX7_d2 (U := U) i0 i1 f0 f1 l0 l1 ht hc hl hR hR2 hhere h m (p + 1)
    have e36 : I1 36 = I 36 := funext fun k => h1 _ k (by omega)
    have e37 : I1 37 = I 37 := funext fun k => h1 _ k (by omega)
    have e48 : I1 48 = I 48 := funext fun k => h1 _ k (by omega)
    have e142 : I1 142 = I 142 := funext fun k => h1 _ k (by omega)
    have hlx := hl i l (by omega) (by omega) l0 l1
    have hnn := hc.2
    unfold nOK at hnn
    have ht2 := ht.2.1
    have hh := hhere p p0 (by omega)
    unfold RI at hh
    have hr := rch_rng hc.1.1 (show p ≤ 60 by omega)
    rw [← hc.1.2 p p0 (by omega)] at hr
    have hs : ∀ b k, b < 40 → I1 b k = I b k := fun b k hb => h1 b k (by omega)
    have ek : ∀ p z, leaP I1 i f l p z ↔ leaP I i f l p z := fun p z => by
      unfold leaP
      rw [e142, e36, e37, e48, h1 (5 + i) 1 (by omega), h1 (50 + (3 * i + l)) z (by omega), h1 (50 + (3 * (i - 1) + f)) p (by omega)]
    have go : ∀ most q, 0 ≤ most ∧ most ≤ 60 → 1 ≤ q → p - I 36 1 ≤ q → (q = 1 ∨ q = p - I 36 1) → (∀ z, 1 ≤ z → (z ≤ most ↔ 0 < I 142 p ∧ z ≤ I 37 p ∧ z ≤ I 48 (3 * i + l))) → Ok RX7 cX7_leads 10 rmX7_leads false none post U (104, [some (.inr (.inr (some 2))), some (.inl i), some (.inl f), some (.inl l), some (.inr (.inr (some (50 + (3 * i + l))))), some (.inr (.inr (some (50 + (3 * (i - 1) + f))))), some (.inl r), some (.inl p), some (.inl most), some (.inl q)], [], (N, PF, I1, L), 0, 0) := fun most q a b c d e => by
      refine lpX7_d1 (I := I1) i0 (by rw [hs 3 1 (by omega)]; exact i1) f0 f1 l0 l1 (tOK_cg hs ht) (fun i l a b c d => by rw [hs 3 1 (by omega)] at b; rw [e48]; exact hl i l a b c d) (fun z a b => by rw [h1 _ _ (by omega)]; exact hR z a b) (fun z a b => by rw [h1 _ _ (by omega)]; exact hR2 z a b) p0 (by omega) a (by rw [e142, e37, e48]; exact e) (fun I2 r2 t k1 k2 k3 k4 => ?_) (61 - q).toNat q I1 r (by omega) b (by rw [e36]; exact c) (fun _ _ _ => rfl) (fun z z0 z1 => ?_) (fun _ _ _ => rfl) (fun _ => .inr (.inr rfl)) h5
      · refine ih I2 r2 _ t (by omega) (by omega) (fun b k hb => (k1 b k hb).trans (h1 b k hb)) (fun z z0 z1 => ?_) (fun z => ?_) k4
        · rw [k2 z z0 z1, h2 z z0 z1, ek]
          constructor
          · rintro (⟨p', a, b, c⟩ | c)
            · exact ⟨p', a, by omega, c⟩
            · exact ⟨p, p0, by omega, c⟩
          · rintro ⟨p', a, b, c⟩
            by_cases e : p' = p
            · exact .inr (e ▸ c)
            · exact .inl ⟨p', a, by omega, c⟩
        · rcases k3 z with y | y | y
          · exact .inl y
          · exact .inr (.inl y)
          · rw [y]; exact h4 z
      · refine ⟨.inl, fun y => y.elim id (fun y => ?_)⟩
        have := y.2.1
        rw [e36] at this
        omega
    refine Ok.seg mdX7_leads [40, 104] 60 ?_
    simp only [wp_nil, wp_cons, ↓stp, ↓lI, ↓lL, ↓lR, ↓lIn_0, ↓lIn_1, ↓lIn_2, ↓lIn_3, ↓lLn_0, ↓lLn_1, ↓lLn_2, ↓lLn_3, ↓lRn_0, ↓lRn_1, ↓lRn_2, ↓lRn_3, ↓pI, ↓pL, ↓pR, ↓pA, ↓pN, ↓pV, ↓fp, ↓tsw, ↓oS, ↓spMax, ↓spMin, ↓spAbs, ↓spObj, RI, RLg, b2i_lo, b2i_hi, getL, setL, ltL, killL, isLong, inl, cnd, br, tgt, rcv, rpl, mputI, mputL, mputP, fv, fr, mcat, mcs, entL, entA, rfit, nf_0, nf_1, nf_2, nf_3, nf2_0, nf2_1, b2i_0, b2i_1, RI_b2i, b2i_fit, List.append, List.length, List.replicate, List.cons_append, List.nil_append, List.length_cons, List.length_nil, List.replicate_succ, List.replicate_zero, List.tail_cons, reduceIte, if_true, if_false, ite_true, ite_false, Bool.false_eq_true, true_and, and_true, and_self, false_and, and_false, or_self, or_true, true_or, or_false, false_or, not_true_eq_false, not_false_eq_true, ne_eq, forall_const, implies_true, imp_self, true_implies, false_implies, Nat.reduceAdd, Nat.reduceSub, Nat.reduceMul, Nat.reduceDiv, Nat.reduceMod, Nat.reduceEqDiff, Nat.reduceLT, Nat.reduceLeDiff, Nat.reduceBEq, Nat.add_zero, Nat.zero_add, Nat.le_refl, Nat.not_lt_zero, Nat.succ_eq_add_one, Int.reduceNatCast, Int.cast_ofNat_Int, Int.reduceSub, Int.reduceMul, Int.reduceNeg, Int.reduceLE, Int.reduceLT, Int.reduceToNat, Int.reduceEq, Int.reduceNe, Int.reduceAdd, Option.some.injEq, kX7_leads, rmX7_leads, ↓ofX7_12, ↓ofX7_147, ↓ofX7_21, ↓ofX7_35, ↓ofX7_41, ↓ofX7_50, ↓ofX7_53, ↓ofX7_76, ↓ofX7_87, ↓ocX7_leads_59, ↓spJ7_fill_53178, ↓ocX7_leads_114, ↓ocX7_leads_140, ↓ocX7_leads_143, ↓spX3_timeAt, e36, e37, e48, e142, G_1, G_2, G_3, G_4, G_35, G_36, G_37, G_38, G_39, G_40, G_41, G_42, G_43, G_44, G_45, G_46, G_47, G_48, G_49, G_140, G_141, G_142, G_143, G_144, G_145, G_146, G_178, G_179, G_180, G_181, G_182, G_183, G_184, G_189, G_198, G_207, PF_1_0, PF_1_1, PF_1_2, PF_1_3, PF_2_0, PF_2_1, PF_2_3, PF_2_4, PF_2_5, PF_2_6, PF_2_7, PF_2_8, PF_2_9, PF_2_10, PF_2_11, PF_3_0, PF_35_0, PF_35_1, PF_35_2, PF_35_3, PF_40_0, PF_40_1, PF_40_2, PF_44_0, PF_44_1, PF_44_2, PF_145_0, PF_145_1, PF_179_0, PF_179_1, PF_179_2, PF_179_3, PF_179_8, PF_179_9, PF_179_10]
    refine ⟨by omega, fun q => by omega, fun q => ⟨by omega, by omega, by omega, fun q2 => ⟨by omega, fun z z0 z1 z2 => go 0 z (by omega) z0 z1 z2 (fun y y0 => by omega)⟩, fun q2 => ⟨by omega, by omega, by omega, by omega, by omega, by omega, fun z z0 z1 z2 => ⟨by omega, fun y y0 y1 y2 => go z y (by omega) y0 y1 y2 (fun x x0 => by omega)⟩⟩⟩⟩
set_option maxRecDepth 100000 in
set_option maxHeartbeats 800000 in
theorem mX7_leads : MOK yX7_leads cX7_leads 10 (some .boolean) rmX7_leads ciX7_leads := by
  refine mok_of (ini := false) (by decide +kernel) (by decide) rfl rfl ?_
  intro σ As K hrc hl h
  obtain ⟨N, P, I, L⟩ := σ
  have h9 := pR_iff.mp h
  clear h
  obtain ⟨s, r, e9, h⟩ := h9
  subst e9
  have h9 := pI_iff.mp h
  clear h
  obtain ⟨i, r, e9, h⟩ := h9
  subst e9
  have h9 := pI_iff.mp h
  clear h
  obtain ⟨f, r, e9, h⟩ := h9
  subst e9
  have h9 := pI_iff.mp h
  clear h
  obtain ⟨l, r, e9, h⟩ := h9
  subst e9
  have h9 := pN_iff.mp h
  clear h
  obtain ⟨e9, h⟩ := h9
  subst e9
  dsimp only at h
  obtain ⟨rfl, rfl, i0, i1, f0, f1, l0, l1, ht, hc, hl, hR, hR2, hh, h⟩ := h
  have ht2 := ht.2.1
  have hne : ∀ b k, b ≠ 143 → filI I 143 0 61 b k = I b k := fun b k hb => if_neg (fun z => hb z.1)
  have hz : ∀ z, 1 ≤ z → z ≤ 60 → filI I 143 0 61 143 z = 0 := fun z z0 z1 => if_pos ⟨rfl, by omega, by omega⟩
  have hs : rsame I (filI I 143 0 61) := ⟨fun b k hb => hne b k (by omega), fun k => hne _ k (by omega)⟩
  have hp := PF_rest (i := 3 * i + l) (by omega) (by omega)
  have hp2 := PF_rest (i := 3 * (i - 1) + f) (by omega) (by omega)
  have e31 : filI I 143 0 61 3 1 = I 3 1 := hne _ _ (by omega)
  refine ⟨Nat.le_of_ble_eq_true rfl, Ok.seg mdX7_leads [40] 40 ?_⟩
  simp only [wp_nil, wp_cons, ↓stp, ↓lI, ↓lL, ↓lR, ↓lIn_0, ↓lIn_1, ↓lIn_2, ↓lIn_3, ↓lLn_0, ↓lLn_1, ↓lLn_2, ↓lLn_3, ↓lRn_0, ↓lRn_1, ↓lRn_2, ↓lRn_3, ↓pI, ↓pL, ↓pR, ↓pA, ↓pN, ↓pV, ↓fp, ↓tsw, ↓oS, ↓spMax, ↓spMin, ↓spAbs, ↓spObj, RI, RLg, b2i_lo, b2i_hi, getL, setL, ltL, killL, isLong, inl, cnd, br, tgt, rcv, rpl, mputI, mputL, mputP, fv, fr, mcat, mcs, entL, entA, rfit, nf_0, nf_1, nf_2, nf_3, nf2_0, nf2_1, b2i_0, b2i_1, RI_b2i, b2i_fit, List.append, List.length, List.replicate, List.cons_append, List.nil_append, List.length_cons, List.length_nil, List.replicate_succ, List.replicate_zero, List.tail_cons, reduceIte, if_true, if_false, ite_true, ite_false, Bool.false_eq_true, true_and, and_true, and_self, false_and, and_false, or_self, or_true, true_or, or_false, false_or, not_true_eq_false, not_false_eq_true, ne_eq, forall_const, implies_true, imp_self, true_implies, false_implies, Nat.reduceAdd, Nat.reduceSub, Nat.reduceMul, Nat.reduceDiv, Nat.reduceMod, Nat.reduceEqDiff, Nat.reduceLT, Nat.reduceLeDiff, Nat.reduceBEq, Nat.add_zero, Nat.zero_add, Nat.le_refl, Nat.not_lt_zero, Nat.succ_eq_add_one, Int.reduceNatCast, Int.cast_ofNat_Int, Int.reduceSub, Int.reduceMul, Int.reduceNeg, Int.reduceLE, Int.reduceLT, Int.reduceToNat, Int.reduceEq, Int.reduceNe, Int.reduceAdd, Option.some.injEq, kX7_leads, rmX7_leads, ↓ofX7_12, ↓ofX7_147, ↓ofX7_21, ↓ofX7_35, ↓ofX7_41, ↓ofX7_50, ↓ofX7_53, ↓ofX7_76, ↓ofX7_87, ↓ocX7_leads_59, ↓spJ7_fill_53178, ↓ocX7_leads_114, ↓ocX7_leads_140, ↓ocX7_leads_143, ↓spX3_timeAt, hp, hp2, G_1, G_2, G_3, G_4, G_35, G_36, G_37, G_38, G_39, G_40, G_41, G_42, G_43, G_44, G_45, G_46, G_47, G_48, G_49, G_140, G_141, G_142, G_143, G_144, G_145, G_146, G_178, G_179, G_180, G_181, G_182, G_183, G_184, G_189, G_198, G_207, PF_1_0, PF_1_1, PF_1_2, PF_1_3, PF_2_0, PF_2_1, PF_2_3, PF_2_4, PF_2_5, PF_2_6, PF_2_7, PF_2_8, PF_2_9, PF_2_10, PF_2_11, PF_3_0, PF_35_0, PF_35_1, PF_35_2, PF_35_3, PF_40_0, PF_40_1, PF_40_2, PF_44_0, PF_44_1, PF_44_2, PF_145_0, PF_145_1, PF_179_0, PF_179_1, PF_179_2, PF_179_3, PF_179_8, PF_179_9, PF_179_10]
  refine ⟨by omega, by omega, by omega, by omega, ?_⟩
  have e : ∀ b k, b ≠ 143 → filI I 143 0 61 b k = I b k := hne
  have h2e : ∀ z, (∃ p, 1 ≤ p ∧ p ≤ 60 ∧ leaP (filI I 143 0 61) i f l p z) ↔ ∃ p, 1 ≤ p ∧ p ≤ 60 ∧ leaP I i f l p z := fun z => by
    unfold leaP
    constructor
    · rintro ⟨p', a, b, c⟩
      rw [e 142 _ (by omega), e 36 _ (by omega), e 37 _ (by omega), e 48 _ (by omega), e (5 + i) _ (by omega), e (50 + (3 * i + l)) _ (by omega), e (50 + (3 * (i - 1) + f)) _ (by omega)] at c
      exact ⟨p', a, b, c⟩
    · rintro ⟨p', a, b, c⟩
      refine ⟨p', a, b, ?_⟩
      rw [e 142 _ (by omega), e 36 _ (by omega), e 37 _ (by omega), e 48 _ (by omega), e (5 + i) _ (by omega), e (50 + (3 * i + l)) _ (by omega), e (50 + (3 * (i - 1) + f)) _ (by omega)]
      exact c
  have h4e : ∀ (M : Int → Int) (p : Int), 1 ≤ p → p ≤ 60 → (M p = 0 ∨ M p = 1 ∨ M p = filI I 143 0 61 143 p) → M p = 0 ∨ M p = 1 := fun M p p0 p1 q => by
    rcases q with q | q | q
    · exact .inl q
    · exact .inr q
    · rw [q]; exact .inl (hz p p0 p1)
  refine lpX7_d2 i0 (by rw [e31]; exact i1) f0 f1 l0 l1 (tOK_cg hs.1 ht) (carOK_cg hs.1 hc) (fun i l a b c d => by rw [e31] at b; rw [hs.2]; exact hl i l a b c d) (fun p a b => by rw [hne _ _ (by omega)]; exact hR p a b) (fun p a b => by rw [hne _ _ (by omega)]; exact hR2 p a b) (fun p a b => by rw [hne _ _ (by omega)]; exact hh p a b) (fun I' r h1 h2 h4 h5 => ⟨h5.1, h I' r (fun b k hb => (h1 b k hb).trans (hne b k hb)) (fun p p0 p1 => (h2 p p0 p1).trans (h2e p)) (fun p p0 p1 => h4e _ p p0 p1 (h4 p)) h5⟩) 60 1 _ 0 _ _ (by omega) (by omega) (fun _ _ _ => rfl) (fun z z0 z1 => ?_) (fun p => .inr (.inr rfl)) ⟨.inl rfl, ⟨fun q => by omega, fun ⟨z, z0, z1, z2⟩ => by rw [hz z z0 z1] at z2; omega⟩⟩
  rw [hz z z0 z1]
  exact ⟨fun q => by omega, fun ⟨p', a, b, c⟩ => by omega⟩
end
section
/-! the best way's lanes -/
def PreE (I : Int → Int → Int) (g bk st : Int) (ln : Int → Int) : Nat → Int → Int → Prop
  | 0, p, a => (1 ≤ p ∧ p ≤ st ∧ p ≤ lmv I g 0 (ln 0)) ∧ a = tmv (I 5 1) 0 p
  | i + 1, q, a => ∃ p a', PreE I g bk st ln i p a' ∧ (1 ≤ q ∧ p - bk ≤ q ∧ q ≤ rch (I 38) (I 39) p ∧ q ≤ lmv I g (i + 1) (ln (i + 1))) ∧ a = a' + tmv (I (5 + ((i : Int) + 1)) 1) (dif (ln i) (ln (i + 1))) q
/-- at station i pace p may be driven on a best way that goes on the lanes ln up to i -/
def HsE (I : Int → Int → Int) (g bk st B : Int) (ln : Int → Int) (i : Nat) (p : Int) : Prop := ∃ a t, PreE I g bk st ln i p a ∧ AchE I g bk (kk I i) i (ln i) p t ∧ a + t = B
def updL (ln : Int → Int) (i l : Int) : Int → Int := fun j => if j = i then l else ln j
def lexC (I : Int → Int → Int) (g bk st B : Int) (ln : Int → Int) (i : Nat) : Prop := (0 ≤ ln i ∧ ln i ≤ 2) ∧ (0 < i → nr (ln (i - 1)) (ln i)) ∧ (∃ p, HsE I g bk st B ln i p) ∧ ∀ l', 0 ≤ l' → l' < ln i → (0 < i → nr (ln (i - 1)) l') → ¬ ∃ p, HsE I g bk st B (updL ln i l') i p
/-- ln is the least row of lanes on which a best lap goes -/
def LexB (I : Int → Int → Int) (g bk st B : Int) (ln : Int → Int) : Prop := ∀ i : Nat, (i : Int) < I 3 1 → lexC I g bk st B ln i
theorem PreE_cg {I : Int → Int → Int} {g bk st : Int} {ln ln' : Int → Int} : ∀ (i : Nat) (p a : Int), (∀ j : Int, 0 ≤ j → j ≤ i → ln j = ln' j) → (PreE I g bk st ln i p a ↔ PreE I g bk st ln' i p a)
  | 0, p, a, h => by unfold PreE; rw [h 0 (by omega) (by omega)]
  | i + 1, p, a, h => by
    unfold PreE
    rw [h (i + 1) (by omega) (by omega), h i (by omega) (by omega)]
    have e := fun p a => PreE_cg (I := I) (g := g) (bk := bk) (st := st) (ln := ln) (ln' := ln') i p a (fun j j0 j1 => h j j0 (by omega))
    constructor
    · rintro ⟨p', a', x, y⟩; exact ⟨p', a', (e p' a').mp x, y⟩
    · rintro ⟨p', a', x, y⟩; exact ⟨p', a', (e p' a').mpr x, y⟩
theorem HsE_cg {I : Int → Int → Int} {g bk st B : Int} {ln ln' : Int → Int} (i : Nat) (p : Int) (h : ∀ j : Int, 0 ≤ j → j ≤ i → ln j = ln' j) : HsE I g bk st B ln i p ↔ HsE I g bk st B ln' i p := by
  unfold HsE
  rw [h i (by omega) (by omega)]
  constructor
  · rintro ⟨a, t, x, y⟩; exact ⟨a, t, (PreE_cg i p a h).mp x, y⟩
  · rintro ⟨a, t, x, y⟩; exact ⟨a, t, (PreE_cg i p a h).mpr x, y⟩
theorem lexC_cg {I : Int → Int → Int} {g bk st B : Int} {ln ln' : Int → Int} (i : Nat) (h : ∀ j : Int, 0 ≤ j → j ≤ i → ln j = ln' j) (hc : lexC I g bk st B ln i) : lexC I g bk st B ln' i := by
  obtain ⟨a, b, ⟨p, c⟩, d⟩ := hc
  have e := h i (by omega) (by omega)
  refine ⟨by rw [← e]; exact a, fun q => ?_, ⟨p, (HsE_cg i p h).mp c⟩, fun l' l0 l1 l2 => ?_⟩
  · rw [← e, ← h (i - 1) (by omega) (by omega)]; exact b q
  · rintro ⟨p, x⟩
    refine d l' l0 (by rw [e]; exact l1) (fun q => by rw [h (i - 1) (by omega) (by omega)]; exact l2 q) ⟨p, (HsE_cg i p (fun j j0 j1 => ?_)).mpr x⟩
    unfold updL
    split
    · rfl
    · exact h j j0 j1
/-- there is but one -/
theorem LexB.uniq {I : Int → Int → Int} {g bk st B : Int} {ln ln' : Int → Int} (h : LexB I g bk st B ln) (h' : LexB I g bk st B ln') : ∀ (m : Nat) (j : Int), 0 ≤ j → j < m → j < I 3 1 → ln j = ln' j
  | 0, j, j0, j1, j2 => by omega
  | m + 1, j, j0, j1, j2 => by
    by_cases e : j < m
    · exact LexB.uniq h h' m j j0 e j2
    · have e : j = m := by omega
      subst e
      have ih := fun j a b => LexB.uniq h h' m j a b (by omega)
      obtain ⟨a, b, ⟨p, c⟩, d⟩ := h m j2
      obtain ⟨a', b', ⟨p', c'⟩, d'⟩ := h' m j2
      rcases Int.lt_trichotomy (ln m) (ln' m) with q | q | q
      · refine (d' (ln m) a.1 q (fun z => ?_) ⟨p, (HsE_cg m p (fun j x y => ?_)).mp c⟩).elim
        · rw [← ih (m - 1) (by omega) (by omega)]; exact b z
        · unfold updL
          split
          · rename_i e; rw [e]
          · exact ih j x (by omega)
      · exact q
      · refine (d (ln' m) a'.1 q (fun z => ?_) ⟨p', (HsE_cg m p' (fun j x y => ?_)).mp c'⟩).elim
        · rw [ih (m - 1) (by omega) (by omega)]; exact b' z
        · unfold updL
          split
          · rename_i e; rw [e]
          · exact (ih j x (by omega)).symm
theorem PreE_p {I : Int → Int → Int} {g bk st : Int} {ln : Int → Int} : ∀ {i : Nat} {p a : Int}, PreE I g bk st ln i p a → 1 ≤ p ∧ p ≤ 60
  | 0, p, a, h => by
    obtain ⟨⟨x, y, z⟩, w⟩ := h
    unfold lmv at z
    have := lim_rng (I (5 + 0) 0) (I (5 + 0) 2) (I (5 + 0) 3) (ln 0) g
    exact ⟨x, by omega⟩
  | i + 1, p, a, h => by
    obtain ⟨p', a', h1, ⟨x, y, z, u⟩, w⟩ := h
    unfold lmv at u
    have := lim_rng (I (5 + ((i : Int) + 1)) 0) (I (5 + ((i : Int) + 1)) 2) (I (5 + ((i : Int) + 1)) 3) (ln ((i : Int) + 1)) g
    exact ⟨x, by omega⟩
theorem PreE_0 {I : Int → Int → Int} {g bk st : Int} {ln : Int → Int} (ht : tOK I) : ∀ {i : Nat} {p a : Int}, (i : Int) < I 3 1 → PreE I g bk st ln i p a → 0 ≤ a
  | 0, p, a, hi, h => by
    obtain ⟨⟨x, y, z⟩, w⟩ := h
    have := (tm_rng ht 0 0 p (by omega) hi x).1
    rw [w]; exact this
  | i + 1, p, a, hi, h => by
    obtain ⟨p', a', h1, ⟨x, y, z, u⟩, w⟩ := h
    have := (tm_rng ht ((i : Int) + 1) (dif (ln i) (ln ((i : Int) + 1))) p (by omega) (by omega) x).1
    have := PreE_0 ht (by omega) h1
    omega
/-- lanes up to i may be driven -/
def lnr (ln : Int → Int) (i : Nat) : Prop := ∀ j : Nat, j ≤ i → (0 ≤ ln j ∧ ln j ≤ 2) ∧ (0 < j → nr (ln (j - 1)) (ln j))
theorem pre_lap {I : Int → Int → Int} {g bk st : Int} {ln : Int → Int} : ∀ {i : Nat} {p a t : Int}, (i : Int) < I 3 1 → lnr ln i → PreE I g bk st ln i p a → AchE I g bk (kk I i) i (ln i) p t → LapE I g bk st (a + t)
  | 0, p, a, t, hi, hn, h, h2 => by
    obtain ⟨x, w⟩ := h
    exact ⟨ln 0, p, t, (hn 0 (by omega)).1.1, (hn 0 (by omega)).1.2, x, h2, by rw [w]⟩
  | i + 1, q, a, t, hi, hn, h, h2 => by
    obtain ⟨p', a', h1, x, w⟩ := h
    have e : kk I i = kk I ((i + 1 : Nat) : Int) + 1 := by unfold kk; omega
    have hnr := (hn (i + 1) (by omega)).2 (by omega)
    rw [show ((i + 1 : Nat) : Int) - 1 = i by omega, show ((i + 1 : Nat) : Int) = (i : Int) + 1 by omega] at hnr
    have := pre_lap (i := i) (p := p') (a := a') (t := tmv (I (5 + ((i : Int) + 1)) 1) (dif (ln i) (ln ((i : Int) + 1))) q + t) (by omega) (fun j hj => hn j (by omega)) h1 (by
      rw [e]
      exact ⟨ln ((i : Int) + 1), q, t, hnr, x, h2, rfl⟩)
    rw [w, show a' + tmv (I (5 + ((i : Int) + 1)) 1) (dif (ln i) (ln ((i : Int) + 1))) q + t = a' + (tmv (I (5 + ((i : Int) + 1)) 1) (dif (ln i) (ln ((i : Int) + 1))) q + t) by omega]
    exact this
/-- the rows by station, lane, pace -/
def RowE (I : Int → Int → Int) (g bk F : Int) (R : Int → Int → Int → Int) : Prop := ∀ i l p, 0 ≤ i → i < I 3 1 → 0 ≤ l → l ≤ 2 → 1 ≤ p → p ≤ 60 → p ≤ lmv I g i l → Lst (AchE I g bk (kk I i) i l p) F (R i l p)
theorem PreE_lm {I : Int → Int → Int} {g bk st : Int} {ln : Int → Int} : ∀ {i : Nat} {p a : Int}, PreE I g bk st ln i p a → p ≤ lmv I g i (ln i)
  | 0, p, a, h => h.1.2.2
  | i + 1, p, a, h => by obtain ⟨p', a', h1, x, w⟩ := h; exact x.2.2.2
theorem hs_t {I : Int → Int → Int} {g bk st B F : Int} {R : Int → Int → Int → Int} {ln : Int → Int} {i : Nat} {p a t : Int} (ht : tOK I) (hR : RowE I g bk F R) (hB : ∀ x, LapE I g bk st x → B ≤ x) (hF : B < F) (hi : (i : Int) < I 3 1) (hn : lnr ln i) (h : PreE I g bk st ln i p a) (h2 : AchE I g bk (kk I i) i (ln i) p t) (e : a + t = B) : t = R i (ln i) p := by
  have hp := PreE_p h
  have ha := PreE_0 ht hi h
  obtain ⟨x, y, z⟩ := hR i (ln i) p (by omega) hi (hn i (by omega)).1.1 (hn i (by omega)).1.2 hp.1 hp.2 (PreE_lm h)
  have z1 := z t h2
  rcases x with x | x
  · omega
  · have := hB _ (pre_lap hi hn h x); omega
theorem hs_R {I : Int → Int → Int} {g bk st B F : Int} {R : Int → Int → Int → Int} {ln : Int → Int} {i : Nat} {p : Int} (ht : tOK I) (hR : RowE I g bk F R) (hB : ∀ x, LapE I g bk st x → B ≤ x) (hF : B < F) (hi : (i : Int) < I 3 1) (hn : lnr ln i) : HsE I g bk st B ln i p ↔ ∃ a, PreE I g bk st ln i p a ∧ a + R i (ln i) p = B := by
  constructor
  · rintro ⟨a, t, h1, h2, e⟩
    exact ⟨a, h1, by rw [← hs_t ht hR hB hF hi hn h1 h2 e]; exact e⟩
  · rintro ⟨a, h1, e⟩
    have hp := PreE_p h1
    have ha := PreE_0 ht hi h1
    obtain ⟨x, y, z⟩ := hR i (ln i) p (by omega) hi (hn i (by omega)).1.1 (hn i (by omega)).1.2 hp.1 hp.2 (PreE_lm h1)
    rcases x with x | x
    · omega
    · exact ⟨a, _, h1, x, e⟩
theorem lnr_up {ln : Int → Int} {i : Nat} {l : Int} (h : ∀ j : Nat, j < i → (0 ≤ ln j ∧ ln j ≤ 2) ∧ (0 < j → nr (ln (j - 1)) (ln j))) (l0 : 0 ≤ l) (l1 : l ≤ 2) (hl : 0 < i → nr (ln (i - 1)) l) : lnr (updL ln i l) i := fun j hj => by
  unfold updL
  by_cases e : j = i
  · subst e
    rw [if_pos rfl, if_neg (by omega)]
    exact ⟨⟨l0, l1⟩, hl⟩
  · rw [if_neg (by omega), if_neg (by omega)]
    exact h j (by omega)
/-- on to the next station, by the rows -/
theorem hs_next {I : Int → Int → Int} {g bk st B F : Int} {R : Int → Int → Int → Int} {ln : Int → Int} {i : Nat} {l z : Int} (ht : tOK I) (hR : RowE I g bk F R) (hB : ∀ x, LapE I g bk st x → B ≤ x) (hF : B < F) (hi : ((i + 1 : Nat) : Int) < I 3 1) (hn : lnr ln i) (hl : nr (ln i) l) :
    HsE I g bk st B (updL ln ((i + 1 : Nat) : Int) l) (i + 1) z ↔ ∃ p, HsE I g bk st B ln i p ∧ (1 ≤ z ∧ p - bk ≤ z ∧ z ≤ rch (I 38) (I 39) p ∧ z ≤ lmv I g ((i : Int) + 1) l) ∧ tmv (I (5 + ((i : Int) + 1)) 1) (dif (ln i) l) z + R ((i : Int) + 1) l z = R i (ln i) p := by
  have hn' : lnr (updL ln ((i + 1 : Nat) : Int) l) (i + 1) := lnr_up (fun j hj => hn j (by omega)) hl.2.2.1 hl.2.2.2 (fun _ => by rw [show ((i + 1 : Nat) : Int) - 1 = i by omega]; exact hl)
  have u1 : updL ln ((i + 1 : Nat) : Int) l ((i : Int) + 1) = l := if_pos rfl
  have u0 : updL ln ((i + 1 : Nat) : Int) l (i : Int) = ln i := if_neg (by omega)
  have ek : kk I i = kk I ((i + 1 : Nat) : Int) + 1 := by unfold kk; omega
  have pre : ∀ p a, PreE I g bk st (updL ln ((i + 1 : Nat) : Int) l) i p a ↔ PreE I g bk st ln i p a := fun p a => PreE_cg i p a (fun j j0 j1 => if_neg (by omega))
  rw [hs_R ht hR hB hF hi hn']
  rw [show ((i + 1 : Nat) : Int) = (i : Int) + 1 by omega] at *
  rw [u1]
  constructor
  · rintro ⟨a, ⟨p, a', h1, x, w⟩, e⟩
    rw [u1] at x
    rw [u0, u1] at w
    have h1' := (pre p a').mp h1
    have hz : z ≤ 60 := by
      have := lim_rng (I (5 + ((i : Int) + 1)) 0) (I (5 + ((i : Int) + 1)) 2) (I (5 + ((i : Int) + 1)) 3) l g
      have := x.2.2.2
      unfold lmv at this
      omega
    obtain ⟨r1, r2, r3⟩ := hR ((i : Int) + 1) l z (by omega) hi hl.2.2.1 hl.2.2.2 x.1 hz x.2.2.2
    have ha := PreE_0 ht (by omega) h1'
    have htm := (tm_rng ht ((i : Int) + 1) (dif (ln i) l) z (by omega) hi x.1).1
    rcases r1 with r1 | r1
    · omega
    · have hA : AchE I g bk (kk I i) i (ln i) p (tmv (I (5 + ((i : Int) + 1)) 1) (dif (ln i) l) z + R ((i : Int) + 1) l z) := by
        rw [ek]; exact ⟨l, z, _, hl, x, r1, rfl⟩
      exact ⟨p, ⟨a', _, h1', hA, by omega⟩, x, hs_t ht hR hB hF (by omega) hn h1' hA (by omega)⟩
  · rintro ⟨p, hp, x, e⟩
    obtain ⟨a, h1, e2⟩ := (hs_R ht hR hB hF (by omega) hn).mp hp
    refine ⟨_, ⟨p, a, (pre p a).mpr h1, by rw [u1]; exact x, rfl⟩, ?_⟩
    rw [u0, u1]
    omega
/-- the first station -/
theorem hs_first {I : Int → Int → Int} {g bk st B F : Int} {R : Int → Int → Int → Int} {ln : Int → Int} {l z : Int} (ht : tOK I) (hR : RowE I g bk F R) (hB : ∀ x, LapE I g bk st x → B ≤ x) (hF : B < F) (hi : 0 < I 3 1) (l0 : 0 ≤ l) (l1 : l ≤ 2) :
    HsE I g bk st B (updL ln 0 l) 0 z ↔ (1 ≤ z ∧ z ≤ st ∧ z ≤ lmv I g 0 l) ∧ tmv (I 5 1) 0 z + R 0 l z = B := by
  have hn' : lnr (updL ln 0 l) 0 := lnr_up (i := 0) (fun j hj => by omega) l0 l1 (fun h => by omega)
  have u1 : updL ln 0 l 0 = l := if_pos rfl
  rw [hs_R (i := 0) ht hR hB hF hi hn']
  show (∃ a, ((1 ≤ z ∧ z ≤ st ∧ z ≤ lmv I g 0 (updL ln 0 l 0)) ∧ a = tmv (I 5 1) 0 z) ∧ a + R 0 (updL ln 0 l 0) z = B) ↔ _
  rw [u1]
  constructor
  · rintro ⟨a, ⟨x, rfl⟩, e⟩; exact ⟨x, e⟩
  · rintro ⟨x, e⟩; exact ⟨_, ⟨x, rfl⟩, e⟩
/-- there is always a next lane -/
theorem hs_some {I : Int → Int → Int} {g bk st B : Int} {ln : Int → Int} {i : Nat} (hi : ((i + 1 : Nat) : Int) < I 3 1) (h : ∃ p, HsE I g bk st B ln i p) : ∃ l, nr (ln i) l ∧ ∃ z, HsE I g bk st B (updL ln ((i + 1 : Nat) : Int) l) (i + 1) z := by
  obtain ⟨p, a, t, h1, h2, e⟩ := h
  have ek : kk I i = kk I ((i + 1 : Nat) : Int) + 1 := by unfold kk; omega
  rw [ek] at h2
  obtain ⟨l, q, t', h3, h4, h5, h6⟩ := h2
  have h6 : t = tmv (I (5 + ((i : Int) + 1)) 1) (dif (ln i) l) q + t' := h6
  have u1 : updL ln ((i + 1 : Nat) : Int) l ((i : Int) + 1) = l := if_pos rfl
  have u0 : updL ln ((i + 1 : Nat) : Int) l (i : Int) = ln i := if_neg (by omega)
  refine ⟨l, h3, q, a + tmv (I (5 + ((i : Int) + 1)) 1) (dif (ln i) l) q, t', ⟨p, a, (PreE_cg i p a (fun j j0 j1 => (if_neg (by omega)).symm)).mp h1, by rw [u1]; exact h4, by rw [u0, u1]⟩, ?_, by omega⟩
  rw [show updL ln ((i + 1 : Nat) : Int) l ((i + 1 : Nat) : Int) = l from if_pos rfl]
  exact h5
theorem hs_some0 {I : Int → Int → Int} {g bk st B : Int} (ln : Int → Int) (h : LapE I g bk st B) : ∃ l, (0 ≤ l ∧ l ≤ 2) ∧ ∃ z, HsE I g bk st B (updL ln 0 l) 0 z := by
  obtain ⟨l, p, t, a, b, c, d, e⟩ := h
  have u1 : updL ln 0 l 0 = l := if_pos rfl
  exact ⟨l, ⟨a, b⟩, p, _, t, ⟨by rw [u1]; exact c, rfl⟩, by rw [show ((0 : Nat) : Int) = 0 from rfl, u1]; exact d, e.symm⟩

/-- all that the best way's lanes hang on -/
def esame (I J : Int → Int → Int) : Prop := tsame I J
theorem AchE_cg {I J : Int → Int → Int} {g bk : Int} (h : tsame I J) (k : Nat) (i l p t : Int) (i0 : 0 ≤ i) (i1 : i + k < I 3 1) (p0 : 1 ≤ p) (p1 : p ≤ 60) : AchE J g bk k i l p t ↔ AchE I g bk k i l p t := by
  have el : ∀ i l, 0 ≤ i → i < I 3 1 → lmv J g i l = lmv I g i l := fun i l a b => by
    unfold lmv; rw [h.2.1 i 0 a b (by omega) (by omega), h.2.1 i 2 a b (by omega) (by omega), h.2.1 i 3 a b (by omega) (by omega)]
  have e38 : J 38 = I 38 := funext h.2.2.1
  have e39 : J 39 = I 39 := funext h.2.2.2
  unfold AchE
  rw [e38, e39]
  refine (Ach_cg (n := I 3 1) (fun i l a b _ _ => (el i l a b).symm) (fun i l _ _ _ _ => (lim_rng _ _ _ _ _).2) (fun i c q a b _ _ _ => ?_) (fun _ _ _ => rfl) k i l p t i0 i1 p0 p1).symm
  show tmv (I (5 + i) 1) c q = tmv (J (5 + i) 1) c q
  rw [h.2.1 i 1 a b (by omega) (by omega)]
theorem PreE_ts {I J : Int → Int → Int} {g bk st : Int} {ln : Int → Int} (h : tsame I J) : ∀ (i : Nat) (p a : Int), (i : Int) < I 3 1 → (PreE J g bk st ln i p a ↔ PreE I g bk st ln i p a)
  | 0, p, a, hi => by
    have e : lmv J g 0 (ln 0) = lmv I g 0 (ln 0) := by
      unfold lmv; rw [h.2.1 0 0 (by omega) hi (by omega) (by omega), h.2.1 0 2 (by omega) hi (by omega) (by omega), h.2.1 0 3 (by omega) hi (by omega) (by omega)]
    have e5 : J 5 1 = I 5 1 := h.2.1 0 1 (by omega) hi (by omega) (by omega)
    unfold PreE
    rw [e, e5]
  | i + 1, p, a, hi => by
    have ih := fun p a => PreE_ts (g := g) (bk := bk) (st := st) (ln := ln) h i p a (by omega)
    have e : ∀ l, lmv J g ((i : Int) + 1) l = lmv I g ((i : Int) + 1) l := fun l => by
      unfold lmv; rw [h.2.1 _ 0 (by omega) (by omega) (by omega) (by omega), h.2.1 _ 2 (by omega) (by omega) (by omega) (by omega), h.2.1 _ 3 (by omega) (by omega) (by omega) (by omega)]
    have e5 : J (5 + ((i : Int) + 1)) 1 = I (5 + ((i : Int) + 1)) 1 := h.2.1 _ 1 (by omega) (by omega) (by omega) (by omega)
    unfold PreE
    rw [e, e5, show J 38 = I 38 from funext h.2.2.1, show J 39 = I 39 from funext h.2.2.2]
    constructor
    · rintro ⟨p', a', x, y⟩; exact ⟨p', a', (ih p' a').mp x, y⟩
    · rintro ⟨p', a', x, y⟩; exact ⟨p', a', (ih p' a').mpr x, y⟩
theorem HsE_ts {I J : Int → Int → Int} {g bk st B : Int} {ln : Int → Int} (h : tsame I J) (i : Nat) (p : Int) (hi : (i : Int) < I 3 1) : HsE J g bk st B ln i p ↔ HsE I g bk st B ln i p := by
  have ek : kk J i = kk I i := by unfold kk; rw [h.1]
  unfold HsE
  rw [ek]
  constructor
  · rintro ⟨a, t, x, y, z⟩
    have x' := (PreE_ts h i p a hi).mp x
    have hp := PreE_p x
    exact ⟨a, t, x', (AchE_cg h _ i _ p t (by omega) (by unfold kk; omega) hp.1 hp.2).mp y, z⟩
  · rintro ⟨a, t, x, y, z⟩
    have x' := (PreE_ts h i p a hi).mpr x
    have hp := PreE_p x
    exact ⟨a, t, x', (AchE_cg h _ i _ p t (by omega) (by unfold kk; omega) hp.1 hp.2).mpr y, z⟩
theorem LexB_ts {I J : Int → Int → Int} {g bk st B : Int} {ln : Int → Int} (h : tsame I J) (hL : LexB I g bk st B ln) : LexB J g bk st B ln := fun i hi => by
  rw [h.1] at hi
  obtain ⟨a, b, ⟨p, c⟩, d⟩ := hL i hi
  exact ⟨a, b, ⟨p, (HsE_ts h i p hi).mpr c⟩, fun l' l0 l1 l2 ⟨p, q⟩ => d l' l0 l1 l2 ⟨p, (HsE_ts h i p hi).mp q⟩⟩
end
section
/-! LapBoard$Ways.trace -/
def RowI (I : Int → Int → Int) : Int → Int → Int → Int := fun i l p => I (50 + (3 * i + l)) p
theorem RowE_of {I : Int → Int → Int} {g bk : Int} (hc : carOK I) (h : slvOK I g bk) : RowE I g bk 536870912 (RowI I) := fun i l p i0 i1 l0 l1 p0 p1 _ =>
  (h.2 i l i0 i1 l0 l1 p p0 p1).2.cg (fun y => (AchI_E hc h.1 y i0 (by unfold kk; omega) p0 p1).symm)
def frT (I J : Int → Int → Int) : Prop := ∀ b k, b ≠ 41 → b ≠ 142 → b ≠ 143 → J b k = I b k
def spX7_trace (As : List MV) (σ : MS) (K : Option MV → MS → Prop) : Prop := pR As fun s r => pI r fun B r => pN r (s = 2 ∧ σ.2.1 = PF ∧ tOK σ.2.2.1 ∧ carOK σ.2.2.1 ∧ slvOK σ.2.2.1 (σ.2.2.1 36 0) (σ.2.2.1 36 1) ∧ lapT σ.2.2.1 (σ.2.2.1 36 0) (σ.2.2.1 36 1) (σ.2.2.1 36 2) B ∧
  ∀ I' : Int → Int → Int, frT σ.2.2.1 I' → LexB I' (I' 36 0) (I' 36 1) (I' 36 2) B (I' 41) → K none (σ.1, σ.2.1, I', σ.2.2.2))
def ciX7_trace : CI := (2, 7, 0, 0, spX7_trace)
def kX7_trace (pc : Nat) : List ME := match pc with
  | 0 => [(.iconst 0, 1, []), (.istore_n 2, 1, [])]
  | 2 => [(.iload_n 2, 1, []), (.aload_n 0, 1, []), (.getfield 12, 3, []), (.getfield 108, 3, []), (.if_icmp .ge 116, 3, [126]), (.iload_n 2, 1, []), (.ifCond .ne 7, 3, [21]), (.iconst 1, 1, []), (.goto 14, 3, [32])]
  | 21 => [(.aload_n 0, 1, []), (.getfield 28, 3, []), (.getfield 69, 3, []), (.iload_n 2, 1, []), (.iconst 1, 1, []), (.isub, 1, []), (.iaload, 1, [])]
  | 32 => [(.istore_n 3, 1, []), (.iconst 0, 1, []), (.istore 4, 2, []), (.iconst 0, 1, []), (.iload_n 3, 1, []), (.iconst 1, 1, []), (.isub, 1, []), (.invokestatic 140, 3, []), (.istore 5, 2, [])]
  | 45 => [(.iload 4, 2, []), (.ifCond .ne 58, 3, [105]), (.iload 5, 2, []), (.iconst 3, 1, []), (.if_icmp .ge 52, 3, [105]), (.iload 5, 2, []), (.iload_n 3, 1, []), (.iconst 1, 1, []), (.iadd, 1, []), (.if_icmp .gt 44, 3, [105]), (.aload_n 0, 1, []), (.getfield 28, 3, []), (.getfield 69, 3, []), (.iload_n 2, 1, []), (.iload 5, 2, []), (.iastore, 1, []), (.iload_n 2, 1, []), (.ifCond .ne 13, 3, [89]), (.aload_n 0, 1, []), (.iload 5, 2, []), (.iload_n 1, 1, []), (.invokevirtual 150, 3, []), (.goto 11, 3, [97])]
  | 89 => [(.aload_n 0, 1, []), (.iload_n 2, 1, []), (.iload_n 3, 1, []), (.iload 5, 2, []), (.invokevirtual 154, 3, [])]
  | 97 => [(.istore 4, 2, []), (.iinc 5 1, 3, []), (.goto (-57), 3, [45])]
  | 105 => [(.aload_n 0, 1, []), (.getfield 53, 3, []), (.iconst 0, 1, []), (.aload_n 0, 1, []), (.getfield 50, 3, []), (.iconst 0, 1, []), (.bipush 61, 2, []), (.invokestatic 158, 3, []), (.iinc 2 1, 3, []), (.goto (-121), 3, [2])]
  | 126 => [(.return_, 1, [])]
  | _ => []
theorem qX7_trace : ∀ pc, chk cX7_trace pc (kX7_trace pc) = true := by
  intro pc
  unfold kX7_trace
  split <;> first | decide +kernel | exact chk_nil
abbrev rmX7_trace : Room := { frames := 2, cells := 0, slots := 0, locals := 52 }
def aX7_trace (x : Nat) : Option CI := match x with
  | 140 => some ciMax
  | 150 => some ciX7_begins
  | 154 => some ciX7_leads
  | 158 => some ciCopy
  | _ => none
theorem aokX7_trace : ∀ x ci, aX7_trace x = some ci → CalOK RX7 rmX7_trace x ci := by
  intro x ci h
  unfold aX7_trace at h
  split at h
  · cases h; exact cal_max (List.forall_mem_cons.mpr ⟨(ws_mem (List.mem_of_getElem? (i := 488) (by decide +kernel)) (by decide +kernel)), List.forall_mem_cons.mpr ⟨(ws_mem (List.mem_of_getElem? (i := 158) (by decide +kernel)) (by decide +kernel)), List.forall_mem_cons.mpr ⟨(ws_mem (List.mem_of_getElem? (i := 58) (by decide +kernel)) (by decide +kernel)), List.forall_mem_cons.mpr ⟨(ws_mem (List.mem_of_getElem? (i := 159) (by decide +kernel)) (by decide +kernel)), fun _ h => absurd h List.not_mem_nil⟩⟩⟩⟩) (by decide)
  · cases h; exact cal_V mX7_begins (by decide) rfl (List.forall_mem_cons.mpr ⟨(ws_mem (List.mem_of_getElem? (i := 503) (by decide +kernel)) (by decide +kernel)), List.forall_mem_cons.mpr ⟨(ws_mem (List.mem_of_getElem? (i := 505) (by decide +kernel)) (by decide +kernel)), List.forall_mem_cons.mpr ⟨(ws_mem (List.mem_of_getElem? (i := 10) (by decide +kernel)) (by decide +kernel)), List.forall_mem_cons.mpr ⟨(ws_mem (List.mem_of_getElem? (i := 54) (by decide +kernel)) (by decide +kernel)), List.forall_mem_cons.mpr ⟨(ws_mem (List.mem_of_getElem? (i := 506) (by decide +kernel)) (by decide +kernel)), fun _ h => absurd h List.not_mem_nil⟩⟩⟩⟩⟩) rfl (by unfold nice; decide +kernel) (by unfold rfits; decide) ⟨rfl, rfl⟩
  · cases h; exact cal_V mX7_leads (by decide) rfl (List.forall_mem_cons.mpr ⟨(ws_mem (List.mem_of_getElem? (i := 507) (by decide +kernel)) (by decide +kernel)), List.forall_mem_cons.mpr ⟨(ws_mem (List.mem_of_getElem? (i := 509) (by decide +kernel)) (by decide +kernel)), List.forall_mem_cons.mpr ⟨(ws_mem (List.mem_of_getElem? (i := 11) (by decide +kernel)) (by decide +kernel)), List.forall_mem_cons.mpr ⟨(ws_mem (List.mem_of_getElem? (i := 54) (by decide +kernel)) (by decide +kernel)), List.forall_mem_cons.mpr ⟨(ws_mem (List.mem_of_getElem? (i := 510) (by decide +kernel)) (by decide +kernel)), fun _ h => absurd h List.not_mem_nil⟩⟩⟩⟩⟩) rfl (by unfold nice; decide +kernel) (by unfold rfits; decide) ⟨rfl, rfl⟩
  · cases h; exact cal_copy (List.forall_mem_cons.mpr ⟨(ws_mem (List.mem_of_getElem? (i := 511) (by decide +kernel)) (by decide +kernel)), List.forall_mem_cons.mpr ⟨(ws_mem (List.mem_of_getElem? (i := 513) (by decide +kernel)) (by decide +kernel)), List.forall_mem_cons.mpr ⟨(ws_mem (List.mem_of_getElem? (i := 512) (by decide +kernel)) (by decide +kernel)), List.forall_mem_cons.mpr ⟨(ws_mem (List.mem_of_getElem? (i := 69) (by decide +kernel)) (by decide +kernel)), fun _ h => absurd h List.not_mem_nil⟩⟩⟩⟩) (by decide +kernel)
  · cases h
theorem ocX7_trace_140 (f : Nat → Nat → Nat → Nat → (List MV → MS → (Option MV → MS → Prop) → Prop) → Prop) : oC aX7_trace 140 f = f 2 10 0 0 spMax := propext Iff.rfl
theorem ocX7_trace_150 (f : Nat → Nat → Nat → Nat → (List MV → MS → (Option MV → MS → Prop) → Prop) → Prop) : oC aX7_trace 150 f = f 3 7 0 0 spX7_begins := propext Iff.rfl
theorem ocX7_trace_154 (f : Nat → Nat → Nat → Nat → (List MV → MS → (Option MV → MS → Prop) → Prop) → Prop) : oC aX7_trace 154 f = f 4 7 0 0 spX7_leads := propext Iff.rfl
theorem ocX7_trace_158 (f : Nat → Nat → Nat → Nat → (List MV → MS → (Option MV → MS → Prop) → Prop) → Prop) : oC aX7_trace 158 f = f 5 10 0 0 spCopy := propext Iff.rfl
theorem mdX7_trace : MD RX7 cX7_trace rmX7_trace kX7_trace fX7 aX7_trace zX7 uX7 := ⟨fokX7, zokX7, uokX7, aokX7_trace, qX7_trace⟩
theorem updL_of {J : Int → Int → Int} {ln : Int → Int} {i x : Int} (h1 : J 41 i = x) (h2 : ∀ j, j ≠ i → J 41 j = ln j) : J 41 = updL ln i x := funext fun j => by
  unfold updL
  by_cases e : j = i
  · rw [if_pos e, e]; exact h1
  · rw [if_neg e]; exact h2 j e
theorem updL_two (ln : Int → Int) (i x l : Int) : updL (updL ln i x) i l = updL ln i l := funext fun j => by
  unfold updL
  by_cases e : j = i
  · rw [if_pos e, if_pos e]
  · rw [if_neg e, if_neg e, if_neg e]
theorem updL_me (ln : Int → Int) (i x : Int) : updL ln i x i = x := if_pos rfl
theorem updL_ne {ln : Int → Int} {i x j : Int} (h : j ≠ i) : updL ln i x j = ln j := if_neg h
theorem slv_rowR {I : Int → Int → Int} {g bk i l : Int} (h : slvOK I g bk) (i0 : 0 ≤ i) (i1 : i < I 3 1) (l0 : 0 ≤ l) (l1 : l ≤ 2) : rowR I i l := fun q a b => ⟨(h.2 i l i0 i1 l0 l1 q a b).1, (h.2 i l i0 i1 l0 l1 q a b).2.2.1⟩
theorem tr_0 {I J J' : Int → Int → Int} {ln : Int → Int} {B x : Int} (ht : tOK I) (hc : carOK I) (hs : slvOK I (I 36 0) (I 36 1)) (hB : ∀ x, LapE I (I 36 0) (I 36 1) (I 36 2) x → B ≤ x) (hF : B < 536870912) (hn : 0 < I 3 1) (x0 : 0 ≤ x) (x1 : x ≤ 2) (hJ : ∀ b k, b ≠ 41 → b ≠ 142 → b ≠ 143 → J b k = I b k)
    (hm : ∀ p, 1 ≤ p → p ≤ 60 → (0 < J' 143 p ↔ begP J x B p)) : ∀ p, 1 ≤ p → p ≤ 60 → (0 < J' 143 p ↔ HsE I (I 36 0) (I 36 1) (I 36 2) B (updL ln 0 x) 0 p) := fun p p0 p1 => by
  rw [hm p p0 p1, hs_first ht (RowE_of hc hs) hB hF hn x0 x1]
  have hlx := hs.1 0 x (by omega) hn x0 x1
  rw [show 3 * 0 + x = x by omega] at hlx
  unfold begP RowI
  rw [hJ 36 2 (by omega) (by omega) (by omega), hJ 48 x (by omega) (by omega) (by omega), hJ 5 1 (by omega) (by omega) (by omega), hJ (50 + x) p (by omega) (by omega) (by omega), hlx, show 50 + (3 * 0 + x) = 50 + x by omega]
  exact ⟨fun ⟨a, b, c⟩ => ⟨⟨p0, a, b⟩, c⟩, fun ⟨⟨_, a, b⟩, c⟩ => ⟨a, b, c⟩⟩
theorem tr_1 {I J J' : Int → Int → Int} {ln hr : Int → Int} {B x : Int} {j : Nat} (ht : tOK I) (hc : carOK I) (hs : slvOK I (I 36 0) (I 36 1)) (hB : ∀ x, LapE I (I 36 0) (I 36 1) (I 36 2) x → B ≤ x) (hF : B < 536870912) (hi : ((j + 1 : Nat) : Int) < I 3 1) (hn : lnr ln j) (hx : nr (ln j) x) (hJ : ∀ b k, b ≠ 41 → b ≠ 142 → b ≠ 143 → J b k = I b k) (hJ2 : ∀ k, J 142 k = hr k)
    (hh : ∀ p, 1 ≤ p → p ≤ 60 → (0 < hr p ↔ HsE I (I 36 0) (I 36 1) (I 36 2) B ln j p))
    (hm : ∀ z, 1 ≤ z → z ≤ 60 → (0 < J' 143 z ↔ ∃ p, 1 ≤ p ∧ p ≤ 60 ∧ leaP J ((j + 1 : Nat) : Int) (ln j) x p z)) : ∀ p, 1 ≤ p → p ≤ 60 → (0 < J' 143 p ↔ HsE I (I 36 0) (I 36 1) (I 36 2) B (updL ln ((j + 1 : Nat) : Int) x) (j + 1) p) := fun z z0 z1 => by
  have h30 := ht.2.1
  have hl0 := (hn j (by omega)).1
  have hx0 := hx.2.2.1
  have hx1 := hx.2.2.2
  rw [hm z z0 z1, hs_next ht (RowE_of hc hs) hB hF hi hn hx]
  have hlx := hs.1 ((j : Int) + 1) x (by omega) (by omega) hx.2.2.1 hx.2.2.2
  have e : ∀ p, leaP J ((j + 1 : Nat) : Int) (ln j) x p z ↔ (0 < hr p ∧ p - I 36 1 ≤ z ∧ z ≤ I 37 p ∧ z ≤ lmv I (I 36 0) ((j : Int) + 1) x ∧ tmv (I (5 + ((j : Int) + 1)) 1) (dif (ln j) x) z + I (50 + (3 * ((j : Int) + 1) + x)) z = I (50 + (3 * (j : Int) + ln j)) p) := fun p => by
    unfold leaP
    rw [show ((j + 1 : Nat) : Int) = (j : Int) + 1 by omega, show (j : Int) + 1 - 1 = j by omega, ← hlx, hJ2 p, hJ 36 1 (by omega) (by omega) (by omega), hJ 37 p (by omega) (by omega) (by omega), hJ 48 _ (by omega) (by omega) (by omega), hJ (5 + ((j : Int) + 1)) 1 (by omega) (by omega) (by omega), hJ (50 + (3 * ((j : Int) + 1) + x)) z (by omega) (by omega) (by omega), hJ (50 + (3 * (j : Int) + ln j)) p (by omega) (by omega) (by omega)]
  constructor
  · rintro ⟨p, p0, p1, w⟩
    obtain ⟨a, b, c, d, f⟩ := (e p).mp w
    rw [hc.1.2 p p0 p1] at c
    exact ⟨p, (hh p p0 p1).mp a, ⟨z0, b, c, d⟩, f⟩
  · rintro ⟨p, a, ⟨_, b, c, d⟩, f⟩
    obtain ⟨a1, t, q, _⟩ := a
    have hp := PreE_p q
    rw [← hc.1.2 p hp.1 hp.2] at c
    exact ⟨p, hp.1, hp.2, (e p).mpr ⟨(hh p hp.1 hp.2).mpr ⟨a1, t, q, by assumption⟩, b, c, d, f⟩⟩
set_option maxHeartbeats 1600000 in
set_option maxRecDepth 100000 in
theorem lpX7_t1 {post : Option MV → MS → Prop} {U : Pt → Prop} {N : Nat} {I L : Int → Int → Int} {ln hr : Int → Int} {B f : Int} {i : Nat} (hi : (i : Int) < I 3 1) (ht : tOK I) (hc : carOK I) (hs : slvOK I (I 36 0) (I 36 1)) (hB : ∀ x, LapE I (I 36 0) (I 36 1) (I 36 2) x → B ≤ x) (hB2 : LapE I (I 36 0) (I 36 1) (I 36 2) B)
    (hf : f = if i = 0 then 1 else ln (i - 1)) (hl : ∀ j : Nat, j < i → lexC I (I 36 0) (I 36 1) (I 36 2) B ln j) (h142 : 0 < i → ∀ p, 1 ≤ p → p ≤ 60 → RI (hr p)) (hhere : 0 < i → ∀ p, 1 ≤ p → p ≤ 60 → (0 < hr p ↔ HsE I (I 36 0) (I 36 1) (I 36 2) B ln (i - 1) p))
    (h : ∀ (I1 : Int → Int → Int) (t : Option MV), (∀ b k, b ≠ 41 → b ≠ 142 → b ≠ 143 → I1 b k = I b k) → (∀ k, I1 142 k = hr k) → (∀ j : Int, j ≠ i → I1 41 j = ln j) → lexC I (I 36 0) (I 36 1) (I 36 2) B (I1 41) i → (∀ p, 1 ≤ p → p ≤ 60 → I1 143 p = 0 ∨ I1 143 p = 1) → (∀ p, 1 ≤ p → p ≤ 60 → (0 < I1 143 p ↔ HsE I (I 36 0) (I 36 1) (I 36 2) B (I1 41) i p)) → Ok RX7 cX7_trace 6 rmX7_trace false none post U (105, [some (.inr (.inr (some 2))), some (.inl B), some (.inl i), some (.inl f), some (.inl 1), t], [], (N, PF, I1, L), 0, 0)) :
    ∀ (m : Nat) (x : Int) (I1 : Int → Int → Int), x + m = 3 → f - 1 ≤ x → 0 ≤ x → (∀ b k, b ≠ 41 → b ≠ 142 → b ≠ 143 → I1 b k = I b k) → (∀ k, I1 142 k = hr k) → (∀ j : Int, j ≠ i → I1 41 j = ln j) → (∀ l', 0 ≤ l' → l' < x → (0 < i → nr (ln (i - 1)) l') → ¬ ∃ p, HsE I (I 36 0) (I 36 1) (I 36 2) B (updL ln i l') i p) →
    Ok RX7 cX7_trace 6 rmX7_trace false none post U (45, [some (.inr (.inr (some 2))), some (.inl B), some (.inl i), some (.inl f), some (.inl 0), some (.inl x)], [], (N, PF, I1, L), 0, 0) := by
  have hrow := RowE_of hc hs
  have hBr := LapE_rng ht (by omega) hB2
  have ht2 := ht.2.1
  have hfr : 0 ≤ f ∧ f ≤ 2 := by
    rw [hf]
    split
    · omega
    · have := (hl (i - 1) (by omega)).1
      rw [show ((i - 1 : Nat) : Int) = (i : Int) - 1 by omega] at this
      exact this
  have hBF : B < 536870912 := by omega
  have exl : ∃ l, (0 ≤ l ∧ l ≤ 2) ∧ (0 < i → nr (ln (i - 1)) l) ∧ ∃ p, HsE I (I 36 0) (I 36 1) (I 36 2) B (updL ln i l) i p := by
    by_cases e : i = 0
    · subst e
      obtain ⟨l, a, b⟩ := hs_some0 ln hB2
      exact ⟨l, a, fun q => by omega, b⟩
    · obtain ⟨j, rfl⟩ : ∃ j, i = j + 1 := ⟨i - 1, by omega⟩
      obtain ⟨l, a, b⟩ := hs_some hi (hl j (by omega)).2.2.1
      exact ⟨l, ⟨a.2.2.1, a.2.2.2⟩, fun _ => by rw [show ((j + 1 : Nat) : Int) - 1 = j by omega]; exact a, b⟩
  intro m
  induction m with
  | zero =>
    intro x I1 hm x1 x0 h1 h142e h2 h3
    obtain ⟨l, a, b, c⟩ := exl
    exact (h3 l a.1 (by omega) b c).elim
  | succ m ih =>
    intro x I1 hm x1 x0 h1 h142e h2 h3
    by_cases hx : x ≤ f + 1
    · have hJ : ∀ b k, b ≠ 41 → b ≠ 142 → b ≠ 143 → upI I1 41 i x b k = I b k := fun b k b1 b2 b3 => by rw [upI_ne b1]; exact h1 b k b1 b2 b3
      have lo : ∀ b k, b < 40 → upI I1 41 i x b k = I b k := fun b k hb => hJ b k (by omega) (by omega) (by omega)
      have htJ := tOK_cg lo ht
      have hcJ := carOK_cg lo hc
      have hlJ : limR (upI I1 41 i x) := fun a l q0 q1 q2 q3 => by rw [hJ 48 _ (by omega) (by omega) (by omega)]; exact hs.1.R a l q0 (by rw [← lo 3 1 (by omega)]; exact q1) q2 q3
      have hrJ : ∀ c l, 0 ≤ c → c < I 3 1 → 0 ≤ l → l ≤ 2 → rowR (upI I1 41 i x) c l := fun c l q0 q1 q2 q3 q a b => by rw [hJ _ _ (by omega) (by omega) (by omega)]; exact slv_rowR hs q0 q1 q2 q3 q a b
      have e31 : upI I1 41 i x 3 1 = I 3 1 := lo 3 1 (by omega)
      have go : ∀ (J : Int → Int → Int) (r : Int), (∀ b k, b ≠ 143 → J b k = upI I1 41 i x b k) → (∀ p, 1 ≤ p → p ≤ 60 → J 143 p = 0 ∨ J 143 p = 1) → (∀ p, 1 ≤ p → p ≤ 60 → (0 < J 143 p ↔ HsE I (I 36 0) (I 36 1) (I 36 2) B (updL ln i x) i p)) → mrk (J 143) r → Ok RX7 cX7_trace 6 rmX7_trace false none post U (45, [some (.inr (.inr (some 2))), some (.inl B), some (.inl i), some (.inl f), some (.inl r), some (.inl (x + 1))], [], (N, PF, J, L), 0, 0) := fun J r j1 j2 j3 j4 => by
        have e41 : J 41 = updL ln i x := updL_of (by rw [j1 41 _ (by omega)]; exact upI_same) (fun j hj => by rw [j1 41 _ (by omega), upI_nj hj]; exact h2 j hj)
        have k1 : ∀ b k, b ≠ 41 → b ≠ 142 → b ≠ 143 → J b k = I b k := fun b k b1 b2 b3 => (j1 b k b3).trans (hJ b k b1 b2 b3)
        have k3 : ∀ k, J 142 k = hr k := fun k => by rw [j1 142 k (by omega), upI_ne (by omega)]; exact h142e k
        have k2 : ∀ j : Int, j ≠ i → J 41 j = ln j := fun j hj => by rw [e41]; exact updL_ne hj
        rcases j4 with ⟨rfl | rfl, j5⟩
        · refine ih (x + 1) J (by omega) (by omega) (by omega) k1 k3 k2 (fun l' l0 l1 l2 => ?_)
          by_cases e : l' = x
          · subst e
            rintro ⟨p, hp⟩
            obtain ⟨a, t, q, w⟩ := id hp
            have hq := PreE_p q
            have := j5.mpr ⟨p, hq.1, hq.2, (j3 p hq.1 hq.2).mpr hp⟩
            omega
          · exact h3 l' l0 (by omega) l2
        · refine Ok.seg mdX7_trace [45, 105] 10 ?_
          simp only [wp_nil, wp_cons, ↓stp, ↓lI, ↓lL, ↓lR, ↓lIn_0, ↓lIn_1, ↓lIn_2, ↓lIn_3, ↓lLn_0, ↓lLn_1, ↓lLn_2, ↓lLn_3, ↓lRn_0, ↓lRn_1, ↓lRn_2, ↓lRn_3, ↓pI, ↓pL, ↓pR, ↓pA, ↓pN, ↓pV, ↓fp, ↓tsw, ↓oS, ↓spMax, ↓spMin, ↓spAbs, ↓spObj, RI, RLg, b2i_lo, b2i_hi, getL, setL, ltL, killL, isLong, inl, cnd, br, tgt, rcv, rpl, mputI, mputL, mputP, fv, fr, mcat, mcs, entL, entA, rfit, nf_0, nf_1, nf_2, nf_3, nf2_0, nf2_1, b2i_0, b2i_1, RI_b2i, b2i_fit, List.append, List.length, List.replicate, List.cons_append, List.nil_append, List.length_cons, List.length_nil, List.replicate_succ, List.replicate_zero, List.tail_cons, reduceIte, if_true, if_false, ite_true, ite_false, Bool.false_eq_true, true_and, and_true, and_self, false_and, and_false, or_self, or_true, true_or, or_false, false_or, not_true_eq_false, not_false_eq_true, ne_eq, forall_const, implies_true, imp_self, true_implies, false_implies, Nat.reduceAdd, Nat.reduceSub, Nat.reduceMul, Nat.reduceDiv, Nat.reduceMod, Nat.reduceEqDiff, Nat.reduceLT, Nat.reduceLeDiff, Nat.reduceBEq, Nat.add_zero, Nat.zero_add, Nat.le_refl, Nat.not_lt_zero, Nat.succ_eq_add_one, Int.reduceNatCast, Int.cast_ofNat_Int, Int.reduceSub, Int.reduceMul, Int.reduceNeg, Int.reduceLE, Int.reduceLT, Int.reduceToNat, Int.reduceEq, Int.reduceNe, Int.reduceAdd, Option.some.injEq, kX7_trace, rmX7_trace, ↓ofX7_108, ↓ofX7_12, ↓ofX7_28, ↓ofX7_50, ↓ofX7_53, ↓ofX7_69, ↓ocX7_trace_140, ↓ocX7_trace_150, ↓spX7_begins, ↓ocX7_trace_154, ↓spX7_leads, ↓ocX7_trace_158, ↓spCopy, G_1, G_2, G_3, G_4, G_35, G_36, G_37, G_38, G_39, G_40, G_41, G_42, G_43, G_44, G_45, G_46, G_47, G_48, G_49, G_140, G_141, G_142, G_143, G_144, G_145, G_146, G_178, G_179, G_180, G_181, G_182, G_183, G_184, G_189, G_198, G_207, PF_1_0, PF_1_1, PF_1_2, PF_1_3, PF_2_0, PF_2_1, PF_2_3, PF_2_4, PF_2_5, PF_2_6, PF_2_7, PF_2_8, PF_2_9, PF_2_10, PF_2_11, PF_3_0, PF_35_0, PF_35_1, PF_35_2, PF_35_3, PF_40_0, PF_40_1, PF_40_2, PF_44_0, PF_44_1, PF_44_2, PF_145_0, PF_145_1, PF_179_0, PF_179_1, PF_179_2, PF_179_3, PF_179_8, PF_179_9, PF_179_10]
          refine h J _ k1 k3 k2 ?_ j2 (by rw [e41]; exact j3)
          rw [e41]
          obtain ⟨z, z0, z1, z2⟩ := j5.mp rfl
          refine ⟨by rw [updL_me]; omega, fun q => ?_, ⟨z, (j3 z z0 z1).mp z2⟩, fun l' l0 l1 l2 => ?_⟩
          · rw [updL_me, updL_ne (by omega)]
            rw [if_neg (by omega)] at hf
            exact ⟨by omega, by omega, by omega, by omega⟩
          · rw [updL_me] at l1
            rw [updL_two]
            exact h3 l' l0 l1 (fun q => by have := l2 q; rwa [updL_ne (by omega)] at this)
      refine Ok.seg mdX7_trace [45, 105] 40 ?_
      simp only [wp_nil, wp_cons, ↓stp, ↓lI, ↓lL, ↓lR, ↓lIn_0, ↓lIn_1, ↓lIn_2, ↓lIn_3, ↓lLn_0, ↓lLn_1, ↓lLn_2, ↓lLn_3, ↓lRn_0, ↓lRn_1, ↓lRn_2, ↓lRn_3, ↓pI, ↓pL, ↓pR, ↓pA, ↓pN, ↓pV, ↓fp, ↓tsw, ↓oS, ↓spMax, ↓spMin, ↓spAbs, ↓spObj, RI, RLg, b2i_lo, b2i_hi, getL, setL, ltL, killL, isLong, inl, cnd, br, tgt, rcv, rpl, mputI, mputL, mputP, fv, fr, mcat, mcs, entL, entA, rfit, nf_0, nf_1, nf_2, nf_3, nf2_0, nf2_1, b2i_0, b2i_1, RI_b2i, b2i_fit, List.append, List.length, List.replicate, List.cons_append, List.nil_append, List.length_cons, List.length_nil, List.replicate_succ, List.replicate_zero, List.tail_cons, reduceIte, if_true, if_false, ite_true, ite_false, Bool.false_eq_true, true_and, and_true, and_self, false_and, and_false, or_self, or_true, true_or, or_false, false_or, not_true_eq_false, not_false_eq_true, ne_eq, forall_const, implies_true, imp_self, true_implies, false_implies, Nat.reduceAdd, Nat.reduceSub, Nat.reduceMul, Nat.reduceDiv, Nat.reduceMod, Nat.reduceEqDiff, Nat.reduceLT, Nat.reduceLeDiff, Nat.reduceBEq, Nat.add_zero, Nat.zero_add, Nat.le_refl, Nat.not_lt_zero, Nat.succ_eq_add_one, Int.reduceNatCast, Int.cast_ofNat_Int, Int.reduceSub, Int.reduceMul, Int.reduceNeg, Int.reduceLE, Int.reduceLT, Int.reduceToNat, Int.reduceEq, Int.reduceNe, Int.reduceAdd, Option.some.injEq, kX7_trace, rmX7_trace, ↓ofX7_108, ↓ofX7_12, ↓ofX7_28, ↓ofX7_50, ↓ofX7_53, ↓ofX7_69, ↓ocX7_trace_140, ↓ocX7_trace_150, ↓spX7_begins, ↓ocX7_trace_154, ↓spX7_leads, ↓ocX7_trace_158, ↓spCopy, htJ, hcJ, hlJ, e31, G_1, G_2, G_3, G_4, G_35, G_36, G_37, G_38, G_39, G_40, G_41, G_42, G_43, G_44, G_45, G_46, G_47, G_48, G_49, G_140, G_141, G_142, G_143, G_144, G_145, G_146, G_178, G_179, G_180, G_181, G_182, G_183, G_184, G_189, G_198, G_207, PF_1_0, PF_1_1, PF_1_2, PF_1_3, PF_2_0, PF_2_1, PF_2_3, PF_2_4, PF_2_5, PF_2_6, PF_2_7, PF_2_8, PF_2_9, PF_2_10, PF_2_11, PF_3_0, PF_35_0, PF_35_1, PF_35_2, PF_35_3, PF_40_0, PF_40_1, PF_40_2, PF_44_0, PF_44_1, PF_44_2, PF_145_0, PF_145_1, PF_179_0, PF_179_1, PF_179_2, PF_179_3, PF_179_8, PF_179_9, PF_179_10]
      unfold RI at h142
      refine ⟨by omega, fun q => by omega, fun q => ⟨by omega, by omega, fun q2 => by omega, fun q2 => ⟨by omega, by omega, by omega, fun q3 => ?_, fun q3 => ?_⟩⟩⟩
      · obtain ⟨j, rfl⟩ : ∃ j, i = j + 1 := ⟨i - 1, by omega⟩
        have ef : f = ln j := by rw [hf, if_neg (by omega), show ((j + 1 : Nat) : Int) - 1 = j by omega]
        have hnx : nr (ln j) x := ⟨by omega, by omega, by omega, by omega⟩
        have hlnr : lnr ln j := fun y hy => ⟨(hl y (by omega)).1, (hl y (by omega)).2.1⟩
        refine ⟨by omega, by omega, by omega, by omega, by omega, by omega, hrJ _ _ (by omega) (by omega) (by omega) (by omega), hrJ _ _ (by omega) (by omega) (by omega) (by omega), fun p p0 p1 => ?_, fun J r j1 j2 j3 j4 => go J r j1 j3 ?_ j4⟩
        · rw [upI_ne (by omega), h142e]; exact h142 (by omega) p p0 p1
        · rw [ef] at j2
          exact tr_1 (hr := hr) ht hc hs hB (by omega) hi hlnr hnx hJ (fun k => by rw [upI_ne (by omega)]; exact h142e k) (fun p p0 p1 => hhere (by omega) p p0 p1) j2
      · have e0 : i = 0 := by omega
        subst e0
        exact ⟨by omega, by omega, by omega, by omega, hrJ _ _ (by omega) (by omega) (by omega) (by omega), fun J r j1 j2 j3 j4 => go J r j1 j3 (tr_0 ht hc hs hB (by omega) (by omega) (by omega) (by omega) hJ j2) j4⟩
    · obtain ⟨l, a, b, c⟩ := exl
      refine (h3 l a.1 ?_ b c).elim
      by_cases e : i = 0
      · rw [if_pos e] at hf; omega
      · rw [if_neg e] at hf
        have := (b (by omega)).2.1
        omega
set_option maxHeartbeats 1600000 in
set_option maxRecDepth 100000 in
theorem lpX7_t2 {post : Option MV → MS → Prop} {U : Pt → Prop} {N : Nat} {I L : Int → Int → Int} {B : Int} (hn : 0 < I 3 1) (ht : tOK I) (hc : carOK I) (hs : slvOK I (I 36 0) (I 36 1)) (hB : ∀ x, LapE I (I 36 0) (I 36 1) (I 36 2) x → B ≤ x) (hB2 : LapE I (I 36 0) (I 36 1) (I 36 2) B)
    (h : ∀ (I1 : Int → Int → Int), frT I I1 → LexB I (I 36 0) (I 36 1) (I 36 2) B (I1 41) → post none (N, PF, I1, L)) :
    ∀ (m i : Nat) (I1 : Int → Int → Int) (t3 t4 t5 : Option MV), ((i + m : Nat) : Int) = I 3 1 → frT I I1 → (∀ j : Nat, j < i → lexC I (I 36 0) (I 36 1) (I 36 2) B (I1 41) j) → (0 < i → ∀ p, 1 ≤ p → p ≤ 60 → RI (I1 142 p)) → (0 < i → ∀ p, 1 ≤ p → p ≤ 60 → (0 < I1 142 p ↔ HsE I (I 36 0) (I 36 1) (I 36 2) B (I1 41) (i - 1) p)) →
    Ok RX7 cX7_trace 6 rmX7_trace false none post U (2, [some (.inr (.inr (some 2))), some (.inl B), some (.inl i), t3, t4, t5], [], (N, PF, I1, L), 0, 0)
  | 0, i, I1, t3, t4, t5, hm, h1, h2, h3, h4 => by
    have ht2 := ht.2.1
    have e31 : I1 3 1 = I 3 1 := h1 3 1 (by omega) (by omega) (by omega)
    refine Ok.seg mdX7_trace [2, 45, 105] 10 ?_
    simp only [wp_nil, wp_cons, ↓stp, ↓lI, ↓lL, ↓lR, ↓lIn_0, ↓lIn_1, ↓lIn_2, ↓lIn_3, ↓lLn_0, ↓lLn_1, ↓lLn_2, ↓lLn_3, ↓lRn_0, ↓lRn_1, ↓lRn_2, ↓lRn_3, ↓pI, ↓pL, ↓pR, ↓pA, ↓pN, ↓pV, ↓fp, ↓tsw, ↓oS, ↓spMax, ↓spMin, ↓spAbs, ↓spObj, RI, RLg, b2i_lo, b2i_hi, getL, setL, ltL, killL, isLong, inl, cnd, br, tgt, rcv, rpl, mputI, mputL, mputP, fv, fr, mcat, mcs, entL, entA, rfit, nf_0, nf_1, nf_2, nf_3, nf2_0, nf2_1, b2i_0, b2i_1, RI_b2i, b2i_fit, List.append, List.length, List.replicate, List.cons_append, List.nil_append, List.length_cons, List.length_nil, List.replicate_succ, List.replicate_zero, List.tail_cons, reduceIte, if_true, if_false, ite_true, ite_false, Bool.false_eq_true, true_and, and_true, and_self, false_and, and_false, or_self, or_true, true_or, or_false, false_or, not_true_eq_false, not_false_eq_true, ne_eq, forall_const, implies_true, imp_self, true_implies, false_implies, Nat.reduceAdd, Nat.reduceSub, Nat.reduceMul, Nat.reduceDiv, Nat.reduceMod, Nat.reduceEqDiff, Nat.reduceLT, Nat.reduceLeDiff, Nat.reduceBEq, Nat.add_zero, Nat.zero_add, Nat.le_refl, Nat.not_lt_zero, Nat.succ_eq_add_one, Int.reduceNatCast, Int.cast_ofNat_Int, Int.reduceSub, Int.reduceMul, Int.reduceNeg, Int.reduceLE, Int.reduceLT, Int.reduceToNat, Int.reduceEq, Int.reduceNe, Int.reduceAdd, Option.some.injEq, kX7_trace, rmX7_trace, ↓ofX7_108, ↓ofX7_12, ↓ofX7_28, ↓ofX7_50, ↓ofX7_53, ↓ofX7_69, ↓ocX7_trace_140, ↓ocX7_trace_150, ↓spX7_begins, ↓ocX7_trace_154, ↓spX7_leads, ↓ocX7_trace_158, ↓spCopy, e31, G_1, G_2, G_3, G_4, G_35, G_36, G_37, G_38, G_39, G_40, G_41, G_42, G_43, G_44, G_45, G_46, G_47, G_48, G_49, G_140, G_141, G_142, G_143, G_144, G_145, G_146, G_178, G_179, G_180, G_181, G_182, G_183, G_184, G_189, G_198, G_207, PF_1_0, PF_1_1, PF_1_2, PF_1_3, PF_2_0, PF_2_1, PF_2_3, PF_2_4, PF_2_5, PF_2_6, PF_2_7, PF_2_8, PF_2_9, PF_2_10, PF_2_11, PF_3_0, PF_35_0, PF_35_1, PF_35_2, PF_35_3, PF_40_0, PF_40_1, PF_40_2, PF_44_0, PF_44_1, PF_44_2, PF_145_0, PF_145_1, PF_179_0, PF_179_1, PF_179_2, PF_179_3, PF_179_8, PF_179_9, PF_179_10]
    refine ⟨by omega, by omega, fun q => h I1 h1 (fun j hj => h2 j (by omega)), fun q => by omega⟩
  | m + 1, i, I1, t3, t4, t5, hm, h1, h2, h3, h4 => by
    have ih := lpX7_t2 (post := post) (U := U) hn ht hc hs hB hB2 h m (i + 1)
    have ht2 := ht.2.1
    have e31 : I1 3 1 = I 3 1 := h1 3 1 (by omega) (by omega) (by omega)
    have go : ∀ (f x : Int), f = (if i = 0 then 1 else I1 41 (i - 1)) → f - 1 ≤ x → 0 ≤ x → (x = 0 ∨ x = f - 1) → Ok RX7 cX7_trace 6 rmX7_trace false none post U (45, [some (.inr (.inr (some 2))), some (.inl B), some (.inl i), some (.inl f), some (.inl 0), some (.inl x)], [], (N, PF, I1, L), 0, 0) := fun f x hf x1 x0 x2 => by
      have hfr : 0 ≤ f ∧ f ≤ 2 := by
        rw [hf]
        split
        · omega
        · have := (h2 (i - 1) (by omega)).1
          rw [show ((i - 1 : Nat) : Int) = (i : Int) - 1 by omega] at this
          exact this
      refine lpX7_t1 (ln := I1 41) (hr := I1 142) (by omega) ht hc hs hB hB2 hf h2 h3 h4 (fun J t j1 j2 j3 j4 j5 j6 => ?_) (3 - x).toNat x I1 (by omega) x1 x0 (fun b k b1 b2 b3 => h1 b k b1 b2 b3) (fun _ => rfl) (fun _ _ => rfl) (fun l' l0 l1 l2 => ?_)
      · refine Ok.seg mdX7_trace [2, 45, 105] 20 ?_
        simp only [wp_nil, wp_cons, ↓stp, ↓lI, ↓lL, ↓lR, ↓lIn_0, ↓lIn_1, ↓lIn_2, ↓lIn_3, ↓lLn_0, ↓lLn_1, ↓lLn_2, ↓lLn_3, ↓lRn_0, ↓lRn_1, ↓lRn_2, ↓lRn_3, ↓pI, ↓pL, ↓pR, ↓pA, ↓pN, ↓pV, ↓fp, ↓tsw, ↓oS, ↓spMax, ↓spMin, ↓spAbs, ↓spObj, RI, RLg, b2i_lo, b2i_hi, getL, setL, ltL, killL, isLong, inl, cnd, br, tgt, rcv, rpl, mputI, mputL, mputP, fv, fr, mcat, mcs, entL, entA, rfit, nf_0, nf_1, nf_2, nf_3, nf2_0, nf2_1, b2i_0, b2i_1, RI_b2i, b2i_fit, List.append, List.length, List.replicate, List.cons_append, List.nil_append, List.length_cons, List.length_nil, List.replicate_succ, List.replicate_zero, List.tail_cons, reduceIte, if_true, if_false, ite_true, ite_false, Bool.false_eq_true, true_and, and_true, and_self, false_and, and_false, or_self, or_true, true_or, or_false, false_or, not_true_eq_false, not_false_eq_true, ne_eq, forall_const, implies_true, imp_self, true_implies, false_implies, Nat.reduceAdd, Nat.reduceSub, Nat.reduceMul, Nat.reduceDiv, Nat.reduceMod, Nat.reduceEqDiff, Nat.reduceLT, Nat.reduceLeDiff, Nat.reduceBEq, Nat.add_zero, Nat.zero_add, Nat.le_refl, Nat.not_lt_zero, Nat.succ_eq_add_one, Int.reduceNatCast, Int.cast_ofNat_Int, Int.reduceSub, Int.reduceMul, Int.reduceNeg, Int.reduceLE, Int.reduceLT, Int.reduceToNat, Int.reduceEq, Int.reduceNe, Int.reduceAdd, Option.some.injEq, kX7_trace, rmX7_trace, ↓ofX7_108, ↓ofX7_12, ↓ofX7_28, ↓ofX7_50, ↓ofX7_53, ↓ofX7_69, ↓ocX7_trace_140, ↓ocX7_trace_150, ↓spX7_begins, ↓ocX7_trace_154, ↓spX7_leads, ↓ocX7_trace_158, ↓spCopy, G_1, G_2, G_3, G_4, G_35, G_36, G_37, G_38, G_39, G_40, G_41, G_42, G_43, G_44, G_45, G_46, G_47, G_48, G_49, G_140, G_141, G_142, G_143, G_144, G_145, G_146, G_178, G_179, G_180, G_181, G_182, G_183, G_184, G_189, G_198, G_207, PF_1_0, PF_1_1, PF_1_2, PF_1_3, PF_2_0, PF_2_1, PF_2_3, PF_2_4, PF_2_5, PF_2_6, PF_2_7, PF_2_8, PF_2_9, PF_2_10, PF_2_11, PF_3_0, PF_35_0, PF_35_1, PF_35_2, PF_35_3, PF_40_0, PF_40_1, PF_40_2, PF_44_0, PF_44_1, PF_44_2, PF_145_0, PF_145_1, PF_179_0, PF_179_1, PF_179_2, PF_179_3, PF_179_8, PF_179_9, PF_179_10]
        have k1 : ∀ b k, b ≠ 142 → cpyI J 143 0 142 0 61 b k = J b k := fun b k hb => if_neg (fun z => hb z.1)
        have k2 : ∀ p, 1 ≤ p → p ≤ 60 → cpyI J 143 0 142 0 61 142 p = J 143 p := fun p p0 p1 => by
          unfold cpyI; rw [if_pos ⟨rfl, by omega, by omega⟩, show 0 + (p - 0) = p by omega]
        have k41 : cpyI J 143 0 142 0 61 41 = J 41 := funext fun k => k1 41 k (by omega)
        have := ih (cpyI J 143 0 142 0 61) (some (.inl f)) (some (.inl 1)) t (by omega) (fun b k b1 b2 b3 => by rw [k1 b k b2]; exact j1 b k b1 b2 b3) (fun y hy => ?_) (fun _ p p0 p1 => by rw [k2 p p0 p1]; rcases j5 p p0 p1 with w | w <;> (rw [w]; unfold RI; omega)) (fun _ p p0 p1 => by rw [k2 p p0 p1, k41]; exact j6 p p0 p1)
        · rwa [show ((i + 1 : Nat) : Int) = (i : Int) + 1 by omega] at this
        · rw [k41]
          by_cases e : y = i
          · rw [e]; exact j4
          · exact lexC_cg y (fun z z0 z1 => (j3 z (by omega)).symm) (h2 y (by omega))
      · by_cases e : i = 0
        · rw [if_pos e] at hf; omega
        · rw [if_neg e] at hf
          have := (l2 (by omega)).1
          omega
    refine Ok.seg mdX7_trace [2, 45, 105] 40 ?_
    simp only [wp_nil, wp_cons, ↓stp, ↓lI, ↓lL, ↓lR, ↓lIn_0, ↓lIn_1, ↓lIn_2, ↓lIn_3, ↓lLn_0, ↓lLn_1, ↓lLn_2, ↓lLn_3, ↓lRn_0, ↓lRn_1, ↓lRn_2, ↓lRn_3, ↓pI, ↓pL, ↓pR, ↓pA, ↓pN, ↓pV, ↓fp, ↓tsw, ↓oS, ↓spMax, ↓spMin, ↓spAbs, ↓spObj, RI, RLg, b2i_lo, b2i_hi, getL, setL, ltL, killL, isLong, inl, cnd, br, tgt, rcv, rpl, mputI, mputL, mputP, fv, fr, mcat, mcs, entL, entA, rfit, nf_0, nf_1, nf_2, nf_3, nf2_0, nf2_1, b2i_0, b2i_1, RI_b2i, b2i_fit, List.append, List.length, List.replicate, List.cons_append, List.nil_append, List.length_cons, List.length_nil, List.replicate_succ, List.replicate_zero, List.tail_cons, reduceIte, if_true, if_false, ite_true, ite_false, Bool.false_eq_true, true_and, and_true, and_self, false_and, and_false, or_self, or_true, true_or, or_false, false_or, not_true_eq_false, not_false_eq_true, ne_eq, forall_const, implies_true, imp_self, true_implies, false_implies, Nat.reduceAdd, Nat.reduceSub, Nat.reduceMul, Nat.reduceDiv, Nat.reduceMod, Nat.reduceEqDiff, Nat.reduceLT, Nat.reduceLeDiff, Nat.reduceBEq, Nat.add_zero, Nat.zero_add, Nat.le_refl, Nat.not_lt_zero, Nat.succ_eq_add_one, Int.reduceNatCast, Int.cast_ofNat_Int, Int.reduceSub, Int.reduceMul, Int.reduceNeg, Int.reduceLE, Int.reduceLT, Int.reduceToNat, Int.reduceEq, Int.reduceNe, Int.reduceAdd, Option.some.injEq, kX7_trace, rmX7_trace, ↓ofX7_108, ↓ofX7_12, ↓ofX7_28, ↓ofX7_50, ↓ofX7_53, ↓ofX7_69, ↓ocX7_trace_140, ↓ocX7_trace_150, ↓spX7_begins, ↓ocX7_trace_154, ↓spX7_leads, ↓ocX7_trace_158, ↓spCopy, e31, G_1, G_2, G_3, G_4, G_35, G_36, G_37, G_38, G_39, G_40, G_41, G_42, G_43, G_44, G_45, G_46, G_47, G_48, G_49, G_140, G_141, G_142, G_143, G_144, G_145, G_146, G_178, G_179, G_180, G_181, G_182, G_183, G_184, G_189, G_198, G_207, PF_1_0, PF_1_1, PF_1_2, PF_1_3, PF_2_0, PF_2_1, PF_2_3, PF_2_4, PF_2_5, PF_2_6, PF_2_7, PF_2_8, PF_2_9, PF_2_10, PF_2_11, PF_3_0, PF_35_0, PF_35_1, PF_35_2, PF_35_3, PF_40_0, PF_40_1, PF_40_2, PF_44_0, PF_44_1, PF_44_2, PF_145_0, PF_145_1, PF_179_0, PF_179_1, PF_179_2, PF_179_3, PF_179_8, PF_179_9, PF_179_10]
    have hl1 : i ≠ 0 → 0 ≤ I1 41 ((i : Int) - 1) ∧ I1 41 ((i : Int) - 1) ≤ 2 := fun q => by
      have := (h2 (i - 1) (by omega)).1
      rw [show ((i - 1 : Nat) : Int) = (i : Int) - 1 by omega] at this
      exact this
    refine ⟨by omega, by omega, fun q => by omega, fun q => ⟨by omega, fun q2 => ?_, fun q2 r r0 r1 r2 => ?_⟩⟩
    · have := hl1 (by omega)
      exact ⟨by omega, by omega, by omega, fun r r0 r1 r2 => go _ r (by rw [if_neg (by omega)]) (by omega) (by omega) (by omega)⟩
    · exact go 1 r (by rw [if_pos (by omega)]) (by omega) (by omega) (by omega)
set_option maxRecDepth 100000 in
set_option maxHeartbeats 800000 in
theorem mX7_trace : MOK yX7_trace cX7_trace 6 none rmX7_trace ciX7_trace := by
  refine mok_of (ini := false) (by decide +kernel) (by decide) rfl rfl ?_
  intro σ As K hrc hl h
  obtain ⟨N, P, I, L⟩ := σ
  have h9 := pR_iff.mp h
  clear h
  obtain ⟨s, r, e9, h⟩ := h9
  subst e9
  have h9 := pI_iff.mp h
  clear h
  obtain ⟨B, r, e9, h⟩ := h9
  subst e9
  have h9 := pN_iff.mp h
  clear h
  obtain ⟨e9, h⟩ := h9
  subst e9
  dsimp only at h
  obtain ⟨rfl, rfl, ht, hc, hs, hB, h⟩ := h
  have h3 := ht.1
  refine ⟨Nat.le_of_ble_eq_true rfl, Ok.seg mdX7_trace [2] 6 ?_⟩
  simp only [wp_nil, wp_cons, ↓stp, ↓lI, ↓lL, ↓lR, ↓lIn_0, ↓lIn_1, ↓lIn_2, ↓lIn_3, ↓lLn_0, ↓lLn_1, ↓lLn_2, ↓lLn_3, ↓lRn_0, ↓lRn_1, ↓lRn_2, ↓lRn_3, ↓pI, ↓pL, ↓pR, ↓pA, ↓pN, ↓pV, ↓fp, ↓tsw, ↓oS, ↓spMax, ↓spMin, ↓spAbs, ↓spObj, RI, RLg, b2i_lo, b2i_hi, getL, setL, ltL, killL, isLong, inl, cnd, br, tgt, rcv, rpl, mputI, mputL, mputP, fv, fr, mcat, mcs, entL, entA, rfit, nf_0, nf_1, nf_2, nf_3, nf2_0, nf2_1, b2i_0, b2i_1, RI_b2i, b2i_fit, List.append, List.length, List.replicate, List.cons_append, List.nil_append, List.length_cons, List.length_nil, List.replicate_succ, List.replicate_zero, List.tail_cons, reduceIte, if_true, if_false, ite_true, ite_false, Bool.false_eq_true, true_and, and_true, and_self, false_and, and_false, or_self, or_true, true_or, or_false, false_or, not_true_eq_false, not_false_eq_true, ne_eq, forall_const, implies_true, imp_self, true_implies, false_implies, Nat.reduceAdd, Nat.reduceSub, Nat.reduceMul, Nat.reduceDiv, Nat.reduceMod, Nat.reduceEqDiff, Nat.reduceLT, Nat.reduceLeDiff, Nat.reduceBEq, Nat.add_zero, Nat.zero_add, Nat.le_refl, Nat.not_lt_zero, Nat.succ_eq_add_one, Int.reduceNatCast, Int.cast_ofNat_Int, Int.reduceSub, Int.reduceMul, Int.reduceNeg, Int.reduceLE, Int.reduceLT, Int.reduceToNat, Int.reduceEq, Int.reduceNe, Int.reduceAdd, Option.some.injEq, kX7_trace, rmX7_trace, ↓ofX7_108, ↓ofX7_12, ↓ofX7_28, ↓ofX7_50, ↓ofX7_53, ↓ofX7_69, ↓ocX7_trace_140, ↓ocX7_trace_150, ↓spX7_begins, ↓ocX7_trace_154, ↓spX7_leads, ↓ocX7_trace_158, ↓spCopy, G_1, G_2, G_3, G_4, G_35, G_36, G_37, G_38, G_39, G_40, G_41, G_42, G_43, G_44, G_45, G_46, G_47, G_48, G_49, G_140, G_141, G_142, G_143, G_144, G_145, G_146, G_178, G_179, G_180, G_181, G_182, G_183, G_184, G_189, G_198, G_207, PF_1_0, PF_1_1, PF_1_2, PF_1_3, PF_2_0, PF_2_1, PF_2_3, PF_2_4, PF_2_5, PF_2_6, PF_2_7, PF_2_8, PF_2_9, PF_2_10, PF_2_11, PF_3_0, PF_35_0, PF_35_1, PF_35_2, PF_35_3, PF_40_0, PF_40_1, PF_40_2, PF_44_0, PF_44_1, PF_44_2, PF_145_0, PF_145_1, PF_179_0, PF_179_1, PF_179_2, PF_179_3, PF_179_8, PF_179_9, PF_179_10]
  rcases hB with ⟨hn, hv⟩ | ⟨hn, hB, hB2⟩
  · refine Ok.seg mdX7_trace [45, 105] 10 ?_
    simp only [wp_nil, wp_cons, ↓stp, ↓lI, ↓lL, ↓lR, ↓lIn_0, ↓lIn_1, ↓lIn_2, ↓lIn_3, ↓lLn_0, ↓lLn_1, ↓lLn_2, ↓lLn_3, ↓lRn_0, ↓lRn_1, ↓lRn_2, ↓lRn_3, ↓pI, ↓pL, ↓pR, ↓pA, ↓pN, ↓pV, ↓fp, ↓tsw, ↓oS, ↓spMax, ↓spMin, ↓spAbs, ↓spObj, RI, RLg, b2i_lo, b2i_hi, getL, setL, ltL, killL, isLong, inl, cnd, br, tgt, rcv, rpl, mputI, mputL, mputP, fv, fr, mcat, mcs, entL, entA, rfit, nf_0, nf_1, nf_2, nf_3, nf2_0, nf2_1, b2i_0, b2i_1, RI_b2i, b2i_fit, List.append, List.length, List.replicate, List.cons_append, List.nil_append, List.length_cons, List.length_nil, List.replicate_succ, List.replicate_zero, List.tail_cons, reduceIte, if_true, if_false, ite_true, ite_false, Bool.false_eq_true, true_and, and_true, and_self, false_and, and_false, or_self, or_true, true_or, or_false, false_or, not_true_eq_false, not_false_eq_true, ne_eq, forall_const, implies_true, imp_self, true_implies, false_implies, Nat.reduceAdd, Nat.reduceSub, Nat.reduceMul, Nat.reduceDiv, Nat.reduceMod, Nat.reduceEqDiff, Nat.reduceLT, Nat.reduceLeDiff, Nat.reduceBEq, Nat.add_zero, Nat.zero_add, Nat.le_refl, Nat.not_lt_zero, Nat.succ_eq_add_one, Int.reduceNatCast, Int.cast_ofNat_Int, Int.reduceSub, Int.reduceMul, Int.reduceNeg, Int.reduceLE, Int.reduceLT, Int.reduceToNat, Int.reduceEq, Int.reduceNe, Int.reduceAdd, Option.some.injEq, kX7_trace, rmX7_trace, ↓ofX7_108, ↓ofX7_12, ↓ofX7_28, ↓ofX7_50, ↓ofX7_53, ↓ofX7_69, ↓ocX7_trace_140, ↓ocX7_trace_150, ↓spX7_begins, ↓ocX7_trace_154, ↓spX7_leads, ↓ocX7_trace_158, ↓spCopy, hn, G_1, G_2, G_3, G_4, G_35, G_36, G_37, G_38, G_39, G_40, G_41, G_42, G_43, G_44, G_45, G_46, G_47, G_48, G_49, G_140, G_141, G_142, G_143, G_144, G_145, G_146, G_178, G_179, G_180, G_181, G_182, G_183, G_184, G_189, G_198, G_207, PF_1_0, PF_1_1, PF_1_2, PF_1_3, PF_2_0, PF_2_1, PF_2_3, PF_2_4, PF_2_5, PF_2_6, PF_2_7, PF_2_8, PF_2_9, PF_2_10, PF_2_11, PF_3_0, PF_35_0, PF_35_1, PF_35_2, PF_35_3, PF_40_0, PF_40_1, PF_40_2, PF_44_0, PF_44_1, PF_44_2, PF_145_0, PF_145_1, PF_179_0, PF_179_1, PF_179_2, PF_179_3, PF_179_8, PF_179_9, PF_179_10]
    exact h I (fun _ _ _ _ _ => rfl) (fun i hi => by omega)
  · refine lpX7_t2 hn ht hc hs hB2 hB (fun I1 h1 h2 => ⟨trivial, h I1 h1 ?_⟩) (I 3 1).toNat 0 I none none none (by omega) (fun _ _ _ _ _ => rfl) (fun j hj => by omega) (fun q => by omega) (fun q => by omega)
    have hts : tsame I I1 := tsame_of (fun b k hb => h1 b k (by omega) (by omega) (by omega)) ht.2.1
    rw [h1 36 0 (by omega) (by omega) (by omega), h1 36 1 (by omega) (by omega) (by omega), h1 36 2 (by omega) (by omega) (by omega)]
    exact LexB_ts hts h2
end
section
/-! quickest paces: they are the greatest that may be driven, and their time is the least -/
/-- paces that may be driven on a way with limits lm -/
def Fs (lm rc : Int → Int) (bk st n : Int) (q : Int → Int) : Prop := (0 < n → q 0 ≤ st) ∧ (∀ i, 0 ≤ i → i < n → 1 ≤ q i ∧ q i ≤ lm i) ∧ ∀ i, 0 ≤ i → i + 1 < n → q (i + 1) ≤ rc (q i) ∧ q i ≤ q (i + 1) + bk
/-- the greatest of them -/
def Mx (lm rc : Int → Int) (bk st n : Int) (q : Int → Int) : Prop := Fs lm rc bk st n q ∧ ∀ q', Fs lm rc bk st n q' → ∀ i, 0 ≤ i → i < n → q' i ≤ q i
theorem Mx.uniq {lm rc : Int → Int} {bk st n : Int} {q q' : Int → Int} (h : Mx lm rc bk st n q) (h' : Mx lm rc bk st n q') : ∀ i, 0 ≤ i → i < n → q i = q' i := fun i i0 i1 => by
  have a := h.2 q' h'.1 i i0 i1
  have b := h'.2 q h.1 i i0 i1
  omega
theorem Fs.cg {lm lm' rc : Int → Int} {bk st n : Int} {q q' : Int → Int} (hl : ∀ i, 0 ≤ i → i < n → lm i = lm' i) (hq : ∀ i, 0 ≤ i → i < n → q i = q' i) (h : Fs lm rc bk st n q) : Fs lm' rc bk st n q' :=
  ⟨fun a => by rw [← hq 0 (by omega) a]; exact h.1 a, fun i a b => by rw [← hq i a b, ← hl i a b]; exact h.2.1 i a b, fun i a b => by rw [← hq i a (by omega), ← hq (i + 1) (by omega) b]; exact h.2.2 i a b⟩
theorem Mx.cg {lm lm' rc : Int → Int} {bk st n : Int} {q q' : Int → Int} (hl : ∀ i, 0 ≤ i → i < n → lm i = lm' i) (hq : ∀ i, 0 ≤ i → i < n → q i = q' i) (h : Mx lm rc bk st n q) : Mx lm' rc bk st n q' :=
  ⟨h.1.cg hl hq, fun r hr i a b => by rw [← hq i a b]; exact h.2 r (hr.cg (fun j c d => (hl j c d).symm) (fun _ _ _ => rfl)) i a b⟩
theorem mn_le {x y : Int} : mn x y ≤ x ∧ mn x y ≤ y ∧ (mn x y = x ∨ mn x y = y) := by unfold mn; split <;> omega
theorem bq_max {lm rc : Int → Int} {bk st n : Int} {q : Int → Int} (h : Fs lm rc bk st n q) : ∀ (m : Nat), (m : Int) < n → q (n - 1 - m) ≤ bqv lm bk n m
  | 0, hm => by
    have := (h.2.1 (n - 1) (by omega) (by omega)).2
    rw [show n - 1 - ((0 : Nat) : Int) = n - 1 by omega]; exact this
  | m + 1, hm => by
    have ih := bq_max h m (by omega)
    have a := (h.2.1 (n - 2 - m) (by omega) (by omega)).2
    have b := (h.2.2 (n - 2 - m) (by omega) (by omega)).2
    rw [show n - 2 - m + 1 = n - 1 - m by omega] at b
    rw [show n - 1 - ((m + 1 : Nat) : Int) = n - 2 - m by omega]
    have c := @mn_le (lm (n - 2 - m)) (bqv lm bk n m + bk)
    unfold bqv
    omega
theorem qp_Mx {lm rc : Int → Int} {bk st n : Int} (hl : ∀ i, 0 ≤ i → i < n → 1 ≤ lm i ∧ lm i ≤ 60) (hr : ∀ p, 1 ≤ p → p ≤ 60 → p ≤ rc p ∧ rc p ≤ 60) (hm : ∀ p p', p ≤ p' → rc p ≤ rc p') (hb : 1 ≤ bk) (hs : 1 ≤ st) : Mx lm rc bk st n (qp lm rc bk st n) := by
  have rng := fun i a b => @qp_rng lm rc bk st n i hl hr hb hs a b
  have le : ∀ i, 0 ≤ i → i < n → qp lm rc bk st n i ≤ bq lm bk n i := fun i a b => by
    by_cases e : i = 0
    · rw [e, qp_0]; exact mn_le.1
    · rw [qp_step (by omega)]; exact mn_le.1
  refine ⟨⟨fun a => by rw [qp_0]; exact mn_le.2.1, fun i a b => ⟨(rng i a b).1, ?_⟩, fun i a b => ⟨?_, ?_⟩⟩, fun q hq => ?_⟩
  · refine Int.le_trans (le i a b) ?_
    by_cases e : i = n - 1
    · rw [e, bq_last]; exact Int.le_refl _
    · rw [bq_step (by omega)]; exact mn_le.1
  · rw [qp_step (i := i + 1) (by omega), show i + 1 - 1 = i by omega]; exact mn_le.2.1
  · have c := (@mn_le (lm i) (bq lm bk n (i + 1) + bk)).2.1
    rw [← bq_step (by omega)] at c
    have d := le i a (by omega)
    have e := (rng i a (by omega))
    have f := hr _ e.1 e.2
    have g := (@mn_le (bq lm bk n (i + 1)) (rc (qp lm rc bk st n i))).2.2
    have h := qp_step (lm := lm) (rc := rc) (bk := bk) (st := st) (n := n) (i := i + 1) (by omega)
    rw [show i + 1 - 1 = i by omega] at h
    omega
  · have hq2 : ∀ i, 0 ≤ i → i < n → q i ≤ bq lm bk n i := fun i a b => by
      have := bq_max hq (n - 1 - i).toNat (by omega)
      rw [show n - 1 - ((n - 1 - i).toNat : Int) = i by omega] at this
      exact this
    have : ∀ m : Nat, (m : Int) < n → q m ≤ qp lm rc bk st n m := fun m => by
      induction m with
      | zero =>
        intro h
        have a := hq.1 (by omega)
        have b := hq2 0 (by omega) (by omega)
        have c := (@mn_le (bq lm bk n 0) st).2.2
        have d : qp lm rc bk st n ((0 : Nat) : Int) = mn (bq lm bk n 0) st := qp_0
        have e : q ((0 : Nat) : Int) = q 0 := rfl
        omega
      | succ m ih =>
        intro h
        have ih := ih (by omega)
        have a := (hq.2.2 m (by omega) (by omega)).1
        have b := hq2 (m + 1) (by omega) (by omega)
        have c := hm _ _ ih
        have d := (@mn_le (bq lm bk n (m + 1)) (rc (qp lm rc bk st n m))).2.2
        have e := qp_step (lm := lm) (rc := rc) (bk := bk) (st := st) (n := n) (i := (m : Int) + 1) (by omega)
        rw [show (m : Int) + 1 - 1 = m by omega] at e
        rw [show ((m + 1 : Nat) : Int) = (m : Int) + 1 by omega]
        omega
    intro i a b
    have := this i.toNat (by omega)
    rwa [Int.toNat_of_nonneg a] at this
theorem tmv_anti {len c p p' : Int} (hl : 0 ≤ len) (h0 : 1 ≤ p) (h : p ≤ p') : tmv len c p' ≤ tmv len c p := by
  unfold tmv
  rw [if_pos (show 0 < p' by omega), if_pos (show 0 < p by omega)]
  have hx : ∀ x : Int, 0 ≤ x → x / p' ≤ x / p := fun x hx => by
    rw [Int.le_ediv_iff_mul_le (by omega)]
    have a : 0 ≤ x / p' := Int.ediv_nonneg hx (by omega)
    have b : x / p' * p ≤ x / p' * p' := Int.mul_le_mul_of_nonneg_left h a
    have c : x / p' * p' ≤ x := Int.ediv_mul_le x (by omega)
    omega
  by_cases e : c = 0
  · rw [if_pos e]; exact hx ((len + 0) * 1000) (by omega)
  · rw [if_neg e]; exact hx ((len + 2) * 1000) (by omega)
theorem sumI_le {f g : Int → Int} : ∀ (n : Nat), (∀ i : Int, 0 ≤ i → i < n → f i ≤ g i) → sumI f n ≤ sumI g n
  | 0, _ => Int.le_refl _
  | n + 1, h => by
    have a := sumI_le n (fun i h0 h1 => h i h0 (by omega))
    have b := h n (by omega) (by omega)
    unfold sumI
    omega
/-- lanes changed -/
def lch (ln : Int → Int) (i : Int) : Int := if 0 < i ∧ ¬ ln i = ln (i - 1) then 1 else 0
theorem lch_dif {ln : Int → Int} {i : Int} (h : 0 ≤ i) : lch ln (i + 1) = dif (ln i) (ln (i + 1)) := by
  unfold lch dif
  rw [show i + 1 - 1 = i by omega]
  by_cases e : ln (i + 1) = ln i
  · rw [if_neg (fun q => q.2 e), if_pos e]
  · rw [if_pos ⟨by omega, e⟩, if_neg e]
/-- the paces along a way up to i -/
theorem PreE_q {I : Int → Int → Int} {g bk st : Int} {ln : Int → Int} : ∀ (i : Nat) (p a : Int), PreE I g bk st ln i p a → ∃ q : Int → Int, q i = p ∧ Fs (fun j => lmv I g j (ln j)) (rch (I 38) (I 39)) bk st (i + 1) q ∧ a = sumI (fun j => tmv (I (5 + j) 1) (lch ln j) (q j)) (i + 1)
  | 0, p, a, h => by
    obtain ⟨⟨x, y, z⟩, w⟩ := h
    refine ⟨fun _ => p, rfl, ⟨fun _ => y, fun j j0 j1 => ?_, fun j j0 j1 => by omega⟩, ?_⟩
    · rw [show j = 0 by omega]; exact ⟨x, z⟩
    · rw [w]
      show _ = 0 + tmv (I (5 + 0) 1) (lch ln 0) p
      rw [show lch ln 0 = 0 from if_neg (fun q => by omega), show (5 : Int) + 0 = 5 by rfl]
      omega
  | i + 1, p, a, h => by
    obtain ⟨p', a', h1, ⟨x, y, z, u⟩, w⟩ := h
    obtain ⟨q, q1, ⟨q2, q3, q4⟩, q5⟩ := PreE_q i p' a' h1
    have ne : ∀ j : Int, j ≤ i → (if j = (i : Int) + 1 then p else q j) = q j := fun j hj => if_neg (by omega)
    refine ⟨fun j => if j = (i : Int) + 1 then p else q j, if_pos (by omega), ⟨fun _ => ?_, fun j j0 j1 => ?_, fun j j0 j1 => ?_⟩, ?_⟩
    · show (if (0 : Int) = (i : Int) + 1 then p else q 0) ≤ st
      rw [ne 0 (by omega)]; exact q2 (by omega)
    · show 1 ≤ (if j = (i : Int) + 1 then p else q j) ∧ (if j = (i : Int) + 1 then p else q j) ≤ _
      by_cases e : j = (i : Int) + 1
      · rw [if_pos e, e]; exact ⟨x, u⟩
      · rw [if_neg e]; exact q3 j j0 (by omega)
    · show (if j + 1 = (i : Int) + 1 then p else q (j + 1)) ≤ rch (I 38) (I 39) (if j = (i : Int) + 1 then p else q j) ∧ (if j = (i : Int) + 1 then p else q j) ≤ (if j + 1 = (i : Int) + 1 then p else q (j + 1)) + bk
      rw [ne j (by omega)]
      by_cases e : j + 1 = (i : Int) + 1
      · rw [if_pos e, show j = i by omega, q1]; exact ⟨z, by omega⟩
      · rw [if_neg e]; exact q4 j j0 (by omega)
    · rw [w, q5, sumI_s _ (i + 1)]
      show _ = _ + tmv (I (5 + ((i + 1 : Nat) : Int)) 1) (lch ln ((i + 1 : Nat) : Int)) (if ((i + 1 : Nat) : Int) = (i : Int) + 1 then p else q ((i + 1 : Nat) : Int))
      rw [if_pos (by omega), show ((i + 1 : Nat) : Int) = (i : Int) + 1 by omega, lch_dif (by omega)]
      congr 1
      exact sumI_congr _ (fun j j0 j1 => by
        show _ = tmv (I (5 + j) 1) (lch ln j) (if j = (i : Int) + 1 then p else q j)
        rw [ne j (by omega)])
theorem PreE_of {I : Int → Int → Int} {g bk st n : Int} {ln q : Int → Int} (h : Fs (fun j => lmv I g j (ln j)) (rch (I 38) (I 39)) bk st n q) : ∀ (i : Nat), (i : Int) < n → PreE I g bk st ln i (q i) (sumI (fun j => tmv (I (5 + j) 1) (lch ln j) (q j)) (i + 1))
  | 0, hi => by
    have a := h.2.1 0 (by omega) hi
    refine ⟨⟨a.1, h.1 (by omega), a.2⟩, ?_⟩
    show 0 + tmv (I (5 + 0) 1) (lch ln 0) (q 0) = _
    rw [show lch ln 0 = 0 from if_neg (fun q => by omega), show (5 : Int) + 0 = 5 by rfl]
    show 0 + tmv (I 5 1) 0 (q 0) = tmv (I 5 1) 0 (q 0)
    omega
  | i + 1, hi => by
    have ih := PreE_of h i (by omega)
    have a := h.2.1 (i + 1) (by omega) (by omega)
    have b := h.2.2 i (by omega) (by omega)
    refine ⟨q i, _, ih, ?_, ?_⟩
    · rw [show ((i + 1 : Nat) : Int) = (i : Int) + 1 by omega]
      exact ⟨a.1, by omega, b.1, a.2⟩
    · rw [sumI_s _ (i + 1)]
      show _ + tmv (I (5 + ((i + 1 : Nat) : Int)) 1) (lch ln ((i + 1 : Nat) : Int)) (q ((i + 1 : Nat) : Int)) = _
      rw [show ((i + 1 : Nat) : Int) = (i : Int) + 1 by omega, lch_dif (by omega)]
/-- the quickest paces on the lanes of a best way take the least time -/
theorem best_sum {I : Int → Int → Int} {g bk st B : Int} {ln q : Int → Int} (ht : tOK I) (hn : 0 < I 3 1) (hB : ∀ x, LapE I g bk st x → B ≤ x) (hL : LexB I g bk st B ln) (hq : Mx (fun j => lmv I g j (ln j)) (rch (I 38) (I 39)) bk st (I 3 1) q) : sumI (fun j => tmv (I (5 + j) 1) (lch ln j) (q j)) (I 3 1).toNat = B := by
  obtain ⟨m, hm⟩ : ∃ m : Nat, I 3 1 = (m : Int) + 1 := ⟨(I 3 1 - 1).toNat, by omega⟩
  obtain ⟨a, b, ⟨p, a1, t, h1, h2, h3⟩, d⟩ := hL m (by omega)
  have hlnr : lnr ln m := fun j hj => ⟨(hL j (by omega)).1, (hL j (by omega)).2.1⟩
  have hk : kk I (m : Int) = 0 := by unfold kk; omega
  rw [hk] at h2
  have ht0 : t = 0 := h2
  obtain ⟨r, r1, r2, r3⟩ := PreE_q m p a1 h1
  rw [show ((m : Int) + 1) = I 3 1 by omega] at r2
  rw [show (I 3 1).toNat = m + 1 by omega]
  have up : sumI (fun j => tmv (I (5 + j) 1) (lch ln j) (q j)) (m + 1) ≤ B := by
    rw [show B = a1 by omega, r3]
    refine sumI_le _ (fun i i0 i1 => ?_)
    have hs := ht.2.2 i i0 (by omega)
    unfold stOK at hs
    exact tmv_anti (by omega) (r2.2.1 i i0 (by omega)).1 (hq.2 r r2 i i0 (by omega))
  have lo : B ≤ sumI (fun j => tmv (I (5 + j) 1) (lch ln j) (q j)) (m + 1) := by
    have h4 := PreE_of hq.1 m (by omega)
    have := pre_lap (by omega) hlnr h4 (t := 0) (by rw [hk]; rfl)
    have := hB _ this
    omega
  omega
end
section
/-! LapBoard$Ways: bestWay, behind -/
theorem pul_m2 {T Q p p' : Int} (h : p ≤ p') : pul T Q p ≤ pul T Q p' := by
  unfold pul
  repeat' split
  all_goals omega
theorem rcm_m2 {T Q : Int → Int} {p p' : Int} (h : p ≤ p') : ∀ g, rcm T Q p g ≤ rcm T Q p' g
  | 0 => h
  | g + 1 => by
    have a := rcm_m2 (T := T) (Q := Q) h g
    have b := pul_m2 (T := T (g + 1)) (Q := Q (g + 1)) h
    unfold rcm
    repeat' split
    all_goals omega
theorem rch_m2 {T Q : Int → Int} (p p' : Int) (h : p ≤ p') : rch T Q p ≤ rch T Q p' := rcm_m2 h 6
/-- the quickest paces, with their times, stand on way w -/
def wayOK (I : Int → Int → Int) (w : Int) : Prop := Mx (fun j => lmv I (I 36 0) j (I (w + 1) j)) (rch (I 38) (I 39)) (I 36 1) (I 36 2) (I 3 1) (I (w + 2)) ∧ ∀ i, 0 ≤ i → i < I 3 1 → I (w + 3) i = tmv (I (5 + i) 1) (lch (I (w + 1)) i) (I (w + 2) i)
def bestOK (I : Int → Int → Int) : Prop := ∃ B, lapT I (I 36 0) (I 36 1) (I 36 2) B ∧ LexB I (I 36 0) (I 36 1) (I 36 2) B (I 41) ∧ wayOK I 40 ∧ I 40 3 = B
/-- track and car are alike -/
def c3 (I J : Int → Int → Int) : Prop := ∀ b k, 3 ≤ b → b < 40 → J b k = I b k
theorem tOK_c3 {I J : Int → Int → Int} (h0 : c3 I J) (h : tOK I) : tOK J := by
  unfold tOK at h ⊢
  rw [h0 3 1 (by omega) (by omega)]
  exact ⟨h.1, h.2.1, fun i i0 i1 => stOK_cg (fun j => h0 _ j (by omega) (by omega)) (h.2.2 i i0 i1)⟩
theorem carOK_c3 {I J : Int → Int → Int} (h0 : c3 I J) (h : carOK I) : carOK J := by
  unfold carOK nOK at h ⊢
  rw [show J 36 = I 36 from funext fun j => h0 _ j (by omega) (by omega), show J 37 = I 37 from funext fun j => h0 _ j (by omega) (by omega), show J 38 = I 38 from funext fun j => h0 _ j (by omega) (by omega), show J 39 = I 39 from funext fun j => h0 _ j (by omega) (by omega)]
  exact h
theorem tsame_c3 {I J : Int → Int → Int} (h : c3 I J) (h3 : I 3 1 ≤ 30) : tsame I J := ⟨h _ _ (by omega) (by omega), fun i k _ _ _ _ => h _ _ (by omega) (by omega), fun k => h _ _ (by omega) (by omega), fun k => h _ _ (by omega) (by omega)⟩
theorem capOK_c3 {I J : Int → Int → Int} (lo : c3 I J) (h3 : I 3 1 ≤ 30) (h144 : ∀ k, J 144 k = I 144 k) (h : capOK I) : capOK J := fun g g0 g1 => by
  rw [h144, lo 36 1 (by omega) (by omega), lo 36 2 (by omega) (by omega)]
  exact (h g g0 g1).imp id (fun q => lapT_cg (tsame_c3 lo h3) q)
theorem lmv_c3 {I J : Int → Int → Int} (h : c3 I J) {g i l : Int} (i0 : 0 ≤ i) (i1 : i < 30) : lmv J g i l = lmv I g i l := lmv_cg (fun k => h _ k (by omega) (by omega))
theorem wayOK_c3 {I J : Int → Int → Int} {w : Int} (h : c3 I J) (h3 : I 3 1 ≤ 30) (hw : ∀ b k, w < b → b < w + 4 → J b k = I b k) (H : wayOK I w) : wayOK J w := by
  have e36 : J 36 = I 36 := funext fun j => h _ j (by omega) (by omega)
  have e38 : J 38 = I 38 := funext fun j => h _ j (by omega) (by omega)
  have e39 : J 39 = I 39 := funext fun j => h _ j (by omega) (by omega)
  have e1 : J (w + 1) = I (w + 1) := funext fun j => hw _ j (by omega) (by omega)
  have e2 : J (w + 2) = I (w + 2) := funext fun j => hw _ j (by omega) (by omega)
  unfold wayOK
  rw [e36, e38, e39, e1, e2, h 3 1 (by omega) (by omega)]
  refine ⟨H.1.cg (fun i i0 i1 => ?_) (fun _ _ _ => rfl), fun i i0 i1 => ?_⟩
  · exact (lmv_c3 h i0 (by omega)).symm
  · rw [hw _ i (by omega) (by omega), h _ 1 (by omega) (by omega)]; exact H.2 i i0 i1
theorem bestOK_c3 {I J : Int → Int → Int} (h : c3 I J) (h3 : I 3 1 ≤ 30) (hw : ∀ b k, 40 ≤ b → b ≤ 43 → J b k = I b k) (H : bestOK I) : bestOK J := by
  obtain ⟨B, a, b, c, d⟩ := H
  have e36 : J 36 = I 36 := funext fun j => h _ j (by omega) (by omega)
  have e41 : J 41 = I 41 := funext fun j => hw _ j (by omega) (by omega)
  have ts := tsame_c3 h h3
  refine ⟨B, ?_, ?_, wayOK_c3 h h3 (fun b k b0 b1 => hw b k (by omega) (by omega)) c, by rw [hw _ _ (by omega) (by omega)]; exact d⟩
  · rw [e36]; exact lapT_cg ts a
  · rw [e36, e41]; exact LexB_ts ts b
/-- what quicken leaves -/
theorem wayOK_of {I J : Int → Int → Int} {w : Int} (hw : w = 40 ∨ w = 44) (ht : tOK I) (hc : carOK I) (h1 : ∀ b j, b ≠ w + 2 → b ≠ w + 3 → ¬ (b = w ∧ j = 3) → J b j = I b j) (h2 : ∀ i, 0 ≤ i → i < I 3 1 → J (w + 2) i = wqp I w i) (h3 : ∀ i, 0 ≤ i → i < I 3 1 → J (w + 3) i = wtm I w i) : wayOK J w := by
  have lo : c3 I J := fun b k b0 b1 => h1 b k (by omega) (by omega) (by omega)
  have hn := hc.2
  unfold nOK at hn
  have e36 : J 36 = I 36 := funext fun j => lo _ j (by omega) (by omega)
  have e38 : J 38 = I 38 := funext fun j => lo _ j (by omega) (by omega)
  have e39 : J 39 = I 39 := funext fun j => lo _ j (by omega) (by omega)
  have e1 : J (w + 1) = I (w + 1) := funext fun j => h1 _ j (by omega) (by omega) (by omega)
  have ht2 := ht.2.1
  have mx : Mx (wlim I w (I 36 0)) (rch (I 38) (I 39)) (I 36 1) (I 36 2) (I 3 1) (wqp I w) := qp_Mx (wlim_rng I w _) (fun p _ p1 => rch_rng hc.1.1 p1) rch_m2 (by omega) (by omega)
  unfold wayOK
  rw [e36, e38, e39, e1, lo 3 1 (by omega) (by omega)]
  refine ⟨mx.cg (fun i i0 i1 => ?_) (fun i i0 i1 => (h2 i i0 i1).symm), fun i i0 i1 => ?_⟩
  · exact (lmv_c3 lo i0 (by omega)).symm
  · rw [h3 i i0 i1, h2 i i0 i1, lo _ 1 (by omega) (by omega)]; rfl
theorem wayOK_sum {I J : Int → Int → Int} {w B : Int} (hw : w = 40 ∨ w = 44) (ht : tOK I) (hc : carOK I) (hn : 0 < I 3 1) (hB : ∀ x, LapE I (I 36 0) (I 36 1) (I 36 2) x → B ≤ x) (hL : LexB I (I 36 0) (I 36 1) (I 36 2) B (I (w + 1))) : sumI (wtm I w) (I 3 1).toNat = B := by
  have hn2 := hc.2
  unfold nOK at hn2
  have mx : Mx (wlim I w (I 36 0)) (rch (I 38) (I 39)) (I 36 1) (I 36 2) (I 3 1) (wqp I w) := qp_Mx (wlim_rng I w _) (fun p _ p1 => rch_rng hc.1.1 p1) rch_m2 (by omega) (by omega)
  exact best_sum ht hn hB hL mx
/-- the best way stands, or is to be found anew -/
def bst (I : Int → Int → Int) : Prop := I 2 2 = 0 ∨ I 2 2 = 1 ∧ bestOK I
def frB (I J : Int → Int → Int) : Prop := ∀ b k, ¬ (40 ≤ b ∧ b ≤ 43) → ¬ (48 ≤ b ∧ b ≤ 143) → ¬ (b = 2 ∧ k = 2) → J b k = I b k
theorem frB.rf {I : Int → Int → Int} : frB I I := fun _ _ _ _ _ => rfl
theorem frB.tr {I J M : Int → Int → Int} (h : frB I J) (h' : frB J M) : frB I M := fun b k b1 b2 b3 => (h' b k b1 b2 b3).trans (h b k b1 b2 b3)
theorem frB.c3 {I J : Int → Int → Int} (h : frB I J) : c3 I J := fun b k b0 b1 => h b k (by omega) (by omega) (by omega)
def spX7_bestWay (As : List MV) (σ : MS) (K : Option MV → MS → Prop) : Prop := pR As fun s r => pN r (s = 2 ∧ σ.2.1 = PF ∧ tOK σ.2.2.1 ∧ carOK σ.2.2.1 ∧ bst σ.2.2.1 ∧
  ∀ I' : Int → Int → Int, frB σ.2.2.1 I' → bestOK I' → I' 2 2 = 1 → K (some (.inr (.inr (some 40)))) (σ.1, σ.2.1, I', σ.2.2.2))
def ciX7_bestWay : CI := (1, 7, 0, 0, spX7_bestWay)
def kX7_bestWay (pc : Nat) : List ME := match pc with
  | 0 => [(.aload_n 0, 1, []), (.getfield 65, 3, []), (.ifCond .ne 60, 3, [64]), (.aload_n 0, 1, []), (.aload_n 0, 1, []), (.getfield 21, 3, []), (.getfield 76, 3, []), (.iconst 0, 1, []), (.iaload, 1, []), (.aload_n 0, 1, []), (.getfield 21, 3, []), (.getfield 76, 3, []), (.iconst 1, 1, []), (.iaload, 1, []), (.aload_n 0, 1, []), (.getfield 21, 3, []), (.getfield 76, 3, []), (.iconst 2, 1, []), (.iaload, 1, []), (.invokevirtual 79, 3, []), (.istore_n 1, 1, []), (.aload_n 0, 1, []), (.iload_n 1, 1, []), (.invokevirtual 83, 3, []), (.aload_n 0, 1, []), (.getfield 28, 3, []), (.aload_n 0, 1, []), (.getfield 12, 3, []), (.aload_n 0, 1, []), (.getfield 21, 3, []), (.invokevirtual 72, 3, []), (.aload_n 0, 1, []), (.iconst 1, 1, []), (.putfield 65, 3, [])]
  | 64 => [(.aload_n 0, 1, []), (.getfield 28, 3, []), (.areturn, 1, [])]
  | _ => []
theorem qX7_bestWay : ∀ pc, chk cX7_bestWay pc (kX7_bestWay pc) = true := by
  intro pc
  unfold kX7_bestWay
  split <;> first | decide +kernel | exact chk_nil
abbrev rmX7_bestWay : Room := { frames := 4, cells := 0, slots := 0, locals := 99 }
def aX7_bestWay (x : Nat) : Option CI := match x with
  | 79 => some ciX7_solve
  | 83 => some ciX7_trace
  | 72 => some ciX6_quicken
  | _ => none
theorem aokX7_bestWay : ∀ x ci, aX7_bestWay x = some ci → CalOK RX7 rmX7_bestWay x ci := by
  intro x ci h
  unfold aX7_bestWay at h
  split at h
  · cases h; exact cal_V mX7_solve (by decide) rfl (List.forall_mem_cons.mpr ⟨(ws_mem (List.mem_of_getElem? (i := 470) (by decide +kernel)) (by decide +kernel)), List.forall_mem_cons.mpr ⟨(ws_mem (List.mem_of_getElem? (i := 472) (by decide +kernel)) (by decide +kernel)), List.forall_mem_cons.mpr ⟨(ws_mem (List.mem_of_getElem? (i := 3) (by decide +kernel)) (by decide +kernel)), List.forall_mem_cons.mpr ⟨(ws_mem (List.mem_of_getElem? (i := 54) (by decide +kernel)) (by decide +kernel)), List.forall_mem_cons.mpr ⟨(ws_mem (List.mem_of_getElem? (i := 473) (by decide +kernel)) (by decide +kernel)), fun _ h => absurd h List.not_mem_nil⟩⟩⟩⟩⟩) rfl (by unfold nice; decide +kernel) (by unfold rfits; decide) ⟨rfl, rfl⟩
  · cases h; exact cal_V mX7_trace (by decide) rfl (List.forall_mem_cons.mpr ⟨(ws_mem (List.mem_of_getElem? (i := 499) (by decide +kernel)) (by decide +kernel)), List.forall_mem_cons.mpr ⟨(ws_mem (List.mem_of_getElem? (i := 501) (by decide +kernel)) (by decide +kernel)), List.forall_mem_cons.mpr ⟨(ws_mem (List.mem_of_getElem? (i := 9) (by decide +kernel)) (by decide +kernel)), List.forall_mem_cons.mpr ⟨(ws_mem (List.mem_of_getElem? (i := 54) (by decide +kernel)) (by decide +kernel)), List.forall_mem_cons.mpr ⟨(ws_mem (List.mem_of_getElem? (i := 502) (by decide +kernel)) (by decide +kernel)), fun _ h => absurd h List.not_mem_nil⟩⟩⟩⟩⟩) rfl (by unfold nice; decide +kernel) (by unfold rfits; decide) ⟨rfl, rfl⟩
  · cases h; exact cal_V mX6_quicken (by decide) rfl (List.forall_mem_cons.mpr ⟨(ws_mem (List.mem_of_getElem? (i := 448) (by decide +kernel)) (by decide +kernel)), List.forall_mem_cons.mpr ⟨(ws_mem (List.mem_of_getElem? (i := 449) (by decide +kernel)) (by decide +kernel)), List.forall_mem_cons.mpr ⟨(ws_mem (List.mem_of_getElem? (i := 450) (by decide +kernel)) (by decide +kernel)), List.forall_mem_cons.mpr ⟨(ws_mem (List.mem_of_getElem? (i := 59) (by decide +kernel)) (by decide +kernel)), List.forall_mem_cons.mpr ⟨(ws_mem (List.mem_of_getElem? (i := 451) (by decide +kernel)) (by decide +kernel)), fun _ h => absurd h List.not_mem_nil⟩⟩⟩⟩⟩) rfl (by unfold nice; decide +kernel) (by unfold rfits; decide) ⟨rfl, rfl⟩
  · cases h
theorem ocX7_bestWay_79 (f : Nat → Nat → Nat → Nat → (List MV → MS → (Option MV → MS → Prop) → Prop) → Prop) : oC aX7_bestWay 79 f = f 4 7 0 0 spX7_solve := propext Iff.rfl
theorem ocX7_bestWay_83 (f : Nat → Nat → Nat → Nat → (List MV → MS → (Option MV → MS → Prop) → Prop) → Prop) : oC aX7_bestWay 83 f = f 2 7 0 0 spX7_trace := propext Iff.rfl
theorem ocX7_bestWay_72 (f : Nat → Nat → Nat → Nat → (List MV → MS → (Option MV → MS → Prop) → Prop) → Prop) : oC aX7_bestWay 72 f = f 3 6 0 0 spX6_quicken := propext Iff.rfl
theorem mdX7_bestWay : MD RX7 cX7_bestWay rmX7_bestWay kX7_bestWay fX7 aX7_bestWay zX7 uX7 := ⟨fokX7, zokX7, uokX7, aokX7_bestWay, qX7_bestWay⟩
set_option maxRecDepth 100000 in
set_option maxHeartbeats 800000 in
theorem mX7_bestWay : MOK yX7_bestWay cX7_bestWay 2 (some (.object "LapBoard$Way")) rmX7_bestWay ciX7_bestWay := by
  refine mok_of (ini := false) (by decide +kernel) (by decide) rfl rfl ?_
  intro σ As K hrc hl h
  obtain ⟨N, P, I, L⟩ := σ
  have h9 := pR_iff.mp h
  clear h
  obtain ⟨s, r, e9, h⟩ := h9
  subst e9
  have h9 := pN_iff.mp h
  clear h
  obtain ⟨e9, h⟩ := h9
  subst e9
  dsimp only at h
  obtain ⟨rfl, rfl, ht, hc, hb, h⟩ := h
  have hn := hc.2
  unfold nOK at hn
  have ht2 := ht.2.1
  refine ⟨Nat.le_of_ble_eq_true rfl, Ok.seg mdX7_bestWay [] 60 ?_⟩
  simp only [wp_nil, wp_cons, ↓stp, ↓lI, ↓lL, ↓lR, ↓lIn_0, ↓lIn_1, ↓lIn_2, ↓lIn_3, ↓lLn_0, ↓lLn_1, ↓lLn_2, ↓lLn_3, ↓lRn_0, ↓lRn_1, ↓lRn_2, ↓lRn_3, ↓pI, ↓pL, ↓pR, ↓pA, ↓pN, ↓pV, ↓fp, ↓tsw, ↓oS, ↓spMax, ↓spMin, ↓spAbs, ↓spObj, RI, RLg, b2i_lo, b2i_hi, getL, setL, ltL, killL, isLong, inl, cnd, br, tgt, rcv, rpl, mputI, mputL, mputP, fv, fr, mcat, mcs, entL, entA, rfit, nf_0, nf_1, nf_2, nf_3, nf2_0, nf2_1, b2i_0, b2i_1, RI_b2i, b2i_fit, List.append, List.length, List.replicate, List.cons_append, List.nil_append, List.length_cons, List.length_nil, List.replicate_succ, List.replicate_zero, List.tail_cons, reduceIte, if_true, if_false, ite_true, ite_false, Bool.false_eq_true, true_and, and_true, and_self, false_and, and_false, or_self, or_true, true_or, or_false, false_or, not_true_eq_false, not_false_eq_true, ne_eq, forall_const, implies_true, imp_self, true_implies, false_implies, Nat.reduceAdd, Nat.reduceSub, Nat.reduceMul, Nat.reduceDiv, Nat.reduceMod, Nat.reduceEqDiff, Nat.reduceLT, Nat.reduceLeDiff, Nat.reduceBEq, Nat.add_zero, Nat.zero_add, Nat.le_refl, Nat.not_lt_zero, Nat.succ_eq_add_one, Int.reduceNatCast, Int.cast_ofNat_Int, Int.reduceSub, Int.reduceMul, Int.reduceNeg, Int.reduceLE, Int.reduceLT, Int.reduceToNat, Int.reduceEq, Int.reduceNe, Int.reduceAdd, Option.some.injEq, kX7_bestWay, rmX7_bestWay, ↓ofX7_12, ↓ofX7_21, ↓ofX7_28, ↓ofX7_65, ↓ofX7_76, ↓ocX7_bestWay_79, ↓spX7_solve, ↓ocX7_bestWay_83, ↓spX7_trace, ↓ocX7_bestWay_72, ↓spX6_quicken, G_1, G_2, G_3, G_4, G_35, G_36, G_37, G_38, G_39, G_40, G_41, G_42, G_43, G_44, G_45, G_46, G_47, G_48, G_49, G_140, G_141, G_142, G_143, G_144, G_145, G_146, G_178, G_179, G_180, G_181, G_182, G_183, G_184, G_189, G_198, G_207, PF_1_0, PF_1_1, PF_1_2, PF_1_3, PF_2_0, PF_2_1, PF_2_3, PF_2_4, PF_2_5, PF_2_6, PF_2_7, PF_2_8, PF_2_9, PF_2_10, PF_2_11, PF_3_0, PF_35_0, PF_35_1, PF_35_2, PF_35_3, PF_40_0, PF_40_1, PF_40_2, PF_44_0, PF_44_1, PF_44_2, PF_145_0, PF_145_1, PF_179_0, PF_179_1, PF_179_2, PF_179_3, PF_179_8, PF_179_9, PF_179_10]
  have hb01 : I 2 2 = 0 ∨ I 2 2 = 1 := hb.imp id (fun q => q.1)
  refine ⟨by omega, fun q => ?_, fun q => ⟨by omega, by omega, by omega, by omega, by omega, by omega, ht, hc, fun I1 v h1 h2 h3 => ?_⟩⟩
  · rcases hb with hb | hb
    · omega
    · exact h I frB.rf hb.2 hb.1
  · have lo1 := slv_frame h1
    have ht1 := tOK_cg lo1 ht
    have hc1 := carOK_cg lo1 hc
    have e36 : I1 36 = I 36 := funext fun j => lo1 _ j (by omega)
    rw [← e36] at h2 h3
    rw [← e36] at hn
    have hT := lapT_of ht1 hc1 h2.1 (by omega) (by omega) h3
    refine ⟨ht1, hc1, h2, hT, fun I2 k1 k2 => ?_⟩
    have lo2 : ∀ b k, b < 40 → I2 b k = I1 b k := fun b k hb => k1 b k (by omega) (by omega) (by omega)
    have ht2 := tOK_cg lo2 ht1
    have hc2 := carOK_cg lo2 hc1
    have e36' : I2 36 = I1 36 := funext fun j => lo2 _ j (by omega)
    refine ⟨ht2, hc2, fun i i0 i1 => ?_, fun I3 j1 j2 j3 j4 => ?_⟩
    · have := (k2 i.toNat (by omega)).1
      rw [Int.toNat_of_nonneg i0] at this
      exact this
    · have hw : wayOK I3 40 := wayOK_of (.inl rfl) ht2 hc2 (fun b j b1 b2 b3 => j1 b j (by omega) (by omega) b3) j2 j3
      have lo3 : c3 I2 I3 := fun b k b0 b1 => j1 b k (by omega) (by omega) (by omega)
      have e36'' : I3 36 = I2 36 := funext fun j => lo3 _ j (by omega) (by omega)
      have hT2 : lapT I2 (I2 36 0) (I2 36 1) (I2 36 2) v := by rw [e36']; exact lapT_cg (tsame_of lo2 ht1.2.1) hT
      have hB : bestOK I3 := by
        have ts := tsame_c3 lo3 ht2.2.1
        refine ⟨v, by rw [e36'']; exact lapT_cg ts hT2, ?_, hw, ?_⟩
        · rw [e36'', show I3 41 = I2 41 from funext fun k => j1 _ k (by omega) (by omega) (by omega)]; exact LexB_ts ts k2
        · rw [j4]
          rcases hT2 with ⟨a, b⟩ | ⟨a, b, c⟩
          · rw [a, b]; rfl
          · exact wayOK_sum (J := I2) (.inl rfl) ht2 hc2 a c k2
      have u : ∀ b k, ¬ (b = 2 ∧ k = 2) → upI I3 2 2 1 b k = I3 b k := fun b k hb => if_neg hb
      have ht3 := ht2.2.1
      refine h _ (fun b k b1 b2 b3 => ?_) (bestOK_c3 (fun b k b0 b1 => u b k (by omega)) (by rw [lo3 3 1 (by omega) (by omega)]; exact ht3) (fun b k b0 b1 => u b k (by omega)) hB) upI_same
      rw [u b k b3, j1 b k (by omega) (by omega) (by omega), k1 b k (by omega) (by omega) (by omega), h1 b k (by omega) (by omega) (by omega) (by omega)]
/-- the time at a station on the best way -/
theorem best_tm {I : Int → Int → Int} (ht : tOK I) (h : bestOK I) {i : Int} (i0 : 0 ≤ i) (i1 : i < I 3 1) : 0 ≤ I 43 i ∧ I 43 i ≤ 101000 := by
  obtain ⟨B, a, b, c, d⟩ := h
  rw [show (43 : Int) = 40 + 3 by rfl, c.2 i i0 i1]
  exact tm_rng ht i _ _ i0 i1 (c.1.1.2.1 i i0 i1).1
def spX7_behind (As : List MV) (σ : MS) (K : Option MV → MS → Prop) : Prop := pR As fun s r => pI r fun i r => pN r (s = 2 ∧ σ.2.1 = PF ∧ 0 ≤ i ∧ i < σ.2.2.1 3 1 ∧ tOK σ.2.2.1 ∧ carOK σ.2.2.1 ∧ bst σ.2.2.1 ∧
  ∀ (I' : Int → Int → Int) (v : Int), frB σ.2.2.1 I' → bst I' → (0 < σ.2.2.1 (5 + i) 4 → I' 2 2 = 1 ∧ bestOK I' ∧ v = σ.2.2.1 (5 + i) 4 - I' 43 i) → (¬ 0 < σ.2.2.1 (5 + i) 4 → v = 0) → -200000 ≤ v → v ≤ 200000 → K (some (.inl v)) (σ.1, σ.2.1, I', σ.2.2.2))
def ciX7_behind : CI := (2, 7, 0, 0, spX7_behind)
def kX7_behind (pc : Nat) : List ME := match pc with
  | 0 => [(.aload_n 0, 1, []), (.getfield 12, 3, []), (.getfield 87, 3, []), (.iload_n 1, 1, []), (.aaload, 1, []), (.getfield 91, 3, []), (.istore_n 2, 1, []), (.iload_n 2, 1, []), (.ifCond .le 17, 3, [31]), (.iload_n 2, 1, []), (.aload_n 0, 1, []), (.invokevirtual 97, 3, []), (.getfield 101, 3, []), (.iload_n 1, 1, []), (.iaload, 1, []), (.isub, 1, []), (.goto 4, 3, [32])]
  | 31 => [(.iconst 0, 1, [])]
  | 32 => [(.ireturn, 1, [])]
  | _ => []
theorem qX7_behind : ∀ pc, chk cX7_behind pc (kX7_behind pc) = true := by
  intro pc
  unfold kX7_behind
  split <;> first | decide +kernel | exact chk_nil
abbrev rmX7_behind : Room := { frames := 5, cells := 0, slots := 0, locals := 120 }
def aX7_behind (x : Nat) : Option CI := match x with
  | 97 => some ciX7_bestWay
  | _ => none
theorem aokX7_behind : ∀ x ci, aX7_behind x = some ci → CalOK RX7 rmX7_behind x ci := by
  intro x ci h
  unfold aX7_behind at h
  split at h
  · cases h; exact cal_V mX7_bestWay (by decide) rfl (List.forall_mem_cons.mpr ⟨(ws_mem (List.mem_of_getElem? (i := 560) (by decide +kernel)) (by decide +kernel)), List.forall_mem_cons.mpr ⟨(ws_mem (List.mem_of_getElem? (i := 467) (by decide +kernel)) (by decide +kernel)), List.forall_mem_cons.mpr ⟨(ws_mem (List.mem_of_getElem? (i := 468) (by decide +kernel)) (by decide +kernel)), List.forall_mem_cons.mpr ⟨(ws_mem (List.mem_of_getElem? (i := 54) (by decide +kernel)) (by decide +kernel)), List.forall_mem_cons.mpr ⟨(ws_mem (List.mem_of_getElem? (i := 469) (by decide +kernel)) (by decide +kernel)), fun _ h => absurd h List.not_mem_nil⟩⟩⟩⟩⟩) rfl (by unfold nice; decide +kernel) (by unfold rfits; decide) ⟨rfl, rfl⟩
  · cases h
theorem ocX7_behind_97 (f : Nat → Nat → Nat → Nat → (List MV → MS → (Option MV → MS → Prop) → Prop) → Prop) : oC aX7_behind 97 f = f 1 7 0 0 spX7_bestWay := propext Iff.rfl
theorem mdX7_behind : MD RX7 cX7_behind rmX7_behind kX7_behind fX7 aX7_behind zX7 uX7 := ⟨fokX7, zokX7, uokX7, aokX7_behind, qX7_behind⟩
set_option maxRecDepth 100000 in
set_option maxHeartbeats 800000 in
theorem mX7_behind : MOK yX7_behind cX7_behind 3 (some .int) rmX7_behind ciX7_behind := by
  refine mok_of (ini := false) (by decide +kernel) (by decide) rfl rfl ?_
  intro σ As K hrc hl h
  obtain ⟨N, P, I, L⟩ := σ
  have h9 := pR_iff.mp h
  clear h
  obtain ⟨s, r, e9, h⟩ := h9
  subst e9
  have h9 := pI_iff.mp h
  clear h
  obtain ⟨i, r, e9, h⟩ := h9
  subst e9
  have h9 := pN_iff.mp h
  clear h
  obtain ⟨e9, h⟩ := h9
  subst e9
  dsimp only at h
  obtain ⟨rfl, rfl, i0, i1, ht, hc, hb, h⟩ := h
  have ht2 := ht.2.1
  have hp := PF_st (i := i) (by omega) (by omega)
  have hg := G_st (a := 5 + i) (by omega) (by omega)
  have hst := ht.2.2 i i0 i1
  unfold stOK at hst
  refine ⟨Nat.le_of_ble_eq_true rfl, Ok.seg mdX7_behind [] 60 ?_⟩
  simp only [wp_nil, wp_cons, ↓stp, ↓lI, ↓lL, ↓lR, ↓lIn_0, ↓lIn_1, ↓lIn_2, ↓lIn_3, ↓lLn_0, ↓lLn_1, ↓lLn_2, ↓lLn_3, ↓lRn_0, ↓lRn_1, ↓lRn_2, ↓lRn_3, ↓pI, ↓pL, ↓pR, ↓pA, ↓pN, ↓pV, ↓fp, ↓tsw, ↓oS, ↓spMax, ↓spMin, ↓spAbs, ↓spObj, RI, RLg, b2i_lo, b2i_hi, getL, setL, ltL, killL, isLong, inl, cnd, br, tgt, rcv, rpl, mputI, mputL, mputP, fv, fr, mcat, mcs, entL, entA, rfit, nf_0, nf_1, nf_2, nf_3, nf2_0, nf2_1, b2i_0, b2i_1, RI_b2i, b2i_fit, List.append, List.length, List.replicate, List.cons_append, List.nil_append, List.length_cons, List.length_nil, List.replicate_succ, List.replicate_zero, List.tail_cons, reduceIte, if_true, if_false, ite_true, ite_false, Bool.false_eq_true, true_and, and_true, and_self, false_and, and_false, or_self, or_true, true_or, or_false, false_or, not_true_eq_false, not_false_eq_true, ne_eq, forall_const, implies_true, imp_self, true_implies, false_implies, Nat.reduceAdd, Nat.reduceSub, Nat.reduceMul, Nat.reduceDiv, Nat.reduceMod, Nat.reduceEqDiff, Nat.reduceLT, Nat.reduceLeDiff, Nat.reduceBEq, Nat.add_zero, Nat.zero_add, Nat.le_refl, Nat.not_lt_zero, Nat.succ_eq_add_one, Int.reduceNatCast, Int.cast_ofNat_Int, Int.reduceSub, Int.reduceMul, Int.reduceNeg, Int.reduceLE, Int.reduceLT, Int.reduceToNat, Int.reduceEq, Int.reduceNe, Int.reduceAdd, Option.some.injEq, kX7_behind, rmX7_behind, ↓ofX7_101, ↓ofX7_12, ↓ofX7_87, ↓ofX7_91, ↓ocX7_behind_97, ↓spX7_bestWay, hp, hg, ht, hc, hb, G_1, G_2, G_3, G_4, G_35, G_36, G_37, G_38, G_39, G_40, G_41, G_42, G_43, G_44, G_45, G_46, G_47, G_48, G_49, G_140, G_141, G_142, G_143, G_144, G_145, G_146, G_178, G_179, G_180, G_181, G_182, G_183, G_184, G_189, G_198, G_207, PF_1_0, PF_1_1, PF_1_2, PF_1_3, PF_2_0, PF_2_1, PF_2_3, PF_2_4, PF_2_5, PF_2_6, PF_2_7, PF_2_8, PF_2_9, PF_2_10, PF_2_11, PF_3_0, PF_35_0, PF_35_1, PF_35_2, PF_35_3, PF_40_0, PF_40_1, PF_40_2, PF_44_0, PF_44_1, PF_44_2, PF_145_0, PF_145_1, PF_179_0, PF_179_1, PF_179_2, PF_179_3, PF_179_8, PF_179_9, PF_179_10]
  refine ⟨by omega, by omega, by omega, fun q => ?_, fun q I' h1 h2 h3 => ?_⟩
  · exact h I 0 frB.rf hb (fun z => by omega) (fun _ => rfl) (by omega) (by omega)
  · have ht' := tOK_c3 h1.c3 ht
    have e31 := h1 3 1 (by omega) (by omega) (by omega)
    have := best_tm ht' h2 i0 (by omega)
    exact ⟨i0, by omega, h I' _ h1 (.inr ⟨h3, h2⟩) (fun _ => ⟨h3, h2, rfl⟩) (fun z => by omega) (by omega) (by omega)⟩
end
section
/-! LapBoard$Ways.mostWanting -/
theorem Ach_hi {lm lm' : Int → Int → Int} {tm tm' : Int → Int → Int → Int} {rc : Int → Int} {bk n : Int} : ∀ (k : Nat) (i l p t : Int), 0 ≤ i → i + k < n → (∀ m l, i < m → m < n → 0 ≤ l → l ≤ 2 → lm m l = lm' m l) → (∀ m c q, i < m → m < n → tm m c q = tm' m c q) → (Ach lm tm rc bk k i l p t ↔ Ach lm' tm' rc bk k i l p t)
  | 0, i, l, p, t, i0, i1, h, h' => Iff.rfl
  | k + 1, i, l, p, t, i0, i1, h, h' => by
    have ih := fun l p t => Ach_hi (rc := rc) (bk := bk) k (i + 1) l p t (by omega) (by omega) (fun m l a b c d => h m l (by omega) b c d) (fun m c q a b => h' m c q (by omega) b)
    constructor
    · rintro ⟨l', q, t', a, ⟨b1, b2, b3, b4⟩, c, d⟩
      exact ⟨l', q, t', a, ⟨b1, b2, b3, by rw [← h _ _ (by omega) (by omega) a.2.2.1 a.2.2.2]; exact b4⟩, (ih l' q t').mp c, by rw [← h' _ _ _ (by omega) (by omega)]; exact d⟩
    · rintro ⟨l', q, t', a, ⟨b1, b2, b3, b4⟩, c, d⟩
      exact ⟨l', q, t', a, ⟨b1, b2, b3, by rw [h _ _ (by omega) (by omega) a.2.2.1 a.2.2.2]; exact b4⟩, (ih l' q t').mpr c, by rw [h' _ _ _ (by omega) (by omega)]; exact d⟩
theorem rowOK_hi {I J : Int → Int → Int} {bk i j l : Int} (i0 : 0 ≤ i) (hij : i ≤ j) (hj : j < I 3 1) (h48 : ∀ m l, i < m → 0 ≤ l → l ≤ 2 → J 48 (3 * m + l) = I 48 (3 * m + l)) (h37 : ∀ k, J 37 k = I 37 k) (h31 : J 3 1 = I 3 1) (hlen : ∀ m, 0 ≤ m → m < I 3 1 → J (5 + m) 1 = I (5 + m) 1) (hr : ∀ p, J (50 + (3 * j + l)) p = I (50 + (3 * j + l)) p) (h : rowOK I bk j l) : rowOK J bk j l := fun p p0 p1 => by
  rw [hr]
  refine ⟨(h p p0 p1).1, (h p p0 p1).2.cg (fun y => ?_)⟩
  unfold AchI
  rw [show kk J j = kk I j by unfold kk; rw [h31], show J 37 = I 37 from funext h37]
  refine Ach_hi (n := I 3 1) _ _ _ _ _ (by omega) (by unfold kk; omega) (fun m l a b c d => h48 m l (by omega) c d) (fun m c q a b => ?_)
  show tmv (J (5 + m) 1) c q = tmv (I (5 + m) 1) c q
  rw [hlen m (by omega) b]
/-- the base of one station 1 more -/
def rais (I : Int → Int → Int) (i : Int) : Int → Int → Int := upI I (5 + i) 2 (mn 60 (I (5 + i) 2 + 1))
def wnt (T : Int) (R : Int → Int) (n v : Int) : Prop := (v = -2 ∧ ∀ i, 0 ≤ i → i < n → T ≤ R i) ∨ (0 ≤ v ∧ v < n ∧ R v < T ∧ (∀ i, 0 ≤ i → i < v → R v < R i) ∧ ∀ i, v ≤ i → i < n → R v ≤ R i)
def wantV (I : Int → Int → Int) (v : Int) : Prop := ∃ (T : Int) (R : Int → Int), lapT I (I 36 0) (I 36 1) (I 36 2) T ∧ (∀ i, 0 ≤ i → i < I 3 1 → lapT (rais I i) (I 36 0) (I 36 1) (I 36 2) (R i)) ∧ wnt T R (I 3 1) v
def wle (T : Int) (R : Int → Int) (v : Int) : Int := if v < 0 then T else R v
theorem wnt_cg {T n v : Int} {R R' : Int → Int} (h : ∀ i, 0 ≤ i → i < n → R i = R' i) (hw : wnt T R n v) : wnt T R' n v := by
  rcases hw with ⟨a, b⟩ | ⟨a, b, c, d, e⟩
  · exact .inl ⟨a, fun i i0 i1 => by rw [← h i i0 i1]; exact b i i0 i1⟩
  · refine .inr ⟨a, b, by rw [← h v a b]; exact c, fun i i0 i1 => by rw [← h v a b, ← h i i0 (by omega)]; exact d i i0 i1, fun i i0 i1 => by rw [← h v a b, ← h i (by omega) i1]; exact e i i0 i1⟩
theorem wnt_no {T i v : Int} {R : Int → Int} (hw : wnt T R i v) (h : wle T R v ≤ R i) : wnt T R (i + 1) v := by
  unfold wle at h
  rcases hw with ⟨a, b⟩ | ⟨a, b, c, d, e⟩
  · rw [if_pos (by omega)] at h
    exact .inl ⟨a, fun j j0 j1 => by by_cases q : j = i; rw [q]; exact h; exact b j j0 (by omega)⟩
  · rw [if_neg (by omega)] at h
    exact .inr ⟨a, by omega, c, d, fun j j0 j1 => by by_cases q : j = i; rw [q]; exact h; exact e j j0 (by omega)⟩
theorem wnt_yes {T i v : Int} {R : Int → Int} (i0 : 0 ≤ i) (hw : wnt T R i v) (h : R i < wle T R v) : wnt T R (i + 1) i := by
  unfold wle at h
  rcases hw with ⟨a, b⟩ | ⟨a, b, c, d, e⟩
  · rw [if_pos (by omega)] at h
    refine .inr ⟨i0, by omega, h, fun j j0 j1 => by have := b j j0 j1; omega, fun j j0 j1 => by rw [show j = i by omega]; exact Int.le_refl _⟩
  · rw [if_neg (by omega)] at h
    refine .inr ⟨i0, by omega, by omega, fun j j0 j1 => ?_, fun j j0 j1 => by rw [show j = i by omega]; exact Int.le_refl _⟩
    by_cases q : j < v
    · have := d j j0 q; omega
    · have := e j (by omega) j1; omega
theorem wnt_v {T n v : Int} {R : Int → Int} (h : wnt T R n v) : -2 ≤ v ∧ (v < n ∨ v = -2) := by rcases h with h | h <;> omega
theorem rais_t {I : Int → Int → Int} {i : Int} (ht : tOK I) (i0 : 0 ≤ i) (i1 : i < I 3 1) : tOK (rais I i) := by
  have ht2 := ht.2.1
  have hs := ht.2.2 i i0 i1
  unfold stOK at hs
  have e3 : rais I i 3 1 = I 3 1 := upI_ne (by omega)
  refine ⟨by rw [e3]; exact ht.1, by rw [e3]; exact ht2, fun j j0 j1 => ?_⟩
  rw [e3] at j1
  by_cases e : j = i
  · subst e
    unfold rais stOK
    rw [upI_nj (show (0 : Int) ≠ 2 by omega), upI_nj (show (1 : Int) ≠ 2 by omega), upI_same, upI_nj (show (3 : Int) ≠ 2 by omega), upI_nj (show (4 : Int) ≠ 2 by omega)]
    have := @mn_le 60 (I (5 + j) 2 + 1)
    omega
  · exact stOK_cg (fun k => upI_ne (by omega)) (ht.2.2 j j0 j1)
def spX7_mostWanting (As : List MV) (σ : MS) (K : Option MV → MS → Prop) : Prop := pR As fun s r => pN r (s = 2 ∧ σ.2.1 = PF ∧ tOK σ.2.2.1 ∧ carOK σ.2.2.1 ∧
  ∀ (I' : Int → Int → Int) (v : Int), (∀ b k, b ≠ 48 → b ≠ 140 → b ≠ 141 → ¬ (50 ≤ b ∧ b ≤ 139) → I' b k = σ.2.2.1 b k) → wantV σ.2.2.1 v → K (some (.inl v)) (σ.1, σ.2.1, I', σ.2.2.2))
def ciX7_mostWanting : CI := (1, 7, 0, 0, spX7_mostWanting)
def kX7_mostWanting (pc : Nat) : List ME := match pc with
  | 0 => [(.aload_n 0, 1, []), (.getfield 21, 3, []), (.getfield 76, 3, []), (.iconst 0, 1, []), (.iaload, 1, []), (.istore_n 1, 1, []), (.aload_n 0, 1, []), (.getfield 21, 3, []), (.getfield 76, 3, []), (.iconst 1, 1, []), (.iaload, 1, []), (.istore_n 2, 1, []), (.aload_n 0, 1, []), (.getfield 21, 3, []), (.getfield 76, 3, []), (.iconst 2, 1, []), (.iaload, 1, []), (.istore_n 3, 1, []), (.aload_n 0, 1, []), (.iload_n 1, 1, []), (.iload_n 2, 1, []), (.iload_n 3, 1, []), (.invokevirtual 79, 3, []), (.istore 4, 2, []), (.bipush (-2), 2, []), (.istore 5, 2, []), (.iconst 0, 1, []), (.istore 6, 2, [])]
  | 46 => [(.iload 6, 2, []), (.aload_n 0, 1, []), (.getfield 12, 3, []), (.getfield 108, 3, []), (.if_icmp .ge 94, 3, [149]), (.aload_n 0, 1, []), (.getfield 12, 3, []), (.getfield 87, 3, []), (.iload 6, 2, []), (.aaload, 1, []), (.astore 7, 2, []), (.aload 7, 2, []), (.getfield 111, 3, []), (.istore 8, 2, []), (.aload 7, 2, []), (.bipush 60, 2, []), (.iload 8, 2, []), (.iconst 1, 1, []), (.iadd, 1, []), (.invokestatic 114, 3, []), (.putfield 111, 3, []), (.aload_n 0, 1, []), (.iload 6, 2, []), (.iload_n 1, 1, []), (.invokevirtual 120, 3, []), (.aload_n 0, 1, []), (.iload 6, 2, []), (.iconst 1, 1, []), (.isub, 1, []), (.iload_n 2, 1, []), (.invokevirtual 124, 3, []), (.aload_n 0, 1, []), (.iload_n 3, 1, []), (.invokevirtual 127, 3, []), (.istore 9, 2, []), (.aload 7, 2, []), (.iload 8, 2, []), (.putfield 111, 3, []), (.aload_n 0, 1, []), (.iload 6, 2, []), (.iload_n 1, 1, []), (.invokevirtual 120, 3, []), (.iload 9, 2, []), (.iload 4, 2, []), (.if_icmp .ge 11, 3, [143]), (.iload 9, 2, []), (.istore 4, 2, []), (.iload 6, 2, []), (.istore 5, 2, [])]
  | 143 => [(.iinc 6 1, 3, []), (.goto (-100), 3, [46])]
  | 149 => [(.iload 5, 2, []), (.ireturn, 1, [])]
  | _ => []
theorem qX7_mostWanting : ∀ pc, chk cX7_mostWanting pc (kX7_mostWanting pc) = true := by
  intro pc
  unfold kX7_mostWanting
  split <;> first | decide +kernel | exact chk_nil
abbrev rmX7_mostWanting : Room := { frames := 4, cells := 0, slots := 0, locals := 99 }
def aX7_mostWanting (x : Nat) : Option CI := match x with
  | 79 => some ciX7_solve
  | 114 => some ciMin
  | 120 => some ciX7_fillLimits
  | 124 => some ciX7_fillRests
  | 127 => some ciX7_leastLap
  | _ => none
theorem aokX7_mostWanting : ∀ x ci, aX7_mostWanting x = some ci → CalOK RX7 rmX7_mostWanting x ci := by
  intro x ci h
  unfold aX7_mostWanting at h
  split at h
  · cases h; exact cal_V mX7_solve (by decide) rfl (List.forall_mem_cons.mpr ⟨(ws_mem (List.mem_of_getElem? (i := 470) (by decide +kernel)) (by decide +kernel)), List.forall_mem_cons.mpr ⟨(ws_mem (List.mem_of_getElem? (i := 472) (by decide +kernel)) (by decide +kernel)), List.forall_mem_cons.mpr ⟨(ws_mem (List.mem_of_getElem? (i := 3) (by decide +kernel)) (by decide +kernel)), List.forall_mem_cons.mpr ⟨(ws_mem (List.mem_of_getElem? (i := 54) (by decide +kernel)) (by decide +kernel)), List.forall_mem_cons.mpr ⟨(ws_mem (List.mem_of_getElem? (i := 473) (by decide +kernel)) (by decide +kernel)), fun _ h => absurd h List.not_mem_nil⟩⟩⟩⟩⟩) rfl (by unfold nice; decide +kernel) (by unfold rfits; decide) ⟨rfl, rfl⟩
  · cases h; exact cal_min (List.forall_mem_cons.mpr ⟨(ws_mem (List.mem_of_getElem? (i := 490) (by decide +kernel)) (by decide +kernel)), List.forall_mem_cons.mpr ⟨(ws_mem (List.mem_of_getElem? (i := 155) (by decide +kernel)) (by decide +kernel)), List.forall_mem_cons.mpr ⟨(ws_mem (List.mem_of_getElem? (i := 58) (by decide +kernel)) (by decide +kernel)), List.forall_mem_cons.mpr ⟨(ws_mem (List.mem_of_getElem? (i := 156) (by decide +kernel)) (by decide +kernel)), fun _ h => absurd h List.not_mem_nil⟩⟩⟩⟩) (by decide)
  · cases h; exact cal_V mX7_fillLimits (by decide) rfl (List.forall_mem_cons.mpr ⟨(ws_mem (List.mem_of_getElem? (i := 474) (by decide +kernel)) (by decide +kernel)), List.forall_mem_cons.mpr ⟨(ws_mem (List.mem_of_getElem? (i := 476) (by decide +kernel)) (by decide +kernel)), List.forall_mem_cons.mpr ⟨(ws_mem (List.mem_of_getElem? (i := 4) (by decide +kernel)) (by decide +kernel)), List.forall_mem_cons.mpr ⟨(ws_mem (List.mem_of_getElem? (i := 54) (by decide +kernel)) (by decide +kernel)), List.forall_mem_cons.mpr ⟨(ws_mem (List.mem_of_getElem? (i := 477) (by decide +kernel)) (by decide +kernel)), fun _ h => absurd h List.not_mem_nil⟩⟩⟩⟩⟩) rfl (by unfold nice; decide +kernel) (by unfold rfits; decide) ⟨rfl, rfl⟩
  · cases h; exact cal_V mX7_fillRests (by decide) rfl (List.forall_mem_cons.mpr ⟨(ws_mem (List.mem_of_getElem? (i := 479) (by decide +kernel)) (by decide +kernel)), List.forall_mem_cons.mpr ⟨(ws_mem (List.mem_of_getElem? (i := 481) (by decide +kernel)) (by decide +kernel)), List.forall_mem_cons.mpr ⟨(ws_mem (List.mem_of_getElem? (i := 5) (by decide +kernel)) (by decide +kernel)), List.forall_mem_cons.mpr ⟨(ws_mem (List.mem_of_getElem? (i := 54) (by decide +kernel)) (by decide +kernel)), List.forall_mem_cons.mpr ⟨(ws_mem (List.mem_of_getElem? (i := 482) (by decide +kernel)) (by decide +kernel)), fun _ h => absurd h List.not_mem_nil⟩⟩⟩⟩⟩) rfl (by unfold nice; decide +kernel) (by unfold rfits; decide) ⟨rfl, rfl⟩
  · cases h; exact cal_V mX7_leastLap (by decide) rfl (List.forall_mem_cons.mpr ⟨(ws_mem (List.mem_of_getElem? (i := 495) (by decide +kernel)) (by decide +kernel)), List.forall_mem_cons.mpr ⟨(ws_mem (List.mem_of_getElem? (i := 497) (by decide +kernel)) (by decide +kernel)), List.forall_mem_cons.mpr ⟨(ws_mem (List.mem_of_getElem? (i := 8) (by decide +kernel)) (by decide +kernel)), List.forall_mem_cons.mpr ⟨(ws_mem (List.mem_of_getElem? (i := 54) (by decide +kernel)) (by decide +kernel)), List.forall_mem_cons.mpr ⟨(ws_mem (List.mem_of_getElem? (i := 498) (by decide +kernel)) (by decide +kernel)), fun _ h => absurd h List.not_mem_nil⟩⟩⟩⟩⟩) rfl (by unfold nice; decide +kernel) (by unfold rfits; decide) ⟨rfl, rfl⟩
  · cases h
theorem ocX7_mostWanting_79 (f : Nat → Nat → Nat → Nat → (List MV → MS → (Option MV → MS → Prop) → Prop) → Prop) : oC aX7_mostWanting 79 f = f 4 7 0 0 spX7_solve := propext Iff.rfl
theorem ocX7_mostWanting_114 (f : Nat → Nat → Nat → Nat → (List MV → MS → (Option MV → MS → Prop) → Prop) → Prop) : oC aX7_mostWanting 114 f = f 2 10 0 0 spMin := propext Iff.rfl
theorem ocX7_mostWanting_120 (f : Nat → Nat → Nat → Nat → (List MV → MS → (Option MV → MS → Prop) → Prop) → Prop) : oC aX7_mostWanting 120 f = f 3 7 0 0 spX7_fillLimits := propext Iff.rfl
theorem ocX7_mostWanting_124 (f : Nat → Nat → Nat → Nat → (List MV → MS → (Option MV → MS → Prop) → Prop) → Prop) : oC aX7_mostWanting 124 f = f 3 7 0 0 spX7_fillRests := propext Iff.rfl
theorem ocX7_mostWanting_127 (f : Nat → Nat → Nat → Nat → (List MV → MS → (Option MV → MS → Prop) → Prop) → Prop) : oC aX7_mostWanting 127 f = f 2 7 0 0 spX7_leastLap := propext Iff.rfl
theorem mdX7_mostWanting : MD RX7 cX7_mostWanting rmX7_mostWanting kX7_mostWanting fX7 aX7_mostWanting zX7 uX7 := ⟨fokX7, zokX7, uokX7, aokX7_mostWanting, qX7_mostWanting⟩
set_option maxHeartbeats 1600000 in
set_option maxRecDepth 100000 in
theorem lpX7_w1 {post : Option MV → MS → Prop} {U : Pt → Prop} {N : Nat} {I L : Int → Int → Int} {T : Int} (ht : tOK I) (hc : carOK I) (hT : lapT I (I 36 0) (I 36 1) (I 36 2) T)
    (h : ∀ (I1 : Int → Int → Int) (v : Int), (∀ b k, b ≠ 48 → b ≠ 140 → b ≠ 141 → ¬ (50 ≤ b ∧ b ≤ 139) → I1 b k = I b k) → wantV I v → post (some (.inl v)) (N, PF, I1, L)) :
    ∀ (m : Nat) (i v : Int) (R : Int → Int) (I1 : Int → Int → Int) (t7 t8 t9 : Option MV), i + m = I 3 1 → 0 ≤ i → (∀ b k, b ≠ 48 → b ≠ 140 → b ≠ 141 → ¬ (50 ≤ b ∧ b ≤ 139) → I1 b k = I b k) → limOK I1 (I 36 0) → (∀ j l, i ≤ j → j < I 3 1 → 0 ≤ l → l ≤ 2 → rowOK I1 (I 36 1) j l) → (∀ j, 0 ≤ j → j < i → lapT (rais I j) (I 36 0) (I 36 1) (I 36 2) (R j)) → wnt T R i v →
    Ok RX7 cX7_mostWanting 10 rmX7_mostWanting false none post U (46, [some (.inr (.inr (some 2))), some (.inl (I 36 0)), some (.inl (I 36 1)), some (.inl (I 36 2)), some (.inl (wle T R v)), some (.inl v), some (.inl i), t7, t8, t9], [], (N, PF, I1, L), 0, 0)
  | 0, i, v, R, I1, t7, t8, t9, hm, i0, h1, h2, h3, h4, h5 => by
    have ht2 := ht.2.1
    have e31 : I1 3 1 = I 3 1 := h1 3 1 (by omega) (by omega) (by omega) (by omega)
    refine Ok.seg mdX7_mostWanting [46] 10 ?_
    simp only [wp_nil, wp_cons, ↓stp, ↓lI, ↓lL, ↓lR, ↓lIn_0, ↓lIn_1, ↓lIn_2, ↓lIn_3, ↓lLn_0, ↓lLn_1, ↓lLn_2, ↓lLn_3, ↓lRn_0, ↓lRn_1, ↓lRn_2, ↓lRn_3, ↓pI, ↓pL, ↓pR, ↓pA, ↓pN, ↓pV, ↓fp, ↓tsw, ↓oS, ↓spMax, ↓spMin, ↓spAbs, ↓spObj, RI, RLg, b2i_lo, b2i_hi, getL, setL, ltL, killL, isLong, inl, cnd, br, tgt, rcv, rpl, mputI, mputL, mputP, fv, fr, mcat, mcs, entL, entA, rfit, nf_0, nf_1, nf_2, nf_3, nf2_0, nf2_1, b2i_0, b2i_1, RI_b2i, b2i_fit, List.append, List.length, List.replicate, List.cons_append, List.nil_append, List.length_cons, List.length_nil, List.replicate_succ, List.replicate_zero, List.tail_cons, reduceIte, if_true, if_false, ite_true, ite_false, Bool.false_eq_true, true_and, and_true, and_self, false_and, and_false, or_self, or_true, true_or, or_false, false_or, not_true_eq_false, not_false_eq_true, ne_eq, forall_const, implies_true, imp_self, true_implies, false_implies, Nat.reduceAdd, Nat.reduceSub, Nat.reduceMul, Nat.reduceDiv, Nat.reduceMod, Nat.reduceEqDiff, Nat.reduceLT, Nat.reduceLeDiff, Nat.reduceBEq, Nat.add_zero, Nat.zero_add, Nat.le_refl, Nat.not_lt_zero, Nat.succ_eq_add_one, Int.reduceNatCast, Int.cast_ofNat_Int, Int.reduceSub, Int.reduceMul, Int.reduceNeg, Int.reduceLE, Int.reduceLT, Int.reduceToNat, Int.reduceEq, Int.reduceNe, Int.reduceAdd, Option.some.injEq, kX7_mostWanting, rmX7_mostWanting, ↓ofX7_108, ↓ofX7_111, ↓ofX7_12, ↓ofX7_21, ↓ofX7_76, ↓ofX7_87, ↓ocX7_mostWanting_79, ↓spX7_solve, ↓ocX7_mostWanting_114, ↓ocX7_mostWanting_120, ↓spX7_fillLimits, ↓ocX7_mostWanting_124, ↓spX7_fillRests, ↓ocX7_mostWanting_127, ↓spX7_leastLap, e31, G_1, G_2, G_3, G_4, G_35, G_36, G_37, G_38, G_39, G_40, G_41, G_42, G_43, G_44, G_45, G_46, G_47, G_48, G_49, G_140, G_141, G_142, G_143, G_144, G_145, G_146, G_178, G_179, G_180, G_181, G_182, G_183, G_184, G_189, G_198, G_207, PF_1_0, PF_1_1, PF_1_2, PF_1_3, PF_2_0, PF_2_1, PF_2_3, PF_2_4, PF_2_5, PF_2_6, PF_2_7, PF_2_8, PF_2_9, PF_2_10, PF_2_11, PF_3_0, PF_35_0, PF_35_1, PF_35_2, PF_35_3, PF_40_0, PF_40_1, PF_40_2, PF_44_0, PF_44_1, PF_44_2, PF_145_0, PF_145_1, PF_179_0, PF_179_1, PF_179_2, PF_179_3, PF_179_8, PF_179_9, PF_179_10]
    have := wnt_v h5
    refine ⟨by omega, by omega, fun q => h I1 v h1 ⟨T, R, hT, fun j a b => h4 j a (by omega), ?_⟩, fun q => by omega⟩
    rwa [show i = I 3 1 by omega] at h5
  | m + 1, i, v, R, I1, t7, t8, t9, hm, i0, h1, h2, h3, h4, h5 => by
    have ht2 := ht.2.1
    have ih := lpX7_w1 (U := U) ht hc hT h m (i + 1)
    have e31 : I1 3 1 = I 3 1 := h1 3 1 (by omega) (by omega) (by omega) (by omega)
    have hp := PF_st (i := i) (by omega) (by omega)
    have hg := G_st (a := 5 + i) (by omega) (by omega)
    have hst := ht.2.2 i i0 (by omega)
    unfold stOK at hst
    have eb : ∀ k, I1 (5 + i) k = I (5 + i) k := fun k => h1 _ k (by omega) (by omega) (by omega) (by omega)
    have hn := hc.2
    unfold nOK at hn
    refine Ok.seg mdX7_mostWanting [46] 60 ?_
    simp only [wp_nil, wp_cons, ↓stp, ↓lI, ↓lL, ↓lR, ↓lIn_0, ↓lIn_1, ↓lIn_2, ↓lIn_3, ↓lLn_0, ↓lLn_1, ↓lLn_2, ↓lLn_3, ↓lRn_0, ↓lRn_1, ↓lRn_2, ↓lRn_3, ↓pI, ↓pL, ↓pR, ↓pA, ↓pN, ↓pV, ↓fp, ↓tsw, ↓oS, ↓spMax, ↓spMin, ↓spAbs, ↓spObj, RI, RLg, b2i_lo, b2i_hi, getL, setL, ltL, killL, isLong, inl, cnd, br, tgt, rcv, rpl, mputI, mputL, mputP, fv, fr, mcat, mcs, entL, entA, rfit, nf_0, nf_1, nf_2, nf_3, nf2_0, nf2_1, b2i_0, b2i_1, RI_b2i, b2i_fit, List.append, List.length, List.replicate, List.cons_append, List.nil_append, List.length_cons, List.length_nil, List.replicate_succ, List.replicate_zero, List.tail_cons, reduceIte, if_true, if_false, ite_true, ite_false, Bool.false_eq_true, true_and, and_true, and_self, false_and, and_false, or_self, or_true, true_or, or_false, false_or, not_true_eq_false, not_false_eq_true, ne_eq, forall_const, implies_true, imp_self, true_implies, false_implies, Nat.reduceAdd, Nat.reduceSub, Nat.reduceMul, Nat.reduceDiv, Nat.reduceMod, Nat.reduceEqDiff, Nat.reduceLT, Nat.reduceLeDiff, Nat.reduceBEq, Nat.add_zero, Nat.zero_add, Nat.le_refl, Nat.not_lt_zero, Nat.succ_eq_add_one, Int.reduceNatCast, Int.cast_ofNat_Int, Int.reduceSub, Int.reduceMul, Int.reduceNeg, Int.reduceLE, Int.reduceLT, Int.reduceToNat, Int.reduceEq, Int.reduceNe, Int.reduceAdd, Option.some.injEq, kX7_mostWanting, rmX7_mostWanting, ↓ofX7_108, ↓ofX7_111, ↓ofX7_12, ↓ofX7_21, ↓ofX7_76, ↓ofX7_87, ↓ocX7_mostWanting_79, ↓spX7_solve, ↓ocX7_mostWanting_114, ↓ocX7_mostWanting_120, ↓spX7_fillLimits, ↓ocX7_mostWanting_124, ↓spX7_fillRests, ↓ocX7_mostWanting_127, ↓spX7_leastLap, e31, hp, hg, eb, G_1, G_2, G_3, G_4, G_35, G_36, G_37, G_38, G_39, G_40, G_41, G_42, G_43, G_44, G_45, G_46, G_47, G_48, G_49, G_140, G_141, G_142, G_143, G_144, G_145, G_146, G_178, G_179, G_180, G_181, G_182, G_183, G_184, G_189, G_198, G_207, PF_1_0, PF_1_1, PF_1_2, PF_1_3, PF_2_0, PF_2_1, PF_2_3, PF_2_4, PF_2_5, PF_2_6, PF_2_7, PF_2_8, PF_2_9, PF_2_10, PF_2_11, PF_3_0, PF_35_0, PF_35_1, PF_35_2, PF_35_3, PF_40_0, PF_40_1, PF_40_2, PF_44_0, PF_44_1, PF_44_2, PF_145_0, PF_145_1, PF_179_0, PF_179_1, PF_179_2, PF_179_3, PF_179_8, PF_179_9, PF_179_10]
    have lo1 : ∀ b k, b < 40 → I1 b k = I b k := fun b k hb => h1 b k (by omega) (by omega) (by omega) (by omega)
    refine ⟨by omega, by omega, fun q => by omega, fun q => ⟨i0, by omega, by omega, fun r r0 r1 r2 => ?_⟩⟩
    have er : r = mn 60 (I (5 + i) 2 + 1) := mn_of r0 r1 r2
    have eraise : ∀ b k, b < 40 → upI I1 (5 + i) 2 r b k = rais I i b k := fun b k hb => by
      unfold rais upI
      rw [lo1 b k hb, er]
    have htR := rais_t ht i0 (by omega)
    have eR3 : rais I i 3 1 = I 3 1 := upI_ne (by omega)
    have hcR : carOK (rais I i) := carOK_cg (I := I) (J := fun b k => if b < 36 then I b k else rais I i b k) (fun b k hb => by
      show (if b < 36 then I b k else rais I i b k) = I b k
      by_cases e : b < 36
      · rw [if_pos e]
      · rw [if_neg e]; exact upI_ne (by omega)) hc
    refine ⟨i0, by omega, stOK_cg (fun k => eraise _ k (by omega)) (htR.2.2 i i0 (by omega)), by omega, by omega, fun I2 k1 k2 => ?_⟩
    have lo2 : ∀ b k, b < 40 → I2 b k = rais I i b k := fun b k hb => (k1 b k (by omega)).trans (eraise b k hb)
    have e32 : I2 3 1 = I 3 1 := (lo2 3 1 (by omega)).trans eR3
    have ht2' := tOK_cg lo2 htR
    have hc2 := carOK_cg lo2 hcR
    have hlim2 : limOK I2 (I 36 0) := fun j l j0 j1 l0 l1 => by
      by_cases e : j = i
      · subst e
        rw [k2 l l0 l1]; exact (lmv_cg (fun k => k1 _ k (by omega))).symm
      · rw [k1 48 _ (by omega), upI_ne (by omega), h2 j l j0 (by rw [e31]; omega) l0 l1]
        exact (lmv_cg (fun k => by rw [k1 _ k (by omega), upI_ne (by omega)])).symm
    refine ⟨by omega, by omega, by omega, by omega, ht2', hc2, hlim2.R, fun j l j0 j1 l0 l1 => ?_, fun I3 j1 j2 j3 => ?_⟩
    · refine rowOK_hi (I := I1) i0 (by omega) (by omega) (fun m l a b c => ?_) (fun k => ?_) (e32.trans e31.symm) (fun m a b => ?_) (fun p => ?_) (h3 j l (by omega) (by omega) l0 l1)
      · rw [k1 48 _ (by omega), upI_ne (by omega)]
      · rw [k1 37 k (by omega), upI_ne (by omega)]
      · rw [k1 _ 1 (by omega)]; exact upI_nj (by omega)
      · rw [k1 _ p (by omega), upI_ne (by omega)]
    · have lo3 : ∀ b k, b < 40 → I3 b k = I2 b k := fun b k hb => j1 b k (by omega) (by omega) (by omega)
      have e33 : I3 3 1 = I 3 1 := (lo3 3 1 (by omega)).trans e32
      have ht3 := tOK_cg lo3 ht2'
      have hc3 := carOK_cg lo3 hc2
      have hlim3 : limOK I3 (I 36 0) := limOK_cg ⟨lo3, fun k => j1 48 k (by omega) (by omega) (by omega)⟩ (by omega) hlim2
      refine ⟨by omega, by omega, ht3, hlim3.R, I 36 1, fun l a b c => j2 0 l (by omega) (by omega) b c, fun v1 hv => ?_⟩
      have hT3 := lapT_of ht3 hc3 hlim3 (by omega) (by omega) hv
      have lo23 : ∀ b k, b < 40 → I3 b k = rais I i b k := fun b k hb => (lo3 b k hb).trans (lo2 b k hb)
      have hTR : lapT (rais I i) (I 36 0) (I 36 1) (I 36 2) v1 := lapT_cg (tsame_of (I := rais I i) lo23 (by omega)).sy hT3
      have hv1 := lapT_rng htR hTR
      have eI3 : ∀ b k, b < 40 → upI I3 (5 + i) 2 (I (5 + i) 2) b k = I b k := fun b k hb => by
        by_cases e : b = 5 + i ∧ k = 2
        · rw [e.1, e.2]; exact upI_same
        · rw [show upI I3 (5 + i) 2 (I (5 + i) 2) b k = I3 b k from if_neg e, lo23 b k hb]; exact if_neg e
      refine ⟨i0, by omega, stOK_cg (fun k => eI3 _ k (by omega)) (ht.2.2 i i0 (by omega)), by omega, by omega, fun I4 n1 n2 => ?_⟩
      have lo4 : ∀ b k, b < 40 → I4 b k = I b k := fun b k hb => (n1 b k (by omega)).trans (eI3 b k hb)
      have h14 : ∀ b k, b ≠ 48 → b ≠ 140 → b ≠ 141 → ¬ (50 ≤ b ∧ b ≤ 139) → I4 b k = I b k := fun b k b1 b2 b3 b4 => by
        by_cases e : b < 40
        · exact lo4 b k e
        · rw [n1 b k (by omega), upI_ne (by omega), j1 b k b2 b3 b4, k1 b k (by omega), upI_ne (by omega)]; exact h1 b k b1 b2 b3 b4
      have e34 : I4 3 1 = I 3 1 := lo4 3 1 (by omega)
      have hlim4 : limOK I4 (I 36 0) := fun j l j0 j1' l0 l1 => by
        by_cases e : j = i
        · subst e
          rw [n2 l l0 l1]; exact (lmv_cg (fun k => n1 _ k (by omega))).symm
        · rw [n1 48 _ (by omega), upI_ne (by omega), hlim3 j l j0 (by omega) l0 l1]
          exact (lmv_cg (fun k => by rw [n1 _ k (by omega), upI_ne (by omega)])).symm
      have hrow4 : ∀ j l, i + 1 ≤ j → j < I 3 1 → 0 ≤ l → l ≤ 2 → rowOK I4 (I 36 1) j l := fun j l j0 j1' l0 l1 => by
        refine rowOK_hi (I := I3) i0 (by omega) (by omega) (fun m l a b c => ?_) (fun k => ?_) (e34.trans e33.symm) (fun m a b => ?_) (fun p => ?_) (j2 j l (by omega) (by omega) l0 l1)
        · rw [n1 48 _ (by omega), upI_ne (by omega)]
        · rw [n1 37 k (by omega), upI_ne (by omega)]
        · rw [n1 _ 1 (by omega)]; exact upI_nj (by omega)
        · rw [n1 _ p (by omega), upI_ne (by omega)]
      have fin : ∀ (R' : Int → Int) v', wnt T R' (i + 1) v' → R' = (fun j => if j = i then v1 else R j) → ∀ t7 t8 t9, Ok RX7 cX7_mostWanting 10 rmX7_mostWanting false none post U (46, [some (.inr (.inr (some 2))), some (.inl (I 36 0)), some (.inl (I 36 1)), some (.inl (I 36 2)), some (.inl (wle T R' v')), some (.inl v'), some (.inl (i + 1)), t7, t8, t9], [], (N, PF, I4, L), 0, 0) := fun R' v' hw e t7 t8 t9 => by
        refine ih v' R' I4 t7 t8 t9 (by omega) (by omega) h14 hlim4 hrow4 (fun j j0 j1' => ?_) hw
        rw [e]
        show lapT _ _ _ _ (if j = i then v1 else R j)
        by_cases q : j = i
        · rw [if_pos q, q]; exact hTR
        · rw [if_neg q]; exact h4 j j0 (by omega)
      have hR' : wnt T (fun j => if j = i then v1 else R j) i v := wnt_cg (fun j a b => (if_neg (by omega)).symm) h5
      have hvv := wnt_v h5
      have ewl : wle T (fun j => if j = i then v1 else R j) v = wle T R v := by
        unfold wle
        by_cases q : v < 0
        · rw [if_pos q, if_pos q]
        · rw [if_neg q, if_neg q]; exact if_neg (by omega)
      have ewr : 0 ≤ wle T R v ∧ wle T R v ≤ 3030000 := by
        unfold wle
        by_cases q : v < 0
        · rw [if_pos q]; exact lapT_rng ht hT
        · rw [if_neg q]; exact lapT_rng (rais_t ht (by omega) (by omega)) (h4 v (by omega) (by omega))
      refine ⟨by omega, by omega, fun q2 => ?_, fun q2 => ?_⟩
      · rw [← ewl] at q2 ⊢
        exact fin _ v (wnt_no hR' (by show wle T (fun j => if j = i then v1 else R j) v ≤ (if i = i then v1 else R i); rw [if_pos rfl]; exact q2)) rfl _ _ _
      · rw [← ewl] at q2
        have := fin _ i (wnt_yes i0 hR' (by show (if i = i then v1 else R i) < wle T (fun j => if j = i then v1 else R j) v; rw [if_pos rfl]; omega)) rfl (some (.inr (.inr (some (5 + i))))) (some (.inl (I (5 + i) 2))) (some (.inl v1))
        rw [show wle T (fun j => if j = i then v1 else R j) i = v1 by unfold wle; rw [if_neg (by omega)]; exact if_pos rfl] at this
        exact this
set_option maxRecDepth 100000 in
set_option maxHeartbeats 800000 in
theorem mX7_mostWanting : MOK yX7_mostWanting cX7_mostWanting 10 (some .int) rmX7_mostWanting ciX7_mostWanting := by
  refine mok_of (ini := false) (by decide +kernel) (by decide) rfl rfl ?_
  intro σ As K hrc hl h
  obtain ⟨N, P, I, L⟩ := σ
  have h9 := pR_iff.mp h
  clear h
  obtain ⟨s, r, e9, h⟩ := h9
  subst e9
  have h9 := pN_iff.mp h
  clear h
  obtain ⟨e9, h⟩ := h9
  subst e9
  dsimp only at h
  obtain ⟨rfl, rfl, ht, hc, h⟩ := h
  have hn := hc.2
  unfold nOK at hn
  refine ⟨Nat.le_of_ble_eq_true rfl, Ok.seg mdX7_mostWanting [46] 60 ?_⟩
  simp only [wp_nil, wp_cons, ↓stp, ↓lI, ↓lL, ↓lR, ↓lIn_0, ↓lIn_1, ↓lIn_2, ↓lIn_3, ↓lLn_0, ↓lLn_1, ↓lLn_2, ↓lLn_3, ↓lRn_0, ↓lRn_1, ↓lRn_2, ↓lRn_3, ↓pI, ↓pL, ↓pR, ↓pA, ↓pN, ↓pV, ↓fp, ↓tsw, ↓oS, ↓spMax, ↓spMin, ↓spAbs, ↓spObj, RI, RLg, b2i_lo, b2i_hi, getL, setL, ltL, killL, isLong, inl, cnd, br, tgt, rcv, rpl, mputI, mputL, mputP, fv, fr, mcat, mcs, entL, entA, rfit, nf_0, nf_1, nf_2, nf_3, nf2_0, nf2_1, b2i_0, b2i_1, RI_b2i, b2i_fit, List.append, List.length, List.replicate, List.cons_append, List.nil_append, List.length_cons, List.length_nil, List.replicate_succ, List.replicate_zero, List.tail_cons, reduceIte, if_true, if_false, ite_true, ite_false, Bool.false_eq_true, true_and, and_true, and_self, false_and, and_false, or_self, or_true, true_or, or_false, false_or, not_true_eq_false, not_false_eq_true, ne_eq, forall_const, implies_true, imp_self, true_implies, false_implies, Nat.reduceAdd, Nat.reduceSub, Nat.reduceMul, Nat.reduceDiv, Nat.reduceMod, Nat.reduceEqDiff, Nat.reduceLT, Nat.reduceLeDiff, Nat.reduceBEq, Nat.add_zero, Nat.zero_add, Nat.le_refl, Nat.not_lt_zero, Nat.succ_eq_add_one, Int.reduceNatCast, Int.cast_ofNat_Int, Int.reduceSub, Int.reduceMul, Int.reduceNeg, Int.reduceLE, Int.reduceLT, Int.reduceToNat, Int.reduceEq, Int.reduceNe, Int.reduceAdd, Option.some.injEq, kX7_mostWanting, rmX7_mostWanting, ↓ofX7_108, ↓ofX7_111, ↓ofX7_12, ↓ofX7_21, ↓ofX7_76, ↓ofX7_87, ↓ocX7_mostWanting_79, ↓spX7_solve, ↓ocX7_mostWanting_114, ↓ocX7_mostWanting_120, ↓spX7_fillLimits, ↓ocX7_mostWanting_124, ↓spX7_fillRests, ↓ocX7_mostWanting_127, ↓spX7_leastLap, G_1, G_2, G_3, G_4, G_35, G_36, G_37, G_38, G_39, G_40, G_41, G_42, G_43, G_44, G_45, G_46, G_47, G_48, G_49, G_140, G_141, G_142, G_143, G_144, G_145, G_146, G_178, G_179, G_180, G_181, G_182, G_183, G_184, G_189, G_198, G_207, PF_1_0, PF_1_1, PF_1_2, PF_1_3, PF_2_0, PF_2_1, PF_2_3, PF_2_4, PF_2_5, PF_2_6, PF_2_7, PF_2_8, PF_2_9, PF_2_10, PF_2_11, PF_3_0, PF_35_0, PF_35_1, PF_35_2, PF_35_3, PF_40_0, PF_40_1, PF_40_2, PF_44_0, PF_44_1, PF_44_2, PF_145_0, PF_145_1, PF_179_0, PF_179_1, PF_179_2, PF_179_3, PF_179_8, PF_179_9, PF_179_10]
  refine ⟨by omega, by omega, by omega, by omega, by omega, by omega, ht, hc, fun I1 v h1 h2 h3 => ?_⟩
  have lo1 := slv_frame h1
  have hT := lapT_of (tOK_cg lo1 ht) (carOK_cg lo1 hc) h2.1 (by omega) (by omega) h3
  have hT2 := lapT_cg (tsame_of lo1 ht.2.1).sy hT
  have := lpX7_w1 (post := fun r σ' => rfit (some .int) r ∧ K r σ') (U := fun _ => False) (N := N) (L := L) ht hc hT2 (fun I1 v a b => ⟨trivial, h I1 v a b⟩) (I 3 1).toNat 0 (-2) (fun _ => 0) I1 none none none (by have := ht.1; omega) (by omega) h1 h2.1 (fun j l a b c d => h2.2 j l (by omega) (by rw [lo1 3 1 (by omega)]; exact b) c d) (fun j a b => by omega) (.inl ⟨rfl, fun j a b => by omega⟩)
  exact this
end
section
/-! LapBoard$Store: fill, gainsOf, leastSet -/
def mxv (x y : Int) : Int := if x ≤ y then y else x
theorem mxv_of {x y r : Int} (h1 : x ≤ r) (h2 : y ≤ r) (h3 : r = x ∨ r = y) : r = mxv x y := by unfold mxv; split <;> omega
/-- the most gains of the first i stations by u units -/
def gv (c g : Int → Int) : Nat → Int → Int
  | 0, _ => 0
  | i + 1, u => if c i ≤ u then mxv (gv c g i u) (gv c g i (u - c i) + g i) else gv c g i u
theorem gv_rng {c g : Int → Int} {n : Nat} {M : Int} (hg : ∀ i, 0 ≤ i → i < n → 0 ≤ g i ∧ g i ≤ M) : ∀ (i : Nat) (u : Int), i ≤ n → 0 ≤ gv c g i u ∧ gv c g i u ≤ i * M
  | 0, u, _ => by simp [gv]
  | i + 1, u, h => by
    have a := gv_rng (c := c) hg i u (by omega)
    have b := gv_rng (c := c) hg i (u - c i) (by omega)
    have d := hg i (by omega) (by omega)
    have e : ((i + 1 : Nat) : Int) * M = i * M + M := by rw [Int.natCast_add, Int.add_mul]; simp
    unfold gv mxv
    repeat' split
    all_goals omega
theorem gv_cg {c c' g g' : Int → Int} : ∀ (i : Nat) (u : Int), (∀ j, 0 ≤ j → j < i → c j = c' j) → (∀ j, 0 ≤ j → j < i → g j = g' j) → gv c g i u = gv c' g' i u
  | 0, u, _, _ => rfl
  | i + 1, u, h, h' => by
    unfold gv
    rw [h i (by omega) (by omega), h' i (by omega) (by omega), gv_cg i u (fun j a b => h j a (by omega)) (fun j a b => h' j a (by omega)), gv_cg i (u - c' i) (fun j a b => h j a (by omega)) (fun j a b => h' j a (by omega))]
def or1 (x i : Int) : Int := (Int32.ofInt x ||| Int32.ofInt (Int32.ofInt 1 <<< (Int32.ofInt i &&& 31)).toInt).toInt
/-- the least set, from station i - 1 back -/
def wst (c g : Int → Int) : Nat → Int → Int → Int
  | 0, x, _ => x
  | i + 1, x, u => if gv c g (i + 1) u = gv c g i u then wst c g i x u else wst c g i (or1 x i) (u - c i)
theorem wst_cg {c c' g g' : Int → Int} : ∀ (i : Nat) (x u : Int), (∀ j, 0 ≤ j → j < i → c j = c' j) → (∀ j, 0 ≤ j → j < i → g j = g' j) → wst c g i x u = wst c' g' i x u
  | 0, x, u, _, _ => rfl
  | i + 1, x, u, h, h' => by
    unfold wst
    rw [gv_cg (i + 1) u h h', gv_cg i u (fun j a b => h j a (by omega)) (fun j a b => h' j a (by omega)), h i (by omega) (by omega), wst_cg i x u (fun j a b => h j a (by omega)) (fun j a b => h' j a (by omega)), wst_cg i (or1 x i) (u - c' i) (fun j a b => h j a (by omega)) (fun j a b => h' j a (by omega))]
theorem or1_rng (x i : Int) : RI (or1 x i) := ⟨Int32.le_toInt _, Int32.toInt_lt _⟩
theorem wst_rng {c g : Int → Int} : ∀ (i : Nat) (x u : Int), RI x → RI (wst c g i x u)
  | 0, x, u, h => h
  | i + 1, x, u, h => by
    unfold wst
    split
    · exact wst_rng i x u h
    · exact wst_rng i _ _ (or1_rng _ _)
def stC (I : Int → Int → Int) (i : Int) : Int := (I (5 + i) 1).tdiv 10 + 1
def stG (I : Int → Int → Int) (i : Int) : Int := (I 43 i).tdiv 10
theorem td10 {x : Int} (h : 0 ≤ x) : 10 * x.tdiv 10 ≤ x ∧ x < 10 * x.tdiv 10 + 10 ∧ 0 ≤ x.tdiv 10 := by
  rw [Int.tdiv_eq_ediv_of_nonneg h]; omega
theorem stC_rng {I : Int → Int → Int} (ht : tOK I) {i : Int} (i0 : 0 ≤ i) (i1 : i < I 3 1) : 1 ≤ stC I i ∧ stC I i ≤ 10 := by
  have hs := ht.2.2 i i0 i1
  unfold stOK at hs
  have := td10 (x := I (5 + i) 1) (by omega)
  unfold stC
  omega
def tmR (I : Int → Int → Int) : Prop := ∀ i, 0 ≤ i → i < I 3 1 → 0 ≤ I 43 i ∧ I 43 i ≤ 101000
theorem stG_rng {I : Int → Int → Int} (h : tmR I) {i : Int} (i0 : 0 ≤ i) (i1 : i < I 3 1) : 0 ≤ stG I i ∧ stG I i ≤ 10100 := by
  have := h i i0 i1
  have := td10 (x := I 43 i) (by omega)
  unfold stG
  omega
/-- only the store changes -/
def frE (I J : Int → Int → Int) : Prop := ∀ b k, ¬ (148 ≤ b ∧ b ≤ 178) → J b k = I b k
def stoOK (I J : Int → Int → Int) (u : Int) : Prop := (∀ (i : Nat) w, (i : Int) ≤ I 3 1 → 0 ≤ w → w ≤ u → J (147 + i) w = gv (stC I) (stG I) i w) ∧ ∀ i, 0 ≤ i → i < I 3 1 → J 178 i = stC I i
def spX4_fill (As : List MV) (σ : MS) (K : Option MV → MS → Prop) : Prop := pR As fun s r => pR r fun t r => pR r fun w r => pI r fun u r => pN r (s = 145 ∧ t = 3 ∧ w = 40 ∧ σ.2.1 = PF ∧ 0 ≤ u ∧ u ≤ 60 ∧ tOK σ.2.2.1 ∧ tmR σ.2.2.1 ∧ (∀ k, 0 ≤ k → k ≤ 60 → σ.2.2.1 147 k = 0) ∧
  ∀ I' : Int → Int → Int, frE σ.2.2.1 I' → stoOK σ.2.2.1 I' u → K none (σ.1, σ.2.1, I', σ.2.2.2))
def ciX4_fill : CI := (4, 4, 0, 0, spX4_fill)
def kX4_fill (pc : Nat) : List ME := match pc with
  | 0 => [(.iconst 0, 1, []), (.istore 4, 2, [])]
  | 3 => [(.iload 4, 2, []), (.aload_n 1, 1, []), (.getfield 20, 3, []), (.if_icmp .ge 125, 3, [134]), (.aload_n 1, 1, []), (.getfield 26, 3, []), (.iload 4, 2, []), (.aaload, 1, []), (.getfield 30, 3, []), (.bipush 10, 2, []), (.idiv, 1, []), (.iconst 1, 1, []), (.iadd, 1, []), (.istore 5, 2, []), (.aload_n 2, 1, []), (.getfield 35, 3, []), (.iload 4, 2, []), (.iaload, 1, []), (.bipush 10, 2, []), (.idiv, 1, []), (.istore 6, 2, []), (.aload_n 0, 1, []), (.getfield 16, 3, []), (.iload 4, 2, []), (.iload 5, 2, []), (.iastore, 1, []), (.iconst 0, 1, []), (.istore 7, 2, [])]
  | 53 => [(.iload 7, 2, []), (.iload_n 3, 1, []), (.if_icmp .gt 72, 3, [128]), (.iload 7, 2, []), (.bipush 60, 2, []), (.if_icmp .gt 65, 3, [128]), (.iload 7, 2, []), (.iload 5, 2, []), (.if_icmp .lt 22, 3, [92]), (.aload_n 0, 1, []), (.getfield 11, 3, []), (.iload 4, 2, []), (.aaload, 1, []), (.iload 7, 2, []), (.iload 5, 2, []), (.isub, 1, []), (.iaload, 1, []), (.iload 6, 2, []), (.iadd, 1, []), (.goto 4, 3, [93])]
  | 92 => [(.iconst 0, 1, [])]
  | 93 => [(.istore 8, 2, []), (.aload_n 0, 1, []), (.getfield 11, 3, []), (.iload 4, 2, []), (.iconst 1, 1, []), (.iadd, 1, []), (.aaload, 1, []), (.iload 7, 2, []), (.aload_n 0, 1, []), (.getfield 11, 3, []), (.iload 4, 2, []), (.aaload, 1, []), (.iload 7, 2, []), (.iaload, 1, []), (.iload 8, 2, []), (.invokestatic 40, 3, []), (.iastore, 1, []), (.iinc 7 1, 3, []), (.goto (-72), 3, [53])]
  | 128 => [(.iinc 4 1, 3, []), (.goto (-128), 3, [3])]
  | 134 => [(.return_, 1, [])]
  | _ => []
theorem qX4_fill : ∀ pc, chk cX4_fill pc (kX4_fill pc) = true := by
  intro pc
  unfold kX4_fill
  split <;> first | decide +kernel | exact chk_nil
abbrev rmX4_fill : Room := { frames := 1, cells := 0, slots := 0, locals := 21 }
def aX4_fill (x : Nat) : Option CI := match x with
  | 40 => some ciMax
  | _ => none
theorem aokX4_fill : ∀ x ci, aX4_fill x = some ci → CalOK RX4 rmX4_fill x ci := by
  intro x ci h
  unfold aX4_fill at h
  split at h
  · cases h; exact cal_max (List.forall_mem_cons.mpr ⟨(ws_mem (List.mem_of_getElem? (i := 534) (by decide +kernel)) (by decide +kernel)), List.forall_mem_cons.mpr ⟨(ws_mem (List.mem_of_getElem? (i := 158) (by decide +kernel)) (by decide +kernel)), List.forall_mem_cons.mpr ⟨(ws_mem (List.mem_of_getElem? (i := 58) (by decide +kernel)) (by decide +kernel)), List.forall_mem_cons.mpr ⟨(ws_mem (List.mem_of_getElem? (i := 159) (by decide +kernel)) (by decide +kernel)), fun _ h => absurd h List.not_mem_nil⟩⟩⟩⟩) (by decide)
  · cases h
theorem ocX4_fill_40 (f : Nat → Nat → Nat → Nat → (List MV → MS → (Option MV → MS → Prop) → Prop) → Prop) : oC aX4_fill 40 f = f 2 10 0 0 spMax := propext Iff.rfl
theorem mdX4_fill : MD RX4 cX4_fill rmX4_fill kX4_fill fX4 aX4_fill zX4 uX4 := ⟨fokX4, zokX4, uokX4, aokX4_fill, qX4_fill⟩
set_option maxHeartbeats 1600000 in
set_option maxRecDepth 100000 in
theorem lpX4_f1 {post : Option MV → MS → Prop} {U : Pt → Prop} {N : Nat} {I L : Int → Int → Int} {u : Int} {i : Nat} (u0 : 0 ≤ u) (u1 : u ≤ 60) (ht : tOK I) (hm : tmR I) (hi : (i : Int) < I 3 1)
    (h : ∀ (I1 : Int → Int → Int) (t7 t8 : Option MV), frE I I1 → (∀ (j : Nat) w, j ≤ i + 1 → 0 ≤ w → w ≤ u → I1 (147 + j) w = gv (stC I) (stG I) j w) → (∀ j : Int, 0 ≤ j → j ≤ i → I1 178 j = stC I j) → Ok RX4 cX4_fill 9 rmX4_fill false none post U (128, [some (.inr (.inr (some 145))), some (.inr (.inr (some 3))), some (.inr (.inr (some 40))), some (.inl u), some (.inl i), some (.inl (stC I i)), some (.inl (stG I i)), t7, t8], [], (N, PF, I1, L), 0, 0)) :
    ∀ (m : Nat) (w : Int) (I1 : Int → Int → Int) (t8 : Option MV), w + m = u + 1 → 0 ≤ w → frE I I1 → (∀ (j : Nat) w, j ≤ i → 0 ≤ w → w ≤ u → I1 (147 + j) w = gv (stC I) (stG I) j w) → (∀ w', 0 ≤ w' → w' < w → I1 (147 + ((i : Int) + 1)) w' = gv (stC I) (stG I) (i + 1) w') → (∀ j : Int, 0 ≤ j → j ≤ i → I1 178 j = stC I j) →
    Ok RX4 cX4_fill 9 rmX4_fill false none post U (53, [some (.inr (.inr (some 145))), some (.inr (.inr (some 3))), some (.inr (.inr (some 40))), some (.inl u), some (.inl i), some (.inl (stC I i)), some (.inl (stG I i)), some (.inl w), t8], [], (N, PF, I1, L), 0, 0)
  | 0, w, I1, t8, hw, w0, h1, h2, h3, h4 => by
    have ht2 := ht.2.1
    have hc := stC_rng ht (i := i) (by omega) hi
    refine Ok.seg mdX4_fill [53, 128] 10 ?_
    simp only [wp_nil, wp_cons, ↓stp, ↓lI, ↓lL, ↓lR, ↓lIn_0, ↓lIn_1, ↓lIn_2, ↓lIn_3, ↓lLn_0, ↓lLn_1, ↓lLn_2, ↓lLn_3, ↓lRn_0, ↓lRn_1, ↓lRn_2, ↓lRn_3, ↓pI, ↓pL, ↓pR, ↓pA, ↓pN, ↓pV, ↓fp, ↓tsw, ↓oS, ↓spMax, ↓spMin, ↓spAbs, ↓spObj, RI, RLg, b2i_lo, b2i_hi, getL, setL, ltL, killL, isLong, inl, cnd, br, tgt, rcv, rpl, mputI, mputL, mputP, fv, fr, mcat, mcs, entL, entA, rfit, nf_0, nf_1, nf_2, nf_3, nf2_0, nf2_1, b2i_0, b2i_1, RI_b2i, b2i_fit, List.append, List.length, List.replicate, List.cons_append, List.nil_append, List.length_cons, List.length_nil, List.replicate_succ, List.replicate_zero, List.tail_cons, reduceIte, if_true, if_false, ite_true, ite_false, Bool.false_eq_true, true_and, and_true, and_self, false_and, and_false, or_self, or_true, true_or, or_false, false_or, not_true_eq_false, not_false_eq_true, ne_eq, forall_const, implies_true, imp_self, true_implies, false_implies, Nat.reduceAdd, Nat.reduceSub, Nat.reduceMul, Nat.reduceDiv, Nat.reduceMod, Nat.reduceEqDiff, Nat.reduceLT, Nat.reduceLeDiff, Nat.reduceBEq, Nat.add_zero, Nat.zero_add, Nat.le_refl, Nat.not_lt_zero, Nat.succ_eq_add_one, Int.reduceNatCast, Int.cast_ofNat_Int, Int.reduceSub, Int.reduceMul, Int.reduceNeg, Int.reduceLE, Int.reduceLT, Int.reduceToNat, Int.reduceEq, Int.reduceNe, Int.reduceAdd, Option.some.injEq, kX4_fill, rmX4_fill, ↓ofX4_11, ↓ofX4_16, ↓ofX4_20, ↓ofX4_26, ↓ofX4_30, ↓ofX4_35, ↓ocX4_fill_40, G_1, G_2, G_3, G_4, G_35, G_36, G_37, G_38, G_39, G_40, G_41, G_42, G_43, G_44, G_45, G_46, G_47, G_48, G_49, G_140, G_141, G_142, G_143, G_144, G_145, G_146, G_178, G_179, G_180, G_181, G_182, G_183, G_184, G_189, G_198, G_207, PF_1_0, PF_1_1, PF_1_2, PF_1_3, PF_2_0, PF_2_1, PF_2_3, PF_2_4, PF_2_5, PF_2_6, PF_2_7, PF_2_8, PF_2_9, PF_2_10, PF_2_11, PF_3_0, PF_35_0, PF_35_1, PF_35_2, PF_35_3, PF_40_0, PF_40_1, PF_40_2, PF_44_0, PF_44_1, PF_44_2, PF_145_0, PF_145_1, PF_179_0, PF_179_1, PF_179_2, PF_179_3, PF_179_8, PF_179_9, PF_179_10]
    refine ⟨by omega, by omega, fun q => h I1 _ _ h1 (fun j w' j1 a b => ?_) h4, fun q => by omega⟩
    by_cases e : j = i + 1
    · rw [e, show ((i + 1 : Nat) : Int) = (i : Int) + 1 by omega]; exact h3 w' a (by omega)
    · exact h2 j w' (by omega) a b
  | m + 1, w, I1, t8, hw, w0, h1, h2, h3, h4 => by
    have ht2 := ht.2.1
    have hc := stC_rng ht (i := i) (by omega) hi
    have hg := stG_rng hm (i := i) (by omega) hi
    have hm1 := PF_most (i := i) (by omega) (by omega)
    have hm2 := PF_most (i := (i : Int) + 1) (by omega) (by omega)
    have hg1 := G_most (a := 147 + (i : Int)) (by omega) (by omega)
    have hg2 := G_most (a := 147 + ((i : Int) + 1)) (by omega) (by omega)
    have gr := fun w => gv_rng (c := stC I) (g := stG I) (n := i) (M := 10100) (fun j a b => stG_rng hm (by omega) (by omega)) i w (Nat.le_refl _)
    have ih := fun v => lpX4_f1 (U := U) (post := post) u0 u1 ht hm hi h m (w + 1) (upI I1 (147 + ((i : Int) + 1)) w v)
    have fin : ∀ v t8, v = gv (stC I) (stG I) (i + 1) w → Ok RX4 cX4_fill 9 rmX4_fill false none post U (53, [some (.inr (.inr (some 145))), some (.inr (.inr (some 3))), some (.inr (.inr (some 40))), some (.inl u), some (.inl i), some (.inl (stC I i)), some (.inl (stG I i)), some (.inl (w + 1)), t8], [], (N, PF, upI I1 (147 + ((i : Int) + 1)) w v, L), 0, 0) := fun v t8 hv => by
      refine ih v t8 (by omega) (by omega) (fun b k hb => by rw [upI_ne (by omega)]; exact h1 b k hb) (fun j w' j1 a b => by rw [upI_ne (by omega)]; exact h2 j w' j1 a b) (fun w' a b => ?_) (fun j a b => by rw [upI_ne (by omega)]; exact h4 j a b)
      by_cases e : w' = w
      · rw [e, upI_same]; exact hv
      · rw [upI_nj e]; exact h3 w' a (by omega)
    have grw := gr w
    have gru := gr (w - stC I i)
    have ew : I1 (147 + (i : Int)) w = gv (stC I) (stG I) i w := h2 i w (Nat.le_refl _) w0 (by omega)
    refine Ok.seg mdX4_fill [53, 128] 60 ?_
    simp only [wp_nil, wp_cons, ↓stp, ↓lI, ↓lL, ↓lR, ↓lIn_0, ↓lIn_1, ↓lIn_2, ↓lIn_3, ↓lLn_0, ↓lLn_1, ↓lLn_2, ↓lLn_3, ↓lRn_0, ↓lRn_1, ↓lRn_2, ↓lRn_3, ↓pI, ↓pL, ↓pR, ↓pA, ↓pN, ↓pV, ↓fp, ↓tsw, ↓oS, ↓spMax, ↓spMin, ↓spAbs, ↓spObj, RI, RLg, b2i_lo, b2i_hi, getL, setL, ltL, killL, isLong, inl, cnd, br, tgt, rcv, rpl, mputI, mputL, mputP, fv, fr, mcat, mcs, entL, entA, rfit, nf_0, nf_1, nf_2, nf_3, nf2_0, nf2_1, b2i_0, b2i_1, RI_b2i, b2i_fit, List.append, List.length, List.replicate, List.cons_append, List.nil_append, List.length_cons, List.length_nil, List.replicate_succ, List.replicate_zero, List.tail_cons, reduceIte, if_true, if_false, ite_true, ite_false, Bool.false_eq_true, true_and, and_true, and_self, false_and, and_false, or_self, or_true, true_or, or_false, false_or, not_true_eq_false, not_false_eq_true, ne_eq, forall_const, implies_true, imp_self, true_implies, false_implies, Nat.reduceAdd, Nat.reduceSub, Nat.reduceMul, Nat.reduceDiv, Nat.reduceMod, Nat.reduceEqDiff, Nat.reduceLT, Nat.reduceLeDiff, Nat.reduceBEq, Nat.add_zero, Nat.zero_add, Nat.le_refl, Nat.not_lt_zero, Nat.succ_eq_add_one, Int.reduceNatCast, Int.cast_ofNat_Int, Int.reduceSub, Int.reduceMul, Int.reduceNeg, Int.reduceLE, Int.reduceLT, Int.reduceToNat, Int.reduceEq, Int.reduceNe, Int.reduceAdd, Option.some.injEq, kX4_fill, rmX4_fill, ↓ofX4_11, ↓ofX4_16, ↓ofX4_20, ↓ofX4_26, ↓ofX4_30, ↓ofX4_35, ↓ocX4_fill_40, hm1, hm2, hg1, hg2, ew, G_1, G_2, G_3, G_4, G_35, G_36, G_37, G_38, G_39, G_40, G_41, G_42, G_43, G_44, G_45, G_46, G_47, G_48, G_49, G_140, G_141, G_142, G_143, G_144, G_145, G_146, G_178, G_179, G_180, G_181, G_182, G_183, G_184, G_189, G_198, G_207, PF_1_0, PF_1_1, PF_1_2, PF_1_3, PF_2_0, PF_2_1, PF_2_3, PF_2_4, PF_2_5, PF_2_6, PF_2_7, PF_2_8, PF_2_9, PF_2_10, PF_2_11, PF_3_0, PF_35_0, PF_35_1, PF_35_2, PF_35_3, PF_40_0, PF_40_1, PF_40_2, PF_44_0, PF_44_1, PF_44_2, PF_145_0, PF_145_1, PF_179_0, PF_179_1, PF_179_2, PF_179_3, PF_179_8, PF_179_9, PF_179_10]
    refine ⟨by omega, by omega, fun q => by omega, fun q => ⟨by omega, fun q => by omega, fun q => ⟨by omega, by omega, fun q2 => ?_, fun q2 => ?_⟩⟩⟩
    · repeat refine ⟨by omega, ?_⟩
      refine fun r r0 r1 r2 => ⟨by omega, by omega, fin r _ ?_⟩
      unfold gv
      rw [if_neg (by omega)]
      omega
    · have ew2 : I1 (147 + (i : Int)) (w - stC I i) = gv (stC I) (stG I) i (w - stC I i) := h2 i _ (Nat.le_refl _) (by omega) (by omega)
      rw [ew2]
      refine ⟨by omega, by omega, by omega, by omega, by omega, by omega, by omega, by omega, by omega, by omega, by omega, by omega, fun r r0 r1 r2 => ?_⟩
      refine ⟨by omega, by omega, fin r _ ?_⟩
      unfold gv
      rw [if_pos (by omega)]
      exact mxv_of r0 r1 r2
set_option maxHeartbeats 1600000 in
set_option maxRecDepth 100000 in
theorem lpX4_f2 {post : Option MV → MS → Prop} {U : Pt → Prop} {N : Nat} {I L : Int → Int → Int} {u : Int} (u0 : 0 ≤ u) (u1 : u ≤ 60) (ht : tOK I) (hm : tmR I)
    (h : ∀ (I1 : Int → Int → Int), frE I I1 → stoOK I I1 u → post none (N, PF, I1, L)) :
    ∀ (m i : Nat) (I1 : Int → Int → Int) (t5 t6 t7 t8 : Option MV), ((i + m : Nat) : Int) = I 3 1 → frE I I1 → (∀ (j : Nat) w, j ≤ i → 0 ≤ w → w ≤ u → I1 (147 + j) w = gv (stC I) (stG I) j w) → (∀ j : Int, 0 ≤ j → j < i → I1 178 j = stC I j) →
    Ok RX4 cX4_fill 9 rmX4_fill false none post U (3, [some (.inr (.inr (some 145))), some (.inr (.inr (some 3))), some (.inr (.inr (some 40))), some (.inl u), some (.inl i), t5, t6, t7, t8], [], (N, PF, I1, L), 0, 0)
  | 0, i, I1, t5, t6, t7, t8, hi, h1, h2, h3 => by
    have ht2 := ht.2.1
    have e31 : I1 3 1 = I 3 1 := h1 3 1 (by omega)
    refine Ok.seg mdX4_fill [3, 53, 128] 10 ?_
    simp only [wp_nil, wp_cons, ↓stp, ↓lI, ↓lL, ↓lR, ↓lIn_0, ↓lIn_1, ↓lIn_2, ↓lIn_3, ↓lLn_0, ↓lLn_1, ↓lLn_2, ↓lLn_3, ↓lRn_0, ↓lRn_1, ↓lRn_2, ↓lRn_3, ↓pI, ↓pL, ↓pR, ↓pA, ↓pN, ↓pV, ↓fp, ↓tsw, ↓oS, ↓spMax, ↓spMin, ↓spAbs, ↓spObj, RI, RLg, b2i_lo, b2i_hi, getL, setL, ltL, killL, isLong, inl, cnd, br, tgt, rcv, rpl, mputI, mputL, mputP, fv, fr, mcat, mcs, entL, entA, rfit, nf_0, nf_1, nf_2, nf_3, nf2_0, nf2_1, b2i_0, b2i_1, RI_b2i, b2i_fit, List.append, List.length, List.replicate, List.cons_append, List.nil_append, List.length_cons, List.length_nil, List.replicate_succ, List.replicate_zero, List.tail_cons, reduceIte, if_true, if_false, ite_true, ite_false, Bool.false_eq_true, true_and, and_true, and_self, false_and, and_false, or_self, or_true, true_or, or_false, false_or, not_true_eq_false, not_false_eq_true, ne_eq, forall_const, implies_true, imp_self, true_implies, false_implies, Nat.reduceAdd, Nat.reduceSub, Nat.reduceMul, Nat.reduceDiv, Nat.reduceMod, Nat.reduceEqDiff, Nat.reduceLT, Nat.reduceLeDiff, Nat.reduceBEq, Nat.add_zero, Nat.zero_add, Nat.le_refl, Nat.not_lt_zero, Nat.succ_eq_add_one, Int.reduceNatCast, Int.cast_ofNat_Int, Int.reduceSub, Int.reduceMul, Int.reduceNeg, Int.reduceLE, Int.reduceLT, Int.reduceToNat, Int.reduceEq, Int.reduceNe, Int.reduceAdd, Option.some.injEq, kX4_fill, rmX4_fill, ↓ofX4_11, ↓ofX4_16, ↓ofX4_20, ↓ofX4_26, ↓ofX4_30, ↓ofX4_35, ↓ocX4_fill_40, e31, G_1, G_2, G_3, G_4, G_35, G_36, G_37, G_38, G_39, G_40, G_41, G_42, G_43, G_44, G_45, G_46, G_47, G_48, G_49, G_140, G_141, G_142, G_143, G_144, G_145, G_146, G_178, G_179, G_180, G_181, G_182, G_183, G_184, G_189, G_198, G_207, PF_1_0, PF_1_1, PF_1_2, PF_1_3, PF_2_0, PF_2_1, PF_2_3, PF_2_4, PF_2_5, PF_2_6, PF_2_7, PF_2_8, PF_2_9, PF_2_10, PF_2_11, PF_3_0, PF_35_0, PF_35_1, PF_35_2, PF_35_3, PF_40_0, PF_40_1, PF_40_2, PF_44_0, PF_44_1, PF_44_2, PF_145_0, PF_145_1, PF_179_0, PF_179_1, PF_179_2, PF_179_3, PF_179_8, PF_179_9, PF_179_10]
    exact ⟨by omega, by omega, fun q => h I1 h1 ⟨fun j w a b c => h2 j w (by omega) b c, fun j a b => h3 j a (by omega)⟩, fun q => by omega⟩
  | m + 1, i, I1, t5, t6, t7, t8, hi, h1, h2, h3 => by
    have ht2 := ht.2.1
    have e31 : I1 3 1 = I 3 1 := h1 3 1 (by omega)
    have hi2 : (i : Int) < I 3 1 := by omega
    have ih := lpX4_f2 (U := U) (post := post) u0 u1 ht hm h m (i + 1)
    have hc := stC_rng ht (i := i) (by omega) hi2
    have hg := stG_rng hm (i := i) (by omega) hi2
    have hp := PF_st (i := i) (by omega) (by omega)
    have hgs := G_st (a := 5 + (i : Int)) (by omega) (by omega)
    have eb : I1 (5 + (i : Int)) 1 = I (5 + (i : Int)) 1 := h1 _ _ (by omega)
    have e43 : I1 43 i = I 43 i := h1 _ _ (by omega)
    have hst := ht.2.2 i (by omega) hi2
    unfold stOK at hst
    have htm := hm i (by omega) hi2
    have ec : (I (5 + (i : Int)) 1).tdiv 10 + 1 = stC I i := rfl
    have eg : (I 43 i).tdiv 10 = stG I i := rfl
    refine Ok.seg mdX4_fill [3, 53, 128] 60 ?_
    simp only [wp_nil, wp_cons, ↓stp, ↓lI, ↓lL, ↓lR, ↓lIn_0, ↓lIn_1, ↓lIn_2, ↓lIn_3, ↓lLn_0, ↓lLn_1, ↓lLn_2, ↓lLn_3, ↓lRn_0, ↓lRn_1, ↓lRn_2, ↓lRn_3, ↓pI, ↓pL, ↓pR, ↓pA, ↓pN, ↓pV, ↓fp, ↓tsw, ↓oS, ↓spMax, ↓spMin, ↓spAbs, ↓spObj, RI, RLg, b2i_lo, b2i_hi, getL, setL, ltL, killL, isLong, inl, cnd, br, tgt, rcv, rpl, mputI, mputL, mputP, fv, fr, mcat, mcs, entL, entA, rfit, nf_0, nf_1, nf_2, nf_3, nf2_0, nf2_1, b2i_0, b2i_1, RI_b2i, b2i_fit, List.append, List.length, List.replicate, List.cons_append, List.nil_append, List.length_cons, List.length_nil, List.replicate_succ, List.replicate_zero, List.tail_cons, reduceIte, if_true, if_false, ite_true, ite_false, Bool.false_eq_true, true_and, and_true, and_self, false_and, and_false, or_self, or_true, true_or, or_false, false_or, not_true_eq_false, not_false_eq_true, ne_eq, forall_const, implies_true, imp_self, true_implies, false_implies, Nat.reduceAdd, Nat.reduceSub, Nat.reduceMul, Nat.reduceDiv, Nat.reduceMod, Nat.reduceEqDiff, Nat.reduceLT, Nat.reduceLeDiff, Nat.reduceBEq, Nat.add_zero, Nat.zero_add, Nat.le_refl, Nat.not_lt_zero, Nat.succ_eq_add_one, Int.reduceNatCast, Int.cast_ofNat_Int, Int.reduceSub, Int.reduceMul, Int.reduceNeg, Int.reduceLE, Int.reduceLT, Int.reduceToNat, Int.reduceEq, Int.reduceNe, Int.reduceAdd, Option.some.injEq, kX4_fill, rmX4_fill, ↓ofX4_11, ↓ofX4_16, ↓ofX4_20, ↓ofX4_26, ↓ofX4_30, ↓ofX4_35, ↓ocX4_fill_40, e31, hp, hgs, eb, e43, ec, eg, G_1, G_2, G_3, G_4, G_35, G_36, G_37, G_38, G_39, G_40, G_41, G_42, G_43, G_44, G_45, G_46, G_47, G_48, G_49, G_140, G_141, G_142, G_143, G_144, G_145, G_146, G_178, G_179, G_180, G_181, G_182, G_183, G_184, G_189, G_198, G_207, PF_1_0, PF_1_1, PF_1_2, PF_1_3, PF_2_0, PF_2_1, PF_2_3, PF_2_4, PF_2_5, PF_2_6, PF_2_7, PF_2_8, PF_2_9, PF_2_10, PF_2_11, PF_3_0, PF_35_0, PF_35_1, PF_35_2, PF_35_3, PF_40_0, PF_40_1, PF_40_2, PF_44_0, PF_44_1, PF_44_2, PF_145_0, PF_145_1, PF_179_0, PF_179_1, PF_179_2, PF_179_3, PF_179_8, PF_179_9, PF_179_10]
    have go := lpX4_f1 (U := U) (post := post) (N := N) (L := L) u0 u1 ht hm hi2 (fun I2 t7 t8 k1 k2 k3 => by
      have := ih I2 (some (.inl (stC I i))) (some (.inl (stG I i))) t7 t8 (by omega) k1 k2 (fun j a b => k3 j a (by omega))
      refine Ok.seg mdX4_fill [3, 53, 128] 10 ?_
      simp only [wp_nil, wp_cons, ↓stp, ↓lI, ↓lL, ↓lR, ↓lIn_0, ↓lIn_1, ↓lIn_2, ↓lIn_3, ↓lLn_0, ↓lLn_1, ↓lLn_2, ↓lLn_3, ↓lRn_0, ↓lRn_1, ↓lRn_2, ↓lRn_3, ↓pI, ↓pL, ↓pR, ↓pA, ↓pN, ↓pV, ↓fp, ↓tsw, ↓oS, ↓spMax, ↓spMin, ↓spAbs, ↓spObj, RI, RLg, b2i_lo, b2i_hi, getL, setL, ltL, killL, isLong, inl, cnd, br, tgt, rcv, rpl, mputI, mputL, mputP, fv, fr, mcat, mcs, entL, entA, rfit, nf_0, nf_1, nf_2, nf_3, nf2_0, nf2_1, b2i_0, b2i_1, RI_b2i, b2i_fit, List.append, List.length, List.replicate, List.cons_append, List.nil_append, List.length_cons, List.length_nil, List.replicate_succ, List.replicate_zero, List.tail_cons, reduceIte, if_true, if_false, ite_true, ite_false, Bool.false_eq_true, true_and, and_true, and_self, false_and, and_false, or_self, or_true, true_or, or_false, false_or, not_true_eq_false, not_false_eq_true, ne_eq, forall_const, implies_true, imp_self, true_implies, false_implies, Nat.reduceAdd, Nat.reduceSub, Nat.reduceMul, Nat.reduceDiv, Nat.reduceMod, Nat.reduceEqDiff, Nat.reduceLT, Nat.reduceLeDiff, Nat.reduceBEq, Nat.add_zero, Nat.zero_add, Nat.le_refl, Nat.not_lt_zero, Nat.succ_eq_add_one, Int.reduceNatCast, Int.cast_ofNat_Int, Int.reduceSub, Int.reduceMul, Int.reduceNeg, Int.reduceLE, Int.reduceLT, Int.reduceToNat, Int.reduceEq, Int.reduceNe, Int.reduceAdd, Option.some.injEq, kX4_fill, rmX4_fill, ↓ofX4_11, ↓ofX4_16, ↓ofX4_20, ↓ofX4_26, ↓ofX4_30, ↓ofX4_35, ↓ocX4_fill_40, G_1, G_2, G_3, G_4, G_35, G_36, G_37, G_38, G_39, G_40, G_41, G_42, G_43, G_44, G_45, G_46, G_47, G_48, G_49, G_140, G_141, G_142, G_143, G_144, G_145, G_146, G_178, G_179, G_180, G_181, G_182, G_183, G_184, G_189, G_198, G_207, PF_1_0, PF_1_1, PF_1_2, PF_1_3, PF_2_0, PF_2_1, PF_2_3, PF_2_4, PF_2_5, PF_2_6, PF_2_7, PF_2_8, PF_2_9, PF_2_10, PF_2_11, PF_3_0, PF_35_0, PF_35_1, PF_35_2, PF_35_3, PF_40_0, PF_40_1, PF_40_2, PF_44_0, PF_44_1, PF_44_2, PF_145_0, PF_145_1, PF_179_0, PF_179_1, PF_179_2, PF_179_3, PF_179_8, PF_179_9, PF_179_10]
      rwa [show ((i + 1 : Nat) : Int) = (i : Int) + 1 by omega] at this) (u + 1).toNat 0 (upI I1 178 i (stC I i)) t8 (by omega) (by omega) (fun b k hb => by rw [upI_ne (by omega)]; exact h1 b k hb) (fun j w a b c => by rw [upI_ne (by omega)]; exact h2 j w a b c) (fun w' a b => by omega) (fun j a b => by
        by_cases e : j = i
        · rw [e]; exact upI_same
        · rw [upI_nj e]; exact h3 j a (by omega))
    refine ⟨by omega, by omega, fun q => by omega, fun q => ?_⟩
    repeat refine ⟨by omega, ?_⟩
    exact go
set_option maxRecDepth 100000 in
set_option maxHeartbeats 800000 in
theorem mX4_fill : MOK yX4_fill cX4_fill 9 none rmX4_fill ciX4_fill := by
  refine mok_of (ini := false) (by decide +kernel) (by decide) rfl rfl ?_
  intro σ As K hrc hl h
  obtain ⟨N, P, I, L⟩ := σ
  have h9 := pR_iff.mp h
  clear h
  obtain ⟨s, r, e9, h⟩ := h9
  subst e9
  have h9 := pR_iff.mp h
  clear h
  obtain ⟨t, r, e9, h⟩ := h9
  subst e9
  have h9 := pR_iff.mp h
  clear h
  obtain ⟨w, r, e9, h⟩ := h9
  subst e9
  have h9 := pI_iff.mp h
  clear h
  obtain ⟨u, r, e9, h⟩ := h9
  subst e9
  have h9 := pN_iff.mp h
  clear h
  obtain ⟨e9, h⟩ := h9
  subst e9
  dsimp only at h
  obtain ⟨rfl, rfl, rfl, rfl, u0, u1, ht, hm, hz, h⟩ := h
  refine ⟨Nat.le_of_ble_eq_true rfl, Ok.seg mdX4_fill [3] 6 ?_⟩
  simp only [wp_nil, wp_cons, ↓stp, ↓lI, ↓lL, ↓lR, ↓lIn_0, ↓lIn_1, ↓lIn_2, ↓lIn_3, ↓lLn_0, ↓lLn_1, ↓lLn_2, ↓lLn_3, ↓lRn_0, ↓lRn_1, ↓lRn_2, ↓lRn_3, ↓pI, ↓pL, ↓pR, ↓pA, ↓pN, ↓pV, ↓fp, ↓tsw, ↓oS, ↓spMax, ↓spMin, ↓spAbs, ↓spObj, RI, RLg, b2i_lo, b2i_hi, getL, setL, ltL, killL, isLong, inl, cnd, br, tgt, rcv, rpl, mputI, mputL, mputP, fv, fr, mcat, mcs, entL, entA, rfit, nf_0, nf_1, nf_2, nf_3, nf2_0, nf2_1, b2i_0, b2i_1, RI_b2i, b2i_fit, List.append, List.length, List.replicate, List.cons_append, List.nil_append, List.length_cons, List.length_nil, List.replicate_succ, List.replicate_zero, List.tail_cons, reduceIte, if_true, if_false, ite_true, ite_false, Bool.false_eq_true, true_and, and_true, and_self, false_and, and_false, or_self, or_true, true_or, or_false, false_or, not_true_eq_false, not_false_eq_true, ne_eq, forall_const, implies_true, imp_self, true_implies, false_implies, Nat.reduceAdd, Nat.reduceSub, Nat.reduceMul, Nat.reduceDiv, Nat.reduceMod, Nat.reduceEqDiff, Nat.reduceLT, Nat.reduceLeDiff, Nat.reduceBEq, Nat.add_zero, Nat.zero_add, Nat.le_refl, Nat.not_lt_zero, Nat.succ_eq_add_one, Int.reduceNatCast, Int.cast_ofNat_Int, Int.reduceSub, Int.reduceMul, Int.reduceNeg, Int.reduceLE, Int.reduceLT, Int.reduceToNat, Int.reduceEq, Int.reduceNe, Int.reduceAdd, Option.some.injEq, kX4_fill, rmX4_fill, ↓ofX4_11, ↓ofX4_16, ↓ofX4_20, ↓ofX4_26, ↓ofX4_30, ↓ofX4_35, ↓ocX4_fill_40, G_1, G_2, G_3, G_4, G_35, G_36, G_37, G_38, G_39, G_40, G_41, G_42, G_43, G_44, G_45, G_46, G_47, G_48, G_49, G_140, G_141, G_142, G_143, G_144, G_145, G_146, G_178, G_179, G_180, G_181, G_182, G_183, G_184, G_189, G_198, G_207, PF_1_0, PF_1_1, PF_1_2, PF_1_3, PF_2_0, PF_2_1, PF_2_3, PF_2_4, PF_2_5, PF_2_6, PF_2_7, PF_2_8, PF_2_9, PF_2_10, PF_2_11, PF_3_0, PF_35_0, PF_35_1, PF_35_2, PF_35_3, PF_40_0, PF_40_1, PF_40_2, PF_44_0, PF_44_1, PF_44_2, PF_145_0, PF_145_1, PF_179_0, PF_179_1, PF_179_2, PF_179_3, PF_179_8, PF_179_9, PF_179_10]
  refine lpX4_f2 u0 u1 ht hm (fun I1 a b => ⟨trivial, h I1 a b⟩) (I 3 1).toNat 0 I none none none none (by have := ht.1; omega) (fun _ _ _ => rfl) (fun j w a b c => ?_) (fun j a b => by omega)
  rw [show j = 0 by omega]; exact hz w b (by omega)
def spX4_gainsOf (As : List MV) (σ : MS) (K : Option MV → MS → Prop) : Prop := pR As fun s r => pI r fun n r => pI r fun u r => pN r (s = 145 ∧ σ.2.1 = PF ∧ 0 ≤ n ∧ n ≤ 30 ∧ 0 ≤ u ∧ u ≤ 60 ∧ K (some (.inl (σ.2.2.1 (147 + n) u))) σ)
def ciX4_gainsOf : CI := (3, 4, 0, 0, spX4_gainsOf)
def kX4_gainsOf (pc : Nat) : List ME := match pc with
  | 0 => [(.aload_n 0, 1, []), (.getfield 11, 3, []), (.iload_n 1, 1, []), (.aaload, 1, []), (.iload_n 2, 1, []), (.iaload, 1, []), (.ireturn, 1, [])]
  | _ => []
theorem qX4_gainsOf : ∀ pc, chk cX4_gainsOf pc (kX4_gainsOf pc) = true := by
  intro pc
  unfold kX4_gainsOf
  split <;> first | decide +kernel | exact chk_nil
abbrev rmX4_gainsOf : Room := { frames := 0, cells := 0, slots := 0, locals := 0 }
def aX4_gainsOf (_ : Nat) : Option CI := none
theorem aokX4_gainsOf : ∀ x ci, aX4_gainsOf x = some ci → CalOK RX4 rmX4_gainsOf x ci := fun _ _ h => by cases h
theorem mdX4_gainsOf : MD RX4 cX4_gainsOf rmX4_gainsOf kX4_gainsOf fX4 aX4_gainsOf zX4 uX4 := ⟨fokX4, zokX4, uokX4, aokX4_gainsOf, qX4_gainsOf⟩
set_option maxRecDepth 100000 in
set_option maxHeartbeats 800000 in
theorem mX4_gainsOf : MOK yX4_gainsOf cX4_gainsOf 3 (some .int) rmX4_gainsOf ciX4_gainsOf := by
  refine mok_of (ini := false) (by decide +kernel) (by decide) rfl rfl ?_
  intro σ As K hrc hl h
  obtain ⟨N, P, I, L⟩ := σ
  have h9 := pR_iff.mp h
  clear h
  obtain ⟨s, r, e9, h⟩ := h9
  subst e9
  have h9 := pI_iff.mp h
  clear h
  obtain ⟨n, r, e9, h⟩ := h9
  subst e9
  have h9 := pI_iff.mp h
  clear h
  obtain ⟨u, r, e9, h⟩ := h9
  subst e9
  have h9 := pN_iff.mp h
  clear h
  obtain ⟨e9, h⟩ := h9
  subst e9
  dsimp only at h
  obtain ⟨rfl, rfl, n0, n1, u0, u1, h⟩ := h
  have hm1 := PF_most (i := n) (by omega) (by omega)
  have hg1 := G_most (a := 147 + n) (by omega) (by omega)
  refine ⟨Nat.le_of_ble_eq_true rfl, Ok.seg mdX4_gainsOf [] 12 ?_⟩
  simp only [wp_nil, wp_cons, ↓stp, ↓lI, ↓lL, ↓lR, ↓lIn_0, ↓lIn_1, ↓lIn_2, ↓lIn_3, ↓lLn_0, ↓lLn_1, ↓lLn_2, ↓lLn_3, ↓lRn_0, ↓lRn_1, ↓lRn_2, ↓lRn_3, ↓pI, ↓pL, ↓pR, ↓pA, ↓pN, ↓pV, ↓fp, ↓tsw, ↓oS, ↓spMax, ↓spMin, ↓spAbs, ↓spObj, RI, RLg, b2i_lo, b2i_hi, getL, setL, ltL, killL, isLong, inl, cnd, br, tgt, rcv, rpl, mputI, mputL, mputP, fv, fr, mcat, mcs, entL, entA, rfit, nf_0, nf_1, nf_2, nf_3, nf2_0, nf2_1, b2i_0, b2i_1, RI_b2i, b2i_fit, List.append, List.length, List.replicate, List.cons_append, List.nil_append, List.length_cons, List.length_nil, List.replicate_succ, List.replicate_zero, List.tail_cons, reduceIte, if_true, if_false, ite_true, ite_false, Bool.false_eq_true, true_and, and_true, and_self, false_and, and_false, or_self, or_true, true_or, or_false, false_or, not_true_eq_false, not_false_eq_true, ne_eq, forall_const, implies_true, imp_self, true_implies, false_implies, Nat.reduceAdd, Nat.reduceSub, Nat.reduceMul, Nat.reduceDiv, Nat.reduceMod, Nat.reduceEqDiff, Nat.reduceLT, Nat.reduceLeDiff, Nat.reduceBEq, Nat.add_zero, Nat.zero_add, Nat.le_refl, Nat.not_lt_zero, Nat.succ_eq_add_one, Int.reduceNatCast, Int.cast_ofNat_Int, Int.reduceSub, Int.reduceMul, Int.reduceNeg, Int.reduceLE, Int.reduceLT, Int.reduceToNat, Int.reduceEq, Int.reduceNe, Int.reduceAdd, Option.some.injEq, kX4_gainsOf, rmX4_gainsOf, ↓ofX4_11, hm1, hg1, G_1, G_2, G_3, G_4, G_35, G_36, G_37, G_38, G_39, G_40, G_41, G_42, G_43, G_44, G_45, G_46, G_47, G_48, G_49, G_140, G_141, G_142, G_143, G_144, G_145, G_146, G_178, G_179, G_180, G_181, G_182, G_183, G_184, G_189, G_198, G_207, PF_1_0, PF_1_1, PF_1_2, PF_1_3, PF_2_0, PF_2_1, PF_2_3, PF_2_4, PF_2_5, PF_2_6, PF_2_7, PF_2_8, PF_2_9, PF_2_10, PF_2_11, PF_3_0, PF_35_0, PF_35_1, PF_35_2, PF_35_3, PF_40_0, PF_40_1, PF_40_2, PF_44_0, PF_44_1, PF_44_2, PF_145_0, PF_145_1, PF_179_0, PF_179_1, PF_179_2, PF_179_3, PF_179_8, PF_179_9, PF_179_10]
  exact ⟨by omega, by omega, by omega, by omega, h⟩
def spX4_leastSet (As : List MV) (σ : MS) (K : Option MV → MS → Prop) : Prop := pR As fun s r => pI r fun n r => pI r fun u r => pN r (s = 145 ∧ σ.2.1 = PF ∧ 0 ≤ n ∧ n ≤ 30 ∧ 0 ≤ u ∧ u ≤ 60 ∧ ∃ c g : Int → Int, (∀ i, 0 ≤ i → i < n → 1 ≤ c i ∧ c i ≤ 10 ∧ σ.2.2.1 178 i = c i) ∧ (∀ i, 0 ≤ i → i < n → 0 ≤ g i ∧ g i ≤ 10100) ∧ (∀ (i : Nat) w, (i : Int) ≤ n → 0 ≤ w → w ≤ u → σ.2.2.1 (147 + i) w = gv c g i w) ∧ K (some (.inl (wst c g n.toNat 0 u))) σ)
def ciX4_leastSet : CI := (3, 4, 0, 0, spX4_leastSet)
def kX4_leastSet (pc : Nat) : List ME := match pc with
  | 0 => [(.iconst 0, 1, []), (.istore_n 3, 1, []), (.iload_n 2, 1, []), (.istore 4, 2, []), (.iload_n 1, 1, []), (.iconst 1, 1, []), (.isub, 1, []), (.istore 5, 2, [])]
  | 10 => [(.iload 5, 2, []), (.ifCond .lt 65, 3, [77]), (.iload 4, 2, []), (.aload_n 0, 1, []), (.getfield 16, 3, []), (.iload 5, 2, []), (.iaload, 1, []), (.if_icmp .lt 47, 3, [71]), (.aload_n 0, 1, []), (.getfield 11, 3, []), (.iload 5, 2, []), (.iconst 1, 1, []), (.iadd, 1, []), (.aaload, 1, []), (.iload 4, 2, []), (.iaload, 1, []), (.aload_n 0, 1, []), (.getfield 11, 3, []), (.iload 5, 2, []), (.aaload, 1, []), (.iload 4, 2, []), (.iaload, 1, []), (.if_icmp .eq 22, 3, [71]), (.iload_n 3, 1, []), (.iconst 1, 1, []), (.iload 5, 2, []), (.ishl, 1, []), (.ior, 1, []), (.istore_n 3, 1, []), (.iload 4, 2, []), (.aload_n 0, 1, []), (.getfield 16, 3, []), (.iload 5, 2, []), (.iaload, 1, []), (.isub, 1, []), (.istore 4, 2, [])]
  | 71 => [(.iinc 5 (-1), 3, []), (.goto (-64), 3, [10])]
  | 77 => [(.iload_n 3, 1, []), (.ireturn, 1, [])]
  | _ => []
theorem qX4_leastSet : ∀ pc, chk cX4_leastSet pc (kX4_leastSet pc) = true := by
  intro pc
  unfold kX4_leastSet
  split <;> first | decide +kernel | exact chk_nil
abbrev rmX4_leastSet : Room := { frames := 0, cells := 0, slots := 0, locals := 0 }
def aX4_leastSet (_ : Nat) : Option CI := none
theorem aokX4_leastSet : ∀ x ci, aX4_leastSet x = some ci → CalOK RX4 rmX4_leastSet x ci := fun _ _ h => by cases h
theorem mdX4_leastSet : MD RX4 cX4_leastSet rmX4_leastSet kX4_leastSet fX4 aX4_leastSet zX4 uX4 := ⟨fokX4, zokX4, uokX4, aokX4_leastSet, qX4_leastSet⟩
set_option maxHeartbeats 1600000 in
set_option maxRecDepth 100000 in
theorem lpX4_l1 {post : Option MV → MS → Prop} {U : Pt → Prop} {N : Nat} {I L : Int → Int → Int} {u n : Int} {c g : Int → Int} (u1 : u ≤ 60) (n1 : n ≤ 30) (hc : ∀ i, 0 ≤ i → i < n → 1 ≤ c i ∧ c i ≤ 10 ∧ I 178 i = c i) (hg : ∀ i, 0 ≤ i → i < n → 0 ≤ g i ∧ g i ≤ 10100) (hG : ∀ (i : Nat) w, (i : Int) ≤ n → 0 ≤ w → w ≤ u → I (147 + i) w = gv c g i w)
    (h : post (some (.inl (wst c g n.toNat 0 u))) (N, PF, I, L)) :
    ∀ (i : Nat) (x w : Int), (i : Int) ≤ n → 0 ≤ w → w ≤ u → wst c g i x w = wst c g n.toNat 0 u →
    Ok RX4 cX4_leastSet 6 rmX4_leastSet false none post U (10, [some (.inr (.inr (some 145))), some (.inl n), some (.inl u), some (.inl x), some (.inl w), some (.inl ((i : Int) - 1))], [], (N, PF, I, L), 0, 0)
  | 0, x, w, hi, w0, w1, e => by
    refine Ok.seg mdX4_leastSet [10] 10 ?_
    simp only [wp_nil, wp_cons, ↓stp, ↓lI, ↓lL, ↓lR, ↓lIn_0, ↓lIn_1, ↓lIn_2, ↓lIn_3, ↓lLn_0, ↓lLn_1, ↓lLn_2, ↓lLn_3, ↓lRn_0, ↓lRn_1, ↓lRn_2, ↓lRn_3, ↓pI, ↓pL, ↓pR, ↓pA, ↓pN, ↓pV, ↓fp, ↓tsw, ↓oS, ↓spMax, ↓spMin, ↓spAbs, ↓spObj, RI, RLg, b2i_lo, b2i_hi, getL, setL, ltL, killL, isLong, inl, cnd, br, tgt, rcv, rpl, mputI, mputL, mputP, fv, fr, mcat, mcs, entL, entA, rfit, nf_0, nf_1, nf_2, nf_3, nf2_0, nf2_1, b2i_0, b2i_1, RI_b2i, b2i_fit, List.append, List.length, List.replicate, List.cons_append, List.nil_append, List.length_cons, List.length_nil, List.replicate_succ, List.replicate_zero, List.tail_cons, reduceIte, if_true, if_false, ite_true, ite_false, Bool.false_eq_true, true_and, and_true, and_self, false_and, and_false, or_self, or_true, true_or, or_false, false_or, not_true_eq_false, not_false_eq_true, ne_eq, forall_const, implies_true, imp_self, true_implies, false_implies, Nat.reduceAdd, Nat.reduceSub, Nat.reduceMul, Nat.reduceDiv, Nat.reduceMod, Nat.reduceEqDiff, Nat.reduceLT, Nat.reduceLeDiff, Nat.reduceBEq, Nat.add_zero, Nat.zero_add, Nat.le_refl, Nat.not_lt_zero, Nat.succ_eq_add_one, Int.reduceNatCast, Int.cast_ofNat_Int, Int.reduceSub, Int.reduceMul, Int.reduceNeg, Int.reduceLE, Int.reduceLT, Int.reduceToNat, Int.reduceEq, Int.reduceNe, Int.reduceAdd, Option.some.injEq, kX4_leastSet, rmX4_leastSet, ↓ofX4_11, ↓ofX4_16, G_1, G_2, G_3, G_4, G_35, G_36, G_37, G_38, G_39, G_40, G_41, G_42, G_43, G_44, G_45, G_46, G_47, G_48, G_49, G_140, G_141, G_142, G_143, G_144, G_145, G_146, G_178, G_179, G_180, G_181, G_182, G_183, G_184, G_189, G_198, G_207, PF_1_0, PF_1_1, PF_1_2, PF_1_3, PF_2_0, PF_2_1, PF_2_3, PF_2_4, PF_2_5, PF_2_6, PF_2_7, PF_2_8, PF_2_9, PF_2_10, PF_2_11, PF_3_0, PF_35_0, PF_35_1, PF_35_2, PF_35_3, PF_40_0, PF_40_1, PF_40_2, PF_44_0, PF_44_1, PF_44_2, PF_145_0, PF_145_1, PF_179_0, PF_179_1, PF_179_2, PF_179_3, PF_179_8, PF_179_9, PF_179_10]
    rw [show x = wst c g n.toNat 0 u from e]
    exact h
  | i + 1, x, w, hi, w0, w1, e => by
    have ih := lpX4_l1 (U := U) (post := post) u1 n1 hc hg hG h i
    have hci := hc i (by omega) (by omega)
    have hm1 := PF_most (i := i) (by omega) (by omega)
    have hm2 := PF_most (i := (i : Int) + 1) (by omega) (by omega)
    have hg1 := G_most (a := 147 + (i : Int)) (by omega) (by omega)
    have hg2 := G_most (a := 147 + ((i : Int) + 1)) (by omega) (by omega)
    have e1 := hG i w (by omega) w0 w1
    have e2 := hG (i + 1) w (by omega) w0 w1
    rw [show ((i + 1 : Nat) : Int) = (i : Int) + 1 by omega] at e2
    have r1 := gv_rng (c := c) (g := g) (n := i) (M := 10100) (fun j a b => hg j (by omega) (by omega)) i w (Nat.le_refl _)
    have r2 := gv_rng (c := c) (g := g) (n := i + 1) (M := 10100) (fun j a b => hg j (by omega) (by omega)) (i + 1) w (Nat.le_refl _)
    have ei : ((i + 1 : Nat) : Int) - 1 = i := by omega
    rw [ei]
    have e : (if gv c g (i + 1) w = gv c g i w then wst c g i x w else wst c g i (or1 x i) (w - c i)) = wst c g n.toNat 0 u := e
    have no : gv c g (i + 1) w = gv c g i w → Ok RX4 cX4_leastSet 6 rmX4_leastSet false none post U (10, [some (.inr (.inr (some 145))), some (.inl n), some (.inl u), some (.inl x), some (.inl w), some (.inl ((i : Int) + -1))], [], (N, PF, I, L), 0, 0) := fun q => by
      rw [if_pos q] at e
      exact ih x w (by omega) w0 w1 e
    refine Ok.seg mdX4_leastSet [10] 60 ?_
    simp only [wp_nil, wp_cons, ↓stp, ↓lI, ↓lL, ↓lR, ↓lIn_0, ↓lIn_1, ↓lIn_2, ↓lIn_3, ↓lLn_0, ↓lLn_1, ↓lLn_2, ↓lLn_3, ↓lRn_0, ↓lRn_1, ↓lRn_2, ↓lRn_3, ↓pI, ↓pL, ↓pR, ↓pA, ↓pN, ↓pV, ↓fp, ↓tsw, ↓oS, ↓spMax, ↓spMin, ↓spAbs, ↓spObj, RI, RLg, b2i_lo, b2i_hi, getL, setL, ltL, killL, isLong, inl, cnd, br, tgt, rcv, rpl, mputI, mputL, mputP, fv, fr, mcat, mcs, entL, entA, rfit, nf_0, nf_1, nf_2, nf_3, nf2_0, nf2_1, b2i_0, b2i_1, RI_b2i, b2i_fit, List.append, List.length, List.replicate, List.cons_append, List.nil_append, List.length_cons, List.length_nil, List.replicate_succ, List.replicate_zero, List.tail_cons, reduceIte, if_true, if_false, ite_true, ite_false, Bool.false_eq_true, true_and, and_true, and_self, false_and, and_false, or_self, or_true, true_or, or_false, false_or, not_true_eq_false, not_false_eq_true, ne_eq, forall_const, implies_true, imp_self, true_implies, false_implies, Nat.reduceAdd, Nat.reduceSub, Nat.reduceMul, Nat.reduceDiv, Nat.reduceMod, Nat.reduceEqDiff, Nat.reduceLT, Nat.reduceLeDiff, Nat.reduceBEq, Nat.add_zero, Nat.zero_add, Nat.le_refl, Nat.not_lt_zero, Nat.succ_eq_add_one, Int.reduceNatCast, Int.cast_ofNat_Int, Int.reduceSub, Int.reduceMul, Int.reduceNeg, Int.reduceLE, Int.reduceLT, Int.reduceToNat, Int.reduceEq, Int.reduceNe, Int.reduceAdd, Option.some.injEq, kX4_leastSet, rmX4_leastSet, ↓ofX4_11, ↓ofX4_16, hm1, hm2, hg1, hg2, e1, e2, hci.2.2, G_1, G_2, G_3, G_4, G_35, G_36, G_37, G_38, G_39, G_40, G_41, G_42, G_43, G_44, G_45, G_46, G_47, G_48, G_49, G_140, G_141, G_142, G_143, G_144, G_145, G_146, G_178, G_179, G_180, G_181, G_182, G_183, G_184, G_189, G_198, G_207, PF_1_0, PF_1_1, PF_1_2, PF_1_3, PF_2_0, PF_2_1, PF_2_3, PF_2_4, PF_2_5, PF_2_6, PF_2_7, PF_2_8, PF_2_9, PF_2_10, PF_2_11, PF_3_0, PF_35_0, PF_35_1, PF_35_2, PF_35_3, PF_40_0, PF_40_1, PF_40_2, PF_44_0, PF_44_1, PF_44_2, PF_145_0, PF_145_1, PF_179_0, PF_179_1, PF_179_2, PF_179_3, PF_179_8, PF_179_9, PF_179_10]
    refine ⟨by omega, fun q => by omega, fun q => ?_⟩
    repeat refine ⟨by omega, ?_⟩
    refine ⟨fun q => no ?_, fun q => ?_⟩
    · show (if c i ≤ w then mxv (gv c g i w) (gv c g i (w - c i) + g i) else gv c g i w) = gv c g i w
      rw [if_neg (by omega)]
    · refine ⟨by omega, by omega, by omega, by omega, by omega, by omega, by omega, by omega, by omega, by omega, fun q2 => no q2, fun q2 => ?_⟩
      rw [if_neg q2] at e
      repeat refine ⟨by omega, ?_⟩
      exact ih (or1 x i) (w - c i) (by omega) (by omega) (by omega) e
set_option maxRecDepth 100000 in
set_option maxHeartbeats 800000 in
theorem mX4_leastSet : MOK yX4_leastSet cX4_leastSet 6 (some .int) rmX4_leastSet ciX4_leastSet := by
  refine mok_of (ini := false) (by decide +kernel) (by decide) rfl rfl ?_
  intro σ As K hrc hl h
  obtain ⟨N, P, I, L⟩ := σ
  have h9 := pR_iff.mp h
  clear h
  obtain ⟨s, r, e9, h⟩ := h9
  subst e9
  have h9 := pI_iff.mp h
  clear h
  obtain ⟨n, r, e9, h⟩ := h9
  subst e9
  have h9 := pI_iff.mp h
  clear h
  obtain ⟨u, r, e9, h⟩ := h9
  subst e9
  have h9 := pN_iff.mp h
  clear h
  obtain ⟨e9, h⟩ := h9
  subst e9
  dsimp only at h
  obtain ⟨rfl, rfl, n0, n1, u0, u1, c, g, hc, hg, hG, h⟩ := h
  refine ⟨Nat.le_of_ble_eq_true rfl, Ok.seg mdX4_leastSet [10] 12 ?_⟩
  simp only [wp_nil, wp_cons, ↓stp, ↓lI, ↓lL, ↓lR, ↓lIn_0, ↓lIn_1, ↓lIn_2, ↓lIn_3, ↓lLn_0, ↓lLn_1, ↓lLn_2, ↓lLn_3, ↓lRn_0, ↓lRn_1, ↓lRn_2, ↓lRn_3, ↓pI, ↓pL, ↓pR, ↓pA, ↓pN, ↓pV, ↓fp, ↓tsw, ↓oS, ↓spMax, ↓spMin, ↓spAbs, ↓spObj, RI, RLg, b2i_lo, b2i_hi, getL, setL, ltL, killL, isLong, inl, cnd, br, tgt, rcv, rpl, mputI, mputL, mputP, fv, fr, mcat, mcs, entL, entA, rfit, nf_0, nf_1, nf_2, nf_3, nf2_0, nf2_1, b2i_0, b2i_1, RI_b2i, b2i_fit, List.append, List.length, List.replicate, List.cons_append, List.nil_append, List.length_cons, List.length_nil, List.replicate_succ, List.replicate_zero, List.tail_cons, reduceIte, if_true, if_false, ite_true, ite_false, Bool.false_eq_true, true_and, and_true, and_self, false_and, and_false, or_self, or_true, true_or, or_false, false_or, not_true_eq_false, not_false_eq_true, ne_eq, forall_const, implies_true, imp_self, true_implies, false_implies, Nat.reduceAdd, Nat.reduceSub, Nat.reduceMul, Nat.reduceDiv, Nat.reduceMod, Nat.reduceEqDiff, Nat.reduceLT, Nat.reduceLeDiff, Nat.reduceBEq, Nat.add_zero, Nat.zero_add, Nat.le_refl, Nat.not_lt_zero, Nat.succ_eq_add_one, Int.reduceNatCast, Int.cast_ofNat_Int, Int.reduceSub, Int.reduceMul, Int.reduceNeg, Int.reduceLE, Int.reduceLT, Int.reduceToNat, Int.reduceEq, Int.reduceNe, Int.reduceAdd, Option.some.injEq, kX4_leastSet, rmX4_leastSet, ↓ofX4_11, ↓ofX4_16, G_1, G_2, G_3, G_4, G_35, G_36, G_37, G_38, G_39, G_40, G_41, G_42, G_43, G_44, G_45, G_46, G_47, G_48, G_49, G_140, G_141, G_142, G_143, G_144, G_145, G_146, G_178, G_179, G_180, G_181, G_182, G_183, G_184, G_189, G_198, G_207, PF_1_0, PF_1_1, PF_1_2, PF_1_3, PF_2_0, PF_2_1, PF_2_3, PF_2_4, PF_2_5, PF_2_6, PF_2_7, PF_2_8, PF_2_9, PF_2_10, PF_2_11, PF_3_0, PF_35_0, PF_35_1, PF_35_2, PF_35_3, PF_40_0, PF_40_1, PF_40_2, PF_44_0, PF_44_1, PF_44_2, PF_145_0, PF_145_1, PF_179_0, PF_179_1, PF_179_2, PF_179_3, PF_179_8, PF_179_9, PF_179_10]
  have := lpX4_l1 (post := fun r σ' => rfit (some .int) r ∧ K r σ') (U := fun _ => False) (N := N) (L := L) u1 n1 hc hg hG ⟨trivial, h⟩ n.toNat 0 u (by omega) u0 (by omega) rfl
  rwa [show ((n.toNat : Nat) : Int) - 1 = n - 1 by omega] at this
end
section
theorem zz_true : True := trivial
end
