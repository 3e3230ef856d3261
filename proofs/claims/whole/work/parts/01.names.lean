-- ===== PART A: goes FIRST, ahead of the names: the tables' words, and 'selects' of the private methods out of them =====
/-- a private method of a class that the tables say can be made, by its rows of tables_1 -/
def lw_okq (q : MethodName × Nat) : Prop := (q.1.cls ≠ "java/lang/invoke/MethodHandle" ∧ q.1.cls ≠ "java/lang/invoke/VarHandle") ∧ Cond.instantiable q.1.cls q.2 ∈ tables_1 ∧ Cond.privateMethod q.1 ∈ tables_1 ∧ Cond.instanceMethod q.1 ∈ tables_1
theorem lw_p0 : lw_okq (⟨"PierYears", "found", "(I)I"⟩, 18) := ⟨⟨by decide +kernel, by decide +kernel⟩, List.mem_of_getElem? (i := 17) (by decide +kernel), List.mem_of_getElem? (i := 270) (by decide +kernel), List.mem_of_getElem? (i := 271) (by decide +kernel)⟩
theorem lw_p1 : lw_okq (⟨"PierYears", "fine", "(I)I"⟩, 18) := ⟨⟨by decide +kernel, by decide +kernel⟩, List.mem_of_getElem? (i := 17) (by decide +kernel), List.mem_of_getElem? (i := 279) (by decide +kernel), List.mem_of_getElem? (i := 280) (by decide +kernel)⟩
theorem lw_p2 : lw_okq (⟨"PierYears$Tape", "readLaw", "(LPierYears$Coast;)Z"⟩, 5) := ⟨⟨by decide +kernel, by decide +kernel⟩, List.mem_of_getElem? (i := 42) (by decide +kernel), List.mem_of_getElem? (i := 343) (by decide +kernel), List.mem_of_getElem? (i := 344) (by decide +kernel)⟩
theorem lw_p3 : lw_okq (⟨"PierYears$Tape", "readSign", "(I)Z"⟩, 5) := ⟨⟨by decide +kernel, by decide +kernel⟩, List.mem_of_getElem? (i := 42) (by decide +kernel), List.mem_of_getElem? (i := 347) (by decide +kernel), List.mem_of_getElem? (i := 348) (by decide +kernel)⟩
theorem lw_p4 : lw_okq (⟨"PierYears$Tape", "byteHere", "()I"⟩, 5) := ⟨⟨by decide +kernel, by decide +kernel⟩, List.mem_of_getElem? (i := 42) (by decide +kernel), List.mem_of_getElem? (i := 351) (by decide +kernel), List.mem_of_getElem? (i := 352) (by decide +kernel)⟩
theorem lw_p5 : lw_okq (⟨"PierYears$Tape", "fail", "(I)Z"⟩, 5) := ⟨⟨by decide +kernel, by decide +kernel⟩, List.mem_of_getElem? (i := 42) (by decide +kernel), List.mem_of_getElem? (i := 355) (by decide +kernel), List.mem_of_getElem? (i := 356) (by decide +kernel)⟩
theorem lw_p6 : lw_okq (⟨"PierYears$Tape", "readNumbers", "([I[I)Z"⟩, 5) := ⟨⟨by decide +kernel, by decide +kernel⟩, List.mem_of_getElem? (i := 42) (by decide +kernel), List.mem_of_getElem? (i := 363) (by decide +kernel), List.mem_of_getElem? (i := 364) (by decide +kernel)⟩
theorem lw_p7 : lw_okq (⟨"PierYears$Tape", "readNumber", "(III)Z"⟩, 5) := ⟨⟨by decide +kernel, by decide +kernel⟩, List.mem_of_getElem? (i := 42) (by decide +kernel), List.mem_of_getElem? (i := 367) (by decide +kernel), List.mem_of_getElem? (i := 368) (by decide +kernel)⟩
theorem lw_p8 : lw_okq (⟨"PierYears$Tape", "readPiers", "(LPierYears$Coast;)Z"⟩, 5) := ⟨⟨by decide +kernel, by decide +kernel⟩, List.mem_of_getElem? (i := 42) (by decide +kernel), List.mem_of_getElem? (i := 378) (by decide +kernel), List.mem_of_getElem? (i := 379) (by decide +kernel)⟩
theorem lw_p9 : lw_okq (⟨"PierYears$Coast", "stormOf", "(I)I"⟩, 13) := ⟨⟨by decide +kernel, by decide +kernel⟩, List.mem_of_getElem? (i := 64) (by decide +kernel), List.mem_of_getElem? (i := 430) (by decide +kernel), List.mem_of_getElem? (i := 431) (by decide +kernel)⟩
theorem lw_p10 : lw_okq (⟨"PierYears", "isPier", "(I)Z"⟩, 18) := ⟨⟨by decide +kernel, by decide +kernel⟩, List.mem_of_getElem? (i := 17) (by decide +kernel), List.mem_of_getElem? (i := 469) (by decide +kernel), List.mem_of_getElem? (i := 470) (by decide +kernel)⟩
theorem lw_p11 : lw_okq (⟨"PierYears", "foretell", "(I)V"⟩, 18) := ⟨⟨by decide +kernel, by decide +kernel⟩, List.mem_of_getElem? (i := 17) (by decide +kernel), List.mem_of_getElem? (i := 511) (by decide +kernel), List.mem_of_getElem? (i := 512) (by decide +kernel)⟩
theorem lw_p12 : lw_okq (⟨"PierYears", "weighGains", "(II)V"⟩, 18) := ⟨⟨by decide +kernel, by decide +kernel⟩, List.mem_of_getElem? (i := 17) (by decide +kernel), List.mem_of_getElem? (i := 548) (by decide +kernel), List.mem_of_getElem? (i := 549) (by decide +kernel)⟩
theorem lw_p13 : lw_okq (⟨"PierYears", "weighBests", "(I)V"⟩, 18) := ⟨⟨by decide +kernel, by decide +kernel⟩, List.mem_of_getElem? (i := 17) (by decide +kernel), List.mem_of_getElem? (i := 559) (by decide +kernel), List.mem_of_getElem? (i := 560) (by decide +kernel)⟩
theorem lw_p14 : lw_okq (⟨"PierYears", "gainBehind", "(III)I"⟩, 18) := ⟨⟨by decide +kernel, by decide +kernel⟩, List.mem_of_getElem? (i := 17) (by decide +kernel), List.mem_of_getElem? (i := 563) (by decide +kernel), List.mem_of_getElem? (i := 564) (by decide +kernel)⟩
theorem lw_p15 : lw_okq (⟨"PierYears", "fewestOfBest", "(I)I"⟩, 18) := ⟨⟨by decide +kernel, by decide +kernel⟩, List.mem_of_getElem? (i := 17) (by decide +kernel), List.mem_of_getElem? (i := 568) (by decide +kernel), List.mem_of_getElem? (i := 569) (by decide +kernel)⟩
def lw_privs_1 : List (MethodName × Nat) := [(⟨"PierYears", "found", "(I)I"⟩, 18), (⟨"PierYears", "fine", "(I)I"⟩, 18), (⟨"PierYears$Tape", "readLaw", "(LPierYears$Coast;)Z"⟩, 5), (⟨"PierYears$Tape", "readSign", "(I)Z"⟩, 5), (⟨"PierYears$Tape", "byteHere", "()I"⟩, 5), (⟨"PierYears$Tape", "fail", "(I)Z"⟩, 5), (⟨"PierYears$Tape", "readNumbers", "([I[I)Z"⟩, 5), (⟨"PierYears$Tape", "readNumber", "(III)Z"⟩, 5), (⟨"PierYears$Tape", "readPiers", "(LPierYears$Coast;)Z"⟩, 5), (⟨"PierYears$Coast", "stormOf", "(I)I"⟩, 13), (⟨"PierYears", "isPier", "(I)Z"⟩, 18), (⟨"PierYears", "foretell", "(I)V"⟩, 18), (⟨"PierYears", "weighGains", "(II)V"⟩, 18), (⟨"PierYears", "weighBests", "(I)V"⟩, 18), (⟨"PierYears", "gainBehind", "(III)I"⟩, 18), (⟨"PierYears", "fewestOfBest", "(I)I"⟩, 18)]
theorem lw_r1 : ∀ q ∈ lw_privs_1, lw_okq q := List.forall_mem_cons.mpr ⟨lw_p0, List.forall_mem_cons.mpr ⟨lw_p1, List.forall_mem_cons.mpr ⟨lw_p2, List.forall_mem_cons.mpr ⟨lw_p3, List.forall_mem_cons.mpr ⟨lw_p4, List.forall_mem_cons.mpr ⟨lw_p5, List.forall_mem_cons.mpr ⟨lw_p6, List.forall_mem_cons.mpr ⟨lw_p7, List.forall_mem_cons.mpr ⟨lw_p8, List.forall_mem_cons.mpr ⟨lw_p9, List.forall_mem_cons.mpr ⟨lw_p10, List.forall_mem_cons.mpr ⟨lw_p11, List.forall_mem_cons.mpr ⟨lw_p12, List.forall_mem_cons.mpr ⟨lw_p13, List.forall_mem_cons.mpr ⟨lw_p14, List.forall_mem_cons.mpr ⟨lw_p15, fun _ h => absurd h List.not_mem_nil⟩⟩⟩⟩⟩⟩⟩⟩⟩⟩⟩⟩⟩⟩⟩⟩
theorem lw_p16 : lw_okq (⟨"PierYears", "purseWith", "(I)I"⟩, 18) := ⟨⟨by decide +kernel, by decide +kernel⟩, List.mem_of_getElem? (i := 17) (by decide +kernel), List.mem_of_getElem? (i := 572) (by decide +kernel), List.mem_of_getElem? (i := 573) (by decide +kernel)⟩
theorem lw_p17 : lw_okq (⟨"PierYears", "shareOut", "(II)V"⟩, 18) := ⟨⟨by decide +kernel, by decide +kernel⟩, List.mem_of_getElem? (i := 17) (by decide +kernel), List.mem_of_getElem? (i := 576) (by decide +kernel), List.mem_of_getElem? (i := 577) (by decide +kernel)⟩
theorem lw_p18 : lw_okq (⟨"PierYears", "firstShare", "(IIII)I"⟩, 18) := ⟨⟨by decide +kernel, by decide +kernel⟩, List.mem_of_getElem? (i := 17) (by decide +kernel), List.mem_of_getElem? (i := 580) (by decide +kernel), List.mem_of_getElem? (i := 581) (by decide +kernel)⟩
theorem lw_p19 : lw_okq (⟨"PierYears", "purseTurned", "(III)I"⟩, 18) := ⟨⟨by decide +kernel, by decide +kernel⟩, List.mem_of_getElem? (i := 17) (by decide +kernel), List.mem_of_getElem? (i := 588) (by decide +kernel), List.mem_of_getElem? (i := 589) (by decide +kernel)⟩
theorem lw_p20 : lw_okq (⟨"PierYears", "isTaken", "(III)Z"⟩, 18) := ⟨⟨by decide +kernel, by decide +kernel⟩, List.mem_of_getElem? (i := 17) (by decide +kernel), List.mem_of_getElem? (i := 612) (by decide +kernel), List.mem_of_getElem? (i := 613) (by decide +kernel)⟩
theorem lw_p21 : lw_okq (⟨"PierYears", "takenBy", "(I)I"⟩, 18) := ⟨⟨by decide +kernel, by decide +kernel⟩, List.mem_of_getElem? (i := 17) (by decide +kernel), List.mem_of_getElem? (i := 625) (by decide +kernel), List.mem_of_getElem? (i := 626) (by decide +kernel)⟩
theorem lw_p22 : lw_okq (⟨"PierYears", "chanceOf", "(II)I"⟩, 18) := ⟨⟨by decide +kernel, by decide +kernel⟩, List.mem_of_getElem? (i := 17) (by decide +kernel), List.mem_of_getElem? (i := 629) (by decide +kernel), List.mem_of_getElem? (i := 630) (by decide +kernel)⟩
theorem lw_p23 : lw_okq (⟨"PierYears", "buildDrawn", "(J)V"⟩, 18) := ⟨⟨by decide +kernel, by decide +kernel⟩, List.mem_of_getElem? (i := 17) (by decide +kernel), List.mem_of_getElem? (i := 644) (by decide +kernel), List.mem_of_getElem? (i := 645) (by decide +kernel)⟩
theorem lw_p24 : lw_okq (⟨"PierYears", "imageOf", "(I)LPierYears$Coast;"⟩, 18) := ⟨⟨by decide +kernel, by decide +kernel⟩, List.mem_of_getElem? (i := 17) (by decide +kernel), List.mem_of_getElem? (i := 657) (by decide +kernel), List.mem_of_getElem? (i := 658) (by decide +kernel)⟩
theorem lw_p25 : lw_okq (⟨"PierYears", "bodyOf", "(I)LPierYears$Pier;"⟩, 18) := ⟨⟨by decide +kernel, by decide +kernel⟩, List.mem_of_getElem? (i := 17) (by decide +kernel), List.mem_of_getElem? (i := 673) (by decide +kernel), List.mem_of_getElem? (i := 674) (by decide +kernel)⟩
theorem lw_p26 : lw_okq (⟨"PierYearsModel", "finds", "(I)I"⟩, 26) := ⟨⟨by decide +kernel, by decide +kernel⟩, List.mem_of_getElem? (i := 765) (by decide +kernel), List.mem_of_getElem? (i := 862) (by decide +kernel), List.mem_of_getElem? (i := 863) (by decide +kernel)⟩
theorem lw_p27 : lw_okq (⟨"PierYearsModel", "done", "(I)I"⟩, 26) := ⟨⟨by decide +kernel, by decide +kernel⟩, List.mem_of_getElem? (i := 765) (by decide +kernel), List.mem_of_getElem? (i := 867) (by decide +kernel), List.mem_of_getElem? (i := 868) (by decide +kernel)⟩
theorem lw_p28 : lw_okq (⟨"PierYearsModel", "isRead", "()Z"⟩, 26) := ⟨⟨by decide +kernel, by decide +kernel⟩, List.mem_of_getElem? (i := 765) (by decide +kernel), List.mem_of_getElem? (i := 895) (by decide +kernel), List.mem_of_getElem? (i := 896) (by decide +kernel)⟩
theorem lw_p29 : lw_okq (⟨"PierYearsModel", "isLaw", "()Z"⟩, 26) := ⟨⟨by decide +kernel, by decide +kernel⟩, List.mem_of_getElem? (i := 765) (by decide +kernel), List.mem_of_getElem? (i := 899) (by decide +kernel), List.mem_of_getElem? (i := 900) (by decide +kernel)⟩
theorem lw_p30 : lw_okq (⟨"PierYearsModel", "isSign", "(I)Z"⟩, 26) := ⟨⟨by decide +kernel, by decide +kernel⟩, List.mem_of_getElem? (i := 765) (by decide +kernel), List.mem_of_getElem? (i := 903) (by decide +kernel), List.mem_of_getElem? (i := 904) (by decide +kernel)⟩
theorem lw_p31 : lw_okq (⟨"PierYearsModel", "nextToken", "()V"⟩, 26) := ⟨⟨by decide +kernel, by decide +kernel⟩, List.mem_of_getElem? (i := 765) (by decide +kernel), List.mem_of_getElem? (i := 907) (by decide +kernel), List.mem_of_getElem? (i := 908) (by decide +kernel)⟩
def lw_privs_2 : List (MethodName × Nat) := [(⟨"PierYears", "purseWith", "(I)I"⟩, 18), (⟨"PierYears", "shareOut", "(II)V"⟩, 18), (⟨"PierYears", "firstShare", "(IIII)I"⟩, 18), (⟨"PierYears", "purseTurned", "(III)I"⟩, 18), (⟨"PierYears", "isTaken", "(III)Z"⟩, 18), (⟨"PierYears", "takenBy", "(I)I"⟩, 18), (⟨"PierYears", "chanceOf", "(II)I"⟩, 18), (⟨"PierYears", "buildDrawn", "(J)V"⟩, 18), (⟨"PierYears", "imageOf", "(I)LPierYears$Coast;"⟩, 18), (⟨"PierYears", "bodyOf", "(I)LPierYears$Pier;"⟩, 18), (⟨"PierYearsModel", "finds", "(I)I"⟩, 26), (⟨"PierYearsModel", "done", "(I)I"⟩, 26), (⟨"PierYearsModel", "isRead", "()Z"⟩, 26), (⟨"PierYearsModel", "isLaw", "()Z"⟩, 26), (⟨"PierYearsModel", "isSign", "(I)Z"⟩, 26), (⟨"PierYearsModel", "nextToken", "()V"⟩, 26)]
theorem lw_r2 : ∀ q ∈ lw_privs_2, lw_okq q := List.forall_mem_cons.mpr ⟨lw_p16, List.forall_mem_cons.mpr ⟨lw_p17, List.forall_mem_cons.mpr ⟨lw_p18, List.forall_mem_cons.mpr ⟨lw_p19, List.forall_mem_cons.mpr ⟨lw_p20, List.forall_mem_cons.mpr ⟨lw_p21, List.forall_mem_cons.mpr ⟨lw_p22, List.forall_mem_cons.mpr ⟨lw_p23, List.forall_mem_cons.mpr ⟨lw_p24, List.forall_mem_cons.mpr ⟨lw_p25, List.forall_mem_cons.mpr ⟨lw_p26, List.forall_mem_cons.mpr ⟨lw_p27, List.forall_mem_cons.mpr ⟨lw_p28, List.forall_mem_cons.mpr ⟨lw_p29, List.forall_mem_cons.mpr ⟨lw_p30, List.forall_mem_cons.mpr ⟨lw_p31, fun _ h => absurd h List.not_mem_nil⟩⟩⟩⟩⟩⟩⟩⟩⟩⟩⟩⟩⟩⟩⟩⟩
theorem lw_p32 : lw_okq (⟨"PierYearsModel", "fails", "(I)Z"⟩, 26) := ⟨⟨by decide +kernel, by decide +kernel⟩, List.mem_of_getElem? (i := 765) (by decide +kernel), List.mem_of_getElem? (i := 911) (by decide +kernel), List.mem_of_getElem? (i := 912) (by decide +kernel)⟩
theorem lw_p33 : lw_okq (⟨"PierYearsModel", "isPart", "(IIII)Z"⟩, 26) := ⟨⟨by decide +kernel, by decide +kernel⟩, List.mem_of_getElem? (i := 765) (by decide +kernel), List.mem_of_getElem? (i := 915) (by decide +kernel), List.mem_of_getElem? (i := 916) (by decide +kernel)⟩
theorem lw_p34 : lw_okq (⟨"PierYearsModel", "isNumber", "(II)Z"⟩, 26) := ⟨⟨by decide +kernel, by decide +kernel⟩, List.mem_of_getElem? (i := 765) (by decide +kernel), List.mem_of_getElem? (i := 919) (by decide +kernel), List.mem_of_getElem? (i := 920) (by decide +kernel)⟩
theorem lw_p35 : lw_okq (⟨"PierYearsModel", "isPier", "()Z"⟩, 26) := ⟨⟨by decide +kernel, by decide +kernel⟩, List.mem_of_getElem? (i := 765) (by decide +kernel), List.mem_of_getElem? (i := 923) (by decide +kernel), List.mem_of_getElem? (i := 924) (by decide +kernel)⟩
theorem lw_p36 : lw_okq (⟨"PierYearsModel", "isCoast", "()Z"⟩, 26) := ⟨⟨by decide +kernel, by decide +kernel⟩, List.mem_of_getElem? (i := 765) (by decide +kernel), List.mem_of_getElem? (i := 942) (by decide +kernel), List.mem_of_getElem? (i := 943) (by decide +kernel)⟩
theorem lw_p37 : lw_okq (⟨"PierYearsModel", "note", "()V"⟩, 26) := ⟨⟨by decide +kernel, by decide +kernel⟩, List.mem_of_getElem? (i := 765) (by decide +kernel), List.mem_of_getElem? (i := 947) (by decide +kernel), List.mem_of_getElem? (i := 948) (by decide +kernel)⟩
theorem lw_p38 : lw_okq (⟨"PierYearsModel", "isOne", "(I)Z"⟩, 26) := ⟨⟨by decide +kernel, by decide +kernel⟩, List.mem_of_getElem? (i := 765) (by decide +kernel), List.mem_of_getElem? (i := 976) (by decide +kernel), List.mem_of_getElem? (i := 977) (by decide +kernel)⟩
theorem lw_p39 : lw_okq (⟨"PierYearsModel", "begin", "()V"⟩, 26) := ⟨⟨by decide +kernel, by decide +kernel⟩, List.mem_of_getElem? (i := 765) (by decide +kernel), List.mem_of_getElem? (i := 1000) (by decide +kernel), List.mem_of_getElem? (i := 1001) (by decide +kernel)⟩
theorem lw_p40 : lw_okq (⟨"PierYearsModel", "goOn", "(I)V"⟩, 26) := ⟨⟨by decide +kernel, by decide +kernel⟩, List.mem_of_getElem? (i := 765) (by decide +kernel), List.mem_of_getElem? (i := 1004) (by decide +kernel), List.mem_of_getElem? (i := 1005) (by decide +kernel)⟩
theorem lw_p41 : lw_okq (⟨"PierYearsModel", "layGive", "(I)V"⟩, 26) := ⟨⟨by decide +kernel, by decide +kernel⟩, List.mem_of_getElem? (i := 765) (by decide +kernel), List.mem_of_getElem? (i := 1029) (by decide +kernel), List.mem_of_getElem? (i := 1030) (by decide +kernel)⟩
theorem lw_p42 : lw_okq (⟨"PierYearsModel", "layGiven", "(II)I"⟩, 26) := ⟨⟨by decide +kernel, by decide +kernel⟩, List.mem_of_getElem? (i := 765) (by decide +kernel), List.mem_of_getElem? (i := 1033) (by decide +kernel), List.mem_of_getElem? (i := 1034) (by decide +kernel)⟩
theorem lw_p43 : lw_okq (⟨"PierYearsModel", "crossOf", "(II)I"⟩, 26) := ⟨⟨by decide +kernel, by decide +kernel⟩, List.mem_of_getElem? (i := 765) (by decide +kernel), List.mem_of_getElem? (i := 1045) (by decide +kernel), List.mem_of_getElem? (i := 1046) (by decide +kernel)⟩
theorem lw_p44 : lw_okq (⟨"PierYearsModel", "takeOut", "(III)I"⟩, 26) := ⟨⟨by decide +kernel, by decide +kernel⟩, List.mem_of_getElem? (i := 765) (by decide +kernel), List.mem_of_getElem? (i := 1053) (by decide +kernel), List.mem_of_getElem? (i := 1054) (by decide +kernel)⟩
theorem lw_p45 : lw_okq (⟨"PierYearsModel", "isSo", "(I)Z"⟩, 26) := ⟨⟨by decide +kernel, by decide +kernel⟩, List.mem_of_getElem? (i := 765) (by decide +kernel), List.mem_of_getElem? (i := 1057) (by decide +kernel), List.mem_of_getElem? (i := 1058) (by decide +kernel)⟩
theorem lw_p46 : lw_okq (⟨"PierYearsModel", "allSpans", "([I)I"⟩, 26) := ⟨⟨by decide +kernel, by decide +kernel⟩, List.mem_of_getElem? (i := 765) (by decide +kernel), List.mem_of_getElem? (i := 1077) (by decide +kernel), List.mem_of_getElem? (i := 1078) (by decide +kernel)⟩
theorem lw_p47 : lw_okq (⟨"PierYearsModel", "sizeOf", "(I)I"⟩, 26) := ⟨⟨by decide +kernel, by decide +kernel⟩, List.mem_of_getElem? (i := 765) (by decide +kernel), List.mem_of_getElem? (i := 1104) (by decide +kernel), List.mem_of_getElem? (i := 1105) (by decide +kernel)⟩
def lw_privs_3 : List (MethodName × Nat) := [(⟨"PierYearsModel", "fails", "(I)Z"⟩, 26), (⟨"PierYearsModel", "isPart", "(IIII)Z"⟩, 26), (⟨"PierYearsModel", "isNumber", "(II)Z"⟩, 26), (⟨"PierYearsModel", "isPier", "()Z"⟩, 26), (⟨"PierYearsModel", "isCoast", "()Z"⟩, 26), (⟨"PierYearsModel", "note", "()V"⟩, 26), (⟨"PierYearsModel", "isOne", "(I)Z"⟩, 26), (⟨"PierYearsModel", "begin", "()V"⟩, 26), (⟨"PierYearsModel", "goOn", "(I)V"⟩, 26), (⟨"PierYearsModel", "layGive", "(I)V"⟩, 26), (⟨"PierYearsModel", "layGiven", "(II)I"⟩, 26), (⟨"PierYearsModel", "crossOf", "(II)I"⟩, 26), (⟨"PierYearsModel", "takeOut", "(III)I"⟩, 26), (⟨"PierYearsModel", "isSo", "(I)Z"⟩, 26), (⟨"PierYearsModel", "allSpans", "([I)I"⟩, 26), (⟨"PierYearsModel", "sizeOf", "(I)I"⟩, 26)]
theorem lw_r3 : ∀ q ∈ lw_privs_3, lw_okq q := List.forall_mem_cons.mpr ⟨lw_p32, List.forall_mem_cons.mpr ⟨lw_p33, List.forall_mem_cons.mpr ⟨lw_p34, List.forall_mem_cons.mpr ⟨lw_p35, List.forall_mem_cons.mpr ⟨lw_p36, List.forall_mem_cons.mpr ⟨lw_p37, List.forall_mem_cons.mpr ⟨lw_p38, List.forall_mem_cons.mpr ⟨lw_p39, List.forall_mem_cons.mpr ⟨lw_p40, List.forall_mem_cons.mpr ⟨lw_p41, List.forall_mem_cons.mpr ⟨lw_p42, List.forall_mem_cons.mpr ⟨lw_p43, List.forall_mem_cons.mpr ⟨lw_p44, List.forall_mem_cons.mpr ⟨lw_p45, List.forall_mem_cons.mpr ⟨lw_p46, List.forall_mem_cons.mpr ⟨lw_p47, fun _ h => absurd h List.not_mem_nil⟩⟩⟩⟩⟩⟩⟩⟩⟩⟩⟩⟩⟩⟩⟩⟩
theorem lw_p48 : lw_okq (⟨"PierYearsModel", "begins", "(I)V"⟩, 26) := ⟨⟨by decide +kernel, by decide +kernel⟩, List.mem_of_getElem? (i := 765) (by decide +kernel), List.mem_of_getElem? (i := 1108) (by decide +kernel), List.mem_of_getElem? (i := 1109) (by decide +kernel)⟩
theorem lw_p49 : lw_okq (⟨"PierYearsModel", "sizeWooden", "(I)I"⟩, 26) := ⟨⟨by decide +kernel, by decide +kernel⟩, List.mem_of_getElem? (i := 765) (by decide +kernel), List.mem_of_getElem? (i := 1112) (by decide +kernel), List.mem_of_getElem? (i := 1113) (by decide +kernel)⟩
theorem lw_p50 : lw_okq (⟨"PierYearsModel", "markNew", "(I)I"⟩, 26) := ⟨⟨by decide +kernel, by decide +kernel⟩, List.mem_of_getElem? (i := 765) (by decide +kernel), List.mem_of_getElem? (i := 1116) (by decide +kernel), List.mem_of_getElem? (i := 1117) (by decide +kernel)⟩
theorem lw_p51 : lw_okq (⟨"PierYearsModel", "markIrons", "(I)I"⟩, 26) := ⟨⟨by decide +kernel, by decide +kernel⟩, List.mem_of_getElem? (i := 765) (by decide +kernel), List.mem_of_getElem? (i := 1120) (by decide +kernel), List.mem_of_getElem? (i := 1121) (by decide +kernel)⟩
theorem lw_p52 : lw_okq (⟨"PierYearsModel", "markOf", "(I)I"⟩, 26) := ⟨⟨by decide +kernel, by decide +kernel⟩, List.mem_of_getElem? (i := 765) (by decide +kernel), List.mem_of_getElem? (i := 1124) (by decide +kernel), List.mem_of_getElem? (i := 1125) (by decide +kernel)⟩
def lw_privs_4 : List (MethodName × Nat) := [(⟨"PierYearsModel", "begins", "(I)V"⟩, 26), (⟨"PierYearsModel", "sizeWooden", "(I)I"⟩, 26), (⟨"PierYearsModel", "markNew", "(I)I"⟩, 26), (⟨"PierYearsModel", "markIrons", "(I)I"⟩, 26), (⟨"PierYearsModel", "markOf", "(I)I"⟩, 26)]
theorem lw_r4 : ∀ q ∈ lw_privs_4, lw_okq q := List.forall_mem_cons.mpr ⟨lw_p48, List.forall_mem_cons.mpr ⟨lw_p49, List.forall_mem_cons.mpr ⟨lw_p50, List.forall_mem_cons.mpr ⟨lw_p51, List.forall_mem_cons.mpr ⟨lw_p52, fun _ h => absurd h List.not_mem_nil⟩⟩⟩⟩⟩
def lw_privs : List (MethodName × Nat) := lw_privs_1 ++ (lw_privs_2 ++ (lw_privs_3 ++ (lw_privs_4)))
def lw_tbl : List Cond := k2_sels lw_privs ++ tables_1
theorem lw_privs_ok : ∀ q ∈ lw_privs, lw_okq q := by
  show ∀ q ∈ lw_privs_1 ++ (lw_privs_2 ++ (lw_privs_3 ++ (lw_privs_4))), lw_okq q
  exact List.forall_mem_append.mpr ⟨lw_r1, List.forall_mem_append.mpr ⟨lw_r2, List.forall_mem_append.mpr ⟨lw_r3, lw_r4⟩⟩⟩
def RX0 : String := "PierYears$Asking"
def TX0 : u_T := fun k => match k with
  | 0 => ("PierYears$Asking", "numbers", "[I", true)
  | 1 => ("PierYears$Asking", "length", "I", false)
  | 2 => ("PierYears$Asking", "number", "I", false)
  | 3 => ("PierYears$Asking", "from", "I", false)
  | _ => ("PierYears$Asking", "spans", "I", false)
def tyX0 : Nat → FieldType := fun k => match k with
  | 0 => .array .int
  | 1 => .int
  | 2 => .int
  | 3 => .int
  | _ => .int
abbrev wsX00 : List Cond := u_ws RX0 TX0 5
theorem nmX0 : ∀ a, a < 5 → ∀ b, b < 5 → a ≠ b → (TX0 a).2.1 ≠ (TX0 b).2.1 := by decide +kernel
theorem tyX0_ok : ∀ k, k < 5 → parseFieldDescriptor (TX0 k).2.2.1 = some (tyX0 k) := by decide +kernel
abbrev cX0_init : ByteArray := prog_2_method_1_code
def yX0_init : MethodName := ⟨RX0, "<init>", "()V"⟩
abbrev cX0_begin : ByteArray := prog_2_method_2_code
def yX0_begin : MethodName := ⟨RX0, "begin", "(III)V"⟩
abbrev cX0_leave : ByteArray := prog_2_method_3_code
def yX0_leave : MethodName := ⟨RX0, "leave", "(I)V"⟩
abbrev cX0_left : ByteArray := prog_2_method_4_code
def yX0_left : MethodName := ⟨RX0, "left", "(I)I"⟩
def RX1 : String := "PierYears$Cast"
def TX1 : u_T := fun k => match k with
  | _ => ("", "", "", false)
def tyX1 : Nat → FieldType := fun k => match k with
  | _ => .int
abbrev wsX10 : List Cond := u_ws RX1 TX1 0
theorem nmX1 : ∀ a, a < 0 → ∀ b, b < 0 → a ≠ b → (TX1 a).2.1 ≠ (TX1 b).2.1 := by decide +kernel
theorem tyX1_ok : ∀ k, k < 0 → parseFieldDescriptor (TX1 k).2.2.1 = some (tyX1 k) := by decide +kernel
abbrev cX1_init : ByteArray := prog_3_method_1_code
def yX1_init : MethodName := ⟨RX1, "<init>", "()V"⟩
abbrev cX1_size : ByteArray := prog_3_method_2_code
def yX1_size : MethodName := ⟨RX1, "size", "(LPierYears$Asking;)I"⟩
abbrev cX1_mark : ByteArray := prog_3_method_3_code
def yX1_mark : MethodName := ⟨RX1, "mark", "(LPierYears$Asking;)I"⟩
def RX2 : String := "PierYears$Coast"
def TX2 : u_T := fun k => match k with
  | 0 => ("PierYears$Coast", "kinds", "[I", true)
  | 1 => ("PierYears$Coast", "froms", "[I", true)
  | 2 => ("PierYears$Coast", "leans", "[I", true)
  | 3 => ("PierYears$Coast", "spans", "[I", true)
  | 4 => ("PierYears$Coast", "stands", "Z", false)
  | 5 => ("PierYears$Coast", "piers", "I", false)
  | 6 => ("PierYears$Coast", "season", "I", false)
  | 7 => ("PierYears$Coast", "purse", "I", false)
  | 8 => ("PierYears$Coast", "iron", "I", false)
  | 9 => ("PierYears$Coast", "along", "I", false)
  | 10 => ("PierYears$Coast", "out", "I", false)
  | 11 => ("PierYears$Coast", "round", "I", false)
  | _ => ("PierYears$Coast", "gale", "I", false)
def tyX2 : Nat → FieldType := fun k => match k with
  | 0 => .array .int
  | 1 => .array .int
  | 2 => .array .int
  | 3 => .array .int
  | 4 => .boolean
  | 5 => .int
  | 6 => .int
  | 7 => .int
  | 8 => .int
  | 9 => .int
  | 10 => .int
  | 11 => .int
  | _ => .int
abbrev wsX20 : List Cond := u_ws RX2 TX2 13
theorem nmX2 : ∀ a, a < 13 → ∀ b, b < 13 → a ≠ b → (TX2 a).2.1 ≠ (TX2 b).2.1 := by decide +kernel
theorem tyX2_ok : ∀ k, k < 13 → parseFieldDescriptor (TX2 k).2.2.1 = some (tyX2 k) := by decide +kernel
abbrev cX2_init : ByteArray := prog_4_method_1_code
def yX2_init : MethodName := ⟨RX2, "<init>", "()V"⟩
abbrev cX2_begin : ByteArray := prog_4_method_2_code
def yX2_begin : MethodName := ⟨RX2, "begin", "(IIIII)V"⟩
abbrev cX2_addPier : ByteArray := prog_4_method_3_code
def yX2_addPier : MethodName := ⟨RX2, "addPier", "(IIII)V"⟩
abbrev cX2_become : ByteArray := prog_4_method_4_code
def yX2_become : MethodName := ⟨RX2, "become", "(LPierYears$Coast;)V"⟩
abbrev cX2_change : ByteArray := prog_4_method_5_code
def yX2_change : MethodName := ⟨RX2, "change", "(III)V"⟩
abbrev cX2_placeFrom : ByteArray := prog_4_method_6_code
def yX2_placeFrom : MethodName := ⟨RX2, "placeFrom", "(III)I"⟩
abbrev cX2_endOf : ByteArray := prog_4_method_7_code
def yX2_endOf : MethodName := ⟨RX2, "endOf", "(I)I"⟩
abbrev cX2_takeAt : ByteArray := prog_4_method_8_code
def yX2_takeAt : MethodName := ⟨RX2, "takeAt", "(II)I"⟩
abbrev cX2_takeOf : ByteArray := prog_4_method_9_code
def yX2_takeOf : MethodName := ⟨RX2, "takeOf", "(I)I"⟩
abbrev cX2_takeTogether : ByteArray := prog_4_method_10_code
def yX2_takeTogether : MethodName := ⟨RX2, "takeTogether", "()I"⟩
abbrev cX2_storm : ByteArray := prog_4_method_11_code
def yX2_storm : MethodName := ⟨RX2, "storm", "()I"⟩
abbrev cX2_stormOf : ByteArray := prog_4_method_12_code
def yX2_stormOf : MethodName := ⟨RX2, "stormOf", "(I)I"⟩
abbrev cX2_lossOfKind : ByteArray := prog_4_method_13_code
def yX2_lossOfKind : MethodName := ⟨RX2, "lossOfKind", "(III)I"⟩
abbrev cX2_lossOf : ByteArray := prog_4_method_14_code
def yX2_lossOf : MethodName := ⟨RX2, "lossOf", "(II)I"⟩
abbrev cX2_pass : ByteArray := prog_4_method_15_code
def yX2_pass : MethodName := ⟨RX2, "pass", "(I)V"⟩
abbrev cX2_passAll : ByteArray := prog_4_method_16_code
def yX2_passAll : MethodName := ⟨RX2, "passAll", "(I)V"⟩
abbrev cX2_takenAhead : ByteArray := prog_4_method_17_code
def yX2_takenAhead : MethodName := ⟨RX2, "takenAhead", "(III)I"⟩
abbrev cX2_buildSpan : ByteArray := prog_4_method_18_code
def yX2_buildSpan : MethodName := ⟨RX2, "buildSpan", "(I)V"⟩
abbrev cX2_allSpans : ByteArray := prog_4_method_19_code
def yX2_allSpans : MethodName := ⟨RX2, "allSpans", "()I"⟩
abbrev cX2_crossing : ByteArray := prog_4_method_20_code
def yX2_crossing : MethodName := ⟨RX2, "crossing", "(II)I"⟩
def RX3 : String := "PierYears$Irons"
def TX3 : u_T := fun k => match k with
  | _ => ("", "", "", false)
def tyX3 : Nat → FieldType := fun k => match k with
  | _ => .int
abbrev wsX30 : List Cond := u_ws RX3 TX3 0
theorem nmX3 : ∀ a, a < 0 → ∀ b, b < 0 → a ≠ b → (TX3 a).2.1 ≠ (TX3 b).2.1 := by decide +kernel
theorem tyX3_ok : ∀ k, k < 0 → parseFieldDescriptor (TX3 k).2.2.1 = some (tyX3 k) := by decide +kernel
abbrev cX3_init : ByteArray := prog_5_method_1_code
def yX3_init : MethodName := ⟨RX3, "<init>", "()V"⟩
abbrev cX3_size : ByteArray := prog_5_method_2_code
def yX3_size : MethodName := ⟨RX3, "size", "(LPierYears$Asking;)I"⟩
abbrev cX3_mark : ByteArray := prog_5_method_3_code
def yX3_mark : MethodName := ⟨RX3, "mark", "(LPierYears$Asking;)I"⟩
def RX4 : String := "PierYears$Past"
def TX4 : u_T := fun k => match k with
  | 0 => ("PierYears$Past", "kept", "[I", true)
  | 1 => ("PierYears$Past", "next", "I", false)
  | _ => ("PierYears$Past", "size", "I", false)
def tyX4 : Nat → FieldType := fun k => match k with
  | 0 => .array .int
  | 1 => .int
  | _ => .int
abbrev wsX40 : List Cond := u_ws RX4 TX4 3
theorem nmX4 : ∀ a, a < 3 → ∀ b, b < 3 → a ≠ b → (TX4 a).2.1 ≠ (TX4 b).2.1 := by decide +kernel
theorem tyX4_ok : ∀ k, k < 3 → parseFieldDescriptor (TX4 k).2.2.1 = some (tyX4 k) := by decide +kernel
abbrev cX4_init : ByteArray := prog_6_method_1_code
def yX4_init : MethodName := ⟨RX4, "<init>", "()V"⟩
abbrev cX4_size : ByteArray := prog_6_method_2_code
def yX4_size : MethodName := ⟨RX4, "size", "()I"⟩
abbrev cX4_forgetAll : ByteArray := prog_6_method_3_code
def yX4_forgetAll : MethodName := ⟨RX4, "forgetAll", "()V"⟩
abbrev cX4_keep : ByteArray := prog_6_method_4_code
def yX4_keep : MethodName := ⟨RX4, "keep", "(LPierYears$Coast;)V"⟩
abbrev cX4_bringBack : ByteArray := prog_6_method_5_code
def yX4_bringBack : MethodName := ⟨RX4, "bringBack", "(LPierYears$Coast;)V"⟩
def RX5 : String := "PierYears$Pier"
def TX5 : u_T := fun k => match k with
  | _ => ("", "", "", false)
def tyX5 : Nat → FieldType := fun k => match k with
  | _ => .int
abbrev wsX50 : List Cond := u_ws RX5 TX5 0
theorem nmX5 : ∀ a, a < 0 → ∀ b, b < 0 → a ≠ b → (TX5 a).2.1 ≠ (TX5 b).2.1 := by decide +kernel
theorem tyX5_ok : ∀ k, k < 0 → parseFieldDescriptor (TX5 k).2.2.1 = some (tyX5 k) := by decide +kernel
abbrev cX5_init : ByteArray := prog_7_method_1_code
def yX5_init : MethodName := ⟨RX5, "<init>", "()V"⟩
abbrev cX5_size : ByteArray := prog_7_method_2_code
def yX5_size : MethodName := ⟨RX5, "size", "(LPierYears$Asking;)I"⟩
abbrev cX5_mark : ByteArray := prog_7_method_3_code
def yX5_mark : MethodName := ⟨RX5, "mark", "(LPierYears$Asking;)I"⟩
def RX6 : String := "PierYears$Piled"
def TX6 : u_T := fun k => match k with
  | _ => ("", "", "", false)
def tyX6 : Nat → FieldType := fun k => match k with
  | _ => .int
abbrev wsX60 : List Cond := u_ws RX6 TX6 0
theorem nmX6 : ∀ a, a < 0 → ∀ b, b < 0 → a ≠ b → (TX6 a).2.1 ≠ (TX6 b).2.1 := by decide +kernel
theorem tyX6_ok : ∀ k, k < 0 → parseFieldDescriptor (TX6 k).2.2.1 = some (tyX6 k) := by decide +kernel
abbrev cX6_init : ByteArray := prog_8_method_1_code
def yX6_init : MethodName := ⟨RX6, "<init>", "()V"⟩
abbrev cX6_size : ByteArray := prog_8_method_2_code
def yX6_size : MethodName := ⟨RX6, "size", "(LPierYears$Asking;)I"⟩
def RX7 : String := "PierYears$Rows"
def TX7 : u_T := fun k => match k with
  | 0 => ("PierYears$Rows", "lanes", "[I", true)
  | 1 => ("PierYears$Rows", "sizes", "[I", true)
  | _ => ("PierYears$Rows", "items", "[I", true)
def tyX7 : Nat → FieldType := fun k => match k with
  | 0 => .array .int
  | 1 => .array .int
  | _ => .array .int
abbrev wsX70 : List Cond := u_ws RX7 TX7 3
theorem nmX7 : ∀ a, a < 3 → ∀ b, b < 3 → a ≠ b → (TX7 a).2.1 ≠ (TX7 b).2.1 := by decide +kernel
theorem tyX7_ok : ∀ k, k < 3 → parseFieldDescriptor (TX7 k).2.2.1 = some (tyX7 k) := by decide +kernel
abbrev cX7_init : ByteArray := prog_9_method_1_code
def yX7_init : MethodName := ⟨RX7, "<init>", "()V"⟩
abbrev cX7_isMissing : ByteArray := prog_9_method_2_code
def yX7_isMissing : MethodName := ⟨RX7, "isMissing", "(I)Z"⟩
abbrev cX7_areAlike : ByteArray := prog_9_method_3_code
def yX7_areAlike : MethodName := ⟨RX7, "areAlike", "(II)Z"⟩
abbrev cX7_holds : ByteArray := prog_9_method_4_code
def yX7_holds : MethodName := ⟨RX7, "holds", "(III)Z"⟩
abbrev cX7_make : ByteArray := prog_9_method_5_code
def yX7_make : MethodName := ⟨RX7, "make", "(III)V"⟩
abbrev cX7_put : ByteArray := prog_9_method_6_code
def yX7_put : MethodName := ⟨RX7, "put", "(III)I"⟩
abbrev cX7_item : ByteArray := prog_9_method_7_code
def yX7_item : MethodName := ⟨RX7, "item", "(II)I"⟩
abbrev cX7_move : ByteArray := prog_9_method_8_code
def yX7_move : MethodName := ⟨RX7, "move", "(IIIII)V"⟩
abbrev cX7_remove : ByteArray := prog_9_method_9_code
def yX7_remove : MethodName := ⟨RX7, "remove", "(I)I"⟩
abbrev cX7_present : ByteArray := prog_9_method_10_code
def yX7_present : MethodName := ⟨RX7, "present", "()I"⟩
def RX8 : String := "PierYears$Rusty"
def TX8 : u_T := fun k => match k with
  | _ => ("", "", "", false)
def tyX8 : Nat → FieldType := fun k => match k with
  | _ => .int
abbrev wsX80 : List Cond := u_ws RX8 TX8 0
theorem nmX8 : ∀ a, a < 0 → ∀ b, b < 0 → a ≠ b → (TX8 a).2.1 ≠ (TX8 b).2.1 := by decide +kernel
theorem tyX8_ok : ∀ k, k < 0 → parseFieldDescriptor (TX8 k).2.2.1 = some (tyX8 k) := by decide +kernel
abbrev cX8_init : ByteArray := prog_10_method_1_code
def yX8_init : MethodName := ⟨RX8, "<init>", "()V"⟩
abbrev cX8_mark : ByteArray := prog_10_method_2_code
def yX8_mark : MethodName := ⟨RX8, "mark", "(LPierYears$Asking;)I"⟩
def RX9 : String := "PierYears$Tape"
def TX9 : u_T := fun k => match k with
  | 0 => ("PierYears$Tape", "bytes", "[I", true)
  | 1 => ("PierYears$Tape", "numbers", "[I", true)
  | 2 => ("PierYears$Tape", "length", "I", false)
  | 3 => ("PierYears$Tape", "at", "I", false)
  | _ => ("PierYears$Tape", "fault", "I", false)
def tyX9 : Nat → FieldType := fun k => match k with
  | 0 => .array .int
  | 1 => .array .int
  | 2 => .int
  | 3 => .int
  | _ => .int
abbrev wsX90 : List Cond := u_ws RX9 TX9 5
theorem nmX9 : ∀ a, a < 5 → ∀ b, b < 5 → a ≠ b → (TX9 a).2.1 ≠ (TX9 b).2.1 := by decide +kernel
theorem tyX9_ok : ∀ k, k < 5 → parseFieldDescriptor (TX9 k).2.2.1 = some (tyX9 k) := by decide +kernel
abbrev cX9_init : ByteArray := prog_11_method_1_code
def yX9_init : MethodName := ⟨RX9, "<init>", "()V"⟩
abbrev cX9_isFull : ByteArray := prog_11_method_2_code
def yX9_isFull : MethodName := ⟨RX9, "isFull", "()Z"⟩
abbrev cX9_add : ByteArray := prog_11_method_3_code
def yX9_add : MethodName := ⟨RX9, "add", "(I)I"⟩
abbrev cX9_length : ByteArray := prog_11_method_4_code
def yX9_length : MethodName := ⟨RX9, "length", "()I"⟩
abbrev cX9_faultNumber : ByteArray := prog_11_method_5_code
def yX9_faultNumber : MethodName := ⟨RX9, "faultNumber", "()I"⟩
abbrev cX9_faultPlace : ByteArray := prog_11_method_6_code
def yX9_faultPlace : MethodName := ⟨RX9, "faultPlace", "()I"⟩
abbrev cX9_readInto : ByteArray := prog_11_method_7_code
def yX9_readInto : MethodName := ⟨RX9, "readInto", "(LPierYears$Coast;)Z"⟩
abbrev cX9_readLaw : ByteArray := prog_11_method_8_code
def yX9_readLaw : MethodName := ⟨RX9, "readLaw", "(LPierYears$Coast;)Z"⟩
abbrev cX9_readPiers : ByteArray := prog_11_method_9_code
def yX9_readPiers : MethodName := ⟨RX9, "readPiers", "(LPierYears$Coast;)Z"⟩
abbrev cX9_readNumbers : ByteArray := prog_11_method_10_code
def yX9_readNumbers : MethodName := ⟨RX9, "readNumbers", "([I[I)Z"⟩
abbrev cX9_readNumber : ByteArray := prog_11_method_11_code
def yX9_readNumber : MethodName := ⟨RX9, "readNumber", "(III)Z"⟩
abbrev cX9_readSign : ByteArray := prog_11_method_12_code
def yX9_readSign : MethodName := ⟨RX9, "readSign", "(I)Z"⟩
abbrev cX9_fail : ByteArray := prog_11_method_13_code
def yX9_fail : MethodName := ⟨RX9, "fail", "(I)Z"⟩
abbrev cX9_byteHere : ByteArray := prog_11_method_14_code
def yX9_byteHere : MethodName := ⟨RX9, "byteHere", "()I"⟩
abbrev cX9_isFigure : ByteArray := prog_11_method_15_code
def yX9_isFigure : MethodName := ⟨RX9, "isFigure", "(I)Z"⟩
abbrev cX9_kindOfLetter : ByteArray := prog_11_method_16_code
def yX9_kindOfLetter : MethodName := ⟨RX9, "kindOfLetter", "(I)I"⟩
def RX10 : String := "PierYears$Wooden"
def TX10 : u_T := fun k => match k with
  | _ => ("", "", "", false)
def tyX10 : Nat → FieldType := fun k => match k with
  | _ => .int
abbrev wsX100 : List Cond := u_ws RX10 TX10 0
theorem nmX10 : ∀ a, a < 0 → ∀ b, b < 0 → a ≠ b → (TX10 a).2.1 ≠ (TX10 b).2.1 := by decide +kernel
theorem tyX10_ok : ∀ k, k < 0 → parseFieldDescriptor (TX10 k).2.2.1 = some (tyX10 k) := by decide +kernel
abbrev cX10_init : ByteArray := prog_12_method_1_code
def yX10_init : MethodName := ⟨RX10, "<init>", "()V"⟩
abbrev cX10_size : ByteArray := prog_12_method_2_code
def yX10_size : MethodName := ⟨RX10, "size", "(LPierYears$Asking;)I"⟩
abbrev cX10_mark : ByteArray := prog_12_method_3_code
def yX10_mark : MethodName := ⟨RX10, "mark", "(LPierYears$Asking;)I"⟩
def RX11 : String := "PierYears"
def TX11 : u_T := fun k => match k with
  | 0 => ("PierYears", "rows", "LPierYears$Rows;", true)
  | 1 => ("PierYears", "tape", "LPierYears$Tape;", true)
  | 2 => ("PierYears", "now", "LPierYears$Coast;", true)
  | 3 => ("PierYears", "foretold", "LPierYears$Coast;", true)
  | 4 => ("PierYears", "firstImage", "LPierYears$Coast;", true)
  | 5 => ("PierYears", "secondImage", "LPierYears$Coast;", true)
  | 6 => ("PierYears", "past", "LPierYears$Past;", true)
  | 7 => ("PierYears", "asking", "LPierYears$Asking;", true)
  | 8 => ("PierYears", "irons", "LPierYears$Irons;", true)
  | 9 => ("PierYears", "cast", "LPierYears$Cast;", true)
  | 10 => ("PierYears", "rusty", "LPierYears$Rusty;", true)
  | 11 => ("PierYears", "wooden", "LPierYears$Wooden;", true)
  | 12 => ("PierYears", "piled", "LPierYears$Piled;", true)
  | 13 => ("PierYears", "gains", "[I", true)
  | 14 => ("PierYears", "bests", "[I", true)
  | 15 => ("PierYears", "shares", "[I", true)
  | 16 => ("PierYears", "latestFault", "I", false)
  | _ => ("PierYears", "latestFinding", "I", false)
def tyX11 : Nat → FieldType := fun k => match k with
  | 0 => .object "PierYears$Rows"
  | 1 => .object "PierYears$Tape"
  | 2 => .object "PierYears$Coast"
  | 3 => .object "PierYears$Coast"
  | 4 => .object "PierYears$Coast"
  | 5 => .object "PierYears$Coast"
  | 6 => .object "PierYears$Past"
  | 7 => .object "PierYears$Asking"
  | 8 => .object "PierYears$Irons"
  | 9 => .object "PierYears$Cast"
  | 10 => .object "PierYears$Rusty"
  | 11 => .object "PierYears$Wooden"
  | 12 => .object "PierYears$Piled"
  | 13 => .array .int
  | 14 => .array .int
  | 15 => .array .int
  | 16 => .int
  | _ => .int
abbrev wsX110 : List Cond := u_ws RX11 TX11 18
theorem nmX11 : ∀ a, a < 18 → ∀ b, b < 18 → a ≠ b → (TX11 a).2.1 ≠ (TX11 b).2.1 := by decide +kernel
theorem tyX11_ok : ∀ k, k < 18 → parseFieldDescriptor (TX11 k).2.2.1 = some (tyX11 k) := by decide +kernel
abbrev cX11_init : ByteArray := prog_1_method_1_code
def yX11_init : MethodName := ⟨RX11, "<init>", "()V"⟩
abbrev cX11_row : ByteArray := prog_1_method_2_code
def yX11_row : MethodName := ⟨RX11, "row", "(III)I"⟩
abbrev cX11_set : ByteArray := prog_1_method_3_code
def yX11_set : MethodName := ⟨RX11, "set", "(III)I"⟩
abbrev cX11_copy : ByteArray := prog_1_method_4_code
def yX11_copy : MethodName := ⟨RX11, "copy", "(IIIII)I"⟩
abbrev cX11_drop : ByteArray := prog_1_method_5_code
def yX11_drop : MethodName := ⟨RX11, "drop", "(I)I"⟩
abbrev cX11_feed : ByteArray := prog_1_method_6_code
def yX11_feed : MethodName := ⟨RX11, "feed", "(I)I"⟩
abbrev cX11_coast : ByteArray := prog_1_method_7_code
def yX11_coast : MethodName := ⟨RX11, "coast", "()I"⟩
abbrev cX11_fault : ByteArray := prog_1_method_8_code
def yX11_fault : MethodName := ⟨RX11, "fault", "()I"⟩
abbrev cX11_seasons : ByteArray := prog_1_method_9_code
def yX11_seasons : MethodName := ⟨RX11, "seasons", "(I)I"⟩
abbrev cX11_build : ByteArray := prog_1_method_10_code
def yX11_build : MethodName := ⟨RX11, "build", "(I)I"⟩
abbrev cX11_turn : ByteArray := prog_1_method_11_code
def yX11_turn : MethodName := ⟨RX11, "turn", "(II)I"⟩
abbrev cX11_buy : ByteArray := prog_1_method_12_code
def yX11_buy : MethodName := ⟨RX11, "buy", "(I)I"⟩
abbrev cX11_undo : ByteArray := prog_1_method_13_code
def yX11_undo : MethodName := ⟨RX11, "undo", "()I"⟩
abbrev cX11_pier : ByteArray := prog_1_method_14_code
def yX11_pier : MethodName := ⟨RX11, "pier", "(II)I"⟩
abbrev cX11_ahead : ByteArray := prog_1_method_15_code
def yX11_ahead : MethodName := ⟨RX11, "ahead", "(III)I"⟩
abbrev cX11_purse : ByteArray := prog_1_method_16_code
def yX11_purse : MethodName := ⟨RX11, "purse", "(I)I"⟩
abbrev cX11_gone : ByteArray := prog_1_method_17_code
def yX11_gone : MethodName := ⟨RX11, "gone", "(I)I"⟩
abbrev cX11_aim : ByteArray := prog_1_method_18_code
def yX11_aim : MethodName := ⟨RX11, "aim", "(IIII)I"⟩
abbrev cX11_take : ByteArray := prog_1_method_19_code
def yX11_take : MethodName := ⟨RX11, "take", "(II)I"⟩
abbrev cX11_give : ByteArray := prog_1_method_20_code
def yX11_give : MethodName := ⟨RX11, "give", "(II)I"⟩
abbrev cX11_turning : ByteArray := prog_1_method_21_code
def yX11_turning : MethodName := ⟨RX11, "turning", "(II)I"⟩
abbrev cX11_cross : ByteArray := prog_1_method_22_code
def yX11_cross : MethodName := ⟨RX11, "cross", "(I)I"⟩
abbrev cX11_fits : ByteArray := prog_1_method_23_code
def yX11_fits : MethodName := ⟨RX11, "fits", "(IIIII)I"⟩
abbrev cX11_fire : ByteArray := prog_1_method_24_code
def yX11_fire : MethodName := ⟨RX11, "fire", "(III)I"⟩
abbrev cX11_drawn : ByteArray := prog_1_method_25_code
def yX11_drawn : MethodName := ⟨RX11, "drawn", "(III)I"⟩
abbrev cX11_image : ByteArray := prog_1_method_26_code
def yX11_image : MethodName := ⟨RX11, "image", "(I)I"⟩
abbrev cX11_restore : ByteArray := prog_1_method_27_code
def yX11_restore : MethodName := ⟨RX11, "restore", "(I)I"⟩
abbrev cX11_kind : ByteArray := prog_1_method_28_code
def yX11_kind : MethodName := ⟨RX11, "kind", "(I)I"⟩
abbrev cX11_as : ByteArray := prog_1_method_29_code
def yX11_as : MethodName := ⟨RX11, "as", "(II)I"⟩
abbrev cX11_ask : ByteArray := prog_1_method_30_code
def yX11_ask : MethodName := ⟨RX11, "ask", "(II)I"⟩
abbrev cX11_trace : ByteArray := prog_1_method_31_code
def yX11_trace : MethodName := ⟨RX11, "trace", "(I)I"⟩
abbrev cX11_count : ByteArray := prog_1_method_32_code
def yX11_count : MethodName := ⟨RX11, "count", "(I)I"⟩
abbrev cX11_status : ByteArray := prog_1_method_33_code
def yX11_status : MethodName := ⟨RX11, "status", "()I"⟩
abbrev cX11_isWithin : ByteArray := prog_1_method_34_code
def yX11_isWithin : MethodName := ⟨RX11, "isWithin", "(III)Z"⟩
abbrev cX11_isRow : ByteArray := prog_1_method_35_code
def yX11_isRow : MethodName := ⟨RX11, "isRow", "(I)Z"⟩
abbrev cX11_isPlace : ByteArray := prog_1_method_36_code
def yX11_isPlace : MethodName := ⟨RX11, "isPlace", "(I)Z"⟩
abbrev cX11_isAhead : ByteArray := prog_1_method_37_code
def yX11_isAhead : MethodName := ⟨RX11, "isAhead", "(I)Z"⟩
abbrev cX11_isPier : ByteArray := prog_1_method_38_code
def yX11_isPier : MethodName := ⟨RX11, "isPier", "(I)Z"⟩
abbrev cX11_found : ByteArray := prog_1_method_39_code
def yX11_found : MethodName := ⟨RX11, "found", "(I)I"⟩
abbrev cX11_fine : ByteArray := prog_1_method_40_code
def yX11_fine : MethodName := ⟨RX11, "fine", "(I)I"⟩
abbrev cX11_imageOf : ByteArray := prog_1_method_41_code
def yX11_imageOf : MethodName := ⟨RX11, "imageOf", "(I)LPierYears$Coast;"⟩
abbrev cX11_foretell : ByteArray := prog_1_method_42_code
def yX11_foretell : MethodName := ⟨RX11, "foretell", "(I)V"⟩
abbrev cX11_purseTurned : ByteArray := prog_1_method_43_code
def yX11_purseTurned : MethodName := ⟨RX11, "purseTurned", "(III)I"⟩
abbrev cX11_isTaken : ByteArray := prog_1_method_44_code
def yX11_isTaken : MethodName := ⟨RX11, "isTaken", "(III)Z"⟩
abbrev cX11_purseWith : ByteArray := prog_1_method_45_code
def yX11_purseWith : MethodName := ⟨RX11, "purseWith", "(I)I"⟩
abbrev cX11_weighGains : ByteArray := prog_1_method_46_code
def yX11_weighGains : MethodName := ⟨RX11, "weighGains", "(II)V"⟩
abbrev cX11_weighBests : ByteArray := prog_1_method_47_code
def yX11_weighBests : MethodName := ⟨RX11, "weighBests", "(I)V"⟩
abbrev cX11_gainBehind : ByteArray := prog_1_method_48_code
def yX11_gainBehind : MethodName := ⟨RX11, "gainBehind", "(III)I"⟩
abbrev cX11_fewestOfBest : ByteArray := prog_1_method_49_code
def yX11_fewestOfBest : MethodName := ⟨RX11, "fewestOfBest", "(I)I"⟩
abbrev cX11_shareOut : ByteArray := prog_1_method_50_code
def yX11_shareOut : MethodName := ⟨RX11, "shareOut", "(II)V"⟩
abbrev cX11_firstShare : ByteArray := prog_1_method_51_code
def yX11_firstShare : MethodName := ⟨RX11, "firstShare", "(IIII)I"⟩
abbrev cX11_takenBy : ByteArray := prog_1_method_52_code
def yX11_takenBy : MethodName := ⟨RX11, "takenBy", "(I)I"⟩
abbrev cX11_chanceOf : ByteArray := prog_1_method_53_code
def yX11_chanceOf : MethodName := ⟨RX11, "chanceOf", "(II)I"⟩
abbrev cX11_commonDivisor : ByteArray := prog_1_method_54_code
def yX11_commonDivisor : MethodName := ⟨RX11, "commonDivisor", "(II)I"⟩
abbrev cX11_buildDrawn : ByteArray := prog_1_method_55_code
def yX11_buildDrawn : MethodName := ⟨RX11, "buildDrawn", "(J)V"⟩
abbrev cX11_bodyOf : ByteArray := prog_1_method_56_code
def yX11_bodyOf : MethodName := ⟨RX11, "bodyOf", "(I)LPierYears$Pier;"⟩
abbrev cX11_isOfKind : ByteArray := prog_1_method_57_code
def yX11_isOfKind : MethodName := ⟨RX11, "isOfKind", "(LPierYears$Pier;I)Z"⟩
def RX12 : String := "PierYearsModel"
def TX12 : u_T := fun k => match k with
  | 0 => ("PierYearsModel", "lane", "[I", true)
  | 1 => ("PierYearsModel", "size", "[I", true)
  | 2 => ("PierYearsModel", "items", "[I", true)
  | 3 => ("PierYearsModel", "status", "I", false)
  | 4 => ("PierYearsModel", "letters", "I", false)
  | 5 => ("PierYearsModel", "tape", "[I", true)
  | 6 => ("PierYearsModel", "position", "I", false)
  | 7 => ("PierYearsModel", "tokenAt", "I", false)
  | 8 => ("PierYearsModel", "token", "I", false)
  | 9 => ("PierYearsModel", "number", "I", false)
  | 10 => ("PierYearsModel", "faultIs", "I", false)
  | 11 => ("PierYearsModel", "faultNow", "I", false)
  | 12 => ("PierYearsModel", "now", "[I", true)
  | 13 => ("PierYearsModel", "read", "[I", true)
  | 14 => ("PierYearsModel", "tried", "[I", true)
  | 15 => ("PierYearsModel", "image", "[I", true)
  | 16 => ("PierYearsModel", "isKept", "[Z", true)
  | 17 => ("PierYearsModel", "actOf", "[I", true)
  | 18 => ("PierYearsModel", "acts", "I", false)
  | 19 => ("PierYearsModel", "trace", "[I", true)
  | 20 => ("PierYearsModel", "traceMany", "I", false)
  | 21 => ("PierYearsModel", "told", "[I", true)
  | 22 => ("PierYearsModel", "given", "[I", true)
  | 23 => ("PierYearsModel", "bestGiven", "[I", true)
  | 24 => ("PierYearsModel", "bestMuch", "I", false)
  | _ => ("PierYearsModel", "bestMany", "I", false)
def tyX12 : Nat → FieldType := fun k => match k with
  | 0 => .array .int
  | 1 => .array .int
  | 2 => .array .int
  | 3 => .int
  | 4 => .int
  | 5 => .array .int
  | 6 => .int
  | 7 => .int
  | 8 => .int
  | 9 => .int
  | 10 => .int
  | 11 => .int
  | 12 => .array .int
  | 13 => .array .int
  | 14 => .array .int
  | 15 => .array .int
  | 16 => .array .boolean
  | 17 => .array .int
  | 18 => .int
  | 19 => .array .int
  | 20 => .int
  | 21 => .array .int
  | 22 => .array .int
  | 23 => .array .int
  | 24 => .int
  | _ => .int
abbrev wsX120 : List Cond := u_ws RX12 TX12 26
theorem nmX12 : ∀ a, a < 26 → ∀ b, b < 26 → a ≠ b → (TX12 a).2.1 ≠ (TX12 b).2.1 := by decide +kernel
theorem tyX12_ok : ∀ k, k < 26 → parseFieldDescriptor (TX12 k).2.2.1 = some (tyX12 k) := by decide +kernel
abbrev cX12_init : ByteArray := prog_14_method_1_code
def yX12_init : MethodName := ⟨RX12, "<init>", "()V"⟩
abbrev cX12_in : ByteArray := prog_14_method_2_code
def yX12_in : MethodName := ⟨RX12, "in", "(III)Z"⟩
abbrev cX12_isIn : ByteArray := prog_14_method_3_code
def yX12_isIn : MethodName := ⟨RX12, "isIn", "(II)Z"⟩
abbrev cX12_lay : ByteArray := prog_14_method_4_code
def yX12_lay : MethodName := ⟨RX12, "lay", "([II[II)V"⟩
abbrev cX12_isCoast : ByteArray := prog_14_method_5_code
def yX12_isCoast : MethodName := ⟨RX12, "isCoast", "()Z"⟩
abbrev cX12_isOne : ByteArray := prog_14_method_6_code
def yX12_isOne : MethodName := ⟨RX12, "isOne", "(I)Z"⟩
abbrev cX12_finds : ByteArray := prog_14_method_7_code
def yX12_finds : MethodName := ⟨RX12, "finds", "(I)I"⟩
abbrev cX12_done : ByteArray := prog_14_method_8_code
def yX12_done : MethodName := ⟨RX12, "done", "(I)I"⟩
abbrev cX12_isRow : ByteArray := prog_14_method_9_code
def yX12_isRow : MethodName := ⟨RX12, "isRow", "(I)Z"⟩
abbrev cX12_row : ByteArray := prog_14_method_10_code
def yX12_row : MethodName := ⟨RX12, "row", "(III)I"⟩
abbrev cX12_set : ByteArray := prog_14_method_11_code
def yX12_set : MethodName := ⟨RX12, "set", "(III)I"⟩
abbrev cX12_isPart : ByteArray := prog_14_method_12_code
def yX12_isPart : MethodName := ⟨RX12, "isPart", "(III)Z"⟩
abbrev cX12_copy : ByteArray := prog_14_method_13_code
def yX12_copy : MethodName := ⟨RX12, "copy", "(IIIII)I"⟩
abbrev cX12_drop : ByteArray := prog_14_method_14_code
def yX12_drop : MethodName := ⟨RX12, "drop", "(I)I"⟩
abbrev cX12_feed : ByteArray := prog_14_method_15_code
def yX12_feed : MethodName := ⟨RX12, "feed", "(I)I"⟩
abbrev cX12_nextToken : ByteArray := prog_14_method_16_code
def yX12_nextToken : MethodName := ⟨RX12, "nextToken", "()V"⟩
abbrev cX12_fails : ByteArray := prog_14_method_17_code
def yX12_fails : MethodName := ⟨RX12, "fails", "(I)Z"⟩
abbrev cX12_isSign : ByteArray := prog_14_method_18_code
def yX12_isSign : MethodName := ⟨RX12, "isSign", "(I)Z"⟩
abbrev cX12_isNumber : ByteArray := prog_14_method_19_code
def yX12_isNumber : MethodName := ⟨RX12, "isNumber", "(II)Z"⟩
abbrev cX12_sortBy : ByteArray := prog_14_method_20_code
def yX12_sortBy : MethodName := ⟨RX12, "sortBy", "(I)I"⟩
abbrev cX12_isPart_ : ByteArray := prog_14_method_21_code
def yX12_isPart_ : MethodName := ⟨RX12, "isPart", "(IIII)Z"⟩
abbrev cX12_isLaw : ByteArray := prog_14_method_22_code
def yX12_isLaw : MethodName := ⟨RX12, "isLaw", "()Z"⟩
abbrev cX12_isPier : ByteArray := prog_14_method_23_code
def yX12_isPier : MethodName := ⟨RX12, "isPier", "()Z"⟩
abbrev cX12_isRead : ByteArray := prog_14_method_24_code
def yX12_isRead : MethodName := ⟨RX12, "isRead", "()Z"⟩
abbrev cX12_coast : ByteArray := prog_14_method_25_code
def yX12_coast : MethodName := ⟨RX12, "coast", "()I"⟩
abbrev cX12_fault : ByteArray := prog_14_method_26_code
def yX12_fault : MethodName := ⟨RX12, "fault", "()I"⟩
abbrev cX12_note : ByteArray := prog_14_method_27_code
def yX12_note : MethodName := ⟨RX12, "note", "()V"⟩
abbrev cX12_placeBy : ByteArray := prog_14_method_28_code
def yX12_placeBy : MethodName := ⟨RX12, "placeBy", "([III)I"⟩
abbrev cX12_takeBy : ByteArray := prog_14_method_29_code
def yX12_takeBy : MethodName := ⟨RX12, "takeBy", "([III)I"⟩
abbrev cX12_takeOf : ByteArray := prog_14_method_30_code
def yX12_takeOf : MethodName := ⟨RX12, "takeOf", "([II)I"⟩
abbrev cX12_takenIn : ByteArray := prog_14_method_31_code
def yX12_takenIn : MethodName := ⟨RX12, "takenIn", "([I)I"⟩
abbrev cX12_stormIn : ByteArray := prog_14_method_32_code
def yX12_stormIn : MethodName := ⟨RX12, "stormIn", "([I)I"⟩
abbrev cX12_lossOf : ByteArray := prog_14_method_33_code
def yX12_lossOf : MethodName := ⟨RX12, "lossOf", "([III)I"⟩
abbrev cX12_goBy : ByteArray := prog_14_method_34_code
def yX12_goBy : MethodName := ⟨RX12, "goBy", "([II)V"⟩
abbrev cX12_seasons : ByteArray := prog_14_method_35_code
def yX12_seasons : MethodName := ⟨RX12, "seasons", "(I)I"⟩
abbrev cX12_build : ByteArray := prog_14_method_36_code
def yX12_build : MethodName := ⟨RX12, "build", "(I)I"⟩
abbrev cX12_turn : ByteArray := prog_14_method_37_code
def yX12_turn : MethodName := ⟨RX12, "turn", "(II)I"⟩
abbrev cX12_buy : ByteArray := prog_14_method_38_code
def yX12_buy : MethodName := ⟨RX12, "buy", "(I)I"⟩
abbrev cX12_undo : ByteArray := prog_14_method_39_code
def yX12_undo : MethodName := ⟨RX12, "undo", "()I"⟩
abbrev cX12_pier : ByteArray := prog_14_method_40_code
def yX12_pier : MethodName := ⟨RX12, "pier", "(II)I"⟩
abbrev cX12_begin : ByteArray := prog_14_method_41_code
def yX12_begin : MethodName := ⟨RX12, "begin", "()V"⟩
abbrev cX12_goOn : ByteArray := prog_14_method_42_code
def yX12_goOn : MethodName := ⟨RX12, "goOn", "(I)V"⟩
abbrev cX12_ahead : ByteArray := prog_14_method_43_code
def yX12_ahead : MethodName := ⟨RX12, "ahead", "(III)I"⟩
abbrev cX12_purse : ByteArray := prog_14_method_44_code
def yX12_purse : MethodName := ⟨RX12, "purse", "(I)I"⟩
abbrev cX12_gone : ByteArray := prog_14_method_45_code
def yX12_gone : MethodName := ⟨RX12, "gone", "(I)I"⟩
abbrev cX12_aim : ByteArray := prog_14_method_46_code
def yX12_aim : MethodName := ⟨RX12, "aim", "(IIII)I"⟩
abbrev cX12_take : ByteArray := prog_14_method_47_code
def yX12_take : MethodName := ⟨RX12, "take", "(II)I"⟩
abbrev cX12_layGiven : ByteArray := prog_14_method_48_code
def yX12_layGiven : MethodName := ⟨RX12, "layGiven", "(II)I"⟩
abbrev cX12_layGive : ByteArray := prog_14_method_49_code
def yX12_layGive : MethodName := ⟨RX12, "layGive", "(I)V"⟩
abbrev cX12_give : ByteArray := prog_14_method_50_code
def yX12_give : MethodName := ⟨RX12, "give", "(II)I"⟩
abbrev cX12_turning : ByteArray := prog_14_method_51_code
def yX12_turning : MethodName := ⟨RX12, "turning", "(II)I"⟩
abbrev cX12_crossOf : ByteArray := prog_14_method_52_code
def yX12_crossOf : MethodName := ⟨RX12, "crossOf", "(II)I"⟩
abbrev cX12_cross : ByteArray := prog_14_method_53_code
def yX12_cross : MethodName := ⟨RX12, "cross", "(I)I"⟩
abbrev cX12_takeOut : ByteArray := prog_14_method_54_code
def yX12_takeOut : MethodName := ⟨RX12, "takeOut", "(III)I"⟩
abbrev cX12_isSo : ByteArray := prog_14_method_55_code
def yX12_isSo : MethodName := ⟨RX12, "isSo", "(I)Z"⟩
abbrev cX12_fits : ByteArray := prog_14_method_56_code
def yX12_fits : MethodName := ⟨RX12, "fits", "(IIIII)I"⟩
abbrev cX12_fire : ByteArray := prog_14_method_57_code
def yX12_fire : MethodName := ⟨RX12, "fire", "(III)I"⟩
abbrev cX12_allSpans : ByteArray := prog_14_method_58_code
def yX12_allSpans : MethodName := ⟨RX12, "allSpans", "([I)I"⟩
abbrev cX12_drawn : ByteArray := prog_14_method_59_code
def yX12_drawn : MethodName := ⟨RX12, "drawn", "(III)I"⟩
abbrev cX12_image : ByteArray := prog_14_method_60_code
def yX12_image : MethodName := ⟨RX12, "image", "(I)I"⟩
abbrev cX12_restore : ByteArray := prog_14_method_61_code
def yX12_restore : MethodName := ⟨RX12, "restore", "(I)I"⟩
abbrev cX12_kind : ByteArray := prog_14_method_62_code
def yX12_kind : MethodName := ⟨RX12, "kind", "(I)I"⟩
abbrev cX12_parentOf : ByteArray := prog_14_method_63_code
def yX12_parentOf : MethodName := ⟨RX12, "parentOf", "(I)I"⟩
abbrev cX12_as : ByteArray := prog_14_method_64_code
def yX12_as : MethodName := ⟨RX12, "as", "(II)I"⟩
abbrev cX12_begins : ByteArray := prog_14_method_65_code
def yX12_begins : MethodName := ⟨RX12, "begins", "(I)V"⟩
abbrev cX12_markIrons : ByteArray := prog_14_method_66_code
def yX12_markIrons : MethodName := ⟨RX12, "markIrons", "(I)I"⟩
abbrev cX12_markNew : ByteArray := prog_14_method_67_code
def yX12_markNew : MethodName := ⟨RX12, "markNew", "(I)I"⟩
abbrev cX12_sizeWooden : ByteArray := prog_14_method_68_code
def yX12_sizeWooden : MethodName := ⟨RX12, "sizeWooden", "(I)I"⟩
abbrev cX12_sizeOf : ByteArray := prog_14_method_69_code
def yX12_sizeOf : MethodName := ⟨RX12, "sizeOf", "(I)I"⟩
abbrev cX12_markOf : ByteArray := prog_14_method_70_code
def yX12_markOf : MethodName := ⟨RX12, "markOf", "(I)I"⟩
abbrev cX12_ask : ByteArray := prog_14_method_71_code
def yX12_ask : MethodName := ⟨RX12, "ask", "(II)I"⟩
abbrev cX12_trace : ByteArray := prog_14_method_72_code
def yX12_trace : MethodName := ⟨RX12, "trace", "(I)I"⟩
abbrev cX12_count : ByteArray := prog_14_method_73_code
def yX12_count : MethodName := ⟨RX12, "count", "(I)I"⟩
abbrev cX12_status : ByteArray := prog_14_method_74_code
def yX12_status : MethodName := ⟨RX12, "status", "()I"⟩
def RJ9 : String := "java/lang/Math"
def TJ9 : u_T := fun k => match k with
  | _ => ("", "", "", false)
def tyJ9 : Nat → FieldType := fun k => match k with
  | _ => .int
abbrev wsJ90 : List Cond := u_ws RJ9 TJ9 0
theorem nmJ9 : ∀ a, a < 0 → ∀ b, b < 0 → a ≠ b → (TJ9 a).2.1 ≠ (TJ9 b).2.1 := by decide +kernel
theorem tyJ9_ok : ∀ k, k < 0 → parseFieldDescriptor (TJ9 k).2.2.1 = some (tyJ9 k) := by decide +kernel
abbrev cJ9_max_7cf53 : ByteArray := prog_15_method_65_code
def yJ9_max_7cf53 : MethodName := ⟨RJ9, "max", "(II)I"⟩
abbrev cJ9_min_7cf53 : ByteArray := prog_15_method_69_code
def yJ9_min_7cf53 : MethodName := ⟨RJ9, "min", "(II)I"⟩
def RJ10 : String := "java/lang/System"
def TJ10 : u_T := fun k => match k with
  | _ => ("", "", "", false)
def tyJ10 : Nat → FieldType := fun k => match k with
  | _ => .int
abbrev wsJ100 : List Cond := u_ws RJ10 TJ10 0
theorem nmJ10 : ∀ a, a < 0 → ∀ b, b < 0 → a ≠ b → (TJ10 a).2.1 ≠ (TJ10 b).2.1 := by decide +kernel
theorem tyJ10_ok : ∀ k, k < 0 → parseFieldDescriptor (TJ10 k).2.2.1 = some (tyJ10 k) := by decide +kernel
def RL : String := "PierYearsLaw"
abbrev cL_law : ByteArray := code
def yL_law : MethodName := ⟨RL, "law", "([I)Z"⟩
abbrev vwCl : List vw_C := [(RX0, TX0, 5), (RX1, TX1, 0), (RX2, TX2, 13), (RX3, TX3, 0), (RX4, TX4, 3), (RX6, TX6, 0), (RX7, TX7, 3), (RX8, TX8, 0), (RX9, TX9, 5), (RX10, TX10, 0), (RX11, TX11, 18), (RX12, TX12, 26)]
