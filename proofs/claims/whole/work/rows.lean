section
-- ===== PART A: goes FIRST, ahead of the names: the tables' words, and 'selects' of the private methods out of them =====
/-- a private method of a class that the tables say can be made, by its rows of tables_1 -/
def lw_okq (q : MethodName × Nat) : Prop := (q.1.cls ≠ "java/lang/invoke/MethodHandle" ∧ q.1.cls ≠ "java/lang/invoke/VarHandle") ∧ Cond.instantiable q.1.cls q.2 ∈ tables_1 ∧ Cond.privateMethod q.1 ∈ tables_1 ∧ Cond.instanceMethod q.1 ∈ tables_1
theorem lw_p0 : lw_okq (⟨"PassTheSalt$Reader", "readItem", "()Z"⟩, 5) := ⟨⟨by decide +kernel, by decide +kernel⟩, List.mem_of_getElem? (i := 79) (by decide +kernel), List.mem_of_getElem? (i := 343) (by decide +kernel), List.mem_of_getElem? (i := 344) (by decide +kernel)⟩
theorem lw_p1 : lw_okq (⟨"PassTheSalt$Reader", "nextByte", "()I"⟩, 5) := ⟨⟨by decide +kernel, by decide +kernel⟩, List.mem_of_getElem? (i := 79) (by decide +kernel), List.mem_of_getElem? (i := 347) (by decide +kernel), List.mem_of_getElem? (i := 348) (by decide +kernel)⟩
theorem lw_p2 : lw_okq (⟨"PassTheSalt$Reader", "readWorths", "()Z"⟩, 5) := ⟨⟨by decide +kernel, by decide +kernel⟩, List.mem_of_getElem? (i := 79) (by decide +kernel), List.mem_of_getElem? (i := 354) (by decide +kernel), List.mem_of_getElem? (i := 355) (by decide +kernel)⟩
theorem lw_p3 : lw_okq (⟨"PassTheSalt$Reader", "nextFigure", "()I"⟩, 5) := ⟨⟨by decide +kernel, by decide +kernel⟩, List.mem_of_getElem? (i := 79) (by decide +kernel), List.mem_of_getElem? (i := 358) (by decide +kernel), List.mem_of_getElem? (i := 359) (by decide +kernel)⟩
theorem lw_p4 : lw_okq (⟨"PassTheSalt$Reader", "readNumber", "(I)Z"⟩, 5) := ⟨⟨by decide +kernel, by decide +kernel⟩, List.mem_of_getElem? (i := 79) (by decide +kernel), List.mem_of_getElem? (i := 369) (by decide +kernel), List.mem_of_getElem? (i := 370) (by decide +kernel)⟩
theorem lw_p5 : lw_okq (⟨"PassTheSalt$Reader", "takeGuest", "(III)Z"⟩, 5) := ⟨⟨by decide +kernel, by decide +kernel⟩, List.mem_of_getElem? (i := 79) (by decide +kernel), List.mem_of_getElem? (i := 374) (by decide +kernel), List.mem_of_getElem? (i := 375) (by decide +kernel)⟩
theorem lw_p6 : lw_okq (⟨"PassTheSalt$Reader", "takeNumber", "(II)Z"⟩, 5) := ⟨⟨by decide +kernel, by decide +kernel⟩, List.mem_of_getElem? (i := 79) (by decide +kernel), List.mem_of_getElem? (i := 396) (by decide +kernel), List.mem_of_getElem? (i := 397) (by decide +kernel)⟩
theorem lw_p7 : lw_okq (⟨"PassTheSalt$Layings", "add", "(I)V"⟩, 3) := ⟨⟨by decide +kernel, by decide +kernel⟩, List.mem_of_getElem? (i := 101) (by decide +kernel), List.mem_of_getElem? (i := 428) (by decide +kernel), List.mem_of_getElem? (i := 429) (by decide +kernel)⟩
theorem lw_p8 : lw_okq (⟨"PassTheSalt$Layings", "slotOf", "(I)I"⟩, 3) := ⟨⟨by decide +kernel, by decide +kernel⟩, List.mem_of_getElem? (i := 101) (by decide +kernel), List.mem_of_getElem? (i := 432) (by decide +kernel), List.mem_of_getElem? (i := 433) (by decide +kernel)⟩
theorem lw_p9 : lw_okq (⟨"PassTheSalt", "isGuest", "(I)Z"⟩, 13) := ⟨⟨by decide +kernel, by decide +kernel⟩, List.mem_of_getElem? (i := 20) (by decide +kernel), List.mem_of_getElem? (i := 523) (by decide +kernel), List.mem_of_getElem? (i := 524) (by decide +kernel)⟩
theorem lw_p10 : lw_okq (⟨"PassTheSalt", "dishOrNone", "(I)I"⟩, 13) := ⟨⟨by decide +kernel, by decide +kernel⟩, List.mem_of_getElem? (i := 20) (by decide +kernel), List.mem_of_getElem? (i := 528) (by decide +kernel), List.mem_of_getElem? (i := 529) (by decide +kernel)⟩
theorem lw_p11 : lw_okq (⟨"PassTheSalt", "isDish", "(I)Z"⟩, 13) := ⟨⟨by decide +kernel, by decide +kernel⟩, List.mem_of_getElem? (i := 20) (by decide +kernel), List.mem_of_getElem? (i := 540) (by decide +kernel), List.mem_of_getElem? (i := 541) (by decide +kernel)⟩
theorem lw_p12 : lw_okq (⟨"PassTheSalt$Table", "stepsRight", "(II)I"⟩, 9) := ⟨⟨by decide +kernel, by decide +kernel⟩, List.mem_of_getElem? (i := 28) (by decide +kernel), List.mem_of_getElem? (i := 560) (by decide +kernel), List.mem_of_getElem? (i := 561) (by decide +kernel)⟩
theorem lw_p13 : lw_okq (⟨"PassTheSalt$Moments", "dropOldest", "()V"⟩, 5) := ⟨⟨by decide +kernel, by decide +kernel⟩, List.mem_of_getElem? (i := 255) (by decide +kernel), List.mem_of_getElem? (i := 578) (by decide +kernel), List.mem_of_getElem? (i := 579) (by decide +kernel)⟩
theorem lw_p14 : lw_okq (⟨"PassTheSalt$Table", "stepTowards", "(II)I"⟩, 9) := ⟨⟨by decide +kernel, by decide +kernel⟩, List.mem_of_getElem? (i := 28) (by decide +kernel), List.mem_of_getElem? (i := 587) (by decide +kernel), List.mem_of_getElem? (i := 588) (by decide +kernel)⟩
theorem lw_p15 : lw_okq (⟨"PassTheSalt$Table", "carried", "(IIIII)I"⟩, 9) := ⟨⟨by decide +kernel, by decide +kernel⟩, List.mem_of_getElem? (i := 28) (by decide +kernel), List.mem_of_getElem? (i := 591) (by decide +kernel), List.mem_of_getElem? (i := 592) (by decide +kernel)⟩
def lw_privs_1 : List (MethodName × Nat) := [(⟨"PassTheSalt$Reader", "readItem", "()Z"⟩, 5), (⟨"PassTheSalt$Reader", "nextByte", "()I"⟩, 5), (⟨"PassTheSalt$Reader", "readWorths", "()Z"⟩, 5), (⟨"PassTheSalt$Reader", "nextFigure", "()I"⟩, 5), (⟨"PassTheSalt$Reader", "readNumber", "(I)Z"⟩, 5), (⟨"PassTheSalt$Reader", "takeGuest", "(III)Z"⟩, 5), (⟨"PassTheSalt$Reader", "takeNumber", "(II)Z"⟩, 5), (⟨"PassTheSalt$Layings", "add", "(I)V"⟩, 3), (⟨"PassTheSalt$Layings", "slotOf", "(I)I"⟩, 3), (⟨"PassTheSalt", "isGuest", "(I)Z"⟩, 13), (⟨"PassTheSalt", "dishOrNone", "(I)I"⟩, 13), (⟨"PassTheSalt", "isDish", "(I)Z"⟩, 13), (⟨"PassTheSalt$Table", "stepsRight", "(II)I"⟩, 9), (⟨"PassTheSalt$Moments", "dropOldest", "()V"⟩, 5), (⟨"PassTheSalt$Table", "stepTowards", "(II)I"⟩, 9), (⟨"PassTheSalt$Table", "carried", "(IIIII)I"⟩, 9)]
theorem lw_r1 : ∀ q ∈ lw_privs_1, lw_okq q := List.forall_mem_cons.mpr ⟨lw_p0, List.forall_mem_cons.mpr ⟨lw_p1, List.forall_mem_cons.mpr ⟨lw_p2, List.forall_mem_cons.mpr ⟨lw_p3, List.forall_mem_cons.mpr ⟨lw_p4, List.forall_mem_cons.mpr ⟨lw_p5, List.forall_mem_cons.mpr ⟨lw_p6, List.forall_mem_cons.mpr ⟨lw_p7, List.forall_mem_cons.mpr ⟨lw_p8, List.forall_mem_cons.mpr ⟨lw_p9, List.forall_mem_cons.mpr ⟨lw_p10, List.forall_mem_cons.mpr ⟨lw_p11, List.forall_mem_cons.mpr ⟨lw_p12, List.forall_mem_cons.mpr ⟨lw_p13, List.forall_mem_cons.mpr ⟨lw_p14, List.forall_mem_cons.mpr ⟨lw_p15, fun _ h => absurd h List.not_mem_nil⟩⟩⟩⟩⟩⟩⟩⟩⟩⟩⟩⟩⟩⟩⟩⟩
theorem lw_p16 : lw_okq (⟨"PassTheSalt$Table", "nextSeat", "(II)I"⟩, 9) := ⟨⟨by decide +kernel, by decide +kernel⟩, List.mem_of_getElem? (i := 28) (by decide +kernel), List.mem_of_getElem? (i := 595) (by decide +kernel), List.mem_of_getElem? (i := 596) (by decide +kernel)⟩
theorem lw_p17 : lw_okq (⟨"PassTheSalt$Table", "childChanged", "(II)I"⟩, 9) := ⟨⟨by decide +kernel, by decide +kernel⟩, List.mem_of_getElem? (i := 28) (by decide +kernel), List.mem_of_getElem? (i := 599) (by decide +kernel), List.mem_of_getElem? (i := 600) (by decide +kernel)⟩
theorem lw_p18 : lw_okq (⟨"PassTheSalt", "lookAhead", "()V"⟩, 13) := ⟨⟨by decide +kernel, by decide +kernel⟩, List.mem_of_getElem? (i := 20) (by decide +kernel), List.mem_of_getElem? (i := 625) (by decide +kernel), List.mem_of_getElem? (i := 626) (by decide +kernel)⟩
theorem lw_p19 : lw_okq (⟨"PassTheSalt$Search", "reach", "(III)V"⟩, 7) := ⟨⟨by decide +kernel, by decide +kernel⟩, List.mem_of_getElem? (i := 145) (by decide +kernel), List.mem_of_getElem? (i := 639) (by decide +kernel), List.mem_of_getElem? (i := 640) (by decide +kernel)⟩
theorem lw_p20 : lw_okq (⟨"PassTheSalt$Search", "firstWith", "(II)I"⟩, 7) := ⟨⟨by decide +kernel, by decide +kernel⟩, List.mem_of_getElem? (i := 145) (by decide +kernel), List.mem_of_getElem? (i := 648) (by decide +kernel), List.mem_of_getElem? (i := 649) (by decide +kernel)⟩
theorem lw_p21 : lw_okq (⟨"PassTheSalt$Search", "reachedAs", "(II)I"⟩, 7) := ⟨⟨by decide +kernel, by decide +kernel⟩, List.mem_of_getElem? (i := 145) (by decide +kernel), List.mem_of_getElem? (i := 654) (by decide +kernel), List.mem_of_getElem? (i := 655) (by decide +kernel)⟩
theorem lw_p22 : lw_okq (⟨"PassTheSalt$Search", "stepsAs", "(I)I"⟩, 7) := ⟨⟨by decide +kernel, by decide +kernel⟩, List.mem_of_getElem? (i := 145) (by decide +kernel), List.mem_of_getElem? (i := 658) (by decide +kernel), List.mem_of_getElem? (i := 659) (by decide +kernel)⟩
theorem lw_p23 : lw_okq (⟨"PassTheSalt$Sums", "spreadPrice", "(II)V"⟩, 4) := ⟨⟨by decide +kernel, by decide +kernel⟩, List.mem_of_getElem? (i := 175) (by decide +kernel), List.mem_of_getElem? (i := 702) (by decide +kernel), List.mem_of_getElem? (i := 703) (by decide +kernel)⟩
theorem lw_p24 : lw_okq (⟨"PassTheSalt$WhatIf", "makeHold", "(I)V"⟩, 9) := ⟨⟨by decide +kernel, by decide +kernel⟩, List.mem_of_getElem? (i := 194) (by decide +kernel), List.mem_of_getElem? (i := 757) (by decide +kernel), List.mem_of_getElem? (i := 758) (by decide +kernel)⟩
theorem lw_p25 : lw_okq (⟨"PassTheSalt$WhatIf", "startOther", "()V"⟩, 9) := ⟨⟨by decide +kernel, by decide +kernel⟩, List.mem_of_getElem? (i := 194) (by decide +kernel), List.mem_of_getElem? (i := 766) (by decide +kernel), List.mem_of_getElem? (i := 767) (by decide +kernel)⟩
theorem lw_p26 : lw_okq (⟨"PassTheSalt$WhatIf", "canBeAtRest", "()Z"⟩, 9) := ⟨⟨by decide +kernel, by decide +kernel⟩, List.mem_of_getElem? (i := 194) (by decide +kernel), List.mem_of_getElem? (i := 803) (by decide +kernel), List.mem_of_getElem? (i := 804) (by decide +kernel)⟩
theorem lw_p27 : lw_okq (⟨"PassTheSalt$WhatIf", "changeSeats", "(II)V"⟩, 9) := ⟨⟨by decide +kernel, by decide +kernel⟩, List.mem_of_getElem? (i := 194) (by decide +kernel), List.mem_of_getElem? (i := 809) (by decide +kernel), List.mem_of_getElem? (i := 810) (by decide +kernel)⟩
theorem lw_p28 : lw_okq (⟨"PassTheSalt$Sums", "spreadWays", "(IJ)V"⟩, 4) := ⟨⟨by decide +kernel, by decide +kernel⟩, List.mem_of_getElem? (i := 175) (by decide +kernel), List.mem_of_getElem? (i := 823) (by decide +kernel), List.mem_of_getElem? (i := 824) (by decide +kernel)⟩
theorem lw_p29 : lw_okq (⟨"PassTheSaltModel", "begins", "()V"⟩, 49) := ⟨⟨by decide +kernel, by decide +kernel⟩, List.mem_of_getElem? (i := 853) (by decide +kernel), List.mem_of_getElem? (i := 860) (by decide +kernel), List.mem_of_getElem? (i := 861) (by decide +kernel)⟩
theorem lw_p30 : lw_okq (⟨"PassTheSaltModel", "lays", "()V"⟩, 49) := ⟨⟨by decide +kernel, by decide +kernel⟩, List.mem_of_getElem? (i := 853) (by decide +kernel), List.mem_of_getElem? (i := 864) (by decide +kernel), List.mem_of_getElem? (i := 865) (by decide +kernel)⟩
theorem lw_p31 : lw_okq (⟨"PassTheSaltModel", "findFault", "()I"⟩, 49) := ⟨⟨by decide +kernel, by decide +kernel⟩, List.mem_of_getElem? (i := 853) (by decide +kernel), List.mem_of_getElem? (i := 1033) (by decide +kernel), List.mem_of_getElem? (i := 1034) (by decide +kernel)⟩
def lw_privs_2 : List (MethodName × Nat) := [(⟨"PassTheSalt$Table", "nextSeat", "(II)I"⟩, 9), (⟨"PassTheSalt$Table", "childChanged", "(II)I"⟩, 9), (⟨"PassTheSalt", "lookAhead", "()V"⟩, 13), (⟨"PassTheSalt$Search", "reach", "(III)V"⟩, 7), (⟨"PassTheSalt$Search", "firstWith", "(II)I"⟩, 7), (⟨"PassTheSalt$Search", "reachedAs", "(II)I"⟩, 7), (⟨"PassTheSalt$Search", "stepsAs", "(I)I"⟩, 7), (⟨"PassTheSalt$Sums", "spreadPrice", "(II)V"⟩, 4), (⟨"PassTheSalt$WhatIf", "makeHold", "(I)V"⟩, 9), (⟨"PassTheSalt$WhatIf", "startOther", "()V"⟩, 9), (⟨"PassTheSalt$WhatIf", "canBeAtRest", "()Z"⟩, 9), (⟨"PassTheSalt$WhatIf", "changeSeats", "(II)V"⟩, 9), (⟨"PassTheSalt$Sums", "spreadWays", "(IJ)V"⟩, 4), (⟨"PassTheSaltModel", "begins", "()V"⟩, 49), (⟨"PassTheSaltModel", "lays", "()V"⟩, 49), (⟨"PassTheSaltModel", "findFault", "()I"⟩, 49)]
theorem lw_r2 : ∀ q ∈ lw_privs_2, lw_okq q := List.forall_mem_cons.mpr ⟨lw_p16, List.forall_mem_cons.mpr ⟨lw_p17, List.forall_mem_cons.mpr ⟨lw_p18, List.forall_mem_cons.mpr ⟨lw_p19, List.forall_mem_cons.mpr ⟨lw_p20, List.forall_mem_cons.mpr ⟨lw_p21, List.forall_mem_cons.mpr ⟨lw_p22, List.forall_mem_cons.mpr ⟨lw_p23, List.forall_mem_cons.mpr ⟨lw_p24, List.forall_mem_cons.mpr ⟨lw_p25, List.forall_mem_cons.mpr ⟨lw_p26, List.forall_mem_cons.mpr ⟨lw_p27, List.forall_mem_cons.mpr ⟨lw_p28, List.forall_mem_cons.mpr ⟨lw_p29, List.forall_mem_cons.mpr ⟨lw_p30, List.forall_mem_cons.mpr ⟨lw_p31, fun _ h => absurd h List.not_mem_nil⟩⟩⟩⟩⟩⟩⟩⟩⟩⟩⟩⟩⟩⟩⟩⟩
theorem lw_p32 : lw_okq (⟨"PassTheSaltModel", "isItem", "()Z"⟩, 49) := ⟨⟨by decide +kernel, by decide +kernel⟩, List.mem_of_getElem? (i := 853) (by decide +kernel), List.mem_of_getElem? (i := 1037) (by decide +kernel), List.mem_of_getElem? (i := 1038) (by decide +kernel)⟩
theorem lw_p33 : lw_okq (⟨"PassTheSaltModel", "here", "()I"⟩, 49) := ⟨⟨by decide +kernel, by decide +kernel⟩, List.mem_of_getElem? (i := 853) (by decide +kernel), List.mem_of_getElem? (i := 1041) (by decide +kernel), List.mem_of_getElem? (i := 1042) (by decide +kernel)⟩
theorem lw_p34 : lw_okq (⟨"PassTheSaltModel", "isGuestItem", "()Z"⟩, 49) := ⟨⟨by decide +kernel, by decide +kernel⟩, List.mem_of_getElem? (i := 853) (by decide +kernel), List.mem_of_getElem? (i := 1045) (by decide +kernel), List.mem_of_getElem? (i := 1046) (by decide +kernel)⟩
theorem lw_p35 : lw_okq (⟨"PassTheSaltModel", "number", "()I"⟩, 49) := ⟨⟨by decide +kernel, by decide +kernel⟩, List.mem_of_getElem? (i := 853) (by decide +kernel), List.mem_of_getElem? (i := 1049) (by decide +kernel), List.mem_of_getElem? (i := 1050) (by decide +kernel)⟩
theorem lw_p36 : lw_okq (⟨"PassTheSaltModel", "isSign", "(I)Z"⟩, 49) := ⟨⟨by decide +kernel, by decide +kernel⟩, List.mem_of_getElem? (i := 853) (by decide +kernel), List.mem_of_getElem? (i := 1053) (by decide +kernel), List.mem_of_getElem? (i := 1054) (by decide +kernel)⟩
theorem lw_p37 : lw_okq (⟨"PassTheSaltModel", "isFree", "(I)Z"⟩, 49) := ⟨⟨by decide +kernel, by decide +kernel⟩, List.mem_of_getElem? (i := 853) (by decide +kernel), List.mem_of_getElem? (i := 1057) (by decide +kernel), List.mem_of_getElem? (i := 1058) (by decide +kernel)⟩
theorem lw_p38 : lw_okq (⟨"PassTheSaltModel", "isWorthItem", "()Z"⟩, 49) := ⟨⟨by decide +kernel, by decide +kernel⟩, List.mem_of_getElem? (i := 853) (by decide +kernel), List.mem_of_getElem? (i := 1061) (by decide +kernel), List.mem_of_getElem? (i := 1062) (by decide +kernel)⟩
theorem lw_p39 : lw_okq (⟨"PassTheSaltModel", "isGuest", "(I)Z"⟩, 49) := ⟨⟨by decide +kernel, by decide +kernel⟩, List.mem_of_getElem? (i := 853) (by decide +kernel), List.mem_of_getElem? (i := 1073) (by decide +kernel), List.mem_of_getElem? (i := 1074) (by decide +kernel)⟩
theorem lw_p40 : lw_okq (⟨"PassTheSaltModel", "isDish", "(I)Z"⟩, 49) := ⟨⟨by decide +kernel, by decide +kernel⟩, List.mem_of_getElem? (i := 853) (by decide +kernel), List.mem_of_getElem? (i := 1081) (by decide +kernel), List.mem_of_getElem? (i := 1082) (by decide +kernel)⟩
theorem lw_p41 : lw_okq (⟨"PassTheSaltModel", "worthAt", "(III)I"⟩, 49) := ⟨⟨by decide +kernel, by decide +kernel⟩, List.mem_of_getElem? (i := 853) (by decide +kernel), List.mem_of_getElem? (i := 1085) (by decide +kernel), List.mem_of_getElem? (i := 1086) (by decide +kernel)⟩
theorem lw_p42 : lw_okq (⟨"PassTheSaltModel", "handsOf", "(II)I"⟩, 49) := ⟨⟨by decide +kernel, by decide +kernel⟩, List.mem_of_getElem? (i := 853) (by decide +kernel), List.mem_of_getElem? (i := 1093) (by decide +kernel), List.mem_of_getElem? (i := 1094) (by decide +kernel)⟩
theorem lw_p43 : lw_okq (⟨"PassTheSaltModel", "wayOf", "(II)I"⟩, 49) := ⟨⟨by decide +kernel, by decide +kernel⟩, List.mem_of_getElem? (i := 853) (by decide +kernel), List.mem_of_getElem? (i := 1097) (by decide +kernel), List.mem_of_getElem? (i := 1098) (by decide +kernel)⟩
theorem lw_p44 : lw_okq (⟨"PassTheSaltModel", "sits", "()V"⟩, 49) := ⟨⟨by decide +kernel, by decide +kernel⟩, List.mem_of_getElem? (i := 853) (by decide +kernel), List.mem_of_getElem? (i := 1105) (by decide +kernel), List.mem_of_getElem? (i := 1106) (by decide +kernel)⟩
theorem lw_p45 : lw_okq (⟨"PassTheSaltModel", "mayAsk", "(II)Z"⟩, 49) := ⟨⟨by decide +kernel, by decide +kernel⟩, List.mem_of_getElem? (i := 853) (by decide +kernel), List.mem_of_getElem? (i := 1109) (by decide +kernel), List.mem_of_getElem? (i := 1110) (by decide +kernel)⟩
theorem lw_p46 : lw_okq (⟨"PassTheSaltModel", "remembers", "()V"⟩, 49) := ⟨⟨by decide +kernel, by decide +kernel⟩, List.mem_of_getElem? (i := 853) (by decide +kernel), List.mem_of_getElem? (i := 1113) (by decide +kernel), List.mem_of_getElem? (i := 1114) (by decide +kernel)⟩
theorem lw_p47 : lw_okq (⟨"PassTheSaltModel", "asks", "(II)V"⟩, 49) := ⟨⟨by decide +kernel, by decide +kernel⟩, List.mem_of_getElem? (i := 853) (by decide +kernel), List.mem_of_getElem? (i := 1117) (by decide +kernel), List.mem_of_getElem? (i := 1118) (by decide +kernel)⟩
def lw_privs_3 : List (MethodName × Nat) := [(⟨"PassTheSaltModel", "isItem", "()Z"⟩, 49), (⟨"PassTheSaltModel", "here", "()I"⟩, 49), (⟨"PassTheSaltModel", "isGuestItem", "()Z"⟩, 49), (⟨"PassTheSaltModel", "number", "()I"⟩, 49), (⟨"PassTheSaltModel", "isSign", "(I)Z"⟩, 49), (⟨"PassTheSaltModel", "isFree", "(I)Z"⟩, 49), (⟨"PassTheSaltModel", "isWorthItem", "()Z"⟩, 49), (⟨"PassTheSaltModel", "isGuest", "(I)Z"⟩, 49), (⟨"PassTheSaltModel", "isDish", "(I)Z"⟩, 49), (⟨"PassTheSaltModel", "worthAt", "(III)I"⟩, 49), (⟨"PassTheSaltModel", "handsOf", "(II)I"⟩, 49), (⟨"PassTheSaltModel", "wayOf", "(II)I"⟩, 49), (⟨"PassTheSaltModel", "sits", "()V"⟩, 49), (⟨"PassTheSaltModel", "mayAsk", "(II)Z"⟩, 49), (⟨"PassTheSaltModel", "remembers", "()V"⟩, 49), (⟨"PassTheSaltModel", "asks", "(II)V"⟩, 49)]
theorem lw_r3 : ∀ q ∈ lw_privs_3, lw_okq q := List.forall_mem_cons.mpr ⟨lw_p32, List.forall_mem_cons.mpr ⟨lw_p33, List.forall_mem_cons.mpr ⟨lw_p34, List.forall_mem_cons.mpr ⟨lw_p35, List.forall_mem_cons.mpr ⟨lw_p36, List.forall_mem_cons.mpr ⟨lw_p37, List.forall_mem_cons.mpr ⟨lw_p38, List.forall_mem_cons.mpr ⟨lw_p39, List.forall_mem_cons.mpr ⟨lw_p40, List.forall_mem_cons.mpr ⟨lw_p41, List.forall_mem_cons.mpr ⟨lw_p42, List.forall_mem_cons.mpr ⟨lw_p43, List.forall_mem_cons.mpr ⟨lw_p44, List.forall_mem_cons.mpr ⟨lw_p45, List.forall_mem_cons.mpr ⟨lw_p46, List.forall_mem_cons.mpr ⟨lw_p47, fun _ h => absurd h List.not_mem_nil⟩⟩⟩⟩⟩⟩⟩⟩⟩⟩⟩⟩⟩⟩⟩⟩
theorem lw_p48 : lw_okq (⟨"PassTheSaltModel", "goes", "(IIII)I"⟩, 49) := ⟨⟨by decide +kernel, by decide +kernel⟩, List.mem_of_getElem? (i := 853) (by decide +kernel), List.mem_of_getElem? (i := 1121) (by decide +kernel), List.mem_of_getElem? (i := 1122) (by decide +kernel)⟩
theorem lw_p49 : lw_okq (⟨"PassTheSaltModel", "likes", "(II)I"⟩, 49) := ⟨⟨by decide +kernel, by decide +kernel⟩, List.mem_of_getElem? (i := 853) (by decide +kernel), List.mem_of_getElem? (i := 1125) (by decide +kernel), List.mem_of_getElem? (i := 1126) (by decide +kernel)⟩
theorem lw_p50 : lw_okq (⟨"PassTheSaltModel", "childChanges", "(I)V"⟩, 49) := ⟨⟨by decide +kernel, by decide +kernel⟩, List.mem_of_getElem? (i := 853) (by decide +kernel), List.mem_of_getElem? (i := 1129) (by decide +kernel), List.mem_of_getElem? (i := 1130) (by decide +kernel)⟩
theorem lw_p51 : lw_okq (⟨"PassTheSaltModel", "puts", "()V"⟩, 49) := ⟨⟨by decide +kernel, by decide +kernel⟩, List.mem_of_getElem? (i := 853) (by decide +kernel), List.mem_of_getElem? (i := 1133) (by decide +kernel), List.mem_of_getElem? (i := 1134) (by decide +kernel)⟩
theorem lw_p52 : lw_okq (⟨"PassTheSaltModel", "findAll", "()V"⟩, 49) := ⟨⟨by decide +kernel, by decide +kernel⟩, List.mem_of_getElem? (i := 853) (by decide +kernel), List.mem_of_getElem? (i := 1149) (by decide +kernel), List.mem_of_getElem? (i := 1150) (by decide +kernel)⟩
theorem lw_p53 : lw_okq (⟨"PassTheSaltModel", "beginsList", "()V"⟩, 49) := ⟨⟨by decide +kernel, by decide +kernel⟩, List.mem_of_getElem? (i := 853) (by decide +kernel), List.mem_of_getElem? (i := 1153) (by decide +kernel), List.mem_of_getElem? (i := 1154) (by decide +kernel)⟩
theorem lw_p54 : lw_okq (⟨"PassTheSaltModel", "codeNow", "()I"⟩, 49) := ⟨⟨by decide +kernel, by decide +kernel⟩, List.mem_of_getElem? (i := 853) (by decide +kernel), List.mem_of_getElem? (i := 1157) (by decide +kernel), List.mem_of_getElem? (i := 1158) (by decide +kernel)⟩
theorem lw_p55 : lw_okq (⟨"PassTheSaltModel", "adds", "(III)V"⟩, 49) := ⟨⟨by decide +kernel, by decide +kernel⟩, List.mem_of_getElem? (i := 853) (by decide +kernel), List.mem_of_getElem? (i := 1164) (by decide +kernel), List.mem_of_getElem? (i := 1165) (by decide +kernel)⟩
theorem lw_p56 : lw_okq (⟨"PassTheSaltModel", "loads", "(I)V"⟩, 49) := ⟨⟨by decide +kernel, by decide +kernel⟩, List.mem_of_getElem? (i := 853) (by decide +kernel), List.mem_of_getElem? (i := 1168) (by decide +kernel), List.mem_of_getElem? (i := 1169) (by decide +kernel)⟩
theorem lw_p57 : lw_okq (⟨"PassTheSaltModel", "seatIn", "(II)I"⟩, 49) := ⟨⟨by decide +kernel, by decide +kernel⟩, List.mem_of_getElem? (i := 853) (by decide +kernel), List.mem_of_getElem? (i := 1172) (by decide +kernel), List.mem_of_getElem? (i := 1173) (by decide +kernel)⟩
theorem lw_p58 : lw_okq (⟨"PassTheSaltModel", "comes", "(III)V"⟩, 49) := ⟨⟨by decide +kernel, by decide +kernel⟩, List.mem_of_getElem? (i := 853) (by decide +kernel), List.mem_of_getElem? (i := 1176) (by decide +kernel), List.mem_of_getElem? (i := 1177) (by decide +kernel)⟩
theorem lw_p59 : lw_okq (⟨"PassTheSaltModel", "indexOf", "(I)I"⟩, 49) := ⟨⟨by decide +kernel, by decide +kernel⟩, List.mem_of_getElem? (i := 853) (by decide +kernel), List.mem_of_getElem? (i := 1180) (by decide +kernel), List.mem_of_getElem? (i := 1181) (by decide +kernel)⟩
theorem lw_p60 : lw_okq (⟨"PassTheSaltModel", "needOf", "(II)I"⟩, 49) := ⟨⟨by decide +kernel, by decide +kernel⟩, List.mem_of_getElem? (i := 853) (by decide +kernel), List.mem_of_getElem? (i := 1184) (by decide +kernel), List.mem_of_getElem? (i := 1185) (by decide +kernel)⟩
theorem lw_p61 : lw_okq (⟨"PassTheSaltModel", "restOf", "()I"⟩, 49) := ⟨⟨by decide +kernel, by decide +kernel⟩, List.mem_of_getElem? (i := 853) (by decide +kernel), List.mem_of_getElem? (i := 1204) (by decide +kernel), List.mem_of_getElem? (i := 1205) (by decide +kernel)⟩
theorem lw_p62 : lw_okq (⟨"PassTheSaltModel", "isAtRest", "(I)Z"⟩, 49) := ⟨⟨by decide +kernel, by decide +kernel⟩, List.mem_of_getElem? (i := 853) (by decide +kernel), List.mem_of_getElem? (i := 1208) (by decide +kernel), List.mem_of_getElem? (i := 1209) (by decide +kernel)⟩
theorem lw_p63 : lw_okq (⟨"PassTheSaltModel", "heldBy", "(I)I"⟩, 49) := ⟨⟨by decide +kernel, by decide +kernel⟩, List.mem_of_getElem? (i := 853) (by decide +kernel), List.mem_of_getElem? (i := 1216) (by decide +kernel), List.mem_of_getElem? (i := 1217) (by decide +kernel)⟩
def lw_privs_4 : List (MethodName × Nat) := [(⟨"PassTheSaltModel", "goes", "(IIII)I"⟩, 49), (⟨"PassTheSaltModel", "likes", "(II)I"⟩, 49), (⟨"PassTheSaltModel", "childChanges", "(I)V"⟩, 49), (⟨"PassTheSaltModel", "puts", "()V"⟩, 49), (⟨"PassTheSaltModel", "findAll", "()V"⟩, 49), (⟨"PassTheSaltModel", "beginsList", "()V"⟩, 49), (⟨"PassTheSaltModel", "codeNow", "()I"⟩, 49), (⟨"PassTheSaltModel", "adds", "(III)V"⟩, 49), (⟨"PassTheSaltModel", "loads", "(I)V"⟩, 49), (⟨"PassTheSaltModel", "seatIn", "(II)I"⟩, 49), (⟨"PassTheSaltModel", "comes", "(III)V"⟩, 49), (⟨"PassTheSaltModel", "indexOf", "(I)I"⟩, 49), (⟨"PassTheSaltModel", "needOf", "(II)I"⟩, 49), (⟨"PassTheSaltModel", "restOf", "()I"⟩, 49), (⟨"PassTheSaltModel", "isAtRest", "(I)Z"⟩, 49), (⟨"PassTheSaltModel", "heldBy", "(I)I"⟩, 49)]
theorem lw_r4 : ∀ q ∈ lw_privs_4, lw_okq q := List.forall_mem_cons.mpr ⟨lw_p48, List.forall_mem_cons.mpr ⟨lw_p49, List.forall_mem_cons.mpr ⟨lw_p50, List.forall_mem_cons.mpr ⟨lw_p51, List.forall_mem_cons.mpr ⟨lw_p52, List.forall_mem_cons.mpr ⟨lw_p53, List.forall_mem_cons.mpr ⟨lw_p54, List.forall_mem_cons.mpr ⟨lw_p55, List.forall_mem_cons.mpr ⟨lw_p56, List.forall_mem_cons.mpr ⟨lw_p57, List.forall_mem_cons.mpr ⟨lw_p58, List.forall_mem_cons.mpr ⟨lw_p59, List.forall_mem_cons.mpr ⟨lw_p60, List.forall_mem_cons.mpr ⟨lw_p61, List.forall_mem_cons.mpr ⟨lw_p62, List.forall_mem_cons.mpr ⟨lw_p63, fun _ h => absurd h List.not_mem_nil⟩⟩⟩⟩⟩⟩⟩⟩⟩⟩⟩⟩⟩⟩⟩⟩
theorem lw_p64 : lw_okq (⟨"PassTheSaltModel", "findPrices", "()V"⟩, 49) := ⟨⟨by decide +kernel, by decide +kernel⟩, List.mem_of_getElem? (i := 853) (by decide +kernel), List.mem_of_getElem? (i := 1224) (by decide +kernel), List.mem_of_getElem? (i := 1225) (by decide +kernel)⟩
theorem lw_p65 : lw_okq (⟨"PassTheSaltModel", "costs", "(I)V"⟩, 49) := ⟨⟨by decide +kernel, by decide +kernel⟩, List.mem_of_getElem? (i := 853) (by decide +kernel), List.mem_of_getElem? (i := 1228) (by decide +kernel), List.mem_of_getElem? (i := 1229) (by decide +kernel)⟩
theorem lw_p66 : lw_okq (⟨"PassTheSaltModel", "cheapest", "()I"⟩, 49) := ⟨⟨by decide +kernel, by decide +kernel⟩, List.mem_of_getElem? (i := 853) (by decide +kernel), List.mem_of_getElem? (i := 1232) (by decide +kernel), List.mem_of_getElem? (i := 1233) (by decide +kernel)⟩
theorem lw_p67 : lw_okq (⟨"PassTheSaltModel", "areGlad", "(II)Z"⟩, 49) := ⟨⟨by decide +kernel, by decide +kernel⟩, List.mem_of_getElem? (i := 853) (by decide +kernel), List.mem_of_getElem? (i := 1240) (by decide +kernel), List.mem_of_getElem? (i := 1241) (by decide +kernel)⟩
theorem lw_p68 : lw_okq (⟨"PassTheSaltModel", "swapSits", "(II)V"⟩, 49) := ⟨⟨by decide +kernel, by decide +kernel⟩, List.mem_of_getElem? (i := 853) (by decide +kernel), List.mem_of_getElem? (i := 1252) (by decide +kernel), List.mem_of_getElem? (i := 1253) (by decide +kernel)⟩
theorem lw_p69 : lw_okq (⟨"PassTheSaltModel", "waysOn", "()V"⟩, 49) := ⟨⟨by decide +kernel, by decide +kernel⟩, List.mem_of_getElem? (i := 853) (by decide +kernel), List.mem_of_getElem? (i := 1261) (by decide +kernel), List.mem_of_getElem? (i := 1262) (by decide +kernel)⟩
def lw_privs_5 : List (MethodName × Nat) := [(⟨"PassTheSaltModel", "findPrices", "()V"⟩, 49), (⟨"PassTheSaltModel", "costs", "(I)V"⟩, 49), (⟨"PassTheSaltModel", "cheapest", "()I"⟩, 49), (⟨"PassTheSaltModel", "areGlad", "(II)Z"⟩, 49), (⟨"PassTheSaltModel", "swapSits", "(II)V"⟩, 49), (⟨"PassTheSaltModel", "waysOn", "()V"⟩, 49)]
theorem lw_r5 : ∀ q ∈ lw_privs_5, lw_okq q := List.forall_mem_cons.mpr ⟨lw_p64, List.forall_mem_cons.mpr ⟨lw_p65, List.forall_mem_cons.mpr ⟨lw_p66, List.forall_mem_cons.mpr ⟨lw_p67, List.forall_mem_cons.mpr ⟨lw_p68, List.forall_mem_cons.mpr ⟨lw_p69, fun _ h => absurd h List.not_mem_nil⟩⟩⟩⟩⟩⟩
def lw_privs : List (MethodName × Nat) := lw_privs_1 ++ (lw_privs_2 ++ (lw_privs_3 ++ (lw_privs_4 ++ (lw_privs_5))))
def lw_tbl : List Cond := k2_sels lw_privs ++ tables_1
theorem lw_privs_ok : ∀ q ∈ lw_privs, lw_okq q := by
  show ∀ q ∈ lw_privs_1 ++ (lw_privs_2 ++ (lw_privs_3 ++ (lw_privs_4 ++ (lw_privs_5)))), lw_okq q
  exact List.forall_mem_append.mpr ⟨lw_r1, List.forall_mem_append.mpr ⟨lw_r2, List.forall_mem_append.mpr ⟨lw_r3, List.forall_mem_append.mpr ⟨lw_r4, lw_r5⟩⟩⟩⟩
end
section
def RX0 : String := "PassTheSalt$Layings"
def TX0 : u_T := fun k => match k with
  | 0 => ("PassTheSalt$Layings", "size", "I", false)
  | 1 => ("PassTheSalt$Layings", "lies", "[I", true)
  | _ => ("PassTheSalt$Layings", "slots", "[I", true)
def tyX0 : Nat → FieldType := fun k => match k with
  | 0 => .int
  | 1 => .array .int
  | _ => .array .int
theorem nmX0 : ∀ a, a < 3 → ∀ b, b < 3 → a ≠ b → (TX0 a).2.1 ≠ (TX0 b).2.1 := by decide +kernel
theorem tyX0_ok : ∀ k, k < 3 → parseFieldDescriptor (TX0 k).2.2.1 = some (tyX0 k) := by decide +kernel
abbrev cX0_init : ByteArray := prog_2_method_1_code
def yX0_init : MethodName := ⟨RX0, "<init>", "()V"⟩
abbrev cX0_gather : ByteArray := prog_2_method_2_code
def yX0_gather : MethodName := ⟨RX0, "gather", "(II)V"⟩
abbrev cX0_add : ByteArray := prog_2_method_3_code
def yX0_add : MethodName := ⟨RX0, "add", "(I)V"⟩
abbrev cX0_slotOf : ByteArray := prog_2_method_4_code
def yX0_slotOf : MethodName := ⟨RX0, "slotOf", "(I)I"⟩
abbrev cX0_numberOf : ByteArray := prog_2_method_5_code
def yX0_numberOf : MethodName := ⟨RX0, "numberOf", "(I)I"⟩
abbrev cX0_lieOf : ByteArray := prog_2_method_6_code
def yX0_lieOf : MethodName := ⟨RX0, "lieOf", "(I)I"⟩
def RX1 : String := "PassTheSalt$Moment"
def TX1 : u_T := fun k => match k with
  | 0 => ("PassTheSalt$Moment", "lie", "I", false)
  | 1 => ("PassTheSalt$Moment", "had", "J", false)
  | _ => ("PassTheSalt$Moment", "minute", "I", false)
def tyX1 : Nat → FieldType := fun k => match k with
  | 0 => .int
  | 1 => .long
  | _ => .int
theorem nmX1 : ∀ a, a < 3 → ∀ b, b < 3 → a ≠ b → (TX1 a).2.1 ≠ (TX1 b).2.1 := by decide +kernel
theorem tyX1_ok : ∀ k, k < 3 → parseFieldDescriptor (TX1 k).2.2.1 = some (tyX1 k) := by decide +kernel
abbrev cX1_init : ByteArray := prog_3_method_1_code
def yX1_init : MethodName := ⟨RX1, "<init>", "()V"⟩
def RX2 : String := "PassTheSalt$Moments"
def TX2 : u_T := fun k => match k with
  | 0 => ("PassTheSalt$Moments", "size", "I", false)
  | 1 => ("PassTheSalt$Moments", "room", "I", true)
  | 2 => ("PassTheSalt$Moments", "lies", "[I", true)
  | 3 => ("PassTheSalt$Moments", "hads", "[J", true)
  | _ => ("PassTheSalt$Moments", "minutes", "[I", true)
def tyX2 : Nat → FieldType := fun k => match k with
  | 0 => .int
  | 1 => .int
  | 2 => .array .int
  | 3 => .array .long
  | _ => .array .int
theorem nmX2 : ∀ a, a < 5 → ∀ b, b < 5 → a ≠ b → (TX2 a).2.1 ≠ (TX2 b).2.1 := by decide +kernel
theorem tyX2_ok : ∀ k, k < 5 → parseFieldDescriptor (TX2 k).2.2.1 = some (tyX2 k) := by decide +kernel
abbrev cX2_init : ByteArray := prog_4_method_1_code
def yX2_init : MethodName := ⟨RX2, "<init>", "(I)V"⟩
abbrev cX2_addLast : ByteArray := prog_4_method_2_code
def yX2_addLast : MethodName := ⟨RX2, "addLast", "(LPassTheSalt$Moment;)V"⟩
abbrev cX2_dropOldest : ByteArray := prog_4_method_3_code
def yX2_dropOldest : MethodName := ⟨RX2, "dropOldest", "()V"⟩
abbrev cX2_takeLast : ByteArray := prog_4_method_4_code
def yX2_takeLast : MethodName := ⟨RX2, "takeLast", "(LPassTheSalt$Moment;)V"⟩
def RX3 : String := "PassTheSalt$Moves"
def TX3 : u_T := fun k => match k with
  | 0 => ("PassTheSalt$Moves", "table", "LPassTheSalt$Table;", true)
  | 1 => ("PassTheSalt$Moves", "layings", "LPassTheSalt$Layings;", true)
  | _ => ("PassTheSalt$Moves", "rows", "[J", true)
def tyX3 : Nat → FieldType := fun k => match k with
  | 0 => .object "PassTheSalt$Table"
  | 1 => .object "PassTheSalt$Layings"
  | _ => .array .long
theorem nmX3 : ∀ a, a < 3 → ∀ b, b < 3 → a ≠ b → (TX3 a).2.1 ≠ (TX3 b).2.1 := by decide +kernel
theorem tyX3_ok : ∀ k, k < 3 → parseFieldDescriptor (TX3 k).2.2.1 = some (tyX3 k) := by decide +kernel
abbrev cX3_init : ByteArray := prog_5_method_1_code
def yX3_init : MethodName := ⟨RX3, "<init>", "(LPassTheSalt$Table;LPassTheSalt$Layings;I)V"⟩
abbrev cX3_forget : ByteArray := prog_5_method_2_code
def yX3_forget : MethodName := ⟨RX3, "forget", "()V"⟩
abbrev cX3_rowOf : ByteArray := prog_5_method_3_code
def yX3_rowOf : MethodName := ⟨RX3, "rowOf", "(II)J"⟩
abbrev cX3_target : ByteArray := prog_5_method_4_code
def yX3_target : MethodName := ⟨RX3, "target", "(JI)I"⟩
abbrev cX3_changeAnything : ByteArray := prog_5_method_5_code
def yX3_changeAnything : MethodName := ⟨RX3, "changeAnything", "(I)Z"⟩
def RX4 : String := "PassTheSalt$Reader"
def TX4 : u_T := fun k => match k with
  | 0 => ("PassTheSalt$Reader", "text", "[I", true)
  | 1 => ("PassTheSalt$Reader", "table", "LPassTheSalt$Table;", true)
  | 2 => ("PassTheSalt$Reader", "numbers", "[I", true)
  | 3 => ("PassTheSalt$Reader", "end", "I", false)
  | _ => ("PassTheSalt$Reader", "place", "I", false)
def tyX4 : Nat → FieldType := fun k => match k with
  | 0 => .array .int
  | 1 => .object "PassTheSalt$Table"
  | 2 => .array .int
  | 3 => .int
  | _ => .int
theorem nmX4 : ∀ a, a < 5 → ∀ b, b < 5 → a ≠ b → (TX4 a).2.1 ≠ (TX4 b).2.1 := by decide +kernel
theorem tyX4_ok : ∀ k, k < 5 → parseFieldDescriptor (TX4 k).2.2.1 = some (tyX4 k) := by decide +kernel
abbrev cX4_init : ByteArray := prog_6_method_1_code
def yX4_init : MethodName := ⟨RX4, "<init>", "([ILPassTheSalt$Table;)V"⟩
abbrev cX4_read : ByteArray := prog_6_method_2_code
def yX4_read : MethodName := ⟨RX4, "read", "(I)I"⟩
abbrev cX4_readItem : ByteArray := prog_6_method_3_code
def yX4_readItem : MethodName := ⟨RX4, "readItem", "()Z"⟩
abbrev cX4_takeNumber : ByteArray := prog_6_method_4_code
def yX4_takeNumber : MethodName := ⟨RX4, "takeNumber", "(II)Z"⟩
abbrev cX4_takeGuest : ByteArray := prog_6_method_5_code
def yX4_takeGuest : MethodName := ⟨RX4, "takeGuest", "(III)Z"⟩
abbrev cX4_readWorths : ByteArray := prog_6_method_6_code
def yX4_readWorths : MethodName := ⟨RX4, "readWorths", "()Z"⟩
abbrev cX4_readNumber : ByteArray := prog_6_method_7_code
def yX4_readNumber : MethodName := ⟨RX4, "readNumber", "(I)Z"⟩
abbrev cX4_nextFigure : ByteArray := prog_6_method_8_code
def yX4_nextFigure : MethodName := ⟨RX4, "nextFigure", "()I"⟩
abbrev cX4_nextByte : ByteArray := prog_6_method_9_code
def yX4_nextByte : MethodName := ⟨RX4, "nextByte", "()I"⟩
def RX5 : String := "PassTheSalt$Search"
def TX5 : u_T := fun k => match k with
  | 0 => ("PassTheSalt$Search", "moves", "LPassTheSalt$Moves;", true)
  | 1 => ("PassTheSalt$Search", "start", "I", false)
  | 2 => ("PassTheSalt$Search", "order", "[I", true)
  | 3 => ("PassTheSalt$Search", "steps", "[I", true)
  | 4 => ("PassTheSalt$Search", "openings", "[I", true)
  | 5 => ("PassTheSalt$Search", "reached", "I", false)
  | _ => ("PassTheSalt$Search", "opened", "I", false)
def tyX5 : Nat → FieldType := fun k => match k with
  | 0 => .object "PassTheSalt$Moves"
  | 1 => .int
  | 2 => .array .int
  | 3 => .array .int
  | 4 => .array .int
  | 5 => .int
  | _ => .int
theorem nmX5 : ∀ a, a < 7 → ∀ b, b < 7 → a ≠ b → (TX5 a).2.1 ≠ (TX5 b).2.1 := by decide +kernel
theorem tyX5_ok : ∀ k, k < 7 → parseFieldDescriptor (TX5 k).2.2.1 = some (tyX5 k) := by decide +kernel
abbrev cX5_init : ByteArray := prog_7_method_1_code
def yX5_init : MethodName := ⟨RX5, "<init>", "(LPassTheSalt$Moves;)V"⟩
abbrev cX5_forget : ByteArray := prog_7_method_2_code
def yX5_forget : MethodName := ⟨RX5, "forget", "()V"⟩
abbrev cX5_startFrom : ByteArray := prog_7_method_3_code
def yX5_startFrom : MethodName := ⟨RX5, "startFrom", "(I)V"⟩
abbrev cX5_reachedAs : ByteArray := prog_7_method_4_code
def yX5_reachedAs : MethodName := ⟨RX5, "reachedAs", "(II)I"⟩
abbrev cX5_stepsAs : ByteArray := prog_7_method_5_code
def yX5_stepsAs : MethodName := ⟨RX5, "stepsAs", "(I)I"⟩
abbrev cX5_reach : ByteArray := prog_7_method_6_code
def yX5_reach : MethodName := ⟨RX5, "reach", "(III)V"⟩
abbrev cX5_stepsTo : ByteArray := prog_7_method_7_code
def yX5_stepsTo : MethodName := ⟨RX5, "stepsTo", "(II)I"⟩
abbrev cX5_openingTo : ByteArray := prog_7_method_8_code
def yX5_openingTo : MethodName := ⟨RX5, "openingTo", "(II)I"⟩
abbrev cX5_firstWith : ByteArray := prog_7_method_9_code
def yX5_firstWith : MethodName := ⟨RX5, "firstWith", "(II)I"⟩
abbrev cX5_stepsToRest : ByteArray := prog_7_method_10_code
def yX5_stepsToRest : MethodName := ⟨RX5, "stepsToRest", "(I)I"⟩
abbrev cX5_pairsReached : ByteArray := prog_7_method_11_code
def yX5_pairsReached : MethodName := ⟨RX5, "pairsReached", "(J)J"⟩
def RX6 : String := "PassTheSalt$Sums"
def TX6 : u_T := fun k => match k with
  | 0 => ("PassTheSalt$Sums", "moves", "LPassTheSalt$Moves;", true)
  | 1 => ("PassTheSalt$Sums", "prices", "[I", true)
  | 2 => ("PassTheSalt$Sums", "ways", "[J", false)
  | _ => ("PassTheSalt$Sums", "waysNext", "[J", false)
def tyX6 : Nat → FieldType := fun k => match k with
  | 0 => .object "PassTheSalt$Moves"
  | 1 => .array .int
  | 2 => .array .long
  | _ => .array .long
theorem nmX6 : ∀ a, a < 4 → ∀ b, b < 4 → a ≠ b → (TX6 a).2.1 ≠ (TX6 b).2.1 := by decide +kernel
theorem tyX6_ok : ∀ k, k < 4 → parseFieldDescriptor (TX6 k).2.2.1 = some (tyX6 k) := by decide +kernel
abbrev cX6_init : ByteArray := prog_8_method_1_code
def yX6_init : MethodName := ⟨RX6, "<init>", "(LPassTheSalt$Moves;)V"⟩
abbrev cX6_leastPrice : ByteArray := prog_8_method_2_code
def yX6_leastPrice : MethodName := ⟨RX6, "leastPrice", "(III)I"⟩
abbrev cX6_spreadPrice : ByteArray := prog_8_method_3_code
def yX6_spreadPrice : MethodName := ⟨RX6, "spreadPrice", "(II)V"⟩
abbrev cX6_rowsBetween : ByteArray := prog_8_method_4_code
def yX6_rowsBetween : MethodName := ⟨RX6, "rowsBetween", "(III)J"⟩
abbrev cX6_spreadWays : ByteArray := prog_8_method_5_code
def yX6_spreadWays : MethodName := ⟨RX6, "spreadWays", "(IJ)V"⟩
def RX7 : String := "PassTheSalt$Table"
def TX7 : u_T := fun k => match k with
  | 0 => ("PassTheSalt$Table", "guests", "I", false)
  | 1 => ("PassTheSalt$Table", "dishes", "I", false)
  | 2 => ("PassTheSalt$Table", "ring", "I", false)
  | 3 => ("PassTheSalt$Table", "servant", "I", false)
  | 4 => ("PassTheSalt$Table", "cold", "I", false)
  | 5 => ("PassTheSalt$Table", "laid", "I", false)
  | 6 => ("PassTheSalt$Table", "kinds", "[I", true)
  | 7 => ("PassTheSalt$Table", "wants", "[I", true)
  | _ => ("PassTheSalt$Table", "worths", "[I", true)
def tyX7 : Nat → FieldType := fun k => match k with
  | 0 => .int
  | 1 => .int
  | 2 => .int
  | 3 => .int
  | 4 => .int
  | 5 => .int
  | 6 => .array .int
  | 7 => .array .int
  | _ => .array .int
theorem nmX7 : ∀ a, a < 9 → ∀ b, b < 9 → a ≠ b → (TX7 a).2.1 ≠ (TX7 b).2.1 := by decide +kernel
theorem tyX7_ok : ∀ k, k < 9 → parseFieldDescriptor (TX7 k).2.2.1 = some (tyX7 k) := by decide +kernel
abbrev cX7_init : ByteArray := prog_9_method_1_code
def yX7_init : MethodName := ⟨RX7, "<init>", "()V"⟩
abbrev cX7_clear : ByteArray := prog_9_method_2_code
def yX7_clear : MethodName := ⟨RX7, "clear", "()V"⟩
abbrev cX7_become : ByteArray := prog_9_method_3_code
def yX7_become : MethodName := ⟨RX7, "become", "(LPassTheSalt$Table;)V"⟩
abbrev cX7_takeGuest : ByteArray := prog_9_method_4_code
def yX7_takeGuest : MethodName := ⟨RX7, "takeGuest", "(ILPassTheSalt$Table;I)V"⟩
abbrev cX7_addGuest : ByteArray := prog_9_method_5_code
def yX7_addGuest : MethodName := ⟨RX7, "addGuest", "(III)V"⟩
abbrev cX7_setKind : ByteArray := prog_9_method_6_code
def yX7_setKind : MethodName := ⟨RX7, "setKind", "(II)V"⟩
abbrev cX7_setWorth : ByteArray := prog_9_method_7_code
def yX7_setWorth : MethodName := ⟨RX7, "setWorth", "(III)V"⟩
abbrev cX7_kindOf : ByteArray := prog_9_method_8_code
def yX7_kindOf : MethodName := ⟨RX7, "kindOf", "(I)I"⟩
abbrev cX7_wantsOf : ByteArray := prog_9_method_9_code
def yX7_wantsOf : MethodName := ⟨RX7, "wantsOf", "(I)I"⟩
abbrev cX7_allDishes : ByteArray := prog_9_method_10_code
def yX7_allDishes : MethodName := ⟨RX7, "allDishes", "()I"⟩
abbrev cX7_worthOf : ByteArray := prog_9_method_11_code
def yX7_worthOf : MethodName := ⟨RX7, "worthOf", "(II)I"⟩
abbrev cX7_worthAt : ByteArray := prog_9_method_12_code
def yX7_worthAt : MethodName := ⟨RX7, "worthAt", "(III)I"⟩
abbrev cX7_worthTogether : ByteArray := prog_9_method_13_code
def yX7_worthTogether : MethodName := ⟨RX7, "worthTogether", "(II)I"⟩
abbrev cX7_guestBy : ByteArray := prog_9_method_14_code
def yX7_guestBy : MethodName := ⟨RX7, "guestBy", "(I)I"⟩
abbrev cX7_stepsBetween : ByteArray := prog_9_method_15_code
def yX7_stepsBetween : MethodName := ⟨RX7, "stepsBetween", "(II)I"⟩
abbrev cX7_stepsRight : ByteArray := prog_9_method_16_code
def yX7_stepsRight : MethodName := ⟨RX7, "stepsRight", "(II)I"⟩
abbrev cX7_stepTowards : ByteArray := prog_9_method_17_code
def yX7_stepTowards : MethodName := ⟨RX7, "stepTowards", "(II)I"⟩
abbrev cX7_nextSeat : ByteArray := prog_9_method_18_code
def yX7_nextSeat : MethodName := ⟨RX7, "nextSeat", "(II)I"⟩
abbrev cX7_canBeAsked : ByteArray := prog_9_method_19_code
def yX7_canBeAsked : MethodName := ⟨RX7, "canBeAsked", "(III)Z"⟩
abbrev cX7_lieAfter : ByteArray := prog_9_method_20_code
def yX7_lieAfter : MethodName := ⟨RX7, "lieAfter", "(III)I"⟩
abbrev cX7_carried : ByteArray := prog_9_method_21_code
def yX7_carried : MethodName := ⟨RX7, "carried", "(IIIII)I"⟩
abbrev cX7_childChanged : ByteArray := prog_9_method_22_code
def yX7_childChanged : MethodName := ⟨RX7, "childChanged", "(II)I"⟩
abbrev cX7_bothWouldLike : ByteArray := prog_9_method_23_code
def yX7_bothWouldLike : MethodName := ⟨RX7, "bothWouldLike", "(III)Z"⟩
abbrev cX7_isAtRest : ByteArray := prog_9_method_24_code
def yX7_isAtRest : MethodName := ⟨RX7, "isAtRest", "(I)Z"⟩
abbrev cX7_wantedPairs : ByteArray := prog_9_method_25_code
def yX7_wantedPairs : MethodName := ⟨RX7, "wantedPairs", "()J"⟩
def RX8 : String := "PassTheSalt$WhatIf"
def TX8 : u_T := fun k => match k with
  | 0 => ("PassTheSalt$WhatIf", "holder", "I", false)
  | 1 => ("PassTheSalt$WhatIf", "heldUp", "I", false)
  | 2 => ("PassTheSalt$WhatIf", "holderFrom", "I", false)
  | 3 => ("PassTheSalt$WhatIf", "seatsBest", "I", false)
  | 4 => ("PassTheSalt$WhatIf", "seatsFrom", "I", false)
  | 5 => ("PassTheSalt$WhatIf", "real", "LPassTheSalt$Table;", true)
  | 6 => ("PassTheSalt$WhatIf", "realSearch", "LPassTheSalt$Search;", true)
  | 7 => ("PassTheSalt$WhatIf", "other", "LPassTheSalt$Table;", true)
  | _ => ("PassTheSalt$WhatIf", "otherSearch", "LPassTheSalt$Search;", true)
def tyX8 : Nat → FieldType := fun k => match k with
  | 0 => .int
  | 1 => .int
  | 2 => .int
  | 3 => .int
  | 4 => .int
  | 5 => .object "PassTheSalt$Table"
  | 6 => .object "PassTheSalt$Search"
  | 7 => .object "PassTheSalt$Table"
  | _ => .object "PassTheSalt$Search"
theorem nmX8 : ∀ a, a < 9 → ∀ b, b < 9 → a ≠ b → (TX8 a).2.1 ≠ (TX8 b).2.1 := by decide +kernel
theorem tyX8_ok : ∀ k, k < 9 → parseFieldDescriptor (TX8 k).2.2.1 = some (tyX8 k) := by decide +kernel
abbrev cX8_init : ByteArray := prog_10_method_1_code
def yX8_init : MethodName := ⟨RX8, "<init>", "(LPassTheSalt$Table;LPassTheSalt$Search;)V"⟩
abbrev cX8_forget : ByteArray := prog_10_method_2_code
def yX8_forget : MethodName := ⟨RX8, "forget", "()V"⟩
abbrev cX8_findHolder : ByteArray := prog_10_method_3_code
def yX8_findHolder : MethodName := ⟨RX8, "findHolder", "()V"⟩
abbrev cX8_bestSeats : ByteArray := prog_10_method_4_code
def yX8_bestSeats : MethodName := ⟨RX8, "bestSeats", "()I"⟩
abbrev cX8_canBeAtRest : ByteArray := prog_10_method_5_code
def yX8_canBeAtRest : MethodName := ⟨RX8, "canBeAtRest", "()Z"⟩
abbrev cX8_makeHold : ByteArray := prog_10_method_6_code
def yX8_makeHold : MethodName := ⟨RX8, "makeHold", "(I)V"⟩
abbrev cX8_changeSeats : ByteArray := prog_10_method_7_code
def yX8_changeSeats : MethodName := ⟨RX8, "changeSeats", "(II)V"⟩
abbrev cX8_startOther : ByteArray := prog_10_method_8_code
def yX8_startOther : MethodName := ⟨RX8, "startOther", "()V"⟩
def RX9 : String := "PassTheSalt"
def TX9 : u_T := fun k => match k with
  | 0 => ("PassTheSalt", "text", "[I", true)
  | 1 => ("PassTheSalt", "length", "I", false)
  | 2 => ("PassTheSalt", "told", "LPassTheSalt$Table;", true)
  | 3 => ("PassTheSalt", "reader", "LPassTheSalt$Reader;", true)
  | 4 => ("PassTheSalt", "table", "LPassTheSalt$Table;", true)
  | 5 => ("PassTheSalt", "layings", "LPassTheSalt$Layings;", true)
  | 6 => ("PassTheSalt", "moves", "LPassTheSalt$Moves;", true)
  | 7 => ("PassTheSalt", "search", "LPassTheSalt$Search;", true)
  | 8 => ("PassTheSalt", "sums", "LPassTheSalt$Sums;", true)
  | 9 => ("PassTheSalt", "whatIf", "LPassTheSalt$WhatIf;", true)
  | 10 => ("PassTheSalt", "now", "LPassTheSalt$Moment;", true)
  | 11 => ("PassTheSalt", "undoable", "LPassTheSalt$Moments;", true)
  | _ => ("PassTheSalt", "kept", "LPassTheSalt$Moments;", true)
def tyX9 : Nat → FieldType := fun k => match k with
  | 0 => .array .int
  | 1 => .int
  | 2 => .object "PassTheSalt$Table"
  | 3 => .object "PassTheSalt$Reader"
  | 4 => .object "PassTheSalt$Table"
  | 5 => .object "PassTheSalt$Layings"
  | 6 => .object "PassTheSalt$Moves"
  | 7 => .object "PassTheSalt$Search"
  | 8 => .object "PassTheSalt$Sums"
  | 9 => .object "PassTheSalt$WhatIf"
  | 10 => .object "PassTheSalt$Moment"
  | 11 => .object "PassTheSalt$Moments"
  | _ => .object "PassTheSalt$Moments"
theorem nmX9 : ∀ a, a < 13 → ∀ b, b < 13 → a ≠ b → (TX9 a).2.1 ≠ (TX9 b).2.1 := by decide +kernel
theorem tyX9_ok : ∀ k, k < 13 → parseFieldDescriptor (TX9 k).2.2.1 = some (tyX9 k) := by decide +kernel
abbrev cX9_init : ByteArray := prog_1_method_1_code
def yX9_init : MethodName := ⟨RX9, "<init>", "()V"⟩
abbrev cX9_write : ByteArray := prog_1_method_2_code
def yX9_write : MethodName := ⟨RX9, "write", "(IJ)I"⟩
abbrev cX9_wipe : ByteArray := prog_1_method_3_code
def yX9_wipe : MethodName := ⟨RX9, "wipe", "()I"⟩
abbrev cX9_fault : ByteArray := prog_1_method_4_code
def yX9_fault : MethodName := ⟨RX9, "fault", "()I"⟩
abbrev cX9_lay : ByteArray := prog_1_method_5_code
def yX9_lay : MethodName := ⟨RX9, "lay", "()I"⟩
abbrev cX9_guest : ByteArray := prog_1_method_6_code
def yX9_guest : MethodName := ⟨RX9, "guest", "(II)I"⟩
abbrev cX9_worth : ByteArray := prog_1_method_7_code
def yX9_worth : MethodName := ⟨RX9, "worth", "(III)I"⟩
abbrev cX9_hands : ByteArray := prog_1_method_8_code
def yX9_hands : MethodName := ⟨RX9, "hands", "(II)I"⟩
abbrev cX9_ask : ByteArray := prog_1_method_9_code
def yX9_ask : MethodName := ⟨RX9, "ask", "(II)I"⟩
abbrev cX9_undo : ByteArray := prog_1_method_10_code
def yX9_undo : MethodName := ⟨RX9, "undo", "()I"⟩
abbrev cX9_evening : ByteArray := prog_1_method_11_code
def yX9_evening : MethodName := ⟨RX9, "evening", "()I"⟩
abbrev cX9_need : ByteArray := prog_1_method_12_code
def yX9_need : MethodName := ⟨RX9, "need", "(II)I"⟩
abbrev cX9_first : ByteArray := prog_1_method_13_code
def yX9_first : MethodName := ⟨RX9, "first", "(II)I"⟩
abbrev cX9_price : ByteArray := prog_1_method_14_code
def yX9_price : MethodName := ⟨RX9, "price", "(II)I"⟩
abbrev cX9_never : ByteArray := prog_1_method_15_code
def yX9_never : MethodName := ⟨RX9, "never", "(I)I"⟩
abbrev cX9_stuck : ByteArray := prog_1_method_16_code
def yX9_stuck : MethodName := ⟨RX9, "stuck", "()I"⟩
abbrev cX9_rest : ByteArray := prog_1_method_17_code
def yX9_rest : MethodName := ⟨RX9, "rest", "()I"⟩
abbrev cX9_holdsUp : ByteArray := prog_1_method_18_code
def yX9_holdsUp : MethodName := ⟨RX9, "holdsUp", "(I)I"⟩
abbrev cX9_liked : ByteArray := prog_1_method_19_code
def yX9_liked : MethodName := ⟨RX9, "liked", "(I)I"⟩
abbrev cX9_most : ByteArray := prog_1_method_20_code
def yX9_most : MethodName := ⟨RX9, "most", "()I"⟩
abbrev cX9_seats : ByteArray := prog_1_method_21_code
def yX9_seats : MethodName := ⟨RX9, "seats", "()I"⟩
abbrev cX9_went : ByteArray := prog_1_method_22_code
def yX9_went : MethodName := ⟨RX9, "went", "(I)J"⟩
abbrev cX9_drawn : ByteArray := prog_1_method_23_code
def yX9_drawn : MethodName := ⟨RX9, "drawn", "(III)I"⟩
abbrev cX9_keep : ByteArray := prog_1_method_24_code
def yX9_keep : MethodName := ⟨RX9, "keep", "()I"⟩
abbrev cX9_back : ByteArray := prog_1_method_25_code
def yX9_back : MethodName := ⟨RX9, "back", "()I"⟩
abbrev cX9_count : ByteArray := prog_1_method_26_code
def yX9_count : MethodName := ⟨RX9, "count", "(I)I"⟩
abbrev cX9_lookAhead : ByteArray := prog_1_method_27_code
def yX9_lookAhead : MethodName := ⟨RX9, "lookAhead", "()V"⟩
abbrev cX9_isGuest : ByteArray := prog_1_method_28_code
def yX9_isGuest : MethodName := ⟨RX9, "isGuest", "(I)Z"⟩
abbrev cX9_isDish : ByteArray := prog_1_method_29_code
def yX9_isDish : MethodName := ⟨RX9, "isDish", "(I)Z"⟩
abbrev cX9_dishOrNone : ByteArray := prog_1_method_30_code
def yX9_dishOrNone : MethodName := ⟨RX9, "dishOrNone", "(I)I"⟩
abbrev cX9_drawOf : ByteArray := prog_1_method_31_code
def yX9_drawOf : MethodName := ⟨RX9, "drawOf", "(II)I"⟩
abbrev cX9_at : ByteArray := prog_1_method_32_code
def yX9_at : MethodName := ⟨RX9, "at", "([II)I"⟩
abbrev cX9_put : ByteArray := prog_1_method_33_code
def yX9_put : MethodName := ⟨RX9, "put", "([III)V"⟩
abbrev cX9_before : ByteArray := prog_1_method_34_code
def yX9_before : MethodName := ⟨RX9, "before", "(II)I"⟩
abbrev cX9_placed : ByteArray := prog_1_method_35_code
def yX9_placed : MethodName := ⟨RX9, "placed", "(III)I"⟩
abbrev cX9_changed : ByteArray := prog_1_method_36_code
def yX9_changed : MethodName := ⟨RX9, "changed", "(III)I"⟩
abbrev cX9_seatOf : ByteArray := prog_1_method_37_code
def yX9_seatOf : MethodName := ⟨RX9, "seatOf", "(II)I"⟩
abbrev cX9_pairsOf : ByteArray := prog_1_method_38_code
def yX9_pairsOf : MethodName := ⟨RX9, "pairsOf", "(I)J"⟩
abbrev cX9_shifted : ByteArray := prog_1_method_39_code
def yX9_shifted : MethodName := ⟨RX9, "shifted", "(II)J"⟩
abbrev cX9_bitsOf : ByteArray := prog_1_method_40_code
def yX9_bitsOf : MethodName := ⟨RX9, "bitsOf", "(JI)I"⟩
def RX10 : String := "PassTheSaltModel"
def TX10 : u_T := fun k => match k with
  | 0 => ("PassTheSaltModel", "guests", "I", false)
  | 1 => ("PassTheSaltModel", "dishes", "I", false)
  | 2 => ("PassTheSaltModel", "isRing", "Z", false)
  | 3 => ("PassTheSaltModel", "pass", "I", false)
  | 4 => ("PassTheSaltModel", "cools", "I", false)
  | 5 => ("PassTheSaltModel", "kinds", "[I", true)
  | 6 => ("PassTheSaltModel", "wants", "[I", true)
  | 7 => ("PassTheSaltModel", "worths", "[I", true)
  | 8 => ("PassTheSaltModel", "laid", "[I", true)
  | 9 => ("PassTheSaltModel", "before", "[I", true)
  | 10 => ("PassTheSaltModel", "had", "[I", true)
  | 11 => ("PassTheSaltModel", "minutes", "I", false)
  | 12 => ("PassTheSaltModel", "undone", "I", false)
  | 13 => ("PassTheSaltModel", "undoBefore", "[I", true)
  | 14 => ("PassTheSaltModel", "undoHad", "[I", true)
  | 15 => ("PassTheSaltModel", "undoMinutes", "[I", true)
  | 16 => ("PassTheSaltModel", "kept", "I", false)
  | 17 => ("PassTheSaltModel", "keptBefore", "[I", true)
  | 18 => ("PassTheSaltModel", "keptHad", "[I", true)
  | 19 => ("PassTheSaltModel", "keptMinutes", "[I", true)
  | 20 => ("PassTheSaltModel", "text", "[I", true)
  | 21 => ("PassTheSaltModel", "size", "I", false)
  | 22 => ("PassTheSaltModel", "at", "I", false)
  | 23 => ("PassTheSaltModel", "saidGuests", "I", false)
  | 24 => ("PassTheSaltModel", "saidDishes", "I", false)
  | 25 => ("PassTheSaltModel", "saidRing", "I", false)
  | 26 => ("PassTheSaltModel", "saidPass", "I", false)
  | 27 => ("PassTheSaltModel", "saidCools", "I", false)
  | 28 => ("PassTheSaltModel", "saidKinds", "[I", true)
  | 29 => ("PassTheSaltModel", "saidWants", "[I", true)
  | 30 => ("PassTheSaltModel", "saidWorths", "[I", true)
  | 31 => ("PassTheSaltModel", "saidLaid", "[I", true)
  | 32 => ("PassTheSaltModel", "spot", "[I", true)
  | 33 => ("PassTheSaltModel", "sitKinds", "[I", true)
  | 34 => ("PassTheSaltModel", "sitWants", "[I", true)
  | 35 => ("PassTheSaltModel", "sitWorths", "[I", true)
  | 36 => ("PassTheSaltModel", "mark", "[I", true)
  | 37 => ("PassTheSaltModel", "stamp", "I", false)
  | 38 => ("PassTheSaltModel", "codes", "[I", true)
  | 39 => ("PassTheSaltModel", "far", "[I", true)
  | 40 => ("PassTheSaltModel", "opens", "[I", true)
  | 41 => ("PassTheSaltModel", "found", "I", false)
  | 42 => ("PassTheSaltModel", "there", "I", false)
  | 43 => ("PassTheSaltModel", "hasNeed", "[Z", true)
  | 44 => ("PassTheSaltModel", "isDone", "[Z", true)
  | 45 => ("PassTheSaltModel", "sums", "[I", true)
  | 46 => ("PassTheSaltModel", "sumsThen", "[I", true)
  | 47 => ("PassTheSaltModel", "ways", "[J", true)
  | _ => ("PassTheSaltModel", "waysThen", "[J", true)
def tyX10 : Nat → FieldType := fun k => match k with
  | 0 => .int
  | 1 => .int
  | 2 => .boolean
  | 3 => .int
  | 4 => .int
  | 5 => .array .int
  | 6 => .array .int
  | 7 => .array .int
  | 8 => .array .int
  | 9 => .array .int
  | 10 => .array .int
  | 11 => .int
  | 12 => .int
  | 13 => .array .int
  | 14 => .array .int
  | 15 => .array .int
  | 16 => .int
  | 17 => .array .int
  | 18 => .array .int
  | 19 => .array .int
  | 20 => .array .int
  | 21 => .int
  | 22 => .int
  | 23 => .int
  | 24 => .int
  | 25 => .int
  | 26 => .int
  | 27 => .int
  | 28 => .array .int
  | 29 => .array .int
  | 30 => .array .int
  | 31 => .array .int
  | 32 => .array .int
  | 33 => .array .int
  | 34 => .array .int
  | 35 => .array .int
  | 36 => .array .int
  | 37 => .int
  | 38 => .array .int
  | 39 => .array .int
  | 40 => .array .int
  | 41 => .int
  | 42 => .int
  | 43 => .array .boolean
  | 44 => .array .boolean
  | 45 => .array .int
  | 46 => .array .int
  | 47 => .array .long
  | _ => .array .long
theorem nmX10 : ∀ a, a < 49 → ∀ b, b < 49 → a ≠ b → (TX10 a).2.1 ≠ (TX10 b).2.1 := by decide +kernel
theorem tyX10_ok : ∀ k, k < 49 → parseFieldDescriptor (TX10 k).2.2.1 = some (tyX10 k) := by decide +kernel
abbrev cX10_init : ByteArray := prog_12_method_1_code
def yX10_init : MethodName := ⟨RX10, "<init>", "()V"⟩
abbrev cX10_in : ByteArray := prog_12_method_3_code
def yX10_in : MethodName := ⟨RX10, "in", "(III)Z"⟩
abbrev cX10_isGuest : ByteArray := prog_12_method_4_code
def yX10_isGuest : MethodName := ⟨RX10, "isGuest", "(I)Z"⟩
abbrev cX10_isDish : ByteArray := prog_12_method_5_code
def yX10_isDish : MethodName := ⟨RX10, "isDish", "(I)Z"⟩
abbrev cX10_write : ByteArray := prog_12_method_6_code
def yX10_write : MethodName := ⟨RX10, "write", "(IJ)I"⟩
abbrev cX10_wipe : ByteArray := prog_12_method_7_code
def yX10_wipe : MethodName := ⟨RX10, "wipe", "()I"⟩
abbrev cX10_begins : ByteArray := prog_12_method_8_code
def yX10_begins : MethodName := ⟨RX10, "begins", "()V"⟩
abbrev cX10_here : ByteArray := prog_12_method_9_code
def yX10_here : MethodName := ⟨RX10, "here", "()I"⟩
abbrev cX10_number : ByteArray := prog_12_method_10_code
def yX10_number : MethodName := ⟨RX10, "number", "()I"⟩
abbrev cX10_isSign : ByteArray := prog_12_method_11_code
def yX10_isSign : MethodName := ⟨RX10, "isSign", "(I)Z"⟩
abbrev cX10_isFree : ByteArray := prog_12_method_12_code
def yX10_isFree : MethodName := ⟨RX10, "isFree", "(I)Z"⟩
abbrev cX10_isGuestItem : ByteArray := prog_12_method_13_code
def yX10_isGuestItem : MethodName := ⟨RX10, "isGuestItem", "()Z"⟩
abbrev cX10_isWorthItem : ByteArray := prog_12_method_14_code
def yX10_isWorthItem : MethodName := ⟨RX10, "isWorthItem", "()Z"⟩
abbrev cX10_isItem : ByteArray := prog_12_method_15_code
def yX10_isItem : MethodName := ⟨RX10, "isItem", "()Z"⟩
abbrev cX10_findFault : ByteArray := prog_12_method_16_code
def yX10_findFault : MethodName := ⟨RX10, "findFault", "()I"⟩
abbrev cX10_fault : ByteArray := prog_12_method_17_code
def yX10_fault : MethodName := ⟨RX10, "fault", "()I"⟩
abbrev cX10_lays : ByteArray := prog_12_method_18_code
def yX10_lays : MethodName := ⟨RX10, "lays", "()V"⟩
abbrev cX10_lay : ByteArray := prog_12_method_19_code
def yX10_lay : MethodName := ⟨RX10, "lay", "()I"⟩
abbrev cX10_guest : ByteArray := prog_12_method_20_code
def yX10_guest : MethodName := ⟨RX10, "guest", "(II)I"⟩
abbrev cX10_worthAt : ByteArray := prog_12_method_21_code
def yX10_worthAt : MethodName := ⟨RX10, "worthAt", "(III)I"⟩
abbrev cX10_worth : ByteArray := prog_12_method_22_code
def yX10_worth : MethodName := ⟨RX10, "worth", "(III)I"⟩
abbrev cX10_wayOf : ByteArray := prog_12_method_23_code
def yX10_wayOf : MethodName := ⟨RX10, "wayOf", "(II)I"⟩
abbrev cX10_handsOf : ByteArray := prog_12_method_24_code
def yX10_handsOf : MethodName := ⟨RX10, "handsOf", "(II)I"⟩
abbrev cX10_hands : ByteArray := prog_12_method_25_code
def yX10_hands : MethodName := ⟨RX10, "hands", "(II)I"⟩
abbrev cX10_sits : ByteArray := prog_12_method_26_code
def yX10_sits : MethodName := ⟨RX10, "sits", "()V"⟩
abbrev cX10_likes : ByteArray := prog_12_method_27_code
def yX10_likes : MethodName := ⟨RX10, "likes", "(II)I"⟩
abbrev cX10_mayAsk : ByteArray := prog_12_method_28_code
def yX10_mayAsk : MethodName := ⟨RX10, "mayAsk", "(II)Z"⟩
abbrev cX10_goes : ByteArray := prog_12_method_29_code
def yX10_goes : MethodName := ⟨RX10, "goes", "(IIII)I"⟩
abbrev cX10_childChanges : ByteArray := prog_12_method_30_code
def yX10_childChanges : MethodName := ⟨RX10, "childChanges", "(I)V"⟩
abbrev cX10_asks : ByteArray := prog_12_method_31_code
def yX10_asks : MethodName := ⟨RX10, "asks", "(II)V"⟩
abbrev cX10_puts : ByteArray := prog_12_method_32_code
def yX10_puts : MethodName := ⟨RX10, "puts", "()V"⟩
abbrev cX10_remembers : ByteArray := prog_12_method_33_code
def yX10_remembers : MethodName := ⟨RX10, "remembers", "()V"⟩
abbrev cX10_ask : ByteArray := prog_12_method_34_code
def yX10_ask : MethodName := ⟨RX10, "ask", "(II)I"⟩
abbrev cX10_undo : ByteArray := prog_12_method_35_code
def yX10_undo : MethodName := ⟨RX10, "undo", "()I"⟩
abbrev cX10_evening : ByteArray := prog_12_method_36_code
def yX10_evening : MethodName := ⟨RX10, "evening", "()I"⟩
abbrev cX10_power : ByteArray := prog_12_method_37_code
def yX10_power : MethodName := ⟨RX10, "power", "(I)I"⟩
abbrev cX10_codeNow : ByteArray := prog_12_method_38_code
def yX10_codeNow : MethodName := ⟨RX10, "codeNow", "()I"⟩
abbrev cX10_seatIn : ByteArray := prog_12_method_39_code
def yX10_seatIn : MethodName := ⟨RX10, "seatIn", "(II)I"⟩
abbrev cX10_loads : ByteArray := prog_12_method_40_code
def yX10_loads : MethodName := ⟨RX10, "loads", "(I)V"⟩
abbrev cX10_indexOf : ByteArray := prog_12_method_41_code
def yX10_indexOf : MethodName := ⟨RX10, "indexOf", "(I)I"⟩
abbrev cX10_adds : ByteArray := prog_12_method_42_code
def yX10_adds : MethodName := ⟨RX10, "adds", "(III)V"⟩
abbrev cX10_beginsList : ByteArray := prog_12_method_43_code
def yX10_beginsList : MethodName := ⟨RX10, "beginsList", "()V"⟩
abbrev cX10_findAll : ByteArray := prog_12_method_44_code
def yX10_findAll : MethodName := ⟨RX10, "findAll", "()V"⟩
abbrev cX10_comes : ByteArray := prog_12_method_45_code
def yX10_comes : MethodName := ⟨RX10, "comes", "(III)V"⟩
abbrev cX10_needOf : ByteArray := prog_12_method_46_code
def yX10_needOf : MethodName := ⟨RX10, "needOf", "(II)I"⟩
abbrev cX10_need : ByteArray := prog_12_method_47_code
def yX10_need : MethodName := ⟨RX10, "need", "(II)I"⟩
abbrev cX10_first : ByteArray := prog_12_method_48_code
def yX10_first : MethodName := ⟨RX10, "first", "(II)I"⟩
abbrev cX10_never : ByteArray := prog_12_method_49_code
def yX10_never : MethodName := ⟨RX10, "never", "(I)I"⟩
abbrev cX10_stuck : ByteArray := prog_12_method_50_code
def yX10_stuck : MethodName := ⟨RX10, "stuck", "()I"⟩
abbrev cX10_isAtRest : ByteArray := prog_12_method_51_code
def yX10_isAtRest : MethodName := ⟨RX10, "isAtRest", "(I)Z"⟩
abbrev cX10_restOf : ByteArray := prog_12_method_52_code
def yX10_restOf : MethodName := ⟨RX10, "restOf", "()I"⟩
abbrev cX10_rest : ByteArray := prog_12_method_53_code
def yX10_rest : MethodName := ⟨RX10, "rest", "()I"⟩
abbrev cX10_heldBy : ByteArray := prog_12_method_54_code
def yX10_heldBy : MethodName := ⟨RX10, "heldBy", "(I)I"⟩
abbrev cX10_holdsUp : ByteArray := prog_12_method_55_code
def yX10_holdsUp : MethodName := ⟨RX10, "holdsUp", "(I)I"⟩
abbrev cX10_cheapest : ByteArray := prog_12_method_56_code
def yX10_cheapest : MethodName := ⟨RX10, "cheapest", "()I"⟩
abbrev cX10_costs : ByteArray := prog_12_method_57_code
def yX10_costs : MethodName := ⟨RX10, "costs", "(I)V"⟩
abbrev cX10_findPrices : ByteArray := prog_12_method_58_code
def yX10_findPrices : MethodName := ⟨RX10, "findPrices", "()V"⟩
abbrev cX10_price : ByteArray := prog_12_method_59_code
def yX10_price : MethodName := ⟨RX10, "price", "(II)I"⟩
abbrev cX10_areGlad : ByteArray := prog_12_method_60_code
def yX10_areGlad : MethodName := ⟨RX10, "areGlad", "(II)Z"⟩
abbrev cX10_liked : ByteArray := prog_12_method_61_code
def yX10_liked : MethodName := ⟨RX10, "liked", "(I)I"⟩
abbrev cX10_most : ByteArray := prog_12_method_62_code
def yX10_most : MethodName := ⟨RX10, "most", "()I"⟩
abbrev cX10_swapSits : ByteArray := prog_12_method_63_code
def yX10_swapSits : MethodName := ⟨RX10, "swapSits", "(II)V"⟩
abbrev cX10_seats : ByteArray := prog_12_method_64_code
def yX10_seats : MethodName := ⟨RX10, "seats", "()I"⟩
abbrev cX10_waysOn : ByteArray := prog_12_method_65_code
def yX10_waysOn : MethodName := ⟨RX10, "waysOn", "()V"⟩
abbrev cX10_went : ByteArray := prog_12_method_66_code
def yX10_went : MethodName := ⟨RX10, "went", "(I)J"⟩
abbrev cX10_drawn : ByteArray := prog_12_method_67_code
def yX10_drawn : MethodName := ⟨RX10, "drawn", "(III)I"⟩
abbrev cX10_keep : ByteArray := prog_12_method_68_code
def yX10_keep : MethodName := ⟨RX10, "keep", "()I"⟩
abbrev cX10_back : ByteArray := prog_12_method_69_code
def yX10_back : MethodName := ⟨RX10, "back", "()I"⟩
abbrev cX10_count : ByteArray := prog_12_method_70_code
def yX10_count : MethodName := ⟨RX10, "count", "(I)I"⟩
def RJx145de : String := "java/io/Serializable"
def TJx145de : u_T := fun k => match k with
  | _ => ("", "", "", false)
def tyJx145de : Nat → FieldType := fun k => match k with
  | _ => .int
def RJx9f9b0 : String := "java/lang/CharSequence"
def TJx9f9b0 : u_T := fun k => match k with
  | _ => ("", "", "", false)
def tyJx9f9b0 : Nat → FieldType := fun k => match k with
  | _ => .int
def RJxb160c : String := "java/lang/Comparable"
def TJxb160c : u_T := fun k => match k with
  | _ => ("", "", "", false)
def tyJxb160c : Nat → FieldType := fun k => match k with
  | _ => .int
def RJ13 : String := "java/lang/Long"
def TJ13 : u_T := fun k => match k with
  | _ => ("", "", "", false)
def tyJ13 : Nat → FieldType := fun k => match k with
  | _ => .int
theorem nmJ13 : ∀ a, a < 0 → ∀ b, b < 0 → a ≠ b → (TJ13 a).2.1 ≠ (TJ13 b).2.1 := by decide +kernel
theorem tyJ13_ok : ∀ k, k < 0 → parseFieldDescriptor (TJ13 k).2.2.1 = some (tyJ13 k) := by decide +kernel
abbrev cJ13_bitCount_95d88 : ByteArray := prog_13_method_50_code
def yJ13_bitCount_95d88 : MethodName := ⟨RJ13, "bitCount", "(J)I"⟩
def RJ9 : String := "java/lang/Math"
def TJ9 : u_T := fun k => match k with
  | _ => ("", "", "", false)
def tyJ9 : Nat → FieldType := fun k => match k with
  | _ => .int
theorem nmJ9 : ∀ a, a < 0 → ∀ b, b < 0 → a ≠ b → (TJ9 a).2.1 ≠ (TJ9 b).2.1 := by decide +kernel
theorem tyJ9_ok : ∀ k, k < 0 → parseFieldDescriptor (TJ9 k).2.2.1 = some (tyJ9 k) := by decide +kernel
abbrev cJ9_abs_0f7a4 : ByteArray := prog_14_method_59_code
def yJ9_abs_0f7a4 : MethodName := ⟨RJ9, "abs", "(I)I"⟩
abbrev cJ9_max_7cf53 : ByteArray := prog_14_method_65_code
def yJ9_max_7cf53 : MethodName := ⟨RJ9, "max", "(II)I"⟩
abbrev cJ9_min_7cf53 : ByteArray := prog_14_method_69_code
def yJ9_min_7cf53 : MethodName := ⟨RJ9, "min", "(II)I"⟩
def RJ0 : String := "java/lang/String"
def TJ0 : u_T := fun k => match k with
  | _ => ("", "", "", false)
def tyJ0 : Nat → FieldType := fun k => match k with
  | _ => .int
theorem nmJ0 : ∀ a, a < 0 → ∀ b, b < 0 → a ≠ b → (TJ0 a).2.1 ≠ (TJ0 b).2.1 := by decide +kernel
theorem tyJ0_ok : ∀ k, k < 0 → parseFieldDescriptor (TJ0 k).2.2.1 = some (tyJ0 k) := by decide +kernel
abbrev cJ0_length_8abf5 : ByteArray := prog_15_method_54_code
def yJ0_length_8abf5 : MethodName := ⟨RJ0, "length", "()I"⟩
abbrev cJ0_charAt_5068e : ByteArray := prog_15_method_56_code
def yJ0_charAt_5068e : MethodName := ⟨RJ0, "charAt", "(I)C"⟩
abbrev cJ0_coder_7d493 : ByteArray := prog_15_method_152_code
def yJ0_coder_7d493 : MethodName := ⟨RJ0, "coder", "()B"⟩
abbrev cJ0_isLatin1_aae02 : ByteArray := prog_15_method_154_code
def yJ0_isLatin1_aae02 : MethodName := ⟨RJ0, "isLatin1", "()Z"⟩
abbrev cJ0_checkIndex_df160 : ByteArray := prog_15_method_155_code
def yJ0_checkIndex_df160 : MethodName := ⟨RJ0, "checkIndex", "(II)V"⟩
def RJ1 : String := "java/lang/StringLatin1"
def TJ1 : u_T := fun k => match k with
  | _ => ("", "", "", false)
def tyJ1 : Nat → FieldType := fun k => match k with
  | _ => .int
theorem nmJ1 : ∀ a, a < 0 → ∀ b, b < 0 → a ≠ b → (TJ1 a).2.1 ≠ (TJ1 b).2.1 := by decide +kernel
theorem tyJ1_ok : ∀ k, k < 0 → parseFieldDescriptor (TJ1 k).2.2.1 = some (tyJ1 k) := by decide +kernel
abbrev cJ1_charAt_3b067 : ByteArray := prog_16_method_2_code
def yJ1_charAt_3b067 : MethodName := ⟨RJ1, "charAt", "([BI)C"⟩
def RJ2 : String := "java/lang/StringUTF16"
def TJ2 : u_T := fun k => match k with
  | _ => ("", "", "", false)
def tyJ2 : Nat → FieldType := fun k => match k with
  | _ => .int
theorem nmJ2 : ∀ a, a < 0 → ∀ b, b < 0 → a ≠ b → (TJ2 a).2.1 ≠ (TJ2 b).2.1 := by decide +kernel
theorem tyJ2_ok : ∀ k, k < 0 → parseFieldDescriptor (TJ2 k).2.2.1 = some (tyJ2 k) := by decide +kernel
abbrev cJ2_getChar_3b067 : ByteArray := prog_17_method_5_code
def yJ2_getChar_3b067 : MethodName := ⟨RJ2, "getChar", "([BI)C"⟩
abbrev cJ2_length_9d52b : ByteArray := prog_17_method_6_code
def yJ2_length_9d52b : MethodName := ⟨RJ2, "length", "([B)I"⟩
abbrev cJ2_charAt_3b067 : ByteArray := prog_17_method_83_code
def yJ2_charAt_3b067 : MethodName := ⟨RJ2, "charAt", "([BI)C"⟩
abbrev cJ2_checkIndex_2214a : ByteArray := prog_17_method_91_code
def yJ2_checkIndex_2214a : MethodName := ⟨RJ2, "checkIndex", "(I[B)V"⟩
def RJxfd54e : String := "java/lang/constant/Constable"
def TJxfd54e : u_T := fun k => match k with
  | _ => ("", "", "", false)
def tyJxfd54e : Nat → FieldType := fun k => match k with
  | _ => .int
def RJx3cf43 : String := "java/lang/constant/ConstantDesc"
def TJx3cf43 : u_T := fun k => match k with
  | _ => ("", "", "", false)
def tyJx3cf43 : Nat → FieldType := fun k => match k with
  | _ => .int
def RJ7 : String := "java/util/Arrays"
def TJ7 : u_T := fun k => match k with
  | _ => ("", "", "", false)
def tyJ7 : Nat → FieldType := fun k => match k with
  | _ => .int
theorem nmJ7 : ∀ a, a < 0 → ∀ b, b < 0 → a ≠ b → (TJ7 a).2.1 ≠ (TJ7 b).2.1 := by decide +kernel
theorem tyJ7_ok : ∀ k, k < 0 → parseFieldDescriptor (TJ7 k).2.2.1 = some (tyJ7 k) := by decide +kernel
abbrev cJ7_fill_d0a16 : ByteArray := prog_18_method_101_code
def yJ7_fill_d0a16 : MethodName := ⟨RJ7, "fill", "([JJ)V"⟩
abbrev cJ7_fill_53178 : ByteArray := prog_18_method_103_code
def yJ7_fill_53178 : MethodName := ⟨RJ7, "fill", "([II)V"⟩
def RJ3 : String := "jdk/internal/util/Preconditions"
def TJ3 : u_T := fun k => match k with
  | _ => ("", "", "", false)
def tyJ3 : Nat → FieldType := fun k => match k with
  | _ => .int
theorem nmJ3 : ∀ a, a < 0 → ∀ b, b < 0 → a ≠ b → (TJ3 a).2.1 ≠ (TJ3 b).2.1 := by decide +kernel
theorem tyJ3_ok : ∀ k, k < 0 → parseFieldDescriptor (TJ3 k).2.2.1 = some (tyJ3 k) := by decide +kernel
abbrev cJ3_checkIndex_8e157 : ByteArray := prog_19_method_11_code
def yJ3_checkIndex_8e157 : MethodName := ⟨RJ3, "checkIndex", "(IILjava/util/function/BiFunction;)I"⟩
def RL : String := "PassTheSaltLaw"
abbrev cL_law : ByteArray := code
def yL_law : MethodName := ⟨RL, "law", "([I)Z"⟩
abbrev vwCl : List vw_C := [(RX0, TX0, 3), (RX1, TX1, 3), (RX2, TX2, 5), (RX3, TX3, 3), (RX4, TX4, 5), (RX5, TX5, 7), (RX6, TX6, 4), (RX7, TX7, 9), (RX8, TX8, 9), (RX9, TX9, 13), (RX10, TX10, 49)]
end
section
theorem dX0_init_0 : decode cX0_init 0 = .ok (.aload_n 0, 1) := by decide +kernel
theorem dX0_init_1 : decode cX0_init 1 = .ok (.invokespecial 3, 3) := by decide +kernel
theorem dX0_init_4 : decode cX0_init 4 = .ok (.aload_n 0, 1) := by decide +kernel
theorem dX0_init_5 : decode cX0_init 5 = .ok (.sipush 720, 3) := by decide +kernel
theorem dX0_init_8 : decode cX0_init 8 = .ok (.newarray .int, 2) := by decide +kernel
theorem dX0_init_10 : decode cX0_init 10 = .ok (.putfield 9, 3) := by decide +kernel
theorem dX0_init_13 : decode cX0_init 13 = .ok (.aload_n 0, 1) := by decide +kernel
theorem dX0_init_14 : decode cX0_init 14 = .ok (.sipush 2048, 3) := by decide +kernel
theorem dX0_init_17 : decode cX0_init 17 = .ok (.newarray .int, 2) := by decide +kernel
theorem dX0_init_19 : decode cX0_init 19 = .ok (.putfield 15, 3) := by decide +kernel
theorem dX0_init_22 : decode cX0_init 22 = .ok (.return_, 1) := by decide +kernel
theorem dX0_gather_0 : decode cX0_gather 0 = .ok (.aload_n 0, 1) := by decide +kernel
theorem dX0_gather_1 : decode cX0_gather 1 = .ok (.iconst 0, 1) := by decide +kernel
theorem dX0_gather_2 : decode cX0_gather 2 = .ok (.putfield 18, 3) := by decide +kernel
theorem dX0_gather_5 : decode cX0_gather 5 = .ok (.aload_n 0, 1) := by decide +kernel
theorem dX0_gather_6 : decode cX0_gather 6 = .ok (.getfield 15, 3) := by decide +kernel
theorem dX0_gather_9 : decode cX0_gather 9 = .ok (.sipush 1023, 3) := by decide +kernel
theorem dX0_gather_12 : decode cX0_gather 12 = .ok (.invokestatic 22, 3) := by decide +kernel
theorem dX0_gather_15 : decode cX0_gather 15 = .ok (.aload_n 0, 1) := by decide +kernel
theorem dX0_gather_16 : decode cX0_gather 16 = .ok (.iload_n 1, 1) := by decide +kernel
theorem dX0_gather_17 : decode cX0_gather 17 = .ok (.invokevirtual 28, 3) := by decide +kernel
theorem dX0_gather_20 : decode cX0_gather 20 = .ok (.iconst 0, 1) := by decide +kernel
theorem dX0_gather_21 : decode cX0_gather 21 = .ok (.istore_n 3, 1) := by decide +kernel
theorem dX0_gather_22 : decode cX0_gather 22 = .ok (.iload_n 3, 1) := by decide +kernel
theorem dX0_gather_23 : decode cX0_gather 23 = .ok (.sipush 720, 3) := by decide +kernel
theorem dX0_gather_26 : decode cX0_gather 26 = .ok (.if_icmp .ge 69, 3) := by decide +kernel
theorem dX0_gather_29 : decode cX0_gather 29 = .ok (.iload_n 3, 1) := by decide +kernel
theorem dX0_gather_30 : decode cX0_gather 30 = .ok (.aload_n 0, 1) := by decide +kernel
theorem dX0_gather_31 : decode cX0_gather 31 = .ok (.getfield 18, 3) := by decide +kernel
theorem dX0_gather_34 : decode cX0_gather 34 = .ok (.if_icmp .ge 61, 3) := by decide +kernel
theorem dX0_gather_37 : decode cX0_gather 37 = .ok (.iconst 0, 1) := by decide +kernel
theorem dX0_gather_38 : decode cX0_gather 38 = .ok (.istore 4, 2) := by decide +kernel
theorem dX0_gather_40 : decode cX0_gather 40 = .ok (.iload 4, 2) := by decide +kernel
theorem dX0_gather_42 : decode cX0_gather 42 = .ok (.iload_n 2, 1) := by decide +kernel
theorem dX0_gather_43 : decode cX0_gather 43 = .ok (.if_icmp .ge 46, 3) := by decide +kernel
theorem dX0_gather_46 : decode cX0_gather 46 = .ok (.iload 4, 2) := by decide +kernel
theorem dX0_gather_48 : decode cX0_gather 48 = .ok (.iconst 1, 1) := by decide +kernel
theorem dX0_gather_49 : decode cX0_gather 49 = .ok (.iadd, 1) := by decide +kernel
theorem dX0_gather_50 : decode cX0_gather 50 = .ok (.istore 5, 2) := by decide +kernel
theorem dX0_gather_52 : decode cX0_gather 52 = .ok (.iload 5, 2) := by decide +kernel
theorem dX0_gather_54 : decode cX0_gather 54 = .ok (.iload_n 2, 1) := by decide +kernel
theorem dX0_gather_55 : decode cX0_gather 55 = .ok (.if_icmp .ge 28, 3) := by decide +kernel
theorem dX0_gather_58 : decode cX0_gather 58 = .ok (.aload_n 0, 1) := by decide +kernel
theorem dX0_gather_59 : decode cX0_gather 59 = .ok (.aload_n 0, 1) := by decide +kernel
theorem dX0_gather_60 : decode cX0_gather 60 = .ok (.getfield 9, 3) := by decide +kernel
theorem dX0_gather_63 : decode cX0_gather 63 = .ok (.iload_n 3, 1) := by decide +kernel
theorem dX0_gather_64 : decode cX0_gather 64 = .ok (.invokestatic 32, 3) := by decide +kernel
theorem dX0_gather_67 : decode cX0_gather 67 = .ok (.iload 4, 2) := by decide +kernel
theorem dX0_gather_69 : decode cX0_gather 69 = .ok (.iload 5, 2) := by decide +kernel
theorem dX0_gather_71 : decode cX0_gather 71 = .ok (.invokestatic 36, 3) := by decide +kernel
theorem dX0_gather_74 : decode cX0_gather 74 = .ok (.invokevirtual 28, 3) := by decide +kernel
theorem dX0_gather_77 : decode cX0_gather 77 = .ok (.iinc 5 1, 3) := by decide +kernel
theorem dX0_gather_80 : decode cX0_gather 80 = .ok (.goto (-28), 3) := by decide +kernel
theorem dX0_gather_83 : decode cX0_gather 83 = .ok (.iinc 4 1, 3) := by decide +kernel
theorem dX0_gather_86 : decode cX0_gather 86 = .ok (.goto (-46), 3) := by decide +kernel
theorem dX0_gather_89 : decode cX0_gather 89 = .ok (.iinc 3 1, 3) := by decide +kernel
theorem dX0_gather_92 : decode cX0_gather 92 = .ok (.goto (-70), 3) := by decide +kernel
theorem dX0_gather_95 : decode cX0_gather 95 = .ok (.return_, 1) := by decide +kernel
theorem dX0_add_0 : decode cX0_add 0 = .ok (.aload_n 0, 1) := by decide +kernel
theorem dX0_add_1 : decode cX0_add 1 = .ok (.iload_n 1, 1) := by decide +kernel
theorem dX0_add_2 : decode cX0_add 2 = .ok (.invokevirtual 40, 3) := by decide +kernel
theorem dX0_add_5 : decode cX0_add 5 = .ok (.istore_n 2, 1) := by decide +kernel
theorem dX0_add_6 : decode cX0_add 6 = .ok (.aload_n 0, 1) := by decide +kernel
theorem dX0_add_7 : decode cX0_add 7 = .ok (.getfield 15, 3) := by decide +kernel
theorem dX0_add_10 : decode cX0_add 10 = .ok (.iload_n 2, 1) := by decide +kernel
theorem dX0_add_11 : decode cX0_add 11 = .ok (.invokestatic 32, 3) := by decide +kernel
theorem dX0_add_14 : decode cX0_add 14 = .ok (.sipush 1023, 3) := by decide +kernel
theorem dX0_add_17 : decode cX0_add 17 = .ok (.if_icmp .ne 47, 3) := by decide +kernel
theorem dX0_add_20 : decode cX0_add 20 = .ok (.aload_n 0, 1) := by decide +kernel
theorem dX0_add_21 : decode cX0_add 21 = .ok (.getfield 18, 3) := by decide +kernel
theorem dX0_add_24 : decode cX0_add 24 = .ok (.sipush 720, 3) := by decide +kernel
theorem dX0_add_27 : decode cX0_add 27 = .ok (.if_icmp .ge 37, 3) := by decide +kernel
theorem dX0_add_30 : decode cX0_add 30 = .ok (.aload_n 0, 1) := by decide +kernel
theorem dX0_add_31 : decode cX0_add 31 = .ok (.getfield 15, 3) := by decide +kernel
theorem dX0_add_34 : decode cX0_add 34 = .ok (.iload_n 2, 1) := by decide +kernel
theorem dX0_add_35 : decode cX0_add 35 = .ok (.aload_n 0, 1) := by decide +kernel
theorem dX0_add_36 : decode cX0_add 36 = .ok (.getfield 18, 3) := by decide +kernel
theorem dX0_add_39 : decode cX0_add 39 = .ok (.invokestatic 44, 3) := by decide +kernel
theorem dX0_add_42 : decode cX0_add 42 = .ok (.aload_n 0, 1) := by decide +kernel
theorem dX0_add_43 : decode cX0_add 43 = .ok (.getfield 9, 3) := by decide +kernel
theorem dX0_add_46 : decode cX0_add 46 = .ok (.aload_n 0, 1) := by decide +kernel
theorem dX0_add_47 : decode cX0_add 47 = .ok (.getfield 18, 3) := by decide +kernel
theorem dX0_add_50 : decode cX0_add 50 = .ok (.iload_n 1, 1) := by decide +kernel
theorem dX0_add_51 : decode cX0_add 51 = .ok (.invokestatic 44, 3) := by decide +kernel
theorem dX0_add_54 : decode cX0_add 54 = .ok (.aload_n 0, 1) := by decide +kernel
theorem dX0_add_55 : decode cX0_add 55 = .ok (.dup, 1) := by decide +kernel
theorem dX0_add_56 : decode cX0_add 56 = .ok (.getfield 18, 3) := by decide +kernel
theorem dX0_add_59 : decode cX0_add 59 = .ok (.iconst 1, 1) := by decide +kernel
theorem dX0_add_60 : decode cX0_add 60 = .ok (.iadd, 1) := by decide +kernel
theorem dX0_add_61 : decode cX0_add 61 = .ok (.putfield 18, 3) := by decide +kernel
theorem dX0_add_64 : decode cX0_add 64 = .ok (.return_, 1) := by decide +kernel
theorem dX0_slotOf_0 : decode cX0_slotOf 0 = .ok (.iload_n 1, 1) := by decide +kernel
theorem dX0_slotOf_1 : decode cX0_slotOf 1 = .ok (.ldc 48, 2) := by decide +kernel
theorem dX0_slotOf_3 : decode cX0_slotOf 3 = .ok (.imul, 1) := by decide +kernel
theorem dX0_slotOf_4 : decode cX0_slotOf 4 = .ok (.bipush 21, 2) := by decide +kernel
theorem dX0_slotOf_6 : decode cX0_slotOf 6 = .ok (.iushr, 1) := by decide +kernel
theorem dX0_slotOf_7 : decode cX0_slotOf 7 = .ok (.istore_n 2, 1) := by decide +kernel
theorem dX0_slotOf_8 : decode cX0_slotOf 8 = .ok (.iconst 0, 1) := by decide +kernel
theorem dX0_slotOf_9 : decode cX0_slotOf 9 = .ok (.istore_n 3, 1) := by decide +kernel
theorem dX0_slotOf_10 : decode cX0_slotOf 10 = .ok (.iload_n 3, 1) := by decide +kernel
theorem dX0_slotOf_11 : decode cX0_slotOf 11 = .ok (.sipush 2048, 3) := by decide +kernel
theorem dX0_slotOf_14 : decode cX0_slotOf 14 = .ok (.if_icmp .ge 50, 3) := by decide +kernel
theorem dX0_slotOf_17 : decode cX0_slotOf 17 = .ok (.aload_n 0, 1) := by decide +kernel
theorem dX0_slotOf_18 : decode cX0_slotOf 18 = .ok (.getfield 15, 3) := by decide +kernel
theorem dX0_slotOf_21 : decode cX0_slotOf 21 = .ok (.iload_n 2, 1) := by decide +kernel
theorem dX0_slotOf_22 : decode cX0_slotOf 22 = .ok (.invokestatic 32, 3) := by decide +kernel
theorem dX0_slotOf_25 : decode cX0_slotOf 25 = .ok (.istore 4, 2) := by decide +kernel
theorem dX0_slotOf_27 : decode cX0_slotOf 27 = .ok (.iload 4, 2) := by decide +kernel
theorem dX0_slotOf_29 : decode cX0_slotOf 29 = .ok (.sipush 1023, 3) := by decide +kernel
theorem dX0_slotOf_32 : decode cX0_slotOf 32 = .ok (.if_icmp .eq 16, 3) := by decide +kernel
theorem dX0_slotOf_35 : decode cX0_slotOf 35 = .ok (.aload_n 0, 1) := by decide +kernel
theorem dX0_slotOf_36 : decode cX0_slotOf 36 = .ok (.getfield 9, 3) := by decide +kernel
theorem dX0_slotOf_39 : decode cX0_slotOf 39 = .ok (.iload 4, 2) := by decide +kernel
theorem dX0_slotOf_41 : decode cX0_slotOf 41 = .ok (.invokestatic 32, 3) := by decide +kernel
theorem dX0_slotOf_44 : decode cX0_slotOf 44 = .ok (.iload_n 1, 1) := by decide +kernel
theorem dX0_slotOf_45 : decode cX0_slotOf 45 = .ok (.if_icmp .ne 5, 3) := by decide +kernel
theorem dX0_slotOf_48 : decode cX0_slotOf 48 = .ok (.iload_n 2, 1) := by decide +kernel
theorem dX0_slotOf_49 : decode cX0_slotOf 49 = .ok (.ireturn, 1) := by decide +kernel
theorem dX0_slotOf_50 : decode cX0_slotOf 50 = .ok (.iload_n 2, 1) := by decide +kernel
theorem dX0_slotOf_51 : decode cX0_slotOf 51 = .ok (.iconst 1, 1) := by decide +kernel
theorem dX0_slotOf_52 : decode cX0_slotOf 52 = .ok (.iadd, 1) := by decide +kernel
theorem dX0_slotOf_53 : decode cX0_slotOf 53 = .ok (.sipush 2047, 3) := by decide +kernel
theorem dX0_slotOf_56 : decode cX0_slotOf 56 = .ok (.iand, 1) := by decide +kernel
theorem dX0_slotOf_57 : decode cX0_slotOf 57 = .ok (.istore_n 2, 1) := by decide +kernel
theorem dX0_slotOf_58 : decode cX0_slotOf 58 = .ok (.iinc 3 1, 3) := by decide +kernel
theorem dX0_slotOf_61 : decode cX0_slotOf 61 = .ok (.goto (-51), 3) := by decide +kernel
theorem dX0_slotOf_64 : decode cX0_slotOf 64 = .ok (.iload_n 2, 1) := by decide +kernel
theorem dX0_slotOf_65 : decode cX0_slotOf 65 = .ok (.ireturn, 1) := by decide +kernel
theorem dX0_numberOf_0 : decode cX0_numberOf 0 = .ok (.aload_n 0, 1) := by decide +kernel
theorem dX0_numberOf_1 : decode cX0_numberOf 1 = .ok (.getfield 15, 3) := by decide +kernel
theorem dX0_numberOf_4 : decode cX0_numberOf 4 = .ok (.aload_n 0, 1) := by decide +kernel
theorem dX0_numberOf_5 : decode cX0_numberOf 5 = .ok (.iload_n 1, 1) := by decide +kernel
theorem dX0_numberOf_6 : decode cX0_numberOf 6 = .ok (.invokevirtual 40, 3) := by decide +kernel
theorem dX0_numberOf_9 : decode cX0_numberOf 9 = .ok (.invokestatic 32, 3) := by decide +kernel
theorem dX0_numberOf_12 : decode cX0_numberOf 12 = .ok (.ireturn, 1) := by decide +kernel
theorem dX0_lieOf_0 : decode cX0_lieOf 0 = .ok (.aload_n 0, 1) := by decide +kernel
theorem dX0_lieOf_1 : decode cX0_lieOf 1 = .ok (.getfield 9, 3) := by decide +kernel
theorem dX0_lieOf_4 : decode cX0_lieOf 4 = .ok (.iload_n 1, 1) := by decide +kernel
theorem dX0_lieOf_5 : decode cX0_lieOf 5 = .ok (.invokestatic 32, 3) := by decide +kernel
theorem dX0_lieOf_8 : decode cX0_lieOf 8 = .ok (.ireturn, 1) := by decide +kernel
theorem dX1_init_0 : decode cX1_init 0 = .ok (.aload_n 0, 1) := by decide +kernel
theorem dX1_init_1 : decode cX1_init 1 = .ok (.invokespecial 1, 3) := by decide +kernel
theorem dX1_init_4 : decode cX1_init 4 = .ok (.return_, 1) := by decide +kernel
theorem dX2_init_0 : decode cX2_init 0 = .ok (.aload_n 0, 1) := by decide +kernel
theorem dX2_init_1 : decode cX2_init 1 = .ok (.invokespecial 3, 3) := by decide +kernel
theorem dX2_init_4 : decode cX2_init 4 = .ok (.aload_n 0, 1) := by decide +kernel
theorem dX2_init_5 : decode cX2_init 5 = .ok (.bipush 8, 2) := by decide +kernel
theorem dX2_init_7 : decode cX2_init 7 = .ok (.newarray .int, 2) := by decide +kernel
theorem dX2_init_9 : decode cX2_init 9 = .ok (.putfield 9, 3) := by decide +kernel
theorem dX2_init_12 : decode cX2_init 12 = .ok (.aload_n 0, 1) := by decide +kernel
theorem dX2_init_13 : decode cX2_init 13 = .ok (.bipush 8, 2) := by decide +kernel
theorem dX2_init_15 : decode cX2_init 15 = .ok (.newarray .long, 2) := by decide +kernel
theorem dX2_init_17 : decode cX2_init 17 = .ok (.putfield 15, 3) := by decide +kernel
theorem dX2_init_20 : decode cX2_init 20 = .ok (.aload_n 0, 1) := by decide +kernel
theorem dX2_init_21 : decode cX2_init 21 = .ok (.bipush 8, 2) := by decide +kernel
theorem dX2_init_23 : decode cX2_init 23 = .ok (.newarray .int, 2) := by decide +kernel
theorem dX2_init_25 : decode cX2_init 25 = .ok (.putfield 19, 3) := by decide +kernel
theorem dX2_init_28 : decode cX2_init 28 = .ok (.aload_n 0, 1) := by decide +kernel
theorem dX2_init_29 : decode cX2_init 29 = .ok (.iload_n 1, 1) := by decide +kernel
theorem dX2_init_30 : decode cX2_init 30 = .ok (.bipush 8, 2) := by decide +kernel
theorem dX2_init_32 : decode cX2_init 32 = .ok (.invokestatic 22, 3) := by decide +kernel
theorem dX2_init_35 : decode cX2_init 35 = .ok (.putfield 28, 3) := by decide +kernel
theorem dX2_init_38 : decode cX2_init 38 = .ok (.return_, 1) := by decide +kernel
theorem dX2_addLast_0 : decode cX2_addLast 0 = .ok (.aload_n 0, 1) := by decide +kernel
theorem dX2_addLast_1 : decode cX2_addLast 1 = .ok (.getfield 32, 3) := by decide +kernel
theorem dX2_addLast_4 : decode cX2_addLast 4 = .ok (.aload_n 0, 1) := by decide +kernel
theorem dX2_addLast_5 : decode cX2_addLast 5 = .ok (.getfield 28, 3) := by decide +kernel
theorem dX2_addLast_8 : decode cX2_addLast 8 = .ok (.if_icmp .lt 7, 3) := by decide +kernel
theorem dX2_addLast_11 : decode cX2_addLast 11 = .ok (.aload_n 0, 1) := by decide +kernel
theorem dX2_addLast_12 : decode cX2_addLast 12 = .ok (.invokevirtual 35, 3) := by decide +kernel
theorem dX2_addLast_15 : decode cX2_addLast 15 = .ok (.aload_n 0, 1) := by decide +kernel
theorem dX2_addLast_16 : decode cX2_addLast 16 = .ok (.getfield 32, 3) := by decide +kernel
theorem dX2_addLast_19 : decode cX2_addLast 19 = .ok (.ifCond .lt 61, 3) := by decide +kernel
theorem dX2_addLast_22 : decode cX2_addLast 22 = .ok (.aload_n 0, 1) := by decide +kernel
theorem dX2_addLast_23 : decode cX2_addLast 23 = .ok (.getfield 32, 3) := by decide +kernel
theorem dX2_addLast_26 : decode cX2_addLast 26 = .ok (.bipush 8, 2) := by decide +kernel
theorem dX2_addLast_28 : decode cX2_addLast 28 = .ok (.if_icmp .ge 52, 3) := by decide +kernel
theorem dX2_addLast_31 : decode cX2_addLast 31 = .ok (.aload_n 0, 1) := by decide +kernel
theorem dX2_addLast_32 : decode cX2_addLast 32 = .ok (.getfield 9, 3) := by decide +kernel
theorem dX2_addLast_35 : decode cX2_addLast 35 = .ok (.aload_n 0, 1) := by decide +kernel
theorem dX2_addLast_36 : decode cX2_addLast 36 = .ok (.getfield 32, 3) := by decide +kernel
theorem dX2_addLast_39 : decode cX2_addLast 39 = .ok (.aload_n 1, 1) := by decide +kernel
theorem dX2_addLast_40 : decode cX2_addLast 40 = .ok (.getfield 38, 3) := by decide +kernel
theorem dX2_addLast_43 : decode cX2_addLast 43 = .ok (.iastore, 1) := by decide +kernel
theorem dX2_addLast_44 : decode cX2_addLast 44 = .ok (.aload_n 0, 1) := by decide +kernel
theorem dX2_addLast_45 : decode cX2_addLast 45 = .ok (.getfield 15, 3) := by decide +kernel
theorem dX2_addLast_48 : decode cX2_addLast 48 = .ok (.aload_n 0, 1) := by decide +kernel
theorem dX2_addLast_49 : decode cX2_addLast 49 = .ok (.getfield 32, 3) := by decide +kernel
theorem dX2_addLast_52 : decode cX2_addLast 52 = .ok (.aload_n 1, 1) := by decide +kernel
theorem dX2_addLast_53 : decode cX2_addLast 53 = .ok (.getfield 43, 3) := by decide +kernel
theorem dX2_addLast_56 : decode cX2_addLast 56 = .ok (.lastore, 1) := by decide +kernel
theorem dX2_addLast_57 : decode cX2_addLast 57 = .ok (.aload_n 0, 1) := by decide +kernel
theorem dX2_addLast_58 : decode cX2_addLast 58 = .ok (.getfield 19, 3) := by decide +kernel
theorem dX2_addLast_61 : decode cX2_addLast 61 = .ok (.aload_n 0, 1) := by decide +kernel
theorem dX2_addLast_62 : decode cX2_addLast 62 = .ok (.getfield 32, 3) := by decide +kernel
theorem dX2_addLast_65 : decode cX2_addLast 65 = .ok (.aload_n 1, 1) := by decide +kernel
theorem dX2_addLast_66 : decode cX2_addLast 66 = .ok (.getfield 47, 3) := by decide +kernel
theorem dX2_addLast_69 : decode cX2_addLast 69 = .ok (.iastore, 1) := by decide +kernel
theorem dX2_addLast_70 : decode cX2_addLast 70 = .ok (.aload_n 0, 1) := by decide +kernel
theorem dX2_addLast_71 : decode cX2_addLast 71 = .ok (.dup, 1) := by decide +kernel
theorem dX2_addLast_72 : decode cX2_addLast 72 = .ok (.getfield 32, 3) := by decide +kernel
theorem dX2_addLast_75 : decode cX2_addLast 75 = .ok (.iconst 1, 1) := by decide +kernel
theorem dX2_addLast_76 : decode cX2_addLast 76 = .ok (.iadd, 1) := by decide +kernel
theorem dX2_addLast_77 : decode cX2_addLast 77 = .ok (.putfield 32, 3) := by decide +kernel
theorem dX2_addLast_80 : decode cX2_addLast 80 = .ok (.return_, 1) := by decide +kernel
theorem dX2_dropOldest_0 : decode cX2_dropOldest 0 = .ok (.iconst 1, 1) := by decide +kernel
theorem dX2_dropOldest_1 : decode cX2_dropOldest 1 = .ok (.istore_n 1, 1) := by decide +kernel
theorem dX2_dropOldest_2 : decode cX2_dropOldest 2 = .ok (.iload_n 1, 1) := by decide +kernel
theorem dX2_dropOldest_3 : decode cX2_dropOldest 3 = .ok (.aload_n 0, 1) := by decide +kernel
theorem dX2_dropOldest_4 : decode cX2_dropOldest 4 = .ok (.getfield 32, 3) := by decide +kernel
theorem dX2_dropOldest_7 : decode cX2_dropOldest 7 = .ok (.if_icmp .ge 57, 3) := by decide +kernel
theorem dX2_dropOldest_10 : decode cX2_dropOldest 10 = .ok (.iload_n 1, 1) := by decide +kernel
theorem dX2_dropOldest_11 : decode cX2_dropOldest 11 = .ok (.bipush 8, 2) := by decide +kernel
theorem dX2_dropOldest_13 : decode cX2_dropOldest 13 = .ok (.if_icmp .ge 51, 3) := by decide +kernel
theorem dX2_dropOldest_16 : decode cX2_dropOldest 16 = .ok (.aload_n 0, 1) := by decide +kernel
theorem dX2_dropOldest_17 : decode cX2_dropOldest 17 = .ok (.getfield 9, 3) := by decide +kernel
theorem dX2_dropOldest_20 : decode cX2_dropOldest 20 = .ok (.iload_n 1, 1) := by decide +kernel
theorem dX2_dropOldest_21 : decode cX2_dropOldest 21 = .ok (.iconst 1, 1) := by decide +kernel
theorem dX2_dropOldest_22 : decode cX2_dropOldest 22 = .ok (.isub, 1) := by decide +kernel
theorem dX2_dropOldest_23 : decode cX2_dropOldest 23 = .ok (.aload_n 0, 1) := by decide +kernel
theorem dX2_dropOldest_24 : decode cX2_dropOldest 24 = .ok (.getfield 9, 3) := by decide +kernel
theorem dX2_dropOldest_27 : decode cX2_dropOldest 27 = .ok (.iload_n 1, 1) := by decide +kernel
theorem dX2_dropOldest_28 : decode cX2_dropOldest 28 = .ok (.iaload, 1) := by decide +kernel
theorem dX2_dropOldest_29 : decode cX2_dropOldest 29 = .ok (.iastore, 1) := by decide +kernel
theorem dX2_dropOldest_30 : decode cX2_dropOldest 30 = .ok (.aload_n 0, 1) := by decide +kernel
theorem dX2_dropOldest_31 : decode cX2_dropOldest 31 = .ok (.getfield 15, 3) := by decide +kernel
theorem dX2_dropOldest_34 : decode cX2_dropOldest 34 = .ok (.iload_n 1, 1) := by decide +kernel
theorem dX2_dropOldest_35 : decode cX2_dropOldest 35 = .ok (.iconst 1, 1) := by decide +kernel
theorem dX2_dropOldest_36 : decode cX2_dropOldest 36 = .ok (.isub, 1) := by decide +kernel
theorem dX2_dropOldest_37 : decode cX2_dropOldest 37 = .ok (.aload_n 0, 1) := by decide +kernel
theorem dX2_dropOldest_38 : decode cX2_dropOldest 38 = .ok (.getfield 15, 3) := by decide +kernel
theorem dX2_dropOldest_41 : decode cX2_dropOldest 41 = .ok (.iload_n 1, 1) := by decide +kernel
theorem dX2_dropOldest_42 : decode cX2_dropOldest 42 = .ok (.laload, 1) := by decide +kernel
theorem dX2_dropOldest_43 : decode cX2_dropOldest 43 = .ok (.lastore, 1) := by decide +kernel
theorem dX2_dropOldest_44 : decode cX2_dropOldest 44 = .ok (.aload_n 0, 1) := by decide +kernel
theorem dX2_dropOldest_45 : decode cX2_dropOldest 45 = .ok (.getfield 19, 3) := by decide +kernel
theorem dX2_dropOldest_48 : decode cX2_dropOldest 48 = .ok (.iload_n 1, 1) := by decide +kernel
theorem dX2_dropOldest_49 : decode cX2_dropOldest 49 = .ok (.iconst 1, 1) := by decide +kernel
theorem dX2_dropOldest_50 : decode cX2_dropOldest 50 = .ok (.isub, 1) := by decide +kernel
theorem dX2_dropOldest_51 : decode cX2_dropOldest 51 = .ok (.aload_n 0, 1) := by decide +kernel
theorem dX2_dropOldest_52 : decode cX2_dropOldest 52 = .ok (.getfield 19, 3) := by decide +kernel
theorem dX2_dropOldest_55 : decode cX2_dropOldest 55 = .ok (.iload_n 1, 1) := by decide +kernel
theorem dX2_dropOldest_56 : decode cX2_dropOldest 56 = .ok (.iaload, 1) := by decide +kernel
theorem dX2_dropOldest_57 : decode cX2_dropOldest 57 = .ok (.iastore, 1) := by decide +kernel
theorem dX2_dropOldest_58 : decode cX2_dropOldest 58 = .ok (.iinc 1 1, 3) := by decide +kernel
theorem dX2_dropOldest_61 : decode cX2_dropOldest 61 = .ok (.goto (-59), 3) := by decide +kernel
theorem dX2_dropOldest_64 : decode cX2_dropOldest 64 = .ok (.aload_n 0, 1) := by decide +kernel
theorem dX2_dropOldest_65 : decode cX2_dropOldest 65 = .ok (.iconst 0, 1) := by decide +kernel
theorem dX2_dropOldest_66 : decode cX2_dropOldest 66 = .ok (.aload_n 0, 1) := by decide +kernel
theorem dX2_dropOldest_67 : decode cX2_dropOldest 67 = .ok (.getfield 32, 3) := by decide +kernel
theorem dX2_dropOldest_70 : decode cX2_dropOldest 70 = .ok (.iconst 1, 1) := by decide +kernel
theorem dX2_dropOldest_71 : decode cX2_dropOldest 71 = .ok (.isub, 1) := by decide +kernel
theorem dX2_dropOldest_72 : decode cX2_dropOldest 72 = .ok (.invokestatic 50, 3) := by decide +kernel
theorem dX2_dropOldest_75 : decode cX2_dropOldest 75 = .ok (.putfield 32, 3) := by decide +kernel
theorem dX2_dropOldest_78 : decode cX2_dropOldest 78 = .ok (.return_, 1) := by decide +kernel
theorem dX2_takeLast_0 : decode cX2_takeLast 0 = .ok (.aload_n 0, 1) := by decide +kernel
theorem dX2_takeLast_1 : decode cX2_takeLast 1 = .ok (.getfield 32, 3) := by decide +kernel
theorem dX2_takeLast_4 : decode cX2_takeLast 4 = .ok (.ifCond .le 61, 3) := by decide +kernel
theorem dX2_takeLast_7 : decode cX2_takeLast 7 = .ok (.aload_n 0, 1) := by decide +kernel
theorem dX2_takeLast_8 : decode cX2_takeLast 8 = .ok (.getfield 32, 3) := by decide +kernel
theorem dX2_takeLast_11 : decode cX2_takeLast 11 = .ok (.bipush 8, 2) := by decide +kernel
theorem dX2_takeLast_13 : decode cX2_takeLast 13 = .ok (.if_icmp .gt 52, 3) := by decide +kernel
theorem dX2_takeLast_16 : decode cX2_takeLast 16 = .ok (.aload_n 0, 1) := by decide +kernel
theorem dX2_takeLast_17 : decode cX2_takeLast 17 = .ok (.dup, 1) := by decide +kernel
theorem dX2_takeLast_18 : decode cX2_takeLast 18 = .ok (.getfield 32, 3) := by decide +kernel
theorem dX2_takeLast_21 : decode cX2_takeLast 21 = .ok (.iconst 1, 1) := by decide +kernel
theorem dX2_takeLast_22 : decode cX2_takeLast 22 = .ok (.isub, 1) := by decide +kernel
theorem dX2_takeLast_23 : decode cX2_takeLast 23 = .ok (.putfield 32, 3) := by decide +kernel
theorem dX2_takeLast_26 : decode cX2_takeLast 26 = .ok (.aload_n 1, 1) := by decide +kernel
theorem dX2_takeLast_27 : decode cX2_takeLast 27 = .ok (.aload_n 0, 1) := by decide +kernel
theorem dX2_takeLast_28 : decode cX2_takeLast 28 = .ok (.getfield 9, 3) := by decide +kernel
theorem dX2_takeLast_31 : decode cX2_takeLast 31 = .ok (.aload_n 0, 1) := by decide +kernel
theorem dX2_takeLast_32 : decode cX2_takeLast 32 = .ok (.getfield 32, 3) := by decide +kernel
theorem dX2_takeLast_35 : decode cX2_takeLast 35 = .ok (.iaload, 1) := by decide +kernel
theorem dX2_takeLast_36 : decode cX2_takeLast 36 = .ok (.putfield 38, 3) := by decide +kernel
theorem dX2_takeLast_39 : decode cX2_takeLast 39 = .ok (.aload_n 1, 1) := by decide +kernel
theorem dX2_takeLast_40 : decode cX2_takeLast 40 = .ok (.aload_n 0, 1) := by decide +kernel
theorem dX2_takeLast_41 : decode cX2_takeLast 41 = .ok (.getfield 15, 3) := by decide +kernel
theorem dX2_takeLast_44 : decode cX2_takeLast 44 = .ok (.aload_n 0, 1) := by decide +kernel
theorem dX2_takeLast_45 : decode cX2_takeLast 45 = .ok (.getfield 32, 3) := by decide +kernel
theorem dX2_takeLast_48 : decode cX2_takeLast 48 = .ok (.laload, 1) := by decide +kernel
theorem dX2_takeLast_49 : decode cX2_takeLast 49 = .ok (.putfield 43, 3) := by decide +kernel
theorem dX2_takeLast_52 : decode cX2_takeLast 52 = .ok (.aload_n 1, 1) := by decide +kernel
theorem dX2_takeLast_53 : decode cX2_takeLast 53 = .ok (.aload_n 0, 1) := by decide +kernel
theorem dX2_takeLast_54 : decode cX2_takeLast 54 = .ok (.getfield 19, 3) := by decide +kernel
theorem dX2_takeLast_57 : decode cX2_takeLast 57 = .ok (.aload_n 0, 1) := by decide +kernel
theorem dX2_takeLast_58 : decode cX2_takeLast 58 = .ok (.getfield 32, 3) := by decide +kernel
theorem dX2_takeLast_61 : decode cX2_takeLast 61 = .ok (.iaload, 1) := by decide +kernel
theorem dX2_takeLast_62 : decode cX2_takeLast 62 = .ok (.putfield 47, 3) := by decide +kernel
theorem dX2_takeLast_65 : decode cX2_takeLast 65 = .ok (.return_, 1) := by decide +kernel
theorem dX3_init_0 : decode cX3_init 0 = .ok (.aload_n 0, 1) := by decide +kernel
theorem dX3_init_1 : decode cX3_init 1 = .ok (.invokespecial 3, 3) := by decide +kernel
theorem dX3_init_4 : decode cX3_init 4 = .ok (.aload_n 0, 1) := by decide +kernel
theorem dX3_init_5 : decode cX3_init 5 = .ok (.aload_n 1, 1) := by decide +kernel
theorem dX3_init_6 : decode cX3_init 6 = .ok (.putfield 9, 3) := by decide +kernel
theorem dX3_init_9 : decode cX3_init 9 = .ok (.aload_n 0, 1) := by decide +kernel
theorem dX3_init_10 : decode cX3_init 10 = .ok (.aload_n 2, 1) := by decide +kernel
theorem dX3_init_11 : decode cX3_init 11 = .ok (.putfield 15, 3) := by decide +kernel
theorem dX3_init_14 : decode cX3_init 14 = .ok (.aload_n 0, 1) := by decide +kernel
theorem dX3_init_15 : decode cX3_init 15 = .ok (.iconst 0, 1) := by decide +kernel
theorem dX3_init_16 : decode cX3_init 16 = .ok (.iload_n 3, 1) := by decide +kernel
theorem dX3_init_17 : decode cX3_init 17 = .ok (.invokestatic 19, 3) := by decide +kernel
theorem dX3_init_20 : decode cX3_init 20 = .ok (.newarray .long, 2) := by decide +kernel
theorem dX3_init_22 : decode cX3_init 22 = .ok (.putfield 25, 3) := by decide +kernel
theorem dX3_init_25 : decode cX3_init 25 = .ok (.return_, 1) := by decide +kernel
theorem dX3_forget_0 : decode cX3_forget 0 = .ok (.aload_n 0, 1) := by decide +kernel
theorem dX3_forget_1 : decode cX3_forget 1 = .ok (.getfield 25, 3) := by decide +kernel
theorem dX3_forget_4 : decode cX3_forget 4 = .ok (.ldc2_w 29, 3) := by decide +kernel
theorem dX3_forget_7 : decode cX3_forget 7 = .ok (.invokestatic 31, 3) := by decide +kernel
theorem dX3_forget_10 : decode cX3_forget 10 = .ok (.return_, 1) := by decide +kernel
theorem dX3_rowOf_0 : decode cX3_rowOf 0 = .ok (.iload_n 1, 1) := by decide +kernel
theorem dX3_rowOf_1 : decode cX3_rowOf 1 = .ok (.bipush 6, 2) := by decide +kernel
theorem dX3_rowOf_3 : decode cX3_rowOf 3 = .ok (.imul, 1) := by decide +kernel
theorem dX3_rowOf_4 : decode cX3_rowOf 4 = .ok (.iload_n 2, 1) := by decide +kernel
theorem dX3_rowOf_5 : decode cX3_rowOf 5 = .ok (.iadd, 1) := by decide +kernel
theorem dX3_rowOf_6 : decode cX3_rowOf 6 = .ok (.istore_n 3, 1) := by decide +kernel
theorem dX3_rowOf_7 : decode cX3_rowOf 7 = .ok (.iload_n 3, 1) := by decide +kernel
theorem dX3_rowOf_8 : decode cX3_rowOf 8 = .ok (.ifCond .lt 16, 3) := by decide +kernel
theorem dX3_rowOf_11 : decode cX3_rowOf 11 = .ok (.iload_n 3, 1) := by decide +kernel
theorem dX3_rowOf_12 : decode cX3_rowOf 12 = .ok (.aload_n 0, 1) := by decide +kernel
theorem dX3_rowOf_13 : decode cX3_rowOf 13 = .ok (.getfield 25, 3) := by decide +kernel
theorem dX3_rowOf_16 : decode cX3_rowOf 16 = .ok (.arraylength, 1) := by decide +kernel
theorem dX3_rowOf_17 : decode cX3_rowOf 17 = .ok (.if_icmp .ge 7, 3) := by decide +kernel
theorem dX3_rowOf_20 : decode cX3_rowOf 20 = .ok (.iconst 1, 1) := by decide +kernel
theorem dX3_rowOf_21 : decode cX3_rowOf 21 = .ok (.goto 4, 3) := by decide +kernel
theorem dX3_rowOf_24 : decode cX3_rowOf 24 = .ok (.iconst 0, 1) := by decide +kernel
theorem dX3_rowOf_25 : decode cX3_rowOf 25 = .ok (.istore 4, 2) := by decide +kernel
theorem dX3_rowOf_27 : decode cX3_rowOf 27 = .ok (.iload 4, 2) := by decide +kernel
theorem dX3_rowOf_29 : decode cX3_rowOf 29 = .ok (.ifCond .eq 23, 3) := by decide +kernel
theorem dX3_rowOf_32 : decode cX3_rowOf 32 = .ok (.aload_n 0, 1) := by decide +kernel
theorem dX3_rowOf_33 : decode cX3_rowOf 33 = .ok (.getfield 25, 3) := by decide +kernel
theorem dX3_rowOf_36 : decode cX3_rowOf 36 = .ok (.iload_n 3, 1) := by decide +kernel
theorem dX3_rowOf_37 : decode cX3_rowOf 37 = .ok (.laload, 1) := by decide +kernel
theorem dX3_rowOf_38 : decode cX3_rowOf 38 = .ok (.ldc2_w 29, 3) := by decide +kernel
theorem dX3_rowOf_41 : decode cX3_rowOf 41 = .ok (.lcmp, 1) := by decide +kernel
theorem dX3_rowOf_42 : decode cX3_rowOf 42 = .ok (.ifCond .eq 10, 3) := by decide +kernel
theorem dX3_rowOf_45 : decode cX3_rowOf 45 = .ok (.aload_n 0, 1) := by decide +kernel
theorem dX3_rowOf_46 : decode cX3_rowOf 46 = .ok (.getfield 25, 3) := by decide +kernel
theorem dX3_rowOf_49 : decode cX3_rowOf 49 = .ok (.iload_n 3, 1) := by decide +kernel
theorem dX3_rowOf_50 : decode cX3_rowOf 50 = .ok (.laload, 1) := by decide +kernel
theorem dX3_rowOf_51 : decode cX3_rowOf 51 = .ok (.lreturn, 1) := by decide +kernel
theorem dX3_rowOf_52 : decode cX3_rowOf 52 = .ok (.aload_n 0, 1) := by decide +kernel
theorem dX3_rowOf_53 : decode cX3_rowOf 53 = .ok (.getfield 15, 3) := by decide +kernel
theorem dX3_rowOf_56 : decode cX3_rowOf 56 = .ok (.iload_n 1, 1) := by decide +kernel
theorem dX3_rowOf_57 : decode cX3_rowOf 57 = .ok (.invokevirtual 37, 3) := by decide +kernel
theorem dX3_rowOf_60 : decode cX3_rowOf 60 = .ok (.istore 5, 2) := by decide +kernel
theorem dX3_rowOf_62 : decode cX3_rowOf 62 = .ok (.lconst 0, 1) := by decide +kernel
theorem dX3_rowOf_63 : decode cX3_rowOf 63 = .ok (.lstore 6, 2) := by decide +kernel
theorem dX3_rowOf_65 : decode cX3_rowOf 65 = .ok (.iconst 5, 1) := by decide +kernel
theorem dX3_rowOf_66 : decode cX3_rowOf 66 = .ok (.istore 8, 2) := by decide +kernel
theorem dX3_rowOf_68 : decode cX3_rowOf 68 = .ok (.iload 8, 2) := by decide +kernel
theorem dX3_rowOf_70 : decode cX3_rowOf 70 = .ok (.ifCond .lt 66, 3) := by decide +kernel
theorem dX3_rowOf_73 : decode cX3_rowOf 73 = .ok (.aload_n 0, 1) := by decide +kernel
theorem dX3_rowOf_74 : decode cX3_rowOf 74 = .ok (.getfield 9, 3) := by decide +kernel
theorem dX3_rowOf_77 : decode cX3_rowOf 77 = .ok (.iload 5, 2) := by decide +kernel
theorem dX3_rowOf_79 : decode cX3_rowOf 79 = .ok (.iload_n 2, 1) := by decide +kernel
theorem dX3_rowOf_80 : decode cX3_rowOf 80 = .ok (.iload 8, 2) := by decide +kernel
theorem dX3_rowOf_82 : decode cX3_rowOf 82 = .ok (.invokevirtual 43, 3) := by decide +kernel
theorem dX3_rowOf_85 : decode cX3_rowOf 85 = .ok (.istore 9, 2) := by decide +kernel
theorem dX3_rowOf_87 : decode cX3_rowOf 87 = .ok (.iload 9, 2) := by decide +kernel
theorem dX3_rowOf_89 : decode cX3_rowOf 89 = .ok (.ifCond .eq 25, 3) := by decide +kernel
theorem dX3_rowOf_92 : decode cX3_rowOf 92 = .ok (.aload_n 0, 1) := by decide +kernel
theorem dX3_rowOf_93 : decode cX3_rowOf 93 = .ok (.getfield 15, 3) := by decide +kernel
theorem dX3_rowOf_96 : decode cX3_rowOf 96 = .ok (.aload_n 0, 1) := by decide +kernel
theorem dX3_rowOf_97 : decode cX3_rowOf 97 = .ok (.getfield 9, 3) := by decide +kernel
theorem dX3_rowOf_100 : decode cX3_rowOf 100 = .ok (.iload 5, 2) := by decide +kernel
theorem dX3_rowOf_102 : decode cX3_rowOf 102 = .ok (.iload_n 2, 1) := by decide +kernel
theorem dX3_rowOf_103 : decode cX3_rowOf 103 = .ok (.iload 8, 2) := by decide +kernel
theorem dX3_rowOf_105 : decode cX3_rowOf 105 = .ok (.invokevirtual 49, 3) := by decide +kernel
theorem dX3_rowOf_108 : decode cX3_rowOf 108 = .ok (.invokevirtual 53, 3) := by decide +kernel
theorem dX3_rowOf_111 : decode cX3_rowOf 111 = .ok (.goto 6, 3) := by decide +kernel
theorem dX3_rowOf_114 : decode cX3_rowOf 114 = .ok (.sipush 1023, 3) := by decide +kernel
theorem dX3_rowOf_117 : decode cX3_rowOf 117 = .ok (.istore 10, 2) := by decide +kernel
theorem dX3_rowOf_119 : decode cX3_rowOf 119 = .ok (.lload 6, 2) := by decide +kernel
theorem dX3_rowOf_121 : decode cX3_rowOf 121 = .ok (.bipush 10, 2) := by decide +kernel
theorem dX3_rowOf_123 : decode cX3_rowOf 123 = .ok (.lshl, 1) := by decide +kernel
theorem dX3_rowOf_124 : decode cX3_rowOf 124 = .ok (.iload 10, 2) := by decide +kernel
theorem dX3_rowOf_126 : decode cX3_rowOf 126 = .ok (.i2l, 1) := by decide +kernel
theorem dX3_rowOf_127 : decode cX3_rowOf 127 = .ok (.lor, 1) := by decide +kernel
theorem dX3_rowOf_128 : decode cX3_rowOf 128 = .ok (.lstore 6, 2) := by decide +kernel
theorem dX3_rowOf_130 : decode cX3_rowOf 130 = .ok (.iinc 8 (-1), 3) := by decide +kernel
theorem dX3_rowOf_133 : decode cX3_rowOf 133 = .ok (.goto (-65), 3) := by decide +kernel
theorem dX3_rowOf_136 : decode cX3_rowOf 136 = .ok (.iload 4, 2) := by decide +kernel
theorem dX3_rowOf_138 : decode cX3_rowOf 138 = .ok (.ifCond .eq 11, 3) := by decide +kernel
theorem dX3_rowOf_141 : decode cX3_rowOf 141 = .ok (.aload_n 0, 1) := by decide +kernel
theorem dX3_rowOf_142 : decode cX3_rowOf 142 = .ok (.getfield 25, 3) := by decide +kernel
theorem dX3_rowOf_145 : decode cX3_rowOf 145 = .ok (.iload_n 3, 1) := by decide +kernel
theorem dX3_rowOf_146 : decode cX3_rowOf 146 = .ok (.lload 6, 2) := by decide +kernel
theorem dX3_rowOf_148 : decode cX3_rowOf 148 = .ok (.lastore, 1) := by decide +kernel
theorem dX3_rowOf_149 : decode cX3_rowOf 149 = .ok (.lload 6, 2) := by decide +kernel
theorem dX3_rowOf_151 : decode cX3_rowOf 151 = .ok (.lreturn, 1) := by decide +kernel
theorem dX3_target_0 : decode cX3_target 0 = .ok (.lload_n 0, 1) := by decide +kernel
theorem dX3_target_1 : decode cX3_target 1 = .ok (.bipush 10, 2) := by decide +kernel
theorem dX3_target_3 : decode cX3_target 3 = .ok (.iload_n 2, 1) := by decide +kernel
theorem dX3_target_4 : decode cX3_target 4 = .ok (.imul, 1) := by decide +kernel
theorem dX3_target_5 : decode cX3_target 5 = .ok (.lshr, 1) := by decide +kernel
theorem dX3_target_6 : decode cX3_target 6 = .ok (.l2i, 1) := by decide +kernel
theorem dX3_target_7 : decode cX3_target 7 = .ok (.sipush 1023, 3) := by decide +kernel
theorem dX3_target_10 : decode cX3_target 10 = .ok (.iand, 1) := by decide +kernel
theorem dX3_target_11 : decode cX3_target 11 = .ok (.ireturn, 1) := by decide +kernel
theorem dX3_changeAnything_0 : decode cX3_changeAnything 0 = .ok (.iconst 0, 1) := by decide +kernel
theorem dX3_changeAnything_1 : decode cX3_changeAnything 1 = .ok (.istore_n 2, 1) := by decide +kernel
theorem dX3_changeAnything_2 : decode cX3_changeAnything 2 = .ok (.iload_n 2, 1) := by decide +kernel
theorem dX3_changeAnything_3 : decode cX3_changeAnything 3 = .ok (.aload_n 0, 1) := by decide +kernel
theorem dX3_changeAnything_4 : decode cX3_changeAnything 4 = .ok (.getfield 9, 3) := by decide +kernel
theorem dX3_changeAnything_7 : decode cX3_changeAnything 7 = .ok (.getfield 56, 3) := by decide +kernel
theorem dX3_changeAnything_10 : decode cX3_changeAnything 10 = .ok (.if_icmp .ge 61, 3) := by decide +kernel
theorem dX3_changeAnything_13 : decode cX3_changeAnything 13 = .ok (.aload_n 0, 1) := by decide +kernel
theorem dX3_changeAnything_14 : decode cX3_changeAnything 14 = .ok (.iload_n 1, 1) := by decide +kernel
theorem dX3_changeAnything_15 : decode cX3_changeAnything 15 = .ok (.iload_n 2, 1) := by decide +kernel
theorem dX3_changeAnything_16 : decode cX3_changeAnything 16 = .ok (.invokevirtual 60, 3) := by decide +kernel
theorem dX3_changeAnything_19 : decode cX3_changeAnything 19 = .ok (.lstore_n 3, 1) := by decide +kernel
theorem dX3_changeAnything_20 : decode cX3_changeAnything 20 = .ok (.iconst 0, 1) := by decide +kernel
theorem dX3_changeAnything_21 : decode cX3_changeAnything 21 = .ok (.istore 5, 2) := by decide +kernel
theorem dX3_changeAnything_23 : decode cX3_changeAnything 23 = .ok (.iload 5, 2) := by decide +kernel
theorem dX3_changeAnything_25 : decode cX3_changeAnything 25 = .ok (.aload_n 0, 1) := by decide +kernel
theorem dX3_changeAnything_26 : decode cX3_changeAnything 26 = .ok (.getfield 9, 3) := by decide +kernel
theorem dX3_changeAnything_29 : decode cX3_changeAnything 29 = .ok (.getfield 56, 3) := by decide +kernel
theorem dX3_changeAnything_32 : decode cX3_changeAnything 32 = .ok (.if_icmp .ge 33, 3) := by decide +kernel
theorem dX3_changeAnything_35 : decode cX3_changeAnything 35 = .ok (.lload_n 3, 1) := by decide +kernel
theorem dX3_changeAnything_36 : decode cX3_changeAnything 36 = .ok (.iload 5, 2) := by decide +kernel
theorem dX3_changeAnything_38 : decode cX3_changeAnything 38 = .ok (.invokestatic 64, 3) := by decide +kernel
theorem dX3_changeAnything_41 : decode cX3_changeAnything 41 = .ok (.istore 6, 2) := by decide +kernel
theorem dX3_changeAnything_43 : decode cX3_changeAnything 43 = .ok (.iload 6, 2) := by decide +kernel
theorem dX3_changeAnything_45 : decode cX3_changeAnything 45 = .ok (.sipush 1023, 3) := by decide +kernel
theorem dX3_changeAnything_48 : decode cX3_changeAnything 48 = .ok (.if_icmp .eq 11, 3) := by decide +kernel
theorem dX3_changeAnything_51 : decode cX3_changeAnything 51 = .ok (.iload 6, 2) := by decide +kernel
theorem dX3_changeAnything_53 : decode cX3_changeAnything 53 = .ok (.iload_n 1, 1) := by decide +kernel
theorem dX3_changeAnything_54 : decode cX3_changeAnything 54 = .ok (.if_icmp .eq 5, 3) := by decide +kernel
theorem dX3_changeAnything_57 : decode cX3_changeAnything 57 = .ok (.iconst 1, 1) := by decide +kernel
theorem dX3_changeAnything_58 : decode cX3_changeAnything 58 = .ok (.ireturn, 1) := by decide +kernel
theorem dX3_changeAnything_59 : decode cX3_changeAnything 59 = .ok (.iinc 5 1, 3) := by decide +kernel
theorem dX3_changeAnything_62 : decode cX3_changeAnything 62 = .ok (.goto (-39), 3) := by decide +kernel
theorem dX3_changeAnything_65 : decode cX3_changeAnything 65 = .ok (.iinc 2 1, 3) := by decide +kernel
theorem dX3_changeAnything_68 : decode cX3_changeAnything 68 = .ok (.goto (-66), 3) := by decide +kernel
theorem dX3_changeAnything_71 : decode cX3_changeAnything 71 = .ok (.iconst 0, 1) := by decide +kernel
theorem dX3_changeAnything_72 : decode cX3_changeAnything 72 = .ok (.ireturn, 1) := by decide +kernel
theorem dX4_init_0 : decode cX4_init 0 = .ok (.aload_n 0, 1) := by decide +kernel
theorem dX4_init_1 : decode cX4_init 1 = .ok (.invokespecial 3, 3) := by decide +kernel
theorem dX4_init_4 : decode cX4_init 4 = .ok (.aload_n 0, 1) := by decide +kernel
theorem dX4_init_5 : decode cX4_init 5 = .ok (.iconst 3, 1) := by decide +kernel
theorem dX4_init_6 : decode cX4_init 6 = .ok (.newarray .int, 2) := by decide +kernel
theorem dX4_init_8 : decode cX4_init 8 = .ok (.putfield 9, 3) := by decide +kernel
theorem dX4_init_11 : decode cX4_init 11 = .ok (.aload_n 0, 1) := by decide +kernel
theorem dX4_init_12 : decode cX4_init 12 = .ok (.aload_n 1, 1) := by decide +kernel
theorem dX4_init_13 : decode cX4_init 13 = .ok (.putfield 15, 3) := by decide +kernel
theorem dX4_init_16 : decode cX4_init 16 = .ok (.aload_n 0, 1) := by decide +kernel
theorem dX4_init_17 : decode cX4_init 17 = .ok (.aload_n 2, 1) := by decide +kernel
theorem dX4_init_18 : decode cX4_init 18 = .ok (.putfield 18, 3) := by decide +kernel
theorem dX4_init_21 : decode cX4_init 21 = .ok (.return_, 1) := by decide +kernel
theorem dX4_read_0 : decode cX4_read 0 = .ok (.aload_n 0, 1) := by decide +kernel
theorem dX4_read_1 : decode cX4_read 1 = .ok (.getfield 18, 3) := by decide +kernel
theorem dX4_read_4 : decode cX4_read 4 = .ok (.invokevirtual 22, 3) := by decide +kernel
theorem dX4_read_7 : decode cX4_read 7 = .ok (.aload_n 0, 1) := by decide +kernel
theorem dX4_read_8 : decode cX4_read 8 = .ok (.iload_n 1, 1) := by decide +kernel
theorem dX4_read_9 : decode cX4_read 9 = .ok (.putfield 27, 3) := by decide +kernel
theorem dX4_read_12 : decode cX4_read 12 = .ok (.aload_n 0, 1) := by decide +kernel
theorem dX4_read_13 : decode cX4_read 13 = .ok (.iconst 0, 1) := by decide +kernel
theorem dX4_read_14 : decode cX4_read 14 = .ok (.putfield 31, 3) := by decide +kernel
theorem dX4_read_17 : decode cX4_read 17 = .ok (.iconst 0, 1) := by decide +kernel
theorem dX4_read_18 : decode cX4_read 18 = .ok (.istore_n 2, 1) := by decide +kernel
theorem dX4_read_19 : decode cX4_read 19 = .ok (.iload_n 2, 1) := by decide +kernel
theorem dX4_read_20 : decode cX4_read 20 = .ok (.sipush 300, 3) := by decide +kernel
theorem dX4_read_23 : decode cX4_read 23 = .ok (.if_icmp .ge 34, 3) := by decide +kernel
theorem dX4_read_26 : decode cX4_read 26 = .ok (.aload_n 0, 1) := by decide +kernel
theorem dX4_read_27 : decode cX4_read 27 = .ok (.getfield 31, 3) := by decide +kernel
theorem dX4_read_30 : decode cX4_read 30 = .ok (.aload_n 0, 1) := by decide +kernel
theorem dX4_read_31 : decode cX4_read 31 = .ok (.getfield 27, 3) := by decide +kernel
theorem dX4_read_34 : decode cX4_read 34 = .ok (.if_icmp .ge 23, 3) := by decide +kernel
theorem dX4_read_37 : decode cX4_read 37 = .ok (.aload_n 0, 1) := by decide +kernel
theorem dX4_read_38 : decode cX4_read 38 = .ok (.getfield 31, 3) := by decide +kernel
theorem dX4_read_41 : decode cX4_read 41 = .ok (.istore_n 3, 1) := by decide +kernel
theorem dX4_read_42 : decode cX4_read 42 = .ok (.aload_n 0, 1) := by decide +kernel
theorem dX4_read_43 : decode cX4_read 43 = .ok (.invokevirtual 34, 3) := by decide +kernel
theorem dX4_read_46 : decode cX4_read 46 = .ok (.ifCond .ne 5, 3) := by decide +kernel
theorem dX4_read_49 : decode cX4_read 49 = .ok (.iload_n 3, 1) := by decide +kernel
theorem dX4_read_50 : decode cX4_read 50 = .ok (.ireturn, 1) := by decide +kernel
theorem dX4_read_51 : decode cX4_read 51 = .ok (.iinc 2 1, 3) := by decide +kernel
theorem dX4_read_54 : decode cX4_read 54 = .ok (.goto (-35), 3) := by decide +kernel
theorem dX4_read_57 : decode cX4_read 57 = .ok (.bipush (-4), 2) := by decide +kernel
theorem dX4_read_59 : decode cX4_read 59 = .ok (.ireturn, 1) := by decide +kernel
theorem dX4_readItem_0 : decode cX4_readItem 0 = .ok (.aload_n 0, 1) := by decide +kernel
theorem dX4_readItem_1 : decode cX4_readItem 1 = .ok (.invokevirtual 38, 3) := by decide +kernel
theorem dX4_readItem_4 : decode cX4_readItem 4 = .ok (.istore_n 1, 1) := by decide +kernel
theorem dX4_readItem_5 : decode cX4_readItem 5 = .ok (.iload_n 1, 1) := by decide +kernel
theorem dX4_readItem_6 : decode cX4_readItem 6 = .ok (.bipush 119, 2) := by decide +kernel
theorem dX4_readItem_8 : decode cX4_readItem 8 = .ok (.if_icmp .ne 8, 3) := by decide +kernel
theorem dX4_readItem_11 : decode cX4_readItem 11 = .ok (.aload_n 0, 1) := by decide +kernel
theorem dX4_readItem_12 : decode cX4_readItem 12 = .ok (.invokevirtual 42, 3) := by decide +kernel
theorem dX4_readItem_15 : decode cX4_readItem 15 = .ok (.ireturn, 1) := by decide +kernel
theorem dX4_readItem_16 : decode cX4_readItem 16 = .ok (.iload_n 1, 1) := by decide +kernel
theorem dX4_readItem_17 : decode cX4_readItem 17 = .ok (.bipush 103, 2) := by decide +kernel
theorem dX4_readItem_19 : decode cX4_readItem 19 = .ok (.if_icmp .ne 7, 3) := by decide +kernel
theorem dX4_readItem_22 : decode cX4_readItem 22 = .ok (.iconst 3, 1) := by decide +kernel
theorem dX4_readItem_23 : decode cX4_readItem 23 = .ok (.goto 4, 3) := by decide +kernel
theorem dX4_readItem_26 : decode cX4_readItem 26 = .ok (.iconst 1, 1) := by decide +kernel
theorem dX4_readItem_27 : decode cX4_readItem 27 = .ok (.istore_n 2, 1) := by decide +kernel
theorem dX4_readItem_28 : decode cX4_readItem 28 = .ok (.iconst 0, 1) := by decide +kernel
theorem dX4_readItem_29 : decode cX4_readItem 29 = .ok (.istore_n 3, 1) := by decide +kernel
theorem dX4_readItem_30 : decode cX4_readItem 30 = .ok (.iload_n 3, 1) := by decide +kernel
theorem dX4_readItem_31 : decode cX4_readItem 31 = .ok (.iload_n 2, 1) := by decide +kernel
theorem dX4_readItem_32 : decode cX4_readItem 32 = .ok (.if_icmp .ge 40, 3) := by decide +kernel
theorem dX4_readItem_35 : decode cX4_readItem 35 = .ok (.aload_n 0, 1) := by decide +kernel
theorem dX4_readItem_36 : decode cX4_readItem 36 = .ok (.iload_n 3, 1) := by decide +kernel
theorem dX4_readItem_37 : decode cX4_readItem 37 = .ok (.invokevirtual 45, 3) := by decide +kernel
theorem dX4_readItem_40 : decode cX4_readItem 40 = .ok (.ifCond .eq 24, 3) := by decide +kernel
theorem dX4_readItem_43 : decode cX4_readItem 43 = .ok (.aload_n 0, 1) := by decide +kernel
theorem dX4_readItem_44 : decode cX4_readItem 44 = .ok (.invokevirtual 38, 3) := by decide +kernel
theorem dX4_readItem_47 : decode cX4_readItem 47 = .ok (.iload_n 3, 1) := by decide +kernel
theorem dX4_readItem_48 : decode cX4_readItem 48 = .ok (.iload_n 2, 1) := by decide +kernel
theorem dX4_readItem_49 : decode cX4_readItem 49 = .ok (.iconst 1, 1) := by decide +kernel
theorem dX4_readItem_50 : decode cX4_readItem 50 = .ok (.isub, 1) := by decide +kernel
theorem dX4_readItem_51 : decode cX4_readItem 51 = .ok (.if_icmp .ge 8, 3) := by decide +kernel
theorem dX4_readItem_54 : decode cX4_readItem 54 = .ok (.bipush 44, 2) := by decide +kernel
theorem dX4_readItem_56 : decode cX4_readItem 56 = .ok (.goto 5, 3) := by decide +kernel
theorem dX4_readItem_59 : decode cX4_readItem 59 = .ok (.bipush 59, 2) := by decide +kernel
theorem dX4_readItem_61 : decode cX4_readItem 61 = .ok (.if_icmp .eq 5, 3) := by decide +kernel
theorem dX4_readItem_64 : decode cX4_readItem 64 = .ok (.iconst 0, 1) := by decide +kernel
theorem dX4_readItem_65 : decode cX4_readItem 65 = .ok (.ireturn, 1) := by decide +kernel
theorem dX4_readItem_66 : decode cX4_readItem 66 = .ok (.iinc 3 1, 3) := by decide +kernel
theorem dX4_readItem_69 : decode cX4_readItem 69 = .ok (.goto (-39), 3) := by decide +kernel
theorem dX4_readItem_72 : decode cX4_readItem 72 = .ok (.iload_n 1, 1) := by decide +kernel
theorem dX4_readItem_73 : decode cX4_readItem 73 = .ok (.bipush 103, 2) := by decide +kernel
theorem dX4_readItem_75 : decode cX4_readItem 75 = .ok (.if_icmp .ne 32, 3) := by decide +kernel
theorem dX4_readItem_78 : decode cX4_readItem 78 = .ok (.aload_n 0, 1) := by decide +kernel
theorem dX4_readItem_79 : decode cX4_readItem 79 = .ok (.aload_n 0, 1) := by decide +kernel
theorem dX4_readItem_80 : decode cX4_readItem 80 = .ok (.getfield 9, 3) := by decide +kernel
theorem dX4_readItem_83 : decode cX4_readItem 83 = .ok (.iconst 0, 1) := by decide +kernel
theorem dX4_readItem_84 : decode cX4_readItem 84 = .ok (.invokestatic 49, 3) := by decide +kernel
theorem dX4_readItem_87 : decode cX4_readItem 87 = .ok (.aload_n 0, 1) := by decide +kernel
theorem dX4_readItem_88 : decode cX4_readItem 88 = .ok (.getfield 9, 3) := by decide +kernel
theorem dX4_readItem_91 : decode cX4_readItem 91 = .ok (.iconst 1, 1) := by decide +kernel
theorem dX4_readItem_92 : decode cX4_readItem 92 = .ok (.invokestatic 49, 3) := by decide +kernel
theorem dX4_readItem_95 : decode cX4_readItem 95 = .ok (.aload_n 0, 1) := by decide +kernel
theorem dX4_readItem_96 : decode cX4_readItem 96 = .ok (.getfield 9, 3) := by decide +kernel
theorem dX4_readItem_99 : decode cX4_readItem 99 = .ok (.iconst 2, 1) := by decide +kernel
theorem dX4_readItem_100 : decode cX4_readItem 100 = .ok (.invokestatic 49, 3) := by decide +kernel
theorem dX4_readItem_103 : decode cX4_readItem 103 = .ok (.invokevirtual 53, 3) := by decide +kernel
theorem dX4_readItem_106 : decode cX4_readItem 106 = .ok (.ireturn, 1) := by decide +kernel
theorem dX4_readItem_107 : decode cX4_readItem 107 = .ok (.aload_n 0, 1) := by decide +kernel
theorem dX4_readItem_108 : decode cX4_readItem 108 = .ok (.iload_n 1, 1) := by decide +kernel
theorem dX4_readItem_109 : decode cX4_readItem 109 = .ok (.aload_n 0, 1) := by decide +kernel
theorem dX4_readItem_110 : decode cX4_readItem 110 = .ok (.getfield 9, 3) := by decide +kernel
theorem dX4_readItem_113 : decode cX4_readItem 113 = .ok (.iconst 0, 1) := by decide +kernel
theorem dX4_readItem_114 : decode cX4_readItem 114 = .ok (.invokestatic 49, 3) := by decide +kernel
theorem dX4_readItem_117 : decode cX4_readItem 117 = .ok (.invokevirtual 57, 3) := by decide +kernel
theorem dX4_readItem_120 : decode cX4_readItem 120 = .ok (.ireturn, 1) := by decide +kernel
theorem dX4_takeNumber_0 : decode cX4_takeNumber 0 = .ok (.iload_n 1, 1) := by decide +kernel
theorem dX4_takeNumber_1 : decode cX4_takeNumber 1 = .ok (.lookupswitch 127 #[(99, 107), (100, 43), (114, 78), (115, 97)], 43) := by decide +kernel
theorem dX4_takeNumber_44 : decode cX4_takeNumber 44 = .ok (.aload_n 0, 1) := by decide +kernel
theorem dX4_takeNumber_45 : decode cX4_takeNumber 45 = .ok (.getfield 18, 3) := by decide +kernel
theorem dX4_takeNumber_48 : decode cX4_takeNumber 48 = .ok (.iload_n 2, 1) := by decide +kernel
theorem dX4_takeNumber_49 : decode cX4_takeNumber 49 = .ok (.putfield 61, 3) := by decide +kernel
theorem dX4_takeNumber_52 : decode cX4_takeNumber 52 = .ok (.iload_n 2, 1) := by decide +kernel
theorem dX4_takeNumber_53 : decode cX4_takeNumber 53 = .ok (.iconst 1, 1) := by decide +kernel
theorem dX4_takeNumber_54 : decode cX4_takeNumber 54 = .ok (.if_icmp .lt 23, 3) := by decide +kernel
theorem dX4_takeNumber_57 : decode cX4_takeNumber 57 = .ok (.iload_n 2, 1) := by decide +kernel
theorem dX4_takeNumber_58 : decode cX4_takeNumber 58 = .ok (.bipush 6, 2) := by decide +kernel
theorem dX4_takeNumber_60 : decode cX4_takeNumber 60 = .ok (.if_icmp .gt 17, 3) := by decide +kernel
theorem dX4_takeNumber_63 : decode cX4_takeNumber 63 = .ok (.aload_n 0, 1) := by decide +kernel
theorem dX4_takeNumber_64 : decode cX4_takeNumber 64 = .ok (.getfield 18, 3) := by decide +kernel
theorem dX4_takeNumber_67 : decode cX4_takeNumber 67 = .ok (.getfield 64, 3) := by decide +kernel
theorem dX4_takeNumber_70 : decode cX4_takeNumber 70 = .ok (.ifCond .ne 7, 3) := by decide +kernel
theorem dX4_takeNumber_73 : decode cX4_takeNumber 73 = .ok (.iconst 1, 1) := by decide +kernel
theorem dX4_takeNumber_74 : decode cX4_takeNumber 74 = .ok (.goto 4, 3) := by decide +kernel
theorem dX4_takeNumber_77 : decode cX4_takeNumber 77 = .ok (.iconst 0, 1) := by decide +kernel
theorem dX4_takeNumber_78 : decode cX4_takeNumber 78 = .ok (.ireturn, 1) := by decide +kernel
theorem dX4_takeNumber_79 : decode cX4_takeNumber 79 = .ok (.aload_n 0, 1) := by decide +kernel
theorem dX4_takeNumber_80 : decode cX4_takeNumber 80 = .ok (.getfield 18, 3) := by decide +kernel
theorem dX4_takeNumber_83 : decode cX4_takeNumber 83 = .ok (.iload_n 2, 1) := by decide +kernel
theorem dX4_takeNumber_84 : decode cX4_takeNumber 84 = .ok (.putfield 67, 3) := by decide +kernel
theorem dX4_takeNumber_87 : decode cX4_takeNumber 87 = .ok (.iload_n 2, 1) := by decide +kernel
theorem dX4_takeNumber_88 : decode cX4_takeNumber 88 = .ok (.iconst 1, 1) := by decide +kernel
theorem dX4_takeNumber_89 : decode cX4_takeNumber 89 = .ok (.if_icmp .gt 7, 3) := by decide +kernel
theorem dX4_takeNumber_92 : decode cX4_takeNumber 92 = .ok (.iconst 1, 1) := by decide +kernel
theorem dX4_takeNumber_93 : decode cX4_takeNumber 93 = .ok (.goto 4, 3) := by decide +kernel
theorem dX4_takeNumber_96 : decode cX4_takeNumber 96 = .ok (.iconst 0, 1) := by decide +kernel
theorem dX4_takeNumber_97 : decode cX4_takeNumber 97 = .ok (.ireturn, 1) := by decide +kernel
theorem dX4_takeNumber_98 : decode cX4_takeNumber 98 = .ok (.aload_n 0, 1) := by decide +kernel
theorem dX4_takeNumber_99 : decode cX4_takeNumber 99 = .ok (.getfield 18, 3) := by decide +kernel
theorem dX4_takeNumber_102 : decode cX4_takeNumber 102 = .ok (.iload_n 2, 1) := by decide +kernel
theorem dX4_takeNumber_103 : decode cX4_takeNumber 103 = .ok (.putfield 70, 3) := by decide +kernel
theorem dX4_takeNumber_106 : decode cX4_takeNumber 106 = .ok (.iconst 1, 1) := by decide +kernel
theorem dX4_takeNumber_107 : decode cX4_takeNumber 107 = .ok (.ireturn, 1) := by decide +kernel
theorem dX4_takeNumber_108 : decode cX4_takeNumber 108 = .ok (.aload_n 0, 1) := by decide +kernel
theorem dX4_takeNumber_109 : decode cX4_takeNumber 109 = .ok (.getfield 18, 3) := by decide +kernel
theorem dX4_takeNumber_112 : decode cX4_takeNumber 112 = .ok (.iload_n 2, 1) := by decide +kernel
theorem dX4_takeNumber_113 : decode cX4_takeNumber 113 = .ok (.putfield 73, 3) := by decide +kernel
theorem dX4_takeNumber_116 : decode cX4_takeNumber 116 = .ok (.iload_n 2, 1) := by decide +kernel
theorem dX4_takeNumber_117 : decode cX4_takeNumber 117 = .ok (.bipush 9, 2) := by decide +kernel
theorem dX4_takeNumber_119 : decode cX4_takeNumber 119 = .ok (.if_icmp .gt 7, 3) := by decide +kernel
theorem dX4_takeNumber_122 : decode cX4_takeNumber 122 = .ok (.iconst 1, 1) := by decide +kernel
theorem dX4_takeNumber_123 : decode cX4_takeNumber 123 = .ok (.goto 4, 3) := by decide +kernel
theorem dX4_takeNumber_126 : decode cX4_takeNumber 126 = .ok (.iconst 0, 1) := by decide +kernel
theorem dX4_takeNumber_127 : decode cX4_takeNumber 127 = .ok (.ireturn, 1) := by decide +kernel
theorem dX4_takeNumber_128 : decode cX4_takeNumber 128 = .ok (.iconst 0, 1) := by decide +kernel
theorem dX4_takeNumber_129 : decode cX4_takeNumber 129 = .ok (.ireturn, 1) := by decide +kernel
theorem dX4_takeGuest_0 : decode cX4_takeGuest 0 = .ok (.iload_n 2, 1) := by decide +kernel
theorem dX4_takeGuest_1 : decode cX4_takeGuest 1 = .ok (.bipush 9, 2) := by decide +kernel
theorem dX4_takeGuest_3 : decode cX4_takeGuest 3 = .ok (.if_icmp .eq 28, 3) := by decide +kernel
theorem dX4_takeGuest_6 : decode cX4_takeGuest 6 = .ok (.iload_n 2, 1) := by decide +kernel
theorem dX4_takeGuest_7 : decode cX4_takeGuest 7 = .ok (.aload_n 0, 1) := by decide +kernel
theorem dX4_takeGuest_8 : decode cX4_takeGuest 8 = .ok (.getfield 18, 3) := by decide +kernel
theorem dX4_takeGuest_11 : decode cX4_takeGuest 11 = .ok (.getfield 61, 3) := by decide +kernel
theorem dX4_takeGuest_14 : decode cX4_takeGuest 14 = .ok (.if_icmp .ge 21, 3) := by decide +kernel
theorem dX4_takeGuest_17 : decode cX4_takeGuest 17 = .ok (.aload_n 0, 1) := by decide +kernel
theorem dX4_takeGuest_18 : decode cX4_takeGuest 18 = .ok (.getfield 18, 3) := by decide +kernel
theorem dX4_takeGuest_21 : decode cX4_takeGuest 21 = .ok (.getfield 76, 3) := by decide +kernel
theorem dX4_takeGuest_24 : decode cX4_takeGuest 24 = .ok (.iload_n 2, 1) := by decide +kernel
theorem dX4_takeGuest_25 : decode cX4_takeGuest 25 = .ok (.invokestatic 79, 3) := by decide +kernel
theorem dX4_takeGuest_28 : decode cX4_takeGuest 28 = .ok (.ifCond .ge 7, 3) := by decide +kernel
theorem dX4_takeGuest_31 : decode cX4_takeGuest 31 = .ok (.iconst 1, 1) := by decide +kernel
theorem dX4_takeGuest_32 : decode cX4_takeGuest 32 = .ok (.goto 4, 3) := by decide +kernel
theorem dX4_takeGuest_35 : decode cX4_takeGuest 35 = .ok (.iconst 0, 1) := by decide +kernel
theorem dX4_takeGuest_36 : decode cX4_takeGuest 36 = .ok (.istore 4, 2) := by decide +kernel
theorem dX4_takeGuest_38 : decode cX4_takeGuest 38 = .ok (.iload_n 3, 1) := by decide +kernel
theorem dX4_takeGuest_39 : decode cX4_takeGuest 39 = .ok (.aload_n 0, 1) := by decide +kernel
theorem dX4_takeGuest_40 : decode cX4_takeGuest 40 = .ok (.getfield 18, 3) := by decide +kernel
theorem dX4_takeGuest_43 : decode cX4_takeGuest 43 = .ok (.invokevirtual 83, 3) := by decide +kernel
theorem dX4_takeGuest_46 : decode cX4_takeGuest 46 = .ok (.iconst (-1), 1) := by decide +kernel
theorem dX4_takeGuest_47 : decode cX4_takeGuest 47 = .ok (.ixor, 1) := by decide +kernel
theorem dX4_takeGuest_48 : decode cX4_takeGuest 48 = .ok (.iand, 1) := by decide +kernel
theorem dX4_takeGuest_49 : decode cX4_takeGuest 49 = .ok (.ifCond .ne 7, 3) := by decide +kernel
theorem dX4_takeGuest_52 : decode cX4_takeGuest 52 = .ok (.iconst 1, 1) := by decide +kernel
theorem dX4_takeGuest_53 : decode cX4_takeGuest 53 = .ok (.goto 4, 3) := by decide +kernel
theorem dX4_takeGuest_56 : decode cX4_takeGuest 56 = .ok (.iconst 0, 1) := by decide +kernel
theorem dX4_takeGuest_57 : decode cX4_takeGuest 57 = .ok (.istore 5, 2) := by decide +kernel
theorem dX4_takeGuest_59 : decode cX4_takeGuest 59 = .ok (.aload_n 0, 1) := by decide +kernel
theorem dX4_takeGuest_60 : decode cX4_takeGuest 60 = .ok (.getfield 18, 3) := by decide +kernel
theorem dX4_takeGuest_63 : decode cX4_takeGuest 63 = .ok (.getfield 64, 3) := by decide +kernel
theorem dX4_takeGuest_66 : decode cX4_takeGuest 66 = .ok (.bipush 6, 2) := by decide +kernel
theorem dX4_takeGuest_68 : decode cX4_takeGuest 68 = .ok (.if_icmp .ge 18, 3) := by decide +kernel
theorem dX4_takeGuest_71 : decode cX4_takeGuest 71 = .ok (.iload_n 1, 1) := by decide +kernel
theorem dX4_takeGuest_72 : decode cX4_takeGuest 72 = .ok (.iconst 3, 1) := by decide +kernel
theorem dX4_takeGuest_73 : decode cX4_takeGuest 73 = .ok (.if_icmp .gt 13, 3) := by decide +kernel
theorem dX4_takeGuest_76 : decode cX4_takeGuest 76 = .ok (.iload 4, 2) := by decide +kernel
theorem dX4_takeGuest_78 : decode cX4_takeGuest 78 = .ok (.ifCond .eq 8, 3) := by decide +kernel
theorem dX4_takeGuest_81 : decode cX4_takeGuest 81 = .ok (.iload 5, 2) := by decide +kernel
theorem dX4_takeGuest_83 : decode cX4_takeGuest 83 = .ok (.ifCond .ne 5, 3) := by decide +kernel
theorem dX4_takeGuest_86 : decode cX4_takeGuest 86 = .ok (.iconst 0, 1) := by decide +kernel
theorem dX4_takeGuest_87 : decode cX4_takeGuest 87 = .ok (.ireturn, 1) := by decide +kernel
theorem dX4_takeGuest_88 : decode cX4_takeGuest 88 = .ok (.aload_n 0, 1) := by decide +kernel
theorem dX4_takeGuest_89 : decode cX4_takeGuest 89 = .ok (.getfield 18, 3) := by decide +kernel
theorem dX4_takeGuest_92 : decode cX4_takeGuest 92 = .ok (.iload_n 1, 1) := by decide +kernel
theorem dX4_takeGuest_93 : decode cX4_takeGuest 93 = .ok (.iload_n 2, 1) := by decide +kernel
theorem dX4_takeGuest_94 : decode cX4_takeGuest 94 = .ok (.bipush 9, 2) := by decide +kernel
theorem dX4_takeGuest_96 : decode cX4_takeGuest 96 = .ok (.if_icmp .ne 8, 3) := by decide +kernel
theorem dX4_takeGuest_99 : decode cX4_takeGuest 99 = .ok (.bipush 7, 2) := by decide +kernel
theorem dX4_takeGuest_101 : decode cX4_takeGuest 101 = .ok (.goto 4, 3) := by decide +kernel
theorem dX4_takeGuest_104 : decode cX4_takeGuest 104 = .ok (.iload_n 2, 1) := by decide +kernel
theorem dX4_takeGuest_105 : decode cX4_takeGuest 105 = .ok (.iload_n 3, 1) := by decide +kernel
theorem dX4_takeGuest_106 : decode cX4_takeGuest 106 = .ok (.invokevirtual 86, 3) := by decide +kernel
theorem dX4_takeGuest_109 : decode cX4_takeGuest 109 = .ok (.iconst 1, 1) := by decide +kernel
theorem dX4_takeGuest_110 : decode cX4_takeGuest 110 = .ok (.ireturn, 1) := by decide +kernel
theorem dX4_readWorths_0 : decode cX4_readWorths 0 = .ok (.aload_n 0, 1) := by decide +kernel
theorem dX4_readWorths_1 : decode cX4_readWorths 1 = .ok (.getfield 18, 3) := by decide +kernel
theorem dX4_readWorths_4 : decode cX4_readWorths 4 = .ok (.getfield 64, 3) := by decide +kernel
theorem dX4_readWorths_7 : decode cX4_readWorths 7 = .ok (.ifCond .ne 5, 3) := by decide +kernel
theorem dX4_readWorths_10 : decode cX4_readWorths 10 = .ok (.iconst 0, 1) := by decide +kernel
theorem dX4_readWorths_11 : decode cX4_readWorths 11 = .ok (.ireturn, 1) := by decide +kernel
theorem dX4_readWorths_12 : decode cX4_readWorths 12 = .ok (.iconst 0, 1) := by decide +kernel
theorem dX4_readWorths_13 : decode cX4_readWorths 13 = .ok (.istore_n 1, 1) := by decide +kernel
theorem dX4_readWorths_14 : decode cX4_readWorths 14 = .ok (.iload_n 1, 1) := by decide +kernel
theorem dX4_readWorths_15 : decode cX4_readWorths 15 = .ok (.aload_n 0, 1) := by decide +kernel
theorem dX4_readWorths_16 : decode cX4_readWorths 16 = .ok (.getfield 18, 3) := by decide +kernel
theorem dX4_readWorths_19 : decode cX4_readWorths 19 = .ok (.getfield 61, 3) := by decide +kernel
theorem dX4_readWorths_22 : decode cX4_readWorths 22 = .ok (.if_icmp .ge 39, 3) := by decide +kernel
theorem dX4_readWorths_25 : decode cX4_readWorths 25 = .ok (.aload_n 0, 1) := by decide +kernel
theorem dX4_readWorths_26 : decode cX4_readWorths 26 = .ok (.invokevirtual 90, 3) := by decide +kernel
theorem dX4_readWorths_29 : decode cX4_readWorths 29 = .ok (.istore_n 2, 1) := by decide +kernel
theorem dX4_readWorths_30 : decode cX4_readWorths 30 = .ok (.iload_n 2, 1) := by decide +kernel
theorem dX4_readWorths_31 : decode cX4_readWorths 31 = .ok (.iconst (-1), 1) := by decide +kernel
theorem dX4_readWorths_32 : decode cX4_readWorths 32 = .ok (.if_icmp .ne 5, 3) := by decide +kernel
theorem dX4_readWorths_35 : decode cX4_readWorths 35 = .ok (.iconst 0, 1) := by decide +kernel
theorem dX4_readWorths_36 : decode cX4_readWorths 36 = .ok (.ireturn, 1) := by decide +kernel
theorem dX4_readWorths_37 : decode cX4_readWorths 37 = .ok (.aload_n 0, 1) := by decide +kernel
theorem dX4_readWorths_38 : decode cX4_readWorths 38 = .ok (.getfield 18, 3) := by decide +kernel
theorem dX4_readWorths_41 : decode cX4_readWorths 41 = .ok (.aload_n 0, 1) := by decide +kernel
theorem dX4_readWorths_42 : decode cX4_readWorths 42 = .ok (.getfield 18, 3) := by decide +kernel
theorem dX4_readWorths_45 : decode cX4_readWorths 45 = .ok (.getfield 64, 3) := by decide +kernel
theorem dX4_readWorths_48 : decode cX4_readWorths 48 = .ok (.iconst 1, 1) := by decide +kernel
theorem dX4_readWorths_49 : decode cX4_readWorths 49 = .ok (.isub, 1) := by decide +kernel
theorem dX4_readWorths_50 : decode cX4_readWorths 50 = .ok (.iload_n 1, 1) := by decide +kernel
theorem dX4_readWorths_51 : decode cX4_readWorths 51 = .ok (.iload_n 2, 1) := by decide +kernel
theorem dX4_readWorths_52 : decode cX4_readWorths 52 = .ok (.invokevirtual 93, 3) := by decide +kernel
theorem dX4_readWorths_55 : decode cX4_readWorths 55 = .ok (.iinc 1 1, 3) := by decide +kernel
theorem dX4_readWorths_58 : decode cX4_readWorths 58 = .ok (.goto (-44), 3) := by decide +kernel
theorem dX4_readWorths_61 : decode cX4_readWorths 61 = .ok (.aload_n 0, 1) := by decide +kernel
theorem dX4_readWorths_62 : decode cX4_readWorths 62 = .ok (.invokevirtual 38, 3) := by decide +kernel
theorem dX4_readWorths_65 : decode cX4_readWorths 65 = .ok (.bipush 59, 2) := by decide +kernel
theorem dX4_readWorths_67 : decode cX4_readWorths 67 = .ok (.if_icmp .ne 7, 3) := by decide +kernel
theorem dX4_readWorths_70 : decode cX4_readWorths 70 = .ok (.iconst 1, 1) := by decide +kernel
theorem dX4_readWorths_71 : decode cX4_readWorths 71 = .ok (.goto 4, 3) := by decide +kernel
theorem dX4_readWorths_74 : decode cX4_readWorths 74 = .ok (.iconst 0, 1) := by decide +kernel
theorem dX4_readWorths_75 : decode cX4_readWorths 75 = .ok (.ireturn, 1) := by decide +kernel
theorem dX4_readNumber_0 : decode cX4_readNumber 0 = .ok (.aload_n 0, 1) := by decide +kernel
theorem dX4_readNumber_1 : decode cX4_readNumber 1 = .ok (.invokevirtual 90, 3) := by decide +kernel
theorem dX4_readNumber_4 : decode cX4_readNumber 4 = .ok (.istore_n 2, 1) := by decide +kernel
theorem dX4_readNumber_5 : decode cX4_readNumber 5 = .ok (.iload_n 2, 1) := by decide +kernel
theorem dX4_readNumber_6 : decode cX4_readNumber 6 = .ok (.iconst (-1), 1) := by decide +kernel
theorem dX4_readNumber_7 : decode cX4_readNumber 7 = .ok (.if_icmp .ne 5, 3) := by decide +kernel
theorem dX4_readNumber_10 : decode cX4_readNumber 10 = .ok (.iconst 0, 1) := by decide +kernel
theorem dX4_readNumber_11 : decode cX4_readNumber 11 = .ok (.ireturn, 1) := by decide +kernel
theorem dX4_readNumber_12 : decode cX4_readNumber 12 = .ok (.aload_n 0, 1) := by decide +kernel
theorem dX4_readNumber_13 : decode cX4_readNumber 13 = .ok (.invokevirtual 90, 3) := by decide +kernel
theorem dX4_readNumber_16 : decode cX4_readNumber 16 = .ok (.istore_n 3, 1) := by decide +kernel
theorem dX4_readNumber_17 : decode cX4_readNumber 17 = .ok (.aload_n 0, 1) := by decide +kernel
theorem dX4_readNumber_18 : decode cX4_readNumber 18 = .ok (.getfield 9, 3) := by decide +kernel
theorem dX4_readNumber_21 : decode cX4_readNumber 21 = .ok (.iload_n 1, 1) := by decide +kernel
theorem dX4_readNumber_22 : decode cX4_readNumber 22 = .ok (.iload_n 3, 1) := by decide +kernel
theorem dX4_readNumber_23 : decode cX4_readNumber 23 = .ok (.iconst (-1), 1) := by decide +kernel
theorem dX4_readNumber_24 : decode cX4_readNumber 24 = .ok (.if_icmp .ne 7, 3) := by decide +kernel
theorem dX4_readNumber_27 : decode cX4_readNumber 27 = .ok (.iload_n 2, 1) := by decide +kernel
theorem dX4_readNumber_28 : decode cX4_readNumber 28 = .ok (.goto 9, 3) := by decide +kernel
theorem dX4_readNumber_31 : decode cX4_readNumber 31 = .ok (.bipush 10, 2) := by decide +kernel
theorem dX4_readNumber_33 : decode cX4_readNumber 33 = .ok (.iload_n 2, 1) := by decide +kernel
theorem dX4_readNumber_34 : decode cX4_readNumber 34 = .ok (.imul, 1) := by decide +kernel
theorem dX4_readNumber_35 : decode cX4_readNumber 35 = .ok (.iload_n 3, 1) := by decide +kernel
theorem dX4_readNumber_36 : decode cX4_readNumber 36 = .ok (.iadd, 1) := by decide +kernel
theorem dX4_readNumber_37 : decode cX4_readNumber 37 = .ok (.invokestatic 96, 3) := by decide +kernel
theorem dX4_readNumber_40 : decode cX4_readNumber 40 = .ok (.iconst 1, 1) := by decide +kernel
theorem dX4_readNumber_41 : decode cX4_readNumber 41 = .ok (.ireturn, 1) := by decide +kernel
theorem dX4_nextFigure_0 : decode cX4_nextFigure 0 = .ok (.aload_n 0, 1) := by decide +kernel
theorem dX4_nextFigure_1 : decode cX4_nextFigure 1 = .ok (.getfield 31, 3) := by decide +kernel
theorem dX4_nextFigure_4 : decode cX4_nextFigure 4 = .ok (.aload_n 0, 1) := by decide +kernel
theorem dX4_nextFigure_5 : decode cX4_nextFigure 5 = .ok (.getfield 27, 3) := by decide +kernel
theorem dX4_nextFigure_8 : decode cX4_nextFigure 8 = .ok (.if_icmp .ge 17, 3) := by decide +kernel
theorem dX4_nextFigure_11 : decode cX4_nextFigure 11 = .ok (.aload_n 0, 1) := by decide +kernel
theorem dX4_nextFigure_12 : decode cX4_nextFigure 12 = .ok (.getfield 15, 3) := by decide +kernel
theorem dX4_nextFigure_15 : decode cX4_nextFigure 15 = .ok (.aload_n 0, 1) := by decide +kernel
theorem dX4_nextFigure_16 : decode cX4_nextFigure 16 = .ok (.getfield 31, 3) := by decide +kernel
theorem dX4_nextFigure_19 : decode cX4_nextFigure 19 = .ok (.invokestatic 49, 3) := by decide +kernel
theorem dX4_nextFigure_22 : decode cX4_nextFigure 22 = .ok (.goto 4, 3) := by decide +kernel
theorem dX4_nextFigure_25 : decode cX4_nextFigure 25 = .ok (.iconst 0, 1) := by decide +kernel
theorem dX4_nextFigure_26 : decode cX4_nextFigure 26 = .ok (.istore_n 1, 1) := by decide +kernel
theorem dX4_nextFigure_27 : decode cX4_nextFigure 27 = .ok (.iload_n 1, 1) := by decide +kernel
theorem dX4_nextFigure_28 : decode cX4_nextFigure 28 = .ok (.bipush 48, 2) := by decide +kernel
theorem dX4_nextFigure_30 : decode cX4_nextFigure 30 = .ok (.if_icmp .lt 9, 3) := by decide +kernel
theorem dX4_nextFigure_33 : decode cX4_nextFigure 33 = .ok (.iload_n 1, 1) := by decide +kernel
theorem dX4_nextFigure_34 : decode cX4_nextFigure 34 = .ok (.bipush 57, 2) := by decide +kernel
theorem dX4_nextFigure_36 : decode cX4_nextFigure 36 = .ok (.if_icmp .le 5, 3) := by decide +kernel
theorem dX4_nextFigure_39 : decode cX4_nextFigure 39 = .ok (.iconst (-1), 1) := by decide +kernel
theorem dX4_nextFigure_40 : decode cX4_nextFigure 40 = .ok (.ireturn, 1) := by decide +kernel
theorem dX4_nextFigure_41 : decode cX4_nextFigure 41 = .ok (.aload_n 0, 1) := by decide +kernel
theorem dX4_nextFigure_42 : decode cX4_nextFigure 42 = .ok (.dup, 1) := by decide +kernel
theorem dX4_nextFigure_43 : decode cX4_nextFigure 43 = .ok (.getfield 31, 3) := by decide +kernel
theorem dX4_nextFigure_46 : decode cX4_nextFigure 46 = .ok (.iconst 1, 1) := by decide +kernel
theorem dX4_nextFigure_47 : decode cX4_nextFigure 47 = .ok (.iadd, 1) := by decide +kernel
theorem dX4_nextFigure_48 : decode cX4_nextFigure 48 = .ok (.putfield 31, 3) := by decide +kernel
theorem dX4_nextFigure_51 : decode cX4_nextFigure 51 = .ok (.iload_n 1, 1) := by decide +kernel
theorem dX4_nextFigure_52 : decode cX4_nextFigure 52 = .ok (.bipush 48, 2) := by decide +kernel
theorem dX4_nextFigure_54 : decode cX4_nextFigure 54 = .ok (.isub, 1) := by decide +kernel
theorem dX4_nextFigure_55 : decode cX4_nextFigure 55 = .ok (.ireturn, 1) := by decide +kernel
theorem dX4_nextByte_0 : decode cX4_nextByte 0 = .ok (.aload_n 0, 1) := by decide +kernel
theorem dX4_nextByte_1 : decode cX4_nextByte 1 = .ok (.getfield 31, 3) := by decide +kernel
theorem dX4_nextByte_4 : decode cX4_nextByte 4 = .ok (.aload_n 0, 1) := by decide +kernel
theorem dX4_nextByte_5 : decode cX4_nextByte 5 = .ok (.getfield 27, 3) := by decide +kernel
theorem dX4_nextByte_8 : decode cX4_nextByte 8 = .ok (.if_icmp .ge 17, 3) := by decide +kernel
theorem dX4_nextByte_11 : decode cX4_nextByte 11 = .ok (.aload_n 0, 1) := by decide +kernel
theorem dX4_nextByte_12 : decode cX4_nextByte 12 = .ok (.getfield 15, 3) := by decide +kernel
theorem dX4_nextByte_15 : decode cX4_nextByte 15 = .ok (.aload_n 0, 1) := by decide +kernel
theorem dX4_nextByte_16 : decode cX4_nextByte 16 = .ok (.getfield 31, 3) := by decide +kernel
theorem dX4_nextByte_19 : decode cX4_nextByte 19 = .ok (.invokestatic 49, 3) := by decide +kernel
theorem dX4_nextByte_22 : decode cX4_nextByte 22 = .ok (.goto 4, 3) := by decide +kernel
theorem dX4_nextByte_25 : decode cX4_nextByte 25 = .ok (.iconst (-1), 1) := by decide +kernel
theorem dX4_nextByte_26 : decode cX4_nextByte 26 = .ok (.istore_n 1, 1) := by decide +kernel
theorem dX4_nextByte_27 : decode cX4_nextByte 27 = .ok (.aload_n 0, 1) := by decide +kernel
theorem dX4_nextByte_28 : decode cX4_nextByte 28 = .ok (.dup, 1) := by decide +kernel
theorem dX4_nextByte_29 : decode cX4_nextByte 29 = .ok (.getfield 31, 3) := by decide +kernel
theorem dX4_nextByte_32 : decode cX4_nextByte 32 = .ok (.iconst 1, 1) := by decide +kernel
theorem dX4_nextByte_33 : decode cX4_nextByte 33 = .ok (.iadd, 1) := by decide +kernel
theorem dX4_nextByte_34 : decode cX4_nextByte 34 = .ok (.putfield 31, 3) := by decide +kernel
theorem dX4_nextByte_37 : decode cX4_nextByte 37 = .ok (.iload_n 1, 1) := by decide +kernel
theorem dX4_nextByte_38 : decode cX4_nextByte 38 = .ok (.ireturn, 1) := by decide +kernel
theorem dX5_init_0 : decode cX5_init 0 = .ok (.aload_n 0, 1) := by decide +kernel
theorem dX5_init_1 : decode cX5_init 1 = .ok (.invokespecial 3, 3) := by decide +kernel
theorem dX5_init_4 : decode cX5_init 4 = .ok (.aload_n 0, 1) := by decide +kernel
theorem dX5_init_5 : decode cX5_init 5 = .ok (.sipush 1023, 3) := by decide +kernel
theorem dX5_init_8 : decode cX5_init 8 = .ok (.putfield 9, 3) := by decide +kernel
theorem dX5_init_11 : decode cX5_init 11 = .ok (.aload_n 0, 1) := by decide +kernel
theorem dX5_init_12 : decode cX5_init 12 = .ok (.sipush 720, 3) := by decide +kernel
theorem dX5_init_15 : decode cX5_init 15 = .ok (.newarray .int, 2) := by decide +kernel
theorem dX5_init_17 : decode cX5_init 17 = .ok (.putfield 15, 3) := by decide +kernel
theorem dX5_init_20 : decode cX5_init 20 = .ok (.aload_n 0, 1) := by decide +kernel
theorem dX5_init_21 : decode cX5_init 21 = .ok (.sipush 720, 3) := by decide +kernel
theorem dX5_init_24 : decode cX5_init 24 = .ok (.newarray .int, 2) := by decide +kernel
theorem dX5_init_26 : decode cX5_init 26 = .ok (.putfield 19, 3) := by decide +kernel
theorem dX5_init_29 : decode cX5_init 29 = .ok (.aload_n 0, 1) := by decide +kernel
theorem dX5_init_30 : decode cX5_init 30 = .ok (.sipush 720, 3) := by decide +kernel
theorem dX5_init_33 : decode cX5_init 33 = .ok (.newarray .int, 2) := by decide +kernel
theorem dX5_init_35 : decode cX5_init 35 = .ok (.putfield 22, 3) := by decide +kernel
theorem dX5_init_38 : decode cX5_init 38 = .ok (.aload_n 0, 1) := by decide +kernel
theorem dX5_init_39 : decode cX5_init 39 = .ok (.aload_n 1, 1) := by decide +kernel
theorem dX5_init_40 : decode cX5_init 40 = .ok (.putfield 25, 3) := by decide +kernel
theorem dX5_init_43 : decode cX5_init 43 = .ok (.return_, 1) := by decide +kernel
theorem dX5_forget_0 : decode cX5_forget 0 = .ok (.aload_n 0, 1) := by decide +kernel
theorem dX5_forget_1 : decode cX5_forget 1 = .ok (.sipush 1023, 3) := by decide +kernel
theorem dX5_forget_4 : decode cX5_forget 4 = .ok (.putfield 9, 3) := by decide +kernel
theorem dX5_forget_7 : decode cX5_forget 7 = .ok (.aload_n 0, 1) := by decide +kernel
theorem dX5_forget_8 : decode cX5_forget 8 = .ok (.iconst 0, 1) := by decide +kernel
theorem dX5_forget_9 : decode cX5_forget 9 = .ok (.putfield 29, 3) := by decide +kernel
theorem dX5_forget_12 : decode cX5_forget 12 = .ok (.aload_n 0, 1) := by decide +kernel
theorem dX5_forget_13 : decode cX5_forget 13 = .ok (.iconst 0, 1) := by decide +kernel
theorem dX5_forget_14 : decode cX5_forget 14 = .ok (.putfield 32, 3) := by decide +kernel
theorem dX5_forget_17 : decode cX5_forget 17 = .ok (.return_, 1) := by decide +kernel
theorem dX5_startFrom_0 : decode cX5_startFrom 0 = .ok (.iload_n 1, 1) := by decide +kernel
theorem dX5_startFrom_1 : decode cX5_startFrom 1 = .ok (.aload_n 0, 1) := by decide +kernel
theorem dX5_startFrom_2 : decode cX5_startFrom 2 = .ok (.getfield 9, 3) := by decide +kernel
theorem dX5_startFrom_5 : decode cX5_startFrom 5 = .ok (.if_icmp .ne 4, 3) := by decide +kernel
theorem dX5_startFrom_8 : decode cX5_startFrom 8 = .ok (.return_, 1) := by decide +kernel
theorem dX5_startFrom_9 : decode cX5_startFrom 9 = .ok (.aload_n 0, 1) := by decide +kernel
theorem dX5_startFrom_10 : decode cX5_startFrom 10 = .ok (.invokevirtual 35, 3) := by decide +kernel
theorem dX5_startFrom_13 : decode cX5_startFrom 13 = .ok (.aload_n 0, 1) := by decide +kernel
theorem dX5_startFrom_14 : decode cX5_startFrom 14 = .ok (.iload_n 1, 1) := by decide +kernel
theorem dX5_startFrom_15 : decode cX5_startFrom 15 = .ok (.putfield 9, 3) := by decide +kernel
theorem dX5_startFrom_18 : decode cX5_startFrom 18 = .ok (.aload_n 0, 1) := by decide +kernel
theorem dX5_startFrom_19 : decode cX5_startFrom 19 = .ok (.getfield 19, 3) := by decide +kernel
theorem dX5_startFrom_22 : decode cX5_startFrom 22 = .ok (.iconst (-1), 1) := by decide +kernel
theorem dX5_startFrom_23 : decode cX5_startFrom 23 = .ok (.invokestatic 38, 3) := by decide +kernel
theorem dX5_startFrom_26 : decode cX5_startFrom 26 = .ok (.aload_n 0, 1) := by decide +kernel
theorem dX5_startFrom_27 : decode cX5_startFrom 27 = .ok (.iload_n 1, 1) := by decide +kernel
theorem dX5_startFrom_28 : decode cX5_startFrom 28 = .ok (.iconst 0, 1) := by decide +kernel
theorem dX5_startFrom_29 : decode cX5_startFrom 29 = .ok (.iconst 0, 1) := by decide +kernel
theorem dX5_startFrom_30 : decode cX5_startFrom 30 = .ok (.invokevirtual 44, 3) := by decide +kernel
theorem dX5_startFrom_33 : decode cX5_startFrom 33 = .ok (.return_, 1) := by decide +kernel
theorem dX5_reachedAs_0 : decode cX5_reachedAs 0 = .ok (.aload_n 0, 1) := by decide +kernel
theorem dX5_reachedAs_1 : decode cX5_reachedAs 1 = .ok (.getfield 25, 3) := by decide +kernel
theorem dX5_reachedAs_4 : decode cX5_reachedAs 4 = .ok (.getfield 48, 3) := by decide +kernel
theorem dX5_reachedAs_7 : decode cX5_reachedAs 7 = .ok (.getfield 54, 3) := by decide +kernel
theorem dX5_reachedAs_10 : decode cX5_reachedAs 10 = .ok (.istore_n 3, 1) := by decide +kernel
theorem dX5_reachedAs_11 : decode cX5_reachedAs 11 = .ok (.aload_n 0, 1) := by decide +kernel
theorem dX5_reachedAs_12 : decode cX5_reachedAs 12 = .ok (.getfield 32, 3) := by decide +kernel
theorem dX5_reachedAs_15 : decode cX5_reachedAs 15 = .ok (.aload_n 0, 1) := by decide +kernel
theorem dX5_reachedAs_16 : decode cX5_reachedAs 16 = .ok (.getfield 29, 3) := by decide +kernel
theorem dX5_reachedAs_19 : decode cX5_reachedAs 19 = .ok (.if_icmp .ge 149, 3) := by decide +kernel
theorem dX5_reachedAs_22 : decode cX5_reachedAs 22 = .ok (.aload_n 0, 1) := by decide +kernel
theorem dX5_reachedAs_23 : decode cX5_reachedAs 23 = .ok (.getfield 29, 3) := by decide +kernel
theorem dX5_reachedAs_26 : decode cX5_reachedAs 26 = .ok (.iload_n 1, 1) := by decide +kernel
theorem dX5_reachedAs_27 : decode cX5_reachedAs 27 = .ok (.if_icmp .gt 141, 3) := by decide +kernel
theorem dX5_reachedAs_30 : decode cX5_reachedAs 30 = .ok (.aload_n 0, 1) := by decide +kernel
theorem dX5_reachedAs_31 : decode cX5_reachedAs 31 = .ok (.aload_n 0, 1) := by decide +kernel
theorem dX5_reachedAs_32 : decode cX5_reachedAs 32 = .ok (.getfield 32, 3) := by decide +kernel
theorem dX5_reachedAs_35 : decode cX5_reachedAs 35 = .ok (.invokevirtual 59, 3) := by decide +kernel
theorem dX5_reachedAs_38 : decode cX5_reachedAs 38 = .ok (.iload_n 2, 1) := by decide +kernel
theorem dX5_reachedAs_39 : decode cX5_reachedAs 39 = .ok (.iconst 1, 1) := by decide +kernel
theorem dX5_reachedAs_40 : decode cX5_reachedAs 40 = .ok (.isub, 1) := by decide +kernel
theorem dX5_reachedAs_41 : decode cX5_reachedAs 41 = .ok (.if_icmp .ge 127, 3) := by decide +kernel
theorem dX5_reachedAs_44 : decode cX5_reachedAs 44 = .ok (.aload_n 0, 1) := by decide +kernel
theorem dX5_reachedAs_45 : decode cX5_reachedAs 45 = .ok (.getfield 15, 3) := by decide +kernel
theorem dX5_reachedAs_48 : decode cX5_reachedAs 48 = .ok (.aload_n 0, 1) := by decide +kernel
theorem dX5_reachedAs_49 : decode cX5_reachedAs 49 = .ok (.getfield 32, 3) := by decide +kernel
theorem dX5_reachedAs_52 : decode cX5_reachedAs 52 = .ok (.invokestatic 63, 3) := by decide +kernel
theorem dX5_reachedAs_55 : decode cX5_reachedAs 55 = .ok (.istore 4, 2) := by decide +kernel
theorem dX5_reachedAs_57 : decode cX5_reachedAs 57 = .ok (.aload_n 0, 1) := by decide +kernel
theorem dX5_reachedAs_58 : decode cX5_reachedAs 58 = .ok (.aload_n 0, 1) := by decide +kernel
theorem dX5_reachedAs_59 : decode cX5_reachedAs 59 = .ok (.getfield 32, 3) := by decide +kernel
theorem dX5_reachedAs_62 : decode cX5_reachedAs 62 = .ok (.invokevirtual 59, 3) := by decide +kernel
theorem dX5_reachedAs_65 : decode cX5_reachedAs 65 = .ok (.iconst 1, 1) := by decide +kernel
theorem dX5_reachedAs_66 : decode cX5_reachedAs 66 = .ok (.iadd, 1) := by decide +kernel
theorem dX5_reachedAs_67 : decode cX5_reachedAs 67 = .ok (.istore 5, 2) := by decide +kernel
theorem dX5_reachedAs_69 : decode cX5_reachedAs 69 = .ok (.iconst 0, 1) := by decide +kernel
theorem dX5_reachedAs_70 : decode cX5_reachedAs 70 = .ok (.istore 6, 2) := by decide +kernel
theorem dX5_reachedAs_72 : decode cX5_reachedAs 72 = .ok (.iload 6, 2) := by decide +kernel
theorem dX5_reachedAs_74 : decode cX5_reachedAs 74 = .ok (.iload_n 3, 1) := by decide +kernel
theorem dX5_reachedAs_75 : decode cX5_reachedAs 75 = .ok (.if_icmp .ge 80, 3) := by decide +kernel
theorem dX5_reachedAs_78 : decode cX5_reachedAs 78 = .ok (.aload_n 0, 1) := by decide +kernel
theorem dX5_reachedAs_79 : decode cX5_reachedAs 79 = .ok (.getfield 25, 3) := by decide +kernel
theorem dX5_reachedAs_82 : decode cX5_reachedAs 82 = .ok (.iload 4, 2) := by decide +kernel
theorem dX5_reachedAs_84 : decode cX5_reachedAs 84 = .ok (.iload 6, 2) := by decide +kernel
theorem dX5_reachedAs_86 : decode cX5_reachedAs 86 = .ok (.invokevirtual 67, 3) := by decide +kernel
theorem dX5_reachedAs_89 : decode cX5_reachedAs 89 = .ok (.lstore 7, 2) := by decide +kernel
theorem dX5_reachedAs_91 : decode cX5_reachedAs 91 = .ok (.iconst 0, 1) := by decide +kernel
theorem dX5_reachedAs_92 : decode cX5_reachedAs 92 = .ok (.istore 9, 2) := by decide +kernel
theorem dX5_reachedAs_94 : decode cX5_reachedAs 94 = .ok (.iload 9, 2) := by decide +kernel
theorem dX5_reachedAs_96 : decode cX5_reachedAs 96 = .ok (.iload_n 3, 1) := by decide +kernel
theorem dX5_reachedAs_97 : decode cX5_reachedAs 97 = .ok (.if_icmp .ge 52, 3) := by decide +kernel
theorem dX5_reachedAs_100 : decode cX5_reachedAs 100 = .ok (.iload 5, 2) := by decide +kernel
theorem dX5_reachedAs_102 : decode cX5_reachedAs 102 = .ok (.iconst 1, 1) := by decide +kernel
theorem dX5_reachedAs_103 : decode cX5_reachedAs 103 = .ok (.if_icmp .ne 14, 3) := by decide +kernel
theorem dX5_reachedAs_106 : decode cX5_reachedAs 106 = .ok (.bipush 10, 2) := by decide +kernel
theorem dX5_reachedAs_108 : decode cX5_reachedAs 108 = .ok (.iload 6, 2) := by decide +kernel
theorem dX5_reachedAs_110 : decode cX5_reachedAs 110 = .ok (.imul, 1) := by decide +kernel
theorem dX5_reachedAs_111 : decode cX5_reachedAs 111 = .ok (.iload 9, 2) := by decide +kernel
theorem dX5_reachedAs_113 : decode cX5_reachedAs 113 = .ok (.iadd, 1) := by decide +kernel
theorem dX5_reachedAs_114 : decode cX5_reachedAs 114 = .ok (.goto 12, 3) := by decide +kernel
theorem dX5_reachedAs_117 : decode cX5_reachedAs 117 = .ok (.aload_n 0, 1) := by decide +kernel
theorem dX5_reachedAs_118 : decode cX5_reachedAs 118 = .ok (.getfield 22, 3) := by decide +kernel
theorem dX5_reachedAs_121 : decode cX5_reachedAs 121 = .ok (.iload 4, 2) := by decide +kernel
theorem dX5_reachedAs_123 : decode cX5_reachedAs 123 = .ok (.invokestatic 63, 3) := by decide +kernel
theorem dX5_reachedAs_126 : decode cX5_reachedAs 126 = .ok (.istore 10, 2) := by decide +kernel
theorem dX5_reachedAs_128 : decode cX5_reachedAs 128 = .ok (.aload_n 0, 1) := by decide +kernel
theorem dX5_reachedAs_129 : decode cX5_reachedAs 129 = .ok (.lload 7, 2) := by decide +kernel
theorem dX5_reachedAs_131 : decode cX5_reachedAs 131 = .ok (.iload 9, 2) := by decide +kernel
theorem dX5_reachedAs_133 : decode cX5_reachedAs 133 = .ok (.invokestatic 71, 3) := by decide +kernel
theorem dX5_reachedAs_136 : decode cX5_reachedAs 136 = .ok (.iload 5, 2) := by decide +kernel
theorem dX5_reachedAs_138 : decode cX5_reachedAs 138 = .ok (.iload 10, 2) := by decide +kernel
theorem dX5_reachedAs_140 : decode cX5_reachedAs 140 = .ok (.invokevirtual 44, 3) := by decide +kernel
theorem dX5_reachedAs_143 : decode cX5_reachedAs 143 = .ok (.iinc 9 1, 3) := by decide +kernel
theorem dX5_reachedAs_146 : decode cX5_reachedAs 146 = .ok (.goto (-52), 3) := by decide +kernel
theorem dX5_reachedAs_149 : decode cX5_reachedAs 149 = .ok (.iinc 6 1, 3) := by decide +kernel
theorem dX5_reachedAs_152 : decode cX5_reachedAs 152 = .ok (.goto (-80), 3) := by decide +kernel
theorem dX5_reachedAs_155 : decode cX5_reachedAs 155 = .ok (.aload_n 0, 1) := by decide +kernel
theorem dX5_reachedAs_156 : decode cX5_reachedAs 156 = .ok (.dup, 1) := by decide +kernel
theorem dX5_reachedAs_157 : decode cX5_reachedAs 157 = .ok (.getfield 32, 3) := by decide +kernel
theorem dX5_reachedAs_160 : decode cX5_reachedAs 160 = .ok (.iconst 1, 1) := by decide +kernel
theorem dX5_reachedAs_161 : decode cX5_reachedAs 161 = .ok (.iadd, 1) := by decide +kernel
theorem dX5_reachedAs_162 : decode cX5_reachedAs 162 = .ok (.putfield 32, 3) := by decide +kernel
theorem dX5_reachedAs_165 : decode cX5_reachedAs 165 = .ok (.goto (-154), 3) := by decide +kernel
theorem dX5_reachedAs_168 : decode cX5_reachedAs 168 = .ok (.iload_n 1, 1) := by decide +kernel
theorem dX5_reachedAs_169 : decode cX5_reachedAs 169 = .ok (.aload_n 0, 1) := by decide +kernel
theorem dX5_reachedAs_170 : decode cX5_reachedAs 170 = .ok (.getfield 29, 3) := by decide +kernel
theorem dX5_reachedAs_173 : decode cX5_reachedAs 173 = .ok (.if_icmp .ge 23, 3) := by decide +kernel
theorem dX5_reachedAs_176 : decode cX5_reachedAs 176 = .ok (.aload_n 0, 1) := by decide +kernel
theorem dX5_reachedAs_177 : decode cX5_reachedAs 177 = .ok (.iload_n 1, 1) := by decide +kernel
theorem dX5_reachedAs_178 : decode cX5_reachedAs 178 = .ok (.invokevirtual 59, 3) := by decide +kernel
theorem dX5_reachedAs_181 : decode cX5_reachedAs 181 = .ok (.iload_n 2, 1) := by decide +kernel
theorem dX5_reachedAs_182 : decode cX5_reachedAs 182 = .ok (.if_icmp .ge 14, 3) := by decide +kernel
theorem dX5_reachedAs_185 : decode cX5_reachedAs 185 = .ok (.aload_n 0, 1) := by decide +kernel
theorem dX5_reachedAs_186 : decode cX5_reachedAs 186 = .ok (.getfield 15, 3) := by decide +kernel
theorem dX5_reachedAs_189 : decode cX5_reachedAs 189 = .ok (.iload_n 1, 1) := by decide +kernel
theorem dX5_reachedAs_190 : decode cX5_reachedAs 190 = .ok (.invokestatic 63, 3) := by decide +kernel
theorem dX5_reachedAs_193 : decode cX5_reachedAs 193 = .ok (.goto 6, 3) := by decide +kernel
theorem dX5_reachedAs_196 : decode cX5_reachedAs 196 = .ok (.sipush 1023, 3) := by decide +kernel
theorem dX5_reachedAs_199 : decode cX5_reachedAs 199 = .ok (.ireturn, 1) := by decide +kernel
theorem dX5_stepsAs_0 : decode cX5_stepsAs 0 = .ok (.aload_n 0, 1) := by decide +kernel
theorem dX5_stepsAs_1 : decode cX5_stepsAs 1 = .ok (.getfield 19, 3) := by decide +kernel
theorem dX5_stepsAs_4 : decode cX5_stepsAs 4 = .ok (.aload_n 0, 1) := by decide +kernel
theorem dX5_stepsAs_5 : decode cX5_stepsAs 5 = .ok (.getfield 15, 3) := by decide +kernel
theorem dX5_stepsAs_8 : decode cX5_stepsAs 8 = .ok (.iload_n 1, 1) := by decide +kernel
theorem dX5_stepsAs_9 : decode cX5_stepsAs 9 = .ok (.invokestatic 63, 3) := by decide +kernel
theorem dX5_stepsAs_12 : decode cX5_stepsAs 12 = .ok (.invokestatic 63, 3) := by decide +kernel
theorem dX5_stepsAs_15 : decode cX5_stepsAs 15 = .ok (.ireturn, 1) := by decide +kernel
theorem dX5_reach_0 : decode cX5_reach 0 = .ok (.iload_n 1, 1) := by decide +kernel
theorem dX5_reach_1 : decode cX5_reach 1 = .ok (.ifCond .lt 56, 3) := by decide +kernel
theorem dX5_reach_4 : decode cX5_reach 4 = .ok (.iload_n 1, 1) := by decide +kernel
theorem dX5_reach_5 : decode cX5_reach 5 = .ok (.sipush 720, 3) := by decide +kernel
theorem dX5_reach_8 : decode cX5_reach 8 = .ok (.if_icmp .ge 49, 3) := by decide +kernel
theorem dX5_reach_11 : decode cX5_reach 11 = .ok (.aload_n 0, 1) := by decide +kernel
theorem dX5_reach_12 : decode cX5_reach 12 = .ok (.getfield 19, 3) := by decide +kernel
theorem dX5_reach_15 : decode cX5_reach 15 = .ok (.iload_n 1, 1) := by decide +kernel
theorem dX5_reach_16 : decode cX5_reach 16 = .ok (.iaload, 1) := by decide +kernel
theorem dX5_reach_17 : decode cX5_reach 17 = .ok (.iconst (-1), 1) := by decide +kernel
theorem dX5_reach_18 : decode cX5_reach 18 = .ok (.if_icmp .ne 39, 3) := by decide +kernel
theorem dX5_reach_21 : decode cX5_reach 21 = .ok (.aload_n 0, 1) := by decide +kernel
theorem dX5_reach_22 : decode cX5_reach 22 = .ok (.getfield 19, 3) := by decide +kernel
theorem dX5_reach_25 : decode cX5_reach 25 = .ok (.iload_n 1, 1) := by decide +kernel
theorem dX5_reach_26 : decode cX5_reach 26 = .ok (.iload_n 2, 1) := by decide +kernel
theorem dX5_reach_27 : decode cX5_reach 27 = .ok (.iastore, 1) := by decide +kernel
theorem dX5_reach_28 : decode cX5_reach 28 = .ok (.aload_n 0, 1) := by decide +kernel
theorem dX5_reach_29 : decode cX5_reach 29 = .ok (.getfield 22, 3) := by decide +kernel
theorem dX5_reach_32 : decode cX5_reach 32 = .ok (.iload_n 1, 1) := by decide +kernel
theorem dX5_reach_33 : decode cX5_reach 33 = .ok (.iload_n 3, 1) := by decide +kernel
theorem dX5_reach_34 : decode cX5_reach 34 = .ok (.iastore, 1) := by decide +kernel
theorem dX5_reach_35 : decode cX5_reach 35 = .ok (.aload_n 0, 1) := by decide +kernel
theorem dX5_reach_36 : decode cX5_reach 36 = .ok (.getfield 15, 3) := by decide +kernel
theorem dX5_reach_39 : decode cX5_reach 39 = .ok (.aload_n 0, 1) := by decide +kernel
theorem dX5_reach_40 : decode cX5_reach 40 = .ok (.getfield 29, 3) := by decide +kernel
theorem dX5_reach_43 : decode cX5_reach 43 = .ok (.iload_n 1, 1) := by decide +kernel
theorem dX5_reach_44 : decode cX5_reach 44 = .ok (.invokestatic 75, 3) := by decide +kernel
theorem dX5_reach_47 : decode cX5_reach 47 = .ok (.aload_n 0, 1) := by decide +kernel
theorem dX5_reach_48 : decode cX5_reach 48 = .ok (.dup, 1) := by decide +kernel
theorem dX5_reach_49 : decode cX5_reach 49 = .ok (.getfield 29, 3) := by decide +kernel
theorem dX5_reach_52 : decode cX5_reach 52 = .ok (.iconst 1, 1) := by decide +kernel
theorem dX5_reach_53 : decode cX5_reach 53 = .ok (.iadd, 1) := by decide +kernel
theorem dX5_reach_54 : decode cX5_reach 54 = .ok (.putfield 29, 3) := by decide +kernel
theorem dX5_reach_57 : decode cX5_reach 57 = .ok (.return_, 1) := by decide +kernel
theorem dX5_stepsTo_0 : decode cX5_stepsTo 0 = .ok (.aload_n 0, 1) := by decide +kernel
theorem dX5_stepsTo_1 : decode cX5_stepsTo 1 = .ok (.iload_n 1, 1) := by decide +kernel
theorem dX5_stepsTo_2 : decode cX5_stepsTo 2 = .ok (.iload_n 2, 1) := by decide +kernel
theorem dX5_stepsTo_3 : decode cX5_stepsTo 3 = .ok (.invokevirtual 79, 3) := by decide +kernel
theorem dX5_stepsTo_6 : decode cX5_stepsTo 6 = .ok (.istore_n 3, 1) := by decide +kernel
theorem dX5_stepsTo_7 : decode cX5_stepsTo 7 = .ok (.iload_n 3, 1) := by decide +kernel
theorem dX5_stepsTo_8 : decode cX5_stepsTo 8 = .ok (.ifCond .ge 8, 3) := by decide +kernel
theorem dX5_stepsTo_11 : decode cX5_stepsTo 11 = .ok (.bipush (-4), 2) := by decide +kernel
theorem dX5_stepsTo_13 : decode cX5_stepsTo 13 = .ok (.goto 8, 3) := by decide +kernel
theorem dX5_stepsTo_16 : decode cX5_stepsTo 16 = .ok (.aload_n 0, 1) := by decide +kernel
theorem dX5_stepsTo_17 : decode cX5_stepsTo 17 = .ok (.iload_n 3, 1) := by decide +kernel
theorem dX5_stepsTo_18 : decode cX5_stepsTo 18 = .ok (.invokevirtual 59, 3) := by decide +kernel
theorem dX5_stepsTo_21 : decode cX5_stepsTo 21 = .ok (.ireturn, 1) := by decide +kernel
theorem dX5_openingTo_0 : decode cX5_openingTo 0 = .ok (.aload_n 0, 1) := by decide +kernel
theorem dX5_openingTo_1 : decode cX5_openingTo 1 = .ok (.iload_n 1, 1) := by decide +kernel
theorem dX5_openingTo_2 : decode cX5_openingTo 2 = .ok (.iload_n 2, 1) := by decide +kernel
theorem dX5_openingTo_3 : decode cX5_openingTo 3 = .ok (.invokevirtual 79, 3) := by decide +kernel
theorem dX5_openingTo_6 : decode cX5_openingTo 6 = .ok (.istore_n 3, 1) := by decide +kernel
theorem dX5_openingTo_7 : decode cX5_openingTo 7 = .ok (.iload_n 3, 1) := by decide +kernel
theorem dX5_openingTo_8 : decode cX5_openingTo 8 = .ok (.ifCond .gt 8, 3) := by decide +kernel
theorem dX5_openingTo_11 : decode cX5_openingTo 11 = .ok (.bipush (-4), 2) := by decide +kernel
theorem dX5_openingTo_13 : decode cX5_openingTo 13 = .ok (.goto 18, 3) := by decide +kernel
theorem dX5_openingTo_16 : decode cX5_openingTo 16 = .ok (.aload_n 0, 1) := by decide +kernel
theorem dX5_openingTo_17 : decode cX5_openingTo 17 = .ok (.getfield 22, 3) := by decide +kernel
theorem dX5_openingTo_20 : decode cX5_openingTo 20 = .ok (.aload_n 0, 1) := by decide +kernel
theorem dX5_openingTo_21 : decode cX5_openingTo 21 = .ok (.getfield 15, 3) := by decide +kernel
theorem dX5_openingTo_24 : decode cX5_openingTo 24 = .ok (.iload_n 3, 1) := by decide +kernel
theorem dX5_openingTo_25 : decode cX5_openingTo 25 = .ok (.invokestatic 63, 3) := by decide +kernel
theorem dX5_openingTo_28 : decode cX5_openingTo 28 = .ok (.invokestatic 63, 3) := by decide +kernel
theorem dX5_openingTo_31 : decode cX5_openingTo 31 = .ok (.ireturn, 1) := by decide +kernel
theorem dX5_firstWith_0 : decode cX5_firstWith 0 = .ok (.aload_n 0, 1) := by decide +kernel
theorem dX5_firstWith_1 : decode cX5_firstWith 1 = .ok (.getfield 25, 3) := by decide +kernel
theorem dX5_firstWith_4 : decode cX5_firstWith 4 = .ok (.getfield 48, 3) := by decide +kernel
theorem dX5_firstWith_7 : decode cX5_firstWith 7 = .ok (.getfield 83, 3) := by decide +kernel
theorem dX5_firstWith_10 : decode cX5_firstWith 10 = .ok (.iload_n 2, 1) := by decide +kernel
theorem dX5_firstWith_11 : decode cX5_firstWith 11 = .ok (.invokestatic 86, 3) := by decide +kernel
theorem dX5_firstWith_14 : decode cX5_firstWith 14 = .ok (.ifCond .ge 5, 3) := by decide +kernel
theorem dX5_firstWith_17 : decode cX5_firstWith 17 = .ok (.iconst (-1), 1) := by decide +kernel
theorem dX5_firstWith_18 : decode cX5_firstWith 18 = .ok (.ireturn, 1) := by decide +kernel
theorem dX5_firstWith_19 : decode cX5_firstWith 19 = .ok (.iconst 0, 1) := by decide +kernel
theorem dX5_firstWith_20 : decode cX5_firstWith 20 = .ok (.istore_n 3, 1) := by decide +kernel
theorem dX5_firstWith_21 : decode cX5_firstWith 21 = .ok (.iload_n 3, 1) := by decide +kernel
theorem dX5_firstWith_22 : decode cX5_firstWith 22 = .ok (.sipush 720, 3) := by decide +kernel
theorem dX5_firstWith_25 : decode cX5_firstWith 25 = .ok (.if_icmp .ge 50, 3) := by decide +kernel
theorem dX5_firstWith_28 : decode cX5_firstWith 28 = .ok (.aload_n 0, 1) := by decide +kernel
theorem dX5_firstWith_29 : decode cX5_firstWith 29 = .ok (.iload_n 3, 1) := by decide +kernel
theorem dX5_firstWith_30 : decode cX5_firstWith 30 = .ok (.ldc 89, 2) := by decide +kernel
theorem dX5_firstWith_32 : decode cX5_firstWith 32 = .ok (.invokevirtual 90, 3) := by decide +kernel
theorem dX5_firstWith_35 : decode cX5_firstWith 35 = .ok (.istore 4, 2) := by decide +kernel
theorem dX5_firstWith_37 : decode cX5_firstWith 37 = .ok (.iload 4, 2) := by decide +kernel
theorem dX5_firstWith_39 : decode cX5_firstWith 39 = .ok (.sipush 1023, 3) := by decide +kernel
theorem dX5_firstWith_42 : decode cX5_firstWith 42 = .ok (.if_icmp .ne 5, 3) := by decide +kernel
theorem dX5_firstWith_45 : decode cX5_firstWith 45 = .ok (.iconst (-1), 1) := by decide +kernel
theorem dX5_firstWith_46 : decode cX5_firstWith 46 = .ok (.ireturn, 1) := by decide +kernel
theorem dX5_firstWith_47 : decode cX5_firstWith 47 = .ok (.aload_n 0, 1) := by decide +kernel
theorem dX5_firstWith_48 : decode cX5_firstWith 48 = .ok (.getfield 25, 3) := by decide +kernel
theorem dX5_firstWith_51 : decode cX5_firstWith 51 = .ok (.getfield 93, 3) := by decide +kernel
theorem dX5_firstWith_54 : decode cX5_firstWith 54 = .ok (.iload 4, 2) := by decide +kernel
theorem dX5_firstWith_56 : decode cX5_firstWith 56 = .ok (.invokevirtual 97, 3) := by decide +kernel
theorem dX5_firstWith_59 : decode cX5_firstWith 59 = .ok (.iload_n 1, 1) := by decide +kernel
theorem dX5_firstWith_60 : decode cX5_firstWith 60 = .ok (.invokestatic 102, 3) := by decide +kernel
theorem dX5_firstWith_63 : decode cX5_firstWith 63 = .ok (.iload_n 2, 1) := by decide +kernel
theorem dX5_firstWith_64 : decode cX5_firstWith 64 = .ok (.if_icmp .ne 5, 3) := by decide +kernel
theorem dX5_firstWith_67 : decode cX5_firstWith 67 = .ok (.iload_n 3, 1) := by decide +kernel
theorem dX5_firstWith_68 : decode cX5_firstWith 68 = .ok (.ireturn, 1) := by decide +kernel
theorem dX5_firstWith_69 : decode cX5_firstWith 69 = .ok (.iinc 3 1, 3) := by decide +kernel
theorem dX5_firstWith_72 : decode cX5_firstWith 72 = .ok (.goto (-51), 3) := by decide +kernel
theorem dX5_firstWith_75 : decode cX5_firstWith 75 = .ok (.iconst (-1), 1) := by decide +kernel
theorem dX5_firstWith_76 : decode cX5_firstWith 76 = .ok (.ireturn, 1) := by decide +kernel
theorem dX5_stepsToRest_0 : decode cX5_stepsToRest 0 = .ok (.iconst 0, 1) := by decide +kernel
theorem dX5_stepsToRest_1 : decode cX5_stepsToRest 1 = .ok (.istore_n 2, 1) := by decide +kernel
theorem dX5_stepsToRest_2 : decode cX5_stepsToRest 2 = .ok (.iload_n 2, 1) := by decide +kernel
theorem dX5_stepsToRest_3 : decode cX5_stepsToRest 3 = .ok (.sipush 720, 3) := by decide +kernel
theorem dX5_stepsToRest_6 : decode cX5_stepsToRest 6 = .ok (.if_icmp .ge 59, 3) := by decide +kernel
theorem dX5_stepsToRest_9 : decode cX5_stepsToRest 9 = .ok (.aload_n 0, 1) := by decide +kernel
theorem dX5_stepsToRest_10 : decode cX5_stepsToRest 10 = .ok (.iload_n 2, 1) := by decide +kernel
theorem dX5_stepsToRest_11 : decode cX5_stepsToRest 11 = .ok (.iload_n 1, 1) := by decide +kernel
theorem dX5_stepsToRest_12 : decode cX5_stepsToRest 12 = .ok (.invokevirtual 90, 3) := by decide +kernel
theorem dX5_stepsToRest_15 : decode cX5_stepsToRest 15 = .ok (.istore_n 3, 1) := by decide +kernel
theorem dX5_stepsToRest_16 : decode cX5_stepsToRest 16 = .ok (.iload_n 3, 1) := by decide +kernel
theorem dX5_stepsToRest_17 : decode cX5_stepsToRest 17 = .ok (.sipush 1023, 3) := by decide +kernel
theorem dX5_stepsToRest_20 : decode cX5_stepsToRest 20 = .ok (.if_icmp .ne 6, 3) := by decide +kernel
theorem dX5_stepsToRest_23 : decode cX5_stepsToRest 23 = .ok (.bipush (-4), 2) := by decide +kernel
theorem dX5_stepsToRest_25 : decode cX5_stepsToRest 25 = .ok (.ireturn, 1) := by decide +kernel
theorem dX5_stepsToRest_26 : decode cX5_stepsToRest 26 = .ok (.aload_n 0, 1) := by decide +kernel
theorem dX5_stepsToRest_27 : decode cX5_stepsToRest 27 = .ok (.getfield 25, 3) := by decide +kernel
theorem dX5_stepsToRest_30 : decode cX5_stepsToRest 30 = .ok (.getfield 48, 3) := by decide +kernel
theorem dX5_stepsToRest_33 : decode cX5_stepsToRest 33 = .ok (.aload_n 0, 1) := by decide +kernel
theorem dX5_stepsToRest_34 : decode cX5_stepsToRest 34 = .ok (.getfield 25, 3) := by decide +kernel
theorem dX5_stepsToRest_37 : decode cX5_stepsToRest 37 = .ok (.getfield 93, 3) := by decide +kernel
theorem dX5_stepsToRest_40 : decode cX5_stepsToRest 40 = .ok (.iload_n 3, 1) := by decide +kernel
theorem dX5_stepsToRest_41 : decode cX5_stepsToRest 41 = .ok (.invokevirtual 97, 3) := by decide +kernel
theorem dX5_stepsToRest_44 : decode cX5_stepsToRest 44 = .ok (.invokevirtual 105, 3) := by decide +kernel
theorem dX5_stepsToRest_47 : decode cX5_stepsToRest 47 = .ok (.ifCond .eq 12, 3) := by decide +kernel
theorem dX5_stepsToRest_50 : decode cX5_stepsToRest 50 = .ok (.aload_n 0, 1) := by decide +kernel
theorem dX5_stepsToRest_51 : decode cX5_stepsToRest 51 = .ok (.getfield 19, 3) := by decide +kernel
theorem dX5_stepsToRest_54 : decode cX5_stepsToRest 54 = .ok (.iload_n 3, 1) := by decide +kernel
theorem dX5_stepsToRest_55 : decode cX5_stepsToRest 55 = .ok (.invokestatic 63, 3) := by decide +kernel
theorem dX5_stepsToRest_58 : decode cX5_stepsToRest 58 = .ok (.ireturn, 1) := by decide +kernel
theorem dX5_stepsToRest_59 : decode cX5_stepsToRest 59 = .ok (.iinc 2 1, 3) := by decide +kernel
theorem dX5_stepsToRest_62 : decode cX5_stepsToRest 62 = .ok (.goto (-60), 3) := by decide +kernel
theorem dX5_stepsToRest_65 : decode cX5_stepsToRest 65 = .ok (.bipush (-4), 2) := by decide +kernel
theorem dX5_stepsToRest_67 : decode cX5_stepsToRest 67 = .ok (.ireturn, 1) := by decide +kernel
theorem dX5_pairsReached_0 : decode cX5_pairsReached 0 = .ok (.lconst 0, 1) := by decide +kernel
theorem dX5_pairsReached_1 : decode cX5_pairsReached 1 = .ok (.lstore_n 3, 1) := by decide +kernel
theorem dX5_pairsReached_2 : decode cX5_pairsReached 2 = .ok (.iconst 0, 1) := by decide +kernel
theorem dX5_pairsReached_3 : decode cX5_pairsReached 3 = .ok (.istore 5, 2) := by decide +kernel
theorem dX5_pairsReached_5 : decode cX5_pairsReached 5 = .ok (.iload 5, 2) := by decide +kernel
theorem dX5_pairsReached_7 : decode cX5_pairsReached 7 = .ok (.sipush 720, 3) := by decide +kernel
theorem dX5_pairsReached_10 : decode cX5_pairsReached 10 = .ok (.if_icmp .ge 55, 3) := by decide +kernel
theorem dX5_pairsReached_13 : decode cX5_pairsReached 13 = .ok (.lload_n 3, 1) := by decide +kernel
theorem dX5_pairsReached_14 : decode cX5_pairsReached 14 = .ok (.lload_n 1, 1) := by decide +kernel
theorem dX5_pairsReached_15 : decode cX5_pairsReached 15 = .ok (.lcmp, 1) := by decide +kernel
theorem dX5_pairsReached_16 : decode cX5_pairsReached 16 = .ok (.ifCond .eq 49, 3) := by decide +kernel
theorem dX5_pairsReached_19 : decode cX5_pairsReached 19 = .ok (.aload_n 0, 1) := by decide +kernel
theorem dX5_pairsReached_20 : decode cX5_pairsReached 20 = .ok (.iload 5, 2) := by decide +kernel
theorem dX5_pairsReached_22 : decode cX5_pairsReached 22 = .ok (.ldc 89, 2) := by decide +kernel
theorem dX5_pairsReached_24 : decode cX5_pairsReached 24 = .ok (.invokevirtual 90, 3) := by decide +kernel
theorem dX5_pairsReached_27 : decode cX5_pairsReached 27 = .ok (.istore 6, 2) := by decide +kernel
theorem dX5_pairsReached_29 : decode cX5_pairsReached 29 = .ok (.iload 6, 2) := by decide +kernel
theorem dX5_pairsReached_31 : decode cX5_pairsReached 31 = .ok (.sipush 1023, 3) := by decide +kernel
theorem dX5_pairsReached_34 : decode cX5_pairsReached 34 = .ok (.if_icmp .ne 5, 3) := by decide +kernel
theorem dX5_pairsReached_37 : decode cX5_pairsReached 37 = .ok (.lload_n 3, 1) := by decide +kernel
theorem dX5_pairsReached_38 : decode cX5_pairsReached 38 = .ok (.lreturn, 1) := by decide +kernel
theorem dX5_pairsReached_39 : decode cX5_pairsReached 39 = .ok (.lload_n 3, 1) := by decide +kernel
theorem dX5_pairsReached_40 : decode cX5_pairsReached 40 = .ok (.lload_n 1, 1) := by decide +kernel
theorem dX5_pairsReached_41 : decode cX5_pairsReached 41 = .ok (.aload_n 0, 1) := by decide +kernel
theorem dX5_pairsReached_42 : decode cX5_pairsReached 42 = .ok (.getfield 25, 3) := by decide +kernel
theorem dX5_pairsReached_45 : decode cX5_pairsReached 45 = .ok (.getfield 93, 3) := by decide +kernel
theorem dX5_pairsReached_48 : decode cX5_pairsReached 48 = .ok (.iload 6, 2) := by decide +kernel
theorem dX5_pairsReached_50 : decode cX5_pairsReached 50 = .ok (.invokevirtual 97, 3) := by decide +kernel
theorem dX5_pairsReached_53 : decode cX5_pairsReached 53 = .ok (.invokestatic 109, 3) := by decide +kernel
theorem dX5_pairsReached_56 : decode cX5_pairsReached 56 = .ok (.land, 1) := by decide +kernel
theorem dX5_pairsReached_57 : decode cX5_pairsReached 57 = .ok (.lor, 1) := by decide +kernel
theorem dX5_pairsReached_58 : decode cX5_pairsReached 58 = .ok (.lstore_n 3, 1) := by decide +kernel
theorem dX5_pairsReached_59 : decode cX5_pairsReached 59 = .ok (.iinc 5 1, 3) := by decide +kernel
theorem dX5_pairsReached_62 : decode cX5_pairsReached 62 = .ok (.goto (-57), 3) := by decide +kernel
theorem dX5_pairsReached_65 : decode cX5_pairsReached 65 = .ok (.lload_n 3, 1) := by decide +kernel
theorem dX5_pairsReached_66 : decode cX5_pairsReached 66 = .ok (.lreturn, 1) := by decide +kernel
theorem dX6_init_0 : decode cX6_init 0 = .ok (.aload_n 0, 1) := by decide +kernel
theorem dX6_init_1 : decode cX6_init 1 = .ok (.invokespecial 3, 3) := by decide +kernel
theorem dX6_init_4 : decode cX6_init 4 = .ok (.aload_n 0, 1) := by decide +kernel
theorem dX6_init_5 : decode cX6_init 5 = .ok (.sipush 720, 3) := by decide +kernel
theorem dX6_init_8 : decode cX6_init 8 = .ok (.newarray .int, 2) := by decide +kernel
theorem dX6_init_10 : decode cX6_init 10 = .ok (.putfield 9, 3) := by decide +kernel
theorem dX6_init_13 : decode cX6_init 13 = .ok (.aload_n 0, 1) := by decide +kernel
theorem dX6_init_14 : decode cX6_init 14 = .ok (.sipush 720, 3) := by decide +kernel
theorem dX6_init_17 : decode cX6_init 17 = .ok (.newarray .long, 2) := by decide +kernel
theorem dX6_init_19 : decode cX6_init 19 = .ok (.putfield 15, 3) := by decide +kernel
theorem dX6_init_22 : decode cX6_init 22 = .ok (.aload_n 0, 1) := by decide +kernel
theorem dX6_init_23 : decode cX6_init 23 = .ok (.sipush 720, 3) := by decide +kernel
theorem dX6_init_26 : decode cX6_init 26 = .ok (.newarray .long, 2) := by decide +kernel
theorem dX6_init_28 : decode cX6_init 28 = .ok (.putfield 19, 3) := by decide +kernel
theorem dX6_init_31 : decode cX6_init 31 = .ok (.aload_n 0, 1) := by decide +kernel
theorem dX6_init_32 : decode cX6_init 32 = .ok (.aload_n 1, 1) := by decide +kernel
theorem dX6_init_33 : decode cX6_init 33 = .ok (.putfield 22, 3) := by decide +kernel
theorem dX6_init_36 : decode cX6_init 36 = .ok (.return_, 1) := by decide +kernel
theorem dX6_leastPrice_0 : decode cX6_leastPrice 0 = .ok (.aload_n 0, 1) := by decide +kernel
theorem dX6_leastPrice_1 : decode cX6_leastPrice 1 = .ok (.getfield 9, 3) := by decide +kernel
theorem dX6_leastPrice_4 : decode cX6_leastPrice 4 = .ok (.ldc 26, 2) := by decide +kernel
theorem dX6_leastPrice_6 : decode cX6_leastPrice 6 = .ok (.invokestatic 27, 3) := by decide +kernel
theorem dX6_leastPrice_9 : decode cX6_leastPrice 9 = .ok (.aload_n 0, 1) := by decide +kernel
theorem dX6_leastPrice_10 : decode cX6_leastPrice 10 = .ok (.getfield 9, 3) := by decide +kernel
theorem dX6_leastPrice_13 : decode cX6_leastPrice 13 = .ok (.iload_n 1, 1) := by decide +kernel
theorem dX6_leastPrice_14 : decode cX6_leastPrice 14 = .ok (.iconst 0, 1) := by decide +kernel
theorem dX6_leastPrice_15 : decode cX6_leastPrice 15 = .ok (.invokestatic 33, 3) := by decide +kernel
theorem dX6_leastPrice_18 : decode cX6_leastPrice 18 = .ok (.aload_n 0, 1) := by decide +kernel
theorem dX6_leastPrice_19 : decode cX6_leastPrice 19 = .ok (.getfield 22, 3) := by decide +kernel
theorem dX6_leastPrice_22 : decode cX6_leastPrice 22 = .ok (.getfield 37, 3) := by decide +kernel
theorem dX6_leastPrice_25 : decode cX6_leastPrice 25 = .ok (.iload_n 1, 1) := by decide +kernel
theorem dX6_leastPrice_26 : decode cX6_leastPrice 26 = .ok (.invokevirtual 43, 3) := by decide +kernel
theorem dX6_leastPrice_29 : decode cX6_leastPrice 29 = .ok (.iload_n 2, 1) := by decide +kernel
theorem dX6_leastPrice_30 : decode cX6_leastPrice 30 = .ok (.invokestatic 49, 3) := by decide +kernel
theorem dX6_leastPrice_33 : decode cX6_leastPrice 33 = .ok (.iload_n 3, 1) := by decide +kernel
theorem dX6_leastPrice_34 : decode cX6_leastPrice 34 = .ok (.if_icmp .ne 5, 3) := by decide +kernel
theorem dX6_leastPrice_37 : decode cX6_leastPrice 37 = .ok (.iconst 0, 1) := by decide +kernel
theorem dX6_leastPrice_38 : decode cX6_leastPrice 38 = .ok (.ireturn, 1) := by decide +kernel
theorem dX6_leastPrice_39 : decode cX6_leastPrice 39 = .ok (.iconst 0, 1) := by decide +kernel
theorem dX6_leastPrice_40 : decode cX6_leastPrice 40 = .ok (.istore 4, 2) := by decide +kernel
theorem dX6_leastPrice_42 : decode cX6_leastPrice 42 = .ok (.iload 4, 2) := by decide +kernel
theorem dX6_leastPrice_44 : decode cX6_leastPrice 44 = .ok (.aload_n 0, 1) := by decide +kernel
theorem dX6_leastPrice_45 : decode cX6_leastPrice 45 = .ok (.getfield 22, 3) := by decide +kernel
theorem dX6_leastPrice_48 : decode cX6_leastPrice 48 = .ok (.getfield 53, 3) := by decide +kernel
theorem dX6_leastPrice_51 : decode cX6_leastPrice 51 = .ok (.getfield 57, 3) := by decide +kernel
theorem dX6_leastPrice_54 : decode cX6_leastPrice 54 = .ok (.if_icmp .ge 78, 3) := by decide +kernel
theorem dX6_leastPrice_57 : decode cX6_leastPrice 57 = .ok (.iconst 0, 1) := by decide +kernel
theorem dX6_leastPrice_58 : decode cX6_leastPrice 58 = .ok (.istore 5, 2) := by decide +kernel
theorem dX6_leastPrice_60 : decode cX6_leastPrice 60 = .ok (.iload 5, 2) := by decide +kernel
theorem dX6_leastPrice_62 : decode cX6_leastPrice 62 = .ok (.aload_n 0, 1) := by decide +kernel
theorem dX6_leastPrice_63 : decode cX6_leastPrice 63 = .ok (.getfield 22, 3) := by decide +kernel
theorem dX6_leastPrice_66 : decode cX6_leastPrice 66 = .ok (.getfield 37, 3) := by decide +kernel
theorem dX6_leastPrice_69 : decode cX6_leastPrice 69 = .ok (.getfield 63, 3) := by decide +kernel
theorem dX6_leastPrice_72 : decode cX6_leastPrice 72 = .ok (.if_icmp .ge 54, 3) := by decide +kernel
theorem dX6_leastPrice_75 : decode cX6_leastPrice 75 = .ok (.aload_n 0, 1) := by decide +kernel
theorem dX6_leastPrice_76 : decode cX6_leastPrice 76 = .ok (.getfield 9, 3) := by decide +kernel
theorem dX6_leastPrice_79 : decode cX6_leastPrice 79 = .ok (.iload 5, 2) := by decide +kernel
theorem dX6_leastPrice_81 : decode cX6_leastPrice 81 = .ok (.invokestatic 66, 3) := by decide +kernel
theorem dX6_leastPrice_84 : decode cX6_leastPrice 84 = .ok (.iload 4, 2) := by decide +kernel
theorem dX6_leastPrice_86 : decode cX6_leastPrice 86 = .ok (.if_icmp .ne 34, 3) := by decide +kernel
theorem dX6_leastPrice_89 : decode cX6_leastPrice 89 = .ok (.aload_n 0, 1) := by decide +kernel
theorem dX6_leastPrice_90 : decode cX6_leastPrice 90 = .ok (.getfield 22, 3) := by decide +kernel
theorem dX6_leastPrice_93 : decode cX6_leastPrice 93 = .ok (.getfield 37, 3) := by decide +kernel
theorem dX6_leastPrice_96 : decode cX6_leastPrice 96 = .ok (.iload 5, 2) := by decide +kernel
theorem dX6_leastPrice_98 : decode cX6_leastPrice 98 = .ok (.invokevirtual 43, 3) := by decide +kernel
theorem dX6_leastPrice_101 : decode cX6_leastPrice 101 = .ok (.iload_n 2, 1) := by decide +kernel
theorem dX6_leastPrice_102 : decode cX6_leastPrice 102 = .ok (.invokestatic 49, 3) := by decide +kernel
theorem dX6_leastPrice_105 : decode cX6_leastPrice 105 = .ok (.iload_n 3, 1) := by decide +kernel
theorem dX6_leastPrice_106 : decode cX6_leastPrice 106 = .ok (.if_icmp .ne 6, 3) := by decide +kernel
theorem dX6_leastPrice_109 : decode cX6_leastPrice 109 = .ok (.iload 4, 2) := by decide +kernel
theorem dX6_leastPrice_111 : decode cX6_leastPrice 111 = .ok (.ireturn, 1) := by decide +kernel
theorem dX6_leastPrice_112 : decode cX6_leastPrice 112 = .ok (.aload_n 0, 1) := by decide +kernel
theorem dX6_leastPrice_113 : decode cX6_leastPrice 113 = .ok (.iload 5, 2) := by decide +kernel
theorem dX6_leastPrice_115 : decode cX6_leastPrice 115 = .ok (.iload 4, 2) := by decide +kernel
theorem dX6_leastPrice_117 : decode cX6_leastPrice 117 = .ok (.invokevirtual 70, 3) := by decide +kernel
theorem dX6_leastPrice_120 : decode cX6_leastPrice 120 = .ok (.iinc 5 1, 3) := by decide +kernel
theorem dX6_leastPrice_123 : decode cX6_leastPrice 123 = .ok (.goto (-63), 3) := by decide +kernel
theorem dX6_leastPrice_126 : decode cX6_leastPrice 126 = .ok (.iinc 4 1, 3) := by decide +kernel
theorem dX6_leastPrice_129 : decode cX6_leastPrice 129 = .ok (.goto (-87), 3) := by decide +kernel
theorem dX6_leastPrice_132 : decode cX6_leastPrice 132 = .ok (.aload_n 0, 1) := by decide +kernel
theorem dX6_leastPrice_133 : decode cX6_leastPrice 133 = .ok (.getfield 22, 3) := by decide +kernel
theorem dX6_leastPrice_136 : decode cX6_leastPrice 136 = .ok (.getfield 53, 3) := by decide +kernel
theorem dX6_leastPrice_139 : decode cX6_leastPrice 139 = .ok (.getfield 57, 3) := by decide +kernel
theorem dX6_leastPrice_142 : decode cX6_leastPrice 142 = .ok (.ireturn, 1) := by decide +kernel
theorem dX6_spreadPrice_0 : decode cX6_spreadPrice 0 = .ok (.iconst 0, 1) := by decide +kernel
theorem dX6_spreadPrice_1 : decode cX6_spreadPrice 1 = .ok (.istore_n 3, 1) := by decide +kernel
theorem dX6_spreadPrice_2 : decode cX6_spreadPrice 2 = .ok (.iload_n 3, 1) := by decide +kernel
theorem dX6_spreadPrice_3 : decode cX6_spreadPrice 3 = .ok (.aload_n 0, 1) := by decide +kernel
theorem dX6_spreadPrice_4 : decode cX6_spreadPrice 4 = .ok (.getfield 22, 3) := by decide +kernel
theorem dX6_spreadPrice_7 : decode cX6_spreadPrice 7 = .ok (.getfield 53, 3) := by decide +kernel
theorem dX6_spreadPrice_10 : decode cX6_spreadPrice 10 = .ok (.getfield 74, 3) := by decide +kernel
theorem dX6_spreadPrice_13 : decode cX6_spreadPrice 13 = .ok (.if_icmp .ge 103, 3) := by decide +kernel
theorem dX6_spreadPrice_16 : decode cX6_spreadPrice 16 = .ok (.aload_n 0, 1) := by decide +kernel
theorem dX6_spreadPrice_17 : decode cX6_spreadPrice 17 = .ok (.getfield 22, 3) := by decide +kernel
theorem dX6_spreadPrice_20 : decode cX6_spreadPrice 20 = .ok (.iload_n 1, 1) := by decide +kernel
end
section
theorem dX6_spreadPrice_21 : decode cX6_spreadPrice 21 = .ok (.iload_n 3, 1) := by decide +kernel
theorem dX6_spreadPrice_22 : decode cX6_spreadPrice 22 = .ok (.invokevirtual 77, 3) := by decide +kernel
theorem dX6_spreadPrice_25 : decode cX6_spreadPrice 25 = .ok (.lstore 4, 2) := by decide +kernel
theorem dX6_spreadPrice_27 : decode cX6_spreadPrice 27 = .ok (.iconst 0, 1) := by decide +kernel
theorem dX6_spreadPrice_28 : decode cX6_spreadPrice 28 = .ok (.istore 6, 2) := by decide +kernel
theorem dX6_spreadPrice_30 : decode cX6_spreadPrice 30 = .ok (.iload 6, 2) := by decide +kernel
theorem dX6_spreadPrice_32 : decode cX6_spreadPrice 32 = .ok (.aload_n 0, 1) := by decide +kernel
theorem dX6_spreadPrice_33 : decode cX6_spreadPrice 33 = .ok (.getfield 22, 3) := by decide +kernel
theorem dX6_spreadPrice_36 : decode cX6_spreadPrice 36 = .ok (.getfield 53, 3) := by decide +kernel
theorem dX6_spreadPrice_39 : decode cX6_spreadPrice 39 = .ok (.getfield 74, 3) := by decide +kernel
theorem dX6_spreadPrice_42 : decode cX6_spreadPrice 42 = .ok (.if_icmp .ge 68, 3) := by decide +kernel
theorem dX6_spreadPrice_45 : decode cX6_spreadPrice 45 = .ok (.lload 4, 2) := by decide +kernel
theorem dX6_spreadPrice_47 : decode cX6_spreadPrice 47 = .ok (.iload 6, 2) := by decide +kernel
theorem dX6_spreadPrice_49 : decode cX6_spreadPrice 49 = .ok (.invokestatic 81, 3) := by decide +kernel
theorem dX6_spreadPrice_52 : decode cX6_spreadPrice 52 = .ok (.istore 7, 2) := by decide +kernel
theorem dX6_spreadPrice_54 : decode cX6_spreadPrice 54 = .ok (.iload_n 2, 1) := by decide +kernel
theorem dX6_spreadPrice_55 : decode cX6_spreadPrice 55 = .ok (.aload_n 0, 1) := by decide +kernel
theorem dX6_spreadPrice_56 : decode cX6_spreadPrice 56 = .ok (.getfield 22, 3) := by decide +kernel
theorem dX6_spreadPrice_59 : decode cX6_spreadPrice 59 = .ok (.getfield 53, 3) := by decide +kernel
theorem dX6_spreadPrice_62 : decode cX6_spreadPrice 62 = .ok (.iload_n 3, 1) := by decide +kernel
theorem dX6_spreadPrice_63 : decode cX6_spreadPrice 63 = .ok (.iload 6, 2) := by decide +kernel
theorem dX6_spreadPrice_65 : decode cX6_spreadPrice 65 = .ok (.invokevirtual 85, 3) := by decide +kernel
theorem dX6_spreadPrice_68 : decode cX6_spreadPrice 68 = .ok (.iadd, 1) := by decide +kernel
theorem dX6_spreadPrice_69 : decode cX6_spreadPrice 69 = .ok (.istore 8, 2) := by decide +kernel
theorem dX6_spreadPrice_71 : decode cX6_spreadPrice 71 = .ok (.iload 7, 2) := by decide +kernel
theorem dX6_spreadPrice_73 : decode cX6_spreadPrice 73 = .ok (.sipush 1023, 3) := by decide +kernel
theorem dX6_spreadPrice_76 : decode cX6_spreadPrice 76 = .ok (.if_icmp .eq 28, 3) := by decide +kernel
theorem dX6_spreadPrice_79 : decode cX6_spreadPrice 79 = .ok (.iload 8, 2) := by decide +kernel
theorem dX6_spreadPrice_81 : decode cX6_spreadPrice 81 = .ok (.aload_n 0, 1) := by decide +kernel
theorem dX6_spreadPrice_82 : decode cX6_spreadPrice 82 = .ok (.getfield 9, 3) := by decide +kernel
theorem dX6_spreadPrice_85 : decode cX6_spreadPrice 85 = .ok (.iload 7, 2) := by decide +kernel
theorem dX6_spreadPrice_87 : decode cX6_spreadPrice 87 = .ok (.invokestatic 66, 3) := by decide +kernel
theorem dX6_spreadPrice_90 : decode cX6_spreadPrice 90 = .ok (.if_icmp .ge 14, 3) := by decide +kernel
theorem dX6_spreadPrice_93 : decode cX6_spreadPrice 93 = .ok (.aload_n 0, 1) := by decide +kernel
theorem dX6_spreadPrice_94 : decode cX6_spreadPrice 94 = .ok (.getfield 9, 3) := by decide +kernel
theorem dX6_spreadPrice_97 : decode cX6_spreadPrice 97 = .ok (.iload 7, 2) := by decide +kernel
theorem dX6_spreadPrice_99 : decode cX6_spreadPrice 99 = .ok (.iload 8, 2) := by decide +kernel
theorem dX6_spreadPrice_101 : decode cX6_spreadPrice 101 = .ok (.invokestatic 33, 3) := by decide +kernel
theorem dX6_spreadPrice_104 : decode cX6_spreadPrice 104 = .ok (.iinc 6 1, 3) := by decide +kernel
theorem dX6_spreadPrice_107 : decode cX6_spreadPrice 107 = .ok (.goto (-77), 3) := by decide +kernel
theorem dX6_spreadPrice_110 : decode cX6_spreadPrice 110 = .ok (.iinc 3 1, 3) := by decide +kernel
theorem dX6_spreadPrice_113 : decode cX6_spreadPrice 113 = .ok (.goto (-111), 3) := by decide +kernel
theorem dX6_spreadPrice_116 : decode cX6_spreadPrice 116 = .ok (.return_, 1) := by decide +kernel
theorem dX6_rowsBetween_0 : decode cX6_rowsBetween 0 = .ok (.iload_n 1, 1) := by decide +kernel
theorem dX6_rowsBetween_1 : decode cX6_rowsBetween 1 = .ok (.ifCond .lt 21, 3) := by decide +kernel
theorem dX6_rowsBetween_4 : decode cX6_rowsBetween 4 = .ok (.iload_n 1, 1) := by decide +kernel
theorem dX6_rowsBetween_5 : decode cX6_rowsBetween 5 = .ok (.sipush 720, 3) := by decide +kernel
theorem dX6_rowsBetween_8 : decode cX6_rowsBetween 8 = .ok (.if_icmp .ge 14, 3) := by decide +kernel
theorem dX6_rowsBetween_11 : decode cX6_rowsBetween 11 = .ok (.iload_n 2, 1) := by decide +kernel
theorem dX6_rowsBetween_12 : decode cX6_rowsBetween 12 = .ok (.ifCond .lt 10, 3) := by decide +kernel
theorem dX6_rowsBetween_15 : decode cX6_rowsBetween 15 = .ok (.iload_n 2, 1) := by decide +kernel
theorem dX6_rowsBetween_16 : decode cX6_rowsBetween 16 = .ok (.sipush 720, 3) := by decide +kernel
theorem dX6_rowsBetween_19 : decode cX6_rowsBetween 19 = .ok (.if_icmp .lt 5, 3) := by decide +kernel
theorem dX6_rowsBetween_22 : decode cX6_rowsBetween 22 = .ok (.lconst 0, 1) := by decide +kernel
theorem dX6_rowsBetween_23 : decode cX6_rowsBetween 23 = .ok (.lreturn, 1) := by decide +kernel
theorem dX6_rowsBetween_24 : decode cX6_rowsBetween 24 = .ok (.aload_n 0, 1) := by decide +kernel
theorem dX6_rowsBetween_25 : decode cX6_rowsBetween 25 = .ok (.getfield 15, 3) := by decide +kernel
theorem dX6_rowsBetween_28 : decode cX6_rowsBetween 28 = .ok (.lconst 0, 1) := by decide +kernel
theorem dX6_rowsBetween_29 : decode cX6_rowsBetween 29 = .ok (.invokestatic 88, 3) := by decide +kernel
theorem dX6_rowsBetween_32 : decode cX6_rowsBetween 32 = .ok (.aload_n 0, 1) := by decide +kernel
theorem dX6_rowsBetween_33 : decode cX6_rowsBetween 33 = .ok (.getfield 15, 3) := by decide +kernel
theorem dX6_rowsBetween_36 : decode cX6_rowsBetween 36 = .ok (.iload_n 1, 1) := by decide +kernel
theorem dX6_rowsBetween_37 : decode cX6_rowsBetween 37 = .ok (.lconst 1, 1) := by decide +kernel
theorem dX6_rowsBetween_38 : decode cX6_rowsBetween 38 = .ok (.lastore, 1) := by decide +kernel
theorem dX6_rowsBetween_39 : decode cX6_rowsBetween 39 = .ok (.iconst 0, 1) := by decide +kernel
theorem dX6_rowsBetween_40 : decode cX6_rowsBetween 40 = .ok (.istore 4, 2) := by decide +kernel
theorem dX6_rowsBetween_42 : decode cX6_rowsBetween 42 = .ok (.iload 4, 2) := by decide +kernel
theorem dX6_rowsBetween_44 : decode cX6_rowsBetween 44 = .ok (.iload_n 3, 1) := by decide +kernel
theorem dX6_rowsBetween_45 : decode cX6_rowsBetween 45 = .ok (.if_icmp .ge 79, 3) := by decide +kernel
theorem dX6_rowsBetween_48 : decode cX6_rowsBetween 48 = .ok (.aload_n 0, 1) := by decide +kernel
theorem dX6_rowsBetween_49 : decode cX6_rowsBetween 49 = .ok (.getfield 19, 3) := by decide +kernel
theorem dX6_rowsBetween_52 : decode cX6_rowsBetween 52 = .ok (.lconst 0, 1) := by decide +kernel
theorem dX6_rowsBetween_53 : decode cX6_rowsBetween 53 = .ok (.invokestatic 88, 3) := by decide +kernel
theorem dX6_rowsBetween_56 : decode cX6_rowsBetween 56 = .ok (.iconst 0, 1) := by decide +kernel
theorem dX6_rowsBetween_57 : decode cX6_rowsBetween 57 = .ok (.istore 5, 2) := by decide +kernel
theorem dX6_rowsBetween_59 : decode cX6_rowsBetween 59 = .ok (.iload 5, 2) := by decide +kernel
theorem dX6_rowsBetween_61 : decode cX6_rowsBetween 61 = .ok (.sipush 720, 3) := by decide +kernel
theorem dX6_rowsBetween_64 : decode cX6_rowsBetween 64 = .ok (.if_icmp .ge 34, 3) := by decide +kernel
theorem dX6_rowsBetween_67 : decode cX6_rowsBetween 67 = .ok (.aload_n 0, 1) := by decide +kernel
theorem dX6_rowsBetween_68 : decode cX6_rowsBetween 68 = .ok (.getfield 15, 3) := by decide +kernel
theorem dX6_rowsBetween_71 : decode cX6_rowsBetween 71 = .ok (.iload 5, 2) := by decide +kernel
theorem dX6_rowsBetween_73 : decode cX6_rowsBetween 73 = .ok (.laload, 1) := by decide +kernel
theorem dX6_rowsBetween_74 : decode cX6_rowsBetween 74 = .ok (.lconst 0, 1) := by decide +kernel
theorem dX6_rowsBetween_75 : decode cX6_rowsBetween 75 = .ok (.lcmp, 1) := by decide +kernel
theorem dX6_rowsBetween_76 : decode cX6_rowsBetween 76 = .ok (.ifCond .eq 16, 3) := by decide +kernel
theorem dX6_rowsBetween_79 : decode cX6_rowsBetween 79 = .ok (.aload_n 0, 1) := by decide +kernel
theorem dX6_rowsBetween_80 : decode cX6_rowsBetween 80 = .ok (.iload 5, 2) := by decide +kernel
theorem dX6_rowsBetween_82 : decode cX6_rowsBetween 82 = .ok (.aload_n 0, 1) := by decide +kernel
theorem dX6_rowsBetween_83 : decode cX6_rowsBetween 83 = .ok (.getfield 15, 3) := by decide +kernel
theorem dX6_rowsBetween_86 : decode cX6_rowsBetween 86 = .ok (.iload 5, 2) := by decide +kernel
theorem dX6_rowsBetween_88 : decode cX6_rowsBetween 88 = .ok (.laload, 1) := by decide +kernel
theorem dX6_rowsBetween_89 : decode cX6_rowsBetween 89 = .ok (.invokevirtual 91, 3) := by decide +kernel
theorem dX6_rowsBetween_92 : decode cX6_rowsBetween 92 = .ok (.iinc 5 1, 3) := by decide +kernel
theorem dX6_rowsBetween_95 : decode cX6_rowsBetween 95 = .ok (.goto (-36), 3) := by decide +kernel
theorem dX6_rowsBetween_98 : decode cX6_rowsBetween 98 = .ok (.aload_n 0, 1) := by decide +kernel
theorem dX6_rowsBetween_99 : decode cX6_rowsBetween 99 = .ok (.getfield 15, 3) := by decide +kernel
theorem dX6_rowsBetween_102 : decode cX6_rowsBetween 102 = .ok (.astore 5, 2) := by decide +kernel
theorem dX6_rowsBetween_104 : decode cX6_rowsBetween 104 = .ok (.aload_n 0, 1) := by decide +kernel
theorem dX6_rowsBetween_105 : decode cX6_rowsBetween 105 = .ok (.aload_n 0, 1) := by decide +kernel
theorem dX6_rowsBetween_106 : decode cX6_rowsBetween 106 = .ok (.getfield 19, 3) := by decide +kernel
theorem dX6_rowsBetween_109 : decode cX6_rowsBetween 109 = .ok (.putfield 15, 3) := by decide +kernel
theorem dX6_rowsBetween_112 : decode cX6_rowsBetween 112 = .ok (.aload_n 0, 1) := by decide +kernel
theorem dX6_rowsBetween_113 : decode cX6_rowsBetween 113 = .ok (.aload 5, 2) := by decide +kernel
theorem dX6_rowsBetween_115 : decode cX6_rowsBetween 115 = .ok (.putfield 19, 3) := by decide +kernel
theorem dX6_rowsBetween_118 : decode cX6_rowsBetween 118 = .ok (.iinc 4 1, 3) := by decide +kernel
theorem dX6_rowsBetween_121 : decode cX6_rowsBetween 121 = .ok (.goto (-79), 3) := by decide +kernel
theorem dX6_rowsBetween_124 : decode cX6_rowsBetween 124 = .ok (.aload_n 0, 1) := by decide +kernel
theorem dX6_rowsBetween_125 : decode cX6_rowsBetween 125 = .ok (.getfield 15, 3) := by decide +kernel
theorem dX6_rowsBetween_128 : decode cX6_rowsBetween 128 = .ok (.iload_n 2, 1) := by decide +kernel
theorem dX6_rowsBetween_129 : decode cX6_rowsBetween 129 = .ok (.laload, 1) := by decide +kernel
theorem dX6_rowsBetween_130 : decode cX6_rowsBetween 130 = .ok (.lreturn, 1) := by decide +kernel
theorem dX6_spreadWays_0 : decode cX6_spreadWays 0 = .ok (.iconst 0, 1) := by decide +kernel
theorem dX6_spreadWays_1 : decode cX6_spreadWays 1 = .ok (.istore 4, 2) := by decide +kernel
theorem dX6_spreadWays_3 : decode cX6_spreadWays 3 = .ok (.iload 4, 2) := by decide +kernel
theorem dX6_spreadWays_5 : decode cX6_spreadWays 5 = .ok (.aload_n 0, 1) := by decide +kernel
theorem dX6_spreadWays_6 : decode cX6_spreadWays 6 = .ok (.getfield 22, 3) := by decide +kernel
theorem dX6_spreadWays_9 : decode cX6_spreadWays 9 = .ok (.getfield 53, 3) := by decide +kernel
theorem dX6_spreadWays_12 : decode cX6_spreadWays 12 = .ok (.getfield 74, 3) := by decide +kernel
theorem dX6_spreadWays_15 : decode cX6_spreadWays 15 = .ok (.if_icmp .ge 73, 3) := by decide +kernel
theorem dX6_spreadWays_18 : decode cX6_spreadWays 18 = .ok (.aload_n 0, 1) := by decide +kernel
theorem dX6_spreadWays_19 : decode cX6_spreadWays 19 = .ok (.getfield 22, 3) := by decide +kernel
theorem dX6_spreadWays_22 : decode cX6_spreadWays 22 = .ok (.iload_n 1, 1) := by decide +kernel
theorem dX6_spreadWays_23 : decode cX6_spreadWays 23 = .ok (.iload 4, 2) := by decide +kernel
theorem dX6_spreadWays_25 : decode cX6_spreadWays 25 = .ok (.invokevirtual 77, 3) := by decide +kernel
theorem dX6_spreadWays_28 : decode cX6_spreadWays 28 = .ok (.lstore 5, 2) := by decide +kernel
theorem dX6_spreadWays_30 : decode cX6_spreadWays 30 = .ok (.iconst 0, 1) := by decide +kernel
theorem dX6_spreadWays_31 : decode cX6_spreadWays 31 = .ok (.istore 7, 2) := by decide +kernel
theorem dX6_spreadWays_33 : decode cX6_spreadWays 33 = .ok (.iload 7, 2) := by decide +kernel
theorem dX6_spreadWays_35 : decode cX6_spreadWays 35 = .ok (.aload_n 0, 1) := by decide +kernel
theorem dX6_spreadWays_36 : decode cX6_spreadWays 36 = .ok (.getfield 22, 3) := by decide +kernel
theorem dX6_spreadWays_39 : decode cX6_spreadWays 39 = .ok (.getfield 53, 3) := by decide +kernel
theorem dX6_spreadWays_42 : decode cX6_spreadWays 42 = .ok (.getfield 74, 3) := by decide +kernel
theorem dX6_spreadWays_45 : decode cX6_spreadWays 45 = .ok (.if_icmp .ge 37, 3) := by decide +kernel
theorem dX6_spreadWays_48 : decode cX6_spreadWays 48 = .ok (.lload 5, 2) := by decide +kernel
theorem dX6_spreadWays_50 : decode cX6_spreadWays 50 = .ok (.iload 7, 2) := by decide +kernel
theorem dX6_spreadWays_52 : decode cX6_spreadWays 52 = .ok (.invokestatic 81, 3) := by decide +kernel
theorem dX6_spreadWays_55 : decode cX6_spreadWays 55 = .ok (.istore 8, 2) := by decide +kernel
theorem dX6_spreadWays_57 : decode cX6_spreadWays 57 = .ok (.iload 8, 2) := by decide +kernel
theorem dX6_spreadWays_59 : decode cX6_spreadWays 59 = .ok (.sipush 720, 3) := by decide +kernel
theorem dX6_spreadWays_62 : decode cX6_spreadWays 62 = .ok (.if_icmp .ge 14, 3) := by decide +kernel
theorem dX6_spreadWays_65 : decode cX6_spreadWays 65 = .ok (.aload_n 0, 1) := by decide +kernel
theorem dX6_spreadWays_66 : decode cX6_spreadWays 66 = .ok (.getfield 19, 3) := by decide +kernel
theorem dX6_spreadWays_69 : decode cX6_spreadWays 69 = .ok (.iload 8, 2) := by decide +kernel
theorem dX6_spreadWays_71 : decode cX6_spreadWays 71 = .ok (.dup2, 1) := by decide +kernel
theorem dX6_spreadWays_72 : decode cX6_spreadWays 72 = .ok (.laload, 1) := by decide +kernel
theorem dX6_spreadWays_73 : decode cX6_spreadWays 73 = .ok (.lload_n 2, 1) := by decide +kernel
theorem dX6_spreadWays_74 : decode cX6_spreadWays 74 = .ok (.ladd, 1) := by decide +kernel
theorem dX6_spreadWays_75 : decode cX6_spreadWays 75 = .ok (.lastore, 1) := by decide +kernel
theorem dX6_spreadWays_76 : decode cX6_spreadWays 76 = .ok (.iinc 7 1, 3) := by decide +kernel
theorem dX6_spreadWays_79 : decode cX6_spreadWays 79 = .ok (.goto (-46), 3) := by decide +kernel
theorem dX6_spreadWays_82 : decode cX6_spreadWays 82 = .ok (.iinc 4 1, 3) := by decide +kernel
theorem dX6_spreadWays_85 : decode cX6_spreadWays 85 = .ok (.goto (-82), 3) := by decide +kernel
theorem dX6_spreadWays_88 : decode cX6_spreadWays 88 = .ok (.return_, 1) := by decide +kernel
theorem dX7_init_0 : decode cX7_init 0 = .ok (.aload_n 0, 1) := by decide +kernel
theorem dX7_init_1 : decode cX7_init 1 = .ok (.invokespecial 3, 3) := by decide +kernel
theorem dX7_init_4 : decode cX7_init 4 = .ok (.aload_n 0, 1) := by decide +kernel
theorem dX7_init_5 : decode cX7_init 5 = .ok (.bipush 6, 2) := by decide +kernel
theorem dX7_init_7 : decode cX7_init 7 = .ok (.newarray .int, 2) := by decide +kernel
theorem dX7_init_9 : decode cX7_init 9 = .ok (.putfield 9, 3) := by decide +kernel
theorem dX7_init_12 : decode cX7_init 12 = .ok (.aload_n 0, 1) := by decide +kernel
theorem dX7_init_13 : decode cX7_init 13 = .ok (.bipush 6, 2) := by decide +kernel
theorem dX7_init_15 : decode cX7_init 15 = .ok (.newarray .int, 2) := by decide +kernel
theorem dX7_init_17 : decode cX7_init 17 = .ok (.putfield 15, 3) := by decide +kernel
theorem dX7_init_20 : decode cX7_init 20 = .ok (.aload_n 0, 1) := by decide +kernel
theorem dX7_init_21 : decode cX7_init 21 = .ok (.bipush 36, 2) := by decide +kernel
theorem dX7_init_23 : decode cX7_init 23 = .ok (.newarray .int, 2) := by decide +kernel
theorem dX7_init_25 : decode cX7_init 25 = .ok (.putfield 18, 3) := by decide +kernel
theorem dX7_init_28 : decode cX7_init 28 = .ok (.return_, 1) := by decide +kernel
theorem dX7_clear_0 : decode cX7_clear 0 = .ok (.aload_n 0, 1) := by decide +kernel
theorem dX7_clear_1 : decode cX7_clear 1 = .ok (.iconst 0, 1) := by decide +kernel
theorem dX7_clear_2 : decode cX7_clear 2 = .ok (.putfield 21, 3) := by decide +kernel
theorem dX7_clear_5 : decode cX7_clear 5 = .ok (.aload_n 0, 1) := by decide +kernel
theorem dX7_clear_6 : decode cX7_clear 6 = .ok (.iconst 3, 1) := by decide +kernel
theorem dX7_clear_7 : decode cX7_clear 7 = .ok (.putfield 25, 3) := by decide +kernel
theorem dX7_clear_10 : decode cX7_clear 10 = .ok (.aload_n 0, 1) := by decide +kernel
theorem dX7_clear_11 : decode cX7_clear 11 = .ok (.iconst 0, 1) := by decide +kernel
theorem dX7_clear_12 : decode cX7_clear 12 = .ok (.putfield 28, 3) := by decide +kernel
theorem dX7_clear_15 : decode cX7_clear 15 = .ok (.aload_n 0, 1) := by decide +kernel
theorem dX7_clear_16 : decode cX7_clear 16 = .ok (.bipush 9, 2) := by decide +kernel
theorem dX7_clear_18 : decode cX7_clear 18 = .ok (.putfield 31, 3) := by decide +kernel
theorem dX7_clear_21 : decode cX7_clear 21 = .ok (.aload_n 0, 1) := by decide +kernel
theorem dX7_clear_22 : decode cX7_clear 22 = .ok (.iconst 1, 1) := by decide +kernel
theorem dX7_clear_23 : decode cX7_clear 23 = .ok (.putfield 34, 3) := by decide +kernel
theorem dX7_clear_26 : decode cX7_clear 26 = .ok (.aload_n 0, 1) := by decide +kernel
theorem dX7_clear_27 : decode cX7_clear 27 = .ok (.ldc 37, 2) := by decide +kernel
theorem dX7_clear_29 : decode cX7_clear 29 = .ok (.putfield 38, 3) := by decide +kernel
theorem dX7_clear_32 : decode cX7_clear 32 = .ok (.return_, 1) := by decide +kernel
theorem dX7_become_0 : decode cX7_become 0 = .ok (.aload_n 0, 1) := by decide +kernel
theorem dX7_become_1 : decode cX7_become 1 = .ok (.aload_n 1, 1) := by decide +kernel
theorem dX7_become_2 : decode cX7_become 2 = .ok (.getfield 21, 3) := by decide +kernel
theorem dX7_become_5 : decode cX7_become 5 = .ok (.putfield 21, 3) := by decide +kernel
theorem dX7_become_8 : decode cX7_become 8 = .ok (.aload_n 0, 1) := by decide +kernel
theorem dX7_become_9 : decode cX7_become 9 = .ok (.aload_n 1, 1) := by decide +kernel
theorem dX7_become_10 : decode cX7_become 10 = .ok (.getfield 25, 3) := by decide +kernel
theorem dX7_become_13 : decode cX7_become 13 = .ok (.putfield 25, 3) := by decide +kernel
theorem dX7_become_16 : decode cX7_become 16 = .ok (.aload_n 0, 1) := by decide +kernel
theorem dX7_become_17 : decode cX7_become 17 = .ok (.aload_n 1, 1) := by decide +kernel
theorem dX7_become_18 : decode cX7_become 18 = .ok (.getfield 28, 3) := by decide +kernel
theorem dX7_become_21 : decode cX7_become 21 = .ok (.putfield 28, 3) := by decide +kernel
theorem dX7_become_24 : decode cX7_become 24 = .ok (.aload_n 0, 1) := by decide +kernel
theorem dX7_become_25 : decode cX7_become 25 = .ok (.aload_n 1, 1) := by decide +kernel
theorem dX7_become_26 : decode cX7_become 26 = .ok (.getfield 31, 3) := by decide +kernel
theorem dX7_become_29 : decode cX7_become 29 = .ok (.putfield 31, 3) := by decide +kernel
theorem dX7_become_32 : decode cX7_become 32 = .ok (.aload_n 0, 1) := by decide +kernel
theorem dX7_become_33 : decode cX7_become 33 = .ok (.aload_n 1, 1) := by decide +kernel
theorem dX7_become_34 : decode cX7_become 34 = .ok (.getfield 34, 3) := by decide +kernel
theorem dX7_become_37 : decode cX7_become 37 = .ok (.putfield 34, 3) := by decide +kernel
theorem dX7_become_40 : decode cX7_become 40 = .ok (.aload_n 0, 1) := by decide +kernel
theorem dX7_become_41 : decode cX7_become 41 = .ok (.aload_n 1, 1) := by decide +kernel
theorem dX7_become_42 : decode cX7_become 42 = .ok (.getfield 38, 3) := by decide +kernel
theorem dX7_become_45 : decode cX7_become 45 = .ok (.putfield 38, 3) := by decide +kernel
theorem dX7_become_48 : decode cX7_become 48 = .ok (.iconst 0, 1) := by decide +kernel
theorem dX7_become_49 : decode cX7_become 49 = .ok (.istore_n 2, 1) := by decide +kernel
theorem dX7_become_50 : decode cX7_become 50 = .ok (.iload_n 2, 1) := by decide +kernel
theorem dX7_become_51 : decode cX7_become 51 = .ok (.bipush 6, 2) := by decide +kernel
theorem dX7_become_53 : decode cX7_become 53 = .ok (.if_icmp .ge 16, 3) := by decide +kernel
theorem dX7_become_56 : decode cX7_become 56 = .ok (.aload_n 0, 1) := by decide +kernel
theorem dX7_become_57 : decode cX7_become 57 = .ok (.iload_n 2, 1) := by decide +kernel
theorem dX7_become_58 : decode cX7_become 58 = .ok (.aload_n 1, 1) := by decide +kernel
theorem dX7_become_59 : decode cX7_become 59 = .ok (.iload_n 2, 1) := by decide +kernel
theorem dX7_become_60 : decode cX7_become 60 = .ok (.invokevirtual 41, 3) := by decide +kernel
theorem dX7_become_63 : decode cX7_become 63 = .ok (.iinc 2 1, 3) := by decide +kernel
theorem dX7_become_66 : decode cX7_become 66 = .ok (.goto (-16), 3) := by decide +kernel
theorem dX7_become_69 : decode cX7_become 69 = .ok (.return_, 1) := by decide +kernel
theorem dX7_takeGuest_0 : decode cX7_takeGuest 0 = .ok (.aload_n 0, 1) := by decide +kernel
theorem dX7_takeGuest_1 : decode cX7_takeGuest 1 = .ok (.getfield 9, 3) := by decide +kernel
theorem dX7_takeGuest_4 : decode cX7_takeGuest 4 = .ok (.iload_n 1, 1) := by decide +kernel
theorem dX7_takeGuest_5 : decode cX7_takeGuest 5 = .ok (.aload_n 2, 1) := by decide +kernel
theorem dX7_takeGuest_6 : decode cX7_takeGuest 6 = .ok (.iload_n 3, 1) := by decide +kernel
theorem dX7_takeGuest_7 : decode cX7_takeGuest 7 = .ok (.invokevirtual 45, 3) := by decide +kernel
theorem dX7_takeGuest_10 : decode cX7_takeGuest 10 = .ok (.invokestatic 49, 3) := by decide +kernel
theorem dX7_takeGuest_13 : decode cX7_takeGuest 13 = .ok (.aload_n 0, 1) := by decide +kernel
theorem dX7_takeGuest_14 : decode cX7_takeGuest 14 = .ok (.getfield 15, 3) := by decide +kernel
theorem dX7_takeGuest_17 : decode cX7_takeGuest 17 = .ok (.iload_n 1, 1) := by decide +kernel
theorem dX7_takeGuest_18 : decode cX7_takeGuest 18 = .ok (.aload_n 2, 1) := by decide +kernel
theorem dX7_takeGuest_19 : decode cX7_takeGuest 19 = .ok (.iload_n 3, 1) := by decide +kernel
theorem dX7_takeGuest_20 : decode cX7_takeGuest 20 = .ok (.invokevirtual 53, 3) := by decide +kernel
theorem dX7_takeGuest_23 : decode cX7_takeGuest 23 = .ok (.invokestatic 49, 3) := by decide +kernel
theorem dX7_takeGuest_26 : decode cX7_takeGuest 26 = .ok (.iconst 0, 1) := by decide +kernel
theorem dX7_takeGuest_27 : decode cX7_takeGuest 27 = .ok (.istore 4, 2) := by decide +kernel
theorem dX7_takeGuest_29 : decode cX7_takeGuest 29 = .ok (.iload 4, 2) := by decide +kernel
theorem dX7_takeGuest_31 : decode cX7_takeGuest 31 = .ok (.bipush 6, 2) := by decide +kernel
theorem dX7_takeGuest_33 : decode cX7_takeGuest 33 = .ok (.if_icmp .ge 23, 3) := by decide +kernel
theorem dX7_takeGuest_36 : decode cX7_takeGuest 36 = .ok (.aload_n 0, 1) := by decide +kernel
theorem dX7_takeGuest_37 : decode cX7_takeGuest 37 = .ok (.iload_n 1, 1) := by decide +kernel
theorem dX7_takeGuest_38 : decode cX7_takeGuest 38 = .ok (.iload 4, 2) := by decide +kernel
theorem dX7_takeGuest_40 : decode cX7_takeGuest 40 = .ok (.aload_n 2, 1) := by decide +kernel
theorem dX7_takeGuest_41 : decode cX7_takeGuest 41 = .ok (.iload_n 3, 1) := by decide +kernel
theorem dX7_takeGuest_42 : decode cX7_takeGuest 42 = .ok (.iload 4, 2) := by decide +kernel
theorem dX7_takeGuest_44 : decode cX7_takeGuest 44 = .ok (.invokevirtual 56, 3) := by decide +kernel
theorem dX7_takeGuest_47 : decode cX7_takeGuest 47 = .ok (.invokevirtual 60, 3) := by decide +kernel
theorem dX7_takeGuest_50 : decode cX7_takeGuest 50 = .ok (.iinc 4 1, 3) := by decide +kernel
theorem dX7_takeGuest_53 : decode cX7_takeGuest 53 = .ok (.goto (-24), 3) := by decide +kernel
theorem dX7_takeGuest_56 : decode cX7_takeGuest 56 = .ok (.return_, 1) := by decide +kernel
theorem dX7_addGuest_0 : decode cX7_addGuest 0 = .ok (.aload_n 0, 1) := by decide +kernel
theorem dX7_addGuest_1 : decode cX7_addGuest 1 = .ok (.getfield 9, 3) := by decide +kernel
theorem dX7_addGuest_4 : decode cX7_addGuest 4 = .ok (.aload_n 0, 1) := by decide +kernel
theorem dX7_addGuest_5 : decode cX7_addGuest 5 = .ok (.getfield 21, 3) := by decide +kernel
theorem dX7_addGuest_8 : decode cX7_addGuest 8 = .ok (.iload_n 1, 1) := by decide +kernel
theorem dX7_addGuest_9 : decode cX7_addGuest 9 = .ok (.invokestatic 49, 3) := by decide +kernel
theorem dX7_addGuest_12 : decode cX7_addGuest 12 = .ok (.aload_n 0, 1) := by decide +kernel
theorem dX7_addGuest_13 : decode cX7_addGuest 13 = .ok (.getfield 15, 3) := by decide +kernel
theorem dX7_addGuest_16 : decode cX7_addGuest 16 = .ok (.aload_n 0, 1) := by decide +kernel
theorem dX7_addGuest_17 : decode cX7_addGuest 17 = .ok (.getfield 21, 3) := by decide +kernel
theorem dX7_addGuest_20 : decode cX7_addGuest 20 = .ok (.iload_n 3, 1) := by decide +kernel
theorem dX7_addGuest_21 : decode cX7_addGuest 21 = .ok (.invokestatic 49, 3) := by decide +kernel
theorem dX7_addGuest_24 : decode cX7_addGuest 24 = .ok (.iconst 0, 1) := by decide +kernel
theorem dX7_addGuest_25 : decode cX7_addGuest 25 = .ok (.istore 4, 2) := by decide +kernel
theorem dX7_addGuest_27 : decode cX7_addGuest 27 = .ok (.iload 4, 2) := by decide +kernel
theorem dX7_addGuest_29 : decode cX7_addGuest 29 = .ok (.bipush 6, 2) := by decide +kernel
theorem dX7_addGuest_31 : decode cX7_addGuest 31 = .ok (.if_icmp .ge 20, 3) := by decide +kernel
theorem dX7_addGuest_34 : decode cX7_addGuest 34 = .ok (.aload_n 0, 1) := by decide +kernel
theorem dX7_addGuest_35 : decode cX7_addGuest 35 = .ok (.aload_n 0, 1) := by decide +kernel
theorem dX7_addGuest_36 : decode cX7_addGuest 36 = .ok (.getfield 21, 3) := by decide +kernel
theorem dX7_addGuest_39 : decode cX7_addGuest 39 = .ok (.iload 4, 2) := by decide +kernel
theorem dX7_addGuest_41 : decode cX7_addGuest 41 = .ok (.iconst 1, 1) := by decide +kernel
theorem dX7_addGuest_42 : decode cX7_addGuest 42 = .ok (.invokevirtual 60, 3) := by decide +kernel
theorem dX7_addGuest_45 : decode cX7_addGuest 45 = .ok (.iinc 4 1, 3) := by decide +kernel
theorem dX7_addGuest_48 : decode cX7_addGuest 48 = .ok (.goto (-21), 3) := by decide +kernel
theorem dX7_addGuest_51 : decode cX7_addGuest 51 = .ok (.aload_n 0, 1) := by decide +kernel
theorem dX7_addGuest_52 : decode cX7_addGuest 52 = .ok (.aload_n 0, 1) := by decide +kernel
theorem dX7_addGuest_53 : decode cX7_addGuest 53 = .ok (.getfield 38, 3) := by decide +kernel
theorem dX7_addGuest_56 : decode cX7_addGuest 56 = .ok (.aload_n 0, 1) := by decide +kernel
theorem dX7_addGuest_57 : decode cX7_addGuest 57 = .ok (.getfield 21, 3) := by decide +kernel
theorem dX7_addGuest_60 : decode cX7_addGuest 60 = .ok (.iload_n 2, 1) := by decide +kernel
theorem dX7_addGuest_61 : decode cX7_addGuest 61 = .ok (.invokestatic 64, 3) := by decide +kernel
theorem dX7_addGuest_64 : decode cX7_addGuest 64 = .ok (.putfield 38, 3) := by decide +kernel
theorem dX7_addGuest_67 : decode cX7_addGuest 67 = .ok (.aload_n 0, 1) := by decide +kernel
theorem dX7_addGuest_68 : decode cX7_addGuest 68 = .ok (.dup, 1) := by decide +kernel
theorem dX7_addGuest_69 : decode cX7_addGuest 69 = .ok (.getfield 21, 3) := by decide +kernel
theorem dX7_addGuest_72 : decode cX7_addGuest 72 = .ok (.iconst 1, 1) := by decide +kernel
theorem dX7_addGuest_73 : decode cX7_addGuest 73 = .ok (.iadd, 1) := by decide +kernel
theorem dX7_addGuest_74 : decode cX7_addGuest 74 = .ok (.putfield 21, 3) := by decide +kernel
theorem dX7_addGuest_77 : decode cX7_addGuest 77 = .ok (.return_, 1) := by decide +kernel
theorem dX7_setKind_0 : decode cX7_setKind 0 = .ok (.aload_n 0, 1) := by decide +kernel
theorem dX7_setKind_1 : decode cX7_setKind 1 = .ok (.getfield 9, 3) := by decide +kernel
theorem dX7_setKind_4 : decode cX7_setKind 4 = .ok (.iload_n 1, 1) := by decide +kernel
theorem dX7_setKind_5 : decode cX7_setKind 5 = .ok (.iload_n 2, 1) := by decide +kernel
theorem dX7_setKind_6 : decode cX7_setKind 6 = .ok (.invokestatic 49, 3) := by decide +kernel
theorem dX7_setKind_9 : decode cX7_setKind 9 = .ok (.return_, 1) := by decide +kernel
theorem dX7_setWorth_0 : decode cX7_setWorth 0 = .ok (.aload_n 0, 1) := by decide +kernel
theorem dX7_setWorth_1 : decode cX7_setWorth 1 = .ok (.getfield 18, 3) := by decide +kernel
theorem dX7_setWorth_4 : decode cX7_setWorth 4 = .ok (.iload_n 1, 1) := by decide +kernel
theorem dX7_setWorth_5 : decode cX7_setWorth 5 = .ok (.bipush 6, 2) := by decide +kernel
theorem dX7_setWorth_7 : decode cX7_setWorth 7 = .ok (.imul, 1) := by decide +kernel
theorem dX7_setWorth_8 : decode cX7_setWorth 8 = .ok (.iload_n 2, 1) := by decide +kernel
theorem dX7_setWorth_9 : decode cX7_setWorth 9 = .ok (.iadd, 1) := by decide +kernel
theorem dX7_setWorth_10 : decode cX7_setWorth 10 = .ok (.iload_n 3, 1) := by decide +kernel
theorem dX7_setWorth_11 : decode cX7_setWorth 11 = .ok (.invokestatic 49, 3) := by decide +kernel
theorem dX7_setWorth_14 : decode cX7_setWorth 14 = .ok (.return_, 1) := by decide +kernel
theorem dX7_kindOf_0 : decode cX7_kindOf 0 = .ok (.iload_n 1, 1) := by decide +kernel
theorem dX7_kindOf_1 : decode cX7_kindOf 1 = .ok (.ifCond .lt 18, 3) := by decide +kernel
theorem dX7_kindOf_4 : decode cX7_kindOf 4 = .ok (.iload_n 1, 1) := by decide +kernel
theorem dX7_kindOf_5 : decode cX7_kindOf 5 = .ok (.bipush 6, 2) := by decide +kernel
theorem dX7_kindOf_7 : decode cX7_kindOf 7 = .ok (.if_icmp .ge 12, 3) := by decide +kernel
theorem dX7_kindOf_10 : decode cX7_kindOf 10 = .ok (.aload_n 0, 1) := by decide +kernel
theorem dX7_kindOf_11 : decode cX7_kindOf 11 = .ok (.getfield 9, 3) := by decide +kernel
theorem dX7_kindOf_14 : decode cX7_kindOf 14 = .ok (.iload_n 1, 1) := by decide +kernel
theorem dX7_kindOf_15 : decode cX7_kindOf 15 = .ok (.iaload, 1) := by decide +kernel
theorem dX7_kindOf_16 : decode cX7_kindOf 16 = .ok (.goto 4, 3) := by decide +kernel
theorem dX7_kindOf_19 : decode cX7_kindOf 19 = .ok (.iconst 0, 1) := by decide +kernel
theorem dX7_kindOf_20 : decode cX7_kindOf 20 = .ok (.ireturn, 1) := by decide +kernel
theorem dX7_wantsOf_0 : decode cX7_wantsOf 0 = .ok (.aload_n 0, 1) := by decide +kernel
theorem dX7_wantsOf_1 : decode cX7_wantsOf 1 = .ok (.getfield 15, 3) := by decide +kernel
theorem dX7_wantsOf_4 : decode cX7_wantsOf 4 = .ok (.iload_n 1, 1) := by decide +kernel
theorem dX7_wantsOf_5 : decode cX7_wantsOf 5 = .ok (.invokestatic 68, 3) := by decide +kernel
theorem dX7_wantsOf_8 : decode cX7_wantsOf 8 = .ok (.ireturn, 1) := by decide +kernel
theorem dX7_allDishes_0 : decode cX7_allDishes 0 = .ok (.iconst 1, 1) := by decide +kernel
theorem dX7_allDishes_1 : decode cX7_allDishes 1 = .ok (.aload_n 0, 1) := by decide +kernel
theorem dX7_allDishes_2 : decode cX7_allDishes 2 = .ok (.getfield 25, 3) := by decide +kernel
theorem dX7_allDishes_5 : decode cX7_allDishes 5 = .ok (.ishl, 1) := by decide +kernel
theorem dX7_allDishes_6 : decode cX7_allDishes 6 = .ok (.iconst 1, 1) := by decide +kernel
theorem dX7_allDishes_7 : decode cX7_allDishes 7 = .ok (.isub, 1) := by decide +kernel
theorem dX7_allDishes_8 : decode cX7_allDishes 8 = .ok (.ireturn, 1) := by decide +kernel
theorem dX7_worthOf_0 : decode cX7_worthOf 0 = .ok (.iload_n 1, 1) := by decide +kernel
theorem dX7_worthOf_1 : decode cX7_worthOf 1 = .ok (.ifCond .lt 19, 3) := by decide +kernel
theorem dX7_worthOf_4 : decode cX7_worthOf 4 = .ok (.iload_n 1, 1) := by decide +kernel
theorem dX7_worthOf_5 : decode cX7_worthOf 5 = .ok (.bipush 6, 2) := by decide +kernel
theorem dX7_worthOf_7 : decode cX7_worthOf 7 = .ok (.if_icmp .ge 13, 3) := by decide +kernel
theorem dX7_worthOf_10 : decode cX7_worthOf 10 = .ok (.iload_n 2, 1) := by decide +kernel
theorem dX7_worthOf_11 : decode cX7_worthOf 11 = .ok (.ifCond .lt 9, 3) := by decide +kernel
theorem dX7_worthOf_14 : decode cX7_worthOf 14 = .ok (.iload_n 2, 1) := by decide +kernel
theorem dX7_worthOf_15 : decode cX7_worthOf 15 = .ok (.bipush 6, 2) := by decide +kernel
theorem dX7_worthOf_17 : decode cX7_worthOf 17 = .ok (.if_icmp .lt 5, 3) := by decide +kernel
theorem dX7_worthOf_20 : decode cX7_worthOf 20 = .ok (.iconst 0, 1) := by decide +kernel
theorem dX7_worthOf_21 : decode cX7_worthOf 21 = .ok (.ireturn, 1) := by decide +kernel
theorem dX7_worthOf_22 : decode cX7_worthOf 22 = .ok (.aload_n 0, 1) := by decide +kernel
theorem dX7_worthOf_23 : decode cX7_worthOf 23 = .ok (.getfield 18, 3) := by decide +kernel
theorem dX7_worthOf_26 : decode cX7_worthOf 26 = .ok (.iload_n 1, 1) := by decide +kernel
theorem dX7_worthOf_27 : decode cX7_worthOf 27 = .ok (.bipush 6, 2) := by decide +kernel
theorem dX7_worthOf_29 : decode cX7_worthOf 29 = .ok (.imul, 1) := by decide +kernel
theorem dX7_worthOf_30 : decode cX7_worthOf 30 = .ok (.iload_n 2, 1) := by decide +kernel
theorem dX7_worthOf_31 : decode cX7_worthOf 31 = .ok (.iadd, 1) := by decide +kernel
theorem dX7_worthOf_32 : decode cX7_worthOf 32 = .ok (.iaload, 1) := by decide +kernel
theorem dX7_worthOf_33 : decode cX7_worthOf 33 = .ok (.ireturn, 1) := by decide +kernel
theorem dX7_worthAt_0 : decode cX7_worthAt 0 = .ok (.aload_n 0, 1) := by decide +kernel
theorem dX7_worthAt_1 : decode cX7_worthAt 1 = .ok (.iload_n 1, 1) := by decide +kernel
theorem dX7_worthAt_2 : decode cX7_worthAt 2 = .ok (.iload_n 2, 1) := by decide +kernel
theorem dX7_worthAt_3 : decode cX7_worthAt 3 = .ok (.invokevirtual 56, 3) := by decide +kernel
theorem dX7_worthAt_6 : decode cX7_worthAt 6 = .ok (.iconst 0, 1) := by decide +kernel
theorem dX7_worthAt_7 : decode cX7_worthAt 7 = .ok (.bipush 10, 2) := by decide +kernel
theorem dX7_worthAt_9 : decode cX7_worthAt 9 = .ok (.aload_n 0, 1) := by decide +kernel
theorem dX7_worthAt_10 : decode cX7_worthAt 10 = .ok (.getfield 34, 3) := by decide +kernel
theorem dX7_worthAt_13 : decode cX7_worthAt 13 = .ok (.iload_n 3, 1) := by decide +kernel
theorem dX7_worthAt_14 : decode cX7_worthAt 14 = .ok (.imul, 1) := by decide +kernel
theorem dX7_worthAt_15 : decode cX7_worthAt 15 = .ok (.isub, 1) := by decide +kernel
theorem dX7_worthAt_16 : decode cX7_worthAt 16 = .ok (.invokestatic 72, 3) := by decide +kernel
theorem dX7_worthAt_19 : decode cX7_worthAt 19 = .ok (.imul, 1) := by decide +kernel
theorem dX7_worthAt_20 : decode cX7_worthAt 20 = .ok (.bipush 10, 2) := by decide +kernel
theorem dX7_worthAt_22 : decode cX7_worthAt 22 = .ok (.idiv, 1) := by decide +kernel
theorem dX7_worthAt_23 : decode cX7_worthAt 23 = .ok (.ireturn, 1) := by decide +kernel
theorem dX7_worthTogether_0 : decode cX7_worthTogether 0 = .ok (.iconst 0, 1) := by decide +kernel
theorem dX7_worthTogether_1 : decode cX7_worthTogether 1 = .ok (.istore_n 3, 1) := by decide +kernel
theorem dX7_worthTogether_2 : decode cX7_worthTogether 2 = .ok (.iconst 0, 1) := by decide +kernel
theorem dX7_worthTogether_3 : decode cX7_worthTogether 3 = .ok (.istore 4, 2) := by decide +kernel
theorem dX7_worthTogether_5 : decode cX7_worthTogether 5 = .ok (.iload 4, 2) := by decide +kernel
theorem dX7_worthTogether_7 : decode cX7_worthTogether 7 = .ok (.aload_n 0, 1) := by decide +kernel
theorem dX7_worthTogether_8 : decode cX7_worthTogether 8 = .ok (.getfield 21, 3) := by decide +kernel
theorem dX7_worthTogether_11 : decode cX7_worthTogether 11 = .ok (.if_icmp .ge 25, 3) := by decide +kernel
theorem dX7_worthTogether_14 : decode cX7_worthTogether 14 = .ok (.iload_n 3, 1) := by decide +kernel
theorem dX7_worthTogether_15 : decode cX7_worthTogether 15 = .ok (.aload_n 0, 1) := by decide +kernel
theorem dX7_worthTogether_16 : decode cX7_worthTogether 16 = .ok (.iload 4, 2) := by decide +kernel
theorem dX7_worthTogether_18 : decode cX7_worthTogether 18 = .ok (.iload_n 1, 1) := by decide +kernel
theorem dX7_worthTogether_19 : decode cX7_worthTogether 19 = .ok (.iload 4, 2) := by decide +kernel
theorem dX7_worthTogether_21 : decode cX7_worthTogether 21 = .ok (.invokestatic 77, 3) := by decide +kernel
theorem dX7_worthTogether_24 : decode cX7_worthTogether 24 = .ok (.iload_n 2, 1) := by decide +kernel
theorem dX7_worthTogether_25 : decode cX7_worthTogether 25 = .ok (.invokevirtual 80, 3) := by decide +kernel
theorem dX7_worthTogether_28 : decode cX7_worthTogether 28 = .ok (.iadd, 1) := by decide +kernel
theorem dX7_worthTogether_29 : decode cX7_worthTogether 29 = .ok (.istore_n 3, 1) := by decide +kernel
theorem dX7_worthTogether_30 : decode cX7_worthTogether 30 = .ok (.iinc 4 1, 3) := by decide +kernel
theorem dX7_worthTogether_33 : decode cX7_worthTogether 33 = .ok (.goto (-28), 3) := by decide +kernel
theorem dX7_worthTogether_36 : decode cX7_worthTogether 36 = .ok (.iload_n 3, 1) := by decide +kernel
theorem dX7_worthTogether_37 : decode cX7_worthTogether 37 = .ok (.ireturn, 1) := by decide +kernel
theorem dX7_guestBy_0 : decode cX7_guestBy 0 = .ok (.aload_n 0, 1) := by decide +kernel
theorem dX7_guestBy_1 : decode cX7_guestBy 1 = .ok (.getfield 21, 3) := by decide +kernel
theorem dX7_guestBy_4 : decode cX7_guestBy 4 = .ok (.ifCond .le 12, 3) := by decide +kernel
theorem dX7_guestBy_7 : decode cX7_guestBy 7 = .ok (.iload_n 1, 1) := by decide +kernel
theorem dX7_guestBy_8 : decode cX7_guestBy 8 = .ok (.aload_n 0, 1) := by decide +kernel
theorem dX7_guestBy_9 : decode cX7_guestBy 9 = .ok (.getfield 21, 3) := by decide +kernel
theorem dX7_guestBy_12 : decode cX7_guestBy 12 = .ok (.irem, 1) := by decide +kernel
theorem dX7_guestBy_13 : decode cX7_guestBy 13 = .ok (.goto 4, 3) := by decide +kernel
theorem dX7_guestBy_16 : decode cX7_guestBy 16 = .ok (.iconst 0, 1) := by decide +kernel
theorem dX7_guestBy_17 : decode cX7_guestBy 17 = .ok (.ireturn, 1) := by decide +kernel
theorem dX7_stepsBetween_0 : decode cX7_stepsBetween 0 = .ok (.aload_n 0, 1) := by decide +kernel
theorem dX7_stepsBetween_1 : decode cX7_stepsBetween 1 = .ok (.getfield 28, 3) := by decide +kernel
theorem dX7_stepsBetween_4 : decode cX7_stepsBetween 4 = .ok (.ifCond .ne 10, 3) := by decide +kernel
theorem dX7_stepsBetween_7 : decode cX7_stepsBetween 7 = .ok (.iload_n 1, 1) := by decide +kernel
theorem dX7_stepsBetween_8 : decode cX7_stepsBetween 8 = .ok (.iload_n 2, 1) := by decide +kernel
theorem dX7_stepsBetween_9 : decode cX7_stepsBetween 9 = .ok (.isub, 1) := by decide +kernel
theorem dX7_stepsBetween_10 : decode cX7_stepsBetween 10 = .ok (.invokestatic 83, 3) := by decide +kernel
theorem dX7_stepsBetween_13 : decode cX7_stepsBetween 13 = .ok (.ireturn, 1) := by decide +kernel
theorem dX7_stepsBetween_14 : decode cX7_stepsBetween 14 = .ok (.aload_n 0, 1) := by decide +kernel
theorem dX7_stepsBetween_15 : decode cX7_stepsBetween 15 = .ok (.iload_n 1, 1) := by decide +kernel
theorem dX7_stepsBetween_16 : decode cX7_stepsBetween 16 = .ok (.iload_n 2, 1) := by decide +kernel
theorem dX7_stepsBetween_17 : decode cX7_stepsBetween 17 = .ok (.invokevirtual 86, 3) := by decide +kernel
theorem dX7_stepsBetween_20 : decode cX7_stepsBetween 20 = .ok (.istore_n 3, 1) := by decide +kernel
theorem dX7_stepsBetween_21 : decode cX7_stepsBetween 21 = .ok (.iload_n 3, 1) := by decide +kernel
theorem dX7_stepsBetween_22 : decode cX7_stepsBetween 22 = .ok (.aload_n 0, 1) := by decide +kernel
theorem dX7_stepsBetween_23 : decode cX7_stepsBetween 23 = .ok (.getfield 21, 3) := by decide +kernel
theorem dX7_stepsBetween_26 : decode cX7_stepsBetween 26 = .ok (.iload_n 3, 1) := by decide +kernel
theorem dX7_stepsBetween_27 : decode cX7_stepsBetween 27 = .ok (.isub, 1) := by decide +kernel
theorem dX7_stepsBetween_28 : decode cX7_stepsBetween 28 = .ok (.invokestatic 89, 3) := by decide +kernel
theorem dX7_stepsBetween_31 : decode cX7_stepsBetween 31 = .ok (.ireturn, 1) := by decide +kernel
theorem dX7_stepsRight_0 : decode cX7_stepsRight 0 = .ok (.iload_n 2, 1) := by decide +kernel
theorem dX7_stepsRight_1 : decode cX7_stepsRight 1 = .ok (.iload_n 1, 1) := by decide +kernel
theorem dX7_stepsRight_2 : decode cX7_stepsRight 2 = .ok (.if_icmp .lt 9, 3) := by decide +kernel
theorem dX7_stepsRight_5 : decode cX7_stepsRight 5 = .ok (.iload_n 2, 1) := by decide +kernel
theorem dX7_stepsRight_6 : decode cX7_stepsRight 6 = .ok (.iload_n 1, 1) := by decide +kernel
theorem dX7_stepsRight_7 : decode cX7_stepsRight 7 = .ok (.isub, 1) := by decide +kernel
theorem dX7_stepsRight_8 : decode cX7_stepsRight 8 = .ok (.goto 11, 3) := by decide +kernel
theorem dX7_stepsRight_11 : decode cX7_stepsRight 11 = .ok (.iload_n 2, 1) := by decide +kernel
theorem dX7_stepsRight_12 : decode cX7_stepsRight 12 = .ok (.iload_n 1, 1) := by decide +kernel
theorem dX7_stepsRight_13 : decode cX7_stepsRight 13 = .ok (.isub, 1) := by decide +kernel
theorem dX7_stepsRight_14 : decode cX7_stepsRight 14 = .ok (.aload_n 0, 1) := by decide +kernel
theorem dX7_stepsRight_15 : decode cX7_stepsRight 15 = .ok (.getfield 21, 3) := by decide +kernel
theorem dX7_stepsRight_18 : decode cX7_stepsRight 18 = .ok (.iadd, 1) := by decide +kernel
theorem dX7_stepsRight_19 : decode cX7_stepsRight 19 = .ok (.ireturn, 1) := by decide +kernel
theorem dX7_stepTowards_0 : decode cX7_stepTowards 0 = .ok (.aload_n 0, 1) := by decide +kernel
theorem dX7_stepTowards_1 : decode cX7_stepTowards 1 = .ok (.getfield 28, 3) := by decide +kernel
theorem dX7_stepTowards_4 : decode cX7_stepTowards 4 = .ok (.ifCond .ne 14, 3) := by decide +kernel
theorem dX7_stepTowards_7 : decode cX7_stepTowards 7 = .ok (.iload_n 2, 1) := by decide +kernel
theorem dX7_stepTowards_8 : decode cX7_stepTowards 8 = .ok (.iload_n 1, 1) := by decide +kernel
theorem dX7_stepTowards_9 : decode cX7_stepTowards 9 = .ok (.if_icmp .le 7, 3) := by decide +kernel
theorem dX7_stepTowards_12 : decode cX7_stepTowards 12 = .ok (.iconst 1, 1) := by decide +kernel
theorem dX7_stepTowards_13 : decode cX7_stepTowards 13 = .ok (.goto 4, 3) := by decide +kernel
theorem dX7_stepTowards_16 : decode cX7_stepTowards 16 = .ok (.iconst (-1), 1) := by decide +kernel
theorem dX7_stepTowards_17 : decode cX7_stepTowards 17 = .ok (.ireturn, 1) := by decide +kernel
theorem dX7_stepTowards_18 : decode cX7_stepTowards 18 = .ok (.aload_n 0, 1) := by decide +kernel
theorem dX7_stepTowards_19 : decode cX7_stepTowards 19 = .ok (.iload_n 1, 1) := by decide +kernel
theorem dX7_stepTowards_20 : decode cX7_stepTowards 20 = .ok (.iload_n 2, 1) := by decide +kernel
theorem dX7_stepTowards_21 : decode cX7_stepTowards 21 = .ok (.invokevirtual 86, 3) := by decide +kernel
theorem dX7_stepTowards_24 : decode cX7_stepTowards 24 = .ok (.istore_n 3, 1) := by decide +kernel
theorem dX7_stepTowards_25 : decode cX7_stepTowards 25 = .ok (.iload_n 3, 1) := by decide +kernel
theorem dX7_stepTowards_26 : decode cX7_stepTowards 26 = .ok (.aload_n 0, 1) := by decide +kernel
theorem dX7_stepTowards_27 : decode cX7_stepTowards 27 = .ok (.getfield 21, 3) := by decide +kernel
theorem dX7_stepTowards_30 : decode cX7_stepTowards 30 = .ok (.iload_n 3, 1) := by decide +kernel
theorem dX7_stepTowards_31 : decode cX7_stepTowards 31 = .ok (.isub, 1) := by decide +kernel
theorem dX7_stepTowards_32 : decode cX7_stepTowards 32 = .ok (.if_icmp .gt 7, 3) := by decide +kernel
theorem dX7_stepTowards_35 : decode cX7_stepTowards 35 = .ok (.iconst 1, 1) := by decide +kernel
theorem dX7_stepTowards_36 : decode cX7_stepTowards 36 = .ok (.goto 4, 3) := by decide +kernel
theorem dX7_stepTowards_39 : decode cX7_stepTowards 39 = .ok (.iconst (-1), 1) := by decide +kernel
theorem dX7_stepTowards_40 : decode cX7_stepTowards 40 = .ok (.ireturn, 1) := by decide +kernel
theorem dX7_nextSeat_0 : decode cX7_nextSeat 0 = .ok (.iload_n 1, 1) := by decide +kernel
theorem dX7_nextSeat_1 : decode cX7_nextSeat 1 = .ok (.iload_n 2, 1) := by decide +kernel
theorem dX7_nextSeat_2 : decode cX7_nextSeat 2 = .ok (.iadd, 1) := by decide +kernel
theorem dX7_nextSeat_3 : decode cX7_nextSeat 3 = .ok (.istore_n 3, 1) := by decide +kernel
theorem dX7_nextSeat_4 : decode cX7_nextSeat 4 = .ok (.iload_n 3, 1) := by decide +kernel
theorem dX7_nextSeat_5 : decode cX7_nextSeat 5 = .ok (.ifCond .ge 10, 3) := by decide +kernel
theorem dX7_nextSeat_8 : decode cX7_nextSeat 8 = .ok (.aload_n 0, 1) := by decide +kernel
theorem dX7_nextSeat_9 : decode cX7_nextSeat 9 = .ok (.getfield 21, 3) := by decide +kernel
theorem dX7_nextSeat_12 : decode cX7_nextSeat 12 = .ok (.iconst 1, 1) := by decide +kernel
theorem dX7_nextSeat_13 : decode cX7_nextSeat 13 = .ok (.isub, 1) := by decide +kernel
theorem dX7_nextSeat_14 : decode cX7_nextSeat 14 = .ok (.ireturn, 1) := by decide +kernel
theorem dX7_nextSeat_15 : decode cX7_nextSeat 15 = .ok (.iload_n 3, 1) := by decide +kernel
theorem dX7_nextSeat_16 : decode cX7_nextSeat 16 = .ok (.aload_n 0, 1) := by decide +kernel
theorem dX7_nextSeat_17 : decode cX7_nextSeat 17 = .ok (.getfield 21, 3) := by decide +kernel
theorem dX7_nextSeat_20 : decode cX7_nextSeat 20 = .ok (.if_icmp .lt 7, 3) := by decide +kernel
theorem dX7_nextSeat_23 : decode cX7_nextSeat 23 = .ok (.iconst 0, 1) := by decide +kernel
theorem dX7_nextSeat_24 : decode cX7_nextSeat 24 = .ok (.goto 4, 3) := by decide +kernel
theorem dX7_nextSeat_27 : decode cX7_nextSeat 27 = .ok (.iload_n 3, 1) := by decide +kernel
theorem dX7_nextSeat_28 : decode cX7_nextSeat 28 = .ok (.ireturn, 1) := by decide +kernel
theorem dX7_canBeAsked_0 : decode cX7_canBeAsked 0 = .ok (.iload_n 2, 1) := by decide +kernel
theorem dX7_canBeAsked_1 : decode cX7_canBeAsked 1 = .ok (.iload_n 3, 1) := by decide +kernel
theorem dX7_canBeAsked_2 : decode cX7_canBeAsked 2 = .ok (.if_icmp .eq 60, 3) := by decide +kernel
theorem dX7_canBeAsked_5 : decode cX7_canBeAsked 5 = .ok (.iload_n 2, 1) := by decide +kernel
theorem dX7_canBeAsked_6 : decode cX7_canBeAsked 6 = .ok (.ifCond .lt 56, 3) := by decide +kernel
theorem dX7_canBeAsked_9 : decode cX7_canBeAsked 9 = .ok (.iload_n 2, 1) := by decide +kernel
theorem dX7_canBeAsked_10 : decode cX7_canBeAsked 10 = .ok (.aload_n 0, 1) := by decide +kernel
theorem dX7_canBeAsked_11 : decode cX7_canBeAsked 11 = .ok (.getfield 21, 3) := by decide +kernel
theorem dX7_canBeAsked_14 : decode cX7_canBeAsked 14 = .ok (.if_icmp .ge 48, 3) := by decide +kernel
theorem dX7_canBeAsked_17 : decode cX7_canBeAsked 17 = .ok (.iload_n 3, 1) := by decide +kernel
theorem dX7_canBeAsked_18 : decode cX7_canBeAsked 18 = .ok (.ifCond .lt 44, 3) := by decide +kernel
theorem dX7_canBeAsked_21 : decode cX7_canBeAsked 21 = .ok (.iload_n 3, 1) := by decide +kernel
theorem dX7_canBeAsked_22 : decode cX7_canBeAsked 22 = .ok (.aload_n 0, 1) := by decide +kernel
theorem dX7_canBeAsked_23 : decode cX7_canBeAsked 23 = .ok (.getfield 21, 3) := by decide +kernel
theorem dX7_canBeAsked_26 : decode cX7_canBeAsked 26 = .ok (.if_icmp .ge 36, 3) := by decide +kernel
theorem dX7_canBeAsked_29 : decode cX7_canBeAsked 29 = .ok (.aload_n 0, 1) := by decide +kernel
theorem dX7_canBeAsked_30 : decode cX7_canBeAsked 30 = .ok (.iload_n 3, 1) := by decide +kernel
theorem dX7_canBeAsked_31 : decode cX7_canBeAsked 31 = .ok (.invokevirtual 45, 3) := by decide +kernel
theorem dX7_canBeAsked_34 : decode cX7_canBeAsked 34 = .ok (.iconst 2, 1) := by decide +kernel
theorem dX7_canBeAsked_35 : decode cX7_canBeAsked 35 = .ok (.if_icmp .eq 27, 3) := by decide +kernel
theorem dX7_canBeAsked_38 : decode cX7_canBeAsked 38 = .ok (.iload_n 1, 1) := by decide +kernel
theorem dX7_canBeAsked_39 : decode cX7_canBeAsked 39 = .ok (.iload_n 2, 1) := by decide +kernel
theorem dX7_canBeAsked_40 : decode cX7_canBeAsked 40 = .ok (.invokestatic 77, 3) := by decide +kernel
theorem dX7_canBeAsked_43 : decode cX7_canBeAsked 43 = .ok (.bipush 7, 2) := by decide +kernel
theorem dX7_canBeAsked_45 : decode cX7_canBeAsked 45 = .ok (.if_icmp .eq 17, 3) := by decide +kernel
theorem dX7_canBeAsked_48 : decode cX7_canBeAsked 48 = .ok (.iload_n 1, 1) := by decide +kernel
theorem dX7_canBeAsked_49 : decode cX7_canBeAsked 49 = .ok (.iload_n 3, 1) := by decide +kernel
theorem dX7_canBeAsked_50 : decode cX7_canBeAsked 50 = .ok (.invokestatic 77, 3) := by decide +kernel
theorem dX7_canBeAsked_53 : decode cX7_canBeAsked 53 = .ok (.bipush 7, 2) := by decide +kernel
theorem dX7_canBeAsked_55 : decode cX7_canBeAsked 55 = .ok (.if_icmp .eq 7, 3) := by decide +kernel
theorem dX7_canBeAsked_58 : decode cX7_canBeAsked 58 = .ok (.iconst 1, 1) := by decide +kernel
theorem dX7_canBeAsked_59 : decode cX7_canBeAsked 59 = .ok (.goto 4, 3) := by decide +kernel
theorem dX7_canBeAsked_62 : decode cX7_canBeAsked 62 = .ok (.iconst 0, 1) := by decide +kernel
theorem dX7_canBeAsked_63 : decode cX7_canBeAsked 63 = .ok (.ireturn, 1) := by decide +kernel
theorem dX7_lieAfter_0 : decode cX7_lieAfter 0 = .ok (.aload_n 0, 1) := by decide +kernel
theorem dX7_lieAfter_1 : decode cX7_lieAfter 1 = .ok (.iload_n 2, 1) := by decide +kernel
theorem dX7_lieAfter_2 : decode cX7_lieAfter 2 = .ok (.iload_n 3, 1) := by decide +kernel
theorem dX7_lieAfter_3 : decode cX7_lieAfter 3 = .ok (.invokevirtual 92, 3) := by decide +kernel
theorem dX7_lieAfter_6 : decode cX7_lieAfter 6 = .ok (.istore 4, 2) := by decide +kernel
theorem dX7_lieAfter_8 : decode cX7_lieAfter 8 = .ok (.iload_n 1, 1) := by decide +kernel
theorem dX7_lieAfter_9 : decode cX7_lieAfter 9 = .ok (.iload_n 2, 1) := by decide +kernel
theorem dX7_lieAfter_10 : decode cX7_lieAfter 10 = .ok (.bipush 7, 2) := by decide +kernel
theorem dX7_lieAfter_12 : decode cX7_lieAfter 12 = .ok (.invokestatic 64, 3) := by decide +kernel
theorem dX7_lieAfter_15 : decode cX7_lieAfter 15 = .ok (.iload_n 3, 1) := by decide +kernel
theorem dX7_lieAfter_16 : decode cX7_lieAfter 16 = .ok (.bipush 7, 2) := by decide +kernel
theorem dX7_lieAfter_18 : decode cX7_lieAfter 18 = .ok (.invokestatic 64, 3) := by decide +kernel
theorem dX7_lieAfter_21 : decode cX7_lieAfter 21 = .ok (.istore 5, 2) := by decide +kernel
theorem dX7_lieAfter_23 : decode cX7_lieAfter 23 = .ok (.aload_n 0, 1) := by decide +kernel
theorem dX7_lieAfter_24 : decode cX7_lieAfter 24 = .ok (.iload 5, 2) := by decide +kernel
theorem dX7_lieAfter_26 : decode cX7_lieAfter 26 = .ok (.iload_n 1, 1) := by decide +kernel
theorem dX7_lieAfter_27 : decode cX7_lieAfter 27 = .ok (.iload_n 2, 1) := by decide +kernel
theorem dX7_lieAfter_28 : decode cX7_lieAfter 28 = .ok (.invokestatic 77, 3) := by decide +kernel
theorem dX7_lieAfter_31 : decode cX7_lieAfter 31 = .ok (.iload_n 2, 1) := by decide +kernel
theorem dX7_lieAfter_32 : decode cX7_lieAfter 32 = .ok (.iload_n 3, 1) := by decide +kernel
theorem dX7_lieAfter_33 : decode cX7_lieAfter 33 = .ok (.iload 4, 2) := by decide +kernel
theorem dX7_lieAfter_35 : decode cX7_lieAfter 35 = .ok (.invokevirtual 95, 3) := by decide +kernel
theorem dX7_lieAfter_38 : decode cX7_lieAfter 38 = .ok (.istore 5, 2) := by decide +kernel
theorem dX7_lieAfter_40 : decode cX7_lieAfter 40 = .ok (.aload_n 0, 1) := by decide +kernel
theorem dX7_lieAfter_41 : decode cX7_lieAfter 41 = .ok (.iload 5, 2) := by decide +kernel
theorem dX7_lieAfter_43 : decode cX7_lieAfter 43 = .ok (.iload_n 1, 1) := by decide +kernel
theorem dX7_lieAfter_44 : decode cX7_lieAfter 44 = .ok (.iload_n 3, 1) := by decide +kernel
theorem dX7_lieAfter_45 : decode cX7_lieAfter 45 = .ok (.invokestatic 77, 3) := by decide +kernel
theorem dX7_lieAfter_48 : decode cX7_lieAfter 48 = .ok (.iload_n 3, 1) := by decide +kernel
theorem dX7_lieAfter_49 : decode cX7_lieAfter 49 = .ok (.iload_n 2, 1) := by decide +kernel
theorem dX7_lieAfter_50 : decode cX7_lieAfter 50 = .ok (.iload 4, 2) := by decide +kernel
theorem dX7_lieAfter_52 : decode cX7_lieAfter 52 = .ok (.ineg, 1) := by decide +kernel
theorem dX7_lieAfter_53 : decode cX7_lieAfter 53 = .ok (.invokevirtual 95, 3) := by decide +kernel
theorem dX7_lieAfter_56 : decode cX7_lieAfter 56 = .ok (.istore 5, 2) := by decide +kernel
theorem dX7_lieAfter_58 : decode cX7_lieAfter 58 = .ok (.aload_n 0, 1) := by decide +kernel
theorem dX7_lieAfter_59 : decode cX7_lieAfter 59 = .ok (.aload_n 0, 1) := by decide +kernel
theorem dX7_lieAfter_60 : decode cX7_lieAfter 60 = .ok (.iload 5, 2) := by decide +kernel
theorem dX7_lieAfter_62 : decode cX7_lieAfter 62 = .ok (.iload_n 2, 1) := by decide +kernel
theorem dX7_lieAfter_63 : decode cX7_lieAfter 63 = .ok (.invokevirtual 99, 3) := by decide +kernel
theorem dX7_lieAfter_66 : decode cX7_lieAfter 66 = .ok (.iload_n 3, 1) := by decide +kernel
theorem dX7_lieAfter_67 : decode cX7_lieAfter 67 = .ok (.invokevirtual 99, 3) := by decide +kernel
theorem dX7_lieAfter_70 : decode cX7_lieAfter 70 = .ok (.ireturn, 1) := by decide +kernel
theorem dX7_carried_0 : decode cX7_carried 0 = .ok (.iload_n 1, 1) := by decide +kernel
theorem dX7_carried_1 : decode cX7_carried 1 = .ok (.istore 6, 2) := by decide +kernel
theorem dX7_carried_3 : decode cX7_carried 3 = .ok (.iload_n 2, 1) := by decide +kernel
theorem dX7_carried_4 : decode cX7_carried 4 = .ok (.istore 7, 2) := by decide +kernel
theorem dX7_carried_6 : decode cX7_carried 6 = .ok (.aload_n 0, 1) := by decide +kernel
theorem dX7_carried_7 : decode cX7_carried 7 = .ok (.iload_n 3, 1) := by decide +kernel
theorem dX7_carried_8 : decode cX7_carried 8 = .ok (.iload 5, 2) := by decide +kernel
theorem dX7_carried_10 : decode cX7_carried 10 = .ok (.invokevirtual 102, 3) := by decide +kernel
theorem dX7_carried_13 : decode cX7_carried 13 = .ok (.istore 8, 2) := by decide +kernel
theorem dX7_carried_15 : decode cX7_carried 15 = .ok (.iconst 0, 1) := by decide +kernel
theorem dX7_carried_16 : decode cX7_carried 16 = .ok (.istore 9, 2) := by decide +kernel
theorem dX7_carried_18 : decode cX7_carried 18 = .ok (.iload 9, 2) := by decide +kernel
theorem dX7_carried_20 : decode cX7_carried 20 = .ok (.bipush 6, 2) := by decide +kernel
theorem dX7_carried_22 : decode cX7_carried 22 = .ok (.if_icmp .ge 79, 3) := by decide +kernel
theorem dX7_carried_25 : decode cX7_carried 25 = .ok (.iload 8, 2) := by decide +kernel
theorem dX7_carried_27 : decode cX7_carried 27 = .ok (.iload 4, 2) := by decide +kernel
theorem dX7_carried_29 : decode cX7_carried 29 = .ok (.if_icmp .eq 72, 3) := by decide +kernel
theorem dX7_carried_32 : decode cX7_carried 32 = .ok (.iload 6, 2) := by decide +kernel
theorem dX7_carried_34 : decode cX7_carried 34 = .ok (.iload 8, 2) := by decide +kernel
theorem dX7_carried_36 : decode cX7_carried 36 = .ok (.invokestatic 77, 3) := by decide +kernel
theorem dX7_carried_39 : decode cX7_carried 39 = .ok (.istore 10, 2) := by decide +kernel
theorem dX7_carried_41 : decode cX7_carried 41 = .ok (.aload_n 0, 1) := by decide +kernel
theorem dX7_carried_42 : decode cX7_carried 42 = .ok (.iload 8, 2) := by decide +kernel
theorem dX7_carried_44 : decode cX7_carried 44 = .ok (.invokevirtual 45, 3) := by decide +kernel
theorem dX7_carried_47 : decode cX7_carried 47 = .ok (.iconst 1, 1) := by decide +kernel
theorem dX7_carried_48 : decode cX7_carried 48 = .ok (.if_icmp .ne 37, 3) := by decide +kernel
theorem dX7_carried_51 : decode cX7_carried 51 = .ok (.aload_n 0, 1) := by decide +kernel
theorem dX7_carried_52 : decode cX7_carried 52 = .ok (.iload 8, 2) := by decide +kernel
theorem dX7_carried_54 : decode cX7_carried 54 = .ok (.iload 7, 2) := by decide +kernel
theorem dX7_carried_56 : decode cX7_carried 56 = .ok (.invokevirtual 56, 3) := by decide +kernel
theorem dX7_carried_59 : decode cX7_carried 59 = .ok (.aload_n 0, 1) := by decide +kernel
theorem dX7_carried_60 : decode cX7_carried 60 = .ok (.iload 8, 2) := by decide +kernel
theorem dX7_carried_62 : decode cX7_carried 62 = .ok (.iload 10, 2) := by decide +kernel
theorem dX7_carried_64 : decode cX7_carried 64 = .ok (.invokevirtual 56, 3) := by decide +kernel
theorem dX7_carried_67 : decode cX7_carried 67 = .ok (.if_icmp .le 18, 3) := by decide +kernel
theorem dX7_carried_70 : decode cX7_carried 70 = .ok (.iload 6, 2) := by decide +kernel
theorem dX7_carried_72 : decode cX7_carried 72 = .ok (.iload 8, 2) := by decide +kernel
theorem dX7_carried_74 : decode cX7_carried 74 = .ok (.iload 7, 2) := by decide +kernel
theorem dX7_carried_76 : decode cX7_carried 76 = .ok (.invokestatic 64, 3) := by decide +kernel
theorem dX7_carried_79 : decode cX7_carried 79 = .ok (.istore 6, 2) := by decide +kernel
theorem dX7_carried_81 : decode cX7_carried 81 = .ok (.iload 10, 2) := by decide +kernel
theorem dX7_carried_83 : decode cX7_carried 83 = .ok (.istore 7, 2) := by decide +kernel
theorem dX7_carried_85 : decode cX7_carried 85 = .ok (.aload_n 0, 1) := by decide +kernel
theorem dX7_carried_86 : decode cX7_carried 86 = .ok (.iload 8, 2) := by decide +kernel
theorem dX7_carried_88 : decode cX7_carried 88 = .ok (.iload 5, 2) := by decide +kernel
theorem dX7_carried_90 : decode cX7_carried 90 = .ok (.invokevirtual 102, 3) := by decide +kernel
theorem dX7_carried_93 : decode cX7_carried 93 = .ok (.istore 8, 2) := by decide +kernel
theorem dX7_carried_95 : decode cX7_carried 95 = .ok (.iinc 9 1, 3) := by decide +kernel
theorem dX7_carried_98 : decode cX7_carried 98 = .ok (.goto (-80), 3) := by decide +kernel
theorem dX7_carried_101 : decode cX7_carried 101 = .ok (.iload 6, 2) := by decide +kernel
theorem dX7_carried_103 : decode cX7_carried 103 = .ok (.iload 4, 2) := by decide +kernel
theorem dX7_carried_105 : decode cX7_carried 105 = .ok (.iload 7, 2) := by decide +kernel
theorem dX7_carried_107 : decode cX7_carried 107 = .ok (.invokestatic 64, 3) := by decide +kernel
theorem dX7_carried_110 : decode cX7_carried 110 = .ok (.ireturn, 1) := by decide +kernel
theorem dX7_childChanged_0 : decode cX7_childChanged 0 = .ok (.aload_n 0, 1) := by decide +kernel
theorem dX7_childChanged_1 : decode cX7_childChanged 1 = .ok (.getfield 28, 3) := by decide +kernel
theorem dX7_childChanged_4 : decode cX7_childChanged 4 = .ok (.ifCond .ne 17, 3) := by decide +kernel
theorem dX7_childChanged_7 : decode cX7_childChanged 7 = .ok (.iload_n 2, 1) := by decide +kernel
theorem dX7_childChanged_8 : decode cX7_childChanged 8 = .ok (.aload_n 0, 1) := by decide +kernel
theorem dX7_childChanged_9 : decode cX7_childChanged 9 = .ok (.getfield 21, 3) := by decide +kernel
theorem dX7_childChanged_12 : decode cX7_childChanged 12 = .ok (.iconst 1, 1) := by decide +kernel
theorem dX7_childChanged_13 : decode cX7_childChanged 13 = .ok (.isub, 1) := by decide +kernel
theorem dX7_childChanged_14 : decode cX7_childChanged 14 = .ok (.if_icmp .ne 7, 3) := by decide +kernel
theorem dX7_childChanged_17 : decode cX7_childChanged 17 = .ok (.iconst 1, 1) := by decide +kernel
theorem dX7_childChanged_18 : decode cX7_childChanged 18 = .ok (.goto 4, 3) := by decide +kernel
theorem dX7_childChanged_21 : decode cX7_childChanged 21 = .ok (.iconst 0, 1) := by decide +kernel
theorem dX7_childChanged_22 : decode cX7_childChanged 22 = .ok (.istore_n 3, 1) := by decide +kernel
theorem dX7_childChanged_23 : decode cX7_childChanged 23 = .ok (.aload_n 0, 1) := by decide +kernel
theorem dX7_childChanged_24 : decode cX7_childChanged 24 = .ok (.iload_n 2, 1) := by decide +kernel
theorem dX7_childChanged_25 : decode cX7_childChanged 25 = .ok (.invokevirtual 45, 3) := by decide +kernel
theorem dX7_childChanged_28 : decode cX7_childChanged 28 = .ok (.iconst 3, 1) := by decide +kernel
theorem dX7_childChanged_29 : decode cX7_childChanged 29 = .ok (.if_icmp .ne 17, 3) := by decide +kernel
theorem dX7_childChanged_32 : decode cX7_childChanged 32 = .ok (.iload_n 1, 1) := by decide +kernel
theorem dX7_childChanged_33 : decode cX7_childChanged 33 = .ok (.iload_n 2, 1) := by decide +kernel
theorem dX7_childChanged_34 : decode cX7_childChanged 34 = .ok (.invokestatic 77, 3) := by decide +kernel
theorem dX7_childChanged_37 : decode cX7_childChanged 37 = .ok (.bipush 7, 2) := by decide +kernel
theorem dX7_childChanged_39 : decode cX7_childChanged 39 = .ok (.if_icmp .eq 7, 3) := by decide +kernel
theorem dX7_childChanged_42 : decode cX7_childChanged 42 = .ok (.iload_n 3, 1) := by decide +kernel
theorem dX7_childChanged_43 : decode cX7_childChanged 43 = .ok (.ifCond .eq 5, 3) := by decide +kernel
theorem dX7_childChanged_46 : decode cX7_childChanged 46 = .ok (.iload_n 1, 1) := by decide +kernel
theorem dX7_childChanged_47 : decode cX7_childChanged 47 = .ok (.ireturn, 1) := by decide +kernel
theorem dX7_childChanged_48 : decode cX7_childChanged 48 = .ok (.iload_n 1, 1) := by decide +kernel
theorem dX7_childChanged_49 : decode cX7_childChanged 49 = .ok (.iload_n 2, 1) := by decide +kernel
theorem dX7_childChanged_50 : decode cX7_childChanged 50 = .ok (.aload_n 0, 1) := by decide +kernel
theorem dX7_childChanged_51 : decode cX7_childChanged 51 = .ok (.iload_n 2, 1) := by decide +kernel
theorem dX7_childChanged_52 : decode cX7_childChanged 52 = .ok (.iconst 1, 1) := by decide +kernel
theorem dX7_childChanged_53 : decode cX7_childChanged 53 = .ok (.invokevirtual 102, 3) := by decide +kernel
theorem dX7_childChanged_56 : decode cX7_childChanged 56 = .ok (.invokestatic 105, 3) := by decide +kernel
theorem dX7_childChanged_59 : decode cX7_childChanged 59 = .ok (.ireturn, 1) := by decide +kernel
theorem dX7_bothWouldLike_0 : decode cX7_bothWouldLike 0 = .ok (.iload_n 1, 1) := by decide +kernel
theorem dX7_bothWouldLike_1 : decode cX7_bothWouldLike 1 = .ok (.iload_n 2, 1) := by decide +kernel
theorem dX7_bothWouldLike_2 : decode cX7_bothWouldLike 2 = .ok (.invokestatic 77, 3) := by decide +kernel
theorem dX7_bothWouldLike_5 : decode cX7_bothWouldLike 5 = .ok (.istore 4, 2) := by decide +kernel
theorem dX7_bothWouldLike_7 : decode cX7_bothWouldLike 7 = .ok (.iload_n 1, 1) := by decide +kernel
theorem dX7_bothWouldLike_8 : decode cX7_bothWouldLike 8 = .ok (.iload_n 3, 1) := by decide +kernel
theorem dX7_bothWouldLike_9 : decode cX7_bothWouldLike 9 = .ok (.invokestatic 77, 3) := by decide +kernel
theorem dX7_bothWouldLike_12 : decode cX7_bothWouldLike 12 = .ok (.istore 5, 2) := by decide +kernel
theorem dX7_bothWouldLike_14 : decode cX7_bothWouldLike 14 = .ok (.aload_n 0, 1) := by decide +kernel
theorem dX7_bothWouldLike_15 : decode cX7_bothWouldLike 15 = .ok (.iload_n 2, 1) := by decide +kernel
theorem dX7_bothWouldLike_16 : decode cX7_bothWouldLike 16 = .ok (.iload 5, 2) := by decide +kernel
theorem dX7_bothWouldLike_18 : decode cX7_bothWouldLike 18 = .ok (.invokevirtual 56, 3) := by decide +kernel
theorem dX7_bothWouldLike_21 : decode cX7_bothWouldLike 21 = .ok (.aload_n 0, 1) := by decide +kernel
theorem dX7_bothWouldLike_22 : decode cX7_bothWouldLike 22 = .ok (.iload_n 2, 1) := by decide +kernel
theorem dX7_bothWouldLike_23 : decode cX7_bothWouldLike 23 = .ok (.iload 4, 2) := by decide +kernel
theorem dX7_bothWouldLike_25 : decode cX7_bothWouldLike 25 = .ok (.invokevirtual 56, 3) := by decide +kernel
theorem dX7_bothWouldLike_28 : decode cX7_bothWouldLike 28 = .ok (.if_icmp .le 24, 3) := by decide +kernel
theorem dX7_bothWouldLike_31 : decode cX7_bothWouldLike 31 = .ok (.aload_n 0, 1) := by decide +kernel
theorem dX7_bothWouldLike_32 : decode cX7_bothWouldLike 32 = .ok (.iload_n 3, 1) := by decide +kernel
theorem dX7_bothWouldLike_33 : decode cX7_bothWouldLike 33 = .ok (.iload 4, 2) := by decide +kernel
theorem dX7_bothWouldLike_35 : decode cX7_bothWouldLike 35 = .ok (.invokevirtual 56, 3) := by decide +kernel
theorem dX7_bothWouldLike_38 : decode cX7_bothWouldLike 38 = .ok (.aload_n 0, 1) := by decide +kernel
theorem dX7_bothWouldLike_39 : decode cX7_bothWouldLike 39 = .ok (.iload_n 3, 1) := by decide +kernel
theorem dX7_bothWouldLike_40 : decode cX7_bothWouldLike 40 = .ok (.iload 5, 2) := by decide +kernel
theorem dX7_bothWouldLike_42 : decode cX7_bothWouldLike 42 = .ok (.invokevirtual 56, 3) := by decide +kernel
theorem dX7_bothWouldLike_45 : decode cX7_bothWouldLike 45 = .ok (.if_icmp .le 7, 3) := by decide +kernel
theorem dX7_bothWouldLike_48 : decode cX7_bothWouldLike 48 = .ok (.iconst 1, 1) := by decide +kernel
theorem dX7_bothWouldLike_49 : decode cX7_bothWouldLike 49 = .ok (.goto 4, 3) := by decide +kernel
theorem dX7_bothWouldLike_52 : decode cX7_bothWouldLike 52 = .ok (.iconst 0, 1) := by decide +kernel
theorem dX7_bothWouldLike_53 : decode cX7_bothWouldLike 53 = .ok (.ireturn, 1) := by decide +kernel
theorem dX7_isAtRest_0 : decode cX7_isAtRest 0 = .ok (.iconst 0, 1) := by decide +kernel
theorem dX7_isAtRest_1 : decode cX7_isAtRest 1 = .ok (.istore_n 2, 1) := by decide +kernel
theorem dX7_isAtRest_2 : decode cX7_isAtRest 2 = .ok (.iload_n 2, 1) := by decide +kernel
theorem dX7_isAtRest_3 : decode cX7_isAtRest 3 = .ok (.aload_n 0, 1) := by decide +kernel
theorem dX7_isAtRest_4 : decode cX7_isAtRest 4 = .ok (.getfield 21, 3) := by decide +kernel
theorem dX7_isAtRest_7 : decode cX7_isAtRest 7 = .ok (.if_icmp .ge 35, 3) := by decide +kernel
theorem dX7_isAtRest_10 : decode cX7_isAtRest 10 = .ok (.aload_n 0, 1) := by decide +kernel
theorem dX7_isAtRest_11 : decode cX7_isAtRest 11 = .ok (.iload_n 2, 1) := by decide +kernel
theorem dX7_isAtRest_12 : decode cX7_isAtRest 12 = .ok (.invokevirtual 53, 3) := by decide +kernel
theorem dX7_isAtRest_15 : decode cX7_isAtRest 15 = .ok (.ifCond .eq 21, 3) := by decide +kernel
theorem dX7_isAtRest_18 : decode cX7_isAtRest 18 = .ok (.aload_n 0, 1) := by decide +kernel
theorem dX7_isAtRest_19 : decode cX7_isAtRest 19 = .ok (.iload_n 2, 1) := by decide +kernel
theorem dX7_isAtRest_20 : decode cX7_isAtRest 20 = .ok (.invokevirtual 53, 3) := by decide +kernel
theorem dX7_isAtRest_23 : decode cX7_isAtRest 23 = .ok (.iconst 1, 1) := by decide +kernel
theorem dX7_isAtRest_24 : decode cX7_isAtRest 24 = .ok (.iload_n 1, 1) := by decide +kernel
theorem dX7_isAtRest_25 : decode cX7_isAtRest 25 = .ok (.iload_n 2, 1) := by decide +kernel
theorem dX7_isAtRest_26 : decode cX7_isAtRest 26 = .ok (.invokestatic 77, 3) := by decide +kernel
theorem dX7_isAtRest_29 : decode cX7_isAtRest 29 = .ok (.ishl, 1) := by decide +kernel
theorem dX7_isAtRest_30 : decode cX7_isAtRest 30 = .ok (.iand, 1) := by decide +kernel
theorem dX7_isAtRest_31 : decode cX7_isAtRest 31 = .ok (.ifCond .ne 5, 3) := by decide +kernel
theorem dX7_isAtRest_34 : decode cX7_isAtRest 34 = .ok (.iconst 0, 1) := by decide +kernel
theorem dX7_isAtRest_35 : decode cX7_isAtRest 35 = .ok (.ireturn, 1) := by decide +kernel
theorem dX7_isAtRest_36 : decode cX7_isAtRest 36 = .ok (.iinc 2 1, 3) := by decide +kernel
theorem dX7_isAtRest_39 : decode cX7_isAtRest 39 = .ok (.goto (-37), 3) := by decide +kernel
theorem dX7_isAtRest_42 : decode cX7_isAtRest 42 = .ok (.iconst 1, 1) := by decide +kernel
theorem dX7_isAtRest_43 : decode cX7_isAtRest 43 = .ok (.ireturn, 1) := by decide +kernel
theorem dX7_wantedPairs_0 : decode cX7_wantedPairs 0 = .ok (.lconst 0, 1) := by decide +kernel
theorem dX7_wantedPairs_1 : decode cX7_wantedPairs 1 = .ok (.lstore_n 1, 1) := by decide +kernel
theorem dX7_wantedPairs_2 : decode cX7_wantedPairs 2 = .ok (.iconst 0, 1) := by decide +kernel
theorem dX7_wantedPairs_3 : decode cX7_wantedPairs 3 = .ok (.istore_n 3, 1) := by decide +kernel
theorem dX7_wantedPairs_4 : decode cX7_wantedPairs 4 = .ok (.iload_n 3, 1) := by decide +kernel
theorem dX7_wantedPairs_5 : decode cX7_wantedPairs 5 = .ok (.aload_n 0, 1) := by decide +kernel
theorem dX7_wantedPairs_6 : decode cX7_wantedPairs 6 = .ok (.getfield 21, 3) := by decide +kernel
theorem dX7_wantedPairs_9 : decode cX7_wantedPairs 9 = .ok (.if_icmp .ge 21, 3) := by decide +kernel
theorem dX7_wantedPairs_12 : decode cX7_wantedPairs 12 = .ok (.lload_n 1, 1) := by decide +kernel
theorem dX7_wantedPairs_13 : decode cX7_wantedPairs 13 = .ok (.aload_n 0, 1) := by decide +kernel
theorem dX7_wantedPairs_14 : decode cX7_wantedPairs 14 = .ok (.iload_n 3, 1) := by decide +kernel
theorem dX7_wantedPairs_15 : decode cX7_wantedPairs 15 = .ok (.invokevirtual 53, 3) := by decide +kernel
theorem dX7_wantedPairs_18 : decode cX7_wantedPairs 18 = .ok (.iload_n 3, 1) := by decide +kernel
theorem dX7_wantedPairs_19 : decode cX7_wantedPairs 19 = .ok (.invokestatic 108, 3) := by decide +kernel
theorem dX7_wantedPairs_22 : decode cX7_wantedPairs 22 = .ok (.lor, 1) := by decide +kernel
theorem dX7_wantedPairs_23 : decode cX7_wantedPairs 23 = .ok (.lstore_n 1, 1) := by decide +kernel
theorem dX7_wantedPairs_24 : decode cX7_wantedPairs 24 = .ok (.iinc 3 1, 3) := by decide +kernel
theorem dX7_wantedPairs_27 : decode cX7_wantedPairs 27 = .ok (.goto (-23), 3) := by decide +kernel
theorem dX7_wantedPairs_30 : decode cX7_wantedPairs 30 = .ok (.lload_n 1, 1) := by decide +kernel
theorem dX7_wantedPairs_31 : decode cX7_wantedPairs 31 = .ok (.lreturn, 1) := by decide +kernel
theorem dX8_init_0 : decode cX8_init 0 = .ok (.aload_n 0, 1) := by decide +kernel
theorem dX8_init_1 : decode cX8_init 1 = .ok (.invokespecial 3, 3) := by decide +kernel
theorem dX8_init_4 : decode cX8_init 4 = .ok (.aload_n 0, 1) := by decide +kernel
theorem dX8_init_5 : decode cX8_init 5 = .ok (.sipush 1023, 3) := by decide +kernel
theorem dX8_init_8 : decode cX8_init 8 = .ok (.putfield 9, 3) := by decide +kernel
theorem dX8_init_11 : decode cX8_init 11 = .ok (.aload_n 0, 1) := by decide +kernel
theorem dX8_init_12 : decode cX8_init 12 = .ok (.sipush 1023, 3) := by decide +kernel
theorem dX8_init_15 : decode cX8_init 15 = .ok (.putfield 15, 3) := by decide +kernel
theorem dX8_init_18 : decode cX8_init 18 = .ok (.aload_n 0, 1) := by decide +kernel
theorem dX8_init_19 : decode cX8_init 19 = .ok (.aload_n 1, 1) := by decide +kernel
theorem dX8_init_20 : decode cX8_init 20 = .ok (.putfield 18, 3) := by decide +kernel
theorem dX8_init_23 : decode cX8_init 23 = .ok (.aload_n 0, 1) := by decide +kernel
theorem dX8_init_24 : decode cX8_init 24 = .ok (.aload_n 2, 1) := by decide +kernel
theorem dX8_init_25 : decode cX8_init 25 = .ok (.putfield 22, 3) := by decide +kernel
theorem dX8_init_28 : decode cX8_init 28 = .ok (.aload_n 0, 1) := by decide +kernel
theorem dX8_init_29 : decode cX8_init 29 = .ok (.new 26, 3) := by decide +kernel
theorem dX8_init_32 : decode cX8_init 32 = .ok (.dup, 1) := by decide +kernel
theorem dX8_init_33 : decode cX8_init 33 = .ok (.invokespecial 28, 3) := by decide +kernel
theorem dX8_init_36 : decode cX8_init 36 = .ok (.putfield 29, 3) := by decide +kernel
theorem dX8_init_39 : decode cX8_init 39 = .ok (.aload_n 0, 1) := by decide +kernel
theorem dX8_init_40 : decode cX8_init 40 = .ok (.new 32, 3) := by decide +kernel
theorem dX8_init_43 : decode cX8_init 43 = .ok (.dup, 1) := by decide +kernel
theorem dX8_init_44 : decode cX8_init 44 = .ok (.new 34, 3) := by decide +kernel
theorem dX8_init_47 : decode cX8_init 47 = .ok (.dup, 1) := by decide +kernel
theorem dX8_init_48 : decode cX8_init 48 = .ok (.aload_n 0, 1) := by decide +kernel
theorem dX8_init_49 : decode cX8_init 49 = .ok (.getfield 29, 3) := by decide +kernel
theorem dX8_init_52 : decode cX8_init 52 = .ok (.aload_n 2, 1) := by decide +kernel
theorem dX8_init_53 : decode cX8_init 53 = .ok (.getfield 36, 3) := by decide +kernel
theorem dX8_init_56 : decode cX8_init 56 = .ok (.getfield 40, 3) := by decide +kernel
theorem dX8_init_59 : decode cX8_init 59 = .ok (.iconst 0, 1) := by decide +kernel
theorem dX8_init_60 : decode cX8_init 60 = .ok (.invokespecial 44, 3) := by decide +kernel
theorem dX8_init_63 : decode cX8_init 63 = .ok (.invokespecial 47, 3) := by decide +kernel
theorem dX8_init_66 : decode cX8_init 66 = .ok (.putfield 50, 3) := by decide +kernel
theorem dX8_init_69 : decode cX8_init 69 = .ok (.return_, 1) := by decide +kernel
theorem dX8_forget_0 : decode cX8_forget 0 = .ok (.aload_n 0, 1) := by decide +kernel
theorem dX8_forget_1 : decode cX8_forget 1 = .ok (.sipush 1023, 3) := by decide +kernel
theorem dX8_forget_4 : decode cX8_forget 4 = .ok (.putfield 9, 3) := by decide +kernel
theorem dX8_forget_7 : decode cX8_forget 7 = .ok (.aload_n 0, 1) := by decide +kernel
theorem dX8_forget_8 : decode cX8_forget 8 = .ok (.sipush 1023, 3) := by decide +kernel
theorem dX8_forget_11 : decode cX8_forget 11 = .ok (.putfield 15, 3) := by decide +kernel
theorem dX8_forget_14 : decode cX8_forget 14 = .ok (.return_, 1) := by decide +kernel
theorem dX8_findHolder_0 : decode cX8_findHolder 0 = .ok (.aload_n 0, 1) := by decide +kernel
theorem dX8_findHolder_1 : decode cX8_findHolder 1 = .ok (.getfield 9, 3) := by decide +kernel
theorem dX8_findHolder_4 : decode cX8_findHolder 4 = .ok (.aload_n 0, 1) := by decide +kernel
theorem dX8_findHolder_5 : decode cX8_findHolder 5 = .ok (.getfield 22, 3) := by decide +kernel
theorem dX8_findHolder_8 : decode cX8_findHolder 8 = .ok (.getfield 53, 3) := by decide +kernel
theorem dX8_findHolder_11 : decode cX8_findHolder 11 = .ok (.if_icmp .ne 4, 3) := by decide +kernel
theorem dX8_findHolder_14 : decode cX8_findHolder 14 = .ok (.return_, 1) := by decide +kernel
theorem dX8_findHolder_15 : decode cX8_findHolder 15 = .ok (.aload_n 0, 1) := by decide +kernel
theorem dX8_findHolder_16 : decode cX8_findHolder 16 = .ok (.aload_n 0, 1) := by decide +kernel
theorem dX8_findHolder_17 : decode cX8_findHolder 17 = .ok (.getfield 22, 3) := by decide +kernel
theorem dX8_findHolder_20 : decode cX8_findHolder 20 = .ok (.getfield 53, 3) := by decide +kernel
theorem dX8_findHolder_23 : decode cX8_findHolder 23 = .ok (.putfield 9, 3) := by decide +kernel
theorem dX8_findHolder_26 : decode cX8_findHolder 26 = .ok (.aload_n 0, 1) := by decide +kernel
theorem dX8_findHolder_27 : decode cX8_findHolder 27 = .ok (.iconst 0, 1) := by decide +kernel
theorem dX8_findHolder_28 : decode cX8_findHolder 28 = .ok (.putfield 56, 3) := by decide +kernel
theorem dX8_findHolder_31 : decode cX8_findHolder 31 = .ok (.aload_n 0, 1) := by decide +kernel
theorem dX8_findHolder_32 : decode cX8_findHolder 32 = .ok (.iconst 0, 1) := by decide +kernel
theorem dX8_findHolder_33 : decode cX8_findHolder 33 = .ok (.putfield 59, 3) := by decide +kernel
theorem dX8_findHolder_36 : decode cX8_findHolder 36 = .ok (.aload_n 0, 1) := by decide +kernel
theorem dX8_findHolder_37 : decode cX8_findHolder 37 = .ok (.getfield 22, 3) := by decide +kernel
theorem dX8_findHolder_40 : decode cX8_findHolder 40 = .ok (.aload_n 0, 1) := by decide +kernel
theorem dX8_findHolder_41 : decode cX8_findHolder 41 = .ok (.getfield 18, 3) := by decide +kernel
theorem dX8_findHolder_44 : decode cX8_findHolder 44 = .ok (.invokevirtual 62, 3) := by decide +kernel
theorem dX8_findHolder_47 : decode cX8_findHolder 47 = .ok (.invokevirtual 66, 3) := by decide +kernel
theorem dX8_findHolder_50 : decode cX8_findHolder 50 = .ok (.lstore_n 1, 1) := by decide +kernel
theorem dX8_findHolder_51 : decode cX8_findHolder 51 = .ok (.iconst 0, 1) := by decide +kernel
theorem dX8_findHolder_52 : decode cX8_findHolder 52 = .ok (.istore_n 3, 1) := by decide +kernel
theorem dX8_findHolder_53 : decode cX8_findHolder 53 = .ok (.iload_n 3, 1) := by decide +kernel
theorem dX8_findHolder_54 : decode cX8_findHolder 54 = .ok (.aload_n 0, 1) := by decide +kernel
theorem dX8_findHolder_55 : decode cX8_findHolder 55 = .ok (.getfield 18, 3) := by decide +kernel
theorem dX8_findHolder_58 : decode cX8_findHolder 58 = .ok (.getfield 70, 3) := by decide +kernel
theorem dX8_findHolder_61 : decode cX8_findHolder 61 = .ok (.if_icmp .ge 53, 3) := by decide +kernel
theorem dX8_findHolder_64 : decode cX8_findHolder 64 = .ok (.aload_n 0, 1) := by decide +kernel
theorem dX8_findHolder_65 : decode cX8_findHolder 65 = .ok (.iload_n 3, 1) := by decide +kernel
theorem dX8_findHolder_66 : decode cX8_findHolder 66 = .ok (.invokevirtual 73, 3) := by decide +kernel
theorem dX8_findHolder_69 : decode cX8_findHolder 69 = .ok (.lload_n 1, 1) := by decide +kernel
theorem dX8_findHolder_70 : decode cX8_findHolder 70 = .ok (.aload_n 0, 1) := by decide +kernel
theorem dX8_findHolder_71 : decode cX8_findHolder 71 = .ok (.getfield 50, 3) := by decide +kernel
theorem dX8_findHolder_74 : decode cX8_findHolder 74 = .ok (.lload_n 1, 1) := by decide +kernel
theorem dX8_findHolder_75 : decode cX8_findHolder 75 = .ok (.invokevirtual 66, 3) := by decide +kernel
theorem dX8_findHolder_78 : decode cX8_findHolder 78 = .ok (.ldc2_w 77, 3) := by decide +kernel
theorem dX8_findHolder_81 : decode cX8_findHolder 81 = .ok (.lxor, 1) := by decide +kernel
theorem dX8_findHolder_82 : decode cX8_findHolder 82 = .ok (.land, 1) := by decide +kernel
theorem dX8_findHolder_83 : decode cX8_findHolder 83 = .ok (.invokestatic 79, 3) := by decide +kernel
theorem dX8_findHolder_86 : decode cX8_findHolder 86 = .ok (.istore 4, 2) := by decide +kernel
theorem dX8_findHolder_88 : decode cX8_findHolder 88 = .ok (.iload 4, 2) := by decide +kernel
theorem dX8_findHolder_90 : decode cX8_findHolder 90 = .ok (.aload_n 0, 1) := by decide +kernel
theorem dX8_findHolder_91 : decode cX8_findHolder 91 = .ok (.getfield 59, 3) := by decide +kernel
theorem dX8_findHolder_94 : decode cX8_findHolder 94 = .ok (.if_icmp .le 14, 3) := by decide +kernel
theorem dX8_findHolder_97 : decode cX8_findHolder 97 = .ok (.aload_n 0, 1) := by decide +kernel
theorem dX8_findHolder_98 : decode cX8_findHolder 98 = .ok (.iload_n 3, 1) := by decide +kernel
theorem dX8_findHolder_99 : decode cX8_findHolder 99 = .ok (.putfield 56, 3) := by decide +kernel
theorem dX8_findHolder_102 : decode cX8_findHolder 102 = .ok (.aload_n 0, 1) := by decide +kernel
theorem dX8_findHolder_103 : decode cX8_findHolder 103 = .ok (.iload 4, 2) := by decide +kernel
theorem dX8_findHolder_105 : decode cX8_findHolder 105 = .ok (.putfield 59, 3) := by decide +kernel
theorem dX8_findHolder_108 : decode cX8_findHolder 108 = .ok (.iinc 3 1, 3) := by decide +kernel
theorem dX8_findHolder_111 : decode cX8_findHolder 111 = .ok (.goto (-58), 3) := by decide +kernel
theorem dX8_findHolder_114 : decode cX8_findHolder 114 = .ok (.return_, 1) := by decide +kernel
theorem dX8_bestSeats_0 : decode cX8_bestSeats 0 = .ok (.aload_n 0, 1) := by decide +kernel
theorem dX8_bestSeats_1 : decode cX8_bestSeats 1 = .ok (.getfield 15, 3) := by decide +kernel
theorem dX8_bestSeats_4 : decode cX8_bestSeats 4 = .ok (.aload_n 0, 1) := by decide +kernel
theorem dX8_bestSeats_5 : decode cX8_bestSeats 5 = .ok (.getfield 22, 3) := by decide +kernel
theorem dX8_bestSeats_8 : decode cX8_bestSeats 8 = .ok (.getfield 53, 3) := by decide +kernel
theorem dX8_bestSeats_11 : decode cX8_bestSeats 11 = .ok (.if_icmp .ne 8, 3) := by decide +kernel
theorem dX8_bestSeats_14 : decode cX8_bestSeats 14 = .ok (.aload_n 0, 1) := by decide +kernel
theorem dX8_bestSeats_15 : decode cX8_bestSeats 15 = .ok (.getfield 85, 3) := by decide +kernel
theorem dX8_bestSeats_18 : decode cX8_bestSeats 18 = .ok (.ireturn, 1) := by decide +kernel
theorem dX8_bestSeats_19 : decode cX8_bestSeats 19 = .ok (.aload_n 0, 1) := by decide +kernel
theorem dX8_bestSeats_20 : decode cX8_bestSeats 20 = .ok (.aload_n 0, 1) := by decide +kernel
theorem dX8_bestSeats_21 : decode cX8_bestSeats 21 = .ok (.getfield 22, 3) := by decide +kernel
theorem dX8_bestSeats_24 : decode cX8_bestSeats 24 = .ok (.getfield 53, 3) := by decide +kernel
theorem dX8_bestSeats_27 : decode cX8_bestSeats 27 = .ok (.putfield 15, 3) := by decide +kernel
theorem dX8_bestSeats_30 : decode cX8_bestSeats 30 = .ok (.aload_n 0, 1) := by decide +kernel
theorem dX8_bestSeats_31 : decode cX8_bestSeats 31 = .ok (.bipush (-4), 2) := by decide +kernel
theorem dX8_bestSeats_33 : decode cX8_bestSeats 33 = .ok (.putfield 85, 3) := by decide +kernel
theorem dX8_bestSeats_36 : decode cX8_bestSeats 36 = .ok (.aload_n 0, 1) := by decide +kernel
theorem dX8_bestSeats_37 : decode cX8_bestSeats 37 = .ok (.getfield 22, 3) := by decide +kernel
theorem dX8_bestSeats_40 : decode cX8_bestSeats 40 = .ok (.ldc 88, 2) := by decide +kernel
theorem dX8_bestSeats_42 : decode cX8_bestSeats 42 = .ok (.invokevirtual 89, 3) := by decide +kernel
theorem dX8_bestSeats_45 : decode cX8_bestSeats 45 = .ok (.istore_n 1, 1) := by decide +kernel
theorem dX8_bestSeats_46 : decode cX8_bestSeats 46 = .ok (.iload_n 1, 1) := by decide +kernel
theorem dX8_bestSeats_47 : decode cX8_bestSeats 47 = .ok (.bipush (-4), 2) := by decide +kernel
theorem dX8_bestSeats_49 : decode cX8_bestSeats 49 = .ok (.if_icmp .ne 13, 3) := by decide +kernel
theorem dX8_bestSeats_52 : decode cX8_bestSeats 52 = .ok (.aload_n 0, 1) := by decide +kernel
theorem dX8_bestSeats_53 : decode cX8_bestSeats 53 = .ok (.invokevirtual 93, 3) := by decide +kernel
theorem dX8_bestSeats_56 : decode cX8_bestSeats 56 = .ok (.ifCond .eq 6, 3) := by decide +kernel
theorem dX8_bestSeats_59 : decode cX8_bestSeats 59 = .ok (.ldc 88, 2) := by decide +kernel
theorem dX8_bestSeats_61 : decode cX8_bestSeats 61 = .ok (.istore_n 1, 1) := by decide +kernel
theorem dX8_bestSeats_62 : decode cX8_bestSeats 62 = .ok (.iconst 0, 1) := by decide +kernel
theorem dX8_bestSeats_63 : decode cX8_bestSeats 63 = .ok (.istore_n 2, 1) := by decide +kernel
theorem dX8_bestSeats_64 : decode cX8_bestSeats 64 = .ok (.iload_n 2, 1) := by decide +kernel
theorem dX8_bestSeats_65 : decode cX8_bestSeats 65 = .ok (.aload_n 0, 1) := by decide +kernel
theorem dX8_bestSeats_66 : decode cX8_bestSeats 66 = .ok (.getfield 18, 3) := by decide +kernel
theorem dX8_bestSeats_69 : decode cX8_bestSeats 69 = .ok (.getfield 70, 3) := by decide +kernel
theorem dX8_bestSeats_72 : decode cX8_bestSeats 72 = .ok (.if_icmp .ge 70, 3) := by decide +kernel
theorem dX8_bestSeats_75 : decode cX8_bestSeats 75 = .ok (.iload_n 2, 1) := by decide +kernel
theorem dX8_bestSeats_76 : decode cX8_bestSeats 76 = .ok (.iconst 1, 1) := by decide +kernel
theorem dX8_bestSeats_77 : decode cX8_bestSeats 77 = .ok (.iadd, 1) := by decide +kernel
theorem dX8_bestSeats_78 : decode cX8_bestSeats 78 = .ok (.istore_n 3, 1) := by decide +kernel
theorem dX8_bestSeats_79 : decode cX8_bestSeats 79 = .ok (.iload_n 3, 1) := by decide +kernel
theorem dX8_bestSeats_80 : decode cX8_bestSeats 80 = .ok (.aload_n 0, 1) := by decide +kernel
theorem dX8_bestSeats_81 : decode cX8_bestSeats 81 = .ok (.getfield 18, 3) := by decide +kernel
theorem dX8_bestSeats_84 : decode cX8_bestSeats 84 = .ok (.getfield 70, 3) := by decide +kernel
theorem dX8_bestSeats_87 : decode cX8_bestSeats 87 = .ok (.if_icmp .ge 49, 3) := by decide +kernel
theorem dX8_bestSeats_90 : decode cX8_bestSeats 90 = .ok (.iload_n 1, 1) := by decide +kernel
theorem dX8_bestSeats_91 : decode cX8_bestSeats 91 = .ok (.ifCond .le 45, 3) := by decide +kernel
theorem dX8_bestSeats_94 : decode cX8_bestSeats 94 = .ok (.aload_n 0, 1) := by decide +kernel
theorem dX8_bestSeats_95 : decode cX8_bestSeats 95 = .ok (.iload_n 2, 1) := by decide +kernel
theorem dX8_bestSeats_96 : decode cX8_bestSeats 96 = .ok (.iload_n 3, 1) := by decide +kernel
theorem dX8_bestSeats_97 : decode cX8_bestSeats 97 = .ok (.invokevirtual 97, 3) := by decide +kernel
theorem dX8_bestSeats_100 : decode cX8_bestSeats 100 = .ok (.aload_n 0, 1) := by decide +kernel
theorem dX8_bestSeats_101 : decode cX8_bestSeats 101 = .ok (.getfield 50, 3) := by decide +kernel
theorem dX8_bestSeats_104 : decode cX8_bestSeats 104 = .ok (.iload_n 1, 1) := by decide +kernel
theorem dX8_bestSeats_105 : decode cX8_bestSeats 105 = .ok (.invokevirtual 89, 3) := by decide +kernel
theorem dX8_bestSeats_108 : decode cX8_bestSeats 108 = .ok (.istore 4, 2) := by decide +kernel
theorem dX8_bestSeats_110 : decode cX8_bestSeats 110 = .ok (.iload 4, 2) := by decide +kernel
theorem dX8_bestSeats_112 : decode cX8_bestSeats 112 = .ok (.bipush (-4), 2) := by decide +kernel
theorem dX8_bestSeats_114 : decode cX8_bestSeats 114 = .ok (.if_icmp .eq 16, 3) := by decide +kernel
theorem dX8_bestSeats_117 : decode cX8_bestSeats 117 = .ok (.iload 4, 2) := by decide +kernel
theorem dX8_bestSeats_119 : decode cX8_bestSeats 119 = .ok (.istore_n 1, 1) := by decide +kernel
theorem dX8_bestSeats_120 : decode cX8_bestSeats 120 = .ok (.aload_n 0, 1) := by decide +kernel
theorem dX8_bestSeats_121 : decode cX8_bestSeats 121 = .ok (.bipush 10, 2) := by decide +kernel
theorem dX8_bestSeats_123 : decode cX8_bestSeats 123 = .ok (.iload_n 2, 1) := by decide +kernel
theorem dX8_bestSeats_124 : decode cX8_bestSeats 124 = .ok (.imul, 1) := by decide +kernel
theorem dX8_bestSeats_125 : decode cX8_bestSeats 125 = .ok (.iload_n 3, 1) := by decide +kernel
theorem dX8_bestSeats_126 : decode cX8_bestSeats 126 = .ok (.iadd, 1) := by decide +kernel
theorem dX8_bestSeats_127 : decode cX8_bestSeats 127 = .ok (.putfield 85, 3) := by decide +kernel
theorem dX8_bestSeats_130 : decode cX8_bestSeats 130 = .ok (.iinc 3 1, 3) := by decide +kernel
theorem dX8_bestSeats_133 : decode cX8_bestSeats 133 = .ok (.goto (-54), 3) := by decide +kernel
theorem dX8_bestSeats_136 : decode cX8_bestSeats 136 = .ok (.iinc 2 1, 3) := by decide +kernel
theorem dX8_bestSeats_139 : decode cX8_bestSeats 139 = .ok (.goto (-75), 3) := by decide +kernel
theorem dX8_bestSeats_142 : decode cX8_bestSeats 142 = .ok (.aload_n 0, 1) := by decide +kernel
theorem dX8_bestSeats_143 : decode cX8_bestSeats 143 = .ok (.getfield 85, 3) := by decide +kernel
theorem dX8_bestSeats_146 : decode cX8_bestSeats 146 = .ok (.ireturn, 1) := by decide +kernel
theorem dX8_canBeAtRest_0 : decode cX8_canBeAtRest 0 = .ok (.aload_n 0, 1) := by decide +kernel
theorem dX8_canBeAtRest_1 : decode cX8_canBeAtRest 1 = .ok (.getfield 22, 3) := by decide +kernel
theorem dX8_canBeAtRest_4 : decode cX8_canBeAtRest 4 = .ok (.getfield 36, 3) := by decide +kernel
theorem dX8_canBeAtRest_7 : decode cX8_canBeAtRest 7 = .ok (.getfield 40, 3) := by decide +kernel
theorem dX8_canBeAtRest_10 : decode cX8_canBeAtRest 10 = .ok (.astore_n 1, 1) := by decide +kernel
theorem dX8_canBeAtRest_11 : decode cX8_canBeAtRest 11 = .ok (.iconst 0, 1) := by decide +kernel
theorem dX8_canBeAtRest_12 : decode cX8_canBeAtRest 12 = .ok (.istore_n 2, 1) := by decide +kernel
theorem dX8_canBeAtRest_13 : decode cX8_canBeAtRest 13 = .ok (.iload_n 2, 1) := by decide +kernel
theorem dX8_canBeAtRest_14 : decode cX8_canBeAtRest 14 = .ok (.aload_n 1, 1) := by decide +kernel
theorem dX8_canBeAtRest_15 : decode cX8_canBeAtRest 15 = .ok (.getfield 101, 3) := by decide +kernel
theorem dX8_canBeAtRest_18 : decode cX8_canBeAtRest 18 = .ok (.if_icmp .ge 26, 3) := by decide +kernel
theorem dX8_canBeAtRest_21 : decode cX8_canBeAtRest 21 = .ok (.aload_n 0, 1) := by decide +kernel
theorem dX8_canBeAtRest_22 : decode cX8_canBeAtRest 22 = .ok (.getfield 18, 3) := by decide +kernel
theorem dX8_canBeAtRest_25 : decode cX8_canBeAtRest 25 = .ok (.aload_n 1, 1) := by decide +kernel
theorem dX8_canBeAtRest_26 : decode cX8_canBeAtRest 26 = .ok (.iload_n 2, 1) := by decide +kernel
theorem dX8_canBeAtRest_27 : decode cX8_canBeAtRest 27 = .ok (.invokevirtual 106, 3) := by decide +kernel
theorem dX8_canBeAtRest_30 : decode cX8_canBeAtRest 30 = .ok (.invokevirtual 109, 3) := by decide +kernel
theorem dX8_canBeAtRest_33 : decode cX8_canBeAtRest 33 = .ok (.ifCond .eq 5, 3) := by decide +kernel
theorem dX8_canBeAtRest_36 : decode cX8_canBeAtRest 36 = .ok (.iconst 1, 1) := by decide +kernel
theorem dX8_canBeAtRest_37 : decode cX8_canBeAtRest 37 = .ok (.ireturn, 1) := by decide +kernel
theorem dX8_canBeAtRest_38 : decode cX8_canBeAtRest 38 = .ok (.iinc 2 1, 3) := by decide +kernel
theorem dX8_canBeAtRest_41 : decode cX8_canBeAtRest 41 = .ok (.goto (-28), 3) := by decide +kernel
theorem dX8_canBeAtRest_44 : decode cX8_canBeAtRest 44 = .ok (.iconst 0, 1) := by decide +kernel
theorem dX8_canBeAtRest_45 : decode cX8_canBeAtRest 45 = .ok (.ireturn, 1) := by decide +kernel
theorem dX8_makeHold_0 : decode cX8_makeHold 0 = .ok (.aload_n 0, 1) := by decide +kernel
theorem dX8_makeHold_1 : decode cX8_makeHold 1 = .ok (.getfield 29, 3) := by decide +kernel
theorem dX8_makeHold_4 : decode cX8_makeHold 4 = .ok (.aload_n 0, 1) := by decide +kernel
theorem dX8_makeHold_5 : decode cX8_makeHold 5 = .ok (.getfield 18, 3) := by decide +kernel
theorem dX8_makeHold_8 : decode cX8_makeHold 8 = .ok (.invokevirtual 113, 3) := by decide +kernel
theorem dX8_makeHold_11 : decode cX8_makeHold 11 = .ok (.aload_n 0, 1) := by decide +kernel
theorem dX8_makeHold_12 : decode cX8_makeHold 12 = .ok (.getfield 29, 3) := by decide +kernel
theorem dX8_makeHold_15 : decode cX8_makeHold 15 = .ok (.iload_n 1, 1) := by decide +kernel
theorem dX8_makeHold_16 : decode cX8_makeHold 16 = .ok (.iconst 2, 1) := by decide +kernel
theorem dX8_makeHold_17 : decode cX8_makeHold 17 = .ok (.invokevirtual 117, 3) := by decide +kernel
theorem dX8_makeHold_20 : decode cX8_makeHold 20 = .ok (.aload_n 0, 1) := by decide +kernel
theorem dX8_makeHold_21 : decode cX8_makeHold 21 = .ok (.invokevirtual 120, 3) := by decide +kernel
theorem dX8_makeHold_24 : decode cX8_makeHold 24 = .ok (.return_, 1) := by decide +kernel
theorem dX8_changeSeats_0 : decode cX8_changeSeats 0 = .ok (.aload_n 0, 1) := by decide +kernel
theorem dX8_changeSeats_1 : decode cX8_changeSeats 1 = .ok (.getfield 29, 3) := by decide +kernel
theorem dX8_changeSeats_4 : decode cX8_changeSeats 4 = .ok (.aload_n 0, 1) := by decide +kernel
theorem dX8_changeSeats_5 : decode cX8_changeSeats 5 = .ok (.getfield 18, 3) := by decide +kernel
theorem dX8_changeSeats_8 : decode cX8_changeSeats 8 = .ok (.invokevirtual 113, 3) := by decide +kernel
theorem dX8_changeSeats_11 : decode cX8_changeSeats 11 = .ok (.aload_n 0, 1) := by decide +kernel
theorem dX8_changeSeats_12 : decode cX8_changeSeats 12 = .ok (.getfield 29, 3) := by decide +kernel
theorem dX8_changeSeats_15 : decode cX8_changeSeats 15 = .ok (.iload_n 1, 1) := by decide +kernel
theorem dX8_changeSeats_16 : decode cX8_changeSeats 16 = .ok (.aload_n 0, 1) := by decide +kernel
theorem dX8_changeSeats_17 : decode cX8_changeSeats 17 = .ok (.getfield 18, 3) := by decide +kernel
theorem dX8_changeSeats_20 : decode cX8_changeSeats 20 = .ok (.iload_n 2, 1) := by decide +kernel
theorem dX8_changeSeats_21 : decode cX8_changeSeats 21 = .ok (.invokevirtual 123, 3) := by decide +kernel
theorem dX8_changeSeats_24 : decode cX8_changeSeats 24 = .ok (.aload_n 0, 1) := by decide +kernel
theorem dX8_changeSeats_25 : decode cX8_changeSeats 25 = .ok (.getfield 29, 3) := by decide +kernel
theorem dX8_changeSeats_28 : decode cX8_changeSeats 28 = .ok (.iload_n 2, 1) := by decide +kernel
theorem dX8_changeSeats_29 : decode cX8_changeSeats 29 = .ok (.aload_n 0, 1) := by decide +kernel
theorem dX8_changeSeats_30 : decode cX8_changeSeats 30 = .ok (.getfield 18, 3) := by decide +kernel
theorem dX8_changeSeats_33 : decode cX8_changeSeats 33 = .ok (.iload_n 1, 1) := by decide +kernel
theorem dX8_changeSeats_34 : decode cX8_changeSeats 34 = .ok (.invokevirtual 123, 3) := by decide +kernel
theorem dX8_changeSeats_37 : decode cX8_changeSeats 37 = .ok (.aload_n 0, 1) := by decide +kernel
theorem dX8_changeSeats_38 : decode cX8_changeSeats 38 = .ok (.invokevirtual 120, 3) := by decide +kernel
theorem dX8_changeSeats_41 : decode cX8_changeSeats 41 = .ok (.return_, 1) := by decide +kernel
theorem dX8_startOther_0 : decode cX8_startOther 0 = .ok (.aload_n 0, 1) := by decide +kernel
theorem dX8_startOther_1 : decode cX8_startOther 1 = .ok (.getfield 50, 3) := by decide +kernel
theorem dX8_startOther_4 : decode cX8_startOther 4 = .ok (.invokevirtual 127, 3) := by decide +kernel
theorem dX8_startOther_7 : decode cX8_startOther 7 = .ok (.aload_n 0, 1) := by decide +kernel
theorem dX8_startOther_8 : decode cX8_startOther 8 = .ok (.getfield 50, 3) := by decide +kernel
theorem dX8_startOther_11 : decode cX8_startOther 11 = .ok (.aload_n 0, 1) := by decide +kernel
theorem dX8_startOther_12 : decode cX8_startOther 12 = .ok (.getfield 22, 3) := by decide +kernel
theorem dX8_startOther_15 : decode cX8_startOther 15 = .ok (.getfield 53, 3) := by decide +kernel
theorem dX8_startOther_18 : decode cX8_startOther 18 = .ok (.invokevirtual 130, 3) := by decide +kernel
theorem dX8_startOther_21 : decode cX8_startOther 21 = .ok (.return_, 1) := by decide +kernel
theorem dX9_init_0 : decode cX9_init 0 = .ok (.aload_n 0, 1) := by decide +kernel
theorem dX9_init_1 : decode cX9_init 1 = .ok (.invokespecial 3, 3) := by decide +kernel
theorem dX9_init_4 : decode cX9_init 4 = .ok (.aload_n 0, 1) := by decide +kernel
theorem dX9_init_5 : decode cX9_init 5 = .ok (.sipush 300, 3) := by decide +kernel
theorem dX9_init_8 : decode cX9_init 8 = .ok (.newarray .int, 2) := by decide +kernel
theorem dX9_init_10 : decode cX9_init 10 = .ok (.putfield 9, 3) := by decide +kernel
theorem dX9_init_13 : decode cX9_init 13 = .ok (.aload_n 0, 1) := by decide +kernel
theorem dX9_init_14 : decode cX9_init 14 = .ok (.new 13, 3) := by decide +kernel
theorem dX9_init_17 : decode cX9_init 17 = .ok (.dup, 1) := by decide +kernel
theorem dX9_init_18 : decode cX9_init 18 = .ok (.invokespecial 15, 3) := by decide +kernel
theorem dX9_init_21 : decode cX9_init 21 = .ok (.putfield 16, 3) := by decide +kernel
theorem dX9_init_24 : decode cX9_init 24 = .ok (.aload_n 0, 1) := by decide +kernel
theorem dX9_init_25 : decode cX9_init 25 = .ok (.new 20, 3) := by decide +kernel
theorem dX9_init_28 : decode cX9_init 28 = .ok (.dup, 1) := by decide +kernel
theorem dX9_init_29 : decode cX9_init 29 = .ok (.aload_n 0, 1) := by decide +kernel
theorem dX9_init_30 : decode cX9_init 30 = .ok (.getfield 9, 3) := by decide +kernel
theorem dX9_init_33 : decode cX9_init 33 = .ok (.aload_n 0, 1) := by decide +kernel
theorem dX9_init_34 : decode cX9_init 34 = .ok (.getfield 16, 3) := by decide +kernel
theorem dX9_init_37 : decode cX9_init 37 = .ok (.invokespecial 22, 3) := by decide +kernel
theorem dX9_init_40 : decode cX9_init 40 = .ok (.putfield 25, 3) := by decide +kernel
theorem dX9_init_43 : decode cX9_init 43 = .ok (.aload_n 0, 1) := by decide +kernel
theorem dX9_init_44 : decode cX9_init 44 = .ok (.new 13, 3) := by decide +kernel
theorem dX9_init_47 : decode cX9_init 47 = .ok (.dup, 1) := by decide +kernel
theorem dX9_init_48 : decode cX9_init 48 = .ok (.invokespecial 15, 3) := by decide +kernel
theorem dX9_init_51 : decode cX9_init 51 = .ok (.putfield 29, 3) := by decide +kernel
theorem dX9_init_54 : decode cX9_init 54 = .ok (.aload_n 0, 1) := by decide +kernel
theorem dX9_init_55 : decode cX9_init 55 = .ok (.new 32, 3) := by decide +kernel
theorem dX9_init_58 : decode cX9_init 58 = .ok (.dup, 1) := by decide +kernel
theorem dX9_init_59 : decode cX9_init 59 = .ok (.invokespecial 34, 3) := by decide +kernel
theorem dX9_init_62 : decode cX9_init 62 = .ok (.putfield 35, 3) := by decide +kernel
theorem dX9_init_65 : decode cX9_init 65 = .ok (.aload_n 0, 1) := by decide +kernel
theorem dX9_init_66 : decode cX9_init 66 = .ok (.new 39, 3) := by decide +kernel
theorem dX9_init_69 : decode cX9_init 69 = .ok (.dup, 1) := by decide +kernel
theorem dX9_init_70 : decode cX9_init 70 = .ok (.aload_n 0, 1) := by decide +kernel
theorem dX9_init_71 : decode cX9_init 71 = .ok (.getfield 29, 3) := by decide +kernel
theorem dX9_init_74 : decode cX9_init 74 = .ok (.aload_n 0, 1) := by decide +kernel
theorem dX9_init_75 : decode cX9_init 75 = .ok (.getfield 35, 3) := by decide +kernel
theorem dX9_init_78 : decode cX9_init 78 = .ok (.sipush 4320, 3) := by decide +kernel
theorem dX9_init_81 : decode cX9_init 81 = .ok (.invokespecial 41, 3) := by decide +kernel
theorem dX9_init_84 : decode cX9_init 84 = .ok (.putfield 44, 3) := by decide +kernel
theorem dX9_init_87 : decode cX9_init 87 = .ok (.aload_n 0, 1) := by decide +kernel
theorem dX9_init_88 : decode cX9_init 88 = .ok (.new 48, 3) := by decide +kernel
theorem dX9_init_91 : decode cX9_init 91 = .ok (.dup, 1) := by decide +kernel
theorem dX9_init_92 : decode cX9_init 92 = .ok (.aload_n 0, 1) := by decide +kernel
theorem dX9_init_93 : decode cX9_init 93 = .ok (.getfield 44, 3) := by decide +kernel
theorem dX9_init_96 : decode cX9_init 96 = .ok (.invokespecial 50, 3) := by decide +kernel
theorem dX9_init_99 : decode cX9_init 99 = .ok (.putfield 53, 3) := by decide +kernel
theorem dX9_init_102 : decode cX9_init 102 = .ok (.aload_n 0, 1) := by decide +kernel
theorem dX9_init_103 : decode cX9_init 103 = .ok (.new 57, 3) := by decide +kernel
theorem dX9_init_106 : decode cX9_init 106 = .ok (.dup, 1) := by decide +kernel
theorem dX9_init_107 : decode cX9_init 107 = .ok (.aload_n 0, 1) := by decide +kernel
theorem dX9_init_108 : decode cX9_init 108 = .ok (.getfield 44, 3) := by decide +kernel
theorem dX9_init_111 : decode cX9_init 111 = .ok (.invokespecial 59, 3) := by decide +kernel
theorem dX9_init_114 : decode cX9_init 114 = .ok (.putfield 60, 3) := by decide +kernel
theorem dX9_init_117 : decode cX9_init 117 = .ok (.aload_n 0, 1) := by decide +kernel
theorem dX9_init_118 : decode cX9_init 118 = .ok (.new 64, 3) := by decide +kernel
theorem dX9_init_121 : decode cX9_init 121 = .ok (.dup, 1) := by decide +kernel
theorem dX9_init_122 : decode cX9_init 122 = .ok (.aload_n 0, 1) := by decide +kernel
theorem dX9_init_123 : decode cX9_init 123 = .ok (.getfield 29, 3) := by decide +kernel
theorem dX9_init_126 : decode cX9_init 126 = .ok (.aload_n 0, 1) := by decide +kernel
theorem dX9_init_127 : decode cX9_init 127 = .ok (.getfield 53, 3) := by decide +kernel
theorem dX9_init_130 : decode cX9_init 130 = .ok (.invokespecial 66, 3) := by decide +kernel
theorem dX9_init_133 : decode cX9_init 133 = .ok (.putfield 69, 3) := by decide +kernel
theorem dX9_init_136 : decode cX9_init 136 = .ok (.aload_n 0, 1) := by decide +kernel
theorem dX9_init_137 : decode cX9_init 137 = .ok (.new 73, 3) := by decide +kernel
theorem dX9_init_140 : decode cX9_init 140 = .ok (.dup, 1) := by decide +kernel
theorem dX9_init_141 : decode cX9_init 141 = .ok (.invokespecial 75, 3) := by decide +kernel
theorem dX9_init_144 : decode cX9_init 144 = .ok (.putfield 76, 3) := by decide +kernel
theorem dX9_init_147 : decode cX9_init 147 = .ok (.aload_n 0, 1) := by decide +kernel
theorem dX9_init_148 : decode cX9_init 148 = .ok (.new 80, 3) := by decide +kernel
theorem dX9_init_151 : decode cX9_init 151 = .ok (.dup, 1) := by decide +kernel
theorem dX9_init_152 : decode cX9_init 152 = .ok (.bipush 8, 2) := by decide +kernel
theorem dX9_init_154 : decode cX9_init 154 = .ok (.invokespecial 82, 3) := by decide +kernel
theorem dX9_init_157 : decode cX9_init 157 = .ok (.putfield 85, 3) := by decide +kernel
theorem dX9_init_160 : decode cX9_init 160 = .ok (.aload_n 0, 1) := by decide +kernel
theorem dX9_init_161 : decode cX9_init 161 = .ok (.new 80, 3) := by decide +kernel
theorem dX9_init_164 : decode cX9_init 164 = .ok (.dup, 1) := by decide +kernel
theorem dX9_init_165 : decode cX9_init 165 = .ok (.iconst 2, 1) := by decide +kernel
theorem dX9_init_166 : decode cX9_init 166 = .ok (.invokespecial 82, 3) := by decide +kernel
theorem dX9_init_169 : decode cX9_init 169 = .ok (.putfield 89, 3) := by decide +kernel
theorem dX9_init_172 : decode cX9_init 172 = .ok (.iconst 0, 1) := by decide +kernel
theorem dX9_init_173 : decode cX9_init 173 = .ok (.istore_n 1, 1) := by decide +kernel
theorem dX9_init_174 : decode cX9_init 174 = .ok (.iload_n 1, 1) := by decide +kernel
theorem dX9_init_175 : decode cX9_init 175 = .ok (.ldc 92, 2) := by decide +kernel
theorem dX9_init_177 : decode cX9_init 177 = .ok (.invokevirtual 94, 3) := by decide +kernel
theorem dX9_init_180 : decode cX9_init 180 = .ok (.if_icmp .ge 35, 3) := by decide +kernel
theorem dX9_init_183 : decode cX9_init 183 = .ok (.iload_n 1, 1) := by decide +kernel
theorem dX9_init_184 : decode cX9_init 184 = .ok (.sipush 300, 3) := by decide +kernel
theorem dX9_init_187 : decode cX9_init 187 = .ok (.if_icmp .ge 28, 3) := by decide +kernel
theorem dX9_init_190 : decode cX9_init 190 = .ok (.aload_n 0, 1) := by decide +kernel
theorem dX9_init_191 : decode cX9_init 191 = .ok (.getfield 9, 3) := by decide +kernel
theorem dX9_init_194 : decode cX9_init 194 = .ok (.iload_n 1, 1) := by decide +kernel
theorem dX9_init_195 : decode cX9_init 195 = .ok (.ldc 92, 2) := by decide +kernel
theorem dX9_init_197 : decode cX9_init 197 = .ok (.iload_n 1, 1) := by decide +kernel
theorem dX9_init_198 : decode cX9_init 198 = .ok (.invokevirtual 100, 3) := by decide +kernel
theorem dX9_init_201 : decode cX9_init 201 = .ok (.iastore, 1) := by decide +kernel
theorem dX9_init_202 : decode cX9_init 202 = .ok (.aload_n 0, 1) := by decide +kernel
theorem dX9_init_203 : decode cX9_init 203 = .ok (.iload_n 1, 1) := by decide +kernel
theorem dX9_init_204 : decode cX9_init 204 = .ok (.iconst 1, 1) := by decide +kernel
theorem dX9_init_205 : decode cX9_init 205 = .ok (.iadd, 1) := by decide +kernel
theorem dX9_init_206 : decode cX9_init 206 = .ok (.putfield 104, 3) := by decide +kernel
theorem dX9_init_209 : decode cX9_init 209 = .ok (.iinc 1 1, 3) := by decide +kernel
theorem dX9_init_212 : decode cX9_init 212 = .ok (.goto (-38), 3) := by decide +kernel
theorem dX9_init_215 : decode cX9_init 215 = .ok (.aload_n 0, 1) := by decide +kernel
theorem dX9_init_216 : decode cX9_init 216 = .ok (.invokevirtual 107, 3) := by decide +kernel
theorem dX9_init_219 : decode cX9_init 219 = .ok (.pop, 1) := by decide +kernel
theorem dX9_init_220 : decode cX9_init 220 = .ok (.aload_n 0, 1) := by decide +kernel
theorem dX9_init_221 : decode cX9_init 221 = .ok (.iconst 0, 1) := by decide +kernel
theorem dX9_init_222 : decode cX9_init 222 = .ok (.putfield 104, 3) := by decide +kernel
theorem dX9_init_225 : decode cX9_init 225 = .ok (.return_, 1) := by decide +kernel
theorem dX9_write_0 : decode cX9_write 0 = .ok (.iload_n 1, 1) := by decide +kernel
theorem dX9_write_1 : decode cX9_write 1 = .ok (.iconst 1, 1) := by decide +kernel
theorem dX9_write_2 : decode cX9_write 2 = .ok (.if_icmp .lt 9, 3) := by decide +kernel
theorem dX9_write_5 : decode cX9_write 5 = .ok (.iload_n 1, 1) := by decide +kernel
theorem dX9_write_6 : decode cX9_write 6 = .ok (.bipush 8, 2) := by decide +kernel
theorem dX9_write_8 : decode cX9_write 8 = .ok (.if_icmp .le 5, 3) := by decide +kernel
theorem dX9_write_11 : decode cX9_write 11 = .ok (.iconst (-1), 1) := by decide +kernel
theorem dX9_write_12 : decode cX9_write 12 = .ok (.ireturn, 1) := by decide +kernel
theorem dX9_write_13 : decode cX9_write 13 = .ok (.aload_n 0, 1) := by decide +kernel
theorem dX9_write_14 : decode cX9_write 14 = .ok (.getfield 104, 3) := by decide +kernel
theorem dX9_write_17 : decode cX9_write 17 = .ok (.iload_n 1, 1) := by decide +kernel
theorem dX9_write_18 : decode cX9_write 18 = .ok (.iadd, 1) := by decide +kernel
theorem dX9_write_19 : decode cX9_write 19 = .ok (.sipush 300, 3) := by decide +kernel
theorem dX9_write_22 : decode cX9_write 22 = .ok (.if_icmp .le 6, 3) := by decide +kernel
theorem dX9_write_25 : decode cX9_write 25 = .ok (.bipush (-3), 2) := by decide +kernel
theorem dX9_write_27 : decode cX9_write 27 = .ok (.ireturn, 1) := by decide +kernel
theorem dX9_write_28 : decode cX9_write 28 = .ok (.iload_n 1, 1) := by decide +kernel
theorem dX9_write_29 : decode cX9_write 29 = .ok (.iconst 1, 1) := by decide +kernel
theorem dX9_write_30 : decode cX9_write 30 = .ok (.isub, 1) := by decide +kernel
theorem dX9_write_31 : decode cX9_write 31 = .ok (.istore 4, 2) := by decide +kernel
theorem dX9_write_33 : decode cX9_write 33 = .ok (.iload 4, 2) := by decide +kernel
theorem dX9_write_35 : decode cX9_write 35 = .ok (.ifCond .lt 42, 3) := by decide +kernel
theorem dX9_write_38 : decode cX9_write 38 = .ok (.aload_n 0, 1) := by decide +kernel
theorem dX9_write_39 : decode cX9_write 39 = .ok (.getfield 9, 3) := by decide +kernel
theorem dX9_write_42 : decode cX9_write 42 = .ok (.aload_n 0, 1) := by decide +kernel
theorem dX9_write_43 : decode cX9_write 43 = .ok (.getfield 104, 3) := by decide +kernel
theorem dX9_write_46 : decode cX9_write 46 = .ok (.lload_n 2, 1) := by decide +kernel
theorem dX9_write_47 : decode cX9_write 47 = .ok (.bipush 8, 2) := by decide +kernel
theorem dX9_write_49 : decode cX9_write 49 = .ok (.iload 4, 2) := by decide +kernel
theorem dX9_write_51 : decode cX9_write 51 = .ok (.imul, 1) := by decide +kernel
theorem dX9_write_52 : decode cX9_write 52 = .ok (.lshr, 1) := by decide +kernel
theorem dX9_write_53 : decode cX9_write 53 = .ok (.l2i, 1) := by decide +kernel
theorem dX9_write_54 : decode cX9_write 54 = .ok (.sipush 255, 3) := by decide +kernel
theorem dX9_write_57 : decode cX9_write 57 = .ok (.iand, 1) := by decide +kernel
theorem dX9_write_58 : decode cX9_write 58 = .ok (.invokestatic 110, 3) := by decide +kernel
theorem dX9_write_61 : decode cX9_write 61 = .ok (.aload_n 0, 1) := by decide +kernel
theorem dX9_write_62 : decode cX9_write 62 = .ok (.dup, 1) := by decide +kernel
theorem dX9_write_63 : decode cX9_write 63 = .ok (.getfield 104, 3) := by decide +kernel
theorem dX9_write_66 : decode cX9_write 66 = .ok (.iconst 1, 1) := by decide +kernel
theorem dX9_write_67 : decode cX9_write 67 = .ok (.iadd, 1) := by decide +kernel
theorem dX9_write_68 : decode cX9_write 68 = .ok (.putfield 104, 3) := by decide +kernel
theorem dX9_write_71 : decode cX9_write 71 = .ok (.iinc 4 (-1), 3) := by decide +kernel
theorem dX9_write_74 : decode cX9_write 74 = .ok (.goto (-41), 3) := by decide +kernel
theorem dX9_write_77 : decode cX9_write 77 = .ok (.aload_n 0, 1) := by decide +kernel
theorem dX9_write_78 : decode cX9_write 78 = .ok (.getfield 104, 3) := by decide +kernel
theorem dX9_write_81 : decode cX9_write 81 = .ok (.ireturn, 1) := by decide +kernel
theorem dX9_wipe_0 : decode cX9_wipe 0 = .ok (.aload_n 0, 1) := by decide +kernel
theorem dX9_wipe_1 : decode cX9_wipe 1 = .ok (.getfield 104, 3) := by decide +kernel
theorem dX9_wipe_4 : decode cX9_wipe 4 = .ok (.istore_n 1, 1) := by decide +kernel
theorem dX9_wipe_5 : decode cX9_wipe 5 = .ok (.aload_n 0, 1) := by decide +kernel
theorem dX9_wipe_6 : decode cX9_wipe 6 = .ok (.iconst 0, 1) := by decide +kernel
theorem dX9_wipe_7 : decode cX9_wipe 7 = .ok (.putfield 104, 3) := by decide +kernel
theorem dX9_wipe_10 : decode cX9_wipe 10 = .ok (.iload_n 1, 1) := by decide +kernel
theorem dX9_wipe_11 : decode cX9_wipe 11 = .ok (.ireturn, 1) := by decide +kernel
theorem dX9_fault_0 : decode cX9_fault 0 = .ok (.aload_n 0, 1) := by decide +kernel
theorem dX9_fault_1 : decode cX9_fault 1 = .ok (.getfield 25, 3) := by decide +kernel
theorem dX9_fault_4 : decode cX9_fault 4 = .ok (.aload_n 0, 1) := by decide +kernel
theorem dX9_fault_5 : decode cX9_fault 5 = .ok (.getfield 104, 3) := by decide +kernel
theorem dX9_fault_8 : decode cX9_fault 8 = .ok (.invokevirtual 114, 3) := by decide +kernel
theorem dX9_fault_11 : decode cX9_fault 11 = .ok (.ireturn, 1) := by decide +kernel
theorem dX9_lay_0 : decode cX9_lay 0 = .ok (.aload_n 0, 1) := by decide +kernel
theorem dX9_lay_1 : decode cX9_lay 1 = .ok (.getfield 25, 3) := by decide +kernel
theorem dX9_lay_4 : decode cX9_lay 4 = .ok (.aload_n 0, 1) := by decide +kernel
theorem dX9_lay_5 : decode cX9_lay 5 = .ok (.getfield 104, 3) := by decide +kernel
theorem dX9_lay_8 : decode cX9_lay 8 = .ok (.invokevirtual 114, 3) := by decide +kernel
theorem dX9_lay_11 : decode cX9_lay 11 = .ok (.bipush (-4), 2) := by decide +kernel
theorem dX9_lay_13 : decode cX9_lay 13 = .ok (.if_icmp .ne 14, 3) := by decide +kernel
theorem dX9_lay_16 : decode cX9_lay 16 = .ok (.aload_n 0, 1) := by decide +kernel
theorem dX9_lay_17 : decode cX9_lay 17 = .ok (.getfield 16, 3) := by decide +kernel
theorem dX9_lay_20 : decode cX9_lay 20 = .ok (.getfield 118, 3) := by decide +kernel
theorem dX9_lay_23 : decode cX9_lay 23 = .ok (.iconst 2, 1) := by decide +kernel
theorem dX9_lay_24 : decode cX9_lay 24 = .ok (.if_icmp .ge 6, 3) := by decide +kernel
theorem dX9_lay_27 : decode cX9_lay 27 = .ok (.bipush (-2), 2) := by decide +kernel
theorem dX9_lay_29 : decode cX9_lay 29 = .ok (.ireturn, 1) := by decide +kernel
theorem dX9_lay_30 : decode cX9_lay 30 = .ok (.aload_n 0, 1) := by decide +kernel
theorem dX9_lay_31 : decode cX9_lay 31 = .ok (.getfield 29, 3) := by decide +kernel
theorem dX9_lay_34 : decode cX9_lay 34 = .ok (.aload_n 0, 1) := by decide +kernel
theorem dX9_lay_35 : decode cX9_lay 35 = .ok (.getfield 16, 3) := by decide +kernel
theorem dX9_lay_38 : decode cX9_lay 38 = .ok (.invokevirtual 121, 3) := by decide +kernel
theorem dX9_lay_41 : decode cX9_lay 41 = .ok (.aload_n 0, 1) := by decide +kernel
theorem dX9_lay_42 : decode cX9_lay 42 = .ok (.getfield 35, 3) := by decide +kernel
theorem dX9_lay_45 : decode cX9_lay 45 = .ok (.aload_n 0, 1) := by decide +kernel
theorem dX9_lay_46 : decode cX9_lay 46 = .ok (.getfield 29, 3) := by decide +kernel
theorem dX9_lay_49 : decode cX9_lay 49 = .ok (.getfield 125, 3) := by decide +kernel
theorem dX9_lay_52 : decode cX9_lay 52 = .ok (.aload_n 0, 1) := by decide +kernel
theorem dX9_lay_53 : decode cX9_lay 53 = .ok (.getfield 29, 3) := by decide +kernel
theorem dX9_lay_56 : decode cX9_lay 56 = .ok (.getfield 118, 3) := by decide +kernel
theorem dX9_lay_59 : decode cX9_lay 59 = .ok (.invokevirtual 128, 3) := by decide +kernel
theorem dX9_lay_62 : decode cX9_lay 62 = .ok (.aload_n 0, 1) := by decide +kernel
theorem dX9_lay_63 : decode cX9_lay 63 = .ok (.getfield 44, 3) := by decide +kernel
theorem dX9_lay_66 : decode cX9_lay 66 = .ok (.invokevirtual 132, 3) := by decide +kernel
theorem dX9_lay_69 : decode cX9_lay 69 = .ok (.aload_n 0, 1) := by decide +kernel
theorem dX9_lay_70 : decode cX9_lay 70 = .ok (.getfield 53, 3) := by decide +kernel
theorem dX9_lay_73 : decode cX9_lay 73 = .ok (.invokevirtual 135, 3) := by decide +kernel
theorem dX9_lay_76 : decode cX9_lay 76 = .ok (.aload_n 0, 1) := by decide +kernel
theorem dX9_lay_77 : decode cX9_lay 77 = .ok (.getfield 69, 3) := by decide +kernel
theorem dX9_lay_80 : decode cX9_lay 80 = .ok (.invokevirtual 136, 3) := by decide +kernel
theorem dX9_lay_83 : decode cX9_lay 83 = .ok (.aload_n 0, 1) := by decide +kernel
theorem dX9_lay_84 : decode cX9_lay 84 = .ok (.getfield 76, 3) := by decide +kernel
theorem dX9_lay_87 : decode cX9_lay 87 = .ok (.aload_n 0, 1) := by decide +kernel
theorem dX9_lay_88 : decode cX9_lay 88 = .ok (.getfield 29, 3) := by decide +kernel
theorem dX9_lay_91 : decode cX9_lay 91 = .ok (.getfield 125, 3) := by decide +kernel
theorem dX9_lay_94 : decode cX9_lay 94 = .ok (.putfield 137, 3) := by decide +kernel
theorem dX9_lay_97 : decode cX9_lay 97 = .ok (.aload_n 0, 1) := by decide +kernel
theorem dX9_lay_98 : decode cX9_lay 98 = .ok (.getfield 76, 3) := by decide +kernel
theorem dX9_lay_101 : decode cX9_lay 101 = .ok (.aload_n 0, 1) := by decide +kernel
theorem dX9_lay_102 : decode cX9_lay 102 = .ok (.getfield 29, 3) := by decide +kernel
theorem dX9_lay_105 : decode cX9_lay 105 = .ok (.getfield 125, 3) := by decide +kernel
theorem dX9_lay_108 : decode cX9_lay 108 = .ok (.invokestatic 140, 3) := by decide +kernel
theorem dX9_lay_111 : decode cX9_lay 111 = .ok (.putfield 144, 3) := by decide +kernel
theorem dX9_lay_114 : decode cX9_lay 114 = .ok (.aload_n 0, 1) := by decide +kernel
theorem dX9_lay_115 : decode cX9_lay 115 = .ok (.getfield 76, 3) := by decide +kernel
theorem dX9_lay_118 : decode cX9_lay 118 = .ok (.iconst 0, 1) := by decide +kernel
theorem dX9_lay_119 : decode cX9_lay 119 = .ok (.putfield 148, 3) := by decide +kernel
theorem dX9_lay_122 : decode cX9_lay 122 = .ok (.aload_n 0, 1) := by decide +kernel
theorem dX9_lay_123 : decode cX9_lay 123 = .ok (.getfield 85, 3) := by decide +kernel
theorem dX9_lay_126 : decode cX9_lay 126 = .ok (.iconst 0, 1) := by decide +kernel
theorem dX9_lay_127 : decode cX9_lay 127 = .ok (.putfield 151, 3) := by decide +kernel
theorem dX9_lay_130 : decode cX9_lay 130 = .ok (.aload_n 0, 1) := by decide +kernel
theorem dX9_lay_131 : decode cX9_lay 131 = .ok (.getfield 89, 3) := by decide +kernel
theorem dX9_lay_134 : decode cX9_lay 134 = .ok (.iconst 0, 1) := by decide +kernel
theorem dX9_lay_135 : decode cX9_lay 135 = .ok (.putfield 151, 3) := by decide +kernel
theorem dX9_lay_138 : decode cX9_lay 138 = .ok (.aload_n 0, 1) := by decide +kernel
theorem dX9_lay_139 : decode cX9_lay 139 = .ok (.getfield 29, 3) := by decide +kernel
end
section
theorem dX9_lay_142 : decode cX9_lay 142 = .ok (.getfield 118, 3) := by decide +kernel
theorem dX9_lay_145 : decode cX9_lay 145 = .ok (.ireturn, 1) := by decide +kernel
theorem dX9_guest_0 : decode cX9_guest 0 = .ok (.aload_n 0, 1) := by decide +kernel
theorem dX9_guest_1 : decode cX9_guest 1 = .ok (.iload_n 1, 1) := by decide +kernel
theorem dX9_guest_2 : decode cX9_guest 2 = .ok (.invokevirtual 154, 3) := by decide +kernel
theorem dX9_guest_5 : decode cX9_guest 5 = .ok (.ifCond .ne 5, 3) := by decide +kernel
theorem dX9_guest_8 : decode cX9_guest 8 = .ok (.iconst (-1), 1) := by decide +kernel
theorem dX9_guest_9 : decode cX9_guest 9 = .ok (.ireturn, 1) := by decide +kernel
theorem dX9_guest_10 : decode cX9_guest 10 = .ok (.iload_n 2, 1) := by decide +kernel
theorem dX9_guest_11 : decode cX9_guest 11 = .ok (.tableswitch 65 0 3 #[29, 38, 44, 53], 29) := by decide +kernel
theorem dX9_guest_40 : decode cX9_guest 40 = .ok (.aload_n 0, 1) := by decide +kernel
theorem dX9_guest_41 : decode cX9_guest 41 = .ok (.getfield 29, 3) := by decide +kernel
theorem dX9_guest_44 : decode cX9_guest 44 = .ok (.iload_n 1, 1) := by decide +kernel
theorem dX9_guest_45 : decode cX9_guest 45 = .ok (.invokevirtual 158, 3) := by decide +kernel
theorem dX9_guest_48 : decode cX9_guest 48 = .ok (.ireturn, 1) := by decide +kernel
theorem dX9_guest_49 : decode cX9_guest 49 = .ok (.aload_n 0, 1) := by decide +kernel
theorem dX9_guest_50 : decode cX9_guest 50 = .ok (.iload_n 1, 1) := by decide +kernel
theorem dX9_guest_51 : decode cX9_guest 51 = .ok (.invokevirtual 161, 3) := by decide +kernel
theorem dX9_guest_54 : decode cX9_guest 54 = .ok (.ireturn, 1) := by decide +kernel
theorem dX9_guest_55 : decode cX9_guest 55 = .ok (.aload_n 0, 1) := by decide +kernel
theorem dX9_guest_56 : decode cX9_guest 56 = .ok (.getfield 29, 3) := by decide +kernel
theorem dX9_guest_59 : decode cX9_guest 59 = .ok (.iload_n 1, 1) := by decide +kernel
theorem dX9_guest_60 : decode cX9_guest 60 = .ok (.invokevirtual 164, 3) := by decide +kernel
theorem dX9_guest_63 : decode cX9_guest 63 = .ok (.ireturn, 1) := by decide +kernel
theorem dX9_guest_64 : decode cX9_guest 64 = .ok (.aload_n 0, 1) := by decide +kernel
theorem dX9_guest_65 : decode cX9_guest 65 = .ok (.getfield 76, 3) := by decide +kernel
theorem dX9_guest_68 : decode cX9_guest 68 = .ok (.getfield 144, 3) := by decide +kernel
theorem dX9_guest_71 : decode cX9_guest 71 = .ok (.iload_n 1, 1) := by decide +kernel
theorem dX9_guest_72 : decode cX9_guest 72 = .ok (.invokestatic 167, 3) := by decide +kernel
theorem dX9_guest_75 : decode cX9_guest 75 = .ok (.ireturn, 1) := by decide +kernel
theorem dX9_guest_76 : decode cX9_guest 76 = .ok (.iconst (-1), 1) := by decide +kernel
theorem dX9_guest_77 : decode cX9_guest 77 = .ok (.ireturn, 1) := by decide +kernel
theorem dX9_worth_0 : decode cX9_worth 0 = .ok (.aload_n 0, 1) := by decide +kernel
theorem dX9_worth_1 : decode cX9_worth 1 = .ok (.iload_n 1, 1) := by decide +kernel
theorem dX9_worth_2 : decode cX9_worth 2 = .ok (.invokevirtual 154, 3) := by decide +kernel
theorem dX9_worth_5 : decode cX9_worth 5 = .ok (.ifCond .eq 21, 3) := by decide +kernel
theorem dX9_worth_8 : decode cX9_worth 8 = .ok (.aload_n 0, 1) := by decide +kernel
theorem dX9_worth_9 : decode cX9_worth 9 = .ok (.iload_n 2, 1) := by decide +kernel
theorem dX9_worth_10 : decode cX9_worth 10 = .ok (.invokevirtual 171, 3) := by decide +kernel
theorem dX9_worth_13 : decode cX9_worth 13 = .ok (.ifCond .eq 13, 3) := by decide +kernel
theorem dX9_worth_16 : decode cX9_worth 16 = .ok (.iload_n 3, 1) := by decide +kernel
theorem dX9_worth_17 : decode cX9_worth 17 = .ok (.ifCond .lt 9, 3) := by decide +kernel
theorem dX9_worth_20 : decode cX9_worth 20 = .ok (.iload_n 3, 1) := by decide +kernel
theorem dX9_worth_21 : decode cX9_worth 21 = .ok (.bipush 99, 2) := by decide +kernel
theorem dX9_worth_23 : decode cX9_worth 23 = .ok (.if_icmp .le 5, 3) := by decide +kernel
theorem dX9_worth_26 : decode cX9_worth 26 = .ok (.iconst (-1), 1) := by decide +kernel
theorem dX9_worth_27 : decode cX9_worth 27 = .ok (.ireturn, 1) := by decide +kernel
theorem dX9_worth_28 : decode cX9_worth 28 = .ok (.aload_n 0, 1) := by decide +kernel
theorem dX9_worth_29 : decode cX9_worth 29 = .ok (.getfield 29, 3) := by decide +kernel
theorem dX9_worth_32 : decode cX9_worth 32 = .ok (.iload_n 1, 1) := by decide +kernel
theorem dX9_worth_33 : decode cX9_worth 33 = .ok (.iload_n 2, 1) := by decide +kernel
theorem dX9_worth_34 : decode cX9_worth 34 = .ok (.iload_n 3, 1) := by decide +kernel
theorem dX9_worth_35 : decode cX9_worth 35 = .ok (.invokevirtual 174, 3) := by decide +kernel
theorem dX9_worth_38 : decode cX9_worth 38 = .ok (.ireturn, 1) := by decide +kernel
theorem dX9_hands_0 : decode cX9_hands 0 = .ok (.aload_n 0, 1) := by decide +kernel
theorem dX9_hands_1 : decode cX9_hands 1 = .ok (.iload_n 1, 1) := by decide +kernel
theorem dX9_hands_2 : decode cX9_hands 2 = .ok (.invokevirtual 154, 3) := by decide +kernel
theorem dX9_hands_5 : decode cX9_hands 5 = .ok (.ifCond .eq 11, 3) := by decide +kernel
theorem dX9_hands_8 : decode cX9_hands 8 = .ok (.aload_n 0, 1) := by decide +kernel
theorem dX9_hands_9 : decode cX9_hands 9 = .ok (.iload_n 2, 1) := by decide +kernel
theorem dX9_hands_10 : decode cX9_hands 10 = .ok (.invokevirtual 154, 3) := by decide +kernel
theorem dX9_hands_13 : decode cX9_hands 13 = .ok (.ifCond .ne 5, 3) := by decide +kernel
theorem dX9_hands_16 : decode cX9_hands 16 = .ok (.iconst (-1), 1) := by decide +kernel
theorem dX9_hands_17 : decode cX9_hands 17 = .ok (.ireturn, 1) := by decide +kernel
theorem dX9_hands_18 : decode cX9_hands 18 = .ok (.aload_n 0, 1) := by decide +kernel
theorem dX9_hands_19 : decode cX9_hands 19 = .ok (.getfield 29, 3) := by decide +kernel
theorem dX9_hands_22 : decode cX9_hands 22 = .ok (.iload_n 1, 1) := by decide +kernel
theorem dX9_hands_23 : decode cX9_hands 23 = .ok (.iload_n 2, 1) := by decide +kernel
theorem dX9_hands_24 : decode cX9_hands 24 = .ok (.invokevirtual 178, 3) := by decide +kernel
theorem dX9_hands_27 : decode cX9_hands 27 = .ok (.ireturn, 1) := by decide +kernel
theorem dX9_ask_0 : decode cX9_ask 0 = .ok (.aload_n 0, 1) := by decide +kernel
theorem dX9_ask_1 : decode cX9_ask 1 = .ok (.iload_n 1, 1) := by decide +kernel
theorem dX9_ask_2 : decode cX9_ask 2 = .ok (.invokevirtual 154, 3) := by decide +kernel
theorem dX9_ask_5 : decode cX9_ask 5 = .ok (.ifCond .eq 11, 3) := by decide +kernel
theorem dX9_ask_8 : decode cX9_ask 8 = .ok (.aload_n 0, 1) := by decide +kernel
theorem dX9_ask_9 : decode cX9_ask 9 = .ok (.iload_n 2, 1) := by decide +kernel
theorem dX9_ask_10 : decode cX9_ask 10 = .ok (.invokevirtual 154, 3) := by decide +kernel
theorem dX9_ask_13 : decode cX9_ask 13 = .ok (.ifCond .ne 5, 3) := by decide +kernel
theorem dX9_ask_16 : decode cX9_ask 16 = .ok (.iconst (-1), 1) := by decide +kernel
theorem dX9_ask_17 : decode cX9_ask 17 = .ok (.ireturn, 1) := by decide +kernel
theorem dX9_ask_18 : decode cX9_ask 18 = .ok (.aload_n 0, 1) := by decide +kernel
theorem dX9_ask_19 : decode cX9_ask 19 = .ok (.getfield 29, 3) := by decide +kernel
theorem dX9_ask_22 : decode cX9_ask 22 = .ok (.aload_n 0, 1) := by decide +kernel
theorem dX9_ask_23 : decode cX9_ask 23 = .ok (.getfield 76, 3) := by decide +kernel
theorem dX9_ask_26 : decode cX9_ask 26 = .ok (.getfield 137, 3) := by decide +kernel
theorem dX9_ask_29 : decode cX9_ask 29 = .ok (.iload_n 1, 1) := by decide +kernel
theorem dX9_ask_30 : decode cX9_ask 30 = .ok (.iload_n 2, 1) := by decide +kernel
theorem dX9_ask_31 : decode cX9_ask 31 = .ok (.invokevirtual 182, 3) := by decide +kernel
theorem dX9_ask_34 : decode cX9_ask 34 = .ok (.ifCond .ne 6, 3) := by decide +kernel
theorem dX9_ask_37 : decode cX9_ask 37 = .ok (.bipush (-2), 2) := by decide +kernel
theorem dX9_ask_39 : decode cX9_ask 39 = .ok (.ireturn, 1) := by decide +kernel
theorem dX9_ask_40 : decode cX9_ask 40 = .ok (.aload_n 0, 1) := by decide +kernel
theorem dX9_ask_41 : decode cX9_ask 41 = .ok (.getfield 85, 3) := by decide +kernel
theorem dX9_ask_44 : decode cX9_ask 44 = .ok (.aload_n 0, 1) := by decide +kernel
theorem dX9_ask_45 : decode cX9_ask 45 = .ok (.getfield 76, 3) := by decide +kernel
theorem dX9_ask_48 : decode cX9_ask 48 = .ok (.invokevirtual 186, 3) := by decide +kernel
theorem dX9_ask_51 : decode cX9_ask 51 = .ok (.aload_n 0, 1) := by decide +kernel
theorem dX9_ask_52 : decode cX9_ask 52 = .ok (.getfield 76, 3) := by decide +kernel
theorem dX9_ask_55 : decode cX9_ask 55 = .ok (.aload_n 0, 1) := by decide +kernel
theorem dX9_ask_56 : decode cX9_ask 56 = .ok (.getfield 29, 3) := by decide +kernel
theorem dX9_ask_59 : decode cX9_ask 59 = .ok (.aload_n 0, 1) := by decide +kernel
theorem dX9_ask_60 : decode cX9_ask 60 = .ok (.getfield 76, 3) := by decide +kernel
theorem dX9_ask_63 : decode cX9_ask 63 = .ok (.getfield 137, 3) := by decide +kernel
theorem dX9_ask_66 : decode cX9_ask 66 = .ok (.iload_n 1, 1) := by decide +kernel
theorem dX9_ask_67 : decode cX9_ask 67 = .ok (.iload_n 2, 1) := by decide +kernel
theorem dX9_ask_68 : decode cX9_ask 68 = .ok (.invokevirtual 190, 3) := by decide +kernel
theorem dX9_ask_71 : decode cX9_ask 71 = .ok (.putfield 137, 3) := by decide +kernel
theorem dX9_ask_74 : decode cX9_ask 74 = .ok (.aload_n 0, 1) := by decide +kernel
theorem dX9_ask_75 : decode cX9_ask 75 = .ok (.getfield 76, 3) := by decide +kernel
theorem dX9_ask_78 : decode cX9_ask 78 = .ok (.dup, 1) := by decide +kernel
theorem dX9_ask_79 : decode cX9_ask 79 = .ok (.getfield 144, 3) := by decide +kernel
theorem dX9_ask_82 : decode cX9_ask 82 = .ok (.aload_n 0, 1) := by decide +kernel
theorem dX9_ask_83 : decode cX9_ask 83 = .ok (.getfield 76, 3) := by decide +kernel
theorem dX9_ask_86 : decode cX9_ask 86 = .ok (.getfield 137, 3) := by decide +kernel
theorem dX9_ask_89 : decode cX9_ask 89 = .ok (.invokestatic 140, 3) := by decide +kernel
theorem dX9_ask_92 : decode cX9_ask 92 = .ok (.lor, 1) := by decide +kernel
theorem dX9_ask_93 : decode cX9_ask 93 = .ok (.putfield 144, 3) := by decide +kernel
theorem dX9_ask_96 : decode cX9_ask 96 = .ok (.aload_n 0, 1) := by decide +kernel
theorem dX9_ask_97 : decode cX9_ask 97 = .ok (.getfield 76, 3) := by decide +kernel
theorem dX9_ask_100 : decode cX9_ask 100 = .ok (.dup, 1) := by decide +kernel
theorem dX9_ask_101 : decode cX9_ask 101 = .ok (.getfield 148, 3) := by decide +kernel
theorem dX9_ask_104 : decode cX9_ask 104 = .ok (.aload_n 0, 1) := by decide +kernel
theorem dX9_ask_105 : decode cX9_ask 105 = .ok (.getfield 29, 3) := by decide +kernel
theorem dX9_ask_108 : decode cX9_ask 108 = .ok (.iload_n 1, 1) := by decide +kernel
theorem dX9_ask_109 : decode cX9_ask 109 = .ok (.iload_n 2, 1) := by decide +kernel
theorem dX9_ask_110 : decode cX9_ask 110 = .ok (.invokevirtual 178, 3) := by decide +kernel
theorem dX9_ask_113 : decode cX9_ask 113 = .ok (.iadd, 1) := by decide +kernel
theorem dX9_ask_114 : decode cX9_ask 114 = .ok (.putfield 148, 3) := by decide +kernel
theorem dX9_ask_117 : decode cX9_ask 117 = .ok (.aload_n 0, 1) := by decide +kernel
theorem dX9_ask_118 : decode cX9_ask 118 = .ok (.iload_n 1, 1) := by decide +kernel
theorem dX9_ask_119 : decode cX9_ask 119 = .ok (.invokevirtual 161, 3) := by decide +kernel
theorem dX9_ask_122 : decode cX9_ask 122 = .ok (.ireturn, 1) := by decide +kernel
theorem dX9_undo_0 : decode cX9_undo 0 = .ok (.aload_n 0, 1) := by decide +kernel
theorem dX9_undo_1 : decode cX9_undo 1 = .ok (.getfield 85, 3) := by decide +kernel
theorem dX9_undo_4 : decode cX9_undo 4 = .ok (.getfield 151, 3) := by decide +kernel
theorem dX9_undo_7 : decode cX9_undo 7 = .ok (.ifCond .ne 6, 3) := by decide +kernel
theorem dX9_undo_10 : decode cX9_undo 10 = .ok (.bipush (-2), 2) := by decide +kernel
theorem dX9_undo_12 : decode cX9_undo 12 = .ok (.ireturn, 1) := by decide +kernel
theorem dX9_undo_13 : decode cX9_undo 13 = .ok (.aload_n 0, 1) := by decide +kernel
theorem dX9_undo_14 : decode cX9_undo 14 = .ok (.getfield 85, 3) := by decide +kernel
theorem dX9_undo_17 : decode cX9_undo 17 = .ok (.aload_n 0, 1) := by decide +kernel
theorem dX9_undo_18 : decode cX9_undo 18 = .ok (.getfield 76, 3) := by decide +kernel
theorem dX9_undo_21 : decode cX9_undo 21 = .ok (.invokevirtual 193, 3) := by decide +kernel
theorem dX9_undo_24 : decode cX9_undo 24 = .ok (.aload_n 0, 1) := by decide +kernel
theorem dX9_undo_25 : decode cX9_undo 25 = .ok (.getfield 85, 3) := by decide +kernel
theorem dX9_undo_28 : decode cX9_undo 28 = .ok (.getfield 151, 3) := by decide +kernel
theorem dX9_undo_31 : decode cX9_undo 31 = .ok (.ireturn, 1) := by decide +kernel
theorem dX9_evening_0 : decode cX9_evening 0 = .ok (.aload_n 0, 1) := by decide +kernel
theorem dX9_evening_1 : decode cX9_evening 1 = .ok (.getfield 29, 3) := by decide +kernel
theorem dX9_evening_4 : decode cX9_evening 4 = .ok (.aload_n 0, 1) := by decide +kernel
theorem dX9_evening_5 : decode cX9_evening 5 = .ok (.getfield 76, 3) := by decide +kernel
theorem dX9_evening_8 : decode cX9_evening 8 = .ok (.getfield 137, 3) := by decide +kernel
theorem dX9_evening_11 : decode cX9_evening 11 = .ok (.aload_n 0, 1) := by decide +kernel
theorem dX9_evening_12 : decode cX9_evening 12 = .ok (.getfield 76, 3) := by decide +kernel
theorem dX9_evening_15 : decode cX9_evening 15 = .ok (.getfield 148, 3) := by decide +kernel
theorem dX9_evening_18 : decode cX9_evening 18 = .ok (.invokevirtual 196, 3) := by decide +kernel
theorem dX9_evening_21 : decode cX9_evening 21 = .ok (.ireturn, 1) := by decide +kernel
theorem dX9_need_0 : decode cX9_need 0 = .ok (.aload_n 0, 1) := by decide +kernel
theorem dX9_need_1 : decode cX9_need 1 = .ok (.iload_n 1, 1) := by decide +kernel
theorem dX9_need_2 : decode cX9_need 2 = .ok (.invokevirtual 154, 3) := by decide +kernel
theorem dX9_need_5 : decode cX9_need 5 = .ok (.ifCond .eq 11, 3) := by decide +kernel
theorem dX9_need_8 : decode cX9_need 8 = .ok (.aload_n 0, 1) := by decide +kernel
theorem dX9_need_9 : decode cX9_need 9 = .ok (.iload_n 2, 1) := by decide +kernel
theorem dX9_need_10 : decode cX9_need 10 = .ok (.invokevirtual 171, 3) := by decide +kernel
theorem dX9_need_13 : decode cX9_need 13 = .ok (.ifCond .ne 5, 3) := by decide +kernel
theorem dX9_need_16 : decode cX9_need 16 = .ok (.iconst (-1), 1) := by decide +kernel
theorem dX9_need_17 : decode cX9_need 17 = .ok (.ireturn, 1) := by decide +kernel
theorem dX9_need_18 : decode cX9_need 18 = .ok (.aload_n 0, 1) := by decide +kernel
theorem dX9_need_19 : decode cX9_need 19 = .ok (.invokevirtual 199, 3) := by decide +kernel
theorem dX9_need_22 : decode cX9_need 22 = .ok (.aload_n 0, 1) := by decide +kernel
theorem dX9_need_23 : decode cX9_need 23 = .ok (.getfield 53, 3) := by decide +kernel
theorem dX9_need_26 : decode cX9_need 26 = .ok (.iload_n 1, 1) := by decide +kernel
theorem dX9_need_27 : decode cX9_need 27 = .ok (.iload_n 2, 1) := by decide +kernel
theorem dX9_need_28 : decode cX9_need 28 = .ok (.invokevirtual 202, 3) := by decide +kernel
theorem dX9_need_31 : decode cX9_need 31 = .ok (.ireturn, 1) := by decide +kernel
theorem dX9_first_0 : decode cX9_first 0 = .ok (.aload_n 0, 1) := by decide +kernel
theorem dX9_first_1 : decode cX9_first 1 = .ok (.iload_n 1, 1) := by decide +kernel
theorem dX9_first_2 : decode cX9_first 2 = .ok (.invokevirtual 154, 3) := by decide +kernel
theorem dX9_first_5 : decode cX9_first 5 = .ok (.ifCond .eq 11, 3) := by decide +kernel
theorem dX9_first_8 : decode cX9_first 8 = .ok (.aload_n 0, 1) := by decide +kernel
theorem dX9_first_9 : decode cX9_first 9 = .ok (.iload_n 2, 1) := by decide +kernel
theorem dX9_first_10 : decode cX9_first 10 = .ok (.invokevirtual 171, 3) := by decide +kernel
theorem dX9_first_13 : decode cX9_first 13 = .ok (.ifCond .ne 5, 3) := by decide +kernel
theorem dX9_first_16 : decode cX9_first 16 = .ok (.iconst (-1), 1) := by decide +kernel
theorem dX9_first_17 : decode cX9_first 17 = .ok (.ireturn, 1) := by decide +kernel
theorem dX9_first_18 : decode cX9_first 18 = .ok (.aload_n 0, 1) := by decide +kernel
theorem dX9_first_19 : decode cX9_first 19 = .ok (.invokevirtual 199, 3) := by decide +kernel
theorem dX9_first_22 : decode cX9_first 22 = .ok (.aload_n 0, 1) := by decide +kernel
theorem dX9_first_23 : decode cX9_first 23 = .ok (.getfield 53, 3) := by decide +kernel
theorem dX9_first_26 : decode cX9_first 26 = .ok (.iload_n 1, 1) := by decide +kernel
theorem dX9_first_27 : decode cX9_first 27 = .ok (.iload_n 2, 1) := by decide +kernel
theorem dX9_first_28 : decode cX9_first 28 = .ok (.invokevirtual 205, 3) := by decide +kernel
theorem dX9_first_31 : decode cX9_first 31 = .ok (.ireturn, 1) := by decide +kernel
theorem dX9_price_0 : decode cX9_price 0 = .ok (.aload_n 0, 1) := by decide +kernel
theorem dX9_price_1 : decode cX9_price 1 = .ok (.iload_n 1, 1) := by decide +kernel
theorem dX9_price_2 : decode cX9_price 2 = .ok (.invokevirtual 154, 3) := by decide +kernel
theorem dX9_price_5 : decode cX9_price 5 = .ok (.ifCond .eq 11, 3) := by decide +kernel
theorem dX9_price_8 : decode cX9_price 8 = .ok (.aload_n 0, 1) := by decide +kernel
theorem dX9_price_9 : decode cX9_price 9 = .ok (.iload_n 2, 1) := by decide +kernel
theorem dX9_price_10 : decode cX9_price 10 = .ok (.invokevirtual 171, 3) := by decide +kernel
theorem dX9_price_13 : decode cX9_price 13 = .ok (.ifCond .ne 5, 3) := by decide +kernel
theorem dX9_price_16 : decode cX9_price 16 = .ok (.iconst (-1), 1) := by decide +kernel
theorem dX9_price_17 : decode cX9_price 17 = .ok (.ireturn, 1) := by decide +kernel
theorem dX9_price_18 : decode cX9_price 18 = .ok (.aload_n 0, 1) := by decide +kernel
theorem dX9_price_19 : decode cX9_price 19 = .ok (.getfield 76, 3) := by decide +kernel
theorem dX9_price_22 : decode cX9_price 22 = .ok (.getfield 137, 3) := by decide +kernel
theorem dX9_price_25 : decode cX9_price 25 = .ok (.iload_n 2, 1) := by decide +kernel
theorem dX9_price_26 : decode cX9_price 26 = .ok (.invokestatic 208, 3) := by decide +kernel
theorem dX9_price_29 : decode cX9_price 29 = .ok (.ifCond .ge 6, 3) := by decide +kernel
theorem dX9_price_32 : decode cX9_price 32 = .ok (.bipush (-4), 2) := by decide +kernel
theorem dX9_price_34 : decode cX9_price 34 = .ok (.ireturn, 1) := by decide +kernel
theorem dX9_price_35 : decode cX9_price 35 = .ok (.aload_n 0, 1) := by decide +kernel
theorem dX9_price_36 : decode cX9_price 36 = .ok (.getfield 60, 3) := by decide +kernel
theorem dX9_price_39 : decode cX9_price 39 = .ok (.aload_n 0, 1) := by decide +kernel
theorem dX9_price_40 : decode cX9_price 40 = .ok (.getfield 35, 3) := by decide +kernel
theorem dX9_price_43 : decode cX9_price 43 = .ok (.aload_n 0, 1) := by decide +kernel
theorem dX9_price_44 : decode cX9_price 44 = .ok (.getfield 76, 3) := by decide +kernel
theorem dX9_price_47 : decode cX9_price 47 = .ok (.getfield 137, 3) := by decide +kernel
theorem dX9_price_50 : decode cX9_price 50 = .ok (.invokevirtual 211, 3) := by decide +kernel
theorem dX9_price_53 : decode cX9_price 53 = .ok (.iload_n 1, 1) := by decide +kernel
theorem dX9_price_54 : decode cX9_price 54 = .ok (.iload_n 2, 1) := by decide +kernel
theorem dX9_price_55 : decode cX9_price 55 = .ok (.invokevirtual 214, 3) := by decide +kernel
theorem dX9_price_58 : decode cX9_price 58 = .ok (.ireturn, 1) := by decide +kernel
theorem dX9_never_0 : decode cX9_never 0 = .ok (.aload_n 0, 1) := by decide +kernel
theorem dX9_never_1 : decode cX9_never 1 = .ok (.iload_n 1, 1) := by decide +kernel
theorem dX9_never_2 : decode cX9_never 2 = .ok (.invokevirtual 154, 3) := by decide +kernel
theorem dX9_never_5 : decode cX9_never 5 = .ok (.ifCond .ne 5, 3) := by decide +kernel
theorem dX9_never_8 : decode cX9_never 8 = .ok (.iconst (-1), 1) := by decide +kernel
theorem dX9_never_9 : decode cX9_never 9 = .ok (.ireturn, 1) := by decide +kernel
theorem dX9_never_10 : decode cX9_never 10 = .ok (.aload_n 0, 1) := by decide +kernel
theorem dX9_never_11 : decode cX9_never 11 = .ok (.invokevirtual 199, 3) := by decide +kernel
theorem dX9_never_14 : decode cX9_never 14 = .ok (.aload_n 0, 1) := by decide +kernel
theorem dX9_never_15 : decode cX9_never 15 = .ok (.getfield 29, 3) := by decide +kernel
theorem dX9_never_18 : decode cX9_never 18 = .ok (.invokevirtual 217, 3) := by decide +kernel
theorem dX9_never_21 : decode cX9_never 21 = .ok (.iload_n 1, 1) := by decide +kernel
theorem dX9_never_22 : decode cX9_never 22 = .ok (.invokestatic 220, 3) := by decide +kernel
theorem dX9_never_25 : decode cX9_never 25 = .ok (.lstore_n 2, 1) := by decide +kernel
theorem dX9_never_26 : decode cX9_never 26 = .ok (.lload_n 2, 1) := by decide +kernel
theorem dX9_never_27 : decode cX9_never 27 = .ok (.aload_n 0, 1) := by decide +kernel
theorem dX9_never_28 : decode cX9_never 28 = .ok (.getfield 53, 3) := by decide +kernel
theorem dX9_never_31 : decode cX9_never 31 = .ok (.lload_n 2, 1) := by decide +kernel
theorem dX9_never_32 : decode cX9_never 32 = .ok (.invokevirtual 224, 3) := by decide +kernel
theorem dX9_never_35 : decode cX9_never 35 = .ok (.ldc2_w 228, 3) := by decide +kernel
theorem dX9_never_38 : decode cX9_never 38 = .ok (.lxor, 1) := by decide +kernel
theorem dX9_never_39 : decode cX9_never 39 = .ok (.land, 1) := by decide +kernel
theorem dX9_never_40 : decode cX9_never 40 = .ok (.iload_n 1, 1) := by decide +kernel
theorem dX9_never_41 : decode cX9_never 41 = .ok (.invokestatic 167, 3) := by decide +kernel
theorem dX9_never_44 : decode cX9_never 44 = .ok (.ireturn, 1) := by decide +kernel
theorem dX9_stuck_0 : decode cX9_stuck 0 = .ok (.aload_n 0, 1) := by decide +kernel
theorem dX9_stuck_1 : decode cX9_stuck 1 = .ok (.getfield 44, 3) := by decide +kernel
theorem dX9_stuck_4 : decode cX9_stuck 4 = .ok (.aload_n 0, 1) := by decide +kernel
theorem dX9_stuck_5 : decode cX9_stuck 5 = .ok (.getfield 35, 3) := by decide +kernel
theorem dX9_stuck_8 : decode cX9_stuck 8 = .ok (.aload_n 0, 1) := by decide +kernel
theorem dX9_stuck_9 : decode cX9_stuck 9 = .ok (.getfield 76, 3) := by decide +kernel
theorem dX9_stuck_12 : decode cX9_stuck 12 = .ok (.getfield 137, 3) := by decide +kernel
theorem dX9_stuck_15 : decode cX9_stuck 15 = .ok (.invokevirtual 211, 3) := by decide +kernel
theorem dX9_stuck_18 : decode cX9_stuck 18 = .ok (.invokevirtual 230, 3) := by decide +kernel
theorem dX9_stuck_21 : decode cX9_stuck 21 = .ok (.ifCond .eq 7, 3) := by decide +kernel
theorem dX9_stuck_24 : decode cX9_stuck 24 = .ok (.iconst 0, 1) := by decide +kernel
theorem dX9_stuck_25 : decode cX9_stuck 25 = .ok (.goto 4, 3) := by decide +kernel
theorem dX9_stuck_28 : decode cX9_stuck 28 = .ok (.iconst 1, 1) := by decide +kernel
theorem dX9_stuck_29 : decode cX9_stuck 29 = .ok (.ireturn, 1) := by decide +kernel
theorem dX9_rest_0 : decode cX9_rest 0 = .ok (.aload_n 0, 1) := by decide +kernel
theorem dX9_rest_1 : decode cX9_rest 1 = .ok (.invokevirtual 199, 3) := by decide +kernel
theorem dX9_rest_4 : decode cX9_rest 4 = .ok (.aload_n 0, 1) := by decide +kernel
theorem dX9_rest_5 : decode cX9_rest 5 = .ok (.getfield 53, 3) := by decide +kernel
theorem dX9_rest_8 : decode cX9_rest 8 = .ok (.ldc 233, 2) := by decide +kernel
theorem dX9_rest_10 : decode cX9_rest 10 = .ok (.invokevirtual 234, 3) := by decide +kernel
theorem dX9_rest_13 : decode cX9_rest 13 = .ok (.ireturn, 1) := by decide +kernel
theorem dX9_holdsUp_0 : decode cX9_holdsUp 0 = .ok (.iload_n 1, 1) := by decide +kernel
theorem dX9_holdsUp_1 : decode cX9_holdsUp 1 = .ok (.ifCond .lt 8, 3) := by decide +kernel
theorem dX9_holdsUp_4 : decode cX9_holdsUp 4 = .ok (.iload_n 1, 1) := by decide +kernel
theorem dX9_holdsUp_5 : decode cX9_holdsUp 5 = .ok (.iconst 1, 1) := by decide +kernel
theorem dX9_holdsUp_6 : decode cX9_holdsUp 6 = .ok (.if_icmp .le 5, 3) := by decide +kernel
theorem dX9_holdsUp_9 : decode cX9_holdsUp 9 = .ok (.iconst (-1), 1) := by decide +kernel
theorem dX9_holdsUp_10 : decode cX9_holdsUp 10 = .ok (.ireturn, 1) := by decide +kernel
theorem dX9_holdsUp_11 : decode cX9_holdsUp 11 = .ok (.aload_n 0, 1) := by decide +kernel
theorem dX9_holdsUp_12 : decode cX9_holdsUp 12 = .ok (.invokevirtual 199, 3) := by decide +kernel
theorem dX9_holdsUp_15 : decode cX9_holdsUp 15 = .ok (.aload_n 0, 1) := by decide +kernel
theorem dX9_holdsUp_16 : decode cX9_holdsUp 16 = .ok (.getfield 69, 3) := by decide +kernel
theorem dX9_holdsUp_19 : decode cX9_holdsUp 19 = .ok (.invokevirtual 237, 3) := by decide +kernel
theorem dX9_holdsUp_22 : decode cX9_holdsUp 22 = .ok (.iload_n 1, 1) := by decide +kernel
theorem dX9_holdsUp_23 : decode cX9_holdsUp 23 = .ok (.ifCond .ne 13, 3) := by decide +kernel
theorem dX9_holdsUp_26 : decode cX9_holdsUp 26 = .ok (.aload_n 0, 1) := by decide +kernel
theorem dX9_holdsUp_27 : decode cX9_holdsUp 27 = .ok (.getfield 69, 3) := by decide +kernel
theorem dX9_holdsUp_30 : decode cX9_holdsUp 30 = .ok (.getfield 240, 3) := by decide +kernel
theorem dX9_holdsUp_33 : decode cX9_holdsUp 33 = .ok (.goto 10, 3) := by decide +kernel
theorem dX9_holdsUp_36 : decode cX9_holdsUp 36 = .ok (.aload_n 0, 1) := by decide +kernel
theorem dX9_holdsUp_37 : decode cX9_holdsUp 37 = .ok (.getfield 69, 3) := by decide +kernel
theorem dX9_holdsUp_40 : decode cX9_holdsUp 40 = .ok (.getfield 243, 3) := by decide +kernel
theorem dX9_holdsUp_43 : decode cX9_holdsUp 43 = .ok (.ireturn, 1) := by decide +kernel
theorem dX9_liked_0 : decode cX9_liked 0 = .ok (.iload_n 1, 1) := by decide +kernel
theorem dX9_liked_1 : decode cX9_liked 1 = .ok (.ifCond .lt 8, 3) := by decide +kernel
theorem dX9_liked_4 : decode cX9_liked 4 = .ok (.iload_n 1, 1) := by decide +kernel
theorem dX9_liked_5 : decode cX9_liked 5 = .ok (.iconst 1, 1) := by decide +kernel
theorem dX9_liked_6 : decode cX9_liked 6 = .ok (.if_icmp .le 5, 3) := by decide +kernel
theorem dX9_liked_9 : decode cX9_liked 9 = .ok (.iconst (-1), 1) := by decide +kernel
theorem dX9_liked_10 : decode cX9_liked 10 = .ok (.ireturn, 1) := by decide +kernel
theorem dX9_liked_11 : decode cX9_liked 11 = .ok (.iconst 0, 1) := by decide +kernel
theorem dX9_liked_12 : decode cX9_liked 12 = .ok (.istore_n 2, 1) := by decide +kernel
theorem dX9_liked_13 : decode cX9_liked 13 = .ok (.bipush (-4), 2) := by decide +kernel
theorem dX9_liked_15 : decode cX9_liked 15 = .ok (.istore_n 3, 1) := by decide +kernel
theorem dX9_liked_16 : decode cX9_liked 16 = .ok (.iconst 0, 1) := by decide +kernel
theorem dX9_liked_17 : decode cX9_liked 17 = .ok (.istore 4, 2) := by decide +kernel
theorem dX9_liked_19 : decode cX9_liked 19 = .ok (.iload 4, 2) := by decide +kernel
theorem dX9_liked_21 : decode cX9_liked 21 = .ok (.aload_n 0, 1) := by decide +kernel
theorem dX9_liked_22 : decode cX9_liked 22 = .ok (.getfield 29, 3) := by decide +kernel
theorem dX9_liked_25 : decode cX9_liked 25 = .ok (.getfield 118, 3) := by decide +kernel
theorem dX9_liked_28 : decode cX9_liked 28 = .ok (.if_icmp .ge 74, 3) := by decide +kernel
theorem dX9_liked_31 : decode cX9_liked 31 = .ok (.iload 4, 2) := by decide +kernel
theorem dX9_liked_33 : decode cX9_liked 33 = .ok (.iconst 1, 1) := by decide +kernel
theorem dX9_liked_34 : decode cX9_liked 34 = .ok (.iadd, 1) := by decide +kernel
theorem dX9_liked_35 : decode cX9_liked 35 = .ok (.istore 5, 2) := by decide +kernel
theorem dX9_liked_37 : decode cX9_liked 37 = .ok (.iload 5, 2) := by decide +kernel
theorem dX9_liked_39 : decode cX9_liked 39 = .ok (.aload_n 0, 1) := by decide +kernel
theorem dX9_liked_40 : decode cX9_liked 40 = .ok (.getfield 29, 3) := by decide +kernel
theorem dX9_liked_43 : decode cX9_liked 43 = .ok (.getfield 118, 3) := by decide +kernel
theorem dX9_liked_46 : decode cX9_liked 46 = .ok (.if_icmp .ge 50, 3) := by decide +kernel
theorem dX9_liked_49 : decode cX9_liked 49 = .ok (.aload_n 0, 1) := by decide +kernel
theorem dX9_liked_50 : decode cX9_liked 50 = .ok (.getfield 29, 3) := by decide +kernel
theorem dX9_liked_53 : decode cX9_liked 53 = .ok (.aload_n 0, 1) := by decide +kernel
theorem dX9_liked_54 : decode cX9_liked 54 = .ok (.getfield 76, 3) := by decide +kernel
theorem dX9_liked_57 : decode cX9_liked 57 = .ok (.getfield 137, 3) := by decide +kernel
theorem dX9_liked_60 : decode cX9_liked 60 = .ok (.iload 4, 2) := by decide +kernel
theorem dX9_liked_62 : decode cX9_liked 62 = .ok (.iload 5, 2) := by decide +kernel
theorem dX9_liked_64 : decode cX9_liked 64 = .ok (.invokevirtual 246, 3) := by decide +kernel
theorem dX9_liked_67 : decode cX9_liked 67 = .ok (.ifCond .eq 23, 3) := by decide +kernel
theorem dX9_liked_70 : decode cX9_liked 70 = .ok (.iload_n 2, 1) := by decide +kernel
theorem dX9_liked_71 : decode cX9_liked 71 = .ok (.ifCond .ne 14, 3) := by decide +kernel
theorem dX9_liked_74 : decode cX9_liked 74 = .ok (.bipush 10, 2) := by decide +kernel
theorem dX9_liked_76 : decode cX9_liked 76 = .ok (.iload 4, 2) := by decide +kernel
theorem dX9_liked_78 : decode cX9_liked 78 = .ok (.imul, 1) := by decide +kernel
theorem dX9_liked_79 : decode cX9_liked 79 = .ok (.iload 5, 2) := by decide +kernel
theorem dX9_liked_81 : decode cX9_liked 81 = .ok (.iadd, 1) := by decide +kernel
theorem dX9_liked_82 : decode cX9_liked 82 = .ok (.goto 4, 3) := by decide +kernel
theorem dX9_liked_85 : decode cX9_liked 85 = .ok (.iload_n 3, 1) := by decide +kernel
theorem dX9_liked_86 : decode cX9_liked 86 = .ok (.istore_n 3, 1) := by decide +kernel
theorem dX9_liked_87 : decode cX9_liked 87 = .ok (.iinc 2 1, 3) := by decide +kernel
theorem dX9_liked_90 : decode cX9_liked 90 = .ok (.iinc 5 1, 3) := by decide +kernel
theorem dX9_liked_93 : decode cX9_liked 93 = .ok (.goto (-56), 3) := by decide +kernel
theorem dX9_liked_96 : decode cX9_liked 96 = .ok (.iinc 4 1, 3) := by decide +kernel
theorem dX9_liked_99 : decode cX9_liked 99 = .ok (.goto (-80), 3) := by decide +kernel
theorem dX9_liked_102 : decode cX9_liked 102 = .ok (.iload_n 1, 1) := by decide +kernel
theorem dX9_liked_103 : decode cX9_liked 103 = .ok (.ifCond .ne 7, 3) := by decide +kernel
theorem dX9_liked_106 : decode cX9_liked 106 = .ok (.iload_n 2, 1) := by decide +kernel
theorem dX9_liked_107 : decode cX9_liked 107 = .ok (.goto 4, 3) := by decide +kernel
theorem dX9_liked_110 : decode cX9_liked 110 = .ok (.iload_n 3, 1) := by decide +kernel
theorem dX9_liked_111 : decode cX9_liked 111 = .ok (.ireturn, 1) := by decide +kernel
theorem dX9_most_0 : decode cX9_most 0 = .ok (.iconst 0, 1) := by decide +kernel
theorem dX9_most_1 : decode cX9_most 1 = .ok (.istore_n 1, 1) := by decide +kernel
theorem dX9_most_2 : decode cX9_most 2 = .ok (.iconst 0, 1) := by decide +kernel
theorem dX9_most_3 : decode cX9_most 3 = .ok (.istore_n 2, 1) := by decide +kernel
theorem dX9_most_4 : decode cX9_most 4 = .ok (.iload_n 2, 1) := by decide +kernel
theorem dX9_most_5 : decode cX9_most 5 = .ok (.aload_n 0, 1) := by decide +kernel
theorem dX9_most_6 : decode cX9_most 6 = .ok (.getfield 35, 3) := by decide +kernel
theorem dX9_most_9 : decode cX9_most 9 = .ok (.getfield 249, 3) := by decide +kernel
theorem dX9_most_12 : decode cX9_most 12 = .ok (.if_icmp .ge 30, 3) := by decide +kernel
theorem dX9_most_15 : decode cX9_most 15 = .ok (.iload_n 1, 1) := by decide +kernel
theorem dX9_most_16 : decode cX9_most 16 = .ok (.aload_n 0, 1) := by decide +kernel
theorem dX9_most_17 : decode cX9_most 17 = .ok (.getfield 29, 3) := by decide +kernel
theorem dX9_most_20 : decode cX9_most 20 = .ok (.aload_n 0, 1) := by decide +kernel
theorem dX9_most_21 : decode cX9_most 21 = .ok (.getfield 35, 3) := by decide +kernel
theorem dX9_most_24 : decode cX9_most 24 = .ok (.iload_n 2, 1) := by decide +kernel
theorem dX9_most_25 : decode cX9_most 25 = .ok (.invokevirtual 250, 3) := by decide +kernel
theorem dX9_most_28 : decode cX9_most 28 = .ok (.iconst 0, 1) := by decide +kernel
theorem dX9_most_29 : decode cX9_most 29 = .ok (.invokevirtual 196, 3) := by decide +kernel
theorem dX9_most_32 : decode cX9_most 32 = .ok (.invokestatic 253, 3) := by decide +kernel
theorem dX9_most_35 : decode cX9_most 35 = .ok (.istore_n 1, 1) := by decide +kernel
theorem dX9_most_36 : decode cX9_most 36 = .ok (.iinc 2 1, 3) := by decide +kernel
theorem dX9_most_39 : decode cX9_most 39 = .ok (.goto (-35), 3) := by decide +kernel
theorem dX9_most_42 : decode cX9_most 42 = .ok (.iload_n 1, 1) := by decide +kernel
theorem dX9_most_43 : decode cX9_most 43 = .ok (.ireturn, 1) := by decide +kernel
theorem dX9_seats_0 : decode cX9_seats 0 = .ok (.aload_n 0, 1) := by decide +kernel
theorem dX9_seats_1 : decode cX9_seats 1 = .ok (.invokevirtual 199, 3) := by decide +kernel
theorem dX9_seats_4 : decode cX9_seats 4 = .ok (.aload_n 0, 1) := by decide +kernel
theorem dX9_seats_5 : decode cX9_seats 5 = .ok (.getfield 69, 3) := by decide +kernel
theorem dX9_seats_8 : decode cX9_seats 8 = .ok (.invokevirtual 258, 3) := by decide +kernel
theorem dX9_seats_11 : decode cX9_seats 11 = .ok (.ireturn, 1) := by decide +kernel
theorem dX9_went_0 : decode cX9_went 0 = .ok (.iload_n 1, 1) := by decide +kernel
theorem dX9_went_1 : decode cX9_went 1 = .ok (.ifCond .lt 9, 3) := by decide +kernel
theorem dX9_went_4 : decode cX9_went 4 = .ok (.iload_n 1, 1) := by decide +kernel
theorem dX9_went_5 : decode cX9_went 5 = .ok (.bipush 8, 2) := by decide +kernel
theorem dX9_went_7 : decode cX9_went 7 = .ok (.if_icmp .le 7, 3) := by decide +kernel
theorem dX9_went_10 : decode cX9_went 10 = .ok (.ldc2_w 228, 3) := by decide +kernel
theorem dX9_went_13 : decode cX9_went 13 = .ok (.lreturn, 1) := by decide +kernel
theorem dX9_went_14 : decode cX9_went 14 = .ok (.aload_n 0, 1) := by decide +kernel
theorem dX9_went_15 : decode cX9_went 15 = .ok (.getfield 60, 3) := by decide +kernel
theorem dX9_went_18 : decode cX9_went 18 = .ok (.aload_n 0, 1) := by decide +kernel
theorem dX9_went_19 : decode cX9_went 19 = .ok (.getfield 35, 3) := by decide +kernel
theorem dX9_went_22 : decode cX9_went 22 = .ok (.aload_n 0, 1) := by decide +kernel
theorem dX9_went_23 : decode cX9_went 23 = .ok (.getfield 29, 3) := by decide +kernel
theorem dX9_went_26 : decode cX9_went 26 = .ok (.getfield 125, 3) := by decide +kernel
theorem dX9_went_29 : decode cX9_went 29 = .ok (.invokevirtual 211, 3) := by decide +kernel
theorem dX9_went_32 : decode cX9_went 32 = .ok (.aload_n 0, 1) := by decide +kernel
theorem dX9_went_33 : decode cX9_went 33 = .ok (.getfield 35, 3) := by decide +kernel
theorem dX9_went_36 : decode cX9_went 36 = .ok (.aload_n 0, 1) := by decide +kernel
theorem dX9_went_37 : decode cX9_went 37 = .ok (.getfield 76, 3) := by decide +kernel
theorem dX9_went_40 : decode cX9_went 40 = .ok (.getfield 137, 3) := by decide +kernel
theorem dX9_went_43 : decode cX9_went 43 = .ok (.invokevirtual 211, 3) := by decide +kernel
theorem dX9_went_46 : decode cX9_went 46 = .ok (.iload_n 1, 1) := by decide +kernel
theorem dX9_went_47 : decode cX9_went 47 = .ok (.invokevirtual 261, 3) := by decide +kernel
theorem dX9_went_50 : decode cX9_went 50 = .ok (.lreturn, 1) := by decide +kernel
theorem dX9_drawn_0 : decode cX9_drawn 0 = .ok (.iload_n 1, 1) := by decide +kernel
theorem dX9_drawn_1 : decode cX9_drawn 1 = .ok (.ifCond .lt 34, 3) := by decide +kernel
theorem dX9_drawn_4 : decode cX9_drawn 4 = .ok (.iload_n 1, 1) := by decide +kernel
theorem dX9_drawn_5 : decode cX9_drawn 5 = .ok (.sipush 9999, 3) := by decide +kernel
theorem dX9_drawn_8 : decode cX9_drawn 8 = .ok (.if_icmp .gt 27, 3) := by decide +kernel
theorem dX9_drawn_11 : decode cX9_drawn 11 = .ok (.iload_n 2, 1) := by decide +kernel
theorem dX9_drawn_12 : decode cX9_drawn 12 = .ok (.iconst 1, 1) := by decide +kernel
theorem dX9_drawn_13 : decode cX9_drawn 13 = .ok (.if_icmp .lt 22, 3) := by decide +kernel
theorem dX9_drawn_16 : decode cX9_drawn 16 = .ok (.iload_n 2, 1) := by decide +kernel
theorem dX9_drawn_17 : decode cX9_drawn 17 = .ok (.bipush 60, 2) := by decide +kernel
theorem dX9_drawn_19 : decode cX9_drawn 19 = .ok (.if_icmp .gt 16, 3) := by decide +kernel
theorem dX9_drawn_22 : decode cX9_drawn 22 = .ok (.iload_n 3, 1) := by decide +kernel
theorem dX9_drawn_23 : decode cX9_drawn 23 = .ok (.iconst (-1), 1) := by decide +kernel
theorem dX9_drawn_24 : decode cX9_drawn 24 = .ok (.if_icmp .eq 13, 3) := by decide +kernel
theorem dX9_drawn_27 : decode cX9_drawn 27 = .ok (.aload_n 0, 1) := by decide +kernel
theorem dX9_drawn_28 : decode cX9_drawn 28 = .ok (.iload_n 3, 1) := by decide +kernel
theorem dX9_drawn_29 : decode cX9_drawn 29 = .ok (.invokevirtual 171, 3) := by decide +kernel
theorem dX9_drawn_32 : decode cX9_drawn 32 = .ok (.ifCond .ne 5, 3) := by decide +kernel
theorem dX9_drawn_35 : decode cX9_drawn 35 = .ok (.iconst (-1), 1) := by decide +kernel
theorem dX9_drawn_36 : decode cX9_drawn 36 = .ok (.ireturn, 1) := by decide +kernel
theorem dX9_drawn_37 : decode cX9_drawn 37 = .ok (.aload_n 0, 1) := by decide +kernel
theorem dX9_drawn_38 : decode cX9_drawn 38 = .ok (.getfield 76, 3) := by decide +kernel
theorem dX9_drawn_41 : decode cX9_drawn 41 = .ok (.getfield 137, 3) := by decide +kernel
theorem dX9_drawn_44 : decode cX9_drawn 44 = .ok (.istore 4, 2) := by decide +kernel
theorem dX9_drawn_46 : decode cX9_drawn 46 = .ok (.iconst 0, 1) := by decide +kernel
theorem dX9_drawn_47 : decode cX9_drawn 47 = .ok (.istore 5, 2) := by decide +kernel
theorem dX9_drawn_49 : decode cX9_drawn 49 = .ok (.iconst 0, 1) := by decide +kernel
theorem dX9_drawn_50 : decode cX9_drawn 50 = .ok (.istore 6, 2) := by decide +kernel
theorem dX9_drawn_52 : decode cX9_drawn 52 = .ok (.iload 6, 2) := by decide +kernel
theorem dX9_drawn_54 : decode cX9_drawn 54 = .ok (.iload_n 2, 1) := by decide +kernel
theorem dX9_drawn_55 : decode cX9_drawn 55 = .ok (.if_icmp .ge 76, 3) := by decide +kernel
theorem dX9_drawn_58 : decode cX9_drawn 58 = .ok (.iload_n 1, 1) := by decide +kernel
theorem dX9_drawn_59 : decode cX9_drawn 59 = .ok (.iload 6, 2) := by decide +kernel
theorem dX9_drawn_61 : decode cX9_drawn 61 = .ok (.invokestatic 265, 3) := by decide +kernel
theorem dX9_drawn_64 : decode cX9_drawn 64 = .ok (.istore 7, 2) := by decide +kernel
theorem dX9_drawn_66 : decode cX9_drawn 66 = .ok (.aload_n 0, 1) := by decide +kernel
theorem dX9_drawn_67 : decode cX9_drawn 67 = .ok (.getfield 29, 3) := by decide +kernel
theorem dX9_drawn_70 : decode cX9_drawn 70 = .ok (.iload 7, 2) := by decide +kernel
theorem dX9_drawn_72 : decode cX9_drawn 72 = .ok (.invokevirtual 268, 3) := by decide +kernel
theorem dX9_drawn_75 : decode cX9_drawn 75 = .ok (.istore 8, 2) := by decide +kernel
theorem dX9_drawn_77 : decode cX9_drawn 77 = .ok (.aload_n 0, 1) := by decide +kernel
theorem dX9_drawn_78 : decode cX9_drawn 78 = .ok (.getfield 29, 3) := by decide +kernel
theorem dX9_drawn_81 : decode cX9_drawn 81 = .ok (.iload 7, 2) := by decide +kernel
theorem dX9_drawn_83 : decode cX9_drawn 83 = .ok (.bipush 8, 2) := by decide +kernel
theorem dX9_drawn_85 : decode cX9_drawn 85 = .ok (.idiv, 1) := by decide +kernel
theorem dX9_drawn_86 : decode cX9_drawn 86 = .ok (.invokevirtual 268, 3) := by decide +kernel
theorem dX9_drawn_89 : decode cX9_drawn 89 = .ok (.istore 9, 2) := by decide +kernel
theorem dX9_drawn_91 : decode cX9_drawn 91 = .ok (.aload_n 0, 1) := by decide +kernel
theorem dX9_drawn_92 : decode cX9_drawn 92 = .ok (.getfield 29, 3) := by decide +kernel
theorem dX9_drawn_95 : decode cX9_drawn 95 = .ok (.iload 4, 2) := by decide +kernel
theorem dX9_drawn_97 : decode cX9_drawn 97 = .ok (.iload 8, 2) := by decide +kernel
theorem dX9_drawn_99 : decode cX9_drawn 99 = .ok (.iload 9, 2) := by decide +kernel
theorem dX9_drawn_101 : decode cX9_drawn 101 = .ok (.invokevirtual 182, 3) := by decide +kernel
theorem dX9_drawn_104 : decode cX9_drawn 104 = .ok (.ifCond .eq 21, 3) := by decide +kernel
theorem dX9_drawn_107 : decode cX9_drawn 107 = .ok (.aload_n 0, 1) := by decide +kernel
theorem dX9_drawn_108 : decode cX9_drawn 108 = .ok (.getfield 29, 3) := by decide +kernel
theorem dX9_drawn_111 : decode cX9_drawn 111 = .ok (.iload 4, 2) := by decide +kernel
theorem dX9_drawn_113 : decode cX9_drawn 113 = .ok (.iload 8, 2) := by decide +kernel
theorem dX9_drawn_115 : decode cX9_drawn 115 = .ok (.iload 9, 2) := by decide +kernel
theorem dX9_drawn_117 : decode cX9_drawn 117 = .ok (.invokevirtual 190, 3) := by decide +kernel
theorem dX9_drawn_120 : decode cX9_drawn 120 = .ok (.istore 4, 2) := by decide +kernel
theorem dX9_drawn_122 : decode cX9_drawn 122 = .ok (.iinc 5 1, 3) := by decide +kernel
theorem dX9_drawn_125 : decode cX9_drawn 125 = .ok (.iinc 6 1, 3) := by decide +kernel
theorem dX9_drawn_128 : decode cX9_drawn 128 = .ok (.goto (-76), 3) := by decide +kernel
theorem dX9_drawn_131 : decode cX9_drawn 131 = .ok (.iload_n 3, 1) := by decide +kernel
theorem dX9_drawn_132 : decode cX9_drawn 132 = .ok (.iconst (-1), 1) := by decide +kernel
theorem dX9_drawn_133 : decode cX9_drawn 133 = .ok (.if_icmp .ne 6, 3) := by decide +kernel
theorem dX9_drawn_136 : decode cX9_drawn 136 = .ok (.iload 5, 2) := by decide +kernel
theorem dX9_drawn_138 : decode cX9_drawn 138 = .ok (.ireturn, 1) := by decide +kernel
theorem dX9_drawn_139 : decode cX9_drawn 139 = .ok (.iload 4, 2) := by decide +kernel
theorem dX9_drawn_141 : decode cX9_drawn 141 = .ok (.iload_n 3, 1) := by decide +kernel
theorem dX9_drawn_142 : decode cX9_drawn 142 = .ok (.invokestatic 208, 3) := by decide +kernel
theorem dX9_drawn_145 : decode cX9_drawn 145 = .ok (.istore 6, 2) := by decide +kernel
theorem dX9_drawn_147 : decode cX9_drawn 147 = .ok (.iload 6, 2) := by decide +kernel
theorem dX9_drawn_149 : decode cX9_drawn 149 = .ok (.ifCond .ge 8, 3) := by decide +kernel
theorem dX9_drawn_152 : decode cX9_drawn 152 = .ok (.bipush (-4), 2) := by decide +kernel
theorem dX9_drawn_154 : decode cX9_drawn 154 = .ok (.goto 5, 3) := by decide +kernel
theorem dX9_drawn_157 : decode cX9_drawn 157 = .ok (.iload 6, 2) := by decide +kernel
theorem dX9_drawn_159 : decode cX9_drawn 159 = .ok (.ireturn, 1) := by decide +kernel
theorem dX9_keep_0 : decode cX9_keep 0 = .ok (.aload_n 0, 1) := by decide +kernel
theorem dX9_keep_1 : decode cX9_keep 1 = .ok (.getfield 89, 3) := by decide +kernel
theorem dX9_keep_4 : decode cX9_keep 4 = .ok (.getfield 151, 3) := by decide +kernel
theorem dX9_keep_7 : decode cX9_keep 7 = .ok (.iconst 2, 1) := by decide +kernel
theorem dX9_keep_8 : decode cX9_keep 8 = .ok (.if_icmp .lt 6, 3) := by decide +kernel
theorem dX9_keep_11 : decode cX9_keep 11 = .ok (.bipush (-3), 2) := by decide +kernel
theorem dX9_keep_13 : decode cX9_keep 13 = .ok (.ireturn, 1) := by decide +kernel
theorem dX9_keep_14 : decode cX9_keep 14 = .ok (.aload_n 0, 1) := by decide +kernel
theorem dX9_keep_15 : decode cX9_keep 15 = .ok (.getfield 89, 3) := by decide +kernel
theorem dX9_keep_18 : decode cX9_keep 18 = .ok (.aload_n 0, 1) := by decide +kernel
theorem dX9_keep_19 : decode cX9_keep 19 = .ok (.getfield 76, 3) := by decide +kernel
theorem dX9_keep_22 : decode cX9_keep 22 = .ok (.invokevirtual 186, 3) := by decide +kernel
theorem dX9_keep_25 : decode cX9_keep 25 = .ok (.aload_n 0, 1) := by decide +kernel
theorem dX9_keep_26 : decode cX9_keep 26 = .ok (.getfield 89, 3) := by decide +kernel
theorem dX9_keep_29 : decode cX9_keep 29 = .ok (.getfield 151, 3) := by decide +kernel
theorem dX9_keep_32 : decode cX9_keep 32 = .ok (.ireturn, 1) := by decide +kernel
theorem dX9_back_0 : decode cX9_back 0 = .ok (.aload_n 0, 1) := by decide +kernel
theorem dX9_back_1 : decode cX9_back 1 = .ok (.getfield 89, 3) := by decide +kernel
theorem dX9_back_4 : decode cX9_back 4 = .ok (.getfield 151, 3) := by decide +kernel
theorem dX9_back_7 : decode cX9_back 7 = .ok (.ifCond .ne 6, 3) := by decide +kernel
theorem dX9_back_10 : decode cX9_back 10 = .ok (.bipush (-2), 2) := by decide +kernel
theorem dX9_back_12 : decode cX9_back 12 = .ok (.ireturn, 1) := by decide +kernel
theorem dX9_back_13 : decode cX9_back 13 = .ok (.aload_n 0, 1) := by decide +kernel
theorem dX9_back_14 : decode cX9_back 14 = .ok (.getfield 89, 3) := by decide +kernel
theorem dX9_back_17 : decode cX9_back 17 = .ok (.aload_n 0, 1) := by decide +kernel
theorem dX9_back_18 : decode cX9_back 18 = .ok (.getfield 76, 3) := by decide +kernel
theorem dX9_back_21 : decode cX9_back 21 = .ok (.invokevirtual 193, 3) := by decide +kernel
theorem dX9_back_24 : decode cX9_back 24 = .ok (.aload_n 0, 1) := by decide +kernel
theorem dX9_back_25 : decode cX9_back 25 = .ok (.getfield 85, 3) := by decide +kernel
theorem dX9_back_28 : decode cX9_back 28 = .ok (.iconst 0, 1) := by decide +kernel
theorem dX9_back_29 : decode cX9_back 29 = .ok (.putfield 151, 3) := by decide +kernel
theorem dX9_back_32 : decode cX9_back 32 = .ok (.aload_n 0, 1) := by decide +kernel
theorem dX9_back_33 : decode cX9_back 33 = .ok (.getfield 89, 3) := by decide +kernel
theorem dX9_back_36 : decode cX9_back 36 = .ok (.getfield 151, 3) := by decide +kernel
theorem dX9_back_39 : decode cX9_back 39 = .ok (.ireturn, 1) := by decide +kernel
theorem dX9_count_0 : decode cX9_count 0 = .ok (.iload_n 1, 1) := by decide +kernel
theorem dX9_count_1 : decode cX9_count 1 = .ok (.tableswitch 96 0 6 #[43, 51, 59, 67, 75, 83, 88], 43) := by decide +kernel
theorem dX9_count_44 : decode cX9_count 44 = .ok (.aload_n 0, 1) := by decide +kernel
theorem dX9_count_45 : decode cX9_count 45 = .ok (.getfield 29, 3) := by decide +kernel
theorem dX9_count_48 : decode cX9_count 48 = .ok (.getfield 118, 3) := by decide +kernel
theorem dX9_count_51 : decode cX9_count 51 = .ok (.ireturn, 1) := by decide +kernel
theorem dX9_count_52 : decode cX9_count 52 = .ok (.aload_n 0, 1) := by decide +kernel
theorem dX9_count_53 : decode cX9_count 53 = .ok (.getfield 29, 3) := by decide +kernel
theorem dX9_count_56 : decode cX9_count 56 = .ok (.getfield 271, 3) := by decide +kernel
theorem dX9_count_59 : decode cX9_count 59 = .ok (.ireturn, 1) := by decide +kernel
theorem dX9_count_60 : decode cX9_count 60 = .ok (.aload_n 0, 1) := by decide +kernel
theorem dX9_count_61 : decode cX9_count 61 = .ok (.getfield 76, 3) := by decide +kernel
theorem dX9_count_64 : decode cX9_count 64 = .ok (.getfield 148, 3) := by decide +kernel
theorem dX9_count_67 : decode cX9_count 67 = .ok (.ireturn, 1) := by decide +kernel
theorem dX9_count_68 : decode cX9_count 68 = .ok (.aload_n 0, 1) := by decide +kernel
theorem dX9_count_69 : decode cX9_count 69 = .ok (.getfield 85, 3) := by decide +kernel
theorem dX9_count_72 : decode cX9_count 72 = .ok (.getfield 151, 3) := by decide +kernel
theorem dX9_count_75 : decode cX9_count 75 = .ok (.ireturn, 1) := by decide +kernel
theorem dX9_count_76 : decode cX9_count 76 = .ok (.aload_n 0, 1) := by decide +kernel
theorem dX9_count_77 : decode cX9_count 77 = .ok (.getfield 89, 3) := by decide +kernel
theorem dX9_count_80 : decode cX9_count 80 = .ok (.getfield 151, 3) := by decide +kernel
theorem dX9_count_83 : decode cX9_count 83 = .ok (.ireturn, 1) := by decide +kernel
theorem dX9_count_84 : decode cX9_count 84 = .ok (.aload_n 0, 1) := by decide +kernel
theorem dX9_count_85 : decode cX9_count 85 = .ok (.getfield 104, 3) := by decide +kernel
theorem dX9_count_88 : decode cX9_count 88 = .ok (.ireturn, 1) := by decide +kernel
theorem dX9_count_89 : decode cX9_count 89 = .ok (.aload_n 0, 1) := by decide +kernel
theorem dX9_count_90 : decode cX9_count 90 = .ok (.getfield 29, 3) := by decide +kernel
theorem dX9_count_93 : decode cX9_count 93 = .ok (.getfield 274, 3) := by decide +kernel
theorem dX9_count_96 : decode cX9_count 96 = .ok (.ireturn, 1) := by decide +kernel
theorem dX9_count_97 : decode cX9_count 97 = .ok (.iconst (-1), 1) := by decide +kernel
theorem dX9_count_98 : decode cX9_count 98 = .ok (.ireturn, 1) := by decide +kernel
theorem dX9_lookAhead_0 : decode cX9_lookAhead 0 = .ok (.aload_n 0, 1) := by decide +kernel
theorem dX9_lookAhead_1 : decode cX9_lookAhead 1 = .ok (.getfield 53, 3) := by decide +kernel
theorem dX9_lookAhead_4 : decode cX9_lookAhead 4 = .ok (.aload_n 0, 1) := by decide +kernel
theorem dX9_lookAhead_5 : decode cX9_lookAhead 5 = .ok (.getfield 35, 3) := by decide +kernel
theorem dX9_lookAhead_8 : decode cX9_lookAhead 8 = .ok (.aload_n 0, 1) := by decide +kernel
theorem dX9_lookAhead_9 : decode cX9_lookAhead 9 = .ok (.getfield 76, 3) := by decide +kernel
theorem dX9_lookAhead_12 : decode cX9_lookAhead 12 = .ok (.getfield 137, 3) := by decide +kernel
theorem dX9_lookAhead_15 : decode cX9_lookAhead 15 = .ok (.invokevirtual 211, 3) := by decide +kernel
theorem dX9_lookAhead_18 : decode cX9_lookAhead 18 = .ok (.invokevirtual 277, 3) := by decide +kernel
theorem dX9_lookAhead_21 : decode cX9_lookAhead 21 = .ok (.return_, 1) := by decide +kernel
theorem dX9_isGuest_0 : decode cX9_isGuest 0 = .ok (.iload_n 1, 1) := by decide +kernel
theorem dX9_isGuest_1 : decode cX9_isGuest 1 = .ok (.ifCond .lt 18, 3) := by decide +kernel
theorem dX9_isGuest_4 : decode cX9_isGuest 4 = .ok (.iload_n 1, 1) := by decide +kernel
theorem dX9_isGuest_5 : decode cX9_isGuest 5 = .ok (.aload_n 0, 1) := by decide +kernel
theorem dX9_isGuest_6 : decode cX9_isGuest 6 = .ok (.getfield 29, 3) := by decide +kernel
theorem dX9_isGuest_9 : decode cX9_isGuest 9 = .ok (.getfield 118, 3) := by decide +kernel
theorem dX9_isGuest_12 : decode cX9_isGuest 12 = .ok (.if_icmp .ge 7, 3) := by decide +kernel
theorem dX9_isGuest_15 : decode cX9_isGuest 15 = .ok (.iconst 1, 1) := by decide +kernel
theorem dX9_isGuest_16 : decode cX9_isGuest 16 = .ok (.goto 4, 3) := by decide +kernel
theorem dX9_isGuest_19 : decode cX9_isGuest 19 = .ok (.iconst 0, 1) := by decide +kernel
theorem dX9_isGuest_20 : decode cX9_isGuest 20 = .ok (.ireturn, 1) := by decide +kernel
theorem dX9_isDish_0 : decode cX9_isDish 0 = .ok (.iload_n 1, 1) := by decide +kernel
theorem dX9_isDish_1 : decode cX9_isDish 1 = .ok (.ifCond .lt 18, 3) := by decide +kernel
theorem dX9_isDish_4 : decode cX9_isDish 4 = .ok (.iload_n 1, 1) := by decide +kernel
theorem dX9_isDish_5 : decode cX9_isDish 5 = .ok (.aload_n 0, 1) := by decide +kernel
theorem dX9_isDish_6 : decode cX9_isDish 6 = .ok (.getfield 29, 3) := by decide +kernel
theorem dX9_isDish_9 : decode cX9_isDish 9 = .ok (.getfield 271, 3) := by decide +kernel
theorem dX9_isDish_12 : decode cX9_isDish 12 = .ok (.if_icmp .ge 7, 3) := by decide +kernel
theorem dX9_isDish_15 : decode cX9_isDish 15 = .ok (.iconst 1, 1) := by decide +kernel
theorem dX9_isDish_16 : decode cX9_isDish 16 = .ok (.goto 4, 3) := by decide +kernel
theorem dX9_isDish_19 : decode cX9_isDish 19 = .ok (.iconst 0, 1) := by decide +kernel
theorem dX9_isDish_20 : decode cX9_isDish 20 = .ok (.ireturn, 1) := by decide +kernel
theorem dX9_dishOrNone_0 : decode cX9_dishOrNone 0 = .ok (.aload_n 0, 1) := by decide +kernel
theorem dX9_dishOrNone_1 : decode cX9_dishOrNone 1 = .ok (.getfield 76, 3) := by decide +kernel
theorem dX9_dishOrNone_4 : decode cX9_dishOrNone 4 = .ok (.getfield 137, 3) := by decide +kernel
theorem dX9_dishOrNone_7 : decode cX9_dishOrNone 7 = .ok (.iload_n 1, 1) := by decide +kernel
theorem dX9_dishOrNone_8 : decode cX9_dishOrNone 8 = .ok (.invokestatic 280, 3) := by decide +kernel
theorem dX9_dishOrNone_11 : decode cX9_dishOrNone 11 = .ok (.istore_n 2, 1) := by decide +kernel
theorem dX9_dishOrNone_12 : decode cX9_dishOrNone 12 = .ok (.iload_n 2, 1) := by decide +kernel
theorem dX9_dishOrNone_13 : decode cX9_dishOrNone 13 = .ok (.bipush 7, 2) := by decide +kernel
theorem dX9_dishOrNone_15 : decode cX9_dishOrNone 15 = .ok (.if_icmp .ne 8, 3) := by decide +kernel
theorem dX9_dishOrNone_18 : decode cX9_dishOrNone 18 = .ok (.bipush (-4), 2) := by decide +kernel
theorem dX9_dishOrNone_20 : decode cX9_dishOrNone 20 = .ok (.goto 4, 3) := by decide +kernel
theorem dX9_dishOrNone_23 : decode cX9_dishOrNone 23 = .ok (.iload_n 2, 1) := by decide +kernel
theorem dX9_dishOrNone_24 : decode cX9_dishOrNone 24 = .ok (.ireturn, 1) := by decide +kernel
theorem dX9_drawOf_0 : decode cX9_drawOf 0 = .ok (.ldc2_w 283, 3) := by decide +kernel
theorem dX9_drawOf_3 : decode cX9_drawOf 3 = .ok (.iload_n 0, 1) := by decide +kernel
theorem dX9_drawOf_4 : decode cX9_drawOf 4 = .ok (.i2l, 1) := by decide +kernel
theorem dX9_drawOf_5 : decode cX9_drawOf 5 = .ok (.lmul, 1) := by decide +kernel
theorem dX9_drawOf_6 : decode cX9_drawOf 6 = .ok (.ldc2_w 285, 3) := by decide +kernel
theorem dX9_drawOf_9 : decode cX9_drawOf 9 = .ok (.iload_n 1, 1) := by decide +kernel
theorem dX9_drawOf_10 : decode cX9_drawOf 10 = .ok (.i2l, 1) := by decide +kernel
theorem dX9_drawOf_11 : decode cX9_drawOf 11 = .ok (.lmul, 1) := by decide +kernel
theorem dX9_drawOf_12 : decode cX9_drawOf 12 = .ok (.ladd, 1) := by decide +kernel
theorem dX9_drawOf_13 : decode cX9_drawOf 13 = .ok (.lconst 1, 1) := by decide +kernel
theorem dX9_drawOf_14 : decode cX9_drawOf 14 = .ok (.ladd, 1) := by decide +kernel
theorem dX9_drawOf_15 : decode cX9_drawOf 15 = .ok (.lstore_n 2, 1) := by decide +kernel
theorem dX9_drawOf_16 : decode cX9_drawOf 16 = .ok (.lload_n 2, 1) := by decide +kernel
theorem dX9_drawOf_17 : decode cX9_drawOf 17 = .ok (.lload_n 2, 1) := by decide +kernel
theorem dX9_drawOf_18 : decode cX9_drawOf 18 = .ok (.lmul, 1) := by decide +kernel
theorem dX9_drawOf_19 : decode cX9_drawOf 19 = .ok (.ldc2_w 287, 3) := by decide +kernel
theorem dX9_drawOf_22 : decode cX9_drawOf 22 = .ok (.lrem, 1) := by decide +kernel
theorem dX9_drawOf_23 : decode cX9_drawOf 23 = .ok (.l2i, 1) := by decide +kernel
theorem dX9_drawOf_24 : decode cX9_drawOf 24 = .ok (.ireturn, 1) := by decide +kernel
theorem dX9_at_0 : decode cX9_at 0 = .ok (.iload_n 1, 1) := by decide +kernel
theorem dX9_at_1 : decode cX9_at 1 = .ok (.ifCond .lt 15, 3) := by decide +kernel
theorem dX9_at_4 : decode cX9_at 4 = .ok (.iload_n 1, 1) := by decide +kernel
theorem dX9_at_5 : decode cX9_at 5 = .ok (.aload_n 0, 1) := by decide +kernel
theorem dX9_at_6 : decode cX9_at 6 = .ok (.arraylength, 1) := by decide +kernel
theorem dX9_at_7 : decode cX9_at 7 = .ok (.if_icmp .ge 9, 3) := by decide +kernel
theorem dX9_at_10 : decode cX9_at 10 = .ok (.aload_n 0, 1) := by decide +kernel
theorem dX9_at_11 : decode cX9_at 11 = .ok (.iload_n 1, 1) := by decide +kernel
theorem dX9_at_12 : decode cX9_at 12 = .ok (.iaload, 1) := by decide +kernel
theorem dX9_at_13 : decode cX9_at 13 = .ok (.goto 4, 3) := by decide +kernel
theorem dX9_at_16 : decode cX9_at 16 = .ok (.iconst 0, 1) := by decide +kernel
theorem dX9_at_17 : decode cX9_at 17 = .ok (.ireturn, 1) := by decide +kernel
theorem dX9_put_0 : decode cX9_put 0 = .ok (.iload_n 1, 1) := by decide +kernel
theorem dX9_put_1 : decode cX9_put 1 = .ok (.ifCond .lt 13, 3) := by decide +kernel
theorem dX9_put_4 : decode cX9_put 4 = .ok (.iload_n 1, 1) := by decide +kernel
theorem dX9_put_5 : decode cX9_put 5 = .ok (.aload_n 0, 1) := by decide +kernel
theorem dX9_put_6 : decode cX9_put 6 = .ok (.arraylength, 1) := by decide +kernel
theorem dX9_put_7 : decode cX9_put 7 = .ok (.if_icmp .ge 7, 3) := by decide +kernel
theorem dX9_put_10 : decode cX9_put 10 = .ok (.aload_n 0, 1) := by decide +kernel
theorem dX9_put_11 : decode cX9_put 11 = .ok (.iload_n 1, 1) := by decide +kernel
theorem dX9_put_12 : decode cX9_put 12 = .ok (.iload_n 2, 1) := by decide +kernel
theorem dX9_put_13 : decode cX9_put 13 = .ok (.iastore, 1) := by decide +kernel
theorem dX9_put_14 : decode cX9_put 14 = .ok (.return_, 1) := by decide +kernel
theorem dX9_before_0 : decode cX9_before 0 = .ok (.iload_n 0, 1) := by decide +kernel
theorem dX9_before_1 : decode cX9_before 1 = .ok (.iconst 3, 1) := by decide +kernel
theorem dX9_before_2 : decode cX9_before 2 = .ok (.iload_n 1, 1) := by decide +kernel
theorem dX9_before_3 : decode cX9_before 3 = .ok (.imul, 1) := by decide +kernel
theorem dX9_before_4 : decode cX9_before 4 = .ok (.ishr, 1) := by decide +kernel
theorem dX9_before_5 : decode cX9_before 5 = .ok (.bipush 7, 2) := by decide +kernel
theorem dX9_before_7 : decode cX9_before 7 = .ok (.iand, 1) := by decide +kernel
theorem dX9_before_8 : decode cX9_before 8 = .ok (.ireturn, 1) := by decide +kernel
theorem dX9_placed_0 : decode cX9_placed 0 = .ok (.iconst 3, 1) := by decide +kernel
theorem dX9_placed_1 : decode cX9_placed 1 = .ok (.iload_n 1, 1) := by decide +kernel
theorem dX9_placed_2 : decode cX9_placed 2 = .ok (.imul, 1) := by decide +kernel
theorem dX9_placed_3 : decode cX9_placed 3 = .ok (.istore_n 3, 1) := by decide +kernel
theorem dX9_placed_4 : decode cX9_placed 4 = .ok (.iload_n 0, 1) := by decide +kernel
theorem dX9_placed_5 : decode cX9_placed 5 = .ok (.bipush 7, 2) := by decide +kernel
theorem dX9_placed_7 : decode cX9_placed 7 = .ok (.iload_n 3, 1) := by decide +kernel
theorem dX9_placed_8 : decode cX9_placed 8 = .ok (.ishl, 1) := by decide +kernel
theorem dX9_placed_9 : decode cX9_placed 9 = .ok (.iconst (-1), 1) := by decide +kernel
theorem dX9_placed_10 : decode cX9_placed 10 = .ok (.ixor, 1) := by decide +kernel
theorem dX9_placed_11 : decode cX9_placed 11 = .ok (.iand, 1) := by decide +kernel
theorem dX9_placed_12 : decode cX9_placed 12 = .ok (.iload_n 2, 1) := by decide +kernel
theorem dX9_placed_13 : decode cX9_placed 13 = .ok (.iload_n 3, 1) := by decide +kernel
theorem dX9_placed_14 : decode cX9_placed 14 = .ok (.ishl, 1) := by decide +kernel
theorem dX9_placed_15 : decode cX9_placed 15 = .ok (.ior, 1) := by decide +kernel
theorem dX9_placed_16 : decode cX9_placed 16 = .ok (.ireturn, 1) := by decide +kernel
theorem dX9_changed_0 : decode cX9_changed 0 = .ok (.iload_n 0, 1) := by decide +kernel
theorem dX9_changed_1 : decode cX9_changed 1 = .ok (.iconst 3, 1) := by decide +kernel
theorem dX9_changed_2 : decode cX9_changed 2 = .ok (.iload_n 1, 1) := by decide +kernel
theorem dX9_changed_3 : decode cX9_changed 3 = .ok (.imul, 1) := by decide +kernel
theorem dX9_changed_4 : decode cX9_changed 4 = .ok (.ishr, 1) := by decide +kernel
theorem dX9_changed_5 : decode cX9_changed 5 = .ok (.iload_n 0, 1) := by decide +kernel
theorem dX9_changed_6 : decode cX9_changed 6 = .ok (.iconst 3, 1) := by decide +kernel
theorem dX9_changed_7 : decode cX9_changed 7 = .ok (.iload_n 2, 1) := by decide +kernel
theorem dX9_changed_8 : decode cX9_changed 8 = .ok (.imul, 1) := by decide +kernel
theorem dX9_changed_9 : decode cX9_changed 9 = .ok (.ishr, 1) := by decide +kernel
theorem dX9_changed_10 : decode cX9_changed 10 = .ok (.ixor, 1) := by decide +kernel
theorem dX9_changed_11 : decode cX9_changed 11 = .ok (.bipush 7, 2) := by decide +kernel
theorem dX9_changed_13 : decode cX9_changed 13 = .ok (.iand, 1) := by decide +kernel
theorem dX9_changed_14 : decode cX9_changed 14 = .ok (.istore_n 3, 1) := by decide +kernel
theorem dX9_changed_15 : decode cX9_changed 15 = .ok (.iload_n 0, 1) := by decide +kernel
theorem dX9_changed_16 : decode cX9_changed 16 = .ok (.iload_n 3, 1) := by decide +kernel
theorem dX9_changed_17 : decode cX9_changed 17 = .ok (.iconst 3, 1) := by decide +kernel
theorem dX9_changed_18 : decode cX9_changed 18 = .ok (.iload_n 1, 1) := by decide +kernel
theorem dX9_changed_19 : decode cX9_changed 19 = .ok (.imul, 1) := by decide +kernel
theorem dX9_changed_20 : decode cX9_changed 20 = .ok (.ishl, 1) := by decide +kernel
theorem dX9_changed_21 : decode cX9_changed 21 = .ok (.ixor, 1) := by decide +kernel
theorem dX9_changed_22 : decode cX9_changed 22 = .ok (.iload_n 3, 1) := by decide +kernel
theorem dX9_changed_23 : decode cX9_changed 23 = .ok (.iconst 3, 1) := by decide +kernel
theorem dX9_changed_24 : decode cX9_changed 24 = .ok (.iload_n 2, 1) := by decide +kernel
theorem dX9_changed_25 : decode cX9_changed 25 = .ok (.imul, 1) := by decide +kernel
theorem dX9_changed_26 : decode cX9_changed 26 = .ok (.ishl, 1) := by decide +kernel
theorem dX9_changed_27 : decode cX9_changed 27 = .ok (.ixor, 1) := by decide +kernel
theorem dX9_changed_28 : decode cX9_changed 28 = .ok (.ireturn, 1) := by decide +kernel
theorem dX9_seatOf_0 : decode cX9_seatOf 0 = .ok (.iconst 0, 1) := by decide +kernel
theorem dX9_seatOf_1 : decode cX9_seatOf 1 = .ok (.istore_n 2, 1) := by decide +kernel
theorem dX9_seatOf_2 : decode cX9_seatOf 2 = .ok (.iload_n 2, 1) := by decide +kernel
theorem dX9_seatOf_3 : decode cX9_seatOf 3 = .ok (.bipush 6, 2) := by decide +kernel
theorem dX9_seatOf_5 : decode cX9_seatOf 5 = .ok (.if_icmp .ge 20, 3) := by decide +kernel
theorem dX9_seatOf_8 : decode cX9_seatOf 8 = .ok (.iload_n 0, 1) := by decide +kernel
theorem dX9_seatOf_9 : decode cX9_seatOf 9 = .ok (.iload_n 2, 1) := by decide +kernel
theorem dX9_seatOf_10 : decode cX9_seatOf 10 = .ok (.invokestatic 280, 3) := by decide +kernel
theorem dX9_seatOf_13 : decode cX9_seatOf 13 = .ok (.iload_n 1, 1) := by decide +kernel
theorem dX9_seatOf_14 : decode cX9_seatOf 14 = .ok (.if_icmp .ne 5, 3) := by decide +kernel
theorem dX9_seatOf_17 : decode cX9_seatOf 17 = .ok (.iload_n 2, 1) := by decide +kernel
theorem dX9_seatOf_18 : decode cX9_seatOf 18 = .ok (.ireturn, 1) := by decide +kernel
theorem dX9_seatOf_19 : decode cX9_seatOf 19 = .ok (.iinc 2 1, 3) := by decide +kernel
theorem dX9_seatOf_22 : decode cX9_seatOf 22 = .ok (.goto (-20), 3) := by decide +kernel
theorem dX9_seatOf_25 : decode cX9_seatOf 25 = .ok (.iconst (-1), 1) := by decide +kernel
theorem dX9_seatOf_26 : decode cX9_seatOf 26 = .ok (.ireturn, 1) := by decide +kernel
theorem dX9_pairsOf_0 : decode cX9_pairsOf 0 = .ok (.lconst 0, 1) := by decide +kernel
theorem dX9_pairsOf_1 : decode cX9_pairsOf 1 = .ok (.lstore_n 1, 1) := by decide +kernel
theorem dX9_pairsOf_2 : decode cX9_pairsOf 2 = .ok (.iconst 0, 1) := by decide +kernel
theorem dX9_pairsOf_3 : decode cX9_pairsOf 3 = .ok (.istore_n 3, 1) := by decide +kernel
theorem dX9_pairsOf_4 : decode cX9_pairsOf 4 = .ok (.iload_n 3, 1) := by decide +kernel
theorem dX9_pairsOf_5 : decode cX9_pairsOf 5 = .ok (.bipush 6, 2) := by decide +kernel
theorem dX9_pairsOf_7 : decode cX9_pairsOf 7 = .ok (.if_icmp .ge 34, 3) := by decide +kernel
theorem dX9_pairsOf_10 : decode cX9_pairsOf 10 = .ok (.iload_n 0, 1) := by decide +kernel
theorem dX9_pairsOf_11 : decode cX9_pairsOf 11 = .ok (.iload_n 3, 1) := by decide +kernel
theorem dX9_pairsOf_12 : decode cX9_pairsOf 12 = .ok (.invokestatic 280, 3) := by decide +kernel
theorem dX9_pairsOf_15 : decode cX9_pairsOf 15 = .ok (.istore 4, 2) := by decide +kernel
theorem dX9_pairsOf_17 : decode cX9_pairsOf 17 = .ok (.iload 4, 2) := by decide +kernel
theorem dX9_pairsOf_19 : decode cX9_pairsOf 19 = .ok (.bipush 7, 2) := by decide +kernel
theorem dX9_pairsOf_21 : decode cX9_pairsOf 21 = .ok (.if_icmp .eq 14, 3) := by decide +kernel
theorem dX9_pairsOf_24 : decode cX9_pairsOf 24 = .ok (.lload_n 1, 1) := by decide +kernel
theorem dX9_pairsOf_25 : decode cX9_pairsOf 25 = .ok (.iconst 1, 1) := by decide +kernel
theorem dX9_pairsOf_26 : decode cX9_pairsOf 26 = .ok (.iload 4, 2) := by decide +kernel
theorem dX9_pairsOf_28 : decode cX9_pairsOf 28 = .ok (.ishl, 1) := by decide +kernel
theorem dX9_pairsOf_29 : decode cX9_pairsOf 29 = .ok (.iload_n 3, 1) := by decide +kernel
theorem dX9_pairsOf_30 : decode cX9_pairsOf 30 = .ok (.invokestatic 220, 3) := by decide +kernel
theorem dX9_pairsOf_33 : decode cX9_pairsOf 33 = .ok (.lor, 1) := by decide +kernel
theorem dX9_pairsOf_34 : decode cX9_pairsOf 34 = .ok (.lstore_n 1, 1) := by decide +kernel
theorem dX9_pairsOf_35 : decode cX9_pairsOf 35 = .ok (.iinc 3 1, 3) := by decide +kernel
theorem dX9_pairsOf_38 : decode cX9_pairsOf 38 = .ok (.goto (-34), 3) := by decide +kernel
theorem dX9_pairsOf_41 : decode cX9_pairsOf 41 = .ok (.lload_n 1, 1) := by decide +kernel
theorem dX9_pairsOf_42 : decode cX9_pairsOf 42 = .ok (.lreturn, 1) := by decide +kernel
theorem dX9_shifted_0 : decode cX9_shifted 0 = .ok (.iload_n 0, 1) := by decide +kernel
theorem dX9_shifted_1 : decode cX9_shifted 1 = .ok (.i2l, 1) := by decide +kernel
theorem dX9_shifted_2 : decode cX9_shifted 2 = .ok (.bipush 6, 2) := by decide +kernel
theorem dX9_shifted_4 : decode cX9_shifted 4 = .ok (.iload_n 1, 1) := by decide +kernel
theorem dX9_shifted_5 : decode cX9_shifted 5 = .ok (.imul, 1) := by decide +kernel
theorem dX9_shifted_6 : decode cX9_shifted 6 = .ok (.lshl, 1) := by decide +kernel
theorem dX9_shifted_7 : decode cX9_shifted 7 = .ok (.lreturn, 1) := by decide +kernel
theorem dX9_bitsOf_0 : decode cX9_bitsOf 0 = .ok (.lload_n 0, 1) := by decide +kernel
theorem dX9_bitsOf_1 : decode cX9_bitsOf 1 = .ok (.bipush 6, 2) := by decide +kernel
theorem dX9_bitsOf_3 : decode cX9_bitsOf 3 = .ok (.iload_n 2, 1) := by decide +kernel
theorem dX9_bitsOf_4 : decode cX9_bitsOf 4 = .ok (.imul, 1) := by decide +kernel
theorem dX9_bitsOf_5 : decode cX9_bitsOf 5 = .ok (.lshr, 1) := by decide +kernel
theorem dX9_bitsOf_6 : decode cX9_bitsOf 6 = .ok (.l2i, 1) := by decide +kernel
theorem dX9_bitsOf_7 : decode cX9_bitsOf 7 = .ok (.bipush 63, 2) := by decide +kernel
theorem dX9_bitsOf_9 : decode cX9_bitsOf 9 = .ok (.iand, 1) := by decide +kernel
theorem dX9_bitsOf_10 : decode cX9_bitsOf 10 = .ok (.ireturn, 1) := by decide +kernel
theorem dX10_init_0 : decode cX10_init 0 = .ok (.aload_n 0, 1) := by decide +kernel
theorem dX10_init_1 : decode cX10_init 1 = .ok (.invokespecial 1, 3) := by decide +kernel
theorem dX10_init_4 : decode cX10_init 4 = .ok (.aload_n 0, 1) := by decide +kernel
theorem dX10_init_5 : decode cX10_init 5 = .ok (.bipush 6, 2) := by decide +kernel
theorem dX10_init_7 : decode cX10_init 7 = .ok (.newarray .int, 2) := by decide +kernel
theorem dX10_init_9 : decode cX10_init 9 = .ok (.putfield 7, 3) := by decide +kernel
theorem dX10_init_12 : decode cX10_init 12 = .ok (.aload_n 0, 1) := by decide +kernel
theorem dX10_init_13 : decode cX10_init 13 = .ok (.bipush 6, 2) := by decide +kernel
theorem dX10_init_15 : decode cX10_init 15 = .ok (.newarray .int, 2) := by decide +kernel
theorem dX10_init_17 : decode cX10_init 17 = .ok (.putfield 13, 3) := by decide +kernel
theorem dX10_init_20 : decode cX10_init 20 = .ok (.aload_n 0, 1) := by decide +kernel
theorem dX10_init_21 : decode cX10_init 21 = .ok (.bipush 36, 2) := by decide +kernel
theorem dX10_init_23 : decode cX10_init 23 = .ok (.newarray .int, 2) := by decide +kernel
theorem dX10_init_25 : decode cX10_init 25 = .ok (.putfield 16, 3) := by decide +kernel
theorem dX10_init_28 : decode cX10_init 28 = .ok (.aload_n 0, 1) := by decide +kernel
theorem dX10_init_29 : decode cX10_init 29 = .ok (.bipush 6, 2) := by decide +kernel
theorem dX10_init_31 : decode cX10_init 31 = .ok (.newarray .int, 2) := by decide +kernel
theorem dX10_init_33 : decode cX10_init 33 = .ok (.putfield 19, 3) := by decide +kernel
theorem dX10_init_36 : decode cX10_init 36 = .ok (.aload_n 0, 1) := by decide +kernel
theorem dX10_init_37 : decode cX10_init 37 = .ok (.bipush 6, 2) := by decide +kernel
theorem dX10_init_39 : decode cX10_init 39 = .ok (.newarray .int, 2) := by decide +kernel
theorem dX10_init_41 : decode cX10_init 41 = .ok (.putfield 22, 3) := by decide +kernel
theorem dX10_init_44 : decode cX10_init 44 = .ok (.aload_n 0, 1) := by decide +kernel
theorem dX10_init_45 : decode cX10_init 45 = .ok (.bipush 6, 2) := by decide +kernel
theorem dX10_init_47 : decode cX10_init 47 = .ok (.newarray .int, 2) := by decide +kernel
theorem dX10_init_49 : decode cX10_init 49 = .ok (.putfield 25, 3) := by decide +kernel
theorem dX10_init_52 : decode cX10_init 52 = .ok (.aload_n 0, 1) := by decide +kernel
theorem dX10_init_53 : decode cX10_init 53 = .ok (.bipush 48, 2) := by decide +kernel
theorem dX10_init_55 : decode cX10_init 55 = .ok (.newarray .int, 2) := by decide +kernel
theorem dX10_init_57 : decode cX10_init 57 = .ok (.putfield 28, 3) := by decide +kernel
theorem dX10_init_60 : decode cX10_init 60 = .ok (.aload_n 0, 1) := by decide +kernel
theorem dX10_init_61 : decode cX10_init 61 = .ok (.bipush 48, 2) := by decide +kernel
theorem dX10_init_63 : decode cX10_init 63 = .ok (.newarray .int, 2) := by decide +kernel
theorem dX10_init_65 : decode cX10_init 65 = .ok (.putfield 31, 3) := by decide +kernel
theorem dX10_init_68 : decode cX10_init 68 = .ok (.aload_n 0, 1) := by decide +kernel
theorem dX10_init_69 : decode cX10_init 69 = .ok (.bipush 8, 2) := by decide +kernel
theorem dX10_init_71 : decode cX10_init 71 = .ok (.newarray .int, 2) := by decide +kernel
theorem dX10_init_73 : decode cX10_init 73 = .ok (.putfield 34, 3) := by decide +kernel
theorem dX10_init_76 : decode cX10_init 76 = .ok (.aload_n 0, 1) := by decide +kernel
theorem dX10_init_77 : decode cX10_init 77 = .ok (.bipush 12, 2) := by decide +kernel
theorem dX10_init_79 : decode cX10_init 79 = .ok (.newarray .int, 2) := by decide +kernel
theorem dX10_init_81 : decode cX10_init 81 = .ok (.putfield 37, 3) := by decide +kernel
theorem dX10_init_84 : decode cX10_init 84 = .ok (.aload_n 0, 1) := by decide +kernel
theorem dX10_init_85 : decode cX10_init 85 = .ok (.bipush 12, 2) := by decide +kernel
theorem dX10_init_87 : decode cX10_init 87 = .ok (.newarray .int, 2) := by decide +kernel
theorem dX10_init_89 : decode cX10_init 89 = .ok (.putfield 40, 3) := by decide +kernel
theorem dX10_init_92 : decode cX10_init 92 = .ok (.aload_n 0, 1) := by decide +kernel
theorem dX10_init_93 : decode cX10_init 93 = .ok (.iconst 2, 1) := by decide +kernel
theorem dX10_init_94 : decode cX10_init 94 = .ok (.newarray .int, 2) := by decide +kernel
theorem dX10_init_96 : decode cX10_init 96 = .ok (.putfield 43, 3) := by decide +kernel
theorem dX10_init_99 : decode cX10_init 99 = .ok (.aload_n 0, 1) := by decide +kernel
theorem dX10_init_100 : decode cX10_init 100 = .ok (.sipush 300, 3) := by decide +kernel
theorem dX10_init_103 : decode cX10_init 103 = .ok (.newarray .int, 2) := by decide +kernel
theorem dX10_init_105 : decode cX10_init 105 = .ok (.putfield 46, 3) := by decide +kernel
theorem dX10_init_108 : decode cX10_init 108 = .ok (.aload_n 0, 1) := by decide +kernel
theorem dX10_init_109 : decode cX10_init 109 = .ok (.bipush 6, 2) := by decide +kernel
theorem dX10_init_111 : decode cX10_init 111 = .ok (.newarray .int, 2) := by decide +kernel
theorem dX10_init_113 : decode cX10_init 113 = .ok (.putfield 49, 3) := by decide +kernel
theorem dX10_init_116 : decode cX10_init 116 = .ok (.aload_n 0, 1) := by decide +kernel
theorem dX10_init_117 : decode cX10_init 117 = .ok (.bipush 6, 2) := by decide +kernel
theorem dX10_init_119 : decode cX10_init 119 = .ok (.newarray .int, 2) := by decide +kernel
theorem dX10_init_121 : decode cX10_init 121 = .ok (.putfield 52, 3) := by decide +kernel
theorem dX10_init_124 : decode cX10_init 124 = .ok (.aload_n 0, 1) := by decide +kernel
theorem dX10_init_125 : decode cX10_init 125 = .ok (.bipush 36, 2) := by decide +kernel
theorem dX10_init_127 : decode cX10_init 127 = .ok (.newarray .int, 2) := by decide +kernel
theorem dX10_init_129 : decode cX10_init 129 = .ok (.putfield 55, 3) := by decide +kernel
theorem dX10_init_132 : decode cX10_init 132 = .ok (.aload_n 0, 1) := by decide +kernel
theorem dX10_init_133 : decode cX10_init 133 = .ok (.bipush 6, 2) := by decide +kernel
theorem dX10_init_135 : decode cX10_init 135 = .ok (.newarray .int, 2) := by decide +kernel
theorem dX10_init_137 : decode cX10_init 137 = .ok (.putfield 58, 3) := by decide +kernel
theorem dX10_init_140 : decode cX10_init 140 = .ok (.aload_n 0, 1) := by decide +kernel
theorem dX10_init_141 : decode cX10_init 141 = .ok (.bipush 6, 2) := by decide +kernel
theorem dX10_init_143 : decode cX10_init 143 = .ok (.newarray .int, 2) := by decide +kernel
theorem dX10_init_145 : decode cX10_init 145 = .ok (.putfield 61, 3) := by decide +kernel
theorem dX10_init_148 : decode cX10_init 148 = .ok (.aload_n 0, 1) := by decide +kernel
theorem dX10_init_149 : decode cX10_init 149 = .ok (.bipush 6, 2) := by decide +kernel
theorem dX10_init_151 : decode cX10_init 151 = .ok (.newarray .int, 2) := by decide +kernel
theorem dX10_init_153 : decode cX10_init 153 = .ok (.putfield 64, 3) := by decide +kernel
theorem dX10_init_156 : decode cX10_init 156 = .ok (.aload_n 0, 1) := by decide +kernel
theorem dX10_init_157 : decode cX10_init 157 = .ok (.bipush 6, 2) := by decide +kernel
theorem dX10_init_159 : decode cX10_init 159 = .ok (.newarray .int, 2) := by decide +kernel
theorem dX10_init_161 : decode cX10_init 161 = .ok (.putfield 67, 3) := by decide +kernel
theorem dX10_init_164 : decode cX10_init 164 = .ok (.aload_n 0, 1) := by decide +kernel
theorem dX10_init_165 : decode cX10_init 165 = .ok (.bipush 36, 2) := by decide +kernel
theorem dX10_init_167 : decode cX10_init 167 = .ok (.newarray .int, 2) := by decide +kernel
theorem dX10_init_169 : decode cX10_init 169 = .ok (.putfield 70, 3) := by decide +kernel
theorem dX10_init_172 : decode cX10_init 172 = .ok (.aload_n 0, 1) := by decide +kernel
theorem dX10_init_173 : decode cX10_init 173 = .ok (.ldc 73, 2) := by decide +kernel
theorem dX10_init_175 : decode cX10_init 175 = .ok (.newarray .int, 2) := by decide +kernel
theorem dX10_init_177 : decode cX10_init 177 = .ok (.putfield 74, 3) := by decide +kernel
theorem dX10_init_180 : decode cX10_init 180 = .ok (.aload_n 0, 1) := by decide +kernel
theorem dX10_init_181 : decode cX10_init 181 = .ok (.sipush 720, 3) := by decide +kernel
theorem dX10_init_184 : decode cX10_init 184 = .ok (.newarray .int, 2) := by decide +kernel
theorem dX10_init_186 : decode cX10_init 186 = .ok (.putfield 77, 3) := by decide +kernel
theorem dX10_init_189 : decode cX10_init 189 = .ok (.aload_n 0, 1) := by decide +kernel
theorem dX10_init_190 : decode cX10_init 190 = .ok (.sipush 720, 3) := by decide +kernel
theorem dX10_init_193 : decode cX10_init 193 = .ok (.newarray .int, 2) := by decide +kernel
theorem dX10_init_195 : decode cX10_init 195 = .ok (.putfield 80, 3) := by decide +kernel
theorem dX10_init_198 : decode cX10_init 198 = .ok (.aload_n 0, 1) := by decide +kernel
theorem dX10_init_199 : decode cX10_init 199 = .ok (.sipush 720, 3) := by decide +kernel
theorem dX10_init_202 : decode cX10_init 202 = .ok (.newarray .int, 2) := by decide +kernel
theorem dX10_init_204 : decode cX10_init 204 = .ok (.putfield 83, 3) := by decide +kernel
theorem dX10_init_207 : decode cX10_init 207 = .ok (.aload_n 0, 1) := by decide +kernel
theorem dX10_init_208 : decode cX10_init 208 = .ok (.bipush 36, 2) := by decide +kernel
theorem dX10_init_210 : decode cX10_init 210 = .ok (.newarray .boolean, 2) := by decide +kernel
theorem dX10_init_212 : decode cX10_init 212 = .ok (.putfield 86, 3) := by decide +kernel
theorem dX10_init_215 : decode cX10_init 215 = .ok (.aload_n 0, 1) := by decide +kernel
theorem dX10_init_216 : decode cX10_init 216 = .ok (.sipush 720, 3) := by decide +kernel
theorem dX10_init_219 : decode cX10_init 219 = .ok (.newarray .boolean, 2) := by decide +kernel
theorem dX10_init_221 : decode cX10_init 221 = .ok (.putfield 90, 3) := by decide +kernel
theorem dX10_init_224 : decode cX10_init 224 = .ok (.aload_n 0, 1) := by decide +kernel
theorem dX10_init_225 : decode cX10_init 225 = .ok (.bipush 64, 2) := by decide +kernel
theorem dX10_init_227 : decode cX10_init 227 = .ok (.newarray .int, 2) := by decide +kernel
theorem dX10_init_229 : decode cX10_init 229 = .ok (.putfield 93, 3) := by decide +kernel
theorem dX10_init_232 : decode cX10_init 232 = .ok (.aload_n 0, 1) := by decide +kernel
theorem dX10_init_233 : decode cX10_init 233 = .ok (.bipush 64, 2) := by decide +kernel
theorem dX10_init_235 : decode cX10_init 235 = .ok (.newarray .int, 2) := by decide +kernel
theorem dX10_init_237 : decode cX10_init 237 = .ok (.putfield 96, 3) := by decide +kernel
theorem dX10_init_240 : decode cX10_init 240 = .ok (.aload_n 0, 1) := by decide +kernel
theorem dX10_init_241 : decode cX10_init 241 = .ok (.sipush 720, 3) := by decide +kernel
theorem dX10_init_244 : decode cX10_init 244 = .ok (.newarray .long, 2) := by decide +kernel
theorem dX10_init_246 : decode cX10_init 246 = .ok (.putfield 99, 3) := by decide +kernel
theorem dX10_init_249 : decode cX10_init 249 = .ok (.aload_n 0, 1) := by decide +kernel
theorem dX10_init_250 : decode cX10_init 250 = .ok (.sipush 720, 3) := by decide +kernel
theorem dX10_init_253 : decode cX10_init 253 = .ok (.newarray .long, 2) := by decide +kernel
theorem dX10_init_255 : decode cX10_init 255 = .ok (.putfield 103, 3) := by decide +kernel
theorem dX10_init_258 : decode cX10_init 258 = .ok (.aload_n 0, 1) := by decide +kernel
theorem dX10_init_259 : decode cX10_init 259 = .ok (.invokevirtual 106, 3) := by decide +kernel
theorem dX10_init_262 : decode cX10_init 262 = .ok (.aload_n 0, 1) := by decide +kernel
theorem dX10_init_263 : decode cX10_init 263 = .ok (.iconst 3, 1) := by decide +kernel
theorem dX10_init_264 : decode cX10_init 264 = .ok (.putfield 109, 3) := by decide +kernel
theorem dX10_init_267 : decode cX10_init 267 = .ok (.iconst 0, 1) := by decide +kernel
theorem dX10_init_268 : decode cX10_init 268 = .ok (.istore_n 1, 1) := by decide +kernel
theorem dX10_init_269 : decode cX10_init 269 = .ok (.iload_n 1, 1) := by decide +kernel
theorem dX10_init_270 : decode cX10_init 270 = .ok (.iconst 3, 1) := by decide +kernel
theorem dX10_init_271 : decode cX10_init 271 = .ok (.if_icmp .ge 55, 3) := by decide +kernel
theorem dX10_init_274 : decode cX10_init 274 = .ok (.aload_n 0, 1) := by decide +kernel
theorem dX10_init_275 : decode cX10_init 275 = .ok (.getfield 58, 3) := by decide +kernel
theorem dX10_init_278 : decode cX10_init 278 = .ok (.iload_n 1, 1) := by decide +kernel
theorem dX10_init_279 : decode cX10_init 279 = .ok (.iload_n 1, 1) := by decide +kernel
theorem dX10_init_280 : decode cX10_init 280 = .ok (.iastore, 1) := by decide +kernel
theorem dX10_init_281 : decode cX10_init 281 = .ok (.aload_n 0, 1) := by decide +kernel
theorem dX10_init_282 : decode cX10_init 282 = .ok (.getfield 52, 3) := by decide +kernel
theorem dX10_init_285 : decode cX10_init 285 = .ok (.iload_n 1, 1) := by decide +kernel
theorem dX10_init_286 : decode cX10_init 286 = .ok (.iconst 1, 1) := by decide +kernel
theorem dX10_init_287 : decode cX10_init 287 = .ok (.iload_n 1, 1) := by decide +kernel
theorem dX10_init_288 : decode cX10_init 288 = .ok (.iconst 1, 1) := by decide +kernel
theorem dX10_init_289 : decode cX10_init 289 = .ok (.iadd, 1) := by decide +kernel
theorem dX10_init_290 : decode cX10_init 290 = .ok (.iconst 3, 1) := by decide +kernel
theorem dX10_init_291 : decode cX10_init 291 = .ok (.irem, 1) := by decide +kernel
theorem dX10_init_292 : decode cX10_init 292 = .ok (.ishl, 1) := by decide +kernel
theorem dX10_init_293 : decode cX10_init 293 = .ok (.iastore, 1) := by decide +kernel
theorem dX10_init_294 : decode cX10_init 294 = .ok (.iconst 0, 1) := by decide +kernel
theorem dX10_init_295 : decode cX10_init 295 = .ok (.istore_n 2, 1) := by decide +kernel
theorem dX10_init_296 : decode cX10_init 296 = .ok (.iload_n 2, 1) := by decide +kernel
theorem dX10_init_297 : decode cX10_init 297 = .ok (.bipush 6, 2) := by decide +kernel
theorem dX10_init_299 : decode cX10_init 299 = .ok (.if_icmp .ge 21, 3) := by decide +kernel
theorem dX10_init_302 : decode cX10_init 302 = .ok (.aload_n 0, 1) := by decide +kernel
theorem dX10_init_303 : decode cX10_init 303 = .ok (.getfield 55, 3) := by decide +kernel
theorem dX10_init_306 : decode cX10_init 306 = .ok (.bipush 6, 2) := by decide +kernel
theorem dX10_init_308 : decode cX10_init 308 = .ok (.iload_n 1, 1) := by decide +kernel
theorem dX10_init_309 : decode cX10_init 309 = .ok (.imul, 1) := by decide +kernel
theorem dX10_init_310 : decode cX10_init 310 = .ok (.iload_n 2, 1) := by decide +kernel
theorem dX10_init_311 : decode cX10_init 311 = .ok (.iadd, 1) := by decide +kernel
theorem dX10_init_312 : decode cX10_init 312 = .ok (.iconst 1, 1) := by decide +kernel
theorem dX10_init_313 : decode cX10_init 313 = .ok (.iastore, 1) := by decide +kernel
theorem dX10_init_314 : decode cX10_init 314 = .ok (.iinc 2 1, 3) := by decide +kernel
theorem dX10_init_317 : decode cX10_init 317 = .ok (.goto (-21), 3) := by decide +kernel
theorem dX10_init_320 : decode cX10_init 320 = .ok (.iinc 1 1, 3) := by decide +kernel
theorem dX10_init_323 : decode cX10_init 323 = .ok (.goto (-54), 3) := by decide +kernel
theorem dX10_init_326 : decode cX10_init 326 = .ok (.aload_n 0, 1) := by decide +kernel
theorem dX10_init_327 : decode cX10_init 327 = .ok (.invokevirtual 113, 3) := by decide +kernel
theorem dX10_init_330 : decode cX10_init 330 = .ok (.return_, 1) := by decide +kernel
theorem dX10_in_0 : decode cX10_in 0 = .ok (.iload_n 0, 1) := by decide +kernel
theorem dX10_in_1 : decode cX10_in 1 = .ok (.iload_n 1, 1) := by decide +kernel
theorem dX10_in_2 : decode cX10_in 2 = .ok (.if_icmp .lt 12, 3) := by decide +kernel
theorem dX10_in_5 : decode cX10_in 5 = .ok (.iload_n 0, 1) := by decide +kernel
theorem dX10_in_6 : decode cX10_in 6 = .ok (.iload_n 2, 1) := by decide +kernel
theorem dX10_in_7 : decode cX10_in 7 = .ok (.if_icmp .gt 7, 3) := by decide +kernel
theorem dX10_in_10 : decode cX10_in 10 = .ok (.iconst 1, 1) := by decide +kernel
theorem dX10_in_11 : decode cX10_in 11 = .ok (.goto 4, 3) := by decide +kernel
theorem dX10_in_14 : decode cX10_in 14 = .ok (.iconst 0, 1) := by decide +kernel
theorem dX10_in_15 : decode cX10_in 15 = .ok (.ireturn, 1) := by decide +kernel
theorem dX10_isGuest_0 : decode cX10_isGuest 0 = .ok (.iload_n 1, 1) := by decide +kernel
theorem dX10_isGuest_1 : decode cX10_isGuest 1 = .ok (.iconst 0, 1) := by decide +kernel
theorem dX10_isGuest_2 : decode cX10_isGuest 2 = .ok (.aload_n 0, 1) := by decide +kernel
theorem dX10_isGuest_3 : decode cX10_isGuest 3 = .ok (.getfield 116, 3) := by decide +kernel
theorem dX10_isGuest_6 : decode cX10_isGuest 6 = .ok (.iconst 1, 1) := by decide +kernel
theorem dX10_isGuest_7 : decode cX10_isGuest 7 = .ok (.isub, 1) := by decide +kernel
theorem dX10_isGuest_8 : decode cX10_isGuest 8 = .ok (.invokestatic 119, 3) := by decide +kernel
theorem dX10_isGuest_11 : decode cX10_isGuest 11 = .ok (.ireturn, 1) := by decide +kernel
theorem dX10_isDish_0 : decode cX10_isDish 0 = .ok (.iload_n 1, 1) := by decide +kernel
theorem dX10_isDish_1 : decode cX10_isDish 1 = .ok (.iconst 0, 1) := by decide +kernel
theorem dX10_isDish_2 : decode cX10_isDish 2 = .ok (.aload_n 0, 1) := by decide +kernel
theorem dX10_isDish_3 : decode cX10_isDish 3 = .ok (.getfield 123, 3) := by decide +kernel
theorem dX10_isDish_6 : decode cX10_isDish 6 = .ok (.iconst 1, 1) := by decide +kernel
theorem dX10_isDish_7 : decode cX10_isDish 7 = .ok (.isub, 1) := by decide +kernel
theorem dX10_isDish_8 : decode cX10_isDish 8 = .ok (.invokestatic 119, 3) := by decide +kernel
theorem dX10_isDish_11 : decode cX10_isDish 11 = .ok (.ireturn, 1) := by decide +kernel
theorem dX10_write_0 : decode cX10_write 0 = .ok (.iload_n 1, 1) := by decide +kernel
theorem dX10_write_1 : decode cX10_write 1 = .ok (.iconst 1, 1) := by decide +kernel
theorem dX10_write_2 : decode cX10_write 2 = .ok (.bipush 8, 2) := by decide +kernel
theorem dX10_write_4 : decode cX10_write 4 = .ok (.invokestatic 119, 3) := by decide +kernel
theorem dX10_write_7 : decode cX10_write 7 = .ok (.ifCond .ne 5, 3) := by decide +kernel
theorem dX10_write_10 : decode cX10_write 10 = .ok (.iconst (-1), 1) := by decide +kernel
theorem dX10_write_11 : decode cX10_write 11 = .ok (.ireturn, 1) := by decide +kernel
theorem dX10_write_12 : decode cX10_write 12 = .ok (.aload_n 0, 1) := by decide +kernel
theorem dX10_write_13 : decode cX10_write 13 = .ok (.getfield 126, 3) := by decide +kernel
theorem dX10_write_16 : decode cX10_write 16 = .ok (.iload_n 1, 1) := by decide +kernel
theorem dX10_write_17 : decode cX10_write 17 = .ok (.iadd, 1) := by decide +kernel
theorem dX10_write_18 : decode cX10_write 18 = .ok (.sipush 300, 3) := by decide +kernel
theorem dX10_write_21 : decode cX10_write 21 = .ok (.if_icmp .le 6, 3) := by decide +kernel
theorem dX10_write_24 : decode cX10_write 24 = .ok (.bipush (-3), 2) := by decide +kernel
theorem dX10_write_26 : decode cX10_write 26 = .ok (.ireturn, 1) := by decide +kernel
theorem dX10_write_27 : decode cX10_write 27 = .ok (.iload_n 1, 1) := by decide +kernel
theorem dX10_write_28 : decode cX10_write 28 = .ok (.iconst 1, 1) := by decide +kernel
theorem dX10_write_29 : decode cX10_write 29 = .ok (.isub, 1) := by decide +kernel
theorem dX10_write_30 : decode cX10_write 30 = .ok (.istore 4, 2) := by decide +kernel
theorem dX10_write_32 : decode cX10_write 32 = .ok (.iload 4, 2) := by decide +kernel
theorem dX10_write_34 : decode cX10_write 34 = .ok (.ifCond .lt 40, 3) := by decide +kernel
theorem dX10_write_37 : decode cX10_write 37 = .ok (.aload_n 0, 1) := by decide +kernel
theorem dX10_write_38 : decode cX10_write 38 = .ok (.getfield 46, 3) := by decide +kernel
theorem dX10_write_41 : decode cX10_write 41 = .ok (.aload_n 0, 1) := by decide +kernel
theorem dX10_write_42 : decode cX10_write 42 = .ok (.getfield 126, 3) := by decide +kernel
theorem dX10_write_45 : decode cX10_write 45 = .ok (.lload_n 2, 1) := by decide +kernel
theorem dX10_write_46 : decode cX10_write 46 = .ok (.bipush 8, 2) := by decide +kernel
theorem dX10_write_48 : decode cX10_write 48 = .ok (.iload 4, 2) := by decide +kernel
theorem dX10_write_50 : decode cX10_write 50 = .ok (.imul, 1) := by decide +kernel
theorem dX10_write_51 : decode cX10_write 51 = .ok (.lshr, 1) := by decide +kernel
theorem dX10_write_52 : decode cX10_write 52 = .ok (.ldc2_w 129, 3) := by decide +kernel
theorem dX10_write_55 : decode cX10_write 55 = .ok (.land, 1) := by decide +kernel
theorem dX10_write_56 : decode cX10_write 56 = .ok (.l2i, 1) := by decide +kernel
theorem dX10_write_57 : decode cX10_write 57 = .ok (.iastore, 1) := by decide +kernel
theorem dX10_write_58 : decode cX10_write 58 = .ok (.aload_n 0, 1) := by decide +kernel
theorem dX10_write_59 : decode cX10_write 59 = .ok (.dup, 1) := by decide +kernel
theorem dX10_write_60 : decode cX10_write 60 = .ok (.getfield 126, 3) := by decide +kernel
theorem dX10_write_63 : decode cX10_write 63 = .ok (.iconst 1, 1) := by decide +kernel
theorem dX10_write_64 : decode cX10_write 64 = .ok (.iadd, 1) := by decide +kernel
theorem dX10_write_65 : decode cX10_write 65 = .ok (.putfield 126, 3) := by decide +kernel
theorem dX10_write_68 : decode cX10_write 68 = .ok (.iinc 4 (-1), 3) := by decide +kernel
theorem dX10_write_71 : decode cX10_write 71 = .ok (.goto (-39), 3) := by decide +kernel
theorem dX10_write_74 : decode cX10_write 74 = .ok (.aload_n 0, 1) := by decide +kernel
theorem dX10_write_75 : decode cX10_write 75 = .ok (.getfield 126, 3) := by decide +kernel
theorem dX10_write_78 : decode cX10_write 78 = .ok (.ireturn, 1) := by decide +kernel
theorem dX10_wipe_0 : decode cX10_wipe 0 = .ok (.aload_n 0, 1) := by decide +kernel
theorem dX10_wipe_1 : decode cX10_wipe 1 = .ok (.getfield 126, 3) := by decide +kernel
theorem dX10_wipe_4 : decode cX10_wipe 4 = .ok (.istore_n 1, 1) := by decide +kernel
theorem dX10_wipe_5 : decode cX10_wipe 5 = .ok (.aload_n 0, 1) := by decide +kernel
theorem dX10_wipe_6 : decode cX10_wipe 6 = .ok (.iconst 0, 1) := by decide +kernel
theorem dX10_wipe_7 : decode cX10_wipe 7 = .ok (.putfield 126, 3) := by decide +kernel
theorem dX10_wipe_10 : decode cX10_wipe 10 = .ok (.iload_n 1, 1) := by decide +kernel
theorem dX10_wipe_11 : decode cX10_wipe 11 = .ok (.ireturn, 1) := by decide +kernel
theorem dX10_begins_0 : decode cX10_begins 0 = .ok (.aload_n 0, 1) := by decide +kernel
theorem dX10_begins_1 : decode cX10_begins 1 = .ok (.iconst 0, 1) := by decide +kernel
theorem dX10_begins_2 : decode cX10_begins 2 = .ok (.putfield 131, 3) := by decide +kernel
theorem dX10_begins_5 : decode cX10_begins 5 = .ok (.aload_n 0, 1) := by decide +kernel
theorem dX10_begins_6 : decode cX10_begins 6 = .ok (.iconst 0, 1) := by decide +kernel
theorem dX10_begins_7 : decode cX10_begins 7 = .ok (.putfield 109, 3) := by decide +kernel
theorem dX10_begins_10 : decode cX10_begins 10 = .ok (.aload_n 0, 1) := by decide +kernel
theorem dX10_begins_11 : decode cX10_begins 11 = .ok (.iconst 3, 1) := by decide +kernel
theorem dX10_begins_12 : decode cX10_begins 12 = .ok (.putfield 134, 3) := by decide +kernel
theorem dX10_begins_15 : decode cX10_begins 15 = .ok (.aload_n 0, 1) := by decide +kernel
theorem dX10_begins_16 : decode cX10_begins 16 = .ok (.iconst 0, 1) := by decide +kernel
theorem dX10_begins_17 : decode cX10_begins 17 = .ok (.putfield 137, 3) := by decide +kernel
theorem dX10_begins_20 : decode cX10_begins 20 = .ok (.aload_n 0, 1) := by decide +kernel
theorem dX10_begins_21 : decode cX10_begins 21 = .ok (.bipush 9, 2) := by decide +kernel
theorem dX10_begins_23 : decode cX10_begins 23 = .ok (.putfield 140, 3) := by decide +kernel
theorem dX10_begins_26 : decode cX10_begins 26 = .ok (.aload_n 0, 1) := by decide +kernel
theorem dX10_begins_27 : decode cX10_begins 27 = .ok (.iconst 1, 1) := by decide +kernel
theorem dX10_begins_28 : decode cX10_begins 28 = .ok (.putfield 143, 3) := by decide +kernel
theorem dX10_begins_31 : decode cX10_begins 31 = .ok (.return_, 1) := by decide +kernel
theorem dX10_here_0 : decode cX10_here 0 = .ok (.aload_n 0, 1) := by decide +kernel
theorem dX10_here_1 : decode cX10_here 1 = .ok (.getfield 131, 3) := by decide +kernel
theorem dX10_here_4 : decode cX10_here 4 = .ok (.aload_n 0, 1) := by decide +kernel
theorem dX10_here_5 : decode cX10_here 5 = .ok (.getfield 126, 3) := by decide +kernel
theorem dX10_here_8 : decode cX10_here 8 = .ok (.if_icmp .ge 15, 3) := by decide +kernel
theorem dX10_here_11 : decode cX10_here 11 = .ok (.aload_n 0, 1) := by decide +kernel
theorem dX10_here_12 : decode cX10_here 12 = .ok (.getfield 46, 3) := by decide +kernel
theorem dX10_here_15 : decode cX10_here 15 = .ok (.aload_n 0, 1) := by decide +kernel
theorem dX10_here_16 : decode cX10_here 16 = .ok (.getfield 131, 3) := by decide +kernel
theorem dX10_here_19 : decode cX10_here 19 = .ok (.iaload, 1) := by decide +kernel
theorem dX10_here_20 : decode cX10_here 20 = .ok (.goto 4, 3) := by decide +kernel
theorem dX10_here_23 : decode cX10_here 23 = .ok (.iconst (-1), 1) := by decide +kernel
theorem dX10_here_24 : decode cX10_here 24 = .ok (.ireturn, 1) := by decide +kernel
theorem dX10_number_0 : decode cX10_number 0 = .ok (.iconst (-1), 1) := by decide +kernel
theorem dX10_number_1 : decode cX10_number 1 = .ok (.istore_n 1, 1) := by decide +kernel
theorem dX10_number_2 : decode cX10_number 2 = .ok (.iconst 0, 1) := by decide +kernel
theorem dX10_number_3 : decode cX10_number 3 = .ok (.istore_n 2, 1) := by decide +kernel
theorem dX10_number_4 : decode cX10_number 4 = .ok (.iload_n 2, 1) := by decide +kernel
theorem dX10_number_5 : decode cX10_number 5 = .ok (.iconst 2, 1) := by decide +kernel
theorem dX10_number_6 : decode cX10_number 6 = .ok (.if_icmp .ge 54, 3) := by decide +kernel
theorem dX10_number_9 : decode cX10_number 9 = .ok (.aload_n 0, 1) := by decide +kernel
theorem dX10_number_10 : decode cX10_number 10 = .ok (.invokevirtual 146, 3) := by decide +kernel
theorem dX10_number_13 : decode cX10_number 13 = .ok (.bipush 48, 2) := by decide +kernel
theorem dX10_number_15 : decode cX10_number 15 = .ok (.bipush 57, 2) := by decide +kernel
theorem dX10_number_17 : decode cX10_number 17 = .ok (.invokestatic 119, 3) := by decide +kernel
theorem dX10_number_20 : decode cX10_number 20 = .ok (.ifCond .eq 40, 3) := by decide +kernel
theorem dX10_number_23 : decode cX10_number 23 = .ok (.iload_n 2, 1) := by decide +kernel
theorem dX10_number_24 : decode cX10_number 24 = .ok (.ifCond .ne 7, 3) := by decide +kernel
theorem dX10_number_27 : decode cX10_number 27 = .ok (.iconst 0, 1) := by decide +kernel
theorem dX10_number_28 : decode cX10_number 28 = .ok (.goto 7, 3) := by decide +kernel
theorem dX10_number_31 : decode cX10_number 31 = .ok (.bipush 10, 2) := by decide +kernel
theorem dX10_number_33 : decode cX10_number 33 = .ok (.iload_n 1, 1) := by decide +kernel
theorem dX10_number_34 : decode cX10_number 34 = .ok (.imul, 1) := by decide +kernel
theorem dX10_number_35 : decode cX10_number 35 = .ok (.aload_n 0, 1) := by decide +kernel
theorem dX10_number_36 : decode cX10_number 36 = .ok (.invokevirtual 146, 3) := by decide +kernel
theorem dX10_number_39 : decode cX10_number 39 = .ok (.iadd, 1) := by decide +kernel
theorem dX10_number_40 : decode cX10_number 40 = .ok (.bipush 48, 2) := by decide +kernel
theorem dX10_number_42 : decode cX10_number 42 = .ok (.isub, 1) := by decide +kernel
theorem dX10_number_43 : decode cX10_number 43 = .ok (.istore_n 1, 1) := by decide +kernel
theorem dX10_number_44 : decode cX10_number 44 = .ok (.aload_n 0, 1) := by decide +kernel
theorem dX10_number_45 : decode cX10_number 45 = .ok (.dup, 1) := by decide +kernel
theorem dX10_number_46 : decode cX10_number 46 = .ok (.getfield 131, 3) := by decide +kernel
theorem dX10_number_49 : decode cX10_number 49 = .ok (.iconst 1, 1) := by decide +kernel
theorem dX10_number_50 : decode cX10_number 50 = .ok (.iadd, 1) := by decide +kernel
theorem dX10_number_51 : decode cX10_number 51 = .ok (.putfield 131, 3) := by decide +kernel
theorem dX10_number_54 : decode cX10_number 54 = .ok (.iinc 2 1, 3) := by decide +kernel
theorem dX10_number_57 : decode cX10_number 57 = .ok (.goto (-53), 3) := by decide +kernel
theorem dX10_number_60 : decode cX10_number 60 = .ok (.iload_n 1, 1) := by decide +kernel
theorem dX10_number_61 : decode cX10_number 61 = .ok (.ireturn, 1) := by decide +kernel
theorem dX10_isSign_0 : decode cX10_isSign 0 = .ok (.aload_n 0, 1) := by decide +kernel
theorem dX10_isSign_1 : decode cX10_isSign 1 = .ok (.invokevirtual 146, 3) := by decide +kernel
theorem dX10_isSign_4 : decode cX10_isSign 4 = .ok (.iload_n 1, 1) := by decide +kernel
theorem dX10_isSign_5 : decode cX10_isSign 5 = .ok (.if_icmp .ne 7, 3) := by decide +kernel
theorem dX10_isSign_8 : decode cX10_isSign 8 = .ok (.iconst 1, 1) := by decide +kernel
theorem dX10_isSign_9 : decode cX10_isSign 9 = .ok (.goto 4, 3) := by decide +kernel
theorem dX10_isSign_12 : decode cX10_isSign 12 = .ok (.iconst 0, 1) := by decide +kernel
theorem dX10_isSign_13 : decode cX10_isSign 13 = .ok (.istore_n 2, 1) := by decide +kernel
theorem dX10_isSign_14 : decode cX10_isSign 14 = .ok (.aload_n 0, 1) := by decide +kernel
theorem dX10_isSign_15 : decode cX10_isSign 15 = .ok (.dup, 1) := by decide +kernel
theorem dX10_isSign_16 : decode cX10_isSign 16 = .ok (.getfield 131, 3) := by decide +kernel
theorem dX10_isSign_19 : decode cX10_isSign 19 = .ok (.iload_n 2, 1) := by decide +kernel
theorem dX10_isSign_20 : decode cX10_isSign 20 = .ok (.ifCond .eq 7, 3) := by decide +kernel
theorem dX10_isSign_23 : decode cX10_isSign 23 = .ok (.iconst 1, 1) := by decide +kernel
theorem dX10_isSign_24 : decode cX10_isSign 24 = .ok (.goto 4, 3) := by decide +kernel
theorem dX10_isSign_27 : decode cX10_isSign 27 = .ok (.iconst 0, 1) := by decide +kernel
theorem dX10_isSign_28 : decode cX10_isSign 28 = .ok (.iadd, 1) := by decide +kernel
theorem dX10_isSign_29 : decode cX10_isSign 29 = .ok (.putfield 131, 3) := by decide +kernel
theorem dX10_isSign_32 : decode cX10_isSign 32 = .ok (.iload_n 2, 1) := by decide +kernel
theorem dX10_isSign_33 : decode cX10_isSign 33 = .ok (.ireturn, 1) := by decide +kernel
theorem dX10_isFree_0 : decode cX10_isFree 0 = .ok (.iconst 1, 1) := by decide +kernel
theorem dX10_isFree_1 : decode cX10_isFree 1 = .ok (.istore_n 2, 1) := by decide +kernel
theorem dX10_isFree_2 : decode cX10_isFree 2 = .ok (.iconst 0, 1) := by decide +kernel
theorem dX10_isFree_3 : decode cX10_isFree 3 = .ok (.istore_n 3, 1) := by decide +kernel
theorem dX10_isFree_4 : decode cX10_isFree 4 = .ok (.iload_n 3, 1) := by decide +kernel
theorem dX10_isFree_5 : decode cX10_isFree 5 = .ok (.aload_n 0, 1) := by decide +kernel
theorem dX10_isFree_6 : decode cX10_isFree 6 = .ok (.getfield 109, 3) := by decide +kernel
theorem dX10_isFree_9 : decode cX10_isFree 9 = .ok (.if_icmp .ge 29, 3) := by decide +kernel
theorem dX10_isFree_12 : decode cX10_isFree 12 = .ok (.iload_n 2, 1) := by decide +kernel
theorem dX10_isFree_13 : decode cX10_isFree 13 = .ok (.ifCond .eq 17, 3) := by decide +kernel
theorem dX10_isFree_16 : decode cX10_isFree 16 = .ok (.aload_n 0, 1) := by decide +kernel
theorem dX10_isFree_17 : decode cX10_isFree 17 = .ok (.getfield 58, 3) := by decide +kernel
theorem dX10_isFree_20 : decode cX10_isFree 20 = .ok (.iload_n 3, 1) := by decide +kernel
theorem dX10_isFree_21 : decode cX10_isFree 21 = .ok (.iaload, 1) := by decide +kernel
theorem dX10_isFree_22 : decode cX10_isFree 22 = .ok (.iload_n 1, 1) := by decide +kernel
theorem dX10_isFree_23 : decode cX10_isFree 23 = .ok (.if_icmp .eq 7, 3) := by decide +kernel
theorem dX10_isFree_26 : decode cX10_isFree 26 = .ok (.iconst 1, 1) := by decide +kernel
theorem dX10_isFree_27 : decode cX10_isFree 27 = .ok (.goto 4, 3) := by decide +kernel
theorem dX10_isFree_30 : decode cX10_isFree 30 = .ok (.iconst 0, 1) := by decide +kernel
theorem dX10_isFree_31 : decode cX10_isFree 31 = .ok (.istore_n 2, 1) := by decide +kernel
theorem dX10_isFree_32 : decode cX10_isFree 32 = .ok (.iinc 3 1, 3) := by decide +kernel
theorem dX10_isFree_35 : decode cX10_isFree 35 = .ok (.goto (-31), 3) := by decide +kernel
theorem dX10_isFree_38 : decode cX10_isFree 38 = .ok (.iload_n 2, 1) := by decide +kernel
theorem dX10_isFree_39 : decode cX10_isFree 39 = .ok (.ireturn, 1) := by decide +kernel
theorem dX10_isGuestItem_0 : decode cX10_isGuestItem 0 = .ok (.aload_n 0, 1) := by decide +kernel
theorem dX10_isGuestItem_1 : decode cX10_isGuestItem 1 = .ok (.invokevirtual 150, 3) := by decide +kernel
theorem dX10_isGuestItem_4 : decode cX10_isGuestItem 4 = .ok (.istore_n 1, 1) := by decide +kernel
theorem dX10_isGuestItem_5 : decode cX10_isGuestItem 5 = .ok (.iload_n 1, 1) := by decide +kernel
theorem dX10_isGuestItem_6 : decode cX10_isGuestItem 6 = .ok (.iconst 0, 1) := by decide +kernel
theorem dX10_isGuestItem_7 : decode cX10_isGuestItem 7 = .ok (.iconst 3, 1) := by decide +kernel
theorem dX10_isGuestItem_8 : decode cX10_isGuestItem 8 = .ok (.invokestatic 119, 3) := by decide +kernel
theorem dX10_isGuestItem_11 : decode cX10_isGuestItem 11 = .ok (.ifCond .eq 21, 3) := by decide +kernel
theorem dX10_isGuestItem_14 : decode cX10_isGuestItem 14 = .ok (.aload_n 0, 1) := by decide +kernel
theorem dX10_isGuestItem_15 : decode cX10_isGuestItem 15 = .ok (.getfield 109, 3) := by decide +kernel
theorem dX10_isGuestItem_18 : decode cX10_isGuestItem 18 = .ok (.bipush 6, 2) := by decide +kernel
theorem dX10_isGuestItem_20 : decode cX10_isGuestItem 20 = .ok (.if_icmp .eq 12, 3) := by decide +kernel
theorem dX10_isGuestItem_23 : decode cX10_isGuestItem 23 = .ok (.aload_n 0, 1) := by decide +kernel
theorem dX10_isGuestItem_24 : decode cX10_isGuestItem 24 = .ok (.bipush 44, 2) := by decide +kernel
theorem dX10_isGuestItem_26 : decode cX10_isGuestItem 26 = .ok (.invokevirtual 153, 3) := by decide +kernel
theorem dX10_isGuestItem_29 : decode cX10_isGuestItem 29 = .ok (.ifCond .ne 5, 3) := by decide +kernel
theorem dX10_isGuestItem_32 : decode cX10_isGuestItem 32 = .ok (.iconst 0, 1) := by decide +kernel
theorem dX10_isGuestItem_33 : decode cX10_isGuestItem 33 = .ok (.ireturn, 1) := by decide +kernel
theorem dX10_isGuestItem_34 : decode cX10_isGuestItem 34 = .ok (.aload_n 0, 1) := by decide +kernel
theorem dX10_isGuestItem_35 : decode cX10_isGuestItem 35 = .ok (.invokevirtual 150, 3) := by decide +kernel
theorem dX10_isGuestItem_38 : decode cX10_isGuestItem 38 = .ok (.istore_n 2, 1) := by decide +kernel
theorem dX10_isGuestItem_39 : decode cX10_isGuestItem 39 = .ok (.iload_n 2, 1) := by decide +kernel
theorem dX10_isGuestItem_40 : decode cX10_isGuestItem 40 = .ok (.bipush 9, 2) := by decide +kernel
theorem dX10_isGuestItem_42 : decode cX10_isGuestItem 42 = .ok (.if_icmp .eq 25, 3) := by decide +kernel
theorem dX10_isGuestItem_45 : decode cX10_isGuestItem 45 = .ok (.iload_n 2, 1) := by decide +kernel
theorem dX10_isGuestItem_46 : decode cX10_isGuestItem 46 = .ok (.iconst 0, 1) := by decide +kernel
theorem dX10_isGuestItem_47 : decode cX10_isGuestItem 47 = .ok (.aload_n 0, 1) := by decide +kernel
theorem dX10_isGuestItem_48 : decode cX10_isGuestItem 48 = .ok (.getfield 134, 3) := by decide +kernel
theorem dX10_isGuestItem_51 : decode cX10_isGuestItem 51 = .ok (.iconst 1, 1) := by decide +kernel
theorem dX10_isGuestItem_52 : decode cX10_isGuestItem 52 = .ok (.isub, 1) := by decide +kernel
theorem dX10_isGuestItem_53 : decode cX10_isGuestItem 53 = .ok (.invokestatic 119, 3) := by decide +kernel
theorem dX10_isGuestItem_56 : decode cX10_isGuestItem 56 = .ok (.ifCond .eq 20, 3) := by decide +kernel
theorem dX10_isGuestItem_59 : decode cX10_isGuestItem 59 = .ok (.aload_n 0, 1) := by decide +kernel
theorem dX10_isGuestItem_60 : decode cX10_isGuestItem 60 = .ok (.iload_n 2, 1) := by decide +kernel
theorem dX10_isGuestItem_61 : decode cX10_isGuestItem 61 = .ok (.invokevirtual 157, 3) := by decide +kernel
theorem dX10_isGuestItem_64 : decode cX10_isGuestItem 64 = .ok (.ifCond .eq 12, 3) := by decide +kernel
theorem dX10_isGuestItem_67 : decode cX10_isGuestItem 67 = .ok (.aload_n 0, 1) := by decide +kernel
theorem dX10_isGuestItem_68 : decode cX10_isGuestItem 68 = .ok (.bipush 44, 2) := by decide +kernel
theorem dX10_isGuestItem_70 : decode cX10_isGuestItem 70 = .ok (.invokevirtual 153, 3) := by decide +kernel
theorem dX10_isGuestItem_73 : decode cX10_isGuestItem 73 = .ok (.ifCond .ne 5, 3) := by decide +kernel
theorem dX10_isGuestItem_76 : decode cX10_isGuestItem 76 = .ok (.iconst 0, 1) := by decide +kernel
theorem dX10_isGuestItem_77 : decode cX10_isGuestItem 77 = .ok (.ireturn, 1) := by decide +kernel
theorem dX10_isGuestItem_78 : decode cX10_isGuestItem 78 = .ok (.aload_n 0, 1) := by decide +kernel
theorem dX10_isGuestItem_79 : decode cX10_isGuestItem 79 = .ok (.invokevirtual 150, 3) := by decide +kernel
theorem dX10_isGuestItem_82 : decode cX10_isGuestItem 82 = .ok (.istore_n 3, 1) := by decide +kernel
theorem dX10_isGuestItem_83 : decode cX10_isGuestItem 83 = .ok (.iload_n 3, 1) := by decide +kernel
theorem dX10_isGuestItem_84 : decode cX10_isGuestItem 84 = .ok (.iconst 0, 1) := by decide +kernel
theorem dX10_isGuestItem_85 : decode cX10_isGuestItem 85 = .ok (.iconst 1, 1) := by decide +kernel
theorem dX10_isGuestItem_86 : decode cX10_isGuestItem 86 = .ok (.aload_n 0, 1) := by decide +kernel
theorem dX10_isGuestItem_87 : decode cX10_isGuestItem 87 = .ok (.getfield 134, 3) := by decide +kernel
theorem dX10_isGuestItem_90 : decode cX10_isGuestItem 90 = .ok (.ishl, 1) := by decide +kernel
theorem dX10_isGuestItem_91 : decode cX10_isGuestItem 91 = .ok (.iconst 1, 1) := by decide +kernel
theorem dX10_isGuestItem_92 : decode cX10_isGuestItem 92 = .ok (.isub, 1) := by decide +kernel
theorem dX10_isGuestItem_93 : decode cX10_isGuestItem 93 = .ok (.invokestatic 119, 3) := by decide +kernel
theorem dX10_isGuestItem_96 : decode cX10_isGuestItem 96 = .ok (.ifCond .eq 12, 3) := by decide +kernel
theorem dX10_isGuestItem_99 : decode cX10_isGuestItem 99 = .ok (.aload_n 0, 1) := by decide +kernel
theorem dX10_isGuestItem_100 : decode cX10_isGuestItem 100 = .ok (.bipush 59, 2) := by decide +kernel
theorem dX10_isGuestItem_102 : decode cX10_isGuestItem 102 = .ok (.invokevirtual 153, 3) := by decide +kernel
theorem dX10_isGuestItem_105 : decode cX10_isGuestItem 105 = .ok (.ifCond .ne 5, 3) := by decide +kernel
theorem dX10_isGuestItem_108 : decode cX10_isGuestItem 108 = .ok (.iconst 0, 1) := by decide +kernel
theorem dX10_isGuestItem_109 : decode cX10_isGuestItem 109 = .ok (.ireturn, 1) := by decide +kernel
theorem dX10_isGuestItem_110 : decode cX10_isGuestItem 110 = .ok (.aload_n 0, 1) := by decide +kernel
theorem dX10_isGuestItem_111 : decode cX10_isGuestItem 111 = .ok (.getfield 49, 3) := by decide +kernel
theorem dX10_isGuestItem_114 : decode cX10_isGuestItem 114 = .ok (.aload_n 0, 1) := by decide +kernel
theorem dX10_isGuestItem_115 : decode cX10_isGuestItem 115 = .ok (.getfield 109, 3) := by decide +kernel
theorem dX10_isGuestItem_118 : decode cX10_isGuestItem 118 = .ok (.iload_n 1, 1) := by decide +kernel
theorem dX10_isGuestItem_119 : decode cX10_isGuestItem 119 = .ok (.iastore, 1) := by decide +kernel
theorem dX10_isGuestItem_120 : decode cX10_isGuestItem 120 = .ok (.aload_n 0, 1) := by decide +kernel
theorem dX10_isGuestItem_121 : decode cX10_isGuestItem 121 = .ok (.getfield 58, 3) := by decide +kernel
theorem dX10_isGuestItem_124 : decode cX10_isGuestItem 124 = .ok (.aload_n 0, 1) := by decide +kernel
theorem dX10_isGuestItem_125 : decode cX10_isGuestItem 125 = .ok (.getfield 109, 3) := by decide +kernel
theorem dX10_isGuestItem_128 : decode cX10_isGuestItem 128 = .ok (.iload_n 2, 1) := by decide +kernel
theorem dX10_isGuestItem_129 : decode cX10_isGuestItem 129 = .ok (.bipush 9, 2) := by decide +kernel
theorem dX10_isGuestItem_131 : decode cX10_isGuestItem 131 = .ok (.if_icmp .ne 7, 3) := by decide +kernel
theorem dX10_isGuestItem_134 : decode cX10_isGuestItem 134 = .ok (.iconst (-1), 1) := by decide +kernel
theorem dX10_isGuestItem_135 : decode cX10_isGuestItem 135 = .ok (.goto 4, 3) := by decide +kernel
theorem dX10_isGuestItem_138 : decode cX10_isGuestItem 138 = .ok (.iload_n 2, 1) := by decide +kernel
theorem dX10_isGuestItem_139 : decode cX10_isGuestItem 139 = .ok (.iastore, 1) := by decide +kernel
theorem dX10_isGuestItem_140 : decode cX10_isGuestItem 140 = .ok (.aload_n 0, 1) := by decide +kernel
theorem dX10_isGuestItem_141 : decode cX10_isGuestItem 141 = .ok (.getfield 52, 3) := by decide +kernel
theorem dX10_isGuestItem_144 : decode cX10_isGuestItem 144 = .ok (.aload_n 0, 1) := by decide +kernel
theorem dX10_isGuestItem_145 : decode cX10_isGuestItem 145 = .ok (.getfield 109, 3) := by decide +kernel
theorem dX10_isGuestItem_148 : decode cX10_isGuestItem 148 = .ok (.iload_n 3, 1) := by decide +kernel
theorem dX10_isGuestItem_149 : decode cX10_isGuestItem 149 = .ok (.iastore, 1) := by decide +kernel
theorem dX10_isGuestItem_150 : decode cX10_isGuestItem 150 = .ok (.iconst 0, 1) := by decide +kernel
theorem dX10_isGuestItem_151 : decode cX10_isGuestItem 151 = .ok (.istore 4, 2) := by decide +kernel
theorem dX10_isGuestItem_153 : decode cX10_isGuestItem 153 = .ok (.iload 4, 2) := by decide +kernel
theorem dX10_isGuestItem_155 : decode cX10_isGuestItem 155 = .ok (.bipush 6, 2) := by decide +kernel
theorem dX10_isGuestItem_157 : decode cX10_isGuestItem 157 = .ok (.if_icmp .ge 25, 3) := by decide +kernel
theorem dX10_isGuestItem_160 : decode cX10_isGuestItem 160 = .ok (.aload_n 0, 1) := by decide +kernel
theorem dX10_isGuestItem_161 : decode cX10_isGuestItem 161 = .ok (.getfield 55, 3) := by decide +kernel
theorem dX10_isGuestItem_164 : decode cX10_isGuestItem 164 = .ok (.bipush 6, 2) := by decide +kernel
end
section
theorem dX10_isGuestItem_166 : decode cX10_isGuestItem 166 = .ok (.aload_n 0, 1) := by decide +kernel
theorem dX10_isGuestItem_167 : decode cX10_isGuestItem 167 = .ok (.getfield 109, 3) := by decide +kernel
theorem dX10_isGuestItem_170 : decode cX10_isGuestItem 170 = .ok (.imul, 1) := by decide +kernel
theorem dX10_isGuestItem_171 : decode cX10_isGuestItem 171 = .ok (.iload 4, 2) := by decide +kernel
theorem dX10_isGuestItem_173 : decode cX10_isGuestItem 173 = .ok (.iadd, 1) := by decide +kernel
theorem dX10_isGuestItem_174 : decode cX10_isGuestItem 174 = .ok (.iconst 1, 1) := by decide +kernel
theorem dX10_isGuestItem_175 : decode cX10_isGuestItem 175 = .ok (.iastore, 1) := by decide +kernel
theorem dX10_isGuestItem_176 : decode cX10_isGuestItem 176 = .ok (.iinc 4 1, 3) := by decide +kernel
theorem dX10_isGuestItem_179 : decode cX10_isGuestItem 179 = .ok (.goto (-26), 3) := by decide +kernel
theorem dX10_isGuestItem_182 : decode cX10_isGuestItem 182 = .ok (.aload_n 0, 1) := by decide +kernel
theorem dX10_isGuestItem_183 : decode cX10_isGuestItem 183 = .ok (.dup, 1) := by decide +kernel
theorem dX10_isGuestItem_184 : decode cX10_isGuestItem 184 = .ok (.getfield 109, 3) := by decide +kernel
theorem dX10_isGuestItem_187 : decode cX10_isGuestItem 187 = .ok (.iconst 1, 1) := by decide +kernel
theorem dX10_isGuestItem_188 : decode cX10_isGuestItem 188 = .ok (.iadd, 1) := by decide +kernel
theorem dX10_isGuestItem_189 : decode cX10_isGuestItem 189 = .ok (.putfield 109, 3) := by decide +kernel
theorem dX10_isGuestItem_192 : decode cX10_isGuestItem 192 = .ok (.iconst 1, 1) := by decide +kernel
theorem dX10_isGuestItem_193 : decode cX10_isGuestItem 193 = .ok (.ireturn, 1) := by decide +kernel
theorem dX10_isWorthItem_0 : decode cX10_isWorthItem 0 = .ok (.iconst 0, 1) := by decide +kernel
theorem dX10_isWorthItem_1 : decode cX10_isWorthItem 1 = .ok (.istore_n 1, 1) := by decide +kernel
theorem dX10_isWorthItem_2 : decode cX10_isWorthItem 2 = .ok (.iload_n 1, 1) := by decide +kernel
theorem dX10_isWorthItem_3 : decode cX10_isWorthItem 3 = .ok (.aload_n 0, 1) := by decide +kernel
theorem dX10_isWorthItem_4 : decode cX10_isWorthItem 4 = .ok (.getfield 134, 3) := by decide +kernel
theorem dX10_isWorthItem_7 : decode cX10_isWorthItem 7 = .ok (.if_icmp .ge 65, 3) := by decide +kernel
theorem dX10_isWorthItem_10 : decode cX10_isWorthItem 10 = .ok (.aload_n 0, 1) := by decide +kernel
theorem dX10_isWorthItem_11 : decode cX10_isWorthItem 11 = .ok (.getfield 109, 3) := by decide +kernel
theorem dX10_isWorthItem_14 : decode cX10_isWorthItem 14 = .ok (.ifCond .eq 17, 3) := by decide +kernel
theorem dX10_isWorthItem_17 : decode cX10_isWorthItem 17 = .ok (.aload_n 0, 1) := by decide +kernel
theorem dX10_isWorthItem_18 : decode cX10_isWorthItem 18 = .ok (.invokevirtual 146, 3) := by decide +kernel
theorem dX10_isWorthItem_21 : decode cX10_isWorthItem 21 = .ok (.bipush 48, 2) := by decide +kernel
theorem dX10_isWorthItem_23 : decode cX10_isWorthItem 23 = .ok (.bipush 57, 2) := by decide +kernel
theorem dX10_isWorthItem_25 : decode cX10_isWorthItem 25 = .ok (.invokestatic 119, 3) := by decide +kernel
theorem dX10_isWorthItem_28 : decode cX10_isWorthItem 28 = .ok (.ifCond .ne 5, 3) := by decide +kernel
theorem dX10_isWorthItem_31 : decode cX10_isWorthItem 31 = .ok (.iconst 0, 1) := by decide +kernel
theorem dX10_isWorthItem_32 : decode cX10_isWorthItem 32 = .ok (.ireturn, 1) := by decide +kernel
theorem dX10_isWorthItem_33 : decode cX10_isWorthItem 33 = .ok (.aload_n 0, 1) := by decide +kernel
theorem dX10_isWorthItem_34 : decode cX10_isWorthItem 34 = .ok (.getfield 55, 3) := by decide +kernel
theorem dX10_isWorthItem_37 : decode cX10_isWorthItem 37 = .ok (.bipush 6, 2) := by decide +kernel
theorem dX10_isWorthItem_39 : decode cX10_isWorthItem 39 = .ok (.aload_n 0, 1) := by decide +kernel
theorem dX10_isWorthItem_40 : decode cX10_isWorthItem 40 = .ok (.getfield 109, 3) := by decide +kernel
theorem dX10_isWorthItem_43 : decode cX10_isWorthItem 43 = .ok (.iconst 1, 1) := by decide +kernel
theorem dX10_isWorthItem_44 : decode cX10_isWorthItem 44 = .ok (.isub, 1) := by decide +kernel
theorem dX10_isWorthItem_45 : decode cX10_isWorthItem 45 = .ok (.imul, 1) := by decide +kernel
theorem dX10_isWorthItem_46 : decode cX10_isWorthItem 46 = .ok (.iload_n 1, 1) := by decide +kernel
theorem dX10_isWorthItem_47 : decode cX10_isWorthItem 47 = .ok (.iadd, 1) := by decide +kernel
theorem dX10_isWorthItem_48 : decode cX10_isWorthItem 48 = .ok (.aload_n 0, 1) := by decide +kernel
theorem dX10_isWorthItem_49 : decode cX10_isWorthItem 49 = .ok (.invokevirtual 146, 3) := by decide +kernel
theorem dX10_isWorthItem_52 : decode cX10_isWorthItem 52 = .ok (.bipush 48, 2) := by decide +kernel
theorem dX10_isWorthItem_54 : decode cX10_isWorthItem 54 = .ok (.isub, 1) := by decide +kernel
theorem dX10_isWorthItem_55 : decode cX10_isWorthItem 55 = .ok (.iastore, 1) := by decide +kernel
theorem dX10_isWorthItem_56 : decode cX10_isWorthItem 56 = .ok (.aload_n 0, 1) := by decide +kernel
theorem dX10_isWorthItem_57 : decode cX10_isWorthItem 57 = .ok (.dup, 1) := by decide +kernel
theorem dX10_isWorthItem_58 : decode cX10_isWorthItem 58 = .ok (.getfield 131, 3) := by decide +kernel
theorem dX10_isWorthItem_61 : decode cX10_isWorthItem 61 = .ok (.iconst 1, 1) := by decide +kernel
theorem dX10_isWorthItem_62 : decode cX10_isWorthItem 62 = .ok (.iadd, 1) := by decide +kernel
theorem dX10_isWorthItem_63 : decode cX10_isWorthItem 63 = .ok (.putfield 131, 3) := by decide +kernel
theorem dX10_isWorthItem_66 : decode cX10_isWorthItem 66 = .ok (.iinc 1 1, 3) := by decide +kernel
theorem dX10_isWorthItem_69 : decode cX10_isWorthItem 69 = .ok (.goto (-67), 3) := by decide +kernel
theorem dX10_isWorthItem_72 : decode cX10_isWorthItem 72 = .ok (.aload_n 0, 1) := by decide +kernel
theorem dX10_isWorthItem_73 : decode cX10_isWorthItem 73 = .ok (.bipush 59, 2) := by decide +kernel
theorem dX10_isWorthItem_75 : decode cX10_isWorthItem 75 = .ok (.invokevirtual 153, 3) := by decide +kernel
theorem dX10_isWorthItem_78 : decode cX10_isWorthItem 78 = .ok (.ireturn, 1) := by decide +kernel
theorem dX10_isItem_0 : decode cX10_isItem 0 = .ok (.aload_n 0, 1) := by decide +kernel
theorem dX10_isItem_1 : decode cX10_isItem 1 = .ok (.invokevirtual 146, 3) := by decide +kernel
theorem dX10_isItem_4 : decode cX10_isItem 4 = .ok (.istore_n 1, 1) := by decide +kernel
theorem dX10_isItem_5 : decode cX10_isItem 5 = .ok (.aload_n 0, 1) := by decide +kernel
theorem dX10_isItem_6 : decode cX10_isItem 6 = .ok (.dup, 1) := by decide +kernel
theorem dX10_isItem_7 : decode cX10_isItem 7 = .ok (.getfield 131, 3) := by decide +kernel
theorem dX10_isItem_10 : decode cX10_isItem 10 = .ok (.iconst 1, 1) := by decide +kernel
theorem dX10_isItem_11 : decode cX10_isItem 11 = .ok (.iadd, 1) := by decide +kernel
theorem dX10_isItem_12 : decode cX10_isItem 12 = .ok (.putfield 131, 3) := by decide +kernel
theorem dX10_isItem_15 : decode cX10_isItem 15 = .ok (.iload_n 1, 1) := by decide +kernel
theorem dX10_isItem_16 : decode cX10_isItem 16 = .ok (.bipush 103, 2) := by decide +kernel
theorem dX10_isItem_18 : decode cX10_isItem 18 = .ok (.if_icmp .ne 8, 3) := by decide +kernel
theorem dX10_isItem_21 : decode cX10_isItem 21 = .ok (.aload_n 0, 1) := by decide +kernel
theorem dX10_isItem_22 : decode cX10_isItem 22 = .ok (.invokevirtual 160, 3) := by decide +kernel
theorem dX10_isItem_25 : decode cX10_isItem 25 = .ok (.ireturn, 1) := by decide +kernel
theorem dX10_isItem_26 : decode cX10_isItem 26 = .ok (.iload_n 1, 1) := by decide +kernel
theorem dX10_isItem_27 : decode cX10_isItem 27 = .ok (.bipush 119, 2) := by decide +kernel
theorem dX10_isItem_29 : decode cX10_isItem 29 = .ok (.if_icmp .ne 8, 3) := by decide +kernel
theorem dX10_isItem_32 : decode cX10_isItem 32 = .ok (.aload_n 0, 1) := by decide +kernel
theorem dX10_isItem_33 : decode cX10_isItem 33 = .ok (.invokevirtual 164, 3) := by decide +kernel
theorem dX10_isItem_36 : decode cX10_isItem 36 = .ok (.ireturn, 1) := by decide +kernel
theorem dX10_isItem_37 : decode cX10_isItem 37 = .ok (.iload_n 1, 1) := by decide +kernel
theorem dX10_isItem_38 : decode cX10_isItem 38 = .ok (.bipush 100, 2) := by decide +kernel
theorem dX10_isItem_40 : decode cX10_isItem 40 = .ok (.if_icmp .ne 7, 3) := by decide +kernel
theorem dX10_isItem_43 : decode cX10_isItem 43 = .ok (.iconst 1, 1) := by decide +kernel
theorem dX10_isItem_44 : decode cX10_isItem 44 = .ok (.goto 4, 3) := by decide +kernel
theorem dX10_isItem_47 : decode cX10_isItem 47 = .ok (.iconst 0, 1) := by decide +kernel
theorem dX10_isItem_48 : decode cX10_isItem 48 = .ok (.istore_n 2, 1) := by decide +kernel
theorem dX10_isItem_49 : decode cX10_isItem 49 = .ok (.iload_n 1, 1) := by decide +kernel
theorem dX10_isItem_50 : decode cX10_isItem 50 = .ok (.bipush 100, 2) := by decide +kernel
theorem dX10_isItem_52 : decode cX10_isItem 52 = .ok (.if_icmp .ne 19, 3) := by decide +kernel
theorem dX10_isItem_55 : decode cX10_isItem 55 = .ok (.aload_n 0, 1) := by decide +kernel
theorem dX10_isItem_56 : decode cX10_isItem 56 = .ok (.getfield 109, 3) := by decide +kernel
theorem dX10_isItem_59 : decode cX10_isItem 59 = .ok (.ifCond .le 7, 3) := by decide +kernel
theorem dX10_isItem_62 : decode cX10_isItem 62 = .ok (.iconst (-1), 1) := by decide +kernel
theorem dX10_isItem_63 : decode cX10_isItem 63 = .ok (.goto 41, 3) := by decide +kernel
theorem dX10_isItem_66 : decode cX10_isItem 66 = .ok (.bipush 6, 2) := by decide +kernel
theorem dX10_isItem_68 : decode cX10_isItem 68 = .ok (.goto 36, 3) := by decide +kernel
theorem dX10_isItem_71 : decode cX10_isItem 71 = .ok (.iload_n 1, 1) := by decide +kernel
theorem dX10_isItem_72 : decode cX10_isItem 72 = .ok (.bipush 114, 2) := by decide +kernel
theorem dX10_isItem_74 : decode cX10_isItem 74 = .ok (.if_icmp .ne 7, 3) := by decide +kernel
theorem dX10_isItem_77 : decode cX10_isItem 77 = .ok (.iconst 1, 1) := by decide +kernel
theorem dX10_isItem_78 : decode cX10_isItem 78 = .ok (.goto 26, 3) := by decide +kernel
theorem dX10_isItem_81 : decode cX10_isItem 81 = .ok (.iload_n 1, 1) := by decide +kernel
theorem dX10_isItem_82 : decode cX10_isItem 82 = .ok (.bipush 115, 2) := by decide +kernel
theorem dX10_isItem_84 : decode cX10_isItem 84 = .ok (.if_icmp .ne 8, 3) := by decide +kernel
theorem dX10_isItem_87 : decode cX10_isItem 87 = .ok (.bipush 99, 2) := by decide +kernel
theorem dX10_isItem_89 : decode cX10_isItem 89 = .ok (.goto 15, 3) := by decide +kernel
theorem dX10_isItem_92 : decode cX10_isItem 92 = .ok (.iload_n 1, 1) := by decide +kernel
theorem dX10_isItem_93 : decode cX10_isItem 93 = .ok (.bipush 99, 2) := by decide +kernel
theorem dX10_isItem_95 : decode cX10_isItem 95 = .ok (.if_icmp .ne 8, 3) := by decide +kernel
theorem dX10_isItem_98 : decode cX10_isItem 98 = .ok (.bipush 9, 2) := by decide +kernel
theorem dX10_isItem_100 : decode cX10_isItem 100 = .ok (.goto 4, 3) := by decide +kernel
theorem dX10_isItem_103 : decode cX10_isItem 103 = .ok (.iconst (-1), 1) := by decide +kernel
theorem dX10_isItem_104 : decode cX10_isItem 104 = .ok (.istore_n 3, 1) := by decide +kernel
theorem dX10_isItem_105 : decode cX10_isItem 105 = .ok (.aload_n 0, 1) := by decide +kernel
theorem dX10_isItem_106 : decode cX10_isItem 106 = .ok (.invokevirtual 150, 3) := by decide +kernel
theorem dX10_isItem_109 : decode cX10_isItem 109 = .ok (.istore 4, 2) := by decide +kernel
theorem dX10_isItem_111 : decode cX10_isItem 111 = .ok (.iload 4, 2) := by decide +kernel
theorem dX10_isItem_113 : decode cX10_isItem 113 = .ok (.iload_n 2, 1) := by decide +kernel
theorem dX10_isItem_114 : decode cX10_isItem 114 = .ok (.iload_n 3, 1) := by decide +kernel
theorem dX10_isItem_115 : decode cX10_isItem 115 = .ok (.invokestatic 119, 3) := by decide +kernel
theorem dX10_isItem_118 : decode cX10_isItem 118 = .ok (.ifCond .eq 12, 3) := by decide +kernel
theorem dX10_isItem_121 : decode cX10_isItem 121 = .ok (.aload_n 0, 1) := by decide +kernel
theorem dX10_isItem_122 : decode cX10_isItem 122 = .ok (.bipush 59, 2) := by decide +kernel
theorem dX10_isItem_124 : decode cX10_isItem 124 = .ok (.invokevirtual 153, 3) := by decide +kernel
theorem dX10_isItem_127 : decode cX10_isItem 127 = .ok (.ifCond .ne 5, 3) := by decide +kernel
theorem dX10_isItem_130 : decode cX10_isItem 130 = .ok (.iconst 0, 1) := by decide +kernel
theorem dX10_isItem_131 : decode cX10_isItem 131 = .ok (.ireturn, 1) := by decide +kernel
theorem dX10_isItem_132 : decode cX10_isItem 132 = .ok (.aload_n 0, 1) := by decide +kernel
theorem dX10_isItem_133 : decode cX10_isItem 133 = .ok (.iload_n 1, 1) := by decide +kernel
theorem dX10_isItem_134 : decode cX10_isItem 134 = .ok (.bipush 100, 2) := by decide +kernel
theorem dX10_isItem_136 : decode cX10_isItem 136 = .ok (.if_icmp .ne 8, 3) := by decide +kernel
theorem dX10_isItem_139 : decode cX10_isItem 139 = .ok (.iload 4, 2) := by decide +kernel
theorem dX10_isItem_141 : decode cX10_isItem 141 = .ok (.goto 7, 3) := by decide +kernel
theorem dX10_isItem_144 : decode cX10_isItem 144 = .ok (.aload_n 0, 1) := by decide +kernel
theorem dX10_isItem_145 : decode cX10_isItem 145 = .ok (.getfield 134, 3) := by decide +kernel
theorem dX10_isItem_148 : decode cX10_isItem 148 = .ok (.putfield 134, 3) := by decide +kernel
theorem dX10_isItem_151 : decode cX10_isItem 151 = .ok (.aload_n 0, 1) := by decide +kernel
theorem dX10_isItem_152 : decode cX10_isItem 152 = .ok (.iload_n 1, 1) := by decide +kernel
theorem dX10_isItem_153 : decode cX10_isItem 153 = .ok (.bipush 114, 2) := by decide +kernel
theorem dX10_isItem_155 : decode cX10_isItem 155 = .ok (.if_icmp .ne 8, 3) := by decide +kernel
theorem dX10_isItem_158 : decode cX10_isItem 158 = .ok (.iload 4, 2) := by decide +kernel
theorem dX10_isItem_160 : decode cX10_isItem 160 = .ok (.goto 7, 3) := by decide +kernel
theorem dX10_isItem_163 : decode cX10_isItem 163 = .ok (.aload_n 0, 1) := by decide +kernel
theorem dX10_isItem_164 : decode cX10_isItem 164 = .ok (.getfield 137, 3) := by decide +kernel
theorem dX10_isItem_167 : decode cX10_isItem 167 = .ok (.putfield 137, 3) := by decide +kernel
theorem dX10_isItem_170 : decode cX10_isItem 170 = .ok (.aload_n 0, 1) := by decide +kernel
theorem dX10_isItem_171 : decode cX10_isItem 171 = .ok (.iload_n 1, 1) := by decide +kernel
theorem dX10_isItem_172 : decode cX10_isItem 172 = .ok (.bipush 115, 2) := by decide +kernel
theorem dX10_isItem_174 : decode cX10_isItem 174 = .ok (.if_icmp .ne 8, 3) := by decide +kernel
theorem dX10_isItem_177 : decode cX10_isItem 177 = .ok (.iload 4, 2) := by decide +kernel
theorem dX10_isItem_179 : decode cX10_isItem 179 = .ok (.goto 7, 3) := by decide +kernel
theorem dX10_isItem_182 : decode cX10_isItem 182 = .ok (.aload_n 0, 1) := by decide +kernel
theorem dX10_isItem_183 : decode cX10_isItem 183 = .ok (.getfield 140, 3) := by decide +kernel
theorem dX10_isItem_186 : decode cX10_isItem 186 = .ok (.putfield 140, 3) := by decide +kernel
theorem dX10_isItem_189 : decode cX10_isItem 189 = .ok (.aload_n 0, 1) := by decide +kernel
theorem dX10_isItem_190 : decode cX10_isItem 190 = .ok (.iload_n 1, 1) := by decide +kernel
theorem dX10_isItem_191 : decode cX10_isItem 191 = .ok (.bipush 99, 2) := by decide +kernel
theorem dX10_isItem_193 : decode cX10_isItem 193 = .ok (.if_icmp .ne 8, 3) := by decide +kernel
theorem dX10_isItem_196 : decode cX10_isItem 196 = .ok (.iload 4, 2) := by decide +kernel
theorem dX10_isItem_198 : decode cX10_isItem 198 = .ok (.goto 7, 3) := by decide +kernel
theorem dX10_isItem_201 : decode cX10_isItem 201 = .ok (.aload_n 0, 1) := by decide +kernel
theorem dX10_isItem_202 : decode cX10_isItem 202 = .ok (.getfield 143, 3) := by decide +kernel
theorem dX10_isItem_205 : decode cX10_isItem 205 = .ok (.putfield 143, 3) := by decide +kernel
theorem dX10_isItem_208 : decode cX10_isItem 208 = .ok (.iconst 1, 1) := by decide +kernel
theorem dX10_isItem_209 : decode cX10_isItem 209 = .ok (.ireturn, 1) := by decide +kernel
theorem dX10_findFault_0 : decode cX10_findFault 0 = .ok (.aload_n 0, 1) := by decide +kernel
theorem dX10_findFault_1 : decode cX10_findFault 1 = .ok (.invokevirtual 106, 3) := by decide +kernel
theorem dX10_findFault_4 : decode cX10_findFault 4 = .ok (.aload_n 0, 1) := by decide +kernel
theorem dX10_findFault_5 : decode cX10_findFault 5 = .ok (.getfield 131, 3) := by decide +kernel
theorem dX10_findFault_8 : decode cX10_findFault 8 = .ok (.aload_n 0, 1) := by decide +kernel
theorem dX10_findFault_9 : decode cX10_findFault 9 = .ok (.getfield 126, 3) := by decide +kernel
theorem dX10_findFault_12 : decode cX10_findFault 12 = .ok (.if_icmp .ge 20, 3) := by decide +kernel
theorem dX10_findFault_15 : decode cX10_findFault 15 = .ok (.aload_n 0, 1) := by decide +kernel
theorem dX10_findFault_16 : decode cX10_findFault 16 = .ok (.getfield 131, 3) := by decide +kernel
theorem dX10_findFault_19 : decode cX10_findFault 19 = .ok (.istore_n 1, 1) := by decide +kernel
theorem dX10_findFault_20 : decode cX10_findFault 20 = .ok (.aload_n 0, 1) := by decide +kernel
theorem dX10_findFault_21 : decode cX10_findFault 21 = .ok (.invokevirtual 167, 3) := by decide +kernel
theorem dX10_findFault_24 : decode cX10_findFault 24 = .ok (.ifCond .ne 5, 3) := by decide +kernel
theorem dX10_findFault_27 : decode cX10_findFault 27 = .ok (.iload_n 1, 1) := by decide +kernel
theorem dX10_findFault_28 : decode cX10_findFault 28 = .ok (.ireturn, 1) := by decide +kernel
theorem dX10_findFault_29 : decode cX10_findFault 29 = .ok (.goto (-25), 3) := by decide +kernel
theorem dX10_findFault_32 : decode cX10_findFault 32 = .ok (.bipush (-4), 2) := by decide +kernel
theorem dX10_findFault_34 : decode cX10_findFault 34 = .ok (.ireturn, 1) := by decide +kernel
theorem dX10_fault_0 : decode cX10_fault 0 = .ok (.aload_n 0, 1) := by decide +kernel
theorem dX10_fault_1 : decode cX10_fault 1 = .ok (.invokevirtual 170, 3) := by decide +kernel
theorem dX10_fault_4 : decode cX10_fault 4 = .ok (.ireturn, 1) := by decide +kernel
theorem dX10_lays_0 : decode cX10_lays 0 = .ok (.aload_n 0, 1) := by decide +kernel
theorem dX10_lays_1 : decode cX10_lays 1 = .ok (.aload_n 0, 1) := by decide +kernel
theorem dX10_lays_2 : decode cX10_lays 2 = .ok (.getfield 109, 3) := by decide +kernel
theorem dX10_lays_5 : decode cX10_lays 5 = .ok (.putfield 116, 3) := by decide +kernel
theorem dX10_lays_8 : decode cX10_lays 8 = .ok (.aload_n 0, 1) := by decide +kernel
theorem dX10_lays_9 : decode cX10_lays 9 = .ok (.aload_n 0, 1) := by decide +kernel
theorem dX10_lays_10 : decode cX10_lays 10 = .ok (.getfield 134, 3) := by decide +kernel
theorem dX10_lays_13 : decode cX10_lays 13 = .ok (.putfield 123, 3) := by decide +kernel
theorem dX10_lays_16 : decode cX10_lays 16 = .ok (.aload_n 0, 1) := by decide +kernel
theorem dX10_lays_17 : decode cX10_lays 17 = .ok (.aload_n 0, 1) := by decide +kernel
theorem dX10_lays_18 : decode cX10_lays 18 = .ok (.getfield 137, 3) := by decide +kernel
theorem dX10_lays_21 : decode cX10_lays 21 = .ok (.iconst 1, 1) := by decide +kernel
theorem dX10_lays_22 : decode cX10_lays 22 = .ok (.if_icmp .ne 7, 3) := by decide +kernel
theorem dX10_lays_25 : decode cX10_lays 25 = .ok (.iconst 1, 1) := by decide +kernel
theorem dX10_lays_26 : decode cX10_lays 26 = .ok (.goto 4, 3) := by decide +kernel
theorem dX10_lays_29 : decode cX10_lays 29 = .ok (.iconst 0, 1) := by decide +kernel
theorem dX10_lays_30 : decode cX10_lays 30 = .ok (.putfield 173, 3) := by decide +kernel
theorem dX10_lays_33 : decode cX10_lays 33 = .ok (.aload_n 0, 1) := by decide +kernel
theorem dX10_lays_34 : decode cX10_lays 34 = .ok (.aload_n 0, 1) := by decide +kernel
theorem dX10_lays_35 : decode cX10_lays 35 = .ok (.getfield 140, 3) := by decide +kernel
theorem dX10_lays_38 : decode cX10_lays 38 = .ok (.putfield 177, 3) := by decide +kernel
theorem dX10_lays_41 : decode cX10_lays 41 = .ok (.aload_n 0, 1) := by decide +kernel
theorem dX10_lays_42 : decode cX10_lays 42 = .ok (.aload_n 0, 1) := by decide +kernel
theorem dX10_lays_43 : decode cX10_lays 43 = .ok (.getfield 143, 3) := by decide +kernel
theorem dX10_lays_46 : decode cX10_lays 46 = .ok (.putfield 180, 3) := by decide +kernel
theorem dX10_lays_49 : decode cX10_lays 49 = .ok (.iconst 0, 1) := by decide +kernel
theorem dX10_lays_50 : decode cX10_lays 50 = .ok (.istore_n 1, 1) := by decide +kernel
theorem dX10_lays_51 : decode cX10_lays 51 = .ok (.iload_n 1, 1) := by decide +kernel
theorem dX10_lays_52 : decode cX10_lays 52 = .ok (.aload_n 0, 1) := by decide +kernel
theorem dX10_lays_53 : decode cX10_lays 53 = .ok (.getfield 116, 3) := by decide +kernel
theorem dX10_lays_56 : decode cX10_lays 56 = .ok (.if_icmp .ge 121, 3) := by decide +kernel
theorem dX10_lays_59 : decode cX10_lays 59 = .ok (.aload_n 0, 1) := by decide +kernel
theorem dX10_lays_60 : decode cX10_lays 60 = .ok (.getfield 7, 3) := by decide +kernel
theorem dX10_lays_63 : decode cX10_lays 63 = .ok (.iload_n 1, 1) := by decide +kernel
theorem dX10_lays_64 : decode cX10_lays 64 = .ok (.aload_n 0, 1) := by decide +kernel
theorem dX10_lays_65 : decode cX10_lays 65 = .ok (.getfield 49, 3) := by decide +kernel
theorem dX10_lays_68 : decode cX10_lays 68 = .ok (.iload_n 1, 1) := by decide +kernel
theorem dX10_lays_69 : decode cX10_lays 69 = .ok (.iaload, 1) := by decide +kernel
theorem dX10_lays_70 : decode cX10_lays 70 = .ok (.iastore, 1) := by decide +kernel
theorem dX10_lays_71 : decode cX10_lays 71 = .ok (.aload_n 0, 1) := by decide +kernel
theorem dX10_lays_72 : decode cX10_lays 72 = .ok (.getfield 13, 3) := by decide +kernel
theorem dX10_lays_75 : decode cX10_lays 75 = .ok (.iload_n 1, 1) := by decide +kernel
theorem dX10_lays_76 : decode cX10_lays 76 = .ok (.aload_n 0, 1) := by decide +kernel
theorem dX10_lays_77 : decode cX10_lays 77 = .ok (.getfield 52, 3) := by decide +kernel
theorem dX10_lays_80 : decode cX10_lays 80 = .ok (.iload_n 1, 1) := by decide +kernel
theorem dX10_lays_81 : decode cX10_lays 81 = .ok (.iaload, 1) := by decide +kernel
theorem dX10_lays_82 : decode cX10_lays 82 = .ok (.iastore, 1) := by decide +kernel
theorem dX10_lays_83 : decode cX10_lays 83 = .ok (.aload_n 0, 1) := by decide +kernel
theorem dX10_lays_84 : decode cX10_lays 84 = .ok (.getfield 19, 3) := by decide +kernel
theorem dX10_lays_87 : decode cX10_lays 87 = .ok (.iload_n 1, 1) := by decide +kernel
theorem dX10_lays_88 : decode cX10_lays 88 = .ok (.aload_n 0, 1) := by decide +kernel
theorem dX10_lays_89 : decode cX10_lays 89 = .ok (.getfield 58, 3) := by decide +kernel
theorem dX10_lays_92 : decode cX10_lays 92 = .ok (.iload_n 1, 1) := by decide +kernel
theorem dX10_lays_93 : decode cX10_lays 93 = .ok (.iaload, 1) := by decide +kernel
theorem dX10_lays_94 : decode cX10_lays 94 = .ok (.iastore, 1) := by decide +kernel
theorem dX10_lays_95 : decode cX10_lays 95 = .ok (.aload_n 0, 1) := by decide +kernel
theorem dX10_lays_96 : decode cX10_lays 96 = .ok (.getfield 22, 3) := by decide +kernel
theorem dX10_lays_99 : decode cX10_lays 99 = .ok (.iload_n 1, 1) := by decide +kernel
theorem dX10_lays_100 : decode cX10_lays 100 = .ok (.aload_n 0, 1) := by decide +kernel
theorem dX10_lays_101 : decode cX10_lays 101 = .ok (.getfield 19, 3) := by decide +kernel
theorem dX10_lays_104 : decode cX10_lays 104 = .ok (.iload_n 1, 1) := by decide +kernel
theorem dX10_lays_105 : decode cX10_lays 105 = .ok (.iaload, 1) := by decide +kernel
theorem dX10_lays_106 : decode cX10_lays 106 = .ok (.iastore, 1) := by decide +kernel
theorem dX10_lays_107 : decode cX10_lays 107 = .ok (.aload_n 0, 1) := by decide +kernel
theorem dX10_lays_108 : decode cX10_lays 108 = .ok (.getfield 25, 3) := by decide +kernel
theorem dX10_lays_111 : decode cX10_lays 111 = .ok (.iload_n 1, 1) := by decide +kernel
theorem dX10_lays_112 : decode cX10_lays 112 = .ok (.aload_n 0, 1) := by decide +kernel
theorem dX10_lays_113 : decode cX10_lays 113 = .ok (.getfield 19, 3) := by decide +kernel
theorem dX10_lays_116 : decode cX10_lays 116 = .ok (.iload_n 1, 1) := by decide +kernel
theorem dX10_lays_117 : decode cX10_lays 117 = .ok (.iaload, 1) := by decide +kernel
theorem dX10_lays_118 : decode cX10_lays 118 = .ok (.iconst (-1), 1) := by decide +kernel
theorem dX10_lays_119 : decode cX10_lays 119 = .ok (.if_icmp .ne 7, 3) := by decide +kernel
theorem dX10_lays_122 : decode cX10_lays 122 = .ok (.iconst 0, 1) := by decide +kernel
theorem dX10_lays_123 : decode cX10_lays 123 = .ok (.goto 11, 3) := by decide +kernel
theorem dX10_lays_126 : decode cX10_lays 126 = .ok (.iconst 1, 1) := by decide +kernel
theorem dX10_lays_127 : decode cX10_lays 127 = .ok (.aload_n 0, 1) := by decide +kernel
theorem dX10_lays_128 : decode cX10_lays 128 = .ok (.getfield 19, 3) := by decide +kernel
theorem dX10_lays_131 : decode cX10_lays 131 = .ok (.iload_n 1, 1) := by decide +kernel
theorem dX10_lays_132 : decode cX10_lays 132 = .ok (.iaload, 1) := by decide +kernel
theorem dX10_lays_133 : decode cX10_lays 133 = .ok (.ishl, 1) := by decide +kernel
theorem dX10_lays_134 : decode cX10_lays 134 = .ok (.iastore, 1) := by decide +kernel
theorem dX10_lays_135 : decode cX10_lays 135 = .ok (.iconst 0, 1) := by decide +kernel
theorem dX10_lays_136 : decode cX10_lays 136 = .ok (.istore_n 2, 1) := by decide +kernel
theorem dX10_lays_137 : decode cX10_lays 137 = .ok (.iload_n 2, 1) := by decide +kernel
theorem dX10_lays_138 : decode cX10_lays 138 = .ok (.bipush 6, 2) := by decide +kernel
theorem dX10_lays_140 : decode cX10_lays 140 = .ok (.if_icmp .ge 31, 3) := by decide +kernel
theorem dX10_lays_143 : decode cX10_lays 143 = .ok (.aload_n 0, 1) := by decide +kernel
theorem dX10_lays_144 : decode cX10_lays 144 = .ok (.getfield 16, 3) := by decide +kernel
theorem dX10_lays_147 : decode cX10_lays 147 = .ok (.bipush 6, 2) := by decide +kernel
theorem dX10_lays_149 : decode cX10_lays 149 = .ok (.iload_n 1, 1) := by decide +kernel
theorem dX10_lays_150 : decode cX10_lays 150 = .ok (.imul, 1) := by decide +kernel
theorem dX10_lays_151 : decode cX10_lays 151 = .ok (.iload_n 2, 1) := by decide +kernel
theorem dX10_lays_152 : decode cX10_lays 152 = .ok (.iadd, 1) := by decide +kernel
theorem dX10_lays_153 : decode cX10_lays 153 = .ok (.aload_n 0, 1) := by decide +kernel
theorem dX10_lays_154 : decode cX10_lays 154 = .ok (.getfield 55, 3) := by decide +kernel
theorem dX10_lays_157 : decode cX10_lays 157 = .ok (.bipush 6, 2) := by decide +kernel
theorem dX10_lays_159 : decode cX10_lays 159 = .ok (.iload_n 1, 1) := by decide +kernel
theorem dX10_lays_160 : decode cX10_lays 160 = .ok (.imul, 1) := by decide +kernel
theorem dX10_lays_161 : decode cX10_lays 161 = .ok (.iload_n 2, 1) := by decide +kernel
theorem dX10_lays_162 : decode cX10_lays 162 = .ok (.iadd, 1) := by decide +kernel
theorem dX10_lays_163 : decode cX10_lays 163 = .ok (.iaload, 1) := by decide +kernel
theorem dX10_lays_164 : decode cX10_lays 164 = .ok (.iastore, 1) := by decide +kernel
theorem dX10_lays_165 : decode cX10_lays 165 = .ok (.iinc 2 1, 3) := by decide +kernel
theorem dX10_lays_168 : decode cX10_lays 168 = .ok (.goto (-31), 3) := by decide +kernel
theorem dX10_lays_171 : decode cX10_lays 171 = .ok (.iinc 1 1, 3) := by decide +kernel
theorem dX10_lays_174 : decode cX10_lays 174 = .ok (.goto (-123), 3) := by decide +kernel
theorem dX10_lays_177 : decode cX10_lays 177 = .ok (.aload_n 0, 1) := by decide +kernel
theorem dX10_lays_178 : decode cX10_lays 178 = .ok (.iconst 0, 1) := by decide +kernel
theorem dX10_lays_179 : decode cX10_lays 179 = .ok (.putfield 183, 3) := by decide +kernel
theorem dX10_lays_182 : decode cX10_lays 182 = .ok (.aload_n 0, 1) := by decide +kernel
theorem dX10_lays_183 : decode cX10_lays 183 = .ok (.iconst 0, 1) := by decide +kernel
theorem dX10_lays_184 : decode cX10_lays 184 = .ok (.putfield 186, 3) := by decide +kernel
theorem dX10_lays_187 : decode cX10_lays 187 = .ok (.aload_n 0, 1) := by decide +kernel
theorem dX10_lays_188 : decode cX10_lays 188 = .ok (.iconst 0, 1) := by decide +kernel
theorem dX10_lays_189 : decode cX10_lays 189 = .ok (.putfield 189, 3) := by decide +kernel
theorem dX10_lays_192 : decode cX10_lays 192 = .ok (.return_, 1) := by decide +kernel
theorem dX10_lay_0 : decode cX10_lay 0 = .ok (.aload_n 0, 1) := by decide +kernel
theorem dX10_lay_1 : decode cX10_lay 1 = .ok (.invokevirtual 170, 3) := by decide +kernel
theorem dX10_lay_4 : decode cX10_lay 4 = .ok (.bipush (-4), 2) := by decide +kernel
theorem dX10_lay_6 : decode cX10_lay 6 = .ok (.if_icmp .ne 11, 3) := by decide +kernel
theorem dX10_lay_9 : decode cX10_lay 9 = .ok (.aload_n 0, 1) := by decide +kernel
theorem dX10_lay_10 : decode cX10_lay 10 = .ok (.getfield 109, 3) := by decide +kernel
theorem dX10_lay_13 : decode cX10_lay 13 = .ok (.iconst 2, 1) := by decide +kernel
theorem dX10_lay_14 : decode cX10_lay 14 = .ok (.if_icmp .ge 6, 3) := by decide +kernel
theorem dX10_lay_17 : decode cX10_lay 17 = .ok (.bipush (-2), 2) := by decide +kernel
theorem dX10_lay_19 : decode cX10_lay 19 = .ok (.ireturn, 1) := by decide +kernel
theorem dX10_lay_20 : decode cX10_lay 20 = .ok (.aload_n 0, 1) := by decide +kernel
theorem dX10_lay_21 : decode cX10_lay 21 = .ok (.invokevirtual 113, 3) := by decide +kernel
theorem dX10_lay_24 : decode cX10_lay 24 = .ok (.aload_n 0, 1) := by decide +kernel
theorem dX10_lay_25 : decode cX10_lay 25 = .ok (.getfield 116, 3) := by decide +kernel
theorem dX10_lay_28 : decode cX10_lay 28 = .ok (.ireturn, 1) := by decide +kernel
theorem dX10_guest_0 : decode cX10_guest 0 = .ok (.aload_n 0, 1) := by decide +kernel
theorem dX10_guest_1 : decode cX10_guest 1 = .ok (.iload_n 1, 1) := by decide +kernel
theorem dX10_guest_2 : decode cX10_guest 2 = .ok (.invokevirtual 192, 3) := by decide +kernel
theorem dX10_guest_5 : decode cX10_guest 5 = .ok (.ifCond .eq 12, 3) := by decide +kernel
theorem dX10_guest_8 : decode cX10_guest 8 = .ok (.iload_n 2, 1) := by decide +kernel
theorem dX10_guest_9 : decode cX10_guest 9 = .ok (.iconst 0, 1) := by decide +kernel
theorem dX10_guest_10 : decode cX10_guest 10 = .ok (.iconst 3, 1) := by decide +kernel
theorem dX10_guest_11 : decode cX10_guest 11 = .ok (.invokestatic 119, 3) := by decide +kernel
theorem dX10_guest_14 : decode cX10_guest 14 = .ok (.ifCond .ne 5, 3) := by decide +kernel
theorem dX10_guest_17 : decode cX10_guest 17 = .ok (.iconst (-1), 1) := by decide +kernel
theorem dX10_guest_18 : decode cX10_guest 18 = .ok (.ireturn, 1) := by decide +kernel
theorem dX10_guest_19 : decode cX10_guest 19 = .ok (.iload_n 2, 1) := by decide +kernel
theorem dX10_guest_20 : decode cX10_guest 20 = .ok (.ifCond .ne 12, 3) := by decide +kernel
theorem dX10_guest_23 : decode cX10_guest 23 = .ok (.aload_n 0, 1) := by decide +kernel
theorem dX10_guest_24 : decode cX10_guest 24 = .ok (.getfield 7, 3) := by decide +kernel
theorem dX10_guest_27 : decode cX10_guest 27 = .ok (.iload_n 1, 1) := by decide +kernel
theorem dX10_guest_28 : decode cX10_guest 28 = .ok (.iaload, 1) := by decide +kernel
theorem dX10_guest_29 : decode cX10_guest 29 = .ok (.goto 52, 3) := by decide +kernel
theorem dX10_guest_32 : decode cX10_guest 32 = .ok (.iload_n 2, 1) := by decide +kernel
theorem dX10_guest_33 : decode cX10_guest 33 = .ok (.iconst 1, 1) := by decide +kernel
theorem dX10_guest_34 : decode cX10_guest 34 = .ok (.if_icmp .ne 27, 3) := by decide +kernel
theorem dX10_guest_37 : decode cX10_guest 37 = .ok (.aload_n 0, 1) := by decide +kernel
theorem dX10_guest_38 : decode cX10_guest 38 = .ok (.getfield 22, 3) := by decide +kernel
theorem dX10_guest_41 : decode cX10_guest 41 = .ok (.iload_n 1, 1) := by decide +kernel
theorem dX10_guest_42 : decode cX10_guest 42 = .ok (.iaload, 1) := by decide +kernel
theorem dX10_guest_43 : decode cX10_guest 43 = .ok (.iconst (-1), 1) := by decide +kernel
theorem dX10_guest_44 : decode cX10_guest 44 = .ok (.if_icmp .ne 8, 3) := by decide +kernel
theorem dX10_guest_47 : decode cX10_guest 47 = .ok (.bipush (-4), 2) := by decide +kernel
theorem dX10_guest_49 : decode cX10_guest 49 = .ok (.goto 32, 3) := by decide +kernel
theorem dX10_guest_52 : decode cX10_guest 52 = .ok (.aload_n 0, 1) := by decide +kernel
theorem dX10_guest_53 : decode cX10_guest 53 = .ok (.getfield 22, 3) := by decide +kernel
theorem dX10_guest_56 : decode cX10_guest 56 = .ok (.iload_n 1, 1) := by decide +kernel
theorem dX10_guest_57 : decode cX10_guest 57 = .ok (.iaload, 1) := by decide +kernel
theorem dX10_guest_58 : decode cX10_guest 58 = .ok (.goto 23, 3) := by decide +kernel
theorem dX10_guest_61 : decode cX10_guest 61 = .ok (.iload_n 2, 1) := by decide +kernel
theorem dX10_guest_62 : decode cX10_guest 62 = .ok (.iconst 2, 1) := by decide +kernel
theorem dX10_guest_63 : decode cX10_guest 63 = .ok (.if_icmp .ne 12, 3) := by decide +kernel
theorem dX10_guest_66 : decode cX10_guest 66 = .ok (.aload_n 0, 1) := by decide +kernel
theorem dX10_guest_67 : decode cX10_guest 67 = .ok (.getfield 13, 3) := by decide +kernel
theorem dX10_guest_70 : decode cX10_guest 70 = .ok (.iload_n 1, 1) := by decide +kernel
theorem dX10_guest_71 : decode cX10_guest 71 = .ok (.iaload, 1) := by decide +kernel
theorem dX10_guest_72 : decode cX10_guest 72 = .ok (.goto 9, 3) := by decide +kernel
theorem dX10_guest_75 : decode cX10_guest 75 = .ok (.aload_n 0, 1) := by decide +kernel
theorem dX10_guest_76 : decode cX10_guest 76 = .ok (.getfield 25, 3) := by decide +kernel
theorem dX10_guest_79 : decode cX10_guest 79 = .ok (.iload_n 1, 1) := by decide +kernel
theorem dX10_guest_80 : decode cX10_guest 80 = .ok (.iaload, 1) := by decide +kernel
theorem dX10_guest_81 : decode cX10_guest 81 = .ok (.ireturn, 1) := by decide +kernel
theorem dX10_worthAt_0 : decode cX10_worthAt 0 = .ok (.bipush 10, 2) := by decide +kernel
theorem dX10_worthAt_2 : decode cX10_worthAt 2 = .ok (.aload_n 0, 1) := by decide +kernel
theorem dX10_worthAt_3 : decode cX10_worthAt 3 = .ok (.getfield 180, 3) := by decide +kernel
theorem dX10_worthAt_6 : decode cX10_worthAt 6 = .ok (.iload_n 3, 1) := by decide +kernel
theorem dX10_worthAt_7 : decode cX10_worthAt 7 = .ok (.imul, 1) := by decide +kernel
theorem dX10_worthAt_8 : decode cX10_worthAt 8 = .ok (.isub, 1) := by decide +kernel
theorem dX10_worthAt_9 : decode cX10_worthAt 9 = .ok (.istore 4, 2) := by decide +kernel
theorem dX10_worthAt_11 : decode cX10_worthAt 11 = .ok (.iload_n 2, 1) := by decide +kernel
theorem dX10_worthAt_12 : decode cX10_worthAt 12 = .ok (.iconst (-1), 1) := by decide +kernel
theorem dX10_worthAt_13 : decode cX10_worthAt 13 = .ok (.if_icmp .eq 8, 3) := by decide +kernel
theorem dX10_worthAt_16 : decode cX10_worthAt 16 = .ok (.iload 4, 2) := by decide +kernel
theorem dX10_worthAt_18 : decode cX10_worthAt 18 = .ok (.ifCond .ge 7, 3) := by decide +kernel
theorem dX10_worthAt_21 : decode cX10_worthAt 21 = .ok (.iconst 0, 1) := by decide +kernel
theorem dX10_worthAt_22 : decode cX10_worthAt 22 = .ok (.goto 20, 3) := by decide +kernel
theorem dX10_worthAt_25 : decode cX10_worthAt 25 = .ok (.aload_n 0, 1) := by decide +kernel
theorem dX10_worthAt_26 : decode cX10_worthAt 26 = .ok (.getfield 16, 3) := by decide +kernel
theorem dX10_worthAt_29 : decode cX10_worthAt 29 = .ok (.bipush 6, 2) := by decide +kernel
theorem dX10_worthAt_31 : decode cX10_worthAt 31 = .ok (.iload_n 1, 1) := by decide +kernel
theorem dX10_worthAt_32 : decode cX10_worthAt 32 = .ok (.imul, 1) := by decide +kernel
theorem dX10_worthAt_33 : decode cX10_worthAt 33 = .ok (.iload_n 2, 1) := by decide +kernel
theorem dX10_worthAt_34 : decode cX10_worthAt 34 = .ok (.iadd, 1) := by decide +kernel
theorem dX10_worthAt_35 : decode cX10_worthAt 35 = .ok (.iaload, 1) := by decide +kernel
theorem dX10_worthAt_36 : decode cX10_worthAt 36 = .ok (.iload 4, 2) := by decide +kernel
theorem dX10_worthAt_38 : decode cX10_worthAt 38 = .ok (.imul, 1) := by decide +kernel
theorem dX10_worthAt_39 : decode cX10_worthAt 39 = .ok (.bipush 10, 2) := by decide +kernel
theorem dX10_worthAt_41 : decode cX10_worthAt 41 = .ok (.idiv, 1) := by decide +kernel
theorem dX10_worthAt_42 : decode cX10_worthAt 42 = .ok (.ireturn, 1) := by decide +kernel
theorem dX10_worth_0 : decode cX10_worth 0 = .ok (.aload_n 0, 1) := by decide +kernel
theorem dX10_worth_1 : decode cX10_worth 1 = .ok (.iload_n 1, 1) := by decide +kernel
theorem dX10_worth_2 : decode cX10_worth 2 = .ok (.invokevirtual 192, 3) := by decide +kernel
theorem dX10_worth_5 : decode cX10_worth 5 = .ok (.ifCond .eq 31, 3) := by decide +kernel
theorem dX10_worth_8 : decode cX10_worth 8 = .ok (.aload_n 0, 1) := by decide +kernel
theorem dX10_worth_9 : decode cX10_worth 9 = .ok (.iload_n 2, 1) := by decide +kernel
theorem dX10_worth_10 : decode cX10_worth 10 = .ok (.invokevirtual 195, 3) := by decide +kernel
theorem dX10_worth_13 : decode cX10_worth 13 = .ok (.ifCond .eq 23, 3) := by decide +kernel
theorem dX10_worth_16 : decode cX10_worth 16 = .ok (.iload_n 3, 1) := by decide +kernel
theorem dX10_worth_17 : decode cX10_worth 17 = .ok (.iconst 0, 1) := by decide +kernel
theorem dX10_worth_18 : decode cX10_worth 18 = .ok (.bipush 99, 2) := by decide +kernel
theorem dX10_worth_20 : decode cX10_worth 20 = .ok (.invokestatic 119, 3) := by decide +kernel
theorem dX10_worth_23 : decode cX10_worth 23 = .ok (.ifCond .eq 13, 3) := by decide +kernel
theorem dX10_worth_26 : decode cX10_worth 26 = .ok (.aload_n 0, 1) := by decide +kernel
theorem dX10_worth_27 : decode cX10_worth 27 = .ok (.iload_n 1, 1) := by decide +kernel
theorem dX10_worth_28 : decode cX10_worth 28 = .ok (.iload_n 2, 1) := by decide +kernel
theorem dX10_worth_29 : decode cX10_worth 29 = .ok (.iload_n 3, 1) := by decide +kernel
theorem dX10_worth_30 : decode cX10_worth 30 = .ok (.invokevirtual 198, 3) := by decide +kernel
theorem dX10_worth_33 : decode cX10_worth 33 = .ok (.goto 4, 3) := by decide +kernel
theorem dX10_worth_36 : decode cX10_worth 36 = .ok (.iconst (-1), 1) := by decide +kernel
theorem dX10_worth_37 : decode cX10_worth 37 = .ok (.ireturn, 1) := by decide +kernel
theorem dX10_wayOf_0 : decode cX10_wayOf 0 = .ok (.iload_n 2, 1) := by decide +kernel
theorem dX10_wayOf_1 : decode cX10_wayOf 1 = .ok (.iload_n 1, 1) := by decide +kernel
theorem dX10_wayOf_2 : decode cX10_wayOf 2 = .ok (.isub, 1) := by decide +kernel
theorem dX10_wayOf_3 : decode cX10_wayOf 3 = .ok (.aload_n 0, 1) := by decide +kernel
theorem dX10_wayOf_4 : decode cX10_wayOf 4 = .ok (.getfield 116, 3) := by decide +kernel
theorem dX10_wayOf_7 : decode cX10_wayOf 7 = .ok (.iadd, 1) := by decide +kernel
theorem dX10_wayOf_8 : decode cX10_wayOf 8 = .ok (.aload_n 0, 1) := by decide +kernel
theorem dX10_wayOf_9 : decode cX10_wayOf 9 = .ok (.getfield 116, 3) := by decide +kernel
theorem dX10_wayOf_12 : decode cX10_wayOf 12 = .ok (.irem, 1) := by decide +kernel
theorem dX10_wayOf_13 : decode cX10_wayOf 13 = .ok (.istore_n 3, 1) := by decide +kernel
theorem dX10_wayOf_14 : decode cX10_wayOf 14 = .ok (.aload_n 0, 1) := by decide +kernel
theorem dX10_wayOf_15 : decode cX10_wayOf 15 = .ok (.getfield 173, 3) := by decide +kernel
theorem dX10_wayOf_18 : decode cX10_wayOf 18 = .ok (.ifCond .ne 9, 3) := by decide +kernel
theorem dX10_wayOf_21 : decode cX10_wayOf 21 = .ok (.iload_n 2, 1) := by decide +kernel
theorem dX10_wayOf_22 : decode cX10_wayOf 22 = .ok (.iload_n 1, 1) := by decide +kernel
theorem dX10_wayOf_23 : decode cX10_wayOf 23 = .ok (.isub, 1) := by decide +kernel
theorem dX10_wayOf_24 : decode cX10_wayOf 24 = .ok (.goto 23, 3) := by decide +kernel
theorem dX10_wayOf_27 : decode cX10_wayOf 27 = .ok (.iconst 2, 1) := by decide +kernel
theorem dX10_wayOf_28 : decode cX10_wayOf 28 = .ok (.iload_n 3, 1) := by decide +kernel
theorem dX10_wayOf_29 : decode cX10_wayOf 29 = .ok (.imul, 1) := by decide +kernel
theorem dX10_wayOf_30 : decode cX10_wayOf 30 = .ok (.aload_n 0, 1) := by decide +kernel
theorem dX10_wayOf_31 : decode cX10_wayOf 31 = .ok (.getfield 116, 3) := by decide +kernel
theorem dX10_wayOf_34 : decode cX10_wayOf 34 = .ok (.if_icmp .gt 7, 3) := by decide +kernel
theorem dX10_wayOf_37 : decode cX10_wayOf 37 = .ok (.iload_n 3, 1) := by decide +kernel
theorem dX10_wayOf_38 : decode cX10_wayOf 38 = .ok (.goto 9, 3) := by decide +kernel
theorem dX10_wayOf_41 : decode cX10_wayOf 41 = .ok (.iload_n 3, 1) := by decide +kernel
theorem dX10_wayOf_42 : decode cX10_wayOf 42 = .ok (.aload_n 0, 1) := by decide +kernel
theorem dX10_wayOf_43 : decode cX10_wayOf 43 = .ok (.getfield 116, 3) := by decide +kernel
theorem dX10_wayOf_46 : decode cX10_wayOf 46 = .ok (.isub, 1) := by decide +kernel
theorem dX10_wayOf_47 : decode cX10_wayOf 47 = .ok (.ireturn, 1) := by decide +kernel
theorem dX10_handsOf_0 : decode cX10_handsOf 0 = .ok (.aload_n 0, 1) := by decide +kernel
theorem dX10_handsOf_1 : decode cX10_handsOf 1 = .ok (.iload_n 1, 1) := by decide +kernel
theorem dX10_handsOf_2 : decode cX10_handsOf 2 = .ok (.iload_n 2, 1) := by decide +kernel
theorem dX10_handsOf_3 : decode cX10_handsOf 3 = .ok (.invokevirtual 202, 3) := by decide +kernel
theorem dX10_handsOf_6 : decode cX10_handsOf 6 = .ok (.istore_n 3, 1) := by decide +kernel
theorem dX10_handsOf_7 : decode cX10_handsOf 7 = .ok (.iload_n 3, 1) := by decide +kernel
theorem dX10_handsOf_8 : decode cX10_handsOf 8 = .ok (.ifCond .ge 8, 3) := by decide +kernel
theorem dX10_handsOf_11 : decode cX10_handsOf 11 = .ok (.iload_n 3, 1) := by decide +kernel
theorem dX10_handsOf_12 : decode cX10_handsOf 12 = .ok (.ineg, 1) := by decide +kernel
theorem dX10_handsOf_13 : decode cX10_handsOf 13 = .ok (.goto 4, 3) := by decide +kernel
theorem dX10_handsOf_16 : decode cX10_handsOf 16 = .ok (.iload_n 3, 1) := by decide +kernel
theorem dX10_handsOf_17 : decode cX10_handsOf 17 = .ok (.ireturn, 1) := by decide +kernel
theorem dX10_hands_0 : decode cX10_hands 0 = .ok (.aload_n 0, 1) := by decide +kernel
theorem dX10_hands_1 : decode cX10_hands 1 = .ok (.iload_n 1, 1) := by decide +kernel
theorem dX10_hands_2 : decode cX10_hands 2 = .ok (.invokevirtual 192, 3) := by decide +kernel
theorem dX10_hands_5 : decode cX10_hands 5 = .ok (.ifCond .eq 20, 3) := by decide +kernel
theorem dX10_hands_8 : decode cX10_hands 8 = .ok (.aload_n 0, 1) := by decide +kernel
theorem dX10_hands_9 : decode cX10_hands 9 = .ok (.iload_n 2, 1) := by decide +kernel
theorem dX10_hands_10 : decode cX10_hands 10 = .ok (.invokevirtual 192, 3) := by decide +kernel
theorem dX10_hands_13 : decode cX10_hands 13 = .ok (.ifCond .eq 12, 3) := by decide +kernel
theorem dX10_hands_16 : decode cX10_hands 16 = .ok (.aload_n 0, 1) := by decide +kernel
theorem dX10_hands_17 : decode cX10_hands 17 = .ok (.iload_n 1, 1) := by decide +kernel
theorem dX10_hands_18 : decode cX10_hands 18 = .ok (.iload_n 2, 1) := by decide +kernel
theorem dX10_hands_19 : decode cX10_hands 19 = .ok (.invokevirtual 206, 3) := by decide +kernel
theorem dX10_hands_22 : decode cX10_hands 22 = .ok (.goto 4, 3) := by decide +kernel
theorem dX10_hands_25 : decode cX10_hands 25 = .ok (.iconst (-1), 1) := by decide +kernel
theorem dX10_hands_26 : decode cX10_hands 26 = .ok (.ireturn, 1) := by decide +kernel
theorem dX10_sits_0 : decode cX10_sits 0 = .ok (.iconst 0, 1) := by decide +kernel
theorem dX10_sits_1 : decode cX10_sits 1 = .ok (.istore_n 1, 1) := by decide +kernel
theorem dX10_sits_2 : decode cX10_sits 2 = .ok (.iload_n 1, 1) := by decide +kernel
theorem dX10_sits_3 : decode cX10_sits 3 = .ok (.aload_n 0, 1) := by decide +kernel
theorem dX10_sits_4 : decode cX10_sits 4 = .ok (.getfield 116, 3) := by decide +kernel
theorem dX10_sits_7 : decode cX10_sits 7 = .ok (.if_icmp .ge 81, 3) := by decide +kernel
theorem dX10_sits_10 : decode cX10_sits 10 = .ok (.aload_n 0, 1) := by decide +kernel
theorem dX10_sits_11 : decode cX10_sits 11 = .ok (.getfield 61, 3) := by decide +kernel
theorem dX10_sits_14 : decode cX10_sits 14 = .ok (.iload_n 1, 1) := by decide +kernel
theorem dX10_sits_15 : decode cX10_sits 15 = .ok (.aload_n 0, 1) := by decide +kernel
theorem dX10_sits_16 : decode cX10_sits 16 = .ok (.getfield 22, 3) := by decide +kernel
theorem dX10_sits_19 : decode cX10_sits 19 = .ok (.iload_n 1, 1) := by decide +kernel
theorem dX10_sits_20 : decode cX10_sits 20 = .ok (.iaload, 1) := by decide +kernel
theorem dX10_sits_21 : decode cX10_sits 21 = .ok (.iastore, 1) := by decide +kernel
theorem dX10_sits_22 : decode cX10_sits 22 = .ok (.aload_n 0, 1) := by decide +kernel
theorem dX10_sits_23 : decode cX10_sits 23 = .ok (.getfield 64, 3) := by decide +kernel
theorem dX10_sits_26 : decode cX10_sits 26 = .ok (.iload_n 1, 1) := by decide +kernel
theorem dX10_sits_27 : decode cX10_sits 27 = .ok (.aload_n 0, 1) := by decide +kernel
theorem dX10_sits_28 : decode cX10_sits 28 = .ok (.getfield 7, 3) := by decide +kernel
theorem dX10_sits_31 : decode cX10_sits 31 = .ok (.iload_n 1, 1) := by decide +kernel
theorem dX10_sits_32 : decode cX10_sits 32 = .ok (.iaload, 1) := by decide +kernel
theorem dX10_sits_33 : decode cX10_sits 33 = .ok (.iastore, 1) := by decide +kernel
theorem dX10_sits_34 : decode cX10_sits 34 = .ok (.aload_n 0, 1) := by decide +kernel
theorem dX10_sits_35 : decode cX10_sits 35 = .ok (.getfield 67, 3) := by decide +kernel
theorem dX10_sits_38 : decode cX10_sits 38 = .ok (.iload_n 1, 1) := by decide +kernel
theorem dX10_sits_39 : decode cX10_sits 39 = .ok (.aload_n 0, 1) := by decide +kernel
theorem dX10_sits_40 : decode cX10_sits 40 = .ok (.getfield 13, 3) := by decide +kernel
theorem dX10_sits_43 : decode cX10_sits 43 = .ok (.iload_n 1, 1) := by decide +kernel
theorem dX10_sits_44 : decode cX10_sits 44 = .ok (.iaload, 1) := by decide +kernel
theorem dX10_sits_45 : decode cX10_sits 45 = .ok (.iastore, 1) := by decide +kernel
theorem dX10_sits_46 : decode cX10_sits 46 = .ok (.iconst 0, 1) := by decide +kernel
theorem dX10_sits_47 : decode cX10_sits 47 = .ok (.istore_n 2, 1) := by decide +kernel
theorem dX10_sits_48 : decode cX10_sits 48 = .ok (.iload_n 2, 1) := by decide +kernel
theorem dX10_sits_49 : decode cX10_sits 49 = .ok (.bipush 6, 2) := by decide +kernel
theorem dX10_sits_51 : decode cX10_sits 51 = .ok (.if_icmp .ge 31, 3) := by decide +kernel
theorem dX10_sits_54 : decode cX10_sits 54 = .ok (.aload_n 0, 1) := by decide +kernel
theorem dX10_sits_55 : decode cX10_sits 55 = .ok (.getfield 70, 3) := by decide +kernel
theorem dX10_sits_58 : decode cX10_sits 58 = .ok (.bipush 6, 2) := by decide +kernel
theorem dX10_sits_60 : decode cX10_sits 60 = .ok (.iload_n 1, 1) := by decide +kernel
theorem dX10_sits_61 : decode cX10_sits 61 = .ok (.imul, 1) := by decide +kernel
theorem dX10_sits_62 : decode cX10_sits 62 = .ok (.iload_n 2, 1) := by decide +kernel
theorem dX10_sits_63 : decode cX10_sits 63 = .ok (.iadd, 1) := by decide +kernel
theorem dX10_sits_64 : decode cX10_sits 64 = .ok (.aload_n 0, 1) := by decide +kernel
theorem dX10_sits_65 : decode cX10_sits 65 = .ok (.getfield 16, 3) := by decide +kernel
theorem dX10_sits_68 : decode cX10_sits 68 = .ok (.bipush 6, 2) := by decide +kernel
theorem dX10_sits_70 : decode cX10_sits 70 = .ok (.iload_n 1, 1) := by decide +kernel
theorem dX10_sits_71 : decode cX10_sits 71 = .ok (.imul, 1) := by decide +kernel
theorem dX10_sits_72 : decode cX10_sits 72 = .ok (.iload_n 2, 1) := by decide +kernel
theorem dX10_sits_73 : decode cX10_sits 73 = .ok (.iadd, 1) := by decide +kernel
theorem dX10_sits_74 : decode cX10_sits 74 = .ok (.iaload, 1) := by decide +kernel
theorem dX10_sits_75 : decode cX10_sits 75 = .ok (.iastore, 1) := by decide +kernel
theorem dX10_sits_76 : decode cX10_sits 76 = .ok (.iinc 2 1, 3) := by decide +kernel
theorem dX10_sits_79 : decode cX10_sits 79 = .ok (.goto (-31), 3) := by decide +kernel
theorem dX10_sits_82 : decode cX10_sits 82 = .ok (.iinc 1 1, 3) := by decide +kernel
theorem dX10_sits_85 : decode cX10_sits 85 = .ok (.goto (-83), 3) := by decide +kernel
theorem dX10_sits_88 : decode cX10_sits 88 = .ok (.return_, 1) := by decide +kernel
theorem dX10_likes_0 : decode cX10_likes 0 = .ok (.iload_n 2, 1) := by decide +kernel
theorem dX10_likes_1 : decode cX10_likes 1 = .ok (.iconst (-1), 1) := by decide +kernel
theorem dX10_likes_2 : decode cX10_likes 2 = .ok (.if_icmp .ne 7, 3) := by decide +kernel
theorem dX10_likes_5 : decode cX10_likes 5 = .ok (.iconst 0, 1) := by decide +kernel
theorem dX10_likes_6 : decode cX10_likes 6 = .ok (.goto 14, 3) := by decide +kernel
theorem dX10_likes_9 : decode cX10_likes 9 = .ok (.aload_n 0, 1) := by decide +kernel
theorem dX10_likes_10 : decode cX10_likes 10 = .ok (.getfield 70, 3) := by decide +kernel
theorem dX10_likes_13 : decode cX10_likes 13 = .ok (.bipush 6, 2) := by decide +kernel
theorem dX10_likes_15 : decode cX10_likes 15 = .ok (.iload_n 1, 1) := by decide +kernel
theorem dX10_likes_16 : decode cX10_likes 16 = .ok (.imul, 1) := by decide +kernel
theorem dX10_likes_17 : decode cX10_likes 17 = .ok (.iload_n 2, 1) := by decide +kernel
theorem dX10_likes_18 : decode cX10_likes 18 = .ok (.iadd, 1) := by decide +kernel
theorem dX10_likes_19 : decode cX10_likes 19 = .ok (.iaload, 1) := by decide +kernel
theorem dX10_likes_20 : decode cX10_likes 20 = .ok (.ireturn, 1) := by decide +kernel
theorem dX10_mayAsk_0 : decode cX10_mayAsk 0 = .ok (.iload_n 1, 1) := by decide +kernel
theorem dX10_mayAsk_1 : decode cX10_mayAsk 1 = .ok (.iload_n 2, 1) := by decide +kernel
theorem dX10_mayAsk_2 : decode cX10_mayAsk 2 = .ok (.if_icmp .eq 37, 3) := by decide +kernel
theorem dX10_mayAsk_5 : decode cX10_mayAsk 5 = .ok (.aload_n 0, 1) := by decide +kernel
theorem dX10_mayAsk_6 : decode cX10_mayAsk 6 = .ok (.getfield 61, 3) := by decide +kernel
theorem dX10_mayAsk_9 : decode cX10_mayAsk 9 = .ok (.iload_n 1, 1) := by decide +kernel
theorem dX10_mayAsk_10 : decode cX10_mayAsk 10 = .ok (.iaload, 1) := by decide +kernel
theorem dX10_mayAsk_11 : decode cX10_mayAsk 11 = .ok (.iconst (-1), 1) := by decide +kernel
theorem dX10_mayAsk_12 : decode cX10_mayAsk 12 = .ok (.if_icmp .eq 27, 3) := by decide +kernel
theorem dX10_mayAsk_15 : decode cX10_mayAsk 15 = .ok (.aload_n 0, 1) := by decide +kernel
theorem dX10_mayAsk_16 : decode cX10_mayAsk 16 = .ok (.getfield 61, 3) := by decide +kernel
theorem dX10_mayAsk_19 : decode cX10_mayAsk 19 = .ok (.iload_n 2, 1) := by decide +kernel
theorem dX10_mayAsk_20 : decode cX10_mayAsk 20 = .ok (.iaload, 1) := by decide +kernel
theorem dX10_mayAsk_21 : decode cX10_mayAsk 21 = .ok (.iconst (-1), 1) := by decide +kernel
theorem dX10_mayAsk_22 : decode cX10_mayAsk 22 = .ok (.if_icmp .eq 17, 3) := by decide +kernel
theorem dX10_mayAsk_25 : decode cX10_mayAsk 25 = .ok (.aload_n 0, 1) := by decide +kernel
theorem dX10_mayAsk_26 : decode cX10_mayAsk 26 = .ok (.getfield 64, 3) := by decide +kernel
theorem dX10_mayAsk_29 : decode cX10_mayAsk 29 = .ok (.iload_n 2, 1) := by decide +kernel
theorem dX10_mayAsk_30 : decode cX10_mayAsk 30 = .ok (.iaload, 1) := by decide +kernel
theorem dX10_mayAsk_31 : decode cX10_mayAsk 31 = .ok (.iconst 2, 1) := by decide +kernel
theorem dX10_mayAsk_32 : decode cX10_mayAsk 32 = .ok (.if_icmp .eq 7, 3) := by decide +kernel
theorem dX10_mayAsk_35 : decode cX10_mayAsk 35 = .ok (.iconst 1, 1) := by decide +kernel
theorem dX10_mayAsk_36 : decode cX10_mayAsk 36 = .ok (.goto 4, 3) := by decide +kernel
theorem dX10_mayAsk_39 : decode cX10_mayAsk 39 = .ok (.iconst 0, 1) := by decide +kernel
theorem dX10_mayAsk_40 : decode cX10_mayAsk 40 = .ok (.ireturn, 1) := by decide +kernel
theorem dX10_goes_0 : decode cX10_goes 0 = .ok (.iload_n 1, 1) := by decide +kernel
theorem dX10_goes_1 : decode cX10_goes 1 = .ok (.istore 5, 2) := by decide +kernel
theorem dX10_goes_3 : decode cX10_goes 3 = .ok (.iload_n 2, 1) := by decide +kernel
theorem dX10_goes_4 : decode cX10_goes 4 = .ok (.istore 6, 2) := by decide +kernel
theorem dX10_goes_6 : decode cX10_goes 6 = .ok (.iconst 0, 1) := by decide +kernel
theorem dX10_goes_7 : decode cX10_goes 7 = .ok (.istore 7, 2) := by decide +kernel
theorem dX10_goes_9 : decode cX10_goes 9 = .ok (.iload 7, 2) := by decide +kernel
theorem dX10_goes_11 : decode cX10_goes 11 = .ok (.iload 4, 2) := by decide +kernel
theorem dX10_goes_13 : decode cX10_goes 13 = .ok (.if_icmp .ge 88, 3) := by decide +kernel
theorem dX10_goes_16 : decode cX10_goes 16 = .ok (.iload 6, 2) := by decide +kernel
theorem dX10_goes_18 : decode cX10_goes 18 = .ok (.iload_n 3, 1) := by decide +kernel
theorem dX10_goes_19 : decode cX10_goes 19 = .ok (.iadd, 1) := by decide +kernel
theorem dX10_goes_20 : decode cX10_goes 20 = .ok (.aload_n 0, 1) := by decide +kernel
theorem dX10_goes_21 : decode cX10_goes 21 = .ok (.getfield 116, 3) := by decide +kernel
theorem dX10_goes_24 : decode cX10_goes 24 = .ok (.iadd, 1) := by decide +kernel
theorem dX10_goes_25 : decode cX10_goes 25 = .ok (.aload_n 0, 1) := by decide +kernel
theorem dX10_goes_26 : decode cX10_goes 26 = .ok (.getfield 116, 3) := by decide +kernel
theorem dX10_goes_29 : decode cX10_goes 29 = .ok (.irem, 1) := by decide +kernel
theorem dX10_goes_30 : decode cX10_goes 30 = .ok (.istore 6, 2) := by decide +kernel
theorem dX10_goes_32 : decode cX10_goes 32 = .ok (.iload 5, 2) := by decide +kernel
theorem dX10_goes_34 : decode cX10_goes 34 = .ok (.iconst (-1), 1) := by decide +kernel
theorem dX10_goes_35 : decode cX10_goes 35 = .ok (.if_icmp .eq 60, 3) := by decide +kernel
theorem dX10_goes_38 : decode cX10_goes 38 = .ok (.aload_n 0, 1) := by decide +kernel
theorem dX10_goes_39 : decode cX10_goes 39 = .ok (.getfield 64, 3) := by decide +kernel
theorem dX10_goes_42 : decode cX10_goes 42 = .ok (.iload 6, 2) := by decide +kernel
theorem dX10_goes_44 : decode cX10_goes 44 = .ok (.iaload, 1) := by decide +kernel
theorem dX10_goes_45 : decode cX10_goes 45 = .ok (.iconst 1, 1) := by decide +kernel
theorem dX10_goes_46 : decode cX10_goes 46 = .ok (.if_icmp .ne 49, 3) := by decide +kernel
theorem dX10_goes_49 : decode cX10_goes 49 = .ok (.aload_n 0, 1) := by decide +kernel
theorem dX10_goes_50 : decode cX10_goes 50 = .ok (.iload 6, 2) := by decide +kernel
theorem dX10_goes_52 : decode cX10_goes 52 = .ok (.iload 5, 2) := by decide +kernel
theorem dX10_goes_54 : decode cX10_goes 54 = .ok (.invokevirtual 209, 3) := by decide +kernel
theorem dX10_goes_57 : decode cX10_goes 57 = .ok (.aload_n 0, 1) := by decide +kernel
theorem dX10_goes_58 : decode cX10_goes 58 = .ok (.iload 6, 2) := by decide +kernel
theorem dX10_goes_60 : decode cX10_goes 60 = .ok (.aload_n 0, 1) := by decide +kernel
theorem dX10_goes_61 : decode cX10_goes 61 = .ok (.getfield 61, 3) := by decide +kernel
theorem dX10_goes_64 : decode cX10_goes 64 = .ok (.iload 6, 2) := by decide +kernel
theorem dX10_goes_66 : decode cX10_goes 66 = .ok (.iaload, 1) := by decide +kernel
theorem dX10_goes_67 : decode cX10_goes 67 = .ok (.invokevirtual 209, 3) := by decide +kernel
theorem dX10_goes_70 : decode cX10_goes 70 = .ok (.if_icmp .le 25, 3) := by decide +kernel
theorem dX10_goes_73 : decode cX10_goes 73 = .ok (.aload_n 0, 1) := by decide +kernel
theorem dX10_goes_74 : decode cX10_goes 74 = .ok (.getfield 61, 3) := by decide +kernel
theorem dX10_goes_77 : decode cX10_goes 77 = .ok (.iload 6, 2) := by decide +kernel
theorem dX10_goes_79 : decode cX10_goes 79 = .ok (.iaload, 1) := by decide +kernel
theorem dX10_goes_80 : decode cX10_goes 80 = .ok (.istore 8, 2) := by decide +kernel
theorem dX10_goes_82 : decode cX10_goes 82 = .ok (.aload_n 0, 1) := by decide +kernel
theorem dX10_goes_83 : decode cX10_goes 83 = .ok (.getfield 61, 3) := by decide +kernel
theorem dX10_goes_86 : decode cX10_goes 86 = .ok (.iload 6, 2) := by decide +kernel
theorem dX10_goes_88 : decode cX10_goes 88 = .ok (.iload 5, 2) := by decide +kernel
theorem dX10_goes_90 : decode cX10_goes 90 = .ok (.iastore, 1) := by decide +kernel
theorem dX10_goes_91 : decode cX10_goes 91 = .ok (.iload 8, 2) := by decide +kernel
theorem dX10_goes_93 : decode cX10_goes 93 = .ok (.istore 5, 2) := by decide +kernel
theorem dX10_goes_95 : decode cX10_goes 95 = .ok (.iinc 7 1, 3) := by decide +kernel
theorem dX10_goes_98 : decode cX10_goes 98 = .ok (.goto (-89), 3) := by decide +kernel
theorem dX10_goes_101 : decode cX10_goes 101 = .ok (.iload 5, 2) := by decide +kernel
theorem dX10_goes_103 : decode cX10_goes 103 = .ok (.ireturn, 1) := by decide +kernel
theorem dX10_childChanges_0 : decode cX10_childChanges 0 = .ok (.iload_n 1, 1) := by decide +kernel
theorem dX10_childChanges_1 : decode cX10_childChanges 1 = .ok (.iconst 1, 1) := by decide +kernel
theorem dX10_childChanges_2 : decode cX10_childChanges 2 = .ok (.iadd, 1) := by decide +kernel
theorem dX10_childChanges_3 : decode cX10_childChanges 3 = .ok (.aload_n 0, 1) := by decide +kernel
theorem dX10_childChanges_4 : decode cX10_childChanges 4 = .ok (.getfield 116, 3) := by decide +kernel
theorem dX10_childChanges_7 : decode cX10_childChanges 7 = .ok (.if_icmp .ge 9, 3) := by decide +kernel
theorem dX10_childChanges_10 : decode cX10_childChanges 10 = .ok (.iload_n 1, 1) := by decide +kernel
theorem dX10_childChanges_11 : decode cX10_childChanges 11 = .ok (.iconst 1, 1) := by decide +kernel
theorem dX10_childChanges_12 : decode cX10_childChanges 12 = .ok (.iadd, 1) := by decide +kernel
theorem dX10_childChanges_13 : decode cX10_childChanges 13 = .ok (.goto 15, 3) := by decide +kernel
theorem dX10_childChanges_16 : decode cX10_childChanges 16 = .ok (.aload_n 0, 1) := by decide +kernel
theorem dX10_childChanges_17 : decode cX10_childChanges 17 = .ok (.getfield 173, 3) := by decide +kernel
theorem dX10_childChanges_20 : decode cX10_childChanges 20 = .ok (.ifCond .eq 7, 3) := by decide +kernel
theorem dX10_childChanges_23 : decode cX10_childChanges 23 = .ok (.iconst 0, 1) := by decide +kernel
theorem dX10_childChanges_24 : decode cX10_childChanges 24 = .ok (.goto 4, 3) := by decide +kernel
theorem dX10_childChanges_27 : decode cX10_childChanges 27 = .ok (.iconst (-1), 1) := by decide +kernel
theorem dX10_childChanges_28 : decode cX10_childChanges 28 = .ok (.istore_n 2, 1) := by decide +kernel
theorem dX10_childChanges_29 : decode cX10_childChanges 29 = .ok (.aload_n 0, 1) := by decide +kernel
theorem dX10_childChanges_30 : decode cX10_childChanges 30 = .ok (.getfield 64, 3) := by decide +kernel
theorem dX10_childChanges_33 : decode cX10_childChanges 33 = .ok (.iload_n 1, 1) := by decide +kernel
theorem dX10_childChanges_34 : decode cX10_childChanges 34 = .ok (.iaload, 1) := by decide +kernel
theorem dX10_childChanges_35 : decode cX10_childChanges 35 = .ok (.iconst 3, 1) := by decide +kernel
theorem dX10_childChanges_36 : decode cX10_childChanges 36 = .ok (.if_icmp .ne 44, 3) := by decide +kernel
theorem dX10_childChanges_39 : decode cX10_childChanges 39 = .ok (.aload_n 0, 1) := by decide +kernel
theorem dX10_childChanges_40 : decode cX10_childChanges 40 = .ok (.getfield 61, 3) := by decide +kernel
theorem dX10_childChanges_43 : decode cX10_childChanges 43 = .ok (.iload_n 1, 1) := by decide +kernel
theorem dX10_childChanges_44 : decode cX10_childChanges 44 = .ok (.iaload, 1) := by decide +kernel
theorem dX10_childChanges_45 : decode cX10_childChanges 45 = .ok (.iconst (-1), 1) := by decide +kernel
theorem dX10_childChanges_46 : decode cX10_childChanges 46 = .ok (.if_icmp .eq 34, 3) := by decide +kernel
theorem dX10_childChanges_49 : decode cX10_childChanges 49 = .ok (.iload_n 2, 1) := by decide +kernel
theorem dX10_childChanges_50 : decode cX10_childChanges 50 = .ok (.iconst (-1), 1) := by decide +kernel
theorem dX10_childChanges_51 : decode cX10_childChanges 51 = .ok (.if_icmp .eq 29, 3) := by decide +kernel
theorem dX10_childChanges_54 : decode cX10_childChanges 54 = .ok (.aload_n 0, 1) := by decide +kernel
theorem dX10_childChanges_55 : decode cX10_childChanges 55 = .ok (.getfield 61, 3) := by decide +kernel
theorem dX10_childChanges_58 : decode cX10_childChanges 58 = .ok (.iload_n 1, 1) := by decide +kernel
theorem dX10_childChanges_59 : decode cX10_childChanges 59 = .ok (.iaload, 1) := by decide +kernel
theorem dX10_childChanges_60 : decode cX10_childChanges 60 = .ok (.istore_n 3, 1) := by decide +kernel
theorem dX10_childChanges_61 : decode cX10_childChanges 61 = .ok (.aload_n 0, 1) := by decide +kernel
theorem dX10_childChanges_62 : decode cX10_childChanges 62 = .ok (.getfield 61, 3) := by decide +kernel
theorem dX10_childChanges_65 : decode cX10_childChanges 65 = .ok (.iload_n 1, 1) := by decide +kernel
theorem dX10_childChanges_66 : decode cX10_childChanges 66 = .ok (.aload_n 0, 1) := by decide +kernel
theorem dX10_childChanges_67 : decode cX10_childChanges 67 = .ok (.getfield 61, 3) := by decide +kernel
theorem dX10_childChanges_70 : decode cX10_childChanges 70 = .ok (.iload_n 2, 1) := by decide +kernel
theorem dX10_childChanges_71 : decode cX10_childChanges 71 = .ok (.iaload, 1) := by decide +kernel
theorem dX10_childChanges_72 : decode cX10_childChanges 72 = .ok (.iastore, 1) := by decide +kernel
theorem dX10_childChanges_73 : decode cX10_childChanges 73 = .ok (.aload_n 0, 1) := by decide +kernel
theorem dX10_childChanges_74 : decode cX10_childChanges 74 = .ok (.getfield 61, 3) := by decide +kernel
theorem dX10_childChanges_77 : decode cX10_childChanges 77 = .ok (.iload_n 2, 1) := by decide +kernel
theorem dX10_childChanges_78 : decode cX10_childChanges 78 = .ok (.iload_n 3, 1) := by decide +kernel
theorem dX10_childChanges_79 : decode cX10_childChanges 79 = .ok (.iastore, 1) := by decide +kernel
theorem dX10_childChanges_80 : decode cX10_childChanges 80 = .ok (.return_, 1) := by decide +kernel
theorem dX10_asks_0 : decode cX10_asks 0 = .ok (.aload_n 0, 1) := by decide +kernel
theorem dX10_asks_1 : decode cX10_asks 1 = .ok (.iload_n 1, 1) := by decide +kernel
theorem dX10_asks_2 : decode cX10_asks 2 = .ok (.iload_n 2, 1) := by decide +kernel
theorem dX10_asks_3 : decode cX10_asks 3 = .ok (.invokevirtual 202, 3) := by decide +kernel
theorem dX10_asks_6 : decode cX10_asks 6 = .ok (.istore_n 3, 1) := by decide +kernel
theorem dX10_asks_7 : decode cX10_asks 7 = .ok (.iload_n 3, 1) := by decide +kernel
theorem dX10_asks_8 : decode cX10_asks 8 = .ok (.ifCond .ge 7, 3) := by decide +kernel
theorem dX10_asks_11 : decode cX10_asks 11 = .ok (.iconst (-1), 1) := by decide +kernel
theorem dX10_asks_12 : decode cX10_asks 12 = .ok (.goto 4, 3) := by decide +kernel
theorem dX10_asks_15 : decode cX10_asks 15 = .ok (.iconst 1, 1) := by decide +kernel
theorem dX10_asks_16 : decode cX10_asks 16 = .ok (.istore 4, 2) := by decide +kernel
theorem dX10_asks_18 : decode cX10_asks 18 = .ok (.iload_n 3, 1) := by decide +kernel
theorem dX10_asks_19 : decode cX10_asks 19 = .ok (.iload 4, 2) := by decide +kernel
theorem dX10_asks_21 : decode cX10_asks 21 = .ok (.imul, 1) := by decide +kernel
theorem dX10_asks_22 : decode cX10_asks 22 = .ok (.iconst 1, 1) := by decide +kernel
theorem dX10_asks_23 : decode cX10_asks 23 = .ok (.isub, 1) := by decide +kernel
theorem dX10_asks_24 : decode cX10_asks 24 = .ok (.istore 5, 2) := by decide +kernel
theorem dX10_asks_26 : decode cX10_asks 26 = .ok (.aload_n 0, 1) := by decide +kernel
theorem dX10_asks_27 : decode cX10_asks 27 = .ok (.getfield 61, 3) := by decide +kernel
theorem dX10_asks_30 : decode cX10_asks 30 = .ok (.iload_n 1, 1) := by decide +kernel
theorem dX10_asks_31 : decode cX10_asks 31 = .ok (.iaload, 1) := by decide +kernel
theorem dX10_asks_32 : decode cX10_asks 32 = .ok (.istore 6, 2) := by decide +kernel
theorem dX10_asks_34 : decode cX10_asks 34 = .ok (.aload_n 0, 1) := by decide +kernel
theorem dX10_asks_35 : decode cX10_asks 35 = .ok (.getfield 61, 3) := by decide +kernel
theorem dX10_asks_38 : decode cX10_asks 38 = .ok (.iload_n 2, 1) := by decide +kernel
theorem dX10_asks_39 : decode cX10_asks 39 = .ok (.iaload, 1) := by decide +kernel
theorem dX10_asks_40 : decode cX10_asks 40 = .ok (.istore 7, 2) := by decide +kernel
theorem dX10_asks_42 : decode cX10_asks 42 = .ok (.aload_n 0, 1) := by decide +kernel
theorem dX10_asks_43 : decode cX10_asks 43 = .ok (.getfield 61, 3) := by decide +kernel
theorem dX10_asks_46 : decode cX10_asks 46 = .ok (.iload_n 1, 1) := by decide +kernel
theorem dX10_asks_47 : decode cX10_asks 47 = .ok (.iconst (-1), 1) := by decide +kernel
theorem dX10_asks_48 : decode cX10_asks 48 = .ok (.iastore, 1) := by decide +kernel
theorem dX10_asks_49 : decode cX10_asks 49 = .ok (.aload_n 0, 1) := by decide +kernel
theorem dX10_asks_50 : decode cX10_asks 50 = .ok (.getfield 61, 3) := by decide +kernel
theorem dX10_asks_53 : decode cX10_asks 53 = .ok (.iload_n 2, 1) := by decide +kernel
theorem dX10_asks_54 : decode cX10_asks 54 = .ok (.iconst (-1), 1) := by decide +kernel
theorem dX10_asks_55 : decode cX10_asks 55 = .ok (.iastore, 1) := by decide +kernel
theorem dX10_asks_56 : decode cX10_asks 56 = .ok (.aload_n 0, 1) := by decide +kernel
theorem dX10_asks_57 : decode cX10_asks 57 = .ok (.getfield 61, 3) := by decide +kernel
theorem dX10_asks_60 : decode cX10_asks 60 = .ok (.iload_n 2, 1) := by decide +kernel
theorem dX10_asks_61 : decode cX10_asks 61 = .ok (.aload_n 0, 1) := by decide +kernel
theorem dX10_asks_62 : decode cX10_asks 62 = .ok (.iload 6, 2) := by decide +kernel
theorem dX10_asks_64 : decode cX10_asks 64 = .ok (.iload_n 1, 1) := by decide +kernel
theorem dX10_asks_65 : decode cX10_asks 65 = .ok (.iload 4, 2) := by decide +kernel
theorem dX10_asks_67 : decode cX10_asks 67 = .ok (.iload 5, 2) := by decide +kernel
theorem dX10_asks_69 : decode cX10_asks 69 = .ok (.invokevirtual 212, 3) := by decide +kernel
theorem dX10_asks_72 : decode cX10_asks 72 = .ok (.iastore, 1) := by decide +kernel
theorem dX10_asks_73 : decode cX10_asks 73 = .ok (.aload_n 0, 1) := by decide +kernel
theorem dX10_asks_74 : decode cX10_asks 74 = .ok (.getfield 61, 3) := by decide +kernel
theorem dX10_asks_77 : decode cX10_asks 77 = .ok (.iload_n 1, 1) := by decide +kernel
theorem dX10_asks_78 : decode cX10_asks 78 = .ok (.aload_n 0, 1) := by decide +kernel
theorem dX10_asks_79 : decode cX10_asks 79 = .ok (.iload 7, 2) := by decide +kernel
theorem dX10_asks_81 : decode cX10_asks 81 = .ok (.iload_n 2, 1) := by decide +kernel
theorem dX10_asks_82 : decode cX10_asks 82 = .ok (.iload 4, 2) := by decide +kernel
theorem dX10_asks_84 : decode cX10_asks 84 = .ok (.ineg, 1) := by decide +kernel
theorem dX10_asks_85 : decode cX10_asks 85 = .ok (.iload 5, 2) := by decide +kernel
theorem dX10_asks_87 : decode cX10_asks 87 = .ok (.invokevirtual 212, 3) := by decide +kernel
theorem dX10_asks_90 : decode cX10_asks 90 = .ok (.iastore, 1) := by decide +kernel
theorem dX10_asks_91 : decode cX10_asks 91 = .ok (.aload_n 0, 1) := by decide +kernel
theorem dX10_asks_92 : decode cX10_asks 92 = .ok (.iload_n 1, 1) := by decide +kernel
theorem dX10_asks_93 : decode cX10_asks 93 = .ok (.invokevirtual 216, 3) := by decide +kernel
theorem dX10_asks_96 : decode cX10_asks 96 = .ok (.aload_n 0, 1) := by decide +kernel
theorem dX10_asks_97 : decode cX10_asks 97 = .ok (.iload_n 2, 1) := by decide +kernel
theorem dX10_asks_98 : decode cX10_asks 98 = .ok (.invokevirtual 216, 3) := by decide +kernel
theorem dX10_asks_101 : decode cX10_asks 101 = .ok (.return_, 1) := by decide +kernel
theorem dX10_puts_0 : decode cX10_puts 0 = .ok (.iconst 0, 1) := by decide +kernel
theorem dX10_puts_1 : decode cX10_puts 1 = .ok (.istore_n 1, 1) := by decide +kernel
theorem dX10_puts_2 : decode cX10_puts 2 = .ok (.iload_n 1, 1) := by decide +kernel
theorem dX10_puts_3 : decode cX10_puts 3 = .ok (.aload_n 0, 1) := by decide +kernel
theorem dX10_puts_4 : decode cX10_puts 4 = .ok (.getfield 116, 3) := by decide +kernel
theorem dX10_puts_7 : decode cX10_puts 7 = .ok (.if_icmp .ge 52, 3) := by decide +kernel
theorem dX10_puts_10 : decode cX10_puts 10 = .ok (.aload_n 0, 1) := by decide +kernel
theorem dX10_puts_11 : decode cX10_puts 11 = .ok (.getfield 22, 3) := by decide +kernel
theorem dX10_puts_14 : decode cX10_puts 14 = .ok (.iload_n 1, 1) := by decide +kernel
theorem dX10_puts_15 : decode cX10_puts 15 = .ok (.aload_n 0, 1) := by decide +kernel
theorem dX10_puts_16 : decode cX10_puts 16 = .ok (.getfield 61, 3) := by decide +kernel
theorem dX10_puts_19 : decode cX10_puts 19 = .ok (.iload_n 1, 1) := by decide +kernel
theorem dX10_puts_20 : decode cX10_puts 20 = .ok (.iaload, 1) := by decide +kernel
theorem dX10_puts_21 : decode cX10_puts 21 = .ok (.iastore, 1) := by decide +kernel
theorem dX10_puts_22 : decode cX10_puts 22 = .ok (.aload_n 0, 1) := by decide +kernel
theorem dX10_puts_23 : decode cX10_puts 23 = .ok (.getfield 25, 3) := by decide +kernel
theorem dX10_puts_26 : decode cX10_puts 26 = .ok (.iload_n 1, 1) := by decide +kernel
theorem dX10_puts_27 : decode cX10_puts 27 = .ok (.dup2, 1) := by decide +kernel
theorem dX10_puts_28 : decode cX10_puts 28 = .ok (.iaload, 1) := by decide +kernel
theorem dX10_puts_29 : decode cX10_puts 29 = .ok (.aload_n 0, 1) := by decide +kernel
theorem dX10_puts_30 : decode cX10_puts 30 = .ok (.getfield 61, 3) := by decide +kernel
theorem dX10_puts_33 : decode cX10_puts 33 = .ok (.iload_n 1, 1) := by decide +kernel
theorem dX10_puts_34 : decode cX10_puts 34 = .ok (.iaload, 1) := by decide +kernel
theorem dX10_puts_35 : decode cX10_puts 35 = .ok (.iconst (-1), 1) := by decide +kernel
theorem dX10_puts_36 : decode cX10_puts 36 = .ok (.if_icmp .ne 7, 3) := by decide +kernel
theorem dX10_puts_39 : decode cX10_puts 39 = .ok (.iconst 0, 1) := by decide +kernel
theorem dX10_puts_40 : decode cX10_puts 40 = .ok (.goto 11, 3) := by decide +kernel
theorem dX10_puts_43 : decode cX10_puts 43 = .ok (.iconst 1, 1) := by decide +kernel
theorem dX10_puts_44 : decode cX10_puts 44 = .ok (.aload_n 0, 1) := by decide +kernel
theorem dX10_puts_45 : decode cX10_puts 45 = .ok (.getfield 61, 3) := by decide +kernel
theorem dX10_puts_48 : decode cX10_puts 48 = .ok (.iload_n 1, 1) := by decide +kernel
theorem dX10_puts_49 : decode cX10_puts 49 = .ok (.iaload, 1) := by decide +kernel
theorem dX10_puts_50 : decode cX10_puts 50 = .ok (.ishl, 1) := by decide +kernel
theorem dX10_puts_51 : decode cX10_puts 51 = .ok (.ior, 1) := by decide +kernel
theorem dX10_puts_52 : decode cX10_puts 52 = .ok (.iastore, 1) := by decide +kernel
theorem dX10_puts_53 : decode cX10_puts 53 = .ok (.iinc 1 1, 3) := by decide +kernel
theorem dX10_puts_56 : decode cX10_puts 56 = .ok (.goto (-54), 3) := by decide +kernel
theorem dX10_puts_59 : decode cX10_puts 59 = .ok (.return_, 1) := by decide +kernel
theorem dX10_remembers_0 : decode cX10_remembers 0 = .ok (.aload_n 0, 1) := by decide +kernel
theorem dX10_remembers_1 : decode cX10_remembers 1 = .ok (.getfield 186, 3) := by decide +kernel
theorem dX10_remembers_4 : decode cX10_remembers 4 = .ok (.bipush 8, 2) := by decide +kernel
theorem dX10_remembers_6 : decode cX10_remembers 6 = .ok (.if_icmp .ne 85, 3) := by decide +kernel
theorem dX10_remembers_9 : decode cX10_remembers 9 = .ok (.iconst 0, 1) := by decide +kernel
theorem dX10_remembers_10 : decode cX10_remembers 10 = .ok (.istore_n 1, 1) := by decide +kernel
theorem dX10_remembers_11 : decode cX10_remembers 11 = .ok (.iload_n 1, 1) := by decide +kernel
theorem dX10_remembers_12 : decode cX10_remembers 12 = .ok (.bipush 42, 2) := by decide +kernel
theorem dX10_remembers_14 : decode cX10_remembers 14 = .ok (.if_icmp .ge 39, 3) := by decide +kernel
theorem dX10_remembers_17 : decode cX10_remembers 17 = .ok (.aload_n 0, 1) := by decide +kernel
theorem dX10_remembers_18 : decode cX10_remembers 18 = .ok (.getfield 28, 3) := by decide +kernel
theorem dX10_remembers_21 : decode cX10_remembers 21 = .ok (.iload_n 1, 1) := by decide +kernel
theorem dX10_remembers_22 : decode cX10_remembers 22 = .ok (.aload_n 0, 1) := by decide +kernel
theorem dX10_remembers_23 : decode cX10_remembers 23 = .ok (.getfield 28, 3) := by decide +kernel
theorem dX10_remembers_26 : decode cX10_remembers 26 = .ok (.iload_n 1, 1) := by decide +kernel
theorem dX10_remembers_27 : decode cX10_remembers 27 = .ok (.bipush 6, 2) := by decide +kernel
theorem dX10_remembers_29 : decode cX10_remembers 29 = .ok (.iadd, 1) := by decide +kernel
theorem dX10_remembers_30 : decode cX10_remembers 30 = .ok (.iaload, 1) := by decide +kernel
theorem dX10_remembers_31 : decode cX10_remembers 31 = .ok (.iastore, 1) := by decide +kernel
theorem dX10_remembers_32 : decode cX10_remembers 32 = .ok (.aload_n 0, 1) := by decide +kernel
theorem dX10_remembers_33 : decode cX10_remembers 33 = .ok (.getfield 31, 3) := by decide +kernel
theorem dX10_remembers_36 : decode cX10_remembers 36 = .ok (.iload_n 1, 1) := by decide +kernel
theorem dX10_remembers_37 : decode cX10_remembers 37 = .ok (.aload_n 0, 1) := by decide +kernel
theorem dX10_remembers_38 : decode cX10_remembers 38 = .ok (.getfield 31, 3) := by decide +kernel
theorem dX10_remembers_41 : decode cX10_remembers 41 = .ok (.iload_n 1, 1) := by decide +kernel
theorem dX10_remembers_42 : decode cX10_remembers 42 = .ok (.bipush 6, 2) := by decide +kernel
theorem dX10_remembers_44 : decode cX10_remembers 44 = .ok (.iadd, 1) := by decide +kernel
theorem dX10_remembers_45 : decode cX10_remembers 45 = .ok (.iaload, 1) := by decide +kernel
theorem dX10_remembers_46 : decode cX10_remembers 46 = .ok (.iastore, 1) := by decide +kernel
theorem dX10_remembers_47 : decode cX10_remembers 47 = .ok (.iinc 1 1, 3) := by decide +kernel
theorem dX10_remembers_50 : decode cX10_remembers 50 = .ok (.goto (-39), 3) := by decide +kernel
theorem dX10_remembers_53 : decode cX10_remembers 53 = .ok (.iconst 0, 1) := by decide +kernel
theorem dX10_remembers_54 : decode cX10_remembers 54 = .ok (.istore_n 1, 1) := by decide +kernel
theorem dX10_remembers_55 : decode cX10_remembers 55 = .ok (.iload_n 1, 1) := by decide +kernel
theorem dX10_remembers_56 : decode cX10_remembers 56 = .ok (.bipush 7, 2) := by decide +kernel
theorem dX10_remembers_58 : decode cX10_remembers 58 = .ok (.if_icmp .ge 23, 3) := by decide +kernel
theorem dX10_remembers_61 : decode cX10_remembers 61 = .ok (.aload_n 0, 1) := by decide +kernel
theorem dX10_remembers_62 : decode cX10_remembers 62 = .ok (.getfield 34, 3) := by decide +kernel
theorem dX10_remembers_65 : decode cX10_remembers 65 = .ok (.iload_n 1, 1) := by decide +kernel
theorem dX10_remembers_66 : decode cX10_remembers 66 = .ok (.aload_n 0, 1) := by decide +kernel
theorem dX10_remembers_67 : decode cX10_remembers 67 = .ok (.getfield 34, 3) := by decide +kernel
theorem dX10_remembers_70 : decode cX10_remembers 70 = .ok (.iload_n 1, 1) := by decide +kernel
theorem dX10_remembers_71 : decode cX10_remembers 71 = .ok (.iconst 1, 1) := by decide +kernel
theorem dX10_remembers_72 : decode cX10_remembers 72 = .ok (.iadd, 1) := by decide +kernel
theorem dX10_remembers_73 : decode cX10_remembers 73 = .ok (.iaload, 1) := by decide +kernel
theorem dX10_remembers_74 : decode cX10_remembers 74 = .ok (.iastore, 1) := by decide +kernel
theorem dX10_remembers_75 : decode cX10_remembers 75 = .ok (.iinc 1 1, 3) := by decide +kernel
theorem dX10_remembers_78 : decode cX10_remembers 78 = .ok (.goto (-23), 3) := by decide +kernel
theorem dX10_remembers_81 : decode cX10_remembers 81 = .ok (.aload_n 0, 1) := by decide +kernel
theorem dX10_remembers_82 : decode cX10_remembers 82 = .ok (.dup, 1) := by decide +kernel
theorem dX10_remembers_83 : decode cX10_remembers 83 = .ok (.getfield 186, 3) := by decide +kernel
theorem dX10_remembers_86 : decode cX10_remembers 86 = .ok (.iconst 1, 1) := by decide +kernel
theorem dX10_remembers_87 : decode cX10_remembers 87 = .ok (.isub, 1) := by decide +kernel
theorem dX10_remembers_88 : decode cX10_remembers 88 = .ok (.putfield 186, 3) := by decide +kernel
theorem dX10_remembers_91 : decode cX10_remembers 91 = .ok (.iconst 0, 1) := by decide +kernel
theorem dX10_remembers_92 : decode cX10_remembers 92 = .ok (.istore_n 1, 1) := by decide +kernel
theorem dX10_remembers_93 : decode cX10_remembers 93 = .ok (.iload_n 1, 1) := by decide +kernel
theorem dX10_remembers_94 : decode cX10_remembers 94 = .ok (.aload_n 0, 1) := by decide +kernel
theorem dX10_remembers_95 : decode cX10_remembers 95 = .ok (.getfield 116, 3) := by decide +kernel
theorem dX10_remembers_98 : decode cX10_remembers 98 = .ok (.if_icmp .ge 49, 3) := by decide +kernel
theorem dX10_remembers_101 : decode cX10_remembers 101 = .ok (.aload_n 0, 1) := by decide +kernel
theorem dX10_remembers_102 : decode cX10_remembers 102 = .ok (.getfield 28, 3) := by decide +kernel
theorem dX10_remembers_105 : decode cX10_remembers 105 = .ok (.bipush 6, 2) := by decide +kernel
theorem dX10_remembers_107 : decode cX10_remembers 107 = .ok (.aload_n 0, 1) := by decide +kernel
theorem dX10_remembers_108 : decode cX10_remembers 108 = .ok (.getfield 186, 3) := by decide +kernel
theorem dX10_remembers_111 : decode cX10_remembers 111 = .ok (.imul, 1) := by decide +kernel
theorem dX10_remembers_112 : decode cX10_remembers 112 = .ok (.iload_n 1, 1) := by decide +kernel
theorem dX10_remembers_113 : decode cX10_remembers 113 = .ok (.iadd, 1) := by decide +kernel
theorem dX10_remembers_114 : decode cX10_remembers 114 = .ok (.aload_n 0, 1) := by decide +kernel
theorem dX10_remembers_115 : decode cX10_remembers 115 = .ok (.getfield 22, 3) := by decide +kernel
theorem dX10_remembers_118 : decode cX10_remembers 118 = .ok (.iload_n 1, 1) := by decide +kernel
theorem dX10_remembers_119 : decode cX10_remembers 119 = .ok (.iaload, 1) := by decide +kernel
theorem dX10_remembers_120 : decode cX10_remembers 120 = .ok (.iastore, 1) := by decide +kernel
theorem dX10_remembers_121 : decode cX10_remembers 121 = .ok (.aload_n 0, 1) := by decide +kernel
theorem dX10_remembers_122 : decode cX10_remembers 122 = .ok (.getfield 31, 3) := by decide +kernel
theorem dX10_remembers_125 : decode cX10_remembers 125 = .ok (.bipush 6, 2) := by decide +kernel
theorem dX10_remembers_127 : decode cX10_remembers 127 = .ok (.aload_n 0, 1) := by decide +kernel
theorem dX10_remembers_128 : decode cX10_remembers 128 = .ok (.getfield 186, 3) := by decide +kernel
theorem dX10_remembers_131 : decode cX10_remembers 131 = .ok (.imul, 1) := by decide +kernel
theorem dX10_remembers_132 : decode cX10_remembers 132 = .ok (.iload_n 1, 1) := by decide +kernel
theorem dX10_remembers_133 : decode cX10_remembers 133 = .ok (.iadd, 1) := by decide +kernel
theorem dX10_remembers_134 : decode cX10_remembers 134 = .ok (.aload_n 0, 1) := by decide +kernel
theorem dX10_remembers_135 : decode cX10_remembers 135 = .ok (.getfield 25, 3) := by decide +kernel
theorem dX10_remembers_138 : decode cX10_remembers 138 = .ok (.iload_n 1, 1) := by decide +kernel
theorem dX10_remembers_139 : decode cX10_remembers 139 = .ok (.iaload, 1) := by decide +kernel
theorem dX10_remembers_140 : decode cX10_remembers 140 = .ok (.iastore, 1) := by decide +kernel
theorem dX10_remembers_141 : decode cX10_remembers 141 = .ok (.iinc 1 1, 3) := by decide +kernel
theorem dX10_remembers_144 : decode cX10_remembers 144 = .ok (.goto (-51), 3) := by decide +kernel
theorem dX10_remembers_147 : decode cX10_remembers 147 = .ok (.aload_n 0, 1) := by decide +kernel
theorem dX10_remembers_148 : decode cX10_remembers 148 = .ok (.getfield 34, 3) := by decide +kernel
theorem dX10_remembers_151 : decode cX10_remembers 151 = .ok (.aload_n 0, 1) := by decide +kernel
theorem dX10_remembers_152 : decode cX10_remembers 152 = .ok (.getfield 186, 3) := by decide +kernel
theorem dX10_remembers_155 : decode cX10_remembers 155 = .ok (.aload_n 0, 1) := by decide +kernel
theorem dX10_remembers_156 : decode cX10_remembers 156 = .ok (.getfield 183, 3) := by decide +kernel
theorem dX10_remembers_159 : decode cX10_remembers 159 = .ok (.iastore, 1) := by decide +kernel
theorem dX10_remembers_160 : decode cX10_remembers 160 = .ok (.aload_n 0, 1) := by decide +kernel
theorem dX10_remembers_161 : decode cX10_remembers 161 = .ok (.dup, 1) := by decide +kernel
theorem dX10_remembers_162 : decode cX10_remembers 162 = .ok (.getfield 186, 3) := by decide +kernel
theorem dX10_remembers_165 : decode cX10_remembers 165 = .ok (.iconst 1, 1) := by decide +kernel
theorem dX10_remembers_166 : decode cX10_remembers 166 = .ok (.iadd, 1) := by decide +kernel
theorem dX10_remembers_167 : decode cX10_remembers 167 = .ok (.putfield 186, 3) := by decide +kernel
theorem dX10_remembers_170 : decode cX10_remembers 170 = .ok (.return_, 1) := by decide +kernel
theorem dX10_ask_0 : decode cX10_ask 0 = .ok (.aload_n 0, 1) := by decide +kernel
theorem dX10_ask_1 : decode cX10_ask 1 = .ok (.iload_n 1, 1) := by decide +kernel
theorem dX10_ask_2 : decode cX10_ask 2 = .ok (.invokevirtual 192, 3) := by decide +kernel
theorem dX10_ask_5 : decode cX10_ask 5 = .ok (.ifCond .eq 11, 3) := by decide +kernel
theorem dX10_ask_8 : decode cX10_ask 8 = .ok (.aload_n 0, 1) := by decide +kernel
theorem dX10_ask_9 : decode cX10_ask 9 = .ok (.iload_n 2, 1) := by decide +kernel
theorem dX10_ask_10 : decode cX10_ask 10 = .ok (.invokevirtual 192, 3) := by decide +kernel
theorem dX10_ask_13 : decode cX10_ask 13 = .ok (.ifCond .ne 5, 3) := by decide +kernel
theorem dX10_ask_16 : decode cX10_ask 16 = .ok (.iconst (-1), 1) := by decide +kernel
theorem dX10_ask_17 : decode cX10_ask 17 = .ok (.ireturn, 1) := by decide +kernel
theorem dX10_ask_18 : decode cX10_ask 18 = .ok (.aload_n 0, 1) := by decide +kernel
theorem dX10_ask_19 : decode cX10_ask 19 = .ok (.invokevirtual 220, 3) := by decide +kernel
theorem dX10_ask_22 : decode cX10_ask 22 = .ok (.aload_n 0, 1) := by decide +kernel
theorem dX10_ask_23 : decode cX10_ask 23 = .ok (.iload_n 1, 1) := by decide +kernel
theorem dX10_ask_24 : decode cX10_ask 24 = .ok (.iload_n 2, 1) := by decide +kernel
theorem dX10_ask_25 : decode cX10_ask 25 = .ok (.invokevirtual 223, 3) := by decide +kernel
theorem dX10_ask_28 : decode cX10_ask 28 = .ok (.ifCond .ne 6, 3) := by decide +kernel
theorem dX10_ask_31 : decode cX10_ask 31 = .ok (.bipush (-2), 2) := by decide +kernel
theorem dX10_ask_33 : decode cX10_ask 33 = .ok (.ireturn, 1) := by decide +kernel
theorem dX10_ask_34 : decode cX10_ask 34 = .ok (.aload_n 0, 1) := by decide +kernel
theorem dX10_ask_35 : decode cX10_ask 35 = .ok (.invokevirtual 227, 3) := by decide +kernel
theorem dX10_ask_38 : decode cX10_ask 38 = .ok (.aload_n 0, 1) := by decide +kernel
theorem dX10_ask_39 : decode cX10_ask 39 = .ok (.iload_n 1, 1) := by decide +kernel
theorem dX10_ask_40 : decode cX10_ask 40 = .ok (.iload_n 2, 1) := by decide +kernel
theorem dX10_ask_41 : decode cX10_ask 41 = .ok (.invokevirtual 230, 3) := by decide +kernel
theorem dX10_ask_44 : decode cX10_ask 44 = .ok (.aload_n 0, 1) := by decide +kernel
theorem dX10_ask_45 : decode cX10_ask 45 = .ok (.invokevirtual 234, 3) := by decide +kernel
theorem dX10_ask_48 : decode cX10_ask 48 = .ok (.aload_n 0, 1) := by decide +kernel
theorem dX10_ask_49 : decode cX10_ask 49 = .ok (.dup, 1) := by decide +kernel
theorem dX10_ask_50 : decode cX10_ask 50 = .ok (.getfield 183, 3) := by decide +kernel
theorem dX10_ask_53 : decode cX10_ask 53 = .ok (.aload_n 0, 1) := by decide +kernel
theorem dX10_ask_54 : decode cX10_ask 54 = .ok (.iload_n 1, 1) := by decide +kernel
theorem dX10_ask_55 : decode cX10_ask 55 = .ok (.iload_n 2, 1) := by decide +kernel
theorem dX10_ask_56 : decode cX10_ask 56 = .ok (.invokevirtual 206, 3) := by decide +kernel
theorem dX10_ask_59 : decode cX10_ask 59 = .ok (.iadd, 1) := by decide +kernel
theorem dX10_ask_60 : decode cX10_ask 60 = .ok (.putfield 183, 3) := by decide +kernel
theorem dX10_ask_63 : decode cX10_ask 63 = .ok (.aload_n 0, 1) := by decide +kernel
theorem dX10_ask_64 : decode cX10_ask 64 = .ok (.getfield 22, 3) := by decide +kernel
theorem dX10_ask_67 : decode cX10_ask 67 = .ok (.iload_n 1, 1) := by decide +kernel
theorem dX10_ask_68 : decode cX10_ask 68 = .ok (.iaload, 1) := by decide +kernel
theorem dX10_ask_69 : decode cX10_ask 69 = .ok (.iconst (-1), 1) := by decide +kernel
theorem dX10_ask_70 : decode cX10_ask 70 = .ok (.if_icmp .ne 8, 3) := by decide +kernel
theorem dX10_ask_73 : decode cX10_ask 73 = .ok (.bipush (-4), 2) := by decide +kernel
theorem dX10_ask_75 : decode cX10_ask 75 = .ok (.goto 9, 3) := by decide +kernel
theorem dX10_ask_78 : decode cX10_ask 78 = .ok (.aload_n 0, 1) := by decide +kernel
theorem dX10_ask_79 : decode cX10_ask 79 = .ok (.getfield 22, 3) := by decide +kernel
theorem dX10_ask_82 : decode cX10_ask 82 = .ok (.iload_n 1, 1) := by decide +kernel
theorem dX10_ask_83 : decode cX10_ask 83 = .ok (.iaload, 1) := by decide +kernel
theorem dX10_ask_84 : decode cX10_ask 84 = .ok (.ireturn, 1) := by decide +kernel
theorem dX10_undo_0 : decode cX10_undo 0 = .ok (.aload_n 0, 1) := by decide +kernel
theorem dX10_undo_1 : decode cX10_undo 1 = .ok (.getfield 186, 3) := by decide +kernel
theorem dX10_undo_4 : decode cX10_undo 4 = .ok (.ifCond .ne 6, 3) := by decide +kernel
theorem dX10_undo_7 : decode cX10_undo 7 = .ok (.bipush (-2), 2) := by decide +kernel
theorem dX10_undo_9 : decode cX10_undo 9 = .ok (.ireturn, 1) := by decide +kernel
theorem dX10_undo_10 : decode cX10_undo 10 = .ok (.aload_n 0, 1) := by decide +kernel
theorem dX10_undo_11 : decode cX10_undo 11 = .ok (.dup, 1) := by decide +kernel
theorem dX10_undo_12 : decode cX10_undo 12 = .ok (.getfield 186, 3) := by decide +kernel
theorem dX10_undo_15 : decode cX10_undo 15 = .ok (.iconst 1, 1) := by decide +kernel
theorem dX10_undo_16 : decode cX10_undo 16 = .ok (.isub, 1) := by decide +kernel
theorem dX10_undo_17 : decode cX10_undo 17 = .ok (.putfield 186, 3) := by decide +kernel
theorem dX10_undo_20 : decode cX10_undo 20 = .ok (.iconst 0, 1) := by decide +kernel
theorem dX10_undo_21 : decode cX10_undo 21 = .ok (.istore_n 1, 1) := by decide +kernel
theorem dX10_undo_22 : decode cX10_undo 22 = .ok (.iload_n 1, 1) := by decide +kernel
theorem dX10_undo_23 : decode cX10_undo 23 = .ok (.aload_n 0, 1) := by decide +kernel
theorem dX10_undo_24 : decode cX10_undo 24 = .ok (.getfield 116, 3) := by decide +kernel
theorem dX10_undo_27 : decode cX10_undo 27 = .ok (.if_icmp .ge 49, 3) := by decide +kernel
theorem dX10_undo_30 : decode cX10_undo 30 = .ok (.aload_n 0, 1) := by decide +kernel
theorem dX10_undo_31 : decode cX10_undo 31 = .ok (.getfield 22, 3) := by decide +kernel
theorem dX10_undo_34 : decode cX10_undo 34 = .ok (.iload_n 1, 1) := by decide +kernel
theorem dX10_undo_35 : decode cX10_undo 35 = .ok (.aload_n 0, 1) := by decide +kernel
theorem dX10_undo_36 : decode cX10_undo 36 = .ok (.getfield 28, 3) := by decide +kernel
theorem dX10_undo_39 : decode cX10_undo 39 = .ok (.bipush 6, 2) := by decide +kernel
theorem dX10_undo_41 : decode cX10_undo 41 = .ok (.aload_n 0, 1) := by decide +kernel
theorem dX10_undo_42 : decode cX10_undo 42 = .ok (.getfield 186, 3) := by decide +kernel
theorem dX10_undo_45 : decode cX10_undo 45 = .ok (.imul, 1) := by decide +kernel
theorem dX10_undo_46 : decode cX10_undo 46 = .ok (.iload_n 1, 1) := by decide +kernel
theorem dX10_undo_47 : decode cX10_undo 47 = .ok (.iadd, 1) := by decide +kernel
theorem dX10_undo_48 : decode cX10_undo 48 = .ok (.iaload, 1) := by decide +kernel
theorem dX10_undo_49 : decode cX10_undo 49 = .ok (.iastore, 1) := by decide +kernel
theorem dX10_undo_50 : decode cX10_undo 50 = .ok (.aload_n 0, 1) := by decide +kernel
theorem dX10_undo_51 : decode cX10_undo 51 = .ok (.getfield 25, 3) := by decide +kernel
theorem dX10_undo_54 : decode cX10_undo 54 = .ok (.iload_n 1, 1) := by decide +kernel
theorem dX10_undo_55 : decode cX10_undo 55 = .ok (.aload_n 0, 1) := by decide +kernel
theorem dX10_undo_56 : decode cX10_undo 56 = .ok (.getfield 31, 3) := by decide +kernel
theorem dX10_undo_59 : decode cX10_undo 59 = .ok (.bipush 6, 2) := by decide +kernel
theorem dX10_undo_61 : decode cX10_undo 61 = .ok (.aload_n 0, 1) := by decide +kernel
theorem dX10_undo_62 : decode cX10_undo 62 = .ok (.getfield 186, 3) := by decide +kernel
theorem dX10_undo_65 : decode cX10_undo 65 = .ok (.imul, 1) := by decide +kernel
theorem dX10_undo_66 : decode cX10_undo 66 = .ok (.iload_n 1, 1) := by decide +kernel
theorem dX10_undo_67 : decode cX10_undo 67 = .ok (.iadd, 1) := by decide +kernel
theorem dX10_undo_68 : decode cX10_undo 68 = .ok (.iaload, 1) := by decide +kernel
theorem dX10_undo_69 : decode cX10_undo 69 = .ok (.iastore, 1) := by decide +kernel
theorem dX10_undo_70 : decode cX10_undo 70 = .ok (.iinc 1 1, 3) := by decide +kernel
theorem dX10_undo_73 : decode cX10_undo 73 = .ok (.goto (-51), 3) := by decide +kernel
theorem dX10_undo_76 : decode cX10_undo 76 = .ok (.aload_n 0, 1) := by decide +kernel
theorem dX10_undo_77 : decode cX10_undo 77 = .ok (.aload_n 0, 1) := by decide +kernel
theorem dX10_undo_78 : decode cX10_undo 78 = .ok (.getfield 34, 3) := by decide +kernel
theorem dX10_undo_81 : decode cX10_undo 81 = .ok (.aload_n 0, 1) := by decide +kernel
theorem dX10_undo_82 : decode cX10_undo 82 = .ok (.getfield 186, 3) := by decide +kernel
theorem dX10_undo_85 : decode cX10_undo 85 = .ok (.iaload, 1) := by decide +kernel
theorem dX10_undo_86 : decode cX10_undo 86 = .ok (.putfield 183, 3) := by decide +kernel
theorem dX10_undo_89 : decode cX10_undo 89 = .ok (.aload_n 0, 1) := by decide +kernel
theorem dX10_undo_90 : decode cX10_undo 90 = .ok (.getfield 186, 3) := by decide +kernel
theorem dX10_undo_93 : decode cX10_undo 93 = .ok (.ireturn, 1) := by decide +kernel
theorem dX10_evening_0 : decode cX10_evening 0 = .ok (.iconst 0, 1) := by decide +kernel
theorem dX10_evening_1 : decode cX10_evening 1 = .ok (.istore_n 1, 1) := by decide +kernel
theorem dX10_evening_2 : decode cX10_evening 2 = .ok (.iconst 0, 1) := by decide +kernel
theorem dX10_evening_3 : decode cX10_evening 3 = .ok (.istore_n 2, 1) := by decide +kernel
theorem dX10_evening_4 : decode cX10_evening 4 = .ok (.iload_n 2, 1) := by decide +kernel
theorem dX10_evening_5 : decode cX10_evening 5 = .ok (.aload_n 0, 1) := by decide +kernel
theorem dX10_evening_6 : decode cX10_evening 6 = .ok (.getfield 116, 3) := by decide +kernel
theorem dX10_evening_9 : decode cX10_evening 9 = .ok (.if_icmp .ge 27, 3) := by decide +kernel
theorem dX10_evening_12 : decode cX10_evening 12 = .ok (.iload_n 1, 1) := by decide +kernel
theorem dX10_evening_13 : decode cX10_evening 13 = .ok (.aload_n 0, 1) := by decide +kernel
theorem dX10_evening_14 : decode cX10_evening 14 = .ok (.iload_n 2, 1) := by decide +kernel
theorem dX10_evening_15 : decode cX10_evening 15 = .ok (.aload_n 0, 1) := by decide +kernel
theorem dX10_evening_16 : decode cX10_evening 16 = .ok (.getfield 22, 3) := by decide +kernel
theorem dX10_evening_19 : decode cX10_evening 19 = .ok (.iload_n 2, 1) := by decide +kernel
theorem dX10_evening_20 : decode cX10_evening 20 = .ok (.iaload, 1) := by decide +kernel
theorem dX10_evening_21 : decode cX10_evening 21 = .ok (.aload_n 0, 1) := by decide +kernel
theorem dX10_evening_22 : decode cX10_evening 22 = .ok (.getfield 183, 3) := by decide +kernel
theorem dX10_evening_25 : decode cX10_evening 25 = .ok (.invokevirtual 198, 3) := by decide +kernel
theorem dX10_evening_28 : decode cX10_evening 28 = .ok (.iadd, 1) := by decide +kernel
theorem dX10_evening_29 : decode cX10_evening 29 = .ok (.istore_n 1, 1) := by decide +kernel
theorem dX10_evening_30 : decode cX10_evening 30 = .ok (.iinc 2 1, 3) := by decide +kernel
theorem dX10_evening_33 : decode cX10_evening 33 = .ok (.goto (-29), 3) := by decide +kernel
theorem dX10_evening_36 : decode cX10_evening 36 = .ok (.iload_n 1, 1) := by decide +kernel
theorem dX10_evening_37 : decode cX10_evening 37 = .ok (.ireturn, 1) := by decide +kernel
theorem dX10_power_0 : decode cX10_power 0 = .ok (.iconst 1, 1) := by decide +kernel
theorem dX10_power_1 : decode cX10_power 1 = .ok (.istore_n 1, 1) := by decide +kernel
theorem dX10_power_2 : decode cX10_power 2 = .ok (.iconst 0, 1) := by decide +kernel
theorem dX10_power_3 : decode cX10_power 3 = .ok (.istore_n 2, 1) := by decide +kernel
theorem dX10_power_4 : decode cX10_power 4 = .ok (.iload_n 2, 1) := by decide +kernel
theorem dX10_power_5 : decode cX10_power 5 = .ok (.iload_n 0, 1) := by decide +kernel
theorem dX10_power_6 : decode cX10_power 6 = .ok (.if_icmp .ge 14, 3) := by decide +kernel
theorem dX10_power_9 : decode cX10_power 9 = .ok (.iload_n 1, 1) := by decide +kernel
theorem dX10_power_10 : decode cX10_power 10 = .ok (.bipush 6, 2) := by decide +kernel
theorem dX10_power_12 : decode cX10_power 12 = .ok (.imul, 1) := by decide +kernel
theorem dX10_power_13 : decode cX10_power 13 = .ok (.istore_n 1, 1) := by decide +kernel
theorem dX10_power_14 : decode cX10_power 14 = .ok (.iinc 2 1, 3) := by decide +kernel
theorem dX10_power_17 : decode cX10_power 17 = .ok (.goto (-13), 3) := by decide +kernel
theorem dX10_power_20 : decode cX10_power 20 = .ok (.iload_n 1, 1) := by decide +kernel
theorem dX10_power_21 : decode cX10_power 21 = .ok (.ireturn, 1) := by decide +kernel
theorem dX10_codeNow_0 : decode cX10_codeNow 0 = .ok (.iconst 0, 1) := by decide +kernel
theorem dX10_codeNow_1 : decode cX10_codeNow 1 = .ok (.istore_n 1, 1) := by decide +kernel
theorem dX10_codeNow_2 : decode cX10_codeNow 2 = .ok (.iconst 0, 1) := by decide +kernel
theorem dX10_codeNow_3 : decode cX10_codeNow 3 = .ok (.istore_n 2, 1) := by decide +kernel
theorem dX10_codeNow_4 : decode cX10_codeNow 4 = .ok (.iload_n 2, 1) := by decide +kernel
theorem dX10_codeNow_5 : decode cX10_codeNow 5 = .ok (.aload_n 0, 1) := by decide +kernel
theorem dX10_codeNow_6 : decode cX10_codeNow 6 = .ok (.getfield 116, 3) := by decide +kernel
theorem dX10_codeNow_9 : decode cX10_codeNow 9 = .ok (.if_icmp .ge 37, 3) := by decide +kernel
theorem dX10_codeNow_12 : decode cX10_codeNow 12 = .ok (.iload_n 1, 1) := by decide +kernel
theorem dX10_codeNow_13 : decode cX10_codeNow 13 = .ok (.aload_n 0, 1) := by decide +kernel
theorem dX10_codeNow_14 : decode cX10_codeNow 14 = .ok (.getfield 61, 3) := by decide +kernel
theorem dX10_codeNow_17 : decode cX10_codeNow 17 = .ok (.iload_n 2, 1) := by decide +kernel
theorem dX10_codeNow_18 : decode cX10_codeNow 18 = .ok (.iaload, 1) := by decide +kernel
theorem dX10_codeNow_19 : decode cX10_codeNow 19 = .ok (.iconst (-1), 1) := by decide +kernel
theorem dX10_codeNow_20 : decode cX10_codeNow 20 = .ok (.if_icmp .ne 7, 3) := by decide +kernel
theorem dX10_codeNow_23 : decode cX10_codeNow 23 = .ok (.iconst 0, 1) := by decide +kernel
theorem dX10_codeNow_24 : decode cX10_codeNow 24 = .ok (.goto 14, 3) := by decide +kernel
theorem dX10_codeNow_27 : decode cX10_codeNow 27 = .ok (.iload_n 2, 1) := by decide +kernel
theorem dX10_codeNow_28 : decode cX10_codeNow 28 = .ok (.aload_n 0, 1) := by decide +kernel
theorem dX10_codeNow_29 : decode cX10_codeNow 29 = .ok (.getfield 61, 3) := by decide +kernel
theorem dX10_codeNow_32 : decode cX10_codeNow 32 = .ok (.iload_n 2, 1) := by decide +kernel
theorem dX10_codeNow_33 : decode cX10_codeNow 33 = .ok (.iaload, 1) := by decide +kernel
theorem dX10_codeNow_34 : decode cX10_codeNow 34 = .ok (.invokestatic 237, 3) := by decide +kernel
theorem dX10_codeNow_37 : decode cX10_codeNow 37 = .ok (.imul, 1) := by decide +kernel
theorem dX10_codeNow_38 : decode cX10_codeNow 38 = .ok (.iadd, 1) := by decide +kernel
theorem dX10_codeNow_39 : decode cX10_codeNow 39 = .ok (.istore_n 1, 1) := by decide +kernel
theorem dX10_codeNow_40 : decode cX10_codeNow 40 = .ok (.iinc 2 1, 3) := by decide +kernel
theorem dX10_codeNow_43 : decode cX10_codeNow 43 = .ok (.goto (-39), 3) := by decide +kernel
theorem dX10_codeNow_46 : decode cX10_codeNow 46 = .ok (.iload_n 1, 1) := by decide +kernel
theorem dX10_codeNow_47 : decode cX10_codeNow 47 = .ok (.ireturn, 1) := by decide +kernel
theorem dX10_seatIn_0 : decode cX10_seatIn 0 = .ok (.aload_n 0, 1) := by decide +kernel
theorem dX10_seatIn_1 : decode cX10_seatIn 1 = .ok (.getfield 241, 3) := by decide +kernel
theorem dX10_seatIn_4 : decode cX10_seatIn 4 = .ok (.iload_n 2, 1) := by decide +kernel
theorem dX10_seatIn_5 : decode cX10_seatIn 5 = .ok (.ishr, 1) := by decide +kernel
theorem dX10_seatIn_6 : decode cX10_seatIn 6 = .ok (.iconst 1, 1) := by decide +kernel
theorem dX10_seatIn_7 : decode cX10_seatIn 7 = .ok (.iand, 1) := by decide +kernel
theorem dX10_seatIn_8 : decode cX10_seatIn 8 = .ok (.ifCond .ne 7, 3) := by decide +kernel
theorem dX10_seatIn_11 : decode cX10_seatIn 11 = .ok (.iconst (-1), 1) := by decide +kernel
theorem dX10_seatIn_12 : decode cX10_seatIn 12 = .ok (.goto 12, 3) := by decide +kernel
theorem dX10_seatIn_15 : decode cX10_seatIn 15 = .ok (.iload_n 1, 1) := by decide +kernel
theorem dX10_seatIn_16 : decode cX10_seatIn 16 = .ok (.iload_n 2, 1) := by decide +kernel
theorem dX10_seatIn_17 : decode cX10_seatIn 17 = .ok (.invokestatic 237, 3) := by decide +kernel
theorem dX10_seatIn_20 : decode cX10_seatIn 20 = .ok (.idiv, 1) := by decide +kernel
theorem dX10_seatIn_21 : decode cX10_seatIn 21 = .ok (.bipush 6, 2) := by decide +kernel
theorem dX10_seatIn_23 : decode cX10_seatIn 23 = .ok (.irem, 1) := by decide +kernel
theorem dX10_seatIn_24 : decode cX10_seatIn 24 = .ok (.ireturn, 1) := by decide +kernel
theorem dX10_loads_0 : decode cX10_loads 0 = .ok (.iconst 0, 1) := by decide +kernel
theorem dX10_loads_1 : decode cX10_loads 1 = .ok (.istore_n 2, 1) := by decide +kernel
theorem dX10_loads_2 : decode cX10_loads 2 = .ok (.iload_n 2, 1) := by decide +kernel
theorem dX10_loads_3 : decode cX10_loads 3 = .ok (.aload_n 0, 1) := by decide +kernel
theorem dX10_loads_4 : decode cX10_loads 4 = .ok (.getfield 116, 3) := by decide +kernel
theorem dX10_loads_7 : decode cX10_loads 7 = .ok (.if_icmp .ge 16, 3) := by decide +kernel
theorem dX10_loads_10 : decode cX10_loads 10 = .ok (.aload_n 0, 1) := by decide +kernel
theorem dX10_loads_11 : decode cX10_loads 11 = .ok (.getfield 61, 3) := by decide +kernel
theorem dX10_loads_14 : decode cX10_loads 14 = .ok (.iload_n 2, 1) := by decide +kernel
theorem dX10_loads_15 : decode cX10_loads 15 = .ok (.iconst (-1), 1) := by decide +kernel
theorem dX10_loads_16 : decode cX10_loads 16 = .ok (.iastore, 1) := by decide +kernel
theorem dX10_loads_17 : decode cX10_loads 17 = .ok (.iinc 2 1, 3) := by decide +kernel
theorem dX10_loads_20 : decode cX10_loads 20 = .ok (.goto (-18), 3) := by decide +kernel
theorem dX10_loads_23 : decode cX10_loads 23 = .ok (.iconst 0, 1) := by decide +kernel
theorem dX10_loads_24 : decode cX10_loads 24 = .ok (.istore_n 2, 1) := by decide +kernel
theorem dX10_loads_25 : decode cX10_loads 25 = .ok (.iload_n 2, 1) := by decide +kernel
theorem dX10_loads_26 : decode cX10_loads 26 = .ok (.bipush 6, 2) := by decide +kernel
theorem dX10_loads_28 : decode cX10_loads 28 = .ok (.if_icmp .ge 33, 3) := by decide +kernel
theorem dX10_loads_31 : decode cX10_loads 31 = .ok (.aload_n 0, 1) := by decide +kernel
theorem dX10_loads_32 : decode cX10_loads 32 = .ok (.getfield 241, 3) := by decide +kernel
theorem dX10_loads_35 : decode cX10_loads 35 = .ok (.iload_n 2, 1) := by decide +kernel
theorem dX10_loads_36 : decode cX10_loads 36 = .ok (.ishr, 1) := by decide +kernel
theorem dX10_loads_37 : decode cX10_loads 37 = .ok (.iconst 1, 1) := by decide +kernel
theorem dX10_loads_38 : decode cX10_loads 38 = .ok (.iand, 1) := by decide +kernel
theorem dX10_loads_39 : decode cX10_loads 39 = .ok (.iconst 1, 1) := by decide +kernel
theorem dX10_loads_40 : decode cX10_loads 40 = .ok (.if_icmp .ne 15, 3) := by decide +kernel
theorem dX10_loads_43 : decode cX10_loads 43 = .ok (.aload_n 0, 1) := by decide +kernel
theorem dX10_loads_44 : decode cX10_loads 44 = .ok (.getfield 61, 3) := by decide +kernel
theorem dX10_loads_47 : decode cX10_loads 47 = .ok (.aload_n 0, 1) := by decide +kernel
theorem dX10_loads_48 : decode cX10_loads 48 = .ok (.iload_n 1, 1) := by decide +kernel
theorem dX10_loads_49 : decode cX10_loads 49 = .ok (.iload_n 2, 1) := by decide +kernel
theorem dX10_loads_50 : decode cX10_loads 50 = .ok (.invokevirtual 244, 3) := by decide +kernel
theorem dX10_loads_53 : decode cX10_loads 53 = .ok (.iload_n 2, 1) := by decide +kernel
theorem dX10_loads_54 : decode cX10_loads 54 = .ok (.iastore, 1) := by decide +kernel
theorem dX10_loads_55 : decode cX10_loads 55 = .ok (.iinc 2 1, 3) := by decide +kernel
theorem dX10_loads_58 : decode cX10_loads 58 = .ok (.goto (-33), 3) := by decide +kernel
theorem dX10_loads_61 : decode cX10_loads 61 = .ok (.return_, 1) := by decide +kernel
theorem dX10_indexOf_0 : decode cX10_indexOf 0 = .ok (.aload_n 0, 1) := by decide +kernel
theorem dX10_indexOf_1 : decode cX10_indexOf 1 = .ok (.getfield 74, 3) := by decide +kernel
theorem dX10_indexOf_4 : decode cX10_indexOf 4 = .ok (.iload_n 1, 1) := by decide +kernel
theorem dX10_indexOf_5 : decode cX10_indexOf 5 = .ok (.iaload, 1) := by decide +kernel
theorem dX10_indexOf_6 : decode cX10_indexOf 6 = .ok (.sipush 1024, 3) := by decide +kernel
theorem dX10_indexOf_9 : decode cX10_indexOf 9 = .ok (.idiv, 1) := by decide +kernel
theorem dX10_indexOf_10 : decode cX10_indexOf 10 = .ok (.aload_n 0, 1) := by decide +kernel
theorem dX10_indexOf_11 : decode cX10_indexOf 11 = .ok (.getfield 247, 3) := by decide +kernel
theorem dX10_indexOf_14 : decode cX10_indexOf 14 = .ok (.if_icmp .ne 16, 3) := by decide +kernel
theorem dX10_indexOf_17 : decode cX10_indexOf 17 = .ok (.aload_n 0, 1) := by decide +kernel
theorem dX10_indexOf_18 : decode cX10_indexOf 18 = .ok (.getfield 74, 3) := by decide +kernel
theorem dX10_indexOf_21 : decode cX10_indexOf 21 = .ok (.iload_n 1, 1) := by decide +kernel
theorem dX10_indexOf_22 : decode cX10_indexOf 22 = .ok (.iaload, 1) := by decide +kernel
theorem dX10_indexOf_23 : decode cX10_indexOf 23 = .ok (.sipush 1024, 3) := by decide +kernel
theorem dX10_indexOf_26 : decode cX10_indexOf 26 = .ok (.irem, 1) := by decide +kernel
theorem dX10_indexOf_27 : decode cX10_indexOf 27 = .ok (.goto 4, 3) := by decide +kernel
theorem dX10_indexOf_30 : decode cX10_indexOf 30 = .ok (.iconst (-1), 1) := by decide +kernel
theorem dX10_indexOf_31 : decode cX10_indexOf 31 = .ok (.ireturn, 1) := by decide +kernel
theorem dX10_adds_0 : decode cX10_adds 0 = .ok (.aload_n 0, 1) := by decide +kernel
theorem dX10_adds_1 : decode cX10_adds 1 = .ok (.getfield 74, 3) := by decide +kernel
theorem dX10_adds_4 : decode cX10_adds 4 = .ok (.iload_n 1, 1) := by decide +kernel
theorem dX10_adds_5 : decode cX10_adds 5 = .ok (.sipush 1024, 3) := by decide +kernel
theorem dX10_adds_8 : decode cX10_adds 8 = .ok (.aload_n 0, 1) := by decide +kernel
theorem dX10_adds_9 : decode cX10_adds 9 = .ok (.getfield 247, 3) := by decide +kernel
theorem dX10_adds_12 : decode cX10_adds 12 = .ok (.imul, 1) := by decide +kernel
theorem dX10_adds_13 : decode cX10_adds 13 = .ok (.aload_n 0, 1) := by decide +kernel
theorem dX10_adds_14 : decode cX10_adds 14 = .ok (.getfield 250, 3) := by decide +kernel
theorem dX10_adds_17 : decode cX10_adds 17 = .ok (.iadd, 1) := by decide +kernel
theorem dX10_adds_18 : decode cX10_adds 18 = .ok (.iastore, 1) := by decide +kernel
theorem dX10_adds_19 : decode cX10_adds 19 = .ok (.aload_n 0, 1) := by decide +kernel
theorem dX10_adds_20 : decode cX10_adds 20 = .ok (.getfield 77, 3) := by decide +kernel
theorem dX10_adds_23 : decode cX10_adds 23 = .ok (.aload_n 0, 1) := by decide +kernel
theorem dX10_adds_24 : decode cX10_adds 24 = .ok (.getfield 250, 3) := by decide +kernel
theorem dX10_adds_27 : decode cX10_adds 27 = .ok (.iload_n 1, 1) := by decide +kernel
theorem dX10_adds_28 : decode cX10_adds 28 = .ok (.iastore, 1) := by decide +kernel
theorem dX10_adds_29 : decode cX10_adds 29 = .ok (.aload_n 0, 1) := by decide +kernel
theorem dX10_adds_30 : decode cX10_adds 30 = .ok (.getfield 80, 3) := by decide +kernel
theorem dX10_adds_33 : decode cX10_adds 33 = .ok (.aload_n 0, 1) := by decide +kernel
theorem dX10_adds_34 : decode cX10_adds 34 = .ok (.getfield 250, 3) := by decide +kernel
theorem dX10_adds_37 : decode cX10_adds 37 = .ok (.iload_n 2, 1) := by decide +kernel
theorem dX10_adds_38 : decode cX10_adds 38 = .ok (.iastore, 1) := by decide +kernel
theorem dX10_adds_39 : decode cX10_adds 39 = .ok (.aload_n 0, 1) := by decide +kernel
theorem dX10_adds_40 : decode cX10_adds 40 = .ok (.getfield 83, 3) := by decide +kernel
theorem dX10_adds_43 : decode cX10_adds 43 = .ok (.aload_n 0, 1) := by decide +kernel
theorem dX10_adds_44 : decode cX10_adds 44 = .ok (.getfield 250, 3) := by decide +kernel
theorem dX10_adds_47 : decode cX10_adds 47 = .ok (.iload_n 3, 1) := by decide +kernel
theorem dX10_adds_48 : decode cX10_adds 48 = .ok (.iastore, 1) := by decide +kernel
theorem dX10_adds_49 : decode cX10_adds 49 = .ok (.aload_n 0, 1) := by decide +kernel
theorem dX10_adds_50 : decode cX10_adds 50 = .ok (.dup, 1) := by decide +kernel
theorem dX10_adds_51 : decode cX10_adds 51 = .ok (.getfield 250, 3) := by decide +kernel
theorem dX10_adds_54 : decode cX10_adds 54 = .ok (.iconst 1, 1) := by decide +kernel
theorem dX10_adds_55 : decode cX10_adds 55 = .ok (.iadd, 1) := by decide +kernel
theorem dX10_adds_56 : decode cX10_adds 56 = .ok (.putfield 250, 3) := by decide +kernel
theorem dX10_adds_59 : decode cX10_adds 59 = .ok (.return_, 1) := by decide +kernel
theorem dX10_beginsList_0 : decode cX10_beginsList 0 = .ok (.aload_n 0, 1) := by decide +kernel
theorem dX10_beginsList_1 : decode cX10_beginsList 1 = .ok (.dup, 1) := by decide +kernel
theorem dX10_beginsList_2 : decode cX10_beginsList 2 = .ok (.getfield 247, 3) := by decide +kernel
theorem dX10_beginsList_5 : decode cX10_beginsList 5 = .ok (.iconst 1, 1) := by decide +kernel
theorem dX10_beginsList_6 : decode cX10_beginsList 6 = .ok (.iadd, 1) := by decide +kernel
theorem dX10_beginsList_7 : decode cX10_beginsList 7 = .ok (.putfield 247, 3) := by decide +kernel
theorem dX10_beginsList_10 : decode cX10_beginsList 10 = .ok (.aload_n 0, 1) := by decide +kernel
theorem dX10_beginsList_11 : decode cX10_beginsList 11 = .ok (.iconst 0, 1) := by decide +kernel
theorem dX10_beginsList_12 : decode cX10_beginsList 12 = .ok (.putfield 250, 3) := by decide +kernel
theorem dX10_beginsList_15 : decode cX10_beginsList 15 = .ok (.aload_n 0, 1) := by decide +kernel
theorem dX10_beginsList_16 : decode cX10_beginsList 16 = .ok (.iconst 0, 1) := by decide +kernel
theorem dX10_beginsList_17 : decode cX10_beginsList 17 = .ok (.putfield 241, 3) := by decide +kernel
theorem dX10_beginsList_20 : decode cX10_beginsList 20 = .ok (.iconst 0, 1) := by decide +kernel
theorem dX10_beginsList_21 : decode cX10_beginsList 21 = .ok (.istore_n 1, 1) := by decide +kernel
theorem dX10_beginsList_22 : decode cX10_beginsList 22 = .ok (.iload_n 1, 1) := by decide +kernel
theorem dX10_beginsList_23 : decode cX10_beginsList 23 = .ok (.aload_n 0, 1) := by decide +kernel
theorem dX10_beginsList_24 : decode cX10_beginsList 24 = .ok (.getfield 116, 3) := by decide +kernel
theorem dX10_beginsList_27 : decode cX10_beginsList 27 = .ok (.if_icmp .ge 40, 3) := by decide +kernel
theorem dX10_beginsList_30 : decode cX10_beginsList 30 = .ok (.aload_n 0, 1) := by decide +kernel
theorem dX10_beginsList_31 : decode cX10_beginsList 31 = .ok (.dup, 1) := by decide +kernel
theorem dX10_beginsList_32 : decode cX10_beginsList 32 = .ok (.getfield 241, 3) := by decide +kernel
theorem dX10_beginsList_35 : decode cX10_beginsList 35 = .ok (.aload_n 0, 1) := by decide +kernel
theorem dX10_beginsList_36 : decode cX10_beginsList 36 = .ok (.getfield 61, 3) := by decide +kernel
theorem dX10_beginsList_39 : decode cX10_beginsList 39 = .ok (.iload_n 1, 1) := by decide +kernel
theorem dX10_beginsList_40 : decode cX10_beginsList 40 = .ok (.iaload, 1) := by decide +kernel
theorem dX10_beginsList_41 : decode cX10_beginsList 41 = .ok (.iconst (-1), 1) := by decide +kernel
theorem dX10_beginsList_42 : decode cX10_beginsList 42 = .ok (.if_icmp .ne 7, 3) := by decide +kernel
theorem dX10_beginsList_45 : decode cX10_beginsList 45 = .ok (.iconst 0, 1) := by decide +kernel
theorem dX10_beginsList_46 : decode cX10_beginsList 46 = .ok (.goto 11, 3) := by decide +kernel
theorem dX10_beginsList_49 : decode cX10_beginsList 49 = .ok (.iconst 1, 1) := by decide +kernel
theorem dX10_beginsList_50 : decode cX10_beginsList 50 = .ok (.aload_n 0, 1) := by decide +kernel
theorem dX10_beginsList_51 : decode cX10_beginsList 51 = .ok (.getfield 61, 3) := by decide +kernel
theorem dX10_beginsList_54 : decode cX10_beginsList 54 = .ok (.iload_n 1, 1) := by decide +kernel
theorem dX10_beginsList_55 : decode cX10_beginsList 55 = .ok (.iaload, 1) := by decide +kernel
theorem dX10_beginsList_56 : decode cX10_beginsList 56 = .ok (.ishl, 1) := by decide +kernel
theorem dX10_beginsList_57 : decode cX10_beginsList 57 = .ok (.ior, 1) := by decide +kernel
theorem dX10_beginsList_58 : decode cX10_beginsList 58 = .ok (.putfield 241, 3) := by decide +kernel
theorem dX10_beginsList_61 : decode cX10_beginsList 61 = .ok (.iinc 1 1, 3) := by decide +kernel
theorem dX10_beginsList_64 : decode cX10_beginsList 64 = .ok (.goto (-42), 3) := by decide +kernel
theorem dX10_beginsList_67 : decode cX10_beginsList 67 = .ok (.aload_n 0, 1) := by decide +kernel
theorem dX10_beginsList_68 : decode cX10_beginsList 68 = .ok (.aload_n 0, 1) := by decide +kernel
end
section
theorem dX10_beginsList_69 : decode cX10_beginsList 69 = .ok (.invokevirtual 253, 3) := by decide +kernel
theorem dX10_beginsList_72 : decode cX10_beginsList 72 = .ok (.iconst 0, 1) := by decide +kernel
theorem dX10_beginsList_73 : decode cX10_beginsList 73 = .ok (.iconst 0, 1) := by decide +kernel
theorem dX10_beginsList_74 : decode cX10_beginsList 74 = .ok (.invokevirtual 256, 3) := by decide +kernel
theorem dX10_beginsList_77 : decode cX10_beginsList 77 = .ok (.return_, 1) := by decide +kernel
theorem dX10_findAll_0 : decode cX10_findAll 0 = .ok (.aload_n 0, 1) := by decide +kernel
theorem dX10_findAll_1 : decode cX10_findAll 1 = .ok (.invokevirtual 260, 3) := by decide +kernel
theorem dX10_findAll_4 : decode cX10_findAll 4 = .ok (.iconst 0, 1) := by decide +kernel
theorem dX10_findAll_5 : decode cX10_findAll 5 = .ok (.istore_n 1, 1) := by decide +kernel
theorem dX10_findAll_6 : decode cX10_findAll 6 = .ok (.iload_n 1, 1) := by decide +kernel
theorem dX10_findAll_7 : decode cX10_findAll 7 = .ok (.aload_n 0, 1) := by decide +kernel
theorem dX10_findAll_8 : decode cX10_findAll 8 = .ok (.getfield 250, 3) := by decide +kernel
theorem dX10_findAll_11 : decode cX10_findAll 11 = .ok (.if_icmp .ge 113, 3) := by decide +kernel
theorem dX10_findAll_14 : decode cX10_findAll 14 = .ok (.iconst 0, 1) := by decide +kernel
theorem dX10_findAll_15 : decode cX10_findAll 15 = .ok (.istore_n 2, 1) := by decide +kernel
theorem dX10_findAll_16 : decode cX10_findAll 16 = .ok (.iload_n 2, 1) := by decide +kernel
theorem dX10_findAll_17 : decode cX10_findAll 17 = .ok (.aload_n 0, 1) := by decide +kernel
theorem dX10_findAll_18 : decode cX10_findAll 18 = .ok (.getfield 116, 3) := by decide +kernel
theorem dX10_findAll_21 : decode cX10_findAll 21 = .ok (.aload_n 0, 1) := by decide +kernel
theorem dX10_findAll_22 : decode cX10_findAll 22 = .ok (.getfield 116, 3) := by decide +kernel
theorem dX10_findAll_25 : decode cX10_findAll 25 = .ok (.imul, 1) := by decide +kernel
theorem dX10_findAll_26 : decode cX10_findAll 26 = .ok (.if_icmp .ge 92, 3) := by decide +kernel
theorem dX10_findAll_29 : decode cX10_findAll 29 = .ok (.aload_n 0, 1) := by decide +kernel
theorem dX10_findAll_30 : decode cX10_findAll 30 = .ok (.aload_n 0, 1) := by decide +kernel
theorem dX10_findAll_31 : decode cX10_findAll 31 = .ok (.getfield 77, 3) := by decide +kernel
theorem dX10_findAll_34 : decode cX10_findAll 34 = .ok (.iload_n 1, 1) := by decide +kernel
theorem dX10_findAll_35 : decode cX10_findAll 35 = .ok (.iaload, 1) := by decide +kernel
theorem dX10_findAll_36 : decode cX10_findAll 36 = .ok (.invokevirtual 263, 3) := by decide +kernel
theorem dX10_findAll_39 : decode cX10_findAll 39 = .ok (.iload_n 2, 1) := by decide +kernel
theorem dX10_findAll_40 : decode cX10_findAll 40 = .ok (.aload_n 0, 1) := by decide +kernel
theorem dX10_findAll_41 : decode cX10_findAll 41 = .ok (.getfield 116, 3) := by decide +kernel
theorem dX10_findAll_44 : decode cX10_findAll 44 = .ok (.idiv, 1) := by decide +kernel
theorem dX10_findAll_45 : decode cX10_findAll 45 = .ok (.istore_n 3, 1) := by decide +kernel
theorem dX10_findAll_46 : decode cX10_findAll 46 = .ok (.iload_n 2, 1) := by decide +kernel
theorem dX10_findAll_47 : decode cX10_findAll 47 = .ok (.aload_n 0, 1) := by decide +kernel
theorem dX10_findAll_48 : decode cX10_findAll 48 = .ok (.getfield 116, 3) := by decide +kernel
theorem dX10_findAll_51 : decode cX10_findAll 51 = .ok (.irem, 1) := by decide +kernel
theorem dX10_findAll_52 : decode cX10_findAll 52 = .ok (.istore 4, 2) := by decide +kernel
theorem dX10_findAll_54 : decode cX10_findAll 54 = .ok (.aload_n 0, 1) := by decide +kernel
theorem dX10_findAll_55 : decode cX10_findAll 55 = .ok (.iload_n 3, 1) := by decide +kernel
theorem dX10_findAll_56 : decode cX10_findAll 56 = .ok (.iload 4, 2) := by decide +kernel
theorem dX10_findAll_58 : decode cX10_findAll 58 = .ok (.invokevirtual 223, 3) := by decide +kernel
theorem dX10_findAll_61 : decode cX10_findAll 61 = .ok (.ifCond .eq 51, 3) := by decide +kernel
theorem dX10_findAll_64 : decode cX10_findAll 64 = .ok (.aload_n 0, 1) := by decide +kernel
theorem dX10_findAll_65 : decode cX10_findAll 65 = .ok (.iload_n 3, 1) := by decide +kernel
theorem dX10_findAll_66 : decode cX10_findAll 66 = .ok (.iload 4, 2) := by decide +kernel
theorem dX10_findAll_68 : decode cX10_findAll 68 = .ok (.invokevirtual 230, 3) := by decide +kernel
theorem dX10_findAll_71 : decode cX10_findAll 71 = .ok (.aload_n 0, 1) := by decide +kernel
theorem dX10_findAll_72 : decode cX10_findAll 72 = .ok (.aload_n 0, 1) := by decide +kernel
theorem dX10_findAll_73 : decode cX10_findAll 73 = .ok (.invokevirtual 253, 3) := by decide +kernel
theorem dX10_findAll_76 : decode cX10_findAll 76 = .ok (.aload_n 0, 1) := by decide +kernel
theorem dX10_findAll_77 : decode cX10_findAll 77 = .ok (.getfield 80, 3) := by decide +kernel
theorem dX10_findAll_80 : decode cX10_findAll 80 = .ok (.iload_n 1, 1) := by decide +kernel
theorem dX10_findAll_81 : decode cX10_findAll 81 = .ok (.iaload, 1) := by decide +kernel
theorem dX10_findAll_82 : decode cX10_findAll 82 = .ok (.iconst 1, 1) := by decide +kernel
theorem dX10_findAll_83 : decode cX10_findAll 83 = .ok (.iadd, 1) := by decide +kernel
theorem dX10_findAll_84 : decode cX10_findAll 84 = .ok (.aload_n 0, 1) := by decide +kernel
theorem dX10_findAll_85 : decode cX10_findAll 85 = .ok (.getfield 80, 3) := by decide +kernel
theorem dX10_findAll_88 : decode cX10_findAll 88 = .ok (.iload_n 1, 1) := by decide +kernel
theorem dX10_findAll_89 : decode cX10_findAll 89 = .ok (.iaload, 1) := by decide +kernel
theorem dX10_findAll_90 : decode cX10_findAll 90 = .ok (.ifCond .ne 13, 3) := by decide +kernel
theorem dX10_findAll_93 : decode cX10_findAll 93 = .ok (.bipush 10, 2) := by decide +kernel
theorem dX10_findAll_95 : decode cX10_findAll 95 = .ok (.iload_n 3, 1) := by decide +kernel
theorem dX10_findAll_96 : decode cX10_findAll 96 = .ok (.imul, 1) := by decide +kernel
theorem dX10_findAll_97 : decode cX10_findAll 97 = .ok (.iload 4, 2) := by decide +kernel
theorem dX10_findAll_99 : decode cX10_findAll 99 = .ok (.iadd, 1) := by decide +kernel
theorem dX10_findAll_100 : decode cX10_findAll 100 = .ok (.goto 9, 3) := by decide +kernel
theorem dX10_findAll_103 : decode cX10_findAll 103 = .ok (.aload_n 0, 1) := by decide +kernel
theorem dX10_findAll_104 : decode cX10_findAll 104 = .ok (.getfield 83, 3) := by decide +kernel
theorem dX10_findAll_107 : decode cX10_findAll 107 = .ok (.iload_n 1, 1) := by decide +kernel
theorem dX10_findAll_108 : decode cX10_findAll 108 = .ok (.iaload, 1) := by decide +kernel
theorem dX10_findAll_109 : decode cX10_findAll 109 = .ok (.invokevirtual 266, 3) := by decide +kernel
theorem dX10_findAll_112 : decode cX10_findAll 112 = .ok (.iinc 2 1, 3) := by decide +kernel
theorem dX10_findAll_115 : decode cX10_findAll 115 = .ok (.goto (-99), 3) := by decide +kernel
theorem dX10_findAll_118 : decode cX10_findAll 118 = .ok (.iinc 1 1, 3) := by decide +kernel
theorem dX10_findAll_121 : decode cX10_findAll 121 = .ok (.goto (-115), 3) := by decide +kernel
theorem dX10_findAll_124 : decode cX10_findAll 124 = .ok (.return_, 1) := by decide +kernel
theorem dX10_comes_0 : decode cX10_comes 0 = .ok (.aload_n 0, 1) := by decide +kernel
theorem dX10_comes_1 : decode cX10_comes 1 = .ok (.iload_n 1, 1) := by decide +kernel
theorem dX10_comes_2 : decode cX10_comes 2 = .ok (.invokevirtual 269, 3) := by decide +kernel
theorem dX10_comes_5 : decode cX10_comes 5 = .ok (.istore 4, 2) := by decide +kernel
theorem dX10_comes_7 : decode cX10_comes 7 = .ok (.iload 4, 2) := by decide +kernel
theorem dX10_comes_9 : decode cX10_comes 9 = .ok (.ifCond .ge 13, 3) := by decide +kernel
theorem dX10_comes_12 : decode cX10_comes 12 = .ok (.aload_n 0, 1) := by decide +kernel
theorem dX10_comes_13 : decode cX10_comes 13 = .ok (.iload_n 1, 1) := by decide +kernel
theorem dX10_comes_14 : decode cX10_comes 14 = .ok (.iload_n 2, 1) := by decide +kernel
theorem dX10_comes_15 : decode cX10_comes 15 = .ok (.iload_n 3, 1) := by decide +kernel
theorem dX10_comes_16 : decode cX10_comes 16 = .ok (.invokevirtual 256, 3) := by decide +kernel
theorem dX10_comes_19 : decode cX10_comes 19 = .ok (.goto 33, 3) := by decide +kernel
theorem dX10_comes_22 : decode cX10_comes 22 = .ok (.aload_n 0, 1) := by decide +kernel
theorem dX10_comes_23 : decode cX10_comes 23 = .ok (.getfield 80, 3) := by decide +kernel
theorem dX10_comes_26 : decode cX10_comes 26 = .ok (.iload 4, 2) := by decide +kernel
theorem dX10_comes_28 : decode cX10_comes 28 = .ok (.iaload, 1) := by decide +kernel
theorem dX10_comes_29 : decode cX10_comes 29 = .ok (.iload_n 2, 1) := by decide +kernel
theorem dX10_comes_30 : decode cX10_comes 30 = .ok (.if_icmp .ne 22, 3) := by decide +kernel
theorem dX10_comes_33 : decode cX10_comes 33 = .ok (.iload_n 3, 1) := by decide +kernel
theorem dX10_comes_34 : decode cX10_comes 34 = .ok (.aload_n 0, 1) := by decide +kernel
theorem dX10_comes_35 : decode cX10_comes 35 = .ok (.getfield 83, 3) := by decide +kernel
theorem dX10_comes_38 : decode cX10_comes 38 = .ok (.iload 4, 2) := by decide +kernel
theorem dX10_comes_40 : decode cX10_comes 40 = .ok (.iaload, 1) := by decide +kernel
theorem dX10_comes_41 : decode cX10_comes 41 = .ok (.if_icmp .ge 11, 3) := by decide +kernel
theorem dX10_comes_44 : decode cX10_comes 44 = .ok (.aload_n 0, 1) := by decide +kernel
theorem dX10_comes_45 : decode cX10_comes 45 = .ok (.getfield 83, 3) := by decide +kernel
theorem dX10_comes_48 : decode cX10_comes 48 = .ok (.iload 4, 2) := by decide +kernel
theorem dX10_comes_50 : decode cX10_comes 50 = .ok (.iload_n 3, 1) := by decide +kernel
theorem dX10_comes_51 : decode cX10_comes 51 = .ok (.iastore, 1) := by decide +kernel
theorem dX10_comes_52 : decode cX10_comes 52 = .ok (.return_, 1) := by decide +kernel
theorem dX10_needOf_0 : decode cX10_needOf 0 = .ok (.bipush (-4), 2) := by decide +kernel
theorem dX10_needOf_2 : decode cX10_needOf 2 = .ok (.istore_n 3, 1) := by decide +kernel
theorem dX10_needOf_3 : decode cX10_needOf 3 = .ok (.iconst 0, 1) := by decide +kernel
theorem dX10_needOf_4 : decode cX10_needOf 4 = .ok (.istore 4, 2) := by decide +kernel
theorem dX10_needOf_6 : decode cX10_needOf 6 = .ok (.iload 4, 2) := by decide +kernel
theorem dX10_needOf_8 : decode cX10_needOf 8 = .ok (.aload_n 0, 1) := by decide +kernel
theorem dX10_needOf_9 : decode cX10_needOf 9 = .ok (.getfield 250, 3) := by decide +kernel
theorem dX10_needOf_12 : decode cX10_needOf 12 = .ok (.if_icmp .ge 66, 3) := by decide +kernel
theorem dX10_needOf_15 : decode cX10_needOf 15 = .ok (.aload_n 0, 1) := by decide +kernel
theorem dX10_needOf_16 : decode cX10_needOf 16 = .ok (.aload_n 0, 1) := by decide +kernel
theorem dX10_needOf_17 : decode cX10_needOf 17 = .ok (.getfield 77, 3) := by decide +kernel
theorem dX10_needOf_20 : decode cX10_needOf 20 = .ok (.iload 4, 2) := by decide +kernel
theorem dX10_needOf_22 : decode cX10_needOf 22 = .ok (.iaload, 1) := by decide +kernel
theorem dX10_needOf_23 : decode cX10_needOf 23 = .ok (.iload_n 2, 1) := by decide +kernel
theorem dX10_needOf_24 : decode cX10_needOf 24 = .ok (.invokevirtual 244, 3) := by decide +kernel
theorem dX10_needOf_27 : decode cX10_needOf 27 = .ok (.iload_n 1, 1) := by decide +kernel
theorem dX10_needOf_28 : decode cX10_needOf 28 = .ok (.if_icmp .ne 7, 3) := by decide +kernel
theorem dX10_needOf_31 : decode cX10_needOf 31 = .ok (.iconst 1, 1) := by decide +kernel
theorem dX10_needOf_32 : decode cX10_needOf 32 = .ok (.goto 4, 3) := by decide +kernel
theorem dX10_needOf_35 : decode cX10_needOf 35 = .ok (.iconst 0, 1) := by decide +kernel
theorem dX10_needOf_36 : decode cX10_needOf 36 = .ok (.istore 5, 2) := by decide +kernel
theorem dX10_needOf_38 : decode cX10_needOf 38 = .ok (.iload 5, 2) := by decide +kernel
theorem dX10_needOf_40 : decode cX10_needOf 40 = .ok (.ifCond .eq 30, 3) := by decide +kernel
theorem dX10_needOf_43 : decode cX10_needOf 43 = .ok (.iload_n 3, 1) := by decide +kernel
theorem dX10_needOf_44 : decode cX10_needOf 44 = .ok (.bipush (-4), 2) := by decide +kernel
theorem dX10_needOf_46 : decode cX10_needOf 46 = .ok (.if_icmp .eq 14, 3) := by decide +kernel
theorem dX10_needOf_49 : decode cX10_needOf 49 = .ok (.aload_n 0, 1) := by decide +kernel
theorem dX10_needOf_50 : decode cX10_needOf 50 = .ok (.getfield 80, 3) := by decide +kernel
theorem dX10_needOf_53 : decode cX10_needOf 53 = .ok (.iload 4, 2) := by decide +kernel
theorem dX10_needOf_55 : decode cX10_needOf 55 = .ok (.iaload, 1) := by decide +kernel
theorem dX10_needOf_56 : decode cX10_needOf 56 = .ok (.iload_n 3, 1) := by decide +kernel
theorem dX10_needOf_57 : decode cX10_needOf 57 = .ok (.if_icmp .ge 13, 3) := by decide +kernel
theorem dX10_needOf_60 : decode cX10_needOf 60 = .ok (.aload_n 0, 1) := by decide +kernel
theorem dX10_needOf_61 : decode cX10_needOf 61 = .ok (.getfield 80, 3) := by decide +kernel
theorem dX10_needOf_64 : decode cX10_needOf 64 = .ok (.iload 4, 2) := by decide +kernel
theorem dX10_needOf_66 : decode cX10_needOf 66 = .ok (.iaload, 1) := by decide +kernel
theorem dX10_needOf_67 : decode cX10_needOf 67 = .ok (.goto 4, 3) := by decide +kernel
theorem dX10_needOf_70 : decode cX10_needOf 70 = .ok (.iload_n 3, 1) := by decide +kernel
theorem dX10_needOf_71 : decode cX10_needOf 71 = .ok (.istore_n 3, 1) := by decide +kernel
theorem dX10_needOf_72 : decode cX10_needOf 72 = .ok (.iinc 4 1, 3) := by decide +kernel
theorem dX10_needOf_75 : decode cX10_needOf 75 = .ok (.goto (-69), 3) := by decide +kernel
theorem dX10_needOf_78 : decode cX10_needOf 78 = .ok (.iload_n 3, 1) := by decide +kernel
theorem dX10_needOf_79 : decode cX10_needOf 79 = .ok (.ireturn, 1) := by decide +kernel
theorem dX10_need_0 : decode cX10_need 0 = .ok (.aload_n 0, 1) := by decide +kernel
theorem dX10_need_1 : decode cX10_need 1 = .ok (.iload_n 1, 1) := by decide +kernel
theorem dX10_need_2 : decode cX10_need 2 = .ok (.invokevirtual 192, 3) := by decide +kernel
theorem dX10_need_5 : decode cX10_need 5 = .ok (.ifCond .eq 11, 3) := by decide +kernel
theorem dX10_need_8 : decode cX10_need 8 = .ok (.aload_n 0, 1) := by decide +kernel
theorem dX10_need_9 : decode cX10_need 9 = .ok (.iload_n 2, 1) := by decide +kernel
theorem dX10_need_10 : decode cX10_need 10 = .ok (.invokevirtual 195, 3) := by decide +kernel
theorem dX10_need_13 : decode cX10_need 13 = .ok (.ifCond .ne 5, 3) := by decide +kernel
theorem dX10_need_16 : decode cX10_need 16 = .ok (.iconst (-1), 1) := by decide +kernel
theorem dX10_need_17 : decode cX10_need 17 = .ok (.ireturn, 1) := by decide +kernel
theorem dX10_need_18 : decode cX10_need 18 = .ok (.aload_n 0, 1) := by decide +kernel
theorem dX10_need_19 : decode cX10_need 19 = .ok (.invokevirtual 220, 3) := by decide +kernel
theorem dX10_need_22 : decode cX10_need 22 = .ok (.aload_n 0, 1) := by decide +kernel
theorem dX10_need_23 : decode cX10_need 23 = .ok (.invokevirtual 272, 3) := by decide +kernel
theorem dX10_need_26 : decode cX10_need 26 = .ok (.aload_n 0, 1) := by decide +kernel
theorem dX10_need_27 : decode cX10_need 27 = .ok (.iload_n 1, 1) := by decide +kernel
theorem dX10_need_28 : decode cX10_need 28 = .ok (.iload_n 2, 1) := by decide +kernel
theorem dX10_need_29 : decode cX10_need 29 = .ok (.invokevirtual 275, 3) := by decide +kernel
theorem dX10_need_32 : decode cX10_need 32 = .ok (.ireturn, 1) := by decide +kernel
theorem dX10_first_0 : decode cX10_first 0 = .ok (.aload_n 0, 1) := by decide +kernel
theorem dX10_first_1 : decode cX10_first 1 = .ok (.iload_n 1, 1) := by decide +kernel
theorem dX10_first_2 : decode cX10_first 2 = .ok (.invokevirtual 192, 3) := by decide +kernel
theorem dX10_first_5 : decode cX10_first 5 = .ok (.ifCond .eq 11, 3) := by decide +kernel
theorem dX10_first_8 : decode cX10_first 8 = .ok (.aload_n 0, 1) := by decide +kernel
theorem dX10_first_9 : decode cX10_first 9 = .ok (.iload_n 2, 1) := by decide +kernel
theorem dX10_first_10 : decode cX10_first 10 = .ok (.invokevirtual 195, 3) := by decide +kernel
theorem dX10_first_13 : decode cX10_first 13 = .ok (.ifCond .ne 5, 3) := by decide +kernel
theorem dX10_first_16 : decode cX10_first 16 = .ok (.iconst (-1), 1) := by decide +kernel
theorem dX10_first_17 : decode cX10_first 17 = .ok (.ireturn, 1) := by decide +kernel
theorem dX10_first_18 : decode cX10_first 18 = .ok (.aload_n 0, 1) := by decide +kernel
theorem dX10_first_19 : decode cX10_first 19 = .ok (.invokevirtual 220, 3) := by decide +kernel
theorem dX10_first_22 : decode cX10_first 22 = .ok (.aload_n 0, 1) := by decide +kernel
theorem dX10_first_23 : decode cX10_first 23 = .ok (.invokevirtual 272, 3) := by decide +kernel
theorem dX10_first_26 : decode cX10_first 26 = .ok (.aload_n 0, 1) := by decide +kernel
theorem dX10_first_27 : decode cX10_first 27 = .ok (.iload_n 1, 1) := by decide +kernel
theorem dX10_first_28 : decode cX10_first 28 = .ok (.iload_n 2, 1) := by decide +kernel
theorem dX10_first_29 : decode cX10_first 29 = .ok (.invokevirtual 275, 3) := by decide +kernel
theorem dX10_first_32 : decode cX10_first 32 = .ok (.istore_n 3, 1) := by decide +kernel
theorem dX10_first_33 : decode cX10_first 33 = .ok (.bipush (-4), 2) := by decide +kernel
theorem dX10_first_35 : decode cX10_first 35 = .ok (.istore 4, 2) := by decide +kernel
theorem dX10_first_37 : decode cX10_first 37 = .ok (.iconst 0, 1) := by decide +kernel
theorem dX10_first_38 : decode cX10_first 38 = .ok (.istore 5, 2) := by decide +kernel
theorem dX10_first_40 : decode cX10_first 40 = .ok (.iload 5, 2) := by decide +kernel
theorem dX10_first_42 : decode cX10_first 42 = .ok (.aload_n 0, 1) := by decide +kernel
theorem dX10_first_43 : decode cX10_first 43 = .ok (.getfield 250, 3) := by decide +kernel
theorem dX10_first_46 : decode cX10_first 46 = .ok (.if_icmp .ge 85, 3) := by decide +kernel
theorem dX10_first_49 : decode cX10_first 49 = .ok (.iload_n 3, 1) := by decide +kernel
theorem dX10_first_50 : decode cX10_first 50 = .ok (.ifCond .le 81, 3) := by decide +kernel
theorem dX10_first_53 : decode cX10_first 53 = .ok (.aload_n 0, 1) := by decide +kernel
theorem dX10_first_54 : decode cX10_first 54 = .ok (.aload_n 0, 1) := by decide +kernel
theorem dX10_first_55 : decode cX10_first 55 = .ok (.getfield 77, 3) := by decide +kernel
theorem dX10_first_58 : decode cX10_first 58 = .ok (.iload 5, 2) := by decide +kernel
theorem dX10_first_60 : decode cX10_first 60 = .ok (.iaload, 1) := by decide +kernel
theorem dX10_first_61 : decode cX10_first 61 = .ok (.iload_n 2, 1) := by decide +kernel
theorem dX10_first_62 : decode cX10_first 62 = .ok (.invokevirtual 244, 3) := by decide +kernel
theorem dX10_first_65 : decode cX10_first 65 = .ok (.iload_n 1, 1) := by decide +kernel
theorem dX10_first_66 : decode cX10_first 66 = .ok (.if_icmp .ne 18, 3) := by decide +kernel
theorem dX10_first_69 : decode cX10_first 69 = .ok (.aload_n 0, 1) := by decide +kernel
theorem dX10_first_70 : decode cX10_first 70 = .ok (.getfield 80, 3) := by decide +kernel
theorem dX10_first_73 : decode cX10_first 73 = .ok (.iload 5, 2) := by decide +kernel
theorem dX10_first_75 : decode cX10_first 75 = .ok (.iaload, 1) := by decide +kernel
theorem dX10_first_76 : decode cX10_first 76 = .ok (.iload_n 3, 1) := by decide +kernel
theorem dX10_first_77 : decode cX10_first 77 = .ok (.if_icmp .ne 7, 3) := by decide +kernel
theorem dX10_first_80 : decode cX10_first 80 = .ok (.iconst 1, 1) := by decide +kernel
theorem dX10_first_81 : decode cX10_first 81 = .ok (.goto 4, 3) := by decide +kernel
theorem dX10_first_84 : decode cX10_first 84 = .ok (.iconst 0, 1) := by decide +kernel
theorem dX10_first_85 : decode cX10_first 85 = .ok (.istore 6, 2) := by decide +kernel
theorem dX10_first_87 : decode cX10_first 87 = .ok (.iload 6, 2) := by decide +kernel
theorem dX10_first_89 : decode cX10_first 89 = .ok (.ifCond .eq 32, 3) := by decide +kernel
theorem dX10_first_92 : decode cX10_first 92 = .ok (.iload 4, 2) := by decide +kernel
theorem dX10_first_94 : decode cX10_first 94 = .ok (.bipush (-4), 2) := by decide +kernel
theorem dX10_first_96 : decode cX10_first 96 = .ok (.if_icmp .eq 15, 3) := by decide +kernel
theorem dX10_first_99 : decode cX10_first 99 = .ok (.aload_n 0, 1) := by decide +kernel
theorem dX10_first_100 : decode cX10_first 100 = .ok (.getfield 83, 3) := by decide +kernel
theorem dX10_first_103 : decode cX10_first 103 = .ok (.iload 5, 2) := by decide +kernel
theorem dX10_first_105 : decode cX10_first 105 = .ok (.iaload, 1) := by decide +kernel
theorem dX10_first_106 : decode cX10_first 106 = .ok (.iload 4, 2) := by decide +kernel
theorem dX10_first_108 : decode cX10_first 108 = .ok (.if_icmp .ge 13, 3) := by decide +kernel
theorem dX10_first_111 : decode cX10_first 111 = .ok (.aload_n 0, 1) := by decide +kernel
theorem dX10_first_112 : decode cX10_first 112 = .ok (.getfield 83, 3) := by decide +kernel
theorem dX10_first_115 : decode cX10_first 115 = .ok (.iload 5, 2) := by decide +kernel
theorem dX10_first_117 : decode cX10_first 117 = .ok (.iaload, 1) := by decide +kernel
theorem dX10_first_118 : decode cX10_first 118 = .ok (.goto 5, 3) := by decide +kernel
theorem dX10_first_121 : decode cX10_first 121 = .ok (.iload 4, 2) := by decide +kernel
theorem dX10_first_123 : decode cX10_first 123 = .ok (.istore 4, 2) := by decide +kernel
theorem dX10_first_125 : decode cX10_first 125 = .ok (.iinc 5 1, 3) := by decide +kernel
theorem dX10_first_128 : decode cX10_first 128 = .ok (.goto (-88), 3) := by decide +kernel
theorem dX10_first_131 : decode cX10_first 131 = .ok (.iload 4, 2) := by decide +kernel
theorem dX10_first_133 : decode cX10_first 133 = .ok (.ireturn, 1) := by decide +kernel
theorem dX10_never_0 : decode cX10_never 0 = .ok (.aload_n 0, 1) := by decide +kernel
theorem dX10_never_1 : decode cX10_never 1 = .ok (.iload_n 1, 1) := by decide +kernel
theorem dX10_never_2 : decode cX10_never 2 = .ok (.invokevirtual 192, 3) := by decide +kernel
theorem dX10_never_5 : decode cX10_never 5 = .ok (.ifCond .ne 5, 3) := by decide +kernel
theorem dX10_never_8 : decode cX10_never 8 = .ok (.iconst (-1), 1) := by decide +kernel
theorem dX10_never_9 : decode cX10_never 9 = .ok (.ireturn, 1) := by decide +kernel
theorem dX10_never_10 : decode cX10_never 10 = .ok (.aload_n 0, 1) := by decide +kernel
theorem dX10_never_11 : decode cX10_never 11 = .ok (.invokevirtual 220, 3) := by decide +kernel
theorem dX10_never_14 : decode cX10_never 14 = .ok (.aload_n 0, 1) := by decide +kernel
theorem dX10_never_15 : decode cX10_never 15 = .ok (.invokevirtual 272, 3) := by decide +kernel
theorem dX10_never_18 : decode cX10_never 18 = .ok (.iconst 0, 1) := by decide +kernel
theorem dX10_never_19 : decode cX10_never 19 = .ok (.istore_n 2, 1) := by decide +kernel
theorem dX10_never_20 : decode cX10_never 20 = .ok (.iconst 0, 1) := by decide +kernel
theorem dX10_never_21 : decode cX10_never 21 = .ok (.istore_n 3, 1) := by decide +kernel
theorem dX10_never_22 : decode cX10_never 22 = .ok (.iload_n 3, 1) := by decide +kernel
theorem dX10_never_23 : decode cX10_never 23 = .ok (.aload_n 0, 1) := by decide +kernel
theorem dX10_never_24 : decode cX10_never 24 = .ok (.getfield 123, 3) := by decide +kernel
theorem dX10_never_27 : decode cX10_never 27 = .ok (.if_icmp .ge 30, 3) := by decide +kernel
theorem dX10_never_30 : decode cX10_never 30 = .ok (.iload_n 2, 1) := by decide +kernel
theorem dX10_never_31 : decode cX10_never 31 = .ok (.aload_n 0, 1) := by decide +kernel
theorem dX10_never_32 : decode cX10_never 32 = .ok (.iload_n 1, 1) := by decide +kernel
theorem dX10_never_33 : decode cX10_never 33 = .ok (.iload_n 3, 1) := by decide +kernel
theorem dX10_never_34 : decode cX10_never 34 = .ok (.invokevirtual 275, 3) := by decide +kernel
theorem dX10_never_37 : decode cX10_never 37 = .ok (.bipush (-4), 2) := by decide +kernel
theorem dX10_never_39 : decode cX10_never 39 = .ok (.if_icmp .ne 9, 3) := by decide +kernel
theorem dX10_never_42 : decode cX10_never 42 = .ok (.iconst 1, 1) := by decide +kernel
theorem dX10_never_43 : decode cX10_never 43 = .ok (.iload_n 3, 1) := by decide +kernel
theorem dX10_never_44 : decode cX10_never 44 = .ok (.ishl, 1) := by decide +kernel
theorem dX10_never_45 : decode cX10_never 45 = .ok (.goto 4, 3) := by decide +kernel
theorem dX10_never_48 : decode cX10_never 48 = .ok (.iconst 0, 1) := by decide +kernel
theorem dX10_never_49 : decode cX10_never 49 = .ok (.ior, 1) := by decide +kernel
theorem dX10_never_50 : decode cX10_never 50 = .ok (.istore_n 2, 1) := by decide +kernel
theorem dX10_never_51 : decode cX10_never 51 = .ok (.iinc 3 1, 3) := by decide +kernel
theorem dX10_never_54 : decode cX10_never 54 = .ok (.goto (-32), 3) := by decide +kernel
theorem dX10_never_57 : decode cX10_never 57 = .ok (.iload_n 2, 1) := by decide +kernel
theorem dX10_never_58 : decode cX10_never 58 = .ok (.ireturn, 1) := by decide +kernel
theorem dX10_stuck_0 : decode cX10_stuck 0 = .ok (.aload_n 0, 1) := by decide +kernel
theorem dX10_stuck_1 : decode cX10_stuck 1 = .ok (.invokevirtual 220, 3) := by decide +kernel
theorem dX10_stuck_4 : decode cX10_stuck 4 = .ok (.aload_n 0, 1) := by decide +kernel
theorem dX10_stuck_5 : decode cX10_stuck 5 = .ok (.invokevirtual 272, 3) := by decide +kernel
theorem dX10_stuck_8 : decode cX10_stuck 8 = .ok (.aload_n 0, 1) := by decide +kernel
theorem dX10_stuck_9 : decode cX10_stuck 9 = .ok (.getfield 250, 3) := by decide +kernel
theorem dX10_stuck_12 : decode cX10_stuck 12 = .ok (.iconst 1, 1) := by decide +kernel
theorem dX10_stuck_13 : decode cX10_stuck 13 = .ok (.if_icmp .ne 7, 3) := by decide +kernel
theorem dX10_stuck_16 : decode cX10_stuck 16 = .ok (.iconst 1, 1) := by decide +kernel
theorem dX10_stuck_17 : decode cX10_stuck 17 = .ok (.goto 4, 3) := by decide +kernel
theorem dX10_stuck_20 : decode cX10_stuck 20 = .ok (.iconst 0, 1) := by decide +kernel
theorem dX10_stuck_21 : decode cX10_stuck 21 = .ok (.ireturn, 1) := by decide +kernel
theorem dX10_isAtRest_0 : decode cX10_isAtRest 0 = .ok (.aload_n 0, 1) := by decide +kernel
theorem dX10_isAtRest_1 : decode cX10_isAtRest 1 = .ok (.iload_n 1, 1) := by decide +kernel
theorem dX10_isAtRest_2 : decode cX10_isAtRest 2 = .ok (.invokevirtual 263, 3) := by decide +kernel
theorem dX10_isAtRest_5 : decode cX10_isAtRest 5 = .ok (.iconst 1, 1) := by decide +kernel
theorem dX10_isAtRest_6 : decode cX10_isAtRest 6 = .ok (.istore_n 2, 1) := by decide +kernel
theorem dX10_isAtRest_7 : decode cX10_isAtRest 7 = .ok (.iconst 0, 1) := by decide +kernel
theorem dX10_isAtRest_8 : decode cX10_isAtRest 8 = .ok (.istore_n 3, 1) := by decide +kernel
theorem dX10_isAtRest_9 : decode cX10_isAtRest 9 = .ok (.iload_n 3, 1) := by decide +kernel
theorem dX10_isAtRest_10 : decode cX10_isAtRest 10 = .ok (.aload_n 0, 1) := by decide +kernel
theorem dX10_isAtRest_11 : decode cX10_isAtRest 11 = .ok (.getfield 116, 3) := by decide +kernel
theorem dX10_isAtRest_14 : decode cX10_isAtRest 14 = .ok (.if_icmp .ge 57, 3) := by decide +kernel
theorem dX10_isAtRest_17 : decode cX10_isAtRest 17 = .ok (.iload_n 2, 1) := by decide +kernel
theorem dX10_isAtRest_18 : decode cX10_isAtRest 18 = .ok (.ifCond .eq 45, 3) := by decide +kernel
theorem dX10_isAtRest_21 : decode cX10_isAtRest 21 = .ok (.aload_n 0, 1) := by decide +kernel
theorem dX10_isAtRest_22 : decode cX10_isAtRest 22 = .ok (.getfield 67, 3) := by decide +kernel
theorem dX10_isAtRest_25 : decode cX10_isAtRest 25 = .ok (.iload_n 3, 1) := by decide +kernel
theorem dX10_isAtRest_26 : decode cX10_isAtRest 26 = .ok (.iaload, 1) := by decide +kernel
theorem dX10_isAtRest_27 : decode cX10_isAtRest 27 = .ok (.ifCond .eq 32, 3) := by decide +kernel
theorem dX10_isAtRest_30 : decode cX10_isAtRest 30 = .ok (.aload_n 0, 1) := by decide +kernel
theorem dX10_isAtRest_31 : decode cX10_isAtRest 31 = .ok (.getfield 61, 3) := by decide +kernel
theorem dX10_isAtRest_34 : decode cX10_isAtRest 34 = .ok (.iload_n 3, 1) := by decide +kernel
theorem dX10_isAtRest_35 : decode cX10_isAtRest 35 = .ok (.iaload, 1) := by decide +kernel
theorem dX10_isAtRest_36 : decode cX10_isAtRest 36 = .ok (.iconst (-1), 1) := by decide +kernel
theorem dX10_isAtRest_37 : decode cX10_isAtRest 37 = .ok (.if_icmp .eq 26, 3) := by decide +kernel
theorem dX10_isAtRest_40 : decode cX10_isAtRest 40 = .ok (.aload_n 0, 1) := by decide +kernel
theorem dX10_isAtRest_41 : decode cX10_isAtRest 41 = .ok (.getfield 67, 3) := by decide +kernel
theorem dX10_isAtRest_44 : decode cX10_isAtRest 44 = .ok (.iload_n 3, 1) := by decide +kernel
theorem dX10_isAtRest_45 : decode cX10_isAtRest 45 = .ok (.iaload, 1) := by decide +kernel
theorem dX10_isAtRest_46 : decode cX10_isAtRest 46 = .ok (.aload_n 0, 1) := by decide +kernel
theorem dX10_isAtRest_47 : decode cX10_isAtRest 47 = .ok (.getfield 61, 3) := by decide +kernel
theorem dX10_isAtRest_50 : decode cX10_isAtRest 50 = .ok (.iload_n 3, 1) := by decide +kernel
theorem dX10_isAtRest_51 : decode cX10_isAtRest 51 = .ok (.iaload, 1) := by decide +kernel
theorem dX10_isAtRest_52 : decode cX10_isAtRest 52 = .ok (.ishr, 1) := by decide +kernel
theorem dX10_isAtRest_53 : decode cX10_isAtRest 53 = .ok (.iconst 1, 1) := by decide +kernel
theorem dX10_isAtRest_54 : decode cX10_isAtRest 54 = .ok (.iand, 1) := by decide +kernel
theorem dX10_isAtRest_55 : decode cX10_isAtRest 55 = .ok (.iconst 1, 1) := by decide +kernel
theorem dX10_isAtRest_56 : decode cX10_isAtRest 56 = .ok (.if_icmp .ne 7, 3) := by decide +kernel
theorem dX10_isAtRest_59 : decode cX10_isAtRest 59 = .ok (.iconst 1, 1) := by decide +kernel
theorem dX10_isAtRest_60 : decode cX10_isAtRest 60 = .ok (.goto 4, 3) := by decide +kernel
theorem dX10_isAtRest_63 : decode cX10_isAtRest 63 = .ok (.iconst 0, 1) := by decide +kernel
theorem dX10_isAtRest_64 : decode cX10_isAtRest 64 = .ok (.istore_n 2, 1) := by decide +kernel
theorem dX10_isAtRest_65 : decode cX10_isAtRest 65 = .ok (.iinc 3 1, 3) := by decide +kernel
theorem dX10_isAtRest_68 : decode cX10_isAtRest 68 = .ok (.goto (-59), 3) := by decide +kernel
theorem dX10_isAtRest_71 : decode cX10_isAtRest 71 = .ok (.iload_n 2, 1) := by decide +kernel
theorem dX10_isAtRest_72 : decode cX10_isAtRest 72 = .ok (.ireturn, 1) := by decide +kernel
theorem dX10_restOf_0 : decode cX10_restOf 0 = .ok (.aload_n 0, 1) := by decide +kernel
theorem dX10_restOf_1 : decode cX10_restOf 1 = .ok (.invokevirtual 272, 3) := by decide +kernel
theorem dX10_restOf_4 : decode cX10_restOf 4 = .ok (.bipush (-4), 2) := by decide +kernel
theorem dX10_restOf_6 : decode cX10_restOf 6 = .ok (.istore_n 1, 1) := by decide +kernel
theorem dX10_restOf_7 : decode cX10_restOf 7 = .ok (.iconst 0, 1) := by decide +kernel
theorem dX10_restOf_8 : decode cX10_restOf 8 = .ok (.istore_n 2, 1) := by decide +kernel
theorem dX10_restOf_9 : decode cX10_restOf 9 = .ok (.iload_n 2, 1) := by decide +kernel
theorem dX10_restOf_10 : decode cX10_restOf 10 = .ok (.aload_n 0, 1) := by decide +kernel
theorem dX10_restOf_11 : decode cX10_restOf 11 = .ok (.getfield 250, 3) := by decide +kernel
theorem dX10_restOf_14 : decode cX10_restOf 14 = .ok (.if_icmp .ge 49, 3) := by decide +kernel
theorem dX10_restOf_17 : decode cX10_restOf 17 = .ok (.aload_n 0, 1) := by decide +kernel
theorem dX10_restOf_18 : decode cX10_restOf 18 = .ok (.aload_n 0, 1) := by decide +kernel
theorem dX10_restOf_19 : decode cX10_restOf 19 = .ok (.getfield 77, 3) := by decide +kernel
theorem dX10_restOf_22 : decode cX10_restOf 22 = .ok (.iload_n 2, 1) := by decide +kernel
theorem dX10_restOf_23 : decode cX10_restOf 23 = .ok (.iaload, 1) := by decide +kernel
theorem dX10_restOf_24 : decode cX10_restOf 24 = .ok (.invokevirtual 278, 3) := by decide +kernel
theorem dX10_restOf_27 : decode cX10_restOf 27 = .ok (.ifCond .eq 28, 3) := by decide +kernel
theorem dX10_restOf_30 : decode cX10_restOf 30 = .ok (.iload_n 1, 1) := by decide +kernel
theorem dX10_restOf_31 : decode cX10_restOf 31 = .ok (.bipush (-4), 2) := by decide +kernel
theorem dX10_restOf_33 : decode cX10_restOf 33 = .ok (.if_icmp .eq 13, 3) := by decide +kernel
theorem dX10_restOf_36 : decode cX10_restOf 36 = .ok (.aload_n 0, 1) := by decide +kernel
theorem dX10_restOf_37 : decode cX10_restOf 37 = .ok (.getfield 80, 3) := by decide +kernel
theorem dX10_restOf_40 : decode cX10_restOf 40 = .ok (.iload_n 2, 1) := by decide +kernel
theorem dX10_restOf_41 : decode cX10_restOf 41 = .ok (.iaload, 1) := by decide +kernel
theorem dX10_restOf_42 : decode cX10_restOf 42 = .ok (.iload_n 1, 1) := by decide +kernel
theorem dX10_restOf_43 : decode cX10_restOf 43 = .ok (.if_icmp .ge 12, 3) := by decide +kernel
theorem dX10_restOf_46 : decode cX10_restOf 46 = .ok (.aload_n 0, 1) := by decide +kernel
theorem dX10_restOf_47 : decode cX10_restOf 47 = .ok (.getfield 80, 3) := by decide +kernel
theorem dX10_restOf_50 : decode cX10_restOf 50 = .ok (.iload_n 2, 1) := by decide +kernel
theorem dX10_restOf_51 : decode cX10_restOf 51 = .ok (.iaload, 1) := by decide +kernel
theorem dX10_restOf_52 : decode cX10_restOf 52 = .ok (.goto 4, 3) := by decide +kernel
theorem dX10_restOf_55 : decode cX10_restOf 55 = .ok (.iload_n 1, 1) := by decide +kernel
theorem dX10_restOf_56 : decode cX10_restOf 56 = .ok (.istore_n 1, 1) := by decide +kernel
theorem dX10_restOf_57 : decode cX10_restOf 57 = .ok (.iinc 2 1, 3) := by decide +kernel
theorem dX10_restOf_60 : decode cX10_restOf 60 = .ok (.goto (-51), 3) := by decide +kernel
theorem dX10_restOf_63 : decode cX10_restOf 63 = .ok (.iload_n 1, 1) := by decide +kernel
theorem dX10_restOf_64 : decode cX10_restOf 64 = .ok (.ireturn, 1) := by decide +kernel
theorem dX10_rest_0 : decode cX10_rest 0 = .ok (.aload_n 0, 1) := by decide +kernel
theorem dX10_rest_1 : decode cX10_rest 1 = .ok (.invokevirtual 220, 3) := by decide +kernel
theorem dX10_rest_4 : decode cX10_rest 4 = .ok (.aload_n 0, 1) := by decide +kernel
theorem dX10_rest_5 : decode cX10_rest 5 = .ok (.invokevirtual 281, 3) := by decide +kernel
theorem dX10_rest_8 : decode cX10_rest 8 = .ok (.ireturn, 1) := by decide +kernel
theorem dX10_heldBy_0 : decode cX10_heldBy 0 = .ok (.aload_n 0, 1) := by decide +kernel
theorem dX10_heldBy_1 : decode cX10_heldBy 1 = .ok (.invokevirtual 220, 3) := by decide +kernel
theorem dX10_heldBy_4 : decode cX10_heldBy 4 = .ok (.aload_n 0, 1) := by decide +kernel
theorem dX10_heldBy_5 : decode cX10_heldBy 5 = .ok (.getfield 64, 3) := by decide +kernel
theorem dX10_heldBy_8 : decode cX10_heldBy 8 = .ok (.iload_n 1, 1) := by decide +kernel
theorem dX10_heldBy_9 : decode cX10_heldBy 9 = .ok (.iconst 2, 1) := by decide +kernel
theorem dX10_heldBy_10 : decode cX10_heldBy 10 = .ok (.iastore, 1) := by decide +kernel
theorem dX10_heldBy_11 : decode cX10_heldBy 11 = .ok (.aload_n 0, 1) := by decide +kernel
theorem dX10_heldBy_12 : decode cX10_heldBy 12 = .ok (.invokevirtual 272, 3) := by decide +kernel
theorem dX10_heldBy_15 : decode cX10_heldBy 15 = .ok (.iconst 0, 1) := by decide +kernel
theorem dX10_heldBy_16 : decode cX10_heldBy 16 = .ok (.istore_n 2, 1) := by decide +kernel
theorem dX10_heldBy_17 : decode cX10_heldBy 17 = .ok (.iconst 0, 1) := by decide +kernel
theorem dX10_heldBy_18 : decode cX10_heldBy 18 = .ok (.istore_n 3, 1) := by decide +kernel
theorem dX10_heldBy_19 : decode cX10_heldBy 19 = .ok (.iload_n 3, 1) := by decide +kernel
theorem dX10_heldBy_20 : decode cX10_heldBy 20 = .ok (.aload_n 0, 1) := by decide +kernel
theorem dX10_heldBy_21 : decode cX10_heldBy 21 = .ok (.getfield 116, 3) := by decide +kernel
theorem dX10_heldBy_24 : decode cX10_heldBy 24 = .ok (.if_icmp .ge 77, 3) := by decide +kernel
theorem dX10_heldBy_27 : decode cX10_heldBy 27 = .ok (.iconst 0, 1) := by decide +kernel
theorem dX10_heldBy_28 : decode cX10_heldBy 28 = .ok (.istore 4, 2) := by decide +kernel
theorem dX10_heldBy_30 : decode cX10_heldBy 30 = .ok (.iload 4, 2) := by decide +kernel
theorem dX10_heldBy_32 : decode cX10_heldBy 32 = .ok (.aload_n 0, 1) := by decide +kernel
theorem dX10_heldBy_33 : decode cX10_heldBy 33 = .ok (.getfield 123, 3) := by decide +kernel
theorem dX10_heldBy_36 : decode cX10_heldBy 36 = .ok (.if_icmp .ge 59, 3) := by decide +kernel
theorem dX10_heldBy_39 : decode cX10_heldBy 39 = .ok (.iload_n 2, 1) := by decide +kernel
theorem dX10_heldBy_40 : decode cX10_heldBy 40 = .ok (.aload_n 0, 1) := by decide +kernel
theorem dX10_heldBy_41 : decode cX10_heldBy 41 = .ok (.getfield 13, 3) := by decide +kernel
theorem dX10_heldBy_44 : decode cX10_heldBy 44 = .ok (.iload_n 3, 1) := by decide +kernel
theorem dX10_heldBy_45 : decode cX10_heldBy 45 = .ok (.iaload, 1) := by decide +kernel
theorem dX10_heldBy_46 : decode cX10_heldBy 46 = .ok (.iload 4, 2) := by decide +kernel
theorem dX10_heldBy_48 : decode cX10_heldBy 48 = .ok (.ishr, 1) := by decide +kernel
theorem dX10_heldBy_49 : decode cX10_heldBy 49 = .ok (.iconst 1, 1) := by decide +kernel
theorem dX10_heldBy_50 : decode cX10_heldBy 50 = .ok (.iand, 1) := by decide +kernel
theorem dX10_heldBy_51 : decode cX10_heldBy 51 = .ok (.iconst 1, 1) := by decide +kernel
theorem dX10_heldBy_52 : decode cX10_heldBy 52 = .ok (.if_icmp .ne 34, 3) := by decide +kernel
theorem dX10_heldBy_55 : decode cX10_heldBy 55 = .ok (.aload_n 0, 1) := by decide +kernel
theorem dX10_heldBy_56 : decode cX10_heldBy 56 = .ok (.getfield 86, 3) := by decide +kernel
theorem dX10_heldBy_59 : decode cX10_heldBy 59 = .ok (.bipush 6, 2) := by decide +kernel
theorem dX10_heldBy_61 : decode cX10_heldBy 61 = .ok (.iload_n 3, 1) := by decide +kernel
theorem dX10_heldBy_62 : decode cX10_heldBy 62 = .ok (.imul, 1) := by decide +kernel
theorem dX10_heldBy_63 : decode cX10_heldBy 63 = .ok (.iload 4, 2) := by decide +kernel
theorem dX10_heldBy_65 : decode cX10_heldBy 65 = .ok (.iadd, 1) := by decide +kernel
theorem dX10_heldBy_66 : decode cX10_heldBy 66 = .ok (.baload, 1) := by decide +kernel
theorem dX10_heldBy_67 : decode cX10_heldBy 67 = .ok (.ifCond .eq 19, 3) := by decide +kernel
theorem dX10_heldBy_70 : decode cX10_heldBy 70 = .ok (.aload_n 0, 1) := by decide +kernel
theorem dX10_heldBy_71 : decode cX10_heldBy 71 = .ok (.iload_n 3, 1) := by decide +kernel
theorem dX10_heldBy_72 : decode cX10_heldBy 72 = .ok (.iload 4, 2) := by decide +kernel
theorem dX10_heldBy_74 : decode cX10_heldBy 74 = .ok (.invokevirtual 275, 3) := by decide +kernel
theorem dX10_heldBy_77 : decode cX10_heldBy 77 = .ok (.bipush (-4), 2) := by decide +kernel
theorem dX10_heldBy_79 : decode cX10_heldBy 79 = .ok (.if_icmp .ne 7, 3) := by decide +kernel
theorem dX10_heldBy_82 : decode cX10_heldBy 82 = .ok (.iconst 1, 1) := by decide +kernel
theorem dX10_heldBy_83 : decode cX10_heldBy 83 = .ok (.goto 4, 3) := by decide +kernel
theorem dX10_heldBy_86 : decode cX10_heldBy 86 = .ok (.iconst 0, 1) := by decide +kernel
theorem dX10_heldBy_87 : decode cX10_heldBy 87 = .ok (.iadd, 1) := by decide +kernel
theorem dX10_heldBy_88 : decode cX10_heldBy 88 = .ok (.istore_n 2, 1) := by decide +kernel
theorem dX10_heldBy_89 : decode cX10_heldBy 89 = .ok (.iinc 4 1, 3) := by decide +kernel
theorem dX10_heldBy_92 : decode cX10_heldBy 92 = .ok (.goto (-62), 3) := by decide +kernel
theorem dX10_heldBy_95 : decode cX10_heldBy 95 = .ok (.iinc 3 1, 3) := by decide +kernel
theorem dX10_heldBy_98 : decode cX10_heldBy 98 = .ok (.goto (-79), 3) := by decide +kernel
theorem dX10_heldBy_101 : decode cX10_heldBy 101 = .ok (.iload_n 2, 1) := by decide +kernel
theorem dX10_heldBy_102 : decode cX10_heldBy 102 = .ok (.ireturn, 1) := by decide +kernel
theorem dX10_holdsUp_0 : decode cX10_holdsUp 0 = .ok (.iload_n 1, 1) := by decide +kernel
theorem dX10_holdsUp_1 : decode cX10_holdsUp 1 = .ok (.iconst 0, 1) := by decide +kernel
theorem dX10_holdsUp_2 : decode cX10_holdsUp 2 = .ok (.iconst 1, 1) := by decide +kernel
theorem dX10_holdsUp_3 : decode cX10_holdsUp 3 = .ok (.invokestatic 119, 3) := by decide +kernel
theorem dX10_holdsUp_6 : decode cX10_holdsUp 6 = .ok (.ifCond .ne 5, 3) := by decide +kernel
theorem dX10_holdsUp_9 : decode cX10_holdsUp 9 = .ok (.iconst (-1), 1) := by decide +kernel
theorem dX10_holdsUp_10 : decode cX10_holdsUp 10 = .ok (.ireturn, 1) := by decide +kernel
theorem dX10_holdsUp_11 : decode cX10_holdsUp 11 = .ok (.aload_n 0, 1) := by decide +kernel
theorem dX10_holdsUp_12 : decode cX10_holdsUp 12 = .ok (.invokevirtual 220, 3) := by decide +kernel
theorem dX10_holdsUp_15 : decode cX10_holdsUp 15 = .ok (.aload_n 0, 1) := by decide +kernel
theorem dX10_holdsUp_16 : decode cX10_holdsUp 16 = .ok (.invokevirtual 272, 3) := by decide +kernel
theorem dX10_holdsUp_19 : decode cX10_holdsUp 19 = .ok (.iconst 0, 1) := by decide +kernel
theorem dX10_holdsUp_20 : decode cX10_holdsUp 20 = .ok (.istore_n 2, 1) := by decide +kernel
theorem dX10_holdsUp_21 : decode cX10_holdsUp 21 = .ok (.iload_n 2, 1) := by decide +kernel
theorem dX10_holdsUp_22 : decode cX10_holdsUp 22 = .ok (.aload_n 0, 1) := by decide +kernel
theorem dX10_holdsUp_23 : decode cX10_holdsUp 23 = .ok (.getfield 116, 3) := by decide +kernel
theorem dX10_holdsUp_26 : decode cX10_holdsUp 26 = .ok (.if_icmp .ge 52, 3) := by decide +kernel
theorem dX10_holdsUp_29 : decode cX10_holdsUp 29 = .ok (.iconst 0, 1) := by decide +kernel
theorem dX10_holdsUp_30 : decode cX10_holdsUp 30 = .ok (.istore_n 3, 1) := by decide +kernel
theorem dX10_holdsUp_31 : decode cX10_holdsUp 31 = .ok (.iload_n 3, 1) := by decide +kernel
theorem dX10_holdsUp_32 : decode cX10_holdsUp 32 = .ok (.aload_n 0, 1) := by decide +kernel
theorem dX10_holdsUp_33 : decode cX10_holdsUp 33 = .ok (.getfield 123, 3) := by decide +kernel
theorem dX10_holdsUp_36 : decode cX10_holdsUp 36 = .ok (.if_icmp .ge 36, 3) := by decide +kernel
theorem dX10_holdsUp_39 : decode cX10_holdsUp 39 = .ok (.aload_n 0, 1) := by decide +kernel
theorem dX10_holdsUp_40 : decode cX10_holdsUp 40 = .ok (.getfield 86, 3) := by decide +kernel
theorem dX10_holdsUp_43 : decode cX10_holdsUp 43 = .ok (.bipush 6, 2) := by decide +kernel
theorem dX10_holdsUp_45 : decode cX10_holdsUp 45 = .ok (.iload_n 2, 1) := by decide +kernel
theorem dX10_holdsUp_46 : decode cX10_holdsUp 46 = .ok (.imul, 1) := by decide +kernel
theorem dX10_holdsUp_47 : decode cX10_holdsUp 47 = .ok (.iload_n 3, 1) := by decide +kernel
theorem dX10_holdsUp_48 : decode cX10_holdsUp 48 = .ok (.iadd, 1) := by decide +kernel
theorem dX10_holdsUp_49 : decode cX10_holdsUp 49 = .ok (.aload_n 0, 1) := by decide +kernel
theorem dX10_holdsUp_50 : decode cX10_holdsUp 50 = .ok (.iload_n 2, 1) := by decide +kernel
theorem dX10_holdsUp_51 : decode cX10_holdsUp 51 = .ok (.iload_n 3, 1) := by decide +kernel
theorem dX10_holdsUp_52 : decode cX10_holdsUp 52 = .ok (.invokevirtual 275, 3) := by decide +kernel
theorem dX10_holdsUp_55 : decode cX10_holdsUp 55 = .ok (.bipush (-4), 2) := by decide +kernel
theorem dX10_holdsUp_57 : decode cX10_holdsUp 57 = .ok (.if_icmp .eq 7, 3) := by decide +kernel
theorem dX10_holdsUp_60 : decode cX10_holdsUp 60 = .ok (.iconst 1, 1) := by decide +kernel
theorem dX10_holdsUp_61 : decode cX10_holdsUp 61 = .ok (.goto 4, 3) := by decide +kernel
theorem dX10_holdsUp_64 : decode cX10_holdsUp 64 = .ok (.iconst 0, 1) := by decide +kernel
theorem dX10_holdsUp_65 : decode cX10_holdsUp 65 = .ok (.bastore, 1) := by decide +kernel
theorem dX10_holdsUp_66 : decode cX10_holdsUp 66 = .ok (.iinc 3 1, 3) := by decide +kernel
theorem dX10_holdsUp_69 : decode cX10_holdsUp 69 = .ok (.goto (-38), 3) := by decide +kernel
theorem dX10_holdsUp_72 : decode cX10_holdsUp 72 = .ok (.iinc 2 1, 3) := by decide +kernel
theorem dX10_holdsUp_75 : decode cX10_holdsUp 75 = .ok (.goto (-54), 3) := by decide +kernel
theorem dX10_holdsUp_78 : decode cX10_holdsUp 78 = .ok (.iconst 0, 1) := by decide +kernel
theorem dX10_holdsUp_79 : decode cX10_holdsUp 79 = .ok (.istore_n 2, 1) := by decide +kernel
theorem dX10_holdsUp_80 : decode cX10_holdsUp 80 = .ok (.iconst (-1), 1) := by decide +kernel
theorem dX10_holdsUp_81 : decode cX10_holdsUp 81 = .ok (.istore_n 3, 1) := by decide +kernel
theorem dX10_holdsUp_82 : decode cX10_holdsUp 82 = .ok (.iconst 0, 1) := by decide +kernel
theorem dX10_holdsUp_83 : decode cX10_holdsUp 83 = .ok (.istore 4, 2) := by decide +kernel
theorem dX10_holdsUp_85 : decode cX10_holdsUp 85 = .ok (.iload 4, 2) := by decide +kernel
theorem dX10_holdsUp_87 : decode cX10_holdsUp 87 = .ok (.aload_n 0, 1) := by decide +kernel
theorem dX10_holdsUp_88 : decode cX10_holdsUp 88 = .ok (.getfield 116, 3) := by decide +kernel
theorem dX10_holdsUp_91 : decode cX10_holdsUp 91 = .ok (.if_icmp .ge 43, 3) := by decide +kernel
theorem dX10_holdsUp_94 : decode cX10_holdsUp 94 = .ok (.aload_n 0, 1) := by decide +kernel
theorem dX10_holdsUp_95 : decode cX10_holdsUp 95 = .ok (.iload 4, 2) := by decide +kernel
theorem dX10_holdsUp_97 : decode cX10_holdsUp 97 = .ok (.invokevirtual 284, 3) := by decide +kernel
theorem dX10_holdsUp_100 : decode cX10_holdsUp 100 = .ok (.istore 5, 2) := by decide +kernel
theorem dX10_holdsUp_102 : decode cX10_holdsUp 102 = .ok (.iload 5, 2) := by decide +kernel
theorem dX10_holdsUp_104 : decode cX10_holdsUp 104 = .ok (.iload_n 3, 1) := by decide +kernel
theorem dX10_holdsUp_105 : decode cX10_holdsUp 105 = .ok (.if_icmp .le 8, 3) := by decide +kernel
theorem dX10_holdsUp_108 : decode cX10_holdsUp 108 = .ok (.iload 4, 2) := by decide +kernel
theorem dX10_holdsUp_110 : decode cX10_holdsUp 110 = .ok (.goto 4, 3) := by decide +kernel
theorem dX10_holdsUp_113 : decode cX10_holdsUp 113 = .ok (.iload_n 2, 1) := by decide +kernel
theorem dX10_holdsUp_114 : decode cX10_holdsUp 114 = .ok (.istore_n 2, 1) := by decide +kernel
theorem dX10_holdsUp_115 : decode cX10_holdsUp 115 = .ok (.iload 5, 2) := by decide +kernel
theorem dX10_holdsUp_117 : decode cX10_holdsUp 117 = .ok (.iload_n 3, 1) := by decide +kernel
theorem dX10_holdsUp_118 : decode cX10_holdsUp 118 = .ok (.if_icmp .le 8, 3) := by decide +kernel
theorem dX10_holdsUp_121 : decode cX10_holdsUp 121 = .ok (.iload 5, 2) := by decide +kernel
theorem dX10_holdsUp_123 : decode cX10_holdsUp 123 = .ok (.goto 4, 3) := by decide +kernel
theorem dX10_holdsUp_126 : decode cX10_holdsUp 126 = .ok (.iload_n 3, 1) := by decide +kernel
theorem dX10_holdsUp_127 : decode cX10_holdsUp 127 = .ok (.istore_n 3, 1) := by decide +kernel
theorem dX10_holdsUp_128 : decode cX10_holdsUp 128 = .ok (.iinc 4 1, 3) := by decide +kernel
theorem dX10_holdsUp_131 : decode cX10_holdsUp 131 = .ok (.goto (-46), 3) := by decide +kernel
theorem dX10_holdsUp_134 : decode cX10_holdsUp 134 = .ok (.iload_n 1, 1) := by decide +kernel
theorem dX10_holdsUp_135 : decode cX10_holdsUp 135 = .ok (.ifCond .ne 7, 3) := by decide +kernel
theorem dX10_holdsUp_138 : decode cX10_holdsUp 138 = .ok (.iload_n 2, 1) := by decide +kernel
theorem dX10_holdsUp_139 : decode cX10_holdsUp 139 = .ok (.goto 4, 3) := by decide +kernel
theorem dX10_holdsUp_142 : decode cX10_holdsUp 142 = .ok (.iload_n 3, 1) := by decide +kernel
theorem dX10_holdsUp_143 : decode cX10_holdsUp 143 = .ok (.ireturn, 1) := by decide +kernel
theorem dX10_cheapest_0 : decode cX10_cheapest 0 = .ok (.iconst (-1), 1) := by decide +kernel
theorem dX10_cheapest_1 : decode cX10_cheapest 1 = .ok (.istore_n 1, 1) := by decide +kernel
theorem dX10_cheapest_2 : decode cX10_cheapest 2 = .ok (.iconst 0, 1) := by decide +kernel
theorem dX10_cheapest_3 : decode cX10_cheapest 3 = .ok (.istore_n 2, 1) := by decide +kernel
theorem dX10_cheapest_4 : decode cX10_cheapest 4 = .ok (.iload_n 2, 1) := by decide +kernel
theorem dX10_cheapest_5 : decode cX10_cheapest 5 = .ok (.aload_n 0, 1) := by decide +kernel
theorem dX10_cheapest_6 : decode cX10_cheapest 6 = .ok (.getfield 250, 3) := by decide +kernel
theorem dX10_cheapest_9 : decode cX10_cheapest 9 = .ok (.if_icmp .ge 43, 3) := by decide +kernel
theorem dX10_cheapest_12 : decode cX10_cheapest 12 = .ok (.aload_n 0, 1) := by decide +kernel
theorem dX10_cheapest_13 : decode cX10_cheapest 13 = .ok (.getfield 90, 3) := by decide +kernel
theorem dX10_cheapest_16 : decode cX10_cheapest 16 = .ok (.iload_n 2, 1) := by decide +kernel
theorem dX10_cheapest_17 : decode cX10_cheapest 17 = .ok (.baload, 1) := by decide +kernel
theorem dX10_cheapest_18 : decode cX10_cheapest 18 = .ok (.ifCond .ne 26, 3) := by decide +kernel
theorem dX10_cheapest_21 : decode cX10_cheapest 21 = .ok (.iload_n 1, 1) := by decide +kernel
theorem dX10_cheapest_22 : decode cX10_cheapest 22 = .ok (.ifCond .lt 18, 3) := by decide +kernel
theorem dX10_cheapest_25 : decode cX10_cheapest 25 = .ok (.aload_n 0, 1) := by decide +kernel
theorem dX10_cheapest_26 : decode cX10_cheapest 26 = .ok (.getfield 80, 3) := by decide +kernel
theorem dX10_cheapest_29 : decode cX10_cheapest 29 = .ok (.iload_n 2, 1) := by decide +kernel
theorem dX10_cheapest_30 : decode cX10_cheapest 30 = .ok (.iaload, 1) := by decide +kernel
theorem dX10_cheapest_31 : decode cX10_cheapest 31 = .ok (.aload_n 0, 1) := by decide +kernel
theorem dX10_cheapest_32 : decode cX10_cheapest 32 = .ok (.getfield 80, 3) := by decide +kernel
theorem dX10_cheapest_35 : decode cX10_cheapest 35 = .ok (.iload_n 1, 1) := by decide +kernel
theorem dX10_cheapest_36 : decode cX10_cheapest 36 = .ok (.iaload, 1) := by decide +kernel
theorem dX10_cheapest_37 : decode cX10_cheapest 37 = .ok (.if_icmp .ge 7, 3) := by decide +kernel
theorem dX10_cheapest_40 : decode cX10_cheapest 40 = .ok (.iload_n 2, 1) := by decide +kernel
theorem dX10_cheapest_41 : decode cX10_cheapest 41 = .ok (.goto 4, 3) := by decide +kernel
theorem dX10_cheapest_44 : decode cX10_cheapest 44 = .ok (.iload_n 1, 1) := by decide +kernel
theorem dX10_cheapest_45 : decode cX10_cheapest 45 = .ok (.istore_n 1, 1) := by decide +kernel
theorem dX10_cheapest_46 : decode cX10_cheapest 46 = .ok (.iinc 2 1, 3) := by decide +kernel
theorem dX10_cheapest_49 : decode cX10_cheapest 49 = .ok (.goto (-45), 3) := by decide +kernel
theorem dX10_cheapest_52 : decode cX10_cheapest 52 = .ok (.iload_n 1, 1) := by decide +kernel
theorem dX10_cheapest_53 : decode cX10_cheapest 53 = .ok (.ireturn, 1) := by decide +kernel
theorem dX10_costs_0 : decode cX10_costs 0 = .ok (.aload_n 0, 1) := by decide +kernel
theorem dX10_costs_1 : decode cX10_costs 1 = .ok (.aload_n 0, 1) := by decide +kernel
theorem dX10_costs_2 : decode cX10_costs 2 = .ok (.invokevirtual 253, 3) := by decide +kernel
theorem dX10_costs_5 : decode cX10_costs 5 = .ok (.invokevirtual 269, 3) := by decide +kernel
theorem dX10_costs_8 : decode cX10_costs 8 = .ok (.istore_n 2, 1) := by decide +kernel
theorem dX10_costs_9 : decode cX10_costs 9 = .ok (.iload_n 2, 1) := by decide +kernel
theorem dX10_costs_10 : decode cX10_costs 10 = .ok (.ifCond .ge 26, 3) := by decide +kernel
theorem dX10_costs_13 : decode cX10_costs 13 = .ok (.aload_n 0, 1) := by decide +kernel
theorem dX10_costs_14 : decode cX10_costs 14 = .ok (.getfield 90, 3) := by decide +kernel
theorem dX10_costs_17 : decode cX10_costs 17 = .ok (.aload_n 0, 1) := by decide +kernel
theorem dX10_costs_18 : decode cX10_costs 18 = .ok (.getfield 250, 3) := by decide +kernel
theorem dX10_costs_21 : decode cX10_costs 21 = .ok (.iconst 0, 1) := by decide +kernel
theorem dX10_costs_22 : decode cX10_costs 22 = .ok (.bastore, 1) := by decide +kernel
theorem dX10_costs_23 : decode cX10_costs 23 = .ok (.aload_n 0, 1) := by decide +kernel
theorem dX10_costs_24 : decode cX10_costs 24 = .ok (.aload_n 0, 1) := by decide +kernel
theorem dX10_costs_25 : decode cX10_costs 25 = .ok (.invokevirtual 253, 3) := by decide +kernel
theorem dX10_costs_28 : decode cX10_costs 28 = .ok (.iload_n 1, 1) := by decide +kernel
theorem dX10_costs_29 : decode cX10_costs 29 = .ok (.iconst 0, 1) := by decide +kernel
theorem dX10_costs_30 : decode cX10_costs 30 = .ok (.invokevirtual 256, 3) := by decide +kernel
theorem dX10_costs_33 : decode cX10_costs 33 = .ok (.goto 20, 3) := by decide +kernel
theorem dX10_costs_36 : decode cX10_costs 36 = .ok (.iload_n 1, 1) := by decide +kernel
theorem dX10_costs_37 : decode cX10_costs 37 = .ok (.aload_n 0, 1) := by decide +kernel
theorem dX10_costs_38 : decode cX10_costs 38 = .ok (.getfield 80, 3) := by decide +kernel
theorem dX10_costs_41 : decode cX10_costs 41 = .ok (.iload_n 2, 1) := by decide +kernel
theorem dX10_costs_42 : decode cX10_costs 42 = .ok (.iaload, 1) := by decide +kernel
theorem dX10_costs_43 : decode cX10_costs 43 = .ok (.if_icmp .ge 10, 3) := by decide +kernel
theorem dX10_costs_46 : decode cX10_costs 46 = .ok (.aload_n 0, 1) := by decide +kernel
theorem dX10_costs_47 : decode cX10_costs 47 = .ok (.getfield 80, 3) := by decide +kernel
theorem dX10_costs_50 : decode cX10_costs 50 = .ok (.iload_n 2, 1) := by decide +kernel
theorem dX10_costs_51 : decode cX10_costs 51 = .ok (.iload_n 1, 1) := by decide +kernel
theorem dX10_costs_52 : decode cX10_costs 52 = .ok (.iastore, 1) := by decide +kernel
theorem dX10_costs_53 : decode cX10_costs 53 = .ok (.return_, 1) := by decide +kernel
theorem dX10_findPrices_0 : decode cX10_findPrices 0 = .ok (.aload_n 0, 1) := by decide +kernel
theorem dX10_findPrices_1 : decode cX10_findPrices 1 = .ok (.invokevirtual 260, 3) := by decide +kernel
theorem dX10_findPrices_4 : decode cX10_findPrices 4 = .ok (.aload_n 0, 1) := by decide +kernel
theorem dX10_findPrices_5 : decode cX10_findPrices 5 = .ok (.getfield 90, 3) := by decide +kernel
theorem dX10_findPrices_8 : decode cX10_findPrices 8 = .ok (.iconst 0, 1) := by decide +kernel
theorem dX10_findPrices_9 : decode cX10_findPrices 9 = .ok (.iconst 0, 1) := by decide +kernel
theorem dX10_findPrices_10 : decode cX10_findPrices 10 = .ok (.bastore, 1) := by decide +kernel
theorem dX10_findPrices_11 : decode cX10_findPrices 11 = .ok (.iconst 0, 1) := by decide +kernel
theorem dX10_findPrices_12 : decode cX10_findPrices 12 = .ok (.istore_n 1, 1) := by decide +kernel
theorem dX10_findPrices_13 : decode cX10_findPrices 13 = .ok (.iload_n 1, 1) := by decide +kernel
theorem dX10_findPrices_14 : decode cX10_findPrices 14 = .ok (.ifCond .lt 160, 3) := by decide +kernel
theorem dX10_findPrices_17 : decode cX10_findPrices 17 = .ok (.aload_n 0, 1) := by decide +kernel
theorem dX10_findPrices_18 : decode cX10_findPrices 18 = .ok (.getfield 90, 3) := by decide +kernel
theorem dX10_findPrices_21 : decode cX10_findPrices 21 = .ok (.iload_n 1, 1) := by decide +kernel
theorem dX10_findPrices_22 : decode cX10_findPrices 22 = .ok (.iconst 1, 1) := by decide +kernel
theorem dX10_findPrices_23 : decode cX10_findPrices 23 = .ok (.bastore, 1) := by decide +kernel
theorem dX10_findPrices_24 : decode cX10_findPrices 24 = .ok (.iconst 0, 1) := by decide +kernel
theorem dX10_findPrices_25 : decode cX10_findPrices 25 = .ok (.istore_n 2, 1) := by decide +kernel
theorem dX10_findPrices_26 : decode cX10_findPrices 26 = .ok (.iload_n 2, 1) := by decide +kernel
theorem dX10_findPrices_27 : decode cX10_findPrices 27 = .ok (.aload_n 0, 1) := by decide +kernel
theorem dX10_findPrices_28 : decode cX10_findPrices 28 = .ok (.getfield 116, 3) := by decide +kernel
theorem dX10_findPrices_31 : decode cX10_findPrices 31 = .ok (.aload_n 0, 1) := by decide +kernel
theorem dX10_findPrices_32 : decode cX10_findPrices 32 = .ok (.getfield 116, 3) := by decide +kernel
theorem dX10_findPrices_35 : decode cX10_findPrices 35 = .ok (.imul, 1) := by decide +kernel
theorem dX10_findPrices_36 : decode cX10_findPrices 36 = .ok (.if_icmp .ge 130, 3) := by decide +kernel
theorem dX10_findPrices_39 : decode cX10_findPrices 39 = .ok (.iload_n 2, 1) := by decide +kernel
theorem dX10_findPrices_40 : decode cX10_findPrices 40 = .ok (.aload_n 0, 1) := by decide +kernel
theorem dX10_findPrices_41 : decode cX10_findPrices 41 = .ok (.getfield 116, 3) := by decide +kernel
theorem dX10_findPrices_44 : decode cX10_findPrices 44 = .ok (.idiv, 1) := by decide +kernel
theorem dX10_findPrices_45 : decode cX10_findPrices 45 = .ok (.istore_n 3, 1) := by decide +kernel
theorem dX10_findPrices_46 : decode cX10_findPrices 46 = .ok (.iload_n 2, 1) := by decide +kernel
theorem dX10_findPrices_47 : decode cX10_findPrices 47 = .ok (.aload_n 0, 1) := by decide +kernel
theorem dX10_findPrices_48 : decode cX10_findPrices 48 = .ok (.getfield 116, 3) := by decide +kernel
theorem dX10_findPrices_51 : decode cX10_findPrices 51 = .ok (.irem, 1) := by decide +kernel
theorem dX10_findPrices_52 : decode cX10_findPrices 52 = .ok (.istore 4, 2) := by decide +kernel
theorem dX10_findPrices_54 : decode cX10_findPrices 54 = .ok (.aload_n 0, 1) := by decide +kernel
theorem dX10_findPrices_55 : decode cX10_findPrices 55 = .ok (.aload_n 0, 1) := by decide +kernel
theorem dX10_findPrices_56 : decode cX10_findPrices 56 = .ok (.getfield 77, 3) := by decide +kernel
theorem dX10_findPrices_59 : decode cX10_findPrices 59 = .ok (.iload_n 1, 1) := by decide +kernel
theorem dX10_findPrices_60 : decode cX10_findPrices 60 = .ok (.iaload, 1) := by decide +kernel
theorem dX10_findPrices_61 : decode cX10_findPrices 61 = .ok (.invokevirtual 263, 3) := by decide +kernel
theorem dX10_findPrices_64 : decode cX10_findPrices 64 = .ok (.aload_n 0, 1) := by decide +kernel
theorem dX10_findPrices_65 : decode cX10_findPrices 65 = .ok (.iload_n 3, 1) := by decide +kernel
theorem dX10_findPrices_66 : decode cX10_findPrices 66 = .ok (.iload 4, 2) := by decide +kernel
theorem dX10_findPrices_68 : decode cX10_findPrices 68 = .ok (.invokevirtual 223, 3) := by decide +kernel
theorem dX10_findPrices_71 : decode cX10_findPrices 71 = .ok (.ifCond .eq 28, 3) := by decide +kernel
theorem dX10_findPrices_74 : decode cX10_findPrices 74 = .ok (.aload_n 0, 1) := by decide +kernel
theorem dX10_findPrices_75 : decode cX10_findPrices 75 = .ok (.iload_n 3, 1) := by decide +kernel
theorem dX10_findPrices_76 : decode cX10_findPrices 76 = .ok (.iload 4, 2) := by decide +kernel
theorem dX10_findPrices_78 : decode cX10_findPrices 78 = .ok (.invokevirtual 230, 3) := by decide +kernel
theorem dX10_findPrices_81 : decode cX10_findPrices 81 = .ok (.aload_n 0, 1) := by decide +kernel
theorem dX10_findPrices_82 : decode cX10_findPrices 82 = .ok (.aload_n 0, 1) := by decide +kernel
theorem dX10_findPrices_83 : decode cX10_findPrices 83 = .ok (.getfield 80, 3) := by decide +kernel
theorem dX10_findPrices_86 : decode cX10_findPrices 86 = .ok (.iload_n 1, 1) := by decide +kernel
theorem dX10_findPrices_87 : decode cX10_findPrices 87 = .ok (.iaload, 1) := by decide +kernel
theorem dX10_findPrices_88 : decode cX10_findPrices 88 = .ok (.aload_n 0, 1) := by decide +kernel
theorem dX10_findPrices_89 : decode cX10_findPrices 89 = .ok (.iload_n 3, 1) := by decide +kernel
theorem dX10_findPrices_90 : decode cX10_findPrices 90 = .ok (.iload 4, 2) := by decide +kernel
theorem dX10_findPrices_92 : decode cX10_findPrices 92 = .ok (.invokevirtual 206, 3) := by decide +kernel
theorem dX10_findPrices_95 : decode cX10_findPrices 95 = .ok (.iadd, 1) := by decide +kernel
theorem dX10_findPrices_96 : decode cX10_findPrices 96 = .ok (.invokevirtual 287, 3) := by decide +kernel
theorem dX10_findPrices_99 : decode cX10_findPrices 99 = .ok (.iload_n 3, 1) := by decide +kernel
theorem dX10_findPrices_100 : decode cX10_findPrices 100 = .ok (.iload 4, 2) := by decide +kernel
theorem dX10_findPrices_102 : decode cX10_findPrices 102 = .ok (.if_icmp .ge 58, 3) := by decide +kernel
theorem dX10_findPrices_105 : decode cX10_findPrices 105 = .ok (.aload_n 0, 1) := by decide +kernel
theorem dX10_findPrices_106 : decode cX10_findPrices 106 = .ok (.aload_n 0, 1) := by decide +kernel
theorem dX10_findPrices_107 : decode cX10_findPrices 107 = .ok (.getfield 77, 3) := by decide +kernel
theorem dX10_findPrices_110 : decode cX10_findPrices 110 = .ok (.iload_n 1, 1) := by decide +kernel
theorem dX10_findPrices_111 : decode cX10_findPrices 111 = .ok (.iaload, 1) := by decide +kernel
theorem dX10_findPrices_112 : decode cX10_findPrices 112 = .ok (.invokevirtual 263, 3) := by decide +kernel
theorem dX10_findPrices_115 : decode cX10_findPrices 115 = .ok (.aload_n 0, 1) := by decide +kernel
theorem dX10_findPrices_116 : decode cX10_findPrices 116 = .ok (.getfield 61, 3) := by decide +kernel
theorem dX10_findPrices_119 : decode cX10_findPrices 119 = .ok (.iload_n 3, 1) := by decide +kernel
theorem dX10_findPrices_120 : decode cX10_findPrices 120 = .ok (.iaload, 1) := by decide +kernel
theorem dX10_findPrices_121 : decode cX10_findPrices 121 = .ok (.istore 5, 2) := by decide +kernel
theorem dX10_findPrices_123 : decode cX10_findPrices 123 = .ok (.aload_n 0, 1) := by decide +kernel
theorem dX10_findPrices_124 : decode cX10_findPrices 124 = .ok (.getfield 61, 3) := by decide +kernel
theorem dX10_findPrices_127 : decode cX10_findPrices 127 = .ok (.iload_n 3, 1) := by decide +kernel
theorem dX10_findPrices_128 : decode cX10_findPrices 128 = .ok (.aload_n 0, 1) := by decide +kernel
theorem dX10_findPrices_129 : decode cX10_findPrices 129 = .ok (.getfield 61, 3) := by decide +kernel
theorem dX10_findPrices_132 : decode cX10_findPrices 132 = .ok (.iload 4, 2) := by decide +kernel
theorem dX10_findPrices_134 : decode cX10_findPrices 134 = .ok (.iaload, 1) := by decide +kernel
theorem dX10_findPrices_135 : decode cX10_findPrices 135 = .ok (.iastore, 1) := by decide +kernel
theorem dX10_findPrices_136 : decode cX10_findPrices 136 = .ok (.aload_n 0, 1) := by decide +kernel
theorem dX10_findPrices_137 : decode cX10_findPrices 137 = .ok (.getfield 61, 3) := by decide +kernel
theorem dX10_findPrices_140 : decode cX10_findPrices 140 = .ok (.iload 4, 2) := by decide +kernel
theorem dX10_findPrices_142 : decode cX10_findPrices 142 = .ok (.iload 5, 2) := by decide +kernel
theorem dX10_findPrices_144 : decode cX10_findPrices 144 = .ok (.iastore, 1) := by decide +kernel
theorem dX10_findPrices_145 : decode cX10_findPrices 145 = .ok (.aload_n 0, 1) := by decide +kernel
theorem dX10_findPrices_146 : decode cX10_findPrices 146 = .ok (.aload_n 0, 1) := by decide +kernel
theorem dX10_findPrices_147 : decode cX10_findPrices 147 = .ok (.getfield 80, 3) := by decide +kernel
theorem dX10_findPrices_150 : decode cX10_findPrices 150 = .ok (.iload_n 1, 1) := by decide +kernel
theorem dX10_findPrices_151 : decode cX10_findPrices 151 = .ok (.iaload, 1) := by decide +kernel
theorem dX10_findPrices_152 : decode cX10_findPrices 152 = .ok (.aload_n 0, 1) := by decide +kernel
theorem dX10_findPrices_153 : decode cX10_findPrices 153 = .ok (.getfield 177, 3) := by decide +kernel
theorem dX10_findPrices_156 : decode cX10_findPrices 156 = .ok (.iadd, 1) := by decide +kernel
theorem dX10_findPrices_157 : decode cX10_findPrices 157 = .ok (.invokevirtual 287, 3) := by decide +kernel
theorem dX10_findPrices_160 : decode cX10_findPrices 160 = .ok (.iinc 2 1, 3) := by decide +kernel
theorem dX10_findPrices_163 : decode cX10_findPrices 163 = .ok (.goto (-137), 3) := by decide +kernel
theorem dX10_findPrices_166 : decode cX10_findPrices 166 = .ok (.aload_n 0, 1) := by decide +kernel
theorem dX10_findPrices_167 : decode cX10_findPrices 167 = .ok (.invokevirtual 290, 3) := by decide +kernel
theorem dX10_findPrices_170 : decode cX10_findPrices 170 = .ok (.istore_n 1, 1) := by decide +kernel
theorem dX10_findPrices_171 : decode cX10_findPrices 171 = .ok (.goto (-158), 3) := by decide +kernel
theorem dX10_findPrices_174 : decode cX10_findPrices 174 = .ok (.return_, 1) := by decide +kernel
theorem dX10_price_0 : decode cX10_price 0 = .ok (.aload_n 0, 1) := by decide +kernel
theorem dX10_price_1 : decode cX10_price 1 = .ok (.iload_n 1, 1) := by decide +kernel
theorem dX10_price_2 : decode cX10_price 2 = .ok (.invokevirtual 192, 3) := by decide +kernel
theorem dX10_price_5 : decode cX10_price 5 = .ok (.ifCond .eq 11, 3) := by decide +kernel
theorem dX10_price_8 : decode cX10_price 8 = .ok (.aload_n 0, 1) := by decide +kernel
theorem dX10_price_9 : decode cX10_price 9 = .ok (.iload_n 2, 1) := by decide +kernel
theorem dX10_price_10 : decode cX10_price 10 = .ok (.invokevirtual 195, 3) := by decide +kernel
theorem dX10_price_13 : decode cX10_price 13 = .ok (.ifCond .ne 5, 3) := by decide +kernel
theorem dX10_price_16 : decode cX10_price 16 = .ok (.iconst (-1), 1) := by decide +kernel
theorem dX10_price_17 : decode cX10_price 17 = .ok (.ireturn, 1) := by decide +kernel
theorem dX10_price_18 : decode cX10_price 18 = .ok (.aload_n 0, 1) := by decide +kernel
theorem dX10_price_19 : decode cX10_price 19 = .ok (.invokevirtual 220, 3) := by decide +kernel
theorem dX10_price_22 : decode cX10_price 22 = .ok (.aload_n 0, 1) := by decide +kernel
theorem dX10_price_23 : decode cX10_price 23 = .ok (.invokevirtual 293, 3) := by decide +kernel
theorem dX10_price_26 : decode cX10_price 26 = .ok (.aload_n 0, 1) := by decide +kernel
theorem dX10_price_27 : decode cX10_price 27 = .ok (.iload_n 1, 1) := by decide +kernel
theorem dX10_price_28 : decode cX10_price 28 = .ok (.iload_n 2, 1) := by decide +kernel
theorem dX10_price_29 : decode cX10_price 29 = .ok (.invokevirtual 275, 3) := by decide +kernel
theorem dX10_price_32 : decode cX10_price 32 = .ok (.ireturn, 1) := by decide +kernel
theorem dX10_areGlad_0 : decode cX10_areGlad 0 = .ok (.aload_n 0, 1) := by decide +kernel
theorem dX10_areGlad_1 : decode cX10_areGlad 1 = .ok (.iload_n 1, 1) := by decide +kernel
theorem dX10_areGlad_2 : decode cX10_areGlad 2 = .ok (.aload_n 0, 1) := by decide +kernel
theorem dX10_areGlad_3 : decode cX10_areGlad 3 = .ok (.getfield 61, 3) := by decide +kernel
theorem dX10_areGlad_6 : decode cX10_areGlad 6 = .ok (.iload_n 2, 1) := by decide +kernel
theorem dX10_areGlad_7 : decode cX10_areGlad 7 = .ok (.iaload, 1) := by decide +kernel
theorem dX10_areGlad_8 : decode cX10_areGlad 8 = .ok (.invokevirtual 209, 3) := by decide +kernel
theorem dX10_areGlad_11 : decode cX10_areGlad 11 = .ok (.aload_n 0, 1) := by decide +kernel
theorem dX10_areGlad_12 : decode cX10_areGlad 12 = .ok (.iload_n 1, 1) := by decide +kernel
theorem dX10_areGlad_13 : decode cX10_areGlad 13 = .ok (.aload_n 0, 1) := by decide +kernel
theorem dX10_areGlad_14 : decode cX10_areGlad 14 = .ok (.getfield 61, 3) := by decide +kernel
theorem dX10_areGlad_17 : decode cX10_areGlad 17 = .ok (.iload_n 1, 1) := by decide +kernel
theorem dX10_areGlad_18 : decode cX10_areGlad 18 = .ok (.iaload, 1) := by decide +kernel
theorem dX10_areGlad_19 : decode cX10_areGlad 19 = .ok (.invokevirtual 209, 3) := by decide +kernel
theorem dX10_areGlad_22 : decode cX10_areGlad 22 = .ok (.if_icmp .le 32, 3) := by decide +kernel
theorem dX10_areGlad_25 : decode cX10_areGlad 25 = .ok (.aload_n 0, 1) := by decide +kernel
theorem dX10_areGlad_26 : decode cX10_areGlad 26 = .ok (.iload_n 2, 1) := by decide +kernel
theorem dX10_areGlad_27 : decode cX10_areGlad 27 = .ok (.aload_n 0, 1) := by decide +kernel
theorem dX10_areGlad_28 : decode cX10_areGlad 28 = .ok (.getfield 61, 3) := by decide +kernel
theorem dX10_areGlad_31 : decode cX10_areGlad 31 = .ok (.iload_n 1, 1) := by decide +kernel
theorem dX10_areGlad_32 : decode cX10_areGlad 32 = .ok (.iaload, 1) := by decide +kernel
theorem dX10_areGlad_33 : decode cX10_areGlad 33 = .ok (.invokevirtual 209, 3) := by decide +kernel
theorem dX10_areGlad_36 : decode cX10_areGlad 36 = .ok (.aload_n 0, 1) := by decide +kernel
theorem dX10_areGlad_37 : decode cX10_areGlad 37 = .ok (.iload_n 2, 1) := by decide +kernel
theorem dX10_areGlad_38 : decode cX10_areGlad 38 = .ok (.aload_n 0, 1) := by decide +kernel
theorem dX10_areGlad_39 : decode cX10_areGlad 39 = .ok (.getfield 61, 3) := by decide +kernel
theorem dX10_areGlad_42 : decode cX10_areGlad 42 = .ok (.iload_n 2, 1) := by decide +kernel
theorem dX10_areGlad_43 : decode cX10_areGlad 43 = .ok (.iaload, 1) := by decide +kernel
theorem dX10_areGlad_44 : decode cX10_areGlad 44 = .ok (.invokevirtual 209, 3) := by decide +kernel
theorem dX10_areGlad_47 : decode cX10_areGlad 47 = .ok (.if_icmp .le 7, 3) := by decide +kernel
theorem dX10_areGlad_50 : decode cX10_areGlad 50 = .ok (.iconst 1, 1) := by decide +kernel
theorem dX10_areGlad_51 : decode cX10_areGlad 51 = .ok (.goto 4, 3) := by decide +kernel
theorem dX10_areGlad_54 : decode cX10_areGlad 54 = .ok (.iconst 0, 1) := by decide +kernel
theorem dX10_areGlad_55 : decode cX10_areGlad 55 = .ok (.ireturn, 1) := by decide +kernel
theorem dX10_liked_0 : decode cX10_liked 0 = .ok (.iload_n 1, 1) := by decide +kernel
theorem dX10_liked_1 : decode cX10_liked 1 = .ok (.iconst 0, 1) := by decide +kernel
theorem dX10_liked_2 : decode cX10_liked 2 = .ok (.iconst 1, 1) := by decide +kernel
theorem dX10_liked_3 : decode cX10_liked 3 = .ok (.invokestatic 119, 3) := by decide +kernel
theorem dX10_liked_6 : decode cX10_liked 6 = .ok (.ifCond .ne 5, 3) := by decide +kernel
theorem dX10_liked_9 : decode cX10_liked 9 = .ok (.iconst (-1), 1) := by decide +kernel
theorem dX10_liked_10 : decode cX10_liked 10 = .ok (.ireturn, 1) := by decide +kernel
theorem dX10_liked_11 : decode cX10_liked 11 = .ok (.aload_n 0, 1) := by decide +kernel
theorem dX10_liked_12 : decode cX10_liked 12 = .ok (.invokevirtual 220, 3) := by decide +kernel
theorem dX10_liked_15 : decode cX10_liked 15 = .ok (.iconst 0, 1) := by decide +kernel
theorem dX10_liked_16 : decode cX10_liked 16 = .ok (.istore_n 2, 1) := by decide +kernel
theorem dX10_liked_17 : decode cX10_liked 17 = .ok (.bipush (-4), 2) := by decide +kernel
theorem dX10_liked_19 : decode cX10_liked 19 = .ok (.istore_n 3, 1) := by decide +kernel
theorem dX10_liked_20 : decode cX10_liked 20 = .ok (.iconst 0, 1) := by decide +kernel
theorem dX10_liked_21 : decode cX10_liked 21 = .ok (.istore 4, 2) := by decide +kernel
theorem dX10_liked_23 : decode cX10_liked 23 = .ok (.iload 4, 2) := by decide +kernel
theorem dX10_liked_25 : decode cX10_liked 25 = .ok (.aload_n 0, 1) := by decide +kernel
theorem dX10_liked_26 : decode cX10_liked 26 = .ok (.getfield 116, 3) := by decide +kernel
theorem dX10_liked_29 : decode cX10_liked 29 = .ok (.if_icmp .ge 61, 3) := by decide +kernel
theorem dX10_liked_32 : decode cX10_liked 32 = .ok (.iload 4, 2) := by decide +kernel
theorem dX10_liked_34 : decode cX10_liked 34 = .ok (.iconst 1, 1) := by decide +kernel
theorem dX10_liked_35 : decode cX10_liked 35 = .ok (.iadd, 1) := by decide +kernel
theorem dX10_liked_36 : decode cX10_liked 36 = .ok (.istore 5, 2) := by decide +kernel
theorem dX10_liked_38 : decode cX10_liked 38 = .ok (.iload 5, 2) := by decide +kernel
theorem dX10_liked_40 : decode cX10_liked 40 = .ok (.aload_n 0, 1) := by decide +kernel
theorem dX10_liked_41 : decode cX10_liked 41 = .ok (.getfield 116, 3) := by decide +kernel
theorem dX10_liked_44 : decode cX10_liked 44 = .ok (.if_icmp .ge 40, 3) := by decide +kernel
theorem dX10_liked_47 : decode cX10_liked 47 = .ok (.aload_n 0, 1) := by decide +kernel
theorem dX10_liked_48 : decode cX10_liked 48 = .ok (.iload 4, 2) := by decide +kernel
theorem dX10_liked_50 : decode cX10_liked 50 = .ok (.iload 5, 2) := by decide +kernel
theorem dX10_liked_52 : decode cX10_liked 52 = .ok (.invokevirtual 296, 3) := by decide +kernel
theorem dX10_liked_55 : decode cX10_liked 55 = .ok (.ifCond .eq 23, 3) := by decide +kernel
theorem dX10_liked_58 : decode cX10_liked 58 = .ok (.iload_n 2, 1) := by decide +kernel
theorem dX10_liked_59 : decode cX10_liked 59 = .ok (.ifCond .ne 14, 3) := by decide +kernel
theorem dX10_liked_62 : decode cX10_liked 62 = .ok (.bipush 10, 2) := by decide +kernel
theorem dX10_liked_64 : decode cX10_liked 64 = .ok (.iload 4, 2) := by decide +kernel
theorem dX10_liked_66 : decode cX10_liked 66 = .ok (.imul, 1) := by decide +kernel
theorem dX10_liked_67 : decode cX10_liked 67 = .ok (.iload 5, 2) := by decide +kernel
theorem dX10_liked_69 : decode cX10_liked 69 = .ok (.iadd, 1) := by decide +kernel
theorem dX10_liked_70 : decode cX10_liked 70 = .ok (.goto 4, 3) := by decide +kernel
theorem dX10_liked_73 : decode cX10_liked 73 = .ok (.iload_n 3, 1) := by decide +kernel
theorem dX10_liked_74 : decode cX10_liked 74 = .ok (.istore_n 3, 1) := by decide +kernel
theorem dX10_liked_75 : decode cX10_liked 75 = .ok (.iinc 2 1, 3) := by decide +kernel
theorem dX10_liked_78 : decode cX10_liked 78 = .ok (.iinc 5 1, 3) := by decide +kernel
theorem dX10_liked_81 : decode cX10_liked 81 = .ok (.goto (-43), 3) := by decide +kernel
theorem dX10_liked_84 : decode cX10_liked 84 = .ok (.iinc 4 1, 3) := by decide +kernel
theorem dX10_liked_87 : decode cX10_liked 87 = .ok (.goto (-64), 3) := by decide +kernel
theorem dX10_liked_90 : decode cX10_liked 90 = .ok (.iload_n 1, 1) := by decide +kernel
theorem dX10_liked_91 : decode cX10_liked 91 = .ok (.ifCond .ne 7, 3) := by decide +kernel
theorem dX10_liked_94 : decode cX10_liked 94 = .ok (.iload_n 2, 1) := by decide +kernel
theorem dX10_liked_95 : decode cX10_liked 95 = .ok (.goto 4, 3) := by decide +kernel
theorem dX10_liked_98 : decode cX10_liked 98 = .ok (.iload_n 3, 1) := by decide +kernel
theorem dX10_liked_99 : decode cX10_liked 99 = .ok (.ireturn, 1) := by decide +kernel
theorem dX10_most_0 : decode cX10_most 0 = .ok (.aload_n 0, 1) := by decide +kernel
theorem dX10_most_1 : decode cX10_most 1 = .ok (.invokevirtual 220, 3) := by decide +kernel
theorem dX10_most_4 : decode cX10_most 4 = .ok (.iconst 0, 1) := by decide +kernel
theorem dX10_most_5 : decode cX10_most 5 = .ok (.istore_n 1, 1) := by decide +kernel
theorem dX10_most_6 : decode cX10_most 6 = .ok (.iconst 0, 1) := by decide +kernel
theorem dX10_most_7 : decode cX10_most 7 = .ok (.istore_n 2, 1) := by decide +kernel
theorem dX10_most_8 : decode cX10_most 8 = .ok (.iload_n 2, 1) := by decide +kernel
theorem dX10_most_9 : decode cX10_most 9 = .ok (.aload_n 0, 1) := by decide +kernel
theorem dX10_most_10 : decode cX10_most 10 = .ok (.getfield 116, 3) := by decide +kernel
theorem dX10_most_13 : decode cX10_most 13 = .ok (.if_icmp .ge 34, 3) := by decide +kernel
theorem dX10_most_16 : decode cX10_most 16 = .ok (.iload_n 1, 1) := by decide +kernel
theorem dX10_most_17 : decode cX10_most 17 = .ok (.aload_n 0, 1) := by decide +kernel
theorem dX10_most_18 : decode cX10_most 18 = .ok (.getfield 61, 3) := by decide +kernel
theorem dX10_most_21 : decode cX10_most 21 = .ok (.iload_n 2, 1) := by decide +kernel
theorem dX10_most_22 : decode cX10_most 22 = .ok (.iaload, 1) := by decide +kernel
theorem dX10_most_23 : decode cX10_most 23 = .ok (.iconst (-1), 1) := by decide +kernel
theorem dX10_most_24 : decode cX10_most 24 = .ok (.if_icmp .ne 7, 3) := by decide +kernel
theorem dX10_most_27 : decode cX10_most 27 = .ok (.iconst 0, 1) := by decide +kernel
theorem dX10_most_28 : decode cX10_most 28 = .ok (.goto 11, 3) := by decide +kernel
theorem dX10_most_31 : decode cX10_most 31 = .ok (.iconst 1, 1) := by decide +kernel
theorem dX10_most_32 : decode cX10_most 32 = .ok (.aload_n 0, 1) := by decide +kernel
theorem dX10_most_33 : decode cX10_most 33 = .ok (.getfield 61, 3) := by decide +kernel
theorem dX10_most_36 : decode cX10_most 36 = .ok (.iload_n 2, 1) := by decide +kernel
theorem dX10_most_37 : decode cX10_most 37 = .ok (.iaload, 1) := by decide +kernel
theorem dX10_most_38 : decode cX10_most 38 = .ok (.ishl, 1) := by decide +kernel
theorem dX10_most_39 : decode cX10_most 39 = .ok (.ior, 1) := by decide +kernel
theorem dX10_most_40 : decode cX10_most 40 = .ok (.istore_n 1, 1) := by decide +kernel
theorem dX10_most_41 : decode cX10_most 41 = .ok (.iinc 2 1, 3) := by decide +kernel
theorem dX10_most_44 : decode cX10_most 44 = .ok (.goto (-36), 3) := by decide +kernel
theorem dX10_most_47 : decode cX10_most 47 = .ok (.iconst 0, 1) := by decide +kernel
theorem dX10_most_48 : decode cX10_most 48 = .ok (.istore_n 2, 1) := by decide +kernel
theorem dX10_most_49 : decode cX10_most 49 = .ok (.iload_n 2, 1) := by decide +kernel
theorem dX10_most_50 : decode cX10_most 50 = .ok (.bipush 64, 2) := by decide +kernel
theorem dX10_most_52 : decode cX10_most 52 = .ok (.if_icmp .ge 24, 3) := by decide +kernel
theorem dX10_most_55 : decode cX10_most 55 = .ok (.aload_n 0, 1) := by decide +kernel
theorem dX10_most_56 : decode cX10_most 56 = .ok (.getfield 93, 3) := by decide +kernel
theorem dX10_most_59 : decode cX10_most 59 = .ok (.iload_n 2, 1) := by decide +kernel
theorem dX10_most_60 : decode cX10_most 60 = .ok (.iload_n 2, 1) := by decide +kernel
theorem dX10_most_61 : decode cX10_most 61 = .ok (.ifCond .ne 7, 3) := by decide +kernel
theorem dX10_most_64 : decode cX10_most 64 = .ok (.iconst 0, 1) := by decide +kernel
theorem dX10_most_65 : decode cX10_most 65 = .ok (.goto 4, 3) := by decide +kernel
theorem dX10_most_68 : decode cX10_most 68 = .ok (.iconst (-1), 1) := by decide +kernel
theorem dX10_most_69 : decode cX10_most 69 = .ok (.iastore, 1) := by decide +kernel
theorem dX10_most_70 : decode cX10_most 70 = .ok (.iinc 2 1, 3) := by decide +kernel
theorem dX10_most_73 : decode cX10_most 73 = .ok (.goto (-24), 3) := by decide +kernel
theorem dX10_most_76 : decode cX10_most 76 = .ok (.iconst 0, 1) := by decide +kernel
theorem dX10_most_77 : decode cX10_most 77 = .ok (.istore_n 2, 1) := by decide +kernel
theorem dX10_most_78 : decode cX10_most 78 = .ok (.iload_n 2, 1) := by decide +kernel
theorem dX10_most_79 : decode cX10_most 79 = .ok (.aload_n 0, 1) := by decide +kernel
theorem dX10_most_80 : decode cX10_most 80 = .ok (.getfield 116, 3) := by decide +kernel
theorem dX10_most_83 : decode cX10_most 83 = .ok (.if_icmp .ge 154, 3) := by decide +kernel
theorem dX10_most_86 : decode cX10_most 86 = .ok (.iconst 0, 1) := by decide +kernel
theorem dX10_most_87 : decode cX10_most 87 = .ok (.istore_n 3, 1) := by decide +kernel
theorem dX10_most_88 : decode cX10_most 88 = .ok (.iload_n 3, 1) := by decide +kernel
theorem dX10_most_89 : decode cX10_most 89 = .ok (.bipush 64, 2) := by decide +kernel
theorem dX10_most_91 : decode cX10_most 91 = .ok (.if_icmp .ge 114, 3) := by decide +kernel
theorem dX10_most_94 : decode cX10_most 94 = .ok (.aload_n 0, 1) := by decide +kernel
theorem dX10_most_95 : decode cX10_most 95 = .ok (.getfield 96, 3) := by decide +kernel
theorem dX10_most_98 : decode cX10_most 98 = .ok (.iload_n 3, 1) := by decide +kernel
theorem dX10_most_99 : decode cX10_most 99 = .ok (.aload_n 0, 1) := by decide +kernel
theorem dX10_most_100 : decode cX10_most 100 = .ok (.getfield 93, 3) := by decide +kernel
theorem dX10_most_103 : decode cX10_most 103 = .ok (.iload_n 3, 1) := by decide +kernel
theorem dX10_most_104 : decode cX10_most 104 = .ok (.iaload, 1) := by decide +kernel
theorem dX10_most_105 : decode cX10_most 105 = .ok (.iastore, 1) := by decide +kernel
theorem dX10_most_106 : decode cX10_most 106 = .ok (.iconst 0, 1) := by decide +kernel
theorem dX10_most_107 : decode cX10_most 107 = .ok (.istore 4, 2) := by decide +kernel
theorem dX10_most_109 : decode cX10_most 109 = .ok (.iload 4, 2) := by decide +kernel
theorem dX10_most_111 : decode cX10_most 111 = .ok (.aload_n 0, 1) := by decide +kernel
theorem dX10_most_112 : decode cX10_most 112 = .ok (.getfield 123, 3) := by decide +kernel
theorem dX10_most_115 : decode cX10_most 115 = .ok (.if_icmp .ge 84, 3) := by decide +kernel
theorem dX10_most_118 : decode cX10_most 118 = .ok (.iload_n 3, 1) := by decide +kernel
theorem dX10_most_119 : decode cX10_most 119 = .ok (.iconst 1, 1) := by decide +kernel
theorem dX10_most_120 : decode cX10_most 120 = .ok (.iload 4, 2) := by decide +kernel
theorem dX10_most_122 : decode cX10_most 122 = .ok (.ishl, 1) := by decide +kernel
theorem dX10_most_123 : decode cX10_most 123 = .ok (.iconst (-1), 1) := by decide +kernel
theorem dX10_most_124 : decode cX10_most 124 = .ok (.ixor, 1) := by decide +kernel
theorem dX10_most_125 : decode cX10_most 125 = .ok (.iand, 1) := by decide +kernel
theorem dX10_most_126 : decode cX10_most 126 = .ok (.istore 5, 2) := by decide +kernel
theorem dX10_most_128 : decode cX10_most 128 = .ok (.iload 5, 2) := by decide +kernel
theorem dX10_most_130 : decode cX10_most 130 = .ok (.iload_n 3, 1) := by decide +kernel
theorem dX10_most_131 : decode cX10_most 131 = .ok (.if_icmp .eq 13, 3) := by decide +kernel
theorem dX10_most_134 : decode cX10_most 134 = .ok (.aload_n 0, 1) := by decide +kernel
theorem dX10_most_135 : decode cX10_most 135 = .ok (.getfield 93, 3) := by decide +kernel
theorem dX10_most_138 : decode cX10_most 138 = .ok (.iload 5, 2) := by decide +kernel
theorem dX10_most_140 : decode cX10_most 140 = .ok (.iaload, 1) := by decide +kernel
theorem dX10_most_141 : decode cX10_most 141 = .ok (.ifCond .ge 7, 3) := by decide +kernel
theorem dX10_most_144 : decode cX10_most 144 = .ok (.iconst (-1), 1) := by decide +kernel
theorem dX10_most_145 : decode cX10_most 145 = .ok (.goto 18, 3) := by decide +kernel
theorem dX10_most_148 : decode cX10_most 148 = .ok (.aload_n 0, 1) := by decide +kernel
theorem dX10_most_149 : decode cX10_most 149 = .ok (.getfield 93, 3) := by decide +kernel
theorem dX10_most_152 : decode cX10_most 152 = .ok (.iload 5, 2) := by decide +kernel
theorem dX10_most_154 : decode cX10_most 154 = .ok (.iaload, 1) := by decide +kernel
theorem dX10_most_155 : decode cX10_most 155 = .ok (.aload_n 0, 1) := by decide +kernel
theorem dX10_most_156 : decode cX10_most 156 = .ok (.iload_n 2, 1) := by decide +kernel
theorem dX10_most_157 : decode cX10_most 157 = .ok (.iload 4, 2) := by decide +kernel
theorem dX10_most_159 : decode cX10_most 159 = .ok (.invokevirtual 209, 3) := by decide +kernel
theorem dX10_most_162 : decode cX10_most 162 = .ok (.iadd, 1) := by decide +kernel
theorem dX10_most_163 : decode cX10_most 163 = .ok (.istore 6, 2) := by decide +kernel
theorem dX10_most_165 : decode cX10_most 165 = .ok (.aload_n 0, 1) := by decide +kernel
theorem dX10_most_166 : decode cX10_most 166 = .ok (.getfield 96, 3) := by decide +kernel
theorem dX10_most_169 : decode cX10_most 169 = .ok (.iload_n 3, 1) := by decide +kernel
theorem dX10_most_170 : decode cX10_most 170 = .ok (.iload 6, 2) := by decide +kernel
theorem dX10_most_172 : decode cX10_most 172 = .ok (.aload_n 0, 1) := by decide +kernel
theorem dX10_most_173 : decode cX10_most 173 = .ok (.getfield 96, 3) := by decide +kernel
theorem dX10_most_176 : decode cX10_most 176 = .ok (.iload_n 3, 1) := by decide +kernel
theorem dX10_most_177 : decode cX10_most 177 = .ok (.iaload, 1) := by decide +kernel
theorem dX10_most_178 : decode cX10_most 178 = .ok (.if_icmp .le 8, 3) := by decide +kernel
theorem dX10_most_181 : decode cX10_most 181 = .ok (.iload 6, 2) := by decide +kernel
theorem dX10_most_183 : decode cX10_most 183 = .ok (.goto 9, 3) := by decide +kernel
theorem dX10_most_186 : decode cX10_most 186 = .ok (.aload_n 0, 1) := by decide +kernel
theorem dX10_most_187 : decode cX10_most 187 = .ok (.getfield 96, 3) := by decide +kernel
theorem dX10_most_190 : decode cX10_most 190 = .ok (.iload_n 3, 1) := by decide +kernel
theorem dX10_most_191 : decode cX10_most 191 = .ok (.iaload, 1) := by decide +kernel
theorem dX10_most_192 : decode cX10_most 192 = .ok (.iastore, 1) := by decide +kernel
theorem dX10_most_193 : decode cX10_most 193 = .ok (.iinc 4 1, 3) := by decide +kernel
theorem dX10_most_196 : decode cX10_most 196 = .ok (.goto (-87), 3) := by decide +kernel
theorem dX10_most_199 : decode cX10_most 199 = .ok (.iinc 3 1, 3) := by decide +kernel
theorem dX10_most_202 : decode cX10_most 202 = .ok (.goto (-114), 3) := by decide +kernel
theorem dX10_most_205 : decode cX10_most 205 = .ok (.iconst 0, 1) := by decide +kernel
theorem dX10_most_206 : decode cX10_most 206 = .ok (.istore_n 3, 1) := by decide +kernel
theorem dX10_most_207 : decode cX10_most 207 = .ok (.iload_n 3, 1) := by decide +kernel
theorem dX10_most_208 : decode cX10_most 208 = .ok (.bipush 64, 2) := by decide +kernel
theorem dX10_most_210 : decode cX10_most 210 = .ok (.if_icmp .ge 21, 3) := by decide +kernel
theorem dX10_most_213 : decode cX10_most 213 = .ok (.aload_n 0, 1) := by decide +kernel
theorem dX10_most_214 : decode cX10_most 214 = .ok (.getfield 93, 3) := by decide +kernel
theorem dX10_most_217 : decode cX10_most 217 = .ok (.iload_n 3, 1) := by decide +kernel
theorem dX10_most_218 : decode cX10_most 218 = .ok (.aload_n 0, 1) := by decide +kernel
theorem dX10_most_219 : decode cX10_most 219 = .ok (.getfield 96, 3) := by decide +kernel
theorem dX10_most_222 : decode cX10_most 222 = .ok (.iload_n 3, 1) := by decide +kernel
theorem dX10_most_223 : decode cX10_most 223 = .ok (.iaload, 1) := by decide +kernel
theorem dX10_most_224 : decode cX10_most 224 = .ok (.iastore, 1) := by decide +kernel
theorem dX10_most_225 : decode cX10_most 225 = .ok (.iinc 3 1, 3) := by decide +kernel
theorem dX10_most_228 : decode cX10_most 228 = .ok (.goto (-21), 3) := by decide +kernel
theorem dX10_most_231 : decode cX10_most 231 = .ok (.iinc 2 1, 3) := by decide +kernel
theorem dX10_most_234 : decode cX10_most 234 = .ok (.goto (-156), 3) := by decide +kernel
theorem dX10_most_237 : decode cX10_most 237 = .ok (.aload_n 0, 1) := by decide +kernel
theorem dX10_most_238 : decode cX10_most 238 = .ok (.getfield 93, 3) := by decide +kernel
theorem dX10_most_241 : decode cX10_most 241 = .ok (.iload_n 1, 1) := by decide +kernel
theorem dX10_most_242 : decode cX10_most 242 = .ok (.iaload, 1) := by decide +kernel
theorem dX10_most_243 : decode cX10_most 243 = .ok (.ireturn, 1) := by decide +kernel
theorem dX10_swapSits_0 : decode cX10_swapSits 0 = .ok (.aload_n 0, 1) := by decide +kernel
theorem dX10_swapSits_1 : decode cX10_swapSits 1 = .ok (.getfield 64, 3) := by decide +kernel
theorem dX10_swapSits_4 : decode cX10_swapSits 4 = .ok (.iload_n 1, 1) := by decide +kernel
theorem dX10_swapSits_5 : decode cX10_swapSits 5 = .ok (.iaload, 1) := by decide +kernel
theorem dX10_swapSits_6 : decode cX10_swapSits 6 = .ok (.istore_n 3, 1) := by decide +kernel
theorem dX10_swapSits_7 : decode cX10_swapSits 7 = .ok (.aload_n 0, 1) := by decide +kernel
theorem dX10_swapSits_8 : decode cX10_swapSits 8 = .ok (.getfield 64, 3) := by decide +kernel
theorem dX10_swapSits_11 : decode cX10_swapSits 11 = .ok (.iload_n 1, 1) := by decide +kernel
theorem dX10_swapSits_12 : decode cX10_swapSits 12 = .ok (.aload_n 0, 1) := by decide +kernel
theorem dX10_swapSits_13 : decode cX10_swapSits 13 = .ok (.getfield 64, 3) := by decide +kernel
theorem dX10_swapSits_16 : decode cX10_swapSits 16 = .ok (.iload_n 2, 1) := by decide +kernel
theorem dX10_swapSits_17 : decode cX10_swapSits 17 = .ok (.iaload, 1) := by decide +kernel
theorem dX10_swapSits_18 : decode cX10_swapSits 18 = .ok (.iastore, 1) := by decide +kernel
theorem dX10_swapSits_19 : decode cX10_swapSits 19 = .ok (.aload_n 0, 1) := by decide +kernel
theorem dX10_swapSits_20 : decode cX10_swapSits 20 = .ok (.getfield 64, 3) := by decide +kernel
theorem dX10_swapSits_23 : decode cX10_swapSits 23 = .ok (.iload_n 2, 1) := by decide +kernel
theorem dX10_swapSits_24 : decode cX10_swapSits 24 = .ok (.iload_n 3, 1) := by decide +kernel
theorem dX10_swapSits_25 : decode cX10_swapSits 25 = .ok (.iastore, 1) := by decide +kernel
theorem dX10_swapSits_26 : decode cX10_swapSits 26 = .ok (.aload_n 0, 1) := by decide +kernel
theorem dX10_swapSits_27 : decode cX10_swapSits 27 = .ok (.getfield 67, 3) := by decide +kernel
theorem dX10_swapSits_30 : decode cX10_swapSits 30 = .ok (.iload_n 1, 1) := by decide +kernel
theorem dX10_swapSits_31 : decode cX10_swapSits 31 = .ok (.iaload, 1) := by decide +kernel
theorem dX10_swapSits_32 : decode cX10_swapSits 32 = .ok (.istore 4, 2) := by decide +kernel
theorem dX10_swapSits_34 : decode cX10_swapSits 34 = .ok (.aload_n 0, 1) := by decide +kernel
theorem dX10_swapSits_35 : decode cX10_swapSits 35 = .ok (.getfield 67, 3) := by decide +kernel
theorem dX10_swapSits_38 : decode cX10_swapSits 38 = .ok (.iload_n 1, 1) := by decide +kernel
theorem dX10_swapSits_39 : decode cX10_swapSits 39 = .ok (.aload_n 0, 1) := by decide +kernel
theorem dX10_swapSits_40 : decode cX10_swapSits 40 = .ok (.getfield 67, 3) := by decide +kernel
theorem dX10_swapSits_43 : decode cX10_swapSits 43 = .ok (.iload_n 2, 1) := by decide +kernel
theorem dX10_swapSits_44 : decode cX10_swapSits 44 = .ok (.iaload, 1) := by decide +kernel
theorem dX10_swapSits_45 : decode cX10_swapSits 45 = .ok (.iastore, 1) := by decide +kernel
theorem dX10_swapSits_46 : decode cX10_swapSits 46 = .ok (.aload_n 0, 1) := by decide +kernel
theorem dX10_swapSits_47 : decode cX10_swapSits 47 = .ok (.getfield 67, 3) := by decide +kernel
theorem dX10_swapSits_50 : decode cX10_swapSits 50 = .ok (.iload_n 2, 1) := by decide +kernel
theorem dX10_swapSits_51 : decode cX10_swapSits 51 = .ok (.iload 4, 2) := by decide +kernel
theorem dX10_swapSits_53 : decode cX10_swapSits 53 = .ok (.iastore, 1) := by decide +kernel
theorem dX10_swapSits_54 : decode cX10_swapSits 54 = .ok (.iconst 0, 1) := by decide +kernel
theorem dX10_swapSits_55 : decode cX10_swapSits 55 = .ok (.istore 5, 2) := by decide +kernel
theorem dX10_swapSits_57 : decode cX10_swapSits 57 = .ok (.iload 5, 2) := by decide +kernel
theorem dX10_swapSits_59 : decode cX10_swapSits 59 = .ok (.bipush 6, 2) := by decide +kernel
theorem dX10_swapSits_61 : decode cX10_swapSits 61 = .ok (.if_icmp .ge 61, 3) := by decide +kernel
theorem dX10_swapSits_64 : decode cX10_swapSits 64 = .ok (.aload_n 0, 1) := by decide +kernel
theorem dX10_swapSits_65 : decode cX10_swapSits 65 = .ok (.getfield 70, 3) := by decide +kernel
theorem dX10_swapSits_68 : decode cX10_swapSits 68 = .ok (.bipush 6, 2) := by decide +kernel
theorem dX10_swapSits_70 : decode cX10_swapSits 70 = .ok (.iload_n 1, 1) := by decide +kernel
theorem dX10_swapSits_71 : decode cX10_swapSits 71 = .ok (.imul, 1) := by decide +kernel
theorem dX10_swapSits_72 : decode cX10_swapSits 72 = .ok (.iload 5, 2) := by decide +kernel
theorem dX10_swapSits_74 : decode cX10_swapSits 74 = .ok (.iadd, 1) := by decide +kernel
theorem dX10_swapSits_75 : decode cX10_swapSits 75 = .ok (.iaload, 1) := by decide +kernel
theorem dX10_swapSits_76 : decode cX10_swapSits 76 = .ok (.istore 6, 2) := by decide +kernel
theorem dX10_swapSits_78 : decode cX10_swapSits 78 = .ok (.aload_n 0, 1) := by decide +kernel
theorem dX10_swapSits_79 : decode cX10_swapSits 79 = .ok (.getfield 70, 3) := by decide +kernel
theorem dX10_swapSits_82 : decode cX10_swapSits 82 = .ok (.bipush 6, 2) := by decide +kernel
theorem dX10_swapSits_84 : decode cX10_swapSits 84 = .ok (.iload_n 1, 1) := by decide +kernel
theorem dX10_swapSits_85 : decode cX10_swapSits 85 = .ok (.imul, 1) := by decide +kernel
theorem dX10_swapSits_86 : decode cX10_swapSits 86 = .ok (.iload 5, 2) := by decide +kernel
theorem dX10_swapSits_88 : decode cX10_swapSits 88 = .ok (.iadd, 1) := by decide +kernel
theorem dX10_swapSits_89 : decode cX10_swapSits 89 = .ok (.aload_n 0, 1) := by decide +kernel
theorem dX10_swapSits_90 : decode cX10_swapSits 90 = .ok (.getfield 70, 3) := by decide +kernel
theorem dX10_swapSits_93 : decode cX10_swapSits 93 = .ok (.bipush 6, 2) := by decide +kernel
theorem dX10_swapSits_95 : decode cX10_swapSits 95 = .ok (.iload_n 2, 1) := by decide +kernel
theorem dX10_swapSits_96 : decode cX10_swapSits 96 = .ok (.imul, 1) := by decide +kernel
theorem dX10_swapSits_97 : decode cX10_swapSits 97 = .ok (.iload 5, 2) := by decide +kernel
theorem dX10_swapSits_99 : decode cX10_swapSits 99 = .ok (.iadd, 1) := by decide +kernel
theorem dX10_swapSits_100 : decode cX10_swapSits 100 = .ok (.iaload, 1) := by decide +kernel
theorem dX10_swapSits_101 : decode cX10_swapSits 101 = .ok (.iastore, 1) := by decide +kernel
theorem dX10_swapSits_102 : decode cX10_swapSits 102 = .ok (.aload_n 0, 1) := by decide +kernel
theorem dX10_swapSits_103 : decode cX10_swapSits 103 = .ok (.getfield 70, 3) := by decide +kernel
theorem dX10_swapSits_106 : decode cX10_swapSits 106 = .ok (.bipush 6, 2) := by decide +kernel
theorem dX10_swapSits_108 : decode cX10_swapSits 108 = .ok (.iload_n 2, 1) := by decide +kernel
theorem dX10_swapSits_109 : decode cX10_swapSits 109 = .ok (.imul, 1) := by decide +kernel
theorem dX10_swapSits_110 : decode cX10_swapSits 110 = .ok (.iload 5, 2) := by decide +kernel
theorem dX10_swapSits_112 : decode cX10_swapSits 112 = .ok (.iadd, 1) := by decide +kernel
theorem dX10_swapSits_113 : decode cX10_swapSits 113 = .ok (.iload 6, 2) := by decide +kernel
theorem dX10_swapSits_115 : decode cX10_swapSits 115 = .ok (.iastore, 1) := by decide +kernel
theorem dX10_swapSits_116 : decode cX10_swapSits 116 = .ok (.iinc 5 1, 3) := by decide +kernel
theorem dX10_swapSits_119 : decode cX10_swapSits 119 = .ok (.goto (-62), 3) := by decide +kernel
theorem dX10_swapSits_122 : decode cX10_swapSits 122 = .ok (.return_, 1) := by decide +kernel
theorem dX10_seats_0 : decode cX10_seats 0 = .ok (.aload_n 0, 1) := by decide +kernel
theorem dX10_seats_1 : decode cX10_seats 1 = .ok (.invokevirtual 220, 3) := by decide +kernel
theorem dX10_seats_4 : decode cX10_seats 4 = .ok (.aload_n 0, 1) := by decide +kernel
theorem dX10_seats_5 : decode cX10_seats 5 = .ok (.invokevirtual 281, 3) := by decide +kernel
theorem dX10_seats_8 : decode cX10_seats 8 = .ok (.istore_n 1, 1) := by decide +kernel
theorem dX10_seats_9 : decode cX10_seats 9 = .ok (.bipush (-4), 2) := by decide +kernel
theorem dX10_seats_11 : decode cX10_seats 11 = .ok (.istore_n 2, 1) := by decide +kernel
theorem dX10_seats_12 : decode cX10_seats 12 = .ok (.iconst 0, 1) := by decide +kernel
theorem dX10_seats_13 : decode cX10_seats 13 = .ok (.istore_n 3, 1) := by decide +kernel
theorem dX10_seats_14 : decode cX10_seats 14 = .ok (.iload_n 3, 1) := by decide +kernel
theorem dX10_seats_15 : decode cX10_seats 15 = .ok (.aload_n 0, 1) := by decide +kernel
theorem dX10_seats_16 : decode cX10_seats 16 = .ok (.getfield 116, 3) := by decide +kernel
theorem dX10_seats_19 : decode cX10_seats 19 = .ok (.if_icmp .ge 76, 3) := by decide +kernel
theorem dX10_seats_22 : decode cX10_seats 22 = .ok (.iload_n 3, 1) := by decide +kernel
theorem dX10_seats_23 : decode cX10_seats 23 = .ok (.iconst 1, 1) := by decide +kernel
theorem dX10_seats_24 : decode cX10_seats 24 = .ok (.iadd, 1) := by decide +kernel
theorem dX10_seats_25 : decode cX10_seats 25 = .ok (.istore 4, 2) := by decide +kernel
theorem dX10_seats_27 : decode cX10_seats 27 = .ok (.iload 4, 2) := by decide +kernel
theorem dX10_seats_29 : decode cX10_seats 29 = .ok (.aload_n 0, 1) := by decide +kernel
theorem dX10_seats_30 : decode cX10_seats 30 = .ok (.getfield 116, 3) := by decide +kernel
theorem dX10_seats_33 : decode cX10_seats 33 = .ok (.if_icmp .ge 56, 3) := by decide +kernel
theorem dX10_seats_36 : decode cX10_seats 36 = .ok (.aload_n 0, 1) := by decide +kernel
theorem dX10_seats_37 : decode cX10_seats 37 = .ok (.invokevirtual 220, 3) := by decide +kernel
theorem dX10_seats_40 : decode cX10_seats 40 = .ok (.aload_n 0, 1) := by decide +kernel
theorem dX10_seats_41 : decode cX10_seats 41 = .ok (.iload_n 3, 1) := by decide +kernel
theorem dX10_seats_42 : decode cX10_seats 42 = .ok (.iload 4, 2) := by decide +kernel
theorem dX10_seats_44 : decode cX10_seats 44 = .ok (.invokevirtual 299, 3) := by decide +kernel
theorem dX10_seats_47 : decode cX10_seats 47 = .ok (.aload_n 0, 1) := by decide +kernel
theorem dX10_seats_48 : decode cX10_seats 48 = .ok (.invokevirtual 281, 3) := by decide +kernel
theorem dX10_seats_51 : decode cX10_seats 51 = .ok (.istore 5, 2) := by decide +kernel
theorem dX10_seats_53 : decode cX10_seats 53 = .ok (.iload 5, 2) := by decide +kernel
theorem dX10_seats_55 : decode cX10_seats 55 = .ok (.bipush (-4), 2) := by decide +kernel
theorem dX10_seats_57 : decode cX10_seats 57 = .ok (.if_icmp .eq 26, 3) := by decide +kernel
theorem dX10_seats_60 : decode cX10_seats 60 = .ok (.iload_n 1, 1) := by decide +kernel
theorem dX10_seats_61 : decode cX10_seats 61 = .ok (.bipush (-4), 2) := by decide +kernel
theorem dX10_seats_63 : decode cX10_seats 63 = .ok (.if_icmp .eq 9, 3) := by decide +kernel
theorem dX10_seats_66 : decode cX10_seats 66 = .ok (.iload 5, 2) := by decide +kernel
theorem dX10_seats_68 : decode cX10_seats 68 = .ok (.iload_n 1, 1) := by decide +kernel
theorem dX10_seats_69 : decode cX10_seats 69 = .ok (.if_icmp .ge 14, 3) := by decide +kernel
theorem dX10_seats_72 : decode cX10_seats 72 = .ok (.iload 5, 2) := by decide +kernel
theorem dX10_seats_74 : decode cX10_seats 74 = .ok (.istore_n 1, 1) := by decide +kernel
theorem dX10_seats_75 : decode cX10_seats 75 = .ok (.bipush 10, 2) := by decide +kernel
theorem dX10_seats_77 : decode cX10_seats 77 = .ok (.iload_n 3, 1) := by decide +kernel
theorem dX10_seats_78 : decode cX10_seats 78 = .ok (.imul, 1) := by decide +kernel
theorem dX10_seats_79 : decode cX10_seats 79 = .ok (.iload 4, 2) := by decide +kernel
theorem dX10_seats_81 : decode cX10_seats 81 = .ok (.iadd, 1) := by decide +kernel
theorem dX10_seats_82 : decode cX10_seats 82 = .ok (.istore_n 2, 1) := by decide +kernel
theorem dX10_seats_83 : decode cX10_seats 83 = .ok (.iinc 4 1, 3) := by decide +kernel
theorem dX10_seats_86 : decode cX10_seats 86 = .ok (.goto (-59), 3) := by decide +kernel
theorem dX10_seats_89 : decode cX10_seats 89 = .ok (.iinc 3 1, 3) := by decide +kernel
theorem dX10_seats_92 : decode cX10_seats 92 = .ok (.goto (-78), 3) := by decide +kernel
theorem dX10_seats_95 : decode cX10_seats 95 = .ok (.iload_n 2, 1) := by decide +kernel
theorem dX10_seats_96 : decode cX10_seats 96 = .ok (.ireturn, 1) := by decide +kernel
theorem dX10_waysOn_0 : decode cX10_waysOn 0 = .ok (.iconst 0, 1) := by decide +kernel
theorem dX10_waysOn_1 : decode cX10_waysOn 1 = .ok (.istore_n 1, 1) := by decide +kernel
theorem dX10_waysOn_2 : decode cX10_waysOn 2 = .ok (.iload_n 1, 1) := by decide +kernel
theorem dX10_waysOn_3 : decode cX10_waysOn 3 = .ok (.aload_n 0, 1) := by decide +kernel
theorem dX10_waysOn_4 : decode cX10_waysOn 4 = .ok (.getfield 250, 3) := by decide +kernel
theorem dX10_waysOn_7 : decode cX10_waysOn 7 = .ok (.if_icmp .ge 16, 3) := by decide +kernel
theorem dX10_waysOn_10 : decode cX10_waysOn 10 = .ok (.aload_n 0, 1) := by decide +kernel
theorem dX10_waysOn_11 : decode cX10_waysOn 11 = .ok (.getfield 103, 3) := by decide +kernel
theorem dX10_waysOn_14 : decode cX10_waysOn 14 = .ok (.iload_n 1, 1) := by decide +kernel
theorem dX10_waysOn_15 : decode cX10_waysOn 15 = .ok (.lconst 0, 1) := by decide +kernel
theorem dX10_waysOn_16 : decode cX10_waysOn 16 = .ok (.lastore, 1) := by decide +kernel
theorem dX10_waysOn_17 : decode cX10_waysOn 17 = .ok (.iinc 1 1, 3) := by decide +kernel
theorem dX10_waysOn_20 : decode cX10_waysOn 20 = .ok (.goto (-18), 3) := by decide +kernel
theorem dX10_waysOn_23 : decode cX10_waysOn 23 = .ok (.iconst 0, 1) := by decide +kernel
theorem dX10_waysOn_24 : decode cX10_waysOn 24 = .ok (.istore_n 1, 1) := by decide +kernel
theorem dX10_waysOn_25 : decode cX10_waysOn 25 = .ok (.iload_n 1, 1) := by decide +kernel
theorem dX10_waysOn_26 : decode cX10_waysOn 26 = .ok (.aload_n 0, 1) := by decide +kernel
theorem dX10_waysOn_27 : decode cX10_waysOn 27 = .ok (.getfield 250, 3) := by decide +kernel
theorem dX10_waysOn_30 : decode cX10_waysOn 30 = .ok (.if_icmp .ge 97, 3) := by decide +kernel
theorem dX10_waysOn_33 : decode cX10_waysOn 33 = .ok (.iconst 0, 1) := by decide +kernel
theorem dX10_waysOn_34 : decode cX10_waysOn 34 = .ok (.istore_n 2, 1) := by decide +kernel
theorem dX10_waysOn_35 : decode cX10_waysOn 35 = .ok (.iload_n 2, 1) := by decide +kernel
theorem dX10_waysOn_36 : decode cX10_waysOn 36 = .ok (.aload_n 0, 1) := by decide +kernel
theorem dX10_waysOn_37 : decode cX10_waysOn 37 = .ok (.getfield 116, 3) := by decide +kernel
theorem dX10_waysOn_40 : decode cX10_waysOn 40 = .ok (.aload_n 0, 1) := by decide +kernel
theorem dX10_waysOn_41 : decode cX10_waysOn 41 = .ok (.getfield 116, 3) := by decide +kernel
theorem dX10_waysOn_44 : decode cX10_waysOn 44 = .ok (.imul, 1) := by decide +kernel
theorem dX10_waysOn_45 : decode cX10_waysOn 45 = .ok (.if_icmp .ge 76, 3) := by decide +kernel
theorem dX10_waysOn_48 : decode cX10_waysOn 48 = .ok (.aload_n 0, 1) := by decide +kernel
theorem dX10_waysOn_49 : decode cX10_waysOn 49 = .ok (.aload_n 0, 1) := by decide +kernel
theorem dX10_waysOn_50 : decode cX10_waysOn 50 = .ok (.getfield 77, 3) := by decide +kernel
theorem dX10_waysOn_53 : decode cX10_waysOn 53 = .ok (.iload_n 1, 1) := by decide +kernel
theorem dX10_waysOn_54 : decode cX10_waysOn 54 = .ok (.iaload, 1) := by decide +kernel
theorem dX10_waysOn_55 : decode cX10_waysOn 55 = .ok (.invokevirtual 263, 3) := by decide +kernel
theorem dX10_waysOn_58 : decode cX10_waysOn 58 = .ok (.aload_n 0, 1) := by decide +kernel
theorem dX10_waysOn_59 : decode cX10_waysOn 59 = .ok (.iload_n 2, 1) := by decide +kernel
theorem dX10_waysOn_60 : decode cX10_waysOn 60 = .ok (.aload_n 0, 1) := by decide +kernel
theorem dX10_waysOn_61 : decode cX10_waysOn 61 = .ok (.getfield 116, 3) := by decide +kernel
theorem dX10_waysOn_64 : decode cX10_waysOn 64 = .ok (.idiv, 1) := by decide +kernel
theorem dX10_waysOn_65 : decode cX10_waysOn 65 = .ok (.iload_n 2, 1) := by decide +kernel
theorem dX10_waysOn_66 : decode cX10_waysOn 66 = .ok (.aload_n 0, 1) := by decide +kernel
theorem dX10_waysOn_67 : decode cX10_waysOn 67 = .ok (.getfield 116, 3) := by decide +kernel
theorem dX10_waysOn_70 : decode cX10_waysOn 70 = .ok (.irem, 1) := by decide +kernel
theorem dX10_waysOn_71 : decode cX10_waysOn 71 = .ok (.invokevirtual 223, 3) := by decide +kernel
theorem dX10_waysOn_74 : decode cX10_waysOn 74 = .ok (.ifCond .eq 41, 3) := by decide +kernel
theorem dX10_waysOn_77 : decode cX10_waysOn 77 = .ok (.aload_n 0, 1) := by decide +kernel
theorem dX10_waysOn_78 : decode cX10_waysOn 78 = .ok (.iload_n 2, 1) := by decide +kernel
theorem dX10_waysOn_79 : decode cX10_waysOn 79 = .ok (.aload_n 0, 1) := by decide +kernel
theorem dX10_waysOn_80 : decode cX10_waysOn 80 = .ok (.getfield 116, 3) := by decide +kernel
theorem dX10_waysOn_83 : decode cX10_waysOn 83 = .ok (.idiv, 1) := by decide +kernel
theorem dX10_waysOn_84 : decode cX10_waysOn 84 = .ok (.iload_n 2, 1) := by decide +kernel
theorem dX10_waysOn_85 : decode cX10_waysOn 85 = .ok (.aload_n 0, 1) := by decide +kernel
theorem dX10_waysOn_86 : decode cX10_waysOn 86 = .ok (.getfield 116, 3) := by decide +kernel
theorem dX10_waysOn_89 : decode cX10_waysOn 89 = .ok (.irem, 1) := by decide +kernel
theorem dX10_waysOn_90 : decode cX10_waysOn 90 = .ok (.invokevirtual 230, 3) := by decide +kernel
theorem dX10_waysOn_93 : decode cX10_waysOn 93 = .ok (.aload_n 0, 1) := by decide +kernel
theorem dX10_waysOn_94 : decode cX10_waysOn 94 = .ok (.getfield 103, 3) := by decide +kernel
theorem dX10_waysOn_97 : decode cX10_waysOn 97 = .ok (.aload_n 0, 1) := by decide +kernel
theorem dX10_waysOn_98 : decode cX10_waysOn 98 = .ok (.aload_n 0, 1) := by decide +kernel
theorem dX10_waysOn_99 : decode cX10_waysOn 99 = .ok (.invokevirtual 253, 3) := by decide +kernel
theorem dX10_waysOn_102 : decode cX10_waysOn 102 = .ok (.invokevirtual 269, 3) := by decide +kernel
theorem dX10_waysOn_105 : decode cX10_waysOn 105 = .ok (.dup2, 1) := by decide +kernel
theorem dX10_waysOn_106 : decode cX10_waysOn 106 = .ok (.laload, 1) := by decide +kernel
theorem dX10_waysOn_107 : decode cX10_waysOn 107 = .ok (.aload_n 0, 1) := by decide +kernel
theorem dX10_waysOn_108 : decode cX10_waysOn 108 = .ok (.getfield 99, 3) := by decide +kernel
theorem dX10_waysOn_111 : decode cX10_waysOn 111 = .ok (.iload_n 1, 1) := by decide +kernel
theorem dX10_waysOn_112 : decode cX10_waysOn 112 = .ok (.laload, 1) := by decide +kernel
theorem dX10_waysOn_113 : decode cX10_waysOn 113 = .ok (.ladd, 1) := by decide +kernel
theorem dX10_waysOn_114 : decode cX10_waysOn 114 = .ok (.lastore, 1) := by decide +kernel
theorem dX10_waysOn_115 : decode cX10_waysOn 115 = .ok (.iinc 2 1, 3) := by decide +kernel
theorem dX10_waysOn_118 : decode cX10_waysOn 118 = .ok (.goto (-83), 3) := by decide +kernel
theorem dX10_waysOn_121 : decode cX10_waysOn 121 = .ok (.iinc 1 1, 3) := by decide +kernel
theorem dX10_waysOn_124 : decode cX10_waysOn 124 = .ok (.goto (-99), 3) := by decide +kernel
theorem dX10_waysOn_127 : decode cX10_waysOn 127 = .ok (.iconst 0, 1) := by decide +kernel
theorem dX10_waysOn_128 : decode cX10_waysOn 128 = .ok (.istore_n 1, 1) := by decide +kernel
theorem dX10_waysOn_129 : decode cX10_waysOn 129 = .ok (.iload_n 1, 1) := by decide +kernel
theorem dX10_waysOn_130 : decode cX10_waysOn 130 = .ok (.aload_n 0, 1) := by decide +kernel
theorem dX10_waysOn_131 : decode cX10_waysOn 131 = .ok (.getfield 250, 3) := by decide +kernel
theorem dX10_waysOn_134 : decode cX10_waysOn 134 = .ok (.if_icmp .ge 21, 3) := by decide +kernel
theorem dX10_waysOn_137 : decode cX10_waysOn 137 = .ok (.aload_n 0, 1) := by decide +kernel
theorem dX10_waysOn_138 : decode cX10_waysOn 138 = .ok (.getfield 99, 3) := by decide +kernel
theorem dX10_waysOn_141 : decode cX10_waysOn 141 = .ok (.iload_n 1, 1) := by decide +kernel
theorem dX10_waysOn_142 : decode cX10_waysOn 142 = .ok (.aload_n 0, 1) := by decide +kernel
theorem dX10_waysOn_143 : decode cX10_waysOn 143 = .ok (.getfield 103, 3) := by decide +kernel
theorem dX10_waysOn_146 : decode cX10_waysOn 146 = .ok (.iload_n 1, 1) := by decide +kernel
theorem dX10_waysOn_147 : decode cX10_waysOn 147 = .ok (.laload, 1) := by decide +kernel
theorem dX10_waysOn_148 : decode cX10_waysOn 148 = .ok (.lastore, 1) := by decide +kernel
theorem dX10_waysOn_149 : decode cX10_waysOn 149 = .ok (.iinc 1 1, 3) := by decide +kernel
theorem dX10_waysOn_152 : decode cX10_waysOn 152 = .ok (.goto (-23), 3) := by decide +kernel
theorem dX10_waysOn_155 : decode cX10_waysOn 155 = .ok (.return_, 1) := by decide +kernel
theorem dX10_went_0 : decode cX10_went 0 = .ok (.iload_n 1, 1) := by decide +kernel
theorem dX10_went_1 : decode cX10_went 1 = .ok (.iconst 0, 1) := by decide +kernel
theorem dX10_went_2 : decode cX10_went 2 = .ok (.bipush 8, 2) := by decide +kernel
theorem dX10_went_4 : decode cX10_went 4 = .ok (.invokestatic 119, 3) := by decide +kernel
theorem dX10_went_7 : decode cX10_went 7 = .ok (.ifCond .ne 7, 3) := by decide +kernel
theorem dX10_went_10 : decode cX10_went 10 = .ok (.ldc2_w 302, 3) := by decide +kernel
theorem dX10_went_13 : decode cX10_went 13 = .ok (.lreturn, 1) := by decide +kernel
theorem dX10_went_14 : decode cX10_went 14 = .ok (.aload_n 0, 1) := by decide +kernel
theorem dX10_went_15 : decode cX10_went 15 = .ok (.invokevirtual 220, 3) := by decide +kernel
theorem dX10_went_18 : decode cX10_went 18 = .ok (.aload_n 0, 1) := by decide +kernel
theorem dX10_went_19 : decode cX10_went 19 = .ok (.invokevirtual 253, 3) := by decide +kernel
theorem dX10_went_22 : decode cX10_went 22 = .ok (.istore_n 2, 1) := by decide +kernel
theorem dX10_went_23 : decode cX10_went 23 = .ok (.iconst 0, 1) := by decide +kernel
theorem dX10_went_24 : decode cX10_went 24 = .ok (.istore_n 3, 1) := by decide +kernel
theorem dX10_went_25 : decode cX10_went 25 = .ok (.iload_n 3, 1) := by decide +kernel
theorem dX10_went_26 : decode cX10_went 26 = .ok (.aload_n 0, 1) := by decide +kernel
theorem dX10_went_27 : decode cX10_went 27 = .ok (.getfield 116, 3) := by decide +kernel
theorem dX10_went_30 : decode cX10_went 30 = .ok (.if_icmp .ge 21, 3) := by decide +kernel
theorem dX10_went_33 : decode cX10_went 33 = .ok (.aload_n 0, 1) := by decide +kernel
theorem dX10_went_34 : decode cX10_went 34 = .ok (.getfield 61, 3) := by decide +kernel
theorem dX10_went_37 : decode cX10_went 37 = .ok (.iload_n 3, 1) := by decide +kernel
theorem dX10_went_38 : decode cX10_went 38 = .ok (.aload_n 0, 1) := by decide +kernel
theorem dX10_went_39 : decode cX10_went 39 = .ok (.getfield 19, 3) := by decide +kernel
theorem dX10_went_42 : decode cX10_went 42 = .ok (.iload_n 3, 1) := by decide +kernel
theorem dX10_went_43 : decode cX10_went 43 = .ok (.iaload, 1) := by decide +kernel
theorem dX10_went_44 : decode cX10_went 44 = .ok (.iastore, 1) := by decide +kernel
theorem dX10_went_45 : decode cX10_went 45 = .ok (.iinc 3 1, 3) := by decide +kernel
theorem dX10_went_48 : decode cX10_went 48 = .ok (.goto (-23), 3) := by decide +kernel
theorem dX10_went_51 : decode cX10_went 51 = .ok (.aload_n 0, 1) := by decide +kernel
theorem dX10_went_52 : decode cX10_went 52 = .ok (.invokevirtual 272, 3) := by decide +kernel
theorem dX10_went_55 : decode cX10_went 55 = .ok (.iconst 0, 1) := by decide +kernel
theorem dX10_went_56 : decode cX10_went 56 = .ok (.istore_n 3, 1) := by decide +kernel
theorem dX10_went_57 : decode cX10_went 57 = .ok (.iload_n 3, 1) := by decide +kernel
theorem dX10_went_58 : decode cX10_went 58 = .ok (.aload_n 0, 1) := by decide +kernel
theorem dX10_went_59 : decode cX10_went 59 = .ok (.getfield 250, 3) := by decide +kernel
theorem dX10_went_62 : decode cX10_went 62 = .ok (.if_icmp .ge 24, 3) := by decide +kernel
theorem dX10_went_65 : decode cX10_went 65 = .ok (.aload_n 0, 1) := by decide +kernel
theorem dX10_went_66 : decode cX10_went 66 = .ok (.getfield 99, 3) := by decide +kernel
theorem dX10_went_69 : decode cX10_went 69 = .ok (.iload_n 3, 1) := by decide +kernel
theorem dX10_went_70 : decode cX10_went 70 = .ok (.iload_n 3, 1) := by decide +kernel
theorem dX10_went_71 : decode cX10_went 71 = .ok (.ifCond .ne 7, 3) := by decide +kernel
theorem dX10_went_74 : decode cX10_went 74 = .ok (.lconst 1, 1) := by decide +kernel
theorem dX10_went_75 : decode cX10_went 75 = .ok (.goto 4, 3) := by decide +kernel
theorem dX10_went_78 : decode cX10_went 78 = .ok (.lconst 0, 1) := by decide +kernel
theorem dX10_went_79 : decode cX10_went 79 = .ok (.lastore, 1) := by decide +kernel
theorem dX10_went_80 : decode cX10_went 80 = .ok (.iinc 3 1, 3) := by decide +kernel
theorem dX10_went_83 : decode cX10_went 83 = .ok (.goto (-26), 3) := by decide +kernel
theorem dX10_went_86 : decode cX10_went 86 = .ok (.iconst 0, 1) := by decide +kernel
theorem dX10_went_87 : decode cX10_went 87 = .ok (.istore_n 3, 1) := by decide +kernel
theorem dX10_went_88 : decode cX10_went 88 = .ok (.iload_n 3, 1) := by decide +kernel
theorem dX10_went_89 : decode cX10_went 89 = .ok (.iload_n 1, 1) := by decide +kernel
end
section
theorem dX10_went_90 : decode cX10_went 90 = .ok (.if_icmp .ge 13, 3) := by decide +kernel
theorem dX10_went_93 : decode cX10_went 93 = .ok (.aload_n 0, 1) := by decide +kernel
theorem dX10_went_94 : decode cX10_went 94 = .ok (.invokevirtual 304, 3) := by decide +kernel
theorem dX10_went_97 : decode cX10_went 97 = .ok (.iinc 3 1, 3) := by decide +kernel
theorem dX10_went_100 : decode cX10_went 100 = .ok (.goto (-12), 3) := by decide +kernel
theorem dX10_went_103 : decode cX10_went 103 = .ok (.aload_n 0, 1) := by decide +kernel
theorem dX10_went_104 : decode cX10_went 104 = .ok (.iload_n 2, 1) := by decide +kernel
theorem dX10_went_105 : decode cX10_went 105 = .ok (.invokevirtual 269, 3) := by decide +kernel
theorem dX10_went_108 : decode cX10_went 108 = .ok (.ifCond .ge 7, 3) := by decide +kernel
theorem dX10_went_111 : decode cX10_went 111 = .ok (.lconst 0, 1) := by decide +kernel
theorem dX10_went_112 : decode cX10_went 112 = .ok (.goto 13, 3) := by decide +kernel
theorem dX10_went_115 : decode cX10_went 115 = .ok (.aload_n 0, 1) := by decide +kernel
theorem dX10_went_116 : decode cX10_went 116 = .ok (.getfield 99, 3) := by decide +kernel
theorem dX10_went_119 : decode cX10_went 119 = .ok (.aload_n 0, 1) := by decide +kernel
theorem dX10_went_120 : decode cX10_went 120 = .ok (.iload_n 2, 1) := by decide +kernel
theorem dX10_went_121 : decode cX10_went 121 = .ok (.invokevirtual 269, 3) := by decide +kernel
theorem dX10_went_124 : decode cX10_went 124 = .ok (.laload, 1) := by decide +kernel
theorem dX10_went_125 : decode cX10_went 125 = .ok (.lreturn, 1) := by decide +kernel
theorem dX10_drawn_0 : decode cX10_drawn 0 = .ok (.iload_n 1, 1) := by decide +kernel
theorem dX10_drawn_1 : decode cX10_drawn 1 = .ok (.iconst 0, 1) := by decide +kernel
theorem dX10_drawn_2 : decode cX10_drawn 2 = .ok (.sipush 9999, 3) := by decide +kernel
theorem dX10_drawn_5 : decode cX10_drawn 5 = .ok (.invokestatic 119, 3) := by decide +kernel
theorem dX10_drawn_8 : decode cX10_drawn 8 = .ok (.ifCond .eq 26, 3) := by decide +kernel
theorem dX10_drawn_11 : decode cX10_drawn 11 = .ok (.iload_n 2, 1) := by decide +kernel
theorem dX10_drawn_12 : decode cX10_drawn 12 = .ok (.iconst 1, 1) := by decide +kernel
theorem dX10_drawn_13 : decode cX10_drawn 13 = .ok (.bipush 60, 2) := by decide +kernel
theorem dX10_drawn_15 : decode cX10_drawn 15 = .ok (.invokestatic 119, 3) := by decide +kernel
theorem dX10_drawn_18 : decode cX10_drawn 18 = .ok (.ifCond .eq 16, 3) := by decide +kernel
theorem dX10_drawn_21 : decode cX10_drawn 21 = .ok (.iload_n 3, 1) := by decide +kernel
theorem dX10_drawn_22 : decode cX10_drawn 22 = .ok (.iconst (-1), 1) := by decide +kernel
theorem dX10_drawn_23 : decode cX10_drawn 23 = .ok (.if_icmp .eq 13, 3) := by decide +kernel
theorem dX10_drawn_26 : decode cX10_drawn 26 = .ok (.aload_n 0, 1) := by decide +kernel
theorem dX10_drawn_27 : decode cX10_drawn 27 = .ok (.iload_n 3, 1) := by decide +kernel
theorem dX10_drawn_28 : decode cX10_drawn 28 = .ok (.invokevirtual 195, 3) := by decide +kernel
theorem dX10_drawn_31 : decode cX10_drawn 31 = .ok (.ifCond .ne 5, 3) := by decide +kernel
theorem dX10_drawn_34 : decode cX10_drawn 34 = .ok (.iconst (-1), 1) := by decide +kernel
theorem dX10_drawn_35 : decode cX10_drawn 35 = .ok (.ireturn, 1) := by decide +kernel
theorem dX10_drawn_36 : decode cX10_drawn 36 = .ok (.aload_n 0, 1) := by decide +kernel
theorem dX10_drawn_37 : decode cX10_drawn 37 = .ok (.invokevirtual 220, 3) := by decide +kernel
theorem dX10_drawn_40 : decode cX10_drawn 40 = .ok (.iconst 0, 1) := by decide +kernel
theorem dX10_drawn_41 : decode cX10_drawn 41 = .ok (.istore 4, 2) := by decide +kernel
theorem dX10_drawn_43 : decode cX10_drawn 43 = .ok (.iconst 0, 1) := by decide +kernel
theorem dX10_drawn_44 : decode cX10_drawn 44 = .ok (.istore 5, 2) := by decide +kernel
theorem dX10_drawn_46 : decode cX10_drawn 46 = .ok (.iload 5, 2) := by decide +kernel
theorem dX10_drawn_48 : decode cX10_drawn 48 = .ok (.iload_n 2, 1) := by decide +kernel
theorem dX10_drawn_49 : decode cX10_drawn 49 = .ok (.if_icmp .ge 82, 3) := by decide +kernel
theorem dX10_drawn_52 : decode cX10_drawn 52 = .ok (.ldc2_w 307, 3) := by decide +kernel
theorem dX10_drawn_55 : decode cX10_drawn 55 = .ok (.iload_n 1, 1) := by decide +kernel
theorem dX10_drawn_56 : decode cX10_drawn 56 = .ok (.i2l, 1) := by decide +kernel
theorem dX10_drawn_57 : decode cX10_drawn 57 = .ok (.lmul, 1) := by decide +kernel
theorem dX10_drawn_58 : decode cX10_drawn 58 = .ok (.ldc2_w 309, 3) := by decide +kernel
theorem dX10_drawn_61 : decode cX10_drawn 61 = .ok (.iload 5, 2) := by decide +kernel
theorem dX10_drawn_63 : decode cX10_drawn 63 = .ok (.i2l, 1) := by decide +kernel
theorem dX10_drawn_64 : decode cX10_drawn 64 = .ok (.lmul, 1) := by decide +kernel
theorem dX10_drawn_65 : decode cX10_drawn 65 = .ok (.ladd, 1) := by decide +kernel
theorem dX10_drawn_66 : decode cX10_drawn 66 = .ok (.lconst 1, 1) := by decide +kernel
theorem dX10_drawn_67 : decode cX10_drawn 67 = .ok (.ladd, 1) := by decide +kernel
theorem dX10_drawn_68 : decode cX10_drawn 68 = .ok (.lstore 6, 2) := by decide +kernel
theorem dX10_drawn_70 : decode cX10_drawn 70 = .ok (.lload 6, 2) := by decide +kernel
theorem dX10_drawn_72 : decode cX10_drawn 72 = .ok (.lload 6, 2) := by decide +kernel
theorem dX10_drawn_74 : decode cX10_drawn 74 = .ok (.lmul, 1) := by decide +kernel
theorem dX10_drawn_75 : decode cX10_drawn 75 = .ok (.ldc2_w 311, 3) := by decide +kernel
theorem dX10_drawn_78 : decode cX10_drawn 78 = .ok (.lrem, 1) := by decide +kernel
theorem dX10_drawn_79 : decode cX10_drawn 79 = .ok (.l2i, 1) := by decide +kernel
theorem dX10_drawn_80 : decode cX10_drawn 80 = .ok (.istore 8, 2) := by decide +kernel
theorem dX10_drawn_82 : decode cX10_drawn 82 = .ok (.iload 8, 2) := by decide +kernel
theorem dX10_drawn_84 : decode cX10_drawn 84 = .ok (.bipush 8, 2) := by decide +kernel
theorem dX10_drawn_86 : decode cX10_drawn 86 = .ok (.idiv, 1) := by decide +kernel
theorem dX10_drawn_87 : decode cX10_drawn 87 = .ok (.aload_n 0, 1) := by decide +kernel
theorem dX10_drawn_88 : decode cX10_drawn 88 = .ok (.getfield 116, 3) := by decide +kernel
theorem dX10_drawn_91 : decode cX10_drawn 91 = .ok (.irem, 1) := by decide +kernel
theorem dX10_drawn_92 : decode cX10_drawn 92 = .ok (.istore 9, 2) := by decide +kernel
theorem dX10_drawn_94 : decode cX10_drawn 94 = .ok (.iload 8, 2) := by decide +kernel
theorem dX10_drawn_96 : decode cX10_drawn 96 = .ok (.aload_n 0, 1) := by decide +kernel
theorem dX10_drawn_97 : decode cX10_drawn 97 = .ok (.getfield 116, 3) := by decide +kernel
theorem dX10_drawn_100 : decode cX10_drawn 100 = .ok (.irem, 1) := by decide +kernel
theorem dX10_drawn_101 : decode cX10_drawn 101 = .ok (.istore 10, 2) := by decide +kernel
theorem dX10_drawn_103 : decode cX10_drawn 103 = .ok (.aload_n 0, 1) := by decide +kernel
theorem dX10_drawn_104 : decode cX10_drawn 104 = .ok (.iload 10, 2) := by decide +kernel
theorem dX10_drawn_106 : decode cX10_drawn 106 = .ok (.iload 9, 2) := by decide +kernel
theorem dX10_drawn_108 : decode cX10_drawn 108 = .ok (.invokevirtual 223, 3) := by decide +kernel
theorem dX10_drawn_111 : decode cX10_drawn 111 = .ok (.ifCond .eq 14, 3) := by decide +kernel
theorem dX10_drawn_114 : decode cX10_drawn 114 = .ok (.aload_n 0, 1) := by decide +kernel
theorem dX10_drawn_115 : decode cX10_drawn 115 = .ok (.iload 10, 2) := by decide +kernel
theorem dX10_drawn_117 : decode cX10_drawn 117 = .ok (.iload 9, 2) := by decide +kernel
theorem dX10_drawn_119 : decode cX10_drawn 119 = .ok (.invokevirtual 230, 3) := by decide +kernel
theorem dX10_drawn_122 : decode cX10_drawn 122 = .ok (.iinc 4 1, 3) := by decide +kernel
theorem dX10_drawn_125 : decode cX10_drawn 125 = .ok (.iinc 5 1, 3) := by decide +kernel
theorem dX10_drawn_128 : decode cX10_drawn 128 = .ok (.goto (-82), 3) := by decide +kernel
theorem dX10_drawn_131 : decode cX10_drawn 131 = .ok (.bipush (-4), 2) := by decide +kernel
theorem dX10_drawn_133 : decode cX10_drawn 133 = .ok (.istore 5, 2) := by decide +kernel
theorem dX10_drawn_135 : decode cX10_drawn 135 = .ok (.iconst 0, 1) := by decide +kernel
theorem dX10_drawn_136 : decode cX10_drawn 136 = .ok (.istore 6, 2) := by decide +kernel
theorem dX10_drawn_138 : decode cX10_drawn 138 = .ok (.iload 6, 2) := by decide +kernel
theorem dX10_drawn_140 : decode cX10_drawn 140 = .ok (.aload_n 0, 1) := by decide +kernel
theorem dX10_drawn_141 : decode cX10_drawn 141 = .ok (.getfield 116, 3) := by decide +kernel
theorem dX10_drawn_144 : decode cX10_drawn 144 = .ok (.if_icmp .ge 29, 3) := by decide +kernel
theorem dX10_drawn_147 : decode cX10_drawn 147 = .ok (.aload_n 0, 1) := by decide +kernel
theorem dX10_drawn_148 : decode cX10_drawn 148 = .ok (.getfield 61, 3) := by decide +kernel
theorem dX10_drawn_151 : decode cX10_drawn 151 = .ok (.iload 6, 2) := by decide +kernel
theorem dX10_drawn_153 : decode cX10_drawn 153 = .ok (.iaload, 1) := by decide +kernel
theorem dX10_drawn_154 : decode cX10_drawn 154 = .ok (.iload_n 3, 1) := by decide +kernel
theorem dX10_drawn_155 : decode cX10_drawn 155 = .ok (.if_icmp .ne 8, 3) := by decide +kernel
theorem dX10_drawn_158 : decode cX10_drawn 158 = .ok (.iload 6, 2) := by decide +kernel
theorem dX10_drawn_160 : decode cX10_drawn 160 = .ok (.goto 5, 3) := by decide +kernel
theorem dX10_drawn_163 : decode cX10_drawn 163 = .ok (.iload 5, 2) := by decide +kernel
theorem dX10_drawn_165 : decode cX10_drawn 165 = .ok (.istore 5, 2) := by decide +kernel
theorem dX10_drawn_167 : decode cX10_drawn 167 = .ok (.iinc 6 1, 3) := by decide +kernel
theorem dX10_drawn_170 : decode cX10_drawn 170 = .ok (.goto (-32), 3) := by decide +kernel
theorem dX10_drawn_173 : decode cX10_drawn 173 = .ok (.iload_n 3, 1) := by decide +kernel
theorem dX10_drawn_174 : decode cX10_drawn 174 = .ok (.iconst (-1), 1) := by decide +kernel
theorem dX10_drawn_175 : decode cX10_drawn 175 = .ok (.if_icmp .ne 8, 3) := by decide +kernel
theorem dX10_drawn_178 : decode cX10_drawn 178 = .ok (.iload 4, 2) := by decide +kernel
theorem dX10_drawn_180 : decode cX10_drawn 180 = .ok (.goto 5, 3) := by decide +kernel
theorem dX10_drawn_183 : decode cX10_drawn 183 = .ok (.iload 5, 2) := by decide +kernel
theorem dX10_drawn_185 : decode cX10_drawn 185 = .ok (.ireturn, 1) := by decide +kernel
theorem dX10_keep_0 : decode cX10_keep 0 = .ok (.aload_n 0, 1) := by decide +kernel
theorem dX10_keep_1 : decode cX10_keep 1 = .ok (.getfield 189, 3) := by decide +kernel
theorem dX10_keep_4 : decode cX10_keep 4 = .ok (.iconst 2, 1) := by decide +kernel
theorem dX10_keep_5 : decode cX10_keep 5 = .ok (.if_icmp .ne 6, 3) := by decide +kernel
theorem dX10_keep_8 : decode cX10_keep 8 = .ok (.bipush (-3), 2) := by decide +kernel
theorem dX10_keep_10 : decode cX10_keep 10 = .ok (.ireturn, 1) := by decide +kernel
theorem dX10_keep_11 : decode cX10_keep 11 = .ok (.iconst 0, 1) := by decide +kernel
theorem dX10_keep_12 : decode cX10_keep 12 = .ok (.istore_n 1, 1) := by decide +kernel
theorem dX10_keep_13 : decode cX10_keep 13 = .ok (.iload_n 1, 1) := by decide +kernel
theorem dX10_keep_14 : decode cX10_keep 14 = .ok (.aload_n 0, 1) := by decide +kernel
theorem dX10_keep_15 : decode cX10_keep 15 = .ok (.getfield 116, 3) := by decide +kernel
theorem dX10_keep_18 : decode cX10_keep 18 = .ok (.if_icmp .ge 49, 3) := by decide +kernel
theorem dX10_keep_21 : decode cX10_keep 21 = .ok (.aload_n 0, 1) := by decide +kernel
theorem dX10_keep_22 : decode cX10_keep 22 = .ok (.getfield 37, 3) := by decide +kernel
theorem dX10_keep_25 : decode cX10_keep 25 = .ok (.bipush 6, 2) := by decide +kernel
theorem dX10_keep_27 : decode cX10_keep 27 = .ok (.aload_n 0, 1) := by decide +kernel
theorem dX10_keep_28 : decode cX10_keep 28 = .ok (.getfield 189, 3) := by decide +kernel
theorem dX10_keep_31 : decode cX10_keep 31 = .ok (.imul, 1) := by decide +kernel
theorem dX10_keep_32 : decode cX10_keep 32 = .ok (.iload_n 1, 1) := by decide +kernel
theorem dX10_keep_33 : decode cX10_keep 33 = .ok (.iadd, 1) := by decide +kernel
theorem dX10_keep_34 : decode cX10_keep 34 = .ok (.aload_n 0, 1) := by decide +kernel
theorem dX10_keep_35 : decode cX10_keep 35 = .ok (.getfield 22, 3) := by decide +kernel
theorem dX10_keep_38 : decode cX10_keep 38 = .ok (.iload_n 1, 1) := by decide +kernel
theorem dX10_keep_39 : decode cX10_keep 39 = .ok (.iaload, 1) := by decide +kernel
theorem dX10_keep_40 : decode cX10_keep 40 = .ok (.iastore, 1) := by decide +kernel
theorem dX10_keep_41 : decode cX10_keep 41 = .ok (.aload_n 0, 1) := by decide +kernel
theorem dX10_keep_42 : decode cX10_keep 42 = .ok (.getfield 40, 3) := by decide +kernel
theorem dX10_keep_45 : decode cX10_keep 45 = .ok (.bipush 6, 2) := by decide +kernel
theorem dX10_keep_47 : decode cX10_keep 47 = .ok (.aload_n 0, 1) := by decide +kernel
theorem dX10_keep_48 : decode cX10_keep 48 = .ok (.getfield 189, 3) := by decide +kernel
theorem dX10_keep_51 : decode cX10_keep 51 = .ok (.imul, 1) := by decide +kernel
theorem dX10_keep_52 : decode cX10_keep 52 = .ok (.iload_n 1, 1) := by decide +kernel
theorem dX10_keep_53 : decode cX10_keep 53 = .ok (.iadd, 1) := by decide +kernel
theorem dX10_keep_54 : decode cX10_keep 54 = .ok (.aload_n 0, 1) := by decide +kernel
theorem dX10_keep_55 : decode cX10_keep 55 = .ok (.getfield 25, 3) := by decide +kernel
theorem dX10_keep_58 : decode cX10_keep 58 = .ok (.iload_n 1, 1) := by decide +kernel
theorem dX10_keep_59 : decode cX10_keep 59 = .ok (.iaload, 1) := by decide +kernel
theorem dX10_keep_60 : decode cX10_keep 60 = .ok (.iastore, 1) := by decide +kernel
theorem dX10_keep_61 : decode cX10_keep 61 = .ok (.iinc 1 1, 3) := by decide +kernel
theorem dX10_keep_64 : decode cX10_keep 64 = .ok (.goto (-51), 3) := by decide +kernel
theorem dX10_keep_67 : decode cX10_keep 67 = .ok (.aload_n 0, 1) := by decide +kernel
theorem dX10_keep_68 : decode cX10_keep 68 = .ok (.getfield 43, 3) := by decide +kernel
theorem dX10_keep_71 : decode cX10_keep 71 = .ok (.aload_n 0, 1) := by decide +kernel
theorem dX10_keep_72 : decode cX10_keep 72 = .ok (.getfield 189, 3) := by decide +kernel
theorem dX10_keep_75 : decode cX10_keep 75 = .ok (.aload_n 0, 1) := by decide +kernel
theorem dX10_keep_76 : decode cX10_keep 76 = .ok (.getfield 183, 3) := by decide +kernel
theorem dX10_keep_79 : decode cX10_keep 79 = .ok (.iastore, 1) := by decide +kernel
theorem dX10_keep_80 : decode cX10_keep 80 = .ok (.aload_n 0, 1) := by decide +kernel
theorem dX10_keep_81 : decode cX10_keep 81 = .ok (.dup, 1) := by decide +kernel
theorem dX10_keep_82 : decode cX10_keep 82 = .ok (.getfield 189, 3) := by decide +kernel
theorem dX10_keep_85 : decode cX10_keep 85 = .ok (.iconst 1, 1) := by decide +kernel
theorem dX10_keep_86 : decode cX10_keep 86 = .ok (.iadd, 1) := by decide +kernel
theorem dX10_keep_87 : decode cX10_keep 87 = .ok (.putfield 189, 3) := by decide +kernel
theorem dX10_keep_90 : decode cX10_keep 90 = .ok (.aload_n 0, 1) := by decide +kernel
theorem dX10_keep_91 : decode cX10_keep 91 = .ok (.getfield 189, 3) := by decide +kernel
theorem dX10_keep_94 : decode cX10_keep 94 = .ok (.ireturn, 1) := by decide +kernel
theorem dX10_back_0 : decode cX10_back 0 = .ok (.aload_n 0, 1) := by decide +kernel
theorem dX10_back_1 : decode cX10_back 1 = .ok (.getfield 189, 3) := by decide +kernel
theorem dX10_back_4 : decode cX10_back 4 = .ok (.ifCond .ne 6, 3) := by decide +kernel
theorem dX10_back_7 : decode cX10_back 7 = .ok (.bipush (-2), 2) := by decide +kernel
theorem dX10_back_9 : decode cX10_back 9 = .ok (.ireturn, 1) := by decide +kernel
theorem dX10_back_10 : decode cX10_back 10 = .ok (.aload_n 0, 1) := by decide +kernel
theorem dX10_back_11 : decode cX10_back 11 = .ok (.dup, 1) := by decide +kernel
theorem dX10_back_12 : decode cX10_back 12 = .ok (.getfield 189, 3) := by decide +kernel
theorem dX10_back_15 : decode cX10_back 15 = .ok (.iconst 1, 1) := by decide +kernel
theorem dX10_back_16 : decode cX10_back 16 = .ok (.isub, 1) := by decide +kernel
theorem dX10_back_17 : decode cX10_back 17 = .ok (.putfield 189, 3) := by decide +kernel
theorem dX10_back_20 : decode cX10_back 20 = .ok (.iconst 0, 1) := by decide +kernel
theorem dX10_back_21 : decode cX10_back 21 = .ok (.istore_n 1, 1) := by decide +kernel
theorem dX10_back_22 : decode cX10_back 22 = .ok (.iload_n 1, 1) := by decide +kernel
theorem dX10_back_23 : decode cX10_back 23 = .ok (.aload_n 0, 1) := by decide +kernel
theorem dX10_back_24 : decode cX10_back 24 = .ok (.getfield 116, 3) := by decide +kernel
theorem dX10_back_27 : decode cX10_back 27 = .ok (.if_icmp .ge 49, 3) := by decide +kernel
theorem dX10_back_30 : decode cX10_back 30 = .ok (.aload_n 0, 1) := by decide +kernel
theorem dX10_back_31 : decode cX10_back 31 = .ok (.getfield 22, 3) := by decide +kernel
theorem dX10_back_34 : decode cX10_back 34 = .ok (.iload_n 1, 1) := by decide +kernel
theorem dX10_back_35 : decode cX10_back 35 = .ok (.aload_n 0, 1) := by decide +kernel
theorem dX10_back_36 : decode cX10_back 36 = .ok (.getfield 37, 3) := by decide +kernel
theorem dX10_back_39 : decode cX10_back 39 = .ok (.bipush 6, 2) := by decide +kernel
theorem dX10_back_41 : decode cX10_back 41 = .ok (.aload_n 0, 1) := by decide +kernel
theorem dX10_back_42 : decode cX10_back 42 = .ok (.getfield 189, 3) := by decide +kernel
theorem dX10_back_45 : decode cX10_back 45 = .ok (.imul, 1) := by decide +kernel
theorem dX10_back_46 : decode cX10_back 46 = .ok (.iload_n 1, 1) := by decide +kernel
theorem dX10_back_47 : decode cX10_back 47 = .ok (.iadd, 1) := by decide +kernel
theorem dX10_back_48 : decode cX10_back 48 = .ok (.iaload, 1) := by decide +kernel
theorem dX10_back_49 : decode cX10_back 49 = .ok (.iastore, 1) := by decide +kernel
theorem dX10_back_50 : decode cX10_back 50 = .ok (.aload_n 0, 1) := by decide +kernel
theorem dX10_back_51 : decode cX10_back 51 = .ok (.getfield 25, 3) := by decide +kernel
theorem dX10_back_54 : decode cX10_back 54 = .ok (.iload_n 1, 1) := by decide +kernel
theorem dX10_back_55 : decode cX10_back 55 = .ok (.aload_n 0, 1) := by decide +kernel
theorem dX10_back_56 : decode cX10_back 56 = .ok (.getfield 40, 3) := by decide +kernel
theorem dX10_back_59 : decode cX10_back 59 = .ok (.bipush 6, 2) := by decide +kernel
theorem dX10_back_61 : decode cX10_back 61 = .ok (.aload_n 0, 1) := by decide +kernel
theorem dX10_back_62 : decode cX10_back 62 = .ok (.getfield 189, 3) := by decide +kernel
theorem dX10_back_65 : decode cX10_back 65 = .ok (.imul, 1) := by decide +kernel
theorem dX10_back_66 : decode cX10_back 66 = .ok (.iload_n 1, 1) := by decide +kernel
theorem dX10_back_67 : decode cX10_back 67 = .ok (.iadd, 1) := by decide +kernel
theorem dX10_back_68 : decode cX10_back 68 = .ok (.iaload, 1) := by decide +kernel
theorem dX10_back_69 : decode cX10_back 69 = .ok (.iastore, 1) := by decide +kernel
theorem dX10_back_70 : decode cX10_back 70 = .ok (.iinc 1 1, 3) := by decide +kernel
theorem dX10_back_73 : decode cX10_back 73 = .ok (.goto (-51), 3) := by decide +kernel
theorem dX10_back_76 : decode cX10_back 76 = .ok (.aload_n 0, 1) := by decide +kernel
theorem dX10_back_77 : decode cX10_back 77 = .ok (.aload_n 0, 1) := by decide +kernel
theorem dX10_back_78 : decode cX10_back 78 = .ok (.getfield 43, 3) := by decide +kernel
theorem dX10_back_81 : decode cX10_back 81 = .ok (.aload_n 0, 1) := by decide +kernel
theorem dX10_back_82 : decode cX10_back 82 = .ok (.getfield 189, 3) := by decide +kernel
theorem dX10_back_85 : decode cX10_back 85 = .ok (.iaload, 1) := by decide +kernel
theorem dX10_back_86 : decode cX10_back 86 = .ok (.putfield 183, 3) := by decide +kernel
theorem dX10_back_89 : decode cX10_back 89 = .ok (.aload_n 0, 1) := by decide +kernel
theorem dX10_back_90 : decode cX10_back 90 = .ok (.iconst 0, 1) := by decide +kernel
theorem dX10_back_91 : decode cX10_back 91 = .ok (.putfield 186, 3) := by decide +kernel
theorem dX10_back_94 : decode cX10_back 94 = .ok (.aload_n 0, 1) := by decide +kernel
theorem dX10_back_95 : decode cX10_back 95 = .ok (.getfield 189, 3) := by decide +kernel
theorem dX10_back_98 : decode cX10_back 98 = .ok (.ireturn, 1) := by decide +kernel
theorem dX10_count_0 : decode cX10_count 0 = .ok (.iload_n 1, 1) := by decide +kernel
theorem dX10_count_1 : decode cX10_count 1 = .ok (.tableswitch 86 0 6 #[43, 48, 53, 58, 63, 68, 73], 43) := by decide +kernel
theorem dX10_count_44 : decode cX10_count 44 = .ok (.aload_n 0, 1) := by decide +kernel
theorem dX10_count_45 : decode cX10_count 45 = .ok (.getfield 116, 3) := by decide +kernel
theorem dX10_count_48 : decode cX10_count 48 = .ok (.ireturn, 1) := by decide +kernel
theorem dX10_count_49 : decode cX10_count 49 = .ok (.aload_n 0, 1) := by decide +kernel
theorem dX10_count_50 : decode cX10_count 50 = .ok (.getfield 123, 3) := by decide +kernel
theorem dX10_count_53 : decode cX10_count 53 = .ok (.ireturn, 1) := by decide +kernel
theorem dX10_count_54 : decode cX10_count 54 = .ok (.aload_n 0, 1) := by decide +kernel
theorem dX10_count_55 : decode cX10_count 55 = .ok (.getfield 183, 3) := by decide +kernel
theorem dX10_count_58 : decode cX10_count 58 = .ok (.ireturn, 1) := by decide +kernel
theorem dX10_count_59 : decode cX10_count 59 = .ok (.aload_n 0, 1) := by decide +kernel
theorem dX10_count_60 : decode cX10_count 60 = .ok (.getfield 186, 3) := by decide +kernel
theorem dX10_count_63 : decode cX10_count 63 = .ok (.ireturn, 1) := by decide +kernel
theorem dX10_count_64 : decode cX10_count 64 = .ok (.aload_n 0, 1) := by decide +kernel
theorem dX10_count_65 : decode cX10_count 65 = .ok (.getfield 189, 3) := by decide +kernel
theorem dX10_count_68 : decode cX10_count 68 = .ok (.ireturn, 1) := by decide +kernel
theorem dX10_count_69 : decode cX10_count 69 = .ok (.aload_n 0, 1) := by decide +kernel
theorem dX10_count_70 : decode cX10_count 70 = .ok (.getfield 126, 3) := by decide +kernel
theorem dX10_count_73 : decode cX10_count 73 = .ok (.ireturn, 1) := by decide +kernel
theorem dX10_count_74 : decode cX10_count 74 = .ok (.aload_n 0, 1) := by decide +kernel
theorem dX10_count_75 : decode cX10_count 75 = .ok (.getfield 173, 3) := by decide +kernel
theorem dX10_count_78 : decode cX10_count 78 = .ok (.ifCond .eq 7, 3) := by decide +kernel
theorem dX10_count_81 : decode cX10_count 81 = .ok (.iconst 1, 1) := by decide +kernel
theorem dX10_count_82 : decode cX10_count 82 = .ok (.goto 4, 3) := by decide +kernel
theorem dX10_count_85 : decode cX10_count 85 = .ok (.iconst 0, 1) := by decide +kernel
theorem dX10_count_86 : decode cX10_count 86 = .ok (.ireturn, 1) := by decide +kernel
theorem dX10_count_87 : decode cX10_count 87 = .ok (.iconst (-1), 1) := by decide +kernel
theorem dX10_count_88 : decode cX10_count 88 = .ok (.ireturn, 1) := by decide +kernel
theorem dJ13_bitCount_95d88_0 : decode cJ13_bitCount_95d88 0 = .ok (.lload_n 0, 1) := by decide +kernel
theorem dJ13_bitCount_95d88_1 : decode cJ13_bitCount_95d88 1 = .ok (.lload_n 0, 1) := by decide +kernel
theorem dJ13_bitCount_95d88_2 : decode cJ13_bitCount_95d88 2 = .ok (.iconst 1, 1) := by decide +kernel
theorem dJ13_bitCount_95d88_3 : decode cJ13_bitCount_95d88 3 = .ok (.lushr, 1) := by decide +kernel
theorem dJ13_bitCount_95d88_4 : decode cJ13_bitCount_95d88 4 = .ok (.ldc2_w 314, 3) := by decide +kernel
theorem dJ13_bitCount_95d88_7 : decode cJ13_bitCount_95d88 7 = .ok (.land, 1) := by decide +kernel
theorem dJ13_bitCount_95d88_8 : decode cJ13_bitCount_95d88 8 = .ok (.lsub, 1) := by decide +kernel
theorem dJ13_bitCount_95d88_9 : decode cJ13_bitCount_95d88 9 = .ok (.lstore_n 0, 1) := by decide +kernel
theorem dJ13_bitCount_95d88_10 : decode cJ13_bitCount_95d88 10 = .ok (.lload_n 0, 1) := by decide +kernel
theorem dJ13_bitCount_95d88_11 : decode cJ13_bitCount_95d88 11 = .ok (.ldc2_w 316, 3) := by decide +kernel
theorem dJ13_bitCount_95d88_14 : decode cJ13_bitCount_95d88 14 = .ok (.land, 1) := by decide +kernel
theorem dJ13_bitCount_95d88_15 : decode cJ13_bitCount_95d88 15 = .ok (.lload_n 0, 1) := by decide +kernel
theorem dJ13_bitCount_95d88_16 : decode cJ13_bitCount_95d88 16 = .ok (.iconst 2, 1) := by decide +kernel
theorem dJ13_bitCount_95d88_17 : decode cJ13_bitCount_95d88 17 = .ok (.lushr, 1) := by decide +kernel
theorem dJ13_bitCount_95d88_18 : decode cJ13_bitCount_95d88 18 = .ok (.ldc2_w 316, 3) := by decide +kernel
theorem dJ13_bitCount_95d88_21 : decode cJ13_bitCount_95d88 21 = .ok (.land, 1) := by decide +kernel
theorem dJ13_bitCount_95d88_22 : decode cJ13_bitCount_95d88 22 = .ok (.ladd, 1) := by decide +kernel
theorem dJ13_bitCount_95d88_23 : decode cJ13_bitCount_95d88 23 = .ok (.lstore_n 0, 1) := by decide +kernel
theorem dJ13_bitCount_95d88_24 : decode cJ13_bitCount_95d88 24 = .ok (.lload_n 0, 1) := by decide +kernel
theorem dJ13_bitCount_95d88_25 : decode cJ13_bitCount_95d88 25 = .ok (.lload_n 0, 1) := by decide +kernel
theorem dJ13_bitCount_95d88_26 : decode cJ13_bitCount_95d88 26 = .ok (.iconst 4, 1) := by decide +kernel
theorem dJ13_bitCount_95d88_27 : decode cJ13_bitCount_95d88 27 = .ok (.lushr, 1) := by decide +kernel
theorem dJ13_bitCount_95d88_28 : decode cJ13_bitCount_95d88 28 = .ok (.ladd, 1) := by decide +kernel
theorem dJ13_bitCount_95d88_29 : decode cJ13_bitCount_95d88 29 = .ok (.ldc2_w 318, 3) := by decide +kernel
theorem dJ13_bitCount_95d88_32 : decode cJ13_bitCount_95d88 32 = .ok (.land, 1) := by decide +kernel
theorem dJ13_bitCount_95d88_33 : decode cJ13_bitCount_95d88 33 = .ok (.lstore_n 0, 1) := by decide +kernel
theorem dJ13_bitCount_95d88_34 : decode cJ13_bitCount_95d88 34 = .ok (.lload_n 0, 1) := by decide +kernel
theorem dJ13_bitCount_95d88_35 : decode cJ13_bitCount_95d88 35 = .ok (.lload_n 0, 1) := by decide +kernel
theorem dJ13_bitCount_95d88_36 : decode cJ13_bitCount_95d88 36 = .ok (.bipush 8, 2) := by decide +kernel
theorem dJ13_bitCount_95d88_38 : decode cJ13_bitCount_95d88 38 = .ok (.lushr, 1) := by decide +kernel
theorem dJ13_bitCount_95d88_39 : decode cJ13_bitCount_95d88 39 = .ok (.ladd, 1) := by decide +kernel
theorem dJ13_bitCount_95d88_40 : decode cJ13_bitCount_95d88 40 = .ok (.lstore_n 0, 1) := by decide +kernel
theorem dJ13_bitCount_95d88_41 : decode cJ13_bitCount_95d88 41 = .ok (.lload_n 0, 1) := by decide +kernel
theorem dJ13_bitCount_95d88_42 : decode cJ13_bitCount_95d88 42 = .ok (.lload_n 0, 1) := by decide +kernel
theorem dJ13_bitCount_95d88_43 : decode cJ13_bitCount_95d88 43 = .ok (.bipush 16, 2) := by decide +kernel
theorem dJ13_bitCount_95d88_45 : decode cJ13_bitCount_95d88 45 = .ok (.lushr, 1) := by decide +kernel
theorem dJ13_bitCount_95d88_46 : decode cJ13_bitCount_95d88 46 = .ok (.ladd, 1) := by decide +kernel
theorem dJ13_bitCount_95d88_47 : decode cJ13_bitCount_95d88 47 = .ok (.lstore_n 0, 1) := by decide +kernel
theorem dJ13_bitCount_95d88_48 : decode cJ13_bitCount_95d88 48 = .ok (.lload_n 0, 1) := by decide +kernel
theorem dJ13_bitCount_95d88_49 : decode cJ13_bitCount_95d88 49 = .ok (.lload_n 0, 1) := by decide +kernel
theorem dJ13_bitCount_95d88_50 : decode cJ13_bitCount_95d88 50 = .ok (.bipush 32, 2) := by decide +kernel
theorem dJ13_bitCount_95d88_52 : decode cJ13_bitCount_95d88 52 = .ok (.lushr, 1) := by decide +kernel
theorem dJ13_bitCount_95d88_53 : decode cJ13_bitCount_95d88 53 = .ok (.ladd, 1) := by decide +kernel
theorem dJ13_bitCount_95d88_54 : decode cJ13_bitCount_95d88 54 = .ok (.lstore_n 0, 1) := by decide +kernel
theorem dJ13_bitCount_95d88_55 : decode cJ13_bitCount_95d88 55 = .ok (.lload_n 0, 1) := by decide +kernel
theorem dJ13_bitCount_95d88_56 : decode cJ13_bitCount_95d88 56 = .ok (.l2i, 1) := by decide +kernel
theorem dJ13_bitCount_95d88_57 : decode cJ13_bitCount_95d88 57 = .ok (.bipush 127, 2) := by decide +kernel
theorem dJ13_bitCount_95d88_59 : decode cJ13_bitCount_95d88 59 = .ok (.iand, 1) := by decide +kernel
theorem dJ13_bitCount_95d88_60 : decode cJ13_bitCount_95d88 60 = .ok (.ireturn, 1) := by decide +kernel
theorem dJ9_abs_0f7a4_0 : decode cJ9_abs_0f7a4 0 = .ok (.iload_n 0, 1) := by decide +kernel
theorem dJ9_abs_0f7a4_1 : decode cJ9_abs_0f7a4 1 = .ok (.ifCond .ge 8, 3) := by decide +kernel
theorem dJ9_abs_0f7a4_4 : decode cJ9_abs_0f7a4 4 = .ok (.iload_n 0, 1) := by decide +kernel
theorem dJ9_abs_0f7a4_5 : decode cJ9_abs_0f7a4 5 = .ok (.ineg, 1) := by decide +kernel
theorem dJ9_abs_0f7a4_6 : decode cJ9_abs_0f7a4 6 = .ok (.goto 4, 3) := by decide +kernel
theorem dJ9_abs_0f7a4_9 : decode cJ9_abs_0f7a4 9 = .ok (.iload_n 0, 1) := by decide +kernel
theorem dJ9_abs_0f7a4_10 : decode cJ9_abs_0f7a4 10 = .ok (.ireturn, 1) := by decide +kernel
theorem dJ9_max_7cf53_0 : decode cJ9_max_7cf53 0 = .ok (.iload_n 0, 1) := by decide +kernel
theorem dJ9_max_7cf53_1 : decode cJ9_max_7cf53 1 = .ok (.iload_n 1, 1) := by decide +kernel
theorem dJ9_max_7cf53_2 : decode cJ9_max_7cf53 2 = .ok (.if_icmp .lt 7, 3) := by decide +kernel
theorem dJ9_max_7cf53_5 : decode cJ9_max_7cf53 5 = .ok (.iload_n 0, 1) := by decide +kernel
theorem dJ9_max_7cf53_6 : decode cJ9_max_7cf53 6 = .ok (.goto 4, 3) := by decide +kernel
theorem dJ9_max_7cf53_9 : decode cJ9_max_7cf53 9 = .ok (.iload_n 1, 1) := by decide +kernel
theorem dJ9_max_7cf53_10 : decode cJ9_max_7cf53 10 = .ok (.ireturn, 1) := by decide +kernel
theorem dJ9_min_7cf53_0 : decode cJ9_min_7cf53 0 = .ok (.iload_n 0, 1) := by decide +kernel
theorem dJ9_min_7cf53_1 : decode cJ9_min_7cf53 1 = .ok (.iload_n 1, 1) := by decide +kernel
theorem dJ9_min_7cf53_2 : decode cJ9_min_7cf53 2 = .ok (.if_icmp .gt 7, 3) := by decide +kernel
theorem dJ9_min_7cf53_5 : decode cJ9_min_7cf53 5 = .ok (.iload_n 0, 1) := by decide +kernel
theorem dJ9_min_7cf53_6 : decode cJ9_min_7cf53 6 = .ok (.goto 4, 3) := by decide +kernel
theorem dJ9_min_7cf53_9 : decode cJ9_min_7cf53 9 = .ok (.iload_n 1, 1) := by decide +kernel
theorem dJ9_min_7cf53_10 : decode cJ9_min_7cf53 10 = .ok (.ireturn, 1) := by decide +kernel
theorem dJ0_length_8abf5_0 : decode cJ0_length_8abf5 0 = .ok (.aload_n 0, 1) := by decide +kernel
theorem dJ0_length_8abf5_1 : decode cJ0_length_8abf5 1 = .ok (.getfield 9, 3) := by decide +kernel
theorem dJ0_length_8abf5_4 : decode cJ0_length_8abf5 4 = .ok (.arraylength, 1) := by decide +kernel
theorem dJ0_length_8abf5_5 : decode cJ0_length_8abf5 5 = .ok (.aload_n 0, 1) := by decide +kernel
theorem dJ0_length_8abf5_6 : decode cJ0_length_8abf5 6 = .ok (.invokevirtual 335, 3) := by decide +kernel
theorem dJ0_length_8abf5_9 : decode cJ0_length_8abf5 9 = .ok (.ishr, 1) := by decide +kernel
theorem dJ0_length_8abf5_10 : decode cJ0_length_8abf5 10 = .ok (.ireturn, 1) := by decide +kernel
theorem dJ0_charAt_5068e_0 : decode cJ0_charAt_5068e 0 = .ok (.aload_n 0, 1) := by decide +kernel
theorem dJ0_charAt_5068e_1 : decode cJ0_charAt_5068e 1 = .ok (.invokevirtual 492, 3) := by decide +kernel
theorem dJ0_charAt_5068e_4 : decode cJ0_charAt_5068e 4 = .ok (.ifCond .eq 12, 3) := by decide +kernel
theorem dJ0_charAt_5068e_7 : decode cJ0_charAt_5068e 7 = .ok (.aload_n 0, 1) := by decide +kernel
theorem dJ0_charAt_5068e_8 : decode cJ0_charAt_5068e 8 = .ok (.getfield 9, 3) := by decide +kernel
theorem dJ0_charAt_5068e_11 : decode cJ0_charAt_5068e 11 = .ok (.iload_n 1, 1) := by decide +kernel
theorem dJ0_charAt_5068e_12 : decode cJ0_charAt_5068e 12 = .ok (.invokestatic 495, 3) := by decide +kernel
theorem dJ0_charAt_5068e_15 : decode cJ0_charAt_5068e 15 = .ok (.ireturn, 1) := by decide +kernel
theorem dJ0_charAt_5068e_16 : decode cJ0_charAt_5068e 16 = .ok (.aload_n 0, 1) := by decide +kernel
theorem dJ0_charAt_5068e_17 : decode cJ0_charAt_5068e 17 = .ok (.getfield 9, 3) := by decide +kernel
theorem dJ0_charAt_5068e_20 : decode cJ0_charAt_5068e 20 = .ok (.iload_n 1, 1) := by decide +kernel
theorem dJ0_charAt_5068e_21 : decode cJ0_charAt_5068e 21 = .ok (.invokestatic 498, 3) := by decide +kernel
theorem dJ0_charAt_5068e_24 : decode cJ0_charAt_5068e 24 = .ok (.ireturn, 1) := by decide +kernel
theorem dJ0_coder_7d493_0 : decode cJ0_coder_7d493 0 = .ok (.getstatic 38, 3) := by decide +kernel
theorem dJ0_coder_7d493_3 : decode cJ0_coder_7d493 3 = .ok (.ifCond .eq 10, 3) := by decide +kernel
theorem dJ0_coder_7d493_6 : decode cJ0_coder_7d493 6 = .ok (.aload_n 0, 1) := by decide +kernel
theorem dJ0_coder_7d493_7 : decode cJ0_coder_7d493 7 = .ok (.getfield 15, 3) := by decide +kernel
theorem dJ0_coder_7d493_10 : decode cJ0_coder_7d493 10 = .ok (.goto 4, 3) := by decide +kernel
theorem dJ0_coder_7d493_13 : decode cJ0_coder_7d493 13 = .ok (.iconst 1, 1) := by decide +kernel
theorem dJ0_coder_7d493_14 : decode cJ0_coder_7d493 14 = .ok (.ireturn, 1) := by decide +kernel
theorem dJ0_isLatin1_aae02_0 : decode cJ0_isLatin1_aae02 0 = .ok (.getstatic 38, 3) := by decide +kernel
theorem dJ0_isLatin1_aae02_3 : decode cJ0_isLatin1_aae02 3 = .ok (.ifCond .eq 14, 3) := by decide +kernel
theorem dJ0_isLatin1_aae02_6 : decode cJ0_isLatin1_aae02 6 = .ok (.aload_n 0, 1) := by decide +kernel
theorem dJ0_isLatin1_aae02_7 : decode cJ0_isLatin1_aae02 7 = .ok (.getfield 15, 3) := by decide +kernel
theorem dJ0_isLatin1_aae02_10 : decode cJ0_isLatin1_aae02 10 = .ok (.ifCond .ne 7, 3) := by decide +kernel
theorem dJ0_isLatin1_aae02_13 : decode cJ0_isLatin1_aae02 13 = .ok (.iconst 1, 1) := by decide +kernel
theorem dJ0_isLatin1_aae02_14 : decode cJ0_isLatin1_aae02 14 = .ok (.goto 4, 3) := by decide +kernel
theorem dJ0_isLatin1_aae02_17 : decode cJ0_isLatin1_aae02 17 = .ok (.iconst 0, 1) := by decide +kernel
theorem dJ0_isLatin1_aae02_18 : decode cJ0_isLatin1_aae02 18 = .ok (.ireturn, 1) := by decide +kernel
theorem dJ0_checkIndex_df160_0 : decode cJ0_checkIndex_df160 0 = .ok (.iload_n 0, 1) := by decide +kernel
theorem dJ0_checkIndex_df160_1 : decode cJ0_checkIndex_df160 1 = .ok (.iload_n 1, 1) := by decide +kernel
theorem dJ0_checkIndex_df160_2 : decode cJ0_checkIndex_df160 2 = .ok (.getstatic 1053, 3) := by decide +kernel
theorem dJ0_checkIndex_df160_5 : decode cJ0_checkIndex_df160 5 = .ok (.invokestatic 1059, 3) := by decide +kernel
theorem dJ0_checkIndex_df160_8 : decode cJ0_checkIndex_df160 8 = .ok (.pop, 1) := by decide +kernel
theorem dJ0_checkIndex_df160_9 : decode cJ0_checkIndex_df160 9 = .ok (.return_, 1) := by decide +kernel
theorem dJ1_charAt_3b067_0 : decode cJ1_charAt_3b067 0 = .ok (.iload_n 1, 1) := by decide +kernel
theorem dJ1_charAt_3b067_1 : decode cJ1_charAt_3b067 1 = .ok (.aload_n 0, 1) := by decide +kernel
theorem dJ1_charAt_3b067_2 : decode cJ1_charAt_3b067 2 = .ok (.arraylength, 1) := by decide +kernel
theorem dJ1_charAt_3b067_3 : decode cJ1_charAt_3b067 3 = .ok (.invokestatic 9, 3) := by decide +kernel
theorem dJ1_charAt_3b067_6 : decode cJ1_charAt_3b067 6 = .ok (.aload_n 0, 1) := by decide +kernel
theorem dJ1_charAt_3b067_7 : decode cJ1_charAt_3b067 7 = .ok (.iload_n 1, 1) := by decide +kernel
theorem dJ1_charAt_3b067_8 : decode cJ1_charAt_3b067 8 = .ok (.baload, 1) := by decide +kernel
theorem dJ1_charAt_3b067_9 : decode cJ1_charAt_3b067 9 = .ok (.sipush 255, 3) := by decide +kernel
theorem dJ1_charAt_3b067_12 : decode cJ1_charAt_3b067 12 = .ok (.iand, 1) := by decide +kernel
theorem dJ1_charAt_3b067_13 : decode cJ1_charAt_3b067 13 = .ok (.i2c, 1) := by decide +kernel
theorem dJ1_charAt_3b067_14 : decode cJ1_charAt_3b067 14 = .ok (.ireturn, 1) := by decide +kernel
theorem dJ2_getChar_3b067_0 : decode cJ2_getChar_3b067 0 = .ok (.getstatic 44, 3) := by decide +kernel
theorem dJ2_getChar_3b067_3 : decode cJ2_getChar_3b067 3 = .ok (.ifCond .ne 25, 3) := by decide +kernel
theorem dJ2_getChar_3b067_6 : decode cJ2_getChar_3b067 6 = .ok (.iload_n 1, 1) := by decide +kernel
theorem dJ2_getChar_3b067_7 : decode cJ2_getChar_3b067 7 = .ok (.ifCond .lt 11, 3) := by decide +kernel
theorem dJ2_getChar_3b067_10 : decode cJ2_getChar_3b067 10 = .ok (.iload_n 1, 1) := by decide +kernel
theorem dJ2_getChar_3b067_11 : decode cJ2_getChar_3b067 11 = .ok (.aload_n 0, 1) := by decide +kernel
theorem dJ2_getChar_3b067_12 : decode cJ2_getChar_3b067 12 = .ok (.invokestatic 48, 3) := by decide +kernel
theorem dJ2_getChar_3b067_15 : decode cJ2_getChar_3b067 15 = .ok (.if_icmp .lt 13, 3) := by decide +kernel
theorem dJ2_getChar_3b067_18 : decode cJ2_getChar_3b067 18 = .ok (.new 52, 3) := by decide +kernel
theorem dJ2_getChar_3b067_21 : decode cJ2_getChar_3b067 21 = .ok (.dup, 1) := by decide +kernel
theorem dJ2_getChar_3b067_22 : decode cJ2_getChar_3b067 22 = .ok (.ldc 54, 2) := by decide +kernel
theorem dJ2_getChar_3b067_24 : decode cJ2_getChar_3b067 24 = .ok (.invokespecial 56, 3) := by decide +kernel
theorem dJ2_getChar_3b067_27 : decode cJ2_getChar_3b067 27 = .ok (.athrow, 1) := by decide +kernel
theorem dJ2_getChar_3b067_28 : decode cJ2_getChar_3b067 28 = .ok (.iload_n 1, 1) := by decide +kernel
theorem dJ2_getChar_3b067_29 : decode cJ2_getChar_3b067 29 = .ok (.iconst 1, 1) := by decide +kernel
theorem dJ2_getChar_3b067_30 : decode cJ2_getChar_3b067 30 = .ok (.ishl, 1) := by decide +kernel
theorem dJ2_getChar_3b067_31 : decode cJ2_getChar_3b067 31 = .ok (.istore_n 1, 1) := by decide +kernel
theorem dJ2_getChar_3b067_32 : decode cJ2_getChar_3b067 32 = .ok (.aload_n 0, 1) := by decide +kernel
theorem dJ2_getChar_3b067_33 : decode cJ2_getChar_3b067 33 = .ok (.iload_n 1, 1) := by decide +kernel
theorem dJ2_getChar_3b067_34 : decode cJ2_getChar_3b067 34 = .ok (.iinc 1 1, 3) := by decide +kernel
theorem dJ2_getChar_3b067_37 : decode cJ2_getChar_3b067 37 = .ok (.baload, 1) := by decide +kernel
theorem dJ2_getChar_3b067_38 : decode cJ2_getChar_3b067 38 = .ok (.sipush 255, 3) := by decide +kernel
theorem dJ2_getChar_3b067_41 : decode cJ2_getChar_3b067 41 = .ok (.iand, 1) := by decide +kernel
theorem dJ2_getChar_3b067_42 : decode cJ2_getChar_3b067 42 = .ok (.getstatic 59, 3) := by decide +kernel
theorem dJ2_getChar_3b067_45 : decode cJ2_getChar_3b067 45 = .ok (.ishl, 1) := by decide +kernel
theorem dJ2_getChar_3b067_46 : decode cJ2_getChar_3b067 46 = .ok (.aload_n 0, 1) := by decide +kernel
theorem dJ2_getChar_3b067_47 : decode cJ2_getChar_3b067 47 = .ok (.iload_n 1, 1) := by decide +kernel
theorem dJ2_getChar_3b067_48 : decode cJ2_getChar_3b067 48 = .ok (.baload, 1) := by decide +kernel
theorem dJ2_getChar_3b067_49 : decode cJ2_getChar_3b067 49 = .ok (.sipush 255, 3) := by decide +kernel
theorem dJ2_getChar_3b067_52 : decode cJ2_getChar_3b067 52 = .ok (.iand, 1) := by decide +kernel
theorem dJ2_getChar_3b067_53 : decode cJ2_getChar_3b067 53 = .ok (.getstatic 63, 3) := by decide +kernel
theorem dJ2_getChar_3b067_56 : decode cJ2_getChar_3b067 56 = .ok (.ishl, 1) := by decide +kernel
theorem dJ2_getChar_3b067_57 : decode cJ2_getChar_3b067 57 = .ok (.ior, 1) := by decide +kernel
theorem dJ2_getChar_3b067_58 : decode cJ2_getChar_3b067 58 = .ok (.i2c, 1) := by decide +kernel
theorem dJ2_getChar_3b067_59 : decode cJ2_getChar_3b067 59 = .ok (.ireturn, 1) := by decide +kernel
theorem dJ2_length_9d52b_0 : decode cJ2_length_9d52b 0 = .ok (.aload_n 0, 1) := by decide +kernel
theorem dJ2_length_9d52b_1 : decode cJ2_length_9d52b 1 = .ok (.arraylength, 1) := by decide +kernel
theorem dJ2_length_9d52b_2 : decode cJ2_length_9d52b 2 = .ok (.iconst 1, 1) := by decide +kernel
theorem dJ2_length_9d52b_3 : decode cJ2_length_9d52b 3 = .ok (.ishr, 1) := by decide +kernel
theorem dJ2_length_9d52b_4 : decode cJ2_length_9d52b 4 = .ok (.ireturn, 1) := by decide +kernel
theorem dJ2_charAt_3b067_0 : decode cJ2_charAt_3b067 0 = .ok (.iload_n 1, 1) := by decide +kernel
theorem dJ2_charAt_3b067_1 : decode cJ2_charAt_3b067 1 = .ok (.aload_n 0, 1) := by decide +kernel
theorem dJ2_charAt_3b067_2 : decode cJ2_charAt_3b067 2 = .ok (.invokestatic 67, 3) := by decide +kernel
theorem dJ2_charAt_3b067_5 : decode cJ2_charAt_3b067 5 = .ok (.aload_n 0, 1) := by decide +kernel
theorem dJ2_charAt_3b067_6 : decode cJ2_charAt_3b067 6 = .ok (.iload_n 1, 1) := by decide +kernel
theorem dJ2_charAt_3b067_7 : decode cJ2_charAt_3b067 7 = .ok (.invokestatic 71, 3) := by decide +kernel
theorem dJ2_charAt_3b067_10 : decode cJ2_charAt_3b067 10 = .ok (.ireturn, 1) := by decide +kernel
theorem dJ2_checkIndex_2214a_0 : decode cJ2_checkIndex_2214a 0 = .ok (.iload_n 0, 1) := by decide +kernel
theorem dJ2_checkIndex_2214a_1 : decode cJ2_checkIndex_2214a 1 = .ok (.aload_n 1, 1) := by decide +kernel
theorem dJ2_checkIndex_2214a_2 : decode cJ2_checkIndex_2214a 2 = .ok (.invokestatic 48, 3) := by decide +kernel
theorem dJ2_checkIndex_2214a_5 : decode cJ2_checkIndex_2214a 5 = .ok (.invokestatic 414, 3) := by decide +kernel
theorem dJ2_checkIndex_2214a_8 : decode cJ2_checkIndex_2214a 8 = .ok (.return_, 1) := by decide +kernel
theorem dJ7_fill_d0a16_0 : decode cJ7_fill_d0a16 0 = .ok (.iconst 0, 1) := by decide +kernel
theorem dJ7_fill_d0a16_1 : decode cJ7_fill_d0a16 1 = .ok (.istore_n 3, 1) := by decide +kernel
theorem dJ7_fill_d0a16_2 : decode cJ7_fill_d0a16 2 = .ok (.aload_n 0, 1) := by decide +kernel
theorem dJ7_fill_d0a16_3 : decode cJ7_fill_d0a16 3 = .ok (.arraylength, 1) := by decide +kernel
theorem dJ7_fill_d0a16_4 : decode cJ7_fill_d0a16 4 = .ok (.istore 4, 2) := by decide +kernel
theorem dJ7_fill_d0a16_6 : decode cJ7_fill_d0a16 6 = .ok (.iload_n 3, 1) := by decide +kernel
theorem dJ7_fill_d0a16_7 : decode cJ7_fill_d0a16 7 = .ok (.iload 4, 2) := by decide +kernel
theorem dJ7_fill_d0a16_9 : decode cJ7_fill_d0a16 9 = .ok (.if_icmp .ge 13, 3) := by decide +kernel
theorem dJ7_fill_d0a16_12 : decode cJ7_fill_d0a16 12 = .ok (.aload_n 0, 1) := by decide +kernel
theorem dJ7_fill_d0a16_13 : decode cJ7_fill_d0a16 13 = .ok (.iload_n 3, 1) := by decide +kernel
theorem dJ7_fill_d0a16_14 : decode cJ7_fill_d0a16 14 = .ok (.lload_n 1, 1) := by decide +kernel
theorem dJ7_fill_d0a16_15 : decode cJ7_fill_d0a16 15 = .ok (.lastore, 1) := by decide +kernel
theorem dJ7_fill_d0a16_16 : decode cJ7_fill_d0a16 16 = .ok (.iinc 3 1, 3) := by decide +kernel
theorem dJ7_fill_d0a16_19 : decode cJ7_fill_d0a16 19 = .ok (.goto (-13), 3) := by decide +kernel
theorem dJ7_fill_d0a16_22 : decode cJ7_fill_d0a16 22 = .ok (.return_, 1) := by decide +kernel
theorem dJ7_fill_53178_0 : decode cJ7_fill_53178 0 = .ok (.iconst 0, 1) := by decide +kernel
theorem dJ7_fill_53178_1 : decode cJ7_fill_53178 1 = .ok (.istore_n 2, 1) := by decide +kernel
theorem dJ7_fill_53178_2 : decode cJ7_fill_53178 2 = .ok (.aload_n 0, 1) := by decide +kernel
theorem dJ7_fill_53178_3 : decode cJ7_fill_53178 3 = .ok (.arraylength, 1) := by decide +kernel
theorem dJ7_fill_53178_4 : decode cJ7_fill_53178 4 = .ok (.istore_n 3, 1) := by decide +kernel
theorem dJ7_fill_53178_5 : decode cJ7_fill_53178 5 = .ok (.iload_n 2, 1) := by decide +kernel
theorem dJ7_fill_53178_6 : decode cJ7_fill_53178 6 = .ok (.iload_n 3, 1) := by decide +kernel
theorem dJ7_fill_53178_7 : decode cJ7_fill_53178 7 = .ok (.if_icmp .ge 13, 3) := by decide +kernel
theorem dJ7_fill_53178_10 : decode cJ7_fill_53178 10 = .ok (.aload_n 0, 1) := by decide +kernel
theorem dJ7_fill_53178_11 : decode cJ7_fill_53178 11 = .ok (.iload_n 2, 1) := by decide +kernel
theorem dJ7_fill_53178_12 : decode cJ7_fill_53178 12 = .ok (.iload_n 1, 1) := by decide +kernel
theorem dJ7_fill_53178_13 : decode cJ7_fill_53178 13 = .ok (.iastore, 1) := by decide +kernel
theorem dJ7_fill_53178_14 : decode cJ7_fill_53178 14 = .ok (.iinc 2 1, 3) := by decide +kernel
theorem dJ7_fill_53178_17 : decode cJ7_fill_53178 17 = .ok (.goto (-12), 3) := by decide +kernel
theorem dJ7_fill_53178_20 : decode cJ7_fill_53178 20 = .ok (.return_, 1) := by decide +kernel
theorem dJ3_checkIndex_8e157_0 : decode cJ3_checkIndex_8e157 0 = .ok (.iload_n 0, 1) := by decide +kernel
theorem dJ3_checkIndex_8e157_1 : decode cJ3_checkIndex_8e157 1 = .ok (.ifCond .lt 8, 3) := by decide +kernel
theorem dJ3_checkIndex_8e157_4 : decode cJ3_checkIndex_8e157 4 = .ok (.iload_n 0, 1) := by decide +kernel
theorem dJ3_checkIndex_8e157_5 : decode cJ3_checkIndex_8e157 5 = .ok (.iload_n 1, 1) := by decide +kernel
theorem dJ3_checkIndex_8e157_6 : decode cJ3_checkIndex_8e157 6 = .ok (.if_icmp .lt 10, 3) := by decide +kernel
theorem dJ3_checkIndex_8e157_9 : decode cJ3_checkIndex_8e157 9 = .ok (.aload_n 2, 1) := by decide +kernel
theorem dJ3_checkIndex_8e157_10 : decode cJ3_checkIndex_8e157 10 = .ok (.iload_n 0, 1) := by decide +kernel
theorem dJ3_checkIndex_8e157_11 : decode cJ3_checkIndex_8e157 11 = .ok (.iload_n 1, 1) := by decide +kernel
theorem dJ3_checkIndex_8e157_12 : decode cJ3_checkIndex_8e157 12 = .ok (.invokestatic 95, 3) := by decide +kernel
theorem dJ3_checkIndex_8e157_15 : decode cJ3_checkIndex_8e157 15 = .ok (.athrow, 1) := by decide +kernel
theorem dJ3_checkIndex_8e157_16 : decode cJ3_checkIndex_8e157 16 = .ok (.iload_n 0, 1) := by decide +kernel
theorem dJ3_checkIndex_8e157_17 : decode cJ3_checkIndex_8e157 17 = .ok (.ireturn, 1) := by decide +kernel
theorem dL_law_0 : decode cL_law 0 = .ok (.new 7, 3) := by decide +kernel
theorem dL_law_3 : decode cL_law 3 = .ok (.dup, 1) := by decide +kernel
theorem dL_law_4 : decode cL_law 4 = .ok (.invokespecial 9, 3) := by decide +kernel
theorem dL_law_7 : decode cL_law 7 = .ok (.astore_n 1, 1) := by decide +kernel
theorem dL_law_8 : decode cL_law 8 = .ok (.new 10, 3) := by decide +kernel
theorem dL_law_11 : decode cL_law 11 = .ok (.dup, 1) := by decide +kernel
theorem dL_law_12 : decode cL_law 12 = .ok (.invokespecial 12, 3) := by decide +kernel
theorem dL_law_15 : decode cL_law 15 = .ok (.astore_n 2, 1) := by decide +kernel
theorem dL_law_16 : decode cL_law 16 = .ok (.iconst 0, 1) := by decide +kernel
theorem dL_law_17 : decode cL_law 17 = .ok (.istore_n 3, 1) := by decide +kernel
theorem dL_law_18 : decode cL_law 18 = .ok (.iload_n 3, 1) := by decide +kernel
theorem dL_law_19 : decode cL_law 19 = .ok (.aload_n 0, 1) := by decide +kernel
theorem dL_law_20 : decode cL_law 20 = .ok (.arraylength, 1) := by decide +kernel
theorem dL_law_21 : decode cL_law 21 = .ok (.iconst 4, 1) := by decide +kernel
theorem dL_law_22 : decode cL_law 22 = .ok (.isub, 1) := by decide +kernel
theorem dL_law_23 : decode cL_law 23 = .ok (.if_icmp .gt 737, 3) := by decide +kernel
theorem dL_law_26 : decode cL_law 26 = .ok (.aload_n 0, 1) := by decide +kernel
theorem dL_law_27 : decode cL_law 27 = .ok (.iload_n 3, 1) := by decide +kernel
theorem dL_law_28 : decode cL_law 28 = .ok (.iaload, 1) := by decide +kernel
theorem dL_law_29 : decode cL_law 29 = .ok (.bipush 31, 2) := by decide +kernel
theorem dL_law_31 : decode cL_law 31 = .ok (.iand, 1) := by decide +kernel
theorem dL_law_32 : decode cL_law 32 = .ok (.tableswitch 722 0 24 #[116, 179, 192, 205, 218, 251, 294, 327, 360, 373, 386, 419, 452, 485, 508, 521, 534, 557, 580, 593, 606, 630, 673, 686, 699], 116) := by decide +kernel
theorem dL_law_148 : decode cL_law 148 = .ok (.aload_n 1, 1) := by decide +kernel
theorem dL_law_149 : decode cL_law 149 = .ok (.aload_n 0, 1) := by decide +kernel
theorem dL_law_150 : decode cL_law 150 = .ok (.iload_n 3, 1) := by decide +kernel
theorem dL_law_151 : decode cL_law 151 = .ok (.iconst 1, 1) := by decide +kernel
theorem dL_law_152 : decode cL_law 152 = .ok (.iadd, 1) := by decide +kernel
theorem dL_law_153 : decode cL_law 153 = .ok (.iaload, 1) := by decide +kernel
theorem dL_law_154 : decode cL_law 154 = .ok (.aload_n 0, 1) := by decide +kernel
theorem dL_law_155 : decode cL_law 155 = .ok (.iload_n 3, 1) := by decide +kernel
theorem dL_law_156 : decode cL_law 156 = .ok (.iconst 2, 1) := by decide +kernel
theorem dL_law_157 : decode cL_law 157 = .ok (.iadd, 1) := by decide +kernel
theorem dL_law_158 : decode cL_law 158 = .ok (.iaload, 1) := by decide +kernel
theorem dL_law_159 : decode cL_law 159 = .ok (.i2l, 1) := by decide +kernel
theorem dL_law_160 : decode cL_law 160 = .ok (.bipush 32, 2) := by decide +kernel
theorem dL_law_162 : decode cL_law 162 = .ok (.lshl, 1) := by decide +kernel
theorem dL_law_163 : decode cL_law 163 = .ok (.aload_n 0, 1) := by decide +kernel
theorem dL_law_164 : decode cL_law 164 = .ok (.iload_n 3, 1) := by decide +kernel
theorem dL_law_165 : decode cL_law 165 = .ok (.iconst 3, 1) := by decide +kernel
theorem dL_law_166 : decode cL_law 166 = .ok (.iadd, 1) := by decide +kernel
theorem dL_law_167 : decode cL_law 167 = .ok (.iaload, 1) := by decide +kernel
theorem dL_law_168 : decode cL_law 168 = .ok (.i2l, 1) := by decide +kernel
theorem dL_law_169 : decode cL_law 169 = .ok (.ldc2_w 13, 3) := by decide +kernel
theorem dL_law_172 : decode cL_law 172 = .ok (.land, 1) := by decide +kernel
theorem dL_law_173 : decode cL_law 173 = .ok (.lor, 1) := by decide +kernel
theorem dL_law_174 : decode cL_law 174 = .ok (.invokevirtual 15, 3) := by decide +kernel
theorem dL_law_177 : decode cL_law 177 = .ok (.aload_n 2, 1) := by decide +kernel
theorem dL_law_178 : decode cL_law 178 = .ok (.aload_n 0, 1) := by decide +kernel
theorem dL_law_179 : decode cL_law 179 = .ok (.iload_n 3, 1) := by decide +kernel
theorem dL_law_180 : decode cL_law 180 = .ok (.iconst 1, 1) := by decide +kernel
theorem dL_law_181 : decode cL_law 181 = .ok (.iadd, 1) := by decide +kernel
theorem dL_law_182 : decode cL_law 182 = .ok (.iaload, 1) := by decide +kernel
theorem dL_law_183 : decode cL_law 183 = .ok (.aload_n 0, 1) := by decide +kernel
theorem dL_law_184 : decode cL_law 184 = .ok (.iload_n 3, 1) := by decide +kernel
theorem dL_law_185 : decode cL_law 185 = .ok (.iconst 2, 1) := by decide +kernel
theorem dL_law_186 : decode cL_law 186 = .ok (.iadd, 1) := by decide +kernel
theorem dL_law_187 : decode cL_law 187 = .ok (.iaload, 1) := by decide +kernel
theorem dL_law_188 : decode cL_law 188 = .ok (.i2l, 1) := by decide +kernel
theorem dL_law_189 : decode cL_law 189 = .ok (.bipush 32, 2) := by decide +kernel
theorem dL_law_191 : decode cL_law 191 = .ok (.lshl, 1) := by decide +kernel
theorem dL_law_192 : decode cL_law 192 = .ok (.aload_n 0, 1) := by decide +kernel
theorem dL_law_193 : decode cL_law 193 = .ok (.iload_n 3, 1) := by decide +kernel
theorem dL_law_194 : decode cL_law 194 = .ok (.iconst 3, 1) := by decide +kernel
theorem dL_law_195 : decode cL_law 195 = .ok (.iadd, 1) := by decide +kernel
theorem dL_law_196 : decode cL_law 196 = .ok (.iaload, 1) := by decide +kernel
theorem dL_law_197 : decode cL_law 197 = .ok (.i2l, 1) := by decide +kernel
theorem dL_law_198 : decode cL_law 198 = .ok (.ldc2_w 13, 3) := by decide +kernel
theorem dL_law_201 : decode cL_law 201 = .ok (.land, 1) := by decide +kernel
theorem dL_law_202 : decode cL_law 202 = .ok (.lor, 1) := by decide +kernel
theorem dL_law_203 : decode cL_law 203 = .ok (.invokevirtual 19, 3) := by decide +kernel
theorem dL_law_206 : decode cL_law 206 = .ok (.if_icmp .eq 548, 3) := by decide +kernel
theorem dL_law_209 : decode cL_law 209 = .ok (.iconst 0, 1) := by decide +kernel
theorem dL_law_210 : decode cL_law 210 = .ok (.ireturn, 1) := by decide +kernel
theorem dL_law_211 : decode cL_law 211 = .ok (.aload_n 1, 1) := by decide +kernel
theorem dL_law_212 : decode cL_law 212 = .ok (.invokevirtual 20, 3) := by decide +kernel
theorem dL_law_215 : decode cL_law 215 = .ok (.aload_n 2, 1) := by decide +kernel
theorem dL_law_216 : decode cL_law 216 = .ok (.invokevirtual 24, 3) := by decide +kernel
theorem dL_law_219 : decode cL_law 219 = .ok (.if_icmp .eq 535, 3) := by decide +kernel
theorem dL_law_222 : decode cL_law 222 = .ok (.iconst 0, 1) := by decide +kernel
theorem dL_law_223 : decode cL_law 223 = .ok (.ireturn, 1) := by decide +kernel
theorem dL_law_224 : decode cL_law 224 = .ok (.aload_n 1, 1) := by decide +kernel
theorem dL_law_225 : decode cL_law 225 = .ok (.invokevirtual 25, 3) := by decide +kernel
theorem dL_law_228 : decode cL_law 228 = .ok (.aload_n 2, 1) := by decide +kernel
theorem dL_law_229 : decode cL_law 229 = .ok (.invokevirtual 28, 3) := by decide +kernel
theorem dL_law_232 : decode cL_law 232 = .ok (.if_icmp .eq 522, 3) := by decide +kernel
theorem dL_law_235 : decode cL_law 235 = .ok (.iconst 0, 1) := by decide +kernel
theorem dL_law_236 : decode cL_law 236 = .ok (.ireturn, 1) := by decide +kernel
theorem dL_law_237 : decode cL_law 237 = .ok (.aload_n 1, 1) := by decide +kernel
theorem dL_law_238 : decode cL_law 238 = .ok (.invokevirtual 29, 3) := by decide +kernel
theorem dL_law_241 : decode cL_law 241 = .ok (.aload_n 2, 1) := by decide +kernel
theorem dL_law_242 : decode cL_law 242 = .ok (.invokevirtual 32, 3) := by decide +kernel
theorem dL_law_245 : decode cL_law 245 = .ok (.if_icmp .eq 509, 3) := by decide +kernel
theorem dL_law_248 : decode cL_law 248 = .ok (.iconst 0, 1) := by decide +kernel
theorem dL_law_249 : decode cL_law 249 = .ok (.ireturn, 1) := by decide +kernel
theorem dL_law_250 : decode cL_law 250 = .ok (.aload_n 1, 1) := by decide +kernel
theorem dL_law_251 : decode cL_law 251 = .ok (.aload_n 0, 1) := by decide +kernel
theorem dL_law_252 : decode cL_law 252 = .ok (.iload_n 3, 1) := by decide +kernel
theorem dL_law_253 : decode cL_law 253 = .ok (.iconst 1, 1) := by decide +kernel
theorem dL_law_254 : decode cL_law 254 = .ok (.iadd, 1) := by decide +kernel
theorem dL_law_255 : decode cL_law 255 = .ok (.iaload, 1) := by decide +kernel
theorem dL_law_256 : decode cL_law 256 = .ok (.aload_n 0, 1) := by decide +kernel
theorem dL_law_257 : decode cL_law 257 = .ok (.iload_n 3, 1) := by decide +kernel
theorem dL_law_258 : decode cL_law 258 = .ok (.iconst 2, 1) := by decide +kernel
theorem dL_law_259 : decode cL_law 259 = .ok (.iadd, 1) := by decide +kernel
theorem dL_law_260 : decode cL_law 260 = .ok (.iaload, 1) := by decide +kernel
theorem dL_law_261 : decode cL_law 261 = .ok (.invokevirtual 33, 3) := by decide +kernel
theorem dL_law_264 : decode cL_law 264 = .ok (.aload_n 2, 1) := by decide +kernel
theorem dL_law_265 : decode cL_law 265 = .ok (.aload_n 0, 1) := by decide +kernel
theorem dL_law_266 : decode cL_law 266 = .ok (.iload_n 3, 1) := by decide +kernel
theorem dL_law_267 : decode cL_law 267 = .ok (.iconst 1, 1) := by decide +kernel
theorem dL_law_268 : decode cL_law 268 = .ok (.iadd, 1) := by decide +kernel
theorem dL_law_269 : decode cL_law 269 = .ok (.iaload, 1) := by decide +kernel
theorem dL_law_270 : decode cL_law 270 = .ok (.aload_n 0, 1) := by decide +kernel
theorem dL_law_271 : decode cL_law 271 = .ok (.iload_n 3, 1) := by decide +kernel
theorem dL_law_272 : decode cL_law 272 = .ok (.iconst 2, 1) := by decide +kernel
theorem dL_law_273 : decode cL_law 273 = .ok (.iadd, 1) := by decide +kernel
theorem dL_law_274 : decode cL_law 274 = .ok (.iaload, 1) := by decide +kernel
theorem dL_law_275 : decode cL_law 275 = .ok (.invokevirtual 37, 3) := by decide +kernel
theorem dL_law_278 : decode cL_law 278 = .ok (.if_icmp .eq 476, 3) := by decide +kernel
theorem dL_law_281 : decode cL_law 281 = .ok (.iconst 0, 1) := by decide +kernel
theorem dL_law_282 : decode cL_law 282 = .ok (.ireturn, 1) := by decide +kernel
theorem dL_law_283 : decode cL_law 283 = .ok (.aload_n 1, 1) := by decide +kernel
theorem dL_law_284 : decode cL_law 284 = .ok (.aload_n 0, 1) := by decide +kernel
theorem dL_law_285 : decode cL_law 285 = .ok (.iload_n 3, 1) := by decide +kernel
theorem dL_law_286 : decode cL_law 286 = .ok (.iconst 1, 1) := by decide +kernel
theorem dL_law_287 : decode cL_law 287 = .ok (.iadd, 1) := by decide +kernel
theorem dL_law_288 : decode cL_law 288 = .ok (.iaload, 1) := by decide +kernel
theorem dL_law_289 : decode cL_law 289 = .ok (.aload_n 0, 1) := by decide +kernel
theorem dL_law_290 : decode cL_law 290 = .ok (.iload_n 3, 1) := by decide +kernel
theorem dL_law_291 : decode cL_law 291 = .ok (.iconst 2, 1) := by decide +kernel
theorem dL_law_292 : decode cL_law 292 = .ok (.iadd, 1) := by decide +kernel
theorem dL_law_293 : decode cL_law 293 = .ok (.iaload, 1) := by decide +kernel
theorem dL_law_294 : decode cL_law 294 = .ok (.aload_n 0, 1) := by decide +kernel
theorem dL_law_295 : decode cL_law 295 = .ok (.iload_n 3, 1) := by decide +kernel
theorem dL_law_296 : decode cL_law 296 = .ok (.iconst 3, 1) := by decide +kernel
theorem dL_law_297 : decode cL_law 297 = .ok (.iadd, 1) := by decide +kernel
theorem dL_law_298 : decode cL_law 298 = .ok (.iaload, 1) := by decide +kernel
theorem dL_law_299 : decode cL_law 299 = .ok (.invokevirtual 38, 3) := by decide +kernel
theorem dL_law_302 : decode cL_law 302 = .ok (.aload_n 2, 1) := by decide +kernel
theorem dL_law_303 : decode cL_law 303 = .ok (.aload_n 0, 1) := by decide +kernel
theorem dL_law_304 : decode cL_law 304 = .ok (.iload_n 3, 1) := by decide +kernel
theorem dL_law_305 : decode cL_law 305 = .ok (.iconst 1, 1) := by decide +kernel
theorem dL_law_306 : decode cL_law 306 = .ok (.iadd, 1) := by decide +kernel
theorem dL_law_307 : decode cL_law 307 = .ok (.iaload, 1) := by decide +kernel
theorem dL_law_308 : decode cL_law 308 = .ok (.aload_n 0, 1) := by decide +kernel
theorem dL_law_309 : decode cL_law 309 = .ok (.iload_n 3, 1) := by decide +kernel
theorem dL_law_310 : decode cL_law 310 = .ok (.iconst 2, 1) := by decide +kernel
theorem dL_law_311 : decode cL_law 311 = .ok (.iadd, 1) := by decide +kernel
theorem dL_law_312 : decode cL_law 312 = .ok (.iaload, 1) := by decide +kernel
theorem dL_law_313 : decode cL_law 313 = .ok (.aload_n 0, 1) := by decide +kernel
theorem dL_law_314 : decode cL_law 314 = .ok (.iload_n 3, 1) := by decide +kernel
theorem dL_law_315 : decode cL_law 315 = .ok (.iconst 3, 1) := by decide +kernel
theorem dL_law_316 : decode cL_law 316 = .ok (.iadd, 1) := by decide +kernel
theorem dL_law_317 : decode cL_law 317 = .ok (.iaload, 1) := by decide +kernel
theorem dL_law_318 : decode cL_law 318 = .ok (.invokevirtual 42, 3) := by decide +kernel
theorem dL_law_321 : decode cL_law 321 = .ok (.if_icmp .eq 433, 3) := by decide +kernel
theorem dL_law_324 : decode cL_law 324 = .ok (.iconst 0, 1) := by decide +kernel
theorem dL_law_325 : decode cL_law 325 = .ok (.ireturn, 1) := by decide +kernel
theorem dL_law_326 : decode cL_law 326 = .ok (.aload_n 1, 1) := by decide +kernel
theorem dL_law_327 : decode cL_law 327 = .ok (.aload_n 0, 1) := by decide +kernel
theorem dL_law_328 : decode cL_law 328 = .ok (.iload_n 3, 1) := by decide +kernel
theorem dL_law_329 : decode cL_law 329 = .ok (.iconst 1, 1) := by decide +kernel
theorem dL_law_330 : decode cL_law 330 = .ok (.iadd, 1) := by decide +kernel
theorem dL_law_331 : decode cL_law 331 = .ok (.iaload, 1) := by decide +kernel
theorem dL_law_332 : decode cL_law 332 = .ok (.aload_n 0, 1) := by decide +kernel
theorem dL_law_333 : decode cL_law 333 = .ok (.iload_n 3, 1) := by decide +kernel
theorem dL_law_334 : decode cL_law 334 = .ok (.iconst 2, 1) := by decide +kernel
theorem dL_law_335 : decode cL_law 335 = .ok (.iadd, 1) := by decide +kernel
theorem dL_law_336 : decode cL_law 336 = .ok (.iaload, 1) := by decide +kernel
theorem dL_law_337 : decode cL_law 337 = .ok (.invokevirtual 43, 3) := by decide +kernel
theorem dL_law_340 : decode cL_law 340 = .ok (.aload_n 2, 1) := by decide +kernel
theorem dL_law_341 : decode cL_law 341 = .ok (.aload_n 0, 1) := by decide +kernel
theorem dL_law_342 : decode cL_law 342 = .ok (.iload_n 3, 1) := by decide +kernel
theorem dL_law_343 : decode cL_law 343 = .ok (.iconst 1, 1) := by decide +kernel
theorem dL_law_344 : decode cL_law 344 = .ok (.iadd, 1) := by decide +kernel
theorem dL_law_345 : decode cL_law 345 = .ok (.iaload, 1) := by decide +kernel
theorem dL_law_346 : decode cL_law 346 = .ok (.aload_n 0, 1) := by decide +kernel
theorem dL_law_347 : decode cL_law 347 = .ok (.iload_n 3, 1) := by decide +kernel
theorem dL_law_348 : decode cL_law 348 = .ok (.iconst 2, 1) := by decide +kernel
theorem dL_law_349 : decode cL_law 349 = .ok (.iadd, 1) := by decide +kernel
theorem dL_law_350 : decode cL_law 350 = .ok (.iaload, 1) := by decide +kernel
theorem dL_law_351 : decode cL_law 351 = .ok (.invokevirtual 46, 3) := by decide +kernel
theorem dL_law_354 : decode cL_law 354 = .ok (.if_icmp .eq 400, 3) := by decide +kernel
theorem dL_law_357 : decode cL_law 357 = .ok (.iconst 0, 1) := by decide +kernel
theorem dL_law_358 : decode cL_law 358 = .ok (.ireturn, 1) := by decide +kernel
theorem dL_law_359 : decode cL_law 359 = .ok (.aload_n 1, 1) := by decide +kernel
theorem dL_law_360 : decode cL_law 360 = .ok (.aload_n 0, 1) := by decide +kernel
theorem dL_law_361 : decode cL_law 361 = .ok (.iload_n 3, 1) := by decide +kernel
theorem dL_law_362 : decode cL_law 362 = .ok (.iconst 1, 1) := by decide +kernel
theorem dL_law_363 : decode cL_law 363 = .ok (.iadd, 1) := by decide +kernel
theorem dL_law_364 : decode cL_law 364 = .ok (.iaload, 1) := by decide +kernel
theorem dL_law_365 : decode cL_law 365 = .ok (.aload_n 0, 1) := by decide +kernel
theorem dL_law_366 : decode cL_law 366 = .ok (.iload_n 3, 1) := by decide +kernel
theorem dL_law_367 : decode cL_law 367 = .ok (.iconst 2, 1) := by decide +kernel
theorem dL_law_368 : decode cL_law 368 = .ok (.iadd, 1) := by decide +kernel
theorem dL_law_369 : decode cL_law 369 = .ok (.iaload, 1) := by decide +kernel
theorem dL_law_370 : decode cL_law 370 = .ok (.invokevirtual 47, 3) := by decide +kernel
theorem dL_law_373 : decode cL_law 373 = .ok (.aload_n 2, 1) := by decide +kernel
theorem dL_law_374 : decode cL_law 374 = .ok (.aload_n 0, 1) := by decide +kernel
theorem dL_law_375 : decode cL_law 375 = .ok (.iload_n 3, 1) := by decide +kernel
theorem dL_law_376 : decode cL_law 376 = .ok (.iconst 1, 1) := by decide +kernel
theorem dL_law_377 : decode cL_law 377 = .ok (.iadd, 1) := by decide +kernel
theorem dL_law_378 : decode cL_law 378 = .ok (.iaload, 1) := by decide +kernel
theorem dL_law_379 : decode cL_law 379 = .ok (.aload_n 0, 1) := by decide +kernel
theorem dL_law_380 : decode cL_law 380 = .ok (.iload_n 3, 1) := by decide +kernel
theorem dL_law_381 : decode cL_law 381 = .ok (.iconst 2, 1) := by decide +kernel
theorem dL_law_382 : decode cL_law 382 = .ok (.iadd, 1) := by decide +kernel
theorem dL_law_383 : decode cL_law 383 = .ok (.iaload, 1) := by decide +kernel
theorem dL_law_384 : decode cL_law 384 = .ok (.invokevirtual 50, 3) := by decide +kernel
theorem dL_law_387 : decode cL_law 387 = .ok (.if_icmp .eq 367, 3) := by decide +kernel
theorem dL_law_390 : decode cL_law 390 = .ok (.iconst 0, 1) := by decide +kernel
theorem dL_law_391 : decode cL_law 391 = .ok (.ireturn, 1) := by decide +kernel
theorem dL_law_392 : decode cL_law 392 = .ok (.aload_n 1, 1) := by decide +kernel
theorem dL_law_393 : decode cL_law 393 = .ok (.invokevirtual 51, 3) := by decide +kernel
theorem dL_law_396 : decode cL_law 396 = .ok (.aload_n 2, 1) := by decide +kernel
theorem dL_law_397 : decode cL_law 397 = .ok (.invokevirtual 54, 3) := by decide +kernel
theorem dL_law_400 : decode cL_law 400 = .ok (.if_icmp .eq 354, 3) := by decide +kernel
theorem dL_law_403 : decode cL_law 403 = .ok (.iconst 0, 1) := by decide +kernel
theorem dL_law_404 : decode cL_law 404 = .ok (.ireturn, 1) := by decide +kernel
theorem dL_law_405 : decode cL_law 405 = .ok (.aload_n 1, 1) := by decide +kernel
theorem dL_law_406 : decode cL_law 406 = .ok (.invokevirtual 55, 3) := by decide +kernel
theorem dL_law_409 : decode cL_law 409 = .ok (.aload_n 2, 1) := by decide +kernel
theorem dL_law_410 : decode cL_law 410 = .ok (.invokevirtual 58, 3) := by decide +kernel
theorem dL_law_413 : decode cL_law 413 = .ok (.if_icmp .eq 341, 3) := by decide +kernel
theorem dL_law_416 : decode cL_law 416 = .ok (.iconst 0, 1) := by decide +kernel
theorem dL_law_417 : decode cL_law 417 = .ok (.ireturn, 1) := by decide +kernel
theorem dL_law_418 : decode cL_law 418 = .ok (.aload_n 1, 1) := by decide +kernel
theorem dL_law_419 : decode cL_law 419 = .ok (.aload_n 0, 1) := by decide +kernel
theorem dL_law_420 : decode cL_law 420 = .ok (.iload_n 3, 1) := by decide +kernel
theorem dL_law_421 : decode cL_law 421 = .ok (.iconst 1, 1) := by decide +kernel
theorem dL_law_422 : decode cL_law 422 = .ok (.iadd, 1) := by decide +kernel
theorem dL_law_423 : decode cL_law 423 = .ok (.iaload, 1) := by decide +kernel
theorem dL_law_424 : decode cL_law 424 = .ok (.aload_n 0, 1) := by decide +kernel
theorem dL_law_425 : decode cL_law 425 = .ok (.iload_n 3, 1) := by decide +kernel
theorem dL_law_426 : decode cL_law 426 = .ok (.iconst 2, 1) := by decide +kernel
theorem dL_law_427 : decode cL_law 427 = .ok (.iadd, 1) := by decide +kernel
theorem dL_law_428 : decode cL_law 428 = .ok (.iaload, 1) := by decide +kernel
theorem dL_law_429 : decode cL_law 429 = .ok (.invokevirtual 59, 3) := by decide +kernel
theorem dL_law_432 : decode cL_law 432 = .ok (.aload_n 2, 1) := by decide +kernel
theorem dL_law_433 : decode cL_law 433 = .ok (.aload_n 0, 1) := by decide +kernel
theorem dL_law_434 : decode cL_law 434 = .ok (.iload_n 3, 1) := by decide +kernel
theorem dL_law_435 : decode cL_law 435 = .ok (.iconst 1, 1) := by decide +kernel
theorem dL_law_436 : decode cL_law 436 = .ok (.iadd, 1) := by decide +kernel
theorem dL_law_437 : decode cL_law 437 = .ok (.iaload, 1) := by decide +kernel
theorem dL_law_438 : decode cL_law 438 = .ok (.aload_n 0, 1) := by decide +kernel
theorem dL_law_439 : decode cL_law 439 = .ok (.iload_n 3, 1) := by decide +kernel
theorem dL_law_440 : decode cL_law 440 = .ok (.iconst 2, 1) := by decide +kernel
theorem dL_law_441 : decode cL_law 441 = .ok (.iadd, 1) := by decide +kernel
theorem dL_law_442 : decode cL_law 442 = .ok (.iaload, 1) := by decide +kernel
theorem dL_law_443 : decode cL_law 443 = .ok (.invokevirtual 62, 3) := by decide +kernel
theorem dL_law_446 : decode cL_law 446 = .ok (.if_icmp .eq 308, 3) := by decide +kernel
theorem dL_law_449 : decode cL_law 449 = .ok (.iconst 0, 1) := by decide +kernel
theorem dL_law_450 : decode cL_law 450 = .ok (.ireturn, 1) := by decide +kernel
theorem dL_law_451 : decode cL_law 451 = .ok (.aload_n 1, 1) := by decide +kernel
theorem dL_law_452 : decode cL_law 452 = .ok (.aload_n 0, 1) := by decide +kernel
theorem dL_law_453 : decode cL_law 453 = .ok (.iload_n 3, 1) := by decide +kernel
theorem dL_law_454 : decode cL_law 454 = .ok (.iconst 1, 1) := by decide +kernel
theorem dL_law_455 : decode cL_law 455 = .ok (.iadd, 1) := by decide +kernel
theorem dL_law_456 : decode cL_law 456 = .ok (.iaload, 1) := by decide +kernel
theorem dL_law_457 : decode cL_law 457 = .ok (.aload_n 0, 1) := by decide +kernel
theorem dL_law_458 : decode cL_law 458 = .ok (.iload_n 3, 1) := by decide +kernel
theorem dL_law_459 : decode cL_law 459 = .ok (.iconst 2, 1) := by decide +kernel
theorem dL_law_460 : decode cL_law 460 = .ok (.iadd, 1) := by decide +kernel
theorem dL_law_461 : decode cL_law 461 = .ok (.iaload, 1) := by decide +kernel
theorem dL_law_462 : decode cL_law 462 = .ok (.invokevirtual 63, 3) := by decide +kernel
theorem dL_law_465 : decode cL_law 465 = .ok (.aload_n 2, 1) := by decide +kernel
theorem dL_law_466 : decode cL_law 466 = .ok (.aload_n 0, 1) := by decide +kernel
theorem dL_law_467 : decode cL_law 467 = .ok (.iload_n 3, 1) := by decide +kernel
theorem dL_law_468 : decode cL_law 468 = .ok (.iconst 1, 1) := by decide +kernel
theorem dL_law_469 : decode cL_law 469 = .ok (.iadd, 1) := by decide +kernel
theorem dL_law_470 : decode cL_law 470 = .ok (.iaload, 1) := by decide +kernel
theorem dL_law_471 : decode cL_law 471 = .ok (.aload_n 0, 1) := by decide +kernel
theorem dL_law_472 : decode cL_law 472 = .ok (.iload_n 3, 1) := by decide +kernel
theorem dL_law_473 : decode cL_law 473 = .ok (.iconst 2, 1) := by decide +kernel
theorem dL_law_474 : decode cL_law 474 = .ok (.iadd, 1) := by decide +kernel
theorem dL_law_475 : decode cL_law 475 = .ok (.iaload, 1) := by decide +kernel
theorem dL_law_476 : decode cL_law 476 = .ok (.invokevirtual 66, 3) := by decide +kernel
theorem dL_law_479 : decode cL_law 479 = .ok (.if_icmp .eq 275, 3) := by decide +kernel
theorem dL_law_482 : decode cL_law 482 = .ok (.iconst 0, 1) := by decide +kernel
theorem dL_law_483 : decode cL_law 483 = .ok (.ireturn, 1) := by decide +kernel
theorem dL_law_484 : decode cL_law 484 = .ok (.aload_n 1, 1) := by decide +kernel
theorem dL_law_485 : decode cL_law 485 = .ok (.aload_n 0, 1) := by decide +kernel
theorem dL_law_486 : decode cL_law 486 = .ok (.iload_n 3, 1) := by decide +kernel
theorem dL_law_487 : decode cL_law 487 = .ok (.iconst 1, 1) := by decide +kernel
theorem dL_law_488 : decode cL_law 488 = .ok (.iadd, 1) := by decide +kernel
theorem dL_law_489 : decode cL_law 489 = .ok (.iaload, 1) := by decide +kernel
theorem dL_law_490 : decode cL_law 490 = .ok (.aload_n 0, 1) := by decide +kernel
theorem dL_law_491 : decode cL_law 491 = .ok (.iload_n 3, 1) := by decide +kernel
theorem dL_law_492 : decode cL_law 492 = .ok (.iconst 2, 1) := by decide +kernel
theorem dL_law_493 : decode cL_law 493 = .ok (.iadd, 1) := by decide +kernel
theorem dL_law_494 : decode cL_law 494 = .ok (.iaload, 1) := by decide +kernel
theorem dL_law_495 : decode cL_law 495 = .ok (.invokevirtual 67, 3) := by decide +kernel
theorem dL_law_498 : decode cL_law 498 = .ok (.aload_n 2, 1) := by decide +kernel
theorem dL_law_499 : decode cL_law 499 = .ok (.aload_n 0, 1) := by decide +kernel
theorem dL_law_500 : decode cL_law 500 = .ok (.iload_n 3, 1) := by decide +kernel
theorem dL_law_501 : decode cL_law 501 = .ok (.iconst 1, 1) := by decide +kernel
theorem dL_law_502 : decode cL_law 502 = .ok (.iadd, 1) := by decide +kernel
theorem dL_law_503 : decode cL_law 503 = .ok (.iaload, 1) := by decide +kernel
theorem dL_law_504 : decode cL_law 504 = .ok (.aload_n 0, 1) := by decide +kernel
theorem dL_law_505 : decode cL_law 505 = .ok (.iload_n 3, 1) := by decide +kernel
theorem dL_law_506 : decode cL_law 506 = .ok (.iconst 2, 1) := by decide +kernel
theorem dL_law_507 : decode cL_law 507 = .ok (.iadd, 1) := by decide +kernel
theorem dL_law_508 : decode cL_law 508 = .ok (.iaload, 1) := by decide +kernel
theorem dL_law_509 : decode cL_law 509 = .ok (.invokevirtual 70, 3) := by decide +kernel
theorem dL_law_512 : decode cL_law 512 = .ok (.if_icmp .eq 242, 3) := by decide +kernel
theorem dL_law_515 : decode cL_law 515 = .ok (.iconst 0, 1) := by decide +kernel
theorem dL_law_516 : decode cL_law 516 = .ok (.ireturn, 1) := by decide +kernel
theorem dL_law_517 : decode cL_law 517 = .ok (.aload_n 1, 1) := by decide +kernel
theorem dL_law_518 : decode cL_law 518 = .ok (.aload_n 0, 1) := by decide +kernel
theorem dL_law_519 : decode cL_law 519 = .ok (.iload_n 3, 1) := by decide +kernel
theorem dL_law_520 : decode cL_law 520 = .ok (.iconst 1, 1) := by decide +kernel
theorem dL_law_521 : decode cL_law 521 = .ok (.iadd, 1) := by decide +kernel
theorem dL_law_522 : decode cL_law 522 = .ok (.iaload, 1) := by decide +kernel
theorem dL_law_523 : decode cL_law 523 = .ok (.invokevirtual 71, 3) := by decide +kernel
theorem dL_law_526 : decode cL_law 526 = .ok (.aload_n 2, 1) := by decide +kernel
theorem dL_law_527 : decode cL_law 527 = .ok (.aload_n 0, 1) := by decide +kernel
theorem dL_law_528 : decode cL_law 528 = .ok (.iload_n 3, 1) := by decide +kernel
theorem dL_law_529 : decode cL_law 529 = .ok (.iconst 1, 1) := by decide +kernel
theorem dL_law_530 : decode cL_law 530 = .ok (.iadd, 1) := by decide +kernel
theorem dL_law_531 : decode cL_law 531 = .ok (.iaload, 1) := by decide +kernel
theorem dL_law_532 : decode cL_law 532 = .ok (.invokevirtual 75, 3) := by decide +kernel
theorem dL_law_535 : decode cL_law 535 = .ok (.if_icmp .eq 219, 3) := by decide +kernel
theorem dL_law_538 : decode cL_law 538 = .ok (.iconst 0, 1) := by decide +kernel
theorem dL_law_539 : decode cL_law 539 = .ok (.ireturn, 1) := by decide +kernel
theorem dL_law_540 : decode cL_law 540 = .ok (.aload_n 1, 1) := by decide +kernel
theorem dL_law_541 : decode cL_law 541 = .ok (.invokevirtual 76, 3) := by decide +kernel
theorem dL_law_544 : decode cL_law 544 = .ok (.aload_n 2, 1) := by decide +kernel
theorem dL_law_545 : decode cL_law 545 = .ok (.invokevirtual 79, 3) := by decide +kernel
theorem dL_law_548 : decode cL_law 548 = .ok (.if_icmp .eq 206, 3) := by decide +kernel
theorem dL_law_551 : decode cL_law 551 = .ok (.iconst 0, 1) := by decide +kernel
theorem dL_law_552 : decode cL_law 552 = .ok (.ireturn, 1) := by decide +kernel
theorem dL_law_553 : decode cL_law 553 = .ok (.aload_n 1, 1) := by decide +kernel
theorem dL_law_554 : decode cL_law 554 = .ok (.invokevirtual 80, 3) := by decide +kernel
theorem dL_law_557 : decode cL_law 557 = .ok (.aload_n 2, 1) := by decide +kernel
theorem dL_law_558 : decode cL_law 558 = .ok (.invokevirtual 83, 3) := by decide +kernel
theorem dL_law_561 : decode cL_law 561 = .ok (.if_icmp .eq 193, 3) := by decide +kernel
theorem dL_law_564 : decode cL_law 564 = .ok (.iconst 0, 1) := by decide +kernel
theorem dL_law_565 : decode cL_law 565 = .ok (.ireturn, 1) := by decide +kernel
theorem dL_law_566 : decode cL_law 566 = .ok (.aload_n 1, 1) := by decide +kernel
theorem dL_law_567 : decode cL_law 567 = .ok (.aload_n 0, 1) := by decide +kernel
theorem dL_law_568 : decode cL_law 568 = .ok (.iload_n 3, 1) := by decide +kernel
theorem dL_law_569 : decode cL_law 569 = .ok (.iconst 1, 1) := by decide +kernel
theorem dL_law_570 : decode cL_law 570 = .ok (.iadd, 1) := by decide +kernel
theorem dL_law_571 : decode cL_law 571 = .ok (.iaload, 1) := by decide +kernel
theorem dL_law_572 : decode cL_law 572 = .ok (.invokevirtual 84, 3) := by decide +kernel
theorem dL_law_575 : decode cL_law 575 = .ok (.aload_n 2, 1) := by decide +kernel
theorem dL_law_576 : decode cL_law 576 = .ok (.aload_n 0, 1) := by decide +kernel
theorem dL_law_577 : decode cL_law 577 = .ok (.iload_n 3, 1) := by decide +kernel
theorem dL_law_578 : decode cL_law 578 = .ok (.iconst 1, 1) := by decide +kernel
theorem dL_law_579 : decode cL_law 579 = .ok (.iadd, 1) := by decide +kernel
theorem dL_law_580 : decode cL_law 580 = .ok (.iaload, 1) := by decide +kernel
theorem dL_law_581 : decode cL_law 581 = .ok (.invokevirtual 87, 3) := by decide +kernel
theorem dL_law_584 : decode cL_law 584 = .ok (.if_icmp .eq 170, 3) := by decide +kernel
theorem dL_law_587 : decode cL_law 587 = .ok (.iconst 0, 1) := by decide +kernel
theorem dL_law_588 : decode cL_law 588 = .ok (.ireturn, 1) := by decide +kernel
theorem dL_law_589 : decode cL_law 589 = .ok (.aload_n 1, 1) := by decide +kernel
theorem dL_law_590 : decode cL_law 590 = .ok (.aload_n 0, 1) := by decide +kernel
theorem dL_law_591 : decode cL_law 591 = .ok (.iload_n 3, 1) := by decide +kernel
theorem dL_law_592 : decode cL_law 592 = .ok (.iconst 1, 1) := by decide +kernel
theorem dL_law_593 : decode cL_law 593 = .ok (.iadd, 1) := by decide +kernel
theorem dL_law_594 : decode cL_law 594 = .ok (.iaload, 1) := by decide +kernel
theorem dL_law_595 : decode cL_law 595 = .ok (.invokevirtual 88, 3) := by decide +kernel
theorem dL_law_598 : decode cL_law 598 = .ok (.aload_n 2, 1) := by decide +kernel
theorem dL_law_599 : decode cL_law 599 = .ok (.aload_n 0, 1) := by decide +kernel
theorem dL_law_600 : decode cL_law 600 = .ok (.iload_n 3, 1) := by decide +kernel
theorem dL_law_601 : decode cL_law 601 = .ok (.iconst 1, 1) := by decide +kernel
theorem dL_law_602 : decode cL_law 602 = .ok (.iadd, 1) := by decide +kernel
theorem dL_law_603 : decode cL_law 603 = .ok (.iaload, 1) := by decide +kernel
theorem dL_law_604 : decode cL_law 604 = .ok (.invokevirtual 91, 3) := by decide +kernel
theorem dL_law_607 : decode cL_law 607 = .ok (.if_icmp .eq 147, 3) := by decide +kernel
theorem dL_law_610 : decode cL_law 610 = .ok (.iconst 0, 1) := by decide +kernel
theorem dL_law_611 : decode cL_law 611 = .ok (.ireturn, 1) := by decide +kernel
theorem dL_law_612 : decode cL_law 612 = .ok (.aload_n 1, 1) := by decide +kernel
theorem dL_law_613 : decode cL_law 613 = .ok (.invokevirtual 92, 3) := by decide +kernel
theorem dL_law_616 : decode cL_law 616 = .ok (.aload_n 2, 1) := by decide +kernel
theorem dL_law_617 : decode cL_law 617 = .ok (.invokevirtual 95, 3) := by decide +kernel
theorem dL_law_620 : decode cL_law 620 = .ok (.if_icmp .eq 134, 3) := by decide +kernel
theorem dL_law_623 : decode cL_law 623 = .ok (.iconst 0, 1) := by decide +kernel
theorem dL_law_624 : decode cL_law 624 = .ok (.ireturn, 1) := by decide +kernel
theorem dL_law_625 : decode cL_law 625 = .ok (.aload_n 1, 1) := by decide +kernel
theorem dL_law_626 : decode cL_law 626 = .ok (.invokevirtual 96, 3) := by decide +kernel
theorem dL_law_629 : decode cL_law 629 = .ok (.aload_n 2, 1) := by decide +kernel
theorem dL_law_630 : decode cL_law 630 = .ok (.invokevirtual 99, 3) := by decide +kernel
theorem dL_law_633 : decode cL_law 633 = .ok (.if_icmp .eq 121, 3) := by decide +kernel
theorem dL_law_636 : decode cL_law 636 = .ok (.iconst 0, 1) := by decide +kernel
theorem dL_law_637 : decode cL_law 637 = .ok (.ireturn, 1) := by decide +kernel
theorem dL_law_638 : decode cL_law 638 = .ok (.aload_n 1, 1) := by decide +kernel
theorem dL_law_639 : decode cL_law 639 = .ok (.aload_n 0, 1) := by decide +kernel
theorem dL_law_640 : decode cL_law 640 = .ok (.iload_n 3, 1) := by decide +kernel
theorem dL_law_641 : decode cL_law 641 = .ok (.iconst 1, 1) := by decide +kernel
theorem dL_law_642 : decode cL_law 642 = .ok (.iadd, 1) := by decide +kernel
theorem dL_law_643 : decode cL_law 643 = .ok (.iaload, 1) := by decide +kernel
theorem dL_law_644 : decode cL_law 644 = .ok (.invokevirtual 100, 3) := by decide +kernel
theorem dL_law_647 : decode cL_law 647 = .ok (.aload_n 2, 1) := by decide +kernel
theorem dL_law_648 : decode cL_law 648 = .ok (.aload_n 0, 1) := by decide +kernel
theorem dL_law_649 : decode cL_law 649 = .ok (.iload_n 3, 1) := by decide +kernel
theorem dL_law_650 : decode cL_law 650 = .ok (.iconst 1, 1) := by decide +kernel
theorem dL_law_651 : decode cL_law 651 = .ok (.iadd, 1) := by decide +kernel
theorem dL_law_652 : decode cL_law 652 = .ok (.iaload, 1) := by decide +kernel
theorem dL_law_653 : decode cL_law 653 = .ok (.invokevirtual 104, 3) := by decide +kernel
theorem dL_law_656 : decode cL_law 656 = .ok (.lcmp, 1) := by decide +kernel
theorem dL_law_657 : decode cL_law 657 = .ok (.ifCond .eq 97, 3) := by decide +kernel
theorem dL_law_660 : decode cL_law 660 = .ok (.iconst 0, 1) := by decide +kernel
theorem dL_law_661 : decode cL_law 661 = .ok (.ireturn, 1) := by decide +kernel
theorem dL_law_662 : decode cL_law 662 = .ok (.aload_n 1, 1) := by decide +kernel
theorem dL_law_663 : decode cL_law 663 = .ok (.aload_n 0, 1) := by decide +kernel
theorem dL_law_664 : decode cL_law 664 = .ok (.iload_n 3, 1) := by decide +kernel
theorem dL_law_665 : decode cL_law 665 = .ok (.iconst 1, 1) := by decide +kernel
theorem dL_law_666 : decode cL_law 666 = .ok (.iadd, 1) := by decide +kernel
theorem dL_law_667 : decode cL_law 667 = .ok (.iaload, 1) := by decide +kernel
theorem dL_law_668 : decode cL_law 668 = .ok (.aload_n 0, 1) := by decide +kernel
theorem dL_law_669 : decode cL_law 669 = .ok (.iload_n 3, 1) := by decide +kernel
theorem dL_law_670 : decode cL_law 670 = .ok (.iconst 2, 1) := by decide +kernel
theorem dL_law_671 : decode cL_law 671 = .ok (.iadd, 1) := by decide +kernel
theorem dL_law_672 : decode cL_law 672 = .ok (.iaload, 1) := by decide +kernel
theorem dL_law_673 : decode cL_law 673 = .ok (.aload_n 0, 1) := by decide +kernel
theorem dL_law_674 : decode cL_law 674 = .ok (.iload_n 3, 1) := by decide +kernel
theorem dL_law_675 : decode cL_law 675 = .ok (.iconst 3, 1) := by decide +kernel
theorem dL_law_676 : decode cL_law 676 = .ok (.iadd, 1) := by decide +kernel
theorem dL_law_677 : decode cL_law 677 = .ok (.iaload, 1) := by decide +kernel
theorem dL_law_678 : decode cL_law 678 = .ok (.invokevirtual 105, 3) := by decide +kernel
theorem dL_law_681 : decode cL_law 681 = .ok (.aload_n 2, 1) := by decide +kernel
theorem dL_law_682 : decode cL_law 682 = .ok (.aload_n 0, 1) := by decide +kernel
theorem dL_law_683 : decode cL_law 683 = .ok (.iload_n 3, 1) := by decide +kernel
theorem dL_law_684 : decode cL_law 684 = .ok (.iconst 1, 1) := by decide +kernel
theorem dL_law_685 : decode cL_law 685 = .ok (.iadd, 1) := by decide +kernel
theorem dL_law_686 : decode cL_law 686 = .ok (.iaload, 1) := by decide +kernel
theorem dL_law_687 : decode cL_law 687 = .ok (.aload_n 0, 1) := by decide +kernel
theorem dL_law_688 : decode cL_law 688 = .ok (.iload_n 3, 1) := by decide +kernel
theorem dL_law_689 : decode cL_law 689 = .ok (.iconst 2, 1) := by decide +kernel
theorem dL_law_690 : decode cL_law 690 = .ok (.iadd, 1) := by decide +kernel
theorem dL_law_691 : decode cL_law 691 = .ok (.iaload, 1) := by decide +kernel
theorem dL_law_692 : decode cL_law 692 = .ok (.aload_n 0, 1) := by decide +kernel
theorem dL_law_693 : decode cL_law 693 = .ok (.iload_n 3, 1) := by decide +kernel
theorem dL_law_694 : decode cL_law 694 = .ok (.iconst 3, 1) := by decide +kernel
theorem dL_law_695 : decode cL_law 695 = .ok (.iadd, 1) := by decide +kernel
theorem dL_law_696 : decode cL_law 696 = .ok (.iaload, 1) := by decide +kernel
theorem dL_law_697 : decode cL_law 697 = .ok (.invokevirtual 108, 3) := by decide +kernel
theorem dL_law_700 : decode cL_law 700 = .ok (.if_icmp .eq 54, 3) := by decide +kernel
theorem dL_law_703 : decode cL_law 703 = .ok (.iconst 0, 1) := by decide +kernel
theorem dL_law_704 : decode cL_law 704 = .ok (.ireturn, 1) := by decide +kernel
theorem dL_law_705 : decode cL_law 705 = .ok (.aload_n 1, 1) := by decide +kernel
theorem dL_law_706 : decode cL_law 706 = .ok (.invokevirtual 109, 3) := by decide +kernel
theorem dL_law_709 : decode cL_law 709 = .ok (.aload_n 2, 1) := by decide +kernel
theorem dL_law_710 : decode cL_law 710 = .ok (.invokevirtual 112, 3) := by decide +kernel
theorem dL_law_713 : decode cL_law 713 = .ok (.if_icmp .eq 41, 3) := by decide +kernel
theorem dL_law_716 : decode cL_law 716 = .ok (.iconst 0, 1) := by decide +kernel
theorem dL_law_717 : decode cL_law 717 = .ok (.ireturn, 1) := by decide +kernel
theorem dL_law_718 : decode cL_law 718 = .ok (.aload_n 1, 1) := by decide +kernel
theorem dL_law_719 : decode cL_law 719 = .ok (.invokevirtual 113, 3) := by decide +kernel
theorem dL_law_722 : decode cL_law 722 = .ok (.aload_n 2, 1) := by decide +kernel
theorem dL_law_723 : decode cL_law 723 = .ok (.invokevirtual 116, 3) := by decide +kernel
theorem dL_law_726 : decode cL_law 726 = .ok (.if_icmp .eq 28, 3) := by decide +kernel
theorem dL_law_729 : decode cL_law 729 = .ok (.iconst 0, 1) := by decide +kernel
theorem dL_law_730 : decode cL_law 730 = .ok (.ireturn, 1) := by decide +kernel
theorem dL_law_731 : decode cL_law 731 = .ok (.aload_n 1, 1) := by decide +kernel
theorem dL_law_732 : decode cL_law 732 = .ok (.aload_n 0, 1) := by decide +kernel
theorem dL_law_733 : decode cL_law 733 = .ok (.iload_n 3, 1) := by decide +kernel
theorem dL_law_734 : decode cL_law 734 = .ok (.iconst 1, 1) := by decide +kernel
theorem dL_law_735 : decode cL_law 735 = .ok (.iadd, 1) := by decide +kernel
theorem dL_law_736 : decode cL_law 736 = .ok (.iaload, 1) := by decide +kernel
theorem dL_law_737 : decode cL_law 737 = .ok (.invokevirtual 117, 3) := by decide +kernel
theorem dL_law_740 : decode cL_law 740 = .ok (.aload_n 2, 1) := by decide +kernel
theorem dL_law_741 : decode cL_law 741 = .ok (.aload_n 0, 1) := by decide +kernel
theorem dL_law_742 : decode cL_law 742 = .ok (.iload_n 3, 1) := by decide +kernel
theorem dL_law_743 : decode cL_law 743 = .ok (.iconst 1, 1) := by decide +kernel
theorem dL_law_744 : decode cL_law 744 = .ok (.iadd, 1) := by decide +kernel
theorem dL_law_745 : decode cL_law 745 = .ok (.iaload, 1) := by decide +kernel
theorem dL_law_746 : decode cL_law 746 = .ok (.invokevirtual 120, 3) := by decide +kernel
theorem dL_law_749 : decode cL_law 749 = .ok (.if_icmp .eq 5, 3) := by decide +kernel
theorem dL_law_752 : decode cL_law 752 = .ok (.iconst 0, 1) := by decide +kernel
theorem dL_law_753 : decode cL_law 753 = .ok (.ireturn, 1) := by decide +kernel
theorem dL_law_754 : decode cL_law 754 = .ok (.iinc 3 4, 3) := by decide +kernel
theorem dL_law_757 : decode cL_law 757 = .ok (.goto (-739), 3) := by decide +kernel
theorem dL_law_760 : decode cL_law 760 = .ok (.iconst 1, 1) := by decide +kernel
theorem dL_law_761 : decode cL_law 761 = .ok (.ireturn, 1) := by decide +kernel
end
section
/-! abstract values, memory, shapes -/
abbrev AV : Type := Int ⊕ (Int ⊕ (Nat ⊕ Nat))
abbrev vI (z : Int) : AV := .inl z
abbrev vL (z : Int) : AV := .inr (.inl z)
abbrev vR (k : Nat) : AV := .inr (.inr (.inl k))
abbrev vX (n : Nat) : AV := .inr (.inr (.inr n))
abbrev Mem : Type := Nat → Nat → Int
abbrev PMem : Type := Nat → Nat → Option Nat
def cv (ad : Nat → Nat) : AV → Value
  | .inl z => .int (Int32.ofInt z)
  | .inr (.inl z) => .long (Int64.ofInt z)
  | .inr (.inr (.inl k)) => .ref (ad k)
  | .inr (.inr (.inr _)) => .null
def isV : AV → Bool
  | .inr (.inr (.inr _)) => false
  | _ => true
def isC2 : AV → Bool
  | .inr (.inl _) => true
  | _ => false
def upM (M : Mem) (k j : Nat) (v : Int) : Mem := fun a b => if a = k ∧ b = j then v else M a b
def upP (P : PMem) (k j : Nat) (v : Option Nat) : PMem := fun a b => if a = k ∧ b = j then v else P a b
/-- the shapes of the cells, by their numbers -/
def shp : Nat → Nat × Nat
  | 0 => (9, 0)
  | 1 => (11, 300)
  | 2 => (7, 0)
  | 3 => (11, 6)
  | 4 => (11, 6)
  | 5 => (11, 36)
  | 6 => (4, 0)
  | 7 => (11, 3)
  | 8 => (7, 0)
  | 9 => (11, 6)
  | 10 => (11, 6)
  | 11 => (11, 36)
  | 12 => (0, 0)
  | 13 => (11, 720)
  | 14 => (11, 2048)
  | 15 => (3, 0)
  | 16 => (12, 4320)
  | 17 => (5, 0)
  | 18 => (11, 720)
  | 19 => (11, 720)
  | 20 => (11, 720)
  | 21 => (6, 0)
  | 22 => (11, 720)
  | 23 => (12, 720)
  | 24 => (12, 720)
  | 25 => (8, 0)
  | 26 => (7, 0)
  | 27 => (11, 6)
  | 28 => (11, 6)
  | 29 => (11, 36)
  | 30 => (5, 0)
  | 31 => (3, 0)
  | 32 => (12, 0)
  | 33 => (11, 720)
  | 34 => (11, 720)
  | 35 => (11, 720)
  | 36 => (1, 0)
  | 37 => (2, 0)
  | 38 => (11, 8)
  | 39 => (12, 8)
  | 40 => (11, 8)
  | 41 => (2, 0)
  | 42 => (11, 8)
  | 43 => (12, 8)
  | 44 => (11, 8)
  | 45 => (10, 0)
  | 46 => (11, 6)
  | 47 => (11, 6)
  | 48 => (11, 36)
  | 49 => (11, 6)
  | 50 => (11, 6)
  | 51 => (11, 6)
  | 52 => (11, 48)
  | 53 => (11, 48)
  | 54 => (11, 8)
  | 55 => (11, 12)
  | 56 => (11, 12)
  | 57 => (11, 2)
  | 58 => (11, 300)
  | 59 => (11, 6)
  | 60 => (11, 6)
  | 61 => (11, 36)
  | 62 => (11, 6)
  | 63 => (11, 6)
  | 64 => (11, 6)
  | 65 => (11, 6)
  | 66 => (11, 36)
  | 67 => (11, 46656)
  | 68 => (11, 720)
  | 69 => (11, 720)
  | 70 => (11, 720)
  | 71 => (13, 36)
  | 72 => (13, 720)
  | 73 => (11, 64)
  | 74 => (11, 64)
  | 75 => (12, 720)
  | 76 => (12, 720)
  | _ => (11, 0)
def fks : Nat → List Nat
  | 0 => [0, 2, 2]
  | 1 => [0, 1, 0]
  | 2 => [0, 0, 2, 2, 2]
  | 3 => [2, 2, 2]
  | 4 => [2, 2, 2, 0, 0]
  | 5 => [2, 0, 2, 2, 2, 0, 0]
  | 6 => [2, 2, 2, 2]
  | 7 => [0, 0, 0, 0, 0, 0, 2, 2, 2]
  | 8 => [0, 0, 0, 0, 0, 2, 2, 2, 2]
  | 9 => [2, 0, 2, 2, 2, 2, 2, 2, 2, 2, 2, 2, 2]
  | 10 => [0, 0, 0, 0, 0, 2, 2, 2, 2, 2, 2, 0, 0, 2, 2, 2, 0, 2, 2, 2, 2, 0, 0, 0, 0, 0, 0, 0, 2, 2, 2, 2, 2, 2, 2, 2, 2, 0, 2, 2, 2, 0, 0, 2, 2, 2, 2, 2, 2]
  | _ => []
def fvl (ad : Nat → Nat) (M : Mem) (P : PMem) (k j : Nat) : Nat → Value
  | 0 => .int (Int32.ofInt (M k j))
  | 1 => .long (Int64.ofInt (M k j))
  | _ => va_rf ((P k j).map ad)
abbrev CYT : Type := ClassId × ClassId × ClassId
def ceS (cy : CYT) (ad : Nat → Nat) (M : Mem) (P : PMem) (k : Nat) (sh : Nat × Nat) : va_E :=
  if sh.1 = 11 then .inl (cy.1, sh.2, .inl (fun j => Int32.ofInt (M k j)))
  else if sh.1 = 12 then .inl (cy.2.1, sh.2, .inr (.inl (fun j => Int64.ofInt (M k j))))
  else if sh.1 = 13 then .inl (cy.2.2, sh.2, .inl (fun j => Int32.ofInt (M k j)))
  else .inr (sh.1, (fks sh.1).mapIdx (fun j kd => fvl ad M P k j kd))
def ce (cy : CYT) (ad : Nat → Nat) (M : Mem) (P : PMem) (k : Nat) : va_E := ceS cy ad M P k (shp k)
def wl (cy : CYT) (ad : Nat → Nat) (n : Nat) (M : Mem) (P : PMem) : va_W := (List.range n).map (fun k => (ad k, ce cy ad M P k))
theorem wl_get {cy : CYT} {ad : Nat → Nat} {n k : Nat} {M : Mem} {P : PMem} (h : k < n) : (wl cy ad n M P)[k]? = some (ad k, ce cy ad M P k) := by
  simp [wl, List.getElem?_map, List.getElem?_range, h]
theorem wl_set {cy : CYT} {ad : Nat → Nat} {n k : Nat} {M M' : Mem} {P P' : PMem} (h : k < n) (ho : ∀ i, i ≠ k → ce cy ad M' P' i = ce cy ad M P i) : (wl cy ad n M P).set k (ad k, ce cy ad M' P' k) = wl cy ad n M' P' := by
  apply List.ext_getElem?
  intro i
  by_cases hi : i = k
  · subst hi
    rw [List.getElem?_set_self (by simp [wl, h]), wl_get h]
  · rw [List.getElem?_set_ne (fun e => hi e.symm)]
    by_cases hn : i < n
    · rw [wl_get hn, wl_get hn, ho i hi]
    · simp [wl, List.getElem?_map, hn]
theorem wl_push {cy : CYT} {ad : Nat → Nat} {n q : Nat} {M M' : Mem} {P P' : PMem} (ho : ∀ i, i < n → ce cy (va_up ad n q) M' P' i = ce cy ad M P i) : wl cy ad n M P ++ [(q, ce cy (va_up ad n q) M' P' n)] = wl cy (va_up ad n q) (n + 1) M' P' := by
  apply List.ext_getElem?
  intro i
  by_cases hn : i < n
  · rw [List.getElem?_append_left (by simp [wl, hn]), wl_get hn, wl_get (by omega), ho i hn, va_up_ne _ _ (by omega)]
  · by_cases hi : i = n
    · subst hi
      rw [wl_get (by omega), va_up_self, List.getElem?_append_right (by simp [wl])]
      simp [wl]
    · rw [List.getElem?_append_right (by simp [wl]; omega)]
      simp [wl, List.getElem?_map]
      rw [List.getElem?_eq_none (by simp; omega), List.getElem?_eq_none (by simp; omega)]
      simp
theorem ceS_obj {cy : CYT} {ad : Nat → Nat} {M : Mem} {P : PMem} {k ci z : Nat} (h : shp k = (ci, z)) (hc : ci < 11) : ce cy ad M P k = .inr (ci, (fks ci).mapIdx (fun j kd => fvl ad M P k j kd)) := by
  unfold ce ceS
  rw [h]
  dsimp only
  rw [if_neg (by omega), if_neg (by omega), if_neg (by omega)]
theorem ceS_I {cy : CYT} {ad : Nat → Nat} {M : Mem} {P : PMem} {k z : Nat} (h : shp k = (11, z)) : ce cy ad M P k = .inl (cy.1, z, .inl (fun j => Int32.ofInt (M k j))) := by
  unfold ce ceS; rw [h]; rfl
theorem ceS_J {cy : CYT} {ad : Nat → Nat} {M : Mem} {P : PMem} {k z : Nat} (h : shp k = (12, z)) : ce cy ad M P k = .inl (cy.2.1, z, .inr (.inl (fun j => Int64.ofInt (M k j)))) := by
  unfold ce ceS; rw [h]; rfl
theorem ceS_Z {cy : CYT} {ad : Nat → Nat} {M : Mem} {P : PMem} {k z : Nat} (h : shp k = (13, z)) : ce cy ad M P k = .inl (cy.2.2, z, .inl (fun j => Int32.ofInt (M k j))) := by
  unfold ce ceS; rw [h]; rfl
theorem fvl_congr {ad : Nat → Nat} {M M' : Mem} {P P' : PMem} {k : Nat} (hM : ∀ j, M' k j = M k j) (hP : ∀ j, P' k j = P k j) (j kd : Nat) : fvl ad M' P' k j kd = fvl ad M P k j kd := by
  unfold fvl
  split <;> simp [hM, hP]
theorem ce_congr {cy : CYT} {ad : Nat → Nat} {M M' : Mem} {P P' : PMem} {k : Nat} (hM : ∀ j, M' k j = M k j) (hP : ∀ j, P' k j = P k j) : ce cy ad M' P' k = ce cy ad M P k := by
  unfold ce ceS
  simp only [hM, fvl_congr hM hP]
theorem upM_ne {M : Mem} {k j i : Nat} {v : Int} (h : i ≠ k) (x : Nat) : upM M k j v i x = M i x := by simp [upM, h]
theorem upP_ne {P : PMem} {k j i : Nat} {v : Option Nat} (h : i ≠ k) (x : Nat) : upP P k j v i x = P i x := by simp [upP, h]
theorem upM_self (M : Mem) (k j : Nat) (v : Int) : upM M k j v k j = v := by simp [upM]
theorem upM_nej {M : Mem} {k j x : Nat} {v : Int} (h : x ≠ j) (i : Nat) : upM M k j v i x = M i x := by simp [upM, h]
/-! words -/
def lwG : List Cond := lw_tbl.filter goodWord
def isNest : Cond → Bool
  | .methodLinkNest .. => true
  | _ => false
def lwN : List Cond := lw_tbl.filter isNest
theorem lwG_in {w : Cond} (h : w ∈ lw_tbl) (hg : goodWord w = true) : w ∈ lwG := List.mem_filter.mpr ⟨h, hg⟩
theorem lwN_in {w : Cond} (h : w ∈ lw_tbl) (hg : isNest w = true) : w ∈ lwN := List.mem_filter.mpr ⟨h, hg⟩
theorem lwG_good {w : Cond} (h : w ∈ lwG) : goodWord w = true := (List.mem_filter.mp h).2
theorem lwN_warm {s U : State} (hW : s.WarmedH U.vm) (h : ∀ w ∈ lwN, va_Nw w s) : ∀ w ∈ lwN, va_Nw w U := by
  intro w hw
  have h1 := h w hw
  have h2 := (List.mem_filter.mp hw).2
  cases w <;> simp [isNest] at h2
  exact va_Nw.warmM hW h1
theorem lwN_same {s U : State} (hv : s.vm = U.vm) (h : ∀ w ∈ lwN, va_Nw w s) : ∀ w ∈ lwN, va_Nw w U := by
  intro w hw
  have h1 := h w hw
  have h2 := (List.mem_filter.mp hw).2
  cases w <;> simp [isNest] at h2
  exact va_Nw.same rfl hv h1
abbrev tysC (cy : CYT) : List (ClassId × FieldType) := [(cy.1, .int), (cy.2.1, .long), (cy.2.2, .boolean)]
/-! the context -/
abbrev CX : Type := (Program × Launch × Env × Room × State × MethodId × Array Value × List Frame) × (Method × Code × va_G × CYT) × ((Nat → Prop) × (State → Prop) × (Nat → Nat) × Nat)
abbrev CY : Type := (Nat → Nat) × Nat × Nat × Nat
abbrev xp (X : CX) : Program := X.1.1
abbrev xl (X : CX) : Launch := X.1.2.1
abbrev xe (X : CX) : Env := X.1.2.2.1
abbrev xR (X : CX) : Room := X.1.2.2.2.1
abbrev xs (X : CX) : State := X.1.2.2.2.2.1
abbrev xm (X : CX) : MethodId := X.1.2.2.2.2.2.1
abbrev xargs (X : CX) : Array Value := X.1.2.2.2.2.2.2.1
abbrev xbelow (X : CX) : List Frame := X.1.2.2.2.2.2.2.2
abbrev xmeth (X : CX) : Method := X.2.1.1
abbrev xc (X : CX) : Code := X.2.1.2.1
abbrev xD (X : CX) : va_G := X.2.1.2.2.1
abbrev xcy (X : CX) : CYT := X.2.1.2.2.2
abbrev xA (X : CX) : Nat → Prop := X.2.2.1
abbrev xQ (X : CX) : State → Prop := X.2.2.2.1
abbrev xad (X : CX) : Nat → Nat := X.2.2.2.2.1
abbrev xn (X : CX) : Nat := X.2.2.2.2.2
abbrev ya (Y : CY) : Nat → Nat := Y.1
abbrev yn (Y : CY) : Nat := Y.2.1
abbrev yc (Y : CY) : Nat := Y.2.2.1
abbrev ys (Y : CY) : Nat := Y.2.2.2
def LH (ad : Nat → Nat) (ls : Array Slot) (L : List AV) : Prop := ls.size = L.length ∧ lv_wf ls ∧ ∀ (i : Nat) (v : AV), L[i]? = some v → isV v = true → ls[i]? = some (.val (cv ad v))
def injA (ad : Nat → Nat) (n : Nat) : Prop := ∀ i j, i < n → j < n → ad i = ad j → i = j
/-- what holds throughout a method's walk -/
def OK (X : CX) (Y : CY) (cc : ByteArray) (own : String) (nL : Nat) (rt : Option FieldType) (fr lo nm : Nat) : Prop :=
  ((xp X).tables.exec = Jvm.exec ∧ (xc X).code = cc ∧ (xs X).vm.findClass own = some (xm X).cls ∧ (xc X).maxLocals = nL ∧ (xmeth X).sig.returnType = rt ∧ (xmeth X).locks = false) ∧
  ((∀ w ∈ lwG, w.before (xargs X) (xs X) = true) ∧ (∀ w ∈ lwN, va_Nw w (xs X)) ∧ va_K (xD X) vwCl (tysC (xcy X)) (xs X)) ∧
  (injA (ya Y) (yn Y) ∧ (∀ i, i < yn Y → xA X (ya Y i)) ∧ (∀ q, (xs X).heap.size ≤ q → xA X q)) ∧
  ((xR X).frames = fr ∧ (xR X).locals = lo ∧ yc Y ≤ (xR X).cells ∧ ys Y ≤ (xR X).slots ∧ nm ≤ yn Y) ∧
  (xn X ≤ yn Y ∧ (∀ k, k < xn X → ya Y k = xad X k) ∧ (∀ k, xn X ≤ k → k < yn Y → (xs X).heap.size ≤ ya Y k) ∧ (yn Y = xn X → ya Y = xad X))
abbrev WW (X : CX) (Y : CY) (H : Heap) (locs : List Loc) (g : JFrame) : Prop := W (xp X) (xl X) (xe X) (xR X) (xs X) (xm X) (xargs X) (xbelow X) (xmeth X) (xc X) H locs (yc Y) (ys Y) (xQ X) g
def G (X : CX) (Y : CY) (pc : Nat) (L st : List AV) (M : Mem) (P : PMem) : Prop :=
  ∀ (H : Heap) (locs : List Loc) (ls : Array Slot), va_P (xD X) vwCl (wl (xcy X) (ya Y) (yn Y) M P) H → va_S (xA X) (xs X).heap H locs → LH (ya Y) ls L → WW X Y H locs (F0 (xm X) pc ls (st.map (cv (ya Y))))
theorem wl_D {cy : CYT} {ad : Nat → Nat} {n : Nat} {A : Nat → Prop} {M : Mem} {P : PMem} (hi : injA ad n) (hA : ∀ i, i < n → A (ad i)) : va_D A (wl cy ad n M P) := by
  have key : ∀ (i : Nat) (p : Nat × va_E), (wl cy ad n M P)[i]? = some p → i < n ∧ p.1 = ad i := by
    intro i p h
    have hl := (List.getElem?_eq_some_iff.mp h).1
    have hn : i < n := by simpa [wl] using hl
    rw [wl_get hn] at h
    cases h
    exact ⟨hn, rfl⟩
  refine ⟨fun i j p q h1 h2 e => ?_, fun k q h => ?_⟩
  · obtain ⟨a1, a2⟩ := key i p h1
    obtain ⟨b1, b2⟩ := key j q h2
    exact hi i j a1 b1 (by rw [← a2, ← b2, e])
  · obtain ⟨a1, a2⟩ := key k q h
    rw [a2]; exact hA k a1
section LAY
variable {X : CX} {Y : CY} {cc : ByteArray} {own : String} {nL : Nat} {rt : Option FieldType} {fr lo nm : Nat} {pc : Nat} {L st : List AV} {M : Mem} {P : PMem}
theorem OK.x (hC : OK X Y cc own nL rt fr lo nm) : (xp X).tables.exec = Jvm.exec := hC.1.1
theorem OK.b (hC : OK X Y cc own nL rt fr lo nm) : (xc X).code = cc := hC.1.2.1
theorem OK.o (hC : OK X Y cc own nL rt fr lo nm) : (xs X).vm.findClass own = some (xm X).cls := hC.1.2.2.1
theorem OK.r (hC : OK X Y cc own nL rt fr lo nm) : (xmeth X).sig.returnType = rt := hC.1.2.2.2.2.1
theorem OK.w (hC : OK X Y cc own nL rt fr lo nm) : ∀ w ∈ lwG, w.before (xargs X) (xs X) = true := hC.2.1.1
theorem OK.K (hC : OK X Y cc own nL rt fr lo nm) : va_K (xD X) vwCl (tysC (xcy X)) (xs X) := hC.2.1.2.2
theorem OK.D (hC : OK X Y cc own nL rt fr lo nm) : va_D (xA X) (wl (xcy X) (ya Y) (yn Y) M P) := wl_D hC.2.2.1.1 hC.2.2.1.2.1
theorem OK.n (hC : OK X Y cc own nL rt fr lo nm) {k : Nat} (h : k < nm) : k < yn Y := Nat.lt_of_lt_of_le h hC.2.2.2.1.2.2.2.2
theorem G_cast {L' st' : List AV} {M' : Mem} {P' : PMem} (h : G X Y pc L' st' M' P') (h1 : L = L') (h2 : st = st') (h3 : M = M') (h4 : P = P') : G X Y pc L st M P := by
  subst h1; subst h2; subst h3; subst h4; exact h
/-! constants -/
theorem G_iconst {n : Int} (hC : OK X Y cc own nL rt fr lo nm) (d : decode cc pc = .ok (.iconst n, 1)) (k : G X Y (pc + 1) L (vI n :: st) M P) : G X Y pc L st M P :=
  fun H locs ls h1 h2 h3 => lv_iconst hC.x hC.b d rfl (k H locs ls h1 h2 h3)
theorem G_bipush {n : Int} (hC : OK X Y cc own nL rt fr lo nm) (d : decode cc pc = .ok (.bipush n, 2)) (hn : (Int8.ofInt n).toInt32 = Int32.ofInt n) (k : G X Y (pc + 2) L (vI n :: st) M P) : G X Y pc L st M P :=
  fun H locs ls h1 h2 h3 => lv_bipush hC.x hC.b d hn (k H locs ls h1 h2 h3)
theorem G_sipush {n : Int} (hC : OK X Y cc own nL rt fr lo nm) (d : decode cc pc = .ok (.sipush n, 3)) (hn : (Int16.ofInt n).toInt32 = Int32.ofInt n) (k : G X Y (pc + 3) L (vI n :: st) M P) : G X Y pc L st M P :=
  fun H locs ls h1 h2 h3 => lv_sipush hC.x hC.b d hn (k H locs ls h1 h2 h3)
theorem G_lconst {n : Fin 2} {z : Int} (hC : OK X Y cc own nL rt fr lo nm) (d : decode cc pc = .ok (.lconst n, 1)) (hz : Int64.ofNat (n : Nat) = Int64.ofInt z) (k : G X Y (pc + 1) L (vL z :: st) M P) : G X Y pc L st M P :=
  fun H locs ls h1 h2 h3 => lv_lconst hC.x hC.b d hz (k H locs ls h1 h2 h3)
theorem G_ldc {idx : Nat} {v : Int32} {z : Int} (hC : OK X Y cc own nL rt fr lo nm) (hw : Cond.constant own idx v ∈ lwG) (hv : v = Int32.ofInt z) (d : decode cc pc = .ok (.ldc idx, 2)) (k : G X Y (pc + 2) L (vI z :: st) M P) : G X Y pc L st M P := by
  subst hv
  exact fun H locs ls h1 h2 h3 => lv_ldc hC.x hC.b hC.o (hC.w _ hw) d (k H locs ls h1 h2 h3)
theorem G_ldc2 {idx : Nat} {v : Int64} {z : Int} (hC : OK X Y cc own nL rt fr lo nm) (hw : Cond.constantLong own idx v ∈ lwG) (hv : v = Int64.ofInt z) (d : decode cc pc = .ok (.ldc2_w idx, 3)) (k : G X Y (pc + 3) L (vL z :: st) M P) : G X Y pc L st M P := by
  subst hv
  exact fun H locs ls h1 h2 h3 => lv_ldc2 hC.x hC.b hC.o (hC.w _ hw) d (k H locs ls h1 h2 h3)
/-! locals -/
theorem LH.get {ad : Nat → Nat} {ls : Array Slot} {i : Nat} {v : AV} (h : LH ad ls L) (hi : L[i]? = some v) (hv : isV v = true) : ls[i]? = some (.val (cv ad v)) := h.2.2 i v hi hv
theorem G_iload_n {k : Fin 4} {i : Nat} {z : Int} (hC : OK X Y cc own nL rt fr lo nm) (d : decode cc pc = .ok (.iload_n k, 1)) (hk : (k : Nat) = i) (hi : L[i]? = some (vI z)) (kk : G X Y (pc + 1) L (vI z :: st) M P) : G X Y pc L st M P :=
  fun H locs ls h1 h2 h3 => lv_iload_n hC.x hC.b d hk (h3.get hi rfl) (kk H locs ls h1 h2 h3)
theorem G_iload {i : Nat} {z : Int} (hC : OK X Y cc own nL rt fr lo nm) (d : decode cc pc = .ok (.iload i, 2)) (hi : L[i]? = some (vI z)) (kk : G X Y (pc + 2) L (vI z :: st) M P) : G X Y pc L st M P :=
  fun H locs ls h1 h2 h3 => lv_iload hC.x hC.b d (h3.get hi rfl) (kk H locs ls h1 h2 h3)
theorem G_lload_n {k : Fin 4} {i : Nat} {z : Int} (hC : OK X Y cc own nL rt fr lo nm) (d : decode cc pc = .ok (.lload_n k, 1)) (hk : (k : Nat) = i) (hi : L[i]? = some (vL z)) (kk : G X Y (pc + 1) L (vL z :: st) M P) : G X Y pc L st M P :=
  fun H locs ls h1 h2 h3 => lv_lload_n hC.x hC.b d hk (h3.get hi rfl) (kk H locs ls h1 h2 h3)
theorem G_lload {i : Nat} {z : Int} (hC : OK X Y cc own nL rt fr lo nm) (d : decode cc pc = .ok (.lload i, 2)) (hi : L[i]? = some (vL z)) (kk : G X Y (pc + 2) L (vL z :: st) M P) : G X Y pc L st M P :=
  fun H locs ls h1 h2 h3 => lv_lload hC.x hC.b d (h3.get hi rfl) (kk H locs ls h1 h2 h3)
theorem G_aload_n {k : Fin 4} {i : Nat} {z : Nat} (hC : OK X Y cc own nL rt fr lo nm) (d : decode cc pc = .ok (.aload_n k, 1)) (hk : (k : Nat) = i) (hi : L[i]? = some (vR z)) (kk : G X Y (pc + 1) L (vR z :: st) M P) : G X Y pc L st M P :=
  fun H locs ls h1 h2 h3 => lv_aload_n hC.x hC.b d hk (h3.get hi rfl) (kk H locs ls h1 h2 h3)
theorem G_aload {i : Nat} {z : Nat} (hC : OK X Y cc own nL rt fr lo nm) (d : decode cc pc = .ok (.aload i, 2)) (hi : L[i]? = some (vR z)) (kk : G X Y (pc + 2) L (vR z :: st) M P) : G X Y pc L st M P :=
  fun H locs ls h1 h2 h3 => lv_aload hC.x hC.b d (h3.get hi rfl) (kk H locs ls h1 h2 h3)
/-- what is known of the locals, as the kit's rows have it -/
def lvAs (ad : Nat → Nat) (i : Nat) : List AV → List (Nat × Value)
  | [] => []
  | v :: l => if isV v = true then (i, cv ad v) :: lvAs ad (i + 1) l else lvAs ad (i + 1) l
theorem lvAs_mem {ad : Nat → Nat} : ∀ (l : List AV) (i : Nat) (q : Nat × Value), q ∈ lvAs ad i l ↔ ∃ j v, l[j]? = some v ∧ isV v = true ∧ q = (i + j, cv ad v)
  | [], i, q => by simp [lvAs]
  | v :: l, i, q => by
    have ih := lvAs_mem (ad := ad) l (i + 1) q
    unfold lvAs
    constructor
    · intro h
      by_cases hv : isV v = true
      · rw [if_pos hv] at h
        rcases List.mem_cons.mp h with h | h
        · exact ⟨0, v, rfl, hv, by simpa using h⟩
        · obtain ⟨j, w, a, b, c⟩ := ih.mp h
          exact ⟨j + 1, w, by simpa using a, b, by rw [c]; congr 1; omega⟩
      · rw [if_neg hv] at h
        obtain ⟨j, w, a, b, c⟩ := ih.mp h
        exact ⟨j + 1, w, by simpa using a, b, by rw [c]; congr 1; omega⟩
    · rintro ⟨j, w, a, b, c⟩
      cases j with
      | zero =>
        have : v = w := by simpa using a
        subst this
        rw [if_pos b]
        exact List.mem_cons.mpr (Or.inl (by simpa using c))
      | succ j =>
        have h2 := ih.mpr ⟨j, w, by simpa using a, b, by rw [c]; congr 1; omega⟩
        by_cases hv : isV v = true
        · rw [if_pos hv]; exact List.mem_cons_of_mem _ h2
        · rw [if_neg hv]; exact h2
theorem LH.has {ad : Nat → Nat} {ls : Array Slot} (h : LH ad ls L) : lv_has ls L.length (lvAs ad 0 L) := by
  refine ⟨h.1, h.2.1, fun q hq => ?_⟩
  obtain ⟨j, v, a, b, rfl⟩ := (lvAs_mem L 0 q).mp hq
  simpa using h.2.2 j v a b
theorem cv_cat2 {ad : Nat → Nat} {v : AV} (h : isC2 v = false) : ((cv ad v).category == 2) = false := by
  rcases v with z | z | z | z
  · rfl
  · simp [isC2] at h
  · rfl
  · rfl
/-- behind a store of one slot: the place before it holds no long -/
theorem LH.st1 {ad : Nat → Nat} {ls : Array Slot} {i : Nat} {v : AV} {L' : List AV} (hl : lv_has ls L.length ((i, cv ad v) :: (lvAs ad 0 L).filter (fun q => !(q.1 == i) && !(q.1 + 1 == i && q.2.category == 2)))) (hL : L' = L.set i v) (hp : ∀ w, i ≠ 0 → L[i - 1]? = some w → isC2 w = false) (hv : isV v = true) : LH ad ls L' := by
  subst hL
  refine ⟨by rw [List.length_set]; exact hl.1, hl.2.1, fun j w hj hw => ?_⟩
  by_cases hji : j = i
  · subst hji
    have hlt : j < L.length := by
      have := (List.getElem?_eq_some_iff.mp hj).1
      simpa using this
    rw [List.getElem?_set_self hlt] at hj
    cases hj
    exact hl.2.2 (j, cv ad v) List.mem_cons_self
  · rw [List.getElem?_set_ne (fun e => hji e.symm)] at hj
    have hm : (j, cv ad w) ∈ lvAs ad 0 L := (lvAs_mem L 0 _).mpr ⟨j, w, hj, hw, by simp⟩
    refine hl.2.2 (j, cv ad w) (List.mem_cons_of_mem _ (List.mem_filter.mpr ⟨hm, ?_⟩))
    have e1 : (j == i) = false := by simpa using hji
    have e2 : ((j + 1 == i) && (cv ad w).category == 2) = false := by
      by_cases h : j + 1 = i
      · have : isC2 w = false := hp w (by omega) (by rw [show i - 1 = j by omega]; exact hj)
        rw [cv_cat2 this]; simp
      · have : (j + 1 == i) = false := by simpa using h
        rw [this]; rfl
    simp only [e1, e2]; rfl
theorem LH.st2 {ad : Nat → Nat} {ls : Array Slot} {i : Nat} {v : AV} {L' : List AV} (hl : lv_has ls L.length ((i, cv ad v) :: (lvAs ad 0 L).filter (fun q => !(q.1 == i) && (!(q.1 == i + 1) && !(q.1 + 1 == i && q.2.category == 2))))) (hL : L' = (L.set i v).set (i + 1) (vX 1)) (hp : ∀ w, i ≠ 0 → L[i - 1]? = some w → isC2 w = false) (hv : isV v = true) : LH ad ls L' := by
  subst hL
  refine ⟨by rw [List.length_set, List.length_set]; exact hl.1, hl.2.1, fun j w hj hw => ?_⟩
  by_cases hj1 : j = i + 1
  · subst hj1
    have hlt : i + 1 < (L.set i v).length := by
      have := (List.getElem?_eq_some_iff.mp hj).1
      simpa using this
    rw [List.getElem?_set_self hlt] at hj
    cases hj
    simp [isV] at hw
  · rw [List.getElem?_set_ne (fun e => hj1 e.symm)] at hj
    by_cases hji : j = i
    · subst hji
      have hlt : j < L.length := by
        have := (List.getElem?_eq_some_iff.mp hj).1
        simpa using this
      rw [List.getElem?_set_self hlt] at hj
      cases hj
      exact hl.2.2 (j, cv ad v) List.mem_cons_self
    · rw [List.getElem?_set_ne (fun e => hji e.symm)] at hj
      have hm : (j, cv ad w) ∈ lvAs ad 0 L := (lvAs_mem L 0 _).mpr ⟨j, w, hj, hw, by simp⟩
      refine hl.2.2 (j, cv ad w) (List.mem_cons_of_mem _ (List.mem_filter.mpr ⟨hm, ?_⟩))
      have e1 : (j == i) = false := by simpa using hji
      have e3 : (j == i + 1) = false := by simpa using hj1
      have e2 : ((j + 1 == i) && (cv ad w).category == 2) = false := by
        by_cases h : j + 1 = i
        · have : isC2 w = false := hp w (by omega) (by rw [show i - 1 = j by omega]; exact hj)
          rw [cv_cat2 this]; simp
        · have : (j + 1 == i) = false := by simpa using h
          rw [this]; rfl
      simp only [e1, e2, e3]; rfl
/-- the place before i holds no long -/
def noL (L : List AV) (i : Nat) : Bool := match i with
  | 0 => true
  | j + 1 => match L[j]? with
    | some w => !isC2 w
    | none => true
theorem noL_ok {i : Nat} (h : noL L i = true) : ∀ w, i ≠ 0 → L[i - 1]? = some w → isC2 w = false := by
  intro w h0 hw
  cases i with
  | zero => exact absurd rfl h0
  | succ j =>
    simp only [noL, Nat.add_sub_cancel] at h hw
    rw [hw] at h
    simpa using h
theorem G_istore_n {k : Fin 4} {i : Nat} {z : Int} {L' : List AV} (hC : OK X Y cc own nL rt fr lo nm) (d : decode cc pc = .ok (.istore_n k, 1)) (hk : (k : Nat) = i) (hi : i < L.length) (hn : noL L i = true) (hL : L' = L.set i (vI z)) (kk : G X Y (pc + 1) L' st M P) : G X Y pc L (vI z :: st) M P :=
  fun H locs ls h1 h2 h3 => lv_istore_n hC.x hC.b d hk h3.has hi rfl (fun ls' hl => kk H locs ls' h1 h2 (LH.st1 (v := vI z) hl hL (noL_ok hn) rfl))
theorem G_istore {i : Nat} {z : Int} {L' : List AV} (hC : OK X Y cc own nL rt fr lo nm) (d : decode cc pc = .ok (.istore i, 2)) (hi : i < L.length) (hn : noL L i = true) (hL : L' = L.set i (vI z)) (kk : G X Y (pc + 2) L' st M P) : G X Y pc L (vI z :: st) M P :=
  fun H locs ls h1 h2 h3 => lv_istore hC.x hC.b d h3.has hi rfl (fun ls' hl => kk H locs ls' h1 h2 (LH.st1 (v := vI z) hl hL (noL_ok hn) rfl))
theorem G_astore_n {k : Fin 4} {i : Nat} {z : Nat} {L' : List AV} (hC : OK X Y cc own nL rt fr lo nm) (d : decode cc pc = .ok (.astore_n k, 1)) (hk : (k : Nat) = i) (hi : i < L.length) (hn : noL L i = true) (hL : L' = L.set i (vR z)) (kk : G X Y (pc + 1) L' st M P) : G X Y pc L (vR z :: st) M P :=
  fun H locs ls h1 h2 h3 => lv_astore_n hC.x hC.b d hk h3.has hi rfl (fun ls' hl => kk H locs ls' h1 h2 (LH.st1 (v := vR z) hl hL (noL_ok hn) rfl))
theorem G_astore {i : Nat} {z : Nat} {L' : List AV} (hC : OK X Y cc own nL rt fr lo nm) (d : decode cc pc = .ok (.astore i, 2)) (hi : i < L.length) (hn : noL L i = true) (hL : L' = L.set i (vR z)) (kk : G X Y (pc + 2) L' st M P) : G X Y pc L (vR z :: st) M P :=
  fun H locs ls h1 h2 h3 => lv_astore hC.x hC.b d h3.has hi rfl (fun ls' hl => kk H locs ls' h1 h2 (LH.st1 (v := vR z) hl hL (noL_ok hn) rfl))
theorem G_lstore_n {k : Fin 4} {i : Nat} {z : Int} {L' : List AV} (hC : OK X Y cc own nL rt fr lo nm) (d : decode cc pc = .ok (.lstore_n k, 1)) (hk : (k : Nat) = i) (hi : i + 1 < L.length) (hn : noL L i = true) (hL : L' = (L.set i (vL z)).set (i + 1) (vX 1)) (kk : G X Y (pc + 1) L' st M P) : G X Y pc L (vL z :: st) M P :=
  fun H locs ls h1 h2 h3 => lv_lstore_n hC.x hC.b d hk h3.has hi rfl (fun ls' hl => kk H locs ls' h1 h2 (LH.st2 (v := vL z) hl hL (noL_ok hn) rfl))
theorem G_lstore {i : Nat} {z : Int} {L' : List AV} (hC : OK X Y cc own nL rt fr lo nm) (d : decode cc pc = .ok (.lstore i, 2)) (hi : i + 1 < L.length) (hn : noL L i = true) (hL : L' = (L.set i (vL z)).set (i + 1) (vX 1)) (kk : G X Y (pc + 2) L' st M P) : G X Y pc L (vL z :: st) M P :=
  fun H locs ls h1 h2 h3 => lv_lstore hC.x hC.b d h3.has hi rfl (fun ls' hl => kk H locs ls' h1 h2 (LH.st2 (v := vL z) hl hL (noL_ok hn) rfl))
theorem G_iinc {i : Nat} {c z : Int} {L' : List AV} (hC : OK X Y cc own nL rt fr lo nm) (d : decode cc pc = .ok (.iinc i c, 3)) (hg : L[i]? = some (vI z)) (hn : noL L i = true) (hL : L' = L.set i (vI (z + c))) (kk : G X Y (pc + 3) L' st M P) : G X Y pc L st M P := by
  intro H locs ls h1 h2 h3
  have hi : i < L.length := (List.getElem?_eq_some_iff.mp hg).1
  obtain ⟨k, hk⟩ := List.getElem?_of_mem ((lvAs_mem (ad := ya Y) L 0 (i, cv (ya Y) (vI z))).mpr ⟨i, vI z, hg, rfl, by simp⟩)
  exact lv_iinc hC.x hC.b d h3.has hk (show Int32.ofInt z + Int32.ofInt c = Int32.ofInt (z + c) from (Int32.ofInt_add z c).symm) hi rfl (fun ls' hl => kk H locs ls' h1 h2 (LH.st1 (v := vI (z + c)) hl hL (noL_ok hn) rfl))
/-! arithmetic -/
theorem G_iadd {a b : Int} (hC : OK X Y cc own nL rt fr lo nm) (d : decode cc pc = .ok (.iadd, 1)) (k : G X Y (pc + 1) L (vI (a + b) :: st) M P) : G X Y pc L (vI b :: vI a :: st) M P := by
  intro H locs ls h1 h2 h3
  have h := k H locs ls h1 h2 h3
  simp only [List.map, cv, Int32.ofInt_add] at h ⊢
  exact lv_iadd hC.x hC.b d h
theorem G_isub {a b : Int} (hC : OK X Y cc own nL rt fr lo nm) (d : decode cc pc = .ok (.isub, 1)) (k : G X Y (pc + 1) L (vI (a - b) :: st) M P) : G X Y pc L (vI b :: vI a :: st) M P := by
  intro H locs ls h1 h2 h3
  have h := k H locs ls h1 h2 h3
  simp only [List.map, cv, Int32.ofInt_sub] at h ⊢
  exact lv_isub hC.x hC.b d h
theorem G_imul {a b : Int} (hC : OK X Y cc own nL rt fr lo nm) (d : decode cc pc = .ok (.imul, 1)) (k : G X Y (pc + 1) L (vI (a * b) :: st) M P) : G X Y pc L (vI b :: vI a :: st) M P := by
  intro H locs ls h1 h2 h3
  have h := k H locs ls h1 h2 h3
  simp only [List.map, cv, Int32.ofInt_mul] at h ⊢
  exact lv_imul hC.x hC.b d h
theorem G_ineg {a : Int} (hC : OK X Y cc own nL rt fr lo nm) (d : decode cc pc = .ok (.ineg, 1)) (k : G X Y (pc + 1) L (vI (-a) :: st) M P) : G X Y pc L (vI a :: st) M P := by
  intro H locs ls h1 h2 h3
  have h := k H locs ls h1 h2 h3
  simp only [List.map, cv, Int32.ofInt_neg] at h ⊢
  exact lv_ineg hC.x hC.b d h
theorem G_ladd {a b : Int} (hC : OK X Y cc own nL rt fr lo nm) (d : decode cc pc = .ok (.ladd, 1)) (k : G X Y (pc + 1) L (vL (a + b) :: st) M P) : G X Y pc L (vL b :: vL a :: st) M P := by
  intro H locs ls h1 h2 h3
  have h := k H locs ls h1 h2 h3
  simp only [List.map, cv, Int64.ofInt_add] at h ⊢
  exact lv_ladd hC.x hC.b d h
theorem G_lsub {a b : Int} (hC : OK X Y cc own nL rt fr lo nm) (d : decode cc pc = .ok (.lsub, 1)) (k : G X Y (pc + 1) L (vL (a - b) :: st) M P) : G X Y pc L (vL b :: vL a :: st) M P := by
  intro H locs ls h1 h2 h3
  have h := k H locs ls h1 h2 h3
  simp only [List.map, cv, Int64.ofInt_sub] at h ⊢
  exact lv_lsub hC.x hC.b d h
theorem G_lmul {a b : Int} (hC : OK X Y cc own nL rt fr lo nm) (d : decode cc pc = .ok (.lmul, 1)) (k : G X Y (pc + 1) L (vL (a * b) :: st) M P) : G X Y pc L (vL b :: vL a :: st) M P := by
  intro H locs ls h1 h2 h3
  have h := k H locs ls h1 h2 h3
  simp only [List.map, cv, Int64.ofInt_mul] at h ⊢
  exact lv_lmul hC.x hC.b d h
end LAY
end
section
/-! numbers -/
theorem i32_t {z : Int} (h : -2147483648 ≤ z ∧ z ≤ 2147483647) : (Int32.ofInt z).toInt = z := Int32.toInt_ofInt_of_le (by omega) (by omega)
theorem i64_t {z : Int} (h : -9223372036854775808 ≤ z ∧ z ≤ 9223372036854775807) : (Int64.ofInt z).toInt = z := Int64.toInt_ofInt_of_le (by omega) (by omega)
theorem i32_r (x : Int32) : -2147483648 ≤ x.toInt ∧ x.toInt ≤ 2147483647 := by
  have h1 := Int32.le_toInt x
  have h2 := Int32.toInt_lt x
  omega
theorem i64_r (x : Int64) : -9223372036854775808 ≤ x.toInt ∧ x.toInt ≤ 9223372036854775807 := by
  have h1 := Int64.le_toInt x
  have h2 := Int64.toInt_lt x
  omega
theorem i32_lt {a b : Int} (ha : -2147483648 ≤ a ∧ a ≤ 2147483647) (hb : -2147483648 ≤ b ∧ b ≤ 2147483647) : Int32.ofInt a < Int32.ofInt b ↔ a < b := by
  rw [Int32.lt_iff_toInt_lt, i32_t ha, i32_t hb]
theorem i32_le {a b : Int} (ha : -2147483648 ≤ a ∧ a ≤ 2147483647) (hb : -2147483648 ≤ b ∧ b ≤ 2147483647) : Int32.ofInt a ≤ Int32.ofInt b ↔ a ≤ b := by
  rw [Int32.le_iff_toInt_le, i32_t ha, i32_t hb]
theorem i32_eq {a b : Int} (ha : -2147483648 ≤ a ∧ a ≤ 2147483647) (hb : -2147483648 ≤ b ∧ b ≤ 2147483647) : Int32.ofInt a = Int32.ofInt b ↔ a = b := by
  rw [← Int32.toInt_inj, i32_t ha, i32_t hb]
theorem i64_lt {a b : Int} (ha : -9223372036854775808 ≤ a ∧ a ≤ 9223372036854775807) (hb : -9223372036854775808 ≤ b ∧ b ≤ 9223372036854775807) : Int64.ofInt a < Int64.ofInt b ↔ a < b := by
  rw [Int64.lt_iff_toInt_lt, i64_t ha, i64_t hb]
theorem i64_eq {a b : Int} (ha : -9223372036854775808 ≤ a ∧ a ≤ 9223372036854775807) (hb : -9223372036854775808 ≤ b ∧ b ≤ 9223372036854775807) : Int64.ofInt a = Int64.ofInt b ↔ a = b := by
  rw [← Int64.toInt_inj, i64_t ha, i64_t hb]
theorem i32_0 : Int32.ofInt 0 = 0 := rfl
theorem i32_N (n : Nat) (h : n < 2 ^ 31) : Int32.ofInt (n : Int) = nI n := by
  rw [← Int32.toInt_inj, i32_t (by omega), nI_toInt h]
theorem i64_N (n : Nat) (h : n < 2 ^ 63) : Int64.ofInt (n : Int) = lN n := by
  rw [← Int64.toInt_inj, i64_t (by omega), pk_lT h]
theorem i32_clamp {z : Int} (h : 0 ≤ z ∧ z ≤ 2147483647) : (Int32.ofInt z).toNatClampNeg = z.toNat := by
  have h1 : z = (z.toNat : Int) := by omega
  rw [h1, i32_N _ (by omega), nI_clamp (by omega)]
  omega
theorem i32_in {z : Int} {n : Nat} (h : 0 ≤ z ∧ z < n) (hn : n < 2147483648) : vp_in (Int32.ofInt z) n := by
  rw [vp_in_iff, i32_t (by omega)]; omega
theorem i32_div {a b : Int} (ha : 0 ≤ a ∧ a ≤ 2147483647) (hb : 0 < b ∧ b ≤ 2147483647) : Int32.ofInt a / Int32.ofInt b = Int32.ofInt (a / b) := by
  obtain ⟨m, rfl⟩ : ∃ m : Nat, a = (m : Int) := ⟨a.toNat, by omega⟩
  obtain ⟨n, rfl⟩ : ∃ n : Nat, b = (n : Int) := ⟨b.toNat, by omega⟩
  have h1 : m / n ≤ m := Nat.div_le_self m n
  rw [i32_N m (by omega), i32_N n (by omega), pk_div (by omega) (by omega) (by omega), ← i32_N _ (by omega)]
  rfl
theorem i32_rem {a b : Int} (ha : 0 ≤ a ∧ a ≤ 2147483647) (hb : 0 < b ∧ b ≤ 2147483647) : Int32.ofInt a - Int32.ofInt a / Int32.ofInt b * Int32.ofInt b = Int32.ofInt (a % b) := by
  obtain ⟨m, rfl⟩ : ∃ m : Nat, a = (m : Int) := ⟨a.toNat, by omega⟩
  obtain ⟨n, rfl⟩ : ∃ n : Nat, b = (n : Int) := ⟨b.toNat, by omega⟩
  have h1 : m % n ≤ m := Nat.mod_le m n
  rw [i32_N m (by omega), i32_N n (by omega), pk_rem (by omega) (by omega) (by omega), ← i32_N _ (by omega)]
  rfl
theorem i64_rem {a b : Int} (ha : 0 ≤ a ∧ a ≤ 9223372036854775807) (hb : 0 < b ∧ b ≤ 9223372036854775807) : Int64.ofInt a - Int64.ofInt a / Int64.ofInt b * Int64.ofInt b = Int64.ofInt (a % b) := by
  obtain ⟨m, rfl⟩ : ∃ m : Nat, a = (m : Int) := ⟨a.toNat, by omega⟩
  obtain ⟨n, rfl⟩ : ∃ n : Nat, b = (n : Int) := ⟨b.toNat, by omega⟩
  have h1 : m % n ≤ m := Nat.mod_le m n
  rw [i64_N m (by omega), i64_N n (by omega), pk_lRem (by omega) (by omega) (by omega), ← i64_N _ (by omega)]
  rfl
theorem i32_ne0 {b : Int} (hb : 0 < b ∧ b ≤ 2147483647) : ¬ Int32.ofInt b = 0 := by
  rw [← i32_0, i32_eq (by omega) (by omega)]; omega
theorem i64_ne0 {b : Int} (hb : 0 < b ∧ b ≤ 9223372036854775807) : ¬ Int64.ofInt b = 0 := by
  rw [show (0 : Int64) = Int64.ofInt 0 from rfl, i64_eq (by omega) (by omega)]; omega
theorem i2l_t {a : Int} (ha : -2147483648 ≤ a ∧ a ≤ 2147483647) : (Int32.ofInt a).toInt64 = Int64.ofInt a := by
  rw [← Int64.toInt_inj, Int32.toInt_toInt64, i32_t ha, i64_t (by omega)]
theorem l2i_t (a : Int) : (Int64.ofInt a).toInt32 = Int32.ofInt a := by
  first | exact Int64.toInt32_ofInt a | simp
/-! bits -/
def bAnd (a b : Int) : Int := (Int32.ofInt a &&& Int32.ofInt b).toInt
def lAnd (a b : Int) : Int := (Int64.ofInt a &&& Int64.ofInt b).toInt
def bOr (a b : Int) : Int := (Int32.ofInt a ||| Int32.ofInt b).toInt
def lOr (a b : Int) : Int := (Int64.ofInt a ||| Int64.ofInt b).toInt
def bXor (a b : Int) : Int := (Int32.ofInt a ^^^ Int32.ofInt b).toInt
def lXor (a b : Int) : Int := (Int64.ofInt a ^^^ Int64.ofInt b).toInt
def bShl (a s : Int) : Int := (Int32.ofInt a <<< (Int32.ofInt s &&& 31)).toInt
def bShr (a s : Int) : Int := (Int32.ofInt a >>> (Int32.ofInt s &&& 31)).toInt
def bUsh (a s : Int) : Int := ((Int32.ofInt a).toUInt32 >>> ((Int32.ofInt s).toUInt32 &&& Int32.toUInt32 31)).toInt32.toInt
def lShl (a s : Int) : Int := (Int64.ofInt a <<< ((Int32.ofInt s).toInt64 &&& 63)).toInt
def lShr (a s : Int) : Int := (Int64.ofInt a >>> ((Int32.ofInt s).toInt64 &&& 63)).toInt
def lUsh (a s : Int) : Int := ((Int64.ofInt a).toUInt64 >>> ((Int32.ofInt s).toInt64.toUInt64 &&& Int64.toUInt64 63)).toInt64.toInt
section LAY3
variable {X : CX} {Y : CY} {cc : ByteArray} {own : String} {nL : Nat} {rt : Option FieldType} {fr lo nm : Nat} {pc : Nat} {L st : List AV} {M : Mem} {P : PMem}
theorem G_iand {a b : Int} (hC : OK X Y cc own nL rt fr lo nm) (d : decode cc pc = .ok (.iand, 1)) (k : G X Y (pc + 1) L (vI (bAnd a b) :: st) M P) : G X Y pc L (vI b :: vI a :: st) M P := by
  intro H locs ls h1 h2 h3
  have h := k H locs ls h1 h2 h3
  simp only [List.map, cv, bAnd, Int32.ofInt_toInt] at h ⊢
  exact lv_iand hC.x hC.b d h
theorem G_ior {a b : Int} (hC : OK X Y cc own nL rt fr lo nm) (d : decode cc pc = .ok (.ior, 1)) (k : G X Y (pc + 1) L (vI (bOr a b) :: st) M P) : G X Y pc L (vI b :: vI a :: st) M P := by
  intro H locs ls h1 h2 h3
  have h := k H locs ls h1 h2 h3
  simp only [List.map, cv, bOr, Int32.ofInt_toInt] at h ⊢
  exact lv_ior hC.x hC.b d h
theorem G_ixor {a b : Int} (hC : OK X Y cc own nL rt fr lo nm) (d : decode cc pc = .ok (.ixor, 1)) (k : G X Y (pc + 1) L (vI (bXor a b) :: st) M P) : G X Y pc L (vI b :: vI a :: st) M P := by
  intro H locs ls h1 h2 h3
  have h := k H locs ls h1 h2 h3
  simp only [List.map, cv, bXor, Int32.ofInt_toInt] at h ⊢
  exact lv_ixor hC.x hC.b d h
theorem G_ishl {a b : Int} (hC : OK X Y cc own nL rt fr lo nm) (d : decode cc pc = .ok (.ishl, 1)) (k : G X Y (pc + 1) L (vI (bShl a b) :: st) M P) : G X Y pc L (vI b :: vI a :: st) M P := by
  intro H locs ls h1 h2 h3
  have h := k H locs ls h1 h2 h3
  simp only [List.map, cv, bShl, Int32.ofInt_toInt] at h ⊢
  exact lv_ishl hC.x hC.b d h
theorem G_ishr {a b : Int} (hC : OK X Y cc own nL rt fr lo nm) (d : decode cc pc = .ok (.ishr, 1)) (k : G X Y (pc + 1) L (vI (bShr a b) :: st) M P) : G X Y pc L (vI b :: vI a :: st) M P := by
  intro H locs ls h1 h2 h3
  have h := k H locs ls h1 h2 h3
  simp only [List.map, cv, bShr, Int32.ofInt_toInt] at h ⊢
  exact lv_ishr hC.x hC.b d h
theorem G_land {a b : Int} (hC : OK X Y cc own nL rt fr lo nm) (d : decode cc pc = .ok (.land, 1)) (k : G X Y (pc + 1) L (vL (lAnd a b) :: st) M P) : G X Y pc L (vL b :: vL a :: st) M P := by
  intro H locs ls h1 h2 h3
  have h := k H locs ls h1 h2 h3
  simp only [List.map, cv, lAnd, Int64.ofInt_toInt] at h ⊢
  exact lv_land hC.x hC.b d h
theorem G_lor {a b : Int} (hC : OK X Y cc own nL rt fr lo nm) (d : decode cc pc = .ok (.lor, 1)) (k : G X Y (pc + 1) L (vL (lOr a b) :: st) M P) : G X Y pc L (vL b :: vL a :: st) M P := by
  intro H locs ls h1 h2 h3
  have h := k H locs ls h1 h2 h3
  simp only [List.map, cv, lOr, Int64.ofInt_toInt] at h ⊢
  exact lv_lor hC.x hC.b d h
theorem G_lxor {a b : Int} (hC : OK X Y cc own nL rt fr lo nm) (d : decode cc pc = .ok (.lxor, 1)) (k : G X Y (pc + 1) L (vL (lXor a b) :: st) M P) : G X Y pc L (vL b :: vL a :: st) M P := by
  intro H locs ls h1 h2 h3
  have h := k H locs ls h1 h2 h3
  simp only [List.map, cv, lXor, Int64.ofInt_toInt] at h ⊢
  exact lv_lxor hC.x hC.b d h
theorem G_iushr {a b : Int} (hC : OK X Y cc own nL rt fr lo nm) (d : decode cc pc = .ok (.iushr, 1)) (k : G X Y (pc + 1) L (vI (bUsh a b) :: st) M P) : G X Y pc L (vI b :: vI a :: st) M P := by
  intro H locs ls h1 h2 h3
  have h := k H locs ls h1 h2 h3
  simp only [List.map, cv, bUsh, Int32.ofInt_toInt] at h ⊢
  exact lv_iushr hC.x hC.b d rfl h
theorem G_lshl {a b : Int} (hC : OK X Y cc own nL rt fr lo nm) (d : decode cc pc = .ok (.lshl, 1)) (k : G X Y (pc + 1) L (vL (lShl a b) :: st) M P) : G X Y pc L (vI b :: vL a :: st) M P := by
  intro H locs ls h1 h2 h3
  have h := k H locs ls h1 h2 h3
  simp only [List.map, cv, lShl, Int64.ofInt_toInt] at h ⊢
  exact lv_lshl hC.x hC.b d rfl h
theorem G_lshr {a b : Int} (hC : OK X Y cc own nL rt fr lo nm) (d : decode cc pc = .ok (.lshr, 1)) (k : G X Y (pc + 1) L (vL (lShr a b) :: st) M P) : G X Y pc L (vI b :: vL a :: st) M P := by
  intro H locs ls h1 h2 h3
  have h := k H locs ls h1 h2 h3
  simp only [List.map, cv, lShr, Int64.ofInt_toInt] at h ⊢
  exact lv_lshr hC.x hC.b d rfl h
theorem G_lushr {a b : Int} (hC : OK X Y cc own nL rt fr lo nm) (d : decode cc pc = .ok (.lushr, 1)) (k : G X Y (pc + 1) L (vL (lUsh a b) :: st) M P) : G X Y pc L (vI b :: vL a :: st) M P := by
  intro H locs ls h1 h2 h3
  have h := k H locs ls h1 h2 h3
  simp only [List.map, cv, lUsh, Int64.ofInt_toInt] at h ⊢
  exact lv_lushr hC.x hC.b d rfl h
theorem G_idiv {a b : Int} (hC : OK X Y cc own nL rt fr lo nm) (d : decode cc pc = .ok (.idiv, 1)) (ha : 0 ≤ a ∧ a ≤ 2147483647) (hb : 0 < b ∧ b ≤ 2147483647) (k : G X Y (pc + 1) L (vI (a / b) :: st) M P) : G X Y pc L (vI b :: vI a :: st) M P := by
  intro H locs ls h1 h2 h3
  have h := k H locs ls h1 h2 h3
  simp only [List.map, cv, ← i32_div ha hb] at h ⊢
  exact lv_idiv hC.x hC.b d (i32_ne0 hb) h
theorem G_irem {a b : Int} (hC : OK X Y cc own nL rt fr lo nm) (d : decode cc pc = .ok (.irem, 1)) (ha : 0 ≤ a ∧ a ≤ 2147483647) (hb : 0 < b ∧ b ≤ 2147483647) (k : G X Y (pc + 1) L (vI (a % b) :: st) M P) : G X Y pc L (vI b :: vI a :: st) M P := by
  intro H locs ls h1 h2 h3
  have h := k H locs ls h1 h2 h3
  simp only [List.map, cv, ← i32_rem ha hb] at h ⊢
  exact lv_irem hC.x hC.b d (i32_ne0 hb) h
theorem G_lrem {a b : Int} (hC : OK X Y cc own nL rt fr lo nm) (d : decode cc pc = .ok (.lrem, 1)) (ha : 0 ≤ a ∧ a ≤ 9223372036854775807) (hb : 0 < b ∧ b ≤ 9223372036854775807) (k : G X Y (pc + 1) L (vL (a % b) :: st) M P) : G X Y pc L (vL b :: vL a :: st) M P := by
  intro H locs ls h1 h2 h3
  have h := k H locs ls h1 h2 h3
  simp only [List.map, cv, ← i64_rem ha hb] at h ⊢
  exact lv_lrem hC.x hC.b d (i64_ne0 hb) h
theorem G_i2l {a : Int} (hC : OK X Y cc own nL rt fr lo nm) (d : decode cc pc = .ok (.i2l, 1)) (ha : -2147483648 ≤ a ∧ a ≤ 2147483647) (k : G X Y (pc + 1) L (vL a :: st) M P) : G X Y pc L (vI a :: st) M P :=
  fun H locs ls h1 h2 h3 => lv_i2l hC.x hC.b d (i2l_t ha) (k H locs ls h1 h2 h3)
theorem G_l2i {a : Int} (hC : OK X Y cc own nL rt fr lo nm) (d : decode cc pc = .ok (.l2i, 1)) (k : G X Y (pc + 1) L (vI a :: st) M P) : G X Y pc L (vL a :: st) M P :=
  fun H locs ls h1 h2 h3 => lv_l2i hC.x hC.b d (l2i_t a) (k H locs ls h1 h2 h3)
def zcmp (a b : Int) : Int := if b < a then 1 else if a = b then 0 else -1
theorem G_lcmp {a b : Int} (hC : OK X Y cc own nL rt fr lo nm) (d : decode cc pc = .ok (.lcmp, 1)) (ha : -9223372036854775808 ≤ a ∧ a ≤ 9223372036854775807) (hb : -9223372036854775808 ≤ b ∧ b ≤ 9223372036854775807) (k : G X Y (pc + 1) L (vI (zcmp a b) :: st) M P) : G X Y pc L (vL b :: vL a :: st) M P := by
  intro H locs ls h1 h2 h3
  have h := k H locs ls h1 h2 h3
  have e : lg_cmp (Int64.ofInt a) (Int64.ofInt b) = Int32.ofInt (zcmp a b) := by
    unfold lg_cmp zcmp
    simp only [i64_lt hb ha, i64_eq ha hb]
    split
    · rfl
    · split <;> rfl
  simp only [List.map, cv, ← e] at h ⊢
  exact W.lcmp hC.x hC.b d h
/-! stack -/
theorem G_dup {v : AV} (hC : OK X Y cc own nL rt fr lo nm) (d : decode cc pc = .ok (.dup, 1)) (hv : isC2 v = false) (k : G X Y (pc + 1) L (v :: v :: st) M P) : G X Y pc L (v :: st) M P :=
  fun H locs ls h1 h2 h3 => lv_dup hC.x hC.b d (by rcases v with z | z | z | z <;> first | rfl | simp [isC2] at hv) (k H locs ls h1 h2 h3)
theorem G_pop {v : AV} (hC : OK X Y cc own nL rt fr lo nm) (d : decode cc pc = .ok (.pop, 1)) (hv : isC2 v = false) (k : G X Y (pc + 1) L st M P) : G X Y pc L (v :: st) M P :=
  fun H locs ls h1 h2 h3 => lv_pop hC.x hC.b d (by rcases v with z | z | z | z <;> first | rfl | simp [isC2] at hv) (k H locs ls h1 h2 h3)
theorem G_dup2 {v w : AV} (hC : OK X Y cc own nL rt fr lo nm) (d : decode cc pc = .ok (.dup2, 1)) (hv : isC2 v = false) (hw : isC2 w = false) (k : G X Y (pc + 1) L (v :: w :: v :: w :: st) M P) : G X Y pc L (v :: w :: st) M P :=
  fun H locs ls h1 h2 h3 => lv_dup2_11 hC.x hC.b d (by rcases v with z | z | z | z <;> first | rfl | simp [isC2] at hv) (by rcases w with z | z | z | z <;> first | rfl | simp [isC2] at hw) (k H locs ls h1 h2 h3)
/-! branches -/
theorem G_goto {off : Int} {tgt : Nat} (hC : OK X Y cc own nL rt fr lo nm) (d : decode cc pc = .ok (.goto off, 3)) (ht : (pc : Int) + off = (tgt : Int)) (k : G X Y tgt L st M P) : G X Y pc L st M P :=
  fun H locs ls h1 h2 h3 => lv_goto hC.x hC.b d ht (k H locs ls h1 h2 h3)
theorem G_icmp_eq {a b off : Int} {tgt : Nat} (hC : OK X Y cc own nL rt fr lo nm) (d : decode cc pc = .ok (.if_icmp .eq off, 3)) (ht : (pc : Int) + off = (tgt : Int)) (ha : -2147483648 ≤ a ∧ a ≤ 2147483647) (hb : -2147483648 ≤ b ∧ b ≤ 2147483647) (kt : a = b → G X Y tgt L st M P) (kf : ¬ a = b → G X Y (pc + 3) L st M P) : G X Y pc L (vI b :: vI a :: st) M P :=
  fun H locs ls h1 h2 h3 => lv_icmp_eq hC.x hC.b d ht (fun q => kt ((i32_eq ha hb).mp q) H locs ls h1 h2 h3) (fun q => kf (fun e => q (congrArg Int32.ofInt e)) H locs ls h1 h2 h3)
theorem G_if_eq {a off : Int} {tgt : Nat} (hC : OK X Y cc own nL rt fr lo nm) (d : decode cc pc = .ok (.ifCond .eq off, 3)) (ht : (pc : Int) + off = (tgt : Int)) (ha : -2147483648 ≤ a ∧ a ≤ 2147483647) (kt : a = 0 → G X Y tgt L st M P) (kf : ¬ a = 0 → G X Y (pc + 3) L st M P) : G X Y pc L (vI a :: st) M P := by
  have hb : -2147483648 ≤ (0 : Int) ∧ (0 : Int) ≤ 2147483647 := by omega
  exact fun H locs ls h1 h2 h3 => lv_if_eq hC.x hC.b d ht (fun q => kt ((i32_eq ha hb).mp q) H locs ls h1 h2 h3) (fun q => kf (fun e => q (congrArg Int32.ofInt e)) H locs ls h1 h2 h3)
theorem G_icmp_ne {a b off : Int} {tgt : Nat} (hC : OK X Y cc own nL rt fr lo nm) (d : decode cc pc = .ok (.if_icmp .ne off, 3)) (ht : (pc : Int) + off = (tgt : Int)) (ha : -2147483648 ≤ a ∧ a ≤ 2147483647) (hb : -2147483648 ≤ b ∧ b ≤ 2147483647) (kt : ¬ a = b → G X Y tgt L st M P) (kf : a = b → G X Y (pc + 3) L st M P) : G X Y pc L (vI b :: vI a :: st) M P :=
  fun H locs ls h1 h2 h3 => lv_icmp_ne hC.x hC.b d ht (fun q => kt (fun e => q (congrArg Int32.ofInt e)) H locs ls h1 h2 h3) (fun q => kf ((i32_eq ha hb).mp q) H locs ls h1 h2 h3)
theorem G_if_ne {a off : Int} {tgt : Nat} (hC : OK X Y cc own nL rt fr lo nm) (d : decode cc pc = .ok (.ifCond .ne off, 3)) (ht : (pc : Int) + off = (tgt : Int)) (ha : -2147483648 ≤ a ∧ a ≤ 2147483647) (kt : ¬ a = 0 → G X Y tgt L st M P) (kf : a = 0 → G X Y (pc + 3) L st M P) : G X Y pc L (vI a :: st) M P := by
  have hb : -2147483648 ≤ (0 : Int) ∧ (0 : Int) ≤ 2147483647 := by omega
  exact fun H locs ls h1 h2 h3 => lv_if_ne hC.x hC.b d ht (fun q => kt (fun e => q (congrArg Int32.ofInt e)) H locs ls h1 h2 h3) (fun q => kf ((i32_eq ha hb).mp q) H locs ls h1 h2 h3)
theorem G_icmp_lt {a b off : Int} {tgt : Nat} (hC : OK X Y cc own nL rt fr lo nm) (d : decode cc pc = .ok (.if_icmp .lt off, 3)) (ht : (pc : Int) + off = (tgt : Int)) (ha : -2147483648 ≤ a ∧ a ≤ 2147483647) (hb : -2147483648 ≤ b ∧ b ≤ 2147483647) (kt : a < b → G X Y tgt L st M P) (kf : b ≤ a → G X Y (pc + 3) L st M P) : G X Y pc L (vI b :: vI a :: st) M P :=
  fun H locs ls h1 h2 h3 => lv_icmp_lt hC.x hC.b d ht (fun q => kt ((i32_lt ha hb).mp q) H locs ls h1 h2 h3) (fun q => kf (Int.not_lt.mp (fun e => q ((i32_lt ha hb).mpr e))) H locs ls h1 h2 h3)
theorem G_if_lt {a off : Int} {tgt : Nat} (hC : OK X Y cc own nL rt fr lo nm) (d : decode cc pc = .ok (.ifCond .lt off, 3)) (ht : (pc : Int) + off = (tgt : Int)) (ha : -2147483648 ≤ a ∧ a ≤ 2147483647) (kt : a < 0 → G X Y tgt L st M P) (kf : 0 ≤ a → G X Y (pc + 3) L st M P) : G X Y pc L (vI a :: st) M P := by
  have hb : -2147483648 ≤ (0 : Int) ∧ (0 : Int) ≤ 2147483647 := by omega
  exact fun H locs ls h1 h2 h3 => lv_if_lt hC.x hC.b d ht (fun q => kt ((i32_lt ha hb).mp q) H locs ls h1 h2 h3) (fun q => kf (Int.not_lt.mp (fun e => q ((i32_lt ha hb).mpr e))) H locs ls h1 h2 h3)
theorem G_icmp_ge {a b off : Int} {tgt : Nat} (hC : OK X Y cc own nL rt fr lo nm) (d : decode cc pc = .ok (.if_icmp .ge off, 3)) (ht : (pc : Int) + off = (tgt : Int)) (ha : -2147483648 ≤ a ∧ a ≤ 2147483647) (hb : -2147483648 ≤ b ∧ b ≤ 2147483647) (kt : b ≤ a → G X Y tgt L st M P) (kf : a < b → G X Y (pc + 3) L st M P) : G X Y pc L (vI b :: vI a :: st) M P :=
  fun H locs ls h1 h2 h3 => lv_icmp_ge hC.x hC.b d ht (fun q => kt ((i32_le hb ha).mp q) H locs ls h1 h2 h3) (fun q => kf (Int.not_le.mp (fun e => q ((i32_le hb ha).mpr e))) H locs ls h1 h2 h3)
theorem G_if_ge {a off : Int} {tgt : Nat} (hC : OK X Y cc own nL rt fr lo nm) (d : decode cc pc = .ok (.ifCond .ge off, 3)) (ht : (pc : Int) + off = (tgt : Int)) (ha : -2147483648 ≤ a ∧ a ≤ 2147483647) (kt : 0 ≤ a → G X Y tgt L st M P) (kf : a < 0 → G X Y (pc + 3) L st M P) : G X Y pc L (vI a :: st) M P := by
  have hb : -2147483648 ≤ (0 : Int) ∧ (0 : Int) ≤ 2147483647 := by omega
  exact fun H locs ls h1 h2 h3 => lv_if_ge hC.x hC.b d ht (fun q => kt ((i32_le hb ha).mp q) H locs ls h1 h2 h3) (fun q => kf (Int.not_le.mp (fun e => q ((i32_le hb ha).mpr e))) H locs ls h1 h2 h3)
theorem G_icmp_gt {a b off : Int} {tgt : Nat} (hC : OK X Y cc own nL rt fr lo nm) (d : decode cc pc = .ok (.if_icmp .gt off, 3)) (ht : (pc : Int) + off = (tgt : Int)) (ha : -2147483648 ≤ a ∧ a ≤ 2147483647) (hb : -2147483648 ≤ b ∧ b ≤ 2147483647) (kt : b < a → G X Y tgt L st M P) (kf : a ≤ b → G X Y (pc + 3) L st M P) : G X Y pc L (vI b :: vI a :: st) M P :=
  fun H locs ls h1 h2 h3 => lv_icmp_gt hC.x hC.b d ht (fun q => kt ((i32_lt hb ha).mp q) H locs ls h1 h2 h3) (fun q => kf (Int.not_lt.mp (fun e => q ((i32_lt hb ha).mpr e))) H locs ls h1 h2 h3)
theorem G_if_gt {a off : Int} {tgt : Nat} (hC : OK X Y cc own nL rt fr lo nm) (d : decode cc pc = .ok (.ifCond .gt off, 3)) (ht : (pc : Int) + off = (tgt : Int)) (ha : -2147483648 ≤ a ∧ a ≤ 2147483647) (kt : 0 < a → G X Y tgt L st M P) (kf : a ≤ 0 → G X Y (pc + 3) L st M P) : G X Y pc L (vI a :: st) M P := by
  have hb : -2147483648 ≤ (0 : Int) ∧ (0 : Int) ≤ 2147483647 := by omega
  exact fun H locs ls h1 h2 h3 => lv_if_gt hC.x hC.b d ht (fun q => kt ((i32_lt hb ha).mp q) H locs ls h1 h2 h3) (fun q => kf (Int.not_lt.mp (fun e => q ((i32_lt hb ha).mpr e))) H locs ls h1 h2 h3)
theorem G_icmp_le {a b off : Int} {tgt : Nat} (hC : OK X Y cc own nL rt fr lo nm) (d : decode cc pc = .ok (.if_icmp .le off, 3)) (ht : (pc : Int) + off = (tgt : Int)) (ha : -2147483648 ≤ a ∧ a ≤ 2147483647) (hb : -2147483648 ≤ b ∧ b ≤ 2147483647) (kt : a ≤ b → G X Y tgt L st M P) (kf : b < a → G X Y (pc + 3) L st M P) : G X Y pc L (vI b :: vI a :: st) M P :=
  fun H locs ls h1 h2 h3 => lv_icmp_le hC.x hC.b d ht (fun q => kt ((i32_le ha hb).mp q) H locs ls h1 h2 h3) (fun q => kf (Int.not_le.mp (fun e => q ((i32_le ha hb).mpr e))) H locs ls h1 h2 h3)
theorem G_if_le {a off : Int} {tgt : Nat} (hC : OK X Y cc own nL rt fr lo nm) (d : decode cc pc = .ok (.ifCond .le off, 3)) (ht : (pc : Int) + off = (tgt : Int)) (ha : -2147483648 ≤ a ∧ a ≤ 2147483647) (kt : a ≤ 0 → G X Y tgt L st M P) (kf : 0 < a → G X Y (pc + 3) L st M P) : G X Y pc L (vI a :: st) M P := by
  have hb : -2147483648 ≤ (0 : Int) ∧ (0 : Int) ≤ 2147483647 := by omega
  exact fun H locs ls h1 h2 h3 => lv_if_le hC.x hC.b d ht (fun q => kt ((i32_le ha hb).mp q) H locs ls h1 h2 h3) (fun q => kf (Int.not_le.mp (fun e => q ((i32_le ha hb).mpr e))) H locs ls h1 h2 h3)
theorem G_tabIn {a dflt lo' hi off : Int} {offs : Array Int} {len tgt : Nat} (hC : OK X Y cc own nL rt fr lo nm) (d : decode cc pc = .ok (.tableswitch dflt lo' hi offs, len)) (ha : -2147483648 ≤ a ∧ a ≤ 2147483647) (h1 : lo' ≤ a) (h2 : a ≤ hi) (ho : offs[(a - lo').toNat]? = some off) (ht : (pc : Int) + off = (tgt : Int)) (k : G X Y tgt L st M P) : G X Y pc L (vI a :: st) M P :=
  fun H locs ls q1 q2 q3 => lv_tableIn hC.x hC.b d (by rw [i32_t ha]; omega) (by rw [i32_t ha]; omega) (by rw [i32_t ha]; exact ho) ht (k H locs ls q1 q2 q3)
theorem G_tabOut {a dflt lo' hi : Int} {offs : Array Int} {len tgt : Nat} (hC : OK X Y cc own nL rt fr lo nm) (d : decode cc pc = .ok (.tableswitch dflt lo' hi offs, len)) (ha : -2147483648 ≤ a ∧ a ≤ 2147483647) (h : a < lo' ∨ hi < a) (ht : (pc : Int) + dflt = (tgt : Int)) (k : G X Y tgt L st M P) : G X Y pc L (vI a :: st) M P :=
  fun H locs ls q1 q2 q3 => lv_tableOut hC.x hC.b d (by rw [i32_t ha]; exact h) ht (k H locs ls q1 q2 q3)
theorem G_look {a dflt off : Int} {ps : Array (Int × Int)} {len tgt : Nat} (hC : OK X Y cc own nL rt fr lo nm) (d : decode cc pc = .ok (.lookupswitch dflt ps, len)) (hp : (ps.toList.zip (ps.toList.drop 1)).all (fun (a, next) => a.1 < next.1) = true) (ha : -2147483648 ≤ a ∧ a ≤ 2147483647) (ho : Op.lookupswitch.offset ps.toList dflt a = off) (ht : (pc : Int) + off = (tgt : Int)) (k : G X Y tgt L st M P) : G X Y pc L (vI a :: st) M P :=
  fun H locs ls q1 q2 q3 => lv_lookup hC.x hC.b d hp (by rw [i32_t ha]; exact ho) ht (k H locs ls q1 q2 q3)
end LAY3
end
section
/-! links of fields -/
def CL (ci : Nat) (C : String) (T : u_T) (N : Nat) (ty0 : Nat → FieldType) : Prop := vwCl[ci]? = some (C, T, N) ∧ (∀ w ∈ u_ws C T N, w ∈ lwG) ∧ (∀ k, k < N → parseFieldDescriptor (T k).2.2.1 = some (ty0 k)) ∧ (∀ a, a < N → ∀ b, b < N → a ≠ b → (T a).2.1 ≠ (T b).2.1) ∧ (fks ci).length = N ∧ ci < 11
def FL (own : String) (idx ci j kd : Nat) (fin : Bool) (ty : FieldType) : Prop := ∃ (C : String) (T : u_T) (N : Nat) (ty0 : Nat → FieldType), CL ci C T N ty0 ∧ j < N ∧ Cond.fieldLink own idx (T j).1 (T j).2.1 (T j).2.2.1 ∈ lwG ∧ (T j).2.2.2 = fin ∧ ty0 j = ty ∧ (fks ci)[j]? = some kd ∧ (T j).1 = C
theorem shp_le (k : Nat) : (shp k).2 ≤ 46656 := by
  unfold shp
  split <;> decide
theorem shp_lt {k c z : Nat} (h : shp k = (c, z)) : z < 2147483648 := by
  have := shp_le k
  rw [h] at this
  dsimp only at this
  omega
theorem fs_get {ad : Nat → Nat} {M : Mem} {P : PMem} {k ci j kd : Nat} (h : (fks ci)[j]? = some kd) : ((fks ci).mapIdx (fun j kd => fvl ad M P k j kd))[j]? = some (fvl ad M P k j kd) := by
  rw [List.getElem?_mapIdx, h]; rfl
theorem fs_set {ad : Nat → Nat} {M M' : Mem} {P P' : PMem} {k ci j kd : Nat} (h : (fks ci)[j]? = some kd) (hM : ∀ i, i ≠ j → M' k i = M k i) (hP : ∀ i, i ≠ j → P' k i = P k i) : ((fks ci).mapIdx (fun j kd => fvl ad M P k j kd)).set j (fvl ad M' P' k j kd) = (fks ci).mapIdx (fun j kd => fvl ad M' P' k j kd) := by
  apply List.ext_getElem?
  intro i
  by_cases hi : i = j
  · subst hi
    rw [List.getElem?_set_self (by rw [List.length_mapIdx]; exact (List.getElem?_eq_some_iff.mp h).1), fs_get h]
  · rw [List.getElem?_set_ne (fun e => hi e.symm), List.getElem?_mapIdx, List.getElem?_mapIdx]
    cases (fks ci)[i]? with
    | none => rfl
    | some q =>
      show some (fvl ad M P k i q) = some (fvl ad M' P' k i q)
      unfold fvl
      split <;> simp [hM i hi, hP i hi]
section LAY5
variable {X : CX} {Y : CY} {cc : ByteArray} {own : String} {nL : Nat} {rt : Option FieldType} {fr lo nm : Nat} {pc : Nat} {L st : List AV} {M : Mem} {P : PMem}
theorem G_get0 {k ci z j kd idx : Nat} {fin : Bool} {ty : FieldType} {v : AV} (hC : OK X Y cc own nL rt fr lo nm) (hf : FL own idx ci j kd fin ty) (hs : shp k = (ci, z)) (hk : k < nm) (hv : fvl (ya Y) M P k j kd = cv (ya Y) v) (d : decode cc pc = .ok (.getfield idx, 3)) (kk : G X Y (pc + 3) L (v :: st) M P) : G X Y pc L (vR k :: st) M P := by
  obtain ⟨C, T, N, ty0, ⟨hc, hin, hty, hnm, hfk, hci⟩, hj, hl, hfin, ht, hkd, hTC⟩ := hf
  intro H locs ls h1 h2 h3
  have h := kk H locs ls h1 h2 h3
  rw [List.map_cons, ← hv] at h
  exact va_get hC.x hC.b hC.w hin hC.o hC.K h1 k (by rw [wl_get (hC.n hk), ceS_obj hs hci]) hc j hj (hC.w _ hl) (fun _ h => h) (fs_get hkd) d h
theorem G_getI {k ci z j idx : Nat} {fin : Bool} {ty : FieldType} (hC : OK X Y cc own nL rt fr lo nm) (hf : FL own idx ci j 0 fin ty) (hs : shp k = (ci, z)) (hk : k < nm) (d : decode cc pc = .ok (.getfield idx, 3)) (kk : G X Y (pc + 3) L (vI (M k j) :: st) M P) : G X Y pc L (vR k :: st) M P :=
  G_get0 hC hf hs hk rfl d kk
theorem G_getL {k ci z j idx : Nat} {fin : Bool} {ty : FieldType} (hC : OK X Y cc own nL rt fr lo nm) (hf : FL own idx ci j 1 fin ty) (hs : shp k = (ci, z)) (hk : k < nm) (d : decode cc pc = .ok (.getfield idx, 3)) (kk : G X Y (pc + 3) L (vL (M k j) :: st) M P) : G X Y pc L (vR k :: st) M P :=
  G_get0 hC hf hs hk rfl d kk
theorem G_getR {k ci z j idx q : Nat} {fin : Bool} {ty : FieldType} (hC : OK X Y cc own nL rt fr lo nm) (hf : FL own idx ci j 2 fin ty) (hs : shp k = (ci, z)) (hk : k < nm) (hP : P k j = some q) (d : decode cc pc = .ok (.getfield idx, 3)) (kk : G X Y (pc + 3) L (vR q :: st) M P) : G X Y pc L (vR k :: st) M P :=
  G_get0 hC hf hs hk (by simp [fvl, hP, va_rf, cv]) d kk
theorem G_put0 {k ci z j kd idx : Nat} {ty : FieldType} {v : AV} {M' : Mem} {P' : PMem} (hC : OK X Y cc own nL rt fr lo nm) (hf : FL own idx ci j kd false ty) (hs : shp k = (ci, z)) (hk : k < nm) (hn : narrow ty (cv (ya Y) v) = cv (ya Y) v) (hfit : fits ty (cv (ya Y) v) = true) (hv : fvl (ya Y) M' P' k j kd = cv (ya Y) v) (hM : ∀ i, i ≠ j → M' k i = M k i) (hP : ∀ i, i ≠ j → P' k i = P k i) (hM2 : ∀ a, a ≠ k → ∀ i, M' a i = M a i) (hP2 : ∀ a, a ≠ k → ∀ i, P' a i = P a i) (d : decode cc pc = .ok (.putfield idx, 3)) (kk : G X Y (pc + 3) L st M' P') : G X Y pc L (v :: vR k :: st) M P := by
  obtain ⟨C, T, N, ty0, ⟨hc, hin, hty, hnm, hfk, hci⟩, hj, hl, hfin, ht, hkd, hTC⟩ := hf
  intro H locs ls h1 h2 h3
  have hkn := hC.n hk
  refine va_put (D := xD X) (ci := ci) (v := cv (ya Y) v) (ty := ty) hC.x hC.b hC.w hin ty0 hty hnm hC.o hC.K h1 (hC.D (M := M) (P := P)) h2 k (by rw [wl_get hkn, ceS_obj hs hci]) hc j hj (hC.w _ hl) (fun _ h => h) hfin (by rw [hty j hj, ht]) hn hfit (by rw [List.length_mapIdx, hfk]; exact hj) d (fun H1 locs1 q1 q2 q3 => ?_)
  refine kk H1 locs1 ls ?_ q3 h3
  rw [← hv, fs_set hkd hM hP, ← ceS_obj (cy := xcy X) (ad := ya Y) (M := M') (P := P') hs hci, wl_set hkn (fun i hi => ce_congr (hM2 i hi) (hP2 i hi))] at q1
  exact q1
theorem G_putI {k ci z j idx : Nat} {v : Int} (hC : OK X Y cc own nL rt fr lo nm) (hf : FL own idx ci j 0 false .int) (hs : shp k = (ci, z)) (hk : k < nm) (d : decode cc pc = .ok (.putfield idx, 3)) (kk : G X Y (pc + 3) L st (upM M k j v) P) : G X Y pc L (vI v :: vR k :: st) M P :=
  G_put0 hC hf hs hk rfl rfl (by simp [fvl, cv, upM]) (fun i hi => upM_nej hi k) (fun _ _ => rfl) (fun a ha i => upM_ne ha i) (fun _ _ _ => rfl) d kk
theorem G_putZ {k ci z j idx : Nat} {v : Int} (hC : OK X Y cc own nL rt fr lo nm) (hf : FL own idx ci j 0 false .boolean) (hs : shp k = (ci, z)) (hk : k < nm) (hv : v = 0 ∨ v = 1) (d : decode cc pc = .ok (.putfield idx, 3)) (kk : G X Y (pc + 3) L st (upM M k j v) P) : G X Y pc L (vI v :: vR k :: st) M P :=
  G_put0 hC hf hs hk (by rcases hv with rfl | rfl <;> rfl) (by rcases hv with rfl | rfl <;> rfl) (by simp [fvl, cv, upM]) (fun i hi => upM_nej hi k) (fun _ _ => rfl) (fun a ha i => upM_ne ha i) (fun _ _ _ => rfl) d kk
theorem G_putL {k ci z j idx : Nat} {v : Int} (hC : OK X Y cc own nL rt fr lo nm) (hf : FL own idx ci j 1 false .long) (hs : shp k = (ci, z)) (hk : k < nm) (d : decode cc pc = .ok (.putfield idx, 3)) (kk : G X Y (pc + 3) L st (upM M k j v) P) : G X Y pc L (vL v :: vR k :: st) M P :=
  G_put0 hC hf hs hk rfl rfl (by simp [fvl, cv, upM]) (fun i hi => upM_nej hi k) (fun _ _ => rfl) (fun a ha i => upM_ne ha i) (fun _ _ _ => rfl) d kk
theorem G_putR {k ci z j idx q : Nat} {ty : FieldType} (hC : OK X Y cc own nL rt fr lo nm) (hf : FL own idx ci j 2 false (.array ty)) (hs : shp k = (ci, z)) (hk : k < nm) (d : decode cc pc = .ok (.putfield idx, 3)) (kk : G X Y (pc + 3) L st M (upP P k j (some q))) : G X Y pc L (vR q :: vR k :: st) M P :=
  G_put0 hC hf hs hk rfl rfl (by simp [fvl, cv, upP, va_rf]) (fun _ _ => rfl) (fun i hi => by simp [upP, hi]) (fun _ _ _ => rfl) (fun a ha i => upP_ne ha i) d kk
/-- a final field, in a constructor -/
theorem G_putF0 {k ci z j kd idx : Nat} {ty : FieldType} {v : AV} {M' : Mem} {P' : PMem} (hC : OK X Y cc own nL rt fr lo nm) (hI : (xmeth X).name = "<init>") (hf : FL own idx ci j kd true ty) (hown : ∀ C T N, vwCl[ci]? = some (C, T, N) → C = own) (hs : shp k = (ci, z)) (hk : k < yn Y) (hn : narrow ty (cv (ya Y) v) = cv (ya Y) v) (hfit : fits ty (cv (ya Y) v) = true) (hv : fvl (ya Y) M' P' k j kd = cv (ya Y) v) (hM : ∀ i, i ≠ j → M' k i = M k i) (hP : ∀ i, i ≠ j → P' k i = P k i) (hM2 : ∀ a, a ≠ k → ∀ i, M' a i = M a i) (hP2 : ∀ a, a ≠ k → ∀ i, P' a i = P a i) (d : decode cc pc = .ok (.putfield idx, 3)) (kk : G X Y (pc + 3) L st M' P') : G X Y pc L (v :: vR k :: st) M P := by
  obtain ⟨C, T, N, ty0, ⟨hc, hin, hty, hnm, hfk, hci⟩, hj, hl, hfin, ht, hkd, hTC⟩ := hf
  intro H locs ls h1 h2 h3
  have hkn := hk
  refine va_putF (D := xD X) (ci := ci) (v := cv (ya Y) v) (ty := ty) hC.x hC.b hC.w hin ty0 hty hnm hC.o hC.K h1 (hC.D (M := M) (P := P)) h2 k (by rw [wl_get hkn, ceS_obj hs hci]) hc j hj (hC.w _ hl) (fun _ h => h) hfin hI (by rw [hTC]; exact hown C T N hc) (by rw [hty j hj, ht]) hn hfit (by rw [List.length_mapIdx, hfk]; exact hj) d (fun H1 locs1 q1 q2 q3 => ?_)
  refine kk H1 locs1 ls ?_ q3 h3
  rw [← hv, fs_set hkd hM hP, ← ceS_obj (cy := xcy X) (ad := ya Y) (M := M') (P := P') hs hci, wl_set hkn (fun i hi => ce_congr (hM2 i hi) (hP2 i hi))] at q1
  exact q1
/-! arrays -/
theorem G_iaload {k z : Nat} {i : Int} (hC : OK X Y cc own nL rt fr lo nm) (hs : shp k = (11, z)) (hk : k < nm) (hi : 0 ≤ i ∧ i < z) (d : decode cc pc = .ok (.iaload, 1)) (kk : G X Y (pc + 1) L (vI (M k i.toNat) :: st) M P) : G X Y pc L (vI i :: vR k :: st) M P := by
  intro H locs ls h1 h2 h3
  have h := kk H locs ls h1 h2 h3
  have hz := shp_lt hs
  refine va_iald hC.x hC.b hC.K h1 k 0 (n := z) (f := fun j => Int32.ofInt (M k j)) (by rw [wl_get (hC.n hk), ceS_I hs]) rfl (i32_in hi hz) d ?_
  rw [i32_clamp (by omega)]
  exact h
theorem G_laload {k z : Nat} {i : Int} (hC : OK X Y cc own nL rt fr lo nm) (hs : shp k = (12, z)) (hk : k < nm) (hi : 0 ≤ i ∧ i < z) (d : decode cc pc = .ok (.laload, 1)) (kk : G X Y (pc + 1) L (vL (M k i.toNat) :: st) M P) : G X Y pc L (vI i :: vR k :: st) M P := by
  intro H locs ls h1 h2 h3
  have h := kk H locs ls h1 h2 h3
  have hz := shp_lt hs
  refine va_lald hC.x hC.b hC.K h1 k 1 (n := z) (f := fun j => Int64.ofInt (M k j)) (by rw [wl_get (hC.n hk), ceS_J hs]) rfl (i32_in hi hz) d ?_
  rw [i32_clamp (by omega)]
  exact h
theorem G_zaload {k z : Nat} {i : Int} (hC : OK X Y cc own nL rt fr lo nm) (hs : shp k = (13, z)) (hk : k < nm) (hi : 0 ≤ i ∧ i < z) (d : decode cc pc = .ok (.baload, 1)) (kk : G X Y (pc + 1) L (vI (M k i.toNat) :: st) M P) : G X Y pc L (vI i :: vR k :: st) M P := by
  intro H locs ls h1 h2 h3
  have h := kk H locs ls h1 h2 h3
  have hz := shp_lt hs
  refine va_zald hC.x hC.b hC.K h1 k 2 (n := z) (f := fun j => Int32.ofInt (M k j)) (by rw [wl_get (hC.n hk), ceS_Z hs]) rfl (i32_in hi hz) d ?_
  rw [i32_clamp (by omega)]
  exact h
theorem G_iastore {k z : Nat} {i v : Int} (hC : OK X Y cc own nL rt fr lo nm) (hs : shp k = (11, z)) (hk : k < nm) (hi : 0 ≤ i ∧ i < z) (d : decode cc pc = .ok (.iastore, 1)) (kk : G X Y (pc + 1) L st (upM M k i.toNat v) P) : G X Y pc L (vI v :: vI i :: vR k :: st) M P := by
  intro H locs ls h1 h2 h3
  have hz := shp_lt hs
  have hkn := hC.n hk
  refine va_iast hC.x hC.b hC.K h1 (hC.D (M := M) (P := P)) h2 k 0 (n := z) (f := fun j => Int32.ofInt (M k j)) (by rw [wl_get hkn, ceS_I hs]) rfl (i32_in hi hz) d (fun H1 locs1 q1 q2 q3 => ?_)
  refine kk H1 locs1 ls ?_ q3 h3
  rw [i32_clamp (by omega), show upd (fun j => Int32.ofInt (M k j)) i.toNat (Int32.ofInt v) = (fun j => Int32.ofInt (upM M k i.toNat v k j)) from by
    funext j; by_cases hj : j = i.toNat
    · subst hj; simp [upd, upM]
    · simp [upd, upM, hj], ← ceS_I (cy := xcy X) (ad := ya Y) (M := upM M k i.toNat v) (P := P) hs, wl_set hkn (fun a ha => ce_congr (upM_ne ha) (fun _ => rfl))] at q1
  exact q1
theorem G_lastore {k z : Nat} {i v : Int} (hC : OK X Y cc own nL rt fr lo nm) (hs : shp k = (12, z)) (hk : k < nm) (hi : 0 ≤ i ∧ i < z) (d : decode cc pc = .ok (.lastore, 1)) (kk : G X Y (pc + 1) L st (upM M k i.toNat v) P) : G X Y pc L (vL v :: vI i :: vR k :: st) M P := by
  intro H locs ls h1 h2 h3
  have hz := shp_lt hs
  have hkn := hC.n hk
  refine va_last hC.x hC.b hC.K h1 (hC.D (M := M) (P := P)) h2 k 1 (n := z) (f := fun j => Int64.ofInt (M k j)) (by rw [wl_get hkn, ceS_J hs]) rfl (i32_in hi hz) d (fun H1 locs1 q1 q2 q3 => ?_)
  refine kk H1 locs1 ls ?_ q3 h3
  rw [i32_clamp (by omega), show vp_updL (fun j => Int64.ofInt (M k j)) i.toNat (Int64.ofInt v) = (fun j => Int64.ofInt (upM M k i.toNat v k j)) from by
    funext j; by_cases hj : j = i.toNat
    · subst hj; simp [vp_updL, upM]
    · simp [vp_updL, upM, hj], ← ceS_J (cy := xcy X) (ad := ya Y) (M := upM M k i.toNat v) (P := P) hs, wl_set hkn (fun a ha => ce_congr (upM_ne ha) (fun _ => rfl))] at q1
  exact q1
theorem G_zastore {k z : Nat} {i v : Int} (hC : OK X Y cc own nL rt fr lo nm) (hs : shp k = (13, z)) (hk : k < nm) (hi : 0 ≤ i ∧ i < z) (hv : v = 0 ∨ v = 1) (d : decode cc pc = .ok (.bastore, 1)) (kk : G X Y (pc + 1) L st (upM M k i.toNat v) P) : G X Y pc L (vI v :: vI i :: vR k :: st) M P := by
  intro H locs ls h1 h2 h3
  have hz := shp_lt hs
  have hkn := hC.n hk
  refine va_zast hC.x hC.b hC.K h1 (hC.D (M := M) (P := P)) h2 k 2 (n := z) (f := fun j => Int32.ofInt (M k j)) (by rw [wl_get hkn, ceS_Z hs]) rfl (i32_in hi hz) d (fun H1 locs1 q1 q2 q3 => ?_)
  refine kk H1 locs1 ls ?_ q3 h3
  have e : vp_nar .boolean (Int32.ofInt v) = Int32.ofInt v := by rcases hv with rfl | rfl <;> rfl
  rw [e, i32_clamp (by omega), show upd (fun j => Int32.ofInt (M k j)) i.toNat (Int32.ofInt v) = (fun j => Int32.ofInt (upM M k i.toNat v k j)) from by
    funext j; by_cases hj : j = i.toNat
    · subst hj; simp [upd, upM]
    · simp [upd, upM, hj], ← ceS_Z (cy := xcy X) (ad := ya Y) (M := upM M k i.toNat v) (P := P) hs, wl_set hkn (fun a ha => ce_congr (upM_ne ha) (fun _ => rfl))] at q1
  exact q1
theorem G_alen {k c z : Nat} (hC : OK X Y cc own nL rt fr lo nm) (hs : shp k = (c, z)) (hc : c = 11 ∨ c = 12) (hk : k < nm) (d : decode cc pc = .ok (.arraylength, 1)) (kk : G X Y (pc + 1) L (vI z :: st) M P) : G X Y pc L (vR k :: st) M P := by
  intro H locs ls h1 h2 h3
  have h := kk H locs ls h1 h2 h3
  have hz := shp_lt hs
  rcases hc with rfl | rfl
  · exact va_alen hC.x hC.b hC.K h1 k 0 (x := (z, .inl (fun j => Int32.ofInt (M k j)))) (by rw [wl_get (hC.n hk), ceS_I hs]) rfl (by rw [i32_N _ hz]; rfl) d h
  · exact va_alen hC.x hC.b hC.K h1 k 1 (x := (z, .inr (.inl (fun j => Int64.ofInt (M k j))))) (by rw [wl_get (hC.n hk), ceS_J hs]) rfl (by rw [i32_N _ hz]; rfl) d h
/-! answers -/
def RQ (X : CX) (n' mc ms : Nat) (Q : Option AV → Mem → PMem → Prop) : Prop := ∃ Qc, xQ X = MQ (xbelow X) Qc (xargs X) (xs X) mc ms (xA X) ∧ ∀ (ad' : Nat → Nat) (r : Option AV) (M : Mem) (P : PMem) (H : Heap) (locs : List Loc), Q r M P → injA ad' n' → (∀ k, k < xn X → ad' k = xad X k) → (∀ k, xn X ≤ k → k < n' → (xs X).heap.size ≤ ad' k) → (n' = xn X → ad' = xad X) → va_P (xD X) vwCl (wl (xcy X) ad' n' M P) H → va_S (xA X) (xs X).heap H locs → ∀ t : State, t.heap = H → (xs X).WarmedH t.vm → Qc (xargs X) (xs X) (.returned (r.map (cv ad'))) t
variable {Q : Option AV → Mem → PMem → Prop}
theorem G_iret {z : Int} (hC : OK X Y cc own nL (some .int) fr lo nm) (hQ : RQ X (yn Y) (yc Y) (ys Y) Q) (d : decode cc pc = .ok (.ireturn, 1)) (h : Q (some (vI z)) M P) : G X Y pc L [vI z] M P := by
  intro H locs ls h1 h2 h3
  obtain ⟨Qc, e, hq⟩ := hQ
  show W _ _ _ _ _ _ _ _ _ _ _ _ _ _ (xQ X) _
  rw [e]
  exact W.iret (v := Int32.ofInt z) hC.x hC.b hC.r (fun t ht hW => hq (ya Y) (some (vI z)) M P H locs h hC.2.2.1.1 hC.2.2.2.2.2.1 hC.2.2.2.2.2.2.1 hC.2.2.2.2.2.2.2 h1 h2 t ht hW) h2.2.2 d hC.1.2.2.2.2.2
theorem G_zret {z : Int} (hC : OK X Y cc own nL (some .boolean) fr lo nm) (hQ : RQ X (yn Y) (yc Y) (ys Y) Q) (d : decode cc pc = .ok (.ireturn, 1)) (hz : z = 0 ∨ z = 1) (h : Q (some (vI z)) M P) : G X Y pc L [vI z] M P := by
  intro H locs ls h1 h2 h3
  obtain ⟨Qc, e, hq⟩ := hQ
  show W _ _ _ _ _ _ _ _ _ _ _ _ _ _ (xQ X) _
  rw [e]
  exact W.zret (v := Int32.ofInt z) hC.x hC.b hC.r (by rcases hz with rfl | rfl <;> rfl) (fun t ht hW => hq (ya Y) (some (vI z)) M P H locs h hC.2.2.1.1 hC.2.2.2.2.2.1 hC.2.2.2.2.2.2.1 hC.2.2.2.2.2.2.2 h1 h2 t ht hW) h2.2.2 d hC.1.2.2.2.2.2
theorem G_lret {z : Int} (hC : OK X Y cc own nL (some .long) fr lo nm) (hQ : RQ X (yn Y) (yc Y) (ys Y) Q) (d : decode cc pc = .ok (.lreturn, 1)) (h : Q (some (vL z)) M P) : G X Y pc L [vL z] M P := by
  intro H locs ls h1 h2 h3
  obtain ⟨Qc, e, hq⟩ := hQ
  show W _ _ _ _ _ _ _ _ _ _ _ _ _ _ (xQ X) _
  rw [e]
  exact W.lret (v := Int64.ofInt z) hC.x hC.b hC.r (fun t ht hW => hq (ya Y) (some (vL z)) M P H locs h hC.2.2.1.1 hC.2.2.2.2.2.1 hC.2.2.2.2.2.2.1 hC.2.2.2.2.2.2.2 h1 h2 t ht hW) h2.2.2 d hC.1.2.2.2.2.2
theorem G_vret (hC : OK X Y cc own nL none fr lo nm) (hQ : RQ X (yn Y) (yc Y) (ys Y) Q) (d : decode cc pc = .ok (.return_, 1)) (h : Q none M P) : G X Y pc L [] M P := by
  intro H locs ls h1 h2 h3
  obtain ⟨Qc, e, hq⟩ := hQ
  show W _ _ _ _ _ _ _ _ _ _ _ _ _ _ (xQ X) _
  rw [e]
  exact W.vret hC.x hC.b hC.r (fun t ht hW => hq (ya Y) none M P H locs h hC.2.2.1.1 hC.2.2.2.2.2.1 hC.2.2.2.2.2.2.1 hC.2.2.2.2.2.2.2 h1 h2 t ht hW) h2.2.2 d hC.1.2.2.2.2.2
end LAY5
end
section
/-! contracts -/
def HdS (D : va_G) (cy : CYT) (ad : Nat → Nat) (n : Nat) (M : Mem) (P : PMem) (U : State) : Prop := va_P D vwCl (wl cy ad n M P) U.heap ∧ va_K D vwCl (tysC cy) U ∧ (∀ w ∈ lwN, va_Nw w U) ∧ injA ad n
def aA (ad : Nat → Nat) (n sz : Nat) : Nat → Prop := fun q => (∃ k, k < n ∧ q = ad k) ∨ sz ≤ q
def QcA (D : va_G) (cy : CYT) (ad : Nat → Nat) (n n' sz : Nat) (Q : Option AV → Mem → PMem → Prop) : Array Value → State → Outcome → State → Prop := fun _ s oc t => (∃ (ad' : Nat → Nat) (r : Option AV) (M' : Mem) (P' : PMem), oc = .returned (r.map (cv ad')) ∧ Q r M' P' ∧ HdS D cy ad' n' M' P' t ∧ (∀ k, k < n → ad' k = ad k) ∧ (∀ k, n ≤ k → k < n' → sz ≤ ad' k) ∧ (n' = n → ad' = ad)) ∧ va_F (aA ad n sz) s t
def PcA (D : va_G) (cy : CYT) (ad : Nat → Nat) (n sz : Nat) (as : List AV) (M : Mem) (P : PMem) : Array Value → State → Prop := va_Pc (as.map (cv ad)) (fun U => U.heap.size = sz ∧ HdS D cy ad n M P U)
/-- a contract that may make cells: from n cells to n' -/
def CtA (l : Launch) (y : MethodName) (cc : ByteArray) (nL : Nat) (rt : Option FieldType) (fr lo mc ms n n' : Nat) (as : List AV) (M : Mem) (P : PMem) (Q : Option AV → Mem → PMem → Prop) : Prop :=
  ∀ (D : va_G) (cy : CYT) (ad : Nat → Nat) (sz : Nat), Met l y (Cond.code y cc nL rt :: lwG) { frames := fr, cells := mc, slots := ms, locals := lo } (PcA D cy ad n sz as M P) (QcA D cy ad n n' sz Q) mc ms (aA ad n sz)
/-- a contract of a method that makes none -/
def Ct (l : Launch) (y : MethodName) (cc : ByteArray) (nL : Nat) (rt : Option FieldType) (fr lo nm : Nat) (as : List AV) (M : Mem) (P : PMem) (Q : Option AV → Mem → PMem → Prop) : Prop := ∀ n, nm ≤ n → CtA l y cc nL rt fr lo 0 0 n n as M P Q
def entL : List AV → List AV
  | [] => []
  | v :: l => if isC2 v = true then v :: vX 1 :: entL l else v :: entL l
theorem entL_args (ad : Nat → Nat) : ∀ (as : List AV) (i j : Nat) (v : AV), (entL as)[j]? = some v → isV v = true → (i + j, cv ad v) ∈ lv_args i (as.map (cv ad))
  | [], i, j, v, h, _ => by simp [entL] at h
  | w :: l, i, j, v, h, hv => by
    unfold entL at h
    by_cases hw : isC2 w = true
    · rw [if_pos hw] at h
      have hc : (cv ad w).category = 2 := by
        rcases w with z | z | z | z <;> first | rfl | simp [isC2] at hw
      show _ ∈ (i, cv ad w) :: lv_args (if (cv ad w).category = 2 then i + 2 else i + 1) (l.map (cv ad))
      rw [if_pos hc]
      match j, h with
      | 0, h =>
        have : w = v := by simpa using h
        subst this
        exact List.mem_cons_self
      | 1, h =>
        have : vX 1 = v := by simpa using h
        subst this
        simp [isV] at hv
      | j + 2, h =>
        have h2 := entL_args ad l (i + 2) j v (by simpa using h) hv
        rw [show i + (j + 2) = i + 2 + j by omega]
        exact List.mem_cons_of_mem _ h2
    · rw [if_neg hw] at h
      have hc : ¬ (cv ad w).category = 2 := by
        rcases w with z | z | z | z <;> first | (simp [isC2] at hw; done) | (simp [cv, Value.category]; done)
      show _ ∈ (i, cv ad w) :: lv_args (if (cv ad w).category = 2 then i + 2 else i + 1) (l.map (cv ad))
      rw [if_neg hc]
      match j, h with
      | 0, h =>
        have : w = v := by simpa using h
        subst this
        exact List.mem_cons_self
      | j + 1, h =>
        have h2 := entL_args ad l (i + 1) j v (by simpa using h) hv
        rw [show i + (j + 1) = i + 1 + j by omega]
        exact List.mem_cons_of_mem _ h2
theorem entL_len (ad : Nat → Nat) : ∀ (as : List AV), (lg_sl (as.map (cv ad))).length = (entL as).length
  | [] => rfl
  | w :: l => by
    have ih := entL_len ad l
    unfold lg_sl at ih ⊢
    rw [List.map_cons, List.flatMap_cons, List.length_append, ih, show entL (w :: l) = if isC2 w = true then w :: vX 1 :: entL l else w :: entL l from rfl]
    by_cases hw : isC2 w = true
    · have hc : (cv ad w).category = 2 := by
        rcases w with z | z | z | z <;> first | rfl | simp [isC2] at hw
      rw [if_pos hw, if_pos hc]; simp; omega
    · have hc : ¬ (cv ad w).category = 2 := by
        rcases w with z | z | z | z <;> first | (simp [isC2] at hw; done) | (simp [cv, Value.category]; done)
      rw [if_neg hw, if_neg hc]; simp; omega
theorem LH_entry {ad : Nat → Nat} {as L : List AV} {n : Nat} (hL : L = entL as ++ List.replicate (n - (entL as).length) (vX 1)) (h : (entL as).length ≤ n) : LH ad ((lg_sl (as.map (cv ad)) ++ List.replicate (n - (lg_sl (as.map (cv ad))).length) Slot.unset).toArray) L := by
  have hl := lv_entry (as.map (cv ad)) (n := n) (by rw [entL_len]; exact h)
  subst hL
  refine ⟨by rw [hl.1]; simp; omega, hl.2.1, fun i v hi hv => ?_⟩
  by_cases hlt : i < (entL as).length
  · rw [List.getElem?_append_left hlt] at hi
    have := entL_args ad as 0 i v hi hv
    rw [Nat.zero_add] at this
    exact hl.2.2 _ this
  · rw [List.getElem?_append_right (by omega)] at hi
    have : v = vX 1 := by
      have := List.mem_of_getElem? hi
      exact (List.mem_replicate.mp this).2
    subst this
    simp [isV] at hv
theorem aA_A {ad : Nat → Nat} {n sz : Nat} : (∀ i, i < n → aA ad n sz (ad i)) ∧ ∀ q, sz ≤ q → aA ad n sz q := ⟨fun i h => Or.inl ⟨i, h, rfl⟩, fun _ h => Or.inr h⟩
theorem HdS.warm {D : va_G} {cy : CYT} {ad : Nat → Nat} {n : Nat} {M : Mem} {P : PMem} {s U : State} (hH : va_P D vwCl (wl cy ad n M P) U.heap) (hK : va_K D vwCl (tysC cy) s) (hN : ∀ w ∈ lwN, va_Nw w s) (hi : injA ad n) (hW : s.WarmedH U.vm) : HdS D cy ad n M P U := ⟨hH, va_K.moved hW.alike hK, lwN_warm hW hN, hi⟩
theorem CtA_of {l : Launch} {y : MethodName} {cc : ByteArray} {nL : Nat} {rt : Option FieldType} {fr lo mc ms n n' nm : Nat} {as L : List AV} {M : Mem} {P : PMem} {Q : Option AV → Mem → PMem → Prop} {own : String} (hy : plainName y.cls = true) (ho : y.cls = own) (hL : L = entL as ++ List.replicate (nL - (entL as).length) (vX 1)) (hlen : (entL as).length ≤ nL) (hnm : nm ≤ n)
    (body : ∀ (X : CX) (ad : Nat → Nat), xl X = l → (xmeth X).name = y.name → (xR X).cells = mc → (xR X).slots = ms → OK X (ad, n, 0, 0) cc own nL rt fr lo nm → RQ X n' mc ms Q → G X (ad, n, 0, 0) 0 L [] M P) : CtA l y cc nL rt fr lo mc ms n n' as M P Q := by
  intro D cy ad sz
  refine Met.ofW (cc := cc) (maxL := nL) (ret := rt) hy rfl ?_
  intro p e s m args below meth c s₁ B hml hv
  obtain ⟨rfl, hsz, hP, hK, hN, hi⟩ := hv
  subst hsz
  have hts := atoms_spec (ws := Cond.code y cc nL rt :: lwG) B.pre
  have hown : s.vm.findClass own = some m.cls := by rw [← ho]; exact findClass_of_methodNamed B.named
  have hname : meth.name = y.name := (name_of_methodNamed B.named B.method).1
  let X : CX := ((p, l, e, (headSpec (Cond.code y cc nL rt :: lwG) { frames := fr, cells := mc, slots := ms, locals := lo }).room, s, m, (as.map (cv ad)).toArray, below), (meth, c, D, cy), (aA ad n s.heap.size, MQ below (QcA D cy ad n n' s.heap.size Q) (as.map (cv ad)).toArray s mc ms (aA ad n s.heap.size), ad, n))
  have hb := body X ad rfl hname rfl rfl ⟨⟨B.exec, B.bytes, hown, hml, B.returns, B.notSynchronized⟩, ⟨fun w hw => hts w (List.mem_cons_of_mem _ hw), hN, hK⟩, ⟨hi, aA_A.1, aA_A.2⟩, ⟨rfl, rfl, Nat.zero_le _, Nat.zero_le _, hnm⟩, ⟨Nat.le_refl _, fun _ _ => rfl, fun k h1 h2 => absurd h2 (by show ¬ k < n; exact Nat.not_lt.mpr h1), fun _ => rfl⟩⟩
    ⟨QcA D cy ad n n' s.heap.size Q, rfl, fun ad' r M' P' H locs hq hi' h1 h2 h4 hP' hS t ht hW => ⟨⟨ad', r, M', P', rfl, hq, ⟨by rw [ht]; exact hP', va_K.moved hW.alike hK, lwN_warm hW hN, hi'⟩, h1, h2, h4⟩, hS.F ht⟩⟩
  have hw := hb s.heap [] ((lg_sl (as.map (cv ad)) ++ List.replicate (nL - (lg_sl (as.map (cv ad))).length) Slot.unset).toArray) hP va_S.rf (LH_entry hL hlen)
  rw [lg_entry_eq]
  exact hw
theorem Ct_of {l : Launch} {y : MethodName} {cc : ByteArray} {nL : Nat} {rt : Option FieldType} {fr lo nm : Nat} {as L : List AV} {M : Mem} {P : PMem} {Q : Option AV → Mem → PMem → Prop} {own : String} (hy : plainName y.cls = true) (ho : y.cls = own) (hL : L = entL as ++ List.replicate (nL - (entL as).length) (vX 1)) (hlen : (entL as).length ≤ nL)
    (body : ∀ (X : CX) (Y : CY), xl X = l → OK X Y cc own nL rt fr lo nm → RQ X (yn Y) (yc Y) (ys Y) Q → G X Y 0 L [] M P) : Ct l y cc nL rt fr lo nm as M P Q := by
  intro n hn
  exact CtA_of hy ho hL hlen hn (fun X ad hl _ _ _ hC hQ => body X (ad, n, 0, 0) hl hC hQ)
theorem CtA.mono {l : Launch} {y : MethodName} {cc : ByteArray} {nL : Nat} {rt : Option FieldType} {fr lo mc ms n n' : Nat} {as : List AV} {M : Mem} {P : PMem} {Q Q' : Option AV → Mem → PMem → Prop} (h : CtA l y cc nL rt fr lo mc ms n n' as M P Q) (hq : ∀ r M' P', Q r M' P' → Q' r M' P') : CtA l y cc nL rt fr lo mc ms n n' as M P Q' := by
  intro D cy ad sz p e ha hc hk s m args below hf happ hP hK
  obtain ⟨k, o, h1, h2, h3, ⟨⟨ad', r, M', P', a1, a2, a3⟩, b⟩, c⟩ := h D cy ad sz p e ha hc hk s m args below hf happ hP hK
  exact ⟨k, o, h1, h2, h3, ⟨⟨ad', r, M', P', a1, hq _ _ _ a2, a3⟩, b⟩, c⟩
theorem Ct.mono {l : Launch} {y : MethodName} {cc : ByteArray} {nL : Nat} {rt : Option FieldType} {fr lo nm : Nat} {as : List AV} {M : Mem} {P : PMem} {Q Q' : Option AV → Mem → PMem → Prop} (h : Ct l y cc nL rt fr lo nm as M P Q) (hq : ∀ r M' P', Q r M' P' → Q' r M' P') : Ct l y cc nL rt fr lo nm as M P Q' := fun n hn => (h n hn).mono hq
/-! links of methods -/
def ML (own : String) (idx : Nat) (y : MethodName) (cc : ByteArray) (nL : Nat) (rt : Option FieldType) (na : Nat) : Prop := (y.cls ≠ "java/lang/invoke/MethodHandle" ∧ y.cls ≠ "java/lang/invoke/VarHandle" ∧ (parseMethodDescriptor y.desc).map (fun d => d.parameters.length) = some na) ∧ Cond.code y cc nL rt ∈ lwG ∧ Cond.initialized y.cls ∈ lwG ∧ (Cond.methodLink own idx y ∈ lwG ∨ ∃ host, Cond.methodLinkNest own idx y host ∈ lwN)
def MV (own : String) (idx : Nat) (y : MethodName) (cc : ByteArray) (nL : Nat) (rt : Option FieldType) (na ci : Nat) : Prop := ML own idx y cc nL rt na ∧ Cond.instanceMethod y ∈ lwG ∧ Cond.selects y.cls y y ∈ lwG ∧ ∃ T N, vwCl[ci]? = some (y.cls, T, N) ∧ ci < 11
def MS (own : String) (idx : Nat) (y : MethodName) (cc : ByteArray) (nL : Nat) (rt : Option FieldType) (na : Nat) : Prop := ML own idx y cc nL rt na ∧ Cond.static y ∈ lwG
def MI (own : String) (idx : Nat) (y : MethodName) (cc : ByteArray) (nL : Nat) (na : Nat) : Prop := ML own idx y cc nL none na ∧ y.name = "<init>" ∧ Cond.instanceMethod y ∈ lwG
theorem good_cons {y : MethodName} {cc : ByteArray} {nL : Nat} {rt : Option FieldType} (h : Cond.code y cc nL rt ∈ lwG) : GoodIn lwG (Cond.code y cc nL rt :: lwG) := by
  intro w hw
  have hm : w ∈ lwG := by
    rcases List.mem_cons.mp hw with rfl | h2
    · exact h
    · exact h2
  exact ⟨hm, good_of_word (lwG_good hm)⟩
def c2s (l : List AV) : Nat := (l.map (fun v => if isC2 v = true then 2 else 1)).sum
theorem c2s_ok (ad : Nat → Nat) : ∀ (l : List AV), ((l.map (cv ad)).map fun v => v.category).sum = c2s l
  | [] => rfl
  | v :: l => by
    have ih := c2s_ok ad l
    unfold c2s at ih ⊢
    simp only [List.map_cons, List.sum_cons, ih]
    congr 1
    rcases v with z | z | z | z <;> rfl
/-- the references among these values are of cells that are there -/
def rOK (n : Nat) : AV → Bool
  | .inr (.inr (.inl k)) => decide (k < n)
  | _ => true
theorem cv_ext {ad ad' : Nat → Nat} {n : Nat} (h : ∀ k, k < n → ad' k = ad k) {v : AV} (hv : rOK n v = true) : cv ad' v = cv ad v := by
  rcases v with z | z | k | z
  · rfl
  · rfl
  · have : k < n := by simpa [rOK] using hv
    simp [cv, h k this]
  · rfl
section LAY6
variable {X : CX} {Y : CY} {cc : ByteArray} {own : String} {nL : Nat} {rt : Option FieldType} {fr lo nm : Nat} {pc : Nat} {L st : List AV} {M : Mem} {P : PMem} {Q : Option AV → Mem → PMem → Prop}
theorem aA_xA (hC : OK X Y cc own nL rt fr lo nm) {H : Heap} (hs : (xs X).heap.size ≤ H.size) (q : Nat) (h : aA (ya Y) (yn Y) H.size q) : xA X q := by
  rcases h with ⟨k, hk, rfl⟩ | h
  · exact hC.2.2.1.2.1 k hk
  · exact hC.2.2.1.2.2 q (Nat.le_trans hs h)
/-- behind a call -/
theorem G_back {H : Heap} {locs : List Loc} {ls : Array Slot} {mc ms n' : Nat} {st0 rest : List Value} {a : Array Value} (hC : OK X Y cc own nL rt fr lo nm)
    (hr : va_Run (xp X) (xl X) (xe X) (xR X) (xs X) (xm X) (xargs X) (xbelow X) (xmeth X) (xc X) H locs (yc Y) (ys Y) mc ms (F0 (xm X) pc ls st0) rest (QcA (xD X) (xcy X) (ya Y) (yn Y) n' H.size Q a) (aA (ya Y) (yn Y) H.size))
    (hS : va_S (xA X) (xs X).heap H locs) (hc : yc Y + mc ≤ (xR X).cells) (hs : ys Y + ms ≤ (xR X).slots) (hn : yn Y ≤ n')
    (kk : ∀ (ad' : Nat → Nat) (r : Option AV) (M' : Mem) (P' : PMem) (H1 : Heap) (locs1 : List Loc), Q r M' P' → (∀ k, k < yn Y → ad' k = ya Y k) → (n' = yn Y → ad' = ya Y) → OK X (ad', n', yc Y + mc, ys Y + ms) cc own nL rt fr lo nm → va_P (xD X) vwCl (wl (xcy X) ad' n' M' P') H1 → va_S (xA X) (xs X).heap H1 locs1 → WW X (ad', n', yc Y + mc, ys Y + ms) H1 locs1 (F0 (xm X) (pc + 3) ls ((r.map (cv ad')).toList ++ rest))) : WW X Y H locs (F0 (xm X) pc ls st0) := by
  intro T hT X0
  obtain ⟨v, st₀, t, T', L', h0, X', hL, e1, e2, ⟨⟨ad', r, M', P', hv, hq, ⟨hP', hK', hN', hi'⟩, hx1, hx2, hx3⟩, hz, hk⟩, hst⟩ := hr T hT X0
  cases hv
  rw [h0] at hz hk
  have hA := aA_xA hC hS.1
  have hS' : va_S (xA X) (xs X).heap T'.heap (locs ++ L') := ⟨Nat.le_trans hS.1 (by rw [e1]; exact hz), fun q h1 h2 => by rw [e1, hk q (Nat.lt_of_lt_of_le h1 hS.1) (fun z => h2 (hA q z))]; exact hS.2.1 q h1 h2, fun q hq => by
      rcases List.mem_append.mp hq with h | h
      · exact hS.2.2 q h
      · exact hA _ (hL q h)⟩
  have hOK : OK X (ad', n', yc Y + mc, ys Y + ms) cc own nL rt fr lo nm := by
    obtain ⟨c1, c2, ⟨d1, d2, d3⟩, ⟨f1, f2, f3, f4, f5⟩, ⟨g1, g2, g3, g4⟩⟩ := hC
    refine ⟨c1, c2, ⟨hi', fun i hi => ?_, d3⟩, ⟨f1, f2, hc, hs, Nat.le_trans f5 hn⟩, ⟨Nat.le_trans g1 hn, fun k hk => ?_, fun k h1 h2 => ?_, fun e => ?_⟩⟩
    · show xA X (ad' i)
      by_cases h : i < yn Y
      · rw [hx1 i h]; exact d2 i h
      · exact d3 _ (Nat.le_trans hS.1 (hx2 i (by omega) hi))
    · show ad' k = xad X k
      rw [hx1 k (by omega)]; exact g2 k hk
    · show (xs X).heap.size ≤ ad' k
      by_cases h : k < yn Y
      · rw [hx1 k h]; exact g3 k h1 h
      · exact Nat.le_trans hS.1 (hx2 k (by omega) h2)
    · show ad' = xad X
      have e' : n' = xn X := e
      rw [hx3 (by omega)]; exact g4 (by omega)
  obtain ⟨t2, a1, b1⟩ := kk ad' r M' P' T'.heap (locs ++ L') hq hx1 hx3 hOK (by rw [e1]; exact hP') hS' T' rfl X'
  exact ⟨t2, hst t2 a1, b1⟩
theorem blindA {D : va_G} {cy : CYT} {ad : Nat → Nat} {n sz : Nat} {as : List AV} : FrameBlind (PcA D cy ad n sz as M P) := by
  intro a U g mk q
  obtain ⟨q0, q1, q2, q3, q4, q5⟩ := q
  exact ⟨q0, q1, q2, va_K.moved (u := U) (U := U.calling g mk a) (Vm.Alike.refl U.vm) q3, lwN_same (s := U) (U := U.calling g mk a) rfl q4, q5⟩
theorem G_runV {H : Heap} {locs : List Loc} {ls : Array Slot} {y : MethodName} {cc' : ByteArray} {nL' : Nat} {rt' : Option FieldType} {fr' lo' mc ms n' b ci z na idx : Nat} {as : List AV} (hC : OK X Y cc own nL rt fr lo nm) (hct : CtA (xl X) y cc' nL' rt' fr' lo' mc ms (yn Y) n' (vR b :: as) M P Q) (hm : MV own idx y cc' nL' rt' na ci) (hs : shp b = (ci, z)) (hb : b < yn Y) (ha : as.length = na) (hR : fr' + 1 ≤ fr ∧ 8 + (nL' + 11) + lo' ≤ lo) (hst : c2s st ≤ 8) (hc : yc Y + mc ≤ (xR X).cells) (hsl : ys Y + ms ≤ (xR X).slots) (hls : ls.size = nL) (d : decode cc pc = .ok (.invokevirtual idx, 3)) (h1 : va_P (xD X) vwCl (wl (xcy X) (ya Y) (yn Y) M P) H) :
    va_Run (xp X) (xl X) (xe X) (xR X) (xs X) (xm X) (xargs X) (xbelow X) (xmeth X) (xc X) H locs (yc Y) (ys Y) mc ms (F0 (xm X) pc ls ((as.reverse ++ vR b :: st).map (cv (ya Y)))) (st.map (cv (ya Y))) (QcA (xD X) (xcy X) (ya Y) (yn Y) n' H.size Q ((vR b :: as).map (cv (ya Y))).toArray) (aA (ya Y) (yn Y) H.size) := by
  obtain ⟨⟨⟨hd1, hd2, hd3⟩, hcode, hini, hlink⟩, hinst, hsel, T, N, hcl, hci⟩ := hm
  have hrecv := va_recv hC.K h1 hcl (a := ya Y b) (q0 := b) (ci := ci) (by rw [wl_get hb, ceS_obj hs hci])
  have hR' : fr' + 1 ≤ (xR X).frames ∧ 8 + (nL' + 11) + lo' ≤ (xR X).locals := by
    rw [hC.2.2.2.1.1, hC.2.2.2.1.2.1]; exact hR
  have hp : PreV (xs X) H y.cls (ya Y b) (PcA (xD X) (xcy X) (ya Y) (yn Y) H.size (vR b :: as) M P) (as.map (cv (ya Y))) :=
    ⟨blindA, hrecv, fun U hU hW => ⟨rfl, by rw [hU], HdS.warm (by rw [hU]; exact h1) hC.K hC.2.1.2.1 hC.2.2.1.1 hW⟩⟩
  have hstk : (F0 (xm X) pc ls ((as.reverse ++ vR b :: st).map (cv (ya Y)))).stack = (as.map (cv (ya Y))).reverse ++ .ref (ya Y b) :: st.map (cv (ya Y)) := by
    show (as.reverse ++ vR b :: st).map (cv (ya Y)) = _
    rw [List.map_append, List.map_reverse]; rfl
  have hW8 : 2 * (F0 (xm X) pc ls ((as.reverse ++ vR b :: st).map (cv (ya Y)))).monitorRoom + ((st.map (cv (ya Y))).map fun v => v.category).sum ≤ 8 := lv_room (by rw [c2s_ok]; exact hst)
  rcases hlink with hl | ⟨host, hl⟩
  · exact va_runV (C := y.cls) ⟨hC.x, hC.b, hC.1.2.2.2.1, hC.o, hC.w⟩ (hct (xD X) (xcy X) (ya Y) H.size) ⟨callB_of na hC.w (good_cons hcode) rfl rfl rfl (hC.w _ hini) (hC.w _ hl) ⟨hd1, hd2, hd3⟩ hR', hC.w _ hinst, hC.w _ hsel⟩ hp rfl (by rw [List.length_map]; exact ha) hls hstk hW8 d ⟨hc, hsl⟩
  · exact va_runVN (C := y.cls) ⟨hC.x, hC.b, hC.1.2.2.2.1, hC.o, hC.w⟩ (hct (xD X) (xcy X) (ya Y) H.size) ⟨va_cnB na hC.w (good_cons hcode) rfl rfl rfl (hC.2.1.2.1 _ hl) (hC.w _ hini) ⟨hd1, hd2, hd3⟩ hR', hC.w _ hinst, hC.w _ hsel⟩ hp rfl (by rw [List.length_map]; exact ha) hls hstk hW8 d ⟨hc, hsl⟩
theorem G_runS {H : Heap} {locs : List Loc} {ls : Array Slot} {y : MethodName} {cc' : ByteArray} {nL' : Nat} {rt' : Option FieldType} {fr' lo' mc ms n' na idx : Nat} {as : List AV} (hC : OK X Y cc own nL rt fr lo nm) (hct : CtA (xl X) y cc' nL' rt' fr' lo' mc ms (yn Y) n' as M P Q) (hm : MS own idx y cc' nL' rt' na) (ha : as.length = na) (hR : fr' + 1 ≤ fr ∧ 8 + (nL' + 11) + lo' ≤ lo) (hst : c2s st ≤ 8) (hc : yc Y + mc ≤ (xR X).cells) (hsl : ys Y + ms ≤ (xR X).slots) (hls : ls.size = nL) (d : decode cc pc = .ok (.invokestatic idx, 3)) (h1 : va_P (xD X) vwCl (wl (xcy X) (ya Y) (yn Y) M P) H) :
    va_Run (xp X) (xl X) (xe X) (xR X) (xs X) (xm X) (xargs X) (xbelow X) (xmeth X) (xc X) H locs (yc Y) (ys Y) mc ms (F0 (xm X) pc ls ((as.reverse ++ st).map (cv (ya Y)))) (st.map (cv (ya Y))) (QcA (xD X) (xcy X) (ya Y) (yn Y) n' H.size Q (as.map (cv (ya Y))).toArray) (aA (ya Y) (yn Y) H.size) := by
  obtain ⟨⟨⟨hd1, hd2, hd3⟩, hcode, hini, hlink⟩, hstat⟩ := hm
  have hR' : fr' + 1 ≤ (xR X).frames ∧ 8 + (nL' + 11) + lo' ≤ (xR X).locals := by
    rw [hC.2.2.2.1.1, hC.2.2.2.1.2.1]; exact hR
  have hp : PreS (xs X) H (PcA (xD X) (xcy X) (ya Y) (yn Y) H.size as M P) (as.map (cv (ya Y))) :=
    ⟨blindA, fun U hU hW => ⟨rfl, by rw [hU], HdS.warm (by rw [hU]; exact h1) hC.K hC.2.1.2.1 hC.2.2.1.1 hW⟩⟩
  have hstk : (F0 (xm X) pc ls ((as.reverse ++ st).map (cv (ya Y)))).stack = (as.map (cv (ya Y))).reverse ++ st.map (cv (ya Y)) := by
    show (as.reverse ++ st).map (cv (ya Y)) = _
    rw [List.map_append, List.map_reverse]
  have hW8 : 2 * (F0 (xm X) pc ls ((as.reverse ++ st).map (cv (ya Y)))).monitorRoom + ((st.map (cv (ya Y))).map fun v => v.category).sum ≤ 8 := lv_room (by rw [c2s_ok]; exact hst)
  rcases hlink with hl | ⟨host, hl⟩
  · exact va_runS ⟨hC.x, hC.b, hC.1.2.2.2.1, hC.o, hC.w⟩ (hct (xD X) (xcy X) (ya Y) H.size) ⟨callB_of na hC.w (good_cons hcode) rfl rfl rfl (hC.w _ hini) (hC.w _ hl) ⟨hd1, hd2, hd3⟩ hR', hC.w _ hstat⟩ hp rfl (by rw [List.length_map]; exact ha) hls hstk hW8 d ⟨hc, hsl⟩
  · exact va_runSN ⟨hC.x, hC.b, hC.1.2.2.2.1, hC.o, hC.w⟩ (hct (xD X) (xcy X) (ya Y) H.size) ⟨va_cnB na hC.w (good_cons hcode) rfl rfl rfl (hC.2.1.2.1 _ hl) (hC.w _ hini) ⟨hd1, hd2, hd3⟩ hR', hC.w _ hstat, trivial⟩ hp rfl (by rw [List.length_map]; exact ha) hls hstk hW8 d ⟨hc, hsl⟩
theorem G_runI {H : Heap} {locs : List Loc} {ls : Array Slot} {y : MethodName} {cc' : ByteArray} {nL' : Nat} {fr' lo' mc ms n' b na idx : Nat} {as : List AV} (hC : OK X Y cc own nL rt fr lo nm) (hct : CtA (xl X) y cc' nL' none fr' lo' mc ms (yn Y) n' (vR b :: as) M P Q) (hm : MI own idx y cc' nL' na) (ha : as.length = na) (hR : fr' + 1 ≤ fr ∧ 8 + (nL' + 11) + lo' ≤ lo) (hst : c2s st ≤ 8) (hc : yc Y + mc ≤ (xR X).cells) (hsl : ys Y + ms ≤ (xR X).slots) (hls : ls.size = nL) (d : decode cc pc = .ok (.invokespecial idx, 3)) (h1 : va_P (xD X) vwCl (wl (xcy X) (ya Y) (yn Y) M P) H) :
    va_Run (xp X) (xl X) (xe X) (xR X) (xs X) (xm X) (xargs X) (xbelow X) (xmeth X) (xc X) H locs (yc Y) (ys Y) mc ms (F0 (xm X) pc ls ((as.reverse ++ vR b :: st).map (cv (ya Y)))) (st.map (cv (ya Y))) (QcA (xD X) (xcy X) (ya Y) (yn Y) n' H.size Q ((vR b :: as).map (cv (ya Y))).toArray) (aA (ya Y) (yn Y) H.size) := by
  obtain ⟨⟨⟨hd1, hd2, hd3⟩, hcode, hini, hlink⟩, hname, hinst⟩ := hm
  have hR' : fr' + 1 ≤ (xR X).frames ∧ 8 + (nL' + 11) + lo' ≤ (xR X).locals := by
    rw [hC.2.2.2.1.1, hC.2.2.2.1.2.1]; exact hR
  have hp : PreS (xs X) H (PcA (xD X) (xcy X) (ya Y) (yn Y) H.size (vR b :: as) M P) (.ref (ya Y b) :: as.map (cv (ya Y))) :=
    ⟨blindA, fun U hU hW => ⟨rfl, by rw [hU], HdS.warm (by rw [hU]; exact h1) hC.K hC.2.1.2.1 hC.2.2.1.1 hW⟩⟩
  have hstk : (F0 (xm X) pc ls ((as.reverse ++ vR b :: st).map (cv (ya Y)))).stack = (as.map (cv (ya Y))).reverse ++ .ref (ya Y b) :: st.map (cv (ya Y)) := by
    show (as.reverse ++ vR b :: st).map (cv (ya Y)) = _
    rw [List.map_append, List.map_reverse]; rfl
  have hW8 : 2 * (F0 (xm X) pc ls ((as.reverse ++ vR b :: st).map (cv (ya Y)))).monitorRoom + ((st.map (cv (ya Y))).map fun v => v.category).sum ≤ 8 := lv_room (by rw [c2s_ok]; exact hst)
  rcases hlink with hl | ⟨host, hl⟩
  · exact va_runI ⟨hC.x, hC.b, hC.1.2.2.2.1, hC.o, hC.w⟩ (hct (xD X) (xcy X) (ya Y) H.size) ⟨callB_of na hC.w (good_cons hcode) rfl rfl rfl (hC.w _ hini) (hC.w _ hl) ⟨hd1, hd2, hd3⟩ hR', hname, hC.w _ hinst⟩ hp rfl (by rw [List.length_map]; exact ha) hls hstk hW8 d ⟨hc, hsl⟩
  · exact va_runIN ⟨hC.x, hC.b, hC.1.2.2.2.1, hC.o, hC.w⟩ (hct (xD X) (xcy X) (ya Y) H.size) ⟨va_cnB na hC.w (good_cons hcode) rfl rfl rfl (hC.2.1.2.1 _ hl) (hC.w _ hini) ⟨hd1, hd2, hd3⟩ hR', hname, hC.w _ hinst⟩ hp rfl (by rw [List.length_map]; exact ha) hls hstk hW8 d ⟨hc, hsl⟩
theorem LH.ext {ad ad' : Nat → Nat} {n : Nat} {ls : Array Slot} (h : ∀ k, k < n → ad' k = ad k) (hr : L.all (rOK n) = true) (hl : LH ad ls L) : LH ad' ls L := by
  refine ⟨hl.1, hl.2.1, fun i v hi hv => ?_⟩
  rw [cv_ext h (List.all_eq_true.mp hr v (List.mem_of_getElem? hi))]
  exact hl.2.2 i v hi hv
theorem map_ext {ad ad' : Nat → Nat} {n : Nat} (h : ∀ k, k < n → ad' k = ad k) : ∀ {l : List AV}, l.all (rOK n) = true → l.map (cv ad') = l.map (cv ad)
  | [], _ => rfl
  | v :: l, hr => by
    simp only [List.all_cons, Bool.and_eq_true] at hr
    rw [List.map_cons, List.map_cons, cv_ext h hr.1, map_ext h hr.2]
theorem map_ret {ad : Nat → Nat} (r : Option AV) : (r.map (cv ad)).toList ++ st.map (cv ad) = (r.toList ++ st).map (cv ad) := by cases r <;> rfl
theorem G_callV {stk : List AV} {y : MethodName} {cc' : ByteArray} {nL' : Nat} {rt' : Option FieldType} {fr' lo' nm' b ci z na idx : Nat} {as : List AV} (hC : OK X Y cc own nL rt fr lo nm) (hct : Ct (xl X) y cc' nL' rt' fr' lo' nm' (vR b :: as) M P Q) (hm : MV own idx y cc' nL' rt' na ci) (hs : shp b = (ci, z)) (hb : b < nm) (hnm : nm' ≤ nm) (ha : as.length = na) (hR : fr' + 1 ≤ fr ∧ 8 + (nL' + 11) + lo' ≤ lo) (hst : c2s st ≤ 8) (hln : L.length = nL) (d : decode cc pc = .ok (.invokevirtual idx, 3)) (hk : stk = as.reverse ++ vR b :: st) (kk : ∀ r M' P', Q r M' P' → G X Y (pc + 3) L (r.toList ++ st) M' P') : G X Y pc L stk M P := by
  subst hk
  intro H locs ls h1 h2 h3
  have hnY : nm ≤ yn Y := hC.2.2.2.1.2.2.2.2
  have hcc : yc Y + 0 ≤ (xR X).cells := hC.2.2.2.1.2.2.1
  have hss : ys Y + 0 ≤ (xR X).slots := hC.2.2.2.1.2.2.2.1
  refine G_back hC (G_runV hC (hct (yn Y) (Nat.le_trans hnm hnY)) hm hs (hC.n hb) ha hR hst hcc hss (h3.1.trans hln) d h1) h2 hcc hss (Nat.le_refl _) (fun ad' r M' P' H1 locs1 hq hx hx3 hOK q1 q2 => ?_)
  have e := hx3 rfl
  subst e
  rw [map_ret]
  exact kk r M' P' hq H1 locs1 ls q1 q2 h3
theorem G_callS {stk : List AV} {y : MethodName} {cc' : ByteArray} {nL' : Nat} {rt' : Option FieldType} {fr' lo' nm' na idx : Nat} {as : List AV} (hC : OK X Y cc own nL rt fr lo nm) (hct : Ct (xl X) y cc' nL' rt' fr' lo' nm' as M P Q) (hm : MS own idx y cc' nL' rt' na) (hnm : nm' ≤ nm) (ha : as.length = na) (hR : fr' + 1 ≤ fr ∧ 8 + (nL' + 11) + lo' ≤ lo) (hst : c2s st ≤ 8) (hln : L.length = nL) (d : decode cc pc = .ok (.invokestatic idx, 3)) (hk : stk = as.reverse ++ st) (kk : ∀ r M' P', Q r M' P' → G X Y (pc + 3) L (r.toList ++ st) M' P') : G X Y pc L stk M P := by
  subst hk
  intro H locs ls h1 h2 h3
  have hnY : nm ≤ yn Y := hC.2.2.2.1.2.2.2.2
  have hcc : yc Y + 0 ≤ (xR X).cells := hC.2.2.2.1.2.2.1
  have hss : ys Y + 0 ≤ (xR X).slots := hC.2.2.2.1.2.2.2.1
  refine G_back hC (G_runS hC (hct (yn Y) (Nat.le_trans hnm hnY)) hm ha hR hst hcc hss (h3.1.trans hln) d h1) h2 hcc hss (Nat.le_refl _) (fun ad' r M' P' H1 locs1 hq hx hx3 hOK q1 q2 => ?_)
  have e := hx3 rfl
  subst e
  rw [map_ret]
  exact kk r M' P' hq H1 locs1 ls q1 q2 h3
/-! contracts by what is answered -/
def CtI (l : Launch) (y : MethodName) (cc : ByteArray) (nL : Nat) (rt : Option FieldType) (fr lo nm : Nat) (as : List AV) (M : Mem) (P : PMem) (Q : Int → Mem → PMem → Prop) : Prop := Ct l y cc nL rt fr lo nm as M P (fun r M' P' => ∃ z, r = some (vI z) ∧ Q z M' P')
def CtL (l : Launch) (y : MethodName) (cc : ByteArray) (nL : Nat) (rt : Option FieldType) (fr lo nm : Nat) (as : List AV) (M : Mem) (P : PMem) (Q : Int → Mem → PMem → Prop) : Prop := Ct l y cc nL rt fr lo nm as M P (fun r M' P' => ∃ z, r = some (vL z) ∧ Q z M' P')
def CtV (l : Launch) (y : MethodName) (cc : ByteArray) (nL : Nat) (rt : Option FieldType) (fr lo nm : Nat) (as : List AV) (M : Mem) (P : PMem) (Q : Mem → PMem → Prop) : Prop := Ct l y cc nL rt fr lo nm as M P (fun r M' P' => r = none ∧ Q M' P')
theorem G_callVI {stk : List AV} {y : MethodName} {cc' : ByteArray} {nL' : Nat} {rt' : Option FieldType} {fr' lo' nm' b ci z na idx : Nat} {as : List AV} {Q : Int → Mem → PMem → Prop} (hC : OK X Y cc own nL rt fr lo nm) (hct : CtI (xl X) y cc' nL' rt' fr' lo' nm' (vR b :: as) M P Q) (hm : MV own idx y cc' nL' rt' na ci) (hs : shp b = (ci, z)) (hb : b < nm) (hnm : nm' ≤ nm) (ha : as.length = na) (hR : fr' + 1 ≤ fr ∧ 8 + (nL' + 11) + lo' ≤ lo) (d : decode cc pc = .ok (.invokevirtual idx, 3)) (hk : stk = as.reverse ++ vR b :: st) (hst : c2s st ≤ 8) (hln : L.length = nL) (kk : ∀ z M' P', Q z M' P' → G X Y (pc + 3) L (vI z :: st) M' P') : G X Y pc L stk M P :=
  G_callV hC hct hm hs hb hnm ha hR hst hln d hk (fun r M' P' h => by obtain ⟨z, rfl, hq⟩ := h; exact kk z M' P' hq)
theorem G_callSI {stk : List AV} {y : MethodName} {cc' : ByteArray} {nL' : Nat} {rt' : Option FieldType} {fr' lo' nm' na idx : Nat} {as : List AV} {Q : Int → Mem → PMem → Prop} (hC : OK X Y cc own nL rt fr lo nm) (hct : CtI (xl X) y cc' nL' rt' fr' lo' nm' as M P Q) (hm : MS own idx y cc' nL' rt' na) (hnm : nm' ≤ nm) (ha : as.length = na) (hR : fr' + 1 ≤ fr ∧ 8 + (nL' + 11) + lo' ≤ lo) (d : decode cc pc = .ok (.invokestatic idx, 3)) (hk : stk = as.reverse ++ st) (hst : c2s st ≤ 8) (hln : L.length = nL) (kk : ∀ z M' P', Q z M' P' → G X Y (pc + 3) L (vI z :: st) M' P') : G X Y pc L stk M P :=
  G_callS hC hct hm hnm ha hR hst hln d hk (fun r M' P' h => by obtain ⟨z, rfl, hq⟩ := h; exact kk z M' P' hq)
theorem G_callVL {stk : List AV} {y : MethodName} {cc' : ByteArray} {nL' : Nat} {rt' : Option FieldType} {fr' lo' nm' b ci z na idx : Nat} {as : List AV} {Q : Int → Mem → PMem → Prop} (hC : OK X Y cc own nL rt fr lo nm) (hct : CtL (xl X) y cc' nL' rt' fr' lo' nm' (vR b :: as) M P Q) (hm : MV own idx y cc' nL' rt' na ci) (hs : shp b = (ci, z)) (hb : b < nm) (hnm : nm' ≤ nm) (ha : as.length = na) (hR : fr' + 1 ≤ fr ∧ 8 + (nL' + 11) + lo' ≤ lo) (d : decode cc pc = .ok (.invokevirtual idx, 3)) (hk : stk = as.reverse ++ vR b :: st) (hst : c2s st ≤ 8) (hln : L.length = nL) (kk : ∀ z M' P', Q z M' P' → G X Y (pc + 3) L (vL z :: st) M' P') : G X Y pc L stk M P :=
  G_callV hC hct hm hs hb hnm ha hR hst hln d hk (fun r M' P' h => by obtain ⟨z, rfl, hq⟩ := h; exact kk z M' P' hq)
theorem G_callSL {stk : List AV} {y : MethodName} {cc' : ByteArray} {nL' : Nat} {rt' : Option FieldType} {fr' lo' nm' na idx : Nat} {as : List AV} {Q : Int → Mem → PMem → Prop} (hC : OK X Y cc own nL rt fr lo nm) (hct : CtL (xl X) y cc' nL' rt' fr' lo' nm' as M P Q) (hm : MS own idx y cc' nL' rt' na) (hnm : nm' ≤ nm) (ha : as.length = na) (hR : fr' + 1 ≤ fr ∧ 8 + (nL' + 11) + lo' ≤ lo) (d : decode cc pc = .ok (.invokestatic idx, 3)) (hk : stk = as.reverse ++ st) (hst : c2s st ≤ 8) (hln : L.length = nL) (kk : ∀ z M' P', Q z M' P' → G X Y (pc + 3) L (vL z :: st) M' P') : G X Y pc L stk M P :=
  G_callS hC hct hm hnm ha hR hst hln d hk (fun r M' P' h => by obtain ⟨z, rfl, hq⟩ := h; exact kk z M' P' hq)
theorem G_callVV {stk : List AV} {y : MethodName} {cc' : ByteArray} {nL' : Nat} {rt' : Option FieldType} {fr' lo' nm' b ci z na idx : Nat} {as : List AV} {Q : Mem → PMem → Prop} (hC : OK X Y cc own nL rt fr lo nm) (hct : CtV (xl X) y cc' nL' rt' fr' lo' nm' (vR b :: as) M P Q) (hm : MV own idx y cc' nL' rt' na ci) (hs : shp b = (ci, z)) (hb : b < nm) (hnm : nm' ≤ nm) (ha : as.length = na) (hR : fr' + 1 ≤ fr ∧ 8 + (nL' + 11) + lo' ≤ lo) (d : decode cc pc = .ok (.invokevirtual idx, 3)) (hk : stk = as.reverse ++ vR b :: st) (hst : c2s st ≤ 8) (hln : L.length = nL) (kk : ∀ M' P', Q M' P' → G X Y (pc + 3) L (st) M' P') : G X Y pc L stk M P :=
  G_callV hC hct hm hs hb hnm ha hR hst hln d hk (fun r M' P' h => by obtain ⟨rfl, hq⟩ := h; exact kk M' P' hq)
theorem G_callSV {stk : List AV} {y : MethodName} {cc' : ByteArray} {nL' : Nat} {rt' : Option FieldType} {fr' lo' nm' na idx : Nat} {as : List AV} {Q : Mem → PMem → Prop} (hC : OK X Y cc own nL rt fr lo nm) (hct : CtV (xl X) y cc' nL' rt' fr' lo' nm' as M P Q) (hm : MS own idx y cc' nL' rt' na) (hnm : nm' ≤ nm) (ha : as.length = na) (hR : fr' + 1 ≤ fr ∧ 8 + (nL' + 11) + lo' ≤ lo) (d : decode cc pc = .ok (.invokestatic idx, 3)) (hk : stk = as.reverse ++ st) (hst : c2s st ≤ 8) (hln : L.length = nL) (kk : ∀ M' P', Q M' P' → G X Y (pc + 3) L (st) M' P') : G X Y pc L stk M P :=
  G_callS hC hct hm hnm ha hR hst hln d hk (fun r M' P' h => by obtain ⟨rfl, hq⟩ := h; exact kk M' P' hq)
/-! Math -/
def MM (own : String) (idx : Nat) (y : MethodName) (cc : ByteArray) (nL : Nat) : Prop := Cond.methodLink own idx y ∈ lwG ∧ Cond.static y ∈ lwG ∧ Cond.initialized "java/lang/Math" ∈ lwG ∧ Cond.code y cc nL (some .int) ∈ lwG
theorem G_max {a b : Int} {idx : Nat} (hC : OK X Y cc own nL rt fr lo nm) (hm : MM own idx Lib.Math.max.name Lib.Math.max.code 2) (ha : -2147483648 ≤ a ∧ a ≤ 2147483647) (hb : -2147483648 ≤ b ∧ b ≤ 2147483647) (hln : L.length = nL) (hR : 1 ≤ fr ∧ 21 ≤ lo) (hst : c2s st ≤ 8) (d : decode cc pc = .ok (.invokestatic idx, 3)) (kk : G X Y (pc + 3) L (vI (max a b) :: st) M P) : G X Y pc L (vI b :: vI a :: st) M P := by
  obtain ⟨m1, m2, m3, m4⟩ := hm
  intro H locs ls h1 h2 h3
  have h := kk H locs ls h1 h2 h3
  have e : (if Int32.ofInt a < Int32.ofInt b then Int32.ofInt b else Int32.ofInt a) = Int32.ofInt (max a b) := by
    simp only [i32_lt ha hb]
    split
    · rw [Int.max_eq_right (by omega)]
    · rw [Int.max_eq_left (by omega)]
  refine va_mmax hC.x hC.b (hC.1.2.2.2.1.trans (hln.symm.trans h3.1.symm)) hC.o (hC.w _ m1) (hC.w _ m2) (hC.w _ m3) (hC.w _ m4) (by rw [hC.2.2.2.1.1]; exact hR.1) (by rw [c2s_ok, hC.2.2.2.1.2.1]; omega) hC.2.2.2.1.2.2.1 hC.2.2.2.1.2.2.2.1 d ?_
  rw [e]
  exact h
theorem G_min {a b : Int} {idx : Nat} (hC : OK X Y cc own nL rt fr lo nm) (hm : MM own idx Lib.Math.min.name Lib.Math.min.code 2) (ha : -2147483648 ≤ a ∧ a ≤ 2147483647) (hb : -2147483648 ≤ b ∧ b ≤ 2147483647) (hln : L.length = nL) (hR : 1 ≤ fr ∧ 21 ≤ lo) (hst : c2s st ≤ 8) (d : decode cc pc = .ok (.invokestatic idx, 3)) (kk : G X Y (pc + 3) L (vI (min a b) :: st) M P) : G X Y pc L (vI b :: vI a :: st) M P := by
  obtain ⟨m1, m2, m3, m4⟩ := hm
  intro H locs ls h1 h2 h3
  have h := kk H locs ls h1 h2 h3
  have e : (if Int32.ofInt b < Int32.ofInt a then Int32.ofInt b else Int32.ofInt a) = Int32.ofInt (min a b) := by
    simp only [i32_lt hb ha]
    split
    · rw [Int.min_eq_right (by omega)]
    · rw [Int.min_eq_left (by omega)]
  refine va_mmin hC.x hC.b (hC.1.2.2.2.1.trans (hln.symm.trans h3.1.symm)) hC.o (hC.w _ m1) (hC.w _ m2) (hC.w _ m3) (hC.w _ m4) (by rw [hC.2.2.2.1.1]; exact hR.1) (by rw [c2s_ok, hC.2.2.2.1.2.1]; omega) hC.2.2.2.1.2.2.1 hC.2.2.2.1.2.2.2.1 d ?_
  rw [e]
  exact h
theorem G_abs {a : Int} {idx : Nat} (hC : OK X Y cc own nL rt fr lo nm) (hm : MM own idx Lib.Math.abs.name Lib.Math.abs.code 1) (ha : -2147483647 ≤ a ∧ a ≤ 2147483647) (hln : L.length = nL) (hR : 1 ≤ fr ∧ 21 ≤ lo) (hst : c2s st ≤ 8) (d : decode cc pc = .ok (.invokestatic idx, 3)) (kk : G X Y (pc + 3) L (vI (if 0 ≤ a then a else -a) :: st) M P) : G X Y pc L (vI a :: st) M P := by
  obtain ⟨m1, m2, m3, m4⟩ := hm
  intro H locs ls h1 h2 h3
  have h := kk H locs ls h1 h2 h3
  have e : (if 0 ≤ Int32.ofInt a then Int32.ofInt a else 0 - Int32.ofInt a) = Int32.ofInt (if 0 ≤ a then a else -a) := by
    rw [← i32_0]
    simp only [i32_le (show -2147483648 ≤ (0 : Int) ∧ (0 : Int) ≤ 2147483647 by omega) (show -2147483648 ≤ a ∧ a ≤ 2147483647 by omega)]
    split
    · rfl
    · rw [← Int32.ofInt_sub]; simp
  refine va_mabs hC.x hC.b (hC.1.2.2.2.1.trans (hln.symm.trans h3.1.symm)) hC.o (hC.w _ m1) (hC.w _ m2) (hC.w _ m3) (hC.w _ m4) (by rw [hC.2.2.2.1.1]; exact hR.1) (by rw [c2s_ok, hC.2.2.2.1.2.1]; omega) hC.2.2.2.1.2.2.1 hC.2.2.2.1.2.2.2.1 d ?_
  rw [e]
  exact h
end LAY6
end
section
theorem cw_X9_init : Cond.code yX9_init cX9_init 2 none ∈ lwG := (lwG_in (List.mem_of_getElem? (i := 93) (by decide +kernel)) (by decide +kernel))
theorem cw_X9_ask : Cond.code yX9_ask cX9_ask 3 (some .int) ∈ lwG := (lwG_in (List.mem_of_getElem? (i := 637) (by decide +kernel)) (by decide +kernel))
theorem cw_X9_at : Cond.code yX9_at cX9_at 2 (some .int) ∈ lwG := (lwG_in (List.mem_of_getElem? (i := 422) (by decide +kernel)) (by decide +kernel))
theorem cw_X9_back : Cond.code yX9_back cX9_back 1 (some .int) ∈ lwG := (lwG_in (List.mem_of_getElem? (i := 917) (by decide +kernel)) (by decide +kernel))
theorem cw_X9_before : Cond.code yX9_before cX9_before 2 (some .int) ∈ lwG := (lwG_in (List.mem_of_getElem? (i := 452) (by decide +kernel)) (by decide +kernel))
theorem cw_X9_bitsOf : Cond.code yX9_bitsOf cX9_bitsOf 3 (some .int) ∈ lwG := (lwG_in (List.mem_of_getElem? (i := 604) (by decide +kernel)) (by decide +kernel))
theorem cw_X9_changed : Cond.code yX9_changed cX9_changed 4 (some .int) ∈ lwG := (lwG_in (List.mem_of_getElem? (i := 510) (by decide +kernel)) (by decide +kernel))
theorem cw_X9_count : Cond.code yX9_count cX9_count 2 (some .int) ∈ lwG := (lwG_in (List.mem_of_getElem? (i := 921) (by decide +kernel)) (by decide +kernel))
theorem cw_X9_dishOrNone : Cond.code yX9_dishOrNone cX9_dishOrNone 3 (some .int) ∈ lwG := (lwG_in (List.mem_of_getElem? (i := 600) (by decide +kernel)) (by decide +kernel))
theorem cw_X9_drawOf : Cond.code yX9_drawOf cX9_drawOf 4 (some .int) ∈ lwG := (lwG_in (List.mem_of_getElem? (i := 902) (by decide +kernel)) (by decide +kernel))
theorem cw_X9_drawn : Cond.code yX9_drawn cX9_drawn 10 (some .int) ∈ lwG := (lwG_in (List.mem_of_getElem? (i := 899) (by decide +kernel)) (by decide +kernel))
theorem cw_X9_evening : Cond.code yX9_evening cX9_evening 1 (some .int) ∈ lwG := (lwG_in (List.mem_of_getElem? (i := 684) (by decide +kernel)) (by decide +kernel))
theorem cw_X9_fault : Cond.code yX9_fault cX9_fault 1 (some .int) ∈ lwG := (lwG_in (List.mem_of_getElem? (i := 586) (by decide +kernel)) (by decide +kernel))
theorem cw_X9_first : Cond.code yX9_first cX9_first 3 (some .int) ∈ lwG := (lwG_in (List.mem_of_getElem? (i := 751) (by decide +kernel)) (by decide +kernel))
theorem cw_X9_guest : Cond.code yX9_guest cX9_guest 3 (some .int) ∈ lwG := (lwG_in (List.mem_of_getElem? (i := 591) (by decide +kernel)) (by decide +kernel))
theorem cw_X9_hands : Cond.code yX9_hands cX9_hands 3 (some .int) ∈ lwG := (lwG_in (List.mem_of_getElem? (i := 621) (by decide +kernel)) (by decide +kernel))
theorem cw_X9_holdsUp : Cond.code yX9_holdsUp cX9_holdsUp 2 (some .int) ∈ lwG := (lwG_in (List.mem_of_getElem? (i := 815) (by decide +kernel)) (by decide +kernel))
theorem cw_X9_isDish : Cond.code yX9_isDish cX9_isDish 2 (some .boolean) ∈ lwG := (lwG_in (List.mem_of_getElem? (i := 612) (by decide +kernel)) (by decide +kernel))
theorem cw_X9_isGuest : Cond.code yX9_isGuest cX9_isGuest 2 (some .boolean) ∈ lwG := (lwG_in (List.mem_of_getElem? (i := 595) (by decide +kernel)) (by decide +kernel))
theorem cw_X9_keep : Cond.code yX9_keep cX9_keep 1 (some .int) ∈ lwG := (lwG_in (List.mem_of_getElem? (i := 913) (by decide +kernel)) (by decide +kernel))
theorem cw_X9_lay : Cond.code yX9_lay cX9_lay 1 (some .int) ∈ lwG := (lwG_in (List.mem_of_getElem? (i := 402) (by decide +kernel)) (by decide +kernel))
theorem cw_X9_liked : Cond.code yX9_liked cX9_liked 6 (some .int) ∈ lwG := (lwG_in (List.mem_of_getElem? (i := 851) (by decide +kernel)) (by decide +kernel))
theorem cw_X9_lookAhead : Cond.code yX9_lookAhead cX9_lookAhead 1 none ∈ lwG := (lwG_in (List.mem_of_getElem? (i := 697) (by decide +kernel)) (by decide +kernel))
theorem cw_X9_most : Cond.code yX9_most cX9_most 3 (some .int) ∈ lwG := (lwG_in (List.mem_of_getElem? (i := 859) (by decide +kernel)) (by decide +kernel))
theorem cw_X9_need : Cond.code yX9_need cX9_need 3 (some .int) ∈ lwG := (lwG_in (List.mem_of_getElem? (i := 693) (by decide +kernel)) (by decide +kernel))
theorem cw_X9_never : Cond.code yX9_never cX9_never 4 (some .int) ∈ lwG := (lwG_in (List.mem_of_getElem? (i := 781) (by decide +kernel)) (by decide +kernel))
theorem cw_X9_pairsOf : Cond.code yX9_pairsOf cX9_pairsOf 5 (some .long) ∈ lwG := (lwG_in (List.mem_of_getElem? (i := 529) (by decide +kernel)) (by decide +kernel))
theorem cw_X9_placed : Cond.code yX9_placed cX9_placed 4 (some .int) ∈ lwG := (lwG_in (List.mem_of_getElem? (i := 464) (by decide +kernel)) (by decide +kernel))
theorem cw_X9_price : Cond.code yX9_price cX9_price 3 (some .int) ∈ lwG := (lwG_in (List.mem_of_getElem? (i := 759) (by decide +kernel)) (by decide +kernel))
theorem cw_X9_put : Cond.code yX9_put cX9_put 3 none ∈ lwG := (lwG_in (List.mem_of_getElem? (i := 437) (by decide +kernel)) (by decide +kernel))
theorem cw_X9_rest : Cond.code yX9_rest cX9_rest 1 (some .int) ∈ lwG := (lwG_in (List.mem_of_getElem? (i := 802) (by decide +kernel)) (by decide +kernel))
theorem cw_X9_seatOf : Cond.code yX9_seatOf cX9_seatOf 3 (some .int) ∈ lwG := (lwG_in (List.mem_of_getElem? (i := 449) (by decide +kernel)) (by decide +kernel))
theorem cw_X9_seats : Cond.code yX9_seats cX9_seats 1 (some .int) ∈ lwG := (lwG_in (List.mem_of_getElem? (i := 865) (by decide +kernel)) (by decide +kernel))
theorem cw_X9_shifted : Cond.code yX9_shifted cX9_shifted 2 (some .long) ∈ lwG := (lwG_in (List.mem_of_getElem? (i := 532) (by decide +kernel)) (by decide +kernel))
theorem cw_X9_stuck : Cond.code yX9_stuck cX9_stuck 1 (some .int) ∈ lwG := (lwG_in (List.mem_of_getElem? (i := 792) (by decide +kernel)) (by decide +kernel))
theorem cw_X9_undo : Cond.code yX9_undo cX9_undo 1 (some .int) ∈ lwG := (lwG_in (List.mem_of_getElem? (i := 676) (by decide +kernel)) (by decide +kernel))
theorem cw_X9_went : Cond.code yX9_went cX9_went 2 (some .long) ∈ lwG := (lwG_in (List.mem_of_getElem? (i := 886) (by decide +kernel)) (by decide +kernel))
theorem cw_X9_wipe : Cond.code yX9_wipe cX9_wipe 2 (some .int) ∈ lwG := (lwG_in (List.mem_of_getElem? (i := 582) (by decide +kernel)) (by decide +kernel))
theorem cw_X9_worth : Cond.code yX9_worth cX9_worth 4 (some .int) ∈ lwG := (lwG_in (List.mem_of_getElem? (i := 608) (by decide +kernel)) (by decide +kernel))
theorem cw_X9_write : Cond.code yX9_write cX9_write 5 (some .int) ∈ lwG := (lwG_in (List.mem_of_getElem? (i := 577) (by decide +kernel)) (by decide +kernel))
theorem cw_X0_init : Cond.code yX0_init cX0_init 1 none ∈ lwG := (lwG_in (List.mem_of_getElem? (i := 174) (by decide +kernel)) (by decide +kernel))
theorem cw_X0_add : Cond.code yX0_add cX0_add 3 none ∈ lwG := (lwG_in (List.mem_of_getElem? (i := 500) (by decide +kernel)) (by decide +kernel))
theorem cw_X0_gather : Cond.code yX0_gather cX0_gather 6 none ∈ lwG := (lwG_in (List.mem_of_getElem? (i := 493) (by decide +kernel)) (by decide +kernel))
theorem cw_X0_lieOf : Cond.code yX0_lieOf cX0_lieOf 2 (some .int) ∈ lwG := (lwG_in (List.mem_of_getElem? (i := 739) (by decide +kernel)) (by decide +kernel))
theorem cw_X0_numberOf : Cond.code yX0_numberOf cX0_numberOf 2 (some .int) ∈ lwG := (lwG_in (List.mem_of_getElem? (i := 701) (by decide +kernel)) (by decide +kernel))
theorem cw_X0_slotOf : Cond.code yX0_slotOf cX0_slotOf 5 (some .int) ∈ lwG := (lwG_in (List.mem_of_getElem? (i := 504) (by decide +kernel)) (by decide +kernel))
theorem cw_X1_init : Cond.code yX1_init cX1_init 1 none ∈ lwG := (lwG_in (List.mem_of_getElem? (i := 309) (by decide +kernel)) (by decide +kernel))
theorem cw_X2_init : Cond.code yX2_init cX2_init 2 none ∈ lwG := (lwG_in (List.mem_of_getElem? (i := 328) (by decide +kernel)) (by decide +kernel))
theorem cw_X2_addLast : Cond.code yX2_addLast cX2_addLast 2 none ∈ lwG := (lwG_in (List.mem_of_getElem? (i := 646) (by decide +kernel)) (by decide +kernel))
theorem cw_X2_dropOldest : Cond.code yX2_dropOldest cX2_dropOldest 2 none ∈ lwG := (lwG_in (List.mem_of_getElem? (i := 650) (by decide +kernel)) (by decide +kernel))
theorem cw_X2_takeLast : Cond.code yX2_takeLast cX2_takeLast 2 none ∈ lwG := (lwG_in (List.mem_of_getElem? (i := 680) (by decide +kernel)) (by decide +kernel))
theorem cw_X3_init : Cond.code yX3_init cX3_init 4 none ∈ lwG := (lwG_in (List.mem_of_getElem? (i := 193) (by decide +kernel)) (by decide +kernel))
theorem cw_X3_changeAnything : Cond.code yX3_changeAnything cX3_changeAnything 7 (some .boolean) ∈ lwG := (lwG_in (List.mem_of_getElem? (i := 796) (by decide +kernel)) (by decide +kernel))
theorem cw_X3_forget : Cond.code yX3_forget cX3_forget 1 none ∈ lwG := (lwG_in (List.mem_of_getElem? (i := 514) (by decide +kernel)) (by decide +kernel))
theorem cw_X3_rowOf : Cond.code yX3_rowOf cX3_rowOf 11 (some .long) ∈ lwG := (lwG_in (List.mem_of_getElem? (i := 735) (by decide +kernel)) (by decide +kernel))
theorem cw_X3_target : Cond.code yX3_target cX3_target 3 (some .int) ∈ lwG := (lwG_in (List.mem_of_getElem? (i := 745) (by decide +kernel)) (by decide +kernel))
theorem cw_X4_init : Cond.code yX4_init cX4_init 3 none ∈ lwG := (lwG_in (List.mem_of_getElem? (i := 152) (by decide +kernel)) (by decide +kernel))
theorem cw_X4_nextByte : Cond.code yX4_nextByte cX4_nextByte 2 (some .int) ∈ lwG := (lwG_in (List.mem_of_getElem? (i := 419) (by decide +kernel)) (by decide +kernel))
theorem cw_X4_nextFigure : Cond.code yX4_nextFigure cX4_nextFigure 2 (some .int) ∈ lwG := (lwG_in (List.mem_of_getElem? (i := 430) (by decide +kernel)) (by decide +kernel))
theorem cw_X4_read : Cond.code yX4_read cX4_read 4 (some .int) ∈ lwG := (lwG_in (List.mem_of_getElem? (i := 406) (by decide +kernel)) (by decide +kernel))
theorem cw_X4_readItem : Cond.code yX4_readItem cX4_readItem 4 (some .boolean) ∈ lwG := (lwG_in (List.mem_of_getElem? (i := 415) (by decide +kernel)) (by decide +kernel))
theorem cw_X4_readNumber : Cond.code yX4_readNumber cX4_readNumber 4 (some .boolean) ∈ lwG := (lwG_in (List.mem_of_getElem? (i := 441) (by decide +kernel)) (by decide +kernel))
theorem cw_X4_readWorths : Cond.code yX4_readWorths cX4_readWorths 3 (some .boolean) ∈ lwG := (lwG_in (List.mem_of_getElem? (i := 426) (by decide +kernel)) (by decide +kernel))
theorem cw_X4_takeGuest : Cond.code yX4_takeGuest cX4_takeGuest 6 (some .boolean) ∈ lwG := (lwG_in (List.mem_of_getElem? (i := 446) (by decide +kernel)) (by decide +kernel))
theorem cw_X4_takeNumber : Cond.code yX4_takeNumber cX4_takeNumber 3 (some .boolean) ∈ lwG := (lwG_in (List.mem_of_getElem? (i := 468) (by decide +kernel)) (by decide +kernel))
theorem cw_X5_init : Cond.code yX5_init cX5_init 2 none ∈ lwG := (lwG_in (List.mem_of_getElem? (i := 218) (by decide +kernel)) (by decide +kernel))
theorem cw_X5_firstWith : Cond.code yX5_firstWith cX5_firstWith 5 (some .int) ∈ lwG := (lwG_in (List.mem_of_getElem? (i := 720) (by decide +kernel)) (by decide +kernel))
theorem cw_X5_forget : Cond.code yX5_forget cX5_forget 1 none ∈ lwG := (lwG_in (List.mem_of_getElem? (i := 522) (by decide +kernel)) (by decide +kernel))
theorem cw_X5_openingTo : Cond.code yX5_openingTo cX5_openingTo 4 (some .int) ∈ lwG := (lwG_in (List.mem_of_getElem? (i := 755) (by decide +kernel)) (by decide +kernel))
theorem cw_X5_pairsReached : Cond.code yX5_pairsReached cX5_pairsReached 7 (some .long) ∈ lwG := (lwG_in (List.mem_of_getElem? (i := 786) (by decide +kernel)) (by decide +kernel))
theorem cw_X5_reach : Cond.code yX5_reach cX5_reach 4 none ∈ lwG := (lwG_in (List.mem_of_getElem? (i := 711) (by decide +kernel)) (by decide +kernel))
theorem cw_X5_reachedAs : Cond.code yX5_reachedAs cX5_reachedAs 11 (some .int) ∈ lwG := (lwG_in (List.mem_of_getElem? (i := 726) (by decide +kernel)) (by decide +kernel))
theorem cw_X5_startFrom : Cond.code yX5_startFrom cX5_startFrom 2 none ∈ lwG := (lwG_in (List.mem_of_getElem? (i := 705) (by decide +kernel)) (by decide +kernel))
theorem cw_X5_stepsAs : Cond.code yX5_stepsAs cX5_stepsAs 2 (some .int) ∈ lwG := (lwG_in (List.mem_of_getElem? (i := 730) (by decide +kernel)) (by decide +kernel))
theorem cw_X5_stepsTo : Cond.code yX5_stepsTo cX5_stepsTo 4 (some .int) ∈ lwG := (lwG_in (List.mem_of_getElem? (i := 716) (by decide +kernel)) (by decide +kernel))
theorem cw_X5_stepsToRest : Cond.code yX5_stepsToRest cX5_stepsToRest 4 (some .int) ∈ lwG := (lwG_in (List.mem_of_getElem? (i := 807) (by decide +kernel)) (by decide +kernel))
theorem cw_X6_init : Cond.code yX6_init cX6_init 2 none ∈ lwG := (lwG_in (List.mem_of_getElem? (i := 248) (by decide +kernel)) (by decide +kernel))
theorem cw_X6_leastPrice : Cond.code yX6_leastPrice cX6_leastPrice 6 (some .int) ∈ lwG := (lwG_in (List.mem_of_getElem? (i := 764) (by decide +kernel)) (by decide +kernel))
theorem cw_X6_rowsBetween : Cond.code yX6_rowsBetween cX6_rowsBetween 6 (some .long) ∈ lwG := (lwG_in (List.mem_of_getElem? (i := 890) (by decide +kernel)) (by decide +kernel))
theorem cw_X6_spreadPrice : Cond.code yX6_spreadPrice cX6_spreadPrice 9 none ∈ lwG := (lwG_in (List.mem_of_getElem? (i := 774) (by decide +kernel)) (by decide +kernel))
theorem cw_X6_spreadWays : Cond.code yX6_spreadWays cX6_spreadWays 9 none ∈ lwG := (lwG_in (List.mem_of_getElem? (i := 895) (by decide +kernel)) (by decide +kernel))
theorem cw_X7_init : Cond.code yX7_init cX7_init 1 none ∈ lwG := (lwG_in (List.mem_of_getElem? (i := 101) (by decide +kernel)) (by decide +kernel))
theorem cw_X7_addGuest : Cond.code yX7_addGuest cX7_addGuest 5 none ∈ lwG := (lwG_in (List.mem_of_getElem? (i := 460) (by decide +kernel)) (by decide +kernel))
theorem cw_X7_allDishes : Cond.code yX7_allDishes cX7_allDishes 1 (some .int) ∈ lwG := (lwG_in (List.mem_of_getElem? (i := 456) (by decide +kernel)) (by decide +kernel))
theorem cw_X7_become : Cond.code yX7_become cX7_become 3 none ∈ lwG := (lwG_in (List.mem_of_getElem? (i := 472) (by decide +kernel)) (by decide +kernel))
theorem cw_X7_bothWouldLike : Cond.code yX7_bothWouldLike cX7_bothWouldLike 6 (some .boolean) ∈ lwG := (lwG_in (List.mem_of_getElem? (i := 855) (by decide +kernel)) (by decide +kernel))
theorem cw_X7_canBeAsked : Cond.code yX7_canBeAsked cX7_canBeAsked 4 (some .boolean) ∈ lwG := (lwG_in (List.mem_of_getElem? (i := 641) (by decide +kernel)) (by decide +kernel))
theorem cw_X7_carried : Cond.code yX7_carried cX7_carried 11 (some .int) ∈ lwG := (lwG_in (List.mem_of_getElem? (i := 663) (by decide +kernel)) (by decide +kernel))
theorem cw_X7_childChanged : Cond.code yX7_childChanged cX7_childChanged 4 (some .int) ∈ lwG := (lwG_in (List.mem_of_getElem? (i := 671) (by decide +kernel)) (by decide +kernel))
theorem cw_X7_clear : Cond.code yX7_clear cX7_clear 1 none ∈ lwG := (lwG_in (List.mem_of_getElem? (i := 410) (by decide +kernel)) (by decide +kernel))
theorem cw_X7_guestBy : Cond.code yX7_guestBy cX7_guestBy 2 (some .int) ∈ lwG := (lwG_in (List.mem_of_getElem? (i := 909) (by decide +kernel)) (by decide +kernel))
theorem cw_X7_isAtRest : Cond.code yX7_isAtRest cX7_isAtRest 3 (some .boolean) ∈ lwG := (lwG_in (List.mem_of_getElem? (i := 811) (by decide +kernel)) (by decide +kernel))
theorem cw_X7_kindOf : Cond.code yX7_kindOf cX7_kindOf 2 (some .int) ∈ lwG := (lwG_in (List.mem_of_getElem? (i := 480) (by decide +kernel)) (by decide +kernel))
theorem cw_X7_lieAfter : Cond.code yX7_lieAfter cX7_lieAfter 6 (some .int) ∈ lwG := (lwG_in (List.mem_of_getElem? (i := 655) (by decide +kernel)) (by decide +kernel))
theorem cw_X7_nextSeat : Cond.code yX7_nextSeat cX7_nextSeat 4 (some .int) ∈ lwG := (lwG_in (List.mem_of_getElem? (i := 667) (by decide +kernel)) (by decide +kernel))
theorem cw_X7_setKind : Cond.code yX7_setKind cX7_setKind 3 none ∈ lwG := (lwG_in (List.mem_of_getElem? (i := 834) (by decide +kernel)) (by decide +kernel))
theorem cw_X7_setWorth : Cond.code yX7_setWorth cX7_setWorth 4 none ∈ lwG := (lwG_in (List.mem_of_getElem? (i := 434) (by decide +kernel)) (by decide +kernel))
theorem cw_X7_stepTowards : Cond.code yX7_stepTowards cX7_stepTowards 4 (some .int) ∈ lwG := (lwG_in (List.mem_of_getElem? (i := 659) (by decide +kernel)) (by decide +kernel))
theorem cw_X7_stepsBetween : Cond.code yX7_stepsBetween cX7_stepsBetween 4 (some .int) ∈ lwG := (lwG_in (List.mem_of_getElem? (i := 625) (by decide +kernel)) (by decide +kernel))
theorem cw_X7_stepsRight : Cond.code yX7_stepsRight cX7_stepsRight 3 (some .int) ∈ lwG := (lwG_in (List.mem_of_getElem? (i := 632) (by decide +kernel)) (by decide +kernel))
theorem cw_X7_takeGuest : Cond.code yX7_takeGuest cX7_takeGuest 5 none ∈ lwG := (lwG_in (List.mem_of_getElem? (i := 476) (by decide +kernel)) (by decide +kernel))
theorem cw_X7_wantedPairs : Cond.code yX7_wantedPairs cX7_wantedPairs 4 (some .long) ∈ lwG := (lwG_in (List.mem_of_getElem? (i := 823) (by decide +kernel)) (by decide +kernel))
theorem cw_X7_wantsOf : Cond.code yX7_wantsOf cX7_wantsOf 2 (some .int) ∈ lwG := (lwG_in (List.mem_of_getElem? (i := 484) (by decide +kernel)) (by decide +kernel))
theorem cw_X7_worthAt : Cond.code yX7_worthAt cX7_worthAt 4 (some .int) ∈ lwG := (lwG_in (List.mem_of_getElem? (i := 616) (by decide +kernel)) (by decide +kernel))
theorem cw_X7_worthOf : Cond.code yX7_worthOf cX7_worthOf 3 (some .int) ∈ lwG := (lwG_in (List.mem_of_getElem? (i := 489) (by decide +kernel)) (by decide +kernel))
theorem cw_X7_worthTogether : Cond.code yX7_worthTogether cX7_worthTogether 5 (some .int) ∈ lwG := (lwG_in (List.mem_of_getElem? (i := 688) (by decide +kernel)) (by decide +kernel))
theorem cw_X8_init : Cond.code yX8_init cX8_init 3 none ∈ lwG := (lwG_in (List.mem_of_getElem? (i := 267) (by decide +kernel)) (by decide +kernel))
theorem cw_X8_bestSeats : Cond.code yX8_bestSeats cX8_bestSeats 5 (some .int) ∈ lwG := (lwG_in (List.mem_of_getElem? (i := 869) (by decide +kernel)) (by decide +kernel))
theorem cw_X8_canBeAtRest : Cond.code yX8_canBeAtRest cX8_canBeAtRest 3 (some .boolean) ∈ lwG := (lwG_in (List.mem_of_getElem? (i := 875) (by decide +kernel)) (by decide +kernel))
theorem cw_X8_changeSeats : Cond.code yX8_changeSeats cX8_changeSeats 3 none ∈ lwG := (lwG_in (List.mem_of_getElem? (i := 881) (by decide +kernel)) (by decide +kernel))
theorem cw_X8_findHolder : Cond.code yX8_findHolder cX8_findHolder 5 none ∈ lwG := (lwG_in (List.mem_of_getElem? (i := 819) (by decide +kernel)) (by decide +kernel))
theorem cw_X8_forget : Cond.code yX8_forget cX8_forget 1 none ∈ lwG := (lwG_in (List.mem_of_getElem? (i := 526) (by decide +kernel)) (by decide +kernel))
theorem cw_X8_makeHold : Cond.code yX8_makeHold cX8_makeHold 2 none ∈ lwG := (lwG_in (List.mem_of_getElem? (i := 829) (by decide +kernel)) (by decide +kernel))
theorem cw_X8_startOther : Cond.code yX8_startOther cX8_startOther 1 none ∈ lwG := (lwG_in (List.mem_of_getElem? (i := 838) (by decide +kernel)) (by decide +kernel))
theorem cw_X10_init : Cond.code yX10_init cX10_init 3 none ∈ lwG := (lwG_in (List.mem_of_getElem? (i := 926) (by decide +kernel)) (by decide +kernel))
theorem cw_X10_adds : Cond.code yX10_adds cX10_adds 4 none ∈ lwG := (lwG_in (List.mem_of_getElem? (i := 1236) (by decide +kernel)) (by decide +kernel))
theorem cw_X10_areGlad : Cond.code yX10_areGlad cX10_areGlad 3 (some .boolean) ∈ lwG := (lwG_in (List.mem_of_getElem? (i := 1312) (by decide +kernel)) (by decide +kernel))
theorem cw_X10_ask : Cond.code yX10_ask cX10_ask 3 (some .int) ∈ lwG := (lwG_in (List.mem_of_getElem? (i := 1173) (by decide +kernel)) (by decide +kernel))
theorem cw_X10_asks : Cond.code yX10_asks cX10_asks 8 none ∈ lwG := (lwG_in (List.mem_of_getElem? (i := 1189) (by decide +kernel)) (by decide +kernel))
theorem cw_X10_back : Cond.code yX10_back cX10_back 2 (some .int) ∈ lwG := (lwG_in (List.mem_of_getElem? (i := 1348) (by decide +kernel)) (by decide +kernel))
theorem cw_X10_begins : Cond.code yX10_begins cX10_begins 1 none ∈ lwG := (lwG_in (List.mem_of_getElem? (i := 932) (by decide +kernel)) (by decide +kernel))
theorem cw_X10_beginsList : Cond.code yX10_beginsList cX10_beginsList 2 none ∈ lwG := (lwG_in (List.mem_of_getElem? (i := 1225) (by decide +kernel)) (by decide +kernel))
theorem cw_X10_cheapest : Cond.code yX10_cheapest cX10_cheapest 3 (some .int) ∈ lwG := (lwG_in (List.mem_of_getElem? (i := 1304) (by decide +kernel)) (by decide +kernel))
theorem cw_X10_childChanges : Cond.code yX10_childChanges cX10_childChanges 4 none ∈ lwG := (lwG_in (List.mem_of_getElem? (i := 1201) (by decide +kernel)) (by decide +kernel))
theorem cw_X10_codeNow : Cond.code yX10_codeNow cX10_codeNow 3 (some .int) ∈ lwG := (lwG_in (List.mem_of_getElem? (i := 1229) (by decide +kernel)) (by decide +kernel))
theorem cw_X10_comes : Cond.code yX10_comes cX10_comes 5 none ∈ lwG := (lwG_in (List.mem_of_getElem? (i := 1248) (by decide +kernel)) (by decide +kernel))
theorem cw_X10_costs : Cond.code yX10_costs cX10_costs 3 none ∈ lwG := (lwG_in (List.mem_of_getElem? (i := 1300) (by decide +kernel)) (by decide +kernel))
theorem cw_X10_count : Cond.code yX10_count cX10_count 2 (some .int) ∈ lwG := (lwG_in (List.mem_of_getElem? (i := 1352) (by decide +kernel)) (by decide +kernel))
theorem cw_X10_drawn : Cond.code yX10_drawn cX10_drawn 11 (some .int) ∈ lwG := (lwG_in (List.mem_of_getElem? (i := 1337) (by decide +kernel)) (by decide +kernel))
theorem cw_X10_evening : Cond.code yX10_evening cX10_evening 3 (some .int) ∈ lwG := (lwG_in (List.mem_of_getElem? (i := 1213) (by decide +kernel)) (by decide +kernel))
theorem cw_X10_fault : Cond.code yX10_fault cX10_fault 1 (some .int) ∈ lwG := (lwG_in (List.mem_of_getElem? (i := 1101) (by decide +kernel)) (by decide +kernel))
theorem cw_X10_findAll : Cond.code yX10_findAll cX10_findAll 5 none ∈ lwG := (lwG_in (List.mem_of_getElem? (i := 1221) (by decide +kernel)) (by decide +kernel))
theorem cw_X10_findFault : Cond.code yX10_findFault cX10_findFault 2 (some .int) ∈ lwG := (lwG_in (List.mem_of_getElem? (i := 1105) (by decide +kernel)) (by decide +kernel))
theorem cw_X10_findPrices : Cond.code yX10_findPrices cX10_findPrices 6 none ∈ lwG := (lwG_in (List.mem_of_getElem? (i := 1296) (by decide +kernel)) (by decide +kernel))
theorem cw_X10_first : Cond.code yX10_first cX10_first 7 (some .int) ∈ lwG := (lwG_in (List.mem_of_getElem? (i := 1260) (by decide +kernel)) (by decide +kernel))
theorem cw_X10_goes : Cond.code yX10_goes cX10_goes 9 (some .int) ∈ lwG := (lwG_in (List.mem_of_getElem? (i := 1193) (by decide +kernel)) (by decide +kernel))
theorem cw_X10_guest : Cond.code yX10_guest cX10_guest 3 (some .int) ∈ lwG := (lwG_in (List.mem_of_getElem? (i := 1141) (by decide +kernel)) (by decide +kernel))
theorem cw_X10_hands : Cond.code yX10_hands cX10_hands 3 (some .int) ∈ lwG := (lwG_in (List.mem_of_getElem? (i := 1161) (by decide +kernel)) (by decide +kernel))
theorem cw_X10_handsOf : Cond.code yX10_handsOf cX10_handsOf 4 (some .int) ∈ lwG := (lwG_in (List.mem_of_getElem? (i := 1165) (by decide +kernel)) (by decide +kernel))
theorem cw_X10_heldBy : Cond.code yX10_heldBy cX10_heldBy 5 (some .int) ∈ lwG := (lwG_in (List.mem_of_getElem? (i := 1288) (by decide +kernel)) (by decide +kernel))
theorem cw_X10_here : Cond.code yX10_here cX10_here 1 (some .int) ∈ lwG := (lwG_in (List.mem_of_getElem? (i := 1113) (by decide +kernel)) (by decide +kernel))
theorem cw_X10_holdsUp : Cond.code yX10_holdsUp cX10_holdsUp 6 (some .int) ∈ lwG := (lwG_in (List.mem_of_getElem? (i := 1284) (by decide +kernel)) (by decide +kernel))
theorem cw_X10_in : Cond.code yX10_in cX10_in 3 (some .boolean) ∈ lwG := (lwG_in (List.mem_of_getElem? (i := 1092) (by decide +kernel)) (by decide +kernel))
theorem cw_X10_indexOf : Cond.code yX10_indexOf cX10_indexOf 2 (some .int) ∈ lwG := (lwG_in (List.mem_of_getElem? (i := 1252) (by decide +kernel)) (by decide +kernel))
theorem cw_X10_isAtRest : Cond.code yX10_isAtRest cX10_isAtRest 4 (some .boolean) ∈ lwG := (lwG_in (List.mem_of_getElem? (i := 1280) (by decide +kernel)) (by decide +kernel))
theorem cw_X10_isDish : Cond.code yX10_isDish cX10_isDish 2 (some .boolean) ∈ lwG := (lwG_in (List.mem_of_getElem? (i := 1153) (by decide +kernel)) (by decide +kernel))
theorem cw_X10_isFree : Cond.code yX10_isFree cX10_isFree 4 (some .boolean) ∈ lwG := (lwG_in (List.mem_of_getElem? (i := 1129) (by decide +kernel)) (by decide +kernel))
theorem cw_X10_isGuest : Cond.code yX10_isGuest cX10_isGuest 2 (some .boolean) ∈ lwG := (lwG_in (List.mem_of_getElem? (i := 1145) (by decide +kernel)) (by decide +kernel))
theorem cw_X10_isGuestItem : Cond.code yX10_isGuestItem cX10_isGuestItem 5 (some .boolean) ∈ lwG := (lwG_in (List.mem_of_getElem? (i := 1117) (by decide +kernel)) (by decide +kernel))
theorem cw_X10_isItem : Cond.code yX10_isItem cX10_isItem 5 (some .boolean) ∈ lwG := (lwG_in (List.mem_of_getElem? (i := 1109) (by decide +kernel)) (by decide +kernel))
theorem cw_X10_isSign : Cond.code yX10_isSign cX10_isSign 3 (some .boolean) ∈ lwG := (lwG_in (List.mem_of_getElem? (i := 1125) (by decide +kernel)) (by decide +kernel))
theorem cw_X10_isWorthItem : Cond.code yX10_isWorthItem cX10_isWorthItem 2 (some .boolean) ∈ lwG := (lwG_in (List.mem_of_getElem? (i := 1133) (by decide +kernel)) (by decide +kernel))
theorem cw_X10_keep : Cond.code yX10_keep cX10_keep 2 (some .int) ∈ lwG := (lwG_in (List.mem_of_getElem? (i := 1344) (by decide +kernel)) (by decide +kernel))
theorem cw_X10_lay : Cond.code yX10_lay cX10_lay 1 (some .int) ∈ lwG := (lwG_in (List.mem_of_getElem? (i := 1137) (by decide +kernel)) (by decide +kernel))
theorem cw_X10_lays : Cond.code yX10_lays cX10_lays 3 none ∈ lwG := (lwG_in (List.mem_of_getElem? (i := 936) (by decide +kernel)) (by decide +kernel))
theorem cw_X10_liked : Cond.code yX10_liked cX10_liked 6 (some .int) ∈ lwG := (lwG_in (List.mem_of_getElem? (i := 1308) (by decide +kernel)) (by decide +kernel))
theorem cw_X10_likes : Cond.code yX10_likes cX10_likes 3 (some .int) ∈ lwG := (lwG_in (List.mem_of_getElem? (i := 1197) (by decide +kernel)) (by decide +kernel))
theorem cw_X10_loads : Cond.code yX10_loads cX10_loads 3 none ∈ lwG := (lwG_in (List.mem_of_getElem? (i := 1240) (by decide +kernel)) (by decide +kernel))
theorem cw_X10_mayAsk : Cond.code yX10_mayAsk cX10_mayAsk 3 (some .boolean) ∈ lwG := (lwG_in (List.mem_of_getElem? (i := 1181) (by decide +kernel)) (by decide +kernel))
theorem cw_X10_most : Cond.code yX10_most cX10_most 7 (some .int) ∈ lwG := (lwG_in (List.mem_of_getElem? (i := 1316) (by decide +kernel)) (by decide +kernel))
theorem cw_X10_need : Cond.code yX10_need cX10_need 3 (some .int) ∈ lwG := (lwG_in (List.mem_of_getElem? (i := 1217) (by decide +kernel)) (by decide +kernel))
theorem cw_X10_needOf : Cond.code yX10_needOf cX10_needOf 6 (some .int) ∈ lwG := (lwG_in (List.mem_of_getElem? (i := 1256) (by decide +kernel)) (by decide +kernel))
theorem cw_X10_never : Cond.code yX10_never cX10_never 4 (some .int) ∈ lwG := (lwG_in (List.mem_of_getElem? (i := 1264) (by decide +kernel)) (by decide +kernel))
theorem cw_X10_number : Cond.code yX10_number cX10_number 3 (some .int) ∈ lwG := (lwG_in (List.mem_of_getElem? (i := 1121) (by decide +kernel)) (by decide +kernel))
theorem cw_X10_power : Cond.code yX10_power cX10_power 3 (some .int) ∈ lwG := (lwG_in (List.mem_of_getElem? (i := 1232) (by decide +kernel)) (by decide +kernel))
theorem cw_X10_price : Cond.code yX10_price cX10_price 3 (some .int) ∈ lwG := (lwG_in (List.mem_of_getElem? (i := 1292) (by decide +kernel)) (by decide +kernel))
theorem cw_X10_puts : Cond.code yX10_puts cX10_puts 2 none ∈ lwG := (lwG_in (List.mem_of_getElem? (i := 1205) (by decide +kernel)) (by decide +kernel))
theorem cw_X10_remembers : Cond.code yX10_remembers cX10_remembers 2 none ∈ lwG := (lwG_in (List.mem_of_getElem? (i := 1185) (by decide +kernel)) (by decide +kernel))
theorem cw_X10_rest : Cond.code yX10_rest cX10_rest 1 (some .int) ∈ lwG := (lwG_in (List.mem_of_getElem? (i := 1272) (by decide +kernel)) (by decide +kernel))
theorem cw_X10_restOf : Cond.code yX10_restOf cX10_restOf 3 (some .int) ∈ lwG := (lwG_in (List.mem_of_getElem? (i := 1276) (by decide +kernel)) (by decide +kernel))
theorem cw_X10_seatIn : Cond.code yX10_seatIn cX10_seatIn 3 (some .int) ∈ lwG := (lwG_in (List.mem_of_getElem? (i := 1244) (by decide +kernel)) (by decide +kernel))
theorem cw_X10_seats : Cond.code yX10_seats cX10_seats 6 (some .int) ∈ lwG := (lwG_in (List.mem_of_getElem? (i := 1320) (by decide +kernel)) (by decide +kernel))
theorem cw_X10_sits : Cond.code yX10_sits cX10_sits 3 none ∈ lwG := (lwG_in (List.mem_of_getElem? (i := 1177) (by decide +kernel)) (by decide +kernel))
theorem cw_X10_stuck : Cond.code yX10_stuck cX10_stuck 1 (some .int) ∈ lwG := (lwG_in (List.mem_of_getElem? (i := 1268) (by decide +kernel)) (by decide +kernel))
theorem cw_X10_swapSits : Cond.code yX10_swapSits cX10_swapSits 7 none ∈ lwG := (lwG_in (List.mem_of_getElem? (i := 1324) (by decide +kernel)) (by decide +kernel))
theorem cw_X10_undo : Cond.code yX10_undo cX10_undo 2 (some .int) ∈ lwG := (lwG_in (List.mem_of_getElem? (i := 1209) (by decide +kernel)) (by decide +kernel))
theorem cw_X10_wayOf : Cond.code yX10_wayOf cX10_wayOf 4 (some .int) ∈ lwG := (lwG_in (List.mem_of_getElem? (i := 1169) (by decide +kernel)) (by decide +kernel))
theorem cw_X10_waysOn : Cond.code yX10_waysOn cX10_waysOn 3 none ∈ lwG := (lwG_in (List.mem_of_getElem? (i := 1333) (by decide +kernel)) (by decide +kernel))
theorem cw_X10_went : Cond.code yX10_went cX10_went 4 (some .long) ∈ lwG := (lwG_in (List.mem_of_getElem? (i := 1328) (by decide +kernel)) (by decide +kernel))
theorem cw_X10_wipe : Cond.code yX10_wipe cX10_wipe 2 (some .int) ∈ lwG := (lwG_in (List.mem_of_getElem? (i := 1097) (by decide +kernel)) (by decide +kernel))
theorem cw_X10_worth : Cond.code yX10_worth cX10_worth 4 (some .int) ∈ lwG := (lwG_in (List.mem_of_getElem? (i := 1149) (by decide +kernel)) (by decide +kernel))
theorem cw_X10_worthAt : Cond.code yX10_worthAt cX10_worthAt 5 (some .int) ∈ lwG := (lwG_in (List.mem_of_getElem? (i := 1157) (by decide +kernel)) (by decide +kernel))
theorem cw_X10_write : Cond.code yX10_write cX10_write 5 (some .int) ∈ lwG := (lwG_in (List.mem_of_getElem? (i := 1089) (by decide +kernel)) (by decide +kernel))
theorem cw_J13_bitCount_95d88 : Cond.code yJ13_bitCount_95d88 cJ13_bitCount_95d88 2 (some .int) ∈ lwG := (lwG_in (List.mem_of_getElem? (i := 844) (by decide +kernel)) (by decide +kernel))
theorem cw_J0_charAt_5068e : Cond.code yJ0_charAt_5068e cJ0_charAt_5068e 2 (some .char) ∈ lwG := (lwG_in (List.mem_of_getElem? (i := 364) (by decide +kernel)) (by decide +kernel))
theorem cw_J0_checkIndex_df160 : Cond.code yJ0_checkIndex_df160 cJ0_checkIndex_df160 2 none ∈ lwG := (lwG_in (List.mem_of_getElem? (i := 374) (by decide +kernel)) (by decide +kernel))
theorem cw_J0_coder_7d493 : Cond.code yJ0_coder_7d493 cJ0_coder_7d493 1 (some .byte) ∈ lwG := (lwG_in (List.mem_of_getElem? (i := 358) (by decide +kernel)) (by decide +kernel))
theorem cw_J0_isLatin1_aae02 : Cond.code yJ0_isLatin1_aae02 cJ0_isLatin1_aae02 1 (some .boolean) ∈ lwG := (lwG_in (List.mem_of_getElem? (i := 368) (by decide +kernel)) (by decide +kernel))
theorem cw_J0_length_8abf5 : Cond.code yJ0_length_8abf5 cJ0_length_8abf5 1 (some .int) ∈ lwG := (lwG_in (List.mem_of_getElem? (i := 354) (by decide +kernel)) (by decide +kernel))
theorem cw_J1_charAt_3b067 : Cond.code yJ1_charAt_3b067 cJ1_charAt_3b067 2 (some .char) ∈ lwG := (lwG_in (List.mem_of_getElem? (i := 371) (by decide +kernel)) (by decide +kernel))
theorem cw_J2_charAt_3b067 : Cond.code yJ2_charAt_3b067 cJ2_charAt_3b067 2 (some .char) ∈ lwG := (lwG_in (List.mem_of_getElem? (i := 382) (by decide +kernel)) (by decide +kernel))
theorem cw_J2_checkIndex_2214a : Cond.code yJ2_checkIndex_2214a cJ2_checkIndex_2214a 2 none ∈ lwG := (lwG_in (List.mem_of_getElem? (i := 385) (by decide +kernel)) (by decide +kernel))
theorem cw_J2_getChar_3b067 : Cond.code yJ2_getChar_3b067 cJ2_getChar_3b067 2 (some .char) ∈ lwG := (lwG_in (List.mem_of_getElem? (i := 392) (by decide +kernel)) (by decide +kernel))
theorem cw_J2_length_9d52b : Cond.code yJ2_length_9d52b cJ2_length_9d52b 1 (some .int) ∈ lwG := (lwG_in (List.mem_of_getElem? (i := 388) (by decide +kernel)) (by decide +kernel))
theorem cw_J7_fill_53178 : Cond.code yJ7_fill_53178 cJ7_fill_53178 4 none ∈ lwG := (lwG_in (List.mem_of_getElem? (i := 496) (by decide +kernel)) (by decide +kernel))
theorem cw_J7_fill_d0a16 : Cond.code yJ7_fill_d0a16 cJ7_fill_d0a16 5 none ∈ lwG := (lwG_in (List.mem_of_getElem? (i := 518) (by decide +kernel)) (by decide +kernel))
theorem cw_J3_checkIndex_8e157 : Cond.code yJ3_checkIndex_8e157 cJ3_checkIndex_8e157 3 (some .int) ∈ lwG := (lwG_in (List.mem_of_getElem? (i := 379) (by decide +kernel)) (by decide +kernel))
theorem kc_X9_233 : Cond.constant RX9 233 (1000000) ∈ lwG := (lwG_in (List.mem_of_getElem? (i := 803) (by decide +kernel)) (by decide +kernel))
theorem kc_X0_48 : Cond.constant RX0 48 (-1640531535) ∈ lwG := (lwG_in (List.mem_of_getElem? (i := 505) (by decide +kernel)) (by decide +kernel))
theorem kc_X5_89 : Cond.constant RX5 89 (1000000) ∈ lwG := (lwG_in (List.mem_of_getElem? (i := 722) (by decide +kernel)) (by decide +kernel))
theorem kc_X6_26 : Cond.constant RX6 26 (1000000) ∈ lwG := (lwG_in (List.mem_of_getElem? (i := 765) (by decide +kernel)) (by decide +kernel))
theorem kc_X7_37 : Cond.constant RX7 37 (262143) ∈ lwG := (lwG_in (List.mem_of_getElem? (i := 411) (by decide +kernel)) (by decide +kernel))
theorem kc_X8_88 : Cond.constant RX8 88 (1000000) ∈ lwG := (lwG_in (List.mem_of_getElem? (i := 870) (by decide +kernel)) (by decide +kernel))
theorem kc_X10_73 : Cond.constant RX10 73 (46656) ∈ lwG := (lwG_in (List.mem_of_getElem? (i := 928) (by decide +kernel)) (by decide +kernel))
theorem kl_X9_228 : Cond.constantLong RX9 228 (-1) ∈ lwG := (lwG_in (List.mem_of_getElem? (i := 788) (by decide +kernel)) (by decide +kernel))
theorem kl_X9_283 : Cond.constantLong RX9 283 (7919) ∈ lwG := (lwG_in (List.mem_of_getElem? (i := 903) (by decide +kernel)) (by decide +kernel))
theorem kl_X9_285 : Cond.constantLong RX9 285 (6151) ∈ lwG := (lwG_in (List.mem_of_getElem? (i := 904) (by decide +kernel)) (by decide +kernel))
theorem kl_X9_287 : Cond.constantLong RX9 287 (65521) ∈ lwG := (lwG_in (List.mem_of_getElem? (i := 905) (by decide +kernel)) (by decide +kernel))
theorem kl_X3_29 : Cond.constantLong RX3 29 (-1) ∈ lwG := (lwG_in (List.mem_of_getElem? (i := 515) (by decide +kernel)) (by decide +kernel))
theorem kl_X8_77 : Cond.constantLong RX8 77 (-1) ∈ lwG := (lwG_in (List.mem_of_getElem? (i := 841) (by decide +kernel)) (by decide +kernel))
theorem kl_L_13 : Cond.constantLong RL 13 (4294967295) ∈ lwG := (lwG_in (List.mem_of_getElem? (i := 1353) (by decide +kernel)) (by decide +kernel))
theorem kl_X10_129 : Cond.constantLong RX10 129 (255) ∈ lwG := (lwG_in (List.mem_of_getElem? (i := 1093) (by decide +kernel)) (by decide +kernel))
theorem kl_X10_302 : Cond.constantLong RX10 302 (-1) ∈ lwG := (lwG_in (List.mem_of_getElem? (i := 1329) (by decide +kernel)) (by decide +kernel))
theorem kl_X10_307 : Cond.constantLong RX10 307 (7919) ∈ lwG := (lwG_in (List.mem_of_getElem? (i := 1338) (by decide +kernel)) (by decide +kernel))
theorem kl_X10_309 : Cond.constantLong RX10 309 (6151) ∈ lwG := (lwG_in (List.mem_of_getElem? (i := 1339) (by decide +kernel)) (by decide +kernel))
theorem kl_X10_311 : Cond.constantLong RX10 311 (65521) ∈ lwG := (lwG_in (List.mem_of_getElem? (i := 1340) (by decide +kernel)) (by decide +kernel))
theorem kl_J13_314 : Cond.constantLong RJ13 314 (6148914691236517205) ∈ lwG := (lwG_in (List.mem_of_getElem? (i := 845) (by decide +kernel)) (by decide +kernel))
theorem kl_J13_316 : Cond.constantLong RJ13 316 (3689348814741910323) ∈ lwG := (lwG_in (List.mem_of_getElem? (i := 846) (by decide +kernel)) (by decide +kernel))
theorem kl_J13_318 : Cond.constantLong RJ13 318 (1085102592571150095) ∈ lwG := (lwG_in (List.mem_of_getElem? (i := 847) (by decide +kernel)) (by decide +kernel))
theorem clX0 : CL 0 RX0 TX0 3 tyX0 := ⟨rfl, by decide +kernel, tyX0_ok, nmX0, rfl, by decide⟩
theorem clX1 : CL 1 RX1 TX1 3 tyX1 := ⟨rfl, by decide +kernel, tyX1_ok, nmX1, rfl, by decide⟩
theorem clX2 : CL 2 RX2 TX2 5 tyX2 := ⟨rfl, by decide +kernel, tyX2_ok, nmX2, rfl, by decide⟩
theorem clX3 : CL 3 RX3 TX3 3 tyX3 := ⟨rfl, by decide +kernel, tyX3_ok, nmX3, rfl, by decide⟩
theorem clX4 : CL 4 RX4 TX4 5 tyX4 := ⟨rfl, by decide +kernel, tyX4_ok, nmX4, rfl, by decide⟩
theorem clX5 : CL 5 RX5 TX5 7 tyX5 := ⟨rfl, by decide +kernel, tyX5_ok, nmX5, rfl, by decide⟩
theorem clX6 : CL 6 RX6 TX6 4 tyX6 := ⟨rfl, by decide +kernel, tyX6_ok, nmX6, rfl, by decide⟩
theorem clX7 : CL 7 RX7 TX7 9 tyX7 := ⟨rfl, by decide +kernel, tyX7_ok, nmX7, rfl, by decide⟩
theorem clX8 : CL 8 RX8 TX8 9 tyX8 := ⟨rfl, by decide +kernel, tyX8_ok, nmX8, rfl, by decide⟩
theorem clX9 : CL 9 RX9 TX9 13 tyX9 := ⟨rfl, by decide +kernel, tyX9_ok, nmX9, rfl, by decide⟩
theorem clX10 : CL 10 RX10 TX10 49 tyX10 := ⟨rfl, by decide +kernel, tyX10_ok, nmX10, rfl, by decide⟩
theorem fl_X9_9 : FL RX9 9 9 0 2 true (.array .int) := ⟨RX9, TX9, 13, tyX9, clX9, by decide, (lwG_in (List.mem_of_getElem? (i := 533) (by decide +kernel)) (by decide +kernel)), rfl, rfl, rfl, rfl⟩
theorem fl_X9_16 : FL RX9 16 9 2 2 true (.object "PassTheSalt$Table") := ⟨RX9, TX9, 13, tyX9, clX9, by decide, (lwG_in (List.mem_of_getElem? (i := 535) (by decide +kernel)) (by decide +kernel)), rfl, rfl, rfl, rfl⟩
theorem fl_X9_25 : FL RX9 25 9 3 2 true (.object "PassTheSalt$Reader") := ⟨RX9, TX9, 13, tyX9, clX9, by decide, (lwG_in (List.mem_of_getElem? (i := 536) (by decide +kernel)) (by decide +kernel)), rfl, rfl, rfl, rfl⟩
theorem fl_X9_29 : FL RX9 29 9 4 2 true (.object "PassTheSalt$Table") := ⟨RX9, TX9, 13, tyX9, clX9, by decide, (lwG_in (List.mem_of_getElem? (i := 537) (by decide +kernel)) (by decide +kernel)), rfl, rfl, rfl, rfl⟩
theorem fl_X9_35 : FL RX9 35 9 5 2 true (.object "PassTheSalt$Layings") := ⟨RX9, TX9, 13, tyX9, clX9, by decide, (lwG_in (List.mem_of_getElem? (i := 538) (by decide +kernel)) (by decide +kernel)), rfl, rfl, rfl, rfl⟩
theorem fl_X9_44 : FL RX9 44 9 6 2 true (.object "PassTheSalt$Moves") := ⟨RX9, TX9, 13, tyX9, clX9, by decide, (lwG_in (List.mem_of_getElem? (i := 539) (by decide +kernel)) (by decide +kernel)), rfl, rfl, rfl, rfl⟩
theorem fl_X9_53 : FL RX9 53 9 7 2 true (.object "PassTheSalt$Search") := ⟨RX9, TX9, 13, tyX9, clX9, by decide, (lwG_in (List.mem_of_getElem? (i := 540) (by decide +kernel)) (by decide +kernel)), rfl, rfl, rfl, rfl⟩
theorem fl_X9_60 : FL RX9 60 9 8 2 true (.object "PassTheSalt$Sums") := ⟨RX9, TX9, 13, tyX9, clX9, by decide, (lwG_in (List.mem_of_getElem? (i := 541) (by decide +kernel)) (by decide +kernel)), rfl, rfl, rfl, rfl⟩
theorem fl_X9_69 : FL RX9 69 9 9 2 true (.object "PassTheSalt$WhatIf") := ⟨RX9, TX9, 13, tyX9, clX9, by decide, (lwG_in (List.mem_of_getElem? (i := 542) (by decide +kernel)) (by decide +kernel)), rfl, rfl, rfl, rfl⟩
theorem fl_X9_76 : FL RX9 76 9 10 2 true (.object "PassTheSalt$Moment") := ⟨RX9, TX9, 13, tyX9, clX9, by decide, (lwG_in (List.mem_of_getElem? (i := 543) (by decide +kernel)) (by decide +kernel)), rfl, rfl, rfl, rfl⟩
theorem fl_X9_85 : FL RX9 85 9 11 2 true (.object "PassTheSalt$Moments") := ⟨RX9, TX9, 13, tyX9, clX9, by decide, (lwG_in (List.mem_of_getElem? (i := 544) (by decide +kernel)) (by decide +kernel)), rfl, rfl, rfl, rfl⟩
theorem fl_X9_89 : FL RX9 89 9 12 2 true (.object "PassTheSalt$Moments") := ⟨RX9, TX9, 13, tyX9, clX9, by decide, (lwG_in (List.mem_of_getElem? (i := 545) (by decide +kernel)) (by decide +kernel)), rfl, rfl, rfl, rfl⟩
theorem fl_X9_104 : FL RX9 104 9 1 0 false .int := ⟨RX9, TX9, 13, tyX9, clX9, by decide, (lwG_in (List.mem_of_getElem? (i := 534) (by decide +kernel)) (by decide +kernel)), rfl, rfl, rfl, rfl⟩
theorem fl_X9_118 : FL RX9 118 7 0 0 false .int := ⟨RX7, TX7, 9, tyX7, clX7, by decide, (lwG_in (List.mem_of_getElem? (i := 109) (by decide +kernel)) (by decide +kernel)), rfl, rfl, rfl, rfl⟩
theorem fl_X9_125 : FL RX9 125 7 5 0 false .int := ⟨RX7, TX7, 9, tyX7, clX7, by decide, (lwG_in (List.mem_of_getElem? (i := 123) (by decide +kernel)) (by decide +kernel)), rfl, rfl, rfl, rfl⟩
theorem fl_X9_137 : FL RX9 137 1 0 0 false .int := ⟨RX1, TX1, 3, tyX1, clX1, by decide, (lwG_in (List.mem_of_getElem? (i := 312) (by decide +kernel)) (by decide +kernel)), rfl, rfl, rfl, rfl⟩
theorem fl_X9_144 : FL RX9 144 1 1 1 false .long := ⟨RX1, TX1, 3, tyX1, clX1, by decide, (lwG_in (List.mem_of_getElem? (i := 314) (by decide +kernel)) (by decide +kernel)), rfl, rfl, rfl, rfl⟩
theorem fl_X9_148 : FL RX9 148 1 2 0 false .int := ⟨RX1, TX1, 3, tyX1, clX1, by decide, (lwG_in (List.mem_of_getElem? (i := 316) (by decide +kernel)) (by decide +kernel)), rfl, rfl, rfl, rfl⟩
theorem fl_X9_151 : FL RX9 151 2 0 0 false .int := ⟨RX2, TX2, 5, tyX2, clX2, by decide, (lwG_in (List.mem_of_getElem? (i := 334) (by decide +kernel)) (by decide +kernel)), rfl, rfl, rfl, rfl⟩
theorem fl_X9_240 : FL RX9 240 8 0 0 false .int := ⟨RX8, TX8, 9, tyX8, clX8, by decide, (lwG_in (List.mem_of_getElem? (i := 276) (by decide +kernel)) (by decide +kernel)), rfl, rfl, rfl, rfl⟩
theorem fl_X9_243 : FL RX9 243 8 1 0 false .int := ⟨RX8, TX8, 9, tyX8, clX8, by decide, (lwG_in (List.mem_of_getElem? (i := 278) (by decide +kernel)) (by decide +kernel)), rfl, rfl, rfl, rfl⟩
theorem fl_X9_249 : FL RX9 249 0 0 0 false .int := ⟨RX0, TX0, 3, tyX0, clX0, by decide, (lwG_in (List.mem_of_getElem? (i := 179) (by decide +kernel)) (by decide +kernel)), rfl, rfl, rfl, rfl⟩
theorem fl_X9_271 : FL RX9 271 7 1 0 false .int := ⟨RX7, TX7, 9, tyX7, clX7, by decide, (lwG_in (List.mem_of_getElem? (i := 112) (by decide +kernel)) (by decide +kernel)), rfl, rfl, rfl, rfl⟩
theorem fl_X9_274 : FL RX9 274 7 2 0 false .int := ⟨RX7, TX7, 9, tyX7, clX7, by decide, (lwG_in (List.mem_of_getElem? (i := 115) (by decide +kernel)) (by decide +kernel)), rfl, rfl, rfl, rfl⟩
theorem fl_X0_9 : FL RX0 9 0 1 2 true (.array .int) := ⟨RX0, TX0, 3, tyX0, clX0, by decide, (lwG_in (List.mem_of_getElem? (i := 180) (by decide +kernel)) (by decide +kernel)), rfl, rfl, rfl, rfl⟩
theorem fl_X0_15 : FL RX0 15 0 2 2 true (.array .int) := ⟨RX0, TX0, 3, tyX0, clX0, by decide, (lwG_in (List.mem_of_getElem? (i := 181) (by decide +kernel)) (by decide +kernel)), rfl, rfl, rfl, rfl⟩
theorem fl_X0_18 : FL RX0 18 0 0 0 false .int := ⟨RX0, TX0, 3, tyX0, clX0, by decide, (lwG_in (List.mem_of_getElem? (i := 176) (by decide +kernel)) (by decide +kernel)), rfl, rfl, rfl, rfl⟩
theorem fl_X2_9 : FL RX2 9 2 2 2 true (.array .int) := ⟨RX2, TX2, 5, tyX2, clX2, by decide, (lwG_in (List.mem_of_getElem? (i := 336) (by decide +kernel)) (by decide +kernel)), rfl, rfl, rfl, rfl⟩
theorem fl_X2_15 : FL RX2 15 2 3 2 true (.array .long) := ⟨RX2, TX2, 5, tyX2, clX2, by decide, (lwG_in (List.mem_of_getElem? (i := 337) (by decide +kernel)) (by decide +kernel)), rfl, rfl, rfl, rfl⟩
theorem fl_X2_19 : FL RX2 19 2 4 2 true (.array .int) := ⟨RX2, TX2, 5, tyX2, clX2, by decide, (lwG_in (List.mem_of_getElem? (i := 338) (by decide +kernel)) (by decide +kernel)), rfl, rfl, rfl, rfl⟩
theorem fl_X2_28 : FL RX2 28 2 1 0 true .int := ⟨RX2, TX2, 5, tyX2, clX2, by decide, (lwG_in (List.mem_of_getElem? (i := 335) (by decide +kernel)) (by decide +kernel)), rfl, rfl, rfl, rfl⟩
theorem fl_X2_32 : FL RX2 32 2 0 0 false .int := ⟨RX2, TX2, 5, tyX2, clX2, by decide, (lwG_in (List.mem_of_getElem? (i := 333) (by decide +kernel)) (by decide +kernel)), rfl, rfl, rfl, rfl⟩
theorem fl_X2_38 : FL RX2 38 1 0 0 false .int := ⟨RX1, TX1, 3, tyX1, clX1, by decide, (lwG_in (List.mem_of_getElem? (i := 311) (by decide +kernel)) (by decide +kernel)), rfl, rfl, rfl, rfl⟩
theorem fl_X2_43 : FL RX2 43 1 1 1 false .long := ⟨RX1, TX1, 3, tyX1, clX1, by decide, (lwG_in (List.mem_of_getElem? (i := 313) (by decide +kernel)) (by decide +kernel)), rfl, rfl, rfl, rfl⟩
theorem fl_X2_47 : FL RX2 47 1 2 0 false .int := ⟨RX1, TX1, 3, tyX1, clX1, by decide, (lwG_in (List.mem_of_getElem? (i := 315) (by decide +kernel)) (by decide +kernel)), rfl, rfl, rfl, rfl⟩
theorem fl_X3_9 : FL RX3 9 3 0 2 true (.object "PassTheSalt$Table") := ⟨RX3, TX3, 3, tyX3, clX3, by decide, (lwG_in (List.mem_of_getElem? (i := 198) (by decide +kernel)) (by decide +kernel)), rfl, rfl, rfl, rfl⟩
theorem fl_X3_15 : FL RX3 15 3 1 2 true (.object "PassTheSalt$Layings") := ⟨RX3, TX3, 3, tyX3, clX3, by decide, (lwG_in (List.mem_of_getElem? (i := 201) (by decide +kernel)) (by decide +kernel)), rfl, rfl, rfl, rfl⟩
theorem fl_X3_25 : FL RX3 25 3 2 2 true (.array .long) := ⟨RX3, TX3, 3, tyX3, clX3, by decide, (lwG_in (List.mem_of_getElem? (i := 205) (by decide +kernel)) (by decide +kernel)), rfl, rfl, rfl, rfl⟩
theorem fl_X3_56 : FL RX3 56 7 0 0 false .int := ⟨RX7, TX7, 9, tyX7, clX7, by decide, (lwG_in (List.mem_of_getElem? (i := 108) (by decide +kernel)) (by decide +kernel)), rfl, rfl, rfl, rfl⟩
theorem fl_X4_9 : FL RX4 9 4 2 2 true (.array .int) := ⟨RX4, TX4, 5, tyX4, clX4, by decide, (lwG_in (List.mem_of_getElem? (i := 156) (by decide +kernel)) (by decide +kernel)), rfl, rfl, rfl, rfl⟩
theorem fl_X4_15 : FL RX4 15 4 0 2 true (.array .int) := ⟨RX4, TX4, 5, tyX4, clX4, by decide, (lwG_in (List.mem_of_getElem? (i := 154) (by decide +kernel)) (by decide +kernel)), rfl, rfl, rfl, rfl⟩
theorem fl_X4_18 : FL RX4 18 4 1 2 true (.object "PassTheSalt$Table") := ⟨RX4, TX4, 5, tyX4, clX4, by decide, (lwG_in (List.mem_of_getElem? (i := 155) (by decide +kernel)) (by decide +kernel)), rfl, rfl, rfl, rfl⟩
theorem fl_X4_27 : FL RX4 27 4 3 0 false .int := ⟨RX4, TX4, 5, tyX4, clX4, by decide, (lwG_in (List.mem_of_getElem? (i := 157) (by decide +kernel)) (by decide +kernel)), rfl, rfl, rfl, rfl⟩
theorem fl_X4_31 : FL RX4 31 4 4 0 false .int := ⟨RX4, TX4, 5, tyX4, clX4, by decide, (lwG_in (List.mem_of_getElem? (i := 158) (by decide +kernel)) (by decide +kernel)), rfl, rfl, rfl, rfl⟩
theorem fl_X4_61 : FL RX4 61 7 1 0 false .int := ⟨RX7, TX7, 9, tyX7, clX7, by decide, (lwG_in (List.mem_of_getElem? (i := 111) (by decide +kernel)) (by decide +kernel)), rfl, rfl, rfl, rfl⟩
theorem fl_X4_64 : FL RX4 64 7 0 0 false .int := ⟨RX7, TX7, 9, tyX7, clX7, by decide, (lwG_in (List.mem_of_getElem? (i := 107) (by decide +kernel)) (by decide +kernel)), rfl, rfl, rfl, rfl⟩
theorem fl_X4_67 : FL RX4 67 7 2 0 false .int := ⟨RX7, TX7, 9, tyX7, clX7, by decide, (lwG_in (List.mem_of_getElem? (i := 114) (by decide +kernel)) (by decide +kernel)), rfl, rfl, rfl, rfl⟩
theorem fl_X4_70 : FL RX4 70 7 3 0 false .int := ⟨RX7, TX7, 9, tyX7, clX7, by decide, (lwG_in (List.mem_of_getElem? (i := 118) (by decide +kernel)) (by decide +kernel)), rfl, rfl, rfl, rfl⟩
theorem fl_X4_73 : FL RX4 73 7 4 0 false .int := ⟨RX7, TX7, 9, tyX7, clX7, by decide, (lwG_in (List.mem_of_getElem? (i := 120) (by decide +kernel)) (by decide +kernel)), rfl, rfl, rfl, rfl⟩
theorem fl_X4_76 : FL RX4 76 7 5 0 false .int := ⟨RX7, TX7, 9, tyX7, clX7, by decide, (lwG_in (List.mem_of_getElem? (i := 122) (by decide +kernel)) (by decide +kernel)), rfl, rfl, rfl, rfl⟩
theorem fl_X5_9 : FL RX5 9 5 1 0 false .int := ⟨RX5, TX5, 7, tyX5, clX5, by decide, (lwG_in (List.mem_of_getElem? (i := 222) (by decide +kernel)) (by decide +kernel)), rfl, rfl, rfl, rfl⟩
theorem fl_X5_15 : FL RX5 15 5 2 2 true (.array .int) := ⟨RX5, TX5, 7, tyX5, clX5, by decide, (lwG_in (List.mem_of_getElem? (i := 224) (by decide +kernel)) (by decide +kernel)), rfl, rfl, rfl, rfl⟩
theorem fl_X5_19 : FL RX5 19 5 3 2 true (.array .int) := ⟨RX5, TX5, 7, tyX5, clX5, by decide, (lwG_in (List.mem_of_getElem? (i := 225) (by decide +kernel)) (by decide +kernel)), rfl, rfl, rfl, rfl⟩
theorem fl_X5_22 : FL RX5 22 5 4 2 true (.array .int) := ⟨RX5, TX5, 7, tyX5, clX5, by decide, (lwG_in (List.mem_of_getElem? (i := 226) (by decide +kernel)) (by decide +kernel)), rfl, rfl, rfl, rfl⟩
theorem fl_X5_25 : FL RX5 25 5 0 2 true (.object "PassTheSalt$Moves") := ⟨RX5, TX5, 7, tyX5, clX5, by decide, (lwG_in (List.mem_of_getElem? (i := 220) (by decide +kernel)) (by decide +kernel)), rfl, rfl, rfl, rfl⟩
theorem fl_X5_29 : FL RX5 29 5 5 0 false .int := ⟨RX5, TX5, 7, tyX5, clX5, by decide, (lwG_in (List.mem_of_getElem? (i := 227) (by decide +kernel)) (by decide +kernel)), rfl, rfl, rfl, rfl⟩
theorem fl_X5_32 : FL RX5 32 5 6 0 false .int := ⟨RX5, TX5, 7, tyX5, clX5, by decide, (lwG_in (List.mem_of_getElem? (i := 228) (by decide +kernel)) (by decide +kernel)), rfl, rfl, rfl, rfl⟩
theorem fl_X5_48 : FL RX5 48 3 0 2 true (.object "PassTheSalt$Table") := ⟨RX3, TX3, 3, tyX3, clX3, by decide, (lwG_in (List.mem_of_getElem? (i := 200) (by decide +kernel)) (by decide +kernel)), rfl, rfl, rfl, rfl⟩
theorem fl_X5_54 : FL RX5 54 7 0 0 false .int := ⟨RX7, TX7, 9, tyX7, clX7, by decide, (lwG_in (List.mem_of_getElem? (i := 106) (by decide +kernel)) (by decide +kernel)), rfl, rfl, rfl, rfl⟩
theorem fl_X5_83 : FL RX5 83 7 5 0 false .int := ⟨RX7, TX7, 9, tyX7, clX7, by decide, (lwG_in (List.mem_of_getElem? (i := 124) (by decide +kernel)) (by decide +kernel)), rfl, rfl, rfl, rfl⟩
theorem fl_X5_93 : FL RX5 93 3 1 2 true (.object "PassTheSalt$Layings") := ⟨RX3, TX3, 3, tyX3, clX3, by decide, (lwG_in (List.mem_of_getElem? (i := 204) (by decide +kernel)) (by decide +kernel)), rfl, rfl, rfl, rfl⟩
theorem fl_X6_9 : FL RX6 9 6 1 2 true (.array .int) := ⟨RX6, TX6, 4, tyX6, clX6, by decide, (lwG_in (List.mem_of_getElem? (i := 251) (by decide +kernel)) (by decide +kernel)), rfl, rfl, rfl, rfl⟩
theorem fl_X6_15 : FL RX6 15 6 2 2 false (.array .long) := ⟨RX6, TX6, 4, tyX6, clX6, by decide, (lwG_in (List.mem_of_getElem? (i := 252) (by decide +kernel)) (by decide +kernel)), rfl, rfl, rfl, rfl⟩
theorem fl_X6_19 : FL RX6 19 6 3 2 false (.array .long) := ⟨RX6, TX6, 4, tyX6, clX6, by decide, (lwG_in (List.mem_of_getElem? (i := 253) (by decide +kernel)) (by decide +kernel)), rfl, rfl, rfl, rfl⟩
theorem fl_X6_22 : FL RX6 22 6 0 2 true (.object "PassTheSalt$Moves") := ⟨RX6, TX6, 4, tyX6, clX6, by decide, (lwG_in (List.mem_of_getElem? (i := 250) (by decide +kernel)) (by decide +kernel)), rfl, rfl, rfl, rfl⟩
theorem fl_X6_37 : FL RX6 37 3 1 2 true (.object "PassTheSalt$Layings") := ⟨RX3, TX3, 3, tyX3, clX3, by decide, (lwG_in (List.mem_of_getElem? (i := 203) (by decide +kernel)) (by decide +kernel)), rfl, rfl, rfl, rfl⟩
theorem fl_X6_53 : FL RX6 53 3 0 2 true (.object "PassTheSalt$Table") := ⟨RX3, TX3, 3, tyX3, clX3, by decide, (lwG_in (List.mem_of_getElem? (i := 199) (by decide +kernel)) (by decide +kernel)), rfl, rfl, rfl, rfl⟩
theorem fl_X6_57 : FL RX6 57 7 3 0 false .int := ⟨RX7, TX7, 9, tyX7, clX7, by decide, (lwG_in (List.mem_of_getElem? (i := 117) (by decide +kernel)) (by decide +kernel)), rfl, rfl, rfl, rfl⟩
theorem fl_X6_63 : FL RX6 63 0 0 0 false .int := ⟨RX0, TX0, 3, tyX0, clX0, by decide, (lwG_in (List.mem_of_getElem? (i := 177) (by decide +kernel)) (by decide +kernel)), rfl, rfl, rfl, rfl⟩
theorem fl_X6_74 : FL RX6 74 7 0 0 false .int := ⟨RX7, TX7, 9, tyX7, clX7, by decide, (lwG_in (List.mem_of_getElem? (i := 104) (by decide +kernel)) (by decide +kernel)), rfl, rfl, rfl, rfl⟩
theorem fl_X7_9 : FL RX7 9 7 6 2 true (.array .int) := ⟨RX7, TX7, 9, tyX7, clX7, by decide, (lwG_in (List.mem_of_getElem? (i := 125) (by decide +kernel)) (by decide +kernel)), rfl, rfl, rfl, rfl⟩
theorem fl_X7_15 : FL RX7 15 7 7 2 true (.array .int) := ⟨RX7, TX7, 9, tyX7, clX7, by decide, (lwG_in (List.mem_of_getElem? (i := 126) (by decide +kernel)) (by decide +kernel)), rfl, rfl, rfl, rfl⟩
theorem fl_X7_18 : FL RX7 18 7 8 2 true (.array .int) := ⟨RX7, TX7, 9, tyX7, clX7, by decide, (lwG_in (List.mem_of_getElem? (i := 127) (by decide +kernel)) (by decide +kernel)), rfl, rfl, rfl, rfl⟩
theorem fl_X7_21 : FL RX7 21 7 0 0 false .int := ⟨RX7, TX7, 9, tyX7, clX7, by decide, (lwG_in (List.mem_of_getElem? (i := 103) (by decide +kernel)) (by decide +kernel)), rfl, rfl, rfl, rfl⟩
theorem fl_X7_25 : FL RX7 25 7 1 0 false .int := ⟨RX7, TX7, 9, tyX7, clX7, by decide, (lwG_in (List.mem_of_getElem? (i := 110) (by decide +kernel)) (by decide +kernel)), rfl, rfl, rfl, rfl⟩
theorem fl_X7_28 : FL RX7 28 7 2 0 false .int := ⟨RX7, TX7, 9, tyX7, clX7, by decide, (lwG_in (List.mem_of_getElem? (i := 113) (by decide +kernel)) (by decide +kernel)), rfl, rfl, rfl, rfl⟩
theorem fl_X7_31 : FL RX7 31 7 3 0 false .int := ⟨RX7, TX7, 9, tyX7, clX7, by decide, (lwG_in (List.mem_of_getElem? (i := 116) (by decide +kernel)) (by decide +kernel)), rfl, rfl, rfl, rfl⟩
theorem fl_X7_34 : FL RX7 34 7 4 0 false .int := ⟨RX7, TX7, 9, tyX7, clX7, by decide, (lwG_in (List.mem_of_getElem? (i := 119) (by decide +kernel)) (by decide +kernel)), rfl, rfl, rfl, rfl⟩
theorem fl_X7_38 : FL RX7 38 7 5 0 false .int := ⟨RX7, TX7, 9, tyX7, clX7, by decide, (lwG_in (List.mem_of_getElem? (i := 121) (by decide +kernel)) (by decide +kernel)), rfl, rfl, rfl, rfl⟩
theorem fl_X8_9 : FL RX8 9 8 2 0 false .int := ⟨RX8, TX8, 9, tyX8, clX8, by decide, (lwG_in (List.mem_of_getElem? (i := 279) (by decide +kernel)) (by decide +kernel)), rfl, rfl, rfl, rfl⟩
theorem fl_X8_15 : FL RX8 15 8 4 0 false .int := ⟨RX8, TX8, 9, tyX8, clX8, by decide, (lwG_in (List.mem_of_getElem? (i := 281) (by decide +kernel)) (by decide +kernel)), rfl, rfl, rfl, rfl⟩
theorem fl_X8_18 : FL RX8 18 8 5 2 true (.object "PassTheSalt$Table") := ⟨RX8, TX8, 9, tyX8, clX8, by decide, (lwG_in (List.mem_of_getElem? (i := 282) (by decide +kernel)) (by decide +kernel)), rfl, rfl, rfl, rfl⟩
theorem fl_X8_22 : FL RX8 22 8 6 2 true (.object "PassTheSalt$Search") := ⟨RX8, TX8, 9, tyX8, clX8, by decide, (lwG_in (List.mem_of_getElem? (i := 283) (by decide +kernel)) (by decide +kernel)), rfl, rfl, rfl, rfl⟩
theorem fl_X8_29 : FL RX8 29 8 7 2 true (.object "PassTheSalt$Table") := ⟨RX8, TX8, 9, tyX8, clX8, by decide, (lwG_in (List.mem_of_getElem? (i := 284) (by decide +kernel)) (by decide +kernel)), rfl, rfl, rfl, rfl⟩
theorem fl_X8_36 : FL RX8 36 5 0 2 true (.object "PassTheSalt$Moves") := ⟨RX5, TX5, 7, tyX5, clX5, by decide, (lwG_in (List.mem_of_getElem? (i := 221) (by decide +kernel)) (by decide +kernel)), rfl, rfl, rfl, rfl⟩
theorem fl_X8_40 : FL RX8 40 3 1 2 true (.object "PassTheSalt$Layings") := ⟨RX3, TX3, 3, tyX3, clX3, by decide, (lwG_in (List.mem_of_getElem? (i := 202) (by decide +kernel)) (by decide +kernel)), rfl, rfl, rfl, rfl⟩
theorem fl_X8_50 : FL RX8 50 8 8 2 true (.object "PassTheSalt$Search") := ⟨RX8, TX8, 9, tyX8, clX8, by decide, (lwG_in (List.mem_of_getElem? (i := 285) (by decide +kernel)) (by decide +kernel)), rfl, rfl, rfl, rfl⟩
theorem fl_X8_53 : FL RX8 53 5 1 0 false .int := ⟨RX5, TX5, 7, tyX5, clX5, by decide, (lwG_in (List.mem_of_getElem? (i := 223) (by decide +kernel)) (by decide +kernel)), rfl, rfl, rfl, rfl⟩
theorem fl_X8_56 : FL RX8 56 8 0 0 false .int := ⟨RX8, TX8, 9, tyX8, clX8, by decide, (lwG_in (List.mem_of_getElem? (i := 275) (by decide +kernel)) (by decide +kernel)), rfl, rfl, rfl, rfl⟩
theorem fl_X8_59 : FL RX8 59 8 1 0 false .int := ⟨RX8, TX8, 9, tyX8, clX8, by decide, (lwG_in (List.mem_of_getElem? (i := 277) (by decide +kernel)) (by decide +kernel)), rfl, rfl, rfl, rfl⟩
theorem fl_X8_70 : FL RX8 70 7 0 0 false .int := ⟨RX7, TX7, 9, tyX7, clX7, by decide, (lwG_in (List.mem_of_getElem? (i := 105) (by decide +kernel)) (by decide +kernel)), rfl, rfl, rfl, rfl⟩
theorem fl_X8_85 : FL RX8 85 8 3 0 false .int := ⟨RX8, TX8, 9, tyX8, clX8, by decide, (lwG_in (List.mem_of_getElem? (i := 280) (by decide +kernel)) (by decide +kernel)), rfl, rfl, rfl, rfl⟩
theorem fl_X8_101 : FL RX8 101 0 0 0 false .int := ⟨RX0, TX0, 3, tyX0, clX0, by decide, (lwG_in (List.mem_of_getElem? (i := 178) (by decide +kernel)) (by decide +kernel)), rfl, rfl, rfl, rfl⟩
theorem fl_X10_7 : FL RX10 7 10 5 2 true (.array .int) := ⟨RX10, TX10, 49, tyX10, clX10, by decide, (lwG_in (List.mem_of_getElem? (i := 942) (by decide +kernel)) (by decide +kernel)), rfl, rfl, rfl, rfl⟩
theorem fl_X10_13 : FL RX10 13 10 6 2 true (.array .int) := ⟨RX10, TX10, 49, tyX10, clX10, by decide, (lwG_in (List.mem_of_getElem? (i := 943) (by decide +kernel)) (by decide +kernel)), rfl, rfl, rfl, rfl⟩
theorem fl_X10_16 : FL RX10 16 10 7 2 true (.array .int) := ⟨RX10, TX10, 49, tyX10, clX10, by decide, (lwG_in (List.mem_of_getElem? (i := 944) (by decide +kernel)) (by decide +kernel)), rfl, rfl, rfl, rfl⟩
theorem fl_X10_19 : FL RX10 19 10 8 2 true (.array .int) := ⟨RX10, TX10, 49, tyX10, clX10, by decide, (lwG_in (List.mem_of_getElem? (i := 945) (by decide +kernel)) (by decide +kernel)), rfl, rfl, rfl, rfl⟩
theorem fl_X10_22 : FL RX10 22 10 9 2 true (.array .int) := ⟨RX10, TX10, 49, tyX10, clX10, by decide, (lwG_in (List.mem_of_getElem? (i := 946) (by decide +kernel)) (by decide +kernel)), rfl, rfl, rfl, rfl⟩
theorem fl_X10_25 : FL RX10 25 10 10 2 true (.array .int) := ⟨RX10, TX10, 49, tyX10, clX10, by decide, (lwG_in (List.mem_of_getElem? (i := 947) (by decide +kernel)) (by decide +kernel)), rfl, rfl, rfl, rfl⟩
theorem fl_X10_28 : FL RX10 28 10 13 2 true (.array .int) := ⟨RX10, TX10, 49, tyX10, clX10, by decide, (lwG_in (List.mem_of_getElem? (i := 950) (by decide +kernel)) (by decide +kernel)), rfl, rfl, rfl, rfl⟩
theorem fl_X10_31 : FL RX10 31 10 14 2 true (.array .int) := ⟨RX10, TX10, 49, tyX10, clX10, by decide, (lwG_in (List.mem_of_getElem? (i := 951) (by decide +kernel)) (by decide +kernel)), rfl, rfl, rfl, rfl⟩
theorem fl_X10_34 : FL RX10 34 10 15 2 true (.array .int) := ⟨RX10, TX10, 49, tyX10, clX10, by decide, (lwG_in (List.mem_of_getElem? (i := 952) (by decide +kernel)) (by decide +kernel)), rfl, rfl, rfl, rfl⟩
theorem fl_X10_37 : FL RX10 37 10 17 2 true (.array .int) := ⟨RX10, TX10, 49, tyX10, clX10, by decide, (lwG_in (List.mem_of_getElem? (i := 954) (by decide +kernel)) (by decide +kernel)), rfl, rfl, rfl, rfl⟩
theorem fl_X10_40 : FL RX10 40 10 18 2 true (.array .int) := ⟨RX10, TX10, 49, tyX10, clX10, by decide, (lwG_in (List.mem_of_getElem? (i := 955) (by decide +kernel)) (by decide +kernel)), rfl, rfl, rfl, rfl⟩
theorem fl_X10_43 : FL RX10 43 10 19 2 true (.array .int) := ⟨RX10, TX10, 49, tyX10, clX10, by decide, (lwG_in (List.mem_of_getElem? (i := 956) (by decide +kernel)) (by decide +kernel)), rfl, rfl, rfl, rfl⟩
theorem fl_X10_46 : FL RX10 46 10 20 2 true (.array .int) := ⟨RX10, TX10, 49, tyX10, clX10, by decide, (lwG_in (List.mem_of_getElem? (i := 957) (by decide +kernel)) (by decide +kernel)), rfl, rfl, rfl, rfl⟩
theorem fl_X10_49 : FL RX10 49 10 28 2 true (.array .int) := ⟨RX10, TX10, 49, tyX10, clX10, by decide, (lwG_in (List.mem_of_getElem? (i := 965) (by decide +kernel)) (by decide +kernel)), rfl, rfl, rfl, rfl⟩
theorem fl_X10_52 : FL RX10 52 10 29 2 true (.array .int) := ⟨RX10, TX10, 49, tyX10, clX10, by decide, (lwG_in (List.mem_of_getElem? (i := 966) (by decide +kernel)) (by decide +kernel)), rfl, rfl, rfl, rfl⟩
theorem fl_X10_55 : FL RX10 55 10 30 2 true (.array .int) := ⟨RX10, TX10, 49, tyX10, clX10, by decide, (lwG_in (List.mem_of_getElem? (i := 967) (by decide +kernel)) (by decide +kernel)), rfl, rfl, rfl, rfl⟩
theorem fl_X10_58 : FL RX10 58 10 31 2 true (.array .int) := ⟨RX10, TX10, 49, tyX10, clX10, by decide, (lwG_in (List.mem_of_getElem? (i := 968) (by decide +kernel)) (by decide +kernel)), rfl, rfl, rfl, rfl⟩
theorem fl_X10_61 : FL RX10 61 10 32 2 true (.array .int) := ⟨RX10, TX10, 49, tyX10, clX10, by decide, (lwG_in (List.mem_of_getElem? (i := 969) (by decide +kernel)) (by decide +kernel)), rfl, rfl, rfl, rfl⟩
theorem fl_X10_64 : FL RX10 64 10 33 2 true (.array .int) := ⟨RX10, TX10, 49, tyX10, clX10, by decide, (lwG_in (List.mem_of_getElem? (i := 970) (by decide +kernel)) (by decide +kernel)), rfl, rfl, rfl, rfl⟩
theorem fl_X10_67 : FL RX10 67 10 34 2 true (.array .int) := ⟨RX10, TX10, 49, tyX10, clX10, by decide, (lwG_in (List.mem_of_getElem? (i := 971) (by decide +kernel)) (by decide +kernel)), rfl, rfl, rfl, rfl⟩
theorem fl_X10_70 : FL RX10 70 10 35 2 true (.array .int) := ⟨RX10, TX10, 49, tyX10, clX10, by decide, (lwG_in (List.mem_of_getElem? (i := 972) (by decide +kernel)) (by decide +kernel)), rfl, rfl, rfl, rfl⟩
theorem fl_X10_74 : FL RX10 74 10 36 2 true (.array .int) := ⟨RX10, TX10, 49, tyX10, clX10, by decide, (lwG_in (List.mem_of_getElem? (i := 973) (by decide +kernel)) (by decide +kernel)), rfl, rfl, rfl, rfl⟩
theorem fl_X10_77 : FL RX10 77 10 38 2 true (.array .int) := ⟨RX10, TX10, 49, tyX10, clX10, by decide, (lwG_in (List.mem_of_getElem? (i := 975) (by decide +kernel)) (by decide +kernel)), rfl, rfl, rfl, rfl⟩
theorem fl_X10_80 : FL RX10 80 10 39 2 true (.array .int) := ⟨RX10, TX10, 49, tyX10, clX10, by decide, (lwG_in (List.mem_of_getElem? (i := 976) (by decide +kernel)) (by decide +kernel)), rfl, rfl, rfl, rfl⟩
theorem fl_X10_83 : FL RX10 83 10 40 2 true (.array .int) := ⟨RX10, TX10, 49, tyX10, clX10, by decide, (lwG_in (List.mem_of_getElem? (i := 977) (by decide +kernel)) (by decide +kernel)), rfl, rfl, rfl, rfl⟩
theorem fl_X10_86 : FL RX10 86 10 43 2 true (.array .boolean) := ⟨RX10, TX10, 49, tyX10, clX10, by decide, (lwG_in (List.mem_of_getElem? (i := 980) (by decide +kernel)) (by decide +kernel)), rfl, rfl, rfl, rfl⟩
theorem fl_X10_90 : FL RX10 90 10 44 2 true (.array .boolean) := ⟨RX10, TX10, 49, tyX10, clX10, by decide, (lwG_in (List.mem_of_getElem? (i := 981) (by decide +kernel)) (by decide +kernel)), rfl, rfl, rfl, rfl⟩
theorem fl_X10_93 : FL RX10 93 10 45 2 true (.array .int) := ⟨RX10, TX10, 49, tyX10, clX10, by decide, (lwG_in (List.mem_of_getElem? (i := 982) (by decide +kernel)) (by decide +kernel)), rfl, rfl, rfl, rfl⟩
theorem fl_X10_96 : FL RX10 96 10 46 2 true (.array .int) := ⟨RX10, TX10, 49, tyX10, clX10, by decide, (lwG_in (List.mem_of_getElem? (i := 983) (by decide +kernel)) (by decide +kernel)), rfl, rfl, rfl, rfl⟩
theorem fl_X10_99 : FL RX10 99 10 47 2 true (.array .long) := ⟨RX10, TX10, 49, tyX10, clX10, by decide, (lwG_in (List.mem_of_getElem? (i := 984) (by decide +kernel)) (by decide +kernel)), rfl, rfl, rfl, rfl⟩
theorem fl_X10_103 : FL RX10 103 10 48 2 true (.array .long) := ⟨RX10, TX10, 49, tyX10, clX10, by decide, (lwG_in (List.mem_of_getElem? (i := 985) (by decide +kernel)) (by decide +kernel)), rfl, rfl, rfl, rfl⟩
theorem fl_X10_109 : FL RX10 109 10 23 0 false .int := ⟨RX10, TX10, 49, tyX10, clX10, by decide, (lwG_in (List.mem_of_getElem? (i := 960) (by decide +kernel)) (by decide +kernel)), rfl, rfl, rfl, rfl⟩
theorem fl_X10_116 : FL RX10 116 10 0 0 false .int := ⟨RX10, TX10, 49, tyX10, clX10, by decide, (lwG_in (List.mem_of_getElem? (i := 937) (by decide +kernel)) (by decide +kernel)), rfl, rfl, rfl, rfl⟩
theorem fl_X10_123 : FL RX10 123 10 1 0 false .int := ⟨RX10, TX10, 49, tyX10, clX10, by decide, (lwG_in (List.mem_of_getElem? (i := 938) (by decide +kernel)) (by decide +kernel)), rfl, rfl, rfl, rfl⟩
theorem fl_X10_126 : FL RX10 126 10 21 0 false .int := ⟨RX10, TX10, 49, tyX10, clX10, by decide, (lwG_in (List.mem_of_getElem? (i := 958) (by decide +kernel)) (by decide +kernel)), rfl, rfl, rfl, rfl⟩
theorem fl_X10_131 : FL RX10 131 10 22 0 false .int := ⟨RX10, TX10, 49, tyX10, clX10, by decide, (lwG_in (List.mem_of_getElem? (i := 959) (by decide +kernel)) (by decide +kernel)), rfl, rfl, rfl, rfl⟩
theorem fl_X10_134 : FL RX10 134 10 24 0 false .int := ⟨RX10, TX10, 49, tyX10, clX10, by decide, (lwG_in (List.mem_of_getElem? (i := 961) (by decide +kernel)) (by decide +kernel)), rfl, rfl, rfl, rfl⟩
theorem fl_X10_137 : FL RX10 137 10 25 0 false .int := ⟨RX10, TX10, 49, tyX10, clX10, by decide, (lwG_in (List.mem_of_getElem? (i := 962) (by decide +kernel)) (by decide +kernel)), rfl, rfl, rfl, rfl⟩
theorem fl_X10_140 : FL RX10 140 10 26 0 false .int := ⟨RX10, TX10, 49, tyX10, clX10, by decide, (lwG_in (List.mem_of_getElem? (i := 963) (by decide +kernel)) (by decide +kernel)), rfl, rfl, rfl, rfl⟩
theorem fl_X10_143 : FL RX10 143 10 27 0 false .int := ⟨RX10, TX10, 49, tyX10, clX10, by decide, (lwG_in (List.mem_of_getElem? (i := 964) (by decide +kernel)) (by decide +kernel)), rfl, rfl, rfl, rfl⟩
theorem fl_X10_173 : FL RX10 173 10 2 0 false .boolean := ⟨RX10, TX10, 49, tyX10, clX10, by decide, (lwG_in (List.mem_of_getElem? (i := 939) (by decide +kernel)) (by decide +kernel)), rfl, rfl, rfl, rfl⟩
theorem fl_X10_177 : FL RX10 177 10 3 0 false .int := ⟨RX10, TX10, 49, tyX10, clX10, by decide, (lwG_in (List.mem_of_getElem? (i := 940) (by decide +kernel)) (by decide +kernel)), rfl, rfl, rfl, rfl⟩
theorem fl_X10_180 : FL RX10 180 10 4 0 false .int := ⟨RX10, TX10, 49, tyX10, clX10, by decide, (lwG_in (List.mem_of_getElem? (i := 941) (by decide +kernel)) (by decide +kernel)), rfl, rfl, rfl, rfl⟩
theorem fl_X10_183 : FL RX10 183 10 11 0 false .int := ⟨RX10, TX10, 49, tyX10, clX10, by decide, (lwG_in (List.mem_of_getElem? (i := 948) (by decide +kernel)) (by decide +kernel)), rfl, rfl, rfl, rfl⟩
theorem fl_X10_186 : FL RX10 186 10 12 0 false .int := ⟨RX10, TX10, 49, tyX10, clX10, by decide, (lwG_in (List.mem_of_getElem? (i := 949) (by decide +kernel)) (by decide +kernel)), rfl, rfl, rfl, rfl⟩
theorem fl_X10_189 : FL RX10 189 10 16 0 false .int := ⟨RX10, TX10, 49, tyX10, clX10, by decide, (lwG_in (List.mem_of_getElem? (i := 953) (by decide +kernel)) (by decide +kernel)), rfl, rfl, rfl, rfl⟩
theorem fl_X10_241 : FL RX10 241 10 42 0 false .int := ⟨RX10, TX10, 49, tyX10, clX10, by decide, (lwG_in (List.mem_of_getElem? (i := 979) (by decide +kernel)) (by decide +kernel)), rfl, rfl, rfl, rfl⟩
theorem fl_X10_247 : FL RX10 247 10 37 0 false .int := ⟨RX10, TX10, 49, tyX10, clX10, by decide, (lwG_in (List.mem_of_getElem? (i := 974) (by decide +kernel)) (by decide +kernel)), rfl, rfl, rfl, rfl⟩
theorem fl_X10_250 : FL RX10 250 10 41 0 false .int := ⟨RX10, TX10, 49, tyX10, clX10, by decide, (lwG_in (List.mem_of_getElem? (i := 978) (by decide +kernel)) (by decide +kernel)), rfl, rfl, rfl, rfl⟩
theorem mi_X9_15 : MI RX9 15 yX7_init cX7_init 1 0 := ⟨⟨⟨by decide +kernel, by decide +kernel, by decide +kernel⟩, cw_X7_init, (lwG_in (List.mem_of_getElem? (i := 72) (by decide +kernel)) (by decide +kernel)), Or.inr ⟨"PassTheSalt", (lwN_in (List.mem_of_getElem? (i := 99) (by decide +kernel)) (by decide +kernel))⟩⟩, rfl, (lwG_in (List.mem_of_getElem? (i := 100) (by decide +kernel)) (by decide +kernel))⟩
theorem mi_X9_22 : MI RX9 22 yX4_init cX4_init 3 2 := ⟨⟨⟨by decide +kernel, by decide +kernel, by decide +kernel⟩, cw_X4_init, (lwG_in (List.mem_of_getElem? (i := 73) (by decide +kernel)) (by decide +kernel)), Or.inl (lwG_in (List.mem_of_getElem? (i := 150) (by decide +kernel)) (by decide +kernel))⟩, rfl, (lwG_in (List.mem_of_getElem? (i := 151) (by decide +kernel)) (by decide +kernel))⟩
theorem mi_X9_34 : MI RX9 34 yX0_init cX0_init 1 0 := ⟨⟨⟨by decide +kernel, by decide +kernel, by decide +kernel⟩, cw_X0_init, (lwG_in (List.mem_of_getElem? (i := 74) (by decide +kernel)) (by decide +kernel)), Or.inr ⟨"PassTheSalt", (lwN_in (List.mem_of_getElem? (i := 172) (by decide +kernel)) (by decide +kernel))⟩⟩, rfl, (lwG_in (List.mem_of_getElem? (i := 173) (by decide +kernel)) (by decide +kernel))⟩
theorem mi_X9_41 : MI RX9 41 yX3_init cX3_init 4 3 := ⟨⟨⟨by decide +kernel, by decide +kernel, by decide +kernel⟩, cw_X3_init, (lwG_in (List.mem_of_getElem? (i := 75) (by decide +kernel)) (by decide +kernel)), Or.inl (lwG_in (List.mem_of_getElem? (i := 191) (by decide +kernel)) (by decide +kernel))⟩, rfl, (lwG_in (List.mem_of_getElem? (i := 192) (by decide +kernel)) (by decide +kernel))⟩
theorem mi_X9_50 : MI RX9 50 yX5_init cX5_init 2 1 := ⟨⟨⟨by decide +kernel, by decide +kernel, by decide +kernel⟩, cw_X5_init, (lwG_in (List.mem_of_getElem? (i := 77) (by decide +kernel)) (by decide +kernel)), Or.inl (lwG_in (List.mem_of_getElem? (i := 216) (by decide +kernel)) (by decide +kernel))⟩, rfl, (lwG_in (List.mem_of_getElem? (i := 217) (by decide +kernel)) (by decide +kernel))⟩
theorem mi_X9_59 : MI RX9 59 yX6_init cX6_init 2 1 := ⟨⟨⟨by decide +kernel, by decide +kernel, by decide +kernel⟩, cw_X6_init, (lwG_in (List.mem_of_getElem? (i := 78) (by decide +kernel)) (by decide +kernel)), Or.inl (lwG_in (List.mem_of_getElem? (i := 246) (by decide +kernel)) (by decide +kernel))⟩, rfl, (lwG_in (List.mem_of_getElem? (i := 247) (by decide +kernel)) (by decide +kernel))⟩
theorem mi_X9_66 : MI RX9 66 yX8_init cX8_init 3 2 := ⟨⟨⟨by decide +kernel, by decide +kernel, by decide +kernel⟩, cw_X8_init, (lwG_in (List.mem_of_getElem? (i := 79) (by decide +kernel)) (by decide +kernel)), Or.inl (lwG_in (List.mem_of_getElem? (i := 265) (by decide +kernel)) (by decide +kernel))⟩, rfl, (lwG_in (List.mem_of_getElem? (i := 266) (by decide +kernel)) (by decide +kernel))⟩
theorem mi_X9_75 : MI RX9 75 yX1_init cX1_init 1 0 := ⟨⟨⟨by decide +kernel, by decide +kernel, by decide +kernel⟩, cw_X1_init, (lwG_in (List.mem_of_getElem? (i := 80) (by decide +kernel)) (by decide +kernel)), Or.inr ⟨"PassTheSalt", (lwN_in (List.mem_of_getElem? (i := 307) (by decide +kernel)) (by decide +kernel))⟩⟩, rfl, (lwG_in (List.mem_of_getElem? (i := 308) (by decide +kernel)) (by decide +kernel))⟩
theorem mi_X9_82 : MI RX9 82 yX2_init cX2_init 2 1 := ⟨⟨⟨by decide +kernel, by decide +kernel, by decide +kernel⟩, cw_X2_init, (lwG_in (List.mem_of_getElem? (i := 81) (by decide +kernel)) (by decide +kernel)), Or.inl (lwG_in (List.mem_of_getElem? (i := 326) (by decide +kernel)) (by decide +kernel))⟩, rfl, (lwG_in (List.mem_of_getElem? (i := 327) (by decide +kernel)) (by decide +kernel))⟩
theorem mv_X9_107 : MV RX9 107 yX9_lay cX9_lay 1 (some .int) 0 9 := ⟨⟨⟨by decide +kernel, by decide +kernel, by decide +kernel⟩, cw_X9_lay, (lwG_in (List.mem_of_getElem? (i := 71) (by decide +kernel)) (by decide +kernel)), Or.inl (lwG_in (List.mem_of_getElem? (i := 399) (by decide +kernel)) (by decide +kernel))⟩, (lwG_in (List.mem_of_getElem? (i := 400) (by decide +kernel)) (by decide +kernel)), (lwG_in (List.mem_of_getElem? (i := 401) (by decide +kernel)) (by decide +kernel)), TX9, 13, rfl, by decide⟩
theorem ms_X9_110 : MS RX9 110 yX9_put cX9_put 3 none 3 := ⟨⟨⟨by decide +kernel, by decide +kernel, by decide +kernel⟩, cw_X9_put, (lwG_in (List.mem_of_getElem? (i := 71) (by decide +kernel)) (by decide +kernel)), Or.inl (lwG_in (List.mem_of_getElem? (i := 578) (by decide +kernel)) (by decide +kernel))⟩, (lwG_in (List.mem_of_getElem? (i := 436) (by decide +kernel)) (by decide +kernel))⟩
theorem mv_X9_114 : MV RX9 114 yX4_read cX4_read 4 (some .int) 1 4 := ⟨⟨⟨by decide +kernel, by decide +kernel, by decide +kernel⟩, cw_X4_read, (lwG_in (List.mem_of_getElem? (i := 73) (by decide +kernel)) (by decide +kernel)), Or.inl (lwG_in (List.mem_of_getElem? (i := 403) (by decide +kernel)) (by decide +kernel))⟩, (lwG_in (List.mem_of_getElem? (i := 404) (by decide +kernel)) (by decide +kernel)), (lwG_in (List.mem_of_getElem? (i := 405) (by decide +kernel)) (by decide +kernel)), TX4, 5, rfl, by decide⟩
theorem mv_X9_121 : MV RX9 121 yX7_become cX7_become 3 none 1 7 := ⟨⟨⟨by decide +kernel, by decide +kernel, by decide +kernel⟩, cw_X7_become, (lwG_in (List.mem_of_getElem? (i := 72) (by decide +kernel)) (by decide +kernel)), Or.inl (lwG_in (List.mem_of_getElem? (i := 469) (by decide +kernel)) (by decide +kernel))⟩, (lwG_in (List.mem_of_getElem? (i := 470) (by decide +kernel)) (by decide +kernel)), (lwG_in (List.mem_of_getElem? (i := 471) (by decide +kernel)) (by decide +kernel)), TX7, 9, rfl, by decide⟩
theorem mv_X9_128 : MV RX9 128 yX0_gather cX0_gather 6 none 2 0 := ⟨⟨⟨by decide +kernel, by decide +kernel, by decide +kernel⟩, cw_X0_gather, (lwG_in (List.mem_of_getElem? (i := 74) (by decide +kernel)) (by decide +kernel)), Or.inl (lwG_in (List.mem_of_getElem? (i := 490) (by decide +kernel)) (by decide +kernel))⟩, (lwG_in (List.mem_of_getElem? (i := 491) (by decide +kernel)) (by decide +kernel)), (lwG_in (List.mem_of_getElem? (i := 492) (by decide +kernel)) (by decide +kernel)), TX0, 3, rfl, by decide⟩
theorem mv_X9_132 : MV RX9 132 yX3_forget cX3_forget 1 none 0 3 := ⟨⟨⟨by decide +kernel, by decide +kernel, by decide +kernel⟩, cw_X3_forget, (lwG_in (List.mem_of_getElem? (i := 75) (by decide +kernel)) (by decide +kernel)), Or.inl (lwG_in (List.mem_of_getElem? (i := 511) (by decide +kernel)) (by decide +kernel))⟩, (lwG_in (List.mem_of_getElem? (i := 512) (by decide +kernel)) (by decide +kernel)), (lwG_in (List.mem_of_getElem? (i := 513) (by decide +kernel)) (by decide +kernel)), TX3, 3, rfl, by decide⟩
theorem mv_X9_135 : MV RX9 135 yX5_forget cX5_forget 1 none 0 5 := ⟨⟨⟨by decide +kernel, by decide +kernel, by decide +kernel⟩, cw_X5_forget, (lwG_in (List.mem_of_getElem? (i := 77) (by decide +kernel)) (by decide +kernel)), Or.inl (lwG_in (List.mem_of_getElem? (i := 519) (by decide +kernel)) (by decide +kernel))⟩, (lwG_in (List.mem_of_getElem? (i := 520) (by decide +kernel)) (by decide +kernel)), (lwG_in (List.mem_of_getElem? (i := 521) (by decide +kernel)) (by decide +kernel)), TX5, 7, rfl, by decide⟩
theorem mv_X9_136 : MV RX9 136 yX8_forget cX8_forget 1 none 0 8 := ⟨⟨⟨by decide +kernel, by decide +kernel, by decide +kernel⟩, cw_X8_forget, (lwG_in (List.mem_of_getElem? (i := 79) (by decide +kernel)) (by decide +kernel)), Or.inl (lwG_in (List.mem_of_getElem? (i := 523) (by decide +kernel)) (by decide +kernel))⟩, (lwG_in (List.mem_of_getElem? (i := 524) (by decide +kernel)) (by decide +kernel)), (lwG_in (List.mem_of_getElem? (i := 525) (by decide +kernel)) (by decide +kernel)), TX8, 9, rfl, by decide⟩
theorem ms_X9_140 : MS RX9 140 yX9_pairsOf cX9_pairsOf 5 (some .long) 1 := ⟨⟨⟨by decide +kernel, by decide +kernel, by decide +kernel⟩, cw_X9_pairsOf, (lwG_in (List.mem_of_getElem? (i := 71) (by decide +kernel)) (by decide +kernel)), Or.inl (lwG_in (List.mem_of_getElem? (i := 527) (by decide +kernel)) (by decide +kernel))⟩, (lwG_in (List.mem_of_getElem? (i := 528) (by decide +kernel)) (by decide +kernel))⟩
theorem mv_X9_154 : MV RX9 154 yX9_isGuest cX9_isGuest 2 (some .boolean) 1 9 := ⟨⟨⟨by decide +kernel, by decide +kernel, by decide +kernel⟩, cw_X9_isGuest, (lwG_in (List.mem_of_getElem? (i := 71) (by decide +kernel)) (by decide +kernel)), Or.inl (lwG_in (List.mem_of_getElem? (i := 592) (by decide +kernel)) (by decide +kernel))⟩, (lwG_in (List.mem_of_getElem? (i := 594) (by decide +kernel)) (by decide +kernel)), (lwG_in (List.mem_of_getElem? (i := 9) (by decide +kernel)) (by decide +kernel)), TX9, 13, rfl, by decide⟩
theorem mv_X9_158 : MV RX9 158 yX7_kindOf cX7_kindOf 2 (some .int) 1 7 := ⟨⟨⟨by decide +kernel, by decide +kernel, by decide +kernel⟩, cw_X7_kindOf, (lwG_in (List.mem_of_getElem? (i := 72) (by decide +kernel)) (by decide +kernel)), Or.inl (lwG_in (List.mem_of_getElem? (i := 596) (by decide +kernel)) (by decide +kernel))⟩, (lwG_in (List.mem_of_getElem? (i := 478) (by decide +kernel)) (by decide +kernel)), (lwG_in (List.mem_of_getElem? (i := 479) (by decide +kernel)) (by decide +kernel)), TX7, 9, rfl, by decide⟩
theorem mv_X9_161 : MV RX9 161 yX9_dishOrNone cX9_dishOrNone 3 (some .int) 1 9 := ⟨⟨⟨by decide +kernel, by decide +kernel, by decide +kernel⟩, cw_X9_dishOrNone, (lwG_in (List.mem_of_getElem? (i := 71) (by decide +kernel)) (by decide +kernel)), Or.inl (lwG_in (List.mem_of_getElem? (i := 597) (by decide +kernel)) (by decide +kernel))⟩, (lwG_in (List.mem_of_getElem? (i := 599) (by decide +kernel)) (by decide +kernel)), (lwG_in (List.mem_of_getElem? (i := 10) (by decide +kernel)) (by decide +kernel)), TX9, 13, rfl, by decide⟩
theorem mv_X9_164 : MV RX9 164 yX7_wantsOf cX7_wantsOf 2 (some .int) 1 7 := ⟨⟨⟨by decide +kernel, by decide +kernel, by decide +kernel⟩, cw_X7_wantsOf, (lwG_in (List.mem_of_getElem? (i := 72) (by decide +kernel)) (by decide +kernel)), Or.inl (lwG_in (List.mem_of_getElem? (i := 601) (by decide +kernel)) (by decide +kernel))⟩, (lwG_in (List.mem_of_getElem? (i := 482) (by decide +kernel)) (by decide +kernel)), (lwG_in (List.mem_of_getElem? (i := 483) (by decide +kernel)) (by decide +kernel)), TX7, 9, rfl, by decide⟩
theorem ms_X9_167 : MS RX9 167 yX9_bitsOf cX9_bitsOf 3 (some .int) 2 := ⟨⟨⟨by decide +kernel, by decide +kernel, by decide +kernel⟩, cw_X9_bitsOf, (lwG_in (List.mem_of_getElem? (i := 71) (by decide +kernel)) (by decide +kernel)), Or.inl (lwG_in (List.mem_of_getElem? (i := 602) (by decide +kernel)) (by decide +kernel))⟩, (lwG_in (List.mem_of_getElem? (i := 603) (by decide +kernel)) (by decide +kernel))⟩
theorem mv_X9_171 : MV RX9 171 yX9_isDish cX9_isDish 2 (some .boolean) 1 9 := ⟨⟨⟨by decide +kernel, by decide +kernel, by decide +kernel⟩, cw_X9_isDish, (lwG_in (List.mem_of_getElem? (i := 71) (by decide +kernel)) (by decide +kernel)), Or.inl (lwG_in (List.mem_of_getElem? (i := 609) (by decide +kernel)) (by decide +kernel))⟩, (lwG_in (List.mem_of_getElem? (i := 611) (by decide +kernel)) (by decide +kernel)), (lwG_in (List.mem_of_getElem? (i := 11) (by decide +kernel)) (by decide +kernel)), TX9, 13, rfl, by decide⟩
theorem mv_X9_174 : MV RX9 174 yX7_worthAt cX7_worthAt 4 (some .int) 3 7 := ⟨⟨⟨by decide +kernel, by decide +kernel, by decide +kernel⟩, cw_X7_worthAt, (lwG_in (List.mem_of_getElem? (i := 72) (by decide +kernel)) (by decide +kernel)), Or.inl (lwG_in (List.mem_of_getElem? (i := 613) (by decide +kernel)) (by decide +kernel))⟩, (lwG_in (List.mem_of_getElem? (i := 614) (by decide +kernel)) (by decide +kernel)), (lwG_in (List.mem_of_getElem? (i := 615) (by decide +kernel)) (by decide +kernel)), TX7, 9, rfl, by decide⟩
theorem mv_X9_178 : MV RX9 178 yX7_stepsBetween cX7_stepsBetween 4 (some .int) 2 7 := ⟨⟨⟨by decide +kernel, by decide +kernel, by decide +kernel⟩, cw_X7_stepsBetween, (lwG_in (List.mem_of_getElem? (i := 72) (by decide +kernel)) (by decide +kernel)), Or.inl (lwG_in (List.mem_of_getElem? (i := 622) (by decide +kernel)) (by decide +kernel))⟩, (lwG_in (List.mem_of_getElem? (i := 623) (by decide +kernel)) (by decide +kernel)), (lwG_in (List.mem_of_getElem? (i := 624) (by decide +kernel)) (by decide +kernel)), TX7, 9, rfl, by decide⟩
theorem mv_X9_182 : MV RX9 182 yX7_canBeAsked cX7_canBeAsked 4 (some .boolean) 3 7 := ⟨⟨⟨by decide +kernel, by decide +kernel, by decide +kernel⟩, cw_X7_canBeAsked, (lwG_in (List.mem_of_getElem? (i := 72) (by decide +kernel)) (by decide +kernel)), Or.inl (lwG_in (List.mem_of_getElem? (i := 638) (by decide +kernel)) (by decide +kernel))⟩, (lwG_in (List.mem_of_getElem? (i := 639) (by decide +kernel)) (by decide +kernel)), (lwG_in (List.mem_of_getElem? (i := 640) (by decide +kernel)) (by decide +kernel)), TX7, 9, rfl, by decide⟩
theorem mv_X9_186 : MV RX9 186 yX2_addLast cX2_addLast 2 none 1 2 := ⟨⟨⟨by decide +kernel, by decide +kernel, by decide +kernel⟩, cw_X2_addLast, (lwG_in (List.mem_of_getElem? (i := 81) (by decide +kernel)) (by decide +kernel)), Or.inl (lwG_in (List.mem_of_getElem? (i := 643) (by decide +kernel)) (by decide +kernel))⟩, (lwG_in (List.mem_of_getElem? (i := 644) (by decide +kernel)) (by decide +kernel)), (lwG_in (List.mem_of_getElem? (i := 645) (by decide +kernel)) (by decide +kernel)), TX2, 5, rfl, by decide⟩
theorem mv_X9_190 : MV RX9 190 yX7_lieAfter cX7_lieAfter 6 (some .int) 3 7 := ⟨⟨⟨by decide +kernel, by decide +kernel, by decide +kernel⟩, cw_X7_lieAfter, (lwG_in (List.mem_of_getElem? (i := 72) (by decide +kernel)) (by decide +kernel)), Or.inl (lwG_in (List.mem_of_getElem? (i := 652) (by decide +kernel)) (by decide +kernel))⟩, (lwG_in (List.mem_of_getElem? (i := 653) (by decide +kernel)) (by decide +kernel)), (lwG_in (List.mem_of_getElem? (i := 654) (by decide +kernel)) (by decide +kernel)), TX7, 9, rfl, by decide⟩
theorem mv_X9_193 : MV RX9 193 yX2_takeLast cX2_takeLast 2 none 1 2 := ⟨⟨⟨by decide +kernel, by decide +kernel, by decide +kernel⟩, cw_X2_takeLast, (lwG_in (List.mem_of_getElem? (i := 81) (by decide +kernel)) (by decide +kernel)), Or.inl (lwG_in (List.mem_of_getElem? (i := 677) (by decide +kernel)) (by decide +kernel))⟩, (lwG_in (List.mem_of_getElem? (i := 678) (by decide +kernel)) (by decide +kernel)), (lwG_in (List.mem_of_getElem? (i := 679) (by decide +kernel)) (by decide +kernel)), TX2, 5, rfl, by decide⟩
theorem mv_X9_196 : MV RX9 196 yX7_worthTogether cX7_worthTogether 5 (some .int) 2 7 := ⟨⟨⟨by decide +kernel, by decide +kernel, by decide +kernel⟩, cw_X7_worthTogether, (lwG_in (List.mem_of_getElem? (i := 72) (by decide +kernel)) (by decide +kernel)), Or.inl (lwG_in (List.mem_of_getElem? (i := 685) (by decide +kernel)) (by decide +kernel))⟩, (lwG_in (List.mem_of_getElem? (i := 686) (by decide +kernel)) (by decide +kernel)), (lwG_in (List.mem_of_getElem? (i := 687) (by decide +kernel)) (by decide +kernel)), TX7, 9, rfl, by decide⟩
theorem mv_X9_199 : MV RX9 199 yX9_lookAhead cX9_lookAhead 1 none 0 9 := ⟨⟨⟨by decide +kernel, by decide +kernel, by decide +kernel⟩, cw_X9_lookAhead, (lwG_in (List.mem_of_getElem? (i := 71) (by decide +kernel)) (by decide +kernel)), Or.inl (lwG_in (List.mem_of_getElem? (i := 694) (by decide +kernel)) (by decide +kernel))⟩, (lwG_in (List.mem_of_getElem? (i := 696) (by decide +kernel)) (by decide +kernel)), (lwG_in (List.mem_of_getElem? (i := 18) (by decide +kernel)) (by decide +kernel)), TX9, 13, rfl, by decide⟩
theorem mv_X9_202 : MV RX9 202 yX5_stepsTo cX5_stepsTo 4 (some .int) 2 5 := ⟨⟨⟨by decide +kernel, by decide +kernel, by decide +kernel⟩, cw_X5_stepsTo, (lwG_in (List.mem_of_getElem? (i := 77) (by decide +kernel)) (by decide +kernel)), Or.inl (lwG_in (List.mem_of_getElem? (i := 713) (by decide +kernel)) (by decide +kernel))⟩, (lwG_in (List.mem_of_getElem? (i := 714) (by decide +kernel)) (by decide +kernel)), (lwG_in (List.mem_of_getElem? (i := 715) (by decide +kernel)) (by decide +kernel)), TX5, 7, rfl, by decide⟩
theorem mv_X9_205 : MV RX9 205 yX5_openingTo cX5_openingTo 4 (some .int) 2 5 := ⟨⟨⟨by decide +kernel, by decide +kernel, by decide +kernel⟩, cw_X5_openingTo, (lwG_in (List.mem_of_getElem? (i := 77) (by decide +kernel)) (by decide +kernel)), Or.inl (lwG_in (List.mem_of_getElem? (i := 752) (by decide +kernel)) (by decide +kernel))⟩, (lwG_in (List.mem_of_getElem? (i := 753) (by decide +kernel)) (by decide +kernel)), (lwG_in (List.mem_of_getElem? (i := 754) (by decide +kernel)) (by decide +kernel)), TX5, 7, rfl, by decide⟩
theorem ms_X9_208 : MS RX9 208 yX9_seatOf cX9_seatOf 3 (some .int) 2 := ⟨⟨⟨by decide +kernel, by decide +kernel, by decide +kernel⟩, cw_X9_seatOf, (lwG_in (List.mem_of_getElem? (i := 71) (by decide +kernel)) (by decide +kernel)), Or.inl (lwG_in (List.mem_of_getElem? (i := 760) (by decide +kernel)) (by decide +kernel))⟩, (lwG_in (List.mem_of_getElem? (i := 448) (by decide +kernel)) (by decide +kernel))⟩
theorem mv_X9_211 : MV RX9 211 yX0_numberOf cX0_numberOf 2 (some .int) 1 0 := ⟨⟨⟨by decide +kernel, by decide +kernel, by decide +kernel⟩, cw_X0_numberOf, (lwG_in (List.mem_of_getElem? (i := 74) (by decide +kernel)) (by decide +kernel)), Or.inl (lwG_in (List.mem_of_getElem? (i := 698) (by decide +kernel)) (by decide +kernel))⟩, (lwG_in (List.mem_of_getElem? (i := 699) (by decide +kernel)) (by decide +kernel)), (lwG_in (List.mem_of_getElem? (i := 700) (by decide +kernel)) (by decide +kernel)), TX0, 3, rfl, by decide⟩
theorem mv_X9_214 : MV RX9 214 yX6_leastPrice cX6_leastPrice 6 (some .int) 3 6 := ⟨⟨⟨by decide +kernel, by decide +kernel, by decide +kernel⟩, cw_X6_leastPrice, (lwG_in (List.mem_of_getElem? (i := 78) (by decide +kernel)) (by decide +kernel)), Or.inl (lwG_in (List.mem_of_getElem? (i := 761) (by decide +kernel)) (by decide +kernel))⟩, (lwG_in (List.mem_of_getElem? (i := 762) (by decide +kernel)) (by decide +kernel)), (lwG_in (List.mem_of_getElem? (i := 763) (by decide +kernel)) (by decide +kernel)), TX6, 4, rfl, by decide⟩
theorem mv_X9_217 : MV RX9 217 yX7_allDishes cX7_allDishes 1 (some .int) 0 7 := ⟨⟨⟨by decide +kernel, by decide +kernel, by decide +kernel⟩, cw_X7_allDishes, (lwG_in (List.mem_of_getElem? (i := 72) (by decide +kernel)) (by decide +kernel)), Or.inl (lwG_in (List.mem_of_getElem? (i := 782) (by decide +kernel)) (by decide +kernel))⟩, (lwG_in (List.mem_of_getElem? (i := 454) (by decide +kernel)) (by decide +kernel)), (lwG_in (List.mem_of_getElem? (i := 455) (by decide +kernel)) (by decide +kernel)), TX7, 9, rfl, by decide⟩
theorem ms_X9_220 : MS RX9 220 yX9_shifted cX9_shifted 2 (some .long) 2 := ⟨⟨⟨by decide +kernel, by decide +kernel, by decide +kernel⟩, cw_X9_shifted, (lwG_in (List.mem_of_getElem? (i := 71) (by decide +kernel)) (by decide +kernel)), Or.inl (lwG_in (List.mem_of_getElem? (i := 530) (by decide +kernel)) (by decide +kernel))⟩, (lwG_in (List.mem_of_getElem? (i := 531) (by decide +kernel)) (by decide +kernel))⟩
theorem mv_X9_224 : MV RX9 224 yX5_pairsReached cX5_pairsReached 7 (some .long) 1 5 := ⟨⟨⟨by decide +kernel, by decide +kernel, by decide +kernel⟩, cw_X5_pairsReached, (lwG_in (List.mem_of_getElem? (i := 77) (by decide +kernel)) (by decide +kernel)), Or.inl (lwG_in (List.mem_of_getElem? (i := 783) (by decide +kernel)) (by decide +kernel))⟩, (lwG_in (List.mem_of_getElem? (i := 784) (by decide +kernel)) (by decide +kernel)), (lwG_in (List.mem_of_getElem? (i := 785) (by decide +kernel)) (by decide +kernel)), TX5, 7, rfl, by decide⟩
theorem mv_X9_230 : MV RX9 230 yX3_changeAnything cX3_changeAnything 7 (some .boolean) 1 3 := ⟨⟨⟨by decide +kernel, by decide +kernel, by decide +kernel⟩, cw_X3_changeAnything, (lwG_in (List.mem_of_getElem? (i := 75) (by decide +kernel)) (by decide +kernel)), Or.inl (lwG_in (List.mem_of_getElem? (i := 793) (by decide +kernel)) (by decide +kernel))⟩, (lwG_in (List.mem_of_getElem? (i := 794) (by decide +kernel)) (by decide +kernel)), (lwG_in (List.mem_of_getElem? (i := 795) (by decide +kernel)) (by decide +kernel)), TX3, 3, rfl, by decide⟩
theorem mv_X9_234 : MV RX9 234 yX5_stepsToRest cX5_stepsToRest 4 (some .int) 1 5 := ⟨⟨⟨by decide +kernel, by decide +kernel, by decide +kernel⟩, cw_X5_stepsToRest, (lwG_in (List.mem_of_getElem? (i := 77) (by decide +kernel)) (by decide +kernel)), Or.inl (lwG_in (List.mem_of_getElem? (i := 804) (by decide +kernel)) (by decide +kernel))⟩, (lwG_in (List.mem_of_getElem? (i := 805) (by decide +kernel)) (by decide +kernel)), (lwG_in (List.mem_of_getElem? (i := 806) (by decide +kernel)) (by decide +kernel)), TX5, 7, rfl, by decide⟩
theorem mv_X9_237 : MV RX9 237 yX8_findHolder cX8_findHolder 5 none 0 8 := ⟨⟨⟨by decide +kernel, by decide +kernel, by decide +kernel⟩, cw_X8_findHolder, (lwG_in (List.mem_of_getElem? (i := 79) (by decide +kernel)) (by decide +kernel)), Or.inl (lwG_in (List.mem_of_getElem? (i := 816) (by decide +kernel)) (by decide +kernel))⟩, (lwG_in (List.mem_of_getElem? (i := 817) (by decide +kernel)) (by decide +kernel)), (lwG_in (List.mem_of_getElem? (i := 818) (by decide +kernel)) (by decide +kernel)), TX8, 9, rfl, by decide⟩
theorem mv_X9_246 : MV RX9 246 yX7_bothWouldLike cX7_bothWouldLike 6 (some .boolean) 3 7 := ⟨⟨⟨by decide +kernel, by decide +kernel, by decide +kernel⟩, cw_X7_bothWouldLike, (lwG_in (List.mem_of_getElem? (i := 72) (by decide +kernel)) (by decide +kernel)), Or.inl (lwG_in (List.mem_of_getElem? (i := 852) (by decide +kernel)) (by decide +kernel))⟩, (lwG_in (List.mem_of_getElem? (i := 853) (by decide +kernel)) (by decide +kernel)), (lwG_in (List.mem_of_getElem? (i := 854) (by decide +kernel)) (by decide +kernel)), TX7, 9, rfl, by decide⟩
theorem mv_X9_250 : MV RX9 250 yX0_lieOf cX0_lieOf 2 (some .int) 1 0 := ⟨⟨⟨by decide +kernel, by decide +kernel, by decide +kernel⟩, cw_X0_lieOf, (lwG_in (List.mem_of_getElem? (i := 74) (by decide +kernel)) (by decide +kernel)), Or.inl (lwG_in (List.mem_of_getElem? (i := 860) (by decide +kernel)) (by decide +kernel))⟩, (lwG_in (List.mem_of_getElem? (i := 737) (by decide +kernel)) (by decide +kernel)), (lwG_in (List.mem_of_getElem? (i := 738) (by decide +kernel)) (by decide +kernel)), TX0, 3, rfl, by decide⟩
theorem mm_X9_253 : MM RX9 253 Lib.Math.max.name Lib.Math.max.code 2 := ⟨(lwG_in (List.mem_of_getElem? (i := 861) (by decide +kernel)) (by decide +kernel)), (lwG_in (List.mem_of_getElem? (i := 196) (by decide +kernel)) (by decide +kernel)), (lwG_in (List.mem_of_getElem? (i := 76) (by decide +kernel)) (by decide +kernel)), (lwG_in (List.mem_of_getElem? (i := 197) (by decide +kernel)) (by decide +kernel))⟩
theorem mv_X9_258 : MV RX9 258 yX8_bestSeats cX8_bestSeats 5 (some .int) 0 8 := ⟨⟨⟨by decide +kernel, by decide +kernel, by decide +kernel⟩, cw_X8_bestSeats, (lwG_in (List.mem_of_getElem? (i := 79) (by decide +kernel)) (by decide +kernel)), Or.inl (lwG_in (List.mem_of_getElem? (i := 866) (by decide +kernel)) (by decide +kernel))⟩, (lwG_in (List.mem_of_getElem? (i := 867) (by decide +kernel)) (by decide +kernel)), (lwG_in (List.mem_of_getElem? (i := 868) (by decide +kernel)) (by decide +kernel)), TX8, 9, rfl, by decide⟩
theorem mv_X9_261 : MV RX9 261 yX6_rowsBetween cX6_rowsBetween 6 (some .long) 3 6 := ⟨⟨⟨by decide +kernel, by decide +kernel, by decide +kernel⟩, cw_X6_rowsBetween, (lwG_in (List.mem_of_getElem? (i := 78) (by decide +kernel)) (by decide +kernel)), Or.inl (lwG_in (List.mem_of_getElem? (i := 887) (by decide +kernel)) (by decide +kernel))⟩, (lwG_in (List.mem_of_getElem? (i := 888) (by decide +kernel)) (by decide +kernel)), (lwG_in (List.mem_of_getElem? (i := 889) (by decide +kernel)) (by decide +kernel)), TX6, 4, rfl, by decide⟩
theorem ms_X9_265 : MS RX9 265 yX9_drawOf cX9_drawOf 4 (some .int) 2 := ⟨⟨⟨by decide +kernel, by decide +kernel, by decide +kernel⟩, cw_X9_drawOf, (lwG_in (List.mem_of_getElem? (i := 71) (by decide +kernel)) (by decide +kernel)), Or.inl (lwG_in (List.mem_of_getElem? (i := 900) (by decide +kernel)) (by decide +kernel))⟩, (lwG_in (List.mem_of_getElem? (i := 901) (by decide +kernel)) (by decide +kernel))⟩
theorem mv_X9_268 : MV RX9 268 yX7_guestBy cX7_guestBy 2 (some .int) 1 7 := ⟨⟨⟨by decide +kernel, by decide +kernel, by decide +kernel⟩, cw_X7_guestBy, (lwG_in (List.mem_of_getElem? (i := 72) (by decide +kernel)) (by decide +kernel)), Or.inl (lwG_in (List.mem_of_getElem? (i := 906) (by decide +kernel)) (by decide +kernel))⟩, (lwG_in (List.mem_of_getElem? (i := 907) (by decide +kernel)) (by decide +kernel)), (lwG_in (List.mem_of_getElem? (i := 908) (by decide +kernel)) (by decide +kernel)), TX7, 9, rfl, by decide⟩
theorem mv_X9_277 : MV RX9 277 yX5_startFrom cX5_startFrom 2 none 1 5 := ⟨⟨⟨by decide +kernel, by decide +kernel, by decide +kernel⟩, cw_X5_startFrom, (lwG_in (List.mem_of_getElem? (i := 77) (by decide +kernel)) (by decide +kernel)), Or.inl (lwG_in (List.mem_of_getElem? (i := 702) (by decide +kernel)) (by decide +kernel))⟩, (lwG_in (List.mem_of_getElem? (i := 703) (by decide +kernel)) (by decide +kernel)), (lwG_in (List.mem_of_getElem? (i := 704) (by decide +kernel)) (by decide +kernel)), TX5, 7, rfl, by decide⟩
theorem ms_X9_280 : MS RX9 280 yX9_before cX9_before 2 (some .int) 2 := ⟨⟨⟨by decide +kernel, by decide +kernel, by decide +kernel⟩, cw_X9_before, (lwG_in (List.mem_of_getElem? (i := 71) (by decide +kernel)) (by decide +kernel)), Or.inl (lwG_in (List.mem_of_getElem? (i := 450) (by decide +kernel)) (by decide +kernel))⟩, (lwG_in (List.mem_of_getElem? (i := 451) (by decide +kernel)) (by decide +kernel))⟩
theorem ms_X0_22 : MS RX0 22 yJ7_fill_53178 cJ7_fill_53178 4 none 2 := ⟨⟨⟨by decide +kernel, by decide +kernel, by decide +kernel⟩, cw_J7_fill_53178, (lwG_in (List.mem_of_getElem? (i := 86) (by decide +kernel)) (by decide +kernel)), Or.inl (lwG_in (List.mem_of_getElem? (i := 494) (by decide +kernel)) (by decide +kernel))⟩, (lwG_in (List.mem_of_getElem? (i := 495) (by decide +kernel)) (by decide +kernel))⟩
theorem mv_X0_28 : MV RX0 28 yX0_add cX0_add 3 none 1 0 := ⟨⟨⟨by decide +kernel, by decide +kernel, by decide +kernel⟩, cw_X0_add, (lwG_in (List.mem_of_getElem? (i := 74) (by decide +kernel)) (by decide +kernel)), Or.inl (lwG_in (List.mem_of_getElem? (i := 497) (by decide +kernel)) (by decide +kernel))⟩, (lwG_in (List.mem_of_getElem? (i := 499) (by decide +kernel)) (by decide +kernel)), (lwG_in (List.mem_of_getElem? (i := 7) (by decide +kernel)) (by decide +kernel)), TX0, 3, rfl, by decide⟩
theorem ms_X0_32 : MS RX0 32 yX9_at cX9_at 2 (some .int) 2 := ⟨⟨⟨by decide +kernel, by decide +kernel, by decide +kernel⟩, cw_X9_at, (lwG_in (List.mem_of_getElem? (i := 71) (by decide +kernel)) (by decide +kernel)), Or.inr ⟨"PassTheSalt", (lwN_in (List.mem_of_getElem? (i := 506) (by decide +kernel)) (by decide +kernel))⟩⟩, (lwG_in (List.mem_of_getElem? (i := 421) (by decide +kernel)) (by decide +kernel))⟩
theorem ms_X0_36 : MS RX0 36 yX9_changed cX9_changed 4 (some .int) 3 := ⟨⟨⟨by decide +kernel, by decide +kernel, by decide +kernel⟩, cw_X9_changed, (lwG_in (List.mem_of_getElem? (i := 71) (by decide +kernel)) (by decide +kernel)), Or.inr ⟨"PassTheSalt", (lwN_in (List.mem_of_getElem? (i := 508) (by decide +kernel)) (by decide +kernel))⟩⟩, (lwG_in (List.mem_of_getElem? (i := 509) (by decide +kernel)) (by decide +kernel))⟩
theorem mv_X0_40 : MV RX0 40 yX0_slotOf cX0_slotOf 5 (some .int) 1 0 := ⟨⟨⟨by decide +kernel, by decide +kernel, by decide +kernel⟩, cw_X0_slotOf, (lwG_in (List.mem_of_getElem? (i := 74) (by decide +kernel)) (by decide +kernel)), Or.inl (lwG_in (List.mem_of_getElem? (i := 501) (by decide +kernel)) (by decide +kernel))⟩, (lwG_in (List.mem_of_getElem? (i := 503) (by decide +kernel)) (by decide +kernel)), (lwG_in (List.mem_of_getElem? (i := 8) (by decide +kernel)) (by decide +kernel)), TX0, 3, rfl, by decide⟩
theorem ms_X0_44 : MS RX0 44 yX9_put cX9_put 3 none 3 := ⟨⟨⟨by decide +kernel, by decide +kernel, by decide +kernel⟩, cw_X9_put, (lwG_in (List.mem_of_getElem? (i := 71) (by decide +kernel)) (by decide +kernel)), Or.inr ⟨"PassTheSalt", (lwN_in (List.mem_of_getElem? (i := 507) (by decide +kernel)) (by decide +kernel))⟩⟩, (lwG_in (List.mem_of_getElem? (i := 436) (by decide +kernel)) (by decide +kernel))⟩
theorem mm_X2_22 : MM RX2 22 Lib.Math.min.name Lib.Math.min.code 2 := ⟨(lwG_in (List.mem_of_getElem? (i := 330) (by decide +kernel)) (by decide +kernel)), (lwG_in (List.mem_of_getElem? (i := 331) (by decide +kernel)) (by decide +kernel)), (lwG_in (List.mem_of_getElem? (i := 76) (by decide +kernel)) (by decide +kernel)), (lwG_in (List.mem_of_getElem? (i := 332) (by decide +kernel)) (by decide +kernel))⟩
theorem mv_X2_35 : MV RX2 35 yX2_dropOldest cX2_dropOldest 2 none 0 2 := ⟨⟨⟨by decide +kernel, by decide +kernel, by decide +kernel⟩, cw_X2_dropOldest, (lwG_in (List.mem_of_getElem? (i := 81) (by decide +kernel)) (by decide +kernel)), Or.inl (lwG_in (List.mem_of_getElem? (i := 647) (by decide +kernel)) (by decide +kernel))⟩, (lwG_in (List.mem_of_getElem? (i := 649) (by decide +kernel)) (by decide +kernel)), (lwG_in (List.mem_of_getElem? (i := 13) (by decide +kernel)) (by decide +kernel)), TX2, 5, rfl, by decide⟩
theorem mm_X2_50 : MM RX2 50 Lib.Math.max.name Lib.Math.max.code 2 := ⟨(lwG_in (List.mem_of_getElem? (i := 651) (by decide +kernel)) (by decide +kernel)), (lwG_in (List.mem_of_getElem? (i := 196) (by decide +kernel)) (by decide +kernel)), (lwG_in (List.mem_of_getElem? (i := 76) (by decide +kernel)) (by decide +kernel)), (lwG_in (List.mem_of_getElem? (i := 197) (by decide +kernel)) (by decide +kernel))⟩
theorem mm_X3_19 : MM RX3 19 Lib.Math.max.name Lib.Math.max.code 2 := ⟨(lwG_in (List.mem_of_getElem? (i := 195) (by decide +kernel)) (by decide +kernel)), (lwG_in (List.mem_of_getElem? (i := 196) (by decide +kernel)) (by decide +kernel)), (lwG_in (List.mem_of_getElem? (i := 76) (by decide +kernel)) (by decide +kernel)), (lwG_in (List.mem_of_getElem? (i := 197) (by decide +kernel)) (by decide +kernel))⟩
theorem ms_X3_31 : MS RX3 31 yJ7_fill_d0a16 cJ7_fill_d0a16 5 none 2 := ⟨⟨⟨by decide +kernel, by decide +kernel, by decide +kernel⟩, cw_J7_fill_d0a16, (lwG_in (List.mem_of_getElem? (i := 86) (by decide +kernel)) (by decide +kernel)), Or.inl (lwG_in (List.mem_of_getElem? (i := 516) (by decide +kernel)) (by decide +kernel))⟩, (lwG_in (List.mem_of_getElem? (i := 517) (by decide +kernel)) (by decide +kernel))⟩
theorem mv_X3_37 : MV RX3 37 yX0_lieOf cX0_lieOf 2 (some .int) 1 0 := ⟨⟨⟨by decide +kernel, by decide +kernel, by decide +kernel⟩, cw_X0_lieOf, (lwG_in (List.mem_of_getElem? (i := 74) (by decide +kernel)) (by decide +kernel)), Or.inl (lwG_in (List.mem_of_getElem? (i := 736) (by decide +kernel)) (by decide +kernel))⟩, (lwG_in (List.mem_of_getElem? (i := 737) (by decide +kernel)) (by decide +kernel)), (lwG_in (List.mem_of_getElem? (i := 738) (by decide +kernel)) (by decide +kernel)), TX0, 3, rfl, by decide⟩
theorem mv_X3_43 : MV RX3 43 yX7_canBeAsked cX7_canBeAsked 4 (some .boolean) 3 7 := ⟨⟨⟨by decide +kernel, by decide +kernel, by decide +kernel⟩, cw_X7_canBeAsked, (lwG_in (List.mem_of_getElem? (i := 72) (by decide +kernel)) (by decide +kernel)), Or.inl (lwG_in (List.mem_of_getElem? (i := 740) (by decide +kernel)) (by decide +kernel))⟩, (lwG_in (List.mem_of_getElem? (i := 639) (by decide +kernel)) (by decide +kernel)), (lwG_in (List.mem_of_getElem? (i := 640) (by decide +kernel)) (by decide +kernel)), TX7, 9, rfl, by decide⟩
theorem mv_X3_49 : MV RX3 49 yX7_lieAfter cX7_lieAfter 6 (some .int) 3 7 := ⟨⟨⟨by decide +kernel, by decide +kernel, by decide +kernel⟩, cw_X7_lieAfter, (lwG_in (List.mem_of_getElem? (i := 72) (by decide +kernel)) (by decide +kernel)), Or.inl (lwG_in (List.mem_of_getElem? (i := 741) (by decide +kernel)) (by decide +kernel))⟩, (lwG_in (List.mem_of_getElem? (i := 653) (by decide +kernel)) (by decide +kernel)), (lwG_in (List.mem_of_getElem? (i := 654) (by decide +kernel)) (by decide +kernel)), TX7, 9, rfl, by decide⟩
theorem mv_X3_53 : MV RX3 53 yX0_numberOf cX0_numberOf 2 (some .int) 1 0 := ⟨⟨⟨by decide +kernel, by decide +kernel, by decide +kernel⟩, cw_X0_numberOf, (lwG_in (List.mem_of_getElem? (i := 74) (by decide +kernel)) (by decide +kernel)), Or.inl (lwG_in (List.mem_of_getElem? (i := 742) (by decide +kernel)) (by decide +kernel))⟩, (lwG_in (List.mem_of_getElem? (i := 699) (by decide +kernel)) (by decide +kernel)), (lwG_in (List.mem_of_getElem? (i := 700) (by decide +kernel)) (by decide +kernel)), TX0, 3, rfl, by decide⟩
theorem mv_X3_60 : MV RX3 60 yX3_rowOf cX3_rowOf 11 (some .long) 2 3 := ⟨⟨⟨by decide +kernel, by decide +kernel, by decide +kernel⟩, cw_X3_rowOf, (lwG_in (List.mem_of_getElem? (i := 75) (by decide +kernel)) (by decide +kernel)), Or.inl (lwG_in (List.mem_of_getElem? (i := 797) (by decide +kernel)) (by decide +kernel))⟩, (lwG_in (List.mem_of_getElem? (i := 733) (by decide +kernel)) (by decide +kernel)), (lwG_in (List.mem_of_getElem? (i := 734) (by decide +kernel)) (by decide +kernel)), TX3, 3, rfl, by decide⟩
theorem ms_X3_64 : MS RX3 64 yX3_target cX3_target 3 (some .int) 2 := ⟨⟨⟨by decide +kernel, by decide +kernel, by decide +kernel⟩, cw_X3_target, (lwG_in (List.mem_of_getElem? (i := 75) (by decide +kernel)) (by decide +kernel)), Or.inl (lwG_in (List.mem_of_getElem? (i := 798) (by decide +kernel)) (by decide +kernel))⟩, (lwG_in (List.mem_of_getElem? (i := 744) (by decide +kernel)) (by decide +kernel))⟩
theorem mv_X4_22 : MV RX4 22 yX7_clear cX7_clear 1 none 0 7 := ⟨⟨⟨by decide +kernel, by decide +kernel, by decide +kernel⟩, cw_X7_clear, (lwG_in (List.mem_of_getElem? (i := 72) (by decide +kernel)) (by decide +kernel)), Or.inl (lwG_in (List.mem_of_getElem? (i := 407) (by decide +kernel)) (by decide +kernel))⟩, (lwG_in (List.mem_of_getElem? (i := 408) (by decide +kernel)) (by decide +kernel)), (lwG_in (List.mem_of_getElem? (i := 409) (by decide +kernel)) (by decide +kernel)), TX7, 9, rfl, by decide⟩
theorem mv_X4_34 : MV RX4 34 yX4_readItem cX4_readItem 4 (some .boolean) 0 4 := ⟨⟨⟨by decide +kernel, by decide +kernel, by decide +kernel⟩, cw_X4_readItem, (lwG_in (List.mem_of_getElem? (i := 73) (by decide +kernel)) (by decide +kernel)), Or.inl (lwG_in (List.mem_of_getElem? (i := 412) (by decide +kernel)) (by decide +kernel))⟩, (lwG_in (List.mem_of_getElem? (i := 414) (by decide +kernel)) (by decide +kernel)), (lwG_in (List.mem_of_getElem? (i := 0) (by decide +kernel)) (by decide +kernel)), TX4, 5, rfl, by decide⟩
theorem mv_X4_38 : MV RX4 38 yX4_nextByte cX4_nextByte 2 (some .int) 0 4 := ⟨⟨⟨by decide +kernel, by decide +kernel, by decide +kernel⟩, cw_X4_nextByte, (lwG_in (List.mem_of_getElem? (i := 73) (by decide +kernel)) (by decide +kernel)), Or.inl (lwG_in (List.mem_of_getElem? (i := 416) (by decide +kernel)) (by decide +kernel))⟩, (lwG_in (List.mem_of_getElem? (i := 418) (by decide +kernel)) (by decide +kernel)), (lwG_in (List.mem_of_getElem? (i := 1) (by decide +kernel)) (by decide +kernel)), TX4, 5, rfl, by decide⟩
theorem mv_X4_42 : MV RX4 42 yX4_readWorths cX4_readWorths 3 (some .boolean) 0 4 := ⟨⟨⟨by decide +kernel, by decide +kernel, by decide +kernel⟩, cw_X4_readWorths, (lwG_in (List.mem_of_getElem? (i := 73) (by decide +kernel)) (by decide +kernel)), Or.inl (lwG_in (List.mem_of_getElem? (i := 423) (by decide +kernel)) (by decide +kernel))⟩, (lwG_in (List.mem_of_getElem? (i := 425) (by decide +kernel)) (by decide +kernel)), (lwG_in (List.mem_of_getElem? (i := 2) (by decide +kernel)) (by decide +kernel)), TX4, 5, rfl, by decide⟩
theorem mv_X4_45 : MV RX4 45 yX4_readNumber cX4_readNumber 4 (some .boolean) 1 4 := ⟨⟨⟨by decide +kernel, by decide +kernel, by decide +kernel⟩, cw_X4_readNumber, (lwG_in (List.mem_of_getElem? (i := 73) (by decide +kernel)) (by decide +kernel)), Or.inl (lwG_in (List.mem_of_getElem? (i := 438) (by decide +kernel)) (by decide +kernel))⟩, (lwG_in (List.mem_of_getElem? (i := 440) (by decide +kernel)) (by decide +kernel)), (lwG_in (List.mem_of_getElem? (i := 4) (by decide +kernel)) (by decide +kernel)), TX4, 5, rfl, by decide⟩
theorem ms_X4_49 : MS RX4 49 yX9_at cX9_at 2 (some .int) 2 := ⟨⟨⟨by decide +kernel, by decide +kernel, by decide +kernel⟩, cw_X9_at, (lwG_in (List.mem_of_getElem? (i := 71) (by decide +kernel)) (by decide +kernel)), Or.inr ⟨"PassTheSalt", (lwN_in (List.mem_of_getElem? (i := 420) (by decide +kernel)) (by decide +kernel))⟩⟩, (lwG_in (List.mem_of_getElem? (i := 421) (by decide +kernel)) (by decide +kernel))⟩
theorem mv_X4_53 : MV RX4 53 yX4_takeGuest cX4_takeGuest 6 (some .boolean) 3 4 := ⟨⟨⟨by decide +kernel, by decide +kernel, by decide +kernel⟩, cw_X4_takeGuest, (lwG_in (List.mem_of_getElem? (i := 73) (by decide +kernel)) (by decide +kernel)), Or.inl (lwG_in (List.mem_of_getElem? (i := 443) (by decide +kernel)) (by decide +kernel))⟩, (lwG_in (List.mem_of_getElem? (i := 445) (by decide +kernel)) (by decide +kernel)), (lwG_in (List.mem_of_getElem? (i := 5) (by decide +kernel)) (by decide +kernel)), TX4, 5, rfl, by decide⟩
theorem mv_X4_57 : MV RX4 57 yX4_takeNumber cX4_takeNumber 3 (some .boolean) 2 4 := ⟨⟨⟨by decide +kernel, by decide +kernel, by decide +kernel⟩, cw_X4_takeNumber, (lwG_in (List.mem_of_getElem? (i := 73) (by decide +kernel)) (by decide +kernel)), Or.inl (lwG_in (List.mem_of_getElem? (i := 465) (by decide +kernel)) (by decide +kernel))⟩, (lwG_in (List.mem_of_getElem? (i := 467) (by decide +kernel)) (by decide +kernel)), (lwG_in (List.mem_of_getElem? (i := 6) (by decide +kernel)) (by decide +kernel)), TX4, 5, rfl, by decide⟩
theorem ms_X4_79 : MS RX4 79 yX9_seatOf cX9_seatOf 3 (some .int) 2 := ⟨⟨⟨by decide +kernel, by decide +kernel, by decide +kernel⟩, cw_X9_seatOf, (lwG_in (List.mem_of_getElem? (i := 71) (by decide +kernel)) (by decide +kernel)), Or.inr ⟨"PassTheSalt", (lwN_in (List.mem_of_getElem? (i := 447) (by decide +kernel)) (by decide +kernel))⟩⟩, (lwG_in (List.mem_of_getElem? (i := 448) (by decide +kernel)) (by decide +kernel))⟩
theorem mv_X4_83 : MV RX4 83 yX7_allDishes cX7_allDishes 1 (some .int) 0 7 := ⟨⟨⟨by decide +kernel, by decide +kernel, by decide +kernel⟩, cw_X7_allDishes, (lwG_in (List.mem_of_getElem? (i := 72) (by decide +kernel)) (by decide +kernel)), Or.inl (lwG_in (List.mem_of_getElem? (i := 453) (by decide +kernel)) (by decide +kernel))⟩, (lwG_in (List.mem_of_getElem? (i := 454) (by decide +kernel)) (by decide +kernel)), (lwG_in (List.mem_of_getElem? (i := 455) (by decide +kernel)) (by decide +kernel)), TX7, 9, rfl, by decide⟩
theorem mv_X4_86 : MV RX4 86 yX7_addGuest cX7_addGuest 5 none 3 7 := ⟨⟨⟨by decide +kernel, by decide +kernel, by decide +kernel⟩, cw_X7_addGuest, (lwG_in (List.mem_of_getElem? (i := 72) (by decide +kernel)) (by decide +kernel)), Or.inl (lwG_in (List.mem_of_getElem? (i := 457) (by decide +kernel)) (by decide +kernel))⟩, (lwG_in (List.mem_of_getElem? (i := 458) (by decide +kernel)) (by decide +kernel)), (lwG_in (List.mem_of_getElem? (i := 459) (by decide +kernel)) (by decide +kernel)), TX7, 9, rfl, by decide⟩
theorem mv_X4_90 : MV RX4 90 yX4_nextFigure cX4_nextFigure 2 (some .int) 0 4 := ⟨⟨⟨by decide +kernel, by decide +kernel, by decide +kernel⟩, cw_X4_nextFigure, (lwG_in (List.mem_of_getElem? (i := 73) (by decide +kernel)) (by decide +kernel)), Or.inl (lwG_in (List.mem_of_getElem? (i := 427) (by decide +kernel)) (by decide +kernel))⟩, (lwG_in (List.mem_of_getElem? (i := 429) (by decide +kernel)) (by decide +kernel)), (lwG_in (List.mem_of_getElem? (i := 3) (by decide +kernel)) (by decide +kernel)), TX4, 5, rfl, by decide⟩
theorem mv_X4_93 : MV RX4 93 yX7_setWorth cX7_setWorth 4 none 3 7 := ⟨⟨⟨by decide +kernel, by decide +kernel, by decide +kernel⟩, cw_X7_setWorth, (lwG_in (List.mem_of_getElem? (i := 72) (by decide +kernel)) (by decide +kernel)), Or.inl (lwG_in (List.mem_of_getElem? (i := 431) (by decide +kernel)) (by decide +kernel))⟩, (lwG_in (List.mem_of_getElem? (i := 432) (by decide +kernel)) (by decide +kernel)), (lwG_in (List.mem_of_getElem? (i := 433) (by decide +kernel)) (by decide +kernel)), TX7, 9, rfl, by decide⟩
theorem ms_X4_96 : MS RX4 96 yX9_put cX9_put 3 none 3 := ⟨⟨⟨by decide +kernel, by decide +kernel, by decide +kernel⟩, cw_X9_put, (lwG_in (List.mem_of_getElem? (i := 71) (by decide +kernel)) (by decide +kernel)), Or.inr ⟨"PassTheSalt", (lwN_in (List.mem_of_getElem? (i := 442) (by decide +kernel)) (by decide +kernel))⟩⟩, (lwG_in (List.mem_of_getElem? (i := 436) (by decide +kernel)) (by decide +kernel))⟩
theorem mv_X5_35 : MV RX5 35 yX5_forget cX5_forget 1 none 0 5 := ⟨⟨⟨by decide +kernel, by decide +kernel, by decide +kernel⟩, cw_X5_forget, (lwG_in (List.mem_of_getElem? (i := 77) (by decide +kernel)) (by decide +kernel)), Or.inl (lwG_in (List.mem_of_getElem? (i := 706) (by decide +kernel)) (by decide +kernel))⟩, (lwG_in (List.mem_of_getElem? (i := 520) (by decide +kernel)) (by decide +kernel)), (lwG_in (List.mem_of_getElem? (i := 521) (by decide +kernel)) (by decide +kernel)), TX5, 7, rfl, by decide⟩
theorem ms_X5_38 : MS RX5 38 yJ7_fill_53178 cJ7_fill_53178 4 none 2 := ⟨⟨⟨by decide +kernel, by decide +kernel, by decide +kernel⟩, cw_J7_fill_53178, (lwG_in (List.mem_of_getElem? (i := 86) (by decide +kernel)) (by decide +kernel)), Or.inl (lwG_in (List.mem_of_getElem? (i := 707) (by decide +kernel)) (by decide +kernel))⟩, (lwG_in (List.mem_of_getElem? (i := 495) (by decide +kernel)) (by decide +kernel))⟩
theorem mv_X5_44 : MV RX5 44 yX5_reach cX5_reach 4 none 3 5 := ⟨⟨⟨by decide +kernel, by decide +kernel, by decide +kernel⟩, cw_X5_reach, (lwG_in (List.mem_of_getElem? (i := 77) (by decide +kernel)) (by decide +kernel)), Or.inl (lwG_in (List.mem_of_getElem? (i := 708) (by decide +kernel)) (by decide +kernel))⟩, (lwG_in (List.mem_of_getElem? (i := 710) (by decide +kernel)) (by decide +kernel)), (lwG_in (List.mem_of_getElem? (i := 19) (by decide +kernel)) (by decide +kernel)), TX5, 7, rfl, by decide⟩
theorem mv_X5_59 : MV RX5 59 yX5_stepsAs cX5_stepsAs 2 (some .int) 1 5 := ⟨⟨⟨by decide +kernel, by decide +kernel, by decide +kernel⟩, cw_X5_stepsAs, (lwG_in (List.mem_of_getElem? (i := 77) (by decide +kernel)) (by decide +kernel)), Or.inl (lwG_in (List.mem_of_getElem? (i := 727) (by decide +kernel)) (by decide +kernel))⟩, (lwG_in (List.mem_of_getElem? (i := 729) (by decide +kernel)) (by decide +kernel)), (lwG_in (List.mem_of_getElem? (i := 22) (by decide +kernel)) (by decide +kernel)), TX5, 7, rfl, by decide⟩
theorem ms_X5_63 : MS RX5 63 yX9_at cX9_at 2 (some .int) 2 := ⟨⟨⟨by decide +kernel, by decide +kernel, by decide +kernel⟩, cw_X9_at, (lwG_in (List.mem_of_getElem? (i := 71) (by decide +kernel)) (by decide +kernel)), Or.inr ⟨"PassTheSalt", (lwN_in (List.mem_of_getElem? (i := 731) (by decide +kernel)) (by decide +kernel))⟩⟩, (lwG_in (List.mem_of_getElem? (i := 421) (by decide +kernel)) (by decide +kernel))⟩
theorem mv_X5_67 : MV RX5 67 yX3_rowOf cX3_rowOf 11 (some .long) 2 3 := ⟨⟨⟨by decide +kernel, by decide +kernel, by decide +kernel⟩, cw_X3_rowOf, (lwG_in (List.mem_of_getElem? (i := 75) (by decide +kernel)) (by decide +kernel)), Or.inl (lwG_in (List.mem_of_getElem? (i := 732) (by decide +kernel)) (by decide +kernel))⟩, (lwG_in (List.mem_of_getElem? (i := 733) (by decide +kernel)) (by decide +kernel)), (lwG_in (List.mem_of_getElem? (i := 734) (by decide +kernel)) (by decide +kernel)), TX3, 3, rfl, by decide⟩
theorem ms_X5_71 : MS RX5 71 yX3_target cX3_target 3 (some .int) 2 := ⟨⟨⟨by decide +kernel, by decide +kernel, by decide +kernel⟩, cw_X3_target, (lwG_in (List.mem_of_getElem? (i := 75) (by decide +kernel)) (by decide +kernel)), Or.inl (lwG_in (List.mem_of_getElem? (i := 743) (by decide +kernel)) (by decide +kernel))⟩, (lwG_in (List.mem_of_getElem? (i := 744) (by decide +kernel)) (by decide +kernel))⟩
theorem ms_X5_75 : MS RX5 75 yX9_put cX9_put 3 none 3 := ⟨⟨⟨by decide +kernel, by decide +kernel, by decide +kernel⟩, cw_X9_put, (lwG_in (List.mem_of_getElem? (i := 71) (by decide +kernel)) (by decide +kernel)), Or.inr ⟨"PassTheSalt", (lwN_in (List.mem_of_getElem? (i := 712) (by decide +kernel)) (by decide +kernel))⟩⟩, (lwG_in (List.mem_of_getElem? (i := 436) (by decide +kernel)) (by decide +kernel))⟩
theorem mv_X5_79 : MV RX5 79 yX5_firstWith cX5_firstWith 5 (some .int) 2 5 := ⟨⟨⟨by decide +kernel, by decide +kernel, by decide +kernel⟩, cw_X5_firstWith, (lwG_in (List.mem_of_getElem? (i := 77) (by decide +kernel)) (by decide +kernel)), Or.inl (lwG_in (List.mem_of_getElem? (i := 717) (by decide +kernel)) (by decide +kernel))⟩, (lwG_in (List.mem_of_getElem? (i := 719) (by decide +kernel)) (by decide +kernel)), (lwG_in (List.mem_of_getElem? (i := 20) (by decide +kernel)) (by decide +kernel)), TX5, 7, rfl, by decide⟩
theorem ms_X5_86 : MS RX5 86 yX9_seatOf cX9_seatOf 3 (some .int) 2 := ⟨⟨⟨by decide +kernel, by decide +kernel, by decide +kernel⟩, cw_X9_seatOf, (lwG_in (List.mem_of_getElem? (i := 71) (by decide +kernel)) (by decide +kernel)), Or.inr ⟨"PassTheSalt", (lwN_in (List.mem_of_getElem? (i := 721) (by decide +kernel)) (by decide +kernel))⟩⟩, (lwG_in (List.mem_of_getElem? (i := 448) (by decide +kernel)) (by decide +kernel))⟩
theorem mv_X5_90 : MV RX5 90 yX5_reachedAs cX5_reachedAs 11 (some .int) 2 5 := ⟨⟨⟨by decide +kernel, by decide +kernel, by decide +kernel⟩, cw_X5_reachedAs, (lwG_in (List.mem_of_getElem? (i := 77) (by decide +kernel)) (by decide +kernel)), Or.inl (lwG_in (List.mem_of_getElem? (i := 723) (by decide +kernel)) (by decide +kernel))⟩, (lwG_in (List.mem_of_getElem? (i := 725) (by decide +kernel)) (by decide +kernel)), (lwG_in (List.mem_of_getElem? (i := 21) (by decide +kernel)) (by decide +kernel)), TX5, 7, rfl, by decide⟩
theorem mv_X5_97 : MV RX5 97 yX0_lieOf cX0_lieOf 2 (some .int) 1 0 := ⟨⟨⟨by decide +kernel, by decide +kernel, by decide +kernel⟩, cw_X0_lieOf, (lwG_in (List.mem_of_getElem? (i := 74) (by decide +kernel)) (by decide +kernel)), Or.inl (lwG_in (List.mem_of_getElem? (i := 746) (by decide +kernel)) (by decide +kernel))⟩, (lwG_in (List.mem_of_getElem? (i := 737) (by decide +kernel)) (by decide +kernel)), (lwG_in (List.mem_of_getElem? (i := 738) (by decide +kernel)) (by decide +kernel)), TX0, 3, rfl, by decide⟩
theorem ms_X5_102 : MS RX5 102 yX9_before cX9_before 2 (some .int) 2 := ⟨⟨⟨by decide +kernel, by decide +kernel, by decide +kernel⟩, cw_X9_before, (lwG_in (List.mem_of_getElem? (i := 71) (by decide +kernel)) (by decide +kernel)), Or.inr ⟨"PassTheSalt", (lwN_in (List.mem_of_getElem? (i := 747) (by decide +kernel)) (by decide +kernel))⟩⟩, (lwG_in (List.mem_of_getElem? (i := 451) (by decide +kernel)) (by decide +kernel))⟩
theorem mv_X5_105 : MV RX5 105 yX7_isAtRest cX7_isAtRest 3 (some .boolean) 1 7 := ⟨⟨⟨by decide +kernel, by decide +kernel, by decide +kernel⟩, cw_X7_isAtRest, (lwG_in (List.mem_of_getElem? (i := 72) (by decide +kernel)) (by decide +kernel)), Or.inl (lwG_in (List.mem_of_getElem? (i := 808) (by decide +kernel)) (by decide +kernel))⟩, (lwG_in (List.mem_of_getElem? (i := 809) (by decide +kernel)) (by decide +kernel)), (lwG_in (List.mem_of_getElem? (i := 810) (by decide +kernel)) (by decide +kernel)), TX7, 9, rfl, by decide⟩
theorem ms_X5_109 : MS RX5 109 yX9_pairsOf cX9_pairsOf 5 (some .long) 1 := ⟨⟨⟨by decide +kernel, by decide +kernel, by decide +kernel⟩, cw_X9_pairsOf, (lwG_in (List.mem_of_getElem? (i := 71) (by decide +kernel)) (by decide +kernel)), Or.inr ⟨"PassTheSalt", (lwN_in (List.mem_of_getElem? (i := 787) (by decide +kernel)) (by decide +kernel))⟩⟩, (lwG_in (List.mem_of_getElem? (i := 528) (by decide +kernel)) (by decide +kernel))⟩
theorem ms_X6_27 : MS RX6 27 yJ7_fill_53178 cJ7_fill_53178 4 none 2 := ⟨⟨⟨by decide +kernel, by decide +kernel, by decide +kernel⟩, cw_J7_fill_53178, (lwG_in (List.mem_of_getElem? (i := 86) (by decide +kernel)) (by decide +kernel)), Or.inl (lwG_in (List.mem_of_getElem? (i := 766) (by decide +kernel)) (by decide +kernel))⟩, (lwG_in (List.mem_of_getElem? (i := 495) (by decide +kernel)) (by decide +kernel))⟩
theorem ms_X6_33 : MS RX6 33 yX9_put cX9_put 3 none 3 := ⟨⟨⟨by decide +kernel, by decide +kernel, by decide +kernel⟩, cw_X9_put, (lwG_in (List.mem_of_getElem? (i := 71) (by decide +kernel)) (by decide +kernel)), Or.inr ⟨"PassTheSalt", (lwN_in (List.mem_of_getElem? (i := 767) (by decide +kernel)) (by decide +kernel))⟩⟩, (lwG_in (List.mem_of_getElem? (i := 436) (by decide +kernel)) (by decide +kernel))⟩
theorem mv_X6_43 : MV RX6 43 yX0_lieOf cX0_lieOf 2 (some .int) 1 0 := ⟨⟨⟨by decide +kernel, by decide +kernel, by decide +kernel⟩, cw_X0_lieOf, (lwG_in (List.mem_of_getElem? (i := 74) (by decide +kernel)) (by decide +kernel)), Or.inl (lwG_in (List.mem_of_getElem? (i := 768) (by decide +kernel)) (by decide +kernel))⟩, (lwG_in (List.mem_of_getElem? (i := 737) (by decide +kernel)) (by decide +kernel)), (lwG_in (List.mem_of_getElem? (i := 738) (by decide +kernel)) (by decide +kernel)), TX0, 3, rfl, by decide⟩
theorem ms_X6_49 : MS RX6 49 yX9_before cX9_before 2 (some .int) 2 := ⟨⟨⟨by decide +kernel, by decide +kernel, by decide +kernel⟩, cw_X9_before, (lwG_in (List.mem_of_getElem? (i := 71) (by decide +kernel)) (by decide +kernel)), Or.inr ⟨"PassTheSalt", (lwN_in (List.mem_of_getElem? (i := 769) (by decide +kernel)) (by decide +kernel))⟩⟩, (lwG_in (List.mem_of_getElem? (i := 451) (by decide +kernel)) (by decide +kernel))⟩
theorem ms_X6_66 : MS RX6 66 yX9_at cX9_at 2 (some .int) 2 := ⟨⟨⟨by decide +kernel, by decide +kernel, by decide +kernel⟩, cw_X9_at, (lwG_in (List.mem_of_getElem? (i := 71) (by decide +kernel)) (by decide +kernel)), Or.inr ⟨"PassTheSalt", (lwN_in (List.mem_of_getElem? (i := 770) (by decide +kernel)) (by decide +kernel))⟩⟩, (lwG_in (List.mem_of_getElem? (i := 421) (by decide +kernel)) (by decide +kernel))⟩
theorem mv_X6_70 : MV RX6 70 yX6_spreadPrice cX6_spreadPrice 9 none 2 6 := ⟨⟨⟨by decide +kernel, by decide +kernel, by decide +kernel⟩, cw_X6_spreadPrice, (lwG_in (List.mem_of_getElem? (i := 78) (by decide +kernel)) (by decide +kernel)), Or.inl (lwG_in (List.mem_of_getElem? (i := 771) (by decide +kernel)) (by decide +kernel))⟩, (lwG_in (List.mem_of_getElem? (i := 773) (by decide +kernel)) (by decide +kernel)), (lwG_in (List.mem_of_getElem? (i := 23) (by decide +kernel)) (by decide +kernel)), TX6, 4, rfl, by decide⟩
theorem mv_X6_77 : MV RX6 77 yX3_rowOf cX3_rowOf 11 (some .long) 2 3 := ⟨⟨⟨by decide +kernel, by decide +kernel, by decide +kernel⟩, cw_X3_rowOf, (lwG_in (List.mem_of_getElem? (i := 75) (by decide +kernel)) (by decide +kernel)), Or.inl (lwG_in (List.mem_of_getElem? (i := 775) (by decide +kernel)) (by decide +kernel))⟩, (lwG_in (List.mem_of_getElem? (i := 733) (by decide +kernel)) (by decide +kernel)), (lwG_in (List.mem_of_getElem? (i := 734) (by decide +kernel)) (by decide +kernel)), TX3, 3, rfl, by decide⟩
theorem ms_X6_81 : MS RX6 81 yX3_target cX3_target 3 (some .int) 2 := ⟨⟨⟨by decide +kernel, by decide +kernel, by decide +kernel⟩, cw_X3_target, (lwG_in (List.mem_of_getElem? (i := 75) (by decide +kernel)) (by decide +kernel)), Or.inl (lwG_in (List.mem_of_getElem? (i := 776) (by decide +kernel)) (by decide +kernel))⟩, (lwG_in (List.mem_of_getElem? (i := 744) (by decide +kernel)) (by decide +kernel))⟩
theorem mv_X6_85 : MV RX6 85 yX7_stepsBetween cX7_stepsBetween 4 (some .int) 2 7 := ⟨⟨⟨by decide +kernel, by decide +kernel, by decide +kernel⟩, cw_X7_stepsBetween, (lwG_in (List.mem_of_getElem? (i := 72) (by decide +kernel)) (by decide +kernel)), Or.inl (lwG_in (List.mem_of_getElem? (i := 777) (by decide +kernel)) (by decide +kernel))⟩, (lwG_in (List.mem_of_getElem? (i := 623) (by decide +kernel)) (by decide +kernel)), (lwG_in (List.mem_of_getElem? (i := 624) (by decide +kernel)) (by decide +kernel)), TX7, 9, rfl, by decide⟩
theorem ms_X6_88 : MS RX6 88 yJ7_fill_d0a16 cJ7_fill_d0a16 5 none 2 := ⟨⟨⟨by decide +kernel, by decide +kernel, by decide +kernel⟩, cw_J7_fill_d0a16, (lwG_in (List.mem_of_getElem? (i := 86) (by decide +kernel)) (by decide +kernel)), Or.inl (lwG_in (List.mem_of_getElem? (i := 891) (by decide +kernel)) (by decide +kernel))⟩, (lwG_in (List.mem_of_getElem? (i := 517) (by decide +kernel)) (by decide +kernel))⟩
theorem mv_X6_91 : MV RX6 91 yX6_spreadWays cX6_spreadWays 9 none 2 6 := ⟨⟨⟨by decide +kernel, by decide +kernel, by decide +kernel⟩, cw_X6_spreadWays, (lwG_in (List.mem_of_getElem? (i := 78) (by decide +kernel)) (by decide +kernel)), Or.inl (lwG_in (List.mem_of_getElem? (i := 892) (by decide +kernel)) (by decide +kernel))⟩, (lwG_in (List.mem_of_getElem? (i := 894) (by decide +kernel)) (by decide +kernel)), (lwG_in (List.mem_of_getElem? (i := 28) (by decide +kernel)) (by decide +kernel)), TX6, 4, rfl, by decide⟩
theorem mv_X7_41 : MV RX7 41 yX7_takeGuest cX7_takeGuest 5 none 3 7 := ⟨⟨⟨by decide +kernel, by decide +kernel, by decide +kernel⟩, cw_X7_takeGuest, (lwG_in (List.mem_of_getElem? (i := 72) (by decide +kernel)) (by decide +kernel)), Or.inl (lwG_in (List.mem_of_getElem? (i := 473) (by decide +kernel)) (by decide +kernel))⟩, (lwG_in (List.mem_of_getElem? (i := 474) (by decide +kernel)) (by decide +kernel)), (lwG_in (List.mem_of_getElem? (i := 475) (by decide +kernel)) (by decide +kernel)), TX7, 9, rfl, by decide⟩
theorem mv_X7_45 : MV RX7 45 yX7_kindOf cX7_kindOf 2 (some .int) 1 7 := ⟨⟨⟨by decide +kernel, by decide +kernel, by decide +kernel⟩, cw_X7_kindOf, (lwG_in (List.mem_of_getElem? (i := 72) (by decide +kernel)) (by decide +kernel)), Or.inl (lwG_in (List.mem_of_getElem? (i := 477) (by decide +kernel)) (by decide +kernel))⟩, (lwG_in (List.mem_of_getElem? (i := 478) (by decide +kernel)) (by decide +kernel)), (lwG_in (List.mem_of_getElem? (i := 479) (by decide +kernel)) (by decide +kernel)), TX7, 9, rfl, by decide⟩
theorem ms_X7_49 : MS RX7 49 yX9_put cX9_put 3 none 3 := ⟨⟨⟨by decide +kernel, by decide +kernel, by decide +kernel⟩, cw_X9_put, (lwG_in (List.mem_of_getElem? (i := 71) (by decide +kernel)) (by decide +kernel)), Or.inr ⟨"PassTheSalt", (lwN_in (List.mem_of_getElem? (i := 435) (by decide +kernel)) (by decide +kernel))⟩⟩, (lwG_in (List.mem_of_getElem? (i := 436) (by decide +kernel)) (by decide +kernel))⟩
theorem mv_X7_53 : MV RX7 53 yX7_wantsOf cX7_wantsOf 2 (some .int) 1 7 := ⟨⟨⟨by decide +kernel, by decide +kernel, by decide +kernel⟩, cw_X7_wantsOf, (lwG_in (List.mem_of_getElem? (i := 72) (by decide +kernel)) (by decide +kernel)), Or.inl (lwG_in (List.mem_of_getElem? (i := 481) (by decide +kernel)) (by decide +kernel))⟩, (lwG_in (List.mem_of_getElem? (i := 482) (by decide +kernel)) (by decide +kernel)), (lwG_in (List.mem_of_getElem? (i := 483) (by decide +kernel)) (by decide +kernel)), TX7, 9, rfl, by decide⟩
theorem mv_X7_56 : MV RX7 56 yX7_worthOf cX7_worthOf 3 (some .int) 2 7 := ⟨⟨⟨by decide +kernel, by decide +kernel, by decide +kernel⟩, cw_X7_worthOf, (lwG_in (List.mem_of_getElem? (i := 72) (by decide +kernel)) (by decide +kernel)), Or.inl (lwG_in (List.mem_of_getElem? (i := 486) (by decide +kernel)) (by decide +kernel))⟩, (lwG_in (List.mem_of_getElem? (i := 487) (by decide +kernel)) (by decide +kernel)), (lwG_in (List.mem_of_getElem? (i := 488) (by decide +kernel)) (by decide +kernel)), TX7, 9, rfl, by decide⟩
theorem mv_X7_60 : MV RX7 60 yX7_setWorth cX7_setWorth 4 none 3 7 := ⟨⟨⟨by decide +kernel, by decide +kernel, by decide +kernel⟩, cw_X7_setWorth, (lwG_in (List.mem_of_getElem? (i := 72) (by decide +kernel)) (by decide +kernel)), Or.inl (lwG_in (List.mem_of_getElem? (i := 461) (by decide +kernel)) (by decide +kernel))⟩, (lwG_in (List.mem_of_getElem? (i := 432) (by decide +kernel)) (by decide +kernel)), (lwG_in (List.mem_of_getElem? (i := 433) (by decide +kernel)) (by decide +kernel)), TX7, 9, rfl, by decide⟩
theorem ms_X7_64 : MS RX7 64 yX9_placed cX9_placed 4 (some .int) 3 := ⟨⟨⟨by decide +kernel, by decide +kernel, by decide +kernel⟩, cw_X9_placed, (lwG_in (List.mem_of_getElem? (i := 71) (by decide +kernel)) (by decide +kernel)), Or.inr ⟨"PassTheSalt", (lwN_in (List.mem_of_getElem? (i := 462) (by decide +kernel)) (by decide +kernel))⟩⟩, (lwG_in (List.mem_of_getElem? (i := 463) (by decide +kernel)) (by decide +kernel))⟩
theorem ms_X7_68 : MS RX7 68 yX9_at cX9_at 2 (some .int) 2 := ⟨⟨⟨by decide +kernel, by decide +kernel, by decide +kernel⟩, cw_X9_at, (lwG_in (List.mem_of_getElem? (i := 71) (by decide +kernel)) (by decide +kernel)), Or.inr ⟨"PassTheSalt", (lwN_in (List.mem_of_getElem? (i := 485) (by decide +kernel)) (by decide +kernel))⟩⟩, (lwG_in (List.mem_of_getElem? (i := 421) (by decide +kernel)) (by decide +kernel))⟩
theorem mm_X7_72 : MM RX7 72 Lib.Math.max.name Lib.Math.max.code 2 := ⟨(lwG_in (List.mem_of_getElem? (i := 617) (by decide +kernel)) (by decide +kernel)), (lwG_in (List.mem_of_getElem? (i := 196) (by decide +kernel)) (by decide +kernel)), (lwG_in (List.mem_of_getElem? (i := 76) (by decide +kernel)) (by decide +kernel)), (lwG_in (List.mem_of_getElem? (i := 197) (by decide +kernel)) (by decide +kernel))⟩
theorem ms_X7_77 : MS RX7 77 yX9_before cX9_before 2 (some .int) 2 := ⟨⟨⟨by decide +kernel, by decide +kernel, by decide +kernel⟩, cw_X9_before, (lwG_in (List.mem_of_getElem? (i := 71) (by decide +kernel)) (by decide +kernel)), Or.inr ⟨"PassTheSalt", (lwN_in (List.mem_of_getElem? (i := 642) (by decide +kernel)) (by decide +kernel))⟩⟩, (lwG_in (List.mem_of_getElem? (i := 451) (by decide +kernel)) (by decide +kernel))⟩
theorem mv_X7_80 : MV RX7 80 yX7_worthAt cX7_worthAt 4 (some .int) 3 7 := ⟨⟨⟨by decide +kernel, by decide +kernel, by decide +kernel⟩, cw_X7_worthAt, (lwG_in (List.mem_of_getElem? (i := 72) (by decide +kernel)) (by decide +kernel)), Or.inl (lwG_in (List.mem_of_getElem? (i := 689) (by decide +kernel)) (by decide +kernel))⟩, (lwG_in (List.mem_of_getElem? (i := 614) (by decide +kernel)) (by decide +kernel)), (lwG_in (List.mem_of_getElem? (i := 615) (by decide +kernel)) (by decide +kernel)), TX7, 9, rfl, by decide⟩
theorem mm_X7_83 : MM RX7 83 Lib.Math.abs.name Lib.Math.abs.code 1 := ⟨(lwG_in (List.mem_of_getElem? (i := 626) (by decide +kernel)) (by decide +kernel)), (lwG_in (List.mem_of_getElem? (i := 627) (by decide +kernel)) (by decide +kernel)), (lwG_in (List.mem_of_getElem? (i := 76) (by decide +kernel)) (by decide +kernel)), (lwG_in (List.mem_of_getElem? (i := 628) (by decide +kernel)) (by decide +kernel))⟩
theorem mv_X7_86 : MV RX7 86 yX7_stepsRight cX7_stepsRight 3 (some .int) 2 7 := ⟨⟨⟨by decide +kernel, by decide +kernel, by decide +kernel⟩, cw_X7_stepsRight, (lwG_in (List.mem_of_getElem? (i := 72) (by decide +kernel)) (by decide +kernel)), Or.inl (lwG_in (List.mem_of_getElem? (i := 629) (by decide +kernel)) (by decide +kernel))⟩, (lwG_in (List.mem_of_getElem? (i := 631) (by decide +kernel)) (by decide +kernel)), (lwG_in (List.mem_of_getElem? (i := 12) (by decide +kernel)) (by decide +kernel)), TX7, 9, rfl, by decide⟩
theorem mm_X7_89 : MM RX7 89 Lib.Math.min.name Lib.Math.min.code 2 := ⟨(lwG_in (List.mem_of_getElem? (i := 633) (by decide +kernel)) (by decide +kernel)), (lwG_in (List.mem_of_getElem? (i := 331) (by decide +kernel)) (by decide +kernel)), (lwG_in (List.mem_of_getElem? (i := 76) (by decide +kernel)) (by decide +kernel)), (lwG_in (List.mem_of_getElem? (i := 332) (by decide +kernel)) (by decide +kernel))⟩
theorem mv_X7_92 : MV RX7 92 yX7_stepTowards cX7_stepTowards 4 (some .int) 2 7 := ⟨⟨⟨by decide +kernel, by decide +kernel, by decide +kernel⟩, cw_X7_stepTowards, (lwG_in (List.mem_of_getElem? (i := 72) (by decide +kernel)) (by decide +kernel)), Or.inl (lwG_in (List.mem_of_getElem? (i := 656) (by decide +kernel)) (by decide +kernel))⟩, (lwG_in (List.mem_of_getElem? (i := 658) (by decide +kernel)) (by decide +kernel)), (lwG_in (List.mem_of_getElem? (i := 14) (by decide +kernel)) (by decide +kernel)), TX7, 9, rfl, by decide⟩
theorem mv_X7_95 : MV RX7 95 yX7_carried cX7_carried 11 (some .int) 5 7 := ⟨⟨⟨by decide +kernel, by decide +kernel, by decide +kernel⟩, cw_X7_carried, (lwG_in (List.mem_of_getElem? (i := 72) (by decide +kernel)) (by decide +kernel)), Or.inl (lwG_in (List.mem_of_getElem? (i := 660) (by decide +kernel)) (by decide +kernel))⟩, (lwG_in (List.mem_of_getElem? (i := 662) (by decide +kernel)) (by decide +kernel)), (lwG_in (List.mem_of_getElem? (i := 15) (by decide +kernel)) (by decide +kernel)), TX7, 9, rfl, by decide⟩
theorem mv_X7_99 : MV RX7 99 yX7_childChanged cX7_childChanged 4 (some .int) 2 7 := ⟨⟨⟨by decide +kernel, by decide +kernel, by decide +kernel⟩, cw_X7_childChanged, (lwG_in (List.mem_of_getElem? (i := 72) (by decide +kernel)) (by decide +kernel)), Or.inl (lwG_in (List.mem_of_getElem? (i := 668) (by decide +kernel)) (by decide +kernel))⟩, (lwG_in (List.mem_of_getElem? (i := 670) (by decide +kernel)) (by decide +kernel)), (lwG_in (List.mem_of_getElem? (i := 17) (by decide +kernel)) (by decide +kernel)), TX7, 9, rfl, by decide⟩
theorem mv_X7_102 : MV RX7 102 yX7_nextSeat cX7_nextSeat 4 (some .int) 2 7 := ⟨⟨⟨by decide +kernel, by decide +kernel, by decide +kernel⟩, cw_X7_nextSeat, (lwG_in (List.mem_of_getElem? (i := 72) (by decide +kernel)) (by decide +kernel)), Or.inl (lwG_in (List.mem_of_getElem? (i := 664) (by decide +kernel)) (by decide +kernel))⟩, (lwG_in (List.mem_of_getElem? (i := 666) (by decide +kernel)) (by decide +kernel)), (lwG_in (List.mem_of_getElem? (i := 16) (by decide +kernel)) (by decide +kernel)), TX7, 9, rfl, by decide⟩
theorem ms_X7_105 : MS RX7 105 yX9_changed cX9_changed 4 (some .int) 3 := ⟨⟨⟨by decide +kernel, by decide +kernel, by decide +kernel⟩, cw_X9_changed, (lwG_in (List.mem_of_getElem? (i := 71) (by decide +kernel)) (by decide +kernel)), Or.inr ⟨"PassTheSalt", (lwN_in (List.mem_of_getElem? (i := 672) (by decide +kernel)) (by decide +kernel))⟩⟩, (lwG_in (List.mem_of_getElem? (i := 509) (by decide +kernel)) (by decide +kernel))⟩
theorem ms_X7_108 : MS RX7 108 yX9_shifted cX9_shifted 2 (some .long) 2 := ⟨⟨⟨by decide +kernel, by decide +kernel, by decide +kernel⟩, cw_X9_shifted, (lwG_in (List.mem_of_getElem? (i := 71) (by decide +kernel)) (by decide +kernel)), Or.inr ⟨"PassTheSalt", (lwN_in (List.mem_of_getElem? (i := 824) (by decide +kernel)) (by decide +kernel))⟩⟩, (lwG_in (List.mem_of_getElem? (i := 531) (by decide +kernel)) (by decide +kernel))⟩
theorem mi_X8_28 : MI RX8 28 yX7_init cX7_init 1 0 := ⟨⟨⟨by decide +kernel, by decide +kernel, by decide +kernel⟩, cw_X7_init, (lwG_in (List.mem_of_getElem? (i := 72) (by decide +kernel)) (by decide +kernel)), Or.inr ⟨"PassTheSalt", (lwN_in (List.mem_of_getElem? (i := 270) (by decide +kernel)) (by decide +kernel))⟩⟩, rfl, (lwG_in (List.mem_of_getElem? (i := 100) (by decide +kernel)) (by decide +kernel))⟩
theorem mi_X8_44 : MI RX8 44 yX3_init cX3_init 4 3 := ⟨⟨⟨by decide +kernel, by decide +kernel, by decide +kernel⟩, cw_X3_init, (lwG_in (List.mem_of_getElem? (i := 75) (by decide +kernel)) (by decide +kernel)), Or.inl (lwG_in (List.mem_of_getElem? (i := 273) (by decide +kernel)) (by decide +kernel))⟩, rfl, (lwG_in (List.mem_of_getElem? (i := 192) (by decide +kernel)) (by decide +kernel))⟩
theorem mi_X8_47 : MI RX8 47 yX5_init cX5_init 2 1 := ⟨⟨⟨by decide +kernel, by decide +kernel, by decide +kernel⟩, cw_X5_init, (lwG_in (List.mem_of_getElem? (i := 77) (by decide +kernel)) (by decide +kernel)), Or.inl (lwG_in (List.mem_of_getElem? (i := 274) (by decide +kernel)) (by decide +kernel))⟩, rfl, (lwG_in (List.mem_of_getElem? (i := 217) (by decide +kernel)) (by decide +kernel))⟩
theorem mv_X8_62 : MV RX8 62 yX7_wantedPairs cX7_wantedPairs 4 (some .long) 0 7 := ⟨⟨⟨by decide +kernel, by decide +kernel, by decide +kernel⟩, cw_X7_wantedPairs, (lwG_in (List.mem_of_getElem? (i := 72) (by decide +kernel)) (by decide +kernel)), Or.inl (lwG_in (List.mem_of_getElem? (i := 820) (by decide +kernel)) (by decide +kernel))⟩, (lwG_in (List.mem_of_getElem? (i := 821) (by decide +kernel)) (by decide +kernel)), (lwG_in (List.mem_of_getElem? (i := 822) (by decide +kernel)) (by decide +kernel)), TX7, 9, rfl, by decide⟩
theorem mv_X8_66 : MV RX8 66 yX5_pairsReached cX5_pairsReached 7 (some .long) 1 5 := ⟨⟨⟨by decide +kernel, by decide +kernel, by decide +kernel⟩, cw_X5_pairsReached, (lwG_in (List.mem_of_getElem? (i := 77) (by decide +kernel)) (by decide +kernel)), Or.inl (lwG_in (List.mem_of_getElem? (i := 825) (by decide +kernel)) (by decide +kernel))⟩, (lwG_in (List.mem_of_getElem? (i := 784) (by decide +kernel)) (by decide +kernel)), (lwG_in (List.mem_of_getElem? (i := 785) (by decide +kernel)) (by decide +kernel)), TX5, 7, rfl, by decide⟩
theorem mv_X8_73 : MV RX8 73 yX8_makeHold cX8_makeHold 2 none 1 8 := ⟨⟨⟨by decide +kernel, by decide +kernel, by decide +kernel⟩, cw_X8_makeHold, (lwG_in (List.mem_of_getElem? (i := 79) (by decide +kernel)) (by decide +kernel)), Or.inl (lwG_in (List.mem_of_getElem? (i := 826) (by decide +kernel)) (by decide +kernel))⟩, (lwG_in (List.mem_of_getElem? (i := 828) (by decide +kernel)) (by decide +kernel)), (lwG_in (List.mem_of_getElem? (i := 24) (by decide +kernel)) (by decide +kernel)), TX8, 9, rfl, by decide⟩
theorem ms_X8_79 : MS RX8 79 yJ13_bitCount_95d88 cJ13_bitCount_95d88 2 (some .int) 1 := ⟨⟨⟨by decide +kernel, by decide +kernel, by decide +kernel⟩, cw_J13_bitCount_95d88, (lwG_in (List.mem_of_getElem? (i := 88) (by decide +kernel)) (by decide +kernel)), Or.inl (lwG_in (List.mem_of_getElem? (i := 842) (by decide +kernel)) (by decide +kernel))⟩, (lwG_in (List.mem_of_getElem? (i := 843) (by decide +kernel)) (by decide +kernel))⟩
theorem mv_X8_89 : MV RX8 89 yX5_stepsToRest cX5_stepsToRest 4 (some .int) 1 5 := ⟨⟨⟨by decide +kernel, by decide +kernel, by decide +kernel⟩, cw_X5_stepsToRest, (lwG_in (List.mem_of_getElem? (i := 77) (by decide +kernel)) (by decide +kernel)), Or.inl (lwG_in (List.mem_of_getElem? (i := 871) (by decide +kernel)) (by decide +kernel))⟩, (lwG_in (List.mem_of_getElem? (i := 805) (by decide +kernel)) (by decide +kernel)), (lwG_in (List.mem_of_getElem? (i := 806) (by decide +kernel)) (by decide +kernel)), TX5, 7, rfl, by decide⟩
theorem mv_X8_93 : MV RX8 93 yX8_canBeAtRest cX8_canBeAtRest 3 (some .boolean) 0 8 := ⟨⟨⟨by decide +kernel, by decide +kernel, by decide +kernel⟩, cw_X8_canBeAtRest, (lwG_in (List.mem_of_getElem? (i := 79) (by decide +kernel)) (by decide +kernel)), Or.inl (lwG_in (List.mem_of_getElem? (i := 872) (by decide +kernel)) (by decide +kernel))⟩, (lwG_in (List.mem_of_getElem? (i := 874) (by decide +kernel)) (by decide +kernel)), (lwG_in (List.mem_of_getElem? (i := 26) (by decide +kernel)) (by decide +kernel)), TX8, 9, rfl, by decide⟩
theorem mv_X8_97 : MV RX8 97 yX8_changeSeats cX8_changeSeats 3 none 2 8 := ⟨⟨⟨by decide +kernel, by decide +kernel, by decide +kernel⟩, cw_X8_changeSeats, (lwG_in (List.mem_of_getElem? (i := 79) (by decide +kernel)) (by decide +kernel)), Or.inl (lwG_in (List.mem_of_getElem? (i := 878) (by decide +kernel)) (by decide +kernel))⟩, (lwG_in (List.mem_of_getElem? (i := 880) (by decide +kernel)) (by decide +kernel)), (lwG_in (List.mem_of_getElem? (i := 27) (by decide +kernel)) (by decide +kernel)), TX8, 9, rfl, by decide⟩
theorem mv_X8_106 : MV RX8 106 yX0_lieOf cX0_lieOf 2 (some .int) 1 0 := ⟨⟨⟨by decide +kernel, by decide +kernel, by decide +kernel⟩, cw_X0_lieOf, (lwG_in (List.mem_of_getElem? (i := 74) (by decide +kernel)) (by decide +kernel)), Or.inl (lwG_in (List.mem_of_getElem? (i := 876) (by decide +kernel)) (by decide +kernel))⟩, (lwG_in (List.mem_of_getElem? (i := 737) (by decide +kernel)) (by decide +kernel)), (lwG_in (List.mem_of_getElem? (i := 738) (by decide +kernel)) (by decide +kernel)), TX0, 3, rfl, by decide⟩
theorem mv_X8_109 : MV RX8 109 yX7_isAtRest cX7_isAtRest 3 (some .boolean) 1 7 := ⟨⟨⟨by decide +kernel, by decide +kernel, by decide +kernel⟩, cw_X7_isAtRest, (lwG_in (List.mem_of_getElem? (i := 72) (by decide +kernel)) (by decide +kernel)), Or.inl (lwG_in (List.mem_of_getElem? (i := 877) (by decide +kernel)) (by decide +kernel))⟩, (lwG_in (List.mem_of_getElem? (i := 809) (by decide +kernel)) (by decide +kernel)), (lwG_in (List.mem_of_getElem? (i := 810) (by decide +kernel)) (by decide +kernel)), TX7, 9, rfl, by decide⟩
theorem mv_X8_113 : MV RX8 113 yX7_become cX7_become 3 none 1 7 := ⟨⟨⟨by decide +kernel, by decide +kernel, by decide +kernel⟩, cw_X7_become, (lwG_in (List.mem_of_getElem? (i := 72) (by decide +kernel)) (by decide +kernel)), Or.inl (lwG_in (List.mem_of_getElem? (i := 830) (by decide +kernel)) (by decide +kernel))⟩, (lwG_in (List.mem_of_getElem? (i := 470) (by decide +kernel)) (by decide +kernel)), (lwG_in (List.mem_of_getElem? (i := 471) (by decide +kernel)) (by decide +kernel)), TX7, 9, rfl, by decide⟩
theorem mv_X8_117 : MV RX8 117 yX7_setKind cX7_setKind 3 none 2 7 := ⟨⟨⟨by decide +kernel, by decide +kernel, by decide +kernel⟩, cw_X7_setKind, (lwG_in (List.mem_of_getElem? (i := 72) (by decide +kernel)) (by decide +kernel)), Or.inl (lwG_in (List.mem_of_getElem? (i := 831) (by decide +kernel)) (by decide +kernel))⟩, (lwG_in (List.mem_of_getElem? (i := 832) (by decide +kernel)) (by decide +kernel)), (lwG_in (List.mem_of_getElem? (i := 833) (by decide +kernel)) (by decide +kernel)), TX7, 9, rfl, by decide⟩
theorem mv_X8_120 : MV RX8 120 yX8_startOther cX8_startOther 1 none 0 8 := ⟨⟨⟨by decide +kernel, by decide +kernel, by decide +kernel⟩, cw_X8_startOther, (lwG_in (List.mem_of_getElem? (i := 79) (by decide +kernel)) (by decide +kernel)), Or.inl (lwG_in (List.mem_of_getElem? (i := 835) (by decide +kernel)) (by decide +kernel))⟩, (lwG_in (List.mem_of_getElem? (i := 837) (by decide +kernel)) (by decide +kernel)), (lwG_in (List.mem_of_getElem? (i := 25) (by decide +kernel)) (by decide +kernel)), TX8, 9, rfl, by decide⟩
theorem mv_X8_123 : MV RX8 123 yX7_takeGuest cX7_takeGuest 5 none 3 7 := ⟨⟨⟨by decide +kernel, by decide +kernel, by decide +kernel⟩, cw_X7_takeGuest, (lwG_in (List.mem_of_getElem? (i := 72) (by decide +kernel)) (by decide +kernel)), Or.inl (lwG_in (List.mem_of_getElem? (i := 882) (by decide +kernel)) (by decide +kernel))⟩, (lwG_in (List.mem_of_getElem? (i := 474) (by decide +kernel)) (by decide +kernel)), (lwG_in (List.mem_of_getElem? (i := 475) (by decide +kernel)) (by decide +kernel)), TX7, 9, rfl, by decide⟩
theorem mv_X8_127 : MV RX8 127 yX5_forget cX5_forget 1 none 0 5 := ⟨⟨⟨by decide +kernel, by decide +kernel, by decide +kernel⟩, cw_X5_forget, (lwG_in (List.mem_of_getElem? (i := 77) (by decide +kernel)) (by decide +kernel)), Or.inl (lwG_in (List.mem_of_getElem? (i := 839) (by decide +kernel)) (by decide +kernel))⟩, (lwG_in (List.mem_of_getElem? (i := 520) (by decide +kernel)) (by decide +kernel)), (lwG_in (List.mem_of_getElem? (i := 521) (by decide +kernel)) (by decide +kernel)), TX5, 7, rfl, by decide⟩
theorem mv_X8_130 : MV RX8 130 yX5_startFrom cX5_startFrom 2 none 1 5 := ⟨⟨⟨by decide +kernel, by decide +kernel, by decide +kernel⟩, cw_X5_startFrom, (lwG_in (List.mem_of_getElem? (i := 77) (by decide +kernel)) (by decide +kernel)), Or.inl (lwG_in (List.mem_of_getElem? (i := 840) (by decide +kernel)) (by decide +kernel))⟩, (lwG_in (List.mem_of_getElem? (i := 703) (by decide +kernel)) (by decide +kernel)), (lwG_in (List.mem_of_getElem? (i := 704) (by decide +kernel)) (by decide +kernel)), TX5, 7, rfl, by decide⟩
theorem mi_L_9 : MI RL 9 yX9_init cX9_init 2 0 := ⟨⟨⟨by decide +kernel, by decide +kernel, by decide +kernel⟩, cw_X9_init, (lwG_in (List.mem_of_getElem? (i := 71) (by decide +kernel)) (by decide +kernel)), Or.inl (lwG_in (List.mem_of_getElem? (i := 91) (by decide +kernel)) (by decide +kernel))⟩, rfl, (lwG_in (List.mem_of_getElem? (i := 92) (by decide +kernel)) (by decide +kernel))⟩
theorem mi_L_12 : MI RL 12 yX10_init cX10_init 3 0 := ⟨⟨⟨by decide +kernel, by decide +kernel, by decide +kernel⟩, cw_X10_init, (lwG_in (List.mem_of_getElem? (i := 87) (by decide +kernel)) (by decide +kernel)), Or.inl (lwG_in (List.mem_of_getElem? (i := 924) (by decide +kernel)) (by decide +kernel))⟩, rfl, (lwG_in (List.mem_of_getElem? (i := 925) (by decide +kernel)) (by decide +kernel))⟩
theorem mv_L_15 : MV RL 15 yX9_write cX9_write 5 (some .int) 2 9 := ⟨⟨⟨by decide +kernel, by decide +kernel, by decide +kernel⟩, cw_X9_write, (lwG_in (List.mem_of_getElem? (i := 71) (by decide +kernel)) (by decide +kernel)), Or.inl (lwG_in (List.mem_of_getElem? (i := 574) (by decide +kernel)) (by decide +kernel))⟩, (lwG_in (List.mem_of_getElem? (i := 575) (by decide +kernel)) (by decide +kernel)), (lwG_in (List.mem_of_getElem? (i := 576) (by decide +kernel)) (by decide +kernel)), TX9, 13, rfl, by decide⟩
theorem mv_L_19 : MV RL 19 yX10_write cX10_write 5 (some .int) 2 10 := ⟨⟨⟨by decide +kernel, by decide +kernel, by decide +kernel⟩, cw_X10_write, (lwG_in (List.mem_of_getElem? (i := 87) (by decide +kernel)) (by decide +kernel)), Or.inl (lwG_in (List.mem_of_getElem? (i := 1086) (by decide +kernel)) (by decide +kernel))⟩, (lwG_in (List.mem_of_getElem? (i := 1087) (by decide +kernel)) (by decide +kernel)), (lwG_in (List.mem_of_getElem? (i := 1088) (by decide +kernel)) (by decide +kernel)), TX10, 49, rfl, by decide⟩
theorem mv_L_20 : MV RL 20 yX9_wipe cX9_wipe 2 (some .int) 0 9 := ⟨⟨⟨by decide +kernel, by decide +kernel, by decide +kernel⟩, cw_X9_wipe, (lwG_in (List.mem_of_getElem? (i := 71) (by decide +kernel)) (by decide +kernel)), Or.inl (lwG_in (List.mem_of_getElem? (i := 579) (by decide +kernel)) (by decide +kernel))⟩, (lwG_in (List.mem_of_getElem? (i := 580) (by decide +kernel)) (by decide +kernel)), (lwG_in (List.mem_of_getElem? (i := 581) (by decide +kernel)) (by decide +kernel)), TX9, 13, rfl, by decide⟩
theorem mv_L_24 : MV RL 24 yX10_wipe cX10_wipe 2 (some .int) 0 10 := ⟨⟨⟨by decide +kernel, by decide +kernel, by decide +kernel⟩, cw_X10_wipe, (lwG_in (List.mem_of_getElem? (i := 87) (by decide +kernel)) (by decide +kernel)), Or.inl (lwG_in (List.mem_of_getElem? (i := 1094) (by decide +kernel)) (by decide +kernel))⟩, (lwG_in (List.mem_of_getElem? (i := 1095) (by decide +kernel)) (by decide +kernel)), (lwG_in (List.mem_of_getElem? (i := 1096) (by decide +kernel)) (by decide +kernel)), TX10, 49, rfl, by decide⟩
theorem mv_L_25 : MV RL 25 yX9_fault cX9_fault 1 (some .int) 0 9 := ⟨⟨⟨by decide +kernel, by decide +kernel, by decide +kernel⟩, cw_X9_fault, (lwG_in (List.mem_of_getElem? (i := 71) (by decide +kernel)) (by decide +kernel)), Or.inl (lwG_in (List.mem_of_getElem? (i := 583) (by decide +kernel)) (by decide +kernel))⟩, (lwG_in (List.mem_of_getElem? (i := 584) (by decide +kernel)) (by decide +kernel)), (lwG_in (List.mem_of_getElem? (i := 585) (by decide +kernel)) (by decide +kernel)), TX9, 13, rfl, by decide⟩
theorem mv_L_28 : MV RL 28 yX10_fault cX10_fault 1 (some .int) 0 10 := ⟨⟨⟨by decide +kernel, by decide +kernel, by decide +kernel⟩, cw_X10_fault, (lwG_in (List.mem_of_getElem? (i := 87) (by decide +kernel)) (by decide +kernel)), Or.inl (lwG_in (List.mem_of_getElem? (i := 1098) (by decide +kernel)) (by decide +kernel))⟩, (lwG_in (List.mem_of_getElem? (i := 1099) (by decide +kernel)) (by decide +kernel)), (lwG_in (List.mem_of_getElem? (i := 1100) (by decide +kernel)) (by decide +kernel)), TX10, 49, rfl, by decide⟩
theorem mv_L_29 : MV RL 29 yX9_lay cX9_lay 1 (some .int) 0 9 := ⟨⟨⟨by decide +kernel, by decide +kernel, by decide +kernel⟩, cw_X9_lay, (lwG_in (List.mem_of_getElem? (i := 71) (by decide +kernel)) (by decide +kernel)), Or.inl (lwG_in (List.mem_of_getElem? (i := 587) (by decide +kernel)) (by decide +kernel))⟩, (lwG_in (List.mem_of_getElem? (i := 400) (by decide +kernel)) (by decide +kernel)), (lwG_in (List.mem_of_getElem? (i := 401) (by decide +kernel)) (by decide +kernel)), TX9, 13, rfl, by decide⟩
theorem mv_L_32 : MV RL 32 yX10_lay cX10_lay 1 (some .int) 0 10 := ⟨⟨⟨by decide +kernel, by decide +kernel, by decide +kernel⟩, cw_X10_lay, (lwG_in (List.mem_of_getElem? (i := 87) (by decide +kernel)) (by decide +kernel)), Or.inl (lwG_in (List.mem_of_getElem? (i := 1134) (by decide +kernel)) (by decide +kernel))⟩, (lwG_in (List.mem_of_getElem? (i := 1135) (by decide +kernel)) (by decide +kernel)), (lwG_in (List.mem_of_getElem? (i := 1136) (by decide +kernel)) (by decide +kernel)), TX10, 49, rfl, by decide⟩
theorem mv_L_33 : MV RL 33 yX9_guest cX9_guest 3 (some .int) 2 9 := ⟨⟨⟨by decide +kernel, by decide +kernel, by decide +kernel⟩, cw_X9_guest, (lwG_in (List.mem_of_getElem? (i := 71) (by decide +kernel)) (by decide +kernel)), Or.inl (lwG_in (List.mem_of_getElem? (i := 588) (by decide +kernel)) (by decide +kernel))⟩, (lwG_in (List.mem_of_getElem? (i := 589) (by decide +kernel)) (by decide +kernel)), (lwG_in (List.mem_of_getElem? (i := 590) (by decide +kernel)) (by decide +kernel)), TX9, 13, rfl, by decide⟩
theorem mv_L_37 : MV RL 37 yX10_guest cX10_guest 3 (some .int) 2 10 := ⟨⟨⟨by decide +kernel, by decide +kernel, by decide +kernel⟩, cw_X10_guest, (lwG_in (List.mem_of_getElem? (i := 87) (by decide +kernel)) (by decide +kernel)), Or.inl (lwG_in (List.mem_of_getElem? (i := 1138) (by decide +kernel)) (by decide +kernel))⟩, (lwG_in (List.mem_of_getElem? (i := 1139) (by decide +kernel)) (by decide +kernel)), (lwG_in (List.mem_of_getElem? (i := 1140) (by decide +kernel)) (by decide +kernel)), TX10, 49, rfl, by decide⟩
theorem mv_L_38 : MV RL 38 yX9_worth cX9_worth 4 (some .int) 3 9 := ⟨⟨⟨by decide +kernel, by decide +kernel, by decide +kernel⟩, cw_X9_worth, (lwG_in (List.mem_of_getElem? (i := 71) (by decide +kernel)) (by decide +kernel)), Or.inl (lwG_in (List.mem_of_getElem? (i := 605) (by decide +kernel)) (by decide +kernel))⟩, (lwG_in (List.mem_of_getElem? (i := 606) (by decide +kernel)) (by decide +kernel)), (lwG_in (List.mem_of_getElem? (i := 607) (by decide +kernel)) (by decide +kernel)), TX9, 13, rfl, by decide⟩
theorem mv_L_42 : MV RL 42 yX10_worth cX10_worth 4 (some .int) 3 10 := ⟨⟨⟨by decide +kernel, by decide +kernel, by decide +kernel⟩, cw_X10_worth, (lwG_in (List.mem_of_getElem? (i := 87) (by decide +kernel)) (by decide +kernel)), Or.inl (lwG_in (List.mem_of_getElem? (i := 1146) (by decide +kernel)) (by decide +kernel))⟩, (lwG_in (List.mem_of_getElem? (i := 1147) (by decide +kernel)) (by decide +kernel)), (lwG_in (List.mem_of_getElem? (i := 1148) (by decide +kernel)) (by decide +kernel)), TX10, 49, rfl, by decide⟩
theorem mv_L_43 : MV RL 43 yX9_hands cX9_hands 3 (some .int) 2 9 := ⟨⟨⟨by decide +kernel, by decide +kernel, by decide +kernel⟩, cw_X9_hands, (lwG_in (List.mem_of_getElem? (i := 71) (by decide +kernel)) (by decide +kernel)), Or.inl (lwG_in (List.mem_of_getElem? (i := 618) (by decide +kernel)) (by decide +kernel))⟩, (lwG_in (List.mem_of_getElem? (i := 619) (by decide +kernel)) (by decide +kernel)), (lwG_in (List.mem_of_getElem? (i := 620) (by decide +kernel)) (by decide +kernel)), TX9, 13, rfl, by decide⟩
theorem mv_L_46 : MV RL 46 yX10_hands cX10_hands 3 (some .int) 2 10 := ⟨⟨⟨by decide +kernel, by decide +kernel, by decide +kernel⟩, cw_X10_hands, (lwG_in (List.mem_of_getElem? (i := 87) (by decide +kernel)) (by decide +kernel)), Or.inl (lwG_in (List.mem_of_getElem? (i := 1158) (by decide +kernel)) (by decide +kernel))⟩, (lwG_in (List.mem_of_getElem? (i := 1159) (by decide +kernel)) (by decide +kernel)), (lwG_in (List.mem_of_getElem? (i := 1160) (by decide +kernel)) (by decide +kernel)), TX10, 49, rfl, by decide⟩
theorem mv_L_47 : MV RL 47 yX9_ask cX9_ask 3 (some .int) 2 9 := ⟨⟨⟨by decide +kernel, by decide +kernel, by decide +kernel⟩, cw_X9_ask, (lwG_in (List.mem_of_getElem? (i := 71) (by decide +kernel)) (by decide +kernel)), Or.inl (lwG_in (List.mem_of_getElem? (i := 634) (by decide +kernel)) (by decide +kernel))⟩, (lwG_in (List.mem_of_getElem? (i := 635) (by decide +kernel)) (by decide +kernel)), (lwG_in (List.mem_of_getElem? (i := 636) (by decide +kernel)) (by decide +kernel)), TX9, 13, rfl, by decide⟩
theorem mv_L_50 : MV RL 50 yX10_ask cX10_ask 3 (some .int) 2 10 := ⟨⟨⟨by decide +kernel, by decide +kernel, by decide +kernel⟩, cw_X10_ask, (lwG_in (List.mem_of_getElem? (i := 87) (by decide +kernel)) (by decide +kernel)), Or.inl (lwG_in (List.mem_of_getElem? (i := 1170) (by decide +kernel)) (by decide +kernel))⟩, (lwG_in (List.mem_of_getElem? (i := 1171) (by decide +kernel)) (by decide +kernel)), (lwG_in (List.mem_of_getElem? (i := 1172) (by decide +kernel)) (by decide +kernel)), TX10, 49, rfl, by decide⟩
theorem mv_L_51 : MV RL 51 yX9_undo cX9_undo 1 (some .int) 0 9 := ⟨⟨⟨by decide +kernel, by decide +kernel, by decide +kernel⟩, cw_X9_undo, (lwG_in (List.mem_of_getElem? (i := 71) (by decide +kernel)) (by decide +kernel)), Or.inl (lwG_in (List.mem_of_getElem? (i := 673) (by decide +kernel)) (by decide +kernel))⟩, (lwG_in (List.mem_of_getElem? (i := 674) (by decide +kernel)) (by decide +kernel)), (lwG_in (List.mem_of_getElem? (i := 675) (by decide +kernel)) (by decide +kernel)), TX9, 13, rfl, by decide⟩
theorem mv_L_54 : MV RL 54 yX10_undo cX10_undo 2 (some .int) 0 10 := ⟨⟨⟨by decide +kernel, by decide +kernel, by decide +kernel⟩, cw_X10_undo, (lwG_in (List.mem_of_getElem? (i := 87) (by decide +kernel)) (by decide +kernel)), Or.inl (lwG_in (List.mem_of_getElem? (i := 1206) (by decide +kernel)) (by decide +kernel))⟩, (lwG_in (List.mem_of_getElem? (i := 1207) (by decide +kernel)) (by decide +kernel)), (lwG_in (List.mem_of_getElem? (i := 1208) (by decide +kernel)) (by decide +kernel)), TX10, 49, rfl, by decide⟩
theorem mv_L_55 : MV RL 55 yX9_evening cX9_evening 1 (some .int) 0 9 := ⟨⟨⟨by decide +kernel, by decide +kernel, by decide +kernel⟩, cw_X9_evening, (lwG_in (List.mem_of_getElem? (i := 71) (by decide +kernel)) (by decide +kernel)), Or.inl (lwG_in (List.mem_of_getElem? (i := 681) (by decide +kernel)) (by decide +kernel))⟩, (lwG_in (List.mem_of_getElem? (i := 682) (by decide +kernel)) (by decide +kernel)), (lwG_in (List.mem_of_getElem? (i := 683) (by decide +kernel)) (by decide +kernel)), TX9, 13, rfl, by decide⟩
theorem mv_L_58 : MV RL 58 yX10_evening cX10_evening 3 (some .int) 0 10 := ⟨⟨⟨by decide +kernel, by decide +kernel, by decide +kernel⟩, cw_X10_evening, (lwG_in (List.mem_of_getElem? (i := 87) (by decide +kernel)) (by decide +kernel)), Or.inl (lwG_in (List.mem_of_getElem? (i := 1210) (by decide +kernel)) (by decide +kernel))⟩, (lwG_in (List.mem_of_getElem? (i := 1211) (by decide +kernel)) (by decide +kernel)), (lwG_in (List.mem_of_getElem? (i := 1212) (by decide +kernel)) (by decide +kernel)), TX10, 49, rfl, by decide⟩
theorem mv_L_59 : MV RL 59 yX9_need cX9_need 3 (some .int) 2 9 := ⟨⟨⟨by decide +kernel, by decide +kernel, by decide +kernel⟩, cw_X9_need, (lwG_in (List.mem_of_getElem? (i := 71) (by decide +kernel)) (by decide +kernel)), Or.inl (lwG_in (List.mem_of_getElem? (i := 690) (by decide +kernel)) (by decide +kernel))⟩, (lwG_in (List.mem_of_getElem? (i := 691) (by decide +kernel)) (by decide +kernel)), (lwG_in (List.mem_of_getElem? (i := 692) (by decide +kernel)) (by decide +kernel)), TX9, 13, rfl, by decide⟩
theorem mv_L_62 : MV RL 62 yX10_need cX10_need 3 (some .int) 2 10 := ⟨⟨⟨by decide +kernel, by decide +kernel, by decide +kernel⟩, cw_X10_need, (lwG_in (List.mem_of_getElem? (i := 87) (by decide +kernel)) (by decide +kernel)), Or.inl (lwG_in (List.mem_of_getElem? (i := 1214) (by decide +kernel)) (by decide +kernel))⟩, (lwG_in (List.mem_of_getElem? (i := 1215) (by decide +kernel)) (by decide +kernel)), (lwG_in (List.mem_of_getElem? (i := 1216) (by decide +kernel)) (by decide +kernel)), TX10, 49, rfl, by decide⟩
theorem mv_L_63 : MV RL 63 yX9_first cX9_first 3 (some .int) 2 9 := ⟨⟨⟨by decide +kernel, by decide +kernel, by decide +kernel⟩, cw_X9_first, (lwG_in (List.mem_of_getElem? (i := 71) (by decide +kernel)) (by decide +kernel)), Or.inl (lwG_in (List.mem_of_getElem? (i := 748) (by decide +kernel)) (by decide +kernel))⟩, (lwG_in (List.mem_of_getElem? (i := 749) (by decide +kernel)) (by decide +kernel)), (lwG_in (List.mem_of_getElem? (i := 750) (by decide +kernel)) (by decide +kernel)), TX9, 13, rfl, by decide⟩
theorem mv_L_66 : MV RL 66 yX10_first cX10_first 7 (some .int) 2 10 := ⟨⟨⟨by decide +kernel, by decide +kernel, by decide +kernel⟩, cw_X10_first, (lwG_in (List.mem_of_getElem? (i := 87) (by decide +kernel)) (by decide +kernel)), Or.inl (lwG_in (List.mem_of_getElem? (i := 1257) (by decide +kernel)) (by decide +kernel))⟩, (lwG_in (List.mem_of_getElem? (i := 1258) (by decide +kernel)) (by decide +kernel)), (lwG_in (List.mem_of_getElem? (i := 1259) (by decide +kernel)) (by decide +kernel)), TX10, 49, rfl, by decide⟩
theorem mv_L_67 : MV RL 67 yX9_price cX9_price 3 (some .int) 2 9 := ⟨⟨⟨by decide +kernel, by decide +kernel, by decide +kernel⟩, cw_X9_price, (lwG_in (List.mem_of_getElem? (i := 71) (by decide +kernel)) (by decide +kernel)), Or.inl (lwG_in (List.mem_of_getElem? (i := 756) (by decide +kernel)) (by decide +kernel))⟩, (lwG_in (List.mem_of_getElem? (i := 757) (by decide +kernel)) (by decide +kernel)), (lwG_in (List.mem_of_getElem? (i := 758) (by decide +kernel)) (by decide +kernel)), TX9, 13, rfl, by decide⟩
theorem mv_L_70 : MV RL 70 yX10_price cX10_price 3 (some .int) 2 10 := ⟨⟨⟨by decide +kernel, by decide +kernel, by decide +kernel⟩, cw_X10_price, (lwG_in (List.mem_of_getElem? (i := 87) (by decide +kernel)) (by decide +kernel)), Or.inl (lwG_in (List.mem_of_getElem? (i := 1289) (by decide +kernel)) (by decide +kernel))⟩, (lwG_in (List.mem_of_getElem? (i := 1290) (by decide +kernel)) (by decide +kernel)), (lwG_in (List.mem_of_getElem? (i := 1291) (by decide +kernel)) (by decide +kernel)), TX10, 49, rfl, by decide⟩
theorem mv_L_71 : MV RL 71 yX9_never cX9_never 4 (some .int) 1 9 := ⟨⟨⟨by decide +kernel, by decide +kernel, by decide +kernel⟩, cw_X9_never, (lwG_in (List.mem_of_getElem? (i := 71) (by decide +kernel)) (by decide +kernel)), Or.inl (lwG_in (List.mem_of_getElem? (i := 778) (by decide +kernel)) (by decide +kernel))⟩, (lwG_in (List.mem_of_getElem? (i := 779) (by decide +kernel)) (by decide +kernel)), (lwG_in (List.mem_of_getElem? (i := 780) (by decide +kernel)) (by decide +kernel)), TX9, 13, rfl, by decide⟩
theorem mv_L_75 : MV RL 75 yX10_never cX10_never 4 (some .int) 1 10 := ⟨⟨⟨by decide +kernel, by decide +kernel, by decide +kernel⟩, cw_X10_never, (lwG_in (List.mem_of_getElem? (i := 87) (by decide +kernel)) (by decide +kernel)), Or.inl (lwG_in (List.mem_of_getElem? (i := 1261) (by decide +kernel)) (by decide +kernel))⟩, (lwG_in (List.mem_of_getElem? (i := 1262) (by decide +kernel)) (by decide +kernel)), (lwG_in (List.mem_of_getElem? (i := 1263) (by decide +kernel)) (by decide +kernel)), TX10, 49, rfl, by decide⟩
theorem mv_L_76 : MV RL 76 yX9_stuck cX9_stuck 1 (some .int) 0 9 := ⟨⟨⟨by decide +kernel, by decide +kernel, by decide +kernel⟩, cw_X9_stuck, (lwG_in (List.mem_of_getElem? (i := 71) (by decide +kernel)) (by decide +kernel)), Or.inl (lwG_in (List.mem_of_getElem? (i := 789) (by decide +kernel)) (by decide +kernel))⟩, (lwG_in (List.mem_of_getElem? (i := 790) (by decide +kernel)) (by decide +kernel)), (lwG_in (List.mem_of_getElem? (i := 791) (by decide +kernel)) (by decide +kernel)), TX9, 13, rfl, by decide⟩
theorem mv_L_79 : MV RL 79 yX10_stuck cX10_stuck 1 (some .int) 0 10 := ⟨⟨⟨by decide +kernel, by decide +kernel, by decide +kernel⟩, cw_X10_stuck, (lwG_in (List.mem_of_getElem? (i := 87) (by decide +kernel)) (by decide +kernel)), Or.inl (lwG_in (List.mem_of_getElem? (i := 1265) (by decide +kernel)) (by decide +kernel))⟩, (lwG_in (List.mem_of_getElem? (i := 1266) (by decide +kernel)) (by decide +kernel)), (lwG_in (List.mem_of_getElem? (i := 1267) (by decide +kernel)) (by decide +kernel)), TX10, 49, rfl, by decide⟩
theorem mv_L_80 : MV RL 80 yX9_rest cX9_rest 1 (some .int) 0 9 := ⟨⟨⟨by decide +kernel, by decide +kernel, by decide +kernel⟩, cw_X9_rest, (lwG_in (List.mem_of_getElem? (i := 71) (by decide +kernel)) (by decide +kernel)), Or.inl (lwG_in (List.mem_of_getElem? (i := 799) (by decide +kernel)) (by decide +kernel))⟩, (lwG_in (List.mem_of_getElem? (i := 800) (by decide +kernel)) (by decide +kernel)), (lwG_in (List.mem_of_getElem? (i := 801) (by decide +kernel)) (by decide +kernel)), TX9, 13, rfl, by decide⟩
theorem mv_L_83 : MV RL 83 yX10_rest cX10_rest 1 (some .int) 0 10 := ⟨⟨⟨by decide +kernel, by decide +kernel, by decide +kernel⟩, cw_X10_rest, (lwG_in (List.mem_of_getElem? (i := 87) (by decide +kernel)) (by decide +kernel)), Or.inl (lwG_in (List.mem_of_getElem? (i := 1269) (by decide +kernel)) (by decide +kernel))⟩, (lwG_in (List.mem_of_getElem? (i := 1270) (by decide +kernel)) (by decide +kernel)), (lwG_in (List.mem_of_getElem? (i := 1271) (by decide +kernel)) (by decide +kernel)), TX10, 49, rfl, by decide⟩
theorem mv_L_84 : MV RL 84 yX9_holdsUp cX9_holdsUp 2 (some .int) 1 9 := ⟨⟨⟨by decide +kernel, by decide +kernel, by decide +kernel⟩, cw_X9_holdsUp, (lwG_in (List.mem_of_getElem? (i := 71) (by decide +kernel)) (by decide +kernel)), Or.inl (lwG_in (List.mem_of_getElem? (i := 812) (by decide +kernel)) (by decide +kernel))⟩, (lwG_in (List.mem_of_getElem? (i := 813) (by decide +kernel)) (by decide +kernel)), (lwG_in (List.mem_of_getElem? (i := 814) (by decide +kernel)) (by decide +kernel)), TX9, 13, rfl, by decide⟩
theorem mv_L_87 : MV RL 87 yX10_holdsUp cX10_holdsUp 6 (some .int) 1 10 := ⟨⟨⟨by decide +kernel, by decide +kernel, by decide +kernel⟩, cw_X10_holdsUp, (lwG_in (List.mem_of_getElem? (i := 87) (by decide +kernel)) (by decide +kernel)), Or.inl (lwG_in (List.mem_of_getElem? (i := 1281) (by decide +kernel)) (by decide +kernel))⟩, (lwG_in (List.mem_of_getElem? (i := 1282) (by decide +kernel)) (by decide +kernel)), (lwG_in (List.mem_of_getElem? (i := 1283) (by decide +kernel)) (by decide +kernel)), TX10, 49, rfl, by decide⟩
theorem mv_L_88 : MV RL 88 yX9_liked cX9_liked 6 (some .int) 1 9 := ⟨⟨⟨by decide +kernel, by decide +kernel, by decide +kernel⟩, cw_X9_liked, (lwG_in (List.mem_of_getElem? (i := 71) (by decide +kernel)) (by decide +kernel)), Or.inl (lwG_in (List.mem_of_getElem? (i := 848) (by decide +kernel)) (by decide +kernel))⟩, (lwG_in (List.mem_of_getElem? (i := 849) (by decide +kernel)) (by decide +kernel)), (lwG_in (List.mem_of_getElem? (i := 850) (by decide +kernel)) (by decide +kernel)), TX9, 13, rfl, by decide⟩
theorem mv_L_91 : MV RL 91 yX10_liked cX10_liked 6 (some .int) 1 10 := ⟨⟨⟨by decide +kernel, by decide +kernel, by decide +kernel⟩, cw_X10_liked, (lwG_in (List.mem_of_getElem? (i := 87) (by decide +kernel)) (by decide +kernel)), Or.inl (lwG_in (List.mem_of_getElem? (i := 1305) (by decide +kernel)) (by decide +kernel))⟩, (lwG_in (List.mem_of_getElem? (i := 1306) (by decide +kernel)) (by decide +kernel)), (lwG_in (List.mem_of_getElem? (i := 1307) (by decide +kernel)) (by decide +kernel)), TX10, 49, rfl, by decide⟩
theorem mv_L_92 : MV RL 92 yX9_most cX9_most 3 (some .int) 0 9 := ⟨⟨⟨by decide +kernel, by decide +kernel, by decide +kernel⟩, cw_X9_most, (lwG_in (List.mem_of_getElem? (i := 71) (by decide +kernel)) (by decide +kernel)), Or.inl (lwG_in (List.mem_of_getElem? (i := 856) (by decide +kernel)) (by decide +kernel))⟩, (lwG_in (List.mem_of_getElem? (i := 857) (by decide +kernel)) (by decide +kernel)), (lwG_in (List.mem_of_getElem? (i := 858) (by decide +kernel)) (by decide +kernel)), TX9, 13, rfl, by decide⟩
theorem mv_L_95 : MV RL 95 yX10_most cX10_most 7 (some .int) 0 10 := ⟨⟨⟨by decide +kernel, by decide +kernel, by decide +kernel⟩, cw_X10_most, (lwG_in (List.mem_of_getElem? (i := 87) (by decide +kernel)) (by decide +kernel)), Or.inl (lwG_in (List.mem_of_getElem? (i := 1313) (by decide +kernel)) (by decide +kernel))⟩, (lwG_in (List.mem_of_getElem? (i := 1314) (by decide +kernel)) (by decide +kernel)), (lwG_in (List.mem_of_getElem? (i := 1315) (by decide +kernel)) (by decide +kernel)), TX10, 49, rfl, by decide⟩
theorem mv_L_96 : MV RL 96 yX9_seats cX9_seats 1 (some .int) 0 9 := ⟨⟨⟨by decide +kernel, by decide +kernel, by decide +kernel⟩, cw_X9_seats, (lwG_in (List.mem_of_getElem? (i := 71) (by decide +kernel)) (by decide +kernel)), Or.inl (lwG_in (List.mem_of_getElem? (i := 862) (by decide +kernel)) (by decide +kernel))⟩, (lwG_in (List.mem_of_getElem? (i := 863) (by decide +kernel)) (by decide +kernel)), (lwG_in (List.mem_of_getElem? (i := 864) (by decide +kernel)) (by decide +kernel)), TX9, 13, rfl, by decide⟩
theorem mv_L_99 : MV RL 99 yX10_seats cX10_seats 6 (some .int) 0 10 := ⟨⟨⟨by decide +kernel, by decide +kernel, by decide +kernel⟩, cw_X10_seats, (lwG_in (List.mem_of_getElem? (i := 87) (by decide +kernel)) (by decide +kernel)), Or.inl (lwG_in (List.mem_of_getElem? (i := 1317) (by decide +kernel)) (by decide +kernel))⟩, (lwG_in (List.mem_of_getElem? (i := 1318) (by decide +kernel)) (by decide +kernel)), (lwG_in (List.mem_of_getElem? (i := 1319) (by decide +kernel)) (by decide +kernel)), TX10, 49, rfl, by decide⟩
theorem mv_L_100 : MV RL 100 yX9_went cX9_went 2 (some .long) 1 9 := ⟨⟨⟨by decide +kernel, by decide +kernel, by decide +kernel⟩, cw_X9_went, (lwG_in (List.mem_of_getElem? (i := 71) (by decide +kernel)) (by decide +kernel)), Or.inl (lwG_in (List.mem_of_getElem? (i := 883) (by decide +kernel)) (by decide +kernel))⟩, (lwG_in (List.mem_of_getElem? (i := 884) (by decide +kernel)) (by decide +kernel)), (lwG_in (List.mem_of_getElem? (i := 885) (by decide +kernel)) (by decide +kernel)), TX9, 13, rfl, by decide⟩
theorem mv_L_104 : MV RL 104 yX10_went cX10_went 4 (some .long) 1 10 := ⟨⟨⟨by decide +kernel, by decide +kernel, by decide +kernel⟩, cw_X10_went, (lwG_in (List.mem_of_getElem? (i := 87) (by decide +kernel)) (by decide +kernel)), Or.inl (lwG_in (List.mem_of_getElem? (i := 1325) (by decide +kernel)) (by decide +kernel))⟩, (lwG_in (List.mem_of_getElem? (i := 1326) (by decide +kernel)) (by decide +kernel)), (lwG_in (List.mem_of_getElem? (i := 1327) (by decide +kernel)) (by decide +kernel)), TX10, 49, rfl, by decide⟩
theorem mv_L_105 : MV RL 105 yX9_drawn cX9_drawn 10 (some .int) 3 9 := ⟨⟨⟨by decide +kernel, by decide +kernel, by decide +kernel⟩, cw_X9_drawn, (lwG_in (List.mem_of_getElem? (i := 71) (by decide +kernel)) (by decide +kernel)), Or.inl (lwG_in (List.mem_of_getElem? (i := 896) (by decide +kernel)) (by decide +kernel))⟩, (lwG_in (List.mem_of_getElem? (i := 897) (by decide +kernel)) (by decide +kernel)), (lwG_in (List.mem_of_getElem? (i := 898) (by decide +kernel)) (by decide +kernel)), TX9, 13, rfl, by decide⟩
theorem mv_L_108 : MV RL 108 yX10_drawn cX10_drawn 11 (some .int) 3 10 := ⟨⟨⟨by decide +kernel, by decide +kernel, by decide +kernel⟩, cw_X10_drawn, (lwG_in (List.mem_of_getElem? (i := 87) (by decide +kernel)) (by decide +kernel)), Or.inl (lwG_in (List.mem_of_getElem? (i := 1334) (by decide +kernel)) (by decide +kernel))⟩, (lwG_in (List.mem_of_getElem? (i := 1335) (by decide +kernel)) (by decide +kernel)), (lwG_in (List.mem_of_getElem? (i := 1336) (by decide +kernel)) (by decide +kernel)), TX10, 49, rfl, by decide⟩
theorem mv_L_109 : MV RL 109 yX9_keep cX9_keep 1 (some .int) 0 9 := ⟨⟨⟨by decide +kernel, by decide +kernel, by decide +kernel⟩, cw_X9_keep, (lwG_in (List.mem_of_getElem? (i := 71) (by decide +kernel)) (by decide +kernel)), Or.inl (lwG_in (List.mem_of_getElem? (i := 910) (by decide +kernel)) (by decide +kernel))⟩, (lwG_in (List.mem_of_getElem? (i := 911) (by decide +kernel)) (by decide +kernel)), (lwG_in (List.mem_of_getElem? (i := 912) (by decide +kernel)) (by decide +kernel)), TX9, 13, rfl, by decide⟩
theorem mv_L_112 : MV RL 112 yX10_keep cX10_keep 2 (some .int) 0 10 := ⟨⟨⟨by decide +kernel, by decide +kernel, by decide +kernel⟩, cw_X10_keep, (lwG_in (List.mem_of_getElem? (i := 87) (by decide +kernel)) (by decide +kernel)), Or.inl (lwG_in (List.mem_of_getElem? (i := 1341) (by decide +kernel)) (by decide +kernel))⟩, (lwG_in (List.mem_of_getElem? (i := 1342) (by decide +kernel)) (by decide +kernel)), (lwG_in (List.mem_of_getElem? (i := 1343) (by decide +kernel)) (by decide +kernel)), TX10, 49, rfl, by decide⟩
theorem mv_L_113 : MV RL 113 yX9_back cX9_back 1 (some .int) 0 9 := ⟨⟨⟨by decide +kernel, by decide +kernel, by decide +kernel⟩, cw_X9_back, (lwG_in (List.mem_of_getElem? (i := 71) (by decide +kernel)) (by decide +kernel)), Or.inl (lwG_in (List.mem_of_getElem? (i := 914) (by decide +kernel)) (by decide +kernel))⟩, (lwG_in (List.mem_of_getElem? (i := 915) (by decide +kernel)) (by decide +kernel)), (lwG_in (List.mem_of_getElem? (i := 916) (by decide +kernel)) (by decide +kernel)), TX9, 13, rfl, by decide⟩
theorem mv_L_116 : MV RL 116 yX10_back cX10_back 2 (some .int) 0 10 := ⟨⟨⟨by decide +kernel, by decide +kernel, by decide +kernel⟩, cw_X10_back, (lwG_in (List.mem_of_getElem? (i := 87) (by decide +kernel)) (by decide +kernel)), Or.inl (lwG_in (List.mem_of_getElem? (i := 1345) (by decide +kernel)) (by decide +kernel))⟩, (lwG_in (List.mem_of_getElem? (i := 1346) (by decide +kernel)) (by decide +kernel)), (lwG_in (List.mem_of_getElem? (i := 1347) (by decide +kernel)) (by decide +kernel)), TX10, 49, rfl, by decide⟩
theorem mv_L_117 : MV RL 117 yX9_count cX9_count 2 (some .int) 1 9 := ⟨⟨⟨by decide +kernel, by decide +kernel, by decide +kernel⟩, cw_X9_count, (lwG_in (List.mem_of_getElem? (i := 71) (by decide +kernel)) (by decide +kernel)), Or.inl (lwG_in (List.mem_of_getElem? (i := 918) (by decide +kernel)) (by decide +kernel))⟩, (lwG_in (List.mem_of_getElem? (i := 919) (by decide +kernel)) (by decide +kernel)), (lwG_in (List.mem_of_getElem? (i := 920) (by decide +kernel)) (by decide +kernel)), TX9, 13, rfl, by decide⟩
theorem mv_L_120 : MV RL 120 yX10_count cX10_count 2 (some .int) 1 10 := ⟨⟨⟨by decide +kernel, by decide +kernel, by decide +kernel⟩, cw_X10_count, (lwG_in (List.mem_of_getElem? (i := 87) (by decide +kernel)) (by decide +kernel)), Or.inl (lwG_in (List.mem_of_getElem? (i := 1349) (by decide +kernel)) (by decide +kernel))⟩, (lwG_in (List.mem_of_getElem? (i := 1350) (by decide +kernel)) (by decide +kernel)), (lwG_in (List.mem_of_getElem? (i := 1351) (by decide +kernel)) (by decide +kernel)), TX10, 49, rfl, by decide⟩
theorem mv_X10_106 : MV RX10 106 yX10_begins cX10_begins 1 none 0 10 := ⟨⟨⟨by decide +kernel, by decide +kernel, by decide +kernel⟩, cw_X10_begins, (lwG_in (List.mem_of_getElem? (i := 87) (by decide +kernel)) (by decide +kernel)), Or.inl (lwG_in (List.mem_of_getElem? (i := 929) (by decide +kernel)) (by decide +kernel))⟩, (lwG_in (List.mem_of_getElem? (i := 931) (by decide +kernel)) (by decide +kernel)), (lwG_in (List.mem_of_getElem? (i := 29) (by decide +kernel)) (by decide +kernel)), TX10, 49, rfl, by decide⟩
theorem mv_X10_113 : MV RX10 113 yX10_lays cX10_lays 3 none 0 10 := ⟨⟨⟨by decide +kernel, by decide +kernel, by decide +kernel⟩, cw_X10_lays, (lwG_in (List.mem_of_getElem? (i := 87) (by decide +kernel)) (by decide +kernel)), Or.inl (lwG_in (List.mem_of_getElem? (i := 933) (by decide +kernel)) (by decide +kernel))⟩, (lwG_in (List.mem_of_getElem? (i := 935) (by decide +kernel)) (by decide +kernel)), (lwG_in (List.mem_of_getElem? (i := 30) (by decide +kernel)) (by decide +kernel)), TX10, 49, rfl, by decide⟩
theorem ms_X10_119 : MS RX10 119 yX10_in cX10_in 3 (some .boolean) 3 := ⟨⟨⟨by decide +kernel, by decide +kernel, by decide +kernel⟩, cw_X10_in, (lwG_in (List.mem_of_getElem? (i := 87) (by decide +kernel)) (by decide +kernel)), Or.inl (lwG_in (List.mem_of_getElem? (i := 1090) (by decide +kernel)) (by decide +kernel))⟩, (lwG_in (List.mem_of_getElem? (i := 1091) (by decide +kernel)) (by decide +kernel))⟩
theorem mv_X10_146 : MV RX10 146 yX10_here cX10_here 1 (some .int) 0 10 := ⟨⟨⟨by decide +kernel, by decide +kernel, by decide +kernel⟩, cw_X10_here, (lwG_in (List.mem_of_getElem? (i := 87) (by decide +kernel)) (by decide +kernel)), Or.inl (lwG_in (List.mem_of_getElem? (i := 1110) (by decide +kernel)) (by decide +kernel))⟩, (lwG_in (List.mem_of_getElem? (i := 1112) (by decide +kernel)) (by decide +kernel)), (lwG_in (List.mem_of_getElem? (i := 33) (by decide +kernel)) (by decide +kernel)), TX10, 49, rfl, by decide⟩
theorem mv_X10_150 : MV RX10 150 yX10_number cX10_number 3 (some .int) 0 10 := ⟨⟨⟨by decide +kernel, by decide +kernel, by decide +kernel⟩, cw_X10_number, (lwG_in (List.mem_of_getElem? (i := 87) (by decide +kernel)) (by decide +kernel)), Or.inl (lwG_in (List.mem_of_getElem? (i := 1118) (by decide +kernel)) (by decide +kernel))⟩, (lwG_in (List.mem_of_getElem? (i := 1120) (by decide +kernel)) (by decide +kernel)), (lwG_in (List.mem_of_getElem? (i := 35) (by decide +kernel)) (by decide +kernel)), TX10, 49, rfl, by decide⟩
theorem mv_X10_153 : MV RX10 153 yX10_isSign cX10_isSign 3 (some .boolean) 1 10 := ⟨⟨⟨by decide +kernel, by decide +kernel, by decide +kernel⟩, cw_X10_isSign, (lwG_in (List.mem_of_getElem? (i := 87) (by decide +kernel)) (by decide +kernel)), Or.inl (lwG_in (List.mem_of_getElem? (i := 1122) (by decide +kernel)) (by decide +kernel))⟩, (lwG_in (List.mem_of_getElem? (i := 1124) (by decide +kernel)) (by decide +kernel)), (lwG_in (List.mem_of_getElem? (i := 36) (by decide +kernel)) (by decide +kernel)), TX10, 49, rfl, by decide⟩
theorem mv_X10_157 : MV RX10 157 yX10_isFree cX10_isFree 4 (some .boolean) 1 10 := ⟨⟨⟨by decide +kernel, by decide +kernel, by decide +kernel⟩, cw_X10_isFree, (lwG_in (List.mem_of_getElem? (i := 87) (by decide +kernel)) (by decide +kernel)), Or.inl (lwG_in (List.mem_of_getElem? (i := 1126) (by decide +kernel)) (by decide +kernel))⟩, (lwG_in (List.mem_of_getElem? (i := 1128) (by decide +kernel)) (by decide +kernel)), (lwG_in (List.mem_of_getElem? (i := 37) (by decide +kernel)) (by decide +kernel)), TX10, 49, rfl, by decide⟩
theorem mv_X10_160 : MV RX10 160 yX10_isGuestItem cX10_isGuestItem 5 (some .boolean) 0 10 := ⟨⟨⟨by decide +kernel, by decide +kernel, by decide +kernel⟩, cw_X10_isGuestItem, (lwG_in (List.mem_of_getElem? (i := 87) (by decide +kernel)) (by decide +kernel)), Or.inl (lwG_in (List.mem_of_getElem? (i := 1114) (by decide +kernel)) (by decide +kernel))⟩, (lwG_in (List.mem_of_getElem? (i := 1116) (by decide +kernel)) (by decide +kernel)), (lwG_in (List.mem_of_getElem? (i := 34) (by decide +kernel)) (by decide +kernel)), TX10, 49, rfl, by decide⟩
theorem mv_X10_164 : MV RX10 164 yX10_isWorthItem cX10_isWorthItem 2 (some .boolean) 0 10 := ⟨⟨⟨by decide +kernel, by decide +kernel, by decide +kernel⟩, cw_X10_isWorthItem, (lwG_in (List.mem_of_getElem? (i := 87) (by decide +kernel)) (by decide +kernel)), Or.inl (lwG_in (List.mem_of_getElem? (i := 1130) (by decide +kernel)) (by decide +kernel))⟩, (lwG_in (List.mem_of_getElem? (i := 1132) (by decide +kernel)) (by decide +kernel)), (lwG_in (List.mem_of_getElem? (i := 38) (by decide +kernel)) (by decide +kernel)), TX10, 49, rfl, by decide⟩
theorem mv_X10_167 : MV RX10 167 yX10_isItem cX10_isItem 5 (some .boolean) 0 10 := ⟨⟨⟨by decide +kernel, by decide +kernel, by decide +kernel⟩, cw_X10_isItem, (lwG_in (List.mem_of_getElem? (i := 87) (by decide +kernel)) (by decide +kernel)), Or.inl (lwG_in (List.mem_of_getElem? (i := 1106) (by decide +kernel)) (by decide +kernel))⟩, (lwG_in (List.mem_of_getElem? (i := 1108) (by decide +kernel)) (by decide +kernel)), (lwG_in (List.mem_of_getElem? (i := 32) (by decide +kernel)) (by decide +kernel)), TX10, 49, rfl, by decide⟩
theorem mv_X10_170 : MV RX10 170 yX10_findFault cX10_findFault 2 (some .int) 0 10 := ⟨⟨⟨by decide +kernel, by decide +kernel, by decide +kernel⟩, cw_X10_findFault, (lwG_in (List.mem_of_getElem? (i := 87) (by decide +kernel)) (by decide +kernel)), Or.inl (lwG_in (List.mem_of_getElem? (i := 1102) (by decide +kernel)) (by decide +kernel))⟩, (lwG_in (List.mem_of_getElem? (i := 1104) (by decide +kernel)) (by decide +kernel)), (lwG_in (List.mem_of_getElem? (i := 31) (by decide +kernel)) (by decide +kernel)), TX10, 49, rfl, by decide⟩
theorem mv_X10_192 : MV RX10 192 yX10_isGuest cX10_isGuest 2 (some .boolean) 1 10 := ⟨⟨⟨by decide +kernel, by decide +kernel, by decide +kernel⟩, cw_X10_isGuest, (lwG_in (List.mem_of_getElem? (i := 87) (by decide +kernel)) (by decide +kernel)), Or.inl (lwG_in (List.mem_of_getElem? (i := 1142) (by decide +kernel)) (by decide +kernel))⟩, (lwG_in (List.mem_of_getElem? (i := 1144) (by decide +kernel)) (by decide +kernel)), (lwG_in (List.mem_of_getElem? (i := 39) (by decide +kernel)) (by decide +kernel)), TX10, 49, rfl, by decide⟩
theorem mv_X10_195 : MV RX10 195 yX10_isDish cX10_isDish 2 (some .boolean) 1 10 := ⟨⟨⟨by decide +kernel, by decide +kernel, by decide +kernel⟩, cw_X10_isDish, (lwG_in (List.mem_of_getElem? (i := 87) (by decide +kernel)) (by decide +kernel)), Or.inl (lwG_in (List.mem_of_getElem? (i := 1150) (by decide +kernel)) (by decide +kernel))⟩, (lwG_in (List.mem_of_getElem? (i := 1152) (by decide +kernel)) (by decide +kernel)), (lwG_in (List.mem_of_getElem? (i := 40) (by decide +kernel)) (by decide +kernel)), TX10, 49, rfl, by decide⟩
theorem mv_X10_198 : MV RX10 198 yX10_worthAt cX10_worthAt 5 (some .int) 3 10 := ⟨⟨⟨by decide +kernel, by decide +kernel, by decide +kernel⟩, cw_X10_worthAt, (lwG_in (List.mem_of_getElem? (i := 87) (by decide +kernel)) (by decide +kernel)), Or.inl (lwG_in (List.mem_of_getElem? (i := 1154) (by decide +kernel)) (by decide +kernel))⟩, (lwG_in (List.mem_of_getElem? (i := 1156) (by decide +kernel)) (by decide +kernel)), (lwG_in (List.mem_of_getElem? (i := 41) (by decide +kernel)) (by decide +kernel)), TX10, 49, rfl, by decide⟩
theorem mv_X10_202 : MV RX10 202 yX10_wayOf cX10_wayOf 4 (some .int) 2 10 := ⟨⟨⟨by decide +kernel, by decide +kernel, by decide +kernel⟩, cw_X10_wayOf, (lwG_in (List.mem_of_getElem? (i := 87) (by decide +kernel)) (by decide +kernel)), Or.inl (lwG_in (List.mem_of_getElem? (i := 1166) (by decide +kernel)) (by decide +kernel))⟩, (lwG_in (List.mem_of_getElem? (i := 1168) (by decide +kernel)) (by decide +kernel)), (lwG_in (List.mem_of_getElem? (i := 43) (by decide +kernel)) (by decide +kernel)), TX10, 49, rfl, by decide⟩
theorem mv_X10_206 : MV RX10 206 yX10_handsOf cX10_handsOf 4 (some .int) 2 10 := ⟨⟨⟨by decide +kernel, by decide +kernel, by decide +kernel⟩, cw_X10_handsOf, (lwG_in (List.mem_of_getElem? (i := 87) (by decide +kernel)) (by decide +kernel)), Or.inl (lwG_in (List.mem_of_getElem? (i := 1162) (by decide +kernel)) (by decide +kernel))⟩, (lwG_in (List.mem_of_getElem? (i := 1164) (by decide +kernel)) (by decide +kernel)), (lwG_in (List.mem_of_getElem? (i := 42) (by decide +kernel)) (by decide +kernel)), TX10, 49, rfl, by decide⟩
theorem mv_X10_209 : MV RX10 209 yX10_likes cX10_likes 3 (some .int) 2 10 := ⟨⟨⟨by decide +kernel, by decide +kernel, by decide +kernel⟩, cw_X10_likes, (lwG_in (List.mem_of_getElem? (i := 87) (by decide +kernel)) (by decide +kernel)), Or.inl (lwG_in (List.mem_of_getElem? (i := 1194) (by decide +kernel)) (by decide +kernel))⟩, (lwG_in (List.mem_of_getElem? (i := 1196) (by decide +kernel)) (by decide +kernel)), (lwG_in (List.mem_of_getElem? (i := 49) (by decide +kernel)) (by decide +kernel)), TX10, 49, rfl, by decide⟩
theorem mv_X10_212 : MV RX10 212 yX10_goes cX10_goes 9 (some .int) 4 10 := ⟨⟨⟨by decide +kernel, by decide +kernel, by decide +kernel⟩, cw_X10_goes, (lwG_in (List.mem_of_getElem? (i := 87) (by decide +kernel)) (by decide +kernel)), Or.inl (lwG_in (List.mem_of_getElem? (i := 1190) (by decide +kernel)) (by decide +kernel))⟩, (lwG_in (List.mem_of_getElem? (i := 1192) (by decide +kernel)) (by decide +kernel)), (lwG_in (List.mem_of_getElem? (i := 48) (by decide +kernel)) (by decide +kernel)), TX10, 49, rfl, by decide⟩
theorem mv_X10_216 : MV RX10 216 yX10_childChanges cX10_childChanges 4 none 1 10 := ⟨⟨⟨by decide +kernel, by decide +kernel, by decide +kernel⟩, cw_X10_childChanges, (lwG_in (List.mem_of_getElem? (i := 87) (by decide +kernel)) (by decide +kernel)), Or.inl (lwG_in (List.mem_of_getElem? (i := 1198) (by decide +kernel)) (by decide +kernel))⟩, (lwG_in (List.mem_of_getElem? (i := 1200) (by decide +kernel)) (by decide +kernel)), (lwG_in (List.mem_of_getElem? (i := 50) (by decide +kernel)) (by decide +kernel)), TX10, 49, rfl, by decide⟩
theorem mv_X10_220 : MV RX10 220 yX10_sits cX10_sits 3 none 0 10 := ⟨⟨⟨by decide +kernel, by decide +kernel, by decide +kernel⟩, cw_X10_sits, (lwG_in (List.mem_of_getElem? (i := 87) (by decide +kernel)) (by decide +kernel)), Or.inl (lwG_in (List.mem_of_getElem? (i := 1174) (by decide +kernel)) (by decide +kernel))⟩, (lwG_in (List.mem_of_getElem? (i := 1176) (by decide +kernel)) (by decide +kernel)), (lwG_in (List.mem_of_getElem? (i := 44) (by decide +kernel)) (by decide +kernel)), TX10, 49, rfl, by decide⟩
theorem mv_X10_223 : MV RX10 223 yX10_mayAsk cX10_mayAsk 3 (some .boolean) 2 10 := ⟨⟨⟨by decide +kernel, by decide +kernel, by decide +kernel⟩, cw_X10_mayAsk, (lwG_in (List.mem_of_getElem? (i := 87) (by decide +kernel)) (by decide +kernel)), Or.inl (lwG_in (List.mem_of_getElem? (i := 1178) (by decide +kernel)) (by decide +kernel))⟩, (lwG_in (List.mem_of_getElem? (i := 1180) (by decide +kernel)) (by decide +kernel)), (lwG_in (List.mem_of_getElem? (i := 45) (by decide +kernel)) (by decide +kernel)), TX10, 49, rfl, by decide⟩
theorem mv_X10_227 : MV RX10 227 yX10_remembers cX10_remembers 2 none 0 10 := ⟨⟨⟨by decide +kernel, by decide +kernel, by decide +kernel⟩, cw_X10_remembers, (lwG_in (List.mem_of_getElem? (i := 87) (by decide +kernel)) (by decide +kernel)), Or.inl (lwG_in (List.mem_of_getElem? (i := 1182) (by decide +kernel)) (by decide +kernel))⟩, (lwG_in (List.mem_of_getElem? (i := 1184) (by decide +kernel)) (by decide +kernel)), (lwG_in (List.mem_of_getElem? (i := 46) (by decide +kernel)) (by decide +kernel)), TX10, 49, rfl, by decide⟩
theorem mv_X10_230 : MV RX10 230 yX10_asks cX10_asks 8 none 2 10 := ⟨⟨⟨by decide +kernel, by decide +kernel, by decide +kernel⟩, cw_X10_asks, (lwG_in (List.mem_of_getElem? (i := 87) (by decide +kernel)) (by decide +kernel)), Or.inl (lwG_in (List.mem_of_getElem? (i := 1186) (by decide +kernel)) (by decide +kernel))⟩, (lwG_in (List.mem_of_getElem? (i := 1188) (by decide +kernel)) (by decide +kernel)), (lwG_in (List.mem_of_getElem? (i := 47) (by decide +kernel)) (by decide +kernel)), TX10, 49, rfl, by decide⟩
theorem mv_X10_234 : MV RX10 234 yX10_puts cX10_puts 2 none 0 10 := ⟨⟨⟨by decide +kernel, by decide +kernel, by decide +kernel⟩, cw_X10_puts, (lwG_in (List.mem_of_getElem? (i := 87) (by decide +kernel)) (by decide +kernel)), Or.inl (lwG_in (List.mem_of_getElem? (i := 1202) (by decide +kernel)) (by decide +kernel))⟩, (lwG_in (List.mem_of_getElem? (i := 1204) (by decide +kernel)) (by decide +kernel)), (lwG_in (List.mem_of_getElem? (i := 51) (by decide +kernel)) (by decide +kernel)), TX10, 49, rfl, by decide⟩
theorem ms_X10_237 : MS RX10 237 yX10_power cX10_power 3 (some .int) 1 := ⟨⟨⟨by decide +kernel, by decide +kernel, by decide +kernel⟩, cw_X10_power, (lwG_in (List.mem_of_getElem? (i := 87) (by decide +kernel)) (by decide +kernel)), Or.inl (lwG_in (List.mem_of_getElem? (i := 1230) (by decide +kernel)) (by decide +kernel))⟩, (lwG_in (List.mem_of_getElem? (i := 1231) (by decide +kernel)) (by decide +kernel))⟩
theorem mv_X10_244 : MV RX10 244 yX10_seatIn cX10_seatIn 3 (some .int) 2 10 := ⟨⟨⟨by decide +kernel, by decide +kernel, by decide +kernel⟩, cw_X10_seatIn, (lwG_in (List.mem_of_getElem? (i := 87) (by decide +kernel)) (by decide +kernel)), Or.inl (lwG_in (List.mem_of_getElem? (i := 1241) (by decide +kernel)) (by decide +kernel))⟩, (lwG_in (List.mem_of_getElem? (i := 1243) (by decide +kernel)) (by decide +kernel)), (lwG_in (List.mem_of_getElem? (i := 57) (by decide +kernel)) (by decide +kernel)), TX10, 49, rfl, by decide⟩
theorem mv_X10_253 : MV RX10 253 yX10_codeNow cX10_codeNow 3 (some .int) 0 10 := ⟨⟨⟨by decide +kernel, by decide +kernel, by decide +kernel⟩, cw_X10_codeNow, (lwG_in (List.mem_of_getElem? (i := 87) (by decide +kernel)) (by decide +kernel)), Or.inl (lwG_in (List.mem_of_getElem? (i := 1226) (by decide +kernel)) (by decide +kernel))⟩, (lwG_in (List.mem_of_getElem? (i := 1228) (by decide +kernel)) (by decide +kernel)), (lwG_in (List.mem_of_getElem? (i := 54) (by decide +kernel)) (by decide +kernel)), TX10, 49, rfl, by decide⟩
theorem mv_X10_256 : MV RX10 256 yX10_adds cX10_adds 4 none 3 10 := ⟨⟨⟨by decide +kernel, by decide +kernel, by decide +kernel⟩, cw_X10_adds, (lwG_in (List.mem_of_getElem? (i := 87) (by decide +kernel)) (by decide +kernel)), Or.inl (lwG_in (List.mem_of_getElem? (i := 1233) (by decide +kernel)) (by decide +kernel))⟩, (lwG_in (List.mem_of_getElem? (i := 1235) (by decide +kernel)) (by decide +kernel)), (lwG_in (List.mem_of_getElem? (i := 55) (by decide +kernel)) (by decide +kernel)), TX10, 49, rfl, by decide⟩
theorem mv_X10_260 : MV RX10 260 yX10_beginsList cX10_beginsList 2 none 0 10 := ⟨⟨⟨by decide +kernel, by decide +kernel, by decide +kernel⟩, cw_X10_beginsList, (lwG_in (List.mem_of_getElem? (i := 87) (by decide +kernel)) (by decide +kernel)), Or.inl (lwG_in (List.mem_of_getElem? (i := 1222) (by decide +kernel)) (by decide +kernel))⟩, (lwG_in (List.mem_of_getElem? (i := 1224) (by decide +kernel)) (by decide +kernel)), (lwG_in (List.mem_of_getElem? (i := 53) (by decide +kernel)) (by decide +kernel)), TX10, 49, rfl, by decide⟩
theorem mv_X10_263 : MV RX10 263 yX10_loads cX10_loads 3 none 1 10 := ⟨⟨⟨by decide +kernel, by decide +kernel, by decide +kernel⟩, cw_X10_loads, (lwG_in (List.mem_of_getElem? (i := 87) (by decide +kernel)) (by decide +kernel)), Or.inl (lwG_in (List.mem_of_getElem? (i := 1237) (by decide +kernel)) (by decide +kernel))⟩, (lwG_in (List.mem_of_getElem? (i := 1239) (by decide +kernel)) (by decide +kernel)), (lwG_in (List.mem_of_getElem? (i := 56) (by decide +kernel)) (by decide +kernel)), TX10, 49, rfl, by decide⟩
theorem mv_X10_266 : MV RX10 266 yX10_comes cX10_comes 5 none 3 10 := ⟨⟨⟨by decide +kernel, by decide +kernel, by decide +kernel⟩, cw_X10_comes, (lwG_in (List.mem_of_getElem? (i := 87) (by decide +kernel)) (by decide +kernel)), Or.inl (lwG_in (List.mem_of_getElem? (i := 1245) (by decide +kernel)) (by decide +kernel))⟩, (lwG_in (List.mem_of_getElem? (i := 1247) (by decide +kernel)) (by decide +kernel)), (lwG_in (List.mem_of_getElem? (i := 58) (by decide +kernel)) (by decide +kernel)), TX10, 49, rfl, by decide⟩
theorem mv_X10_269 : MV RX10 269 yX10_indexOf cX10_indexOf 2 (some .int) 1 10 := ⟨⟨⟨by decide +kernel, by decide +kernel, by decide +kernel⟩, cw_X10_indexOf, (lwG_in (List.mem_of_getElem? (i := 87) (by decide +kernel)) (by decide +kernel)), Or.inl (lwG_in (List.mem_of_getElem? (i := 1249) (by decide +kernel)) (by decide +kernel))⟩, (lwG_in (List.mem_of_getElem? (i := 1251) (by decide +kernel)) (by decide +kernel)), (lwG_in (List.mem_of_getElem? (i := 59) (by decide +kernel)) (by decide +kernel)), TX10, 49, rfl, by decide⟩
theorem mv_X10_272 : MV RX10 272 yX10_findAll cX10_findAll 5 none 0 10 := ⟨⟨⟨by decide +kernel, by decide +kernel, by decide +kernel⟩, cw_X10_findAll, (lwG_in (List.mem_of_getElem? (i := 87) (by decide +kernel)) (by decide +kernel)), Or.inl (lwG_in (List.mem_of_getElem? (i := 1218) (by decide +kernel)) (by decide +kernel))⟩, (lwG_in (List.mem_of_getElem? (i := 1220) (by decide +kernel)) (by decide +kernel)), (lwG_in (List.mem_of_getElem? (i := 52) (by decide +kernel)) (by decide +kernel)), TX10, 49, rfl, by decide⟩
theorem mv_X10_275 : MV RX10 275 yX10_needOf cX10_needOf 6 (some .int) 2 10 := ⟨⟨⟨by decide +kernel, by decide +kernel, by decide +kernel⟩, cw_X10_needOf, (lwG_in (List.mem_of_getElem? (i := 87) (by decide +kernel)) (by decide +kernel)), Or.inl (lwG_in (List.mem_of_getElem? (i := 1253) (by decide +kernel)) (by decide +kernel))⟩, (lwG_in (List.mem_of_getElem? (i := 1255) (by decide +kernel)) (by decide +kernel)), (lwG_in (List.mem_of_getElem? (i := 60) (by decide +kernel)) (by decide +kernel)), TX10, 49, rfl, by decide⟩
theorem mv_X10_278 : MV RX10 278 yX10_isAtRest cX10_isAtRest 4 (some .boolean) 1 10 := ⟨⟨⟨by decide +kernel, by decide +kernel, by decide +kernel⟩, cw_X10_isAtRest, (lwG_in (List.mem_of_getElem? (i := 87) (by decide +kernel)) (by decide +kernel)), Or.inl (lwG_in (List.mem_of_getElem? (i := 1277) (by decide +kernel)) (by decide +kernel))⟩, (lwG_in (List.mem_of_getElem? (i := 1279) (by decide +kernel)) (by decide +kernel)), (lwG_in (List.mem_of_getElem? (i := 62) (by decide +kernel)) (by decide +kernel)), TX10, 49, rfl, by decide⟩
theorem mv_X10_281 : MV RX10 281 yX10_restOf cX10_restOf 3 (some .int) 0 10 := ⟨⟨⟨by decide +kernel, by decide +kernel, by decide +kernel⟩, cw_X10_restOf, (lwG_in (List.mem_of_getElem? (i := 87) (by decide +kernel)) (by decide +kernel)), Or.inl (lwG_in (List.mem_of_getElem? (i := 1273) (by decide +kernel)) (by decide +kernel))⟩, (lwG_in (List.mem_of_getElem? (i := 1275) (by decide +kernel)) (by decide +kernel)), (lwG_in (List.mem_of_getElem? (i := 61) (by decide +kernel)) (by decide +kernel)), TX10, 49, rfl, by decide⟩
theorem mv_X10_284 : MV RX10 284 yX10_heldBy cX10_heldBy 5 (some .int) 1 10 := ⟨⟨⟨by decide +kernel, by decide +kernel, by decide +kernel⟩, cw_X10_heldBy, (lwG_in (List.mem_of_getElem? (i := 87) (by decide +kernel)) (by decide +kernel)), Or.inl (lwG_in (List.mem_of_getElem? (i := 1285) (by decide +kernel)) (by decide +kernel))⟩, (lwG_in (List.mem_of_getElem? (i := 1287) (by decide +kernel)) (by decide +kernel)), (lwG_in (List.mem_of_getElem? (i := 63) (by decide +kernel)) (by decide +kernel)), TX10, 49, rfl, by decide⟩
theorem mv_X10_287 : MV RX10 287 yX10_costs cX10_costs 3 none 1 10 := ⟨⟨⟨by decide +kernel, by decide +kernel, by decide +kernel⟩, cw_X10_costs, (lwG_in (List.mem_of_getElem? (i := 87) (by decide +kernel)) (by decide +kernel)), Or.inl (lwG_in (List.mem_of_getElem? (i := 1297) (by decide +kernel)) (by decide +kernel))⟩, (lwG_in (List.mem_of_getElem? (i := 1299) (by decide +kernel)) (by decide +kernel)), (lwG_in (List.mem_of_getElem? (i := 65) (by decide +kernel)) (by decide +kernel)), TX10, 49, rfl, by decide⟩
theorem mv_X10_290 : MV RX10 290 yX10_cheapest cX10_cheapest 3 (some .int) 0 10 := ⟨⟨⟨by decide +kernel, by decide +kernel, by decide +kernel⟩, cw_X10_cheapest, (lwG_in (List.mem_of_getElem? (i := 87) (by decide +kernel)) (by decide +kernel)), Or.inl (lwG_in (List.mem_of_getElem? (i := 1301) (by decide +kernel)) (by decide +kernel))⟩, (lwG_in (List.mem_of_getElem? (i := 1303) (by decide +kernel)) (by decide +kernel)), (lwG_in (List.mem_of_getElem? (i := 66) (by decide +kernel)) (by decide +kernel)), TX10, 49, rfl, by decide⟩
theorem mv_X10_293 : MV RX10 293 yX10_findPrices cX10_findPrices 6 none 0 10 := ⟨⟨⟨by decide +kernel, by decide +kernel, by decide +kernel⟩, cw_X10_findPrices, (lwG_in (List.mem_of_getElem? (i := 87) (by decide +kernel)) (by decide +kernel)), Or.inl (lwG_in (List.mem_of_getElem? (i := 1293) (by decide +kernel)) (by decide +kernel))⟩, (lwG_in (List.mem_of_getElem? (i := 1295) (by decide +kernel)) (by decide +kernel)), (lwG_in (List.mem_of_getElem? (i := 64) (by decide +kernel)) (by decide +kernel)), TX10, 49, rfl, by decide⟩
theorem mv_X10_296 : MV RX10 296 yX10_areGlad cX10_areGlad 3 (some .boolean) 2 10 := ⟨⟨⟨by decide +kernel, by decide +kernel, by decide +kernel⟩, cw_X10_areGlad, (lwG_in (List.mem_of_getElem? (i := 87) (by decide +kernel)) (by decide +kernel)), Or.inl (lwG_in (List.mem_of_getElem? (i := 1309) (by decide +kernel)) (by decide +kernel))⟩, (lwG_in (List.mem_of_getElem? (i := 1311) (by decide +kernel)) (by decide +kernel)), (lwG_in (List.mem_of_getElem? (i := 67) (by decide +kernel)) (by decide +kernel)), TX10, 49, rfl, by decide⟩
theorem mv_X10_299 : MV RX10 299 yX10_swapSits cX10_swapSits 7 none 2 10 := ⟨⟨⟨by decide +kernel, by decide +kernel, by decide +kernel⟩, cw_X10_swapSits, (lwG_in (List.mem_of_getElem? (i := 87) (by decide +kernel)) (by decide +kernel)), Or.inl (lwG_in (List.mem_of_getElem? (i := 1321) (by decide +kernel)) (by decide +kernel))⟩, (lwG_in (List.mem_of_getElem? (i := 1323) (by decide +kernel)) (by decide +kernel)), (lwG_in (List.mem_of_getElem? (i := 68) (by decide +kernel)) (by decide +kernel)), TX10, 49, rfl, by decide⟩
theorem mv_X10_304 : MV RX10 304 yX10_waysOn cX10_waysOn 3 none 0 10 := ⟨⟨⟨by decide +kernel, by decide +kernel, by decide +kernel⟩, cw_X10_waysOn, (lwG_in (List.mem_of_getElem? (i := 87) (by decide +kernel)) (by decide +kernel)), Or.inl (lwG_in (List.mem_of_getElem? (i := 1330) (by decide +kernel)) (by decide +kernel))⟩, (lwG_in (List.mem_of_getElem? (i := 1332) (by decide +kernel)) (by decide +kernel)), (lwG_in (List.mem_of_getElem? (i := 69) (by decide +kernel)) (by decide +kernel)), TX10, 49, rfl, by decide⟩
theorem ms_J0_495 : MS RJ0 495 yJ1_charAt_3b067 cJ1_charAt_3b067 2 (some .char) 2 := ⟨⟨⟨by decide +kernel, by decide +kernel, by decide +kernel⟩, cw_J1_charAt_3b067, (lwG_in (List.mem_of_getElem? (i := 83) (by decide +kernel)) (by decide +kernel)), Or.inl (lwG_in (List.mem_of_getElem? (i := 369) (by decide +kernel)) (by decide +kernel))⟩, (lwG_in (List.mem_of_getElem? (i := 370) (by decide +kernel)) (by decide +kernel))⟩
theorem ms_J0_498 : MS RJ0 498 yJ2_charAt_3b067 cJ2_charAt_3b067 2 (some .char) 2 := ⟨⟨⟨by decide +kernel, by decide +kernel, by decide +kernel⟩, cw_J2_charAt_3b067, (lwG_in (List.mem_of_getElem? (i := 85) (by decide +kernel)) (by decide +kernel)), Or.inl (lwG_in (List.mem_of_getElem? (i := 380) (by decide +kernel)) (by decide +kernel))⟩, (lwG_in (List.mem_of_getElem? (i := 381) (by decide +kernel)) (by decide +kernel))⟩
theorem ms_J0_1059 : MS RJ0 1059 yJ3_checkIndex_8e157 cJ3_checkIndex_8e157 3 (some .int) 3 := ⟨⟨⟨by decide +kernel, by decide +kernel, by decide +kernel⟩, cw_J3_checkIndex_8e157, (lwG_in (List.mem_of_getElem? (i := 84) (by decide +kernel)) (by decide +kernel)), Or.inl (lwG_in (List.mem_of_getElem? (i := 377) (by decide +kernel)) (by decide +kernel))⟩, (lwG_in (List.mem_of_getElem? (i := 378) (by decide +kernel)) (by decide +kernel))⟩
theorem ms_J1_9 : MS RJ1 9 yJ0_checkIndex_df160 cJ0_checkIndex_df160 2 none 2 := ⟨⟨⟨by decide +kernel, by decide +kernel, by decide +kernel⟩, cw_J0_checkIndex_df160, (lwG_in (List.mem_of_getElem? (i := 82) (by decide +kernel)) (by decide +kernel)), Or.inl (lwG_in (List.mem_of_getElem? (i := 372) (by decide +kernel)) (by decide +kernel))⟩, (lwG_in (List.mem_of_getElem? (i := 373) (by decide +kernel)) (by decide +kernel))⟩
theorem ms_J2_48 : MS RJ2 48 yJ2_length_9d52b cJ2_length_9d52b 1 (some .int) 1 := ⟨⟨⟨by decide +kernel, by decide +kernel, by decide +kernel⟩, cw_J2_length_9d52b, (lwG_in (List.mem_of_getElem? (i := 85) (by decide +kernel)) (by decide +kernel)), Or.inl (lwG_in (List.mem_of_getElem? (i := 386) (by decide +kernel)) (by decide +kernel))⟩, (lwG_in (List.mem_of_getElem? (i := 387) (by decide +kernel)) (by decide +kernel))⟩
theorem ms_J2_67 : MS RJ2 67 yJ2_checkIndex_2214a cJ2_checkIndex_2214a 2 none 2 := ⟨⟨⟨by decide +kernel, by decide +kernel, by decide +kernel⟩, cw_J2_checkIndex_2214a, (lwG_in (List.mem_of_getElem? (i := 85) (by decide +kernel)) (by decide +kernel)), Or.inl (lwG_in (List.mem_of_getElem? (i := 383) (by decide +kernel)) (by decide +kernel))⟩, (lwG_in (List.mem_of_getElem? (i := 384) (by decide +kernel)) (by decide +kernel))⟩
theorem ms_J2_71 : MS RJ2 71 yJ2_getChar_3b067 cJ2_getChar_3b067 2 (some .char) 2 := ⟨⟨⟨by decide +kernel, by decide +kernel, by decide +kernel⟩, cw_J2_getChar_3b067, (lwG_in (List.mem_of_getElem? (i := 85) (by decide +kernel)) (by decide +kernel)), Or.inl (lwG_in (List.mem_of_getElem? (i := 390) (by decide +kernel)) (by decide +kernel))⟩, (lwG_in (List.mem_of_getElem? (i := 391) (by decide +kernel)) (by decide +kernel))⟩
theorem ms_J2_414 : MS RJ2 414 yJ0_checkIndex_df160 cJ0_checkIndex_df160 2 none 2 := ⟨⟨⟨by decide +kernel, by decide +kernel, by decide +kernel⟩, cw_J0_checkIndex_df160, (lwG_in (List.mem_of_getElem? (i := 82) (by decide +kernel)) (by decide +kernel)), Or.inl (lwG_in (List.mem_of_getElem? (i := 389) (by decide +kernel)) (by decide +kernel))⟩, (lwG_in (List.mem_of_getElem? (i := 373) (by decide +kernel)) (by decide +kernel))⟩
end
