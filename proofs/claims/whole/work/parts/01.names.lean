-- ===== PART A: goes FIRST, ahead of the names: the tables' words, and 'selects' of the private methods out of them =====
/-- a private method of a class that the tables say can be made, by its rows of tables_1 -/
def lw_okq (q : MethodName × Nat) : Prop := (q.1.cls ≠ "java/lang/invoke/MethodHandle" ∧ q.1.cls ≠ "java/lang/invoke/VarHandle") ∧ Cond.instantiable q.1.cls q.2 ∈ tables_1 ∧ Cond.privateMethod q.1 ∈ tables_1 ∧ Cond.instanceMethod q.1 ∈ tables_1
theorem lw_p0 : lw_okq (⟨"SpoonHates$Reader", "readLine", "(I)Z"⟩, 8) := ⟨⟨by decide +kernel, by decide +kernel⟩, List.mem_of_getElem? (i := 173) (by decide +kernel), List.mem_of_getElem? (i := 381) (by decide +kernel), List.mem_of_getElem? (i := 382) (by decide +kernel)⟩
theorem lw_p1 : lw_okq (⟨"SpoonHates$Reader", "fails", "(I)Z"⟩, 8) := ⟨⟨by decide +kernel, by decide +kernel⟩, List.mem_of_getElem? (i := 173) (by decide +kernel), List.mem_of_getElem? (i := 385) (by decide +kernel), List.mem_of_getElem? (i := 386) (by decide +kernel)⟩
theorem lw_p2 : lw_okq (⟨"SpoonHates$Reader", "lineOfName", "()I"⟩, 8) := ⟨⟨by decide +kernel, by decide +kernel⟩, List.mem_of_getElem? (i := 173) (by decide +kernel), List.mem_of_getElem? (i := 389) (by decide +kernel), List.mem_of_getElem? (i := 390) (by decide +kernel)⟩
theorem lw_p3 : lw_okq (⟨"SpoonHates$Reader", "readHatred", "(Z)Z"⟩, 8) := ⟨⟨by decide +kernel, by decide +kernel⟩, List.mem_of_getElem? (i := 173) (by decide +kernel), List.mem_of_getElem? (i := 454) (by decide +kernel), List.mem_of_getElem? (i := 455) (by decide +kernel)⟩
theorem lw_p4 : lw_okq (⟨"SpoonHates$Reader", "readHelper", "(I)I"⟩, 8) := ⟨⟨by decide +kernel, by decide +kernel⟩, List.mem_of_getElem? (i := 173) (by decide +kernel), List.mem_of_getElem? (i := 458) (by decide +kernel), List.mem_of_getElem? (i := 459) (by decide +kernel)⟩
theorem lw_p5 : lw_okq (⟨"SpoonHates$Reader", "readNumber", "(II)I"⟩, 8) := ⟨⟨by decide +kernel, by decide +kernel⟩, List.mem_of_getElem? (i := 173) (by decide +kernel), List.mem_of_getElem? (i := 462) (by decide +kernel), List.mem_of_getElem? (i := 463) (by decide +kernel)⟩
theorem lw_p6 : lw_okq (⟨"SpoonHates$Reader", "readSemicolon", "()Z"⟩, 8) := ⟨⟨by decide +kernel, by decide +kernel⟩, List.mem_of_getElem? (i := 173) (by decide +kernel), List.mem_of_getElem? (i := 477) (by decide +kernel), List.mem_of_getElem? (i := 478) (by decide +kernel)⟩
theorem lw_p7 : lw_okq (⟨"SpoonHates$Reader", "readPot", "()Z"⟩, 8) := ⟨⟨by decide +kernel, by decide +kernel⟩, List.mem_of_getElem? (i := 173) (by decide +kernel), List.mem_of_getElem? (i := 481) (by decide +kernel), List.mem_of_getElem? (i := 482) (by decide +kernel)⟩
theorem lw_p8 : lw_okq (⟨"SpoonHates$Reader", "readSlip", "()Z"⟩, 8) := ⟨⟨by decide +kernel, by decide +kernel⟩, List.mem_of_getElem? (i := 173) (by decide +kernel), List.mem_of_getElem? (i := 485) (by decide +kernel), List.mem_of_getElem? (i := 486) (by decide +kernel)⟩
theorem lw_p9 : lw_okq (⟨"SpoonHates$Reader", "readPlan", "()Z"⟩, 8) := ⟨⟨by decide +kernel, by decide +kernel⟩, List.mem_of_getElem? (i := 173) (by decide +kernel), List.mem_of_getElem? (i := 497) (by decide +kernel), List.mem_of_getElem? (i := 498) (by decide +kernel)⟩
theorem lw_p10 : lw_okq (⟨"SpoonHates$Reader", "addHelper", "(I)Z"⟩, 8) := ⟨⟨by decide +kernel, by decide +kernel⟩, List.mem_of_getElem? (i := 173) (by decide +kernel), List.mem_of_getElem? (i := 513) (by decide +kernel), List.mem_of_getElem? (i := 514) (by decide +kernel)⟩
theorem lw_p11 : lw_okq (⟨"SpoonHates", "changeNeed", "(I)I"⟩, 11) := ⟨⟨by decide +kernel, by decide +kernel⟩, List.mem_of_getElem? (i := 21) (by decide +kernel), List.mem_of_getElem? (i := 631) (by decide +kernel), List.mem_of_getElem? (i := 632) (by decide +kernel)⟩
theorem lw_p12 : lw_okq (⟨"SpoonHates", "changeNoon", "(I)I"⟩, 11) := ⟨⟨by decide +kernel, by decide +kernel⟩, List.mem_of_getElem? (i := 21) (by decide +kernel), List.mem_of_getElem? (i := 635) (by decide +kernel), List.mem_of_getElem? (i := 636) (by decide +kernel)⟩
theorem lw_p13 : lw_okq (⟨"SpoonHates$Soup", "cool", "(II)V"⟩, 8) := ⟨⟨by decide +kernel, by decide +kernel⟩, List.mem_of_getElem? (i := 35) (by decide +kernel), List.mem_of_getElem? (i := 672) (by decide +kernel), List.mem_of_getElem? (i := 673) (by decide +kernel)⟩
theorem lw_p14 : lw_okq (⟨"SpoonHates", "leastRound", "(III)I"⟩, 11) := ⟨⟨by decide +kernel, by decide +kernel⟩, List.mem_of_getElem? (i := 21) (by decide +kernel), List.mem_of_getElem? (i := 704) (by decide +kernel), List.mem_of_getElem? (i := 705) (by decide +kernel)⟩
theorem lw_p15 : lw_okq (⟨"SpoonHates$Rows", "begin", "(LSpoonHates$Soup;I)V"⟩, 9) := ⟨⟨by decide +kernel, by decide +kernel⟩, List.mem_of_getElem? (i := 236) (by decide +kernel), List.mem_of_getElem? (i := 720) (by decide +kernel), List.mem_of_getElem? (i := 721) (by decide +kernel)⟩
def lw_privs_1 : List (MethodName × Nat) := [(⟨"SpoonHates$Reader", "readLine", "(I)Z"⟩, 8), (⟨"SpoonHates$Reader", "fails", "(I)Z"⟩, 8), (⟨"SpoonHates$Reader", "lineOfName", "()I"⟩, 8), (⟨"SpoonHates$Reader", "readHatred", "(Z)Z"⟩, 8), (⟨"SpoonHates$Reader", "readHelper", "(I)I"⟩, 8), (⟨"SpoonHates$Reader", "readNumber", "(II)I"⟩, 8), (⟨"SpoonHates$Reader", "readSemicolon", "()Z"⟩, 8), (⟨"SpoonHates$Reader", "readPot", "()Z"⟩, 8), (⟨"SpoonHates$Reader", "readSlip", "()Z"⟩, 8), (⟨"SpoonHates$Reader", "readPlan", "()Z"⟩, 8), (⟨"SpoonHates$Reader", "addHelper", "(I)Z"⟩, 8), (⟨"SpoonHates", "changeNeed", "(I)I"⟩, 11), (⟨"SpoonHates", "changeNoon", "(I)I"⟩, 11), (⟨"SpoonHates$Soup", "cool", "(II)V"⟩, 8), (⟨"SpoonHates", "leastRound", "(III)I"⟩, 11), (⟨"SpoonHates$Rows", "begin", "(LSpoonHates$Soup;I)V"⟩, 9)]
theorem lw_r1 : ∀ q ∈ lw_privs_1, lw_okq q := List.forall_mem_cons.mpr ⟨lw_p0, List.forall_mem_cons.mpr ⟨lw_p1, List.forall_mem_cons.mpr ⟨lw_p2, List.forall_mem_cons.mpr ⟨lw_p3, List.forall_mem_cons.mpr ⟨lw_p4, List.forall_mem_cons.mpr ⟨lw_p5, List.forall_mem_cons.mpr ⟨lw_p6, List.forall_mem_cons.mpr ⟨lw_p7, List.forall_mem_cons.mpr ⟨lw_p8, List.forall_mem_cons.mpr ⟨lw_p9, List.forall_mem_cons.mpr ⟨lw_p10, List.forall_mem_cons.mpr ⟨lw_p11, List.forall_mem_cons.mpr ⟨lw_p12, List.forall_mem_cons.mpr ⟨lw_p13, List.forall_mem_cons.mpr ⟨lw_p14, List.forall_mem_cons.mpr ⟨lw_p15, fun _ h => absurd h List.not_mem_nil⟩⟩⟩⟩⟩⟩⟩⟩⟩⟩⟩⟩⟩⟩⟩⟩
theorem lw_p16 : lw_okq (⟨"SpoonHates$Rows", "listPairs", "(I)V"⟩, 9) := ⟨⟨by decide +kernel, by decide +kernel⟩, List.mem_of_getElem? (i := 236) (by decide +kernel), List.mem_of_getElem? (i := 724) (by decide +kernel), List.mem_of_getElem? (i := 725) (by decide +kernel)⟩
theorem lw_p17 : lw_okq (⟨"SpoonHates$Rows", "stirFrom", "(I)V"⟩, 9) := ⟨⟨by decide +kernel, by decide +kernel⟩, List.mem_of_getElem? (i := 236) (by decide +kernel), List.mem_of_getElem? (i := 729) (by decide +kernel), List.mem_of_getElem? (i := 730) (by decide +kernel)⟩
theorem lw_p18 : lw_okq (⟨"SpoonHates$Rows", "takeRow", "()V"⟩, 9) := ⟨⟨by decide +kernel, by decide +kernel⟩, List.mem_of_getElem? (i := 236) (by decide +kernel), List.mem_of_getElem? (i := 735) (by decide +kernel), List.mem_of_getElem? (i := 736) (by decide +kernel)⟩
theorem lw_p19 : lw_okq (⟨"SpoonHates$Rows", "rowCount", "()I"⟩, 9) := ⟨⟨by decide +kernel, by decide +kernel⟩, List.mem_of_getElem? (i := 236) (by decide +kernel), List.mem_of_getElem? (i := 740) (by decide +kernel), List.mem_of_getElem? (i := 741) (by decide +kernel)⟩
theorem lw_p20 : lw_okq (⟨"SpoonHates$Rows", "advance", "()V"⟩, 9) := ⟨⟨by decide +kernel, by decide +kernel⟩, List.mem_of_getElem? (i := 236) (by decide +kernel), List.mem_of_getElem? (i := 744) (by decide +kernel), List.mem_of_getElem? (i := 745) (by decide +kernel)⟩
theorem lw_p21 : lw_okq (⟨"SpoonHates", "fewestSlips", "()I"⟩, 11) := ⟨⟨by decide +kernel, by decide +kernel⟩, List.mem_of_getElem? (i := 21) (by decide +kernel), List.mem_of_getElem? (i := 764) (by decide +kernel), List.mem_of_getElem? (i := 765) (by decide +kernel)⟩
theorem lw_p22 : lw_okq (⟨"SpoonHates", "sufficeForNeed", "(I)Z"⟩, 11) := ⟨⟨by decide +kernel, by decide +kernel⟩, List.mem_of_getElem? (i := 21) (by decide +kernel), List.mem_of_getElem? (i := 774) (by decide +kernel), List.mem_of_getElem? (i := 775) (by decide +kernel)⟩
theorem lw_p23 : lw_okq (⟨"SpoonHates$Match", "tellReaches", "(II)V"⟩, 4) := ⟨⟨by decide +kernel, by decide +kernel⟩, List.mem_of_getElem? (i := 276) (by decide +kernel), List.mem_of_getElem? (i := 790) (by decide +kernel), List.mem_of_getElem? (i := 791) (by decide +kernel)⟩
theorem lw_p24 : lw_okq (⟨"SpoonHates$Match", "pairsUp", "(I)Z"⟩, 4) := ⟨⟨by decide +kernel, by decide +kernel⟩, List.mem_of_getElem? (i := 276) (by decide +kernel), List.mem_of_getElem? (i := 794) (by decide +kernel), List.mem_of_getElem? (i := 795) (by decide +kernel)⟩
theorem lw_p25 : lw_okq (⟨"SpoonHates$Match", "takeIfMore", "(LSpoonHates$Soup;)V"⟩, 4) := ⟨⟨by decide +kernel, by decide +kernel⟩, List.mem_of_getElem? (i := 276) (by decide +kernel), List.mem_of_getElem? (i := 798) (by decide +kernel), List.mem_of_getElem? (i := 799) (by decide +kernel)⟩
theorem lw_p26 : lw_okq (⟨"SpoonHates", "wouldBeAsSeen", "(III)Z"⟩, 11) := ⟨⟨by decide +kernel, by decide +kernel⟩, List.mem_of_getElem? (i := 21) (by decide +kernel), List.mem_of_getElem? (i := 824) (by decide +kernel), List.mem_of_getElem? (i := 825) (by decide +kernel)⟩
theorem lw_p27 : lw_okq (⟨"SpoonHates", "isLoveAsked", "(IIII)Z"⟩, 11) := ⟨⟨by decide +kernel, by decide +kernel⟩, List.mem_of_getElem? (i := 21) (by decide +kernel), List.mem_of_getElem? (i := 840) (by decide +kernel), List.mem_of_getElem? (i := 841) (by decide +kernel)⟩
theorem lw_p28 : lw_okq (⟨"SpoonHates", "byLove", "(IIIIZ)J"⟩, 11) := ⟨⟨by decide +kernel, by decide +kernel⟩, List.mem_of_getElem? (i := 21) (by decide +kernel), List.mem_of_getElem? (i := 844) (by decide +kernel), List.mem_of_getElem? (i := 845) (by decide +kernel)⟩
theorem lw_p29 : lw_okq (⟨"SpoonHates", "worthOfTrial", "(Z)I"⟩, 11) := ⟨⟨by decide +kernel, by decide +kernel⟩, List.mem_of_getElem? (i := 21) (by decide +kernel), List.mem_of_getElem? (i := 849) (by decide +kernel), List.mem_of_getElem? (i := 850) (by decide +kernel)⟩
theorem lw_p30 : lw_okq (⟨"SpoonHatesModel", "firstDraft", "()V"⟩, 36) := ⟨⟨by decide +kernel, by decide +kernel⟩, List.mem_of_getElem? (i := 928) (by decide +kernel), List.mem_of_getElem? (i := 934) (by decide +kernel), List.mem_of_getElem? (i := 935) (by decide +kernel)⟩
theorem lw_p31 : lw_okq (⟨"SpoonHatesModel", "keepDraft", "()V"⟩, 36) := ⟨⟨by decide +kernel, by decide +kernel⟩, List.mem_of_getElem? (i := 928) (by decide +kernel), List.mem_of_getElem? (i := 938) (by decide +kernel), List.mem_of_getElem? (i := 939) (by decide +kernel)⟩
def lw_privs_2 : List (MethodName × Nat) := [(⟨"SpoonHates$Rows", "listPairs", "(I)V"⟩, 9), (⟨"SpoonHates$Rows", "stirFrom", "(I)V"⟩, 9), (⟨"SpoonHates$Rows", "takeRow", "()V"⟩, 9), (⟨"SpoonHates$Rows", "rowCount", "()I"⟩, 9), (⟨"SpoonHates$Rows", "advance", "()V"⟩, 9), (⟨"SpoonHates", "fewestSlips", "()I"⟩, 11), (⟨"SpoonHates", "sufficeForNeed", "(I)Z"⟩, 11), (⟨"SpoonHates$Match", "tellReaches", "(II)V"⟩, 4), (⟨"SpoonHates$Match", "pairsUp", "(I)Z"⟩, 4), (⟨"SpoonHates$Match", "takeIfMore", "(LSpoonHates$Soup;)V"⟩, 4), (⟨"SpoonHates", "wouldBeAsSeen", "(III)Z"⟩, 11), (⟨"SpoonHates", "isLoveAsked", "(IIII)Z"⟩, 11), (⟨"SpoonHates", "byLove", "(IIIIZ)J"⟩, 11), (⟨"SpoonHates", "worthOfTrial", "(Z)I"⟩, 11), (⟨"SpoonHatesModel", "firstDraft", "()V"⟩, 36), (⟨"SpoonHatesModel", "keepDraft", "()V"⟩, 36)]
theorem lw_r2 : ∀ q ∈ lw_privs_2, lw_okq q := List.forall_mem_cons.mpr ⟨lw_p16, List.forall_mem_cons.mpr ⟨lw_p17, List.forall_mem_cons.mpr ⟨lw_p18, List.forall_mem_cons.mpr ⟨lw_p19, List.forall_mem_cons.mpr ⟨lw_p20, List.forall_mem_cons.mpr ⟨lw_p21, List.forall_mem_cons.mpr ⟨lw_p22, List.forall_mem_cons.mpr ⟨lw_p23, List.forall_mem_cons.mpr ⟨lw_p24, List.forall_mem_cons.mpr ⟨lw_p25, List.forall_mem_cons.mpr ⟨lw_p26, List.forall_mem_cons.mpr ⟨lw_p27, List.forall_mem_cons.mpr ⟨lw_p28, List.forall_mem_cons.mpr ⟨lw_p29, List.forall_mem_cons.mpr ⟨lw_p30, List.forall_mem_cons.mpr ⟨lw_p31, fun _ h => absurd h List.not_mem_nil⟩⟩⟩⟩⟩⟩⟩⟩⟩⟩⟩⟩⟩⟩⟩⟩
theorem lw_p32 : lw_okq (⟨"SpoonHatesModel", "next", "()V"⟩, 36) := ⟨⟨by decide +kernel, by decide +kernel⟩, List.mem_of_getElem? (i := 928) (by decide +kernel), List.mem_of_getElem? (i := 1068) (by decide +kernel), List.mem_of_getElem? (i := 1069) (by decide +kernel)⟩
theorem lw_p33 : lw_okq (⟨"SpoonHatesModel", "byteAt", "(I)I"⟩, 36) := ⟨⟨by decide +kernel, by decide +kernel⟩, List.mem_of_getElem? (i := 928) (by decide +kernel), List.mem_of_getElem? (i := 1072) (by decide +kernel), List.mem_of_getElem? (i := 1073) (by decide +kernel)⟩
theorem lw_p34 : lw_okq (⟨"SpoonHatesModel", "needs", "(ZI)V"⟩, 36) := ⟨⟨by decide +kernel, by decide +kernel⟩, List.mem_of_getElem? (i := 928) (by decide +kernel), List.mem_of_getElem? (i := 1080) (by decide +kernel), List.mem_of_getElem? (i := 1081) (by decide +kernel)⟩
theorem lw_p35 : lw_okq (⟨"SpoonHatesModel", "readLine", "()V"⟩, 36) := ⟨⟨by decide +kernel, by decide +kernel⟩, List.mem_of_getElem? (i := 928) (by decide +kernel), List.mem_of_getElem? (i := 1084) (by decide +kernel), List.mem_of_getElem? (i := 1085) (by decide +kernel)⟩
theorem lw_p36 : lw_okq (⟨"SpoonHatesModel", "lineNow", "()I"⟩, 36) := ⟨⟨by decide +kernel, by decide +kernel⟩, List.mem_of_getElem? (i := 928) (by decide +kernel), List.mem_of_getElem? (i := 1088) (by decide +kernel), List.mem_of_getElem? (i := 1089) (by decide +kernel)⟩
theorem lw_p37 : lw_okq (⟨"SpoonHatesModel", "is", "(IIII)Z"⟩, 36) := ⟨⟨by decide +kernel, by decide +kernel⟩, List.mem_of_getElem? (i := 928) (by decide +kernel), List.mem_of_getElem? (i := 1092) (by decide +kernel), List.mem_of_getElem? (i := 1093) (by decide +kernel)⟩
theorem lw_p38 : lw_okq (⟨"SpoonHatesModel", "ends", "(IIII)Z"⟩, 36) := ⟨⟨by decide +kernel, by decide +kernel⟩, List.mem_of_getElem? (i := 928) (by decide +kernel), List.mem_of_getElem? (i := 1096) (by decide +kernel), List.mem_of_getElem? (i := 1097) (by decide +kernel)⟩
theorem lw_p39 : lw_okq (⟨"SpoonHatesModel", "readLineOf", "(I)V"⟩, 36) := ⟨⟨by decide +kernel, by decide +kernel⟩, List.mem_of_getElem? (i := 928) (by decide +kernel), List.mem_of_getElem? (i := 1101) (by decide +kernel), List.mem_of_getElem? (i := 1102) (by decide +kernel)⟩
theorem lw_p40 : lw_okq (⟨"SpoonHatesModel", "readHate", "(Z)V"⟩, 36) := ⟨⟨by decide +kernel, by decide +kernel⟩, List.mem_of_getElem? (i := 928) (by decide +kernel), List.mem_of_getElem? (i := 1105) (by decide +kernel), List.mem_of_getElem? (i := 1106) (by decide +kernel)⟩
theorem lw_p41 : lw_okq (⟨"SpoonHatesModel", "readHelper", "()I"⟩, 36) := ⟨⟨by decide +kernel, by decide +kernel⟩, List.mem_of_getElem? (i := 928) (by decide +kernel), List.mem_of_getElem? (i := 1109) (by decide +kernel), List.mem_of_getElem? (i := 1110) (by decide +kernel)⟩
theorem lw_p42 : lw_okq (⟨"SpoonHatesModel", "readNumber", "(II)I"⟩, 36) := ⟨⟨by decide +kernel, by decide +kernel⟩, List.mem_of_getElem? (i := 928) (by decide +kernel), List.mem_of_getElem? (i := 1113) (by decide +kernel), List.mem_of_getElem? (i := 1114) (by decide +kernel)⟩
theorem lw_p43 : lw_okq (⟨"SpoonHatesModel", "looked", "(II)I"⟩, 36) := ⟨⟨by decide +kernel, by decide +kernel⟩, List.mem_of_getElem? (i := 928) (by decide +kernel), List.mem_of_getElem? (i := 1117) (by decide +kernel), List.mem_of_getElem? (i := 1118) (by decide +kernel)⟩
theorem lw_p44 : lw_okq (⟨"SpoonHatesModel", "readOther", "(IZZ)I"⟩, 36) := ⟨⟨by decide +kernel, by decide +kernel⟩, List.mem_of_getElem? (i := 928) (by decide +kernel), List.mem_of_getElem? (i := 1121) (by decide +kernel), List.mem_of_getElem? (i := 1122) (by decide +kernel)⟩
theorem lw_p45 : lw_okq (⟨"SpoonHatesModel", "readSlip", "()V"⟩, 36) := ⟨⟨by decide +kernel, by decide +kernel⟩, List.mem_of_getElem? (i := 928) (by decide +kernel), List.mem_of_getElem? (i := 1125) (by decide +kernel), List.mem_of_getElem? (i := 1126) (by decide +kernel)⟩
theorem lw_p46 : lw_okq (⟨"SpoonHatesModel", "readPlan", "()V"⟩, 36) := ⟨⟨by decide +kernel, by decide +kernel⟩, List.mem_of_getElem? (i := 928) (by decide +kernel), List.mem_of_getElem? (i := 1129) (by decide +kernel), List.mem_of_getElem? (i := 1130) (by decide +kernel)⟩
theorem lw_p47 : lw_okq (⟨"SpoonHatesModel", "isHelper", "(I)Z"⟩, 36) := ⟨⟨by decide +kernel, by decide +kernel⟩, List.mem_of_getElem? (i := 928) (by decide +kernel), List.mem_of_getElem? (i := 1148) (by decide +kernel), List.mem_of_getElem? (i := 1149) (by decide +kernel)⟩
def lw_privs_3 : List (MethodName × Nat) := [(⟨"SpoonHatesModel", "next", "()V"⟩, 36), (⟨"SpoonHatesModel", "byteAt", "(I)I"⟩, 36), (⟨"SpoonHatesModel", "needs", "(ZI)V"⟩, 36), (⟨"SpoonHatesModel", "readLine", "()V"⟩, 36), (⟨"SpoonHatesModel", "lineNow", "()I"⟩, 36), (⟨"SpoonHatesModel", "is", "(IIII)Z"⟩, 36), (⟨"SpoonHatesModel", "ends", "(IIII)Z"⟩, 36), (⟨"SpoonHatesModel", "readLineOf", "(I)V"⟩, 36), (⟨"SpoonHatesModel", "readHate", "(Z)V"⟩, 36), (⟨"SpoonHatesModel", "readHelper", "()I"⟩, 36), (⟨"SpoonHatesModel", "readNumber", "(II)I"⟩, 36), (⟨"SpoonHatesModel", "looked", "(II)I"⟩, 36), (⟨"SpoonHatesModel", "readOther", "(IZZ)I"⟩, 36), (⟨"SpoonHatesModel", "readSlip", "()V"⟩, 36), (⟨"SpoonHatesModel", "readPlan", "()V"⟩, 36), (⟨"SpoonHatesModel", "isHelper", "(I)Z"⟩, 36)]
theorem lw_r3 : ∀ q ∈ lw_privs_3, lw_okq q := List.forall_mem_cons.mpr ⟨lw_p32, List.forall_mem_cons.mpr ⟨lw_p33, List.forall_mem_cons.mpr ⟨lw_p34, List.forall_mem_cons.mpr ⟨lw_p35, List.forall_mem_cons.mpr ⟨lw_p36, List.forall_mem_cons.mpr ⟨lw_p37, List.forall_mem_cons.mpr ⟨lw_p38, List.forall_mem_cons.mpr ⟨lw_p39, List.forall_mem_cons.mpr ⟨lw_p40, List.forall_mem_cons.mpr ⟨lw_p41, List.forall_mem_cons.mpr ⟨lw_p42, List.forall_mem_cons.mpr ⟨lw_p43, List.forall_mem_cons.mpr ⟨lw_p44, List.forall_mem_cons.mpr ⟨lw_p45, List.forall_mem_cons.mpr ⟨lw_p46, List.forall_mem_cons.mpr ⟨lw_p47, fun _ h => absurd h List.not_mem_nil⟩⟩⟩⟩⟩⟩⟩⟩⟩⟩⟩⟩⟩⟩⟩⟩
theorem lw_p48 : lw_okq (⟨"SpoonHatesModel", "areTwo", "(II)Z"⟩, 36) := ⟨⟨by decide +kernel, by decide +kernel⟩, List.mem_of_getElem? (i := 928) (by decide +kernel), List.mem_of_getElem? (i := 1156) (by decide +kernel), List.mem_of_getElem? (i := 1157) (by decide +kernel)⟩
theorem lw_p49 : lw_okq (⟨"SpoonHatesModel", "starts", "()V"⟩, 36) := ⟨⟨by decide +kernel, by decide +kernel⟩, List.mem_of_getElem? (i := 928) (by decide +kernel), List.mem_of_getElem? (i := 1163) (by decide +kernel), List.mem_of_getElem? (i := 1164) (by decide +kernel)⟩
theorem lw_p50 : lw_okq (⟨"SpoonHatesModel", "hates", "(II)I"⟩, 36) := ⟨⟨by decide +kernel, by decide +kernel⟩, List.mem_of_getElem? (i := 928) (by decide +kernel), List.mem_of_getElem? (i := 1167) (by decide +kernel), List.mem_of_getElem? (i := 1168) (by decide +kernel)⟩
theorem lw_p51 : lw_okq (⟨"SpoonHatesModel", "feels", "(II)I"⟩, 36) := ⟨⟨by decide +kernel, by decide +kernel⟩, List.mem_of_getElem? (i := 928) (by decide +kernel), List.mem_of_getElem? (i := 1171) (by decide +kernel), List.mem_of_getElem? (i := 1172) (by decide +kernel)⟩
theorem lw_p52 : lw_okq (⟨"SpoonHatesModel", "isSlip", "(I)Z"⟩, 36) := ⟨⟨by decide +kernel, by decide +kernel⟩, List.mem_of_getElem? (i := 928) (by decide +kernel), List.mem_of_getElem? (i := 1179) (by decide +kernel), List.mem_of_getElem? (i := 1180) (by decide +kernel)⟩
theorem lw_p53 : lw_okq (⟨"SpoonHatesModel", "becomes", "(II)I"⟩, 36) := ⟨⟨by decide +kernel, by decide +kernel⟩, List.mem_of_getElem? (i := 928) (by decide +kernel), List.mem_of_getElem? (i := 1192) (by decide +kernel), List.mem_of_getElem? (i := 1193) (by decide +kernel)⟩
theorem lw_p54 : lw_okq (⟨"SpoonHatesModel", "uses", "(I)V"⟩, 36) := ⟨⟨by decide +kernel, by decide +kernel⟩, List.mem_of_getElem? (i := 928) (by decide +kernel), List.mem_of_getElem? (i := 1200) (by decide +kernel), List.mem_of_getElem? (i := 1201) (by decide +kernel)⟩
theorem lw_p55 : lw_okq (⟨"SpoonHatesModel", "becomesHate", "(III)V"⟩, 36) := ⟨⟨by decide +kernel, by decide +kernel⟩, List.mem_of_getElem? (i := 928) (by decide +kernel), List.mem_of_getElem? (i := 1204) (by decide +kernel), List.mem_of_getElem? (i := 1205) (by decide +kernel)⟩
theorem lw_p56 : lw_okq (⟨"SpoonHatesModel", "settles", "()V"⟩, 36) := ⟨⟨by decide +kernel, by decide +kernel⟩, List.mem_of_getElem? (i := 928) (by decide +kernel), List.mem_of_getElem? (i := 1208) (by decide +kernel), List.mem_of_getElem? (i := 1209) (by decide +kernel)⟩
theorem lw_p57 : lw_okq (⟨"SpoonHatesModel", "turnOf", "(II)I"⟩, 36) := ⟨⟨by decide +kernel, by decide +kernel⟩, List.mem_of_getElem? (i := 928) (by decide +kernel), List.mem_of_getElem? (i := 1245) (by decide +kernel), List.mem_of_getElem? (i := 1246) (by decide +kernel)⟩
theorem lw_p58 : lw_okq (⟨"SpoonHatesModel", "stirs", "(II)Z"⟩, 36) := ⟨⟨by decide +kernel, by decide +kernel⟩, List.mem_of_getElem? (i := 928) (by decide +kernel), List.mem_of_getElem? (i := 1256) (by decide +kernel), List.mem_of_getElem? (i := 1257) (by decide +kernel)⟩
theorem lw_p59 : lw_okq (⟨"SpoonHatesModel", "stirsOn", "(II)Z"⟩, 36) := ⟨⟨by decide +kernel, by decide +kernel⟩, List.mem_of_getElem? (i := 928) (by decide +kernel), List.mem_of_getElem? (i := 1260) (by decide +kernel), List.mem_of_getElem? (i := 1261) (by decide +kernel)⟩
theorem lw_p60 : lw_okq (⟨"SpoonHatesModel", "coolsOff", "(II)V"⟩, 36) := ⟨⟨by decide +kernel, by decide +kernel⟩, List.mem_of_getElem? (i := 928) (by decide +kernel), List.mem_of_getElem? (i := 1264) (by decide +kernel), List.mem_of_getElem? (i := 1265) (by decide +kernel)⟩
theorem lw_p61 : lw_okq (⟨"SpoonHatesModel", "coolsBy", "(I)I"⟩, 36) := ⟨⟨by decide +kernel, by decide +kernel⟩, List.mem_of_getElem? (i := 928) (by decide +kernel), List.mem_of_getElem? (i := 1268) (by decide +kernel), List.mem_of_getElem? (i := 1269) (by decide +kernel)⟩
theorem lw_p62 : lw_okq (⟨"SpoonHatesModel", "plansGo", "()V"⟩, 36) := ⟨⟨by decide +kernel, by decide +kernel⟩, List.mem_of_getElem? (i := 928) (by decide +kernel), List.mem_of_getElem? (i := 1277) (by decide +kernel), List.mem_of_getElem? (i := 1278) (by decide +kernel)⟩
theorem lw_p63 : lw_okq (⟨"SpoonHatesModel", "allHate", "()I"⟩, 36) := ⟨⟨by decide +kernel, by decide +kernel⟩, List.mem_of_getElem? (i := 928) (by decide +kernel), List.mem_of_getElem? (i := 1281) (by decide +kernel), List.mem_of_getElem? (i := 1282) (by decide +kernel)⟩
def lw_privs_4 : List (MethodName × Nat) := [(⟨"SpoonHatesModel", "areTwo", "(II)Z"⟩, 36), (⟨"SpoonHatesModel", "starts", "()V"⟩, 36), (⟨"SpoonHatesModel", "hates", "(II)I"⟩, 36), (⟨"SpoonHatesModel", "feels", "(II)I"⟩, 36), (⟨"SpoonHatesModel", "isSlip", "(I)Z"⟩, 36), (⟨"SpoonHatesModel", "becomes", "(II)I"⟩, 36), (⟨"SpoonHatesModel", "uses", "(I)V"⟩, 36), (⟨"SpoonHatesModel", "becomesHate", "(III)V"⟩, 36), (⟨"SpoonHatesModel", "settles", "()V"⟩, 36), (⟨"SpoonHatesModel", "turnOf", "(II)I"⟩, 36), (⟨"SpoonHatesModel", "stirs", "(II)Z"⟩, 36), (⟨"SpoonHatesModel", "stirsOn", "(II)Z"⟩, 36), (⟨"SpoonHatesModel", "coolsOff", "(II)V"⟩, 36), (⟨"SpoonHatesModel", "coolsBy", "(I)I"⟩, 36), (⟨"SpoonHatesModel", "plansGo", "()V"⟩, 36), (⟨"SpoonHatesModel", "allHate", "()I"⟩, 36)]
theorem lw_r4 : ∀ q ∈ lw_privs_4, lw_okq q := List.forall_mem_cons.mpr ⟨lw_p48, List.forall_mem_cons.mpr ⟨lw_p49, List.forall_mem_cons.mpr ⟨lw_p50, List.forall_mem_cons.mpr ⟨lw_p51, List.forall_mem_cons.mpr ⟨lw_p52, List.forall_mem_cons.mpr ⟨lw_p53, List.forall_mem_cons.mpr ⟨lw_p54, List.forall_mem_cons.mpr ⟨lw_p55, List.forall_mem_cons.mpr ⟨lw_p56, List.forall_mem_cons.mpr ⟨lw_p57, List.forall_mem_cons.mpr ⟨lw_p58, List.forall_mem_cons.mpr ⟨lw_p59, List.forall_mem_cons.mpr ⟨lw_p60, List.forall_mem_cons.mpr ⟨lw_p61, List.forall_mem_cons.mpr ⟨lw_p62, List.forall_mem_cons.mpr ⟨lw_p63, fun _ h => absurd h List.not_mem_nil⟩⟩⟩⟩⟩⟩⟩⟩⟩⟩⟩⟩⟩⟩⟩⟩
theorem lw_p64 : lw_okq (⟨"SpoonHatesModel", "pairs", "()I"⟩, 36) := ⟨⟨by decide +kernel, by decide +kernel⟩, List.mem_of_getElem? (i := 928) (by decide +kernel), List.mem_of_getElem? (i := 1303) (by decide +kernel), List.mem_of_getElem? (i := 1304) (by decide +kernel)⟩
theorem lw_p65 : lw_okq (⟨"SpoonHatesModel", "findPairs", "()V"⟩, 36) := ⟨⟨by decide +kernel, by decide +kernel⟩, List.mem_of_getElem? (i := 928) (by decide +kernel), List.mem_of_getElem? (i := 1307) (by decide +kernel), List.mem_of_getElem? (i := 1308) (by decide +kernel)⟩
theorem lw_p66 : lw_okq (⟨"SpoonHatesModel", "pairAt", "(I)I"⟩, 36) := ⟨⟨by decide +kernel, by decide +kernel⟩, List.mem_of_getElem? (i := 928) (by decide +kernel), List.mem_of_getElem? (i := 1311) (by decide +kernel), List.mem_of_getElem? (i := 1312) (by decide +kernel)⟩
theorem lw_p67 : lw_okq (⟨"SpoonHatesModel", "rowsOf", "(I)I"⟩, 36) := ⟨⟨by decide +kernel, by decide +kernel⟩, List.mem_of_getElem? (i := 928) (by decide +kernel), List.mem_of_getElem? (i := 1315) (by decide +kernel), List.mem_of_getElem? (i := 1316) (by decide +kernel)⟩
theorem lw_p68 : lw_okq (⟨"SpoonHatesModel", "stirsRow", "(II)V"⟩, 36) := ⟨⟨by decide +kernel, by decide +kernel⟩, List.mem_of_getElem? (i := 928) (by decide +kernel), List.mem_of_getElem? (i := 1319) (by decide +kernel), List.mem_of_getElem? (i := 1320) (by decide +kernel)⟩
theorem lw_p69 : lw_okq (⟨"SpoonHatesModel", "pairIn", "(III)I"⟩, 36) := ⟨⟨by decide +kernel, by decide +kernel⟩, List.mem_of_getElem? (i := 928) (by decide +kernel), List.mem_of_getElem? (i := 1323) (by decide +kernel), List.mem_of_getElem? (i := 1324) (by decide +kernel)⟩
theorem lw_p70 : lw_okq (⟨"SpoonHatesModel", "codes", "()I"⟩, 36) := ⟨⟨by decide +kernel, by decide +kernel⟩, List.mem_of_getElem? (i := 928) (by decide +kernel), List.mem_of_getElem? (i := 1347) (by decide +kernel), List.mem_of_getElem? (i := 1348) (by decide +kernel)⟩
theorem lw_p71 : lw_okq (⟨"SpoonHatesModel", "isMatch", "(I)Z"⟩, 36) := ⟨⟨by decide +kernel, by decide +kernel⟩, List.mem_of_getElem? (i := 928) (by decide +kernel), List.mem_of_getElem? (i := 1351) (by decide +kernel), List.mem_of_getElem? (i := 1352) (by decide +kernel)⟩
theorem lw_p72 : lw_okq (⟨"SpoonHatesModel", "turnsNow", "()I"⟩, 36) := ⟨⟨by decide +kernel, by decide +kernel⟩, List.mem_of_getElem? (i := 928) (by decide +kernel), List.mem_of_getElem? (i := 1355) (by decide +kernel), List.mem_of_getElem? (i := 1356) (by decide +kernel)⟩
theorem lw_p73 : lw_okq (⟨"SpoonHatesModel", "isSo", "(IIII)Z"⟩, 36) := ⟨⟨by decide +kernel, by decide +kernel⟩, List.mem_of_getElem? (i := 928) (by decide +kernel), List.mem_of_getElem? (i := 1373) (by decide +kernel), List.mem_of_getElem? (i := 1374) (by decide +kernel)⟩
theorem lw_p74 : lw_okq (⟨"SpoonHatesModel", "findLove", "(III)V"⟩, 36) := ⟨⟨by decide +kernel, by decide +kernel⟩, List.mem_of_getElem? (i := 928) (by decide +kernel), List.mem_of_getElem? (i := 1387) (by decide +kernel), List.mem_of_getElem? (i := 1388) (by decide +kernel)⟩
theorem lw_p75 : lw_okq (⟨"SpoonHatesModel", "adds", "(J)V"⟩, 36) := ⟨⟨by decide +kernel, by decide +kernel⟩, List.mem_of_getElem? (i := 928) (by decide +kernel), List.mem_of_getElem? (i := 1391) (by decide +kernel), List.mem_of_getElem? (i := 1392) (by decide +kernel)⟩
theorem lw_p76 : lw_okq (⟨"SpoonHatesModel", "copies", "(II)V"⟩, 36) := ⟨⟨by decide +kernel, by decide +kernel⟩, List.mem_of_getElem? (i := 928) (by decide +kernel), List.mem_of_getElem? (i := 1415) (by decide +kernel), List.mem_of_getElem? (i := 1416) (by decide +kernel)⟩
def lw_privs_5 : List (MethodName × Nat) := [(⟨"SpoonHatesModel", "pairs", "()I"⟩, 36), (⟨"SpoonHatesModel", "findPairs", "()V"⟩, 36), (⟨"SpoonHatesModel", "pairAt", "(I)I"⟩, 36), (⟨"SpoonHatesModel", "rowsOf", "(I)I"⟩, 36), (⟨"SpoonHatesModel", "stirsRow", "(II)V"⟩, 36), (⟨"SpoonHatesModel", "pairIn", "(III)I"⟩, 36), (⟨"SpoonHatesModel", "codes", "()I"⟩, 36), (⟨"SpoonHatesModel", "isMatch", "(I)Z"⟩, 36), (⟨"SpoonHatesModel", "turnsNow", "()I"⟩, 36), (⟨"SpoonHatesModel", "isSo", "(IIII)Z"⟩, 36), (⟨"SpoonHatesModel", "findLove", "(III)V"⟩, 36), (⟨"SpoonHatesModel", "adds", "(J)V"⟩, 36), (⟨"SpoonHatesModel", "copies", "(II)V"⟩, 36)]
theorem lw_r5 : ∀ q ∈ lw_privs_5, lw_okq q := List.forall_mem_cons.mpr ⟨lw_p64, List.forall_mem_cons.mpr ⟨lw_p65, List.forall_mem_cons.mpr ⟨lw_p66, List.forall_mem_cons.mpr ⟨lw_p67, List.forall_mem_cons.mpr ⟨lw_p68, List.forall_mem_cons.mpr ⟨lw_p69, List.forall_mem_cons.mpr ⟨lw_p70, List.forall_mem_cons.mpr ⟨lw_p71, List.forall_mem_cons.mpr ⟨lw_p72, List.forall_mem_cons.mpr ⟨lw_p73, List.forall_mem_cons.mpr ⟨lw_p74, List.forall_mem_cons.mpr ⟨lw_p75, List.forall_mem_cons.mpr ⟨lw_p76, fun _ h => absurd h List.not_mem_nil⟩⟩⟩⟩⟩⟩⟩⟩⟩⟩⟩⟩⟩
def lw_privs : List (MethodName × Nat) := lw_privs_1 ++ (lw_privs_2 ++ (lw_privs_3 ++ (lw_privs_4 ++ (lw_privs_5))))
def lw_tbl : List Cond := k2_sels lw_privs ++ tables_1
theorem lw_privs_ok : ∀ q ∈ lw_privs, lw_okq q := by
  show ∀ q ∈ lw_privs_1 ++ (lw_privs_2 ++ (lw_privs_3 ++ (lw_privs_4 ++ (lw_privs_5)))), lw_okq q
  exact List.forall_mem_append.mpr ⟨lw_r1, List.forall_mem_append.mpr ⟨lw_r2, List.forall_mem_append.mpr ⟨lw_r3, List.forall_mem_append.mpr ⟨lw_r4, lw_r5⟩⟩⟩⟩
def RX0 : String := "SpoonHates$Kitchen"
def TX0 : u_T := fun k => match k with
  | 0 => ("SpoonHates$Kitchen", "soup", "LSpoonHates$Soup;", true)
  | 1 => ("SpoonHates$Kitchen", "slips", "LSpoonHates$Slips;", true)
  | 2 => ("SpoonHates$Kitchen", "plan", "LSpoonHates$Plan;", true)
  | _ => ("SpoonHates$Kitchen", "seen", "LSpoonHates$Seen;", true)
def tyX0 : Nat → FieldType := fun k => match k with
  | 0 => .object "SpoonHates$Soup"
  | 1 => .object "SpoonHates$Slips"
  | 2 => .object "SpoonHates$Plan"
  | _ => .object "SpoonHates$Seen"
abbrev wsX00 : List Cond := u_ws RX0 TX0 4
theorem nmX0 : ∀ a, a < 4 → ∀ b, b < 4 → a ≠ b → (TX0 a).2.1 ≠ (TX0 b).2.1 := by decide +kernel
theorem tyX0_ok : ∀ k, k < 4 → parseFieldDescriptor (TX0 k).2.2.1 = some (tyX0 k) := by decide +kernel
abbrev cX0_init : ByteArray := prog_2_method_1_code
def yX0_init : MethodName := ⟨RX0, "<init>", "()V"⟩
abbrev cX0_copyFrom : ByteArray := prog_2_method_2_code
def yX0_copyFrom : MethodName := ⟨RX0, "copyFrom", "(LSpoonHates$Kitchen;)V"⟩
abbrev cX0_clear : ByteArray := prog_2_method_3_code
def yX0_clear : MethodName := ⟨RX0, "clear", "()V"⟩
def RX1 : String := "SpoonHates$Match"
def TX1 : u_T := fun k => match k with
  | 0 => ("SpoonHates$Match", "foundSum", "I", false)
  | 1 => ("SpoonHates$Match", "found", "[I", true)
  | 2 => ("SpoonHates$Match", "mates", "[I", true)
  | _ => ("SpoonHates$Match", "reach", "[I", true)
def tyX1 : Nat → FieldType := fun k => match k with
  | 0 => .int
  | 1 => .array .int
  | 2 => .array .int
  | _ => .array .int
abbrev wsX10 : List Cond := u_ws RX1 TX1 4
theorem nmX1 : ∀ a, a < 4 → ∀ b, b < 4 → a ≠ b → (TX1 a).2.1 ≠ (TX1 b).2.1 := by decide +kernel
theorem tyX1_ok : ∀ k, k < 4 → parseFieldDescriptor (TX1 k).2.2.1 = some (tyX1 k) := by decide +kernel
abbrev cX1_init : ByteArray := prog_3_method_1_code
def yX1_init : MethodName := ⟨RX1, "<init>", "()V"⟩
abbrev cX1_seek : ByteArray := prog_3_method_2_code
def yX1_seek : MethodName := ⟨RX1, "seek", "(LSpoonHates$Soup;)V"⟩
abbrev cX1_tellReaches : ByteArray := prog_3_method_3_code
def yX1_tellReaches : MethodName := ⟨RX1, "tellReaches", "(II)V"⟩
abbrev cX1_pairsUp : ByteArray := prog_3_method_4_code
def yX1_pairsUp : MethodName := ⟨RX1, "pairsUp", "(I)Z"⟩
abbrev cX1_takeIfMore : ByteArray := prog_3_method_5_code
def yX1_takeIfMore : MethodName := ⟨RX1, "takeIfMore", "(LSpoonHates$Soup;)V"⟩
def RX2 : String := "SpoonHates$Plan"
def TX2 : u_T := fun k => match k with
  | 0 => ("SpoonHates$Plan", "count", "I", false)
  | _ => ("SpoonHates$Plan", "pairs", "[I", true)
def tyX2 : Nat → FieldType := fun k => match k with
  | 0 => .int
  | _ => .array .int
abbrev wsX20 : List Cond := u_ws RX2 TX2 2
theorem nmX2 : ∀ a, a < 2 → ∀ b, b < 2 → a ≠ b → (TX2 a).2.1 ≠ (TX2 b).2.1 := by decide +kernel
theorem tyX2_ok : ∀ k, k < 2 → parseFieldDescriptor (TX2 k).2.2.1 = some (tyX2 k) := by decide +kernel
abbrev cX2_init : ByteArray := prog_4_method_1_code
def yX2_init : MethodName := ⟨RX2, "<init>", "()V"⟩
abbrev cX2_copyFrom : ByteArray := prog_4_method_2_code
def yX2_copyFrom : MethodName := ⟨RX2, "copyFrom", "(LSpoonHates$Plan;)V"⟩
abbrev cX2_isFull : ByteArray := prog_4_method_3_code
def yX2_isFull : MethodName := ⟨RX2, "isFull", "()Z"⟩
abbrev cX2_add : ByteArray := prog_4_method_4_code
def yX2_add : MethodName := ⟨RX2, "add", "(II)V"⟩
abbrev cX2_stirAll : ByteArray := prog_4_method_5_code
def yX2_stirAll : MethodName := ⟨RX2, "stirAll", "(LSpoonHates$Soup;)I"⟩
def RX3 : String := "SpoonHates$Reader"
def TX3 : u_T := fun k => match k with
  | 0 => ("SpoonHates$Reader", "draft", "LSpoonHates$Kitchen;", true)
  | 1 => ("SpoonHates$Reader", "lines", "I", false)
  | 2 => ("SpoonHates$Reader", "fault", "I", false)
  | 3 => ("SpoonHates$Reader", "faultPlace", "I", false)
  | 4 => ("SpoonHates$Reader", "tape", "LSpoonHates$Tape;", true)
  | 5 => ("SpoonHates$Reader", "hatredsTold", "I", false)
  | 6 => ("SpoonHates$Reader", "potTold", "Z", false)
  | _ => ("SpoonHates$Reader", "greatestHelper", "I", false)
def tyX3 : Nat → FieldType := fun k => match k with
  | 0 => .object "SpoonHates$Kitchen"
  | 1 => .int
  | 2 => .int
  | 3 => .int
  | 4 => .object "SpoonHates$Tape"
  | 5 => .int
  | 6 => .boolean
  | _ => .int
abbrev wsX30 : List Cond := u_ws RX3 TX3 8
theorem nmX3 : ∀ a, a < 8 → ∀ b, b < 8 → a ≠ b → (TX3 a).2.1 ≠ (TX3 b).2.1 := by decide +kernel
theorem tyX3_ok : ∀ k, k < 8 → parseFieldDescriptor (TX3 k).2.2.1 = some (tyX3 k) := by decide +kernel
abbrev cX3_init : ByteArray := prog_5_method_1_code
def yX3_init : MethodName := ⟨RX3, "<init>", "()V"⟩
abbrev cX3_readAll : ByteArray := prog_5_method_2_code
def yX3_readAll : MethodName := ⟨RX3, "readAll", "()Z"⟩
abbrev cX3_readLine : ByteArray := prog_5_method_3_code
def yX3_readLine : MethodName := ⟨RX3, "readLine", "(I)Z"⟩
abbrev cX3_lineOfName : ByteArray := prog_5_method_4_code
def yX3_lineOfName : MethodName := ⟨RX3, "lineOfName", "()I"⟩
abbrev cX3_addHelper : ByteArray := prog_5_method_5_code
def yX3_addHelper : MethodName := ⟨RX3, "addHelper", "(I)Z"⟩
abbrev cX3_readHatred : ByteArray := prog_5_method_6_code
def yX3_readHatred : MethodName := ⟨RX3, "readHatred", "(Z)Z"⟩
abbrev cX3_readPot : ByteArray := prog_5_method_7_code
def yX3_readPot : MethodName := ⟨RX3, "readPot", "()Z"⟩
abbrev cX3_readSlip : ByteArray := prog_5_method_8_code
def yX3_readSlip : MethodName := ⟨RX3, "readSlip", "()Z"⟩
abbrev cX3_readPlan : ByteArray := prog_5_method_9_code
def yX3_readPlan : MethodName := ⟨RX3, "readPlan", "()Z"⟩
abbrev cX3_readHelper : ByteArray := prog_5_method_10_code
def yX3_readHelper : MethodName := ⟨RX3, "readHelper", "(I)I"⟩
abbrev cX3_readNumber : ByteArray := prog_5_method_11_code
def yX3_readNumber : MethodName := ⟨RX3, "readNumber", "(II)I"⟩
abbrev cX3_readSemicolon : ByteArray := prog_5_method_12_code
def yX3_readSemicolon : MethodName := ⟨RX3, "readSemicolon", "()Z"⟩
abbrev cX3_fails : ByteArray := prog_5_method_13_code
def yX3_fails : MethodName := ⟨RX3, "fails", "(I)Z"⟩
def RX4 : String := "SpoonHates$Rows"
def TX4 : u_T := fun k => match k with
  | 0 => ("SpoonHates$Rows", "foundDone", "I", false)
  | 1 => ("SpoonHates$Rows", "foundHatred", "I", false)
  | 2 => ("SpoonHates$Rows", "foundLength", "I", false)
  | 3 => ("SpoonHates$Rows", "found", "[I", true)
  | 4 => ("SpoonHates$Rows", "pairs", "[I", true)
  | 5 => ("SpoonHates$Rows", "pairCount", "I", false)
  | 6 => ("SpoonHates$Rows", "length", "I", false)
  | 7 => ("SpoonHates$Rows", "chosen", "[I", true)
  | _ => ("SpoonHates$Rows", "behind", "[LSpoonHates$Soup;", true)
def tyX4 : Nat → FieldType := fun k => match k with
  | 0 => .int
  | 1 => .int
  | 2 => .int
  | 3 => .array .int
  | 4 => .array .int
  | 5 => .int
  | 6 => .int
  | 7 => .array .int
  | _ => .array (.object "SpoonHates$Soup")
abbrev wsX40 : List Cond := u_ws RX4 TX4 9
theorem nmX4 : ∀ a, a < 9 → ∀ b, b < 9 → a ≠ b → (TX4 a).2.1 ≠ (TX4 b).2.1 := by decide +kernel
theorem tyX4_ok : ∀ k, k < 9 → parseFieldDescriptor (TX4 k).2.2.1 = some (tyX4 k) := by decide +kernel
abbrev cX4_init : ByteArray := prog_6_method_1_code
def yX4_init : MethodName := ⟨RX4, "<init>", "()V"⟩
abbrev cX4_seekBest : ByteArray := prog_6_method_2_code
def yX4_seekBest : MethodName := ⟨RX4, "seekBest", "(LSpoonHates$Soup;I)V"⟩
abbrev cX4_seekFewest : ByteArray := prog_6_method_3_code
def yX4_seekFewest : MethodName := ⟨RX4, "seekFewest", "(LSpoonHates$Soup;)Z"⟩
abbrev cX4_foundPair : ByteArray := prog_6_method_4_code
def yX4_foundPair : MethodName := ⟨RX4, "foundPair", "(I)I"⟩
abbrev cX4_begin : ByteArray := prog_6_method_5_code
def yX4_begin : MethodName := ⟨RX4, "begin", "(LSpoonHates$Soup;I)V"⟩
abbrev cX4_listPairs : ByteArray := prog_6_method_6_code
def yX4_listPairs : MethodName := ⟨RX4, "listPairs", "(I)V"⟩
abbrev cX4_rowCount : ByteArray := prog_6_method_7_code
def yX4_rowCount : MethodName := ⟨RX4, "rowCount", "()I"⟩
abbrev cX4_advance : ByteArray := prog_6_method_8_code
def yX4_advance : MethodName := ⟨RX4, "advance", "()V"⟩
abbrev cX4_stirFrom : ByteArray := prog_6_method_9_code
def yX4_stirFrom : MethodName := ⟨RX4, "stirFrom", "(I)V"⟩
abbrev cX4_takeRow : ByteArray := prog_6_method_10_code
def yX4_takeRow : MethodName := ⟨RX4, "takeRow", "()V"⟩
def RX5 : String := "SpoonHates$Seen"
def TX5 : u_T := fun k => match k with
  | 0 => ("SpoonHates$Seen", "count", "I", false)
  | 1 => ("SpoonHates$Seen", "steps", "[I", true)
  | _ => ("SpoonHates$Seen", "turns", "[I", true)
def tyX5 : Nat → FieldType := fun k => match k with
  | 0 => .int
  | 1 => .array .int
  | _ => .array .int
abbrev wsX50 : List Cond := u_ws RX5 TX5 3
theorem nmX5 : ∀ a, a < 3 → ∀ b, b < 3 → a ≠ b → (TX5 a).2.1 ≠ (TX5 b).2.1 := by decide +kernel
theorem tyX5_ok : ∀ k, k < 3 → parseFieldDescriptor (TX5 k).2.2.1 = some (tyX5 k) := by decide +kernel
abbrev cX5_init : ByteArray := prog_7_method_1_code
def yX5_init : MethodName := ⟨RX5, "<init>", "()V"⟩
abbrev cX5_copyFrom : ByteArray := prog_7_method_2_code
def yX5_copyFrom : MethodName := ⟨RX5, "copyFrom", "(LSpoonHates$Seen;)V"⟩
abbrev cX5_isFull : ByteArray := prog_7_method_3_code
def yX5_isFull : MethodName := ⟨RX5, "isFull", "()Z"⟩
abbrev cX5_add : ByteArray := prog_7_method_4_code
def yX5_add : MethodName := ⟨RX5, "add", "(II)V"⟩
abbrev cX5_allows : ByteArray := prog_7_method_5_code
def yX5_allows : MethodName := ⟨RX5, "allows", "(II)Z"⟩
def RX6 : String := "SpoonHates$Sheet"
def TX6 : u_T := fun k => match k with
  | 0 => ("SpoonHates$Sheet", "length", "I", false)
  | 1 => ("SpoonHates$Sheet", "cells", "[I", true)
  | _ => ("SpoonHates$Sheet", "lane", "I", false)
def tyX6 : Nat → FieldType := fun k => match k with
  | 0 => .int
  | 1 => .array .int
  | _ => .int
abbrev wsX60 : List Cond := u_ws RX6 TX6 3
theorem nmX6 : ∀ a, a < 3 → ∀ b, b < 3 → a ≠ b → (TX6 a).2.1 ≠ (TX6 b).2.1 := by decide +kernel
theorem tyX6_ok : ∀ k, k < 3 → parseFieldDescriptor (TX6 k).2.2.1 = some (tyX6 k) := by decide +kernel
abbrev cX6_init : ByteArray := prog_8_method_1_code
def yX6_init : MethodName := ⟨RX6, "<init>", "()V"⟩
abbrev cX6_isNothing : ByteArray := prog_8_method_2_code
def yX6_isNothing : MethodName := ⟨RX6, "isNothing", "()Z"⟩
abbrev cX6_has : ByteArray := prog_8_method_3_code
def yX6_has : MethodName := ⟨RX6, "has", "(I)Z"⟩
abbrev cX6_renew : ByteArray := prog_8_method_4_code
def yX6_renew : MethodName := ⟨RX6, "renew", "(II)V"⟩
abbrev cX6_layDown : ByteArray := prog_8_method_5_code
def yX6_layDown : MethodName := ⟨RX6, "layDown", "(II)V"⟩
abbrev cX6_faultAs : ByteArray := prog_8_method_6_code
def yX6_faultAs : MethodName := ⟨RX6, "faultAs", "(I)I"⟩
def RX7 : String := "SpoonHates$Slips"
def TX7 : u_T := fun k => match k with
  | 0 => ("SpoonHates$Slips", "count", "I", false)
  | 1 => ("SpoonHates$Slips", "used", "I", false)
  | 2 => ("SpoonHates$Slips", "helpers", "[I", true)
  | 3 => ("SpoonHates$Slips", "others", "[I", true)
  | _ => ("SpoonHates$Slips", "causes", "[I", true)
def tyX7 : Nat → FieldType := fun k => match k with
  | 0 => .int
  | 1 => .int
  | 2 => .array .int
  | 3 => .array .int
  | _ => .array .int
abbrev wsX70 : List Cond := u_ws RX7 TX7 5
theorem nmX7 : ∀ a, a < 5 → ∀ b, b < 5 → a ≠ b → (TX7 a).2.1 ≠ (TX7 b).2.1 := by decide +kernel
theorem tyX7_ok : ∀ k, k < 5 → parseFieldDescriptor (TX7 k).2.2.1 = some (tyX7 k) := by decide +kernel
abbrev cX7_init : ByteArray := prog_9_method_1_code
def yX7_init : MethodName := ⟨RX7, "<init>", "()V"⟩
abbrev cX7_copyFrom : ByteArray := prog_9_method_2_code
def yX7_copyFrom : MethodName := ⟨RX7, "copyFrom", "(LSpoonHates$Slips;)V"⟩
abbrev cX7_has : ByteArray := prog_9_method_3_code
def yX7_has : MethodName := ⟨RX7, "has", "(I)Z"⟩
abbrev cX7_isUsed : ByteArray := prog_9_method_4_code
def yX7_isUsed : MethodName := ⟨RX7, "isUsed", "(I)Z"⟩
abbrev cX7_isFull : ByteArray := prog_9_method_5_code
def yX7_isFull : MethodName := ⟨RX7, "isFull", "()Z"⟩
abbrev cX7_add : ByteArray := prog_9_method_6_code
def yX7_add : MethodName := ⟨RX7, "add", "(III)V"⟩
abbrev cX7_worsen : ByteArray := prog_9_method_7_code
def yX7_worsen : MethodName := ⟨RX7, "worsen", "(LSpoonHates$Soup;I)I"⟩
def RX8 : String := "SpoonHates$Soup"
def TX8 : u_T := fun k => match k with
  | 0 => ("SpoonHates$Soup", "helpers", "I", false)
  | 1 => ("SpoonHates$Soup", "need", "I", false)
  | 2 => ("SpoonHates$Soup", "noon", "I", false)
  | 3 => ("SpoonHates$Soup", "step", "I", false)
  | 4 => ("SpoonHates$Soup", "done", "I", false)
  | 5 => ("SpoonHates$Soup", "isSet", "Z", false)
  | 6 => ("SpoonHates$Soup", "kinds", "[I", true)
  | _ => ("SpoonHates$Soup", "hatreds", "[I", true)
def tyX8 : Nat → FieldType := fun k => match k with
  | 0 => .int
  | 1 => .int
  | 2 => .int
  | 3 => .int
  | 4 => .int
  | 5 => .boolean
  | 6 => .array .int
  | _ => .array .int
abbrev wsX80 : List Cond := u_ws RX8 TX8 8
theorem nmX8 : ∀ a, a < 8 → ∀ b, b < 8 → a ≠ b → (TX8 a).2.1 ≠ (TX8 b).2.1 := by decide +kernel
theorem tyX8_ok : ∀ k, k < 8 → parseFieldDescriptor (TX8 k).2.2.1 = some (tyX8 k) := by decide +kernel
abbrev cX8_init : ByteArray := prog_10_method_1_code
def yX8_init : MethodName := ⟨RX8, "<init>", "()V"⟩
abbrev cX8_copyFrom : ByteArray := prog_10_method_2_code
def yX8_copyFrom : MethodName := ⟨RX8, "copyFrom", "(LSpoonHates$Soup;)V"⟩
abbrev cX8_isHelper : ByteArray := prog_10_method_3_code
def yX8_isHelper : MethodName := ⟨RX8, "isHelper", "(I)Z"⟩
abbrev cX8_areTwo : ByteArray := prog_10_method_4_code
def yX8_areTwo : MethodName := ⟨RX8, "areTwo", "(II)Z"⟩
abbrev cX8_hatredOf : ByteArray := prog_10_method_5_code
def yX8_hatredOf : MethodName := ⟨RX8, "hatredOf", "(II)I"⟩
abbrev cX8_setHatred : ByteArray := prog_10_method_6_code
def yX8_setHatred : MethodName := ⟨RX8, "setHatred", "(III)V"⟩
abbrev cX8_feelingOf : ByteArray := prog_10_method_7_code
def yX8_feelingOf : MethodName := ⟨RX8, "feelingOf", "(II)I"⟩
abbrev cX8_turnOf : ByteArray := prog_10_method_8_code
def yX8_turnOf : MethodName := ⟨RX8, "turnOf", "(II)I"⟩
abbrev cX8_canBeStirred : ByteArray := prog_10_method_9_code
def yX8_canBeStirred : MethodName := ⟨RX8, "canBeStirred", "()Z"⟩
abbrev cX8_stirOnce : ByteArray := prog_10_method_10_code
def yX8_stirOnce : MethodName := ⟨RX8, "stirOnce", "(II)V"⟩
abbrev cX8_cool : ByteArray := prog_10_method_11_code
def yX8_cool : MethodName := ⟨RX8, "cool", "(II)V"⟩
abbrev cX8_stirsIfMay : ByteArray := prog_10_method_12_code
def yX8_stirsIfMay : MethodName := ⟨RX8, "stirsIfMay", "(II)Z"⟩
abbrev cX8_forgiveAll : ByteArray := prog_10_method_13_code
def yX8_forgiveAll : MethodName := ⟨RX8, "forgiveAll", "(I)I"⟩
abbrev cX8_allHatred : ByteArray := prog_10_method_14_code
def yX8_allHatred : MethodName := ⟨RX8, "allHatred", "()I"⟩
def RX9 : String := "SpoonHates$Tape"
def TX9 : u_T := fun k => match k with
  | 0 => ("SpoonHates$Tape", "bytes", "[B", true)
  | 1 => ("SpoonHates$Tape", "length", "I", false)
  | 2 => ("SpoonHates$Tape", "start", "I", false)
  | _ => ("SpoonHates$Tape", "next", "I", false)
def tyX9 : Nat → FieldType := fun k => match k with
  | 0 => .array .byte
  | 1 => .int
  | 2 => .int
  | _ => .int
abbrev wsX90 : List Cond := u_ws RX9 TX9 4
theorem nmX9 : ∀ a, a < 4 → ∀ b, b < 4 → a ≠ b → (TX9 a).2.1 ≠ (TX9 b).2.1 := by decide +kernel
theorem tyX9_ok : ∀ k, k < 4 → parseFieldDescriptor (TX9 k).2.2.1 = some (tyX9 k) := by decide +kernel
abbrev cX9_init : ByteArray := prog_11_method_1_code
def yX9_init : MethodName := ⟨RX9, "<init>", "()V"⟩
abbrev cX9_rewind : ByteArray := prog_11_method_2_code
def yX9_rewind : MethodName := ⟨RX9, "rewind", "()V"⟩
abbrev cX9_readToken : ByteArray := prog_11_method_3_code
def yX9_readToken : MethodName := ⟨RX9, "readToken", "()I"⟩
abbrev cX9_number : ByteArray := prog_11_method_4_code
def yX9_number : MethodName := ⟨RX9, "number", "()I"⟩
abbrev cX9_isName : ByteArray := prog_11_method_5_code
def yX9_isName : MethodName := ⟨RX9, "isName", "(Ljava/lang/String;)Z"⟩
def RX10 : String := "SpoonHates"
def TX10 : u_T := fun k => match k with
  | 0 => ("SpoonHates", "now", "LSpoonHates$Kitchen;", true)
  | 1 => ("SpoonHates", "images", "[LSpoonHates$Kitchen;", true)
  | 2 => ("SpoonHates", "kept", "I", false)
  | 3 => ("SpoonHates", "reader", "LSpoonHates$Reader;", true)
  | 4 => ("SpoonHates", "tape", "LSpoonHates$Tape;", true)
  | 5 => ("SpoonHates", "trial", "LSpoonHates$Soup;", true)
  | 6 => ("SpoonHates", "rows", "LSpoonHates$Rows;", true)
  | 7 => ("SpoonHates", "pairing", "LSpoonHates$Match;", true)
  | 8 => ("SpoonHates", "sheets", "[LSpoonHates$Sheet;", true)
  | 9 => ("SpoonHates", "textFault", "I", false)
  | _ => ("SpoonHates", "sheetFault", "I", false)
def tyX10 : Nat → FieldType := fun k => match k with
  | 0 => .object "SpoonHates$Kitchen"
  | 1 => .array (.object "SpoonHates$Kitchen")
  | 2 => .int
  | 3 => .object "SpoonHates$Reader"
  | 4 => .object "SpoonHates$Tape"
  | 5 => .object "SpoonHates$Soup"
  | 6 => .object "SpoonHates$Rows"
  | 7 => .object "SpoonHates$Match"
  | 8 => .array (.object "SpoonHates$Sheet")
  | 9 => .int
  | _ => .int
abbrev wsX100 : List Cond := u_ws RX10 TX10 11
theorem nmX10 : ∀ a, a < 11 → ∀ b, b < 11 → a ≠ b → (TX10 a).2.1 ≠ (TX10 b).2.1 := by decide +kernel
theorem tyX10_ok : ∀ k, k < 11 → parseFieldDescriptor (TX10 k).2.2.1 = some (tyX10 k) := by decide +kernel
abbrev cX10_init : ByteArray := prog_1_method_1_code
def yX10_init : MethodName := ⟨RX10, "<init>", "()V"⟩
abbrev cX10_feed : ByteArray := prog_1_method_2_code
def yX10_feed : MethodName := ⟨RX10, "feed", "(I)I"⟩
abbrev cX10_end : ByteArray := prog_1_method_3_code
def yX10_end : MethodName := ⟨RX10, "end", "(I)I"⟩
abbrev cX10_text : ByteArray := prog_1_method_4_code
def yX10_text : MethodName := ⟨RX10, "text", "()I"⟩
abbrev cX10_fault : ByteArray := prog_1_method_5_code
def yX10_fault : MethodName := ⟨RX10, "fault", "()I"⟩
abbrev cX10_rule : ByteArray := prog_1_method_6_code
def yX10_rule : MethodName := ⟨RX10, "rule", "(I)I"⟩
abbrev cX10_helper : ByteArray := prog_1_method_7_code
def yX10_helper : MethodName := ⟨RX10, "helper", "(I)I"⟩
abbrev cX10_hatred : ByteArray := prog_1_method_8_code
def yX10_hatred : MethodName := ⟨RX10, "hatred", "(III)I"⟩
abbrev cX10_slip : ByteArray := prog_1_method_9_code
def yX10_slip : MethodName := ⟨RX10, "slip", "(II)I"⟩
abbrev cX10_plan : ByteArray := prog_1_method_10_code
def yX10_plan : MethodName := ⟨RX10, "plan", "(I)I"⟩
abbrev cX10_hate : ByteArray := prog_1_method_11_code
def yX10_hate : MethodName := ⟨RX10, "hate", "(III)I"⟩
abbrev cX10_use : ByteArray := prog_1_method_12_code
def yX10_use : MethodName := ⟨RX10, "use", "(I)I"⟩
abbrev cX10_tell : ByteArray := prog_1_method_13_code
def yX10_tell : MethodName := ⟨RX10, "tell", "(II)I"⟩
abbrev cX10_forgive : ByteArray := prog_1_method_14_code
def yX10_forgive : MethodName := ⟨RX10, "forgive", "(I)I"⟩
abbrev cX10_teach : ByteArray := prog_1_method_15_code
def yX10_teach : MethodName := ⟨RX10, "teach", "(II)I"⟩
abbrev cX10_set : ByteArray := prog_1_method_16_code
def yX10_set : MethodName := ⟨RX10, "set", "(II)I"⟩
abbrev cX10_changeNeed : ByteArray := prog_1_method_17_code
def yX10_changeNeed : MethodName := ⟨RX10, "changeNeed", "(I)I"⟩
abbrev cX10_changeNoon : ByteArray := prog_1_method_18_code
def yX10_changeNoon : MethodName := ⟨RX10, "changeNoon", "(I)I"⟩
abbrev cX10_plans : ByteArray := prog_1_method_19_code
def yX10_plans : MethodName := ⟨RX10, "plans", "(II)I"⟩
abbrev cX10_cut : ByteArray := prog_1_method_20_code
def yX10_cut : MethodName := ⟨RX10, "cut", "(I)I"⟩
abbrev cX10_turn : ByteArray := prog_1_method_21_code
def yX10_turn : MethodName := ⟨RX10, "turn", "(II)I"⟩
abbrev cX10_stir : ByteArray := prog_1_method_22_code
def yX10_stir : MethodName := ⟨RX10, "stir", "(II)I"⟩
abbrev cX10_runs : ByteArray := prog_1_method_23_code
def yX10_runs : MethodName := ⟨RX10, "runs", "(I)I"⟩
abbrev cX10_ahead : ByteArray := prog_1_method_24_code
def yX10_ahead : MethodName := ⟨RX10, "ahead", "(III)I"⟩
abbrev cX10_lasts : ByteArray := prog_1_method_25_code
def yX10_lasts : MethodName := ⟨RX10, "lasts", "(II)I"⟩
abbrev cX10_three : ByteArray := prog_1_method_26_code
def yX10_three : MethodName := ⟨RX10, "three", "(III)I"⟩
abbrev cX10_leastRound : ByteArray := prog_1_method_27_code
def yX10_leastRound : MethodName := ⟨RX10, "leastRound", "(III)I"⟩
abbrev cX10_best : ByteArray := prog_1_method_28_code
def yX10_best : MethodName := ⟨RX10, "best", "(II)I"⟩
abbrev cX10_few : ByteArray := prog_1_method_29_code
def yX10_few : MethodName := ⟨RX10, "few", "(I)I"⟩
abbrev cX10_asksPlaceInRow : ByteArray := prog_1_method_30_code
def yX10_asksPlaceInRow : MethodName := ⟨RX10, "asksPlaceInRow", "(I)Z"⟩
abbrev cX10_slips : ByteArray := prog_1_method_31_code
def yX10_slips : MethodName := ⟨RX10, "slips", "(I)I"⟩
abbrev cX10_fewestSlips : ByteArray := prog_1_method_32_code
def yX10_fewestSlips : MethodName := ⟨RX10, "fewestSlips", "()I"⟩
abbrev cX10_sufficeForNeed : ByteArray := prog_1_method_33_code
def yX10_sufficeForNeed : MethodName := ⟨RX10, "sufficeForNeed", "(I)Z"⟩
abbrev cX10_mate : ByteArray := prog_1_method_34_code
def yX10_mate : MethodName := ⟨RX10, "mate", "(I)I"⟩
abbrev cX10_match : ByteArray := prog_1_method_35_code
def yX10_match : MethodName := ⟨RX10, "match", "(I)I"⟩
abbrev cX10_see : ByteArray := prog_1_method_36_code
def yX10_see : MethodName := ⟨RX10, "see", "(II)I"⟩
abbrev cX10_forget : ByteArray := prog_1_method_37_code
def yX10_forget : MethodName := ⟨RX10, "forget", "(I)I"⟩
abbrev cX10_fits : ByteArray := prog_1_method_38_code
def yX10_fits : MethodName := ⟨RX10, "fits", "(III)I"⟩
abbrev cX10_wouldBeAsSeen : ByteArray := prog_1_method_39_code
def yX10_wouldBeAsSeen : MethodName := ⟨RX10, "wouldBeAsSeen", "(III)Z"⟩
abbrev cX10_forgave : ByteArray := prog_1_method_40_code
def yX10_forgave : MethodName := ⟨RX10, "forgave", "(I)I"⟩
abbrev cX10_luck : ByteArray := prog_1_method_41_code
def yX10_luck : MethodName := ⟨RX10, "luck", "(IIII)J"⟩
abbrev cX10_mean : ByteArray := prog_1_method_42_code
def yX10_mean : MethodName := ⟨RX10, "mean", "(IIII)J"⟩
abbrev cX10_isLoveAsked : ByteArray := prog_1_method_43_code
def yX10_isLoveAsked : MethodName := ⟨RX10, "isLoveAsked", "(IIII)Z"⟩
abbrev cX10_byLove : ByteArray := prog_1_method_44_code
def yX10_byLove : MethodName := ⟨RX10, "byLove", "(IIIIZ)J"⟩
abbrev cX10_worthOfTrial : ByteArray := prog_1_method_45_code
def yX10_worthOfTrial : MethodName := ⟨RX10, "worthOfTrial", "(Z)I"⟩
abbrev cX10_commonDivisor : ByteArray := prog_1_method_46_code
def yX10_commonDivisor : MethodName := ⟨RX10, "commonDivisor", "(JJ)J"⟩
abbrev cX10_drift : ByteArray := prog_1_method_47_code
def yX10_drift : MethodName := ⟨RX10, "drift", "(III)I"⟩
abbrev cX10_grow : ByteArray := prog_1_method_48_code
def yX10_grow : MethodName := ⟨RX10, "grow", "(I)I"⟩
abbrev cX10_bitsOf : ByteArray := prog_1_method_49_code
def yX10_bitsOf : MethodName := ⟨RX10, "bitsOf", "(I)I"⟩
abbrev cX10_keep : ByteArray := prog_1_method_50_code
def yX10_keep : MethodName := ⟨RX10, "keep", "(I)I"⟩
abbrev cX10_back : ByteArray := prog_1_method_51_code
def yX10_back : MethodName := ⟨RX10, "back", "(I)I"⟩
abbrev cX10_sheet : ByteArray := prog_1_method_52_code
def yX10_sheet : MethodName := ⟨RX10, "sheet", "(III)I"⟩
abbrev cX10_lay : ByteArray := prog_1_method_53_code
def yX10_lay : MethodName := ⟨RX10, "lay", "(III)I"⟩
abbrev cX10_read : ByteArray := prog_1_method_54_code
def yX10_read : MethodName := ⟨RX10, "read", "(IIII)I"⟩
abbrev cX10_torn : ByteArray := prog_1_method_55_code
def yX10_torn : MethodName := ⟨RX10, "torn", "()I"⟩
abbrev cX10_count : ByteArray := prog_1_method_56_code
def yX10_count : MethodName := ⟨RX10, "count", "(I)I"⟩
abbrev cX10_isWithin : ByteArray := prog_1_method_57_code
def yX10_isWithin : MethodName := ⟨RX10, "isWithin", "(III)Z"⟩
def RX11 : String := "SpoonHatesModel"
def TX11 : u_T := fun k => match k with
  | 0 => ("SpoonHatesModel", "st", "[I", true)
  | 1 => ("SpoonHatesModel", "at", "[I", true)
  | 2 => ("SpoonHatesModel", "isKept", "[Z", true)
  | 3 => ("SpoonHatesModel", "helpers", "I", false)
  | 4 => ("SpoonHatesModel", "slipMany", "I", false)
  | 5 => ("SpoonHatesModel", "slipOnes", "[I", true)
  | 6 => ("SpoonHatesModel", "slipOthers", "[I", true)
  | 7 => ("SpoonHatesModel", "slipCauses", "[I", true)
  | 8 => ("SpoonHatesModel", "draft", "[I", true)
  | 9 => ("SpoonHatesModel", "dHelpers", "I", false)
  | 10 => ("SpoonHatesModel", "dSlips", "I", false)
  | 11 => ("SpoonHatesModel", "dSlipOnes", "[I", true)
  | 12 => ("SpoonHatesModel", "dSlipOthers", "[I", true)
  | 13 => ("SpoonHatesModel", "dSlipCauses", "[I", true)
  | 14 => ("SpoonHatesModel", "hasPot", "Z", false)
  | 15 => ("SpoonHatesModel", "toldHates", "I", false)
  | 16 => ("SpoonHatesModel", "highest", "I", false)
  | 17 => ("SpoonHatesModel", "tape", "[I", true)
  | 18 => ("SpoonHatesModel", "taped", "I", false)
  | 19 => ("SpoonHatesModel", "pos", "I", false)
  | 20 => ("SpoonHatesModel", "from", "I", false)
  | 21 => ("SpoonHatesModel", "sort", "I", false)
  | 22 => ("SpoonHatesModel", "value", "I", false)
  | 23 => ("SpoonHatesModel", "fault", "I", false)
  | 24 => ("SpoonHatesModel", "wrongAt", "I", false)
  | 25 => ("SpoonHatesModel", "passedOver", "I", false)
  | 26 => ("SpoonHatesModel", "allPairs", "[I", true)
  | 27 => ("SpoonHatesModel", "with", "[I", true)
  | 28 => ("SpoonHatesModel", "all", "J", false)
  | 29 => ("SpoonHatesModel", "doneSum", "J", false)
  | 30 => ("SpoonHatesModel", "enoughSum", "J", false)
  | 31 => ("SpoonHatesModel", "lanes", "[I", true)
  | 32 => ("SpoonHatesModel", "sizes", "[I", true)
  | 33 => ("SpoonHatesModel", "cells", "[I", true)
  | 34 => ("SpoonHatesModel", "torn", "I", false)
  | _ => ("SpoonHatesModel", "had", "[I", true)
def tyX11 : Nat → FieldType := fun k => match k with
  | 0 => .array .int
  | 1 => .array .int
  | 2 => .array .boolean
  | 3 => .int
  | 4 => .int
  | 5 => .array .int
  | 6 => .array .int
  | 7 => .array .int
  | 8 => .array .int
  | 9 => .int
  | 10 => .int
  | 11 => .array .int
  | 12 => .array .int
  | 13 => .array .int
  | 14 => .boolean
  | 15 => .int
  | 16 => .int
  | 17 => .array .int
  | 18 => .int
  | 19 => .int
  | 20 => .int
  | 21 => .int
  | 22 => .int
  | 23 => .int
  | 24 => .int
  | 25 => .int
  | 26 => .array .int
  | 27 => .array .int
  | 28 => .long
  | 29 => .long
  | 30 => .long
  | 31 => .array .int
  | 32 => .array .int
  | 33 => .array .int
  | 34 => .int
  | _ => .array .int
abbrev wsX110 : List Cond := u_ws RX11 TX11 36
theorem nmX11 : ∀ a, a < 36 → ∀ b, b < 36 → a ≠ b → (TX11 a).2.1 ≠ (TX11 b).2.1 := by decide +kernel
theorem tyX11_ok : ∀ k, k < 36 → parseFieldDescriptor (TX11 k).2.2.1 = some (tyX11 k) := by decide +kernel
abbrev cX11_init : ByteArray := prog_13_method_1_code
def yX11_init : MethodName := ⟨RX11, "<init>", "()V"⟩
abbrev cX11_in : ByteArray := prog_13_method_3_code
def yX11_in : MethodName := ⟨RX11, "in", "(JJJ)Z"⟩
abbrev cX11_flag : ByteArray := prog_13_method_4_code
def yX11_flag : MethodName := ⟨RX11, "flag", "(Z)I"⟩
abbrev cX11_firstDraft : ByteArray := prog_13_method_5_code
def yX11_firstDraft : MethodName := ⟨RX11, "firstDraft", "()V"⟩
abbrev cX11_keepDraft : ByteArray := prog_13_method_6_code
def yX11_keepDraft : MethodName := ⟨RX11, "keepDraft", "()V"⟩
abbrev cX11_feed : ByteArray := prog_13_method_7_code
def yX11_feed : MethodName := ⟨RX11, "feed", "(I)I"⟩
abbrev cX11_end : ByteArray := prog_13_method_8_code
def yX11_end : MethodName := ⟨RX11, "end", "(I)I"⟩
abbrev cX11_needs : ByteArray := prog_13_method_9_code
def yX11_needs : MethodName := ⟨RX11, "needs", "(ZI)V"⟩
abbrev cX11_byteAt : ByteArray := prog_13_method_10_code
def yX11_byteAt : MethodName := ⟨RX11, "byteAt", "(I)I"⟩
abbrev cX11_is : ByteArray := prog_13_method_11_code
def yX11_is : MethodName := ⟨RX11, "is", "(IIII)Z"⟩
abbrev cX11_ends : ByteArray := prog_13_method_12_code
def yX11_ends : MethodName := ⟨RX11, "ends", "(IIII)Z"⟩
abbrev cX11_lineNow : ByteArray := prog_13_method_13_code
def yX11_lineNow : MethodName := ⟨RX11, "lineNow", "()I"⟩
abbrev cX11_next : ByteArray := prog_13_method_14_code
def yX11_next : MethodName := ⟨RX11, "next", "()V"⟩
abbrev cX11_looked : ByteArray := prog_13_method_15_code
def yX11_looked : MethodName := ⟨RX11, "looked", "(II)I"⟩
abbrev cX11_readNumber : ByteArray := prog_13_method_16_code
def yX11_readNumber : MethodName := ⟨RX11, "readNumber", "(II)I"⟩
abbrev cX11_readHelper : ByteArray := prog_13_method_17_code
def yX11_readHelper : MethodName := ⟨RX11, "readHelper", "()I"⟩
abbrev cX11_readOther : ByteArray := prog_13_method_18_code
def yX11_readOther : MethodName := ⟨RX11, "readOther", "(IZZ)I"⟩
abbrev cX11_readHate : ByteArray := prog_13_method_19_code
def yX11_readHate : MethodName := ⟨RX11, "readHate", "(Z)V"⟩
abbrev cX11_readSlip : ByteArray := prog_13_method_20_code
def yX11_readSlip : MethodName := ⟨RX11, "readSlip", "()V"⟩
abbrev cX11_pairOf : ByteArray := prog_13_method_21_code
def yX11_pairOf : MethodName := ⟨RX11, "pairOf", "(II)I"⟩
abbrev cX11_readPlan : ByteArray := prog_13_method_22_code
def yX11_readPlan : MethodName := ⟨RX11, "readPlan", "()V"⟩
abbrev cX11_readLineOf : ByteArray := prog_13_method_23_code
def yX11_readLineOf : MethodName := ⟨RX11, "readLineOf", "(I)V"⟩
abbrev cX11_readLine : ByteArray := prog_13_method_24_code
def yX11_readLine : MethodName := ⟨RX11, "readLine", "()V"⟩
abbrev cX11_text : ByteArray := prog_13_method_25_code
def yX11_text : MethodName := ⟨RX11, "text", "()I"⟩
abbrev cX11_fault : ByteArray := prog_13_method_26_code
def yX11_fault : MethodName := ⟨RX11, "fault", "()I"⟩
abbrev cX11_isHelper : ByteArray := prog_13_method_27_code
def yX11_isHelper : MethodName := ⟨RX11, "isHelper", "(I)Z"⟩
abbrev cX11_areTwo : ByteArray := prog_13_method_28_code
def yX11_areTwo : MethodName := ⟨RX11, "areTwo", "(II)Z"⟩
abbrev cX11_isSlip : ByteArray := prog_13_method_29_code
def yX11_isSlip : MethodName := ⟨RX11, "isSlip", "(I)Z"⟩
abbrev cX11_isPart : ByteArray := prog_13_method_30_code
def yX11_isPart : MethodName := ⟨RX11, "isPart", "(I)Z"⟩
abbrev cX11_starts : ByteArray := prog_13_method_31_code
def yX11_starts : MethodName := ⟨RX11, "starts", "()V"⟩
abbrev cX11_settles : ByteArray := prog_13_method_32_code
def yX11_settles : MethodName := ⟨RX11, "settles", "()V"⟩
abbrev cX11_hates : ByteArray := prog_13_method_33_code
def yX11_hates : MethodName := ⟨RX11, "hates", "(II)I"⟩
abbrev cX11_becomesHate : ByteArray := prog_13_method_34_code
def yX11_becomesHate : MethodName := ⟨RX11, "becomesHate", "(III)V"⟩
abbrev cX11_feels : ByteArray := prog_13_method_35_code
def yX11_feels : MethodName := ⟨RX11, "feels", "(II)I"⟩
abbrev cX11_least : ByteArray := prog_13_method_36_code
def yX11_least : MethodName := ⟨RX11, "least", "(II)I"⟩
abbrev cX11_turnOf : ByteArray := prog_13_method_37_code
def yX11_turnOf : MethodName := ⟨RX11, "turnOf", "(II)I"⟩
abbrev cX11_coolsBy : ByteArray := prog_13_method_38_code
def yX11_coolsBy : MethodName := ⟨RX11, "coolsBy", "(I)I"⟩
abbrev cX11_coolsOff : ByteArray := prog_13_method_39_code
def yX11_coolsOff : MethodName := ⟨RX11, "coolsOff", "(II)V"⟩
abbrev cX11_stirsOn : ByteArray := prog_13_method_40_code
def yX11_stirsOn : MethodName := ⟨RX11, "stirsOn", "(II)Z"⟩
abbrev cX11_stirs : ByteArray := prog_13_method_41_code
def yX11_stirs : MethodName := ⟨RX11, "stirs", "(II)Z"⟩
abbrev cX11_allHate : ByteArray := prog_13_method_42_code
def yX11_allHate : MethodName := ⟨RX11, "allHate", "()I"⟩
abbrev cX11_plansGo : ByteArray := prog_13_method_43_code
def yX11_plansGo : MethodName := ⟨RX11, "plansGo", "()V"⟩
abbrev cX11_rule : ByteArray := prog_13_method_44_code
def yX11_rule : MethodName := ⟨RX11, "rule", "(I)I"⟩
abbrev cX11_helper : ByteArray := prog_13_method_45_code
def yX11_helper : MethodName := ⟨RX11, "helper", "(I)I"⟩
abbrev cX11_hatred : ByteArray := prog_13_method_46_code
def yX11_hatred : MethodName := ⟨RX11, "hatred", "(III)I"⟩
abbrev cX11_slip : ByteArray := prog_13_method_47_code
def yX11_slip : MethodName := ⟨RX11, "slip", "(II)I"⟩
abbrev cX11_plan : ByteArray := prog_13_method_48_code
def yX11_plan : MethodName := ⟨RX11, "plan", "(I)I"⟩
abbrev cX11_becomes : ByteArray := prog_13_method_49_code
def yX11_becomes : MethodName := ⟨RX11, "becomes", "(II)I"⟩
abbrev cX11_hate : ByteArray := prog_13_method_50_code
def yX11_hate : MethodName := ⟨RX11, "hate", "(III)I"⟩
abbrev cX11_uses : ByteArray := prog_13_method_51_code
def yX11_uses : MethodName := ⟨RX11, "uses", "(I)V"⟩
abbrev cX11_use : ByteArray := prog_13_method_52_code
def yX11_use : MethodName := ⟨RX11, "use", "(I)I"⟩
abbrev cX11_tell : ByteArray := prog_13_method_53_code
def yX11_tell : MethodName := ⟨RX11, "tell", "(II)I"⟩
abbrev cX11_forgive : ByteArray := prog_13_method_54_code
def yX11_forgive : MethodName := ⟨RX11, "forgive", "(I)I"⟩
abbrev cX11_teach : ByteArray := prog_13_method_55_code
def yX11_teach : MethodName := ⟨RX11, "teach", "(II)I"⟩
abbrev cX11_set : ByteArray := prog_13_method_56_code
def yX11_set : MethodName := ⟨RX11, "set", "(II)I"⟩
abbrev cX11_plans : ByteArray := prog_13_method_57_code
def yX11_plans : MethodName := ⟨RX11, "plans", "(II)I"⟩
abbrev cX11_cut : ByteArray := prog_13_method_58_code
def yX11_cut : MethodName := ⟨RX11, "cut", "(I)I"⟩
abbrev cX11_turn : ByteArray := prog_13_method_59_code
def yX11_turn : MethodName := ⟨RX11, "turn", "(II)I"⟩
abbrev cX11_stir : ByteArray := prog_13_method_60_code
def yX11_stir : MethodName := ⟨RX11, "stir", "(II)I"⟩
abbrev cX11_runs : ByteArray := prog_13_method_61_code
def yX11_runs : MethodName := ⟨RX11, "runs", "(I)I"⟩
abbrev cX11_ahead : ByteArray := prog_13_method_62_code
def yX11_ahead : MethodName := ⟨RX11, "ahead", "(III)I"⟩
abbrev cX11_lasts : ByteArray := prog_13_method_63_code
def yX11_lasts : MethodName := ⟨RX11, "lasts", "(II)I"⟩
abbrev cX11_three : ByteArray := prog_13_method_64_code
def yX11_three : MethodName := ⟨RX11, "three", "(III)I"⟩
abbrev cX11_pairs : ByteArray := prog_13_method_65_code
def yX11_pairs : MethodName := ⟨RX11, "pairs", "()I"⟩
abbrev cX11_pairAt : ByteArray := prog_13_method_66_code
def yX11_pairAt : MethodName := ⟨RX11, "pairAt", "(I)I"⟩
abbrev cX11_rowsOf : ByteArray := prog_13_method_67_code
def yX11_rowsOf : MethodName := ⟨RX11, "rowsOf", "(I)I"⟩
abbrev cX11_pairIn : ByteArray := prog_13_method_68_code
def yX11_pairIn : MethodName := ⟨RX11, "pairIn", "(III)I"⟩
abbrev cX11_stirsRow : ByteArray := prog_13_method_69_code
def yX11_stirsRow : MethodName := ⟨RX11, "stirsRow", "(II)V"⟩
abbrev cX11_findPairs : ByteArray := prog_13_method_70_code
def yX11_findPairs : MethodName := ⟨RX11, "findPairs", "()V"⟩
abbrev cX11_best : ByteArray := prog_13_method_71_code
def yX11_best : MethodName := ⟨RX11, "best", "(II)I"⟩
abbrev cX11_few : ByteArray := prog_13_method_72_code
def yX11_few : MethodName := ⟨RX11, "few", "(I)I"⟩
abbrev cX11_bitsOf : ByteArray := prog_13_method_73_code
def yX11_bitsOf : MethodName := ⟨RX11, "bitsOf", "(I)I"⟩
abbrev cX11_slips : ByteArray := prog_13_method_74_code
def yX11_slips : MethodName := ⟨RX11, "slips", "(I)I"⟩
abbrev cX11_mate : ByteArray := prog_13_method_75_code
def yX11_mate : MethodName := ⟨RX11, "mate", "(I)I"⟩
abbrev cX11_codes : ByteArray := prog_13_method_76_code
def yX11_codes : MethodName := ⟨RX11, "codes", "()I"⟩
abbrev cX11_isMatch : ByteArray := prog_13_method_77_code
def yX11_isMatch : MethodName := ⟨RX11, "isMatch", "(I)Z"⟩
abbrev cX11_turnsNow : ByteArray := prog_13_method_78_code
def yX11_turnsNow : MethodName := ⟨RX11, "turnsNow", "()I"⟩
abbrev cX11_match : ByteArray := prog_13_method_79_code
def yX11_match : MethodName := ⟨RX11, "match", "(I)I"⟩
abbrev cX11_see : ByteArray := prog_13_method_80_code
def yX11_see : MethodName := ⟨RX11, "see", "(II)I"⟩
abbrev cX11_forget : ByteArray := prog_13_method_81_code
def yX11_forget : MethodName := ⟨RX11, "forget", "(I)I"⟩
abbrev cX11_isSo : ByteArray := prog_13_method_82_code
def yX11_isSo : MethodName := ⟨RX11, "isSo", "(IIII)Z"⟩
abbrev cX11_fits : ByteArray := prog_13_method_83_code
def yX11_fits : MethodName := ⟨RX11, "fits", "(III)I"⟩
abbrev cX11_forgave : ByteArray := prog_13_method_84_code
def yX11_forgave : MethodName := ⟨RX11, "forgave", "(I)I"⟩
abbrev cX11_common : ByteArray := prog_13_method_85_code
def yX11_common : MethodName := ⟨RX11, "common", "(JJ)J"⟩
abbrev cX11_told : ByteArray := prog_13_method_86_code
def yX11_told : MethodName := ⟨RX11, "told", "(JJI)J"⟩
abbrev cX11_adds : ByteArray := prog_13_method_87_code
def yX11_adds : MethodName := ⟨RX11, "adds", "(J)V"⟩
abbrev cX11_findLove : ByteArray := prog_13_method_88_code
def yX11_findLove : MethodName := ⟨RX11, "findLove", "(III)V"⟩
abbrev cX11_luck : ByteArray := prog_13_method_89_code
def yX11_luck : MethodName := ⟨RX11, "luck", "(IIII)J"⟩
abbrev cX11_mean : ByteArray := prog_13_method_90_code
def yX11_mean : MethodName := ⟨RX11, "mean", "(IIII)J"⟩
abbrev cX11_drift : ByteArray := prog_13_method_91_code
def yX11_drift : MethodName := ⟨RX11, "drift", "(III)I"⟩
abbrev cX11_copies : ByteArray := prog_13_method_92_code
def yX11_copies : MethodName := ⟨RX11, "copies", "(II)V"⟩
abbrev cX11_keep : ByteArray := prog_13_method_93_code
def yX11_keep : MethodName := ⟨RX11, "keep", "(I)I"⟩
abbrev cX11_back : ByteArray := prog_13_method_94_code
def yX11_back : MethodName := ⟨RX11, "back", "(I)I"⟩
abbrev cX11_isSheet : ByteArray := prog_13_method_95_code
def yX11_isSheet : MethodName := ⟨RX11, "isSheet", "(II)Z"⟩
abbrev cX11_sheet : ByteArray := prog_13_method_96_code
def yX11_sheet : MethodName := ⟨RX11, "sheet", "(III)I"⟩
abbrev cX11_lay : ByteArray := prog_13_method_97_code
def yX11_lay : MethodName := ⟨RX11, "lay", "(III)I"⟩
abbrev cX11_read : ByteArray := prog_13_method_98_code
def yX11_read : MethodName := ⟨RX11, "read", "(IIII)I"⟩
abbrev cX11_torn : ByteArray := prog_13_method_99_code
def yX11_torn : MethodName := ⟨RX11, "torn", "()I"⟩
abbrev cX11_count : ByteArray := prog_13_method_100_code
def yX11_count : MethodName := ⟨RX11, "count", "(I)I"⟩
def RJ6 : String := "java/lang/Integer"
def TJ6 : u_T := fun k => match k with
  | _ => ("", "", "", false)
def tyJ6 : Nat → FieldType := fun k => match k with
  | _ => .int
abbrev wsJ60 : List Cond := u_ws RJ6 TJ6 0
theorem nmJ6 : ∀ a, a < 0 → ∀ b, b < 0 → a ≠ b → (TJ6 a).2.1 ≠ (TJ6 b).2.1 := by decide +kernel
theorem tyJ6_ok : ∀ k, k < 0 → parseFieldDescriptor (TJ6 k).2.2.1 = some (tyJ6 k) := by decide +kernel
abbrev cJ6_bitCount_0f7a4 : ByteArray := prog_14_method_49_code
def yJ6_bitCount_0f7a4 : MethodName := ⟨RJ6, "bitCount", "(I)I"⟩
def RJ9 : String := "java/lang/Math"
def TJ9 : u_T := fun k => match k with
  | _ => ("", "", "", false)
def tyJ9 : Nat → FieldType := fun k => match k with
  | _ => .int
abbrev wsJ90 : List Cond := u_ws RJ9 TJ9 0
theorem nmJ9 : ∀ a, a < 0 → ∀ b, b < 0 → a ≠ b → (TJ9 a).2.1 ≠ (TJ9 b).2.1 := by decide +kernel
theorem tyJ9_ok : ∀ k, k < 0 → parseFieldDescriptor (TJ9 k).2.2.1 = some (tyJ9 k) := by decide +kernel
abbrev cJ9_max_7cf53 : ByteArray := prog_15_method_65_code
def yJ9_max_7cf53 : MethodName := ⟨RJ9, "max", "(II)I"⟩
abbrev cJ9_min_7cf53 : ByteArray := prog_15_method_69_code
def yJ9_min_7cf53 : MethodName := ⟨RJ9, "min", "(II)I"⟩
def RJ0 : String := "java/lang/String"
def TJ0 : u_T := fun k => match k with
  | _ => ("", "", "", false)
def tyJ0 : Nat → FieldType := fun k => match k with
  | _ => .int
abbrev wsJ00 : List Cond := u_ws RJ0 TJ0 0
theorem nmJ0 : ∀ a, a < 0 → ∀ b, b < 0 → a ≠ b → (TJ0 a).2.1 ≠ (TJ0 b).2.1 := by decide +kernel
theorem tyJ0_ok : ∀ k, k < 0 → parseFieldDescriptor (TJ0 k).2.2.1 = some (tyJ0 k) := by decide +kernel
abbrev cJ0_length_8abf5 : ByteArray := prog_16_method_54_code
def yJ0_length_8abf5 : MethodName := ⟨RJ0, "length", "()I"⟩
abbrev cJ0_charAt_5068e : ByteArray := prog_16_method_56_code
def yJ0_charAt_5068e : MethodName := ⟨RJ0, "charAt", "(I)C"⟩
abbrev cJ0_coder_7d493 : ByteArray := prog_16_method_152_code
def yJ0_coder_7d493 : MethodName := ⟨RJ0, "coder", "()B"⟩
abbrev cJ0_isLatin1_aae02 : ByteArray := prog_16_method_154_code
def yJ0_isLatin1_aae02 : MethodName := ⟨RJ0, "isLatin1", "()Z"⟩
abbrev cJ0_checkIndex_df160 : ByteArray := prog_16_method_155_code
def yJ0_checkIndex_df160 : MethodName := ⟨RJ0, "checkIndex", "(II)V"⟩
def RJ1 : String := "java/lang/StringLatin1"
def TJ1 : u_T := fun k => match k with
  | _ => ("", "", "", false)
def tyJ1 : Nat → FieldType := fun k => match k with
  | _ => .int
abbrev wsJ10 : List Cond := u_ws RJ1 TJ1 0
theorem nmJ1 : ∀ a, a < 0 → ∀ b, b < 0 → a ≠ b → (TJ1 a).2.1 ≠ (TJ1 b).2.1 := by decide +kernel
theorem tyJ1_ok : ∀ k, k < 0 → parseFieldDescriptor (TJ1 k).2.2.1 = some (tyJ1 k) := by decide +kernel
abbrev cJ1_charAt_3b067 : ByteArray := prog_17_method_2_code
def yJ1_charAt_3b067 : MethodName := ⟨RJ1, "charAt", "([BI)C"⟩
def RJ2 : String := "java/lang/StringUTF16"
def TJ2 : u_T := fun k => match k with
  | _ => ("", "", "", false)
def tyJ2 : Nat → FieldType := fun k => match k with
  | _ => .int
abbrev wsJ20 : List Cond := u_ws RJ2 TJ2 0
theorem nmJ2 : ∀ a, a < 0 → ∀ b, b < 0 → a ≠ b → (TJ2 a).2.1 ≠ (TJ2 b).2.1 := by decide +kernel
theorem tyJ2_ok : ∀ k, k < 0 → parseFieldDescriptor (TJ2 k).2.2.1 = some (tyJ2 k) := by decide +kernel
abbrev cJ2_getChar_3b067 : ByteArray := prog_18_method_5_code
def yJ2_getChar_3b067 : MethodName := ⟨RJ2, "getChar", "([BI)C"⟩
abbrev cJ2_length_9d52b : ByteArray := prog_18_method_6_code
def yJ2_length_9d52b : MethodName := ⟨RJ2, "length", "([B)I"⟩
abbrev cJ2_charAt_3b067 : ByteArray := prog_18_method_83_code
def yJ2_charAt_3b067 : MethodName := ⟨RJ2, "charAt", "([BI)C"⟩
abbrev cJ2_checkIndex_2214a : ByteArray := prog_18_method_91_code
def yJ2_checkIndex_2214a : MethodName := ⟨RJ2, "checkIndex", "(I[B)V"⟩
def RJ10 : String := "java/lang/System"
def TJ10 : u_T := fun k => match k with
  | _ => ("", "", "", false)
def tyJ10 : Nat → FieldType := fun k => match k with
  | _ => .int
abbrev wsJ100 : List Cond := u_ws RJ10 TJ10 0
theorem nmJ10 : ∀ a, a < 0 → ∀ b, b < 0 → a ≠ b → (TJ10 a).2.1 ≠ (TJ10 b).2.1 := by decide +kernel
theorem tyJ10_ok : ∀ k, k < 0 → parseFieldDescriptor (TJ10 k).2.2.1 = some (tyJ10 k) := by decide +kernel
def RJ3 : String := "jdk/internal/util/Preconditions"
def TJ3 : u_T := fun k => match k with
  | _ => ("", "", "", false)
def tyJ3 : Nat → FieldType := fun k => match k with
  | _ => .int
abbrev wsJ30 : List Cond := u_ws RJ3 TJ3 0
theorem nmJ3 : ∀ a, a < 0 → ∀ b, b < 0 → a ≠ b → (TJ3 a).2.1 ≠ (TJ3 b).2.1 := by decide +kernel
theorem tyJ3_ok : ∀ k, k < 0 → parseFieldDescriptor (TJ3 k).2.2.1 = some (tyJ3 k) := by decide +kernel
abbrev cJ3_checkIndex_8e157 : ByteArray := prog_20_method_11_code
def yJ3_checkIndex_8e157 : MethodName := ⟨RJ3, "checkIndex", "(IILjava/util/function/BiFunction;)I"⟩
def RL : String := "SpoonHatesLaw"
abbrev cL_law : ByteArray := code
def yL_law : MethodName := ⟨RL, "law", "([I)Z"⟩
abbrev vwCl : List vw_C := [(RX0, TX0, 4), (RX1, TX1, 4), (RX2, TX2, 2), (RX3, TX3, 8), (RX4, TX4, 9), (RX5, TX5, 3), (RX6, TX6, 3), (RX7, TX7, 5), (RX8, TX8, 8), (RX9, TX9, 4), (RX10, TX10, 11), (RX11, TX11, 36)]
